/-! printed by wip/whole/gen_c.py: contracts by program -/
def S1_J6_bitCount_0f7a4 (a0 : Int32) (I : SI) (J : SJ) : Int32 := a0 - (((a0.toUInt32 >>> ((1 : Int32).toUInt32 &&& Int32.toUInt32 31)).toInt32) &&& 1431655765)
def S2_J6_bitCount_0f7a4 (a0 : Int32) (I : SI) (J : SJ) : Int32 := ((S1_J6_bitCount_0f7a4 a0 I J).toUInt32 >>> ((2 : Int32).toUInt32 &&& Int32.toUInt32 31)).toInt32
def S3_J6_bitCount_0f7a4 (a0 : Int32) (I : SI) (J : SJ) : Int32 := ((S1_J6_bitCount_0f7a4 a0 I J) &&& 858993459) + ((S2_J6_bitCount_0f7a4 a0 I J) &&& 858993459)
def S4_J6_bitCount_0f7a4 (a0 : Int32) (I : SI) (J : SJ) : Int32 := ((S3_J6_bitCount_0f7a4 a0 I J).toUInt32 >>> ((4 : Int32).toUInt32 &&& Int32.toUInt32 31)).toInt32
def S5_J6_bitCount_0f7a4 (a0 : Int32) (I : SI) (J : SJ) : Int32 := ((((S3_J6_bitCount_0f7a4 a0 I J) + (S4_J6_bitCount_0f7a4 a0 I J)) &&& 252645135).toUInt32 >>> ((8 : Int32).toUInt32 &&& Int32.toUInt32 31)).toInt32
def S6_J6_bitCount_0f7a4 (a0 : Int32) (I : SI) (J : SJ) : Int32 := (((S3_J6_bitCount_0f7a4 a0 I J) + (S4_J6_bitCount_0f7a4 a0 I J)) &&& 252645135) + (S5_J6_bitCount_0f7a4 a0 I J)
def S7_J6_bitCount_0f7a4 (a0 : Int32) (I : SI) (J : SJ) : Int32 := ((S6_J6_bitCount_0f7a4 a0 I J).toUInt32 >>> ((16 : Int32).toUInt32 &&& Int32.toUInt32 31)).toInt32
def F_J6_bitCount_0f7a4 (a0 : Int32) (I : SI) (J : SJ) : Int32 := ((S6_J6_bitCount_0f7a4 a0 I J) + (S7_J6_bitCount_0f7a4 a0 I J)) &&& 63
set_option maxHeartbeats 1000000 in
set_option maxRecDepth 40000 in
theorem c_J6_bitCount_0f7a4 {I : SI} {J : SJ} {R : SR} {n g : Nat} (ro : RO R) (hnn : nK ≤ n) (a0 : Int32)   : MM 0 0 0 mJ6_bitCount_0f7a4 [.int a0] I J R n g (Pd (some (.int (F_J6_bitCount_0f7a4 a0 I J))) I J R n g) := by
  refine MM.of (by decide) (Nat.le_of_ble_eq_true rfl) fun K ok fin => ?_
  show WK K 0 0 0 [(0, .int a0)] [] I J R n g
  refine w_iload_n ok dJ6_bitCount_0f7a4_0 0 rfl ?_
  refine w_iload_n ok dJ6_bitCount_0f7a4_1 0 rfl ?_
  refine w_iconst (v := 1) ok dJ6_bitCount_0f7a4_2 (by decide) ?_
  refine w_iushr ok dJ6_bitCount_0f7a4_3 ?_
  refine w_ldcw ok dJ6_bitCount_0f7a4_4 kJ6_265 ?_
  refine w_iand ok dJ6_bitCount_0f7a4_7 ?_
  refine w_isub ok dJ6_bitCount_0f7a4_8 ?_
  show WK K 0 0 9 [(0, .int a0)] [.int (S1_J6_bitCount_0f7a4 a0 I J)] I J R n g
  refine w_istore_n ok dJ6_bitCount_0f7a4_9 rfl (by decide) rfl ?_
  refine w_iload_n ok dJ6_bitCount_0f7a4_10 0 rfl ?_
  refine w_ldcw ok dJ6_bitCount_0f7a4_11 kJ6_266 ?_
  refine w_iand ok dJ6_bitCount_0f7a4_14 ?_
  refine w_iload_n ok dJ6_bitCount_0f7a4_15 0 rfl ?_
  refine w_iconst (v := 2) ok dJ6_bitCount_0f7a4_16 (by decide) ?_
  refine w_iushr ok dJ6_bitCount_0f7a4_17 ?_
  show WK K 0 0 18 [(0, .int (S1_J6_bitCount_0f7a4 a0 I J))] [.int (S2_J6_bitCount_0f7a4 a0 I J), .int ((S1_J6_bitCount_0f7a4 a0 I J) &&& 858993459)] I J R n g
  refine w_ldcw ok dJ6_bitCount_0f7a4_18 kJ6_266 ?_
  refine w_iand ok dJ6_bitCount_0f7a4_21 ?_
  refine w_iadd ok dJ6_bitCount_0f7a4_22 ?_
  show WK K 0 0 23 [(0, .int (S1_J6_bitCount_0f7a4 a0 I J))] [.int (S3_J6_bitCount_0f7a4 a0 I J)] I J R n g
  refine w_istore_n ok dJ6_bitCount_0f7a4_23 rfl (by decide) rfl ?_
  refine w_iload_n ok dJ6_bitCount_0f7a4_24 0 rfl ?_
  refine w_iload_n ok dJ6_bitCount_0f7a4_25 0 rfl ?_
  refine w_iconst (v := 4) ok dJ6_bitCount_0f7a4_26 (by decide) ?_
  refine w_iushr ok dJ6_bitCount_0f7a4_27 ?_
  show WK K 0 0 28 [(0, .int (S3_J6_bitCount_0f7a4 a0 I J))] [.int (S4_J6_bitCount_0f7a4 a0 I J), .int (S3_J6_bitCount_0f7a4 a0 I J)] I J R n g
  refine w_iadd ok dJ6_bitCount_0f7a4_28 ?_
  refine w_ldcw ok dJ6_bitCount_0f7a4_29 kJ6_267 ?_
  refine w_iand ok dJ6_bitCount_0f7a4_32 ?_
  refine w_istore_n ok dJ6_bitCount_0f7a4_33 rfl (by decide) rfl ?_
  refine w_iload_n ok dJ6_bitCount_0f7a4_34 0 rfl ?_
  refine w_iload_n ok dJ6_bitCount_0f7a4_35 0 rfl ?_
  refine w_bipush (v := 8) ok dJ6_bitCount_0f7a4_36 (by decide) ?_
  refine w_iushr ok dJ6_bitCount_0f7a4_38 ?_
  show WK K 0 0 39 [(0, .int (((S3_J6_bitCount_0f7a4 a0 I J) + (S4_J6_bitCount_0f7a4 a0 I J)) &&& 252645135))] [.int (S5_J6_bitCount_0f7a4 a0 I J), .int (((S3_J6_bitCount_0f7a4 a0 I J) + (S4_J6_bitCount_0f7a4 a0 I J)) &&& 252645135)] I J R n g
  refine w_iadd ok dJ6_bitCount_0f7a4_39 ?_
  show WK K 0 0 40 [(0, .int (((S3_J6_bitCount_0f7a4 a0 I J) + (S4_J6_bitCount_0f7a4 a0 I J)) &&& 252645135))] [.int (S6_J6_bitCount_0f7a4 a0 I J)] I J R n g
  refine w_istore_n ok dJ6_bitCount_0f7a4_40 rfl (by decide) rfl ?_
  refine w_iload_n ok dJ6_bitCount_0f7a4_41 0 rfl ?_
  refine w_iload_n ok dJ6_bitCount_0f7a4_42 0 rfl ?_
  refine w_bipush (v := 16) ok dJ6_bitCount_0f7a4_43 (by decide) ?_
  refine w_iushr ok dJ6_bitCount_0f7a4_45 ?_
  show WK K 0 0 46 [(0, .int (S6_J6_bitCount_0f7a4 a0 I J))] [.int (S7_J6_bitCount_0f7a4 a0 I J), .int (S6_J6_bitCount_0f7a4 a0 I J)] I J R n g
  refine w_iadd ok dJ6_bitCount_0f7a4_46 ?_
  refine w_istore_n ok dJ6_bitCount_0f7a4_47 rfl (by decide) rfl ?_
  refine w_iload_n ok dJ6_bitCount_0f7a4_48 0 rfl ?_
  refine w_bipush (v := 63) ok dJ6_bitCount_0f7a4_49 (by decide) ?_
  refine w_iand ok dJ6_bitCount_0f7a4_51 ?_
  exact w_iret ok fin dJ6_bitCount_0f7a4_52 rfl (by unfold F_J6_bitCount_0f7a4; exact Pd.i)
def S1_X11_write (a0 : Int32) (I : SI) (J : SJ) (s3 : Int32 × SI) : SI := u2 s3.2 1 (s3.2 0 1).toNatClampNeg (vp_nar .byte ((a0 >>> (s3.1 &&& 31)).toInt8.toInt32))
def B_X11_write_w3 (a0 : Int32) (I : SI) (J : SJ) (s3 : Int32 × SI) : (Int32 × SI) ⊕ (Int32 × SI) := if s3.1 < 0 then .inr (s3.1, s3.2) else (if (s3.2 0 1) < 0 then .inl ((s3.1 + (-8)), s3.2) else (if (700 : Int32) ≤ (s3.2 0 1) then .inl ((s3.1 + (-8)), s3.2) else .inl ((s3.1 + (-8)), (u2 (S1_X11_write a0 I J s3) 0 1 ((((S1_X11_write a0 I J s3)) 0 1) + 1)))))
def F_X11_write_w3 (a0 : Int32) (I : SI) (J : SJ) (s0 : Int32 × SI) : Int32 × SI := (itW (B_X11_write_w3 a0 I J) 800 s0).getD s0
def FI_X11_write (a0 : Int32) (I : SI) (J : SJ) : SI := (F_X11_write_w3 a0 I J (24, I)).2
def H_X11_write (a0 : Int32) (I : SI) (J : SJ) : Prop := ((itW (B_X11_write_w3 a0 I J) 800 (24, I)).isSome = true)
set_option maxHeartbeats 1000000 in
set_option maxRecDepth 40000 in
theorem c_X11_write {I : SI} {J : SJ} {R : SR} {n g : Nat} (ro : RO R) (hnn : nK ≤ n) (a0 : Int32)  (hp : H_X11_write a0 I J) : MM 0 0 0 mX11_write [.ref 0, .int a0] I J R n g (Pd none (FI_X11_write a0 I J) J R n g) := by
  refine MM.of (by decide) (Nat.le_of_ble_eq_true rfl) fun K ok fin => ?_
  show WK K 0 0 0 [(0, .ref 0), (1, .int a0)] [] I J R n g
  have hp1 := hp
  refine w_bipush (v := 24) ok dX11_write_0 (by decide) ?_
  refine w_istore_n ok dX11_write_2 rfl (by decide) rfl ?_
  refine w_loc [1, 2, 0] rfl ?_
  refine loop_w (fun (s3 : Int32 × SI) => WK K 0 0 3 [(0, .ref 0), (1, .int a0), (2, .int s3.1)] [] s3.2 J R n g) (fun (s3 : Int32 × SI) => WK K 0 0 55 [(0, .ref 0), (1, .int a0), (2, .int s3.1)] [] s3.2 J R n g) (B_X11_write_w3 a0 I J) 800 (24, I) (F_X11_write_w3 a0 I J (24, I)) (itW_some (hp1)) ?_ ?_
  · show WK K 0 0 55 [(0, .ref 0), (1, .int a0), (2, .int ((F_X11_write_w3 a0 I J (24, I)).1))] [] ((F_X11_write_w3 a0 I J (24, I)).2) J R n g
    exact w_vret ok fin dX11_write_55 rfl (by unfold FI_X11_write; exact Pd.i)
  · intro n3 s3 hs3 kc3 kx3
    show WK K 0 0 3 [(0, .ref 0), (1, .int a0), (2, .int s3.1)] [] s3.2 J R n g
    refine w_iload_n ok dX11_write_3 2 rfl ?_
    refine w_if_lt (tgt := 55) ok dX11_write_4 (by decide) (fun c1 => ?_) (fun c1 => ?_)
    · skip
      have eB : B_X11_write_w3 a0 I J s3 = .inr (s3.1, s3.2) := by
        unfold B_X11_write_w3; exact (if_pos c1).trans (rfl)
      refine w_loc [0, 1, 2] rfl ?_
      have kk := kx3 _ eB
      exact kk
    · skip
      refine w_aload_n ok dX11_write_7 0 rfl ?_
      refine w_getI ok dX11_write_8 (fX11_13 rfl) (congrArg Prod.fst s_0) rfl (ltK hnn (by decide)) ?_
      refine w_if_lt (tgt := 49) ok dX11_write_11 (by decide) (fun c2 => ?_) (fun c2 => ?_)
      · skip
        refine w_iinc (v := s3.1 + (-8)) ok dX11_write_49 2 rfl rfl (by decide) rfl ?_
        refine w_goto (tgt := 3) ok dX11_write_52 (by decide) ?_
        have eB : B_X11_write_w3 a0 I J s3 = .inl ((s3.1 + (-8)), s3.2) := by
          unfold B_X11_write_w3; exact (if_neg c1).trans ((if_pos c2).trans (rfl))
        refine w_loc [1, 2, 0] rfl ?_
        have kk := kc3 _ eB
        exact kk
      · skip
        refine w_aload_n ok dX11_write_14 0 rfl ?_
        refine w_getI ok dX11_write_15 (fX11_13 rfl) (congrArg Prod.fst s_0) rfl (ltK hnn (by decide)) ?_
        refine w_aload_n ok dX11_write_18 0 rfl ?_
        refine w_getR ok dX11_write_19 (fX11_9 rfl) (congrArg Prod.fst s_0) rfl (r_0_0 ro) (ltK hnn (by decide)) ?_
        refine w_alen (v := 700) ok dX11_write_22 s_1 (by decide) (by decide) (ltK hnn (by decide)) ?_
        refine w_icmp_ge (tgt := 49) ok dX11_write_23 (by decide) (fun c3 => ?_) (fun c3 => ?_)
        · skip
          refine w_iinc (v := s3.1 + (-8)) ok dX11_write_49 2 rfl rfl (by decide) rfl ?_
          refine w_goto (tgt := 3) ok dX11_write_52 (by decide) ?_
          have eB : B_X11_write_w3 a0 I J s3 = .inl ((s3.1 + (-8)), s3.2) := by
            unfold B_X11_write_w3; exact (if_neg c1).trans ((if_neg c2).trans ((if_pos c3).trans (rfl)))
          refine w_loc [1, 2, 0] rfl ?_
          have kk := kc3 _ eB
          exact kk
        · skip
          refine w_aload_n ok dX11_write_26 0 rfl ?_
          refine w_getR ok dX11_write_27 (fX11_9 rfl) (congrArg Prod.fst s_0) rfl (r_0_0 ro) (ltK hnn (by decide)) ?_
          refine w_aload_n ok dX11_write_30 0 rfl ?_
          refine w_getI ok dX11_write_31 (fX11_13 rfl) (congrArg Prod.fst s_0) rfl (ltK hnn (by decide)) ?_
          refine w_iload_n ok dX11_write_34 1 rfl ?_
          refine w_iload_n ok dX11_write_35 2 rfl ?_
          refine w_ishr ok dX11_write_36 ?_
          refine w_i2b ok dX11_write_37 ?_
          refine x_bast (q := (s3.2 0 1).toNatClampNeg) ok dX11_write_38 s_1 (in_of c2 (show ¬ (nI 700 ≤ _) from c3) (sh_len s_1)) (by decide) (ltK hnn (by decide)) ?_
          show WK K 0 0 39 [(0, .ref 0), (1, .int a0), (2, .int s3.1)] [] (S1_X11_write a0 I J s3) J R n g
          refine w_aload_n ok dX11_write_39 0 rfl ?_
          refine w_dup ok dX11_write_40 rfl ?_
          refine w_getI ok dX11_write_41 (fX11_13 rfl) (congrArg Prod.fst s_0) rfl (ltK hnn (by decide)) ?_
          refine w_iconst (v := 1) ok dX11_write_44 (by decide) ?_
          refine w_iadd ok dX11_write_45 ?_
          refine w_putI ok dX11_write_46 (fwX11_13 rfl) (congrArg Prod.fst s_0) rfl (ltK hnn (by decide)) ?_
          refine w_iinc (v := s3.1 + (-8)) ok dX11_write_49 2 rfl rfl (by decide) rfl ?_
          refine w_goto (tgt := 3) ok dX11_write_52 (by decide) ?_
          have eB : B_X11_write_w3 a0 I J s3 = .inl ((s3.1 + (-8)), (u2 (S1_X11_write a0 I J s3) 0 1 ((((S1_X11_write a0 I J s3)) 0 1) + 1))) := by
            unfold B_X11_write_w3; exact (if_neg c1).trans ((if_neg c2).trans ((if_neg c3).trans (rfl)))
          refine w_loc [1, 2, 0] rfl ?_
          have kk := kc3 _ eB
          exact kk
def F_X11_fault (a0 : Int32) (I : SI) (J : SJ) : Int32 := if a0 = 0 then I 41 1 else (if a0 = 1 then I 41 2 else -1)
set_option maxHeartbeats 1000000 in
set_option maxRecDepth 40000 in
theorem c_X11_fault {I : SI} {J : SJ} {R : SR} {n g : Nat} (ro : RO R) (hnn : nK ≤ n) (a0 : Int32)   : MM 0 0 0 mX11_fault [.ref 0, .int a0] I J R n g (Pd (some (.int (F_X11_fault a0 I J))) I J R n g) := by
  refine MM.of (by decide) (Nat.le_of_ble_eq_true rfl) fun K ok fin => ?_
  show WK K 0 0 0 [(0, .ref 0), (1, .int a0)] [] I J R n g
  refine w_iload_n ok dX11_fault_0 1 rfl ?_
  by_cases c1 : a0 = 0
  · skip
    refine w_lkp (tgt := 28) (off := 27) ok dX11_fault_1 (by decide) (by rw [c1]; rfl) (by decide) ?_
    refine w_aload_n ok dX11_fault_28 0 rfl ?_
    refine w_getR ok dX11_fault_29 (fX11_27 rfl) (congrArg Prod.fst s_0) rfl (r_0_3 ro) (ltK hnn (by decide)) ?_
    refine w_getI ok dX11_fault_32 (fX11_106 rfl) (congrArg Prod.fst s_41) rfl (ltK hnn (by decide)) ?_
    exact w_iret ok fin dX11_fault_35 rfl (by unfold F_X11_fault; simp only [if_pos c1]; exact Pd.i)
  · skip
    by_cases c2 : a0 = 1
    · skip
      refine w_lkp (tgt := 36) (off := 35) ok dX11_fault_1 (by decide) (by rw [c2]; rfl) (by decide) ?_
      refine w_aload_n ok dX11_fault_36 0 rfl ?_
      refine w_getR ok dX11_fault_37 (fX11_27 rfl) (congrArg Prod.fst s_0) rfl (r_0_3 ro) (ltK hnn (by decide)) ?_
      refine w_getI ok dX11_fault_40 (fX11_109 rfl) (congrArg Prod.fst s_41) rfl (ltK hnn (by decide)) ?_
      exact w_iret ok fin dX11_fault_43 rfl (by unfold F_X11_fault; simp only [if_neg c1]; simp only [if_pos c2]; exact Pd.i)
    · skip
      have n3 : a0.toInt ≠ 0 := ne_toInt c1
      have n4 : a0.toInt ≠ 1 := ne_toInt c2
      refine w_lkp (tgt := 44) (off := 43) ok dX11_fault_1 (by decide) (by simp [Op.lookupswitch.offset, n3, n4, Ne.symm n3, Ne.symm n4]) (by decide) ?_
      refine w_iconst (v := (-1)) ok dX11_fault_44 (by decide) ?_
      exact w_iret ok fin dX11_fault_45 rfl (by unfold F_X11_fault; simp only [if_neg c1]; simp only [if_neg c2]; exact Pd.i)
def B_X11_notedBy_l4 (a0 : Int32) (I : SI) (J : SJ) (i4 : Nat) (s4 : Int32) : Int32 := if ((a0 >>> ((nI i4) &&& 31)) &&& 1) = 0 then s4 else (s4 ||| (atF (I 20) 8 (nI i4)))
def F_X11_notedBy_l4 (a0 : Int32) (I : SI) (J : SJ) (s0 : Int32) : Int32 := itN (B_X11_notedBy_l4 a0 I J) ((I 18 1).toNatClampNeg) s0
def F_X11_notedBy (a0 : Int32) (I : SI) (J : SJ) : Int32 := (F_X11_notedBy_l4 a0 I J 0)
set_option maxHeartbeats 1000000 in
set_option maxRecDepth 40000 in
theorem c_X11_notedBy {I : SI} {J : SJ} {R : SR} {n g : Nat} (ro : RO R) (hnn : nK ≤ n) (a0 : Int32)   : MM 1 0 0 mX11_notedBy [.ref 0, .int a0] I J R n g (Pd (some (.int (F_X11_notedBy a0 I J))) I J R n g) := by
  refine MM.of (by decide) (Nat.le_of_ble_eq_true rfl) fun K ok fin => ?_
  show WK K 0 0 0 [(0, .ref 0), (1, .int a0)] [] I J R n g
  refine w_iconst (v := 0) ok dX11_notedBy_0 (by decide) ?_
  refine w_istore_n ok dX11_notedBy_1 rfl (by decide) rfl ?_
  refine w_iconst (v := 0) ok dX11_notedBy_2 (by decide) ?_
  refine w_istore_n ok dX11_notedBy_3 rfl (by decide) rfl ?_
  refine w_loc [2, 3, 1, 0] rfl ?_
  refine loop_for (σ := Int32) (fun (i4 : Nat) (s4 : Int32) => WK K 0 0 4 [(0, .ref 0), (1, .int a0), (2, .int s4), (3, .int (nI i4))] [] I J R n g) (B_X11_notedBy_l4 a0 I J) ((I 18 1).toNatClampNeg) (0) ?_ ?_
  · show WK K 0 0 4 [(0, .ref 0), (1, .int a0), (2, .int (F_X11_notedBy_l4 a0 I J 0)), (3, .int (nI ((I 18 1).toNatClampNeg)))] [] I J R n g
    have e1 : (I 18 1) ≤ (nI ((I 18 1).toNatClampNeg)) := cnt_ge _
    refine w_iload_n ok dX11_notedBy_4 3 rfl ?_
    refine w_aload_n ok dX11_notedBy_5 0 rfl ?_
    refine w_getR ok dX11_notedBy_6 (fX11_20 rfl) (congrArg Prod.fst s_0) rfl (r_0_2 ro) (ltK hnn (by decide)) ?_
    refine w_getR ok dX11_notedBy_9 (fX11_128 rfl) (congrArg Prod.fst s_2) rfl (r_2_3 ro) (ltK hnn (by decide)) ?_
    refine w_getI ok dX11_notedBy_12 (fX11_256 rfl) (congrArg Prod.fst s_18) rfl (ltK hnn (by decide)) ?_
    refine w_icmp_ge (tgt := 49) ok dX11_notedBy_15 (by decide) (fun _ => ?_) (fun h => absurd e1 h)
    refine w_iload_n ok dX11_notedBy_49 2 rfl ?_
    exact w_iret ok fin dX11_notedBy_50 rfl (by unfold F_X11_notedBy; exact Pd.i)
  · intro i4 s4 hi4 hs4 k4
    show WK K 0 0 4 [(0, .ref 0), (1, .int a0), (2, .int s4), (3, .int (nI i4))] [] I J R n g
    have e2 : ¬ ((I 18 1) ≤ (nI i4)) := cnt_lt hi4
    refine w_iload_n ok dX11_notedBy_4 3 rfl ?_
    refine w_aload_n ok dX11_notedBy_5 0 rfl ?_
    refine w_getR ok dX11_notedBy_6 (fX11_20 rfl) (congrArg Prod.fst s_0) rfl (r_0_2 ro) (ltK hnn (by decide)) ?_
    refine w_getR ok dX11_notedBy_9 (fX11_128 rfl) (congrArg Prod.fst s_2) rfl (r_2_3 ro) (ltK hnn (by decide)) ?_
    refine w_getI ok dX11_notedBy_12 (fX11_256 rfl) (congrArg Prod.fst s_18) rfl (ltK hnn (by decide)) ?_
    refine w_icmp_ge (tgt := 49) ok dX11_notedBy_15 (by decide) (fun h => absurd h e2) (fun _ => ?_)
    refine w_iload_n ok dX11_notedBy_18 1 rfl ?_
    refine w_iload_n ok dX11_notedBy_19 3 rfl ?_
    refine w_ishr ok dX11_notedBy_20 ?_
    refine w_iconst (v := 1) ok dX11_notedBy_21 (by decide) ?_
    refine w_iand ok dX11_notedBy_22 ?_
    refine w_if_eq (tgt := 43) ok dX11_notedBy_23 (by decide) (fun c3 => ?_) (fun c3 => ?_)
    · skip
      refine w_iinc (v := (nI i4) + 1) ok dX11_notedBy_43 3 rfl rfl (by decide) rfl ?_
      refine w_goto (tgt := 4) ok dX11_notedBy_46 (by decide) ?_
      have eB : B_X11_notedBy_l4 a0 I J i4 s4 = s4 := by
        unfold B_X11_notedBy_l4; exact (if_pos c3).trans (rfl)
      have kk := k4
      rw [eB] at kk
      refine w_loc [1, 2, 3, 0] rfl ?_
      rw [nI_1 i4]
      exact kk
    · skip
      refine w_iload_n ok dX11_notedBy_26 2 rfl ?_
      refine w_aload_n ok dX11_notedBy_27 0 rfl ?_
      refine w_getR ok dX11_notedBy_28 (fX11_20 rfl) (congrArg Prod.fst s_0) rfl (r_0_2 ro) (ltK hnn (by decide)) ?_
      refine w_getR ok dX11_notedBy_31 (fX11_128 rfl) (congrArg Prod.fst s_2) rfl (r_2_3 ro) (ltK hnn (by decide)) ?_
      refine w_getR ok dX11_notedBy_34 (fX11_142 rfl) (congrArg Prod.fst s_18) rfl (r_18_3 ro) (ltK hnn (by decide)) ?_
      refine w_iload_n ok dX11_notedBy_37 3 rfl ?_
      refine w_cS (As := [.ref 20, .int (nI i4)]) ok dX11_notedBy_38 iX11_at (lX11_146 rfl) (c_at s_20 (ltK hnn (by decide)) (nI i4)) (by decide) rfl (Nat.le_of_ble_eq_true rfl) ?_
      show WK K 0 0 41 [(0, .ref 0), (1, .int a0), (2, .int s4), (3, .int (nI i4))] [.int (atF (I 20) 8 (nI i4)), .int s4] I J R n g
      refine w_ior ok dX11_notedBy_41 ?_
      refine w_istore_n ok dX11_notedBy_42 rfl (by decide) rfl ?_
      refine w_iinc (v := (nI i4) + 1) ok dX11_notedBy_43 3 rfl rfl (by decide) rfl ?_
      refine w_goto (tgt := 4) ok dX11_notedBy_46 (by decide) ?_
      have eB : B_X11_notedBy_l4 a0 I J i4 s4 = (s4 ||| (atF (I 20) 8 (nI i4))) := by
        unfold B_X11_notedBy_l4; exact (if_neg c3).trans (rfl)
      have kk := k4
      rw [eB] at kk
      refine w_loc [2, 3, 1, 0] rfl ?_
      rw [nI_1 i4]
      exact kk
def F_X11_gain (a0 : Int32) (a1 : Int32) (I : SI) (J : SJ) : Int32 := if a0 = a1 then (4 : Int32) - a0 else (if a0 ≤ a1 then -a0 else (10 : Int32) - a0)
set_option maxHeartbeats 1000000 in
set_option maxRecDepth 40000 in
theorem c_X11_gain {I : SI} {J : SJ} {R : SR} {n g : Nat} (ro : RO R) (hnn : nK ≤ n) (a0 : Int32) (a1 : Int32)   : MM 0 0 0 mX11_gain [.int a0, .int a1] I J R n g (Pd (some (.int (F_X11_gain a0 a1 I J))) I J R n g) := by
  refine MM.of (by decide) (Nat.le_of_ble_eq_true rfl) fun K ok fin => ?_
  show WK K 0 0 0 [(0, .int a0), (1, .int a1)] [] I J R n g
  refine w_iload_n ok dX11_gain_0 0 rfl ?_
  refine w_iload_n ok dX11_gain_1 1 rfl ?_
  refine w_icmp_ne (tgt := 9) ok dX11_gain_2 (by decide) (fun c1 => ?_) (fun c1 => ?_)
  · skip
    refine w_iload_n ok dX11_gain_9 0 rfl ?_
    refine w_iload_n ok dX11_gain_10 1 rfl ?_
    refine w_icmp_le (tgt := 21) ok dX11_gain_11 (by decide) (fun c2 => ?_) (fun c2 => ?_)
    · skip
      refine w_iload_n ok dX11_gain_21 0 rfl ?_
      refine w_ineg ok dX11_gain_22 ?_
      exact w_iret ok fin dX11_gain_23 rfl (by unfold F_X11_gain; simp only [if_neg c1]; simp only [if_pos c2]; exact Pd.i)
    · skip
      refine w_bipush (v := 10) ok dX11_gain_14 (by decide) ?_
      refine w_iload_n ok dX11_gain_16 0 rfl ?_
      refine w_isub ok dX11_gain_17 ?_
      refine w_goto (tgt := 23) ok dX11_gain_18 (by decide) ?_
      exact w_iret ok fin dX11_gain_23 rfl (by unfold F_X11_gain; simp only [if_neg c1]; simp only [if_neg c2]; exact Pd.i)
  · skip
    refine w_iconst (v := 4) ok dX11_gain_5 (by decide) ?_
    refine w_iload_n ok dX11_gain_6 0 rfl ?_
    refine w_isub ok dX11_gain_7 ?_
    exact w_iret ok fin dX11_gain_8 rfl (by unfold F_X11_gain; simp only [if_pos c1]; exact Pd.i)
def B_X11_commonPart_l4 (a0 : Int32) (a1 : Int32) (I : SI) (J : SJ) (i4 : Nat) (s4 : Int32) : Int32 := if (a0 - a0 / (nI (1 + i4)) * (nI (1 + i4))) = 0 then (if (a1 - a1 / (nI (1 + i4)) * (nI (1 + i4))) = 0 then (nI (1 + i4)) else s4) else s4
def F_X11_commonPart_l4 (a0 : Int32) (a1 : Int32) (I : SI) (J : SJ) (s0 : Int32) : Int32 := itN (B_X11_commonPart_l4 a0 a1 I J) (100) s0
def F_X11_commonPart (a0 : Int32) (a1 : Int32) (I : SI) (J : SJ) : Int32 := (F_X11_commonPart_l4 a0 a1 I J 1)
def H_X11_commonPart (a0 : Int32) (a1 : Int32) (I : SI) (J : SJ) : Prop := (∀ (i4 : Nat) (s4 : Int32), i4 < 100 → s4 = itN (B_X11_commonPart_l4 a0 a1 I J) i4 1 → ¬ (nI (1 + i4)) = 0) ∧ (∀ (i4 : Nat) (s4 : Int32), i4 < 100 → s4 = itN (B_X11_commonPart_l4 a0 a1 I J) i4 1 → (a0 - a0 / (nI (1 + i4)) * (nI (1 + i4))) = 0 → ¬ (nI (1 + i4)) = 0)
set_option maxHeartbeats 1000000 in
set_option maxRecDepth 40000 in
theorem c_X11_commonPart {I : SI} {J : SJ} {R : SR} {n g : Nat} (ro : RO R) (hnn : nK ≤ n) (a0 : Int32) (a1 : Int32)  (hp : H_X11_commonPart a0 a1 I J) : MM 0 0 0 mX11_commonPart [.int a0, .int a1] I J R n g (Pd (some (.int (F_X11_commonPart a0 a1 I J))) I J R n g) := by
  refine MM.of (by decide) (Nat.le_of_ble_eq_true rfl) fun K ok fin => ?_
  show WK K 0 0 0 [(0, .int a0), (1, .int a1)] [] I J R n g
  obtain ⟨hp1, hp2⟩ := hp
  refine w_iconst (v := 1) ok dX11_commonPart_0 (by decide) ?_
  refine w_istore_n ok dX11_commonPart_1 rfl (by decide) rfl ?_
  refine w_iconst (v := 1) ok dX11_commonPart_2 (by decide) ?_
  refine w_istore_n ok dX11_commonPart_3 rfl (by decide) rfl ?_
  refine w_loc [2, 3, 1, 0] rfl ?_
  refine loop_for (σ := Int32) (fun (i4 : Nat) (s4 : Int32) => WK K 0 0 4 [(0, .int a0), (1, .int a1), (2, .int s4), (3, .int (nI (1 + i4)))] [] I J R n g) (B_X11_commonPart_l4 a0 a1 I J) (100) (1) ?_ ?_
  · show WK K 0 0 4 [(0, .int a0), (1, .int a1), (2, .int (F_X11_commonPart_l4 a0 a1 I J 1)), (3, .int (nI (1 + 100)))] [] I J R n g
    have e1 : (100 : Int32) < (nI (1 + 100)) := (show nI 100 < nI (1 + 100) from nI_lt (by omega) (by decide))
    refine w_iload_n ok dX11_commonPart_4 3 rfl ?_
    refine w_bipush (v := 100) ok dX11_commonPart_5 (by decide) ?_
    refine w_icmp_gt (tgt := 30) ok dX11_commonPart_7 (by decide) (fun _ => ?_) (fun h => absurd e1 h)
    refine w_iload_n ok dX11_commonPart_30 2 rfl ?_
    exact w_iret ok fin dX11_commonPart_31 rfl (by unfold F_X11_commonPart; exact Pd.i)
  · intro i4 s4 hi4 hs4 k4
    show WK K 0 0 4 [(0, .int a0), (1, .int a1), (2, .int s4), (3, .int (nI (1 + i4)))] [] I J R n g
    have e2 : ¬ ((100 : Int32) < (nI (1 + i4))) := (show ¬ (nI 100 < nI (1 + i4)) from nI_nlt (by omega) (by decide))
    refine w_iload_n ok dX11_commonPart_4 3 rfl ?_
    refine w_bipush (v := 100) ok dX11_commonPart_5 (by decide) ?_
    refine w_icmp_gt (tgt := 30) ok dX11_commonPart_7 (by decide) (fun h => absurd h e2) (fun _ => ?_)
    refine w_iload_n ok dX11_commonPart_10 0 rfl ?_
    refine w_iload_n ok dX11_commonPart_11 3 rfl ?_
    refine w_irem ok dX11_commonPart_12 (hp1 i4 s4 hi4 hs4) ?_
    refine w_if_ne (tgt := 24) ok dX11_commonPart_13 (by decide) (fun c3 => ?_) (fun c3 => ?_)
    · skip
      refine w_iinc (v := (nI (1 + i4)) + 1) ok dX11_commonPart_24 3 rfl rfl (by decide) rfl ?_
      refine w_goto (tgt := 4) ok dX11_commonPart_27 (by decide) ?_
      have eB : B_X11_commonPart_l4 a0 a1 I J i4 s4 = s4 := by
        unfold B_X11_commonPart_l4; exact (if_neg c3).trans (rfl)
      have kk := k4
      rw [eB] at kk
      refine w_loc [1, 2, 3, 0] rfl ?_
      rw [show nI (1 + i4) + 1 = nI (1 + (i4 + 1)) from nI_1 _]
      exact kk
    · skip
      refine w_iload_n ok dX11_commonPart_16 1 rfl ?_
      refine w_iload_n ok dX11_commonPart_17 3 rfl ?_
      refine w_irem ok dX11_commonPart_18 (hp2 i4 s4 hi4 hs4 c3) ?_
      refine w_if_ne (tgt := 24) ok dX11_commonPart_19 (by decide) (fun c4 => ?_) (fun c4 => ?_)
      · skip
        refine w_iinc (v := (nI (1 + i4)) + 1) ok dX11_commonPart_24 3 rfl rfl (by decide) rfl ?_
        refine w_goto (tgt := 4) ok dX11_commonPart_27 (by decide) ?_
        have eB : B_X11_commonPart_l4 a0 a1 I J i4 s4 = s4 := by
          unfold B_X11_commonPart_l4; exact (if_pos c3).trans ((if_neg c4).trans (rfl))
        have kk := k4
        rw [eB] at kk
        refine w_loc [1, 2, 3, 0] rfl ?_
        rw [show nI (1 + i4) + 1 = nI (1 + (i4 + 1)) from nI_1 _]
        exact kk
      · skip
        refine w_iload_n ok dX11_commonPart_22 3 rfl ?_
        refine w_istore_n ok dX11_commonPart_23 rfl (by decide) rfl ?_
        refine w_iinc (v := (nI (1 + i4)) + 1) ok dX11_commonPart_24 3 rfl rfl (by decide) rfl ?_
        refine w_goto (tgt := 4) ok dX11_commonPart_27 (by decide) ?_
        have eB : B_X11_commonPart_l4 a0 a1 I J i4 s4 = (nI (1 + i4)) := by
          unfold B_X11_commonPart_l4; exact (if_pos c3).trans ((if_pos c4).trans (rfl))
        have kk := k4
        rw [eB] at kk
        refine w_loc [2, 3, 1, 0] rfl ?_
        rw [show nI (1 + i4) + 1 = nI (1 + (i4 + 1)) from nI_1 _]
        exact kk
def B_X11_believed_l4 (I : SI) (J : SJ) (i4 : Nat) (s4 : Int32) : Int32 := if (atF (I 91) 6 (atF (I 15) 8 (nI i4))) = (atF (I 16) 8 (nI i4)) then (s4 ||| ((1 : Int32) <<< ((nI i4) &&& 31))) else s4
def F_X11_believed_l4 (I : SI) (J : SJ) (s0 : Int32) : Int32 := itN (B_X11_believed_l4 I J) ((I 13 1).toNatClampNeg) s0
def F_X11_believed  (I : SI) (J : SJ) : Int32 := (F_X11_believed_l4 I J 0)
set_option maxHeartbeats 1000000 in
set_option maxRecDepth 40000 in
theorem c_X11_believed {I : SI} {J : SJ} {R : SR} {n g : Nat} (ro : RO R) (hnn : nK ≤ n)    : MM 1 0 0 mX11_believed [.ref 0] I J R n g (Pd (some (.int (F_X11_believed  I J))) I J R n g) := by
  refine MM.of (by decide) (Nat.le_of_ble_eq_true rfl) fun K ok fin => ?_
  show WK K 0 0 0 [(0, .ref 0)] [] I J R n g
  refine w_iconst (v := 0) ok dX11_believed_0 (by decide) ?_
  refine w_istore_n ok dX11_believed_1 rfl (by decide) rfl ?_
  refine w_iconst (v := 0) ok dX11_believed_2 (by decide) ?_
  refine w_istore_n ok dX11_believed_3 rfl (by decide) rfl ?_
  refine w_loc [2, 1, 0] rfl ?_
  refine loop_for (σ := Int32) (fun (i4 : Nat) (s4 : Int32) => WK K 0 0 4 [(0, .ref 0), (1, .int s4), (2, .int (nI i4))] [] I J R n g) (B_X11_believed_l4 I J) ((I 13 1).toNatClampNeg) (0) ?_ ?_
  · show WK K 0 0 4 [(0, .ref 0), (1, .int (F_X11_believed_l4 I J 0)), (2, .int (nI ((I 13 1).toNatClampNeg)))] [] I J R n g
    have e1 : (I 13 1) ≤ (nI ((I 13 1).toNatClampNeg)) := cnt_ge _
    refine w_iload_n ok dX11_believed_4 2 rfl ?_
    refine w_aload_n ok dX11_believed_5 0 rfl ?_
    refine w_getR ok dX11_believed_6 (fX11_20 rfl) (congrArg Prod.fst s_0) rfl (r_0_2 ro) (ltK hnn (by decide)) ?_
    refine w_getR ok dX11_believed_9 (fX11_125 rfl) (congrArg Prod.fst s_2) rfl (r_2_2 ro) (ltK hnn (by decide)) ?_
    refine w_getI ok dX11_believed_12 (fX11_256 rfl) (congrArg Prod.fst s_13) rfl (ltK hnn (by decide)) ?_
    refine w_icmp_ge (tgt := 71) ok dX11_believed_15 (by decide) (fun _ => ?_) (fun h => absurd e1 h)
    refine w_iload_n ok dX11_believed_71 1 rfl ?_
    exact w_iret ok fin dX11_believed_72 rfl (by unfold F_X11_believed; exact Pd.i)
  · intro i4 s4 hi4 hs4 k4
    show WK K 0 0 4 [(0, .ref 0), (1, .int s4), (2, .int (nI i4))] [] I J R n g
    have e2 : ¬ ((I 13 1) ≤ (nI i4)) := cnt_lt hi4
    refine w_iload_n ok dX11_believed_4 2 rfl ?_
    refine w_aload_n ok dX11_believed_5 0 rfl ?_
    refine w_getR ok dX11_believed_6 (fX11_20 rfl) (congrArg Prod.fst s_0) rfl (r_0_2 ro) (ltK hnn (by decide)) ?_
    refine w_getR ok dX11_believed_9 (fX11_125 rfl) (congrArg Prod.fst s_2) rfl (r_2_2 ro) (ltK hnn (by decide)) ?_
    refine w_getI ok dX11_believed_12 (fX11_256 rfl) (congrArg Prod.fst s_13) rfl (ltK hnn (by decide)) ?_
    refine w_icmp_ge (tgt := 71) ok dX11_believed_15 (by decide) (fun h => absurd h e2) (fun _ => ?_)
    refine w_aload_n ok dX11_believed_18 0 rfl ?_
    refine w_getR ok dX11_believed_19 (fX11_34 rfl) (congrArg Prod.fst s_0) rfl (r_0_4 ro) (ltK hnn (by decide)) ?_
    refine w_getR ok dX11_believed_22 (fX11_153 rfl) (congrArg Prod.fst s_86) rfl (r_86_11 ro) (ltK hnn (by decide)) ?_
    refine w_aload_n ok dX11_believed_25 0 rfl ?_
    refine w_getR ok dX11_believed_26 (fX11_20 rfl) (congrArg Prod.fst s_0) rfl (r_0_2 ro) (ltK hnn (by decide)) ?_
    refine w_getR ok dX11_believed_29 (fX11_125 rfl) (congrArg Prod.fst s_2) rfl (r_2_2 ro) (ltK hnn (by decide)) ?_
    refine w_getR ok dX11_believed_32 (fX11_142 rfl) (congrArg Prod.fst s_13) rfl (r_13_3 ro) (ltK hnn (by decide)) ?_
    refine w_iload_n ok dX11_believed_35 2 rfl ?_
    refine w_cS (As := [.ref 15, .int (nI i4)]) ok dX11_believed_36 iX11_at (lX11_146 rfl) (c_at s_15 (ltK hnn (by decide)) (nI i4)) (by decide) rfl (Nat.le_of_ble_eq_true rfl) ?_
    show WK K 0 0 39 [(0, .ref 0), (1, .int s4), (2, .int (nI i4))] [.int (atF (I 15) 8 (nI i4)), .ref 91] I J R n g
    refine w_cS (As := [.ref 91, .int (atF (I 15) 8 (nI i4))]) ok dX11_believed_39 iX11_at (lX11_146 rfl) (c_at s_91 (ltK hnn (by decide)) (atF (I 15) 8 (nI i4))) (by decide) rfl (Nat.le_of_ble_eq_true rfl) ?_
    refine w_aload_n ok dX11_believed_42 0 rfl ?_
    refine w_getR ok dX11_believed_43 (fX11_20 rfl) (congrArg Prod.fst s_0) rfl (r_0_2 ro) (ltK hnn (by decide)) ?_
    refine w_getR ok dX11_believed_46 (fX11_125 rfl) (congrArg Prod.fst s_2) rfl (r_2_2 ro) (ltK hnn (by decide)) ?_
    refine w_getR ok dX11_believed_49 (fX11_150 rfl) (congrArg Prod.fst s_13) rfl (r_13_4 ro) (ltK hnn (by decide)) ?_
    refine w_iload_n ok dX11_believed_52 2 rfl ?_
    refine w_cS (As := [.ref 16, .int (nI i4)]) ok dX11_believed_53 iX11_at (lX11_146 rfl) (c_at s_16 (ltK hnn (by decide)) (nI i4)) (by decide) rfl (Nat.le_of_ble_eq_true rfl) ?_
    show WK K 0 0 56 [(0, .ref 0), (1, .int s4), (2, .int (nI i4))] [.int (atF (I 16) 8 (nI i4)), .int (atF (I 91) 6 (atF (I 15) 8 (nI i4)))] I J R n g
    refine w_icmp_ne (tgt := 65) ok dX11_believed_56 (by decide) (fun c3 => ?_) (fun c3 => ?_)
    · skip
      refine w_iinc (v := (nI i4) + 1) ok dX11_believed_65 2 rfl rfl (by decide) rfl ?_
      refine w_goto (tgt := 4) ok dX11_believed_68 (by decide) ?_
      have eB : B_X11_believed_l4 I J i4 s4 = s4 := by
        unfold B_X11_believed_l4; exact (if_neg c3).trans (rfl)
      have kk := k4
      rw [eB] at kk
      refine w_loc [1, 2, 0] rfl ?_
      rw [nI_1 i4]
      exact kk
    · skip
      refine w_iload_n ok dX11_believed_59 1 rfl ?_
      refine w_iconst (v := 1) ok dX11_believed_60 (by decide) ?_
      refine w_iload_n ok dX11_believed_61 2 rfl ?_
      refine w_ishl ok dX11_believed_62 ?_
      refine w_ior ok dX11_believed_63 ?_
      refine w_istore_n ok dX11_believed_64 rfl (by decide) rfl ?_
      refine w_iinc (v := (nI i4) + 1) ok dX11_believed_65 2 rfl rfl (by decide) rfl ?_
      refine w_goto (tgt := 4) ok dX11_believed_68 (by decide) ?_
      have eB : B_X11_believed_l4 I J i4 s4 = (s4 ||| ((1 : Int32) <<< ((nI i4) &&& 31))) := by
        unfold B_X11_believed_l4; exact (if_pos c3).trans (rfl)
      have kk := k4
      rw [eB] at kk
      refine w_loc [2, 1, 0] rfl ?_
      rw [nI_1 i4]
      exact kk
def F_X11_known (a0 : Int32) (I : SI) (J : SJ) : Int32 := if a0 < (-1) then 0 else (if a0 ≤ (I 116 0) then 1 else 0)
def FI_X11_known (a0 : Int32) (I : SI) (J : SJ) : SI := if a0 < (-1) then I else (if a0 ≤ (I 116 0) then u2 I 116 1 a0 else I)
set_option maxHeartbeats 1000000 in
set_option maxRecDepth 40000 in
theorem c_X11_known {I : SI} {J : SJ} {R : SR} {n g : Nat} (ro : RO R) (hnn : nK ≤ n) (a0 : Int32)   : MM 0 0 0 mX11_known [.ref 0, .int a0] I J R n g (Pd (some (.int (F_X11_known a0 I J))) (FI_X11_known a0 I J) J R n g) := by
  refine MM.of (by decide) (Nat.le_of_ble_eq_true rfl) fun K ok fin => ?_
  show WK K 0 0 0 [(0, .ref 0), (1, .int a0)] [] I J R n g
  refine w_iload_n ok dX11_known_0 1 rfl ?_
  refine w_iconst (v := (-1)) ok dX11_known_1 (by decide) ?_
  refine w_icmp_lt (tgt := 16) ok dX11_known_2 (by decide) (fun c1 => ?_) (fun c1 => ?_)
  · skip
    refine w_iconst (v := 0) ok dX11_known_16 (by decide) ?_
    exact w_zret ok fin dX11_known_17 rfl (by decide) (by unfold F_X11_known FI_X11_known; simp only [if_pos c1]; exact Pd.i)
  · skip
    refine w_iload_n ok dX11_known_5 1 rfl ?_
    refine w_aload_n ok dX11_known_6 0 rfl ?_
    refine w_getR ok dX11_known_7 (fX11_57 rfl) (congrArg Prod.fst s_0) rfl (r_0_8 ro) (ltK hnn (by decide)) ?_
    refine w_getI ok dX11_known_10 (fX11_331 rfl) (congrArg Prod.fst s_116) rfl (ltK hnn (by decide)) ?_
    refine w_icmp_le (tgt := 18) ok dX11_known_13 (by decide) (fun c2 => ?_) (fun c2 => ?_)
    · skip
      refine w_aload_n ok dX11_known_18 0 rfl ?_
      refine w_getR ok dX11_known_19 (fX11_57 rfl) (congrArg Prod.fst s_0) rfl (r_0_8 ro) (ltK hnn (by decide)) ?_
      refine w_iload_n ok dX11_known_22 1 rfl ?_
      refine w_putI ok dX11_known_23 (fwX11_332 rfl) (congrArg Prod.fst s_116) rfl (ltK hnn (by decide)) ?_
      refine w_iconst (v := 1) ok dX11_known_26 (by decide) ?_
      exact w_zret ok fin dX11_known_27 rfl (by decide) (by unfold F_X11_known FI_X11_known; simp only [if_neg c1]; simp only [if_pos c2]; exact Pd.i)
    · skip
      refine w_iconst (v := 0) ok dX11_known_16 (by decide) ?_
      exact w_zret ok fin dX11_known_17 rfl (by decide) (by unfold F_X11_known FI_X11_known; simp only [if_neg c1]; simp only [if_neg c2]; exact Pd.i)
def F_X12_thrown  (I : SI) (J : SJ) : Int32 := I 130 0
set_option maxHeartbeats 1000000 in
set_option maxRecDepth 40000 in
theorem c_X12_thrown {I : SI} {J : SJ} {R : SR} {n g : Nat} (ro : RM R) (hnn : nM ≤ n)    : MM 0 0 0 mX12_thrown [.ref 130] I J R n g (Pd (some (.int (F_X12_thrown  I J))) I J R n g) := by
  refine MM.of (by decide) (Nat.le_of_ble_eq_true rfl) fun K ok fin => ?_
  show WK K 0 0 0 [(0, .ref 130)] [] I J R n g
  refine w_aload_n ok dX12_thrown_0 0 rfl ?_
  refine w_getI ok dX12_thrown_1 (fX12_169 rfl) (congrArg Prod.fst s_130) rfl (ltM hnn (by decide)) ?_
  exact w_iret ok fin dX12_thrown_4 rfl (by unfold F_X12_thrown; exact Pd.i)
def S2_X12_feed (a0 : Int32) (a1 : Int32) (a2 : Int32) (a3 : Int32) (a4 : Int32) (I : SI) (J : SJ) (i20 : Nat) (s20 : SI) : SI := u2 s20 131 ((s20 130 2) + (nI i20)).toNatClampNeg ((a4 >>> (((24 : Int32) - ((8 : Int32) * ((nI i20) - (nI i20) / 4 * 4))) &&& 31)) &&& 255)
def S3_X12_feed (a0 : Int32) (a1 : Int32) (a2 : Int32) (a3 : Int32) (a4 : Int32) (I : SI) (J : SJ) (i20 : Nat) (s20 : SI) : SI := u2 s20 131 ((s20 130 2) + (nI i20)).toNatClampNeg ((a3 >>> (((24 : Int32) - ((8 : Int32) * ((nI i20) - (nI i20) / 4 * 4))) &&& 31)) &&& 255)
def S4_X12_feed (a0 : Int32) (a1 : Int32) (a2 : Int32) (a3 : Int32) (a4 : Int32) (I : SI) (J : SJ) (i20 : Nat) (s20 : SI) : SI := u2 s20 131 ((s20 130 2) + (nI i20)).toNatClampNeg ((a2 >>> (((24 : Int32) - ((8 : Int32) * ((nI i20) - (nI i20) / 4 * 4))) &&& 31)) &&& 255)
def S5_X12_feed (a0 : Int32) (a1 : Int32) (a2 : Int32) (a3 : Int32) (a4 : Int32) (I : SI) (J : SJ) (i20 : Nat) (s20 : SI) : SI := u2 s20 131 ((s20 130 2) + (nI i20)).toNatClampNeg ((a1 >>> (((24 : Int32) - ((8 : Int32) * ((nI i20) - (nI i20) / 4 * 4))) &&& 31)) &&& 255)
def S6_X12_feed (a0 : Int32) (a1 : Int32) (a2 : Int32) (a3 : Int32) (a4 : Int32) (I : SI) (J : SJ) (i20 : Nat) (s20 : SI) : SI := u2 s20 131 ((s20 130 2) + (nI i20)).toNatClampNeg ((a0 >>> (((24 : Int32) - ((8 : Int32) * ((nI i20) - (nI i20) / 4 * 4))) &&& 31)) &&& 255)
def B_X12_feed_l20 (a0 : Int32) (a1 : Int32) (a2 : Int32) (a3 : Int32) (a4 : Int32) (I : SI) (J : SJ) (i20 : Nat) (s20 : SI) : SI := if (4 : Int32) ≤ (nI i20) then (if (8 : Int32) ≤ (nI i20) then (if (12 : Int32) ≤ (nI i20) then (if (16 : Int32) ≤ (nI i20) then (S2_X12_feed a0 a1 a2 a3 a4 I J i20 s20) else (S3_X12_feed a0 a1 a2 a3 a4 I J i20 s20)) else (S4_X12_feed a0 a1 a2 a3 a4 I J i20 s20)) else (S5_X12_feed a0 a1 a2 a3 a4 I J i20 s20)) else (S6_X12_feed a0 a1 a2 a3 a4 I J i20 s20)
def F_X12_feed_l20 (a0 : Int32) (a1 : Int32) (a2 : Int32) (a3 : Int32) (a4 : Int32) (I : SI) (J : SJ) (s0 : SI) : SI := itN (B_X12_feed_l20 a0 a1 a2 a3 a4 I J) (20) s0
def S1_X12_feed (a0 : Int32) (a1 : Int32) (a2 : Int32) (a3 : Int32) (a4 : Int32) (I : SI) (J : SJ) : SI := u2 ((F_X12_feed_l20 a0 a1 a2 a3 a4 I J (u2 I 130 0 0))) 130 2 ((((F_X12_feed_l20 a0 a1 a2 a3 a4 I J (u2 I 130 0 0))) 130 2) + 20)
def F_X12_feed (a0 : Int32) (a1 : Int32) (a2 : Int32) (a3 : Int32) (a4 : Int32) (I : SI) (J : SJ) : Int32 := if ((u2 I 130 0 0) 130 2) ≤ 680 then ((S1_X12_feed a0 a1 a2 a3 a4 I J)) 130 2 else -1
def FI_X12_feed (a0 : Int32) (a1 : Int32) (a2 : Int32) (a3 : Int32) (a4 : Int32) (I : SI) (J : SJ) : SI := if ((u2 I 130 0 0) 130 2) ≤ 680 then (S1_X12_feed a0 a1 a2 a3 a4 I J) else u2 I 130 0 0
def H_X12_feed (a0 : Int32) (a1 : Int32) (a2 : Int32) (a3 : Int32) (a4 : Int32) (I : SI) (J : SJ) : Prop := (((u2 I 130 0 0) 130 2) ≤ 680 → ∀ (i20 : Nat) (s20 : SI), i20 < 20 → s20 = itN (B_X12_feed_l20 a0 a1 a2 a3 a4 I J) i20 (u2 I 130 0 0) → (4 : Int32) ≤ (nI i20) → (8 : Int32) ≤ (nI i20) → (12 : Int32) ≤ (nI i20) → (16 : Int32) ≤ (nI i20) → inR ((s20 130 2) + (nI i20)) 700) ∧ (((u2 I 130 0 0) 130 2) ≤ 680 → ∀ (i20 : Nat) (s20 : SI), i20 < 20 → s20 = itN (B_X12_feed_l20 a0 a1 a2 a3 a4 I J) i20 (u2 I 130 0 0) → (4 : Int32) ≤ (nI i20) → (8 : Int32) ≤ (nI i20) → (12 : Int32) ≤ (nI i20) → ¬ ((16 : Int32) ≤ (nI i20)) → inR ((s20 130 2) + (nI i20)) 700) ∧ (((u2 I 130 0 0) 130 2) ≤ 680 → ∀ (i20 : Nat) (s20 : SI), i20 < 20 → s20 = itN (B_X12_feed_l20 a0 a1 a2 a3 a4 I J) i20 (u2 I 130 0 0) → (4 : Int32) ≤ (nI i20) → (8 : Int32) ≤ (nI i20) → ¬ ((12 : Int32) ≤ (nI i20)) → inR ((s20 130 2) + (nI i20)) 700) ∧ (((u2 I 130 0 0) 130 2) ≤ 680 → ∀ (i20 : Nat) (s20 : SI), i20 < 20 → s20 = itN (B_X12_feed_l20 a0 a1 a2 a3 a4 I J) i20 (u2 I 130 0 0) → (4 : Int32) ≤ (nI i20) → ¬ ((8 : Int32) ≤ (nI i20)) → inR ((s20 130 2) + (nI i20)) 700) ∧ (((u2 I 130 0 0) 130 2) ≤ 680 → ∀ (i20 : Nat) (s20 : SI), i20 < 20 → s20 = itN (B_X12_feed_l20 a0 a1 a2 a3 a4 I J) i20 (u2 I 130 0 0) → ¬ ((4 : Int32) ≤ (nI i20)) → inR ((s20 130 2) + (nI i20)) 700)
set_option maxHeartbeats 2110000 in
set_option maxRecDepth 40000 in
theorem c_X12_feed {I : SI} {J : SJ} {R : SR} {n g : Nat} (ro : RM R) (hnn : nM ≤ n) (a0 : Int32) (a1 : Int32) (a2 : Int32) (a3 : Int32) (a4 : Int32)  (hp : H_X12_feed a0 a1 a2 a3 a4 I J) : MM 0 0 0 mX12_feed [.ref 130, .int a0, .int a1, .int a2, .int a3, .int a4] I J R n g (Pd (some (.int (F_X12_feed a0 a1 a2 a3 a4 I J))) (FI_X12_feed a0 a1 a2 a3 a4 I J) J R n g) := by
  refine MM.of (by decide) (Nat.le_of_ble_eq_true rfl) fun K ok fin => ?_
  show WK K 0 0 0 [(0, .ref 130), (1, .int a0), (2, .int a1), (3, .int a2), (4, .int a3), (5, .int a4)] [] I J R n g
  obtain ⟨hp1, hp2, hp3, hp4, hp5⟩ := hp
  refine w_aload_n ok dX12_feed_0 0 rfl ?_
  refine w_iconst (v := 0) ok dX12_feed_1 (by decide) ?_
  refine w_putI ok dX12_feed_2 (fwX12_169 rfl) (congrArg Prod.fst s_130) rfl (ltM hnn (by decide)) ?_
  refine w_aload_n ok dX12_feed_5 0 rfl ?_
  refine w_getI ok dX12_feed_6 (fX12_172 rfl) (congrArg Prod.fst s_130) rfl (ltM hnn (by decide)) ?_
  refine w_sipush (v := 680) ok dX12_feed_9 (by decide) ?_
  refine w_icmp_le (tgt := 17) ok dX12_feed_12 (by decide) (fun c1 => ?_) (fun c1 => ?_)
  · skip
    refine w_iconst (v := 0) ok dX12_feed_17 (by decide) ?_
    refine w_istore ok dX12_feed_18 (by decide) rfl ?_
    refine w_loc [1, 2, 3, 4, 5, 6, 0] rfl ?_
    refine loop_for (σ := SI) (fun (i20 : Nat) (s20 : SI) => WK K 0 0 20 [(0, .ref 130), (1, .int a0), (2, .int a1), (3, .int a2), (4, .int a3), (5, .int a4), (6, .int (nI i20))] [] s20 J R n g) (B_X12_feed_l20 a0 a1 a2 a3 a4 I J) (20) ((u2 I 130 0 0)) ?_ ?_
    · show WK K 0 0 20 [(0, .ref 130), (1, .int a0), (2, .int a1), (3, .int a2), (4, .int a3), (5, .int a4), (6, .int (nI 20))] [] ((F_X12_feed_l20 a0 a1 a2 a3 a4 I J (u2 I 130 0 0))) J R n g
      have e2 : (20 : Int32) ≤ (nI 20) := (show nI 20 ≤ nI 20 from nI_le (by omega) (by decide))
      refine w_iload ok dX12_feed_20 6 rfl ?_
      refine w_bipush (v := 20) ok dX12_feed_22 (by decide) ?_
      refine w_icmp_ge (tgt := 110) ok dX12_feed_24 (by decide) (fun _ => ?_) (fun h => absurd e2 h)
      refine w_aload_n ok dX12_feed_110 0 rfl ?_
      refine w_dup ok dX12_feed_111 rfl ?_
      refine w_getI ok dX12_feed_112 (fX12_172 rfl) (congrArg Prod.fst s_130) rfl (ltM hnn (by decide)) ?_
      refine w_bipush (v := 20) ok dX12_feed_115 (by decide) ?_
      refine w_iadd ok dX12_feed_117 ?_
      refine w_putI ok dX12_feed_118 (fwX12_172 rfl) (congrArg Prod.fst s_130) rfl (ltM hnn (by decide)) ?_
      show WK K 0 0 121 [(0, .ref 130), (1, .int a0), (2, .int a1), (3, .int a2), (4, .int a3), (5, .int a4), (6, .int (nI 20))] [] (S1_X12_feed a0 a1 a2 a3 a4 I J) J R n g
      refine w_aload_n ok dX12_feed_121 0 rfl ?_
      refine w_getI ok dX12_feed_122 (fX12_172 rfl) (congrArg Prod.fst s_130) rfl (ltM hnn (by decide)) ?_
      exact w_iret ok fin dX12_feed_125 rfl (by unfold F_X12_feed FI_X12_feed; simp only [if_pos c1]; exact Pd.i)
    · intro i20 s20 hi20 hs20 k20
      show WK K 0 0 20 [(0, .ref 130), (1, .int a0), (2, .int a1), (3, .int a2), (4, .int a3), (5, .int a4), (6, .int (nI i20))] [] s20 J R n g
      have e3 : ¬ ((20 : Int32) ≤ (nI i20)) := (show ¬ (nI 20 ≤ nI i20) from nI_ge (by omega) (by decide))
      refine w_iload ok dX12_feed_20 6 rfl ?_
      refine w_bipush (v := 20) ok dX12_feed_22 (by decide) ?_
      refine w_icmp_ge (tgt := 110) ok dX12_feed_24 (by decide) (fun h => absurd h e3) (fun _ => ?_)
      refine w_iload ok dX12_feed_27 6 rfl ?_
      refine w_iconst (v := 4) ok dX12_feed_29 (by decide) ?_
      refine w_icmp_ge (tgt := 37) ok dX12_feed_30 (by decide) (fun c4 => ?_) (fun c4 => ?_)
      · skip
        refine w_iload ok dX12_feed_37 6 rfl ?_
        refine w_bipush (v := 8) ok dX12_feed_39 (by decide) ?_
        refine w_icmp_ge (tgt := 48) ok dX12_feed_41 (by decide) (fun c5 => ?_) (fun c5 => ?_)
        · skip
          refine w_iload ok dX12_feed_48 6 rfl ?_
          refine w_bipush (v := 12) ok dX12_feed_50 (by decide) ?_
          refine w_icmp_ge (tgt := 59) ok dX12_feed_52 (by decide) (fun c6 => ?_) (fun c6 => ?_)
          · skip
            refine w_iload ok dX12_feed_59 6 rfl ?_
            refine w_bipush (v := 16) ok dX12_feed_61 (by decide) ?_
            refine w_icmp_ge (tgt := 71) ok dX12_feed_63 (by decide) (fun c7 => ?_) (fun c7 => ?_)
            · skip
              refine w_iload ok dX12_feed_71 5 rfl ?_
              refine w_istore ok dX12_feed_73 (by decide) rfl ?_
              refine w_aload_n ok dX12_feed_75 1 rfl ?_
              refine w_getR ok dX12_feed_76 (fX12_7 rfl) (congrArg Prod.fst s_130) rfl (r_130_1 ro) (ltM hnn (by decide)) ?_
              refine w_aload_n ok dX12_feed_79 1 rfl ?_
              refine w_getI ok dX12_feed_80 (fX12_172 rfl) (congrArg Prod.fst s_130) rfl (ltM hnn (by decide)) ?_
              refine w_iload ok dX12_feed_83 7 rfl ?_
              refine w_iadd ok dX12_feed_85 ?_
              refine w_iload ok dX12_feed_86 0 rfl ?_
              refine w_bipush (v := 24) ok dX12_feed_88 (by decide) ?_
              refine w_bipush (v := 8) ok dX12_feed_90 (by decide) ?_
              refine w_iload ok dX12_feed_92 7 rfl ?_
              refine w_iconst (v := 4) ok dX12_feed_94 (by decide) ?_
              refine w_irem ok dX12_feed_95 (by decide) ?_
              refine w_imul ok dX12_feed_96 ?_
              refine w_isub ok dX12_feed_97 ?_
              refine w_ishr ok dX12_feed_98 ?_
              refine w_sipush (v := 255) ok dX12_feed_99 (by decide) ?_
              refine w_iand ok dX12_feed_102 ?_
              refine x_iast (q := ((s20 130 2) + (nI i20)).toNatClampNeg) ok dX12_feed_103 s_131 (hp1 c1 i20 s20 hi20 hs20 c4 c5 c6 c7) (by decide) (ltM hnn (by decide)) ?_
              show WK K 0 0 104 [(7, .int a4), (0, .ref 130), (1, .int a0), (2, .int a1), (3, .int a2), (4, .int a3), (5, .int a4), (6, .int (nI i20))] [] (S2_X12_feed a0 a1 a2 a3 a4 I J i20 s20) J R n g
              refine w_iinc (v := (nI i20) + 1) ok dX12_feed_104 7 rfl rfl (by decide) rfl ?_
              refine w_goto (tgt := 20) ok dX12_feed_107 (by decide) ?_
              have eB : B_X12_feed_l20 a0 a1 a2 a3 a4 I J i20 s20 = (S2_X12_feed a0 a1 a2 a3 a4 I J i20 s20) := by
                unfold B_X12_feed_l20; exact (if_pos c4).trans ((if_pos c5).trans ((if_pos c6).trans ((if_pos c7).trans (rfl))))
              have kk := k20
              rw [eB] at kk
              refine w_loc [2, 3, 4, 5, 6, 7, 0] rfl ?_
              rw [nI_1 i20]
              exact kk
            · skip
              refine w_iload ok dX12_feed_66 4 rfl ?_
              refine w_goto (tgt := 73) ok dX12_feed_68 (by decide) ?_
              refine w_istore ok dX12_feed_73 (by decide) rfl ?_
              refine w_aload_n ok dX12_feed_75 1 rfl ?_
              refine w_getR ok dX12_feed_76 (fX12_7 rfl) (congrArg Prod.fst s_130) rfl (r_130_1 ro) (ltM hnn (by decide)) ?_
              refine w_aload_n ok dX12_feed_79 1 rfl ?_
              refine w_getI ok dX12_feed_80 (fX12_172 rfl) (congrArg Prod.fst s_130) rfl (ltM hnn (by decide)) ?_
              refine w_iload ok dX12_feed_83 7 rfl ?_
              refine w_iadd ok dX12_feed_85 ?_
              refine w_iload ok dX12_feed_86 0 rfl ?_
              refine w_bipush (v := 24) ok dX12_feed_88 (by decide) ?_
              refine w_bipush (v := 8) ok dX12_feed_90 (by decide) ?_
              refine w_iload ok dX12_feed_92 7 rfl ?_
              refine w_iconst (v := 4) ok dX12_feed_94 (by decide) ?_
              refine w_irem ok dX12_feed_95 (by decide) ?_
              refine w_imul ok dX12_feed_96 ?_
              refine w_isub ok dX12_feed_97 ?_
              refine w_ishr ok dX12_feed_98 ?_
              refine w_sipush (v := 255) ok dX12_feed_99 (by decide) ?_
              refine w_iand ok dX12_feed_102 ?_
              refine x_iast (q := ((s20 130 2) + (nI i20)).toNatClampNeg) ok dX12_feed_103 s_131 (hp2 c1 i20 s20 hi20 hs20 c4 c5 c6 c7) (by decide) (ltM hnn (by decide)) ?_
              show WK K 0 0 104 [(7, .int a3), (0, .ref 130), (1, .int a0), (2, .int a1), (3, .int a2), (4, .int a3), (5, .int a4), (6, .int (nI i20))] [] (S3_X12_feed a0 a1 a2 a3 a4 I J i20 s20) J R n g
              refine w_iinc (v := (nI i20) + 1) ok dX12_feed_104 7 rfl rfl (by decide) rfl ?_
              refine w_goto (tgt := 20) ok dX12_feed_107 (by decide) ?_
              have eB : B_X12_feed_l20 a0 a1 a2 a3 a4 I J i20 s20 = (S3_X12_feed a0 a1 a2 a3 a4 I J i20 s20) := by
                unfold B_X12_feed_l20; exact (if_pos c4).trans ((if_pos c5).trans ((if_pos c6).trans ((if_neg c7).trans (rfl))))
              have kk := k20
              rw [eB] at kk
              refine w_loc [2, 3, 4, 5, 6, 7, 0] rfl ?_
              rw [nI_1 i20]
              exact kk
          · skip
            refine w_iload_n ok dX12_feed_55 3 rfl ?_
            refine w_goto (tgt := 73) ok dX12_feed_56 (by decide) ?_
            refine w_istore ok dX12_feed_73 (by decide) rfl ?_
            refine w_aload_n ok dX12_feed_75 1 rfl ?_
            refine w_getR ok dX12_feed_76 (fX12_7 rfl) (congrArg Prod.fst s_130) rfl (r_130_1 ro) (ltM hnn (by decide)) ?_
            refine w_aload_n ok dX12_feed_79 1 rfl ?_
            refine w_getI ok dX12_feed_80 (fX12_172 rfl) (congrArg Prod.fst s_130) rfl (ltM hnn (by decide)) ?_
            refine w_iload ok dX12_feed_83 7 rfl ?_
            refine w_iadd ok dX12_feed_85 ?_
            refine w_iload ok dX12_feed_86 0 rfl ?_
            refine w_bipush (v := 24) ok dX12_feed_88 (by decide) ?_
            refine w_bipush (v := 8) ok dX12_feed_90 (by decide) ?_
            refine w_iload ok dX12_feed_92 7 rfl ?_
            refine w_iconst (v := 4) ok dX12_feed_94 (by decide) ?_
            refine w_irem ok dX12_feed_95 (by decide) ?_
            refine w_imul ok dX12_feed_96 ?_
            refine w_isub ok dX12_feed_97 ?_
            refine w_ishr ok dX12_feed_98 ?_
            refine w_sipush (v := 255) ok dX12_feed_99 (by decide) ?_
            refine w_iand ok dX12_feed_102 ?_
            refine x_iast (q := ((s20 130 2) + (nI i20)).toNatClampNeg) ok dX12_feed_103 s_131 (hp3 c1 i20 s20 hi20 hs20 c4 c5 c6) (by decide) (ltM hnn (by decide)) ?_
            show WK K 0 0 104 [(7, .int a2), (0, .ref 130), (1, .int a0), (2, .int a1), (3, .int a2), (4, .int a3), (5, .int a4), (6, .int (nI i20))] [] (S4_X12_feed a0 a1 a2 a3 a4 I J i20 s20) J R n g
            refine w_iinc (v := (nI i20) + 1) ok dX12_feed_104 7 rfl rfl (by decide) rfl ?_
            refine w_goto (tgt := 20) ok dX12_feed_107 (by decide) ?_
            have eB : B_X12_feed_l20 a0 a1 a2 a3 a4 I J i20 s20 = (S4_X12_feed a0 a1 a2 a3 a4 I J i20 s20) := by
              unfold B_X12_feed_l20; exact (if_pos c4).trans ((if_pos c5).trans ((if_neg c6).trans (rfl)))
            have kk := k20
            rw [eB] at kk
            refine w_loc [2, 3, 4, 5, 6, 7, 0] rfl ?_
            rw [nI_1 i20]
            exact kk
        · skip
          refine w_iload_n ok dX12_feed_44 2 rfl ?_
          refine w_goto (tgt := 73) ok dX12_feed_45 (by decide) ?_
          refine w_istore ok dX12_feed_73 (by decide) rfl ?_
          refine w_aload_n ok dX12_feed_75 1 rfl ?_
          refine w_getR ok dX12_feed_76 (fX12_7 rfl) (congrArg Prod.fst s_130) rfl (r_130_1 ro) (ltM hnn (by decide)) ?_
          refine w_aload_n ok dX12_feed_79 1 rfl ?_
          refine w_getI ok dX12_feed_80 (fX12_172 rfl) (congrArg Prod.fst s_130) rfl (ltM hnn (by decide)) ?_
          refine w_iload ok dX12_feed_83 7 rfl ?_
          refine w_iadd ok dX12_feed_85 ?_
          refine w_iload ok dX12_feed_86 0 rfl ?_
          refine w_bipush (v := 24) ok dX12_feed_88 (by decide) ?_
          refine w_bipush (v := 8) ok dX12_feed_90 (by decide) ?_
          refine w_iload ok dX12_feed_92 7 rfl ?_
          refine w_iconst (v := 4) ok dX12_feed_94 (by decide) ?_
          refine w_irem ok dX12_feed_95 (by decide) ?_
          refine w_imul ok dX12_feed_96 ?_
          refine w_isub ok dX12_feed_97 ?_
          refine w_ishr ok dX12_feed_98 ?_
          refine w_sipush (v := 255) ok dX12_feed_99 (by decide) ?_
          refine w_iand ok dX12_feed_102 ?_
          refine x_iast (q := ((s20 130 2) + (nI i20)).toNatClampNeg) ok dX12_feed_103 s_131 (hp4 c1 i20 s20 hi20 hs20 c4 c5) (by decide) (ltM hnn (by decide)) ?_
          show WK K 0 0 104 [(7, .int a1), (0, .ref 130), (1, .int a0), (2, .int a1), (3, .int a2), (4, .int a3), (5, .int a4), (6, .int (nI i20))] [] (S5_X12_feed a0 a1 a2 a3 a4 I J i20 s20) J R n g
          refine w_iinc (v := (nI i20) + 1) ok dX12_feed_104 7 rfl rfl (by decide) rfl ?_
          refine w_goto (tgt := 20) ok dX12_feed_107 (by decide) ?_
          have eB : B_X12_feed_l20 a0 a1 a2 a3 a4 I J i20 s20 = (S5_X12_feed a0 a1 a2 a3 a4 I J i20 s20) := by
            unfold B_X12_feed_l20; exact (if_pos c4).trans ((if_neg c5).trans (rfl))
          have kk := k20
          rw [eB] at kk
          refine w_loc [2, 3, 4, 5, 6, 7, 0] rfl ?_
          rw [nI_1 i20]
          exact kk
      · skip
        refine w_iload_n ok dX12_feed_33 1 rfl ?_
        refine w_goto (tgt := 73) ok dX12_feed_34 (by decide) ?_
        refine w_istore ok dX12_feed_73 (by decide) rfl ?_
        refine w_aload_n ok dX12_feed_75 1 rfl ?_
        refine w_getR ok dX12_feed_76 (fX12_7 rfl) (congrArg Prod.fst s_130) rfl (r_130_1 ro) (ltM hnn (by decide)) ?_
        refine w_aload_n ok dX12_feed_79 1 rfl ?_
        refine w_getI ok dX12_feed_80 (fX12_172 rfl) (congrArg Prod.fst s_130) rfl (ltM hnn (by decide)) ?_
        refine w_iload ok dX12_feed_83 7 rfl ?_
        refine w_iadd ok dX12_feed_85 ?_
        refine w_iload ok dX12_feed_86 0 rfl ?_
        refine w_bipush (v := 24) ok dX12_feed_88 (by decide) ?_
        refine w_bipush (v := 8) ok dX12_feed_90 (by decide) ?_
        refine w_iload ok dX12_feed_92 7 rfl ?_
        refine w_iconst (v := 4) ok dX12_feed_94 (by decide) ?_
        refine w_irem ok dX12_feed_95 (by decide) ?_
        refine w_imul ok dX12_feed_96 ?_
        refine w_isub ok dX12_feed_97 ?_
        refine w_ishr ok dX12_feed_98 ?_
        refine w_sipush (v := 255) ok dX12_feed_99 (by decide) ?_
        refine w_iand ok dX12_feed_102 ?_
        refine x_iast (q := ((s20 130 2) + (nI i20)).toNatClampNeg) ok dX12_feed_103 s_131 (hp5 c1 i20 s20 hi20 hs20 c4) (by decide) (ltM hnn (by decide)) ?_
        show WK K 0 0 104 [(7, .int a0), (0, .ref 130), (1, .int a0), (2, .int a1), (3, .int a2), (4, .int a3), (5, .int a4), (6, .int (nI i20))] [] (S6_X12_feed a0 a1 a2 a3 a4 I J i20 s20) J R n g
        refine w_iinc (v := (nI i20) + 1) ok dX12_feed_104 7 rfl rfl (by decide) rfl ?_
        refine w_goto (tgt := 20) ok dX12_feed_107 (by decide) ?_
        have eB : B_X12_feed_l20 a0 a1 a2 a3 a4 I J i20 s20 = (S6_X12_feed a0 a1 a2 a3 a4 I J i20 s20) := by
          unfold B_X12_feed_l20; exact (if_neg c4).trans (rfl)
        have kk := k20
        rw [eB] at kk
        refine w_loc [2, 3, 4, 5, 6, 7, 0] rfl ?_
        rw [nI_1 i20]
        exact kk
  · skip
    refine w_iconst (v := (-1)) ok dX12_feed_15 (by decide) ?_
    exact w_iret ok fin dX12_feed_16 rfl (by unfold F_X12_feed FI_X12_feed; simp only [if_neg c1]; exact Pd.i)
def F_X12_here  (I : SI) (J : SJ) : Int32 := if (I 130 25) ≤ (I 130 26) then -1 else I 131 (I 130 26).toNatClampNeg
def H_X12_here  (I : SI) (J : SJ) : Prop := (¬ ((I 130 25) ≤ (I 130 26)) → inR (I 130 26) 700)
set_option maxHeartbeats 1000000 in
set_option maxRecDepth 40000 in
theorem c_X12_here {I : SI} {J : SJ} {R : SR} {n g : Nat} (ro : RM R) (hnn : nM ≤ n)   (hp : H_X12_here  I J) : MM 0 0 0 mX12_here [.ref 130] I J R n g (Pd (some (.int (F_X12_here  I J))) I J R n g) := by
  refine MM.of (by decide) (Nat.le_of_ble_eq_true rfl) fun K ok fin => ?_
  show WK K 0 0 0 [(0, .ref 130)] [] I J R n g
  have hp1 := hp
  refine w_aload_n ok dX12_here_0 0 rfl ?_
  refine w_getI ok dX12_here_1 (fX12_175 rfl) (congrArg Prod.fst s_130) rfl (ltM hnn (by decide)) ?_
  refine w_aload_n ok dX12_here_4 0 rfl ?_
  refine w_getI ok dX12_here_5 (fX12_178 rfl) (congrArg Prod.fst s_130) rfl (ltM hnn (by decide)) ?_
  refine w_icmp_ge (tgt := 23) ok dX12_here_8 (by decide) (fun c1 => ?_) (fun c1 => ?_)
  · skip
    refine w_iconst (v := (-1)) ok dX12_here_23 (by decide) ?_
    exact w_iret ok fin dX12_here_24 rfl (by unfold F_X12_here; simp only [if_pos c1]; exact Pd.i)
  · skip
    refine w_aload_n ok dX12_here_11 0 rfl ?_
    refine w_getR ok dX12_here_12 (fX12_7 rfl) (congrArg Prod.fst s_130) rfl (r_130_1 ro) (ltM hnn (by decide)) ?_
    refine w_aload_n ok dX12_here_15 0 rfl ?_
    refine w_getI ok dX12_here_16 (fX12_175 rfl) (congrArg Prod.fst s_130) rfl (ltM hnn (by decide)) ?_
    refine x_iald (q := (I 130 26).toNatClampNeg) ok dX12_here_19 s_131 (hp1 c1) (by decide) (ltM hnn (by decide)) ?_
    refine w_goto (tgt := 24) ok dX12_here_20 (by decide) ?_
    exact w_iret ok fin dX12_here_24 rfl (by unfold F_X12_here; simp only [if_neg c1]; exact Pd.i)
def F_X12_isSmall (a0 : Int32) (I : SI) (J : SJ) : Int32 := if a0 < 97 then 0 else (if (122 : Int32) < a0 then 0 else 1)
set_option maxHeartbeats 1000000 in
set_option maxRecDepth 40000 in
theorem c_X12_isSmall {I : SI} {J : SJ} {R : SR} {n g : Nat} (ro : RM R) (hnn : nM ≤ n) (a0 : Int32)   : MM 0 0 0 mX12_isSmall [.int a0] I J R n g (Pd (some (.int (F_X12_isSmall a0 I J))) I J R n g) := by
  refine MM.of (by decide) (Nat.le_of_ble_eq_true rfl) fun K ok fin => ?_
  show WK K 0 0 0 [(0, .int a0)] [] I J R n g
  refine w_iload_n ok dX12_isSmall_0 0 rfl ?_
  refine w_bipush (v := 97) ok dX12_isSmall_1 (by decide) ?_
  refine w_icmp_lt (tgt := 16) ok dX12_isSmall_3 (by decide) (fun c1 => ?_) (fun c1 => ?_)
  · skip
    refine w_iconst (v := 0) ok dX12_isSmall_16 (by decide) ?_
    exact w_zret ok fin dX12_isSmall_17 rfl (by decide) (by unfold F_X12_isSmall; simp only [if_pos c1]; exact Pd.i)
  · skip
    refine w_iload_n ok dX12_isSmall_6 0 rfl ?_
    refine w_bipush (v := 122) ok dX12_isSmall_7 (by decide) ?_
    refine w_icmp_gt (tgt := 16) ok dX12_isSmall_9 (by decide) (fun c2 => ?_) (fun c2 => ?_)
    · skip
      refine w_iconst (v := 0) ok dX12_isSmall_16 (by decide) ?_
      exact w_zret ok fin dX12_isSmall_17 rfl (by decide) (by unfold F_X12_isSmall; simp only [if_neg c1]; simp only [if_pos c2]; exact Pd.i)
    · skip
      refine w_iconst (v := 1) ok dX12_isSmall_12 (by decide) ?_
      refine w_goto (tgt := 17) ok dX12_isSmall_13 (by decide) ?_
      exact w_zret ok fin dX12_isSmall_17 rfl (by decide) (by unfold F_X12_isSmall; simp only [if_neg c1]; simp only [if_neg c2]; exact Pd.i)
def F_X12_isDigit (a0 : Int32) (I : SI) (J : SJ) : Int32 := if a0 < 48 then 0 else (if (57 : Int32) < a0 then 0 else 1)
set_option maxHeartbeats 1000000 in
set_option maxRecDepth 40000 in
theorem c_X12_isDigit {I : SI} {J : SJ} {R : SR} {n g : Nat} (ro : RM R) (hnn : nM ≤ n) (a0 : Int32)   : MM 0 0 0 mX12_isDigit [.int a0] I J R n g (Pd (some (.int (F_X12_isDigit a0 I J))) I J R n g) := by
  refine MM.of (by decide) (Nat.le_of_ble_eq_true rfl) fun K ok fin => ?_
  show WK K 0 0 0 [(0, .int a0)] [] I J R n g
  refine w_iload_n ok dX12_isDigit_0 0 rfl ?_
  refine w_bipush (v := 48) ok dX12_isDigit_1 (by decide) ?_
  refine w_icmp_lt (tgt := 16) ok dX12_isDigit_3 (by decide) (fun c1 => ?_) (fun c1 => ?_)
  · skip
    refine w_iconst (v := 0) ok dX12_isDigit_16 (by decide) ?_
    exact w_zret ok fin dX12_isDigit_17 rfl (by decide) (by unfold F_X12_isDigit; simp only [if_pos c1]; exact Pd.i)
  · skip
    refine w_iload_n ok dX12_isDigit_6 0 rfl ?_
    refine w_bipush (v := 57) ok dX12_isDigit_7 (by decide) ?_
    refine w_icmp_gt (tgt := 16) ok dX12_isDigit_9 (by decide) (fun c2 => ?_) (fun c2 => ?_)
    · skip
      refine w_iconst (v := 0) ok dX12_isDigit_16 (by decide) ?_
      exact w_zret ok fin dX12_isDigit_17 rfl (by decide) (by unfold F_X12_isDigit; simp only [if_neg c1]; simp only [if_pos c2]; exact Pd.i)
    · skip
      refine w_iconst (v := 1) ok dX12_isDigit_12 (by decide) ?_
      refine w_goto (tgt := 17) ok dX12_isDigit_13 (by decide) ?_
      exact w_zret ok fin dX12_isDigit_17 rfl (by decide) (by unfold F_X12_isDigit; simp only [if_neg c1]; simp only [if_neg c2]; exact Pd.i)
def S1_X12_sign (a0 : Int32) (I : SI) (J : SJ) : SI := u2 (u2 (u2 (u2 I 130 26 ((I 130 26) + 1)) 130 28 3) 130 29 a0) 130 26 (((u2 (u2 (u2 I 130 26 ((I 130 26) + 1)) 130 28 3) 130 29 a0) 130 26) + 1)
def S2_X12_sign (a0 : Int32) (I : SI) (J : SJ) : SI := u2 (u2 (u2 (u2 I 130 26 ((I 130 26) + 1)) 130 28 3) 130 29 a0) 130 26 (((u2 (u2 (u2 I 130 26 ((I 130 26) + 1)) 130 28 3) 130 29 a0) 130 26) + 1)
def S3_X12_sign (a0 : Int32) (I : SI) (J : SJ) : SI := u2 (u2 (u2 (u2 I 130 26 ((I 130 26) + 1)) 130 28 3) 130 29 a0) 130 29 258
def S4_X12_sign (a0 : Int32) (I : SI) (J : SJ) : SI := u2 (u2 (u2 (u2 I 130 26 ((I 130 26) + 1)) 130 28 3) 130 29 a0) 130 26 (((u2 (u2 (u2 I 130 26 ((I 130 26) + 1)) 130 28 3) 130 29 a0) 130 26) + 1)
def S5_X12_sign (a0 : Int32) (I : SI) (J : SJ) : SI := u2 (u2 (u2 (u2 I 130 26 ((I 130 26) + 1)) 130 28 3) 130 29 a0) 130 26 (((u2 (u2 (u2 I 130 26 ((I 130 26) + 1)) 130 28 3) 130 29 a0) 130 26) + 1)
def S6_X12_sign (a0 : Int32) (I : SI) (J : SJ) : SI := u2 (u2 (u2 (u2 I 130 26 ((I 130 26) + 1)) 130 28 3) 130 29 a0) 130 29 257
def S7_X12_sign (a0 : Int32) (I : SI) (J : SJ) : SI := u2 (u2 (S6_X12_sign a0 I J) 130 29 258) 130 26 (((u2 (S6_X12_sign a0 I J) 130 29 258) 130 26) + 1)
def S8_X12_sign (a0 : Int32) (I : SI) (J : SJ) : SI := u2 (u2 (u2 (u2 I 130 26 ((I 130 26) + 1)) 130 28 3) 130 29 a0) 130 29 256
def S9_X12_sign (a0 : Int32) (I : SI) (J : SJ) : SI := u2 (u2 (S8_X12_sign a0 I J) 130 29 258) 130 26 (((u2 (S8_X12_sign a0 I J) 130 29 258) 130 26) + 1)
def S10_X12_sign (a0 : Int32) (I : SI) (J : SJ) : SI := u2 (u2 (S8_X12_sign a0 I J) 130 29 257) 130 26 (((u2 (S8_X12_sign a0 I J) 130 29 257) 130 26) + 1)
def S11_X12_sign (a0 : Int32) (I : SI) (J : SJ) : SI := u2 (u2 (S8_X12_sign a0 I J) 130 29 257) 130 26 (((u2 (S8_X12_sign a0 I J) 130 29 257) 130 26) + 1)
def S12_X12_sign (a0 : Int32) (I : SI) (J : SJ) : SI := u2 (u2 (u2 (S8_X12_sign a0 I J) 130 29 257) 130 29 258) 130 26 (((u2 (u2 (S8_X12_sign a0 I J) 130 29 257) 130 29 258) 130 26) + 1)
def S13_X12_sign (a0 : Int32) (I : SI) (J : SJ) : SI := u2 (u2 (u2 (u2 I 130 26 ((I 130 26) + 1)) 130 28 3) 130 29 a0) 130 26 (((u2 (u2 (u2 I 130 26 ((I 130 26) + 1)) 130 28 3) 130 29 a0) 130 26) + 1)
def S14_X12_sign (a0 : Int32) (I : SI) (J : SJ) : SI := u2 (u2 (u2 (u2 I 130 26 ((I 130 26) + 1)) 130 28 3) 130 29 a0) 130 26 (((u2 (u2 (u2 I 130 26 ((I 130 26) + 1)) 130 28 3) 130 29 a0) 130 26) + 1)
def S15_X12_sign (a0 : Int32) (I : SI) (J : SJ) : SI := u2 (u2 (u2 (u2 I 130 26 ((I 130 26) + 1)) 130 28 3) 130 29 a0) 130 29 258
def S16_X12_sign (a0 : Int32) (I : SI) (J : SJ) : SI := u2 (u2 (u2 (u2 I 130 26 ((I 130 26) + 1)) 130 28 3) 130 29 a0) 130 26 (((u2 (u2 (u2 I 130 26 ((I 130 26) + 1)) 130 28 3) 130 29 a0) 130 26) + 1)
def S17_X12_sign (a0 : Int32) (I : SI) (J : SJ) : SI := u2 (u2 (u2 (u2 I 130 26 ((I 130 26) + 1)) 130 28 3) 130 29 a0) 130 26 (((u2 (u2 (u2 I 130 26 ((I 130 26) + 1)) 130 28 3) 130 29 a0) 130 26) + 1)
def S18_X12_sign (a0 : Int32) (I : SI) (J : SJ) : SI := u2 (u2 (u2 (u2 I 130 26 ((I 130 26) + 1)) 130 28 3) 130 29 a0) 130 29 257
def S19_X12_sign (a0 : Int32) (I : SI) (J : SJ) : SI := u2 (u2 (S18_X12_sign a0 I J) 130 29 258) 130 26 (((u2 (S18_X12_sign a0 I J) 130 29 258) 130 26) + 1)
def S20_X12_sign (a0 : Int32) (I : SI) (J : SJ) : SI := u2 (u2 (u2 (u2 I 130 26 ((I 130 26) + 1)) 130 28 3) 130 29 a0) 130 29 256
def S21_X12_sign (a0 : Int32) (I : SI) (J : SJ) : SI := u2 (u2 (S20_X12_sign a0 I J) 130 29 258) 130 26 (((u2 (S20_X12_sign a0 I J) 130 29 258) 130 26) + 1)
def S22_X12_sign (a0 : Int32) (I : SI) (J : SJ) : SI := u2 (u2 (S20_X12_sign a0 I J) 130 29 257) 130 26 (((u2 (S20_X12_sign a0 I J) 130 29 257) 130 26) + 1)
def S23_X12_sign (a0 : Int32) (I : SI) (J : SJ) : SI := u2 (u2 (S20_X12_sign a0 I J) 130 29 257) 130 26 (((u2 (S20_X12_sign a0 I J) 130 29 257) 130 26) + 1)
def S24_X12_sign (a0 : Int32) (I : SI) (J : SJ) : SI := u2 (u2 (u2 (S20_X12_sign a0 I J) 130 29 257) 130 29 258) 130 26 (((u2 (u2 (S20_X12_sign a0 I J) 130 29 257) 130 29 258) 130 26) + 1)
def S25_X12_sign (a0 : Int32) (I : SI) (J : SJ) : SI := u2 (u2 (u2 (u2 I 130 26 ((I 130 26) + 1)) 130 28 3) 130 29 a0) 130 26 (((u2 (u2 (u2 I 130 26 ((I 130 26) + 1)) 130 28 3) 130 29 a0) 130 26) + 1)
def S26_X12_sign (a0 : Int32) (I : SI) (J : SJ) : SI := u2 (u2 (u2 (u2 I 130 26 ((I 130 26) + 1)) 130 28 3) 130 29 a0) 130 26 (((u2 (u2 (u2 I 130 26 ((I 130 26) + 1)) 130 28 3) 130 29 a0) 130 26) + 1)
def S27_X12_sign (a0 : Int32) (I : SI) (J : SJ) : SI := u2 (u2 (u2 (u2 I 130 26 ((I 130 26) + 1)) 130 28 3) 130 29 a0) 130 29 258
def S28_X12_sign (a0 : Int32) (I : SI) (J : SJ) : SI := u2 (u2 (u2 (u2 I 130 26 ((I 130 26) + 1)) 130 28 3) 130 29 a0) 130 26 (((u2 (u2 (u2 I 130 26 ((I 130 26) + 1)) 130 28 3) 130 29 a0) 130 26) + 1)
def S29_X12_sign (a0 : Int32) (I : SI) (J : SJ) : SI := u2 (u2 (u2 (u2 I 130 26 ((I 130 26) + 1)) 130 28 3) 130 29 a0) 130 26 (((u2 (u2 (u2 I 130 26 ((I 130 26) + 1)) 130 28 3) 130 29 a0) 130 26) + 1)
def S30_X12_sign (a0 : Int32) (I : SI) (J : SJ) : SI := u2 (u2 (u2 (u2 I 130 26 ((I 130 26) + 1)) 130 28 3) 130 29 a0) 130 29 257
def S31_X12_sign (a0 : Int32) (I : SI) (J : SJ) : SI := u2 (u2 (S30_X12_sign a0 I J) 130 29 258) 130 26 (((u2 (S30_X12_sign a0 I J) 130 29 258) 130 26) + 1)
def S32_X12_sign (a0 : Int32) (I : SI) (J : SJ) : SI := u2 (u2 (u2 (u2 I 130 26 ((I 130 26) + 1)) 130 28 3) 130 29 a0) 130 29 256
def S33_X12_sign (a0 : Int32) (I : SI) (J : SJ) : SI := u2 (u2 (S32_X12_sign a0 I J) 130 29 258) 130 26 (((u2 (S32_X12_sign a0 I J) 130 29 258) 130 26) + 1)
def S34_X12_sign (a0 : Int32) (I : SI) (J : SJ) : SI := u2 (u2 (S32_X12_sign a0 I J) 130 29 257) 130 26 (((u2 (S32_X12_sign a0 I J) 130 29 257) 130 26) + 1)
def S35_X12_sign (a0 : Int32) (I : SI) (J : SJ) : SI := u2 (u2 (S32_X12_sign a0 I J) 130 29 257) 130 26 (((u2 (S32_X12_sign a0 I J) 130 29 257) 130 26) + 1)
def S36_X12_sign (a0 : Int32) (I : SI) (J : SJ) : SI := u2 (u2 (u2 (S32_X12_sign a0 I J) 130 29 257) 130 29 258) 130 26 (((u2 (u2 (S32_X12_sign a0 I J) 130 29 257) 130 29 258) 130 26) + 1)
def S37_X12_sign (a0 : Int32) (I : SI) (J : SJ) : SI := u2 (u2 (u2 (u2 I 130 26 ((I 130 26) + 1)) 130 28 3) 130 29 a0) 130 26 (((u2 (u2 (u2 I 130 26 ((I 130 26) + 1)) 130 28 3) 130 29 a0) 130 26) + 1)
def S38_X12_sign (a0 : Int32) (I : SI) (J : SJ) : SI := u2 (u2 (u2 (u2 I 130 26 ((I 130 26) + 1)) 130 28 3) 130 29 a0) 130 26 (((u2 (u2 (u2 I 130 26 ((I 130 26) + 1)) 130 28 3) 130 29 a0) 130 26) + 1)
def S39_X12_sign (a0 : Int32) (I : SI) (J : SJ) : SI := u2 (u2 (u2 (u2 I 130 26 ((I 130 26) + 1)) 130 28 3) 130 29 a0) 130 29 258
def S40_X12_sign (a0 : Int32) (I : SI) (J : SJ) : SI := u2 (u2 (u2 (u2 I 130 26 ((I 130 26) + 1)) 130 28 3) 130 29 a0) 130 26 (((u2 (u2 (u2 I 130 26 ((I 130 26) + 1)) 130 28 3) 130 29 a0) 130 26) + 1)
def S41_X12_sign (a0 : Int32) (I : SI) (J : SJ) : SI := u2 (u2 (u2 (u2 I 130 26 ((I 130 26) + 1)) 130 28 3) 130 29 a0) 130 26 (((u2 (u2 (u2 I 130 26 ((I 130 26) + 1)) 130 28 3) 130 29 a0) 130 26) + 1)
def S42_X12_sign (a0 : Int32) (I : SI) (J : SJ) : SI := u2 (u2 (u2 (u2 I 130 26 ((I 130 26) + 1)) 130 28 3) 130 29 a0) 130 29 257
def S43_X12_sign (a0 : Int32) (I : SI) (J : SJ) : SI := u2 (u2 (S42_X12_sign a0 I J) 130 29 258) 130 26 (((u2 (S42_X12_sign a0 I J) 130 29 258) 130 26) + 1)
def S44_X12_sign (a0 : Int32) (I : SI) (J : SJ) : SI := u2 (u2 (u2 (u2 I 130 26 ((I 130 26) + 1)) 130 28 3) 130 29 a0) 130 29 256
def S45_X12_sign (a0 : Int32) (I : SI) (J : SJ) : SI := u2 (u2 (S44_X12_sign a0 I J) 130 29 258) 130 26 (((u2 (S44_X12_sign a0 I J) 130 29 258) 130 26) + 1)
def S46_X12_sign (a0 : Int32) (I : SI) (J : SJ) : SI := u2 (u2 (S44_X12_sign a0 I J) 130 29 257) 130 26 (((u2 (S44_X12_sign a0 I J) 130 29 257) 130 26) + 1)
def S47_X12_sign (a0 : Int32) (I : SI) (J : SJ) : SI := u2 (u2 (S44_X12_sign a0 I J) 130 29 257) 130 26 (((u2 (S44_X12_sign a0 I J) 130 29 257) 130 26) + 1)
def S48_X12_sign (a0 : Int32) (I : SI) (J : SJ) : SI := u2 (u2 (u2 (S44_X12_sign a0 I J) 130 29 257) 130 29 258) 130 26 (((u2 (u2 (S44_X12_sign a0 I J) 130 29 257) 130 29 258) 130 26) + 1)
def S49_X12_sign (a0 : Int32) (I : SI) (J : SJ) : SI := u2 (u2 (u2 (u2 I 130 26 ((I 130 26) + 1)) 130 28 3) 130 29 a0) 130 26 (((u2 (u2 (u2 I 130 26 ((I 130 26) + 1)) 130 28 3) 130 29 a0) 130 26) + 1)
def S50_X12_sign (a0 : Int32) (I : SI) (J : SJ) : SI := u2 (u2 (u2 (u2 I 130 26 ((I 130 26) + 1)) 130 28 3) 130 29 a0) 130 26 (((u2 (u2 (u2 I 130 26 ((I 130 26) + 1)) 130 28 3) 130 29 a0) 130 26) + 1)
def S51_X12_sign (a0 : Int32) (I : SI) (J : SJ) : SI := u2 (u2 (u2 (u2 I 130 26 ((I 130 26) + 1)) 130 28 3) 130 29 a0) 130 29 258
def S52_X12_sign (a0 : Int32) (I : SI) (J : SJ) : SI := u2 (u2 (u2 (u2 I 130 26 ((I 130 26) + 1)) 130 28 3) 130 29 a0) 130 26 (((u2 (u2 (u2 I 130 26 ((I 130 26) + 1)) 130 28 3) 130 29 a0) 130 26) + 1)
def S53_X12_sign (a0 : Int32) (I : SI) (J : SJ) : SI := u2 (u2 (u2 (u2 I 130 26 ((I 130 26) + 1)) 130 28 3) 130 29 a0) 130 26 (((u2 (u2 (u2 I 130 26 ((I 130 26) + 1)) 130 28 3) 130 29 a0) 130 26) + 1)
def S54_X12_sign (a0 : Int32) (I : SI) (J : SJ) : SI := u2 (u2 (u2 (u2 I 130 26 ((I 130 26) + 1)) 130 28 3) 130 29 a0) 130 29 257
def S55_X12_sign (a0 : Int32) (I : SI) (J : SJ) : SI := u2 (u2 (S54_X12_sign a0 I J) 130 29 258) 130 26 (((u2 (S54_X12_sign a0 I J) 130 29 258) 130 26) + 1)
def S56_X12_sign (a0 : Int32) (I : SI) (J : SJ) : SI := u2 (u2 (u2 (u2 I 130 26 ((I 130 26) + 1)) 130 28 3) 130 29 a0) 130 29 256
def S57_X12_sign (a0 : Int32) (I : SI) (J : SJ) : SI := u2 (u2 (S56_X12_sign a0 I J) 130 29 258) 130 26 (((u2 (S56_X12_sign a0 I J) 130 29 258) 130 26) + 1)
def S58_X12_sign (a0 : Int32) (I : SI) (J : SJ) : SI := u2 (u2 (S56_X12_sign a0 I J) 130 29 257) 130 26 (((u2 (S56_X12_sign a0 I J) 130 29 257) 130 26) + 1)
def S59_X12_sign (a0 : Int32) (I : SI) (J : SJ) : SI := u2 (u2 (S56_X12_sign a0 I J) 130 29 257) 130 26 (((u2 (S56_X12_sign a0 I J) 130 29 257) 130 26) + 1)
def S60_X12_sign (a0 : Int32) (I : SI) (J : SJ) : SI := u2 (u2 (u2 (S56_X12_sign a0 I J) 130 29 257) 130 29 258) 130 26 (((u2 (u2 (S56_X12_sign a0 I J) 130 29 257) 130 29 258) 130 26) + 1)
def S61_X12_sign (a0 : Int32) (I : SI) (J : SJ) : SI := u2 (u2 (u2 (u2 I 130 26 ((I 130 26) + 1)) 130 28 3) 130 29 a0) 130 26 (((u2 (u2 (u2 I 130 26 ((I 130 26) + 1)) 130 28 3) 130 29 a0) 130 26) + 1)
def S62_X12_sign (a0 : Int32) (I : SI) (J : SJ) : SI := u2 (u2 (u2 (u2 I 130 26 ((I 130 26) + 1)) 130 28 3) 130 29 a0) 130 26 (((u2 (u2 (u2 I 130 26 ((I 130 26) + 1)) 130 28 3) 130 29 a0) 130 26) + 1)
def S63_X12_sign (a0 : Int32) (I : SI) (J : SJ) : SI := u2 (u2 (u2 (u2 I 130 26 ((I 130 26) + 1)) 130 28 3) 130 29 a0) 130 29 258
def S64_X12_sign (a0 : Int32) (I : SI) (J : SJ) : SI := u2 (u2 (u2 (u2 I 130 26 ((I 130 26) + 1)) 130 28 3) 130 29 a0) 130 26 (((u2 (u2 (u2 I 130 26 ((I 130 26) + 1)) 130 28 3) 130 29 a0) 130 26) + 1)
def S65_X12_sign (a0 : Int32) (I : SI) (J : SJ) : SI := u2 (u2 (u2 (u2 I 130 26 ((I 130 26) + 1)) 130 28 3) 130 29 a0) 130 26 (((u2 (u2 (u2 I 130 26 ((I 130 26) + 1)) 130 28 3) 130 29 a0) 130 26) + 1)
def S66_X12_sign (a0 : Int32) (I : SI) (J : SJ) : SI := u2 (u2 (u2 (u2 I 130 26 ((I 130 26) + 1)) 130 28 3) 130 29 a0) 130 29 257
def S67_X12_sign (a0 : Int32) (I : SI) (J : SJ) : SI := u2 (u2 (S66_X12_sign a0 I J) 130 29 258) 130 26 (((u2 (S66_X12_sign a0 I J) 130 29 258) 130 26) + 1)
def S68_X12_sign (a0 : Int32) (I : SI) (J : SJ) : SI := u2 (u2 (u2 (u2 I 130 26 ((I 130 26) + 1)) 130 28 3) 130 29 a0) 130 29 256
def S69_X12_sign (a0 : Int32) (I : SI) (J : SJ) : SI := u2 (u2 (S68_X12_sign a0 I J) 130 29 258) 130 26 (((u2 (S68_X12_sign a0 I J) 130 29 258) 130 26) + 1)
def S70_X12_sign (a0 : Int32) (I : SI) (J : SJ) : SI := u2 (u2 (S68_X12_sign a0 I J) 130 29 257) 130 26 (((u2 (S68_X12_sign a0 I J) 130 29 257) 130 26) + 1)
def S71_X12_sign (a0 : Int32) (I : SI) (J : SJ) : SI := u2 (u2 (S68_X12_sign a0 I J) 130 29 257) 130 26 (((u2 (S68_X12_sign a0 I J) 130 29 257) 130 26) + 1)
def S72_X12_sign (a0 : Int32) (I : SI) (J : SJ) : SI := u2 (u2 (u2 (S68_X12_sign a0 I J) 130 29 257) 130 29 258) 130 26 (((u2 (u2 (S68_X12_sign a0 I J) 130 29 257) 130 29 258) 130 26) + 1)
def S73_X12_sign (a0 : Int32) (I : SI) (J : SJ) : SI := u2 (u2 (u2 (u2 I 130 26 ((I 130 26) + 1)) 130 28 3) 130 29 a0) 130 26 (((u2 (u2 (u2 I 130 26 ((I 130 26) + 1)) 130 28 3) 130 29 a0) 130 26) + 1)
def S74_X12_sign (a0 : Int32) (I : SI) (J : SJ) : SI := u2 (u2 (u2 (u2 I 130 26 ((I 130 26) + 1)) 130 28 3) 130 29 a0) 130 26 (((u2 (u2 (u2 I 130 26 ((I 130 26) + 1)) 130 28 3) 130 29 a0) 130 26) + 1)
def S75_X12_sign (a0 : Int32) (I : SI) (J : SJ) : SI := u2 (u2 (u2 (u2 I 130 26 ((I 130 26) + 1)) 130 28 3) 130 29 a0) 130 29 258
def S76_X12_sign (a0 : Int32) (I : SI) (J : SJ) : SI := u2 (u2 (u2 (u2 I 130 26 ((I 130 26) + 1)) 130 28 3) 130 29 a0) 130 26 (((u2 (u2 (u2 I 130 26 ((I 130 26) + 1)) 130 28 3) 130 29 a0) 130 26) + 1)
def S77_X12_sign (a0 : Int32) (I : SI) (J : SJ) : SI := u2 (u2 (u2 (u2 I 130 26 ((I 130 26) + 1)) 130 28 3) 130 29 a0) 130 26 (((u2 (u2 (u2 I 130 26 ((I 130 26) + 1)) 130 28 3) 130 29 a0) 130 26) + 1)
def S78_X12_sign (a0 : Int32) (I : SI) (J : SJ) : SI := u2 (u2 (u2 (u2 I 130 26 ((I 130 26) + 1)) 130 28 3) 130 29 a0) 130 29 257
def S79_X12_sign (a0 : Int32) (I : SI) (J : SJ) : SI := u2 (u2 (S78_X12_sign a0 I J) 130 29 258) 130 26 (((u2 (S78_X12_sign a0 I J) 130 29 258) 130 26) + 1)
def S80_X12_sign (a0 : Int32) (I : SI) (J : SJ) : SI := u2 (u2 (u2 (u2 I 130 26 ((I 130 26) + 1)) 130 28 3) 130 29 a0) 130 29 256
def S81_X12_sign (a0 : Int32) (I : SI) (J : SJ) : SI := u2 (u2 (S80_X12_sign a0 I J) 130 29 258) 130 26 (((u2 (S80_X12_sign a0 I J) 130 29 258) 130 26) + 1)
def S82_X12_sign (a0 : Int32) (I : SI) (J : SJ) : SI := u2 (u2 (S80_X12_sign a0 I J) 130 29 257) 130 26 (((u2 (S80_X12_sign a0 I J) 130 29 257) 130 26) + 1)
def S83_X12_sign (a0 : Int32) (I : SI) (J : SJ) : SI := u2 (u2 (S80_X12_sign a0 I J) 130 29 257) 130 26 (((u2 (S80_X12_sign a0 I J) 130 29 257) 130 26) + 1)
def S84_X12_sign (a0 : Int32) (I : SI) (J : SJ) : SI := u2 (u2 (u2 (S80_X12_sign a0 I J) 130 29 257) 130 29 258) 130 26 (((u2 (u2 (S80_X12_sign a0 I J) 130 29 257) 130 29 258) 130 26) + 1)
def S85_X12_sign (a0 : Int32) (I : SI) (J : SJ) : SI := u2 (u2 (u2 (u2 I 130 26 ((I 130 26) + 1)) 130 28 3) 130 29 a0) 130 26 (((u2 (u2 (u2 I 130 26 ((I 130 26) + 1)) 130 28 3) 130 29 a0) 130 26) + 1)
def S86_X12_sign (a0 : Int32) (I : SI) (J : SJ) : SI := u2 (u2 (u2 (u2 I 130 26 ((I 130 26) + 1)) 130 28 3) 130 29 a0) 130 26 (((u2 (u2 (u2 I 130 26 ((I 130 26) + 1)) 130 28 3) 130 29 a0) 130 26) + 1)
def S87_X12_sign (a0 : Int32) (I : SI) (J : SJ) : SI := u2 (u2 (u2 (u2 I 130 26 ((I 130 26) + 1)) 130 28 3) 130 29 a0) 130 29 257
def S88_X12_sign (a0 : Int32) (I : SI) (J : SJ) : SI := u2 (u2 (S87_X12_sign a0 I J) 130 29 258) 130 26 (((u2 (S87_X12_sign a0 I J) 130 29 258) 130 26) + 1)
def S89_X12_sign (a0 : Int32) (I : SI) (J : SJ) : SI := u2 (u2 (u2 (u2 I 130 26 ((I 130 26) + 1)) 130 28 3) 130 29 a0) 130 29 256
def S90_X12_sign (a0 : Int32) (I : SI) (J : SJ) : SI := u2 (u2 (S89_X12_sign a0 I J) 130 29 258) 130 26 (((u2 (S89_X12_sign a0 I J) 130 29 258) 130 26) + 1)
def S91_X12_sign (a0 : Int32) (I : SI) (J : SJ) : SI := u2 (u2 (S89_X12_sign a0 I J) 130 29 257) 130 26 (((u2 (S89_X12_sign a0 I J) 130 29 257) 130 26) + 1)
def S92_X12_sign (a0 : Int32) (I : SI) (J : SJ) : SI := u2 (u2 (S89_X12_sign a0 I J) 130 29 257) 130 26 (((u2 (S89_X12_sign a0 I J) 130 29 257) 130 26) + 1)
def S93_X12_sign (a0 : Int32) (I : SI) (J : SJ) : SI := u2 (u2 (u2 (S89_X12_sign a0 I J) 130 29 257) 130 29 258) 130 26 (((u2 (u2 (S89_X12_sign a0 I J) 130 29 257) 130 29 258) 130 26) + 1)
def S94_X12_sign (a0 : Int32) (I : SI) (J : SJ) : SI := u2 (u2 (u2 (u2 I 130 26 ((I 130 26) + 1)) 130 28 3) 130 29 a0) 130 26 (((u2 (u2 (u2 I 130 26 ((I 130 26) + 1)) 130 28 3) 130 29 a0) 130 26) + 1)
def S95_X12_sign (a0 : Int32) (I : SI) (J : SJ) : SI := u2 (u2 (u2 (u2 I 130 26 ((I 130 26) + 1)) 130 28 3) 130 29 a0) 130 26 (((u2 (u2 (u2 I 130 26 ((I 130 26) + 1)) 130 28 3) 130 29 a0) 130 26) + 1)
def S96_X12_sign (a0 : Int32) (I : SI) (J : SJ) : SI := u2 (u2 (u2 (u2 I 130 26 ((I 130 26) + 1)) 130 28 3) 130 29 a0) 130 29 258
def S97_X12_sign (a0 : Int32) (I : SI) (J : SJ) : SI := u2 (u2 (u2 (u2 I 130 26 ((I 130 26) + 1)) 130 28 5) 130 29 a0) 130 26 (((u2 (u2 (u2 I 130 26 ((I 130 26) + 1)) 130 28 5) 130 29 a0) 130 26) + 1)
def S98_X12_sign (a0 : Int32) (I : SI) (J : SJ) : SI := u2 (u2 (u2 (u2 I 130 26 ((I 130 26) + 1)) 130 28 3) 130 29 a0) 130 26 (((u2 (u2 (u2 I 130 26 ((I 130 26) + 1)) 130 28 3) 130 29 a0) 130 26) + 1)
def S99_X12_sign (a0 : Int32) (I : SI) (J : SJ) : SI := u2 (u2 (u2 (u2 I 130 26 ((I 130 26) + 1)) 130 28 3) 130 29 a0) 130 29 258
def FI_X12_sign (a0 : Int32) (I : SI) (J : SJ) : SI := if a0 = 59 then (if a0 = 60 then (if (F_X12_here  (u2 (u2 (u2 I 130 26 ((I 130 26) + 1)) 130 28 3) 130 29 a0) J) = 61 then (if (F_X12_here  (S8_X12_sign a0 I J) J) = 62 then (if a0 = 62 then (if (F_X12_here  (u2 (S8_X12_sign a0 I J) 130 29 257) J) = 61 then (if ((u2 (u2 (S8_X12_sign a0 I J) 130 29 257) 130 29 258) 130 29) < 256 then u2 (u2 (S8_X12_sign a0 I J) 130 29 257) 130 29 258 else (S12_X12_sign a0 I J)) else (if ((u2 (S8_X12_sign a0 I J) 130 29 257) 130 29) < 256 then u2 (S8_X12_sign a0 I J) 130 29 257 else (S11_X12_sign a0 I J))) else (if ((u2 (S8_X12_sign a0 I J) 130 29 257) 130 29) < 256 then u2 (S8_X12_sign a0 I J) 130 29 257 else (S10_X12_sign a0 I J))) else (if a0 = 62 then (if (F_X12_here  (S8_X12_sign a0 I J) J) = 61 then (if ((u2 (S8_X12_sign a0 I J) 130 29 258) 130 29) < 256 then u2 (S8_X12_sign a0 I J) 130 29 258 else (S9_X12_sign a0 I J)) else (if (((S8_X12_sign a0 I J)) 130 29) < 256 then (S8_X12_sign a0 I J) else u2 (S8_X12_sign a0 I J) 130 26 ((((S8_X12_sign a0 I J)) 130 26) + 1))) else (if (((S8_X12_sign a0 I J)) 130 29) < 256 then (S8_X12_sign a0 I J) else u2 (S8_X12_sign a0 I J) 130 26 ((((S8_X12_sign a0 I J)) 130 26) + 1)))) else (if (F_X12_here  (u2 (u2 (u2 I 130 26 ((I 130 26) + 1)) 130 28 3) 130 29 a0) J) = 62 then (if a0 = 62 then (if (F_X12_here  (S6_X12_sign a0 I J) J) = 61 then (if ((u2 (S6_X12_sign a0 I J) 130 29 258) 130 29) < 256 then u2 (S6_X12_sign a0 I J) 130 29 258 else (S7_X12_sign a0 I J)) else (if (((S6_X12_sign a0 I J)) 130 29) < 256 then (S6_X12_sign a0 I J) else u2 (S6_X12_sign a0 I J) 130 26 ((((S6_X12_sign a0 I J)) 130 26) + 1))) else (if (((S6_X12_sign a0 I J)) 130 29) < 256 then (S6_X12_sign a0 I J) else u2 (S6_X12_sign a0 I J) 130 26 ((((S6_X12_sign a0 I J)) 130 26) + 1))) else (if a0 = 62 then (if ((u2 (u2 (u2 I 130 26 ((I 130 26) + 1)) 130 28 3) 130 29 a0) 130 29) < 256 then u2 (u2 (u2 I 130 26 ((I 130 26) + 1)) 130 28 3) 130 29 a0 else (S5_X12_sign a0 I J)) else (if ((u2 (u2 (u2 I 130 26 ((I 130 26) + 1)) 130 28 3) 130 29 a0) 130 29) < 256 then u2 (u2 (u2 I 130 26 ((I 130 26) + 1)) 130 28 3) 130 29 a0 else (S4_X12_sign a0 I J))))) else (if a0 = 62 then (if (F_X12_here  (u2 (u2 (u2 I 130 26 ((I 130 26) + 1)) 130 28 3) 130 29 a0) J) = 61 then (if (((S3_X12_sign a0 I J)) 130 29) < 256 then (S3_X12_sign a0 I J) else u2 (S3_X12_sign a0 I J) 130 26 ((((S3_X12_sign a0 I J)) 130 26) + 1)) else (if ((u2 (u2 (u2 I 130 26 ((I 130 26) + 1)) 130 28 3) 130 29 a0) 130 29) < 256 then u2 (u2 (u2 I 130 26 ((I 130 26) + 1)) 130 28 3) 130 29 a0 else (S2_X12_sign a0 I J))) else (if ((u2 (u2 (u2 I 130 26 ((I 130 26) + 1)) 130 28 3) 130 29 a0) 130 29) < 256 then u2 (u2 (u2 I 130 26 ((I 130 26) + 1)) 130 28 3) 130 29 a0 else (S1_X12_sign a0 I J)))) else (if a0 = 40 then (if a0 = 60 then (if (F_X12_here  (u2 (u2 (u2 I 130 26 ((I 130 26) + 1)) 130 28 3) 130 29 a0) J) = 61 then (if (F_X12_here  (S20_X12_sign a0 I J) J) = 62 then (if a0 = 62 then (if (F_X12_here  (u2 (S20_X12_sign a0 I J) 130 29 257) J) = 61 then (if ((u2 (u2 (S20_X12_sign a0 I J) 130 29 257) 130 29 258) 130 29) < 256 then u2 (u2 (S20_X12_sign a0 I J) 130 29 257) 130 29 258 else (S24_X12_sign a0 I J)) else (if ((u2 (S20_X12_sign a0 I J) 130 29 257) 130 29) < 256 then u2 (S20_X12_sign a0 I J) 130 29 257 else (S23_X12_sign a0 I J))) else (if ((u2 (S20_X12_sign a0 I J) 130 29 257) 130 29) < 256 then u2 (S20_X12_sign a0 I J) 130 29 257 else (S22_X12_sign a0 I J))) else (if a0 = 62 then (if (F_X12_here  (S20_X12_sign a0 I J) J) = 61 then (if ((u2 (S20_X12_sign a0 I J) 130 29 258) 130 29) < 256 then u2 (S20_X12_sign a0 I J) 130 29 258 else (S21_X12_sign a0 I J)) else (if (((S20_X12_sign a0 I J)) 130 29) < 256 then (S20_X12_sign a0 I J) else u2 (S20_X12_sign a0 I J) 130 26 ((((S20_X12_sign a0 I J)) 130 26) + 1))) else (if (((S20_X12_sign a0 I J)) 130 29) < 256 then (S20_X12_sign a0 I J) else u2 (S20_X12_sign a0 I J) 130 26 ((((S20_X12_sign a0 I J)) 130 26) + 1)))) else (if (F_X12_here  (u2 (u2 (u2 I 130 26 ((I 130 26) + 1)) 130 28 3) 130 29 a0) J) = 62 then (if a0 = 62 then (if (F_X12_here  (S18_X12_sign a0 I J) J) = 61 then (if ((u2 (S18_X12_sign a0 I J) 130 29 258) 130 29) < 256 then u2 (S18_X12_sign a0 I J) 130 29 258 else (S19_X12_sign a0 I J)) else (if (((S18_X12_sign a0 I J)) 130 29) < 256 then (S18_X12_sign a0 I J) else u2 (S18_X12_sign a0 I J) 130 26 ((((S18_X12_sign a0 I J)) 130 26) + 1))) else (if (((S18_X12_sign a0 I J)) 130 29) < 256 then (S18_X12_sign a0 I J) else u2 (S18_X12_sign a0 I J) 130 26 ((((S18_X12_sign a0 I J)) 130 26) + 1))) else (if a0 = 62 then (if ((u2 (u2 (u2 I 130 26 ((I 130 26) + 1)) 130 28 3) 130 29 a0) 130 29) < 256 then u2 (u2 (u2 I 130 26 ((I 130 26) + 1)) 130 28 3) 130 29 a0 else (S17_X12_sign a0 I J)) else (if ((u2 (u2 (u2 I 130 26 ((I 130 26) + 1)) 130 28 3) 130 29 a0) 130 29) < 256 then u2 (u2 (u2 I 130 26 ((I 130 26) + 1)) 130 28 3) 130 29 a0 else (S16_X12_sign a0 I J))))) else (if a0 = 62 then (if (F_X12_here  (u2 (u2 (u2 I 130 26 ((I 130 26) + 1)) 130 28 3) 130 29 a0) J) = 61 then (if (((S15_X12_sign a0 I J)) 130 29) < 256 then (S15_X12_sign a0 I J) else u2 (S15_X12_sign a0 I J) 130 26 ((((S15_X12_sign a0 I J)) 130 26) + 1)) else (if ((u2 (u2 (u2 I 130 26 ((I 130 26) + 1)) 130 28 3) 130 29 a0) 130 29) < 256 then u2 (u2 (u2 I 130 26 ((I 130 26) + 1)) 130 28 3) 130 29 a0 else (S14_X12_sign a0 I J))) else (if ((u2 (u2 (u2 I 130 26 ((I 130 26) + 1)) 130 28 3) 130 29 a0) 130 29) < 256 then u2 (u2 (u2 I 130 26 ((I 130 26) + 1)) 130 28 3) 130 29 a0 else (S13_X12_sign a0 I J)))) else (if a0 = 41 then (if a0 = 60 then (if (F_X12_here  (u2 (u2 (u2 I 130 26 ((I 130 26) + 1)) 130 28 3) 130 29 a0) J) = 61 then (if (F_X12_here  (S32_X12_sign a0 I J) J) = 62 then (if a0 = 62 then (if (F_X12_here  (u2 (S32_X12_sign a0 I J) 130 29 257) J) = 61 then (if ((u2 (u2 (S32_X12_sign a0 I J) 130 29 257) 130 29 258) 130 29) < 256 then u2 (u2 (S32_X12_sign a0 I J) 130 29 257) 130 29 258 else (S36_X12_sign a0 I J)) else (if ((u2 (S32_X12_sign a0 I J) 130 29 257) 130 29) < 256 then u2 (S32_X12_sign a0 I J) 130 29 257 else (S35_X12_sign a0 I J))) else (if ((u2 (S32_X12_sign a0 I J) 130 29 257) 130 29) < 256 then u2 (S32_X12_sign a0 I J) 130 29 257 else (S34_X12_sign a0 I J))) else (if a0 = 62 then (if (F_X12_here  (S32_X12_sign a0 I J) J) = 61 then (if ((u2 (S32_X12_sign a0 I J) 130 29 258) 130 29) < 256 then u2 (S32_X12_sign a0 I J) 130 29 258 else (S33_X12_sign a0 I J)) else (if (((S32_X12_sign a0 I J)) 130 29) < 256 then (S32_X12_sign a0 I J) else u2 (S32_X12_sign a0 I J) 130 26 ((((S32_X12_sign a0 I J)) 130 26) + 1))) else (if (((S32_X12_sign a0 I J)) 130 29) < 256 then (S32_X12_sign a0 I J) else u2 (S32_X12_sign a0 I J) 130 26 ((((S32_X12_sign a0 I J)) 130 26) + 1)))) else (if (F_X12_here  (u2 (u2 (u2 I 130 26 ((I 130 26) + 1)) 130 28 3) 130 29 a0) J) = 62 then (if a0 = 62 then (if (F_X12_here  (S30_X12_sign a0 I J) J) = 61 then (if ((u2 (S30_X12_sign a0 I J) 130 29 258) 130 29) < 256 then u2 (S30_X12_sign a0 I J) 130 29 258 else (S31_X12_sign a0 I J)) else (if (((S30_X12_sign a0 I J)) 130 29) < 256 then (S30_X12_sign a0 I J) else u2 (S30_X12_sign a0 I J) 130 26 ((((S30_X12_sign a0 I J)) 130 26) + 1))) else (if (((S30_X12_sign a0 I J)) 130 29) < 256 then (S30_X12_sign a0 I J) else u2 (S30_X12_sign a0 I J) 130 26 ((((S30_X12_sign a0 I J)) 130 26) + 1))) else (if a0 = 62 then (if ((u2 (u2 (u2 I 130 26 ((I 130 26) + 1)) 130 28 3) 130 29 a0) 130 29) < 256 then u2 (u2 (u2 I 130 26 ((I 130 26) + 1)) 130 28 3) 130 29 a0 else (S29_X12_sign a0 I J)) else (if ((u2 (u2 (u2 I 130 26 ((I 130 26) + 1)) 130 28 3) 130 29 a0) 130 29) < 256 then u2 (u2 (u2 I 130 26 ((I 130 26) + 1)) 130 28 3) 130 29 a0 else (S28_X12_sign a0 I J))))) else (if a0 = 62 then (if (F_X12_here  (u2 (u2 (u2 I 130 26 ((I 130 26) + 1)) 130 28 3) 130 29 a0) J) = 61 then (if (((S27_X12_sign a0 I J)) 130 29) < 256 then (S27_X12_sign a0 I J) else u2 (S27_X12_sign a0 I J) 130 26 ((((S27_X12_sign a0 I J)) 130 26) + 1)) else (if ((u2 (u2 (u2 I 130 26 ((I 130 26) + 1)) 130 28 3) 130 29 a0) 130 29) < 256 then u2 (u2 (u2 I 130 26 ((I 130 26) + 1)) 130 28 3) 130 29 a0 else (S26_X12_sign a0 I J))) else (if ((u2 (u2 (u2 I 130 26 ((I 130 26) + 1)) 130 28 3) 130 29 a0) 130 29) < 256 then u2 (u2 (u2 I 130 26 ((I 130 26) + 1)) 130 28 3) 130 29 a0 else (S25_X12_sign a0 I J)))) else (if a0 = 43 then (if a0 = 60 then (if (F_X12_here  (u2 (u2 (u2 I 130 26 ((I 130 26) + 1)) 130 28 3) 130 29 a0) J) = 61 then (if (F_X12_here  (S44_X12_sign a0 I J) J) = 62 then (if a0 = 62 then (if (F_X12_here  (u2 (S44_X12_sign a0 I J) 130 29 257) J) = 61 then (if ((u2 (u2 (S44_X12_sign a0 I J) 130 29 257) 130 29 258) 130 29) < 256 then u2 (u2 (S44_X12_sign a0 I J) 130 29 257) 130 29 258 else (S48_X12_sign a0 I J)) else (if ((u2 (S44_X12_sign a0 I J) 130 29 257) 130 29) < 256 then u2 (S44_X12_sign a0 I J) 130 29 257 else (S47_X12_sign a0 I J))) else (if ((u2 (S44_X12_sign a0 I J) 130 29 257) 130 29) < 256 then u2 (S44_X12_sign a0 I J) 130 29 257 else (S46_X12_sign a0 I J))) else (if a0 = 62 then (if (F_X12_here  (S44_X12_sign a0 I J) J) = 61 then (if ((u2 (S44_X12_sign a0 I J) 130 29 258) 130 29) < 256 then u2 (S44_X12_sign a0 I J) 130 29 258 else (S45_X12_sign a0 I J)) else (if (((S44_X12_sign a0 I J)) 130 29) < 256 then (S44_X12_sign a0 I J) else u2 (S44_X12_sign a0 I J) 130 26 ((((S44_X12_sign a0 I J)) 130 26) + 1))) else (if (((S44_X12_sign a0 I J)) 130 29) < 256 then (S44_X12_sign a0 I J) else u2 (S44_X12_sign a0 I J) 130 26 ((((S44_X12_sign a0 I J)) 130 26) + 1)))) else (if (F_X12_here  (u2 (u2 (u2 I 130 26 ((I 130 26) + 1)) 130 28 3) 130 29 a0) J) = 62 then (if a0 = 62 then (if (F_X12_here  (S42_X12_sign a0 I J) J) = 61 then (if ((u2 (S42_X12_sign a0 I J) 130 29 258) 130 29) < 256 then u2 (S42_X12_sign a0 I J) 130 29 258 else (S43_X12_sign a0 I J)) else (if (((S42_X12_sign a0 I J)) 130 29) < 256 then (S42_X12_sign a0 I J) else u2 (S42_X12_sign a0 I J) 130 26 ((((S42_X12_sign a0 I J)) 130 26) + 1))) else (if (((S42_X12_sign a0 I J)) 130 29) < 256 then (S42_X12_sign a0 I J) else u2 (S42_X12_sign a0 I J) 130 26 ((((S42_X12_sign a0 I J)) 130 26) + 1))) else (if a0 = 62 then (if ((u2 (u2 (u2 I 130 26 ((I 130 26) + 1)) 130 28 3) 130 29 a0) 130 29) < 256 then u2 (u2 (u2 I 130 26 ((I 130 26) + 1)) 130 28 3) 130 29 a0 else (S41_X12_sign a0 I J)) else (if ((u2 (u2 (u2 I 130 26 ((I 130 26) + 1)) 130 28 3) 130 29 a0) 130 29) < 256 then u2 (u2 (u2 I 130 26 ((I 130 26) + 1)) 130 28 3) 130 29 a0 else (S40_X12_sign a0 I J))))) else (if a0 = 62 then (if (F_X12_here  (u2 (u2 (u2 I 130 26 ((I 130 26) + 1)) 130 28 3) 130 29 a0) J) = 61 then (if (((S39_X12_sign a0 I J)) 130 29) < 256 then (S39_X12_sign a0 I J) else u2 (S39_X12_sign a0 I J) 130 26 ((((S39_X12_sign a0 I J)) 130 26) + 1)) else (if ((u2 (u2 (u2 I 130 26 ((I 130 26) + 1)) 130 28 3) 130 29 a0) 130 29) < 256 then u2 (u2 (u2 I 130 26 ((I 130 26) + 1)) 130 28 3) 130 29 a0 else (S38_X12_sign a0 I J))) else (if ((u2 (u2 (u2 I 130 26 ((I 130 26) + 1)) 130 28 3) 130 29 a0) 130 29) < 256 then u2 (u2 (u2 I 130 26 ((I 130 26) + 1)) 130 28 3) 130 29 a0 else (S37_X12_sign a0 I J)))) else (if a0 = 45 then (if a0 = 60 then (if (F_X12_here  (u2 (u2 (u2 I 130 26 ((I 130 26) + 1)) 130 28 3) 130 29 a0) J) = 61 then (if (F_X12_here  (S56_X12_sign a0 I J) J) = 62 then (if a0 = 62 then (if (F_X12_here  (u2 (S56_X12_sign a0 I J) 130 29 257) J) = 61 then (if ((u2 (u2 (S56_X12_sign a0 I J) 130 29 257) 130 29 258) 130 29) < 256 then u2 (u2 (S56_X12_sign a0 I J) 130 29 257) 130 29 258 else (S60_X12_sign a0 I J)) else (if ((u2 (S56_X12_sign a0 I J) 130 29 257) 130 29) < 256 then u2 (S56_X12_sign a0 I J) 130 29 257 else (S59_X12_sign a0 I J))) else (if ((u2 (S56_X12_sign a0 I J) 130 29 257) 130 29) < 256 then u2 (S56_X12_sign a0 I J) 130 29 257 else (S58_X12_sign a0 I J))) else (if a0 = 62 then (if (F_X12_here  (S56_X12_sign a0 I J) J) = 61 then (if ((u2 (S56_X12_sign a0 I J) 130 29 258) 130 29) < 256 then u2 (S56_X12_sign a0 I J) 130 29 258 else (S57_X12_sign a0 I J)) else (if (((S56_X12_sign a0 I J)) 130 29) < 256 then (S56_X12_sign a0 I J) else u2 (S56_X12_sign a0 I J) 130 26 ((((S56_X12_sign a0 I J)) 130 26) + 1))) else (if (((S56_X12_sign a0 I J)) 130 29) < 256 then (S56_X12_sign a0 I J) else u2 (S56_X12_sign a0 I J) 130 26 ((((S56_X12_sign a0 I J)) 130 26) + 1)))) else (if (F_X12_here  (u2 (u2 (u2 I 130 26 ((I 130 26) + 1)) 130 28 3) 130 29 a0) J) = 62 then (if a0 = 62 then (if (F_X12_here  (S54_X12_sign a0 I J) J) = 61 then (if ((u2 (S54_X12_sign a0 I J) 130 29 258) 130 29) < 256 then u2 (S54_X12_sign a0 I J) 130 29 258 else (S55_X12_sign a0 I J)) else (if (((S54_X12_sign a0 I J)) 130 29) < 256 then (S54_X12_sign a0 I J) else u2 (S54_X12_sign a0 I J) 130 26 ((((S54_X12_sign a0 I J)) 130 26) + 1))) else (if (((S54_X12_sign a0 I J)) 130 29) < 256 then (S54_X12_sign a0 I J) else u2 (S54_X12_sign a0 I J) 130 26 ((((S54_X12_sign a0 I J)) 130 26) + 1))) else (if a0 = 62 then (if ((u2 (u2 (u2 I 130 26 ((I 130 26) + 1)) 130 28 3) 130 29 a0) 130 29) < 256 then u2 (u2 (u2 I 130 26 ((I 130 26) + 1)) 130 28 3) 130 29 a0 else (S53_X12_sign a0 I J)) else (if ((u2 (u2 (u2 I 130 26 ((I 130 26) + 1)) 130 28 3) 130 29 a0) 130 29) < 256 then u2 (u2 (u2 I 130 26 ((I 130 26) + 1)) 130 28 3) 130 29 a0 else (S52_X12_sign a0 I J))))) else (if a0 = 62 then (if (F_X12_here  (u2 (u2 (u2 I 130 26 ((I 130 26) + 1)) 130 28 3) 130 29 a0) J) = 61 then (if (((S51_X12_sign a0 I J)) 130 29) < 256 then (S51_X12_sign a0 I J) else u2 (S51_X12_sign a0 I J) 130 26 ((((S51_X12_sign a0 I J)) 130 26) + 1)) else (if ((u2 (u2 (u2 I 130 26 ((I 130 26) + 1)) 130 28 3) 130 29 a0) 130 29) < 256 then u2 (u2 (u2 I 130 26 ((I 130 26) + 1)) 130 28 3) 130 29 a0 else (S50_X12_sign a0 I J))) else (if ((u2 (u2 (u2 I 130 26 ((I 130 26) + 1)) 130 28 3) 130 29 a0) 130 29) < 256 then u2 (u2 (u2 I 130 26 ((I 130 26) + 1)) 130 28 3) 130 29 a0 else (S49_X12_sign a0 I J)))) else (if a0 = 42 then (if a0 = 60 then (if (F_X12_here  (u2 (u2 (u2 I 130 26 ((I 130 26) + 1)) 130 28 3) 130 29 a0) J) = 61 then (if (F_X12_here  (S68_X12_sign a0 I J) J) = 62 then (if a0 = 62 then (if (F_X12_here  (u2 (S68_X12_sign a0 I J) 130 29 257) J) = 61 then (if ((u2 (u2 (S68_X12_sign a0 I J) 130 29 257) 130 29 258) 130 29) < 256 then u2 (u2 (S68_X12_sign a0 I J) 130 29 257) 130 29 258 else (S72_X12_sign a0 I J)) else (if ((u2 (S68_X12_sign a0 I J) 130 29 257) 130 29) < 256 then u2 (S68_X12_sign a0 I J) 130 29 257 else (S71_X12_sign a0 I J))) else (if ((u2 (S68_X12_sign a0 I J) 130 29 257) 130 29) < 256 then u2 (S68_X12_sign a0 I J) 130 29 257 else (S70_X12_sign a0 I J))) else (if a0 = 62 then (if (F_X12_here  (S68_X12_sign a0 I J) J) = 61 then (if ((u2 (S68_X12_sign a0 I J) 130 29 258) 130 29) < 256 then u2 (S68_X12_sign a0 I J) 130 29 258 else (S69_X12_sign a0 I J)) else (if (((S68_X12_sign a0 I J)) 130 29) < 256 then (S68_X12_sign a0 I J) else u2 (S68_X12_sign a0 I J) 130 26 ((((S68_X12_sign a0 I J)) 130 26) + 1))) else (if (((S68_X12_sign a0 I J)) 130 29) < 256 then (S68_X12_sign a0 I J) else u2 (S68_X12_sign a0 I J) 130 26 ((((S68_X12_sign a0 I J)) 130 26) + 1)))) else (if (F_X12_here  (u2 (u2 (u2 I 130 26 ((I 130 26) + 1)) 130 28 3) 130 29 a0) J) = 62 then (if a0 = 62 then (if (F_X12_here  (S66_X12_sign a0 I J) J) = 61 then (if ((u2 (S66_X12_sign a0 I J) 130 29 258) 130 29) < 256 then u2 (S66_X12_sign a0 I J) 130 29 258 else (S67_X12_sign a0 I J)) else (if (((S66_X12_sign a0 I J)) 130 29) < 256 then (S66_X12_sign a0 I J) else u2 (S66_X12_sign a0 I J) 130 26 ((((S66_X12_sign a0 I J)) 130 26) + 1))) else (if (((S66_X12_sign a0 I J)) 130 29) < 256 then (S66_X12_sign a0 I J) else u2 (S66_X12_sign a0 I J) 130 26 ((((S66_X12_sign a0 I J)) 130 26) + 1))) else (if a0 = 62 then (if ((u2 (u2 (u2 I 130 26 ((I 130 26) + 1)) 130 28 3) 130 29 a0) 130 29) < 256 then u2 (u2 (u2 I 130 26 ((I 130 26) + 1)) 130 28 3) 130 29 a0 else (S65_X12_sign a0 I J)) else (if ((u2 (u2 (u2 I 130 26 ((I 130 26) + 1)) 130 28 3) 130 29 a0) 130 29) < 256 then u2 (u2 (u2 I 130 26 ((I 130 26) + 1)) 130 28 3) 130 29 a0 else (S64_X12_sign a0 I J))))) else (if a0 = 62 then (if (F_X12_here  (u2 (u2 (u2 I 130 26 ((I 130 26) + 1)) 130 28 3) 130 29 a0) J) = 61 then (if (((S63_X12_sign a0 I J)) 130 29) < 256 then (S63_X12_sign a0 I J) else u2 (S63_X12_sign a0 I J) 130 26 ((((S63_X12_sign a0 I J)) 130 26) + 1)) else (if ((u2 (u2 (u2 I 130 26 ((I 130 26) + 1)) 130 28 3) 130 29 a0) 130 29) < 256 then u2 (u2 (u2 I 130 26 ((I 130 26) + 1)) 130 28 3) 130 29 a0 else (S62_X12_sign a0 I J))) else (if ((u2 (u2 (u2 I 130 26 ((I 130 26) + 1)) 130 28 3) 130 29 a0) 130 29) < 256 then u2 (u2 (u2 I 130 26 ((I 130 26) + 1)) 130 28 3) 130 29 a0 else (S61_X12_sign a0 I J)))) else (if a0 = 47 then (if a0 = 60 then (if (F_X12_here  (u2 (u2 (u2 I 130 26 ((I 130 26) + 1)) 130 28 3) 130 29 a0) J) = 61 then (if (F_X12_here  (S80_X12_sign a0 I J) J) = 62 then (if a0 = 62 then (if (F_X12_here  (u2 (S80_X12_sign a0 I J) 130 29 257) J) = 61 then (if ((u2 (u2 (S80_X12_sign a0 I J) 130 29 257) 130 29 258) 130 29) < 256 then u2 (u2 (S80_X12_sign a0 I J) 130 29 257) 130 29 258 else (S84_X12_sign a0 I J)) else (if ((u2 (S80_X12_sign a0 I J) 130 29 257) 130 29) < 256 then u2 (S80_X12_sign a0 I J) 130 29 257 else (S83_X12_sign a0 I J))) else (if ((u2 (S80_X12_sign a0 I J) 130 29 257) 130 29) < 256 then u2 (S80_X12_sign a0 I J) 130 29 257 else (S82_X12_sign a0 I J))) else (if a0 = 62 then (if (F_X12_here  (S80_X12_sign a0 I J) J) = 61 then (if ((u2 (S80_X12_sign a0 I J) 130 29 258) 130 29) < 256 then u2 (S80_X12_sign a0 I J) 130 29 258 else (S81_X12_sign a0 I J)) else (if (((S80_X12_sign a0 I J)) 130 29) < 256 then (S80_X12_sign a0 I J) else u2 (S80_X12_sign a0 I J) 130 26 ((((S80_X12_sign a0 I J)) 130 26) + 1))) else (if (((S80_X12_sign a0 I J)) 130 29) < 256 then (S80_X12_sign a0 I J) else u2 (S80_X12_sign a0 I J) 130 26 ((((S80_X12_sign a0 I J)) 130 26) + 1)))) else (if (F_X12_here  (u2 (u2 (u2 I 130 26 ((I 130 26) + 1)) 130 28 3) 130 29 a0) J) = 62 then (if a0 = 62 then (if (F_X12_here  (S78_X12_sign a0 I J) J) = 61 then (if ((u2 (S78_X12_sign a0 I J) 130 29 258) 130 29) < 256 then u2 (S78_X12_sign a0 I J) 130 29 258 else (S79_X12_sign a0 I J)) else (if (((S78_X12_sign a0 I J)) 130 29) < 256 then (S78_X12_sign a0 I J) else u2 (S78_X12_sign a0 I J) 130 26 ((((S78_X12_sign a0 I J)) 130 26) + 1))) else (if (((S78_X12_sign a0 I J)) 130 29) < 256 then (S78_X12_sign a0 I J) else u2 (S78_X12_sign a0 I J) 130 26 ((((S78_X12_sign a0 I J)) 130 26) + 1))) else (if a0 = 62 then (if ((u2 (u2 (u2 I 130 26 ((I 130 26) + 1)) 130 28 3) 130 29 a0) 130 29) < 256 then u2 (u2 (u2 I 130 26 ((I 130 26) + 1)) 130 28 3) 130 29 a0 else (S77_X12_sign a0 I J)) else (if ((u2 (u2 (u2 I 130 26 ((I 130 26) + 1)) 130 28 3) 130 29 a0) 130 29) < 256 then u2 (u2 (u2 I 130 26 ((I 130 26) + 1)) 130 28 3) 130 29 a0 else (S76_X12_sign a0 I J))))) else (if a0 = 62 then (if (F_X12_here  (u2 (u2 (u2 I 130 26 ((I 130 26) + 1)) 130 28 3) 130 29 a0) J) = 61 then (if (((S75_X12_sign a0 I J)) 130 29) < 256 then (S75_X12_sign a0 I J) else u2 (S75_X12_sign a0 I J) 130 26 ((((S75_X12_sign a0 I J)) 130 26) + 1)) else (if ((u2 (u2 (u2 I 130 26 ((I 130 26) + 1)) 130 28 3) 130 29 a0) 130 29) < 256 then u2 (u2 (u2 I 130 26 ((I 130 26) + 1)) 130 28 3) 130 29 a0 else (S74_X12_sign a0 I J))) else (if ((u2 (u2 (u2 I 130 26 ((I 130 26) + 1)) 130 28 3) 130 29 a0) 130 29) < 256 then u2 (u2 (u2 I 130 26 ((I 130 26) + 1)) 130 28 3) 130 29 a0 else (S73_X12_sign a0 I J)))) else (if a0 = 60 then (if (F_X12_here  (u2 (u2 (u2 I 130 26 ((I 130 26) + 1)) 130 28 3) 130 29 a0) J) = 61 then (if (F_X12_here  (S89_X12_sign a0 I J) J) = 62 then (if a0 = 62 then (if (F_X12_here  (u2 (S89_X12_sign a0 I J) 130 29 257) J) = 61 then (if ((u2 (u2 (S89_X12_sign a0 I J) 130 29 257) 130 29 258) 130 29) < 256 then u2 (u2 (S89_X12_sign a0 I J) 130 29 257) 130 29 258 else (S93_X12_sign a0 I J)) else (if ((u2 (S89_X12_sign a0 I J) 130 29 257) 130 29) < 256 then u2 (S89_X12_sign a0 I J) 130 29 257 else (S92_X12_sign a0 I J))) else (if ((u2 (S89_X12_sign a0 I J) 130 29 257) 130 29) < 256 then u2 (S89_X12_sign a0 I J) 130 29 257 else (S91_X12_sign a0 I J))) else (if a0 = 62 then (if (F_X12_here  (S89_X12_sign a0 I J) J) = 61 then (if ((u2 (S89_X12_sign a0 I J) 130 29 258) 130 29) < 256 then u2 (S89_X12_sign a0 I J) 130 29 258 else (S90_X12_sign a0 I J)) else (if (((S89_X12_sign a0 I J)) 130 29) < 256 then (S89_X12_sign a0 I J) else u2 (S89_X12_sign a0 I J) 130 26 ((((S89_X12_sign a0 I J)) 130 26) + 1))) else (if (((S89_X12_sign a0 I J)) 130 29) < 256 then (S89_X12_sign a0 I J) else u2 (S89_X12_sign a0 I J) 130 26 ((((S89_X12_sign a0 I J)) 130 26) + 1)))) else (if (F_X12_here  (u2 (u2 (u2 I 130 26 ((I 130 26) + 1)) 130 28 3) 130 29 a0) J) = 62 then (if a0 = 62 then (if (F_X12_here  (S87_X12_sign a0 I J) J) = 61 then (if ((u2 (S87_X12_sign a0 I J) 130 29 258) 130 29) < 256 then u2 (S87_X12_sign a0 I J) 130 29 258 else (S88_X12_sign a0 I J)) else (if (((S87_X12_sign a0 I J)) 130 29) < 256 then (S87_X12_sign a0 I J) else u2 (S87_X12_sign a0 I J) 130 26 ((((S87_X12_sign a0 I J)) 130 26) + 1))) else (if (((S87_X12_sign a0 I J)) 130 29) < 256 then (S87_X12_sign a0 I J) else u2 (S87_X12_sign a0 I J) 130 26 ((((S87_X12_sign a0 I J)) 130 26) + 1))) else (if a0 = 62 then (if ((u2 (u2 (u2 I 130 26 ((I 130 26) + 1)) 130 28 3) 130 29 a0) 130 29) < 256 then u2 (u2 (u2 I 130 26 ((I 130 26) + 1)) 130 28 3) 130 29 a0 else (S86_X12_sign a0 I J)) else (if ((u2 (u2 (u2 I 130 26 ((I 130 26) + 1)) 130 28 3) 130 29 a0) 130 29) < 256 then u2 (u2 (u2 I 130 26 ((I 130 26) + 1)) 130 28 3) 130 29 a0 else (S85_X12_sign a0 I J))))) else (if a0 = 61 then (if a0 = 62 then (if (F_X12_here  (u2 (u2 (u2 I 130 26 ((I 130 26) + 1)) 130 28 3) 130 29 a0) J) = 61 then (if (((S96_X12_sign a0 I J)) 130 29) < 256 then (S96_X12_sign a0 I J) else u2 (S96_X12_sign a0 I J) 130 26 ((((S96_X12_sign a0 I J)) 130 26) + 1)) else (if ((u2 (u2 (u2 I 130 26 ((I 130 26) + 1)) 130 28 3) 130 29 a0) 130 29) < 256 then u2 (u2 (u2 I 130 26 ((I 130 26) + 1)) 130 28 3) 130 29 a0 else (S95_X12_sign a0 I J))) else (if ((u2 (u2 (u2 I 130 26 ((I 130 26) + 1)) 130 28 3) 130 29 a0) 130 29) < 256 then u2 (u2 (u2 I 130 26 ((I 130 26) + 1)) 130 28 3) 130 29 a0 else (S94_X12_sign a0 I J))) else (if a0 = 62 then (if (F_X12_here  (u2 (u2 (u2 I 130 26 ((I 130 26) + 1)) 130 28 3) 130 29 a0) J) = 61 then (if (((S99_X12_sign a0 I J)) 130 29) < 256 then (S99_X12_sign a0 I J) else u2 (S99_X12_sign a0 I J) 130 26 ((((S99_X12_sign a0 I J)) 130 26) + 1)) else (if ((u2 (u2 (u2 I 130 26 ((I 130 26) + 1)) 130 28 3) 130 29 a0) 130 29) < 256 then u2 (u2 (u2 I 130 26 ((I 130 26) + 1)) 130 28 3) 130 29 a0 else (S98_X12_sign a0 I J))) else (if ((u2 (u2 (u2 I 130 26 ((I 130 26) + 1)) 130 28 5) 130 29 a0) 130 29) < 256 then u2 (u2 (u2 I 130 26 ((I 130 26) + 1)) 130 28 5) 130 29 a0 else (S97_X12_sign a0 I J)))))))))))
def H_X12_sign (a0 : Int32) (I : SI) (J : SJ) : Prop := (a0 = 59 → ¬ (a0 = 60) → a0 = 62 → H_X12_here  (u2 (u2 (u2 I 130 26 ((I 130 26) + 1)) 130 28 3) 130 29 a0) J) ∧ (a0 = 59 → a0 = 60 → H_X12_here  (u2 (u2 (u2 I 130 26 ((I 130 26) + 1)) 130 28 3) 130 29 a0) J) ∧ (a0 = 59 → a0 = 60 → ¬ ((F_X12_here  (u2 (u2 (u2 I 130 26 ((I 130 26) + 1)) 130 28 3) 130 29 a0) J) = 61) → H_X12_here  (u2 (u2 (u2 I 130 26 ((I 130 26) + 1)) 130 28 3) 130 29 a0) J) ∧ (a0 = 59 → a0 = 60 → ¬ ((F_X12_here  (u2 (u2 (u2 I 130 26 ((I 130 26) + 1)) 130 28 3) 130 29 a0) J) = 61) → ¬ ((F_X12_here  (u2 (u2 (u2 I 130 26 ((I 130 26) + 1)) 130 28 3) 130 29 a0) J) = 62) → a0 = 62 → H_X12_here  (u2 (u2 (u2 I 130 26 ((I 130 26) + 1)) 130 28 3) 130 29 a0) J) ∧ (a0 = 59 → a0 = 60 → ¬ ((F_X12_here  (u2 (u2 (u2 I 130 26 ((I 130 26) + 1)) 130 28 3) 130 29 a0) J) = 61) → (F_X12_here  (u2 (u2 (u2 I 130 26 ((I 130 26) + 1)) 130 28 3) 130 29 a0) J) = 62 → a0 = 62 → H_X12_here  (S6_X12_sign a0 I J) J) ∧ (a0 = 59 → a0 = 60 → (F_X12_here  (u2 (u2 (u2 I 130 26 ((I 130 26) + 1)) 130 28 3) 130 29 a0) J) = 61 → H_X12_here  (S8_X12_sign a0 I J) J) ∧ (a0 = 59 → a0 = 60 → (F_X12_here  (u2 (u2 (u2 I 130 26 ((I 130 26) + 1)) 130 28 3) 130 29 a0) J) = 61 → ¬ ((F_X12_here  (S8_X12_sign a0 I J) J) = 62) → a0 = 62 → H_X12_here  (S8_X12_sign a0 I J) J) ∧ (a0 = 59 → a0 = 60 → (F_X12_here  (u2 (u2 (u2 I 130 26 ((I 130 26) + 1)) 130 28 3) 130 29 a0) J) = 61 → (F_X12_here  (S8_X12_sign a0 I J) J) = 62 → a0 = 62 → H_X12_here  (u2 (S8_X12_sign a0 I J) 130 29 257) J) ∧ (¬ (a0 = 59) → a0 = 40 → ¬ (a0 = 60) → a0 = 62 → H_X12_here  (u2 (u2 (u2 I 130 26 ((I 130 26) + 1)) 130 28 3) 130 29 a0) J) ∧ (¬ (a0 = 59) → a0 = 40 → a0 = 60 → H_X12_here  (u2 (u2 (u2 I 130 26 ((I 130 26) + 1)) 130 28 3) 130 29 a0) J) ∧ (¬ (a0 = 59) → a0 = 40 → a0 = 60 → ¬ ((F_X12_here  (u2 (u2 (u2 I 130 26 ((I 130 26) + 1)) 130 28 3) 130 29 a0) J) = 61) → H_X12_here  (u2 (u2 (u2 I 130 26 ((I 130 26) + 1)) 130 28 3) 130 29 a0) J) ∧ (¬ (a0 = 59) → a0 = 40 → a0 = 60 → ¬ ((F_X12_here  (u2 (u2 (u2 I 130 26 ((I 130 26) + 1)) 130 28 3) 130 29 a0) J) = 61) → ¬ ((F_X12_here  (u2 (u2 (u2 I 130 26 ((I 130 26) + 1)) 130 28 3) 130 29 a0) J) = 62) → a0 = 62 → H_X12_here  (u2 (u2 (u2 I 130 26 ((I 130 26) + 1)) 130 28 3) 130 29 a0) J) ∧ (¬ (a0 = 59) → a0 = 40 → a0 = 60 → ¬ ((F_X12_here  (u2 (u2 (u2 I 130 26 ((I 130 26) + 1)) 130 28 3) 130 29 a0) J) = 61) → (F_X12_here  (u2 (u2 (u2 I 130 26 ((I 130 26) + 1)) 130 28 3) 130 29 a0) J) = 62 → a0 = 62 → H_X12_here  (S18_X12_sign a0 I J) J) ∧ (¬ (a0 = 59) → a0 = 40 → a0 = 60 → (F_X12_here  (u2 (u2 (u2 I 130 26 ((I 130 26) + 1)) 130 28 3) 130 29 a0) J) = 61 → H_X12_here  (S20_X12_sign a0 I J) J) ∧ (¬ (a0 = 59) → a0 = 40 → a0 = 60 → (F_X12_here  (u2 (u2 (u2 I 130 26 ((I 130 26) + 1)) 130 28 3) 130 29 a0) J) = 61 → ¬ ((F_X12_here  (S20_X12_sign a0 I J) J) = 62) → a0 = 62 → H_X12_here  (S20_X12_sign a0 I J) J) ∧ (¬ (a0 = 59) → a0 = 40 → a0 = 60 → (F_X12_here  (u2 (u2 (u2 I 130 26 ((I 130 26) + 1)) 130 28 3) 130 29 a0) J) = 61 → (F_X12_here  (S20_X12_sign a0 I J) J) = 62 → a0 = 62 → H_X12_here  (u2 (S20_X12_sign a0 I J) 130 29 257) J) ∧ (¬ (a0 = 59) → ¬ (a0 = 40) → a0 = 41 → ¬ (a0 = 60) → a0 = 62 → H_X12_here  (u2 (u2 (u2 I 130 26 ((I 130 26) + 1)) 130 28 3) 130 29 a0) J) ∧ (¬ (a0 = 59) → ¬ (a0 = 40) → a0 = 41 → a0 = 60 → H_X12_here  (u2 (u2 (u2 I 130 26 ((I 130 26) + 1)) 130 28 3) 130 29 a0) J) ∧ (¬ (a0 = 59) → ¬ (a0 = 40) → a0 = 41 → a0 = 60 → ¬ ((F_X12_here  (u2 (u2 (u2 I 130 26 ((I 130 26) + 1)) 130 28 3) 130 29 a0) J) = 61) → H_X12_here  (u2 (u2 (u2 I 130 26 ((I 130 26) + 1)) 130 28 3) 130 29 a0) J) ∧ (¬ (a0 = 59) → ¬ (a0 = 40) → a0 = 41 → a0 = 60 → ¬ ((F_X12_here  (u2 (u2 (u2 I 130 26 ((I 130 26) + 1)) 130 28 3) 130 29 a0) J) = 61) → ¬ ((F_X12_here  (u2 (u2 (u2 I 130 26 ((I 130 26) + 1)) 130 28 3) 130 29 a0) J) = 62) → a0 = 62 → H_X12_here  (u2 (u2 (u2 I 130 26 ((I 130 26) + 1)) 130 28 3) 130 29 a0) J) ∧ (¬ (a0 = 59) → ¬ (a0 = 40) → a0 = 41 → a0 = 60 → ¬ ((F_X12_here  (u2 (u2 (u2 I 130 26 ((I 130 26) + 1)) 130 28 3) 130 29 a0) J) = 61) → (F_X12_here  (u2 (u2 (u2 I 130 26 ((I 130 26) + 1)) 130 28 3) 130 29 a0) J) = 62 → a0 = 62 → H_X12_here  (S30_X12_sign a0 I J) J) ∧ (¬ (a0 = 59) → ¬ (a0 = 40) → a0 = 41 → a0 = 60 → (F_X12_here  (u2 (u2 (u2 I 130 26 ((I 130 26) + 1)) 130 28 3) 130 29 a0) J) = 61 → H_X12_here  (S32_X12_sign a0 I J) J) ∧ (¬ (a0 = 59) → ¬ (a0 = 40) → a0 = 41 → a0 = 60 → (F_X12_here  (u2 (u2 (u2 I 130 26 ((I 130 26) + 1)) 130 28 3) 130 29 a0) J) = 61 → ¬ ((F_X12_here  (S32_X12_sign a0 I J) J) = 62) → a0 = 62 → H_X12_here  (S32_X12_sign a0 I J) J) ∧ (¬ (a0 = 59) → ¬ (a0 = 40) → a0 = 41 → a0 = 60 → (F_X12_here  (u2 (u2 (u2 I 130 26 ((I 130 26) + 1)) 130 28 3) 130 29 a0) J) = 61 → (F_X12_here  (S32_X12_sign a0 I J) J) = 62 → a0 = 62 → H_X12_here  (u2 (S32_X12_sign a0 I J) 130 29 257) J) ∧ (¬ (a0 = 59) → ¬ (a0 = 40) → ¬ (a0 = 41) → a0 = 43 → ¬ (a0 = 60) → a0 = 62 → H_X12_here  (u2 (u2 (u2 I 130 26 ((I 130 26) + 1)) 130 28 3) 130 29 a0) J) ∧ (¬ (a0 = 59) → ¬ (a0 = 40) → ¬ (a0 = 41) → a0 = 43 → a0 = 60 → H_X12_here  (u2 (u2 (u2 I 130 26 ((I 130 26) + 1)) 130 28 3) 130 29 a0) J) ∧ (¬ (a0 = 59) → ¬ (a0 = 40) → ¬ (a0 = 41) → a0 = 43 → a0 = 60 → ¬ ((F_X12_here  (u2 (u2 (u2 I 130 26 ((I 130 26) + 1)) 130 28 3) 130 29 a0) J) = 61) → H_X12_here  (u2 (u2 (u2 I 130 26 ((I 130 26) + 1)) 130 28 3) 130 29 a0) J) ∧ (¬ (a0 = 59) → ¬ (a0 = 40) → ¬ (a0 = 41) → a0 = 43 → a0 = 60 → ¬ ((F_X12_here  (u2 (u2 (u2 I 130 26 ((I 130 26) + 1)) 130 28 3) 130 29 a0) J) = 61) → ¬ ((F_X12_here  (u2 (u2 (u2 I 130 26 ((I 130 26) + 1)) 130 28 3) 130 29 a0) J) = 62) → a0 = 62 → H_X12_here  (u2 (u2 (u2 I 130 26 ((I 130 26) + 1)) 130 28 3) 130 29 a0) J) ∧ (¬ (a0 = 59) → ¬ (a0 = 40) → ¬ (a0 = 41) → a0 = 43 → a0 = 60 → ¬ ((F_X12_here  (u2 (u2 (u2 I 130 26 ((I 130 26) + 1)) 130 28 3) 130 29 a0) J) = 61) → (F_X12_here  (u2 (u2 (u2 I 130 26 ((I 130 26) + 1)) 130 28 3) 130 29 a0) J) = 62 → a0 = 62 → H_X12_here  (S42_X12_sign a0 I J) J) ∧ (¬ (a0 = 59) → ¬ (a0 = 40) → ¬ (a0 = 41) → a0 = 43 → a0 = 60 → (F_X12_here  (u2 (u2 (u2 I 130 26 ((I 130 26) + 1)) 130 28 3) 130 29 a0) J) = 61 → H_X12_here  (S44_X12_sign a0 I J) J) ∧ (¬ (a0 = 59) → ¬ (a0 = 40) → ¬ (a0 = 41) → a0 = 43 → a0 = 60 → (F_X12_here  (u2 (u2 (u2 I 130 26 ((I 130 26) + 1)) 130 28 3) 130 29 a0) J) = 61 → ¬ ((F_X12_here  (S44_X12_sign a0 I J) J) = 62) → a0 = 62 → H_X12_here  (S44_X12_sign a0 I J) J) ∧ (¬ (a0 = 59) → ¬ (a0 = 40) → ¬ (a0 = 41) → a0 = 43 → a0 = 60 → (F_X12_here  (u2 (u2 (u2 I 130 26 ((I 130 26) + 1)) 130 28 3) 130 29 a0) J) = 61 → (F_X12_here  (S44_X12_sign a0 I J) J) = 62 → a0 = 62 → H_X12_here  (u2 (S44_X12_sign a0 I J) 130 29 257) J) ∧ (¬ (a0 = 59) → ¬ (a0 = 40) → ¬ (a0 = 41) → ¬ (a0 = 43) → a0 = 45 → ¬ (a0 = 60) → a0 = 62 → H_X12_here  (u2 (u2 (u2 I 130 26 ((I 130 26) + 1)) 130 28 3) 130 29 a0) J) ∧ (¬ (a0 = 59) → ¬ (a0 = 40) → ¬ (a0 = 41) → ¬ (a0 = 43) → a0 = 45 → a0 = 60 → H_X12_here  (u2 (u2 (u2 I 130 26 ((I 130 26) + 1)) 130 28 3) 130 29 a0) J) ∧ (¬ (a0 = 59) → ¬ (a0 = 40) → ¬ (a0 = 41) → ¬ (a0 = 43) → a0 = 45 → a0 = 60 → ¬ ((F_X12_here  (u2 (u2 (u2 I 130 26 ((I 130 26) + 1)) 130 28 3) 130 29 a0) J) = 61) → H_X12_here  (u2 (u2 (u2 I 130 26 ((I 130 26) + 1)) 130 28 3) 130 29 a0) J) ∧ (¬ (a0 = 59) → ¬ (a0 = 40) → ¬ (a0 = 41) → ¬ (a0 = 43) → a0 = 45 → a0 = 60 → ¬ ((F_X12_here  (u2 (u2 (u2 I 130 26 ((I 130 26) + 1)) 130 28 3) 130 29 a0) J) = 61) → ¬ ((F_X12_here  (u2 (u2 (u2 I 130 26 ((I 130 26) + 1)) 130 28 3) 130 29 a0) J) = 62) → a0 = 62 → H_X12_here  (u2 (u2 (u2 I 130 26 ((I 130 26) + 1)) 130 28 3) 130 29 a0) J) ∧ (¬ (a0 = 59) → ¬ (a0 = 40) → ¬ (a0 = 41) → ¬ (a0 = 43) → a0 = 45 → a0 = 60 → ¬ ((F_X12_here  (u2 (u2 (u2 I 130 26 ((I 130 26) + 1)) 130 28 3) 130 29 a0) J) = 61) → (F_X12_here  (u2 (u2 (u2 I 130 26 ((I 130 26) + 1)) 130 28 3) 130 29 a0) J) = 62 → a0 = 62 → H_X12_here  (S54_X12_sign a0 I J) J) ∧ (¬ (a0 = 59) → ¬ (a0 = 40) → ¬ (a0 = 41) → ¬ (a0 = 43) → a0 = 45 → a0 = 60 → (F_X12_here  (u2 (u2 (u2 I 130 26 ((I 130 26) + 1)) 130 28 3) 130 29 a0) J) = 61 → H_X12_here  (S56_X12_sign a0 I J) J) ∧ (¬ (a0 = 59) → ¬ (a0 = 40) → ¬ (a0 = 41) → ¬ (a0 = 43) → a0 = 45 → a0 = 60 → (F_X12_here  (u2 (u2 (u2 I 130 26 ((I 130 26) + 1)) 130 28 3) 130 29 a0) J) = 61 → ¬ ((F_X12_here  (S56_X12_sign a0 I J) J) = 62) → a0 = 62 → H_X12_here  (S56_X12_sign a0 I J) J) ∧ (¬ (a0 = 59) → ¬ (a0 = 40) → ¬ (a0 = 41) → ¬ (a0 = 43) → a0 = 45 → a0 = 60 → (F_X12_here  (u2 (u2 (u2 I 130 26 ((I 130 26) + 1)) 130 28 3) 130 29 a0) J) = 61 → (F_X12_here  (S56_X12_sign a0 I J) J) = 62 → a0 = 62 → H_X12_here  (u2 (S56_X12_sign a0 I J) 130 29 257) J) ∧ (¬ (a0 = 59) → ¬ (a0 = 40) → ¬ (a0 = 41) → ¬ (a0 = 43) → ¬ (a0 = 45) → a0 = 42 → ¬ (a0 = 60) → a0 = 62 → H_X12_here  (u2 (u2 (u2 I 130 26 ((I 130 26) + 1)) 130 28 3) 130 29 a0) J) ∧ (¬ (a0 = 59) → ¬ (a0 = 40) → ¬ (a0 = 41) → ¬ (a0 = 43) → ¬ (a0 = 45) → a0 = 42 → a0 = 60 → H_X12_here  (u2 (u2 (u2 I 130 26 ((I 130 26) + 1)) 130 28 3) 130 29 a0) J) ∧ (¬ (a0 = 59) → ¬ (a0 = 40) → ¬ (a0 = 41) → ¬ (a0 = 43) → ¬ (a0 = 45) → a0 = 42 → a0 = 60 → ¬ ((F_X12_here  (u2 (u2 (u2 I 130 26 ((I 130 26) + 1)) 130 28 3) 130 29 a0) J) = 61) → H_X12_here  (u2 (u2 (u2 I 130 26 ((I 130 26) + 1)) 130 28 3) 130 29 a0) J) ∧ (¬ (a0 = 59) → ¬ (a0 = 40) → ¬ (a0 = 41) → ¬ (a0 = 43) → ¬ (a0 = 45) → a0 = 42 → a0 = 60 → ¬ ((F_X12_here  (u2 (u2 (u2 I 130 26 ((I 130 26) + 1)) 130 28 3) 130 29 a0) J) = 61) → ¬ ((F_X12_here  (u2 (u2 (u2 I 130 26 ((I 130 26) + 1)) 130 28 3) 130 29 a0) J) = 62) → a0 = 62 → H_X12_here  (u2 (u2 (u2 I 130 26 ((I 130 26) + 1)) 130 28 3) 130 29 a0) J) ∧ (¬ (a0 = 59) → ¬ (a0 = 40) → ¬ (a0 = 41) → ¬ (a0 = 43) → ¬ (a0 = 45) → a0 = 42 → a0 = 60 → ¬ ((F_X12_here  (u2 (u2 (u2 I 130 26 ((I 130 26) + 1)) 130 28 3) 130 29 a0) J) = 61) → (F_X12_here  (u2 (u2 (u2 I 130 26 ((I 130 26) + 1)) 130 28 3) 130 29 a0) J) = 62 → a0 = 62 → H_X12_here  (S66_X12_sign a0 I J) J) ∧ (¬ (a0 = 59) → ¬ (a0 = 40) → ¬ (a0 = 41) → ¬ (a0 = 43) → ¬ (a0 = 45) → a0 = 42 → a0 = 60 → (F_X12_here  (u2 (u2 (u2 I 130 26 ((I 130 26) + 1)) 130 28 3) 130 29 a0) J) = 61 → H_X12_here  (S68_X12_sign a0 I J) J) ∧ (¬ (a0 = 59) → ¬ (a0 = 40) → ¬ (a0 = 41) → ¬ (a0 = 43) → ¬ (a0 = 45) → a0 = 42 → a0 = 60 → (F_X12_here  (u2 (u2 (u2 I 130 26 ((I 130 26) + 1)) 130 28 3) 130 29 a0) J) = 61 → ¬ ((F_X12_here  (S68_X12_sign a0 I J) J) = 62) → a0 = 62 → H_X12_here  (S68_X12_sign a0 I J) J) ∧ (¬ (a0 = 59) → ¬ (a0 = 40) → ¬ (a0 = 41) → ¬ (a0 = 43) → ¬ (a0 = 45) → a0 = 42 → a0 = 60 → (F_X12_here  (u2 (u2 (u2 I 130 26 ((I 130 26) + 1)) 130 28 3) 130 29 a0) J) = 61 → (F_X12_here  (S68_X12_sign a0 I J) J) = 62 → a0 = 62 → H_X12_here  (u2 (S68_X12_sign a0 I J) 130 29 257) J) ∧ (¬ (a0 = 59) → ¬ (a0 = 40) → ¬ (a0 = 41) → ¬ (a0 = 43) → ¬ (a0 = 45) → ¬ (a0 = 42) → a0 = 47 → ¬ (a0 = 60) → a0 = 62 → H_X12_here  (u2 (u2 (u2 I 130 26 ((I 130 26) + 1)) 130 28 3) 130 29 a0) J) ∧ (¬ (a0 = 59) → ¬ (a0 = 40) → ¬ (a0 = 41) → ¬ (a0 = 43) → ¬ (a0 = 45) → ¬ (a0 = 42) → a0 = 47 → a0 = 60 → H_X12_here  (u2 (u2 (u2 I 130 26 ((I 130 26) + 1)) 130 28 3) 130 29 a0) J) ∧ (¬ (a0 = 59) → ¬ (a0 = 40) → ¬ (a0 = 41) → ¬ (a0 = 43) → ¬ (a0 = 45) → ¬ (a0 = 42) → a0 = 47 → a0 = 60 → ¬ ((F_X12_here  (u2 (u2 (u2 I 130 26 ((I 130 26) + 1)) 130 28 3) 130 29 a0) J) = 61) → H_X12_here  (u2 (u2 (u2 I 130 26 ((I 130 26) + 1)) 130 28 3) 130 29 a0) J) ∧ (¬ (a0 = 59) → ¬ (a0 = 40) → ¬ (a0 = 41) → ¬ (a0 = 43) → ¬ (a0 = 45) → ¬ (a0 = 42) → a0 = 47 → a0 = 60 → ¬ ((F_X12_here  (u2 (u2 (u2 I 130 26 ((I 130 26) + 1)) 130 28 3) 130 29 a0) J) = 61) → ¬ ((F_X12_here  (u2 (u2 (u2 I 130 26 ((I 130 26) + 1)) 130 28 3) 130 29 a0) J) = 62) → a0 = 62 → H_X12_here  (u2 (u2 (u2 I 130 26 ((I 130 26) + 1)) 130 28 3) 130 29 a0) J) ∧ (¬ (a0 = 59) → ¬ (a0 = 40) → ¬ (a0 = 41) → ¬ (a0 = 43) → ¬ (a0 = 45) → ¬ (a0 = 42) → a0 = 47 → a0 = 60 → ¬ ((F_X12_here  (u2 (u2 (u2 I 130 26 ((I 130 26) + 1)) 130 28 3) 130 29 a0) J) = 61) → (F_X12_here  (u2 (u2 (u2 I 130 26 ((I 130 26) + 1)) 130 28 3) 130 29 a0) J) = 62 → a0 = 62 → H_X12_here  (S78_X12_sign a0 I J) J) ∧ (¬ (a0 = 59) → ¬ (a0 = 40) → ¬ (a0 = 41) → ¬ (a0 = 43) → ¬ (a0 = 45) → ¬ (a0 = 42) → a0 = 47 → a0 = 60 → (F_X12_here  (u2 (u2 (u2 I 130 26 ((I 130 26) + 1)) 130 28 3) 130 29 a0) J) = 61 → H_X12_here  (S80_X12_sign a0 I J) J) ∧ (¬ (a0 = 59) → ¬ (a0 = 40) → ¬ (a0 = 41) → ¬ (a0 = 43) → ¬ (a0 = 45) → ¬ (a0 = 42) → a0 = 47 → a0 = 60 → (F_X12_here  (u2 (u2 (u2 I 130 26 ((I 130 26) + 1)) 130 28 3) 130 29 a0) J) = 61 → ¬ ((F_X12_here  (S80_X12_sign a0 I J) J) = 62) → a0 = 62 → H_X12_here  (S80_X12_sign a0 I J) J) ∧ (¬ (a0 = 59) → ¬ (a0 = 40) → ¬ (a0 = 41) → ¬ (a0 = 43) → ¬ (a0 = 45) → ¬ (a0 = 42) → a0 = 47 → a0 = 60 → (F_X12_here  (u2 (u2 (u2 I 130 26 ((I 130 26) + 1)) 130 28 3) 130 29 a0) J) = 61 → (F_X12_here  (S80_X12_sign a0 I J) J) = 62 → a0 = 62 → H_X12_here  (u2 (S80_X12_sign a0 I J) 130 29 257) J) ∧ (¬ (a0 = 59) → ¬ (a0 = 40) → ¬ (a0 = 41) → ¬ (a0 = 43) → ¬ (a0 = 45) → ¬ (a0 = 42) → ¬ (a0 = 47) → a0 = 60 → H_X12_here  (u2 (u2 (u2 I 130 26 ((I 130 26) + 1)) 130 28 3) 130 29 a0) J) ∧ (¬ (a0 = 59) → ¬ (a0 = 40) → ¬ (a0 = 41) → ¬ (a0 = 43) → ¬ (a0 = 45) → ¬ (a0 = 42) → ¬ (a0 = 47) → a0 = 60 → ¬ ((F_X12_here  (u2 (u2 (u2 I 130 26 ((I 130 26) + 1)) 130 28 3) 130 29 a0) J) = 61) → H_X12_here  (u2 (u2 (u2 I 130 26 ((I 130 26) + 1)) 130 28 3) 130 29 a0) J) ∧ (¬ (a0 = 59) → ¬ (a0 = 40) → ¬ (a0 = 41) → ¬ (a0 = 43) → ¬ (a0 = 45) → ¬ (a0 = 42) → ¬ (a0 = 47) → a0 = 60 → ¬ ((F_X12_here  (u2 (u2 (u2 I 130 26 ((I 130 26) + 1)) 130 28 3) 130 29 a0) J) = 61) → ¬ ((F_X12_here  (u2 (u2 (u2 I 130 26 ((I 130 26) + 1)) 130 28 3) 130 29 a0) J) = 62) → a0 = 62 → H_X12_here  (u2 (u2 (u2 I 130 26 ((I 130 26) + 1)) 130 28 3) 130 29 a0) J) ∧ (¬ (a0 = 59) → ¬ (a0 = 40) → ¬ (a0 = 41) → ¬ (a0 = 43) → ¬ (a0 = 45) → ¬ (a0 = 42) → ¬ (a0 = 47) → a0 = 60 → ¬ ((F_X12_here  (u2 (u2 (u2 I 130 26 ((I 130 26) + 1)) 130 28 3) 130 29 a0) J) = 61) → (F_X12_here  (u2 (u2 (u2 I 130 26 ((I 130 26) + 1)) 130 28 3) 130 29 a0) J) = 62 → a0 = 62 → H_X12_here  (S87_X12_sign a0 I J) J) ∧ (¬ (a0 = 59) → ¬ (a0 = 40) → ¬ (a0 = 41) → ¬ (a0 = 43) → ¬ (a0 = 45) → ¬ (a0 = 42) → ¬ (a0 = 47) → a0 = 60 → (F_X12_here  (u2 (u2 (u2 I 130 26 ((I 130 26) + 1)) 130 28 3) 130 29 a0) J) = 61 → H_X12_here  (S89_X12_sign a0 I J) J) ∧ (¬ (a0 = 59) → ¬ (a0 = 40) → ¬ (a0 = 41) → ¬ (a0 = 43) → ¬ (a0 = 45) → ¬ (a0 = 42) → ¬ (a0 = 47) → a0 = 60 → (F_X12_here  (u2 (u2 (u2 I 130 26 ((I 130 26) + 1)) 130 28 3) 130 29 a0) J) = 61 → ¬ ((F_X12_here  (S89_X12_sign a0 I J) J) = 62) → a0 = 62 → H_X12_here  (S89_X12_sign a0 I J) J) ∧ (¬ (a0 = 59) → ¬ (a0 = 40) → ¬ (a0 = 41) → ¬ (a0 = 43) → ¬ (a0 = 45) → ¬ (a0 = 42) → ¬ (a0 = 47) → a0 = 60 → (F_X12_here  (u2 (u2 (u2 I 130 26 ((I 130 26) + 1)) 130 28 3) 130 29 a0) J) = 61 → (F_X12_here  (S89_X12_sign a0 I J) J) = 62 → a0 = 62 → H_X12_here  (u2 (S89_X12_sign a0 I J) 130 29 257) J) ∧ (¬ (a0 = 59) → ¬ (a0 = 40) → ¬ (a0 = 41) → ¬ (a0 = 43) → ¬ (a0 = 45) → ¬ (a0 = 42) → ¬ (a0 = 47) → ¬ (a0 = 60) → a0 = 61 → a0 = 62 → H_X12_here  (u2 (u2 (u2 I 130 26 ((I 130 26) + 1)) 130 28 3) 130 29 a0) J) ∧ (¬ (a0 = 59) → ¬ (a0 = 40) → ¬ (a0 = 41) → ¬ (a0 = 43) → ¬ (a0 = 45) → ¬ (a0 = 42) → ¬ (a0 = 47) → ¬ (a0 = 60) → ¬ (a0 = 61) → a0 = 62 → H_X12_here  (u2 (u2 (u2 I 130 26 ((I 130 26) + 1)) 130 28 3) 130 29 a0) J)
set_option maxHeartbeats 27080000 in
set_option maxRecDepth 40000 in
theorem c_X12_sign {I : SI} {J : SJ} {R : SR} {n g : Nat} (ro : RM R) (hnn : nM ≤ n) (a0 : Int32)  (hp : H_X12_sign a0 I J) : MM 1 0 0 mX12_sign [.ref 130, .int a0] I J R n g (Pd none (FI_X12_sign a0 I J) J R n g) := by
  refine MM.of (by decide) (Nat.le_of_ble_eq_true rfl) fun K ok fin => ?_
  show WK K 0 0 0 [(0, .ref 130), (1, .int a0)] [] I J R n g
  obtain ⟨hp1, hp2, hp3, hp4, hp5, hp6, hp7, hp8, hp9, hp10, hp11, hp12, hp13, hp14, hp15, hp16, hp17, hp18, hp19, hp20, hp21, hp22, hp23, hp24, hp25, hp26, hp27, hp28, hp29, hp30, hp31, hp32, hp33, hp34, hp35, hp36, hp37, hp38, hp39, hp40, hp41, hp42, hp43, hp44, hp45, hp46, hp47, hp48, hp49, hp50, hp51, hp52, hp53, hp54, hp55, hp56, hp57, hp58, hp59, hp60, hp61, hp62, hp63, hp64, hp65⟩ := hp
  refine w_aload_n ok dX12_sign_0 0 rfl ?_
  refine w_dup ok dX12_sign_1 rfl ?_
  refine w_getI ok dX12_sign_2 (fX12_175 rfl) (congrArg Prod.fst s_130) rfl (ltM hnn (by decide)) ?_
  refine w_iconst (v := 1) ok dX12_sign_5 (by decide) ?_
  refine w_iadd ok dX12_sign_6 ?_
  refine w_putI ok dX12_sign_7 (fwX12_175 rfl) (congrArg Prod.fst s_130) rfl (ltM hnn (by decide)) ?_
  refine w_aload_n ok dX12_sign_10 0 rfl ?_
  refine w_iload_n ok dX12_sign_11 1 rfl ?_
  refine w_bipush (v := 59) ok dX12_sign_12 (by decide) ?_
  refine w_icmp_eq (tgt := 71) ok dX12_sign_14 (by decide) (fun c1 => ?_) (fun c1 => ?_)
  · skip
    refine w_iconst (v := 3) ok dX12_sign_71 (by decide) ?_
    refine w_goto (tgt := 76) ok dX12_sign_72 (by decide) ?_
    refine w_putI ok dX12_sign_76 (fwX12_188 rfl) (congrArg Prod.fst s_130) rfl (ltM hnn (by decide)) ?_
    refine w_aload_n ok dX12_sign_79 0 rfl ?_
    refine w_iload_n ok dX12_sign_80 1 rfl ?_
    refine w_putI ok dX12_sign_81 (fwX12_198 rfl) (congrArg Prod.fst s_130) rfl (ltM hnn (by decide)) ?_
    refine w_iload_n ok dX12_sign_84 1 rfl ?_
    refine w_bipush (v := 60) ok dX12_sign_85 (by decide) ?_
    refine w_icmp_ne (tgt := 106) ok dX12_sign_87 (by decide) (fun c2 => ?_) (fun c2 => ?_)
    · skip
      refine w_iload_n ok dX12_sign_106 1 rfl ?_
      refine w_bipush (v := 60) ok dX12_sign_107 (by decide) ?_
      refine w_icmp_ne (tgt := 128) ok dX12_sign_109 (by decide) (fun _ => ?_) (fun h => absurd h c2)
      refine w_iload_n ok dX12_sign_128 1 rfl ?_
      refine w_bipush (v := 62) ok dX12_sign_129 (by decide) ?_
      refine w_icmp_ne (tgt := 150) ok dX12_sign_131 (by decide) (fun c3 => ?_) (fun c3 => ?_)
      · skip
        refine w_aload_n ok dX12_sign_150 0 rfl ?_
        refine w_getI ok dX12_sign_151 (fX12_198 rfl) (congrArg Prod.fst s_130) rfl (ltM hnn (by decide)) ?_
        refine w_sipush (v := 256) ok dX12_sign_154 (by decide) ?_
        refine w_icmp_lt (tgt := 170) ok dX12_sign_157 (by decide) (fun c4 => ?_) (fun c4 => ?_)
        · skip
          exact w_vret ok fin dX12_sign_170 rfl (by unfold FI_X12_sign; simp only [if_pos c1]; simp only [if_neg c2]; simp only [if_neg c3]; simp only [if_pos c4]; exact Pd.i)
        · skip
          refine w_aload_n ok dX12_sign_160 0 rfl ?_
          refine w_dup ok dX12_sign_161 rfl ?_
          refine w_getI ok dX12_sign_162 (fX12_175 rfl) (congrArg Prod.fst s_130) rfl (ltM hnn (by decide)) ?_
          refine w_iconst (v := 1) ok dX12_sign_165 (by decide) ?_
          refine w_iadd ok dX12_sign_166 ?_
          refine w_putI ok dX12_sign_167 (fwX12_175 rfl) (congrArg Prod.fst s_130) rfl (ltM hnn (by decide)) ?_
          show WK K 0 0 170 [(0, .ref 130), (1, .int a0)] [] (S1_X12_sign a0 I J) J R n g
          exact w_vret ok fin dX12_sign_170 rfl (by unfold FI_X12_sign; simp only [if_pos c1]; simp only [if_neg c2]; simp only [if_neg c3]; simp only [if_neg c4]; exact Pd.i)
      · skip
        refine w_aload_n ok dX12_sign_134 0 rfl ?_
        refine w_cV (As := []) ok dX12_sign_135 iX12_here (lX12_181 rfl) (rcv cls12 (congrArg Prod.fst s_130)) (ltM hnn (by decide)) (c_X12_here ro hnn   (hp1 c1 c2 c3)) (by decide) rfl (Nat.le_of_ble_eq_true rfl) ?_
        refine w_bipush (v := 61) ok dX12_sign_138 (by decide) ?_
        refine w_icmp_ne (tgt := 150) ok dX12_sign_140 (by decide) (fun c5 => ?_) (fun c5 => ?_)
        · skip
          refine w_aload_n ok dX12_sign_150 0 rfl ?_
          refine w_getI ok dX12_sign_151 (fX12_198 rfl) (congrArg Prod.fst s_130) rfl (ltM hnn (by decide)) ?_
          refine w_sipush (v := 256) ok dX12_sign_154 (by decide) ?_
          refine w_icmp_lt (tgt := 170) ok dX12_sign_157 (by decide) (fun c6 => ?_) (fun c6 => ?_)
          · skip
            exact w_vret ok fin dX12_sign_170 rfl (by unfold FI_X12_sign; simp only [if_pos c1]; simp only [if_neg c2]; simp only [if_pos c3]; simp only [if_neg c5]; simp only [if_pos c6]; exact Pd.i)
          · skip
            refine w_aload_n ok dX12_sign_160 0 rfl ?_
            refine w_dup ok dX12_sign_161 rfl ?_
            refine w_getI ok dX12_sign_162 (fX12_175 rfl) (congrArg Prod.fst s_130) rfl (ltM hnn (by decide)) ?_
            refine w_iconst (v := 1) ok dX12_sign_165 (by decide) ?_
            refine w_iadd ok dX12_sign_166 ?_
            refine w_putI ok dX12_sign_167 (fwX12_175 rfl) (congrArg Prod.fst s_130) rfl (ltM hnn (by decide)) ?_
            show WK K 0 0 170 [(0, .ref 130), (1, .int a0)] [] (S2_X12_sign a0 I J) J R n g
            exact w_vret ok fin dX12_sign_170 rfl (by unfold FI_X12_sign; simp only [if_pos c1]; simp only [if_neg c2]; simp only [if_pos c3]; simp only [if_neg c5]; simp only [if_neg c6]; exact Pd.i)
        · skip
          refine w_aload_n ok dX12_sign_143 0 rfl ?_
          refine w_sipush (v := 258) ok dX12_sign_144 (by decide) ?_
          refine w_putI ok dX12_sign_147 (fwX12_198 rfl) (congrArg Prod.fst s_130) rfl (ltM hnn (by decide)) ?_
          show WK K 0 0 150 [(0, .ref 130), (1, .int a0)] [] (S3_X12_sign a0 I J) J R n g
          refine w_aload_n ok dX12_sign_150 0 rfl ?_
          refine w_getI ok dX12_sign_151 (fX12_198 rfl) (congrArg Prod.fst s_130) rfl (ltM hnn (by decide)) ?_
          refine w_sipush (v := 256) ok dX12_sign_154 (by decide) ?_
          refine w_icmp_lt (tgt := 170) ok dX12_sign_157 (by decide) (fun c7 => ?_) (fun c7 => ?_)
          · skip
            exact w_vret ok fin dX12_sign_170 rfl (by unfold FI_X12_sign; simp only [if_pos c1]; simp only [if_neg c2]; simp only [if_pos c3]; simp only [if_pos c5]; simp only [if_pos c7]; exact Pd.i)
          · skip
            refine w_aload_n ok dX12_sign_160 0 rfl ?_
            refine w_dup ok dX12_sign_161 rfl ?_
            refine w_getI ok dX12_sign_162 (fX12_175 rfl) (congrArg Prod.fst s_130) rfl (ltM hnn (by decide)) ?_
            refine w_iconst (v := 1) ok dX12_sign_165 (by decide) ?_
            refine w_iadd ok dX12_sign_166 ?_
            refine w_putI ok dX12_sign_167 (fwX12_175 rfl) (congrArg Prod.fst s_130) rfl (ltM hnn (by decide)) ?_
            exact w_vret ok fin dX12_sign_170 rfl (by unfold FI_X12_sign; simp only [if_pos c1]; simp only [if_neg c2]; simp only [if_pos c3]; simp only [if_pos c5]; simp only [if_neg c7]; exact Pd.i)
    · skip
      refine w_aload_n ok dX12_sign_90 0 rfl ?_
      refine w_cV (As := []) ok dX12_sign_91 iX12_here (lX12_181 rfl) (rcv cls12 (congrArg Prod.fst s_130)) (ltM hnn (by decide)) (c_X12_here ro hnn   (hp2 c1 c2)) (by decide) rfl (Nat.le_of_ble_eq_true rfl) ?_
      refine w_bipush (v := 61) ok dX12_sign_94 (by decide) ?_
      refine w_icmp_ne (tgt := 106) ok dX12_sign_96 (by decide) (fun c8 => ?_) (fun c8 => ?_)
      · skip
        refine w_iload_n ok dX12_sign_106 1 rfl ?_
        refine w_bipush (v := 60) ok dX12_sign_107 (by decide) ?_
        refine w_icmp_ne (tgt := 128) ok dX12_sign_109 (by decide) (fun h => absurd c2 h) (fun _ => ?_)
        refine w_aload_n ok dX12_sign_112 0 rfl ?_
        refine w_cV (As := []) ok dX12_sign_113 iX12_here (lX12_181 rfl) (rcv cls12 (congrArg Prod.fst s_130)) (ltM hnn (by decide)) (c_X12_here ro hnn   (hp3 c1 c2 c8)) (by decide) rfl (Nat.le_of_ble_eq_true rfl) ?_
        refine w_bipush (v := 62) ok dX12_sign_116 (by decide) ?_
        refine w_icmp_ne (tgt := 128) ok dX12_sign_118 (by decide) (fun c9 => ?_) (fun c9 => ?_)
        · skip
          refine w_iload_n ok dX12_sign_128 1 rfl ?_
          refine w_bipush (v := 62) ok dX12_sign_129 (by decide) ?_
          refine w_icmp_ne (tgt := 150) ok dX12_sign_131 (by decide) (fun c10 => ?_) (fun c10 => ?_)
          · skip
            refine w_aload_n ok dX12_sign_150 0 rfl ?_
            refine w_getI ok dX12_sign_151 (fX12_198 rfl) (congrArg Prod.fst s_130) rfl (ltM hnn (by decide)) ?_
            refine w_sipush (v := 256) ok dX12_sign_154 (by decide) ?_
            refine w_icmp_lt (tgt := 170) ok dX12_sign_157 (by decide) (fun c11 => ?_) (fun c11 => ?_)
            · skip
              exact w_vret ok fin dX12_sign_170 rfl (by unfold FI_X12_sign; simp only [if_pos c1]; simp only [if_pos c2]; simp only [if_neg c8]; simp only [if_neg c9]; simp only [if_neg c10]; simp only [if_pos c11]; exact Pd.i)
            · skip
              refine w_aload_n ok dX12_sign_160 0 rfl ?_
              refine w_dup ok dX12_sign_161 rfl ?_
              refine w_getI ok dX12_sign_162 (fX12_175 rfl) (congrArg Prod.fst s_130) rfl (ltM hnn (by decide)) ?_
              refine w_iconst (v := 1) ok dX12_sign_165 (by decide) ?_
              refine w_iadd ok dX12_sign_166 ?_
              refine w_putI ok dX12_sign_167 (fwX12_175 rfl) (congrArg Prod.fst s_130) rfl (ltM hnn (by decide)) ?_
              show WK K 0 0 170 [(0, .ref 130), (1, .int a0)] [] (S4_X12_sign a0 I J) J R n g
              exact w_vret ok fin dX12_sign_170 rfl (by unfold FI_X12_sign; simp only [if_pos c1]; simp only [if_pos c2]; simp only [if_neg c8]; simp only [if_neg c9]; simp only [if_neg c10]; simp only [if_neg c11]; exact Pd.i)
          · skip
            refine w_aload_n ok dX12_sign_134 0 rfl ?_
            refine w_cV (As := []) ok dX12_sign_135 iX12_here (lX12_181 rfl) (rcv cls12 (congrArg Prod.fst s_130)) (ltM hnn (by decide)) (c_X12_here ro hnn   (hp4 c1 c2 c8 c9 c10)) (by decide) rfl (Nat.le_of_ble_eq_true rfl) ?_
            refine w_bipush (v := 61) ok dX12_sign_138 (by decide) ?_
            refine w_icmp_ne (tgt := 150) ok dX12_sign_140 (by decide) (fun _ => ?_) (fun h => absurd h c8)
            refine w_aload_n ok dX12_sign_150 0 rfl ?_
            refine w_getI ok dX12_sign_151 (fX12_198 rfl) (congrArg Prod.fst s_130) rfl (ltM hnn (by decide)) ?_
            refine w_sipush (v := 256) ok dX12_sign_154 (by decide) ?_
            refine w_icmp_lt (tgt := 170) ok dX12_sign_157 (by decide) (fun c12 => ?_) (fun c12 => ?_)
            · skip
              exact w_vret ok fin dX12_sign_170 rfl (by unfold FI_X12_sign; simp only [if_pos c1]; simp only [if_pos c2]; simp only [if_neg c8]; simp only [if_neg c9]; simp only [if_pos c10]; simp only [if_pos c12]; exact Pd.i)
            · skip
              refine w_aload_n ok dX12_sign_160 0 rfl ?_
              refine w_dup ok dX12_sign_161 rfl ?_
              refine w_getI ok dX12_sign_162 (fX12_175 rfl) (congrArg Prod.fst s_130) rfl (ltM hnn (by decide)) ?_
              refine w_iconst (v := 1) ok dX12_sign_165 (by decide) ?_
              refine w_iadd ok dX12_sign_166 ?_
              refine w_putI ok dX12_sign_167 (fwX12_175 rfl) (congrArg Prod.fst s_130) rfl (ltM hnn (by decide)) ?_
              show WK K 0 0 170 [(0, .ref 130), (1, .int a0)] [] (S5_X12_sign a0 I J) J R n g
              exact w_vret ok fin dX12_sign_170 rfl (by unfold FI_X12_sign; simp only [if_pos c1]; simp only [if_pos c2]; simp only [if_neg c8]; simp only [if_neg c9]; simp only [if_pos c10]; simp only [if_neg c12]; exact Pd.i)
        · skip
          refine w_aload_n ok dX12_sign_121 0 rfl ?_
          refine w_sipush (v := 257) ok dX12_sign_122 (by decide) ?_
          refine w_putI ok dX12_sign_125 (fwX12_198 rfl) (congrArg Prod.fst s_130) rfl (ltM hnn (by decide)) ?_
          show WK K 0 0 128 [(0, .ref 130), (1, .int a0)] [] (S6_X12_sign a0 I J) J R n g
          refine w_iload_n ok dX12_sign_128 1 rfl ?_
          refine w_bipush (v := 62) ok dX12_sign_129 (by decide) ?_
          refine w_icmp_ne (tgt := 150) ok dX12_sign_131 (by decide) (fun c13 => ?_) (fun c13 => ?_)
          · skip
            refine w_aload_n ok dX12_sign_150 0 rfl ?_
            refine w_getI ok dX12_sign_151 (fX12_198 rfl) (congrArg Prod.fst s_130) rfl (ltM hnn (by decide)) ?_
            refine w_sipush (v := 256) ok dX12_sign_154 (by decide) ?_
            refine w_icmp_lt (tgt := 170) ok dX12_sign_157 (by decide) (fun c14 => ?_) (fun c14 => ?_)
            · skip
              exact w_vret ok fin dX12_sign_170 rfl (by unfold FI_X12_sign; simp only [if_pos c1]; simp only [if_pos c2]; simp only [if_neg c8]; simp only [if_pos c9]; simp only [if_neg c13]; simp only [if_pos c14]; exact Pd.i)
            · skip
              refine w_aload_n ok dX12_sign_160 0 rfl ?_
              refine w_dup ok dX12_sign_161 rfl ?_
              refine w_getI ok dX12_sign_162 (fX12_175 rfl) (congrArg Prod.fst s_130) rfl (ltM hnn (by decide)) ?_
              refine w_iconst (v := 1) ok dX12_sign_165 (by decide) ?_
              refine w_iadd ok dX12_sign_166 ?_
              refine w_putI ok dX12_sign_167 (fwX12_175 rfl) (congrArg Prod.fst s_130) rfl (ltM hnn (by decide)) ?_
              exact w_vret ok fin dX12_sign_170 rfl (by unfold FI_X12_sign; simp only [if_pos c1]; simp only [if_pos c2]; simp only [if_neg c8]; simp only [if_pos c9]; simp only [if_neg c13]; simp only [if_neg c14]; exact Pd.i)
          · skip
            refine w_aload_n ok dX12_sign_134 0 rfl ?_
            refine w_cV (As := []) ok dX12_sign_135 iX12_here (lX12_181 rfl) (rcv cls12 (congrArg Prod.fst s_130)) (ltM hnn (by decide)) (c_X12_here ro hnn   (hp5 c1 c2 c8 c9 c13)) (by decide) rfl (Nat.le_of_ble_eq_true rfl) ?_
            refine w_bipush (v := 61) ok dX12_sign_138 (by decide) ?_
            refine w_icmp_ne (tgt := 150) ok dX12_sign_140 (by decide) (fun c15 => ?_) (fun c15 => ?_)
            · skip
              refine w_aload_n ok dX12_sign_150 0 rfl ?_
              refine w_getI ok dX12_sign_151 (fX12_198 rfl) (congrArg Prod.fst s_130) rfl (ltM hnn (by decide)) ?_
              refine w_sipush (v := 256) ok dX12_sign_154 (by decide) ?_
              refine w_icmp_lt (tgt := 170) ok dX12_sign_157 (by decide) (fun c16 => ?_) (fun c16 => ?_)
              · skip
                exact w_vret ok fin dX12_sign_170 rfl (by unfold FI_X12_sign; simp only [if_pos c1]; simp only [if_pos c2]; simp only [if_neg c8]; simp only [if_pos c9]; simp only [if_pos c13]; simp only [if_neg c15]; simp only [if_pos c16]; exact Pd.i)
              · skip
                refine w_aload_n ok dX12_sign_160 0 rfl ?_
                refine w_dup ok dX12_sign_161 rfl ?_
                refine w_getI ok dX12_sign_162 (fX12_175 rfl) (congrArg Prod.fst s_130) rfl (ltM hnn (by decide)) ?_
                refine w_iconst (v := 1) ok dX12_sign_165 (by decide) ?_
                refine w_iadd ok dX12_sign_166 ?_
                refine w_putI ok dX12_sign_167 (fwX12_175 rfl) (congrArg Prod.fst s_130) rfl (ltM hnn (by decide)) ?_
                exact w_vret ok fin dX12_sign_170 rfl (by unfold FI_X12_sign; simp only [if_pos c1]; simp only [if_pos c2]; simp only [if_neg c8]; simp only [if_pos c9]; simp only [if_pos c13]; simp only [if_neg c15]; simp only [if_neg c16]; exact Pd.i)
            · skip
              refine w_aload_n ok dX12_sign_143 0 rfl ?_
              refine w_sipush (v := 258) ok dX12_sign_144 (by decide) ?_
              refine w_putI ok dX12_sign_147 (fwX12_198 rfl) (congrArg Prod.fst s_130) rfl (ltM hnn (by decide)) ?_
              refine w_aload_n ok dX12_sign_150 0 rfl ?_
              refine w_getI ok dX12_sign_151 (fX12_198 rfl) (congrArg Prod.fst s_130) rfl (ltM hnn (by decide)) ?_
              refine w_sipush (v := 256) ok dX12_sign_154 (by decide) ?_
              refine w_icmp_lt (tgt := 170) ok dX12_sign_157 (by decide) (fun c17 => ?_) (fun c17 => ?_)
              · skip
                exact w_vret ok fin dX12_sign_170 rfl (by unfold FI_X12_sign; simp only [if_pos c1]; simp only [if_pos c2]; simp only [if_neg c8]; simp only [if_pos c9]; simp only [if_pos c13]; simp only [if_pos c15]; simp only [if_pos c17]; exact Pd.i)
              · skip
                refine w_aload_n ok dX12_sign_160 0 rfl ?_
                refine w_dup ok dX12_sign_161 rfl ?_
                refine w_getI ok dX12_sign_162 (fX12_175 rfl) (congrArg Prod.fst s_130) rfl (ltM hnn (by decide)) ?_
                refine w_iconst (v := 1) ok dX12_sign_165 (by decide) ?_
                refine w_iadd ok dX12_sign_166 ?_
                refine w_putI ok dX12_sign_167 (fwX12_175 rfl) (congrArg Prod.fst s_130) rfl (ltM hnn (by decide)) ?_
                show WK K 0 0 170 [(0, .ref 130), (1, .int a0)] [] (S7_X12_sign a0 I J) J R n g
                exact w_vret ok fin dX12_sign_170 rfl (by unfold FI_X12_sign; simp only [if_pos c1]; simp only [if_pos c2]; simp only [if_neg c8]; simp only [if_pos c9]; simp only [if_pos c13]; simp only [if_pos c15]; simp only [if_neg c17]; exact Pd.i)
      · skip
        refine w_aload_n ok dX12_sign_99 0 rfl ?_
        refine w_sipush (v := 256) ok dX12_sign_100 (by decide) ?_
        refine w_putI ok dX12_sign_103 (fwX12_198 rfl) (congrArg Prod.fst s_130) rfl (ltM hnn (by decide)) ?_
        show WK K 0 0 106 [(0, .ref 130), (1, .int a0)] [] (S8_X12_sign a0 I J) J R n g
        refine w_iload_n ok dX12_sign_106 1 rfl ?_
        refine w_bipush (v := 60) ok dX12_sign_107 (by decide) ?_
        refine w_icmp_ne (tgt := 128) ok dX12_sign_109 (by decide) (fun h => absurd c2 h) (fun _ => ?_)
        refine w_aload_n ok dX12_sign_112 0 rfl ?_
        refine w_cV (As := []) ok dX12_sign_113 iX12_here (lX12_181 rfl) (rcv cls12 (congrArg Prod.fst s_130)) (ltM hnn (by decide)) (c_X12_here ro hnn   (hp6 c1 c2 c8)) (by decide) rfl (Nat.le_of_ble_eq_true rfl) ?_
        refine w_bipush (v := 62) ok dX12_sign_116 (by decide) ?_
        refine w_icmp_ne (tgt := 128) ok dX12_sign_118 (by decide) (fun c18 => ?_) (fun c18 => ?_)
        · skip
          refine w_iload_n ok dX12_sign_128 1 rfl ?_
          refine w_bipush (v := 62) ok dX12_sign_129 (by decide) ?_
          refine w_icmp_ne (tgt := 150) ok dX12_sign_131 (by decide) (fun c19 => ?_) (fun c19 => ?_)
          · skip
            refine w_aload_n ok dX12_sign_150 0 rfl ?_
            refine w_getI ok dX12_sign_151 (fX12_198 rfl) (congrArg Prod.fst s_130) rfl (ltM hnn (by decide)) ?_
            refine w_sipush (v := 256) ok dX12_sign_154 (by decide) ?_
            refine w_icmp_lt (tgt := 170) ok dX12_sign_157 (by decide) (fun c20 => ?_) (fun c20 => ?_)
            · skip
              exact w_vret ok fin dX12_sign_170 rfl (by unfold FI_X12_sign; simp only [if_pos c1]; simp only [if_pos c2]; simp only [if_pos c8]; simp only [if_neg c18]; simp only [if_neg c19]; simp only [if_pos c20]; exact Pd.i)
            · skip
              refine w_aload_n ok dX12_sign_160 0 rfl ?_
              refine w_dup ok dX12_sign_161 rfl ?_
              refine w_getI ok dX12_sign_162 (fX12_175 rfl) (congrArg Prod.fst s_130) rfl (ltM hnn (by decide)) ?_
              refine w_iconst (v := 1) ok dX12_sign_165 (by decide) ?_
              refine w_iadd ok dX12_sign_166 ?_
              refine w_putI ok dX12_sign_167 (fwX12_175 rfl) (congrArg Prod.fst s_130) rfl (ltM hnn (by decide)) ?_
              exact w_vret ok fin dX12_sign_170 rfl (by unfold FI_X12_sign; simp only [if_pos c1]; simp only [if_pos c2]; simp only [if_pos c8]; simp only [if_neg c18]; simp only [if_neg c19]; simp only [if_neg c20]; exact Pd.i)
          · skip
            refine w_aload_n ok dX12_sign_134 0 rfl ?_
            refine w_cV (As := []) ok dX12_sign_135 iX12_here (lX12_181 rfl) (rcv cls12 (congrArg Prod.fst s_130)) (ltM hnn (by decide)) (c_X12_here ro hnn   (hp7 c1 c2 c8 c18 c19)) (by decide) rfl (Nat.le_of_ble_eq_true rfl) ?_
            refine w_bipush (v := 61) ok dX12_sign_138 (by decide) ?_
            refine w_icmp_ne (tgt := 150) ok dX12_sign_140 (by decide) (fun c21 => ?_) (fun c21 => ?_)
            · skip
              refine w_aload_n ok dX12_sign_150 0 rfl ?_
              refine w_getI ok dX12_sign_151 (fX12_198 rfl) (congrArg Prod.fst s_130) rfl (ltM hnn (by decide)) ?_
              refine w_sipush (v := 256) ok dX12_sign_154 (by decide) ?_
              refine w_icmp_lt (tgt := 170) ok dX12_sign_157 (by decide) (fun c22 => ?_) (fun c22 => ?_)
              · skip
                exact w_vret ok fin dX12_sign_170 rfl (by unfold FI_X12_sign; simp only [if_pos c1]; simp only [if_pos c2]; simp only [if_pos c8]; simp only [if_neg c18]; simp only [if_pos c19]; simp only [if_neg c21]; simp only [if_pos c22]; exact Pd.i)
              · skip
                refine w_aload_n ok dX12_sign_160 0 rfl ?_
                refine w_dup ok dX12_sign_161 rfl ?_
                refine w_getI ok dX12_sign_162 (fX12_175 rfl) (congrArg Prod.fst s_130) rfl (ltM hnn (by decide)) ?_
                refine w_iconst (v := 1) ok dX12_sign_165 (by decide) ?_
                refine w_iadd ok dX12_sign_166 ?_
                refine w_putI ok dX12_sign_167 (fwX12_175 rfl) (congrArg Prod.fst s_130) rfl (ltM hnn (by decide)) ?_
                exact w_vret ok fin dX12_sign_170 rfl (by unfold FI_X12_sign; simp only [if_pos c1]; simp only [if_pos c2]; simp only [if_pos c8]; simp only [if_neg c18]; simp only [if_pos c19]; simp only [if_neg c21]; simp only [if_neg c22]; exact Pd.i)
            · skip
              refine w_aload_n ok dX12_sign_143 0 rfl ?_
              refine w_sipush (v := 258) ok dX12_sign_144 (by decide) ?_
              refine w_putI ok dX12_sign_147 (fwX12_198 rfl) (congrArg Prod.fst s_130) rfl (ltM hnn (by decide)) ?_
              refine w_aload_n ok dX12_sign_150 0 rfl ?_
              refine w_getI ok dX12_sign_151 (fX12_198 rfl) (congrArg Prod.fst s_130) rfl (ltM hnn (by decide)) ?_
              refine w_sipush (v := 256) ok dX12_sign_154 (by decide) ?_
              refine w_icmp_lt (tgt := 170) ok dX12_sign_157 (by decide) (fun c23 => ?_) (fun c23 => ?_)
              · skip
                exact w_vret ok fin dX12_sign_170 rfl (by unfold FI_X12_sign; simp only [if_pos c1]; simp only [if_pos c2]; simp only [if_pos c8]; simp only [if_neg c18]; simp only [if_pos c19]; simp only [if_pos c21]; simp only [if_pos c23]; exact Pd.i)
              · skip
                refine w_aload_n ok dX12_sign_160 0 rfl ?_
                refine w_dup ok dX12_sign_161 rfl ?_
                refine w_getI ok dX12_sign_162 (fX12_175 rfl) (congrArg Prod.fst s_130) rfl (ltM hnn (by decide)) ?_
                refine w_iconst (v := 1) ok dX12_sign_165 (by decide) ?_
                refine w_iadd ok dX12_sign_166 ?_
                refine w_putI ok dX12_sign_167 (fwX12_175 rfl) (congrArg Prod.fst s_130) rfl (ltM hnn (by decide)) ?_
                show WK K 0 0 170 [(0, .ref 130), (1, .int a0)] [] (S9_X12_sign a0 I J) J R n g
                exact w_vret ok fin dX12_sign_170 rfl (by unfold FI_X12_sign; simp only [if_pos c1]; simp only [if_pos c2]; simp only [if_pos c8]; simp only [if_neg c18]; simp only [if_pos c19]; simp only [if_pos c21]; simp only [if_neg c23]; exact Pd.i)
        · skip
          refine w_aload_n ok dX12_sign_121 0 rfl ?_
          refine w_sipush (v := 257) ok dX12_sign_122 (by decide) ?_
          refine w_putI ok dX12_sign_125 (fwX12_198 rfl) (congrArg Prod.fst s_130) rfl (ltM hnn (by decide)) ?_
          refine w_iload_n ok dX12_sign_128 1 rfl ?_
          refine w_bipush (v := 62) ok dX12_sign_129 (by decide) ?_
          refine w_icmp_ne (tgt := 150) ok dX12_sign_131 (by decide) (fun c24 => ?_) (fun c24 => ?_)
          · skip
            refine w_aload_n ok dX12_sign_150 0 rfl ?_
            refine w_getI ok dX12_sign_151 (fX12_198 rfl) (congrArg Prod.fst s_130) rfl (ltM hnn (by decide)) ?_
            refine w_sipush (v := 256) ok dX12_sign_154 (by decide) ?_
            refine w_icmp_lt (tgt := 170) ok dX12_sign_157 (by decide) (fun c25 => ?_) (fun c25 => ?_)
            · skip
              exact w_vret ok fin dX12_sign_170 rfl (by unfold FI_X12_sign; simp only [if_pos c1]; simp only [if_pos c2]; simp only [if_pos c8]; simp only [if_pos c18]; simp only [if_neg c24]; simp only [if_pos c25]; exact Pd.i)
            · skip
              refine w_aload_n ok dX12_sign_160 0 rfl ?_
              refine w_dup ok dX12_sign_161 rfl ?_
              refine w_getI ok dX12_sign_162 (fX12_175 rfl) (congrArg Prod.fst s_130) rfl (ltM hnn (by decide)) ?_
              refine w_iconst (v := 1) ok dX12_sign_165 (by decide) ?_
              refine w_iadd ok dX12_sign_166 ?_
              refine w_putI ok dX12_sign_167 (fwX12_175 rfl) (congrArg Prod.fst s_130) rfl (ltM hnn (by decide)) ?_
              show WK K 0 0 170 [(0, .ref 130), (1, .int a0)] [] (S10_X12_sign a0 I J) J R n g
              exact w_vret ok fin dX12_sign_170 rfl (by unfold FI_X12_sign; simp only [if_pos c1]; simp only [if_pos c2]; simp only [if_pos c8]; simp only [if_pos c18]; simp only [if_neg c24]; simp only [if_neg c25]; exact Pd.i)
          · skip
            refine w_aload_n ok dX12_sign_134 0 rfl ?_
            refine w_cV (As := []) ok dX12_sign_135 iX12_here (lX12_181 rfl) (rcv cls12 (congrArg Prod.fst s_130)) (ltM hnn (by decide)) (c_X12_here ro hnn   (hp8 c1 c2 c8 c18 c24)) (by decide) rfl (Nat.le_of_ble_eq_true rfl) ?_
            refine w_bipush (v := 61) ok dX12_sign_138 (by decide) ?_
            refine w_icmp_ne (tgt := 150) ok dX12_sign_140 (by decide) (fun c26 => ?_) (fun c26 => ?_)
            · skip
              refine w_aload_n ok dX12_sign_150 0 rfl ?_
              refine w_getI ok dX12_sign_151 (fX12_198 rfl) (congrArg Prod.fst s_130) rfl (ltM hnn (by decide)) ?_
              refine w_sipush (v := 256) ok dX12_sign_154 (by decide) ?_
              refine w_icmp_lt (tgt := 170) ok dX12_sign_157 (by decide) (fun c27 => ?_) (fun c27 => ?_)
              · skip
                exact w_vret ok fin dX12_sign_170 rfl (by unfold FI_X12_sign; simp only [if_pos c1]; simp only [if_pos c2]; simp only [if_pos c8]; simp only [if_pos c18]; simp only [if_pos c24]; simp only [if_neg c26]; simp only [if_pos c27]; exact Pd.i)
              · skip
                refine w_aload_n ok dX12_sign_160 0 rfl ?_
                refine w_dup ok dX12_sign_161 rfl ?_
                refine w_getI ok dX12_sign_162 (fX12_175 rfl) (congrArg Prod.fst s_130) rfl (ltM hnn (by decide)) ?_
                refine w_iconst (v := 1) ok dX12_sign_165 (by decide) ?_
                refine w_iadd ok dX12_sign_166 ?_
                refine w_putI ok dX12_sign_167 (fwX12_175 rfl) (congrArg Prod.fst s_130) rfl (ltM hnn (by decide)) ?_
                show WK K 0 0 170 [(0, .ref 130), (1, .int a0)] [] (S11_X12_sign a0 I J) J R n g
                exact w_vret ok fin dX12_sign_170 rfl (by unfold FI_X12_sign; simp only [if_pos c1]; simp only [if_pos c2]; simp only [if_pos c8]; simp only [if_pos c18]; simp only [if_pos c24]; simp only [if_neg c26]; simp only [if_neg c27]; exact Pd.i)
            · skip
              refine w_aload_n ok dX12_sign_143 0 rfl ?_
              refine w_sipush (v := 258) ok dX12_sign_144 (by decide) ?_
              refine w_putI ok dX12_sign_147 (fwX12_198 rfl) (congrArg Prod.fst s_130) rfl (ltM hnn (by decide)) ?_
              refine w_aload_n ok dX12_sign_150 0 rfl ?_
              refine w_getI ok dX12_sign_151 (fX12_198 rfl) (congrArg Prod.fst s_130) rfl (ltM hnn (by decide)) ?_
              refine w_sipush (v := 256) ok dX12_sign_154 (by decide) ?_
              refine w_icmp_lt (tgt := 170) ok dX12_sign_157 (by decide) (fun c28 => ?_) (fun c28 => ?_)
              · skip
                exact w_vret ok fin dX12_sign_170 rfl (by unfold FI_X12_sign; simp only [if_pos c1]; simp only [if_pos c2]; simp only [if_pos c8]; simp only [if_pos c18]; simp only [if_pos c24]; simp only [if_pos c26]; simp only [if_pos c28]; exact Pd.i)
              · skip
                refine w_aload_n ok dX12_sign_160 0 rfl ?_
                refine w_dup ok dX12_sign_161 rfl ?_
                refine w_getI ok dX12_sign_162 (fX12_175 rfl) (congrArg Prod.fst s_130) rfl (ltM hnn (by decide)) ?_
                refine w_iconst (v := 1) ok dX12_sign_165 (by decide) ?_
                refine w_iadd ok dX12_sign_166 ?_
                refine w_putI ok dX12_sign_167 (fwX12_175 rfl) (congrArg Prod.fst s_130) rfl (ltM hnn (by decide)) ?_
                show WK K 0 0 170 [(0, .ref 130), (1, .int a0)] [] (S12_X12_sign a0 I J) J R n g
                exact w_vret ok fin dX12_sign_170 rfl (by unfold FI_X12_sign; simp only [if_pos c1]; simp only [if_pos c2]; simp only [if_pos c8]; simp only [if_pos c18]; simp only [if_pos c24]; simp only [if_pos c26]; simp only [if_neg c28]; exact Pd.i)
  · skip
    refine w_iload_n ok dX12_sign_17 1 rfl ?_
    refine w_bipush (v := 40) ok dX12_sign_18 (by decide) ?_
    refine w_icmp_eq (tgt := 71) ok dX12_sign_20 (by decide) (fun c29 => ?_) (fun c29 => ?_)
    · skip
      refine w_iconst (v := 3) ok dX12_sign_71 (by decide) ?_
      refine w_goto (tgt := 76) ok dX12_sign_72 (by decide) ?_
      refine w_putI ok dX12_sign_76 (fwX12_188 rfl) (congrArg Prod.fst s_130) rfl (ltM hnn (by decide)) ?_
      refine w_aload_n ok dX12_sign_79 0 rfl ?_
      refine w_iload_n ok dX12_sign_80 1 rfl ?_
      refine w_putI ok dX12_sign_81 (fwX12_198 rfl) (congrArg Prod.fst s_130) rfl (ltM hnn (by decide)) ?_
      refine w_iload_n ok dX12_sign_84 1 rfl ?_
      refine w_bipush (v := 60) ok dX12_sign_85 (by decide) ?_
      refine w_icmp_ne (tgt := 106) ok dX12_sign_87 (by decide) (fun c30 => ?_) (fun c30 => ?_)
      · skip
        refine w_iload_n ok dX12_sign_106 1 rfl ?_
        refine w_bipush (v := 60) ok dX12_sign_107 (by decide) ?_
        refine w_icmp_ne (tgt := 128) ok dX12_sign_109 (by decide) (fun _ => ?_) (fun h => absurd h c30)
        refine w_iload_n ok dX12_sign_128 1 rfl ?_
        refine w_bipush (v := 62) ok dX12_sign_129 (by decide) ?_
        refine w_icmp_ne (tgt := 150) ok dX12_sign_131 (by decide) (fun c31 => ?_) (fun c31 => ?_)
        · skip
          refine w_aload_n ok dX12_sign_150 0 rfl ?_
          refine w_getI ok dX12_sign_151 (fX12_198 rfl) (congrArg Prod.fst s_130) rfl (ltM hnn (by decide)) ?_
          refine w_sipush (v := 256) ok dX12_sign_154 (by decide) ?_
          refine w_icmp_lt (tgt := 170) ok dX12_sign_157 (by decide) (fun c32 => ?_) (fun c32 => ?_)
          · skip
            exact w_vret ok fin dX12_sign_170 rfl (by unfold FI_X12_sign; simp only [if_neg c1]; simp only [if_pos c29]; simp only [if_neg c30]; simp only [if_neg c31]; simp only [if_pos c32]; exact Pd.i)
          · skip
            refine w_aload_n ok dX12_sign_160 0 rfl ?_
            refine w_dup ok dX12_sign_161 rfl ?_
            refine w_getI ok dX12_sign_162 (fX12_175 rfl) (congrArg Prod.fst s_130) rfl (ltM hnn (by decide)) ?_
            refine w_iconst (v := 1) ok dX12_sign_165 (by decide) ?_
            refine w_iadd ok dX12_sign_166 ?_
            refine w_putI ok dX12_sign_167 (fwX12_175 rfl) (congrArg Prod.fst s_130) rfl (ltM hnn (by decide)) ?_
            show WK K 0 0 170 [(0, .ref 130), (1, .int a0)] [] (S13_X12_sign a0 I J) J R n g
            exact w_vret ok fin dX12_sign_170 rfl (by unfold FI_X12_sign; simp only [if_neg c1]; simp only [if_pos c29]; simp only [if_neg c30]; simp only [if_neg c31]; simp only [if_neg c32]; exact Pd.i)
        · skip
          refine w_aload_n ok dX12_sign_134 0 rfl ?_
          refine w_cV (As := []) ok dX12_sign_135 iX12_here (lX12_181 rfl) (rcv cls12 (congrArg Prod.fst s_130)) (ltM hnn (by decide)) (c_X12_here ro hnn   (hp9 c1 c29 c30 c31)) (by decide) rfl (Nat.le_of_ble_eq_true rfl) ?_
          refine w_bipush (v := 61) ok dX12_sign_138 (by decide) ?_
          refine w_icmp_ne (tgt := 150) ok dX12_sign_140 (by decide) (fun c33 => ?_) (fun c33 => ?_)
          · skip
            refine w_aload_n ok dX12_sign_150 0 rfl ?_
            refine w_getI ok dX12_sign_151 (fX12_198 rfl) (congrArg Prod.fst s_130) rfl (ltM hnn (by decide)) ?_
            refine w_sipush (v := 256) ok dX12_sign_154 (by decide) ?_
            refine w_icmp_lt (tgt := 170) ok dX12_sign_157 (by decide) (fun c34 => ?_) (fun c34 => ?_)
            · skip
              exact w_vret ok fin dX12_sign_170 rfl (by unfold FI_X12_sign; simp only [if_neg c1]; simp only [if_pos c29]; simp only [if_neg c30]; simp only [if_pos c31]; simp only [if_neg c33]; simp only [if_pos c34]; exact Pd.i)
            · skip
              refine w_aload_n ok dX12_sign_160 0 rfl ?_
              refine w_dup ok dX12_sign_161 rfl ?_
              refine w_getI ok dX12_sign_162 (fX12_175 rfl) (congrArg Prod.fst s_130) rfl (ltM hnn (by decide)) ?_
              refine w_iconst (v := 1) ok dX12_sign_165 (by decide) ?_
              refine w_iadd ok dX12_sign_166 ?_
              refine w_putI ok dX12_sign_167 (fwX12_175 rfl) (congrArg Prod.fst s_130) rfl (ltM hnn (by decide)) ?_
              show WK K 0 0 170 [(0, .ref 130), (1, .int a0)] [] (S14_X12_sign a0 I J) J R n g
              exact w_vret ok fin dX12_sign_170 rfl (by unfold FI_X12_sign; simp only [if_neg c1]; simp only [if_pos c29]; simp only [if_neg c30]; simp only [if_pos c31]; simp only [if_neg c33]; simp only [if_neg c34]; exact Pd.i)
          · skip
            refine w_aload_n ok dX12_sign_143 0 rfl ?_
            refine w_sipush (v := 258) ok dX12_sign_144 (by decide) ?_
            refine w_putI ok dX12_sign_147 (fwX12_198 rfl) (congrArg Prod.fst s_130) rfl (ltM hnn (by decide)) ?_
            show WK K 0 0 150 [(0, .ref 130), (1, .int a0)] [] (S15_X12_sign a0 I J) J R n g
            refine w_aload_n ok dX12_sign_150 0 rfl ?_
            refine w_getI ok dX12_sign_151 (fX12_198 rfl) (congrArg Prod.fst s_130) rfl (ltM hnn (by decide)) ?_
            refine w_sipush (v := 256) ok dX12_sign_154 (by decide) ?_
            refine w_icmp_lt (tgt := 170) ok dX12_sign_157 (by decide) (fun c35 => ?_) (fun c35 => ?_)
            · skip
              exact w_vret ok fin dX12_sign_170 rfl (by unfold FI_X12_sign; simp only [if_neg c1]; simp only [if_pos c29]; simp only [if_neg c30]; simp only [if_pos c31]; simp only [if_pos c33]; simp only [if_pos c35]; exact Pd.i)
            · skip
              refine w_aload_n ok dX12_sign_160 0 rfl ?_
              refine w_dup ok dX12_sign_161 rfl ?_
              refine w_getI ok dX12_sign_162 (fX12_175 rfl) (congrArg Prod.fst s_130) rfl (ltM hnn (by decide)) ?_
              refine w_iconst (v := 1) ok dX12_sign_165 (by decide) ?_
              refine w_iadd ok dX12_sign_166 ?_
              refine w_putI ok dX12_sign_167 (fwX12_175 rfl) (congrArg Prod.fst s_130) rfl (ltM hnn (by decide)) ?_
              exact w_vret ok fin dX12_sign_170 rfl (by unfold FI_X12_sign; simp only [if_neg c1]; simp only [if_pos c29]; simp only [if_neg c30]; simp only [if_pos c31]; simp only [if_pos c33]; simp only [if_neg c35]; exact Pd.i)
      · skip
        refine w_aload_n ok dX12_sign_90 0 rfl ?_
        refine w_cV (As := []) ok dX12_sign_91 iX12_here (lX12_181 rfl) (rcv cls12 (congrArg Prod.fst s_130)) (ltM hnn (by decide)) (c_X12_here ro hnn   (hp10 c1 c29 c30)) (by decide) rfl (Nat.le_of_ble_eq_true rfl) ?_
        refine w_bipush (v := 61) ok dX12_sign_94 (by decide) ?_
        refine w_icmp_ne (tgt := 106) ok dX12_sign_96 (by decide) (fun c36 => ?_) (fun c36 => ?_)
        · skip
          refine w_iload_n ok dX12_sign_106 1 rfl ?_
          refine w_bipush (v := 60) ok dX12_sign_107 (by decide) ?_
          refine w_icmp_ne (tgt := 128) ok dX12_sign_109 (by decide) (fun h => absurd c30 h) (fun _ => ?_)
          refine w_aload_n ok dX12_sign_112 0 rfl ?_
          refine w_cV (As := []) ok dX12_sign_113 iX12_here (lX12_181 rfl) (rcv cls12 (congrArg Prod.fst s_130)) (ltM hnn (by decide)) (c_X12_here ro hnn   (hp11 c1 c29 c30 c36)) (by decide) rfl (Nat.le_of_ble_eq_true rfl) ?_
          refine w_bipush (v := 62) ok dX12_sign_116 (by decide) ?_
          refine w_icmp_ne (tgt := 128) ok dX12_sign_118 (by decide) (fun c37 => ?_) (fun c37 => ?_)
          · skip
            refine w_iload_n ok dX12_sign_128 1 rfl ?_
            refine w_bipush (v := 62) ok dX12_sign_129 (by decide) ?_
            refine w_icmp_ne (tgt := 150) ok dX12_sign_131 (by decide) (fun c38 => ?_) (fun c38 => ?_)
            · skip
              refine w_aload_n ok dX12_sign_150 0 rfl ?_
              refine w_getI ok dX12_sign_151 (fX12_198 rfl) (congrArg Prod.fst s_130) rfl (ltM hnn (by decide)) ?_
              refine w_sipush (v := 256) ok dX12_sign_154 (by decide) ?_
              refine w_icmp_lt (tgt := 170) ok dX12_sign_157 (by decide) (fun c39 => ?_) (fun c39 => ?_)
              · skip
                exact w_vret ok fin dX12_sign_170 rfl (by unfold FI_X12_sign; simp only [if_neg c1]; simp only [if_pos c29]; simp only [if_pos c30]; simp only [if_neg c36]; simp only [if_neg c37]; simp only [if_neg c38]; simp only [if_pos c39]; exact Pd.i)
              · skip
                refine w_aload_n ok dX12_sign_160 0 rfl ?_
                refine w_dup ok dX12_sign_161 rfl ?_
                refine w_getI ok dX12_sign_162 (fX12_175 rfl) (congrArg Prod.fst s_130) rfl (ltM hnn (by decide)) ?_
                refine w_iconst (v := 1) ok dX12_sign_165 (by decide) ?_
                refine w_iadd ok dX12_sign_166 ?_
                refine w_putI ok dX12_sign_167 (fwX12_175 rfl) (congrArg Prod.fst s_130) rfl (ltM hnn (by decide)) ?_
                show WK K 0 0 170 [(0, .ref 130), (1, .int a0)] [] (S16_X12_sign a0 I J) J R n g
                exact w_vret ok fin dX12_sign_170 rfl (by unfold FI_X12_sign; simp only [if_neg c1]; simp only [if_pos c29]; simp only [if_pos c30]; simp only [if_neg c36]; simp only [if_neg c37]; simp only [if_neg c38]; simp only [if_neg c39]; exact Pd.i)
            · skip
              refine w_aload_n ok dX12_sign_134 0 rfl ?_
              refine w_cV (As := []) ok dX12_sign_135 iX12_here (lX12_181 rfl) (rcv cls12 (congrArg Prod.fst s_130)) (ltM hnn (by decide)) (c_X12_here ro hnn   (hp12 c1 c29 c30 c36 c37 c38)) (by decide) rfl (Nat.le_of_ble_eq_true rfl) ?_
              refine w_bipush (v := 61) ok dX12_sign_138 (by decide) ?_
              refine w_icmp_ne (tgt := 150) ok dX12_sign_140 (by decide) (fun _ => ?_) (fun h => absurd h c36)
              refine w_aload_n ok dX12_sign_150 0 rfl ?_
              refine w_getI ok dX12_sign_151 (fX12_198 rfl) (congrArg Prod.fst s_130) rfl (ltM hnn (by decide)) ?_
              refine w_sipush (v := 256) ok dX12_sign_154 (by decide) ?_
              refine w_icmp_lt (tgt := 170) ok dX12_sign_157 (by decide) (fun c40 => ?_) (fun c40 => ?_)
              · skip
                exact w_vret ok fin dX12_sign_170 rfl (by unfold FI_X12_sign; simp only [if_neg c1]; simp only [if_pos c29]; simp only [if_pos c30]; simp only [if_neg c36]; simp only [if_neg c37]; simp only [if_pos c38]; simp only [if_pos c40]; exact Pd.i)
              · skip
                refine w_aload_n ok dX12_sign_160 0 rfl ?_
                refine w_dup ok dX12_sign_161 rfl ?_
                refine w_getI ok dX12_sign_162 (fX12_175 rfl) (congrArg Prod.fst s_130) rfl (ltM hnn (by decide)) ?_
                refine w_iconst (v := 1) ok dX12_sign_165 (by decide) ?_
                refine w_iadd ok dX12_sign_166 ?_
                refine w_putI ok dX12_sign_167 (fwX12_175 rfl) (congrArg Prod.fst s_130) rfl (ltM hnn (by decide)) ?_
                show WK K 0 0 170 [(0, .ref 130), (1, .int a0)] [] (S17_X12_sign a0 I J) J R n g
                exact w_vret ok fin dX12_sign_170 rfl (by unfold FI_X12_sign; simp only [if_neg c1]; simp only [if_pos c29]; simp only [if_pos c30]; simp only [if_neg c36]; simp only [if_neg c37]; simp only [if_pos c38]; simp only [if_neg c40]; exact Pd.i)
          · skip
            refine w_aload_n ok dX12_sign_121 0 rfl ?_
            refine w_sipush (v := 257) ok dX12_sign_122 (by decide) ?_
            refine w_putI ok dX12_sign_125 (fwX12_198 rfl) (congrArg Prod.fst s_130) rfl (ltM hnn (by decide)) ?_
            show WK K 0 0 128 [(0, .ref 130), (1, .int a0)] [] (S18_X12_sign a0 I J) J R n g
            refine w_iload_n ok dX12_sign_128 1 rfl ?_
            refine w_bipush (v := 62) ok dX12_sign_129 (by decide) ?_
            refine w_icmp_ne (tgt := 150) ok dX12_sign_131 (by decide) (fun c41 => ?_) (fun c41 => ?_)
            · skip
              refine w_aload_n ok dX12_sign_150 0 rfl ?_
              refine w_getI ok dX12_sign_151 (fX12_198 rfl) (congrArg Prod.fst s_130) rfl (ltM hnn (by decide)) ?_
              refine w_sipush (v := 256) ok dX12_sign_154 (by decide) ?_
              refine w_icmp_lt (tgt := 170) ok dX12_sign_157 (by decide) (fun c42 => ?_) (fun c42 => ?_)
              · skip
                exact w_vret ok fin dX12_sign_170 rfl (by unfold FI_X12_sign; simp only [if_neg c1]; simp only [if_pos c29]; simp only [if_pos c30]; simp only [if_neg c36]; simp only [if_pos c37]; simp only [if_neg c41]; simp only [if_pos c42]; exact Pd.i)
              · skip
                refine w_aload_n ok dX12_sign_160 0 rfl ?_
                refine w_dup ok dX12_sign_161 rfl ?_
                refine w_getI ok dX12_sign_162 (fX12_175 rfl) (congrArg Prod.fst s_130) rfl (ltM hnn (by decide)) ?_
                refine w_iconst (v := 1) ok dX12_sign_165 (by decide) ?_
                refine w_iadd ok dX12_sign_166 ?_
                refine w_putI ok dX12_sign_167 (fwX12_175 rfl) (congrArg Prod.fst s_130) rfl (ltM hnn (by decide)) ?_
                exact w_vret ok fin dX12_sign_170 rfl (by unfold FI_X12_sign; simp only [if_neg c1]; simp only [if_pos c29]; simp only [if_pos c30]; simp only [if_neg c36]; simp only [if_pos c37]; simp only [if_neg c41]; simp only [if_neg c42]; exact Pd.i)
            · skip
              refine w_aload_n ok dX12_sign_134 0 rfl ?_
              refine w_cV (As := []) ok dX12_sign_135 iX12_here (lX12_181 rfl) (rcv cls12 (congrArg Prod.fst s_130)) (ltM hnn (by decide)) (c_X12_here ro hnn   (hp13 c1 c29 c30 c36 c37 c41)) (by decide) rfl (Nat.le_of_ble_eq_true rfl) ?_
              refine w_bipush (v := 61) ok dX12_sign_138 (by decide) ?_
              refine w_icmp_ne (tgt := 150) ok dX12_sign_140 (by decide) (fun c43 => ?_) (fun c43 => ?_)
              · skip
                refine w_aload_n ok dX12_sign_150 0 rfl ?_
                refine w_getI ok dX12_sign_151 (fX12_198 rfl) (congrArg Prod.fst s_130) rfl (ltM hnn (by decide)) ?_
                refine w_sipush (v := 256) ok dX12_sign_154 (by decide) ?_
                refine w_icmp_lt (tgt := 170) ok dX12_sign_157 (by decide) (fun c44 => ?_) (fun c44 => ?_)
                · skip
                  exact w_vret ok fin dX12_sign_170 rfl (by unfold FI_X12_sign; simp only [if_neg c1]; simp only [if_pos c29]; simp only [if_pos c30]; simp only [if_neg c36]; simp only [if_pos c37]; simp only [if_pos c41]; simp only [if_neg c43]; simp only [if_pos c44]; exact Pd.i)
                · skip
                  refine w_aload_n ok dX12_sign_160 0 rfl ?_
                  refine w_dup ok dX12_sign_161 rfl ?_
                  refine w_getI ok dX12_sign_162 (fX12_175 rfl) (congrArg Prod.fst s_130) rfl (ltM hnn (by decide)) ?_
                  refine w_iconst (v := 1) ok dX12_sign_165 (by decide) ?_
                  refine w_iadd ok dX12_sign_166 ?_
                  refine w_putI ok dX12_sign_167 (fwX12_175 rfl) (congrArg Prod.fst s_130) rfl (ltM hnn (by decide)) ?_
                  exact w_vret ok fin dX12_sign_170 rfl (by unfold FI_X12_sign; simp only [if_neg c1]; simp only [if_pos c29]; simp only [if_pos c30]; simp only [if_neg c36]; simp only [if_pos c37]; simp only [if_pos c41]; simp only [if_neg c43]; simp only [if_neg c44]; exact Pd.i)
              · skip
                refine w_aload_n ok dX12_sign_143 0 rfl ?_
                refine w_sipush (v := 258) ok dX12_sign_144 (by decide) ?_
                refine w_putI ok dX12_sign_147 (fwX12_198 rfl) (congrArg Prod.fst s_130) rfl (ltM hnn (by decide)) ?_
                refine w_aload_n ok dX12_sign_150 0 rfl ?_
                refine w_getI ok dX12_sign_151 (fX12_198 rfl) (congrArg Prod.fst s_130) rfl (ltM hnn (by decide)) ?_
                refine w_sipush (v := 256) ok dX12_sign_154 (by decide) ?_
                refine w_icmp_lt (tgt := 170) ok dX12_sign_157 (by decide) (fun c45 => ?_) (fun c45 => ?_)
                · skip
                  exact w_vret ok fin dX12_sign_170 rfl (by unfold FI_X12_sign; simp only [if_neg c1]; simp only [if_pos c29]; simp only [if_pos c30]; simp only [if_neg c36]; simp only [if_pos c37]; simp only [if_pos c41]; simp only [if_pos c43]; simp only [if_pos c45]; exact Pd.i)
                · skip
                  refine w_aload_n ok dX12_sign_160 0 rfl ?_
                  refine w_dup ok dX12_sign_161 rfl ?_
                  refine w_getI ok dX12_sign_162 (fX12_175 rfl) (congrArg Prod.fst s_130) rfl (ltM hnn (by decide)) ?_
                  refine w_iconst (v := 1) ok dX12_sign_165 (by decide) ?_
                  refine w_iadd ok dX12_sign_166 ?_
                  refine w_putI ok dX12_sign_167 (fwX12_175 rfl) (congrArg Prod.fst s_130) rfl (ltM hnn (by decide)) ?_
                  show WK K 0 0 170 [(0, .ref 130), (1, .int a0)] [] (S19_X12_sign a0 I J) J R n g
                  exact w_vret ok fin dX12_sign_170 rfl (by unfold FI_X12_sign; simp only [if_neg c1]; simp only [if_pos c29]; simp only [if_pos c30]; simp only [if_neg c36]; simp only [if_pos c37]; simp only [if_pos c41]; simp only [if_pos c43]; simp only [if_neg c45]; exact Pd.i)
        · skip
          refine w_aload_n ok dX12_sign_99 0 rfl ?_
          refine w_sipush (v := 256) ok dX12_sign_100 (by decide) ?_
          refine w_putI ok dX12_sign_103 (fwX12_198 rfl) (congrArg Prod.fst s_130) rfl (ltM hnn (by decide)) ?_
          show WK K 0 0 106 [(0, .ref 130), (1, .int a0)] [] (S20_X12_sign a0 I J) J R n g
          refine w_iload_n ok dX12_sign_106 1 rfl ?_
          refine w_bipush (v := 60) ok dX12_sign_107 (by decide) ?_
          refine w_icmp_ne (tgt := 128) ok dX12_sign_109 (by decide) (fun h => absurd c30 h) (fun _ => ?_)
          refine w_aload_n ok dX12_sign_112 0 rfl ?_
          refine w_cV (As := []) ok dX12_sign_113 iX12_here (lX12_181 rfl) (rcv cls12 (congrArg Prod.fst s_130)) (ltM hnn (by decide)) (c_X12_here ro hnn   (hp14 c1 c29 c30 c36)) (by decide) rfl (Nat.le_of_ble_eq_true rfl) ?_
          refine w_bipush (v := 62) ok dX12_sign_116 (by decide) ?_
          refine w_icmp_ne (tgt := 128) ok dX12_sign_118 (by decide) (fun c46 => ?_) (fun c46 => ?_)
          · skip
            refine w_iload_n ok dX12_sign_128 1 rfl ?_
            refine w_bipush (v := 62) ok dX12_sign_129 (by decide) ?_
            refine w_icmp_ne (tgt := 150) ok dX12_sign_131 (by decide) (fun c47 => ?_) (fun c47 => ?_)
            · skip
              refine w_aload_n ok dX12_sign_150 0 rfl ?_
              refine w_getI ok dX12_sign_151 (fX12_198 rfl) (congrArg Prod.fst s_130) rfl (ltM hnn (by decide)) ?_
              refine w_sipush (v := 256) ok dX12_sign_154 (by decide) ?_
              refine w_icmp_lt (tgt := 170) ok dX12_sign_157 (by decide) (fun c48 => ?_) (fun c48 => ?_)
              · skip
                exact w_vret ok fin dX12_sign_170 rfl (by unfold FI_X12_sign; simp only [if_neg c1]; simp only [if_pos c29]; simp only [if_pos c30]; simp only [if_pos c36]; simp only [if_neg c46]; simp only [if_neg c47]; simp only [if_pos c48]; exact Pd.i)
              · skip
                refine w_aload_n ok dX12_sign_160 0 rfl ?_
                refine w_dup ok dX12_sign_161 rfl ?_
                refine w_getI ok dX12_sign_162 (fX12_175 rfl) (congrArg Prod.fst s_130) rfl (ltM hnn (by decide)) ?_
                refine w_iconst (v := 1) ok dX12_sign_165 (by decide) ?_
                refine w_iadd ok dX12_sign_166 ?_
                refine w_putI ok dX12_sign_167 (fwX12_175 rfl) (congrArg Prod.fst s_130) rfl (ltM hnn (by decide)) ?_
                exact w_vret ok fin dX12_sign_170 rfl (by unfold FI_X12_sign; simp only [if_neg c1]; simp only [if_pos c29]; simp only [if_pos c30]; simp only [if_pos c36]; simp only [if_neg c46]; simp only [if_neg c47]; simp only [if_neg c48]; exact Pd.i)
            · skip
              refine w_aload_n ok dX12_sign_134 0 rfl ?_
              refine w_cV (As := []) ok dX12_sign_135 iX12_here (lX12_181 rfl) (rcv cls12 (congrArg Prod.fst s_130)) (ltM hnn (by decide)) (c_X12_here ro hnn   (hp15 c1 c29 c30 c36 c46 c47)) (by decide) rfl (Nat.le_of_ble_eq_true rfl) ?_
              refine w_bipush (v := 61) ok dX12_sign_138 (by decide) ?_
              refine w_icmp_ne (tgt := 150) ok dX12_sign_140 (by decide) (fun c49 => ?_) (fun c49 => ?_)
              · skip
                refine w_aload_n ok dX12_sign_150 0 rfl ?_
                refine w_getI ok dX12_sign_151 (fX12_198 rfl) (congrArg Prod.fst s_130) rfl (ltM hnn (by decide)) ?_
                refine w_sipush (v := 256) ok dX12_sign_154 (by decide) ?_
                refine w_icmp_lt (tgt := 170) ok dX12_sign_157 (by decide) (fun c50 => ?_) (fun c50 => ?_)
                · skip
                  exact w_vret ok fin dX12_sign_170 rfl (by unfold FI_X12_sign; simp only [if_neg c1]; simp only [if_pos c29]; simp only [if_pos c30]; simp only [if_pos c36]; simp only [if_neg c46]; simp only [if_pos c47]; simp only [if_neg c49]; simp only [if_pos c50]; exact Pd.i)
                · skip
                  refine w_aload_n ok dX12_sign_160 0 rfl ?_
                  refine w_dup ok dX12_sign_161 rfl ?_
                  refine w_getI ok dX12_sign_162 (fX12_175 rfl) (congrArg Prod.fst s_130) rfl (ltM hnn (by decide)) ?_
                  refine w_iconst (v := 1) ok dX12_sign_165 (by decide) ?_
                  refine w_iadd ok dX12_sign_166 ?_
                  refine w_putI ok dX12_sign_167 (fwX12_175 rfl) (congrArg Prod.fst s_130) rfl (ltM hnn (by decide)) ?_
                  exact w_vret ok fin dX12_sign_170 rfl (by unfold FI_X12_sign; simp only [if_neg c1]; simp only [if_pos c29]; simp only [if_pos c30]; simp only [if_pos c36]; simp only [if_neg c46]; simp only [if_pos c47]; simp only [if_neg c49]; simp only [if_neg c50]; exact Pd.i)
              · skip
                refine w_aload_n ok dX12_sign_143 0 rfl ?_
                refine w_sipush (v := 258) ok dX12_sign_144 (by decide) ?_
                refine w_putI ok dX12_sign_147 (fwX12_198 rfl) (congrArg Prod.fst s_130) rfl (ltM hnn (by decide)) ?_
                refine w_aload_n ok dX12_sign_150 0 rfl ?_
                refine w_getI ok dX12_sign_151 (fX12_198 rfl) (congrArg Prod.fst s_130) rfl (ltM hnn (by decide)) ?_
                refine w_sipush (v := 256) ok dX12_sign_154 (by decide) ?_
                refine w_icmp_lt (tgt := 170) ok dX12_sign_157 (by decide) (fun c51 => ?_) (fun c51 => ?_)
                · skip
                  exact w_vret ok fin dX12_sign_170 rfl (by unfold FI_X12_sign; simp only [if_neg c1]; simp only [if_pos c29]; simp only [if_pos c30]; simp only [if_pos c36]; simp only [if_neg c46]; simp only [if_pos c47]; simp only [if_pos c49]; simp only [if_pos c51]; exact Pd.i)
                · skip
                  refine w_aload_n ok dX12_sign_160 0 rfl ?_
                  refine w_dup ok dX12_sign_161 rfl ?_
                  refine w_getI ok dX12_sign_162 (fX12_175 rfl) (congrArg Prod.fst s_130) rfl (ltM hnn (by decide)) ?_
                  refine w_iconst (v := 1) ok dX12_sign_165 (by decide) ?_
                  refine w_iadd ok dX12_sign_166 ?_
                  refine w_putI ok dX12_sign_167 (fwX12_175 rfl) (congrArg Prod.fst s_130) rfl (ltM hnn (by decide)) ?_
                  show WK K 0 0 170 [(0, .ref 130), (1, .int a0)] [] (S21_X12_sign a0 I J) J R n g
                  exact w_vret ok fin dX12_sign_170 rfl (by unfold FI_X12_sign; simp only [if_neg c1]; simp only [if_pos c29]; simp only [if_pos c30]; simp only [if_pos c36]; simp only [if_neg c46]; simp only [if_pos c47]; simp only [if_pos c49]; simp only [if_neg c51]; exact Pd.i)
          · skip
            refine w_aload_n ok dX12_sign_121 0 rfl ?_
            refine w_sipush (v := 257) ok dX12_sign_122 (by decide) ?_
            refine w_putI ok dX12_sign_125 (fwX12_198 rfl) (congrArg Prod.fst s_130) rfl (ltM hnn (by decide)) ?_
            refine w_iload_n ok dX12_sign_128 1 rfl ?_
            refine w_bipush (v := 62) ok dX12_sign_129 (by decide) ?_
            refine w_icmp_ne (tgt := 150) ok dX12_sign_131 (by decide) (fun c52 => ?_) (fun c52 => ?_)
            · skip
              refine w_aload_n ok dX12_sign_150 0 rfl ?_
              refine w_getI ok dX12_sign_151 (fX12_198 rfl) (congrArg Prod.fst s_130) rfl (ltM hnn (by decide)) ?_
              refine w_sipush (v := 256) ok dX12_sign_154 (by decide) ?_
              refine w_icmp_lt (tgt := 170) ok dX12_sign_157 (by decide) (fun c53 => ?_) (fun c53 => ?_)
              · skip
                exact w_vret ok fin dX12_sign_170 rfl (by unfold FI_X12_sign; simp only [if_neg c1]; simp only [if_pos c29]; simp only [if_pos c30]; simp only [if_pos c36]; simp only [if_pos c46]; simp only [if_neg c52]; simp only [if_pos c53]; exact Pd.i)
              · skip
                refine w_aload_n ok dX12_sign_160 0 rfl ?_
                refine w_dup ok dX12_sign_161 rfl ?_
                refine w_getI ok dX12_sign_162 (fX12_175 rfl) (congrArg Prod.fst s_130) rfl (ltM hnn (by decide)) ?_
                refine w_iconst (v := 1) ok dX12_sign_165 (by decide) ?_
                refine w_iadd ok dX12_sign_166 ?_
                refine w_putI ok dX12_sign_167 (fwX12_175 rfl) (congrArg Prod.fst s_130) rfl (ltM hnn (by decide)) ?_
                show WK K 0 0 170 [(0, .ref 130), (1, .int a0)] [] (S22_X12_sign a0 I J) J R n g
                exact w_vret ok fin dX12_sign_170 rfl (by unfold FI_X12_sign; simp only [if_neg c1]; simp only [if_pos c29]; simp only [if_pos c30]; simp only [if_pos c36]; simp only [if_pos c46]; simp only [if_neg c52]; simp only [if_neg c53]; exact Pd.i)
            · skip
              refine w_aload_n ok dX12_sign_134 0 rfl ?_
              refine w_cV (As := []) ok dX12_sign_135 iX12_here (lX12_181 rfl) (rcv cls12 (congrArg Prod.fst s_130)) (ltM hnn (by decide)) (c_X12_here ro hnn   (hp16 c1 c29 c30 c36 c46 c52)) (by decide) rfl (Nat.le_of_ble_eq_true rfl) ?_
              refine w_bipush (v := 61) ok dX12_sign_138 (by decide) ?_
              refine w_icmp_ne (tgt := 150) ok dX12_sign_140 (by decide) (fun c54 => ?_) (fun c54 => ?_)
              · skip
                refine w_aload_n ok dX12_sign_150 0 rfl ?_
                refine w_getI ok dX12_sign_151 (fX12_198 rfl) (congrArg Prod.fst s_130) rfl (ltM hnn (by decide)) ?_
                refine w_sipush (v := 256) ok dX12_sign_154 (by decide) ?_
                refine w_icmp_lt (tgt := 170) ok dX12_sign_157 (by decide) (fun c55 => ?_) (fun c55 => ?_)
                · skip
                  exact w_vret ok fin dX12_sign_170 rfl (by unfold FI_X12_sign; simp only [if_neg c1]; simp only [if_pos c29]; simp only [if_pos c30]; simp only [if_pos c36]; simp only [if_pos c46]; simp only [if_pos c52]; simp only [if_neg c54]; simp only [if_pos c55]; exact Pd.i)
                · skip
                  refine w_aload_n ok dX12_sign_160 0 rfl ?_
                  refine w_dup ok dX12_sign_161 rfl ?_
                  refine w_getI ok dX12_sign_162 (fX12_175 rfl) (congrArg Prod.fst s_130) rfl (ltM hnn (by decide)) ?_
                  refine w_iconst (v := 1) ok dX12_sign_165 (by decide) ?_
                  refine w_iadd ok dX12_sign_166 ?_
                  refine w_putI ok dX12_sign_167 (fwX12_175 rfl) (congrArg Prod.fst s_130) rfl (ltM hnn (by decide)) ?_
                  show WK K 0 0 170 [(0, .ref 130), (1, .int a0)] [] (S23_X12_sign a0 I J) J R n g
                  exact w_vret ok fin dX12_sign_170 rfl (by unfold FI_X12_sign; simp only [if_neg c1]; simp only [if_pos c29]; simp only [if_pos c30]; simp only [if_pos c36]; simp only [if_pos c46]; simp only [if_pos c52]; simp only [if_neg c54]; simp only [if_neg c55]; exact Pd.i)
              · skip
                refine w_aload_n ok dX12_sign_143 0 rfl ?_
                refine w_sipush (v := 258) ok dX12_sign_144 (by decide) ?_
                refine w_putI ok dX12_sign_147 (fwX12_198 rfl) (congrArg Prod.fst s_130) rfl (ltM hnn (by decide)) ?_
                refine w_aload_n ok dX12_sign_150 0 rfl ?_
                refine w_getI ok dX12_sign_151 (fX12_198 rfl) (congrArg Prod.fst s_130) rfl (ltM hnn (by decide)) ?_
                refine w_sipush (v := 256) ok dX12_sign_154 (by decide) ?_
                refine w_icmp_lt (tgt := 170) ok dX12_sign_157 (by decide) (fun c56 => ?_) (fun c56 => ?_)
                · skip
                  exact w_vret ok fin dX12_sign_170 rfl (by unfold FI_X12_sign; simp only [if_neg c1]; simp only [if_pos c29]; simp only [if_pos c30]; simp only [if_pos c36]; simp only [if_pos c46]; simp only [if_pos c52]; simp only [if_pos c54]; simp only [if_pos c56]; exact Pd.i)
                · skip
                  refine w_aload_n ok dX12_sign_160 0 rfl ?_
                  refine w_dup ok dX12_sign_161 rfl ?_
                  refine w_getI ok dX12_sign_162 (fX12_175 rfl) (congrArg Prod.fst s_130) rfl (ltM hnn (by decide)) ?_
                  refine w_iconst (v := 1) ok dX12_sign_165 (by decide) ?_
                  refine w_iadd ok dX12_sign_166 ?_
                  refine w_putI ok dX12_sign_167 (fwX12_175 rfl) (congrArg Prod.fst s_130) rfl (ltM hnn (by decide)) ?_
                  show WK K 0 0 170 [(0, .ref 130), (1, .int a0)] [] (S24_X12_sign a0 I J) J R n g
                  exact w_vret ok fin dX12_sign_170 rfl (by unfold FI_X12_sign; simp only [if_neg c1]; simp only [if_pos c29]; simp only [if_pos c30]; simp only [if_pos c36]; simp only [if_pos c46]; simp only [if_pos c52]; simp only [if_pos c54]; simp only [if_neg c56]; exact Pd.i)
    · skip
      refine w_iload_n ok dX12_sign_23 1 rfl ?_
      refine w_bipush (v := 41) ok dX12_sign_24 (by decide) ?_
      refine w_icmp_eq (tgt := 71) ok dX12_sign_26 (by decide) (fun c57 => ?_) (fun c57 => ?_)
      · skip
        refine w_iconst (v := 3) ok dX12_sign_71 (by decide) ?_
        refine w_goto (tgt := 76) ok dX12_sign_72 (by decide) ?_
        refine w_putI ok dX12_sign_76 (fwX12_188 rfl) (congrArg Prod.fst s_130) rfl (ltM hnn (by decide)) ?_
        refine w_aload_n ok dX12_sign_79 0 rfl ?_
        refine w_iload_n ok dX12_sign_80 1 rfl ?_
        refine w_putI ok dX12_sign_81 (fwX12_198 rfl) (congrArg Prod.fst s_130) rfl (ltM hnn (by decide)) ?_
        refine w_iload_n ok dX12_sign_84 1 rfl ?_
        refine w_bipush (v := 60) ok dX12_sign_85 (by decide) ?_
        refine w_icmp_ne (tgt := 106) ok dX12_sign_87 (by decide) (fun c58 => ?_) (fun c58 => ?_)
        · skip
          refine w_iload_n ok dX12_sign_106 1 rfl ?_
          refine w_bipush (v := 60) ok dX12_sign_107 (by decide) ?_
          refine w_icmp_ne (tgt := 128) ok dX12_sign_109 (by decide) (fun _ => ?_) (fun h => absurd h c58)
          refine w_iload_n ok dX12_sign_128 1 rfl ?_
          refine w_bipush (v := 62) ok dX12_sign_129 (by decide) ?_
          refine w_icmp_ne (tgt := 150) ok dX12_sign_131 (by decide) (fun c59 => ?_) (fun c59 => ?_)
          · skip
            refine w_aload_n ok dX12_sign_150 0 rfl ?_
            refine w_getI ok dX12_sign_151 (fX12_198 rfl) (congrArg Prod.fst s_130) rfl (ltM hnn (by decide)) ?_
            refine w_sipush (v := 256) ok dX12_sign_154 (by decide) ?_
            refine w_icmp_lt (tgt := 170) ok dX12_sign_157 (by decide) (fun c60 => ?_) (fun c60 => ?_)
            · skip
              exact w_vret ok fin dX12_sign_170 rfl (by unfold FI_X12_sign; simp only [if_neg c1]; simp only [if_neg c29]; simp only [if_pos c57]; simp only [if_neg c58]; simp only [if_neg c59]; simp only [if_pos c60]; exact Pd.i)
            · skip
              refine w_aload_n ok dX12_sign_160 0 rfl ?_
              refine w_dup ok dX12_sign_161 rfl ?_
              refine w_getI ok dX12_sign_162 (fX12_175 rfl) (congrArg Prod.fst s_130) rfl (ltM hnn (by decide)) ?_
              refine w_iconst (v := 1) ok dX12_sign_165 (by decide) ?_
              refine w_iadd ok dX12_sign_166 ?_
              refine w_putI ok dX12_sign_167 (fwX12_175 rfl) (congrArg Prod.fst s_130) rfl (ltM hnn (by decide)) ?_
              show WK K 0 0 170 [(0, .ref 130), (1, .int a0)] [] (S25_X12_sign a0 I J) J R n g
              exact w_vret ok fin dX12_sign_170 rfl (by unfold FI_X12_sign; simp only [if_neg c1]; simp only [if_neg c29]; simp only [if_pos c57]; simp only [if_neg c58]; simp only [if_neg c59]; simp only [if_neg c60]; exact Pd.i)
          · skip
            refine w_aload_n ok dX12_sign_134 0 rfl ?_
            refine w_cV (As := []) ok dX12_sign_135 iX12_here (lX12_181 rfl) (rcv cls12 (congrArg Prod.fst s_130)) (ltM hnn (by decide)) (c_X12_here ro hnn   (hp17 c1 c29 c57 c58 c59)) (by decide) rfl (Nat.le_of_ble_eq_true rfl) ?_
            refine w_bipush (v := 61) ok dX12_sign_138 (by decide) ?_
            refine w_icmp_ne (tgt := 150) ok dX12_sign_140 (by decide) (fun c61 => ?_) (fun c61 => ?_)
            · skip
              refine w_aload_n ok dX12_sign_150 0 rfl ?_
              refine w_getI ok dX12_sign_151 (fX12_198 rfl) (congrArg Prod.fst s_130) rfl (ltM hnn (by decide)) ?_
              refine w_sipush (v := 256) ok dX12_sign_154 (by decide) ?_
              refine w_icmp_lt (tgt := 170) ok dX12_sign_157 (by decide) (fun c62 => ?_) (fun c62 => ?_)
              · skip
                exact w_vret ok fin dX12_sign_170 rfl (by unfold FI_X12_sign; simp only [if_neg c1]; simp only [if_neg c29]; simp only [if_pos c57]; simp only [if_neg c58]; simp only [if_pos c59]; simp only [if_neg c61]; simp only [if_pos c62]; exact Pd.i)
              · skip
                refine w_aload_n ok dX12_sign_160 0 rfl ?_
                refine w_dup ok dX12_sign_161 rfl ?_
                refine w_getI ok dX12_sign_162 (fX12_175 rfl) (congrArg Prod.fst s_130) rfl (ltM hnn (by decide)) ?_
                refine w_iconst (v := 1) ok dX12_sign_165 (by decide) ?_
                refine w_iadd ok dX12_sign_166 ?_
                refine w_putI ok dX12_sign_167 (fwX12_175 rfl) (congrArg Prod.fst s_130) rfl (ltM hnn (by decide)) ?_
                show WK K 0 0 170 [(0, .ref 130), (1, .int a0)] [] (S26_X12_sign a0 I J) J R n g
                exact w_vret ok fin dX12_sign_170 rfl (by unfold FI_X12_sign; simp only [if_neg c1]; simp only [if_neg c29]; simp only [if_pos c57]; simp only [if_neg c58]; simp only [if_pos c59]; simp only [if_neg c61]; simp only [if_neg c62]; exact Pd.i)
            · skip
              refine w_aload_n ok dX12_sign_143 0 rfl ?_
              refine w_sipush (v := 258) ok dX12_sign_144 (by decide) ?_
              refine w_putI ok dX12_sign_147 (fwX12_198 rfl) (congrArg Prod.fst s_130) rfl (ltM hnn (by decide)) ?_
              show WK K 0 0 150 [(0, .ref 130), (1, .int a0)] [] (S27_X12_sign a0 I J) J R n g
              refine w_aload_n ok dX12_sign_150 0 rfl ?_
              refine w_getI ok dX12_sign_151 (fX12_198 rfl) (congrArg Prod.fst s_130) rfl (ltM hnn (by decide)) ?_
              refine w_sipush (v := 256) ok dX12_sign_154 (by decide) ?_
              refine w_icmp_lt (tgt := 170) ok dX12_sign_157 (by decide) (fun c63 => ?_) (fun c63 => ?_)
              · skip
                exact w_vret ok fin dX12_sign_170 rfl (by unfold FI_X12_sign; simp only [if_neg c1]; simp only [if_neg c29]; simp only [if_pos c57]; simp only [if_neg c58]; simp only [if_pos c59]; simp only [if_pos c61]; simp only [if_pos c63]; exact Pd.i)
              · skip
                refine w_aload_n ok dX12_sign_160 0 rfl ?_
                refine w_dup ok dX12_sign_161 rfl ?_
                refine w_getI ok dX12_sign_162 (fX12_175 rfl) (congrArg Prod.fst s_130) rfl (ltM hnn (by decide)) ?_
                refine w_iconst (v := 1) ok dX12_sign_165 (by decide) ?_
                refine w_iadd ok dX12_sign_166 ?_
                refine w_putI ok dX12_sign_167 (fwX12_175 rfl) (congrArg Prod.fst s_130) rfl (ltM hnn (by decide)) ?_
                exact w_vret ok fin dX12_sign_170 rfl (by unfold FI_X12_sign; simp only [if_neg c1]; simp only [if_neg c29]; simp only [if_pos c57]; simp only [if_neg c58]; simp only [if_pos c59]; simp only [if_pos c61]; simp only [if_neg c63]; exact Pd.i)
        · skip
          refine w_aload_n ok dX12_sign_90 0 rfl ?_
          refine w_cV (As := []) ok dX12_sign_91 iX12_here (lX12_181 rfl) (rcv cls12 (congrArg Prod.fst s_130)) (ltM hnn (by decide)) (c_X12_here ro hnn   (hp18 c1 c29 c57 c58)) (by decide) rfl (Nat.le_of_ble_eq_true rfl) ?_
          refine w_bipush (v := 61) ok dX12_sign_94 (by decide) ?_
          refine w_icmp_ne (tgt := 106) ok dX12_sign_96 (by decide) (fun c64 => ?_) (fun c64 => ?_)
          · skip
            refine w_iload_n ok dX12_sign_106 1 rfl ?_
            refine w_bipush (v := 60) ok dX12_sign_107 (by decide) ?_
            refine w_icmp_ne (tgt := 128) ok dX12_sign_109 (by decide) (fun h => absurd c58 h) (fun _ => ?_)
            refine w_aload_n ok dX12_sign_112 0 rfl ?_
            refine w_cV (As := []) ok dX12_sign_113 iX12_here (lX12_181 rfl) (rcv cls12 (congrArg Prod.fst s_130)) (ltM hnn (by decide)) (c_X12_here ro hnn   (hp19 c1 c29 c57 c58 c64)) (by decide) rfl (Nat.le_of_ble_eq_true rfl) ?_
            refine w_bipush (v := 62) ok dX12_sign_116 (by decide) ?_
            refine w_icmp_ne (tgt := 128) ok dX12_sign_118 (by decide) (fun c65 => ?_) (fun c65 => ?_)
            · skip
              refine w_iload_n ok dX12_sign_128 1 rfl ?_
              refine w_bipush (v := 62) ok dX12_sign_129 (by decide) ?_
              refine w_icmp_ne (tgt := 150) ok dX12_sign_131 (by decide) (fun c66 => ?_) (fun c66 => ?_)
              · skip
                refine w_aload_n ok dX12_sign_150 0 rfl ?_
                refine w_getI ok dX12_sign_151 (fX12_198 rfl) (congrArg Prod.fst s_130) rfl (ltM hnn (by decide)) ?_
                refine w_sipush (v := 256) ok dX12_sign_154 (by decide) ?_
                refine w_icmp_lt (tgt := 170) ok dX12_sign_157 (by decide) (fun c67 => ?_) (fun c67 => ?_)
                · skip
                  exact w_vret ok fin dX12_sign_170 rfl (by unfold FI_X12_sign; simp only [if_neg c1]; simp only [if_neg c29]; simp only [if_pos c57]; simp only [if_pos c58]; simp only [if_neg c64]; simp only [if_neg c65]; simp only [if_neg c66]; simp only [if_pos c67]; exact Pd.i)
                · skip
                  refine w_aload_n ok dX12_sign_160 0 rfl ?_
                  refine w_dup ok dX12_sign_161 rfl ?_
                  refine w_getI ok dX12_sign_162 (fX12_175 rfl) (congrArg Prod.fst s_130) rfl (ltM hnn (by decide)) ?_
                  refine w_iconst (v := 1) ok dX12_sign_165 (by decide) ?_
                  refine w_iadd ok dX12_sign_166 ?_
                  refine w_putI ok dX12_sign_167 (fwX12_175 rfl) (congrArg Prod.fst s_130) rfl (ltM hnn (by decide)) ?_
                  show WK K 0 0 170 [(0, .ref 130), (1, .int a0)] [] (S28_X12_sign a0 I J) J R n g
                  exact w_vret ok fin dX12_sign_170 rfl (by unfold FI_X12_sign; simp only [if_neg c1]; simp only [if_neg c29]; simp only [if_pos c57]; simp only [if_pos c58]; simp only [if_neg c64]; simp only [if_neg c65]; simp only [if_neg c66]; simp only [if_neg c67]; exact Pd.i)
              · skip
                refine w_aload_n ok dX12_sign_134 0 rfl ?_
                refine w_cV (As := []) ok dX12_sign_135 iX12_here (lX12_181 rfl) (rcv cls12 (congrArg Prod.fst s_130)) (ltM hnn (by decide)) (c_X12_here ro hnn   (hp20 c1 c29 c57 c58 c64 c65 c66)) (by decide) rfl (Nat.le_of_ble_eq_true rfl) ?_
                refine w_bipush (v := 61) ok dX12_sign_138 (by decide) ?_
                refine w_icmp_ne (tgt := 150) ok dX12_sign_140 (by decide) (fun _ => ?_) (fun h => absurd h c64)
                refine w_aload_n ok dX12_sign_150 0 rfl ?_
                refine w_getI ok dX12_sign_151 (fX12_198 rfl) (congrArg Prod.fst s_130) rfl (ltM hnn (by decide)) ?_
                refine w_sipush (v := 256) ok dX12_sign_154 (by decide) ?_
                refine w_icmp_lt (tgt := 170) ok dX12_sign_157 (by decide) (fun c68 => ?_) (fun c68 => ?_)
                · skip
                  exact w_vret ok fin dX12_sign_170 rfl (by unfold FI_X12_sign; simp only [if_neg c1]; simp only [if_neg c29]; simp only [if_pos c57]; simp only [if_pos c58]; simp only [if_neg c64]; simp only [if_neg c65]; simp only [if_pos c66]; simp only [if_pos c68]; exact Pd.i)
                · skip
                  refine w_aload_n ok dX12_sign_160 0 rfl ?_
                  refine w_dup ok dX12_sign_161 rfl ?_
                  refine w_getI ok dX12_sign_162 (fX12_175 rfl) (congrArg Prod.fst s_130) rfl (ltM hnn (by decide)) ?_
                  refine w_iconst (v := 1) ok dX12_sign_165 (by decide) ?_
                  refine w_iadd ok dX12_sign_166 ?_
                  refine w_putI ok dX12_sign_167 (fwX12_175 rfl) (congrArg Prod.fst s_130) rfl (ltM hnn (by decide)) ?_
                  show WK K 0 0 170 [(0, .ref 130), (1, .int a0)] [] (S29_X12_sign a0 I J) J R n g
                  exact w_vret ok fin dX12_sign_170 rfl (by unfold FI_X12_sign; simp only [if_neg c1]; simp only [if_neg c29]; simp only [if_pos c57]; simp only [if_pos c58]; simp only [if_neg c64]; simp only [if_neg c65]; simp only [if_pos c66]; simp only [if_neg c68]; exact Pd.i)
            · skip
              refine w_aload_n ok dX12_sign_121 0 rfl ?_
              refine w_sipush (v := 257) ok dX12_sign_122 (by decide) ?_
              refine w_putI ok dX12_sign_125 (fwX12_198 rfl) (congrArg Prod.fst s_130) rfl (ltM hnn (by decide)) ?_
              show WK K 0 0 128 [(0, .ref 130), (1, .int a0)] [] (S30_X12_sign a0 I J) J R n g
              refine w_iload_n ok dX12_sign_128 1 rfl ?_
              refine w_bipush (v := 62) ok dX12_sign_129 (by decide) ?_
              refine w_icmp_ne (tgt := 150) ok dX12_sign_131 (by decide) (fun c69 => ?_) (fun c69 => ?_)
              · skip
                refine w_aload_n ok dX12_sign_150 0 rfl ?_
                refine w_getI ok dX12_sign_151 (fX12_198 rfl) (congrArg Prod.fst s_130) rfl (ltM hnn (by decide)) ?_
                refine w_sipush (v := 256) ok dX12_sign_154 (by decide) ?_
                refine w_icmp_lt (tgt := 170) ok dX12_sign_157 (by decide) (fun c70 => ?_) (fun c70 => ?_)
                · skip
                  exact w_vret ok fin dX12_sign_170 rfl (by unfold FI_X12_sign; simp only [if_neg c1]; simp only [if_neg c29]; simp only [if_pos c57]; simp only [if_pos c58]; simp only [if_neg c64]; simp only [if_pos c65]; simp only [if_neg c69]; simp only [if_pos c70]; exact Pd.i)
                · skip
                  refine w_aload_n ok dX12_sign_160 0 rfl ?_
                  refine w_dup ok dX12_sign_161 rfl ?_
                  refine w_getI ok dX12_sign_162 (fX12_175 rfl) (congrArg Prod.fst s_130) rfl (ltM hnn (by decide)) ?_
                  refine w_iconst (v := 1) ok dX12_sign_165 (by decide) ?_
                  refine w_iadd ok dX12_sign_166 ?_
                  refine w_putI ok dX12_sign_167 (fwX12_175 rfl) (congrArg Prod.fst s_130) rfl (ltM hnn (by decide)) ?_
                  exact w_vret ok fin dX12_sign_170 rfl (by unfold FI_X12_sign; simp only [if_neg c1]; simp only [if_neg c29]; simp only [if_pos c57]; simp only [if_pos c58]; simp only [if_neg c64]; simp only [if_pos c65]; simp only [if_neg c69]; simp only [if_neg c70]; exact Pd.i)
              · skip
                refine w_aload_n ok dX12_sign_134 0 rfl ?_
                refine w_cV (As := []) ok dX12_sign_135 iX12_here (lX12_181 rfl) (rcv cls12 (congrArg Prod.fst s_130)) (ltM hnn (by decide)) (c_X12_here ro hnn   (hp21 c1 c29 c57 c58 c64 c65 c69)) (by decide) rfl (Nat.le_of_ble_eq_true rfl) ?_
                refine w_bipush (v := 61) ok dX12_sign_138 (by decide) ?_
                refine w_icmp_ne (tgt := 150) ok dX12_sign_140 (by decide) (fun c71 => ?_) (fun c71 => ?_)
                · skip
                  refine w_aload_n ok dX12_sign_150 0 rfl ?_
                  refine w_getI ok dX12_sign_151 (fX12_198 rfl) (congrArg Prod.fst s_130) rfl (ltM hnn (by decide)) ?_
                  refine w_sipush (v := 256) ok dX12_sign_154 (by decide) ?_
                  refine w_icmp_lt (tgt := 170) ok dX12_sign_157 (by decide) (fun c72 => ?_) (fun c72 => ?_)
                  · skip
                    exact w_vret ok fin dX12_sign_170 rfl (by unfold FI_X12_sign; simp only [if_neg c1]; simp only [if_neg c29]; simp only [if_pos c57]; simp only [if_pos c58]; simp only [if_neg c64]; simp only [if_pos c65]; simp only [if_pos c69]; simp only [if_neg c71]; simp only [if_pos c72]; exact Pd.i)
                  · skip
                    refine w_aload_n ok dX12_sign_160 0 rfl ?_
                    refine w_dup ok dX12_sign_161 rfl ?_
                    refine w_getI ok dX12_sign_162 (fX12_175 rfl) (congrArg Prod.fst s_130) rfl (ltM hnn (by decide)) ?_
                    refine w_iconst (v := 1) ok dX12_sign_165 (by decide) ?_
                    refine w_iadd ok dX12_sign_166 ?_
                    refine w_putI ok dX12_sign_167 (fwX12_175 rfl) (congrArg Prod.fst s_130) rfl (ltM hnn (by decide)) ?_
                    exact w_vret ok fin dX12_sign_170 rfl (by unfold FI_X12_sign; simp only [if_neg c1]; simp only [if_neg c29]; simp only [if_pos c57]; simp only [if_pos c58]; simp only [if_neg c64]; simp only [if_pos c65]; simp only [if_pos c69]; simp only [if_neg c71]; simp only [if_neg c72]; exact Pd.i)
                · skip
                  refine w_aload_n ok dX12_sign_143 0 rfl ?_
                  refine w_sipush (v := 258) ok dX12_sign_144 (by decide) ?_
                  refine w_putI ok dX12_sign_147 (fwX12_198 rfl) (congrArg Prod.fst s_130) rfl (ltM hnn (by decide)) ?_
                  refine w_aload_n ok dX12_sign_150 0 rfl ?_
                  refine w_getI ok dX12_sign_151 (fX12_198 rfl) (congrArg Prod.fst s_130) rfl (ltM hnn (by decide)) ?_
                  refine w_sipush (v := 256) ok dX12_sign_154 (by decide) ?_
                  refine w_icmp_lt (tgt := 170) ok dX12_sign_157 (by decide) (fun c73 => ?_) (fun c73 => ?_)
                  · skip
                    exact w_vret ok fin dX12_sign_170 rfl (by unfold FI_X12_sign; simp only [if_neg c1]; simp only [if_neg c29]; simp only [if_pos c57]; simp only [if_pos c58]; simp only [if_neg c64]; simp only [if_pos c65]; simp only [if_pos c69]; simp only [if_pos c71]; simp only [if_pos c73]; exact Pd.i)
                  · skip
                    refine w_aload_n ok dX12_sign_160 0 rfl ?_
                    refine w_dup ok dX12_sign_161 rfl ?_
                    refine w_getI ok dX12_sign_162 (fX12_175 rfl) (congrArg Prod.fst s_130) rfl (ltM hnn (by decide)) ?_
                    refine w_iconst (v := 1) ok dX12_sign_165 (by decide) ?_
                    refine w_iadd ok dX12_sign_166 ?_
                    refine w_putI ok dX12_sign_167 (fwX12_175 rfl) (congrArg Prod.fst s_130) rfl (ltM hnn (by decide)) ?_
                    show WK K 0 0 170 [(0, .ref 130), (1, .int a0)] [] (S31_X12_sign a0 I J) J R n g
                    exact w_vret ok fin dX12_sign_170 rfl (by unfold FI_X12_sign; simp only [if_neg c1]; simp only [if_neg c29]; simp only [if_pos c57]; simp only [if_pos c58]; simp only [if_neg c64]; simp only [if_pos c65]; simp only [if_pos c69]; simp only [if_pos c71]; simp only [if_neg c73]; exact Pd.i)
          · skip
            refine w_aload_n ok dX12_sign_99 0 rfl ?_
            refine w_sipush (v := 256) ok dX12_sign_100 (by decide) ?_
            refine w_putI ok dX12_sign_103 (fwX12_198 rfl) (congrArg Prod.fst s_130) rfl (ltM hnn (by decide)) ?_
            show WK K 0 0 106 [(0, .ref 130), (1, .int a0)] [] (S32_X12_sign a0 I J) J R n g
            refine w_iload_n ok dX12_sign_106 1 rfl ?_
            refine w_bipush (v := 60) ok dX12_sign_107 (by decide) ?_
            refine w_icmp_ne (tgt := 128) ok dX12_sign_109 (by decide) (fun h => absurd c58 h) (fun _ => ?_)
            refine w_aload_n ok dX12_sign_112 0 rfl ?_
            refine w_cV (As := []) ok dX12_sign_113 iX12_here (lX12_181 rfl) (rcv cls12 (congrArg Prod.fst s_130)) (ltM hnn (by decide)) (c_X12_here ro hnn   (hp22 c1 c29 c57 c58 c64)) (by decide) rfl (Nat.le_of_ble_eq_true rfl) ?_
            refine w_bipush (v := 62) ok dX12_sign_116 (by decide) ?_
            refine w_icmp_ne (tgt := 128) ok dX12_sign_118 (by decide) (fun c74 => ?_) (fun c74 => ?_)
            · skip
              refine w_iload_n ok dX12_sign_128 1 rfl ?_
              refine w_bipush (v := 62) ok dX12_sign_129 (by decide) ?_
              refine w_icmp_ne (tgt := 150) ok dX12_sign_131 (by decide) (fun c75 => ?_) (fun c75 => ?_)
              · skip
                refine w_aload_n ok dX12_sign_150 0 rfl ?_
                refine w_getI ok dX12_sign_151 (fX12_198 rfl) (congrArg Prod.fst s_130) rfl (ltM hnn (by decide)) ?_
                refine w_sipush (v := 256) ok dX12_sign_154 (by decide) ?_
                refine w_icmp_lt (tgt := 170) ok dX12_sign_157 (by decide) (fun c76 => ?_) (fun c76 => ?_)
                · skip
                  exact w_vret ok fin dX12_sign_170 rfl (by unfold FI_X12_sign; simp only [if_neg c1]; simp only [if_neg c29]; simp only [if_pos c57]; simp only [if_pos c58]; simp only [if_pos c64]; simp only [if_neg c74]; simp only [if_neg c75]; simp only [if_pos c76]; exact Pd.i)
                · skip
                  refine w_aload_n ok dX12_sign_160 0 rfl ?_
                  refine w_dup ok dX12_sign_161 rfl ?_
                  refine w_getI ok dX12_sign_162 (fX12_175 rfl) (congrArg Prod.fst s_130) rfl (ltM hnn (by decide)) ?_
                  refine w_iconst (v := 1) ok dX12_sign_165 (by decide) ?_
                  refine w_iadd ok dX12_sign_166 ?_
                  refine w_putI ok dX12_sign_167 (fwX12_175 rfl) (congrArg Prod.fst s_130) rfl (ltM hnn (by decide)) ?_
                  exact w_vret ok fin dX12_sign_170 rfl (by unfold FI_X12_sign; simp only [if_neg c1]; simp only [if_neg c29]; simp only [if_pos c57]; simp only [if_pos c58]; simp only [if_pos c64]; simp only [if_neg c74]; simp only [if_neg c75]; simp only [if_neg c76]; exact Pd.i)
              · skip
                refine w_aload_n ok dX12_sign_134 0 rfl ?_
                refine w_cV (As := []) ok dX12_sign_135 iX12_here (lX12_181 rfl) (rcv cls12 (congrArg Prod.fst s_130)) (ltM hnn (by decide)) (c_X12_here ro hnn   (hp23 c1 c29 c57 c58 c64 c74 c75)) (by decide) rfl (Nat.le_of_ble_eq_true rfl) ?_
                refine w_bipush (v := 61) ok dX12_sign_138 (by decide) ?_
                refine w_icmp_ne (tgt := 150) ok dX12_sign_140 (by decide) (fun c77 => ?_) (fun c77 => ?_)
                · skip
                  refine w_aload_n ok dX12_sign_150 0 rfl ?_
                  refine w_getI ok dX12_sign_151 (fX12_198 rfl) (congrArg Prod.fst s_130) rfl (ltM hnn (by decide)) ?_
                  refine w_sipush (v := 256) ok dX12_sign_154 (by decide) ?_
                  refine w_icmp_lt (tgt := 170) ok dX12_sign_157 (by decide) (fun c78 => ?_) (fun c78 => ?_)
                  · skip
                    exact w_vret ok fin dX12_sign_170 rfl (by unfold FI_X12_sign; simp only [if_neg c1]; simp only [if_neg c29]; simp only [if_pos c57]; simp only [if_pos c58]; simp only [if_pos c64]; simp only [if_neg c74]; simp only [if_pos c75]; simp only [if_neg c77]; simp only [if_pos c78]; exact Pd.i)
                  · skip
                    refine w_aload_n ok dX12_sign_160 0 rfl ?_
                    refine w_dup ok dX12_sign_161 rfl ?_
                    refine w_getI ok dX12_sign_162 (fX12_175 rfl) (congrArg Prod.fst s_130) rfl (ltM hnn (by decide)) ?_
                    refine w_iconst (v := 1) ok dX12_sign_165 (by decide) ?_
                    refine w_iadd ok dX12_sign_166 ?_
                    refine w_putI ok dX12_sign_167 (fwX12_175 rfl) (congrArg Prod.fst s_130) rfl (ltM hnn (by decide)) ?_
                    exact w_vret ok fin dX12_sign_170 rfl (by unfold FI_X12_sign; simp only [if_neg c1]; simp only [if_neg c29]; simp only [if_pos c57]; simp only [if_pos c58]; simp only [if_pos c64]; simp only [if_neg c74]; simp only [if_pos c75]; simp only [if_neg c77]; simp only [if_neg c78]; exact Pd.i)
                · skip
                  refine w_aload_n ok dX12_sign_143 0 rfl ?_
                  refine w_sipush (v := 258) ok dX12_sign_144 (by decide) ?_
                  refine w_putI ok dX12_sign_147 (fwX12_198 rfl) (congrArg Prod.fst s_130) rfl (ltM hnn (by decide)) ?_
                  refine w_aload_n ok dX12_sign_150 0 rfl ?_
                  refine w_getI ok dX12_sign_151 (fX12_198 rfl) (congrArg Prod.fst s_130) rfl (ltM hnn (by decide)) ?_
                  refine w_sipush (v := 256) ok dX12_sign_154 (by decide) ?_
                  refine w_icmp_lt (tgt := 170) ok dX12_sign_157 (by decide) (fun c79 => ?_) (fun c79 => ?_)
                  · skip
                    exact w_vret ok fin dX12_sign_170 rfl (by unfold FI_X12_sign; simp only [if_neg c1]; simp only [if_neg c29]; simp only [if_pos c57]; simp only [if_pos c58]; simp only [if_pos c64]; simp only [if_neg c74]; simp only [if_pos c75]; simp only [if_pos c77]; simp only [if_pos c79]; exact Pd.i)
                  · skip
                    refine w_aload_n ok dX12_sign_160 0 rfl ?_
                    refine w_dup ok dX12_sign_161 rfl ?_
                    refine w_getI ok dX12_sign_162 (fX12_175 rfl) (congrArg Prod.fst s_130) rfl (ltM hnn (by decide)) ?_
                    refine w_iconst (v := 1) ok dX12_sign_165 (by decide) ?_
                    refine w_iadd ok dX12_sign_166 ?_
                    refine w_putI ok dX12_sign_167 (fwX12_175 rfl) (congrArg Prod.fst s_130) rfl (ltM hnn (by decide)) ?_
                    show WK K 0 0 170 [(0, .ref 130), (1, .int a0)] [] (S33_X12_sign a0 I J) J R n g
                    exact w_vret ok fin dX12_sign_170 rfl (by unfold FI_X12_sign; simp only [if_neg c1]; simp only [if_neg c29]; simp only [if_pos c57]; simp only [if_pos c58]; simp only [if_pos c64]; simp only [if_neg c74]; simp only [if_pos c75]; simp only [if_pos c77]; simp only [if_neg c79]; exact Pd.i)
            · skip
              refine w_aload_n ok dX12_sign_121 0 rfl ?_
              refine w_sipush (v := 257) ok dX12_sign_122 (by decide) ?_
              refine w_putI ok dX12_sign_125 (fwX12_198 rfl) (congrArg Prod.fst s_130) rfl (ltM hnn (by decide)) ?_
              refine w_iload_n ok dX12_sign_128 1 rfl ?_
              refine w_bipush (v := 62) ok dX12_sign_129 (by decide) ?_
              refine w_icmp_ne (tgt := 150) ok dX12_sign_131 (by decide) (fun c80 => ?_) (fun c80 => ?_)
              · skip
                refine w_aload_n ok dX12_sign_150 0 rfl ?_
                refine w_getI ok dX12_sign_151 (fX12_198 rfl) (congrArg Prod.fst s_130) rfl (ltM hnn (by decide)) ?_
                refine w_sipush (v := 256) ok dX12_sign_154 (by decide) ?_
                refine w_icmp_lt (tgt := 170) ok dX12_sign_157 (by decide) (fun c81 => ?_) (fun c81 => ?_)
                · skip
                  exact w_vret ok fin dX12_sign_170 rfl (by unfold FI_X12_sign; simp only [if_neg c1]; simp only [if_neg c29]; simp only [if_pos c57]; simp only [if_pos c58]; simp only [if_pos c64]; simp only [if_pos c74]; simp only [if_neg c80]; simp only [if_pos c81]; exact Pd.i)
                · skip
                  refine w_aload_n ok dX12_sign_160 0 rfl ?_
                  refine w_dup ok dX12_sign_161 rfl ?_
                  refine w_getI ok dX12_sign_162 (fX12_175 rfl) (congrArg Prod.fst s_130) rfl (ltM hnn (by decide)) ?_
                  refine w_iconst (v := 1) ok dX12_sign_165 (by decide) ?_
                  refine w_iadd ok dX12_sign_166 ?_
                  refine w_putI ok dX12_sign_167 (fwX12_175 rfl) (congrArg Prod.fst s_130) rfl (ltM hnn (by decide)) ?_
                  show WK K 0 0 170 [(0, .ref 130), (1, .int a0)] [] (S34_X12_sign a0 I J) J R n g
                  exact w_vret ok fin dX12_sign_170 rfl (by unfold FI_X12_sign; simp only [if_neg c1]; simp only [if_neg c29]; simp only [if_pos c57]; simp only [if_pos c58]; simp only [if_pos c64]; simp only [if_pos c74]; simp only [if_neg c80]; simp only [if_neg c81]; exact Pd.i)
              · skip
                refine w_aload_n ok dX12_sign_134 0 rfl ?_
                refine w_cV (As := []) ok dX12_sign_135 iX12_here (lX12_181 rfl) (rcv cls12 (congrArg Prod.fst s_130)) (ltM hnn (by decide)) (c_X12_here ro hnn   (hp24 c1 c29 c57 c58 c64 c74 c80)) (by decide) rfl (Nat.le_of_ble_eq_true rfl) ?_
                refine w_bipush (v := 61) ok dX12_sign_138 (by decide) ?_
                refine w_icmp_ne (tgt := 150) ok dX12_sign_140 (by decide) (fun c82 => ?_) (fun c82 => ?_)
                · skip
                  refine w_aload_n ok dX12_sign_150 0 rfl ?_
                  refine w_getI ok dX12_sign_151 (fX12_198 rfl) (congrArg Prod.fst s_130) rfl (ltM hnn (by decide)) ?_
                  refine w_sipush (v := 256) ok dX12_sign_154 (by decide) ?_
                  refine w_icmp_lt (tgt := 170) ok dX12_sign_157 (by decide) (fun c83 => ?_) (fun c83 => ?_)
                  · skip
                    exact w_vret ok fin dX12_sign_170 rfl (by unfold FI_X12_sign; simp only [if_neg c1]; simp only [if_neg c29]; simp only [if_pos c57]; simp only [if_pos c58]; simp only [if_pos c64]; simp only [if_pos c74]; simp only [if_pos c80]; simp only [if_neg c82]; simp only [if_pos c83]; exact Pd.i)
                  · skip
                    refine w_aload_n ok dX12_sign_160 0 rfl ?_
                    refine w_dup ok dX12_sign_161 rfl ?_
                    refine w_getI ok dX12_sign_162 (fX12_175 rfl) (congrArg Prod.fst s_130) rfl (ltM hnn (by decide)) ?_
                    refine w_iconst (v := 1) ok dX12_sign_165 (by decide) ?_
                    refine w_iadd ok dX12_sign_166 ?_
                    refine w_putI ok dX12_sign_167 (fwX12_175 rfl) (congrArg Prod.fst s_130) rfl (ltM hnn (by decide)) ?_
                    show WK K 0 0 170 [(0, .ref 130), (1, .int a0)] [] (S35_X12_sign a0 I J) J R n g
                    exact w_vret ok fin dX12_sign_170 rfl (by unfold FI_X12_sign; simp only [if_neg c1]; simp only [if_neg c29]; simp only [if_pos c57]; simp only [if_pos c58]; simp only [if_pos c64]; simp only [if_pos c74]; simp only [if_pos c80]; simp only [if_neg c82]; simp only [if_neg c83]; exact Pd.i)
                · skip
                  refine w_aload_n ok dX12_sign_143 0 rfl ?_
                  refine w_sipush (v := 258) ok dX12_sign_144 (by decide) ?_
                  refine w_putI ok dX12_sign_147 (fwX12_198 rfl) (congrArg Prod.fst s_130) rfl (ltM hnn (by decide)) ?_
                  refine w_aload_n ok dX12_sign_150 0 rfl ?_
                  refine w_getI ok dX12_sign_151 (fX12_198 rfl) (congrArg Prod.fst s_130) rfl (ltM hnn (by decide)) ?_
                  refine w_sipush (v := 256) ok dX12_sign_154 (by decide) ?_
                  refine w_icmp_lt (tgt := 170) ok dX12_sign_157 (by decide) (fun c84 => ?_) (fun c84 => ?_)
                  · skip
                    exact w_vret ok fin dX12_sign_170 rfl (by unfold FI_X12_sign; simp only [if_neg c1]; simp only [if_neg c29]; simp only [if_pos c57]; simp only [if_pos c58]; simp only [if_pos c64]; simp only [if_pos c74]; simp only [if_pos c80]; simp only [if_pos c82]; simp only [if_pos c84]; exact Pd.i)
                  · skip
                    refine w_aload_n ok dX12_sign_160 0 rfl ?_
                    refine w_dup ok dX12_sign_161 rfl ?_
                    refine w_getI ok dX12_sign_162 (fX12_175 rfl) (congrArg Prod.fst s_130) rfl (ltM hnn (by decide)) ?_
                    refine w_iconst (v := 1) ok dX12_sign_165 (by decide) ?_
                    refine w_iadd ok dX12_sign_166 ?_
                    refine w_putI ok dX12_sign_167 (fwX12_175 rfl) (congrArg Prod.fst s_130) rfl (ltM hnn (by decide)) ?_
                    show WK K 0 0 170 [(0, .ref 130), (1, .int a0)] [] (S36_X12_sign a0 I J) J R n g
                    exact w_vret ok fin dX12_sign_170 rfl (by unfold FI_X12_sign; simp only [if_neg c1]; simp only [if_neg c29]; simp only [if_pos c57]; simp only [if_pos c58]; simp only [if_pos c64]; simp only [if_pos c74]; simp only [if_pos c80]; simp only [if_pos c82]; simp only [if_neg c84]; exact Pd.i)
      · skip
        refine w_iload_n ok dX12_sign_29 1 rfl ?_
        refine w_bipush (v := 43) ok dX12_sign_30 (by decide) ?_
        refine w_icmp_eq (tgt := 71) ok dX12_sign_32 (by decide) (fun c85 => ?_) (fun c85 => ?_)
        · skip
          refine w_iconst (v := 3) ok dX12_sign_71 (by decide) ?_
          refine w_goto (tgt := 76) ok dX12_sign_72 (by decide) ?_
          refine w_putI ok dX12_sign_76 (fwX12_188 rfl) (congrArg Prod.fst s_130) rfl (ltM hnn (by decide)) ?_
          refine w_aload_n ok dX12_sign_79 0 rfl ?_
          refine w_iload_n ok dX12_sign_80 1 rfl ?_
          refine w_putI ok dX12_sign_81 (fwX12_198 rfl) (congrArg Prod.fst s_130) rfl (ltM hnn (by decide)) ?_
          refine w_iload_n ok dX12_sign_84 1 rfl ?_
          refine w_bipush (v := 60) ok dX12_sign_85 (by decide) ?_
          refine w_icmp_ne (tgt := 106) ok dX12_sign_87 (by decide) (fun c86 => ?_) (fun c86 => ?_)
          · skip
            refine w_iload_n ok dX12_sign_106 1 rfl ?_
            refine w_bipush (v := 60) ok dX12_sign_107 (by decide) ?_
            refine w_icmp_ne (tgt := 128) ok dX12_sign_109 (by decide) (fun _ => ?_) (fun h => absurd h c86)
            refine w_iload_n ok dX12_sign_128 1 rfl ?_
            refine w_bipush (v := 62) ok dX12_sign_129 (by decide) ?_
            refine w_icmp_ne (tgt := 150) ok dX12_sign_131 (by decide) (fun c87 => ?_) (fun c87 => ?_)
            · skip
              refine w_aload_n ok dX12_sign_150 0 rfl ?_
              refine w_getI ok dX12_sign_151 (fX12_198 rfl) (congrArg Prod.fst s_130) rfl (ltM hnn (by decide)) ?_
              refine w_sipush (v := 256) ok dX12_sign_154 (by decide) ?_
              refine w_icmp_lt (tgt := 170) ok dX12_sign_157 (by decide) (fun c88 => ?_) (fun c88 => ?_)
              · skip
                exact w_vret ok fin dX12_sign_170 rfl (by unfold FI_X12_sign; simp only [if_neg c1]; simp only [if_neg c29]; simp only [if_neg c57]; simp only [if_pos c85]; simp only [if_neg c86]; simp only [if_neg c87]; simp only [if_pos c88]; exact Pd.i)
              · skip
                refine w_aload_n ok dX12_sign_160 0 rfl ?_
                refine w_dup ok dX12_sign_161 rfl ?_
                refine w_getI ok dX12_sign_162 (fX12_175 rfl) (congrArg Prod.fst s_130) rfl (ltM hnn (by decide)) ?_
                refine w_iconst (v := 1) ok dX12_sign_165 (by decide) ?_
                refine w_iadd ok dX12_sign_166 ?_
                refine w_putI ok dX12_sign_167 (fwX12_175 rfl) (congrArg Prod.fst s_130) rfl (ltM hnn (by decide)) ?_
                show WK K 0 0 170 [(0, .ref 130), (1, .int a0)] [] (S37_X12_sign a0 I J) J R n g
                exact w_vret ok fin dX12_sign_170 rfl (by unfold FI_X12_sign; simp only [if_neg c1]; simp only [if_neg c29]; simp only [if_neg c57]; simp only [if_pos c85]; simp only [if_neg c86]; simp only [if_neg c87]; simp only [if_neg c88]; exact Pd.i)
            · skip
              refine w_aload_n ok dX12_sign_134 0 rfl ?_
              refine w_cV (As := []) ok dX12_sign_135 iX12_here (lX12_181 rfl) (rcv cls12 (congrArg Prod.fst s_130)) (ltM hnn (by decide)) (c_X12_here ro hnn   (hp25 c1 c29 c57 c85 c86 c87)) (by decide) rfl (Nat.le_of_ble_eq_true rfl) ?_
              refine w_bipush (v := 61) ok dX12_sign_138 (by decide) ?_
              refine w_icmp_ne (tgt := 150) ok dX12_sign_140 (by decide) (fun c89 => ?_) (fun c89 => ?_)
              · skip
                refine w_aload_n ok dX12_sign_150 0 rfl ?_
                refine w_getI ok dX12_sign_151 (fX12_198 rfl) (congrArg Prod.fst s_130) rfl (ltM hnn (by decide)) ?_
                refine w_sipush (v := 256) ok dX12_sign_154 (by decide) ?_
                refine w_icmp_lt (tgt := 170) ok dX12_sign_157 (by decide) (fun c90 => ?_) (fun c90 => ?_)
                · skip
                  exact w_vret ok fin dX12_sign_170 rfl (by unfold FI_X12_sign; simp only [if_neg c1]; simp only [if_neg c29]; simp only [if_neg c57]; simp only [if_pos c85]; simp only [if_neg c86]; simp only [if_pos c87]; simp only [if_neg c89]; simp only [if_pos c90]; exact Pd.i)
                · skip
                  refine w_aload_n ok dX12_sign_160 0 rfl ?_
                  refine w_dup ok dX12_sign_161 rfl ?_
                  refine w_getI ok dX12_sign_162 (fX12_175 rfl) (congrArg Prod.fst s_130) rfl (ltM hnn (by decide)) ?_
                  refine w_iconst (v := 1) ok dX12_sign_165 (by decide) ?_
                  refine w_iadd ok dX12_sign_166 ?_
                  refine w_putI ok dX12_sign_167 (fwX12_175 rfl) (congrArg Prod.fst s_130) rfl (ltM hnn (by decide)) ?_
                  show WK K 0 0 170 [(0, .ref 130), (1, .int a0)] [] (S38_X12_sign a0 I J) J R n g
                  exact w_vret ok fin dX12_sign_170 rfl (by unfold FI_X12_sign; simp only [if_neg c1]; simp only [if_neg c29]; simp only [if_neg c57]; simp only [if_pos c85]; simp only [if_neg c86]; simp only [if_pos c87]; simp only [if_neg c89]; simp only [if_neg c90]; exact Pd.i)
              · skip
                refine w_aload_n ok dX12_sign_143 0 rfl ?_
                refine w_sipush (v := 258) ok dX12_sign_144 (by decide) ?_
                refine w_putI ok dX12_sign_147 (fwX12_198 rfl) (congrArg Prod.fst s_130) rfl (ltM hnn (by decide)) ?_
                show WK K 0 0 150 [(0, .ref 130), (1, .int a0)] [] (S39_X12_sign a0 I J) J R n g
                refine w_aload_n ok dX12_sign_150 0 rfl ?_
                refine w_getI ok dX12_sign_151 (fX12_198 rfl) (congrArg Prod.fst s_130) rfl (ltM hnn (by decide)) ?_
                refine w_sipush (v := 256) ok dX12_sign_154 (by decide) ?_
                refine w_icmp_lt (tgt := 170) ok dX12_sign_157 (by decide) (fun c91 => ?_) (fun c91 => ?_)
                · skip
                  exact w_vret ok fin dX12_sign_170 rfl (by unfold FI_X12_sign; simp only [if_neg c1]; simp only [if_neg c29]; simp only [if_neg c57]; simp only [if_pos c85]; simp only [if_neg c86]; simp only [if_pos c87]; simp only [if_pos c89]; simp only [if_pos c91]; exact Pd.i)
                · skip
                  refine w_aload_n ok dX12_sign_160 0 rfl ?_
                  refine w_dup ok dX12_sign_161 rfl ?_
                  refine w_getI ok dX12_sign_162 (fX12_175 rfl) (congrArg Prod.fst s_130) rfl (ltM hnn (by decide)) ?_
                  refine w_iconst (v := 1) ok dX12_sign_165 (by decide) ?_
                  refine w_iadd ok dX12_sign_166 ?_
                  refine w_putI ok dX12_sign_167 (fwX12_175 rfl) (congrArg Prod.fst s_130) rfl (ltM hnn (by decide)) ?_
                  exact w_vret ok fin dX12_sign_170 rfl (by unfold FI_X12_sign; simp only [if_neg c1]; simp only [if_neg c29]; simp only [if_neg c57]; simp only [if_pos c85]; simp only [if_neg c86]; simp only [if_pos c87]; simp only [if_pos c89]; simp only [if_neg c91]; exact Pd.i)
          · skip
            refine w_aload_n ok dX12_sign_90 0 rfl ?_
            refine w_cV (As := []) ok dX12_sign_91 iX12_here (lX12_181 rfl) (rcv cls12 (congrArg Prod.fst s_130)) (ltM hnn (by decide)) (c_X12_here ro hnn   (hp26 c1 c29 c57 c85 c86)) (by decide) rfl (Nat.le_of_ble_eq_true rfl) ?_
            refine w_bipush (v := 61) ok dX12_sign_94 (by decide) ?_
            refine w_icmp_ne (tgt := 106) ok dX12_sign_96 (by decide) (fun c92 => ?_) (fun c92 => ?_)
            · skip
              refine w_iload_n ok dX12_sign_106 1 rfl ?_
              refine w_bipush (v := 60) ok dX12_sign_107 (by decide) ?_
              refine w_icmp_ne (tgt := 128) ok dX12_sign_109 (by decide) (fun h => absurd c86 h) (fun _ => ?_)
              refine w_aload_n ok dX12_sign_112 0 rfl ?_
              refine w_cV (As := []) ok dX12_sign_113 iX12_here (lX12_181 rfl) (rcv cls12 (congrArg Prod.fst s_130)) (ltM hnn (by decide)) (c_X12_here ro hnn   (hp27 c1 c29 c57 c85 c86 c92)) (by decide) rfl (Nat.le_of_ble_eq_true rfl) ?_
              refine w_bipush (v := 62) ok dX12_sign_116 (by decide) ?_
              refine w_icmp_ne (tgt := 128) ok dX12_sign_118 (by decide) (fun c93 => ?_) (fun c93 => ?_)
              · skip
                refine w_iload_n ok dX12_sign_128 1 rfl ?_
                refine w_bipush (v := 62) ok dX12_sign_129 (by decide) ?_
                refine w_icmp_ne (tgt := 150) ok dX12_sign_131 (by decide) (fun c94 => ?_) (fun c94 => ?_)
                · skip
                  refine w_aload_n ok dX12_sign_150 0 rfl ?_
                  refine w_getI ok dX12_sign_151 (fX12_198 rfl) (congrArg Prod.fst s_130) rfl (ltM hnn (by decide)) ?_
                  refine w_sipush (v := 256) ok dX12_sign_154 (by decide) ?_
                  refine w_icmp_lt (tgt := 170) ok dX12_sign_157 (by decide) (fun c95 => ?_) (fun c95 => ?_)
                  · skip
                    exact w_vret ok fin dX12_sign_170 rfl (by unfold FI_X12_sign; simp only [if_neg c1]; simp only [if_neg c29]; simp only [if_neg c57]; simp only [if_pos c85]; simp only [if_pos c86]; simp only [if_neg c92]; simp only [if_neg c93]; simp only [if_neg c94]; simp only [if_pos c95]; exact Pd.i)
                  · skip
                    refine w_aload_n ok dX12_sign_160 0 rfl ?_
                    refine w_dup ok dX12_sign_161 rfl ?_
                    refine w_getI ok dX12_sign_162 (fX12_175 rfl) (congrArg Prod.fst s_130) rfl (ltM hnn (by decide)) ?_
                    refine w_iconst (v := 1) ok dX12_sign_165 (by decide) ?_
                    refine w_iadd ok dX12_sign_166 ?_
                    refine w_putI ok dX12_sign_167 (fwX12_175 rfl) (congrArg Prod.fst s_130) rfl (ltM hnn (by decide)) ?_
                    show WK K 0 0 170 [(0, .ref 130), (1, .int a0)] [] (S40_X12_sign a0 I J) J R n g
                    exact w_vret ok fin dX12_sign_170 rfl (by unfold FI_X12_sign; simp only [if_neg c1]; simp only [if_neg c29]; simp only [if_neg c57]; simp only [if_pos c85]; simp only [if_pos c86]; simp only [if_neg c92]; simp only [if_neg c93]; simp only [if_neg c94]; simp only [if_neg c95]; exact Pd.i)
                · skip
                  refine w_aload_n ok dX12_sign_134 0 rfl ?_
                  refine w_cV (As := []) ok dX12_sign_135 iX12_here (lX12_181 rfl) (rcv cls12 (congrArg Prod.fst s_130)) (ltM hnn (by decide)) (c_X12_here ro hnn   (hp28 c1 c29 c57 c85 c86 c92 c93 c94)) (by decide) rfl (Nat.le_of_ble_eq_true rfl) ?_
                  refine w_bipush (v := 61) ok dX12_sign_138 (by decide) ?_
                  refine w_icmp_ne (tgt := 150) ok dX12_sign_140 (by decide) (fun _ => ?_) (fun h => absurd h c92)
                  refine w_aload_n ok dX12_sign_150 0 rfl ?_
                  refine w_getI ok dX12_sign_151 (fX12_198 rfl) (congrArg Prod.fst s_130) rfl (ltM hnn (by decide)) ?_
                  refine w_sipush (v := 256) ok dX12_sign_154 (by decide) ?_
                  refine w_icmp_lt (tgt := 170) ok dX12_sign_157 (by decide) (fun c96 => ?_) (fun c96 => ?_)
                  · skip
                    exact w_vret ok fin dX12_sign_170 rfl (by unfold FI_X12_sign; simp only [if_neg c1]; simp only [if_neg c29]; simp only [if_neg c57]; simp only [if_pos c85]; simp only [if_pos c86]; simp only [if_neg c92]; simp only [if_neg c93]; simp only [if_pos c94]; simp only [if_pos c96]; exact Pd.i)
                  · skip
                    refine w_aload_n ok dX12_sign_160 0 rfl ?_
                    refine w_dup ok dX12_sign_161 rfl ?_
                    refine w_getI ok dX12_sign_162 (fX12_175 rfl) (congrArg Prod.fst s_130) rfl (ltM hnn (by decide)) ?_
                    refine w_iconst (v := 1) ok dX12_sign_165 (by decide) ?_
                    refine w_iadd ok dX12_sign_166 ?_
                    refine w_putI ok dX12_sign_167 (fwX12_175 rfl) (congrArg Prod.fst s_130) rfl (ltM hnn (by decide)) ?_
                    show WK K 0 0 170 [(0, .ref 130), (1, .int a0)] [] (S41_X12_sign a0 I J) J R n g
                    exact w_vret ok fin dX12_sign_170 rfl (by unfold FI_X12_sign; simp only [if_neg c1]; simp only [if_neg c29]; simp only [if_neg c57]; simp only [if_pos c85]; simp only [if_pos c86]; simp only [if_neg c92]; simp only [if_neg c93]; simp only [if_pos c94]; simp only [if_neg c96]; exact Pd.i)
              · skip
                refine w_aload_n ok dX12_sign_121 0 rfl ?_
                refine w_sipush (v := 257) ok dX12_sign_122 (by decide) ?_
                refine w_putI ok dX12_sign_125 (fwX12_198 rfl) (congrArg Prod.fst s_130) rfl (ltM hnn (by decide)) ?_
                show WK K 0 0 128 [(0, .ref 130), (1, .int a0)] [] (S42_X12_sign a0 I J) J R n g
                refine w_iload_n ok dX12_sign_128 1 rfl ?_
                refine w_bipush (v := 62) ok dX12_sign_129 (by decide) ?_
                refine w_icmp_ne (tgt := 150) ok dX12_sign_131 (by decide) (fun c97 => ?_) (fun c97 => ?_)
                · skip
                  refine w_aload_n ok dX12_sign_150 0 rfl ?_
                  refine w_getI ok dX12_sign_151 (fX12_198 rfl) (congrArg Prod.fst s_130) rfl (ltM hnn (by decide)) ?_
                  refine w_sipush (v := 256) ok dX12_sign_154 (by decide) ?_
                  refine w_icmp_lt (tgt := 170) ok dX12_sign_157 (by decide) (fun c98 => ?_) (fun c98 => ?_)
                  · skip
                    exact w_vret ok fin dX12_sign_170 rfl (by unfold FI_X12_sign; simp only [if_neg c1]; simp only [if_neg c29]; simp only [if_neg c57]; simp only [if_pos c85]; simp only [if_pos c86]; simp only [if_neg c92]; simp only [if_pos c93]; simp only [if_neg c97]; simp only [if_pos c98]; exact Pd.i)
                  · skip
                    refine w_aload_n ok dX12_sign_160 0 rfl ?_
                    refine w_dup ok dX12_sign_161 rfl ?_
                    refine w_getI ok dX12_sign_162 (fX12_175 rfl) (congrArg Prod.fst s_130) rfl (ltM hnn (by decide)) ?_
                    refine w_iconst (v := 1) ok dX12_sign_165 (by decide) ?_
                    refine w_iadd ok dX12_sign_166 ?_
                    refine w_putI ok dX12_sign_167 (fwX12_175 rfl) (congrArg Prod.fst s_130) rfl (ltM hnn (by decide)) ?_
                    exact w_vret ok fin dX12_sign_170 rfl (by unfold FI_X12_sign; simp only [if_neg c1]; simp only [if_neg c29]; simp only [if_neg c57]; simp only [if_pos c85]; simp only [if_pos c86]; simp only [if_neg c92]; simp only [if_pos c93]; simp only [if_neg c97]; simp only [if_neg c98]; exact Pd.i)
                · skip
                  refine w_aload_n ok dX12_sign_134 0 rfl ?_
                  refine w_cV (As := []) ok dX12_sign_135 iX12_here (lX12_181 rfl) (rcv cls12 (congrArg Prod.fst s_130)) (ltM hnn (by decide)) (c_X12_here ro hnn   (hp29 c1 c29 c57 c85 c86 c92 c93 c97)) (by decide) rfl (Nat.le_of_ble_eq_true rfl) ?_
                  refine w_bipush (v := 61) ok dX12_sign_138 (by decide) ?_
                  refine w_icmp_ne (tgt := 150) ok dX12_sign_140 (by decide) (fun c99 => ?_) (fun c99 => ?_)
                  · skip
                    refine w_aload_n ok dX12_sign_150 0 rfl ?_
                    refine w_getI ok dX12_sign_151 (fX12_198 rfl) (congrArg Prod.fst s_130) rfl (ltM hnn (by decide)) ?_
                    refine w_sipush (v := 256) ok dX12_sign_154 (by decide) ?_
                    refine w_icmp_lt (tgt := 170) ok dX12_sign_157 (by decide) (fun c100 => ?_) (fun c100 => ?_)
                    · skip
                      exact w_vret ok fin dX12_sign_170 rfl (by unfold FI_X12_sign; simp only [if_neg c1]; simp only [if_neg c29]; simp only [if_neg c57]; simp only [if_pos c85]; simp only [if_pos c86]; simp only [if_neg c92]; simp only [if_pos c93]; simp only [if_pos c97]; simp only [if_neg c99]; simp only [if_pos c100]; exact Pd.i)
                    · skip
                      refine w_aload_n ok dX12_sign_160 0 rfl ?_
                      refine w_dup ok dX12_sign_161 rfl ?_
                      refine w_getI ok dX12_sign_162 (fX12_175 rfl) (congrArg Prod.fst s_130) rfl (ltM hnn (by decide)) ?_
                      refine w_iconst (v := 1) ok dX12_sign_165 (by decide) ?_
                      refine w_iadd ok dX12_sign_166 ?_
                      refine w_putI ok dX12_sign_167 (fwX12_175 rfl) (congrArg Prod.fst s_130) rfl (ltM hnn (by decide)) ?_
                      exact w_vret ok fin dX12_sign_170 rfl (by unfold FI_X12_sign; simp only [if_neg c1]; simp only [if_neg c29]; simp only [if_neg c57]; simp only [if_pos c85]; simp only [if_pos c86]; simp only [if_neg c92]; simp only [if_pos c93]; simp only [if_pos c97]; simp only [if_neg c99]; simp only [if_neg c100]; exact Pd.i)
                  · skip
                    refine w_aload_n ok dX12_sign_143 0 rfl ?_
                    refine w_sipush (v := 258) ok dX12_sign_144 (by decide) ?_
                    refine w_putI ok dX12_sign_147 (fwX12_198 rfl) (congrArg Prod.fst s_130) rfl (ltM hnn (by decide)) ?_
                    refine w_aload_n ok dX12_sign_150 0 rfl ?_
                    refine w_getI ok dX12_sign_151 (fX12_198 rfl) (congrArg Prod.fst s_130) rfl (ltM hnn (by decide)) ?_
                    refine w_sipush (v := 256) ok dX12_sign_154 (by decide) ?_
                    refine w_icmp_lt (tgt := 170) ok dX12_sign_157 (by decide) (fun c101 => ?_) (fun c101 => ?_)
                    · skip
                      exact w_vret ok fin dX12_sign_170 rfl (by unfold FI_X12_sign; simp only [if_neg c1]; simp only [if_neg c29]; simp only [if_neg c57]; simp only [if_pos c85]; simp only [if_pos c86]; simp only [if_neg c92]; simp only [if_pos c93]; simp only [if_pos c97]; simp only [if_pos c99]; simp only [if_pos c101]; exact Pd.i)
                    · skip
                      refine w_aload_n ok dX12_sign_160 0 rfl ?_
                      refine w_dup ok dX12_sign_161 rfl ?_
                      refine w_getI ok dX12_sign_162 (fX12_175 rfl) (congrArg Prod.fst s_130) rfl (ltM hnn (by decide)) ?_
                      refine w_iconst (v := 1) ok dX12_sign_165 (by decide) ?_
                      refine w_iadd ok dX12_sign_166 ?_
                      refine w_putI ok dX12_sign_167 (fwX12_175 rfl) (congrArg Prod.fst s_130) rfl (ltM hnn (by decide)) ?_
                      show WK K 0 0 170 [(0, .ref 130), (1, .int a0)] [] (S43_X12_sign a0 I J) J R n g
                      exact w_vret ok fin dX12_sign_170 rfl (by unfold FI_X12_sign; simp only [if_neg c1]; simp only [if_neg c29]; simp only [if_neg c57]; simp only [if_pos c85]; simp only [if_pos c86]; simp only [if_neg c92]; simp only [if_pos c93]; simp only [if_pos c97]; simp only [if_pos c99]; simp only [if_neg c101]; exact Pd.i)
            · skip
              refine w_aload_n ok dX12_sign_99 0 rfl ?_
              refine w_sipush (v := 256) ok dX12_sign_100 (by decide) ?_
              refine w_putI ok dX12_sign_103 (fwX12_198 rfl) (congrArg Prod.fst s_130) rfl (ltM hnn (by decide)) ?_
              show WK K 0 0 106 [(0, .ref 130), (1, .int a0)] [] (S44_X12_sign a0 I J) J R n g
              refine w_iload_n ok dX12_sign_106 1 rfl ?_
              refine w_bipush (v := 60) ok dX12_sign_107 (by decide) ?_
              refine w_icmp_ne (tgt := 128) ok dX12_sign_109 (by decide) (fun h => absurd c86 h) (fun _ => ?_)
              refine w_aload_n ok dX12_sign_112 0 rfl ?_
              refine w_cV (As := []) ok dX12_sign_113 iX12_here (lX12_181 rfl) (rcv cls12 (congrArg Prod.fst s_130)) (ltM hnn (by decide)) (c_X12_here ro hnn   (hp30 c1 c29 c57 c85 c86 c92)) (by decide) rfl (Nat.le_of_ble_eq_true rfl) ?_
              refine w_bipush (v := 62) ok dX12_sign_116 (by decide) ?_
              refine w_icmp_ne (tgt := 128) ok dX12_sign_118 (by decide) (fun c102 => ?_) (fun c102 => ?_)
              · skip
                refine w_iload_n ok dX12_sign_128 1 rfl ?_
                refine w_bipush (v := 62) ok dX12_sign_129 (by decide) ?_
                refine w_icmp_ne (tgt := 150) ok dX12_sign_131 (by decide) (fun c103 => ?_) (fun c103 => ?_)
                · skip
                  refine w_aload_n ok dX12_sign_150 0 rfl ?_
                  refine w_getI ok dX12_sign_151 (fX12_198 rfl) (congrArg Prod.fst s_130) rfl (ltM hnn (by decide)) ?_
                  refine w_sipush (v := 256) ok dX12_sign_154 (by decide) ?_
                  refine w_icmp_lt (tgt := 170) ok dX12_sign_157 (by decide) (fun c104 => ?_) (fun c104 => ?_)
                  · skip
                    exact w_vret ok fin dX12_sign_170 rfl (by unfold FI_X12_sign; simp only [if_neg c1]; simp only [if_neg c29]; simp only [if_neg c57]; simp only [if_pos c85]; simp only [if_pos c86]; simp only [if_pos c92]; simp only [if_neg c102]; simp only [if_neg c103]; simp only [if_pos c104]; exact Pd.i)
                  · skip
                    refine w_aload_n ok dX12_sign_160 0 rfl ?_
                    refine w_dup ok dX12_sign_161 rfl ?_
                    refine w_getI ok dX12_sign_162 (fX12_175 rfl) (congrArg Prod.fst s_130) rfl (ltM hnn (by decide)) ?_
                    refine w_iconst (v := 1) ok dX12_sign_165 (by decide) ?_
                    refine w_iadd ok dX12_sign_166 ?_
                    refine w_putI ok dX12_sign_167 (fwX12_175 rfl) (congrArg Prod.fst s_130) rfl (ltM hnn (by decide)) ?_
                    exact w_vret ok fin dX12_sign_170 rfl (by unfold FI_X12_sign; simp only [if_neg c1]; simp only [if_neg c29]; simp only [if_neg c57]; simp only [if_pos c85]; simp only [if_pos c86]; simp only [if_pos c92]; simp only [if_neg c102]; simp only [if_neg c103]; simp only [if_neg c104]; exact Pd.i)
                · skip
                  refine w_aload_n ok dX12_sign_134 0 rfl ?_
                  refine w_cV (As := []) ok dX12_sign_135 iX12_here (lX12_181 rfl) (rcv cls12 (congrArg Prod.fst s_130)) (ltM hnn (by decide)) (c_X12_here ro hnn   (hp31 c1 c29 c57 c85 c86 c92 c102 c103)) (by decide) rfl (Nat.le_of_ble_eq_true rfl) ?_
                  refine w_bipush (v := 61) ok dX12_sign_138 (by decide) ?_
                  refine w_icmp_ne (tgt := 150) ok dX12_sign_140 (by decide) (fun c105 => ?_) (fun c105 => ?_)
                  · skip
                    refine w_aload_n ok dX12_sign_150 0 rfl ?_
                    refine w_getI ok dX12_sign_151 (fX12_198 rfl) (congrArg Prod.fst s_130) rfl (ltM hnn (by decide)) ?_
                    refine w_sipush (v := 256) ok dX12_sign_154 (by decide) ?_
                    refine w_icmp_lt (tgt := 170) ok dX12_sign_157 (by decide) (fun c106 => ?_) (fun c106 => ?_)
                    · skip
                      exact w_vret ok fin dX12_sign_170 rfl (by unfold FI_X12_sign; simp only [if_neg c1]; simp only [if_neg c29]; simp only [if_neg c57]; simp only [if_pos c85]; simp only [if_pos c86]; simp only [if_pos c92]; simp only [if_neg c102]; simp only [if_pos c103]; simp only [if_neg c105]; simp only [if_pos c106]; exact Pd.i)
                    · skip
                      refine w_aload_n ok dX12_sign_160 0 rfl ?_
                      refine w_dup ok dX12_sign_161 rfl ?_
                      refine w_getI ok dX12_sign_162 (fX12_175 rfl) (congrArg Prod.fst s_130) rfl (ltM hnn (by decide)) ?_
                      refine w_iconst (v := 1) ok dX12_sign_165 (by decide) ?_
                      refine w_iadd ok dX12_sign_166 ?_
                      refine w_putI ok dX12_sign_167 (fwX12_175 rfl) (congrArg Prod.fst s_130) rfl (ltM hnn (by decide)) ?_
                      exact w_vret ok fin dX12_sign_170 rfl (by unfold FI_X12_sign; simp only [if_neg c1]; simp only [if_neg c29]; simp only [if_neg c57]; simp only [if_pos c85]; simp only [if_pos c86]; simp only [if_pos c92]; simp only [if_neg c102]; simp only [if_pos c103]; simp only [if_neg c105]; simp only [if_neg c106]; exact Pd.i)
                  · skip
                    refine w_aload_n ok dX12_sign_143 0 rfl ?_
                    refine w_sipush (v := 258) ok dX12_sign_144 (by decide) ?_
                    refine w_putI ok dX12_sign_147 (fwX12_198 rfl) (congrArg Prod.fst s_130) rfl (ltM hnn (by decide)) ?_
                    refine w_aload_n ok dX12_sign_150 0 rfl ?_
                    refine w_getI ok dX12_sign_151 (fX12_198 rfl) (congrArg Prod.fst s_130) rfl (ltM hnn (by decide)) ?_
                    refine w_sipush (v := 256) ok dX12_sign_154 (by decide) ?_
                    refine w_icmp_lt (tgt := 170) ok dX12_sign_157 (by decide) (fun c107 => ?_) (fun c107 => ?_)
                    · skip
                      exact w_vret ok fin dX12_sign_170 rfl (by unfold FI_X12_sign; simp only [if_neg c1]; simp only [if_neg c29]; simp only [if_neg c57]; simp only [if_pos c85]; simp only [if_pos c86]; simp only [if_pos c92]; simp only [if_neg c102]; simp only [if_pos c103]; simp only [if_pos c105]; simp only [if_pos c107]; exact Pd.i)
                    · skip
                      refine w_aload_n ok dX12_sign_160 0 rfl ?_
                      refine w_dup ok dX12_sign_161 rfl ?_
                      refine w_getI ok dX12_sign_162 (fX12_175 rfl) (congrArg Prod.fst s_130) rfl (ltM hnn (by decide)) ?_
                      refine w_iconst (v := 1) ok dX12_sign_165 (by decide) ?_
                      refine w_iadd ok dX12_sign_166 ?_
                      refine w_putI ok dX12_sign_167 (fwX12_175 rfl) (congrArg Prod.fst s_130) rfl (ltM hnn (by decide)) ?_
                      show WK K 0 0 170 [(0, .ref 130), (1, .int a0)] [] (S45_X12_sign a0 I J) J R n g
                      exact w_vret ok fin dX12_sign_170 rfl (by unfold FI_X12_sign; simp only [if_neg c1]; simp only [if_neg c29]; simp only [if_neg c57]; simp only [if_pos c85]; simp only [if_pos c86]; simp only [if_pos c92]; simp only [if_neg c102]; simp only [if_pos c103]; simp only [if_pos c105]; simp only [if_neg c107]; exact Pd.i)
              · skip
                refine w_aload_n ok dX12_sign_121 0 rfl ?_
                refine w_sipush (v := 257) ok dX12_sign_122 (by decide) ?_
                refine w_putI ok dX12_sign_125 (fwX12_198 rfl) (congrArg Prod.fst s_130) rfl (ltM hnn (by decide)) ?_
                refine w_iload_n ok dX12_sign_128 1 rfl ?_
                refine w_bipush (v := 62) ok dX12_sign_129 (by decide) ?_
                refine w_icmp_ne (tgt := 150) ok dX12_sign_131 (by decide) (fun c108 => ?_) (fun c108 => ?_)
                · skip
                  refine w_aload_n ok dX12_sign_150 0 rfl ?_
                  refine w_getI ok dX12_sign_151 (fX12_198 rfl) (congrArg Prod.fst s_130) rfl (ltM hnn (by decide)) ?_
                  refine w_sipush (v := 256) ok dX12_sign_154 (by decide) ?_
                  refine w_icmp_lt (tgt := 170) ok dX12_sign_157 (by decide) (fun c109 => ?_) (fun c109 => ?_)
                  · skip
                    exact w_vret ok fin dX12_sign_170 rfl (by unfold FI_X12_sign; simp only [if_neg c1]; simp only [if_neg c29]; simp only [if_neg c57]; simp only [if_pos c85]; simp only [if_pos c86]; simp only [if_pos c92]; simp only [if_pos c102]; simp only [if_neg c108]; simp only [if_pos c109]; exact Pd.i)
                  · skip
                    refine w_aload_n ok dX12_sign_160 0 rfl ?_
                    refine w_dup ok dX12_sign_161 rfl ?_
                    refine w_getI ok dX12_sign_162 (fX12_175 rfl) (congrArg Prod.fst s_130) rfl (ltM hnn (by decide)) ?_
                    refine w_iconst (v := 1) ok dX12_sign_165 (by decide) ?_
                    refine w_iadd ok dX12_sign_166 ?_
                    refine w_putI ok dX12_sign_167 (fwX12_175 rfl) (congrArg Prod.fst s_130) rfl (ltM hnn (by decide)) ?_
                    show WK K 0 0 170 [(0, .ref 130), (1, .int a0)] [] (S46_X12_sign a0 I J) J R n g
                    exact w_vret ok fin dX12_sign_170 rfl (by unfold FI_X12_sign; simp only [if_neg c1]; simp only [if_neg c29]; simp only [if_neg c57]; simp only [if_pos c85]; simp only [if_pos c86]; simp only [if_pos c92]; simp only [if_pos c102]; simp only [if_neg c108]; simp only [if_neg c109]; exact Pd.i)
                · skip
                  refine w_aload_n ok dX12_sign_134 0 rfl ?_
                  refine w_cV (As := []) ok dX12_sign_135 iX12_here (lX12_181 rfl) (rcv cls12 (congrArg Prod.fst s_130)) (ltM hnn (by decide)) (c_X12_here ro hnn   (hp32 c1 c29 c57 c85 c86 c92 c102 c108)) (by decide) rfl (Nat.le_of_ble_eq_true rfl) ?_
                  refine w_bipush (v := 61) ok dX12_sign_138 (by decide) ?_
                  refine w_icmp_ne (tgt := 150) ok dX12_sign_140 (by decide) (fun c110 => ?_) (fun c110 => ?_)
                  · skip
                    refine w_aload_n ok dX12_sign_150 0 rfl ?_
                    refine w_getI ok dX12_sign_151 (fX12_198 rfl) (congrArg Prod.fst s_130) rfl (ltM hnn (by decide)) ?_
                    refine w_sipush (v := 256) ok dX12_sign_154 (by decide) ?_
                    refine w_icmp_lt (tgt := 170) ok dX12_sign_157 (by decide) (fun c111 => ?_) (fun c111 => ?_)
                    · skip
                      exact w_vret ok fin dX12_sign_170 rfl (by unfold FI_X12_sign; simp only [if_neg c1]; simp only [if_neg c29]; simp only [if_neg c57]; simp only [if_pos c85]; simp only [if_pos c86]; simp only [if_pos c92]; simp only [if_pos c102]; simp only [if_pos c108]; simp only [if_neg c110]; simp only [if_pos c111]; exact Pd.i)
                    · skip
                      refine w_aload_n ok dX12_sign_160 0 rfl ?_
                      refine w_dup ok dX12_sign_161 rfl ?_
                      refine w_getI ok dX12_sign_162 (fX12_175 rfl) (congrArg Prod.fst s_130) rfl (ltM hnn (by decide)) ?_
                      refine w_iconst (v := 1) ok dX12_sign_165 (by decide) ?_
                      refine w_iadd ok dX12_sign_166 ?_
                      refine w_putI ok dX12_sign_167 (fwX12_175 rfl) (congrArg Prod.fst s_130) rfl (ltM hnn (by decide)) ?_
                      show WK K 0 0 170 [(0, .ref 130), (1, .int a0)] [] (S47_X12_sign a0 I J) J R n g
                      exact w_vret ok fin dX12_sign_170 rfl (by unfold FI_X12_sign; simp only [if_neg c1]; simp only [if_neg c29]; simp only [if_neg c57]; simp only [if_pos c85]; simp only [if_pos c86]; simp only [if_pos c92]; simp only [if_pos c102]; simp only [if_pos c108]; simp only [if_neg c110]; simp only [if_neg c111]; exact Pd.i)
                  · skip
                    refine w_aload_n ok dX12_sign_143 0 rfl ?_
                    refine w_sipush (v := 258) ok dX12_sign_144 (by decide) ?_
                    refine w_putI ok dX12_sign_147 (fwX12_198 rfl) (congrArg Prod.fst s_130) rfl (ltM hnn (by decide)) ?_
                    refine w_aload_n ok dX12_sign_150 0 rfl ?_
                    refine w_getI ok dX12_sign_151 (fX12_198 rfl) (congrArg Prod.fst s_130) rfl (ltM hnn (by decide)) ?_
                    refine w_sipush (v := 256) ok dX12_sign_154 (by decide) ?_
                    refine w_icmp_lt (tgt := 170) ok dX12_sign_157 (by decide) (fun c112 => ?_) (fun c112 => ?_)
                    · skip
                      exact w_vret ok fin dX12_sign_170 rfl (by unfold FI_X12_sign; simp only [if_neg c1]; simp only [if_neg c29]; simp only [if_neg c57]; simp only [if_pos c85]; simp only [if_pos c86]; simp only [if_pos c92]; simp only [if_pos c102]; simp only [if_pos c108]; simp only [if_pos c110]; simp only [if_pos c112]; exact Pd.i)
                    · skip
                      refine w_aload_n ok dX12_sign_160 0 rfl ?_
                      refine w_dup ok dX12_sign_161 rfl ?_
                      refine w_getI ok dX12_sign_162 (fX12_175 rfl) (congrArg Prod.fst s_130) rfl (ltM hnn (by decide)) ?_
                      refine w_iconst (v := 1) ok dX12_sign_165 (by decide) ?_
                      refine w_iadd ok dX12_sign_166 ?_
                      refine w_putI ok dX12_sign_167 (fwX12_175 rfl) (congrArg Prod.fst s_130) rfl (ltM hnn (by decide)) ?_
                      show WK K 0 0 170 [(0, .ref 130), (1, .int a0)] [] (S48_X12_sign a0 I J) J R n g
                      exact w_vret ok fin dX12_sign_170 rfl (by unfold FI_X12_sign; simp only [if_neg c1]; simp only [if_neg c29]; simp only [if_neg c57]; simp only [if_pos c85]; simp only [if_pos c86]; simp only [if_pos c92]; simp only [if_pos c102]; simp only [if_pos c108]; simp only [if_pos c110]; simp only [if_neg c112]; exact Pd.i)
        · skip
          refine w_iload_n ok dX12_sign_35 1 rfl ?_
          refine w_bipush (v := 45) ok dX12_sign_36 (by decide) ?_
          refine w_icmp_eq (tgt := 71) ok dX12_sign_38 (by decide) (fun c113 => ?_) (fun c113 => ?_)
          · skip
            refine w_iconst (v := 3) ok dX12_sign_71 (by decide) ?_
            refine w_goto (tgt := 76) ok dX12_sign_72 (by decide) ?_
            refine w_putI ok dX12_sign_76 (fwX12_188 rfl) (congrArg Prod.fst s_130) rfl (ltM hnn (by decide)) ?_
            refine w_aload_n ok dX12_sign_79 0 rfl ?_
            refine w_iload_n ok dX12_sign_80 1 rfl ?_
            refine w_putI ok dX12_sign_81 (fwX12_198 rfl) (congrArg Prod.fst s_130) rfl (ltM hnn (by decide)) ?_
            refine w_iload_n ok dX12_sign_84 1 rfl ?_
            refine w_bipush (v := 60) ok dX12_sign_85 (by decide) ?_
            refine w_icmp_ne (tgt := 106) ok dX12_sign_87 (by decide) (fun c114 => ?_) (fun c114 => ?_)
            · skip
              refine w_iload_n ok dX12_sign_106 1 rfl ?_
              refine w_bipush (v := 60) ok dX12_sign_107 (by decide) ?_
              refine w_icmp_ne (tgt := 128) ok dX12_sign_109 (by decide) (fun _ => ?_) (fun h => absurd h c114)
              refine w_iload_n ok dX12_sign_128 1 rfl ?_
              refine w_bipush (v := 62) ok dX12_sign_129 (by decide) ?_
              refine w_icmp_ne (tgt := 150) ok dX12_sign_131 (by decide) (fun c115 => ?_) (fun c115 => ?_)
              · skip
                refine w_aload_n ok dX12_sign_150 0 rfl ?_
                refine w_getI ok dX12_sign_151 (fX12_198 rfl) (congrArg Prod.fst s_130) rfl (ltM hnn (by decide)) ?_
                refine w_sipush (v := 256) ok dX12_sign_154 (by decide) ?_
                refine w_icmp_lt (tgt := 170) ok dX12_sign_157 (by decide) (fun c116 => ?_) (fun c116 => ?_)
                · skip
                  exact w_vret ok fin dX12_sign_170 rfl (by unfold FI_X12_sign; simp only [if_neg c1]; simp only [if_neg c29]; simp only [if_neg c57]; simp only [if_neg c85]; simp only [if_pos c113]; simp only [if_neg c114]; simp only [if_neg c115]; simp only [if_pos c116]; exact Pd.i)
                · skip
                  refine w_aload_n ok dX12_sign_160 0 rfl ?_
                  refine w_dup ok dX12_sign_161 rfl ?_
                  refine w_getI ok dX12_sign_162 (fX12_175 rfl) (congrArg Prod.fst s_130) rfl (ltM hnn (by decide)) ?_
                  refine w_iconst (v := 1) ok dX12_sign_165 (by decide) ?_
                  refine w_iadd ok dX12_sign_166 ?_
                  refine w_putI ok dX12_sign_167 (fwX12_175 rfl) (congrArg Prod.fst s_130) rfl (ltM hnn (by decide)) ?_
                  show WK K 0 0 170 [(0, .ref 130), (1, .int a0)] [] (S49_X12_sign a0 I J) J R n g
                  exact w_vret ok fin dX12_sign_170 rfl (by unfold FI_X12_sign; simp only [if_neg c1]; simp only [if_neg c29]; simp only [if_neg c57]; simp only [if_neg c85]; simp only [if_pos c113]; simp only [if_neg c114]; simp only [if_neg c115]; simp only [if_neg c116]; exact Pd.i)
              · skip
                refine w_aload_n ok dX12_sign_134 0 rfl ?_
                refine w_cV (As := []) ok dX12_sign_135 iX12_here (lX12_181 rfl) (rcv cls12 (congrArg Prod.fst s_130)) (ltM hnn (by decide)) (c_X12_here ro hnn   (hp33 c1 c29 c57 c85 c113 c114 c115)) (by decide) rfl (Nat.le_of_ble_eq_true rfl) ?_
                refine w_bipush (v := 61) ok dX12_sign_138 (by decide) ?_
                refine w_icmp_ne (tgt := 150) ok dX12_sign_140 (by decide) (fun c117 => ?_) (fun c117 => ?_)
                · skip
                  refine w_aload_n ok dX12_sign_150 0 rfl ?_
                  refine w_getI ok dX12_sign_151 (fX12_198 rfl) (congrArg Prod.fst s_130) rfl (ltM hnn (by decide)) ?_
                  refine w_sipush (v := 256) ok dX12_sign_154 (by decide) ?_
                  refine w_icmp_lt (tgt := 170) ok dX12_sign_157 (by decide) (fun c118 => ?_) (fun c118 => ?_)
                  · skip
                    exact w_vret ok fin dX12_sign_170 rfl (by unfold FI_X12_sign; simp only [if_neg c1]; simp only [if_neg c29]; simp only [if_neg c57]; simp only [if_neg c85]; simp only [if_pos c113]; simp only [if_neg c114]; simp only [if_pos c115]; simp only [if_neg c117]; simp only [if_pos c118]; exact Pd.i)
                  · skip
                    refine w_aload_n ok dX12_sign_160 0 rfl ?_
                    refine w_dup ok dX12_sign_161 rfl ?_
                    refine w_getI ok dX12_sign_162 (fX12_175 rfl) (congrArg Prod.fst s_130) rfl (ltM hnn (by decide)) ?_
                    refine w_iconst (v := 1) ok dX12_sign_165 (by decide) ?_
                    refine w_iadd ok dX12_sign_166 ?_
                    refine w_putI ok dX12_sign_167 (fwX12_175 rfl) (congrArg Prod.fst s_130) rfl (ltM hnn (by decide)) ?_
                    show WK K 0 0 170 [(0, .ref 130), (1, .int a0)] [] (S50_X12_sign a0 I J) J R n g
                    exact w_vret ok fin dX12_sign_170 rfl (by unfold FI_X12_sign; simp only [if_neg c1]; simp only [if_neg c29]; simp only [if_neg c57]; simp only [if_neg c85]; simp only [if_pos c113]; simp only [if_neg c114]; simp only [if_pos c115]; simp only [if_neg c117]; simp only [if_neg c118]; exact Pd.i)
                · skip
                  refine w_aload_n ok dX12_sign_143 0 rfl ?_
                  refine w_sipush (v := 258) ok dX12_sign_144 (by decide) ?_
                  refine w_putI ok dX12_sign_147 (fwX12_198 rfl) (congrArg Prod.fst s_130) rfl (ltM hnn (by decide)) ?_
                  show WK K 0 0 150 [(0, .ref 130), (1, .int a0)] [] (S51_X12_sign a0 I J) J R n g
                  refine w_aload_n ok dX12_sign_150 0 rfl ?_
                  refine w_getI ok dX12_sign_151 (fX12_198 rfl) (congrArg Prod.fst s_130) rfl (ltM hnn (by decide)) ?_
                  refine w_sipush (v := 256) ok dX12_sign_154 (by decide) ?_
                  refine w_icmp_lt (tgt := 170) ok dX12_sign_157 (by decide) (fun c119 => ?_) (fun c119 => ?_)
                  · skip
                    exact w_vret ok fin dX12_sign_170 rfl (by unfold FI_X12_sign; simp only [if_neg c1]; simp only [if_neg c29]; simp only [if_neg c57]; simp only [if_neg c85]; simp only [if_pos c113]; simp only [if_neg c114]; simp only [if_pos c115]; simp only [if_pos c117]; simp only [if_pos c119]; exact Pd.i)
                  · skip
                    refine w_aload_n ok dX12_sign_160 0 rfl ?_
                    refine w_dup ok dX12_sign_161 rfl ?_
                    refine w_getI ok dX12_sign_162 (fX12_175 rfl) (congrArg Prod.fst s_130) rfl (ltM hnn (by decide)) ?_
                    refine w_iconst (v := 1) ok dX12_sign_165 (by decide) ?_
                    refine w_iadd ok dX12_sign_166 ?_
                    refine w_putI ok dX12_sign_167 (fwX12_175 rfl) (congrArg Prod.fst s_130) rfl (ltM hnn (by decide)) ?_
                    exact w_vret ok fin dX12_sign_170 rfl (by unfold FI_X12_sign; simp only [if_neg c1]; simp only [if_neg c29]; simp only [if_neg c57]; simp only [if_neg c85]; simp only [if_pos c113]; simp only [if_neg c114]; simp only [if_pos c115]; simp only [if_pos c117]; simp only [if_neg c119]; exact Pd.i)
            · skip
              refine w_aload_n ok dX12_sign_90 0 rfl ?_
              refine w_cV (As := []) ok dX12_sign_91 iX12_here (lX12_181 rfl) (rcv cls12 (congrArg Prod.fst s_130)) (ltM hnn (by decide)) (c_X12_here ro hnn   (hp34 c1 c29 c57 c85 c113 c114)) (by decide) rfl (Nat.le_of_ble_eq_true rfl) ?_
              refine w_bipush (v := 61) ok dX12_sign_94 (by decide) ?_
              refine w_icmp_ne (tgt := 106) ok dX12_sign_96 (by decide) (fun c120 => ?_) (fun c120 => ?_)
              · skip
                refine w_iload_n ok dX12_sign_106 1 rfl ?_
                refine w_bipush (v := 60) ok dX12_sign_107 (by decide) ?_
                refine w_icmp_ne (tgt := 128) ok dX12_sign_109 (by decide) (fun h => absurd c114 h) (fun _ => ?_)
                refine w_aload_n ok dX12_sign_112 0 rfl ?_
                refine w_cV (As := []) ok dX12_sign_113 iX12_here (lX12_181 rfl) (rcv cls12 (congrArg Prod.fst s_130)) (ltM hnn (by decide)) (c_X12_here ro hnn   (hp35 c1 c29 c57 c85 c113 c114 c120)) (by decide) rfl (Nat.le_of_ble_eq_true rfl) ?_
                refine w_bipush (v := 62) ok dX12_sign_116 (by decide) ?_
                refine w_icmp_ne (tgt := 128) ok dX12_sign_118 (by decide) (fun c121 => ?_) (fun c121 => ?_)
                · skip
                  refine w_iload_n ok dX12_sign_128 1 rfl ?_
                  refine w_bipush (v := 62) ok dX12_sign_129 (by decide) ?_
                  refine w_icmp_ne (tgt := 150) ok dX12_sign_131 (by decide) (fun c122 => ?_) (fun c122 => ?_)
                  · skip
                    refine w_aload_n ok dX12_sign_150 0 rfl ?_
                    refine w_getI ok dX12_sign_151 (fX12_198 rfl) (congrArg Prod.fst s_130) rfl (ltM hnn (by decide)) ?_
                    refine w_sipush (v := 256) ok dX12_sign_154 (by decide) ?_
                    refine w_icmp_lt (tgt := 170) ok dX12_sign_157 (by decide) (fun c123 => ?_) (fun c123 => ?_)
                    · skip
                      exact w_vret ok fin dX12_sign_170 rfl (by unfold FI_X12_sign; simp only [if_neg c1]; simp only [if_neg c29]; simp only [if_neg c57]; simp only [if_neg c85]; simp only [if_pos c113]; simp only [if_pos c114]; simp only [if_neg c120]; simp only [if_neg c121]; simp only [if_neg c122]; simp only [if_pos c123]; exact Pd.i)
                    · skip
                      refine w_aload_n ok dX12_sign_160 0 rfl ?_
                      refine w_dup ok dX12_sign_161 rfl ?_
                      refine w_getI ok dX12_sign_162 (fX12_175 rfl) (congrArg Prod.fst s_130) rfl (ltM hnn (by decide)) ?_
                      refine w_iconst (v := 1) ok dX12_sign_165 (by decide) ?_
                      refine w_iadd ok dX12_sign_166 ?_
                      refine w_putI ok dX12_sign_167 (fwX12_175 rfl) (congrArg Prod.fst s_130) rfl (ltM hnn (by decide)) ?_
                      show WK K 0 0 170 [(0, .ref 130), (1, .int a0)] [] (S52_X12_sign a0 I J) J R n g
                      exact w_vret ok fin dX12_sign_170 rfl (by unfold FI_X12_sign; simp only [if_neg c1]; simp only [if_neg c29]; simp only [if_neg c57]; simp only [if_neg c85]; simp only [if_pos c113]; simp only [if_pos c114]; simp only [if_neg c120]; simp only [if_neg c121]; simp only [if_neg c122]; simp only [if_neg c123]; exact Pd.i)
                  · skip
                    refine w_aload_n ok dX12_sign_134 0 rfl ?_
                    refine w_cV (As := []) ok dX12_sign_135 iX12_here (lX12_181 rfl) (rcv cls12 (congrArg Prod.fst s_130)) (ltM hnn (by decide)) (c_X12_here ro hnn   (hp36 c1 c29 c57 c85 c113 c114 c120 c121 c122)) (by decide) rfl (Nat.le_of_ble_eq_true rfl) ?_
                    refine w_bipush (v := 61) ok dX12_sign_138 (by decide) ?_
                    refine w_icmp_ne (tgt := 150) ok dX12_sign_140 (by decide) (fun _ => ?_) (fun h => absurd h c120)
                    refine w_aload_n ok dX12_sign_150 0 rfl ?_
                    refine w_getI ok dX12_sign_151 (fX12_198 rfl) (congrArg Prod.fst s_130) rfl (ltM hnn (by decide)) ?_
                    refine w_sipush (v := 256) ok dX12_sign_154 (by decide) ?_
                    refine w_icmp_lt (tgt := 170) ok dX12_sign_157 (by decide) (fun c124 => ?_) (fun c124 => ?_)
                    · skip
                      exact w_vret ok fin dX12_sign_170 rfl (by unfold FI_X12_sign; simp only [if_neg c1]; simp only [if_neg c29]; simp only [if_neg c57]; simp only [if_neg c85]; simp only [if_pos c113]; simp only [if_pos c114]; simp only [if_neg c120]; simp only [if_neg c121]; simp only [if_pos c122]; simp only [if_pos c124]; exact Pd.i)
                    · skip
                      refine w_aload_n ok dX12_sign_160 0 rfl ?_
                      refine w_dup ok dX12_sign_161 rfl ?_
                      refine w_getI ok dX12_sign_162 (fX12_175 rfl) (congrArg Prod.fst s_130) rfl (ltM hnn (by decide)) ?_
                      refine w_iconst (v := 1) ok dX12_sign_165 (by decide) ?_
                      refine w_iadd ok dX12_sign_166 ?_
                      refine w_putI ok dX12_sign_167 (fwX12_175 rfl) (congrArg Prod.fst s_130) rfl (ltM hnn (by decide)) ?_
                      show WK K 0 0 170 [(0, .ref 130), (1, .int a0)] [] (S53_X12_sign a0 I J) J R n g
                      exact w_vret ok fin dX12_sign_170 rfl (by unfold FI_X12_sign; simp only [if_neg c1]; simp only [if_neg c29]; simp only [if_neg c57]; simp only [if_neg c85]; simp only [if_pos c113]; simp only [if_pos c114]; simp only [if_neg c120]; simp only [if_neg c121]; simp only [if_pos c122]; simp only [if_neg c124]; exact Pd.i)
                · skip
                  refine w_aload_n ok dX12_sign_121 0 rfl ?_
                  refine w_sipush (v := 257) ok dX12_sign_122 (by decide) ?_
                  refine w_putI ok dX12_sign_125 (fwX12_198 rfl) (congrArg Prod.fst s_130) rfl (ltM hnn (by decide)) ?_
                  show WK K 0 0 128 [(0, .ref 130), (1, .int a0)] [] (S54_X12_sign a0 I J) J R n g
                  refine w_iload_n ok dX12_sign_128 1 rfl ?_
                  refine w_bipush (v := 62) ok dX12_sign_129 (by decide) ?_
                  refine w_icmp_ne (tgt := 150) ok dX12_sign_131 (by decide) (fun c125 => ?_) (fun c125 => ?_)
                  · skip
                    refine w_aload_n ok dX12_sign_150 0 rfl ?_
                    refine w_getI ok dX12_sign_151 (fX12_198 rfl) (congrArg Prod.fst s_130) rfl (ltM hnn (by decide)) ?_
                    refine w_sipush (v := 256) ok dX12_sign_154 (by decide) ?_
                    refine w_icmp_lt (tgt := 170) ok dX12_sign_157 (by decide) (fun c126 => ?_) (fun c126 => ?_)
                    · skip
                      exact w_vret ok fin dX12_sign_170 rfl (by unfold FI_X12_sign; simp only [if_neg c1]; simp only [if_neg c29]; simp only [if_neg c57]; simp only [if_neg c85]; simp only [if_pos c113]; simp only [if_pos c114]; simp only [if_neg c120]; simp only [if_pos c121]; simp only [if_neg c125]; simp only [if_pos c126]; exact Pd.i)
                    · skip
                      refine w_aload_n ok dX12_sign_160 0 rfl ?_
                      refine w_dup ok dX12_sign_161 rfl ?_
                      refine w_getI ok dX12_sign_162 (fX12_175 rfl) (congrArg Prod.fst s_130) rfl (ltM hnn (by decide)) ?_
                      refine w_iconst (v := 1) ok dX12_sign_165 (by decide) ?_
                      refine w_iadd ok dX12_sign_166 ?_
                      refine w_putI ok dX12_sign_167 (fwX12_175 rfl) (congrArg Prod.fst s_130) rfl (ltM hnn (by decide)) ?_
                      exact w_vret ok fin dX12_sign_170 rfl (by unfold FI_X12_sign; simp only [if_neg c1]; simp only [if_neg c29]; simp only [if_neg c57]; simp only [if_neg c85]; simp only [if_pos c113]; simp only [if_pos c114]; simp only [if_neg c120]; simp only [if_pos c121]; simp only [if_neg c125]; simp only [if_neg c126]; exact Pd.i)
                  · skip
                    refine w_aload_n ok dX12_sign_134 0 rfl ?_
                    refine w_cV (As := []) ok dX12_sign_135 iX12_here (lX12_181 rfl) (rcv cls12 (congrArg Prod.fst s_130)) (ltM hnn (by decide)) (c_X12_here ro hnn   (hp37 c1 c29 c57 c85 c113 c114 c120 c121 c125)) (by decide) rfl (Nat.le_of_ble_eq_true rfl) ?_
                    refine w_bipush (v := 61) ok dX12_sign_138 (by decide) ?_
                    refine w_icmp_ne (tgt := 150) ok dX12_sign_140 (by decide) (fun c127 => ?_) (fun c127 => ?_)
                    · skip
                      refine w_aload_n ok dX12_sign_150 0 rfl ?_
                      refine w_getI ok dX12_sign_151 (fX12_198 rfl) (congrArg Prod.fst s_130) rfl (ltM hnn (by decide)) ?_
                      refine w_sipush (v := 256) ok dX12_sign_154 (by decide) ?_
                      refine w_icmp_lt (tgt := 170) ok dX12_sign_157 (by decide) (fun c128 => ?_) (fun c128 => ?_)
                      · skip
                        exact w_vret ok fin dX12_sign_170 rfl (by unfold FI_X12_sign; simp only [if_neg c1]; simp only [if_neg c29]; simp only [if_neg c57]; simp only [if_neg c85]; simp only [if_pos c113]; simp only [if_pos c114]; simp only [if_neg c120]; simp only [if_pos c121]; simp only [if_pos c125]; simp only [if_neg c127]; simp only [if_pos c128]; exact Pd.i)
                      · skip
                        refine w_aload_n ok dX12_sign_160 0 rfl ?_
                        refine w_dup ok dX12_sign_161 rfl ?_
                        refine w_getI ok dX12_sign_162 (fX12_175 rfl) (congrArg Prod.fst s_130) rfl (ltM hnn (by decide)) ?_
                        refine w_iconst (v := 1) ok dX12_sign_165 (by decide) ?_
                        refine w_iadd ok dX12_sign_166 ?_
                        refine w_putI ok dX12_sign_167 (fwX12_175 rfl) (congrArg Prod.fst s_130) rfl (ltM hnn (by decide)) ?_
                        exact w_vret ok fin dX12_sign_170 rfl (by unfold FI_X12_sign; simp only [if_neg c1]; simp only [if_neg c29]; simp only [if_neg c57]; simp only [if_neg c85]; simp only [if_pos c113]; simp only [if_pos c114]; simp only [if_neg c120]; simp only [if_pos c121]; simp only [if_pos c125]; simp only [if_neg c127]; simp only [if_neg c128]; exact Pd.i)
                    · skip
                      refine w_aload_n ok dX12_sign_143 0 rfl ?_
                      refine w_sipush (v := 258) ok dX12_sign_144 (by decide) ?_
                      refine w_putI ok dX12_sign_147 (fwX12_198 rfl) (congrArg Prod.fst s_130) rfl (ltM hnn (by decide)) ?_
                      refine w_aload_n ok dX12_sign_150 0 rfl ?_
                      refine w_getI ok dX12_sign_151 (fX12_198 rfl) (congrArg Prod.fst s_130) rfl (ltM hnn (by decide)) ?_
                      refine w_sipush (v := 256) ok dX12_sign_154 (by decide) ?_
                      refine w_icmp_lt (tgt := 170) ok dX12_sign_157 (by decide) (fun c129 => ?_) (fun c129 => ?_)
                      · skip
                        exact w_vret ok fin dX12_sign_170 rfl (by unfold FI_X12_sign; simp only [if_neg c1]; simp only [if_neg c29]; simp only [if_neg c57]; simp only [if_neg c85]; simp only [if_pos c113]; simp only [if_pos c114]; simp only [if_neg c120]; simp only [if_pos c121]; simp only [if_pos c125]; simp only [if_pos c127]; simp only [if_pos c129]; exact Pd.i)
                      · skip
                        refine w_aload_n ok dX12_sign_160 0 rfl ?_
                        refine w_dup ok dX12_sign_161 rfl ?_
                        refine w_getI ok dX12_sign_162 (fX12_175 rfl) (congrArg Prod.fst s_130) rfl (ltM hnn (by decide)) ?_
                        refine w_iconst (v := 1) ok dX12_sign_165 (by decide) ?_
                        refine w_iadd ok dX12_sign_166 ?_
                        refine w_putI ok dX12_sign_167 (fwX12_175 rfl) (congrArg Prod.fst s_130) rfl (ltM hnn (by decide)) ?_
                        show WK K 0 0 170 [(0, .ref 130), (1, .int a0)] [] (S55_X12_sign a0 I J) J R n g
                        exact w_vret ok fin dX12_sign_170 rfl (by unfold FI_X12_sign; simp only [if_neg c1]; simp only [if_neg c29]; simp only [if_neg c57]; simp only [if_neg c85]; simp only [if_pos c113]; simp only [if_pos c114]; simp only [if_neg c120]; simp only [if_pos c121]; simp only [if_pos c125]; simp only [if_pos c127]; simp only [if_neg c129]; exact Pd.i)
              · skip
                refine w_aload_n ok dX12_sign_99 0 rfl ?_
                refine w_sipush (v := 256) ok dX12_sign_100 (by decide) ?_
                refine w_putI ok dX12_sign_103 (fwX12_198 rfl) (congrArg Prod.fst s_130) rfl (ltM hnn (by decide)) ?_
                show WK K 0 0 106 [(0, .ref 130), (1, .int a0)] [] (S56_X12_sign a0 I J) J R n g
                refine w_iload_n ok dX12_sign_106 1 rfl ?_
                refine w_bipush (v := 60) ok dX12_sign_107 (by decide) ?_
                refine w_icmp_ne (tgt := 128) ok dX12_sign_109 (by decide) (fun h => absurd c114 h) (fun _ => ?_)
                refine w_aload_n ok dX12_sign_112 0 rfl ?_
                refine w_cV (As := []) ok dX12_sign_113 iX12_here (lX12_181 rfl) (rcv cls12 (congrArg Prod.fst s_130)) (ltM hnn (by decide)) (c_X12_here ro hnn   (hp38 c1 c29 c57 c85 c113 c114 c120)) (by decide) rfl (Nat.le_of_ble_eq_true rfl) ?_
                refine w_bipush (v := 62) ok dX12_sign_116 (by decide) ?_
                refine w_icmp_ne (tgt := 128) ok dX12_sign_118 (by decide) (fun c130 => ?_) (fun c130 => ?_)
                · skip
                  refine w_iload_n ok dX12_sign_128 1 rfl ?_
                  refine w_bipush (v := 62) ok dX12_sign_129 (by decide) ?_
                  refine w_icmp_ne (tgt := 150) ok dX12_sign_131 (by decide) (fun c131 => ?_) (fun c131 => ?_)
                  · skip
                    refine w_aload_n ok dX12_sign_150 0 rfl ?_
                    refine w_getI ok dX12_sign_151 (fX12_198 rfl) (congrArg Prod.fst s_130) rfl (ltM hnn (by decide)) ?_
                    refine w_sipush (v := 256) ok dX12_sign_154 (by decide) ?_
                    refine w_icmp_lt (tgt := 170) ok dX12_sign_157 (by decide) (fun c132 => ?_) (fun c132 => ?_)
                    · skip
                      exact w_vret ok fin dX12_sign_170 rfl (by unfold FI_X12_sign; simp only [if_neg c1]; simp only [if_neg c29]; simp only [if_neg c57]; simp only [if_neg c85]; simp only [if_pos c113]; simp only [if_pos c114]; simp only [if_pos c120]; simp only [if_neg c130]; simp only [if_neg c131]; simp only [if_pos c132]; exact Pd.i)
                    · skip
                      refine w_aload_n ok dX12_sign_160 0 rfl ?_
                      refine w_dup ok dX12_sign_161 rfl ?_
                      refine w_getI ok dX12_sign_162 (fX12_175 rfl) (congrArg Prod.fst s_130) rfl (ltM hnn (by decide)) ?_
                      refine w_iconst (v := 1) ok dX12_sign_165 (by decide) ?_
                      refine w_iadd ok dX12_sign_166 ?_
                      refine w_putI ok dX12_sign_167 (fwX12_175 rfl) (congrArg Prod.fst s_130) rfl (ltM hnn (by decide)) ?_
                      exact w_vret ok fin dX12_sign_170 rfl (by unfold FI_X12_sign; simp only [if_neg c1]; simp only [if_neg c29]; simp only [if_neg c57]; simp only [if_neg c85]; simp only [if_pos c113]; simp only [if_pos c114]; simp only [if_pos c120]; simp only [if_neg c130]; simp only [if_neg c131]; simp only [if_neg c132]; exact Pd.i)
                  · skip
                    refine w_aload_n ok dX12_sign_134 0 rfl ?_
                    refine w_cV (As := []) ok dX12_sign_135 iX12_here (lX12_181 rfl) (rcv cls12 (congrArg Prod.fst s_130)) (ltM hnn (by decide)) (c_X12_here ro hnn   (hp39 c1 c29 c57 c85 c113 c114 c120 c130 c131)) (by decide) rfl (Nat.le_of_ble_eq_true rfl) ?_
                    refine w_bipush (v := 61) ok dX12_sign_138 (by decide) ?_
                    refine w_icmp_ne (tgt := 150) ok dX12_sign_140 (by decide) (fun c133 => ?_) (fun c133 => ?_)
                    · skip
                      refine w_aload_n ok dX12_sign_150 0 rfl ?_
                      refine w_getI ok dX12_sign_151 (fX12_198 rfl) (congrArg Prod.fst s_130) rfl (ltM hnn (by decide)) ?_
                      refine w_sipush (v := 256) ok dX12_sign_154 (by decide) ?_
                      refine w_icmp_lt (tgt := 170) ok dX12_sign_157 (by decide) (fun c134 => ?_) (fun c134 => ?_)
                      · skip
                        exact w_vret ok fin dX12_sign_170 rfl (by unfold FI_X12_sign; simp only [if_neg c1]; simp only [if_neg c29]; simp only [if_neg c57]; simp only [if_neg c85]; simp only [if_pos c113]; simp only [if_pos c114]; simp only [if_pos c120]; simp only [if_neg c130]; simp only [if_pos c131]; simp only [if_neg c133]; simp only [if_pos c134]; exact Pd.i)
                      · skip
                        refine w_aload_n ok dX12_sign_160 0 rfl ?_
                        refine w_dup ok dX12_sign_161 rfl ?_
                        refine w_getI ok dX12_sign_162 (fX12_175 rfl) (congrArg Prod.fst s_130) rfl (ltM hnn (by decide)) ?_
                        refine w_iconst (v := 1) ok dX12_sign_165 (by decide) ?_
                        refine w_iadd ok dX12_sign_166 ?_
                        refine w_putI ok dX12_sign_167 (fwX12_175 rfl) (congrArg Prod.fst s_130) rfl (ltM hnn (by decide)) ?_
                        exact w_vret ok fin dX12_sign_170 rfl (by unfold FI_X12_sign; simp only [if_neg c1]; simp only [if_neg c29]; simp only [if_neg c57]; simp only [if_neg c85]; simp only [if_pos c113]; simp only [if_pos c114]; simp only [if_pos c120]; simp only [if_neg c130]; simp only [if_pos c131]; simp only [if_neg c133]; simp only [if_neg c134]; exact Pd.i)
                    · skip
                      refine w_aload_n ok dX12_sign_143 0 rfl ?_
                      refine w_sipush (v := 258) ok dX12_sign_144 (by decide) ?_
                      refine w_putI ok dX12_sign_147 (fwX12_198 rfl) (congrArg Prod.fst s_130) rfl (ltM hnn (by decide)) ?_
                      refine w_aload_n ok dX12_sign_150 0 rfl ?_
                      refine w_getI ok dX12_sign_151 (fX12_198 rfl) (congrArg Prod.fst s_130) rfl (ltM hnn (by decide)) ?_
                      refine w_sipush (v := 256) ok dX12_sign_154 (by decide) ?_
                      refine w_icmp_lt (tgt := 170) ok dX12_sign_157 (by decide) (fun c135 => ?_) (fun c135 => ?_)
                      · skip
                        exact w_vret ok fin dX12_sign_170 rfl (by unfold FI_X12_sign; simp only [if_neg c1]; simp only [if_neg c29]; simp only [if_neg c57]; simp only [if_neg c85]; simp only [if_pos c113]; simp only [if_pos c114]; simp only [if_pos c120]; simp only [if_neg c130]; simp only [if_pos c131]; simp only [if_pos c133]; simp only [if_pos c135]; exact Pd.i)
                      · skip
                        refine w_aload_n ok dX12_sign_160 0 rfl ?_
                        refine w_dup ok dX12_sign_161 rfl ?_
                        refine w_getI ok dX12_sign_162 (fX12_175 rfl) (congrArg Prod.fst s_130) rfl (ltM hnn (by decide)) ?_
                        refine w_iconst (v := 1) ok dX12_sign_165 (by decide) ?_
                        refine w_iadd ok dX12_sign_166 ?_
                        refine w_putI ok dX12_sign_167 (fwX12_175 rfl) (congrArg Prod.fst s_130) rfl (ltM hnn (by decide)) ?_
                        show WK K 0 0 170 [(0, .ref 130), (1, .int a0)] [] (S57_X12_sign a0 I J) J R n g
                        exact w_vret ok fin dX12_sign_170 rfl (by unfold FI_X12_sign; simp only [if_neg c1]; simp only [if_neg c29]; simp only [if_neg c57]; simp only [if_neg c85]; simp only [if_pos c113]; simp only [if_pos c114]; simp only [if_pos c120]; simp only [if_neg c130]; simp only [if_pos c131]; simp only [if_pos c133]; simp only [if_neg c135]; exact Pd.i)
                · skip
                  refine w_aload_n ok dX12_sign_121 0 rfl ?_
                  refine w_sipush (v := 257) ok dX12_sign_122 (by decide) ?_
                  refine w_putI ok dX12_sign_125 (fwX12_198 rfl) (congrArg Prod.fst s_130) rfl (ltM hnn (by decide)) ?_
                  refine w_iload_n ok dX12_sign_128 1 rfl ?_
                  refine w_bipush (v := 62) ok dX12_sign_129 (by decide) ?_
                  refine w_icmp_ne (tgt := 150) ok dX12_sign_131 (by decide) (fun c136 => ?_) (fun c136 => ?_)
                  · skip
                    refine w_aload_n ok dX12_sign_150 0 rfl ?_
                    refine w_getI ok dX12_sign_151 (fX12_198 rfl) (congrArg Prod.fst s_130) rfl (ltM hnn (by decide)) ?_
                    refine w_sipush (v := 256) ok dX12_sign_154 (by decide) ?_
                    refine w_icmp_lt (tgt := 170) ok dX12_sign_157 (by decide) (fun c137 => ?_) (fun c137 => ?_)
                    · skip
                      exact w_vret ok fin dX12_sign_170 rfl (by unfold FI_X12_sign; simp only [if_neg c1]; simp only [if_neg c29]; simp only [if_neg c57]; simp only [if_neg c85]; simp only [if_pos c113]; simp only [if_pos c114]; simp only [if_pos c120]; simp only [if_pos c130]; simp only [if_neg c136]; simp only [if_pos c137]; exact Pd.i)
                    · skip
                      refine w_aload_n ok dX12_sign_160 0 rfl ?_
                      refine w_dup ok dX12_sign_161 rfl ?_
                      refine w_getI ok dX12_sign_162 (fX12_175 rfl) (congrArg Prod.fst s_130) rfl (ltM hnn (by decide)) ?_
                      refine w_iconst (v := 1) ok dX12_sign_165 (by decide) ?_
                      refine w_iadd ok dX12_sign_166 ?_
                      refine w_putI ok dX12_sign_167 (fwX12_175 rfl) (congrArg Prod.fst s_130) rfl (ltM hnn (by decide)) ?_
                      show WK K 0 0 170 [(0, .ref 130), (1, .int a0)] [] (S58_X12_sign a0 I J) J R n g
                      exact w_vret ok fin dX12_sign_170 rfl (by unfold FI_X12_sign; simp only [if_neg c1]; simp only [if_neg c29]; simp only [if_neg c57]; simp only [if_neg c85]; simp only [if_pos c113]; simp only [if_pos c114]; simp only [if_pos c120]; simp only [if_pos c130]; simp only [if_neg c136]; simp only [if_neg c137]; exact Pd.i)
                  · skip
                    refine w_aload_n ok dX12_sign_134 0 rfl ?_
                    refine w_cV (As := []) ok dX12_sign_135 iX12_here (lX12_181 rfl) (rcv cls12 (congrArg Prod.fst s_130)) (ltM hnn (by decide)) (c_X12_here ro hnn   (hp40 c1 c29 c57 c85 c113 c114 c120 c130 c136)) (by decide) rfl (Nat.le_of_ble_eq_true rfl) ?_
                    refine w_bipush (v := 61) ok dX12_sign_138 (by decide) ?_
                    refine w_icmp_ne (tgt := 150) ok dX12_sign_140 (by decide) (fun c138 => ?_) (fun c138 => ?_)
                    · skip
                      refine w_aload_n ok dX12_sign_150 0 rfl ?_
                      refine w_getI ok dX12_sign_151 (fX12_198 rfl) (congrArg Prod.fst s_130) rfl (ltM hnn (by decide)) ?_
                      refine w_sipush (v := 256) ok dX12_sign_154 (by decide) ?_
                      refine w_icmp_lt (tgt := 170) ok dX12_sign_157 (by decide) (fun c139 => ?_) (fun c139 => ?_)
                      · skip
                        exact w_vret ok fin dX12_sign_170 rfl (by unfold FI_X12_sign; simp only [if_neg c1]; simp only [if_neg c29]; simp only [if_neg c57]; simp only [if_neg c85]; simp only [if_pos c113]; simp only [if_pos c114]; simp only [if_pos c120]; simp only [if_pos c130]; simp only [if_pos c136]; simp only [if_neg c138]; simp only [if_pos c139]; exact Pd.i)
                      · skip
                        refine w_aload_n ok dX12_sign_160 0 rfl ?_
                        refine w_dup ok dX12_sign_161 rfl ?_
                        refine w_getI ok dX12_sign_162 (fX12_175 rfl) (congrArg Prod.fst s_130) rfl (ltM hnn (by decide)) ?_
                        refine w_iconst (v := 1) ok dX12_sign_165 (by decide) ?_
                        refine w_iadd ok dX12_sign_166 ?_
                        refine w_putI ok dX12_sign_167 (fwX12_175 rfl) (congrArg Prod.fst s_130) rfl (ltM hnn (by decide)) ?_
                        show WK K 0 0 170 [(0, .ref 130), (1, .int a0)] [] (S59_X12_sign a0 I J) J R n g
                        exact w_vret ok fin dX12_sign_170 rfl (by unfold FI_X12_sign; simp only [if_neg c1]; simp only [if_neg c29]; simp only [if_neg c57]; simp only [if_neg c85]; simp only [if_pos c113]; simp only [if_pos c114]; simp only [if_pos c120]; simp only [if_pos c130]; simp only [if_pos c136]; simp only [if_neg c138]; simp only [if_neg c139]; exact Pd.i)
                    · skip
                      refine w_aload_n ok dX12_sign_143 0 rfl ?_
                      refine w_sipush (v := 258) ok dX12_sign_144 (by decide) ?_
                      refine w_putI ok dX12_sign_147 (fwX12_198 rfl) (congrArg Prod.fst s_130) rfl (ltM hnn (by decide)) ?_
                      refine w_aload_n ok dX12_sign_150 0 rfl ?_
                      refine w_getI ok dX12_sign_151 (fX12_198 rfl) (congrArg Prod.fst s_130) rfl (ltM hnn (by decide)) ?_
                      refine w_sipush (v := 256) ok dX12_sign_154 (by decide) ?_
                      refine w_icmp_lt (tgt := 170) ok dX12_sign_157 (by decide) (fun c140 => ?_) (fun c140 => ?_)
                      · skip
                        exact w_vret ok fin dX12_sign_170 rfl (by unfold FI_X12_sign; simp only [if_neg c1]; simp only [if_neg c29]; simp only [if_neg c57]; simp only [if_neg c85]; simp only [if_pos c113]; simp only [if_pos c114]; simp only [if_pos c120]; simp only [if_pos c130]; simp only [if_pos c136]; simp only [if_pos c138]; simp only [if_pos c140]; exact Pd.i)
                      · skip
                        refine w_aload_n ok dX12_sign_160 0 rfl ?_
                        refine w_dup ok dX12_sign_161 rfl ?_
                        refine w_getI ok dX12_sign_162 (fX12_175 rfl) (congrArg Prod.fst s_130) rfl (ltM hnn (by decide)) ?_
                        refine w_iconst (v := 1) ok dX12_sign_165 (by decide) ?_
                        refine w_iadd ok dX12_sign_166 ?_
                        refine w_putI ok dX12_sign_167 (fwX12_175 rfl) (congrArg Prod.fst s_130) rfl (ltM hnn (by decide)) ?_
                        show WK K 0 0 170 [(0, .ref 130), (1, .int a0)] [] (S60_X12_sign a0 I J) J R n g
                        exact w_vret ok fin dX12_sign_170 rfl (by unfold FI_X12_sign; simp only [if_neg c1]; simp only [if_neg c29]; simp only [if_neg c57]; simp only [if_neg c85]; simp only [if_pos c113]; simp only [if_pos c114]; simp only [if_pos c120]; simp only [if_pos c130]; simp only [if_pos c136]; simp only [if_pos c138]; simp only [if_neg c140]; exact Pd.i)
          · skip
            refine w_iload_n ok dX12_sign_41 1 rfl ?_
            refine w_bipush (v := 42) ok dX12_sign_42 (by decide) ?_
            refine w_icmp_eq (tgt := 71) ok dX12_sign_44 (by decide) (fun c141 => ?_) (fun c141 => ?_)
            · skip
              refine w_iconst (v := 3) ok dX12_sign_71 (by decide) ?_
              refine w_goto (tgt := 76) ok dX12_sign_72 (by decide) ?_
              refine w_putI ok dX12_sign_76 (fwX12_188 rfl) (congrArg Prod.fst s_130) rfl (ltM hnn (by decide)) ?_
              refine w_aload_n ok dX12_sign_79 0 rfl ?_
              refine w_iload_n ok dX12_sign_80 1 rfl ?_
              refine w_putI ok dX12_sign_81 (fwX12_198 rfl) (congrArg Prod.fst s_130) rfl (ltM hnn (by decide)) ?_
              refine w_iload_n ok dX12_sign_84 1 rfl ?_
              refine w_bipush (v := 60) ok dX12_sign_85 (by decide) ?_
              refine w_icmp_ne (tgt := 106) ok dX12_sign_87 (by decide) (fun c142 => ?_) (fun c142 => ?_)
              · skip
                refine w_iload_n ok dX12_sign_106 1 rfl ?_
                refine w_bipush (v := 60) ok dX12_sign_107 (by decide) ?_
                refine w_icmp_ne (tgt := 128) ok dX12_sign_109 (by decide) (fun _ => ?_) (fun h => absurd h c142)
                refine w_iload_n ok dX12_sign_128 1 rfl ?_
                refine w_bipush (v := 62) ok dX12_sign_129 (by decide) ?_
                refine w_icmp_ne (tgt := 150) ok dX12_sign_131 (by decide) (fun c143 => ?_) (fun c143 => ?_)
                · skip
                  refine w_aload_n ok dX12_sign_150 0 rfl ?_
                  refine w_getI ok dX12_sign_151 (fX12_198 rfl) (congrArg Prod.fst s_130) rfl (ltM hnn (by decide)) ?_
                  refine w_sipush (v := 256) ok dX12_sign_154 (by decide) ?_
                  refine w_icmp_lt (tgt := 170) ok dX12_sign_157 (by decide) (fun c144 => ?_) (fun c144 => ?_)
                  · skip
                    exact w_vret ok fin dX12_sign_170 rfl (by unfold FI_X12_sign; simp only [if_neg c1]; simp only [if_neg c29]; simp only [if_neg c57]; simp only [if_neg c85]; simp only [if_neg c113]; simp only [if_pos c141]; simp only [if_neg c142]; simp only [if_neg c143]; simp only [if_pos c144]; exact Pd.i)
                  · skip
                    refine w_aload_n ok dX12_sign_160 0 rfl ?_
                    refine w_dup ok dX12_sign_161 rfl ?_
                    refine w_getI ok dX12_sign_162 (fX12_175 rfl) (congrArg Prod.fst s_130) rfl (ltM hnn (by decide)) ?_
                    refine w_iconst (v := 1) ok dX12_sign_165 (by decide) ?_
                    refine w_iadd ok dX12_sign_166 ?_
                    refine w_putI ok dX12_sign_167 (fwX12_175 rfl) (congrArg Prod.fst s_130) rfl (ltM hnn (by decide)) ?_
                    show WK K 0 0 170 [(0, .ref 130), (1, .int a0)] [] (S61_X12_sign a0 I J) J R n g
                    exact w_vret ok fin dX12_sign_170 rfl (by unfold FI_X12_sign; simp only [if_neg c1]; simp only [if_neg c29]; simp only [if_neg c57]; simp only [if_neg c85]; simp only [if_neg c113]; simp only [if_pos c141]; simp only [if_neg c142]; simp only [if_neg c143]; simp only [if_neg c144]; exact Pd.i)
                · skip
                  refine w_aload_n ok dX12_sign_134 0 rfl ?_
                  refine w_cV (As := []) ok dX12_sign_135 iX12_here (lX12_181 rfl) (rcv cls12 (congrArg Prod.fst s_130)) (ltM hnn (by decide)) (c_X12_here ro hnn   (hp41 c1 c29 c57 c85 c113 c141 c142 c143)) (by decide) rfl (Nat.le_of_ble_eq_true rfl) ?_
                  refine w_bipush (v := 61) ok dX12_sign_138 (by decide) ?_
                  refine w_icmp_ne (tgt := 150) ok dX12_sign_140 (by decide) (fun c145 => ?_) (fun c145 => ?_)
                  · skip
                    refine w_aload_n ok dX12_sign_150 0 rfl ?_
                    refine w_getI ok dX12_sign_151 (fX12_198 rfl) (congrArg Prod.fst s_130) rfl (ltM hnn (by decide)) ?_
                    refine w_sipush (v := 256) ok dX12_sign_154 (by decide) ?_
                    refine w_icmp_lt (tgt := 170) ok dX12_sign_157 (by decide) (fun c146 => ?_) (fun c146 => ?_)
                    · skip
                      exact w_vret ok fin dX12_sign_170 rfl (by unfold FI_X12_sign; simp only [if_neg c1]; simp only [if_neg c29]; simp only [if_neg c57]; simp only [if_neg c85]; simp only [if_neg c113]; simp only [if_pos c141]; simp only [if_neg c142]; simp only [if_pos c143]; simp only [if_neg c145]; simp only [if_pos c146]; exact Pd.i)
                    · skip
                      refine w_aload_n ok dX12_sign_160 0 rfl ?_
                      refine w_dup ok dX12_sign_161 rfl ?_
                      refine w_getI ok dX12_sign_162 (fX12_175 rfl) (congrArg Prod.fst s_130) rfl (ltM hnn (by decide)) ?_
                      refine w_iconst (v := 1) ok dX12_sign_165 (by decide) ?_
                      refine w_iadd ok dX12_sign_166 ?_
                      refine w_putI ok dX12_sign_167 (fwX12_175 rfl) (congrArg Prod.fst s_130) rfl (ltM hnn (by decide)) ?_
                      show WK K 0 0 170 [(0, .ref 130), (1, .int a0)] [] (S62_X12_sign a0 I J) J R n g
                      exact w_vret ok fin dX12_sign_170 rfl (by unfold FI_X12_sign; simp only [if_neg c1]; simp only [if_neg c29]; simp only [if_neg c57]; simp only [if_neg c85]; simp only [if_neg c113]; simp only [if_pos c141]; simp only [if_neg c142]; simp only [if_pos c143]; simp only [if_neg c145]; simp only [if_neg c146]; exact Pd.i)
                  · skip
                    refine w_aload_n ok dX12_sign_143 0 rfl ?_
                    refine w_sipush (v := 258) ok dX12_sign_144 (by decide) ?_
                    refine w_putI ok dX12_sign_147 (fwX12_198 rfl) (congrArg Prod.fst s_130) rfl (ltM hnn (by decide)) ?_
                    show WK K 0 0 150 [(0, .ref 130), (1, .int a0)] [] (S63_X12_sign a0 I J) J R n g
                    refine w_aload_n ok dX12_sign_150 0 rfl ?_
                    refine w_getI ok dX12_sign_151 (fX12_198 rfl) (congrArg Prod.fst s_130) rfl (ltM hnn (by decide)) ?_
                    refine w_sipush (v := 256) ok dX12_sign_154 (by decide) ?_
                    refine w_icmp_lt (tgt := 170) ok dX12_sign_157 (by decide) (fun c147 => ?_) (fun c147 => ?_)
                    · skip
                      exact w_vret ok fin dX12_sign_170 rfl (by unfold FI_X12_sign; simp only [if_neg c1]; simp only [if_neg c29]; simp only [if_neg c57]; simp only [if_neg c85]; simp only [if_neg c113]; simp only [if_pos c141]; simp only [if_neg c142]; simp only [if_pos c143]; simp only [if_pos c145]; simp only [if_pos c147]; exact Pd.i)
                    · skip
                      refine w_aload_n ok dX12_sign_160 0 rfl ?_
                      refine w_dup ok dX12_sign_161 rfl ?_
                      refine w_getI ok dX12_sign_162 (fX12_175 rfl) (congrArg Prod.fst s_130) rfl (ltM hnn (by decide)) ?_
                      refine w_iconst (v := 1) ok dX12_sign_165 (by decide) ?_
                      refine w_iadd ok dX12_sign_166 ?_
                      refine w_putI ok dX12_sign_167 (fwX12_175 rfl) (congrArg Prod.fst s_130) rfl (ltM hnn (by decide)) ?_
                      exact w_vret ok fin dX12_sign_170 rfl (by unfold FI_X12_sign; simp only [if_neg c1]; simp only [if_neg c29]; simp only [if_neg c57]; simp only [if_neg c85]; simp only [if_neg c113]; simp only [if_pos c141]; simp only [if_neg c142]; simp only [if_pos c143]; simp only [if_pos c145]; simp only [if_neg c147]; exact Pd.i)
              · skip
                refine w_aload_n ok dX12_sign_90 0 rfl ?_
                refine w_cV (As := []) ok dX12_sign_91 iX12_here (lX12_181 rfl) (rcv cls12 (congrArg Prod.fst s_130)) (ltM hnn (by decide)) (c_X12_here ro hnn   (hp42 c1 c29 c57 c85 c113 c141 c142)) (by decide) rfl (Nat.le_of_ble_eq_true rfl) ?_
                refine w_bipush (v := 61) ok dX12_sign_94 (by decide) ?_
                refine w_icmp_ne (tgt := 106) ok dX12_sign_96 (by decide) (fun c148 => ?_) (fun c148 => ?_)
                · skip
                  refine w_iload_n ok dX12_sign_106 1 rfl ?_
                  refine w_bipush (v := 60) ok dX12_sign_107 (by decide) ?_
                  refine w_icmp_ne (tgt := 128) ok dX12_sign_109 (by decide) (fun h => absurd c142 h) (fun _ => ?_)
                  refine w_aload_n ok dX12_sign_112 0 rfl ?_
                  refine w_cV (As := []) ok dX12_sign_113 iX12_here (lX12_181 rfl) (rcv cls12 (congrArg Prod.fst s_130)) (ltM hnn (by decide)) (c_X12_here ro hnn   (hp43 c1 c29 c57 c85 c113 c141 c142 c148)) (by decide) rfl (Nat.le_of_ble_eq_true rfl) ?_
                  refine w_bipush (v := 62) ok dX12_sign_116 (by decide) ?_
                  refine w_icmp_ne (tgt := 128) ok dX12_sign_118 (by decide) (fun c149 => ?_) (fun c149 => ?_)
                  · skip
                    refine w_iload_n ok dX12_sign_128 1 rfl ?_
                    refine w_bipush (v := 62) ok dX12_sign_129 (by decide) ?_
                    refine w_icmp_ne (tgt := 150) ok dX12_sign_131 (by decide) (fun c150 => ?_) (fun c150 => ?_)
                    · skip
                      refine w_aload_n ok dX12_sign_150 0 rfl ?_
                      refine w_getI ok dX12_sign_151 (fX12_198 rfl) (congrArg Prod.fst s_130) rfl (ltM hnn (by decide)) ?_
                      refine w_sipush (v := 256) ok dX12_sign_154 (by decide) ?_
                      refine w_icmp_lt (tgt := 170) ok dX12_sign_157 (by decide) (fun c151 => ?_) (fun c151 => ?_)
                      · skip
                        exact w_vret ok fin dX12_sign_170 rfl (by unfold FI_X12_sign; simp only [if_neg c1]; simp only [if_neg c29]; simp only [if_neg c57]; simp only [if_neg c85]; simp only [if_neg c113]; simp only [if_pos c141]; simp only [if_pos c142]; simp only [if_neg c148]; simp only [if_neg c149]; simp only [if_neg c150]; simp only [if_pos c151]; exact Pd.i)
                      · skip
                        refine w_aload_n ok dX12_sign_160 0 rfl ?_
                        refine w_dup ok dX12_sign_161 rfl ?_
                        refine w_getI ok dX12_sign_162 (fX12_175 rfl) (congrArg Prod.fst s_130) rfl (ltM hnn (by decide)) ?_
                        refine w_iconst (v := 1) ok dX12_sign_165 (by decide) ?_
                        refine w_iadd ok dX12_sign_166 ?_
                        refine w_putI ok dX12_sign_167 (fwX12_175 rfl) (congrArg Prod.fst s_130) rfl (ltM hnn (by decide)) ?_
                        show WK K 0 0 170 [(0, .ref 130), (1, .int a0)] [] (S64_X12_sign a0 I J) J R n g
                        exact w_vret ok fin dX12_sign_170 rfl (by unfold FI_X12_sign; simp only [if_neg c1]; simp only [if_neg c29]; simp only [if_neg c57]; simp only [if_neg c85]; simp only [if_neg c113]; simp only [if_pos c141]; simp only [if_pos c142]; simp only [if_neg c148]; simp only [if_neg c149]; simp only [if_neg c150]; simp only [if_neg c151]; exact Pd.i)
                    · skip
                      refine w_aload_n ok dX12_sign_134 0 rfl ?_
                      refine w_cV (As := []) ok dX12_sign_135 iX12_here (lX12_181 rfl) (rcv cls12 (congrArg Prod.fst s_130)) (ltM hnn (by decide)) (c_X12_here ro hnn   (hp44 c1 c29 c57 c85 c113 c141 c142 c148 c149 c150)) (by decide) rfl (Nat.le_of_ble_eq_true rfl) ?_
                      refine w_bipush (v := 61) ok dX12_sign_138 (by decide) ?_
                      refine w_icmp_ne (tgt := 150) ok dX12_sign_140 (by decide) (fun _ => ?_) (fun h => absurd h c148)
                      refine w_aload_n ok dX12_sign_150 0 rfl ?_
                      refine w_getI ok dX12_sign_151 (fX12_198 rfl) (congrArg Prod.fst s_130) rfl (ltM hnn (by decide)) ?_
                      refine w_sipush (v := 256) ok dX12_sign_154 (by decide) ?_
                      refine w_icmp_lt (tgt := 170) ok dX12_sign_157 (by decide) (fun c152 => ?_) (fun c152 => ?_)
                      · skip
                        exact w_vret ok fin dX12_sign_170 rfl (by unfold FI_X12_sign; simp only [if_neg c1]; simp only [if_neg c29]; simp only [if_neg c57]; simp only [if_neg c85]; simp only [if_neg c113]; simp only [if_pos c141]; simp only [if_pos c142]; simp only [if_neg c148]; simp only [if_neg c149]; simp only [if_pos c150]; simp only [if_pos c152]; exact Pd.i)
                      · skip
                        refine w_aload_n ok dX12_sign_160 0 rfl ?_
                        refine w_dup ok dX12_sign_161 rfl ?_
                        refine w_getI ok dX12_sign_162 (fX12_175 rfl) (congrArg Prod.fst s_130) rfl (ltM hnn (by decide)) ?_
                        refine w_iconst (v := 1) ok dX12_sign_165 (by decide) ?_
                        refine w_iadd ok dX12_sign_166 ?_
                        refine w_putI ok dX12_sign_167 (fwX12_175 rfl) (congrArg Prod.fst s_130) rfl (ltM hnn (by decide)) ?_
                        show WK K 0 0 170 [(0, .ref 130), (1, .int a0)] [] (S65_X12_sign a0 I J) J R n g
                        exact w_vret ok fin dX12_sign_170 rfl (by unfold FI_X12_sign; simp only [if_neg c1]; simp only [if_neg c29]; simp only [if_neg c57]; simp only [if_neg c85]; simp only [if_neg c113]; simp only [if_pos c141]; simp only [if_pos c142]; simp only [if_neg c148]; simp only [if_neg c149]; simp only [if_pos c150]; simp only [if_neg c152]; exact Pd.i)
                  · skip
                    refine w_aload_n ok dX12_sign_121 0 rfl ?_
                    refine w_sipush (v := 257) ok dX12_sign_122 (by decide) ?_
                    refine w_putI ok dX12_sign_125 (fwX12_198 rfl) (congrArg Prod.fst s_130) rfl (ltM hnn (by decide)) ?_
                    show WK K 0 0 128 [(0, .ref 130), (1, .int a0)] [] (S66_X12_sign a0 I J) J R n g
                    refine w_iload_n ok dX12_sign_128 1 rfl ?_
                    refine w_bipush (v := 62) ok dX12_sign_129 (by decide) ?_
                    refine w_icmp_ne (tgt := 150) ok dX12_sign_131 (by decide) (fun c153 => ?_) (fun c153 => ?_)
                    · skip
                      refine w_aload_n ok dX12_sign_150 0 rfl ?_
                      refine w_getI ok dX12_sign_151 (fX12_198 rfl) (congrArg Prod.fst s_130) rfl (ltM hnn (by decide)) ?_
                      refine w_sipush (v := 256) ok dX12_sign_154 (by decide) ?_
                      refine w_icmp_lt (tgt := 170) ok dX12_sign_157 (by decide) (fun c154 => ?_) (fun c154 => ?_)
                      · skip
                        exact w_vret ok fin dX12_sign_170 rfl (by unfold FI_X12_sign; simp only [if_neg c1]; simp only [if_neg c29]; simp only [if_neg c57]; simp only [if_neg c85]; simp only [if_neg c113]; simp only [if_pos c141]; simp only [if_pos c142]; simp only [if_neg c148]; simp only [if_pos c149]; simp only [if_neg c153]; simp only [if_pos c154]; exact Pd.i)
                      · skip
                        refine w_aload_n ok dX12_sign_160 0 rfl ?_
                        refine w_dup ok dX12_sign_161 rfl ?_
                        refine w_getI ok dX12_sign_162 (fX12_175 rfl) (congrArg Prod.fst s_130) rfl (ltM hnn (by decide)) ?_
                        refine w_iconst (v := 1) ok dX12_sign_165 (by decide) ?_
                        refine w_iadd ok dX12_sign_166 ?_
                        refine w_putI ok dX12_sign_167 (fwX12_175 rfl) (congrArg Prod.fst s_130) rfl (ltM hnn (by decide)) ?_
                        exact w_vret ok fin dX12_sign_170 rfl (by unfold FI_X12_sign; simp only [if_neg c1]; simp only [if_neg c29]; simp only [if_neg c57]; simp only [if_neg c85]; simp only [if_neg c113]; simp only [if_pos c141]; simp only [if_pos c142]; simp only [if_neg c148]; simp only [if_pos c149]; simp only [if_neg c153]; simp only [if_neg c154]; exact Pd.i)
                    · skip
                      refine w_aload_n ok dX12_sign_134 0 rfl ?_
                      refine w_cV (As := []) ok dX12_sign_135 iX12_here (lX12_181 rfl) (rcv cls12 (congrArg Prod.fst s_130)) (ltM hnn (by decide)) (c_X12_here ro hnn   (hp45 c1 c29 c57 c85 c113 c141 c142 c148 c149 c153)) (by decide) rfl (Nat.le_of_ble_eq_true rfl) ?_
                      refine w_bipush (v := 61) ok dX12_sign_138 (by decide) ?_
                      refine w_icmp_ne (tgt := 150) ok dX12_sign_140 (by decide) (fun c155 => ?_) (fun c155 => ?_)
                      · skip
                        refine w_aload_n ok dX12_sign_150 0 rfl ?_
                        refine w_getI ok dX12_sign_151 (fX12_198 rfl) (congrArg Prod.fst s_130) rfl (ltM hnn (by decide)) ?_
                        refine w_sipush (v := 256) ok dX12_sign_154 (by decide) ?_
                        refine w_icmp_lt (tgt := 170) ok dX12_sign_157 (by decide) (fun c156 => ?_) (fun c156 => ?_)
                        · skip
                          exact w_vret ok fin dX12_sign_170 rfl (by unfold FI_X12_sign; simp only [if_neg c1]; simp only [if_neg c29]; simp only [if_neg c57]; simp only [if_neg c85]; simp only [if_neg c113]; simp only [if_pos c141]; simp only [if_pos c142]; simp only [if_neg c148]; simp only [if_pos c149]; simp only [if_pos c153]; simp only [if_neg c155]; simp only [if_pos c156]; exact Pd.i)
                        · skip
                          refine w_aload_n ok dX12_sign_160 0 rfl ?_
                          refine w_dup ok dX12_sign_161 rfl ?_
                          refine w_getI ok dX12_sign_162 (fX12_175 rfl) (congrArg Prod.fst s_130) rfl (ltM hnn (by decide)) ?_
                          refine w_iconst (v := 1) ok dX12_sign_165 (by decide) ?_
                          refine w_iadd ok dX12_sign_166 ?_
                          refine w_putI ok dX12_sign_167 (fwX12_175 rfl) (congrArg Prod.fst s_130) rfl (ltM hnn (by decide)) ?_
                          exact w_vret ok fin dX12_sign_170 rfl (by unfold FI_X12_sign; simp only [if_neg c1]; simp only [if_neg c29]; simp only [if_neg c57]; simp only [if_neg c85]; simp only [if_neg c113]; simp only [if_pos c141]; simp only [if_pos c142]; simp only [if_neg c148]; simp only [if_pos c149]; simp only [if_pos c153]; simp only [if_neg c155]; simp only [if_neg c156]; exact Pd.i)
                      · skip
                        refine w_aload_n ok dX12_sign_143 0 rfl ?_
                        refine w_sipush (v := 258) ok dX12_sign_144 (by decide) ?_
                        refine w_putI ok dX12_sign_147 (fwX12_198 rfl) (congrArg Prod.fst s_130) rfl (ltM hnn (by decide)) ?_
                        refine w_aload_n ok dX12_sign_150 0 rfl ?_
                        refine w_getI ok dX12_sign_151 (fX12_198 rfl) (congrArg Prod.fst s_130) rfl (ltM hnn (by decide)) ?_
                        refine w_sipush (v := 256) ok dX12_sign_154 (by decide) ?_
                        refine w_icmp_lt (tgt := 170) ok dX12_sign_157 (by decide) (fun c157 => ?_) (fun c157 => ?_)
                        · skip
                          exact w_vret ok fin dX12_sign_170 rfl (by unfold FI_X12_sign; simp only [if_neg c1]; simp only [if_neg c29]; simp only [if_neg c57]; simp only [if_neg c85]; simp only [if_neg c113]; simp only [if_pos c141]; simp only [if_pos c142]; simp only [if_neg c148]; simp only [if_pos c149]; simp only [if_pos c153]; simp only [if_pos c155]; simp only [if_pos c157]; exact Pd.i)
                        · skip
                          refine w_aload_n ok dX12_sign_160 0 rfl ?_
                          refine w_dup ok dX12_sign_161 rfl ?_
                          refine w_getI ok dX12_sign_162 (fX12_175 rfl) (congrArg Prod.fst s_130) rfl (ltM hnn (by decide)) ?_
                          refine w_iconst (v := 1) ok dX12_sign_165 (by decide) ?_
                          refine w_iadd ok dX12_sign_166 ?_
                          refine w_putI ok dX12_sign_167 (fwX12_175 rfl) (congrArg Prod.fst s_130) rfl (ltM hnn (by decide)) ?_
                          show WK K 0 0 170 [(0, .ref 130), (1, .int a0)] [] (S67_X12_sign a0 I J) J R n g
                          exact w_vret ok fin dX12_sign_170 rfl (by unfold FI_X12_sign; simp only [if_neg c1]; simp only [if_neg c29]; simp only [if_neg c57]; simp only [if_neg c85]; simp only [if_neg c113]; simp only [if_pos c141]; simp only [if_pos c142]; simp only [if_neg c148]; simp only [if_pos c149]; simp only [if_pos c153]; simp only [if_pos c155]; simp only [if_neg c157]; exact Pd.i)
                · skip
                  refine w_aload_n ok dX12_sign_99 0 rfl ?_
                  refine w_sipush (v := 256) ok dX12_sign_100 (by decide) ?_
                  refine w_putI ok dX12_sign_103 (fwX12_198 rfl) (congrArg Prod.fst s_130) rfl (ltM hnn (by decide)) ?_
                  show WK K 0 0 106 [(0, .ref 130), (1, .int a0)] [] (S68_X12_sign a0 I J) J R n g
                  refine w_iload_n ok dX12_sign_106 1 rfl ?_
                  refine w_bipush (v := 60) ok dX12_sign_107 (by decide) ?_
                  refine w_icmp_ne (tgt := 128) ok dX12_sign_109 (by decide) (fun h => absurd c142 h) (fun _ => ?_)
                  refine w_aload_n ok dX12_sign_112 0 rfl ?_
                  refine w_cV (As := []) ok dX12_sign_113 iX12_here (lX12_181 rfl) (rcv cls12 (congrArg Prod.fst s_130)) (ltM hnn (by decide)) (c_X12_here ro hnn   (hp46 c1 c29 c57 c85 c113 c141 c142 c148)) (by decide) rfl (Nat.le_of_ble_eq_true rfl) ?_
                  refine w_bipush (v := 62) ok dX12_sign_116 (by decide) ?_
                  refine w_icmp_ne (tgt := 128) ok dX12_sign_118 (by decide) (fun c158 => ?_) (fun c158 => ?_)
                  · skip
                    refine w_iload_n ok dX12_sign_128 1 rfl ?_
                    refine w_bipush (v := 62) ok dX12_sign_129 (by decide) ?_
                    refine w_icmp_ne (tgt := 150) ok dX12_sign_131 (by decide) (fun c159 => ?_) (fun c159 => ?_)
                    · skip
                      refine w_aload_n ok dX12_sign_150 0 rfl ?_
                      refine w_getI ok dX12_sign_151 (fX12_198 rfl) (congrArg Prod.fst s_130) rfl (ltM hnn (by decide)) ?_
                      refine w_sipush (v := 256) ok dX12_sign_154 (by decide) ?_
                      refine w_icmp_lt (tgt := 170) ok dX12_sign_157 (by decide) (fun c160 => ?_) (fun c160 => ?_)
                      · skip
                        exact w_vret ok fin dX12_sign_170 rfl (by unfold FI_X12_sign; simp only [if_neg c1]; simp only [if_neg c29]; simp only [if_neg c57]; simp only [if_neg c85]; simp only [if_neg c113]; simp only [if_pos c141]; simp only [if_pos c142]; simp only [if_pos c148]; simp only [if_neg c158]; simp only [if_neg c159]; simp only [if_pos c160]; exact Pd.i)
                      · skip
                        refine w_aload_n ok dX12_sign_160 0 rfl ?_
                        refine w_dup ok dX12_sign_161 rfl ?_
                        refine w_getI ok dX12_sign_162 (fX12_175 rfl) (congrArg Prod.fst s_130) rfl (ltM hnn (by decide)) ?_
                        refine w_iconst (v := 1) ok dX12_sign_165 (by decide) ?_
                        refine w_iadd ok dX12_sign_166 ?_
                        refine w_putI ok dX12_sign_167 (fwX12_175 rfl) (congrArg Prod.fst s_130) rfl (ltM hnn (by decide)) ?_
                        exact w_vret ok fin dX12_sign_170 rfl (by unfold FI_X12_sign; simp only [if_neg c1]; simp only [if_neg c29]; simp only [if_neg c57]; simp only [if_neg c85]; simp only [if_neg c113]; simp only [if_pos c141]; simp only [if_pos c142]; simp only [if_pos c148]; simp only [if_neg c158]; simp only [if_neg c159]; simp only [if_neg c160]; exact Pd.i)
                    · skip
                      refine w_aload_n ok dX12_sign_134 0 rfl ?_
                      refine w_cV (As := []) ok dX12_sign_135 iX12_here (lX12_181 rfl) (rcv cls12 (congrArg Prod.fst s_130)) (ltM hnn (by decide)) (c_X12_here ro hnn   (hp47 c1 c29 c57 c85 c113 c141 c142 c148 c158 c159)) (by decide) rfl (Nat.le_of_ble_eq_true rfl) ?_
                      refine w_bipush (v := 61) ok dX12_sign_138 (by decide) ?_
                      refine w_icmp_ne (tgt := 150) ok dX12_sign_140 (by decide) (fun c161 => ?_) (fun c161 => ?_)
                      · skip
                        refine w_aload_n ok dX12_sign_150 0 rfl ?_
                        refine w_getI ok dX12_sign_151 (fX12_198 rfl) (congrArg Prod.fst s_130) rfl (ltM hnn (by decide)) ?_
                        refine w_sipush (v := 256) ok dX12_sign_154 (by decide) ?_
                        refine w_icmp_lt (tgt := 170) ok dX12_sign_157 (by decide) (fun c162 => ?_) (fun c162 => ?_)
                        · skip
                          exact w_vret ok fin dX12_sign_170 rfl (by unfold FI_X12_sign; simp only [if_neg c1]; simp only [if_neg c29]; simp only [if_neg c57]; simp only [if_neg c85]; simp only [if_neg c113]; simp only [if_pos c141]; simp only [if_pos c142]; simp only [if_pos c148]; simp only [if_neg c158]; simp only [if_pos c159]; simp only [if_neg c161]; simp only [if_pos c162]; exact Pd.i)
                        · skip
                          refine w_aload_n ok dX12_sign_160 0 rfl ?_
                          refine w_dup ok dX12_sign_161 rfl ?_
                          refine w_getI ok dX12_sign_162 (fX12_175 rfl) (congrArg Prod.fst s_130) rfl (ltM hnn (by decide)) ?_
                          refine w_iconst (v := 1) ok dX12_sign_165 (by decide) ?_
                          refine w_iadd ok dX12_sign_166 ?_
                          refine w_putI ok dX12_sign_167 (fwX12_175 rfl) (congrArg Prod.fst s_130) rfl (ltM hnn (by decide)) ?_
                          exact w_vret ok fin dX12_sign_170 rfl (by unfold FI_X12_sign; simp only [if_neg c1]; simp only [if_neg c29]; simp only [if_neg c57]; simp only [if_neg c85]; simp only [if_neg c113]; simp only [if_pos c141]; simp only [if_pos c142]; simp only [if_pos c148]; simp only [if_neg c158]; simp only [if_pos c159]; simp only [if_neg c161]; simp only [if_neg c162]; exact Pd.i)
                      · skip
                        refine w_aload_n ok dX12_sign_143 0 rfl ?_
                        refine w_sipush (v := 258) ok dX12_sign_144 (by decide) ?_
                        refine w_putI ok dX12_sign_147 (fwX12_198 rfl) (congrArg Prod.fst s_130) rfl (ltM hnn (by decide)) ?_
                        refine w_aload_n ok dX12_sign_150 0 rfl ?_
                        refine w_getI ok dX12_sign_151 (fX12_198 rfl) (congrArg Prod.fst s_130) rfl (ltM hnn (by decide)) ?_
                        refine w_sipush (v := 256) ok dX12_sign_154 (by decide) ?_
                        refine w_icmp_lt (tgt := 170) ok dX12_sign_157 (by decide) (fun c163 => ?_) (fun c163 => ?_)
                        · skip
                          exact w_vret ok fin dX12_sign_170 rfl (by unfold FI_X12_sign; simp only [if_neg c1]; simp only [if_neg c29]; simp only [if_neg c57]; simp only [if_neg c85]; simp only [if_neg c113]; simp only [if_pos c141]; simp only [if_pos c142]; simp only [if_pos c148]; simp only [if_neg c158]; simp only [if_pos c159]; simp only [if_pos c161]; simp only [if_pos c163]; exact Pd.i)
                        · skip
                          refine w_aload_n ok dX12_sign_160 0 rfl ?_
                          refine w_dup ok dX12_sign_161 rfl ?_
                          refine w_getI ok dX12_sign_162 (fX12_175 rfl) (congrArg Prod.fst s_130) rfl (ltM hnn (by decide)) ?_
                          refine w_iconst (v := 1) ok dX12_sign_165 (by decide) ?_
                          refine w_iadd ok dX12_sign_166 ?_
                          refine w_putI ok dX12_sign_167 (fwX12_175 rfl) (congrArg Prod.fst s_130) rfl (ltM hnn (by decide)) ?_
                          show WK K 0 0 170 [(0, .ref 130), (1, .int a0)] [] (S69_X12_sign a0 I J) J R n g
                          exact w_vret ok fin dX12_sign_170 rfl (by unfold FI_X12_sign; simp only [if_neg c1]; simp only [if_neg c29]; simp only [if_neg c57]; simp only [if_neg c85]; simp only [if_neg c113]; simp only [if_pos c141]; simp only [if_pos c142]; simp only [if_pos c148]; simp only [if_neg c158]; simp only [if_pos c159]; simp only [if_pos c161]; simp only [if_neg c163]; exact Pd.i)
                  · skip
                    refine w_aload_n ok dX12_sign_121 0 rfl ?_
                    refine w_sipush (v := 257) ok dX12_sign_122 (by decide) ?_
                    refine w_putI ok dX12_sign_125 (fwX12_198 rfl) (congrArg Prod.fst s_130) rfl (ltM hnn (by decide)) ?_
                    refine w_iload_n ok dX12_sign_128 1 rfl ?_
                    refine w_bipush (v := 62) ok dX12_sign_129 (by decide) ?_
                    refine w_icmp_ne (tgt := 150) ok dX12_sign_131 (by decide) (fun c164 => ?_) (fun c164 => ?_)
                    · skip
                      refine w_aload_n ok dX12_sign_150 0 rfl ?_
                      refine w_getI ok dX12_sign_151 (fX12_198 rfl) (congrArg Prod.fst s_130) rfl (ltM hnn (by decide)) ?_
                      refine w_sipush (v := 256) ok dX12_sign_154 (by decide) ?_
                      refine w_icmp_lt (tgt := 170) ok dX12_sign_157 (by decide) (fun c165 => ?_) (fun c165 => ?_)
                      · skip
                        exact w_vret ok fin dX12_sign_170 rfl (by unfold FI_X12_sign; simp only [if_neg c1]; simp only [if_neg c29]; simp only [if_neg c57]; simp only [if_neg c85]; simp only [if_neg c113]; simp only [if_pos c141]; simp only [if_pos c142]; simp only [if_pos c148]; simp only [if_pos c158]; simp only [if_neg c164]; simp only [if_pos c165]; exact Pd.i)
                      · skip
                        refine w_aload_n ok dX12_sign_160 0 rfl ?_
                        refine w_dup ok dX12_sign_161 rfl ?_
                        refine w_getI ok dX12_sign_162 (fX12_175 rfl) (congrArg Prod.fst s_130) rfl (ltM hnn (by decide)) ?_
                        refine w_iconst (v := 1) ok dX12_sign_165 (by decide) ?_
                        refine w_iadd ok dX12_sign_166 ?_
                        refine w_putI ok dX12_sign_167 (fwX12_175 rfl) (congrArg Prod.fst s_130) rfl (ltM hnn (by decide)) ?_
                        show WK K 0 0 170 [(0, .ref 130), (1, .int a0)] [] (S70_X12_sign a0 I J) J R n g
                        exact w_vret ok fin dX12_sign_170 rfl (by unfold FI_X12_sign; simp only [if_neg c1]; simp only [if_neg c29]; simp only [if_neg c57]; simp only [if_neg c85]; simp only [if_neg c113]; simp only [if_pos c141]; simp only [if_pos c142]; simp only [if_pos c148]; simp only [if_pos c158]; simp only [if_neg c164]; simp only [if_neg c165]; exact Pd.i)
                    · skip
                      refine w_aload_n ok dX12_sign_134 0 rfl ?_
                      refine w_cV (As := []) ok dX12_sign_135 iX12_here (lX12_181 rfl) (rcv cls12 (congrArg Prod.fst s_130)) (ltM hnn (by decide)) (c_X12_here ro hnn   (hp48 c1 c29 c57 c85 c113 c141 c142 c148 c158 c164)) (by decide) rfl (Nat.le_of_ble_eq_true rfl) ?_
                      refine w_bipush (v := 61) ok dX12_sign_138 (by decide) ?_
                      refine w_icmp_ne (tgt := 150) ok dX12_sign_140 (by decide) (fun c166 => ?_) (fun c166 => ?_)
                      · skip
                        refine w_aload_n ok dX12_sign_150 0 rfl ?_
                        refine w_getI ok dX12_sign_151 (fX12_198 rfl) (congrArg Prod.fst s_130) rfl (ltM hnn (by decide)) ?_
                        refine w_sipush (v := 256) ok dX12_sign_154 (by decide) ?_
                        refine w_icmp_lt (tgt := 170) ok dX12_sign_157 (by decide) (fun c167 => ?_) (fun c167 => ?_)
                        · skip
                          exact w_vret ok fin dX12_sign_170 rfl (by unfold FI_X12_sign; simp only [if_neg c1]; simp only [if_neg c29]; simp only [if_neg c57]; simp only [if_neg c85]; simp only [if_neg c113]; simp only [if_pos c141]; simp only [if_pos c142]; simp only [if_pos c148]; simp only [if_pos c158]; simp only [if_pos c164]; simp only [if_neg c166]; simp only [if_pos c167]; exact Pd.i)
                        · skip
                          refine w_aload_n ok dX12_sign_160 0 rfl ?_
                          refine w_dup ok dX12_sign_161 rfl ?_
                          refine w_getI ok dX12_sign_162 (fX12_175 rfl) (congrArg Prod.fst s_130) rfl (ltM hnn (by decide)) ?_
                          refine w_iconst (v := 1) ok dX12_sign_165 (by decide) ?_
                          refine w_iadd ok dX12_sign_166 ?_
                          refine w_putI ok dX12_sign_167 (fwX12_175 rfl) (congrArg Prod.fst s_130) rfl (ltM hnn (by decide)) ?_
                          show WK K 0 0 170 [(0, .ref 130), (1, .int a0)] [] (S71_X12_sign a0 I J) J R n g
                          exact w_vret ok fin dX12_sign_170 rfl (by unfold FI_X12_sign; simp only [if_neg c1]; simp only [if_neg c29]; simp only [if_neg c57]; simp only [if_neg c85]; simp only [if_neg c113]; simp only [if_pos c141]; simp only [if_pos c142]; simp only [if_pos c148]; simp only [if_pos c158]; simp only [if_pos c164]; simp only [if_neg c166]; simp only [if_neg c167]; exact Pd.i)
                      · skip
                        refine w_aload_n ok dX12_sign_143 0 rfl ?_
                        refine w_sipush (v := 258) ok dX12_sign_144 (by decide) ?_
                        refine w_putI ok dX12_sign_147 (fwX12_198 rfl) (congrArg Prod.fst s_130) rfl (ltM hnn (by decide)) ?_
                        refine w_aload_n ok dX12_sign_150 0 rfl ?_
                        refine w_getI ok dX12_sign_151 (fX12_198 rfl) (congrArg Prod.fst s_130) rfl (ltM hnn (by decide)) ?_
                        refine w_sipush (v := 256) ok dX12_sign_154 (by decide) ?_
                        refine w_icmp_lt (tgt := 170) ok dX12_sign_157 (by decide) (fun c168 => ?_) (fun c168 => ?_)
                        · skip
                          exact w_vret ok fin dX12_sign_170 rfl (by unfold FI_X12_sign; simp only [if_neg c1]; simp only [if_neg c29]; simp only [if_neg c57]; simp only [if_neg c85]; simp only [if_neg c113]; simp only [if_pos c141]; simp only [if_pos c142]; simp only [if_pos c148]; simp only [if_pos c158]; simp only [if_pos c164]; simp only [if_pos c166]; simp only [if_pos c168]; exact Pd.i)
                        · skip
                          refine w_aload_n ok dX12_sign_160 0 rfl ?_
                          refine w_dup ok dX12_sign_161 rfl ?_
                          refine w_getI ok dX12_sign_162 (fX12_175 rfl) (congrArg Prod.fst s_130) rfl (ltM hnn (by decide)) ?_
                          refine w_iconst (v := 1) ok dX12_sign_165 (by decide) ?_
                          refine w_iadd ok dX12_sign_166 ?_
                          refine w_putI ok dX12_sign_167 (fwX12_175 rfl) (congrArg Prod.fst s_130) rfl (ltM hnn (by decide)) ?_
                          show WK K 0 0 170 [(0, .ref 130), (1, .int a0)] [] (S72_X12_sign a0 I J) J R n g
                          exact w_vret ok fin dX12_sign_170 rfl (by unfold FI_X12_sign; simp only [if_neg c1]; simp only [if_neg c29]; simp only [if_neg c57]; simp only [if_neg c85]; simp only [if_neg c113]; simp only [if_pos c141]; simp only [if_pos c142]; simp only [if_pos c148]; simp only [if_pos c158]; simp only [if_pos c164]; simp only [if_pos c166]; simp only [if_neg c168]; exact Pd.i)
            · skip
              refine w_iload_n ok dX12_sign_47 1 rfl ?_
              refine w_bipush (v := 47) ok dX12_sign_48 (by decide) ?_
              refine w_icmp_eq (tgt := 71) ok dX12_sign_50 (by decide) (fun c169 => ?_) (fun c169 => ?_)
              · skip
                refine w_iconst (v := 3) ok dX12_sign_71 (by decide) ?_
                refine w_goto (tgt := 76) ok dX12_sign_72 (by decide) ?_
                refine w_putI ok dX12_sign_76 (fwX12_188 rfl) (congrArg Prod.fst s_130) rfl (ltM hnn (by decide)) ?_
                refine w_aload_n ok dX12_sign_79 0 rfl ?_
                refine w_iload_n ok dX12_sign_80 1 rfl ?_
                refine w_putI ok dX12_sign_81 (fwX12_198 rfl) (congrArg Prod.fst s_130) rfl (ltM hnn (by decide)) ?_
                refine w_iload_n ok dX12_sign_84 1 rfl ?_
                refine w_bipush (v := 60) ok dX12_sign_85 (by decide) ?_
                refine w_icmp_ne (tgt := 106) ok dX12_sign_87 (by decide) (fun c170 => ?_) (fun c170 => ?_)
                · skip
                  refine w_iload_n ok dX12_sign_106 1 rfl ?_
                  refine w_bipush (v := 60) ok dX12_sign_107 (by decide) ?_
                  refine w_icmp_ne (tgt := 128) ok dX12_sign_109 (by decide) (fun _ => ?_) (fun h => absurd h c170)
                  refine w_iload_n ok dX12_sign_128 1 rfl ?_
                  refine w_bipush (v := 62) ok dX12_sign_129 (by decide) ?_
                  refine w_icmp_ne (tgt := 150) ok dX12_sign_131 (by decide) (fun c171 => ?_) (fun c171 => ?_)
                  · skip
                    refine w_aload_n ok dX12_sign_150 0 rfl ?_
                    refine w_getI ok dX12_sign_151 (fX12_198 rfl) (congrArg Prod.fst s_130) rfl (ltM hnn (by decide)) ?_
                    refine w_sipush (v := 256) ok dX12_sign_154 (by decide) ?_
                    refine w_icmp_lt (tgt := 170) ok dX12_sign_157 (by decide) (fun c172 => ?_) (fun c172 => ?_)
                    · skip
                      exact w_vret ok fin dX12_sign_170 rfl (by unfold FI_X12_sign; simp only [if_neg c1]; simp only [if_neg c29]; simp only [if_neg c57]; simp only [if_neg c85]; simp only [if_neg c113]; simp only [if_neg c141]; simp only [if_pos c169]; simp only [if_neg c170]; simp only [if_neg c171]; simp only [if_pos c172]; exact Pd.i)
                    · skip
                      refine w_aload_n ok dX12_sign_160 0 rfl ?_
                      refine w_dup ok dX12_sign_161 rfl ?_
                      refine w_getI ok dX12_sign_162 (fX12_175 rfl) (congrArg Prod.fst s_130) rfl (ltM hnn (by decide)) ?_
                      refine w_iconst (v := 1) ok dX12_sign_165 (by decide) ?_
                      refine w_iadd ok dX12_sign_166 ?_
                      refine w_putI ok dX12_sign_167 (fwX12_175 rfl) (congrArg Prod.fst s_130) rfl (ltM hnn (by decide)) ?_
                      show WK K 0 0 170 [(0, .ref 130), (1, .int a0)] [] (S73_X12_sign a0 I J) J R n g
                      exact w_vret ok fin dX12_sign_170 rfl (by unfold FI_X12_sign; simp only [if_neg c1]; simp only [if_neg c29]; simp only [if_neg c57]; simp only [if_neg c85]; simp only [if_neg c113]; simp only [if_neg c141]; simp only [if_pos c169]; simp only [if_neg c170]; simp only [if_neg c171]; simp only [if_neg c172]; exact Pd.i)
                  · skip
                    refine w_aload_n ok dX12_sign_134 0 rfl ?_
                    refine w_cV (As := []) ok dX12_sign_135 iX12_here (lX12_181 rfl) (rcv cls12 (congrArg Prod.fst s_130)) (ltM hnn (by decide)) (c_X12_here ro hnn   (hp49 c1 c29 c57 c85 c113 c141 c169 c170 c171)) (by decide) rfl (Nat.le_of_ble_eq_true rfl) ?_
                    refine w_bipush (v := 61) ok dX12_sign_138 (by decide) ?_
                    refine w_icmp_ne (tgt := 150) ok dX12_sign_140 (by decide) (fun c173 => ?_) (fun c173 => ?_)
                    · skip
                      refine w_aload_n ok dX12_sign_150 0 rfl ?_
                      refine w_getI ok dX12_sign_151 (fX12_198 rfl) (congrArg Prod.fst s_130) rfl (ltM hnn (by decide)) ?_
                      refine w_sipush (v := 256) ok dX12_sign_154 (by decide) ?_
                      refine w_icmp_lt (tgt := 170) ok dX12_sign_157 (by decide) (fun c174 => ?_) (fun c174 => ?_)
                      · skip
                        exact w_vret ok fin dX12_sign_170 rfl (by unfold FI_X12_sign; simp only [if_neg c1]; simp only [if_neg c29]; simp only [if_neg c57]; simp only [if_neg c85]; simp only [if_neg c113]; simp only [if_neg c141]; simp only [if_pos c169]; simp only [if_neg c170]; simp only [if_pos c171]; simp only [if_neg c173]; simp only [if_pos c174]; exact Pd.i)
                      · skip
                        refine w_aload_n ok dX12_sign_160 0 rfl ?_
                        refine w_dup ok dX12_sign_161 rfl ?_
                        refine w_getI ok dX12_sign_162 (fX12_175 rfl) (congrArg Prod.fst s_130) rfl (ltM hnn (by decide)) ?_
                        refine w_iconst (v := 1) ok dX12_sign_165 (by decide) ?_
                        refine w_iadd ok dX12_sign_166 ?_
                        refine w_putI ok dX12_sign_167 (fwX12_175 rfl) (congrArg Prod.fst s_130) rfl (ltM hnn (by decide)) ?_
                        show WK K 0 0 170 [(0, .ref 130), (1, .int a0)] [] (S74_X12_sign a0 I J) J R n g
                        exact w_vret ok fin dX12_sign_170 rfl (by unfold FI_X12_sign; simp only [if_neg c1]; simp only [if_neg c29]; simp only [if_neg c57]; simp only [if_neg c85]; simp only [if_neg c113]; simp only [if_neg c141]; simp only [if_pos c169]; simp only [if_neg c170]; simp only [if_pos c171]; simp only [if_neg c173]; simp only [if_neg c174]; exact Pd.i)
                    · skip
                      refine w_aload_n ok dX12_sign_143 0 rfl ?_
                      refine w_sipush (v := 258) ok dX12_sign_144 (by decide) ?_
                      refine w_putI ok dX12_sign_147 (fwX12_198 rfl) (congrArg Prod.fst s_130) rfl (ltM hnn (by decide)) ?_
                      show WK K 0 0 150 [(0, .ref 130), (1, .int a0)] [] (S75_X12_sign a0 I J) J R n g
                      refine w_aload_n ok dX12_sign_150 0 rfl ?_
                      refine w_getI ok dX12_sign_151 (fX12_198 rfl) (congrArg Prod.fst s_130) rfl (ltM hnn (by decide)) ?_
                      refine w_sipush (v := 256) ok dX12_sign_154 (by decide) ?_
                      refine w_icmp_lt (tgt := 170) ok dX12_sign_157 (by decide) (fun c175 => ?_) (fun c175 => ?_)
                      · skip
                        exact w_vret ok fin dX12_sign_170 rfl (by unfold FI_X12_sign; simp only [if_neg c1]; simp only [if_neg c29]; simp only [if_neg c57]; simp only [if_neg c85]; simp only [if_neg c113]; simp only [if_neg c141]; simp only [if_pos c169]; simp only [if_neg c170]; simp only [if_pos c171]; simp only [if_pos c173]; simp only [if_pos c175]; exact Pd.i)
                      · skip
                        refine w_aload_n ok dX12_sign_160 0 rfl ?_
                        refine w_dup ok dX12_sign_161 rfl ?_
                        refine w_getI ok dX12_sign_162 (fX12_175 rfl) (congrArg Prod.fst s_130) rfl (ltM hnn (by decide)) ?_
                        refine w_iconst (v := 1) ok dX12_sign_165 (by decide) ?_
                        refine w_iadd ok dX12_sign_166 ?_
                        refine w_putI ok dX12_sign_167 (fwX12_175 rfl) (congrArg Prod.fst s_130) rfl (ltM hnn (by decide)) ?_
                        exact w_vret ok fin dX12_sign_170 rfl (by unfold FI_X12_sign; simp only [if_neg c1]; simp only [if_neg c29]; simp only [if_neg c57]; simp only [if_neg c85]; simp only [if_neg c113]; simp only [if_neg c141]; simp only [if_pos c169]; simp only [if_neg c170]; simp only [if_pos c171]; simp only [if_pos c173]; simp only [if_neg c175]; exact Pd.i)
                · skip
                  refine w_aload_n ok dX12_sign_90 0 rfl ?_
                  refine w_cV (As := []) ok dX12_sign_91 iX12_here (lX12_181 rfl) (rcv cls12 (congrArg Prod.fst s_130)) (ltM hnn (by decide)) (c_X12_here ro hnn   (hp50 c1 c29 c57 c85 c113 c141 c169 c170)) (by decide) rfl (Nat.le_of_ble_eq_true rfl) ?_
                  refine w_bipush (v := 61) ok dX12_sign_94 (by decide) ?_
                  refine w_icmp_ne (tgt := 106) ok dX12_sign_96 (by decide) (fun c176 => ?_) (fun c176 => ?_)
                  · skip
                    refine w_iload_n ok dX12_sign_106 1 rfl ?_
                    refine w_bipush (v := 60) ok dX12_sign_107 (by decide) ?_
                    refine w_icmp_ne (tgt := 128) ok dX12_sign_109 (by decide) (fun h => absurd c170 h) (fun _ => ?_)
                    refine w_aload_n ok dX12_sign_112 0 rfl ?_
                    refine w_cV (As := []) ok dX12_sign_113 iX12_here (lX12_181 rfl) (rcv cls12 (congrArg Prod.fst s_130)) (ltM hnn (by decide)) (c_X12_here ro hnn   (hp51 c1 c29 c57 c85 c113 c141 c169 c170 c176)) (by decide) rfl (Nat.le_of_ble_eq_true rfl) ?_
                    refine w_bipush (v := 62) ok dX12_sign_116 (by decide) ?_
                    refine w_icmp_ne (tgt := 128) ok dX12_sign_118 (by decide) (fun c177 => ?_) (fun c177 => ?_)
                    · skip
                      refine w_iload_n ok dX12_sign_128 1 rfl ?_
                      refine w_bipush (v := 62) ok dX12_sign_129 (by decide) ?_
                      refine w_icmp_ne (tgt := 150) ok dX12_sign_131 (by decide) (fun c178 => ?_) (fun c178 => ?_)
                      · skip
                        refine w_aload_n ok dX12_sign_150 0 rfl ?_
                        refine w_getI ok dX12_sign_151 (fX12_198 rfl) (congrArg Prod.fst s_130) rfl (ltM hnn (by decide)) ?_
                        refine w_sipush (v := 256) ok dX12_sign_154 (by decide) ?_
                        refine w_icmp_lt (tgt := 170) ok dX12_sign_157 (by decide) (fun c179 => ?_) (fun c179 => ?_)
                        · skip
                          exact w_vret ok fin dX12_sign_170 rfl (by unfold FI_X12_sign; simp only [if_neg c1]; simp only [if_neg c29]; simp only [if_neg c57]; simp only [if_neg c85]; simp only [if_neg c113]; simp only [if_neg c141]; simp only [if_pos c169]; simp only [if_pos c170]; simp only [if_neg c176]; simp only [if_neg c177]; simp only [if_neg c178]; simp only [if_pos c179]; exact Pd.i)
                        · skip
                          refine w_aload_n ok dX12_sign_160 0 rfl ?_
                          refine w_dup ok dX12_sign_161 rfl ?_
                          refine w_getI ok dX12_sign_162 (fX12_175 rfl) (congrArg Prod.fst s_130) rfl (ltM hnn (by decide)) ?_
                          refine w_iconst (v := 1) ok dX12_sign_165 (by decide) ?_
                          refine w_iadd ok dX12_sign_166 ?_
                          refine w_putI ok dX12_sign_167 (fwX12_175 rfl) (congrArg Prod.fst s_130) rfl (ltM hnn (by decide)) ?_
                          show WK K 0 0 170 [(0, .ref 130), (1, .int a0)] [] (S76_X12_sign a0 I J) J R n g
                          exact w_vret ok fin dX12_sign_170 rfl (by unfold FI_X12_sign; simp only [if_neg c1]; simp only [if_neg c29]; simp only [if_neg c57]; simp only [if_neg c85]; simp only [if_neg c113]; simp only [if_neg c141]; simp only [if_pos c169]; simp only [if_pos c170]; simp only [if_neg c176]; simp only [if_neg c177]; simp only [if_neg c178]; simp only [if_neg c179]; exact Pd.i)
                      · skip
                        refine w_aload_n ok dX12_sign_134 0 rfl ?_
                        refine w_cV (As := []) ok dX12_sign_135 iX12_here (lX12_181 rfl) (rcv cls12 (congrArg Prod.fst s_130)) (ltM hnn (by decide)) (c_X12_here ro hnn   (hp52 c1 c29 c57 c85 c113 c141 c169 c170 c176 c177 c178)) (by decide) rfl (Nat.le_of_ble_eq_true rfl) ?_
                        refine w_bipush (v := 61) ok dX12_sign_138 (by decide) ?_
                        refine w_icmp_ne (tgt := 150) ok dX12_sign_140 (by decide) (fun _ => ?_) (fun h => absurd h c176)
                        refine w_aload_n ok dX12_sign_150 0 rfl ?_
                        refine w_getI ok dX12_sign_151 (fX12_198 rfl) (congrArg Prod.fst s_130) rfl (ltM hnn (by decide)) ?_
                        refine w_sipush (v := 256) ok dX12_sign_154 (by decide) ?_
                        refine w_icmp_lt (tgt := 170) ok dX12_sign_157 (by decide) (fun c180 => ?_) (fun c180 => ?_)
                        · skip
                          exact w_vret ok fin dX12_sign_170 rfl (by unfold FI_X12_sign; simp only [if_neg c1]; simp only [if_neg c29]; simp only [if_neg c57]; simp only [if_neg c85]; simp only [if_neg c113]; simp only [if_neg c141]; simp only [if_pos c169]; simp only [if_pos c170]; simp only [if_neg c176]; simp only [if_neg c177]; simp only [if_pos c178]; simp only [if_pos c180]; exact Pd.i)
                        · skip
                          refine w_aload_n ok dX12_sign_160 0 rfl ?_
                          refine w_dup ok dX12_sign_161 rfl ?_
                          refine w_getI ok dX12_sign_162 (fX12_175 rfl) (congrArg Prod.fst s_130) rfl (ltM hnn (by decide)) ?_
                          refine w_iconst (v := 1) ok dX12_sign_165 (by decide) ?_
                          refine w_iadd ok dX12_sign_166 ?_
                          refine w_putI ok dX12_sign_167 (fwX12_175 rfl) (congrArg Prod.fst s_130) rfl (ltM hnn (by decide)) ?_
                          show WK K 0 0 170 [(0, .ref 130), (1, .int a0)] [] (S77_X12_sign a0 I J) J R n g
                          exact w_vret ok fin dX12_sign_170 rfl (by unfold FI_X12_sign; simp only [if_neg c1]; simp only [if_neg c29]; simp only [if_neg c57]; simp only [if_neg c85]; simp only [if_neg c113]; simp only [if_neg c141]; simp only [if_pos c169]; simp only [if_pos c170]; simp only [if_neg c176]; simp only [if_neg c177]; simp only [if_pos c178]; simp only [if_neg c180]; exact Pd.i)
                    · skip
                      refine w_aload_n ok dX12_sign_121 0 rfl ?_
                      refine w_sipush (v := 257) ok dX12_sign_122 (by decide) ?_
                      refine w_putI ok dX12_sign_125 (fwX12_198 rfl) (congrArg Prod.fst s_130) rfl (ltM hnn (by decide)) ?_
                      show WK K 0 0 128 [(0, .ref 130), (1, .int a0)] [] (S78_X12_sign a0 I J) J R n g
                      refine w_iload_n ok dX12_sign_128 1 rfl ?_
                      refine w_bipush (v := 62) ok dX12_sign_129 (by decide) ?_
                      refine w_icmp_ne (tgt := 150) ok dX12_sign_131 (by decide) (fun c181 => ?_) (fun c181 => ?_)
                      · skip
                        refine w_aload_n ok dX12_sign_150 0 rfl ?_
                        refine w_getI ok dX12_sign_151 (fX12_198 rfl) (congrArg Prod.fst s_130) rfl (ltM hnn (by decide)) ?_
                        refine w_sipush (v := 256) ok dX12_sign_154 (by decide) ?_
                        refine w_icmp_lt (tgt := 170) ok dX12_sign_157 (by decide) (fun c182 => ?_) (fun c182 => ?_)
                        · skip
                          exact w_vret ok fin dX12_sign_170 rfl (by unfold FI_X12_sign; simp only [if_neg c1]; simp only [if_neg c29]; simp only [if_neg c57]; simp only [if_neg c85]; simp only [if_neg c113]; simp only [if_neg c141]; simp only [if_pos c169]; simp only [if_pos c170]; simp only [if_neg c176]; simp only [if_pos c177]; simp only [if_neg c181]; simp only [if_pos c182]; exact Pd.i)
                        · skip
                          refine w_aload_n ok dX12_sign_160 0 rfl ?_
                          refine w_dup ok dX12_sign_161 rfl ?_
                          refine w_getI ok dX12_sign_162 (fX12_175 rfl) (congrArg Prod.fst s_130) rfl (ltM hnn (by decide)) ?_
                          refine w_iconst (v := 1) ok dX12_sign_165 (by decide) ?_
                          refine w_iadd ok dX12_sign_166 ?_
                          refine w_putI ok dX12_sign_167 (fwX12_175 rfl) (congrArg Prod.fst s_130) rfl (ltM hnn (by decide)) ?_
                          exact w_vret ok fin dX12_sign_170 rfl (by unfold FI_X12_sign; simp only [if_neg c1]; simp only [if_neg c29]; simp only [if_neg c57]; simp only [if_neg c85]; simp only [if_neg c113]; simp only [if_neg c141]; simp only [if_pos c169]; simp only [if_pos c170]; simp only [if_neg c176]; simp only [if_pos c177]; simp only [if_neg c181]; simp only [if_neg c182]; exact Pd.i)
                      · skip
                        refine w_aload_n ok dX12_sign_134 0 rfl ?_
                        refine w_cV (As := []) ok dX12_sign_135 iX12_here (lX12_181 rfl) (rcv cls12 (congrArg Prod.fst s_130)) (ltM hnn (by decide)) (c_X12_here ro hnn   (hp53 c1 c29 c57 c85 c113 c141 c169 c170 c176 c177 c181)) (by decide) rfl (Nat.le_of_ble_eq_true rfl) ?_
                        refine w_bipush (v := 61) ok dX12_sign_138 (by decide) ?_
                        refine w_icmp_ne (tgt := 150) ok dX12_sign_140 (by decide) (fun c183 => ?_) (fun c183 => ?_)
                        · skip
                          refine w_aload_n ok dX12_sign_150 0 rfl ?_
                          refine w_getI ok dX12_sign_151 (fX12_198 rfl) (congrArg Prod.fst s_130) rfl (ltM hnn (by decide)) ?_
                          refine w_sipush (v := 256) ok dX12_sign_154 (by decide) ?_
                          refine w_icmp_lt (tgt := 170) ok dX12_sign_157 (by decide) (fun c184 => ?_) (fun c184 => ?_)
                          · skip
                            exact w_vret ok fin dX12_sign_170 rfl (by unfold FI_X12_sign; simp only [if_neg c1]; simp only [if_neg c29]; simp only [if_neg c57]; simp only [if_neg c85]; simp only [if_neg c113]; simp only [if_neg c141]; simp only [if_pos c169]; simp only [if_pos c170]; simp only [if_neg c176]; simp only [if_pos c177]; simp only [if_pos c181]; simp only [if_neg c183]; simp only [if_pos c184]; exact Pd.i)
                          · skip
                            refine w_aload_n ok dX12_sign_160 0 rfl ?_
                            refine w_dup ok dX12_sign_161 rfl ?_
                            refine w_getI ok dX12_sign_162 (fX12_175 rfl) (congrArg Prod.fst s_130) rfl (ltM hnn (by decide)) ?_
                            refine w_iconst (v := 1) ok dX12_sign_165 (by decide) ?_
                            refine w_iadd ok dX12_sign_166 ?_
                            refine w_putI ok dX12_sign_167 (fwX12_175 rfl) (congrArg Prod.fst s_130) rfl (ltM hnn (by decide)) ?_
                            exact w_vret ok fin dX12_sign_170 rfl (by unfold FI_X12_sign; simp only [if_neg c1]; simp only [if_neg c29]; simp only [if_neg c57]; simp only [if_neg c85]; simp only [if_neg c113]; simp only [if_neg c141]; simp only [if_pos c169]; simp only [if_pos c170]; simp only [if_neg c176]; simp only [if_pos c177]; simp only [if_pos c181]; simp only [if_neg c183]; simp only [if_neg c184]; exact Pd.i)
                        · skip
                          refine w_aload_n ok dX12_sign_143 0 rfl ?_
                          refine w_sipush (v := 258) ok dX12_sign_144 (by decide) ?_
                          refine w_putI ok dX12_sign_147 (fwX12_198 rfl) (congrArg Prod.fst s_130) rfl (ltM hnn (by decide)) ?_
                          refine w_aload_n ok dX12_sign_150 0 rfl ?_
                          refine w_getI ok dX12_sign_151 (fX12_198 rfl) (congrArg Prod.fst s_130) rfl (ltM hnn (by decide)) ?_
                          refine w_sipush (v := 256) ok dX12_sign_154 (by decide) ?_
                          refine w_icmp_lt (tgt := 170) ok dX12_sign_157 (by decide) (fun c185 => ?_) (fun c185 => ?_)
                          · skip
                            exact w_vret ok fin dX12_sign_170 rfl (by unfold FI_X12_sign; simp only [if_neg c1]; simp only [if_neg c29]; simp only [if_neg c57]; simp only [if_neg c85]; simp only [if_neg c113]; simp only [if_neg c141]; simp only [if_pos c169]; simp only [if_pos c170]; simp only [if_neg c176]; simp only [if_pos c177]; simp only [if_pos c181]; simp only [if_pos c183]; simp only [if_pos c185]; exact Pd.i)
                          · skip
                            refine w_aload_n ok dX12_sign_160 0 rfl ?_
                            refine w_dup ok dX12_sign_161 rfl ?_
                            refine w_getI ok dX12_sign_162 (fX12_175 rfl) (congrArg Prod.fst s_130) rfl (ltM hnn (by decide)) ?_
                            refine w_iconst (v := 1) ok dX12_sign_165 (by decide) ?_
                            refine w_iadd ok dX12_sign_166 ?_
                            refine w_putI ok dX12_sign_167 (fwX12_175 rfl) (congrArg Prod.fst s_130) rfl (ltM hnn (by decide)) ?_
                            show WK K 0 0 170 [(0, .ref 130), (1, .int a0)] [] (S79_X12_sign a0 I J) J R n g
                            exact w_vret ok fin dX12_sign_170 rfl (by unfold FI_X12_sign; simp only [if_neg c1]; simp only [if_neg c29]; simp only [if_neg c57]; simp only [if_neg c85]; simp only [if_neg c113]; simp only [if_neg c141]; simp only [if_pos c169]; simp only [if_pos c170]; simp only [if_neg c176]; simp only [if_pos c177]; simp only [if_pos c181]; simp only [if_pos c183]; simp only [if_neg c185]; exact Pd.i)
                  · skip
                    refine w_aload_n ok dX12_sign_99 0 rfl ?_
                    refine w_sipush (v := 256) ok dX12_sign_100 (by decide) ?_
                    refine w_putI ok dX12_sign_103 (fwX12_198 rfl) (congrArg Prod.fst s_130) rfl (ltM hnn (by decide)) ?_
                    show WK K 0 0 106 [(0, .ref 130), (1, .int a0)] [] (S80_X12_sign a0 I J) J R n g
                    refine w_iload_n ok dX12_sign_106 1 rfl ?_
                    refine w_bipush (v := 60) ok dX12_sign_107 (by decide) ?_
                    refine w_icmp_ne (tgt := 128) ok dX12_sign_109 (by decide) (fun h => absurd c170 h) (fun _ => ?_)
                    refine w_aload_n ok dX12_sign_112 0 rfl ?_
                    refine w_cV (As := []) ok dX12_sign_113 iX12_here (lX12_181 rfl) (rcv cls12 (congrArg Prod.fst s_130)) (ltM hnn (by decide)) (c_X12_here ro hnn   (hp54 c1 c29 c57 c85 c113 c141 c169 c170 c176)) (by decide) rfl (Nat.le_of_ble_eq_true rfl) ?_
                    refine w_bipush (v := 62) ok dX12_sign_116 (by decide) ?_
                    refine w_icmp_ne (tgt := 128) ok dX12_sign_118 (by decide) (fun c186 => ?_) (fun c186 => ?_)
                    · skip
                      refine w_iload_n ok dX12_sign_128 1 rfl ?_
                      refine w_bipush (v := 62) ok dX12_sign_129 (by decide) ?_
                      refine w_icmp_ne (tgt := 150) ok dX12_sign_131 (by decide) (fun c187 => ?_) (fun c187 => ?_)
                      · skip
                        refine w_aload_n ok dX12_sign_150 0 rfl ?_
                        refine w_getI ok dX12_sign_151 (fX12_198 rfl) (congrArg Prod.fst s_130) rfl (ltM hnn (by decide)) ?_
                        refine w_sipush (v := 256) ok dX12_sign_154 (by decide) ?_
                        refine w_icmp_lt (tgt := 170) ok dX12_sign_157 (by decide) (fun c188 => ?_) (fun c188 => ?_)
                        · skip
                          exact w_vret ok fin dX12_sign_170 rfl (by unfold FI_X12_sign; simp only [if_neg c1]; simp only [if_neg c29]; simp only [if_neg c57]; simp only [if_neg c85]; simp only [if_neg c113]; simp only [if_neg c141]; simp only [if_pos c169]; simp only [if_pos c170]; simp only [if_pos c176]; simp only [if_neg c186]; simp only [if_neg c187]; simp only [if_pos c188]; exact Pd.i)
                        · skip
                          refine w_aload_n ok dX12_sign_160 0 rfl ?_
                          refine w_dup ok dX12_sign_161 rfl ?_
                          refine w_getI ok dX12_sign_162 (fX12_175 rfl) (congrArg Prod.fst s_130) rfl (ltM hnn (by decide)) ?_
                          refine w_iconst (v := 1) ok dX12_sign_165 (by decide) ?_
                          refine w_iadd ok dX12_sign_166 ?_
                          refine w_putI ok dX12_sign_167 (fwX12_175 rfl) (congrArg Prod.fst s_130) rfl (ltM hnn (by decide)) ?_
                          exact w_vret ok fin dX12_sign_170 rfl (by unfold FI_X12_sign; simp only [if_neg c1]; simp only [if_neg c29]; simp only [if_neg c57]; simp only [if_neg c85]; simp only [if_neg c113]; simp only [if_neg c141]; simp only [if_pos c169]; simp only [if_pos c170]; simp only [if_pos c176]; simp only [if_neg c186]; simp only [if_neg c187]; simp only [if_neg c188]; exact Pd.i)
                      · skip
                        refine w_aload_n ok dX12_sign_134 0 rfl ?_
                        refine w_cV (As := []) ok dX12_sign_135 iX12_here (lX12_181 rfl) (rcv cls12 (congrArg Prod.fst s_130)) (ltM hnn (by decide)) (c_X12_here ro hnn   (hp55 c1 c29 c57 c85 c113 c141 c169 c170 c176 c186 c187)) (by decide) rfl (Nat.le_of_ble_eq_true rfl) ?_
                        refine w_bipush (v := 61) ok dX12_sign_138 (by decide) ?_
                        refine w_icmp_ne (tgt := 150) ok dX12_sign_140 (by decide) (fun c189 => ?_) (fun c189 => ?_)
                        · skip
                          refine w_aload_n ok dX12_sign_150 0 rfl ?_
                          refine w_getI ok dX12_sign_151 (fX12_198 rfl) (congrArg Prod.fst s_130) rfl (ltM hnn (by decide)) ?_
                          refine w_sipush (v := 256) ok dX12_sign_154 (by decide) ?_
                          refine w_icmp_lt (tgt := 170) ok dX12_sign_157 (by decide) (fun c190 => ?_) (fun c190 => ?_)
                          · skip
                            exact w_vret ok fin dX12_sign_170 rfl (by unfold FI_X12_sign; simp only [if_neg c1]; simp only [if_neg c29]; simp only [if_neg c57]; simp only [if_neg c85]; simp only [if_neg c113]; simp only [if_neg c141]; simp only [if_pos c169]; simp only [if_pos c170]; simp only [if_pos c176]; simp only [if_neg c186]; simp only [if_pos c187]; simp only [if_neg c189]; simp only [if_pos c190]; exact Pd.i)
                          · skip
                            refine w_aload_n ok dX12_sign_160 0 rfl ?_
                            refine w_dup ok dX12_sign_161 rfl ?_
                            refine w_getI ok dX12_sign_162 (fX12_175 rfl) (congrArg Prod.fst s_130) rfl (ltM hnn (by decide)) ?_
                            refine w_iconst (v := 1) ok dX12_sign_165 (by decide) ?_
                            refine w_iadd ok dX12_sign_166 ?_
                            refine w_putI ok dX12_sign_167 (fwX12_175 rfl) (congrArg Prod.fst s_130) rfl (ltM hnn (by decide)) ?_
                            exact w_vret ok fin dX12_sign_170 rfl (by unfold FI_X12_sign; simp only [if_neg c1]; simp only [if_neg c29]; simp only [if_neg c57]; simp only [if_neg c85]; simp only [if_neg c113]; simp only [if_neg c141]; simp only [if_pos c169]; simp only [if_pos c170]; simp only [if_pos c176]; simp only [if_neg c186]; simp only [if_pos c187]; simp only [if_neg c189]; simp only [if_neg c190]; exact Pd.i)
                        · skip
                          refine w_aload_n ok dX12_sign_143 0 rfl ?_
                          refine w_sipush (v := 258) ok dX12_sign_144 (by decide) ?_
                          refine w_putI ok dX12_sign_147 (fwX12_198 rfl) (congrArg Prod.fst s_130) rfl (ltM hnn (by decide)) ?_
                          refine w_aload_n ok dX12_sign_150 0 rfl ?_
                          refine w_getI ok dX12_sign_151 (fX12_198 rfl) (congrArg Prod.fst s_130) rfl (ltM hnn (by decide)) ?_
                          refine w_sipush (v := 256) ok dX12_sign_154 (by decide) ?_
                          refine w_icmp_lt (tgt := 170) ok dX12_sign_157 (by decide) (fun c191 => ?_) (fun c191 => ?_)
                          · skip
                            exact w_vret ok fin dX12_sign_170 rfl (by unfold FI_X12_sign; simp only [if_neg c1]; simp only [if_neg c29]; simp only [if_neg c57]; simp only [if_neg c85]; simp only [if_neg c113]; simp only [if_neg c141]; simp only [if_pos c169]; simp only [if_pos c170]; simp only [if_pos c176]; simp only [if_neg c186]; simp only [if_pos c187]; simp only [if_pos c189]; simp only [if_pos c191]; exact Pd.i)
                          · skip
                            refine w_aload_n ok dX12_sign_160 0 rfl ?_
                            refine w_dup ok dX12_sign_161 rfl ?_
                            refine w_getI ok dX12_sign_162 (fX12_175 rfl) (congrArg Prod.fst s_130) rfl (ltM hnn (by decide)) ?_
                            refine w_iconst (v := 1) ok dX12_sign_165 (by decide) ?_
                            refine w_iadd ok dX12_sign_166 ?_
                            refine w_putI ok dX12_sign_167 (fwX12_175 rfl) (congrArg Prod.fst s_130) rfl (ltM hnn (by decide)) ?_
                            show WK K 0 0 170 [(0, .ref 130), (1, .int a0)] [] (S81_X12_sign a0 I J) J R n g
                            exact w_vret ok fin dX12_sign_170 rfl (by unfold FI_X12_sign; simp only [if_neg c1]; simp only [if_neg c29]; simp only [if_neg c57]; simp only [if_neg c85]; simp only [if_neg c113]; simp only [if_neg c141]; simp only [if_pos c169]; simp only [if_pos c170]; simp only [if_pos c176]; simp only [if_neg c186]; simp only [if_pos c187]; simp only [if_pos c189]; simp only [if_neg c191]; exact Pd.i)
                    · skip
                      refine w_aload_n ok dX12_sign_121 0 rfl ?_
                      refine w_sipush (v := 257) ok dX12_sign_122 (by decide) ?_
                      refine w_putI ok dX12_sign_125 (fwX12_198 rfl) (congrArg Prod.fst s_130) rfl (ltM hnn (by decide)) ?_
                      refine w_iload_n ok dX12_sign_128 1 rfl ?_
                      refine w_bipush (v := 62) ok dX12_sign_129 (by decide) ?_
                      refine w_icmp_ne (tgt := 150) ok dX12_sign_131 (by decide) (fun c192 => ?_) (fun c192 => ?_)
                      · skip
                        refine w_aload_n ok dX12_sign_150 0 rfl ?_
                        refine w_getI ok dX12_sign_151 (fX12_198 rfl) (congrArg Prod.fst s_130) rfl (ltM hnn (by decide)) ?_
                        refine w_sipush (v := 256) ok dX12_sign_154 (by decide) ?_
                        refine w_icmp_lt (tgt := 170) ok dX12_sign_157 (by decide) (fun c193 => ?_) (fun c193 => ?_)
                        · skip
                          exact w_vret ok fin dX12_sign_170 rfl (by unfold FI_X12_sign; simp only [if_neg c1]; simp only [if_neg c29]; simp only [if_neg c57]; simp only [if_neg c85]; simp only [if_neg c113]; simp only [if_neg c141]; simp only [if_pos c169]; simp only [if_pos c170]; simp only [if_pos c176]; simp only [if_pos c186]; simp only [if_neg c192]; simp only [if_pos c193]; exact Pd.i)
                        · skip
                          refine w_aload_n ok dX12_sign_160 0 rfl ?_
                          refine w_dup ok dX12_sign_161 rfl ?_
                          refine w_getI ok dX12_sign_162 (fX12_175 rfl) (congrArg Prod.fst s_130) rfl (ltM hnn (by decide)) ?_
                          refine w_iconst (v := 1) ok dX12_sign_165 (by decide) ?_
                          refine w_iadd ok dX12_sign_166 ?_
                          refine w_putI ok dX12_sign_167 (fwX12_175 rfl) (congrArg Prod.fst s_130) rfl (ltM hnn (by decide)) ?_
                          show WK K 0 0 170 [(0, .ref 130), (1, .int a0)] [] (S82_X12_sign a0 I J) J R n g
                          exact w_vret ok fin dX12_sign_170 rfl (by unfold FI_X12_sign; simp only [if_neg c1]; simp only [if_neg c29]; simp only [if_neg c57]; simp only [if_neg c85]; simp only [if_neg c113]; simp only [if_neg c141]; simp only [if_pos c169]; simp only [if_pos c170]; simp only [if_pos c176]; simp only [if_pos c186]; simp only [if_neg c192]; simp only [if_neg c193]; exact Pd.i)
                      · skip
                        refine w_aload_n ok dX12_sign_134 0 rfl ?_
                        refine w_cV (As := []) ok dX12_sign_135 iX12_here (lX12_181 rfl) (rcv cls12 (congrArg Prod.fst s_130)) (ltM hnn (by decide)) (c_X12_here ro hnn   (hp56 c1 c29 c57 c85 c113 c141 c169 c170 c176 c186 c192)) (by decide) rfl (Nat.le_of_ble_eq_true rfl) ?_
                        refine w_bipush (v := 61) ok dX12_sign_138 (by decide) ?_
                        refine w_icmp_ne (tgt := 150) ok dX12_sign_140 (by decide) (fun c194 => ?_) (fun c194 => ?_)
                        · skip
                          refine w_aload_n ok dX12_sign_150 0 rfl ?_
                          refine w_getI ok dX12_sign_151 (fX12_198 rfl) (congrArg Prod.fst s_130) rfl (ltM hnn (by decide)) ?_
                          refine w_sipush (v := 256) ok dX12_sign_154 (by decide) ?_
                          refine w_icmp_lt (tgt := 170) ok dX12_sign_157 (by decide) (fun c195 => ?_) (fun c195 => ?_)
                          · skip
                            exact w_vret ok fin dX12_sign_170 rfl (by unfold FI_X12_sign; simp only [if_neg c1]; simp only [if_neg c29]; simp only [if_neg c57]; simp only [if_neg c85]; simp only [if_neg c113]; simp only [if_neg c141]; simp only [if_pos c169]; simp only [if_pos c170]; simp only [if_pos c176]; simp only [if_pos c186]; simp only [if_pos c192]; simp only [if_neg c194]; simp only [if_pos c195]; exact Pd.i)
                          · skip
                            refine w_aload_n ok dX12_sign_160 0 rfl ?_
                            refine w_dup ok dX12_sign_161 rfl ?_
                            refine w_getI ok dX12_sign_162 (fX12_175 rfl) (congrArg Prod.fst s_130) rfl (ltM hnn (by decide)) ?_
                            refine w_iconst (v := 1) ok dX12_sign_165 (by decide) ?_
                            refine w_iadd ok dX12_sign_166 ?_
                            refine w_putI ok dX12_sign_167 (fwX12_175 rfl) (congrArg Prod.fst s_130) rfl (ltM hnn (by decide)) ?_
                            show WK K 0 0 170 [(0, .ref 130), (1, .int a0)] [] (S83_X12_sign a0 I J) J R n g
                            exact w_vret ok fin dX12_sign_170 rfl (by unfold FI_X12_sign; simp only [if_neg c1]; simp only [if_neg c29]; simp only [if_neg c57]; simp only [if_neg c85]; simp only [if_neg c113]; simp only [if_neg c141]; simp only [if_pos c169]; simp only [if_pos c170]; simp only [if_pos c176]; simp only [if_pos c186]; simp only [if_pos c192]; simp only [if_neg c194]; simp only [if_neg c195]; exact Pd.i)
                        · skip
                          refine w_aload_n ok dX12_sign_143 0 rfl ?_
                          refine w_sipush (v := 258) ok dX12_sign_144 (by decide) ?_
                          refine w_putI ok dX12_sign_147 (fwX12_198 rfl) (congrArg Prod.fst s_130) rfl (ltM hnn (by decide)) ?_
                          refine w_aload_n ok dX12_sign_150 0 rfl ?_
                          refine w_getI ok dX12_sign_151 (fX12_198 rfl) (congrArg Prod.fst s_130) rfl (ltM hnn (by decide)) ?_
                          refine w_sipush (v := 256) ok dX12_sign_154 (by decide) ?_
                          refine w_icmp_lt (tgt := 170) ok dX12_sign_157 (by decide) (fun c196 => ?_) (fun c196 => ?_)
                          · skip
                            exact w_vret ok fin dX12_sign_170 rfl (by unfold FI_X12_sign; simp only [if_neg c1]; simp only [if_neg c29]; simp only [if_neg c57]; simp only [if_neg c85]; simp only [if_neg c113]; simp only [if_neg c141]; simp only [if_pos c169]; simp only [if_pos c170]; simp only [if_pos c176]; simp only [if_pos c186]; simp only [if_pos c192]; simp only [if_pos c194]; simp only [if_pos c196]; exact Pd.i)
                          · skip
                            refine w_aload_n ok dX12_sign_160 0 rfl ?_
                            refine w_dup ok dX12_sign_161 rfl ?_
                            refine w_getI ok dX12_sign_162 (fX12_175 rfl) (congrArg Prod.fst s_130) rfl (ltM hnn (by decide)) ?_
                            refine w_iconst (v := 1) ok dX12_sign_165 (by decide) ?_
                            refine w_iadd ok dX12_sign_166 ?_
                            refine w_putI ok dX12_sign_167 (fwX12_175 rfl) (congrArg Prod.fst s_130) rfl (ltM hnn (by decide)) ?_
                            show WK K 0 0 170 [(0, .ref 130), (1, .int a0)] [] (S84_X12_sign a0 I J) J R n g
                            exact w_vret ok fin dX12_sign_170 rfl (by unfold FI_X12_sign; simp only [if_neg c1]; simp only [if_neg c29]; simp only [if_neg c57]; simp only [if_neg c85]; simp only [if_neg c113]; simp only [if_neg c141]; simp only [if_pos c169]; simp only [if_pos c170]; simp only [if_pos c176]; simp only [if_pos c186]; simp only [if_pos c192]; simp only [if_pos c194]; simp only [if_neg c196]; exact Pd.i)
              · skip
                refine w_iload_n ok dX12_sign_53 1 rfl ?_
                refine w_bipush (v := 60) ok dX12_sign_54 (by decide) ?_
                refine w_icmp_eq (tgt := 71) ok dX12_sign_56 (by decide) (fun c197 => ?_) (fun c197 => ?_)
                · skip
                  refine w_iconst (v := 3) ok dX12_sign_71 (by decide) ?_
                  refine w_goto (tgt := 76) ok dX12_sign_72 (by decide) ?_
                  refine w_putI ok dX12_sign_76 (fwX12_188 rfl) (congrArg Prod.fst s_130) rfl (ltM hnn (by decide)) ?_
                  refine w_aload_n ok dX12_sign_79 0 rfl ?_
                  refine w_iload_n ok dX12_sign_80 1 rfl ?_
                  refine w_putI ok dX12_sign_81 (fwX12_198 rfl) (congrArg Prod.fst s_130) rfl (ltM hnn (by decide)) ?_
                  refine w_iload_n ok dX12_sign_84 1 rfl ?_
                  refine w_bipush (v := 60) ok dX12_sign_85 (by decide) ?_
                  refine w_icmp_ne (tgt := 106) ok dX12_sign_87 (by decide) (fun h => absurd c197 h) (fun _ => ?_)
                  refine w_aload_n ok dX12_sign_90 0 rfl ?_
                  refine w_cV (As := []) ok dX12_sign_91 iX12_here (lX12_181 rfl) (rcv cls12 (congrArg Prod.fst s_130)) (ltM hnn (by decide)) (c_X12_here ro hnn   (hp57 c1 c29 c57 c85 c113 c141 c169 c197)) (by decide) rfl (Nat.le_of_ble_eq_true rfl) ?_
                  refine w_bipush (v := 61) ok dX12_sign_94 (by decide) ?_
                  refine w_icmp_ne (tgt := 106) ok dX12_sign_96 (by decide) (fun c198 => ?_) (fun c198 => ?_)
                  · skip
                    refine w_iload_n ok dX12_sign_106 1 rfl ?_
                    refine w_bipush (v := 60) ok dX12_sign_107 (by decide) ?_
                    refine w_icmp_ne (tgt := 128) ok dX12_sign_109 (by decide) (fun h => absurd c197 h) (fun _ => ?_)
                    refine w_aload_n ok dX12_sign_112 0 rfl ?_
                    refine w_cV (As := []) ok dX12_sign_113 iX12_here (lX12_181 rfl) (rcv cls12 (congrArg Prod.fst s_130)) (ltM hnn (by decide)) (c_X12_here ro hnn   (hp58 c1 c29 c57 c85 c113 c141 c169 c197 c198)) (by decide) rfl (Nat.le_of_ble_eq_true rfl) ?_
                    refine w_bipush (v := 62) ok dX12_sign_116 (by decide) ?_
                    refine w_icmp_ne (tgt := 128) ok dX12_sign_118 (by decide) (fun c199 => ?_) (fun c199 => ?_)
                    · skip
                      refine w_iload_n ok dX12_sign_128 1 rfl ?_
                      refine w_bipush (v := 62) ok dX12_sign_129 (by decide) ?_
                      refine w_icmp_ne (tgt := 150) ok dX12_sign_131 (by decide) (fun c200 => ?_) (fun c200 => ?_)
                      · skip
                        refine w_aload_n ok dX12_sign_150 0 rfl ?_
                        refine w_getI ok dX12_sign_151 (fX12_198 rfl) (congrArg Prod.fst s_130) rfl (ltM hnn (by decide)) ?_
                        refine w_sipush (v := 256) ok dX12_sign_154 (by decide) ?_
                        refine w_icmp_lt (tgt := 170) ok dX12_sign_157 (by decide) (fun c201 => ?_) (fun c201 => ?_)
                        · skip
                          exact w_vret ok fin dX12_sign_170 rfl (by unfold FI_X12_sign; simp only [if_neg c1]; simp only [if_neg c29]; simp only [if_neg c57]; simp only [if_neg c85]; simp only [if_neg c113]; simp only [if_neg c141]; simp only [if_neg c169]; simp only [if_pos c197]; simp only [if_neg c198]; simp only [if_neg c199]; simp only [if_neg c200]; simp only [if_pos c201]; exact Pd.i)
                        · skip
                          refine w_aload_n ok dX12_sign_160 0 rfl ?_
                          refine w_dup ok dX12_sign_161 rfl ?_
                          refine w_getI ok dX12_sign_162 (fX12_175 rfl) (congrArg Prod.fst s_130) rfl (ltM hnn (by decide)) ?_
                          refine w_iconst (v := 1) ok dX12_sign_165 (by decide) ?_
                          refine w_iadd ok dX12_sign_166 ?_
                          refine w_putI ok dX12_sign_167 (fwX12_175 rfl) (congrArg Prod.fst s_130) rfl (ltM hnn (by decide)) ?_
                          show WK K 0 0 170 [(0, .ref 130), (1, .int a0)] [] (S85_X12_sign a0 I J) J R n g
                          exact w_vret ok fin dX12_sign_170 rfl (by unfold FI_X12_sign; simp only [if_neg c1]; simp only [if_neg c29]; simp only [if_neg c57]; simp only [if_neg c85]; simp only [if_neg c113]; simp only [if_neg c141]; simp only [if_neg c169]; simp only [if_pos c197]; simp only [if_neg c198]; simp only [if_neg c199]; simp only [if_neg c200]; simp only [if_neg c201]; exact Pd.i)
                      · skip
                        refine w_aload_n ok dX12_sign_134 0 rfl ?_
                        refine w_cV (As := []) ok dX12_sign_135 iX12_here (lX12_181 rfl) (rcv cls12 (congrArg Prod.fst s_130)) (ltM hnn (by decide)) (c_X12_here ro hnn   (hp59 c1 c29 c57 c85 c113 c141 c169 c197 c198 c199 c200)) (by decide) rfl (Nat.le_of_ble_eq_true rfl) ?_
                        refine w_bipush (v := 61) ok dX12_sign_138 (by decide) ?_
                        refine w_icmp_ne (tgt := 150) ok dX12_sign_140 (by decide) (fun _ => ?_) (fun h => absurd h c198)
                        refine w_aload_n ok dX12_sign_150 0 rfl ?_
                        refine w_getI ok dX12_sign_151 (fX12_198 rfl) (congrArg Prod.fst s_130) rfl (ltM hnn (by decide)) ?_
                        refine w_sipush (v := 256) ok dX12_sign_154 (by decide) ?_
                        refine w_icmp_lt (tgt := 170) ok dX12_sign_157 (by decide) (fun c202 => ?_) (fun c202 => ?_)
                        · skip
                          exact w_vret ok fin dX12_sign_170 rfl (by unfold FI_X12_sign; simp only [if_neg c1]; simp only [if_neg c29]; simp only [if_neg c57]; simp only [if_neg c85]; simp only [if_neg c113]; simp only [if_neg c141]; simp only [if_neg c169]; simp only [if_pos c197]; simp only [if_neg c198]; simp only [if_neg c199]; simp only [if_pos c200]; simp only [if_pos c202]; exact Pd.i)
                        · skip
                          refine w_aload_n ok dX12_sign_160 0 rfl ?_
                          refine w_dup ok dX12_sign_161 rfl ?_
                          refine w_getI ok dX12_sign_162 (fX12_175 rfl) (congrArg Prod.fst s_130) rfl (ltM hnn (by decide)) ?_
                          refine w_iconst (v := 1) ok dX12_sign_165 (by decide) ?_
                          refine w_iadd ok dX12_sign_166 ?_
                          refine w_putI ok dX12_sign_167 (fwX12_175 rfl) (congrArg Prod.fst s_130) rfl (ltM hnn (by decide)) ?_
                          show WK K 0 0 170 [(0, .ref 130), (1, .int a0)] [] (S86_X12_sign a0 I J) J R n g
                          exact w_vret ok fin dX12_sign_170 rfl (by unfold FI_X12_sign; simp only [if_neg c1]; simp only [if_neg c29]; simp only [if_neg c57]; simp only [if_neg c85]; simp only [if_neg c113]; simp only [if_neg c141]; simp only [if_neg c169]; simp only [if_pos c197]; simp only [if_neg c198]; simp only [if_neg c199]; simp only [if_pos c200]; simp only [if_neg c202]; exact Pd.i)
                    · skip
                      refine w_aload_n ok dX12_sign_121 0 rfl ?_
                      refine w_sipush (v := 257) ok dX12_sign_122 (by decide) ?_
                      refine w_putI ok dX12_sign_125 (fwX12_198 rfl) (congrArg Prod.fst s_130) rfl (ltM hnn (by decide)) ?_
                      show WK K 0 0 128 [(0, .ref 130), (1, .int a0)] [] (S87_X12_sign a0 I J) J R n g
                      refine w_iload_n ok dX12_sign_128 1 rfl ?_
                      refine w_bipush (v := 62) ok dX12_sign_129 (by decide) ?_
                      refine w_icmp_ne (tgt := 150) ok dX12_sign_131 (by decide) (fun c203 => ?_) (fun c203 => ?_)
                      · skip
                        refine w_aload_n ok dX12_sign_150 0 rfl ?_
                        refine w_getI ok dX12_sign_151 (fX12_198 rfl) (congrArg Prod.fst s_130) rfl (ltM hnn (by decide)) ?_
                        refine w_sipush (v := 256) ok dX12_sign_154 (by decide) ?_
                        refine w_icmp_lt (tgt := 170) ok dX12_sign_157 (by decide) (fun c204 => ?_) (fun c204 => ?_)
                        · skip
                          exact w_vret ok fin dX12_sign_170 rfl (by unfold FI_X12_sign; simp only [if_neg c1]; simp only [if_neg c29]; simp only [if_neg c57]; simp only [if_neg c85]; simp only [if_neg c113]; simp only [if_neg c141]; simp only [if_neg c169]; simp only [if_pos c197]; simp only [if_neg c198]; simp only [if_pos c199]; simp only [if_neg c203]; simp only [if_pos c204]; exact Pd.i)
                        · skip
                          refine w_aload_n ok dX12_sign_160 0 rfl ?_
                          refine w_dup ok dX12_sign_161 rfl ?_
                          refine w_getI ok dX12_sign_162 (fX12_175 rfl) (congrArg Prod.fst s_130) rfl (ltM hnn (by decide)) ?_
                          refine w_iconst (v := 1) ok dX12_sign_165 (by decide) ?_
                          refine w_iadd ok dX12_sign_166 ?_
                          refine w_putI ok dX12_sign_167 (fwX12_175 rfl) (congrArg Prod.fst s_130) rfl (ltM hnn (by decide)) ?_
                          exact w_vret ok fin dX12_sign_170 rfl (by unfold FI_X12_sign; simp only [if_neg c1]; simp only [if_neg c29]; simp only [if_neg c57]; simp only [if_neg c85]; simp only [if_neg c113]; simp only [if_neg c141]; simp only [if_neg c169]; simp only [if_pos c197]; simp only [if_neg c198]; simp only [if_pos c199]; simp only [if_neg c203]; simp only [if_neg c204]; exact Pd.i)
                      · skip
                        refine w_aload_n ok dX12_sign_134 0 rfl ?_
                        refine w_cV (As := []) ok dX12_sign_135 iX12_here (lX12_181 rfl) (rcv cls12 (congrArg Prod.fst s_130)) (ltM hnn (by decide)) (c_X12_here ro hnn   (hp60 c1 c29 c57 c85 c113 c141 c169 c197 c198 c199 c203)) (by decide) rfl (Nat.le_of_ble_eq_true rfl) ?_
                        refine w_bipush (v := 61) ok dX12_sign_138 (by decide) ?_
                        refine w_icmp_ne (tgt := 150) ok dX12_sign_140 (by decide) (fun c205 => ?_) (fun c205 => ?_)
                        · skip
                          refine w_aload_n ok dX12_sign_150 0 rfl ?_
                          refine w_getI ok dX12_sign_151 (fX12_198 rfl) (congrArg Prod.fst s_130) rfl (ltM hnn (by decide)) ?_
                          refine w_sipush (v := 256) ok dX12_sign_154 (by decide) ?_
                          refine w_icmp_lt (tgt := 170) ok dX12_sign_157 (by decide) (fun c206 => ?_) (fun c206 => ?_)
                          · skip
                            exact w_vret ok fin dX12_sign_170 rfl (by unfold FI_X12_sign; simp only [if_neg c1]; simp only [if_neg c29]; simp only [if_neg c57]; simp only [if_neg c85]; simp only [if_neg c113]; simp only [if_neg c141]; simp only [if_neg c169]; simp only [if_pos c197]; simp only [if_neg c198]; simp only [if_pos c199]; simp only [if_pos c203]; simp only [if_neg c205]; simp only [if_pos c206]; exact Pd.i)
                          · skip
                            refine w_aload_n ok dX12_sign_160 0 rfl ?_
                            refine w_dup ok dX12_sign_161 rfl ?_
                            refine w_getI ok dX12_sign_162 (fX12_175 rfl) (congrArg Prod.fst s_130) rfl (ltM hnn (by decide)) ?_
                            refine w_iconst (v := 1) ok dX12_sign_165 (by decide) ?_
                            refine w_iadd ok dX12_sign_166 ?_
                            refine w_putI ok dX12_sign_167 (fwX12_175 rfl) (congrArg Prod.fst s_130) rfl (ltM hnn (by decide)) ?_
                            exact w_vret ok fin dX12_sign_170 rfl (by unfold FI_X12_sign; simp only [if_neg c1]; simp only [if_neg c29]; simp only [if_neg c57]; simp only [if_neg c85]; simp only [if_neg c113]; simp only [if_neg c141]; simp only [if_neg c169]; simp only [if_pos c197]; simp only [if_neg c198]; simp only [if_pos c199]; simp only [if_pos c203]; simp only [if_neg c205]; simp only [if_neg c206]; exact Pd.i)
                        · skip
                          refine w_aload_n ok dX12_sign_143 0 rfl ?_
                          refine w_sipush (v := 258) ok dX12_sign_144 (by decide) ?_
                          refine w_putI ok dX12_sign_147 (fwX12_198 rfl) (congrArg Prod.fst s_130) rfl (ltM hnn (by decide)) ?_
                          refine w_aload_n ok dX12_sign_150 0 rfl ?_
                          refine w_getI ok dX12_sign_151 (fX12_198 rfl) (congrArg Prod.fst s_130) rfl (ltM hnn (by decide)) ?_
                          refine w_sipush (v := 256) ok dX12_sign_154 (by decide) ?_
                          refine w_icmp_lt (tgt := 170) ok dX12_sign_157 (by decide) (fun c207 => ?_) (fun c207 => ?_)
                          · skip
                            exact w_vret ok fin dX12_sign_170 rfl (by unfold FI_X12_sign; simp only [if_neg c1]; simp only [if_neg c29]; simp only [if_neg c57]; simp only [if_neg c85]; simp only [if_neg c113]; simp only [if_neg c141]; simp only [if_neg c169]; simp only [if_pos c197]; simp only [if_neg c198]; simp only [if_pos c199]; simp only [if_pos c203]; simp only [if_pos c205]; simp only [if_pos c207]; exact Pd.i)
                          · skip
                            refine w_aload_n ok dX12_sign_160 0 rfl ?_
                            refine w_dup ok dX12_sign_161 rfl ?_
                            refine w_getI ok dX12_sign_162 (fX12_175 rfl) (congrArg Prod.fst s_130) rfl (ltM hnn (by decide)) ?_
                            refine w_iconst (v := 1) ok dX12_sign_165 (by decide) ?_
                            refine w_iadd ok dX12_sign_166 ?_
                            refine w_putI ok dX12_sign_167 (fwX12_175 rfl) (congrArg Prod.fst s_130) rfl (ltM hnn (by decide)) ?_
                            show WK K 0 0 170 [(0, .ref 130), (1, .int a0)] [] (S88_X12_sign a0 I J) J R n g
                            exact w_vret ok fin dX12_sign_170 rfl (by unfold FI_X12_sign; simp only [if_neg c1]; simp only [if_neg c29]; simp only [if_neg c57]; simp only [if_neg c85]; simp only [if_neg c113]; simp only [if_neg c141]; simp only [if_neg c169]; simp only [if_pos c197]; simp only [if_neg c198]; simp only [if_pos c199]; simp only [if_pos c203]; simp only [if_pos c205]; simp only [if_neg c207]; exact Pd.i)
                  · skip
                    refine w_aload_n ok dX12_sign_99 0 rfl ?_
                    refine w_sipush (v := 256) ok dX12_sign_100 (by decide) ?_
                    refine w_putI ok dX12_sign_103 (fwX12_198 rfl) (congrArg Prod.fst s_130) rfl (ltM hnn (by decide)) ?_
                    show WK K 0 0 106 [(0, .ref 130), (1, .int a0)] [] (S89_X12_sign a0 I J) J R n g
                    refine w_iload_n ok dX12_sign_106 1 rfl ?_
                    refine w_bipush (v := 60) ok dX12_sign_107 (by decide) ?_
                    refine w_icmp_ne (tgt := 128) ok dX12_sign_109 (by decide) (fun h => absurd c197 h) (fun _ => ?_)
                    refine w_aload_n ok dX12_sign_112 0 rfl ?_
                    refine w_cV (As := []) ok dX12_sign_113 iX12_here (lX12_181 rfl) (rcv cls12 (congrArg Prod.fst s_130)) (ltM hnn (by decide)) (c_X12_here ro hnn   (hp61 c1 c29 c57 c85 c113 c141 c169 c197 c198)) (by decide) rfl (Nat.le_of_ble_eq_true rfl) ?_
                    refine w_bipush (v := 62) ok dX12_sign_116 (by decide) ?_
                    refine w_icmp_ne (tgt := 128) ok dX12_sign_118 (by decide) (fun c208 => ?_) (fun c208 => ?_)
                    · skip
                      refine w_iload_n ok dX12_sign_128 1 rfl ?_
                      refine w_bipush (v := 62) ok dX12_sign_129 (by decide) ?_
                      refine w_icmp_ne (tgt := 150) ok dX12_sign_131 (by decide) (fun c209 => ?_) (fun c209 => ?_)
                      · skip
                        refine w_aload_n ok dX12_sign_150 0 rfl ?_
                        refine w_getI ok dX12_sign_151 (fX12_198 rfl) (congrArg Prod.fst s_130) rfl (ltM hnn (by decide)) ?_
                        refine w_sipush (v := 256) ok dX12_sign_154 (by decide) ?_
                        refine w_icmp_lt (tgt := 170) ok dX12_sign_157 (by decide) (fun c210 => ?_) (fun c210 => ?_)
                        · skip
                          exact w_vret ok fin dX12_sign_170 rfl (by unfold FI_X12_sign; simp only [if_neg c1]; simp only [if_neg c29]; simp only [if_neg c57]; simp only [if_neg c85]; simp only [if_neg c113]; simp only [if_neg c141]; simp only [if_neg c169]; simp only [if_pos c197]; simp only [if_pos c198]; simp only [if_neg c208]; simp only [if_neg c209]; simp only [if_pos c210]; exact Pd.i)
                        · skip
                          refine w_aload_n ok dX12_sign_160 0 rfl ?_
                          refine w_dup ok dX12_sign_161 rfl ?_
                          refine w_getI ok dX12_sign_162 (fX12_175 rfl) (congrArg Prod.fst s_130) rfl (ltM hnn (by decide)) ?_
                          refine w_iconst (v := 1) ok dX12_sign_165 (by decide) ?_
                          refine w_iadd ok dX12_sign_166 ?_
                          refine w_putI ok dX12_sign_167 (fwX12_175 rfl) (congrArg Prod.fst s_130) rfl (ltM hnn (by decide)) ?_
                          exact w_vret ok fin dX12_sign_170 rfl (by unfold FI_X12_sign; simp only [if_neg c1]; simp only [if_neg c29]; simp only [if_neg c57]; simp only [if_neg c85]; simp only [if_neg c113]; simp only [if_neg c141]; simp only [if_neg c169]; simp only [if_pos c197]; simp only [if_pos c198]; simp only [if_neg c208]; simp only [if_neg c209]; simp only [if_neg c210]; exact Pd.i)
                      · skip
                        refine w_aload_n ok dX12_sign_134 0 rfl ?_
                        refine w_cV (As := []) ok dX12_sign_135 iX12_here (lX12_181 rfl) (rcv cls12 (congrArg Prod.fst s_130)) (ltM hnn (by decide)) (c_X12_here ro hnn   (hp62 c1 c29 c57 c85 c113 c141 c169 c197 c198 c208 c209)) (by decide) rfl (Nat.le_of_ble_eq_true rfl) ?_
                        refine w_bipush (v := 61) ok dX12_sign_138 (by decide) ?_
                        refine w_icmp_ne (tgt := 150) ok dX12_sign_140 (by decide) (fun c211 => ?_) (fun c211 => ?_)
                        · skip
                          refine w_aload_n ok dX12_sign_150 0 rfl ?_
                          refine w_getI ok dX12_sign_151 (fX12_198 rfl) (congrArg Prod.fst s_130) rfl (ltM hnn (by decide)) ?_
                          refine w_sipush (v := 256) ok dX12_sign_154 (by decide) ?_
                          refine w_icmp_lt (tgt := 170) ok dX12_sign_157 (by decide) (fun c212 => ?_) (fun c212 => ?_)
                          · skip
                            exact w_vret ok fin dX12_sign_170 rfl (by unfold FI_X12_sign; simp only [if_neg c1]; simp only [if_neg c29]; simp only [if_neg c57]; simp only [if_neg c85]; simp only [if_neg c113]; simp only [if_neg c141]; simp only [if_neg c169]; simp only [if_pos c197]; simp only [if_pos c198]; simp only [if_neg c208]; simp only [if_pos c209]; simp only [if_neg c211]; simp only [if_pos c212]; exact Pd.i)
                          · skip
                            refine w_aload_n ok dX12_sign_160 0 rfl ?_
                            refine w_dup ok dX12_sign_161 rfl ?_
                            refine w_getI ok dX12_sign_162 (fX12_175 rfl) (congrArg Prod.fst s_130) rfl (ltM hnn (by decide)) ?_
                            refine w_iconst (v := 1) ok dX12_sign_165 (by decide) ?_
                            refine w_iadd ok dX12_sign_166 ?_
                            refine w_putI ok dX12_sign_167 (fwX12_175 rfl) (congrArg Prod.fst s_130) rfl (ltM hnn (by decide)) ?_
                            exact w_vret ok fin dX12_sign_170 rfl (by unfold FI_X12_sign; simp only [if_neg c1]; simp only [if_neg c29]; simp only [if_neg c57]; simp only [if_neg c85]; simp only [if_neg c113]; simp only [if_neg c141]; simp only [if_neg c169]; simp only [if_pos c197]; simp only [if_pos c198]; simp only [if_neg c208]; simp only [if_pos c209]; simp only [if_neg c211]; simp only [if_neg c212]; exact Pd.i)
                        · skip
                          refine w_aload_n ok dX12_sign_143 0 rfl ?_
                          refine w_sipush (v := 258) ok dX12_sign_144 (by decide) ?_
                          refine w_putI ok dX12_sign_147 (fwX12_198 rfl) (congrArg Prod.fst s_130) rfl (ltM hnn (by decide)) ?_
                          refine w_aload_n ok dX12_sign_150 0 rfl ?_
                          refine w_getI ok dX12_sign_151 (fX12_198 rfl) (congrArg Prod.fst s_130) rfl (ltM hnn (by decide)) ?_
                          refine w_sipush (v := 256) ok dX12_sign_154 (by decide) ?_
                          refine w_icmp_lt (tgt := 170) ok dX12_sign_157 (by decide) (fun c213 => ?_) (fun c213 => ?_)
                          · skip
                            exact w_vret ok fin dX12_sign_170 rfl (by unfold FI_X12_sign; simp only [if_neg c1]; simp only [if_neg c29]; simp only [if_neg c57]; simp only [if_neg c85]; simp only [if_neg c113]; simp only [if_neg c141]; simp only [if_neg c169]; simp only [if_pos c197]; simp only [if_pos c198]; simp only [if_neg c208]; simp only [if_pos c209]; simp only [if_pos c211]; simp only [if_pos c213]; exact Pd.i)
                          · skip
                            refine w_aload_n ok dX12_sign_160 0 rfl ?_
                            refine w_dup ok dX12_sign_161 rfl ?_
                            refine w_getI ok dX12_sign_162 (fX12_175 rfl) (congrArg Prod.fst s_130) rfl (ltM hnn (by decide)) ?_
                            refine w_iconst (v := 1) ok dX12_sign_165 (by decide) ?_
                            refine w_iadd ok dX12_sign_166 ?_
                            refine w_putI ok dX12_sign_167 (fwX12_175 rfl) (congrArg Prod.fst s_130) rfl (ltM hnn (by decide)) ?_
                            show WK K 0 0 170 [(0, .ref 130), (1, .int a0)] [] (S90_X12_sign a0 I J) J R n g
                            exact w_vret ok fin dX12_sign_170 rfl (by unfold FI_X12_sign; simp only [if_neg c1]; simp only [if_neg c29]; simp only [if_neg c57]; simp only [if_neg c85]; simp only [if_neg c113]; simp only [if_neg c141]; simp only [if_neg c169]; simp only [if_pos c197]; simp only [if_pos c198]; simp only [if_neg c208]; simp only [if_pos c209]; simp only [if_pos c211]; simp only [if_neg c213]; exact Pd.i)
                    · skip
                      refine w_aload_n ok dX12_sign_121 0 rfl ?_
                      refine w_sipush (v := 257) ok dX12_sign_122 (by decide) ?_
                      refine w_putI ok dX12_sign_125 (fwX12_198 rfl) (congrArg Prod.fst s_130) rfl (ltM hnn (by decide)) ?_
                      refine w_iload_n ok dX12_sign_128 1 rfl ?_
                      refine w_bipush (v := 62) ok dX12_sign_129 (by decide) ?_
                      refine w_icmp_ne (tgt := 150) ok dX12_sign_131 (by decide) (fun c214 => ?_) (fun c214 => ?_)
                      · skip
                        refine w_aload_n ok dX12_sign_150 0 rfl ?_
                        refine w_getI ok dX12_sign_151 (fX12_198 rfl) (congrArg Prod.fst s_130) rfl (ltM hnn (by decide)) ?_
                        refine w_sipush (v := 256) ok dX12_sign_154 (by decide) ?_
                        refine w_icmp_lt (tgt := 170) ok dX12_sign_157 (by decide) (fun c215 => ?_) (fun c215 => ?_)
                        · skip
                          exact w_vret ok fin dX12_sign_170 rfl (by unfold FI_X12_sign; simp only [if_neg c1]; simp only [if_neg c29]; simp only [if_neg c57]; simp only [if_neg c85]; simp only [if_neg c113]; simp only [if_neg c141]; simp only [if_neg c169]; simp only [if_pos c197]; simp only [if_pos c198]; simp only [if_pos c208]; simp only [if_neg c214]; simp only [if_pos c215]; exact Pd.i)
                        · skip
                          refine w_aload_n ok dX12_sign_160 0 rfl ?_
                          refine w_dup ok dX12_sign_161 rfl ?_
                          refine w_getI ok dX12_sign_162 (fX12_175 rfl) (congrArg Prod.fst s_130) rfl (ltM hnn (by decide)) ?_
                          refine w_iconst (v := 1) ok dX12_sign_165 (by decide) ?_
                          refine w_iadd ok dX12_sign_166 ?_
                          refine w_putI ok dX12_sign_167 (fwX12_175 rfl) (congrArg Prod.fst s_130) rfl (ltM hnn (by decide)) ?_
                          show WK K 0 0 170 [(0, .ref 130), (1, .int a0)] [] (S91_X12_sign a0 I J) J R n g
                          exact w_vret ok fin dX12_sign_170 rfl (by unfold FI_X12_sign; simp only [if_neg c1]; simp only [if_neg c29]; simp only [if_neg c57]; simp only [if_neg c85]; simp only [if_neg c113]; simp only [if_neg c141]; simp only [if_neg c169]; simp only [if_pos c197]; simp only [if_pos c198]; simp only [if_pos c208]; simp only [if_neg c214]; simp only [if_neg c215]; exact Pd.i)
                      · skip
                        refine w_aload_n ok dX12_sign_134 0 rfl ?_
                        refine w_cV (As := []) ok dX12_sign_135 iX12_here (lX12_181 rfl) (rcv cls12 (congrArg Prod.fst s_130)) (ltM hnn (by decide)) (c_X12_here ro hnn   (hp63 c1 c29 c57 c85 c113 c141 c169 c197 c198 c208 c214)) (by decide) rfl (Nat.le_of_ble_eq_true rfl) ?_
                        refine w_bipush (v := 61) ok dX12_sign_138 (by decide) ?_
                        refine w_icmp_ne (tgt := 150) ok dX12_sign_140 (by decide) (fun c216 => ?_) (fun c216 => ?_)
                        · skip
                          refine w_aload_n ok dX12_sign_150 0 rfl ?_
                          refine w_getI ok dX12_sign_151 (fX12_198 rfl) (congrArg Prod.fst s_130) rfl (ltM hnn (by decide)) ?_
                          refine w_sipush (v := 256) ok dX12_sign_154 (by decide) ?_
                          refine w_icmp_lt (tgt := 170) ok dX12_sign_157 (by decide) (fun c217 => ?_) (fun c217 => ?_)
                          · skip
                            exact w_vret ok fin dX12_sign_170 rfl (by unfold FI_X12_sign; simp only [if_neg c1]; simp only [if_neg c29]; simp only [if_neg c57]; simp only [if_neg c85]; simp only [if_neg c113]; simp only [if_neg c141]; simp only [if_neg c169]; simp only [if_pos c197]; simp only [if_pos c198]; simp only [if_pos c208]; simp only [if_pos c214]; simp only [if_neg c216]; simp only [if_pos c217]; exact Pd.i)
                          · skip
                            refine w_aload_n ok dX12_sign_160 0 rfl ?_
                            refine w_dup ok dX12_sign_161 rfl ?_
                            refine w_getI ok dX12_sign_162 (fX12_175 rfl) (congrArg Prod.fst s_130) rfl (ltM hnn (by decide)) ?_
                            refine w_iconst (v := 1) ok dX12_sign_165 (by decide) ?_
                            refine w_iadd ok dX12_sign_166 ?_
                            refine w_putI ok dX12_sign_167 (fwX12_175 rfl) (congrArg Prod.fst s_130) rfl (ltM hnn (by decide)) ?_
                            show WK K 0 0 170 [(0, .ref 130), (1, .int a0)] [] (S92_X12_sign a0 I J) J R n g
                            exact w_vret ok fin dX12_sign_170 rfl (by unfold FI_X12_sign; simp only [if_neg c1]; simp only [if_neg c29]; simp only [if_neg c57]; simp only [if_neg c85]; simp only [if_neg c113]; simp only [if_neg c141]; simp only [if_neg c169]; simp only [if_pos c197]; simp only [if_pos c198]; simp only [if_pos c208]; simp only [if_pos c214]; simp only [if_neg c216]; simp only [if_neg c217]; exact Pd.i)
                        · skip
                          refine w_aload_n ok dX12_sign_143 0 rfl ?_
                          refine w_sipush (v := 258) ok dX12_sign_144 (by decide) ?_
                          refine w_putI ok dX12_sign_147 (fwX12_198 rfl) (congrArg Prod.fst s_130) rfl (ltM hnn (by decide)) ?_
                          refine w_aload_n ok dX12_sign_150 0 rfl ?_
                          refine w_getI ok dX12_sign_151 (fX12_198 rfl) (congrArg Prod.fst s_130) rfl (ltM hnn (by decide)) ?_
                          refine w_sipush (v := 256) ok dX12_sign_154 (by decide) ?_
                          refine w_icmp_lt (tgt := 170) ok dX12_sign_157 (by decide) (fun c218 => ?_) (fun c218 => ?_)
                          · skip
                            exact w_vret ok fin dX12_sign_170 rfl (by unfold FI_X12_sign; simp only [if_neg c1]; simp only [if_neg c29]; simp only [if_neg c57]; simp only [if_neg c85]; simp only [if_neg c113]; simp only [if_neg c141]; simp only [if_neg c169]; simp only [if_pos c197]; simp only [if_pos c198]; simp only [if_pos c208]; simp only [if_pos c214]; simp only [if_pos c216]; simp only [if_pos c218]; exact Pd.i)
                          · skip
                            refine w_aload_n ok dX12_sign_160 0 rfl ?_
                            refine w_dup ok dX12_sign_161 rfl ?_
                            refine w_getI ok dX12_sign_162 (fX12_175 rfl) (congrArg Prod.fst s_130) rfl (ltM hnn (by decide)) ?_
                            refine w_iconst (v := 1) ok dX12_sign_165 (by decide) ?_
                            refine w_iadd ok dX12_sign_166 ?_
                            refine w_putI ok dX12_sign_167 (fwX12_175 rfl) (congrArg Prod.fst s_130) rfl (ltM hnn (by decide)) ?_
                            show WK K 0 0 170 [(0, .ref 130), (1, .int a0)] [] (S93_X12_sign a0 I J) J R n g
                            exact w_vret ok fin dX12_sign_170 rfl (by unfold FI_X12_sign; simp only [if_neg c1]; simp only [if_neg c29]; simp only [if_neg c57]; simp only [if_neg c85]; simp only [if_neg c113]; simp only [if_neg c141]; simp only [if_neg c169]; simp only [if_pos c197]; simp only [if_pos c198]; simp only [if_pos c208]; simp only [if_pos c214]; simp only [if_pos c216]; simp only [if_neg c218]; exact Pd.i)
                · skip
                  refine w_iload_n ok dX12_sign_59 1 rfl ?_
                  refine w_bipush (v := 61) ok dX12_sign_60 (by decide) ?_
                  refine w_icmp_eq (tgt := 71) ok dX12_sign_62 (by decide) (fun c219 => ?_) (fun c219 => ?_)
                  · skip
                    refine w_iconst (v := 3) ok dX12_sign_71 (by decide) ?_
                    refine w_goto (tgt := 76) ok dX12_sign_72 (by decide) ?_
                    refine w_putI ok dX12_sign_76 (fwX12_188 rfl) (congrArg Prod.fst s_130) rfl (ltM hnn (by decide)) ?_
                    refine w_aload_n ok dX12_sign_79 0 rfl ?_
                    refine w_iload_n ok dX12_sign_80 1 rfl ?_
                    refine w_putI ok dX12_sign_81 (fwX12_198 rfl) (congrArg Prod.fst s_130) rfl (ltM hnn (by decide)) ?_
                    refine w_iload_n ok dX12_sign_84 1 rfl ?_
                    refine w_bipush (v := 60) ok dX12_sign_85 (by decide) ?_
                    refine w_icmp_ne (tgt := 106) ok dX12_sign_87 (by decide) (fun _ => ?_) (fun h => absurd h c197)
                    refine w_iload_n ok dX12_sign_106 1 rfl ?_
                    refine w_bipush (v := 60) ok dX12_sign_107 (by decide) ?_
                    refine w_icmp_ne (tgt := 128) ok dX12_sign_109 (by decide) (fun _ => ?_) (fun h => absurd h c197)
                    refine w_iload_n ok dX12_sign_128 1 rfl ?_
                    refine w_bipush (v := 62) ok dX12_sign_129 (by decide) ?_
                    refine w_icmp_ne (tgt := 150) ok dX12_sign_131 (by decide) (fun c220 => ?_) (fun c220 => ?_)
                    · skip
                      refine w_aload_n ok dX12_sign_150 0 rfl ?_
                      refine w_getI ok dX12_sign_151 (fX12_198 rfl) (congrArg Prod.fst s_130) rfl (ltM hnn (by decide)) ?_
                      refine w_sipush (v := 256) ok dX12_sign_154 (by decide) ?_
                      refine w_icmp_lt (tgt := 170) ok dX12_sign_157 (by decide) (fun c221 => ?_) (fun c221 => ?_)
                      · skip
                        exact w_vret ok fin dX12_sign_170 rfl (by unfold FI_X12_sign; simp only [if_neg c1]; simp only [if_neg c29]; simp only [if_neg c57]; simp only [if_neg c85]; simp only [if_neg c113]; simp only [if_neg c141]; simp only [if_neg c169]; simp only [if_neg c197]; simp only [if_pos c219]; simp only [if_neg c220]; simp only [if_pos c221]; exact Pd.i)
                      · skip
                        refine w_aload_n ok dX12_sign_160 0 rfl ?_
                        refine w_dup ok dX12_sign_161 rfl ?_
                        refine w_getI ok dX12_sign_162 (fX12_175 rfl) (congrArg Prod.fst s_130) rfl (ltM hnn (by decide)) ?_
                        refine w_iconst (v := 1) ok dX12_sign_165 (by decide) ?_
                        refine w_iadd ok dX12_sign_166 ?_
                        refine w_putI ok dX12_sign_167 (fwX12_175 rfl) (congrArg Prod.fst s_130) rfl (ltM hnn (by decide)) ?_
                        show WK K 0 0 170 [(0, .ref 130), (1, .int a0)] [] (S94_X12_sign a0 I J) J R n g
                        exact w_vret ok fin dX12_sign_170 rfl (by unfold FI_X12_sign; simp only [if_neg c1]; simp only [if_neg c29]; simp only [if_neg c57]; simp only [if_neg c85]; simp only [if_neg c113]; simp only [if_neg c141]; simp only [if_neg c169]; simp only [if_neg c197]; simp only [if_pos c219]; simp only [if_neg c220]; simp only [if_neg c221]; exact Pd.i)
                    · skip
                      refine w_aload_n ok dX12_sign_134 0 rfl ?_
                      refine w_cV (As := []) ok dX12_sign_135 iX12_here (lX12_181 rfl) (rcv cls12 (congrArg Prod.fst s_130)) (ltM hnn (by decide)) (c_X12_here ro hnn   (hp64 c1 c29 c57 c85 c113 c141 c169 c197 c219 c220)) (by decide) rfl (Nat.le_of_ble_eq_true rfl) ?_
                      refine w_bipush (v := 61) ok dX12_sign_138 (by decide) ?_
                      refine w_icmp_ne (tgt := 150) ok dX12_sign_140 (by decide) (fun c222 => ?_) (fun c222 => ?_)
                      · skip
                        refine w_aload_n ok dX12_sign_150 0 rfl ?_
                        refine w_getI ok dX12_sign_151 (fX12_198 rfl) (congrArg Prod.fst s_130) rfl (ltM hnn (by decide)) ?_
                        refine w_sipush (v := 256) ok dX12_sign_154 (by decide) ?_
                        refine w_icmp_lt (tgt := 170) ok dX12_sign_157 (by decide) (fun c223 => ?_) (fun c223 => ?_)
                        · skip
                          exact w_vret ok fin dX12_sign_170 rfl (by unfold FI_X12_sign; simp only [if_neg c1]; simp only [if_neg c29]; simp only [if_neg c57]; simp only [if_neg c85]; simp only [if_neg c113]; simp only [if_neg c141]; simp only [if_neg c169]; simp only [if_neg c197]; simp only [if_pos c219]; simp only [if_pos c220]; simp only [if_neg c222]; simp only [if_pos c223]; exact Pd.i)
                        · skip
                          refine w_aload_n ok dX12_sign_160 0 rfl ?_
                          refine w_dup ok dX12_sign_161 rfl ?_
                          refine w_getI ok dX12_sign_162 (fX12_175 rfl) (congrArg Prod.fst s_130) rfl (ltM hnn (by decide)) ?_
                          refine w_iconst (v := 1) ok dX12_sign_165 (by decide) ?_
                          refine w_iadd ok dX12_sign_166 ?_
                          refine w_putI ok dX12_sign_167 (fwX12_175 rfl) (congrArg Prod.fst s_130) rfl (ltM hnn (by decide)) ?_
                          show WK K 0 0 170 [(0, .ref 130), (1, .int a0)] [] (S95_X12_sign a0 I J) J R n g
                          exact w_vret ok fin dX12_sign_170 rfl (by unfold FI_X12_sign; simp only [if_neg c1]; simp only [if_neg c29]; simp only [if_neg c57]; simp only [if_neg c85]; simp only [if_neg c113]; simp only [if_neg c141]; simp only [if_neg c169]; simp only [if_neg c197]; simp only [if_pos c219]; simp only [if_pos c220]; simp only [if_neg c222]; simp only [if_neg c223]; exact Pd.i)
                      · skip
                        refine w_aload_n ok dX12_sign_143 0 rfl ?_
                        refine w_sipush (v := 258) ok dX12_sign_144 (by decide) ?_
                        refine w_putI ok dX12_sign_147 (fwX12_198 rfl) (congrArg Prod.fst s_130) rfl (ltM hnn (by decide)) ?_
                        show WK K 0 0 150 [(0, .ref 130), (1, .int a0)] [] (S96_X12_sign a0 I J) J R n g
                        refine w_aload_n ok dX12_sign_150 0 rfl ?_
                        refine w_getI ok dX12_sign_151 (fX12_198 rfl) (congrArg Prod.fst s_130) rfl (ltM hnn (by decide)) ?_
                        refine w_sipush (v := 256) ok dX12_sign_154 (by decide) ?_
                        refine w_icmp_lt (tgt := 170) ok dX12_sign_157 (by decide) (fun c224 => ?_) (fun c224 => ?_)
                        · skip
                          exact w_vret ok fin dX12_sign_170 rfl (by unfold FI_X12_sign; simp only [if_neg c1]; simp only [if_neg c29]; simp only [if_neg c57]; simp only [if_neg c85]; simp only [if_neg c113]; simp only [if_neg c141]; simp only [if_neg c169]; simp only [if_neg c197]; simp only [if_pos c219]; simp only [if_pos c220]; simp only [if_pos c222]; simp only [if_pos c224]; exact Pd.i)
                        · skip
                          refine w_aload_n ok dX12_sign_160 0 rfl ?_
                          refine w_dup ok dX12_sign_161 rfl ?_
                          refine w_getI ok dX12_sign_162 (fX12_175 rfl) (congrArg Prod.fst s_130) rfl (ltM hnn (by decide)) ?_
                          refine w_iconst (v := 1) ok dX12_sign_165 (by decide) ?_
                          refine w_iadd ok dX12_sign_166 ?_
                          refine w_putI ok dX12_sign_167 (fwX12_175 rfl) (congrArg Prod.fst s_130) rfl (ltM hnn (by decide)) ?_
                          exact w_vret ok fin dX12_sign_170 rfl (by unfold FI_X12_sign; simp only [if_neg c1]; simp only [if_neg c29]; simp only [if_neg c57]; simp only [if_neg c85]; simp only [if_neg c113]; simp only [if_neg c141]; simp only [if_neg c169]; simp only [if_neg c197]; simp only [if_pos c219]; simp only [if_pos c220]; simp only [if_pos c222]; simp only [if_neg c224]; exact Pd.i)
                  · skip
                    refine w_iload_n ok dX12_sign_65 1 rfl ?_
                    refine w_bipush (v := 62) ok dX12_sign_66 (by decide) ?_
                    refine w_icmp_ne (tgt := 75) ok dX12_sign_68 (by decide) (fun c225 => ?_) (fun c225 => ?_)
                    · skip
                      refine w_iconst (v := 5) ok dX12_sign_75 (by decide) ?_
                      refine w_putI ok dX12_sign_76 (fwX12_188 rfl) (congrArg Prod.fst s_130) rfl (ltM hnn (by decide)) ?_
                      refine w_aload_n ok dX12_sign_79 0 rfl ?_
                      refine w_iload_n ok dX12_sign_80 1 rfl ?_
                      refine w_putI ok dX12_sign_81 (fwX12_198 rfl) (congrArg Prod.fst s_130) rfl (ltM hnn (by decide)) ?_
                      refine w_iload_n ok dX12_sign_84 1 rfl ?_
                      refine w_bipush (v := 60) ok dX12_sign_85 (by decide) ?_
                      refine w_icmp_ne (tgt := 106) ok dX12_sign_87 (by decide) (fun _ => ?_) (fun h => absurd h c197)
                      refine w_iload_n ok dX12_sign_106 1 rfl ?_
                      refine w_bipush (v := 60) ok dX12_sign_107 (by decide) ?_
                      refine w_icmp_ne (tgt := 128) ok dX12_sign_109 (by decide) (fun _ => ?_) (fun h => absurd h c197)
                      refine w_iload_n ok dX12_sign_128 1 rfl ?_
                      refine w_bipush (v := 62) ok dX12_sign_129 (by decide) ?_
                      refine w_icmp_ne (tgt := 150) ok dX12_sign_131 (by decide) (fun _ => ?_) (fun h => absurd h c225)
                      refine w_aload_n ok dX12_sign_150 0 rfl ?_
                      refine w_getI ok dX12_sign_151 (fX12_198 rfl) (congrArg Prod.fst s_130) rfl (ltM hnn (by decide)) ?_
                      refine w_sipush (v := 256) ok dX12_sign_154 (by decide) ?_
                      refine w_icmp_lt (tgt := 170) ok dX12_sign_157 (by decide) (fun c226 => ?_) (fun c226 => ?_)
                      · skip
                        exact w_vret ok fin dX12_sign_170 rfl (by unfold FI_X12_sign; simp only [if_neg c1]; simp only [if_neg c29]; simp only [if_neg c57]; simp only [if_neg c85]; simp only [if_neg c113]; simp only [if_neg c141]; simp only [if_neg c169]; simp only [if_neg c197]; simp only [if_neg c219]; simp only [if_neg c225]; simp only [if_pos c226]; exact Pd.i)
                      · skip
                        refine w_aload_n ok dX12_sign_160 0 rfl ?_
                        refine w_dup ok dX12_sign_161 rfl ?_
                        refine w_getI ok dX12_sign_162 (fX12_175 rfl) (congrArg Prod.fst s_130) rfl (ltM hnn (by decide)) ?_
                        refine w_iconst (v := 1) ok dX12_sign_165 (by decide) ?_
                        refine w_iadd ok dX12_sign_166 ?_
                        refine w_putI ok dX12_sign_167 (fwX12_175 rfl) (congrArg Prod.fst s_130) rfl (ltM hnn (by decide)) ?_
                        show WK K 0 0 170 [(0, .ref 130), (1, .int a0)] [] (S97_X12_sign a0 I J) J R n g
                        exact w_vret ok fin dX12_sign_170 rfl (by unfold FI_X12_sign; simp only [if_neg c1]; simp only [if_neg c29]; simp only [if_neg c57]; simp only [if_neg c85]; simp only [if_neg c113]; simp only [if_neg c141]; simp only [if_neg c169]; simp only [if_neg c197]; simp only [if_neg c219]; simp only [if_neg c225]; simp only [if_neg c226]; exact Pd.i)
                    · skip
                      refine w_iconst (v := 3) ok dX12_sign_71 (by decide) ?_
                      refine w_goto (tgt := 76) ok dX12_sign_72 (by decide) ?_
                      refine w_putI ok dX12_sign_76 (fwX12_188 rfl) (congrArg Prod.fst s_130) rfl (ltM hnn (by decide)) ?_
                      refine w_aload_n ok dX12_sign_79 0 rfl ?_
                      refine w_iload_n ok dX12_sign_80 1 rfl ?_
                      refine w_putI ok dX12_sign_81 (fwX12_198 rfl) (congrArg Prod.fst s_130) rfl (ltM hnn (by decide)) ?_
                      refine w_iload_n ok dX12_sign_84 1 rfl ?_
                      refine w_bipush (v := 60) ok dX12_sign_85 (by decide) ?_
                      refine w_icmp_ne (tgt := 106) ok dX12_sign_87 (by decide) (fun _ => ?_) (fun h => absurd h c197)
                      refine w_iload_n ok dX12_sign_106 1 rfl ?_
                      refine w_bipush (v := 60) ok dX12_sign_107 (by decide) ?_
                      refine w_icmp_ne (tgt := 128) ok dX12_sign_109 (by decide) (fun _ => ?_) (fun h => absurd h c197)
                      refine w_iload_n ok dX12_sign_128 1 rfl ?_
                      refine w_bipush (v := 62) ok dX12_sign_129 (by decide) ?_
                      refine w_icmp_ne (tgt := 150) ok dX12_sign_131 (by decide) (fun h => absurd c225 h) (fun _ => ?_)
                      refine w_aload_n ok dX12_sign_134 0 rfl ?_
                      refine w_cV (As := []) ok dX12_sign_135 iX12_here (lX12_181 rfl) (rcv cls12 (congrArg Prod.fst s_130)) (ltM hnn (by decide)) (c_X12_here ro hnn   (hp65 c1 c29 c57 c85 c113 c141 c169 c197 c219 c225)) (by decide) rfl (Nat.le_of_ble_eq_true rfl) ?_
                      refine w_bipush (v := 61) ok dX12_sign_138 (by decide) ?_
                      refine w_icmp_ne (tgt := 150) ok dX12_sign_140 (by decide) (fun c227 => ?_) (fun c227 => ?_)
                      · skip
                        refine w_aload_n ok dX12_sign_150 0 rfl ?_
                        refine w_getI ok dX12_sign_151 (fX12_198 rfl) (congrArg Prod.fst s_130) rfl (ltM hnn (by decide)) ?_
                        refine w_sipush (v := 256) ok dX12_sign_154 (by decide) ?_
                        refine w_icmp_lt (tgt := 170) ok dX12_sign_157 (by decide) (fun c228 => ?_) (fun c228 => ?_)
                        · skip
                          exact w_vret ok fin dX12_sign_170 rfl (by unfold FI_X12_sign; simp only [if_neg c1]; simp only [if_neg c29]; simp only [if_neg c57]; simp only [if_neg c85]; simp only [if_neg c113]; simp only [if_neg c141]; simp only [if_neg c169]; simp only [if_neg c197]; simp only [if_neg c219]; simp only [if_pos c225]; simp only [if_neg c227]; simp only [if_pos c228]; exact Pd.i)
                        · skip
                          refine w_aload_n ok dX12_sign_160 0 rfl ?_
                          refine w_dup ok dX12_sign_161 rfl ?_
                          refine w_getI ok dX12_sign_162 (fX12_175 rfl) (congrArg Prod.fst s_130) rfl (ltM hnn (by decide)) ?_
                          refine w_iconst (v := 1) ok dX12_sign_165 (by decide) ?_
                          refine w_iadd ok dX12_sign_166 ?_
                          refine w_putI ok dX12_sign_167 (fwX12_175 rfl) (congrArg Prod.fst s_130) rfl (ltM hnn (by decide)) ?_
                          show WK K 0 0 170 [(0, .ref 130), (1, .int a0)] [] (S98_X12_sign a0 I J) J R n g
                          exact w_vret ok fin dX12_sign_170 rfl (by unfold FI_X12_sign; simp only [if_neg c1]; simp only [if_neg c29]; simp only [if_neg c57]; simp only [if_neg c85]; simp only [if_neg c113]; simp only [if_neg c141]; simp only [if_neg c169]; simp only [if_neg c197]; simp only [if_neg c219]; simp only [if_pos c225]; simp only [if_neg c227]; simp only [if_neg c228]; exact Pd.i)
                      · skip
                        refine w_aload_n ok dX12_sign_143 0 rfl ?_
                        refine w_sipush (v := 258) ok dX12_sign_144 (by decide) ?_
                        refine w_putI ok dX12_sign_147 (fwX12_198 rfl) (congrArg Prod.fst s_130) rfl (ltM hnn (by decide)) ?_
                        show WK K 0 0 150 [(0, .ref 130), (1, .int a0)] [] (S99_X12_sign a0 I J) J R n g
                        refine w_aload_n ok dX12_sign_150 0 rfl ?_
                        refine w_getI ok dX12_sign_151 (fX12_198 rfl) (congrArg Prod.fst s_130) rfl (ltM hnn (by decide)) ?_
                        refine w_sipush (v := 256) ok dX12_sign_154 (by decide) ?_
                        refine w_icmp_lt (tgt := 170) ok dX12_sign_157 (by decide) (fun c229 => ?_) (fun c229 => ?_)
                        · skip
                          exact w_vret ok fin dX12_sign_170 rfl (by unfold FI_X12_sign; simp only [if_neg c1]; simp only [if_neg c29]; simp only [if_neg c57]; simp only [if_neg c85]; simp only [if_neg c113]; simp only [if_neg c141]; simp only [if_neg c169]; simp only [if_neg c197]; simp only [if_neg c219]; simp only [if_pos c225]; simp only [if_pos c227]; simp only [if_pos c229]; exact Pd.i)
                        · skip
                          refine w_aload_n ok dX12_sign_160 0 rfl ?_
                          refine w_dup ok dX12_sign_161 rfl ?_
                          refine w_getI ok dX12_sign_162 (fX12_175 rfl) (congrArg Prod.fst s_130) rfl (ltM hnn (by decide)) ?_
                          refine w_iconst (v := 1) ok dX12_sign_165 (by decide) ?_
                          refine w_iadd ok dX12_sign_166 ?_
                          refine w_putI ok dX12_sign_167 (fwX12_175 rfl) (congrArg Prod.fst s_130) rfl (ltM hnn (by decide)) ?_
                          exact w_vret ok fin dX12_sign_170 rfl (by unfold FI_X12_sign; simp only [if_neg c1]; simp only [if_neg c29]; simp only [if_neg c57]; simp only [if_neg c85]; simp only [if_neg c113]; simp only [if_neg c141]; simp only [if_neg c169]; simp only [if_neg c197]; simp only [if_neg c219]; simp only [if_pos c225]; simp only [if_pos c227]; simp only [if_neg c229]; exact Pd.i)
