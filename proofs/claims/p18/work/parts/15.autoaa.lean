/-! printed by wip/whole/gen_c.py: contracts by program -/
def S1_J6_bitCount_0f7a4 (a0 : Int32) (I : SI) (J : SJ) : Int32 := a0 - (((a0.toUInt32 >>> ((1 : Int32).toUInt32 &&& Int32.toUInt32 31)).toInt32) &&& 1431655765)
def S2_J6_bitCount_0f7a4 (a0 : Int32) (I : SI) (J : SJ) : Int32 := ((S1_J6_bitCount_0f7a4 a0 I J).toUInt32 >>> ((2 : Int32).toUInt32 &&& Int32.toUInt32 31)).toInt32
def S3_J6_bitCount_0f7a4 (a0 : Int32) (I : SI) (J : SJ) : Int32 := ((S1_J6_bitCount_0f7a4 a0 I J) &&& 858993459) + ((S2_J6_bitCount_0f7a4 a0 I J) &&& 858993459)
def S4_J6_bitCount_0f7a4 (a0 : Int32) (I : SI) (J : SJ) : Int32 := ((S3_J6_bitCount_0f7a4 a0 I J).toUInt32 >>> ((4 : Int32).toUInt32 &&& Int32.toUInt32 31)).toInt32
def S5_J6_bitCount_0f7a4 (a0 : Int32) (I : SI) (J : SJ) : Int32 := ((((S3_J6_bitCount_0f7a4 a0 I J) + (S4_J6_bitCount_0f7a4 a0 I J)) &&& 252645135).toUInt32 >>> ((8 : Int32).toUInt32 &&& Int32.toUInt32 31)).toInt32
def S6_J6_bitCount_0f7a4 (a0 : Int32) (I : SI) (J : SJ) : Int32 := (((S3_J6_bitCount_0f7a4 a0 I J) + (S4_J6_bitCount_0f7a4 a0 I J)) &&& 252645135) + (S5_J6_bitCount_0f7a4 a0 I J)
def S7_J6_bitCount_0f7a4 (a0 : Int32) (I : SI) (J : SJ) : Int32 := ((S6_J6_bitCount_0f7a4 a0 I J).toUInt32 >>> ((16 : Int32).toUInt32 &&& Int32.toUInt32 31)).toInt32
def F_J6_bitCount_0f7a4 (a0 : Int32) (I : SI) (J : SJ) : Int32 := ((S6_J6_bitCount_0f7a4 a0 I J) + (S7_J6_bitCount_0f7a4 a0 I J)) &&& 63
set_option maxHeartbeats 1000000 in
set_option maxRecDepth 40000 in
theorem c_J6_bitCount_0f7a4 {I : SI} {J : SJ} {R : SR} {n g : Nat} {f : Fr} (ro : RO R) (hnn : nK ≤ n) (hf : f.1 = true) (a0 : Int32)   : MM 0 0 0 mJ6_bitCount_0f7a4 [.int a0] (eI f I) (eJ f J) R n g (Pd (some (.int (F_J6_bitCount_0f7a4 a0 I J))) (eI f I) (eJ f J) R n g) := by
  refine MM.of (by decide) (Nat.le_of_ble_eq_true rfl) fun K ok fin => ?_
  show WK K 0 0 0 [(0, .int a0)] [] (eI f I) (eJ f J) R n g
  refine w_iload_n ok dJ6_bitCount_0f7a4_0 0 rfl ?_
  refine w_iload_n ok dJ6_bitCount_0f7a4_1 0 rfl ?_
  refine w_iconst (v := 1) ok dJ6_bitCount_0f7a4_2 (by decide) ?_
  refine w_iushr ok dJ6_bitCount_0f7a4_3 ?_
  refine w_ldcw ok dJ6_bitCount_0f7a4_4 kJ6_265 ?_
  refine w_iand ok dJ6_bitCount_0f7a4_7 ?_
  refine w_isub ok dJ6_bitCount_0f7a4_8 ?_
  show WK K 0 0 9 [(0, .int a0)] [.int (S1_J6_bitCount_0f7a4 a0 I J)] (eI f I) (eJ f J) R n g
  refine w_istore_n ok dJ6_bitCount_0f7a4_9 rfl (by decide) rfl ?_
  refine w_iload_n ok dJ6_bitCount_0f7a4_10 0 rfl ?_
  refine w_ldcw ok dJ6_bitCount_0f7a4_11 kJ6_266 ?_
  refine w_iand ok dJ6_bitCount_0f7a4_14 ?_
  refine w_iload_n ok dJ6_bitCount_0f7a4_15 0 rfl ?_
  refine w_iconst (v := 2) ok dJ6_bitCount_0f7a4_16 (by decide) ?_
  refine w_iushr ok dJ6_bitCount_0f7a4_17 ?_
  show WK K 0 0 18 [(0, .int (S1_J6_bitCount_0f7a4 a0 I J))] [.int (S2_J6_bitCount_0f7a4 a0 I J), .int ((S1_J6_bitCount_0f7a4 a0 I J) &&& 858993459)] (eI f I) (eJ f J) R n g
  refine w_ldcw ok dJ6_bitCount_0f7a4_18 kJ6_266 ?_
  refine w_iand ok dJ6_bitCount_0f7a4_21 ?_
  refine w_iadd ok dJ6_bitCount_0f7a4_22 ?_
  show WK K 0 0 23 [(0, .int (S1_J6_bitCount_0f7a4 a0 I J))] [.int (S3_J6_bitCount_0f7a4 a0 I J)] (eI f I) (eJ f J) R n g
  refine w_istore_n ok dJ6_bitCount_0f7a4_23 rfl (by decide) rfl ?_
  refine w_iload_n ok dJ6_bitCount_0f7a4_24 0 rfl ?_
  refine w_iload_n ok dJ6_bitCount_0f7a4_25 0 rfl ?_
  refine w_iconst (v := 4) ok dJ6_bitCount_0f7a4_26 (by decide) ?_
  refine w_iushr ok dJ6_bitCount_0f7a4_27 ?_
  show WK K 0 0 28 [(0, .int (S3_J6_bitCount_0f7a4 a0 I J))] [.int (S4_J6_bitCount_0f7a4 a0 I J), .int (S3_J6_bitCount_0f7a4 a0 I J)] (eI f I) (eJ f J) R n g
  refine w_iadd ok dJ6_bitCount_0f7a4_28 ?_
  refine w_ldcw ok dJ6_bitCount_0f7a4_29 kJ6_267 ?_
  refine w_iand ok dJ6_bitCount_0f7a4_32 ?_
  refine w_istore_n ok dJ6_bitCount_0f7a4_33 rfl (by decide) rfl ?_
  refine w_iload_n ok dJ6_bitCount_0f7a4_34 0 rfl ?_
  refine w_iload_n ok dJ6_bitCount_0f7a4_35 0 rfl ?_
  refine w_bipush (v := 8) ok dJ6_bitCount_0f7a4_36 (by decide) ?_
  refine w_iushr ok dJ6_bitCount_0f7a4_38 ?_
  show WK K 0 0 39 [(0, .int (((S3_J6_bitCount_0f7a4 a0 I J) + (S4_J6_bitCount_0f7a4 a0 I J)) &&& 252645135))] [.int (S5_J6_bitCount_0f7a4 a0 I J), .int (((S3_J6_bitCount_0f7a4 a0 I J) + (S4_J6_bitCount_0f7a4 a0 I J)) &&& 252645135)] (eI f I) (eJ f J) R n g
  refine w_iadd ok dJ6_bitCount_0f7a4_39 ?_
  show WK K 0 0 40 [(0, .int (((S3_J6_bitCount_0f7a4 a0 I J) + (S4_J6_bitCount_0f7a4 a0 I J)) &&& 252645135))] [.int (S6_J6_bitCount_0f7a4 a0 I J)] (eI f I) (eJ f J) R n g
  refine w_istore_n ok dJ6_bitCount_0f7a4_40 rfl (by decide) rfl ?_
  refine w_iload_n ok dJ6_bitCount_0f7a4_41 0 rfl ?_
  refine w_iload_n ok dJ6_bitCount_0f7a4_42 0 rfl ?_
  refine w_bipush (v := 16) ok dJ6_bitCount_0f7a4_43 (by decide) ?_
  refine w_iushr ok dJ6_bitCount_0f7a4_45 ?_
  show WK K 0 0 46 [(0, .int (S6_J6_bitCount_0f7a4 a0 I J))] [.int (S7_J6_bitCount_0f7a4 a0 I J), .int (S6_J6_bitCount_0f7a4 a0 I J)] (eI f I) (eJ f J) R n g
  refine w_iadd ok dJ6_bitCount_0f7a4_46 ?_
  refine w_istore_n ok dJ6_bitCount_0f7a4_47 rfl (by decide) rfl ?_
  refine w_iload_n ok dJ6_bitCount_0f7a4_48 0 rfl ?_
  refine w_bipush (v := 63) ok dJ6_bitCount_0f7a4_49 (by decide) ?_
  refine w_iand ok dJ6_bitCount_0f7a4_51 ?_
  exact w_iret ok fin dJ6_bitCount_0f7a4_52 rfl (by unfold F_J6_bitCount_0f7a4; exact Pd.i)
def S1_X11_write (a0 : Int32) (I : SI) (J : SJ) (s3 : Int32 × SI) : SI := u2 s3.2 1 (s3.2 0 1).toNatClampNeg (vp_nar .byte ((a0 >>> (s3.1 &&& 31)).toInt8.toInt32))
def B_X11_write_w3 (a0 : Int32) (I : SI) (J : SJ) (s3 : Int32 × SI) : (Int32 × SI) ⊕ (Int32 × SI) := if s3.1 < 0 then .inr (s3.1, s3.2) else (if (s3.2 0 1) < 0 then .inl ((s3.1 + (-8)), s3.2) else (if (700 : Int32) ≤ (s3.2 0 1) then .inl ((s3.1 + (-8)), s3.2) else .inl ((s3.1 + (-8)), (u2 (S1_X11_write a0 I J s3) 0 1 ((((S1_X11_write a0 I J s3)) 0 1) + 1)))))
def F_X11_write_w3 (a0 : Int32) (I : SI) (J : SJ) (s0 : Int32 × SI) : Int32 × SI := (itW (B_X11_write_w3 a0 I J) 800 s0).getD s0
def FI_X11_write (a0 : Int32) (I : SI) (J : SJ) : SI := (F_X11_write_w3 a0 I J (24, I)).2
def H_X11_write (a0 : Int32) (I : SI) (J : SJ) : Prop := ((itW (B_X11_write_w3 a0 I J) 800 (24, I)).isSome = true)
set_option maxHeartbeats 1000000 in
set_option maxRecDepth 40000 in
theorem c_X11_write {I : SI} {J : SJ} {R : SR} {n g : Nat} {f : Fr} (ro : RO R) (hnn : nK ≤ n) (hf : f.1 = true) (a0 : Int32)  (hp : H_X11_write a0 I J) : MM 0 0 0 mX11_write [.ref 0, .int a0] (eI f I) (eJ f J) R n g (Pd none (eI f (FI_X11_write a0 I J)) (eJ f J) R n g) := by
  refine MM.of (by decide) (Nat.le_of_ble_eq_true rfl) fun K ok fin => ?_
  show WK K 0 0 0 [(0, .ref 0), (1, .int a0)] [] (eI f I) (eJ f J) R n g
  have hp1 := hp
  refine w_bipush (v := 24) ok dX11_write_0 (by decide) ?_
  refine w_istore_n ok dX11_write_2 rfl (by decide) rfl ?_
  refine w_loc [1, 2, 0] rfl ?_
  refine loop_w (fun (s3 : Int32 × SI) => WK K 0 0 3 [(0, .ref 0), (1, .int a0), (2, .int s3.1)] [] (eI f s3.2) (eJ f J) R n g) (fun (s3 : Int32 × SI) => WK K 0 0 55 [(0, .ref 0), (1, .int a0), (2, .int s3.1)] [] (eI f s3.2) (eJ f J) R n g) (B_X11_write_w3 a0 I J) 800 (24, I) (F_X11_write_w3 a0 I J (24, I)) (itW_some (hp1)) ?_ ?_
  · show WK K 0 0 55 [(0, .ref 0), (1, .int a0), (2, .int ((F_X11_write_w3 a0 I J (24, I)).1))] [] (eI f ((F_X11_write_w3 a0 I J (24, I)).2)) (eJ f J) R n g
    exact w_vret ok fin dX11_write_55 rfl (by unfold FI_X11_write; exact Pd.i)
  · intro n3 s3 hs3 kc3 kx3
    show WK K 0 0 3 [(0, .ref 0), (1, .int a0), (2, .int s3.1)] [] (eI f s3.2) (eJ f J) R n g
    refine w_iload_n ok dX11_write_3 2 rfl ?_
    refine w_if_lt (tgt := 55) ok dX11_write_4 (by decide) (fun c1 => ?_) (fun c1 => ?_)
    · skip
      have eB : B_X11_write_w3 a0 I J s3 = .inr (s3.1, s3.2) := by
        unfold B_X11_write_w3; exact (if_pos c1).trans (rfl)
      refine w_loc [0, 1, 2] rfl ?_
      have kk := kx3 _ eB
      exact kk
    · skip
      refine w_aload_n ok dX11_write_7 0 rfl ?_
      refine y_getI ok dX11_write_8 (fX11_13 rfl) (congrArg Prod.fst s_0) rfl (ltK hnn (by decide)) (sdc hf (by decide)) ?_
      refine w_if_lt (tgt := 49) ok dX11_write_11 (by decide) (fun c2 => ?_) (fun c2 => ?_)
      · skip
        refine w_iinc (v := s3.1 + (-8)) ok dX11_write_49 2 rfl rfl (by decide) rfl ?_
        refine w_goto (tgt := 3) ok dX11_write_52 (by decide) ?_
        have eB : B_X11_write_w3 a0 I J s3 = .inl ((s3.1 + (-8)), s3.2) := by
          unfold B_X11_write_w3; exact (if_neg c1).trans ((if_pos c2).trans (rfl))
        refine w_loc [1, 2, 0] rfl ?_
        have kk := kc3 _ eB
        exact kk
      · skip
        refine w_aload_n ok dX11_write_14 0 rfl ?_
        refine y_getI ok dX11_write_15 (fX11_13 rfl) (congrArg Prod.fst s_0) rfl (ltK hnn (by decide)) (sdc hf (by decide)) ?_
        refine w_aload_n ok dX11_write_18 0 rfl ?_
        refine w_getR ok dX11_write_19 (fX11_9 rfl) (congrArg Prod.fst s_0) rfl (r_0_0 ro) (ltK hnn (by decide)) ?_
        refine w_alen (v := 700) ok dX11_write_22 s_1 (by decide) (by decide) (ltK hnn (by decide)) ?_
        refine w_icmp_ge (tgt := 49) ok dX11_write_23 (by decide) (fun c3 => ?_) (fun c3 => ?_)
        · skip
          refine w_iinc (v := s3.1 + (-8)) ok dX11_write_49 2 rfl rfl (by decide) rfl ?_
          refine w_goto (tgt := 3) ok dX11_write_52 (by decide) ?_
          have eB : B_X11_write_w3 a0 I J s3 = .inl ((s3.1 + (-8)), s3.2) := by
            unfold B_X11_write_w3; exact (if_neg c1).trans ((if_neg c2).trans ((if_pos c3).trans (rfl)))
          refine w_loc [1, 2, 0] rfl ?_
          have kk := kc3 _ eB
          exact kk
        · skip
          refine w_aload_n ok dX11_write_26 0 rfl ?_
          refine w_getR ok dX11_write_27 (fX11_9 rfl) (congrArg Prod.fst s_0) rfl (r_0_0 ro) (ltK hnn (by decide)) ?_
          refine w_aload_n ok dX11_write_30 0 rfl ?_
          refine y_getI ok dX11_write_31 (fX11_13 rfl) (congrArg Prod.fst s_0) rfl (ltK hnn (by decide)) (sdc hf (by decide)) ?_
          refine w_iload_n ok dX11_write_34 1 rfl ?_
          refine w_iload_n ok dX11_write_35 2 rfl ?_
          refine w_ishr ok dX11_write_36 ?_
          refine w_i2b ok dX11_write_37 ?_
          refine y_bast (q := (s3.2 0 1).toNatClampNeg) ok dX11_write_38 s_1 (in_of c2 (show ¬ (nI 700 ≤ _) from c3) (sh_len s_1)) (by decide) (ltK hnn (by decide)) (sdc hf (by decide)) ?_
          show WK K 0 0 39 [(0, .ref 0), (1, .int a0), (2, .int s3.1)] [] (eI f (S1_X11_write a0 I J s3)) (eJ f J) R n g
          refine w_aload_n ok dX11_write_39 0 rfl ?_
          refine w_dup ok dX11_write_40 rfl ?_
          refine y_getI ok dX11_write_41 (fX11_13 rfl) (congrArg Prod.fst s_0) rfl (ltK hnn (by decide)) (sdc hf (by decide)) ?_
          refine w_iconst (v := 1) ok dX11_write_44 (by decide) ?_
          refine w_iadd ok dX11_write_45 ?_
          refine y_putI ok dX11_write_46 (fwX11_13 rfl) (congrArg Prod.fst s_0) rfl (ltK hnn (by decide)) (sdc hf (by decide)) ?_
          refine w_iinc (v := s3.1 + (-8)) ok dX11_write_49 2 rfl rfl (by decide) rfl ?_
          refine w_goto (tgt := 3) ok dX11_write_52 (by decide) ?_
          have eB : B_X11_write_w3 a0 I J s3 = .inl ((s3.1 + (-8)), (u2 (S1_X11_write a0 I J s3) 0 1 ((((S1_X11_write a0 I J s3)) 0 1) + 1))) := by
            unfold B_X11_write_w3; exact (if_neg c1).trans ((if_neg c2).trans ((if_neg c3).trans (rfl)))
          refine w_loc [1, 2, 0] rfl ?_
          have kk := kc3 _ eB
          exact kk
def F_X11_fault (a0 : Int32) (I : SI) (J : SJ) : Int32 := if a0 = 0 then I 41 1 else (if a0 = 1 then I 41 2 else -1)
set_option maxHeartbeats 1000000 in
set_option maxRecDepth 40000 in
theorem c_X11_fault {I : SI} {J : SJ} {R : SR} {n g : Nat} {f : Fr} (ro : RO R) (hnn : nK ≤ n) (hf : f.1 = true) (a0 : Int32)   : MM 0 0 0 mX11_fault [.ref 0, .int a0] (eI f I) (eJ f J) R n g (Pd (some (.int (F_X11_fault a0 I J))) (eI f I) (eJ f J) R n g) := by
  refine MM.of (by decide) (Nat.le_of_ble_eq_true rfl) fun K ok fin => ?_
  show WK K 0 0 0 [(0, .ref 0), (1, .int a0)] [] (eI f I) (eJ f J) R n g
  refine w_iload_n ok dX11_fault_0 1 rfl ?_
  by_cases c1 : a0 = 0
  · skip
    refine w_lkp (tgt := 28) (off := 27) ok dX11_fault_1 (by decide) (by rw [c1]; rfl) (by decide) ?_
    refine w_aload_n ok dX11_fault_28 0 rfl ?_
    refine w_getR ok dX11_fault_29 (fX11_27 rfl) (congrArg Prod.fst s_0) rfl (r_0_3 ro) (ltK hnn (by decide)) ?_
    refine y_getI ok dX11_fault_32 (fX11_106 rfl) (congrArg Prod.fst s_41) rfl (ltK hnn (by decide)) (sdc hf (by decide)) ?_
    exact w_iret ok fin dX11_fault_35 rfl (by unfold F_X11_fault; simp only [if_pos c1]; exact Pd.i)
  · skip
    by_cases c2 : a0 = 1
    · skip
      refine w_lkp (tgt := 36) (off := 35) ok dX11_fault_1 (by decide) (by rw [c2]; rfl) (by decide) ?_
      refine w_aload_n ok dX11_fault_36 0 rfl ?_
      refine w_getR ok dX11_fault_37 (fX11_27 rfl) (congrArg Prod.fst s_0) rfl (r_0_3 ro) (ltK hnn (by decide)) ?_
      refine y_getI ok dX11_fault_40 (fX11_109 rfl) (congrArg Prod.fst s_41) rfl (ltK hnn (by decide)) (sdc hf (by decide)) ?_
      exact w_iret ok fin dX11_fault_43 rfl (by unfold F_X11_fault; simp only [if_neg c1]; simp only [if_pos c2]; exact Pd.i)
    · skip
      have n3 : a0.toInt ≠ 0 := ne_toInt c1
      have n4 : a0.toInt ≠ 1 := ne_toInt c2
      refine w_lkp (tgt := 44) (off := 43) ok dX11_fault_1 (by decide) (by simp [Op.lookupswitch.offset, n3, n4, Ne.symm n3, Ne.symm n4]) (by decide) ?_
      refine w_iconst (v := (-1)) ok dX11_fault_44 (by decide) ?_
      exact w_iret ok fin dX11_fault_45 rfl (by unfold F_X11_fault; simp only [if_neg c1]; simp only [if_neg c2]; exact Pd.i)
def B_X11_notedBy_l4 (a0 : Int32) (I : SI) (J : SJ) (i4 : Nat) (s4 : Int32) : Int32 := if ((a0 >>> ((nI i4) &&& 31)) &&& 1) = 0 then s4 else (s4 ||| (atF (I 20) 8 (nI i4)))
def F_X11_notedBy_l4 (a0 : Int32) (I : SI) (J : SJ) (s0 : Int32) : Int32 := itN (B_X11_notedBy_l4 a0 I J) ((I 18 1).toNatClampNeg) s0
def F_X11_notedBy (a0 : Int32) (I : SI) (J : SJ) : Int32 := (F_X11_notedBy_l4 a0 I J 0)
set_option maxHeartbeats 1000000 in
set_option maxRecDepth 40000 in
theorem c_X11_notedBy {I : SI} {J : SJ} {R : SR} {n g : Nat} {f : Fr} (ro : RO R) (hnn : nK ≤ n) (hf : f.1 = true) (a0 : Int32)   : MM 1 0 0 mX11_notedBy [.ref 0, .int a0] (eI f I) (eJ f J) R n g (Pd (some (.int (F_X11_notedBy a0 I J))) (eI f I) (eJ f J) R n g) := by
  refine MM.of (by decide) (Nat.le_of_ble_eq_true rfl) fun K ok fin => ?_
  show WK K 0 0 0 [(0, .ref 0), (1, .int a0)] [] (eI f I) (eJ f J) R n g
  refine w_iconst (v := 0) ok dX11_notedBy_0 (by decide) ?_
  refine w_istore_n ok dX11_notedBy_1 rfl (by decide) rfl ?_
  refine w_iconst (v := 0) ok dX11_notedBy_2 (by decide) ?_
  refine w_istore_n ok dX11_notedBy_3 rfl (by decide) rfl ?_
  refine w_loc [2, 3, 1, 0] rfl ?_
  refine loop_for (σ := Int32) (fun (i4 : Nat) (s4 : Int32) => WK K 0 0 4 [(0, .ref 0), (1, .int a0), (2, .int s4), (3, .int (nI i4))] [] (eI f I) (eJ f J) R n g) (B_X11_notedBy_l4 a0 I J) ((I 18 1).toNatClampNeg) (0) ?_ ?_
  · show WK K 0 0 4 [(0, .ref 0), (1, .int a0), (2, .int (F_X11_notedBy_l4 a0 I J 0)), (3, .int (nI ((I 18 1).toNatClampNeg)))] [] (eI f I) (eJ f J) R n g
    have e1 : (I 18 1) ≤ (nI ((I 18 1).toNatClampNeg)) := cnt_ge _
    refine w_iload_n ok dX11_notedBy_4 3 rfl ?_
    refine w_aload_n ok dX11_notedBy_5 0 rfl ?_
    refine w_getR ok dX11_notedBy_6 (fX11_20 rfl) (congrArg Prod.fst s_0) rfl (r_0_2 ro) (ltK hnn (by decide)) ?_
    refine w_getR ok dX11_notedBy_9 (fX11_128 rfl) (congrArg Prod.fst s_2) rfl (r_2_3 ro) (ltK hnn (by decide)) ?_
    refine y_getI ok dX11_notedBy_12 (fX11_256 rfl) (congrArg Prod.fst s_18) rfl (ltK hnn (by decide)) (sdc hf (by decide)) ?_
    refine w_icmp_ge (tgt := 49) ok dX11_notedBy_15 (by decide) (fun _ => ?_) (fun h => absurd e1 h)
    refine w_iload_n ok dX11_notedBy_49 2 rfl ?_
    exact w_iret ok fin dX11_notedBy_50 rfl (by unfold F_X11_notedBy; exact Pd.i)
  · intro i4 s4 hi4 hs4 k4
    show WK K 0 0 4 [(0, .ref 0), (1, .int a0), (2, .int s4), (3, .int (nI i4))] [] (eI f I) (eJ f J) R n g
    have e2 : ¬ ((I 18 1) ≤ (nI i4)) := cnt_lt hi4
    refine w_iload_n ok dX11_notedBy_4 3 rfl ?_
    refine w_aload_n ok dX11_notedBy_5 0 rfl ?_
    refine w_getR ok dX11_notedBy_6 (fX11_20 rfl) (congrArg Prod.fst s_0) rfl (r_0_2 ro) (ltK hnn (by decide)) ?_
    refine w_getR ok dX11_notedBy_9 (fX11_128 rfl) (congrArg Prod.fst s_2) rfl (r_2_3 ro) (ltK hnn (by decide)) ?_
    refine y_getI ok dX11_notedBy_12 (fX11_256 rfl) (congrArg Prod.fst s_18) rfl (ltK hnn (by decide)) (sdc hf (by decide)) ?_
    refine w_icmp_ge (tgt := 49) ok dX11_notedBy_15 (by decide) (fun h => absurd h e2) (fun _ => ?_)
    refine w_iload_n ok dX11_notedBy_18 1 rfl ?_
    refine w_iload_n ok dX11_notedBy_19 3 rfl ?_
    refine w_ishr ok dX11_notedBy_20 ?_
    refine w_iconst (v := 1) ok dX11_notedBy_21 (by decide) ?_
    refine w_iand ok dX11_notedBy_22 ?_
    refine w_if_eq (tgt := 43) ok dX11_notedBy_23 (by decide) (fun c3 => ?_) (fun c3 => ?_)
    · skip
      refine w_iinc (v := (nI i4) + 1) ok dX11_notedBy_43 3 rfl rfl (by decide) rfl ?_
      refine w_goto (tgt := 4) ok dX11_notedBy_46 (by decide) ?_
      have eB : B_X11_notedBy_l4 a0 I J i4 s4 = s4 := by
        unfold B_X11_notedBy_l4; exact (if_pos c3).trans (rfl)
      have kk := k4
      rw [eB] at kk
      refine w_loc [1, 2, 3, 0] rfl ?_
      rw [nI_1 i4]
      exact kk
    · skip
      refine w_iload_n ok dX11_notedBy_26 2 rfl ?_
      refine w_aload_n ok dX11_notedBy_27 0 rfl ?_
      refine w_getR ok dX11_notedBy_28 (fX11_20 rfl) (congrArg Prod.fst s_0) rfl (r_0_2 ro) (ltK hnn (by decide)) ?_
      refine w_getR ok dX11_notedBy_31 (fX11_128 rfl) (congrArg Prod.fst s_2) rfl (r_2_3 ro) (ltK hnn (by decide)) ?_
      refine w_getR ok dX11_notedBy_34 (fX11_142 rfl) (congrArg Prod.fst s_18) rfl (r_18_3 ro) (ltK hnn (by decide)) ?_
      refine w_iload_n ok dX11_notedBy_37 3 rfl ?_
      refine w_cS (As := [.ref 20, .int (nI i4)]) ok dX11_notedBy_38 iX11_at (lX11_146 rfl) (c_at s_20 (ltK hnn (by decide)) (sdc hf (by decide)) (nI i4)) (by decide) rfl (Nat.le_of_ble_eq_true rfl) ?_
      show WK K 0 0 41 [(0, .ref 0), (1, .int a0), (2, .int s4), (3, .int (nI i4))] [.int (atF (I 20) 8 (nI i4)), .int s4] (eI f I) (eJ f J) R n g
      refine w_ior ok dX11_notedBy_41 ?_
      refine w_istore_n ok dX11_notedBy_42 rfl (by decide) rfl ?_
      refine w_iinc (v := (nI i4) + 1) ok dX11_notedBy_43 3 rfl rfl (by decide) rfl ?_
      refine w_goto (tgt := 4) ok dX11_notedBy_46 (by decide) ?_
      have eB : B_X11_notedBy_l4 a0 I J i4 s4 = (s4 ||| (atF (I 20) 8 (nI i4))) := by
        unfold B_X11_notedBy_l4; exact (if_neg c3).trans (rfl)
      have kk := k4
      rw [eB] at kk
      refine w_loc [2, 3, 1, 0] rfl ?_
      rw [nI_1 i4]
      exact kk
