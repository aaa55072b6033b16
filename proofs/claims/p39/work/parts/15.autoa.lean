/-! printed by wip/whole/gen_c.py: contracts by program -/
def S1_J6_bitCount_0f7a4 (a0 : Int32) (I : SI) (J : SJ) : Int32 := a0 - (((a0.toUInt32 >>> ((1 : Int32).toUInt32 &&& Int32.toUInt32 31)).toInt32) &&& 1431655765)
def S2_J6_bitCount_0f7a4 (a0 : Int32) (I : SI) (J : SJ) : Int32 := ((S1_J6_bitCount_0f7a4 a0 I J).toUInt32 >>> ((2 : Int32).toUInt32 &&& Int32.toUInt32 31)).toInt32
def S3_J6_bitCount_0f7a4 (a0 : Int32) (I : SI) (J : SJ) : Int32 := ((S1_J6_bitCount_0f7a4 a0 I J) &&& 858993459) + ((S2_J6_bitCount_0f7a4 a0 I J) &&& 858993459)
def S4_J6_bitCount_0f7a4 (a0 : Int32) (I : SI) (J : SJ) : Int32 := ((S3_J6_bitCount_0f7a4 a0 I J).toUInt32 >>> ((4 : Int32).toUInt32 &&& Int32.toUInt32 31)).toInt32
def S5_J6_bitCount_0f7a4 (a0 : Int32) (I : SI) (J : SJ) : Int32 := ((((S3_J6_bitCount_0f7a4 a0 I J) + (S4_J6_bitCount_0f7a4 a0 I J)) &&& 252645135).toUInt32 >>> ((8 : Int32).toUInt32 &&& Int32.toUInt32 31)).toInt32
def S6_J6_bitCount_0f7a4 (a0 : Int32) (I : SI) (J : SJ) : Int32 := (((S3_J6_bitCount_0f7a4 a0 I J) + (S4_J6_bitCount_0f7a4 a0 I J)) &&& 252645135) + (S5_J6_bitCount_0f7a4 a0 I J)
def S7_J6_bitCount_0f7a4 (a0 : Int32) (I : SI) (J : SJ) : Int32 := ((S6_J6_bitCount_0f7a4 a0 I J).toUInt32 >>> ((16 : Int32).toUInt32 &&& Int32.toUInt32 31)).toInt32
def F_J6_bitCount_0f7a4 (a0 : Int32) (I : SI) (J : SJ) : Int32 := ((S6_J6_bitCount_0f7a4 a0 I J) + (S7_J6_bitCount_0f7a4 a0 I J)) &&& 63
set_option maxHeartbeats 1000000 in
set_option maxRecDepth 40000 in
theorem c_J6_bitCount_0f7a4 {I : SI} {J : SJ} {R : SR} {n g : Nat} {f : Fr} (ro : RO R) (hnn : nK ≤ n) (hf : f.1 = true) (a0 : Int32)   : MM 0 0 0 mJ6_bitCount_0f7a4 [.int a0] (eI f I) (eJ f J) R n g (Pd (some (.int (F_J6_bitCount_0f7a4 a0 I J))) (eI f I) (eJ f J) R n g) := by
  refine MM.of (by decide) (Nat.le_of_ble_eq_true rfl) fun K ok fin => ?_
  show WK K 0 0 0 [(0, .int a0)] [] (eI f I) (eJ f J) R n g
  refine w_iload_n ok dJ6_bitCount_0f7a4_0 0 rfl ?_
  refine w_iload_n ok dJ6_bitCount_0f7a4_1 0 rfl ?_
  refine w_iconst (v := 1) ok dJ6_bitCount_0f7a4_2 (by decide) ?_
  refine w_iushr ok dJ6_bitCount_0f7a4_3 ?_
  refine w_ldcw ok dJ6_bitCount_0f7a4_4 kJ6_265 ?_
  refine w_iand ok dJ6_bitCount_0f7a4_7 ?_
  refine w_isub ok dJ6_bitCount_0f7a4_8 ?_
  show WK K 0 0 9 [(0, .int a0)] [.int (S1_J6_bitCount_0f7a4 a0 I J)] (eI f I) (eJ f J) R n g
  refine w_istore_n ok dJ6_bitCount_0f7a4_9 rfl (by decide) rfl ?_
  refine w_iload_n ok dJ6_bitCount_0f7a4_10 0 rfl ?_
  refine w_ldcw ok dJ6_bitCount_0f7a4_11 kJ6_266 ?_
  refine w_iand ok dJ6_bitCount_0f7a4_14 ?_
  refine w_iload_n ok dJ6_bitCount_0f7a4_15 0 rfl ?_
  refine w_iconst (v := 2) ok dJ6_bitCount_0f7a4_16 (by decide) ?_
  refine w_iushr ok dJ6_bitCount_0f7a4_17 ?_
  show WK K 0 0 18 [(0, .int (S1_J6_bitCount_0f7a4 a0 I J))] [.int (S2_J6_bitCount_0f7a4 a0 I J), .int ((S1_J6_bitCount_0f7a4 a0 I J) &&& 858993459)] (eI f I) (eJ f J) R n g
  refine w_ldcw ok dJ6_bitCount_0f7a4_18 kJ6_266 ?_
  refine w_iand ok dJ6_bitCount_0f7a4_21 ?_
  refine w_iadd ok dJ6_bitCount_0f7a4_22 ?_
  show WK K 0 0 23 [(0, .int (S1_J6_bitCount_0f7a4 a0 I J))] [.int (S3_J6_bitCount_0f7a4 a0 I J)] (eI f I) (eJ f J) R n g
  refine w_istore_n ok dJ6_bitCount_0f7a4_23 rfl (by decide) rfl ?_
  refine w_iload_n ok dJ6_bitCount_0f7a4_24 0 rfl ?_
  refine w_iload_n ok dJ6_bitCount_0f7a4_25 0 rfl ?_
  refine w_iconst (v := 4) ok dJ6_bitCount_0f7a4_26 (by decide) ?_
  refine w_iushr ok dJ6_bitCount_0f7a4_27 ?_
  show WK K 0 0 28 [(0, .int (S3_J6_bitCount_0f7a4 a0 I J))] [.int (S4_J6_bitCount_0f7a4 a0 I J), .int (S3_J6_bitCount_0f7a4 a0 I J)] (eI f I) (eJ f J) R n g
  refine w_iadd ok dJ6_bitCount_0f7a4_28 ?_
  refine w_ldcw ok dJ6_bitCount_0f7a4_29 kJ6_267 ?_
  refine w_iand ok dJ6_bitCount_0f7a4_32 ?_
  refine w_istore_n ok dJ6_bitCount_0f7a4_33 rfl (by decide) rfl ?_
  refine w_iload_n ok dJ6_bitCount_0f7a4_34 0 rfl ?_
  refine w_iload_n ok dJ6_bitCount_0f7a4_35 0 rfl ?_
  refine w_bipush (v := 8) ok dJ6_bitCount_0f7a4_36 (by decide) ?_
  refine w_iushr ok dJ6_bitCount_0f7a4_38 ?_
  show WK K 0 0 39 [(0, .int (((S3_J6_bitCount_0f7a4 a0 I J) + (S4_J6_bitCount_0f7a4 a0 I J)) &&& 252645135))] [.int (S5_J6_bitCount_0f7a4 a0 I J), .int (((S3_J6_bitCount_0f7a4 a0 I J) + (S4_J6_bitCount_0f7a4 a0 I J)) &&& 252645135)] (eI f I) (eJ f J) R n g
  refine w_iadd ok dJ6_bitCount_0f7a4_39 ?_
  show WK K 0 0 40 [(0, .int (((S3_J6_bitCount_0f7a4 a0 I J) + (S4_J6_bitCount_0f7a4 a0 I J)) &&& 252645135))] [.int (S6_J6_bitCount_0f7a4 a0 I J)] (eI f I) (eJ f J) R n g
  refine w_istore_n ok dJ6_bitCount_0f7a4_40 rfl (by decide) rfl ?_
  refine w_iload_n ok dJ6_bitCount_0f7a4_41 0 rfl ?_
  refine w_iload_n ok dJ6_bitCount_0f7a4_42 0 rfl ?_
  refine w_bipush (v := 16) ok dJ6_bitCount_0f7a4_43 (by decide) ?_
  refine w_iushr ok dJ6_bitCount_0f7a4_45 ?_
  show WK K 0 0 46 [(0, .int (S6_J6_bitCount_0f7a4 a0 I J))] [.int (S7_J6_bitCount_0f7a4 a0 I J), .int (S6_J6_bitCount_0f7a4 a0 I J)] (eI f I) (eJ f J) R n g
  refine w_iadd ok dJ6_bitCount_0f7a4_46 ?_
  refine w_istore_n ok dJ6_bitCount_0f7a4_47 rfl (by decide) rfl ?_
  refine w_iload_n ok dJ6_bitCount_0f7a4_48 0 rfl ?_
  refine w_bipush (v := 63) ok dJ6_bitCount_0f7a4_49 (by decide) ?_
  refine w_iand ok dJ6_bitCount_0f7a4_51 ?_
  exact w_iret ok fin dJ6_bitCount_0f7a4_52 rfl (by unfold F_J6_bitCount_0f7a4; exact Pd.i)
def S1_X11_write (a0 : Int32) (I : SI) (J : SJ) (s3 : Int32 × SI) : SI := u2 s3.2 1 (s3.2 0 1).toNatClampNeg (vp_nar .byte ((a0 >>> (s3.1 &&& 31)).toInt8.toInt32))
def B_X11_write_w3 (a0 : Int32) (I : SI) (J : SJ) (s3 : Int32 × SI) : (Int32 × SI) ⊕ (Int32 × SI) := if s3.1 < 0 then .inr (s3.1, s3.2) else (if (s3.2 0 1) < 0 then .inl ((s3.1 + (-8)), s3.2) else (if (700 : Int32) ≤ (s3.2 0 1) then .inl ((s3.1 + (-8)), s3.2) else .inl ((s3.1 + (-8)), (u2 (S1_X11_write a0 I J s3) 0 1 ((((S1_X11_write a0 I J s3)) 0 1) + 1)))))
def F_X11_write_w3 (a0 : Int32) (I : SI) (J : SJ) (s0 : Int32 × SI) : Int32 × SI := (itW (B_X11_write_w3 a0 I J) 800 s0).getD s0
def FI_X11_write (a0 : Int32) (I : SI) (J : SJ) : SI := (F_X11_write_w3 a0 I J (24, I)).2
def H_X11_write (a0 : Int32) (I : SI) (J : SJ) : Prop := ((itW (B_X11_write_w3 a0 I J) 800 (24, I)).isSome = true)
set_option maxHeartbeats 1000000 in
set_option maxRecDepth 40000 in
theorem c_X11_write {I : SI} {J : SJ} {R : SR} {n g : Nat} {f : Fr} (ro : RO R) (hnn : nK ≤ n) (hf : f.1 = true) (a0 : Int32)  (hp : H_X11_write a0 I J) : MM 0 0 0 mX11_write [.ref 0, .int a0] (eI f I) (eJ f J) R n g (Pd none (eI f (FI_X11_write a0 I J)) (eJ f J) R n g) := by
  refine MM.of (by decide) (Nat.le_of_ble_eq_true rfl) fun K ok fin => ?_
  show WK K 0 0 0 [(0, .ref 0), (1, .int a0)] [] (eI f I) (eJ f J) R n g
  have hp1 := hp
  refine w_bipush (v := 24) ok dX11_write_0 (by decide) ?_
  refine w_istore_n ok dX11_write_2 rfl (by decide) rfl ?_
  refine w_loc [1, 2, 0] rfl ?_
  refine loop_w (fun (s3 : Int32 × SI) => WK K 0 0 3 [(0, .ref 0), (1, .int a0), (2, .int s3.1)] [] (eI f s3.2) (eJ f J) R n g) (fun (s3 : Int32 × SI) => WK K 0 0 55 [(0, .ref 0), (1, .int a0), (2, .int s3.1)] [] (eI f s3.2) (eJ f J) R n g) (B_X11_write_w3 a0 I J) 800 (24, I) (F_X11_write_w3 a0 I J (24, I)) (itW_some (hp1)) ?_ ?_
  · show WK K 0 0 55 [(0, .ref 0), (1, .int a0), (2, .int ((F_X11_write_w3 a0 I J (24, I)).1))] [] (eI f ((F_X11_write_w3 a0 I J (24, I)).2)) (eJ f J) R n g
    exact w_vret ok fin dX11_write_55 rfl (by unfold FI_X11_write; exact Pd.i)
  · intro n3 s3 hs3 kc3 kx3
    show WK K 0 0 3 [(0, .ref 0), (1, .int a0), (2, .int s3.1)] [] (eI f s3.2) (eJ f J) R n g
    refine w_iload_n ok dX11_write_3 2 rfl ?_
    refine w_if_lt (tgt := 55) ok dX11_write_4 (by decide) (fun c1 => ?_) (fun c1 => ?_)
    · skip
      have eB : B_X11_write_w3 a0 I J s3 = .inr (s3.1, s3.2) := by
        unfold B_X11_write_w3; exact (if_pos c1).trans (rfl)
      refine w_loc [0, 1, 2] rfl ?_
      have kk := kx3 _ eB
      exact kk
    · skip
      refine w_aload_n ok dX11_write_7 0 rfl ?_
      refine y_getI ok dX11_write_8 (fX11_13 rfl) (congrArg Prod.fst s_0) rfl (ltK hnn (by decide)) (sdc hf (by decide)) ?_
      refine w_if_lt (tgt := 49) ok dX11_write_11 (by decide) (fun c2 => ?_) (fun c2 => ?_)
      · skip
        refine w_iinc (v := s3.1 + (-8)) ok dX11_write_49 2 rfl rfl (by decide) rfl ?_
        refine w_goto (tgt := 3) ok dX11_write_52 (by decide) ?_
        have eB : B_X11_write_w3 a0 I J s3 = .inl ((s3.1 + (-8)), s3.2) := by
          unfold B_X11_write_w3; exact (if_neg c1).trans ((if_pos c2).trans (rfl))
        refine w_loc [1, 2, 0] rfl ?_
        have kk := kc3 _ eB
        exact kk
      · skip
        refine w_aload_n ok dX11_write_14 0 rfl ?_
        refine y_getI ok dX11_write_15 (fX11_13 rfl) (congrArg Prod.fst s_0) rfl (ltK hnn (by decide)) (sdc hf (by decide)) ?_
        refine w_aload_n ok dX11_write_18 0 rfl ?_
        refine w_getR ok dX11_write_19 (fX11_9 rfl) (congrArg Prod.fst s_0) rfl (r_0_0 ro) (ltK hnn (by decide)) ?_
        refine w_alen (v := 700) ok dX11_write_22 s_1 (by decide) (by decide) (ltK hnn (by decide)) ?_
        refine w_icmp_ge (tgt := 49) ok dX11_write_23 (by decide) (fun c3 => ?_) (fun c3 => ?_)
        · skip
          refine w_iinc (v := s3.1 + (-8)) ok dX11_write_49 2 rfl rfl (by decide) rfl ?_
          refine w_goto (tgt := 3) ok dX11_write_52 (by decide) ?_
          have eB : B_X11_write_w3 a0 I J s3 = .inl ((s3.1 + (-8)), s3.2) := by
            unfold B_X11_write_w3; exact (if_neg c1).trans ((if_neg c2).trans ((if_pos c3).trans (rfl)))
          refine w_loc [1, 2, 0] rfl ?_
          have kk := kc3 _ eB
          exact kk
        · skip
          refine w_aload_n ok dX11_write_26 0 rfl ?_
          refine w_getR ok dX11_write_27 (fX11_9 rfl) (congrArg Prod.fst s_0) rfl (r_0_0 ro) (ltK hnn (by decide)) ?_
          refine w_aload_n ok dX11_write_30 0 rfl ?_
          refine y_getI ok dX11_write_31 (fX11_13 rfl) (congrArg Prod.fst s_0) rfl (ltK hnn (by decide)) (sdc hf (by decide)) ?_
          refine w_iload_n ok dX11_write_34 1 rfl ?_
          refine w_iload_n ok dX11_write_35 2 rfl ?_
          refine w_ishr ok dX11_write_36 ?_
          refine w_i2b ok dX11_write_37 ?_
          refine y_bast (q := (s3.2 0 1).toNatClampNeg) ok dX11_write_38 s_1 (in_of c2 (show ¬ (nI 700 ≤ _) from c3) (sh_len s_1)) (by decide) (ltK hnn (by decide)) (sdc hf (by decide)) ?_
          show WK K 0 0 39 [(0, .ref 0), (1, .int a0), (2, .int s3.1)] [] (eI f (S1_X11_write a0 I J s3)) (eJ f J) R n g
          refine w_aload_n ok dX11_write_39 0 rfl ?_
          refine w_dup ok dX11_write_40 rfl ?_
          refine y_getI ok dX11_write_41 (fX11_13 rfl) (congrArg Prod.fst s_0) rfl (ltK hnn (by decide)) (sdc hf (by decide)) ?_
          refine w_iconst (v := 1) ok dX11_write_44 (by decide) ?_
          refine w_iadd ok dX11_write_45 ?_
          refine y_putI ok dX11_write_46 (fwX11_13 rfl) (congrArg Prod.fst s_0) rfl (ltK hnn (by decide)) (sdc hf (by decide)) ?_
          refine w_iinc (v := s3.1 + (-8)) ok dX11_write_49 2 rfl rfl (by decide) rfl ?_
          refine w_goto (tgt := 3) ok dX11_write_52 (by decide) ?_
          have eB : B_X11_write_w3 a0 I J s3 = .inl ((s3.1 + (-8)), (u2 (S1_X11_write a0 I J s3) 0 1 ((((S1_X11_write a0 I J s3)) 0 1) + 1))) := by
            unfold B_X11_write_w3; exact (if_neg c1).trans ((if_neg c2).trans ((if_neg c3).trans (rfl)))
          refine w_loc [1, 2, 0] rfl ?_
          have kk := kc3 _ eB
          exact kk
def F_X11_fault (a0 : Int32) (I : SI) (J : SJ) : Int32 := if a0 = 0 then I 41 1 else (if a0 = 1 then I 41 2 else -1)
set_option maxHeartbeats 1000000 in
set_option maxRecDepth 40000 in
theorem c_X11_fault {I : SI} {J : SJ} {R : SR} {n g : Nat} {f : Fr} (ro : RO R) (hnn : nK ≤ n) (hf : f.1 = true) (a0 : Int32)   : MM 0 0 0 mX11_fault [.ref 0, .int a0] (eI f I) (eJ f J) R n g (Pd (some (.int (F_X11_fault a0 I J))) (eI f I) (eJ f J) R n g) := by
  refine MM.of (by decide) (Nat.le_of_ble_eq_true rfl) fun K ok fin => ?_
  show WK K 0 0 0 [(0, .ref 0), (1, .int a0)] [] (eI f I) (eJ f J) R n g
  refine w_iload_n ok dX11_fault_0 1 rfl ?_
  by_cases c1 : a0 = 0
  · skip
    refine w_lkp (tgt := 28) (off := 27) ok dX11_fault_1 (by decide) (by rw [c1]; rfl) (by decide) ?_
    refine w_aload_n ok dX11_fault_28 0 rfl ?_
    refine w_getR ok dX11_fault_29 (fX11_27 rfl) (congrArg Prod.fst s_0) rfl (r_0_3 ro) (ltK hnn (by decide)) ?_
    refine y_getI ok dX11_fault_32 (fX11_106 rfl) (congrArg Prod.fst s_41) rfl (ltK hnn (by decide)) (sdc hf (by decide)) ?_
    exact w_iret ok fin dX11_fault_35 rfl (by unfold F_X11_fault; simp only [if_pos c1]; exact Pd.i)
  · skip
    by_cases c2 : a0 = 1
    · skip
      refine w_lkp (tgt := 36) (off := 35) ok dX11_fault_1 (by decide) (by rw [c2]; rfl) (by decide) ?_
      refine w_aload_n ok dX11_fault_36 0 rfl ?_
      refine w_getR ok dX11_fault_37 (fX11_27 rfl) (congrArg Prod.fst s_0) rfl (r_0_3 ro) (ltK hnn (by decide)) ?_
      refine y_getI ok dX11_fault_40 (fX11_109 rfl) (congrArg Prod.fst s_41) rfl (ltK hnn (by decide)) (sdc hf (by decide)) ?_
      exact w_iret ok fin dX11_fault_43 rfl (by unfold F_X11_fault; simp only [if_neg c1]; simp only [if_pos c2]; exact Pd.i)
    · skip
      have n3 : a0.toInt ≠ 0 := ne_toInt c1
      have n4 : a0.toInt ≠ 1 := ne_toInt c2
      refine w_lkp (tgt := 44) (off := 43) ok dX11_fault_1 (by decide) (by simp [Op.lookupswitch.offset, n3, n4, Ne.symm n3, Ne.symm n4]) (by decide) ?_
      refine w_iconst (v := (-1)) ok dX11_fault_44 (by decide) ?_
      exact w_iret ok fin dX11_fault_45 rfl (by unfold F_X11_fault; simp only [if_neg c1]; simp only [if_neg c2]; exact Pd.i)
def B_X11_notedBy_l4 (a0 : Int32) (I : SI) (J : SJ) (i4 : Nat) (s4 : Int32) : Int32 := if ((a0 >>> ((nI i4) &&& 31)) &&& 1) = 0 then s4 else (s4 ||| (atF (I 20) 8 (nI i4)))
def F_X11_notedBy_l4 (a0 : Int32) (I : SI) (J : SJ) (s0 : Int32) : Int32 := itN (B_X11_notedBy_l4 a0 I J) ((I 18 1).toNatClampNeg) s0
def F_X11_notedBy (a0 : Int32) (I : SI) (J : SJ) : Int32 := (F_X11_notedBy_l4 a0 I J 0)
set_option maxHeartbeats 1000000 in
set_option maxRecDepth 40000 in
theorem c_X11_notedBy {I : SI} {J : SJ} {R : SR} {n g : Nat} {f : Fr} (ro : RO R) (hnn : nK ≤ n) (hf : f.1 = true) (a0 : Int32)   : MM 1 0 0 mX11_notedBy [.ref 0, .int a0] (eI f I) (eJ f J) R n g (Pd (some (.int (F_X11_notedBy a0 I J))) (eI f I) (eJ f J) R n g) := by
  refine MM.of (by decide) (Nat.le_of_ble_eq_true rfl) fun K ok fin => ?_
  show WK K 0 0 0 [(0, .ref 0), (1, .int a0)] [] (eI f I) (eJ f J) R n g
  refine w_iconst (v := 0) ok dX11_notedBy_0 (by decide) ?_
  refine w_istore_n ok dX11_notedBy_1 rfl (by decide) rfl ?_
  refine w_iconst (v := 0) ok dX11_notedBy_2 (by decide) ?_
  refine w_istore_n ok dX11_notedBy_3 rfl (by decide) rfl ?_
  refine w_loc [2, 3, 1, 0] rfl ?_
  refine loop_for (σ := Int32) (fun (i4 : Nat) (s4 : Int32) => WK K 0 0 4 [(0, .ref 0), (1, .int a0), (2, .int s4), (3, .int (nI i4))] [] (eI f I) (eJ f J) R n g) (B_X11_notedBy_l4 a0 I J) ((I 18 1).toNatClampNeg) (0) ?_ ?_
  · show WK K 0 0 4 [(0, .ref 0), (1, .int a0), (2, .int (F_X11_notedBy_l4 a0 I J 0)), (3, .int (nI ((I 18 1).toNatClampNeg)))] [] (eI f I) (eJ f J) R n g
    have e1 : (I 18 1) ≤ (nI ((I 18 1).toNatClampNeg)) := cnt_ge _
    refine w_iload_n ok dX11_notedBy_4 3 rfl ?_
    refine w_aload_n ok dX11_notedBy_5 0 rfl ?_
    refine w_getR ok dX11_notedBy_6 (fX11_20 rfl) (congrArg Prod.fst s_0) rfl (r_0_2 ro) (ltK hnn (by decide)) ?_
    refine w_getR ok dX11_notedBy_9 (fX11_128 rfl) (congrArg Prod.fst s_2) rfl (r_2_3 ro) (ltK hnn (by decide)) ?_
    refine y_getI ok dX11_notedBy_12 (fX11_256 rfl) (congrArg Prod.fst s_18) rfl (ltK hnn (by decide)) (sdc hf (by decide)) ?_
    refine w_icmp_ge (tgt := 49) ok dX11_notedBy_15 (by decide) (fun _ => ?_) (fun h => absurd e1 h)
    refine w_iload_n ok dX11_notedBy_49 2 rfl ?_
    exact w_iret ok fin dX11_notedBy_50 rfl (by unfold F_X11_notedBy; exact Pd.i)
  · intro i4 s4 hi4 hs4 k4
    show WK K 0 0 4 [(0, .ref 0), (1, .int a0), (2, .int s4), (3, .int (nI i4))] [] (eI f I) (eJ f J) R n g
    have e2 : ¬ ((I 18 1) ≤ (nI i4)) := cnt_lt hi4
    refine w_iload_n ok dX11_notedBy_4 3 rfl ?_
    refine w_aload_n ok dX11_notedBy_5 0 rfl ?_
    refine w_getR ok dX11_notedBy_6 (fX11_20 rfl) (congrArg Prod.fst s_0) rfl (r_0_2 ro) (ltK hnn (by decide)) ?_
    refine w_getR ok dX11_notedBy_9 (fX11_128 rfl) (congrArg Prod.fst s_2) rfl (r_2_3 ro) (ltK hnn (by decide)) ?_
    refine y_getI ok dX11_notedBy_12 (fX11_256 rfl) (congrArg Prod.fst s_18) rfl (ltK hnn (by decide)) (sdc hf (by decide)) ?_
    refine w_icmp_ge (tgt := 49) ok dX11_notedBy_15 (by decide) (fun h => absurd h e2) (fun _ => ?_)
    refine w_iload_n ok dX11_notedBy_18 1 rfl ?_
    refine w_iload_n ok dX11_notedBy_19 3 rfl ?_
    refine w_ishr ok dX11_notedBy_20 ?_
    refine w_iconst (v := 1) ok dX11_notedBy_21 (by decide) ?_
    refine w_iand ok dX11_notedBy_22 ?_
    refine w_if_eq (tgt := 43) ok dX11_notedBy_23 (by decide) (fun c3 => ?_) (fun c3 => ?_)
    · skip
      refine w_iinc (v := (nI i4) + 1) ok dX11_notedBy_43 3 rfl rfl (by decide) rfl ?_
      refine w_goto (tgt := 4) ok dX11_notedBy_46 (by decide) ?_
      have eB : B_X11_notedBy_l4 a0 I J i4 s4 = s4 := by
        unfold B_X11_notedBy_l4; exact (if_pos c3).trans (rfl)
      have kk := k4
      rw [eB] at kk
      refine w_loc [1, 2, 3, 0] rfl ?_
      rw [nI_1 i4]
      exact kk
    · skip
      refine w_iload_n ok dX11_notedBy_26 2 rfl ?_
      refine w_aload_n ok dX11_notedBy_27 0 rfl ?_
      refine w_getR ok dX11_notedBy_28 (fX11_20 rfl) (congrArg Prod.fst s_0) rfl (r_0_2 ro) (ltK hnn (by decide)) ?_
      refine w_getR ok dX11_notedBy_31 (fX11_128 rfl) (congrArg Prod.fst s_2) rfl (r_2_3 ro) (ltK hnn (by decide)) ?_
      refine w_getR ok dX11_notedBy_34 (fX11_142 rfl) (congrArg Prod.fst s_18) rfl (r_18_3 ro) (ltK hnn (by decide)) ?_
      refine w_iload_n ok dX11_notedBy_37 3 rfl ?_
      refine w_cS (As := [.ref 20, .int (nI i4)]) ok dX11_notedBy_38 iX11_at (lX11_146 rfl) (c_at s_20 (ltK hnn (by decide)) (sdc hf (by decide)) (nI i4)) (by decide) rfl (Nat.le_of_ble_eq_true rfl) ?_
      show WK K 0 0 41 [(0, .ref 0), (1, .int a0), (2, .int s4), (3, .int (nI i4))] [.int (atF (I 20) 8 (nI i4)), .int s4] (eI f I) (eJ f J) R n g
      refine w_ior ok dX11_notedBy_41 ?_
      refine w_istore_n ok dX11_notedBy_42 rfl (by decide) rfl ?_
      refine w_iinc (v := (nI i4) + 1) ok dX11_notedBy_43 3 rfl rfl (by decide) rfl ?_
      refine w_goto (tgt := 4) ok dX11_notedBy_46 (by decide) ?_
      have eB : B_X11_notedBy_l4 a0 I J i4 s4 = (s4 ||| (atF (I 20) 8 (nI i4))) := by
        unfold B_X11_notedBy_l4; exact (if_neg c3).trans (rfl)
      have kk := k4
      rw [eB] at kk
      refine w_loc [2, 3, 1, 0] rfl ?_
      rw [nI_1 i4]
      exact kk
def F_X11_gain (a0 : Int32) (a1 : Int32) (I : SI) (J : SJ) : Int32 := if a0 = a1 then (4 : Int32) - a0 else (if a0 ≤ a1 then -a0 else (10 : Int32) - a0)
set_option maxHeartbeats 1000000 in
set_option maxRecDepth 40000 in
theorem c_X11_gain {I : SI} {J : SJ} {R : SR} {n g : Nat} {f : Fr} (ro : RO R) (hnn : nK ≤ n) (hf : f.1 = true) (a0 : Int32) (a1 : Int32)   : MM 0 0 0 mX11_gain [.int a0, .int a1] (eI f I) (eJ f J) R n g (Pd (some (.int (F_X11_gain a0 a1 I J))) (eI f I) (eJ f J) R n g) := by
  refine MM.of (by decide) (Nat.le_of_ble_eq_true rfl) fun K ok fin => ?_
  show WK K 0 0 0 [(0, .int a0), (1, .int a1)] [] (eI f I) (eJ f J) R n g
  refine w_iload_n ok dX11_gain_0 0 rfl ?_
  refine w_iload_n ok dX11_gain_1 1 rfl ?_
  refine w_icmp_ne (tgt := 9) ok dX11_gain_2 (by decide) (fun c1 => ?_) (fun c1 => ?_)
  · skip
    refine w_iload_n ok dX11_gain_9 0 rfl ?_
    refine w_iload_n ok dX11_gain_10 1 rfl ?_
    refine w_icmp_le (tgt := 21) ok dX11_gain_11 (by decide) (fun c2 => ?_) (fun c2 => ?_)
    · skip
      refine w_iload_n ok dX11_gain_21 0 rfl ?_
      refine w_ineg ok dX11_gain_22 ?_
      exact w_iret ok fin dX11_gain_23 rfl (by unfold F_X11_gain; simp only [if_neg c1]; simp only [if_pos c2]; exact Pd.i)
    · skip
      refine w_bipush (v := 10) ok dX11_gain_14 (by decide) ?_
      refine w_iload_n ok dX11_gain_16 0 rfl ?_
      refine w_isub ok dX11_gain_17 ?_
      refine w_goto (tgt := 23) ok dX11_gain_18 (by decide) ?_
      exact w_iret ok fin dX11_gain_23 rfl (by unfold F_X11_gain; simp only [if_neg c1]; simp only [if_neg c2]; exact Pd.i)
  · skip
    refine w_iconst (v := 4) ok dX11_gain_5 (by decide) ?_
    refine w_iload_n ok dX11_gain_6 0 rfl ?_
    refine w_isub ok dX11_gain_7 ?_
    exact w_iret ok fin dX11_gain_8 rfl (by unfold F_X11_gain; simp only [if_pos c1]; exact Pd.i)
def B_X11_commonPart_l4 (a0 : Int32) (a1 : Int32) (I : SI) (J : SJ) (i4 : Nat) (s4 : Int32) : Int32 := if (a0 - a0 / (nI (1 + i4)) * (nI (1 + i4))) = 0 then (if (a1 - a1 / (nI (1 + i4)) * (nI (1 + i4))) = 0 then (nI (1 + i4)) else s4) else s4
def F_X11_commonPart_l4 (a0 : Int32) (a1 : Int32) (I : SI) (J : SJ) (s0 : Int32) : Int32 := itN (B_X11_commonPart_l4 a0 a1 I J) (100) s0
def F_X11_commonPart (a0 : Int32) (a1 : Int32) (I : SI) (J : SJ) : Int32 := (F_X11_commonPart_l4 a0 a1 I J 1)
def H_X11_commonPart (a0 : Int32) (a1 : Int32) (I : SI) (J : SJ) : Prop := (∀ (i4 : Nat) (s4 : Int32), i4 < 100 → s4 = itN (B_X11_commonPart_l4 a0 a1 I J) i4 1 → ¬ (nI (1 + i4)) = 0) ∧ (∀ (i4 : Nat) (s4 : Int32), i4 < 100 → s4 = itN (B_X11_commonPart_l4 a0 a1 I J) i4 1 → (a0 - a0 / (nI (1 + i4)) * (nI (1 + i4))) = 0 → ¬ (nI (1 + i4)) = 0)
set_option maxHeartbeats 1000000 in
set_option maxRecDepth 40000 in
theorem c_X11_commonPart {I : SI} {J : SJ} {R : SR} {n g : Nat} {f : Fr} (ro : RO R) (hnn : nK ≤ n) (hf : f.1 = true) (a0 : Int32) (a1 : Int32)  (hp : H_X11_commonPart a0 a1 I J) : MM 0 0 0 mX11_commonPart [.int a0, .int a1] (eI f I) (eJ f J) R n g (Pd (some (.int (F_X11_commonPart a0 a1 I J))) (eI f I) (eJ f J) R n g) := by
  refine MM.of (by decide) (Nat.le_of_ble_eq_true rfl) fun K ok fin => ?_
  show WK K 0 0 0 [(0, .int a0), (1, .int a1)] [] (eI f I) (eJ f J) R n g
  obtain ⟨hp1, hp2⟩ := hp
  refine w_iconst (v := 1) ok dX11_commonPart_0 (by decide) ?_
  refine w_istore_n ok dX11_commonPart_1 rfl (by decide) rfl ?_
  refine w_iconst (v := 1) ok dX11_commonPart_2 (by decide) ?_
  refine w_istore_n ok dX11_commonPart_3 rfl (by decide) rfl ?_
  refine w_loc [2, 3, 1, 0] rfl ?_
  refine loop_for (σ := Int32) (fun (i4 : Nat) (s4 : Int32) => WK K 0 0 4 [(0, .int a0), (1, .int a1), (2, .int s4), (3, .int (nI (1 + i4)))] [] (eI f I) (eJ f J) R n g) (B_X11_commonPart_l4 a0 a1 I J) (100) (1) ?_ ?_
  · show WK K 0 0 4 [(0, .int a0), (1, .int a1), (2, .int (F_X11_commonPart_l4 a0 a1 I J 1)), (3, .int (nI (1 + 100)))] [] (eI f I) (eJ f J) R n g
    have e1 : (100 : Int32) < (nI (1 + 100)) := (show nI 100 < nI (1 + 100) from nI_lt (by omega) (by decide))
    refine w_iload_n ok dX11_commonPart_4 3 rfl ?_
    refine w_bipush (v := 100) ok dX11_commonPart_5 (by decide) ?_
    refine w_icmp_gt (tgt := 30) ok dX11_commonPart_7 (by decide) (fun _ => ?_) (fun h => absurd e1 h)
    refine w_iload_n ok dX11_commonPart_30 2 rfl ?_
    exact w_iret ok fin dX11_commonPart_31 rfl (by unfold F_X11_commonPart; exact Pd.i)
  · intro i4 s4 hi4 hs4 k4
    show WK K 0 0 4 [(0, .int a0), (1, .int a1), (2, .int s4), (3, .int (nI (1 + i4)))] [] (eI f I) (eJ f J) R n g
    have e2 : ¬ ((100 : Int32) < (nI (1 + i4))) := (show ¬ (nI 100 < nI (1 + i4)) from nI_nlt (by omega) (by decide))
    refine w_iload_n ok dX11_commonPart_4 3 rfl ?_
    refine w_bipush (v := 100) ok dX11_commonPart_5 (by decide) ?_
    refine w_icmp_gt (tgt := 30) ok dX11_commonPart_7 (by decide) (fun h => absurd h e2) (fun _ => ?_)
    refine w_iload_n ok dX11_commonPart_10 0 rfl ?_
    refine w_iload_n ok dX11_commonPart_11 3 rfl ?_
    refine w_irem ok dX11_commonPart_12 (hp1 i4 s4 hi4 hs4) ?_
    refine w_if_ne (tgt := 24) ok dX11_commonPart_13 (by decide) (fun c3 => ?_) (fun c3 => ?_)
    · skip
      refine w_iinc (v := (nI (1 + i4)) + 1) ok dX11_commonPart_24 3 rfl rfl (by decide) rfl ?_
      refine w_goto (tgt := 4) ok dX11_commonPart_27 (by decide) ?_
      have eB : B_X11_commonPart_l4 a0 a1 I J i4 s4 = s4 := by
        unfold B_X11_commonPart_l4; exact (if_neg c3).trans (rfl)
      have kk := k4
      rw [eB] at kk
      refine w_loc [1, 2, 3, 0] rfl ?_
      rw [show nI (1 + i4) + 1 = nI (1 + (i4 + 1)) from nI_1 _]
      exact kk
    · skip
      refine w_iload_n ok dX11_commonPart_16 1 rfl ?_
      refine w_iload_n ok dX11_commonPart_17 3 rfl ?_
      refine w_irem ok dX11_commonPart_18 (hp2 i4 s4 hi4 hs4 c3) ?_
      refine w_if_ne (tgt := 24) ok dX11_commonPart_19 (by decide) (fun c4 => ?_) (fun c4 => ?_)
      · skip
        refine w_iinc (v := (nI (1 + i4)) + 1) ok dX11_commonPart_24 3 rfl rfl (by decide) rfl ?_
        refine w_goto (tgt := 4) ok dX11_commonPart_27 (by decide) ?_
        have eB : B_X11_commonPart_l4 a0 a1 I J i4 s4 = s4 := by
          unfold B_X11_commonPart_l4; exact (if_pos c3).trans ((if_neg c4).trans (rfl))
        have kk := k4
        rw [eB] at kk
        refine w_loc [1, 2, 3, 0] rfl ?_
        rw [show nI (1 + i4) + 1 = nI (1 + (i4 + 1)) from nI_1 _]
        exact kk
      · skip
        refine w_iload_n ok dX11_commonPart_22 3 rfl ?_
        refine w_istore_n ok dX11_commonPart_23 rfl (by decide) rfl ?_
        refine w_iinc (v := (nI (1 + i4)) + 1) ok dX11_commonPart_24 3 rfl rfl (by decide) rfl ?_
        refine w_goto (tgt := 4) ok dX11_commonPart_27 (by decide) ?_
        have eB : B_X11_commonPart_l4 a0 a1 I J i4 s4 = (nI (1 + i4)) := by
          unfold B_X11_commonPart_l4; exact (if_pos c3).trans ((if_pos c4).trans (rfl))
        have kk := k4
        rw [eB] at kk
        refine w_loc [2, 3, 1, 0] rfl ?_
        rw [show nI (1 + i4) + 1 = nI (1 + (i4 + 1)) from nI_1 _]
        exact kk
def B_X11_believed_l4 (I : SI) (J : SJ) (i4 : Nat) (s4 : Int32) : Int32 := if (atF (I 91) 6 (atF (I 15) 8 (nI i4))) = (atF (I 16) 8 (nI i4)) then (s4 ||| ((1 : Int32) <<< ((nI i4) &&& 31))) else s4
def F_X11_believed_l4 (I : SI) (J : SJ) (s0 : Int32) : Int32 := itN (B_X11_believed_l4 I J) ((I 13 1).toNatClampNeg) s0
def F_X11_believed  (I : SI) (J : SJ) : Int32 := (F_X11_believed_l4 I J 0)
set_option maxHeartbeats 1000000 in
set_option maxRecDepth 40000 in
theorem c_X11_believed {I : SI} {J : SJ} {R : SR} {n g : Nat} {f : Fr} (ro : RO R) (hnn : nK ≤ n) (hf : f.1 = true)    : MM 1 0 0 mX11_believed [.ref 0] (eI f I) (eJ f J) R n g (Pd (some (.int (F_X11_believed  I J))) (eI f I) (eJ f J) R n g) := by
  refine MM.of (by decide) (Nat.le_of_ble_eq_true rfl) fun K ok fin => ?_
  show WK K 0 0 0 [(0, .ref 0)] [] (eI f I) (eJ f J) R n g
  refine w_iconst (v := 0) ok dX11_believed_0 (by decide) ?_
  refine w_istore_n ok dX11_believed_1 rfl (by decide) rfl ?_
  refine w_iconst (v := 0) ok dX11_believed_2 (by decide) ?_
  refine w_istore_n ok dX11_believed_3 rfl (by decide) rfl ?_
  refine w_loc [2, 1, 0] rfl ?_
  refine loop_for (σ := Int32) (fun (i4 : Nat) (s4 : Int32) => WK K 0 0 4 [(0, .ref 0), (1, .int s4), (2, .int (nI i4))] [] (eI f I) (eJ f J) R n g) (B_X11_believed_l4 I J) ((I 13 1).toNatClampNeg) (0) ?_ ?_
  · show WK K 0 0 4 [(0, .ref 0), (1, .int (F_X11_believed_l4 I J 0)), (2, .int (nI ((I 13 1).toNatClampNeg)))] [] (eI f I) (eJ f J) R n g
    have e1 : (I 13 1) ≤ (nI ((I 13 1).toNatClampNeg)) := cnt_ge _
    refine w_iload_n ok dX11_believed_4 2 rfl ?_
    refine w_aload_n ok dX11_believed_5 0 rfl ?_
    refine w_getR ok dX11_believed_6 (fX11_20 rfl) (congrArg Prod.fst s_0) rfl (r_0_2 ro) (ltK hnn (by decide)) ?_
    refine w_getR ok dX11_believed_9 (fX11_125 rfl) (congrArg Prod.fst s_2) rfl (r_2_2 ro) (ltK hnn (by decide)) ?_
    refine y_getI ok dX11_believed_12 (fX11_256 rfl) (congrArg Prod.fst s_13) rfl (ltK hnn (by decide)) (sdc hf (by decide)) ?_
    refine w_icmp_ge (tgt := 71) ok dX11_believed_15 (by decide) (fun _ => ?_) (fun h => absurd e1 h)
    refine w_iload_n ok dX11_believed_71 1 rfl ?_
    exact w_iret ok fin dX11_believed_72 rfl (by unfold F_X11_believed; exact Pd.i)
  · intro i4 s4 hi4 hs4 k4
    show WK K 0 0 4 [(0, .ref 0), (1, .int s4), (2, .int (nI i4))] [] (eI f I) (eJ f J) R n g
    have e2 : ¬ ((I 13 1) ≤ (nI i4)) := cnt_lt hi4
    refine w_iload_n ok dX11_believed_4 2 rfl ?_
    refine w_aload_n ok dX11_believed_5 0 rfl ?_
    refine w_getR ok dX11_believed_6 (fX11_20 rfl) (congrArg Prod.fst s_0) rfl (r_0_2 ro) (ltK hnn (by decide)) ?_
    refine w_getR ok dX11_believed_9 (fX11_125 rfl) (congrArg Prod.fst s_2) rfl (r_2_2 ro) (ltK hnn (by decide)) ?_
    refine y_getI ok dX11_believed_12 (fX11_256 rfl) (congrArg Prod.fst s_13) rfl (ltK hnn (by decide)) (sdc hf (by decide)) ?_
    refine w_icmp_ge (tgt := 71) ok dX11_believed_15 (by decide) (fun h => absurd h e2) (fun _ => ?_)
    refine w_aload_n ok dX11_believed_18 0 rfl ?_
    refine w_getR ok dX11_believed_19 (fX11_34 rfl) (congrArg Prod.fst s_0) rfl (r_0_4 ro) (ltK hnn (by decide)) ?_
    refine w_getR ok dX11_believed_22 (fX11_153 rfl) (congrArg Prod.fst s_86) rfl (r_86_11 ro) (ltK hnn (by decide)) ?_
    refine w_aload_n ok dX11_believed_25 0 rfl ?_
    refine w_getR ok dX11_believed_26 (fX11_20 rfl) (congrArg Prod.fst s_0) rfl (r_0_2 ro) (ltK hnn (by decide)) ?_
    refine w_getR ok dX11_believed_29 (fX11_125 rfl) (congrArg Prod.fst s_2) rfl (r_2_2 ro) (ltK hnn (by decide)) ?_
    refine w_getR ok dX11_believed_32 (fX11_142 rfl) (congrArg Prod.fst s_13) rfl (r_13_3 ro) (ltK hnn (by decide)) ?_
    refine w_iload_n ok dX11_believed_35 2 rfl ?_
    refine w_cS (As := [.ref 15, .int (nI i4)]) ok dX11_believed_36 iX11_at (lX11_146 rfl) (c_at s_15 (ltK hnn (by decide)) (sdc hf (by decide)) (nI i4)) (by decide) rfl (Nat.le_of_ble_eq_true rfl) ?_
    show WK K 0 0 39 [(0, .ref 0), (1, .int s4), (2, .int (nI i4))] [.int (atF (I 15) 8 (nI i4)), .ref 91] (eI f I) (eJ f J) R n g
    refine w_cS (As := [.ref 91, .int (atF (I 15) 8 (nI i4))]) ok dX11_believed_39 iX11_at (lX11_146 rfl) (c_at s_91 (ltK hnn (by decide)) (sdc hf (by decide)) (atF (I 15) 8 (nI i4))) (by decide) rfl (Nat.le_of_ble_eq_true rfl) ?_
    refine w_aload_n ok dX11_believed_42 0 rfl ?_
    refine w_getR ok dX11_believed_43 (fX11_20 rfl) (congrArg Prod.fst s_0) rfl (r_0_2 ro) (ltK hnn (by decide)) ?_
    refine w_getR ok dX11_believed_46 (fX11_125 rfl) (congrArg Prod.fst s_2) rfl (r_2_2 ro) (ltK hnn (by decide)) ?_
    refine w_getR ok dX11_believed_49 (fX11_150 rfl) (congrArg Prod.fst s_13) rfl (r_13_4 ro) (ltK hnn (by decide)) ?_
    refine w_iload_n ok dX11_believed_52 2 rfl ?_
    refine w_cS (As := [.ref 16, .int (nI i4)]) ok dX11_believed_53 iX11_at (lX11_146 rfl) (c_at s_16 (ltK hnn (by decide)) (sdc hf (by decide)) (nI i4)) (by decide) rfl (Nat.le_of_ble_eq_true rfl) ?_
    show WK K 0 0 56 [(0, .ref 0), (1, .int s4), (2, .int (nI i4))] [.int (atF (I 16) 8 (nI i4)), .int (atF (I 91) 6 (atF (I 15) 8 (nI i4)))] (eI f I) (eJ f J) R n g
    refine w_icmp_ne (tgt := 65) ok dX11_believed_56 (by decide) (fun c3 => ?_) (fun c3 => ?_)
    · skip
      refine w_iinc (v := (nI i4) + 1) ok dX11_believed_65 2 rfl rfl (by decide) rfl ?_
      refine w_goto (tgt := 4) ok dX11_believed_68 (by decide) ?_
      have eB : B_X11_believed_l4 I J i4 s4 = s4 := by
        unfold B_X11_believed_l4; exact (if_neg c3).trans (rfl)
      have kk := k4
      rw [eB] at kk
      refine w_loc [1, 2, 0] rfl ?_
      rw [nI_1 i4]
      exact kk
    · skip
      refine w_iload_n ok dX11_believed_59 1 rfl ?_
      refine w_iconst (v := 1) ok dX11_believed_60 (by decide) ?_
      refine w_iload_n ok dX11_believed_61 2 rfl ?_
      refine w_ishl ok dX11_believed_62 ?_
      refine w_ior ok dX11_believed_63 ?_
      refine w_istore_n ok dX11_believed_64 rfl (by decide) rfl ?_
      refine w_iinc (v := (nI i4) + 1) ok dX11_believed_65 2 rfl rfl (by decide) rfl ?_
      refine w_goto (tgt := 4) ok dX11_believed_68 (by decide) ?_
      have eB : B_X11_believed_l4 I J i4 s4 = (s4 ||| ((1 : Int32) <<< ((nI i4) &&& 31))) := by
        unfold B_X11_believed_l4; exact (if_pos c3).trans (rfl)
      have kk := k4
      rw [eB] at kk
      refine w_loc [2, 1, 0] rfl ?_
      rw [nI_1 i4]
      exact kk
def F_X11_known (a0 : Int32) (I : SI) (J : SJ) : Int32 := if a0 < (-1) then 0 else (if a0 ≤ (I 116 0) then 1 else 0)
def FI_X11_known (a0 : Int32) (I : SI) (J : SJ) : SI := if a0 < (-1) then I else (if a0 ≤ (I 116 0) then u2 I 116 1 a0 else I)
set_option maxHeartbeats 1000000 in
set_option maxRecDepth 40000 in
theorem c_X11_known {I : SI} {J : SJ} {R : SR} {n g : Nat} {f : Fr} (ro : RO R) (hnn : nK ≤ n) (hf : f.1 = true) (a0 : Int32)   : MM 0 0 0 mX11_known [.ref 0, .int a0] (eI f I) (eJ f J) R n g (Pd (some (.int (F_X11_known a0 I J))) (eI f (FI_X11_known a0 I J)) (eJ f J) R n g) := by
  refine MM.of (by decide) (Nat.le_of_ble_eq_true rfl) fun K ok fin => ?_
  show WK K 0 0 0 [(0, .ref 0), (1, .int a0)] [] (eI f I) (eJ f J) R n g
  refine w_iload_n ok dX11_known_0 1 rfl ?_
  refine w_iconst (v := (-1)) ok dX11_known_1 (by decide) ?_
  refine w_icmp_lt (tgt := 16) ok dX11_known_2 (by decide) (fun c1 => ?_) (fun c1 => ?_)
  · skip
    refine w_iconst (v := 0) ok dX11_known_16 (by decide) ?_
    exact w_zret ok fin dX11_known_17 rfl (by decide) (by unfold F_X11_known FI_X11_known; simp only [if_pos c1]; exact Pd.i)
  · skip
    refine w_iload_n ok dX11_known_5 1 rfl ?_
    refine w_aload_n ok dX11_known_6 0 rfl ?_
    refine w_getR ok dX11_known_7 (fX11_57 rfl) (congrArg Prod.fst s_0) rfl (r_0_8 ro) (ltK hnn (by decide)) ?_
    refine y_getI ok dX11_known_10 (fX11_331 rfl) (congrArg Prod.fst s_116) rfl (ltK hnn (by decide)) (sdc hf (by decide)) ?_
    refine w_icmp_le (tgt := 18) ok dX11_known_13 (by decide) (fun c2 => ?_) (fun c2 => ?_)
    · skip
      refine w_aload_n ok dX11_known_18 0 rfl ?_
      refine w_getR ok dX11_known_19 (fX11_57 rfl) (congrArg Prod.fst s_0) rfl (r_0_8 ro) (ltK hnn (by decide)) ?_
      refine w_iload_n ok dX11_known_22 1 rfl ?_
      refine y_putI ok dX11_known_23 (fwX11_332 rfl) (congrArg Prod.fst s_116) rfl (ltK hnn (by decide)) (sdc hf (by decide)) ?_
      refine w_iconst (v := 1) ok dX11_known_26 (by decide) ?_
      exact w_zret ok fin dX11_known_27 rfl (by decide) (by unfold F_X11_known FI_X11_known; simp only [if_neg c1]; simp only [if_pos c2]; exact Pd.i)
    · skip
      refine w_iconst (v := 0) ok dX11_known_16 (by decide) ?_
      exact w_zret ok fin dX11_known_17 rfl (by decide) (by unfold F_X11_known FI_X11_known; simp only [if_neg c1]; simp only [if_neg c2]; exact Pd.i)
def T_X12_feed_j73 (a0 : Int32) (a1 : Int32) (a2 : Int32) (a3 : Int32) (a4 : Int32) (I : SI) (J : SJ) (i20 : Nat) (s20 : SI) : Int32 := if (4 : Int32) ≤ (nI i20) then (if (8 : Int32) ≤ (nI i20) then (if (12 : Int32) ≤ (nI i20) then (if (16 : Int32) ≤ (nI i20) then a4 else a3) else a2) else a1) else a0
def S2_X12_feed (a0 : Int32) (a1 : Int32) (a2 : Int32) (a3 : Int32) (a4 : Int32) (I : SI) (J : SJ) (i20 : Nat) (s20 : SI) : Int32 := (T_X12_feed_j73 a0 a1 a2 a3 a4 I J i20 s20) >>> (((24 : Int32) - ((8 : Int32) * ((nI i20) - (nI i20) / 4 * 4))) &&& 31)
def S3_X12_feed (a0 : Int32) (a1 : Int32) (a2 : Int32) (a3 : Int32) (a4 : Int32) (I : SI) (J : SJ) (i20 : Nat) (s20 : SI) : SI := u2 s20 131 ((s20 130 2) + (nI i20)).toNatClampNeg ((S2_X12_feed a0 a1 a2 a3 a4 I J i20 s20) &&& 255)
def B_X12_feed_l20 (a0 : Int32) (a1 : Int32) (a2 : Int32) (a3 : Int32) (a4 : Int32) (I : SI) (J : SJ) (i20 : Nat) (s20 : SI) : SI := (S3_X12_feed a0 a1 a2 a3 a4 I J i20 s20)
def F_X12_feed_l20 (a0 : Int32) (a1 : Int32) (a2 : Int32) (a3 : Int32) (a4 : Int32) (I : SI) (J : SJ) (s0 : SI) : SI := itN (B_X12_feed_l20 a0 a1 a2 a3 a4 I J) (20) s0
def S1_X12_feed (a0 : Int32) (a1 : Int32) (a2 : Int32) (a3 : Int32) (a4 : Int32) (I : SI) (J : SJ) : SI := u2 ((F_X12_feed_l20 a0 a1 a2 a3 a4 I J (u2 I 130 0 0))) 130 2 ((((F_X12_feed_l20 a0 a1 a2 a3 a4 I J (u2 I 130 0 0))) 130 2) + 20)
def F_X12_feed (a0 : Int32) (a1 : Int32) (a2 : Int32) (a3 : Int32) (a4 : Int32) (I : SI) (J : SJ) : Int32 := if ((u2 I 130 0 0) 130 2) ≤ 680 then ((S1_X12_feed a0 a1 a2 a3 a4 I J)) 130 2 else -1
def FI_X12_feed (a0 : Int32) (a1 : Int32) (a2 : Int32) (a3 : Int32) (a4 : Int32) (I : SI) (J : SJ) : SI := if ((u2 I 130 0 0) 130 2) ≤ 680 then (S1_X12_feed a0 a1 a2 a3 a4 I J) else u2 I 130 0 0
def H_X12_feed (a0 : Int32) (a1 : Int32) (a2 : Int32) (a3 : Int32) (a4 : Int32) (I : SI) (J : SJ) : Prop := (((u2 I 130 0 0) 130 2) ≤ 680 → ∀ (i20 : Nat) (s20 : SI), i20 < 20 → s20 = itN (B_X12_feed_l20 a0 a1 a2 a3 a4 I J) i20 (u2 I 130 0 0) → inR ((s20 130 2) + (nI i20)) 700)
set_option maxHeartbeats 1270000 in
set_option maxRecDepth 40000 in
theorem c_X12_feed {I : SI} {J : SJ} {R : SR} {n g : Nat} {f : Fr} (ro : RM R) (hnn : nM ≤ n) (hf : f.1 = false) (a0 : Int32) (a1 : Int32) (a2 : Int32) (a3 : Int32) (a4 : Int32)  (hp : H_X12_feed a0 a1 a2 a3 a4 I J) : MM 0 0 0 mX12_feed [.ref 130, .int a0, .int a1, .int a2, .int a3, .int a4] (eI f I) (eJ f J) R n g (Pd (some (.int (F_X12_feed a0 a1 a2 a3 a4 I J))) (eI f (FI_X12_feed a0 a1 a2 a3 a4 I J)) (eJ f J) R n g) := by
  refine MM.of (by decide) (Nat.le_of_ble_eq_true rfl) fun K ok fin => ?_
  show WK K 0 0 0 [(0, .ref 130), (1, .int a0), (2, .int a1), (3, .int a2), (4, .int a3), (5, .int a4)] [] (eI f I) (eJ f J) R n g
  have hp1 := hp
  refine w_aload_n ok dX12_feed_0 0 rfl ?_
  refine w_iconst (v := 0) ok dX12_feed_1 (by decide) ?_
  refine y_putI ok dX12_feed_2 (fwX12_169 rfl) (congrArg Prod.fst s_130) rfl (ltM hnn (by decide)) (sdm hf (by decide)) ?_
  refine w_aload_n ok dX12_feed_5 0 rfl ?_
  refine y_getI ok dX12_feed_6 (fX12_172 rfl) (congrArg Prod.fst s_130) rfl (ltM hnn (by decide)) (sdm hf (by decide)) ?_
  refine w_sipush (v := 680) ok dX12_feed_9 (by decide) ?_
  refine w_icmp_le (tgt := 17) ok dX12_feed_12 (by decide) (fun c1 => ?_) (fun c1 => ?_)
  · skip
    refine w_iconst (v := 0) ok dX12_feed_17 (by decide) ?_
    refine w_istore ok dX12_feed_18 (by decide) rfl ?_
    refine w_loc [1, 2, 3, 4, 5, 6, 0] rfl ?_
    refine loop_for (σ := SI) (fun (i20 : Nat) (s20 : SI) => WK K 0 0 20 [(0, .ref 130), (1, .int a0), (2, .int a1), (3, .int a2), (4, .int a3), (5, .int a4), (6, .int (nI i20))] [] (eI f s20) (eJ f J) R n g) (B_X12_feed_l20 a0 a1 a2 a3 a4 I J) (20) ((u2 I 130 0 0)) ?_ ?_
    · show WK K 0 0 20 [(0, .ref 130), (1, .int a0), (2, .int a1), (3, .int a2), (4, .int a3), (5, .int a4), (6, .int (nI 20))] [] (eI f ((F_X12_feed_l20 a0 a1 a2 a3 a4 I J (u2 I 130 0 0)))) (eJ f J) R n g
      have e2 : (20 : Int32) ≤ (nI 20) := (show nI 20 ≤ nI 20 from nI_le (by omega) (by decide))
      refine w_iload ok dX12_feed_20 6 rfl ?_
      refine w_bipush (v := 20) ok dX12_feed_22 (by decide) ?_
      refine w_icmp_ge (tgt := 110) ok dX12_feed_24 (by decide) (fun _ => ?_) (fun h => absurd e2 h)
      refine w_aload_n ok dX12_feed_110 0 rfl ?_
      refine w_dup ok dX12_feed_111 rfl ?_
      refine y_getI ok dX12_feed_112 (fX12_172 rfl) (congrArg Prod.fst s_130) rfl (ltM hnn (by decide)) (sdm hf (by decide)) ?_
      refine w_bipush (v := 20) ok dX12_feed_115 (by decide) ?_
      refine w_iadd ok dX12_feed_117 ?_
      refine y_putI ok dX12_feed_118 (fwX12_172 rfl) (congrArg Prod.fst s_130) rfl (ltM hnn (by decide)) (sdm hf (by decide)) ?_
      show WK K 0 0 121 [(0, .ref 130), (1, .int a0), (2, .int a1), (3, .int a2), (4, .int a3), (5, .int a4), (6, .int (nI 20))] [] (eI f (S1_X12_feed a0 a1 a2 a3 a4 I J)) (eJ f J) R n g
      refine w_aload_n ok dX12_feed_121 0 rfl ?_
      refine y_getI ok dX12_feed_122 (fX12_172 rfl) (congrArg Prod.fst s_130) rfl (ltM hnn (by decide)) (sdm hf (by decide)) ?_
      exact w_iret ok fin dX12_feed_125 rfl (by unfold F_X12_feed FI_X12_feed; simp only [if_pos c1]; exact Pd.i)
    · intro i20 s20 hi20 hs20 k20
      show WK K 0 0 20 [(0, .ref 130), (1, .int a0), (2, .int a1), (3, .int a2), (4, .int a3), (5, .int a4), (6, .int (nI i20))] [] (eI f s20) (eJ f J) R n g
      have e3 : ¬ ((20 : Int32) ≤ (nI i20)) := (show ¬ (nI 20 ≤ nI i20) from nI_ge (by omega) (by decide))
      refine w_iload ok dX12_feed_20 6 rfl ?_
      refine w_bipush (v := 20) ok dX12_feed_22 (by decide) ?_
      refine w_icmp_ge (tgt := 110) ok dX12_feed_24 (by decide) (fun h => absurd h e3) (fun _ => ?_)
      refine w_iload ok dX12_feed_27 6 rfl ?_
      refine w_iconst (v := 4) ok dX12_feed_29 (by decide) ?_
      have jn4 : WK K 0 0 73 [(0, .ref 130), (1, .int a0), (2, .int a1), (3, .int a2), (4, .int a3), (5, .int a4), (6, .int (nI i20))] [.int (T_X12_feed_j73 a0 a1 a2 a3 a4 I J i20 s20)] (eI f s20) (eJ f J) R n g := by
        refine w_istore ok dX12_feed_73 (by decide) rfl ?_
        refine w_aload_n ok dX12_feed_75 1 rfl ?_
        refine w_getR ok dX12_feed_76 (fX12_7 rfl) (congrArg Prod.fst s_130) rfl (r_130_1 ro) (ltM hnn (by decide)) ?_
        refine w_aload_n ok dX12_feed_79 1 rfl ?_
        refine y_getI ok dX12_feed_80 (fX12_172 rfl) (congrArg Prod.fst s_130) rfl (ltM hnn (by decide)) (sdm hf (by decide)) ?_
        refine w_iload ok dX12_feed_83 7 rfl ?_
        refine w_iadd ok dX12_feed_85 ?_
        refine w_iload ok dX12_feed_86 0 rfl ?_
        refine w_bipush (v := 24) ok dX12_feed_88 (by decide) ?_
        refine w_bipush (v := 8) ok dX12_feed_90 (by decide) ?_
        refine w_iload ok dX12_feed_92 7 rfl ?_
        refine w_iconst (v := 4) ok dX12_feed_94 (by decide) ?_
        refine w_irem ok dX12_feed_95 (by decide) ?_
        refine w_imul ok dX12_feed_96 ?_
        refine w_isub ok dX12_feed_97 ?_
        refine w_ishr ok dX12_feed_98 ?_
        show WK K 0 0 99 [(7, .int (T_X12_feed_j73 a0 a1 a2 a3 a4 I J i20 s20)), (0, .ref 130), (1, .int a0), (2, .int a1), (3, .int a2), (4, .int a3), (5, .int a4), (6, .int (nI i20))] [.int (S2_X12_feed a0 a1 a2 a3 a4 I J i20 s20), .int ((s20 130 2) + (nI i20)), .ref 131] (eI f s20) (eJ f J) R n g
        refine w_sipush (v := 255) ok dX12_feed_99 (by decide) ?_
        refine w_iand ok dX12_feed_102 ?_
        refine y_iast (q := ((s20 130 2) + (nI i20)).toNatClampNeg) ok dX12_feed_103 s_131 (hp1 c1 i20 s20 hi20 hs20) (by decide) (ltM hnn (by decide)) (sdm hf (by decide)) ?_
        show WK K 0 0 104 [(7, .int (T_X12_feed_j73 a0 a1 a2 a3 a4 I J i20 s20)), (0, .ref 130), (1, .int a0), (2, .int a1), (3, .int a2), (4, .int a3), (5, .int a4), (6, .int (nI i20))] [] (eI f (S3_X12_feed a0 a1 a2 a3 a4 I J i20 s20)) (eJ f J) R n g
        refine w_iinc (v := (nI i20) + 1) ok dX12_feed_104 7 rfl rfl (by decide) rfl ?_
        refine w_goto (tgt := 20) ok dX12_feed_107 (by decide) ?_
        have eB : B_X12_feed_l20 a0 a1 a2 a3 a4 I J i20 s20 = (S3_X12_feed a0 a1 a2 a3 a4 I J i20 s20) := by
          unfold B_X12_feed_l20; exact rfl
        have kk := k20
        rw [eB] at kk
        refine w_loc [2, 3, 4, 5, 6, 7, 0] rfl ?_
        rw [nI_1 i20]
        exact kk
      refine w_icmp_ge (tgt := 37) ok dX12_feed_30 (by decide) (fun c5 => ?_) (fun c5 => ?_)
      · skip
        refine w_iload ok dX12_feed_37 6 rfl ?_
        refine w_bipush (v := 8) ok dX12_feed_39 (by decide) ?_
        refine w_icmp_ge (tgt := 48) ok dX12_feed_41 (by decide) (fun c6 => ?_) (fun c6 => ?_)
        · skip
          refine w_iload ok dX12_feed_48 6 rfl ?_
          refine w_bipush (v := 12) ok dX12_feed_50 (by decide) ?_
          refine w_icmp_ge (tgt := 59) ok dX12_feed_52 (by decide) (fun c7 => ?_) (fun c7 => ?_)
          · skip
            refine w_iload ok dX12_feed_59 6 rfl ?_
            refine w_bipush (v := 16) ok dX12_feed_61 (by decide) ?_
            refine w_icmp_ge (tgt := 71) ok dX12_feed_63 (by decide) (fun c8 => ?_) (fun c8 => ?_)
            · skip
              refine w_iload ok dX12_feed_71 5 rfl ?_
              have eT : (T_X12_feed_j73 a0 a1 a2 a3 a4 I J i20 s20) = a4 := by
                unfold T_X12_feed_j73; exact (if_pos c5).trans ((if_pos c6).trans ((if_pos c7).trans ((if_pos c8).trans (rfl))))
              refine w_loc [0, 1, 2, 3, 4, 5, 6] rfl ?_
              have jj := jn4
              rw [eT] at jj
              exact jj
            · skip
              refine w_iload ok dX12_feed_66 4 rfl ?_
              refine w_goto (tgt := 73) ok dX12_feed_68 (by decide) ?_
              have eT : (T_X12_feed_j73 a0 a1 a2 a3 a4 I J i20 s20) = a3 := by
                unfold T_X12_feed_j73; exact (if_pos c5).trans ((if_pos c6).trans ((if_pos c7).trans ((if_neg c8).trans (rfl))))
              refine w_loc [0, 1, 2, 3, 4, 5, 6] rfl ?_
              have jj := jn4
              rw [eT] at jj
              exact jj
          · skip
            refine w_iload_n ok dX12_feed_55 3 rfl ?_
            refine w_goto (tgt := 73) ok dX12_feed_56 (by decide) ?_
            have eT : (T_X12_feed_j73 a0 a1 a2 a3 a4 I J i20 s20) = a2 := by
              unfold T_X12_feed_j73; exact (if_pos c5).trans ((if_pos c6).trans ((if_neg c7).trans (rfl)))
            refine w_loc [0, 1, 2, 3, 4, 5, 6] rfl ?_
            have jj := jn4
            rw [eT] at jj
            exact jj
        · skip
          refine w_iload_n ok dX12_feed_44 2 rfl ?_
          refine w_goto (tgt := 73) ok dX12_feed_45 (by decide) ?_
          have eT : (T_X12_feed_j73 a0 a1 a2 a3 a4 I J i20 s20) = a1 := by
            unfold T_X12_feed_j73; exact (if_pos c5).trans ((if_neg c6).trans (rfl))
          refine w_loc [0, 1, 2, 3, 4, 5, 6] rfl ?_
          have jj := jn4
          rw [eT] at jj
          exact jj
      · skip
        refine w_iload_n ok dX12_feed_33 1 rfl ?_
        refine w_goto (tgt := 73) ok dX12_feed_34 (by decide) ?_
        have eT : (T_X12_feed_j73 a0 a1 a2 a3 a4 I J i20 s20) = a0 := by
          unfold T_X12_feed_j73; exact (if_neg c5).trans (rfl)
        refine w_loc [0, 1, 2, 3, 4, 5, 6] rfl ?_
        have jj := jn4
        rw [eT] at jj
        exact jj
  · skip
    refine w_iconst (v := (-1)) ok dX12_feed_15 (by decide) ?_
    exact w_iret ok fin dX12_feed_16 rfl (by unfold F_X12_feed FI_X12_feed; simp only [if_neg c1]; exact Pd.i)
def F_X12_here  (I : SI) (J : SJ) : Int32 := if (I 130 25) ≤ (I 130 26) then -1 else I 131 (I 130 26).toNatClampNeg
def H_X12_here  (I : SI) (J : SJ) : Prop := (¬ ((I 130 25) ≤ (I 130 26)) → inR (I 130 26) 700)
set_option maxHeartbeats 1000000 in
set_option maxRecDepth 40000 in
theorem c_X12_here {I : SI} {J : SJ} {R : SR} {n g : Nat} {f : Fr} (ro : RM R) (hnn : nM ≤ n) (hf : f.1 = false)   (hp : H_X12_here  I J) : MM 0 0 0 mX12_here [.ref 130] (eI f I) (eJ f J) R n g (Pd (some (.int (F_X12_here  I J))) (eI f I) (eJ f J) R n g) := by
  refine MM.of (by decide) (Nat.le_of_ble_eq_true rfl) fun K ok fin => ?_
  show WK K 0 0 0 [(0, .ref 130)] [] (eI f I) (eJ f J) R n g
  have hp1 := hp
  refine w_aload_n ok dX12_here_0 0 rfl ?_
  refine y_getI ok dX12_here_1 (fX12_175 rfl) (congrArg Prod.fst s_130) rfl (ltM hnn (by decide)) (sdm hf (by decide)) ?_
  refine w_aload_n ok dX12_here_4 0 rfl ?_
  refine y_getI ok dX12_here_5 (fX12_178 rfl) (congrArg Prod.fst s_130) rfl (ltM hnn (by decide)) (sdm hf (by decide)) ?_
  refine w_icmp_ge (tgt := 23) ok dX12_here_8 (by decide) (fun c1 => ?_) (fun c1 => ?_)
  · skip
    refine w_iconst (v := (-1)) ok dX12_here_23 (by decide) ?_
    exact w_iret ok fin dX12_here_24 rfl (by unfold F_X12_here; simp only [if_pos c1]; exact Pd.i)
  · skip
    refine w_aload_n ok dX12_here_11 0 rfl ?_
    refine w_getR ok dX12_here_12 (fX12_7 rfl) (congrArg Prod.fst s_130) rfl (r_130_1 ro) (ltM hnn (by decide)) ?_
    refine w_aload_n ok dX12_here_15 0 rfl ?_
    refine y_getI ok dX12_here_16 (fX12_175 rfl) (congrArg Prod.fst s_130) rfl (ltM hnn (by decide)) (sdm hf (by decide)) ?_
    refine y_iald (q := (I 130 26).toNatClampNeg) ok dX12_here_19 s_131 (hp1 c1) (by decide) (ltM hnn (by decide)) (sdm hf (by decide)) ?_
    refine w_goto (tgt := 24) ok dX12_here_20 (by decide) ?_
    exact w_iret ok fin dX12_here_24 rfl (by unfold F_X12_here; simp only [if_neg c1]; exact Pd.i)
def F_X12_isSmall (a0 : Int32) (I : SI) (J : SJ) : Int32 := if a0 < 97 then 0 else (if (122 : Int32) < a0 then 0 else 1)
set_option maxHeartbeats 1000000 in
set_option maxRecDepth 40000 in
theorem c_X12_isSmall {I : SI} {J : SJ} {R : SR} {n g : Nat} {f : Fr} (ro : RM R) (hnn : nM ≤ n) (hf : f.1 = false) (a0 : Int32)   : MM 0 0 0 mX12_isSmall [.int a0] (eI f I) (eJ f J) R n g (Pd (some (.int (F_X12_isSmall a0 I J))) (eI f I) (eJ f J) R n g) := by
  refine MM.of (by decide) (Nat.le_of_ble_eq_true rfl) fun K ok fin => ?_
  show WK K 0 0 0 [(0, .int a0)] [] (eI f I) (eJ f J) R n g
  refine w_iload_n ok dX12_isSmall_0 0 rfl ?_
  refine w_bipush (v := 97) ok dX12_isSmall_1 (by decide) ?_
  refine w_icmp_lt (tgt := 16) ok dX12_isSmall_3 (by decide) (fun c1 => ?_) (fun c1 => ?_)
  · skip
    refine w_iconst (v := 0) ok dX12_isSmall_16 (by decide) ?_
    exact w_zret ok fin dX12_isSmall_17 rfl (by decide) (by unfold F_X12_isSmall; simp only [if_pos c1]; exact Pd.i)
  · skip
    refine w_iload_n ok dX12_isSmall_6 0 rfl ?_
    refine w_bipush (v := 122) ok dX12_isSmall_7 (by decide) ?_
    refine w_icmp_gt (tgt := 16) ok dX12_isSmall_9 (by decide) (fun c2 => ?_) (fun c2 => ?_)
    · skip
      refine w_iconst (v := 0) ok dX12_isSmall_16 (by decide) ?_
      exact w_zret ok fin dX12_isSmall_17 rfl (by decide) (by unfold F_X12_isSmall; simp only [if_neg c1]; simp only [if_pos c2]; exact Pd.i)
    · skip
      refine w_iconst (v := 1) ok dX12_isSmall_12 (by decide) ?_
      refine w_goto (tgt := 17) ok dX12_isSmall_13 (by decide) ?_
      exact w_zret ok fin dX12_isSmall_17 rfl (by decide) (by unfold F_X12_isSmall; simp only [if_neg c1]; simp only [if_neg c2]; exact Pd.i)
def F_X12_isDigit (a0 : Int32) (I : SI) (J : SJ) : Int32 := if a0 < 48 then 0 else (if (57 : Int32) < a0 then 0 else 1)
set_option maxHeartbeats 1000000 in
set_option maxRecDepth 40000 in
theorem c_X12_isDigit {I : SI} {J : SJ} {R : SR} {n g : Nat} {f : Fr} (ro : RM R) (hnn : nM ≤ n) (hf : f.1 = false) (a0 : Int32)   : MM 0 0 0 mX12_isDigit [.int a0] (eI f I) (eJ f J) R n g (Pd (some (.int (F_X12_isDigit a0 I J))) (eI f I) (eJ f J) R n g) := by
  refine MM.of (by decide) (Nat.le_of_ble_eq_true rfl) fun K ok fin => ?_
  show WK K 0 0 0 [(0, .int a0)] [] (eI f I) (eJ f J) R n g
  refine w_iload_n ok dX12_isDigit_0 0 rfl ?_
  refine w_bipush (v := 48) ok dX12_isDigit_1 (by decide) ?_
  refine w_icmp_lt (tgt := 16) ok dX12_isDigit_3 (by decide) (fun c1 => ?_) (fun c1 => ?_)
  · skip
    refine w_iconst (v := 0) ok dX12_isDigit_16 (by decide) ?_
    exact w_zret ok fin dX12_isDigit_17 rfl (by decide) (by unfold F_X12_isDigit; simp only [if_pos c1]; exact Pd.i)
  · skip
    refine w_iload_n ok dX12_isDigit_6 0 rfl ?_
    refine w_bipush (v := 57) ok dX12_isDigit_7 (by decide) ?_
    refine w_icmp_gt (tgt := 16) ok dX12_isDigit_9 (by decide) (fun c2 => ?_) (fun c2 => ?_)
    · skip
      refine w_iconst (v := 0) ok dX12_isDigit_16 (by decide) ?_
      exact w_zret ok fin dX12_isDigit_17 rfl (by decide) (by unfold F_X12_isDigit; simp only [if_neg c1]; simp only [if_pos c2]; exact Pd.i)
    · skip
      refine w_iconst (v := 1) ok dX12_isDigit_12 (by decide) ?_
      refine w_goto (tgt := 17) ok dX12_isDigit_13 (by decide) ?_
      exact w_zret ok fin dX12_isDigit_17 rfl (by decide) (by unfold F_X12_isDigit; simp only [if_neg c1]; simp only [if_neg c2]; exact Pd.i)
def T_X12_sign_j76 (a0 : Int32) (I : SI) (J : SJ) : Int32 := if a0 = 59 then 3 else (if a0 = 40 then 3 else (if a0 = 41 then 3 else (if a0 = 43 then 3 else (if a0 = 45 then 3 else (if a0 = 42 then 3 else (if a0 = 47 then 3 else (if a0 = 60 then 3 else (if a0 = 61 then 3 else (if a0 = 62 then 3 else 5)))))))))
def S1_X12_sign (a0 : Int32) (I : SI) (J : SJ) : SI := u2 (u2 (u2 I 130 26 ((I 130 26) + 1)) 130 28 (T_X12_sign_j76 a0 I J)) 130 29 a0
def T_X12_sign_j106 (a0 : Int32) (I : SI) (J : SJ) : SI := if a0 = 60 then (if (F_X12_here  (S1_X12_sign a0 I J) J) = 61 then (u2 (S1_X12_sign a0 I J) 130 29 256) else (S1_X12_sign a0 I J)) else (S1_X12_sign a0 I J)
def T_X12_sign_j128 (a0 : Int32) (I : SI) (J : SJ) : SI := if a0 = 60 then (if (F_X12_here  (T_X12_sign_j106 a0 I J) J) = 62 then (u2 (T_X12_sign_j106 a0 I J) 130 29 257) else (T_X12_sign_j106 a0 I J)) else (T_X12_sign_j106 a0 I J)
def T_X12_sign_j150 (a0 : Int32) (I : SI) (J : SJ) : SI := if a0 = 62 then (if (F_X12_here  (T_X12_sign_j128 a0 I J) J) = 61 then (u2 (T_X12_sign_j128 a0 I J) 130 29 258) else (T_X12_sign_j128 a0 I J)) else (T_X12_sign_j128 a0 I J)
def S2_X12_sign (a0 : Int32) (I : SI) (J : SJ) : SI := u2 (T_X12_sign_j150 a0 I J) 130 26 ((((T_X12_sign_j150 a0 I J)) 130 26) + 1)
def FI_X12_sign (a0 : Int32) (I : SI) (J : SJ) : SI := if (((T_X12_sign_j150 a0 I J)) 130 29) < 256 then (T_X12_sign_j150 a0 I J) else (S2_X12_sign a0 I J)
def H_X12_sign (a0 : Int32) (I : SI) (J : SJ) : Prop := (a0 = 62 → H_X12_here  (T_X12_sign_j128 a0 I J) J) ∧ (a0 = 60 → H_X12_here  (T_X12_sign_j106 a0 I J) J) ∧ (a0 = 60 → H_X12_here  (S1_X12_sign a0 I J) J)
set_option maxHeartbeats 2650000 in
set_option maxRecDepth 40000 in
theorem c_X12_sign {I : SI} {J : SJ} {R : SR} {n g : Nat} {f : Fr} (ro : RM R) (hnn : nM ≤ n) (hf : f.1 = false) (a0 : Int32)  (hp : H_X12_sign a0 I J) : MM 1 0 0 mX12_sign [.ref 130, .int a0] (eI f I) (eJ f J) R n g (Pd none (eI f (FI_X12_sign a0 I J)) (eJ f J) R n g) := by
  refine MM.of (by decide) (Nat.le_of_ble_eq_true rfl) fun K ok fin => ?_
  show WK K 0 0 0 [(0, .ref 130), (1, .int a0)] [] (eI f I) (eJ f J) R n g
  obtain ⟨hp1, hp2, hp3⟩ := hp
  refine w_aload_n ok dX12_sign_0 0 rfl ?_
  refine w_dup ok dX12_sign_1 rfl ?_
  refine y_getI ok dX12_sign_2 (fX12_175 rfl) (congrArg Prod.fst s_130) rfl (ltM hnn (by decide)) (sdm hf (by decide)) ?_
  refine w_iconst (v := 1) ok dX12_sign_5 (by decide) ?_
  refine w_iadd ok dX12_sign_6 ?_
  refine y_putI ok dX12_sign_7 (fwX12_175 rfl) (congrArg Prod.fst s_130) rfl (ltM hnn (by decide)) (sdm hf (by decide)) ?_
  refine w_aload_n ok dX12_sign_10 0 rfl ?_
  refine w_iload_n ok dX12_sign_11 1 rfl ?_
  refine w_bipush (v := 59) ok dX12_sign_12 (by decide) ?_
  have jn1 : WK K 0 0 76 [(0, .ref 130), (1, .int a0)] [.int (T_X12_sign_j76 a0 I J), .ref 130] (eI f (u2 I 130 26 ((I 130 26) + 1))) (eJ f J) R n g := by
    refine y_putI ok dX12_sign_76 (fwX12_188 rfl) (congrArg Prod.fst s_130) rfl (ltM hnn (by decide)) (sdm hf (by decide)) ?_
    refine w_aload_n ok dX12_sign_79 0 rfl ?_
    refine w_iload_n ok dX12_sign_80 1 rfl ?_
    refine y_putI ok dX12_sign_81 (fwX12_198 rfl) (congrArg Prod.fst s_130) rfl (ltM hnn (by decide)) (sdm hf (by decide)) ?_
    show WK K 0 0 84 [(0, .ref 130), (1, .int a0)] [] (eI f (S1_X12_sign a0 I J)) (eJ f J) R n g
    refine w_iload_n ok dX12_sign_84 1 rfl ?_
    refine w_bipush (v := 60) ok dX12_sign_85 (by decide) ?_
    have jn2 : WK K 0 0 106 [(0, .ref 130), (1, .int a0)] [] (eI f (T_X12_sign_j106 a0 I J)) (eJ f J) R n g := by
      refine w_iload_n ok dX12_sign_106 1 rfl ?_
      refine w_bipush (v := 60) ok dX12_sign_107 (by decide) ?_
      have jn3 : WK K 0 0 128 [(0, .ref 130), (1, .int a0)] [] (eI f (T_X12_sign_j128 a0 I J)) (eJ f J) R n g := by
        refine w_iload_n ok dX12_sign_128 1 rfl ?_
        refine w_bipush (v := 62) ok dX12_sign_129 (by decide) ?_
        have jn4 : WK K 0 0 150 [(0, .ref 130), (1, .int a0)] [] (eI f (T_X12_sign_j150 a0 I J)) (eJ f J) R n g := by
          refine w_aload_n ok dX12_sign_150 0 rfl ?_
          refine y_getI ok dX12_sign_151 (fX12_198 rfl) (congrArg Prod.fst s_130) rfl (ltM hnn (by decide)) (sdm hf (by decide)) ?_
          refine w_sipush (v := 256) ok dX12_sign_154 (by decide) ?_
          refine w_icmp_lt (tgt := 170) ok dX12_sign_157 (by decide) (fun c5 => ?_) (fun c5 => ?_)
          · skip
            exact w_vret ok fin dX12_sign_170 rfl (by unfold FI_X12_sign; simp only [if_pos c5]; exact Pd.i)
          · skip
            refine w_aload_n ok dX12_sign_160 0 rfl ?_
            refine w_dup ok dX12_sign_161 rfl ?_
            refine y_getI ok dX12_sign_162 (fX12_175 rfl) (congrArg Prod.fst s_130) rfl (ltM hnn (by decide)) (sdm hf (by decide)) ?_
            refine w_iconst (v := 1) ok dX12_sign_165 (by decide) ?_
            refine w_iadd ok dX12_sign_166 ?_
            refine y_putI ok dX12_sign_167 (fwX12_175 rfl) (congrArg Prod.fst s_130) rfl (ltM hnn (by decide)) (sdm hf (by decide)) ?_
            show WK K 0 0 170 [(0, .ref 130), (1, .int a0)] [] (eI f (S2_X12_sign a0 I J)) (eJ f J) R n g
            exact w_vret ok fin dX12_sign_170 rfl (by unfold FI_X12_sign; simp only [if_neg c5]; exact Pd.i)
        refine w_icmp_ne (tgt := 150) ok dX12_sign_131 (by decide) (fun c6 => ?_) (fun c6 => ?_)
        · skip
          have eT : (T_X12_sign_j150 a0 I J) = (T_X12_sign_j128 a0 I J) := by
            unfold T_X12_sign_j150; exact (if_neg c6).trans (rfl)
          refine w_loc [0, 1] rfl ?_
          have jj := jn4
          rw [eT] at jj
          exact jj
        · skip
          refine w_aload_n ok dX12_sign_134 0 rfl ?_
          refine w_cV (As := []) ok dX12_sign_135 iX12_here (lX12_181 rfl) (rcv cls12 (congrArg Prod.fst s_130)) (ltM hnn (by decide)) (c_X12_here ro hnn hf   (hp1 c6)) (by decide) rfl (Nat.le_of_ble_eq_true rfl) ?_
          refine w_bipush (v := 61) ok dX12_sign_138 (by decide) ?_
          refine w_icmp_ne (tgt := 150) ok dX12_sign_140 (by decide) (fun c7 => ?_) (fun c7 => ?_)
          · skip
            have eT : (T_X12_sign_j150 a0 I J) = (T_X12_sign_j128 a0 I J) := by
              unfold T_X12_sign_j150; exact (if_pos c6).trans ((if_neg c7).trans (rfl))
            refine w_loc [0, 1] rfl ?_
            have jj := jn4
            rw [eT] at jj
            exact jj
          · skip
            refine w_aload_n ok dX12_sign_143 0 rfl ?_
            refine w_sipush (v := 258) ok dX12_sign_144 (by decide) ?_
            refine y_putI ok dX12_sign_147 (fwX12_198 rfl) (congrArg Prod.fst s_130) rfl (ltM hnn (by decide)) (sdm hf (by decide)) ?_
            have eT : (T_X12_sign_j150 a0 I J) = (u2 (T_X12_sign_j128 a0 I J) 130 29 258) := by
              unfold T_X12_sign_j150; exact (if_pos c6).trans ((if_pos c7).trans (rfl))
            refine w_loc [0, 1] rfl ?_
            have jj := jn4
            rw [eT] at jj
            exact jj
      refine w_icmp_ne (tgt := 128) ok dX12_sign_109 (by decide) (fun c8 => ?_) (fun c8 => ?_)
      · skip
        have eT : (T_X12_sign_j128 a0 I J) = (T_X12_sign_j106 a0 I J) := by
          unfold T_X12_sign_j128; exact (if_neg c8).trans (rfl)
        refine w_loc [0, 1] rfl ?_
        have jj := jn3
        rw [eT] at jj
        exact jj
      · skip
        refine w_aload_n ok dX12_sign_112 0 rfl ?_
        refine w_cV (As := []) ok dX12_sign_113 iX12_here (lX12_181 rfl) (rcv cls12 (congrArg Prod.fst s_130)) (ltM hnn (by decide)) (c_X12_here ro hnn hf   (hp2 c8)) (by decide) rfl (Nat.le_of_ble_eq_true rfl) ?_
        refine w_bipush (v := 62) ok dX12_sign_116 (by decide) ?_
        refine w_icmp_ne (tgt := 128) ok dX12_sign_118 (by decide) (fun c9 => ?_) (fun c9 => ?_)
        · skip
          have eT : (T_X12_sign_j128 a0 I J) = (T_X12_sign_j106 a0 I J) := by
            unfold T_X12_sign_j128; exact (if_pos c8).trans ((if_neg c9).trans (rfl))
          refine w_loc [0, 1] rfl ?_
          have jj := jn3
          rw [eT] at jj
          exact jj
        · skip
          refine w_aload_n ok dX12_sign_121 0 rfl ?_
          refine w_sipush (v := 257) ok dX12_sign_122 (by decide) ?_
          refine y_putI ok dX12_sign_125 (fwX12_198 rfl) (congrArg Prod.fst s_130) rfl (ltM hnn (by decide)) (sdm hf (by decide)) ?_
          have eT : (T_X12_sign_j128 a0 I J) = (u2 (T_X12_sign_j106 a0 I J) 130 29 257) := by
            unfold T_X12_sign_j128; exact (if_pos c8).trans ((if_pos c9).trans (rfl))
          refine w_loc [0, 1] rfl ?_
          have jj := jn3
          rw [eT] at jj
          exact jj
    refine w_icmp_ne (tgt := 106) ok dX12_sign_87 (by decide) (fun c10 => ?_) (fun c10 => ?_)
    · skip
      have eT : (T_X12_sign_j106 a0 I J) = (S1_X12_sign a0 I J) := by
        unfold T_X12_sign_j106; exact (if_neg c10).trans (rfl)
      refine w_loc [0, 1] rfl ?_
      have jj := jn2
      rw [eT] at jj
      exact jj
    · skip
      refine w_aload_n ok dX12_sign_90 0 rfl ?_
      refine w_cV (As := []) ok dX12_sign_91 iX12_here (lX12_181 rfl) (rcv cls12 (congrArg Prod.fst s_130)) (ltM hnn (by decide)) (c_X12_here ro hnn hf   (hp3 c10)) (by decide) rfl (Nat.le_of_ble_eq_true rfl) ?_
      refine w_bipush (v := 61) ok dX12_sign_94 (by decide) ?_
      refine w_icmp_ne (tgt := 106) ok dX12_sign_96 (by decide) (fun c11 => ?_) (fun c11 => ?_)
      · skip
        have eT : (T_X12_sign_j106 a0 I J) = (S1_X12_sign a0 I J) := by
          unfold T_X12_sign_j106; exact (if_pos c10).trans ((if_neg c11).trans (rfl))
        refine w_loc [0, 1] rfl ?_
        have jj := jn2
        rw [eT] at jj
        exact jj
      · skip
        refine w_aload_n ok dX12_sign_99 0 rfl ?_
        refine w_sipush (v := 256) ok dX12_sign_100 (by decide) ?_
        refine y_putI ok dX12_sign_103 (fwX12_198 rfl) (congrArg Prod.fst s_130) rfl (ltM hnn (by decide)) (sdm hf (by decide)) ?_
        have eT : (T_X12_sign_j106 a0 I J) = (u2 (S1_X12_sign a0 I J) 130 29 256) := by
          unfold T_X12_sign_j106; exact (if_pos c10).trans ((if_pos c11).trans (rfl))
        refine w_loc [0, 1] rfl ?_
        have jj := jn2
        rw [eT] at jj
        exact jj
  refine w_icmp_eq (tgt := 71) ok dX12_sign_14 (by decide) (fun c12 => ?_) (fun c12 => ?_)
  · skip
    refine w_iconst (v := 3) ok dX12_sign_71 (by decide) ?_
    refine w_goto (tgt := 76) ok dX12_sign_72 (by decide) ?_
    have eT : (T_X12_sign_j76 a0 I J) = 3 := by
      unfold T_X12_sign_j76; exact (if_pos c12).trans (rfl)
    refine w_loc [0, 1] rfl ?_
    have jj := jn1
    rw [eT] at jj
    exact jj
  · skip
    refine w_iload_n ok dX12_sign_17 1 rfl ?_
    refine w_bipush (v := 40) ok dX12_sign_18 (by decide) ?_
    refine w_icmp_eq (tgt := 71) ok dX12_sign_20 (by decide) (fun c13 => ?_) (fun c13 => ?_)
    · skip
      refine w_iconst (v := 3) ok dX12_sign_71 (by decide) ?_
      refine w_goto (tgt := 76) ok dX12_sign_72 (by decide) ?_
      have eT : (T_X12_sign_j76 a0 I J) = 3 := by
        unfold T_X12_sign_j76; exact (if_neg c12).trans ((if_pos c13).trans (rfl))
      refine w_loc [0, 1] rfl ?_
      have jj := jn1
      rw [eT] at jj
      exact jj
    · skip
      refine w_iload_n ok dX12_sign_23 1 rfl ?_
      refine w_bipush (v := 41) ok dX12_sign_24 (by decide) ?_
      refine w_icmp_eq (tgt := 71) ok dX12_sign_26 (by decide) (fun c14 => ?_) (fun c14 => ?_)
      · skip
        refine w_iconst (v := 3) ok dX12_sign_71 (by decide) ?_
        refine w_goto (tgt := 76) ok dX12_sign_72 (by decide) ?_
        have eT : (T_X12_sign_j76 a0 I J) = 3 := by
          unfold T_X12_sign_j76; exact (if_neg c12).trans ((if_neg c13).trans ((if_pos c14).trans (rfl)))
        refine w_loc [0, 1] rfl ?_
        have jj := jn1
        rw [eT] at jj
        exact jj
      · skip
        refine w_iload_n ok dX12_sign_29 1 rfl ?_
        refine w_bipush (v := 43) ok dX12_sign_30 (by decide) ?_
        refine w_icmp_eq (tgt := 71) ok dX12_sign_32 (by decide) (fun c15 => ?_) (fun c15 => ?_)
        · skip
          refine w_iconst (v := 3) ok dX12_sign_71 (by decide) ?_
          refine w_goto (tgt := 76) ok dX12_sign_72 (by decide) ?_
          have eT : (T_X12_sign_j76 a0 I J) = 3 := by
            unfold T_X12_sign_j76; exact (if_neg c12).trans ((if_neg c13).trans ((if_neg c14).trans ((if_pos c15).trans (rfl))))
          refine w_loc [0, 1] rfl ?_
          have jj := jn1
          rw [eT] at jj
          exact jj
        · skip
          refine w_iload_n ok dX12_sign_35 1 rfl ?_
          refine w_bipush (v := 45) ok dX12_sign_36 (by decide) ?_
          refine w_icmp_eq (tgt := 71) ok dX12_sign_38 (by decide) (fun c16 => ?_) (fun c16 => ?_)
          · skip
            refine w_iconst (v := 3) ok dX12_sign_71 (by decide) ?_
            refine w_goto (tgt := 76) ok dX12_sign_72 (by decide) ?_
            have eT : (T_X12_sign_j76 a0 I J) = 3 := by
              unfold T_X12_sign_j76; exact (if_neg c12).trans ((if_neg c13).trans ((if_neg c14).trans ((if_neg c15).trans ((if_pos c16).trans (rfl)))))
            refine w_loc [0, 1] rfl ?_
            have jj := jn1
            rw [eT] at jj
            exact jj
          · skip
            refine w_iload_n ok dX12_sign_41 1 rfl ?_
            refine w_bipush (v := 42) ok dX12_sign_42 (by decide) ?_
            refine w_icmp_eq (tgt := 71) ok dX12_sign_44 (by decide) (fun c17 => ?_) (fun c17 => ?_)
            · skip
              refine w_iconst (v := 3) ok dX12_sign_71 (by decide) ?_
              refine w_goto (tgt := 76) ok dX12_sign_72 (by decide) ?_
              have eT : (T_X12_sign_j76 a0 I J) = 3 := by
                unfold T_X12_sign_j76; exact (if_neg c12).trans ((if_neg c13).trans ((if_neg c14).trans ((if_neg c15).trans ((if_neg c16).trans ((if_pos c17).trans (rfl))))))
              refine w_loc [0, 1] rfl ?_
              have jj := jn1
              rw [eT] at jj
              exact jj
            · skip
              refine w_iload_n ok dX12_sign_47 1 rfl ?_
              refine w_bipush (v := 47) ok dX12_sign_48 (by decide) ?_
              refine w_icmp_eq (tgt := 71) ok dX12_sign_50 (by decide) (fun c18 => ?_) (fun c18 => ?_)
              · skip
                refine w_iconst (v := 3) ok dX12_sign_71 (by decide) ?_
                refine w_goto (tgt := 76) ok dX12_sign_72 (by decide) ?_
                have eT : (T_X12_sign_j76 a0 I J) = 3 := by
                  unfold T_X12_sign_j76; exact (if_neg c12).trans ((if_neg c13).trans ((if_neg c14).trans ((if_neg c15).trans ((if_neg c16).trans ((if_neg c17).trans ((if_pos c18).trans (rfl)))))))
                refine w_loc [0, 1] rfl ?_
                have jj := jn1
                rw [eT] at jj
                exact jj
              · skip
                refine w_iload_n ok dX12_sign_53 1 rfl ?_
                refine w_bipush (v := 60) ok dX12_sign_54 (by decide) ?_
                refine w_icmp_eq (tgt := 71) ok dX12_sign_56 (by decide) (fun c19 => ?_) (fun c19 => ?_)
                · skip
                  refine w_iconst (v := 3) ok dX12_sign_71 (by decide) ?_
                  refine w_goto (tgt := 76) ok dX12_sign_72 (by decide) ?_
                  have eT : (T_X12_sign_j76 a0 I J) = 3 := by
                    unfold T_X12_sign_j76; exact (if_neg c12).trans ((if_neg c13).trans ((if_neg c14).trans ((if_neg c15).trans ((if_neg c16).trans ((if_neg c17).trans ((if_neg c18).trans ((if_pos c19).trans (rfl))))))))
                  refine w_loc [0, 1] rfl ?_
                  have jj := jn1
                  rw [eT] at jj
                  exact jj
                · skip
                  refine w_iload_n ok dX12_sign_59 1 rfl ?_
                  refine w_bipush (v := 61) ok dX12_sign_60 (by decide) ?_
                  refine w_icmp_eq (tgt := 71) ok dX12_sign_62 (by decide) (fun c20 => ?_) (fun c20 => ?_)
                  · skip
                    refine w_iconst (v := 3) ok dX12_sign_71 (by decide) ?_
                    refine w_goto (tgt := 76) ok dX12_sign_72 (by decide) ?_
                    have eT : (T_X12_sign_j76 a0 I J) = 3 := by
                      unfold T_X12_sign_j76; exact (if_neg c12).trans ((if_neg c13).trans ((if_neg c14).trans ((if_neg c15).trans ((if_neg c16).trans ((if_neg c17).trans ((if_neg c18).trans ((if_neg c19).trans ((if_pos c20).trans (rfl)))))))))
                    refine w_loc [0, 1] rfl ?_
                    have jj := jn1
                    rw [eT] at jj
                    exact jj
                  · skip
                    refine w_iload_n ok dX12_sign_65 1 rfl ?_
                    refine w_bipush (v := 62) ok dX12_sign_66 (by decide) ?_
                    refine w_icmp_ne (tgt := 75) ok dX12_sign_68 (by decide) (fun c21 => ?_) (fun c21 => ?_)
                    · skip
                      refine w_iconst (v := 5) ok dX12_sign_75 (by decide) ?_
                      have eT : (T_X12_sign_j76 a0 I J) = 5 := by
                        unfold T_X12_sign_j76; exact (if_neg c12).trans ((if_neg c13).trans ((if_neg c14).trans ((if_neg c15).trans ((if_neg c16).trans ((if_neg c17).trans ((if_neg c18).trans ((if_neg c19).trans ((if_neg c20).trans ((if_neg c21).trans (rfl))))))))))
                      refine w_loc [0, 1] rfl ?_
                      have jj := jn1
                      rw [eT] at jj
                      exact jj
                    · skip
                      refine w_iconst (v := 3) ok dX12_sign_71 (by decide) ?_
                      refine w_goto (tgt := 76) ok dX12_sign_72 (by decide) ?_
                      have eT : (T_X12_sign_j76 a0 I J) = 3 := by
                        unfold T_X12_sign_j76; exact (if_neg c12).trans ((if_neg c13).trans ((if_neg c14).trans ((if_neg c15).trans ((if_neg c16).trans ((if_neg c17).trans ((if_neg c18).trans ((if_neg c19).trans ((if_neg c20).trans ((if_pos c21).trans (rfl))))))))))
                      refine w_loc [0, 1] rfl ?_
                      have jj := jn1
                      rw [eT] at jj
                      exact jj
def B_X12_word_w15 (I : SI) (J : SJ) (s4 : Int32 × Int32) (s15 : Int32) : (Int32) ⊕ (Int32) := if (chS 3 (s4.2 + s15).toNatClampNeg) = 32 then .inr s15 else (if (I 130 26) ≤ ((I 130 27) + s15) then .inr s15 else (if (I 131 ((I 130 27) + s15).toNatClampNeg) = (chS 3 (s4.2 + s15).toNatClampNeg) then .inl (s15 + 1) else .inr s15))
def F_X12_word_w15 (I : SI) (J : SJ) (s4 : Int32 × Int32) (s0 : Int32) : Int32 := (itW (B_X12_word_w15 I J s4) 800 s0).getD s0
def B_X12_word_w97 (I : SI) (J : SJ) (s4 : Int32 × Int32) (s97 : Int32) : (Int32) ⊕ (Int32) := if (chS 3 s97.toNatClampNeg) = 32 then .inr s97 else .inl (s97 + 1)
def F_X12_word_w97 (I : SI) (J : SJ) (s4 : Int32 × Int32) (s0 : Int32) : Int32 := (itW (B_X12_word_w97 I J s4) 800 s0).getD s0
def B_X12_word_w97_2 (I : SI) (J : SJ) (s4 : Int32 × Int32) (s97 : Int32) : (Int32) ⊕ (Int32) := if (chS 3 s97.toNatClampNeg) = 32 then .inr s97 else .inl (s97 + 1)
def F_X12_word_w97_2 (I : SI) (J : SJ) (s4 : Int32 × Int32) (s0 : Int32) : Int32 := (itW (B_X12_word_w97_2 I J s4) 800 s0).getD s0
def B_X12_word_w4 (I : SI) (J : SJ) (s4 : Int32 × Int32) : (Int32 × Int32) ⊕ ((Int32 × Int32) ⊕ (Int32)) := if (nI (STL.getD 3 0)) ≤ s4.2 then .inr (.inl (s4.1, s4.2)) else (if (chS 3 (s4.2 + (F_X12_word_w15 I J s4 0)).toNatClampNeg) = 32 then (if ((I 130 27) + (F_X12_word_w15 I J s4 0)) = (I 130 26) then .inr (.inr s4.1) else .inl ((s4.1 + 1), ((F_X12_word_w97_2 I J s4 s4.2) + 1))) else .inl ((s4.1 + 1), ((F_X12_word_w97 I J s4 s4.2) + 1)))
def F_X12_word_w4 (I : SI) (J : SJ) (s0 : Int32 × Int32) : (Int32 × Int32) ⊕ (Int32) := (itW (B_X12_word_w4 I J) 800 s0).getD (.inl s0)
def F_X12_word  (I : SI) (J : SJ) : Int32 := (match (F_X12_word_w4 I J (0, 0)) with | .inl se4 => -1 | .inr re4 => re4)
def H_X12_word  (I : SI) (J : SJ) : Prop := ((itW (B_X12_word_w4 I J) 800 (0, 0)).isSome = true) ∧ (∀ (n4 : Nat) (s4 : Int32 × Int32), wN (B_X12_word_w4 I J) n4 (0, 0) = some s4 → ¬ ((nI (STL.getD 3 0)) ≤ s4.2) → (itW (B_X12_word_w15 I J s4) 800 0).isSome = true) ∧ (∀ (n4 : Nat) (s4 : Int32 × Int32), wN (B_X12_word_w4 I J) n4 (0, 0) = some s4 → ¬ ((nI (STL.getD 3 0)) ≤ s4.2) → inR (s4.2 + (F_X12_word_w15 I J s4 0)) 118) ∧ (∀ (n4 : Nat) (s4 : Int32 × Int32), wN (B_X12_word_w4 I J) n4 (0, 0) = some s4 → ¬ ((nI (STL.getD 3 0)) ≤ s4.2) → ¬ ((chS 3 (s4.2 + (F_X12_word_w15 I J s4 0)).toNatClampNeg) = 32) → (itW (B_X12_word_w97 I J s4) 800 s4.2).isSome = true) ∧ (∀ (n4 : Nat) (s4 : Int32 × Int32), wN (B_X12_word_w4 I J) n4 (0, 0) = some s4 → ¬ ((nI (STL.getD 3 0)) ≤ s4.2) → ¬ ((chS 3 (s4.2 + (F_X12_word_w15 I J s4 0)).toNatClampNeg) = 32) → ∀ (n97 : Nat) (s97 : Int32), wN (B_X12_word_w97 I J s4) n97 s4.2 = some s97 → inR s97 118) ∧ (∀ (n4 : Nat) (s4 : Int32 × Int32), wN (B_X12_word_w4 I J) n4 (0, 0) = some s4 → ¬ ((nI (STL.getD 3 0)) ≤ s4.2) → (chS 3 (s4.2 + (F_X12_word_w15 I J s4 0)).toNatClampNeg) = 32 → ¬ (((I 130 27) + (F_X12_word_w15 I J s4 0)) = (I 130 26)) → (itW (B_X12_word_w97_2 I J s4) 800 s4.2).isSome = true) ∧ (∀ (n4 : Nat) (s4 : Int32 × Int32), wN (B_X12_word_w4 I J) n4 (0, 0) = some s4 → ¬ ((nI (STL.getD 3 0)) ≤ s4.2) → (chS 3 (s4.2 + (F_X12_word_w15 I J s4 0)).toNatClampNeg) = 32 → ¬ (((I 130 27) + (F_X12_word_w15 I J s4 0)) = (I 130 26)) → ∀ (n97 : Nat) (s97 : Int32), wN (B_X12_word_w97_2 I J s4) n97 s4.2 = some s97 → inR s97 118) ∧ (∀ (n4 : Nat) (s4 : Int32 × Int32), wN (B_X12_word_w4 I J) n4 (0, 0) = some s4 → ¬ ((nI (STL.getD 3 0)) ≤ s4.2) → ∀ (n15 : Nat) (s15 : Int32), wN (B_X12_word_w15 I J s4) n15 0 = some s15 → inR (s4.2 + s15) 118) ∧ (∀ (n4 : Nat) (s4 : Int32 × Int32), wN (B_X12_word_w4 I J) n4 (0, 0) = some s4 → ¬ ((nI (STL.getD 3 0)) ≤ s4.2) → ∀ (n15 : Nat) (s15 : Int32), wN (B_X12_word_w15 I J s4) n15 0 = some s15 → ¬ ((chS 3 (s4.2 + s15).toNatClampNeg) = 32) → ¬ ((I 130 26) ≤ ((I 130 27) + s15)) → inR ((I 130 27) + s15) 700) ∧ (∀ (n4 : Nat) (s4 : Int32 × Int32), wN (B_X12_word_w4 I J) n4 (0, 0) = some s4 → ¬ ((nI (STL.getD 3 0)) ≤ s4.2) → ∀ (n15 : Nat) (s15 : Int32), wN (B_X12_word_w15 I J s4) n15 0 = some s15 → ¬ ((chS 3 (s4.2 + s15).toNatClampNeg) = 32) → ¬ ((I 130 26) ≤ ((I 130 27) + s15)) → inR (s4.2 + s15) 118)
set_option maxHeartbeats 1550000 in
set_option maxRecDepth 40000 in
theorem c_X12_word {I : SI} {J : SJ} {R : SR} {n g : Nat} {f : Fr} (ro : RM R) (hnn : nM ≤ n) (hf : f.1 = false)   (hp : H_X12_word  I J) : MM 4 0 0 mX12_word [.ref 130] (eI f I) (eJ f J) R n g (Pd (some (.int (F_X12_word  I J))) (eI f I) (eJ f J) R n g) := by
  refine MM.of (by decide) (Nat.le_of_ble_eq_true rfl) fun K ok fin => ?_
  show WK K 0 0 0 [(0, .ref 130)] [] (eI f I) (eJ f J) R n g
  obtain ⟨hp1, hp2, hp3, hp4, hp5, hp6, hp7, hp8, hp9, hp10⟩ := hp
  refine w_iconst (v := 0) ok dX12_word_0 (by decide) ?_
  refine w_istore_n ok dX12_word_1 rfl (by decide) rfl ?_
  refine w_iconst (v := 0) ok dX12_word_2 (by decide) ?_
  refine w_istore_n ok dX12_word_3 rfl (by decide) rfl ?_
  refine w_loc [2, 1, 0] rfl ?_
  refine loop_wr (σ := Int32 × Int32) (ρ := Int32) (fun (s4 : Int32 × Int32) => WK K 0 0 4 [(0, .ref 130), (1, .int s4.1), (2, .int s4.2)] [] (eI f I) (eJ f J) R n g) (B_X12_word_w4 I J) 800 (0, 0) (F_X12_word_w4 I J (0, 0)) (itW_some2 (hp1)) ?_
  · intro n4 s4 hs4 kc4 kr4
    have kx4 : ∀ se4 : Int32 × Int32, B_X12_word_w4 I J s4 = .inr (.inl se4) → WK K 0 0 123 [(0, .ref 130), (1, .int se4.1), (2, .int se4.2)] [] (eI f I) (eJ f J) R n g := by
      intro se4 hb4
      have he4 : (F_X12_word_w4 I J (0, 0)) = .inl se4 := kr4 _ hb4
      refine w_iconst (v := (-1)) ok dX12_word_123 (by decide) ?_
      exact w_iret ok fin dX12_word_124 rfl (by unfold F_X12_word; simp only [he4]; exact Pd.i)
    show WK K 0 0 4 [(0, .ref 130), (1, .int s4.1), (2, .int s4.2)] [] (eI f I) (eJ f J) R n g
    refine w_iload_n ok dX12_word_4 2 rfl ?_
    refine w_ldcLen ok (by decide) rfl (show STR[3]? = some _ from rfl) dX12_word_5 dX12_word_7 (lX12_214 rfl) (by decide) (Nat.le_of_ble_eq_true rfl) ?_
    refine w_icmp_ge (tgt := 123) ok dX12_word_10 (by decide) (fun c1 => ?_) (fun c1 => ?_)
    · skip
      have eB : B_X12_word_w4 I J s4 = .inr (.inl (s4.1, s4.2)) := by
        unfold B_X12_word_w4; exact (if_pos c1).trans (rfl)
      refine w_loc [0, 1, 2] rfl ?_
      have kk := kx4 _ eB
      exact kk
    · skip
      refine w_iconst (v := 0) ok dX12_word_13 (by decide) ?_
      refine w_istore_n ok dX12_word_14 rfl (by decide) rfl ?_
      refine w_loc [1, 2, 3, 0] rfl ?_
      refine loop_w (fun (s15 : Int32) => WK K 0 0 15 [(0, .ref 130), (1, .int s4.1), (2, .int s4.2), (3, .int s15)] [] (eI f I) (eJ f J) R n g) (fun (s15 : Int32) => WK K 0 0 69 [(0, .ref 130), (1, .int s4.1), (2, .int s4.2), (3, .int s15)] [] (eI f I) (eJ f J) R n g) (B_X12_word_w15 I J s4) 800 0 (F_X12_word_w15 I J s4 0) (itW_some (hp2 n4 s4 hs4 c1)) ?_ ?_
      · show WK K 0 0 69 [(0, .ref 130), (1, .int s4.1), (2, .int s4.2), (3, .int (F_X12_word_w15 I J s4 0))] [] (eI f I) (eJ f J) R n g
        refine w_ldcCh2 ok (by decide) rfl (show STR[3]? = some _ from rfl) dX12_word_69 dX12_word_71 dX12_word_72 dX12_word_73 dX12_word_74 (lX12_219 rfl) (by decide) (Nat.le_of_ble_eq_true rfl) 2 3 rfl rfl (hp3 n4 s4 hs4 c1).1 (hp3 n4 s4 hs4 c1).2 ?_
        refine w_bipush (v := 32) ok dX12_word_77 (by decide) ?_
        refine w_icmp_ne (tgt := 97) ok dX12_word_79 (by decide) (fun c2 => ?_) (fun c2 => ?_)
        · skip
          refine loop_w (fun (s97 : Int32) => WK K 0 0 97 [(0, .ref 130), (1, .int s4.1), (2, .int s97), (3, .int (F_X12_word_w15 I J s4 0))] [] (eI f I) (eJ f J) R n g) (fun (s97 : Int32) => WK K 0 0 114 [(0, .ref 130), (1, .int s4.1), (2, .int s97), (3, .int (F_X12_word_w15 I J s4 0))] [] (eI f I) (eJ f J) R n g) (B_X12_word_w97 I J s4) 800 s4.2 (F_X12_word_w97 I J s4 s4.2) (itW_some (hp4 n4 s4 hs4 c1 c2)) ?_ ?_
          · show WK K 0 0 114 [(0, .ref 130), (1, .int s4.1), (2, .int (F_X12_word_w97 I J s4 s4.2)), (3, .int (F_X12_word_w15 I J s4 0))] [] (eI f I) (eJ f J) R n g
            refine w_iinc (v := (F_X12_word_w97 I J s4 s4.2) + 1) ok dX12_word_114 2 rfl rfl (by decide) rfl ?_
            refine w_iinc (v := s4.1 + 1) ok dX12_word_117 2 rfl rfl (by decide) rfl ?_
            refine w_goto (tgt := 4) ok dX12_word_120 (by decide) ?_
            have eB : B_X12_word_w4 I J s4 = .inl ((s4.1 + 1), ((F_X12_word_w97 I J s4 s4.2) + 1)) := by
              unfold B_X12_word_w4; exact (if_neg c1).trans ((if_neg c2).trans (rfl))
            refine w_loc [2, 0, 1] rfl ?_
            have kk := kc4 _ eB
            exact kk
          · intro n97 s97 hs97 kc97 kx97
            show WK K 0 0 97 [(0, .ref 130), (1, .int s4.1), (2, .int s97), (3, .int (F_X12_word_w15 I J s4 0))] [] (eI f I) (eJ f J) R n g
            refine w_ldcCh ok (by decide) rfl (show STR[3]? = some _ from rfl) dX12_word_97 dX12_word_99 dX12_word_100 (lX12_219 rfl) (by decide) (Nat.le_of_ble_eq_true rfl) 2 rfl (hp5 n4 s4 hs4 c1 c2 n97 s97 hs97).1 (hp5 n4 s4 hs4 c1 c2 n97 s97 hs97).2 ?_
            refine w_bipush (v := 32) ok dX12_word_103 (by decide) ?_
            refine w_icmp_eq (tgt := 114) ok dX12_word_105 (by decide) (fun c3 => ?_) (fun c3 => ?_)
            · skip
              have eB : B_X12_word_w97 I J s4 s97 = .inr s97 := by
                unfold B_X12_word_w97; exact (if_pos c3).trans (rfl)
              refine w_loc [0, 1, 2, 3] rfl ?_
              have kk := kx97 _ eB
              exact kk
            · skip
              refine w_iinc (v := s97 + 1) ok dX12_word_108 2 rfl rfl (by decide) rfl ?_
              refine w_goto (tgt := 97) ok dX12_word_111 (by decide) ?_
              have eB : B_X12_word_w97 I J s4 s97 = .inl (s97 + 1) := by
                unfold B_X12_word_w97; exact (if_neg c3).trans (rfl)
              refine w_loc [1, 2, 0, 3] rfl ?_
              have kk := kc97 _ eB
              exact kk
        · skip
          refine w_aload_n ok dX12_word_82 0 rfl ?_
          refine y_getI ok dX12_word_83 (fX12_185 rfl) (congrArg Prod.fst s_130) rfl (ltM hnn (by decide)) (sdm hf (by decide)) ?_
          refine w_iload_n ok dX12_word_86 3 rfl ?_
          refine w_iadd ok dX12_word_87 ?_
          refine w_aload_n ok dX12_word_88 0 rfl ?_
          refine y_getI ok dX12_word_89 (fX12_175 rfl) (congrArg Prod.fst s_130) rfl (ltM hnn (by decide)) (sdm hf (by decide)) ?_
          refine w_icmp_ne (tgt := 97) ok dX12_word_92 (by decide) (fun c4 => ?_) (fun c4 => ?_)
          · skip
            refine loop_w (fun (s97 : Int32) => WK K 0 0 97 [(0, .ref 130), (1, .int s4.1), (2, .int s97), (3, .int (F_X12_word_w15 I J s4 0))] [] (eI f I) (eJ f J) R n g) (fun (s97 : Int32) => WK K 0 0 114 [(0, .ref 130), (1, .int s4.1), (2, .int s97), (3, .int (F_X12_word_w15 I J s4 0))] [] (eI f I) (eJ f J) R n g) (B_X12_word_w97_2 I J s4) 800 s4.2 (F_X12_word_w97_2 I J s4 s4.2) (itW_some (hp6 n4 s4 hs4 c1 c2 c4)) ?_ ?_
            · show WK K 0 0 114 [(0, .ref 130), (1, .int s4.1), (2, .int (F_X12_word_w97_2 I J s4 s4.2)), (3, .int (F_X12_word_w15 I J s4 0))] [] (eI f I) (eJ f J) R n g
              refine w_iinc (v := (F_X12_word_w97_2 I J s4 s4.2) + 1) ok dX12_word_114 2 rfl rfl (by decide) rfl ?_
              refine w_iinc (v := s4.1 + 1) ok dX12_word_117 2 rfl rfl (by decide) rfl ?_
              refine w_goto (tgt := 4) ok dX12_word_120 (by decide) ?_
              have eB : B_X12_word_w4 I J s4 = .inl ((s4.1 + 1), ((F_X12_word_w97_2 I J s4 s4.2) + 1)) := by
                unfold B_X12_word_w4; exact (if_neg c1).trans ((if_pos c2).trans ((if_neg c4).trans (rfl)))
              refine w_loc [2, 0, 1] rfl ?_
              have kk := kc4 _ eB
              exact kk
            · intro n97 s97 hs97 kc97 kx97
              show WK K 0 0 97 [(0, .ref 130), (1, .int s4.1), (2, .int s97), (3, .int (F_X12_word_w15 I J s4 0))] [] (eI f I) (eJ f J) R n g
              refine w_ldcCh ok (by decide) rfl (show STR[3]? = some _ from rfl) dX12_word_97 dX12_word_99 dX12_word_100 (lX12_219 rfl) (by decide) (Nat.le_of_ble_eq_true rfl) 2 rfl (hp7 n4 s4 hs4 c1 c2 c4 n97 s97 hs97).1 (hp7 n4 s4 hs4 c1 c2 c4 n97 s97 hs97).2 ?_
              refine w_bipush (v := 32) ok dX12_word_103 (by decide) ?_
              refine w_icmp_eq (tgt := 114) ok dX12_word_105 (by decide) (fun c5 => ?_) (fun c5 => ?_)
              · skip
                have eB : B_X12_word_w97_2 I J s4 s97 = .inr s97 := by
                  unfold B_X12_word_w97_2; exact (if_pos c5).trans (rfl)
                refine w_loc [0, 1, 2, 3] rfl ?_
                have kk := kx97 _ eB
                exact kk
              · skip
                refine w_iinc (v := s97 + 1) ok dX12_word_108 2 rfl rfl (by decide) rfl ?_
                refine w_goto (tgt := 97) ok dX12_word_111 (by decide) ?_
                have eB : B_X12_word_w97_2 I J s4 s97 = .inl (s97 + 1) := by
                  unfold B_X12_word_w97_2; exact (if_neg c5).trans (rfl)
                refine w_loc [1, 2, 0, 3] rfl ?_
                have kk := kc97 _ eB
                exact kk
          · skip
            refine w_iload_n ok dX12_word_95 1 rfl ?_
            have eB : B_X12_word_w4 I J s4 = .inr (.inr s4.1) := by
              unfold B_X12_word_w4; exact (if_neg c1).trans ((if_pos c2).trans ((if_pos c4).trans (rfl)))
            have hr : (F_X12_word_w4 I J (0, 0)) = .inr s4.1 := kr4 _ eB
            exact w_iret ok fin dX12_word_96 rfl (by unfold F_X12_word; simp only [hr]; exact Pd.i)
      · intro n15 s15 hs15 kc15 kx15
        show WK K 0 0 15 [(0, .ref 130), (1, .int s4.1), (2, .int s4.2), (3, .int s15)] [] (eI f I) (eJ f J) R n g
        refine w_ldcCh2 ok (by decide) rfl (show STR[3]? = some _ from rfl) dX12_word_15 dX12_word_17 dX12_word_18 dX12_word_19 dX12_word_20 (lX12_219 rfl) (by decide) (Nat.le_of_ble_eq_true rfl) 2 3 rfl rfl (hp8 n4 s4 hs4 c1 n15 s15 hs15).1 (hp8 n4 s4 hs4 c1 n15 s15 hs15).2 ?_
        refine w_bipush (v := 32) ok dX12_word_23 (by decide) ?_
        refine w_icmp_eq (tgt := 69) ok dX12_word_25 (by decide) (fun c6 => ?_) (fun c6 => ?_)
        · skip
          have eB : B_X12_word_w15 I J s4 s15 = .inr s15 := by
            unfold B_X12_word_w15; exact (if_pos c6).trans (rfl)
          refine w_loc [0, 1, 2, 3] rfl ?_
          have kk := kx15 _ eB
          exact kk
        · skip
          refine w_aload_n ok dX12_word_28 0 rfl ?_
          refine y_getI ok dX12_word_29 (fX12_185 rfl) (congrArg Prod.fst s_130) rfl (ltM hnn (by decide)) (sdm hf (by decide)) ?_
          refine w_iload_n ok dX12_word_32 3 rfl ?_
          refine w_iadd ok dX12_word_33 ?_
          refine w_aload_n ok dX12_word_34 0 rfl ?_
          refine y_getI ok dX12_word_35 (fX12_175 rfl) (congrArg Prod.fst s_130) rfl (ltM hnn (by decide)) (sdm hf (by decide)) ?_
          refine w_icmp_ge (tgt := 69) ok dX12_word_38 (by decide) (fun c7 => ?_) (fun c7 => ?_)
          · skip
            have eB : B_X12_word_w15 I J s4 s15 = .inr s15 := by
              unfold B_X12_word_w15; exact (if_neg c6).trans ((if_pos c7).trans (rfl))
            refine w_loc [0, 1, 2, 3] rfl ?_
            have kk := kx15 _ eB
            exact kk
          · skip
            refine w_aload_n ok dX12_word_41 0 rfl ?_
            refine w_getR ok dX12_word_42 (fX12_7 rfl) (congrArg Prod.fst s_130) rfl (r_130_1 ro) (ltM hnn (by decide)) ?_
            refine w_aload_n ok dX12_word_45 0 rfl ?_
            refine y_getI ok dX12_word_46 (fX12_185 rfl) (congrArg Prod.fst s_130) rfl (ltM hnn (by decide)) (sdm hf (by decide)) ?_
            refine w_iload_n ok dX12_word_49 3 rfl ?_
            refine w_iadd ok dX12_word_50 ?_
            refine y_iald (q := ((I 130 27) + s15).toNatClampNeg) ok dX12_word_51 s_131 (hp9 n4 s4 hs4 c1 n15 s15 hs15 c6 c7) (by decide) (ltM hnn (by decide)) (sdm hf (by decide)) ?_
            refine w_ldcCh2 ok (by decide) rfl (show STR[3]? = some _ from rfl) dX12_word_52 dX12_word_54 dX12_word_55 dX12_word_56 dX12_word_57 (lX12_219 rfl) (by decide) (Nat.le_of_ble_eq_true rfl) 2 3 rfl rfl (hp10 n4 s4 hs4 c1 n15 s15 hs15 c6 c7).1 (hp10 n4 s4 hs4 c1 n15 s15 hs15 c6 c7).2 ?_
            refine w_icmp_ne (tgt := 69) ok dX12_word_60 (by decide) (fun c8 => ?_) (fun c8 => ?_)
            · skip
              have eB : B_X12_word_w15 I J s4 s15 = .inr s15 := by
                unfold B_X12_word_w15; exact (if_neg c6).trans ((if_neg c7).trans ((if_neg c8).trans (rfl)))
              refine w_loc [0, 1, 2, 3] rfl ?_
              have kk := kx15 _ eB
              exact kk
            · skip
              refine w_iinc (v := s15 + 1) ok dX12_word_63 3 rfl rfl (by decide) rfl ?_
              refine w_goto (tgt := 15) ok dX12_word_66 (by decide) ?_
              have eB : B_X12_word_w15 I J s4 s15 = .inl (s15 + 1) := by
                unfold B_X12_word_w15; exact (if_neg c6).trans ((if_neg c7).trans ((if_pos c8).trans (rfl)))
              refine w_loc [1, 2, 3, 0] rfl ?_
              have kk := kc15 _ eB
              exact kk
def S1_X12_name (I : SI) (J : SJ) (i7 : Nat) (s7 : SI) : Int32 := ((s7 130 29) <<< (5 &&& 31)) ||| (((s7 131 ((s7 130 27) + (nI i7)).toNatClampNeg) - 97) + 1)
def B_X12_name_l7 (I : SI) (J : SJ) (i7 : Nat) (s7 : SI) : SI := if (s7 130 26) ≤ ((s7 130 27) + (nI i7)) then (u2 s7 130 29 (((s7 130 29) <<< (5 &&& 31)) ||| 0)) else (u2 s7 130 29 (S1_X12_name I J i7 s7))
def F_X12_name_l7 (I : SI) (J : SJ) (s0 : SI) : SI := itN (B_X12_name_l7 I J) (6) s0
def FI_X12_name  (I : SI) (J : SJ) : SI := (F_X12_name_l7 I J (u2 I 130 29 0))
def H_X12_name  (I : SI) (J : SJ) : Prop := (∀ (i7 : Nat) (s7 : SI), i7 < 6 → s7 = itN (B_X12_name_l7 I J) i7 (u2 I 130 29 0) → ¬ ((s7 130 26) ≤ ((s7 130 27) + (nI i7))) → inR ((s7 130 27) + (nI i7)) 700)
set_option maxHeartbeats 1000000 in
set_option maxRecDepth 40000 in
theorem c_X12_name {I : SI} {J : SJ} {R : SR} {n g : Nat} {f : Fr} (ro : RM R) (hnn : nM ≤ n) (hf : f.1 = false)   (hp : H_X12_name  I J) : MM 0 0 0 mX12_name [.ref 130] (eI f I) (eJ f J) R n g (Pd none (eI f (FI_X12_name  I J)) (eJ f J) R n g) := by
  refine MM.of (by decide) (Nat.le_of_ble_eq_true rfl) fun K ok fin => ?_
  show WK K 0 0 0 [(0, .ref 130)] [] (eI f I) (eJ f J) R n g
  have hp1 := hp
  refine w_aload_n ok dX12_name_0 0 rfl ?_
  refine w_iconst (v := 0) ok dX12_name_1 (by decide) ?_
  refine y_putI ok dX12_name_2 (fwX12_198 rfl) (congrArg Prod.fst s_130) rfl (ltM hnn (by decide)) (sdm hf (by decide)) ?_
  refine w_iconst (v := 0) ok dX12_name_5 (by decide) ?_
  refine w_istore_n ok dX12_name_6 rfl (by decide) rfl ?_
  refine w_loc [1, 0] rfl ?_
  refine loop_for (σ := SI) (fun (i7 : Nat) (s7 : SI) => WK K 0 0 7 [(0, .ref 130), (1, .int (nI i7))] [] (eI f s7) (eJ f J) R n g) (B_X12_name_l7 I J) (6) ((u2 I 130 29 0)) ?_ ?_
  · show WK K 0 0 7 [(0, .ref 130), (1, .int (nI 6))] [] (eI f ((F_X12_name_l7 I J (u2 I 130 29 0)))) (eJ f J) R n g
    have e1 : (6 : Int32) ≤ (nI 6) := (show nI 6 ≤ nI 6 from nI_le (by omega) (by decide))
    refine w_iload_n ok dX12_name_7 1 rfl ?_
    refine w_bipush (v := 6) ok dX12_name_8 (by decide) ?_
    refine w_icmp_ge (tgt := 63) ok dX12_name_10 (by decide) (fun _ => ?_) (fun h => absurd e1 h)
    exact w_vret ok fin dX12_name_63 rfl (by unfold FI_X12_name; exact Pd.i)
  · intro i7 s7 hi7 hs7 k7
    show WK K 0 0 7 [(0, .ref 130), (1, .int (nI i7))] [] (eI f s7) (eJ f J) R n g
    have e2 : ¬ ((6 : Int32) ≤ (nI i7)) := (show ¬ (nI 6 ≤ nI i7) from nI_ge (by omega) (by decide))
    refine w_iload_n ok dX12_name_7 1 rfl ?_
    refine w_bipush (v := 6) ok dX12_name_8 (by decide) ?_
    refine w_icmp_ge (tgt := 63) ok dX12_name_10 (by decide) (fun h => absurd h e2) (fun _ => ?_)
    refine w_aload_n ok dX12_name_13 0 rfl ?_
    refine w_aload_n ok dX12_name_14 0 rfl ?_
    refine y_getI ok dX12_name_15 (fX12_198 rfl) (congrArg Prod.fst s_130) rfl (ltM hnn (by decide)) (sdm hf (by decide)) ?_
    refine w_iconst (v := 5) ok dX12_name_18 (by decide) ?_
    refine w_ishl ok dX12_name_19 ?_
    refine w_aload_n ok dX12_name_20 0 rfl ?_
    refine y_getI ok dX12_name_21 (fX12_185 rfl) (congrArg Prod.fst s_130) rfl (ltM hnn (by decide)) (sdm hf (by decide)) ?_
    refine w_iload_n ok dX12_name_24 1 rfl ?_
    refine w_iadd ok dX12_name_25 ?_
    refine w_aload_n ok dX12_name_26 0 rfl ?_
    refine y_getI ok dX12_name_27 (fX12_175 rfl) (congrArg Prod.fst s_130) rfl (ltM hnn (by decide)) (sdm hf (by decide)) ?_
    refine w_icmp_ge (tgt := 52) ok dX12_name_30 (by decide) (fun c3 => ?_) (fun c3 => ?_)
    · skip
      refine w_iconst (v := 0) ok dX12_name_52 (by decide) ?_
      refine w_ior ok dX12_name_53 ?_
      refine y_putI ok dX12_name_54 (fwX12_198 rfl) (congrArg Prod.fst s_130) rfl (ltM hnn (by decide)) (sdm hf (by decide)) ?_
      refine w_iinc (v := (nI i7) + 1) ok dX12_name_57 1 rfl rfl (by decide) rfl ?_
      refine w_goto (tgt := 7) ok dX12_name_60 (by decide) ?_
      have eB : B_X12_name_l7 I J i7 s7 = (u2 s7 130 29 (((s7 130 29) <<< (5 &&& 31)) ||| 0)) := by
        unfold B_X12_name_l7; exact (if_pos c3).trans (rfl)
      have kk := k7
      rw [eB] at kk
      refine w_loc [1, 0] rfl ?_
      rw [nI_1 i7]
      exact kk
    · skip
      refine w_aload_n ok dX12_name_33 0 rfl ?_
      refine w_getR ok dX12_name_34 (fX12_7 rfl) (congrArg Prod.fst s_130) rfl (r_130_1 ro) (ltM hnn (by decide)) ?_
      refine w_aload_n ok dX12_name_37 0 rfl ?_
      refine y_getI ok dX12_name_38 (fX12_185 rfl) (congrArg Prod.fst s_130) rfl (ltM hnn (by decide)) (sdm hf (by decide)) ?_
      refine w_iload_n ok dX12_name_41 1 rfl ?_
      refine w_iadd ok dX12_name_42 ?_
      refine y_iald (q := ((s7 130 27) + (nI i7)).toNatClampNeg) ok dX12_name_43 s_131 (hp1 i7 s7 hi7 hs7 c3) (by decide) (ltM hnn (by decide)) (sdm hf (by decide)) ?_
      refine w_bipush (v := 97) ok dX12_name_44 (by decide) ?_
      refine w_isub ok dX12_name_46 ?_
      refine w_iconst (v := 1) ok dX12_name_47 (by decide) ?_
      refine w_iadd ok dX12_name_48 ?_
      refine w_goto (tgt := 53) ok dX12_name_49 (by decide) ?_
      refine w_ior ok dX12_name_53 ?_
      show WK K 0 0 54 [(0, .ref 130), (1, .int (nI i7))] [.int (S1_X12_name I J i7 s7), .ref 130] (eI f s7) (eJ f J) R n g
      refine y_putI ok dX12_name_54 (fwX12_198 rfl) (congrArg Prod.fst s_130) rfl (ltM hnn (by decide)) (sdm hf (by decide)) ?_
      refine w_iinc (v := (nI i7) + 1) ok dX12_name_57 1 rfl rfl (by decide) rfl ?_
      refine w_goto (tgt := 7) ok dX12_name_60 (by decide) ?_
      have eB : B_X12_name_l7 I J i7 s7 = (u2 s7 130 29 (S1_X12_name I J i7 s7)) := by
        unfold B_X12_name_l7; exact (if_neg c3).trans (rfl)
      have kk := k7
      rw [eB] at kk
      refine w_loc [1, 0] rfl ?_
      rw [nI_1 i7]
      exact kk
def FI_X12_wrong (a0 : Int32) (I : SI) (J : SJ) : SI := if (I 130 30) = 0 then u2 (u2 I 130 30 a0) 130 31 ((u2 I 130 30 a0) 130 27) else I
set_option maxHeartbeats 1000000 in
set_option maxRecDepth 40000 in
theorem c_X12_wrong {I : SI} {J : SJ} {R : SR} {n g : Nat} {f : Fr} (ro : RM R) (hnn : nM ≤ n) (hf : f.1 = false) (a0 : Int32)   : MM 0 0 0 mX12_wrong [.ref 130, .int a0] (eI f I) (eJ f J) R n g (Pd none (eI f (FI_X12_wrong a0 I J)) (eJ f J) R n g) := by
  refine MM.of (by decide) (Nat.le_of_ble_eq_true rfl) fun K ok fin => ?_
  show WK K 0 0 0 [(0, .ref 130), (1, .int a0)] [] (eI f I) (eJ f J) R n g
  refine w_aload_n ok dX12_wrong_0 0 rfl ?_
  refine y_getI ok dX12_wrong_1 (fX12_223 rfl) (congrArg Prod.fst s_130) rfl (ltM hnn (by decide)) (sdm hf (by decide)) ?_
  refine w_if_eq (tgt := 8) ok dX12_wrong_4 (by decide) (fun c1 => ?_) (fun c1 => ?_)
  · skip
    refine w_aload_n ok dX12_wrong_8 0 rfl ?_
    refine w_iload_n ok dX12_wrong_9 1 rfl ?_
    refine y_putI ok dX12_wrong_10 (fwX12_223 rfl) (congrArg Prod.fst s_130) rfl (ltM hnn (by decide)) (sdm hf (by decide)) ?_
    refine w_aload_n ok dX12_wrong_13 0 rfl ?_
    refine w_aload_n ok dX12_wrong_14 0 rfl ?_
    refine y_getI ok dX12_wrong_15 (fX12_185 rfl) (congrArg Prod.fst s_130) rfl (ltM hnn (by decide)) (sdm hf (by decide)) ?_
    refine y_putI ok dX12_wrong_18 (fwX12_226 rfl) (congrArg Prod.fst s_130) rfl (ltM hnn (by decide)) (sdm hf (by decide)) ?_
    exact w_vret ok fin dX12_wrong_21 rfl (by unfold FI_X12_wrong; simp only [if_pos c1]; exact Pd.i)
  · skip
    exact w_vret ok fin dX12_wrong_7 rfl (by unfold FI_X12_wrong; simp only [if_neg c1]; exact Pd.i)
def F_X12_isWord (a0 : Int32) (I : SI) (J : SJ) : Int32 := if (I 130 30) = 0 then (if (I 130 28) = 0 then (if (I 130 29) = a0 then 1 else 0) else 0) else 0
set_option maxHeartbeats 1000000 in
set_option maxRecDepth 40000 in
theorem c_X12_isWord {I : SI} {J : SJ} {R : SR} {n g : Nat} {f : Fr} (ro : RM R) (hnn : nM ≤ n) (hf : f.1 = false) (a0 : Int32)   : MM 0 0 0 mX12_isWord [.ref 130, .int a0] (eI f I) (eJ f J) R n g (Pd (some (.int (F_X12_isWord a0 I J))) (eI f I) (eJ f J) R n g) := by
  refine MM.of (by decide) (Nat.le_of_ble_eq_true rfl) fun K ok fin => ?_
  show WK K 0 0 0 [(0, .ref 130), (1, .int a0)] [] (eI f I) (eJ f J) R n g
  refine w_aload_n ok dX12_isWord_0 0 rfl ?_
  refine y_getI ok dX12_isWord_1 (fX12_223 rfl) (congrArg Prod.fst s_130) rfl (ltM hnn (by decide)) (sdm hf (by decide)) ?_
  refine w_if_ne (tgt := 26) ok dX12_isWord_4 (by decide) (fun c1 => ?_) (fun c1 => ?_)
  · skip
    refine w_iconst (v := 0) ok dX12_isWord_26 (by decide) ?_
    exact w_zret ok fin dX12_isWord_27 rfl (by decide) (by unfold F_X12_isWord; simp only [if_neg c1]; exact Pd.i)
  · skip
    refine w_aload_n ok dX12_isWord_7 0 rfl ?_
    refine y_getI ok dX12_isWord_8 (fX12_188 rfl) (congrArg Prod.fst s_130) rfl (ltM hnn (by decide)) (sdm hf (by decide)) ?_
    refine w_if_ne (tgt := 26) ok dX12_isWord_11 (by decide) (fun c2 => ?_) (fun c2 => ?_)
    · skip
      refine w_iconst (v := 0) ok dX12_isWord_26 (by decide) ?_
      exact w_zret ok fin dX12_isWord_27 rfl (by decide) (by unfold F_X12_isWord; simp only [if_pos c1]; simp only [if_neg c2]; exact Pd.i)
    · skip
      refine w_aload_n ok dX12_isWord_14 0 rfl ?_
      refine y_getI ok dX12_isWord_15 (fX12_198 rfl) (congrArg Prod.fst s_130) rfl (ltM hnn (by decide)) (sdm hf (by decide)) ?_
      refine w_iload_n ok dX12_isWord_18 1 rfl ?_
      refine w_icmp_ne (tgt := 26) ok dX12_isWord_19 (by decide) (fun c3 => ?_) (fun c3 => ?_)
      · skip
        refine w_iconst (v := 0) ok dX12_isWord_26 (by decide) ?_
        exact w_zret ok fin dX12_isWord_27 rfl (by decide) (by unfold F_X12_isWord; simp only [if_pos c1]; simp only [if_pos c2]; simp only [if_neg c3]; exact Pd.i)
      · skip
        refine w_iconst (v := 1) ok dX12_isWord_22 (by decide) ?_
        refine w_goto (tgt := 27) ok dX12_isWord_23 (by decide) ?_
        exact w_zret ok fin dX12_isWord_27 rfl (by decide) (by unfold F_X12_isWord; simp only [if_pos c1]; simp only [if_pos c2]; simp only [if_pos c3]; exact Pd.i)
def F_X12_isSign (a0 : Int32) (I : SI) (J : SJ) : Int32 := if (I 130 30) = 0 then (if (I 130 28) = 3 then (if (I 130 29) = a0 then 1 else 0) else 0) else 0
set_option maxHeartbeats 1000000 in
set_option maxRecDepth 40000 in
theorem c_X12_isSign {I : SI} {J : SJ} {R : SR} {n g : Nat} {f : Fr} (ro : RM R) (hnn : nM ≤ n) (hf : f.1 = false) (a0 : Int32)   : MM 0 0 0 mX12_isSign [.ref 130, .int a0] (eI f I) (eJ f J) R n g (Pd (some (.int (F_X12_isSign a0 I J))) (eI f I) (eJ f J) R n g) := by
  refine MM.of (by decide) (Nat.le_of_ble_eq_true rfl) fun K ok fin => ?_
  show WK K 0 0 0 [(0, .ref 130), (1, .int a0)] [] (eI f I) (eJ f J) R n g
  refine w_aload_n ok dX12_isSign_0 0 rfl ?_
  refine y_getI ok dX12_isSign_1 (fX12_223 rfl) (congrArg Prod.fst s_130) rfl (ltM hnn (by decide)) (sdm hf (by decide)) ?_
  refine w_if_ne (tgt := 27) ok dX12_isSign_4 (by decide) (fun c1 => ?_) (fun c1 => ?_)
  · skip
    refine w_iconst (v := 0) ok dX12_isSign_27 (by decide) ?_
    exact w_zret ok fin dX12_isSign_28 rfl (by decide) (by unfold F_X12_isSign; simp only [if_neg c1]; exact Pd.i)
  · skip
    refine w_aload_n ok dX12_isSign_7 0 rfl ?_
    refine y_getI ok dX12_isSign_8 (fX12_188 rfl) (congrArg Prod.fst s_130) rfl (ltM hnn (by decide)) (sdm hf (by decide)) ?_
    refine w_iconst (v := 3) ok dX12_isSign_11 (by decide) ?_
    refine w_icmp_ne (tgt := 27) ok dX12_isSign_12 (by decide) (fun c2 => ?_) (fun c2 => ?_)
    · skip
      refine w_iconst (v := 0) ok dX12_isSign_27 (by decide) ?_
      exact w_zret ok fin dX12_isSign_28 rfl (by decide) (by unfold F_X12_isSign; simp only [if_pos c1]; simp only [if_neg c2]; exact Pd.i)
    · skip
      refine w_aload_n ok dX12_isSign_15 0 rfl ?_
      refine y_getI ok dX12_isSign_16 (fX12_198 rfl) (congrArg Prod.fst s_130) rfl (ltM hnn (by decide)) (sdm hf (by decide)) ?_
      refine w_iload_n ok dX12_isSign_19 1 rfl ?_
      refine w_icmp_ne (tgt := 27) ok dX12_isSign_20 (by decide) (fun c3 => ?_) (fun c3 => ?_)
      · skip
        refine w_iconst (v := 0) ok dX12_isSign_27 (by decide) ?_
        exact w_zret ok fin dX12_isSign_28 rfl (by decide) (by unfold F_X12_isSign; simp only [if_pos c1]; simp only [if_pos c2]; simp only [if_neg c3]; exact Pd.i)
      · skip
        refine w_iconst (v := 1) ok dX12_isSign_23 (by decide) ?_
        refine w_goto (tgt := 28) ok dX12_isSign_24 (by decide) ?_
        exact w_zret ok fin dX12_isSign_28 rfl (by decide) (by unfold F_X12_isSign; simp only [if_pos c1]; simp only [if_pos c2]; simp only [if_pos c3]; exact Pd.i)
def B_X12_found_l3 (a0 : Nat) (la0 : Nat) (a1 : Int32) (a2 : Int32) (a3 : Int32) (I : SI) (J : SJ) (i3 : Nat) (s3 : Unit) : (Unit) ⊕ (Int32) := if (I a0 (a1 + (nI i3)).toNatClampNeg) = a3 then .inr (nI i3) else .inl ()
def F_X12_found_l3 (a0 : Nat) (la0 : Nat) (a1 : Int32) (a2 : Int32) (a3 : Int32) (I : SI) (J : SJ) (s0 : Unit) : (Unit) ⊕ (Int32) := itE (B_X12_found_l3 a0 la0 a1 a2 a3 I J) (a2.toNatClampNeg) 0 s0
def F_X12_found (a0 : Nat) (la0 : Nat) (a1 : Int32) (a2 : Int32) (a3 : Int32) (I : SI) (J : SJ) : Int32 := (match (F_X12_found_l3 a0 la0 a1 a2 a3 I J ()) with | .inl se3 => -1 | .inr re3 => re3)
def H_X12_found (a0 : Nat) (la0 : Nat) (a1 : Int32) (a2 : Int32) (a3 : Int32) (I : SI) (J : SJ) : Prop := (∀ (i3 : Nat) (s3 : Unit), i3 < a2.toNatClampNeg → itE (B_X12_found_l3 a0 la0 a1 a2 a3 I J) i3 0 () = .inl s3 → inR (a1 + (nI i3)) la0)
set_option maxHeartbeats 1000000 in
set_option maxRecDepth 40000 in
theorem c_X12_found {I : SI} {J : SJ} {R : SR} {n g : Nat} {f : Fr} (ro : RM R) (hnn : nM ≤ n) (hf : f.1 = false) {a0 : Nat} {la0 : Nat} (a1 : Int32) (a2 : Int32) (a3 : Int32) (hsa0 : SH a0 = (14, la0)) (hka0 : a0 < n) (hda0 : sd f a0) (hlen : la0 < 2 ^ 31)  (hp : H_X12_found a0 la0 a1 a2 a3 I J) : MM 0 0 0 mX12_found [.ref a0, .int a1, .int a2, .int a3] (eI f I) (eJ f J) R n g (Pd (some (.int (F_X12_found a0 la0 a1 a2 a3 I J))) (eI f I) (eJ f J) R n g) := by
  refine MM.of (by decide) (Nat.le_of_ble_eq_true rfl) fun K ok fin => ?_
  show WK K 0 0 0 [(0, .ref a0), (1, .int a1), (2, .int a2), (3, .int a3)] [] (eI f I) (eJ f J) R n g
  have hp1 := hp
  refine w_iconst (v := 0) ok dX12_found_0 (by decide) ?_
  refine w_istore ok dX12_found_1 (by decide) rfl ?_
  refine w_loc [1, 2, 3, 4, 0] rfl ?_
  refine loop_e (σ := Unit) (ρ := Int32) (fun (i3 : Nat) (s3 : Unit) => WK K 0 0 3 [(0, .ref a0), (1, .int a1), (2, .int a2), (3, .int a3), (4, .int (nI i3))] [] (eI f I) (eJ f J) R n g) (B_X12_found_l3 a0 la0 a1 a2 a3 I J) (a2.toNatClampNeg) (()) ?_ ?_
  · intro se3 he3
    have he3 : (F_X12_found_l3 a0 la0 a1 a2 a3 I J ()) = .inl se3 := he3
    show WK K 0 0 3 [(0, .ref a0), (1, .int a1), (2, .int a2), (3, .int a3), (4, .int (nI a2.toNatClampNeg))] [] (eI f I) (eJ f J) R n g
    have e1 : a2 ≤ (nI a2.toNatClampNeg) := cnt_ge _
    refine w_iload ok dX12_found_3 4 rfl ?_
    refine w_iload_n ok dX12_found_5 2 rfl ?_
    refine w_icmp_ge (tgt := 28) ok dX12_found_6 (by decide) (fun _ => ?_) (fun h => absurd e1 h)
    refine w_iconst (v := (-1)) ok dX12_found_28 (by decide) ?_
    exact w_iret ok fin dX12_found_29 rfl (by unfold F_X12_found; simp only [he3]; exact Pd.i)
  · intro i3 s3 hi3 hs3 k3 kr3
    show WK K 0 0 3 [(0, .ref a0), (1, .int a1), (2, .int a2), (3, .int a3), (4, .int (nI i3))] [] (eI f I) (eJ f J) R n g
    have e2 : ¬ (a2 ≤ (nI i3)) := cnt_lt hi3
    refine w_iload ok dX12_found_3 4 rfl ?_
    refine w_iload_n ok dX12_found_5 2 rfl ?_
    refine w_icmp_ge (tgt := 28) ok dX12_found_6 (by decide) (fun h => absurd h e2) (fun _ => ?_)
    refine w_aload_n ok dX12_found_9 0 rfl ?_
    refine w_iload_n ok dX12_found_10 1 rfl ?_
    refine w_iload ok dX12_found_11 4 rfl ?_
    refine w_iadd ok dX12_found_13 ?_
    refine y_iald (q := (a1 + (nI i3)).toNatClampNeg) ok dX12_found_14 hsa0 (hp1 i3 s3 hi3 hs3) hlen hka0 hda0 ?_
    refine w_iload_n ok dX12_found_15 3 rfl ?_
    refine w_icmp_ne (tgt := 22) ok dX12_found_16 (by decide) (fun c3 => ?_) (fun c3 => ?_)
    · skip
      refine w_iinc (v := (nI i3) + 1) ok dX12_found_22 4 rfl rfl (by decide) rfl ?_
      refine w_goto (tgt := 3) ok dX12_found_25 (by decide) ?_
      have eB : B_X12_found_l3 a0 la0 a1 a2 a3 I J i3 s3 = .inl () := by
        unfold B_X12_found_l3; exact (if_neg c3).trans (rfl)
      have kk := k3 _ eB
      refine w_loc [1, 2, 3, 4, 0] rfl ?_
      rw [nI_1 i3]
      exact kk
    · skip
      refine w_iload ok dX12_found_19 4 rfl ?_
      have eB : B_X12_found_l3 a0 la0 a1 a2 a3 I J i3 s3 = .inr (nI i3) := by
        unfold B_X12_found_l3; exact (if_pos c3).trans (rfl)
      have hr : (F_X12_found_l3 a0 la0 a1 a2 a3 I J ()) = .inr (nI i3) := kr3 _ eB
      exact w_iret ok fin dX12_found_21 rfl (by unfold F_X12_found; simp only [hr]; exact Pd.i)
def F_X12_fresher (a0 : Int32) (I : SI) (J : SJ) : Int32 := I 132 ((10 : Int32) + a0).toNatClampNeg
def H_X12_fresher (a0 : Int32) (I : SI) (J : SJ) : Prop := (inR ((10 : Int32) + a0) 20)
set_option maxHeartbeats 1000000 in
set_option maxRecDepth 40000 in
theorem c_X12_fresher {I : SI} {J : SJ} {R : SR} {n g : Nat} {f : Fr} (ro : RM R) (hnn : nM ≤ n) (hf : f.1 = false) (a0 : Int32)  (hp : H_X12_fresher a0 I J) : MM 0 0 0 mX12_fresher [.ref 130, .int a0] (eI f I) (eJ f J) R n g (Pd (some (.int (F_X12_fresher a0 I J))) (eI f I) (eJ f J) R n g) := by
  refine MM.of (by decide) (Nat.le_of_ble_eq_true rfl) fun K ok fin => ?_
  show WK K 0 0 0 [(0, .ref 130), (1, .int a0)] [] (eI f I) (eJ f J) R n g
  have hp1 := hp
  refine w_aload_n ok dX12_fresher_0 0 rfl ?_
  refine w_getR ok dX12_fresher_1 (fX12_13 rfl) (congrArg Prod.fst s_130) rfl (r_130_3 ro) (ltM hnn (by decide)) ?_
  refine w_bipush (v := 10) ok dX12_fresher_4 (by decide) ?_
  refine w_iload_n ok dX12_fresher_6 1 rfl ?_
  refine w_iadd ok dX12_fresher_7 ?_
  refine y_iald (q := ((10 : Int32) + a0).toNatClampNeg) ok dX12_fresher_8 s_132 (hp1) (by decide) (ltM hnn (by decide)) (sdm hf (by decide)) ?_
  exact w_iret ok fin dX12_fresher_9 rfl (by unfold F_X12_fresher; exact Pd.i)
def FI_X12_reads (a0 : Int32) (a1 : Int32) (I : SI) (J : SJ) : SI := u2 I 132 ((10 : Int32) + a0).toNatClampNeg a1
def H_X12_reads (a0 : Int32) (a1 : Int32) (I : SI) (J : SJ) : Prop := (inR ((10 : Int32) + a0) 20)
set_option maxHeartbeats 1000000 in
set_option maxRecDepth 40000 in
theorem c_X12_reads {I : SI} {J : SJ} {R : SR} {n g : Nat} {f : Fr} (ro : RM R) (hnn : nM ≤ n) (hf : f.1 = false) (a0 : Int32) (a1 : Int32)  (hp : H_X12_reads a0 a1 I J) : MM 0 0 0 mX12_reads [.ref 130, .int a0, .int a1] (eI f I) (eJ f J) R n g (Pd none (eI f (FI_X12_reads a0 a1 I J)) (eJ f J) R n g) := by
  refine MM.of (by decide) (Nat.le_of_ble_eq_true rfl) fun K ok fin => ?_
  show WK K 0 0 0 [(0, .ref 130), (1, .int a0), (2, .int a1)] [] (eI f I) (eJ f J) R n g
  have hp1 := hp
  refine w_aload_n ok dX12_reads_0 0 rfl ?_
  refine w_getR ok dX12_reads_1 (fX12_13 rfl) (congrArg Prod.fst s_130) rfl (r_130_3 ro) (ltM hnn (by decide)) ?_
  refine w_bipush (v := 10) ok dX12_reads_4 (by decide) ?_
  refine w_iload_n ok dX12_reads_6 1 rfl ?_
  refine w_iadd ok dX12_reads_7 ?_
  refine w_iload_n ok dX12_reads_8 2 rfl ?_
  refine y_iast (q := ((10 : Int32) + a0).toNatClampNeg) ok dX12_reads_9 s_132 (hp1) (by decide) (ltM hnn (by decide)) (sdm hf (by decide)) ?_
  exact w_vret ok fin dX12_reads_10 rfl (by unfold FI_X12_reads; exact Pd.i)
def T_X12_atHand_j44 (a0 : Nat) (la0 : Nat) (a1 : Int32) (a2 : Int32) (I : SI) (J : SJ) : SI := if (I 130 28) = 1 then (if (F_X12_found a0 la0 a1 a2 (I 130 29) I J) = (-1) then (FI_X12_wrong 4 I J) else I) else (FI_X12_wrong 1 I J)
def S1_X12_atHand (a0 : Nat) (la0 : Nat) (a1 : Int32) (a2 : Int32) (I : SI) (J : SJ) : Int32 := F_X12_found a0 la0 a1 a2 (((T_X12_atHand_j44 a0 la0 a1 a2 I J)) 130 29) (T_X12_atHand_j44 a0 la0 a1 a2 I J) J
def F_X12_atHand (a0 : Nat) (la0 : Nat) (a1 : Int32) (a2 : Int32) (I : SI) (J : SJ) : Int32 := if (I 130 30) = 0 then (if (((T_X12_atHand_j44 a0 la0 a1 a2 I J)) 130 30) = 0 then (S1_X12_atHand a0 la0 a1 a2 I J) else 0) else 0
def FI_X12_atHand (a0 : Nat) (la0 : Nat) (a1 : Int32) (a2 : Int32) (I : SI) (J : SJ) : SI := if (I 130 30) = 0 then (if (((T_X12_atHand_j44 a0 la0 a1 a2 I J)) 130 30) = 0 then (T_X12_atHand_j44 a0 la0 a1 a2 I J) else (T_X12_atHand_j44 a0 la0 a1 a2 I J)) else I
def H_X12_atHand (a0 : Nat) (la0 : Nat) (a1 : Int32) (a2 : Int32) (I : SI) (J : SJ) : Prop := ((I 130 30) = 0 → (((T_X12_atHand_j44 a0 la0 a1 a2 I J)) 130 30) = 0 → H_X12_found a0 la0 a1 a2 (((T_X12_atHand_j44 a0 la0 a1 a2 I J)) 130 29) (T_X12_atHand_j44 a0 la0 a1 a2 I J) J) ∧ ((I 130 30) = 0 → (I 130 28) = 1 → H_X12_found a0 la0 a1 a2 (I 130 29) I J)
set_option maxHeartbeats 1000000 in
set_option maxRecDepth 40000 in
theorem c_X12_atHand {I : SI} {J : SJ} {R : SR} {n g : Nat} {f : Fr} (ro : RM R) (hnn : nM ≤ n) (hf : f.1 = false) {a0 : Nat} {la0 : Nat} (a1 : Int32) (a2 : Int32) (hsa0 : SH a0 = (14, la0)) (hka0 : a0 < n) (hda0 : sd f a0) (hlen : la0 < 2 ^ 31)  (hp : H_X12_atHand a0 la0 a1 a2 I J) : MM 1 0 0 mX12_atHand [.ref 130, .ref a0, .int a1, .int a2] (eI f I) (eJ f J) R n g (Pd (some (.int (F_X12_atHand a0 la0 a1 a2 I J))) (eI f (FI_X12_atHand a0 la0 a1 a2 I J)) (eJ f J) R n g) := by
  refine MM.of (by decide) (Nat.le_of_ble_eq_true rfl) fun K ok fin => ?_
  show WK K 0 0 0 [(0, .ref 130), (1, .ref a0), (2, .int a1), (3, .int a2)] [] (eI f I) (eJ f J) R n g
  obtain ⟨hp1, hp2⟩ := hp
  refine w_aload_n ok dX12_atHand_0 0 rfl ?_
  refine y_getI ok dX12_atHand_1 (fX12_223 rfl) (congrArg Prod.fst s_130) rfl (ltM hnn (by decide)) (sdm hf (by decide)) ?_
  refine w_if_eq (tgt := 9) ok dX12_atHand_4 (by decide) (fun c1 => ?_) (fun c1 => ?_)
  · skip
    refine w_aload_n ok dX12_atHand_9 0 rfl ?_
    refine y_getI ok dX12_atHand_10 (fX12_188 rfl) (congrArg Prod.fst s_130) rfl (ltM hnn (by decide)) (sdm hf (by decide)) ?_
    refine w_iconst (v := 1) ok dX12_atHand_13 (by decide) ?_
    have jn2 : WK K 0 0 44 [(0, .ref 130), (1, .ref a0), (2, .int a1), (3, .int a2)] [] (eI f (T_X12_atHand_j44 a0 la0 a1 a2 I J)) (eJ f J) R n g := by
      refine w_aload_n ok dX12_atHand_44 0 rfl ?_
      refine y_getI ok dX12_atHand_45 (fX12_223 rfl) (congrArg Prod.fst s_130) rfl (ltM hnn (by decide)) (sdm hf (by decide)) ?_
      refine w_if_eq (tgt := 55) ok dX12_atHand_48 (by decide) (fun c3 => ?_) (fun c3 => ?_)
      · skip
        refine w_aload_n ok dX12_atHand_55 1 rfl ?_
        refine w_iload_n ok dX12_atHand_56 2 rfl ?_
        refine w_iload_n ok dX12_atHand_57 3 rfl ?_
        refine w_aload_n ok dX12_atHand_58 0 rfl ?_
        refine y_getI ok dX12_atHand_59 (fX12_198 rfl) (congrArg Prod.fst s_130) rfl (ltM hnn (by decide)) (sdm hf (by decide)) ?_
        refine w_cS (As := [.ref a0, .int a1, .int a2, .int (((T_X12_atHand_j44 a0 la0 a1 a2 I J)) 130 29)]) ok dX12_atHand_62 iX12_found (lX12_235 rfl) (c_X12_found ro hnn hf a1 a2 (((T_X12_atHand_j44 a0 la0 a1 a2 I J)) 130 29) hsa0 hka0 hda0 (sh_len hsa0) (hp1 c1 c3)) (by decide) rfl (Nat.le_of_ble_eq_true rfl) ?_
        show WK K 0 0 65 [(0, .ref 130), (1, .ref a0), (2, .int a1), (3, .int a2)] [.int (S1_X12_atHand a0 la0 a1 a2 I J)] (eI f (T_X12_atHand_j44 a0 la0 a1 a2 I J)) (eJ f J) R n g
        exact w_iret ok fin dX12_atHand_65 rfl (by unfold F_X12_atHand FI_X12_atHand; simp only [if_pos c1]; simp only [if_pos c3]; exact Pd.i)
      · skip
        refine w_iconst (v := 0) ok dX12_atHand_51 (by decide) ?_
        refine w_goto (tgt := 65) ok dX12_atHand_52 (by decide) ?_
        exact w_iret ok fin dX12_atHand_65 rfl (by unfold F_X12_atHand FI_X12_atHand; simp only [if_pos c1]; simp only [if_neg c3]; exact Pd.i)
    refine w_icmp_eq (tgt := 25) ok dX12_atHand_14 (by decide) (fun c4 => ?_) (fun c4 => ?_)
    · skip
      refine w_aload_n ok dX12_atHand_25 1 rfl ?_
      refine w_iload_n ok dX12_atHand_26 2 rfl ?_
      refine w_iload_n ok dX12_atHand_27 3 rfl ?_
      refine w_aload_n ok dX12_atHand_28 0 rfl ?_
      refine y_getI ok dX12_atHand_29 (fX12_198 rfl) (congrArg Prod.fst s_130) rfl (ltM hnn (by decide)) (sdm hf (by decide)) ?_
      refine w_cS (As := [.ref a0, .int a1, .int a2, .int (I 130 29)]) ok dX12_atHand_32 iX12_found (lX12_235 rfl) (c_X12_found ro hnn hf a1 a2 (I 130 29) hsa0 hka0 hda0 (sh_len hsa0) (hp2 c1 c4)) (by decide) rfl (Nat.le_of_ble_eq_true rfl) ?_
      refine w_iconst (v := (-1)) ok dX12_atHand_35 (by decide) ?_
      refine w_icmp_ne (tgt := 44) ok dX12_atHand_36 (by decide) (fun c5 => ?_) (fun c5 => ?_)
      · skip
        have eT : (T_X12_atHand_j44 a0 la0 a1 a2 I J) = I := by
          unfold T_X12_atHand_j44; exact (if_pos c4).trans ((if_neg c5).trans (rfl))
        refine w_loc [0, 1, 2, 3] rfl ?_
        have jj := jn2
        rw [eT] at jj
        exact jj
      · skip
        refine w_aload_n ok dX12_atHand_39 0 rfl ?_
        refine w_iconst (v := 4) ok dX12_atHand_40 (by decide) ?_
        refine w_cV (As := [.int 4]) ok dX12_atHand_41 iX12_wrong (lX12_232 rfl) (rcv cls12 (congrArg Prod.fst s_130)) (ltM hnn (by decide)) (c_X12_wrong ro hnn hf 4 ) (by decide) rfl (Nat.le_of_ble_eq_true rfl) ?_
        have eT : (T_X12_atHand_j44 a0 la0 a1 a2 I J) = (FI_X12_wrong 4 I J) := by
          unfold T_X12_atHand_j44; exact (if_pos c4).trans ((if_pos c5).trans (rfl))
        refine w_loc [0, 1, 2, 3] rfl ?_
        have jj := jn2
        rw [eT] at jj
        exact jj
    · skip
      refine w_aload_n ok dX12_atHand_17 0 rfl ?_
      refine w_iconst (v := 1) ok dX12_atHand_18 (by decide) ?_
      refine w_cV (As := [.int 1]) ok dX12_atHand_19 iX12_wrong (lX12_232 rfl) (rcv cls12 (congrArg Prod.fst s_130)) (ltM hnn (by decide)) (c_X12_wrong ro hnn hf 1 ) (by decide) rfl (Nat.le_of_ble_eq_true rfl) ?_
      refine w_goto (tgt := 44) ok dX12_atHand_22 (by decide) ?_
      have eT : (T_X12_atHand_j44 a0 la0 a1 a2 I J) = (FI_X12_wrong 1 I J) := by
        unfold T_X12_atHand_j44; exact (if_neg c4).trans (rfl)
      refine w_loc [0, 1, 2, 3] rfl ?_
      have jj := jn2
      rw [eT] at jj
      exact jj
  · skip
    refine w_iconst (v := 0) ok dX12_atHand_7 (by decide) ?_
    exact w_iret ok fin dX12_atHand_8 rfl (by unfold F_X12_atHand FI_X12_atHand; simp only [if_neg c1]; exact Pd.i)
def F_X12_markAtHand  (I : SI) (J : SJ) : Int32 := F_X12_atHand 133 12 6 (F_X12_fresher 0 I J) I J
def FI_X12_markAtHand  (I : SI) (J : SJ) : SI := FI_X12_atHand 133 12 6 (F_X12_fresher 0 I J) I J
def H_X12_markAtHand  (I : SI) (J : SJ) : Prop := (H_X12_fresher 0 I J) ∧ (H_X12_atHand 133 12 6 (F_X12_fresher 0 I J) I J)
set_option maxHeartbeats 1000000 in
set_option maxRecDepth 40000 in
theorem c_X12_markAtHand {I : SI} {J : SJ} {R : SR} {n g : Nat} {f : Fr} (ro : RM R) (hnn : nM ≤ n) (hf : f.1 = false)   (hp : H_X12_markAtHand  I J) : MM 2 0 0 mX12_markAtHand [.ref 130] (eI f I) (eJ f J) R n g (Pd (some (.int (F_X12_markAtHand  I J))) (eI f (FI_X12_markAtHand  I J)) (eJ f J) R n g) := by
  refine MM.of (by decide) (Nat.le_of_ble_eq_true rfl) fun K ok fin => ?_
  show WK K 0 0 0 [(0, .ref 130)] [] (eI f I) (eJ f J) R n g
  obtain ⟨hp1, hp2⟩ := hp
  refine w_aload_n ok dX12_markAtHand_0 0 rfl ?_
  refine w_aload_n ok dX12_markAtHand_1 0 rfl ?_
  refine w_getR ok dX12_markAtHand_2 (fX12_16 rfl) (congrArg Prod.fst s_130) rfl (r_130_4 ro) (ltM hnn (by decide)) ?_
  refine w_bipush (v := 6) ok dX12_markAtHand_5 (by decide) ?_
  refine w_aload_n ok dX12_markAtHand_7 0 rfl ?_
  refine w_iconst (v := 0) ok dX12_markAtHand_8 (by decide) ?_
  refine w_cV (As := [.int 0]) ok dX12_markAtHand_9 iX12_fresher (lX12_239 rfl) (rcv cls12 (congrArg Prod.fst s_130)) (ltM hnn (by decide)) (c_X12_fresher ro hnn hf 0  (hp1)) (by decide) rfl (Nat.le_of_ble_eq_true rfl) ?_
  show WK K 0 0 12 [(0, .ref 130)] [.int (F_X12_fresher 0 I J), .int 6, .ref 133, .ref 130] (eI f I) (eJ f J) R n g
  refine w_cV (As := [.ref 133, .int 6, .int (F_X12_fresher 0 I J)]) ok dX12_markAtHand_12 iX12_atHand (lX12_243 rfl) (rcv cls12 (congrArg Prod.fst s_130)) (ltM hnn (by decide)) (c_X12_atHand ro hnn hf 6 (F_X12_fresher 0 I J) s_133 (ltM hnn (by decide)) (sdm hf (by decide)) (sh_len s_133) (hp2)) (by decide) rfl (Nat.le_of_ble_eq_true rfl) ?_
  exact w_iret ok fin dX12_markAtHand_15 rfl (by unfold F_X12_markAtHand FI_X12_markAtHand; exact Pd.i)
def F_X12_isFull (a0 : Int32) (I : SI) (J : SJ) : Int32 := if a0 = 0 then (if (F_X12_fresher 0 I J) = 6 then 1 else 0) else (if a0 = 1 then (if (F_X12_fresher 1 I J) = 8 then 1 else 0) else (if a0 = 2 then (if (F_X12_fresher 2 I J) = 20 then 1 else 0) else (if a0 = 3 then (if (F_X12_fresher 3 I J) = 4 then 1 else 0) else (if a0 = 4 then (if (F_X12_fresher 4 I J) = 4 then 1 else 0) else (if a0 = 5 then (if (F_X12_fresher 5 I J) = 3 then 1 else 0) else 0)))))
def H_X12_isFull (a0 : Int32) (I : SI) (J : SJ) : Prop := (a0 = 0 → H_X12_fresher 0 I J) ∧ (¬ (a0 = 0) → a0 = 1 → H_X12_fresher 1 I J) ∧ (¬ (a0 = 0) → ¬ (a0 = 1) → a0 = 2 → H_X12_fresher 2 I J) ∧ (¬ (a0 = 0) → ¬ (a0 = 1) → ¬ (a0 = 2) → a0 = 3 → H_X12_fresher 3 I J) ∧ (¬ (a0 = 0) → ¬ (a0 = 1) → ¬ (a0 = 2) → ¬ (a0 = 3) → a0 = 4 → H_X12_fresher 4 I J) ∧ (¬ (a0 = 0) → ¬ (a0 = 1) → ¬ (a0 = 2) → ¬ (a0 = 3) → ¬ (a0 = 4) → a0 = 5 → H_X12_fresher 5 I J)
set_option maxHeartbeats 1070000 in
set_option maxRecDepth 40000 in
theorem c_X12_isFull {I : SI} {J : SJ} {R : SR} {n g : Nat} {f : Fr} (ro : RM R) (hnn : nM ≤ n) (hf : f.1 = false) (a0 : Int32)  (hp : H_X12_isFull a0 I J) : MM 1 0 0 mX12_isFull [.ref 130, .int a0] (eI f I) (eJ f J) R n g (Pd (some (.int (F_X12_isFull a0 I J))) (eI f I) (eJ f J) R n g) := by
  refine MM.of (by decide) (Nat.le_of_ble_eq_true rfl) fun K ok fin => ?_
  show WK K 0 0 0 [(0, .ref 130), (1, .int a0)] [] (eI f I) (eJ f J) R n g
  obtain ⟨hp1, hp2, hp3, hp4, hp5, hp6⟩ := hp
  refine w_iload_n ok dX12_isFull_0 1 rfl ?_
  by_cases c1 : a0 = 0
  · skip
    refine w_tabIn (tgt := 40) (off := 39) ok dX12_isFull_1 (by rw [c1]; decide) (by rw [c1]; decide) (by rw [c1]; rfl) (by decide) ?_
    refine w_aload_n ok dX12_isFull_40 0 rfl ?_
    refine w_iconst (v := 0) ok dX12_isFull_41 (by decide) ?_
    refine w_cV (As := [.int 0]) ok dX12_isFull_42 iX12_fresher (lX12_239 rfl) (rcv cls12 (congrArg Prod.fst s_130)) (ltM hnn (by decide)) (c_X12_fresher ro hnn hf 0  (hp1 c1)) (by decide) rfl (Nat.le_of_ble_eq_true rfl) ?_
    refine w_bipush (v := 6) ok dX12_isFull_45 (by decide) ?_
    refine w_icmp_ne (tgt := 54) ok dX12_isFull_47 (by decide) (fun c2 => ?_) (fun c2 => ?_)
    · skip
      refine w_iconst (v := 0) ok dX12_isFull_54 (by decide) ?_
      exact w_zret ok fin dX12_isFull_55 rfl (by decide) (by unfold F_X12_isFull; simp only [if_pos c1]; simp only [if_neg c2]; exact Pd.i)
    · skip
      refine w_iconst (v := 1) ok dX12_isFull_50 (by decide) ?_
      refine w_goto (tgt := 55) ok dX12_isFull_51 (by decide) ?_
      exact w_zret ok fin dX12_isFull_55 rfl (by decide) (by unfold F_X12_isFull; simp only [if_pos c1]; simp only [if_pos c2]; exact Pd.i)
  · skip
    by_cases c3 : a0 = 1
    · skip
      refine w_tabIn (tgt := 56) (off := 55) ok dX12_isFull_1 (by rw [c3]; decide) (by rw [c3]; decide) (by rw [c3]; rfl) (by decide) ?_
      refine w_aload_n ok dX12_isFull_56 0 rfl ?_
      refine w_iconst (v := 1) ok dX12_isFull_57 (by decide) ?_
      refine w_cV (As := [.int 1]) ok dX12_isFull_58 iX12_fresher (lX12_239 rfl) (rcv cls12 (congrArg Prod.fst s_130)) (ltM hnn (by decide)) (c_X12_fresher ro hnn hf 1  (hp2 c1 c3)) (by decide) rfl (Nat.le_of_ble_eq_true rfl) ?_
      refine w_bipush (v := 8) ok dX12_isFull_61 (by decide) ?_
      refine w_icmp_ne (tgt := 70) ok dX12_isFull_63 (by decide) (fun c4 => ?_) (fun c4 => ?_)
      · skip
        refine w_iconst (v := 0) ok dX12_isFull_70 (by decide) ?_
        exact w_zret ok fin dX12_isFull_71 rfl (by decide) (by unfold F_X12_isFull; simp only [if_neg c1]; simp only [if_pos c3]; simp only [if_neg c4]; exact Pd.i)
      · skip
        refine w_iconst (v := 1) ok dX12_isFull_66 (by decide) ?_
        refine w_goto (tgt := 71) ok dX12_isFull_67 (by decide) ?_
        exact w_zret ok fin dX12_isFull_71 rfl (by decide) (by unfold F_X12_isFull; simp only [if_neg c1]; simp only [if_pos c3]; simp only [if_pos c4]; exact Pd.i)
    · skip
      by_cases c5 : a0 = 2
      · skip
        refine w_tabIn (tgt := 72) (off := 71) ok dX12_isFull_1 (by rw [c5]; decide) (by rw [c5]; decide) (by rw [c5]; rfl) (by decide) ?_
        refine w_aload_n ok dX12_isFull_72 0 rfl ?_
        refine w_iconst (v := 2) ok dX12_isFull_73 (by decide) ?_
        refine w_cV (As := [.int 2]) ok dX12_isFull_74 iX12_fresher (lX12_239 rfl) (rcv cls12 (congrArg Prod.fst s_130)) (ltM hnn (by decide)) (c_X12_fresher ro hnn hf 2  (hp3 c1 c3 c5)) (by decide) rfl (Nat.le_of_ble_eq_true rfl) ?_
        refine w_bipush (v := 20) ok dX12_isFull_77 (by decide) ?_
        refine w_icmp_ne (tgt := 86) ok dX12_isFull_79 (by decide) (fun c6 => ?_) (fun c6 => ?_)
        · skip
          refine w_iconst (v := 0) ok dX12_isFull_86 (by decide) ?_
          exact w_zret ok fin dX12_isFull_87 rfl (by decide) (by unfold F_X12_isFull; simp only [if_neg c1]; simp only [if_neg c3]; simp only [if_pos c5]; simp only [if_neg c6]; exact Pd.i)
        · skip
          refine w_iconst (v := 1) ok dX12_isFull_82 (by decide) ?_
          refine w_goto (tgt := 87) ok dX12_isFull_83 (by decide) ?_
          exact w_zret ok fin dX12_isFull_87 rfl (by decide) (by unfold F_X12_isFull; simp only [if_neg c1]; simp only [if_neg c3]; simp only [if_pos c5]; simp only [if_pos c6]; exact Pd.i)
      · skip
        by_cases c7 : a0 = 3
        · skip
          refine w_tabIn (tgt := 88) (off := 87) ok dX12_isFull_1 (by rw [c7]; decide) (by rw [c7]; decide) (by rw [c7]; rfl) (by decide) ?_
          refine w_aload_n ok dX12_isFull_88 0 rfl ?_
          refine w_iconst (v := 3) ok dX12_isFull_89 (by decide) ?_
          refine w_cV (As := [.int 3]) ok dX12_isFull_90 iX12_fresher (lX12_239 rfl) (rcv cls12 (congrArg Prod.fst s_130)) (ltM hnn (by decide)) (c_X12_fresher ro hnn hf 3  (hp4 c1 c3 c5 c7)) (by decide) rfl (Nat.le_of_ble_eq_true rfl) ?_
          refine w_iconst (v := 4) ok dX12_isFull_93 (by decide) ?_
          refine w_icmp_ne (tgt := 101) ok dX12_isFull_94 (by decide) (fun c8 => ?_) (fun c8 => ?_)
          · skip
            refine w_iconst (v := 0) ok dX12_isFull_101 (by decide) ?_
            exact w_zret ok fin dX12_isFull_102 rfl (by decide) (by unfold F_X12_isFull; simp only [if_neg c1]; simp only [if_neg c3]; simp only [if_neg c5]; simp only [if_pos c7]; simp only [if_neg c8]; exact Pd.i)
          · skip
            refine w_iconst (v := 1) ok dX12_isFull_97 (by decide) ?_
            refine w_goto (tgt := 102) ok dX12_isFull_98 (by decide) ?_
            exact w_zret ok fin dX12_isFull_102 rfl (by decide) (by unfold F_X12_isFull; simp only [if_neg c1]; simp only [if_neg c3]; simp only [if_neg c5]; simp only [if_pos c7]; simp only [if_pos c8]; exact Pd.i)
        · skip
          by_cases c9 : a0 = 4
          · skip
            refine w_tabIn (tgt := 103) (off := 102) ok dX12_isFull_1 (by rw [c9]; decide) (by rw [c9]; decide) (by rw [c9]; rfl) (by decide) ?_
            refine w_aload_n ok dX12_isFull_103 0 rfl ?_
            refine w_iconst (v := 4) ok dX12_isFull_104 (by decide) ?_
            refine w_cV (As := [.int 4]) ok dX12_isFull_105 iX12_fresher (lX12_239 rfl) (rcv cls12 (congrArg Prod.fst s_130)) (ltM hnn (by decide)) (c_X12_fresher ro hnn hf 4  (hp5 c1 c3 c5 c7 c9)) (by decide) rfl (Nat.le_of_ble_eq_true rfl) ?_
            refine w_iconst (v := 4) ok dX12_isFull_108 (by decide) ?_
            refine w_icmp_ne (tgt := 116) ok dX12_isFull_109 (by decide) (fun c10 => ?_) (fun c10 => ?_)
            · skip
              refine w_iconst (v := 0) ok dX12_isFull_116 (by decide) ?_
              exact w_zret ok fin dX12_isFull_117 rfl (by decide) (by unfold F_X12_isFull; simp only [if_neg c1]; simp only [if_neg c3]; simp only [if_neg c5]; simp only [if_neg c7]; simp only [if_pos c9]; simp only [if_neg c10]; exact Pd.i)
            · skip
              refine w_iconst (v := 1) ok dX12_isFull_112 (by decide) ?_
              refine w_goto (tgt := 117) ok dX12_isFull_113 (by decide) ?_
              exact w_zret ok fin dX12_isFull_117 rfl (by decide) (by unfold F_X12_isFull; simp only [if_neg c1]; simp only [if_neg c3]; simp only [if_neg c5]; simp only [if_neg c7]; simp only [if_pos c9]; simp only [if_pos c10]; exact Pd.i)
          · skip
            by_cases c11 : a0 = 5
            · skip
              refine w_tabIn (tgt := 118) (off := 117) ok dX12_isFull_1 (by rw [c11]; decide) (by rw [c11]; decide) (by rw [c11]; rfl) (by decide) ?_
              refine w_aload_n ok dX12_isFull_118 0 rfl ?_
              refine w_iconst (v := 5) ok dX12_isFull_119 (by decide) ?_
              refine w_cV (As := [.int 5]) ok dX12_isFull_120 iX12_fresher (lX12_239 rfl) (rcv cls12 (congrArg Prod.fst s_130)) (ltM hnn (by decide)) (c_X12_fresher ro hnn hf 5  (hp6 c1 c3 c5 c7 c9 c11)) (by decide) rfl (Nat.le_of_ble_eq_true rfl) ?_
              refine w_iconst (v := 3) ok dX12_isFull_123 (by decide) ?_
              refine w_icmp_ne (tgt := 131) ok dX12_isFull_124 (by decide) (fun c12 => ?_) (fun c12 => ?_)
              · skip
                refine w_iconst (v := 0) ok dX12_isFull_131 (by decide) ?_
                exact w_zret ok fin dX12_isFull_132 rfl (by decide) (by unfold F_X12_isFull; simp only [if_neg c1]; simp only [if_neg c3]; simp only [if_neg c5]; simp only [if_neg c7]; simp only [if_neg c9]; simp only [if_pos c11]; simp only [if_neg c12]; exact Pd.i)
              · skip
                refine w_iconst (v := 1) ok dX12_isFull_127 (by decide) ?_
                refine w_goto (tgt := 132) ok dX12_isFull_128 (by decide) ?_
                exact w_zret ok fin dX12_isFull_132 rfl (by decide) (by unfold F_X12_isFull; simp only [if_neg c1]; simp only [if_neg c3]; simp only [if_neg c5]; simp only [if_neg c7]; simp only [if_neg c9]; simp only [if_pos c11]; simp only [if_pos c12]; exact Pd.i)
            · skip
              have n13 : a0.toInt ≠ 0 := ne_toInt c1
              have n14 : a0.toInt ≠ 1 := ne_toInt c3
              have n15 : a0.toInt ≠ 2 := ne_toInt c5
              have n16 : a0.toInt ≠ 3 := ne_toInt c7
              have n17 : a0.toInt ≠ 4 := ne_toInt c9
              have n18 : a0.toInt ≠ 5 := ne_toInt c11
              refine w_tabOut (tgt := 133) ok dX12_isFull_1 (by omega) (by decide) ?_
              refine w_iconst (v := 0) ok dX12_isFull_133 (by decide) ?_
              exact w_zret ok fin dX12_isFull_134 rfl (by decide) (by unfold F_X12_isFull; simp only [if_neg c1]; simp only [if_neg c3]; simp only [if_neg c5]; simp only [if_neg c7]; simp only [if_neg c9]; simp only [if_neg c11]; exact Pd.i)
def S1_X12_puts (a0 : Int32) (a1 : Int32) (I : SI) (J : SJ) : Int32 := (64 : Int32) + (F_X12_fresher 9 (u2 I 150 ((64 : Int32) + (F_X12_fresher 9 I J)).toNatClampNeg a0) J)
def S2_X12_puts (a0 : Int32) (a1 : Int32) (I : SI) (J : SJ) : SI := u2 (u2 I 150 ((64 : Int32) + (F_X12_fresher 9 I J)).toNatClampNeg a0) 151 (S1_X12_puts a0 a1 I J).toNatClampNeg a1
def S3_X12_puts (a0 : Int32) (a1 : Int32) (I : SI) (J : SJ) : SI := FI_X12_reads 9 ((F_X12_fresher 9 (S2_X12_puts a0 a1 I J) J) + 1) (S2_X12_puts a0 a1 I J) J
def FI_X12_puts (a0 : Int32) (a1 : Int32) (I : SI) (J : SJ) : SI := if (I 130 30) = 0 then (S3_X12_puts a0 a1 I J) else I
def H_X12_puts (a0 : Int32) (a1 : Int32) (I : SI) (J : SJ) : Prop := ((I 130 30) = 0 → H_X12_fresher 9 I J) ∧ ((I 130 30) = 0 → inR ((64 : Int32) + (F_X12_fresher 9 I J)) 128) ∧ ((I 130 30) = 0 → H_X12_fresher 9 (u2 I 150 ((64 : Int32) + (F_X12_fresher 9 I J)).toNatClampNeg a0) J) ∧ ((I 130 30) = 0 → inR (S1_X12_puts a0 a1 I J) 128) ∧ ((I 130 30) = 0 → H_X12_fresher 9 (S2_X12_puts a0 a1 I J) J) ∧ ((I 130 30) = 0 → H_X12_reads 9 ((F_X12_fresher 9 (S2_X12_puts a0 a1 I J) J) + 1) (S2_X12_puts a0 a1 I J) J)
set_option maxHeartbeats 1000000 in
set_option maxRecDepth 40000 in
theorem c_X12_puts {I : SI} {J : SJ} {R : SR} {n g : Nat} {f : Fr} (ro : RM R) (hnn : nM ≤ n) (hf : f.1 = false) (a0 : Int32) (a1 : Int32)  (hp : H_X12_puts a0 a1 I J) : MM 1 0 0 mX12_puts [.ref 130, .int a0, .int a1] (eI f I) (eJ f J) R n g (Pd none (eI f (FI_X12_puts a0 a1 I J)) (eJ f J) R n g) := by
  refine MM.of (by decide) (Nat.le_of_ble_eq_true rfl) fun K ok fin => ?_
  show WK K 0 0 0 [(0, .ref 130), (1, .int a0), (2, .int a1)] [] (eI f I) (eJ f J) R n g
  obtain ⟨hp1, hp2, hp3, hp4, hp5, hp6⟩ := hp
  refine w_aload_n ok dX12_puts_0 0 rfl ?_
  refine y_getI ok dX12_puts_1 (fX12_223 rfl) (congrArg Prod.fst s_130) rfl (ltM hnn (by decide)) (sdm hf (by decide)) ?_
  refine w_if_eq (tgt := 8) ok dX12_puts_4 (by decide) (fun c1 => ?_) (fun c1 => ?_)
  · skip
    refine w_aload_n ok dX12_puts_8 0 rfl ?_
    refine w_getR ok dX12_puts_9 (fX12_67 rfl) (congrArg Prod.fst s_130) rfl (r_130_21 ro) (ltM hnn (by decide)) ?_
    refine w_bipush (v := 64) ok dX12_puts_12 (by decide) ?_
    refine w_aload_n ok dX12_puts_14 0 rfl ?_
    refine w_bipush (v := 9) ok dX12_puts_15 (by decide) ?_
    refine w_cV (As := [.int 9]) ok dX12_puts_17 iX12_fresher (lX12_239 rfl) (rcv cls12 (congrArg Prod.fst s_130)) (ltM hnn (by decide)) (c_X12_fresher ro hnn hf 9  (hp1 c1)) (by decide) rfl (Nat.le_of_ble_eq_true rfl) ?_
    show WK K 0 0 20 [(0, .ref 130), (1, .int a0), (2, .int a1)] [.int (F_X12_fresher 9 I J), .int 64, .ref 150] (eI f I) (eJ f J) R n g
    refine w_iadd ok dX12_puts_20 ?_
    refine w_iload_n ok dX12_puts_21 1 rfl ?_
    refine y_iast (q := ((64 : Int32) + (F_X12_fresher 9 I J)).toNatClampNeg) ok dX12_puts_22 s_150 (hp2 c1) (by decide) (ltM hnn (by decide)) (sdm hf (by decide)) ?_
    refine w_aload_n ok dX12_puts_23 0 rfl ?_
    refine w_getR ok dX12_puts_24 (fX12_70 rfl) (congrArg Prod.fst s_130) rfl (r_130_22 ro) (ltM hnn (by decide)) ?_
    refine w_bipush (v := 64) ok dX12_puts_27 (by decide) ?_
    refine w_aload_n ok dX12_puts_29 0 rfl ?_
    refine w_bipush (v := 9) ok dX12_puts_30 (by decide) ?_
    refine w_cV (As := [.int 9]) ok dX12_puts_32 iX12_fresher (lX12_239 rfl) (rcv cls12 (congrArg Prod.fst s_130)) (ltM hnn (by decide)) (c_X12_fresher ro hnn hf 9  (hp3 c1)) (by decide) rfl (Nat.le_of_ble_eq_true rfl) ?_
    show WK K 0 0 35 [(0, .ref 130), (1, .int a0), (2, .int a1)] [.int (F_X12_fresher 9 (u2 I 150 ((64 : Int32) + (F_X12_fresher 9 I J)).toNatClampNeg a0) J), .int 64, .ref 151] (eI f (u2 I 150 ((64 : Int32) + (F_X12_fresher 9 I J)).toNatClampNeg a0)) (eJ f J) R n g
    refine w_iadd ok dX12_puts_35 ?_
    show WK K 0 0 36 [(0, .ref 130), (1, .int a0), (2, .int a1)] [.int (S1_X12_puts a0 a1 I J), .ref 151] (eI f (u2 I 150 ((64 : Int32) + (F_X12_fresher 9 I J)).toNatClampNeg a0)) (eJ f J) R n g
    refine w_iload_n ok dX12_puts_36 2 rfl ?_
    refine y_iast (q := (S1_X12_puts a0 a1 I J).toNatClampNeg) ok dX12_puts_37 s_151 (hp4 c1) (by decide) (ltM hnn (by decide)) (sdm hf (by decide)) ?_
    show WK K 0 0 38 [(0, .ref 130), (1, .int a0), (2, .int a1)] [] (eI f (S2_X12_puts a0 a1 I J)) (eJ f J) R n g
    refine w_aload_n ok dX12_puts_38 0 rfl ?_
    refine w_bipush (v := 9) ok dX12_puts_39 (by decide) ?_
    refine w_aload_n ok dX12_puts_41 0 rfl ?_
    refine w_bipush (v := 9) ok dX12_puts_42 (by decide) ?_
    refine w_cV (As := [.int 9]) ok dX12_puts_44 iX12_fresher (lX12_239 rfl) (rcv cls12 (congrArg Prod.fst s_130)) (ltM hnn (by decide)) (c_X12_fresher ro hnn hf 9  (hp5 c1)) (by decide) rfl (Nat.le_of_ble_eq_true rfl) ?_
    show WK K 0 0 47 [(0, .ref 130), (1, .int a0), (2, .int a1)] [.int (F_X12_fresher 9 (S2_X12_puts a0 a1 I J) J), .int 9, .ref 130] (eI f (S2_X12_puts a0 a1 I J)) (eJ f J) R n g
    refine w_iconst (v := 1) ok dX12_puts_47 (by decide) ?_
    refine w_iadd ok dX12_puts_48 ?_
    refine w_cV (As := [.int 9, .int ((F_X12_fresher 9 (S2_X12_puts a0 a1 I J) J) + 1)]) ok dX12_puts_49 iX12_reads (lX12_260 rfl) (rcv cls12 (congrArg Prod.fst s_130)) (ltM hnn (by decide)) (c_X12_reads ro hnn hf 9 ((F_X12_fresher 9 (S2_X12_puts a0 a1 I J) J) + 1)  (hp6 c1)) (by decide) rfl (Nat.le_of_ble_eq_true rfl) ?_
    show WK K 0 0 52 [(0, .ref 130), (1, .int a0), (2, .int a1)] [] (eI f (S3_X12_puts a0 a1 I J)) (eJ f J) R n g
    exact w_vret ok fin dX12_puts_52 rfl (by unfold FI_X12_puts; simp only [if_pos c1]; exact Pd.i)
  · skip
    exact w_vret ok fin dX12_puts_7 rfl (by unfold FI_X12_puts; simp only [if_neg c1]; exact Pd.i)
def FI_X12_knot  (I : SI) (J : SJ) : SI := if (I 130 30) = 0 then (if (I 130 35) = 64 then FI_X12_wrong 2 I J else u2 I 130 35 ((I 130 35) + 1)) else I
set_option maxHeartbeats 1000000 in
set_option maxRecDepth 40000 in
theorem c_X12_knot {I : SI} {J : SJ} {R : SR} {n g : Nat} {f : Fr} (ro : RM R) (hnn : nM ≤ n) (hf : f.1 = false)    : MM 1 0 0 mX12_knot [.ref 130] (eI f I) (eJ f J) R n g (Pd none (eI f (FI_X12_knot  I J)) (eJ f J) R n g) := by
  refine MM.of (by decide) (Nat.le_of_ble_eq_true rfl) fun K ok fin => ?_
  show WK K 0 0 0 [(0, .ref 130)] [] (eI f I) (eJ f J) R n g
  refine w_aload_n ok dX12_knot_0 0 rfl ?_
  refine y_getI ok dX12_knot_1 (fX12_223 rfl) (congrArg Prod.fst s_130) rfl (ltM hnn (by decide)) (sdm hf (by decide)) ?_
  refine w_if_eq (tgt := 8) ok dX12_knot_4 (by decide) (fun c1 => ?_) (fun c1 => ?_)
  · skip
    refine w_aload_n ok dX12_knot_8 0 rfl ?_
    refine y_getI ok dX12_knot_9 (fX12_288 rfl) (congrArg Prod.fst s_130) rfl (ltM hnn (by decide)) (sdm hf (by decide)) ?_
    refine w_bipush (v := 64) ok dX12_knot_12 (by decide) ?_
    refine w_icmp_ne (tgt := 25) ok dX12_knot_14 (by decide) (fun c2 => ?_) (fun c2 => ?_)
    · skip
      refine w_aload_n ok dX12_knot_25 0 rfl ?_
      refine w_dup ok dX12_knot_26 rfl ?_
      refine y_getI ok dX12_knot_27 (fX12_288 rfl) (congrArg Prod.fst s_130) rfl (ltM hnn (by decide)) (sdm hf (by decide)) ?_
      refine w_iconst (v := 1) ok dX12_knot_30 (by decide) ?_
      refine w_iadd ok dX12_knot_31 ?_
      refine y_putI ok dX12_knot_32 (fwX12_288 rfl) (congrArg Prod.fst s_130) rfl (ltM hnn (by decide)) (sdm hf (by decide)) ?_
      exact w_vret ok fin dX12_knot_35 rfl (by unfold FI_X12_knot; simp only [if_pos c1]; simp only [if_neg c2]; exact Pd.i)
    · skip
      refine w_aload_n ok dX12_knot_17 0 rfl ?_
      refine w_iconst (v := 2) ok dX12_knot_18 (by decide) ?_
      refine w_cV (As := [.int 2]) ok dX12_knot_19 iX12_wrong (lX12_232 rfl) (rcv cls12 (congrArg Prod.fst s_130)) (ltM hnn (by decide)) (c_X12_wrong ro hnn hf 2 ) (by decide) rfl (Nat.le_of_ble_eq_true rfl) ?_
      refine w_goto (tgt := 35) ok dX12_knot_22 (by decide) ?_
      exact w_vret ok fin dX12_knot_35 rfl (by unfold FI_X12_knot; simp only [if_pos c1]; simp only [if_pos c2]; exact Pd.i)
  · skip
    exact w_vret ok fin dX12_knot_7 rfl (by unfold FI_X12_knot; simp only [if_neg c1]; exact Pd.i)
def S1_X12_half (a0 : Nat) (la0 : Nat) (I : SI) (J : SJ) (i7 : Nat) (s7 : SI) : SI := u2 s7 a0 (nI i7).toNatClampNeg (s7 a0 (((nI la0) / 2) + (nI i7)).toNatClampNeg)
def B_X12_half_l7 (a0 : Nat) (la0 : Nat) (I : SI) (J : SJ) (i7 : Nat) (s7 : SI) : SI := (S1_X12_half a0 la0 I J i7 s7)
def F_X12_half_l7 (a0 : Nat) (la0 : Nat) (I : SI) (J : SJ) (s0 : SI) : SI := itN (B_X12_half_l7 a0 la0 I J) (((nI la0) / 2).toNatClampNeg) s0
def FI_X12_half (a0 : Nat) (la0 : Nat) (I : SI) (J : SJ) : SI := (F_X12_half_l7 a0 la0 I J I)
def H_X12_half (a0 : Nat) (la0 : Nat) (I : SI) (J : SJ) : Prop := (∀ (i7 : Nat) (s7 : SI), i7 < ((nI la0) / 2).toNatClampNeg → s7 = itN (B_X12_half_l7 a0 la0 I J) i7 I → inR (((nI la0) / 2) + (nI i7)) la0) ∧ (∀ (i7 : Nat) (s7 : SI), i7 < ((nI la0) / 2).toNatClampNeg → s7 = itN (B_X12_half_l7 a0 la0 I J) i7 I → inR (nI i7) la0)
set_option maxHeartbeats 1000000 in
set_option maxRecDepth 40000 in
theorem c_X12_half {I : SI} {J : SJ} {R : SR} {n g : Nat} {f : Fr} (ro : RM R) (hnn : nM ≤ n) (hf : f.1 = false) {a0 : Nat} {la0 : Nat} (hsa0 : SH a0 = (14, la0)) (hka0 : a0 < n) (hda0 : sd f a0) (hlen : la0 < 2 ^ 31)  (hp : H_X12_half a0 la0 I J) : MM 0 0 0 mX12_half [.ref a0] (eI f I) (eJ f J) R n g (Pd none (eI f (FI_X12_half a0 la0 I J)) (eJ f J) R n g) := by
  refine MM.of (by decide) (Nat.le_of_ble_eq_true rfl) fun K ok fin => ?_
  show WK K 0 0 0 [(0, .ref a0)] [] (eI f I) (eJ f J) R n g
  obtain ⟨hp1, hp2⟩ := hp
  refine w_aload_n ok dX12_half_0 0 rfl ?_
  refine w_alen (v := nI la0) ok dX12_half_1 hsa0 (by decide) rfl hka0 ?_
  refine w_iconst (v := 2) ok dX12_half_2 (by decide) ?_
  refine w_idiv ok dX12_half_3 (by decide) ?_
  refine w_istore_n ok dX12_half_4 rfl (by decide) rfl ?_
  refine w_iconst (v := 0) ok dX12_half_5 (by decide) ?_
  refine w_istore_n ok dX12_half_6 rfl (by decide) rfl ?_
  refine w_loc [2, 1, 0] rfl ?_
  refine loop_for (σ := SI) (fun (i7 : Nat) (s7 : SI) => WK K 0 0 7 [(0, .ref a0), (1, .int ((nI la0) / 2)), (2, .int (nI i7))] [] (eI f s7) (eJ f J) R n g) (B_X12_half_l7 a0 la0 I J) (((nI la0) / 2).toNatClampNeg) (I) ?_ ?_
  · show WK K 0 0 7 [(0, .ref a0), (1, .int ((nI la0) / 2)), (2, .int (nI (((nI la0) / 2).toNatClampNeg)))] [] (eI f (F_X12_half_l7 a0 la0 I J I)) (eJ f J) R n g
    have e1 : ((nI la0) / 2) ≤ (nI (((nI la0) / 2).toNatClampNeg)) := cnt_ge _
    refine w_iload_n ok dX12_half_7 2 rfl ?_
    refine w_iload_n ok dX12_half_8 1 rfl ?_
    refine w_icmp_ge (tgt := 26) ok dX12_half_9 (by decide) (fun _ => ?_) (fun h => absurd e1 h)
    exact w_vret ok fin dX12_half_26 rfl (by unfold FI_X12_half; exact Pd.i)
  · intro i7 s7 hi7 hs7 k7
    show WK K 0 0 7 [(0, .ref a0), (1, .int ((nI la0) / 2)), (2, .int (nI i7))] [] (eI f s7) (eJ f J) R n g
    have e2 : ¬ (((nI la0) / 2) ≤ (nI i7)) := cnt_lt hi7
    refine w_iload_n ok dX12_half_7 2 rfl ?_
    refine w_iload_n ok dX12_half_8 1 rfl ?_
    refine w_icmp_ge (tgt := 26) ok dX12_half_9 (by decide) (fun h => absurd h e2) (fun _ => ?_)
    refine w_aload_n ok dX12_half_12 0 rfl ?_
    refine w_iload_n ok dX12_half_13 2 rfl ?_
    refine w_aload_n ok dX12_half_14 0 rfl ?_
    refine w_iload_n ok dX12_half_15 1 rfl ?_
    refine w_iload_n ok dX12_half_16 2 rfl ?_
    refine w_iadd ok dX12_half_17 ?_
    refine y_iald (q := (((nI la0) / 2) + (nI i7)).toNatClampNeg) ok dX12_half_18 hsa0 (hp1 i7 s7 hi7 hs7) hlen hka0 hda0 ?_
    refine y_iast (q := (nI i7).toNatClampNeg) ok dX12_half_19 hsa0 (hp2 i7 s7 hi7 hs7) hlen hka0 hda0 ?_
    show WK K 0 0 20 [(0, .ref a0), (1, .int ((nI la0) / 2)), (2, .int (nI i7))] [] (eI f (S1_X12_half a0 la0 I J i7 s7)) (eJ f J) R n g
    refine w_iinc (v := (nI i7) + 1) ok dX12_half_20 2 rfl rfl (by decide) rfl ?_
    refine w_goto (tgt := 7) ok dX12_half_23 (by decide) ?_
    have eB : B_X12_half_l7 a0 la0 I J i7 s7 = (S1_X12_half a0 la0 I J i7 s7) := by
      unfold B_X12_half_l7; exact rfl
    have kk := k7
    rw [eB] at kk
    refine w_loc [1, 2, 0] rfl ?_
    rw [nI_1 i7]
    exact kk
def F_X12_fault (a0 : Int32) (I : SI) (J : SJ) : Int32 := if a0 = 0 then (u2 I 130 0 0) 130 32 else (if a0 = 1 then (u2 I 130 0 0) 130 33 else -1)
def FI_X12_fault (a0 : Int32) (I : SI) (J : SJ) : SI := if a0 = 0 then u2 I 130 0 0 else (if a0 = 1 then u2 I 130 0 0 else u2 I 130 0 0)
set_option maxHeartbeats 1000000 in
set_option maxRecDepth 40000 in
theorem c_X12_fault {I : SI} {J : SJ} {R : SR} {n g : Nat} {f : Fr} (ro : RM R) (hnn : nM ≤ n) (hf : f.1 = false) (a0 : Int32)   : MM 0 0 0 mX12_fault [.ref 130, .int a0] (eI f I) (eJ f J) R n g (Pd (some (.int (F_X12_fault a0 I J))) (eI f (FI_X12_fault a0 I J)) (eJ f J) R n g) := by
  refine MM.of (by decide) (Nat.le_of_ble_eq_true rfl) fun K ok fin => ?_
  show WK K 0 0 0 [(0, .ref 130), (1, .int a0)] [] (eI f I) (eJ f J) R n g
  refine w_aload_n ok dX12_fault_0 0 rfl ?_
  refine w_iconst (v := 0) ok dX12_fault_1 (by decide) ?_
  refine y_putI ok dX12_fault_2 (fwX12_169 rfl) (congrArg Prod.fst s_130) rfl (ltM hnn (by decide)) (sdm hf (by decide)) ?_
  refine w_iload_n ok dX12_fault_5 1 rfl ?_
  refine w_if_ne (tgt := 16) ok dX12_fault_6 (by decide) (fun c1 => ?_) (fun c1 => ?_)
  · skip
    refine w_iload_n ok dX12_fault_16 1 rfl ?_
    refine w_iconst (v := 1) ok dX12_fault_17 (by decide) ?_
    refine w_icmp_ne (tgt := 28) ok dX12_fault_18 (by decide) (fun c2 => ?_) (fun c2 => ?_)
    · skip
      refine w_iconst (v := (-1)) ok dX12_fault_28 (by decide) ?_
      exact w_iret ok fin dX12_fault_29 rfl (by unfold F_X12_fault FI_X12_fault; simp only [if_neg c1]; simp only [if_neg c2]; exact Pd.i)
    · skip
      refine w_aload_n ok dX12_fault_21 0 rfl ?_
      refine y_getI ok dX12_fault_22 (fX12_73 rfl) (congrArg Prod.fst s_130) rfl (ltM hnn (by decide)) (sdm hf (by decide)) ?_
      refine w_goto (tgt := 29) ok dX12_fault_25 (by decide) ?_
      exact w_iret ok fin dX12_fault_29 rfl (by unfold F_X12_fault FI_X12_fault; simp only [if_neg c1]; simp only [if_pos c2]; exact Pd.i)
  · skip
    refine w_aload_n ok dX12_fault_9 0 rfl ?_
    refine y_getI ok dX12_fault_10 (fX12_321 rfl) (congrArg Prod.fst s_130) rfl (ltM hnn (by decide)) (sdm hf (by decide)) ?_
    refine w_goto (tgt := 29) ok dX12_fault_13 (by decide) ?_
    exact w_iret ok fin dX12_fault_29 rfl (by unfold F_X12_fault FI_X12_fault; simp only [if_pos c1]; exact Pd.i)
def F_X12_named (a0 : Int32) (a1 : Int32) (I : SI) (J : SJ) : Int32 := if a0 = 0 then F_X12_found 133 12 0 ((u2 I 130 0 0) 132 0) a1 (u2 I 130 0 0) J else (if a0 = 1 then F_X12_found 136 16 0 ((u2 I 130 0 0) 132 1) a1 (u2 I 130 0 0) J else (if a0 = 2 then F_X12_found 140 8 0 ((u2 I 130 0 0) 132 3) a1 (u2 I 130 0 0) J else (if a0 = 3 then F_X12_found 144 8 0 ((u2 I 130 0 0) 132 4) a1 (u2 I 130 0 0) J else -1)))
def FI_X12_named (a0 : Int32) (a1 : Int32) (I : SI) (J : SJ) : SI := if a0 = 0 then u2 I 130 0 0 else (if a0 = 1 then u2 I 130 0 0 else (if a0 = 2 then u2 I 130 0 0 else (if a0 = 3 then u2 I 130 0 0 else u2 I 130 0 0)))
def H_X12_named (a0 : Int32) (a1 : Int32) (I : SI) (J : SJ) : Prop := (a0 = 0 → H_X12_found 133 12 0 ((u2 I 130 0 0) 132 0) a1 (u2 I 130 0 0) J) ∧ (¬ (a0 = 0) → a0 = 1 → H_X12_found 136 16 0 ((u2 I 130 0 0) 132 1) a1 (u2 I 130 0 0) J) ∧ (¬ (a0 = 0) → ¬ (a0 = 1) → a0 = 2 → H_X12_found 140 8 0 ((u2 I 130 0 0) 132 3) a1 (u2 I 130 0 0) J) ∧ (¬ (a0 = 0) → ¬ (a0 = 1) → ¬ (a0 = 2) → a0 = 3 → H_X12_found 144 8 0 ((u2 I 130 0 0) 132 4) a1 (u2 I 130 0 0) J)
set_option maxHeartbeats 1000000 in
set_option maxRecDepth 40000 in
theorem c_X12_named {I : SI} {J : SJ} {R : SR} {n g : Nat} {f : Fr} (ro : RM R) (hnn : nM ≤ n) (hf : f.1 = false) (a0 : Int32) (a1 : Int32)  (hp : H_X12_named a0 a1 I J) : MM 1 0 0 mX12_named [.ref 130, .int a0, .int a1] (eI f I) (eJ f J) R n g (Pd (some (.int (F_X12_named a0 a1 I J))) (eI f (FI_X12_named a0 a1 I J)) (eJ f J) R n g) := by
  refine MM.of (by decide) (Nat.le_of_ble_eq_true rfl) fun K ok fin => ?_
  show WK K 0 0 0 [(0, .ref 130), (1, .int a0), (2, .int a1)] [] (eI f I) (eJ f J) R n g
  obtain ⟨hp1, hp2, hp3, hp4⟩ := hp
  refine w_aload_n ok dX12_named_0 0 rfl ?_
  refine w_iconst (v := 0) ok dX12_named_1 (by decide) ?_
  refine y_putI ok dX12_named_2 (fwX12_169 rfl) (congrArg Prod.fst s_130) rfl (ltM hnn (by decide)) (sdm hf (by decide)) ?_
  refine w_iload_n ok dX12_named_5 1 rfl ?_
  by_cases c1 : a0 = 0
  · skip
    refine w_tabIn (tgt := 36) (off := 30) ok dX12_named_6 (by rw [c1]; decide) (by rw [c1]; decide) (by rw [c1]; rfl) (by decide) ?_
    refine w_aload_n ok dX12_named_36 0 rfl ?_
    refine w_getR ok dX12_named_37 (fX12_16 rfl) (congrArg Prod.fst s_130) rfl (r_130_4 ro) (ltM hnn (by decide)) ?_
    refine w_iconst (v := 0) ok dX12_named_40 (by decide) ?_
    refine w_aload_n ok dX12_named_41 0 rfl ?_
    refine w_getR ok dX12_named_42 (fX12_13 rfl) (congrArg Prod.fst s_130) rfl (r_130_3 ro) (ltM hnn (by decide)) ?_
    refine w_iconst (v := 0) ok dX12_named_45 (by decide) ?_
    refine y_iald (q := 0) ok dX12_named_46 s_132 (by decide) (by decide) (ltM hnn (by decide)) (sdm hf (by decide)) ?_
    refine w_iload_n ok dX12_named_47 2 rfl ?_
    refine w_cS (As := [.ref 133, .int 0, .int ((u2 I 130 0 0) 132 0), .int a1]) ok dX12_named_48 iX12_found (lX12_235 rfl) (c_X12_found ro hnn hf 0 ((u2 I 130 0 0) 132 0) a1 s_133 (ltM hnn (by decide)) (sdm hf (by decide)) (sh_len s_133) (hp1 c1)) (by decide) rfl (Nat.le_of_ble_eq_true rfl) ?_
    exact w_iret ok fin dX12_named_51 rfl (by unfold F_X12_named FI_X12_named; simp only [if_pos c1]; exact Pd.i)
  · skip
    by_cases c2 : a0 = 1
    · skip
      refine w_tabIn (tgt := 52) (off := 46) ok dX12_named_6 (by rw [c2]; decide) (by rw [c2]; decide) (by rw [c2]; rfl) (by decide) ?_
      refine w_aload_n ok dX12_named_52 0 rfl ?_
      refine w_getR ok dX12_named_53 (fX12_25 rfl) (congrArg Prod.fst s_130) rfl (r_130_7 ro) (ltM hnn (by decide)) ?_
      refine w_iconst (v := 0) ok dX12_named_56 (by decide) ?_
      refine w_aload_n ok dX12_named_57 0 rfl ?_
      refine w_getR ok dX12_named_58 (fX12_13 rfl) (congrArg Prod.fst s_130) rfl (r_130_3 ro) (ltM hnn (by decide)) ?_
      refine w_iconst (v := 1) ok dX12_named_61 (by decide) ?_
      refine y_iald (q := 1) ok dX12_named_62 s_132 (by decide) (by decide) (ltM hnn (by decide)) (sdm hf (by decide)) ?_
      refine w_iload_n ok dX12_named_63 2 rfl ?_
      refine w_cS (As := [.ref 136, .int 0, .int ((u2 I 130 0 0) 132 1), .int a1]) ok dX12_named_64 iX12_found (lX12_235 rfl) (c_X12_found ro hnn hf 0 ((u2 I 130 0 0) 132 1) a1 s_136 (ltM hnn (by decide)) (sdm hf (by decide)) (sh_len s_136) (hp2 c1 c2)) (by decide) rfl (Nat.le_of_ble_eq_true rfl) ?_
      exact w_iret ok fin dX12_named_67 rfl (by unfold F_X12_named FI_X12_named; simp only [if_neg c1]; simp only [if_pos c2]; exact Pd.i)
    · skip
      by_cases c3 : a0 = 2
      · skip
        refine w_tabIn (tgt := 68) (off := 62) ok dX12_named_6 (by rw [c3]; decide) (by rw [c3]; decide) (by rw [c3]; rfl) (by decide) ?_
        refine w_aload_n ok dX12_named_68 0 rfl ?_
        refine w_getR ok dX12_named_69 (fX12_37 rfl) (congrArg Prod.fst s_130) rfl (r_130_11 ro) (ltM hnn (by decide)) ?_
        refine w_iconst (v := 0) ok dX12_named_72 (by decide) ?_
        refine w_aload_n ok dX12_named_73 0 rfl ?_
        refine w_getR ok dX12_named_74 (fX12_13 rfl) (congrArg Prod.fst s_130) rfl (r_130_3 ro) (ltM hnn (by decide)) ?_
        refine w_iconst (v := 3) ok dX12_named_77 (by decide) ?_
        refine y_iald (q := 3) ok dX12_named_78 s_132 (by decide) (by decide) (ltM hnn (by decide)) (sdm hf (by decide)) ?_
        refine w_iload_n ok dX12_named_79 2 rfl ?_
        refine w_cS (As := [.ref 140, .int 0, .int ((u2 I 130 0 0) 132 3), .int a1]) ok dX12_named_80 iX12_found (lX12_235 rfl) (c_X12_found ro hnn hf 0 ((u2 I 130 0 0) 132 3) a1 s_140 (ltM hnn (by decide)) (sdm hf (by decide)) (sh_len s_140) (hp3 c1 c2 c3)) (by decide) rfl (Nat.le_of_ble_eq_true rfl) ?_
        exact w_iret ok fin dX12_named_83 rfl (by unfold F_X12_named FI_X12_named; simp only [if_neg c1]; simp only [if_neg c2]; simp only [if_pos c3]; exact Pd.i)
      · skip
        by_cases c4 : a0 = 3
        · skip
          refine w_tabIn (tgt := 84) (off := 78) ok dX12_named_6 (by rw [c4]; decide) (by rw [c4]; decide) (by rw [c4]; rfl) (by decide) ?_
          refine w_aload_n ok dX12_named_84 0 rfl ?_
          refine w_getR ok dX12_named_85 (fX12_49 rfl) (congrArg Prod.fst s_130) rfl (r_130_15 ro) (ltM hnn (by decide)) ?_
          refine w_iconst (v := 0) ok dX12_named_88 (by decide) ?_
          refine w_aload_n ok dX12_named_89 0 rfl ?_
          refine w_getR ok dX12_named_90 (fX12_13 rfl) (congrArg Prod.fst s_130) rfl (r_130_3 ro) (ltM hnn (by decide)) ?_
          refine w_iconst (v := 4) ok dX12_named_93 (by decide) ?_
          refine y_iald (q := 4) ok dX12_named_94 s_132 (by decide) (by decide) (ltM hnn (by decide)) (sdm hf (by decide)) ?_
          refine w_iload_n ok dX12_named_95 2 rfl ?_
          refine w_cS (As := [.ref 144, .int 0, .int ((u2 I 130 0 0) 132 4), .int a1]) ok dX12_named_96 iX12_found (lX12_235 rfl) (c_X12_found ro hnn hf 0 ((u2 I 130 0 0) 132 4) a1 s_144 (ltM hnn (by decide)) (sdm hf (by decide)) (sh_len s_144) (hp4 c1 c2 c3 c4)) (by decide) rfl (Nat.le_of_ble_eq_true rfl) ?_
          exact w_iret ok fin dX12_named_99 rfl (by unfold F_X12_named FI_X12_named; simp only [if_neg c1]; simp only [if_neg c2]; simp only [if_neg c3]; simp only [if_pos c4]; exact Pd.i)
        · skip
          have n5 : a0.toInt ≠ 0 := ne_toInt c1
          have n6 : a0.toInt ≠ 1 := ne_toInt c2
          have n7 : a0.toInt ≠ 2 := ne_toInt c3
          have n8 : a0.toInt ≠ 3 := ne_toInt c4
          refine w_tabOut (tgt := 100) ok dX12_named_6 (by omega) (by decide) ?_
          refine w_iconst (v := (-1)) ok dX12_named_100 (by decide) ?_
          exact w_iret ok fin dX12_named_101 rfl (by unfold F_X12_named FI_X12_named; simp only [if_neg c1]; simp only [if_neg c2]; simp only [if_neg c3]; simp only [if_neg c4]; exact Pd.i)
def F_X12_is (a0 : Int32) (I : SI) (J : SJ) : Int64 := if a0 = 0 then 0 else 1
set_option maxHeartbeats 1000000 in
set_option maxRecDepth 40000 in
theorem c_X12_is {I : SI} {J : SJ} {R : SR} {n g : Nat} {f : Fr} (ro : RM R) (hnn : nM ≤ n) (hf : f.1 = false) (a0 : Int32)   : MM 0 0 0 mX12_is [.int a0] (eI f I) (eJ f J) R n g (Pd (some (.long (F_X12_is a0 I J))) (eI f I) (eJ f J) R n g) := by
  refine MM.of (by decide) (Nat.le_of_ble_eq_true rfl) fun K ok fin => ?_
  show WK K 0 0 0 [(0, .int a0)] [] (eI f I) (eJ f J) R n g
  refine w_iload_n ok dX12_is_0 0 rfl ?_
  refine w_if_eq (tgt := 8) ok dX12_is_1 (by decide) (fun c1 => ?_) (fun c1 => ?_)
  · skip
    refine w_lconst (v := 0) ok dX12_is_8 (by decide) ?_
    exact w_lret ok fin dX12_is_9 rfl (by unfold F_X12_is; simp only [if_pos c1]; exact Pd.i)
  · skip
    refine w_lconst (v := 1) ok dX12_is_4 (by decide) ?_
    refine w_goto (tgt := 9) ok dX12_is_5 (by decide) ?_
    exact w_lret ok fin dX12_is_9 rfl (by unfold F_X12_is; simp only [if_neg c1]; exact Pd.i)
def S1_X12_works (a0 : Int32) (I : SI) (J : SJ) : SJ := u2 J 153 (((u2 I 130 38 ((I 130 38) - 1)) 130 38) - 1).toNatClampNeg ((J 153 ((I 130 38) - 2).toNatClampNeg) * (J 153 ((I 130 38) - 1).toNatClampNeg))
def S2_X12_works (a0 : Int32) (I : SI) (J : SJ) : Int32 := lg_cmp ((J 153 ((I 130 38) - 2).toNatClampNeg) * (J 153 ((I 130 38) - 1).toNatClampNeg)) 1000000000000
def S3_X12_works (a0 : Int32) (I : SI) (J : SJ) : Int32 := lg_cmp ((J 153 ((I 130 38) - 2).toNatClampNeg) * (J 153 ((I 130 38) - 1).toNatClampNeg)) (-1000000000000)
def S4_X12_works (a0 : Int32) (I : SI) (J : SJ) : Int32 := lg_cmp (absL (J 153 ((I 130 38) - 1).toNatClampNeg)) (1000000000000 / (absL (J 153 ((I 130 38) - 2).toNatClampNeg)))
def S5_X12_works (a0 : Int32) (I : SI) (J : SJ) : SJ := u2 J 153 (((u2 I 130 38 ((I 130 38) - 1)) 130 38) - 1).toNatClampNeg ((J 153 ((I 130 38) - 2).toNatClampNeg) * (J 153 ((I 130 38) - 1).toNatClampNeg))
def S6_X12_works (a0 : Int32) (I : SI) (J : SJ) : Int32 := lg_cmp ((J 153 ((I 130 38) - 2).toNatClampNeg) * (J 153 ((I 130 38) - 1).toNatClampNeg)) 1000000000000
def S7_X12_works (a0 : Int32) (I : SI) (J : SJ) : Int32 := lg_cmp ((J 153 ((I 130 38) - 2).toNatClampNeg) * (J 153 ((I 130 38) - 1).toNatClampNeg)) (-1000000000000)
def S8_X12_works (a0 : Int32) (I : SI) (J : SJ) : SJ := u2 J 153 (((u2 I 130 38 ((I 130 38) - 1)) 130 38) - 1).toNatClampNeg ((J 153 ((I 130 38) - 2).toNatClampNeg) + (J 153 ((I 130 38) - 1).toNatClampNeg))
def S9_X12_works (a0 : Int32) (I : SI) (J : SJ) : Int32 := lg_cmp ((J 153 ((I 130 38) - 2).toNatClampNeg) + (J 153 ((I 130 38) - 1).toNatClampNeg)) 1000000000000
def S10_X12_works (a0 : Int32) (I : SI) (J : SJ) : Int32 := lg_cmp ((J 153 ((I 130 38) - 2).toNatClampNeg) + (J 153 ((I 130 38) - 1).toNatClampNeg)) (-1000000000000)
def S11_X12_works (a0 : Int32) (I : SI) (J : SJ) : SJ := u2 J 153 (((u2 I 130 38 ((I 130 38) - 1)) 130 38) - 1).toNatClampNeg ((J 153 ((I 130 38) - 2).toNatClampNeg) - (J 153 ((I 130 38) - 1).toNatClampNeg))
def S12_X12_works (a0 : Int32) (I : SI) (J : SJ) : Int32 := lg_cmp ((J 153 ((I 130 38) - 2).toNatClampNeg) - (J 153 ((I 130 38) - 1).toNatClampNeg)) 1000000000000
def S13_X12_works (a0 : Int32) (I : SI) (J : SJ) : Int32 := lg_cmp ((J 153 ((I 130 38) - 2).toNatClampNeg) - (J 153 ((I 130 38) - 1).toNatClampNeg)) (-1000000000000)
def S14_X12_works (a0 : Int32) (I : SI) (J : SJ) : SJ := u2 J 153 (((u2 I 130 38 ((I 130 38) - 1)) 130 38) - 1).toNatClampNeg ((J 153 ((I 130 38) - 2).toNatClampNeg) / (J 153 ((I 130 38) - 1).toNatClampNeg))
def S15_X12_works (a0 : Int32) (I : SI) (J : SJ) : Int32 := lg_cmp ((J 153 ((I 130 38) - 2).toNatClampNeg) / (J 153 ((I 130 38) - 1).toNatClampNeg)) 1000000000000
def S16_X12_works (a0 : Int32) (I : SI) (J : SJ) : Int32 := lg_cmp ((J 153 ((I 130 38) - 2).toNatClampNeg) / (J 153 ((I 130 38) - 1).toNatClampNeg)) (-1000000000000)
def T_X12_works_j250 (a0 : Int32) (I : SI) (J : SJ) : Int32 := if (0 : Int32) ≤ (lg_cmp (J 153 ((I 130 38) - 2).toNatClampNeg) (J 153 ((I 130 38) - 1).toNatClampNeg)) then 0 else 1
def S17_X12_works (a0 : Int32) (I : SI) (J : SJ) : SJ := u2 J 153 (((u2 I 130 38 ((I 130 38) - 1)) 130 38) - 1).toNatClampNeg (F_X12_is (T_X12_works_j250 a0 I J) (u2 I 130 38 ((I 130 38) - 1)) J)
def S18_X12_works (a0 : Int32) (I : SI) (J : SJ) : Int32 := lg_cmp (F_X12_is (T_X12_works_j250 a0 I J) (u2 I 130 38 ((I 130 38) - 1)) J) (-1000000000000)
def T_X12_works_j290 (a0 : Int32) (I : SI) (J : SJ) : Int32 := if (lg_cmp (J 153 ((I 130 38) - 2).toNatClampNeg) (J 153 ((I 130 38) - 1).toNatClampNeg)) = 0 then 1 else 0
def S19_X12_works (a0 : Int32) (I : SI) (J : SJ) : SJ := u2 J 153 (((u2 I 130 38 ((I 130 38) - 1)) 130 38) - 1).toNatClampNeg (F_X12_is (T_X12_works_j290 a0 I J) (u2 I 130 38 ((I 130 38) - 1)) J)
def S20_X12_works (a0 : Int32) (I : SI) (J : SJ) : Int32 := lg_cmp (F_X12_is (T_X12_works_j290 a0 I J) (u2 I 130 38 ((I 130 38) - 1)) J) (-1000000000000)
def T_X12_works_j270 (a0 : Int32) (I : SI) (J : SJ) : Int32 := if (lg_cmp (J 153 ((I 130 38) - 2).toNatClampNeg) (J 153 ((I 130 38) - 1).toNatClampNeg)) ≤ 0 then 0 else 1
def S21_X12_works (a0 : Int32) (I : SI) (J : SJ) : SJ := u2 J 153 (((u2 I 130 38 ((I 130 38) - 1)) 130 38) - 1).toNatClampNeg (F_X12_is (T_X12_works_j270 a0 I J) (u2 I 130 38 ((I 130 38) - 1)) J)
def S22_X12_works (a0 : Int32) (I : SI) (J : SJ) : Int32 := lg_cmp (F_X12_is (T_X12_works_j270 a0 I J) (u2 I 130 38 ((I 130 38) - 1)) J) (-1000000000000)
def T_X12_works_j310 (a0 : Int32) (I : SI) (J : SJ) : Int32 := if (0 : Int32) < (lg_cmp (J 153 ((I 130 38) - 2).toNatClampNeg) (J 153 ((I 130 38) - 1).toNatClampNeg)) then 0 else 1
def S23_X12_works (a0 : Int32) (I : SI) (J : SJ) : SJ := u2 J 153 (((u2 I 130 38 ((I 130 38) - 1)) 130 38) - 1).toNatClampNeg (F_X12_is (T_X12_works_j310 a0 I J) (u2 I 130 38 ((I 130 38) - 1)) J)
def S24_X12_works (a0 : Int32) (I : SI) (J : SJ) : Int32 := lg_cmp (F_X12_is (T_X12_works_j310 a0 I J) (u2 I 130 38 ((I 130 38) - 1)) J) (-1000000000000)
def T_X12_works_j350 (a0 : Int32) (I : SI) (J : SJ) : Int32 := if (lg_cmp (J 153 ((I 130 38) - 2).toNatClampNeg) (J 153 ((I 130 38) - 1).toNatClampNeg)) = 0 then 0 else 1
def S25_X12_works (a0 : Int32) (I : SI) (J : SJ) : SJ := u2 J 153 (((u2 I 130 38 ((I 130 38) - 1)) 130 38) - 1).toNatClampNeg (F_X12_is (T_X12_works_j350 a0 I J) (u2 I 130 38 ((I 130 38) - 1)) J)
def S26_X12_works (a0 : Int32) (I : SI) (J : SJ) : Int32 := lg_cmp (F_X12_is (T_X12_works_j350 a0 I J) (u2 I 130 38 ((I 130 38) - 1)) J) (-1000000000000)
def T_X12_works_j330 (a0 : Int32) (I : SI) (J : SJ) : Int32 := if (lg_cmp (J 153 ((I 130 38) - 2).toNatClampNeg) (J 153 ((I 130 38) - 1).toNatClampNeg)) < 0 then 0 else 1
def S27_X12_works (a0 : Int32) (I : SI) (J : SJ) : SJ := u2 J 153 (((u2 I 130 38 ((I 130 38) - 1)) 130 38) - 1).toNatClampNeg (F_X12_is (T_X12_works_j330 a0 I J) (u2 I 130 38 ((I 130 38) - 1)) J)
def S28_X12_works (a0 : Int32) (I : SI) (J : SJ) : Int32 := lg_cmp (F_X12_is (T_X12_works_j330 a0 I J) (u2 I 130 38 ((I 130 38) - 1)) J) (-1000000000000)
def T_X12_works_j376 (a0 : Int32) (I : SI) (J : SJ) : Int32 := if (lg_cmp (J 153 ((I 130 38) - 2).toNatClampNeg) 0) = 0 then 0 else (if (lg_cmp (J 153 ((I 130 38) - 1).toNatClampNeg) 0) = 0 then 0 else 1)
def S29_X12_works (a0 : Int32) (I : SI) (J : SJ) : SJ := u2 J 153 (((u2 I 130 38 ((I 130 38) - 1)) 130 38) - 1).toNatClampNeg (F_X12_is (T_X12_works_j376 a0 I J) (u2 I 130 38 ((I 130 38) - 1)) J)
def S30_X12_works (a0 : Int32) (I : SI) (J : SJ) : Int32 := lg_cmp (F_X12_is (T_X12_works_j376 a0 I J) (u2 I 130 38 ((I 130 38) - 1)) J) (-1000000000000)
def T_X12_works_j402 (a0 : Int32) (I : SI) (J : SJ) : Int32 := if (lg_cmp (J 153 ((I 130 38) - 2).toNatClampNeg) 0) = 0 then (if (lg_cmp (J 153 ((I 130 38) - 1).toNatClampNeg) 0) = 0 then 0 else 1) else 1
def S31_X12_works (a0 : Int32) (I : SI) (J : SJ) : SJ := u2 J 153 (((u2 I 130 38 ((I 130 38) - 1)) 130 38) - 1).toNatClampNeg (F_X12_is (T_X12_works_j402 a0 I J) (u2 I 130 38 ((I 130 38) - 1)) J)
def S32_X12_works (a0 : Int32) (I : SI) (J : SJ) : Int32 := lg_cmp (F_X12_is (T_X12_works_j402 a0 I J) (u2 I 130 38 ((I 130 38) - 1)) J) (-1000000000000)
def F_X12_works (a0 : Int32) (I : SI) (J : SJ) : Int32 := if a0 = 260 then (if (lg_cmp (J 153 ((I 130 38) - 1).toNatClampNeg) 0) = 0 then 1 else 1) else (if a0 = 42 then (if (lg_cmp (J 153 ((I 130 38) - 2).toNatClampNeg) 0) = 0 then (if (0 : Int32) < (S2_X12_works a0 I J) then 0 else (if (S3_X12_works a0 I J) < 0 then 0 else 1)) else (if (S4_X12_works a0 I J) ≤ 0 then (if (0 : Int32) < (S6_X12_works a0 I J) then 0 else (if (S7_X12_works a0 I J) < 0 then 0 else 1)) else 0)) else (if a0 = 43 then (if (0 : Int32) < (S9_X12_works a0 I J) then 0 else (if (S10_X12_works a0 I J) < 0 then 0 else 1)) else (if a0 = 45 then (if (0 : Int32) < (S12_X12_works a0 I J) then 0 else (if (S13_X12_works a0 I J) < 0 then 0 else 1)) else (if a0 = 47 then (if (lg_cmp (J 153 ((I 130 38) - 1).toNatClampNeg) 0) = 0 then 0 else (if (0 : Int32) < (S15_X12_works a0 I J) then 0 else (if (S16_X12_works a0 I J) < 0 then 0 else 1))) else (if a0 = 60 then (if (0 : Int32) < (lg_cmp (F_X12_is (T_X12_works_j250 a0 I J) (u2 I 130 38 ((I 130 38) - 1)) J) 1000000000000) then 0 else (if (S18_X12_works a0 I J) < 0 then 0 else 1)) else (if a0 = 61 then (if (0 : Int32) < (lg_cmp (F_X12_is (T_X12_works_j290 a0 I J) (u2 I 130 38 ((I 130 38) - 1)) J) 1000000000000) then 0 else (if (S20_X12_works a0 I J) < 0 then 0 else 1)) else (if a0 = 62 then (if (0 : Int32) < (lg_cmp (F_X12_is (T_X12_works_j270 a0 I J) (u2 I 130 38 ((I 130 38) - 1)) J) 1000000000000) then 0 else (if (S22_X12_works a0 I J) < 0 then 0 else 1)) else (if a0 = 256 then (if (0 : Int32) < (lg_cmp (F_X12_is (T_X12_works_j310 a0 I J) (u2 I 130 38 ((I 130 38) - 1)) J) 1000000000000) then 0 else (if (S24_X12_works a0 I J) < 0 then 0 else 1)) else (if a0 = 257 then (if (0 : Int32) < (lg_cmp (F_X12_is (T_X12_works_j350 a0 I J) (u2 I 130 38 ((I 130 38) - 1)) J) 1000000000000) then 0 else (if (S26_X12_works a0 I J) < 0 then 0 else 1)) else (if a0 = 258 then (if (0 : Int32) < (lg_cmp (F_X12_is (T_X12_works_j330 a0 I J) (u2 I 130 38 ((I 130 38) - 1)) J) 1000000000000) then 0 else (if (S28_X12_works a0 I J) < 0 then 0 else 1)) else (if a0 = 261 then (if (0 : Int32) < (lg_cmp (F_X12_is (T_X12_works_j376 a0 I J) (u2 I 130 38 ((I 130 38) - 1)) J) 1000000000000) then 0 else (if (S30_X12_works a0 I J) < 0 then 0 else 1)) else (if (0 : Int32) < (lg_cmp (F_X12_is (T_X12_works_j402 a0 I J) (u2 I 130 38 ((I 130 38) - 1)) J) 1000000000000) then 0 else (if (S32_X12_works a0 I J) < 0 then 0 else 1)))))))))))))
def FI_X12_works (a0 : Int32) (I : SI) (J : SJ) : SI := if a0 = 260 then (if (lg_cmp (J 153 ((I 130 38) - 1).toNatClampNeg) 0) = 0 then I else I) else (if a0 = 42 then (if (lg_cmp (J 153 ((I 130 38) - 2).toNatClampNeg) 0) = 0 then (if (0 : Int32) < (S2_X12_works a0 I J) then u2 I 130 38 ((I 130 38) - 1) else (if (S3_X12_works a0 I J) < 0 then u2 I 130 38 ((I 130 38) - 1) else u2 I 130 38 ((I 130 38) - 1))) else (if (S4_X12_works a0 I J) ≤ 0 then (if (0 : Int32) < (S6_X12_works a0 I J) then u2 I 130 38 ((I 130 38) - 1) else (if (S7_X12_works a0 I J) < 0 then u2 I 130 38 ((I 130 38) - 1) else u2 I 130 38 ((I 130 38) - 1))) else u2 I 130 38 ((I 130 38) - 1))) else (if a0 = 43 then (if (0 : Int32) < (S9_X12_works a0 I J) then u2 I 130 38 ((I 130 38) - 1) else (if (S10_X12_works a0 I J) < 0 then u2 I 130 38 ((I 130 38) - 1) else u2 I 130 38 ((I 130 38) - 1))) else (if a0 = 45 then (if (0 : Int32) < (S12_X12_works a0 I J) then u2 I 130 38 ((I 130 38) - 1) else (if (S13_X12_works a0 I J) < 0 then u2 I 130 38 ((I 130 38) - 1) else u2 I 130 38 ((I 130 38) - 1))) else (if a0 = 47 then (if (lg_cmp (J 153 ((I 130 38) - 1).toNatClampNeg) 0) = 0 then u2 I 130 38 ((I 130 38) - 1) else (if (0 : Int32) < (S15_X12_works a0 I J) then u2 I 130 38 ((I 130 38) - 1) else (if (S16_X12_works a0 I J) < 0 then u2 I 130 38 ((I 130 38) - 1) else u2 I 130 38 ((I 130 38) - 1)))) else (if a0 = 60 then (if (0 : Int32) < (lg_cmp (F_X12_is (T_X12_works_j250 a0 I J) (u2 I 130 38 ((I 130 38) - 1)) J) 1000000000000) then u2 I 130 38 ((I 130 38) - 1) else (if (S18_X12_works a0 I J) < 0 then u2 I 130 38 ((I 130 38) - 1) else u2 I 130 38 ((I 130 38) - 1))) else (if a0 = 61 then (if (0 : Int32) < (lg_cmp (F_X12_is (T_X12_works_j290 a0 I J) (u2 I 130 38 ((I 130 38) - 1)) J) 1000000000000) then u2 I 130 38 ((I 130 38) - 1) else (if (S20_X12_works a0 I J) < 0 then u2 I 130 38 ((I 130 38) - 1) else u2 I 130 38 ((I 130 38) - 1))) else (if a0 = 62 then (if (0 : Int32) < (lg_cmp (F_X12_is (T_X12_works_j270 a0 I J) (u2 I 130 38 ((I 130 38) - 1)) J) 1000000000000) then u2 I 130 38 ((I 130 38) - 1) else (if (S22_X12_works a0 I J) < 0 then u2 I 130 38 ((I 130 38) - 1) else u2 I 130 38 ((I 130 38) - 1))) else (if a0 = 256 then (if (0 : Int32) < (lg_cmp (F_X12_is (T_X12_works_j310 a0 I J) (u2 I 130 38 ((I 130 38) - 1)) J) 1000000000000) then u2 I 130 38 ((I 130 38) - 1) else (if (S24_X12_works a0 I J) < 0 then u2 I 130 38 ((I 130 38) - 1) else u2 I 130 38 ((I 130 38) - 1))) else (if a0 = 257 then (if (0 : Int32) < (lg_cmp (F_X12_is (T_X12_works_j350 a0 I J) (u2 I 130 38 ((I 130 38) - 1)) J) 1000000000000) then u2 I 130 38 ((I 130 38) - 1) else (if (S26_X12_works a0 I J) < 0 then u2 I 130 38 ((I 130 38) - 1) else u2 I 130 38 ((I 130 38) - 1))) else (if a0 = 258 then (if (0 : Int32) < (lg_cmp (F_X12_is (T_X12_works_j330 a0 I J) (u2 I 130 38 ((I 130 38) - 1)) J) 1000000000000) then u2 I 130 38 ((I 130 38) - 1) else (if (S28_X12_works a0 I J) < 0 then u2 I 130 38 ((I 130 38) - 1) else u2 I 130 38 ((I 130 38) - 1))) else (if a0 = 261 then (if (0 : Int32) < (lg_cmp (F_X12_is (T_X12_works_j376 a0 I J) (u2 I 130 38 ((I 130 38) - 1)) J) 1000000000000) then u2 I 130 38 ((I 130 38) - 1) else (if (S30_X12_works a0 I J) < 0 then u2 I 130 38 ((I 130 38) - 1) else u2 I 130 38 ((I 130 38) - 1))) else (if (0 : Int32) < (lg_cmp (F_X12_is (T_X12_works_j402 a0 I J) (u2 I 130 38 ((I 130 38) - 1)) J) 1000000000000) then u2 I 130 38 ((I 130 38) - 1) else (if (S32_X12_works a0 I J) < 0 then u2 I 130 38 ((I 130 38) - 1) else u2 I 130 38 ((I 130 38) - 1))))))))))))))
def FJ_X12_works (a0 : Int32) (I : SI) (J : SJ) : SJ := if a0 = 260 then (if (lg_cmp (J 153 ((I 130 38) - 1).toNatClampNeg) 0) = 0 then u2 J 153 ((I 130 38) - 1).toNatClampNeg (F_X12_is 1 I J) else u2 J 153 ((I 130 38) - 1).toNatClampNeg (F_X12_is 0 I J)) else (if a0 = 42 then (if (lg_cmp (J 153 ((I 130 38) - 2).toNatClampNeg) 0) = 0 then (if (0 : Int32) < (S2_X12_works a0 I J) then (S1_X12_works a0 I J) else (if (S3_X12_works a0 I J) < 0 then (S1_X12_works a0 I J) else (S1_X12_works a0 I J))) else (if (S4_X12_works a0 I J) ≤ 0 then (if (0 : Int32) < (S6_X12_works a0 I J) then (S5_X12_works a0 I J) else (if (S7_X12_works a0 I J) < 0 then (S5_X12_works a0 I J) else (S5_X12_works a0 I J))) else J)) else (if a0 = 43 then (if (0 : Int32) < (S9_X12_works a0 I J) then (S8_X12_works a0 I J) else (if (S10_X12_works a0 I J) < 0 then (S8_X12_works a0 I J) else (S8_X12_works a0 I J))) else (if a0 = 45 then (if (0 : Int32) < (S12_X12_works a0 I J) then (S11_X12_works a0 I J) else (if (S13_X12_works a0 I J) < 0 then (S11_X12_works a0 I J) else (S11_X12_works a0 I J))) else (if a0 = 47 then (if (lg_cmp (J 153 ((I 130 38) - 1).toNatClampNeg) 0) = 0 then J else (if (0 : Int32) < (S15_X12_works a0 I J) then (S14_X12_works a0 I J) else (if (S16_X12_works a0 I J) < 0 then (S14_X12_works a0 I J) else (S14_X12_works a0 I J)))) else (if a0 = 60 then (if (0 : Int32) < (lg_cmp (F_X12_is (T_X12_works_j250 a0 I J) (u2 I 130 38 ((I 130 38) - 1)) J) 1000000000000) then (S17_X12_works a0 I J) else (if (S18_X12_works a0 I J) < 0 then (S17_X12_works a0 I J) else (S17_X12_works a0 I J))) else (if a0 = 61 then (if (0 : Int32) < (lg_cmp (F_X12_is (T_X12_works_j290 a0 I J) (u2 I 130 38 ((I 130 38) - 1)) J) 1000000000000) then (S19_X12_works a0 I J) else (if (S20_X12_works a0 I J) < 0 then (S19_X12_works a0 I J) else (S19_X12_works a0 I J))) else (if a0 = 62 then (if (0 : Int32) < (lg_cmp (F_X12_is (T_X12_works_j270 a0 I J) (u2 I 130 38 ((I 130 38) - 1)) J) 1000000000000) then (S21_X12_works a0 I J) else (if (S22_X12_works a0 I J) < 0 then (S21_X12_works a0 I J) else (S21_X12_works a0 I J))) else (if a0 = 256 then (if (0 : Int32) < (lg_cmp (F_X12_is (T_X12_works_j310 a0 I J) (u2 I 130 38 ((I 130 38) - 1)) J) 1000000000000) then (S23_X12_works a0 I J) else (if (S24_X12_works a0 I J) < 0 then (S23_X12_works a0 I J) else (S23_X12_works a0 I J))) else (if a0 = 257 then (if (0 : Int32) < (lg_cmp (F_X12_is (T_X12_works_j350 a0 I J) (u2 I 130 38 ((I 130 38) - 1)) J) 1000000000000) then (S25_X12_works a0 I J) else (if (S26_X12_works a0 I J) < 0 then (S25_X12_works a0 I J) else (S25_X12_works a0 I J))) else (if a0 = 258 then (if (0 : Int32) < (lg_cmp (F_X12_is (T_X12_works_j330 a0 I J) (u2 I 130 38 ((I 130 38) - 1)) J) 1000000000000) then (S27_X12_works a0 I J) else (if (S28_X12_works a0 I J) < 0 then (S27_X12_works a0 I J) else (S27_X12_works a0 I J))) else (if a0 = 261 then (if (0 : Int32) < (lg_cmp (F_X12_is (T_X12_works_j376 a0 I J) (u2 I 130 38 ((I 130 38) - 1)) J) 1000000000000) then (S29_X12_works a0 I J) else (if (S30_X12_works a0 I J) < 0 then (S29_X12_works a0 I J) else (S29_X12_works a0 I J))) else (if (0 : Int32) < (lg_cmp (F_X12_is (T_X12_works_j402 a0 I J) (u2 I 130 38 ((I 130 38) - 1)) J) 1000000000000) then (S31_X12_works a0 I J) else (if (S32_X12_works a0 I J) < 0 then (S31_X12_works a0 I J) else (S31_X12_works a0 I J))))))))))))))
def H_X12_works (a0 : Int32) (I : SI) (J : SJ) : Prop := (inR ((I 130 38) - 1) 64) ∧ (¬ (a0 = 260) → inR ((I 130 38) - 2) 64) ∧ (¬ (a0 = 260) → a0 = 42 → (lg_cmp (J 153 ((I 130 38) - 2).toNatClampNeg) 0) = 0 → inR (((u2 I 130 38 ((I 130 38) - 1)) 130 38) - 1) 64) ∧ (¬ (a0 = 260) → a0 = 42 → ¬ ((lg_cmp (J 153 ((I 130 38) - 2).toNatClampNeg) 0) = 0) → ¬ (absL (J 153 ((I 130 38) - 2).toNatClampNeg)) = 0) ∧ (¬ (a0 = 260) → a0 = 42 → ¬ ((lg_cmp (J 153 ((I 130 38) - 2).toNatClampNeg) 0) = 0) → (S4_X12_works a0 I J) ≤ 0 → inR (((u2 I 130 38 ((I 130 38) - 1)) 130 38) - 1) 64) ∧ (¬ (a0 = 260) → ¬ (a0 = 42) → a0 = 43 → inR (((u2 I 130 38 ((I 130 38) - 1)) 130 38) - 1) 64) ∧ (¬ (a0 = 260) → ¬ (a0 = 42) → ¬ (a0 = 43) → a0 = 45 → inR (((u2 I 130 38 ((I 130 38) - 1)) 130 38) - 1) 64) ∧ (¬ (a0 = 260) → ¬ (a0 = 42) → ¬ (a0 = 43) → ¬ (a0 = 45) → a0 = 47 → ¬ ((lg_cmp (J 153 ((I 130 38) - 1).toNatClampNeg) 0) = 0) → ¬ (J 153 ((I 130 38) - 1).toNatClampNeg) = 0) ∧ (¬ (a0 = 260) → ¬ (a0 = 42) → ¬ (a0 = 43) → ¬ (a0 = 45) → a0 = 47 → ¬ ((lg_cmp (J 153 ((I 130 38) - 1).toNatClampNeg) 0) = 0) → inR (((u2 I 130 38 ((I 130 38) - 1)) 130 38) - 1) 64) ∧ (¬ (a0 = 260) → ¬ (a0 = 42) → ¬ (a0 = 43) → ¬ (a0 = 45) → ¬ (a0 = 47) → a0 = 60 → inR (((u2 I 130 38 ((I 130 38) - 1)) 130 38) - 1) 64) ∧ (¬ (a0 = 260) → ¬ (a0 = 42) → ¬ (a0 = 43) → ¬ (a0 = 45) → ¬ (a0 = 47) → ¬ (a0 = 60) → a0 = 61 → inR (((u2 I 130 38 ((I 130 38) - 1)) 130 38) - 1) 64) ∧ (¬ (a0 = 260) → ¬ (a0 = 42) → ¬ (a0 = 43) → ¬ (a0 = 45) → ¬ (a0 = 47) → ¬ (a0 = 60) → ¬ (a0 = 61) → a0 = 62 → inR (((u2 I 130 38 ((I 130 38) - 1)) 130 38) - 1) 64) ∧ (¬ (a0 = 260) → ¬ (a0 = 42) → ¬ (a0 = 43) → ¬ (a0 = 45) → ¬ (a0 = 47) → ¬ (a0 = 60) → ¬ (a0 = 61) → ¬ (a0 = 62) → a0 = 256 → inR (((u2 I 130 38 ((I 130 38) - 1)) 130 38) - 1) 64) ∧ (¬ (a0 = 260) → ¬ (a0 = 42) → ¬ (a0 = 43) → ¬ (a0 = 45) → ¬ (a0 = 47) → ¬ (a0 = 60) → ¬ (a0 = 61) → ¬ (a0 = 62) → ¬ (a0 = 256) → a0 = 257 → inR (((u2 I 130 38 ((I 130 38) - 1)) 130 38) - 1) 64) ∧ (¬ (a0 = 260) → ¬ (a0 = 42) → ¬ (a0 = 43) → ¬ (a0 = 45) → ¬ (a0 = 47) → ¬ (a0 = 60) → ¬ (a0 = 61) → ¬ (a0 = 62) → ¬ (a0 = 256) → ¬ (a0 = 257) → a0 = 258 → inR (((u2 I 130 38 ((I 130 38) - 1)) 130 38) - 1) 64) ∧ (¬ (a0 = 260) → ¬ (a0 = 42) → ¬ (a0 = 43) → ¬ (a0 = 45) → ¬ (a0 = 47) → ¬ (a0 = 60) → ¬ (a0 = 61) → ¬ (a0 = 62) → ¬ (a0 = 256) → ¬ (a0 = 257) → ¬ (a0 = 258) → a0 = 261 → inR (((u2 I 130 38 ((I 130 38) - 1)) 130 38) - 1) 64) ∧ (¬ (a0 = 260) → ¬ (a0 = 42) → ¬ (a0 = 43) → ¬ (a0 = 45) → ¬ (a0 = 47) → ¬ (a0 = 60) → ¬ (a0 = 61) → ¬ (a0 = 62) → ¬ (a0 = 256) → ¬ (a0 = 257) → ¬ (a0 = 258) → ¬ (a0 = 261) → inR (((u2 I 130 38 ((I 130 38) - 1)) 130 38) - 1) 64) ∧ (a0 = 260 → ¬ ((lg_cmp (J 153 ((I 130 38) - 1).toNatClampNeg) 0) = 0) → inR ((I 130 38) - 1) 64) ∧ (a0 = 260 → (lg_cmp (J 153 ((I 130 38) - 1).toNatClampNeg) 0) = 0 → inR ((I 130 38) - 1) 64)
set_option maxHeartbeats 7710000 in
set_option maxRecDepth 40000 in
theorem c_X12_works {I : SI} {J : SJ} {R : SR} {n g : Nat} {f : Fr} (ro : RM R) (hnn : nM ≤ n) (hf : f.1 = false) (a0 : Int32)  (hp : H_X12_works a0 I J) : MM 1 0 0 mX12_works [.ref 130, .int a0] (eI f I) (eJ f J) R n g (Pd (some (.int (F_X12_works a0 I J))) (eI f (FI_X12_works a0 I J)) (eJ f (FJ_X12_works a0 I J)) R n g) := by
  refine MM.of (by decide) (Nat.le_of_ble_eq_true rfl) fun K ok fin => ?_
  show WK K 0 0 0 [(0, .ref 130), (1, .int a0)] [] (eI f I) (eJ f J) R n g
  obtain ⟨hp1, hp2, hp3, hp4, hp5, hp6, hp7, hp8, hp9, hp10, hp11, hp12, hp13, hp14, hp15, hp16, hp17, hp18, hp19⟩ := hp
  refine w_aload_n ok dX12_works_0 0 rfl ?_
  refine w_getR ok dX12_works_1 (fX12_81 rfl) (congrArg Prod.fst s_130) rfl (r_130_37 ro) (ltM hnn (by decide)) ?_
  refine w_aload_n ok dX12_works_4 0 rfl ?_
  refine y_getI ok dX12_works_5 (fX12_338 rfl) (congrArg Prod.fst s_130) rfl (ltM hnn (by decide)) (sdm hf (by decide)) ?_
  refine w_iconst (v := 1) ok dX12_works_8 (by decide) ?_
  refine w_isub ok dX12_works_9 ?_
  refine y_lald (q := ((I 130 38) - 1).toNatClampNeg) ok dX12_works_10 s_153 (hp1) (by decide) (ltM hnn (by decide)) (sdm hf (by decide)) ?_
  refine w_lstore_n ok dX12_works_11 rfl (by decide) rfl ?_
  refine w_iload_n ok dX12_works_12 2 rfl ?_
  refine w_sipush (v := 260) ok dX12_works_13 (by decide) ?_
  refine w_icmp_ne (tgt := 46) ok dX12_works_16 (by decide) (fun c1 => ?_) (fun c1 => ?_)
  · skip
    refine w_aload_n ok dX12_works_46 1 rfl ?_
    refine w_getR ok dX12_works_47 (fX12_81 rfl) (congrArg Prod.fst s_130) rfl (r_130_37 ro) (ltM hnn (by decide)) ?_
    refine w_aload_n ok dX12_works_50 1 rfl ?_
    refine y_getI ok dX12_works_51 (fX12_338 rfl) (congrArg Prod.fst s_130) rfl (ltM hnn (by decide)) (sdm hf (by decide)) ?_
    refine w_iconst (v := 2) ok dX12_works_54 (by decide) ?_
    refine w_isub ok dX12_works_55 ?_
    refine y_lald (q := ((I 130 38) - 2).toNatClampNeg) ok dX12_works_56 s_153 (hp2 c1) (by decide) (ltM hnn (by decide)) (sdm hf (by decide)) ?_
    refine w_lstore ok dX12_works_57 (by decide) rfl ?_
    refine w_aload_n ok dX12_works_59 2 rfl ?_
    refine w_dup ok dX12_works_60 rfl ?_
    refine y_getI ok dX12_works_61 (fX12_338 rfl) (congrArg Prod.fst s_130) rfl (ltM hnn (by decide)) (sdm hf (by decide)) ?_
    refine w_iconst (v := 1) ok dX12_works_64 (by decide) ?_
    refine w_isub ok dX12_works_65 ?_
    refine y_putI ok dX12_works_66 (fwX12_338 rfl) (congrArg Prod.fst s_130) rfl (ltM hnn (by decide)) (sdm hf (by decide)) ?_
    refine w_iload_n ok dX12_works_69 3 rfl ?_
    by_cases c2 : a0 = 42
    · skip
      refine w_lkp (tgt := 186) (off := 116) ok dX12_works_70 (by decide) (by rw [c2]; rfl) (by decide) ?_
      refine w_lload ok dX12_works_186 0 rfl ?_
      refine w_lconst (v := 0) ok dX12_works_188 (by decide) ?_
      refine w_lcmp ok dX12_works_189 ?_
      refine w_if_eq (tgt := 212) ok dX12_works_190 (by decide) (fun c3 => ?_) (fun c3 => ?_)
      · skip
        refine w_lload ok dX12_works_212 0 rfl ?_
        refine w_lload_n ok dX12_works_214 1 rfl ?_
        refine w_lmul ok dX12_works_215 ?_
        refine w_lstore ok dX12_works_216 (by decide) rfl ?_
        refine w_goto (tgt := 407) ok dX12_works_218 (by decide) ?_
        refine w_aload_n ok dX12_works_407 3 rfl ?_
        refine w_getR ok dX12_works_408 (fX12_81 rfl) (congrArg Prod.fst s_130) rfl (r_130_37 ro) (ltM hnn (by decide)) ?_
        refine w_aload_n ok dX12_works_411 3 rfl ?_
        refine y_getI ok dX12_works_412 (fX12_338 rfl) (congrArg Prod.fst s_130) rfl (ltM hnn (by decide)) (sdm hf (by decide)) ?_
        refine w_iconst (v := 1) ok dX12_works_415 (by decide) ?_
        refine w_isub ok dX12_works_416 ?_
        refine w_lload ok dX12_works_417 0 rfl ?_
        refine y_last (q := (((u2 I 130 38 ((I 130 38) - 1)) 130 38) - 1).toNatClampNeg) ok dX12_works_419 s_153 (hp3 c1 c2 c3) (by decide) (ltM hnn (by decide)) (sdm hf (by decide)) ?_
        show WK K 0 0 420 [(6, .long ((J 153 ((I 130 38) - 2).toNatClampNeg) * (J 153 ((I 130 38) - 1).toNatClampNeg))), (4, .long (J 153 ((I 130 38) - 2).toNatClampNeg)), (2, .long (J 153 ((I 130 38) - 1).toNatClampNeg)), (0, .ref 130), (1, .int a0)] [] (eI f (u2 I 130 38 ((I 130 38) - 1))) (eJ f (S1_X12_works a0 I J)) R n g
        refine w_lload ok dX12_works_420 0 rfl ?_
        refine w_ldc2 ok dX12_works_422 kX12_351 ?_
        refine w_lcmp ok dX12_works_425 ?_
        show WK K 0 0 426 [(6, .long ((J 153 ((I 130 38) - 2).toNatClampNeg) * (J 153 ((I 130 38) - 1).toNatClampNeg))), (4, .long (J 153 ((I 130 38) - 2).toNatClampNeg)), (2, .long (J 153 ((I 130 38) - 1).toNatClampNeg)), (0, .ref 130), (1, .int a0)] [.int (S2_X12_works a0 I J)] (eI f (u2 I 130 38 ((I 130 38) - 1))) (eJ f (S1_X12_works a0 I J)) R n g
        refine w_if_gt (tgt := 442) ok dX12_works_426 (by decide) (fun c4 => ?_) (fun c4 => ?_)
        · skip
          refine w_iconst (v := 0) ok dX12_works_442 (by decide) ?_
          exact w_zret ok fin dX12_works_443 rfl (by decide) (by unfold F_X12_works FI_X12_works FJ_X12_works; simp only [if_neg c1]; simp only [if_pos c2]; simp only [if_pos c3]; simp only [if_pos c4]; exact Pd.i)
        · skip
          refine w_lload ok dX12_works_429 0 rfl ?_
          refine w_ldc2 ok dX12_works_431 kX12_353 ?_
          refine w_lcmp ok dX12_works_434 ?_
          show WK K 0 0 435 [(6, .long ((J 153 ((I 130 38) - 2).toNatClampNeg) * (J 153 ((I 130 38) - 1).toNatClampNeg))), (4, .long (J 153 ((I 130 38) - 2).toNatClampNeg)), (2, .long (J 153 ((I 130 38) - 1).toNatClampNeg)), (0, .ref 130), (1, .int a0)] [.int (S3_X12_works a0 I J)] (eI f (u2 I 130 38 ((I 130 38) - 1))) (eJ f (S1_X12_works a0 I J)) R n g
          refine w_if_lt (tgt := 442) ok dX12_works_435 (by decide) (fun c5 => ?_) (fun c5 => ?_)
          · skip
            refine w_iconst (v := 0) ok dX12_works_442 (by decide) ?_
            exact w_zret ok fin dX12_works_443 rfl (by decide) (by unfold F_X12_works FI_X12_works FJ_X12_works; simp only [if_neg c1]; simp only [if_pos c2]; simp only [if_pos c3]; simp only [if_neg c4]; simp only [if_pos c5]; exact Pd.i)
          · skip
            refine w_iconst (v := 1) ok dX12_works_438 (by decide) ?_
            refine w_goto (tgt := 443) ok dX12_works_439 (by decide) ?_
            exact w_zret ok fin dX12_works_443 rfl (by decide) (by unfold F_X12_works FI_X12_works FJ_X12_works; simp only [if_neg c1]; simp only [if_pos c2]; simp only [if_pos c3]; simp only [if_neg c4]; simp only [if_neg c5]; exact Pd.i)
      · skip
        refine w_lload_n ok dX12_works_193 1 rfl ?_
        refine w_absL ok dX12_works_194 (iT_8 83 (by decide +kernel) (by decide +kernel)) (Nat.le_of_ble_eq_true rfl) ?_
        refine w_ldc2 ok dX12_works_197 kX12_351 ?_
        refine w_lload ok dX12_works_200 0 rfl ?_
        refine w_absL ok dX12_works_202 (iT_8 83 (by decide +kernel) (by decide +kernel)) (Nat.le_of_ble_eq_true rfl) ?_
        show WK K 0 0 205 [(4, .long (J 153 ((I 130 38) - 2).toNatClampNeg)), (2, .long (J 153 ((I 130 38) - 1).toNatClampNeg)), (0, .ref 130), (1, .int a0)] [.long (absL (J 153 ((I 130 38) - 2).toNatClampNeg)), .long 1000000000000, .long (absL (J 153 ((I 130 38) - 1).toNatClampNeg))] (eI f (u2 I 130 38 ((I 130 38) - 1))) (eJ f J) R n g
        refine w_ldiv ok dX12_works_205 (hp4 c1 c2 c3) ?_
        refine w_lcmp ok dX12_works_206 ?_
        show WK K 0 0 207 [(4, .long (J 153 ((I 130 38) - 2).toNatClampNeg)), (2, .long (J 153 ((I 130 38) - 1).toNatClampNeg)), (0, .ref 130), (1, .int a0)] [.int (S4_X12_works a0 I J)] (eI f (u2 I 130 38 ((I 130 38) - 1))) (eJ f J) R n g
        refine w_if_le (tgt := 212) ok dX12_works_207 (by decide) (fun c6 => ?_) (fun c6 => ?_)
        · skip
          refine w_lload ok dX12_works_212 0 rfl ?_
          refine w_lload_n ok dX12_works_214 1 rfl ?_
          refine w_lmul ok dX12_works_215 ?_
          refine w_lstore ok dX12_works_216 (by decide) rfl ?_
          refine w_goto (tgt := 407) ok dX12_works_218 (by decide) ?_
          refine w_aload_n ok dX12_works_407 3 rfl ?_
          refine w_getR ok dX12_works_408 (fX12_81 rfl) (congrArg Prod.fst s_130) rfl (r_130_37 ro) (ltM hnn (by decide)) ?_
          refine w_aload_n ok dX12_works_411 3 rfl ?_
          refine y_getI ok dX12_works_412 (fX12_338 rfl) (congrArg Prod.fst s_130) rfl (ltM hnn (by decide)) (sdm hf (by decide)) ?_
          refine w_iconst (v := 1) ok dX12_works_415 (by decide) ?_
          refine w_isub ok dX12_works_416 ?_
          refine w_lload ok dX12_works_417 0 rfl ?_
          refine y_last (q := (((u2 I 130 38 ((I 130 38) - 1)) 130 38) - 1).toNatClampNeg) ok dX12_works_419 s_153 (hp5 c1 c2 c3 c6) (by decide) (ltM hnn (by decide)) (sdm hf (by decide)) ?_
          show WK K 0 0 420 [(6, .long ((J 153 ((I 130 38) - 2).toNatClampNeg) * (J 153 ((I 130 38) - 1).toNatClampNeg))), (4, .long (J 153 ((I 130 38) - 2).toNatClampNeg)), (2, .long (J 153 ((I 130 38) - 1).toNatClampNeg)), (0, .ref 130), (1, .int a0)] [] (eI f (u2 I 130 38 ((I 130 38) - 1))) (eJ f (S5_X12_works a0 I J)) R n g
          refine w_lload ok dX12_works_420 0 rfl ?_
          refine w_ldc2 ok dX12_works_422 kX12_351 ?_
          refine w_lcmp ok dX12_works_425 ?_
          show WK K 0 0 426 [(6, .long ((J 153 ((I 130 38) - 2).toNatClampNeg) * (J 153 ((I 130 38) - 1).toNatClampNeg))), (4, .long (J 153 ((I 130 38) - 2).toNatClampNeg)), (2, .long (J 153 ((I 130 38) - 1).toNatClampNeg)), (0, .ref 130), (1, .int a0)] [.int (S6_X12_works a0 I J)] (eI f (u2 I 130 38 ((I 130 38) - 1))) (eJ f (S5_X12_works a0 I J)) R n g
          refine w_if_gt (tgt := 442) ok dX12_works_426 (by decide) (fun c7 => ?_) (fun c7 => ?_)
          · skip
            refine w_iconst (v := 0) ok dX12_works_442 (by decide) ?_
            exact w_zret ok fin dX12_works_443 rfl (by decide) (by unfold F_X12_works FI_X12_works FJ_X12_works; simp only [if_neg c1]; simp only [if_pos c2]; simp only [if_neg c3]; simp only [if_pos c6]; simp only [if_pos c7]; exact Pd.i)
          · skip
            refine w_lload ok dX12_works_429 0 rfl ?_
            refine w_ldc2 ok dX12_works_431 kX12_353 ?_
            refine w_lcmp ok dX12_works_434 ?_
            show WK K 0 0 435 [(6, .long ((J 153 ((I 130 38) - 2).toNatClampNeg) * (J 153 ((I 130 38) - 1).toNatClampNeg))), (4, .long (J 153 ((I 130 38) - 2).toNatClampNeg)), (2, .long (J 153 ((I 130 38) - 1).toNatClampNeg)), (0, .ref 130), (1, .int a0)] [.int (S7_X12_works a0 I J)] (eI f (u2 I 130 38 ((I 130 38) - 1))) (eJ f (S5_X12_works a0 I J)) R n g
            refine w_if_lt (tgt := 442) ok dX12_works_435 (by decide) (fun c8 => ?_) (fun c8 => ?_)
            · skip
              refine w_iconst (v := 0) ok dX12_works_442 (by decide) ?_
              exact w_zret ok fin dX12_works_443 rfl (by decide) (by unfold F_X12_works FI_X12_works FJ_X12_works; simp only [if_neg c1]; simp only [if_pos c2]; simp only [if_neg c3]; simp only [if_pos c6]; simp only [if_neg c7]; simp only [if_pos c8]; exact Pd.i)
            · skip
              refine w_iconst (v := 1) ok dX12_works_438 (by decide) ?_
              refine w_goto (tgt := 443) ok dX12_works_439 (by decide) ?_
              exact w_zret ok fin dX12_works_443 rfl (by decide) (by unfold F_X12_works FI_X12_works FJ_X12_works; simp only [if_neg c1]; simp only [if_pos c2]; simp only [if_neg c3]; simp only [if_pos c6]; simp only [if_neg c7]; simp only [if_neg c8]; exact Pd.i)
        · skip
          refine w_iconst (v := 0) ok dX12_works_210 (by decide) ?_
          exact w_zret ok fin dX12_works_211 rfl (by decide) (by unfold F_X12_works FI_X12_works FJ_X12_works; simp only [if_neg c1]; simp only [if_pos c2]; simp only [if_neg c3]; simp only [if_neg c6]; exact Pd.i)
    · skip
      by_cases c9 : a0 = 43
      · skip
        refine w_lkp (tgt := 168) (off := 98) ok dX12_works_70 (by decide) (by rw [c9]; rfl) (by decide) ?_
        refine w_lload ok dX12_works_168 0 rfl ?_
        refine w_lload_n ok dX12_works_170 1 rfl ?_
        refine w_ladd ok dX12_works_171 ?_
        refine w_lstore ok dX12_works_172 (by decide) rfl ?_
        refine w_goto (tgt := 407) ok dX12_works_174 (by decide) ?_
        refine w_aload_n ok dX12_works_407 3 rfl ?_
        refine w_getR ok dX12_works_408 (fX12_81 rfl) (congrArg Prod.fst s_130) rfl (r_130_37 ro) (ltM hnn (by decide)) ?_
        refine w_aload_n ok dX12_works_411 3 rfl ?_
        refine y_getI ok dX12_works_412 (fX12_338 rfl) (congrArg Prod.fst s_130) rfl (ltM hnn (by decide)) (sdm hf (by decide)) ?_
        refine w_iconst (v := 1) ok dX12_works_415 (by decide) ?_
        refine w_isub ok dX12_works_416 ?_
        refine w_lload ok dX12_works_417 0 rfl ?_
        refine y_last (q := (((u2 I 130 38 ((I 130 38) - 1)) 130 38) - 1).toNatClampNeg) ok dX12_works_419 s_153 (hp6 c1 c2 c9) (by decide) (ltM hnn (by decide)) (sdm hf (by decide)) ?_
        show WK K 0 0 420 [(6, .long ((J 153 ((I 130 38) - 2).toNatClampNeg) + (J 153 ((I 130 38) - 1).toNatClampNeg))), (4, .long (J 153 ((I 130 38) - 2).toNatClampNeg)), (2, .long (J 153 ((I 130 38) - 1).toNatClampNeg)), (0, .ref 130), (1, .int a0)] [] (eI f (u2 I 130 38 ((I 130 38) - 1))) (eJ f (S8_X12_works a0 I J)) R n g
        refine w_lload ok dX12_works_420 0 rfl ?_
        refine w_ldc2 ok dX12_works_422 kX12_351 ?_
        refine w_lcmp ok dX12_works_425 ?_
        show WK K 0 0 426 [(6, .long ((J 153 ((I 130 38) - 2).toNatClampNeg) + (J 153 ((I 130 38) - 1).toNatClampNeg))), (4, .long (J 153 ((I 130 38) - 2).toNatClampNeg)), (2, .long (J 153 ((I 130 38) - 1).toNatClampNeg)), (0, .ref 130), (1, .int a0)] [.int (S9_X12_works a0 I J)] (eI f (u2 I 130 38 ((I 130 38) - 1))) (eJ f (S8_X12_works a0 I J)) R n g
        refine w_if_gt (tgt := 442) ok dX12_works_426 (by decide) (fun c10 => ?_) (fun c10 => ?_)
        · skip
          refine w_iconst (v := 0) ok dX12_works_442 (by decide) ?_
          exact w_zret ok fin dX12_works_443 rfl (by decide) (by unfold F_X12_works FI_X12_works FJ_X12_works; simp only [if_neg c1]; simp only [if_neg c2]; simp only [if_pos c9]; simp only [if_pos c10]; exact Pd.i)
        · skip
          refine w_lload ok dX12_works_429 0 rfl ?_
          refine w_ldc2 ok dX12_works_431 kX12_353 ?_
          refine w_lcmp ok dX12_works_434 ?_
          show WK K 0 0 435 [(6, .long ((J 153 ((I 130 38) - 2).toNatClampNeg) + (J 153 ((I 130 38) - 1).toNatClampNeg))), (4, .long (J 153 ((I 130 38) - 2).toNatClampNeg)), (2, .long (J 153 ((I 130 38) - 1).toNatClampNeg)), (0, .ref 130), (1, .int a0)] [.int (S10_X12_works a0 I J)] (eI f (u2 I 130 38 ((I 130 38) - 1))) (eJ f (S8_X12_works a0 I J)) R n g
          refine w_if_lt (tgt := 442) ok dX12_works_435 (by decide) (fun c11 => ?_) (fun c11 => ?_)
          · skip
            refine w_iconst (v := 0) ok dX12_works_442 (by decide) ?_
            exact w_zret ok fin dX12_works_443 rfl (by decide) (by unfold F_X12_works FI_X12_works FJ_X12_works; simp only [if_neg c1]; simp only [if_neg c2]; simp only [if_pos c9]; simp only [if_neg c10]; simp only [if_pos c11]; exact Pd.i)
          · skip
            refine w_iconst (v := 1) ok dX12_works_438 (by decide) ?_
            refine w_goto (tgt := 443) ok dX12_works_439 (by decide) ?_
            exact w_zret ok fin dX12_works_443 rfl (by decide) (by unfold F_X12_works FI_X12_works FJ_X12_works; simp only [if_neg c1]; simp only [if_neg c2]; simp only [if_pos c9]; simp only [if_neg c10]; simp only [if_neg c11]; exact Pd.i)
      · skip
        by_cases c12 : a0 = 45
        · skip
          refine w_lkp (tgt := 177) (off := 107) ok dX12_works_70 (by decide) (by rw [c12]; rfl) (by decide) ?_
          refine w_lload ok dX12_works_177 0 rfl ?_
          refine w_lload_n ok dX12_works_179 1 rfl ?_
          refine w_lsub ok dX12_works_180 ?_
          refine w_lstore ok dX12_works_181 (by decide) rfl ?_
          refine w_goto (tgt := 407) ok dX12_works_183 (by decide) ?_
          refine w_aload_n ok dX12_works_407 3 rfl ?_
          refine w_getR ok dX12_works_408 (fX12_81 rfl) (congrArg Prod.fst s_130) rfl (r_130_37 ro) (ltM hnn (by decide)) ?_
          refine w_aload_n ok dX12_works_411 3 rfl ?_
          refine y_getI ok dX12_works_412 (fX12_338 rfl) (congrArg Prod.fst s_130) rfl (ltM hnn (by decide)) (sdm hf (by decide)) ?_
          refine w_iconst (v := 1) ok dX12_works_415 (by decide) ?_
          refine w_isub ok dX12_works_416 ?_
          refine w_lload ok dX12_works_417 0 rfl ?_
          refine y_last (q := (((u2 I 130 38 ((I 130 38) - 1)) 130 38) - 1).toNatClampNeg) ok dX12_works_419 s_153 (hp7 c1 c2 c9 c12) (by decide) (ltM hnn (by decide)) (sdm hf (by decide)) ?_
          show WK K 0 0 420 [(6, .long ((J 153 ((I 130 38) - 2).toNatClampNeg) - (J 153 ((I 130 38) - 1).toNatClampNeg))), (4, .long (J 153 ((I 130 38) - 2).toNatClampNeg)), (2, .long (J 153 ((I 130 38) - 1).toNatClampNeg)), (0, .ref 130), (1, .int a0)] [] (eI f (u2 I 130 38 ((I 130 38) - 1))) (eJ f (S11_X12_works a0 I J)) R n g
          refine w_lload ok dX12_works_420 0 rfl ?_
          refine w_ldc2 ok dX12_works_422 kX12_351 ?_
          refine w_lcmp ok dX12_works_425 ?_
          show WK K 0 0 426 [(6, .long ((J 153 ((I 130 38) - 2).toNatClampNeg) - (J 153 ((I 130 38) - 1).toNatClampNeg))), (4, .long (J 153 ((I 130 38) - 2).toNatClampNeg)), (2, .long (J 153 ((I 130 38) - 1).toNatClampNeg)), (0, .ref 130), (1, .int a0)] [.int (S12_X12_works a0 I J)] (eI f (u2 I 130 38 ((I 130 38) - 1))) (eJ f (S11_X12_works a0 I J)) R n g
          refine w_if_gt (tgt := 442) ok dX12_works_426 (by decide) (fun c13 => ?_) (fun c13 => ?_)
          · skip
            refine w_iconst (v := 0) ok dX12_works_442 (by decide) ?_
            exact w_zret ok fin dX12_works_443 rfl (by decide) (by unfold F_X12_works FI_X12_works FJ_X12_works; simp only [if_neg c1]; simp only [if_neg c2]; simp only [if_neg c9]; simp only [if_pos c12]; simp only [if_pos c13]; exact Pd.i)
          · skip
            refine w_lload ok dX12_works_429 0 rfl ?_
            refine w_ldc2 ok dX12_works_431 kX12_353 ?_
            refine w_lcmp ok dX12_works_434 ?_
            show WK K 0 0 435 [(6, .long ((J 153 ((I 130 38) - 2).toNatClampNeg) - (J 153 ((I 130 38) - 1).toNatClampNeg))), (4, .long (J 153 ((I 130 38) - 2).toNatClampNeg)), (2, .long (J 153 ((I 130 38) - 1).toNatClampNeg)), (0, .ref 130), (1, .int a0)] [.int (S13_X12_works a0 I J)] (eI f (u2 I 130 38 ((I 130 38) - 1))) (eJ f (S11_X12_works a0 I J)) R n g
            refine w_if_lt (tgt := 442) ok dX12_works_435 (by decide) (fun c14 => ?_) (fun c14 => ?_)
            · skip
              refine w_iconst (v := 0) ok dX12_works_442 (by decide) ?_
              exact w_zret ok fin dX12_works_443 rfl (by decide) (by unfold F_X12_works FI_X12_works FJ_X12_works; simp only [if_neg c1]; simp only [if_neg c2]; simp only [if_neg c9]; simp only [if_pos c12]; simp only [if_neg c13]; simp only [if_pos c14]; exact Pd.i)
            · skip
              refine w_iconst (v := 1) ok dX12_works_438 (by decide) ?_
              refine w_goto (tgt := 443) ok dX12_works_439 (by decide) ?_
              exact w_zret ok fin dX12_works_443 rfl (by decide) (by unfold F_X12_works FI_X12_works FJ_X12_works; simp only [if_neg c1]; simp only [if_neg c2]; simp only [if_neg c9]; simp only [if_pos c12]; simp only [if_neg c13]; simp only [if_neg c14]; exact Pd.i)
        · skip
          by_cases c15 : a0 = 47
          · skip
            refine w_lkp (tgt := 221) (off := 151) ok dX12_works_70 (by decide) (by rw [c15]; rfl) (by decide) ?_
            refine w_lload_n ok dX12_works_221 1 rfl ?_
            refine w_lconst (v := 0) ok dX12_works_222 (by decide) ?_
            refine w_lcmp ok dX12_works_223 ?_
            refine w_if_ne (tgt := 229) ok dX12_works_224 (by decide) (fun c16 => ?_) (fun c16 => ?_)
            · skip
              refine w_lload ok dX12_works_229 0 rfl ?_
              refine w_lload_n ok dX12_works_231 1 rfl ?_
              refine w_ldiv ok dX12_works_232 (hp8 c1 c2 c9 c12 c15 c16) ?_
              refine w_lstore ok dX12_works_233 (by decide) rfl ?_
              refine w_goto (tgt := 407) ok dX12_works_235 (by decide) ?_
              refine w_aload_n ok dX12_works_407 3 rfl ?_
              refine w_getR ok dX12_works_408 (fX12_81 rfl) (congrArg Prod.fst s_130) rfl (r_130_37 ro) (ltM hnn (by decide)) ?_
              refine w_aload_n ok dX12_works_411 3 rfl ?_
              refine y_getI ok dX12_works_412 (fX12_338 rfl) (congrArg Prod.fst s_130) rfl (ltM hnn (by decide)) (sdm hf (by decide)) ?_
              refine w_iconst (v := 1) ok dX12_works_415 (by decide) ?_
              refine w_isub ok dX12_works_416 ?_
              refine w_lload ok dX12_works_417 0 rfl ?_
              refine y_last (q := (((u2 I 130 38 ((I 130 38) - 1)) 130 38) - 1).toNatClampNeg) ok dX12_works_419 s_153 (hp9 c1 c2 c9 c12 c15 c16) (by decide) (ltM hnn (by decide)) (sdm hf (by decide)) ?_
              show WK K 0 0 420 [(6, .long ((J 153 ((I 130 38) - 2).toNatClampNeg) / (J 153 ((I 130 38) - 1).toNatClampNeg))), (4, .long (J 153 ((I 130 38) - 2).toNatClampNeg)), (2, .long (J 153 ((I 130 38) - 1).toNatClampNeg)), (0, .ref 130), (1, .int a0)] [] (eI f (u2 I 130 38 ((I 130 38) - 1))) (eJ f (S14_X12_works a0 I J)) R n g
              refine w_lload ok dX12_works_420 0 rfl ?_
              refine w_ldc2 ok dX12_works_422 kX12_351 ?_
              refine w_lcmp ok dX12_works_425 ?_
              show WK K 0 0 426 [(6, .long ((J 153 ((I 130 38) - 2).toNatClampNeg) / (J 153 ((I 130 38) - 1).toNatClampNeg))), (4, .long (J 153 ((I 130 38) - 2).toNatClampNeg)), (2, .long (J 153 ((I 130 38) - 1).toNatClampNeg)), (0, .ref 130), (1, .int a0)] [.int (S15_X12_works a0 I J)] (eI f (u2 I 130 38 ((I 130 38) - 1))) (eJ f (S14_X12_works a0 I J)) R n g
              refine w_if_gt (tgt := 442) ok dX12_works_426 (by decide) (fun c17 => ?_) (fun c17 => ?_)
              · skip
                refine w_iconst (v := 0) ok dX12_works_442 (by decide) ?_
                exact w_zret ok fin dX12_works_443 rfl (by decide) (by unfold F_X12_works FI_X12_works FJ_X12_works; simp only [if_neg c1]; simp only [if_neg c2]; simp only [if_neg c9]; simp only [if_neg c12]; simp only [if_pos c15]; simp only [if_neg c16]; simp only [if_pos c17]; exact Pd.i)
              · skip
                refine w_lload ok dX12_works_429 0 rfl ?_
                refine w_ldc2 ok dX12_works_431 kX12_353 ?_
                refine w_lcmp ok dX12_works_434 ?_
                show WK K 0 0 435 [(6, .long ((J 153 ((I 130 38) - 2).toNatClampNeg) / (J 153 ((I 130 38) - 1).toNatClampNeg))), (4, .long (J 153 ((I 130 38) - 2).toNatClampNeg)), (2, .long (J 153 ((I 130 38) - 1).toNatClampNeg)), (0, .ref 130), (1, .int a0)] [.int (S16_X12_works a0 I J)] (eI f (u2 I 130 38 ((I 130 38) - 1))) (eJ f (S14_X12_works a0 I J)) R n g
                refine w_if_lt (tgt := 442) ok dX12_works_435 (by decide) (fun c18 => ?_) (fun c18 => ?_)
                · skip
                  refine w_iconst (v := 0) ok dX12_works_442 (by decide) ?_
                  exact w_zret ok fin dX12_works_443 rfl (by decide) (by unfold F_X12_works FI_X12_works FJ_X12_works; simp only [if_neg c1]; simp only [if_neg c2]; simp only [if_neg c9]; simp only [if_neg c12]; simp only [if_pos c15]; simp only [if_neg c16]; simp only [if_neg c17]; simp only [if_pos c18]; exact Pd.i)
                · skip
                  refine w_iconst (v := 1) ok dX12_works_438 (by decide) ?_
                  refine w_goto (tgt := 443) ok dX12_works_439 (by decide) ?_
                  exact w_zret ok fin dX12_works_443 rfl (by decide) (by unfold F_X12_works FI_X12_works FJ_X12_works; simp only [if_neg c1]; simp only [if_neg c2]; simp only [if_neg c9]; simp only [if_neg c12]; simp only [if_pos c15]; simp only [if_neg c16]; simp only [if_neg c17]; simp only [if_neg c18]; exact Pd.i)
            · skip
              refine w_iconst (v := 0) ok dX12_works_227 (by decide) ?_
              exact w_zret ok fin dX12_works_228 rfl (by decide) (by unfold F_X12_works FI_X12_works FJ_X12_works; simp only [if_neg c1]; simp only [if_neg c2]; simp only [if_neg c9]; simp only [if_neg c12]; simp only [if_pos c15]; simp only [if_pos c16]; exact Pd.i)
          · skip
            by_cases c19 : a0 = 60
            · skip
              refine w_lkp (tgt := 238) (off := 168) ok dX12_works_70 (by decide) (by rw [c19]; rfl) (by decide) ?_
              refine w_lload ok dX12_works_238 0 rfl ?_
              refine w_lload_n ok dX12_works_240 1 rfl ?_
              refine w_lcmp ok dX12_works_241 ?_
              have jn20 : WK K 0 0 250 [(0, .ref 130), (1, .int a0), (2, .long (J 153 ((I 130 38) - 1).toNatClampNeg)), (4, .long (J 153 ((I 130 38) - 2).toNatClampNeg))] [.int (T_X12_works_j250 a0 I J)] (eI f (u2 I 130 38 ((I 130 38) - 1))) (eJ f J) R n g := by
                refine w_cS (As := [.int (T_X12_works_j250 a0 I J)]) ok dX12_works_250 iX12_is (lX12_341 rfl) (c_X12_is ro hnn hf (T_X12_works_j250 a0 I J) ) (by decide) rfl (Nat.le_of_ble_eq_true rfl) ?_
                refine w_lstore ok dX12_works_253 (by decide) rfl ?_
                refine w_goto (tgt := 407) ok dX12_works_255 (by decide) ?_
                refine w_aload_n ok dX12_works_407 1 rfl ?_
                refine w_getR ok dX12_works_408 (fX12_81 rfl) (congrArg Prod.fst s_130) rfl (r_130_37 ro) (ltM hnn (by decide)) ?_
                refine w_aload_n ok dX12_works_411 1 rfl ?_
                refine y_getI ok dX12_works_412 (fX12_338 rfl) (congrArg Prod.fst s_130) rfl (ltM hnn (by decide)) (sdm hf (by decide)) ?_
                refine w_iconst (v := 1) ok dX12_works_415 (by decide) ?_
                refine w_isub ok dX12_works_416 ?_
                refine w_lload ok dX12_works_417 0 rfl ?_
                refine y_last (q := (((u2 I 130 38 ((I 130 38) - 1)) 130 38) - 1).toNatClampNeg) ok dX12_works_419 s_153 (hp10 c1 c2 c9 c12 c15 c19) (by decide) (ltM hnn (by decide)) (sdm hf (by decide)) ?_
                show WK K 0 0 420 [(6, .long (F_X12_is (T_X12_works_j250 a0 I J) (u2 I 130 38 ((I 130 38) - 1)) J)), (0, .ref 130), (1, .int a0), (2, .long (J 153 ((I 130 38) - 1).toNatClampNeg)), (4, .long (J 153 ((I 130 38) - 2).toNatClampNeg))] [] (eI f (u2 I 130 38 ((I 130 38) - 1))) (eJ f (S17_X12_works a0 I J)) R n g
                refine w_lload ok dX12_works_420 0 rfl ?_
                refine w_ldc2 ok dX12_works_422 kX12_351 ?_
                refine w_lcmp ok dX12_works_425 ?_
                refine w_if_gt (tgt := 442) ok dX12_works_426 (by decide) (fun c21 => ?_) (fun c21 => ?_)
                · skip
                  refine w_iconst (v := 0) ok dX12_works_442 (by decide) ?_
                  exact w_zret ok fin dX12_works_443 rfl (by decide) (by unfold F_X12_works FI_X12_works FJ_X12_works; simp only [if_neg c1]; simp only [if_neg c2]; simp only [if_neg c9]; simp only [if_neg c12]; simp only [if_neg c15]; simp only [if_pos c19]; simp only [if_pos c21]; exact Pd.i)
                · skip
                  refine w_lload ok dX12_works_429 0 rfl ?_
                  refine w_ldc2 ok dX12_works_431 kX12_353 ?_
                  refine w_lcmp ok dX12_works_434 ?_
                  show WK K 0 0 435 [(6, .long (F_X12_is (T_X12_works_j250 a0 I J) (u2 I 130 38 ((I 130 38) - 1)) J)), (0, .ref 130), (1, .int a0), (2, .long (J 153 ((I 130 38) - 1).toNatClampNeg)), (4, .long (J 153 ((I 130 38) - 2).toNatClampNeg))] [.int (S18_X12_works a0 I J)] (eI f (u2 I 130 38 ((I 130 38) - 1))) (eJ f (S17_X12_works a0 I J)) R n g
                  refine w_if_lt (tgt := 442) ok dX12_works_435 (by decide) (fun c22 => ?_) (fun c22 => ?_)
                  · skip
                    refine w_iconst (v := 0) ok dX12_works_442 (by decide) ?_
                    exact w_zret ok fin dX12_works_443 rfl (by decide) (by unfold F_X12_works FI_X12_works FJ_X12_works; simp only [if_neg c1]; simp only [if_neg c2]; simp only [if_neg c9]; simp only [if_neg c12]; simp only [if_neg c15]; simp only [if_pos c19]; simp only [if_neg c21]; simp only [if_pos c22]; exact Pd.i)
                  · skip
                    refine w_iconst (v := 1) ok dX12_works_438 (by decide) ?_
                    refine w_goto (tgt := 443) ok dX12_works_439 (by decide) ?_
                    exact w_zret ok fin dX12_works_443 rfl (by decide) (by unfold F_X12_works FI_X12_works FJ_X12_works; simp only [if_neg c1]; simp only [if_neg c2]; simp only [if_neg c9]; simp only [if_neg c12]; simp only [if_neg c15]; simp only [if_pos c19]; simp only [if_neg c21]; simp only [if_neg c22]; exact Pd.i)
              refine w_if_ge (tgt := 249) ok dX12_works_242 (by decide) (fun c23 => ?_) (fun c23 => ?_)
              · skip
                refine w_iconst (v := 0) ok dX12_works_249 (by decide) ?_
                have eT : (T_X12_works_j250 a0 I J) = 0 := by
                  unfold T_X12_works_j250; exact (if_pos c23).trans (rfl)
                refine w_loc [2, 3, 1, 0] rfl ?_
                have jj := jn20
                rw [eT] at jj
                exact jj
              · skip
                refine w_iconst (v := 1) ok dX12_works_245 (by decide) ?_
                refine w_goto (tgt := 250) ok dX12_works_246 (by decide) ?_
                have eT : (T_X12_works_j250 a0 I J) = 1 := by
                  unfold T_X12_works_j250; exact (if_neg c23).trans (rfl)
                refine w_loc [2, 3, 1, 0] rfl ?_
                have jj := jn20
                rw [eT] at jj
                exact jj
            · skip
              by_cases c24 : a0 = 61
              · skip
                refine w_lkp (tgt := 278) (off := 208) ok dX12_works_70 (by decide) (by rw [c24]; rfl) (by decide) ?_
                refine w_lload ok dX12_works_278 0 rfl ?_
                refine w_lload_n ok dX12_works_280 1 rfl ?_
                refine w_lcmp ok dX12_works_281 ?_
                have jn25 : WK K 0 0 290 [(0, .ref 130), (1, .int a0), (2, .long (J 153 ((I 130 38) - 1).toNatClampNeg)), (4, .long (J 153 ((I 130 38) - 2).toNatClampNeg))] [.int (T_X12_works_j290 a0 I J)] (eI f (u2 I 130 38 ((I 130 38) - 1))) (eJ f J) R n g := by
                  refine w_cS (As := [.int (T_X12_works_j290 a0 I J)]) ok dX12_works_290 iX12_is (lX12_341 rfl) (c_X12_is ro hnn hf (T_X12_works_j290 a0 I J) ) (by decide) rfl (Nat.le_of_ble_eq_true rfl) ?_
                  refine w_lstore ok dX12_works_293 (by decide) rfl ?_
                  refine w_goto (tgt := 407) ok dX12_works_295 (by decide) ?_
                  refine w_aload_n ok dX12_works_407 1 rfl ?_
                  refine w_getR ok dX12_works_408 (fX12_81 rfl) (congrArg Prod.fst s_130) rfl (r_130_37 ro) (ltM hnn (by decide)) ?_
                  refine w_aload_n ok dX12_works_411 1 rfl ?_
                  refine y_getI ok dX12_works_412 (fX12_338 rfl) (congrArg Prod.fst s_130) rfl (ltM hnn (by decide)) (sdm hf (by decide)) ?_
                  refine w_iconst (v := 1) ok dX12_works_415 (by decide) ?_
                  refine w_isub ok dX12_works_416 ?_
                  refine w_lload ok dX12_works_417 0 rfl ?_
                  refine y_last (q := (((u2 I 130 38 ((I 130 38) - 1)) 130 38) - 1).toNatClampNeg) ok dX12_works_419 s_153 (hp11 c1 c2 c9 c12 c15 c19 c24) (by decide) (ltM hnn (by decide)) (sdm hf (by decide)) ?_
                  show WK K 0 0 420 [(6, .long (F_X12_is (T_X12_works_j290 a0 I J) (u2 I 130 38 ((I 130 38) - 1)) J)), (0, .ref 130), (1, .int a0), (2, .long (J 153 ((I 130 38) - 1).toNatClampNeg)), (4, .long (J 153 ((I 130 38) - 2).toNatClampNeg))] [] (eI f (u2 I 130 38 ((I 130 38) - 1))) (eJ f (S19_X12_works a0 I J)) R n g
                  refine w_lload ok dX12_works_420 0 rfl ?_
                  refine w_ldc2 ok dX12_works_422 kX12_351 ?_
                  refine w_lcmp ok dX12_works_425 ?_
                  refine w_if_gt (tgt := 442) ok dX12_works_426 (by decide) (fun c26 => ?_) (fun c26 => ?_)
                  · skip
                    refine w_iconst (v := 0) ok dX12_works_442 (by decide) ?_
                    exact w_zret ok fin dX12_works_443 rfl (by decide) (by unfold F_X12_works FI_X12_works FJ_X12_works; simp only [if_neg c1]; simp only [if_neg c2]; simp only [if_neg c9]; simp only [if_neg c12]; simp only [if_neg c15]; simp only [if_neg c19]; simp only [if_pos c24]; simp only [if_pos c26]; exact Pd.i)
                  · skip
                    refine w_lload ok dX12_works_429 0 rfl ?_
                    refine w_ldc2 ok dX12_works_431 kX12_353 ?_
                    refine w_lcmp ok dX12_works_434 ?_
                    show WK K 0 0 435 [(6, .long (F_X12_is (T_X12_works_j290 a0 I J) (u2 I 130 38 ((I 130 38) - 1)) J)), (0, .ref 130), (1, .int a0), (2, .long (J 153 ((I 130 38) - 1).toNatClampNeg)), (4, .long (J 153 ((I 130 38) - 2).toNatClampNeg))] [.int (S20_X12_works a0 I J)] (eI f (u2 I 130 38 ((I 130 38) - 1))) (eJ f (S19_X12_works a0 I J)) R n g
                    refine w_if_lt (tgt := 442) ok dX12_works_435 (by decide) (fun c27 => ?_) (fun c27 => ?_)
                    · skip
                      refine w_iconst (v := 0) ok dX12_works_442 (by decide) ?_
                      exact w_zret ok fin dX12_works_443 rfl (by decide) (by unfold F_X12_works FI_X12_works FJ_X12_works; simp only [if_neg c1]; simp only [if_neg c2]; simp only [if_neg c9]; simp only [if_neg c12]; simp only [if_neg c15]; simp only [if_neg c19]; simp only [if_pos c24]; simp only [if_neg c26]; simp only [if_pos c27]; exact Pd.i)
                    · skip
                      refine w_iconst (v := 1) ok dX12_works_438 (by decide) ?_
                      refine w_goto (tgt := 443) ok dX12_works_439 (by decide) ?_
                      exact w_zret ok fin dX12_works_443 rfl (by decide) (by unfold F_X12_works FI_X12_works FJ_X12_works; simp only [if_neg c1]; simp only [if_neg c2]; simp only [if_neg c9]; simp only [if_neg c12]; simp only [if_neg c15]; simp only [if_neg c19]; simp only [if_pos c24]; simp only [if_neg c26]; simp only [if_neg c27]; exact Pd.i)
                refine w_if_ne (tgt := 289) ok dX12_works_282 (by decide) (fun c28 => ?_) (fun c28 => ?_)
                · skip
                  refine w_iconst (v := 0) ok dX12_works_289 (by decide) ?_
                  have eT : (T_X12_works_j290 a0 I J) = 0 := by
                    unfold T_X12_works_j290; exact (if_neg c28).trans (rfl)
                  refine w_loc [2, 3, 1, 0] rfl ?_
                  have jj := jn25
                  rw [eT] at jj
                  exact jj
                · skip
                  refine w_iconst (v := 1) ok dX12_works_285 (by decide) ?_
                  refine w_goto (tgt := 290) ok dX12_works_286 (by decide) ?_
                  have eT : (T_X12_works_j290 a0 I J) = 1 := by
                    unfold T_X12_works_j290; exact (if_pos c28).trans (rfl)
                  refine w_loc [2, 3, 1, 0] rfl ?_
                  have jj := jn25
                  rw [eT] at jj
                  exact jj
              · skip
                by_cases c29 : a0 = 62
                · skip
                  refine w_lkp (tgt := 258) (off := 188) ok dX12_works_70 (by decide) (by rw [c29]; rfl) (by decide) ?_
                  refine w_lload ok dX12_works_258 0 rfl ?_
                  refine w_lload_n ok dX12_works_260 1 rfl ?_
                  refine w_lcmp ok dX12_works_261 ?_
                  have jn30 : WK K 0 0 270 [(0, .ref 130), (1, .int a0), (2, .long (J 153 ((I 130 38) - 1).toNatClampNeg)), (4, .long (J 153 ((I 130 38) - 2).toNatClampNeg))] [.int (T_X12_works_j270 a0 I J)] (eI f (u2 I 130 38 ((I 130 38) - 1))) (eJ f J) R n g := by
                    refine w_cS (As := [.int (T_X12_works_j270 a0 I J)]) ok dX12_works_270 iX12_is (lX12_341 rfl) (c_X12_is ro hnn hf (T_X12_works_j270 a0 I J) ) (by decide) rfl (Nat.le_of_ble_eq_true rfl) ?_
                    refine w_lstore ok dX12_works_273 (by decide) rfl ?_
                    refine w_goto (tgt := 407) ok dX12_works_275 (by decide) ?_
                    refine w_aload_n ok dX12_works_407 1 rfl ?_
                    refine w_getR ok dX12_works_408 (fX12_81 rfl) (congrArg Prod.fst s_130) rfl (r_130_37 ro) (ltM hnn (by decide)) ?_
                    refine w_aload_n ok dX12_works_411 1 rfl ?_
                    refine y_getI ok dX12_works_412 (fX12_338 rfl) (congrArg Prod.fst s_130) rfl (ltM hnn (by decide)) (sdm hf (by decide)) ?_
                    refine w_iconst (v := 1) ok dX12_works_415 (by decide) ?_
                    refine w_isub ok dX12_works_416 ?_
                    refine w_lload ok dX12_works_417 0 rfl ?_
                    refine y_last (q := (((u2 I 130 38 ((I 130 38) - 1)) 130 38) - 1).toNatClampNeg) ok dX12_works_419 s_153 (hp12 c1 c2 c9 c12 c15 c19 c24 c29) (by decide) (ltM hnn (by decide)) (sdm hf (by decide)) ?_
                    show WK K 0 0 420 [(6, .long (F_X12_is (T_X12_works_j270 a0 I J) (u2 I 130 38 ((I 130 38) - 1)) J)), (0, .ref 130), (1, .int a0), (2, .long (J 153 ((I 130 38) - 1).toNatClampNeg)), (4, .long (J 153 ((I 130 38) - 2).toNatClampNeg))] [] (eI f (u2 I 130 38 ((I 130 38) - 1))) (eJ f (S21_X12_works a0 I J)) R n g
                    refine w_lload ok dX12_works_420 0 rfl ?_
                    refine w_ldc2 ok dX12_works_422 kX12_351 ?_
                    refine w_lcmp ok dX12_works_425 ?_
                    refine w_if_gt (tgt := 442) ok dX12_works_426 (by decide) (fun c31 => ?_) (fun c31 => ?_)
                    · skip
                      refine w_iconst (v := 0) ok dX12_works_442 (by decide) ?_
                      exact w_zret ok fin dX12_works_443 rfl (by decide) (by unfold F_X12_works FI_X12_works FJ_X12_works; simp only [if_neg c1]; simp only [if_neg c2]; simp only [if_neg c9]; simp only [if_neg c12]; simp only [if_neg c15]; simp only [if_neg c19]; simp only [if_neg c24]; simp only [if_pos c29]; simp only [if_pos c31]; exact Pd.i)
                    · skip
                      refine w_lload ok dX12_works_429 0 rfl ?_
                      refine w_ldc2 ok dX12_works_431 kX12_353 ?_
                      refine w_lcmp ok dX12_works_434 ?_
                      show WK K 0 0 435 [(6, .long (F_X12_is (T_X12_works_j270 a0 I J) (u2 I 130 38 ((I 130 38) - 1)) J)), (0, .ref 130), (1, .int a0), (2, .long (J 153 ((I 130 38) - 1).toNatClampNeg)), (4, .long (J 153 ((I 130 38) - 2).toNatClampNeg))] [.int (S22_X12_works a0 I J)] (eI f (u2 I 130 38 ((I 130 38) - 1))) (eJ f (S21_X12_works a0 I J)) R n g
                      refine w_if_lt (tgt := 442) ok dX12_works_435 (by decide) (fun c32 => ?_) (fun c32 => ?_)
                      · skip
                        refine w_iconst (v := 0) ok dX12_works_442 (by decide) ?_
                        exact w_zret ok fin dX12_works_443 rfl (by decide) (by unfold F_X12_works FI_X12_works FJ_X12_works; simp only [if_neg c1]; simp only [if_neg c2]; simp only [if_neg c9]; simp only [if_neg c12]; simp only [if_neg c15]; simp only [if_neg c19]; simp only [if_neg c24]; simp only [if_pos c29]; simp only [if_neg c31]; simp only [if_pos c32]; exact Pd.i)
                      · skip
                        refine w_iconst (v := 1) ok dX12_works_438 (by decide) ?_
                        refine w_goto (tgt := 443) ok dX12_works_439 (by decide) ?_
                        exact w_zret ok fin dX12_works_443 rfl (by decide) (by unfold F_X12_works FI_X12_works FJ_X12_works; simp only [if_neg c1]; simp only [if_neg c2]; simp only [if_neg c9]; simp only [if_neg c12]; simp only [if_neg c15]; simp only [if_neg c19]; simp only [if_neg c24]; simp only [if_pos c29]; simp only [if_neg c31]; simp only [if_neg c32]; exact Pd.i)
                  refine w_if_le (tgt := 269) ok dX12_works_262 (by decide) (fun c33 => ?_) (fun c33 => ?_)
                  · skip
                    refine w_iconst (v := 0) ok dX12_works_269 (by decide) ?_
                    have eT : (T_X12_works_j270 a0 I J) = 0 := by
                      unfold T_X12_works_j270; exact (if_pos c33).trans (rfl)
                    refine w_loc [2, 3, 1, 0] rfl ?_
                    have jj := jn30
                    rw [eT] at jj
                    exact jj
                  · skip
                    refine w_iconst (v := 1) ok dX12_works_265 (by decide) ?_
                    refine w_goto (tgt := 270) ok dX12_works_266 (by decide) ?_
                    have eT : (T_X12_works_j270 a0 I J) = 1 := by
                      unfold T_X12_works_j270; exact (if_neg c33).trans (rfl)
                    refine w_loc [2, 3, 1, 0] rfl ?_
                    have jj := jn30
                    rw [eT] at jj
                    exact jj
                · skip
                  by_cases c34 : a0 = 256
                  · skip
                    refine w_lkp (tgt := 298) (off := 228) ok dX12_works_70 (by decide) (by rw [c34]; rfl) (by decide) ?_
                    refine w_lload ok dX12_works_298 0 rfl ?_
                    refine w_lload_n ok dX12_works_300 1 rfl ?_
                    refine w_lcmp ok dX12_works_301 ?_
                    have jn35 : WK K 0 0 310 [(0, .ref 130), (1, .int a0), (2, .long (J 153 ((I 130 38) - 1).toNatClampNeg)), (4, .long (J 153 ((I 130 38) - 2).toNatClampNeg))] [.int (T_X12_works_j310 a0 I J)] (eI f (u2 I 130 38 ((I 130 38) - 1))) (eJ f J) R n g := by
                      refine w_cS (As := [.int (T_X12_works_j310 a0 I J)]) ok dX12_works_310 iX12_is (lX12_341 rfl) (c_X12_is ro hnn hf (T_X12_works_j310 a0 I J) ) (by decide) rfl (Nat.le_of_ble_eq_true rfl) ?_
                      refine w_lstore ok dX12_works_313 (by decide) rfl ?_
                      refine w_goto (tgt := 407) ok dX12_works_315 (by decide) ?_
                      refine w_aload_n ok dX12_works_407 1 rfl ?_
                      refine w_getR ok dX12_works_408 (fX12_81 rfl) (congrArg Prod.fst s_130) rfl (r_130_37 ro) (ltM hnn (by decide)) ?_
                      refine w_aload_n ok dX12_works_411 1 rfl ?_
                      refine y_getI ok dX12_works_412 (fX12_338 rfl) (congrArg Prod.fst s_130) rfl (ltM hnn (by decide)) (sdm hf (by decide)) ?_
                      refine w_iconst (v := 1) ok dX12_works_415 (by decide) ?_
                      refine w_isub ok dX12_works_416 ?_
                      refine w_lload ok dX12_works_417 0 rfl ?_
                      refine y_last (q := (((u2 I 130 38 ((I 130 38) - 1)) 130 38) - 1).toNatClampNeg) ok dX12_works_419 s_153 (hp13 c1 c2 c9 c12 c15 c19 c24 c29 c34) (by decide) (ltM hnn (by decide)) (sdm hf (by decide)) ?_
                      show WK K 0 0 420 [(6, .long (F_X12_is (T_X12_works_j310 a0 I J) (u2 I 130 38 ((I 130 38) - 1)) J)), (0, .ref 130), (1, .int a0), (2, .long (J 153 ((I 130 38) - 1).toNatClampNeg)), (4, .long (J 153 ((I 130 38) - 2).toNatClampNeg))] [] (eI f (u2 I 130 38 ((I 130 38) - 1))) (eJ f (S23_X12_works a0 I J)) R n g
                      refine w_lload ok dX12_works_420 0 rfl ?_
                      refine w_ldc2 ok dX12_works_422 kX12_351 ?_
                      refine w_lcmp ok dX12_works_425 ?_
                      refine w_if_gt (tgt := 442) ok dX12_works_426 (by decide) (fun c36 => ?_) (fun c36 => ?_)
                      · skip
                        refine w_iconst (v := 0) ok dX12_works_442 (by decide) ?_
                        exact w_zret ok fin dX12_works_443 rfl (by decide) (by unfold F_X12_works FI_X12_works FJ_X12_works; simp only [if_neg c1]; simp only [if_neg c2]; simp only [if_neg c9]; simp only [if_neg c12]; simp only [if_neg c15]; simp only [if_neg c19]; simp only [if_neg c24]; simp only [if_neg c29]; simp only [if_pos c34]; simp only [if_pos c36]; exact Pd.i)
                      · skip
                        refine w_lload ok dX12_works_429 0 rfl ?_
                        refine w_ldc2 ok dX12_works_431 kX12_353 ?_
                        refine w_lcmp ok dX12_works_434 ?_
                        show WK K 0 0 435 [(6, .long (F_X12_is (T_X12_works_j310 a0 I J) (u2 I 130 38 ((I 130 38) - 1)) J)), (0, .ref 130), (1, .int a0), (2, .long (J 153 ((I 130 38) - 1).toNatClampNeg)), (4, .long (J 153 ((I 130 38) - 2).toNatClampNeg))] [.int (S24_X12_works a0 I J)] (eI f (u2 I 130 38 ((I 130 38) - 1))) (eJ f (S23_X12_works a0 I J)) R n g
                        refine w_if_lt (tgt := 442) ok dX12_works_435 (by decide) (fun c37 => ?_) (fun c37 => ?_)
                        · skip
                          refine w_iconst (v := 0) ok dX12_works_442 (by decide) ?_
                          exact w_zret ok fin dX12_works_443 rfl (by decide) (by unfold F_X12_works FI_X12_works FJ_X12_works; simp only [if_neg c1]; simp only [if_neg c2]; simp only [if_neg c9]; simp only [if_neg c12]; simp only [if_neg c15]; simp only [if_neg c19]; simp only [if_neg c24]; simp only [if_neg c29]; simp only [if_pos c34]; simp only [if_neg c36]; simp only [if_pos c37]; exact Pd.i)
                        · skip
                          refine w_iconst (v := 1) ok dX12_works_438 (by decide) ?_
                          refine w_goto (tgt := 443) ok dX12_works_439 (by decide) ?_
                          exact w_zret ok fin dX12_works_443 rfl (by decide) (by unfold F_X12_works FI_X12_works FJ_X12_works; simp only [if_neg c1]; simp only [if_neg c2]; simp only [if_neg c9]; simp only [if_neg c12]; simp only [if_neg c15]; simp only [if_neg c19]; simp only [if_neg c24]; simp only [if_neg c29]; simp only [if_pos c34]; simp only [if_neg c36]; simp only [if_neg c37]; exact Pd.i)
                    refine w_if_gt (tgt := 309) ok dX12_works_302 (by decide) (fun c38 => ?_) (fun c38 => ?_)
                    · skip
                      refine w_iconst (v := 0) ok dX12_works_309 (by decide) ?_
                      have eT : (T_X12_works_j310 a0 I J) = 0 := by
                        unfold T_X12_works_j310; exact (if_pos c38).trans (rfl)
                      refine w_loc [2, 3, 1, 0] rfl ?_
                      have jj := jn35
                      rw [eT] at jj
                      exact jj
                    · skip
                      refine w_iconst (v := 1) ok dX12_works_305 (by decide) ?_
                      refine w_goto (tgt := 310) ok dX12_works_306 (by decide) ?_
                      have eT : (T_X12_works_j310 a0 I J) = 1 := by
                        unfold T_X12_works_j310; exact (if_neg c38).trans (rfl)
                      refine w_loc [2, 3, 1, 0] rfl ?_
                      have jj := jn35
                      rw [eT] at jj
                      exact jj
                  · skip
                    by_cases c39 : a0 = 257
                    · skip
                      refine w_lkp (tgt := 338) (off := 268) ok dX12_works_70 (by decide) (by rw [c39]; rfl) (by decide) ?_
                      refine w_lload ok dX12_works_338 0 rfl ?_
                      refine w_lload_n ok dX12_works_340 1 rfl ?_
                      refine w_lcmp ok dX12_works_341 ?_
                      have jn40 : WK K 0 0 350 [(0, .ref 130), (1, .int a0), (2, .long (J 153 ((I 130 38) - 1).toNatClampNeg)), (4, .long (J 153 ((I 130 38) - 2).toNatClampNeg))] [.int (T_X12_works_j350 a0 I J)] (eI f (u2 I 130 38 ((I 130 38) - 1))) (eJ f J) R n g := by
                        refine w_cS (As := [.int (T_X12_works_j350 a0 I J)]) ok dX12_works_350 iX12_is (lX12_341 rfl) (c_X12_is ro hnn hf (T_X12_works_j350 a0 I J) ) (by decide) rfl (Nat.le_of_ble_eq_true rfl) ?_
                        refine w_lstore ok dX12_works_353 (by decide) rfl ?_
                        refine w_goto (tgt := 407) ok dX12_works_355 (by decide) ?_
                        refine w_aload_n ok dX12_works_407 1 rfl ?_
                        refine w_getR ok dX12_works_408 (fX12_81 rfl) (congrArg Prod.fst s_130) rfl (r_130_37 ro) (ltM hnn (by decide)) ?_
                        refine w_aload_n ok dX12_works_411 1 rfl ?_
                        refine y_getI ok dX12_works_412 (fX12_338 rfl) (congrArg Prod.fst s_130) rfl (ltM hnn (by decide)) (sdm hf (by decide)) ?_
                        refine w_iconst (v := 1) ok dX12_works_415 (by decide) ?_
                        refine w_isub ok dX12_works_416 ?_
                        refine w_lload ok dX12_works_417 0 rfl ?_
                        refine y_last (q := (((u2 I 130 38 ((I 130 38) - 1)) 130 38) - 1).toNatClampNeg) ok dX12_works_419 s_153 (hp14 c1 c2 c9 c12 c15 c19 c24 c29 c34 c39) (by decide) (ltM hnn (by decide)) (sdm hf (by decide)) ?_
                        show WK K 0 0 420 [(6, .long (F_X12_is (T_X12_works_j350 a0 I J) (u2 I 130 38 ((I 130 38) - 1)) J)), (0, .ref 130), (1, .int a0), (2, .long (J 153 ((I 130 38) - 1).toNatClampNeg)), (4, .long (J 153 ((I 130 38) - 2).toNatClampNeg))] [] (eI f (u2 I 130 38 ((I 130 38) - 1))) (eJ f (S25_X12_works a0 I J)) R n g
                        refine w_lload ok dX12_works_420 0 rfl ?_
                        refine w_ldc2 ok dX12_works_422 kX12_351 ?_
                        refine w_lcmp ok dX12_works_425 ?_
                        refine w_if_gt (tgt := 442) ok dX12_works_426 (by decide) (fun c41 => ?_) (fun c41 => ?_)
                        · skip
                          refine w_iconst (v := 0) ok dX12_works_442 (by decide) ?_
                          exact w_zret ok fin dX12_works_443 rfl (by decide) (by unfold F_X12_works FI_X12_works FJ_X12_works; simp only [if_neg c1]; simp only [if_neg c2]; simp only [if_neg c9]; simp only [if_neg c12]; simp only [if_neg c15]; simp only [if_neg c19]; simp only [if_neg c24]; simp only [if_neg c29]; simp only [if_neg c34]; simp only [if_pos c39]; simp only [if_pos c41]; exact Pd.i)
                        · skip
                          refine w_lload ok dX12_works_429 0 rfl ?_
                          refine w_ldc2 ok dX12_works_431 kX12_353 ?_
                          refine w_lcmp ok dX12_works_434 ?_
                          show WK K 0 0 435 [(6, .long (F_X12_is (T_X12_works_j350 a0 I J) (u2 I 130 38 ((I 130 38) - 1)) J)), (0, .ref 130), (1, .int a0), (2, .long (J 153 ((I 130 38) - 1).toNatClampNeg)), (4, .long (J 153 ((I 130 38) - 2).toNatClampNeg))] [.int (S26_X12_works a0 I J)] (eI f (u2 I 130 38 ((I 130 38) - 1))) (eJ f (S25_X12_works a0 I J)) R n g
                          refine w_if_lt (tgt := 442) ok dX12_works_435 (by decide) (fun c42 => ?_) (fun c42 => ?_)
                          · skip
                            refine w_iconst (v := 0) ok dX12_works_442 (by decide) ?_
                            exact w_zret ok fin dX12_works_443 rfl (by decide) (by unfold F_X12_works FI_X12_works FJ_X12_works; simp only [if_neg c1]; simp only [if_neg c2]; simp only [if_neg c9]; simp only [if_neg c12]; simp only [if_neg c15]; simp only [if_neg c19]; simp only [if_neg c24]; simp only [if_neg c29]; simp only [if_neg c34]; simp only [if_pos c39]; simp only [if_neg c41]; simp only [if_pos c42]; exact Pd.i)
                          · skip
                            refine w_iconst (v := 1) ok dX12_works_438 (by decide) ?_
                            refine w_goto (tgt := 443) ok dX12_works_439 (by decide) ?_
                            exact w_zret ok fin dX12_works_443 rfl (by decide) (by unfold F_X12_works FI_X12_works FJ_X12_works; simp only [if_neg c1]; simp only [if_neg c2]; simp only [if_neg c9]; simp only [if_neg c12]; simp only [if_neg c15]; simp only [if_neg c19]; simp only [if_neg c24]; simp only [if_neg c29]; simp only [if_neg c34]; simp only [if_pos c39]; simp only [if_neg c41]; simp only [if_neg c42]; exact Pd.i)
                      refine w_if_eq (tgt := 349) ok dX12_works_342 (by decide) (fun c43 => ?_) (fun c43 => ?_)
                      · skip
                        refine w_iconst (v := 0) ok dX12_works_349 (by decide) ?_
                        have eT : (T_X12_works_j350 a0 I J) = 0 := by
                          unfold T_X12_works_j350; exact (if_pos c43).trans (rfl)
                        refine w_loc [2, 3, 1, 0] rfl ?_
                        have jj := jn40
                        rw [eT] at jj
                        exact jj
                      · skip
                        refine w_iconst (v := 1) ok dX12_works_345 (by decide) ?_
                        refine w_goto (tgt := 350) ok dX12_works_346 (by decide) ?_
                        have eT : (T_X12_works_j350 a0 I J) = 1 := by
                          unfold T_X12_works_j350; exact (if_neg c43).trans (rfl)
                        refine w_loc [2, 3, 1, 0] rfl ?_
                        have jj := jn40
                        rw [eT] at jj
                        exact jj
                    · skip
                      by_cases c44 : a0 = 258
                      · skip
                        refine w_lkp (tgt := 318) (off := 248) ok dX12_works_70 (by decide) (by rw [c44]; rfl) (by decide) ?_
                        refine w_lload ok dX12_works_318 0 rfl ?_
                        refine w_lload_n ok dX12_works_320 1 rfl ?_
                        refine w_lcmp ok dX12_works_321 ?_
                        have jn45 : WK K 0 0 330 [(0, .ref 130), (1, .int a0), (2, .long (J 153 ((I 130 38) - 1).toNatClampNeg)), (4, .long (J 153 ((I 130 38) - 2).toNatClampNeg))] [.int (T_X12_works_j330 a0 I J)] (eI f (u2 I 130 38 ((I 130 38) - 1))) (eJ f J) R n g := by
                          refine w_cS (As := [.int (T_X12_works_j330 a0 I J)]) ok dX12_works_330 iX12_is (lX12_341 rfl) (c_X12_is ro hnn hf (T_X12_works_j330 a0 I J) ) (by decide) rfl (Nat.le_of_ble_eq_true rfl) ?_
                          refine w_lstore ok dX12_works_333 (by decide) rfl ?_
                          refine w_goto (tgt := 407) ok dX12_works_335 (by decide) ?_
                          refine w_aload_n ok dX12_works_407 1 rfl ?_
                          refine w_getR ok dX12_works_408 (fX12_81 rfl) (congrArg Prod.fst s_130) rfl (r_130_37 ro) (ltM hnn (by decide)) ?_
                          refine w_aload_n ok dX12_works_411 1 rfl ?_
                          refine y_getI ok dX12_works_412 (fX12_338 rfl) (congrArg Prod.fst s_130) rfl (ltM hnn (by decide)) (sdm hf (by decide)) ?_
                          refine w_iconst (v := 1) ok dX12_works_415 (by decide) ?_
                          refine w_isub ok dX12_works_416 ?_
                          refine w_lload ok dX12_works_417 0 rfl ?_
                          refine y_last (q := (((u2 I 130 38 ((I 130 38) - 1)) 130 38) - 1).toNatClampNeg) ok dX12_works_419 s_153 (hp15 c1 c2 c9 c12 c15 c19 c24 c29 c34 c39 c44) (by decide) (ltM hnn (by decide)) (sdm hf (by decide)) ?_
                          show WK K 0 0 420 [(6, .long (F_X12_is (T_X12_works_j330 a0 I J) (u2 I 130 38 ((I 130 38) - 1)) J)), (0, .ref 130), (1, .int a0), (2, .long (J 153 ((I 130 38) - 1).toNatClampNeg)), (4, .long (J 153 ((I 130 38) - 2).toNatClampNeg))] [] (eI f (u2 I 130 38 ((I 130 38) - 1))) (eJ f (S27_X12_works a0 I J)) R n g
                          refine w_lload ok dX12_works_420 0 rfl ?_
                          refine w_ldc2 ok dX12_works_422 kX12_351 ?_
                          refine w_lcmp ok dX12_works_425 ?_
                          refine w_if_gt (tgt := 442) ok dX12_works_426 (by decide) (fun c46 => ?_) (fun c46 => ?_)
                          · skip
                            refine w_iconst (v := 0) ok dX12_works_442 (by decide) ?_
                            exact w_zret ok fin dX12_works_443 rfl (by decide) (by unfold F_X12_works FI_X12_works FJ_X12_works; simp only [if_neg c1]; simp only [if_neg c2]; simp only [if_neg c9]; simp only [if_neg c12]; simp only [if_neg c15]; simp only [if_neg c19]; simp only [if_neg c24]; simp only [if_neg c29]; simp only [if_neg c34]; simp only [if_neg c39]; simp only [if_pos c44]; simp only [if_pos c46]; exact Pd.i)
                          · skip
                            refine w_lload ok dX12_works_429 0 rfl ?_
                            refine w_ldc2 ok dX12_works_431 kX12_353 ?_
                            refine w_lcmp ok dX12_works_434 ?_
                            show WK K 0 0 435 [(6, .long (F_X12_is (T_X12_works_j330 a0 I J) (u2 I 130 38 ((I 130 38) - 1)) J)), (0, .ref 130), (1, .int a0), (2, .long (J 153 ((I 130 38) - 1).toNatClampNeg)), (4, .long (J 153 ((I 130 38) - 2).toNatClampNeg))] [.int (S28_X12_works a0 I J)] (eI f (u2 I 130 38 ((I 130 38) - 1))) (eJ f (S27_X12_works a0 I J)) R n g
                            refine w_if_lt (tgt := 442) ok dX12_works_435 (by decide) (fun c47 => ?_) (fun c47 => ?_)
                            · skip
                              refine w_iconst (v := 0) ok dX12_works_442 (by decide) ?_
                              exact w_zret ok fin dX12_works_443 rfl (by decide) (by unfold F_X12_works FI_X12_works FJ_X12_works; simp only [if_neg c1]; simp only [if_neg c2]; simp only [if_neg c9]; simp only [if_neg c12]; simp only [if_neg c15]; simp only [if_neg c19]; simp only [if_neg c24]; simp only [if_neg c29]; simp only [if_neg c34]; simp only [if_neg c39]; simp only [if_pos c44]; simp only [if_neg c46]; simp only [if_pos c47]; exact Pd.i)
                            · skip
                              refine w_iconst (v := 1) ok dX12_works_438 (by decide) ?_
                              refine w_goto (tgt := 443) ok dX12_works_439 (by decide) ?_
                              exact w_zret ok fin dX12_works_443 rfl (by decide) (by unfold F_X12_works FI_X12_works FJ_X12_works; simp only [if_neg c1]; simp only [if_neg c2]; simp only [if_neg c9]; simp only [if_neg c12]; simp only [if_neg c15]; simp only [if_neg c19]; simp only [if_neg c24]; simp only [if_neg c29]; simp only [if_neg c34]; simp only [if_neg c39]; simp only [if_pos c44]; simp only [if_neg c46]; simp only [if_neg c47]; exact Pd.i)
                        refine w_if_lt (tgt := 329) ok dX12_works_322 (by decide) (fun c48 => ?_) (fun c48 => ?_)
                        · skip
                          refine w_iconst (v := 0) ok dX12_works_329 (by decide) ?_
                          have eT : (T_X12_works_j330 a0 I J) = 0 := by
                            unfold T_X12_works_j330; exact (if_pos c48).trans (rfl)
                          refine w_loc [2, 3, 1, 0] rfl ?_
                          have jj := jn45
                          rw [eT] at jj
                          exact jj
                        · skip
                          refine w_iconst (v := 1) ok dX12_works_325 (by decide) ?_
                          refine w_goto (tgt := 330) ok dX12_works_326 (by decide) ?_
                          have eT : (T_X12_works_j330 a0 I J) = 1 := by
                            unfold T_X12_works_j330; exact (if_neg c48).trans (rfl)
                          refine w_loc [2, 3, 1, 0] rfl ?_
                          have jj := jn45
                          rw [eT] at jj
                          exact jj
                      · skip
                        by_cases c49 : a0 = 261
                        · skip
                          refine w_lkp (tgt := 358) (off := 288) ok dX12_works_70 (by decide) (by rw [c49]; rfl) (by decide) ?_
                          refine w_lload ok dX12_works_358 0 rfl ?_
                          refine w_lconst (v := 0) ok dX12_works_360 (by decide) ?_
                          refine w_lcmp ok dX12_works_361 ?_
                          have jn50 : WK K 0 0 376 [(0, .ref 130), (1, .int a0), (2, .long (J 153 ((I 130 38) - 1).toNatClampNeg)), (4, .long (J 153 ((I 130 38) - 2).toNatClampNeg))] [.int (T_X12_works_j376 a0 I J)] (eI f (u2 I 130 38 ((I 130 38) - 1))) (eJ f J) R n g := by
                            refine w_cS (As := [.int (T_X12_works_j376 a0 I J)]) ok dX12_works_376 iX12_is (lX12_341 rfl) (c_X12_is ro hnn hf (T_X12_works_j376 a0 I J) ) (by decide) rfl (Nat.le_of_ble_eq_true rfl) ?_
                            refine w_lstore ok dX12_works_379 (by decide) rfl ?_
                            refine w_goto (tgt := 407) ok dX12_works_381 (by decide) ?_
                            refine w_aload_n ok dX12_works_407 1 rfl ?_
                            refine w_getR ok dX12_works_408 (fX12_81 rfl) (congrArg Prod.fst s_130) rfl (r_130_37 ro) (ltM hnn (by decide)) ?_
                            refine w_aload_n ok dX12_works_411 1 rfl ?_
                            refine y_getI ok dX12_works_412 (fX12_338 rfl) (congrArg Prod.fst s_130) rfl (ltM hnn (by decide)) (sdm hf (by decide)) ?_
                            refine w_iconst (v := 1) ok dX12_works_415 (by decide) ?_
                            refine w_isub ok dX12_works_416 ?_
                            refine w_lload ok dX12_works_417 0 rfl ?_
                            refine y_last (q := (((u2 I 130 38 ((I 130 38) - 1)) 130 38) - 1).toNatClampNeg) ok dX12_works_419 s_153 (hp16 c1 c2 c9 c12 c15 c19 c24 c29 c34 c39 c44 c49) (by decide) (ltM hnn (by decide)) (sdm hf (by decide)) ?_
                            show WK K 0 0 420 [(6, .long (F_X12_is (T_X12_works_j376 a0 I J) (u2 I 130 38 ((I 130 38) - 1)) J)), (0, .ref 130), (1, .int a0), (2, .long (J 153 ((I 130 38) - 1).toNatClampNeg)), (4, .long (J 153 ((I 130 38) - 2).toNatClampNeg))] [] (eI f (u2 I 130 38 ((I 130 38) - 1))) (eJ f (S29_X12_works a0 I J)) R n g
                            refine w_lload ok dX12_works_420 0 rfl ?_
                            refine w_ldc2 ok dX12_works_422 kX12_351 ?_
                            refine w_lcmp ok dX12_works_425 ?_
                            refine w_if_gt (tgt := 442) ok dX12_works_426 (by decide) (fun c51 => ?_) (fun c51 => ?_)
                            · skip
                              refine w_iconst (v := 0) ok dX12_works_442 (by decide) ?_
                              exact w_zret ok fin dX12_works_443 rfl (by decide) (by unfold F_X12_works FI_X12_works FJ_X12_works; simp only [if_neg c1]; simp only [if_neg c2]; simp only [if_neg c9]; simp only [if_neg c12]; simp only [if_neg c15]; simp only [if_neg c19]; simp only [if_neg c24]; simp only [if_neg c29]; simp only [if_neg c34]; simp only [if_neg c39]; simp only [if_neg c44]; simp only [if_pos c49]; simp only [if_pos c51]; exact Pd.i)
                            · skip
                              refine w_lload ok dX12_works_429 0 rfl ?_
                              refine w_ldc2 ok dX12_works_431 kX12_353 ?_
                              refine w_lcmp ok dX12_works_434 ?_
                              show WK K 0 0 435 [(6, .long (F_X12_is (T_X12_works_j376 a0 I J) (u2 I 130 38 ((I 130 38) - 1)) J)), (0, .ref 130), (1, .int a0), (2, .long (J 153 ((I 130 38) - 1).toNatClampNeg)), (4, .long (J 153 ((I 130 38) - 2).toNatClampNeg))] [.int (S30_X12_works a0 I J)] (eI f (u2 I 130 38 ((I 130 38) - 1))) (eJ f (S29_X12_works a0 I J)) R n g
                              refine w_if_lt (tgt := 442) ok dX12_works_435 (by decide) (fun c52 => ?_) (fun c52 => ?_)
                              · skip
                                refine w_iconst (v := 0) ok dX12_works_442 (by decide) ?_
                                exact w_zret ok fin dX12_works_443 rfl (by decide) (by unfold F_X12_works FI_X12_works FJ_X12_works; simp only [if_neg c1]; simp only [if_neg c2]; simp only [if_neg c9]; simp only [if_neg c12]; simp only [if_neg c15]; simp only [if_neg c19]; simp only [if_neg c24]; simp only [if_neg c29]; simp only [if_neg c34]; simp only [if_neg c39]; simp only [if_neg c44]; simp only [if_pos c49]; simp only [if_neg c51]; simp only [if_pos c52]; exact Pd.i)
                              · skip
                                refine w_iconst (v := 1) ok dX12_works_438 (by decide) ?_
                                refine w_goto (tgt := 443) ok dX12_works_439 (by decide) ?_
                                exact w_zret ok fin dX12_works_443 rfl (by decide) (by unfold F_X12_works FI_X12_works FJ_X12_works; simp only [if_neg c1]; simp only [if_neg c2]; simp only [if_neg c9]; simp only [if_neg c12]; simp only [if_neg c15]; simp only [if_neg c19]; simp only [if_neg c24]; simp only [if_neg c29]; simp only [if_neg c34]; simp only [if_neg c39]; simp only [if_neg c44]; simp only [if_pos c49]; simp only [if_neg c51]; simp only [if_neg c52]; exact Pd.i)
                          refine w_if_eq (tgt := 375) ok dX12_works_362 (by decide) (fun c53 => ?_) (fun c53 => ?_)
                          · skip
                            refine w_iconst (v := 0) ok dX12_works_375 (by decide) ?_
                            have eT : (T_X12_works_j376 a0 I J) = 0 := by
                              unfold T_X12_works_j376; exact (if_pos c53).trans (rfl)
                            refine w_loc [2, 3, 1, 0] rfl ?_
                            have jj := jn50
                            rw [eT] at jj
                            exact jj
                          · skip
                            refine w_lload_n ok dX12_works_365 1 rfl ?_
                            refine w_lconst (v := 0) ok dX12_works_366 (by decide) ?_
                            refine w_lcmp ok dX12_works_367 ?_
                            refine w_if_eq (tgt := 375) ok dX12_works_368 (by decide) (fun c54 => ?_) (fun c54 => ?_)
                            · skip
                              refine w_iconst (v := 0) ok dX12_works_375 (by decide) ?_
                              have eT : (T_X12_works_j376 a0 I J) = 0 := by
                                unfold T_X12_works_j376; exact (if_neg c53).trans ((if_pos c54).trans (rfl))
                              refine w_loc [2, 3, 1, 0] rfl ?_
                              have jj := jn50
                              rw [eT] at jj
                              exact jj
                            · skip
                              refine w_iconst (v := 1) ok dX12_works_371 (by decide) ?_
                              refine w_goto (tgt := 376) ok dX12_works_372 (by decide) ?_
                              have eT : (T_X12_works_j376 a0 I J) = 1 := by
                                unfold T_X12_works_j376; exact (if_neg c53).trans ((if_neg c54).trans (rfl))
                              refine w_loc [2, 3, 1, 0] rfl ?_
                              have jj := jn50
                              rw [eT] at jj
                              exact jj
                        · skip
                          have n55 : a0.toInt ≠ 42 := ne_toInt c2
                          have n56 : a0.toInt ≠ 43 := ne_toInt c9
                          have n57 : a0.toInt ≠ 45 := ne_toInt c12
                          have n58 : a0.toInt ≠ 47 := ne_toInt c15
                          have n59 : a0.toInt ≠ 60 := ne_toInt c19
                          have n60 : a0.toInt ≠ 61 := ne_toInt c24
                          have n61 : a0.toInt ≠ 62 := ne_toInt c29
                          have n62 : a0.toInt ≠ 256 := ne_toInt c34
                          have n63 : a0.toInt ≠ 257 := ne_toInt c39
                          have n64 : a0.toInt ≠ 258 := ne_toInt c44
                          have n65 : a0.toInt ≠ 261 := ne_toInt c49
                          refine w_lkp (tgt := 384) (off := 314) ok dX12_works_70 (by decide) (by simp [Op.lookupswitch.offset, n55, n56, n57, n58, n59, n60, n61, n62, n63, n64, n65, Ne.symm n55, Ne.symm n56, Ne.symm n57, Ne.symm n58, Ne.symm n59, Ne.symm n60, Ne.symm n61, Ne.symm n62, Ne.symm n63, Ne.symm n64, Ne.symm n65]) (by decide) ?_
                          refine w_lload ok dX12_works_384 0 rfl ?_
                          refine w_lconst (v := 0) ok dX12_works_386 (by decide) ?_
                          refine w_lcmp ok dX12_works_387 ?_
                          have jn66 : WK K 0 0 402 [(0, .ref 130), (1, .int a0), (2, .long (J 153 ((I 130 38) - 1).toNatClampNeg)), (4, .long (J 153 ((I 130 38) - 2).toNatClampNeg))] [.int (T_X12_works_j402 a0 I J)] (eI f (u2 I 130 38 ((I 130 38) - 1))) (eJ f J) R n g := by
                            refine w_cS (As := [.int (T_X12_works_j402 a0 I J)]) ok dX12_works_402 iX12_is (lX12_341 rfl) (c_X12_is ro hnn hf (T_X12_works_j402 a0 I J) ) (by decide) rfl (Nat.le_of_ble_eq_true rfl) ?_
                            refine w_lstore ok dX12_works_405 (by decide) rfl ?_
                            refine w_aload_n ok dX12_works_407 1 rfl ?_
                            refine w_getR ok dX12_works_408 (fX12_81 rfl) (congrArg Prod.fst s_130) rfl (r_130_37 ro) (ltM hnn (by decide)) ?_
                            refine w_aload_n ok dX12_works_411 1 rfl ?_
                            refine y_getI ok dX12_works_412 (fX12_338 rfl) (congrArg Prod.fst s_130) rfl (ltM hnn (by decide)) (sdm hf (by decide)) ?_
                            refine w_iconst (v := 1) ok dX12_works_415 (by decide) ?_
                            refine w_isub ok dX12_works_416 ?_
                            refine w_lload ok dX12_works_417 0 rfl ?_
                            refine y_last (q := (((u2 I 130 38 ((I 130 38) - 1)) 130 38) - 1).toNatClampNeg) ok dX12_works_419 s_153 (hp17 c1 c2 c9 c12 c15 c19 c24 c29 c34 c39 c44 c49) (by decide) (ltM hnn (by decide)) (sdm hf (by decide)) ?_
                            show WK K 0 0 420 [(6, .long (F_X12_is (T_X12_works_j402 a0 I J) (u2 I 130 38 ((I 130 38) - 1)) J)), (0, .ref 130), (1, .int a0), (2, .long (J 153 ((I 130 38) - 1).toNatClampNeg)), (4, .long (J 153 ((I 130 38) - 2).toNatClampNeg))] [] (eI f (u2 I 130 38 ((I 130 38) - 1))) (eJ f (S31_X12_works a0 I J)) R n g
                            refine w_lload ok dX12_works_420 0 rfl ?_
                            refine w_ldc2 ok dX12_works_422 kX12_351 ?_
                            refine w_lcmp ok dX12_works_425 ?_
                            refine w_if_gt (tgt := 442) ok dX12_works_426 (by decide) (fun c67 => ?_) (fun c67 => ?_)
                            · skip
                              refine w_iconst (v := 0) ok dX12_works_442 (by decide) ?_
                              exact w_zret ok fin dX12_works_443 rfl (by decide) (by unfold F_X12_works FI_X12_works FJ_X12_works; simp only [if_neg c1]; simp only [if_neg c2]; simp only [if_neg c9]; simp only [if_neg c12]; simp only [if_neg c15]; simp only [if_neg c19]; simp only [if_neg c24]; simp only [if_neg c29]; simp only [if_neg c34]; simp only [if_neg c39]; simp only [if_neg c44]; simp only [if_neg c49]; simp only [if_pos c67]; exact Pd.i)
                            · skip
                              refine w_lload ok dX12_works_429 0 rfl ?_
                              refine w_ldc2 ok dX12_works_431 kX12_353 ?_
                              refine w_lcmp ok dX12_works_434 ?_
                              show WK K 0 0 435 [(6, .long (F_X12_is (T_X12_works_j402 a0 I J) (u2 I 130 38 ((I 130 38) - 1)) J)), (0, .ref 130), (1, .int a0), (2, .long (J 153 ((I 130 38) - 1).toNatClampNeg)), (4, .long (J 153 ((I 130 38) - 2).toNatClampNeg))] [.int (S32_X12_works a0 I J)] (eI f (u2 I 130 38 ((I 130 38) - 1))) (eJ f (S31_X12_works a0 I J)) R n g
                              refine w_if_lt (tgt := 442) ok dX12_works_435 (by decide) (fun c68 => ?_) (fun c68 => ?_)
                              · skip
                                refine w_iconst (v := 0) ok dX12_works_442 (by decide) ?_
                                exact w_zret ok fin dX12_works_443 rfl (by decide) (by unfold F_X12_works FI_X12_works FJ_X12_works; simp only [if_neg c1]; simp only [if_neg c2]; simp only [if_neg c9]; simp only [if_neg c12]; simp only [if_neg c15]; simp only [if_neg c19]; simp only [if_neg c24]; simp only [if_neg c29]; simp only [if_neg c34]; simp only [if_neg c39]; simp only [if_neg c44]; simp only [if_neg c49]; simp only [if_neg c67]; simp only [if_pos c68]; exact Pd.i)
                              · skip
                                refine w_iconst (v := 1) ok dX12_works_438 (by decide) ?_
                                refine w_goto (tgt := 443) ok dX12_works_439 (by decide) ?_
                                exact w_zret ok fin dX12_works_443 rfl (by decide) (by unfold F_X12_works FI_X12_works FJ_X12_works; simp only [if_neg c1]; simp only [if_neg c2]; simp only [if_neg c9]; simp only [if_neg c12]; simp only [if_neg c15]; simp only [if_neg c19]; simp only [if_neg c24]; simp only [if_neg c29]; simp only [if_neg c34]; simp only [if_neg c39]; simp only [if_neg c44]; simp only [if_neg c49]; simp only [if_neg c67]; simp only [if_neg c68]; exact Pd.i)
                          refine w_if_ne (tgt := 397) ok dX12_works_388 (by decide) (fun c69 => ?_) (fun c69 => ?_)
                          · skip
                            refine w_iconst (v := 1) ok dX12_works_397 (by decide) ?_
                            refine w_goto (tgt := 402) ok dX12_works_398 (by decide) ?_
                            have eT : (T_X12_works_j402 a0 I J) = 1 := by
                              unfold T_X12_works_j402; exact (if_neg c69).trans (rfl)
                            refine w_loc [2, 3, 1, 0] rfl ?_
                            have jj := jn66
                            rw [eT] at jj
                            exact jj
                          · skip
                            refine w_lload_n ok dX12_works_391 1 rfl ?_
                            refine w_lconst (v := 0) ok dX12_works_392 (by decide) ?_
                            refine w_lcmp ok dX12_works_393 ?_
                            refine w_if_eq (tgt := 401) ok dX12_works_394 (by decide) (fun c70 => ?_) (fun c70 => ?_)
                            · skip
                              refine w_iconst (v := 0) ok dX12_works_401 (by decide) ?_
                              have eT : (T_X12_works_j402 a0 I J) = 0 := by
                                unfold T_X12_works_j402; exact (if_pos c69).trans ((if_pos c70).trans (rfl))
                              refine w_loc [2, 3, 1, 0] rfl ?_
                              have jj := jn66
                              rw [eT] at jj
                              exact jj
                            · skip
                              refine w_iconst (v := 1) ok dX12_works_397 (by decide) ?_
                              refine w_goto (tgt := 402) ok dX12_works_398 (by decide) ?_
                              have eT : (T_X12_works_j402 a0 I J) = 1 := by
                                unfold T_X12_works_j402; exact (if_pos c69).trans ((if_neg c70).trans (rfl))
                              refine w_loc [2, 3, 1, 0] rfl ?_
                              have jj := jn66
                              rw [eT] at jj
                              exact jj
  · skip
    refine w_aload_n ok dX12_works_19 1 rfl ?_
    refine w_getR ok dX12_works_20 (fX12_81 rfl) (congrArg Prod.fst s_130) rfl (r_130_37 ro) (ltM hnn (by decide)) ?_
    refine w_aload_n ok dX12_works_23 1 rfl ?_
    refine y_getI ok dX12_works_24 (fX12_338 rfl) (congrArg Prod.fst s_130) rfl (ltM hnn (by decide)) (sdm hf (by decide)) ?_
    refine w_iconst (v := 1) ok dX12_works_27 (by decide) ?_
    refine w_isub ok dX12_works_28 ?_
    refine w_lload_n ok dX12_works_29 0 rfl ?_
    refine w_lconst (v := 0) ok dX12_works_30 (by decide) ?_
    refine w_lcmp ok dX12_works_31 ?_
    refine w_if_ne (tgt := 39) ok dX12_works_32 (by decide) (fun c71 => ?_) (fun c71 => ?_)
    · skip
      refine w_iconst (v := 0) ok dX12_works_39 (by decide) ?_
      refine w_cS (As := [.int 0]) ok dX12_works_40 iX12_is (lX12_341 rfl) (c_X12_is ro hnn hf 0 ) (by decide) rfl (Nat.le_of_ble_eq_true rfl) ?_
      show WK K 0 0 43 [(2, .long (J 153 ((I 130 38) - 1).toNatClampNeg)), (0, .ref 130), (1, .int a0)] [.long (F_X12_is 0 I J), .int ((I 130 38) - 1), .ref 153] (eI f I) (eJ f J) R n g
      refine y_last (q := ((I 130 38) - 1).toNatClampNeg) ok dX12_works_43 s_153 (hp18 c1 c71) (by decide) (ltM hnn (by decide)) (sdm hf (by decide)) ?_
      refine w_iconst (v := 1) ok dX12_works_44 (by decide) ?_
      exact w_zret ok fin dX12_works_45 rfl (by decide) (by unfold F_X12_works FI_X12_works FJ_X12_works; simp only [if_pos c1]; simp only [if_neg c71]; exact Pd.i)
    · skip
      refine w_iconst (v := 1) ok dX12_works_35 (by decide) ?_
      refine w_goto (tgt := 40) ok dX12_works_36 (by decide) ?_
      refine w_cS (As := [.int 1]) ok dX12_works_40 iX12_is (lX12_341 rfl) (c_X12_is ro hnn hf 1 ) (by decide) rfl (Nat.le_of_ble_eq_true rfl) ?_
      show WK K 0 0 43 [(2, .long (J 153 ((I 130 38) - 1).toNatClampNeg)), (0, .ref 130), (1, .int a0)] [.long (F_X12_is 1 I J), .int ((I 130 38) - 1), .ref 153] (eI f I) (eJ f J) R n g
      refine y_last (q := ((I 130 38) - 1).toNatClampNeg) ok dX12_works_43 s_153 (hp19 c1 c71) (by decide) (ltM hnn (by decide)) (sdm hf (by decide)) ?_
      refine w_iconst (v := 1) ok dX12_works_44 (by decide) ?_
      exact w_zret ok fin dX12_works_45 rfl (by decide) (by unfold F_X12_works FI_X12_works FJ_X12_works; simp only [if_pos c1]; simp only [if_pos c71]; exact Pd.i)
