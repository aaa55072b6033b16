/-! printed by wip/whole/gen_c.py: contracts by program -/
def T_X0_filmOneAgain_j84_2 (I : SI) (J : SJ) (i2 : Nat) (s2 : SJ) : Int64 := if (lg_cmp (F_X0_againWorth (nI i2) I s2) (-9223372036854775808)) = 0 then ((atF (I 10) 8 (nI i2)).toInt64) else (maxL (0) (minL (999) (F_X0_againWorth (nI i2) I s2)))
def S1_X0_filmOneAgain (I : SI) (J : SJ) (i2 : Nat) (s2 : SJ) : SI := FI_X0_filmAgain (nI i2) (u2 I 105 1 ((I 105 1) - ((T_X0_filmOneAgain_j84_2 I J i2 s2).toInt32))) (FJ_X0_againWorth (nI i2) I s2)
def B_X0_filmOneAgain_l2_2 (I : SI) (J : SJ) (i2 : Nat) (s2 : SJ) : (SJ) ⊕ (SI × SJ) := if (atF (I 107) 8 (nI i2)) = 0 then .inl s2 else (if (F_X5_clashing 105 (nI i2) I s2) ≤ 0 then .inl s2 else (if (lg_cmp ((I 105 1).toInt64) (T_X0_filmOneAgain_j84_2 I J i2 s2)) < 0 then .inl (FJ_X0_againWorth (nI i2) I s2) else .inr ((S1_X0_filmOneAgain I J i2 s2), (FJ_X0_againWorth (nI i2) I s2))))
def F_X0_filmOneAgain_l2_2 (I : SI) (J : SJ) (s0 : SJ) : (SJ) ⊕ (SI × SJ) := itE (B_X0_filmOneAgain_l2_2 I J) ((I 8 1).toNatClampNeg) 0 s0
def FI_X0_filmOneAgain  (I : SI) (J : SJ) : SI := (match (F_X0_filmOneAgain_l2_2 I J J) with | .inl se2 => I | .inr re2 => re2.1)
def FJ_X0_filmOneAgain  (I : SI) (J : SJ) : SJ := (match (F_X0_filmOneAgain_l2_2 I J J) with | .inl se2 => se2 | .inr re2 => re2.2)
def H_X0_filmOneAgain  (I : SI) (J : SJ) : Prop := (∀ (i2 : Nat) (s2 : SJ), i2 < (I 8 1).toNatClampNeg → itE (B_X0_filmOneAgain_l2_2 I J) i2 0 J = .inl s2 → ¬ ((atF (I 107) 8 (nI i2)) = 0) → ¬ ((F_X5_clashing 105 (nI i2) I s2) ≤ 0) → H_X0_againWorth (nI i2) I s2) ∧ (∀ (i2 : Nat) (s2 : SJ), i2 < (I 8 1).toNatClampNeg → itE (B_X0_filmOneAgain_l2_2 I J) i2 0 J = .inl s2 → ¬ ((atF (I 107) 8 (nI i2)) = 0) → ¬ ((F_X5_clashing 105 (nI i2) I s2) ≤ 0) → ¬ ((lg_cmp ((I 105 1).toInt64) (T_X0_filmOneAgain_j84_2 I J i2 s2)) < 0) → H_X0_filmAgain (nI i2) (u2 I 105 1 ((I 105 1) - ((T_X0_filmOneAgain_j84_2 I J i2 s2).toInt32))) (FJ_X0_againWorth (nI i2) I s2))
set_option maxHeartbeats 1270000 in
set_option maxRecDepth 40000 in
theorem c_X0_filmOneAgain {I : SI} {J : SJ} {R : SR} {n g : Nat} {f : Fr} (ro : RO R) (hnn : nK ≤ n) (hf : f.1 = true)   (hp : H_X0_filmOneAgain  I J) : MM 4 0 0 mX0_filmOneAgain [.ref 104] (eI f I) (eJ f J) R n g (Pd none (eI f (FI_X0_filmOneAgain  I J)) (eJ f (FJ_X0_filmOneAgain  I J)) R n g) := by
  refine MM.of (by decide) (Nat.le_of_ble_eq_true rfl) fun K ok fin => ?_
  show WK K 0 0 0 [(0, .ref 104)] [] (eI f I) (eJ f J) R n g
  obtain ⟨hp1, hp2⟩ := hp
  refine w_iconst (v := 0) ok dX0_filmOneAgain_0 (by decide) ?_
  refine w_istore_n ok dX0_filmOneAgain_1 rfl (by decide) rfl ?_
  refine w_loc [1, 0] rfl ?_
  refine loop_e (σ := SJ) (ρ := SI × SJ) (fun (i2 : Nat) (s2 : SJ) => WK K 0 0 2 [(0, .ref 104), (1, .int (nI i2))] [] (eI f I) (eJ f s2) R n g) (B_X0_filmOneAgain_l2_2 I J) ((I 8 1).toNatClampNeg) (J) ?_ ?_
  · intro se2 he2
    have he2 : (F_X0_filmOneAgain_l2_2 I J J) = .inl se2 := he2
    show WK K 0 0 2 [(0, .ref 104), (1, .int (nI ((I 8 1).toNatClampNeg)))] [] (eI f I) (eJ f se2) R n g
    have e1 : (I 8 1) ≤ (nI ((I 8 1).toNatClampNeg)) := cnt_ge _
    refine w_iload_n ok dX0_filmOneAgain_2 1 rfl ?_
    refine w_aload_n ok dX0_filmOneAgain_3 0 rfl ?_
    refine w_getR ok dX0_filmOneAgain_4 (fX0_40 rfl) (congrArg Prod.fst s_104) rfl (r_104_3 ro) (ltK hnn (by decide)) ?_
    refine w_getR ok dX0_filmOneAgain_7 (fX0_77 rfl) (congrArg Prod.fst s_2) rfl (r_2_1 ro) (ltK hnn (by decide)) ?_
    refine y_getI ok dX0_filmOneAgain_10 (fX0_80 rfl) (congrArg Prod.fst s_8) rfl (ltK hnn (by decide)) (sdc hf (by decide)) ?_
    refine w_icmp_ge (tgt := 127) ok dX0_filmOneAgain_13 (by decide) (fun _ => ?_) (fun h => absurd e1 h)
    exact w_vret ok fin dX0_filmOneAgain_127 rfl (by unfold FI_X0_filmOneAgain FJ_X0_filmOneAgain; simp only [he2]; exact Pd.i)
  · intro i2 s2 hi2 hs2 k2 kr2
    show WK K 0 0 2 [(0, .ref 104), (1, .int (nI i2))] [] (eI f I) (eJ f s2) R n g
    have e2 : ¬ ((I 8 1) ≤ (nI i2)) := cnt_lt hi2
    refine w_iload_n ok dX0_filmOneAgain_2 1 rfl ?_
    refine w_aload_n ok dX0_filmOneAgain_3 0 rfl ?_
    refine w_getR ok dX0_filmOneAgain_4 (fX0_40 rfl) (congrArg Prod.fst s_104) rfl (r_104_3 ro) (ltK hnn (by decide)) ?_
    refine w_getR ok dX0_filmOneAgain_7 (fX0_77 rfl) (congrArg Prod.fst s_2) rfl (r_2_1 ro) (ltK hnn (by decide)) ?_
    refine y_getI ok dX0_filmOneAgain_10 (fX0_80 rfl) (congrArg Prod.fst s_8) rfl (ltK hnn (by decide)) (sdc hf (by decide)) ?_
    refine w_icmp_ge (tgt := 127) ok dX0_filmOneAgain_13 (by decide) (fun h => absurd h e2) (fun _ => ?_)
    refine w_aload_n ok dX0_filmOneAgain_16 0 rfl ?_
    refine w_getR ok dX0_filmOneAgain_17 (fX0_12 rfl) (congrArg Prod.fst s_104) rfl (r_104_0 ro) (ltK hnn (by decide)) ?_
    refine w_getR ok dX0_filmOneAgain_20 (fX0_83 rfl) (congrArg Prod.fst s_105) rfl (r_105_8 ro) (ltK hnn (by decide)) ?_
    refine w_iload_n ok dX0_filmOneAgain_23 1 rfl ?_
    refine w_cS (As := [.ref 107, .int (nI i2)]) ok dX0_filmOneAgain_24 iX11_at (lX0_86 rfl) (c_at s_107 (ltK hnn (by decide)) (sdc hf (by decide)) (nI i2)) (by decide) rfl (Nat.le_of_ble_eq_true rfl) ?_
    refine w_if_eq (tgt := 121) ok dX0_filmOneAgain_27 (by decide) (fun c3 => ?_) (fun c3 => ?_)
    · skip
      refine w_iinc (v := (nI i2) + 1) ok dX0_filmOneAgain_121 1 rfl rfl (by decide) rfl ?_
      refine w_goto (tgt := 2) ok dX0_filmOneAgain_124 (by decide) ?_
      have eB : B_X0_filmOneAgain_l2_2 I J i2 s2 = .inl s2 := by
        unfold B_X0_filmOneAgain_l2_2; exact (if_pos c3).trans (rfl)
      have kk := k2 _ eB
      refine w_loc [1, 0] rfl ?_
      rw [nI_1 i2]
      exact kk
    · skip
      refine w_aload_n ok dX0_filmOneAgain_30 0 rfl ?_
      refine w_getR ok dX0_filmOneAgain_31 (fX0_12 rfl) (congrArg Prod.fst s_104) rfl (r_104_0 ro) (ltK hnn (by decide)) ?_
      refine w_iload_n ok dX0_filmOneAgain_34 1 rfl ?_
      refine w_cV (As := [.int (nI i2)]) ok dX0_filmOneAgain_35 iX5_clashing (lX0_171 rfl) (rcv cls5 (congrArg Prod.fst s_105)) (ltK hnn (by decide)) (c_X5_clashing ro hnn hf (nI i2) isSc_105) (by decide) rfl (Nat.le_of_ble_eq_true rfl) ?_
      refine w_if_le (tgt := 121) ok dX0_filmOneAgain_38 (by decide) (fun c4 => ?_) (fun c4 => ?_)
      · skip
        refine w_iinc (v := (nI i2) + 1) ok dX0_filmOneAgain_121 1 rfl rfl (by decide) rfl ?_
        refine w_goto (tgt := 2) ok dX0_filmOneAgain_124 (by decide) ?_
        have eB : B_X0_filmOneAgain_l2_2 I J i2 s2 = .inl s2 := by
          unfold B_X0_filmOneAgain_l2_2; exact (if_neg c3).trans ((if_pos c4).trans (rfl))
        have kk := k2 _ eB
        refine w_loc [1, 0] rfl ?_
        rw [nI_1 i2]
        exact kk
      · skip
        refine w_aload_n ok dX0_filmOneAgain_41 0 rfl ?_
        refine w_iload_n ok dX0_filmOneAgain_42 1 rfl ?_
        refine w_cV (As := [.int (nI i2)]) ok dX0_filmOneAgain_43 iX0_againWorth (lX0_175 rfl) (rcv cls0 (congrArg Prod.fst s_104)) (ltK hnn (by decide)) (c_X0_againWorth ro hnn hf (nI i2)  (hp1 i2 s2 hi2 hs2 c3 c4)) (by decide) rfl (Nat.le_of_ble_eq_true rfl) ?_
        refine w_lstore_n ok dX0_filmOneAgain_46 rfl (by decide) rfl ?_
        refine w_lload_n ok dX0_filmOneAgain_47 0 rfl ?_
        refine w_ldc2 ok dX0_filmOneAgain_48 kX0_181 ?_
        refine w_lcmp ok dX0_filmOneAgain_51 ?_
        have jn5 : WK K 0 0 84 [(0, .ref 104), (1, .int (nI i2)), (2, .long (F_X0_againWorth (nI i2) I s2))] [.long (T_X0_filmOneAgain_j84_2 I J i2 s2)] (eI f I) (eJ f (FJ_X0_againWorth (nI i2) I s2)) R n g := by
          refine w_lstore ok dX0_filmOneAgain_84 (by decide) rfl ?_
          refine w_aload_n ok dX0_filmOneAgain_86 1 rfl ?_
          refine w_getR ok dX0_filmOneAgain_87 (fX0_12 rfl) (congrArg Prod.fst s_104) rfl (r_104_0 ro) (ltK hnn (by decide)) ?_
          refine y_getI ok dX0_filmOneAgain_90 (fX0_194 rfl) (congrArg Prod.fst s_105) rfl (ltK hnn (by decide)) (sdc hf (by decide)) ?_
          refine w_i2l ok dX0_filmOneAgain_93 ?_
          refine w_lload ok dX0_filmOneAgain_94 0 rfl ?_
          refine w_lcmp ok dX0_filmOneAgain_96 ?_
          refine w_if_lt (tgt := 121) ok dX0_filmOneAgain_97 (by decide) (fun c6 => ?_) (fun c6 => ?_)
          · skip
            refine w_iinc (v := (nI i2) + 1) ok dX0_filmOneAgain_121 2 rfl rfl (by decide) rfl ?_
            refine w_goto (tgt := 2) ok dX0_filmOneAgain_124 (by decide) ?_
            have eB : B_X0_filmOneAgain_l2_2 I J i2 s2 = .inl (FJ_X0_againWorth (nI i2) I s2) := by
              unfold B_X0_filmOneAgain_l2_2; exact (if_neg c3).trans ((if_neg c4).trans ((if_pos c6).trans (rfl)))
            have kk := k2 _ eB
            refine w_loc [2, 0] rfl ?_
            rw [nI_1 i2]
            exact kk
          · skip
            refine w_aload_n ok dX0_filmOneAgain_100 1 rfl ?_
            refine w_getR ok dX0_filmOneAgain_101 (fX0_12 rfl) (congrArg Prod.fst s_104) rfl (r_104_0 ro) (ltK hnn (by decide)) ?_
            refine w_dup ok dX0_filmOneAgain_104 rfl ?_
            refine y_getI ok dX0_filmOneAgain_105 (fX0_194 rfl) (congrArg Prod.fst s_105) rfl (ltK hnn (by decide)) (sdc hf (by decide)) ?_
            refine w_lload ok dX0_filmOneAgain_108 0 rfl ?_
            refine w_l2i ok dX0_filmOneAgain_110 ?_
            refine w_isub ok dX0_filmOneAgain_111 ?_
            refine y_putI ok dX0_filmOneAgain_112 (fwX0_194 rfl) (congrArg Prod.fst s_105) rfl (ltK hnn (by decide)) (sdc hf (by decide)) ?_
            refine w_aload_n ok dX0_filmOneAgain_115 1 rfl ?_
            refine w_iload_n ok dX0_filmOneAgain_116 2 rfl ?_
            refine w_cV (As := [.int (nI i2)]) ok dX0_filmOneAgain_117 iX0_filmAgain (lX0_197 rfl) (rcv cls0 (congrArg Prod.fst s_104)) (ltK hnn (by decide)) (c_X0_filmAgain ro hnn hf (nI i2)  (hp2 i2 s2 hi2 hs2 c3 c4 c6)) (by decide) rfl (Nat.le_of_ble_eq_true rfl) ?_
            show WK K 0 0 120 [(4, .long (T_X0_filmOneAgain_j84_2 I J i2 s2)), (0, .ref 104), (1, .int (nI i2)), (2, .long (F_X0_againWorth (nI i2) I s2))] [] (eI f (S1_X0_filmOneAgain I J i2 s2)) (eJ f (FJ_X0_againWorth (nI i2) I s2)) R n g
            have eB : B_X0_filmOneAgain_l2_2 I J i2 s2 = .inr ((S1_X0_filmOneAgain I J i2 s2), (FJ_X0_againWorth (nI i2) I s2)) := by
              unfold B_X0_filmOneAgain_l2_2; exact (if_neg c3).trans ((if_neg c4).trans ((if_neg c6).trans (rfl)))
            have hr : (F_X0_filmOneAgain_l2_2 I J J) = .inr ((S1_X0_filmOneAgain I J i2 s2), (FJ_X0_againWorth (nI i2) I s2)) := kr2 _ eB
            exact w_vret ok fin dX0_filmOneAgain_120 rfl (by unfold FI_X0_filmOneAgain FJ_X0_filmOneAgain; simp only [hr]; exact Pd.i)
        refine w_if_ne (tgt := 73) ok dX0_filmOneAgain_52 (by decide) (fun c7 => ?_) (fun c7 => ?_)
        · skip
          refine w_lconst (v := 0) ok dX0_filmOneAgain_73 (by decide) ?_
          refine w_ldc2 ok dX0_filmOneAgain_74 kX0_183 ?_
          refine w_lload_n ok dX0_filmOneAgain_77 0 rfl ?_
          refine w_minL ok dX0_filmOneAgain_78 (iT_5 7 (by decide +kernel) (by decide +kernel)) (Nat.le_of_ble_eq_true rfl) ?_
          show WK K 0 0 81 [(2, .long (F_X0_againWorth (nI i2) I s2)), (0, .ref 104), (1, .int (nI i2))] [.long (minL (999) (F_X0_againWorth (nI i2) I s2)), .long 0] (eI f I) (eJ f (FJ_X0_againWorth (nI i2) I s2)) R n g
          refine w_maxL ok dX0_filmOneAgain_81 (iT_5 10 (by decide +kernel) (by decide +kernel)) (Nat.le_of_ble_eq_true rfl) ?_
          have eT : (T_X0_filmOneAgain_j84_2 I J i2 s2) = (maxL (0) (minL (999) (F_X0_againWorth (nI i2) I s2))) := by
            unfold T_X0_filmOneAgain_j84_2; exact (if_neg c7).trans (rfl)
          refine w_loc [1, 2, 0] rfl ?_
          have jj := jn5
          rw [eT] at jj
          exact jj
        · skip
          refine w_aload_n ok dX0_filmOneAgain_55 1 rfl ?_
          refine w_getR ok dX0_filmOneAgain_56 (fX0_40 rfl) (congrArg Prod.fst s_104) rfl (r_104_3 ro) (ltK hnn (by decide)) ?_
          refine w_getR ok dX0_filmOneAgain_59 (fX0_77 rfl) (congrArg Prod.fst s_2) rfl (r_2_1 ro) (ltK hnn (by decide)) ?_
          refine w_getR ok dX0_filmOneAgain_62 (fX0_54 rfl) (congrArg Prod.fst s_8) rfl (r_8_3 ro) (ltK hnn (by decide)) ?_
          refine w_iload_n ok dX0_filmOneAgain_65 2 rfl ?_
          refine w_cS (As := [.ref 10, .int (nI i2)]) ok dX0_filmOneAgain_66 iX11_at (lX0_86 rfl) (c_at s_10 (ltK hnn (by decide)) (sdc hf (by decide)) (nI i2)) (by decide) rfl (Nat.le_of_ble_eq_true rfl) ?_
          refine w_i2l ok dX0_filmOneAgain_69 ?_
          refine w_goto (tgt := 84) ok dX0_filmOneAgain_70 (by decide) ?_
          have eT : (T_X0_filmOneAgain_j84_2 I J i2 s2) = ((atF (I 10) 8 (nI i2)).toInt64) := by
            unfold T_X0_filmOneAgain_j84_2; exact (if_pos c7).trans (rfl)
          refine w_loc [1, 2, 0] rfl ?_
          have jj := jn5
          rw [eT] at jj
          exact jj
def T_X4_lawLine_j91 (I : SI) (J : SJ) : SI := if ((FI_X8_step  I J) 69 0) = 0 then (FI_X8_step  I J) else (FI_X4_fail 3 (FI_X8_step  I J) J)
def T_X4_lawLine_j91_2 (I : SI) (J : SJ) : SI := if ((FI_X8_step  I J) 73 0) = 0 then (FI_X8_step  I J) else (FI_X4_fail 3 (FI_X8_step  I J) J)
def T_X4_lawLine_j91_3 (I : SI) (J : SJ) : SI := if ((FI_X8_step  I J) 77 0) = 0 then (FI_X8_step  I J) else (FI_X4_fail 3 (FI_X8_step  I J) J)
def FI_X4_lawLine  (I : SI) (J : SJ) : SI := if ((FI_X8_step  I J) 81 5) = 30 then FI_X4_side 69 (FI_X8_step  (u2 (T_X4_lawLine_j91 I J) 69 0 1) J) J else (if ((FI_X8_step  I J) 81 5) = 31 then FI_X4_side 73 (FI_X8_step  (u2 (T_X4_lawLine_j91_2 I J) 73 0 1) J) J else (if ((FI_X8_step  I J) 81 5) = 32 then FI_X4_side 77 (FI_X8_step  (u2 (T_X4_lawLine_j91_3 I J) 77 0 1) J) J else FI_X4_fail 1 (FI_X8_step  I J) J))
def H_X4_lawLine  (I : SI) (J : SJ) : Prop := (H_X8_step  I J) ∧ (((FI_X8_step  I J) 81 5) = 30 → H_X8_step  (u2 (T_X4_lawLine_j91 I J) 69 0 1) J) ∧ (((FI_X8_step  I J) 81 5) = 30 → H_X4_side 69 (FI_X8_step  (u2 (T_X4_lawLine_j91 I J) 69 0 1) J) J) ∧ (¬ (((FI_X8_step  I J) 81 5) = 30) → ((FI_X8_step  I J) 81 5) = 31 → H_X8_step  (u2 (T_X4_lawLine_j91_2 I J) 73 0 1) J) ∧ (¬ (((FI_X8_step  I J) 81 5) = 30) → ((FI_X8_step  I J) 81 5) = 31 → H_X4_side 73 (FI_X8_step  (u2 (T_X4_lawLine_j91_2 I J) 73 0 1) J) J) ∧ (¬ (((FI_X8_step  I J) 81 5) = 30) → ¬ (((FI_X8_step  I J) 81 5) = 31) → ((FI_X8_step  I J) 81 5) = 32 → H_X8_step  (u2 (T_X4_lawLine_j91_3 I J) 77 0 1) J) ∧ (¬ (((FI_X8_step  I J) 81 5) = 30) → ¬ (((FI_X8_step  I J) 81 5) = 31) → ((FI_X8_step  I J) 81 5) = 32 → H_X4_side 77 (FI_X8_step  (u2 (T_X4_lawLine_j91_3 I J) 77 0 1) J) J)
set_option maxHeartbeats 1490000 in
set_option maxRecDepth 40000 in
theorem c_X4_lawLine {I : SI} {J : SJ} {R : SR} {n g : Nat} {f : Fr} (ro : RO R) (hnn : nK ≤ n) (hf : f.1 = true)  (htp : R 81 1 = some 1)  (hp : H_X4_lawLine  I J) : MM 4 0 0 mX4_lawLine [.ref 41] (eI f I) (eJ f J) R n g (Pd none (eI f (FI_X4_lawLine  I J)) (eJ f J) R n g) := by
  refine MM.of (by decide) (Nat.le_of_ble_eq_true rfl) fun K ok fin => ?_
  show WK K 0 0 0 [(0, .ref 41)] [] (eI f I) (eJ f J) R n g
  obtain ⟨hp1, hp2, hp3, hp4, hp5, hp6, hp7⟩ := hp
  refine w_aload_n ok dX4_lawLine_0 0 rfl ?_
  refine w_getR ok dX4_lawLine_1 (fX4_28 rfl) (congrArg Prod.fst s_41) rfl (r_41_3 ro) (ltK hnn (by decide)) ?_
  refine w_cV (As := []) ok dX4_lawLine_4 iX8_step (lX4_65 rfl) (rcv cls8 (congrArg Prod.fst s_81)) (ltK hnn (by decide)) (c_X8_step ro hnn hf  htp (hp1)) (by decide) rfl (Nat.le_of_ble_eq_true rfl) ?_
  refine w_aload_n ok dX4_lawLine_7 0 rfl ?_
  refine w_getR ok dX4_lawLine_8 (fX4_28 rfl) (congrArg Prod.fst s_41) rfl (r_41_3 ro) (ltK hnn (by decide)) ?_
  refine y_getI ok dX4_lawLine_11 (fX4_52 rfl) (congrArg Prod.fst s_81) rfl (ltK hnn (by decide)) (sdc hf (by decide)) ?_
  refine w_istore_n ok dX4_lawLine_14 rfl (by decide) rfl ?_
  refine w_iload_n ok dX4_lawLine_15 0 rfl ?_
  refine w_bipush (v := 30) ok dX4_lawLine_16 (by decide) ?_
  refine w_icmp_eq (tgt := 39) ok dX4_lawLine_18 (by decide) (fun c1 => ?_) (fun c1 => ?_)
  · skip
    refine w_iload_n ok dX4_lawLine_39 0 rfl ?_
    refine w_bipush (v := 30) ok dX4_lawLine_40 (by decide) ?_
    refine w_icmp_ne (tgt := 55) ok dX4_lawLine_42 (by decide) (fun h => absurd c1 h) (fun _ => ?_)
    refine w_aload_n ok dX4_lawLine_45 1 rfl ?_
    refine w_getR ok dX4_lawLine_46 (fX4_12 rfl) (congrArg Prod.fst s_41) rfl (r_41_0 ro) (ltK hnn (by decide)) ?_
    refine w_getR ok dX4_lawLine_49 (fX4_173 rfl) (congrArg Prod.fst s_42) rfl (r_42_12 ro) (ltK hnn (by decide)) ?_
    refine w_goto (tgt := 78) ok dX4_lawLine_52 (by decide) ?_
    refine w_astore_n ok dX4_lawLine_78 rfl (by decide) rfl ?_
    refine w_aload_n ok dX4_lawLine_79 0 rfl ?_
    refine y_getI ok dX4_lawLine_80 (fX4_183 rfl) (congrArg Prod.fst s_69) rfl (ltK hnn (by decide)) (sdc hf (by decide)) ?_
    have jn2 : WK K 0 0 91 [(0, .ref 41), (1, .int ((FI_X8_step  I J) 81 5)), (2, .ref 69)] [] (eI f (T_X4_lawLine_j91 I J)) (eJ f J) R n g := by
      refine w_aload_n ok dX4_lawLine_91 2 rfl ?_
      refine w_iconst (v := 1) ok dX4_lawLine_92 (by decide) ?_
      refine y_putZ ok dX4_lawLine_93 (fwX4_183 rfl) (congrArg Prod.fst s_69) rfl (by decide) (ltK hnn (by decide)) (sdc hf (by decide)) ?_
      refine w_aload_n ok dX4_lawLine_96 0 rfl ?_
      refine w_getR ok dX4_lawLine_97 (fX4_28 rfl) (congrArg Prod.fst s_41) rfl (r_41_3 ro) (ltK hnn (by decide)) ?_
      refine w_cV (As := []) ok dX4_lawLine_100 iX8_step (lX4_65 rfl) (rcv cls8 (congrArg Prod.fst s_81)) (ltK hnn (by decide)) (c_X8_step ro hnn hf  htp (hp2 c1)) (by decide) rfl (Nat.le_of_ble_eq_true rfl) ?_
      refine w_aload_n ok dX4_lawLine_103 0 rfl ?_
      refine w_aload_n ok dX4_lawLine_104 2 rfl ?_
      refine w_cV (As := [.ref 69]) ok dX4_lawLine_105 iX4_side (lX4_188 rfl) (rcv cls4 (congrArg Prod.fst s_41)) (ltK hnn (by decide)) (c_X4_side ro hnn hf  isLw_69 htp (hp3 c1)) (by decide) rfl (Nat.le_of_ble_eq_true rfl) ?_
      exact w_vret ok fin dX4_lawLine_108 rfl (by unfold FI_X4_lawLine; simp only [if_pos c1]; exact Pd.i)
    refine w_if_eq (tgt := 91) ok dX4_lawLine_83 (by decide) (fun c3 => ?_) (fun c3 => ?_)
    · skip
      have eT : (T_X4_lawLine_j91 I J) = (FI_X8_step  I J) := by
        unfold T_X4_lawLine_j91; exact (if_pos c3).trans (rfl)
      refine w_loc [2, 1, 0] rfl ?_
      have jj := jn2
      rw [eT] at jj
      exact jj
    · skip
      refine w_aload_n ok dX4_lawLine_86 2 rfl ?_
      refine w_iconst (v := 3) ok dX4_lawLine_87 (by decide) ?_
      refine w_cV (As := [.int 3]) ok dX4_lawLine_88 iX4_fail (lX4_58 rfl) (rcv cls4 (congrArg Prod.fst s_41)) (ltK hnn (by decide)) (c_X4_fail ro hnn hf 3 ) (by decide) rfl (Nat.le_of_ble_eq_true rfl) ?_
      have eT : (T_X4_lawLine_j91 I J) = (FI_X4_fail 3 (FI_X8_step  I J) J) := by
        unfold T_X4_lawLine_j91; exact (if_neg c3).trans (rfl)
      refine w_loc [2, 1, 0] rfl ?_
      have jj := jn2
      rw [eT] at jj
      exact jj
  · skip
    refine w_iload_n ok dX4_lawLine_21 0 rfl ?_
    refine w_bipush (v := 31) ok dX4_lawLine_22 (by decide) ?_
    refine w_icmp_eq (tgt := 39) ok dX4_lawLine_24 (by decide) (fun c4 => ?_) (fun c4 => ?_)
    · skip
      refine w_iload_n ok dX4_lawLine_39 0 rfl ?_
      refine w_bipush (v := 30) ok dX4_lawLine_40 (by decide) ?_
      refine w_icmp_ne (tgt := 55) ok dX4_lawLine_42 (by decide) (fun _ => ?_) (fun h => absurd h c1)
      refine w_iload_n ok dX4_lawLine_55 0 rfl ?_
      refine w_bipush (v := 31) ok dX4_lawLine_56 (by decide) ?_
      refine w_icmp_ne (tgt := 71) ok dX4_lawLine_58 (by decide) (fun h => absurd c4 h) (fun _ => ?_)
      refine w_aload_n ok dX4_lawLine_61 1 rfl ?_
      refine w_getR ok dX4_lawLine_62 (fX4_12 rfl) (congrArg Prod.fst s_41) rfl (r_41_0 ro) (ltK hnn (by decide)) ?_
      refine w_getR ok dX4_lawLine_65 (fX4_177 rfl) (congrArg Prod.fst s_42) rfl (r_42_13 ro) (ltK hnn (by decide)) ?_
      refine w_goto (tgt := 78) ok dX4_lawLine_68 (by decide) ?_
      refine w_astore_n ok dX4_lawLine_78 rfl (by decide) rfl ?_
      refine w_aload_n ok dX4_lawLine_79 0 rfl ?_
      refine y_getI ok dX4_lawLine_80 (fX4_183 rfl) (congrArg Prod.fst s_73) rfl (ltK hnn (by decide)) (sdc hf (by decide)) ?_
      have jn5 : WK K 0 0 91 [(0, .ref 41), (1, .int ((FI_X8_step  I J) 81 5)), (2, .ref 73)] [] (eI f (T_X4_lawLine_j91_2 I J)) (eJ f J) R n g := by
        refine w_aload_n ok dX4_lawLine_91 2 rfl ?_
        refine w_iconst (v := 1) ok dX4_lawLine_92 (by decide) ?_
        refine y_putZ ok dX4_lawLine_93 (fwX4_183 rfl) (congrArg Prod.fst s_73) rfl (by decide) (ltK hnn (by decide)) (sdc hf (by decide)) ?_
        refine w_aload_n ok dX4_lawLine_96 0 rfl ?_
        refine w_getR ok dX4_lawLine_97 (fX4_28 rfl) (congrArg Prod.fst s_41) rfl (r_41_3 ro) (ltK hnn (by decide)) ?_
        refine w_cV (As := []) ok dX4_lawLine_100 iX8_step (lX4_65 rfl) (rcv cls8 (congrArg Prod.fst s_81)) (ltK hnn (by decide)) (c_X8_step ro hnn hf  htp (hp4 c1 c4)) (by decide) rfl (Nat.le_of_ble_eq_true rfl) ?_
        refine w_aload_n ok dX4_lawLine_103 0 rfl ?_
        refine w_aload_n ok dX4_lawLine_104 2 rfl ?_
        refine w_cV (As := [.ref 73]) ok dX4_lawLine_105 iX4_side (lX4_188 rfl) (rcv cls4 (congrArg Prod.fst s_41)) (ltK hnn (by decide)) (c_X4_side ro hnn hf  isLw_73 htp (hp5 c1 c4)) (by decide) rfl (Nat.le_of_ble_eq_true rfl) ?_
        exact w_vret ok fin dX4_lawLine_108 rfl (by unfold FI_X4_lawLine; simp only [if_neg c1]; simp only [if_pos c4]; exact Pd.i)
      refine w_if_eq (tgt := 91) ok dX4_lawLine_83 (by decide) (fun c6 => ?_) (fun c6 => ?_)
      · skip
        have eT : (T_X4_lawLine_j91_2 I J) = (FI_X8_step  I J) := by
          unfold T_X4_lawLine_j91_2; exact (if_pos c6).trans (rfl)
        refine w_loc [2, 1, 0] rfl ?_
        have jj := jn5
        rw [eT] at jj
        exact jj
      · skip
        refine w_aload_n ok dX4_lawLine_86 2 rfl ?_
        refine w_iconst (v := 3) ok dX4_lawLine_87 (by decide) ?_
        refine w_cV (As := [.int 3]) ok dX4_lawLine_88 iX4_fail (lX4_58 rfl) (rcv cls4 (congrArg Prod.fst s_41)) (ltK hnn (by decide)) (c_X4_fail ro hnn hf 3 ) (by decide) rfl (Nat.le_of_ble_eq_true rfl) ?_
        have eT : (T_X4_lawLine_j91_2 I J) = (FI_X4_fail 3 (FI_X8_step  I J) J) := by
          unfold T_X4_lawLine_j91_2; exact (if_neg c6).trans (rfl)
        refine w_loc [2, 1, 0] rfl ?_
        have jj := jn5
        rw [eT] at jj
        exact jj
    · skip
      refine w_iload_n ok dX4_lawLine_27 0 rfl ?_
      refine w_bipush (v := 32) ok dX4_lawLine_28 (by decide) ?_
      refine w_icmp_eq (tgt := 39) ok dX4_lawLine_30 (by decide) (fun c7 => ?_) (fun c7 => ?_)
      · skip
        refine w_iload_n ok dX4_lawLine_39 0 rfl ?_
        refine w_bipush (v := 30) ok dX4_lawLine_40 (by decide) ?_
        refine w_icmp_ne (tgt := 55) ok dX4_lawLine_42 (by decide) (fun _ => ?_) (fun h => absurd h c1)
        refine w_iload_n ok dX4_lawLine_55 0 rfl ?_
        refine w_bipush (v := 31) ok dX4_lawLine_56 (by decide) ?_
        refine w_icmp_ne (tgt := 71) ok dX4_lawLine_58 (by decide) (fun _ => ?_) (fun h => absurd h c4)
        refine w_aload_n ok dX4_lawLine_71 1 rfl ?_
        refine w_getR ok dX4_lawLine_72 (fX4_12 rfl) (congrArg Prod.fst s_41) rfl (r_41_0 ro) (ltK hnn (by decide)) ?_
        refine w_getR ok dX4_lawLine_75 (fX4_180 rfl) (congrArg Prod.fst s_42) rfl (r_42_14 ro) (ltK hnn (by decide)) ?_
        refine w_astore_n ok dX4_lawLine_78 rfl (by decide) rfl ?_
        refine w_aload_n ok dX4_lawLine_79 0 rfl ?_
        refine y_getI ok dX4_lawLine_80 (fX4_183 rfl) (congrArg Prod.fst s_77) rfl (ltK hnn (by decide)) (sdc hf (by decide)) ?_
        have jn8 : WK K 0 0 91 [(0, .ref 41), (1, .int ((FI_X8_step  I J) 81 5)), (2, .ref 77)] [] (eI f (T_X4_lawLine_j91_3 I J)) (eJ f J) R n g := by
          refine w_aload_n ok dX4_lawLine_91 2 rfl ?_
          refine w_iconst (v := 1) ok dX4_lawLine_92 (by decide) ?_
          refine y_putZ ok dX4_lawLine_93 (fwX4_183 rfl) (congrArg Prod.fst s_77) rfl (by decide) (ltK hnn (by decide)) (sdc hf (by decide)) ?_
          refine w_aload_n ok dX4_lawLine_96 0 rfl ?_
          refine w_getR ok dX4_lawLine_97 (fX4_28 rfl) (congrArg Prod.fst s_41) rfl (r_41_3 ro) (ltK hnn (by decide)) ?_
          refine w_cV (As := []) ok dX4_lawLine_100 iX8_step (lX4_65 rfl) (rcv cls8 (congrArg Prod.fst s_81)) (ltK hnn (by decide)) (c_X8_step ro hnn hf  htp (hp6 c1 c4 c7)) (by decide) rfl (Nat.le_of_ble_eq_true rfl) ?_
          refine w_aload_n ok dX4_lawLine_103 0 rfl ?_
          refine w_aload_n ok dX4_lawLine_104 2 rfl ?_
          refine w_cV (As := [.ref 77]) ok dX4_lawLine_105 iX4_side (lX4_188 rfl) (rcv cls4 (congrArg Prod.fst s_41)) (ltK hnn (by decide)) (c_X4_side ro hnn hf  isLw_77 htp (hp7 c1 c4 c7)) (by decide) rfl (Nat.le_of_ble_eq_true rfl) ?_
          exact w_vret ok fin dX4_lawLine_108 rfl (by unfold FI_X4_lawLine; simp only [if_neg c1]; simp only [if_neg c4]; simp only [if_pos c7]; exact Pd.i)
        refine w_if_eq (tgt := 91) ok dX4_lawLine_83 (by decide) (fun c9 => ?_) (fun c9 => ?_)
        · skip
          have eT : (T_X4_lawLine_j91_3 I J) = (FI_X8_step  I J) := by
            unfold T_X4_lawLine_j91_3; exact (if_pos c9).trans (rfl)
          refine w_loc [2, 1, 0] rfl ?_
          have jj := jn8
          rw [eT] at jj
          exact jj
        · skip
          refine w_aload_n ok dX4_lawLine_86 2 rfl ?_
          refine w_iconst (v := 3) ok dX4_lawLine_87 (by decide) ?_
          refine w_cV (As := [.int 3]) ok dX4_lawLine_88 iX4_fail (lX4_58 rfl) (rcv cls4 (congrArg Prod.fst s_41)) (ltK hnn (by decide)) (c_X4_fail ro hnn hf 3 ) (by decide) rfl (Nat.le_of_ble_eq_true rfl) ?_
          have eT : (T_X4_lawLine_j91_3 I J) = (FI_X4_fail 3 (FI_X8_step  I J) J) := by
            unfold T_X4_lawLine_j91_3; exact (if_neg c9).trans (rfl)
          refine w_loc [2, 1, 0] rfl ?_
          have jj := jn8
          rw [eT] at jj
          exact jj
      · skip
        refine w_aload_n ok dX4_lawLine_33 1 rfl ?_
        refine w_iconst (v := 1) ok dX4_lawLine_34 (by decide) ?_
        refine w_cV (As := [.int 1]) ok dX4_lawLine_35 iX4_fail (lX4_58 rfl) (rcv cls4 (congrArg Prod.fst s_41)) (ltK hnn (by decide)) (c_X4_fail ro hnn hf 1 ) (by decide) rfl (Nat.le_of_ble_eq_true rfl) ?_
        exact w_vret ok fin dX4_lawLine_38 rfl (by unfold FI_X4_lawLine; simp only [if_neg c1]; simp only [if_neg c4]; simp only [if_neg c7]; exact Pd.i)
def S1_X11_law (a0 : Int32) (a1 : Int32) (a2 : Int32) (I : SI) (J : SJ) : SJ := FJ_X0_yieldWorth a2 ((atF ((FI_X0_begin 86 I J) 92) 6 a2) + 1) (FI_X0_begin 86 I J) (FJ_X0_begin 86 I J)
def S2_X11_law (a0 : Int32) (a1 : Int32) (a2 : Int32) (I : SI) (J : SJ) : Int64 := F_X0_yieldWorth a2 ((atF ((FI_X0_begin 86 I J) 92) 6 a2) + 1) (FI_X0_begin 86 I J) (FJ_X0_begin 86 I J)
def F_X11_law (a0 : Int32) (a1 : Int32) (a2 : Int32) (I : SI) (J : SJ) : Int64 := if a0 = 0 then F_X11_noticeNow a1 a2 (FI_X0_begin 86 I J) (FJ_X0_begin 86 I J) else (if a0 = 1 then (if (F_X7_holds 3 a2 (FI_X0_begin 86 I J) (FJ_X0_begin 86 I J)) = 0 then -9223372036854775808 else (S2_X11_law a0 a1 a2 I J)) else (if a0 = 2 then (if (F_X7_holds 8 a1 (FI_X0_begin 86 I J) (FJ_X0_begin 86 I J)) = 0 then -9223372036854775808 else F_X0_againWorth a1 (FI_X0_begin 86 I J) (FJ_X0_begin 86 I J)) else -9223372036854775808))
def FI_X11_law (a0 : Int32) (a1 : Int32) (a2 : Int32) (I : SI) (J : SJ) : SI := if a0 = 0 then FI_X0_begin 86 I J else (if a0 = 1 then (if (F_X7_holds 3 a2 (FI_X0_begin 86 I J) (FJ_X0_begin 86 I J)) = 0 then FI_X0_begin 86 I J else FI_X0_begin 86 I J) else (if a0 = 2 then (if (F_X7_holds 8 a1 (FI_X0_begin 86 I J) (FJ_X0_begin 86 I J)) = 0 then FI_X0_begin 86 I J else FI_X0_begin 86 I J) else FI_X0_begin 86 I J))
def FJ_X11_law (a0 : Int32) (a1 : Int32) (a2 : Int32) (I : SI) (J : SJ) : SJ := if a0 = 0 then FJ_X11_noticeNow a1 a2 (FI_X0_begin 86 I J) (FJ_X0_begin 86 I J) else (if a0 = 1 then (if (F_X7_holds 3 a2 (FI_X0_begin 86 I J) (FJ_X0_begin 86 I J)) = 0 then FJ_X0_begin 86 I J else (S1_X11_law a0 a1 a2 I J)) else (if a0 = 2 then (if (F_X7_holds 8 a1 (FI_X0_begin 86 I J) (FJ_X0_begin 86 I J)) = 0 then FJ_X0_begin 86 I J else FJ_X0_againWorth a1 (FI_X0_begin 86 I J) (FJ_X0_begin 86 I J)) else FJ_X0_begin 86 I J))
def H_X11_law (a0 : Int32) (a1 : Int32) (a2 : Int32) (I : SI) (J : SJ) : Prop := (a0 = 0 → H_X11_noticeNow a1 a2 (FI_X0_begin 86 I J) (FJ_X0_begin 86 I J)) ∧ (¬ (a0 = 0) → a0 = 1 → ¬ ((F_X7_holds 3 a2 (FI_X0_begin 86 I J) (FJ_X0_begin 86 I J)) = 0) → H_X0_yieldWorth a2 ((atF ((FI_X0_begin 86 I J) 92) 6 a2) + 1) (FI_X0_begin 86 I J) (FJ_X0_begin 86 I J)) ∧ (¬ (a0 = 0) → ¬ (a0 = 1) → a0 = 2 → ¬ ((F_X7_holds 8 a1 (FI_X0_begin 86 I J) (FJ_X0_begin 86 I J)) = 0) → H_X0_againWorth a1 (FI_X0_begin 86 I J) (FJ_X0_begin 86 I J))
set_option maxHeartbeats 1000000 in
set_option maxRecDepth 40000 in
theorem c_X11_law {I : SI} {J : SJ} {R : SR} {n g : Nat} {f : Fr} (ro : RO R) (hnn : nK ≤ n) (hf : f.1 = true) (a0 : Int32) (a1 : Int32) (a2 : Int32)  (hp : H_X11_law a0 a1 a2 I J) : MM 5 0 0 mX11_law [.ref 0, .int a0, .int a1, .int a2] (eI f I) (eJ f J) R n g (Pd (some (.long (F_X11_law a0 a1 a2 I J))) (eI f (FI_X11_law a0 a1 a2 I J)) (eJ f (FJ_X11_law a0 a1 a2 I J)) R n g) := by
  refine MM.of (by decide) (Nat.le_of_ble_eq_true rfl) fun K ok fin => ?_
  show WK K 0 0 0 [(0, .ref 0), (1, .int a0), (2, .int a1), (3, .int a2)] [] (eI f I) (eJ f J) R n g
  obtain ⟨hp1, hp2, hp3⟩ := hp
  refine w_aload_n ok dX11_law_0 0 rfl ?_
  refine w_getR ok dX11_law_1 (fX11_50 rfl) (congrArg Prod.fst s_0) rfl (r_0_7 ro) (ltK hnn (by decide)) ?_
  refine w_aload_n ok dX11_law_4 0 rfl ?_
  refine w_getR ok dX11_law_5 (fX11_34 rfl) (congrArg Prod.fst s_0) rfl (r_0_4 ro) (ltK hnn (by decide)) ?_
  refine w_cV (As := [.ref 86]) ok dX11_law_8 iX0_begin (lX11_189 rfl) (rcv cls0 (congrArg Prod.fst s_104)) (ltK hnn (by decide)) (c_X0_begin ro hnn hf  isSc_86) (by decide) rfl (Nat.le_of_ble_eq_true rfl) ?_
  refine w_iload_n ok dX11_law_11 1 rfl ?_
  by_cases c1 : a0 = 0
  · skip
    refine w_tabIn (tgt := 40) (off := 28) ok dX11_law_12 (by rw [c1]; decide) (by rw [c1]; decide) (by rw [c1]; rfl) (by decide) ?_
    refine w_aload_n ok dX11_law_40 0 rfl ?_
    refine w_iload_n ok dX11_law_41 2 rfl ?_
    refine w_iload_n ok dX11_law_42 3 rfl ?_
    refine w_cV (As := [.int a1, .int a2]) ok dX11_law_43 iX11_noticeNow (lX11_193 rfl) (rcv cls11 (congrArg Prod.fst s_0)) (ltK hnn (by decide)) (c_X11_noticeNow ro hnn hf a1 a2  (hp1 c1)) (by decide) rfl (Nat.le_of_ble_eq_true rfl) ?_
    exact w_lret ok fin dX11_law_46 rfl (by unfold F_X11_law FI_X11_law FJ_X11_law; simp only [if_pos c1]; exact Pd.i)
  · skip
    by_cases c2 : a0 = 1
    · skip
      refine w_tabIn (tgt := 47) (off := 35) ok dX11_law_12 (by rw [c2]; decide) (by rw [c2]; decide) (by rw [c2]; rfl) (by decide) ?_
      refine w_aload_n ok dX11_law_47 0 rfl ?_
      refine w_getR ok dX11_law_48 (fX11_20 rfl) (congrArg Prod.fst s_0) rfl (r_0_2 ro) (ltK hnn (by decide)) ?_
      refine w_getR ok dX11_law_51 (fX11_112 rfl) (congrArg Prod.fst s_2) rfl (r_2_0 ro) (ltK hnn (by decide)) ?_
      refine w_iload_n ok dX11_law_54 3 rfl ?_
      refine w_cV (As := [.int a2]) ok dX11_law_55 iX7_holds (lX11_131 rfl) (rcv cls7 (congrArg Prod.fst s_3)) (ltK hnn (by decide)) (c_X7_holds ro hnn hf a2 isTb_3) (by decide) rfl (Nat.le_of_ble_eq_true rfl) ?_
      refine w_if_eq (tgt := 85) ok dX11_law_58 (by decide) (fun c3 => ?_) (fun c3 => ?_)
      · skip
        refine w_ldc2 ok dX11_law_85 kX11_202 ?_
        exact w_lret ok fin dX11_law_88 rfl (by unfold F_X11_law FI_X11_law FJ_X11_law; simp only [if_neg c1]; simp only [if_pos c2]; simp only [if_pos c3]; exact Pd.i)
      · skip
        refine w_aload_n ok dX11_law_61 0 rfl ?_
        refine w_getR ok dX11_law_62 (fX11_50 rfl) (congrArg Prod.fst s_0) rfl (r_0_7 ro) (ltK hnn (by decide)) ?_
        refine w_iload_n ok dX11_law_65 3 rfl ?_
        refine w_aload_n ok dX11_law_66 0 rfl ?_
        refine w_getR ok dX11_law_67 (fX11_34 rfl) (congrArg Prod.fst s_0) rfl (r_0_4 ro) (ltK hnn (by decide)) ?_
        refine w_getR ok dX11_law_70 (fX11_156 rfl) (congrArg Prod.fst s_86) rfl (r_86_12 ro) (ltK hnn (by decide)) ?_
        refine w_iload_n ok dX11_law_73 3 rfl ?_
        refine w_cS (As := [.ref 92, .int a2]) ok dX11_law_74 iX11_at (lX11_146 rfl) (c_at s_92 (ltK hnn (by decide)) (sdc hf (by decide)) a2) (by decide) rfl (Nat.le_of_ble_eq_true rfl) ?_
        show WK K 0 0 77 [(0, .ref 0), (1, .int a0), (2, .int a1), (3, .int a2)] [.int (atF ((FI_X0_begin 86 I J) 92) 6 a2), .int a2, .ref 104] (eI f (FI_X0_begin 86 I J)) (eJ f (FJ_X0_begin 86 I J)) R n g
        refine w_iconst (v := 1) ok dX11_law_77 (by decide) ?_
        refine w_iadd ok dX11_law_78 ?_
        refine w_cV (As := [.int a2, .int ((atF ((FI_X0_begin 86 I J) 92) 6 a2) + 1)]) ok dX11_law_79 iX0_yieldWorth (lX11_197 rfl) (rcv cls0 (congrArg Prod.fst s_104)) (ltK hnn (by decide)) (c_X0_yieldWorth ro hnn hf a2 ((atF ((FI_X0_begin 86 I J) 92) 6 a2) + 1)  (hp2 c1 c2 c3)) (by decide) rfl (Nat.le_of_ble_eq_true rfl) ?_
        show WK K 0 0 82 [(0, .ref 0), (1, .int a0), (2, .int a1), (3, .int a2)] [.long (S2_X11_law a0 a1 a2 I J)] (eI f (FI_X0_begin 86 I J)) (eJ f (S1_X11_law a0 a1 a2 I J)) R n g
        refine w_goto (tgt := 88) ok dX11_law_82 (by decide) ?_
        exact w_lret ok fin dX11_law_88 rfl (by unfold F_X11_law FI_X11_law FJ_X11_law; simp only [if_neg c1]; simp only [if_pos c2]; simp only [if_neg c3]; exact Pd.i)
    · skip
      by_cases c4 : a0 = 2
      · skip
        refine w_tabIn (tgt := 89) (off := 77) ok dX11_law_12 (by rw [c4]; decide) (by rw [c4]; decide) (by rw [c4]; rfl) (by decide) ?_
        refine w_aload_n ok dX11_law_89 0 rfl ?_
        refine w_getR ok dX11_law_90 (fX11_20 rfl) (congrArg Prod.fst s_0) rfl (r_0_2 ro) (ltK hnn (by decide)) ?_
        refine w_getR ok dX11_law_93 (fX11_122 rfl) (congrArg Prod.fst s_2) rfl (r_2_1 ro) (ltK hnn (by decide)) ?_
        refine w_iload_n ok dX11_law_96 2 rfl ?_
        refine w_cV (As := [.int a1]) ok dX11_law_97 iX7_holds (lX11_131 rfl) (rcv cls7 (congrArg Prod.fst s_8)) (ltK hnn (by decide)) (c_X7_holds ro hnn hf a1 isTb_8) (by decide) rfl (Nat.le_of_ble_eq_true rfl) ?_
        refine w_if_eq (tgt := 114) ok dX11_law_100 (by decide) (fun c5 => ?_) (fun c5 => ?_)
        · skip
          refine w_ldc2 ok dX11_law_114 kX11_202 ?_
          exact w_lret ok fin dX11_law_117 rfl (by unfold F_X11_law FI_X11_law FJ_X11_law; simp only [if_neg c1]; simp only [if_neg c2]; simp only [if_pos c4]; simp only [if_pos c5]; exact Pd.i)
        · skip
          refine w_aload_n ok dX11_law_103 0 rfl ?_
          refine w_getR ok dX11_law_104 (fX11_50 rfl) (congrArg Prod.fst s_0) rfl (r_0_7 ro) (ltK hnn (by decide)) ?_
          refine w_iload_n ok dX11_law_107 2 rfl ?_
          refine w_cV (As := [.int a1]) ok dX11_law_108 iX0_againWorth (lX11_204 rfl) (rcv cls0 (congrArg Prod.fst s_104)) (ltK hnn (by decide)) (c_X0_againWorth ro hnn hf a1  (hp3 c1 c2 c4 c5)) (by decide) rfl (Nat.le_of_ble_eq_true rfl) ?_
          refine w_goto (tgt := 117) ok dX11_law_111 (by decide) ?_
          exact w_lret ok fin dX11_law_117 rfl (by unfold F_X11_law FI_X11_law FJ_X11_law; simp only [if_neg c1]; simp only [if_neg c2]; simp only [if_pos c4]; simp only [if_neg c5]; exact Pd.i)
      · skip
        have n6 : a0.toInt ≠ 0 := ne_toInt c1
        have n7 : a0.toInt ≠ 1 := ne_toInt c2
        have n8 : a0.toInt ≠ 2 := ne_toInt c4
        refine w_tabOut (tgt := 118) ok dX11_law_12 (by omega) (by decide) ?_
        refine w_ldc2 ok dX11_law_118 kX11_202 ?_
        exact w_lret ok fin dX11_law_121 rfl (by unfold F_X11_law FI_X11_law FJ_X11_law; simp only [if_neg c1]; simp only [if_neg c2]; simp only [if_neg c4]; exact Pd.i)
def T_X0_pass_j29 (a0 : Int32) (I : SI) (J : SJ) (i2 : Nat) (s2 : SI × SJ) : Int32 := if (F_X0_isAway  s2.1 s2.2) = 0 then 0 else 1
def T_X0_pass_j54 (a0 : Int32) (I : SI) (J : SJ) (i2 : Nat) (s2 : SI × SJ) : Int32 := if (F_X0_isAway  s2.1 s2.2) = 0 then 0 else (((u2 s2.1 105 4 ((s2.1 105 4) + (T_X0_pass_j29 a0 I J i2 s2))) 105 5) + 1)
def S1_X0_pass (a0 : Int32) (I : SI) (J : SJ) (i2 : Nat) (s2 : SI × SJ) : SI := u2 (u2 s2.1 105 4 ((s2.1 105 4) + (T_X0_pass_j29 a0 I J i2 s2))) 105 5 (T_X0_pass_j54 a0 I J i2 s2)
def B_X0_pass_w60 (a0 : Int32) (I : SI) (J : SJ) (i2 : Nat) (s2 : SI × SJ) (s60 : Int32 × SI × SJ) : (Int32 × SI × SJ) ⊕ (Int32 × SI × SJ) := if (s60.2.1 8 1) ≤ s60.1 then .inr (s60.1, s60.2.1, s60.2.2) else (if (atF (s60.2.1 107) 8 s60.1) = 0 then (if (atF (s60.2.1 106) 8 s60.1) = (s60.2.1 105 0) then .inl ((s60.1 + 1), (FI_X0_film s60.1 (F_X0_isAway  s2.1 s2.2) s60.2.1 s60.2.2), (FJ_X0_film s60.1 (F_X0_isAway  s2.1 s2.2) s60.2.1 s60.2.2)) else .inl ((s60.1 + 1), s60.2.1, s60.2.2)) else .inl ((s60.1 + 1), s60.2.1, s60.2.2))
def F_X0_pass_w60 (a0 : Int32) (I : SI) (J : SJ) (i2 : Nat) (s2 : SI × SJ) (s0 : Int32 × SI × SJ) : Int32 × SI × SJ := (itW (B_X0_pass_w60 a0 I J i2 s2) 800 s0).getD s0
def S2_X0_pass (a0 : Int32) (I : SI) (J : SJ) (i2 : Nat) (s2 : SI × SJ) : SI := (F_X0_pass_w60 a0 I J i2 s2 (0, (S1_X0_pass a0 I J i2 s2), (FJ_X0_isAway  s2.1 s2.2))).2.1
def S3_X0_pass (a0 : Int32) (I : SI) (J : SJ) (i2 : Nat) (s2 : SI × SJ) : SJ := (F_X0_pass_w60 a0 I J i2 s2 (0, (S1_X0_pass a0 I J i2 s2), (FJ_X0_isAway  s2.1 s2.2))).2.2
def B_X0_pass_w128 (a0 : Int32) (I : SI) (J : SJ) (i2 : Nat) (s2 : SI × SJ) (s128 : Int32 × SI × SJ) : (Int32 × SI × SJ) ⊕ (Int32 × SI × SJ) := if (s128.2.1 13 1) ≤ s128.1 then .inr (s128.1, s128.2.1, s128.2.2) else (if (F_X0_isAway  s2.1 s2.2) = 0 then .inl ((s128.1 + 1), (FI_X0_give s128.1 s128.2.1 s128.2.2), (FJ_X0_give s128.1 s128.2.1 s128.2.2)) else .inr (s128.1, s128.2.1, s128.2.2))
def F_X0_pass_w128 (a0 : Int32) (I : SI) (J : SJ) (i2 : Nat) (s2 : SI × SJ) (s0 : Int32 × SI × SJ) : Int32 × SI × SJ := (itW (B_X0_pass_w128 a0 I J i2 s2) 800 s0).getD s0
def S4_X0_pass (a0 : Int32) (I : SI) (J : SJ) (i2 : Nat) (s2 : SI × SJ) : SI := (F_X0_pass_w128 a0 I J i2 s2 (0, (S2_X0_pass a0 I J i2 s2), (S3_X0_pass a0 I J i2 s2))).2.1
def S5_X0_pass (a0 : Int32) (I : SI) (J : SJ) (i2 : Nat) (s2 : SI × SJ) : SJ := (F_X0_pass_w128 a0 I J i2 s2 (0, (S2_X0_pass a0 I J i2 s2), (S3_X0_pass a0 I J i2 s2))).2.2
def S7_X0_pass (a0 : Int32) (I : SI) (J : SJ) (i2 : Nat) (s2 : SI × SJ) : SI := FI_X0_filmOneAgain  (S4_X0_pass a0 I J i2 s2) (S5_X0_pass a0 I J i2 s2)
def S8_X0_pass (a0 : Int32) (I : SI) (J : SJ) (i2 : Nat) (s2 : SI × SJ) : SJ := FJ_X0_filmOneAgain  (S4_X0_pass a0 I J i2 s2) (S5_X0_pass a0 I J i2 s2)
def T_X0_pass_j170 (a0 : Int32) (I : SI) (J : SJ) (i2 : Nat) (s2 : SI × SJ) : SI × SJ := if (((S4_X0_pass a0 I J i2 s2)) 104 6) = 0 then ((S4_X0_pass a0 I J i2 s2), (S5_X0_pass a0 I J i2 s2)) else ((S7_X0_pass a0 I J i2 s2), (S8_X0_pass a0 I J i2 s2))
def S6_X0_pass (a0 : Int32) (I : SI) (J : SJ) (i2 : Nat) (s2 : SI × SJ) : SI := u2 ((T_X0_pass_j170 a0 I J i2 s2).1) 105 0 ((((T_X0_pass_j170 a0 I J i2 s2).1) 105 0) + 1)
def B_X0_pass_l2 (a0 : Int32) (I : SI) (J : SJ) (i2 : Nat) (s2 : SI × SJ) : SI × SJ := ((S6_X0_pass a0 I J i2 s2), ((T_X0_pass_j170 a0 I J i2 s2).2))
def F_X0_pass_l2 (a0 : Int32) (I : SI) (J : SJ) (s0 : SI × SJ) : SI × SJ := itN (B_X0_pass_l2 a0 I J) (a0.toNatClampNeg) s0
def FI_X0_pass (a0 : Int32) (I : SI) (J : SJ) : SI := (F_X0_pass_l2 a0 I J (I, J)).1
def FJ_X0_pass (a0 : Int32) (I : SI) (J : SJ) : SJ := (F_X0_pass_l2 a0 I J (I, J)).2
def H_X0_pass (a0 : Int32) (I : SI) (J : SJ) : Prop := (∀ (i2 : Nat) (s2 : SI × SJ), i2 < a0.toNatClampNeg → s2 = itN (B_X0_pass_l2 a0 I J) i2 (I, J) → (itW (B_X0_pass_w60 a0 I J i2 s2) 800 (0, (S1_X0_pass a0 I J i2 s2), (FJ_X0_isAway  s2.1 s2.2))).isSome = true) ∧ (∀ (i2 : Nat) (s2 : SI × SJ), i2 < a0.toNatClampNeg → s2 = itN (B_X0_pass_l2 a0 I J) i2 (I, J) → (itW (B_X0_pass_w128 a0 I J i2 s2) 800 (0, (S2_X0_pass a0 I J i2 s2), (S3_X0_pass a0 I J i2 s2))).isSome = true) ∧ (∀ (i2 : Nat) (s2 : SI × SJ), i2 < a0.toNatClampNeg → s2 = itN (B_X0_pass_l2 a0 I J) i2 (I, J) → ¬ ((((S4_X0_pass a0 I J i2 s2)) 104 6) = 0) → H_X0_filmOneAgain  (S4_X0_pass a0 I J i2 s2) (S5_X0_pass a0 I J i2 s2)) ∧ (∀ (i2 : Nat) (s2 : SI × SJ), i2 < a0.toNatClampNeg → s2 = itN (B_X0_pass_l2 a0 I J) i2 (I, J) → ∀ (n128 : Nat) (s128 : Int32 × SI × SJ), wN (B_X0_pass_w128 a0 I J i2 s2) n128 (0, (S2_X0_pass a0 I J i2 s2), (S3_X0_pass a0 I J i2 s2)) = some s128 → ¬ ((s128.2.1 13 1) ≤ s128.1) → (F_X0_isAway  s2.1 s2.2) = 0 → H_X0_give s128.1 s128.2.1 s128.2.2) ∧ (∀ (i2 : Nat) (s2 : SI × SJ), i2 < a0.toNatClampNeg → s2 = itN (B_X0_pass_l2 a0 I J) i2 (I, J) → ∀ (n60 : Nat) (s60 : Int32 × SI × SJ), wN (B_X0_pass_w60 a0 I J i2 s2) n60 (0, (S1_X0_pass a0 I J i2 s2), (FJ_X0_isAway  s2.1 s2.2)) = some s60 → ¬ ((s60.2.1 8 1) ≤ s60.1) → (atF (s60.2.1 107) 8 s60.1) = 0 → (atF (s60.2.1 106) 8 s60.1) = (s60.2.1 105 0) → H_X0_film s60.1 (F_X0_isAway  s2.1 s2.2) s60.2.1 s60.2.2)
set_option maxHeartbeats 2170000 in
set_option maxRecDepth 40000 in
theorem c_X0_pass {I : SI} {J : SJ} {R : SR} {n g : Nat} {f : Fr} (ro : RO R) (hnn : nK ≤ n) (hf : f.1 = true) (a0 : Int32)  (hp : H_X0_pass a0 I J) : MM 5 0 0 mX0_pass [.ref 104, .int a0] (eI f I) (eJ f J) R n g (Pd none (eI f (FI_X0_pass a0 I J)) (eJ f (FJ_X0_pass a0 I J)) R n g) := by
  refine MM.of (by decide) (Nat.le_of_ble_eq_true rfl) fun K ok fin => ?_
  show WK K 0 0 0 [(0, .ref 104), (1, .int a0)] [] (eI f I) (eJ f J) R n g
  obtain ⟨hp1, hp2, hp3, hp4, hp5⟩ := hp
  refine w_iconst (v := 0) ok dX0_pass_0 (by decide) ?_
  refine w_istore_n ok dX0_pass_1 rfl (by decide) rfl ?_
  refine w_loc [1, 2, 0] rfl ?_
  refine loop_for (σ := SI × SJ) (fun (i2 : Nat) (s2 : SI × SJ) => WK K 0 0 2 [(0, .ref 104), (1, .int a0), (2, .int (nI i2))] [] (eI f s2.1) (eJ f s2.2) R n g) (B_X0_pass_l2 a0 I J) (a0.toNatClampNeg) ((I, J)) ?_ ?_
  · show WK K 0 0 2 [(0, .ref 104), (1, .int a0), (2, .int (nI a0.toNatClampNeg))] [] (eI f ((F_X0_pass_l2 a0 I J (I, J)).1)) (eJ f ((F_X0_pass_l2 a0 I J (I, J)).2)) R n g
    have e1 : a0 ≤ (nI a0.toNatClampNeg) := cnt_ge _
    refine w_iload_n ok dX0_pass_2 2 rfl ?_
    refine w_iload_n ok dX0_pass_3 1 rfl ?_
    refine w_icmp_ge (tgt := 189) ok dX0_pass_4 (by decide) (fun _ => ?_) (fun h => absurd e1 h)
    exact w_vret ok fin dX0_pass_189 rfl (by unfold FI_X0_pass FJ_X0_pass; exact Pd.i)
  · intro i2 s2 hi2 hs2 k2
    show WK K 0 0 2 [(0, .ref 104), (1, .int a0), (2, .int (nI i2))] [] (eI f s2.1) (eJ f s2.2) R n g
    have e2 : ¬ (a0 ≤ (nI i2)) := cnt_lt hi2
    refine w_iload_n ok dX0_pass_2 2 rfl ?_
    refine w_iload_n ok dX0_pass_3 1 rfl ?_
    refine w_icmp_ge (tgt := 189) ok dX0_pass_4 (by decide) (fun h => absurd h e2) (fun _ => ?_)
    refine w_aload_n ok dX0_pass_7 0 rfl ?_
    refine w_cV (As := []) ok dX0_pass_8 iX0_isAway (lX0_67 rfl) (rcv cls0 (congrArg Prod.fst s_104)) (ltK hnn (by decide)) (c_X0_isAway ro hnn hf  ) (by decide) rfl (Nat.le_of_ble_eq_true rfl) ?_
    refine w_istore_n ok dX0_pass_11 rfl (by decide) rfl ?_
    refine w_aload_n ok dX0_pass_12 1 rfl ?_
    refine w_getR ok dX0_pass_13 (fX0_12 rfl) (congrArg Prod.fst s_104) rfl (r_104_0 ro) (ltK hnn (by decide)) ?_
    refine w_dup ok dX0_pass_16 rfl ?_
    refine y_getI ok dX0_pass_17 (fX0_71 rfl) (congrArg Prod.fst s_105) rfl (ltK hnn (by decide)) (sdc hf (by decide)) ?_
    refine w_iload_n ok dX0_pass_20 0 rfl ?_
    have jn3 : WK K 0 0 29 [(0, .ref 104), (1, .int a0), (2, .int (nI i2)), (3, .int (F_X0_isAway  s2.1 s2.2))] [.int (T_X0_pass_j29 a0 I J i2 s2), .int (s2.1 105 4), .ref 105] (eI f s2.1) (eJ f (FJ_X0_isAway  s2.1 s2.2)) R n g := by
      refine w_iadd ok dX0_pass_29 ?_
      refine y_putI ok dX0_pass_30 (fwX0_71 rfl) (congrArg Prod.fst s_105) rfl (ltK hnn (by decide)) (sdc hf (by decide)) ?_
      refine w_aload_n ok dX0_pass_33 0 rfl ?_
      refine w_getR ok dX0_pass_34 (fX0_12 rfl) (congrArg Prod.fst s_104) rfl (r_104_0 ro) (ltK hnn (by decide)) ?_
      refine w_iload_n ok dX0_pass_37 3 rfl ?_
      have jn4 : WK K 0 0 54 [(0, .ref 104), (1, .int a0), (2, .int (nI i2)), (3, .int (F_X0_isAway  s2.1 s2.2))] [.int (T_X0_pass_j54 a0 I J i2 s2), .ref 105] (eI f (u2 s2.1 105 4 ((s2.1 105 4) + (T_X0_pass_j29 a0 I J i2 s2)))) (eJ f (FJ_X0_isAway  s2.1 s2.2)) R n g := by
        refine y_putI ok dX0_pass_54 (fwX0_74 rfl) (congrArg Prod.fst s_105) rfl (ltK hnn (by decide)) (sdc hf (by decide)) ?_
        show WK K 0 0 57 [(0, .ref 104), (1, .int a0), (2, .int (nI i2)), (3, .int (F_X0_isAway  s2.1 s2.2))] [] (eI f (S1_X0_pass a0 I J i2 s2)) (eJ f (FJ_X0_isAway  s2.1 s2.2)) R n g
        refine w_iconst (v := 0) ok dX0_pass_57 (by decide) ?_
        refine w_istore ok dX0_pass_58 (by decide) rfl ?_
        refine w_loc [1, 2, 3, 4, 0] rfl ?_
        refine loop_w (fun (s60 : Int32 × SI × SJ) => WK K 0 0 60 [(0, .ref 104), (1, .int a0), (2, .int (nI i2)), (3, .int (F_X0_isAway  s2.1 s2.2)), (4, .int s60.1)] [] (eI f s60.2.1) (eJ f s60.2.2) R n g) (fun (s60 : Int32 × SI × SJ) => WK K 0 0 125 [(0, .ref 104), (1, .int a0), (2, .int (nI i2)), (3, .int (F_X0_isAway  s2.1 s2.2)), (4, .int s60.1)] [] (eI f s60.2.1) (eJ f s60.2.2) R n g) (B_X0_pass_w60 a0 I J i2 s2) 800 (0, (S1_X0_pass a0 I J i2 s2), (FJ_X0_isAway  s2.1 s2.2)) (F_X0_pass_w60 a0 I J i2 s2 (0, (S1_X0_pass a0 I J i2 s2), (FJ_X0_isAway  s2.1 s2.2))) (itW_some (hp1 i2 s2 hi2 hs2)) ?_ ?_
        · show WK K 0 0 125 [(0, .ref 104), (1, .int a0), (2, .int (nI i2)), (3, .int (F_X0_isAway  s2.1 s2.2)), (4, .int ((F_X0_pass_w60 a0 I J i2 s2 (0, (S1_X0_pass a0 I J i2 s2), (FJ_X0_isAway  s2.1 s2.2))).1))] [] (eI f ((F_X0_pass_w60 a0 I J i2 s2 (0, (S1_X0_pass a0 I J i2 s2), (FJ_X0_isAway  s2.1 s2.2))).2.1)) (eJ f ((F_X0_pass_w60 a0 I J i2 s2 (0, (S1_X0_pass a0 I J i2 s2), (FJ_X0_isAway  s2.1 s2.2))).2.2)) R n g
          refine w_iconst (v := 0) ok dX0_pass_125 (by decide) ?_
          show WK K 0 0 126 [(0, .ref 104), (1, .int a0), (2, .int (nI i2)), (3, .int (F_X0_isAway  s2.1 s2.2)), (4, .int ((F_X0_pass_w60 a0 I J i2 s2 (0, (S1_X0_pass a0 I J i2 s2), (FJ_X0_isAway  s2.1 s2.2))).1))] [.int 0] (eI f (S2_X0_pass a0 I J i2 s2)) (eJ f (S3_X0_pass a0 I J i2 s2)) R n g
          refine w_istore ok dX0_pass_126 (by decide) rfl ?_
          refine w_loc [1, 2, 3, 4, 0] rfl ?_
          refine loop_w (fun (s128 : Int32 × SI × SJ) => WK K 0 0 128 [(0, .ref 104), (1, .int a0), (2, .int (nI i2)), (3, .int (F_X0_isAway  s2.1 s2.2)), (4, .int s128.1)] [] (eI f s128.2.1) (eJ f s128.2.2) R n g) (fun (s128 : Int32 × SI × SJ) => WK K 0 0 159 [(0, .ref 104), (1, .int a0), (2, .int (nI i2)), (3, .int (F_X0_isAway  s2.1 s2.2)), (4, .int s128.1)] [] (eI f s128.2.1) (eJ f s128.2.2) R n g) (B_X0_pass_w128 a0 I J i2 s2) 800 (0, (S2_X0_pass a0 I J i2 s2), (S3_X0_pass a0 I J i2 s2)) (F_X0_pass_w128 a0 I J i2 s2 (0, (S2_X0_pass a0 I J i2 s2), (S3_X0_pass a0 I J i2 s2))) (itW_some (hp2 i2 s2 hi2 hs2)) ?_ ?_
          · show WK K 0 0 159 [(0, .ref 104), (1, .int a0), (2, .int (nI i2)), (3, .int (F_X0_isAway  s2.1 s2.2)), (4, .int ((F_X0_pass_w128 a0 I J i2 s2 (0, (S2_X0_pass a0 I J i2 s2), (S3_X0_pass a0 I J i2 s2))).1))] [] (eI f ((F_X0_pass_w128 a0 I J i2 s2 (0, (S2_X0_pass a0 I J i2 s2), (S3_X0_pass a0 I J i2 s2))).2.1)) (eJ f ((F_X0_pass_w128 a0 I J i2 s2 (0, (S2_X0_pass a0 I J i2 s2), (S3_X0_pass a0 I J i2 s2))).2.2)) R n g
            refine w_aload_n ok dX0_pass_159 0 rfl ?_
            show WK K 0 0 160 [(0, .ref 104), (1, .int a0), (2, .int (nI i2)), (3, .int (F_X0_isAway  s2.1 s2.2)), (4, .int ((F_X0_pass_w128 a0 I J i2 s2 (0, (S2_X0_pass a0 I J i2 s2), (S3_X0_pass a0 I J i2 s2))).1))] [.ref 104] (eI f (S4_X0_pass a0 I J i2 s2)) (eJ f (S5_X0_pass a0 I J i2 s2)) R n g
            refine y_getI ok dX0_pass_160 (fX0_33 rfl) (congrArg Prod.fst s_104) rfl (ltK hnn (by decide)) (sdc hf (by decide)) ?_
            have jn5 : WK K 0 0 170 [(0, .ref 104), (1, .int a0), (2, .int (nI i2)), (3, .int (F_X0_isAway  s2.1 s2.2)), (4, .int ((F_X0_pass_w128 a0 I J i2 s2 (0, (S2_X0_pass a0 I J i2 s2), (S3_X0_pass a0 I J i2 s2))).1))] [] (eI f ((T_X0_pass_j170 a0 I J i2 s2).1)) (eJ f ((T_X0_pass_j170 a0 I J i2 s2).2)) R n g := by
              refine w_aload_n ok dX0_pass_170 0 rfl ?_
              refine w_getR ok dX0_pass_171 (fX0_12 rfl) (congrArg Prod.fst s_104) rfl (r_104_0 ro) (ltK hnn (by decide)) ?_
              refine w_dup ok dX0_pass_174 rfl ?_
              refine y_getI ok dX0_pass_175 (fX0_93 rfl) (congrArg Prod.fst s_105) rfl (ltK hnn (by decide)) (sdc hf (by decide)) ?_
              refine w_iconst (v := 1) ok dX0_pass_178 (by decide) ?_
              refine w_iadd ok dX0_pass_179 ?_
              refine y_putI ok dX0_pass_180 (fwX0_93 rfl) (congrArg Prod.fst s_105) rfl (ltK hnn (by decide)) (sdc hf (by decide)) ?_
              show WK K 0 0 183 [(0, .ref 104), (1, .int a0), (2, .int (nI i2)), (3, .int (F_X0_isAway  s2.1 s2.2)), (4, .int ((F_X0_pass_w128 a0 I J i2 s2 (0, (S2_X0_pass a0 I J i2 s2), (S3_X0_pass a0 I J i2 s2))).1))] [] (eI f (S6_X0_pass a0 I J i2 s2)) (eJ f ((T_X0_pass_j170 a0 I J i2 s2).2)) R n g
              refine w_iinc (v := (nI i2) + 1) ok dX0_pass_183 2 rfl rfl (by decide) rfl ?_
              refine w_goto (tgt := 2) ok dX0_pass_186 (by decide) ?_
              have eB : B_X0_pass_l2 a0 I J i2 s2 = ((S6_X0_pass a0 I J i2 s2), ((T_X0_pass_j170 a0 I J i2 s2).2)) := by
                unfold B_X0_pass_l2; exact rfl
              have kk := k2
              rw [eB] at kk
              refine w_loc [1, 2, 0] rfl ?_
              rw [nI_1 i2]
              exact kk
            refine w_if_eq (tgt := 170) ok dX0_pass_163 (by decide) (fun c6 => ?_) (fun c6 => ?_)
            · skip
              have eT : (T_X0_pass_j170 a0 I J i2 s2) = ((S4_X0_pass a0 I J i2 s2), (S5_X0_pass a0 I J i2 s2)) := by
                unfold T_X0_pass_j170; exact (if_pos c6).trans (rfl)
              refine w_loc [0, 1, 2, 3, 4] rfl ?_
              have jj := jn5
              rw [eT] at jj
              exact jj
            · skip
              refine w_aload_n ok dX0_pass_166 0 rfl ?_
              refine w_cV (As := []) ok dX0_pass_167 iX0_filmOneAgain (lX0_107 rfl) (rcv cls0 (congrArg Prod.fst s_104)) (ltK hnn (by decide)) (c_X0_filmOneAgain ro hnn hf   (hp3 i2 s2 hi2 hs2 c6)) (by decide) rfl (Nat.le_of_ble_eq_true rfl) ?_
              show WK K 0 0 170 [(0, .ref 104), (1, .int a0), (2, .int (nI i2)), (3, .int (F_X0_isAway  s2.1 s2.2)), (4, .int ((F_X0_pass_w128 a0 I J i2 s2 (0, (S2_X0_pass a0 I J i2 s2), (S3_X0_pass a0 I J i2 s2))).1))] [] (eI f (S7_X0_pass a0 I J i2 s2)) (eJ f (S8_X0_pass a0 I J i2 s2)) R n g
              have eT : (T_X0_pass_j170 a0 I J i2 s2) = ((S7_X0_pass a0 I J i2 s2), (S8_X0_pass a0 I J i2 s2)) := by
                unfold T_X0_pass_j170; exact (if_neg c6).trans (rfl)
              refine w_loc [0, 1, 2, 3, 4] rfl ?_
              have jj := jn5
              rw [eT] at jj
              exact jj
          · intro n128 s128 hs128 kc128 kx128
            show WK K 0 0 128 [(0, .ref 104), (1, .int a0), (2, .int (nI i2)), (3, .int (F_X0_isAway  s2.1 s2.2)), (4, .int s128.1)] [] (eI f s128.2.1) (eJ f s128.2.2) R n g
            refine w_iload ok dX0_pass_128 4 rfl ?_
            refine w_aload_n ok dX0_pass_130 0 rfl ?_
            refine w_getR ok dX0_pass_131 (fX0_40 rfl) (congrArg Prod.fst s_104) rfl (r_104_3 ro) (ltK hnn (by decide)) ?_
            refine w_getR ok dX0_pass_134 (fX0_100 rfl) (congrArg Prod.fst s_2) rfl (r_2_2 ro) (ltK hnn (by decide)) ?_
            refine y_getI ok dX0_pass_137 (fX0_80 rfl) (congrArg Prod.fst s_13) rfl (ltK hnn (by decide)) (sdc hf (by decide)) ?_
            refine w_icmp_ge (tgt := 159) ok dX0_pass_140 (by decide) (fun c7 => ?_) (fun c7 => ?_)
            · skip
              have eB : B_X0_pass_w128 a0 I J i2 s2 s128 = .inr (s128.1, s128.2.1, s128.2.2) := by
                unfold B_X0_pass_w128; exact (if_pos c7).trans (rfl)
              refine w_loc [0, 1, 2, 3, 4] rfl ?_
              have kk := kx128 _ eB
              exact kk
            · skip
              refine w_iload_n ok dX0_pass_143 3 rfl ?_
              refine w_if_ne (tgt := 159) ok dX0_pass_144 (by decide) (fun c8 => ?_) (fun c8 => ?_)
              · skip
                have eB : B_X0_pass_w128 a0 I J i2 s2 s128 = .inr (s128.1, s128.2.1, s128.2.2) := by
                  unfold B_X0_pass_w128; exact (if_neg c7).trans ((if_neg c8).trans (rfl))
                refine w_loc [0, 1, 2, 3, 4] rfl ?_
                have kk := kx128 _ eB
                exact kk
              · skip
                refine w_aload_n ok dX0_pass_147 0 rfl ?_
                refine w_iload ok dX0_pass_148 4 rfl ?_
                refine w_cV (As := [.int s128.1]) ok dX0_pass_150 iX0_give (lX0_103 rfl) (rcv cls0 (congrArg Prod.fst s_104)) (ltK hnn (by decide)) (c_X0_give ro hnn hf s128.1  (hp4 i2 s2 hi2 hs2 n128 s128 hs128 c7 c8)) (by decide) rfl (Nat.le_of_ble_eq_true rfl) ?_
                refine w_iinc (v := s128.1 + 1) ok dX0_pass_153 4 rfl rfl (by decide) rfl ?_
                refine w_goto (tgt := 128) ok dX0_pass_156 (by decide) ?_
                have eB : B_X0_pass_w128 a0 I J i2 s2 s128 = .inl ((s128.1 + 1), (FI_X0_give s128.1 s128.2.1 s128.2.2), (FJ_X0_give s128.1 s128.2.1 s128.2.2)) := by
                  unfold B_X0_pass_w128; exact (if_neg c7).trans ((if_pos c8).trans (rfl))
                refine w_loc [1, 2, 3, 4, 0] rfl ?_
                have kk := kc128 _ eB
                exact kk
        · intro n60 s60 hs60 kc60 kx60
          show WK K 0 0 60 [(0, .ref 104), (1, .int a0), (2, .int (nI i2)), (3, .int (F_X0_isAway  s2.1 s2.2)), (4, .int s60.1)] [] (eI f s60.2.1) (eJ f s60.2.2) R n g
          refine w_iload ok dX0_pass_60 4 rfl ?_
          refine w_aload_n ok dX0_pass_62 0 rfl ?_
          refine w_getR ok dX0_pass_63 (fX0_40 rfl) (congrArg Prod.fst s_104) rfl (r_104_3 ro) (ltK hnn (by decide)) ?_
          refine w_getR ok dX0_pass_66 (fX0_77 rfl) (congrArg Prod.fst s_2) rfl (r_2_1 ro) (ltK hnn (by decide)) ?_
          refine y_getI ok dX0_pass_69 (fX0_80 rfl) (congrArg Prod.fst s_8) rfl (ltK hnn (by decide)) (sdc hf (by decide)) ?_
          refine w_icmp_ge (tgt := 125) ok dX0_pass_72 (by decide) (fun c9 => ?_) (fun c9 => ?_)
          · skip
            have eB : B_X0_pass_w60 a0 I J i2 s2 s60 = .inr (s60.1, s60.2.1, s60.2.2) := by
              unfold B_X0_pass_w60; exact (if_pos c9).trans (rfl)
            refine w_loc [0, 1, 2, 3, 4] rfl ?_
            have kk := kx60 _ eB
            exact kk
          · skip
            refine w_aload_n ok dX0_pass_75 0 rfl ?_
            refine w_getR ok dX0_pass_76 (fX0_12 rfl) (congrArg Prod.fst s_104) rfl (r_104_0 ro) (ltK hnn (by decide)) ?_
            refine w_getR ok dX0_pass_79 (fX0_83 rfl) (congrArg Prod.fst s_105) rfl (r_105_8 ro) (ltK hnn (by decide)) ?_
            refine w_iload ok dX0_pass_82 4 rfl ?_
            refine w_cS (As := [.ref 107, .int s60.1]) ok dX0_pass_84 iX11_at (lX0_86 rfl) (c_at s_107 (ltK hnn (by decide)) (sdc hf (by decide)) s60.1) (by decide) rfl (Nat.le_of_ble_eq_true rfl) ?_
            refine w_if_ne (tgt := 119) ok dX0_pass_87 (by decide) (fun c10 => ?_) (fun c10 => ?_)
            · skip
              refine w_iinc (v := s60.1 + 1) ok dX0_pass_119 4 rfl rfl (by decide) rfl ?_
              refine w_goto (tgt := 60) ok dX0_pass_122 (by decide) ?_
              have eB : B_X0_pass_w60 a0 I J i2 s2 s60 = .inl ((s60.1 + 1), s60.2.1, s60.2.2) := by
                unfold B_X0_pass_w60; exact (if_neg c9).trans ((if_neg c10).trans (rfl))
              refine w_loc [1, 2, 3, 4, 0] rfl ?_
              have kk := kc60 _ eB
              exact kk
            · skip
              refine w_aload_n ok dX0_pass_90 0 rfl ?_
              refine w_getR ok dX0_pass_91 (fX0_12 rfl) (congrArg Prod.fst s_104) rfl (r_104_0 ro) (ltK hnn (by decide)) ?_
              refine w_getR ok dX0_pass_94 (fX0_90 rfl) (congrArg Prod.fst s_105) rfl (r_105_7 ro) (ltK hnn (by decide)) ?_
              refine w_iload ok dX0_pass_97 4 rfl ?_
              refine w_cS (As := [.ref 106, .int s60.1]) ok dX0_pass_99 iX11_at (lX0_86 rfl) (c_at s_106 (ltK hnn (by decide)) (sdc hf (by decide)) s60.1) (by decide) rfl (Nat.le_of_ble_eq_true rfl) ?_
              refine w_aload_n ok dX0_pass_102 0 rfl ?_
              refine w_getR ok dX0_pass_103 (fX0_12 rfl) (congrArg Prod.fst s_104) rfl (r_104_0 ro) (ltK hnn (by decide)) ?_
              refine y_getI ok dX0_pass_106 (fX0_93 rfl) (congrArg Prod.fst s_105) rfl (ltK hnn (by decide)) (sdc hf (by decide)) ?_
              refine w_icmp_ne (tgt := 119) ok dX0_pass_109 (by decide) (fun c11 => ?_) (fun c11 => ?_)
              · skip
                refine w_iinc (v := s60.1 + 1) ok dX0_pass_119 4 rfl rfl (by decide) rfl ?_
                refine w_goto (tgt := 60) ok dX0_pass_122 (by decide) ?_
                have eB : B_X0_pass_w60 a0 I J i2 s2 s60 = .inl ((s60.1 + 1), s60.2.1, s60.2.2) := by
                  unfold B_X0_pass_w60; exact (if_neg c9).trans ((if_pos c10).trans ((if_neg c11).trans (rfl)))
                refine w_loc [1, 2, 3, 4, 0] rfl ?_
                have kk := kc60 _ eB
                exact kk
              · skip
                refine w_aload_n ok dX0_pass_112 0 rfl ?_
                refine w_iload ok dX0_pass_113 4 rfl ?_
                refine w_iload_n ok dX0_pass_115 3 rfl ?_
                refine w_cV (As := [.int s60.1, .int (F_X0_isAway  s2.1 s2.2)]) ok dX0_pass_116 iX0_film (lX0_96 rfl) (rcv cls0 (congrArg Prod.fst s_104)) (ltK hnn (by decide)) (c_X0_film ro hnn hf s60.1 (F_X0_isAway  s2.1 s2.2)  (hp5 i2 s2 hi2 hs2 n60 s60 hs60 c9 c10 c11)) (by decide) rfl (Nat.le_of_ble_eq_true rfl) ?_
                refine w_iinc (v := s60.1 + 1) ok dX0_pass_119 4 rfl rfl (by decide) rfl ?_
                refine w_goto (tgt := 60) ok dX0_pass_122 (by decide) ?_
                have eB : B_X0_pass_w60 a0 I J i2 s2 s60 = .inl ((s60.1 + 1), (FI_X0_film s60.1 (F_X0_isAway  s2.1 s2.2) s60.2.1 s60.2.2), (FJ_X0_film s60.1 (F_X0_isAway  s2.1 s2.2) s60.2.1 s60.2.2)) := by
                  unfold B_X0_pass_w60; exact (if_neg c9).trans ((if_pos c10).trans ((if_pos c11).trans (rfl)))
                refine w_loc [1, 2, 3, 4, 0] rfl ?_
                have kk := kc60 _ eB
                exact kk
      refine w_if_eq (tgt := 53) ok dX0_pass_38 (by decide) (fun c12 => ?_) (fun c12 => ?_)
      · skip
        refine w_iconst (v := 0) ok dX0_pass_53 (by decide) ?_
        have eT : (T_X0_pass_j54 a0 I J i2 s2) = 0 := by
          unfold T_X0_pass_j54; exact (if_pos c12).trans (rfl)
        refine w_loc [0, 1, 2, 3] rfl ?_
        have jj := jn4
        rw [eT] at jj
        exact jj
      · skip
        refine w_aload_n ok dX0_pass_41 0 rfl ?_
        refine w_getR ok dX0_pass_42 (fX0_12 rfl) (congrArg Prod.fst s_104) rfl (r_104_0 ro) (ltK hnn (by decide)) ?_
        refine y_getI ok dX0_pass_45 (fX0_74 rfl) (congrArg Prod.fst s_105) rfl (ltK hnn (by decide)) (sdc hf (by decide)) ?_
        refine w_iconst (v := 1) ok dX0_pass_48 (by decide) ?_
        refine w_iadd ok dX0_pass_49 ?_
        refine w_goto (tgt := 54) ok dX0_pass_50 (by decide) ?_
        have eT : (T_X0_pass_j54 a0 I J i2 s2) = (((u2 s2.1 105 4 ((s2.1 105 4) + (T_X0_pass_j29 a0 I J i2 s2))) 105 5) + 1) := by
          unfold T_X0_pass_j54; exact (if_neg c12).trans (rfl)
        refine w_loc [0, 1, 2, 3] rfl ?_
        have jj := jn4
        rw [eT] at jj
        exact jj
    refine w_if_eq (tgt := 28) ok dX0_pass_21 (by decide) (fun c13 => ?_) (fun c13 => ?_)
    · skip
      refine w_iconst (v := 0) ok dX0_pass_28 (by decide) ?_
      have eT : (T_X0_pass_j29 a0 I J i2 s2) = 0 := by
        unfold T_X0_pass_j29; exact (if_pos c13).trans (rfl)
      refine w_loc [1, 2, 3, 0] rfl ?_
      have jj := jn3
      rw [eT] at jj
      exact jj
    · skip
      refine w_iconst (v := 1) ok dX0_pass_24 (by decide) ?_
      refine w_goto (tgt := 29) ok dX0_pass_25 (by decide) ?_
      have eT : (T_X0_pass_j29 a0 I J i2 s2) = 1 := by
        unfold T_X0_pass_j29; exact (if_neg c13).trans (rfl)
      refine w_loc [1, 2, 3, 0] rfl ?_
      have jj := jn3
      rw [eT] at jj
      exact jj
def S1_X4_line (I : SI) (J : SJ) : SI := u2 (FI_X4_onlyOnce (I 42 7) 100 I J) 42 7 (F_X4_onlyOnce (I 42 7) 100 I J)
def S2_X4_line (I : SI) (J : SJ) : SI := u2 (FI_X4_onlyOnce (I 42 8) 999 I J) 42 8 (F_X4_onlyOnce (I 42 8) 999 I J)
def S3_X4_line (I : SI) (J : SJ) : SI := u2 (FI_X4_onlyOnce (I 42 9) 99999 I J) 42 9 (F_X4_onlyOnce (I 42 9) 99999 I J)
def FI_X4_line  (I : SI) (J : SJ) : SI := if (I 81 5) = 20 then FI_X4_markLine  I J else (if (I 81 5) = 21 then FI_X4_shotLine  I J else (if (I 81 5) = 22 then FI_X4_pairLine  I J else (if (I 81 5) = 23 then FI_X4_partyLine  I J else (if (I 81 5) = 24 then FI_X4_clerkLine  I J else (if (I 81 5) = 25 then FI_X4_coldLine  I J else (if (I 81 5) = 26 then (S1_X4_line I J) else (if (I 81 5) = 27 then (S2_X4_line I J) else (if (I 81 5) = 28 then (S3_X4_line I J) else (if (I 81 5) = 29 then FI_X4_lawLine  I J else FI_X4_fail 1 I J)))))))))
def H_X4_line  (I : SI) (J : SJ) : Prop := ((I 81 5) = 20 → H_X4_markLine  I J) ∧ (¬ ((I 81 5) = 20) → (I 81 5) = 21 → H_X4_shotLine  I J) ∧ (¬ ((I 81 5) = 20) → ¬ ((I 81 5) = 21) → (I 81 5) = 22 → H_X4_pairLine  I J) ∧ (¬ ((I 81 5) = 20) → ¬ ((I 81 5) = 21) → ¬ ((I 81 5) = 22) → (I 81 5) = 23 → H_X4_partyLine  I J) ∧ (¬ ((I 81 5) = 20) → ¬ ((I 81 5) = 21) → ¬ ((I 81 5) = 22) → ¬ ((I 81 5) = 23) → (I 81 5) = 24 → H_X4_clerkLine  I J) ∧ (¬ ((I 81 5) = 20) → ¬ ((I 81 5) = 21) → ¬ ((I 81 5) = 22) → ¬ ((I 81 5) = 23) → ¬ ((I 81 5) = 24) → (I 81 5) = 25 → H_X4_coldLine  I J) ∧ (¬ ((I 81 5) = 20) → ¬ ((I 81 5) = 21) → ¬ ((I 81 5) = 22) → ¬ ((I 81 5) = 23) → ¬ ((I 81 5) = 24) → ¬ ((I 81 5) = 25) → (I 81 5) = 26 → H_X4_onlyOnce (I 42 7) 100 I J) ∧ (¬ ((I 81 5) = 20) → ¬ ((I 81 5) = 21) → ¬ ((I 81 5) = 22) → ¬ ((I 81 5) = 23) → ¬ ((I 81 5) = 24) → ¬ ((I 81 5) = 25) → ¬ ((I 81 5) = 26) → (I 81 5) = 27 → H_X4_onlyOnce (I 42 8) 999 I J) ∧ (¬ ((I 81 5) = 20) → ¬ ((I 81 5) = 21) → ¬ ((I 81 5) = 22) → ¬ ((I 81 5) = 23) → ¬ ((I 81 5) = 24) → ¬ ((I 81 5) = 25) → ¬ ((I 81 5) = 26) → ¬ ((I 81 5) = 27) → (I 81 5) = 28 → H_X4_onlyOnce (I 42 9) 99999 I J) ∧ (¬ ((I 81 5) = 20) → ¬ ((I 81 5) = 21) → ¬ ((I 81 5) = 22) → ¬ ((I 81 5) = 23) → ¬ ((I 81 5) = 24) → ¬ ((I 81 5) = 25) → ¬ ((I 81 5) = 26) → ¬ ((I 81 5) = 27) → ¬ ((I 81 5) = 28) → (I 81 5) = 29 → H_X4_lawLine  I J)
set_option maxHeartbeats 1260000 in
set_option maxRecDepth 40000 in
theorem c_X4_line {I : SI} {J : SJ} {R : SR} {n g : Nat} {f : Fr} (ro : RO R) (hnn : nK ≤ n) (hf : f.1 = true)  (htp : R 81 1 = some 1)  (hp : H_X4_line  I J) : MM 5 0 0 mX4_line [.ref 41] (eI f I) (eJ f J) R n g (Pd none (eI f (FI_X4_line  I J)) (eJ f J) R n g) := by
  refine MM.of (by decide) (Nat.le_of_ble_eq_true rfl) fun K ok fin => ?_
  show WK K 0 0 0 [(0, .ref 41)] [] (eI f I) (eJ f J) R n g
  obtain ⟨hp1, hp2, hp3, hp4, hp5, hp6, hp7, hp8, hp9, hp10⟩ := hp
  refine w_aload_n ok dX4_line_0 0 rfl ?_
  refine w_getR ok dX4_line_1 (fX4_28 rfl) (congrArg Prod.fst s_41) rfl (r_41_3 ro) (ltK hnn (by decide)) ?_
  refine y_getI ok dX4_line_4 (fX4_52 rfl) (congrArg Prod.fst s_81) rfl (ltK hnn (by decide)) (sdc hf (by decide)) ?_
  by_cases c1 : (I 81 5) = 20
  · skip
    refine w_tabIn (tgt := 60) (off := 53) ok dX4_line_7 (by rw [c1]; decide) (by rw [c1]; decide) (by rw [c1]; rfl) (by decide) ?_
    refine w_aload_n ok dX4_line_60 0 rfl ?_
    refine w_cV (As := []) ok dX4_line_61 iX4_markLine (lX4_76 rfl) (rcv cls4 (congrArg Prod.fst s_41)) (ltK hnn (by decide)) (c_X4_markLine ro hnn hf  htp (hp1 c1)) (by decide) rfl (Nat.le_of_ble_eq_true rfl) ?_
    refine w_goto (tgt := 184) ok dX4_line_64 (by decide) ?_
    exact w_vret ok fin dX4_line_184 rfl (by unfold FI_X4_line; simp only [if_pos c1]; exact Pd.i)
  · skip
    by_cases c2 : (I 81 5) = 21
    · skip
      refine w_tabIn (tgt := 67) (off := 60) ok dX4_line_7 (by rw [c2]; decide) (by rw [c2]; decide) (by rw [c2]; rfl) (by decide) ?_
      refine w_aload_n ok dX4_line_67 0 rfl ?_
      refine w_cV (As := []) ok dX4_line_68 iX4_shotLine (lX4_79 rfl) (rcv cls4 (congrArg Prod.fst s_41)) (ltK hnn (by decide)) (c_X4_shotLine ro hnn hf  htp (hp2 c1 c2)) (by decide) rfl (Nat.le_of_ble_eq_true rfl) ?_
      refine w_goto (tgt := 184) ok dX4_line_71 (by decide) ?_
      exact w_vret ok fin dX4_line_184 rfl (by unfold FI_X4_line; simp only [if_neg c1]; simp only [if_pos c2]; exact Pd.i)
    · skip
      by_cases c3 : (I 81 5) = 22
      · skip
        refine w_tabIn (tgt := 74) (off := 67) ok dX4_line_7 (by rw [c3]; decide) (by rw [c3]; decide) (by rw [c3]; rfl) (by decide) ?_
        refine w_aload_n ok dX4_line_74 0 rfl ?_
        refine w_cV (As := []) ok dX4_line_75 iX4_pairLine (lX4_82 rfl) (rcv cls4 (congrArg Prod.fst s_41)) (ltK hnn (by decide)) (c_X4_pairLine ro hnn hf  htp (hp3 c1 c2 c3)) (by decide) rfl (Nat.le_of_ble_eq_true rfl) ?_
        refine w_goto (tgt := 184) ok dX4_line_78 (by decide) ?_
        exact w_vret ok fin dX4_line_184 rfl (by unfold FI_X4_line; simp only [if_neg c1]; simp only [if_neg c2]; simp only [if_pos c3]; exact Pd.i)
      · skip
        by_cases c4 : (I 81 5) = 23
        · skip
          refine w_tabIn (tgt := 81) (off := 74) ok dX4_line_7 (by rw [c4]; decide) (by rw [c4]; decide) (by rw [c4]; rfl) (by decide) ?_
          refine w_aload_n ok dX4_line_81 0 rfl ?_
          refine w_cV (As := []) ok dX4_line_82 iX4_partyLine (lX4_85 rfl) (rcv cls4 (congrArg Prod.fst s_41)) (ltK hnn (by decide)) (c_X4_partyLine ro hnn hf  htp (hp4 c1 c2 c3 c4)) (by decide) rfl (Nat.le_of_ble_eq_true rfl) ?_
          refine w_goto (tgt := 184) ok dX4_line_85 (by decide) ?_
          exact w_vret ok fin dX4_line_184 rfl (by unfold FI_X4_line; simp only [if_neg c1]; simp only [if_neg c2]; simp only [if_neg c3]; simp only [if_pos c4]; exact Pd.i)
        · skip
          by_cases c5 : (I 81 5) = 24
          · skip
            refine w_tabIn (tgt := 88) (off := 81) ok dX4_line_7 (by rw [c5]; decide) (by rw [c5]; decide) (by rw [c5]; rfl) (by decide) ?_
            refine w_aload_n ok dX4_line_88 0 rfl ?_
            refine w_cV (As := []) ok dX4_line_89 iX4_clerkLine (lX4_88 rfl) (rcv cls4 (congrArg Prod.fst s_41)) (ltK hnn (by decide)) (c_X4_clerkLine ro hnn hf  htp (hp5 c1 c2 c3 c4 c5)) (by decide) rfl (Nat.le_of_ble_eq_true rfl) ?_
            refine w_goto (tgt := 184) ok dX4_line_92 (by decide) ?_
            exact w_vret ok fin dX4_line_184 rfl (by unfold FI_X4_line; simp only [if_neg c1]; simp only [if_neg c2]; simp only [if_neg c3]; simp only [if_neg c4]; simp only [if_pos c5]; exact Pd.i)
          · skip
            by_cases c6 : (I 81 5) = 25
            · skip
              refine w_tabIn (tgt := 95) (off := 88) ok dX4_line_7 (by rw [c6]; decide) (by rw [c6]; decide) (by rw [c6]; rfl) (by decide) ?_
              refine w_aload_n ok dX4_line_95 0 rfl ?_
              refine w_cV (As := []) ok dX4_line_96 iX4_coldLine (lX4_91 rfl) (rcv cls4 (congrArg Prod.fst s_41)) (ltK hnn (by decide)) (c_X4_coldLine ro hnn hf  htp (hp6 c1 c2 c3 c4 c5 c6)) (by decide) rfl (Nat.le_of_ble_eq_true rfl) ?_
              refine w_goto (tgt := 184) ok dX4_line_99 (by decide) ?_
              exact w_vret ok fin dX4_line_184 rfl (by unfold FI_X4_line; simp only [if_neg c1]; simp only [if_neg c2]; simp only [if_neg c3]; simp only [if_neg c4]; simp only [if_neg c5]; simp only [if_pos c6]; exact Pd.i)
            · skip
              by_cases c7 : (I 81 5) = 26
              · skip
                refine w_tabIn (tgt := 102) (off := 95) ok dX4_line_7 (by rw [c7]; decide) (by rw [c7]; decide) (by rw [c7]; rfl) (by decide) ?_
                refine w_aload_n ok dX4_line_102 0 rfl ?_
                refine w_getR ok dX4_line_103 (fX4_12 rfl) (congrArg Prod.fst s_41) rfl (r_41_0 ro) (ltK hnn (by decide)) ?_
                refine w_aload_n ok dX4_line_106 0 rfl ?_
                refine w_aload_n ok dX4_line_107 0 rfl ?_
                refine w_getR ok dX4_line_108 (fX4_12 rfl) (congrArg Prod.fst s_41) rfl (r_41_0 ro) (ltK hnn (by decide)) ?_
                refine y_getI ok dX4_line_111 (fX4_94 rfl) (congrArg Prod.fst s_42) rfl (ltK hnn (by decide)) (sdc hf (by decide)) ?_
                refine w_bipush (v := 100) ok dX4_line_114 (by decide) ?_
                refine w_cV (As := [.int (I 42 7), .int 100]) ok dX4_line_116 iX4_onlyOnce (lX4_97 rfl) (rcv cls4 (congrArg Prod.fst s_41)) (ltK hnn (by decide)) (c_X4_onlyOnce ro hnn hf (I 42 7) 100 htp (hp7 c1 c2 c3 c4 c5 c6 c7)) (by decide) rfl (Nat.le_of_ble_eq_true rfl) ?_
                show WK K 0 0 119 [(0, .ref 41)] [.int (F_X4_onlyOnce (I 42 7) 100 I J), .ref 42] (eI f (FI_X4_onlyOnce (I 42 7) 100 I J)) (eJ f J) R n g
                refine y_putI ok dX4_line_119 (fwX4_94 rfl) (congrArg Prod.fst s_42) rfl (ltK hnn (by decide)) (sdc hf (by decide)) ?_
                show WK K 0 0 122 [(0, .ref 41)] [] (eI f (S1_X4_line I J)) (eJ f J) R n g
                refine w_goto (tgt := 184) ok dX4_line_122 (by decide) ?_
                exact w_vret ok fin dX4_line_184 rfl (by unfold FI_X4_line; simp only [if_neg c1]; simp only [if_neg c2]; simp only [if_neg c3]; simp only [if_neg c4]; simp only [if_neg c5]; simp only [if_neg c6]; simp only [if_pos c7]; exact Pd.i)
              · skip
                by_cases c8 : (I 81 5) = 27
                · skip
                  refine w_tabIn (tgt := 125) (off := 118) ok dX4_line_7 (by rw [c8]; decide) (by rw [c8]; decide) (by rw [c8]; rfl) (by decide) ?_
                  refine w_aload_n ok dX4_line_125 0 rfl ?_
                  refine w_getR ok dX4_line_126 (fX4_12 rfl) (congrArg Prod.fst s_41) rfl (r_41_0 ro) (ltK hnn (by decide)) ?_
                  refine w_aload_n ok dX4_line_129 0 rfl ?_
                  refine w_aload_n ok dX4_line_130 0 rfl ?_
                  refine w_getR ok dX4_line_131 (fX4_12 rfl) (congrArg Prod.fst s_41) rfl (r_41_0 ro) (ltK hnn (by decide)) ?_
                  refine y_getI ok dX4_line_134 (fX4_101 rfl) (congrArg Prod.fst s_42) rfl (ltK hnn (by decide)) (sdc hf (by decide)) ?_
                  refine w_sipush (v := 999) ok dX4_line_137 (by decide) ?_
                  refine w_cV (As := [.int (I 42 8), .int 999]) ok dX4_line_140 iX4_onlyOnce (lX4_97 rfl) (rcv cls4 (congrArg Prod.fst s_41)) (ltK hnn (by decide)) (c_X4_onlyOnce ro hnn hf (I 42 8) 999 htp (hp8 c1 c2 c3 c4 c5 c6 c7 c8)) (by decide) rfl (Nat.le_of_ble_eq_true rfl) ?_
                  show WK K 0 0 143 [(0, .ref 41)] [.int (F_X4_onlyOnce (I 42 8) 999 I J), .ref 42] (eI f (FI_X4_onlyOnce (I 42 8) 999 I J)) (eJ f J) R n g
                  refine y_putI ok dX4_line_143 (fwX4_101 rfl) (congrArg Prod.fst s_42) rfl (ltK hnn (by decide)) (sdc hf (by decide)) ?_
                  show WK K 0 0 146 [(0, .ref 41)] [] (eI f (S2_X4_line I J)) (eJ f J) R n g
                  refine w_goto (tgt := 184) ok dX4_line_146 (by decide) ?_
                  exact w_vret ok fin dX4_line_184 rfl (by unfold FI_X4_line; simp only [if_neg c1]; simp only [if_neg c2]; simp only [if_neg c3]; simp only [if_neg c4]; simp only [if_neg c5]; simp only [if_neg c6]; simp only [if_neg c7]; simp only [if_pos c8]; exact Pd.i)
                · skip
                  by_cases c9 : (I 81 5) = 28
                  · skip
                    refine w_tabIn (tgt := 149) (off := 142) ok dX4_line_7 (by rw [c9]; decide) (by rw [c9]; decide) (by rw [c9]; rfl) (by decide) ?_
                    refine w_aload_n ok dX4_line_149 0 rfl ?_
                    refine w_getR ok dX4_line_150 (fX4_12 rfl) (congrArg Prod.fst s_41) rfl (r_41_0 ro) (ltK hnn (by decide)) ?_
                    refine w_aload_n ok dX4_line_153 0 rfl ?_
                    refine w_aload_n ok dX4_line_154 0 rfl ?_
                    refine w_getR ok dX4_line_155 (fX4_12 rfl) (congrArg Prod.fst s_41) rfl (r_41_0 ro) (ltK hnn (by decide)) ?_
                    refine y_getI ok dX4_line_158 (fX4_104 rfl) (congrArg Prod.fst s_42) rfl (ltK hnn (by decide)) (sdc hf (by decide)) ?_
                    refine w_ldc ok dX4_line_161 kX4_107 ?_
                    refine w_cV (As := [.int (I 42 9), .int 99999]) ok dX4_line_163 iX4_onlyOnce (lX4_97 rfl) (rcv cls4 (congrArg Prod.fst s_41)) (ltK hnn (by decide)) (c_X4_onlyOnce ro hnn hf (I 42 9) 99999 htp (hp9 c1 c2 c3 c4 c5 c6 c7 c8 c9)) (by decide) rfl (Nat.le_of_ble_eq_true rfl) ?_
                    show WK K 0 0 166 [(0, .ref 41)] [.int (F_X4_onlyOnce (I 42 9) 99999 I J), .ref 42] (eI f (FI_X4_onlyOnce (I 42 9) 99999 I J)) (eJ f J) R n g
                    refine y_putI ok dX4_line_166 (fwX4_104 rfl) (congrArg Prod.fst s_42) rfl (ltK hnn (by decide)) (sdc hf (by decide)) ?_
                    show WK K 0 0 169 [(0, .ref 41)] [] (eI f (S3_X4_line I J)) (eJ f J) R n g
                    refine w_goto (tgt := 184) ok dX4_line_169 (by decide) ?_
                    exact w_vret ok fin dX4_line_184 rfl (by unfold FI_X4_line; simp only [if_neg c1]; simp only [if_neg c2]; simp only [if_neg c3]; simp only [if_neg c4]; simp only [if_neg c5]; simp only [if_neg c6]; simp only [if_neg c7]; simp only [if_neg c8]; simp only [if_pos c9]; exact Pd.i)
                  · skip
                    by_cases c10 : (I 81 5) = 29
                    · skip
                      refine w_tabIn (tgt := 172) (off := 165) ok dX4_line_7 (by rw [c10]; decide) (by rw [c10]; decide) (by rw [c10]; rfl) (by decide) ?_
                      refine w_aload_n ok dX4_line_172 0 rfl ?_
                      refine w_cV (As := []) ok dX4_line_173 iX4_lawLine (lX4_108 rfl) (rcv cls4 (congrArg Prod.fst s_41)) (ltK hnn (by decide)) (c_X4_lawLine ro hnn hf  htp (hp10 c1 c2 c3 c4 c5 c6 c7 c8 c9 c10)) (by decide) rfl (Nat.le_of_ble_eq_true rfl) ?_
                      refine w_goto (tgt := 184) ok dX4_line_176 (by decide) ?_
                      exact w_vret ok fin dX4_line_184 rfl (by unfold FI_X4_line; simp only [if_neg c1]; simp only [if_neg c2]; simp only [if_neg c3]; simp only [if_neg c4]; simp only [if_neg c5]; simp only [if_neg c6]; simp only [if_neg c7]; simp only [if_neg c8]; simp only [if_neg c9]; simp only [if_pos c10]; exact Pd.i)
                    · skip
                      have n11 : (I 81 5).toInt ≠ 20 := ne_toInt c1
                      have n12 : (I 81 5).toInt ≠ 21 := ne_toInt c2
                      have n13 : (I 81 5).toInt ≠ 22 := ne_toInt c3
                      have n14 : (I 81 5).toInt ≠ 23 := ne_toInt c4
                      have n15 : (I 81 5).toInt ≠ 24 := ne_toInt c5
                      have n16 : (I 81 5).toInt ≠ 25 := ne_toInt c6
                      have n17 : (I 81 5).toInt ≠ 26 := ne_toInt c7
                      have n18 : (I 81 5).toInt ≠ 27 := ne_toInt c8
                      have n19 : (I 81 5).toInt ≠ 28 := ne_toInt c9
                      have n20 : (I 81 5).toInt ≠ 29 := ne_toInt c10
                      refine w_tabOut (tgt := 179) ok dX4_line_7 (by omega) (by decide) ?_
                      refine w_aload_n ok dX4_line_179 0 rfl ?_
                      refine w_iconst (v := 1) ok dX4_line_180 (by decide) ?_
                      refine w_cV (As := [.int 1]) ok dX4_line_181 iX4_fail (lX4_58 rfl) (rcv cls4 (congrArg Prod.fst s_41)) (ltK hnn (by decide)) (c_X4_fail ro hnn hf 1 ) (by decide) rfl (Nat.le_of_ble_eq_true rfl) ?_
                      exact w_vret ok fin dX4_line_184 rfl (by unfold FI_X4_line; simp only [if_neg c1]; simp only [if_neg c2]; simp only [if_neg c3]; simp only [if_neg c4]; simp only [if_neg c5]; simp only [if_neg c6]; simp only [if_neg c7]; simp only [if_neg c8]; simp only [if_neg c9]; simp only [if_neg c10]; exact Pd.i)
def S1_X11_go (a0 : Int32) (I : SI) (J : SJ) : SI := FI_X5_copy 86 105 (FI_X0_pass a0 (u2 (FI_X0_begin 86 I J) 104 2 1) (FJ_X0_begin 86 I J)) (FJ_X0_pass a0 (u2 (FI_X0_begin 86 I J) 104 2 1) (FJ_X0_begin 86 I J))
def S2_X11_go (a0 : Int32) (I : SI) (J : SJ) : SJ := FJ_X5_copy 86 105 (FI_X0_pass a0 (u2 (FI_X0_begin 86 I J) 104 2 1) (FJ_X0_begin 86 I J)) (FJ_X0_pass a0 (u2 (FI_X0_begin 86 I J) 104 2 1) (FJ_X0_begin 86 I J))
def F_X11_go (a0 : Int32) (I : SI) (J : SJ) : Int32 := if a0 < 0 then -1 else (if (99 : Int32) < a0 then -1 else (if ((I 86 0) + a0) ≤ 9900 then (if a0 ≤ 0 then I 86 0 else (FI_X10_clear  (S1_X11_go a0 I J) (S2_X11_go a0 I J)) 86 0) else -1))
def FI_X11_go (a0 : Int32) (I : SI) (J : SJ) : SI := if a0 < 0 then I else (if (99 : Int32) < a0 then I else (if ((I 86 0) + a0) ≤ 9900 then (if a0 ≤ 0 then I else FI_X10_clear  (S1_X11_go a0 I J) (S2_X11_go a0 I J)) else I))
def FJ_X11_go (a0 : Int32) (I : SI) (J : SJ) : SJ := if a0 < 0 then J else (if (99 : Int32) < a0 then J else (if ((I 86 0) + a0) ≤ 9900 then (if a0 ≤ 0 then J else (S2_X11_go a0 I J)) else J))
def H_X11_go (a0 : Int32) (I : SI) (J : SJ) : Prop := (¬ (a0 < 0) → ¬ ((99 : Int32) < a0) → ((I 86 0) + a0) ≤ 9900 → ¬ (a0 ≤ 0) → H_X0_pass a0 (u2 (FI_X0_begin 86 I J) 104 2 1) (FJ_X0_begin 86 I J))
set_option maxHeartbeats 1000000 in
set_option maxRecDepth 40000 in
theorem c_X11_go {I : SI} {J : SJ} {R : SR} {n g : Nat} {f : Fr} (ro : RO R) (hnn : nK ≤ n) (hf : f.1 = true) (a0 : Int32)  (hp : H_X11_go a0 I J) : MM 6 0 0 mX11_go [.ref 0, .int a0] (eI f I) (eJ f J) R n g (Pd (some (.int (F_X11_go a0 I J))) (eI f (FI_X11_go a0 I J)) (eJ f (FJ_X11_go a0 I J)) R n g) := by
  refine MM.of (by decide) (Nat.le_of_ble_eq_true rfl) fun K ok fin => ?_
  show WK K 0 0 0 [(0, .ref 0), (1, .int a0)] [] (eI f I) (eJ f J) R n g
  have hp1 := hp
  refine w_iload_n ok dX11_go_0 1 rfl ?_
  refine w_if_lt (tgt := 25) ok dX11_go_1 (by decide) (fun c1 => ?_) (fun c1 => ?_)
  · skip
    refine w_iconst (v := (-1)) ok dX11_go_25 (by decide) ?_
    exact w_iret ok fin dX11_go_26 rfl (by unfold F_X11_go FI_X11_go FJ_X11_go; simp only [if_pos c1]; exact Pd.i)
  · skip
    refine w_iload_n ok dX11_go_4 1 rfl ?_
    refine w_bipush (v := 99) ok dX11_go_5 (by decide) ?_
    refine w_icmp_gt (tgt := 25) ok dX11_go_7 (by decide) (fun c2 => ?_) (fun c2 => ?_)
    · skip
      refine w_iconst (v := (-1)) ok dX11_go_25 (by decide) ?_
      exact w_iret ok fin dX11_go_26 rfl (by unfold F_X11_go FI_X11_go FJ_X11_go; simp only [if_neg c1]; simp only [if_pos c2]; exact Pd.i)
    · skip
      refine w_aload_n ok dX11_go_10 0 rfl ?_
      refine w_getR ok dX11_go_11 (fX11_34 rfl) (congrArg Prod.fst s_0) rfl (r_0_4 ro) (ltK hnn (by decide)) ?_
      refine y_getI ok dX11_go_14 (fX11_219 rfl) (congrArg Prod.fst s_86) rfl (ltK hnn (by decide)) (sdc hf (by decide)) ?_
      refine w_iload_n ok dX11_go_17 1 rfl ?_
      refine w_iadd ok dX11_go_18 ?_
      refine w_sipush (v := 9900) ok dX11_go_19 (by decide) ?_
      refine w_icmp_le (tgt := 27) ok dX11_go_22 (by decide) (fun c3 => ?_) (fun c3 => ?_)
      · skip
        refine w_iload_n ok dX11_go_27 1 rfl ?_
        refine w_if_le (tgt := 79) ok dX11_go_28 (by decide) (fun c4 => ?_) (fun c4 => ?_)
        · skip
          refine w_aload_n ok dX11_go_79 0 rfl ?_
          refine w_getR ok dX11_go_80 (fX11_34 rfl) (congrArg Prod.fst s_0) rfl (r_0_4 ro) (ltK hnn (by decide)) ?_
          refine y_getI ok dX11_go_83 (fX11_219 rfl) (congrArg Prod.fst s_86) rfl (ltK hnn (by decide)) (sdc hf (by decide)) ?_
          exact w_iret ok fin dX11_go_86 rfl (by unfold F_X11_go FI_X11_go FJ_X11_go; simp only [if_neg c1]; simp only [if_neg c2]; simp only [if_pos c3]; simp only [if_pos c4]; exact Pd.i)
        · skip
          refine w_aload_n ok dX11_go_31 0 rfl ?_
          refine w_getR ok dX11_go_32 (fX11_50 rfl) (congrArg Prod.fst s_0) rfl (r_0_7 ro) (ltK hnn (by decide)) ?_
          refine w_aload_n ok dX11_go_35 0 rfl ?_
          refine w_getR ok dX11_go_36 (fX11_34 rfl) (congrArg Prod.fst s_0) rfl (r_0_4 ro) (ltK hnn (by decide)) ?_
          refine w_cV (As := [.ref 86]) ok dX11_go_39 iX0_begin (lX11_189 rfl) (rcv cls0 (congrArg Prod.fst s_104)) (ltK hnn (by decide)) (c_X0_begin ro hnn hf  isSc_86) (by decide) rfl (Nat.le_of_ble_eq_true rfl) ?_
          refine w_aload_n ok dX11_go_42 0 rfl ?_
          refine w_getR ok dX11_go_43 (fX11_50 rfl) (congrArg Prod.fst s_0) rfl (r_0_7 ro) (ltK hnn (by decide)) ?_
          refine w_iconst (v := 1) ok dX11_go_46 (by decide) ?_
          refine y_putI ok dX11_go_47 (fwX11_226 rfl) (congrArg Prod.fst s_104) rfl (ltK hnn (by decide)) (sdc hf (by decide)) ?_
          refine w_aload_n ok dX11_go_50 0 rfl ?_
          refine w_getR ok dX11_go_51 (fX11_50 rfl) (congrArg Prod.fst s_0) rfl (r_0_7 ro) (ltK hnn (by decide)) ?_
          refine w_iload_n ok dX11_go_54 1 rfl ?_
          refine w_cV (As := [.int a0]) ok dX11_go_55 iX0_pass (lX11_229 rfl) (rcv cls0 (congrArg Prod.fst s_104)) (ltK hnn (by decide)) (c_X0_pass ro hnn hf a0  (hp1 c1 c2 c3 c4)) (by decide) rfl (Nat.le_of_ble_eq_true rfl) ?_
          refine w_aload_n ok dX11_go_58 0 rfl ?_
          refine w_getR ok dX11_go_59 (fX11_34 rfl) (congrArg Prod.fst s_0) rfl (r_0_4 ro) (ltK hnn (by decide)) ?_
          refine w_aload_n ok dX11_go_62 0 rfl ?_
          refine w_getR ok dX11_go_63 (fX11_50 rfl) (congrArg Prod.fst s_0) rfl (r_0_7 ro) (ltK hnn (by decide)) ?_
          refine w_getR ok dX11_go_66 (fX11_232 rfl) (congrArg Prod.fst s_104) rfl (r_104_0 ro) (ltK hnn (by decide)) ?_
          refine w_cV (As := [.ref 105]) ok dX11_go_69 iX5_copy (lX11_235 rfl) (rcv cls5 (congrArg Prod.fst s_86)) (ltK hnn (by decide)) (c_X5_copy ro hnn hf  isSc_86 isSc_105) (by decide) rfl (Nat.le_of_ble_eq_true rfl) ?_
          show WK K 0 0 72 [(0, .ref 0), (1, .int a0)] [] (eI f (S1_X11_go a0 I J)) (eJ f (S2_X11_go a0 I J)) R n g
          refine w_aload_n ok dX11_go_72 0 rfl ?_
          refine w_getR ok dX11_go_73 (fX11_64 rfl) (congrArg Prod.fst s_0) rfl (r_0_9 ro) (ltK hnn (by decide)) ?_
          refine w_cV (As := []) ok dX11_go_76 iX10_clear (lX11_102 rfl) (rcv cls10 (congrArg Prod.fst s_120)) (ltK hnn (by decide)) (c_X10_clear ro hnn hf  ) (by decide) rfl (Nat.le_of_ble_eq_true rfl) ?_
          refine w_aload_n ok dX11_go_79 0 rfl ?_
          refine w_getR ok dX11_go_80 (fX11_34 rfl) (congrArg Prod.fst s_0) rfl (r_0_4 ro) (ltK hnn (by decide)) ?_
          refine y_getI ok dX11_go_83 (fX11_219 rfl) (congrArg Prod.fst s_86) rfl (ltK hnn (by decide)) (sdc hf (by decide)) ?_
          exact w_iret ok fin dX11_go_86 rfl (by unfold F_X11_go FI_X11_go FJ_X11_go; simp only [if_neg c1]; simp only [if_neg c2]; simp only [if_pos c3]; simp only [if_neg c4]; exact Pd.i)
      · skip
        refine w_iconst (v := (-1)) ok dX11_go_25 (by decide) ?_
        exact w_iret ok fin dX11_go_26 rfl (by unfold F_X11_go FI_X11_go FJ_X11_go; simp only [if_neg c1]; simp only [if_neg c2]; simp only [if_neg c3]; exact Pd.i)
def S1_X11_ahead (a0 : Int32) (a1 : Int32) (I : SI) (J : SJ) : Int32 := F_X5_filmedCount 105 (FI_X0_pass a0 (FI_X0_begin 86 I J) (FJ_X0_begin 86 I J)) (FJ_X0_pass a0 (FI_X0_begin 86 I J) (FJ_X0_begin 86 I J))
def S2_X11_ahead (a0 : Int32) (a1 : Int32) (I : SI) (J : SJ) : Int32 := F_X5_filmedCount 86 (FI_X0_pass a0 (FI_X0_begin 86 I J) (FJ_X0_begin 86 I J)) (FJ_X0_pass a0 (FI_X0_begin 86 I J) (FJ_X0_begin 86 I J))
def S3_X11_ahead (a0 : Int32) (a1 : Int32) (I : SI) (J : SJ) : Int32 := ((FI_X0_pass a0 (FI_X0_begin 86 I J) (FJ_X0_begin 86 I J)) 105 2) - ((FI_X0_pass a0 (FI_X0_begin 86 I J) (FJ_X0_begin 86 I J)) 86 2)
def S4_X11_ahead (a0 : Int32) (a1 : Int32) (I : SI) (J : SJ) : Int32 := ((FI_X0_pass a0 (FI_X0_begin 86 I J) (FJ_X0_begin 86 I J)) 105 3) - ((FI_X0_pass a0 (FI_X0_begin 86 I J) (FJ_X0_begin 86 I J)) 86 3)
def S5_X11_ahead (a0 : Int32) (a1 : Int32) (I : SI) (J : SJ) : Int32 := F_X5_clashCount 105 (FI_X0_pass a0 (FI_X0_begin 86 I J) (FJ_X0_begin 86 I J)) (FJ_X0_pass a0 (FI_X0_begin 86 I J) (FJ_X0_begin 86 I J))
def F_X11_ahead (a0 : Int32) (a1 : Int32) (I : SI) (J : SJ) : Int32 := if a0 < 0 then -1 else (if (99 : Int32) < a0 then -1 else (if a1 < 0 then -1 else (if a1 ≤ 4 then (if a1 = 0 then (S1_X11_ahead a0 a1 I J) - (S2_X11_ahead a0 a1 I J) else (if a1 = 1 then (S3_X11_ahead a0 a1 I J) else (if a1 = 2 then (S4_X11_ahead a0 a1 I J) else (if a1 = 3 then (FI_X0_pass a0 (FI_X0_begin 86 I J) (FJ_X0_begin 86 I J)) 105 1 else (S5_X11_ahead a0 a1 I J))))) else -1)))
def FI_X11_ahead (a0 : Int32) (a1 : Int32) (I : SI) (J : SJ) : SI := if a0 < 0 then I else (if (99 : Int32) < a0 then I else (if a1 < 0 then I else (if a1 ≤ 4 then (if a1 = 0 then FI_X0_pass a0 (FI_X0_begin 86 I J) (FJ_X0_begin 86 I J) else (if a1 = 1 then FI_X0_pass a0 (FI_X0_begin 86 I J) (FJ_X0_begin 86 I J) else (if a1 = 2 then FI_X0_pass a0 (FI_X0_begin 86 I J) (FJ_X0_begin 86 I J) else (if a1 = 3 then FI_X0_pass a0 (FI_X0_begin 86 I J) (FJ_X0_begin 86 I J) else FI_X0_pass a0 (FI_X0_begin 86 I J) (FJ_X0_begin 86 I J))))) else I)))
def FJ_X11_ahead (a0 : Int32) (a1 : Int32) (I : SI) (J : SJ) : SJ := if a0 < 0 then J else (if (99 : Int32) < a0 then J else (if a1 < 0 then J else (if a1 ≤ 4 then (if a1 = 0 then FJ_X0_pass a0 (FI_X0_begin 86 I J) (FJ_X0_begin 86 I J) else (if a1 = 1 then FJ_X0_pass a0 (FI_X0_begin 86 I J) (FJ_X0_begin 86 I J) else (if a1 = 2 then FJ_X0_pass a0 (FI_X0_begin 86 I J) (FJ_X0_begin 86 I J) else (if a1 = 3 then FJ_X0_pass a0 (FI_X0_begin 86 I J) (FJ_X0_begin 86 I J) else FJ_X0_pass a0 (FI_X0_begin 86 I J) (FJ_X0_begin 86 I J))))) else J)))
def H_X11_ahead (a0 : Int32) (a1 : Int32) (I : SI) (J : SJ) : Prop := (¬ (a0 < 0) → ¬ ((99 : Int32) < a0) → ¬ (a1 < 0) → a1 ≤ 4 → H_X0_pass a0 (FI_X0_begin 86 I J) (FJ_X0_begin 86 I J))
set_option maxHeartbeats 1000000 in
set_option maxRecDepth 40000 in
theorem c_X11_ahead {I : SI} {J : SJ} {R : SR} {n g : Nat} {f : Fr} (ro : RO R) (hnn : nK ≤ n) (hf : f.1 = true) (a0 : Int32) (a1 : Int32)  (hp : H_X11_ahead a0 a1 I J) : MM 6 0 0 mX11_ahead [.ref 0, .int a0, .int a1] (eI f I) (eJ f J) R n g (Pd (some (.int (F_X11_ahead a0 a1 I J))) (eI f (FI_X11_ahead a0 a1 I J)) (eJ f (FJ_X11_ahead a0 a1 I J)) R n g) := by
  refine MM.of (by decide) (Nat.le_of_ble_eq_true rfl) fun K ok fin => ?_
  show WK K 0 0 0 [(0, .ref 0), (1, .int a0), (2, .int a1)] [] (eI f I) (eJ f J) R n g
  have hp1 := hp
  refine w_iload_n ok dX11_ahead_0 1 rfl ?_
  refine w_if_lt (tgt := 19) ok dX11_ahead_1 (by decide) (fun c1 => ?_) (fun c1 => ?_)
  · skip
    refine w_iconst (v := (-1)) ok dX11_ahead_19 (by decide) ?_
    exact w_iret ok fin dX11_ahead_20 rfl (by unfold F_X11_ahead FI_X11_ahead FJ_X11_ahead; simp only [if_pos c1]; exact Pd.i)
  · skip
    refine w_iload_n ok dX11_ahead_4 1 rfl ?_
    refine w_bipush (v := 99) ok dX11_ahead_5 (by decide) ?_
    refine w_icmp_gt (tgt := 19) ok dX11_ahead_7 (by decide) (fun c2 => ?_) (fun c2 => ?_)
    · skip
      refine w_iconst (v := (-1)) ok dX11_ahead_19 (by decide) ?_
      exact w_iret ok fin dX11_ahead_20 rfl (by unfold F_X11_ahead FI_X11_ahead FJ_X11_ahead; simp only [if_neg c1]; simp only [if_pos c2]; exact Pd.i)
    · skip
      refine w_iload_n ok dX11_ahead_10 2 rfl ?_
      refine w_if_lt (tgt := 19) ok dX11_ahead_11 (by decide) (fun c3 => ?_) (fun c3 => ?_)
      · skip
        refine w_iconst (v := (-1)) ok dX11_ahead_19 (by decide) ?_
        exact w_iret ok fin dX11_ahead_20 rfl (by unfold F_X11_ahead FI_X11_ahead FJ_X11_ahead; simp only [if_neg c1]; simp only [if_neg c2]; simp only [if_pos c3]; exact Pd.i)
      · skip
        refine w_iload_n ok dX11_ahead_14 2 rfl ?_
        refine w_iconst (v := 4) ok dX11_ahead_15 (by decide) ?_
        refine w_icmp_le (tgt := 21) ok dX11_ahead_16 (by decide) (fun c4 => ?_) (fun c4 => ?_)
        · skip
          refine w_aload_n ok dX11_ahead_21 0 rfl ?_
          refine w_getR ok dX11_ahead_22 (fX11_50 rfl) (congrArg Prod.fst s_0) rfl (r_0_7 ro) (ltK hnn (by decide)) ?_
          refine w_aload_n ok dX11_ahead_25 0 rfl ?_
          refine w_getR ok dX11_ahead_26 (fX11_34 rfl) (congrArg Prod.fst s_0) rfl (r_0_4 ro) (ltK hnn (by decide)) ?_
          refine w_cV (As := [.ref 86]) ok dX11_ahead_29 iX0_begin (lX11_189 rfl) (rcv cls0 (congrArg Prod.fst s_104)) (ltK hnn (by decide)) (c_X0_begin ro hnn hf  isSc_86) (by decide) rfl (Nat.le_of_ble_eq_true rfl) ?_
          refine w_aload_n ok dX11_ahead_32 0 rfl ?_
          refine w_getR ok dX11_ahead_33 (fX11_50 rfl) (congrArg Prod.fst s_0) rfl (r_0_7 ro) (ltK hnn (by decide)) ?_
          refine w_iload_n ok dX11_ahead_36 1 rfl ?_
          refine w_cV (As := [.int a0]) ok dX11_ahead_37 iX0_pass (lX11_229 rfl) (rcv cls0 (congrArg Prod.fst s_104)) (ltK hnn (by decide)) (c_X0_pass ro hnn hf a0  (hp1 c1 c2 c3 c4)) (by decide) rfl (Nat.le_of_ble_eq_true rfl) ?_
          refine w_iload_n ok dX11_ahead_40 2 rfl ?_
          by_cases c5 : a1 = 0
          · skip
            refine w_tabIn (tgt := 72) (off := 31) ok dX11_ahead_41 (by rw [c5]; decide) (by rw [c5]; decide) (by rw [c5]; rfl) (by decide) ?_
            refine w_aload_n ok dX11_ahead_72 0 rfl ?_
            refine w_getR ok dX11_ahead_73 (fX11_50 rfl) (congrArg Prod.fst s_0) rfl (r_0_7 ro) (ltK hnn (by decide)) ?_
            refine w_getR ok dX11_ahead_76 (fX11_232 rfl) (congrArg Prod.fst s_104) rfl (r_104_0 ro) (ltK hnn (by decide)) ?_
            refine w_cV (As := []) ok dX11_ahead_79 iX5_filmedCount (lX11_237 rfl) (rcv cls5 (congrArg Prod.fst s_105)) (ltK hnn (by decide)) (c_X5_filmedCount ro hnn hf  isSc_105) (by decide) rfl (Nat.le_of_ble_eq_true rfl) ?_
            show WK K 0 0 82 [(0, .ref 0), (1, .int a0), (2, .int a1)] [.int (S1_X11_ahead a0 a1 I J)] (eI f (FI_X0_pass a0 (FI_X0_begin 86 I J) (FJ_X0_begin 86 I J))) (eJ f (FJ_X0_pass a0 (FI_X0_begin 86 I J) (FJ_X0_begin 86 I J))) R n g
            refine w_aload_n ok dX11_ahead_82 0 rfl ?_
            refine w_getR ok dX11_ahead_83 (fX11_34 rfl) (congrArg Prod.fst s_0) rfl (r_0_4 ro) (ltK hnn (by decide)) ?_
            refine w_cV (As := []) ok dX11_ahead_86 iX5_filmedCount (lX11_237 rfl) (rcv cls5 (congrArg Prod.fst s_86)) (ltK hnn (by decide)) (c_X5_filmedCount ro hnn hf  isSc_86) (by decide) rfl (Nat.le_of_ble_eq_true rfl) ?_
            show WK K 0 0 89 [(0, .ref 0), (1, .int a0), (2, .int a1)] [.int (S2_X11_ahead a0 a1 I J), .int (S1_X11_ahead a0 a1 I J)] (eI f (FI_X0_pass a0 (FI_X0_begin 86 I J) (FJ_X0_begin 86 I J))) (eJ f (FJ_X0_pass a0 (FI_X0_begin 86 I J) (FJ_X0_begin 86 I J))) R n g
            refine w_isub ok dX11_ahead_89 ?_
            exact w_iret ok fin dX11_ahead_90 rfl (by unfold F_X11_ahead FI_X11_ahead FJ_X11_ahead; simp only [if_neg c1]; simp only [if_neg c2]; simp only [if_neg c3]; simp only [if_pos c4]; simp only [if_pos c5]; exact Pd.i)
          · skip
            by_cases c6 : a1 = 1
            · skip
              refine w_tabIn (tgt := 91) (off := 50) ok dX11_ahead_41 (by rw [c6]; decide) (by rw [c6]; decide) (by rw [c6]; rfl) (by decide) ?_
              refine w_aload_n ok dX11_ahead_91 0 rfl ?_
              refine w_getR ok dX11_ahead_92 (fX11_50 rfl) (congrArg Prod.fst s_0) rfl (r_0_7 ro) (ltK hnn (by decide)) ?_
              refine w_getR ok dX11_ahead_95 (fX11_232 rfl) (congrArg Prod.fst s_104) rfl (r_104_0 ro) (ltK hnn (by decide)) ?_
              refine y_getI ok dX11_ahead_98 (fX11_241 rfl) (congrArg Prod.fst s_105) rfl (ltK hnn (by decide)) (sdc hf (by decide)) ?_
              refine w_aload_n ok dX11_ahead_101 0 rfl ?_
              refine w_getR ok dX11_ahead_102 (fX11_34 rfl) (congrArg Prod.fst s_0) rfl (r_0_4 ro) (ltK hnn (by decide)) ?_
              refine y_getI ok dX11_ahead_105 (fX11_241 rfl) (congrArg Prod.fst s_86) rfl (ltK hnn (by decide)) (sdc hf (by decide)) ?_
              refine w_isub ok dX11_ahead_108 ?_
              show WK K 0 0 109 [(0, .ref 0), (1, .int a0), (2, .int a1)] [.int (S3_X11_ahead a0 a1 I J)] (eI f (FI_X0_pass a0 (FI_X0_begin 86 I J) (FJ_X0_begin 86 I J))) (eJ f (FJ_X0_pass a0 (FI_X0_begin 86 I J) (FJ_X0_begin 86 I J))) R n g
              exact w_iret ok fin dX11_ahead_109 rfl (by unfold F_X11_ahead FI_X11_ahead FJ_X11_ahead; simp only [if_neg c1]; simp only [if_neg c2]; simp only [if_neg c3]; simp only [if_pos c4]; simp only [if_neg c5]; simp only [if_pos c6]; exact Pd.i)
            · skip
              by_cases c7 : a1 = 2
              · skip
                refine w_tabIn (tgt := 110) (off := 69) ok dX11_ahead_41 (by rw [c7]; decide) (by rw [c7]; decide) (by rw [c7]; rfl) (by decide) ?_
                refine w_aload_n ok dX11_ahead_110 0 rfl ?_
                refine w_getR ok dX11_ahead_111 (fX11_50 rfl) (congrArg Prod.fst s_0) rfl (r_0_7 ro) (ltK hnn (by decide)) ?_
                refine w_getR ok dX11_ahead_114 (fX11_232 rfl) (congrArg Prod.fst s_104) rfl (r_104_0 ro) (ltK hnn (by decide)) ?_
                refine y_getI ok dX11_ahead_117 (fX11_244 rfl) (congrArg Prod.fst s_105) rfl (ltK hnn (by decide)) (sdc hf (by decide)) ?_
                refine w_aload_n ok dX11_ahead_120 0 rfl ?_
                refine w_getR ok dX11_ahead_121 (fX11_34 rfl) (congrArg Prod.fst s_0) rfl (r_0_4 ro) (ltK hnn (by decide)) ?_
                refine y_getI ok dX11_ahead_124 (fX11_244 rfl) (congrArg Prod.fst s_86) rfl (ltK hnn (by decide)) (sdc hf (by decide)) ?_
                refine w_isub ok dX11_ahead_127 ?_
                show WK K 0 0 128 [(0, .ref 0), (1, .int a0), (2, .int a1)] [.int (S4_X11_ahead a0 a1 I J)] (eI f (FI_X0_pass a0 (FI_X0_begin 86 I J) (FJ_X0_begin 86 I J))) (eJ f (FJ_X0_pass a0 (FI_X0_begin 86 I J) (FJ_X0_begin 86 I J))) R n g
                exact w_iret ok fin dX11_ahead_128 rfl (by unfold F_X11_ahead FI_X11_ahead FJ_X11_ahead; simp only [if_neg c1]; simp only [if_neg c2]; simp only [if_neg c3]; simp only [if_pos c4]; simp only [if_neg c5]; simp only [if_neg c6]; simp only [if_pos c7]; exact Pd.i)
              · skip
                by_cases c8 : a1 = 3
                · skip
                  refine w_tabIn (tgt := 129) (off := 88) ok dX11_ahead_41 (by rw [c8]; decide) (by rw [c8]; decide) (by rw [c8]; rfl) (by decide) ?_
                  refine w_aload_n ok dX11_ahead_129 0 rfl ?_
                  refine w_getR ok dX11_ahead_130 (fX11_50 rfl) (congrArg Prod.fst s_0) rfl (r_0_7 ro) (ltK hnn (by decide)) ?_
                  refine w_getR ok dX11_ahead_133 (fX11_232 rfl) (congrArg Prod.fst s_104) rfl (r_104_0 ro) (ltK hnn (by decide)) ?_
                  refine y_getI ok dX11_ahead_136 (fX11_247 rfl) (congrArg Prod.fst s_105) rfl (ltK hnn (by decide)) (sdc hf (by decide)) ?_
                  exact w_iret ok fin dX11_ahead_139 rfl (by unfold F_X11_ahead FI_X11_ahead FJ_X11_ahead; simp only [if_neg c1]; simp only [if_neg c2]; simp only [if_neg c3]; simp only [if_pos c4]; simp only [if_neg c5]; simp only [if_neg c6]; simp only [if_neg c7]; simp only [if_pos c8]; exact Pd.i)
                · skip
                  have n9 : a1.toInt ≠ 0 := ne_toInt c5
                  have n10 : a1.toInt ≠ 1 := ne_toInt c6
                  have n11 : a1.toInt ≠ 2 := ne_toInt c7
                  have n12 : a1.toInt ≠ 3 := ne_toInt c8
                  refine w_tabOut (tgt := 140) ok dX11_ahead_41 (by omega) (by decide) ?_
                  refine w_aload_n ok dX11_ahead_140 0 rfl ?_
                  refine w_getR ok dX11_ahead_141 (fX11_50 rfl) (congrArg Prod.fst s_0) rfl (r_0_7 ro) (ltK hnn (by decide)) ?_
                  refine w_getR ok dX11_ahead_144 (fX11_232 rfl) (congrArg Prod.fst s_104) rfl (r_104_0 ro) (ltK hnn (by decide)) ?_
                  refine w_cV (As := []) ok dX11_ahead_147 iX5_clashCount (lX11_250 rfl) (rcv cls5 (congrArg Prod.fst s_105)) (ltK hnn (by decide)) (c_X5_clashCount ro hnn hf  isSc_105) (by decide) rfl (Nat.le_of_ble_eq_true rfl) ?_
                  show WK K 0 0 150 [(0, .ref 0), (1, .int a0), (2, .int a1)] [.int (S5_X11_ahead a0 a1 I J)] (eI f (FI_X0_pass a0 (FI_X0_begin 86 I J) (FJ_X0_begin 86 I J))) (eJ f (FJ_X0_pass a0 (FI_X0_begin 86 I J) (FJ_X0_begin 86 I J))) R n g
                  exact w_iret ok fin dX11_ahead_150 rfl (by unfold F_X11_ahead FI_X11_ahead FJ_X11_ahead; simp only [if_neg c1]; simp only [if_neg c2]; simp only [if_neg c3]; simp only [if_pos c4]; simp only [if_neg c5]; simp only [if_neg c6]; simp only [if_neg c7]; simp only [if_neg c8]; exact Pd.i)
        · skip
          refine w_iconst (v := (-1)) ok dX11_ahead_19 (by decide) ?_
          exact w_iret ok fin dX11_ahead_20 rfl (by unfold F_X11_ahead FI_X11_ahead FJ_X11_ahead; simp only [if_neg c1]; simp only [if_neg c2]; simp only [if_neg c3]; simp only [if_neg c4]; exact Pd.i)
def B_X11_agrees_l13_4 (I : SI) (J : SJ) (i13 : Nat) (s13 : SI × SJ) : (SI × SJ) ⊕ (Int32 × SI × SJ) := if (F_X5_filmedCount 105 s13.1 s13.2) = (s13.1 8 1) then (if (F_X5_clashCount 105 s13.1 s13.2) = 0 then .inr ((nI i13), s13.1, s13.2) else .inl ((FI_X0_pass 1 s13.1 s13.2), (FJ_X0_pass 1 s13.1 s13.2))) else .inl ((FI_X0_pass 1 s13.1 s13.2), (FJ_X0_pass 1 s13.1 s13.2))
def F_X11_agrees_l13_4 (I : SI) (J : SJ) (s0 : SI × SJ) : (SI × SJ) ⊕ (Int32 × SI × SJ) := itE (B_X11_agrees_l13_4 I J) (100) 0 s0
def F_X11_agrees  (I : SI) (J : SJ) : Int32 := (match (F_X11_agrees_l13_4 I J ((FI_X0_begin 86 I J), (FJ_X0_begin 86 I J))) with | .inl se13 => -2 | .inr re13 => re13.1)
def FI_X11_agrees  (I : SI) (J : SJ) : SI := (match (F_X11_agrees_l13_4 I J ((FI_X0_begin 86 I J), (FJ_X0_begin 86 I J))) with | .inl se13 => se13.1 | .inr re13 => re13.2.1)
def FJ_X11_agrees  (I : SI) (J : SJ) : SJ := (match (F_X11_agrees_l13_4 I J ((FI_X0_begin 86 I J), (FJ_X0_begin 86 I J))) with | .inl se13 => se13.2 | .inr re13 => re13.2.2)
def H_X11_agrees  (I : SI) (J : SJ) : Prop := (∀ (i13 : Nat) (s13 : SI × SJ), i13 < 100 → itE (B_X11_agrees_l13_4 I J) i13 0 ((FI_X0_begin 86 I J), (FJ_X0_begin 86 I J)) = .inl s13 → ¬ ((F_X5_filmedCount 105 s13.1 s13.2) = (s13.1 8 1)) → H_X0_pass 1 s13.1 s13.2) ∧ (∀ (i13 : Nat) (s13 : SI × SJ), i13 < 100 → itE (B_X11_agrees_l13_4 I J) i13 0 ((FI_X0_begin 86 I J), (FJ_X0_begin 86 I J)) = .inl s13 → (F_X5_filmedCount 105 s13.1 s13.2) = (s13.1 8 1) → ¬ ((F_X5_clashCount 105 s13.1 s13.2) = 0) → H_X0_pass 1 s13.1 s13.2)
set_option maxHeartbeats 1000000 in
set_option maxRecDepth 40000 in
theorem c_X11_agrees {I : SI} {J : SJ} {R : SR} {n g : Nat} {f : Fr} (ro : RO R) (hnn : nK ≤ n) (hf : f.1 = true)   (hp : H_X11_agrees  I J) : MM 6 0 0 mX11_agrees [.ref 0] (eI f I) (eJ f J) R n g (Pd (some (.int (F_X11_agrees  I J))) (eI f (FI_X11_agrees  I J)) (eJ f (FJ_X11_agrees  I J)) R n g) := by
  refine MM.of (by decide) (Nat.le_of_ble_eq_true rfl) fun K ok fin => ?_
  show WK K 0 0 0 [(0, .ref 0)] [] (eI f I) (eJ f J) R n g
  obtain ⟨hp1, hp2⟩ := hp
  refine w_aload_n ok dX11_agrees_0 0 rfl ?_
  refine w_getR ok dX11_agrees_1 (fX11_50 rfl) (congrArg Prod.fst s_0) rfl (r_0_7 ro) (ltK hnn (by decide)) ?_
  refine w_aload_n ok dX11_agrees_4 0 rfl ?_
  refine w_getR ok dX11_agrees_5 (fX11_34 rfl) (congrArg Prod.fst s_0) rfl (r_0_4 ro) (ltK hnn (by decide)) ?_
  refine w_cV (As := [.ref 86]) ok dX11_agrees_8 iX0_begin (lX11_189 rfl) (rcv cls0 (congrArg Prod.fst s_104)) (ltK hnn (by decide)) (c_X0_begin ro hnn hf  isSc_86) (by decide) rfl (Nat.le_of_ble_eq_true rfl) ?_
  refine w_iconst (v := 0) ok dX11_agrees_11 (by decide) ?_
  refine w_istore_n ok dX11_agrees_12 rfl (by decide) rfl ?_
  refine w_loc [1, 0] rfl ?_
  refine loop_e (σ := SI × SJ) (ρ := Int32 × SI × SJ) (fun (i13 : Nat) (s13 : SI × SJ) => WK K 0 0 13 [(0, .ref 0), (1, .int (nI i13))] [] (eI f s13.1) (eJ f s13.2) R n g) (B_X11_agrees_l13_4 I J) (100) (((FI_X0_begin 86 I J), (FJ_X0_begin 86 I J))) ?_ ?_
  · intro se13 he13
    have he13 : (F_X11_agrees_l13_4 I J ((FI_X0_begin 86 I J), (FJ_X0_begin 86 I J))) = .inl se13 := he13
    show WK K 0 0 13 [(0, .ref 0), (1, .int (nI 100))] [] (eI f se13.1) (eJ f se13.2) R n g
    have e1 : (99 : Int32) < (nI 100) := (show nI 99 < nI 100 from nI_lt (by omega) (by decide))
    refine w_iload_n ok dX11_agrees_13 1 rfl ?_
    refine w_bipush (v := 99) ok dX11_agrees_14 (by decide) ?_
    refine w_icmp_gt (tgt := 71) ok dX11_agrees_16 (by decide) (fun _ => ?_) (fun h => absurd e1 h)
    refine w_bipush (v := (-2)) ok dX11_agrees_71 (by decide) ?_
    exact w_iret ok fin dX11_agrees_73 rfl (by unfold F_X11_agrees FI_X11_agrees FJ_X11_agrees; simp only [he13]; exact Pd.i)
  · intro i13 s13 hi13 hs13 k13 kr13
    show WK K 0 0 13 [(0, .ref 0), (1, .int (nI i13))] [] (eI f s13.1) (eJ f s13.2) R n g
    have e2 : ¬ ((99 : Int32) < (nI i13)) := (show ¬ (nI 99 < nI i13) from nI_nlt (by omega) (by decide))
    refine w_iload_n ok dX11_agrees_13 1 rfl ?_
    refine w_bipush (v := 99) ok dX11_agrees_14 (by decide) ?_
    refine w_icmp_gt (tgt := 71) ok dX11_agrees_16 (by decide) (fun h => absurd h e2) (fun _ => ?_)
    refine w_aload_n ok dX11_agrees_19 0 rfl ?_
    refine w_getR ok dX11_agrees_20 (fX11_50 rfl) (congrArg Prod.fst s_0) rfl (r_0_7 ro) (ltK hnn (by decide)) ?_
    refine w_getR ok dX11_agrees_23 (fX11_232 rfl) (congrArg Prod.fst s_104) rfl (r_104_0 ro) (ltK hnn (by decide)) ?_
    refine w_cV (As := []) ok dX11_agrees_26 iX5_filmedCount (lX11_237 rfl) (rcv cls5 (congrArg Prod.fst s_105)) (ltK hnn (by decide)) (c_X5_filmedCount ro hnn hf  isSc_105) (by decide) rfl (Nat.le_of_ble_eq_true rfl) ?_
    refine w_aload_n ok dX11_agrees_29 0 rfl ?_
    refine w_getR ok dX11_agrees_30 (fX11_20 rfl) (congrArg Prod.fst s_0) rfl (r_0_2 ro) (ltK hnn (by decide)) ?_
    refine w_getR ok dX11_agrees_33 (fX11_122 rfl) (congrArg Prod.fst s_2) rfl (r_2_1 ro) (ltK hnn (by decide)) ?_
    refine y_getI ok dX11_agrees_36 (fX11_256 rfl) (congrArg Prod.fst s_8) rfl (ltK hnn (by decide)) (sdc hf (by decide)) ?_
    refine w_icmp_ne (tgt := 57) ok dX11_agrees_39 (by decide) (fun c3 => ?_) (fun c3 => ?_)
    · skip
      refine w_aload_n ok dX11_agrees_57 0 rfl ?_
      refine w_getR ok dX11_agrees_58 (fX11_50 rfl) (congrArg Prod.fst s_0) rfl (r_0_7 ro) (ltK hnn (by decide)) ?_
      refine w_iconst (v := 1) ok dX11_agrees_61 (by decide) ?_
      refine w_cV (As := [.int 1]) ok dX11_agrees_62 iX0_pass (lX11_229 rfl) (rcv cls0 (congrArg Prod.fst s_104)) (ltK hnn (by decide)) (c_X0_pass ro hnn hf 1  (hp1 i13 s13 hi13 hs13 c3)) (by decide) rfl (Nat.le_of_ble_eq_true rfl) ?_
      refine w_iinc (v := (nI i13) + 1) ok dX11_agrees_65 1 rfl rfl (by decide) rfl ?_
      refine w_goto (tgt := 13) ok dX11_agrees_68 (by decide) ?_
      have eB : B_X11_agrees_l13_4 I J i13 s13 = .inl ((FI_X0_pass 1 s13.1 s13.2), (FJ_X0_pass 1 s13.1 s13.2)) := by
        unfold B_X11_agrees_l13_4; exact (if_neg c3).trans (rfl)
      have kk := k13 _ eB
      refine w_loc [1, 0] rfl ?_
      rw [nI_1 i13]
      exact kk
    · skip
      refine w_aload_n ok dX11_agrees_42 0 rfl ?_
      refine w_getR ok dX11_agrees_43 (fX11_50 rfl) (congrArg Prod.fst s_0) rfl (r_0_7 ro) (ltK hnn (by decide)) ?_
      refine w_getR ok dX11_agrees_46 (fX11_232 rfl) (congrArg Prod.fst s_104) rfl (r_104_0 ro) (ltK hnn (by decide)) ?_
      refine w_cV (As := []) ok dX11_agrees_49 iX5_clashCount (lX11_250 rfl) (rcv cls5 (congrArg Prod.fst s_105)) (ltK hnn (by decide)) (c_X5_clashCount ro hnn hf  isSc_105) (by decide) rfl (Nat.le_of_ble_eq_true rfl) ?_
      refine w_if_ne (tgt := 57) ok dX11_agrees_52 (by decide) (fun c4 => ?_) (fun c4 => ?_)
      · skip
        refine w_aload_n ok dX11_agrees_57 0 rfl ?_
        refine w_getR ok dX11_agrees_58 (fX11_50 rfl) (congrArg Prod.fst s_0) rfl (r_0_7 ro) (ltK hnn (by decide)) ?_
        refine w_iconst (v := 1) ok dX11_agrees_61 (by decide) ?_
        refine w_cV (As := [.int 1]) ok dX11_agrees_62 iX0_pass (lX11_229 rfl) (rcv cls0 (congrArg Prod.fst s_104)) (ltK hnn (by decide)) (c_X0_pass ro hnn hf 1  (hp2 i13 s13 hi13 hs13 c3 c4)) (by decide) rfl (Nat.le_of_ble_eq_true rfl) ?_
        refine w_iinc (v := (nI i13) + 1) ok dX11_agrees_65 1 rfl rfl (by decide) rfl ?_
        refine w_goto (tgt := 13) ok dX11_agrees_68 (by decide) ?_
        have eB : B_X11_agrees_l13_4 I J i13 s13 = .inl ((FI_X0_pass 1 s13.1 s13.2), (FJ_X0_pass 1 s13.1 s13.2)) := by
          unfold B_X11_agrees_l13_4; exact (if_pos c3).trans ((if_neg c4).trans (rfl))
        have kk := k13 _ eB
        refine w_loc [1, 0] rfl ?_
        rw [nI_1 i13]
        exact kk
      · skip
        refine w_iload_n ok dX11_agrees_55 1 rfl ?_
        have eB : B_X11_agrees_l13_4 I J i13 s13 = .inr ((nI i13), s13.1, s13.2) := by
          unfold B_X11_agrees_l13_4; exact (if_pos c3).trans ((if_pos c4).trans (rfl))
        have hr : (F_X11_agrees_l13_4 I J ((FI_X0_begin 86 I J), (FJ_X0_begin 86 I J))) = .inr ((nI i13), s13.1, s13.2) := kr13 _ eB
        exact w_iret ok fin dX11_agrees_56 rfl (by unfold F_X11_agrees FI_X11_agrees FJ_X11_agrees; simp only [hr]; exact Pd.i)
def S2_X11_order (a0 : Int32) (I : SI) (J : SJ) (i34 : Nat) (s34 : SI × SJ) : SI := FI_X3_putDays (nI i34) 105 (FI_X0_begin 86 s34.1 s34.2) (FJ_X0_begin 86 s34.1 s34.2)
def S3_X11_order (a0 : Int32) (I : SI) (J : SJ) (i34 : Nat) (s34 : SI × SJ) : SI := FI_X0_pass 20 (S2_X11_order a0 I J i34 s34) (FJ_X0_begin 86 s34.1 s34.2)
def S4_X11_order (a0 : Int32) (I : SI) (J : SJ) (i34 : Nat) (s34 : SI × SJ) : SJ := FJ_X0_pass 20 (S2_X11_order a0 I J i34 s34) (FJ_X0_begin 86 s34.1 s34.2)
def S5_X11_order (a0 : Int32) (I : SI) (J : SJ) (i34 : Nat) (s34 : SI × SJ) : Int32 := ((((S3_X11_order a0 I J i34 s34)) 105 2) - (((S3_X11_order a0 I J i34 s34)) 86 2)) + (((S3_X11_order a0 I J i34 s34)) 105 3)
def S6_X11_order (a0 : Int32) (I : SI) (J : SJ) (i34 : Nat) (s34 : SI × SJ) : SI := FI_X3_weigh (nI i34) ((S5_X11_order a0 I J i34 s34) - (((S3_X11_order a0 I J i34 s34)) 86 3)) (S3_X11_order a0 I J i34 s34) (S4_X11_order a0 I J i34 s34)
def B_X11_order_l34 (a0 : Int32) (I : SI) (J : SJ) (i34 : Nat) (s34 : SI × SJ) : SI × SJ := if (F_X3_isRow (nI i34) s34.1 s34.2) = 0 then (s34.1, s34.2) else ((S6_X11_order a0 I J i34 s34), (S4_X11_order a0 I J i34 s34))
def F_X11_order_l34 (a0 : Int32) (I : SI) (J : SJ) (s0 : SI × SJ) : SI × SJ := itN (B_X11_order_l34 a0 I J) (256) s0
def S1_X11_order (a0 : Int32) (I : SI) (J : SJ) : Int32 := F_X3_shotAt a0 ((F_X11_order_l34 a0 I J ((FI_X3_begin 86 (I 8 1) I J), J)).1) ((F_X11_order_l34 a0 I J ((FI_X3_begin 86 (I 8 1) I J), J)).2)
def F_X11_order (a0 : Int32) (I : SI) (J : SJ) : Int32 := if a0 < 0 then -1 else (if a0 ≤ 4 then (if a0 = 4 then ((F_X11_order_l34 a0 I J ((FI_X3_begin 86 (I 8 1) I J), J)).1) 128 0 else (S1_X11_order a0 I J)) else -1)
def FI_X11_order (a0 : Int32) (I : SI) (J : SJ) : SI := if a0 < 0 then I else (if a0 ≤ 4 then (if a0 = 4 then (F_X11_order_l34 a0 I J ((FI_X3_begin 86 (I 8 1) I J), J)).1 else (F_X11_order_l34 a0 I J ((FI_X3_begin 86 (I 8 1) I J), J)).1) else I)
def FJ_X11_order (a0 : Int32) (I : SI) (J : SJ) : SJ := if a0 < 0 then J else (if a0 ≤ 4 then (if a0 = 4 then (F_X11_order_l34 a0 I J ((FI_X3_begin 86 (I 8 1) I J), J)).2 else (F_X11_order_l34 a0 I J ((FI_X3_begin 86 (I 8 1) I J), J)).2) else J)
def H_X11_order (a0 : Int32) (I : SI) (J : SJ) : Prop := (¬ (a0 < 0) → a0 ≤ 4 → H_X3_begin 86 (I 8 1) I J) ∧ (¬ (a0 < 0) → a0 ≤ 4 → ∀ (i34 : Nat) (s34 : SI × SJ), i34 < 256 → s34 = itN (B_X11_order_l34 a0 I J) i34 ((FI_X3_begin 86 (I 8 1) I J), J) → ¬ ((F_X3_isRow (nI i34) s34.1 s34.2) = 0) → H_X3_putDays (nI i34) 105 (FI_X0_begin 86 s34.1 s34.2) (FJ_X0_begin 86 s34.1 s34.2)) ∧ (¬ (a0 < 0) → a0 ≤ 4 → ∀ (i34 : Nat) (s34 : SI × SJ), i34 < 256 → s34 = itN (B_X11_order_l34 a0 I J) i34 ((FI_X3_begin 86 (I 8 1) I J), J) → ¬ ((F_X3_isRow (nI i34) s34.1 s34.2) = 0) → H_X0_pass 20 (S2_X11_order a0 I J i34 s34) (FJ_X0_begin 86 s34.1 s34.2))
set_option maxHeartbeats 1200000 in
set_option maxRecDepth 40000 in
theorem c_X11_order {I : SI} {J : SJ} {R : SR} {n g : Nat} {f : Fr} (ro : RO R) (hnn : nK ≤ n) (hf : f.1 = true) (a0 : Int32)  (hp : H_X11_order a0 I J) : MM 6 0 0 mX11_order [.ref 0, .int a0] (eI f I) (eJ f J) R n g (Pd (some (.int (F_X11_order a0 I J))) (eI f (FI_X11_order a0 I J)) (eJ f (FJ_X11_order a0 I J)) R n g) := by
  refine MM.of (by decide) (Nat.le_of_ble_eq_true rfl) fun K ok fin => ?_
  show WK K 0 0 0 [(0, .ref 0), (1, .int a0)] [] (eI f I) (eJ f J) R n g
  obtain ⟨hp1, hp2, hp3⟩ := hp
  refine w_iload_n ok dX11_order_0 1 rfl ?_
  refine w_if_lt (tgt := 9) ok dX11_order_1 (by decide) (fun c1 => ?_) (fun c1 => ?_)
  · skip
    refine w_iconst (v := (-1)) ok dX11_order_9 (by decide) ?_
    exact w_iret ok fin dX11_order_10 rfl (by unfold F_X11_order FI_X11_order FJ_X11_order; simp only [if_pos c1]; exact Pd.i)
  · skip
    refine w_iload_n ok dX11_order_4 1 rfl ?_
    refine w_iconst (v := 4) ok dX11_order_5 (by decide) ?_
    refine w_icmp_le (tgt := 11) ok dX11_order_6 (by decide) (fun c2 => ?_) (fun c2 => ?_)
    · skip
      refine w_aload_n ok dX11_order_11 0 rfl ?_
      refine w_getR ok dX11_order_12 (fX11_78 rfl) (congrArg Prod.fst s_0) rfl (r_0_11 ro) (ltK hnn (by decide)) ?_
      refine w_aload_n ok dX11_order_15 0 rfl ?_
      refine w_getR ok dX11_order_16 (fX11_34 rfl) (congrArg Prod.fst s_0) rfl (r_0_4 ro) (ltK hnn (by decide)) ?_
      refine w_aload_n ok dX11_order_19 0 rfl ?_
      refine w_getR ok dX11_order_20 (fX11_20 rfl) (congrArg Prod.fst s_0) rfl (r_0_2 ro) (ltK hnn (by decide)) ?_
      refine w_getR ok dX11_order_23 (fX11_122 rfl) (congrArg Prod.fst s_2) rfl (r_2_1 ro) (ltK hnn (by decide)) ?_
      refine y_getI ok dX11_order_26 (fX11_256 rfl) (congrArg Prod.fst s_8) rfl (ltK hnn (by decide)) (sdc hf (by decide)) ?_
      refine w_cV (As := [.ref 86, .int (I 8 1)]) ok dX11_order_29 iX3_begin (lX11_268 rfl) (rcv cls3 (congrArg Prod.fst s_128)) (ltK hnn (by decide)) (c_X3_begin ro hnn hf (I 8 1) isSc_86 (hp1 c1 c2)) (by decide) rfl (Nat.le_of_ble_eq_true rfl) ?_
      refine w_iconst (v := 0) ok dX11_order_32 (by decide) ?_
      refine w_istore_n ok dX11_order_33 rfl (by decide) rfl ?_
      refine w_loc [1, 2, 0] rfl ?_
      refine loop_for (σ := SI × SJ) (fun (i34 : Nat) (s34 : SI × SJ) => WK K 0 0 34 [(0, .ref 0), (1, .int a0), (2, .int (nI i34))] [] (eI f s34.1) (eJ f s34.2) R n g) (B_X11_order_l34 a0 I J) (256) (((FI_X3_begin 86 (I 8 1) I J), J)) ?_ ?_
      · show WK K 0 0 34 [(0, .ref 0), (1, .int a0), (2, .int (nI 256))] [] (eI f ((F_X11_order_l34 a0 I J ((FI_X3_begin 86 (I 8 1) I J), J)).1)) (eJ f ((F_X11_order_l34 a0 I J ((FI_X3_begin 86 (I 8 1) I J), J)).2)) R n g
        have e3 : (256 : Int32) ≤ (nI 256) := (show nI 256 ≤ nI 256 from nI_le (by omega) (by decide))
        refine w_iload_n ok dX11_order_34 2 rfl ?_
        refine w_sipush (v := 256) ok dX11_order_35 (by decide) ?_
        refine w_icmp_ge (tgt := 138) ok dX11_order_38 (by decide) (fun _ => ?_) (fun h => absurd e3 h)
        refine w_iload_n ok dX11_order_138 1 rfl ?_
        refine w_iconst (v := 4) ok dX11_order_139 (by decide) ?_
        refine w_icmp_ne (tgt := 153) ok dX11_order_140 (by decide) (fun c4 => ?_) (fun c4 => ?_)
        · skip
          refine w_aload_n ok dX11_order_153 0 rfl ?_
          refine w_getR ok dX11_order_154 (fX11_78 rfl) (congrArg Prod.fst s_0) rfl (r_0_11 ro) (ltK hnn (by decide)) ?_
          refine w_iload_n ok dX11_order_157 1 rfl ?_
          refine w_cV (As := [.int a0]) ok dX11_order_158 iX3_shotAt (lX11_285 rfl) (rcv cls3 (congrArg Prod.fst s_128)) (ltK hnn (by decide)) (c_X3_shotAt ro hnn hf a0 ) (by decide) rfl (Nat.le_of_ble_eq_true rfl) ?_
          show WK K 0 0 161 [(0, .ref 0), (1, .int a0), (2, .int (nI 256))] [.int (S1_X11_order a0 I J)] (eI f ((F_X11_order_l34 a0 I J ((FI_X3_begin 86 (I 8 1) I J), J)).1)) (eJ f ((F_X11_order_l34 a0 I J ((FI_X3_begin 86 (I 8 1) I J), J)).2)) R n g
          exact w_iret ok fin dX11_order_161 rfl (by unfold F_X11_order FI_X11_order FJ_X11_order; simp only [if_neg c1]; simp only [if_pos c2]; simp only [if_neg c4]; exact Pd.i)
        · skip
          refine w_aload_n ok dX11_order_143 0 rfl ?_
          refine w_getR ok dX11_order_144 (fX11_78 rfl) (congrArg Prod.fst s_0) rfl (r_0_11 ro) (ltK hnn (by decide)) ?_
          refine y_getI ok dX11_order_147 (fX11_282 rfl) (congrArg Prod.fst s_128) rfl (ltK hnn (by decide)) (sdc hf (by decide)) ?_
          refine w_goto (tgt := 161) ok dX11_order_150 (by decide) ?_
          exact w_iret ok fin dX11_order_161 rfl (by unfold F_X11_order FI_X11_order FJ_X11_order; simp only [if_neg c1]; simp only [if_pos c2]; simp only [if_pos c4]; exact Pd.i)
      · intro i34 s34 hi34 hs34 k34
        show WK K 0 0 34 [(0, .ref 0), (1, .int a0), (2, .int (nI i34))] [] (eI f s34.1) (eJ f s34.2) R n g
        have e5 : ¬ ((256 : Int32) ≤ (nI i34)) := (show ¬ (nI 256 ≤ nI i34) from nI_ge (by omega) (by decide))
        refine w_iload_n ok dX11_order_34 2 rfl ?_
        refine w_sipush (v := 256) ok dX11_order_35 (by decide) ?_
        refine w_icmp_ge (tgt := 138) ok dX11_order_38 (by decide) (fun h => absurd h e5) (fun _ => ?_)
        refine w_aload_n ok dX11_order_41 0 rfl ?_
        refine w_getR ok dX11_order_42 (fX11_78 rfl) (congrArg Prod.fst s_0) rfl (r_0_11 ro) (ltK hnn (by decide)) ?_
        refine w_iload_n ok dX11_order_45 2 rfl ?_
        refine w_cV (As := [.int (nI i34)]) ok dX11_order_46 iX3_isRow (lX11_271 rfl) (rcv cls3 (congrArg Prod.fst s_128)) (ltK hnn (by decide)) (c_X3_isRow ro hnn hf (nI i34) ) (by decide) rfl (Nat.le_of_ble_eq_true rfl) ?_
        refine w_if_eq (tgt := 132) ok dX11_order_49 (by decide) (fun c6 => ?_) (fun c6 => ?_)
        · skip
          refine w_iinc (v := (nI i34) + 1) ok dX11_order_132 2 rfl rfl (by decide) rfl ?_
          refine w_goto (tgt := 34) ok dX11_order_135 (by decide) ?_
          have eB : B_X11_order_l34 a0 I J i34 s34 = (s34.1, s34.2) := by
            unfold B_X11_order_l34; exact (if_pos c6).trans (rfl)
          have kk := k34
          rw [eB] at kk
          refine w_loc [1, 2, 0] rfl ?_
          rw [nI_1 i34]
          exact kk
        · skip
          refine w_aload_n ok dX11_order_52 0 rfl ?_
          refine w_getR ok dX11_order_53 (fX11_50 rfl) (congrArg Prod.fst s_0) rfl (r_0_7 ro) (ltK hnn (by decide)) ?_
          refine w_aload_n ok dX11_order_56 0 rfl ?_
          refine w_getR ok dX11_order_57 (fX11_34 rfl) (congrArg Prod.fst s_0) rfl (r_0_4 ro) (ltK hnn (by decide)) ?_
          refine w_cV (As := [.ref 86]) ok dX11_order_60 iX0_begin (lX11_189 rfl) (rcv cls0 (congrArg Prod.fst s_104)) (ltK hnn (by decide)) (c_X0_begin ro hnn hf  isSc_86) (by decide) rfl (Nat.le_of_ble_eq_true rfl) ?_
          refine w_aload_n ok dX11_order_63 0 rfl ?_
          refine w_getR ok dX11_order_64 (fX11_78 rfl) (congrArg Prod.fst s_0) rfl (r_0_11 ro) (ltK hnn (by decide)) ?_
          refine w_iload_n ok dX11_order_67 2 rfl ?_
          refine w_aload_n ok dX11_order_68 0 rfl ?_
          refine w_getR ok dX11_order_69 (fX11_50 rfl) (congrArg Prod.fst s_0) rfl (r_0_7 ro) (ltK hnn (by decide)) ?_
          refine w_getR ok dX11_order_72 (fX11_232 rfl) (congrArg Prod.fst s_104) rfl (r_104_0 ro) (ltK hnn (by decide)) ?_
          refine w_cV (As := [.int (nI i34), .ref 105]) ok dX11_order_75 iX3_putDays (lX11_274 rfl) (rcv cls3 (congrArg Prod.fst s_128)) (ltK hnn (by decide)) (c_X3_putDays ro hnn hf (nI i34) isSc_105 (hp2 c1 c2 i34 s34 hi34 hs34 c6)) (by decide) rfl (Nat.le_of_ble_eq_true rfl) ?_
          show WK K 0 0 78 [(0, .ref 0), (1, .int a0), (2, .int (nI i34))] [] (eI f (S2_X11_order a0 I J i34 s34)) (eJ f (FJ_X0_begin 86 s34.1 s34.2)) R n g
          refine w_aload_n ok dX11_order_78 0 rfl ?_
          refine w_getR ok dX11_order_79 (fX11_50 rfl) (congrArg Prod.fst s_0) rfl (r_0_7 ro) (ltK hnn (by decide)) ?_
          refine w_bipush (v := 20) ok dX11_order_82 (by decide) ?_
          refine w_cV (As := [.int 20]) ok dX11_order_84 iX0_pass (lX11_229 rfl) (rcv cls0 (congrArg Prod.fst s_104)) (ltK hnn (by decide)) (c_X0_pass ro hnn hf 20  (hp3 c1 c2 i34 s34 hi34 hs34 c6)) (by decide) rfl (Nat.le_of_ble_eq_true rfl) ?_
          show WK K 0 0 87 [(0, .ref 0), (1, .int a0), (2, .int (nI i34))] [] (eI f (S3_X11_order a0 I J i34 s34)) (eJ f (S4_X11_order a0 I J i34 s34)) R n g
          refine w_aload_n ok dX11_order_87 0 rfl ?_
          refine w_getR ok dX11_order_88 (fX11_78 rfl) (congrArg Prod.fst s_0) rfl (r_0_11 ro) (ltK hnn (by decide)) ?_
          refine w_iload_n ok dX11_order_91 2 rfl ?_
          refine w_aload_n ok dX11_order_92 0 rfl ?_
          refine w_getR ok dX11_order_93 (fX11_50 rfl) (congrArg Prod.fst s_0) rfl (r_0_7 ro) (ltK hnn (by decide)) ?_
          refine w_getR ok dX11_order_96 (fX11_232 rfl) (congrArg Prod.fst s_104) rfl (r_104_0 ro) (ltK hnn (by decide)) ?_
          refine y_getI ok dX11_order_99 (fX11_241 rfl) (congrArg Prod.fst s_105) rfl (ltK hnn (by decide)) (sdc hf (by decide)) ?_
          refine w_aload_n ok dX11_order_102 0 rfl ?_
          refine w_getR ok dX11_order_103 (fX11_34 rfl) (congrArg Prod.fst s_0) rfl (r_0_4 ro) (ltK hnn (by decide)) ?_
          refine y_getI ok dX11_order_106 (fX11_241 rfl) (congrArg Prod.fst s_86) rfl (ltK hnn (by decide)) (sdc hf (by decide)) ?_
          refine w_isub ok dX11_order_109 ?_
          refine w_aload_n ok dX11_order_110 0 rfl ?_
          refine w_getR ok dX11_order_111 (fX11_50 rfl) (congrArg Prod.fst s_0) rfl (r_0_7 ro) (ltK hnn (by decide)) ?_
          refine w_getR ok dX11_order_114 (fX11_232 rfl) (congrArg Prod.fst s_104) rfl (r_104_0 ro) (ltK hnn (by decide)) ?_
          refine y_getI ok dX11_order_117 (fX11_244 rfl) (congrArg Prod.fst s_105) rfl (ltK hnn (by decide)) (sdc hf (by decide)) ?_
          refine w_iadd ok dX11_order_120 ?_
          show WK K 0 0 121 [(0, .ref 0), (1, .int a0), (2, .int (nI i34))] [.int (S5_X11_order a0 I J i34 s34), .int (nI i34), .ref 128] (eI f (S3_X11_order a0 I J i34 s34)) (eJ f (S4_X11_order a0 I J i34 s34)) R n g
          refine w_aload_n ok dX11_order_121 0 rfl ?_
          refine w_getR ok dX11_order_122 (fX11_34 rfl) (congrArg Prod.fst s_0) rfl (r_0_4 ro) (ltK hnn (by decide)) ?_
          refine y_getI ok dX11_order_125 (fX11_244 rfl) (congrArg Prod.fst s_86) rfl (ltK hnn (by decide)) (sdc hf (by decide)) ?_
          refine w_isub ok dX11_order_128 ?_
          refine w_cV (As := [.int (nI i34), .int ((S5_X11_order a0 I J i34 s34) - (((S3_X11_order a0 I J i34 s34)) 86 3))]) ok dX11_order_129 iX3_weigh (lX11_278 rfl) (rcv cls3 (congrArg Prod.fst s_128)) (ltK hnn (by decide)) (c_X3_weigh ro hnn hf (nI i34) ((S5_X11_order a0 I J i34 s34) - (((S3_X11_order a0 I J i34 s34)) 86 3)) ) (by decide) rfl (Nat.le_of_ble_eq_true rfl) ?_
          show WK K 0 0 132 [(0, .ref 0), (1, .int a0), (2, .int (nI i34))] [] (eI f (S6_X11_order a0 I J i34 s34)) (eJ f (S4_X11_order a0 I J i34 s34)) R n g
          refine w_iinc (v := (nI i34) + 1) ok dX11_order_132 2 rfl rfl (by decide) rfl ?_
          refine w_goto (tgt := 34) ok dX11_order_135 (by decide) ?_
          have eB : B_X11_order_l34 a0 I J i34 s34 = ((S6_X11_order a0 I J i34 s34), (S4_X11_order a0 I J i34 s34)) := by
            unfold B_X11_order_l34; exact (if_neg c6).trans (rfl)
          have kk := k34
          rw [eB] at kk
          refine w_loc [1, 2, 0] rfl ?_
          rw [nI_1 i34]
          exact kk
    · skip
      refine w_iconst (v := (-1)) ok dX11_order_9 (by decide) ?_
      exact w_iret ok fin dX11_order_10 rfl (by unfold F_X11_order FI_X11_order FJ_X11_order; simp only [if_neg c1]; simp only [if_neg c2]; exact Pd.i)
def S1_X11_bribe (a0 : Int32) (I : SI) (J : SJ) (i49 : Nat) (s49 : SI × SJ) : SI := FI_X0_pass 20 (putF (FI_X0_begin 86 s49.1 s49.2) 112 4 a0 (nI i49)) (FJ_X0_begin 86 s49.1 s49.2)
def S2_X11_bribe (a0 : Int32) (I : SI) (J : SJ) (i49 : Nat) (s49 : SI × SJ) : SJ := FJ_X0_pass 20 (putF (FI_X0_begin 86 s49.1 s49.2) 112 4 a0 (nI i49)) (FJ_X0_begin 86 s49.1 s49.2)
def B_X11_bribe_l49_4 (a0 : Int32) (I : SI) (J : SJ) (i49 : Nat) (s49 : SI × SJ) : (SI × SJ) ⊕ (Int32 × SI × SJ) := if (atF ((S1_X11_bribe a0 I J i49 s49) 110) 6 (atF (I 15) 8 a0)) = (atF (I 16) 8 a0) then .inr ((nI i49), (S1_X11_bribe a0 I J i49 s49), (S2_X11_bribe a0 I J i49 s49)) else .inl ((S1_X11_bribe a0 I J i49 s49), (S2_X11_bribe a0 I J i49 s49))
def F_X11_bribe_l49_4 (a0 : Int32) (I : SI) (J : SJ) (s0 : SI × SJ) : (SI × SJ) ⊕ (Int32 × SI × SJ) := itE (B_X11_bribe_l49_4 a0 I J) (21) 0 s0
def F_X11_bribe (a0 : Int32) (I : SI) (J : SJ) : Int32 := if (F_X7_holds 13 a0 I J) = 0 then -1 else (match (F_X11_bribe_l49_4 a0 I J (I, J)) with | .inl se49 => -2 | .inr re49 => re49.1)
def FI_X11_bribe (a0 : Int32) (I : SI) (J : SJ) : SI := if (F_X7_holds 13 a0 I J) = 0 then I else (match (F_X11_bribe_l49_4 a0 I J (I, J)) with | .inl se49 => se49.1 | .inr re49 => re49.2.1)
def FJ_X11_bribe (a0 : Int32) (I : SI) (J : SJ) : SJ := if (F_X7_holds 13 a0 I J) = 0 then J else (match (F_X11_bribe_l49_4 a0 I J (I, J)) with | .inl se49 => se49.2 | .inr re49 => re49.2.2)
def H_X11_bribe (a0 : Int32) (I : SI) (J : SJ) : Prop := (¬ ((F_X7_holds 13 a0 I J) = 0) → ∀ (i49 : Nat) (s49 : SI × SJ), i49 < 21 → itE (B_X11_bribe_l49_4 a0 I J) i49 0 (I, J) = .inl s49 → H_X0_pass 20 (putF (FI_X0_begin 86 s49.1 s49.2) 112 4 a0 (nI i49)) (FJ_X0_begin 86 s49.1 s49.2))
set_option maxHeartbeats 1000000 in
set_option maxRecDepth 40000 in
theorem c_X11_bribe {I : SI} {J : SJ} {R : SR} {n g : Nat} {f : Fr} (ro : RO R) (hnn : nK ≤ n) (hf : f.1 = true) (a0 : Int32)  (hp : H_X11_bribe a0 I J) : MM 6 0 0 mX11_bribe [.ref 0, .int a0] (eI f I) (eJ f J) R n g (Pd (some (.int (F_X11_bribe a0 I J))) (eI f (FI_X11_bribe a0 I J)) (eJ f (FJ_X11_bribe a0 I J)) R n g) := by
  refine MM.of (by decide) (Nat.le_of_ble_eq_true rfl) fun K ok fin => ?_
  show WK K 0 0 0 [(0, .ref 0), (1, .int a0)] [] (eI f I) (eJ f J) R n g
  have hp1 := hp
  refine w_aload_n ok dX11_bribe_0 0 rfl ?_
  refine w_getR ok dX11_bribe_1 (fX11_20 rfl) (congrArg Prod.fst s_0) rfl (r_0_2 ro) (ltK hnn (by decide)) ?_
  refine w_getR ok dX11_bribe_4 (fX11_125 rfl) (congrArg Prod.fst s_2) rfl (r_2_2 ro) (ltK hnn (by decide)) ?_
  refine w_iload_n ok dX11_bribe_7 1 rfl ?_
  refine w_cV (As := [.int a0]) ok dX11_bribe_8 iX7_holds (lX11_131 rfl) (rcv cls7 (congrArg Prod.fst s_13)) (ltK hnn (by decide)) (c_X7_holds ro hnn hf a0 isTb_13) (by decide) rfl (Nat.le_of_ble_eq_true rfl) ?_
  refine w_if_ne (tgt := 16) ok dX11_bribe_11 (by decide) (fun c1 => ?_) (fun c1 => ?_)
  · skip
    refine w_aload_n ok dX11_bribe_16 0 rfl ?_
    refine w_getR ok dX11_bribe_17 (fX11_20 rfl) (congrArg Prod.fst s_0) rfl (r_0_2 ro) (ltK hnn (by decide)) ?_
    refine w_getR ok dX11_bribe_20 (fX11_125 rfl) (congrArg Prod.fst s_2) rfl (r_2_2 ro) (ltK hnn (by decide)) ?_
    refine w_getR ok dX11_bribe_23 (fX11_142 rfl) (congrArg Prod.fst s_13) rfl (r_13_3 ro) (ltK hnn (by decide)) ?_
    refine w_iload_n ok dX11_bribe_26 1 rfl ?_
    refine w_cS (As := [.ref 15, .int a0]) ok dX11_bribe_27 iX11_at (lX11_146 rfl) (c_at s_15 (ltK hnn (by decide)) (sdc hf (by decide)) a0) (by decide) rfl (Nat.le_of_ble_eq_true rfl) ?_
    refine w_istore_n ok dX11_bribe_30 rfl (by decide) rfl ?_
    refine w_aload_n ok dX11_bribe_31 1 rfl ?_
    refine w_getR ok dX11_bribe_32 (fX11_20 rfl) (congrArg Prod.fst s_0) rfl (r_0_2 ro) (ltK hnn (by decide)) ?_
    refine w_getR ok dX11_bribe_35 (fX11_125 rfl) (congrArg Prod.fst s_2) rfl (r_2_2 ro) (ltK hnn (by decide)) ?_
    refine w_getR ok dX11_bribe_38 (fX11_150 rfl) (congrArg Prod.fst s_13) rfl (r_13_4 ro) (ltK hnn (by decide)) ?_
    refine w_iload_n ok dX11_bribe_41 2 rfl ?_
    refine w_cS (As := [.ref 16, .int a0]) ok dX11_bribe_42 iX11_at (lX11_146 rfl) (c_at s_16 (ltK hnn (by decide)) (sdc hf (by decide)) a0) (by decide) rfl (Nat.le_of_ble_eq_true rfl) ?_
    refine w_istore_n ok dX11_bribe_45 rfl (by decide) rfl ?_
    refine w_iconst (v := 0) ok dX11_bribe_46 (by decide) ?_
    refine w_istore ok dX11_bribe_47 (by decide) rfl ?_
    refine w_loc [3, 4, 2, 1, 0] rfl ?_
    refine loop_e (σ := SI × SJ) (ρ := Int32 × SI × SJ) (fun (i49 : Nat) (s49 : SI × SJ) => WK K 0 0 49 [(0, .ref 0), (1, .int a0), (2, .int (atF (I 15) 8 a0)), (3, .int (atF (I 16) 8 a0)), (4, .int (nI i49))] [] (eI f s49.1) (eJ f s49.2) R n g) (B_X11_bribe_l49_4 a0 I J) (21) ((I, J)) ?_ ?_
    · intro se49 he49
      have he49 : (F_X11_bribe_l49_4 a0 I J (I, J)) = .inl se49 := he49
      show WK K 0 0 49 [(0, .ref 0), (1, .int a0), (2, .int (atF (I 15) 8 a0)), (3, .int (atF (I 16) 8 a0)), (4, .int (nI 21))] [] (eI f se49.1) (eJ f se49.2) R n g
      have e2 : (20 : Int32) < (nI 21) := (show nI 20 < nI 21 from nI_lt (by omega) (by decide))
      refine w_iload ok dX11_bribe_49 4 rfl ?_
      refine w_bipush (v := 20) ok dX11_bribe_51 (by decide) ?_
      refine w_icmp_gt (tgt := 119) ok dX11_bribe_53 (by decide) (fun _ => ?_) (fun h => absurd e2 h)
      refine w_bipush (v := (-2)) ok dX11_bribe_119 (by decide) ?_
      exact w_iret ok fin dX11_bribe_121 rfl (by unfold F_X11_bribe FI_X11_bribe FJ_X11_bribe; simp only [if_neg c1]; simp only [he49]; exact Pd.i)
    · intro i49 s49 hi49 hs49 k49 kr49
      show WK K 0 0 49 [(0, .ref 0), (1, .int a0), (2, .int (atF (I 15) 8 a0)), (3, .int (atF (I 16) 8 a0)), (4, .int (nI i49))] [] (eI f s49.1) (eJ f s49.2) R n g
      have e3 : ¬ ((20 : Int32) < (nI i49)) := (show ¬ (nI 20 < nI i49) from nI_nlt (by omega) (by decide))
      refine w_iload ok dX11_bribe_49 4 rfl ?_
      refine w_bipush (v := 20) ok dX11_bribe_51 (by decide) ?_
      refine w_icmp_gt (tgt := 119) ok dX11_bribe_53 (by decide) (fun h => absurd h e3) (fun _ => ?_)
      refine w_aload_n ok dX11_bribe_56 0 rfl ?_
      refine w_getR ok dX11_bribe_57 (fX11_50 rfl) (congrArg Prod.fst s_0) rfl (r_0_7 ro) (ltK hnn (by decide)) ?_
      refine w_aload_n ok dX11_bribe_60 0 rfl ?_
      refine w_getR ok dX11_bribe_61 (fX11_34 rfl) (congrArg Prod.fst s_0) rfl (r_0_4 ro) (ltK hnn (by decide)) ?_
      refine w_cV (As := [.ref 86]) ok dX11_bribe_64 iX0_begin (lX11_189 rfl) (rcv cls0 (congrArg Prod.fst s_104)) (ltK hnn (by decide)) (c_X0_begin ro hnn hf  isSc_86) (by decide) rfl (Nat.le_of_ble_eq_true rfl) ?_
      refine w_aload_n ok dX11_bribe_67 0 rfl ?_
      refine w_getR ok dX11_bribe_68 (fX11_50 rfl) (congrArg Prod.fst s_0) rfl (r_0_7 ro) (ltK hnn (by decide)) ?_
      refine w_getR ok dX11_bribe_71 (fX11_232 rfl) (congrArg Prod.fst s_104) rfl (r_104_0 ro) (ltK hnn (by decide)) ?_
      refine w_getR ok dX11_bribe_74 (fX11_183 rfl) (congrArg Prod.fst s_105) rfl (r_105_13 ro) (ltK hnn (by decide)) ?_
      refine w_iload_n ok dX11_bribe_77 1 rfl ?_
      refine w_iload ok dX11_bribe_78 4 rfl ?_
      refine w_cS (As := [.ref 112, .int a0, .int (nI i49)]) ok dX11_bribe_80 iX11_put (lX11_215 rfl) (c_put s_112 (ltK hnn (by decide)) (sdc hf (by decide)) a0 (nI i49)) (by decide) rfl (Nat.le_of_ble_eq_true rfl) ?_
      refine w_aload_n ok dX11_bribe_83 0 rfl ?_
      refine w_getR ok dX11_bribe_84 (fX11_50 rfl) (congrArg Prod.fst s_0) rfl (r_0_7 ro) (ltK hnn (by decide)) ?_
      refine w_bipush (v := 20) ok dX11_bribe_87 (by decide) ?_
      refine w_cV (As := [.int 20]) ok dX11_bribe_89 iX0_pass (lX11_229 rfl) (rcv cls0 (congrArg Prod.fst s_104)) (ltK hnn (by decide)) (c_X0_pass ro hnn hf 20  (hp1 c1 i49 s49 hi49 hs49)) (by decide) rfl (Nat.le_of_ble_eq_true rfl) ?_
      show WK K 0 0 92 [(0, .ref 0), (1, .int a0), (2, .int (atF (I 15) 8 a0)), (3, .int (atF (I 16) 8 a0)), (4, .int (nI i49))] [] (eI f (S1_X11_bribe a0 I J i49 s49)) (eJ f (S2_X11_bribe a0 I J i49 s49)) R n g
      refine w_aload_n ok dX11_bribe_92 0 rfl ?_
      refine w_getR ok dX11_bribe_93 (fX11_50 rfl) (congrArg Prod.fst s_0) rfl (r_0_7 ro) (ltK hnn (by decide)) ?_
      refine w_getR ok dX11_bribe_96 (fX11_232 rfl) (congrArg Prod.fst s_104) rfl (r_104_0 ro) (ltK hnn (by decide)) ?_
      refine w_getR ok dX11_bribe_99 (fX11_153 rfl) (congrArg Prod.fst s_105) rfl (r_105_11 ro) (ltK hnn (by decide)) ?_
      refine w_iload_n ok dX11_bribe_102 2 rfl ?_
      refine w_cS (As := [.ref 110, .int (atF (I 15) 8 a0)]) ok dX11_bribe_103 iX11_at (lX11_146 rfl) (c_at s_110 (ltK hnn (by decide)) (sdc hf (by decide)) (atF (I 15) 8 a0)) (by decide) rfl (Nat.le_of_ble_eq_true rfl) ?_
      refine w_iload_n ok dX11_bribe_106 3 rfl ?_
      refine w_icmp_ne (tgt := 113) ok dX11_bribe_107 (by decide) (fun c4 => ?_) (fun c4 => ?_)
      · skip
        refine w_iinc (v := (nI i49) + 1) ok dX11_bribe_113 4 rfl rfl (by decide) rfl ?_
        refine w_goto (tgt := 49) ok dX11_bribe_116 (by decide) ?_
        have eB : B_X11_bribe_l49_4 a0 I J i49 s49 = .inl ((S1_X11_bribe a0 I J i49 s49), (S2_X11_bribe a0 I J i49 s49)) := by
          unfold B_X11_bribe_l49_4; exact (if_neg c4).trans (rfl)
        have kk := k49 _ eB
        refine w_loc [1, 2, 3, 4, 0] rfl ?_
        rw [nI_1 i49]
        exact kk
      · skip
        refine w_iload ok dX11_bribe_110 4 rfl ?_
        have eB : B_X11_bribe_l49_4 a0 I J i49 s49 = .inr ((nI i49), (S1_X11_bribe a0 I J i49 s49), (S2_X11_bribe a0 I J i49 s49)) := by
          unfold B_X11_bribe_l49_4; exact (if_pos c4).trans (rfl)
        have hr : (F_X11_bribe_l49_4 a0 I J (I, J)) = .inr ((nI i49), (S1_X11_bribe a0 I J i49 s49), (S2_X11_bribe a0 I J i49 s49)) := kr49 _ eB
        exact w_iret ok fin dX11_bribe_112 rfl (by unfold F_X11_bribe FI_X11_bribe FJ_X11_bribe; simp only [if_neg c1]; simp only [hr]; exact Pd.i)
  · skip
    refine w_iconst (v := (-1)) ok dX11_bribe_14 (by decide) ?_
    exact w_iret ok fin dX11_bribe_15 rfl (by unfold F_X11_bribe FI_X11_bribe FJ_X11_bribe; simp only [if_pos c1]; exact Pd.i)
def S1_X11_without (a0 : Int32) (I : SI) (J : SJ) : Int32 := F_X5_clashCount 105 (FI_X0_pass a0 (u2 (FI_X0_begin 86 I J) 104 2 3) (FJ_X0_begin 86 I J)) (FJ_X0_pass a0 (u2 (FI_X0_begin 86 I J) 104 2 3) (FJ_X0_begin 86 I J))
def S2_X11_without (a0 : Int32) (I : SI) (J : SJ) : Int32 := F_X5_breakCount 105 (FI_X0_pass a0 (u2 (FI_X0_begin 86 I J) 104 2 3) (FJ_X0_begin 86 I J)) (FJ_X0_pass a0 (u2 (FI_X0_begin 86 I J) 104 2 3) (FJ_X0_begin 86 I J))
def F_X11_without (a0 : Int32) (I : SI) (J : SJ) : Int32 := if a0 < 0 then -1 else (if a0 ≤ 99 then (S1_X11_without a0 I J) + (S2_X11_without a0 I J) else -1)
def FI_X11_without (a0 : Int32) (I : SI) (J : SJ) : SI := if a0 < 0 then I else (if a0 ≤ 99 then FI_X0_pass a0 (u2 (FI_X0_begin 86 I J) 104 2 3) (FJ_X0_begin 86 I J) else I)
def FJ_X11_without (a0 : Int32) (I : SI) (J : SJ) : SJ := if a0 < 0 then J else (if a0 ≤ 99 then FJ_X0_pass a0 (u2 (FI_X0_begin 86 I J) 104 2 3) (FJ_X0_begin 86 I J) else J)
def H_X11_without (a0 : Int32) (I : SI) (J : SJ) : Prop := (¬ (a0 < 0) → a0 ≤ 99 → H_X0_pass a0 (u2 (FI_X0_begin 86 I J) 104 2 3) (FJ_X0_begin 86 I J))
set_option maxHeartbeats 1000000 in
set_option maxRecDepth 40000 in
theorem c_X11_without {I : SI} {J : SJ} {R : SR} {n g : Nat} {f : Fr} (ro : RO R) (hnn : nK ≤ n) (hf : f.1 = true) (a0 : Int32)  (hp : H_X11_without a0 I J) : MM 6 0 0 mX11_without [.ref 0, .int a0] (eI f I) (eJ f J) R n g (Pd (some (.int (F_X11_without a0 I J))) (eI f (FI_X11_without a0 I J)) (eJ f (FJ_X11_without a0 I J)) R n g) := by
  refine MM.of (by decide) (Nat.le_of_ble_eq_true rfl) fun K ok fin => ?_
  show WK K 0 0 0 [(0, .ref 0), (1, .int a0)] [] (eI f I) (eJ f J) R n g
  have hp1 := hp
  refine w_iload_n ok dX11_without_0 1 rfl ?_
  refine w_if_lt (tgt := 10) ok dX11_without_1 (by decide) (fun c1 => ?_) (fun c1 => ?_)
  · skip
    refine w_iconst (v := (-1)) ok dX11_without_10 (by decide) ?_
    exact w_iret ok fin dX11_without_11 rfl (by unfold F_X11_without FI_X11_without FJ_X11_without; simp only [if_pos c1]; exact Pd.i)
  · skip
    refine w_iload_n ok dX11_without_4 1 rfl ?_
    refine w_bipush (v := 99) ok dX11_without_5 (by decide) ?_
    refine w_icmp_le (tgt := 12) ok dX11_without_7 (by decide) (fun c2 => ?_) (fun c2 => ?_)
    · skip
      refine w_aload_n ok dX11_without_12 0 rfl ?_
      refine w_getR ok dX11_without_13 (fX11_50 rfl) (congrArg Prod.fst s_0) rfl (r_0_7 ro) (ltK hnn (by decide)) ?_
      refine w_aload_n ok dX11_without_16 0 rfl ?_
      refine w_getR ok dX11_without_17 (fX11_34 rfl) (congrArg Prod.fst s_0) rfl (r_0_4 ro) (ltK hnn (by decide)) ?_
      refine w_cV (As := [.ref 86]) ok dX11_without_20 iX0_begin (lX11_189 rfl) (rcv cls0 (congrArg Prod.fst s_104)) (ltK hnn (by decide)) (c_X0_begin ro hnn hf  isSc_86) (by decide) rfl (Nat.le_of_ble_eq_true rfl) ?_
      refine w_aload_n ok dX11_without_23 0 rfl ?_
      refine w_getR ok dX11_without_24 (fX11_50 rfl) (congrArg Prod.fst s_0) rfl (r_0_7 ro) (ltK hnn (by decide)) ?_
      refine w_iconst (v := 3) ok dX11_without_27 (by decide) ?_
      refine y_putI ok dX11_without_28 (fwX11_226 rfl) (congrArg Prod.fst s_104) rfl (ltK hnn (by decide)) (sdc hf (by decide)) ?_
      refine w_aload_n ok dX11_without_31 0 rfl ?_
      refine w_getR ok dX11_without_32 (fX11_50 rfl) (congrArg Prod.fst s_0) rfl (r_0_7 ro) (ltK hnn (by decide)) ?_
      refine w_iload_n ok dX11_without_35 1 rfl ?_
      refine w_cV (As := [.int a0]) ok dX11_without_36 iX0_pass (lX11_229 rfl) (rcv cls0 (congrArg Prod.fst s_104)) (ltK hnn (by decide)) (c_X0_pass ro hnn hf a0  (hp1 c1 c2)) (by decide) rfl (Nat.le_of_ble_eq_true rfl) ?_
      refine w_aload_n ok dX11_without_39 0 rfl ?_
      refine w_getR ok dX11_without_40 (fX11_50 rfl) (congrArg Prod.fst s_0) rfl (r_0_7 ro) (ltK hnn (by decide)) ?_
      refine w_getR ok dX11_without_43 (fX11_232 rfl) (congrArg Prod.fst s_104) rfl (r_104_0 ro) (ltK hnn (by decide)) ?_
      refine w_cV (As := []) ok dX11_without_46 iX5_clashCount (lX11_250 rfl) (rcv cls5 (congrArg Prod.fst s_105)) (ltK hnn (by decide)) (c_X5_clashCount ro hnn hf  isSc_105) (by decide) rfl (Nat.le_of_ble_eq_true rfl) ?_
      show WK K 0 0 49 [(0, .ref 0), (1, .int a0)] [.int (S1_X11_without a0 I J)] (eI f (FI_X0_pass a0 (u2 (FI_X0_begin 86 I J) 104 2 3) (FJ_X0_begin 86 I J))) (eJ f (FJ_X0_pass a0 (u2 (FI_X0_begin 86 I J) 104 2 3) (FJ_X0_begin 86 I J))) R n g
      refine w_aload_n ok dX11_without_49 0 rfl ?_
      refine w_getR ok dX11_without_50 (fX11_50 rfl) (congrArg Prod.fst s_0) rfl (r_0_7 ro) (ltK hnn (by decide)) ?_
      refine w_getR ok dX11_without_53 (fX11_232 rfl) (congrArg Prod.fst s_104) rfl (r_104_0 ro) (ltK hnn (by decide)) ?_
      refine w_cV (As := []) ok dX11_without_56 iX5_breakCount (lX11_253 rfl) (rcv cls5 (congrArg Prod.fst s_105)) (ltK hnn (by decide)) (c_X5_breakCount ro hnn hf  isSc_105) (by decide) rfl (Nat.le_of_ble_eq_true rfl) ?_
      show WK K 0 0 59 [(0, .ref 0), (1, .int a0)] [.int (S2_X11_without a0 I J), .int (S1_X11_without a0 I J)] (eI f (FI_X0_pass a0 (u2 (FI_X0_begin 86 I J) 104 2 3) (FJ_X0_begin 86 I J))) (eJ f (FJ_X0_pass a0 (u2 (FI_X0_begin 86 I J) 104 2 3) (FJ_X0_begin 86 I J))) R n g
      refine w_iadd ok dX11_without_59 ?_
      exact w_iret ok fin dX11_without_60 rfl (by unfold F_X11_without FI_X11_without FJ_X11_without; simp only [if_neg c1]; simp only [if_pos c2]; exact Pd.i)
    · skip
      refine w_iconst (v := (-1)) ok dX11_without_10 (by decide) ?_
      exact w_iret ok fin dX11_without_11 rfl (by unfold F_X11_without FI_X11_without FJ_X11_without; simp only [if_neg c1]; simp only [if_neg c2]; exact Pd.i)
def S1_X11_struckHow (a0 : Int32) (I : SI) (J : SJ) (i39 : Nat) (s39 : Int32 × SI × SJ) : SI := FI_X5_open 105 2 (FI_X0_begin 86 s39.2.1 s39.2.2) (FJ_X0_begin 86 s39.2.1 s39.2.2)
def S2_X11_struckHow (a0 : Int32) (I : SI) (J : SJ) (i39 : Nat) (s39 : Int32 × SI × SJ) : SJ := FJ_X5_open 105 2 (FI_X0_begin 86 s39.2.1 s39.2.2) (FJ_X0_begin 86 s39.2.1 s39.2.2)
def S7_X11_struckHow (a0 : Int32) (I : SI) (J : SJ) (i39 : Nat) (s39 : Int32 × SI × SJ) (s93 : Int32 × Int32 × SI × SJ) : Int32 := F_X6_fits (F_X6_knownOnes  I J) s93.2.1 110 6 (FI_X0_pass 1 s93.2.2.1 s93.2.2.2) (FJ_X0_pass 1 s93.2.2.1 s93.2.2.2)
def B_X11_struckHow_w93 (a0 : Int32) (I : SI) (J : SJ) (i39 : Nat) (s39 : Int32 × SI × SJ) (s93 : Int32 × Int32 × SI × SJ) : (Int32 × Int32 × SI × SJ) ⊕ (Int32 × Int32 × SI × SJ) := if (F_X6_lastDay (F_X6_knownOnes  I J) I J) < s93.2.1 then .inr (s93.1, s93.2.1, s93.2.2.1, s93.2.2.2) else (if s93.1 = 0 then .inr (s93.1, s93.2.1, s93.2.2.1, s93.2.2.2) else .inl ((S7_X11_struckHow a0 I J i39 s39 s93), (s93.2.1 + 1), (FI_X0_pass 1 s93.2.2.1 s93.2.2.2), (FJ_X0_pass 1 s93.2.2.1 s93.2.2.2)))
def F_X11_struckHow_w93 (a0 : Int32) (I : SI) (J : SJ) (i39 : Nat) (s39 : Int32 × SI × SJ) (s0 : Int32 × Int32 × SI × SJ) : Int32 × Int32 × SI × SJ := (itW (B_X11_struckHow_w93 a0 I J i39 s39) 800 s0).getD s0
def S3_X11_struckHow (a0 : Int32) (I : SI) (J : SJ) (i39 : Nat) (s39 : Int32 × SI × SJ) : SI := (F_X11_struckHow_w93 a0 I J i39 s39 (1, 1, (putF (S1_X11_struckHow a0 I J i39 s39) 114 6 a0 ((nI i39) * 10)), (S2_X11_struckHow a0 I J i39 s39))).2.2.1
def S4_X11_struckHow (a0 : Int32) (I : SI) (J : SJ) (i39 : Nat) (s39 : Int32 × SI × SJ) : SJ := (F_X11_struckHow_w93 a0 I J i39 s39 (1, 1, (putF (S1_X11_struckHow a0 I J i39 s39) 114 6 a0 ((nI i39) * 10)), (S2_X11_struckHow a0 I J i39 s39))).2.2.2
def S5_X11_struckHow (a0 : Int32) (I : SI) (J : SJ) (i39 : Nat) (s39 : Int32 × SI × SJ) : Int32 := (F_X11_struckHow_w93 a0 I J i39 s39 (1, 1, (putF (S1_X11_struckHow a0 I J i39 s39) 114 6 a0 ((nI i39) * 10)), (S2_X11_struckHow a0 I J i39 s39))).1
def S6_X11_struckHow (a0 : Int32) (I : SI) (J : SJ) (i39 : Nat) (s39 : Int32 × SI × SJ) : Int32 := (F_X11_struckHow_w93 a0 I J i39 s39 (1, 1, (putF (S1_X11_struckHow a0 I J i39 s39) 114 6 a0 ((nI i39) * 10)), (S2_X11_struckHow a0 I J i39 s39))).2.1
def B_X11_struckHow_l39 (a0 : Int32) (I : SI) (J : SJ) (i39 : Nat) (s39 : Int32 × SI × SJ) : Int32 × SI × SJ := if (S5_X11_struckHow a0 I J i39 s39) = 0 then ((s39.1 ||| 0), (S3_X11_struckHow a0 I J i39 s39), (S4_X11_struckHow a0 I J i39 s39)) else ((s39.1 ||| ((1 : Int32) <<< ((nI i39) &&& 31))), (S3_X11_struckHow a0 I J i39 s39), (S4_X11_struckHow a0 I J i39 s39))
def F_X11_struckHow_l39 (a0 : Int32) (I : SI) (J : SJ) (s0 : Int32 × SI × SJ) : Int32 × SI × SJ := itN (B_X11_struckHow_l39 a0 I J) (10) s0
def F_X11_struckHow (a0 : Int32) (I : SI) (J : SJ) : Int32 := if (F_X7_holds 3 a0 I J) = 0 then -1 else (F_X11_struckHow_l39 a0 I J (0, I, J)).1
def FI_X11_struckHow (a0 : Int32) (I : SI) (J : SJ) : SI := if (F_X7_holds 3 a0 I J) = 0 then I else (F_X11_struckHow_l39 a0 I J (0, I, J)).2.1
def FJ_X11_struckHow (a0 : Int32) (I : SI) (J : SJ) : SJ := if (F_X7_holds 3 a0 I J) = 0 then J else (F_X11_struckHow_l39 a0 I J (0, I, J)).2.2
def H_X11_struckHow (a0 : Int32) (I : SI) (J : SJ) : Prop := (¬ ((F_X7_holds 3 a0 I J) = 0) → H_X6_knownOnes  I J) ∧ (¬ ((F_X7_holds 3 a0 I J) = 0) → ∀ (i39 : Nat) (s39 : Int32 × SI × SJ), i39 < 10 → s39 = itN (B_X11_struckHow_l39 a0 I J) i39 (0, I, J) → (itW (B_X11_struckHow_w93 a0 I J i39 s39) 800 (1, 1, (putF (S1_X11_struckHow a0 I J i39 s39) 114 6 a0 ((nI i39) * 10)), (S2_X11_struckHow a0 I J i39 s39))).isSome = true) ∧ (¬ ((F_X7_holds 3 a0 I J) = 0) → ∀ (i39 : Nat) (s39 : Int32 × SI × SJ), i39 < 10 → s39 = itN (B_X11_struckHow_l39 a0 I J) i39 (0, I, J) → ∀ (n93 : Nat) (s93 : Int32 × Int32 × SI × SJ), wN (B_X11_struckHow_w93 a0 I J i39 s39) n93 (1, 1, (putF (S1_X11_struckHow a0 I J i39 s39) 114 6 a0 ((nI i39) * 10)), (S2_X11_struckHow a0 I J i39 s39)) = some s93 → ¬ ((F_X6_lastDay (F_X6_knownOnes  I J) I J) < s93.2.1) → ¬ (s93.1 = 0) → H_X0_pass 1 s93.2.2.1 s93.2.2.2)
set_option maxHeartbeats 1420000 in
set_option maxRecDepth 40000 in
theorem c_X11_struckHow {I : SI} {J : SJ} {R : SR} {n g : Nat} {f : Fr} (ro : RO R) (hnn : nK ≤ n) (hf : f.1 = true) (a0 : Int32)  (hp : H_X11_struckHow a0 I J) : MM 6 0 0 mX11_struckHow [.ref 0, .int a0] (eI f I) (eJ f J) R n g (Pd (some (.int (F_X11_struckHow a0 I J))) (eI f (FI_X11_struckHow a0 I J)) (eJ f (FJ_X11_struckHow a0 I J)) R n g) := by
  refine MM.of (by decide) (Nat.le_of_ble_eq_true rfl) fun K ok fin => ?_
  show WK K 0 0 0 [(0, .ref 0), (1, .int a0)] [] (eI f I) (eJ f J) R n g
  obtain ⟨hp1, hp2, hp3⟩ := hp
  refine w_aload_n ok dX11_struckHow_0 0 rfl ?_
  refine w_getR ok dX11_struckHow_1 (fX11_20 rfl) (congrArg Prod.fst s_0) rfl (r_0_2 ro) (ltK hnn (by decide)) ?_
  refine w_getR ok dX11_struckHow_4 (fX11_112 rfl) (congrArg Prod.fst s_2) rfl (r_2_0 ro) (ltK hnn (by decide)) ?_
  refine w_iload_n ok dX11_struckHow_7 1 rfl ?_
  refine w_cV (As := [.int a0]) ok dX11_struckHow_8 iX7_holds (lX11_131 rfl) (rcv cls7 (congrArg Prod.fst s_3)) (ltK hnn (by decide)) (c_X7_holds ro hnn hf a0 isTb_3) (by decide) rfl (Nat.le_of_ble_eq_true rfl) ?_
  refine w_if_ne (tgt := 16) ok dX11_struckHow_11 (by decide) (fun c1 => ?_) (fun c1 => ?_)
  · skip
    refine w_aload_n ok dX11_struckHow_16 0 rfl ?_
    refine w_getR ok dX11_struckHow_17 (fX11_57 rfl) (congrArg Prod.fst s_0) rfl (r_0_8 ro) (ltK hnn (by decide)) ?_
    refine w_cV (As := []) ok dX11_struckHow_20 iX6_knownOnes (lX11_335 rfl) (rcv cls6 (congrArg Prod.fst s_116)) (ltK hnn (by decide)) (c_X6_knownOnes ro hnn hf   (hp1 c1)) (by decide) rfl (Nat.le_of_ble_eq_true rfl) ?_
    refine w_istore_n ok dX11_struckHow_23 rfl (by decide) rfl ?_
    refine w_aload_n ok dX11_struckHow_24 1 rfl ?_
    refine w_getR ok dX11_struckHow_25 (fX11_57 rfl) (congrArg Prod.fst s_0) rfl (r_0_8 ro) (ltK hnn (by decide)) ?_
    refine w_iload_n ok dX11_struckHow_28 0 rfl ?_
    refine w_cV (As := [.int (F_X6_knownOnes  I J)]) ok dX11_struckHow_29 iX6_lastDay (lX11_338 rfl) (rcv cls6 (congrArg Prod.fst s_116)) (ltK hnn (by decide)) (c_X6_lastDay ro hnn hf (F_X6_knownOnes  I J) ) (by decide) rfl (Nat.le_of_ble_eq_true rfl) ?_
    refine w_istore_n ok dX11_struckHow_32 rfl (by decide) rfl ?_
    refine w_iconst (v := 0) ok dX11_struckHow_33 (by decide) ?_
    refine w_istore ok dX11_struckHow_34 (by decide) rfl ?_
    refine w_iconst (v := 0) ok dX11_struckHow_36 (by decide) ?_
    refine w_istore ok dX11_struckHow_37 (by decide) rfl ?_
    refine w_loc [4, 5, 3, 2, 1, 0] rfl ?_
    refine loop_for (σ := Int32 × SI × SJ) (fun (i39 : Nat) (s39 : Int32 × SI × SJ) => WK K 0 0 39 [(0, .ref 0), (1, .int a0), (2, .int (F_X6_knownOnes  I J)), (3, .int (F_X6_lastDay (F_X6_knownOnes  I J) I J)), (4, .int s39.1), (5, .int (nI i39))] [] (eI f s39.2.1) (eJ f s39.2.2) R n g) (B_X11_struckHow_l39 a0 I J) (10) ((0, I, J)) ?_ ?_
    · show WK K 0 0 39 [(0, .ref 0), (1, .int a0), (2, .int (F_X6_knownOnes  I J)), (3, .int (F_X6_lastDay (F_X6_knownOnes  I J) I J)), (4, .int ((F_X11_struckHow_l39 a0 I J (0, I, J)).1)), (5, .int (nI 10))] [] (eI f ((F_X11_struckHow_l39 a0 I J (0, I, J)).2.1)) (eJ f ((F_X11_struckHow_l39 a0 I J (0, I, J)).2.2)) R n g
      have e2 : (10 : Int32) ≤ (nI 10) := (show nI 10 ≤ nI 10 from nI_le (by omega) (by decide))
      refine w_iload ok dX11_struckHow_39 5 rfl ?_
      refine w_bipush (v := 10) ok dX11_struckHow_41 (by decide) ?_
      refine w_icmp_ge (tgt := 164) ok dX11_struckHow_43 (by decide) (fun _ => ?_) (fun h => absurd e2 h)
      refine w_iload ok dX11_struckHow_164 4 rfl ?_
      exact w_iret ok fin dX11_struckHow_166 rfl (by unfold F_X11_struckHow FI_X11_struckHow FJ_X11_struckHow; simp only [if_neg c1]; exact Pd.i)
    · intro i39 s39 hi39 hs39 k39
      show WK K 0 0 39 [(0, .ref 0), (1, .int a0), (2, .int (F_X6_knownOnes  I J)), (3, .int (F_X6_lastDay (F_X6_knownOnes  I J) I J)), (4, .int s39.1), (5, .int (nI i39))] [] (eI f s39.2.1) (eJ f s39.2.2) R n g
      have e3 : ¬ ((10 : Int32) ≤ (nI i39)) := (show ¬ (nI 10 ≤ nI i39) from nI_ge (by omega) (by decide))
      refine w_iload ok dX11_struckHow_39 5 rfl ?_
      refine w_bipush (v := 10) ok dX11_struckHow_41 (by decide) ?_
      refine w_icmp_ge (tgt := 164) ok dX11_struckHow_43 (by decide) (fun h => absurd h e3) (fun _ => ?_)
      refine w_iconst (v := 1) ok dX11_struckHow_46 (by decide) ?_
      refine w_istore ok dX11_struckHow_47 (by decide) rfl ?_
      refine w_aload_n ok dX11_struckHow_49 1 rfl ?_
      refine w_getR ok dX11_struckHow_50 (fX11_50 rfl) (congrArg Prod.fst s_0) rfl (r_0_7 ro) (ltK hnn (by decide)) ?_
      refine w_aload_n ok dX11_struckHow_53 1 rfl ?_
      refine w_getR ok dX11_struckHow_54 (fX11_34 rfl) (congrArg Prod.fst s_0) rfl (r_0_4 ro) (ltK hnn (by decide)) ?_
      refine w_cV (As := [.ref 86]) ok dX11_struckHow_57 iX0_begin (lX11_189 rfl) (rcv cls0 (congrArg Prod.fst s_104)) (ltK hnn (by decide)) (c_X0_begin ro hnn hf  isSc_86) (by decide) rfl (Nat.le_of_ble_eq_true rfl) ?_
      refine w_aload_n ok dX11_struckHow_60 1 rfl ?_
      refine w_getR ok dX11_struckHow_61 (fX11_50 rfl) (congrArg Prod.fst s_0) rfl (r_0_7 ro) (ltK hnn (by decide)) ?_
      refine w_getR ok dX11_struckHow_64 (fX11_232 rfl) (congrArg Prod.fst s_104) rfl (r_104_0 ro) (ltK hnn (by decide)) ?_
      refine w_aload_n ok dX11_struckHow_67 1 rfl ?_
      refine w_getR ok dX11_struckHow_68 (fX11_20 rfl) (congrArg Prod.fst s_0) rfl (r_0_2 ro) (ltK hnn (by decide)) ?_
      refine w_cV (As := [.ref 2]) ok dX11_struckHow_71 iX5_open (lX11_82 rfl) (rcv cls5 (congrArg Prod.fst s_105)) (ltK hnn (by decide)) (c_X5_open ro hnn hf  isSc_105 isTo_2) (by decide) rfl (Nat.le_of_ble_eq_true rfl) ?_
      show WK K 0 0 74 [(6, .int 1), (0, .ref 0), (1, .int a0), (2, .int (F_X6_knownOnes  I J)), (3, .int (F_X6_lastDay (F_X6_knownOnes  I J) I J)), (4, .int s39.1), (5, .int (nI i39))] [] (eI f (S1_X11_struckHow a0 I J i39 s39)) (eJ f (S2_X11_struckHow a0 I J i39 s39)) R n g
      refine w_aload_n ok dX11_struckHow_74 1 rfl ?_
      refine w_getR ok dX11_struckHow_75 (fX11_50 rfl) (congrArg Prod.fst s_0) rfl (r_0_7 ro) (ltK hnn (by decide)) ?_
      refine w_getR ok dX11_struckHow_78 (fX11_341 rfl) (congrArg Prod.fst s_104) rfl (r_104_1 ro) (ltK hnn (by decide)) ?_
      refine w_iload_n ok dX11_struckHow_81 2 rfl ?_
      refine w_iload ok dX11_struckHow_82 6 rfl ?_
      refine w_bipush (v := 10) ok dX11_struckHow_84 (by decide) ?_
      refine w_imul ok dX11_struckHow_86 ?_
      refine w_cS (As := [.ref 114, .int a0, .int ((nI i39) * 10)]) ok dX11_struckHow_87 iX11_put (lX11_215 rfl) (c_put s_114 (ltK hnn (by decide)) (sdc hf (by decide)) a0 ((nI i39) * 10)) (by decide) rfl (Nat.le_of_ble_eq_true rfl) ?_
      refine w_iconst (v := 1) ok dX11_struckHow_90 (by decide) ?_
      refine w_istore ok dX11_struckHow_91 (by decide) rfl ?_
      refine w_loc [2, 3, 4, 5, 6, 7, 1, 0] rfl ?_
      refine loop_w (fun (s93 : Int32 × Int32 × SI × SJ) => WK K 0 0 93 [(0, .ref 0), (1, .int a0), (2, .int (F_X6_knownOnes  I J)), (3, .int (F_X6_lastDay (F_X6_knownOnes  I J) I J)), (4, .int s39.1), (5, .int (nI i39)), (6, .int s93.1), (7, .int s93.2.1)] [] (eI f s93.2.2.1) (eJ f s93.2.2.2) R n g) (fun (s93 : Int32 × Int32 × SI × SJ) => WK K 0 0 140 [(0, .ref 0), (1, .int a0), (2, .int (F_X6_knownOnes  I J)), (3, .int (F_X6_lastDay (F_X6_knownOnes  I J) I J)), (4, .int s39.1), (5, .int (nI i39)), (6, .int s93.1), (7, .int s93.2.1)] [] (eI f s93.2.2.1) (eJ f s93.2.2.2) R n g) (B_X11_struckHow_w93 a0 I J i39 s39) 800 (1, 1, (putF (S1_X11_struckHow a0 I J i39 s39) 114 6 a0 ((nI i39) * 10)), (S2_X11_struckHow a0 I J i39 s39)) (F_X11_struckHow_w93 a0 I J i39 s39 (1, 1, (putF (S1_X11_struckHow a0 I J i39 s39) 114 6 a0 ((nI i39) * 10)), (S2_X11_struckHow a0 I J i39 s39))) (itW_some (hp2 c1 i39 s39 hi39 hs39)) ?_ ?_
      · show WK K 0 0 140 [(0, .ref 0), (1, .int a0), (2, .int (F_X6_knownOnes  I J)), (3, .int (F_X6_lastDay (F_X6_knownOnes  I J) I J)), (4, .int s39.1), (5, .int (nI i39)), (6, .int ((F_X11_struckHow_w93 a0 I J i39 s39 (1, 1, (putF (S1_X11_struckHow a0 I J i39 s39) 114 6 a0 ((nI i39) * 10)), (S2_X11_struckHow a0 I J i39 s39))).1)), (7, .int ((F_X11_struckHow_w93 a0 I J i39 s39 (1, 1, (putF (S1_X11_struckHow a0 I J i39 s39) 114 6 a0 ((nI i39) * 10)), (S2_X11_struckHow a0 I J i39 s39))).2.1))] [] (eI f ((F_X11_struckHow_w93 a0 I J i39 s39 (1, 1, (putF (S1_X11_struckHow a0 I J i39 s39) 114 6 a0 ((nI i39) * 10)), (S2_X11_struckHow a0 I J i39 s39))).2.2.1)) (eJ f ((F_X11_struckHow_w93 a0 I J i39 s39 (1, 1, (putF (S1_X11_struckHow a0 I J i39 s39) 114 6 a0 ((nI i39) * 10)), (S2_X11_struckHow a0 I J i39 s39))).2.2.2)) R n g
        refine w_iload ok dX11_struckHow_140 4 rfl ?_
        show WK K 0 0 142 [(0, .ref 0), (1, .int a0), (2, .int (F_X6_knownOnes  I J)), (3, .int (F_X6_lastDay (F_X6_knownOnes  I J) I J)), (4, .int s39.1), (5, .int (nI i39)), (6, .int (S5_X11_struckHow a0 I J i39 s39)), (7, .int (S6_X11_struckHow a0 I J i39 s39))] [.int s39.1] (eI f (S3_X11_struckHow a0 I J i39 s39)) (eJ f (S4_X11_struckHow a0 I J i39 s39)) R n g
        refine w_iload ok dX11_struckHow_142 6 rfl ?_
        refine w_if_eq (tgt := 154) ok dX11_struckHow_144 (by decide) (fun c4 => ?_) (fun c4 => ?_)
        · skip
          refine w_iconst (v := 0) ok dX11_struckHow_154 (by decide) ?_
          refine w_ior ok dX11_struckHow_155 ?_
          refine w_istore ok dX11_struckHow_156 (by decide) rfl ?_
          refine w_iinc (v := (nI i39) + 1) ok dX11_struckHow_158 5 rfl rfl (by decide) rfl ?_
          refine w_goto (tgt := 39) ok dX11_struckHow_161 (by decide) ?_
          have eB : B_X11_struckHow_l39 a0 I J i39 s39 = ((s39.1 ||| 0), (S3_X11_struckHow a0 I J i39 s39), (S4_X11_struckHow a0 I J i39 s39)) := by
            unfold B_X11_struckHow_l39; exact (if_pos c4).trans (rfl)
          have kk := k39
          rw [eB] at kk
          refine w_loc [2, 3, 4, 5, 1, 0] rfl ?_
          rw [nI_1 i39]
          exact kk
        · skip
          refine w_iconst (v := 1) ok dX11_struckHow_147 (by decide) ?_
          refine w_iload ok dX11_struckHow_148 5 rfl ?_
          refine w_ishl ok dX11_struckHow_150 ?_
          refine w_goto (tgt := 155) ok dX11_struckHow_151 (by decide) ?_
          refine w_ior ok dX11_struckHow_155 ?_
          refine w_istore ok dX11_struckHow_156 (by decide) rfl ?_
          refine w_iinc (v := (nI i39) + 1) ok dX11_struckHow_158 5 rfl rfl (by decide) rfl ?_
          refine w_goto (tgt := 39) ok dX11_struckHow_161 (by decide) ?_
          have eB : B_X11_struckHow_l39 a0 I J i39 s39 = ((s39.1 ||| ((1 : Int32) <<< ((nI i39) &&& 31))), (S3_X11_struckHow a0 I J i39 s39), (S4_X11_struckHow a0 I J i39 s39)) := by
            unfold B_X11_struckHow_l39; exact (if_neg c4).trans (rfl)
          have kk := k39
          rw [eB] at kk
          refine w_loc [2, 3, 4, 5, 1, 0] rfl ?_
          rw [nI_1 i39]
          exact kk
      · intro n93 s93 hs93 kc93 kx93
        show WK K 0 0 93 [(0, .ref 0), (1, .int a0), (2, .int (F_X6_knownOnes  I J)), (3, .int (F_X6_lastDay (F_X6_knownOnes  I J) I J)), (4, .int s39.1), (5, .int (nI i39)), (6, .int s93.1), (7, .int s93.2.1)] [] (eI f s93.2.2.1) (eJ f s93.2.2.2) R n g
        refine w_iload ok dX11_struckHow_93 7 rfl ?_
        refine w_iload_n ok dX11_struckHow_95 3 rfl ?_
        refine w_icmp_gt (tgt := 140) ok dX11_struckHow_96 (by decide) (fun c5 => ?_) (fun c5 => ?_)
        · skip
          have eB : B_X11_struckHow_w93 a0 I J i39 s39 s93 = .inr (s93.1, s93.2.1, s93.2.2.1, s93.2.2.2) := by
            unfold B_X11_struckHow_w93; exact (if_pos c5).trans (rfl)
          refine w_loc [0, 1, 2, 3, 4, 5, 6, 7] rfl ?_
          have kk := kx93 _ eB
          exact kk
        · skip
          refine w_iload ok dX11_struckHow_99 6 rfl ?_
          refine w_if_eq (tgt := 140) ok dX11_struckHow_101 (by decide) (fun c6 => ?_) (fun c6 => ?_)
          · skip
            have eB : B_X11_struckHow_w93 a0 I J i39 s39 s93 = .inr (s93.1, s93.2.1, s93.2.2.1, s93.2.2.2) := by
              unfold B_X11_struckHow_w93; exact (if_neg c5).trans ((if_pos c6).trans (rfl))
            refine w_loc [0, 1, 2, 3, 4, 5, 6, 7] rfl ?_
            have kk := kx93 _ eB
            exact kk
          · skip
            refine w_aload_n ok dX11_struckHow_104 0 rfl ?_
            refine w_getR ok dX11_struckHow_105 (fX11_50 rfl) (congrArg Prod.fst s_0) rfl (r_0_7 ro) (ltK hnn (by decide)) ?_
            refine w_iconst (v := 1) ok dX11_struckHow_108 (by decide) ?_
            refine w_cV (As := [.int 1]) ok dX11_struckHow_109 iX0_pass (lX11_229 rfl) (rcv cls0 (congrArg Prod.fst s_104)) (ltK hnn (by decide)) (c_X0_pass ro hnn hf 1  (hp3 c1 i39 s39 hi39 hs39 n93 s93 hs93 c5 c6)) (by decide) rfl (Nat.le_of_ble_eq_true rfl) ?_
            refine w_aload_n ok dX11_struckHow_112 0 rfl ?_
            refine w_getR ok dX11_struckHow_113 (fX11_57 rfl) (congrArg Prod.fst s_0) rfl (r_0_8 ro) (ltK hnn (by decide)) ?_
            refine w_iload_n ok dX11_struckHow_116 2 rfl ?_
            refine w_iload ok dX11_struckHow_117 7 rfl ?_
            refine w_aload_n ok dX11_struckHow_119 0 rfl ?_
            refine w_getR ok dX11_struckHow_120 (fX11_50 rfl) (congrArg Prod.fst s_0) rfl (r_0_7 ro) (ltK hnn (by decide)) ?_
            refine w_getR ok dX11_struckHow_123 (fX11_232 rfl) (congrArg Prod.fst s_104) rfl (r_104_0 ro) (ltK hnn (by decide)) ?_
            refine w_getR ok dX11_struckHow_126 (fX11_153 rfl) (congrArg Prod.fst s_105) rfl (r_105_11 ro) (ltK hnn (by decide)) ?_
            refine w_cV (As := [.int (F_X6_knownOnes  I J), .int s93.2.1, .ref 110]) ok dX11_struckHow_129 iX6_fits (lX11_344 rfl) (rcv cls6 (congrArg Prod.fst s_116)) (ltK hnn (by decide)) (c_X6_fits ro hnn hf (F_X6_knownOnes  I J) s93.2.1 s_110 (ltK hnn (by decide)) (sdc hf (by decide)) (sh_len s_110)) (by decide) rfl (Nat.le_of_ble_eq_true rfl) ?_
            show WK K 0 0 132 [(0, .ref 0), (1, .int a0), (2, .int (F_X6_knownOnes  I J)), (3, .int (F_X6_lastDay (F_X6_knownOnes  I J) I J)), (4, .int s39.1), (5, .int (nI i39)), (6, .int s93.1), (7, .int s93.2.1)] [.int (S7_X11_struckHow a0 I J i39 s39 s93)] (eI f (FI_X0_pass 1 s93.2.2.1 s93.2.2.2)) (eJ f (FJ_X0_pass 1 s93.2.2.1 s93.2.2.2)) R n g
            refine w_istore ok dX11_struckHow_132 (by decide) rfl ?_
            refine w_iinc (v := s93.2.1 + 1) ok dX11_struckHow_134 7 rfl rfl (by decide) rfl ?_
            refine w_goto (tgt := 93) ok dX11_struckHow_137 (by decide) ?_
            have eB : B_X11_struckHow_w93 a0 I J i39 s39 s93 = .inl ((S7_X11_struckHow a0 I J i39 s39 s93), (s93.2.1 + 1), (FI_X0_pass 1 s93.2.2.1 s93.2.2.2), (FJ_X0_pass 1 s93.2.2.1 s93.2.2.2)) := by
              unfold B_X11_struckHow_w93; exact (if_neg c5).trans ((if_neg c6).trans (rfl))
            refine w_loc [2, 3, 4, 5, 6, 7, 1, 0] rfl ?_
            have kk := kc93 _ eB
            exact kk
  · skip
    refine w_iconst (v := (-1)) ok dX11_struckHow_14 (by decide) ?_
    exact w_iret ok fin dX11_struckHow_15 rfl (by unfold F_X11_struckHow FI_X11_struckHow FJ_X11_struckHow; simp only [if_pos c1]; exact Pd.i)
def S1_X11_chance (a0 : Int32) (a1 : Int32) (a2 : Int32) (I : SI) (J : SJ) (i37 : Nat) (s37 : Int64 × Int32 × SI × SJ) : SI := FI_X0_pass a1 (u2 (FI_X0_begin 86 s37.2.2.1 s37.2.2.2) 104 2 1) (u2 (FJ_X0_begin 86 s37.2.2.1 s37.2.2.2) 105 6 s37.1)
def S2_X11_chance (a0 : Int32) (a1 : Int32) (a2 : Int32) (I : SI) (J : SJ) (i37 : Nat) (s37 : Int64 × Int32 × SI × SJ) : SJ := FJ_X0_pass a1 (u2 (FI_X0_begin 86 s37.2.2.1 s37.2.2.2) 104 2 1) (u2 (FJ_X0_begin 86 s37.2.2.1 s37.2.2.2) 105 6 s37.1)
def S3_X11_chance (a0 : Int32) (a1 : Int32) (a2 : Int32) (I : SI) (J : SJ) (i37 : Nat) (s37 : Int64 × Int32 × SI × SJ) : Int32 := F_X5_clashCount 105 (S1_X11_chance a0 a1 a2 I J i37 s37) (S2_X11_chance a0 a1 a2 I J i37 s37)
def B_X11_chance_l37 (a0 : Int32) (a1 : Int32) (a2 : Int32) (I : SI) (J : SJ) (i37 : Nat) (s37 : Int64 × Int32 × SI × SJ) : Int64 × Int32 × SI × SJ := if (S3_X11_chance a0 a1 a2 I J i37 s37) < a2 then (((S2_X11_chance a0 a1 a2 I J i37 s37) 105 6), s37.2.1, (S1_X11_chance a0 a1 a2 I J i37 s37), (S2_X11_chance a0 a1 a2 I J i37 s37)) else (((S2_X11_chance a0 a1 a2 I J i37 s37) 105 6), (s37.2.1 + 1), (S1_X11_chance a0 a1 a2 I J i37 s37), (S2_X11_chance a0 a1 a2 I J i37 s37))
def F_X11_chance_l37 (a0 : Int32) (a1 : Int32) (a2 : Int32) (I : SI) (J : SJ) (s0 : Int64 × Int32 × SI × SJ) : Int64 × Int32 × SI × SJ := itN (B_X11_chance_l37 a0 a1 a2 I J) (10) s0
def F_X11_chance (a0 : Int32) (a1 : Int32) (a2 : Int32) (I : SI) (J : SJ) : Int32 := if a0 < 0 then -1 else (if a1 < 1 then -1 else (if (99 : Int32) < a1 then -1 else (if a2 < 0 then -1 else (if a2 ≤ 20 then (F_X11_chance_l37 a0 a1 a2 I J (a0.toInt64, 0, I, J)).2.1 else -1))))
def FI_X11_chance (a0 : Int32) (a1 : Int32) (a2 : Int32) (I : SI) (J : SJ) : SI := if a0 < 0 then I else (if a1 < 1 then I else (if (99 : Int32) < a1 then I else (if a2 < 0 then I else (if a2 ≤ 20 then (F_X11_chance_l37 a0 a1 a2 I J (a0.toInt64, 0, I, J)).2.2.1 else I))))
def FJ_X11_chance (a0 : Int32) (a1 : Int32) (a2 : Int32) (I : SI) (J : SJ) : SJ := if a0 < 0 then J else (if a1 < 1 then J else (if (99 : Int32) < a1 then J else (if a2 < 0 then J else (if a2 ≤ 20 then (F_X11_chance_l37 a0 a1 a2 I J (a0.toInt64, 0, I, J)).2.2.2 else J))))
def H_X11_chance (a0 : Int32) (a1 : Int32) (a2 : Int32) (I : SI) (J : SJ) : Prop := (¬ (a0 < 0) → ¬ (a1 < 1) → ¬ ((99 : Int32) < a1) → ¬ (a2 < 0) → a2 ≤ 20 → ∀ (i37 : Nat) (s37 : Int64 × Int32 × SI × SJ), i37 < 10 → s37 = itN (B_X11_chance_l37 a0 a1 a2 I J) i37 (a0.toInt64, 0, I, J) → H_X0_pass a1 (u2 (FI_X0_begin 86 s37.2.2.1 s37.2.2.2) 104 2 1) (u2 (FJ_X0_begin 86 s37.2.2.1 s37.2.2.2) 105 6 s37.1))
set_option maxHeartbeats 1080000 in
set_option maxRecDepth 40000 in
theorem c_X11_chance {I : SI} {J : SJ} {R : SR} {n g : Nat} {f : Fr} (ro : RO R) (hnn : nK ≤ n) (hf : f.1 = true) (a0 : Int32) (a1 : Int32) (a2 : Int32)  (hp : H_X11_chance a0 a1 a2 I J) : MM 6 0 0 mX11_chance [.ref 0, .int a0, .int a1, .int a2] (eI f I) (eJ f J) R n g (Pd (some (.int (F_X11_chance a0 a1 a2 I J))) (eI f (FI_X11_chance a0 a1 a2 I J)) (eJ f (FJ_X11_chance a0 a1 a2 I J)) R n g) := by
  refine MM.of (by decide) (Nat.le_of_ble_eq_true rfl) fun K ok fin => ?_
  show WK K 0 0 0 [(0, .ref 0), (1, .int a0), (2, .int a1), (3, .int a2)] [] (eI f I) (eJ f J) R n g
  have hp1 := hp
  refine w_iload_n ok dX11_chance_0 1 rfl ?_
  refine w_if_lt (tgt := 25) ok dX11_chance_1 (by decide) (fun c1 => ?_) (fun c1 => ?_)
  · skip
    refine w_iconst (v := (-1)) ok dX11_chance_25 (by decide) ?_
    exact w_iret ok fin dX11_chance_26 rfl (by unfold F_X11_chance FI_X11_chance FJ_X11_chance; simp only [if_pos c1]; exact Pd.i)
  · skip
    refine w_iload_n ok dX11_chance_4 2 rfl ?_
    refine w_iconst (v := 1) ok dX11_chance_5 (by decide) ?_
    refine w_icmp_lt (tgt := 25) ok dX11_chance_6 (by decide) (fun c2 => ?_) (fun c2 => ?_)
    · skip
      refine w_iconst (v := (-1)) ok dX11_chance_25 (by decide) ?_
      exact w_iret ok fin dX11_chance_26 rfl (by unfold F_X11_chance FI_X11_chance FJ_X11_chance; simp only [if_neg c1]; simp only [if_pos c2]; exact Pd.i)
    · skip
      refine w_iload_n ok dX11_chance_9 2 rfl ?_
      refine w_bipush (v := 99) ok dX11_chance_10 (by decide) ?_
      refine w_icmp_gt (tgt := 25) ok dX11_chance_12 (by decide) (fun c3 => ?_) (fun c3 => ?_)
      · skip
        refine w_iconst (v := (-1)) ok dX11_chance_25 (by decide) ?_
        exact w_iret ok fin dX11_chance_26 rfl (by unfold F_X11_chance FI_X11_chance FJ_X11_chance; simp only [if_neg c1]; simp only [if_neg c2]; simp only [if_pos c3]; exact Pd.i)
      · skip
        refine w_iload_n ok dX11_chance_15 3 rfl ?_
        refine w_if_lt (tgt := 25) ok dX11_chance_16 (by decide) (fun c4 => ?_) (fun c4 => ?_)
        · skip
          refine w_iconst (v := (-1)) ok dX11_chance_25 (by decide) ?_
          exact w_iret ok fin dX11_chance_26 rfl (by unfold F_X11_chance FI_X11_chance FJ_X11_chance; simp only [if_neg c1]; simp only [if_neg c2]; simp only [if_neg c3]; simp only [if_pos c4]; exact Pd.i)
        · skip
          refine w_iload_n ok dX11_chance_19 3 rfl ?_
          refine w_bipush (v := 20) ok dX11_chance_20 (by decide) ?_
          refine w_icmp_le (tgt := 27) ok dX11_chance_22 (by decide) (fun c5 => ?_) (fun c5 => ?_)
          · skip
            refine w_iload_n ok dX11_chance_27 1 rfl ?_
            refine w_i2l ok dX11_chance_28 ?_
            refine w_lstore ok dX11_chance_29 (by decide) rfl ?_
            refine w_iconst (v := 0) ok dX11_chance_31 (by decide) ?_
            refine w_istore ok dX11_chance_32 (by decide) rfl ?_
            refine w_iconst (v := 0) ok dX11_chance_34 (by decide) ?_
            refine w_istore ok dX11_chance_35 (by decide) rfl ?_
            refine w_loc [3, 4, 5, 6, 2, 1, 0] rfl ?_
            refine loop_for (σ := Int64 × Int32 × SI × SJ) (fun (i37 : Nat) (s37 : Int64 × Int32 × SI × SJ) => WK K 0 0 37 [(0, .ref 0), (1, .int a0), (2, .int a1), (3, .int a2), (4, .long s37.1), (6, .int s37.2.1), (7, .int (nI i37))] [] (eI f s37.2.2.1) (eJ f s37.2.2.2) R n g) (B_X11_chance_l37 a0 a1 a2 I J) (10) ((a0.toInt64, 0, I, J)) ?_ ?_
            · show WK K 0 0 37 [(0, .ref 0), (1, .int a0), (2, .int a1), (3, .int a2), (4, .long ((F_X11_chance_l37 a0 a1 a2 I J (a0.toInt64, 0, I, J)).1)), (6, .int ((F_X11_chance_l37 a0 a1 a2 I J (a0.toInt64, 0, I, J)).2.1)), (7, .int (nI 10))] [] (eI f ((F_X11_chance_l37 a0 a1 a2 I J (a0.toInt64, 0, I, J)).2.2.1)) (eJ f ((F_X11_chance_l37 a0 a1 a2 I J (a0.toInt64, 0, I, J)).2.2.2)) R n g
              have e6 : (10 : Int32) ≤ (nI 10) := (show nI 10 ≤ nI 10 from nI_le (by omega) (by decide))
              refine w_iload ok dX11_chance_37 6 rfl ?_
              refine w_bipush (v := 10) ok dX11_chance_39 (by decide) ?_
              refine w_icmp_ge (tgt := 118) ok dX11_chance_41 (by decide) (fun _ => ?_) (fun h => absurd e6 h)
              refine w_iload ok dX11_chance_118 5 rfl ?_
              exact w_iret ok fin dX11_chance_120 rfl (by unfold F_X11_chance FI_X11_chance FJ_X11_chance; simp only [if_neg c1]; simp only [if_neg c2]; simp only [if_neg c3]; simp only [if_neg c4]; simp only [if_pos c5]; exact Pd.i)
            · intro i37 s37 hi37 hs37 k37
              show WK K 0 0 37 [(0, .ref 0), (1, .int a0), (2, .int a1), (3, .int a2), (4, .long s37.1), (6, .int s37.2.1), (7, .int (nI i37))] [] (eI f s37.2.2.1) (eJ f s37.2.2.2) R n g
              have e7 : ¬ ((10 : Int32) ≤ (nI i37)) := (show ¬ (nI 10 ≤ nI i37) from nI_ge (by omega) (by decide))
              refine w_iload ok dX11_chance_37 6 rfl ?_
              refine w_bipush (v := 10) ok dX11_chance_39 (by decide) ?_
              refine w_icmp_ge (tgt := 118) ok dX11_chance_41 (by decide) (fun h => absurd h e7) (fun _ => ?_)
              refine w_aload_n ok dX11_chance_44 0 rfl ?_
              refine w_getR ok dX11_chance_45 (fX11_50 rfl) (congrArg Prod.fst s_0) rfl (r_0_7 ro) (ltK hnn (by decide)) ?_
              refine w_aload_n ok dX11_chance_48 0 rfl ?_
              refine w_getR ok dX11_chance_49 (fX11_34 rfl) (congrArg Prod.fst s_0) rfl (r_0_4 ro) (ltK hnn (by decide)) ?_
              refine w_cV (As := [.ref 86]) ok dX11_chance_52 iX0_begin (lX11_189 rfl) (rcv cls0 (congrArg Prod.fst s_104)) (ltK hnn (by decide)) (c_X0_begin ro hnn hf  isSc_86) (by decide) rfl (Nat.le_of_ble_eq_true rfl) ?_
              refine w_aload_n ok dX11_chance_55 0 rfl ?_
              refine w_getR ok dX11_chance_56 (fX11_50 rfl) (congrArg Prod.fst s_0) rfl (r_0_7 ro) (ltK hnn (by decide)) ?_
              refine w_iconst (v := 1) ok dX11_chance_59 (by decide) ?_
              refine y_putI ok dX11_chance_60 (fwX11_226 rfl) (congrArg Prod.fst s_104) rfl (ltK hnn (by decide)) (sdc hf (by decide)) ?_
              refine w_aload_n ok dX11_chance_63 0 rfl ?_
              refine w_getR ok dX11_chance_64 (fX11_50 rfl) (congrArg Prod.fst s_0) rfl (r_0_7 ro) (ltK hnn (by decide)) ?_
              refine w_getR ok dX11_chance_67 (fX11_232 rfl) (congrArg Prod.fst s_104) rfl (r_104_0 ro) (ltK hnn (by decide)) ?_
              refine w_lload ok dX11_chance_70 4 rfl ?_
              refine y_putJ ok dX11_chance_72 (fwX11_348 rfl) (congrArg Prod.fst s_105) rfl (ltK hnn (by decide)) (sdc hf (by decide)) ?_
              refine w_aload_n ok dX11_chance_75 0 rfl ?_
              refine w_getR ok dX11_chance_76 (fX11_50 rfl) (congrArg Prod.fst s_0) rfl (r_0_7 ro) (ltK hnn (by decide)) ?_
              refine w_iload_n ok dX11_chance_79 2 rfl ?_
              refine w_cV (As := [.int a1]) ok dX11_chance_80 iX0_pass (lX11_229 rfl) (rcv cls0 (congrArg Prod.fst s_104)) (ltK hnn (by decide)) (c_X0_pass ro hnn hf a1  (hp1 c1 c2 c3 c4 c5 i37 s37 hi37 hs37)) (by decide) rfl (Nat.le_of_ble_eq_true rfl) ?_
              show WK K 0 0 83 [(0, .ref 0), (1, .int a0), (2, .int a1), (3, .int a2), (4, .long s37.1), (6, .int s37.2.1), (7, .int (nI i37))] [] (eI f (S1_X11_chance a0 a1 a2 I J i37 s37)) (eJ f (S2_X11_chance a0 a1 a2 I J i37 s37)) R n g
              refine w_aload_n ok dX11_chance_83 0 rfl ?_
              refine w_getR ok dX11_chance_84 (fX11_50 rfl) (congrArg Prod.fst s_0) rfl (r_0_7 ro) (ltK hnn (by decide)) ?_
              refine w_getR ok dX11_chance_87 (fX11_232 rfl) (congrArg Prod.fst s_104) rfl (r_104_0 ro) (ltK hnn (by decide)) ?_
              refine y_getJ ok dX11_chance_90 (fX11_348 rfl) (congrArg Prod.fst s_105) rfl (ltK hnn (by decide)) (sdc hf (by decide)) ?_
              refine w_lstore ok dX11_chance_93 (by decide) rfl ?_
              refine w_aload_n ok dX11_chance_95 1 rfl ?_
              refine w_getR ok dX11_chance_96 (fX11_50 rfl) (congrArg Prod.fst s_0) rfl (r_0_7 ro) (ltK hnn (by decide)) ?_
              refine w_getR ok dX11_chance_99 (fX11_232 rfl) (congrArg Prod.fst s_104) rfl (r_104_0 ro) (ltK hnn (by decide)) ?_
              refine w_cV (As := []) ok dX11_chance_102 iX5_clashCount (lX11_250 rfl) (rcv cls5 (congrArg Prod.fst s_105)) (ltK hnn (by decide)) (c_X5_clashCount ro hnn hf  isSc_105) (by decide) rfl (Nat.le_of_ble_eq_true rfl) ?_
              show WK K 0 0 105 [(4, .long ((S2_X11_chance a0 a1 a2 I J i37 s37) 105 6)), (0, .ref 0), (1, .int a0), (2, .int a1), (3, .int a2), (6, .int s37.2.1), (7, .int (nI i37))] [.int (S3_X11_chance a0 a1 a2 I J i37 s37)] (eI f (S1_X11_chance a0 a1 a2 I J i37 s37)) (eJ f (S2_X11_chance a0 a1 a2 I J i37 s37)) R n g
              refine w_iload_n ok dX11_chance_105 4 rfl ?_
              refine w_icmp_lt (tgt := 112) ok dX11_chance_106 (by decide) (fun c8 => ?_) (fun c8 => ?_)
              · skip
                refine w_iinc (v := (nI i37) + 1) ok dX11_chance_112 6 rfl rfl (by decide) rfl ?_
                refine w_goto (tgt := 37) ok dX11_chance_115 (by decide) ?_
                have eB : B_X11_chance_l37 a0 a1 a2 I J i37 s37 = (((S2_X11_chance a0 a1 a2 I J i37 s37) 105 6), s37.2.1, (S1_X11_chance a0 a1 a2 I J i37 s37), (S2_X11_chance a0 a1 a2 I J i37 s37)) := by
                  unfold B_X11_chance_l37; exact (if_pos c8).trans (rfl)
                have kk := k37
                rw [eB] at kk
                refine w_loc [2, 3, 4, 5, 1, 6, 0] rfl ?_
                rw [nI_1 i37]
                exact kk
              · skip
                refine w_iinc (v := s37.2.1 + 1) ok dX11_chance_109 5 rfl rfl (by decide) rfl ?_
                refine w_iinc (v := (nI i37) + 1) ok dX11_chance_112 6 rfl rfl (by decide) rfl ?_
                refine w_goto (tgt := 37) ok dX11_chance_115 (by decide) ?_
                have eB : B_X11_chance_l37 a0 a1 a2 I J i37 s37 = (((S2_X11_chance a0 a1 a2 I J i37 s37) 105 6), (s37.2.1 + 1), (S1_X11_chance a0 a1 a2 I J i37 s37), (S2_X11_chance a0 a1 a2 I J i37 s37)) := by
                  unfold B_X11_chance_l37; exact (if_neg c8).trans (rfl)
                have kk := k37
                rw [eB] at kk
                refine w_loc [3, 4, 5, 6, 2, 1, 0] rfl ?_
                rw [nI_1 i37]
                exact kk
          · skip
            refine w_iconst (v := (-1)) ok dX11_chance_25 (by decide) ?_
            exact w_iret ok fin dX11_chance_26 rfl (by unfold F_X11_chance FI_X11_chance FJ_X11_chance; simp only [if_neg c1]; simp only [if_neg c2]; simp only [if_neg c3]; simp only [if_neg c4]; simp only [if_neg c5]; exact Pd.i)
def T_X11_tried_j37 (a0 : Int32) (a1 : Int32) (a2 : Int32) (I : SI) (J : SJ) : Int32 := if a0 = 2 then (F_X7_holds 13 a1 I J) else (if a0 < 0 then 0 else (if (5 : Int32) < a0 then 0 else (if a1 = 0 then 1 else 0)))
def S1_X11_tried (a0 : Int32) (a1 : Int32) (a2 : Int32) (I : SI) (J : SJ) : SI := FI_X0_pass a2 (FI_X0_otherwise a0 a1 (FI_X0_begin 86 I J) (FJ_X0_begin 86 I J)) (FJ_X0_begin 86 I J)
def S2_X11_tried (a0 : Int32) (a1 : Int32) (a2 : Int32) (I : SI) (J : SJ) : SJ := FJ_X0_pass a2 (FI_X0_otherwise a0 a1 (FI_X0_begin 86 I J) (FJ_X0_begin 86 I J)) (FJ_X0_begin 86 I J)
def F_X11_tried (a0 : Int32) (a1 : Int32) (a2 : Int32) (I : SI) (J : SJ) : Int32 := if (T_X11_tried_j37 a0 a1 a2 I J) = 0 then -1 else (if a2 < 0 then -1 else (if a2 ≤ 99 then F_X5_clashCount 105 (S1_X11_tried a0 a1 a2 I J) (S2_X11_tried a0 a1 a2 I J) else -1))
def FI_X11_tried (a0 : Int32) (a1 : Int32) (a2 : Int32) (I : SI) (J : SJ) : SI := if (T_X11_tried_j37 a0 a1 a2 I J) = 0 then I else (if a2 < 0 then I else (if a2 ≤ 99 then (S1_X11_tried a0 a1 a2 I J) else I))
def FJ_X11_tried (a0 : Int32) (a1 : Int32) (a2 : Int32) (I : SI) (J : SJ) : SJ := if (T_X11_tried_j37 a0 a1 a2 I J) = 0 then J else (if a2 < 0 then J else (if a2 ≤ 99 then (S2_X11_tried a0 a1 a2 I J) else J))
def H_X11_tried (a0 : Int32) (a1 : Int32) (a2 : Int32) (I : SI) (J : SJ) : Prop := (¬ ((T_X11_tried_j37 a0 a1 a2 I J) = 0) → ¬ (a2 < 0) → a2 ≤ 99 → H_X0_otherwise a0 a1 (FI_X0_begin 86 I J) (FJ_X0_begin 86 I J)) ∧ (¬ ((T_X11_tried_j37 a0 a1 a2 I J) = 0) → ¬ (a2 < 0) → a2 ≤ 99 → H_X0_pass a2 (FI_X0_otherwise a0 a1 (FI_X0_begin 86 I J) (FJ_X0_begin 86 I J)) (FJ_X0_begin 86 I J))
set_option maxHeartbeats 1010000 in
set_option maxRecDepth 40000 in
theorem c_X11_tried {I : SI} {J : SJ} {R : SR} {n g : Nat} {f : Fr} (ro : RO R) (hnn : nK ≤ n) (hf : f.1 = true) (a0 : Int32) (a1 : Int32) (a2 : Int32)  (hp : H_X11_tried a0 a1 a2 I J) : MM 6 0 0 mX11_tried [.ref 0, .int a0, .int a1, .int a2] (eI f I) (eJ f J) R n g (Pd (some (.int (F_X11_tried a0 a1 a2 I J))) (eI f (FI_X11_tried a0 a1 a2 I J)) (eJ f (FJ_X11_tried a0 a1 a2 I J)) R n g) := by
  refine MM.of (by decide) (Nat.le_of_ble_eq_true rfl) fun K ok fin => ?_
  show WK K 0 0 0 [(0, .ref 0), (1, .int a0), (2, .int a1), (3, .int a2)] [] (eI f I) (eJ f J) R n g
  obtain ⟨hp1, hp2⟩ := hp
  refine w_iload_n ok dX11_tried_0 1 rfl ?_
  refine w_iconst (v := 2) ok dX11_tried_1 (by decide) ?_
  have jn1 : WK K 0 0 37 [(0, .ref 0), (1, .int a0), (2, .int a1), (3, .int a2)] [.int (T_X11_tried_j37 a0 a1 a2 I J)] (eI f I) (eJ f J) R n g := by
    refine w_istore ok dX11_tried_37 (by decide) rfl ?_
    refine w_iload ok dX11_tried_39 0 rfl ?_
    refine w_if_eq (tgt := 54) ok dX11_tried_41 (by decide) (fun c2 => ?_) (fun c2 => ?_)
    · skip
      refine w_iconst (v := (-1)) ok dX11_tried_54 (by decide) ?_
      exact w_iret ok fin dX11_tried_55 rfl (by unfold F_X11_tried FI_X11_tried FJ_X11_tried; simp only [if_pos c2]; exact Pd.i)
    · skip
      refine w_iload_n ok dX11_tried_44 4 rfl ?_
      refine w_if_lt (tgt := 54) ok dX11_tried_45 (by decide) (fun c3 => ?_) (fun c3 => ?_)
      · skip
        refine w_iconst (v := (-1)) ok dX11_tried_54 (by decide) ?_
        exact w_iret ok fin dX11_tried_55 rfl (by unfold F_X11_tried FI_X11_tried FJ_X11_tried; simp only [if_neg c2]; simp only [if_pos c3]; exact Pd.i)
      · skip
        refine w_iload_n ok dX11_tried_48 4 rfl ?_
        refine w_bipush (v := 99) ok dX11_tried_49 (by decide) ?_
        refine w_icmp_le (tgt := 56) ok dX11_tried_51 (by decide) (fun c4 => ?_) (fun c4 => ?_)
        · skip
          refine w_aload_n ok dX11_tried_56 1 rfl ?_
          refine w_getR ok dX11_tried_57 (fX11_50 rfl) (congrArg Prod.fst s_0) rfl (r_0_7 ro) (ltK hnn (by decide)) ?_
          refine w_aload_n ok dX11_tried_60 1 rfl ?_
          refine w_getR ok dX11_tried_61 (fX11_34 rfl) (congrArg Prod.fst s_0) rfl (r_0_4 ro) (ltK hnn (by decide)) ?_
          refine w_cV (As := [.ref 86]) ok dX11_tried_64 iX0_begin (lX11_189 rfl) (rcv cls0 (congrArg Prod.fst s_104)) (ltK hnn (by decide)) (c_X0_begin ro hnn hf  isSc_86) (by decide) rfl (Nat.le_of_ble_eq_true rfl) ?_
          refine w_aload_n ok dX11_tried_67 1 rfl ?_
          refine w_getR ok dX11_tried_68 (fX11_50 rfl) (congrArg Prod.fst s_0) rfl (r_0_7 ro) (ltK hnn (by decide)) ?_
          refine w_iload_n ok dX11_tried_71 2 rfl ?_
          refine w_iload_n ok dX11_tried_72 3 rfl ?_
          refine w_cV (As := [.int a0, .int a1]) ok dX11_tried_73 iX0_otherwise (lX11_352 rfl) (rcv cls0 (congrArg Prod.fst s_104)) (ltK hnn (by decide)) (c_X0_otherwise ro hnn hf a0 a1  (hp1 c2 c3 c4)) (by decide) rfl (Nat.le_of_ble_eq_true rfl) ?_
          refine w_aload_n ok dX11_tried_76 1 rfl ?_
          refine w_getR ok dX11_tried_77 (fX11_50 rfl) (congrArg Prod.fst s_0) rfl (r_0_7 ro) (ltK hnn (by decide)) ?_
          refine w_iload_n ok dX11_tried_80 4 rfl ?_
          refine w_cV (As := [.int a2]) ok dX11_tried_81 iX0_pass (lX11_229 rfl) (rcv cls0 (congrArg Prod.fst s_104)) (ltK hnn (by decide)) (c_X0_pass ro hnn hf a2  (hp2 c2 c3 c4)) (by decide) rfl (Nat.le_of_ble_eq_true rfl) ?_
          show WK K 0 0 84 [(4, .int (T_X11_tried_j37 a0 a1 a2 I J)), (0, .ref 0), (1, .int a0), (2, .int a1), (3, .int a2)] [] (eI f (S1_X11_tried a0 a1 a2 I J)) (eJ f (S2_X11_tried a0 a1 a2 I J)) R n g
          refine w_aload_n ok dX11_tried_84 1 rfl ?_
          refine w_getR ok dX11_tried_85 (fX11_50 rfl) (congrArg Prod.fst s_0) rfl (r_0_7 ro) (ltK hnn (by decide)) ?_
          refine w_getR ok dX11_tried_88 (fX11_232 rfl) (congrArg Prod.fst s_104) rfl (r_104_0 ro) (ltK hnn (by decide)) ?_
          refine w_cV (As := []) ok dX11_tried_91 iX5_clashCount (lX11_250 rfl) (rcv cls5 (congrArg Prod.fst s_105)) (ltK hnn (by decide)) (c_X5_clashCount ro hnn hf  isSc_105) (by decide) rfl (Nat.le_of_ble_eq_true rfl) ?_
          exact w_iret ok fin dX11_tried_94 rfl (by unfold F_X11_tried FI_X11_tried FJ_X11_tried; simp only [if_neg c2]; simp only [if_neg c3]; simp only [if_pos c4]; exact Pd.i)
        · skip
          refine w_iconst (v := (-1)) ok dX11_tried_54 (by decide) ?_
          exact w_iret ok fin dX11_tried_55 rfl (by unfold F_X11_tried FI_X11_tried FJ_X11_tried; simp only [if_neg c2]; simp only [if_neg c3]; simp only [if_neg c4]; exact Pd.i)
  refine w_icmp_ne (tgt := 19) ok dX11_tried_2 (by decide) (fun c5 => ?_) (fun c5 => ?_)
  · skip
    refine w_iload_n ok dX11_tried_19 1 rfl ?_
    refine w_if_lt (tgt := 36) ok dX11_tried_20 (by decide) (fun c6 => ?_) (fun c6 => ?_)
    · skip
      refine w_iconst (v := 0) ok dX11_tried_36 (by decide) ?_
      have eT : (T_X11_tried_j37 a0 a1 a2 I J) = 0 := by
        unfold T_X11_tried_j37; exact (if_neg c5).trans ((if_pos c6).trans (rfl))
      refine w_loc [0, 1, 2, 3] rfl ?_
      have jj := jn1
      rw [eT] at jj
      exact jj
    · skip
      refine w_iload_n ok dX11_tried_23 1 rfl ?_
      refine w_iconst (v := 5) ok dX11_tried_24 (by decide) ?_
      refine w_icmp_gt (tgt := 36) ok dX11_tried_25 (by decide) (fun c7 => ?_) (fun c7 => ?_)
      · skip
        refine w_iconst (v := 0) ok dX11_tried_36 (by decide) ?_
        have eT : (T_X11_tried_j37 a0 a1 a2 I J) = 0 := by
          unfold T_X11_tried_j37; exact (if_neg c5).trans ((if_neg c6).trans ((if_pos c7).trans (rfl)))
        refine w_loc [0, 1, 2, 3] rfl ?_
        have jj := jn1
        rw [eT] at jj
        exact jj
      · skip
        refine w_iload_n ok dX11_tried_28 2 rfl ?_
        refine w_if_ne (tgt := 36) ok dX11_tried_29 (by decide) (fun c8 => ?_) (fun c8 => ?_)
        · skip
          refine w_iconst (v := 0) ok dX11_tried_36 (by decide) ?_
          have eT : (T_X11_tried_j37 a0 a1 a2 I J) = 0 := by
            unfold T_X11_tried_j37; exact (if_neg c5).trans ((if_neg c6).trans ((if_neg c7).trans ((if_neg c8).trans (rfl))))
          refine w_loc [0, 1, 2, 3] rfl ?_
          have jj := jn1
          rw [eT] at jj
          exact jj
        · skip
          refine w_iconst (v := 1) ok dX11_tried_32 (by decide) ?_
          refine w_goto (tgt := 37) ok dX11_tried_33 (by decide) ?_
          have eT : (T_X11_tried_j37 a0 a1 a2 I J) = 1 := by
            unfold T_X11_tried_j37; exact (if_neg c5).trans ((if_neg c6).trans ((if_neg c7).trans ((if_pos c8).trans (rfl))))
          refine w_loc [0, 1, 2, 3] rfl ?_
          have jj := jn1
          rw [eT] at jj
          exact jj
  · skip
    refine w_aload_n ok dX11_tried_5 0 rfl ?_
    refine w_getR ok dX11_tried_6 (fX11_20 rfl) (congrArg Prod.fst s_0) rfl (r_0_2 ro) (ltK hnn (by decide)) ?_
    refine w_getR ok dX11_tried_9 (fX11_125 rfl) (congrArg Prod.fst s_2) rfl (r_2_2 ro) (ltK hnn (by decide)) ?_
    refine w_iload_n ok dX11_tried_12 2 rfl ?_
    refine w_cV (As := [.int a1]) ok dX11_tried_13 iX7_holds (lX11_131 rfl) (rcv cls7 (congrArg Prod.fst s_13)) (ltK hnn (by decide)) (c_X7_holds ro hnn hf a1 isTb_13) (by decide) rfl (Nat.le_of_ble_eq_true rfl) ?_
    refine w_goto (tgt := 37) ok dX11_tried_16 (by decide) ?_
    have eT : (T_X11_tried_j37 a0 a1 a2 I J) = (F_X7_holds 13 a1 I J) := by
      unfold T_X11_tried_j37; exact (if_pos c5).trans (rfl)
    refine w_loc [0, 1, 2, 3] rfl ?_
    have jj := jn1
    rw [eT] at jj
    exact jj
def T_X4_read_j70 (a1 : Int32) (I : SI) (J : SJ) (s28 : Int32 × SI) : SI := if ((FI_X4_line  s28.2 J) 81 5) = 4 then (FI_X4_line  s28.2 J) else (FI_X4_fail 1 (FI_X4_line  s28.2 J) J)
def S3_X4_read (a1 : Int32) (I : SI) (J : SJ) (s28 : Int32 × SI) : SI := u2 (T_X4_read_j70 a1 I J s28) 42 10 ((((T_X4_read_j70 a1 I J s28)) 42 10) + 1)
def B_X4_read_w28 (a1 : Int32) (I : SI) (J : SJ) (s28 : Int32 × SI) : (Int32 × SI) ⊕ (Int32 × SI) := if a1 < s28.1 then .inr (s28.1, s28.2) else (if (s28.2 41 1) = 0 then (if (s28.2 81 5) = 0 then .inr (s28.1, s28.2) else .inl ((s28.1 + 1), (FI_X8_step  (S3_X4_read a1 I J s28) J))) else .inr (s28.1, s28.2))
def F_X4_read_w28 (a1 : Int32) (I : SI) (J : SJ) (s0 : Int32 × SI) : Int32 × SI := (itW (B_X4_read_w28 a1 I J) 800 s0).getD s0
def S1_X4_read (a1 : Int32) (I : SI) (J : SJ) : SI := (F_X4_read_w28 a1 I J (0, (FI_X8_begin a1 (FI_X9_clear 42 (u2 (u2 I 41 1 0) 41 2 (-1)) J) J))).2
def S2_X4_read (a1 : Int32) (I : SI) (J : SJ) : Int32 := (F_X4_read_w28 a1 I J (0, (FI_X8_begin a1 (FI_X9_clear 42 (u2 (u2 I 41 1 0) 41 2 (-1)) J) J))).1
def F_X4_read (a1 : Int32) (I : SI) (J : SJ) : Int32 := if ((FI_X9_settle 42 (S1_X4_read a1 I J) J) 41 1) = 0 then 1 else 0
def FI_X4_read (a1 : Int32) (I : SI) (J : SJ) : SI := if ((FI_X9_settle 42 (S1_X4_read a1 I J) J) 41 1) = 0 then FI_X9_settle 42 (S1_X4_read a1 I J) J else FI_X9_settle 42 (S1_X4_read a1 I J) J
def H_X4_read (a1 : Int32) (I : SI) (J : SJ) : Prop := (H_X8_begin a1 (FI_X9_clear 42 (u2 (u2 I 41 1 0) 41 2 (-1)) J) J) ∧ ((itW (B_X4_read_w28 a1 I J) 800 (0, (FI_X8_begin a1 (FI_X9_clear 42 (u2 (u2 I 41 1 0) 41 2 (-1)) J) J))).isSome = true) ∧ (∀ (n28 : Nat) (s28 : Int32 × SI), wN (B_X4_read_w28 a1 I J) n28 (0, (FI_X8_begin a1 (FI_X9_clear 42 (u2 (u2 I 41 1 0) 41 2 (-1)) J) J)) = some s28 → ¬ (a1 < s28.1) → (s28.2 41 1) = 0 → ¬ ((s28.2 81 5) = 0) → H_X4_line  s28.2 J) ∧ (∀ (n28 : Nat) (s28 : Int32 × SI), wN (B_X4_read_w28 a1 I J) n28 (0, (FI_X8_begin a1 (FI_X9_clear 42 (u2 (u2 I 41 1 0) 41 2 (-1)) J) J)) = some s28 → ¬ (a1 < s28.1) → (s28.2 41 1) = 0 → ¬ ((s28.2 81 5) = 0) → H_X8_step  (S3_X4_read a1 I J s28) J)
set_option maxHeartbeats 1120000 in
set_option maxRecDepth 40000 in
theorem c_X4_read {I : SI} {J : SJ} {R : SR} {n g : Nat} {f : Fr} (ro : RO R) (hnn : nK ≤ n) (hf : f.1 = true) (a1 : Int32)  (hp : H_X4_read a1 I J) : MM 6 0 0 mX4_read [.ref 41, .ref 1, .int a1] (eI f I) (eJ f J) R n g (Pd (some (.int (F_X4_read a1 I J))) (eI f (FI_X4_read a1 I J)) (eJ f J) (tR R) n g) := by
  refine MM.of (by decide) (Nat.le_of_ble_eq_true rfl) fun K ok fin => ?_
  show WK K 0 0 0 [(0, .ref 41), (1, .ref 1), (2, .int a1)] [] (eI f I) (eJ f J) R n g
  obtain ⟨hp1, hp2, hp3, hp4⟩ := hp
  refine w_aload_n ok dX4_read_0 0 rfl ?_
  refine w_iconst (v := 0) ok dX4_read_1 (by decide) ?_
  refine y_putI ok dX4_read_2 (fwX4_18 rfl) (congrArg Prod.fst s_41) rfl (ltK hnn (by decide)) (sdc hf (by decide)) ?_
  refine w_aload_n ok dX4_read_5 0 rfl ?_
  refine w_iconst (v := (-1)) ok dX4_read_6 (by decide) ?_
  refine y_putI ok dX4_read_7 (fwX4_22 rfl) (congrArg Prod.fst s_41) rfl (ltK hnn (by decide)) (sdc hf (by decide)) ?_
  refine w_aload_n ok dX4_read_10 0 rfl ?_
  refine w_getR ok dX4_read_11 (fX4_12 rfl) (congrArg Prod.fst s_41) rfl (r_41_0 ro) (ltK hnn (by decide)) ?_
  refine w_cV (As := []) ok dX4_read_14 iX9_clear (lX4_45 rfl) (rcv cls9 (congrArg Prod.fst s_42)) (ltK hnn (by decide)) (c_X9_clear ro hnn hf  isTo_42) (by decide) rfl (Nat.le_of_ble_eq_true rfl) ?_
  refine w_aload_n ok dX4_read_17 0 rfl ?_
  refine w_getR ok dX4_read_18 (fX4_28 rfl) (congrArg Prod.fst s_41) rfl (r_41_3 ro) (ltK hnn (by decide)) ?_
  refine w_aload_n ok dX4_read_21 1 rfl ?_
  refine w_iload_n ok dX4_read_22 2 rfl ?_
  refine w_cV (As := [.ref 1, .int a1]) ok dX4_read_23 iX8_begin (lX4_48 rfl) (rcv cls8 (congrArg Prod.fst s_81)) (ltK hnn (by decide)) (c_X8_begin ro hnn hf a1  (hp1)) (by decide) rfl (Nat.le_of_ble_eq_true rfl) ?_
  replace ro := ro_t ro
  have htp : (tR R) 81 1 = some 1 := u2_s _ _ _ _
  refine w_iconst (v := 0) ok dX4_read_26 (by decide) ?_
  refine w_istore_n ok dX4_read_27 rfl (by decide) rfl ?_
  refine w_loc [1, 2, 3, 0] rfl ?_
  refine loop_w (fun (s28 : Int32 × SI) => WK K 0 0 28 [(0, .ref 41), (1, .ref 1), (2, .int a1), (3, .int s28.1)] [] (eI f s28.2) (eJ f J) (tR R) n g) (fun (s28 : Int32 × SI) => WK K 0 0 96 [(0, .ref 41), (1, .ref 1), (2, .int a1), (3, .int s28.1)] [] (eI f s28.2) (eJ f J) (tR R) n g) (B_X4_read_w28 a1 I J) 800 (0, (FI_X8_begin a1 (FI_X9_clear 42 (u2 (u2 I 41 1 0) 41 2 (-1)) J) J)) (F_X4_read_w28 a1 I J (0, (FI_X8_begin a1 (FI_X9_clear 42 (u2 (u2 I 41 1 0) 41 2 (-1)) J) J))) (itW_some (hp2)) ?_ ?_
  · show WK K 0 0 96 [(0, .ref 41), (1, .ref 1), (2, .int a1), (3, .int ((F_X4_read_w28 a1 I J (0, (FI_X8_begin a1 (FI_X9_clear 42 (u2 (u2 I 41 1 0) 41 2 (-1)) J) J))).1))] [] (eI f ((F_X4_read_w28 a1 I J (0, (FI_X8_begin a1 (FI_X9_clear 42 (u2 (u2 I 41 1 0) 41 2 (-1)) J) J))).2)) (eJ f J) (tR R) n g
    refine w_aload_n ok dX4_read_96 0 rfl ?_
    show WK K 0 0 97 [(0, .ref 41), (1, .ref 1), (2, .int a1), (3, .int (S2_X4_read a1 I J))] [.ref 41] (eI f (S1_X4_read a1 I J)) (eJ f J) (tR R) n g
    refine w_getR ok dX4_read_97 (fX4_12 rfl) (congrArg Prod.fst s_41) rfl (r_41_0 ro) (ltK hnn (by decide)) ?_
    refine w_cV (As := []) ok dX4_read_100 iX9_settle (lX4_68 rfl) (rcv cls9 (congrArg Prod.fst s_42)) (ltK hnn (by decide)) (c_X9_settle ro hnn hf  isTo_42) (by decide) rfl (Nat.le_of_ble_eq_true rfl) ?_
    refine w_aload_n ok dX4_read_103 0 rfl ?_
    refine y_getI ok dX4_read_104 (fX4_18 rfl) (congrArg Prod.fst s_41) rfl (ltK hnn (by decide)) (sdc hf (by decide)) ?_
    refine w_if_ne (tgt := 114) ok dX4_read_107 (by decide) (fun c1 => ?_) (fun c1 => ?_)
    · skip
      refine w_iconst (v := 0) ok dX4_read_114 (by decide) ?_
      exact w_zret ok fin dX4_read_115 rfl (by decide) (by unfold F_X4_read FI_X4_read; simp only [if_neg c1]; exact Pd.i)
    · skip
      refine w_iconst (v := 1) ok dX4_read_110 (by decide) ?_
      refine w_goto (tgt := 115) ok dX4_read_111 (by decide) ?_
      exact w_zret ok fin dX4_read_115 rfl (by decide) (by unfold F_X4_read FI_X4_read; simp only [if_pos c1]; exact Pd.i)
  · intro n28 s28 hs28 kc28 kx28
    show WK K 0 0 28 [(0, .ref 41), (1, .ref 1), (2, .int a1), (3, .int s28.1)] [] (eI f s28.2) (eJ f J) (tR R) n g
    refine w_iload_n ok dX4_read_28 3 rfl ?_
    refine w_iload_n ok dX4_read_29 2 rfl ?_
    refine w_icmp_gt (tgt := 96) ok dX4_read_30 (by decide) (fun c2 => ?_) (fun c2 => ?_)
    · skip
      have eB : B_X4_read_w28 a1 I J s28 = .inr (s28.1, s28.2) := by
        unfold B_X4_read_w28; exact (if_pos c2).trans (rfl)
      refine w_loc [0, 1, 2, 3] rfl ?_
      have kk := kx28 _ eB
      exact kk
    · skip
      refine w_aload_n ok dX4_read_33 0 rfl ?_
      refine y_getI ok dX4_read_34 (fX4_18 rfl) (congrArg Prod.fst s_41) rfl (ltK hnn (by decide)) (sdc hf (by decide)) ?_
      refine w_if_ne (tgt := 96) ok dX4_read_37 (by decide) (fun c3 => ?_) (fun c3 => ?_)
      · skip
        have eB : B_X4_read_w28 a1 I J s28 = .inr (s28.1, s28.2) := by
          unfold B_X4_read_w28; exact (if_neg c2).trans ((if_neg c3).trans (rfl))
        refine w_loc [0, 1, 2, 3] rfl ?_
        have kk := kx28 _ eB
        exact kk
      · skip
        refine w_aload_n ok dX4_read_40 0 rfl ?_
        refine w_getR ok dX4_read_41 (fX4_28 rfl) (congrArg Prod.fst s_41) rfl (r_41_3 ro) (ltK hnn (by decide)) ?_
        refine y_getI ok dX4_read_44 (fX4_52 rfl) (congrArg Prod.fst s_81) rfl (ltK hnn (by decide)) (sdc hf (by decide)) ?_
        refine w_if_eq (tgt := 96) ok dX4_read_47 (by decide) (fun c4 => ?_) (fun c4 => ?_)
        · skip
          have eB : B_X4_read_w28 a1 I J s28 = .inr (s28.1, s28.2) := by
            unfold B_X4_read_w28; exact (if_neg c2).trans ((if_pos c3).trans ((if_pos c4).trans (rfl)))
          refine w_loc [0, 1, 2, 3] rfl ?_
          have kk := kx28 _ eB
          exact kk
        · skip
          refine w_aload_n ok dX4_read_50 0 rfl ?_
          refine w_cV (As := []) ok dX4_read_51 iX4_line (lX4_55 rfl) (rcv cls4 (congrArg Prod.fst s_41)) (ltK hnn (by decide)) (c_X4_line ro hnn hf  htp (hp3 n28 s28 hs28 c2 c3 c4)) (by decide) rfl (Nat.le_of_ble_eq_true rfl) ?_
          refine w_aload_n ok dX4_read_54 0 rfl ?_
          refine w_getR ok dX4_read_55 (fX4_28 rfl) (congrArg Prod.fst s_41) rfl (r_41_3 ro) (ltK hnn (by decide)) ?_
          refine y_getI ok dX4_read_58 (fX4_52 rfl) (congrArg Prod.fst s_81) rfl (ltK hnn (by decide)) (sdc hf (by decide)) ?_
          refine w_iconst (v := 4) ok dX4_read_61 (by decide) ?_
          have jn5 : WK K 0 0 70 [(0, .ref 41), (1, .ref 1), (2, .int a1), (3, .int s28.1)] [] (eI f (T_X4_read_j70 a1 I J s28)) (eJ f J) (tR R) n g := by
            refine w_aload_n ok dX4_read_70 0 rfl ?_
            refine w_getR ok dX4_read_71 (fX4_12 rfl) (congrArg Prod.fst s_41) rfl (r_41_0 ro) (ltK hnn (by decide)) ?_
            refine w_dup ok dX4_read_74 rfl ?_
            refine y_getI ok dX4_read_75 (fX4_62 rfl) (congrArg Prod.fst s_42) rfl (ltK hnn (by decide)) (sdc hf (by decide)) ?_
            refine w_iconst (v := 1) ok dX4_read_78 (by decide) ?_
            refine w_iadd ok dX4_read_79 ?_
            refine y_putI ok dX4_read_80 (fwX4_62 rfl) (congrArg Prod.fst s_42) rfl (ltK hnn (by decide)) (sdc hf (by decide)) ?_
            show WK K 0 0 83 [(0, .ref 41), (1, .ref 1), (2, .int a1), (3, .int s28.1)] [] (eI f (S3_X4_read a1 I J s28)) (eJ f J) (tR R) n g
            refine w_aload_n ok dX4_read_83 0 rfl ?_
            refine w_getR ok dX4_read_84 (fX4_28 rfl) (congrArg Prod.fst s_41) rfl (r_41_3 ro) (ltK hnn (by decide)) ?_
            refine w_cV (As := []) ok dX4_read_87 iX8_step (lX4_65 rfl) (rcv cls8 (congrArg Prod.fst s_81)) (ltK hnn (by decide)) (c_X8_step ro hnn hf  htp (hp4 n28 s28 hs28 c2 c3 c4)) (by decide) rfl (Nat.le_of_ble_eq_true rfl) ?_
            refine w_iinc (v := s28.1 + 1) ok dX4_read_90 3 rfl rfl (by decide) rfl ?_
            refine w_goto (tgt := 28) ok dX4_read_93 (by decide) ?_
            have eB : B_X4_read_w28 a1 I J s28 = .inl ((s28.1 + 1), (FI_X8_step  (S3_X4_read a1 I J s28) J)) := by
              unfold B_X4_read_w28; exact (if_neg c2).trans ((if_pos c3).trans ((if_neg c4).trans (rfl)))
            refine w_loc [1, 2, 3, 0] rfl ?_
            have kk := kc28 _ eB
            exact kk
          refine w_icmp_eq (tgt := 70) ok dX4_read_62 (by decide) (fun c6 => ?_) (fun c6 => ?_)
          · skip
            have eT : (T_X4_read_j70 a1 I J s28) = (FI_X4_line  s28.2 J) := by
              unfold T_X4_read_j70; exact (if_pos c6).trans (rfl)
            refine w_loc [0, 1, 2, 3] rfl ?_
            have jj := jn5
            rw [eT] at jj
            exact jj
          · skip
            refine w_aload_n ok dX4_read_65 0 rfl ?_
            refine w_iconst (v := 1) ok dX4_read_66 (by decide) ?_
            refine w_cV (As := [.int 1]) ok dX4_read_67 iX4_fail (lX4_58 rfl) (rcv cls4 (congrArg Prod.fst s_41)) (ltK hnn (by decide)) (c_X4_fail ro hnn hf 1 ) (by decide) rfl (Nat.le_of_ble_eq_true rfl) ?_
            have eT : (T_X4_read_j70 a1 I J s28) = (FI_X4_fail 1 (FI_X4_line  s28.2 J) J) := by
              unfold T_X4_read_j70; exact (if_neg c6).trans (rfl)
            refine w_loc [0, 1, 2, 3] rfl ?_
            have jj := jn5
            rw [eT] at jj
            exact jj
