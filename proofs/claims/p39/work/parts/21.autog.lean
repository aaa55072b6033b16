/-! printed by wip/whole/gen_c.py: contracts by program -/
def F_X8_signAt (a0 : Int32) (I : SI) (J : SJ) : Int32 := if a0 < 0 then -1 else (if (I 81 2) ≤ a0 then -1 else (if (700 : Int32) ≤ a0 then -1 else (I 1 a0.toNatClampNeg) &&& 255))
set_option maxHeartbeats 1000000 in
set_option maxRecDepth 40000 in
theorem c_X8_signAt {I : SI} {J : SJ} {R : SR} {n g : Nat} {f : Fr} (ro : RO R) (hnn : nK ≤ n) (hf : f.1 = true) (a0 : Int32) (htp : R 81 1 = some 1)   : MM 0 0 0 mX8_signAt [.ref 81, .int a0] (eI f I) (eJ f J) R n g (Pd (some (.int (F_X8_signAt a0 I J))) (eI f I) (eJ f J) R n g) := by
  refine MM.of (by decide) (Nat.le_of_ble_eq_true rfl) fun K ok fin => ?_
  show WK K 0 0 0 [(0, .ref 81), (1, .int a0)] [] (eI f I) (eJ f J) R n g
  refine w_iload_n ok dX8_signAt_0 1 rfl ?_
  refine w_if_lt (tgt := 34) ok dX8_signAt_1 (by decide) (fun c1 => ?_) (fun c1 => ?_)
  · skip
    refine w_iconst (v := (-1)) ok dX8_signAt_34 (by decide) ?_
    exact w_iret ok fin dX8_signAt_35 rfl (by unfold F_X8_signAt; simp only [if_pos c1]; exact Pd.i)
  · skip
    refine w_iload_n ok dX8_signAt_4 1 rfl ?_
    refine w_aload_n ok dX8_signAt_5 0 rfl ?_
    refine y_getI ok dX8_signAt_6 (fX8_19 rfl) (congrArg Prod.fst s_81) rfl (ltK hnn (by decide)) (sdc hf (by decide)) ?_
    refine w_icmp_ge (tgt := 34) ok dX8_signAt_9 (by decide) (fun c2 => ?_) (fun c2 => ?_)
    · skip
      refine w_iconst (v := (-1)) ok dX8_signAt_34 (by decide) ?_
      exact w_iret ok fin dX8_signAt_35 rfl (by unfold F_X8_signAt; simp only [if_neg c1]; simp only [if_pos c2]; exact Pd.i)
    · skip
      refine w_iload_n ok dX8_signAt_12 1 rfl ?_
      refine w_aload_n ok dX8_signAt_13 0 rfl ?_
      refine w_getR ok dX8_signAt_14 (fX8_15 rfl) (congrArg Prod.fst s_81) rfl htp (ltK hnn (by decide)) ?_
      refine w_alen (v := 700) ok dX8_signAt_17 s_1 (by decide) (by decide) (ltK hnn (by decide)) ?_
      refine w_icmp_ge (tgt := 34) ok dX8_signAt_18 (by decide) (fun c3 => ?_) (fun c3 => ?_)
      · skip
        refine w_iconst (v := (-1)) ok dX8_signAt_34 (by decide) ?_
        exact w_iret ok fin dX8_signAt_35 rfl (by unfold F_X8_signAt; simp only [if_neg c1]; simp only [if_neg c2]; simp only [if_pos c3]; exact Pd.i)
      · skip
        refine w_aload_n ok dX8_signAt_21 0 rfl ?_
        refine w_getR ok dX8_signAt_22 (fX8_15 rfl) (congrArg Prod.fst s_81) rfl htp (ltK hnn (by decide)) ?_
        refine w_iload_n ok dX8_signAt_25 1 rfl ?_
        refine y_bald (q := a0.toNatClampNeg) ok dX8_signAt_26 s_1 (in_of c1 (show ¬ (nI 700 ≤ _) from c3) (sh_len s_1)) (by decide) (ltK hnn (by decide)) (sdc hf (by decide)) ?_
        refine w_sipush (v := 255) ok dX8_signAt_27 (by decide) ?_
        refine w_iand ok dX8_signAt_30 ?_
        refine w_goto (tgt := 35) ok dX8_signAt_31 (by decide) ?_
        exact w_iret ok fin dX8_signAt_35 rfl (by unfold F_X8_signAt; simp only [if_neg c1]; simp only [if_neg c2]; simp only [if_neg c3]; exact Pd.i)
def S4_X8_word (I : SI) (J : SJ) (s16 : Int32 × Int32 × SI) : SI := u2 s16.2.2 81 6 ((s16.2.2 81 6) ||| (F_X8_packed s16.2.1 s16.1 s16.2.2 J))
def S5_X8_word (I : SI) (J : SJ) (s16 : Int32 × Int32 × SI) : Int32 := F_X8_signAt ((u2 (S4_X8_word I J s16) 81 3 ((((S4_X8_word I J s16)) 81 3) + 1)) 81 3) (u2 (S4_X8_word I J s16) 81 3 ((((S4_X8_word I J s16)) 81 3) + 1)) J
def B_X8_word_w16 (I : SI) (J : SJ) (s16 : Int32 × Int32 × SI) : (Int32 × Int32 × SI) ⊕ (Int32 × Int32 × SI) := if (s16.2.2 81 2) ≤ (s16.2.2 81 3) then .inr (s16.1, s16.2.1, s16.2.2) else (if (F_X8_isLetter s16.2.1 s16.2.2 J) = 0 then .inr (s16.1, s16.2.1, s16.2.2) else .inl ((s16.1 + 1), (S5_X8_word I J s16), (u2 (S4_X8_word I J s16) 81 3 ((((S4_X8_word I J s16)) 81 3) + 1))))
def F_X8_word_w16 (I : SI) (J : SJ) (s0 : Int32 × Int32 × SI) : Int32 × Int32 × SI := (itW (B_X8_word_w16 I J) 800 s0).getD s0
def S1_X8_word (I : SI) (J : SJ) : SI := (F_X8_word_w16 I J (0, (F_X8_signAt ((u2 I 81 6 0) 81 3) (u2 I 81 6 0) J), (u2 I 81 6 0))).2.2
def S2_X8_word (I : SI) (J : SJ) : Int32 := (F_X8_word_w16 I J (0, (F_X8_signAt ((u2 I 81 6 0) 81 3) (u2 I 81 6 0) J), (u2 I 81 6 0))).1
def S3_X8_word (I : SI) (J : SJ) : Int32 := (F_X8_word_w16 I J (0, (F_X8_signAt ((u2 I 81 6 0) 81 3) (u2 I 81 6 0) J), (u2 I 81 6 0))).2.1
def T_X8_word_j85 (I : SI) (J : SJ) : Int32 := if (S2_X8_word I J) ≤ 6 then 3 else 1
def B_X8_word_w90 (I : SI) (J : SJ) (s90 : Int32 × SI) : (Int32 × SI) ⊕ (Int32 × SI) := if (23 : Int32) ≤ s90.1 then .inr (s90.1, s90.2) else (if (s90.2 81 5) = 3 then (if (s90.2 82 s90.1.toNatClampNeg) = (s90.2 81 6) then .inl ((s90.1 + 1), (u2 s90.2 81 5 ((20 : Int32) + s90.1))) else .inl ((s90.1 + 1), (u2 s90.2 81 5 3))) else .inr (s90.1, s90.2))
def F_X8_word_w90 (I : SI) (J : SJ) (s0 : Int32 × SI) : Int32 × SI := (itW (B_X8_word_w90 I J) 800 s0).getD s0
def FI_X8_word  (I : SI) (J : SJ) : SI := (F_X8_word_w90 I J (0, (u2 (S1_X8_word I J) 81 5 (T_X8_word_j85 I J)))).2
def H_X8_word  (I : SI) (J : SJ) : Prop := ((itW (B_X8_word_w16 I J) 800 (0, (F_X8_signAt ((u2 I 81 6 0) 81 3) (u2 I 81 6 0) J), (u2 I 81 6 0))).isSome = true) ∧ ((itW (B_X8_word_w90 I J) 800 (0, (u2 (S1_X8_word I J) 81 5 (T_X8_word_j85 I J)))).isSome = true) ∧ (∀ (n90 : Nat) (s90 : Int32 × SI), wN (B_X8_word_w90 I J) n90 (0, (u2 (S1_X8_word I J) 81 5 (T_X8_word_j85 I J))) = some s90 → ¬ ((23 : Int32) ≤ s90.1) → (s90.2 81 5) = 3 → inR s90.1 23)
set_option maxHeartbeats 1530000 in
set_option maxRecDepth 40000 in
theorem c_X8_word {I : SI} {J : SJ} {R : SR} {n g : Nat} {f : Fr} (ro : RO R) (hnn : nK ≤ n) (hf : f.1 = true)  (htp : R 81 1 = some 1)  (hp : H_X8_word  I J) : MM 1 0 0 mX8_word [.ref 81] (eI f I) (eJ f J) R n g (Pd none (eI f (FI_X8_word  I J)) (eJ f J) R n g) := by
  refine MM.of (by decide) (Nat.le_of_ble_eq_true rfl) fun K ok fin => ?_
  show WK K 0 0 0 [(0, .ref 81)] [] (eI f I) (eJ f J) R n g
  obtain ⟨hp1, hp2, hp3⟩ := hp
  refine w_iconst (v := 0) ok dX8_word_0 (by decide) ?_
  refine w_istore_n ok dX8_word_1 rfl (by decide) rfl ?_
  refine w_aload_n ok dX8_word_2 1 rfl ?_
  refine w_iconst (v := 0) ok dX8_word_3 (by decide) ?_
  refine y_putI ok dX8_word_4 (fwX8_33 rfl) (congrArg Prod.fst s_81) rfl (ltK hnn (by decide)) (sdc hf (by decide)) ?_
  refine w_aload_n ok dX8_word_7 1 rfl ?_
  refine w_aload_n ok dX8_word_8 1 rfl ?_
  refine y_getI ok dX8_word_9 (fX8_23 rfl) (congrArg Prod.fst s_81) rfl (ltK hnn (by decide)) (sdc hf (by decide)) ?_
  refine w_cV (As := [.int ((u2 I 81 6 0) 81 3)]) ok dX8_word_12 iX8_signAt (lX8_66 rfl) (rcv cls8 (congrArg Prod.fst s_81)) (ltK hnn (by decide)) (c_X8_signAt ro hnn hf ((u2 I 81 6 0) 81 3) htp) (by decide) rfl (Nat.le_of_ble_eq_true rfl) ?_
  refine w_istore_n ok dX8_word_15 rfl (by decide) rfl ?_
  refine w_loc [2, 1, 0] rfl ?_
  refine loop_w (fun (s16 : Int32 × Int32 × SI) => WK K 0 0 16 [(0, .ref 81), (1, .int s16.1), (2, .int s16.2.1)] [] (eI f s16.2.2) (eJ f J) R n g) (fun (s16 : Int32 × Int32 × SI) => WK K 0 0 73 [(0, .ref 81), (1, .int s16.1), (2, .int s16.2.1)] [] (eI f s16.2.2) (eJ f J) R n g) (B_X8_word_w16 I J) 800 (0, (F_X8_signAt ((u2 I 81 6 0) 81 3) (u2 I 81 6 0) J), (u2 I 81 6 0)) (F_X8_word_w16 I J (0, (F_X8_signAt ((u2 I 81 6 0) 81 3) (u2 I 81 6 0) J), (u2 I 81 6 0))) (itW_some (hp1)) ?_ ?_
  · show WK K 0 0 73 [(0, .ref 81), (1, .int ((F_X8_word_w16 I J (0, (F_X8_signAt ((u2 I 81 6 0) 81 3) (u2 I 81 6 0) J), (u2 I 81 6 0))).1)), (2, .int ((F_X8_word_w16 I J (0, (F_X8_signAt ((u2 I 81 6 0) 81 3) (u2 I 81 6 0) J), (u2 I 81 6 0))).2.1))] [] (eI f ((F_X8_word_w16 I J (0, (F_X8_signAt ((u2 I 81 6 0) 81 3) (u2 I 81 6 0) J), (u2 I 81 6 0))).2.2)) (eJ f J) R n g
    refine w_aload_n ok dX8_word_73 0 rfl ?_
    show WK K 0 0 74 [(0, .ref 81), (1, .int (S2_X8_word I J)), (2, .int (S3_X8_word I J))] [.ref 81] (eI f (S1_X8_word I J)) (eJ f J) R n g
    refine w_iload_n ok dX8_word_74 1 rfl ?_
    refine w_bipush (v := 6) ok dX8_word_75 (by decide) ?_
    have jn1 : WK K 0 0 85 [(0, .ref 81), (1, .int (S2_X8_word I J)), (2, .int (S3_X8_word I J))] [.int (T_X8_word_j85 I J), .ref 81] (eI f (S1_X8_word I J)) (eJ f J) R n g := by
      refine y_putI ok dX8_word_85 (fwX8_30 rfl) (congrArg Prod.fst s_81) rfl (ltK hnn (by decide)) (sdc hf (by decide)) ?_
      refine w_iconst (v := 0) ok dX8_word_88 (by decide) ?_
      refine w_istore_n ok dX8_word_89 rfl (by decide) rfl ?_
      refine w_loc [1, 2, 0] rfl ?_
      refine loop_w (fun (s90 : Int32 × SI) => WK K 0 0 90 [(0, .ref 81), (1, .int (S2_X8_word I J)), (2, .int s90.1)] [] (eI f s90.2) (eJ f J) R n g) (fun (s90 : Int32 × SI) => WK K 0 0 138 [(0, .ref 81), (1, .int (S2_X8_word I J)), (2, .int s90.1)] [] (eI f s90.2) (eJ f J) R n g) (B_X8_word_w90 I J) 800 (0, (u2 (S1_X8_word I J) 81 5 (T_X8_word_j85 I J))) (F_X8_word_w90 I J (0, (u2 (S1_X8_word I J) 81 5 (T_X8_word_j85 I J)))) (itW_some (hp2)) ?_ ?_
      · show WK K 0 0 138 [(0, .ref 81), (1, .int (S2_X8_word I J)), (2, .int ((F_X8_word_w90 I J (0, (u2 (S1_X8_word I J) 81 5 (T_X8_word_j85 I J)))).1))] [] (eI f ((F_X8_word_w90 I J (0, (u2 (S1_X8_word I J) 81 5 (T_X8_word_j85 I J)))).2)) (eJ f J) R n g
        exact w_vret ok fin dX8_word_138 rfl (by unfold FI_X8_word; exact Pd.i)
      · intro n90 s90 hs90 kc90 kx90
        show WK K 0 0 90 [(0, .ref 81), (1, .int (S2_X8_word I J)), (2, .int s90.1)] [] (eI f s90.2) (eJ f J) R n g
        refine w_iload_n ok dX8_word_90 2 rfl ?_
        refine w_aload_n ok dX8_word_91 0 rfl ?_
        refine w_getR ok dX8_word_92 (fX8_11 rfl) (congrArg Prod.fst s_81) rfl (r_81_0 ro) (ltK hnn (by decide)) ?_
        refine w_alen (v := 23) ok dX8_word_95 s_82 (by decide) (by decide) (ltK hnn (by decide)) ?_
        refine w_icmp_ge (tgt := 138) ok dX8_word_96 (by decide) (fun c2 => ?_) (fun c2 => ?_)
        · skip
          have eB : B_X8_word_w90 I J s90 = .inr (s90.1, s90.2) := by
            unfold B_X8_word_w90; exact (if_pos c2).trans (rfl)
          refine w_loc [0, 1, 2] rfl ?_
          have kk := kx90 _ eB
          exact kk
        · skip
          refine w_aload_n ok dX8_word_99 0 rfl ?_
          refine y_getI ok dX8_word_100 (fX8_30 rfl) (congrArg Prod.fst s_81) rfl (ltK hnn (by decide)) (sdc hf (by decide)) ?_
          refine w_iconst (v := 3) ok dX8_word_103 (by decide) ?_
          refine w_icmp_ne (tgt := 138) ok dX8_word_104 (by decide) (fun c3 => ?_) (fun c3 => ?_)
          · skip
            have eB : B_X8_word_w90 I J s90 = .inr (s90.1, s90.2) := by
              unfold B_X8_word_w90; exact (if_neg c2).trans ((if_neg c3).trans (rfl))
            refine w_loc [0, 1, 2] rfl ?_
            have kk := kx90 _ eB
            exact kk
          · skip
            refine w_aload_n ok dX8_word_107 0 rfl ?_
            refine w_aload_n ok dX8_word_108 0 rfl ?_
            refine w_getR ok dX8_word_109 (fX8_11 rfl) (congrArg Prod.fst s_81) rfl (r_81_0 ro) (ltK hnn (by decide)) ?_
            refine w_iload_n ok dX8_word_112 2 rfl ?_
            refine y_iald (q := s90.1.toNatClampNeg) ok dX8_word_113 s_82 (hp3 n90 s90 hs90 c2 c3) (by decide) (ltK hnn (by decide)) (sdc hf (by decide)) ?_
            refine w_aload_n ok dX8_word_114 0 rfl ?_
            refine y_getI ok dX8_word_115 (fX8_33 rfl) (congrArg Prod.fst s_81) rfl (ltK hnn (by decide)) (sdc hf (by decide)) ?_
            refine w_icmp_ne (tgt := 128) ok dX8_word_118 (by decide) (fun c4 => ?_) (fun c4 => ?_)
            · skip
              refine w_iconst (v := 3) ok dX8_word_128 (by decide) ?_
              refine y_putI ok dX8_word_129 (fwX8_30 rfl) (congrArg Prod.fst s_81) rfl (ltK hnn (by decide)) (sdc hf (by decide)) ?_
              refine w_iinc (v := s90.1 + 1) ok dX8_word_132 2 rfl rfl (by decide) rfl ?_
              refine w_goto (tgt := 90) ok dX8_word_135 (by decide) ?_
              have eB : B_X8_word_w90 I J s90 = .inl ((s90.1 + 1), (u2 s90.2 81 5 3)) := by
                unfold B_X8_word_w90; exact (if_neg c2).trans ((if_pos c3).trans ((if_neg c4).trans (rfl)))
              refine w_loc [1, 2, 0] rfl ?_
              have kk := kc90 _ eB
              exact kk
            · skip
              refine w_bipush (v := 20) ok dX8_word_121 (by decide) ?_
              refine w_iload_n ok dX8_word_123 2 rfl ?_
              refine w_iadd ok dX8_word_124 ?_
              refine w_goto (tgt := 129) ok dX8_word_125 (by decide) ?_
              refine y_putI ok dX8_word_129 (fwX8_30 rfl) (congrArg Prod.fst s_81) rfl (ltK hnn (by decide)) (sdc hf (by decide)) ?_
              refine w_iinc (v := s90.1 + 1) ok dX8_word_132 2 rfl rfl (by decide) rfl ?_
              refine w_goto (tgt := 90) ok dX8_word_135 (by decide) ?_
              have eB : B_X8_word_w90 I J s90 = .inl ((s90.1 + 1), (u2 s90.2 81 5 ((20 : Int32) + s90.1))) := by
                unfold B_X8_word_w90; exact (if_neg c2).trans ((if_pos c3).trans ((if_pos c4).trans (rfl)))
              refine w_loc [1, 2, 0] rfl ?_
              have kk := kc90 _ eB
              exact kk
    refine w_icmp_le (tgt := 84) ok dX8_word_77 (by decide) (fun c5 => ?_) (fun c5 => ?_)
    · skip
      refine w_iconst (v := 3) ok dX8_word_84 (by decide) ?_
      have eT : (T_X8_word_j85 I J) = 3 := by
        unfold T_X8_word_j85; exact (if_pos c5).trans (rfl)
      refine w_loc [0, 1, 2] rfl ?_
      have jj := jn1
      rw [eT] at jj
      exact jj
    · skip
      refine w_iconst (v := 1) ok dX8_word_80 (by decide) ?_
      refine w_goto (tgt := 85) ok dX8_word_81 (by decide) ?_
      have eT : (T_X8_word_j85 I J) = 1 := by
        unfold T_X8_word_j85; exact (if_neg c5).trans (rfl)
      refine w_loc [0, 1, 2] rfl ?_
      have jj := jn1
      rw [eT] at jj
      exact jj
  · intro n16 s16 hs16 kc16 kx16
    show WK K 0 0 16 [(0, .ref 81), (1, .int s16.1), (2, .int s16.2.1)] [] (eI f s16.2.2) (eJ f J) R n g
    refine w_aload_n ok dX8_word_16 0 rfl ?_
    refine y_getI ok dX8_word_17 (fX8_23 rfl) (congrArg Prod.fst s_81) rfl (ltK hnn (by decide)) (sdc hf (by decide)) ?_
    refine w_aload_n ok dX8_word_20 0 rfl ?_
    refine y_getI ok dX8_word_21 (fX8_19 rfl) (congrArg Prod.fst s_81) rfl (ltK hnn (by decide)) (sdc hf (by decide)) ?_
    refine w_icmp_ge (tgt := 73) ok dX8_word_24 (by decide) (fun c6 => ?_) (fun c6 => ?_)
    · skip
      have eB : B_X8_word_w16 I J s16 = .inr (s16.1, s16.2.1, s16.2.2) := by
        unfold B_X8_word_w16; exact (if_pos c6).trans (rfl)
      refine w_loc [0, 1, 2] rfl ?_
      have kk := kx16 _ eB
      exact kk
    · skip
      refine w_iload_n ok dX8_word_27 2 rfl ?_
      refine w_cS (As := [.int s16.2.1]) ok dX8_word_28 iX8_isLetter (lX8_70 rfl) (c_X8_isLetter ro hnn hf s16.2.1 ) (by decide) rfl (Nat.le_of_ble_eq_true rfl) ?_
      refine w_if_eq (tgt := 73) ok dX8_word_31 (by decide) (fun c7 => ?_) (fun c7 => ?_)
      · skip
        have eB : B_X8_word_w16 I J s16 = .inr (s16.1, s16.2.1, s16.2.2) := by
          unfold B_X8_word_w16; exact (if_neg c6).trans ((if_pos c7).trans (rfl))
        refine w_loc [0, 1, 2] rfl ?_
        have kk := kx16 _ eB
        exact kk
      · skip
        refine w_aload_n ok dX8_word_34 0 rfl ?_
        refine w_dup ok dX8_word_35 rfl ?_
        refine y_getI ok dX8_word_36 (fX8_33 rfl) (congrArg Prod.fst s_81) rfl (ltK hnn (by decide)) (sdc hf (by decide)) ?_
        refine w_iload_n ok dX8_word_39 2 rfl ?_
        refine w_iload_n ok dX8_word_40 1 rfl ?_
        refine w_cS (As := [.int s16.2.1, .int s16.1]) ok dX8_word_41 iX8_packed (lX8_55 rfl) (c_X8_packed ro hnn hf s16.2.1 s16.1 ) (by decide) rfl (Nat.le_of_ble_eq_true rfl) ?_
        show WK K 0 0 44 [(0, .ref 81), (1, .int s16.1), (2, .int s16.2.1)] [.int (F_X8_packed s16.2.1 s16.1 s16.2.2 J), .int (s16.2.2 81 6), .ref 81] (eI f s16.2.2) (eJ f J) R n g
        refine w_ior ok dX8_word_44 ?_
        refine y_putI ok dX8_word_45 (fwX8_33 rfl) (congrArg Prod.fst s_81) rfl (ltK hnn (by decide)) (sdc hf (by decide)) ?_
        show WK K 0 0 48 [(0, .ref 81), (1, .int s16.1), (2, .int s16.2.1)] [] (eI f (S4_X8_word I J s16)) (eJ f J) R n g
        refine w_iinc (v := s16.1 + 1) ok dX8_word_48 1 rfl rfl (by decide) rfl ?_
        refine w_aload_n ok dX8_word_51 1 rfl ?_
        refine w_dup ok dX8_word_52 rfl ?_
        refine y_getI ok dX8_word_53 (fX8_23 rfl) (congrArg Prod.fst s_81) rfl (ltK hnn (by decide)) (sdc hf (by decide)) ?_
        refine w_iconst (v := 1) ok dX8_word_56 (by decide) ?_
        refine w_iadd ok dX8_word_57 ?_
        refine y_putI ok dX8_word_58 (fwX8_23 rfl) (congrArg Prod.fst s_81) rfl (ltK hnn (by decide)) (sdc hf (by decide)) ?_
        refine w_aload_n ok dX8_word_61 1 rfl ?_
        refine w_aload_n ok dX8_word_62 1 rfl ?_
        refine y_getI ok dX8_word_63 (fX8_23 rfl) (congrArg Prod.fst s_81) rfl (ltK hnn (by decide)) (sdc hf (by decide)) ?_
        refine w_cV (As := [.int ((u2 (S4_X8_word I J s16) 81 3 ((((S4_X8_word I J s16)) 81 3) + 1)) 81 3)]) ok dX8_word_66 iX8_signAt (lX8_66 rfl) (rcv cls8 (congrArg Prod.fst s_81)) (ltK hnn (by decide)) (c_X8_signAt ro hnn hf ((u2 (S4_X8_word I J s16) 81 3 ((((S4_X8_word I J s16)) 81 3) + 1)) 81 3) htp) (by decide) rfl (Nat.le_of_ble_eq_true rfl) ?_
        show WK K 0 0 69 [(1, .int (s16.1 + 1)), (0, .ref 81), (2, .int s16.2.1)] [.int (S5_X8_word I J s16)] (eI f (u2 (S4_X8_word I J s16) 81 3 ((((S4_X8_word I J s16)) 81 3) + 1))) (eJ f J) R n g
        refine w_istore_n ok dX8_word_69 rfl (by decide) rfl ?_
        refine w_goto (tgt := 16) ok dX8_word_70 (by decide) ?_
        have eB : B_X8_word_w16 I J s16 = .inl ((s16.1 + 1), (S5_X8_word I J s16), (u2 (S4_X8_word I J s16) 81 3 ((((S4_X8_word I J s16)) 81 3) + 1))) := by
          unfold B_X8_word_w16; exact (if_neg c6).trans ((if_neg c7).trans (rfl))
        refine w_loc [2, 1, 0] rfl ?_
        have kk := kc16 _ eB
        exact kk
def S3_X8_number (I : SI) (J : SJ) (s14 : Int32 × SI) : SI := u2 (u2 s14.2 81 6 (minI ((((s14.2 81 6) * 10) + s14.1) - 48) 1000000)) 81 3 (((u2 s14.2 81 6 (minI ((((s14.2 81 6) * 10) + s14.1) - 48) 1000000)) 81 3) + 1)
def B_X8_number_w14 (I : SI) (J : SJ) (s14 : Int32 × SI) : (Int32 × SI) ⊕ (Int32 × SI) := if (s14.2 81 2) ≤ (s14.2 81 3) then .inr (s14.1, s14.2) else (if (F_X8_isDigit s14.1 s14.2 J) = 0 then .inr (s14.1, s14.2) else .inl ((F_X8_signAt (((S3_X8_number I J s14)) 81 3) (S3_X8_number I J s14) J), (S3_X8_number I J s14)))
def F_X8_number_w14 (I : SI) (J : SJ) (s0 : Int32 × SI) : Int32 × SI := (itW (B_X8_number_w14 I J) 800 s0).getD s0
def S1_X8_number (I : SI) (J : SJ) : SI := (F_X8_number_w14 I J ((F_X8_signAt ((u2 I 81 6 0) 81 3) (u2 I 81 6 0) J), (u2 I 81 6 0))).2
def S2_X8_number (I : SI) (J : SJ) : Int32 := (F_X8_number_w14 I J ((F_X8_signAt ((u2 I 81 6 0) 81 3) (u2 I 81 6 0) J), (u2 I 81 6 0))).1
def FI_X8_number  (I : SI) (J : SJ) : SI := u2 (S1_X8_number I J) 81 5 2
def H_X8_number  (I : SI) (J : SJ) : Prop := ((itW (B_X8_number_w14 I J) 800 ((F_X8_signAt ((u2 I 81 6 0) 81 3) (u2 I 81 6 0) J), (u2 I 81 6 0))).isSome = true)
set_option maxHeartbeats 1000000 in
set_option maxRecDepth 40000 in
theorem c_X8_number {I : SI} {J : SJ} {R : SR} {n g : Nat} {f : Fr} (ro : RO R) (hnn : nK ≤ n) (hf : f.1 = true)  (htp : R 81 1 = some 1)  (hp : H_X8_number  I J) : MM 1 0 0 mX8_number [.ref 81] (eI f I) (eJ f J) R n g (Pd none (eI f (FI_X8_number  I J)) (eJ f J) R n g) := by
  refine MM.of (by decide) (Nat.le_of_ble_eq_true rfl) fun K ok fin => ?_
  show WK K 0 0 0 [(0, .ref 81)] [] (eI f I) (eJ f J) R n g
  have hp1 := hp
  refine w_aload_n ok dX8_number_0 0 rfl ?_
  refine w_iconst (v := 0) ok dX8_number_1 (by decide) ?_
  refine y_putI ok dX8_number_2 (fwX8_33 rfl) (congrArg Prod.fst s_81) rfl (ltK hnn (by decide)) (sdc hf (by decide)) ?_
  refine w_aload_n ok dX8_number_5 0 rfl ?_
  refine w_aload_n ok dX8_number_6 0 rfl ?_
  refine y_getI ok dX8_number_7 (fX8_23 rfl) (congrArg Prod.fst s_81) rfl (ltK hnn (by decide)) (sdc hf (by decide)) ?_
  refine w_cV (As := [.int ((u2 I 81 6 0) 81 3)]) ok dX8_number_10 iX8_signAt (lX8_66 rfl) (rcv cls8 (congrArg Prod.fst s_81)) (ltK hnn (by decide)) (c_X8_signAt ro hnn hf ((u2 I 81 6 0) 81 3) htp) (by decide) rfl (Nat.le_of_ble_eq_true rfl) ?_
  refine w_istore_n ok dX8_number_13 rfl (by decide) rfl ?_
  refine w_loc [1, 0] rfl ?_
  refine loop_w (fun (s14 : Int32 × SI) => WK K 0 0 14 [(0, .ref 81), (1, .int s14.1)] [] (eI f s14.2) (eJ f J) R n g) (fun (s14 : Int32 × SI) => WK K 0 0 75 [(0, .ref 81), (1, .int s14.1)] [] (eI f s14.2) (eJ f J) R n g) (B_X8_number_w14 I J) 800 ((F_X8_signAt ((u2 I 81 6 0) 81 3) (u2 I 81 6 0) J), (u2 I 81 6 0)) (F_X8_number_w14 I J ((F_X8_signAt ((u2 I 81 6 0) 81 3) (u2 I 81 6 0) J), (u2 I 81 6 0))) (itW_some (hp1)) ?_ ?_
  · show WK K 0 0 75 [(0, .ref 81), (1, .int ((F_X8_number_w14 I J ((F_X8_signAt ((u2 I 81 6 0) 81 3) (u2 I 81 6 0) J), (u2 I 81 6 0))).1))] [] (eI f ((F_X8_number_w14 I J ((F_X8_signAt ((u2 I 81 6 0) 81 3) (u2 I 81 6 0) J), (u2 I 81 6 0))).2)) (eJ f J) R n g
    refine w_aload_n ok dX8_number_75 0 rfl ?_
    show WK K 0 0 76 [(0, .ref 81), (1, .int (S2_X8_number I J))] [.ref 81] (eI f (S1_X8_number I J)) (eJ f J) R n g
    refine w_iconst (v := 2) ok dX8_number_76 (by decide) ?_
    refine y_putI ok dX8_number_77 (fwX8_30 rfl) (congrArg Prod.fst s_81) rfl (ltK hnn (by decide)) (sdc hf (by decide)) ?_
    exact w_vret ok fin dX8_number_80 rfl (by unfold FI_X8_number; exact Pd.i)
  · intro n14 s14 hs14 kc14 kx14
    show WK K 0 0 14 [(0, .ref 81), (1, .int s14.1)] [] (eI f s14.2) (eJ f J) R n g
    refine w_aload_n ok dX8_number_14 0 rfl ?_
    refine y_getI ok dX8_number_15 (fX8_23 rfl) (congrArg Prod.fst s_81) rfl (ltK hnn (by decide)) (sdc hf (by decide)) ?_
    refine w_aload_n ok dX8_number_18 0 rfl ?_
    refine y_getI ok dX8_number_19 (fX8_19 rfl) (congrArg Prod.fst s_81) rfl (ltK hnn (by decide)) (sdc hf (by decide)) ?_
    refine w_icmp_ge (tgt := 75) ok dX8_number_22 (by decide) (fun c1 => ?_) (fun c1 => ?_)
    · skip
      have eB : B_X8_number_w14 I J s14 = .inr (s14.1, s14.2) := by
        unfold B_X8_number_w14; exact (if_pos c1).trans (rfl)
      refine w_loc [0, 1] rfl ?_
      have kk := kx14 _ eB
      exact kk
    · skip
      refine w_iload_n ok dX8_number_25 1 rfl ?_
      refine w_cS (As := [.int s14.1]) ok dX8_number_26 iX8_isDigit (lX8_77 rfl) (c_X8_isDigit ro hnn hf s14.1 ) (by decide) rfl (Nat.le_of_ble_eq_true rfl) ?_
      refine w_if_eq (tgt := 75) ok dX8_number_29 (by decide) (fun c2 => ?_) (fun c2 => ?_)
      · skip
        have eB : B_X8_number_w14 I J s14 = .inr (s14.1, s14.2) := by
          unfold B_X8_number_w14; exact (if_neg c1).trans ((if_pos c2).trans (rfl))
        refine w_loc [0, 1] rfl ?_
        have kk := kx14 _ eB
        exact kk
      · skip
        refine w_aload_n ok dX8_number_32 0 rfl ?_
        refine w_aload_n ok dX8_number_33 0 rfl ?_
        refine y_getI ok dX8_number_34 (fX8_33 rfl) (congrArg Prod.fst s_81) rfl (ltK hnn (by decide)) (sdc hf (by decide)) ?_
        refine w_bipush (v := 10) ok dX8_number_37 (by decide) ?_
        refine w_imul ok dX8_number_39 ?_
        refine w_iload_n ok dX8_number_40 1 rfl ?_
        refine w_iadd ok dX8_number_41 ?_
        refine w_bipush (v := 48) ok dX8_number_42 (by decide) ?_
        refine w_isub ok dX8_number_44 ?_
        refine w_ldc ok dX8_number_45 kX8_89 ?_
        refine w_minI ok dX8_number_47 (iT_3 160 (by decide +kernel) (by decide +kernel)) (Nat.le_of_ble_eq_true rfl) ?_
        show WK K 0 0 50 [(0, .ref 81), (1, .int s14.1)] [.int (minI ((((s14.2 81 6) * 10) + s14.1) - 48) 1000000), .ref 81] (eI f s14.2) (eJ f J) R n g
        refine y_putI ok dX8_number_50 (fwX8_33 rfl) (congrArg Prod.fst s_81) rfl (ltK hnn (by decide)) (sdc hf (by decide)) ?_
        refine w_aload_n ok dX8_number_53 0 rfl ?_
        refine w_dup ok dX8_number_54 rfl ?_
        refine y_getI ok dX8_number_55 (fX8_23 rfl) (congrArg Prod.fst s_81) rfl (ltK hnn (by decide)) (sdc hf (by decide)) ?_
        refine w_iconst (v := 1) ok dX8_number_58 (by decide) ?_
        refine w_iadd ok dX8_number_59 ?_
        refine y_putI ok dX8_number_60 (fwX8_23 rfl) (congrArg Prod.fst s_81) rfl (ltK hnn (by decide)) (sdc hf (by decide)) ?_
        show WK K 0 0 63 [(0, .ref 81), (1, .int s14.1)] [] (eI f (S3_X8_number I J s14)) (eJ f J) R n g
        refine w_aload_n ok dX8_number_63 0 rfl ?_
        refine w_aload_n ok dX8_number_64 0 rfl ?_
        refine y_getI ok dX8_number_65 (fX8_23 rfl) (congrArg Prod.fst s_81) rfl (ltK hnn (by decide)) (sdc hf (by decide)) ?_
        refine w_cV (As := [.int (((S3_X8_number I J s14)) 81 3)]) ok dX8_number_68 iX8_signAt (lX8_66 rfl) (rcv cls8 (congrArg Prod.fst s_81)) (ltK hnn (by decide)) (c_X8_signAt ro hnn hf (((S3_X8_number I J s14)) 81 3) htp) (by decide) rfl (Nat.le_of_ble_eq_true rfl) ?_
        refine w_istore_n ok dX8_number_71 rfl (by decide) rfl ?_
        refine w_goto (tgt := 14) ok dX8_number_72 (by decide) ?_
        have eB : B_X8_number_w14 I J s14 = .inl ((F_X8_signAt (((S3_X8_number I J s14)) 81 3) (S3_X8_number I J s14) J), (S3_X8_number I J s14)) := by
          unfold B_X8_number_w14; exact (if_neg c1).trans ((if_neg c2).trans (rfl))
        refine w_loc [1, 0] rfl ?_
        have kk := kc14 _ eB
        exact kk
def F_X8_kindOf (a0 : Int32) (a1 : Int32) (I : SI) (J : SJ) : Int32 := if a0 = 40 then 5 else (if a0 = 41 then 6 else (if a0 = 42 then 9 else (if a0 = 43 then 7 else (if a0 = 44 then 1 else (if a0 = 45 then 8 else (if a0 = 46 then 1 else (if a0 = 47 then 10 else (if a0 = 48 then 1 else (if a0 = 49 then 1 else (if a0 = 50 then 1 else (if a0 = 51 then 1 else (if a0 = 52 then 1 else (if a0 = 53 then 1 else (if a0 = 54 then 1 else (if a0 = 55 then 1 else (if a0 = 56 then 1 else (if a0 = 57 then 1 else (if a0 = 58 then 1 else (if a0 = 59 then 4 else (if a0 = 60 then (if a1 = 61 then 12 else (if a1 = 62 then 14 else 11)) else (if a0 = 61 then 13 else (if a0 = 62 then (if a1 = 61 then 15 else 16) else 1))))))))))))))))))))))
set_option maxHeartbeats 1890000 in
set_option maxRecDepth 40000 in
theorem c_X8_kindOf {I : SI} {J : SJ} {R : SR} {n g : Nat} {f : Fr} (ro : RO R) (hnn : nK ≤ n) (hf : f.1 = true) (a0 : Int32) (a1 : Int32)   : MM 0 0 0 mX8_kindOf [.int a0, .int a1] (eI f I) (eJ f J) R n g (Pd (some (.int (F_X8_kindOf a0 a1 I J))) (eI f I) (eJ f J) R n g) := by
  refine MM.of (by decide) (Nat.le_of_ble_eq_true rfl) fun K ok fin => ?_
  show WK K 0 0 0 [(0, .int a0), (1, .int a1)] [] (eI f I) (eJ f J) R n g
  refine w_iload_n ok dX8_kindOf_0 0 rfl ?_
  by_cases c1 : a0 = 40
  · skip
    refine w_tabIn (tgt := 110) (off := 109) ok dX8_kindOf_1 (by rw [c1]; decide) (by rw [c1]; decide) (by rw [c1]; rfl) (by decide) ?_
    refine w_iconst (v := 5) ok dX8_kindOf_110 (by decide) ?_
    exact w_iret ok fin dX8_kindOf_111 rfl (by unfold F_X8_kindOf; simp only [if_pos c1]; exact Pd.i)
  · skip
    by_cases c2 : a0 = 41
    · skip
      refine w_tabIn (tgt := 112) (off := 111) ok dX8_kindOf_1 (by rw [c2]; decide) (by rw [c2]; decide) (by rw [c2]; rfl) (by decide) ?_
      refine w_bipush (v := 6) ok dX8_kindOf_112 (by decide) ?_
      exact w_iret ok fin dX8_kindOf_114 rfl (by unfold F_X8_kindOf; simp only [if_neg c1]; simp only [if_pos c2]; exact Pd.i)
    · skip
      by_cases c3 : a0 = 42
      · skip
        refine w_tabIn (tgt := 121) (off := 120) ok dX8_kindOf_1 (by rw [c3]; decide) (by rw [c3]; decide) (by rw [c3]; rfl) (by decide) ?_
        refine w_bipush (v := 9) ok dX8_kindOf_121 (by decide) ?_
        exact w_iret ok fin dX8_kindOf_123 rfl (by unfold F_X8_kindOf; simp only [if_neg c1]; simp only [if_neg c2]; simp only [if_pos c3]; exact Pd.i)
      · skip
        by_cases c4 : a0 = 43
        · skip
          refine w_tabIn (tgt := 115) (off := 114) ok dX8_kindOf_1 (by rw [c4]; decide) (by rw [c4]; decide) (by rw [c4]; rfl) (by decide) ?_
          refine w_bipush (v := 7) ok dX8_kindOf_115 (by decide) ?_
          exact w_iret ok fin dX8_kindOf_117 rfl (by unfold F_X8_kindOf; simp only [if_neg c1]; simp only [if_neg c2]; simp only [if_neg c3]; simp only [if_pos c4]; exact Pd.i)
        · skip
          by_cases c5 : a0 = 44
          · skip
            refine w_tabIn (tgt := 169) (off := 168) ok dX8_kindOf_1 (by rw [c5]; decide) (by rw [c5]; decide) (by rw [c5]; rfl) (by decide) ?_
            refine w_iconst (v := 1) ok dX8_kindOf_169 (by decide) ?_
            exact w_iret ok fin dX8_kindOf_170 rfl (by unfold F_X8_kindOf; simp only [if_neg c1]; simp only [if_neg c2]; simp only [if_neg c3]; simp only [if_neg c4]; simp only [if_pos c5]; exact Pd.i)
          · skip
            by_cases c6 : a0 = 45
            · skip
              refine w_tabIn (tgt := 118) (off := 117) ok dX8_kindOf_1 (by rw [c6]; decide) (by rw [c6]; decide) (by rw [c6]; rfl) (by decide) ?_
              refine w_bipush (v := 8) ok dX8_kindOf_118 (by decide) ?_
              exact w_iret ok fin dX8_kindOf_120 rfl (by unfold F_X8_kindOf; simp only [if_neg c1]; simp only [if_neg c2]; simp only [if_neg c3]; simp only [if_neg c4]; simp only [if_neg c5]; simp only [if_pos c6]; exact Pd.i)
            · skip
              by_cases c7 : a0 = 46
              · skip
                refine w_tabIn (tgt := 169) (off := 168) ok dX8_kindOf_1 (by rw [c7]; decide) (by rw [c7]; decide) (by rw [c7]; rfl) (by decide) ?_
                refine w_iconst (v := 1) ok dX8_kindOf_169 (by decide) ?_
                exact w_iret ok fin dX8_kindOf_170 rfl (by unfold F_X8_kindOf; simp only [if_neg c1]; simp only [if_neg c2]; simp only [if_neg c3]; simp only [if_neg c4]; simp only [if_neg c5]; simp only [if_neg c6]; simp only [if_pos c7]; exact Pd.i)
              · skip
                by_cases c8 : a0 = 47
                · skip
                  refine w_tabIn (tgt := 124) (off := 123) ok dX8_kindOf_1 (by rw [c8]; decide) (by rw [c8]; decide) (by rw [c8]; rfl) (by decide) ?_
                  refine w_bipush (v := 10) ok dX8_kindOf_124 (by decide) ?_
                  exact w_iret ok fin dX8_kindOf_126 rfl (by unfold F_X8_kindOf; simp only [if_neg c1]; simp only [if_neg c2]; simp only [if_neg c3]; simp only [if_neg c4]; simp only [if_neg c5]; simp only [if_neg c6]; simp only [if_neg c7]; simp only [if_pos c8]; exact Pd.i)
                · skip
                  by_cases c9 : a0 = 48
                  · skip
                    refine w_tabIn (tgt := 169) (off := 168) ok dX8_kindOf_1 (by rw [c9]; decide) (by rw [c9]; decide) (by rw [c9]; rfl) (by decide) ?_
                    refine w_iconst (v := 1) ok dX8_kindOf_169 (by decide) ?_
                    exact w_iret ok fin dX8_kindOf_170 rfl (by unfold F_X8_kindOf; simp only [if_neg c1]; simp only [if_neg c2]; simp only [if_neg c3]; simp only [if_neg c4]; simp only [if_neg c5]; simp only [if_neg c6]; simp only [if_neg c7]; simp only [if_neg c8]; simp only [if_pos c9]; exact Pd.i)
                  · skip
                    by_cases c10 : a0 = 49
                    · skip
                      refine w_tabIn (tgt := 169) (off := 168) ok dX8_kindOf_1 (by rw [c10]; decide) (by rw [c10]; decide) (by rw [c10]; rfl) (by decide) ?_
                      refine w_iconst (v := 1) ok dX8_kindOf_169 (by decide) ?_
                      exact w_iret ok fin dX8_kindOf_170 rfl (by unfold F_X8_kindOf; simp only [if_neg c1]; simp only [if_neg c2]; simp only [if_neg c3]; simp only [if_neg c4]; simp only [if_neg c5]; simp only [if_neg c6]; simp only [if_neg c7]; simp only [if_neg c8]; simp only [if_neg c9]; simp only [if_pos c10]; exact Pd.i)
                    · skip
                      by_cases c11 : a0 = 50
                      · skip
                        refine w_tabIn (tgt := 169) (off := 168) ok dX8_kindOf_1 (by rw [c11]; decide) (by rw [c11]; decide) (by rw [c11]; rfl) (by decide) ?_
                        refine w_iconst (v := 1) ok dX8_kindOf_169 (by decide) ?_
                        exact w_iret ok fin dX8_kindOf_170 rfl (by unfold F_X8_kindOf; simp only [if_neg c1]; simp only [if_neg c2]; simp only [if_neg c3]; simp only [if_neg c4]; simp only [if_neg c5]; simp only [if_neg c6]; simp only [if_neg c7]; simp only [if_neg c8]; simp only [if_neg c9]; simp only [if_neg c10]; simp only [if_pos c11]; exact Pd.i)
                      · skip
                        by_cases c12 : a0 = 51
                        · skip
                          refine w_tabIn (tgt := 169) (off := 168) ok dX8_kindOf_1 (by rw [c12]; decide) (by rw [c12]; decide) (by rw [c12]; rfl) (by decide) ?_
                          refine w_iconst (v := 1) ok dX8_kindOf_169 (by decide) ?_
                          exact w_iret ok fin dX8_kindOf_170 rfl (by unfold F_X8_kindOf; simp only [if_neg c1]; simp only [if_neg c2]; simp only [if_neg c3]; simp only [if_neg c4]; simp only [if_neg c5]; simp only [if_neg c6]; simp only [if_neg c7]; simp only [if_neg c8]; simp only [if_neg c9]; simp only [if_neg c10]; simp only [if_neg c11]; simp only [if_pos c12]; exact Pd.i)
                        · skip
                          by_cases c13 : a0 = 52
                          · skip
                            refine w_tabIn (tgt := 169) (off := 168) ok dX8_kindOf_1 (by rw [c13]; decide) (by rw [c13]; decide) (by rw [c13]; rfl) (by decide) ?_
                            refine w_iconst (v := 1) ok dX8_kindOf_169 (by decide) ?_
                            exact w_iret ok fin dX8_kindOf_170 rfl (by unfold F_X8_kindOf; simp only [if_neg c1]; simp only [if_neg c2]; simp only [if_neg c3]; simp only [if_neg c4]; simp only [if_neg c5]; simp only [if_neg c6]; simp only [if_neg c7]; simp only [if_neg c8]; simp only [if_neg c9]; simp only [if_neg c10]; simp only [if_neg c11]; simp only [if_neg c12]; simp only [if_pos c13]; exact Pd.i)
                          · skip
                            by_cases c14 : a0 = 53
                            · skip
                              refine w_tabIn (tgt := 169) (off := 168) ok dX8_kindOf_1 (by rw [c14]; decide) (by rw [c14]; decide) (by rw [c14]; rfl) (by decide) ?_
                              refine w_iconst (v := 1) ok dX8_kindOf_169 (by decide) ?_
                              exact w_iret ok fin dX8_kindOf_170 rfl (by unfold F_X8_kindOf; simp only [if_neg c1]; simp only [if_neg c2]; simp only [if_neg c3]; simp only [if_neg c4]; simp only [if_neg c5]; simp only [if_neg c6]; simp only [if_neg c7]; simp only [if_neg c8]; simp only [if_neg c9]; simp only [if_neg c10]; simp only [if_neg c11]; simp only [if_neg c12]; simp only [if_neg c13]; simp only [if_pos c14]; exact Pd.i)
                            · skip
                              by_cases c15 : a0 = 54
                              · skip
                                refine w_tabIn (tgt := 169) (off := 168) ok dX8_kindOf_1 (by rw [c15]; decide) (by rw [c15]; decide) (by rw [c15]; rfl) (by decide) ?_
                                refine w_iconst (v := 1) ok dX8_kindOf_169 (by decide) ?_
                                exact w_iret ok fin dX8_kindOf_170 rfl (by unfold F_X8_kindOf; simp only [if_neg c1]; simp only [if_neg c2]; simp only [if_neg c3]; simp only [if_neg c4]; simp only [if_neg c5]; simp only [if_neg c6]; simp only [if_neg c7]; simp only [if_neg c8]; simp only [if_neg c9]; simp only [if_neg c10]; simp only [if_neg c11]; simp only [if_neg c12]; simp only [if_neg c13]; simp only [if_neg c14]; simp only [if_pos c15]; exact Pd.i)
                              · skip
                                by_cases c16 : a0 = 55
                                · skip
                                  refine w_tabIn (tgt := 169) (off := 168) ok dX8_kindOf_1 (by rw [c16]; decide) (by rw [c16]; decide) (by rw [c16]; rfl) (by decide) ?_
                                  refine w_iconst (v := 1) ok dX8_kindOf_169 (by decide) ?_
                                  exact w_iret ok fin dX8_kindOf_170 rfl (by unfold F_X8_kindOf; simp only [if_neg c1]; simp only [if_neg c2]; simp only [if_neg c3]; simp only [if_neg c4]; simp only [if_neg c5]; simp only [if_neg c6]; simp only [if_neg c7]; simp only [if_neg c8]; simp only [if_neg c9]; simp only [if_neg c10]; simp only [if_neg c11]; simp only [if_neg c12]; simp only [if_neg c13]; simp only [if_neg c14]; simp only [if_neg c15]; simp only [if_pos c16]; exact Pd.i)
                                · skip
                                  by_cases c17 : a0 = 56
                                  · skip
                                    refine w_tabIn (tgt := 169) (off := 168) ok dX8_kindOf_1 (by rw [c17]; decide) (by rw [c17]; decide) (by rw [c17]; rfl) (by decide) ?_
                                    refine w_iconst (v := 1) ok dX8_kindOf_169 (by decide) ?_
                                    exact w_iret ok fin dX8_kindOf_170 rfl (by unfold F_X8_kindOf; simp only [if_neg c1]; simp only [if_neg c2]; simp only [if_neg c3]; simp only [if_neg c4]; simp only [if_neg c5]; simp only [if_neg c6]; simp only [if_neg c7]; simp only [if_neg c8]; simp only [if_neg c9]; simp only [if_neg c10]; simp only [if_neg c11]; simp only [if_neg c12]; simp only [if_neg c13]; simp only [if_neg c14]; simp only [if_neg c15]; simp only [if_neg c16]; simp only [if_pos c17]; exact Pd.i)
                                  · skip
                                    by_cases c18 : a0 = 57
                                    · skip
                                      refine w_tabIn (tgt := 169) (off := 168) ok dX8_kindOf_1 (by rw [c18]; decide) (by rw [c18]; decide) (by rw [c18]; rfl) (by decide) ?_
                                      refine w_iconst (v := 1) ok dX8_kindOf_169 (by decide) ?_
                                      exact w_iret ok fin dX8_kindOf_170 rfl (by unfold F_X8_kindOf; simp only [if_neg c1]; simp only [if_neg c2]; simp only [if_neg c3]; simp only [if_neg c4]; simp only [if_neg c5]; simp only [if_neg c6]; simp only [if_neg c7]; simp only [if_neg c8]; simp only [if_neg c9]; simp only [if_neg c10]; simp only [if_neg c11]; simp only [if_neg c12]; simp only [if_neg c13]; simp only [if_neg c14]; simp only [if_neg c15]; simp only [if_neg c16]; simp only [if_neg c17]; simp only [if_pos c18]; exact Pd.i)
                                    · skip
                                      by_cases c19 : a0 = 58
                                      · skip
                                        refine w_tabIn (tgt := 169) (off := 168) ok dX8_kindOf_1 (by rw [c19]; decide) (by rw [c19]; decide) (by rw [c19]; rfl) (by decide) ?_
                                        refine w_iconst (v := 1) ok dX8_kindOf_169 (by decide) ?_
                                        exact w_iret ok fin dX8_kindOf_170 rfl (by unfold F_X8_kindOf; simp only [if_neg c1]; simp only [if_neg c2]; simp only [if_neg c3]; simp only [if_neg c4]; simp only [if_neg c5]; simp only [if_neg c6]; simp only [if_neg c7]; simp only [if_neg c8]; simp only [if_neg c9]; simp only [if_neg c10]; simp only [if_neg c11]; simp only [if_neg c12]; simp only [if_neg c13]; simp only [if_neg c14]; simp only [if_neg c15]; simp only [if_neg c16]; simp only [if_neg c17]; simp only [if_neg c18]; simp only [if_pos c19]; exact Pd.i)
                                      · skip
                                        by_cases c20 : a0 = 59
                                        · skip
                                          refine w_tabIn (tgt := 108) (off := 107) ok dX8_kindOf_1 (by rw [c20]; decide) (by rw [c20]; decide) (by rw [c20]; rfl) (by decide) ?_
                                          refine w_iconst (v := 4) ok dX8_kindOf_108 (by decide) ?_
                                          exact w_iret ok fin dX8_kindOf_109 rfl (by unfold F_X8_kindOf; simp only [if_neg c1]; simp only [if_neg c2]; simp only [if_neg c3]; simp only [if_neg c4]; simp only [if_neg c5]; simp only [if_neg c6]; simp only [if_neg c7]; simp only [if_neg c8]; simp only [if_neg c9]; simp only [if_neg c10]; simp only [if_neg c11]; simp only [if_neg c12]; simp only [if_neg c13]; simp only [if_neg c14]; simp only [if_neg c15]; simp only [if_neg c16]; simp only [if_neg c17]; simp only [if_neg c18]; simp only [if_neg c19]; simp only [if_pos c20]; exact Pd.i)
                                        · skip
                                          by_cases c21 : a0 = 60
                                          · skip
                                            refine w_tabIn (tgt := 130) (off := 129) ok dX8_kindOf_1 (by rw [c21]; decide) (by rw [c21]; decide) (by rw [c21]; rfl) (by decide) ?_
                                            refine w_iload_n ok dX8_kindOf_130 1 rfl ?_
                                            refine w_bipush (v := 61) ok dX8_kindOf_131 (by decide) ?_
                                            refine w_icmp_ne (tgt := 141) ok dX8_kindOf_133 (by decide) (fun c22 => ?_) (fun c22 => ?_)
                                            · skip
                                              refine w_iload_n ok dX8_kindOf_141 1 rfl ?_
                                              refine w_bipush (v := 62) ok dX8_kindOf_142 (by decide) ?_
                                              refine w_icmp_ne (tgt := 152) ok dX8_kindOf_144 (by decide) (fun c23 => ?_) (fun c23 => ?_)
                                              · skip
                                                refine w_bipush (v := 11) ok dX8_kindOf_152 (by decide) ?_
                                                exact w_iret ok fin dX8_kindOf_154 rfl (by unfold F_X8_kindOf; simp only [if_neg c1]; simp only [if_neg c2]; simp only [if_neg c3]; simp only [if_neg c4]; simp only [if_neg c5]; simp only [if_neg c6]; simp only [if_neg c7]; simp only [if_neg c8]; simp only [if_neg c9]; simp only [if_neg c10]; simp only [if_neg c11]; simp only [if_neg c12]; simp only [if_neg c13]; simp only [if_neg c14]; simp only [if_neg c15]; simp only [if_neg c16]; simp only [if_neg c17]; simp only [if_neg c18]; simp only [if_neg c19]; simp only [if_neg c20]; simp only [if_pos c21]; simp only [if_neg c22]; simp only [if_neg c23]; exact Pd.i)
                                              · skip
                                                refine w_bipush (v := 14) ok dX8_kindOf_147 (by decide) ?_
                                                refine w_goto (tgt := 154) ok dX8_kindOf_149 (by decide) ?_
                                                exact w_iret ok fin dX8_kindOf_154 rfl (by unfold F_X8_kindOf; simp only [if_neg c1]; simp only [if_neg c2]; simp only [if_neg c3]; simp only [if_neg c4]; simp only [if_neg c5]; simp only [if_neg c6]; simp only [if_neg c7]; simp only [if_neg c8]; simp only [if_neg c9]; simp only [if_neg c10]; simp only [if_neg c11]; simp only [if_neg c12]; simp only [if_neg c13]; simp only [if_neg c14]; simp only [if_neg c15]; simp only [if_neg c16]; simp only [if_neg c17]; simp only [if_neg c18]; simp only [if_neg c19]; simp only [if_neg c20]; simp only [if_pos c21]; simp only [if_neg c22]; simp only [if_pos c23]; exact Pd.i)
                                            · skip
                                              refine w_bipush (v := 12) ok dX8_kindOf_136 (by decide) ?_
                                              refine w_goto (tgt := 154) ok dX8_kindOf_138 (by decide) ?_
                                              exact w_iret ok fin dX8_kindOf_154 rfl (by unfold F_X8_kindOf; simp only [if_neg c1]; simp only [if_neg c2]; simp only [if_neg c3]; simp only [if_neg c4]; simp only [if_neg c5]; simp only [if_neg c6]; simp only [if_neg c7]; simp only [if_neg c8]; simp only [if_neg c9]; simp only [if_neg c10]; simp only [if_neg c11]; simp only [if_neg c12]; simp only [if_neg c13]; simp only [if_neg c14]; simp only [if_neg c15]; simp only [if_neg c16]; simp only [if_neg c17]; simp only [if_neg c18]; simp only [if_neg c19]; simp only [if_neg c20]; simp only [if_pos c21]; simp only [if_pos c22]; exact Pd.i)
                                          · skip
                                            by_cases c24 : a0 = 61
                                            · skip
                                              refine w_tabIn (tgt := 127) (off := 126) ok dX8_kindOf_1 (by rw [c24]; decide) (by rw [c24]; decide) (by rw [c24]; rfl) (by decide) ?_
                                              refine w_bipush (v := 13) ok dX8_kindOf_127 (by decide) ?_
                                              exact w_iret ok fin dX8_kindOf_129 rfl (by unfold F_X8_kindOf; simp only [if_neg c1]; simp only [if_neg c2]; simp only [if_neg c3]; simp only [if_neg c4]; simp only [if_neg c5]; simp only [if_neg c6]; simp only [if_neg c7]; simp only [if_neg c8]; simp only [if_neg c9]; simp only [if_neg c10]; simp only [if_neg c11]; simp only [if_neg c12]; simp only [if_neg c13]; simp only [if_neg c14]; simp only [if_neg c15]; simp only [if_neg c16]; simp only [if_neg c17]; simp only [if_neg c18]; simp only [if_neg c19]; simp only [if_neg c20]; simp only [if_neg c21]; simp only [if_pos c24]; exact Pd.i)
                                            · skip
                                              by_cases c25 : a0 = 62
                                              · skip
                                                refine w_tabIn (tgt := 155) (off := 154) ok dX8_kindOf_1 (by rw [c25]; decide) (by rw [c25]; decide) (by rw [c25]; rfl) (by decide) ?_
                                                refine w_iload_n ok dX8_kindOf_155 1 rfl ?_
                                                refine w_bipush (v := 61) ok dX8_kindOf_156 (by decide) ?_
                                                refine w_icmp_ne (tgt := 166) ok dX8_kindOf_158 (by decide) (fun c26 => ?_) (fun c26 => ?_)
                                                · skip
                                                  refine w_bipush (v := 16) ok dX8_kindOf_166 (by decide) ?_
                                                  exact w_iret ok fin dX8_kindOf_168 rfl (by unfold F_X8_kindOf; simp only [if_neg c1]; simp only [if_neg c2]; simp only [if_neg c3]; simp only [if_neg c4]; simp only [if_neg c5]; simp only [if_neg c6]; simp only [if_neg c7]; simp only [if_neg c8]; simp only [if_neg c9]; simp only [if_neg c10]; simp only [if_neg c11]; simp only [if_neg c12]; simp only [if_neg c13]; simp only [if_neg c14]; simp only [if_neg c15]; simp only [if_neg c16]; simp only [if_neg c17]; simp only [if_neg c18]; simp only [if_neg c19]; simp only [if_neg c20]; simp only [if_neg c21]; simp only [if_neg c24]; simp only [if_pos c25]; simp only [if_neg c26]; exact Pd.i)
                                                · skip
                                                  refine w_bipush (v := 15) ok dX8_kindOf_161 (by decide) ?_
                                                  refine w_goto (tgt := 168) ok dX8_kindOf_163 (by decide) ?_
                                                  exact w_iret ok fin dX8_kindOf_168 rfl (by unfold F_X8_kindOf; simp only [if_neg c1]; simp only [if_neg c2]; simp only [if_neg c3]; simp only [if_neg c4]; simp only [if_neg c5]; simp only [if_neg c6]; simp only [if_neg c7]; simp only [if_neg c8]; simp only [if_neg c9]; simp only [if_neg c10]; simp only [if_neg c11]; simp only [if_neg c12]; simp only [if_neg c13]; simp only [if_neg c14]; simp only [if_neg c15]; simp only [if_neg c16]; simp only [if_neg c17]; simp only [if_neg c18]; simp only [if_neg c19]; simp only [if_neg c20]; simp only [if_neg c21]; simp only [if_neg c24]; simp only [if_pos c25]; simp only [if_pos c26]; exact Pd.i)
                                              · skip
                                                have n27 : a0.toInt ≠ 40 := ne_toInt c1
                                                have n28 : a0.toInt ≠ 41 := ne_toInt c2
                                                have n29 : a0.toInt ≠ 42 := ne_toInt c3
                                                have n30 : a0.toInt ≠ 43 := ne_toInt c4
                                                have n31 : a0.toInt ≠ 44 := ne_toInt c5
                                                have n32 : a0.toInt ≠ 45 := ne_toInt c6
                                                have n33 : a0.toInt ≠ 46 := ne_toInt c7
                                                have n34 : a0.toInt ≠ 47 := ne_toInt c8
                                                have n35 : a0.toInt ≠ 48 := ne_toInt c9
                                                have n36 : a0.toInt ≠ 49 := ne_toInt c10
                                                have n37 : a0.toInt ≠ 50 := ne_toInt c11
                                                have n38 : a0.toInt ≠ 51 := ne_toInt c12
                                                have n39 : a0.toInt ≠ 52 := ne_toInt c13
                                                have n40 : a0.toInt ≠ 53 := ne_toInt c14
                                                have n41 : a0.toInt ≠ 54 := ne_toInt c15
                                                have n42 : a0.toInt ≠ 55 := ne_toInt c16
                                                have n43 : a0.toInt ≠ 56 := ne_toInt c17
                                                have n44 : a0.toInt ≠ 57 := ne_toInt c18
                                                have n45 : a0.toInt ≠ 58 := ne_toInt c19
                                                have n46 : a0.toInt ≠ 59 := ne_toInt c20
                                                have n47 : a0.toInt ≠ 60 := ne_toInt c21
                                                have n48 : a0.toInt ≠ 61 := ne_toInt c24
                                                have n49 : a0.toInt ≠ 62 := ne_toInt c25
                                                refine w_tabOut (tgt := 169) ok dX8_kindOf_1 (by omega) (by decide) ?_
                                                refine w_iconst (v := 1) ok dX8_kindOf_169 (by decide) ?_
                                                exact w_iret ok fin dX8_kindOf_170 rfl (by unfold F_X8_kindOf; simp only [if_neg c1]; simp only [if_neg c2]; simp only [if_neg c3]; simp only [if_neg c4]; simp only [if_neg c5]; simp only [if_neg c6]; simp only [if_neg c7]; simp only [if_neg c8]; simp only [if_neg c9]; simp only [if_neg c10]; simp only [if_neg c11]; simp only [if_neg c12]; simp only [if_neg c13]; simp only [if_neg c14]; simp only [if_neg c15]; simp only [if_neg c16]; simp only [if_neg c17]; simp only [if_neg c18]; simp only [if_neg c19]; simp only [if_neg c20]; simp only [if_neg c21]; simp only [if_neg c24]; simp only [if_neg c25]; exact Pd.i)
def F_X8_isPair (a0 : Int32) (I : SI) (J : SJ) : Int32 := if a0 = 12 then 1 else (if a0 = 14 then 1 else (if a0 = 15 then 1 else 0))
set_option maxHeartbeats 1000000 in
set_option maxRecDepth 40000 in
theorem c_X8_isPair {I : SI} {J : SJ} {R : SR} {n g : Nat} {f : Fr} (ro : RO R) (hnn : nK ≤ n) (hf : f.1 = true) (a0 : Int32)   : MM 0 0 0 mX8_isPair [.int a0] (eI f I) (eJ f J) R n g (Pd (some (.int (F_X8_isPair a0 I J))) (eI f I) (eJ f J) R n g) := by
  refine MM.of (by decide) (Nat.le_of_ble_eq_true rfl) fun K ok fin => ?_
  show WK K 0 0 0 [(0, .int a0)] [] (eI f I) (eJ f J) R n g
  refine w_iload_n ok dX8_isPair_0 0 rfl ?_
  refine w_bipush (v := 12) ok dX8_isPair_1 (by decide) ?_
  refine w_icmp_eq (tgt := 18) ok dX8_isPair_3 (by decide) (fun c1 => ?_) (fun c1 => ?_)
  · skip
    refine w_iconst (v := 1) ok dX8_isPair_18 (by decide) ?_
    refine w_goto (tgt := 23) ok dX8_isPair_19 (by decide) ?_
    exact w_zret ok fin dX8_isPair_23 rfl (by decide) (by unfold F_X8_isPair; simp only [if_pos c1]; exact Pd.i)
  · skip
    refine w_iload_n ok dX8_isPair_6 0 rfl ?_
    refine w_bipush (v := 14) ok dX8_isPair_7 (by decide) ?_
    refine w_icmp_eq (tgt := 18) ok dX8_isPair_9 (by decide) (fun c2 => ?_) (fun c2 => ?_)
    · skip
      refine w_iconst (v := 1) ok dX8_isPair_18 (by decide) ?_
      refine w_goto (tgt := 23) ok dX8_isPair_19 (by decide) ?_
      exact w_zret ok fin dX8_isPair_23 rfl (by decide) (by unfold F_X8_isPair; simp only [if_neg c1]; simp only [if_pos c2]; exact Pd.i)
    · skip
      refine w_iload_n ok dX8_isPair_12 0 rfl ?_
      refine w_bipush (v := 15) ok dX8_isPair_13 (by decide) ?_
      refine w_icmp_ne (tgt := 22) ok dX8_isPair_15 (by decide) (fun c3 => ?_) (fun c3 => ?_)
      · skip
        refine w_iconst (v := 0) ok dX8_isPair_22 (by decide) ?_
        exact w_zret ok fin dX8_isPair_23 rfl (by decide) (by unfold F_X8_isPair; simp only [if_neg c1]; simp only [if_neg c2]; simp only [if_neg c3]; exact Pd.i)
      · skip
        refine w_iconst (v := 1) ok dX8_isPair_18 (by decide) ?_
        refine w_goto (tgt := 23) ok dX8_isPair_19 (by decide) ?_
        exact w_zret ok fin dX8_isPair_23 rfl (by decide) (by unfold F_X8_isPair; simp only [if_neg c1]; simp only [if_neg c2]; simp only [if_pos c3]; exact Pd.i)
def S1_X9_clear (k : Nat) (I : SI) (J : SJ) : SI := FI_X7_clear (k + 11) (FI_X7_clear (k + 6) (FI_X7_clear (k + 1) I J) J) J
def S2_X9_clear (k : Nat) (I : SI) (J : SJ) : SI := fillF (FI_X7_clear (k + 21) (FI_X7_clear (k + 16) (S1_X9_clear k I J) J) J) (k + 26) (-1) 48
def S3_X9_clear (k : Nat) (I : SI) (J : SJ) : SI := u2 (u2 (u2 (u2 (u2 (S2_X9_clear k I J) k 6 0) k 7 (-1)) k 8 (-1)) k 9 (-1)) k 10 0
def S4_X9_clear (k : Nat) (I : SI) (J : SJ) : SI := FI_X1_clear (k + 31) (FI_X1_clear (k + 27) (u2 (S3_X9_clear k I J) k 11 0) J) J
def FI_X9_clear (k : Nat) (I : SI) (J : SJ) : SI := FI_X1_clear (k + 35) (S4_X9_clear k I J) J
set_option maxHeartbeats 1000000 in
set_option maxRecDepth 40000 in
theorem c_X9_clear {I : SI} {J : SJ} {R : SR} {n g : Nat} {f : Fr} (ro : RO R) (hnn : nK ≤ n) (hf : f.1 = true) {k : Nat} (hk : IsTo k)   : MM 2 0 0 mX9_clear [.ref k] (eI f I) (eJ f J) R n g (Pd none (eI f (FI_X9_clear k I J)) (eJ f J) R n g) := by
  refine MM.of (by decide) (Nat.le_of_ble_eq_true rfl) fun K ok fin => ?_
  show WK K 0 0 0 [(0, .ref k)] [] (eI f I) (eJ f J) R n g
  refine w_aload_n ok dX9_clear_0 0 rfl ?_
  refine w_getR ok dX9_clear_1 (fX9_14 rfl) (congrArg Prod.fst (sTo hk)) rfl (rTo_0 hk ro) (ltK hnn (nTo hk)) ?_
  refine w_cV (As := []) ok dX9_clear_4 iX7_clear (lX9_72 rfl) (rcv cls7 (congrArg Prod.fst (sTb (iTo_0 hk)))) (ltK hnn (nTo_0 hk)) (c_X7_clear ro hnn hf  (iTo_0 hk)) (by decide) rfl (Nat.le_of_ble_eq_true rfl) ?_
  refine w_aload_n ok dX9_clear_7 0 rfl ?_
  refine w_getR ok dX9_clear_8 (fX9_20 rfl) (congrArg Prod.fst (sTo hk)) rfl (rTo_1 hk ro) (ltK hnn (nTo hk)) ?_
  refine w_cV (As := []) ok dX9_clear_11 iX7_clear (lX9_72 rfl) (rcv cls7 (congrArg Prod.fst (sTb (iTo_1 hk)))) (ltK hnn (nTo_1 hk)) (c_X7_clear ro hnn hf  (iTo_1 hk)) (by decide) rfl (Nat.le_of_ble_eq_true rfl) ?_
  refine w_aload_n ok dX9_clear_14 0 rfl ?_
  refine w_getR ok dX9_clear_15 (fX9_23 rfl) (congrArg Prod.fst (sTo hk)) rfl (rTo_2 hk ro) (ltK hnn (nTo hk)) ?_
  refine w_cV (As := []) ok dX9_clear_18 iX7_clear (lX9_72 rfl) (rcv cls7 (congrArg Prod.fst (sTb (iTo_2 hk)))) (ltK hnn (nTo_2 hk)) (c_X7_clear ro hnn hf  (iTo_2 hk)) (by decide) rfl (Nat.le_of_ble_eq_true rfl) ?_
  show WK K 0 0 21 [(0, .ref k)] [] (eI f (S1_X9_clear k I J)) (eJ f J) R n g
  refine w_aload_n ok dX9_clear_21 0 rfl ?_
  refine w_getR ok dX9_clear_22 (fX9_26 rfl) (congrArg Prod.fst (sTo hk)) rfl (rTo_3 hk ro) (ltK hnn (nTo hk)) ?_
  refine w_cV (As := []) ok dX9_clear_25 iX7_clear (lX9_72 rfl) (rcv cls7 (congrArg Prod.fst (sTb (iTo_3 hk)))) (ltK hnn (nTo_3 hk)) (c_X7_clear ro hnn hf  (iTo_3 hk)) (by decide) rfl (Nat.le_of_ble_eq_true rfl) ?_
  refine w_aload_n ok dX9_clear_28 0 rfl ?_
  refine w_getR ok dX9_clear_29 (fX9_29 rfl) (congrArg Prod.fst (sTo hk)) rfl (rTo_4 hk ro) (ltK hnn (nTo hk)) ?_
  refine w_cV (As := []) ok dX9_clear_32 iX7_clear (lX9_72 rfl) (rcv cls7 (congrArg Prod.fst (sTb (iTo_4 hk)))) (ltK hnn (nTo_4 hk)) (c_X7_clear ro hnn hf  (iTo_4 hk)) (by decide) rfl (Nat.le_of_ble_eq_true rfl) ?_
  refine w_aload_n ok dX9_clear_35 0 rfl ?_
  refine w_getR ok dX9_clear_36 (fX9_32 rfl) (congrArg Prod.fst (sTo hk)) rfl (rTo_5 hk ro) (ltK hnn (nTo hk)) ?_
  refine w_iconst (v := (-1)) ok dX9_clear_39 (by decide) ?_
  refine w_cS (As := [.ref (k + 26), .int (-1)]) ok dX9_clear_40 iX11_fill (lX9_68 rfl) (c_fill (sTo_5 hk) (ltK hnn (nTo_5 hk)) (sdc hf (nTo_5 hk)) (-1)) (by decide) rfl (Nat.le_of_ble_eq_true rfl) ?_
  show WK K 0 0 43 [(0, .ref k)] [] (eI f (S2_X9_clear k I J)) (eJ f J) R n g
  refine w_aload_n ok dX9_clear_43 0 rfl ?_
  refine w_iconst (v := 0) ok dX9_clear_44 (by decide) ?_
  refine y_putI ok dX9_clear_45 (fwX9_36 rfl) (congrArg Prod.fst (sTo hk)) rfl (ltK hnn (nTo hk)) (sdc hf (nTo hk)) ?_
  refine w_aload_n ok dX9_clear_48 0 rfl ?_
  refine w_iconst (v := (-1)) ok dX9_clear_49 (by decide) ?_
  refine y_putI ok dX9_clear_50 (fwX9_40 rfl) (congrArg Prod.fst (sTo hk)) rfl (ltK hnn (nTo hk)) (sdc hf (nTo hk)) ?_
  refine w_aload_n ok dX9_clear_53 0 rfl ?_
  refine w_iconst (v := (-1)) ok dX9_clear_54 (by decide) ?_
  refine y_putI ok dX9_clear_55 (fwX9_43 rfl) (congrArg Prod.fst (sTo hk)) rfl (ltK hnn (nTo hk)) (sdc hf (nTo hk)) ?_
  refine w_aload_n ok dX9_clear_58 0 rfl ?_
  refine w_iconst (v := (-1)) ok dX9_clear_59 (by decide) ?_
  refine y_putI ok dX9_clear_60 (fwX9_46 rfl) (congrArg Prod.fst (sTo hk)) rfl (ltK hnn (nTo hk)) (sdc hf (nTo hk)) ?_
  refine w_aload_n ok dX9_clear_63 0 rfl ?_
  refine w_iconst (v := 0) ok dX9_clear_64 (by decide) ?_
  refine y_putI ok dX9_clear_65 (fwX9_49 rfl) (congrArg Prod.fst (sTo hk)) rfl (ltK hnn (nTo hk)) (sdc hf (nTo hk)) ?_
  show WK K 0 0 68 [(0, .ref k)] [] (eI f (S3_X9_clear k I J)) (eJ f J) R n g
  refine w_aload_n ok dX9_clear_68 0 rfl ?_
  refine w_iconst (v := 0) ok dX9_clear_69 (by decide) ?_
  refine y_putI ok dX9_clear_70 (fwX9_52 rfl) (congrArg Prod.fst (sTo hk)) rfl (ltK hnn (nTo hk)) (sdc hf (nTo hk)) ?_
  refine w_aload_n ok dX9_clear_73 0 rfl ?_
  refine w_getR ok dX9_clear_74 (fX9_58 rfl) (congrArg Prod.fst (sTo hk)) rfl (rTo_12 hk ro) (ltK hnn (nTo hk)) ?_
  refine w_cV (As := []) ok dX9_clear_77 iX1_clear (lX9_75 rfl) (rcv cls1 (congrArg Prod.fst (sLw (iTo_12 hk)))) (ltK hnn (nTo_12 hk)) (c_X1_clear ro hnn hf  (iTo_12 hk)) (by decide) rfl (Nat.le_of_ble_eq_true rfl) ?_
  refine w_aload_n ok dX9_clear_80 0 rfl ?_
  refine w_getR ok dX9_clear_81 (fX9_62 rfl) (congrArg Prod.fst (sTo hk)) rfl (rTo_13 hk ro) (ltK hnn (nTo hk)) ?_
  refine w_cV (As := []) ok dX9_clear_84 iX1_clear (lX9_75 rfl) (rcv cls1 (congrArg Prod.fst (sLw (iTo_13 hk)))) (ltK hnn (nTo_13 hk)) (c_X1_clear ro hnn hf  (iTo_13 hk)) (by decide) rfl (Nat.le_of_ble_eq_true rfl) ?_
  show WK K 0 0 87 [(0, .ref k)] [] (eI f (S4_X9_clear k I J)) (eJ f J) R n g
  refine w_aload_n ok dX9_clear_87 0 rfl ?_
  refine w_getR ok dX9_clear_88 (fX9_65 rfl) (congrArg Prod.fst (sTo hk)) rfl (rTo_14 hk ro) (ltK hnn (nTo hk)) ?_
  refine w_cV (As := []) ok dX9_clear_91 iX1_clear (lX9_75 rfl) (rcv cls1 (congrArg Prod.fst (sLw (iTo_14 hk)))) (ltK hnn (nTo_14 hk)) (c_X1_clear ro hnn hf  (iTo_14 hk)) (by decide) rfl (Nat.le_of_ble_eq_true rfl) ?_
  exact w_vret ok fin dX9_clear_94 rfl (by unfold FI_X9_clear; exact Pd.i)
def T_X9_settle_j16 (k : Nat) (I : SI) (J : SJ) : Int32 := if (0 : Int32) ≤ (I k 7) then (I k 7) else 0
def T_X9_settle_j36 (k : Nat) (I : SI) (J : SJ) : Int32 := if (0 : Int32) ≤ ((u2 I k 7 (T_X9_settle_j16 k I J)) k 8) then ((u2 I k 7 (T_X9_settle_j16 k I J)) k 8) else 99
def S1_X9_settle (k : Nat) (I : SI) (J : SJ) : SI := u2 (u2 (u2 I k 7 (T_X9_settle_j16 k I J)) k 8 (T_X9_settle_j36 k I J)) k 9 ((u2 (u2 I k 7 (T_X9_settle_j16 k I J)) k 8 (T_X9_settle_j36 k I J)) k 9)
def S2_X9_settle (k : Nat) (I : SI) (J : SJ) : SI := u2 (u2 (u2 I k 7 (T_X9_settle_j16 k I J)) k 8 (T_X9_settle_j36 k I J)) k 9 0
def FI_X9_settle (k : Nat) (I : SI) (J : SJ) : SI := if (0 : Int32) ≤ ((u2 (u2 I k 7 (T_X9_settle_j16 k I J)) k 8 (T_X9_settle_j36 k I J)) k 9) then (S1_X9_settle k I J) else (S2_X9_settle k I J)
set_option maxHeartbeats 1000000 in
set_option maxRecDepth 40000 in
theorem c_X9_settle {I : SI} {J : SJ} {R : SR} {n g : Nat} {f : Fr} (ro : RO R) (hnn : nK ≤ n) (hf : f.1 = true) {k : Nat} (hk : IsTo k)   : MM 0 0 0 mX9_settle [.ref k] (eI f I) (eJ f J) R n g (Pd none (eI f (FI_X9_settle k I J)) (eJ f J) R n g) := by
  refine MM.of (by decide) (Nat.le_of_ble_eq_true rfl) fun K ok fin => ?_
  show WK K 0 0 0 [(0, .ref k)] [] (eI f I) (eJ f J) R n g
  refine w_aload_n ok dX9_settle_0 0 rfl ?_
  refine w_aload_n ok dX9_settle_1 0 rfl ?_
  refine y_getI ok dX9_settle_2 (fX9_40 rfl) (congrArg Prod.fst (sTo hk)) rfl (ltK hnn (nTo hk)) (sdc hf (nTo hk)) ?_
  have jn1 : WK K 0 0 16 [(0, .ref k)] [.int (T_X9_settle_j16 k I J), .ref k] (eI f I) (eJ f J) R n g := by
    refine y_putI ok dX9_settle_16 (fwX9_40 rfl) (congrArg Prod.fst (sTo hk)) rfl (ltK hnn (nTo hk)) (sdc hf (nTo hk)) ?_
    refine w_aload_n ok dX9_settle_19 0 rfl ?_
    refine w_aload_n ok dX9_settle_20 0 rfl ?_
    refine y_getI ok dX9_settle_21 (fX9_43 rfl) (congrArg Prod.fst (sTo hk)) rfl (ltK hnn (nTo hk)) (sdc hf (nTo hk)) ?_
    have jn2 : WK K 0 0 36 [(0, .ref k)] [.int (T_X9_settle_j36 k I J), .ref k] (eI f (u2 I k 7 (T_X9_settle_j16 k I J))) (eJ f J) R n g := by
      refine y_putI ok dX9_settle_36 (fwX9_43 rfl) (congrArg Prod.fst (sTo hk)) rfl (ltK hnn (nTo hk)) (sdc hf (nTo hk)) ?_
      refine w_aload_n ok dX9_settle_39 0 rfl ?_
      refine w_aload_n ok dX9_settle_40 0 rfl ?_
      refine y_getI ok dX9_settle_41 (fX9_46 rfl) (congrArg Prod.fst (sTo hk)) rfl (ltK hnn (nTo hk)) (sdc hf (nTo hk)) ?_
      refine w_if_ge (tgt := 51) ok dX9_settle_44 (by decide) (fun c3 => ?_) (fun c3 => ?_)
      · skip
        refine w_aload_n ok dX9_settle_51 0 rfl ?_
        refine y_getI ok dX9_settle_52 (fX9_46 rfl) (congrArg Prod.fst (sTo hk)) rfl (ltK hnn (nTo hk)) (sdc hf (nTo hk)) ?_
        refine y_putI ok dX9_settle_55 (fwX9_46 rfl) (congrArg Prod.fst (sTo hk)) rfl (ltK hnn (nTo hk)) (sdc hf (nTo hk)) ?_
        show WK K 0 0 58 [(0, .ref k)] [] (eI f (S1_X9_settle k I J)) (eJ f J) R n g
        exact w_vret ok fin dX9_settle_58 rfl (by unfold FI_X9_settle; simp only [if_pos c3]; exact Pd.i)
      · skip
        refine w_iconst (v := 0) ok dX9_settle_47 (by decide) ?_
        refine w_goto (tgt := 55) ok dX9_settle_48 (by decide) ?_
        refine y_putI ok dX9_settle_55 (fwX9_46 rfl) (congrArg Prod.fst (sTo hk)) rfl (ltK hnn (nTo hk)) (sdc hf (nTo hk)) ?_
        show WK K 0 0 58 [(0, .ref k)] [] (eI f (S2_X9_settle k I J)) (eJ f J) R n g
        exact w_vret ok fin dX9_settle_58 rfl (by unfold FI_X9_settle; simp only [if_neg c3]; exact Pd.i)
    refine w_if_ge (tgt := 32) ok dX9_settle_24 (by decide) (fun c4 => ?_) (fun c4 => ?_)
    · skip
      refine w_aload_n ok dX9_settle_32 0 rfl ?_
      refine y_getI ok dX9_settle_33 (fX9_43 rfl) (congrArg Prod.fst (sTo hk)) rfl (ltK hnn (nTo hk)) (sdc hf (nTo hk)) ?_
      have eT : (T_X9_settle_j36 k I J) = ((u2 I k 7 (T_X9_settle_j16 k I J)) k 8) := by
        unfold T_X9_settle_j36; exact (if_pos c4).trans (rfl)
      refine w_loc [0] rfl ?_
      have jj := jn2
      rw [eT] at jj
      exact jj
    · skip
      refine w_bipush (v := 99) ok dX9_settle_27 (by decide) ?_
      refine w_goto (tgt := 36) ok dX9_settle_29 (by decide) ?_
      have eT : (T_X9_settle_j36 k I J) = 99 := by
        unfold T_X9_settle_j36; exact (if_neg c4).trans (rfl)
      refine w_loc [0] rfl ?_
      have jj := jn2
      rw [eT] at jj
      exact jj
  refine w_if_ge (tgt := 12) ok dX9_settle_5 (by decide) (fun c5 => ?_) (fun c5 => ?_)
  · skip
    refine w_aload_n ok dX9_settle_12 0 rfl ?_
    refine y_getI ok dX9_settle_13 (fX9_40 rfl) (congrArg Prod.fst (sTo hk)) rfl (ltK hnn (nTo hk)) (sdc hf (nTo hk)) ?_
    have eT : (T_X9_settle_j16 k I J) = (I k 7) := by
      unfold T_X9_settle_j16; exact (if_pos c5).trans (rfl)
    refine w_loc [0] rfl ?_
    have jj := jn1
    rw [eT] at jj
    exact jj
  · skip
    refine w_iconst (v := 0) ok dX9_settle_8 (by decide) ?_
    refine w_goto (tgt := 16) ok dX9_settle_9 (by decide) ?_
    have eT : (T_X9_settle_j16 k I J) = 0 := by
      unfold T_X9_settle_j16; exact (if_neg c5).trans (rfl)
    refine w_loc [0] rfl ?_
    have jj := jn1
    rw [eT] at jj
    exact jj
def S1_X9_copy (k : Nat) (a0 : Nat) (I : SI) (J : SJ) : SI := FI_X7_copy (k + 11) (a0 + 11) (FI_X7_copy (k + 6) (a0 + 6) (FI_X7_copy (k + 1) (a0 + 1) I J) J) J
def S2_X9_copy (k : Nat) (a0 : Nat) (I : SI) (J : SJ) : SI := FI_X7_copy (k + 21) (a0 + 21) (FI_X7_copy (k + 16) (a0 + 16) (S1_X9_copy k a0 I J) J) J
def S3_X9_copy (k : Nat) (a0 : Nat) (I : SI) (J : SJ) : SI := u2 (cpF (S2_X9_copy k a0 I J) (a0 + 26) (k + 26) 48) k 6 ((cpF (S2_X9_copy k a0 I J) (a0 + 26) (k + 26) 48) a0 6)
def S4_X9_copy (k : Nat) (a0 : Nat) (I : SI) (J : SJ) : SI := u2 (u2 (S3_X9_copy k a0 I J) k 7 (((S3_X9_copy k a0 I J)) a0 7)) k 8 ((u2 (S3_X9_copy k a0 I J) k 7 (((S3_X9_copy k a0 I J)) a0 7)) a0 8)
def S5_X9_copy (k : Nat) (a0 : Nat) (I : SI) (J : SJ) : SI := u2 (u2 (S4_X9_copy k a0 I J) k 9 (((S4_X9_copy k a0 I J)) a0 9)) k 10 ((u2 (S4_X9_copy k a0 I J) k 9 (((S4_X9_copy k a0 I J)) a0 9)) a0 10)
def S6_X9_copy (k : Nat) (a0 : Nat) (I : SI) (J : SJ) : SI := FI_X1_copy (k + 27) (a0 + 27) (u2 (S5_X9_copy k a0 I J) k 11 (((S5_X9_copy k a0 I J)) a0 11)) J
def S7_X9_copy (k : Nat) (a0 : Nat) (I : SI) (J : SJ) : SI := FI_X1_copy (k + 35) (a0 + 35) (FI_X1_copy (k + 31) (a0 + 31) (S6_X9_copy k a0 I J) J) J
def FI_X9_copy (k : Nat) (a0 : Nat) (I : SI) (J : SJ) : SI := (S7_X9_copy k a0 I J)
def H_X9_copy (k : Nat) (a0 : Nat) (I : SI) (J : SJ) : Prop := (H_X1_copy (k + 27) (a0 + 27) (u2 (S5_X9_copy k a0 I J) k 11 (((S5_X9_copy k a0 I J)) a0 11)) J) ∧ (H_X1_copy (k + 31) (a0 + 31) (S6_X9_copy k a0 I J) J) ∧ (H_X1_copy (k + 35) (a0 + 35) (FI_X1_copy (k + 31) (a0 + 31) (S6_X9_copy k a0 I J) J) J)
set_option maxHeartbeats 1000000 in
set_option maxRecDepth 40000 in
theorem c_X9_copy {I : SI} {J : SJ} {R : SR} {n g : Nat} {f : Fr} (ro : RO R) (hnn : nK ≤ n) (hf : f.1 = true) {k : Nat} {a0 : Nat} (hk : IsTo k) (ha0 : IsTo a0)  (hp : H_X9_copy k a0 I J) : MM 3 0 0 mX9_copy [.ref k, .ref a0] (eI f I) (eJ f J) R n g (Pd none (eI f (FI_X9_copy k a0 I J)) (eJ f J) R n g) := by
  refine MM.of (by decide) (Nat.le_of_ble_eq_true rfl) fun K ok fin => ?_
  show WK K 0 0 0 [(0, .ref k), (1, .ref a0)] [] (eI f I) (eJ f J) R n g
  obtain ⟨hp1, hp2, hp3⟩ := hp
  refine w_aload_n ok dX9_copy_0 0 rfl ?_
  refine w_getR ok dX9_copy_1 (fX9_14 rfl) (congrArg Prod.fst (sTo hk)) rfl (rTo_0 hk ro) (ltK hnn (nTo hk)) ?_
  refine w_aload_n ok dX9_copy_4 1 rfl ?_
  refine w_getR ok dX9_copy_5 (fX9_14 rfl) (congrArg Prod.fst (sTo ha0)) rfl (rTo_0 ha0 ro) (ltK hnn (nTo ha0)) ?_
  refine w_cV (As := [.ref (a0 + 1)]) ok dX9_copy_8 iX7_copy (lX9_76 rfl) (rcv cls7 (congrArg Prod.fst (sTb (iTo_0 hk)))) (ltK hnn (nTo_0 hk)) (c_X7_copy ro hnn hf  (iTo_0 hk) (iTo_0 ha0)) (by decide) rfl (Nat.le_of_ble_eq_true rfl) ?_
  refine w_aload_n ok dX9_copy_11 0 rfl ?_
  refine w_getR ok dX9_copy_12 (fX9_20 rfl) (congrArg Prod.fst (sTo hk)) rfl (rTo_1 hk ro) (ltK hnn (nTo hk)) ?_
  refine w_aload_n ok dX9_copy_15 1 rfl ?_
  refine w_getR ok dX9_copy_16 (fX9_20 rfl) (congrArg Prod.fst (sTo ha0)) rfl (rTo_1 ha0 ro) (ltK hnn (nTo ha0)) ?_
  refine w_cV (As := [.ref (a0 + 6)]) ok dX9_copy_19 iX7_copy (lX9_76 rfl) (rcv cls7 (congrArg Prod.fst (sTb (iTo_1 hk)))) (ltK hnn (nTo_1 hk)) (c_X7_copy ro hnn hf  (iTo_1 hk) (iTo_1 ha0)) (by decide) rfl (Nat.le_of_ble_eq_true rfl) ?_
  refine w_aload_n ok dX9_copy_22 0 rfl ?_
  refine w_getR ok dX9_copy_23 (fX9_23 rfl) (congrArg Prod.fst (sTo hk)) rfl (rTo_2 hk ro) (ltK hnn (nTo hk)) ?_
  refine w_aload_n ok dX9_copy_26 1 rfl ?_
  refine w_getR ok dX9_copy_27 (fX9_23 rfl) (congrArg Prod.fst (sTo ha0)) rfl (rTo_2 ha0 ro) (ltK hnn (nTo ha0)) ?_
  refine w_cV (As := [.ref (a0 + 11)]) ok dX9_copy_30 iX7_copy (lX9_76 rfl) (rcv cls7 (congrArg Prod.fst (sTb (iTo_2 hk)))) (ltK hnn (nTo_2 hk)) (c_X7_copy ro hnn hf  (iTo_2 hk) (iTo_2 ha0)) (by decide) rfl (Nat.le_of_ble_eq_true rfl) ?_
  show WK K 0 0 33 [(0, .ref k), (1, .ref a0)] [] (eI f (S1_X9_copy k a0 I J)) (eJ f J) R n g
  refine w_aload_n ok dX9_copy_33 0 rfl ?_
  refine w_getR ok dX9_copy_34 (fX9_26 rfl) (congrArg Prod.fst (sTo hk)) rfl (rTo_3 hk ro) (ltK hnn (nTo hk)) ?_
  refine w_aload_n ok dX9_copy_37 1 rfl ?_
  refine w_getR ok dX9_copy_38 (fX9_26 rfl) (congrArg Prod.fst (sTo ha0)) rfl (rTo_3 ha0 ro) (ltK hnn (nTo ha0)) ?_
  refine w_cV (As := [.ref (a0 + 16)]) ok dX9_copy_41 iX7_copy (lX9_76 rfl) (rcv cls7 (congrArg Prod.fst (sTb (iTo_3 hk)))) (ltK hnn (nTo_3 hk)) (c_X7_copy ro hnn hf  (iTo_3 hk) (iTo_3 ha0)) (by decide) rfl (Nat.le_of_ble_eq_true rfl) ?_
  refine w_aload_n ok dX9_copy_44 0 rfl ?_
  refine w_getR ok dX9_copy_45 (fX9_29 rfl) (congrArg Prod.fst (sTo hk)) rfl (rTo_4 hk ro) (ltK hnn (nTo hk)) ?_
  refine w_aload_n ok dX9_copy_48 1 rfl ?_
  refine w_getR ok dX9_copy_49 (fX9_29 rfl) (congrArg Prod.fst (sTo ha0)) rfl (rTo_4 ha0 ro) (ltK hnn (nTo ha0)) ?_
  refine w_cV (As := [.ref (a0 + 21)]) ok dX9_copy_52 iX7_copy (lX9_76 rfl) (rcv cls7 (congrArg Prod.fst (sTb (iTo_4 hk)))) (ltK hnn (nTo_4 hk)) (c_X7_copy ro hnn hf  (iTo_4 hk) (iTo_4 ha0)) (by decide) rfl (Nat.le_of_ble_eq_true rfl) ?_
  show WK K 0 0 55 [(0, .ref k), (1, .ref a0)] [] (eI f (S2_X9_copy k a0 I J)) (eJ f J) R n g
  refine w_aload_n ok dX9_copy_55 1 rfl ?_
  refine w_getR ok dX9_copy_56 (fX9_32 rfl) (congrArg Prod.fst (sTo ha0)) rfl (rTo_5 ha0 ro) (ltK hnn (nTo ha0)) ?_
  refine w_aload_n ok dX9_copy_59 0 rfl ?_
  refine w_getR ok dX9_copy_60 (fX9_32 rfl) (congrArg Prod.fst (sTo hk)) rfl (rTo_5 hk ro) (ltK hnn (nTo hk)) ?_
  refine w_cS (As := [.ref (a0 + 26), .ref (k + 26)]) ok dX9_copy_63 iX11_copyRow (lX9_80 rfl) (c_copyRow (sTo_5 ha0) (sTo_5 hk) (ltK hnn (nTo_5 ha0)) (ltK hnn (nTo_5 hk)) (sdc hf (nTo_5 ha0)) (sdc hf (nTo_5 hk))) (by decide) rfl (Nat.le_of_ble_eq_true rfl) ?_
  refine w_aload_n ok dX9_copy_66 0 rfl ?_
  refine w_aload_n ok dX9_copy_67 1 rfl ?_
  refine y_getI ok dX9_copy_68 (fX9_36 rfl) (congrArg Prod.fst (sTo ha0)) rfl (ltK hnn (nTo ha0)) (sdc hf (nTo ha0)) ?_
  refine y_putI ok dX9_copy_71 (fwX9_36 rfl) (congrArg Prod.fst (sTo hk)) rfl (ltK hnn (nTo hk)) (sdc hf (nTo hk)) ?_
  show WK K 0 0 74 [(0, .ref k), (1, .ref a0)] [] (eI f (S3_X9_copy k a0 I J)) (eJ f J) R n g
  refine w_aload_n ok dX9_copy_74 0 rfl ?_
  refine w_aload_n ok dX9_copy_75 1 rfl ?_
  refine y_getI ok dX9_copy_76 (fX9_40 rfl) (congrArg Prod.fst (sTo ha0)) rfl (ltK hnn (nTo ha0)) (sdc hf (nTo ha0)) ?_
  refine y_putI ok dX9_copy_79 (fwX9_40 rfl) (congrArg Prod.fst (sTo hk)) rfl (ltK hnn (nTo hk)) (sdc hf (nTo hk)) ?_
  refine w_aload_n ok dX9_copy_82 0 rfl ?_
  refine w_aload_n ok dX9_copy_83 1 rfl ?_
  refine y_getI ok dX9_copy_84 (fX9_43 rfl) (congrArg Prod.fst (sTo ha0)) rfl (ltK hnn (nTo ha0)) (sdc hf (nTo ha0)) ?_
  refine y_putI ok dX9_copy_87 (fwX9_43 rfl) (congrArg Prod.fst (sTo hk)) rfl (ltK hnn (nTo hk)) (sdc hf (nTo hk)) ?_
  show WK K 0 0 90 [(0, .ref k), (1, .ref a0)] [] (eI f (S4_X9_copy k a0 I J)) (eJ f J) R n g
  refine w_aload_n ok dX9_copy_90 0 rfl ?_
  refine w_aload_n ok dX9_copy_91 1 rfl ?_
  refine y_getI ok dX9_copy_92 (fX9_46 rfl) (congrArg Prod.fst (sTo ha0)) rfl (ltK hnn (nTo ha0)) (sdc hf (nTo ha0)) ?_
  refine y_putI ok dX9_copy_95 (fwX9_46 rfl) (congrArg Prod.fst (sTo hk)) rfl (ltK hnn (nTo hk)) (sdc hf (nTo hk)) ?_
  refine w_aload_n ok dX9_copy_98 0 rfl ?_
  refine w_aload_n ok dX9_copy_99 1 rfl ?_
  refine y_getI ok dX9_copy_100 (fX9_49 rfl) (congrArg Prod.fst (sTo ha0)) rfl (ltK hnn (nTo ha0)) (sdc hf (nTo ha0)) ?_
  refine y_putI ok dX9_copy_103 (fwX9_49 rfl) (congrArg Prod.fst (sTo hk)) rfl (ltK hnn (nTo hk)) (sdc hf (nTo hk)) ?_
  show WK K 0 0 106 [(0, .ref k), (1, .ref a0)] [] (eI f (S5_X9_copy k a0 I J)) (eJ f J) R n g
  refine w_aload_n ok dX9_copy_106 0 rfl ?_
  refine w_aload_n ok dX9_copy_107 1 rfl ?_
  refine y_getI ok dX9_copy_108 (fX9_52 rfl) (congrArg Prod.fst (sTo ha0)) rfl (ltK hnn (nTo ha0)) (sdc hf (nTo ha0)) ?_
  refine y_putI ok dX9_copy_111 (fwX9_52 rfl) (congrArg Prod.fst (sTo hk)) rfl (ltK hnn (nTo hk)) (sdc hf (nTo hk)) ?_
  refine w_aload_n ok dX9_copy_114 0 rfl ?_
  refine w_getR ok dX9_copy_115 (fX9_58 rfl) (congrArg Prod.fst (sTo hk)) rfl (rTo_12 hk ro) (ltK hnn (nTo hk)) ?_
  refine w_aload_n ok dX9_copy_118 1 rfl ?_
  refine w_getR ok dX9_copy_119 (fX9_58 rfl) (congrArg Prod.fst (sTo ha0)) rfl (rTo_12 ha0 ro) (ltK hnn (nTo ha0)) ?_
  refine w_cV (As := [.ref (a0 + 27)]) ok dX9_copy_122 iX1_copy (lX9_84 rfl) (rcv cls1 (congrArg Prod.fst (sLw (iTo_12 hk)))) (ltK hnn (nTo_12 hk)) (c_X1_copy ro hnn hf  (iTo_12 hk) (iTo_12 ha0) (hp1)) (by decide) rfl (Nat.le_of_ble_eq_true rfl) ?_
  show WK K 0 0 125 [(0, .ref k), (1, .ref a0)] [] (eI f (S6_X9_copy k a0 I J)) (eJ f J) R n g
  refine w_aload_n ok dX9_copy_125 0 rfl ?_
  refine w_getR ok dX9_copy_126 (fX9_62 rfl) (congrArg Prod.fst (sTo hk)) rfl (rTo_13 hk ro) (ltK hnn (nTo hk)) ?_
  refine w_aload_n ok dX9_copy_129 1 rfl ?_
  refine w_getR ok dX9_copy_130 (fX9_62 rfl) (congrArg Prod.fst (sTo ha0)) rfl (rTo_13 ha0 ro) (ltK hnn (nTo ha0)) ?_
  refine w_cV (As := [.ref (a0 + 31)]) ok dX9_copy_133 iX1_copy (lX9_84 rfl) (rcv cls1 (congrArg Prod.fst (sLw (iTo_13 hk)))) (ltK hnn (nTo_13 hk)) (c_X1_copy ro hnn hf  (iTo_13 hk) (iTo_13 ha0) (hp2)) (by decide) rfl (Nat.le_of_ble_eq_true rfl) ?_
  refine w_aload_n ok dX9_copy_136 0 rfl ?_
  refine w_getR ok dX9_copy_137 (fX9_65 rfl) (congrArg Prod.fst (sTo hk)) rfl (rTo_14 hk ro) (ltK hnn (nTo hk)) ?_
  refine w_aload_n ok dX9_copy_140 1 rfl ?_
  refine w_getR ok dX9_copy_141 (fX9_65 rfl) (congrArg Prod.fst (sTo ha0)) rfl (rTo_14 ha0 ro) (ltK hnn (nTo ha0)) ?_
  refine w_cV (As := [.ref (a0 + 35)]) ok dX9_copy_144 iX1_copy (lX9_84 rfl) (rcv cls1 (congrArg Prod.fst (sLw (iTo_14 hk)))) (ltK hnn (nTo_14 hk)) (c_X1_copy ro hnn hf  (iTo_14 hk) (iTo_14 ha0) (hp3)) (by decide) rfl (Nat.le_of_ble_eq_true rfl) ?_
  show WK K 0 0 147 [(0, .ref k), (1, .ref a0)] [] (eI f (S7_X9_copy k a0 I J)) (eJ f J) R n g
  exact w_vret ok fin dX9_copy_147 rfl (by unfold FI_X9_copy; exact Pd.i)
def B_X9_isCold_l2 (k : Nat) (a0 : Int32) (I : SI) (J : SJ) (i2 : Nat) (s2 : Unit) : (Unit) ⊕ (Int32) := if a0 < (atF (I (k + 21 + 2)) 8 (nI i2)) then .inl () else (if (atF (I (k + 21 + 3)) 8 (nI i2)) < a0 then .inl () else .inr 1)
def F_X9_isCold_l2 (k : Nat) (a0 : Int32) (I : SI) (J : SJ) (s0 : Unit) : (Unit) ⊕ (Int32) := itE (B_X9_isCold_l2 k a0 I J) ((I (k + 21) 1).toNatClampNeg) 0 s0
def F_X9_isCold (k : Nat) (a0 : Int32) (I : SI) (J : SJ) : Int32 := (match (F_X9_isCold_l2 k a0 I J ()) with | .inl se2 => 0 | .inr re2 => re2)
set_option maxHeartbeats 1000000 in
set_option maxRecDepth 40000 in
theorem c_X9_isCold {I : SI} {J : SJ} {R : SR} {n g : Nat} {f : Fr} (ro : RO R) (hnn : nK ≤ n) (hf : f.1 = true) {k : Nat} (a0 : Int32) (hk : IsTo k)   : MM 1 0 0 mX9_isCold [.ref k, .int a0] (eI f I) (eJ f J) R n g (Pd (some (.int (F_X9_isCold k a0 I J))) (eI f I) (eJ f J) R n g) := by
  refine MM.of (by decide) (Nat.le_of_ble_eq_true rfl) fun K ok fin => ?_
  show WK K 0 0 0 [(0, .ref k), (1, .int a0)] [] (eI f I) (eJ f J) R n g
  refine w_iconst (v := 0) ok dX9_isCold_0 (by decide) ?_
  refine w_istore_n ok dX9_isCold_1 rfl (by decide) rfl ?_
  refine w_loc [1, 2, 0] rfl ?_
  refine loop_e (σ := Unit) (ρ := Int32) (fun (i2 : Nat) (s2 : Unit) => WK K 0 0 2 [(0, .ref k), (1, .int a0), (2, .int (nI i2))] [] (eI f I) (eJ f J) R n g) (B_X9_isCold_l2 k a0 I J) ((I (k + 21) 1).toNatClampNeg) (()) ?_ ?_
  · intro se2 he2
    have he2 : (F_X9_isCold_l2 k a0 I J ()) = .inl se2 := he2
    show WK K 0 0 2 [(0, .ref k), (1, .int a0), (2, .int (nI ((I (k + 21) 1).toNatClampNeg)))] [] (eI f I) (eJ f J) R n g
    have e1 : (I (k + 21) 1) ≤ (nI ((I (k + 21) 1).toNatClampNeg)) := cnt_ge _
    refine w_iload_n ok dX9_isCold_2 2 rfl ?_
    refine w_aload_n ok dX9_isCold_3 0 rfl ?_
    refine w_getR ok dX9_isCold_4 (fX9_29 rfl) (congrArg Prod.fst (sTo hk)) rfl (rTo_4 hk ro) (ltK hnn (nTo hk)) ?_
    refine y_getI ok dX9_isCold_7 (fX9_87 rfl) (congrArg Prod.fst (sTb (iTo_4 hk))) rfl (ltK hnn (nTo_4 hk)) (sdc hf (nTo_4 hk)) ?_
    refine w_icmp_ge (tgt := 51) ok dX9_isCold_10 (by decide) (fun _ => ?_) (fun h => absurd e1 h)
    refine w_iconst (v := 0) ok dX9_isCold_51 (by decide) ?_
    exact w_zret ok fin dX9_isCold_52 rfl (by decide) (by unfold F_X9_isCold; simp only [he2]; exact Pd.i)
  · intro i2 s2 hi2 hs2 k2 kr2
    show WK K 0 0 2 [(0, .ref k), (1, .int a0), (2, .int (nI i2))] [] (eI f I) (eJ f J) R n g
    have e2 : ¬ ((I (k + 21) 1) ≤ (nI i2)) := cnt_lt hi2
    refine w_iload_n ok dX9_isCold_2 2 rfl ?_
    refine w_aload_n ok dX9_isCold_3 0 rfl ?_
    refine w_getR ok dX9_isCold_4 (fX9_29 rfl) (congrArg Prod.fst (sTo hk)) rfl (rTo_4 hk ro) (ltK hnn (nTo hk)) ?_
    refine y_getI ok dX9_isCold_7 (fX9_87 rfl) (congrArg Prod.fst (sTb (iTo_4 hk))) rfl (ltK hnn (nTo_4 hk)) (sdc hf (nTo_4 hk)) ?_
    refine w_icmp_ge (tgt := 51) ok dX9_isCold_10 (by decide) (fun h => absurd h e2) (fun _ => ?_)
    refine w_iload_n ok dX9_isCold_13 1 rfl ?_
    refine w_aload_n ok dX9_isCold_14 0 rfl ?_
    refine w_getR ok dX9_isCold_15 (fX9_29 rfl) (congrArg Prod.fst (sTo hk)) rfl (rTo_4 hk ro) (ltK hnn (nTo hk)) ?_
    refine w_getR ok dX9_isCold_18 (fX9_90 rfl) (congrArg Prod.fst (sTb (iTo_4 hk))) rfl (rTb_3 (iTo_4 hk) ro) (ltK hnn (nTo_4 hk)) ?_
    refine w_iload_n ok dX9_isCold_21 2 rfl ?_
    refine w_cS (As := [.ref (k + 21 + 2), .int (nI i2)]) ok dX9_isCold_22 iX11_at (lX9_93 rfl) (c_at (sTb_3 (iTo_4 hk)) (ltK hnn (nTb_3 (iTo_4 hk))) (sdc hf (nTb_3 (iTo_4 hk))) (nI i2)) (by decide) rfl (Nat.le_of_ble_eq_true rfl) ?_
    show WK K 0 0 25 [(0, .ref k), (1, .int a0), (2, .int (nI i2))] [.int (atF (I (k + 21 + 2)) 8 (nI i2)), .int a0] (eI f I) (eJ f J) R n g
    refine w_icmp_lt (tgt := 45) ok dX9_isCold_25 (by decide) (fun c3 => ?_) (fun c3 => ?_)
    · skip
      refine w_iinc (v := (nI i2) + 1) ok dX9_isCold_45 2 rfl rfl (by decide) rfl ?_
      refine w_goto (tgt := 2) ok dX9_isCold_48 (by decide) ?_
      have eB : B_X9_isCold_l2 k a0 I J i2 s2 = .inl () := by
        unfold B_X9_isCold_l2; exact (if_pos c3).trans (rfl)
      have kk := k2 _ eB
      refine w_loc [1, 2, 0] rfl ?_
      rw [nI_1 i2]
      exact kk
    · skip
      refine w_iload_n ok dX9_isCold_28 1 rfl ?_
      refine w_aload_n ok dX9_isCold_29 0 rfl ?_
      refine w_getR ok dX9_isCold_30 (fX9_29 rfl) (congrArg Prod.fst (sTo hk)) rfl (rTo_4 hk ro) (ltK hnn (nTo hk)) ?_
      refine w_getR ok dX9_isCold_33 (fX9_97 rfl) (congrArg Prod.fst (sTb (iTo_4 hk))) rfl (rTb_4 (iTo_4 hk) ro) (ltK hnn (nTo_4 hk)) ?_
      refine w_iload_n ok dX9_isCold_36 2 rfl ?_
      refine w_cS (As := [.ref (k + 21 + 3), .int (nI i2)]) ok dX9_isCold_37 iX11_at (lX9_93 rfl) (c_at (sTb_4 (iTo_4 hk)) (ltK hnn (nTb_4 (iTo_4 hk))) (sdc hf (nTb_4 (iTo_4 hk))) (nI i2)) (by decide) rfl (Nat.le_of_ble_eq_true rfl) ?_
      show WK K 0 0 40 [(0, .ref k), (1, .int a0), (2, .int (nI i2))] [.int (atF (I (k + 21 + 3)) 8 (nI i2)), .int a0] (eI f I) (eJ f J) R n g
      refine w_icmp_gt (tgt := 45) ok dX9_isCold_40 (by decide) (fun c4 => ?_) (fun c4 => ?_)
      · skip
        refine w_iinc (v := (nI i2) + 1) ok dX9_isCold_45 2 rfl rfl (by decide) rfl ?_
        refine w_goto (tgt := 2) ok dX9_isCold_48 (by decide) ?_
        have eB : B_X9_isCold_l2 k a0 I J i2 s2 = .inl () := by
          unfold B_X9_isCold_l2; exact (if_neg c3).trans ((if_pos c4).trans (rfl))
        have kk := k2 _ eB
        refine w_loc [1, 2, 0] rfl ?_
        rw [nI_1 i2]
        exact kk
      · skip
        refine w_iconst (v := 1) ok dX9_isCold_43 (by decide) ?_
        have eB : B_X9_isCold_l2 k a0 I J i2 s2 = .inr 1 := by
          unfold B_X9_isCold_l2; exact (if_neg c3).trans ((if_neg c4).trans (rfl))
        have hr : (F_X9_isCold_l2 k a0 I J ()) = .inr 1 := kr2 _ eB
        exact w_zret ok fin dX9_isCold_44 rfl (by decide) (by unfold F_X9_isCold; simp only [hr]; exact Pd.i)
def FI_X10_clear  (I : SI) (J : SJ) : SI := u2 I 120 0 0
set_option maxHeartbeats 1000000 in
set_option maxRecDepth 40000 in
theorem c_X10_clear {I : SI} {J : SJ} {R : SR} {n g : Nat} {f : Fr} (ro : RO R) (hnn : nK ≤ n) (hf : f.1 = true)    : MM 0 0 0 mX10_clear [.ref 120] (eI f I) (eJ f J) R n g (Pd none (eI f (FI_X10_clear  I J)) (eJ f J) R n g) := by
  refine MM.of (by decide) (Nat.le_of_ble_eq_true rfl) fun K ok fin => ?_
  show WK K 0 0 0 [(0, .ref 120)] [] (eI f I) (eJ f J) R n g
  refine w_aload_n ok dX10_clear_0 0 rfl ?_
  refine w_iconst (v := 0) ok dX10_clear_1 (by decide) ?_
  refine y_putI ok dX10_clear_2 (fwX10_7 rfl) (congrArg Prod.fst s_120) rfl (ltK hnn (by decide)) (sdc hf (by decide)) ?_
  exact w_vret ok fin dX10_clear_5 rfl (by unfold FI_X10_clear; exact Pd.i)
def S5_X10_add (a0 : Int32) (a1 : Int32) (a2 : Int32) (I : SI) (J : SJ) : SI := fun a => if a = 121 then va_cpy ((u2 I 120 0 19) 121) ((u2 I 120 0 19) 121) 1 0 19 else (u2 I 120 0 19) a
def S6_X10_add (a0 : Int32) (a1 : Int32) (a2 : Int32) (I : SI) (J : SJ) : SI := fun a => if a = 122 then va_cpy ((S5_X10_add a0 a1 a2 I J) 122) ((S5_X10_add a0 a1 a2 I J) 122) 1 0 19 else (S5_X10_add a0 a1 a2 I J) a
def S7_X10_add (a0 : Int32) (a1 : Int32) (a2 : Int32) (I : SI) (J : SJ) : SI := fun a => if a = 123 then va_cpy ((S6_X10_add a0 a1 a2 I J) 123) ((S6_X10_add a0 a1 a2 I J) 123) 1 0 19 else (S6_X10_add a0 a1 a2 I J) a
def T_X10_add_j60 (a0 : Int32) (a1 : Int32) (a2 : Int32) (I : SI) (J : SJ) : SI := if (I 120 0) < 20 then I else (S7_X10_add a0 a1 a2 I J)
def S1_X10_add (a0 : Int32) (a1 : Int32) (a2 : Int32) (I : SI) (J : SJ) : SI := putF (T_X10_add_j60 a0 a1 a2 I J) 121 20 (((T_X10_add_j60 a0 a1 a2 I J)) 120 0) a0
def S2_X10_add (a0 : Int32) (a1 : Int32) (a2 : Int32) (I : SI) (J : SJ) : SI := putF (S1_X10_add a0 a1 a2 I J) 122 20 (((S1_X10_add a0 a1 a2 I J)) 120 0) a1
def S3_X10_add (a0 : Int32) (a1 : Int32) (a2 : Int32) (I : SI) (J : SJ) : SI := putF (S2_X10_add a0 a1 a2 I J) 123 20 (((S2_X10_add a0 a1 a2 I J)) 120 0) a2
def S4_X10_add (a0 : Int32) (a1 : Int32) (a2 : Int32) (I : SI) (J : SJ) : SI := u2 (S3_X10_add a0 a1 a2 I J) 120 0 ((((S3_X10_add a0 a1 a2 I J)) 120 0) + 1)
def FI_X10_add (a0 : Int32) (a1 : Int32) (a2 : Int32) (I : SI) (J : SJ) : SI := (S4_X10_add a0 a1 a2 I J)
set_option maxHeartbeats 1000000 in
set_option maxRecDepth 40000 in
theorem c_X10_add {I : SI} {J : SJ} {R : SR} {n g : Nat} {f : Fr} (ro : RO R) (hnn : nK ≤ n) (hf : f.1 = true) (a0 : Int32) (a1 : Int32) (a2 : Int32)   : MM 1 0 0 mX10_add [.ref 120, .int a0, .int a1, .int a2] (eI f I) (eJ f J) R n g (Pd none (eI f (FI_X10_add a0 a1 a2 I J)) (eJ f J) R n g) := by
  refine MM.of (by decide) (Nat.le_of_ble_eq_true rfl) fun K ok fin => ?_
  show WK K 0 0 0 [(0, .ref 120), (1, .int a0), (2, .int a1), (3, .int a2)] [] (eI f I) (eJ f J) R n g
  refine w_aload_n ok dX10_add_0 0 rfl ?_
  refine y_getI ok dX10_add_1 (fX10_7 rfl) (congrArg Prod.fst s_120) rfl (ltK hnn (by decide)) (sdc hf (by decide)) ?_
  refine w_bipush (v := 20) ok dX10_add_4 (by decide) ?_
  have jn1 : WK K 0 0 60 [(0, .ref 120), (1, .int a0), (2, .int a1), (3, .int a2)] [] (eI f (T_X10_add_j60 a0 a1 a2 I J)) (eJ f J) R n g := by
    refine w_aload_n ok dX10_add_60 0 rfl ?_
    refine w_getR ok dX10_add_61 (fX10_13 rfl) (congrArg Prod.fst s_120) rfl (r_120_1 ro) (ltK hnn (by decide)) ?_
    refine w_aload_n ok dX10_add_64 0 rfl ?_
    refine y_getI ok dX10_add_65 (fX10_7 rfl) (congrArg Prod.fst s_120) rfl (ltK hnn (by decide)) (sdc hf (by decide)) ?_
    refine w_iload_n ok dX10_add_68 1 rfl ?_
    refine w_cS (As := [.ref 121, .int (((T_X10_add_j60 a0 a1 a2 I J)) 120 0), .int a0]) ok dX10_add_69 iX11_put (lX10_29 rfl) (c_put s_121 (ltK hnn (by decide)) (sdc hf (by decide)) (((T_X10_add_j60 a0 a1 a2 I J)) 120 0) a0) (by decide) rfl (Nat.le_of_ble_eq_true rfl) ?_
    show WK K 0 0 72 [(0, .ref 120), (1, .int a0), (2, .int a1), (3, .int a2)] [] (eI f (S1_X10_add a0 a1 a2 I J)) (eJ f J) R n g
    refine w_aload_n ok dX10_add_72 0 rfl ?_
    refine w_getR ok dX10_add_73 (fX10_17 rfl) (congrArg Prod.fst s_120) rfl (r_120_2 ro) (ltK hnn (by decide)) ?_
    refine w_aload_n ok dX10_add_76 0 rfl ?_
    refine y_getI ok dX10_add_77 (fX10_7 rfl) (congrArg Prod.fst s_120) rfl (ltK hnn (by decide)) (sdc hf (by decide)) ?_
    refine w_iload_n ok dX10_add_80 2 rfl ?_
    refine w_cS (As := [.ref 122, .int (((S1_X10_add a0 a1 a2 I J)) 120 0), .int a1]) ok dX10_add_81 iX11_put (lX10_29 rfl) (c_put s_122 (ltK hnn (by decide)) (sdc hf (by decide)) (((S1_X10_add a0 a1 a2 I J)) 120 0) a1) (by decide) rfl (Nat.le_of_ble_eq_true rfl) ?_
    show WK K 0 0 84 [(0, .ref 120), (1, .int a0), (2, .int a1), (3, .int a2)] [] (eI f (S2_X10_add a0 a1 a2 I J)) (eJ f J) R n g
    refine w_aload_n ok dX10_add_84 0 rfl ?_
    refine w_getR ok dX10_add_85 (fX10_20 rfl) (congrArg Prod.fst s_120) rfl (r_120_3 ro) (ltK hnn (by decide)) ?_
    refine w_aload_n ok dX10_add_88 0 rfl ?_
    refine y_getI ok dX10_add_89 (fX10_7 rfl) (congrArg Prod.fst s_120) rfl (ltK hnn (by decide)) (sdc hf (by decide)) ?_
    refine w_iload_n ok dX10_add_92 3 rfl ?_
    refine w_cS (As := [.ref 123, .int (((S2_X10_add a0 a1 a2 I J)) 120 0), .int a2]) ok dX10_add_93 iX11_put (lX10_29 rfl) (c_put s_123 (ltK hnn (by decide)) (sdc hf (by decide)) (((S2_X10_add a0 a1 a2 I J)) 120 0) a2) (by decide) rfl (Nat.le_of_ble_eq_true rfl) ?_
    show WK K 0 0 96 [(0, .ref 120), (1, .int a0), (2, .int a1), (3, .int a2)] [] (eI f (S3_X10_add a0 a1 a2 I J)) (eJ f J) R n g
    refine w_aload_n ok dX10_add_96 0 rfl ?_
    refine w_dup ok dX10_add_97 rfl ?_
    refine y_getI ok dX10_add_98 (fX10_7 rfl) (congrArg Prod.fst s_120) rfl (ltK hnn (by decide)) (sdc hf (by decide)) ?_
    refine w_iconst (v := 1) ok dX10_add_101 (by decide) ?_
    refine w_iadd ok dX10_add_102 ?_
    refine y_putI ok dX10_add_103 (fwX10_7 rfl) (congrArg Prod.fst s_120) rfl (ltK hnn (by decide)) (sdc hf (by decide)) ?_
    show WK K 0 0 106 [(0, .ref 120), (1, .int a0), (2, .int a1), (3, .int a2)] [] (eI f (S4_X10_add a0 a1 a2 I J)) (eJ f J) R n g
    exact w_vret ok fin dX10_add_106 rfl (by unfold FI_X10_add; exact Pd.i)
  refine w_icmp_lt (tgt := 60) ok dX10_add_6 (by decide) (fun c2 => ?_) (fun c2 => ?_)
  · skip
    have eT : (T_X10_add_j60 a0 a1 a2 I J) = I := by
      unfold T_X10_add_j60; exact (if_pos c2).trans (rfl)
    refine w_loc [0, 1, 2, 3] rfl ?_
    have jj := jn1
    rw [eT] at jj
    exact jj
  · skip
    refine w_aload_n ok dX10_add_9 0 rfl ?_
    refine w_bipush (v := 19) ok dX10_add_10 (by decide) ?_
    refine y_putI ok dX10_add_12 (fwX10_7 rfl) (congrArg Prod.fst s_120) rfl (ltK hnn (by decide)) (sdc hf (by decide)) ?_
    refine w_aload_n ok dX10_add_15 0 rfl ?_
    refine w_getR ok dX10_add_16 (fX10_13 rfl) (congrArg Prod.fst s_120) rfl (r_120_1 ro) (ltK hnn (by decide)) ?_
    refine w_iconst (v := 1) ok dX10_add_19 (by decide) ?_
    refine w_aload_n ok dX10_add_20 0 rfl ?_
    refine w_getR ok dX10_add_21 (fX10_13 rfl) (congrArg Prod.fst s_120) rfl (r_120_1 ro) (ltK hnn (by decide)) ?_
    refine w_iconst (v := 0) ok dX10_add_24 (by decide) ?_
    refine w_bipush (v := 19) ok dX10_add_25 (by decide) ?_
    refine y_copy (sp := 1) (dp := 0) (len := 19) ok dX10_add_27 (iT_4 185 (by decide +kernel) (by decide +kernel)) (iT_3 65 (by decide +kernel) (by decide +kernel)) (iT_3 64 (by decide +kernel) (by decide +kernel)) (iT_1 18 (by decide +kernel) (by decide +kernel)) s_121 s_121 (ltK hnn (by decide)) (ltK hnn (by decide)) (sdc hf (by decide)) (sdc hf (by decide)) rfl rfl rfl (by decide) (by decide) (by decide) (by decide) (Nat.le_of_ble_eq_true rfl) ?_
    show WK K 0 0 30 [(0, .ref 120), (1, .int a0), (2, .int a1), (3, .int a2)] [] (eI f (S5_X10_add a0 a1 a2 I J)) (eJ f J) R n g
    refine w_aload_n ok dX10_add_30 0 rfl ?_
    refine w_getR ok dX10_add_31 (fX10_17 rfl) (congrArg Prod.fst s_120) rfl (r_120_2 ro) (ltK hnn (by decide)) ?_
    refine w_iconst (v := 1) ok dX10_add_34 (by decide) ?_
    refine w_aload_n ok dX10_add_35 0 rfl ?_
    refine w_getR ok dX10_add_36 (fX10_17 rfl) (congrArg Prod.fst s_120) rfl (r_120_2 ro) (ltK hnn (by decide)) ?_
    refine w_iconst (v := 0) ok dX10_add_39 (by decide) ?_
    refine w_bipush (v := 19) ok dX10_add_40 (by decide) ?_
    refine y_copy (sp := 1) (dp := 0) (len := 19) ok dX10_add_42 (iT_4 185 (by decide +kernel) (by decide +kernel)) (iT_3 65 (by decide +kernel) (by decide +kernel)) (iT_3 64 (by decide +kernel) (by decide +kernel)) (iT_1 18 (by decide +kernel) (by decide +kernel)) s_122 s_122 (ltK hnn (by decide)) (ltK hnn (by decide)) (sdc hf (by decide)) (sdc hf (by decide)) rfl rfl rfl (by decide) (by decide) (by decide) (by decide) (Nat.le_of_ble_eq_true rfl) ?_
    show WK K 0 0 45 [(0, .ref 120), (1, .int a0), (2, .int a1), (3, .int a2)] [] (eI f (S6_X10_add a0 a1 a2 I J)) (eJ f J) R n g
    refine w_aload_n ok dX10_add_45 0 rfl ?_
    refine w_getR ok dX10_add_46 (fX10_20 rfl) (congrArg Prod.fst s_120) rfl (r_120_3 ro) (ltK hnn (by decide)) ?_
    refine w_iconst (v := 1) ok dX10_add_49 (by decide) ?_
    refine w_aload_n ok dX10_add_50 0 rfl ?_
    refine w_getR ok dX10_add_51 (fX10_20 rfl) (congrArg Prod.fst s_120) rfl (r_120_3 ro) (ltK hnn (by decide)) ?_
    refine w_iconst (v := 0) ok dX10_add_54 (by decide) ?_
    refine w_bipush (v := 19) ok dX10_add_55 (by decide) ?_
    refine y_copy (sp := 1) (dp := 0) (len := 19) ok dX10_add_57 (iT_4 185 (by decide +kernel) (by decide +kernel)) (iT_3 65 (by decide +kernel) (by decide +kernel)) (iT_3 64 (by decide +kernel) (by decide +kernel)) (iT_1 18 (by decide +kernel) (by decide +kernel)) s_123 s_123 (ltK hnn (by decide)) (ltK hnn (by decide)) (sdc hf (by decide)) (sdc hf (by decide)) rfl rfl rfl (by decide) (by decide) (by decide) (by decide) (Nat.le_of_ble_eq_true rfl) ?_
    show WK K 0 0 60 [(0, .ref 120), (1, .int a0), (2, .int a1), (3, .int a2)] [] (eI f (S7_X10_add a0 a1 a2 I J)) (eJ f J) R n g
    have eT : (T_X10_add_j60 a0 a1 a2 I J) = (S7_X10_add a0 a1 a2 I J) := by
      unfold T_X10_add_j60; exact (if_neg c2).trans (rfl)
    refine w_loc [0, 1, 2, 3] rfl ?_
    have jj := jn1
    rw [eT] at jj
    exact jj
def S1_X10_takeBack (a0 : Nat) (I : SI) (J : SJ) : SI := putF (u2 I 120 0 ((I 120 0) - 1)) (a0 + 7) 4 (atF ((u2 I 120 0 ((I 120 0) - 1)) 122) 20 ((u2 I 120 0 ((I 120 0) - 1)) 120 0)) (atF ((u2 I 120 0 ((I 120 0) - 1)) 123) 20 ((u2 I 120 0 ((I 120 0) - 1)) 120 0))
def S2_X10_takeBack (a0 : Nat) (I : SI) (J : SJ) : SI := putF (u2 I 120 0 ((I 120 0) - 1)) (a0 + 1) 8 (atF ((u2 I 120 0 ((I 120 0) - 1)) 122) 20 ((u2 I 120 0 ((I 120 0) - 1)) 120 0)) (atF ((u2 I 120 0 ((I 120 0) - 1)) 123) 20 ((u2 I 120 0 ((I 120 0) - 1)) 120 0))
def S3_X10_takeBack (a0 : Nat) (I : SI) (J : SJ) : SI := putF (u2 I 120 0 ((I 120 0) - 1)) (a0 + 5) 6 (atF ((u2 I 120 0 ((I 120 0) - 1)) 122) 20 ((u2 I 120 0 ((I 120 0) - 1)) 120 0)) (atF ((u2 I 120 0 ((I 120 0) - 1)) 123) 20 ((u2 I 120 0 ((I 120 0) - 1)) 120 0))
def F_X10_takeBack (a0 : Nat) (I : SI) (J : SJ) : Int32 := if (0 : Int32) < (I 120 0) then (if (atF ((u2 I 120 0 ((I 120 0) - 1)) 121) 20 ((u2 I 120 0 ((I 120 0) - 1)) 120 0)) = 0 then 1 else (if (atF ((u2 I 120 0 ((I 120 0) - 1)) 121) 20 ((u2 I 120 0 ((I 120 0) - 1)) 120 0)) = 1 then 1 else 1)) else 0
def FI_X10_takeBack (a0 : Nat) (I : SI) (J : SJ) : SI := if (0 : Int32) < (I 120 0) then (if (atF ((u2 I 120 0 ((I 120 0) - 1)) 121) 20 ((u2 I 120 0 ((I 120 0) - 1)) 120 0)) = 0 then (S1_X10_takeBack a0 I J) else (if (atF ((u2 I 120 0 ((I 120 0) - 1)) 121) 20 ((u2 I 120 0 ((I 120 0) - 1)) 120 0)) = 1 then (S2_X10_takeBack a0 I J) else (S3_X10_takeBack a0 I J))) else I
set_option maxHeartbeats 1000000 in
set_option maxRecDepth 40000 in
theorem c_X10_takeBack {I : SI} {J : SJ} {R : SR} {n g : Nat} {f : Fr} (ro : RO R) (hnn : nK ≤ n) (hf : f.1 = true) {a0 : Nat} (ha0 : IsSc a0)   : MM 1 0 0 mX10_takeBack [.ref 120, .ref a0] (eI f I) (eJ f J) R n g (Pd (some (.int (F_X10_takeBack a0 I J))) (eI f (FI_X10_takeBack a0 I J)) (eJ f J) R n g) := by
  refine MM.of (by decide) (Nat.le_of_ble_eq_true rfl) fun K ok fin => ?_
  show WK K 0 0 0 [(0, .ref 120), (1, .ref a0)] [] (eI f I) (eJ f J) R n g
  refine w_aload_n ok dX10_takeBack_0 0 rfl ?_
  refine y_getI ok dX10_takeBack_1 (fX10_7 rfl) (congrArg Prod.fst s_120) rfl (ltK hnn (by decide)) (sdc hf (by decide)) ?_
  refine w_if_gt (tgt := 9) ok dX10_takeBack_4 (by decide) (fun c1 => ?_) (fun c1 => ?_)
  · skip
    refine w_aload_n ok dX10_takeBack_9 0 rfl ?_
    refine w_dup ok dX10_takeBack_10 rfl ?_
    refine y_getI ok dX10_takeBack_11 (fX10_7 rfl) (congrArg Prod.fst s_120) rfl (ltK hnn (by decide)) (sdc hf (by decide)) ?_
    refine w_iconst (v := 1) ok dX10_takeBack_14 (by decide) ?_
    refine w_isub ok dX10_takeBack_15 ?_
    refine y_putI ok dX10_takeBack_16 (fwX10_7 rfl) (congrArg Prod.fst s_120) rfl (ltK hnn (by decide)) (sdc hf (by decide)) ?_
    refine w_aload_n ok dX10_takeBack_19 0 rfl ?_
    refine w_getR ok dX10_takeBack_20 (fX10_17 rfl) (congrArg Prod.fst s_120) rfl (r_120_2 ro) (ltK hnn (by decide)) ?_
    refine w_aload_n ok dX10_takeBack_23 0 rfl ?_
    refine y_getI ok dX10_takeBack_24 (fX10_7 rfl) (congrArg Prod.fst s_120) rfl (ltK hnn (by decide)) (sdc hf (by decide)) ?_
    refine w_cS (As := [.ref 122, .int ((u2 I 120 0 ((I 120 0) - 1)) 120 0)]) ok dX10_takeBack_27 iX11_at (lX10_35 rfl) (c_at s_122 (ltK hnn (by decide)) (sdc hf (by decide)) ((u2 I 120 0 ((I 120 0) - 1)) 120 0)) (by decide) rfl (Nat.le_of_ble_eq_true rfl) ?_
    refine w_istore_n ok dX10_takeBack_30 rfl (by decide) rfl ?_
    refine w_aload_n ok dX10_takeBack_31 1 rfl ?_
    refine w_getR ok dX10_takeBack_32 (fX10_20 rfl) (congrArg Prod.fst s_120) rfl (r_120_3 ro) (ltK hnn (by decide)) ?_
    refine w_aload_n ok dX10_takeBack_35 1 rfl ?_
    refine y_getI ok dX10_takeBack_36 (fX10_7 rfl) (congrArg Prod.fst s_120) rfl (ltK hnn (by decide)) (sdc hf (by decide)) ?_
    refine w_cS (As := [.ref 123, .int ((u2 I 120 0 ((I 120 0) - 1)) 120 0)]) ok dX10_takeBack_39 iX11_at (lX10_35 rfl) (c_at s_123 (ltK hnn (by decide)) (sdc hf (by decide)) ((u2 I 120 0 ((I 120 0) - 1)) 120 0)) (by decide) rfl (Nat.le_of_ble_eq_true rfl) ?_
    refine w_istore_n ok dX10_takeBack_42 rfl (by decide) rfl ?_
    refine w_aload_n ok dX10_takeBack_43 2 rfl ?_
    refine w_getR ok dX10_takeBack_44 (fX10_13 rfl) (congrArg Prod.fst s_120) rfl (r_120_1 ro) (ltK hnn (by decide)) ?_
    refine w_aload_n ok dX10_takeBack_47 2 rfl ?_
    refine y_getI ok dX10_takeBack_48 (fX10_7 rfl) (congrArg Prod.fst s_120) rfl (ltK hnn (by decide)) (sdc hf (by decide)) ?_
    refine w_cS (As := [.ref 121, .int ((u2 I 120 0 ((I 120 0) - 1)) 120 0)]) ok dX10_takeBack_51 iX11_at (lX10_35 rfl) (c_at s_121 (ltK hnn (by decide)) (sdc hf (by decide)) ((u2 I 120 0 ((I 120 0) - 1)) 120 0)) (by decide) rfl (Nat.le_of_ble_eq_true rfl) ?_
    by_cases c2 : (atF ((u2 I 120 0 ((I 120 0) - 1)) 121) 20 ((u2 I 120 0 ((I 120 0) - 1)) 120 0)) = 0
    · skip
      refine w_lkp (tgt := 80) (off := 26) ok dX10_takeBack_54 (by decide) (by rw [c2]; rfl) (by decide) ?_
      refine w_aload_n ok dX10_takeBack_80 3 rfl ?_
      refine w_getR ok dX10_takeBack_81 (fX10_39 rfl) (congrArg Prod.fst (sSc ha0)) rfl (rSc_13 ha0 ro) (ltK hnn (nSc ha0)) ?_
      refine w_iload_n ok dX10_takeBack_84 1 rfl ?_
      refine w_iload_n ok dX10_takeBack_85 0 rfl ?_
      refine w_cS (As := [.ref (a0 + 7), .int (atF ((u2 I 120 0 ((I 120 0) - 1)) 122) 20 ((u2 I 120 0 ((I 120 0) - 1)) 120 0)), .int (atF ((u2 I 120 0 ((I 120 0) - 1)) 123) 20 ((u2 I 120 0 ((I 120 0) - 1)) 120 0))]) ok dX10_takeBack_86 iX11_put (lX10_29 rfl) (c_put (sSc_13 ha0) (ltK hnn (nSc_13 ha0)) (sdc hf (nSc_13 ha0)) (atF ((u2 I 120 0 ((I 120 0) - 1)) 122) 20 ((u2 I 120 0 ((I 120 0) - 1)) 120 0)) (atF ((u2 I 120 0 ((I 120 0) - 1)) 123) 20 ((u2 I 120 0 ((I 120 0) - 1)) 120 0))) (by decide) rfl (Nat.le_of_ble_eq_true rfl) ?_
      show WK K 0 0 89 [(3, .int (atF ((u2 I 120 0 ((I 120 0) - 1)) 123) 20 ((u2 I 120 0 ((I 120 0) - 1)) 120 0))), (2, .int (atF ((u2 I 120 0 ((I 120 0) - 1)) 122) 20 ((u2 I 120 0 ((I 120 0) - 1)) 120 0))), (0, .ref 120), (1, .ref a0)] [] (eI f (S1_X10_takeBack a0 I J)) (eJ f J) R n g
      refine w_goto (tgt := 113) ok dX10_takeBack_89 (by decide) ?_
      refine w_iconst (v := 1) ok dX10_takeBack_113 (by decide) ?_
      exact w_zret ok fin dX10_takeBack_114 rfl (by decide) (by unfold F_X10_takeBack FI_X10_takeBack; simp only [if_pos c1]; simp only [if_pos c2]; exact Pd.i)
    · skip
      by_cases c3 : (atF ((u2 I 120 0 ((I 120 0) - 1)) 121) 20 ((u2 I 120 0 ((I 120 0) - 1)) 120 0)) = 1
      · skip
        refine w_lkp (tgt := 92) (off := 38) ok dX10_takeBack_54 (by decide) (by rw [c3]; rfl) (by decide) ?_
        refine w_aload_n ok dX10_takeBack_92 3 rfl ?_
        refine w_getR ok dX10_takeBack_93 (fX10_44 rfl) (congrArg Prod.fst (sSc ha0)) rfl (rSc_7 ha0 ro) (ltK hnn (nSc ha0)) ?_
        refine w_iload_n ok dX10_takeBack_96 1 rfl ?_
        refine w_iload_n ok dX10_takeBack_97 0 rfl ?_
        refine w_cS (As := [.ref (a0 + 1), .int (atF ((u2 I 120 0 ((I 120 0) - 1)) 122) 20 ((u2 I 120 0 ((I 120 0) - 1)) 120 0)), .int (atF ((u2 I 120 0 ((I 120 0) - 1)) 123) 20 ((u2 I 120 0 ((I 120 0) - 1)) 120 0))]) ok dX10_takeBack_98 iX11_put (lX10_29 rfl) (c_put (sSc_7 ha0) (ltK hnn (nSc_7 ha0)) (sdc hf (nSc_7 ha0)) (atF ((u2 I 120 0 ((I 120 0) - 1)) 122) 20 ((u2 I 120 0 ((I 120 0) - 1)) 120 0)) (atF ((u2 I 120 0 ((I 120 0) - 1)) 123) 20 ((u2 I 120 0 ((I 120 0) - 1)) 120 0))) (by decide) rfl (Nat.le_of_ble_eq_true rfl) ?_
        show WK K 0 0 101 [(3, .int (atF ((u2 I 120 0 ((I 120 0) - 1)) 123) 20 ((u2 I 120 0 ((I 120 0) - 1)) 120 0))), (2, .int (atF ((u2 I 120 0 ((I 120 0) - 1)) 122) 20 ((u2 I 120 0 ((I 120 0) - 1)) 120 0))), (0, .ref 120), (1, .ref a0)] [] (eI f (S2_X10_takeBack a0 I J)) (eJ f J) R n g
        refine w_goto (tgt := 113) ok dX10_takeBack_101 (by decide) ?_
        refine w_iconst (v := 1) ok dX10_takeBack_113 (by decide) ?_
        exact w_zret ok fin dX10_takeBack_114 rfl (by decide) (by unfold F_X10_takeBack FI_X10_takeBack; simp only [if_pos c1]; simp only [if_neg c2]; simp only [if_pos c3]; exact Pd.i)
      · skip
        have n4 : (atF ((u2 I 120 0 ((I 120 0) - 1)) 121) 20 ((u2 I 120 0 ((I 120 0) - 1)) 120 0)).toInt ≠ 0 := ne_toInt c2
        have n5 : (atF ((u2 I 120 0 ((I 120 0) - 1)) 121) 20 ((u2 I 120 0 ((I 120 0) - 1)) 120 0)).toInt ≠ 1 := ne_toInt c3
        refine w_lkp (tgt := 104) (off := 50) ok dX10_takeBack_54 (by decide) (by simp [Op.lookupswitch.offset, n4, n5, Ne.symm n4, Ne.symm n5]) (by decide) ?_
        refine w_aload_n ok dX10_takeBack_104 3 rfl ?_
        refine w_getR ok dX10_takeBack_105 (fX10_47 rfl) (congrArg Prod.fst (sSc ha0)) rfl (rSc_11 ha0 ro) (ltK hnn (nSc ha0)) ?_
        refine w_iload_n ok dX10_takeBack_108 1 rfl ?_
        refine w_iload_n ok dX10_takeBack_109 0 rfl ?_
        refine w_cS (As := [.ref (a0 + 5), .int (atF ((u2 I 120 0 ((I 120 0) - 1)) 122) 20 ((u2 I 120 0 ((I 120 0) - 1)) 120 0)), .int (atF ((u2 I 120 0 ((I 120 0) - 1)) 123) 20 ((u2 I 120 0 ((I 120 0) - 1)) 120 0))]) ok dX10_takeBack_110 iX11_put (lX10_29 rfl) (c_put (sSc_11 ha0) (ltK hnn (nSc_11 ha0)) (sdc hf (nSc_11 ha0)) (atF ((u2 I 120 0 ((I 120 0) - 1)) 122) 20 ((u2 I 120 0 ((I 120 0) - 1)) 120 0)) (atF ((u2 I 120 0 ((I 120 0) - 1)) 123) 20 ((u2 I 120 0 ((I 120 0) - 1)) 120 0))) (by decide) rfl (Nat.le_of_ble_eq_true rfl) ?_
        show WK K 0 0 113 [(3, .int (atF ((u2 I 120 0 ((I 120 0) - 1)) 123) 20 ((u2 I 120 0 ((I 120 0) - 1)) 120 0))), (2, .int (atF ((u2 I 120 0 ((I 120 0) - 1)) 122) 20 ((u2 I 120 0 ((I 120 0) - 1)) 120 0))), (0, .ref 120), (1, .ref a0)] [] (eI f (S3_X10_takeBack a0 I J)) (eJ f J) R n g
        refine w_iconst (v := 1) ok dX10_takeBack_113 (by decide) ?_
        exact w_zret ok fin dX10_takeBack_114 rfl (by decide) (by unfold F_X10_takeBack FI_X10_takeBack; simp only [if_pos c1]; simp only [if_neg c2]; simp only [if_neg c3]; exact Pd.i)
  · skip
    refine w_iconst (v := 0) ok dX10_takeBack_7 (by decide) ?_
    exact w_zret ok fin dX10_takeBack_8 rfl (by decide) (by unfold F_X10_takeBack FI_X10_takeBack; simp only [if_neg c1]; exact Pd.i)
def S1_X11_feed (a0 : Int32) (a1 : Int32) (a2 : Int32) (a3 : Int32) (a4 : Int32) (I : SI) (J : SJ) : SI := FI_X11_write a3 (FI_X11_write a2 (FI_X11_write a1 (FI_X11_write a0 I J) J) J) J
def F_X11_feed (a0 : Int32) (a1 : Int32) (a2 : Int32) (a3 : Int32) (a4 : Int32) (I : SI) (J : SJ) : Int32 := if (I 0 1) ≤ 680 then (FI_X11_write a4 (S1_X11_feed a0 a1 a2 a3 a4 I J) J) 0 1 else -1
def FI_X11_feed (a0 : Int32) (a1 : Int32) (a2 : Int32) (a3 : Int32) (a4 : Int32) (I : SI) (J : SJ) : SI := if (I 0 1) ≤ 680 then FI_X11_write a4 (S1_X11_feed a0 a1 a2 a3 a4 I J) J else I
def H_X11_feed (a0 : Int32) (a1 : Int32) (a2 : Int32) (a3 : Int32) (a4 : Int32) (I : SI) (J : SJ) : Prop := ((I 0 1) ≤ 680 → H_X11_write a0 I J) ∧ ((I 0 1) ≤ 680 → H_X11_write a1 (FI_X11_write a0 I J) J) ∧ ((I 0 1) ≤ 680 → H_X11_write a2 (FI_X11_write a1 (FI_X11_write a0 I J) J) J) ∧ ((I 0 1) ≤ 680 → H_X11_write a3 (FI_X11_write a2 (FI_X11_write a1 (FI_X11_write a0 I J) J) J) J) ∧ ((I 0 1) ≤ 680 → H_X11_write a4 (S1_X11_feed a0 a1 a2 a3 a4 I J) J)
set_option maxHeartbeats 1000000 in
set_option maxRecDepth 40000 in
theorem c_X11_feed {I : SI} {J : SJ} {R : SR} {n g : Nat} {f : Fr} (ro : RO R) (hnn : nK ≤ n) (hf : f.1 = true) (a0 : Int32) (a1 : Int32) (a2 : Int32) (a3 : Int32) (a4 : Int32)  (hp : H_X11_feed a0 a1 a2 a3 a4 I J) : MM 1 0 0 mX11_feed [.ref 0, .int a0, .int a1, .int a2, .int a3, .int a4] (eI f I) (eJ f J) R n g (Pd (some (.int (F_X11_feed a0 a1 a2 a3 a4 I J))) (eI f (FI_X11_feed a0 a1 a2 a3 a4 I J)) (eJ f J) R n g) := by
  refine MM.of (by decide) (Nat.le_of_ble_eq_true rfl) fun K ok fin => ?_
  show WK K 0 0 0 [(0, .ref 0), (1, .int a0), (2, .int a1), (3, .int a2), (4, .int a3), (5, .int a4)] [] (eI f I) (eJ f J) R n g
  obtain ⟨hp1, hp2, hp3, hp4, hp5⟩ := hp
  refine w_aload_n ok dX11_feed_0 0 rfl ?_
  refine y_getI ok dX11_feed_1 (fX11_13 rfl) (congrArg Prod.fst s_0) rfl (ltK hnn (by decide)) (sdc hf (by decide)) ?_
  refine w_sipush (v := 680) ok dX11_feed_4 (by decide) ?_
  refine w_icmp_le (tgt := 12) ok dX11_feed_7 (by decide) (fun c1 => ?_) (fun c1 => ?_)
  · skip
    refine w_aload_n ok dX11_feed_12 0 rfl ?_
    refine w_iload_n ok dX11_feed_13 1 rfl ?_
    refine w_cV (As := [.int a0]) ok dX11_feed_14 iX11_write (lX11_85 rfl) (rcv cls11 (congrArg Prod.fst s_0)) (ltK hnn (by decide)) (c_X11_write ro hnn hf a0  (hp1 c1)) (by decide) rfl (Nat.le_of_ble_eq_true rfl) ?_
    refine w_aload_n ok dX11_feed_17 0 rfl ?_
    refine w_iload_n ok dX11_feed_18 2 rfl ?_
    refine w_cV (As := [.int a1]) ok dX11_feed_19 iX11_write (lX11_85 rfl) (rcv cls11 (congrArg Prod.fst s_0)) (ltK hnn (by decide)) (c_X11_write ro hnn hf a1  (hp2 c1)) (by decide) rfl (Nat.le_of_ble_eq_true rfl) ?_
    refine w_aload_n ok dX11_feed_22 0 rfl ?_
    refine w_iload_n ok dX11_feed_23 3 rfl ?_
    refine w_cV (As := [.int a2]) ok dX11_feed_24 iX11_write (lX11_85 rfl) (rcv cls11 (congrArg Prod.fst s_0)) (ltK hnn (by decide)) (c_X11_write ro hnn hf a2  (hp3 c1)) (by decide) rfl (Nat.le_of_ble_eq_true rfl) ?_
    refine w_aload_n ok dX11_feed_27 0 rfl ?_
    refine w_iload ok dX11_feed_28 4 rfl ?_
    refine w_cV (As := [.int a3]) ok dX11_feed_30 iX11_write (lX11_85 rfl) (rcv cls11 (congrArg Prod.fst s_0)) (ltK hnn (by decide)) (c_X11_write ro hnn hf a3  (hp4 c1)) (by decide) rfl (Nat.le_of_ble_eq_true rfl) ?_
    show WK K 0 0 33 [(0, .ref 0), (1, .int a0), (2, .int a1), (3, .int a2), (4, .int a3), (5, .int a4)] [] (eI f (S1_X11_feed a0 a1 a2 a3 a4 I J)) (eJ f J) R n g
    refine w_aload_n ok dX11_feed_33 0 rfl ?_
    refine w_iload ok dX11_feed_34 5 rfl ?_
    refine w_cV (As := [.int a4]) ok dX11_feed_36 iX11_write (lX11_85 rfl) (rcv cls11 (congrArg Prod.fst s_0)) (ltK hnn (by decide)) (c_X11_write ro hnn hf a4  (hp5 c1)) (by decide) rfl (Nat.le_of_ble_eq_true rfl) ?_
    refine w_aload_n ok dX11_feed_39 0 rfl ?_
    refine y_getI ok dX11_feed_40 (fX11_13 rfl) (congrArg Prod.fst s_0) rfl (ltK hnn (by decide)) (sdc hf (by decide)) ?_
    exact w_iret ok fin dX11_feed_43 rfl (by unfold F_X11_feed FI_X11_feed; simp only [if_pos c1]; exact Pd.i)
  · skip
    refine w_iconst (v := (-1)) ok dX11_feed_10 (by decide) ?_
    exact w_iret ok fin dX11_feed_11 rfl (by unfold F_X11_feed FI_X11_feed; simp only [if_neg c1]; exact Pd.i)
def F_X11_named (a0 : Int32) (a1 : Int32) (I : SI) (J : SJ) : Int32 := if a0 = 0 then F_X7_find 3 a1 I J else (if a0 = 1 then F_X7_find 8 a1 I J else (if a0 = 2 then F_X7_find 13 a1 I J else (if a0 = 3 then F_X7_find 18 a1 I J else -1)))
set_option maxHeartbeats 1000000 in
set_option maxRecDepth 40000 in
theorem c_X11_named {I : SI} {J : SJ} {R : SR} {n g : Nat} {f : Fr} (ro : RO R) (hnn : nK ≤ n) (hf : f.1 = true) (a0 : Int32) (a1 : Int32)   : MM 2 0 0 mX11_named [.ref 0, .int a0, .int a1] (eI f I) (eJ f J) R n g (Pd (some (.int (F_X11_named a0 a1 I J))) (eI f I) (eJ f J) R n g) := by
  refine MM.of (by decide) (Nat.le_of_ble_eq_true rfl) fun K ok fin => ?_
  show WK K 0 0 0 [(0, .ref 0), (1, .int a0), (2, .int a1)] [] (eI f I) (eJ f J) R n g
  refine w_iload_n ok dX11_named_0 1 rfl ?_
  by_cases c1 : a0 = 0
  · skip
    refine w_tabIn (tgt := 32) (off := 31) ok dX11_named_1 (by rw [c1]; decide) (by rw [c1]; decide) (by rw [c1]; rfl) (by decide) ?_
    refine w_aload_n ok dX11_named_32 0 rfl ?_
    refine w_getR ok dX11_named_33 (fX11_20 rfl) (congrArg Prod.fst s_0) rfl (r_0_2 ro) (ltK hnn (by decide)) ?_
    refine w_getR ok dX11_named_36 (fX11_112 rfl) (congrArg Prod.fst s_2) rfl (r_2_0 ro) (ltK hnn (by decide)) ?_
    refine w_iload_n ok dX11_named_39 2 rfl ?_
    refine w_cV (As := [.int a1]) ok dX11_named_40 iX7_find (lX11_116 rfl) (rcv cls7 (congrArg Prod.fst s_3)) (ltK hnn (by decide)) (c_X7_find ro hnn hf a1 isTb_3) (by decide) rfl (Nat.le_of_ble_eq_true rfl) ?_
    exact w_iret ok fin dX11_named_43 rfl (by unfold F_X11_named; simp only [if_pos c1]; exact Pd.i)
  · skip
    by_cases c2 : a0 = 1
    · skip
      refine w_tabIn (tgt := 44) (off := 43) ok dX11_named_1 (by rw [c2]; decide) (by rw [c2]; decide) (by rw [c2]; rfl) (by decide) ?_
      refine w_aload_n ok dX11_named_44 0 rfl ?_
      refine w_getR ok dX11_named_45 (fX11_20 rfl) (congrArg Prod.fst s_0) rfl (r_0_2 ro) (ltK hnn (by decide)) ?_
      refine w_getR ok dX11_named_48 (fX11_122 rfl) (congrArg Prod.fst s_2) rfl (r_2_1 ro) (ltK hnn (by decide)) ?_
      refine w_iload_n ok dX11_named_51 2 rfl ?_
      refine w_cV (As := [.int a1]) ok dX11_named_52 iX7_find (lX11_116 rfl) (rcv cls7 (congrArg Prod.fst s_8)) (ltK hnn (by decide)) (c_X7_find ro hnn hf a1 isTb_8) (by decide) rfl (Nat.le_of_ble_eq_true rfl) ?_
      exact w_iret ok fin dX11_named_55 rfl (by unfold F_X11_named; simp only [if_neg c1]; simp only [if_pos c2]; exact Pd.i)
    · skip
      by_cases c3 : a0 = 2
      · skip
        refine w_tabIn (tgt := 56) (off := 55) ok dX11_named_1 (by rw [c3]; decide) (by rw [c3]; decide) (by rw [c3]; rfl) (by decide) ?_
        refine w_aload_n ok dX11_named_56 0 rfl ?_
        refine w_getR ok dX11_named_57 (fX11_20 rfl) (congrArg Prod.fst s_0) rfl (r_0_2 ro) (ltK hnn (by decide)) ?_
        refine w_getR ok dX11_named_60 (fX11_125 rfl) (congrArg Prod.fst s_2) rfl (r_2_2 ro) (ltK hnn (by decide)) ?_
        refine w_iload_n ok dX11_named_63 2 rfl ?_
        refine w_cV (As := [.int a1]) ok dX11_named_64 iX7_find (lX11_116 rfl) (rcv cls7 (congrArg Prod.fst s_13)) (ltK hnn (by decide)) (c_X7_find ro hnn hf a1 isTb_13) (by decide) rfl (Nat.le_of_ble_eq_true rfl) ?_
        exact w_iret ok fin dX11_named_67 rfl (by unfold F_X11_named; simp only [if_neg c1]; simp only [if_neg c2]; simp only [if_pos c3]; exact Pd.i)
      · skip
        by_cases c4 : a0 = 3
        · skip
          refine w_tabIn (tgt := 68) (off := 67) ok dX11_named_1 (by rw [c4]; decide) (by rw [c4]; decide) (by rw [c4]; rfl) (by decide) ?_
          refine w_aload_n ok dX11_named_68 0 rfl ?_
          refine w_getR ok dX11_named_69 (fX11_20 rfl) (congrArg Prod.fst s_0) rfl (r_0_2 ro) (ltK hnn (by decide)) ?_
          refine w_getR ok dX11_named_72 (fX11_128 rfl) (congrArg Prod.fst s_2) rfl (r_2_3 ro) (ltK hnn (by decide)) ?_
          refine w_iload_n ok dX11_named_75 2 rfl ?_
          refine w_cV (As := [.int a1]) ok dX11_named_76 iX7_find (lX11_116 rfl) (rcv cls7 (congrArg Prod.fst s_18)) (ltK hnn (by decide)) (c_X7_find ro hnn hf a1 isTb_18) (by decide) rfl (Nat.le_of_ble_eq_true rfl) ?_
          exact w_iret ok fin dX11_named_79 rfl (by unfold F_X11_named; simp only [if_neg c1]; simp only [if_neg c2]; simp only [if_neg c3]; simp only [if_pos c4]; exact Pd.i)
        · skip
          have n5 : a0.toInt ≠ 0 := ne_toInt c1
          have n6 : a0.toInt ≠ 1 := ne_toInt c2
          have n7 : a0.toInt ≠ 2 := ne_toInt c3
          have n8 : a0.toInt ≠ 3 := ne_toInt c4
          refine w_tabOut (tgt := 80) ok dX11_named_1 (by omega) (by decide) ?_
          refine w_iconst (v := (-1)) ok dX11_named_80 (by decide) ?_
          exact w_iret ok fin dX11_named_81 rfl (by unfold F_X11_named; simp only [if_neg c1]; simp only [if_neg c2]; simp only [if_neg c3]; simp only [if_neg c4]; exact Pd.i)
def F_X11_shot (a0 : Int32) (a1 : Int32) (I : SI) (J : SJ) : Int32 := if (F_X7_holds 8 a0 I J) = 0 then -1 else (if a1 = 0 then atF (I 10) 8 a0 else (if a1 = 1 then atF (I 87) 8 a0 else (if a1 = 2 then atF (I 88) 8 a0 else (if a1 = 3 then (if (atF (I 88) 8 a0) = 0 then 0 else F_X5_clashing 86 a0 I J) else (if a1 = 4 then atF (I 89) 8 a0 else -1)))))
set_option maxHeartbeats 1000000 in
set_option maxRecDepth 40000 in
theorem c_X11_shot {I : SI} {J : SJ} {R : SR} {n g : Nat} {f : Fr} (ro : RO R) (hnn : nK ≤ n) (hf : f.1 = true) (a0 : Int32) (a1 : Int32)   : MM 3 0 0 mX11_shot [.ref 0, .int a0, .int a1] (eI f I) (eJ f J) R n g (Pd (some (.int (F_X11_shot a0 a1 I J))) (eI f I) (eJ f J) R n g) := by
  refine MM.of (by decide) (Nat.le_of_ble_eq_true rfl) fun K ok fin => ?_
  show WK K 0 0 0 [(0, .ref 0), (1, .int a0), (2, .int a1)] [] (eI f I) (eJ f J) R n g
  refine w_aload_n ok dX11_shot_0 0 rfl ?_
  refine w_getR ok dX11_shot_1 (fX11_20 rfl) (congrArg Prod.fst s_0) rfl (r_0_2 ro) (ltK hnn (by decide)) ?_
  refine w_getR ok dX11_shot_4 (fX11_122 rfl) (congrArg Prod.fst s_2) rfl (r_2_1 ro) (ltK hnn (by decide)) ?_
  refine w_iload_n ok dX11_shot_7 1 rfl ?_
  refine w_cV (As := [.int a0]) ok dX11_shot_8 iX7_holds (lX11_131 rfl) (rcv cls7 (congrArg Prod.fst s_8)) (ltK hnn (by decide)) (c_X7_holds ro hnn hf a0 isTb_8) (by decide) rfl (Nat.le_of_ble_eq_true rfl) ?_
  refine w_if_ne (tgt := 16) ok dX11_shot_11 (by decide) (fun c1 => ?_) (fun c1 => ?_)
  · skip
    refine w_iload_n ok dX11_shot_16 2 rfl ?_
    by_cases c2 : a1 = 0
    · skip
      refine w_tabIn (tgt := 52) (off := 35) ok dX11_shot_17 (by rw [c2]; decide) (by rw [c2]; decide) (by rw [c2]; rfl) (by decide) ?_
      refine w_aload_n ok dX11_shot_52 0 rfl ?_
      refine w_getR ok dX11_shot_53 (fX11_20 rfl) (congrArg Prod.fst s_0) rfl (r_0_2 ro) (ltK hnn (by decide)) ?_
      refine w_getR ok dX11_shot_56 (fX11_122 rfl) (congrArg Prod.fst s_2) rfl (r_2_1 ro) (ltK hnn (by decide)) ?_
      refine w_getR ok dX11_shot_59 (fX11_142 rfl) (congrArg Prod.fst s_8) rfl (r_8_3 ro) (ltK hnn (by decide)) ?_
      refine w_iload_n ok dX11_shot_62 1 rfl ?_
      refine w_cS (As := [.ref 10, .int a0]) ok dX11_shot_63 iX11_at (lX11_146 rfl) (c_at s_10 (ltK hnn (by decide)) (sdc hf (by decide)) a0) (by decide) rfl (Nat.le_of_ble_eq_true rfl) ?_
      exact w_iret ok fin dX11_shot_66 rfl (by unfold F_X11_shot; simp only [if_neg c1]; simp only [if_pos c2]; exact Pd.i)
    · skip
      by_cases c3 : a1 = 1
      · skip
        refine w_tabIn (tgt := 67) (off := 50) ok dX11_shot_17 (by rw [c3]; decide) (by rw [c3]; decide) (by rw [c3]; rfl) (by decide) ?_
        refine w_aload_n ok dX11_shot_67 0 rfl ?_
        refine w_getR ok dX11_shot_68 (fX11_34 rfl) (congrArg Prod.fst s_0) rfl (r_0_4 ro) (ltK hnn (by decide)) ?_
        refine w_getR ok dX11_shot_71 (fX11_168 rfl) (congrArg Prod.fst s_86) rfl (r_86_7 ro) (ltK hnn (by decide)) ?_
        refine w_iload_n ok dX11_shot_74 1 rfl ?_
        refine w_cS (As := [.ref 87, .int a0]) ok dX11_shot_75 iX11_at (lX11_146 rfl) (c_at s_87 (ltK hnn (by decide)) (sdc hf (by decide)) a0) (by decide) rfl (Nat.le_of_ble_eq_true rfl) ?_
        exact w_iret ok fin dX11_shot_78 rfl (by unfold F_X11_shot; simp only [if_neg c1]; simp only [if_neg c2]; simp only [if_pos c3]; exact Pd.i)
      · skip
        by_cases c4 : a1 = 2
        · skip
          refine w_tabIn (tgt := 79) (off := 62) ok dX11_shot_17 (by rw [c4]; decide) (by rw [c4]; decide) (by rw [c4]; rfl) (by decide) ?_
          refine w_aload_n ok dX11_shot_79 0 rfl ?_
          refine w_getR ok dX11_shot_80 (fX11_34 rfl) (congrArg Prod.fst s_0) rfl (r_0_4 ro) (ltK hnn (by decide)) ?_
          refine w_getR ok dX11_shot_83 (fX11_171 rfl) (congrArg Prod.fst s_86) rfl (r_86_8 ro) (ltK hnn (by decide)) ?_
          refine w_iload_n ok dX11_shot_86 1 rfl ?_
          refine w_cS (As := [.ref 88, .int a0]) ok dX11_shot_87 iX11_at (lX11_146 rfl) (c_at s_88 (ltK hnn (by decide)) (sdc hf (by decide)) a0) (by decide) rfl (Nat.le_of_ble_eq_true rfl) ?_
          exact w_iret ok fin dX11_shot_90 rfl (by unfold F_X11_shot; simp only [if_neg c1]; simp only [if_neg c2]; simp only [if_neg c3]; simp only [if_pos c4]; exact Pd.i)
        · skip
          by_cases c5 : a1 = 3
          · skip
            refine w_tabIn (tgt := 91) (off := 74) ok dX11_shot_17 (by rw [c5]; decide) (by rw [c5]; decide) (by rw [c5]; rfl) (by decide) ?_
            refine w_aload_n ok dX11_shot_91 0 rfl ?_
            refine w_getR ok dX11_shot_92 (fX11_34 rfl) (congrArg Prod.fst s_0) rfl (r_0_4 ro) (ltK hnn (by decide)) ?_
            refine w_getR ok dX11_shot_95 (fX11_171 rfl) (congrArg Prod.fst s_86) rfl (r_86_8 ro) (ltK hnn (by decide)) ?_
            refine w_iload_n ok dX11_shot_98 1 rfl ?_
            refine w_cS (As := [.ref 88, .int a0]) ok dX11_shot_99 iX11_at (lX11_146 rfl) (c_at s_88 (ltK hnn (by decide)) (sdc hf (by decide)) a0) (by decide) rfl (Nat.le_of_ble_eq_true rfl) ?_
            refine w_if_ne (tgt := 109) ok dX11_shot_102 (by decide) (fun c6 => ?_) (fun c6 => ?_)
            · skip
              refine w_aload_n ok dX11_shot_109 0 rfl ?_
              refine w_getR ok dX11_shot_110 (fX11_34 rfl) (congrArg Prod.fst s_0) rfl (r_0_4 ro) (ltK hnn (by decide)) ?_
              refine w_iload_n ok dX11_shot_113 1 rfl ?_
              refine w_cV (As := [.int a0]) ok dX11_shot_114 iX5_clashing (lX11_174 rfl) (rcv cls5 (congrArg Prod.fst s_86)) (ltK hnn (by decide)) (c_X5_clashing ro hnn hf a0 isSc_86) (by decide) rfl (Nat.le_of_ble_eq_true rfl) ?_
              exact w_iret ok fin dX11_shot_117 rfl (by unfold F_X11_shot; simp only [if_neg c1]; simp only [if_neg c2]; simp only [if_neg c3]; simp only [if_neg c4]; simp only [if_pos c5]; simp only [if_neg c6]; exact Pd.i)
            · skip
              refine w_iconst (v := 0) ok dX11_shot_105 (by decide) ?_
              refine w_goto (tgt := 117) ok dX11_shot_106 (by decide) ?_
              exact w_iret ok fin dX11_shot_117 rfl (by unfold F_X11_shot; simp only [if_neg c1]; simp only [if_neg c2]; simp only [if_neg c3]; simp only [if_neg c4]; simp only [if_pos c5]; simp only [if_pos c6]; exact Pd.i)
          · skip
            by_cases c7 : a1 = 4
            · skip
              refine w_tabIn (tgt := 118) (off := 101) ok dX11_shot_17 (by rw [c7]; decide) (by rw [c7]; decide) (by rw [c7]; rfl) (by decide) ?_
              refine w_aload_n ok dX11_shot_118 0 rfl ?_
              refine w_getR ok dX11_shot_119 (fX11_34 rfl) (congrArg Prod.fst s_0) rfl (r_0_4 ro) (ltK hnn (by decide)) ?_
              refine w_getR ok dX11_shot_122 (fX11_177 rfl) (congrArg Prod.fst s_86) rfl (r_86_9 ro) (ltK hnn (by decide)) ?_
              refine w_iload_n ok dX11_shot_125 1 rfl ?_
              refine w_cS (As := [.ref 89, .int a0]) ok dX11_shot_126 iX11_at (lX11_146 rfl) (c_at s_89 (ltK hnn (by decide)) (sdc hf (by decide)) a0) (by decide) rfl (Nat.le_of_ble_eq_true rfl) ?_
              exact w_iret ok fin dX11_shot_129 rfl (by unfold F_X11_shot; simp only [if_neg c1]; simp only [if_neg c2]; simp only [if_neg c3]; simp only [if_neg c4]; simp only [if_neg c5]; simp only [if_pos c7]; exact Pd.i)
            · skip
              have n8 : a1.toInt ≠ 0 := ne_toInt c2
              have n9 : a1.toInt ≠ 1 := ne_toInt c3
              have n10 : a1.toInt ≠ 2 := ne_toInt c4
              have n11 : a1.toInt ≠ 3 := ne_toInt c5
              have n12 : a1.toInt ≠ 4 := ne_toInt c7
              refine w_tabOut (tgt := 130) ok dX11_shot_17 (by omega) (by decide) ?_
              refine w_iconst (v := (-1)) ok dX11_shot_130 (by decide) ?_
              exact w_iret ok fin dX11_shot_131 rfl (by unfold F_X11_shot; simp only [if_neg c1]; simp only [if_neg c2]; simp only [if_neg c3]; simp only [if_neg c4]; simp only [if_neg c5]; simp only [if_neg c7]; exact Pd.i)
  · skip
    refine w_iconst (v := (-1)) ok dX11_shot_14 (by decide) ?_
    exact w_iret ok fin dX11_shot_15 rfl (by unfold F_X11_shot; simp only [if_pos c1]; exact Pd.i)
def F_X11_way (a0 : Int32) (a1 : Int32) (I : SI) (J : SJ) : Int32 := if (F_X7_holds 8 a0 I J) = 0 then -1 else (if (F_X7_holds 3 a1 I J) = 0 then -1 else (if (0 : Int32) ≤ (F_X5_wayIn 86 a0 a1 I J) then F_X5_wayIn 86 a0 a1 I J else -2))
set_option maxHeartbeats 1000000 in
set_option maxRecDepth 40000 in
theorem c_X11_way {I : SI} {J : SJ} {R : SR} {n g : Nat} {f : Fr} (ro : RO R) (hnn : nK ≤ n) (hf : f.1 = true) (a0 : Int32) (a1 : Int32)   : MM 2 0 0 mX11_way [.ref 0, .int a0, .int a1] (eI f I) (eJ f J) R n g (Pd (some (.int (F_X11_way a0 a1 I J))) (eI f I) (eJ f J) R n g) := by
  refine MM.of (by decide) (Nat.le_of_ble_eq_true rfl) fun K ok fin => ?_
  show WK K 0 0 0 [(0, .ref 0), (1, .int a0), (2, .int a1)] [] (eI f I) (eJ f J) R n g
  refine w_aload_n ok dX11_way_0 0 rfl ?_
  refine w_getR ok dX11_way_1 (fX11_20 rfl) (congrArg Prod.fst s_0) rfl (r_0_2 ro) (ltK hnn (by decide)) ?_
  refine w_getR ok dX11_way_4 (fX11_122 rfl) (congrArg Prod.fst s_2) rfl (r_2_1 ro) (ltK hnn (by decide)) ?_
  refine w_iload_n ok dX11_way_7 1 rfl ?_
  refine w_cV (As := [.int a0]) ok dX11_way_8 iX7_holds (lX11_131 rfl) (rcv cls7 (congrArg Prod.fst s_8)) (ltK hnn (by decide)) (c_X7_holds ro hnn hf a0 isTb_8) (by decide) rfl (Nat.le_of_ble_eq_true rfl) ?_
  refine w_if_eq (tgt := 28) ok dX11_way_11 (by decide) (fun c1 => ?_) (fun c1 => ?_)
  · skip
    refine w_iconst (v := (-1)) ok dX11_way_28 (by decide) ?_
    exact w_iret ok fin dX11_way_29 rfl (by unfold F_X11_way; simp only [if_pos c1]; exact Pd.i)
  · skip
    refine w_aload_n ok dX11_way_14 0 rfl ?_
    refine w_getR ok dX11_way_15 (fX11_20 rfl) (congrArg Prod.fst s_0) rfl (r_0_2 ro) (ltK hnn (by decide)) ?_
    refine w_getR ok dX11_way_18 (fX11_112 rfl) (congrArg Prod.fst s_2) rfl (r_2_0 ro) (ltK hnn (by decide)) ?_
    refine w_iload_n ok dX11_way_21 2 rfl ?_
    refine w_cV (As := [.int a1]) ok dX11_way_22 iX7_holds (lX11_131 rfl) (rcv cls7 (congrArg Prod.fst s_3)) (ltK hnn (by decide)) (c_X7_holds ro hnn hf a1 isTb_3) (by decide) rfl (Nat.le_of_ble_eq_true rfl) ?_
    refine w_if_ne (tgt := 30) ok dX11_way_25 (by decide) (fun c2 => ?_) (fun c2 => ?_)
    · skip
      refine w_aload_n ok dX11_way_30 0 rfl ?_
      refine w_getR ok dX11_way_31 (fX11_34 rfl) (congrArg Prod.fst s_0) rfl (r_0_4 ro) (ltK hnn (by decide)) ?_
      refine w_iload_n ok dX11_way_34 1 rfl ?_
      refine w_iload_n ok dX11_way_35 2 rfl ?_
      refine w_cV (As := [.int a0, .int a1]) ok dX11_way_36 iX5_wayIn (lX11_180 rfl) (rcv cls5 (congrArg Prod.fst s_86)) (ltK hnn (by decide)) (c_X5_wayIn ro hnn hf a0 a1 isSc_86) (by decide) rfl (Nat.le_of_ble_eq_true rfl) ?_
      refine w_istore_n ok dX11_way_39 rfl (by decide) rfl ?_
      refine w_iload_n ok dX11_way_40 0 rfl ?_
      refine w_if_ge (tgt := 49) ok dX11_way_41 (by decide) (fun c3 => ?_) (fun c3 => ?_)
      · skip
        refine w_iload_n ok dX11_way_49 0 rfl ?_
        exact w_iret ok fin dX11_way_50 rfl (by unfold F_X11_way; simp only [if_neg c1]; simp only [if_neg c2]; simp only [if_pos c3]; exact Pd.i)
      · skip
        refine w_bipush (v := (-2)) ok dX11_way_44 (by decide) ?_
        refine w_goto (tgt := 50) ok dX11_way_46 (by decide) ?_
        exact w_iret ok fin dX11_way_50 rfl (by unfold F_X11_way; simp only [if_neg c1]; simp only [if_neg c2]; simp only [if_neg c3]; exact Pd.i)
    · skip
      refine w_iconst (v := (-1)) ok dX11_way_28 (by decide) ?_
      exact w_iret ok fin dX11_way_29 rfl (by unfold F_X11_way; simp only [if_neg c1]; simp only [if_pos c2]; exact Pd.i)
def F_X11_party (a0 : Int32) (a1 : Int32) (I : SI) (J : SJ) : Int32 := if (F_X7_holds 13 a0 I J) = 0 then -1 else (if a1 = 0 then atF (I 15) 8 a0 else (if a1 = 1 then atF (I 16) 8 a0 else (if a1 = 2 then atF (I 93) 4 a0 else (if a1 = 3 then atF (I 94) 4 a0 else -1))))
set_option maxHeartbeats 1000000 in
set_option maxRecDepth 40000 in
theorem c_X11_party {I : SI} {J : SJ} {R : SR} {n g : Nat} {f : Fr} (ro : RO R) (hnn : nK ≤ n) (hf : f.1 = true) (a0 : Int32) (a1 : Int32)   : MM 1 0 0 mX11_party [.ref 0, .int a0, .int a1] (eI f I) (eJ f J) R n g (Pd (some (.int (F_X11_party a0 a1 I J))) (eI f I) (eJ f J) R n g) := by
  refine MM.of (by decide) (Nat.le_of_ble_eq_true rfl) fun K ok fin => ?_
  show WK K 0 0 0 [(0, .ref 0), (1, .int a0), (2, .int a1)] [] (eI f I) (eJ f J) R n g
  refine w_aload_n ok dX11_party_0 0 rfl ?_
  refine w_getR ok dX11_party_1 (fX11_20 rfl) (congrArg Prod.fst s_0) rfl (r_0_2 ro) (ltK hnn (by decide)) ?_
  refine w_getR ok dX11_party_4 (fX11_125 rfl) (congrArg Prod.fst s_2) rfl (r_2_2 ro) (ltK hnn (by decide)) ?_
  refine w_iload_n ok dX11_party_7 1 rfl ?_
  refine w_cV (As := [.int a0]) ok dX11_party_8 iX7_holds (lX11_131 rfl) (rcv cls7 (congrArg Prod.fst s_13)) (ltK hnn (by decide)) (c_X7_holds ro hnn hf a0 isTb_13) (by decide) rfl (Nat.le_of_ble_eq_true rfl) ?_
  refine w_if_ne (tgt := 16) ok dX11_party_11 (by decide) (fun c1 => ?_) (fun c1 => ?_)
  · skip
    refine w_iload_n ok dX11_party_16 2 rfl ?_
    by_cases c2 : a1 = 0
    · skip
      refine w_tabIn (tgt := 48) (off := 31) ok dX11_party_17 (by rw [c2]; decide) (by rw [c2]; decide) (by rw [c2]; rfl) (by decide) ?_
      refine w_aload_n ok dX11_party_48 0 rfl ?_
      refine w_getR ok dX11_party_49 (fX11_20 rfl) (congrArg Prod.fst s_0) rfl (r_0_2 ro) (ltK hnn (by decide)) ?_
      refine w_getR ok dX11_party_52 (fX11_125 rfl) (congrArg Prod.fst s_2) rfl (r_2_2 ro) (ltK hnn (by decide)) ?_
      refine w_getR ok dX11_party_55 (fX11_142 rfl) (congrArg Prod.fst s_13) rfl (r_13_3 ro) (ltK hnn (by decide)) ?_
      refine w_iload_n ok dX11_party_58 1 rfl ?_
      refine w_cS (As := [.ref 15, .int a0]) ok dX11_party_59 iX11_at (lX11_146 rfl) (c_at s_15 (ltK hnn (by decide)) (sdc hf (by decide)) a0) (by decide) rfl (Nat.le_of_ble_eq_true rfl) ?_
      exact w_iret ok fin dX11_party_62 rfl (by unfold F_X11_party; simp only [if_neg c1]; simp only [if_pos c2]; exact Pd.i)
    · skip
      by_cases c3 : a1 = 1
      · skip
        refine w_tabIn (tgt := 63) (off := 46) ok dX11_party_17 (by rw [c3]; decide) (by rw [c3]; decide) (by rw [c3]; rfl) (by decide) ?_
        refine w_aload_n ok dX11_party_63 0 rfl ?_
        refine w_getR ok dX11_party_64 (fX11_20 rfl) (congrArg Prod.fst s_0) rfl (r_0_2 ro) (ltK hnn (by decide)) ?_
        refine w_getR ok dX11_party_67 (fX11_125 rfl) (congrArg Prod.fst s_2) rfl (r_2_2 ro) (ltK hnn (by decide)) ?_
        refine w_getR ok dX11_party_70 (fX11_150 rfl) (congrArg Prod.fst s_13) rfl (r_13_4 ro) (ltK hnn (by decide)) ?_
        refine w_iload_n ok dX11_party_73 1 rfl ?_
        refine w_cS (As := [.ref 16, .int a0]) ok dX11_party_74 iX11_at (lX11_146 rfl) (c_at s_16 (ltK hnn (by decide)) (sdc hf (by decide)) a0) (by decide) rfl (Nat.le_of_ble_eq_true rfl) ?_
        exact w_iret ok fin dX11_party_77 rfl (by unfold F_X11_party; simp only [if_neg c1]; simp only [if_neg c2]; simp only [if_pos c3]; exact Pd.i)
      · skip
        by_cases c4 : a1 = 2
        · skip
          refine w_tabIn (tgt := 78) (off := 61) ok dX11_party_17 (by rw [c4]; decide) (by rw [c4]; decide) (by rw [c4]; rfl) (by decide) ?_
          refine w_aload_n ok dX11_party_78 0 rfl ?_
          refine w_getR ok dX11_party_79 (fX11_34 rfl) (congrArg Prod.fst s_0) rfl (r_0_4 ro) (ltK hnn (by decide)) ?_
          refine w_getR ok dX11_party_82 (fX11_183 rfl) (congrArg Prod.fst s_86) rfl (r_86_13 ro) (ltK hnn (by decide)) ?_
          refine w_iload_n ok dX11_party_85 1 rfl ?_
          refine w_cS (As := [.ref 93, .int a0]) ok dX11_party_86 iX11_at (lX11_146 rfl) (c_at s_93 (ltK hnn (by decide)) (sdc hf (by decide)) a0) (by decide) rfl (Nat.le_of_ble_eq_true rfl) ?_
          exact w_iret ok fin dX11_party_89 rfl (by unfold F_X11_party; simp only [if_neg c1]; simp only [if_neg c2]; simp only [if_neg c3]; simp only [if_pos c4]; exact Pd.i)
        · skip
          by_cases c5 : a1 = 3
          · skip
            refine w_tabIn (tgt := 90) (off := 73) ok dX11_party_17 (by rw [c5]; decide) (by rw [c5]; decide) (by rw [c5]; rfl) (by decide) ?_
            refine w_aload_n ok dX11_party_90 0 rfl ?_
            refine w_getR ok dX11_party_91 (fX11_34 rfl) (congrArg Prod.fst s_0) rfl (r_0_4 ro) (ltK hnn (by decide)) ?_
            refine w_getR ok dX11_party_94 (fX11_186 rfl) (congrArg Prod.fst s_86) rfl (r_86_14 ro) (ltK hnn (by decide)) ?_
            refine w_iload_n ok dX11_party_97 1 rfl ?_
            refine w_cS (As := [.ref 94, .int a0]) ok dX11_party_98 iX11_at (lX11_146 rfl) (c_at s_94 (ltK hnn (by decide)) (sdc hf (by decide)) a0) (by decide) rfl (Nat.le_of_ble_eq_true rfl) ?_
            exact w_iret ok fin dX11_party_101 rfl (by unfold F_X11_party; simp only [if_neg c1]; simp only [if_neg c2]; simp only [if_neg c3]; simp only [if_neg c4]; simp only [if_pos c5]; exact Pd.i)
          · skip
            have n6 : a1.toInt ≠ 0 := ne_toInt c2
            have n7 : a1.toInt ≠ 1 := ne_toInt c3
            have n8 : a1.toInt ≠ 2 := ne_toInt c4
            have n9 : a1.toInt ≠ 3 := ne_toInt c5
            refine w_tabOut (tgt := 102) ok dX11_party_17 (by omega) (by decide) ?_
            refine w_iconst (v := (-1)) ok dX11_party_102 (by decide) ?_
            exact w_iret ok fin dX11_party_103 rfl (by unfold F_X11_party; simp only [if_neg c1]; simp only [if_neg c2]; simp only [if_neg c3]; simp only [if_neg c4]; simp only [if_neg c5]; exact Pd.i)
  · skip
    refine w_iconst (v := (-1)) ok dX11_party_14 (by decide) ?_
    exact w_iret ok fin dX11_party_15 rfl (by unfold F_X11_party; simp only [if_pos c1]; exact Pd.i)
def F_X11_clerk (a0 : Int32) (I : SI) (J : SJ) : Int32 := if (F_X7_holds 18 a0 I J) = 0 then -1 else atF (I 20) 8 a0
set_option maxHeartbeats 1000000 in
set_option maxRecDepth 40000 in
theorem c_X11_clerk {I : SI} {J : SJ} {R : SR} {n g : Nat} {f : Fr} (ro : RO R) (hnn : nK ≤ n) (hf : f.1 = true) (a0 : Int32)   : MM 1 0 0 mX11_clerk [.ref 0, .int a0] (eI f I) (eJ f J) R n g (Pd (some (.int (F_X11_clerk a0 I J))) (eI f I) (eJ f J) R n g) := by
  refine MM.of (by decide) (Nat.le_of_ble_eq_true rfl) fun K ok fin => ?_
  show WK K 0 0 0 [(0, .ref 0), (1, .int a0)] [] (eI f I) (eJ f J) R n g
  refine w_aload_n ok dX11_clerk_0 0 rfl ?_
  refine w_getR ok dX11_clerk_1 (fX11_20 rfl) (congrArg Prod.fst s_0) rfl (r_0_2 ro) (ltK hnn (by decide)) ?_
  refine w_getR ok dX11_clerk_4 (fX11_128 rfl) (congrArg Prod.fst s_2) rfl (r_2_3 ro) (ltK hnn (by decide)) ?_
  refine w_iload_n ok dX11_clerk_7 1 rfl ?_
  refine w_cV (As := [.int a0]) ok dX11_clerk_8 iX7_holds (lX11_131 rfl) (rcv cls7 (congrArg Prod.fst s_18)) (ltK hnn (by decide)) (c_X7_holds ro hnn hf a0 isTb_18) (by decide) rfl (Nat.le_of_ble_eq_true rfl) ?_
  refine w_if_eq (tgt := 31) ok dX11_clerk_11 (by decide) (fun c1 => ?_) (fun c1 => ?_)
  · skip
    refine w_iconst (v := (-1)) ok dX11_clerk_31 (by decide) ?_
    exact w_iret ok fin dX11_clerk_32 rfl (by unfold F_X11_clerk; simp only [if_pos c1]; exact Pd.i)
  · skip
    refine w_aload_n ok dX11_clerk_14 0 rfl ?_
    refine w_getR ok dX11_clerk_15 (fX11_20 rfl) (congrArg Prod.fst s_0) rfl (r_0_2 ro) (ltK hnn (by decide)) ?_
    refine w_getR ok dX11_clerk_18 (fX11_128 rfl) (congrArg Prod.fst s_2) rfl (r_2_3 ro) (ltK hnn (by decide)) ?_
    refine w_getR ok dX11_clerk_21 (fX11_142 rfl) (congrArg Prod.fst s_18) rfl (r_18_3 ro) (ltK hnn (by decide)) ?_
    refine w_iload_n ok dX11_clerk_24 1 rfl ?_
    refine w_cS (As := [.ref 20, .int a0]) ok dX11_clerk_25 iX11_at (lX11_146 rfl) (c_at s_20 (ltK hnn (by decide)) (sdc hf (by decide)) a0) (by decide) rfl (Nat.le_of_ble_eq_true rfl) ?_
    refine w_goto (tgt := 32) ok dX11_clerk_28 (by decide) ?_
    exact w_iret ok fin dX11_clerk_32 rfl (by unfold F_X11_clerk; simp only [if_neg c1]; exact Pd.i)
def S1_X11_plums (a0 : Int32) (a1 : Int32) (I : SI) (J : SJ) : SI := putF (FI_X10_add 0 a0 (atF (I 93) 4 a0) I J) 93 4 a0 ((atF (I 93) 4 a0) + a1)
def F_X11_plums (a0 : Int32) (a1 : Int32) (I : SI) (J : SJ) : Int32 := if (F_X7_holds 13 a0 I J) = 0 then -1 else (if a1 < 1 then -1 else (if a1 ≤ 99 then (if ((atF (I 93) 4 a0) + a1) ≤ 999 then (atF (I 93) 4 a0) + a1 else -1) else -1))
def FI_X11_plums (a0 : Int32) (a1 : Int32) (I : SI) (J : SJ) : SI := if (F_X7_holds 13 a0 I J) = 0 then I else (if a1 < 1 then I else (if a1 ≤ 99 then (if ((atF (I 93) 4 a0) + a1) ≤ 999 then (S1_X11_plums a0 a1 I J) else I) else I))
set_option maxHeartbeats 1000000 in
set_option maxRecDepth 40000 in
theorem c_X11_plums {I : SI} {J : SJ} {R : SR} {n g : Nat} {f : Fr} (ro : RO R) (hnn : nK ≤ n) (hf : f.1 = true) (a0 : Int32) (a1 : Int32)   : MM 2 0 0 mX11_plums [.ref 0, .int a0, .int a1] (eI f I) (eJ f J) R n g (Pd (some (.int (F_X11_plums a0 a1 I J))) (eI f (FI_X11_plums a0 a1 I J)) (eJ f J) R n g) := by
  refine MM.of (by decide) (Nat.le_of_ble_eq_true rfl) fun K ok fin => ?_
  show WK K 0 0 0 [(0, .ref 0), (1, .int a0), (2, .int a1)] [] (eI f I) (eJ f J) R n g
  refine w_aload_n ok dX11_plums_0 0 rfl ?_
  refine w_getR ok dX11_plums_1 (fX11_20 rfl) (congrArg Prod.fst s_0) rfl (r_0_2 ro) (ltK hnn (by decide)) ?_
  refine w_getR ok dX11_plums_4 (fX11_125 rfl) (congrArg Prod.fst s_2) rfl (r_2_2 ro) (ltK hnn (by decide)) ?_
  refine w_iload_n ok dX11_plums_7 1 rfl ?_
  refine w_cV (As := [.int a0]) ok dX11_plums_8 iX7_holds (lX11_131 rfl) (rcv cls7 (congrArg Prod.fst s_13)) (ltK hnn (by decide)) (c_X7_holds ro hnn hf a0 isTb_13) (by decide) rfl (Nat.le_of_ble_eq_true rfl) ?_
  refine w_if_eq (tgt := 25) ok dX11_plums_11 (by decide) (fun c1 => ?_) (fun c1 => ?_)
  · skip
    refine w_iconst (v := (-1)) ok dX11_plums_25 (by decide) ?_
    exact w_iret ok fin dX11_plums_26 rfl (by unfold F_X11_plums FI_X11_plums; simp only [if_pos c1]; exact Pd.i)
  · skip
    refine w_iload_n ok dX11_plums_14 2 rfl ?_
    refine w_iconst (v := 1) ok dX11_plums_15 (by decide) ?_
    refine w_icmp_lt (tgt := 25) ok dX11_plums_16 (by decide) (fun c2 => ?_) (fun c2 => ?_)
    · skip
      refine w_iconst (v := (-1)) ok dX11_plums_25 (by decide) ?_
      exact w_iret ok fin dX11_plums_26 rfl (by unfold F_X11_plums FI_X11_plums; simp only [if_neg c1]; simp only [if_pos c2]; exact Pd.i)
    · skip
      refine w_iload_n ok dX11_plums_19 2 rfl ?_
      refine w_bipush (v := 99) ok dX11_plums_20 (by decide) ?_
      refine w_icmp_le (tgt := 27) ok dX11_plums_22 (by decide) (fun c3 => ?_) (fun c3 => ?_)
      · skip
        refine w_aload_n ok dX11_plums_27 0 rfl ?_
        refine w_getR ok dX11_plums_28 (fX11_34 rfl) (congrArg Prod.fst s_0) rfl (r_0_4 ro) (ltK hnn (by decide)) ?_
        refine w_getR ok dX11_plums_31 (fX11_183 rfl) (congrArg Prod.fst s_86) rfl (r_86_13 ro) (ltK hnn (by decide)) ?_
        refine w_iload_n ok dX11_plums_34 1 rfl ?_
        refine w_cS (As := [.ref 93, .int a0]) ok dX11_plums_35 iX11_at (lX11_146 rfl) (c_at s_93 (ltK hnn (by decide)) (sdc hf (by decide)) a0) (by decide) rfl (Nat.le_of_ble_eq_true rfl) ?_
        refine w_istore_n ok dX11_plums_38 rfl (by decide) rfl ?_
        refine w_iload_n ok dX11_plums_39 0 rfl ?_
        refine w_iload_n ok dX11_plums_40 3 rfl ?_
        refine w_iadd ok dX11_plums_41 ?_
        refine w_sipush (v := 999) ok dX11_plums_42 (by decide) ?_
        refine w_icmp_le (tgt := 50) ok dX11_plums_45 (by decide) (fun c4 => ?_) (fun c4 => ?_)
        · skip
          refine w_aload_n ok dX11_plums_50 1 rfl ?_
          refine w_getR ok dX11_plums_51 (fX11_64 rfl) (congrArg Prod.fst s_0) rfl (r_0_9 ro) (ltK hnn (by decide)) ?_
          refine w_iconst (v := 0) ok dX11_plums_54 (by decide) ?_
          refine w_iload_n ok dX11_plums_55 2 rfl ?_
          refine w_iload_n ok dX11_plums_56 0 rfl ?_
          refine w_cV (As := [.int 0, .int a0, .int (atF (I 93) 4 a0)]) ok dX11_plums_57 iX10_add (lX11_211 rfl) (rcv cls10 (congrArg Prod.fst s_120)) (ltK hnn (by decide)) (c_X10_add ro hnn hf 0 a0 (atF (I 93) 4 a0) ) (by decide) rfl (Nat.le_of_ble_eq_true rfl) ?_
          refine w_aload_n ok dX11_plums_60 1 rfl ?_
          refine w_getR ok dX11_plums_61 (fX11_34 rfl) (congrArg Prod.fst s_0) rfl (r_0_4 ro) (ltK hnn (by decide)) ?_
          refine w_getR ok dX11_plums_64 (fX11_183 rfl) (congrArg Prod.fst s_86) rfl (r_86_13 ro) (ltK hnn (by decide)) ?_
          refine w_iload_n ok dX11_plums_67 2 rfl ?_
          refine w_iload_n ok dX11_plums_68 0 rfl ?_
          refine w_iload_n ok dX11_plums_69 3 rfl ?_
          refine w_iadd ok dX11_plums_70 ?_
          refine w_cS (As := [.ref 93, .int a0, .int ((atF (I 93) 4 a0) + a1)]) ok dX11_plums_71 iX11_put (lX11_215 rfl) (c_put s_93 (ltK hnn (by decide)) (sdc hf (by decide)) a0 ((atF (I 93) 4 a0) + a1)) (by decide) rfl (Nat.le_of_ble_eq_true rfl) ?_
          show WK K 0 0 74 [(3, .int (atF (I 93) 4 a0)), (0, .ref 0), (1, .int a0), (2, .int a1)] [] (eI f (S1_X11_plums a0 a1 I J)) (eJ f J) R n g
          refine w_iload_n ok dX11_plums_74 0 rfl ?_
          refine w_iload_n ok dX11_plums_75 3 rfl ?_
          refine w_iadd ok dX11_plums_76 ?_
          exact w_iret ok fin dX11_plums_77 rfl (by unfold F_X11_plums FI_X11_plums; simp only [if_neg c1]; simp only [if_neg c2]; simp only [if_pos c3]; simp only [if_pos c4]; exact Pd.i)
        · skip
          refine w_iconst (v := (-1)) ok dX11_plums_48 (by decide) ?_
          exact w_iret ok fin dX11_plums_49 rfl (by unfold F_X11_plums FI_X11_plums; simp only [if_neg c1]; simp only [if_neg c2]; simp only [if_pos c3]; simp only [if_neg c4]; exact Pd.i)
      · skip
        refine w_iconst (v := (-1)) ok dX11_plums_25 (by decide) ?_
        exact w_iret ok fin dX11_plums_26 rfl (by unfold F_X11_plums FI_X11_plums; simp only [if_neg c1]; simp only [if_neg c2]; simp only [if_neg c3]; exact Pd.i)
def F_X11_move (a0 : Int32) (a1 : Int32) (I : SI) (J : SJ) : Int32 := if (F_X7_holds 8 a0 I J) = 0 then 0 else (if a1 < (I 86 0) then 0 else (if a1 ≤ 9999 then (if (atF (I 88) 8 a0) = 0 then (if (atF (I 87) 8 a0) = a1 then 0 else 1) else 0) else 0))
def FI_X11_move (a0 : Int32) (a1 : Int32) (I : SI) (J : SJ) : SI := if (F_X7_holds 8 a0 I J) = 0 then I else (if a1 < (I 86 0) then I else (if a1 ≤ 9999 then (if (atF (I 88) 8 a0) = 0 then (if (atF (I 87) 8 a0) = a1 then I else putF (FI_X10_add 1 a0 (atF (I 87) 8 a0) I J) 87 8 a0 a1) else I) else I))
set_option maxHeartbeats 1000000 in
set_option maxRecDepth 40000 in
theorem c_X11_move {I : SI} {J : SJ} {R : SR} {n g : Nat} {f : Fr} (ro : RO R) (hnn : nK ≤ n) (hf : f.1 = true) (a0 : Int32) (a1 : Int32)   : MM 2 0 0 mX11_move [.ref 0, .int a0, .int a1] (eI f I) (eJ f J) R n g (Pd (some (.int (F_X11_move a0 a1 I J))) (eI f (FI_X11_move a0 a1 I J)) (eJ f J) R n g) := by
  refine MM.of (by decide) (Nat.le_of_ble_eq_true rfl) fun K ok fin => ?_
  show WK K 0 0 0 [(0, .ref 0), (1, .int a0), (2, .int a1)] [] (eI f I) (eJ f J) R n g
  refine w_aload_n ok dX11_move_0 0 rfl ?_
  refine w_getR ok dX11_move_1 (fX11_20 rfl) (congrArg Prod.fst s_0) rfl (r_0_2 ro) (ltK hnn (by decide)) ?_
  refine w_getR ok dX11_move_4 (fX11_122 rfl) (congrArg Prod.fst s_2) rfl (r_2_1 ro) (ltK hnn (by decide)) ?_
  refine w_iload_n ok dX11_move_7 1 rfl ?_
  refine w_cV (As := [.int a0]) ok dX11_move_8 iX7_holds (lX11_131 rfl) (rcv cls7 (congrArg Prod.fst s_8)) (ltK hnn (by decide)) (c_X7_holds ro hnn hf a0 isTb_8) (by decide) rfl (Nat.le_of_ble_eq_true rfl) ?_
  refine w_if_eq (tgt := 32) ok dX11_move_11 (by decide) (fun c1 => ?_) (fun c1 => ?_)
  · skip
    refine w_iconst (v := 0) ok dX11_move_32 (by decide) ?_
    exact w_zret ok fin dX11_move_33 rfl (by decide) (by unfold F_X11_move FI_X11_move; simp only [if_pos c1]; exact Pd.i)
  · skip
    refine w_iload_n ok dX11_move_14 2 rfl ?_
    refine w_aload_n ok dX11_move_15 0 rfl ?_
    refine w_getR ok dX11_move_16 (fX11_34 rfl) (congrArg Prod.fst s_0) rfl (r_0_4 ro) (ltK hnn (by decide)) ?_
    refine y_getI ok dX11_move_19 (fX11_219 rfl) (congrArg Prod.fst s_86) rfl (ltK hnn (by decide)) (sdc hf (by decide)) ?_
    refine w_icmp_lt (tgt := 32) ok dX11_move_22 (by decide) (fun c2 => ?_) (fun c2 => ?_)
    · skip
      refine w_iconst (v := 0) ok dX11_move_32 (by decide) ?_
      exact w_zret ok fin dX11_move_33 rfl (by decide) (by unfold F_X11_move FI_X11_move; simp only [if_neg c1]; simp only [if_pos c2]; exact Pd.i)
    · skip
      refine w_iload_n ok dX11_move_25 2 rfl ?_
      refine w_sipush (v := 9999) ok dX11_move_26 (by decide) ?_
      refine w_icmp_le (tgt := 34) ok dX11_move_29 (by decide) (fun c3 => ?_) (fun c3 => ?_)
      · skip
        refine w_aload_n ok dX11_move_34 0 rfl ?_
        refine w_getR ok dX11_move_35 (fX11_34 rfl) (congrArg Prod.fst s_0) rfl (r_0_4 ro) (ltK hnn (by decide)) ?_
        refine w_getR ok dX11_move_38 (fX11_168 rfl) (congrArg Prod.fst s_86) rfl (r_86_7 ro) (ltK hnn (by decide)) ?_
        refine w_iload_n ok dX11_move_41 1 rfl ?_
        refine w_cS (As := [.ref 87, .int a0]) ok dX11_move_42 iX11_at (lX11_146 rfl) (c_at s_87 (ltK hnn (by decide)) (sdc hf (by decide)) a0) (by decide) rfl (Nat.le_of_ble_eq_true rfl) ?_
        refine w_istore_n ok dX11_move_45 rfl (by decide) rfl ?_
        refine w_aload_n ok dX11_move_46 1 rfl ?_
        refine w_getR ok dX11_move_47 (fX11_34 rfl) (congrArg Prod.fst s_0) rfl (r_0_4 ro) (ltK hnn (by decide)) ?_
        refine w_getR ok dX11_move_50 (fX11_171 rfl) (congrArg Prod.fst s_86) rfl (r_86_8 ro) (ltK hnn (by decide)) ?_
        refine w_iload_n ok dX11_move_53 2 rfl ?_
        refine w_cS (As := [.ref 88, .int a0]) ok dX11_move_54 iX11_at (lX11_146 rfl) (c_at s_88 (ltK hnn (by decide)) (sdc hf (by decide)) a0) (by decide) rfl (Nat.le_of_ble_eq_true rfl) ?_
        refine w_if_ne (tgt := 65) ok dX11_move_57 (by decide) (fun c4 => ?_) (fun c4 => ?_)
        · skip
          refine w_iconst (v := 0) ok dX11_move_65 (by decide) ?_
          exact w_zret ok fin dX11_move_66 rfl (by decide) (by unfold F_X11_move FI_X11_move; simp only [if_neg c1]; simp only [if_neg c2]; simp only [if_pos c3]; simp only [if_neg c4]; exact Pd.i)
        · skip
          refine w_iload_n ok dX11_move_60 0 rfl ?_
          refine w_iload_n ok dX11_move_61 3 rfl ?_
          refine w_icmp_ne (tgt := 67) ok dX11_move_62 (by decide) (fun c5 => ?_) (fun c5 => ?_)
          · skip
            refine w_aload_n ok dX11_move_67 1 rfl ?_
            refine w_getR ok dX11_move_68 (fX11_64 rfl) (congrArg Prod.fst s_0) rfl (r_0_9 ro) (ltK hnn (by decide)) ?_
            refine w_iconst (v := 1) ok dX11_move_71 (by decide) ?_
            refine w_iload_n ok dX11_move_72 2 rfl ?_
            refine w_iload_n ok dX11_move_73 0 rfl ?_
            refine w_cV (As := [.int 1, .int a0, .int (atF (I 87) 8 a0)]) ok dX11_move_74 iX10_add (lX11_211 rfl) (rcv cls10 (congrArg Prod.fst s_120)) (ltK hnn (by decide)) (c_X10_add ro hnn hf 1 a0 (atF (I 87) 8 a0) ) (by decide) rfl (Nat.le_of_ble_eq_true rfl) ?_
            refine w_aload_n ok dX11_move_77 1 rfl ?_
            refine w_getR ok dX11_move_78 (fX11_34 rfl) (congrArg Prod.fst s_0) rfl (r_0_4 ro) (ltK hnn (by decide)) ?_
            refine w_getR ok dX11_move_81 (fX11_168 rfl) (congrArg Prod.fst s_86) rfl (r_86_7 ro) (ltK hnn (by decide)) ?_
            refine w_iload_n ok dX11_move_84 2 rfl ?_
            refine w_iload_n ok dX11_move_85 3 rfl ?_
            refine w_cS (As := [.ref 87, .int a0, .int a1]) ok dX11_move_86 iX11_put (lX11_215 rfl) (c_put s_87 (ltK hnn (by decide)) (sdc hf (by decide)) a0 a1) (by decide) rfl (Nat.le_of_ble_eq_true rfl) ?_
            refine w_iconst (v := 1) ok dX11_move_89 (by decide) ?_
            exact w_zret ok fin dX11_move_90 rfl (by decide) (by unfold F_X11_move FI_X11_move; simp only [if_neg c1]; simp only [if_neg c2]; simp only [if_pos c3]; simp only [if_pos c4]; simp only [if_neg c5]; exact Pd.i)
          · skip
            refine w_iconst (v := 0) ok dX11_move_65 (by decide) ?_
            exact w_zret ok fin dX11_move_66 rfl (by decide) (by unfold F_X11_move FI_X11_move; simp only [if_neg c1]; simp only [if_neg c2]; simp only [if_pos c3]; simp only [if_pos c4]; simp only [if_pos c5]; exact Pd.i)
      · skip
        refine w_iconst (v := 0) ok dX11_move_32 (by decide) ?_
        exact w_zret ok fin dX11_move_33 rfl (by decide) (by unfold F_X11_move FI_X11_move; simp only [if_neg c1]; simp only [if_neg c2]; simp only [if_neg c3]; exact Pd.i)
def F_X11_sayFromNowOn (a0 : Int32) (a1 : Int32) (I : SI) (J : SJ) : Int32 := if (atF (I 91) 6 a0) = a1 then 0 else 1
def FI_X11_sayFromNowOn (a0 : Int32) (a1 : Int32) (I : SI) (J : SJ) : SI := if (atF (I 91) 6 a0) = a1 then I else putF (FI_X10_add 2 a0 (atF (I 91) 6 a0) I J) 91 6 a0 a1
set_option maxHeartbeats 1000000 in
set_option maxRecDepth 40000 in
theorem c_X11_sayFromNowOn {I : SI} {J : SJ} {R : SR} {n g : Nat} {f : Fr} (ro : RO R) (hnn : nK ≤ n) (hf : f.1 = true) (a0 : Int32) (a1 : Int32)   : MM 2 0 0 mX11_sayFromNowOn [.ref 0, .int a0, .int a1] (eI f I) (eJ f J) R n g (Pd (some (.int (F_X11_sayFromNowOn a0 a1 I J))) (eI f (FI_X11_sayFromNowOn a0 a1 I J)) (eJ f J) R n g) := by
  refine MM.of (by decide) (Nat.le_of_ble_eq_true rfl) fun K ok fin => ?_
  show WK K 0 0 0 [(0, .ref 0), (1, .int a0), (2, .int a1)] [] (eI f I) (eJ f J) R n g
  refine w_aload_n ok dX11_sayFromNowOn_0 0 rfl ?_
  refine w_getR ok dX11_sayFromNowOn_1 (fX11_34 rfl) (congrArg Prod.fst s_0) rfl (r_0_4 ro) (ltK hnn (by decide)) ?_
  refine w_getR ok dX11_sayFromNowOn_4 (fX11_153 rfl) (congrArg Prod.fst s_86) rfl (r_86_11 ro) (ltK hnn (by decide)) ?_
  refine w_iload_n ok dX11_sayFromNowOn_7 1 rfl ?_
  refine w_cS (As := [.ref 91, .int a0]) ok dX11_sayFromNowOn_8 iX11_at (lX11_146 rfl) (c_at s_91 (ltK hnn (by decide)) (sdc hf (by decide)) a0) (by decide) rfl (Nat.le_of_ble_eq_true rfl) ?_
  refine w_istore_n ok dX11_sayFromNowOn_11 rfl (by decide) rfl ?_
  refine w_iload_n ok dX11_sayFromNowOn_12 0 rfl ?_
  refine w_iload_n ok dX11_sayFromNowOn_13 3 rfl ?_
  refine w_icmp_ne (tgt := 19) ok dX11_sayFromNowOn_14 (by decide) (fun c1 => ?_) (fun c1 => ?_)
  · skip
    refine w_aload_n ok dX11_sayFromNowOn_19 1 rfl ?_
    refine w_getR ok dX11_sayFromNowOn_20 (fX11_64 rfl) (congrArg Prod.fst s_0) rfl (r_0_9 ro) (ltK hnn (by decide)) ?_
    refine w_iconst (v := 2) ok dX11_sayFromNowOn_23 (by decide) ?_
    refine w_iload_n ok dX11_sayFromNowOn_24 2 rfl ?_
    refine w_iload_n ok dX11_sayFromNowOn_25 0 rfl ?_
    refine w_cV (As := [.int 2, .int a0, .int (atF (I 91) 6 a0)]) ok dX11_sayFromNowOn_26 iX10_add (lX11_211 rfl) (rcv cls10 (congrArg Prod.fst s_120)) (ltK hnn (by decide)) (c_X10_add ro hnn hf 2 a0 (atF (I 91) 6 a0) ) (by decide) rfl (Nat.le_of_ble_eq_true rfl) ?_
    refine w_aload_n ok dX11_sayFromNowOn_29 1 rfl ?_
    refine w_getR ok dX11_sayFromNowOn_30 (fX11_34 rfl) (congrArg Prod.fst s_0) rfl (r_0_4 ro) (ltK hnn (by decide)) ?_
    refine w_getR ok dX11_sayFromNowOn_33 (fX11_153 rfl) (congrArg Prod.fst s_86) rfl (r_86_11 ro) (ltK hnn (by decide)) ?_
    refine w_iload_n ok dX11_sayFromNowOn_36 2 rfl ?_
    refine w_iload_n ok dX11_sayFromNowOn_37 3 rfl ?_
    refine w_cS (As := [.ref 91, .int a0, .int a1]) ok dX11_sayFromNowOn_38 iX11_put (lX11_215 rfl) (c_put s_91 (ltK hnn (by decide)) (sdc hf (by decide)) a0 a1) (by decide) rfl (Nat.le_of_ble_eq_true rfl) ?_
    refine w_iconst (v := 1) ok dX11_sayFromNowOn_41 (by decide) ?_
    exact w_zret ok fin dX11_sayFromNowOn_42 rfl (by decide) (by unfold F_X11_sayFromNowOn FI_X11_sayFromNowOn; simp only [if_neg c1]; exact Pd.i)
  · skip
    refine w_iconst (v := 0) ok dX11_sayFromNowOn_17 (by decide) ?_
    exact w_zret ok fin dX11_sayFromNowOn_18 rfl (by decide) (by unfold F_X11_sayFromNowOn FI_X11_sayFromNowOn; simp only [if_pos c1]; exact Pd.i)
def F_X11_breaks  (I : SI) (J : SJ) : Int32 := F_X5_breakCount 86 I J
set_option maxHeartbeats 1000000 in
set_option maxRecDepth 40000 in
theorem c_X11_breaks {I : SI} {J : SJ} {R : SR} {n g : Nat} {f : Fr} (ro : RO R) (hnn : nK ≤ n) (hf : f.1 = true)    : MM 4 0 0 mX11_breaks [.ref 0] (eI f I) (eJ f J) R n g (Pd (some (.int (F_X11_breaks  I J))) (eI f I) (eJ f J) R n g) := by
  refine MM.of (by decide) (Nat.le_of_ble_eq_true rfl) fun K ok fin => ?_
  show WK K 0 0 0 [(0, .ref 0)] [] (eI f I) (eJ f J) R n g
  refine w_aload_n ok dX11_breaks_0 0 rfl ?_
  refine w_getR ok dX11_breaks_1 (fX11_34 rfl) (congrArg Prod.fst s_0) rfl (r_0_4 ro) (ltK hnn (by decide)) ?_
  refine w_cV (As := []) ok dX11_breaks_4 iX5_breakCount (lX11_253 rfl) (rcv cls5 (congrArg Prod.fst s_86)) (ltK hnn (by decide)) (c_X5_breakCount ro hnn hf  isSc_86) (by decide) rfl (Nat.le_of_ble_eq_true rfl) ?_
  exact w_iret ok fin dX11_breaks_7 rfl (by unfold F_X11_breaks; exact Pd.i)
def T_X11_noted_j56 (I : SI) (J : SJ) (i20 : Nat) (s20 : Int32) : Int32 := if s20 < 0 then 1 else (if (F_J6_bitCount_0f7a4 s20 I J) ≤ (F_J6_bitCount_0f7a4 (nI i20) I J) then 0 else 1)
def B_X11_noted_l20 (I : SI) (J : SJ) (i20 : Nat) (s20 : Int32) : Int32 := if (T_X11_noted_j56 I J i20 s20) = 0 then s20 else (if ((F_X11_notedBy (nI i20) I J) &&& (((1 : Int32) <<< ((I 3 1) &&& 31)) - 1)) = (((1 : Int32) <<< ((I 3 1) &&& 31)) - 1) then (nI i20) else s20)
def F_X11_noted_l20 (I : SI) (J : SJ) (s0 : Int32) : Int32 := itN (B_X11_noted_l20 I J) (((1 : Int32) <<< ((I 18 1) &&& 31)).toNatClampNeg) s0
def F_X11_noted  (I : SI) (J : SJ) : Int32 := (F_X11_noted_l20 I J (-2))
set_option maxHeartbeats 1170000 in
set_option maxRecDepth 40000 in
theorem c_X11_noted {I : SI} {J : SJ} {R : SR} {n g : Nat} {f : Fr} (ro : RO R) (hnn : nK ≤ n) (hf : f.1 = true)    : MM 2 0 0 mX11_noted [.ref 0] (eI f I) (eJ f J) R n g (Pd (some (.int (F_X11_noted  I J))) (eI f I) (eJ f J) R n g) := by
  refine MM.of (by decide) (Nat.le_of_ble_eq_true rfl) fun K ok fin => ?_
  show WK K 0 0 0 [(0, .ref 0)] [] (eI f I) (eJ f J) R n g
  refine w_iconst (v := 1) ok dX11_noted_0 (by decide) ?_
  refine w_aload_n ok dX11_noted_1 0 rfl ?_
  refine w_getR ok dX11_noted_2 (fX11_20 rfl) (congrArg Prod.fst s_0) rfl (r_0_2 ro) (ltK hnn (by decide)) ?_
  refine w_getR ok dX11_noted_5 (fX11_112 rfl) (congrArg Prod.fst s_2) rfl (r_2_0 ro) (ltK hnn (by decide)) ?_
  refine y_getI ok dX11_noted_8 (fX11_256 rfl) (congrArg Prod.fst s_3) rfl (ltK hnn (by decide)) (sdc hf (by decide)) ?_
  refine w_ishl ok dX11_noted_11 ?_
  refine w_iconst (v := 1) ok dX11_noted_12 (by decide) ?_
  refine w_isub ok dX11_noted_13 ?_
  refine w_istore_n ok dX11_noted_14 rfl (by decide) rfl ?_
  refine w_bipush (v := (-2)) ok dX11_noted_15 (by decide) ?_
  refine w_istore_n ok dX11_noted_17 rfl (by decide) rfl ?_
  refine w_iconst (v := 0) ok dX11_noted_18 (by decide) ?_
  refine w_istore_n ok dX11_noted_19 rfl (by decide) rfl ?_
  refine w_loc [3, 2, 1, 0] rfl ?_
  refine loop_for (σ := Int32) (fun (i20 : Nat) (s20 : Int32) => WK K 0 0 20 [(0, .ref 0), (1, .int (((1 : Int32) <<< ((I 3 1) &&& 31)) - 1)), (2, .int s20), (3, .int (nI i20))] [] (eI f I) (eJ f J) R n g) (B_X11_noted_l20 I J) (((1 : Int32) <<< ((I 18 1) &&& 31)).toNatClampNeg) ((-2)) ?_ ?_
  · show WK K 0 0 20 [(0, .ref 0), (1, .int (((1 : Int32) <<< ((I 3 1) &&& 31)) - 1)), (2, .int ((F_X11_noted_l20 I J (-2)))), (3, .int (nI (((1 : Int32) <<< ((I 18 1) &&& 31)).toNatClampNeg)))] [] (eI f I) (eJ f J) R n g
    have e1 : ((1 : Int32) <<< ((I 18 1) &&& 31)) ≤ (nI (((1 : Int32) <<< ((I 18 1) &&& 31)).toNatClampNeg)) := cnt_ge _
    refine w_iload_n ok dX11_noted_20 3 rfl ?_
    refine w_iconst (v := 1) ok dX11_noted_21 (by decide) ?_
    refine w_aload_n ok dX11_noted_22 0 rfl ?_
    refine w_getR ok dX11_noted_23 (fX11_20 rfl) (congrArg Prod.fst s_0) rfl (r_0_2 ro) (ltK hnn (by decide)) ?_
    refine w_getR ok dX11_noted_26 (fX11_128 rfl) (congrArg Prod.fst s_2) rfl (r_2_3 ro) (ltK hnn (by decide)) ?_
    refine y_getI ok dX11_noted_29 (fX11_256 rfl) (congrArg Prod.fst s_18) rfl (ltK hnn (by decide)) (sdc hf (by decide)) ?_
    refine w_ishl ok dX11_noted_32 ?_
    refine w_icmp_ge (tgt := 82) ok dX11_noted_33 (by decide) (fun _ => ?_) (fun h => absurd e1 h)
    refine w_iload_n ok dX11_noted_82 2 rfl ?_
    exact w_iret ok fin dX11_noted_83 rfl (by unfold F_X11_noted; exact Pd.i)
  · intro i20 s20 hi20 hs20 k20
    show WK K 0 0 20 [(0, .ref 0), (1, .int (((1 : Int32) <<< ((I 3 1) &&& 31)) - 1)), (2, .int s20), (3, .int (nI i20))] [] (eI f I) (eJ f J) R n g
    have e2 : ¬ (((1 : Int32) <<< ((I 18 1) &&& 31)) ≤ (nI i20)) := cnt_lt hi20
    refine w_iload_n ok dX11_noted_20 3 rfl ?_
    refine w_iconst (v := 1) ok dX11_noted_21 (by decide) ?_
    refine w_aload_n ok dX11_noted_22 0 rfl ?_
    refine w_getR ok dX11_noted_23 (fX11_20 rfl) (congrArg Prod.fst s_0) rfl (r_0_2 ro) (ltK hnn (by decide)) ?_
    refine w_getR ok dX11_noted_26 (fX11_128 rfl) (congrArg Prod.fst s_2) rfl (r_2_3 ro) (ltK hnn (by decide)) ?_
    refine y_getI ok dX11_noted_29 (fX11_256 rfl) (congrArg Prod.fst s_18) rfl (ltK hnn (by decide)) (sdc hf (by decide)) ?_
    refine w_ishl ok dX11_noted_32 ?_
    refine w_icmp_ge (tgt := 82) ok dX11_noted_33 (by decide) (fun h => absurd h e2) (fun _ => ?_)
    refine w_iload_n ok dX11_noted_36 2 rfl ?_
    have jn3 : WK K 0 0 56 [(0, .ref 0), (1, .int (((1 : Int32) <<< ((I 3 1) &&& 31)) - 1)), (2, .int s20), (3, .int (nI i20))] [.int (T_X11_noted_j56 I J i20 s20)] (eI f I) (eJ f J) R n g := by
      refine w_istore ok dX11_noted_56 (by decide) rfl ?_
      refine w_iload ok dX11_noted_58 0 rfl ?_
      refine w_if_eq (tgt := 76) ok dX11_noted_60 (by decide) (fun c4 => ?_) (fun c4 => ?_)
      · skip
        refine w_iinc (v := (nI i20) + 1) ok dX11_noted_76 4 rfl rfl (by decide) rfl ?_
        refine w_goto (tgt := 20) ok dX11_noted_79 (by decide) ?_
        have eB : B_X11_noted_l20 I J i20 s20 = s20 := by
          unfold B_X11_noted_l20; exact (if_pos c4).trans (rfl)
        have kk := k20
        rw [eB] at kk
        refine w_loc [2, 3, 4, 0] rfl ?_
        rw [nI_1 i20]
        exact kk
      · skip
        refine w_aload_n ok dX11_noted_63 1 rfl ?_
        refine w_iload_n ok dX11_noted_64 4 rfl ?_
        refine w_cV (As := [.int (nI i20)]) ok dX11_noted_65 iX11_notedBy (lX11_293 rfl) (rcv cls11 (congrArg Prod.fst s_0)) (ltK hnn (by decide)) (c_X11_notedBy ro hnn hf (nI i20) ) (by decide) rfl (Nat.le_of_ble_eq_true rfl) ?_
        refine w_iload_n ok dX11_noted_68 2 rfl ?_
        refine w_iand ok dX11_noted_69 ?_
        refine w_iload_n ok dX11_noted_70 2 rfl ?_
        refine w_icmp_ne (tgt := 76) ok dX11_noted_71 (by decide) (fun c5 => ?_) (fun c5 => ?_)
        · skip
          refine w_iinc (v := (nI i20) + 1) ok dX11_noted_76 4 rfl rfl (by decide) rfl ?_
          refine w_goto (tgt := 20) ok dX11_noted_79 (by decide) ?_
          have eB : B_X11_noted_l20 I J i20 s20 = s20 := by
            unfold B_X11_noted_l20; exact (if_neg c4).trans ((if_neg c5).trans (rfl))
          have kk := k20
          rw [eB] at kk
          refine w_loc [2, 3, 4, 0] rfl ?_
          rw [nI_1 i20]
          exact kk
        · skip
          refine w_iload_n ok dX11_noted_74 4 rfl ?_
          refine w_istore_n ok dX11_noted_75 rfl (by decide) rfl ?_
          refine w_iinc (v := (nI i20) + 1) ok dX11_noted_76 4 rfl rfl (by decide) rfl ?_
          refine w_goto (tgt := 20) ok dX11_noted_79 (by decide) ?_
          have eB : B_X11_noted_l20 I J i20 s20 = (nI i20) := by
            unfold B_X11_noted_l20; exact (if_neg c4).trans ((if_pos c5).trans (rfl))
          have kk := k20
          rw [eB] at kk
          refine w_loc [3, 4, 1, 0] rfl ?_
          rw [nI_1 i20]
          exact kk
    refine w_if_lt (tgt := 51) ok dX11_noted_37 (by decide) (fun c6 => ?_) (fun c6 => ?_)
    · skip
      refine w_iconst (v := 1) ok dX11_noted_51 (by decide) ?_
      refine w_goto (tgt := 56) ok dX11_noted_52 (by decide) ?_
      have eT : (T_X11_noted_j56 I J i20 s20) = 1 := by
        unfold T_X11_noted_j56; exact (if_pos c6).trans (rfl)
      refine w_loc [0, 1, 2, 3] rfl ?_
      have jj := jn3
      rw [eT] at jj
      exact jj
    · skip
      refine w_iload_n ok dX11_noted_40 3 rfl ?_
      refine w_cS (As := [.int (nI i20)]) ok dX11_noted_41 iJ6_bitCount_0f7a4 (lX11_288 rfl) (c_J6_bitCount_0f7a4 ro hnn hf (nI i20) ) (by decide) rfl (Nat.le_of_ble_eq_true rfl) ?_
      refine w_iload_n ok dX11_noted_44 2 rfl ?_
      refine w_cS (As := [.int s20]) ok dX11_noted_45 iJ6_bitCount_0f7a4 (lX11_288 rfl) (c_J6_bitCount_0f7a4 ro hnn hf s20 ) (by decide) rfl (Nat.le_of_ble_eq_true rfl) ?_
      show WK K 0 0 48 [(0, .ref 0), (1, .int (((1 : Int32) <<< ((I 3 1) &&& 31)) - 1)), (2, .int s20), (3, .int (nI i20))] [.int (F_J6_bitCount_0f7a4 s20 I J), .int (F_J6_bitCount_0f7a4 (nI i20) I J)] (eI f I) (eJ f J) R n g
      refine w_icmp_ge (tgt := 55) ok dX11_noted_48 (by decide) (fun c7 => ?_) (fun c7 => ?_)
      · skip
        refine w_iconst (v := 0) ok dX11_noted_55 (by decide) ?_
        have eT : (T_X11_noted_j56 I J i20 s20) = 0 := by
          unfold T_X11_noted_j56; exact (if_neg c6).trans ((if_pos c7).trans (rfl))
        refine w_loc [0, 1, 2, 3] rfl ?_
        have jj := jn3
        rw [eT] at jj
        exact jj
      · skip
        refine w_iconst (v := 1) ok dX11_noted_51 (by decide) ?_
        refine w_goto (tgt := 56) ok dX11_noted_52 (by decide) ?_
        have eT : (T_X11_noted_j56 I J i20 s20) = 1 := by
          unfold T_X11_noted_j56; exact (if_neg c6).trans ((if_neg c7).trans (rfl))
        refine w_loc [0, 1, 2, 3] rfl ?_
        have jj := jn3
        rw [eT] at jj
        exact jj
def F_X11_canBid (a0 : Int32) (a1 : Int32) (I : SI) (J : SJ) : Int32 := if (F_X7_holds 13 a0 I J) = 0 then 0 else (if (F_X7_holds 13 a1 I J) = 0 then 0 else (if a0 = a1 then 0 else 1))
set_option maxHeartbeats 1000000 in
set_option maxRecDepth 40000 in
theorem c_X11_canBid {I : SI} {J : SJ} {R : SR} {n g : Nat} {f : Fr} (ro : RO R) (hnn : nK ≤ n) (hf : f.1 = true) (a0 : Int32) (a1 : Int32)   : MM 1 0 0 mX11_canBid [.ref 0, .int a0, .int a1] (eI f I) (eJ f J) R n g (Pd (some (.int (F_X11_canBid a0 a1 I J))) (eI f I) (eJ f J) R n g) := by
  refine MM.of (by decide) (Nat.le_of_ble_eq_true rfl) fun K ok fin => ?_
  show WK K 0 0 0 [(0, .ref 0), (1, .int a0), (2, .int a1)] [] (eI f I) (eJ f J) R n g
  refine w_aload_n ok dX11_canBid_0 0 rfl ?_
  refine w_getR ok dX11_canBid_1 (fX11_20 rfl) (congrArg Prod.fst s_0) rfl (r_0_2 ro) (ltK hnn (by decide)) ?_
  refine w_getR ok dX11_canBid_4 (fX11_125 rfl) (congrArg Prod.fst s_2) rfl (r_2_2 ro) (ltK hnn (by decide)) ?_
  refine w_iload_n ok dX11_canBid_7 1 rfl ?_
  refine w_cV (As := [.int a0]) ok dX11_canBid_8 iX7_holds (lX11_131 rfl) (rcv cls7 (congrArg Prod.fst s_13)) (ltK hnn (by decide)) (c_X7_holds ro hnn hf a0 isTb_13) (by decide) rfl (Nat.le_of_ble_eq_true rfl) ?_
  refine w_if_eq (tgt := 37) ok dX11_canBid_11 (by decide) (fun c1 => ?_) (fun c1 => ?_)
  · skip
    refine w_iconst (v := 0) ok dX11_canBid_37 (by decide) ?_
    exact w_zret ok fin dX11_canBid_38 rfl (by decide) (by unfold F_X11_canBid; simp only [if_pos c1]; exact Pd.i)
  · skip
    refine w_aload_n ok dX11_canBid_14 0 rfl ?_
    refine w_getR ok dX11_canBid_15 (fX11_20 rfl) (congrArg Prod.fst s_0) rfl (r_0_2 ro) (ltK hnn (by decide)) ?_
    refine w_getR ok dX11_canBid_18 (fX11_125 rfl) (congrArg Prod.fst s_2) rfl (r_2_2 ro) (ltK hnn (by decide)) ?_
    refine w_iload_n ok dX11_canBid_21 2 rfl ?_
    refine w_cV (As := [.int a1]) ok dX11_canBid_22 iX7_holds (lX11_131 rfl) (rcv cls7 (congrArg Prod.fst s_13)) (ltK hnn (by decide)) (c_X7_holds ro hnn hf a1 isTb_13) (by decide) rfl (Nat.le_of_ble_eq_true rfl) ?_
    refine w_if_eq (tgt := 37) ok dX11_canBid_25 (by decide) (fun c2 => ?_) (fun c2 => ?_)
    · skip
      refine w_iconst (v := 0) ok dX11_canBid_37 (by decide) ?_
      exact w_zret ok fin dX11_canBid_38 rfl (by decide) (by unfold F_X11_canBid; simp only [if_neg c1]; simp only [if_pos c2]; exact Pd.i)
    · skip
      refine w_iload_n ok dX11_canBid_28 1 rfl ?_
      refine w_iload_n ok dX11_canBid_29 2 rfl ?_
      refine w_icmp_eq (tgt := 37) ok dX11_canBid_30 (by decide) (fun c3 => ?_) (fun c3 => ?_)
      · skip
        refine w_iconst (v := 0) ok dX11_canBid_37 (by decide) ?_
        exact w_zret ok fin dX11_canBid_38 rfl (by decide) (by unfold F_X11_canBid; simp only [if_neg c1]; simp only [if_neg c2]; simp only [if_pos c3]; exact Pd.i)
      · skip
        refine w_iconst (v := 1) ok dX11_canBid_33 (by decide) ?_
        refine w_goto (tgt := 38) ok dX11_canBid_34 (by decide) ?_
        exact w_zret ok fin dX11_canBid_38 rfl (by decide) (by unfold F_X11_canBid; simp only [if_neg c1]; simp only [if_neg c2]; simp only [if_neg c3]; exact Pd.i)
def B_X11_isBest_l9 (a0 : Int32) (a1 : Int32) (a2 : Int32) (I : SI) (J : SJ) (i9 : Nat) (s9 : Unit) : (Unit) ⊕ (Int32) := if a2 < (nI i9) then .inl () else (if (F_X11_gain (nI i9) a1 I J) ≤ (F_X11_gain a0 a1 I J) then .inl () else .inr 0)
def F_X11_isBest_l9 (a0 : Int32) (a1 : Int32) (a2 : Int32) (I : SI) (J : SJ) (s0 : Unit) : (Unit) ⊕ (Int32) := itE (B_X11_isBest_l9 a0 a1 a2 I J) (5) 0 s0
def F_X11_isBest (a0 : Int32) (a1 : Int32) (a2 : Int32) (I : SI) (J : SJ) : Int32 := (match (F_X11_isBest_l9 a0 a1 a2 I J ()) with | .inl se9 => 1 | .inr re9 => re9)
set_option maxHeartbeats 1000000 in
set_option maxRecDepth 40000 in
theorem c_X11_isBest {I : SI} {J : SJ} {R : SR} {n g : Nat} {f : Fr} (ro : RO R) (hnn : nK ≤ n) (hf : f.1 = true) (a0 : Int32) (a1 : Int32) (a2 : Int32)   : MM 1 0 0 mX11_isBest [.int a0, .int a1, .int a2] (eI f I) (eJ f J) R n g (Pd (some (.int (F_X11_isBest a0 a1 a2 I J))) (eI f I) (eJ f J) R n g) := by
  refine MM.of (by decide) (Nat.le_of_ble_eq_true rfl) fun K ok fin => ?_
  show WK K 0 0 0 [(0, .int a0), (1, .int a1), (2, .int a2)] [] (eI f I) (eJ f J) R n g
  refine w_iload_n ok dX11_isBest_0 0 rfl ?_
  refine w_iload_n ok dX11_isBest_1 1 rfl ?_
  refine w_cS (As := [.int a0, .int a1]) ok dX11_isBest_2 iX11_gain (lX11_311 rfl) (c_X11_gain ro hnn hf a0 a1 ) (by decide) rfl (Nat.le_of_ble_eq_true rfl) ?_
  refine w_istore_n ok dX11_isBest_5 rfl (by decide) rfl ?_
  refine w_iconst (v := 0) ok dX11_isBest_6 (by decide) ?_
  refine w_istore ok dX11_isBest_7 (by decide) rfl ?_
  refine w_loc [2, 3, 4, 1, 0] rfl ?_
  refine loop_e (σ := Unit) (ρ := Int32) (fun (i9 : Nat) (s9 : Unit) => WK K 0 0 9 [(0, .int a0), (1, .int a1), (2, .int a2), (3, .int (F_X11_gain a0 a1 I J)), (4, .int (nI i9))] [] (eI f I) (eJ f J) R n g) (B_X11_isBest_l9 a0 a1 a2 I J) (5) (()) ?_ ?_
  · intro se9 he9
    have he9 : (F_X11_isBest_l9 a0 a1 a2 I J ()) = .inl se9 := he9
    show WK K 0 0 9 [(0, .int a0), (1, .int a1), (2, .int a2), (3, .int (F_X11_gain a0 a1 I J)), (4, .int (nI 5))] [] (eI f I) (eJ f J) R n g
    have e1 : (4 : Int32) < (nI 5) := (show nI 4 < nI 5 from nI_lt (by omega) (by decide))
    refine w_iload ok dX11_isBest_9 4 rfl ?_
    refine w_iconst (v := 4) ok dX11_isBest_11 (by decide) ?_
    refine w_icmp_gt (tgt := 39) ok dX11_isBest_12 (by decide) (fun _ => ?_) (fun h => absurd e1 h)
    refine w_iconst (v := 1) ok dX11_isBest_39 (by decide) ?_
    exact w_zret ok fin dX11_isBest_40 rfl (by decide) (by unfold F_X11_isBest; simp only [he9]; exact Pd.i)
  · intro i9 s9 hi9 hs9 k9 kr9
    show WK K 0 0 9 [(0, .int a0), (1, .int a1), (2, .int a2), (3, .int (F_X11_gain a0 a1 I J)), (4, .int (nI i9))] [] (eI f I) (eJ f J) R n g
    have e2 : ¬ ((4 : Int32) < (nI i9)) := (show ¬ (nI 4 < nI i9) from nI_nlt (by omega) (by decide))
    refine w_iload ok dX11_isBest_9 4 rfl ?_
    refine w_iconst (v := 4) ok dX11_isBest_11 (by decide) ?_
    refine w_icmp_gt (tgt := 39) ok dX11_isBest_12 (by decide) (fun h => absurd h e2) (fun _ => ?_)
    refine w_iload ok dX11_isBest_15 4 rfl ?_
    refine w_iload_n ok dX11_isBest_17 2 rfl ?_
    refine w_icmp_gt (tgt := 33) ok dX11_isBest_18 (by decide) (fun c3 => ?_) (fun c3 => ?_)
    · skip
      refine w_iinc (v := (nI i9) + 1) ok dX11_isBest_33 4 rfl rfl (by decide) rfl ?_
      refine w_goto (tgt := 9) ok dX11_isBest_36 (by decide) ?_
      have eB : B_X11_isBest_l9 a0 a1 a2 I J i9 s9 = .inl () := by
        unfold B_X11_isBest_l9; exact (if_pos c3).trans (rfl)
      have kk := k9 _ eB
      refine w_loc [1, 2, 3, 4, 0] rfl ?_
      rw [nI_1 i9]
      exact kk
    · skip
      refine w_iload ok dX11_isBest_21 4 rfl ?_
      refine w_iload_n ok dX11_isBest_23 1 rfl ?_
      refine w_cS (As := [.int (nI i9), .int a1]) ok dX11_isBest_24 iX11_gain (lX11_311 rfl) (c_X11_gain ro hnn hf (nI i9) a1 ) (by decide) rfl (Nat.le_of_ble_eq_true rfl) ?_
      refine w_iload_n ok dX11_isBest_27 3 rfl ?_
      refine w_icmp_le (tgt := 33) ok dX11_isBest_28 (by decide) (fun c4 => ?_) (fun c4 => ?_)
      · skip
        refine w_iinc (v := (nI i9) + 1) ok dX11_isBest_33 4 rfl rfl (by decide) rfl ?_
        refine w_goto (tgt := 9) ok dX11_isBest_36 (by decide) ?_
        have eB : B_X11_isBest_l9 a0 a1 a2 I J i9 s9 = .inl () := by
          unfold B_X11_isBest_l9; exact (if_neg c3).trans ((if_pos c4).trans (rfl))
        have kk := k9 _ eB
        refine w_loc [1, 2, 3, 4, 0] rfl ?_
        rw [nI_1 i9]
        exact kk
      · skip
        refine w_iconst (v := 0) ok dX11_isBest_31 (by decide) ?_
        have eB : B_X11_isBest_l9 a0 a1 a2 I J i9 s9 = .inr 0 := by
          unfold B_X11_isBest_l9; exact (if_neg c3).trans ((if_neg c4).trans (rfl))
        have hr : (F_X11_isBest_l9 a0 a1 a2 I J ()) = .inr 0 := kr9 _ eB
        exact w_zret ok fin dX11_isBest_32 rfl (by decide) (by unfold F_X11_isBest; simp only [hr]; exact Pd.i)
def T_X11_there_j73 (a0 : Int32) (a1 : Int32) (I : SI) (J : SJ) (i51 : Nat) (s51 : Int64 × Int64) : Int64 := if (F_X11_commonPart ((100 : Int32) - (I 2 7)) 100 I J) = 0 then 0 else ((((100 : Int32) - (I 2 7)) / (F_X11_commonPart ((100 : Int32) - (I 2 7)) 100 I J)).toInt64)
def B_X11_there_l51 (a0 : Int32) (a1 : Int32) (I : SI) (J : SJ) (i51 : Nat) (s51 : Int64 × Int64) : Int64 × Int64 := if (F_X11_commonPart ((100 : Int32) - (I 2 7)) 100 I J) = 0 then ((s51.1 * (T_X11_there_j73 a0 a1 I J i51 s51)), (s51.2 * 1)) else ((s51.1 * (T_X11_there_j73 a0 a1 I J i51 s51)), (s51.2 * ((100 / (F_X11_commonPart ((100 : Int32) - (I 2 7)) 100 I J)).toInt64)))
def F_X11_there_l51 (a0 : Int32) (a1 : Int32) (I : SI) (J : SJ) (s0 : Int64 × Int64) : Int64 × Int64 := itN (B_X11_there_l51 a0 a1 I J) (a0.toNatClampNeg) s0
def F_X11_there (a0 : Int32) (a1 : Int32) (I : SI) (J : SJ) : Int64 := if a0 < 0 then -1 else (if (6 : Int32) < a0 then -1 else (if a1 < 0 then -1 else (if a1 ≤ 1 then (if a1 = 0 then (F_X11_there_l51 a0 a1 I J (1, 1)).1 else (F_X11_there_l51 a0 a1 I J (1, 1)).2) else -1)))
def H_X11_there (a0 : Int32) (a1 : Int32) (I : SI) (J : SJ) : Prop := (¬ (a0 < 0) → ¬ ((6 : Int32) < a0) → ¬ (a1 < 0) → a1 ≤ 1 → H_X11_commonPart ((100 : Int32) - (I 2 7)) 100 I J) ∧ (¬ (a0 < 0) → ¬ ((6 : Int32) < a0) → ¬ (a1 < 0) → a1 ≤ 1 → ∀ (i51 : Nat) (s51 : Int64 × Int64), i51 < a0.toNatClampNeg → s51 = itN (B_X11_there_l51 a0 a1 I J) i51 (1, 1) → ¬ ((F_X11_commonPart ((100 : Int32) - (I 2 7)) 100 I J) = 0) → ¬ (F_X11_commonPart ((100 : Int32) - (I 2 7)) 100 I J) = 0)
set_option maxHeartbeats 1240000 in
set_option maxRecDepth 40000 in
theorem c_X11_there {I : SI} {J : SJ} {R : SR} {n g : Nat} {f : Fr} (ro : RO R) (hnn : nK ≤ n) (hf : f.1 = true) (a0 : Int32) (a1 : Int32)  (hp : H_X11_there a0 a1 I J) : MM 1 0 0 mX11_there [.ref 0, .int a0, .int a1] (eI f I) (eJ f J) R n g (Pd (some (.long (F_X11_there a0 a1 I J))) (eI f I) (eJ f J) R n g) := by
  refine MM.of (by decide) (Nat.le_of_ble_eq_true rfl) fun K ok fin => ?_
  show WK K 0 0 0 [(0, .ref 0), (1, .int a0), (2, .int a1)] [] (eI f I) (eJ f J) R n g
  obtain ⟨hp1, hp2⟩ := hp
  refine w_iload_n ok dX11_there_0 1 rfl ?_
  refine w_if_lt (tgt := 19) ok dX11_there_1 (by decide) (fun c1 => ?_) (fun c1 => ?_)
  · skip
    refine w_ldc2 ok dX11_there_19 kX11_314 ?_
    exact w_lret ok fin dX11_there_22 rfl (by unfold F_X11_there; simp only [if_pos c1]; exact Pd.i)
  · skip
    refine w_iload_n ok dX11_there_4 1 rfl ?_
    refine w_bipush (v := 6) ok dX11_there_5 (by decide) ?_
    refine w_icmp_gt (tgt := 19) ok dX11_there_7 (by decide) (fun c2 => ?_) (fun c2 => ?_)
    · skip
      refine w_ldc2 ok dX11_there_19 kX11_314 ?_
      exact w_lret ok fin dX11_there_22 rfl (by unfold F_X11_there; simp only [if_neg c1]; simp only [if_pos c2]; exact Pd.i)
    · skip
      refine w_iload_n ok dX11_there_10 2 rfl ?_
      refine w_if_lt (tgt := 19) ok dX11_there_11 (by decide) (fun c3 => ?_) (fun c3 => ?_)
      · skip
        refine w_ldc2 ok dX11_there_19 kX11_314 ?_
        exact w_lret ok fin dX11_there_22 rfl (by unfold F_X11_there; simp only [if_neg c1]; simp only [if_neg c2]; simp only [if_pos c3]; exact Pd.i)
      · skip
        refine w_iload_n ok dX11_there_14 2 rfl ?_
        refine w_iconst (v := 1) ok dX11_there_15 (by decide) ?_
        refine w_icmp_le (tgt := 23) ok dX11_there_16 (by decide) (fun c4 => ?_) (fun c4 => ?_)
        · skip
          refine w_bipush (v := 100) ok dX11_there_23 (by decide) ?_
          refine w_aload_n ok dX11_there_25 0 rfl ?_
          refine w_getR ok dX11_there_26 (fX11_20 rfl) (congrArg Prod.fst s_0) rfl (r_0_2 ro) (ltK hnn (by decide)) ?_
          refine y_getI ok dX11_there_29 (fX11_316 rfl) (congrArg Prod.fst s_2) rfl (ltK hnn (by decide)) (sdc hf (by decide)) ?_
          refine w_isub ok dX11_there_32 ?_
          refine w_istore_n ok dX11_there_33 rfl (by decide) rfl ?_
          refine w_iload_n ok dX11_there_34 0 rfl ?_
          refine w_bipush (v := 100) ok dX11_there_35 (by decide) ?_
          refine w_cS (As := [.int ((100 : Int32) - (I 2 7)), .int 100]) ok dX11_there_37 iX11_commonPart (lX11_319 rfl) (c_X11_commonPart ro hnn hf ((100 : Int32) - (I 2 7)) 100  (hp1 c1 c2 c3 c4)) (by decide) rfl (Nat.le_of_ble_eq_true rfl) ?_
          refine w_istore ok dX11_there_40 (by decide) rfl ?_
          refine w_lconst (v := 1) ok dX11_there_42 (by decide) ?_
          refine w_lstore ok dX11_there_43 (by decide) rfl ?_
          refine w_lconst (v := 1) ok dX11_there_45 (by decide) ?_
          refine w_lstore ok dX11_there_46 (by decide) rfl ?_
          refine w_iconst (v := 0) ok dX11_there_48 (by decide) ?_
          refine w_istore ok dX11_there_49 (by decide) rfl ?_
          refine w_loc [5, 6, 7, 4, 3, 2, 1, 0] rfl ?_
          refine loop_for (σ := Int64 × Int64) (fun (i51 : Nat) (s51 : Int64 × Int64) => WK K 0 0 51 [(0, .ref 0), (1, .int a0), (2, .int a1), (3, .int ((100 : Int32) - (I 2 7))), (4, .int (F_X11_commonPart ((100 : Int32) - (I 2 7)) 100 I J)), (5, .long s51.1), (7, .long s51.2), (9, .int (nI i51))] [] (eI f I) (eJ f J) R n g) (B_X11_there_l51 a0 a1 I J) (a0.toNatClampNeg) ((1, 1)) ?_ ?_
          · show WK K 0 0 51 [(0, .ref 0), (1, .int a0), (2, .int a1), (3, .int ((100 : Int32) - (I 2 7))), (4, .int (F_X11_commonPart ((100 : Int32) - (I 2 7)) 100 I J)), (5, .long ((F_X11_there_l51 a0 a1 I J (1, 1)).1)), (7, .long ((F_X11_there_l51 a0 a1 I J (1, 1)).2)), (9, .int (nI a0.toNatClampNeg))] [] (eI f I) (eJ f J) R n g
            have e5 : a0 ≤ (nI a0.toNatClampNeg) := cnt_ge _
            refine w_iload ok dX11_there_51 7 rfl ?_
            refine w_iload_n ok dX11_there_53 1 rfl ?_
            refine w_icmp_ge (tgt := 102) ok dX11_there_54 (by decide) (fun _ => ?_) (fun h => absurd e5 h)
            refine w_iload_n ok dX11_there_102 2 rfl ?_
            refine w_if_ne (tgt := 111) ok dX11_there_103 (by decide) (fun c6 => ?_) (fun c6 => ?_)
            · skip
              refine w_lload ok dX11_there_111 6 rfl ?_
              exact w_lret ok fin dX11_there_113 rfl (by unfold F_X11_there; simp only [if_neg c1]; simp only [if_neg c2]; simp only [if_neg c3]; simp only [if_pos c4]; simp only [if_neg c6]; exact Pd.i)
            · skip
              refine w_lload ok dX11_there_106 5 rfl ?_
              refine w_goto (tgt := 113) ok dX11_there_108 (by decide) ?_
              exact w_lret ok fin dX11_there_113 rfl (by unfold F_X11_there; simp only [if_neg c1]; simp only [if_neg c2]; simp only [if_neg c3]; simp only [if_pos c4]; simp only [if_pos c6]; exact Pd.i)
          · intro i51 s51 hi51 hs51 k51
            show WK K 0 0 51 [(0, .ref 0), (1, .int a0), (2, .int a1), (3, .int ((100 : Int32) - (I 2 7))), (4, .int (F_X11_commonPart ((100 : Int32) - (I 2 7)) 100 I J)), (5, .long s51.1), (7, .long s51.2), (9, .int (nI i51))] [] (eI f I) (eJ f J) R n g
            have e7 : ¬ (a0 ≤ (nI i51)) := cnt_lt hi51
            refine w_iload ok dX11_there_51 7 rfl ?_
            refine w_iload_n ok dX11_there_53 1 rfl ?_
            refine w_icmp_ge (tgt := 102) ok dX11_there_54 (by decide) (fun h => absurd h e7) (fun _ => ?_)
            refine w_lload ok dX11_there_57 5 rfl ?_
            refine w_iload ok dX11_there_59 4 rfl ?_
            have jn8 : WK K 0 0 73 [(0, .ref 0), (1, .int a0), (2, .int a1), (3, .int ((100 : Int32) - (I 2 7))), (4, .int (F_X11_commonPart ((100 : Int32) - (I 2 7)) 100 I J)), (5, .long s51.1), (7, .long s51.2), (9, .int (nI i51))] [.long (T_X11_there_j73 a0 a1 I J i51 s51), .long s51.1] (eI f I) (eJ f J) R n g := by
              refine w_lmul ok dX11_there_73 ?_
              refine w_lstore ok dX11_there_74 (by decide) rfl ?_
              refine w_lload ok dX11_there_76 6 rfl ?_
              refine w_iload ok dX11_there_78 5 rfl ?_
              refine w_if_ne (tgt := 87) ok dX11_there_80 (by decide) (fun c9 => ?_) (fun c9 => ?_)
              · skip
                refine w_bipush (v := 100) ok dX11_there_87 (by decide) ?_
                refine w_iload ok dX11_there_89 5 rfl ?_
                refine w_idiv ok dX11_there_91 (hp2 c1 c2 c3 c4 i51 s51 hi51 hs51 c9) ?_
                refine w_i2l ok dX11_there_92 ?_
                refine w_lmul ok dX11_there_93 ?_
                refine w_lstore ok dX11_there_94 (by decide) rfl ?_
                refine w_iinc (v := (nI i51) + 1) ok dX11_there_96 7 rfl rfl (by decide) rfl ?_
                refine w_goto (tgt := 51) ok dX11_there_99 (by decide) ?_
                have eB : B_X11_there_l51 a0 a1 I J i51 s51 = ((s51.1 * (T_X11_there_j73 a0 a1 I J i51 s51)), (s51.2 * ((100 / (F_X11_commonPart ((100 : Int32) - (I 2 7)) 100 I J)).toInt64))) := by
                  unfold B_X11_there_l51; exact (if_neg c9).trans (rfl)
                have kk := k51
                rw [eB] at kk
                refine w_loc [3, 4, 5, 6, 7, 2, 1, 0] rfl ?_
                rw [nI_1 i51]
                exact kk
              · skip
                refine w_lconst (v := 1) ok dX11_there_83 (by decide) ?_
                refine w_goto (tgt := 93) ok dX11_there_84 (by decide) ?_
                refine w_lmul ok dX11_there_93 ?_
                refine w_lstore ok dX11_there_94 (by decide) rfl ?_
                refine w_iinc (v := (nI i51) + 1) ok dX11_there_96 7 rfl rfl (by decide) rfl ?_
                refine w_goto (tgt := 51) ok dX11_there_99 (by decide) ?_
                have eB : B_X11_there_l51 a0 a1 I J i51 s51 = ((s51.1 * (T_X11_there_j73 a0 a1 I J i51 s51)), (s51.2 * 1)) := by
                  unfold B_X11_there_l51; exact (if_pos c9).trans (rfl)
                have kk := k51
                rw [eB] at kk
                refine w_loc [3, 4, 5, 6, 7, 2, 1, 0] rfl ?_
                rw [nI_1 i51]
                exact kk
            refine w_if_ne (tgt := 68) ok dX11_there_61 (by decide) (fun c10 => ?_) (fun c10 => ?_)
            · skip
              refine w_iload_n ok dX11_there_68 3 rfl ?_
              refine w_iload ok dX11_there_69 4 rfl ?_
              refine w_idiv ok dX11_there_71 (hp2 c1 c2 c3 c4 i51 s51 hi51 hs51 c10) ?_
              refine w_i2l ok dX11_there_72 ?_
              have eT : (T_X11_there_j73 a0 a1 I J i51 s51) = ((((100 : Int32) - (I 2 7)) / (F_X11_commonPart ((100 : Int32) - (I 2 7)) 100 I J)).toInt64) := by
                unfold T_X11_there_j73; exact (if_neg c10).trans (rfl)
              refine w_loc [0, 1, 2, 3, 4, 5, 6, 7] rfl ?_
              have jj := jn8
              rw [eT] at jj
              exact jj
            · skip
              refine w_lconst (v := 0) ok dX11_there_64 (by decide) ?_
              refine w_goto (tgt := 73) ok dX11_there_65 (by decide) ?_
              have eT : (T_X11_there_j73 a0 a1 I J i51 s51) = 0 := by
                unfold T_X11_there_j73; exact (if_pos c10).trans (rfl)
              refine w_loc [0, 1, 2, 3, 4, 5, 6, 7] rfl ?_
              have jj := jn8
              rw [eT] at jj
              exact jj
        · skip
          refine w_ldc2 ok dX11_there_19 kX11_314 ?_
          exact w_lret ok fin dX11_there_22 rfl (by unfold F_X11_there; simp only [if_neg c1]; simp only [if_neg c2]; simp only [if_neg c3]; simp only [if_neg c4]; exact Pd.i)
def B_X11_run_l6 (I : SI) (J : SJ) (i6 : Nat) (s6 : Int32 × Int32) : Int32 × Int32 := if (atF (I 88) 8 (nI i6)) = 0 then ((maxI s6.1 0), 0) else (if (nI i6) ≤ 0 then ((maxI s6.1 (s6.2 + 1)), (s6.2 + 1)) else (if (F_X5_breaksBehind 86 ((nI i6) - 1) I J) ≤ 0 then ((maxI s6.1 (s6.2 + 1)), (s6.2 + 1)) else ((maxI s6.1 1), 1)))
def F_X11_run_l6 (I : SI) (J : SJ) (s0 : Int32 × Int32) : Int32 × Int32 := itN (B_X11_run_l6 I J) ((I 8 1).toNatClampNeg) s0
def F_X11_run  (I : SI) (J : SJ) : Int32 := (F_X11_run_l6 I J (0, 0)).1
set_option maxHeartbeats 1080000 in
set_option maxRecDepth 40000 in
theorem c_X11_run {I : SI} {J : SJ} {R : SR} {n g : Nat} {f : Fr} (ro : RO R) (hnn : nK ≤ n) (hf : f.1 = true)    : MM 3 0 0 mX11_run [.ref 0] (eI f I) (eJ f J) R n g (Pd (some (.int (F_X11_run  I J))) (eI f I) (eJ f J) R n g) := by
  refine MM.of (by decide) (Nat.le_of_ble_eq_true rfl) fun K ok fin => ?_
  show WK K 0 0 0 [(0, .ref 0)] [] (eI f I) (eJ f J) R n g
  refine w_iconst (v := 0) ok dX11_run_0 (by decide) ?_
  refine w_istore_n ok dX11_run_1 rfl (by decide) rfl ?_
  refine w_iconst (v := 0) ok dX11_run_2 (by decide) ?_
  refine w_istore_n ok dX11_run_3 rfl (by decide) rfl ?_
  refine w_iconst (v := 0) ok dX11_run_4 (by decide) ?_
  refine w_istore_n ok dX11_run_5 rfl (by decide) rfl ?_
  refine w_loc [3, 2, 1, 0] rfl ?_
  refine loop_for (σ := Int32 × Int32) (fun (i6 : Nat) (s6 : Int32 × Int32) => WK K 0 0 6 [(0, .ref 0), (1, .int s6.1), (2, .int s6.2), (3, .int (nI i6))] [] (eI f I) (eJ f J) R n g) (B_X11_run_l6 I J) ((I 8 1).toNatClampNeg) ((0, 0)) ?_ ?_
  · show WK K 0 0 6 [(0, .ref 0), (1, .int ((F_X11_run_l6 I J (0, 0)).1)), (2, .int ((F_X11_run_l6 I J (0, 0)).2)), (3, .int (nI ((I 8 1).toNatClampNeg)))] [] (eI f I) (eJ f J) R n g
    have e1 : (I 8 1) ≤ (nI ((I 8 1).toNatClampNeg)) := cnt_ge _
    refine w_iload_n ok dX11_run_6 3 rfl ?_
    refine w_aload_n ok dX11_run_7 0 rfl ?_
    refine w_getR ok dX11_run_8 (fX11_20 rfl) (congrArg Prod.fst s_0) rfl (r_0_2 ro) (ltK hnn (by decide)) ?_
    refine w_getR ok dX11_run_11 (fX11_122 rfl) (congrArg Prod.fst s_2) rfl (r_2_1 ro) (ltK hnn (by decide)) ?_
    refine y_getI ok dX11_run_14 (fX11_256 rfl) (congrArg Prod.fst s_8) rfl (ltK hnn (by decide)) (sdc hf (by decide)) ?_
    refine w_icmp_ge (tgt := 76) ok dX11_run_17 (by decide) (fun _ => ?_) (fun h => absurd e1 h)
    refine w_iload_n ok dX11_run_76 1 rfl ?_
    exact w_iret ok fin dX11_run_77 rfl (by unfold F_X11_run; exact Pd.i)
  · intro i6 s6 hi6 hs6 k6
    show WK K 0 0 6 [(0, .ref 0), (1, .int s6.1), (2, .int s6.2), (3, .int (nI i6))] [] (eI f I) (eJ f J) R n g
    have e2 : ¬ ((I 8 1) ≤ (nI i6)) := cnt_lt hi6
    refine w_iload_n ok dX11_run_6 3 rfl ?_
    refine w_aload_n ok dX11_run_7 0 rfl ?_
    refine w_getR ok dX11_run_8 (fX11_20 rfl) (congrArg Prod.fst s_0) rfl (r_0_2 ro) (ltK hnn (by decide)) ?_
    refine w_getR ok dX11_run_11 (fX11_122 rfl) (congrArg Prod.fst s_2) rfl (r_2_1 ro) (ltK hnn (by decide)) ?_
    refine y_getI ok dX11_run_14 (fX11_256 rfl) (congrArg Prod.fst s_8) rfl (ltK hnn (by decide)) (sdc hf (by decide)) ?_
    refine w_icmp_ge (tgt := 76) ok dX11_run_17 (by decide) (fun h => absurd h e2) (fun _ => ?_)
    refine w_aload_n ok dX11_run_20 0 rfl ?_
    refine w_getR ok dX11_run_21 (fX11_34 rfl) (congrArg Prod.fst s_0) rfl (r_0_4 ro) (ltK hnn (by decide)) ?_
    refine w_getR ok dX11_run_24 (fX11_171 rfl) (congrArg Prod.fst s_86) rfl (r_86_8 ro) (ltK hnn (by decide)) ?_
    refine w_iload_n ok dX11_run_27 3 rfl ?_
    refine w_cS (As := [.ref 88, .int (nI i6)]) ok dX11_run_28 iX11_at (lX11_146 rfl) (c_at s_88 (ltK hnn (by decide)) (sdc hf (by decide)) (nI i6)) (by decide) rfl (Nat.le_of_ble_eq_true rfl) ?_
    refine w_if_ne (tgt := 39) ok dX11_run_31 (by decide) (fun c3 => ?_) (fun c3 => ?_)
    · skip
      refine w_iload_n ok dX11_run_39 3 rfl ?_
      refine w_if_le (tgt := 61) ok dX11_run_40 (by decide) (fun c4 => ?_) (fun c4 => ?_)
      · skip
        refine w_iinc (v := s6.2 + 1) ok dX11_run_61 2 rfl rfl (by decide) rfl ?_
        refine w_iload_n ok dX11_run_64 2 rfl ?_
        refine w_iload_n ok dX11_run_65 0 rfl ?_
        refine w_maxI ok dX11_run_66 (iT_5 161 (by decide +kernel) (by decide +kernel)) (Nat.le_of_ble_eq_true rfl) ?_
        refine w_istore_n ok dX11_run_69 rfl (by decide) rfl ?_
        refine w_iinc (v := (nI i6) + 1) ok dX11_run_70 3 rfl rfl (by decide) rfl ?_
        refine w_goto (tgt := 6) ok dX11_run_73 (by decide) ?_
        have eB : B_X11_run_l6 I J i6 s6 = ((maxI s6.1 (s6.2 + 1)), (s6.2 + 1)) := by
          unfold B_X11_run_l6; exact (if_neg c3).trans ((if_pos c4).trans (rfl))
        have kk := k6
        rw [eB] at kk
        refine w_loc [3, 1, 2, 0] rfl ?_
        rw [nI_1 i6]
        exact kk
      · skip
        refine w_aload_n ok dX11_run_43 0 rfl ?_
        refine w_getR ok dX11_run_44 (fX11_34 rfl) (congrArg Prod.fst s_0) rfl (r_0_4 ro) (ltK hnn (by decide)) ?_
        refine w_iload_n ok dX11_run_47 3 rfl ?_
        refine w_iconst (v := 1) ok dX11_run_48 (by decide) ?_
        refine w_isub ok dX11_run_49 ?_
        refine w_cV (As := [.int ((nI i6) - 1)]) ok dX11_run_50 iX5_breaksBehind (lX11_322 rfl) (rcv cls5 (congrArg Prod.fst s_86)) (ltK hnn (by decide)) (c_X5_breaksBehind ro hnn hf ((nI i6) - 1) isSc_86) (by decide) rfl (Nat.le_of_ble_eq_true rfl) ?_
        refine w_if_le (tgt := 61) ok dX11_run_53 (by decide) (fun c5 => ?_) (fun c5 => ?_)
        · skip
          refine w_iinc (v := s6.2 + 1) ok dX11_run_61 2 rfl rfl (by decide) rfl ?_
          refine w_iload_n ok dX11_run_64 2 rfl ?_
          refine w_iload_n ok dX11_run_65 0 rfl ?_
          refine w_maxI ok dX11_run_66 (iT_5 161 (by decide +kernel) (by decide +kernel)) (Nat.le_of_ble_eq_true rfl) ?_
          refine w_istore_n ok dX11_run_69 rfl (by decide) rfl ?_
          refine w_iinc (v := (nI i6) + 1) ok dX11_run_70 3 rfl rfl (by decide) rfl ?_
          refine w_goto (tgt := 6) ok dX11_run_73 (by decide) ?_
          have eB : B_X11_run_l6 I J i6 s6 = ((maxI s6.1 (s6.2 + 1)), (s6.2 + 1)) := by
            unfold B_X11_run_l6; exact (if_neg c3).trans ((if_neg c4).trans ((if_pos c5).trans (rfl)))
          have kk := k6
          rw [eB] at kk
          refine w_loc [3, 1, 2, 0] rfl ?_
          rw [nI_1 i6]
          exact kk
        · skip
          refine w_iconst (v := 1) ok dX11_run_56 (by decide) ?_
          refine w_istore_n ok dX11_run_57 rfl (by decide) rfl ?_
          refine w_goto (tgt := 64) ok dX11_run_58 (by decide) ?_
          refine w_iload_n ok dX11_run_64 2 rfl ?_
          refine w_iload_n ok dX11_run_65 0 rfl ?_
          refine w_maxI ok dX11_run_66 (iT_5 161 (by decide +kernel) (by decide +kernel)) (Nat.le_of_ble_eq_true rfl) ?_
          refine w_istore_n ok dX11_run_69 rfl (by decide) rfl ?_
          refine w_iinc (v := (nI i6) + 1) ok dX11_run_70 3 rfl rfl (by decide) rfl ?_
          refine w_goto (tgt := 6) ok dX11_run_73 (by decide) ?_
          have eB : B_X11_run_l6 I J i6 s6 = ((maxI s6.1 1), 1) := by
            unfold B_X11_run_l6; exact (if_neg c3).trans ((if_neg c4).trans ((if_neg c5).trans (rfl)))
          have kk := k6
          rw [eB] at kk
          refine w_loc [3, 1, 2, 0] rfl ?_
          rw [nI_1 i6]
          exact kk
    · skip
      refine w_iconst (v := 0) ok dX11_run_34 (by decide) ?_
      refine w_istore_n ok dX11_run_35 rfl (by decide) rfl ?_
      refine w_goto (tgt := 64) ok dX11_run_36 (by decide) ?_
      refine w_iload_n ok dX11_run_64 2 rfl ?_
      refine w_iload_n ok dX11_run_65 0 rfl ?_
      refine w_maxI ok dX11_run_66 (iT_5 161 (by decide +kernel) (by decide +kernel)) (Nat.le_of_ble_eq_true rfl) ?_
      refine w_istore_n ok dX11_run_69 rfl (by decide) rfl ?_
      refine w_iinc (v := (nI i6) + 1) ok dX11_run_70 3 rfl rfl (by decide) rfl ?_
      refine w_goto (tgt := 6) ok dX11_run_73 (by decide) ?_
      have eB : B_X11_run_l6 I J i6 s6 = ((maxI s6.1 0), 0) := by
        unfold B_X11_run_l6; exact (if_pos c3).trans (rfl)
      have kk := k6
      rw [eB] at kk
      refine w_loc [3, 1, 2, 0] rfl ?_
      rw [nI_1 i6]
      exact kk
