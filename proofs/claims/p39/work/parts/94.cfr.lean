/-! the class's reader: what stays in the tables -/
theorem itW_P {σ ρ : Type} {f : σ → σ ⊕ ρ} (P : σ → Prop) (Q : ρ → Prop) (hs : ∀ s s', P s → f s = .inl s' → P s') (hr : ∀ s r, P s → f s = .inr r → Q r) : ∀ n s, P s → ∀ d, Q d → Q ((itW f n s).getD d) := by
  intro n
  induction n with
  | zero => intro s _ d hd; rw [itW]; exact hd
  | succ n ih =>
    intro s hp d hd
    cases hf : f s with
    | inl s' => rw [itW_l f n s s' hf]; exact ih s' (hs s s' hp hf) d hd
    | inr r => rw [itW_r f n s r hf]; exact hr s r hp hf
theorem itE_P {σ ρ : Type} {f : Nat → σ → σ ⊕ ρ} (P : σ → Prop) (Q : ρ → Prop) (hs : ∀ i s s', P s → f i s = .inl s' → P s') (hr : ∀ i s r, P s → f i s = .inr r → Q r) : ∀ n i s, P s → (∀ s', itE f n i s = .inl s' → P s') ∧ ∀ r, itE f n i s = .inr r → Q r := by
  intro n
  induction n with
  | zero => intro i s hp; rw [itE_0]; exact ⟨fun s' h => by cases h; exact hp, fun r h => by cases h⟩
  | succ n ih =>
    intro i s hp
    cases hf : f i s with
    | inl s' => rw [itE_l f n i s s' hf]; exact ih (i + 1) s' (hs i s s' hp hf)
    | inr r =>
      rw [itE_r f n i s r hf]
      refine ⟨fun s' h => ?_, fun r' h => ?_⟩
      · cases h
      · cases h
        exact hr i s r hp hf
def dQ (a : Nat) : Prop := a = 82 ∨ (43 ≤ a ∧ a ≤ 67) ∨ a < 41 ∨ 85 < a
def KQ (A A' : SI) : Prop := ∀ a b, dQ a → A' a b = A a b
theorem KQ.rf (A : SI) : KQ A A := fun _ _ _ => rfl
theorem KQ.tr {A A1 A2 : SI} (h : KQ A A1) (h2 : KQ A1 A2) : KQ A A2 := fun a b z => (h2 a b z).trans (h a b z)
theorem KQ.u {A A1 : SI} {a b : Nat} {v : Int32} (h : KQ A A1) (ha : ¬ dQ a) : KQ A (u2 A1 a b v) := fun c d z => (u2_n _ _ (fun q => ha (by rw [← q.1]; exact z))).trans (h c d z)
theorem KQ.p {A A1 : SI} {r len : Nat} {i x : Int32} (h : KQ A A1) (ha : ¬ dQ r) : KQ A (putF A1 r len i x) := fun c d z => (putF_n (fun q => ha (by rw [← q]; exact z))).trans (h c d z)
theorem nq {a : Nat} (h : a = 41 ∨ a = 42 ∨ a = 68 ∨ (69 ≤ a ∧ a ≤ 80) ∨ a = 81 ∨ a = 84 ∨ a = 85) : ¬ dQ a := by unfold dQ; omega
theorem word_Q {A : SI} {J : SJ} : KQ A (FI_X8_word A J) := by
  have L := itW_P (f := B_X8_word_w16 A J) (fun s => KQ A s.2.2) (fun s => KQ A s.2.2) (fun s s' h hf => by
    unfold B_X8_word_w16 at hf
    repeat' split at hf
    all_goals cases hf
    all_goals (unfold S4_X8_word; exact (h.u (nq (by omega))).u (nq (by omega)))) (fun s r h hf => by
    unfold B_X8_word_w16 at hf
    repeat' split at hf
    all_goals cases hf
    all_goals exact h) 800 (0, (F_X8_signAt ((u2 A 81 6 0) 81 3) (u2 A 81 6 0) J), (u2 A 81 6 0)) ((KQ.rf A).u (nq (by omega))) (0, (F_X8_signAt ((u2 A 81 6 0) 81 3) (u2 A 81 6 0) J), (u2 A 81 6 0)) ((KQ.rf A).u (nq (by omega)))
  have s1 : KQ A (S1_X8_word A J) := by unfold S1_X8_word F_X8_word_w16; exact L
  have M := itW_P (f := B_X8_word_w90 A J) (fun s => KQ A s.2) (fun s => KQ A s.2) (fun s s' h hf => by
    unfold B_X8_word_w90 at hf
    repeat' split at hf
    all_goals cases hf
    all_goals exact h.u (nq (by omega))) (fun s r h hf => by
    unfold B_X8_word_w90 at hf
    repeat' split at hf
    all_goals cases hf
    all_goals exact h) 800 (0, (u2 (S1_X8_word A J) 81 5 (T_X8_word_j85 A J))) (s1.u (nq (by omega))) (0, (u2 (S1_X8_word A J) 81 5 (T_X8_word_j85 A J))) (s1.u (nq (by omega)))
  unfold FI_X8_word F_X8_word_w90
  exact M
theorem numb_Q {A : SI} {J : SJ} : KQ A (FI_X8_number A J) := by
  have L := itW_P (f := B_X8_number_w14 A J) (fun s => KQ A s.2) (fun s => KQ A s.2) (fun s s' h hf => by
    unfold B_X8_number_w14 at hf
    repeat' split at hf
    all_goals cases hf
    all_goals (unfold S3_X8_number; exact (h.u (nq (by omega))).u (nq (by omega)))) (fun s r h hf => by
    unfold B_X8_number_w14 at hf
    repeat' split at hf
    all_goals cases hf
    all_goals exact h) 800 ((F_X8_signAt ((u2 A 81 6 0) 81 3) (u2 A 81 6 0) J), (u2 A 81 6 0)) ((KQ.rf A).u (nq (by omega))) ((F_X8_signAt ((u2 A 81 6 0) 81 3) (u2 A 81 6 0) J), (u2 A 81 6 0)) ((KQ.rf A).u (nq (by omega)))
  unfold FI_X8_number S1_X8_number F_X8_number_w14
  exact KQ.u L (nq (by omega))
theorem step_Q {A : SI} {J : SJ} : KQ A (FI_X8_step A J) := by
  have L := itW_P (f := B_X8_step_w17 A J) (fun s => KQ A s.2) (fun s => KQ A s.2) (fun s s' h hf => by
    unfold B_X8_step_w17 at hf
    repeat' split at hf
    all_goals cases hf
    all_goals exact h.u (nq (by omega))) (fun s r h hf => by
    unfold B_X8_step_w17 at hf
    repeat' split at hf
    all_goals cases hf
    all_goals exact h) 800 ((F_X8_signAt (A 81 3) A J), A) (KQ.rf A) ((F_X8_signAt (A 81 3) A J), A) (KQ.rf A)
  have s1 : KQ A (S1_X8_step A J) := by unfold S1_X8_step F_X8_step_w17; exact KQ.u L (nq (by omega))
  have s5 : KQ A (S5_X8_step A J) := by unfold S5_X8_step; exact (s1.u (nq (by omega))).u (nq (by omega))
  unfold FI_X8_step
  repeat' split
  · exact s5.u (nq (by omega))
  · exact s5.u (nq (by omega))
  · exact s1.tr numb_Q
  · exact s1.tr word_Q
  · exact s1.u (nq (by omega))
  · exact KQ.rf A
theorem fail_Q {w : Int32} {A : SI} {J : SJ} : KQ A (FI_X4_fail w A J) := by
  unfold FI_X4_fail
  split
  · exact (((KQ.rf A).u (nq (by omega))).u (nq (by omega))).u (nq (by omega))
  · exact KQ.rf A
theorem begin_Q {w : Int32} {A : SI} {J : SJ} : KQ A (FI_X4_begin w A J) := by
  unfold FI_X4_begin
  split
  · exact step_Q
  · exact fail_Q.tr step_Q
theorem num_Q {a0 a1 : Int32} {A : SI} {J : SJ} : KQ A (FI_X4_number a0 a1 A J) := by
  unfold FI_X4_number
  repeat' split
  all_goals first
    | exact step_Q
    | exact fail_Q.tr step_Q
theorem fresh_Q {k : Nat} {A : SI} {J : SJ} : KQ A (FI_X4_fresh k A J) := by
  unfold FI_X4_fresh
  repeat' split
  all_goals first
    | exact step_Q
    | exact fail_Q.tr step_Q
theorem find_Q {k : Nat} {A : SI} {J : SJ} : KQ A (FI_X4_find k A J) := by
  unfold FI_X4_find
  repeat' split
  all_goals first
    | exact KQ.rf A
    | exact fail_Q
theorem addl_Q {k : Nat} {x y : Int32} {A : SI} {J : SJ} (h : K3 k) : KQ A (FI_X1_add k x y A J) := fun a b z => addl_fr (by unfold K3 at h; unfold dQ at z; omega)
theorem join_Q {k : Nat} {w : Int32} {A : SI} {J : SJ} (h : K3 k) : KQ A (FI_X4_join k w A J) := by
  have L := itW_P (f := B_X4_join_w5 k w A J) (fun s => KQ A s.2) (fun s => KQ A s.2) (fun s s' hp hf => by
    obtain ⟨_, f2⟩ := inl_of hf
    obtain ⟨_, f3⟩ := inl_of f2
    rw [← Sum.inl.inj f3]
    show KQ A (S1_X4_join k w A J s)
    unfold S1_X4_join
    exact (hp.tr (addl_Q h)).u (nq (by omega))) (fun s r hp hf => by
    unfold B_X4_join_w5 at hf
    split at hf
    · rw [← Sum.inr.inj hf]; exact hp
    · split at hf
      · rw [← Sum.inr.inj hf]; exact hp
      · cases hf) 800 ((A 41 6), A) (KQ.rf A) ((A 41 6), A) (KQ.rf A)
  unfold FI_X4_join F_X4_join_w5
  exact L
theorem hold_Q {w : Int32} {A : SI} {J : SJ} : KQ A (FI_X4_hold w A J) := by
  unfold FI_X4_hold S1_X4_hold
  split
  · exact (((KQ.rf A).p (nq (by omega))).p (nq (by omega))).u (nq (by omega))
  · exact KQ.rf A
theorem knot_Q {A : SI} {J : SJ} : KQ A (FI_X4_knot A J) := by
  unfold FI_X4_knot
  split
  · exact (KQ.rf A).u (nq (by omega))
  · exact fail_Q
theorem opd_Q {k : Nat} {A : SI} {J : SJ} (h : K3 k) : KQ A (FI_X4_operand k A J) := by
  have t46 : KQ A (T_X4_operand_j46 k A J) := by
    unfold T_X4_operand_j46
    split
    · exact knot_Q
    · exact knot_Q.tr fail_Q
  have t88 : KQ A (T_X4_operand_j88 k A J) := by
    unfold T_X4_operand_j88
    split
    · exact KQ.rf A
    · exact fail_Q
  have s1 : KQ A (S1_X4_operand k A J) := by unfold S1_X4_operand; exact t46.tr (addl_Q h)
  have s2 : KQ A (S2_X4_operand k A J) := by unfold S2_X4_operand; exact t88.u (nq (by omega))
  unfold FI_X4_operand
  split
  · exact s1
  · split
    · split
      · exact s2.tr hold_Q
      · split
        · split
          · exact fail_Q
          · exact knot_Q.tr hold_Q
        · exact fail_Q
    · exact knot_Q.tr (addl_Q h)
theorem sgn_Q {k : Nat} {A : SI} {J : SJ} (h : K3 k) : KQ A (FI_X4_sign k A J) := by
  have s1 : KQ A (S1_X4_sign k A J) := by unfold S1_X4_sign; exact ((join_Q h).tr knot_Q).tr hold_Q
  have s2 : KQ A (S2_X4_sign k A J) := by unfold S2_X4_sign; exact ((join_Q h).tr knot_Q).tr hold_Q
  have s3 : KQ A (S3_X4_sign k A J) := by unfold S3_X4_sign; exact ((join_Q h).tr fail_Q).tr knot_Q
  have s4 : KQ A (S4_X4_sign k A J) := by unfold S4_X4_sign; exact ((join_Q h).tr knot_Q).tr hold_Q
  have s5 : KQ A (S5_X4_sign k A J) := by unfold S5_X4_sign; exact ((join_Q h).tr knot_Q).tr hold_Q
  have s6 : KQ A (S6_X4_sign k A J) := by unfold S6_X4_sign; exact ((join_Q h).tr fail_Q).tr knot_Q
  have s7 : KQ A (S7_X4_sign k A J) := by unfold S7_X4_sign; exact ((join_Q h).u (nq (by omega))).u (nq (by omega))
  unfold FI_X4_sign
  split
  · split
    · split
      · exact fail_Q
      · split
        · exact fail_Q
        · split
          · split
            · exact s6.tr hold_Q
            · exact s5
          · exact s4
    · exact s7
  · split
    · exact fail_Q
    · split
      · exact fail_Q
      · split
        · split
          · exact s3.tr hold_Q
          · exact s2
        · exact s1
theorem side_Q {k : Nat} {A : SI} {J : SJ} (h : K3 k) : KQ A (FI_X4_side k A J) := by
  have L := itE_P (f := B_X4_side_l14_3 k A J) (fun s => KQ A s.2) (fun s => KQ A s) (fun i s s' hp hf => by
    unfold B_X4_side_l14_3 at hf
    split at hf
    · split at hf
      · split at hf
        · split at hf
          · cases hf
          · rw [← Sum.inl.inj hf]; exact (hp.tr (sgn_Q h)).tr step_Q
        · rw [← Sum.inl.inj hf]; exact (hp.tr (sgn_Q h)).tr step_Q
      · rw [← Sum.inl.inj hf]; exact (hp.tr (opd_Q h)).tr step_Q
    · cases hf) (fun i s r hp hf => by
    unfold B_X4_side_l14_3 at hf
    split at hf
    · split at hf
      · split at hf
        · split at hf
          · rw [← Sum.inr.inj hf]; exact hp.tr (join_Q h)
          · cases hf
        · cases hf
      · cases hf
    · rw [← Sum.inr.inj hf]; exact hp) 701 0 (1, u2 (u2 A 41 6 0) 41 7 0) (((KQ.rf A).u (nq (by omega))).u (nq (by omega)))
  unfold FI_X4_side F_X4_side_l14_3
  cases hm : itE (B_X4_side_l14_3 k A J) 701 0 (1, u2 (u2 A 41 6 0) 41 7 0) with
  | inl s => exact L.1 s hm
  | inr r => exact L.2 r hm
/-- rows of a table told one by one -/
def AQ (A L : SI) (J : SJ) : Prop := ∃ X : SI, KQ A X ∧ (L = X ∨ ∃ (k : Nat) (x0 x1 x2 x3 : Int32), (k = 43 ∨ k = 48 ∨ k = 53 ∨ k = 58 ∨ k = 63) ∧ L = FI_X7_add k x0 x1 x2 x3 X J)
theorem AQ.q {A L : SI} {J : SJ} (h : KQ A L) : AQ A L J := ⟨L, h, Or.inl rfl⟩
theorem once_Q {a0 a1 : Int32} {A : SI} {J : SJ} : KQ A (FI_X4_onlyOnce a0 a1 A J) := by
  unfold FI_X4_onlyOnce
  split
  · exact step_Q.tr num_Q
  · exact (fail_Q.tr step_Q).tr num_Q
theorem line_Q {A : SI} {J : SJ} : AQ A (FI_X4_line A J) J := by
  unfold FI_X4_line
  repeat' split
  · unfold FI_X4_markLine
    have x : KQ A (FI_X4_number 2 6 (S1_X4_markLine A J) J) := by
      unfold S1_X4_markLine
      exact ((begin_Q.tr fresh_Q).tr num_Q).tr num_Q
    split
    · exact ⟨_, x, Or.inr ⟨43, _, _, _, _, by omega, rfl⟩⟩
    · exact AQ.q x
  · unfold FI_X4_shotLine
    have x : KQ A (FI_X4_number 0 99 (S1_X4_shotLine A J) J) := by
      unfold S1_X4_shotLine
      exact ((begin_Q.tr fresh_Q).tr num_Q).tr num_Q
    split
    · exact ⟨_, x, Or.inr ⟨48, _, _, _, _, by omega, rfl⟩⟩
    · exact AQ.q x
  · refine AQ.q ?_
    have s1 : KQ A (S1_X4_pairLine A J) := by unfold S1_X4_pairLine; exact (begin_Q.tr find_Q).tr step_Q
    have t85 : KQ A (T_X4_pairLine_j85 A J) := by
      unfold T_X4_pairLine_j85
      repeat' split
      · exact s1.tr find_Q
      · exact (s1.tr find_Q).tr fail_Q
      · exact s1.tr find_Q
    have s4 : KQ A (S4_X4_pairLine A J) := by unfold S4_X4_pairLine; exact (t85.tr step_Q).tr num_Q
    unfold FI_X4_pairLine
    split
    · unfold S5_X4_pairLine
      exact (s4.p (nq (by omega))).u (nq (by omega))
    · exact s4
  · unfold FI_X4_partyLine
    have x : KQ A (FI_X4_number 0 99 (S3_X4_partyLine A J) J) := by
      unfold S3_X4_partyLine S1_X4_partyLine
      exact ((((begin_Q.tr fresh_Q).tr find_Q).tr step_Q).tr num_Q).tr num_Q
    split
    · exact ⟨_, x, Or.inr ⟨53, _, _, _, _, by omega, rfl⟩⟩
    · exact AQ.q x
  · unfold FI_X4_clerkLine
    have x : KQ A (S1_X4_clerkLine A J) := by
      unfold S1_X4_clerkLine
      exact (begin_Q.tr fresh_Q).tr num_Q
    split
    · exact ⟨_, x, Or.inr ⟨58, _, _, _, _, by omega, rfl⟩⟩
    · exact AQ.q x
  · unfold FI_X4_coldLine
    have x : KQ A (S1_X4_coldLine A J) := by
      unfold S1_X4_coldLine
      exact (begin_Q.tr num_Q).tr num_Q
    split
    · exact ⟨_, x, Or.inr ⟨63, _, _, _, _, by omega, rfl⟩⟩
    · exact AQ.q x
  · unfold S1_X4_line; exact AQ.q (once_Q.u (nq (by omega)))
  · unfold S2_X4_line; exact AQ.q (once_Q.u (nq (by omega)))
  · unfold S3_X4_line; exact AQ.q (once_Q.u (nq (by omega)))
  · refine AQ.q ?_
    unfold FI_X4_lawLine
    have t1 : KQ A (T_X4_lawLine_j91 A J) := by
      unfold T_X4_lawLine_j91
      split
      · exact step_Q
      · exact step_Q.tr fail_Q
    have t2 : KQ A (T_X4_lawLine_j91_2 A J) := by
      unfold T_X4_lawLine_j91_2
      split
      · exact step_Q
      · exact step_Q.tr fail_Q
    have t3 : KQ A (T_X4_lawLine_j91_3 A J) := by
      unfold T_X4_lawLine_j91_3
      split
      · exact step_Q
      · exact step_Q.tr fail_Q
    repeat' split
    · exact ((t1.u (nq (by omega))).tr step_Q).tr (side_Q (by unfold K3; omega))
    · exact ((t2.u (nq (by omega))).tr step_Q).tr (side_Q (by unfold K3; omega))
    · exact ((t3.u (nq (by omega))).tr step_Q).tr (side_Q (by unfold K3; omega))
    · exact step_Q.tr fail_Q
  · exact AQ.q fail_Q
/-- the tables' sizes, and nothing behind their last rows -/
def ZT (k mx : Nat) (A : SI) : Prop := A k 0 = nI mx ∧ ∃ c : Nat, c ≤ mx ∧ A k 1 = nI c ∧ ∀ j i, 1 ≤ j → j ≤ 4 → c ≤ i → i < 8 → A (k + j) i = 0
def ZK (A : SI) : Prop := ZT 43 6 A ∧ ZT 48 8 A ∧ ZT 53 4 A ∧ ZT 58 4 A ∧ ZT 63 3 A ∧ WD A
theorem ZT.q {k mx : Nat} {A A' : SI} (h : ZT k mx A) (q : ∀ a b, k ≤ a → a ≤ k + 4 → A' a b = A a b) : ZT k mx A' := by
  obtain ⟨h0, c, hc, h1, h2⟩ := h
  refine ⟨(q k 0 (by omega) (by omega)).trans h0, c, hc, (q k 1 (by omega) (by omega)).trans h1, fun j i a b x y => ?_⟩
  rw [q (k + j) i (by omega) (by omega)]
  exact h2 j i a b x y
theorem ZK.q {A A' : SI} (h : ZK A) (q : KQ A A') : ZK A' := by
  obtain ⟨h0, h1, h2, h3, h4, h5⟩ := h
  exact ⟨h0.q (fun a b x y => q a b (by unfold dQ; omega)), h1.q (fun a b x y => q a b (by unfold dQ; omega)), h2.q (fun a b x y => q a b (by unfold dQ; omega)), h3.q (fun a b x y => q a b (by unfold dQ; omega)), h4.q (fun a b x y => q a b (by unfold dQ; omega)), fun i hi => (q 82 i (by unfold dQ; omega)).trans (h5 i hi)⟩
theorem ZT.add {k mx : Nat} {x0 x1 x2 x3 : Int32} {A : SI} {J : SJ} (h : ZT k mx A) (hm : mx ≤ 8) : ZT k mx (FI_X7_add k x0 x1 x2 x3 A J) := by
  obtain ⟨h0, c, hc, h1, h2⟩ := h
  by_cases z : c < mx
  · rw [tadd_v h0 h1 z hm]
    refine ⟨(u2_n _ _ (by omega)).trans ((u2_n _ _ (by omega)).trans ((u2_n _ _ (by omega)).trans ((u2_n _ _ (by omega)).trans ((u2_n _ _ (by omega)).trans h0)))), c + 1, by omega, u2_s _ _ _ _, fun j i a b x y => ?_⟩
    rw [u2_n _ _ (by omega), u2_n _ _ (by omega), u2_n _ _ (by omega), u2_n _ _ (by omega), u2_n _ _ (by omega)]
    exact h2 j i a b (by omega) y
  · have e : FI_X7_add k x0 x1 x2 x3 A J = A := by
      unfold FI_X7_add
      rw [if_pos (by rw [h0, h1]; exact nI_le (by omega) (by omega))]
    rw [e]
    exact ⟨h0, c, hc, h1, h2⟩
theorem ZK.add {k : Nat} {x0 x1 x2 x3 : Int32} {A : SI} {J : SJ} (h : ZK A) (hk : k = 43 ∨ k = 48 ∨ k = 53 ∨ k = 58 ∨ k = 63) : ZK (FI_X7_add k x0 x1 x2 x3 A J) := by
  obtain ⟨h0, h1, h2, h3, h4, h5⟩ := h
  have ot : ∀ {k2 mx : Nat}, ZT k2 mx A → (k2 + 4 < k ∨ k + 4 < k2) → ZT k2 mx (FI_X7_add k x0 x1 x2 x3 A J) := fun {k2 mx} z y => z.q (fun a b u v => tadd_fr (by omega))
  have w : WD (FI_X7_add k x0 x1 x2 x3 A J) := fun i hi => (tadd_fr (by omega)).trans (h5 i hi)
  rcases hk with rfl | rfl | rfl | rfl | rfl
  · exact ⟨h0.add (by omega), ot h1 (by omega), ot h2 (by omega), ot h3 (by omega), ot h4 (by omega), w⟩
  · exact ⟨ot h0 (by omega), h1.add (by omega), ot h2 (by omega), ot h3 (by omega), ot h4 (by omega), w⟩
  · exact ⟨ot h0 (by omega), ot h1 (by omega), h2.add (by omega), ot h3 (by omega), ot h4 (by omega), w⟩
  · exact ⟨ot h0 (by omega), ot h1 (by omega), ot h2 (by omega), h3.add (by omega), ot h4 (by omega), w⟩
  · exact ⟨ot h0 (by omega), ot h1 (by omega), ot h2 (by omega), ot h3 (by omega), h4.add (by omega), w⟩
theorem ZK.aq {A L : SI} {J : SJ} (h : ZK A) (a : AQ A L J) : ZK L := by
  obtain ⟨X, k, r⟩ := a
  rcases r with rfl | ⟨k2, x0, x1, x2, x3, hk, rfl⟩
  · exact h.q k
  · exact (h.q k).add hk
