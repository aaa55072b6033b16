theorem itE_inv {σ ρ : Type} {f : Nat → σ → σ ⊕ ρ} {s0 : σ} (P : σ → Prop) (Q : ρ → Prop) (h0 : P s0) (hs : ∀ i s s', P s → f i s = .inl s' → P s') (hr : ∀ i s r, P s → f i s = .inr r → Q r) : (∀ m s, itE f m 0 s0 = .inl s → P s) ∧ ∀ m r, itE f m 0 s0 = .inr r → Q r := by
  have key : ∀ m i s, P s → (∀ s', itE f m i s = .inl s' → P s') ∧ ∀ r, itE f m i s = .inr r → Q r := by
    intro m
    induction m with
    | zero => intro i s hp; exact ⟨fun s' h => by rw [itE_0] at h; cases h; exact hp, fun r h => by rw [itE_0] at h; cases h⟩
    | succ m ih =>
      intro i s hp
      cases hf : f i s with
      | inl s2 => rw [itE_l f m i s s2 hf]; exact ih (i + 1) s2 (hs i s s2 hp hf)
      | inr r2 => rw [itE_r f m i s r2 hf]; exact ⟨fun s' h => (by cases h), fun r h => by cases h; exact hr i s r2 hp hf⟩
  exact ⟨fun m s h => (key m 0 s0 h0).1 s h, fun m r h => (key m 0 s0 h0).2 r h⟩
theorem m_agrees {tp : SI} {I : SI} {J : SJ} (h : (MW tp) I) : H_X12_agrees I J ∧ (MW tp) (FI_X12_agrees I J) := by
  have h' := h.u0
  have L := itE_inv (f := B_X12_agrees_l13_4 I J) (s0 := (FI_X12_copies 1 0 (u2 I 130 0 0) J, J)) (fun s => FrM (u2 I 130 0 0) s.1) (fun r => FrM (u2 I 130 0 0) r.2.1) (copies_F _ _ _ _) (fun i s s' hp hf => by
    unfold B_X12_agrees_l13_4 at hf
    repeat' split at hf
    all_goals cases hf
    all_goals exact hp.tr (passes_H (h'.1.fr hp) r1).2) (fun i s r hp hf => by
    unfold B_X12_agrees_l13_4 at hf
    repeat' split at hf
    all_goals cases hf
    all_goals exact hp)
  refine ⟨?_, ?_⟩
  · unfold H_X12_agrees
    exact ⟨copies_H r1 r0 _ _, fun _ _ _ _ => sumH (p := 1) (by decide), fun _ _ _ h1 _ => (passes_H (h'.1.fr (L.1 _ _ h1)) r1).1, fun _ _ _ h1 _ => clashesAll_H (h'.1.fr (L.1 _ _ h1)) r1, fun _ _ _ h1 _ _ => (passes_H (h'.1.fr (L.1 _ _ h1)) r1).1⟩
  · unfold FI_X12_agrees
    cases q : F_X12_agrees_l13_4 I J (FI_X12_copies 1 0 (u2 I 130 0 0) J, J) with
    | inl s => exact h'.fr (L.1 _ _ q)
    | inr r => exact h'.fr (L.2 _ _ q)
theorem m_count {tp : SI} {a0 : Int32} {I : SI} {J : SJ} (h : (MW tp) I) : H_X12_count a0 I J ∧ (MW tp) (FI_X12_count a0 I J) := by
  have h' := h.u0
  refine ⟨?_, ?_⟩
  · unfold H_X12_count
    exact ⟨fun _ _ _ _ _ _ _ => sumH (p := 0) (by decide), fun _ _ _ _ _ _ _ _ _ => sumH (p := 0) (by decide), fun _ _ _ _ _ _ _ _ _ _ _ => clashesAll_H h'.1 r0⟩
  · unfold FI_X12_count
    simp only [ite_self]
    exact h'
theorem m_keep {tp : SI} {I : SI} {J : SJ} (h : (MW tp) I) : H_X12_keep I J ∧ (MW tp) (FI_X12_keep I J) := by
  have h' := h.u0
  refine ⟨?_, ?_⟩
  · unfold H_X12_keep
    exact copies_H r2 r0 _ _
  · unfold FI_X12_keep
    exact (h'.fr (copies_F _ _ _ _)).u rfl
theorem m_back {tp : SI} {I : SI} {J : SJ} (h : (MW tp) I) : H_X12_back I J ∧ (MW tp) (FI_X12_back I J) := by
  have h' := h.u0
  refine ⟨?_, ?_⟩
  · unfold H_X12_back
    exact fun _ => copies_H r0 r2 _ _
  · unfold FI_X12_back
    split
    · exact h'
    · exact (h'.fr (copies_F _ _ _ _)).n ⟨rfl, by decide⟩
theorem undo_n {tp : SI} {I : SI} (h : (MW tp) I) (h0 : ¬ I 130 54 = 0) : inR (I 130 54 - 1) 20 := by
  obtain ⟨i, hi, e⟩ := h.gn.n
  have : i ≠ 0 := fun q => h0 (by rw [e, q]; rfl)
  rw [e, show nI i - 1 = nI (i - 1) from pk_sub (b := 1) (by omega)]
  exact inR_nI (by omega) (by decide)
theorem m_undo {tp : SI} {I : SI} {J : SJ} (h : (MW tp) I) : H_X12_undo I J ∧ (MW tp) (FI_X12_undo I J) := by
  have h' := h.u0
  refine ⟨?_, ?_⟩
  · unfold H_X12_undo
    exact fun h0 => (by rw [u2_s]; exact copies_H r0 (r3p (undo_n h' h0)) _ _)
  · unfold FI_X12_undo
    split
    · exact h'
    · next q => unfold S1_X12_undo; exact (h'.n ((undo_n h' q).le (by decide))).fr (copies_F _ _ _ _)
theorem m_without {tp : SI} {a0 : Int32} {I : SI} {J : SJ} (h : (MW tp) I) : H_X12_without a0 I J ∧ (MW tp) (FI_X12_without a0 I J) := by
  have h' := h.u0
  have rn := runs_H (n := a0) (J := J) (h'.u (a := 130) (b := 59) (v := 1) rfl).1
  refine ⟨?_, ?_⟩
  · unfold H_X12_without
    exact ⟨fun _ _ => rn.1, fun _ _ => clashesAll_H (((h'.u (a := 130) (b := 59) (v := 1) rfl).fr rn.2).u (a := 130) (b := 59) (v := 0) rfl).1 r1, fun _ _ => breaksAll_H (((h'.u (a := 130) (b := 59) (v := 1) rfl).fr rn.2).u (a := 130) (b := 59) (v := 0) rfl).1 r1⟩
  · unfold FI_X12_without
    repeat' split
    all_goals first
      | exact h'
      | exact ((h'.u (a := 130) (b := 59) (v := 1) rfl).fr rn.2).u rfl
theorem m_tried {tp : SI} {a0 a1 a2 : Int32} {I : SI} {J : SJ} (h : (MW tp) I) : H_X12_tried a0 a1 a2 I J ∧ (MW tp) (FI_X12_tried a0 a1 a2 I J) := by
  have h' := h.u0
  have rn := runs_H (n := a2) (J := J) ((h'.u (a := 130) (b := 55) (v := a0) rfl).u (a := 130) (b := 56) (v := a1) rfl).1
  refine ⟨?_, ?_⟩
  · unfold H_X12_tried
    exact ⟨fun _ _ _ => rn.1, fun _ _ _ => clashesAll_H (((((h'.u (a := 130) (b := 55) (v := a0) rfl).u (a := 130) (b := 56) (v := a1) rfl).fr rn.2).u (a := 130) (b := 55) (v := 0) rfl).u (a := 130) (b := 56) (v := -1) rfl).1 r1⟩
  · unfold FI_X12_tried
    repeat' split
    all_goals first
      | exact h'
      | exact (by unfold S1_X12_tried; exact ((((h'.u (a := 130) (b := 55) (v := a0) rfl).u (a := 130) (b := 56) (v := a1) rfl).fr rn.2).u rfl).u rfl)
