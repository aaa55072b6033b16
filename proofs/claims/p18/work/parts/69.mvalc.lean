theorem wst_last : ¬ nI 118 ≤ nI (WST.getD 23 0) → False := by decide +kernel
theorem word_V {I : SI} {J : SJ} : F_X12_word I J = -1 ∨ inR (F_X12_word I J) 23 := by
  have L := whl (f := B_X12_word_w4 I J) (s0 := ((0 : Int32), (0 : Int32))) (fun s => ∃ n, n ≤ 23 ∧ s.1 = nI n ∧ s.2 = nI (WST.getD n 0)) (fun r => match r with | .inl _ => True | .inr v => inR v 23) (fun s => 23 - s.1.toNatClampNeg) ⟨0, by omega, rfl, rfl⟩ (by show 23 - _ < 800; omega) (fun s s' hs hf => by
    obtain ⟨n, hn, e1, e2⟩ := hs
    obtain ⟨c, h2⟩ := inl_of hf
    have n23 : n < 23 := by
      by_cases q : n = 23
      · rw [e2, q] at c; exact (wst_last c).elim
      · omega
    have w := wst_ok n n23
    have e : s' = (s.1 + 1, nI (WST.getD (n + 1) 0)) := by
      repeat' split at h2
      · cases h2
      · rw [← Sum.inl.inj h2]
        unfold F_X12_word_w97_2
        rw [show B_X12_word_w97_2 I J s = wf97 from rfl, e2, w.1]
        exact Prod.ext rfl w.2.1
      · rw [← Sum.inl.inj h2]
        unfold F_X12_word_w97
        rw [show B_X12_word_w97 I J s = wf97 from rfl, e2, w.1]
        exact Prod.ext rfl w.2.1
    rw [e, e1, nI_1]
    refine ⟨⟨n + 1, by omega, rfl, rfl⟩, ?_⟩
    show 23 - (nI (n + 1)).toNatClampNeg < 23 - (nI n).toNatClampNeg
    rw [nI_clamp (by omega), nI_clamp (by omega)]
    omega) (fun s r hs hf => by
    obtain ⟨n, hn, e1, e2⟩ := hs
    unfold B_X12_word_w4 at hf
    by_cases c : nI (STL.getD 3 0) ≤ s.2
    · rw [if_pos c] at hf; cases hf; trivial
    · rw [if_neg c] at hf
      have n23 : n < 23 := by
        by_cases q : n = 23
        · rw [e2, q] at c; exact (wst_last c).elim
        · omega
      repeat' split at hf
      all_goals cases hf
      show inR s.1 23
      rw [e1]
      exact inR_nI n23 (by decide))
  have q := L.2.2 (.inl (0, 0))
  unfold F_X12_word F_X12_word_w4
  cases h : (itW (B_X12_word_w4 I J) 800 (0, 0)).getD (.inl (0, 0)) with
  | inl s => exact Or.inl rfl
  | inr v => rw [h] at q; exact Or.inr q
/-- a sign's value isn't NOT's; a word's is one of the words -/
def VS (I : SI) : Prop := (I 130 28 = 3 → I 130 29 ≠ 260) ∧ (I 130 28 = 0 → inR (I 130 29) 23)
