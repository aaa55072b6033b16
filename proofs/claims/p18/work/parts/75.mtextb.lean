theorem half_v {r N : Nat} {I : SI} {J : SJ} (hN : 2 * N < 800) (hd : nI (2 * N) / 2 = nI N) : H_X12_half r (2 * N) I J ∧ (∀ b, b < N → FI_X12_half r (2 * N) I J r b = I r (N + b)) ∧ ∀ a b, ¬ (a = r ∧ b < N) → FI_X12_half r (2 * N) I J a b = I a b := by
  have L := itN_ind (f := B_X12_half_l7 r (2 * N) I J) (N := N) (s0 := I) (fun i s => (∀ b, b < i → s r b = I r (N + b)) ∧ ∀ a b, ¬ (a = r ∧ b < i) → s a b = I a b) ⟨fun b z => absurd z (Nat.not_lt_zero _), fun _ _ _ => rfl⟩ (fun i s hi hs => by
    unfold B_X12_half_l7 S1_X12_half
    rw [hd, nI_add, nI_clamp (by omega), nI_clamp (by omega)]
    refine ⟨fun b z => ?_, fun a b z => ?_⟩
    · by_cases q : b = i
      · rw [q, u2_s]; exact hs.2 r (N + i) (by omega)
      · rw [u2_n _ _ (fun y => q y.2)]; exact hs.1 b (by omega)
    · exact (u2_n _ _ (by omega)).trans (hs.2 a b (by omega)))
  refine ⟨?_, ?_⟩
  · unfold H_X12_half
    rw [hd]
    refine ⟨fun i s hi _ => ?_, fun i s hi _ => ?_⟩
    · rw [nI_clamp (by omega)] at hi
      rw [nI_add]
      exact inR_nI (by omega) (by omega)
    · rw [nI_clamp (by omega)] at hi
      exact inR_nI (by omega) (by omega)
  · unfold FI_X12_half F_X12_half_l7
    rw [hd, nI_clamp (by omega)]
    exact L N (Nat.le_refl _)
