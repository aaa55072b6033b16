theorem SM.kl {I I1 : SI} (h : SM I) (k : ∀ a b, dpT a b → I1 a b = I a b) (p : PO I1) : SM I1 := by
  obtain ⟨h0, h1, h3, h4, h5, h6, hp, hw, hl⟩ := h
  have e : ∀ b, b < 10 → I1 132 b = I 132 b := fun b z => k 132 b (by unfold dpT dpL; omega)
  refine ⟨by rw [e 0 (by omega)]; exact h0, by rw [e 1 (by omega)]; exact h1, by rw [e 3 (by omega)]; exact h3, by rw [e 4 (by omega)]; exact h4, by rw [e 5 (by omega)]; exact h5, by rw [e 6 (by omega)]; exact h6, fun q z => ?_, fun q z => ?_, fun q z => ?_⟩
  · by_cases c : q < 4
    · rw [k 141 q (by unfold dpT dpL; omega)]; exact hp q z
    · exact p.2.2.2.2.2.2.2.1 q (by omega) z
  · by_cases c : q < 6
    · rw [k 135 q (by unfold dpT dpL; omega)]; exact hw q z
    · exact p.2.2.2.2.2.2.2.2.1 q (by omega) z
  · obtain ⟨f, n, a, b, g, ok⟩ := hl q z
    exact ⟨f, n, (k 148 q (by unfold dpT dpL; omega)).trans a, (k 149 q (by unfold dpT dpL; omega)).trans b, g, okc_cg _ _ _ (fun j _ y => ⟨k 150 j (by unfold dpT dpL; omega), k 151 j (by unfold dpT dpL; omega)⟩) ok⟩
