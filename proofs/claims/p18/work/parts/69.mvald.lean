theorem VS.of {I I1 : SI} (h : VS I) (e1 : I1 130 28 = I 130 28) (e2 : I1 130 29 = I 130 29) : VS I1 := by
  unfold VS
  rw [e1, e2]
  exact h
theorem VS.no {I : SI} (h3 : I 130 28 ≠ 3) (h0 : I 130 28 ≠ 0) : VS I := ⟨fun h => absurd h h3, fun h => absurd h h0⟩
