theorem PO.at0 {I I1 : SI} (h : PO I) (k : ∀ a b, a ≠ 130 → I1 a b = I a b) : PO I1 := by
  obtain ⟨a0, a1, a2, a3, a4, a5, a6, p, m, l⟩ := h
  have e : ∀ b, I1 132 b = I 132 b := fun b => k 132 b (by omega)
  exact ⟨by rw [e 10]; exact a0, by rw [e 11]; exact a1, by rw [e 12]; exact a2, by rw [e 13]; exact a3, by rw [e 14]; exact a4, by rw [e 15]; exact a5, by rw [e 16]; exact a6, fun b z w => by rw [k 141 b (by omega)]; exact p b z w, fun b z w => by rw [k 135 b (by omega)]; exact m b z w, PO.law l (fun b _ => k 148 _ (by omega)) (fun b _ => k 149 _ (by omega)) (by unfold nn; rw [e 19]; exact Nat.le_refl _) (fun j _ => ⟨k 150 _ (by omega), k 151 _ (by omega)⟩)⟩
