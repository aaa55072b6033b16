theorem MW.gk {tp : SI} {I : SI} (h : (MW tp) I) : (I 130 69) = -1 ∨ inR (I 130 69) 25 := h.2.2.2.2.1
theorem MW.gr4 {tp : SI} {I : SI} (h : (MW tp) I) : ∀ b, b < 24 → inR (I 174 b) 6 := h.2.2.2.2.2.1
theorem MW.gr3 {tp : SI} {I : SI} (h : (MW tp) I) : ∀ b, b < 24 → inR (I 173 b) 41 := h.2.2.2.2.2.2.1
theorem MW.gr6 {tp : SI} {I : SI} (h : (MW tp) I) : ∀ b, b < 24 → (I 176 b) = -1 ∨ inR (I 176 b) 24 := h.2.2.2.2.2.2.2.1
theorem MW.gf0 {tp : SI} {I : SI} (h : (MW tp) I) : ∀ b, b < 4 → inR (I 170 b) 8 := h.2.2.2.2.2.2.2.2.1
theorem MW.gf1 {tp : SI} {I : SI} (h : (MW tp) I) : ∀ b, b < 4 → inR (I 171 b) 8 := h.2.2.2.2.2.2.2.2.2
theorem MW.of {tp : SI} {I I1 : SI} (h : (MW tp) I) (e : ∀ a b, dpM a b = true → I1 a b = I a b) : (MW tp) I1 := by
  refine ⟨h.1.of (fun a b q => e a b ?_), fun a b q => (e a b (dpM_g q)).trans (h.gt a b q), by rw [e 130 54 rfl]; exact h.gn, by rw [e 130 68 rfl]; exact h.gs, by rw [e 130 69 rfl]; exact h.gk, fun b q => by rw [e 174 b rfl]; exact h.gr4 b q, fun b q => by rw [e 173 b rfl]; exact h.gr3 b q, fun b q => by rw [e 176 b rfl]; exact h.gr6 b q, fun b q => by rw [e 170 b rfl]; exact h.gf0 b q, fun b q => by rw [e 171 b rfl]; exact h.gf1 b q⟩
  have q2 : a = 132 ∨ a = 135 ∨ a = 141 ∨ a = 148 ∨ a = 149 ∨ a = 150 ∨ a = 151 := by omega
  rcases q2 with rfl | rfl | rfl | rfl | rfl | rfl | rfl <;> rfl
theorem MW.tof {tp : SI} {I I1 : SI} (h : (MW tp) I) (e : ∀ a b, dpM a b = true → ¬ (a = 130 ∧ b = 2) → a ≠ 131 → I1 a b = I a b) : MW I1 I1 := by
  refine ⟨h.1.of (fun a b q => e a b ?_ (by omega) (by omega)), (fun _ _ _ => rfl), by rw [e 130 54 rfl (by omega) (by omega)]; exact h.gn, by rw [e 130 68 rfl (by omega) (by omega)]; exact h.gs, by rw [e 130 69 rfl (by omega) (by omega)]; exact h.gk, fun b q => by rw [e 174 b rfl (by omega) (by omega)]; exact h.gr4 b q, fun b q => by rw [e 173 b rfl (by omega) (by omega)]; exact h.gr3 b q, fun b q => by rw [e 176 b rfl (by omega) (by omega)]; exact h.gr6 b q, fun b q => by rw [e 170 b rfl (by omega) (by omega)]; exact h.gf0 b q, fun b q => by rw [e 171 b rfl (by omega) (by omega)]; exact h.gf1 b q⟩
  have q2 : a = 132 ∨ a = 135 ∨ a = 141 ∨ a = 148 ∨ a = 149 ∨ a = 150 ∨ a = 151 := by omega
  rcases q2 with rfl | rfl | rfl | rfl | rfl | rfl | rfl <;> rfl
theorem MW.self {tp I : SI} (h : (MW tp) I) : (MW I) I := ⟨h.1, fun _ _ _ => rfl, h.2.2⟩
