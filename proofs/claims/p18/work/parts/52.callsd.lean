theorem MW.r3 {tp : SI} {I : SI} {x : Nat} {v : Int32} (h : (MW tp) I) (hv : inR v 41) : MW (u2 I 173 x v) (u2 I 173 x v) := by
  have e : ∀ a b, a ≠ 173 → u2 I 173 x v a b = I a b := fun a b z => u2_n _ _ (fun y => z y.1)
  exact ⟨h.1.of (fun a b q => e a b (by omega)), (fun _ _ _ => rfl), by rw [e 130 54 (by omega)]; exact h.gn, by rw [e 130 68 (by omega)]; exact h.gs, by rw [e 130 69 (by omega)]; exact h.gk, fun b q => by rw [e 174 b (by omega)]; exact h.gr4 b q, row_u (P := fun z => inR z 41) h.gr3 hv, fun b q => by rw [e 176 b (by omega)]; exact h.gr6 b q, fun b q => by rw [e 170 b (by omega)]; exact h.gf0 b q, fun b q => by rw [e 171 b (by omega)]; exact h.gf1 b q⟩
theorem MW.r6 {tp : SI} {I : SI} {x : Nat} {v : Int32} (h : (MW tp) I) (hv : v = -1 ∨ inR v 24) : MW (u2 I 176 x v) (u2 I 176 x v) := by
  have e : ∀ a b, a ≠ 176 → u2 I 176 x v a b = I a b := fun a b z => u2_n _ _ (fun y => z y.1)
  exact ⟨h.1.of (fun a b q => e a b (by omega)), (fun _ _ _ => rfl), by rw [e 130 54 (by omega)]; exact h.gn, by rw [e 130 68 (by omega)]; exact h.gs, by rw [e 130 69 (by omega)]; exact h.gk, fun b q => by rw [e 174 b (by omega)]; exact h.gr4 b q, fun b q => by rw [e 173 b (by omega)]; exact h.gr3 b q, row_u (P := fun z => z = -1 ∨ inR z 24) h.gr6 hv, fun b q => by rw [e 170 b (by omega)]; exact h.gf0 b q, fun b q => by rw [e 171 b (by omega)]; exact h.gf1 b q⟩
theorem MW.f0 {tp : SI} {I : SI} {x : Nat} {v : Int32} (h : (MW tp) I) (hv : inR v 8) : (MW tp) (u2 I 170 x v) := by
  have e : ∀ a b, a ≠ 170 → u2 I 170 x v a b = I a b := fun a b z => u2_n _ _ (fun y => z y.1)
  exact ⟨h.1.of (fun a b q => e a b (by omega)), fun a b q => (e a b (by omega)).trans (h.gt a b q), by rw [e 130 54 (by omega)]; exact h.gn, by rw [e 130 68 (by omega)]; exact h.gs, by rw [e 130 69 (by omega)]; exact h.gk, fun b q => by rw [e 174 b (by omega)]; exact h.gr4 b q, fun b q => by rw [e 173 b (by omega)]; exact h.gr3 b q, fun b q => by rw [e 176 b (by omega)]; exact h.gr6 b q, row_u (P := fun z => inR z 8) h.gf0 hv, fun b q => by rw [e 171 b (by omega)]; exact h.gf1 b q⟩
theorem MW.f1 {tp : SI} {I : SI} {x : Nat} {v : Int32} (h : (MW tp) I) (hv : inR v 8) : (MW tp) (u2 I 171 x v) := by
  have e : ∀ a b, a ≠ 171 → u2 I 171 x v a b = I a b := fun a b z => u2_n _ _ (fun y => z y.1)
  exact ⟨h.1.of (fun a b q => e a b (by omega)), fun a b q => (e a b (by omega)).trans (h.gt a b q), by rw [e 130 54 (by omega)]; exact h.gn, by rw [e 130 68 (by omega)]; exact h.gs, by rw [e 130 69 (by omega)]; exact h.gk, fun b q => by rw [e 174 b (by omega)]; exact h.gr4 b q, fun b q => by rw [e 173 b (by omega)]; exact h.gr3 b q, fun b q => by rw [e 176 b (by omega)]; exact h.gr6 b q, fun b q => by rw [e 170 b (by omega)]; exact h.gf0 b q, row_u (P := fun z => inR z 8) h.gf1 hv⟩
theorem MW.u0 {tp : SI} {I : SI} (h : (MW tp) I) : (MW tp) (u2 I 130 0 0) := h.u rfl
theorem in_lt {a z : Int32} {N : Nat} (hN : N < 800) (h : ¬ a < 0) (hz : inR z (N + 1)) (h2 : ¬ z ≤ a) : inR a N := by
  obtain ⟨j, hj, e2⟩ := hz.n
  refine (in_of h (len := N) (fun q => h2 (Int32.le_trans ?_ q)) (by omega))
  rw [e2]
  exact nI_le (by omega) (by omega)
theorem in_le {a : Int32} {N : Nat} (hN : N < 2000) (h : ¬ a < 0) (h2 : a ≤ nI N) : inR a (N + 1) := in_of h (len := N + 1) (fun q => absurd (Int32.le_trans q h2) (nI_ge (by omega) (by omega))) (by omega)
theorem isMark_in {a : Int32} {I : SI} {J : SJ} (hS : SM I) (h : ¬ F_X12_isMark a I J = 0) : inR a 6 := by
  unfold F_X12_isMark at h
  by_cases c : a < 0
  · rw [if_pos c] at h; exact absurd rfl h
  · rw [if_neg c] at h
    by_cases c2 : I 132 0 ≤ a
    · rw [if_pos c2] at h; exact absurd rfl h
    · exact in_lt (N := 6) (by decide) c hS.1 c2
theorem isShot_in {a : Int32} {I : SI} {J : SJ} (hS : SM I) (h : ¬ F_X12_isShot a I J = 0) : inR a 8 := by
  unfold F_X12_isShot at h
  by_cases c : a < 0
  · rw [if_pos c] at h; exact absurd rfl h
  · rw [if_neg c] at h
    by_cases c2 : I 132 1 ≤ a
    · rw [if_pos c2] at h; exact absurd rfl h
    · exact in_lt (N := 8) (by decide) c hS.2.1 c2
theorem isParty_in {a : Int32} {I : SI} {J : SJ} (hS : SM I) (h : ¬ F_X12_isParty a I J = 0) : inR a 4 := by
  unfold F_X12_isParty at h
  by_cases c : a < 0
  · rw [if_pos c] at h; exact absurd rfl h
  · rw [if_neg c] at h
    by_cases c2 : I 132 3 ≤ a
    · rw [if_pos c2] at h; exact absurd rfl h
    · exact in_lt (N := 4) (by decide) c hS.2.2.1 c2
