theorem MW.u {tp : SI} {I : SI} {a b : Nat} {v : Int32} (h : (MW tp) I) (q : dpM a b = false) : (MW tp) (u2 I a b v) := h.of (fun c d r => u2_n _ _ (fun z => by rw [z.1, z.2, q] at r; exact Bool.noConfusion r))
theorem dpM_f {a b : Nat} (h : dpM a b = true) : (a < 154 ∨ 167 < a) ∧ ¬ (a = 130 ∧ b = 38) := by
  unfold dpM at h
  by_cases c : a = 130
  · rw [if_pos c] at h
    refine ⟨by omega, fun z => ?_⟩
    rw [z.2] at h
    exact Bool.noConfusion h
  · rw [if_neg c] at h
    simp only [List.contains_cons, List.contains_nil, Bool.or_false, Bool.or_eq_true, Bool.and_eq_true, Nat.ble_eq, beq_iff_eq] at h
    omega
theorem MW.fr {tp : SI} {I I1 : SI} (h : (MW tp) I) (f : FrM I I1) : (MW tp) I1 := h.of (fun a b q => f a b (dpM_f q).1 (dpM_f q).2)
theorem row_u {I : SI} {c x n : Nat} {v : Int32} {P : Int32 → Prop} (h : ∀ b, b < n → P (I c b)) (hv : P v) : ∀ b, b < n → P (u2 I c x v c b) := by
  intro b q
  by_cases z : b = x
  · rw [z, u2_s]; exact hv
  · rw [u2_n _ _ (fun y => z y.2)]; exact h b q
theorem MW.n {tp : SI} {I : SI} {v : Int32} (h : (MW tp) I) (hv : inR v 21) : (MW tp) (u2 I 130 54 v) := by
  have e : ∀ a b, ¬ (a = 130 ∧ b = 54) → u2 I 130 54 v a b = I a b := fun a b z => u2_n _ _ z
  exact ⟨h.1.of (fun a b q => e a b (by omega)), fun a b q => (e a b (by omega)).trans (h.gt a b q), by rw [u2_s]; exact hv, by rw [e 130 68 (by omega)]; exact h.gs, by rw [e 130 69 (by omega)]; exact h.gk, fun b q => by rw [e 174 b (by omega)]; exact h.gr4 b q, fun b q => by rw [e 173 b (by omega)]; exact h.gr3 b q, fun b q => by rw [e 176 b (by omega)]; exact h.gr6 b q, fun b q => by rw [e 170 b (by omega)]; exact h.gf0 b q, fun b q => by rw [e 171 b (by omega)]; exact h.gf1 b q⟩
theorem MW.s {tp : SI} {I : SI} {v : Int32} (h : (MW tp) I) (hv : inR v 25) : MW (u2 I 130 68 v) (u2 I 130 68 v) := by
  have e : ∀ a b, ¬ (a = 130 ∧ b = 68) → u2 I 130 68 v a b = I a b := fun a b z => u2_n _ _ z
  exact ⟨h.1.of (fun a b q => e a b (by omega)), (fun _ _ _ => rfl), by rw [e 130 54 (by omega)]; exact h.gn, by rw [u2_s]; exact hv, by rw [e 130 69 (by omega)]; exact h.gk, fun b q => by rw [e 174 b (by omega)]; exact h.gr4 b q, fun b q => by rw [e 173 b (by omega)]; exact h.gr3 b q, fun b q => by rw [e 176 b (by omega)]; exact h.gr6 b q, fun b q => by rw [e 170 b (by omega)]; exact h.gf0 b q, fun b q => by rw [e 171 b (by omega)]; exact h.gf1 b q⟩
theorem MW.k {tp : SI} {I : SI} {v : Int32} (h : (MW tp) I) (hv : v = -1 ∨ inR v 25) : MW (u2 I 130 69 v) (u2 I 130 69 v) := by
  have e : ∀ a b, ¬ (a = 130 ∧ b = 69) → u2 I 130 69 v a b = I a b := fun a b z => u2_n _ _ z
  exact ⟨h.1.of (fun a b q => e a b (by omega)), (fun _ _ _ => rfl), by rw [e 130 54 (by omega)]; exact h.gn, by rw [e 130 68 (by omega)]; exact h.gs, by rw [u2_s]; exact hv, fun b q => by rw [e 174 b (by omega)]; exact h.gr4 b q, fun b q => by rw [e 173 b (by omega)]; exact h.gr3 b q, fun b q => by rw [e 176 b (by omega)]; exact h.gr6 b q, fun b q => by rw [e 170 b (by omega)]; exact h.gf0 b q, fun b q => by rw [e 171 b (by omega)]; exact h.gf1 b q⟩
theorem MW.r5 {tp : SI} {I : SI} {x : Nat} {v : Int32} (h : (MW tp) I) : MW (u2 I 175 x v) (u2 I 175 x v) := by
  have e : ∀ a b, a ≠ 175 → u2 I 175 x v a b = I a b := fun a b z => u2_n _ _ (fun y => z y.1)
  exact ⟨h.1.of (fun a b q => e a b (by omega)), (fun _ _ _ => rfl), by rw [e 130 54 (by omega)]; exact h.gn, by rw [e 130 68 (by omega)]; exact h.gs, by rw [e 130 69 (by omega)]; exact h.gk, fun b q => by rw [e 174 b (by omega)]; exact h.gr4 b q, fun b q => by rw [e 173 b (by omega)]; exact h.gr3 b q, fun b q => by rw [e 176 b (by omega)]; exact h.gr6 b q, fun b q => by rw [e 170 b (by omega)]; exact h.gf0 b q, fun b q => by rw [e 171 b (by omega)]; exact h.gf1 b q⟩
theorem MW.r4 {tp : SI} {I : SI} {x : Nat} {v : Int32} (h : (MW tp) I) (hv : inR v 6) : MW (u2 I 174 x v) (u2 I 174 x v) := by
  have e : ∀ a b, a ≠ 174 → u2 I 174 x v a b = I a b := fun a b z => u2_n _ _ (fun y => z y.1)
  exact ⟨h.1.of (fun a b q => e a b (by omega)), (fun _ _ _ => rfl), by rw [e 130 54 (by omega)]; exact h.gn, by rw [e 130 68 (by omega)]; exact h.gs, by rw [e 130 69 (by omega)]; exact h.gk, row_u (P := fun z => inR z 6) h.gr4 hv, fun b q => by rw [e 173 b (by omega)]; exact h.gr3 b q, fun b q => by rw [e 176 b (by omega)]; exact h.gr6 b q, fun b q => by rw [e 170 b (by omega)]; exact h.gf0 b q, fun b q => by rw [e 171 b (by omega)]; exact h.gf1 b q⟩
