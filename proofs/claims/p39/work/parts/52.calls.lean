/-! the model: calls go well, and leave what the next ones need -/
/-- what the calls' own needs look at -/
def dpM (a b : Nat) : Bool := if a = 130 then (b == 2 || b == 32 || b == 33 || b == 54 || b == 68 || b == 69) else ((Nat.ble 131 a && Nat.ble a 151) || [170, 171, 173, 174, 175, 176].contains a)
/-- what is told, fed, sighted -/
def KB (T I : SI) : Prop := ∀ a b, (a = 130 ∧ (b = 2 ∨ b = 32 ∨ b = 33 ∨ b = 68 ∨ b = 69)) ∨ (131 ≤ a ∧ a ≤ 151) ∨ (173 ≤ a ∧ a ≤ 176) → I a b = T a b
theorem dpM_g {a b : Nat} (h : (a = 130 ∧ (b = 2 ∨ b = 32 ∨ b = 33 ∨ b = 68 ∨ b = 69)) ∨ (131 ≤ a ∧ a ≤ 151) ∨ (173 ≤ a ∧ a ≤ 176)) : dpM a b = true := by
  rcases h with ⟨rfl, rfl | rfl | rfl | rfl | rfl⟩ | h | h
  · rfl
  · rfl
  · rfl
  · rfl
  · rfl
  · unfold dpM
    rw [if_neg (by omega)]
    simp only [Bool.or_eq_true, Bool.and_eq_true, Nat.ble_eq]
    exact Or.inl h
  · rcases (by omega : a = 173 ∨ a = 174 ∨ a = 175 ∨ a = 176) with rfl | rfl | rfl | rfl
    · rfl
    · rfl
    · rfl
    · rfl
def MW (tp : SI) (I : SI) : Prop := SM I ∧ (KB tp I) ∧ (inR (I 130 54) 21) ∧ (inR (I 130 68) 25) ∧ ((I 130 69) = -1 ∨ inR (I 130 69) 25) ∧ (∀ b, b < 24 → inR (I 174 b) 6) ∧ (∀ b, b < 24 → inR (I 173 b) 41) ∧ (∀ b, b < 24 → (I 176 b) = -1 ∨ inR (I 176 b) 24) ∧ (∀ b, b < 4 → inR (I 170 b) 8) ∧ (∀ b, b < 4 → inR (I 171 b) 8)
theorem MW.sm {tp : SI} {I : SI} (h : (MW tp) I) : SM I := h.1
theorem MW.gt {tp : SI} {I : SI} (h : (MW tp) I) : KB tp I := h.2.1
theorem MW.gn {tp : SI} {I : SI} (h : (MW tp) I) : inR (I 130 54) 21 := h.2.2.1
theorem MW.gs {tp : SI} {I : SI} (h : (MW tp) I) : inR (I 130 68) 25 := h.2.2.2.1
theorem MW.gk {tp : SI} {I : SI} (h : (MW tp) I) : (I 130 69) = -1 ∨ inR (I 130 69) 25 := h.2.2.2.2.1
theorem MW.gr4 {tp : SI} {I : SI} (h : (MW tp) I) : ∀ b, b < 24 → inR (I 174 b) 6 := h.2.2.2.2.2.1
theorem MW.gr3 {tp : SI} {I : SI} (h : (MW tp) I) : ∀ b, b < 24 → inR (I 173 b) 41 := h.2.2.2.2.2.2.1
theorem MW.gr6 {tp : SI} {I : SI} (h : (MW tp) I) : ∀ b, b < 24 → (I 176 b) = -1 ∨ inR (I 176 b) 24 := h.2.2.2.2.2.2.2.1
theorem MW.gf0 {tp : SI} {I : SI} (h : (MW tp) I) : ∀ b, b < 4 → inR (I 170 b) 8 := h.2.2.2.2.2.2.2.2.1
theorem MW.gf1 {tp : SI} {I : SI} (h : (MW tp) I) : ∀ b, b < 4 → inR (I 171 b) 8 := h.2.2.2.2.2.2.2.2.2
theorem MW.of {tp : SI} {I I1 : SI} (h : (MW tp) I) (e : ∀ a b, dpM a b = true → I1 a b = I a b) : (MW tp) I1 := by
  refine ⟨h.1.of (fun a b q => e a b ?_), fun a b q => (e a b (dpM_g q)).trans (h.gt a b q), by rw [e 130 54 rfl]; exact h.gn, by rw [e 130 68 rfl]; exact h.gs, by rw [e 130 69 rfl]; exact h.gk, fun b q => by rw [e 174 b rfl]; exact h.gr4 b q, fun b q => by rw [e 173 b rfl]; exact h.gr3 b q, fun b q => by rw [e 176 b rfl]; exact h.gr6 b q, fun b q => by rw [e 170 b rfl]; exact h.gf0 b q, fun b q => by rw [e 171 b rfl]; exact h.gf1 b q⟩
  have q2 : a = 132 ∨ a = 135 ∨ a = 141 ∨ a = 148 ∨ a = 149 ∨ a = 150 ∨ a = 151 := by omega
  rcases q2 with rfl | rfl | rfl | rfl | rfl | rfl | rfl <;> rfl
theorem MW.tof {tp : SI} {I I1 : SI} (h : (MW tp) I) (e : ∀ a b, dpM a b = true → ¬ (a = 130 ∧ b = 2) → a ≠ 131 → I1 a b = I a b) : MW I1 I1 := by
  refine ⟨h.1.of (fun a b q => e a b ?_ (by omega) (by omega)), (fun _ _ _ => rfl), by rw [e 130 54 rfl (by omega) (by omega)]; exact h.gn, by rw [e 130 68 rfl (by omega) (by omega)]; exact h.gs, by rw [e 130 69 rfl (by omega) (by omega)]; exact h.gk, fun b q => by rw [e 174 b rfl (by omega) (by omega)]; exact h.gr4 b q, fun b q => by rw [e 173 b rfl (by omega) (by omega)]; exact h.gr3 b q, fun b q => by rw [e 176 b rfl (by omega) (by omega)]; exact h.gr6 b q, fun b q => by rw [e 170 b rfl (by omega) (by omega)]; exact h.gf0 b q, fun b q => by rw [e 171 b rfl (by omega) (by omega)]; exact h.gf1 b q⟩
  have q2 : a = 132 ∨ a = 135 ∨ a = 141 ∨ a = 148 ∨ a = 149 ∨ a = 150 ∨ a = 151 := by omega
  rcases q2 with rfl | rfl | rfl | rfl | rfl | rfl | rfl <;> rfl
theorem MW.self {tp I : SI} (h : (MW tp) I) : (MW I) I := ⟨h.1, fun _ _ _ => rfl, h.2.2⟩
theorem MW.u {tp : SI} {I : SI} {a b : Nat} {v : Int32} (h : (MW tp) I) (q : dpM a b = false) : (MW tp) (u2 I a b v) := h.of (fun c d r => u2_n _ _ (fun z => by rw [z.1, z.2, q] at r; exact Bool.noConfusion r))
theorem dpM_f {a b : Nat} (h : dpM a b = true) : (a < 154 ∨ 167 < a) ∧ ¬ (a = 130 ∧ b = 38) := by
  unfold dpM at h
  by_cases c : a = 130
  · rw [if_pos c] at h
    refine ⟨by omega, fun z => ?_⟩
    rw [z.2] at h
    exact Bool.noConfusion h
  · rw [if_neg c] at h
    simp only [List.contains_cons, List.contains_nil, Bool.or_false, Bool.or_eq_true, Bool.and_eq_true, Nat.ble_eq, beq_iff_eq] at h
    omega
theorem MW.fr {tp : SI} {I I1 : SI} (h : (MW tp) I) (f : FrM I I1) : (MW tp) I1 := h.of (fun a b q => f a b (dpM_f q).1 (dpM_f q).2)
theorem row_u {I : SI} {c x n : Nat} {v : Int32} {P : Int32 → Prop} (h : ∀ b, b < n → P (I c b)) (hv : P v) : ∀ b, b < n → P (u2 I c x v c b) := by
  intro b q
  by_cases z : b = x
  · rw [z, u2_s]; exact hv
  · rw [u2_n _ _ (fun y => z y.2)]; exact h b q
theorem MW.n {tp : SI} {I : SI} {v : Int32} (h : (MW tp) I) (hv : inR v 21) : (MW tp) (u2 I 130 54 v) := by
  have e : ∀ a b, ¬ (a = 130 ∧ b = 54) → u2 I 130 54 v a b = I a b := fun a b z => u2_n _ _ z
  exact ⟨h.1.of (fun a b q => e a b (by omega)), fun a b q => (e a b (by omega)).trans (h.gt a b q), by rw [u2_s]; exact hv, by rw [e 130 68 (by omega)]; exact h.gs, by rw [e 130 69 (by omega)]; exact h.gk, fun b q => by rw [e 174 b (by omega)]; exact h.gr4 b q, fun b q => by rw [e 173 b (by omega)]; exact h.gr3 b q, fun b q => by rw [e 176 b (by omega)]; exact h.gr6 b q, fun b q => by rw [e 170 b (by omega)]; exact h.gf0 b q, fun b q => by rw [e 171 b (by omega)]; exact h.gf1 b q⟩
theorem MW.s {tp : SI} {I : SI} {v : Int32} (h : (MW tp) I) (hv : inR v 25) : MW (u2 I 130 68 v) (u2 I 130 68 v) := by
  have e : ∀ a b, ¬ (a = 130 ∧ b = 68) → u2 I 130 68 v a b = I a b := fun a b z => u2_n _ _ z
  exact ⟨h.1.of (fun a b q => e a b (by omega)), (fun _ _ _ => rfl), by rw [e 130 54 (by omega)]; exact h.gn, by rw [u2_s]; exact hv, by rw [e 130 69 (by omega)]; exact h.gk, fun b q => by rw [e 174 b (by omega)]; exact h.gr4 b q, fun b q => by rw [e 173 b (by omega)]; exact h.gr3 b q, fun b q => by rw [e 176 b (by omega)]; exact h.gr6 b q, fun b q => by rw [e 170 b (by omega)]; exact h.gf0 b q, fun b q => by rw [e 171 b (by omega)]; exact h.gf1 b q⟩
theorem MW.k {tp : SI} {I : SI} {v : Int32} (h : (MW tp) I) (hv : v = -1 ∨ inR v 25) : MW (u2 I 130 69 v) (u2 I 130 69 v) := by
  have e : ∀ a b, ¬ (a = 130 ∧ b = 69) → u2 I 130 69 v a b = I a b := fun a b z => u2_n _ _ z
  exact ⟨h.1.of (fun a b q => e a b (by omega)), (fun _ _ _ => rfl), by rw [e 130 54 (by omega)]; exact h.gn, by rw [e 130 68 (by omega)]; exact h.gs, by rw [u2_s]; exact hv, fun b q => by rw [e 174 b (by omega)]; exact h.gr4 b q, fun b q => by rw [e 173 b (by omega)]; exact h.gr3 b q, fun b q => by rw [e 176 b (by omega)]; exact h.gr6 b q, fun b q => by rw [e 170 b (by omega)]; exact h.gf0 b q, fun b q => by rw [e 171 b (by omega)]; exact h.gf1 b q⟩
theorem MW.r5 {tp : SI} {I : SI} {x : Nat} {v : Int32} (h : (MW tp) I) : MW (u2 I 175 x v) (u2 I 175 x v) := by
  have e : ∀ a b, a ≠ 175 → u2 I 175 x v a b = I a b := fun a b z => u2_n _ _ (fun y => z y.1)
  exact ⟨h.1.of (fun a b q => e a b (by omega)), (fun _ _ _ => rfl), by rw [e 130 54 (by omega)]; exact h.gn, by rw [e 130 68 (by omega)]; exact h.gs, by rw [e 130 69 (by omega)]; exact h.gk, fun b q => by rw [e 174 b (by omega)]; exact h.gr4 b q, fun b q => by rw [e 173 b (by omega)]; exact h.gr3 b q, fun b q => by rw [e 176 b (by omega)]; exact h.gr6 b q, fun b q => by rw [e 170 b (by omega)]; exact h.gf0 b q, fun b q => by rw [e 171 b (by omega)]; exact h.gf1 b q⟩
theorem MW.r4 {tp : SI} {I : SI} {x : Nat} {v : Int32} (h : (MW tp) I) (hv : inR v 6) : MW (u2 I 174 x v) (u2 I 174 x v) := by
  have e : ∀ a b, a ≠ 174 → u2 I 174 x v a b = I a b := fun a b z => u2_n _ _ (fun y => z y.1)
  exact ⟨h.1.of (fun a b q => e a b (by omega)), (fun _ _ _ => rfl), by rw [e 130 54 (by omega)]; exact h.gn, by rw [e 130 68 (by omega)]; exact h.gs, by rw [e 130 69 (by omega)]; exact h.gk, row_u (P := fun z => inR z 6) h.gr4 hv, fun b q => by rw [e 173 b (by omega)]; exact h.gr3 b q, fun b q => by rw [e 176 b (by omega)]; exact h.gr6 b q, fun b q => by rw [e 170 b (by omega)]; exact h.gf0 b q, fun b q => by rw [e 171 b (by omega)]; exact h.gf1 b q⟩
theorem MW.r3 {tp : SI} {I : SI} {x : Nat} {v : Int32} (h : (MW tp) I) (hv : inR v 41) : MW (u2 I 173 x v) (u2 I 173 x v) := by
  have e : ∀ a b, a ≠ 173 → u2 I 173 x v a b = I a b := fun a b z => u2_n _ _ (fun y => z y.1)
  exact ⟨h.1.of (fun a b q => e a b (by omega)), (fun _ _ _ => rfl), by rw [e 130 54 (by omega)]; exact h.gn, by rw [e 130 68 (by omega)]; exact h.gs, by rw [e 130 69 (by omega)]; exact h.gk, fun b q => by rw [e 174 b (by omega)]; exact h.gr4 b q, row_u (P := fun z => inR z 41) h.gr3 hv, fun b q => by rw [e 176 b (by omega)]; exact h.gr6 b q, fun b q => by rw [e 170 b (by omega)]; exact h.gf0 b q, fun b q => by rw [e 171 b (by omega)]; exact h.gf1 b q⟩
theorem MW.r6 {tp : SI} {I : SI} {x : Nat} {v : Int32} (h : (MW tp) I) (hv : v = -1 ∨ inR v 24) : MW (u2 I 176 x v) (u2 I 176 x v) := by
  have e : ∀ a b, a ≠ 176 → u2 I 176 x v a b = I a b := fun a b z => u2_n _ _ (fun y => z y.1)
  exact ⟨h.1.of (fun a b q => e a b (by omega)), (fun _ _ _ => rfl), by rw [e 130 54 (by omega)]; exact h.gn, by rw [e 130 68 (by omega)]; exact h.gs, by rw [e 130 69 (by omega)]; exact h.gk, fun b q => by rw [e 174 b (by omega)]; exact h.gr4 b q, fun b q => by rw [e 173 b (by omega)]; exact h.gr3 b q, row_u (P := fun z => z = -1 ∨ inR z 24) h.gr6 hv, fun b q => by rw [e 170 b (by omega)]; exact h.gf0 b q, fun b q => by rw [e 171 b (by omega)]; exact h.gf1 b q⟩
theorem MW.f0 {tp : SI} {I : SI} {x : Nat} {v : Int32} (h : (MW tp) I) (hv : inR v 8) : (MW tp) (u2 I 170 x v) := by
  have e : ∀ a b, a ≠ 170 → u2 I 170 x v a b = I a b := fun a b z => u2_n _ _ (fun y => z y.1)
  exact ⟨h.1.of (fun a b q => e a b (by omega)), fun a b q => (e a b (by omega)).trans (h.gt a b q), by rw [e 130 54 (by omega)]; exact h.gn, by rw [e 130 68 (by omega)]; exact h.gs, by rw [e 130 69 (by omega)]; exact h.gk, fun b q => by rw [e 174 b (by omega)]; exact h.gr4 b q, fun b q => by rw [e 173 b (by omega)]; exact h.gr3 b q, fun b q => by rw [e 176 b (by omega)]; exact h.gr6 b q, row_u (P := fun z => inR z 8) h.gf0 hv, fun b q => by rw [e 171 b (by omega)]; exact h.gf1 b q⟩
theorem MW.f1 {tp : SI} {I : SI} {x : Nat} {v : Int32} (h : (MW tp) I) (hv : inR v 8) : (MW tp) (u2 I 171 x v) := by
  have e : ∀ a b, a ≠ 171 → u2 I 171 x v a b = I a b := fun a b z => u2_n _ _ (fun y => z y.1)
  exact ⟨h.1.of (fun a b q => e a b (by omega)), fun a b q => (e a b (by omega)).trans (h.gt a b q), by rw [e 130 54 (by omega)]; exact h.gn, by rw [e 130 68 (by omega)]; exact h.gs, by rw [e 130 69 (by omega)]; exact h.gk, fun b q => by rw [e 174 b (by omega)]; exact h.gr4 b q, fun b q => by rw [e 173 b (by omega)]; exact h.gr3 b q, fun b q => by rw [e 176 b (by omega)]; exact h.gr6 b q, fun b q => by rw [e 170 b (by omega)]; exact h.gf0 b q, row_u (P := fun z => inR z 8) h.gf1 hv⟩
theorem MW.u0 {tp : SI} {I : SI} (h : (MW tp) I) : (MW tp) (u2 I 130 0 0) := h.u rfl
theorem in_lt {a z : Int32} {N : Nat} (hN : N < 800) (h : ¬ a < 0) (hz : inR z (N + 1)) (h2 : ¬ z ≤ a) : inR a N := by
  obtain ⟨j, hj, e2⟩ := hz.n
  refine (in_of h (len := N) (fun q => h2 (Int32.le_trans ?_ q)) (by omega))
  rw [e2]
  exact nI_le (by omega) (by omega)
theorem in_le {a : Int32} {N : Nat} (hN : N < 2000) (h : ¬ a < 0) (h2 : a ≤ nI N) : inR a (N + 1) := in_of h (len := N + 1) (fun q => absurd (Int32.le_trans q h2) (nI_ge (by omega) (by omega))) (by omega)
theorem isMark_in {a : Int32} {I : SI} {J : SJ} (hS : SM I) (h : ¬ F_X12_isMark a I J = 0) : inR a 6 := by
  unfold F_X12_isMark at h
  by_cases c : a < 0
  · rw [if_pos c] at h; exact absurd rfl h
  · rw [if_neg c] at h
    by_cases c2 : I 132 0 ≤ a
    · rw [if_pos c2] at h; exact absurd rfl h
    · exact in_lt (N := 6) (by decide) c hS.1 c2
theorem isShot_in {a : Int32} {I : SI} {J : SJ} (hS : SM I) (h : ¬ F_X12_isShot a I J = 0) : inR a 8 := by
  unfold F_X12_isShot at h
  by_cases c : a < 0
  · rw [if_pos c] at h; exact absurd rfl h
  · rw [if_neg c] at h
    by_cases c2 : I 132 1 ≤ a
    · rw [if_pos c2] at h; exact absurd rfl h
    · exact in_lt (N := 8) (by decide) c hS.2.1 c2
theorem isParty_in {a : Int32} {I : SI} {J : SJ} (hS : SM I) (h : ¬ F_X12_isParty a I J = 0) : inR a 4 := by
  unfold F_X12_isParty at h
  by_cases c : a < 0
  · rw [if_pos c] at h; exact absurd rfl h
  · rw [if_neg c] at h
    by_cases c2 : I 132 3 ≤ a
    · rw [if_pos c2] at h; exact absurd rfl h
    · exact in_lt (N := 4) (by decide) c hS.2.2.1 c2
theorem r0 : inR (0 : Int32) 23 := ⟨rfl, by decide⟩
theorem r1 : inR (1 : Int32) 23 := ⟨rfl, by decide⟩
theorem r2 : inR (2 : Int32) 23 := ⟨rfl, by decide⟩
theorem fresh_ix {a : Int32} {k L : Nat} (h : inR a k) (hk : k ≤ L) : inR a L := h.le hk
theorem m_fault {tp : SI} {a0 : Int32} {I : SI} {J : SJ} (h : (MW tp) I) : (MW tp) (FI_X12_fault a0 I J) := by
  have h' := h.u0
  unfold FI_X12_fault
  repeat' split
  all_goals exact h'
theorem found_H {r la N : Nat} {c x : Int32} {I : SI} {J : SJ} (hc : inR c (N + 1)) (hl : N ≤ la ∧ la < 800) : H_X12_found r la 0 c x I J := by
  unfold H_X12_found
  intro i s hi _
  rw [Int32.zero_add]
  have := hc.2
  exact inR_nI (by omega) (by omega)
theorem m_named {tp : SI} {a0 a1 : Int32} {I : SI} {J : SJ} (h : (MW tp) I) : H_X12_named a0 a1 I J ∧ (MW tp) (FI_X12_named a0 a1 I J) := by
  have h' := h.u0
  refine ⟨?_, ?_⟩
  · unfold H_X12_named
    exact ⟨fun _ => found_H h'.1.1 (by decide), fun _ _ => found_H h'.1.2.1 (by decide), fun _ _ _ => found_H h'.1.2.2.1 (by decide), fun _ _ _ _ => found_H h'.1.2.2.2.1 (by decide)⟩
  · unfold FI_X12_named
    repeat' split
    all_goals exact h'
theorem mark_in {a0 a1 : Int32} {I : SI} {J : SJ} (hS : SM I) (h : u2 I 130 0 (T_X12_mark_j27 a0 a1 I J) 130 0 = 0) : inR a0 6 := by
  refine isMark_in (J := J) hS (fun q => ?_)
  rw [u2_s] at h
  unfold T_X12_mark_j27 at h
  rw [if_pos q] at h
  exact absurd h (by decide)
theorem m_mark {tp : SI} {a0 a1 : Int32} {I : SI} {J : SJ} (h : (MW tp) I) : H_X12_mark a0 a1 I J ∧ (MW tp) (FI_X12_mark a0 a1 I J) := by
  have h' := h.u0
  refine ⟨?_, ?_⟩
  · unfold H_X12_mark
    exact ⟨fun h0 _ => (mark_in h.1 h0).le (by decide), fun h0 _ _ => (mark_in h.1 h0).le (by decide), fun h0 _ _ _ => (mark_in h.1 h0).le (by decide), fun h0 _ _ _ _ => (mark_in h.1 h0).le (by decide), fun h0 _ _ _ _ => timesOf_H (h.u (v := T_X12_mark_j27 a0 a1 I J) (a := 130) (b := 0) rfl).1 r0 (mark_in h.1 h0)⟩
  · unfold FI_X12_mark
    repeat' split
    all_goals exact h.u rfl
theorem m_shot {tp : SI} {a0 a1 : Int32} {I : SI} {J : SJ} (h : (MW tp) I) : H_X12_shot a0 a1 I J ∧ (MW tp) (FI_X12_shot a0 a1 I J) := by
  have h' := h.u0
  refine ⟨?_, ?_⟩
  · unfold H_X12_shot
    exact ⟨fun h0 _ => (isShot_in h'.1 h0).le (by decide), fun h0 _ _ => (isShot_in h'.1 h0).le (by decide), fun h0 _ _ _ => (isShot_in h'.1 h0).le (by decide), fun h0 _ _ _ _ => clashesOf_H h'.1 r0 (isShot_in h'.1 h0), fun h0 _ _ _ _ _ => (isShot_in h'.1 h0).le (by decide)⟩
  · unfold FI_X12_shot
    repeat' split
    all_goals exact h'
theorem m_way {tp : SI} {a0 a1 : Int32} {I : SI} {J : SJ} (h : (MW tp) I) : H_X12_way a0 a1 I J ∧ (MW tp) (FI_X12_way a0 a1 I J) := by
  have h' := h.u0
  refine ⟨?_, ?_⟩
  · unfold H_X12_way
    exact ⟨fun h0 h1 => wayIn_H r0 (isShot_in h'.1 h0) (isMark_in h'.1 h1), fun h0 h1 _ => wayIn_H r0 (isShot_in h'.1 h0) (isMark_in h'.1 h1)⟩
  · unfold FI_X12_way
    repeat' split
    all_goals exact h'
theorem m_party {tp : SI} {a0 a1 : Int32} {I : SI} {J : SJ} (h : (MW tp) I) : H_X12_party a0 a1 I J ∧ (MW tp) (FI_X12_party a0 a1 I J) := by
  have h' := h.u0
  refine ⟨?_, ?_⟩
  · unfold H_X12_party
    exact ⟨fun h0 _ _ _ _ => (isParty_in h'.1 h0).le (by decide), fun h0 _ _ _ => (isParty_in h'.1 h0).le (by decide), fun h0 _ _ => (isParty_in h'.1 h0).le (by decide), fun h0 _ => (isParty_in h'.1 h0).le (by decide)⟩
  · unfold FI_X12_party
    repeat' split
    all_goals exact h'
theorem m_clerk {tp : SI} {a0 : Int32} {I : SI} {J : SJ} (h : (MW tp) I) : H_X12_clerk a0 I J ∧ (MW tp) (FI_X12_clerk a0 I J) := by
  have h' := h.u0
  refine ⟨?_, ?_⟩
  · unfold H_X12_clerk
    exact fun h0 h1 => (in_lt (N := 4) (by decide) h0 h'.1.2.2.2.1 h1).le (by decide)
  · unfold FI_X12_clerk
    repeat' split
    all_goals exact h'
theorem lawk {a : Int32} (h : ¬ a < 0) (h2 : ¬ (2 : Int32) < a) : ∃ k, k < 3 ∧ a = nI k := by
  have q : inR a 3 := in_of h (len := 3) (fun q => h2 (Int32.lt_of_lt_of_le (show (2 : Int32) < nI 3 by decide) q)) (by decide)
  exact q.n
theorem law_goes {a : Int32} {I : SI} {J : SJ} (hS : SM I) (h : ¬ a < 0) (h2 : ¬ (2 : Int32) < a) : H_X12_goes a I J ∧ FrM I (FI_X12_goes a I J) := by
  obtain ⟨k, hk, rfl⟩ := lawk h h2
  have g := goes_H (J := J) hk (hS.l hk)
  exact ⟨g.1, g.2.m⟩
theorem m_law {tp : SI} {a0 a1 a2 : Int32} {I : SI} {J : SJ} (h : (MW tp) I) : H_X12_law a0 a1 a2 I J ∧ (MW tp) (FI_X12_law a0 a1 a2 I J) := by
  have h' := h.u0
  refine ⟨?_, ?_⟩
  · unfold H_X12_law
    exact ⟨fun h0 h1 => (by unfold H_X12_hasLaw; exact in_of h0 (len := 6) (fun q => h1 (Int32.lt_of_lt_of_le (show (2 : Int32) < nI 6 by decide) q)) (by decide)), fun _ _ _ h3 h4 _ => (absurd (h4.symm.trans h3) (by decide)), fun h0 h1 _ _ _ _ => (law_goes h'.1 h0 h1).1, fun _ _ _ h3 h4 _ => (absurd (h4.symm.trans h3) (by decide)), fun _ _ _ h3 h4 _ _ => (absurd (h4.symm.trans h3) (by decide)), fun _ _ _ h3 h4 _ _ => (absurd (h4.symm.trans h3) (by decide)), fun h0 h1 _ _ _ _ _ => (law_goes h'.1 h0 h1).1, fun _ _ _ _ _ h5 _ => callsMark_H h'.1 r0 (isMark_in h'.1 h5), fun h0 h1 _ _ _ _ _ => (law_goes h'.1 h0 h1).1, fun _ _ _ h3 _ _ h6 => (absurd (h6.symm.trans h3) (by decide)), fun _ _ _ h3 _ _ h6 _ => (absurd (h6.symm.trans h3) (by decide)), fun _ _ _ _ _ h5 _ _ => callsMark_H h'.1 r0 (isMark_in h'.1 h5), fun h0 h1 _ _ _ _ _ _ => (law_goes h'.1 h0 h1).1, fun _ _ _ _ h4 _ _ => callsShot_H h'.1 r0 (isShot_in h'.1 h4), fun h0 h1 _ _ _ _ _ => (law_goes h'.1 h0 h1).1, fun _ _ _ _ _ h5 h6 => (absurd (h6.symm.trans h5) (by decide)), fun _ _ _ _ h4 _ _ _ => (isShot_in h'.1 h4).le (by decide), fun _ _ _ _ _ h5 h6 _ => (absurd (h6.symm.trans h5) (by decide)), fun h0 h1 _ _ _ _ _ _ => (law_goes h'.1 h0 h1).1, fun _ _ _ _ h4 _ _ _ => callsShot_H h'.1 r0 (isShot_in h'.1 h4), fun h0 h1 _ _ _ _ _ _ => (law_goes h'.1 h0 h1).1, fun _ _ _ _ h4 _ h6 _ => wayIn_H r0 (isShot_in h'.1 h4) (isMark_in h'.1 h6), fun _ _ _ _ h4 _ _ _ _ => (isShot_in h'.1 h4).le (by decide), fun _ _ _ _ _ _ h6 _ _ => callsMark_H h'.1 r0 (isMark_in h'.1 h6), fun h0 h1 _ _ _ _ _ _ _ => (law_goes h'.1 h0 h1).1⟩
  · unfold FI_X12_law
    by_cases c0 : a0 < 0
    · rw [if_pos c0]; exact h'
    · rw [if_neg c0]
      by_cases c1 : (2 : Int32) < a0
      · rw [if_pos c1]; exact h'
      · rw [if_neg c1]
        have g : ∀ J, (MW tp) (FI_X12_goes a0 (u2 I 130 0 0) J) := fun J => h'.fr (law_goes h'.1 c0 c1).2
        repeat' split
        all_goals first
          | exact h'
          | exact g _
          | (unfold S1_X12_law; exact g _)
          | (unfold S4_X12_law; exact g _)
theorem keepT {tp : SI} (I : SI) (J : SJ) (h : (MW tp) I) : (MW tp) (T_X12_keepNow_j45 I J) ∧ inR (T_X12_keepNow_j45 I J 130 54) 20 := by
  unfold T_X12_keepNow_j45
  by_cases c : I 130 54 = 20
  · rw [if_pos c]
    have f : FrM I (F_X12_keepNow_l11 I J I) := by
      unfold F_X12_keepNow_l11
      refine itN_inv (P := FrM I) (FrM.rf I) (fun i s _ hs => ?_)
      unfold B_X12_keepNow_l11 S3_X12_keepNow
      exact hs.tr (copies_F _ _ _ _)
    have e : F_X12_keepNow_l11 I J I 130 54 = 20 := (f 130 54 (by omega) (by omega)).trans c
    unfold S2_X12_keepNow
    rw [e]
    exact ⟨(h.fr f).n ⟨by decide, by decide⟩, by rw [u2_s]; exact ⟨by decide, by decide⟩⟩
  · rw [if_neg c]
    refine ⟨h, ?_⟩
    obtain ⟨i, hi, e⟩ := h.gn.n
    rw [e]
    have : i ≠ 20 := fun q => c (by rw [e, q]; rfl)
    exact inR_nI (by omega) (by decide)
theorem r3p {e : Int32} (h : inR e 20) : inR ((3 : Int32) + e) 23 := by
  obtain ⟨i, hi, rfl⟩ := h.n
  rw [show (3 : Int32) = nI 3 from rfl, nI_add]
  exact inR_nI (by omega) (by decide)
theorem m_keepNow {tp : SI} {I : SI} {J : SJ} (h : (MW tp) I) : H_X12_keepNow I J ∧ (MW tp) (FI_X12_keepNow I J) := by
  have t := keepT I J h
  refine ⟨?_, ?_⟩
  · unfold H_X12_keepNow
    refine ⟨copies_H (r3p t.2) r0 _ _, fun _ i s hi _ => ?_⟩
    rw [show (3 : Int32) = nI 3 from rfl, nI_add, show nI (3 + (1 + i)) - 1 = nI (3 + (1 + i) - 1) from pk_sub (b := 1) (by omega)]
    exact copies_H (inR_nI (by omega) (by decide)) (inR_nI (by omega) (by decide)) _ _
  · have f : FrM (T_X12_keepNow_j45 I J) (S1_X12_keepNow I J) := by
      unfold S1_X12_keepNow
      exact copies_F _ _ _ _
    unfold FI_X12_keepNow
    refine (t.1.fr f).n ?_
    rw [f 130 54 (by omega) (by omega)]
    exact (cn_s (N := 20) (by decide) t.2).1
theorem m_plums {tp : SI} {a0 a1 : Int32} {I : SI} {J : SJ} (h : (MW tp) I) : H_X12_plums a0 a1 I J ∧ (MW tp) (FI_X12_plums a0 a1 I J) := by
  have h' := h.u0
  have kn := m_keepNow (J := J) h'
  refine ⟨?_, ?_⟩
  · unfold H_X12_plums
    exact ⟨fun h0 _ _ => (isParty_in h'.1 h0).le (by decide), fun _ _ _ _ => kn.1, fun h0 _ _ _ => (isParty_in h'.1 h0).le (by decide)⟩
  · unfold FI_X12_plums
    repeat' split
    all_goals first
      | exact h'
      | exact (by unfold S1_X12_plums; exact kn.2.u rfl)
theorem m_move {tp : SI} {a0 a1 : Int32} {I : SI} {J : SJ} (h : (MW tp) I) : H_X12_move a0 a1 I J ∧ (MW tp) (FI_X12_move a0 a1 I J) := by
  have h' := h.u0
  have kn := m_keepNow (J := J) h'
  refine ⟨?_, ?_⟩
  · unfold H_X12_move
    exact ⟨fun h0 _ _ => isDone_H r0 (isShot_in h'.1 h0), fun h0 _ _ _ => (isShot_in h'.1 h0).le (by decide), fun _ _ _ _ _ => kn.1, fun h0 _ _ _ _ => (isShot_in h'.1 h0).le (by decide)⟩
  · unfold FI_X12_move
    repeat' split
    all_goals first
      | exact h'
      | exact kn.2.u rfl
theorem m_tell {tp : SI} {a0 a1 : Int32} {I : SI} {J : SJ} (h : (MW tp) I) : H_X12_tell a0 a1 I J ∧ (MW tp) (FI_X12_tell a0 a1 I J) := by
  have h' := h.u0
  have kn := m_keepNow (J := J) h'
  refine ⟨?_, ?_⟩
  · unfold H_X12_tell
    exact ⟨fun h0 _ => (isMark_in h'.1 h0).le (by decide), fun h0 _ _ => (isMark_in h'.1 h0).le (by decide), fun _ _ _ _ => kn.1, fun h0 _ _ _ => (isMark_in h'.1 h0).le (by decide)⟩
  · unfold FI_X12_tell
    repeat' split
    all_goals first
      | exact h'
      | exact kn.2.u rfl
theorem m_forget {tp : SI} {a0 : Int32} {I : SI} {J : SJ} (h : (MW tp) I) : H_X12_forget a0 I J ∧ (MW tp) (FI_X12_forget a0 I J) := by
  have h' := h.u0
  have kn := m_keepNow (J := J) h'
  refine ⟨?_, ?_⟩
  · unfold H_X12_forget
    exact ⟨fun h0 => (isMark_in h'.1 h0).le (by decide), fun _ _ => kn.1, fun h0 _ => (isMark_in h'.1 h0).le (by decide)⟩
  · unfold FI_X12_forget
    repeat' split
    all_goals first
      | exact h'
      | exact kn.2.u rfl
theorem m_go {tp : SI} {a0 : Int32} {I : SI} {J : SJ} (h : (MW tp) I) : H_X12_go a0 I J ∧ (MW tp) (FI_X12_go a0 I J) := by
  have h' := h.u0
  have hT : (MW tp) (T_X12_go_j40 a0 I J) := by
    unfold T_X12_go_j40
    split
    · exact h'
    · exact h'.n ⟨rfl, by decide⟩
  refine ⟨?_, ?_⟩
  · unfold H_X12_go
    exact fun _ _ _ _ _ _ h4 => daysH_H (g := B_X12_go_l42 a0 I J) (fun _ _ => rfl) hT.1 r0 h4
  · unfold FI_X12_go
    repeat' split
    all_goals first
      | exact h'
      | exact hT.fr (days_H (g := B_X12_go_l42 a0 I J) (J := J) (fun _ _ => rfl) hT.1 r0 _)
theorem m_ahead {tp : SI} {a0 a1 : Int32} {I : SI} {J : SJ} (h : (MW tp) I) : H_X12_ahead a0 a1 I J ∧ (MW tp) (FI_X12_ahead a0 a1 I J) := by
  have h' := h.u0
  have rn := runs_H (n := a0) (J := J) h'.1
  refine ⟨?_, ?_⟩
  · unfold H_X12_ahead
    exact ⟨fun _ _ _ _ => rn.1, fun _ _ _ _ _ => sumH (p := 1) (by decide), fun _ _ _ _ _ => sumH (p := 0) (by decide), fun _ _ _ _ _ _ _ => sumH (p := 1) (by decide), fun _ _ _ _ _ _ _ => sumH (p := 0) (by decide), fun _ _ _ _ _ _ _ _ => clashesAll_H (h'.1.fr rn.2) r1⟩
  · unfold FI_X12_ahead
    repeat' split
    all_goals first
      | exact h'
      | exact h'.fr rn.2
theorem breaksOf_H {a0 a1 : Int32} {I : SI} {J : SJ} (hS : SM I) (hf : inR a0 23) (hs : inR a1 8) : H_X12_breaksOf a0 a1 I J := by
  have hx : ¬ I 132 1 ≤ a1 + 1 → inR (a1 + 1) 8 := fun q => cn_lt (N := 8) (by decide) (cn_s (N := 8) (by decide) hs).1 hS.2.1 q
  unfold H_X12_breaksOf
  exact ⟨fun _ => isDone_H hf hs, fun h0 _ => isDone_H hf (hx h0), fun _ _ _ _ _ h3 _ => wayIn_H hf hs (hS.m h3), fun h0 _ _ _ _ h3 _ => wayIn_H hf (hx h0) (hS.m h3)⟩
theorem breaksAll_H {a0 : Int32} {I : SI} {J : SJ} (hS : SM I) (hf : inR a0 23) : H_X12_breaksAll a0 I J := by
  unfold H_X12_breaksAll
  exact fun i _ hi _ => breaksOf_H hS hf (hS.s hi)
theorem m_breaks {tp : SI} {I : SI} {J : SJ} (h : (MW tp) I) : H_X12_breaks I J ∧ (MW tp) (FI_X12_breaks I J) := by
  have h' := h.u0
  refine ⟨?_, ?_⟩
  · unfold H_X12_breaks
    exact breaksAll_H h'.1 r0
  · unfold FI_X12_breaks
    exact h'
theorem itE_inv {σ ρ : Type} {f : Nat → σ → σ ⊕ ρ} {s0 : σ} (P : σ → Prop) (Q : ρ → Prop) (h0 : P s0) (hs : ∀ i s s', P s → f i s = .inl s' → P s') (hr : ∀ i s r, P s → f i s = .inr r → Q r) : (∀ m s, itE f m 0 s0 = .inl s → P s) ∧ ∀ m r, itE f m 0 s0 = .inr r → Q r := by
  have key : ∀ m i s, P s → (∀ s', itE f m i s = .inl s' → P s') ∧ ∀ r, itE f m i s = .inr r → Q r := by
    intro m
    induction m with
    | zero => intro i s hp; exact ⟨fun s' h => by rw [itE_0] at h; cases h; exact hp, fun r h => by rw [itE_0] at h; cases h⟩
    | succ m ih =>
      intro i s hp
      cases hf : f i s with
      | inl s2 => rw [itE_l f m i s s2 hf]; exact ih (i + 1) s2 (hs i s s2 hp hf)
      | inr r2 => rw [itE_r f m i s r2 hf]; exact ⟨fun s' h => (by cases h), fun r h => by cases h; exact hr i s r2 hp hf⟩
  exact ⟨fun m s h => (key m 0 s0 h0).1 s h, fun m r h => (key m 0 s0 h0).2 r h⟩
theorem m_agrees {tp : SI} {I : SI} {J : SJ} (h : (MW tp) I) : H_X12_agrees I J ∧ (MW tp) (FI_X12_agrees I J) := by
  have h' := h.u0
  have L := itE_inv (f := B_X12_agrees_l13_4 I J) (s0 := (FI_X12_copies 1 0 (u2 I 130 0 0) J, J)) (fun s => FrM (u2 I 130 0 0) s.1) (fun r => FrM (u2 I 130 0 0) r.2.1) (copies_F _ _ _ _) (fun i s s' hp hf => by
    unfold B_X12_agrees_l13_4 at hf
    repeat' split at hf
    all_goals cases hf
    all_goals exact hp.tr (passes_H (h'.1.fr hp) r1).2) (fun i s r hp hf => by
    unfold B_X12_agrees_l13_4 at hf
    repeat' split at hf
    all_goals cases hf
    all_goals exact hp)
  refine ⟨?_, ?_⟩
  · unfold H_X12_agrees
    exact ⟨copies_H r1 r0 _ _, fun _ _ _ _ => sumH (p := 1) (by decide), fun _ _ _ h1 _ => (passes_H (h'.1.fr (L.1 _ _ h1)) r1).1, fun _ _ _ h1 _ => clashesAll_H (h'.1.fr (L.1 _ _ h1)) r1, fun _ _ _ h1 _ _ => (passes_H (h'.1.fr (L.1 _ _ h1)) r1).1⟩
  · unfold FI_X12_agrees
    cases q : F_X12_agrees_l13_4 I J (FI_X12_copies 1 0 (u2 I 130 0 0) J, J) with
    | inl s => exact h'.fr (L.1 _ _ q)
    | inr r => exact h'.fr (L.2 _ _ q)
theorem m_count {tp : SI} {a0 : Int32} {I : SI} {J : SJ} (h : (MW tp) I) : H_X12_count a0 I J ∧ (MW tp) (FI_X12_count a0 I J) := by
  have h' := h.u0
  refine ⟨?_, ?_⟩
  · unfold H_X12_count
    exact ⟨fun _ _ _ _ _ _ _ => sumH (p := 0) (by decide), fun _ _ _ _ _ _ _ _ _ => sumH (p := 0) (by decide), fun _ _ _ _ _ _ _ _ _ _ _ => clashesAll_H h'.1 r0⟩
  · unfold FI_X12_count
    simp only [ite_self]
    exact h'
theorem m_keep {tp : SI} {I : SI} {J : SJ} (h : (MW tp) I) : H_X12_keep I J ∧ (MW tp) (FI_X12_keep I J) := by
  have h' := h.u0
  refine ⟨?_, ?_⟩
  · unfold H_X12_keep
    exact copies_H r2 r0 _ _
  · unfold FI_X12_keep
    exact (h'.fr (copies_F _ _ _ _)).u rfl
theorem m_back {tp : SI} {I : SI} {J : SJ} (h : (MW tp) I) : H_X12_back I J ∧ (MW tp) (FI_X12_back I J) := by
  have h' := h.u0
  refine ⟨?_, ?_⟩
  · unfold H_X12_back
    exact fun _ => copies_H r0 r2 _ _
  · unfold FI_X12_back
    split
    · exact h'
    · exact (h'.fr (copies_F _ _ _ _)).n ⟨rfl, by decide⟩
theorem undo_n {tp : SI} {I : SI} (h : (MW tp) I) (h0 : ¬ I 130 54 = 0) : inR (I 130 54 - 1) 20 := by
  obtain ⟨i, hi, e⟩ := h.gn.n
  have : i ≠ 0 := fun q => h0 (by rw [e, q]; rfl)
  rw [e, show nI i - 1 = nI (i - 1) from pk_sub (b := 1) (by omega)]
  exact inR_nI (by omega) (by decide)
theorem m_undo {tp : SI} {I : SI} {J : SJ} (h : (MW tp) I) : H_X12_undo I J ∧ (MW tp) (FI_X12_undo I J) := by
  have h' := h.u0
  refine ⟨?_, ?_⟩
  · unfold H_X12_undo
    exact fun h0 => (by rw [u2_s]; exact copies_H r0 (r3p (undo_n h' h0)) _ _)
  · unfold FI_X12_undo
    split
    · exact h'
    · next q => unfold S1_X12_undo; exact (h'.n ((undo_n h' q).le (by decide))).fr (copies_F _ _ _ _)
theorem m_without {tp : SI} {a0 : Int32} {I : SI} {J : SJ} (h : (MW tp) I) : H_X12_without a0 I J ∧ (MW tp) (FI_X12_without a0 I J) := by
  have h' := h.u0
  have rn := runs_H (n := a0) (J := J) (h'.u (a := 130) (b := 59) (v := 1) rfl).1
  refine ⟨?_, ?_⟩
  · unfold H_X12_without
    exact ⟨fun _ _ => rn.1, fun _ _ => clashesAll_H (((h'.u (a := 130) (b := 59) (v := 1) rfl).fr rn.2).u (a := 130) (b := 59) (v := 0) rfl).1 r1, fun _ _ => breaksAll_H (((h'.u (a := 130) (b := 59) (v := 1) rfl).fr rn.2).u (a := 130) (b := 59) (v := 0) rfl).1 r1⟩
  · unfold FI_X12_without
    repeat' split
    all_goals first
      | exact h'
      | exact ((h'.u (a := 130) (b := 59) (v := 1) rfl).fr rn.2).u rfl
theorem m_tried {tp : SI} {a0 a1 a2 : Int32} {I : SI} {J : SJ} (h : (MW tp) I) : H_X12_tried a0 a1 a2 I J ∧ (MW tp) (FI_X12_tried a0 a1 a2 I J) := by
  have h' := h.u0
  have rn := runs_H (n := a2) (J := J) ((h'.u (a := 130) (b := 55) (v := a0) rfl).u (a := 130) (b := 56) (v := a1) rfl).1
  refine ⟨?_, ?_⟩
  · unfold H_X12_tried
    exact ⟨fun _ _ _ => rn.1, fun _ _ _ => clashesAll_H (((((h'.u (a := 130) (b := 55) (v := a0) rfl).u (a := 130) (b := 56) (v := a1) rfl).fr rn.2).u (a := 130) (b := 55) (v := 0) rfl).u (a := 130) (b := 56) (v := -1) rfl).1 r1⟩
  · unfold FI_X12_tried
    repeat' split
    all_goals first
      | exact h'
      | exact (by unfold S1_X12_tried; exact ((((h'.u (a := 130) (b := 55) (v := a0) rfl).u (a := 130) (b := 56) (v := a1) rfl).fr rn.2).u rfl).u rfl)
theorem run_0 {i : Nat} {I : SI} {J : SJ} {s : Int32 × Int32} (hs : s = itN (B_X12_run_l11 I J) i (0, 0)) (h : ¬ s.2 ≤ 0) : 0 < i := by
  cases i with
  | zero => rw [itN_0] at hs; rw [hs] at h; exact absurd (show (0 : Int32) ≤ 0 by decide) h
  | succ i => exact Nat.succ_pos _
theorem m_run {tp : SI} {I : SI} {J : SJ} (h : (MW tp) I) : H_X12_run I J ∧ (MW tp) (FI_X12_run I J) := by
  have h' := h.u0
  refine ⟨?_, ?_⟩
  · unfold H_X12_run
    exact ⟨fun _ _ h0 _ => isDone_H r0 (h'.1.s h0), fun i11 _ _ h1 h2 => (by have q := run_0 h1 h2; rw [show nI i11 - 1 = nI (i11 - 1) from pk_sub (b := 1) q]; exact breaksOf_H h'.1 r0 (h'.1.s (by omega)))⟩
  · unfold FI_X12_run
    exact h'
theorem m_believed {tp : SI} {I : SI} {J : SJ} (h : (MW tp) I) : H_X12_believed I J ∧ (MW tp) (FI_X12_believed I J) := by
  have h' := h.u0
  refine ⟨?_, ?_⟩
  · unfold H_X12_believed
    exact ⟨fun _ _ h0 _ => (in_it (N := 4) (by decide) h'.1.2.2.1 h0).le (by decide), fun _ _ h0 _ => (h'.1.pm (in_it (N := 4) (by decide) h'.1.2.2.1 h0)).le (by decide)⟩
  · unfold FI_X12_believed
    exact h'
theorem m_noted {tp : SI} {I : SI} {J : SJ} (h : (MW tp) I) : H_X12_noted I J ∧ (MW tp) (FI_X12_noted I J) := by
  have h' := h.u0
  refine ⟨?_, ?_⟩
  · unfold H_X12_noted
    exact fun _ _ _ _ _ _ h2 _ _ => (in_it (N := 4) (by decide) h'.1.2.2.2.1 h2).le (by decide)
  · unfold FI_X12_noted
    exact h'
theorem areTwo_in {a b : Int32} {I : SI} {J : SJ} (hS : SM I) (h : ¬ F_X12_areTwo a b I J = 0) : inR a 4 ∧ inR b 4 := by
  unfold F_X12_areTwo at h
  by_cases c1 : F_X12_isParty a I J = 0
  · rw [if_pos c1] at h; exact absurd rfl h
  · rw [if_neg c1] at h
    by_cases c2 : F_X12_isParty b I J = 0
    · rw [if_pos c2] at h; exact absurd rfl h
    · exact ⟨isParty_in hS c1, isParty_in hS c2⟩
theorem isRest_H {a0 a1 a2 a3 : Int32} {I : SI} {J : SJ} (h0 : inR a0 4) (h1 : inR a1 4) : H_X12_isRest a0 a1 a2 a3 I J := by
  unfold H_X12_isRest
  exact ⟨fun _ _ _ _ => h0.le (by decide), fun _ _ _ _ _ => h1.le (by decide), fun _ _ _ _ _ _ => h1.le (by decide)⟩
theorem min4 {x e : Int32} (h : ¬ minI 4 x < e) (he : inR e (5 + 1)) : inR e 5 := by
  refine cn_lt (N := 5) (by decide) he (z := 5) ⟨by decide, by decide⟩ (fun q => h ?_)
  have h4 : minI 4 x ≤ 4 := by
    unfold minI
    by_cases c : x < 4
    · rw [if_pos c]; exact Int32.le_of_lt c
    · rw [if_neg c]; exact Int32.le_refl _
  exact Int32.lt_of_le_of_lt h4 (Int32.lt_of_lt_of_le (by decide) q)
theorem restOf_H {a0 a1 a2 : Int32} {I : SI} {J : SJ} (h0 : inR a0 4) (h1 : inR a1 4) : H_X12_restOf a0 a1 a2 I J := by
  have K : ∀ s6 : Int32 × Int32, (itW (B_X12_restOf_w24 a0 a1 a2 I J s6) 800 (s6.1, 0)).isSome = true := by
    intro s6
    refine (whl (f := B_X12_restOf_w24 a0 a1 a2 I J s6) (fun s => inR s.2 (5 + 1)) (fun _ => True) (fun s => 5 - s.2.toNatClampNeg) cn_0 (by show 5 - _ < 800; omega) (fun s s' hp hf => ?_) (fun _ _ _ _ => trivial)).1
    unfold B_X12_restOf_w24 at hf
    by_cases c : minI 4 (I 166 a1.toNatClampNeg) < s.2
    · rw [if_pos c] at hf; cases hf
    · rw [if_neg c] at hf
      have q := min4 c hp
      have k := cn_s (N := 5) (by decide) q
      have := q.2
      repeat' split at hf
      all_goals cases hf
      all_goals exact ⟨k.1, by show 5 - (s.2 + 1).toNatClampNeg < 5 - s.2.toNatClampNeg; omega⟩
  have L := whl (f := B_X12_restOf_w6 a0 a1 a2 I J) (s0 := (0, 0)) (fun s => inR s.2 (5 + 1)) (fun _ => True) (fun s => 5 - s.2.toNatClampNeg) cn_0 (by show 5 - _ < 800; omega) (fun s s' hp hf => by
    unfold B_X12_restOf_w6 at hf
    by_cases c : minI 4 (I 166 a0.toNatClampNeg) < s.2
    · rw [if_pos c] at hf; cases hf
    · rw [if_neg c] at hf
      have q := min4 c hp
      have k := cn_s (N := 5) (by decide) q
      have := q.2
      repeat' split at hf
      all_goals cases hf
      all_goals exact ⟨k.1, by show 5 - (s.2 + 1).toNatClampNeg < 5 - s.2.toNatClampNeg; omega⟩) (fun _ _ _ _ => trivial)
  unfold H_X12_restOf
  exact ⟨L.1, fun _ _ _ => h0.le (by decide), fun _ _ _ _ => K _, fun _ _ _ _ _ _ _ => h1.le (by decide), fun _ _ _ _ _ _ _ _ => isRest_H h0 h1⟩
theorem m_rests {tp : SI} {a0 a1 : Int32} {I : SI} {J : SJ} (h : (MW tp) I) : H_X12_rests a0 a1 I J ∧ (MW tp) (FI_X12_rests a0 a1 I J) := by
  have h' := h.u0
  refine ⟨?_, ?_⟩
  · unfold H_X12_rests
    exact fun h0 => restOf_H (areTwo_in h'.1 h0).1 (areTwo_in h'.1 h0).2
  · unfold FI_X12_rests
    repeat' split
    all_goals exact h'
theorem m_rest {tp : SI} {a0 a1 a2 : Int32} {I : SI} {J : SJ} (h : (MW tp) I) : H_X12_rest a0 a1 a2 I J ∧ (MW tp) (FI_X12_rest a0 a1 a2 I J) := by
  have h' := h.u0
  refine ⟨?_, ?_⟩
  · unfold H_X12_rest
    exact fun h0 _ => restOf_H (areTwo_in h'.1 h0).1 (areTwo_in h'.1 h0).2
  · unfold FI_X12_rest
    repeat' split
    all_goals exact h'
def pwT (q : Nat) (_ : Nat) (s : Int64 × Int64) : Int64 × Int64 := (s.1 * (100 - (nI q).toInt64), s.2 * 100)
def pwq (q n : Nat) : Int64 × Int64 := itN (pwT q) n (1, 1)
def ZI : SI := fun _ _ => 0
def ZJJ : SJ := fun _ _ => 0
theorem pwq_1 : ∀ q, q < 101 → ∀ n, n < 7 → (itW (B_X12_common_w6 (pwq q n).1 (pwq q n).2 ZI ZJJ) 800 ((pwq q n).1, (pwq q n).2)).isSome = true := by decide +kernel
theorem pwq_2 : ∀ q, q < 101 → ∀ n, n < 7 → ¬ F_X12_common (pwq q n).1 (pwq q n).2 ZI ZJJ = 0 := by decide +kernel
theorem cmn_H (a b : Int64) (I : SI) (J : SJ) (h : (itW (B_X12_common_w6 a b ZI ZJJ) 800 (a, b)).isSome = true) : H_X12_common a b I J := by
  unfold H_X12_common
  exact ⟨h, fun n s _ h => cmpn h⟩
theorem there_e {a0 a1 : Int32} {I : SI} {J : SJ} {q : Nat} (h : u2 I 130 0 0 132 6 = nI q) : F_X12_there_l36 a0 a1 I J (1, 1) = pwq q a0.toNatClampNeg := by
  have e : B_X12_there_l36 a0 a1 I J = pwT q := by
    funext i s
    unfold B_X12_there_l36 pwT
    rw [h]
  unfold F_X12_there_l36 pwq
  rw [e]
theorem m_there {tp : SI} {a0 a1 : Int32} {I : SI} {J : SJ} (h : (MW tp) I) : H_X12_there a0 a1 I J ∧ (MW tp) (FI_X12_there a0 a1 I J) := by
  have h' := h.u0
  obtain ⟨q, hq, eq⟩ := h'.1.2.2.2.2.2.1.n
  have n7 : ¬ a0 < 0 → ¬ (6 : Int32) < a0 → a0.toNatClampNeg < 7 := fun h h2 => (in_of h (len := 7) (fun q => h2 (Int32.lt_of_lt_of_le (show (6 : Int32) < nI 7 by decide) q)) (by decide)).2
  refine ⟨?_, ?_⟩
  · unfold H_X12_there
    exact ⟨fun h0 h1 _ _ => (by rw [there_e eq]; exact cmn_H _ _ _ _ (pwq_1 q hq _ (n7 h0 h1))), fun h0 h1 _ _ _ => (by unfold S1_X12_there; rw [there_e eq]; exact pwq_2 q hq _ (n7 h0 h1)), fun h0 h1 _ _ _ => (by unfold S1_X12_there; rw [there_e eq]; exact pwq_2 q hq _ (n7 h0 h1))⟩
  · unfold FI_X12_there
    repeat' split
    all_goals exact h'
