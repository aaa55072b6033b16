/-! the model: calls go well, and leave what the next ones need -/
/-- what the calls' own needs look at -/
def dpM (a b : Nat) : Bool := if a = 130 then (b == 2 || b == 32 || b == 33 || b == 54 || b == 68 || b == 69) else ((Nat.ble 131 a && Nat.ble a 151) || [170, 171, 173, 174, 175, 176].contains a)
/-- what is told, fed, sighted -/
def KB (T I : SI) : Prop := ∀ a b, (a = 130 ∧ (b = 2 ∨ b = 32 ∨ b = 33 ∨ b = 68 ∨ b = 69)) ∨ (131 ≤ a ∧ a ≤ 151) ∨ (173 ≤ a ∧ a ≤ 176) → I a b = T a b
theorem dpM_g {a b : Nat} (h : (a = 130 ∧ (b = 2 ∨ b = 32 ∨ b = 33 ∨ b = 68 ∨ b = 69)) ∨ (131 ≤ a ∧ a ≤ 151) ∨ (173 ≤ a ∧ a ≤ 176)) : dpM a b = true := by
  rcases h with ⟨rfl, rfl | rfl | rfl | rfl | rfl⟩ | h | h
  · rfl
  · rfl
  · rfl
  · rfl
  · rfl
  · unfold dpM
    rw [if_neg (by omega)]
    simp only [Bool.or_eq_true, Bool.and_eq_true, Nat.ble_eq]
    exact Or.inl h
  · rcases (by omega : a = 173 ∨ a = 174 ∨ a = 175 ∨ a = 176) with rfl | rfl | rfl | rfl
    · rfl
    · rfl
    · rfl
    · rfl
def MW (tp : SI) (I : SI) : Prop := SM I ∧ (KB tp I) ∧ (inR (I 130 54) 21) ∧ (inR (I 130 68) 25) ∧ ((I 130 69) = -1 ∨ inR (I 130 69) 25) ∧ (∀ b, b < 24 → inR (I 174 b) 6) ∧ (∀ b, b < 24 → inR (I 173 b) 41) ∧ (∀ b, b < 24 → (I 176 b) = -1 ∨ inR (I 176 b) 24) ∧ (∀ b, b < 4 → inR (I 170 b) 8) ∧ (∀ b, b < 4 → inR (I 171 b) 8)
theorem MW.sm {tp : SI} {I : SI} (h : (MW tp) I) : SM I := h.1
theorem MW.gt {tp : SI} {I : SI} (h : (MW tp) I) : KB tp I := h.2.1
theorem MW.gn {tp : SI} {I : SI} (h : (MW tp) I) : inR (I 130 54) 21 := h.2.2.1
theorem MW.gs {tp : SI} {I : SI} (h : (MW tp) I) : inR (I 130 68) 25 := h.2.2.2.1
