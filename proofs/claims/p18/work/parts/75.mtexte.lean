theorem dpT_k {a b : Nat} (z : a = 170 ∨ a = 171 ∨ a = 173 ∨ a = 174 ∨ a = 176) : dpT a b := by
  unfold dpT dpL
  refine ⟨?_, fun y => by omega⟩
  exact Or.inr (Or.inr (Or.inr (Or.inr (Or.inr (Or.inr z)))))
