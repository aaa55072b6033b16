/-- what is told, but for the tape's counts -/
def dpT (a b : Nat) : Prop := dpL a b ∧ ¬ (a = 130 ∧ (b = 2 ∨ b = 25))
