def wf97 (t : Int32) : Int32 ⊕ Int32 := if chS 3 t.toNatClampNeg = 32 then .inr t else .inl (t + 1)
theorem wst_ok : ∀ n, n < 23 → itW wf97 800 (nI (WST.getD n 0)) = some (nI (WST.getD (n + 1) 0 - 1)) ∧ nI (WST.getD (n + 1) 0 - 1) + 1 = nI (WST.getD (n + 1) 0) ∧ WST.getD n 0 < 118 := by decide +kernel
