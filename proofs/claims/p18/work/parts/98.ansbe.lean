theorem bit_01 : ∀ i, i < 16 → ∀ j, j < 4 → (nI i >>> (nI j &&& 31)) &&& 1 = 0 ∨ (nI i >>> (nI j &&& 31)) &&& 1 = 1 := by decide +kernel
