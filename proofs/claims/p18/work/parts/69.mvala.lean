/-! the model: what a token's value may be -/
def WST : List Nat := [0, 5, 10, 14, 20, 26, 31, 35, 41, 46, 50, 57, 63, 69, 72, 76, 80, 87, 93, 98, 104, 109, 113, 118]
