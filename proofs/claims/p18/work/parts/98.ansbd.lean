theorem bits_v {s : Nat} (h : s < 16) {I I' : SI} {J J' : SJ} : F_J6_bitCount_0f7a4 (nI s) I J = F_X12_bitsOf (nI s) I' J' := (bc_0 _ _ _).trans ((bits_0 s h).trans (bo_0 _ _ _).symm)
