theorem bo_0 (x : Int32) (I : SI) (J : SJ) : F_X12_bitsOf x I J = F_X12_bitsOf x (fun _ _ => 0) (fun _ _ => 0) := by
  unfold F_X12_bitsOf F_X12_bitsOf_l4 B_X12_bitsOf_l4
  rfl
theorem bits_0 : ∀ s, s < 16 → F_J6_bitCount_0f7a4 (nI s) (fun _ _ => 0) (fun _ _ => 0) = F_X12_bitsOf (nI s) (fun _ _ => 0) (fun _ _ => 0) := by decide +kernel
