theorem cm_0 (x y : Int64) (I : SI) (J : SJ) : F_X12_common x y I J = F_X12_common x y (fun _ _ => 0) (fun _ _ => 0) := by
  unfold F_X12_common F_X12_common_w6 B_X12_common_w6
  rfl
theorem cp_v : ∀ v, v < 101 → F_X11_commonPart ((100 : Int32) - nI v) 100 (fun _ _ => 0) (fun _ _ => 0) = nI (Nat.gcd (100 - v) 100) := by decide +kernel
