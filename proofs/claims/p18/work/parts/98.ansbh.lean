theorem cp_0 (x y : Int32) (I : SI) (J : SJ) : F_X11_commonPart x y I J = F_X11_commonPart x y (fun _ _ => 0) (fun _ _ => 0) := by
  unfold F_X11_commonPart F_X11_commonPart_l4 B_X11_commonPart_l4
  rfl
