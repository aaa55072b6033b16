theorem bc_0 (x : Int32) (I : SI) (J : SJ) : F_J6_bitCount_0f7a4 x I J = F_J6_bitCount_0f7a4 x (fun _ _ => 0) (fun _ _ => 0) := by
  unfold F_J6_bitCount_0f7a4 S7_J6_bitCount_0f7a4 S6_J6_bitCount_0f7a4 S5_J6_bitCount_0f7a4 S4_J6_bitCount_0f7a4 S3_J6_bitCount_0f7a4 S2_J6_bitCount_0f7a4 S1_J6_bitCount_0f7a4
  rfl
