/-! the model's constructor, by program -/
/-- beyond its own cells begins() changes nothing -/
theorem l_st56 (a0 : Int32) (I : SI) (J : SJ) (s0 : SI) {a : Nat} (ha : 178 ≤ a) : F_X12_starts_l56 a0 I J s0 a = s0 a := by
  unfold F_X12_starts_l56
  refine itN_inv (fun (s : SI) => s a = s0 a) rfl fun i s _ hs => ?_
  show B_X12_starts_l56 a0 I J i s a = s0 a
  simp (disch := omega) only [u2_k, B_X12_starts_l163, B_X12_starts_l194, B_X12_starts_l56, B_X12_starts_l94, S12_X12_starts]
  exact hs
theorem l_st94 (a0 : Int32) (I : SI) (J : SJ) (s0 : SI) {a : Nat} (ha : 178 ≤ a) : F_X12_starts_l94 a0 I J s0 a = s0 a := by
  unfold F_X12_starts_l94
  refine itN_inv (fun (s : SI) => s a = s0 a) rfl fun i s _ hs => ?_
  show B_X12_starts_l94 a0 I J i s a = s0 a
  simp (disch := omega) only [u2_k, B_X12_starts_l163, B_X12_starts_l194, B_X12_starts_l56, B_X12_starts_l94, S10_X12_starts, S11_X12_starts, S9_X12_starts]
  exact hs
theorem l_st163 (a0 : Int32) (I : SI) (J : SJ) (s0 : SI) {a : Nat} (ha : 178 ≤ a) : F_X12_starts_l163 a0 I J s0 a = s0 a := by
  unfold F_X12_starts_l163
  refine itN_inv (fun (s : SI) => s a = s0 a) rfl fun i s _ hs => ?_
  show B_X12_starts_l163 a0 I J i s a = s0 a
  simp (disch := omega) only [u2_k, B_X12_starts_l163, B_X12_starts_l194, B_X12_starts_l56, B_X12_starts_l94, S8_X12_starts]
  exact hs
theorem l_st194 (a0 : Int32) (I : SI) (J : SJ) (s0 : SI) {a : Nat} (ha : 178 ≤ a) : F_X12_starts_l194 a0 I J s0 a = s0 a := by
  unfold F_X12_starts_l194
  refine itN_inv (fun (s : SI) => s a = s0 a) rfl fun i s _ hs => ?_
  show B_X12_starts_l194 a0 I J i s a = s0 a
  simp (disch := omega) only [u2_k, B_X12_starts_l163, B_X12_starts_l194, B_X12_starts_l56, B_X12_starts_l94, S6_X12_starts, S7_X12_starts]
  exact hs
theorem l_begins (I : SI) (J : SJ) : ∀ a, 178 ≤ a → FI_X12_begins I J a = I a := by
  intro a ha
  unfold FI_X12_begins FI_X12_starts
  rw [l_st194 _ _ _ _ ha]
  simp (disch := omega) only [u2_k, l_st163 _ _ _ _ ha, l_st94 _ _ _ _ ha, l_st56 _ _ _ _ ha, S1_X12_starts, S2_X12_starts, S3_X12_starts, S4_X12_starts, S5_X12_starts]
def S1_X12_init (I : SI) (J : SJ) (R : SR) : SI := u2 (u2 (u2 (u2 (u2 (u2 I 132 0 0) 132 1 0) 132 2 0) 132 3 0) 132 4 0) 132 5 0
def S2_X12_init (I : SI) (J : SJ) (R : SR) : SI := u2 (u2 (u2 (u2 (u2 (S1_X12_init I J R) 132 6 0) 132 7 99) 132 8 0) 132 9 0) 132 10 0
def S3_X12_init (I : SI) (J : SJ) (R : SR) : SI := u2 (u2 (u2 (u2 (S2_X12_init I J R) 132 11 0) 132 12 0) 132 13 0) 132 14 0
def S4_X12_init (I : SI) (J : SJ) (R : SR) : SI := u2 (u2 (u2 (u2 (S3_X12_init I J R) 132 15 0) 132 16 0) 132 17 99) 132 18 0
def S5_X12_init (I : SI) (J : SJ) (R : SR) : SR := u2 (u2 (u2 (u2 R 130 1 (some 131)) 130 3 (some 132)) 130 4 (some 133)) 130 5 (some 134)
def S6_X12_init (I : SI) (J : SJ) (R : SR) : SR := u2 (u2 (u2 (S5_X12_init I J R) 130 6 (some 135)) 130 7 (some 136)) 130 8 (some 137)
def S7_X12_init (I : SI) (J : SJ) (R : SR) : SR := u2 (u2 (u2 (S6_X12_init I J R) 130 9 (some 138)) 130 10 (some 139)) 130 11 (some 140)
def S8_X12_init (I : SI) (J : SJ) (R : SR) : SR := u2 (u2 (u2 (S7_X12_init I J R) 130 12 (some 141)) 130 13 (some 142)) 130 14 (some 143)
def S9_X12_init (I : SI) (J : SJ) (R : SR) : SR := u2 (u2 (u2 (S8_X12_init I J R) 130 15 (some 144)) 130 16 (some 145)) 130 17 (some 146)
def S10_X12_init (I : SI) (J : SJ) (R : SR) : SR := u2 (u2 (u2 (S9_X12_init I J R) 130 18 (some 147)) 130 19 (some 148)) 130 20 (some 149)
def S11_X12_init (I : SI) (J : SJ) (R : SR) : SR := u2 (u2 (u2 (S10_X12_init I J R) 130 21 (some 150)) 130 22 (some 151)) 130 36 (some 152)
def S12_X12_init (I : SI) (J : SJ) (R : SR) : SR := u2 (u2 (u2 (S11_X12_init I J R) 130 37 (some 153)) 130 39 (some 154)) 130 40 (some 155)
def S13_X12_init (I : SI) (J : SJ) (R : SR) : SR := u2 (u2 (u2 (S12_X12_init I J R) 130 41 (some 156)) 130 42 (some 157)) 130 43 (some 158)
def S14_X12_init (I : SI) (J : SJ) (R : SR) : SR := u2 (u2 (u2 (S13_X12_init I J R) 130 44 (some 159)) 130 45 (some 160)) 130 46 (some 161)
def S15_X12_init (I : SI) (J : SJ) (R : SR) : SR := u2 (u2 (u2 (S14_X12_init I J R) 130 47 (some 162)) 130 48 (some 163)) 130 49 (some 164)
def S16_X12_init (I : SI) (J : SJ) (R : SR) : SR := u2 (u2 (u2 (S15_X12_init I J R) 130 50 (some 165)) 130 51 (some 166)) 130 52 (some 167)
def S17_X12_init (I : SI) (J : SJ) (R : SR) : SI := u2 (u2 (u2 (u2 (S4_X12_init I J R) 132 19 0) 130 33 (-1)) 130 56 (-1)) 130 57 (-1)
def S18_X12_init (I : SI) (J : SJ) (R : SR) : SR := u2 (u2 (u2 (S16_X12_init I J R) 130 60 (some 168)) 130 61 (some 169)) 130 63 (some 170)
def S19_X12_init (I : SI) (J : SJ) (R : SR) : SR := u2 (u2 (u2 (S18_X12_init I J R) 130 64 (some 171)) 130 65 (some 172)) 130 70 (some 173)
def S20_X12_init (I : SI) (J : SJ) (R : SR) : SR := u2 (u2 (u2 (S19_X12_init I J R) 130 71 (some 174)) 130 72 (some 175)) 130 73 (some 176)
def S21_X12_init (I : SI) (J : SJ) (R : SR) : SI := (eI (false, u2 (S17_X12_init I J R) 130 69 (-1), J) (FI_X12_begins  (u2 (S17_X12_init I J R) 130 69 (-1)) J))
def KI_X12_init (I : SI) (J : SJ) (R : SR) : SI := (S21_X12_init I J R)
def KJ_X12_init (I : SI) (J : SJ) (R : SR) : SJ := (eJ (false, u2 (S17_X12_init I J R) 130 69 (-1), J) (J))
def KR_X12_init (I : SI) (J : SJ) (R : SR) : SR := u2 (S20_X12_init I J R) 130 74 (some 177)
set_option maxHeartbeats 1000000 in
set_option maxRecDepth 40000 in
theorem k_X12_init  {I : SI} {J : SJ} {R : SR} (hro : RM (u2 (S20_X12_init I J R) 130 74 (some 177))) (hpre0 : H_X12_begins  (u2 (S17_X12_init I J R) 130 69 (-1)) J)  (hZ : Zr I J R (131)) : MM 2 47 3697 mX12_init [.ref 130] I J R (131) 0 (Pd none (KI_X12_init I J R) (KJ_X12_init I J R) (KR_X12_init I J R) (178) 0) := by
  refine MM.of (by decide) (Nat.le_of_ble_eq_true rfl) fun K ok fin => ?_
  show WK K 0 0 0 [(0, .ref 130)] [] I J R (131) 0
  refine w_aload_n ok dX12_init_0 0 rfl ?_
  refine w_obj ok dX12_init_1 (iT_6 99 (by decide +kernel) (by decide +kernel)) (iT_1 32 (by decide +kernel) (by decide +kernel)) (iT_1 33 (by decide +kernel) (by decide +kernel)) (Nat.le_of_ble_eq_true rfl) ?_
  refine w_aload_n ok dX12_init_4 0 rfl ?_
  refine w_sipush (v := 700) ok dX12_init_5 (by decide) ?_
  refine w_newI (len := 700) ok dX12_init_8 rfl s_131 (by decide) (by decide) (by decide) (iT_1 84 (by decide +kernel) (by decide +kernel)) hZ (cap_of fin (by decide) (by decide)) ?_
  have hZ1 : Zr I J R (132) := Zr.up hZ
  refine w_putRF ok dX12_init_10 (ffX12_7 rfl rfl) (congrArg Prod.fst s_130) rfl (by decide) ?_
  have hZ2 : Zr I J (u2 R 130 1 (some 131)) (132) := Zr.putR hZ1 (by decide)
  refine w_aload_n ok dX12_init_13 0 rfl ?_
  refine w_bipush (v := 20) ok dX12_init_14 (by decide) ?_
  refine w_newI (len := 20) ok dX12_init_16 rfl s_132 (by decide) (by decide) (by decide) (iT_1 84 (by decide +kernel) (by decide +kernel)) hZ2 (cap_of fin (by decide) (by decide)) ?_
  have hZ3 : Zr I J (u2 R 130 1 (some 131)) (133) := Zr.up hZ2
  refine w_dup ok dX12_init_18 rfl ?_
  refine w_iconst (v := 0) ok dX12_init_19 (by decide) ?_
  refine w_iconst (v := 0) ok dX12_init_20 (by decide) ?_
  refine x_iast (q := 0) ok dX12_init_21 s_132 (by decide) (by decide) (by decide) ?_
  have hZ4 : Zr (u2 I 132 0 0) J (u2 R 130 1 (some 131)) (133) := Zr.putI hZ3 (by decide)
  refine w_dup ok dX12_init_22 rfl ?_
  refine w_iconst (v := 1) ok dX12_init_23 (by decide) ?_
  refine w_iconst (v := 0) ok dX12_init_24 (by decide) ?_
  refine x_iast (q := 1) ok dX12_init_25 s_132 (by decide) (by decide) (by decide) ?_
  have hZ5 : Zr (u2 (u2 I 132 0 0) 132 1 0) J (u2 R 130 1 (some 131)) (133) := Zr.putI hZ4 (by decide)
  refine w_dup ok dX12_init_26 rfl ?_
  refine w_iconst (v := 2) ok dX12_init_27 (by decide) ?_
  refine w_iconst (v := 0) ok dX12_init_28 (by decide) ?_
  refine x_iast (q := 2) ok dX12_init_29 s_132 (by decide) (by decide) (by decide) ?_
  have hZ6 : Zr (u2 (u2 (u2 I 132 0 0) 132 1 0) 132 2 0) J (u2 R 130 1 (some 131)) (133) := Zr.putI hZ5 (by decide)
  refine w_dup ok dX12_init_30 rfl ?_
  refine w_iconst (v := 3) ok dX12_init_31 (by decide) ?_
  refine w_iconst (v := 0) ok dX12_init_32 (by decide) ?_
  refine x_iast (q := 3) ok dX12_init_33 s_132 (by decide) (by decide) (by decide) ?_
  have hZ7 : Zr (u2 (u2 (u2 (u2 I 132 0 0) 132 1 0) 132 2 0) 132 3 0) J (u2 R 130 1 (some 131)) (133) := Zr.putI hZ6 (by decide)
  refine w_dup ok dX12_init_34 rfl ?_
  refine w_iconst (v := 4) ok dX12_init_35 (by decide) ?_
  refine w_iconst (v := 0) ok dX12_init_36 (by decide) ?_
  refine x_iast (q := 4) ok dX12_init_37 s_132 (by decide) (by decide) (by decide) ?_
  have hZ8 : Zr (u2 (u2 (u2 (u2 (u2 I 132 0 0) 132 1 0) 132 2 0) 132 3 0) 132 4 0) J (u2 R 130 1 (some 131)) (133) := Zr.putI hZ7 (by decide)
  refine w_dup ok dX12_init_38 rfl ?_
  refine w_iconst (v := 5) ok dX12_init_39 (by decide) ?_
  refine w_iconst (v := 0) ok dX12_init_40 (by decide) ?_
  refine x_iast (q := 5) ok dX12_init_41 s_132 (by decide) (by decide) (by decide) ?_
  have hZ9 : Zr (u2 (u2 (u2 (u2 (u2 (u2 I 132 0 0) 132 1 0) 132 2 0) 132 3 0) 132 4 0) 132 5 0) J (u2 R 130 1 (some 131)) (133) := Zr.putI hZ8 (by decide)
  show WK K 2 720 42 [(0, .ref 130)] [.ref 132, .ref 130] (S1_X12_init I J R) J (u2 R 130 1 (some 131)) (133) 0
  refine w_dup ok dX12_init_42 rfl ?_
  refine w_bipush (v := 6) ok dX12_init_43 (by decide) ?_
  refine w_iconst (v := 0) ok dX12_init_45 (by decide) ?_
  refine x_iast (q := 6) ok dX12_init_46 s_132 (by decide) (by decide) (by decide) ?_
  have hZ10 : Zr (u2 (S1_X12_init I J R) 132 6 0) J (u2 R 130 1 (some 131)) (133) := Zr.putI hZ9 (by decide)
  refine w_dup ok dX12_init_47 rfl ?_
  refine w_bipush (v := 7) ok dX12_init_48 (by decide) ?_
  refine w_bipush (v := 99) ok dX12_init_50 (by decide) ?_
  refine x_iast (q := 7) ok dX12_init_52 s_132 (by decide) (by decide) (by decide) ?_
  have hZ11 : Zr (u2 (u2 (S1_X12_init I J R) 132 6 0) 132 7 99) J (u2 R 130 1 (some 131)) (133) := Zr.putI hZ10 (by decide)
  refine w_dup ok dX12_init_53 rfl ?_
  refine w_bipush (v := 8) ok dX12_init_54 (by decide) ?_
  refine w_iconst (v := 0) ok dX12_init_56 (by decide) ?_
  refine x_iast (q := 8) ok dX12_init_57 s_132 (by decide) (by decide) (by decide) ?_
  have hZ12 : Zr (u2 (u2 (u2 (S1_X12_init I J R) 132 6 0) 132 7 99) 132 8 0) J (u2 R 130 1 (some 131)) (133) := Zr.putI hZ11 (by decide)
  refine w_dup ok dX12_init_58 rfl ?_
  refine w_bipush (v := 9) ok dX12_init_59 (by decide) ?_
  refine w_iconst (v := 0) ok dX12_init_61 (by decide) ?_
  refine x_iast (q := 9) ok dX12_init_62 s_132 (by decide) (by decide) (by decide) ?_
  have hZ13 : Zr (u2 (u2 (u2 (u2 (S1_X12_init I J R) 132 6 0) 132 7 99) 132 8 0) 132 9 0) J (u2 R 130 1 (some 131)) (133) := Zr.putI hZ12 (by decide)
  refine w_dup ok dX12_init_63 rfl ?_
  refine w_bipush (v := 10) ok dX12_init_64 (by decide) ?_
  refine w_iconst (v := 0) ok dX12_init_66 (by decide) ?_
  refine x_iast (q := 10) ok dX12_init_67 s_132 (by decide) (by decide) (by decide) ?_
  have hZ14 : Zr (u2 (u2 (u2 (u2 (u2 (S1_X12_init I J R) 132 6 0) 132 7 99) 132 8 0) 132 9 0) 132 10 0) J (u2 R 130 1 (some 131)) (133) := Zr.putI hZ13 (by decide)
  show WK K 2 720 68 [(0, .ref 130)] [.ref 132, .ref 130] (S2_X12_init I J R) J (u2 R 130 1 (some 131)) (133) 0
  refine w_dup ok dX12_init_68 rfl ?_
  refine w_bipush (v := 11) ok dX12_init_69 (by decide) ?_
  refine w_iconst (v := 0) ok dX12_init_71 (by decide) ?_
  refine x_iast (q := 11) ok dX12_init_72 s_132 (by decide) (by decide) (by decide) ?_
  have hZ15 : Zr (u2 (S2_X12_init I J R) 132 11 0) J (u2 R 130 1 (some 131)) (133) := Zr.putI hZ14 (by decide)
  refine w_dup ok dX12_init_73 rfl ?_
  refine w_bipush (v := 12) ok dX12_init_74 (by decide) ?_
  refine w_iconst (v := 0) ok dX12_init_76 (by decide) ?_
  refine x_iast (q := 12) ok dX12_init_77 s_132 (by decide) (by decide) (by decide) ?_
  have hZ16 : Zr (u2 (u2 (S2_X12_init I J R) 132 11 0) 132 12 0) J (u2 R 130 1 (some 131)) (133) := Zr.putI hZ15 (by decide)
  refine w_dup ok dX12_init_78 rfl ?_
  refine w_bipush (v := 13) ok dX12_init_79 (by decide) ?_
  refine w_iconst (v := 0) ok dX12_init_81 (by decide) ?_
  refine x_iast (q := 13) ok dX12_init_82 s_132 (by decide) (by decide) (by decide) ?_
  have hZ17 : Zr (u2 (u2 (u2 (S2_X12_init I J R) 132 11 0) 132 12 0) 132 13 0) J (u2 R 130 1 (some 131)) (133) := Zr.putI hZ16 (by decide)
  refine w_dup ok dX12_init_83 rfl ?_
  refine w_bipush (v := 14) ok dX12_init_84 (by decide) ?_
  refine w_iconst (v := 0) ok dX12_init_86 (by decide) ?_
  refine x_iast (q := 14) ok dX12_init_87 s_132 (by decide) (by decide) (by decide) ?_
  have hZ18 : Zr (u2 (u2 (u2 (u2 (S2_X12_init I J R) 132 11 0) 132 12 0) 132 13 0) 132 14 0) J (u2 R 130 1 (some 131)) (133) := Zr.putI hZ17 (by decide)
  show WK K 2 720 88 [(0, .ref 130)] [.ref 132, .ref 130] (S3_X12_init I J R) J (u2 R 130 1 (some 131)) (133) 0
  refine w_dup ok dX12_init_88 rfl ?_
  refine w_bipush (v := 15) ok dX12_init_89 (by decide) ?_
  refine w_iconst (v := 0) ok dX12_init_91 (by decide) ?_
  refine x_iast (q := 15) ok dX12_init_92 s_132 (by decide) (by decide) (by decide) ?_
  have hZ19 : Zr (u2 (S3_X12_init I J R) 132 15 0) J (u2 R 130 1 (some 131)) (133) := Zr.putI hZ18 (by decide)
  refine w_dup ok dX12_init_93 rfl ?_
  refine w_bipush (v := 16) ok dX12_init_94 (by decide) ?_
  refine w_iconst (v := 0) ok dX12_init_96 (by decide) ?_
  refine x_iast (q := 16) ok dX12_init_97 s_132 (by decide) (by decide) (by decide) ?_
  have hZ20 : Zr (u2 (u2 (S3_X12_init I J R) 132 15 0) 132 16 0) J (u2 R 130 1 (some 131)) (133) := Zr.putI hZ19 (by decide)
  refine w_dup ok dX12_init_98 rfl ?_
  refine w_bipush (v := 17) ok dX12_init_99 (by decide) ?_
  refine w_bipush (v := 99) ok dX12_init_101 (by decide) ?_
  refine x_iast (q := 17) ok dX12_init_103 s_132 (by decide) (by decide) (by decide) ?_
  have hZ21 : Zr (u2 (u2 (u2 (S3_X12_init I J R) 132 15 0) 132 16 0) 132 17 99) J (u2 R 130 1 (some 131)) (133) := Zr.putI hZ20 (by decide)
  refine w_dup ok dX12_init_104 rfl ?_
  refine w_bipush (v := 18) ok dX12_init_105 (by decide) ?_
  refine w_iconst (v := 0) ok dX12_init_107 (by decide) ?_
  refine x_iast (q := 18) ok dX12_init_108 s_132 (by decide) (by decide) (by decide) ?_
  have hZ22 : Zr (u2 (u2 (u2 (u2 (S3_X12_init I J R) 132 15 0) 132 16 0) 132 17 99) 132 18 0) J (u2 R 130 1 (some 131)) (133) := Zr.putI hZ21 (by decide)
  show WK K 2 720 109 [(0, .ref 130)] [.ref 132, .ref 130] (S4_X12_init I J R) J (u2 R 130 1 (some 131)) (133) 0
  refine w_dup ok dX12_init_109 rfl ?_
  refine w_bipush (v := 19) ok dX12_init_110 (by decide) ?_
  refine w_iconst (v := 0) ok dX12_init_112 (by decide) ?_
  refine x_iast (q := 19) ok dX12_init_113 s_132 (by decide) (by decide) (by decide) ?_
  have hZ23 : Zr (u2 (S4_X12_init I J R) 132 19 0) J (u2 R 130 1 (some 131)) (133) := Zr.putI hZ22 (by decide)
  refine w_putRF ok dX12_init_114 (ffX12_13 rfl rfl) (congrArg Prod.fst s_130) rfl (by decide) ?_
  have hZ24 : Zr (u2 (S4_X12_init I J R) 132 19 0) J (u2 (u2 R 130 1 (some 131)) 130 3 (some 132)) (133) := Zr.putR hZ23 (by decide)
  refine w_aload_n ok dX12_init_117 0 rfl ?_
  refine w_bipush (v := 12) ok dX12_init_118 (by decide) ?_
  refine w_newI (len := 12) ok dX12_init_120 rfl s_133 (by decide) (by decide) (by decide) (iT_1 84 (by decide +kernel) (by decide +kernel)) hZ24 (cap_of fin (by decide) (by decide)) ?_
  have hZ25 : Zr (u2 (S4_X12_init I J R) 132 19 0) J (u2 (u2 R 130 1 (some 131)) 130 3 (some 132)) (134) := Zr.up hZ24
  refine w_putRF ok dX12_init_122 (ffX12_16 rfl rfl) (congrArg Prod.fst s_130) rfl (by decide) ?_
  have hZ26 : Zr (u2 (S4_X12_init I J R) 132 19 0) J (u2 (u2 (u2 R 130 1 (some 131)) 130 3 (some 132)) 130 4 (some 133)) (134) := Zr.putR hZ25 (by decide)
  refine w_aload_n ok dX12_init_125 0 rfl ?_
  refine w_bipush (v := 12) ok dX12_init_126 (by decide) ?_
  refine w_newI (len := 12) ok dX12_init_128 rfl s_134 (by decide) (by decide) (by decide) (iT_1 84 (by decide +kernel) (by decide +kernel)) hZ26 (cap_of fin (by decide) (by decide)) ?_
  have hZ27 : Zr (u2 (S4_X12_init I J R) 132 19 0) J (u2 (u2 (u2 R 130 1 (some 131)) 130 3 (some 132)) 130 4 (some 133)) (135) := Zr.up hZ26
  refine w_putRF ok dX12_init_130 (ffX12_19 rfl rfl) (congrArg Prod.fst s_130) rfl (by decide) ?_
  have hZ28 : Zr (u2 (S4_X12_init I J R) 132 19 0) J (u2 (u2 (u2 (u2 R 130 1 (some 131)) 130 3 (some 132)) 130 4 (some 133)) 130 5 (some 134)) (135) := Zr.putR hZ27 (by decide)
  show WK K 4 744 133 [(0, .ref 130)] [] (u2 (S4_X12_init I J R) 132 19 0) J (S5_X12_init I J R) (135) 0
  refine w_aload_n ok dX12_init_133 0 rfl ?_
  refine w_bipush (v := 12) ok dX12_init_134 (by decide) ?_
  refine w_newI (len := 12) ok dX12_init_136 rfl s_135 (by decide) (by decide) (by decide) (iT_1 84 (by decide +kernel) (by decide +kernel)) hZ28 (cap_of fin (by decide) (by decide)) ?_
  have hZ29 : Zr (u2 (S4_X12_init I J R) 132 19 0) J (S5_X12_init I J R) (136) := Zr.up hZ28
  refine w_putRF ok dX12_init_138 (ffX12_22 rfl rfl) (congrArg Prod.fst s_130) rfl (by decide) ?_
  have hZ30 : Zr (u2 (S4_X12_init I J R) 132 19 0) J (u2 (S5_X12_init I J R) 130 6 (some 135)) (136) := Zr.putR hZ29 (by decide)
  refine w_aload_n ok dX12_init_141 0 rfl ?_
  refine w_bipush (v := 16) ok dX12_init_142 (by decide) ?_
  refine w_newI (len := 16) ok dX12_init_144 rfl s_136 (by decide) (by decide) (by decide) (iT_1 84 (by decide +kernel) (by decide +kernel)) hZ30 (cap_of fin (by decide) (by decide)) ?_
  have hZ31 : Zr (u2 (S4_X12_init I J R) 132 19 0) J (u2 (S5_X12_init I J R) 130 6 (some 135)) (137) := Zr.up hZ30
  refine w_putRF ok dX12_init_146 (ffX12_25 rfl rfl) (congrArg Prod.fst s_130) rfl (by decide) ?_
  have hZ32 : Zr (u2 (S4_X12_init I J R) 132 19 0) J (u2 (u2 (S5_X12_init I J R) 130 6 (some 135)) 130 7 (some 136)) (137) := Zr.putR hZ31 (by decide)
  refine w_aload_n ok dX12_init_149 0 rfl ?_
  refine w_bipush (v := 16) ok dX12_init_150 (by decide) ?_
  refine w_newI (len := 16) ok dX12_init_152 rfl s_137 (by decide) (by decide) (by decide) (iT_1 84 (by decide +kernel) (by decide +kernel)) hZ32 (cap_of fin (by decide) (by decide)) ?_
  have hZ33 : Zr (u2 (S4_X12_init I J R) 132 19 0) J (u2 (u2 (S5_X12_init I J R) 130 6 (some 135)) 130 7 (some 136)) (138) := Zr.up hZ32
  refine w_putRF ok dX12_init_154 (ffX12_28 rfl rfl) (congrArg Prod.fst s_130) rfl (by decide) ?_
  have hZ34 : Zr (u2 (S4_X12_init I J R) 132 19 0) J (u2 (u2 (u2 (S5_X12_init I J R) 130 6 (some 135)) 130 7 (some 136)) 130 8 (some 137)) (138) := Zr.putR hZ33 (by decide)
  show WK K 7 788 157 [(0, .ref 130)] [] (u2 (S4_X12_init I J R) 132 19 0) J (S6_X12_init I J R) (138) 0
  refine w_aload_n ok dX12_init_157 0 rfl ?_
  refine w_bipush (v := 16) ok dX12_init_158 (by decide) ?_
  refine w_newI (len := 16) ok dX12_init_160 rfl s_138 (by decide) (by decide) (by decide) (iT_1 84 (by decide +kernel) (by decide +kernel)) hZ34 (cap_of fin (by decide) (by decide)) ?_
  have hZ35 : Zr (u2 (S4_X12_init I J R) 132 19 0) J (S6_X12_init I J R) (139) := Zr.up hZ34
  refine w_putRF ok dX12_init_162 (ffX12_31 rfl rfl) (congrArg Prod.fst s_130) rfl (by decide) ?_
  have hZ36 : Zr (u2 (S4_X12_init I J R) 132 19 0) J (u2 (S6_X12_init I J R) 130 9 (some 138)) (139) := Zr.putR hZ35 (by decide)
  refine w_aload_n ok dX12_init_165 0 rfl ?_
  refine w_bipush (v := 96) ok dX12_init_166 (by decide) ?_
  refine w_newI (len := 96) ok dX12_init_168 rfl s_139 (by decide) (by decide) (by decide) (iT_1 84 (by decide +kernel) (by decide +kernel)) hZ36 (cap_of fin (by decide) (by decide)) ?_
  have hZ37 : Zr (u2 (S4_X12_init I J R) 132 19 0) J (u2 (S6_X12_init I J R) 130 9 (some 138)) (140) := Zr.up hZ36
  refine w_putRF ok dX12_init_170 (ffX12_34 rfl rfl) (congrArg Prod.fst s_130) rfl (by decide) ?_
  have hZ38 : Zr (u2 (S4_X12_init I J R) 132 19 0) J (u2 (u2 (S6_X12_init I J R) 130 9 (some 138)) 130 10 (some 139)) (140) := Zr.putR hZ37 (by decide)
  refine w_aload_n ok dX12_init_173 0 rfl ?_
  refine w_bipush (v := 8) ok dX12_init_174 (by decide) ?_
  refine w_newI (len := 8) ok dX12_init_176 rfl s_140 (by decide) (by decide) (by decide) (iT_1 84 (by decide +kernel) (by decide +kernel)) hZ38 (cap_of fin (by decide) (by decide)) ?_
  have hZ39 : Zr (u2 (S4_X12_init I J R) 132 19 0) J (u2 (u2 (S6_X12_init I J R) 130 9 (some 138)) 130 10 (some 139)) (141) := Zr.up hZ38
  refine w_putRF ok dX12_init_178 (ffX12_37 rfl rfl) (congrArg Prod.fst s_130) rfl (by decide) ?_
  have hZ40 : Zr (u2 (S4_X12_init I J R) 132 19 0) J (u2 (u2 (u2 (S6_X12_init I J R) 130 9 (some 138)) 130 10 (some 139)) 130 11 (some 140)) (141) := Zr.putR hZ39 (by decide)
  show WK K 10 908 181 [(0, .ref 130)] [] (u2 (S4_X12_init I J R) 132 19 0) J (S7_X12_init I J R) (141) 0
  refine w_aload_n ok dX12_init_181 0 rfl ?_
  refine w_bipush (v := 8) ok dX12_init_182 (by decide) ?_
  refine w_newI (len := 8) ok dX12_init_184 rfl s_141 (by decide) (by decide) (by decide) (iT_1 84 (by decide +kernel) (by decide +kernel)) hZ40 (cap_of fin (by decide) (by decide)) ?_
  have hZ41 : Zr (u2 (S4_X12_init I J R) 132 19 0) J (S7_X12_init I J R) (142) := Zr.up hZ40
  refine w_putRF ok dX12_init_186 (ffX12_40 rfl rfl) (congrArg Prod.fst s_130) rfl (by decide) ?_
  have hZ42 : Zr (u2 (S4_X12_init I J R) 132 19 0) J (u2 (S7_X12_init I J R) 130 12 (some 141)) (142) := Zr.putR hZ41 (by decide)
  refine w_aload_n ok dX12_init_189 0 rfl ?_
  refine w_bipush (v := 8) ok dX12_init_190 (by decide) ?_
  refine w_newI (len := 8) ok dX12_init_192 rfl s_142 (by decide) (by decide) (by decide) (iT_1 84 (by decide +kernel) (by decide +kernel)) hZ42 (cap_of fin (by decide) (by decide)) ?_
  have hZ43 : Zr (u2 (S4_X12_init I J R) 132 19 0) J (u2 (S7_X12_init I J R) 130 12 (some 141)) (143) := Zr.up hZ42
  refine w_putRF ok dX12_init_194 (ffX12_43 rfl rfl) (congrArg Prod.fst s_130) rfl (by decide) ?_
  have hZ44 : Zr (u2 (S4_X12_init I J R) 132 19 0) J (u2 (u2 (S7_X12_init I J R) 130 12 (some 141)) 130 13 (some 142)) (143) := Zr.putR hZ43 (by decide)
  refine w_aload_n ok dX12_init_197 0 rfl ?_
  refine w_bipush (v := 8) ok dX12_init_198 (by decide) ?_
  refine w_newI (len := 8) ok dX12_init_200 rfl s_143 (by decide) (by decide) (by decide) (iT_1 84 (by decide +kernel) (by decide +kernel)) hZ44 (cap_of fin (by decide) (by decide)) ?_
  have hZ45 : Zr (u2 (S4_X12_init I J R) 132 19 0) J (u2 (u2 (S7_X12_init I J R) 130 12 (some 141)) 130 13 (some 142)) (144) := Zr.up hZ44
  refine w_putRF ok dX12_init_202 (ffX12_46 rfl rfl) (congrArg Prod.fst s_130) rfl (by decide) ?_
  have hZ46 : Zr (u2 (S4_X12_init I J R) 132 19 0) J (u2 (u2 (u2 (S7_X12_init I J R) 130 12 (some 141)) 130 13 (some 142)) 130 14 (some 143)) (144) := Zr.putR hZ45 (by decide)
  show WK K 13 932 205 [(0, .ref 130)] [] (u2 (S4_X12_init I J R) 132 19 0) J (S8_X12_init I J R) (144) 0
  refine w_aload_n ok dX12_init_205 0 rfl ?_
  refine w_bipush (v := 8) ok dX12_init_206 (by decide) ?_
  refine w_newI (len := 8) ok dX12_init_208 rfl s_144 (by decide) (by decide) (by decide) (iT_1 84 (by decide +kernel) (by decide +kernel)) hZ46 (cap_of fin (by decide) (by decide)) ?_
  have hZ47 : Zr (u2 (S4_X12_init I J R) 132 19 0) J (S8_X12_init I J R) (145) := Zr.up hZ46
  refine w_putRF ok dX12_init_210 (ffX12_49 rfl rfl) (congrArg Prod.fst s_130) rfl (by decide) ?_
  have hZ48 : Zr (u2 (S4_X12_init I J R) 132 19 0) J (u2 (S8_X12_init I J R) 130 15 (some 144)) (145) := Zr.putR hZ47 (by decide)
  refine w_aload_n ok dX12_init_213 0 rfl ?_
  refine w_bipush (v := 8) ok dX12_init_214 (by decide) ?_
  refine w_newI (len := 8) ok dX12_init_216 rfl s_145 (by decide) (by decide) (by decide) (iT_1 84 (by decide +kernel) (by decide +kernel)) hZ48 (cap_of fin (by decide) (by decide)) ?_
  have hZ49 : Zr (u2 (S4_X12_init I J R) 132 19 0) J (u2 (S8_X12_init I J R) 130 15 (some 144)) (146) := Zr.up hZ48
  refine w_putRF ok dX12_init_218 (ffX12_52 rfl rfl) (congrArg Prod.fst s_130) rfl (by decide) ?_
  have hZ50 : Zr (u2 (S4_X12_init I J R) 132 19 0) J (u2 (u2 (S8_X12_init I J R) 130 15 (some 144)) 130 16 (some 145)) (146) := Zr.putR hZ49 (by decide)
  refine w_aload_n ok dX12_init_221 0 rfl ?_
  refine w_bipush (v := 6) ok dX12_init_222 (by decide) ?_
  refine w_newI (len := 6) ok dX12_init_224 rfl s_146 (by decide) (by decide) (by decide) (iT_1 84 (by decide +kernel) (by decide +kernel)) hZ50 (cap_of fin (by decide) (by decide)) ?_
  have hZ51 : Zr (u2 (S4_X12_init I J R) 132 19 0) J (u2 (u2 (S8_X12_init I J R) 130 15 (some 144)) 130 16 (some 145)) (147) := Zr.up hZ50
  refine w_putRF ok dX12_init_226 (ffX12_55 rfl rfl) (congrArg Prod.fst s_130) rfl (by decide) ?_
  have hZ52 : Zr (u2 (S4_X12_init I J R) 132 19 0) J (u2 (u2 (u2 (S8_X12_init I J R) 130 15 (some 144)) 130 16 (some 145)) 130 17 (some 146)) (147) := Zr.putR hZ51 (by decide)
  show WK K 16 954 229 [(0, .ref 130)] [] (u2 (S4_X12_init I J R) 132 19 0) J (S9_X12_init I J R) (147) 0
  refine w_aload_n ok dX12_init_229 0 rfl ?_
  refine w_bipush (v := 6) ok dX12_init_230 (by decide) ?_
  refine w_newI (len := 6) ok dX12_init_232 rfl s_147 (by decide) (by decide) (by decide) (iT_1 84 (by decide +kernel) (by decide +kernel)) hZ52 (cap_of fin (by decide) (by decide)) ?_
  have hZ53 : Zr (u2 (S4_X12_init I J R) 132 19 0) J (S9_X12_init I J R) (148) := Zr.up hZ52
  refine w_putRF ok dX12_init_234 (ffX12_58 rfl rfl) (congrArg Prod.fst s_130) rfl (by decide) ?_
  have hZ54 : Zr (u2 (S4_X12_init I J R) 132 19 0) J (u2 (S9_X12_init I J R) 130 18 (some 147)) (148) := Zr.putR hZ53 (by decide)
  refine w_aload_n ok dX12_init_237 0 rfl ?_
  refine w_bipush (v := 6) ok dX12_init_238 (by decide) ?_
  refine w_newI (len := 6) ok dX12_init_240 rfl s_148 (by decide) (by decide) (by decide) (iT_1 84 (by decide +kernel) (by decide +kernel)) hZ54 (cap_of fin (by decide) (by decide)) ?_
  have hZ55 : Zr (u2 (S4_X12_init I J R) 132 19 0) J (u2 (S9_X12_init I J R) 130 18 (some 147)) (149) := Zr.up hZ54
  refine w_putRF ok dX12_init_242 (ffX12_61 rfl rfl) (congrArg Prod.fst s_130) rfl (by decide) ?_
  have hZ56 : Zr (u2 (S4_X12_init I J R) 132 19 0) J (u2 (u2 (S9_X12_init I J R) 130 18 (some 147)) 130 19 (some 148)) (149) := Zr.putR hZ55 (by decide)
  refine w_aload_n ok dX12_init_245 0 rfl ?_
  refine w_bipush (v := 6) ok dX12_init_246 (by decide) ?_
  refine w_newI (len := 6) ok dX12_init_248 rfl s_149 (by decide) (by decide) (by decide) (iT_1 84 (by decide +kernel) (by decide +kernel)) hZ56 (cap_of fin (by decide) (by decide)) ?_
  have hZ57 : Zr (u2 (S4_X12_init I J R) 132 19 0) J (u2 (u2 (S9_X12_init I J R) 130 18 (some 147)) 130 19 (some 148)) (150) := Zr.up hZ56
  refine w_putRF ok dX12_init_250 (ffX12_64 rfl rfl) (congrArg Prod.fst s_130) rfl (by decide) ?_
  have hZ58 : Zr (u2 (S4_X12_init I J R) 132 19 0) J (u2 (u2 (u2 (S9_X12_init I J R) 130 18 (some 147)) 130 19 (some 148)) 130 20 (some 149)) (150) := Zr.putR hZ57 (by decide)
  show WK K 19 972 253 [(0, .ref 130)] [] (u2 (S4_X12_init I J R) 132 19 0) J (S10_X12_init I J R) (150) 0
  refine w_aload_n ok dX12_init_253 0 rfl ?_
  refine w_sipush (v := 128) ok dX12_init_254 (by decide) ?_
  refine w_newI (len := 128) ok dX12_init_257 rfl s_150 (by decide) (by decide) (by decide) (iT_1 84 (by decide +kernel) (by decide +kernel)) hZ58 (cap_of fin (by decide) (by decide)) ?_
  have hZ59 : Zr (u2 (S4_X12_init I J R) 132 19 0) J (S10_X12_init I J R) (151) := Zr.up hZ58
  refine w_putRF ok dX12_init_259 (ffX12_67 rfl rfl) (congrArg Prod.fst s_130) rfl (by decide) ?_
  have hZ60 : Zr (u2 (S4_X12_init I J R) 132 19 0) J (u2 (S10_X12_init I J R) 130 21 (some 150)) (151) := Zr.putR hZ59 (by decide)
  refine w_aload_n ok dX12_init_262 0 rfl ?_
  refine w_sipush (v := 128) ok dX12_init_263 (by decide) ?_
  refine w_newI (len := 128) ok dX12_init_266 rfl s_151 (by decide) (by decide) (by decide) (iT_1 84 (by decide +kernel) (by decide +kernel)) hZ60 (cap_of fin (by decide) (by decide)) ?_
  have hZ61 : Zr (u2 (S4_X12_init I J R) 132 19 0) J (u2 (S10_X12_init I J R) 130 21 (some 150)) (152) := Zr.up hZ60
  refine w_putRF ok dX12_init_268 (ffX12_70 rfl rfl) (congrArg Prod.fst s_130) rfl (by decide) ?_
  have hZ62 : Zr (u2 (S4_X12_init I J R) 132 19 0) J (u2 (u2 (S10_X12_init I J R) 130 21 (some 150)) 130 22 (some 151)) (152) := Zr.putR hZ61 (by decide)
  refine w_aload_n ok dX12_init_271 0 rfl ?_
  refine w_iconst (v := (-1)) ok dX12_init_272 (by decide) ?_
  refine w_putI ok dX12_init_273 (fwX12_73 rfl) (congrArg Prod.fst s_130) rfl (by decide) ?_
  have hZ63 : Zr (u2 (u2 (S4_X12_init I J R) 132 19 0) 130 33 (-1)) J (u2 (u2 (S10_X12_init I J R) 130 21 (some 150)) 130 22 (some 151)) (152) := Zr.putI hZ62 (by decide)
  refine w_aload_n ok dX12_init_276 0 rfl ?_
  refine w_bipush (v := 7) ok dX12_init_277 (by decide) ?_
  refine w_newL (len := 7) ok dX12_init_279 rfl s_152 (by decide) (by decide) (by decide) (iT_1 109 (by decide +kernel) (by decide +kernel)) hZ63 (cap_of fin (by decide) (by decide)) ?_
  have hZ64 : Zr (u2 (u2 (S4_X12_init I J R) 132 19 0) 130 33 (-1)) J (u2 (u2 (S10_X12_init I J R) 130 21 (some 150)) 130 22 (some 151)) (153) := Zr.up hZ63
  refine w_putRF ok dX12_init_281 (ffX12_77 rfl rfl) (congrArg Prod.fst s_130) rfl (by decide) ?_
  have hZ65 : Zr (u2 (u2 (S4_X12_init I J R) 132 19 0) 130 33 (-1)) J (u2 (u2 (u2 (S10_X12_init I J R) 130 21 (some 150)) 130 22 (some 151)) 130 36 (some 152)) (153) := Zr.putR hZ64 (by decide)
  show WK K 22 1235 284 [(0, .ref 130)] [] (u2 (u2 (S4_X12_init I J R) 132 19 0) 130 33 (-1)) J (S11_X12_init I J R) (153) 0
  refine w_aload_n ok dX12_init_284 0 rfl ?_
  refine w_bipush (v := 64) ok dX12_init_285 (by decide) ?_
  refine w_newL (len := 64) ok dX12_init_287 rfl s_153 (by decide) (by decide) (by decide) (iT_1 109 (by decide +kernel) (by decide +kernel)) hZ65 (cap_of fin (by decide) (by decide)) ?_
  have hZ66 : Zr (u2 (u2 (S4_X12_init I J R) 132 19 0) 130 33 (-1)) J (S11_X12_init I J R) (154) := Zr.up hZ65
  refine w_putRF ok dX12_init_289 (ffX12_81 rfl rfl) (congrArg Prod.fst s_130) rfl (by decide) ?_
  have hZ67 : Zr (u2 (u2 (S4_X12_init I J R) 132 19 0) 130 33 (-1)) J (u2 (S11_X12_init I J R) 130 37 (some 153)) (154) := Zr.putR hZ66 (by decide)
  refine w_aload_n ok dX12_init_292 0 rfl ?_
  refine w_bipush (v := 23) ok dX12_init_293 (by decide) ?_
  refine w_newI (len := 23) ok dX12_init_295 rfl s_154 (by decide) (by decide) (by decide) (iT_1 84 (by decide +kernel) (by decide +kernel)) hZ67 (cap_of fin (by decide) (by decide)) ?_
  have hZ68 : Zr (u2 (u2 (S4_X12_init I J R) 132 19 0) 130 33 (-1)) J (u2 (S11_X12_init I J R) 130 37 (some 153)) (155) := Zr.up hZ67
  refine w_putRF ok dX12_init_297 (ffX12_84 rfl rfl) (congrArg Prod.fst s_130) rfl (by decide) ?_
  have hZ69 : Zr (u2 (u2 (S4_X12_init I J R) 132 19 0) 130 33 (-1)) J (u2 (u2 (S11_X12_init I J R) 130 37 (some 153)) 130 39 (some 154)) (155) := Zr.putR hZ68 (by decide)
  refine w_aload_n ok dX12_init_300 0 rfl ?_
  refine w_bipush (v := 23) ok dX12_init_301 (by decide) ?_
  refine w_newI (len := 23) ok dX12_init_303 rfl s_155 (by decide) (by decide) (by decide) (iT_1 84 (by decide +kernel) (by decide +kernel)) hZ69 (cap_of fin (by decide) (by decide)) ?_
  have hZ70 : Zr (u2 (u2 (S4_X12_init I J R) 132 19 0) 130 33 (-1)) J (u2 (u2 (S11_X12_init I J R) 130 37 (some 153)) 130 39 (some 154)) (156) := Zr.up hZ69
  refine w_putRF ok dX12_init_305 (ffX12_87 rfl rfl) (congrArg Prod.fst s_130) rfl (by decide) ?_
  have hZ71 : Zr (u2 (u2 (S4_X12_init I J R) 132 19 0) 130 33 (-1)) J (u2 (u2 (u2 (S11_X12_init I J R) 130 37 (some 153)) 130 39 (some 154)) 130 40 (some 155)) (156) := Zr.putR hZ70 (by decide)
  show WK K 25 1345 308 [(0, .ref 130)] [] (u2 (u2 (S4_X12_init I J R) 132 19 0) 130 33 (-1)) J (S12_X12_init I J R) (156) 0
  refine w_aload_n ok dX12_init_308 0 rfl ?_
  refine w_bipush (v := 23) ok dX12_init_309 (by decide) ?_
  refine w_newI (len := 23) ok dX12_init_311 rfl s_156 (by decide) (by decide) (by decide) (iT_1 84 (by decide +kernel) (by decide +kernel)) hZ71 (cap_of fin (by decide) (by decide)) ?_
  have hZ72 : Zr (u2 (u2 (S4_X12_init I J R) 132 19 0) 130 33 (-1)) J (S12_X12_init I J R) (157) := Zr.up hZ71
  refine w_putRF ok dX12_init_313 (ffX12_90 rfl rfl) (congrArg Prod.fst s_130) rfl (by decide) ?_
  have hZ73 : Zr (u2 (u2 (S4_X12_init I J R) 132 19 0) 130 33 (-1)) J (u2 (S12_X12_init I J R) 130 41 (some 156)) (157) := Zr.putR hZ72 (by decide)
  refine w_aload_n ok dX12_init_316 0 rfl ?_
  refine w_bipush (v := 23) ok dX12_init_317 (by decide) ?_
  refine w_newI (len := 23) ok dX12_init_319 rfl s_157 (by decide) (by decide) (by decide) (iT_1 84 (by decide +kernel) (by decide +kernel)) hZ73 (cap_of fin (by decide) (by decide)) ?_
  have hZ74 : Zr (u2 (u2 (S4_X12_init I J R) 132 19 0) 130 33 (-1)) J (u2 (S12_X12_init I J R) 130 41 (some 156)) (158) := Zr.up hZ73
  refine w_putRF ok dX12_init_321 (ffX12_93 rfl rfl) (congrArg Prod.fst s_130) rfl (by decide) ?_
  have hZ75 : Zr (u2 (u2 (S4_X12_init I J R) 132 19 0) 130 33 (-1)) J (u2 (u2 (S12_X12_init I J R) 130 41 (some 156)) 130 42 (some 157)) (158) := Zr.putR hZ74 (by decide)
  refine w_aload_n ok dX12_init_324 0 rfl ?_
  refine w_bipush (v := 23) ok dX12_init_325 (by decide) ?_
  refine w_newI (len := 23) ok dX12_init_327 rfl s_158 (by decide) (by decide) (by decide) (iT_1 84 (by decide +kernel) (by decide +kernel)) hZ75 (cap_of fin (by decide) (by decide)) ?_
  have hZ76 : Zr (u2 (u2 (S4_X12_init I J R) 132 19 0) 130 33 (-1)) J (u2 (u2 (S12_X12_init I J R) 130 41 (some 156)) 130 42 (some 157)) (159) := Zr.up hZ75
  refine w_putRF ok dX12_init_329 (ffX12_96 rfl rfl) (congrArg Prod.fst s_130) rfl (by decide) ?_
  have hZ77 : Zr (u2 (u2 (S4_X12_init I J R) 132 19 0) 130 33 (-1)) J (u2 (u2 (u2 (S12_X12_init I J R) 130 41 (some 156)) 130 42 (some 157)) 130 43 (some 158)) (159) := Zr.putR hZ76 (by decide)
  show WK K 28 1414 332 [(0, .ref 130)] [] (u2 (u2 (S4_X12_init I J R) 132 19 0) 130 33 (-1)) J (S13_X12_init I J R) (159) 0
  refine w_aload_n ok dX12_init_332 0 rfl ?_
  refine w_bipush (v := 23) ok dX12_init_333 (by decide) ?_
  refine w_newI (len := 23) ok dX12_init_335 rfl s_159 (by decide) (by decide) (by decide) (iT_1 84 (by decide +kernel) (by decide +kernel)) hZ77 (cap_of fin (by decide) (by decide)) ?_
  have hZ78 : Zr (u2 (u2 (S4_X12_init I J R) 132 19 0) 130 33 (-1)) J (S13_X12_init I J R) (160) := Zr.up hZ77
  refine w_putRF ok dX12_init_337 (ffX12_99 rfl rfl) (congrArg Prod.fst s_130) rfl (by decide) ?_
  have hZ79 : Zr (u2 (u2 (S4_X12_init I J R) 132 19 0) 130 33 (-1)) J (u2 (S13_X12_init I J R) 130 44 (some 159)) (160) := Zr.putR hZ78 (by decide)
  refine w_aload_n ok dX12_init_340 0 rfl ?_
  refine w_sipush (v := 138) ok dX12_init_341 (by decide) ?_
  refine w_newI (len := 138) ok dX12_init_344 rfl s_160 (by decide) (by decide) (by decide) (iT_1 84 (by decide +kernel) (by decide +kernel)) hZ79 (cap_of fin (by decide) (by decide)) ?_
  have hZ80 : Zr (u2 (u2 (S4_X12_init I J R) 132 19 0) 130 33 (-1)) J (u2 (S13_X12_init I J R) 130 44 (some 159)) (161) := Zr.up hZ79
  refine w_putRF ok dX12_init_346 (ffX12_102 rfl rfl) (congrArg Prod.fst s_130) rfl (by decide) ?_
  have hZ81 : Zr (u2 (u2 (S4_X12_init I J R) 132 19 0) 130 33 (-1)) J (u2 (u2 (S13_X12_init I J R) 130 44 (some 159)) 130 45 (some 160)) (161) := Zr.putR hZ80 (by decide)
  refine w_aload_n ok dX12_init_349 0 rfl ?_
  refine w_sipush (v := 138) ok dX12_init_350 (by decide) ?_
  refine w_newI (len := 138) ok dX12_init_353 rfl s_161 (by decide) (by decide) (by decide) (iT_1 84 (by decide +kernel) (by decide +kernel)) hZ81 (cap_of fin (by decide) (by decide)) ?_
  have hZ82 : Zr (u2 (u2 (S4_X12_init I J R) 132 19 0) 130 33 (-1)) J (u2 (u2 (S13_X12_init I J R) 130 44 (some 159)) 130 45 (some 160)) (162) := Zr.up hZ81
  refine w_putRF ok dX12_init_355 (ffX12_105 rfl rfl) (congrArg Prod.fst s_130) rfl (by decide) ?_
  have hZ83 : Zr (u2 (u2 (S4_X12_init I J R) 132 19 0) 130 33 (-1)) J (u2 (u2 (u2 (S13_X12_init I J R) 130 44 (some 159)) 130 45 (some 160)) 130 46 (some 161)) (162) := Zr.putR hZ82 (by decide)
  show WK K 31 1713 358 [(0, .ref 130)] [] (u2 (u2 (S4_X12_init I J R) 132 19 0) 130 33 (-1)) J (S14_X12_init I J R) (162) 0
  refine w_aload_n ok dX12_init_358 0 rfl ?_
  refine w_sipush (v := 184) ok dX12_init_359 (by decide) ?_
  refine w_newI (len := 184) ok dX12_init_362 rfl s_162 (by decide) (by decide) (by decide) (iT_1 84 (by decide +kernel) (by decide +kernel)) hZ83 (cap_of fin (by decide) (by decide)) ?_
  have hZ84 : Zr (u2 (u2 (S4_X12_init I J R) 132 19 0) 130 33 (-1)) J (S14_X12_init I J R) (163) := Zr.up hZ83
  refine w_putRF ok dX12_init_364 (ffX12_108 rfl rfl) (congrArg Prod.fst s_130) rfl (by decide) ?_
  have hZ85 : Zr (u2 (u2 (S4_X12_init I J R) 132 19 0) 130 33 (-1)) J (u2 (S14_X12_init I J R) 130 47 (some 162)) (163) := Zr.putR hZ84 (by decide)
  refine w_aload_n ok dX12_init_367 0 rfl ?_
  refine w_sipush (v := 184) ok dX12_init_368 (by decide) ?_
  refine w_newI (len := 184) ok dX12_init_371 rfl s_163 (by decide) (by decide) (by decide) (iT_1 84 (by decide +kernel) (by decide +kernel)) hZ85 (cap_of fin (by decide) (by decide)) ?_
  have hZ86 : Zr (u2 (u2 (S4_X12_init I J R) 132 19 0) 130 33 (-1)) J (u2 (S14_X12_init I J R) 130 47 (some 162)) (164) := Zr.up hZ85
  refine w_putRF ok dX12_init_373 (ffX12_111 rfl rfl) (congrArg Prod.fst s_130) rfl (by decide) ?_
  have hZ87 : Zr (u2 (u2 (S4_X12_init I J R) 132 19 0) 130 33 (-1)) J (u2 (u2 (S14_X12_init I J R) 130 47 (some 162)) 130 48 (some 163)) (164) := Zr.putR hZ86 (by decide)
  refine w_aload_n ok dX12_init_376 0 rfl ?_
  refine w_sipush (v := 184) ok dX12_init_377 (by decide) ?_
  refine w_newI (len := 184) ok dX12_init_380 rfl s_164 (by decide) (by decide) (by decide) (iT_1 84 (by decide +kernel) (by decide +kernel)) hZ87 (cap_of fin (by decide) (by decide)) ?_
  have hZ88 : Zr (u2 (u2 (S4_X12_init I J R) 132 19 0) 130 33 (-1)) J (u2 (u2 (S14_X12_init I J R) 130 47 (some 162)) 130 48 (some 163)) (165) := Zr.up hZ87
  refine w_putRF ok dX12_init_382 (ffX12_114 rfl rfl) (congrArg Prod.fst s_130) rfl (by decide) ?_
  have hZ89 : Zr (u2 (u2 (S4_X12_init I J R) 132 19 0) 130 33 (-1)) J (u2 (u2 (u2 (S14_X12_init I J R) 130 47 (some 162)) 130 48 (some 163)) 130 49 (some 164)) (165) := Zr.putR hZ88 (by decide)
  show WK K 34 2265 385 [(0, .ref 130)] [] (u2 (u2 (S4_X12_init I J R) 132 19 0) 130 33 (-1)) J (S15_X12_init I J R) (165) 0
  refine w_aload_n ok dX12_init_385 0 rfl ?_
  refine w_sipush (v := 1104) ok dX12_init_386 (by decide) ?_
  refine w_newI (len := 1104) ok dX12_init_389 rfl s_165 (by decide) (by decide) (by decide) (iT_1 84 (by decide +kernel) (by decide +kernel)) hZ89 (cap_of fin (by decide) (by decide)) ?_
  have hZ90 : Zr (u2 (u2 (S4_X12_init I J R) 132 19 0) 130 33 (-1)) J (S15_X12_init I J R) (166) := Zr.up hZ89
  refine w_putRF ok dX12_init_391 (ffX12_117 rfl rfl) (congrArg Prod.fst s_130) rfl (by decide) ?_
  have hZ91 : Zr (u2 (u2 (S4_X12_init I J R) 132 19 0) 130 33 (-1)) J (u2 (S15_X12_init I J R) 130 50 (some 165)) (166) := Zr.putR hZ90 (by decide)
  refine w_aload_n ok dX12_init_394 0 rfl ?_
  refine w_bipush (v := 92) ok dX12_init_395 (by decide) ?_
  refine w_newI (len := 92) ok dX12_init_397 rfl s_166 (by decide) (by decide) (by decide) (iT_1 84 (by decide +kernel) (by decide +kernel)) hZ91 (cap_of fin (by decide) (by decide)) ?_
  have hZ92 : Zr (u2 (u2 (S4_X12_init I J R) 132 19 0) 130 33 (-1)) J (u2 (S15_X12_init I J R) 130 50 (some 165)) (167) := Zr.up hZ91
  refine w_putRF ok dX12_init_399 (ffX12_120 rfl rfl) (congrArg Prod.fst s_130) rfl (by decide) ?_
  have hZ93 : Zr (u2 (u2 (S4_X12_init I J R) 132 19 0) 130 33 (-1)) J (u2 (u2 (S15_X12_init I J R) 130 50 (some 165)) 130 51 (some 166)) (167) := Zr.putR hZ92 (by decide)
  refine w_aload_n ok dX12_init_402 0 rfl ?_
  refine w_bipush (v := 92) ok dX12_init_403 (by decide) ?_
  refine w_newI (len := 92) ok dX12_init_405 rfl s_167 (by decide) (by decide) (by decide) (iT_1 84 (by decide +kernel) (by decide +kernel)) hZ93 (cap_of fin (by decide) (by decide)) ?_
  have hZ94 : Zr (u2 (u2 (S4_X12_init I J R) 132 19 0) 130 33 (-1)) J (u2 (u2 (S15_X12_init I J R) 130 50 (some 165)) 130 51 (some 166)) (168) := Zr.up hZ93
  refine w_putRF ok dX12_init_407 (ffX12_123 rfl rfl) (congrArg Prod.fst s_130) rfl (by decide) ?_
  have hZ95 : Zr (u2 (u2 (S4_X12_init I J R) 132 19 0) 130 33 (-1)) J (u2 (u2 (u2 (S15_X12_init I J R) 130 50 (some 165)) 130 51 (some 166)) 130 52 (some 167)) (168) := Zr.putR hZ94 (by decide)
  show WK K 37 3553 410 [(0, .ref 130)] [] (u2 (u2 (S4_X12_init I J R) 132 19 0) 130 33 (-1)) J (S16_X12_init I J R) (168) 0
  refine w_aload_n ok dX12_init_410 0 rfl ?_
  refine w_iconst (v := (-1)) ok dX12_init_411 (by decide) ?_
  refine w_putI ok dX12_init_412 (fwX12_126 rfl) (congrArg Prod.fst s_130) rfl (by decide) ?_
  have hZ96 : Zr (u2 (u2 (u2 (S4_X12_init I J R) 132 19 0) 130 33 (-1)) 130 56 (-1)) J (S16_X12_init I J R) (168) := Zr.putI hZ95 (by decide)
  refine w_aload_n ok dX12_init_415 0 rfl ?_
  refine w_iconst (v := (-1)) ok dX12_init_416 (by decide) ?_
  refine w_putI ok dX12_init_417 (fwX12_129 rfl) (congrArg Prod.fst s_130) rfl (by decide) ?_
  have hZ97 : Zr (u2 (u2 (u2 (u2 (S4_X12_init I J R) 132 19 0) 130 33 (-1)) 130 56 (-1)) 130 57 (-1)) J (S16_X12_init I J R) (168) := Zr.putI hZ96 (by decide)
  show WK K 37 3553 420 [(0, .ref 130)] [] (S17_X12_init I J R) J (S16_X12_init I J R) (168) 0
  refine w_aload_n ok dX12_init_420 0 rfl ?_
  refine w_bipush (v := 6) ok dX12_init_421 (by decide) ?_
  refine w_newI (len := 6) ok dX12_init_423 rfl s_168 (by decide) (by decide) (by decide) (iT_1 84 (by decide +kernel) (by decide +kernel)) hZ97 (cap_of fin (by decide) (by decide)) ?_
  have hZ98 : Zr (S17_X12_init I J R) J (S16_X12_init I J R) (169) := Zr.up hZ97
  refine w_putRF ok dX12_init_425 (ffX12_132 rfl rfl) (congrArg Prod.fst s_130) rfl (by decide) ?_
  have hZ99 : Zr (S17_X12_init I J R) J (u2 (S16_X12_init I J R) 130 60 (some 168)) (169) := Zr.putR hZ98 (by decide)
  refine w_aload_n ok dX12_init_428 0 rfl ?_
  refine w_bipush (v := 6) ok dX12_init_429 (by decide) ?_
  refine w_newI (len := 6) ok dX12_init_431 rfl s_169 (by decide) (by decide) (by decide) (iT_1 84 (by decide +kernel) (by decide +kernel)) hZ99 (cap_of fin (by decide) (by decide)) ?_
  have hZ100 : Zr (S17_X12_init I J R) J (u2 (S16_X12_init I J R) 130 60 (some 168)) (170) := Zr.up hZ99
  refine w_putRF ok dX12_init_433 (ffX12_135 rfl rfl) (congrArg Prod.fst s_130) rfl (by decide) ?_
  have hZ101 : Zr (S17_X12_init I J R) J (u2 (u2 (S16_X12_init I J R) 130 60 (some 168)) 130 61 (some 169)) (170) := Zr.putR hZ100 (by decide)
  refine w_aload_n ok dX12_init_436 0 rfl ?_
  refine w_iconst (v := 4) ok dX12_init_437 (by decide) ?_
  refine w_newI (len := 4) ok dX12_init_438 rfl s_170 (by decide) (by decide) (by decide) (iT_1 84 (by decide +kernel) (by decide +kernel)) hZ101 (cap_of fin (by decide) (by decide)) ?_
  have hZ102 : Zr (S17_X12_init I J R) J (u2 (u2 (S16_X12_init I J R) 130 60 (some 168)) 130 61 (some 169)) (171) := Zr.up hZ101
  refine w_putRF ok dX12_init_440 (ffX12_138 rfl rfl) (congrArg Prod.fst s_130) rfl (by decide) ?_
  have hZ103 : Zr (S17_X12_init I J R) J (u2 (u2 (u2 (S16_X12_init I J R) 130 60 (some 168)) 130 61 (some 169)) 130 63 (some 170)) (171) := Zr.putR hZ102 (by decide)
  show WK K 40 3569 443 [(0, .ref 130)] [] (S17_X12_init I J R) J (S18_X12_init I J R) (171) 0
  refine w_aload_n ok dX12_init_443 0 rfl ?_
  refine w_iconst (v := 4) ok dX12_init_444 (by decide) ?_
  refine w_newI (len := 4) ok dX12_init_445 rfl s_171 (by decide) (by decide) (by decide) (iT_1 84 (by decide +kernel) (by decide +kernel)) hZ103 (cap_of fin (by decide) (by decide)) ?_
  have hZ104 : Zr (S17_X12_init I J R) J (S18_X12_init I J R) (172) := Zr.up hZ103
  refine w_putRF ok dX12_init_447 (ffX12_141 rfl rfl) (congrArg Prod.fst s_130) rfl (by decide) ?_
  have hZ105 : Zr (S17_X12_init I J R) J (u2 (S18_X12_init I J R) 130 64 (some 171)) (172) := Zr.putR hZ104 (by decide)
  refine w_aload_n ok dX12_init_450 0 rfl ?_
  refine w_iconst (v := 4) ok dX12_init_451 (by decide) ?_
  refine w_newI (len := 4) ok dX12_init_452 rfl s_172 (by decide) (by decide) (by decide) (iT_1 84 (by decide +kernel) (by decide +kernel)) hZ105 (cap_of fin (by decide) (by decide)) ?_
  have hZ106 : Zr (S17_X12_init I J R) J (u2 (S18_X12_init I J R) 130 64 (some 171)) (173) := Zr.up hZ105
  refine w_putRF ok dX12_init_454 (ffX12_144 rfl rfl) (congrArg Prod.fst s_130) rfl (by decide) ?_
  have hZ107 : Zr (S17_X12_init I J R) J (u2 (u2 (S18_X12_init I J R) 130 64 (some 171)) 130 65 (some 172)) (173) := Zr.putR hZ106 (by decide)
  refine w_aload_n ok dX12_init_457 0 rfl ?_
  refine w_iconst (v := (-1)) ok dX12_init_458 (by decide) ?_
  refine w_putI ok dX12_init_459 (fwX12_147 rfl) (congrArg Prod.fst s_130) rfl (by decide) ?_
  have hZ108 : Zr (u2 (S17_X12_init I J R) 130 69 (-1)) J (u2 (u2 (S18_X12_init I J R) 130 64 (some 171)) 130 65 (some 172)) (173) := Zr.putI hZ107 (by decide)
  refine w_aload_n ok dX12_init_462 0 rfl ?_
  refine w_bipush (v := 24) ok dX12_init_463 (by decide) ?_
  refine w_newI (len := 24) ok dX12_init_465 rfl s_173 (by decide) (by decide) (by decide) (iT_1 84 (by decide +kernel) (by decide +kernel)) hZ108 (cap_of fin (by decide) (by decide)) ?_
  have hZ109 : Zr (u2 (S17_X12_init I J R) 130 69 (-1)) J (u2 (u2 (S18_X12_init I J R) 130 64 (some 171)) 130 65 (some 172)) (174) := Zr.up hZ108
  refine w_putRF ok dX12_init_467 (ffX12_150 rfl rfl) (congrArg Prod.fst s_130) rfl (by decide) ?_
  have hZ110 : Zr (u2 (S17_X12_init I J R) 130 69 (-1)) J (u2 (u2 (u2 (S18_X12_init I J R) 130 64 (some 171)) 130 65 (some 172)) 130 70 (some 173)) (174) := Zr.putR hZ109 (by decide)
  show WK K 43 3601 470 [(0, .ref 130)] [] (u2 (S17_X12_init I J R) 130 69 (-1)) J (S19_X12_init I J R) (174) 0
  refine w_aload_n ok dX12_init_470 0 rfl ?_
  refine w_bipush (v := 24) ok dX12_init_471 (by decide) ?_
  refine w_newI (len := 24) ok dX12_init_473 rfl s_174 (by decide) (by decide) (by decide) (iT_1 84 (by decide +kernel) (by decide +kernel)) hZ110 (cap_of fin (by decide) (by decide)) ?_
  have hZ111 : Zr (u2 (S17_X12_init I J R) 130 69 (-1)) J (S19_X12_init I J R) (175) := Zr.up hZ110
  refine w_putRF ok dX12_init_475 (ffX12_153 rfl rfl) (congrArg Prod.fst s_130) rfl (by decide) ?_
  have hZ112 : Zr (u2 (S17_X12_init I J R) 130 69 (-1)) J (u2 (S19_X12_init I J R) 130 71 (some 174)) (175) := Zr.putR hZ111 (by decide)
  refine w_aload_n ok dX12_init_478 0 rfl ?_
  refine w_bipush (v := 24) ok dX12_init_479 (by decide) ?_
  refine w_newZ (len := 24) ok dX12_init_481 rfl s_175 (by decide) (by decide) (by decide) (iT_7 94 (by decide +kernel) (by decide +kernel)) hZ112 (cap_of fin (by decide) (by decide)) ?_
  have hZ113 : Zr (u2 (S17_X12_init I J R) 130 69 (-1)) J (u2 (S19_X12_init I J R) 130 71 (some 174)) (176) := Zr.up hZ112
  refine w_putRF ok dX12_init_483 (ffX12_156 rfl rfl) (congrArg Prod.fst s_130) rfl (by decide) ?_
  have hZ114 : Zr (u2 (S17_X12_init I J R) 130 69 (-1)) J (u2 (u2 (S19_X12_init I J R) 130 71 (some 174)) 130 72 (some 175)) (176) := Zr.putR hZ113 (by decide)
  refine w_aload_n ok dX12_init_486 0 rfl ?_
  refine w_bipush (v := 24) ok dX12_init_487 (by decide) ?_
  refine w_newI (len := 24) ok dX12_init_489 rfl s_176 (by decide) (by decide) (by decide) (iT_1 84 (by decide +kernel) (by decide +kernel)) hZ114 (cap_of fin (by decide) (by decide)) ?_
  have hZ115 : Zr (u2 (S17_X12_init I J R) 130 69 (-1)) J (u2 (u2 (S19_X12_init I J R) 130 71 (some 174)) 130 72 (some 175)) (177) := Zr.up hZ114
  refine w_putRF ok dX12_init_491 (ffX12_160 rfl rfl) (congrArg Prod.fst s_130) rfl (by decide) ?_
  have hZ116 : Zr (u2 (S17_X12_init I J R) 130 69 (-1)) J (u2 (u2 (u2 (S19_X12_init I J R) 130 71 (some 174)) 130 72 (some 175)) 130 73 (some 176)) (177) := Zr.putR hZ115 (by decide)
  show WK K 46 3673 494 [(0, .ref 130)] [] (u2 (S17_X12_init I J R) 130 69 (-1)) J (S20_X12_init I J R) (177) 0
  refine w_aload_n ok dX12_init_494 0 rfl ?_
  refine w_bipush (v := 24) ok dX12_init_495 (by decide) ?_
  refine w_newZ (len := 24) ok dX12_init_497 rfl s_177 (by decide) (by decide) (by decide) (iT_7 94 (by decide +kernel) (by decide +kernel)) hZ116 (cap_of fin (by decide) (by decide)) ?_
  have hZ117 : Zr (u2 (S17_X12_init I J R) 130 69 (-1)) J (S20_X12_init I J R) (178) := Zr.up hZ116
  refine w_putRF ok dX12_init_499 (ffX12_163 rfl rfl) (congrArg Prod.fst s_130) rfl (by decide) ?_
  have hZ118 : Zr (u2 (S17_X12_init I J R) 130 69 (-1)) J (u2 (S20_X12_init I J R) 130 74 (some 177)) (178) := Zr.putR hZ117 (by decide)
  refine w_aload_n ok dX12_init_502 0 rfl ?_
  refine wk_in false ?_
  refine w_cV (As := []) ok dX12_init_503 iX12_begins (lX12_166 rfl) (rcv cls12 (congrArg Prod.fst s_130)) (by decide) (c_X12_begins hro (by decide) rfl   hpre0) (by decide) rfl (Nat.le_of_ble_eq_true rfl) ?_
  have hZ119 : Zr ((eI (false, u2 (S17_X12_init I J R) 130 69 (-1), J) (FI_X12_begins  (u2 (S17_X12_init I J R) 130 69 (-1)) J))) ((eJ (false, u2 (S17_X12_init I J R) 130 69 (-1), J) (J))) (u2 (S20_X12_init I J R) 130 74 (some 177)) (178) := Zr.emb2 hZ118 (l_begins _ _)
  show WK K 47 3697 506 [(0, .ref 130)] [] (S21_X12_init I J R) ((eJ (false, u2 (S17_X12_init I J R) 130 69 (-1), J) (J))) (u2 (S20_X12_init I J R) 130 74 (some 177)) (178) 0
  exact w_vret ok fin dX12_init_506 rfl Pd.i
set_option maxHeartbeats 1000000 in
set_option maxRecDepth 40000 in
theorem z_X12_init  {I : SI} {J : SJ} {R : SR} (hro : RM (u2 (S20_X12_init I J R) 130 74 (some 177))) (hpre0 : H_X12_begins  (u2 (S17_X12_init I J R) 130 69 (-1)) J)  (hZ : Zr I J R (131)) : Zr (KI_X12_init I J R) (KJ_X12_init I J R) (KR_X12_init I J R) (178) := by
  have hZ1 : Zr I J R (132) := Zr.up hZ
  have hZ2 : Zr I J (u2 R 130 1 (some 131)) (132) := Zr.putR hZ1 (by decide)
  have hZ3 : Zr I J (u2 R 130 1 (some 131)) (133) := Zr.up hZ2
  have hZ4 : Zr (u2 I 132 0 0) J (u2 R 130 1 (some 131)) (133) := Zr.putI hZ3 (by decide)
  have hZ5 : Zr (u2 (u2 I 132 0 0) 132 1 0) J (u2 R 130 1 (some 131)) (133) := Zr.putI hZ4 (by decide)
  have hZ6 : Zr (u2 (u2 (u2 I 132 0 0) 132 1 0) 132 2 0) J (u2 R 130 1 (some 131)) (133) := Zr.putI hZ5 (by decide)
  have hZ7 : Zr (u2 (u2 (u2 (u2 I 132 0 0) 132 1 0) 132 2 0) 132 3 0) J (u2 R 130 1 (some 131)) (133) := Zr.putI hZ6 (by decide)
  have hZ8 : Zr (u2 (u2 (u2 (u2 (u2 I 132 0 0) 132 1 0) 132 2 0) 132 3 0) 132 4 0) J (u2 R 130 1 (some 131)) (133) := Zr.putI hZ7 (by decide)
  have hZ9 : Zr (u2 (u2 (u2 (u2 (u2 (u2 I 132 0 0) 132 1 0) 132 2 0) 132 3 0) 132 4 0) 132 5 0) J (u2 R 130 1 (some 131)) (133) := Zr.putI hZ8 (by decide)
  have hZ10 : Zr (u2 (S1_X12_init I J R) 132 6 0) J (u2 R 130 1 (some 131)) (133) := Zr.putI hZ9 (by decide)
  have hZ11 : Zr (u2 (u2 (S1_X12_init I J R) 132 6 0) 132 7 99) J (u2 R 130 1 (some 131)) (133) := Zr.putI hZ10 (by decide)
  have hZ12 : Zr (u2 (u2 (u2 (S1_X12_init I J R) 132 6 0) 132 7 99) 132 8 0) J (u2 R 130 1 (some 131)) (133) := Zr.putI hZ11 (by decide)
  have hZ13 : Zr (u2 (u2 (u2 (u2 (S1_X12_init I J R) 132 6 0) 132 7 99) 132 8 0) 132 9 0) J (u2 R 130 1 (some 131)) (133) := Zr.putI hZ12 (by decide)
  have hZ14 : Zr (u2 (u2 (u2 (u2 (u2 (S1_X12_init I J R) 132 6 0) 132 7 99) 132 8 0) 132 9 0) 132 10 0) J (u2 R 130 1 (some 131)) (133) := Zr.putI hZ13 (by decide)
  have hZ15 : Zr (u2 (S2_X12_init I J R) 132 11 0) J (u2 R 130 1 (some 131)) (133) := Zr.putI hZ14 (by decide)
  have hZ16 : Zr (u2 (u2 (S2_X12_init I J R) 132 11 0) 132 12 0) J (u2 R 130 1 (some 131)) (133) := Zr.putI hZ15 (by decide)
  have hZ17 : Zr (u2 (u2 (u2 (S2_X12_init I J R) 132 11 0) 132 12 0) 132 13 0) J (u2 R 130 1 (some 131)) (133) := Zr.putI hZ16 (by decide)
  have hZ18 : Zr (u2 (u2 (u2 (u2 (S2_X12_init I J R) 132 11 0) 132 12 0) 132 13 0) 132 14 0) J (u2 R 130 1 (some 131)) (133) := Zr.putI hZ17 (by decide)
  have hZ19 : Zr (u2 (S3_X12_init I J R) 132 15 0) J (u2 R 130 1 (some 131)) (133) := Zr.putI hZ18 (by decide)
  have hZ20 : Zr (u2 (u2 (S3_X12_init I J R) 132 15 0) 132 16 0) J (u2 R 130 1 (some 131)) (133) := Zr.putI hZ19 (by decide)
  have hZ21 : Zr (u2 (u2 (u2 (S3_X12_init I J R) 132 15 0) 132 16 0) 132 17 99) J (u2 R 130 1 (some 131)) (133) := Zr.putI hZ20 (by decide)
  have hZ22 : Zr (u2 (u2 (u2 (u2 (S3_X12_init I J R) 132 15 0) 132 16 0) 132 17 99) 132 18 0) J (u2 R 130 1 (some 131)) (133) := Zr.putI hZ21 (by decide)
  have hZ23 : Zr (u2 (S4_X12_init I J R) 132 19 0) J (u2 R 130 1 (some 131)) (133) := Zr.putI hZ22 (by decide)
  have hZ24 : Zr (u2 (S4_X12_init I J R) 132 19 0) J (u2 (u2 R 130 1 (some 131)) 130 3 (some 132)) (133) := Zr.putR hZ23 (by decide)
  have hZ25 : Zr (u2 (S4_X12_init I J R) 132 19 0) J (u2 (u2 R 130 1 (some 131)) 130 3 (some 132)) (134) := Zr.up hZ24
  have hZ26 : Zr (u2 (S4_X12_init I J R) 132 19 0) J (u2 (u2 (u2 R 130 1 (some 131)) 130 3 (some 132)) 130 4 (some 133)) (134) := Zr.putR hZ25 (by decide)
  have hZ27 : Zr (u2 (S4_X12_init I J R) 132 19 0) J (u2 (u2 (u2 R 130 1 (some 131)) 130 3 (some 132)) 130 4 (some 133)) (135) := Zr.up hZ26
  have hZ28 : Zr (u2 (S4_X12_init I J R) 132 19 0) J (u2 (u2 (u2 (u2 R 130 1 (some 131)) 130 3 (some 132)) 130 4 (some 133)) 130 5 (some 134)) (135) := Zr.putR hZ27 (by decide)
  have hZ29 : Zr (u2 (S4_X12_init I J R) 132 19 0) J (S5_X12_init I J R) (136) := Zr.up hZ28
  have hZ30 : Zr (u2 (S4_X12_init I J R) 132 19 0) J (u2 (S5_X12_init I J R) 130 6 (some 135)) (136) := Zr.putR hZ29 (by decide)
  have hZ31 : Zr (u2 (S4_X12_init I J R) 132 19 0) J (u2 (S5_X12_init I J R) 130 6 (some 135)) (137) := Zr.up hZ30
  have hZ32 : Zr (u2 (S4_X12_init I J R) 132 19 0) J (u2 (u2 (S5_X12_init I J R) 130 6 (some 135)) 130 7 (some 136)) (137) := Zr.putR hZ31 (by decide)
  have hZ33 : Zr (u2 (S4_X12_init I J R) 132 19 0) J (u2 (u2 (S5_X12_init I J R) 130 6 (some 135)) 130 7 (some 136)) (138) := Zr.up hZ32
  have hZ34 : Zr (u2 (S4_X12_init I J R) 132 19 0) J (u2 (u2 (u2 (S5_X12_init I J R) 130 6 (some 135)) 130 7 (some 136)) 130 8 (some 137)) (138) := Zr.putR hZ33 (by decide)
  have hZ35 : Zr (u2 (S4_X12_init I J R) 132 19 0) J (S6_X12_init I J R) (139) := Zr.up hZ34
  have hZ36 : Zr (u2 (S4_X12_init I J R) 132 19 0) J (u2 (S6_X12_init I J R) 130 9 (some 138)) (139) := Zr.putR hZ35 (by decide)
  have hZ37 : Zr (u2 (S4_X12_init I J R) 132 19 0) J (u2 (S6_X12_init I J R) 130 9 (some 138)) (140) := Zr.up hZ36
  have hZ38 : Zr (u2 (S4_X12_init I J R) 132 19 0) J (u2 (u2 (S6_X12_init I J R) 130 9 (some 138)) 130 10 (some 139)) (140) := Zr.putR hZ37 (by decide)
  have hZ39 : Zr (u2 (S4_X12_init I J R) 132 19 0) J (u2 (u2 (S6_X12_init I J R) 130 9 (some 138)) 130 10 (some 139)) (141) := Zr.up hZ38
  have hZ40 : Zr (u2 (S4_X12_init I J R) 132 19 0) J (u2 (u2 (u2 (S6_X12_init I J R) 130 9 (some 138)) 130 10 (some 139)) 130 11 (some 140)) (141) := Zr.putR hZ39 (by decide)
  have hZ41 : Zr (u2 (S4_X12_init I J R) 132 19 0) J (S7_X12_init I J R) (142) := Zr.up hZ40
  have hZ42 : Zr (u2 (S4_X12_init I J R) 132 19 0) J (u2 (S7_X12_init I J R) 130 12 (some 141)) (142) := Zr.putR hZ41 (by decide)
  have hZ43 : Zr (u2 (S4_X12_init I J R) 132 19 0) J (u2 (S7_X12_init I J R) 130 12 (some 141)) (143) := Zr.up hZ42
  have hZ44 : Zr (u2 (S4_X12_init I J R) 132 19 0) J (u2 (u2 (S7_X12_init I J R) 130 12 (some 141)) 130 13 (some 142)) (143) := Zr.putR hZ43 (by decide)
  have hZ45 : Zr (u2 (S4_X12_init I J R) 132 19 0) J (u2 (u2 (S7_X12_init I J R) 130 12 (some 141)) 130 13 (some 142)) (144) := Zr.up hZ44
  have hZ46 : Zr (u2 (S4_X12_init I J R) 132 19 0) J (u2 (u2 (u2 (S7_X12_init I J R) 130 12 (some 141)) 130 13 (some 142)) 130 14 (some 143)) (144) := Zr.putR hZ45 (by decide)
  have hZ47 : Zr (u2 (S4_X12_init I J R) 132 19 0) J (S8_X12_init I J R) (145) := Zr.up hZ46
  have hZ48 : Zr (u2 (S4_X12_init I J R) 132 19 0) J (u2 (S8_X12_init I J R) 130 15 (some 144)) (145) := Zr.putR hZ47 (by decide)
  have hZ49 : Zr (u2 (S4_X12_init I J R) 132 19 0) J (u2 (S8_X12_init I J R) 130 15 (some 144)) (146) := Zr.up hZ48
  have hZ50 : Zr (u2 (S4_X12_init I J R) 132 19 0) J (u2 (u2 (S8_X12_init I J R) 130 15 (some 144)) 130 16 (some 145)) (146) := Zr.putR hZ49 (by decide)
  have hZ51 : Zr (u2 (S4_X12_init I J R) 132 19 0) J (u2 (u2 (S8_X12_init I J R) 130 15 (some 144)) 130 16 (some 145)) (147) := Zr.up hZ50
  have hZ52 : Zr (u2 (S4_X12_init I J R) 132 19 0) J (u2 (u2 (u2 (S8_X12_init I J R) 130 15 (some 144)) 130 16 (some 145)) 130 17 (some 146)) (147) := Zr.putR hZ51 (by decide)
  have hZ53 : Zr (u2 (S4_X12_init I J R) 132 19 0) J (S9_X12_init I J R) (148) := Zr.up hZ52
  have hZ54 : Zr (u2 (S4_X12_init I J R) 132 19 0) J (u2 (S9_X12_init I J R) 130 18 (some 147)) (148) := Zr.putR hZ53 (by decide)
  have hZ55 : Zr (u2 (S4_X12_init I J R) 132 19 0) J (u2 (S9_X12_init I J R) 130 18 (some 147)) (149) := Zr.up hZ54
  have hZ56 : Zr (u2 (S4_X12_init I J R) 132 19 0) J (u2 (u2 (S9_X12_init I J R) 130 18 (some 147)) 130 19 (some 148)) (149) := Zr.putR hZ55 (by decide)
  have hZ57 : Zr (u2 (S4_X12_init I J R) 132 19 0) J (u2 (u2 (S9_X12_init I J R) 130 18 (some 147)) 130 19 (some 148)) (150) := Zr.up hZ56
  have hZ58 : Zr (u2 (S4_X12_init I J R) 132 19 0) J (u2 (u2 (u2 (S9_X12_init I J R) 130 18 (some 147)) 130 19 (some 148)) 130 20 (some 149)) (150) := Zr.putR hZ57 (by decide)
  have hZ59 : Zr (u2 (S4_X12_init I J R) 132 19 0) J (S10_X12_init I J R) (151) := Zr.up hZ58
  have hZ60 : Zr (u2 (S4_X12_init I J R) 132 19 0) J (u2 (S10_X12_init I J R) 130 21 (some 150)) (151) := Zr.putR hZ59 (by decide)
  have hZ61 : Zr (u2 (S4_X12_init I J R) 132 19 0) J (u2 (S10_X12_init I J R) 130 21 (some 150)) (152) := Zr.up hZ60
  have hZ62 : Zr (u2 (S4_X12_init I J R) 132 19 0) J (u2 (u2 (S10_X12_init I J R) 130 21 (some 150)) 130 22 (some 151)) (152) := Zr.putR hZ61 (by decide)
  have hZ63 : Zr (u2 (u2 (S4_X12_init I J R) 132 19 0) 130 33 (-1)) J (u2 (u2 (S10_X12_init I J R) 130 21 (some 150)) 130 22 (some 151)) (152) := Zr.putI hZ62 (by decide)
  have hZ64 : Zr (u2 (u2 (S4_X12_init I J R) 132 19 0) 130 33 (-1)) J (u2 (u2 (S10_X12_init I J R) 130 21 (some 150)) 130 22 (some 151)) (153) := Zr.up hZ63
  have hZ65 : Zr (u2 (u2 (S4_X12_init I J R) 132 19 0) 130 33 (-1)) J (u2 (u2 (u2 (S10_X12_init I J R) 130 21 (some 150)) 130 22 (some 151)) 130 36 (some 152)) (153) := Zr.putR hZ64 (by decide)
  have hZ66 : Zr (u2 (u2 (S4_X12_init I J R) 132 19 0) 130 33 (-1)) J (S11_X12_init I J R) (154) := Zr.up hZ65
  have hZ67 : Zr (u2 (u2 (S4_X12_init I J R) 132 19 0) 130 33 (-1)) J (u2 (S11_X12_init I J R) 130 37 (some 153)) (154) := Zr.putR hZ66 (by decide)
  have hZ68 : Zr (u2 (u2 (S4_X12_init I J R) 132 19 0) 130 33 (-1)) J (u2 (S11_X12_init I J R) 130 37 (some 153)) (155) := Zr.up hZ67
  have hZ69 : Zr (u2 (u2 (S4_X12_init I J R) 132 19 0) 130 33 (-1)) J (u2 (u2 (S11_X12_init I J R) 130 37 (some 153)) 130 39 (some 154)) (155) := Zr.putR hZ68 (by decide)
  have hZ70 : Zr (u2 (u2 (S4_X12_init I J R) 132 19 0) 130 33 (-1)) J (u2 (u2 (S11_X12_init I J R) 130 37 (some 153)) 130 39 (some 154)) (156) := Zr.up hZ69
  have hZ71 : Zr (u2 (u2 (S4_X12_init I J R) 132 19 0) 130 33 (-1)) J (u2 (u2 (u2 (S11_X12_init I J R) 130 37 (some 153)) 130 39 (some 154)) 130 40 (some 155)) (156) := Zr.putR hZ70 (by decide)
  have hZ72 : Zr (u2 (u2 (S4_X12_init I J R) 132 19 0) 130 33 (-1)) J (S12_X12_init I J R) (157) := Zr.up hZ71
  have hZ73 : Zr (u2 (u2 (S4_X12_init I J R) 132 19 0) 130 33 (-1)) J (u2 (S12_X12_init I J R) 130 41 (some 156)) (157) := Zr.putR hZ72 (by decide)
  have hZ74 : Zr (u2 (u2 (S4_X12_init I J R) 132 19 0) 130 33 (-1)) J (u2 (S12_X12_init I J R) 130 41 (some 156)) (158) := Zr.up hZ73
  have hZ75 : Zr (u2 (u2 (S4_X12_init I J R) 132 19 0) 130 33 (-1)) J (u2 (u2 (S12_X12_init I J R) 130 41 (some 156)) 130 42 (some 157)) (158) := Zr.putR hZ74 (by decide)
  have hZ76 : Zr (u2 (u2 (S4_X12_init I J R) 132 19 0) 130 33 (-1)) J (u2 (u2 (S12_X12_init I J R) 130 41 (some 156)) 130 42 (some 157)) (159) := Zr.up hZ75
  have hZ77 : Zr (u2 (u2 (S4_X12_init I J R) 132 19 0) 130 33 (-1)) J (u2 (u2 (u2 (S12_X12_init I J R) 130 41 (some 156)) 130 42 (some 157)) 130 43 (some 158)) (159) := Zr.putR hZ76 (by decide)
  have hZ78 : Zr (u2 (u2 (S4_X12_init I J R) 132 19 0) 130 33 (-1)) J (S13_X12_init I J R) (160) := Zr.up hZ77
  have hZ79 : Zr (u2 (u2 (S4_X12_init I J R) 132 19 0) 130 33 (-1)) J (u2 (S13_X12_init I J R) 130 44 (some 159)) (160) := Zr.putR hZ78 (by decide)
  have hZ80 : Zr (u2 (u2 (S4_X12_init I J R) 132 19 0) 130 33 (-1)) J (u2 (S13_X12_init I J R) 130 44 (some 159)) (161) := Zr.up hZ79
  have hZ81 : Zr (u2 (u2 (S4_X12_init I J R) 132 19 0) 130 33 (-1)) J (u2 (u2 (S13_X12_init I J R) 130 44 (some 159)) 130 45 (some 160)) (161) := Zr.putR hZ80 (by decide)
  have hZ82 : Zr (u2 (u2 (S4_X12_init I J R) 132 19 0) 130 33 (-1)) J (u2 (u2 (S13_X12_init I J R) 130 44 (some 159)) 130 45 (some 160)) (162) := Zr.up hZ81
  have hZ83 : Zr (u2 (u2 (S4_X12_init I J R) 132 19 0) 130 33 (-1)) J (u2 (u2 (u2 (S13_X12_init I J R) 130 44 (some 159)) 130 45 (some 160)) 130 46 (some 161)) (162) := Zr.putR hZ82 (by decide)
  have hZ84 : Zr (u2 (u2 (S4_X12_init I J R) 132 19 0) 130 33 (-1)) J (S14_X12_init I J R) (163) := Zr.up hZ83
  have hZ85 : Zr (u2 (u2 (S4_X12_init I J R) 132 19 0) 130 33 (-1)) J (u2 (S14_X12_init I J R) 130 47 (some 162)) (163) := Zr.putR hZ84 (by decide)
  have hZ86 : Zr (u2 (u2 (S4_X12_init I J R) 132 19 0) 130 33 (-1)) J (u2 (S14_X12_init I J R) 130 47 (some 162)) (164) := Zr.up hZ85
  have hZ87 : Zr (u2 (u2 (S4_X12_init I J R) 132 19 0) 130 33 (-1)) J (u2 (u2 (S14_X12_init I J R) 130 47 (some 162)) 130 48 (some 163)) (164) := Zr.putR hZ86 (by decide)
  have hZ88 : Zr (u2 (u2 (S4_X12_init I J R) 132 19 0) 130 33 (-1)) J (u2 (u2 (S14_X12_init I J R) 130 47 (some 162)) 130 48 (some 163)) (165) := Zr.up hZ87
  have hZ89 : Zr (u2 (u2 (S4_X12_init I J R) 132 19 0) 130 33 (-1)) J (u2 (u2 (u2 (S14_X12_init I J R) 130 47 (some 162)) 130 48 (some 163)) 130 49 (some 164)) (165) := Zr.putR hZ88 (by decide)
  have hZ90 : Zr (u2 (u2 (S4_X12_init I J R) 132 19 0) 130 33 (-1)) J (S15_X12_init I J R) (166) := Zr.up hZ89
  have hZ91 : Zr (u2 (u2 (S4_X12_init I J R) 132 19 0) 130 33 (-1)) J (u2 (S15_X12_init I J R) 130 50 (some 165)) (166) := Zr.putR hZ90 (by decide)
  have hZ92 : Zr (u2 (u2 (S4_X12_init I J R) 132 19 0) 130 33 (-1)) J (u2 (S15_X12_init I J R) 130 50 (some 165)) (167) := Zr.up hZ91
  have hZ93 : Zr (u2 (u2 (S4_X12_init I J R) 132 19 0) 130 33 (-1)) J (u2 (u2 (S15_X12_init I J R) 130 50 (some 165)) 130 51 (some 166)) (167) := Zr.putR hZ92 (by decide)
  have hZ94 : Zr (u2 (u2 (S4_X12_init I J R) 132 19 0) 130 33 (-1)) J (u2 (u2 (S15_X12_init I J R) 130 50 (some 165)) 130 51 (some 166)) (168) := Zr.up hZ93
  have hZ95 : Zr (u2 (u2 (S4_X12_init I J R) 132 19 0) 130 33 (-1)) J (u2 (u2 (u2 (S15_X12_init I J R) 130 50 (some 165)) 130 51 (some 166)) 130 52 (some 167)) (168) := Zr.putR hZ94 (by decide)
  have hZ96 : Zr (u2 (u2 (u2 (S4_X12_init I J R) 132 19 0) 130 33 (-1)) 130 56 (-1)) J (S16_X12_init I J R) (168) := Zr.putI hZ95 (by decide)
  have hZ97 : Zr (u2 (u2 (u2 (u2 (S4_X12_init I J R) 132 19 0) 130 33 (-1)) 130 56 (-1)) 130 57 (-1)) J (S16_X12_init I J R) (168) := Zr.putI hZ96 (by decide)
  have hZ98 : Zr (S17_X12_init I J R) J (S16_X12_init I J R) (169) := Zr.up hZ97
  have hZ99 : Zr (S17_X12_init I J R) J (u2 (S16_X12_init I J R) 130 60 (some 168)) (169) := Zr.putR hZ98 (by decide)
  have hZ100 : Zr (S17_X12_init I J R) J (u2 (S16_X12_init I J R) 130 60 (some 168)) (170) := Zr.up hZ99
  have hZ101 : Zr (S17_X12_init I J R) J (u2 (u2 (S16_X12_init I J R) 130 60 (some 168)) 130 61 (some 169)) (170) := Zr.putR hZ100 (by decide)
  have hZ102 : Zr (S17_X12_init I J R) J (u2 (u2 (S16_X12_init I J R) 130 60 (some 168)) 130 61 (some 169)) (171) := Zr.up hZ101
  have hZ103 : Zr (S17_X12_init I J R) J (u2 (u2 (u2 (S16_X12_init I J R) 130 60 (some 168)) 130 61 (some 169)) 130 63 (some 170)) (171) := Zr.putR hZ102 (by decide)
  have hZ104 : Zr (S17_X12_init I J R) J (S18_X12_init I J R) (172) := Zr.up hZ103
  have hZ105 : Zr (S17_X12_init I J R) J (u2 (S18_X12_init I J R) 130 64 (some 171)) (172) := Zr.putR hZ104 (by decide)
  have hZ106 : Zr (S17_X12_init I J R) J (u2 (S18_X12_init I J R) 130 64 (some 171)) (173) := Zr.up hZ105
  have hZ107 : Zr (S17_X12_init I J R) J (u2 (u2 (S18_X12_init I J R) 130 64 (some 171)) 130 65 (some 172)) (173) := Zr.putR hZ106 (by decide)
  have hZ108 : Zr (u2 (S17_X12_init I J R) 130 69 (-1)) J (u2 (u2 (S18_X12_init I J R) 130 64 (some 171)) 130 65 (some 172)) (173) := Zr.putI hZ107 (by decide)
  have hZ109 : Zr (u2 (S17_X12_init I J R) 130 69 (-1)) J (u2 (u2 (S18_X12_init I J R) 130 64 (some 171)) 130 65 (some 172)) (174) := Zr.up hZ108
  have hZ110 : Zr (u2 (S17_X12_init I J R) 130 69 (-1)) J (u2 (u2 (u2 (S18_X12_init I J R) 130 64 (some 171)) 130 65 (some 172)) 130 70 (some 173)) (174) := Zr.putR hZ109 (by decide)
  have hZ111 : Zr (u2 (S17_X12_init I J R) 130 69 (-1)) J (S19_X12_init I J R) (175) := Zr.up hZ110
  have hZ112 : Zr (u2 (S17_X12_init I J R) 130 69 (-1)) J (u2 (S19_X12_init I J R) 130 71 (some 174)) (175) := Zr.putR hZ111 (by decide)
  have hZ113 : Zr (u2 (S17_X12_init I J R) 130 69 (-1)) J (u2 (S19_X12_init I J R) 130 71 (some 174)) (176) := Zr.up hZ112
  have hZ114 : Zr (u2 (S17_X12_init I J R) 130 69 (-1)) J (u2 (u2 (S19_X12_init I J R) 130 71 (some 174)) 130 72 (some 175)) (176) := Zr.putR hZ113 (by decide)
  have hZ115 : Zr (u2 (S17_X12_init I J R) 130 69 (-1)) J (u2 (u2 (S19_X12_init I J R) 130 71 (some 174)) 130 72 (some 175)) (177) := Zr.up hZ114
  have hZ116 : Zr (u2 (S17_X12_init I J R) 130 69 (-1)) J (u2 (u2 (u2 (S19_X12_init I J R) 130 71 (some 174)) 130 72 (some 175)) 130 73 (some 176)) (177) := Zr.putR hZ115 (by decide)
  have hZ117 : Zr (u2 (S17_X12_init I J R) 130 69 (-1)) J (S20_X12_init I J R) (178) := Zr.up hZ116
  have hZ118 : Zr (u2 (S17_X12_init I J R) 130 69 (-1)) J (u2 (S20_X12_init I J R) 130 74 (some 177)) (178) := Zr.putR hZ117 (by decide)
  have hZ119 : Zr ((eI (false, u2 (S17_X12_init I J R) 130 69 (-1), J) (FI_X12_begins  (u2 (S17_X12_init I J R) 130 69 (-1)) J))) ((eJ (false, u2 (S17_X12_init I J R) 130 69 (-1), J) (J))) (u2 (S20_X12_init I J R) 130 74 (some 177)) (178) := Zr.emb2 hZ118 (l_begins _ _)
  exact hZ119
set_option maxHeartbeats 1000000 in
set_option maxRecDepth 40000 in
theorem kr_X12_init  {I : SI} {J : SJ} {R : SR} {a b : Nat} (ha : a < 130) : KR_X12_init I J R a b = R a b := by
  unfold KR_X12_init
  have h1 : a ≠ 130 := by omega
  simp (disch := omega) [u2, h1, S10_X12_init, S11_X12_init, S12_X12_init, S13_X12_init, S14_X12_init, S15_X12_init, S16_X12_init, S18_X12_init, S19_X12_init, S20_X12_init, S5_X12_init, S6_X12_init, S7_X12_init, S8_X12_init, S9_X12_init]
