/-! both: an order of four shots: a row, and all rows -/
theorem sum_c (a b x y : Int32) : (a + x - a) + (b + y) - b = x + y := by
  rw [Int32.add_comm a x, Int32.add_sub_cancel, Int32.add_comm b y, ← Int32.add_assoc, Int32.add_sub_cancel]
theorem sum_d (a b x y : Int32) : (a + x) + (b + y) - (a + b) = x + y := by
  have e : (a + x) + (b + y) = (x + y) + (a + b) := by
    rw [Int32.add_comm a x, Int32.add_comm b y, Int32.add_assoc, ← Int32.add_assoc a y b, Int32.add_comm a y, Int32.add_assoc, ← Int32.add_assoc]
  rw [e, Int32.add_sub_cancel]
theorem leaf_v {nm ns np c i : Nat} {a0 a1 : Int32} {A B Ia : SI} {JA Ja K : SJ} {rec : Nat → Int32 → Int32 → SI → SJ → SI × SJ} (hc : c ≤ 4) (hi : i < 256) (h : ORL nm ns np c A JA B) (hrow : ¬ F_X3_isRow (nI i) (Zc c) Jb = 0) (hp : ∀ k, k < c → B 171 k = B 170 (pk i k) ∧ pk i k < c) : ORL nm ns np c (B_X11_order_l34 a0 Ia Ja i (A, JA)).1 (B_X11_order_l34 a0 Ia Ja i (A, JA)).2 (FI_X12_rows rec (nI c) a1 B K) ∧ (∃ j, j < 256 ∧ (B_X11_order_l34 a0 Ia Ja i (A, JA)).1 128 1 = nI j) ∧ ∀ a b, a = 170 ∨ a = 171 → FI_X12_rows rec (nI c) a1 B K a b = B a b := by
  obtain ⟨hw, e1, e2, hl, bst⟩ := h
  obtain ⟨b1, b2⟩ := begin1 (J' := K) hw (fun _ _ _ => rfl) (fun _ _ _ => rfl) (cfg0 hw)
  have bk : KP 104 115 A (FI_X0_begin 86 A JA) := begin_K
  have bj : JDY JA (FJ_X0_begin 86 A JA) := begin_J
  have cp := copies_v (p := 1) (q := 0) (I := B) (J := K) (by omega) (by omega) (by omega)
  have cp2 : ∀ a b, ¬ inS 1 a b → FI_X12_copies 1 0 B K a b = B a b := cp.2
  have n10 : ∀ a b, inS 0 a b → ¬ inS 1 a b := fun a b q z => absurd (inS_u q z) (by decide)
  have c157 : FI_X12_copies 1 0 B K 157 1 = B 157 0 := cp.1 157 0 (by omega) (by omega) (by decide)
  have c154 : FI_X12_copies 1 0 B K 154 1 = B 154 0 := cp.1 154 0 (by omega) (by omega) (by decide)
  have s154 : inS 0 154 0 := in1 (by omega)
  have x2 : FI_X0_begin 86 A JA 105 2 = A 86 2 := b1.1.2.2.1.trans (c157.trans hw.2.1.1.2.2.1.symm)
  have x3 : FI_X0_begin 86 A JA 105 3 = A 86 3 := by
    have cv := copy_v (k := 105) (a0 := 86) (I := A) (J := JA) (by omega) 0 3 (by omega) (by decide)
    unfold FI_X0_begin S1_X0_begin
    rw [u2_n _ _ (by omega), u2_n _ _ (by omega), u2_n _ _ (by omega), u2_n _ _ (by omega), cpF_n (by omega)]
    exact cv
  have ed : FI_X0_begin 86 A JA 105 0 = FI_X12_copies 1 0 B K 154 0 := b1.1.1.trans (c154.trans (cp2 154 0 (n10 _ _ s154)).symm)
  have f1 : FI_X0_begin 86 A JA 128 2 = nI c := (bk _ _ (by omega)).trans e1
  have f2 : FI_X12_copies 1 0 B K 130 66 = nI c := (cp2 _ _ (fun z => by have := z.1; omega)).trans e2
  have n17 : ∀ a b, 168 ≤ a → ¬ inS 1 a b := fun a b x z => by have := z.2.1; omega
  have hl2 : ∀ k, k < c → ∃ l, l < 8 ∧ FI_X0_begin 86 A JA 129 (pk i k) = nI l ∧ FI_X12_copies 1 0 B K 171 k = nI l := fun k hk => by
    obtain ⟨q1, q2⟩ := hp k hk
    obtain ⟨l, h8, l1, l2⟩ := hl _ q2
    exact ⟨l, h8, (bk _ _ (by omega)).trans l1, (cp2 _ _ (n17 _ _ (by omega))).trans (q1.trans l2)⟩
  obtain ⟨w1, X, w2, Y, o1, o2, pu⟩ := put_v (JA := FJ_X0_begin 86 A JA) (A := FI_X0_begin 86 A JA) (B := FI_X12_copies 1 0 B K) (Ia := FI_X0_begin 86 A JA) (Ja := FJ_X0_begin 86 A JA) (Ib := B) (Jb2 := K) (rec := rec) (a0 := nI c) (a1 := a1) hc hi f1 f2 ed hl2 c 0 _ _ 800 800 (by omega) (by omega) (by omega) ⟨b1, b2, fun _ _ _ => rfl, FS.rf 1 _, rfl, rfl, rfl⟩
  obtain ⟨sc, dx, ka, fs, g0, g2, g3⟩ := pu
  have eX : S2_X11_order a0 Ia Ja i (A, JA) = X := by
    unfold S2_X11_order FI_X3_putDays F_X3_putDays_w2
    exact congrArg (fun o => (Option.getD o ((0 : Int32), FI_X0_begin 86 A JA)).2) o1
  have eY : (F_X12_rows_w69 rec (nI c) a1 B K (0, FI_X12_copies 1 0 B K)).2 = Y := by
    unfold F_X12_rows_w69
    exact congrArg (fun o => (Option.getD o ((0 : Int32), FI_X12_copies 1 0 B K)).2) o2
  have e20 : (20 : Int32).toNatClampNeg = 20 := by decide
  have days := days_v (b := 0) (f := 1) (a0 := 20) (Ia := X) (Ja := FJ_X0_begin 86 A JA) (J' := K) (g := B_X12_goesOn_l2 20 Y K) (fun _ _ => rfl) sc dx (by omega) 20
  have eI : FI_X0_pass 20 X (FJ_X0_begin 86 A JA) = (itN (B_X0_pass_l2 20 X (FJ_X0_begin 86 A JA)) 20 (X, FJ_X0_begin 86 A JA)).1 := by
    unfold FI_X0_pass F_X0_pass_l2
    rw [e20]
  have eJ : FJ_X0_pass 20 X (FJ_X0_begin 86 A JA) = (itN (B_X0_pass_l2 20 X (FJ_X0_begin 86 A JA)) 20 (X, FJ_X0_begin 86 A JA)).2 := by
    unfold FJ_X0_pass F_X0_pass_l2
    rw [e20]
  have eB : FI_X12_goesOn 20 Y K = (itN (B_X12_goesOn_l2 20 Y K) 20 (Y, K)).1 := by
    unfold FI_X12_goesOn F_X12_goesOn_l2
    rw [e20]
  rw [← eI, ← eJ, ← eB] at days
  have gw := pass20_g (A := X) (JA := FJ_X0_begin 86 A JA)
  have s3 : S3_X11_order a0 Ia Ja i (A, JA) = FI_X0_pass 20 X (FJ_X0_begin 86 A JA) := by
    unfold S3_X11_order
    rw [eX]
  have s4 : S4_X11_order a0 Ia Ja i (A, JA) = FJ_X0_pass 20 X (FJ_X0_begin 86 A JA) := by
    unfold S4_X11_order
    rw [eX]
  have t1 : S1_X12_rows rec (nI c) a1 B K = FI_X12_goesOn 20 Y K := by
    unfold S1_X12_rows
    rw [eY]
  generalize FI_X0_pass 20 X (FJ_X0_begin 86 A JA) = A3 at *
  generalize FJ_X0_pass 20 X (FJ_X0_begin 86 A JA) = J3 at *
  generalize FI_X12_goesOn 20 Y K = B3 at *
  obtain ⟨y1, y2, y3, y4⟩ := days
  have fa : ∀ a b, ¬ (104 ≤ a ∧ a ≤ 115) → A3 a b = A a b := fun a b z => (y2 a b (by omega)).trans ((ka a b (by omega)).trans (bk a b (by omega)))
  have fb : ∀ a b, ¬ inS 1 a b → ¬ (a = 130 ∧ b = 38) → B3 a b = B a b := fun a b z w => (y3 a b z w).trans ((fs a b z w).trans (cp2 a b z))
  have s0 : SCT 86 0 nm ns A3 JA B3 := hw.2.1.mv hw.1.2.1 (fun a b x z => fa a b (by omega)) rfl (fun a b q => fb a b (n10 a b q) (by have := q.1; omega))
  obtain ⟨u, w, hu, hv, gu, gv⟩ := gw
  have tq : nI u + nI w = nI (u + w) := nI_add u w
  have a2 : A3 86 2 = A 86 2 := fa _ _ (by omega)
  have a3 : A3 86 3 = A 86 3 := fa _ _ (by omega)
  have tA : S5_X11_order a0 Ia Ja i (A, JA) - S3_X11_order a0 Ia Ja i (A, JA) 86 3 = nI (u + w) := by
    unfold S5_X11_order
    rw [s3, gu, gv, g2, g3, x2, x3, a2, a3, sum_c, tq]
  have tB : S3_X12_rows rec (nI c) a1 B K = nI (u + w) := by
    unfold S3_X12_rows F_X12_trouble
    rw [t1]
    have q1 : ∀ Z, A3 105 3 = F_X12_sumOf 164 184 1 B3 Z := fun Z => agains_v (f := 1) (J' := Z) y1 (by omega)
    have q0 : ∀ Z, A3 86 3 = F_X12_sumOf 164 184 0 B3 Z := fun Z => agains_v (f := 0) (J' := Z) s0 (by omega)
    have k1 : A3 105 2 = B3 157 1 := y1.1.2.2.1
    have k0 : A3 86 2 = B3 157 0 := s0.1.2.2.1
    have n1 : (1 : Int32).toNatClampNeg = 1 := by decide
    have n0 : (0 : Int32).toNatClampNeg = 0 := by decide
    rw [← q1, ← q0, n1, n0, ← k1, ← k0, gu, gv, g2, g3, x2, x3, a2, a3, sum_d, tq]
  have rowA : B_X11_order_l34 a0 Ia Ja i (A, JA) = (FI_X3_weigh (nI i) (nI (u + w)) A3 J3, J3) := by
    unfold B_X11_order_l34
    refine (if_neg (show ¬ F_X3_isRow (nI i) A JA = 0 by rw [isrow_e e1]; exact hrow)).trans ?_
    unfold S6_X11_order
    rw [tA, s3, s4]
  rw [rowA]
  have j6 : J3 86 6 = JA 86 6 := (y4 86 6 (by omega)).trans (bj 86 6 (by omega))
  have mk : ∀ A4 B4 : SI, (∀ a b, ¬ (a = 128 ∧ b < 2) → A4 a b = A3 a b) → (∀ a b, ¬ a = 172 → ¬ (a = 130 ∧ b = 67) → B4 a b = B3 a b) → BST c A4 B4 → (∃ j, j < 256 ∧ A4 128 1 = nI j) → ORL nm ns np c A4 J3 B4 ∧ (∃ j, j < 256 ∧ A4 128 1 = nI j) ∧ ∀ a b, a = 170 ∨ a = 171 → B4 a b = B a b := fun A4 B4 h1 h2 h3 h4 => by
    have bb : ∀ a b, a = 170 ∨ a = 171 → B4 a b = B a b := fun a b z => (h2 a b (by omega) (by omega)).trans (fb a b (n17 a b (by omega)) (by omega))
    refine ⟨⟨hw.mo (fun a b z => (h1 a b (by omega)).trans (fa a b (by omega))) j6 (fun a b z z2 => (h2 a b (by omega) (by omega)).trans (fb a b (nS (by omega)) (by omega))) (fun a b q => (h2 a b (by have := q.2.1; omega) (by have := q.1; omega)).trans (fb a b (n10 a b q) (by have := q.1; omega))), (h1 _ _ (by omega)).trans ((fa _ _ (by omega)).trans e1), (h2 _ _ (by omega) (by omega)).trans ((fb _ _ (nS (by omega)) (by omega)).trans e2), fun k hk => ?_, h3⟩, h4, bb⟩
    obtain ⟨l, h8, l1, l2⟩ := hl k hk
    exact ⟨l, h8, (h1 _ _ (by omega)).trans ((fa _ _ (by omega)).trans l1), (bb 170 k (Or.inl rfl)).trans l2⟩
  have r9 : ∀ k, k < c → B3 171 k = A3 129 (pk i k) := fun k hk => by
    obtain ⟨q1, q2⟩ := hp k hk
    obtain ⟨l, h8, l1, l2⟩ := hl _ q2
    exact (fb 171 k (n17 _ _ (by omega)) (by omega)).trans (q1.trans (l2.trans (l1.symm.trans (fa 129 _ (by omega)).symm)))
  have leafB : FI_X12_rows rec (nI c) a1 B K = if B3 130 67 = -1 then (F_X12_rows_w148 rec (nI c) a1 B K (0, u2 B3 130 67 (nI (u + w)))).2 else (if nI (u + w) < B3 130 67 then (F_X12_rows_w148_2 rec (nI c) a1 B K (0, u2 B3 130 67 (nI (u + w)))).2 else B3) := by
    unfold FI_X12_rows
    rw [if_pos (show B 130 66 ≤ nI c by rw [e2]; exact nI_le (Nat.le_refl _) (by omega)), t1, tB]
  rw [leafB]
  have y66 : u2 B3 130 67 (nI (u + w)) 130 66 = nI c := (u2_n _ _ (by omega)).trans ((fb _ _ (nS (by omega)) (by omega)).trans e2)
  obtain ⟨⟨v1, Y1, z1, z2, _, z4⟩, ⟨v2, Y2, zz1, zz2, _, zz4⟩⟩ := cp172 (rec := rec) (a0 := nI c) (a1 := a1) (Ib := B) (Jb2 := K) hc c 0 (u2 B3 130 67 (nI (u + w))) 800 (by omega) (by omega) y66
  have k1 : (F_X12_rows_w148 rec (nI c) a1 B K (0, u2 B3 130 67 (nI (u + w)))).2 = Y1 := by
    unfold F_X12_rows_w148
    exact congrArg (fun o => (Option.getD o ((0 : Int32), u2 B3 130 67 (nI (u + w)))).2) z1
  have k2 : (F_X12_rows_w148_2 rec (nI c) a1 B K (0, u2 B3 130 67 (nI (u + w)))).2 = Y2 := by
    unfold F_X12_rows_w148_2
    exact congrArg (fun o => (Option.getD o ((0 : Int32), u2 B3 130 67 (nI (u + w)))).2) zz1
  rw [k1, k2]
  have best : ∀ Y' : SI, (∀ a b, ¬ a = 172 → Y' a b = u2 B3 130 67 (nI (u + w)) a b) → (∀ b, 0 ≤ b → b < c → Y' 172 b = u2 B3 130 67 (nI (u + w)) 171 b) → ORL nm ns np c (u2 (u2 A3 128 1 (nI i)) 128 0 (nI (u + w))) J3 Y' ∧ (∃ j, j < 256 ∧ u2 (u2 A3 128 1 (nI i)) 128 0 (nI (u + w)) 128 1 = nI j) ∧ ∀ a b, a = 170 ∨ a = 171 → Y' a b = B a b := fun Y' h1 h2 => by
    have q1 : u2 (u2 A3 128 1 (nI i)) 128 0 (nI (u + w)) 128 1 = nI i := (u2_n _ _ (by omega)).trans (u2_s _ _ _ _)
    refine mk _ Y' (fun a b z => (u2_n _ _ (by omega)).trans (u2_n _ _ (by omega))) (fun a b x z => (h1 a b x).trans (u2_n _ _ (by omega))) (Or.inr ⟨i, u + w, hi, by omega, q1, u2_s _ _ _ _, (h1 _ _ (by omega)).trans (u2_s _ _ _ _), fun k hk => ?_⟩) ⟨i, hi, q1⟩
    rw [h2 k (Nat.zero_le _) hk, u2_n _ _ (by omega), r9 k hk]
    exact ((u2_n _ _ (by omega)).trans (u2_n _ _ (by omega))).symm
  have a31 : A3 128 1 = A 128 1 := fa _ _ (by omega)
  have a30 : A3 128 0 = A 128 0 := fa _ _ (by omega)
  have b67 : B3 130 67 = B 130 67 := fb _ _ (nS (by omega)) (by omega)
  unfold FI_X3_weigh
  rcases bst with ⟨n1, n2⟩ | ⟨i0, t0, hi0, ht0, n1, n2, n3, n4⟩
  · rw [if_pos (show A3 128 1 < 0 by rw [a31, n1]; decide), if_pos (show B3 130 67 = -1 by rw [b67, n2])]
    exact best Y1 z2 z4
  · have ng : ¬ A3 128 1 < 0 := by rw [a31, n1]; exact nI_pos (by omega)
    have nb : ¬ B3 130 67 = -1 := by
      rw [b67, n3]
      intro y
      have t : (nI t0).toInt = (-1 : Int32).toInt := congrArg Int32.toInt y
      rw [nI_toInt ht0] at t
      have t2 : (-1 : Int32).toInt = -1 := by decide
      omega
    rw [if_neg ng, if_neg nb]
    by_cases z : A3 128 0 ≤ nI (u + w)
    · have z' : ¬ nI (u + w) < B3 130 67 := by
        rw [b67, n3, ← n2, ← a30]
        exact Int32.not_lt.mpr z
      rw [if_pos z, if_neg z']
      refine mk A3 B3 (fun _ _ _ => rfl) (fun _ _ _ _ => rfl) (Or.inr ⟨i0, t0, hi0, ht0, a31.trans n1, a30.trans n2, b67.trans n3, fun k hk => ?_⟩) ⟨i0, hi0, a31.trans n1⟩
      rw [fb 172 k (n17 _ _ (by omega)) (by omega), n4 k hk]
      exact (fa _ _ (by omega)).symm
    · have z' : nI (u + w) < B3 130 67 := by
        rw [b67, n3, ← n2, ← a30]
        exact Int32.not_le.mp z
      rw [if_neg z, if_pos z']
      exact best Y2 zz2 zz4
