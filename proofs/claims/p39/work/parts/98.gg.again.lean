/-! both: one shot is filmed again -/
theorem count_v {g : Nat → Int32 → Int32} : ∀ n, (∀ i, i < n → ∀ s, g i s = s + 0 ∨ g i s = s + 1) → ∃ c, c ≤ n ∧ itN g n 0 = nI c := by
  intro n
  induction n with
  | zero => intro _; exact ⟨0, Nat.le_refl _, itN_0 _ _⟩
  | succ n ih =>
    intro h
    obtain ⟨c, hc, e⟩ := ih (fun i hi s => h i (by omega) s)
    rw [itN_s, e]
    rcases h n (by omega) (nI c) with k | k
    · exact ⟨c, by omega, k.trans (Int32.add_zero _)⟩
    · exact ⟨c + 1, by omega, k.trans (nI_1 c)⟩
theorem clashing_n {p : Nat} {s : Int32} {A : SI} {J : SJ} : ∃ c, c ≤ 6 ∧ F_X5_clashing p s A J = nI c := by
  unfold F_X5_clashing F_X5_clashing_l4
  refine count_v 6 (fun i _ x => ?_)
  unfold B_X5_clashing_l4
  repeat' split
  all_goals first
    | exact Or.inl rfl
    | exact Or.inr rfl
theorem l32_v : ∀ k, k < 1000 → (lN k).toInt32 = nI k := by decide +kernel
theorem cut_v (W : Int64) : ∃ k, k < 1000 ∧ maxL 0 (minL 999 W) = lN k := by
  have h9 : (999 : Int64) = lN 999 := rfl
  have h0 : (0 : Int64) = lN 0 := rfl
  unfold maxL minL
  by_cases c : W < 999
  · rw [if_pos c]
    by_cases d : W < 0
    · rw [if_pos d]
      exact ⟨0, by omega, rfl⟩
    · rw [if_neg d]
      obtain ⟨k, hk, e⟩ := pk_lOf d
      refine ⟨k, ?_, e⟩
      rw [e, h9, pk_lLT hk (by omega)] at c
      omega
  · rw [if_neg c, if_neg (show ¬ (999 : Int64) < 0 by decide)]
    exact ⟨999, by omega, rfl⟩
theorem agn_v {b : Int32} {f nm ns np s : Nat} {A B : SI} {JA J1 J' : SJ} (h : SCT 105 f nm ns A JA B) (x : DX b nm ns np A B) (hf : f ≤ 22) (hs : s < ns) (hz : ¬ A 107 s = 0) : JW J1 (FJ_X0_againWorth (nI s) A J1) ∧ WSO 2 (F_X0_againWorth (nI s) A J1) B (FJ_X12_callsShot (nI f) (nI s) B J') := by
  have hn : ns ≤ 8 := x.1.2.1
  have e : FJ_X12_callsShot (nI f) (nI s) B J' = ch7 152 J' 0 (((F_X12_callsShot_l8 (nI f) (nI s) B J' (0, 0)).1).toInt64) ((F_X12_clashesOf (nI f) (nI s) B (S1_X12_callsShot (nI f) (nI s) B J')).toInt64) (((F_X12_callsShot_l8 (nI f) (nI s) B J' (0, 0)).2).toInt64) ((B 137 (nI s).toNatClampNeg).toInt64) ((B 154 (nI f).toNatClampNeg).toInt64) ((B 158 (nI f).toNatClampNeg).toInt64) := rfl
  have sv := shot_v (J := J1) (J' := J') h x.1 hf hs
  have cv := clash_v (J := J1) (J' := S1_X12_callsShot (nI f) (nI s) B J') h x.1 hf hs
  rw [if_neg hz] at cv
  rw [e, sv, cv]
  have w := wof_v (k0 := 2) (a1 := 0) (a2 := F_X5_givenCount 105 A J1) (a3 := F_X5_clashing 105 (nI s) A J1) (a4 := F_X5_marksIn 105 (nI s) A J1) (a5 := atF (A 10) 8 (nI s)) (b0 := 0) (b1 := (F_X5_givenCount 105 A J1).toInt64) (b2 := (F_X5_clashing 105 (nI s) A J1).toInt64) (b3 := (F_X5_marksIn 105 (nI s) A J1).toInt64) (b4 := (B 137 (nI s).toNatClampNeg).toInt64) (b5 := (B 154 (nI f).toNatClampNeg).toInt64) (b6 := (B 158 (nI f).toNatClampNeg).toInt64) (Jc := J1) (J' := J') (by omega) (x.2.2.1.2.2.2.2.2.2.2.2.2.2.1 2 (by omega)) (x.2.2.2.1 2 (by omega)) rfl rfl rfl rfl (by rw [atF_v (by omega) (by omega), nI_clamp (by omega), told_s x hs]) (by rw [nI_clamp (by omega), h.1.1]) (by rw [nI_clamp (by omega), h.1.2.2.2.2.1])
  exact w
theorem price_v {b : Int32} {f nm ns np s : Nat} {A B : SI} {JA J1 J' Ja : SJ} (h : SCT 105 f nm ns A JA B) (x : DX b nm ns np A B) (hf : f ≤ 22) (hs : s < ns) (hz : ¬ A 107 s = 0) : T_X0_filmOneAgain_j84_2 A Ja s J1 = (F_X12_priceOf (nI f) (nI s) B J').toInt64 ∧ (T_X0_filmOneAgain_j84_2 A Ja s J1).toInt32 = F_X12_priceOf (nI f) (nI s) B J' ∧ Fr38 B (FI_X12_priceOf (nI f) (nI s) B J') := by
  have hn : ns ≤ 8 := x.1.2.1
  have a := (agn_v (J1 := J1) (J' := J') h x hf hs hz).2
  have g := goes_H (k := 2) (J := FJ_X12_callsShot (nI f) (nI s) B J') (by omega) (x.2.2.2.1 2 (by omega))
  have fr : Fr38 B (FI_X12_priceOf (nI f) (nI s) B J') := by
    unfold FI_X12_priceOf
    rw [ite_self]
    split
    · exact fun _ _ _ => rfl
    · exact g.2
  have ec : atF (A 10) 8 (nI s) = B 137 s := by rw [atF_v (by omega) (by omega)]; exact told_s x hs
  have main : ∃ p : Int32, T_X0_filmOneAgain_j84_2 A Ja s J1 = p.toInt64 ∧ F_X12_priceOf (nI f) (nI s) B J' = p := by
    unfold T_X0_filmOneAgain_j84_2 F_X12_priceOf
    rw [nI_clamp (show s < 2 ^ 31 by omega)]
    rcases a with ⟨w, k⟩ | ⟨h1, h2, w, bd⟩
    · rw [if_pos ((lg_cmp_eq _ _).mpr w), ec]
      refine ⟨B 137 s, rfl, ?_⟩
      rcases k with k | k
      · exact if_pos k
      · have k : F_X12_goes 2 B (FJ_X12_callsShot (nI f) (nI s) B J') = 0 := k
        rw [show FI_X12_goes 2 B (FJ_X12_callsShot (nI f) (nI s) B J') 137 s = B 137 s from g.2 137 s (by omega), if_pos k, ite_self]
    · have h1 : ¬ F_X12_hasLaw 2 B (FJ_X12_callsShot (nI f) (nI s) B J') = 0 := h1
      have h2 : ¬ F_X12_goes 2 B (FJ_X12_callsShot (nI f) (nI s) B J') = 0 := h2
      have w : F_X0_againWorth (nI s) A J1 = FJ_X12_goes 2 B (FJ_X12_callsShot (nI f) (nI s) B J') 153 0 := w
      rw [if_neg (fun q => nmin bd ((lg_cmp_eq _ _).mp q)), if_neg h1, if_neg h2, ← w]
      obtain ⟨k, hk, ek⟩ := cut_v (F_X0_againWorth (nI s) A J1)
      rw [ek]
      exact ⟨nI k, (nI_l (by omega)).symm, l32_v k hk⟩
  obtain ⟨p, p1, p2⟩ := main
  rw [p1, p2]
  exact ⟨rfl, Int32.toInt32_toInt64 p, fr⟩
/-- the marks of a shot that is filmed again -/
theorem inner_v {b : Int32} {f nm ns np s : Nat} {A0 B0 A B Ia Ib : SI} {J0 JA Ja Jb : SJ} {s2 : Int32 × SI × SJ} (x : DX b nm ns np A0 B0) (hf : f ≤ 22) (hs : s < ns) (e2 : s2.1 = nI s) (r0 : RLX f nm ns A0 J0 B0 A JA B) : RLX f nm ns A0 J0 B0 (F_X0_filmAgain_w39 (nI s) Ia Ja (0, A)).2 JA (F_X12_filmsAgain_w71_3 (nI f) Ib Jb s2 (0, B)).2 := by
  have hn : ns ≤ 8 := x.1.2.1
  have h6 : nm ≤ 6 := x.1.1
  have s8 : s < 8 := by omega
  unfold F_X0_filmAgain_w39 F_X12_filmsAgain_w71_3
  have L := itW2 (f := B_X0_filmAgain_w39 (nI s) Ia Ja) (g := B_X12_filmsAgain_w71_3 (nI f) Ib Jb s2) (fun n (p : Int32 × SI) (q : Int32 × SI) => ∃ i, i + n = nm ∧ p.1 = nI i ∧ q.1 = nI i ∧ RLX f nm ns A0 J0 B0 p.2 JA q.2) (fun (r u : Int32 × SI) => RLX f nm ns A0 J0 B0 r.2 JA u.2) ?_ 800 nm 800 (0, A) (0, B) ⟨0, by omega, rfl, rfl, r0⟩ (by omega) (by omega)
  · exact L _ _
  rintro n ⟨p1, A1⟩ ⟨q1, B1⟩ ⟨i, hi, c1, c2, r⟩
  have c1 : p1 = nI i := c1
  have c2 : q1 = nI i := c2
  subst c1 c2
  have r : RLX f nm ns A0 J0 B0 A1 JA B1 := r
  have sc := r.1
  have y := x.mv r.2.1 r.2.2.1
  obtain ⟨_, _, c3, _, c5, _⟩ := y.1
  by_cases z : n = 0
  · left
    refine ⟨(nI i, A1), (nI i, B1), ?_, ?_, r⟩
    · unfold B_X0_filmAgain_w39
      dsimp only
      rw [if_pos (show A1 3 1 ≤ nI i by rw [c3]; exact nI_le (by omega) (by omega))]
    · unfold B_X12_filmsAgain_w71_3
      dsimp only
      rw [if_pos (show B1 132 0 ≤ nI i by rw [c5]; exact nI_le (by omega) (by omega))]
  right
  have hi2 : i < nm := by omega
  have i6 : i < 6 := by omega
  have g1 : ¬ A1 3 1 ≤ nI i := by rw [c3]; exact nI_ge hi2 (by omega)
  have g2 : ¬ B1 132 0 ≤ nI i := by rw [c5]; exact nI_ge hi2 (by omega)
  have wv := sc.2.2.2.1 s i hs i6
  have sv := sc.2.2.2.2.1 i i6
  have ew : F_X5_wayIn 105 (nI s) (nI i) A1 Ja = A1 109 (6 * s + i) := way_c s8 i6
  have eu : atF (A1 110) 6 (nI i) = A1 110 i := atF_v i6 (by omega)
  have w1 : A1 109 (6 * s + i) = B1 165 (48 * f + (6 * s + i)) := wv.1
  have u1 : A1 110 i = B1 160 (6 * f + i) := sv.1.1
  have mm1 : A1 109 (6 * s + i) < 0 ↔ A1 109 (6 * s + i) = -1 := m1_nn (wv.2.imp id And.left)
  have mm2 : A1 110 i < 0 ↔ A1 110 i = -1 := m1_nn sv.2.1
  have v1 : B1 165 (((48 : Int32) * nI f) + ((6 : Int32) * s2.1) + nI i).toNatClampNeg = A1 109 (6 * s + i) := by rw [e2, cel48 hf s8 i6]; exact w1.symm
  have v2 : B1 160 (((6 : Int32) * nI f) + nI i).toNatClampNeg = A1 110 i := by rw [cel6 hf i6]; exact u1.symm
  have stay : B_X0_filmAgain_w39 (nI s) Ia Ja (nI i, A1) = .inl (nI (i + 1), A1) → B_X12_filmsAgain_w71_3 (nI f) Ib Jb s2 (nI i, B1) = .inl (nI (i + 1), B1) → ∃ m s' t', m < n ∧ B_X0_filmAgain_w39 (nI s) Ia Ja (nI i, A1) = .inl s' ∧ B_X12_filmsAgain_w71_3 (nI f) Ib Jb s2 (nI i, B1) = .inl t' ∧ ∃ i, i + m = nm ∧ s'.1 = nI i ∧ t'.1 = nI i ∧ RLX f nm ns A0 J0 B0 s'.2 JA t'.2 := fun k1 k2 => ⟨n - 1, _, _, by omega, k1, k2, i + 1, by omega, rfl, rfl, r⟩
  by_cases k1 : A1 110 i < 0
  · refine stay ?_ ?_
    · unfold B_X0_filmAgain_w39
      dsimp only
      rw [if_neg g1, eu, if_pos k1, nI_1]
    · unfold B_X12_filmsAgain_w71_3
      dsimp only
      rw [if_neg g2, if_pos (v2.trans (mm2.mp k1)), ite_self, nI_1]
  by_cases k2 : A1 109 (6 * s + i) < 0
  · refine stay ?_ ?_
    · unfold B_X0_filmAgain_w39
      dsimp only
      rw [if_neg g1, eu, if_neg k1, ew, if_pos k2, nI_1]
    · unfold B_X12_filmsAgain_w71_3
      dsimp only
      rw [if_neg g2, if_pos (v1.trans (mm1.mp k2)), nI_1]
  · have ix : nI s * 6 + nI i = nI (6 * s + i) := by
      rw [show (6 : Int32) = nI 6 from rfl, nI_mul, nI_add, show s * 6 + i = 6 * s + i by omega]
    have s7 : S7_X12_filmsAgain (nI f) Ib Jb s2 (nI i, B1) = u2 B1 165 (48 * f + (6 * s + i)) (A1 110 i) := by
      unfold S7_X12_filmsAgain
      dsimp only
      rw [e2, cel48 hf s8 i6, cel6 hf i6, ← u1]
    have ra := r.u (a := 109) (b := 6 * s + i) (r := 165) (c := 48 * f + (6 * s + i)) (v := A1 110 i) (v' := A1 110 i) (sc.w_way i6 (Or.inr ⟨sv.2.1.resolve_left (fun q => k1 (mm2.mpr q)), hi2⟩)) (by omega) (in48 (by omega))
    refine ⟨n - 1, (nI (i + 1), u2 A1 109 (6 * s + i) (A1 110 i)), (nI (i + 1), u2 B1 165 (48 * f + (6 * s + i)) (A1 110 i)), by omega, ?_, ?_, i + 1, by omega, rfl, rfl, ra⟩
    · unfold B_X0_filmAgain_w39
      dsimp only
      rw [if_neg g1, eu, if_neg k1, ew, if_neg k2, ix, putF_v (by omega) (by omega), nI_1]
    · unfold B_X12_filmsAgain_w71_3
      rw [s7]
      dsimp only
      rw [if_neg g2, if_neg (fun q => k2 (mm1.mpr (v1.symm.trans q))), if_neg (fun q => k1 (mm2.mpr (v2.symm.trans q))), nI_1]
/-- over the shots -/
theorem again_L {b : Int32} {f nm ns np : Nat} {A B Ib : SI} {JA Jb : SJ} (h : SCT 105 f nm ns A JA B) (x : DX b nm ns np A B) (hf : f ≤ 22) : ∀ n i N J1 B1 K1, i + n = ns → n < N → Fr38 B B1 → JW JA J1 → (∃ J2 t, itE (B_X0_filmOneAgain_l2_2 A JA) n i J1 = .inl J2 ∧ itW (B_X12_filmsAgain_w2 (nI f) Ib Jb) N (nI i, B1, K1) = some (.inl t) ∧ Fr38 B t.2.1 ∧ JW JA J2) ∨ (∃ A2 J2 B2 K2, itE (B_X0_filmOneAgain_l2_2 A JA) n i J1 = .inr (A2, J2) ∧ itW (B_X12_filmsAgain_w2 (nI f) Ib Jb) N (nI i, B1, K1) = some (.inr (B2, K2)) ∧ RLX f nm ns A JA B A2 J2 B2) := by
  have hn : ns ≤ 8 := x.1.2.1
  intro n
  induction n with
  | zero =>
    intro i N J1 B1 K1 hi hN fr jw
    obtain ⟨N', rfl⟩ : ∃ N', N = N' + 1 := ⟨N - 1, by omega⟩
    have g : B_X12_filmsAgain_w2 (nI f) Ib Jb (nI i, B1, K1) = .inr (.inl (nI i, B1, K1)) := by
      unfold B_X12_filmsAgain_w2
      dsimp only
      rw [if_pos (show B1 132 1 ≤ nI i by rw [fr 132 1 (by omega), x.1.2.2.2.2.2]; exact nI_le (by omega) (by omega))]
    exact Or.inl ⟨J1, (nI i, B1, K1), itE_0 _ _ _, itW_r _ _ _ _ g, fr, jw⟩
  | succ n ih =>
    intro i N J1 B1 K1 hi hN fr jw
    obtain ⟨N', rfl⟩ : ∃ N', N = N' + 1 := ⟨N - 1, by omega⟩
    have is : i < ns := by omega
    have i8 : i < 8 := by omega
    have r1 : RLX f nm ns A JA B A J1 B1 := RLX.j ⟨h, fun _ _ _ => rfl, FS.rf f B, JW.rf JA⟩ hn jw fr
    have y := x.mv r1.2.1 r1.2.2.1
    have sc := r1.1
    have g0 : ¬ B1 132 1 ≤ nI i := by rw [y.1.2.2.2.2.2]; exact nI_ge is (by omega)
    have cv := clash_v (J := J1) (J' := K1) sc y.1 hf is
    have af : atF (A 107) 8 (nI i) = A 107 i := atF_v i8 (by omega)
    obtain ⟨c, hc, ec⟩ := clashing_n (p := 105) (s := nI i) (A := A) (J := J1)
    have goOn : ∀ J3 B3 K3, B_X0_filmOneAgain_l2_2 A JA i J1 = .inl J3 → B_X12_filmsAgain_w2 (nI f) Ib Jb (nI i, B1, K1) = .inl (nI (i + 1), B3, K3) → Fr38 B B3 → JW JA J3 → ((∃ J2 t, itE (B_X0_filmOneAgain_l2_2 A JA) (n + 1) i J1 = .inl J2 ∧ itW (B_X12_filmsAgain_w2 (nI f) Ib Jb) (N' + 1) (nI i, B1, K1) = some (.inl t) ∧ Fr38 B t.2.1 ∧ JW JA J2) ∨ (∃ A2 J2 B2 K2, itE (B_X0_filmOneAgain_l2_2 A JA) (n + 1) i J1 = .inr (A2, J2) ∧ itW (B_X12_filmsAgain_w2 (nI f) Ib Jb) (N' + 1) (nI i, B1, K1) = some (.inr (B2, K2)) ∧ RLX f nm ns A JA B A2 J2 B2)) := fun J3 B3 K3 k1 k2 k3 k4 => by
      have q := ih (i + 1) N' J3 B3 K3 (by omega) (by omega) k3 k4
      rw [← itE_l _ _ _ _ _ k1, ← itW_l _ _ _ _ k2] at q
      exact q
    by_cases z1 : A 107 i = 0
    · refine goOn J1 B1 K1 ?_ ?_ fr jw
      · unfold B_X0_filmOneAgain_l2_2
        rw [af, if_pos z1]
      · unfold B_X12_filmsAgain_w2
        dsimp only
        rw [if_neg g0, cv, if_pos z1, if_pos (show (0 : Int32) = 0 from rfl), nI_1]
    rw [if_neg z1, ec] at cv
    by_cases z2 : c = 0
    · refine goOn J1 B1 K1 ?_ ?_ fr jw
      · unfold B_X0_filmOneAgain_l2_2
        rw [af, if_neg z1, ec, z2, if_pos (show nI 0 ≤ (0 : Int32) by decide)]
      · unfold B_X12_filmsAgain_w2
        dsimp only
        rw [if_neg g0, cv, z2, if_pos (show nI 0 = (0 : Int32) from rfl), nI_1]
    have c1 : ¬ nI c ≤ 0 := nI_ge (a := 0) (by omega) (by omega)
    have c2 : ¬ nI c = 0 := fun q => z2 ((nI_eq (b := 0) (by omega) (by omega)).mp q)
    have ag := agn_v (J1 := J1) (J' := K1) sc y hf is z1
    obtain ⟨t1, t2, t3⟩ := price_v (J1 := J1) (J' := K1) (Ja := JA) sc y hf is z1
    have pf : FI_X12_priceOf (nI f) (nI i) B1 K1 156 (nI f).toNatClampNeg = A 105 1 := by
      rw [nI_clamp (by omega), t3 156 f (by omega)]
      exact sc.1.2.1.symm
    have cmp : lg_cmp ((A 105 1).toInt64) (T_X0_filmOneAgain_j84_2 A JA i J1) < 0 ↔ ¬ F_X12_priceOf (nI f) (nI i) B1 K1 ≤ A 105 1 := by
      rw [t1, lg_cmp_lt, Int64.lt_iff_toInt_lt, Int32.toInt_toInt64, Int32.toInt_toInt64, Int32.le_iff_toInt_le]
      omega
    have fr3 : Fr38 B (FI_X12_priceOf (nI f) (nI i) B1 K1) := fun a c z => (t3 a c z).trans (fr a c z)
    by_cases z3 : F_X12_priceOf (nI f) (nI i) B1 K1 ≤ A 105 1
    rotate_left
    · refine goOn (FJ_X0_againWorth (nI i) A J1) (FI_X12_priceOf (nI f) (nI i) B1 K1) (FJ_X12_priceOf (nI f) (nI i) B1 K1) ?_ ?_ fr3 (jw.tr ag.1)
      · unfold B_X0_filmOneAgain_l2_2
        rw [af, if_neg z1, ec, if_neg c1, if_pos (cmp.mpr z3)]
      · unfold B_X12_filmsAgain_w2
        dsimp only
        rw [if_neg g0, cv, if_neg c2, pf, if_neg z3, nI_1]
    -- it is filmed again
    have r2 : RLX f nm ns A JA B A (FJ_X0_againWorth (nI i) A J1) (FI_X12_priceOf (nI f) (nI i) B1 K1) := r1.j hn ag.1 t3
    have y2 := x.mv r2.2.1 r2.2.2.1
    obtain ⟨v1, v2, v3⟩ := price_v (J1 := J1) (J' := FJ_X12_priceOf (nI f) (nI i) B1 K1) (Ja := JA) r2.1 y2 hf is z1
    have r3 : RLX f nm ns A JA B A (FJ_X0_againWorth (nI i) A J1) (S1_X12_filmsAgain (nI f) Ib Jb (nI i, B1, K1)) := r2.j hn (JW.rf _) v3
    have s4 : S4_X12_filmsAgain (nI f) Ib Jb (nI i, B1, K1) = A 105 1 - (T_X0_filmOneAgain_j84_2 A JA i J1).toInt32 := by
      rw [v2]
      unfold S4_X12_filmsAgain S3_X12_filmsAgain
      dsimp only
      rw [pf]
    have r4 := r3.u (a := 105) (b := 1) (r := 156) (c := f) (v := A 105 1 - (T_X0_filmOneAgain_j84_2 A JA i J1).toInt32) (v' := A 105 1 - (T_X0_filmOneAgain_j84_2 A JA i J1).toInt32) r3.1.w_purse (by omega) (in1 (by omega))
    have k164 := (r4.1.2.2.1 i i8).1.2.2
    have s6 : S6_X12_filmsAgain (nI f) Ib Jb (nI i, B1, K1) = u2 (u2 (S1_X12_filmsAgain (nI f) Ib Jb (nI i, B1, K1)) 156 f (A 105 1 - (T_X0_filmOneAgain_j84_2 A JA i J1).toInt32)) 164 (8 * f + i) (u2 (S1_X12_filmsAgain (nI f) Ib Jb (nI i, B1, K1)) 156 f (A 105 1 - (T_X0_filmOneAgain_j84_2 A JA i J1).toInt32) 164 (8 * f + i) + 1) := by
      unfold S6_X12_filmsAgain S5_X12_filmsAgain
      rw [s4]
      dsimp only
      rw [cel8 hf i8, nI_clamp (show f < 2 ^ 31 by omega)]
    have a1 : S1_X0_filmAgain (nI i) (u2 A 105 1 (A 105 1 - (T_X0_filmOneAgain_j84_2 A JA i J1).toInt32)) (FJ_X0_againWorth (nI i) A J1) = u2 (u2 (u2 A 105 1 (A 105 1 - (T_X0_filmOneAgain_j84_2 A JA i J1).toInt32)) 105 3 (u2 A 105 1 (A 105 1 - (T_X0_filmOneAgain_j84_2 A JA i J1).toInt32) 105 3 + 1)) 108 i (u2 A 105 1 (A 105 1 - (T_X0_filmOneAgain_j84_2 A JA i J1).toInt32) 108 i + 1) := by
      unfold S1_X0_filmAgain
      rw [putF_v i8 (by omega), atF_v i8 (by omega), u2_n _ _ (show ¬ ((108 : Nat) = 105 ∧ i = 3) by omega)]
    have r5 : RLX f nm ns A JA B (S1_X0_filmAgain (nI i) (u2 A 105 1 (A 105 1 - (T_X0_filmOneAgain_j84_2 A JA i J1).toInt32)) (FJ_X0_againWorth (nI i) A J1)) (FJ_X0_againWorth (nI i) A J1) (S6_X12_filmsAgain (nI f) Ib Jb (nI i, B1, K1)) := by
      rw [a1, s6]
      exact ⟨r4.1.w_again i8, (r4.2.1.u (by omega)).u (by omega), r4.2.2.1.u (in8 (by omega) i8), r4.2.2.2⟩
    have r6 := inner_v (Ia := u2 A 105 1 (A 105 1 - (T_X0_filmOneAgain_j84_2 A JA i J1).toInt32)) (Ib := Ib) (Ja := FJ_X0_againWorth (nI i) A J1) (Jb := Jb) (s2 := (nI i, B1, K1)) x hf is rfl r5
    have k1 : B_X0_filmOneAgain_l2_2 A JA i J1 = .inr (S1_X0_filmOneAgain A JA i J1, FJ_X0_againWorth (nI i) A J1) := by
      unfold B_X0_filmOneAgain_l2_2
      rw [af, if_neg z1, ec, if_neg c1, if_neg (fun q => cmp.mp q z3)]
    have k2 : B_X12_filmsAgain_w2 (nI f) Ib Jb (nI i, B1, K1) = .inr (.inr ((F_X12_filmsAgain_w71_3 (nI f) Ib Jb (nI i, B1, K1) (0, S6_X12_filmsAgain (nI f) Ib Jb (nI i, B1, K1))).2, S2_X12_filmsAgain (nI f) Ib Jb (nI i, B1, K1))) := by
      unfold B_X12_filmsAgain_w2
      dsimp only
      rw [if_neg g0, cv, if_neg c2, pf, if_pos z3]
    exact Or.inr ⟨_, _, _, _, itE_r _ _ _ _ _ k1, itW_r _ _ _ _ k2, r6⟩
theorem again_v {b : Int32} {f nm ns np : Nat} {A B : SI} {JA J' : SJ} (h : SCT 105 f nm ns A JA B) (x : DX b nm ns np A B) (hf : f ≤ 22) : RLX f nm ns A JA B (FI_X0_filmOneAgain A JA) (FJ_X0_filmOneAgain A JA) (FI_X12_filmsAgain (nI f) B J') := by
  have hn : ns ≤ 8 := x.1.2.1
  have ec : (A 8 1).toNatClampNeg = ns := by rw [x.1.2.2.2.1, nI_clamp (by omega)]
  have L := again_L (Ib := B) (Jb := J') h x hf ns 0 800 JA B J' (by omega) (by omega) (fun _ _ _ => rfl) (JW.rf JA)
  unfold FI_X0_filmOneAgain FJ_X0_filmOneAgain FI_X12_filmsAgain F_X0_filmOneAgain_l2_2 F_X12_filmsAgain_w2
  rw [ec]
  rcases L with ⟨J2, t, e1, e2, fr, jw⟩ | ⟨A2, J2, B2, K2, e1, e2, r⟩
  · rw [e1, show ((0 : Int32), B, J') = (nI 0, B, J') from rfl, e2]
    exact RLX.j ⟨h, fun _ _ _ => rfl, FS.rf f B, JW.rf JA⟩ hn jw fr
  · rw [e1, show ((0 : Int32), B, J') = (nI 0, B, J') from rfl, e2]
    exact r
