/-! both: pairs, what is told once, alike -/
theorem t18_v {c : Nat} {A : SI} {J : SJ} (e : A 42 6 = nI c) (hc : c ≤ 20) : T_X4_pairLine_j18 A J = if c = 20 then 1 else 0 := by
  unfold T_X4_pairLine_j18
  rw [e]
  by_cases z : c = 20
  · rw [if_pos z, if_neg (show ¬ nI c < (20 : Int32) by rw [z]; decide)]
  · rw [if_neg z, if_pos (show nI c < (20 : Int32) from nI_lt (b := 20) (by omega) (by omega))]
theorem six_b {x : Int32} (h : inR x 7) : x - 1 ≤ 5 := by
  obtain ⟨j, hj, ej⟩ := h.n
  rw [ej]
  rcases (by omega : j = 0 ∨ j = 1 ∨ j = 2 ∨ j = 3 ∨ j = 4 ∨ j = 5 ∨ j = 6) with rfl | rfl | rfl | rfl | rfl | rfl | rfl <;> decide
theorem m1_nn {x : Int32} (h : x = -1 ∨ inR x 6) : x < 0 ↔ x = -1 := by
  rcases h with h | h
  · rw [h]; decide
  · obtain ⟨j, hj, ej⟩ := h.n
    rw [ej]
    exact ⟨fun q => absurd q (nI_pos (by omega)), fun q => absurd (nI_pos' (n := j) (by omega)) (by rw [q]; decide)⟩
theorem pair_R {n : Nat} {A B : SI} {J J' J2 : SJ} (s : Si n A B) (c0 : A 41 1 = 0) (d : DT A B) (v : B 130 29 = 2) : LM n A B (FI_X4_pairLine A J) (if T_X12_line_j72 B J' 130 30 = 0 then (T_X12_line_j492 B J').1 else T_X12_line_j72 B J') J J2 := by
  have cB : B 130 30 = 0 := s.1.symm.trans c0
  obtain ⟨c, hc, m1, m2⟩ := d.1.2.2.2.2.2.1
  have t72 := t72_2 (J := J') v m2 hc
  have fu := t18_v (J := J) m1 hc
  by_cases z : c = 20
  · rw [if_pos z] at t72 fu
    have b := beg_1 (J := J) c0
    have o := op_fail (w := 2) (J := J) (J' := J') s (by decide)
    have eL : FI_X4_pairLine A J = FI_X4_fail 2 A J := by
      unfold FI_X4_pairLine S4_X4_pairLine T_X4_pairLine_j85 S1_X4_pairLine
      rw [fu, b.1, find_id b.2.1, step_id b.2.2, find_id b.2.1, if_neg b.2.1, step_id b.2.2, num_id b.2.1 b.2.2, if_neg b.2.1]
    have wf : ¬ FI_X12_wrong 2 B J' 130 30 = 0 := fun q => absurd ((wrong_Fm (w := 2) (J := J') cB).1.symm.trans q) (by decide)
    rw [eL, t72, if_neg wf]
    exact LM.of o.1.1 (fun q => absurd q o.2) o.1.2.2.1.kt
  · rw [if_neg z] at t72 fu
    rw [t72, if_pos cB, t492_2 v]
    obtain ⟨o1, d2, c1, _, fB⟩ := word_G (k := 0) (w := 2) (J := J) (J' := J') s c0 d (by omega) v t72
    have eb : FI_X4_begin (T_X4_pairLine_j18 A J) A J = FI_X8_step A J := by rw [fu, beg_0]
    have n1 : FI_X8_step A J 42 6 = nI c := (o1.2.1 42 6 (by omega) (by omega)).trans m1
    have n2 : FI_X12_token (S1_X12_line B J') J' 132 12 = nI c := (fB 132 12 (by omega)).trans m2
    have gx1 : nx A ≤ nx (FI_X8_step A J) := o1.2.2.2.2 c1
    generalize hA : FI_X8_step A J = A1 at o1 d2 eb n1 c1 gx1
    generalize hB : FI_X12_token (S1_X12_line B J') J' = B1 at o1 d2 n2 fB
    have kt0 : KTM B B1 := fun a b z => fB a b (by unfold mT at z; omega)
    obtain ⟨sc, hsc, _, ss1, ss2, ss3⟩ := d2.1.2.1
    obtain ⟨mc, hmc, _, mm1, mm2, mm3⟩ := d2.1.1
    have efs : F_X12_fresher 1 B1 J' = nI sc := fr_v (w := 1) (by omega) ss2
    have o2 := op_find (k := 48) (r := 136) (la := 16) (f := 8) (c := sc) (J := J) (J' := J') o1.1 (fun _ => ⟨by omega, ss1, fun i hi => (ss3 i hi (49, 136) (by unfold RSS; simp)).1⟩) (by omega)
    have o3 := op_step (J := J) (J' := J') o2.1.1
    have e4 : S1_X12_hasLine B1 J' = FI_X12_markAtHand (FI_X12_goOn (FI_X12_atHand 136 16 (nI 8) (nI sc) B1 J') J') J' := by unfold S1_X12_hasLine; rw [efs]; rfl
    have efm : F_X12_fresher 0 (FI_X12_goOn (FI_X12_atHand 136 16 (nI 8) (nI sc) B1 J') J') J' = nI mc := fr_v (w := 0) (by omega) ((o3.1.2.2.1 132 10 (by omega)).trans ((o2.1.2.2.1 132 10 (by omega)).trans mm2))
    have o4 := op_find (k := 43) (r := 133) (la := 12) (f := 6) (c := mc) (J := J) (J' := J') o3.1.1 (fun _ => ⟨by omega, (o3.1.2.1 43 1 (by omega) (by omega)).trans ((o2.1.2.1 43 1 (by omega) (by omega)).trans mm1), fun i hi => by
      rw [o3.1.2.1 44 i (by omega) (by omega), o2.1.2.1 44 i (by omega) (by omega), o3.1.2.2.1 133 _ (by omega), o2.1.2.2.1 133 _ (by omega)]
      exact (mm3 i hi (44, 133) (by unfold RSM; simp)).1⟩) (by omega)
    have eh : FI_X12_markAtHand (FI_X12_goOn (FI_X12_atHand 136 16 (nI 8) (nI sc) B1 J') J') J' = FI_X12_atHand 133 12 (nI 6) (nI mc) (FI_X12_goOn (FI_X12_atHand 136 16 (nI 8) (nI sc) B1 J') J') J' ∧ F_X12_markAtHand (FI_X12_goOn (FI_X12_atHand 136 16 (nI 8) (nI sc) B1 J') J') J' = F_X12_atHand 133 12 (nI 6) (nI mc) (FI_X12_goOn (FI_X12_atHand 136 16 (nI 8) (nI sc) B1 J') J') J' := by
      unfold FI_X12_markAtHand F_X12_markAtHand
      rw [efm]
      exact ⟨rfl, rfl⟩
    rw [eh.1] at e4
    have e2 : S2_X12_hasLine B1 J' = (48 : Int32) + (6 : Int32) * F_X12_atHand 136 16 (nI 8) (nI sc) B1 J' + F_X12_atHand 133 12 (nI 6) (nI mc) (FI_X12_goOn (FI_X12_atHand 136 16 (nI 8) (nI sc) B1 J') J') J' := by unfold S2_X12_hasLine; rw [efs, ← eh.2]; rfl
    have e6 : S6_X12_hasLine B1 J' = (6 : Int32) + F_X12_atHand 133 12 (nI 6) (nI mc) (FI_X12_goOn (FI_X12_atHand 136 16 (nI 8) (nI sc) B1 J') J') J' := by unfold S6_X12_hasLine; rw [efs, ← eh.2]; rfl
    have eC1 : S1_X4_pairLine A J = FI_X8_step (FI_X4_find 48 A1 J) J := by unfold S1_X4_pairLine; rw [eb]
    have eC2 : S2_X4_pairLine A J = F_X4_find 48 A1 J * 6 + F_X4_find 43 (FI_X8_step (FI_X4_find 48 A1 J) J) J := by unfold S2_X4_pairLine; rw [eb, eC1]
    have o14 : Op n A1 B1 (FI_X4_find 43 (FI_X8_step (FI_X4_find 48 A1 J) J) J) (S1_X12_hasLine B1 J') := by rw [e4]; exact (o2.1.tr o3.1).tr o4.1
    have k57 : T_X12_hasLine_j57 B1 J' = if S1_X12_hasLine B1 J' 130 30 = 0 then (if S1_X12_hasLine B1 J' 139 (S2_X12_hasLine B1 J').toNatClampNeg = -1 then S1_X12_hasLine B1 J' else FI_X12_wrong 3 (S1_X12_hasLine B1 J') J') else S1_X12_hasLine B1 J' := rfl
    have k85 : T_X4_pairLine_j85 A J = if FI_X4_find 43 (FI_X8_step (FI_X4_find 48 A1 J) J) J 41 1 = 0 then (if atF (FI_X4_find 43 (FI_X8_step (FI_X4_find 48 A1 J) J) J 68) 48 (S2_X4_pairLine A J) < 0 then FI_X4_find 43 (FI_X8_step (FI_X4_find 48 A1 J) J) J else FI_X4_fail 3 (FI_X4_find 43 (FI_X8_step (FI_X4_find 48 A1 J) J) J) J) else FI_X4_find 43 (FI_X8_step (FI_X4_find 48 A1 J) J) J := by unfold T_X4_pairLine_j85; rw [eC1]
    have vals : FI_X4_find 43 (FI_X8_step (FI_X4_find 48 A1 J) J) J 41 1 = 0 → ∃ i j, i < sc ∧ j < mc ∧ S2_X4_pairLine A J = nI (6 * i + j) ∧ S2_X12_hasLine B1 J' = nI (48 + (6 * i + j)) ∧ S6_X12_hasLine B1 J' = nI (6 + j) ∧ F_X4_find 43 (FI_X8_step (FI_X4_find 48 A1 J) J) J = nI j := fun q => by
      have w4 := o4.2 q
      have w2 := o2.2 (o3.1.c0 (o4.1.c0 q))
      obtain ⟨i, hi, ei⟩ := w2.2
      obtain ⟨j, hj, ej⟩ := w4.2
      refine ⟨i, j, hi, hj, ?_, ?_, ?_, ej⟩
      · rw [eC2, ei, ej, show (6 : Int32) = nI 6 from rfl, pk_mul, nI_add]
        exact congrArg nI (by omega)
      · rw [e2, ← w2.1, ← w4.1, ei, ej, show (6 : Int32) = nI 6 from rfl, show (48 : Int32) = nI 48 from rfl, pk_mul, nI_add, nI_add]
        exact congrArg nI (by omega)
      · rw [e6, ← w4.1, ej, show (6 : Int32) = nI 6 from rfl, nI_add]
    generalize hA4 : FI_X4_find 43 (FI_X8_step (FI_X4_find 48 A1 J) J) J = A4 at o14 k85 vals
    generalize hB4 : S1_X12_hasLine B1 J' = B4 at o14 k57
    have d4 := d2.op o14.2.1 o14.2.2.1
    have o5 : Op n A4 B4 (T_X4_pairLine_j85 A J) (T_X12_hasLine_j57 B1 J') := by
      rw [k57, k85]
      by_cases q : A4 41 1 = 0
      · obtain ⟨i, j, hi, hj, v1, v2, v3, v4⟩ := vals q
        have w := d4.1.2.2.2.2.2.2 (6 * i + j) (by omega)
        rw [if_pos q, if_pos (o14.1.1.symm.trans q), v1, v2, atF_v (by omega) (by omega), nI_clamp (by omega), ← w.1]
        have mm := m1_nn w.2.1
        by_cases y : A4 68 (6 * i + j) < 0
        · rw [if_pos y, if_pos (mm.mp y)]
          exact Op.rf o14.1
        · rw [if_neg y, if_neg (fun x => y (mm.mpr x))]
          exact (op_fail o14.1 (by decide)).1
      · rw [if_neg q, if_neg (fun x => q (o14.1.1.trans x))]
        exact Op.rf o14.1
    have o6 := (op_step (J := J) (J' := J') o5.1).1
    have o16 := (o14.tr o5).tr o6
    have d6 := d2.op o16.2.1 o16.2.2.1
    have eL : FI_X4_pairLine A J = if FI_X4_number 0 (atF (FI_X8_step (T_X4_pairLine_j85 A J) J 46) 8 (F_X4_find 43 (FI_X8_step (FI_X4_find 48 A1 J) J) J) - 1) (FI_X8_step (T_X4_pairLine_j85 A J) J) J 41 1 = 0 then u2 (S5_X4_pairLine A J) 42 6 (S5_X4_pairLine A J 42 6 + 1) else FI_X4_number 0 (atF (FI_X8_step (T_X4_pairLine_j85 A J) J 46) 8 (F_X4_find 43 (FI_X8_step (FI_X4_find 48 A1 J) J) J) - 1) (FI_X8_step (T_X4_pairLine_j85 A J) J) J := by
      unfold FI_X4_pairLine S4_X4_pairLine S3_X4_pairLine
      rw [eC1]
    have e5 : S5_X4_pairLine A J = putF (FI_X4_number 0 (atF (FI_X8_step (T_X4_pairLine_j85 A J) J 46) 8 (F_X4_find 43 (FI_X8_step (FI_X4_find 48 A1 J) J) J) - 1) (FI_X8_step (T_X4_pairLine_j85 A J) J) J) 68 48 (S2_X4_pairLine A J) (F_X4_number 0 (atF (FI_X8_step (T_X4_pairLine_j85 A J) J 46) 8 (F_X4_find 43 (FI_X8_step (FI_X4_find 48 A1 J) J) J) - 1) (FI_X8_step (T_X4_pairLine_j85 A J) J) J) := by
      unfold S5_X4_pairLine S4_X4_pairLine S3_X4_pairLine
      rw [eC1]
    have eM : FI_X12_hasLine B1 J' = if S3_X12_hasLine B1 J' 130 30 = 0 then S5_X12_hasLine B1 J' else S3_X12_hasLine B1 J' := rfl
    have eM3 : S3_X12_hasLine B1 J' = FI_X12_numeral 0 (T_X12_hasLine_j85 B1 J') (FI_X12_goOn (T_X12_hasLine_j57 B1 J') J') J' := rfl
    rw [eL, eM]
    rw [hA4] at *
    generalize hA6 : FI_X8_step (T_X4_pairLine_j85 A J) J = A6 at o6 o16 d6 eL e5
    have eM85 : T_X12_hasLine_j85 B1 J' = if FI_X12_goOn (T_X12_hasLine_j57 B1 J') J' 130 30 = 0 then FI_X12_goOn (T_X12_hasLine_j57 B1 J') J' 135 (S6_X12_hasLine B1 J').toNatClampNeg - 1 else 0 := rfl
    generalize hB6 : FI_X12_goOn (T_X12_hasLine_j57 B1 J') J' = B6 at o6 o16 d6 eM3 eM85
    by_cases q6 : A6 41 1 = 0
    · have q4 := o5.c0 (o6.c0 q6)
      have q14 : A4 41 1 = 0 := q4
      obtain ⟨i, j, hi, hj, v1, v2, v3, v4⟩ := vals q4
      obtain ⟨mc', hmc', _, mm1', mm2', mm3'⟩ := d6.1.1
      have em : mc' = mc := by
        have := mm1'.symm.trans ((o16.2.1 43 1 (by omega) (by omega)).trans mm1)
        exact (nI_eq (by omega) (by omega)).mp this
      subst em
      have wy := mm3' j hj (46, 135) (by unfold RSM; simp)
      have wr : inR (A6 46 j) 7 := by have := wy.2; unfold BD at this; simp at this; exact this.1
      have wb := six_b wr
      have eat : atF (A6 46) 8 (F_X4_find 43 (FI_X8_step (FI_X4_find 48 A1 J) J) J) = A6 46 j := by rw [v4, atF_v (by omega) (by omega)]
      rw [eat] at e5 ⊢
      rw [if_pos (o16.1.1.symm.trans q6), v3, nI_clamp (by omega)] at eM85
      have wy1 : A6 46 j = B6 135 (6 + j) := wy.1
      rw [eM85, ← wy1] at eM3
      have o7 := op_num (a0 := 0) (a1 := A6 46 j - 1) (J := J) (J' := J') o16.1 (by decide) (Int32.le_trans wb (by decide))
      rw [eM3]
      by_cases q7 : FI_X4_number 0 (A6 46 j - 1) A6 J 41 1 = 0
      · have w7 := o7.2 q7
        rw [if_pos q7, if_pos (o7.1.1.1.symm.trans q7), e5, v1, putF_v (by omega) (by omega)]
        have eS4 : S4_X12_hasLine B1 J' = u2 (FI_X12_numeral 0 (A6 46 j - 1) B6 J') 139 (48 + (6 * i + j)) (F_X12_numeral 0 (A6 46 j - 1) B6 J') := by
          unfold S4_X12_hasLine
          rw [hB6, eM85, ← wy1, eM3, v2, nI_clamp (by omega)]
        have nB : ∀ a b, a = 132 → b ≤ 18 → FI_X12_numeral 0 (A6 46 j - 1) B6 J' a b = B1 a b := fun a b e l => (o7.1.2.2.1 a b (by omega)).trans (o16.2.2.1 a b (by omega))
        have eS5 : S5_X12_hasLine B1 J' = u2 (u2 (FI_X12_numeral 0 (A6 46 j - 1) B6 J') 139 (48 + (6 * i + j)) (F_X12_numeral 0 (A6 46 j - 1) B6 J')) 132 12 (nI (c + 1)) := by
          unfold S5_X12_hasLine
          rw [eS4]
          have e1 : F_X12_fresher 2 (u2 (FI_X12_numeral 0 (A6 46 j - 1) B6 J') 139 (48 + (6 * i + j)) (F_X12_numeral 0 (A6 46 j - 1) B6 J')) J' = nI c := fr_v (w := 2) (by omega) ((u2_n _ _ (by omega)).trans ((nB 132 12 rfl (by omega)).trans n2))
          rw [e1, nI_1]
          exact rd_v (w := 2) (by omega)
        rw [eS5]
        have o17 := o16.tr o7.1
        have d7 := d2.op o17.2.1 o17.2.2.1
        generalize hL7 : FI_X4_number 0 (A6 46 j - 1) A6 J = A7 at *
        generalize hT7 : FI_X12_numeral 0 (A6 46 j - 1) B6 J' = B7 at *
        generalize F_X4_number 0 (A6 46 j - 1) A6 J = x7 at *
        generalize F_X12_numeral 0 (A6 46 j - 1) B6 J' = y7 at *
        have e426 : u2 A7 68 (6 * i + j) x7 42 6 + 1 = nI (c + 1) := by
          rw [show u2 A7 68 (6 * i + j) x7 42 6 = nI c from (u2_n _ _ (by omega)).trans ((o17.2.1 42 6 (by omega) (by omega)).trans n1), nI_1]
        rw [e426]
        have gA : ∀ a b, ¬ a = 68 → ¬ (a = 42 ∧ b = 6) → u2 (u2 A7 68 (6 * i + j) x7) 42 6 (nI (c + 1)) a b = A7 a b := fun a b x y => (u2_n _ _ (by omega)).trans (u2_n _ _ (by omega))
        have gB : ∀ a b, ¬ a = 139 → ¬ (a = 132 ∧ b = 12) → u2 (u2 B7 139 (48 + (6 * i + j)) y7) 132 12 (nI (c + 1)) a b = B7 a b := fun a b x y => (u2_n _ _ (by omega)).trans (u2_n _ _ (by omega))
        refine LM.of (((o17.1.v (by omega)).v (by omega)).fr (fun _ _ _ => rfl) (fun a b z => gB a b (by omega) (by omega))) (fun _ => ⟨⟨?_, d7.2.1.mv (fun b z => gA 42 b (by omega) (by omega)) (fun b z => gB 132 b (by omega) (by omega)) (fun v _ => by rw [gB 130 23 (by omega) (by omega)]) (gB 130 24 (by omega) (by omega)), d7.2.2.mv (fun a b z => gA a b (by omega) (by omega)) (fun a b z => gB a b (by omega) (by omega)) (fun v _ => by rw [gB 130 23 (by omega) (by omega)])⟩, ?_⟩) (((kt0.tr o17.2.2.1.kt).u (by unfold mT; omega)).u (by unfold mT; omega))
        · obtain ⟨h0, h1, h2, h3, h4, _, h5⟩ := d7.1
          refine ⟨h0.mv (gA _ _ (by omega) (by omega)) (gA _ _ (by omega) (by omega)) (gB _ _ (by omega) (by omega)) (fun p hp i _ => gA p.1 i (by have := rsM hp; omega) (by have := rsM hp; omega)) (fun p hp i _ => gB p.2 _ (by have := rsM hp; omega) (by have := rsM hp; omega)), h1.mv (gA _ _ (by omega) (by omega)) (gA _ _ (by omega) (by omega)) (gB _ _ (by omega) (by omega)) (fun p hp i _ => gA p.1 i (by have := rsS hp; omega) (by have := rsS hp; omega)) (fun p hp i _ => gB p.2 _ (by have := rsS hp; omega) (by have := rsS hp; omega)), h2.mv (gA _ _ (by omega) (by omega)) (gA _ _ (by omega) (by omega)) (gB _ _ (by omega) (by omega)) (fun p hp i _ => gA p.1 i (by have := rsP hp; omega) (by have := rsP hp; omega)) (fun p hp i _ => gB p.2 _ (by have := rsP hp; omega) (by have := rsP hp; omega)), h3.mv (gA _ _ (by omega) (by omega)) (gA _ _ (by omega) (by omega)) (gB _ _ (by omega) (by omega)) (fun p hp i _ => gA p.1 i (by have := rsC hp; omega) (by have := rsC hp; omega)) (fun p hp i _ => gB p.2 _ (by have := rsC hp; omega) (by have := rsC hp; omega)), h4.mv (gA _ _ (by omega) (by omega)) (gA _ _ (by omega) (by omega)) (gB _ _ (by omega) (by omega)) (fun p hp i _ => gA p.1 i (by have := rsK hp; omega) (by have := rsK hp; omega)) (fun p hp i _ => gB p.2 _ (by have := rsK hp; omega) (by have := rsK hp; omega)), ⟨c + 1, by omega, u2_s _ _ _ _, u2_s _ _ _ _⟩, fun t ht => ?_⟩
          by_cases y : t = 6 * i + j
          · have ea : u2 (u2 A7 68 (6 * i + j) x7) 42 6 (nI (c + 1)) 68 t = x7 := by rw [y]; exact (u2_n _ _ (by omega)).trans (u2_s _ _ _ _)
            have eb2 : u2 (u2 B7 139 (48 + (6 * i + j)) y7) 132 12 (nI (c + 1)) 139 (48 + t) = y7 := by rw [y]; exact (u2_n _ _ (by omega)).trans (u2_s _ _ _ _)
            have mq : MKQ 68 43 53 55 t (u2 (u2 A7 68 (6 * i + j) x7) 42 6 (nI (c + 1))) := by
              refine ⟨Or.inr ?_, fun z => ?_⟩
              · rw [gA 43 1 (by omega) (by omega), o17.2.1 43 1 (by omega) (by omega), mm1, nI_clamp (by omega), y]
                omega
              · rw [gA 43 1 (by omega) (by omega), gA 55 t (by omega) (by omega)]
                rw [gA 53 1 (by omega) (by omega)] at z
                exact (h5 t ht).2.2.2 z
            rw [ea, eb2]
            exact ⟨w7.1, Or.inr (nv_in (a := 5) (hi := 5) rfl (by omega) (by decide) w7.2.1 (Int32.le_trans w7.2.2.1 wb)), mq⟩
          · have ea : u2 (u2 A7 68 (6 * i + j) x7) 42 6 (nI (c + 1)) 68 t = A7 68 t := (u2_n _ _ (by omega)).trans (u2_n _ _ (by omega))
            have eb2 : u2 (u2 B7 139 (48 + (6 * i + j)) y7) 132 12 (nI (c + 1)) 139 (48 + t) = B7 139 (48 + t) := (u2_n _ _ (by omega)).trans (u2_n _ _ (by omega))
            have mq : MKQ 68 43 53 55 t (u2 (u2 A7 68 (6 * i + j) x7) 42 6 (nI (c + 1))) := (h5 t ht).2.2.to ea (le_of_e (gA 43 1 (by omega) (by omega))) (gA 53 1 (by omega) (by omega)) (fun _ => gA 55 t (by omega) (by omega))
            rw [ea, eb2]
            exact ⟨(h5 t ht).1, (h5 t ht).2.1, mq⟩
        · have g := o17.2.2.2.2 q7
          have e : nx (u2 (u2 A7 68 (6 * i + j) x7) 42 6 (nI (c + 1))) = nx A7 := by unfold nx; rw [gA 81 3 (by omega) (by omega)]
          rw [e]
          omega
      · rw [if_neg q7, if_neg (fun x => q7 (o7.1.1.1.trans x))]
        exact LM.of o7.1.1 (fun q => absurd q q7) (kt0.tr (o16.tr o7.1).2.2.1.kt)
    · have f6 := o16.1.2.2.2 q6
      have cG : ¬ B6 130 30 = 0 := fun q => q6 (o16.1.1.trans q)
      have i3 : S3_X12_hasLine B1 J' = B6 := by rw [eM3]; unfold FI_X12_numeral; rw [if_neg cG]
      rw [i3, num_id q6 f6, if_neg q6, if_neg cG]
      exact LM.of o16.1 (fun q => absurd q q6) (kt0.tr o16.2.2.1.kt)
