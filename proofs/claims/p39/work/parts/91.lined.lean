/-! both: colds, parties alike: printed by wip/gen/inv/g91.py -/
theorem cold_R {n : Nat} {A B : SI} {J J' J2 : SJ} (s : Si n A B) (c0 : A 41 1 = 0) (d : DT A B) (v : B 130 29 = 5) : LM n A B (FI_X4_coldLine A J) (if T_X12_line_j72 B J' 130 30 = 0 then (T_X12_line_j492 B J').1 else T_X12_line_j72 B J') J J2 := by
  have cB : B 130 30 = 0 := s.1.symm.trans c0
  obtain ⟨c, hc, m0, m1, m2, _⟩ := d.1.2.2.2.2.1
  have t72 := t72_5 (J := J') v m2 hc
  have fu := fullc_v (J := J) m0 m1 hc (by omega)
  by_cases z : c = 3
  · rw [if_pos z] at t72 fu
    have b := beg_1 (J := J) c0
    have o := op_fail (w := 2) (J := J) (J' := J') s (by decide)
    have eL : FI_X4_coldLine A J = FI_X4_fail 2 A J := by
      unfold FI_X4_coldLine S1_X4_coldLine
      rw [fu, b.1, num_id b.2.1 b.2.2, num_id b.2.1 b.2.2, if_neg b.2.1]
    have wf : ¬ FI_X12_wrong 2 B J' 130 30 = 0 := fun q => absurd ((wrong_Fm (w := 2) (J := J') cB).1.symm.trans q) (by decide)
    rw [eL, t72, if_neg wf]
    exact LM.of o.1.1 (fun q => absurd q o.2) o.1.2.2.1.kt
  · rw [if_neg z] at t72 fu
    rw [t72, if_pos cB, t492_5 v]
    obtain ⟨o1, d2, c1, _, fB⟩ := word_G (k := 63) (w := 5) (J := J) (J' := J') s c0 d (by omega) v t72
    have eb : FI_X4_begin (F_X7_isFull 63 A J) A J = FI_X8_step A J := by rw [fu, beg_0]
    have n1 : FI_X8_step A J 63 1 = nI c := (o1.2.1 63 1 (by omega) (by omega)).trans m1
    have n2 : FI_X12_token (S1_X12_line B J') J' 132 15 = nI c := (fB 132 15 (by omega)).trans m2
    have gx1 : nx A ≤ nx (FI_X8_step A J) := o1.2.2.2.2 c1
    generalize hA : FI_X8_step A J = A1 at o1 d2 eb n1 c1 gx1
    generalize hB : FI_X12_token (S1_X12_line B J') J' = B1 at o1 d2 n2 fB
    have kt0 : KTM B B1 := fun a b z => fB a b (by unfold mT at z; omega)
    have ef : F_X12_fresher 5 B1 J' = nI c := fr_v (w := 5) (by omega) n2
    have o2 := op_num (a0 := 0) (a1 := 99) (J := J) (J' := J') o1.1 (by decide) (by decide)
    have e6 : S22_X12_line B J' = u2 (FI_X12_numeral 0 99 B1 J') 146 (3 + c) (F_X12_numeral 0 99 B1 J') := by unfold S22_X12_line; rw [hB, ef, show (3 : Int32) = nI 3 from rfl, ix_v (by omega)]
    have e25 : S25_X12_line B J' = S22_X12_line B J' 146 (3 + c) := by unfold S25_X12_line; rw [hB, ef, show (3 : Int32) = nI 3 from rfl, ix_v (by omega)]
    have s2 : Si n (FI_X4_number 0 99 A1 J) (S22_X12_line B J') := by rw [e6]; exact o2.1.1.u (by omega)
    have k2 : KC 146 147 (3 + c) B1 (S22_X12_line B J') := by rw [e6]; exact (KC.rf.y o2.1.2.2.1).u (by omega)
    have y2 : S22_X12_line B J' 146 (3 + c) = F_X12_numeral 0 99 B1 J' := by rw [e6]; exact u2_s _ _ _ _
    have e23 : S23_X12_line B J' = u2 (FI_X12_numeral (T_X12_line_j418 B J') 99 (S22_X12_line B J') J') 147 (3 + c) (F_X12_numeral (T_X12_line_j418 B J') 99 (S22_X12_line B J') J') := by unfold S23_X12_line; rw [hB, ef, show (3 : Int32) = nI 3 from rfl, ix_v (by omega)]
    have eL : FI_X4_coldLine A J = if FI_X4_number (F_X4_number 0 99 A1 J) 99 (FI_X4_number 0 99 A1 J) J 41 1 = 0 then FI_X7_add 63 0 (F_X4_number 0 99 A1 J) (F_X4_number (F_X4_number 0 99 A1 J) 99 (FI_X4_number 0 99 A1 J) J) 0 (FI_X4_number (F_X4_number 0 99 A1 J) 99 (FI_X4_number 0 99 A1 J) J) J else FI_X4_number (F_X4_number 0 99 A1 J) 99 (FI_X4_number 0 99 A1 J) J := by
      unfold FI_X4_coldLine S3_X4_coldLine S2_X4_coldLine S1_X4_coldLine
      rw [eb]
    rw [eL]
    have er : ∀ X : SI, X = S23_X12_line B J' → X 132 15 = nI c → S24_X12_line B J' = u2 X 132 15 (nI (c + 1)) := fun X e e2 => by
      unfold S24_X12_line
      rw [← e]
      have e1 : F_X12_fresher 5 X J' = nI c := fr_v (w := 5) (by omega) e2
      rw [e1, nI_1]
      exact rd_v (w := 5) (by omega)
    by_cases cM : FI_X4_number 0 99 A1 J 41 1 = 0
    · have w2 := o2.2 cM
      have cT : S22_X12_line B J' 130 30 = 0 := s2.1.symm.trans cM
      have e418 : T_X12_line_j418 B J' = F_X4_number 0 99 A1 J := by
        unfold T_X12_line_j418
        rw [if_pos cT, e25, y2, w2.1]
      rw [e418] at e23
      have o3 := op_num (a0 := F_X4_number 0 99 A1 J) (a1 := 99) (J := J) (J' := J') s2 (Int32.le_trans w2.2.2.1 (by decide)) (by decide)
      have s3 : Si n (FI_X4_number (F_X4_number 0 99 A1 J) 99 (FI_X4_number 0 99 A1 J) J) (S23_X12_line B J') := by rw [e23]; exact o3.1.1.u (by omega)
      have k3 : KC 146 147 (3 + c) B1 (S23_X12_line B J') := by rw [e23]; exact (k2.y o3.1.2.2.1).u (by omega)
      have y3 : S23_X12_line B J' 147 (3 + c) = F_X12_numeral (F_X4_number 0 99 A1 J) 99 (S22_X12_line B J') J' := by rw [e23]; exact u2_s _ _ _ _
      have y23 : S23_X12_line B J' 146 (3 + c) = F_X12_numeral 0 99 B1 J' := by rw [e23]; exact (u2_n _ _ (by omega)).trans ((o3.1.2.2.1 146 _ (by omega)).trans y2)
      rw [er _ rfl ((k3 132 15 (by omega) (by omega)).trans n2)]
      have kx : KX A1 (FI_X4_number (F_X4_number 0 99 A1 J) 99 (FI_X4_number 0 99 A1 J) J) := o2.1.2.1.tr o3.1.2.1
      have sT : Si n (FI_X4_number (F_X4_number 0 99 A1 J) 99 (FI_X4_number 0 99 A1 J) J) (u2 (S23_X12_line B J') 132 15 (nI (c + 1))) := s3.u (by omega)
      have kt9 : KTM B (u2 (S23_X12_line B J') 132 15 (nI (c + 1))) := (kt0.tr (fun a b z => k3 a b (by unfold mT at z; omega) (by unfold mT at z; omega))).u (by unfold mT; omega)
      by_cases cL : FI_X4_number (F_X4_number 0 99 A1 J) 99 (FI_X4_number 0 99 A1 J) J 41 1 = 0
      · rw [if_pos cL]
        have w3 := o3.2 cL
        refine LM.of (sT.fr (fun a b z => tadd_fr (by omega)) (fun _ _ _ => rfl)) (fun _ => ⟨⟨?_, ?_, ?_⟩, ?_⟩) kt9
        · refine d2.1.tK (fun a b x1 x2 => ?_) (fun a b x1 x2 x3 x4 => ?_) ?_
          · rw [tadd_fr (by omega)]
            exact kx a b (by omega) (by omega)
          · rw [u2_n _ _ (by omega)]
            exact k3 a b (by omega) (by omega)
          · have tb0 : TBL 63 5 3 3 RSK (FI_X4_number (F_X4_number 0 99 A1 J) 99 (FI_X4_number 0 99 A1 J) J) B1 := d2.1.2.2.2.2.1.mv (kx _ _ (by omega) (by omega)) (kx _ _ (by omega) (by omega)) rfl (fun p hp i _ => kx p.1 i (by have := rsK hp; omega) (by have := rsK hp; omega)) (fun _ _ _ _ => rfl)
            refine tb0.add (c := c) (by omega) ((kx _ _ (by omega) (by omega)).trans n1) (by omega) (fun p hp => by have := rsK hp; omega) (u2_s _ _ _ _) (fun p hp i hi => ?_) (fun p hp => ?_)
            · rw [u2_n _ _ (by have := rsK hp; omega)]
              exact k3 _ _ (by have := rsK hp; omega) (by omega)
            · revert p
              rw [rs_in.2.2.2.2]
              refine ⟨?_, ?_⟩
              · dsimp only
                rw [if_neg (show ¬ (65 : Nat) = 64 by omega), if_pos (show (65 : Nat) = 65 by omega), u2_n _ _ (by omega), y23]
                exact ⟨w2.1, by unfold BD; simp⟩
              · dsimp only
                rw [if_neg (show ¬ (66 : Nat) = 64 by omega), if_neg (show ¬ (66 : Nat) = 65 by omega), if_pos (show (66 : Nat) = 66 by omega), u2_n _ _ (by omega), y3]
                exact ⟨w3.1, by unfold BD; simp⟩
        · exact d2.2.1.mv (fun b z => (tadd_fr (by omega)).trans (kx 42 b (by omega) (by omega))) (fun b z => (u2_n _ _ (by omega)).trans (k3 132 b (by omega) (by omega))) (fun v _ => by rw [u2_n _ _ (by omega), k3 130 23 (by omega) (by omega)]) ((u2_n _ _ (by omega)).trans (k3 130 24 (by omega) (by omega)))
        · exact d2.2.2.mv (fun a b z => (tadd_fr (by omega)).trans (kx a b (by omega) (by omega))) (fun a b z => (u2_n _ _ (by omega)).trans (k3 a b (by omega) (by omega))) (fun v _ => by rw [u2_n _ _ (by omega), k3 130 23 (by omega) (by omega)])
        · have g2 := o2.1.2.2.2.2 cM
          have g3 := o3.1.2.2.2.2 cL
          have e : nx (FI_X7_add 63 0 (F_X4_number 0 99 A1 J) (F_X4_number (F_X4_number 0 99 A1 J) 99 (FI_X4_number 0 99 A1 J) J) 0 (FI_X4_number (F_X4_number 0 99 A1 J) 99 (FI_X4_number 0 99 A1 J) J) J) = nx (FI_X4_number (F_X4_number 0 99 A1 J) 99 (FI_X4_number 0 99 A1 J) J) := by unfold nx; rw [tadd_fr (by omega)]
          rw [e]
          omega
      · rw [if_neg cL]
        exact LM.of sT (fun q => absurd q cL) kt9
    · have cT : ¬ S22_X12_line B J' 130 30 = 0 := fun q => cM (s2.1.trans q)
      have ei : FI_X12_numeral (T_X12_line_j418 B J') 99 (S22_X12_line B J') J' = S22_X12_line B J' := by unfold FI_X12_numeral; rw [if_neg cT]
      rw [ei] at e23
      have z1 := num_id (a0 := F_X4_number 0 99 A1 J) (a1 := 99) (J := J) cM (o2.1.1.2.2.2 cM)
      rw [er _ e23.symm ((u2_n _ _ (by omega)).trans ((k2 132 15 (by omega) (by omega)).trans n2)), z1, if_neg cM]
      exact LM.of ((s2.u (by omega)).u (by omega)) (fun q => absurd q cM) (((kt0.tr (fun a b z => k2 a b (by unfold mT at z; omega) (by unfold mT at z; omega))).u (by unfold mT; omega)).u (by unfold mT; omega))
theorem party_R {n : Nat} {A B : SI} {J J' J2 : SJ} (s : Si n A B) (c0 : A 41 1 = 0) (d : DT A B) (v : B 130 29 = 3) : LM n A B (FI_X4_partyLine A J) (if T_X12_line_j72 B J' 130 30 = 0 then (T_X12_line_j492 B J').1 else T_X12_line_j72 B J') J J2 := by
  have cB : B 130 30 = 0 := s.1.symm.trans c0
  obtain ⟨c, hc, m0, m1, m2, _⟩ := d.1.2.2.1
  have t72 := t72_3 (J := J') v m2 hc
  have fu := fullc_v (J := J) m0 m1 hc (by omega)
  by_cases z : c = 4
  · rw [if_pos z] at t72 fu
    have b := beg_1 (J := J) c0
    have o := op_fail (w := 2) (J := J) (J' := J') s (by decide)
    have eL : FI_X4_partyLine A J = FI_X4_fail 2 A J := by
      unfold FI_X4_partyLine S3_X4_partyLine S2_X4_partyLine S1_X4_partyLine
      rw [fu, b.1, fresh_id b.2.1 b.2.2, find_id b.2.1, step_id b.2.2, num_id b.2.1 b.2.2, num_id b.2.1 b.2.2, if_neg b.2.1]
    have wf : ¬ FI_X12_wrong 2 B J' 130 30 = 0 := fun q => absurd ((wrong_Fm (w := 2) (J := J') cB).1.symm.trans q) (by decide)
    rw [eL, t72, if_neg wf]
    exact LM.of o.1.1 (fun q => absurd q o.2) o.1.2.2.1.kt
  · rw [if_neg z] at t72 fu
    rw [t72, if_pos cB, t492_3 v]
    obtain ⟨o1, d2, c1, _, fB⟩ := word_G (k := 53) (w := 3) (J := J) (J' := J') s c0 d (by omega) v t72
    have eb : FI_X4_begin (F_X7_isFull 53 A J) A J = FI_X8_step A J := by rw [fu, beg_0]
    have n1 : FI_X8_step A J 53 1 = nI c := (o1.2.1 53 1 (by omega) (by omega)).trans m1
    have n2 : FI_X12_token (S1_X12_line B J') J' 132 13 = nI c := (fB 132 13 (by omega)).trans m2
    have gx1 : nx A ≤ nx (FI_X8_step A J) := o1.2.2.2.2 c1
    generalize hA : FI_X8_step A J = A1 at o1 d2 eb n1 c1 gx1
    generalize hB : FI_X12_token (S1_X12_line B J') J' = B1 at o1 d2 n2 fB
    have kt0 : KTM B B1 := fun a b z => fB a b (by unfold mT at z; omega)
    have ef : F_X12_fresher 3 B1 J' = nI c := fr_v (w := 3) (by omega) n2
    obtain ⟨c9, _, n09, n19, _, n3⟩ := d2.1.2.2.1
    have e9 : c9 = c := (nI_eq (by omega) (by omega)).mp (n19.symm.trans n1)
    subst e9
    have e16 : S16_X12_line B J' = FI_X12_partyLine (nI 4 + nI c9) B1 J' := by unfold S16_X12_line; rw [hB, ef]; rfl
    rw [e16]
    have ix : (nI 4 + nI c9).toNatClampNeg = 4 + c9 := ix_v (by omega)
    obtain ⟨mc, hmc, _, mm1, mm2, mm3⟩ := d2.1.1
    have o2 := op_fresh (k := 53) (r := 140) (la := 8) (f := 4) (c := c9) (J := J) (J' := J') o1.1 (fun _ => ⟨by omega, n1, fun i hi => (n3 i hi (54, 140) (by unfold RSP; simp)).1⟩) (by omega)
    have e1 : S1_X12_partyLine (nI 4 + nI c9) B1 J' = u2 (FI_X12_fresh 140 8 (nI 4) (nI c9) B1 J') 140 (4 + c9) (F_X12_fresh 140 8 (nI 4) (nI c9) B1 J') := by unfold S1_X12_partyLine; rw [ef, ix]; rfl
    have s2 : Si n (FI_X4_fresh 53 A1 J) (S1_X12_partyLine (nI 4 + nI c9) B1 J') := by rw [e1]; exact o2.1.1.u (by omega)
    have k2 : KC 140 143 (4 + c9) B1 (S1_X12_partyLine (nI 4 + nI c9) B1 J') := by rw [e1]; exact (KC.rf.y o2.1.2.2.1).u (by omega)
    have y2 : S1_X12_partyLine (nI 4 + nI c9) B1 J' 140 (4 + c9) = F_X12_fresh 140 8 (nI 4) (nI c9) B1 J' := by rw [e1]; exact u2_s _ _ _ _
    have m2 : S1_X12_partyLine (nI 4 + nI c9) B1 J' 132 10 = nI mc := (k2 132 10 (by omega) (by omega)).trans mm2
    have efm : F_X12_fresher 0 (S1_X12_partyLine (nI 4 + nI c9) B1 J') J' = nI mc := fr_v (w := 0) (by omega) m2
    have o3 := op_find (k := 43) (r := 133) (la := 12) (f := 6) (c := mc) (J := J) (J' := J') s2 (fun _ => ⟨by omega, (o2.1.2.1 43 1 (by omega) (by omega)).trans mm1, fun i hi => by
      rw [o2.1.2.1 44 i (by omega) (by omega), k2 133 _ (by omega) (by omega)]
      exact (mm3 i hi (44, 133) (by unfold RSM; simp)).1⟩) (by omega)
    have eh : FI_X12_markAtHand (S1_X12_partyLine (nI 4 + nI c9) B1 J') J' = FI_X12_atHand 133 12 (nI 6) (nI mc) (S1_X12_partyLine (nI 4 + nI c9) B1 J') J' ∧ F_X12_markAtHand (S1_X12_partyLine (nI 4 + nI c9) B1 J') J' = F_X12_atHand 133 12 (nI 6) (nI mc) (S1_X12_partyLine (nI 4 + nI c9) B1 J') J' := by
      unfold FI_X12_markAtHand F_X12_markAtHand
      rw [efm]
      exact ⟨rfl, rfl⟩
    have e2 : S2_X12_partyLine (nI 4 + nI c9) B1 J' = u2 (FI_X12_atHand 133 12 (nI 6) (nI mc) (S1_X12_partyLine (nI 4 + nI c9) B1 J') J') 141 (4 + c9) (F_X12_atHand 133 12 (nI 6) (nI mc) (S1_X12_partyLine (nI 4 + nI c9) B1 J') J') := by unfold S2_X12_partyLine; rw [eh.1, eh.2, ix]
    have s3 : Si n (FI_X4_find 43 (FI_X4_fresh 53 A1 J) J) (S2_X12_partyLine (nI 4 + nI c9) B1 J') := by rw [e2]; exact o3.1.1.u (by omega)
    have k3 : KC 140 143 (4 + c9) B1 (S2_X12_partyLine (nI 4 + nI c9) B1 J') := by rw [e2]; exact (k2.y o3.1.2.2.1).u (by omega)
    have y3 : S2_X12_partyLine (nI 4 + nI c9) B1 J' 141 (4 + c9) = F_X12_atHand 133 12 (nI 6) (nI mc) (S1_X12_partyLine (nI 4 + nI c9) B1 J') J' := by rw [e2]; exact u2_s _ _ _ _
    have y23 : S2_X12_partyLine (nI 4 + nI c9) B1 J' 140 (4 + c9) = F_X12_fresh 140 8 (nI 4) (nI c9) B1 J' := by rw [e2]; exact (u2_n _ _ (by omega)).trans ((o3.1.2.2.1 140 _ (by omega)).trans y2)
    have o4 := (op_step (J := J) (J' := J') s3).1
    have k4 := k3.y o4.2.2.1
    have y4 : FI_X12_goOn (S2_X12_partyLine (nI 4 + nI c9) B1 J') J' 141 (4 + c9) = F_X12_atHand 133 12 (nI 6) (nI mc) (S1_X12_partyLine (nI 4 + nI c9) B1 J') J' := (o4.2.2.1 141 _ (by omega)).trans y3
    have y24 : FI_X12_goOn (S2_X12_partyLine (nI 4 + nI c9) B1 J') J' 140 (4 + c9) = F_X12_fresh 140 8 (nI 4) (nI c9) B1 J' := (o4.2.2.1 140 _ (by omega)).trans y23
    have kx4 : KX A1 (FI_X8_step (FI_X4_find 43 (FI_X4_fresh 53 A1 J) J) J) := (o2.1.2.1.tr o3.1.2.1).tr o4.2.1
    have eL : FI_X4_partyLine A J = if FI_X4_number 0 99 (FI_X4_number 0 (atF (FI_X8_step (FI_X4_find 43 (FI_X4_fresh 53 A1 J) J) J 46) 8 (F_X4_find 43 (FI_X4_fresh 53 A1 J) J) - 1) (FI_X8_step (FI_X4_find 43 (FI_X4_fresh 53 A1 J) J) J) J) J 41 1 = 0 then FI_X7_add 53 (F_X4_fresh 53 A1 J) (F_X4_find 43 (FI_X4_fresh 53 A1 J) J) (F_X4_number 0 (atF (FI_X8_step (FI_X4_find 43 (FI_X4_fresh 53 A1 J) J) J 46) 8 (F_X4_find 43 (FI_X4_fresh 53 A1 J) J) - 1) (FI_X8_step (FI_X4_find 43 (FI_X4_fresh 53 A1 J) J) J) J) (F_X4_number 0 99 (FI_X4_number 0 (atF (FI_X8_step (FI_X4_find 43 (FI_X4_fresh 53 A1 J) J) J 46) 8 (F_X4_find 43 (FI_X4_fresh 53 A1 J) J) - 1) (FI_X8_step (FI_X4_find 43 (FI_X4_fresh 53 A1 J) J) J) J) J) (FI_X4_number 0 99 (FI_X4_number 0 (atF (FI_X8_step (FI_X4_find 43 (FI_X4_fresh 53 A1 J) J) J 46) 8 (F_X4_find 43 (FI_X4_fresh 53 A1 J) J) - 1) (FI_X8_step (FI_X4_find 43 (FI_X4_fresh 53 A1 J) J) J) J) J) J else FI_X4_number 0 99 (FI_X4_number 0 (atF (FI_X8_step (FI_X4_find 43 (FI_X4_fresh 53 A1 J) J) J 46) 8 (F_X4_find 43 (FI_X4_fresh 53 A1 J) J) - 1) (FI_X8_step (FI_X4_find 43 (FI_X4_fresh 53 A1 J) J) J) J) J := by
      unfold FI_X4_partyLine S4_X4_partyLine S3_X4_partyLine S2_X4_partyLine S1_X4_partyLine
      rw [eb]
    rw [eL]
    unfold FI_X12_partyLine
    have e4 : S4_X12_partyLine (nI 4 + nI c9) B1 J' = u2 (S3_X12_partyLine (nI 4 + nI c9) B1 J') 142 (4 + c9) (F_X12_numeral 0 (T_X12_partyLine_j68 (nI 4 + nI c9) B1 J') (FI_X12_goOn (S2_X12_partyLine (nI 4 + nI c9) B1 J') J') J') := by unfold S4_X12_partyLine; rw [ix]
    have e5 : S5_X12_partyLine (nI 4 + nI c9) B1 J' = u2 (FI_X12_numeral 0 99 (S4_X12_partyLine (nI 4 + nI c9) B1 J') J') 143 (4 + c9) (F_X12_numeral 0 99 (S4_X12_partyLine (nI 4 + nI c9) B1 J') J') := by unfold S5_X12_partyLine; rw [ix]
    have e6 : S5_X12_partyLine (nI 4 + nI c9) B1 J' 132 13 = nI c9 → S6_X12_partyLine (nI 4 + nI c9) B1 J' = u2 (S5_X12_partyLine (nI 4 + nI c9) B1 J') 132 13 (nI (c9 + 1)) := fun e2 => by
      unfold S6_X12_partyLine
      have e1 : F_X12_fresher 3 (S5_X12_partyLine (nI 4 + nI c9) B1 J') J' = nI c9 := fr_v (w := 3) (by omega) e2
      rw [e1, nI_1]
      exact rd_v (w := 3) (by omega)
    have e3 : S3_X12_partyLine (nI 4 + nI c9) B1 J' = FI_X12_numeral 0 (T_X12_partyLine_j68 (nI 4 + nI c9) B1 J') (FI_X12_goOn (S2_X12_partyLine (nI 4 + nI c9) B1 J') J') J' := rfl
    by_cases cM : FI_X8_step (FI_X4_find 43 (FI_X4_fresh 53 A1 J) J) J 41 1 = 0
    · have b3 := o4.c0 cM
      have w3 := o3.2 b3
      obtain ⟨i, hi, ei⟩ := w3.2
      have b2 := o3.1.c0 b3
      have vl := o2.2 b2
      have wy := mm3 i hi (46, 135) (by unfold RSM; simp)
      have cG : FI_X12_goOn (S2_X12_partyLine (nI 4 + nI c9) B1 J') J' 130 30 = 0 := o4.1.1.symm.trans cM
      have eat : atF (FI_X8_step (FI_X4_find 43 (FI_X4_fresh 53 A1 J) J) J 46) 8 (F_X4_find 43 (FI_X4_fresh 53 A1 J) J) = A1 46 i := by
        rw [ei, atF_v (by omega) (by omega)]
        exact kx4 46 i (by omega) (by omega)
      have e68 : T_X12_partyLine_j68 (nI 4 + nI c9) B1 J' = A1 46 i - 1 := by
        unfold T_X12_partyLine_j68 S7_X12_partyLine
        rw [if_pos cG, ix, y4, ← w3.1, ei, show (6 : Int32) = nI 6 from rfl, ix_v (by omega), k4 135 _ (by omega) (by omega), wy.1]
      have wr : inR (A1 46 i) 7 := by have := wy.2; unfold BD at this; simp at this; exact this.1
      have wb : A1 46 i - 1 ≤ 5 := by
        obtain ⟨j, hj, ej⟩ := wr.n
        rw [ej]
        rcases (by omega : j = 0 ∨ j = 1 ∨ j = 2 ∨ j = 3 ∨ j = 4 ∨ j = 5 ∨ j = 6) with rfl | rfl | rfl | rfl | rfl | rfl | rfl <;> decide
      rw [eat]
      rw [e68] at e4 e3
      have o5 := op_num (a0 := 0) (a1 := A1 46 i - 1) (J := J) (J' := J') o4.1 (by decide) (Int32.le_trans wb (by decide))
      rw [e3] at e4
      have s5 : Si n (FI_X4_number 0 (A1 46 i - 1) (FI_X8_step (FI_X4_find 43 (FI_X4_fresh 53 A1 J) J) J) J) (S4_X12_partyLine (nI 4 + nI c9) B1 J') := by rw [e4]; exact o5.1.1.u (by omega)
      have k5 : KC 140 143 (4 + c9) B1 (S4_X12_partyLine (nI 4 + nI c9) B1 J') := by rw [e4]; exact (k4.y o5.1.2.2.1).u (by omega)
      have y5 : S4_X12_partyLine (nI 4 + nI c9) B1 J' 142 (4 + c9) = F_X12_numeral 0 (A1 46 i - 1) (FI_X12_goOn (S2_X12_partyLine (nI 4 + nI c9) B1 J') J') J' := by rw [e4]; exact u2_s _ _ _ _
      have y45 : S4_X12_partyLine (nI 4 + nI c9) B1 J' 141 (4 + c9) = F_X12_atHand 133 12 (nI 6) (nI mc) (S1_X12_partyLine (nI 4 + nI c9) B1 J') J' := by rw [e4]; exact (u2_n _ _ (by omega)).trans ((o5.1.2.2.1 141 _ (by omega)).trans y4)
      have y25 : S4_X12_partyLine (nI 4 + nI c9) B1 J' 140 (4 + c9) = F_X12_fresh 140 8 (nI 4) (nI c9) B1 J' := by rw [e4]; exact (u2_n _ _ (by omega)).trans ((o5.1.2.2.1 140 _ (by omega)).trans y24)
      have o6 := op_num (a0 := 0) (a1 := 99) (J := J) (J' := J') s5 (by decide) (by decide)
      have s6 : Si n (FI_X4_number 0 99 (FI_X4_number 0 (A1 46 i - 1) (FI_X8_step (FI_X4_find 43 (FI_X4_fresh 53 A1 J) J) J) J) J) (S5_X12_partyLine (nI 4 + nI c9) B1 J') := by rw [e5]; exact o6.1.1.u (by omega)
      have k6 : KC 140 143 (4 + c9) B1 (S5_X12_partyLine (nI 4 + nI c9) B1 J') := by rw [e5]; exact (k5.y o6.1.2.2.1).u (by omega)
      have y6 : S5_X12_partyLine (nI 4 + nI c9) B1 J' 143 (4 + c9) = F_X12_numeral 0 99 (S4_X12_partyLine (nI 4 + nI c9) B1 J') J' := by rw [e5]; exact u2_s _ _ _ _
      have y56 : S5_X12_partyLine (nI 4 + nI c9) B1 J' 142 (4 + c9) = F_X12_numeral 0 (A1 46 i - 1) (FI_X12_goOn (S2_X12_partyLine (nI 4 + nI c9) B1 J') J') J' := by rw [e5]; exact (u2_n _ _ (by omega)).trans ((o6.1.2.2.1 142 _ (by omega)).trans y5)
      have y46 : S5_X12_partyLine (nI 4 + nI c9) B1 J' 141 (4 + c9) = F_X12_atHand 133 12 (nI 6) (nI mc) (S1_X12_partyLine (nI 4 + nI c9) B1 J') J' := by rw [e5]; exact (u2_n _ _ (by omega)).trans ((o6.1.2.2.1 141 _ (by omega)).trans y45)
      have y26 : S5_X12_partyLine (nI 4 + nI c9) B1 J' 140 (4 + c9) = F_X12_fresh 140 8 (nI 4) (nI c9) B1 J' := by rw [e5]; exact (u2_n _ _ (by omega)).trans ((o6.1.2.2.1 140 _ (by omega)).trans y25)
      rw [e6 ((k6 132 13 (by omega) (by omega)).trans n2)]
      have kx : KX A1 (FI_X4_number 0 99 (FI_X4_number 0 (A1 46 i - 1) (FI_X8_step (FI_X4_find 43 (FI_X4_fresh 53 A1 J) J) J) J) J) := (kx4.tr o5.1.2.1).tr o6.1.2.1
      have sT : Si n (FI_X4_number 0 99 (FI_X4_number 0 (A1 46 i - 1) (FI_X8_step (FI_X4_find 43 (FI_X4_fresh 53 A1 J) J) J) J) J) (u2 (S5_X12_partyLine (nI 4 + nI c9) B1 J') 132 13 (nI (c9 + 1))) := s6.u (by omega)
      have kt9 : KTM B (u2 (S5_X12_partyLine (nI 4 + nI c9) B1 J') 132 13 (nI (c9 + 1))) := (kt0.tr (fun a b z => k6 a b (by unfold mT at z; omega) (by unfold mT at z; omega))).u (by unfold mT; omega)
      by_cases cL : FI_X4_number 0 99 (FI_X4_number 0 (A1 46 i - 1) (FI_X8_step (FI_X4_find 43 (FI_X4_fresh 53 A1 J) J) J) J) J 41 1 = 0
      · rw [if_pos cL]
        have w6 := o6.2 cL
        have b5 := o6.1.c0 cL
        have w5 := o5.2 b5
        refine LM.of (sT.fr (fun a b z => tadd_fr (by omega)) (fun _ _ _ => rfl)) (fun _ => ⟨⟨?_, ?_, ?_⟩, ?_⟩) kt9
        · have e0x := (kx 53 0 (by omega) (by omega)).trans n09
          have e1x := (kx 53 1 (by omega) (by omega)).trans n1
          refine d2.1.tP (fun a b x1 x2 => ?_) (fun a b x1 x2 x3 x4 => ?_) ?_ ⟨c9, F_X4_find 43 (FI_X4_fresh 53 A1 J) J, by omega, n1, u2_s _ _ _ _, fun t ht => by
            rw [tadd_v (mx := 4) e0x e1x (by omega) (by omega)]
            exact (u2_n _ _ (by omega)).trans ((u2_n _ _ (by omega)).trans ((u2_n _ _ (by omega)).trans ((u2_n _ _ (by omega)).trans ((u2_n _ _ (by omega)).trans (kx 55 t (by omega) (by omega)))))), by
            rw [tadd_v (mx := 4) e0x e1x (by omega) (by omega)]
            exact (u2_n _ _ (by omega)).trans ((u2_n _ _ (by omega)).trans ((u2_n _ _ (by omega)).trans (u2_s _ _ _ _))), by
            rw [ei, mm1, nI_clamp (by omega), nI_clamp (by omega)]
            exact hi⟩
          · rw [tadd_fr (by omega)]
            exact kx a b (by omega) (by omega)
          · rw [u2_n _ _ (by omega)]
            exact k6 a b (by omega) (by omega)
          · have tb0 : TBL 53 3 4 4 RSP (FI_X4_number 0 99 (FI_X4_number 0 (A1 46 i - 1) (FI_X8_step (FI_X4_find 43 (FI_X4_fresh 53 A1 J) J) J) J) J) B1 := d2.1.2.2.1.mv (kx _ _ (by omega) (by omega)) (kx _ _ (by omega) (by omega)) rfl (fun p hp i _ => kx p.1 i (by have := rsP hp; omega) (by have := rsP hp; omega)) (fun _ _ _ _ => rfl)
            refine tb0.add (c := c9) (by omega) ((kx _ _ (by omega) (by omega)).trans n1) (by omega) (fun p hp => by have := rsP hp; omega) (u2_s _ _ _ _) (fun p hp i hi => ?_) (fun p hp => ?_)
            · rw [u2_n _ _ (by have := rsP hp; omega)]
              exact k6 _ _ (by have := rsP hp; omega) (by omega)
            · revert p
              rw [rs_in.2.2.1]
              refine ⟨?_, ?_, ?_, ?_⟩
              · dsimp only
                rw [if_pos (show (54 : Nat) = 54 by omega), u2_n _ _ (by omega), y26]
                exact ⟨vl, by unfold BD; simp⟩
              · dsimp only
                rw [if_neg (show ¬ (55 : Nat) = 54 by omega), if_pos (show (55 : Nat) = 55 by omega), u2_n _ _ (by omega), y46]
                exact ⟨w3.1, by unfold BD; simp; rw [ei]; exact inR_nI (by omega) (by decide)⟩
              · dsimp only
                rw [if_neg (show ¬ (56 : Nat) = 54 by omega), if_neg (show ¬ (56 : Nat) = 55 by omega), if_pos (show (56 : Nat) = 56 by omega), u2_n _ _ (by omega), y56]
                exact ⟨w5.1, by unfold BD; simp; exact nv_in (a := 5) (hi := 5) rfl (by omega) (by decide) w5.2.1 (Int32.le_trans w5.2.2.1 wb)⟩
              · dsimp only
                rw [if_neg (show ¬ (57 : Nat) = 54 by omega), if_neg (show ¬ (57 : Nat) = 55 by omega), if_neg (show ¬ (57 : Nat) = 56 by omega), u2_n _ _ (by omega), y6]
                exact ⟨w6.1, by unfold BD; simp; exact nv_in (a := 99) rfl (by omega) (by decide) w6.2.1 w6.2.2.1⟩
        · exact d2.2.1.mv (fun b z => (tadd_fr (by omega)).trans (kx 42 b (by omega) (by omega))) (fun b z => (u2_n _ _ (by omega)).trans (k6 132 b (by omega) (by omega))) (fun v _ => by rw [u2_n _ _ (by omega), k6 130 23 (by omega) (by omega)]) ((u2_n _ _ (by omega)).trans (k6 130 24 (by omega) (by omega)))
        · exact d2.2.2.mv (fun a b z => (tadd_fr (by omega)).trans (kx a b (by omega) (by omega))) (fun a b z => (u2_n _ _ (by omega)).trans (k6 a b (by omega) (by omega))) (fun v _ => by rw [u2_n _ _ (by omega), k6 130 23 (by omega) (by omega)])
        · have g2 := o2.1.2.2.2.2 b2
          have g3 := o3.1.2.2.2.2 b3
          have g4 := o4.2.2.2.2 cM
          have g5 := o5.1.2.2.2.2 b5
          have g6 := o6.1.2.2.2.2 cL
          refine Nat.le_trans (Nat.le_trans (Nat.le_trans (Nat.le_trans (Nat.le_trans gx1 g2) g3) g4) (Nat.le_trans g5 g6)) (Nat.le_of_eq ?_)
          unfold nx
          rw [tadd_fr (by omega)]
      · rw [if_neg cL]
        exact LM.of sT (fun q => absurd q cL) kt9
    · have f4 := o4.1.2.2.2 cM
      have cG : ¬ FI_X12_goOn (S2_X12_partyLine (nI 4 + nI c9) B1 J') J' 130 30 = 0 := fun q => cM (o4.1.1.trans q)
      rw [num_id cM f4, num_id cM f4, if_neg cM]
      have i3 : S3_X12_partyLine (nI 4 + nI c9) B1 J' = FI_X12_goOn (S2_X12_partyLine (nI 4 + nI c9) B1 J') J' := by rw [e3]; unfold FI_X12_numeral; rw [if_neg cG]
      rw [i3] at e4
      have cG2 : ¬ S4_X12_partyLine (nI 4 + nI c9) B1 J' 130 30 = 0 := by rw [e4, u2_n _ _ (by omega)]; exact cG
      have i5 : FI_X12_numeral 0 99 (S4_X12_partyLine (nI 4 + nI c9) B1 J') J' = S4_X12_partyLine (nI 4 + nI c9) B1 J' := by unfold FI_X12_numeral; rw [if_neg cG2]
      rw [i5] at e5
      have s5 : Si n (FI_X8_step (FI_X4_find 43 (FI_X4_fresh 53 A1 J) J) J) (S5_X12_partyLine (nI 4 + nI c9) B1 J') := by rw [e5, e4]; exact (o4.1.u (by omega)).u (by omega)
      have k5 : S5_X12_partyLine (nI 4 + nI c9) B1 J' 132 13 = nI c9 := by
        rw [e5, e4]
        exact (u2_n _ _ (by omega)).trans ((u2_n _ _ (by omega)).trans ((k4 132 13 (by omega) (by omega)).trans n2))
      rw [e6 k5]
      refine LM.of (s5.u (by omega)) (fun q => absurd q cM) (KTM.u ?_ (by unfold mT; omega))
      rw [e5, e4]
      exact ((kt0.tr (fun a b z => k4 a b (by unfold mT at z; omega) (by unfold mT at z; omega))).u (by unfold mT; omega)).u (by unfold mT; omega)
