/-! both: lines of tables alike: printed by wip/gen/inv/g90.py -/
theorem t72_0 {c : Nat} {B : SI} {J : SJ} (v : B 130 29 = 0) (e : B 132 10 = nI c) (hc : c ≤ 6) : T_X12_line_j72 B J = if c = 6 then FI_X12_wrong 2 B J else B := by
  have ew : F_X12_fresher 0 B J = nI c := fr_v (w := 0) (by omega) e
  unfold T_X12_line_j72 F_X12_isFull
  rw [v, if_pos (rfl : (0 : Int32) = 0), ew]
  by_cases z : c = 6
  · rw [if_pos z, if_pos (show nI c = (6 : Int32) by rw [z]; rfl), if_neg (show ¬ (1 : Int32) = 0 by decide)]
  · rw [if_neg z, if_neg (show ¬ nI c = (6 : Int32) from fun q => z ((nI_eq (b := 6) (by omega) (by omega)).mp q)), if_pos rfl, if_pos (show (0 : Int32) < 6 by decide)]
theorem t72_1 {c : Nat} {B : SI} {J : SJ} (v : B 130 29 = 1) (e : B 132 11 = nI c) (hc : c ≤ 8) : T_X12_line_j72 B J = if c = 8 then FI_X12_wrong 2 B J else B := by
  have ew : F_X12_fresher 1 B J = nI c := fr_v (w := 1) (by omega) e
  unfold T_X12_line_j72 F_X12_isFull
  rw [v, if_neg (show ¬ (1 : Int32) = 0 by decide), if_pos (rfl : (1 : Int32) = 1), ew]
  by_cases z : c = 8
  · rw [if_pos z, if_pos (show nI c = (8 : Int32) by rw [z]; rfl), if_neg (show ¬ (1 : Int32) = 0 by decide)]
  · rw [if_neg z, if_neg (show ¬ nI c = (8 : Int32) from fun q => z ((nI_eq (b := 8) (by omega) (by omega)).mp q)), if_pos rfl, if_pos (show (1 : Int32) < 6 by decide)]
theorem t72_2 {c : Nat} {B : SI} {J : SJ} (v : B 130 29 = 2) (e : B 132 12 = nI c) (hc : c ≤ 20) : T_X12_line_j72 B J = if c = 20 then FI_X12_wrong 2 B J else B := by
  have ew : F_X12_fresher 2 B J = nI c := fr_v (w := 2) (by omega) e
  unfold T_X12_line_j72 F_X12_isFull
  rw [v, if_neg (show ¬ (2 : Int32) = 0 by decide), if_neg (show ¬ (2 : Int32) = 1 by decide), if_pos (rfl : (2 : Int32) = 2), ew]
  by_cases z : c = 20
  · rw [if_pos z, if_pos (show nI c = (20 : Int32) by rw [z]; rfl), if_neg (show ¬ (1 : Int32) = 0 by decide)]
  · rw [if_neg z, if_neg (show ¬ nI c = (20 : Int32) from fun q => z ((nI_eq (b := 20) (by omega) (by omega)).mp q)), if_pos rfl, if_pos (show (2 : Int32) < 6 by decide)]
theorem t72_3 {c : Nat} {B : SI} {J : SJ} (v : B 130 29 = 3) (e : B 132 13 = nI c) (hc : c ≤ 4) : T_X12_line_j72 B J = if c = 4 then FI_X12_wrong 2 B J else B := by
  have ew : F_X12_fresher 3 B J = nI c := fr_v (w := 3) (by omega) e
  unfold T_X12_line_j72 F_X12_isFull
  rw [v, if_neg (show ¬ (3 : Int32) = 0 by decide), if_neg (show ¬ (3 : Int32) = 1 by decide), if_neg (show ¬ (3 : Int32) = 2 by decide), if_pos (rfl : (3 : Int32) = 3), ew]
  by_cases z : c = 4
  · rw [if_pos z, if_pos (show nI c = (4 : Int32) by rw [z]; rfl), if_neg (show ¬ (1 : Int32) = 0 by decide)]
  · rw [if_neg z, if_neg (show ¬ nI c = (4 : Int32) from fun q => z ((nI_eq (b := 4) (by omega) (by omega)).mp q)), if_pos rfl, if_pos (show (3 : Int32) < 6 by decide)]
theorem t72_4 {c : Nat} {B : SI} {J : SJ} (v : B 130 29 = 4) (e : B 132 14 = nI c) (hc : c ≤ 4) : T_X12_line_j72 B J = if c = 4 then FI_X12_wrong 2 B J else B := by
  have ew : F_X12_fresher 4 B J = nI c := fr_v (w := 4) (by omega) e
  unfold T_X12_line_j72 F_X12_isFull
  rw [v, if_neg (show ¬ (4 : Int32) = 0 by decide), if_neg (show ¬ (4 : Int32) = 1 by decide), if_neg (show ¬ (4 : Int32) = 2 by decide), if_neg (show ¬ (4 : Int32) = 3 by decide), if_pos (rfl : (4 : Int32) = 4), ew]
  by_cases z : c = 4
  · rw [if_pos z, if_pos (show nI c = (4 : Int32) by rw [z]; rfl), if_neg (show ¬ (1 : Int32) = 0 by decide)]
  · rw [if_neg z, if_neg (show ¬ nI c = (4 : Int32) from fun q => z ((nI_eq (b := 4) (by omega) (by omega)).mp q)), if_pos rfl, if_pos (show (4 : Int32) < 6 by decide)]
theorem t72_5 {c : Nat} {B : SI} {J : SJ} (v : B 130 29 = 5) (e : B 132 15 = nI c) (hc : c ≤ 3) : T_X12_line_j72 B J = if c = 3 then FI_X12_wrong 2 B J else B := by
  have ew : F_X12_fresher 5 B J = nI c := fr_v (w := 5) (by omega) e
  unfold T_X12_line_j72 F_X12_isFull
  rw [v, if_neg (show ¬ (5 : Int32) = 0 by decide), if_neg (show ¬ (5 : Int32) = 1 by decide), if_neg (show ¬ (5 : Int32) = 2 by decide), if_neg (show ¬ (5 : Int32) = 3 by decide), if_neg (show ¬ (5 : Int32) = 4 by decide), if_pos (rfl : (5 : Int32) = 5), ew]
  by_cases z : c = 3
  · rw [if_pos z, if_pos (show nI c = (3 : Int32) by rw [z]; rfl), if_neg (show ¬ (1 : Int32) = 0 by decide)]
  · rw [if_neg z, if_neg (show ¬ nI c = (3 : Int32) from fun q => z ((nI_eq (b := 3) (by omega) (by omega)).mp q)), if_pos rfl, if_pos (show (5 : Int32) < 6 by decide)]
/-- the model's cells but its reader's and one place of some rows -/
def KC (r0 r1 q : Nat) (B B' : SI) : Prop := ∀ a b, ¬ (a = 130 ∧ 26 ≤ b ∧ b ≤ 31) → ¬ (r0 ≤ a ∧ a ≤ r1 ∧ b = q) → B' a b = B a b
theorem KC.y {r0 r1 q : Nat} {B B1 B2 : SI} (h : KC r0 r1 q B B1) (y : KY B1 B2) : KC r0 r1 q B B2 := fun a b x z => (y a b x).trans (h a b x z)
theorem KC.u {r0 r1 q r : Nat} {v : Int32} {B B1 : SI} (h : KC r0 r1 q B B1) (hr : r0 ≤ r ∧ r ≤ r1) : KC r0 r1 q B (u2 B1 r q v) := fun a b x z => (u2_n _ _ (by omega)).trans (h a b x z)
theorem KC.rf {r0 r1 q : Nat} {B : SI} : KC r0 r1 q B B := fun _ _ _ _ => rfl
/-- past the word of a line -/
theorem word_G {n k w : Nat} {A B : SI} {J J' : SJ} (s : Si n A B) (c0 : A 41 1 = 0) (d : DT A B) (hw : w < 6 ∨ w = 9) (v : B 130 29 = nI w) (t72 : T_X12_line_j72 B J' = B) : Op n A (S1_X12_line B J') (FI_X8_step A J) (FI_X12_token (S1_X12_line B J') J') ∧ DT (FI_X8_step A J) (FI_X12_token (S1_X12_line B J') J') ∧ FI_X8_step A J 41 1 = 0 ∧ (FI_X8_step A J 81 5 = 0 ∨ nx A < nx (FI_X8_step A J)) ∧ (∀ a b, ¬ (a = 130 ∧ (b = 23 ∨ (26 ≤ b ∧ b ≤ 31))) → FI_X12_token (S1_X12_line B J') J' a b = B a b) := by
  have s1 : S1_X12_line B J' = u2 B 130 23 (B 130 23 ||| ((1 : Int32) <<< (nI w &&& 31))) := by unfold S1_X12_line; rw [t72, v]
  have q1 : Si n A (S1_X12_line B J') := by rw [s1]; exact s.u (by omega)
  have d1 : DT A (S1_X12_line B J') := by rw [s1]; exact d.bit hw
  have cS : S1_X12_line B J' 130 30 = 0 := q1.1.symm.trans c0
  have o1 := op_step (J := J) (J' := J') q1
  unfold FI_X12_goOn at o1
  rw [if_pos cS] at o1
  refine ⟨o1.1, d1.op o1.1.2.1 o1.1.2.2.1, (o1.2 c0).2, (o1.2 c0).1, fun a b z => ?_⟩
  rw [o1.1.2.2.1 a b (by omega), s1]
  exact u2_n _ _ (by omega)
theorem mark_R {n : Nat} {A B : SI} {J J' J2 : SJ} (s : Si n A B) (c0 : A 41 1 = 0) (d : DT A B) (v : B 130 29 = 0) : LM n A B (FI_X4_markLine A J) (if T_X12_line_j72 B J' 130 30 = 0 then (T_X12_line_j492 B J').1 else T_X12_line_j72 B J') J J2 := by
  have cB : B 130 30 = 0 := s.1.symm.trans c0
  obtain ⟨c, hc, m0, m1, m2, _⟩ := d.1.1
  have t72 := t72_0 (J := J') v m2 hc
  have fu := fullc_v (J := J) m0 m1 hc (by omega)
  by_cases z : c = 6
  · rw [if_pos z] at t72 fu
    have b := beg_1 (J := J) c0
    have o := op_fail (w := 2) (J := J) (J' := J') s (by decide)
    have eL : FI_X4_markLine A J = FI_X4_fail 2 A J := by
      unfold FI_X4_markLine S1_X4_markLine
      rw [fu, b.1, fresh_id b.2.1 b.2.2, num_id b.2.1 b.2.2, num_id b.2.1 b.2.2, if_neg b.2.1]
    have wf : ¬ FI_X12_wrong 2 B J' 130 30 = 0 := fun q => absurd ((wrong_Fm (w := 2) (J := J') cB).1.symm.trans q) (by decide)
    rw [eL, t72, if_neg wf]
    exact LM.of o.1.1 (fun q => absurd q o.2) o.1.2.2.1.kt
  · rw [if_neg z] at t72 fu
    rw [t72, if_pos cB, t492_0 v]
    obtain ⟨o1, d2, c1, _, fB⟩ := word_G (k := 43) (w := 0) (J := J) (J' := J') s c0 d (by omega) v t72
    have eb : FI_X4_begin (F_X7_isFull 43 A J) A J = FI_X8_step A J := by rw [fu, beg_0]
    have n1 : FI_X8_step A J 43 1 = nI c := (o1.2.1 43 1 (by omega) (by omega)).trans m1
    have n2 : FI_X12_token (S1_X12_line B J') J' 132 10 = nI c := (fB 132 10 (by omega)).trans m2
    have gx1 : nx A ≤ nx (FI_X8_step A J) := o1.2.2.2.2 c1
    generalize hA : FI_X8_step A J = A1 at o1 d2 eb n1 c1 gx1
    generalize hB : FI_X12_token (S1_X12_line B J') J' = B1 at o1 d2 n2 fB
    have kt0 : KTM B B1 := fun a b z => fB a b (by unfold mT at z; omega)
    have ef : F_X12_fresher 0 B1 J' = nI c := fr_v (w := 0) (by omega) n2
    obtain ⟨c9, _, _, n19, _, n3⟩ := d2.1.1
    have e9 : c9 = c := (nI_eq (by omega) (by omega)).mp (n19.symm.trans n1)
    subst e9
    have o2 := op_fresh (k := 43) (r := 133) (la := 12) (f := 6) (c := c9) (J := J) (J' := J') o1.1 (fun _ => ⟨by omega, n1, fun i hi => (n3 i hi (44, 133) (by unfold RSM; simp)).1⟩) (by omega)
    have e4 : S4_X12_line B J' = FI_X12_fresh 133 12 (nI 6) (nI c9) B1 J' := by unfold S4_X12_line; rw [hB, ef]; rfl
    have e5 : S5_X12_line B J' = F_X12_fresh 133 12 (nI 6) (nI c9) B1 J' := by unfold S5_X12_line; rw [hB, ef]; rfl
    have e6 : S6_X12_line B J' = u2 (S4_X12_line B J') 133 (6 + c9) (S5_X12_line B J') := by unfold S6_X12_line; rw [hB, ef, show (6 : Int32) = nI 6 from rfl, ix_v (by omega)]
    rw [← e4, ← e5] at o2
    generalize S4_X12_line B J' = B2 at o2 e6
    generalize S5_X12_line B J' = x0 at o2 e6
    have s2 : Si n (FI_X4_fresh 43 A1 J) (S6_X12_line B J') := by rw [e6]; exact o2.1.1.u (by omega)
    have k2 : KC 133 135 (6 + c9) B1 (S6_X12_line B J') := by rw [e6]; exact (KC.rf.y o2.1.2.2.1).u (by omega)
    have y2 : S6_X12_line B J' 133 (6 + c9) = x0 := by rw [e6]; exact u2_s _ _ _ _
    have o3 := op_num (a0 := 0) (a1 := 99) (J := J) (J' := J') s2 (by decide) (by decide)
    have e7 : S7_X12_line B J' = u2 (FI_X12_numeral 0 99 (S6_X12_line B J') J') 134 (6 + c9) (F_X12_numeral 0 99 (S6_X12_line B J') J') := by unfold S7_X12_line; rw [hB, ef, show (6 : Int32) = nI 6 from rfl, ix_v (by omega)]
    have s3 : Si n (FI_X4_number 0 99 (FI_X4_fresh 43 A1 J) J) (S7_X12_line B J') := by rw [e7]; exact o3.1.1.u (by omega)
    have k3 : KC 133 135 (6 + c9) B1 (S7_X12_line B J') := by rw [e7]; exact (k2.y o3.1.2.2.1).u (by omega)
    have y3 : S7_X12_line B J' 134 (6 + c9) = F_X12_numeral 0 99 (S6_X12_line B J') J' := by rw [e7]; exact u2_s _ _ _ _
    have y23 : S7_X12_line B J' 133 (6 + c9) = S6_X12_line B J' 133 (6 + c9) := by rw [e7]; exact (u2_n _ _ (by omega)).trans (o3.1.2.2.1 133 _ (by omega))
    have o4 := op_num (a0 := 2) (a1 := 6) (J := J) (J' := J') s3 (by decide) (by decide)
    have e8 : S8_X12_line B J' = u2 (FI_X12_numeral 2 6 (S7_X12_line B J') J') 135 (6 + c9) (F_X12_numeral 2 6 (S7_X12_line B J') J') := by unfold S8_X12_line; rw [hB, ef, show (6 : Int32) = nI 6 from rfl, ix_v (by omega)]
    have s4 : Si n (FI_X4_number 2 6 (FI_X4_number 0 99 (FI_X4_fresh 43 A1 J) J) J) (S8_X12_line B J') := by rw [e8]; exact o4.1.1.u (by omega)
    have k4 : KC 133 135 (6 + c9) B1 (S8_X12_line B J') := by rw [e8]; exact (k3.y o4.1.2.2.1).u (by omega)
    have y4 : S8_X12_line B J' 135 (6 + c9) = F_X12_numeral 2 6 (S7_X12_line B J') J' := by rw [e8]; exact u2_s _ _ _ _
    have y24 : S8_X12_line B J' 133 (6 + c9) = S7_X12_line B J' 133 (6 + c9) := by rw [e8]; exact (u2_n _ _ (by omega)).trans (o4.1.2.2.1 133 _ (by omega))
    have y34 : S8_X12_line B J' 134 (6 + c9) = S7_X12_line B J' 134 (6 + c9) := by rw [e8]; exact (u2_n _ _ (by omega)).trans (o4.1.2.2.1 134 _ (by omega))
    have er : S9_X12_line B J' = u2 (S8_X12_line B J') 132 10 (nI (c9 + 1)) := by
      unfold S9_X12_line
      have e1 : F_X12_fresher 0 (S8_X12_line B J') J' = nI c9 := fr_v (w := 0) (by omega) ((k4 132 10 (by omega) (by omega)).trans n2)
      rw [e1, nI_1]
      exact rd_v (w := 0) (by omega)
    have eL : FI_X4_markLine A J = if (FI_X4_number 2 6 (FI_X4_number 0 99 (FI_X4_fresh 43 A1 J) J) J) 41 1 = 0 then FI_X7_add 43 (F_X4_fresh 43 A1 J) (F_X4_number 0 99 (FI_X4_fresh 43 A1 J) J) (F_X4_number 2 6 (FI_X4_number 0 99 (FI_X4_fresh 43 A1 J) J) J) (0) (FI_X4_number 2 6 (FI_X4_number 0 99 (FI_X4_fresh 43 A1 J) J) J) J else FI_X4_number 2 6 (FI_X4_number 0 99 (FI_X4_fresh 43 A1 J) J) J := by
      unfold FI_X4_markLine S2_X4_markLine S1_X4_markLine
      rw [eb]
    rw [eL, er]
    have kx : KX A1 (FI_X4_number 2 6 (FI_X4_number 0 99 (FI_X4_fresh 43 A1 J) J) J) := ((o2.1.2.1.tr o3.1.2.1).tr o4.1.2.1)
    have sT : Si n (FI_X4_number 2 6 (FI_X4_number 0 99 (FI_X4_fresh 43 A1 J) J) J) (u2 (S8_X12_line B J') 132 10 (nI (c9 + 1))) := s4.u (by omega)
    have kt9 : KTM B (u2 (S8_X12_line B J') 132 10 (nI (c9 + 1))) := (kt0.tr (fun a b z => k4 a b (by unfold mT at z; omega) (by unfold mT at z; omega))).u (by unfold mT; omega)
    by_cases cL : (FI_X4_number 2 6 (FI_X4_number 0 99 (FI_X4_fresh 43 A1 J) J) J) 41 1 = 0
    · rw [if_pos cL]
      have b4 := cL
      have b3 := o4.1.c0 b4
      have b2 := o3.1.c0 b3
      have vl := o2.2 b2
      have w3 := o3.2 b3
      have w4 := o4.2 b4
      refine LM.of (sT.fr (fun a b z => tadd_fr (by omega)) (fun _ _ _ => rfl)) (fun _ => ⟨⟨?_, ?_, ?_⟩, ?_⟩) kt9
      · refine d2.1.tM (fun a b x1 x2 => ?_) (fun a b x1 x2 x3 x4 => ?_) ?_ ⟨c9, by omega, n1, u2_s _ _ _ _⟩
        · rw [tadd_fr (by omega)]
          exact kx a b (by omega) (by omega)
        · rw [u2_n _ _ (by omega)]
          exact k4 a b (by omega) (by omega)
        · have tb0 : TBL 43 0 6 6 RSM (FI_X4_number 2 6 (FI_X4_number 0 99 (FI_X4_fresh 43 A1 J) J) J) B1 := d2.1.1.mv (kx _ _ (by omega) (by omega)) (kx _ _ (by omega) (by omega)) rfl (fun p hp i _ => kx p.1 i (by have := rsM hp; omega) (by have := rsM hp; omega)) (fun _ _ _ _ => rfl)
          refine tb0.add (c := c9) (by omega) ((kx _ _ (by omega) (by omega)).trans n1) (by omega) (fun p hp => by have := rsM hp; omega) (u2_s _ _ _ _) (fun p hp i hi => ?_) (fun p hp => ?_)
          · rw [u2_n _ _ (by have := rsM hp; omega)]
            exact k4 _ _ (by have := rsM hp; omega) (by omega)
          · revert p
            rw [rs_in.1]
            refine ⟨?_, ?_, ?_⟩
            · dsimp only
              rw [if_pos (show (44 : Nat) = 44 by omega), u2_n _ _ (by omega), y24.trans (y23.trans (y2))]
              exact ⟨vl, by unfold BD; simp⟩
            · dsimp only
              rw [if_neg (show ¬ (45 : Nat) = 44 by omega), if_pos (show (45 : Nat) = 45 by omega), u2_n _ _ (by omega), y34.trans (y3)]
              exact ⟨w3.1, by unfold BD; simp; exact nv_in (a := 99) rfl (by omega) (by decide) w3.2.1 w3.2.2.1⟩
            · dsimp only
              rw [if_neg (show ¬ (46 : Nat) = 44 by omega), if_neg (show ¬ (46 : Nat) = 45 by omega), if_pos (show (46 : Nat) = 46 by omega), u2_n _ _ (by omega), y4]
              exact ⟨w4.1, by unfold BD; simp; exact ⟨nv_in (a := 6) rfl (by omega) (by decide) w4.2.1 w4.2.2.1, fun z => w4.2.1 (by rw [z]; decide)⟩⟩
      · exact d2.2.1.mv (fun b z => (tadd_fr (by omega)).trans (kx 42 b (by omega) (by omega))) (fun b z => (u2_n _ _ (by omega)).trans (k4 132 b (by omega) (by omega))) (fun v _ => by rw [u2_n _ _ (by omega), k4 130 23 (by omega) (by omega)]) ((u2_n _ _ (by omega)).trans (k4 130 24 (by omega) (by omega)))
      · exact d2.2.2.mv (fun a b z => (tadd_fr (by omega)).trans (kx a b (by omega) (by omega))) (fun a b z => (u2_n _ _ (by omega)).trans (k4 a b (by omega) (by omega))) (fun v _ => by rw [u2_n _ _ (by omega), k4 130 23 (by omega) (by omega)])
      · have g2 := o2.1.2.2.2.2 b2
        have g3 := o3.1.2.2.2.2 b3
        have g4 := o4.1.2.2.2.2 b4
        have e : nx (FI_X7_add 43 (F_X4_fresh 43 A1 J) (F_X4_number 0 99 (FI_X4_fresh 43 A1 J) J) (F_X4_number 2 6 (FI_X4_number 0 99 (FI_X4_fresh 43 A1 J) J) J) (0) (FI_X4_number 2 6 (FI_X4_number 0 99 (FI_X4_fresh 43 A1 J) J) J) J) = nx (FI_X4_number 2 6 (FI_X4_number 0 99 (FI_X4_fresh 43 A1 J) J) J) := by unfold nx; rw [tadd_fr (by omega)]
        rw [e]
        omega
    · rw [if_neg cL]
      exact LM.of sT (fun q => absurd q cL) kt9
theorem shot_R {n : Nat} {A B : SI} {J J' J2 : SJ} (s : Si n A B) (c0 : A 41 1 = 0) (d : DT A B) (v : B 130 29 = 1) : LM n A B (FI_X4_shotLine A J) (if T_X12_line_j72 B J' 130 30 = 0 then (T_X12_line_j492 B J').1 else T_X12_line_j72 B J') J J2 := by
  have cB : B 130 30 = 0 := s.1.symm.trans c0
  obtain ⟨c, hc, m0, m1, m2, _⟩ := d.1.2.1
  have t72 := t72_1 (J := J') v m2 hc
  have fu := fullc_v (J := J) m0 m1 hc (by omega)
  by_cases z : c = 8
  · rw [if_pos z] at t72 fu
    have b := beg_1 (J := J) c0
    have o := op_fail (w := 2) (J := J) (J' := J') s (by decide)
    have eL : FI_X4_shotLine A J = FI_X4_fail 2 A J := by
      unfold FI_X4_shotLine S1_X4_shotLine
      rw [fu, b.1, fresh_id b.2.1 b.2.2, num_id b.2.1 b.2.2, num_id b.2.1 b.2.2, if_neg b.2.1]
    have wf : ¬ FI_X12_wrong 2 B J' 130 30 = 0 := fun q => absurd ((wrong_Fm (w := 2) (J := J') cB).1.symm.trans q) (by decide)
    rw [eL, t72, if_neg wf]
    exact LM.of o.1.1 (fun q => absurd q o.2) o.1.2.2.1.kt
  · rw [if_neg z] at t72 fu
    rw [t72, if_pos cB, t492_1 v]
    obtain ⟨o1, d2, c1, _, fB⟩ := word_G (k := 48) (w := 1) (J := J) (J' := J') s c0 d (by omega) v t72
    have eb : FI_X4_begin (F_X7_isFull 48 A J) A J = FI_X8_step A J := by rw [fu, beg_0]
    have n1 : FI_X8_step A J 48 1 = nI c := (o1.2.1 48 1 (by omega) (by omega)).trans m1
    have n2 : FI_X12_token (S1_X12_line B J') J' 132 11 = nI c := (fB 132 11 (by omega)).trans m2
    have gx1 : nx A ≤ nx (FI_X8_step A J) := o1.2.2.2.2 c1
    generalize hA : FI_X8_step A J = A1 at o1 d2 eb n1 c1 gx1
    generalize hB : FI_X12_token (S1_X12_line B J') J' = B1 at o1 d2 n2 fB
    have kt0 : KTM B B1 := fun a b z => fB a b (by unfold mT at z; omega)
    have ef : F_X12_fresher 1 B1 J' = nI c := fr_v (w := 1) (by omega) n2
    obtain ⟨c9, _, _, n19, _, n3⟩ := d2.1.2.1
    have e9 : c9 = c := (nI_eq (by omega) (by omega)).mp (n19.symm.trans n1)
    subst e9
    have o2 := op_fresh (k := 48) (r := 136) (la := 16) (f := 8) (c := c9) (J := J) (J' := J') o1.1 (fun _ => ⟨by omega, n1, fun i hi => (n3 i hi (49, 136) (by unfold RSS; simp)).1⟩) (by omega)
    have e4 : S10_X12_line B J' = FI_X12_fresh 136 16 (nI 8) (nI c9) B1 J' := by unfold S10_X12_line; rw [hB, ef]; rfl
    have e5 : S11_X12_line B J' = F_X12_fresh 136 16 (nI 8) (nI c9) B1 J' := by unfold S11_X12_line; rw [hB, ef]; rfl
    have e6 : S12_X12_line B J' = u2 (S10_X12_line B J') 136 (8 + c9) (S11_X12_line B J') := by unfold S12_X12_line; rw [hB, ef, show (8 : Int32) = nI 8 from rfl, ix_v (by omega)]
    rw [← e4, ← e5] at o2
    generalize S10_X12_line B J' = B2 at o2 e6
    generalize S11_X12_line B J' = x0 at o2 e6
    have s2 : Si n (FI_X4_fresh 48 A1 J) (S12_X12_line B J') := by rw [e6]; exact o2.1.1.u (by omega)
    have k2 : KC 136 138 (8 + c9) B1 (S12_X12_line B J') := by rw [e6]; exact (KC.rf.y o2.1.2.2.1).u (by omega)
    have y2 : S12_X12_line B J' 136 (8 + c9) = x0 := by rw [e6]; exact u2_s _ _ _ _
    have o3 := op_num (a0 := 1) (a1 := 99) (J := J) (J' := J') s2 (by decide) (by decide)
    have e7 : S13_X12_line B J' = u2 (FI_X12_numeral 1 99 (S12_X12_line B J') J') 137 (8 + c9) (F_X12_numeral 1 99 (S12_X12_line B J') J') := by unfold S13_X12_line; rw [hB, ef, show (8 : Int32) = nI 8 from rfl, ix_v (by omega)]
    have s3 : Si n (FI_X4_number 1 99 (FI_X4_fresh 48 A1 J) J) (S13_X12_line B J') := by rw [e7]; exact o3.1.1.u (by omega)
    have k3 : KC 136 138 (8 + c9) B1 (S13_X12_line B J') := by rw [e7]; exact (k2.y o3.1.2.2.1).u (by omega)
    have y3 : S13_X12_line B J' 137 (8 + c9) = F_X12_numeral 1 99 (S12_X12_line B J') J' := by rw [e7]; exact u2_s _ _ _ _
    have y23 : S13_X12_line B J' 136 (8 + c9) = S12_X12_line B J' 136 (8 + c9) := by rw [e7]; exact (u2_n _ _ (by omega)).trans (o3.1.2.2.1 136 _ (by omega))
    have o4 := op_num (a0 := 0) (a1 := 99) (J := J) (J' := J') s3 (by decide) (by decide)
    have e8 : S14_X12_line B J' = u2 (FI_X12_numeral 0 99 (S13_X12_line B J') J') 138 (8 + c9) (F_X12_numeral 0 99 (S13_X12_line B J') J') := by unfold S14_X12_line; rw [hB, ef, show (8 : Int32) = nI 8 from rfl, ix_v (by omega)]
    have s4 : Si n (FI_X4_number 0 99 (FI_X4_number 1 99 (FI_X4_fresh 48 A1 J) J) J) (S14_X12_line B J') := by rw [e8]; exact o4.1.1.u (by omega)
    have k4 : KC 136 138 (8 + c9) B1 (S14_X12_line B J') := by rw [e8]; exact (k3.y o4.1.2.2.1).u (by omega)
    have y4 : S14_X12_line B J' 138 (8 + c9) = F_X12_numeral 0 99 (S13_X12_line B J') J' := by rw [e8]; exact u2_s _ _ _ _
    have y24 : S14_X12_line B J' 136 (8 + c9) = S13_X12_line B J' 136 (8 + c9) := by rw [e8]; exact (u2_n _ _ (by omega)).trans (o4.1.2.2.1 136 _ (by omega))
    have y34 : S14_X12_line B J' 137 (8 + c9) = S13_X12_line B J' 137 (8 + c9) := by rw [e8]; exact (u2_n _ _ (by omega)).trans (o4.1.2.2.1 137 _ (by omega))
    have er : S15_X12_line B J' = u2 (S14_X12_line B J') 132 11 (nI (c9 + 1)) := by
      unfold S15_X12_line
      have e1 : F_X12_fresher 1 (S14_X12_line B J') J' = nI c9 := fr_v (w := 1) (by omega) ((k4 132 11 (by omega) (by omega)).trans n2)
      rw [e1, nI_1]
      exact rd_v (w := 1) (by omega)
    have eL : FI_X4_shotLine A J = if (FI_X4_number 0 99 (FI_X4_number 1 99 (FI_X4_fresh 48 A1 J) J) J) 41 1 = 0 then FI_X7_add 48 (F_X4_fresh 48 A1 J) (F_X4_number 1 99 (FI_X4_fresh 48 A1 J) J) (F_X4_number 0 99 (FI_X4_number 1 99 (FI_X4_fresh 48 A1 J) J) J) (0) (FI_X4_number 0 99 (FI_X4_number 1 99 (FI_X4_fresh 48 A1 J) J) J) J else FI_X4_number 0 99 (FI_X4_number 1 99 (FI_X4_fresh 48 A1 J) J) J := by
      unfold FI_X4_shotLine S2_X4_shotLine S1_X4_shotLine
      rw [eb]
    rw [eL, er]
    have kx : KX A1 (FI_X4_number 0 99 (FI_X4_number 1 99 (FI_X4_fresh 48 A1 J) J) J) := ((o2.1.2.1.tr o3.1.2.1).tr o4.1.2.1)
    have sT : Si n (FI_X4_number 0 99 (FI_X4_number 1 99 (FI_X4_fresh 48 A1 J) J) J) (u2 (S14_X12_line B J') 132 11 (nI (c9 + 1))) := s4.u (by omega)
    have kt9 : KTM B (u2 (S14_X12_line B J') 132 11 (nI (c9 + 1))) := (kt0.tr (fun a b z => k4 a b (by unfold mT at z; omega) (by unfold mT at z; omega))).u (by unfold mT; omega)
    by_cases cL : (FI_X4_number 0 99 (FI_X4_number 1 99 (FI_X4_fresh 48 A1 J) J) J) 41 1 = 0
    · rw [if_pos cL]
      have b4 := cL
      have b3 := o4.1.c0 b4
      have b2 := o3.1.c0 b3
      have vl := o2.2 b2
      have w3 := o3.2 b3
      have w4 := o4.2 b4
      refine LM.of (sT.fr (fun a b z => tadd_fr (by omega)) (fun _ _ _ => rfl)) (fun _ => ⟨⟨?_, ?_, ?_⟩, ?_⟩) kt9
      · refine d2.1.tS (fun a b x1 x2 => ?_) (fun a b x1 x2 x3 x4 => ?_) ?_
        · rw [tadd_fr (by omega)]
          exact kx a b (by omega) (by omega)
        · rw [u2_n _ _ (by omega)]
          exact k4 a b (by omega) (by omega)
        · have tb0 : TBL 48 1 8 8 RSS (FI_X4_number 0 99 (FI_X4_number 1 99 (FI_X4_fresh 48 A1 J) J) J) B1 := d2.1.2.1.mv (kx _ _ (by omega) (by omega)) (kx _ _ (by omega) (by omega)) rfl (fun p hp i _ => kx p.1 i (by have := rsS hp; omega) (by have := rsS hp; omega)) (fun _ _ _ _ => rfl)
          refine tb0.add (c := c9) (by omega) ((kx _ _ (by omega) (by omega)).trans n1) (by omega) (fun p hp => by have := rsS hp; omega) (u2_s _ _ _ _) (fun p hp i hi => ?_) (fun p hp => ?_)
          · rw [u2_n _ _ (by have := rsS hp; omega)]
            exact k4 _ _ (by have := rsS hp; omega) (by omega)
          · revert p
            rw [rs_in.2.1]
            refine ⟨?_, ?_, ?_⟩
            · dsimp only
              rw [if_pos (show (49 : Nat) = 49 by omega), u2_n _ _ (by omega), y24.trans (y23.trans (y2))]
              exact ⟨vl, by unfold BD; simp⟩
            · dsimp only
              rw [if_neg (show ¬ (50 : Nat) = 49 by omega), if_pos (show (50 : Nat) = 50 by omega), u2_n _ _ (by omega), y34.trans (y3)]
              exact ⟨w3.1, by unfold BD; simp; exact nv_in (a := 99) rfl (by omega) (by decide) w3.2.1 w3.2.2.1⟩
            · dsimp only
              rw [if_neg (show ¬ (51 : Nat) = 49 by omega), if_neg (show ¬ (51 : Nat) = 50 by omega), if_pos (show (51 : Nat) = 51 by omega), u2_n _ _ (by omega), y4]
              exact ⟨w4.1, by unfold BD; simp; exact nv_in (a := 99) rfl (by omega) (by decide) w4.2.1 w4.2.2.1⟩
      · exact d2.2.1.mv (fun b z => (tadd_fr (by omega)).trans (kx 42 b (by omega) (by omega))) (fun b z => (u2_n _ _ (by omega)).trans (k4 132 b (by omega) (by omega))) (fun v _ => by rw [u2_n _ _ (by omega), k4 130 23 (by omega) (by omega)]) ((u2_n _ _ (by omega)).trans (k4 130 24 (by omega) (by omega)))
      · exact d2.2.2.mv (fun a b z => (tadd_fr (by omega)).trans (kx a b (by omega) (by omega))) (fun a b z => (u2_n _ _ (by omega)).trans (k4 a b (by omega) (by omega))) (fun v _ => by rw [u2_n _ _ (by omega), k4 130 23 (by omega) (by omega)])
      · have g2 := o2.1.2.2.2.2 b2
        have g3 := o3.1.2.2.2.2 b3
        have g4 := o4.1.2.2.2.2 b4
        have e : nx (FI_X7_add 48 (F_X4_fresh 48 A1 J) (F_X4_number 1 99 (FI_X4_fresh 48 A1 J) J) (F_X4_number 0 99 (FI_X4_number 1 99 (FI_X4_fresh 48 A1 J) J) J) (0) (FI_X4_number 0 99 (FI_X4_number 1 99 (FI_X4_fresh 48 A1 J) J) J) J) = nx (FI_X4_number 0 99 (FI_X4_number 1 99 (FI_X4_fresh 48 A1 J) J) J) := by unfold nx; rw [tadd_fr (by omega)]
        rw [e]
        omega
    · rw [if_neg cL]
      exact LM.of sT (fun q => absurd q cL) kt9
theorem clerk_R {n : Nat} {A B : SI} {J J' J2 : SJ} (s : Si n A B) (c0 : A 41 1 = 0) (d : DT A B) (v : B 130 29 = 4) : LM n A B (FI_X4_clerkLine A J) (if T_X12_line_j72 B J' 130 30 = 0 then (T_X12_line_j492 B J').1 else T_X12_line_j72 B J') J J2 := by
  have cB : B 130 30 = 0 := s.1.symm.trans c0
  obtain ⟨c, hc, m0, m1, m2, _⟩ := d.1.2.2.2.1
  have t72 := t72_4 (J := J') v m2 hc
  have fu := fullc_v (J := J) m0 m1 hc (by omega)
  by_cases z : c = 4
  · rw [if_pos z] at t72 fu
    have b := beg_1 (J := J) c0
    have o := op_fail (w := 2) (J := J) (J' := J') s (by decide)
    have eL : FI_X4_clerkLine A J = FI_X4_fail 2 A J := by
      unfold FI_X4_clerkLine S1_X4_clerkLine
      rw [fu, b.1, fresh_id b.2.1 b.2.2, num_id b.2.1 b.2.2, if_neg b.2.1]
    have wf : ¬ FI_X12_wrong 2 B J' 130 30 = 0 := fun q => absurd ((wrong_Fm (w := 2) (J := J') cB).1.symm.trans q) (by decide)
    rw [eL, t72, if_neg wf]
    exact LM.of o.1.1 (fun q => absurd q o.2) o.1.2.2.1.kt
  · rw [if_neg z] at t72 fu
    rw [t72, if_pos cB, t492_4 v]
    obtain ⟨o1, d2, c1, _, fB⟩ := word_G (k := 58) (w := 4) (J := J) (J' := J') s c0 d (by omega) v t72
    have eb : FI_X4_begin (F_X7_isFull 58 A J) A J = FI_X8_step A J := by rw [fu, beg_0]
    have n1 : FI_X8_step A J 58 1 = nI c := (o1.2.1 58 1 (by omega) (by omega)).trans m1
    have n2 : FI_X12_token (S1_X12_line B J') J' 132 14 = nI c := (fB 132 14 (by omega)).trans m2
    have gx1 : nx A ≤ nx (FI_X8_step A J) := o1.2.2.2.2 c1
    generalize hA : FI_X8_step A J = A1 at o1 d2 eb n1 c1 gx1
    generalize hB : FI_X12_token (S1_X12_line B J') J' = B1 at o1 d2 n2 fB
    have kt0 : KTM B B1 := fun a b z => fB a b (by unfold mT at z; omega)
    have ef : F_X12_fresher 4 B1 J' = nI c := fr_v (w := 4) (by omega) n2
    obtain ⟨c9, _, _, n19, _, n3⟩ := d2.1.2.2.2.1
    have e9 : c9 = c := (nI_eq (by omega) (by omega)).mp (n19.symm.trans n1)
    subst e9
    have o2 := op_fresh (k := 58) (r := 144) (la := 8) (f := 4) (c := c9) (J := J) (J' := J') o1.1 (fun _ => ⟨by omega, n1, fun i hi => (n3 i hi (59, 144) (by unfold RSC; simp)).1⟩) (by omega)
    have e4 : S17_X12_line B J' = FI_X12_fresh 144 8 (nI 4) (nI c9) B1 J' := by unfold S17_X12_line; rw [hB, ef]; rfl
    have e5 : S18_X12_line B J' = F_X12_fresh 144 8 (nI 4) (nI c9) B1 J' := by unfold S18_X12_line; rw [hB, ef]; rfl
    have e6 : S19_X12_line B J' = u2 (S17_X12_line B J') 144 (4 + c9) (S18_X12_line B J') := by unfold S19_X12_line; rw [hB, ef, show (4 : Int32) = nI 4 from rfl, ix_v (by omega)]
    rw [← e4, ← e5] at o2
    generalize S17_X12_line B J' = B2 at o2 e6
    generalize S18_X12_line B J' = x0 at o2 e6
    have s2 : Si n (FI_X4_fresh 58 A1 J) (S19_X12_line B J') := by rw [e6]; exact o2.1.1.u (by omega)
    have k2 : KC 144 145 (4 + c9) B1 (S19_X12_line B J') := by rw [e6]; exact (KC.rf.y o2.1.2.2.1).u (by omega)
    have y2 : S19_X12_line B J' 144 (4 + c9) = x0 := by rw [e6]; exact u2_s _ _ _ _
    have o3 := op_num (a0 := 0) (a1 := 63) (J := J) (J' := J') s2 (by decide) (by decide)
    have e7 : S20_X12_line B J' = u2 (FI_X12_numeral 0 63 (S19_X12_line B J') J') 145 (4 + c9) (F_X12_numeral 0 63 (S19_X12_line B J') J') := by unfold S20_X12_line; rw [hB, ef, show (4 : Int32) = nI 4 from rfl, ix_v (by omega)]
    have s3 : Si n (FI_X4_number 0 63 (FI_X4_fresh 58 A1 J) J) (S20_X12_line B J') := by rw [e7]; exact o3.1.1.u (by omega)
    have k3 : KC 144 145 (4 + c9) B1 (S20_X12_line B J') := by rw [e7]; exact (k2.y o3.1.2.2.1).u (by omega)
    have y3 : S20_X12_line B J' 145 (4 + c9) = F_X12_numeral 0 63 (S19_X12_line B J') J' := by rw [e7]; exact u2_s _ _ _ _
    have y23 : S20_X12_line B J' 144 (4 + c9) = S19_X12_line B J' 144 (4 + c9) := by rw [e7]; exact (u2_n _ _ (by omega)).trans (o3.1.2.2.1 144 _ (by omega))
    have er : S21_X12_line B J' = u2 (S20_X12_line B J') 132 14 (nI (c9 + 1)) := by
      unfold S21_X12_line
      have e1 : F_X12_fresher 4 (S20_X12_line B J') J' = nI c9 := fr_v (w := 4) (by omega) ((k3 132 14 (by omega) (by omega)).trans n2)
      rw [e1, nI_1]
      exact rd_v (w := 4) (by omega)
    have eL : FI_X4_clerkLine A J = if (FI_X4_number 0 63 (FI_X4_fresh 58 A1 J) J) 41 1 = 0 then FI_X7_add 58 (F_X4_fresh 58 A1 J) (F_X4_number 0 63 (FI_X4_fresh 58 A1 J) J) (0) (0) (FI_X4_number 0 63 (FI_X4_fresh 58 A1 J) J) J else FI_X4_number 0 63 (FI_X4_fresh 58 A1 J) J := by
      unfold FI_X4_clerkLine S2_X4_clerkLine S1_X4_clerkLine
      rw [eb]
    rw [eL, er]
    have kx : KX A1 (FI_X4_number 0 63 (FI_X4_fresh 58 A1 J) J) := (o2.1.2.1.tr o3.1.2.1)
    have sT : Si n (FI_X4_number 0 63 (FI_X4_fresh 58 A1 J) J) (u2 (S20_X12_line B J') 132 14 (nI (c9 + 1))) := s3.u (by omega)
    have kt9 : KTM B (u2 (S20_X12_line B J') 132 14 (nI (c9 + 1))) := (kt0.tr (fun a b z => k3 a b (by unfold mT at z; omega) (by unfold mT at z; omega))).u (by unfold mT; omega)
    by_cases cL : (FI_X4_number 0 63 (FI_X4_fresh 58 A1 J) J) 41 1 = 0
    · rw [if_pos cL]
      have b3 := cL
      have b2 := o3.1.c0 b3
      have vl := o2.2 b2
      have w3 := o3.2 b3
      refine LM.of (sT.fr (fun a b z => tadd_fr (by omega)) (fun _ _ _ => rfl)) (fun _ => ⟨⟨?_, ?_, ?_⟩, ?_⟩) kt9
      · refine d2.1.tC (fun a b x1 x2 => ?_) (fun a b x1 x2 x3 x4 => ?_) ?_
        · rw [tadd_fr (by omega)]
          exact kx a b (by omega) (by omega)
        · rw [u2_n _ _ (by omega)]
          exact k3 a b (by omega) (by omega)
        · have tb0 : TBL 58 4 4 4 RSC (FI_X4_number 0 63 (FI_X4_fresh 58 A1 J) J) B1 := d2.1.2.2.2.1.mv (kx _ _ (by omega) (by omega)) (kx _ _ (by omega) (by omega)) rfl (fun p hp i _ => kx p.1 i (by have := rsC hp; omega) (by have := rsC hp; omega)) (fun _ _ _ _ => rfl)
          refine tb0.add (c := c9) (by omega) ((kx _ _ (by omega) (by omega)).trans n1) (by omega) (fun p hp => by have := rsC hp; omega) (u2_s _ _ _ _) (fun p hp i hi => ?_) (fun p hp => ?_)
          · rw [u2_n _ _ (by have := rsC hp; omega)]
            exact k3 _ _ (by have := rsC hp; omega) (by omega)
          · revert p
            rw [rs_in.2.2.2.1]
            refine ⟨?_, ?_⟩
            · dsimp only
              rw [if_pos (show (59 : Nat) = 59 by omega), u2_n _ _ (by omega), y23.trans (y2)]
              exact ⟨vl, by unfold BD; simp⟩
            · dsimp only
              rw [if_neg (show ¬ (60 : Nat) = 59 by omega), if_pos (show (60 : Nat) = 60 by omega), u2_n _ _ (by omega), y3]
              exact ⟨w3.1, by unfold BD; simp⟩
      · exact d2.2.1.mv (fun b z => (tadd_fr (by omega)).trans (kx 42 b (by omega) (by omega))) (fun b z => (u2_n _ _ (by omega)).trans (k3 132 b (by omega) (by omega))) (fun v _ => by rw [u2_n _ _ (by omega), k3 130 23 (by omega) (by omega)]) ((u2_n _ _ (by omega)).trans (k3 130 24 (by omega) (by omega)))
      · exact d2.2.2.mv (fun a b z => (tadd_fr (by omega)).trans (kx a b (by omega) (by omega))) (fun a b z => (u2_n _ _ (by omega)).trans (k3 a b (by omega) (by omega))) (fun v _ => by rw [u2_n _ _ (by omega), k3 130 23 (by omega) (by omega)])
      · have g2 := o2.1.2.2.2.2 b2
        have g3 := o3.1.2.2.2.2 b3
        have e : nx (FI_X7_add 58 (F_X4_fresh 58 A1 J) (F_X4_number 0 63 (FI_X4_fresh 58 A1 J) J) (0) (0) (FI_X4_number 0 63 (FI_X4_fresh 58 A1 J) J) J) = nx (FI_X4_number 0 63 (FI_X4_fresh 58 A1 J) J) := by unfold nx; rw [tadd_fr (by omega)]
        rw [e]
        omega
    · rw [if_neg cL]
      exact LM.of sT (fun q => absurd q cL) kt9
