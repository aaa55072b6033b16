/-! both: a law's side: leaves, signs, brackets -/
theorem rn_35 : rn 35 = 3 ∧ rn 6 = 0 ∧ rn 5 = 0 ∧ rn 4 = 0 := by decide +kernel
theorem addl_fr {k : Nat} {x y : Int32} {I : SI} {J : SJ} {a b : Nat} (h : ¬ (a = k ∨ a = k + 1 ∨ a = k + 2)) : FI_X1_add k x y I J a b = I a b := by
  unfold FI_X1_add S1_X1_add
  repeat' split
  · rfl
  · rfl
  · exact (u2_n _ _ (by omega)).trans ((u2_n _ _ (by omega)).trans (u2_n _ _ (by omega)))
/-- what stands at a leaf: a number, a name, or what can't -/
theorem leaf_G {a0 n f0 m h : Nat} {A B R : SI} {J J' : SJ} {k : Nat} (k3 : K3 a0) (eb : EI B) (s : Si n A B) (c : A 41 1 = 0) (d : SD a0 f0 h m h A B) (h5 : ¬ A 81 5 = 5) (hp : A 81 5 = 35 → ¬ h = 0 ∧ 4 ≤ rn (A 84 (h - 1))) (hR : R = if T_X12_primary_j114 (RG_expr k) B J' = 0 then FI_X12_goOn (S1_X12_primary (RG_expr k) B J') J' else FI_X12_goOn (S2_X12_primary (RG_expr k) B J') J') : G a0 n J 1 A R (fun A' => FRS a0 h A A' ∧ ∃ m', SD a0 f0 h m' h A' R) := by
  have k3' := k3
  unfold K3 at k3'
  have c0 : B 130 30 = 0 := s.1.symm.trans c
  obtain ⟨tp, wd0, hn, a2, b2, a4, r0, hr, a3, b3, a7, kv⟩ := s.2.2.1 c
  obtain ⟨hN, cc1, o, hc, ho, ec, ebc, eo, ebo, eq, eq2⟩ := d.n eb c0
  have kn := kn_R (J := J) (J' := J') c0 ec ebc hc
  -- a fault of both
  have bad : ∀ w : Int32, w ≠ 0 → Fl w A (FI_X4_operand a0 A J) → R = FI_X12_wrong w B J' → G a0 n J 1 A R (fun A' => FRS a0 h A A' ∧ ∃ m', SD a0 f0 h m' h A' R) := fun w hw fl e => by
    have s1 : Si n (FI_X4_operand a0 A J) R := by rw [e]; exact flt s c hw fl (wrong_Fm c0)
    have nf : ¬ FI_X4_operand a0 A J 41 1 = 0 := by rw [fl.1]; exact hw
    have p1 := phi_s (J := J) s c s1 (fun z => absurd z nf)
    rw [step_id fl.2.2] at p1
    refine G.pre (k := 1) (Rch.one (it_op c)) ?_ ?_
    · rw [step_id fl.2.2]; omega
    · rw [step_id fl.2.2]; exact G.f s1 nf
  have wf : ∀ w : Int32, w ≠ 0 → ¬ FI_X12_wrong w B J' 130 30 = 0 := fun w hw q => hw ((wrong_Fm c0).1.symm.trans q)
  have lf : ∀ {x y sv v : Int32}, ¬ A 81 5 = 0 → FI_X4_operand a0 A J = FI_X1_add a0 x y (FI_X4_knot A J) J → F_X4_operand a0 A J = 0 → CQ x y sv v → R = FI_X12_goOn (FI_X12_puts sv v (FI_X12_knot B J') J') J' → (cc1 = 64 → G a0 n J 1 A R (fun A' => FRS a0 h A A' ∧ ∃ m', SD a0 f0 h m' h A' R)) → G a0 n J 1 A R (fun A' => FRS a0 h A A' ∧ ∃ m', SD a0 f0 h m' h A' R) := fun {x y sv v} k0 eO eF q e z => by
    rcases kn with ⟨k1, k2, k4⟩ | ⟨k1, k2, k4⟩
    · exact z k1
    · have eA : FI_X4_operand a0 A J = u2 (u2 (u2 (u2 A 42 11 (nI (cc1 + 1))) (a0 + 1) m x) (a0 + 2) m y) a0 1 (nI (m + 1)) := by
        rw [eO, k2]
        exact addl_v ((u2_n _ _ (by omega)).trans d.1) (by omega)
      have g : ∀ a b, a = 81 ∨ a = 41 ∨ a = 1 ∨ a = 82 → FI_X4_operand a0 A J a b = A a b := fun a b z => by
        rw [eA]
        exact (u2_n _ _ (by omega)).trans ((u2_n _ _ (by omega)).trans ((u2_n _ _ (by omega)).trans (u2_n _ _ (by omega))))
      have dl := SD.leaf (J := J') d k3 eA c0 (by omega) (by omega) ho eo ebo (by omega) q
      rw [← k4] at dl
      have en : (u2 B 130 35 (nI (cc1 + 1))) 132 19 = nI (f0 + m) := (u2_n _ _ (by omega)).trans (d.2.2.2.2.1.trans (congrArg nI (by omega)))
      have pv := puts_v (a := sv) (b := v) (J := J') (B := u2 B 130 35 (nI (cc1 + 1))) ((u2_n _ _ (by omega)).trans c0) en (by omega)
      have gB : ∀ a b, (a = 130 ∧ ¬ b = 35) ∨ a = 131 → FI_X12_puts sv v (FI_X12_knot B J') J' a b = B a b := fun a b z => by
        rw [k4, pv]
        exact (u2_n _ _ (by omega)).trans ((u2_n _ _ (by omega)).trans ((u2_n _ _ (by omega)).trans (u2_n _ _ (by omega))))
      have s1 : Si n (FI_X4_operand a0 A J) (FI_X12_puts sv v (FI_X12_knot B J') J') := ⟨by rw [g 41 1 (by omega), gB 130 30 (by omega)]; exact s.1, by rw [g 41 2 (by omega), gB 130 31 (by omega)]; exact s.2.1, fun _ => ⟨fun b => by rw [g 1 b (by omega), gB 131 b (by omega)]; exact tp b, fun i hi => (g 82 i (by omega)).trans (wd0 i hi), hn, (g 81 2 (by omega)).trans a2, (gB 130 25 (by omega)).trans b2, (g 81 4 (by omega)).trans a4, r0, hr, (g 81 3 (by omega)).trans a3, (gB 130 26 (by omega)).trans b3, by rw [g 81 7 (by omega), gB 130 27 (by omega)]; exact a7, by rw [g 81 5 (by omega), g 81 6 (by omega), gB 130 28 (by omega), gB 130 29 (by omega)]; exact kv⟩, fun z => absurd ((g 41 1 (by omega)).trans c) z⟩
      have p1 := phi_s (J := J) s c s1 (fun _ => ⟨k0, g 81 3 (by omega)⟩)
      have o1 := op_step (J := J) (J' := J') s1
      rw [← e] at o1
      refine ⟨1, FI_X8_step (FI_X4_operand a0 A J) J, 0, ?_, by omega, o1.1.1, fun z => ⟨rfl, ?_, m + 1, dl.op k3 (by rw [e] at o1; rw [e]; exact o1.1)⟩⟩
      · have r := Rch.one (it_op (a0 := a0) (J := J) c)
        rw [eF] at r
        exact r
      · refine FRS.tr (A1 := FI_X4_operand a0 A J) (fun a b x1 x2 x3 x4 x5 x6 x7 => ?_) o1.1.2.1.frs
        rw [eA]
        exact (u2_n _ _ (by omega)).trans ((u2_n _ _ (by omega)).trans ((u2_n _ _ (by omega)).trans (u2_n _ _ (by omega))))
  have knf : cc1 = 64 → FI_X4_knot A J = FI_X4_fail 2 A J ∧ FI_X12_knot B J' = FI_X12_wrong 2 B J' := fun z => by
    rcases kn with ⟨k1, k2, k4⟩ | ⟨k1, k2, k4⟩
    · exact ⟨k2, k4⟩
    · omega
  by_cases kN : A 81 5 = 2
  · have sN := kv.num.1.mp kN
    obtain ⟨x1, x2, x3⟩ := (kv.num.2 kN).lt (show (9999 : Int32) ≤ 99999 by decide)
    have t114 : ¬ T_X12_primary_j114 (RG_expr k) B J' = 0 := by
      unfold T_X12_primary_j114
      rw [if_pos sN]; decide
    have t176 : T_X12_primary_j176 (RG_expr k) B J' = 0 := by unfold T_X12_primary_j176; rw [if_neg t114]
    rw [if_neg t114] at hR
    unfold S2_X12_primary at hR
    rw [t176] at hR
    have eOp : FI_X4_operand a0 A J = S1_X4_operand a0 A J := by unfold FI_X4_operand; rw [if_pos kN]
    have k81 : ∀ (X : SI) b, (X = FI_X4_fail 2 A J ∧ ¬ b = 4) ∨ X = u2 A 42 11 (nI (cc1 + 1)) → X 81 b = A 81 b := fun X b z => by
      rcases z with ⟨z, zb⟩ | z
      · rw [z]; unfold FI_X4_fail; rw [if_pos c]
        exact (u2_n _ _ (by omega)).trans ((u2_n _ _ (by omega)).trans (u2_n _ _ (by omega)))
      · rw [z]; exact u2_n _ _ (by omega)
    have kn6 : FI_X4_knot A J 81 6 = A 81 6 := by
      rcases kn with ⟨k1, k2, k4⟩ | ⟨k1, k2, k4⟩
      · exact k81 _ 6 (Or.inl ⟨k2, by omega⟩)
      · exact k81 _ 6 (Or.inr k2)
    have f2 : ∀ X : SI, Fl 2 A X → Fl 2 A (FI_X1_add a0 (A 81 5) (X 81 6) X J) := fun X f => f.w (fun a b z => addl_fr (by omega))
    by_cases v9 : A 81 6 ≤ 9999
    · have w9 := x2.mp v9
      have vw := x3 (Int32.le_trans v9 (by decide))
      have t162 : T_X12_primary_j162 (RG_expr k) B J' = B := by unfold T_X12_primary_j162; rw [if_neg t114, if_pos w9]
      rw [t162] at hR
      have t46 : T_X4_operand_j46 a0 A J = FI_X4_knot A J := by unfold T_X4_operand_j46; rw [kn6, if_pos v9]
      have e29 : FI_X12_knot B J' 130 29 = B 130 29 := knot_v (Or.inr rfl)
      rw [e29] at hR
      have eOp2 : FI_X4_operand a0 A J = FI_X1_add a0 (A 81 5) (A 81 6) (FI_X4_knot A J) J := by
        rw [eOp]; unfold S1_X4_operand; rw [t46, kn6]
      refine lf (by rw [kN]; decide) eOp2 (by unfold F_X4_operand; rw [if_pos kN]) (Or.inl ⟨kN, rfl, vw, ?_⟩) hR (fun z => ?_)
      · obtain ⟨a, b, ea, ebb, _, hb, _⟩ := kv.num.2 kN
        rw [ebb] at w9 ⊢
        exact ⟨b, (nI_leI (b := 9999) (by omega) (by omega)).mp w9, rfl⟩
      · have q := knf z
        refine bad 2 (by decide) ?_ ?_
        · rw [eOp2, q.1, ← k81 (FI_X4_fail 2 A J) 6 (Or.inl ⟨rfl, by omega⟩)]
          exact f2 _ (fail_Fl c)
        · rw [hR, q.2, puts_f (wf 2 (by decide)), goOn_f (wf 2 (by decide))]
    · have w9 : ¬ B 130 29 ≤ 9999 := fun z => v9 (x2.mpr z)
      have t162 : T_X12_primary_j162 (RG_expr k) B J' = FI_X12_wrong 2 B J' := by unfold T_X12_primary_j162; rw [if_neg t114, if_neg w9]
      have t46 : T_X4_operand_j46 a0 A J = FI_X4_fail 2 (FI_X4_knot A J) J := by unfold T_X4_operand_j46; rw [kn6, if_neg v9]
      refine bad 2 (by decide) ?_ ?_
      · rw [eOp]
        unfold S1_X4_operand
        rw [t46]
        refine f2 _ ?_
        rcases kn with ⟨k1, k2, k4⟩ | ⟨k1, k2, k4⟩
        · rw [k2, fail_f (by rw [(fail_Fl (w := 2) (J := J) c).1]; decide)]
          exact fail_Fl c
        · rw [k2]
          exact (fail_Fl ((u2_n _ _ (by omega)).trans c)).of (u2_n _ _ (by omega))
      · rw [hR, t162, knot_f (wf 2 (by decide)), puts_f (wf 2 (by decide)), goOn_f (wf 2 (by decide))]
  · have sN : ¬ B 130 28 = 2 := fun z => kN (kv.num.1.mpr z)
    have t114 : T_X12_primary_j114 (RG_expr k) B J' = 0 := by
      unfold T_X12_primary_j114
      rw [if_neg sN]
    have t176 : T_X12_primary_j176 (RG_expr k) B J' = 1 := by unfold T_X12_primary_j176; rw [if_pos t114]
    rw [if_pos t114] at hR
    unfold S1_X12_primary at hR
    rw [t176] at hR
    by_cases kW : ∃ i, 16 ≤ i ∧ i < 23 ∧ A 81 5 = nI (20 + i)
    · obtain ⟨i, hi, hi2, ei⟩ := kW
      have sw := (kv.word.2 i hi2).mp ei
      have g16 : (16 : Int32) ≤ B 130 29 := by rw [sw.2]; exact nI_le (a := 16) hi (by omega)
      have t162 : T_X12_primary_j162 (RG_expr k) B J' = B := by
        unfold T_X12_primary_j162
        rw [if_pos t114, if_pos sw.1, if_pos g16]
      have e29 : FI_X12_knot B J' 130 29 = B 130 29 := knot_v (Or.inr rfl)
      rw [t162, e29, sw.2, show (16 : Int32) = nI 16 from rfl, pk_sub hi] at hR
      have n36 : ¬ A 81 5 < 36 := by rw [ei]; exact nI_nlt (b := 36) (by omega) (by omega)
      have eOp : FI_X4_operand a0 A J = FI_X1_add a0 (A 81 5) 0 (FI_X4_knot A J) J := by unfold FI_X4_operand; rw [if_neg kN, if_neg n36]
      refine lf (by rw [ei]; exact fun z => by have := (nI_eq (b := 0) (by omega) (by omega)).mp z; omega) eOp (by unfold F_X4_operand; rw [if_neg kN, if_neg n36]) (Or.inr (Or.inl ⟨i - 16, by omega, by rw [ei]; exact congrArg nI (by omega), rfl, rfl⟩)) hR (fun z => ?_)
      have q := knf z
      refine bad 2 (by decide) ?_ ?_
      · rw [eOp, q.1]
        exact (fail_Fl (J := J) c).w (fun a b z => addl_fr (by omega))
      · rw [hR, q.2, puts_f (wf 2 (by decide)), goOn_f (wf 2 (by decide))]
    · have l36 : A 81 5 < 36 := by
        rcases kv with ⟨a, _⟩ | ⟨a, _⟩ | ⟨a, _⟩ | ⟨a, _⟩ | ⟨i, hi, a, _⟩ | ⟨i, hi, a, _⟩
        · rw [a]; decide
        · rw [a]; decide
        · rw [a]; decide
        · rw [a]; decide
        · rw [a]; exact nI_lt (b := 36) (by omega) (by omega)
        · rw [a]
          by_cases z : 16 ≤ i
          · exact absurd ⟨i, z, hi, a⟩ kW
          · exact nI_lt (b := 36) (by omega) (by omega)
      have t162 : T_X12_primary_j162 (RG_expr k) B J' = FI_X12_wrong 1 B J' := by
        unfold T_X12_primary_j162
        rw [if_pos t114]
        by_cases z : B 130 28 = 0
        · obtain ⟨i, hi, e1, e2⟩ := kv.word.1 z
          rw [if_pos z, if_neg ?_]
          rw [e2]
          intro q
          have := (nI_leI (a := 16) (by omega) (by omega)).mp q
          exact kW ⟨i, this, hi, e1⟩
        · rw [if_neg z]
      refine bad 1 (by decide) ?_ ?_
      · have eOp : FI_X4_operand a0 A J = FI_X4_fail 1 A J := by
          unfold FI_X4_operand
          rw [if_neg kN, if_pos l36, if_neg h5]
          by_cases z : A 81 5 = 35
          · have q := hp z
            rw [if_pos z, if_pos ?_]
            rw [rk_v, top_v (J := J) d.2.1 d.cap, if_neg q.1, d.2.2.2.1 _ (by omega), (rk_n 35).1, (rk_n (A 84 (h - 1))).1, rn_35.1]
            exact nI_lt (by omega) (by have := (rk_n (A 84 (h - 1))).2; omega)
          · rw [if_neg z]
        rw [eOp]
        exact fail_Fl c
      · rw [hR, t162, knot_f (wf 1 (by decide)), puts_f (wf 1 (by decide)), goOn_f (wf 1 (by decide))]
