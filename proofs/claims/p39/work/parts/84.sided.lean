/-! both: a law's side: signs and levels -/
def lo (i : Nat) : Nat := if i = 0 then 1 else if i = 1 then 2 else if i = 2 then 3 else if i = 3 then 5 else if i = 4 then 6 else 7
def lp (i : Nat) : Nat := if i = 0 then 1 else if i = 1 then 2 else if i = 2 then 4 else if i = 3 then 5 else if i = 4 then 6 else 7
def Pre (i h : Nat) (A : SI) : Prop := (h = 0 ∨ rn (A 84 (h - 1)) < lp i) ∧ (3 ≤ i → A 81 5 = 35 → ¬ h = 0 ∧ 4 ≤ rn (A 84 (h - 1)))
/-- a comparison stands on the stack, only what binds more closely above it -/
def CT (h h' : Nat) (A : SI) : Prop := ∃ q, h ≤ q ∧ q < h' ∧ rn (A 84 q) = 4 ∧ ∀ j, q < j → j < h' → 5 ≤ rn (A 84 j)
def MU (i h h' : Nat) (A : SI) : Prop := (i ≤ 4 → A 81 5 ≠ 9 ∧ A 81 5 ≠ 10) ∧ (i ≤ 3 → A 81 5 ≠ 7 ∧ A 81 5 ≠ 8) ∧ (i ≤ 2 → rn (A 81 5) = 4 → CT h h' A) ∧ (i ≤ 1 → A 81 5 ≠ 34) ∧ (i ≤ 0 → A 81 5 ≠ 33)
theorem MU.of {i h h1 h' : Nat} {A : SI} (m : MU (i + 1) h1 h' A) (hh : h ≤ h1) (x4 : i = 4 → A 81 5 ≠ 9 ∧ A 81 5 ≠ 10) (x3 : i = 3 → A 81 5 ≠ 7 ∧ A 81 5 ≠ 8) (x2 : i = 2 → rn (A 81 5) = 4 → CT h h' A) (x1 : i = 1 → A 81 5 ≠ 34) (x0 : i = 0 → A 81 5 ≠ 33) : MU i h h' A := by
  obtain ⟨a, b, c, d, e⟩ := m
  refine ⟨fun z => ?_, fun z => ?_, fun z y => ?_, fun z => ?_, fun z => x0 (by omega)⟩
  · by_cases q : i = 4
    · exact x4 q
    · exact a (by omega)
  · by_cases q : i = 3
    · exact x3 q
    · exact b (by omega)
  · by_cases q : i = 2
    · exact x2 q y
    · obtain ⟨r, r1, r2, r3, r4⟩ := c (by omega) y
      exact ⟨r, by omega, r2, r3, r4⟩
  · by_cases q : i = 1
    · exact x1 q
    · exact d (by omega)
theorem MU.dn {i h h1 h' : Nat} {A : SI} (m : MU i h1 h' A) (hh : h ≤ h1) : MU i h h' A := by
  obtain ⟨a, b, c, d, e⟩ := m
  refine ⟨a, b, fun z y => ?_, d, e⟩
  obtain ⟨r, r1, r2, r3, r4⟩ := c z y
  exact ⟨r, by omega, r2, r3, r4⟩
/-- what a part leaves -/
def PTD (i a0 f0 h : Nat) (A A' B' : SI) : Prop := FRS a0 h A A' ∧ ∃ m' h', SD a0 f0 h m' h' A' B' ∧ (∀ j, h ≤ j → j < h' → lo i ≤ rn (A' 84 j)) ∧ MU i h h' A'
def LV (k : Nat) : Prop := ∀ (i a0 n f0 m h : Nat) (A B : SI) (J J' : SJ), i ≤ 5 → K3 a0 → EI B → DD i B ≤ k → Si n A B → A 41 1 = 0 → SD a0 f0 h m h A B → Pre i h A → G a0 n J 1 A (RG_expr k i B J').1 (fun A' => PTD i a0 f0 h A A' (RG_expr k i B J').1)
/-- a sign behind an operand -/
theorem sgn_G {a0 n f0 m1 h1 h ρ : Nat} {A B : SI} {J J' : SJ} (k3 : K3 a0) (eb : EI B) (s : Si n A B) (c : A 41 1 = 0) (d : SD a0 f0 h m1 h1 A B) (er : rn (A 81 5) = ρ) (h0 : 1 ≤ ρ) (h35 : A 81 5 ≠ 35) (hr : ∀ j, h ≤ j → j < h1 → (if ρ = 4 then 5 else ρ) ≤ rn (A 84 j)) (hb : h = 0 ∨ rn (A 84 (h - 1)) < (if ρ = 4 then 5 else ρ)) (h4 : ρ = 4 → h = 0 ∨ rn (A 84 (h - 1)) ≠ 4) : (∃ (A2 : SI) (w : Int32), Rch a0 J 1 (0, A) (w, A2) ∧ 1 + phi n A2 ≤ phi n A ∧ Si n A2 (FI_X12_goOn (FI_X12_knot B J') J') ∧ ¬ A2 41 1 = 0) ∨ ∃ A2 : SI, Rch a0 J 1 (0, A) (1, A2) ∧ 1 + phi n A2 ≤ phi n A ∧ Si n A2 (FI_X12_goOn (FI_X12_knot B J') J') ∧ A2 41 1 = 0 ∧ (∃ m2, SD a0 f0 (h + 1) m2 (h + 1) A2 (FI_X12_goOn (FI_X12_knot B J') J')) ∧ A2 84 h = A 81 5 ∧ FRS a0 h A A2 := by
  have k3' := k3
  unfold K3 at k3'
  have c0 : B 130 30 = 0 := s.1.symm.trans c
  obtain ⟨tp, wd0, hn, a2, b2, a4, r0, hr0, a3, b3, a7, kv⟩ := s.2.2.1 c
  obtain ⟨hN, cc1, o, hc, ho, ec, ebc, eo, ebo, eq, eq2⟩ := d.n eb c0
  have cap := d.cap
  have r6 := (rk_n (A 81 5)).2
  have k6 : ¬ A 81 5 = 6 := fun z => by rw [z, rn_35.2.1] at er; omega
  have k4n : ¬ A 81 5 = 4 := fun z => by rw [z, rn_35.2.2.2] at er; omega
  have kr0 : ¬ F_X4_rank (A 81 5) A J = 0 := fun z => by
    rw [rk_v, (rk_n _).1, er] at z
    have := (nI_eq (b := 0) (by omega) (by omega)).mp z
    omega
  have k00 : ¬ A 81 5 = 0 := fun z => kr0 (by rw [z]; rfl)
  have e83 : T_X4_sign_j83 a0 A J = nI (if ρ = 4 then 5 else ρ) := by
    unfold T_X4_sign_j83
    rw [rk_v, (rk_n _).1, er]
    by_cases z : ρ = 4
    · rw [if_pos z, z, if_pos (show nI 4 = (4 : Int32) from rfl)]; rfl
    · rw [if_neg z, if_neg (show ¬ nI ρ = (4 : Int32) from fun q => z ((nI_eq (b := 4) (by omega) (by omega)).mp q))]
  have jr := join_R (J := J) (ρ := if ρ = 4 then 5 else ρ) k3 d hN hr hb (by split <;> omega)
  rw [← e83] at jr
  generalize hJ : FI_X4_join a0 (T_X4_sign_j83 a0 A J) A J = X at jr
  obtain ⟨dj, kj⟩ := jr
  have top : ρ = 4 → ¬ F_X4_topRank X J = 4 := fun z q => by
    rw [top_v (J := J) dj.2.1 (by have := d.2.2.1; omega)] at q
    by_cases y : h = 0
    · rw [if_pos y] at q; exact absurd q (by decide)
    · rw [if_neg y, dj.2.2.2.1 _ (by omega), kj 84 _ (by omega) (by omega) (by omega) (by omega), (rk_n _).1] at q
      have := (nI_eq (b := 4) (by have := (rk_n (A 84 (h - 1))).2; omega) (by omega)).mp q
      rcases h4 z with w | w
      · exact y w
      · exact w this
  have eS : FI_X4_sign a0 A J = FI_X4_hold (A 81 5) (FI_X4_knot X J) J := by
    unfold FI_X4_sign
    rw [if_neg k6, if_neg kr0, if_neg h35]
    by_cases z : F_X4_rank (A 81 5) A J = 4
    · have z4 : ρ = 4 := by
        rw [rk_v, (rk_n _).1, er] at z
        exact (nI_eq (b := 4) (by omega) (by omega)).mp z
      rw [if_pos z, hJ, if_neg (top z4)]
      unfold S2_X4_sign
      rw [hJ]
    · rw [if_neg z]
      unfold S1_X4_sign
      rw [hJ]
  have eF : F_X4_sign a0 A J = 1 := by
    unfold F_X4_sign
    rw [if_neg k6, if_neg kr0, if_neg h35]
    simp only [ite_self]
  have ri := Rch.one (it_sg (a0 := a0) (J := J) c (fun z => k4n z.2))
  have xk : ∀ a b, a = 81 ∨ (a = 41 ∧ ¬ b = 6) ∨ a = 42 ∨ a = 1 ∨ a = 82 ∨ a = 84 ∨ a = 85 → X a b = A a b := fun a b z => kj a b (by omega) (by omega) (by omega) (by omega)
  have cX : X 41 1 = 0 := (xk 41 1 (by omega)).trans c
  rcases kn_R (A := X) (J := J) (J' := J') c0 ((xk 42 11 (by omega)).trans ec) ebc hc with ⟨k1, k2, k4⟩ | ⟨k1, k2, k4⟩
  · have fx : Fl 2 A (FI_X4_sign a0 A J) := by
      rw [eS, k2, hold_f (by rw [(fail_Fl (w := 2) (J := J) cX).1]; decide)]
      exact (fail_Fl cX).of (xk 81 7 (by omega))
    have wf : ¬ FI_X12_wrong 2 B J' 130 30 = 0 := fun q => absurd ((wrong_Fm (w := 2) (J := J') c0).1.symm.trans q) (by decide)
    have s1 : Si n (FI_X4_sign a0 A J) (FI_X12_goOn (FI_X12_knot B J') J') := by
      rw [k4, goOn_f wf]
      exact flt s c (by decide) fx (wrong_Fm c0)
    have nf : ¬ FI_X4_sign a0 A J 41 1 = 0 := by rw [fx.1]; decide
    have p1 := phi_s (J := J) s c s1 (fun z => absurd z nf)
    rw [step_id fx.2.2] at p1 ri
    exact Or.inl ⟨FI_X4_sign a0 A J, _, ri, by omega, s1, nf⟩
  · have e6 : (u2 X 42 11 (nI (cc1 + 1))) 41 6 = nI h := (u2_n _ _ (by omega)).trans dj.2.1
    have eA : FI_X4_sign a0 A J = u2 (u2 (u2 (u2 X 42 11 (nI (cc1 + 1))) 84 h (A 81 5)) 85 h (rk (A 81 5))) 41 6 (nI (h + 1)) := by
      rw [eS, k2]
      exact hold_v ((u2_n _ _ (by omega)).trans cX) e6 (by have := d.2.2.1; omega)
    have g : ∀ a b, a = 81 ∨ (a = 41 ∧ ¬ b = 6) ∨ a = 1 ∨ a = 82 → FI_X4_sign a0 A J a b = A a b := fun a b z => by
      rw [eA]
      exact (u2_n _ _ (by omega)).trans ((u2_n _ _ (by omega)).trans ((u2_n _ _ (by omega)).trans ((u2_n _ _ (by omega)).trans (xk a b (by omega)))))
    have gB : ∀ a b, ¬ (a = 130 ∧ b = 35) → FI_X12_knot B J' a b = B a b := fun a b z => by
      rw [k4]
      exact u2_n _ _ z
    have s1 : Si n (FI_X4_sign a0 A J) (FI_X12_knot B J') := ⟨by rw [g 41 1 (by omega), gB 130 30 (by omega)]; exact s.1, by rw [g 41 2 (by omega), gB 130 31 (by omega)]; exact s.2.1, fun _ => ⟨fun b => by rw [g 1 b (by omega), gB 131 b (by omega)]; exact tp b, fun i hi => (g 82 i (by omega)).trans (wd0 i hi), hn, (g 81 2 (by omega)).trans a2, (gB 130 25 (by omega)).trans b2, (g 81 4 (by omega)).trans a4, r0, hr0, (g 81 3 (by omega)).trans a3, (gB 130 26 (by omega)).trans b3, by rw [g 81 7 (by omega), gB 130 27 (by omega)]; exact a7, by rw [g 81 5 (by omega), g 81 6 (by omega), gB 130 28 (by omega), gB 130 29 (by omega)]; exact kv⟩, fun z => absurd ((g 41 1 (by omega)).trans c) z⟩
    have p1 := phi_s (J := J) s c s1 (fun _ => ⟨k00, g 81 3 (by omega)⟩)
    have o1 := op_step (J := J) (J' := J') s1
    have cA : FI_X4_sign a0 A J 41 1 = 0 := (g 41 1 (by omega)).trans c
    rw [eF] at ri
    have dp : SD a0 f0 (h + 1) (m1 + (h1 - h)) (h + 1) (FI_X4_sign a0 A J) (FI_X12_knot B J') := dj.push (x := A 81 5) (c := cc1 + 1) (o := o) (fun a b z => by
        rw [eA]
        exact (u2_n _ _ (by omega)).trans ((u2_n _ _ (by omega)).trans ((u2_n _ _ (by omega)).trans (u2_n _ _ (by omega))))) (by rw [eA]; exact u2_s _ _ _ _) (by rw [eA]; exact (u2_n _ _ (by omega)).trans ((u2_n _ _ (by omega)).trans (u2_s _ _ _ _))) (by rw [eA]; exact (u2_n _ _ (by omega)).trans (u2_s _ _ _ _)) (fun a b z => gB a b (by omega)) (by omega) ho (by rw [eA]; exact (u2_n _ _ (by omega)).trans ((u2_n _ _ (by omega)).trans ((u2_n _ _ (by omega)).trans (u2_s _ _ _ _)))) (by rw [k4]; exact u2_s _ _ _ _) ((g 41 7 (by omega)).trans eo) ((gB 130 34 (by omega)).trans ebo) (by have := d.2.2.1; omega)
    refine Or.inr ⟨FI_X8_step (FI_X4_sign a0 A J) J, ri, by omega, o1.1.1, (o1.2 cA).2, ⟨_, dp.op k3 o1.1⟩, ?_, ?_⟩
    · rw [o1.1.2.1 84 h (by omega) (by omega), eA]
      exact (u2_n _ _ (by omega)).trans ((u2_n _ _ (by omega)).trans (u2_s _ _ _ _))
    · refine FRS.tr (A1 := FI_X4_sign a0 A J) (fun a b x1 x2 x3 x4 x5 x6 x7 => ?_) o1.1.2.1.frs
      rw [eA]
      exact (u2_n _ _ (by omega)).trans ((u2_n _ _ (by omega)).trans ((u2_n _ _ (by omega)).trans ((u2_n _ _ (by omega)).trans (kj a b x5 x6 x7 (by omega)))))
/-- not, ahead of an operand -/
theorem not_G {a0 n f0 m h : Nat} {A B : SI} {J J' : SJ} (k3 : K3 a0) (eb : EI B) (s : Si n A B) (c : A 41 1 = 0) (d : SD a0 f0 h m h A B) (h35 : A 81 5 = 35) (hb : h = 0 ∨ rn (A 84 (h - 1)) < 4) : (∃ (A2 : SI) (w : Int32), Rch a0 J 1 (1, A) (w, A2) ∧ 1 + phi n A2 ≤ phi n A ∧ Si n A2 (FI_X12_goOn (FI_X12_knot B J') J') ∧ ¬ A2 41 1 = 0) ∨ ∃ A2 : SI, Rch a0 J 1 (1, A) (1, A2) ∧ 1 + phi n A2 ≤ phi n A ∧ Si n A2 (FI_X12_goOn (FI_X12_knot B J') J') ∧ A2 41 1 = 0 ∧ (∃ m2, SD a0 f0 (h + 1) m2 (h + 1) A2 (FI_X12_goOn (FI_X12_knot B J') J')) ∧ A2 84 h = 35 ∧ FRS a0 h A A2 := by
  have k3' := k3
  unfold K3 at k3'
  have c0 : B 130 30 = 0 := s.1.symm.trans c
  obtain ⟨tp, wd0, hn, a2, b2, a4, r0, hr0, a3, b3, a7, kv⟩ := s.2.2.1 c
  obtain ⟨hN, cc1, o, hc, ho, ec, ebc, eo, ebo, eq, eq2⟩ := d.n eb c0
  have cap := d.cap
  have top : ¬ F_X4_rank 35 A J < F_X4_topRank A J := by
    rw [rk_v, top_v (J := J) d.2.1 cap]
    by_cases y : h = 0
    · rw [if_pos y]; decide +kernel
    · rw [if_neg y, d.2.2.2.1 _ (by omega), (rk_n 35).1, (rk_n (A 84 (h - 1))).1, rn_35.1]
      exact nI_nlt (by omega) (by omega)
  have eS : FI_X4_operand a0 A J = FI_X4_hold 35 (FI_X4_knot A J) J := by
    unfold FI_X4_operand
    rw [if_neg (by rw [h35]; decide), if_pos (by rw [h35]; decide), if_neg (by rw [h35]; decide), if_pos h35, if_neg top, h35]
  have eF : F_X4_operand a0 A J = 1 := by
    unfold F_X4_operand
    rw [if_neg (by rw [h35]; decide), if_pos (by rw [h35]; decide)]
    simp only [ite_self]
  have ri := Rch.one (it_op (a0 := a0) (J := J) c)
  rcases kn_R (A := A) (J := J) (J' := J') c0 ec ebc hc with ⟨k1, k2, k4⟩ | ⟨k1, k2, k4⟩
  · have fx : Fl 2 A (FI_X4_operand a0 A J) := by
      rw [eS, k2, hold_f (by rw [(fail_Fl (w := 2) (J := J) c).1]; decide)]
      exact fail_Fl c
    have wf : ¬ FI_X12_wrong 2 B J' 130 30 = 0 := fun q => absurd ((wrong_Fm (w := 2) (J := J') c0).1.symm.trans q) (by decide)
    have s1 : Si n (FI_X4_operand a0 A J) (FI_X12_goOn (FI_X12_knot B J') J') := by
      rw [k4, goOn_f wf]
      exact flt s c (by decide) fx (wrong_Fm c0)
    have nf : ¬ FI_X4_operand a0 A J 41 1 = 0 := by rw [fx.1]; decide
    have p1 := phi_s (J := J) s c s1 (fun z => absurd z nf)
    rw [step_id fx.2.2] at p1 ri
    exact Or.inl ⟨FI_X4_operand a0 A J, _, ri, by omega, s1, nf⟩
  · have e6 : (u2 A 42 11 (nI (cc1 + 1))) 41 6 = nI h := (u2_n _ _ (by omega)).trans d.2.1
    have eA : FI_X4_operand a0 A J = u2 (u2 (u2 (u2 A 42 11 (nI (cc1 + 1))) 84 h 35) 85 h (rk 35)) 41 6 (nI (h + 1)) := by
      rw [eS, k2]
      exact hold_v ((u2_n _ _ (by omega)).trans c) e6 (by omega)
    have g : ∀ a b, a = 81 ∨ (a = 41 ∧ ¬ b = 6) ∨ a = 1 ∨ a = 82 → FI_X4_operand a0 A J a b = A a b := fun a b z => by
      rw [eA]
      exact (u2_n _ _ (by omega)).trans ((u2_n _ _ (by omega)).trans ((u2_n _ _ (by omega)).trans (u2_n _ _ (by omega))))
    have gB : ∀ a b, ¬ (a = 130 ∧ b = 35) → FI_X12_knot B J' a b = B a b := fun a b z => by
      rw [k4]
      exact u2_n _ _ z
    have s1 : Si n (FI_X4_operand a0 A J) (FI_X12_knot B J') := ⟨by rw [g 41 1 (by omega), gB 130 30 (by omega)]; exact s.1, by rw [g 41 2 (by omega), gB 130 31 (by omega)]; exact s.2.1, fun _ => ⟨fun b => by rw [g 1 b (by omega), gB 131 b (by omega)]; exact tp b, fun i hi => (g 82 i (by omega)).trans (wd0 i hi), hn, (g 81 2 (by omega)).trans a2, (gB 130 25 (by omega)).trans b2, (g 81 4 (by omega)).trans a4, r0, hr0, (g 81 3 (by omega)).trans a3, (gB 130 26 (by omega)).trans b3, by rw [g 81 7 (by omega), gB 130 27 (by omega)]; exact a7, by rw [g 81 5 (by omega), g 81 6 (by omega), gB 130 28 (by omega), gB 130 29 (by omega)]; exact kv⟩, fun z => absurd ((g 41 1 (by omega)).trans c) z⟩
    have p1 := phi_s (J := J) s c s1 (fun _ => ⟨by rw [h35]; decide, g 81 3 (by omega)⟩)
    have o1 := op_step (J := J) (J' := J') s1
    have cA : FI_X4_operand a0 A J 41 1 = 0 := (g 41 1 (by omega)).trans c
    rw [eF] at ri
    have dp : SD a0 f0 (h + 1) m (h + 1) (FI_X4_operand a0 A J) (FI_X12_knot B J') := d.push (x := 35) (c := cc1 + 1) (o := o) (fun a b z => by
        rw [eA]
        exact (u2_n _ _ (by omega)).trans ((u2_n _ _ (by omega)).trans ((u2_n _ _ (by omega)).trans (u2_n _ _ (by omega))))) (by rw [eA]; exact u2_s _ _ _ _) (by rw [eA]; exact (u2_n _ _ (by omega)).trans ((u2_n _ _ (by omega)).trans (u2_s _ _ _ _))) (by rw [eA]; exact (u2_n _ _ (by omega)).trans (u2_s _ _ _ _)) (fun a b z => gB a b (by omega)) (by omega) ho (by rw [eA]; exact (u2_n _ _ (by omega)).trans ((u2_n _ _ (by omega)).trans ((u2_n _ _ (by omega)).trans (u2_s _ _ _ _)))) (by rw [k4]; exact u2_s _ _ _ _) ((g 41 7 (by omega)).trans eo) ((gB 130 34 (by omega)).trans ebo) (by omega)
    refine Or.inr ⟨FI_X8_step (FI_X4_operand a0 A J) J, ri, by omega, o1.1.1, (o1.2 cA).2, ⟨_, dp.op k3 o1.1⟩, ?_, ?_⟩
    · rw [o1.1.2.1 84 h (by omega) (by omega), eA]
      exact (u2_n _ _ (by omega)).trans ((u2_n _ _ (by omega)).trans (u2_s _ _ _ _))
    · refine FRS.tr (A1 := FI_X4_operand a0 A J) (fun a b x1 x2 x3 x4 x5 x6 x7 => ?_) o1.1.2.1.frs
      rw [eA]
      exact (u2_n _ _ (by omega)).trans ((u2_n _ _ (by omega)).trans ((u2_n _ _ (by omega)).trans (u2_n _ _ (by omega))))
/-- a fault of the model stays -/
theorem ex_f {k i : Nat} {B : SI} {J : SJ} (R : RC k) (eb : EI B) (hi : i ≤ 5) (c : ¬ B 130 30 = 0) (hk : 6 ≤ k) : (RG_expr k i B J).1 = B := (R i B J hi eb (by unfold DD; rw [if_neg c]; omega)).2.2.2.2.2.1 c
/-- what an operand's part ahead of a sign's right side gives, with the sign told -/
theorem rhs_G {a0 n f0 h k q : Nat} {v : Int32} {A2 B2 : SI} {J J2 J3 : SJ} {w : Int32} (k3 : K3 a0) (lv : LV k) (hq : q ≤ 5) (e2 : EI B2) (hD : DD q B2 ≤ k) (R : RC k) (s2 : Si n A2 B2) (hw : A2 41 1 = 0 → w = 1 ∧ (∃ m2, SD a0 f0 (h + 1) m2 (h + 1) A2 B2) ∧ SQ (A2 84 h) v ∧ lo q ≤ 7 ∧ rn (A2 84 h) < lp q ∧ (3 ≤ q → A2 81 5 = 35 → 4 ≤ rn (A2 84 h))) : G a0 n J w A2 (FI_X12_puts 2 v (RG_expr k q B2 J2).1 J3) (fun A' => FRS a0 (h + 1) A2 A' ∧ ∃ m' h', SD a0 f0 h m' h' A' (FI_X12_puts 2 v (RG_expr k q B2 J2).1 J3) ∧ h + 1 ≤ h' ∧ A' 84 h = A2 84 h ∧ (∀ j, h + 1 ≤ j → j < h' → lo q ≤ rn (A' 84 j)) ∧ MU q (h + 1) h' A') := by
  have k3' := k3
  unfold K3 at k3'
  have px := (R q B2 J2 hq e2 hD).2
  by_cases c : A2 41 1 = 0
  · obtain ⟨rfl, ⟨m2, d2⟩, sq, _, hp1, hp2⟩ := hw c
    have g := lv q a0 n f0 m2 (h + 1) A2 B2 J J2 hq k3 e2 hD s2 c d2 ⟨Or.inr (by rw [Nat.add_sub_cancel]; exact hp1), fun z y => ⟨by omega, by rw [Nat.add_sub_cancel]; exact hp2 z y⟩⟩
    obtain ⟨cn, A', w', r1, r2, r3, r4⟩ := g
    by_cases c' : A' 41 1 = 0
    · obtain ⟨rfl, fr, m', h', dd, hr, mu⟩ := r4 c'
      have cb : (RG_expr k q B2 J2).1 130 30 = 0 := r3.1.symm.trans c'
      have hN := (dd.n px.ei cb).1
      have e84 : A' 84 h = A2 84 h := fr 84 h (by omega) (by omega) (by omega) (by omega) (by omega) (by omega) (by omega)
      have dp := dd.puts (v := v) (J := J3) cb hN (by rw [e84]; exact sq)
      have gB : ∀ a b, a = 130 ∨ a = 131 → FI_X12_puts 2 v (RG_expr k q B2 J2).1 J3 a b = (RG_expr k q B2 J2).1 a b := fun a b z => by
        rw [puts_v cb dd.2.2.2.2.1 hN]
        exact (u2_n _ _ (by omega)).trans ((u2_n _ _ (by omega)).trans (u2_n _ _ (by omega)))
      obtain ⟨tp, wd0, hn, a2, b2, a4, r0, hr0, a3, b3, a7, kv⟩ := r3.2.2.1 c'
      exact ⟨cn, A', 0, r1, r2, ⟨by rw [gB 130 30 (by omega)]; exact r3.1, by rw [gB 130 31 (by omega)]; exact r3.2.1, fun _ => ⟨fun b => by rw [gB 131 b (by omega)]; exact tp b, wd0, hn, a2, (gB 130 25 (by omega)).trans b2, a4, r0, hr0, a3, (gB 130 26 (by omega)).trans b3, by rw [gB 130 27 (by omega)]; exact a7, by rw [gB 130 28 (by omega), gB 130 29 (by omega)]; exact kv⟩, r3.2.2.2⟩, fun _ => ⟨rfl, fr, m', h', dp, dd.2.2.1, e84, hr, mu⟩⟩
    · have cb : ¬ (RG_expr k q B2 J2).1 130 30 = 0 := fun z => c' (r3.1.trans z)
      rw [puts_f cb]
      exact ⟨cn, A', w', r1, r2, r3, fun z => absurd z c'⟩
  · have cb : ¬ B2 130 30 = 0 := fun z => c (s2.1.trans z)
    have e : (RG_expr k q B2 J2).1 = B2 := px.2.2.2.2.1 cb
    rw [e, puts_f cb]
    exact G.f s2 c
