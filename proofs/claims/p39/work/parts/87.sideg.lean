/-! both: a law's side whole -/
theorem itE_rch {a0 : Nat} {I : SI} {J : SJ} : ∀ (k N i : Nat) (s s' : Int32 × SI), Rch a0 J k s s' → itE (B_X4_side_l14_3 a0 I J) (k + N) i s = itE (B_X4_side_l14_3 a0 I J) N (i + k) s' := by
  intro k
  induction k with
  | zero => intro N i s s' h; rw [Nat.zero_add, show s' = s from h]; rfl
  | succ k ih =>
    intro N i s s' h
    obtain ⟨t, h1, h2⟩ := h
    rw [show k + 1 + N = (k + N) + 1 by omega, itE_l _ _ _ _ _ (show B_X4_side_l14_3 a0 I J i s = .inl t from h1), ih N (i + 1) t s' h2]
    exact congrArg (fun z => itE (B_X4_side_l14_3 a0 I J) N z s') (by omega)
/-- the class's side ends at a fault's state -/
theorem side_f {a0 k : Nat} {A X : SI} {J : SJ} {w : Int32} (r : Rch a0 J k (1, u2 (u2 A 41 6 0) 41 7 0) (w, X)) (hk : k ≤ 701) (c : ¬ X 41 1 = 0) : FI_X4_side a0 A J = X := by
  have e : itE (B_X4_side_l14_3 a0 A J) 701 0 (1, u2 (u2 A 41 6 0) 41 7 0) = itE (B_X4_side_l14_3 a0 A J) (701 - k) (0 + k) (w, X) := by
    have z := itE_rch (I := A) k (701 - k) 0 _ _ r
    rw [show k + (701 - k) = 701 by omega] at z
    exact z
  unfold FI_X4_side F_X4_side_l14_3
  rw [e]
  cases hm : 701 - k with
  | zero => rw [itE_0]
  | succ m =>
    have b : B_X4_side_l14_3 a0 A J (0 + k) (w, X) = .inr X := by
      unfold B_X4_side_l14_3
      rw [if_neg c]
    rw [itE_r _ _ _ _ _ b]
theorem side_R {a0 n f0 : Nat} {A B : SI} {J J' : SJ} (k3 : K3 a0) (eb : EI B) (s : Si n A B) (c : A 41 1 = 0) (e1 : A a0 1 = 0) (en : B 132 19 = nI f0) (hc : f0 ≤ 64) (ec : A 42 11 = nI f0) (ebc : B 130 35 = nI f0) (eo : B 130 34 = 0) (hx : 1 ≤ nx A) : ∃ R' : SI, R' = (if F_X12_isSign 59 (RG_expr 140 0 B J').1 J' = 0 then FI_X12_wrong 1 (RG_expr 140 0 B J').1 J' else (RG_expr 140 0 B J').1) ∧ Si n (FI_X4_side a0 A J) R' ∧ (FI_X4_side a0 A J 41 1 = 0 → FI_X4_side a0 A J 81 5 = 4 ∧ (RG_expr 140 0 B J').1 130 30 = 0 ∧ FRS a0 0 A (FI_X4_side a0 A J) ∧ nx A ≤ nx (FI_X4_side a0 A J) ∧ ∃ m : Nat, 1 ≤ m ∧ f0 + m ≤ 64 ∧ FI_X4_side a0 A J a0 1 = nI m ∧ (RG_expr 140 0 B J').1 132 19 = nI (f0 + m) ∧ FI_X4_side a0 A J 42 11 = nI (f0 + m) ∧ (RG_expr 140 0 B J').1 130 35 = nI (f0 + m) ∧ (RG_expr 140 0 B J').1 130 34 = 0 ∧ (∀ j, j < m → CQ (FI_X4_side a0 A J (a0 + 1) j) (FI_X4_side a0 A J (a0 + 2) j) ((RG_expr 140 0 B J').1 150 (64 + f0 + j)) ((RG_expr 140 0 B J').1 151 (64 + f0 + j))) ∧ dp (KK (RG_expr 140 0 B J').1) (VV (RG_expr 140 0 B J').1) m f0 0 = 1) := by
  refine ⟨_, rfl, ?_⟩
  have k3' := k3
  unfold K3 at k3'
  have c0 : B 130 30 = 0 := s.1.symm.trans c
  obtain ⟨tp, wd0, hn, a2, b2, a4, r0, hr0, a3, b3, a7, kv⟩ := s.2.2.1 c
  have nA : nx A = r0 := by unfold nx; rw [a3, nI_clamp (by omega)]
  have px := (side_E (J := J') eb).2
  have gA : ∀ a b, ¬ (a = 41 ∧ (b = 6 ∨ b = 7)) → (u2 (u2 A 41 6 0) 41 7 0) a b = A a b := fun a b z => (u2_n _ _ (by omega)).trans (u2_n _ _ (by omega))
  have sA : Si n (u2 (u2 A 41 6 0) 41 7 0) B := ⟨by rw [gA 41 1 (by omega)]; exact s.1, by rw [gA 41 2 (by omega)]; exact s.2.1, fun _ => ⟨fun b => by rw [gA 1 b (by omega)]; exact tp b, fun i hi => (gA 82 i (by omega)).trans (wd0 i hi), hn, (gA 81 2 (by omega)).trans a2, b2, (gA 81 4 (by omega)).trans a4, r0, hr0, (gA 81 3 (by omega)).trans a3, b3, (gA 81 7 (by omega)).trans a7, by rw [gA 81 5 (by omega), gA 81 6 (by omega)]; exact kv⟩, fun z => absurd ((gA 41 1 (by omega)).trans c) z⟩
  have cA : (u2 (u2 A 41 6 0) 41 7 0) 41 1 = 0 := (gA 41 1 (by omega)).trans c
  have sd : SD a0 f0 0 0 0 (u2 (u2 A 41 6 0) 41 7 0) B := ⟨(gA a0 1 (by omega)).trans e1, (u2_n _ _ (by omega)).trans (u2_s _ _ _ _), Nat.le_refl _, fun j hj => by omega, en, ⟨f0, 0, hc, by omega, (gA 42 11 (by omega)).trans ec, ebc, u2_s _ _ _ _, eo, by omega⟩, fun j hj => by omega⟩
  have g := all_G 140 0 a0 n f0 0 0 _ B J J' (by omega) k3 eb (by unfold DD; split <;> omega) sA cA sd ⟨Or.inl rfl, fun z => by omega⟩
  have ph : phi n (u2 (u2 A 41 6 0) 41 7 0) ≤ 701 := by
    have nx2 : nx (u2 (u2 A 41 6 0) 41 7 0) = nx A := by unfold nx; rw [gA 81 3 (by omega)]
    unfold phi
    rw [if_pos cA, nx2]
    split <;> omega
  generalize (RG_expr 140 0 B J').1 = T at g px
  obtain ⟨cn, X, w, r1, r2, r3, r4⟩ := g
  by_cases cX : X 41 1 = 0
  · obtain ⟨rfl, fr, m', h', dd, hrn, mu0⟩ := r4 cX
    have cT : T 130 30 = 0 := r3.1.symm.trans cX
    obtain ⟨hN', cc2, o', hc', ho', ec', ebc', eo', ebo', eq', eq2'⟩ := dd.n px.ei cT
    have o0 : o' = 0 := by
      have p := (px.2.2.2.2.2.2 cT).1
      have ob : oo B = 0 := by unfold oo; rw [eo]; rfl
      have ot : oo T = o' := by unfold oo; rw [ebo', nI_clamp (by omega)]
      omega
    subst o0
    by_cases k4 : X 81 5 = 4
    · have i59 : ¬ F_X12_isSign 59 T J' = 0 := (sg_iff (i := 0) r3 cX (by omega)).mpr k4
      rw [if_neg i59]
      have hk : cn + 2 ≤ 701 := by
        have := r3.far cX
        have q : 2 ≤ phi n X := by unfold phi; rw [if_pos cX, if_neg (by rw [k4]; decide)]; omega
        omega
      have b : B_X4_side_l14_3 a0 A J (0 + cn) (0, X) = .inr (FI_X4_join a0 1 X J) := by
        unfold B_X4_side_l14_3
        rw [if_pos cX, if_pos rfl, if_pos (show (0, X).snd 41 7 = (0 : Int32) from eo'), if_pos k4]
      have eS : FI_X4_side a0 A J = FI_X4_join a0 (nI 1) X J := by
        have e := itE_rch (I := A) cn ((699 - cn) + 1 + 1) 0 _ _ r1
        rw [show cn + ((699 - cn) + 1 + 1) = 701 by omega, itE_r _ _ _ _ _ b] at e
        unfold FI_X4_side F_X4_side_l14_3
        rw [e]
        rfl
      obtain ⟨dj, kj⟩ := join_R (J := J) (ρ := 1) k3 dd hN' (fun j a b => hrn j a b) (Or.inl rfl) (by omega)
      rw [← eS] at dj kj
      have g : ∀ a b, ¬ (a = 41 ∧ b = 6) → ¬ (a = a0 ∧ b = 1) → ¬ a = a0 + 1 → ¬ a = a0 + 2 → FI_X4_side a0 A J a b = X a b := fun a b z z1 z2 z3 => kj a b z1 z2 z3 z
      obtain ⟨tp', wd', hn', a2', b2', a4', r0', hr0', a3', b3', a7', kv'⟩ := r3.2.2.1 cX
      obtain ⟨d1, d2, d3, d4, d5, ⟨c3, o3, q1, q2, q3, q4, q5, q6, q7⟩, d7⟩ := dj
      have o30 : o3 = 0 := by
        rw [ebo'] at q6
        exact ((nI_eq (by omega) (by omega)).mp q6).symm
      have dpT : dp (KK T) (VV T) (m' + (h' - 0)) f0 0 = 1 := by
        have p4 := (px.2.2.2.2.2.2 cT).2.2.2 0
        have nb : nn B = f0 := by unfold nn; rw [en, nI_clamp (by omega)]
        have nt : nn T = f0 + (m' + (h' - 0)) := by unfold nn; rw [d5, nI_clamp (by omega)]; omega
        rw [nt, nb, show f0 + (m' + (h' - 0)) - f0 = m' + (h' - 0) by omega] at p4
        exact p4
      have m1 : 1 ≤ m' + (h' - 0) := by
        have p := (px.2.2.2.2.2.2 cT)
        have p4 := p.2.2.2 0
        have nb : nn B = f0 := by unfold nn; rw [en, nI_clamp (by omega)]
        have nt : nn T = f0 + (m' + (h' - 0)) := by unfold nn; rw [d5, nI_clamp (by omega)]; omega
        by_cases z : m' + (h' - 0) = 0
        · rw [nt, nb, z] at p4
          rw [show f0 + 0 - f0 = 0 by omega] at p4
          have p5 : (0 + 0 : Nat) = 0 + 1 := p4
          omega
        · omega
      refine ⟨⟨by rw [g 41 1 (by omega) (by omega) (by omega) (by omega)]; exact r3.1, by rw [g 41 2 (by omega) (by omega) (by omega) (by omega)]; exact r3.2.1, fun _ => ⟨fun b => by rw [g 1 b (by omega) (by omega) (by omega) (by omega)]; exact tp' b, fun i hi => (g 82 i (by omega) (by omega) (by omega) (by omega)).trans (wd' i hi), hn', (g 81 2 (by omega) (by omega) (by omega) (by omega)).trans a2', b2', (g 81 4 (by omega) (by omega) (by omega) (by omega)).trans a4', r0', hr0', (g 81 3 (by omega) (by omega) (by omega) (by omega)).trans a3', b3', by rw [g 81 7 (by omega) (by omega) (by omega) (by omega)]; exact a7', by rw [g 81 5 (by omega) (by omega) (by omega) (by omega), g 81 6 (by omega) (by omega) (by omega) (by omega)]; exact kv'⟩, fun z => absurd ((g 41 1 (by omega) (by omega) (by omega) (by omega)).trans cX) z⟩, fun _ => ⟨(g 81 5 (by omega) (by omega) (by omega) (by omega)).trans k4, cT, ?_, ?_, m' + (h' - 0), m1, by omega, d1, by rw [d5]; exact congrArg nI (by omega), by rw [q3]; exact congrArg nI (by omega), by rw [q4]; exact congrArg nI (by omega), ebo', fun j hj => ?_, dpT⟩⟩
      · refine FRS.tr (A1 := u2 (u2 A 41 6 0) 41 7 0) (fun a b x1 x2 x3 x4 x5 x6 x7 => gA a b (by omega)) (FRS.tr fr (fun a b x1 x2 x3 x4 x5 x6 x7 => ?_))
        exact g a b (by omega) x5 x6 x7
      · have n2 : nx (FI_X4_side a0 A J) = nx X := by unfold nx; rw [g 81 3 (by omega) (by omega) (by omega) (by omega)]
        have n3 : nx (u2 (u2 A 41 6 0) 41 7 0) = nx A := by unfold nx; rw [gA 81 3 (by omega)]
        have fx := r3.far cX
        have fa := s.far c
        rw [n2]
        unfold phi at r2
        rw [if_pos cX, if_pos cA, if_neg (show ¬ X 81 5 = 0 by rw [k4]; decide), n3] at r2
        split at r2 <;> omega
      · have q := d7 j (by omega)
        unfold vk vv at q
        have jm : j < m' + (h' - 0) := hj
        rw [if_pos jm, if_pos jm] at q
        exact q
    · have i59 : F_X12_isSign 59 T J' = 0 := by
        by_cases z : F_X12_isSign 59 T J' = 0
        · exact z
        · exact absurd ((sg_iff (i := 0) r3 cX (by omega)).mp z) k4
      rw [if_pos i59]
      have f1 := end_F (J := J) k3 px.ei r3 cX dd mu0 (fun _ => by rw [eo']; decide)
      have s7 : Si n (FI_X4_sign a0 X J) (FI_X12_wrong 1 T J') := flt r3 cX (by decide) f1 (wrong_Fm cT)
      have nf : ¬ FI_X4_sign a0 X J 41 1 = 0 := by rw [f1.1]; decide
      have ri2 := Rch.one (it_sg (a0 := a0) (J := J) cX (fun z => k4 z.2))
      rw [step_id f1.2.2] at ri2
      have p1 := phi_1 r3 cX
      have e := side_f (r1.tr ri2) (by omega) nf
      rw [e]
      exact ⟨s7, fun z => absurd z nf⟩
  · have cT : ¬ T 130 30 = 0 := fun z => cX (r3.1.trans z)
    have i59 : F_X12_isSign 59 T J' = 0 := by unfold F_X12_isSign; rw [if_neg cT]
    rw [if_pos i59, wrong_f cT]
    have e := side_f r1 (by omega) cX
    rw [e]
    exact ⟨r3, fun z => absurd z cX⟩
