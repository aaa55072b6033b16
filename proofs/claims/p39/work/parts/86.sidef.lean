/-! both: a law's side: not, comparisons, brackets, all levels -/
theorem neg_G {a0 n f0 m h k : Nat} {A B : SI} {J J' : SJ} (lv : LV k) (R : RC k) (k3 : K3 a0) (eb : EI B) (hD : DD 2 B ≤ k + 1) (s : Si n A B) (c : A 41 1 = 0) (d : SD a0 f0 h m h A B) (pre : Pre 2 h A) : G a0 n J 1 A (FI_X12_negation (RG_expr k) B J') (fun A' => PTD 2 a0 f0 h A A' (FI_X12_negation (RG_expr k) B J')) := by
  have c0 : B 130 30 = 0 := s.1.symm.trans c
  have k3' := k3
  unfold K3 at k3'
  have pb : h = 0 ∨ rn (A 84 (h - 1)) < 4 := pre.1
  have DDg : ∀ (q : Nat) (T : SI) (JT : SJ), EI T → T 130 30 = 0 → DD q T ≤ k → EI (FI_X12_goOn (FI_X12_knot T JT) JT) ∧ DD q (FI_X12_goOn (FI_X12_knot T JT) JT) ≤ k := fun q T JT eT cT hq => by
    have kn : PX 1 0 1 1 T (FI_X12_knot T JT) := (knot_E (x := 1) (J := JT) eT).elim id And.right
    have go := goOn_E (x := 1) (J := JT) kn.ei
    have pk := kn.tr go.2
    refine ⟨go.2.ei, ?_⟩
    unfold DD at hq ⊢
    rw [if_pos cT] at hq
    by_cases z : FI_X12_goOn (FI_X12_knot T JT) JT 130 30 = 0
    · rw [if_pos z]
      have p := pk.2.2.2.2.2.2 z
      rw [p.1]
      have := p.2.1
      omega
    · rw [if_neg z]
      omega
  have D2 : DD 2 (FI_X12_goOn (FI_X12_knot B J') J') ≤ k ∧ EI (FI_X12_goOn (FI_X12_knot B J') J') := by
    have kn : PX 1 0 1 1 B (FI_X12_knot B J') := (knot_E (x := 1) (J := J') eb).elim id And.right
    have go := goOn_E (x := 1) (J := J') kn.ei
    have pk := kn.tr go.2
    refine ⟨?_, go.2.ei⟩
    unfold DD at hD ⊢
    rw [if_pos c0] at hD
    by_cases z : FI_X12_goOn (FI_X12_knot B J') J' 130 30 = 0
    · rw [if_pos z]
      have p := pk.2.2.2.2.2.2 z
      have c1 := p.2.2.1
      have c2 := pk.2.2.2.1
      have c3 : cc (FI_X12_goOn (FI_X12_knot B J') J') < 65 := go.2.ei.2.2.2.1.2
      rw [p.1]
      omega
    · rw [if_neg z]
      omega
  unfold FI_X12_negation
  by_cases w : F_X12_isWord 15 B J' = 0
  · rw [if_pos w]
    have n35 : ¬ A 81 5 = 35 := fun q => (wd_iff (i := 15) (J := J') s c (by omega)).mpr q w
    have g := lv 3 a0 n f0 m h A B J J' (by omega) k3 eb (DD.sm hD (by omega)) s c d ⟨pb.imp_right (fun z => Nat.lt_of_lt_of_le z (by decide)), fun _ z => absurd z n35⟩
    have px := (R 3 B J' (by omega) eb (DD.sm hD (by omega))).2
    have hD3 := fun (z : (RG_expr k 3 B J').1 130 30 = 0) => DD.nx hD px z (by omega)
    generalize hT : (RG_expr k 3 B J').1 = T at g px hD3
    generalize hTJ : (RG_expr k 3 B J').2 = TJ
    obtain ⟨cn, X, w1, r1, r2, r3, r4⟩ := g
    have e2 : S2_X12_negation (RG_expr k) B J' = FI_X12_puts 2 (T 130 29) (RG_expr k 3 (FI_X12_goOn (FI_X12_knot T TJ) TJ) TJ).1 (RG_expr k 3 (FI_X12_goOn (FI_X12_knot T TJ) TJ) TJ).2 := by rw [← hT, ← hTJ]; rfl
    have e4 : S4_X12_negation (RG_expr k) B J' = S2_X12_negation (RG_expr k) B J' := rfl
    have e6 : S6_X12_negation (RG_expr k) B J' = S2_X12_negation (RG_expr k) B J' := rfl
    have e8 : S8_X12_negation (RG_expr k) B J' = S2_X12_negation (RG_expr k) B J' := rfl
    rw [e4, e6, e8]
    by_cases cX : X 41 1 = 0
    · obtain ⟨rfl, fr, m', h', dd, hrn, mu0⟩ := r4 cX
      have cT : T 130 30 = 0 := r3.1.symm.trans cX
      obtain ⟨_, _, _, _, _, _, _, _, _, _, _, kv⟩ := r3.2.2.1 cX
      have kr := kv.rnk4
      rw [if_pos cT]
      by_cases z : rn (X 81 5) = 4
      · have zz := kr.1.mp z
        have eq : (if T 130 28 = 3 then if T 130 29 = 60 then S2_X12_negation (RG_expr k) B J' else if T 130 29 = 62 then S2_X12_negation (RG_expr k) B J' else if T 130 29 = 61 then S2_X12_negation (RG_expr k) B J' else if (256 : Int32) ≤ T 130 29 then S2_X12_negation (RG_expr k) B J' else T else T) = S2_X12_negation (RG_expr k) B J' := by
          rw [if_pos zz.1]
          rcases zz.2 with y | y | y | y
          · rw [if_pos y]
          · rw [if_pos y, ite_self]
          · rw [if_pos y, ite_self, ite_self]
          · rw [if_pos y, ite_self, ite_self, ite_self]
        rw [eq, e2]
        have e84 : ∀ j, j < h → X 84 j = A 84 j := fun j hj => fr 84 j (by omega) (by omega) (by omega) (by omega) (by omega) (by omega) (by omega)
        have sg := sgn_G (J := J) (J' := TJ) k3 px.ei r3 cX dd z (by omega) (fun q => by rw [q, rn_35.1] at z; omega) (fun j a b => by rw [if_pos rfl]; exact hrn j a b) (by
          rw [if_pos rfl]
          by_cases y : h = 0
          · exact Or.inl y
          · rw [e84 (h - 1) (by omega)]
            exact pb.imp_right (fun x => by omega)) (fun _ => by
          by_cases y : h = 0
          · exact Or.inl y
          · rw [e84 (h - 1) (by omega)]
            exact pb.imp_right (fun x => by omega))
        have q3 := DDg 3 T TJ px.ei cT (hD3 cT)
        refine G.pre r1 r2 ?_
        rcases sg with ⟨A2, w2, t1, t2, t3, t4⟩ | ⟨A2, t1, t2, t3, t4, t5, t6, t7⟩
        · refine G.pre t1 t2 ?_
          have cb : ¬ FI_X12_goOn (FI_X12_knot T TJ) TJ 130 30 = 0 := fun z => t4 (t3.1.trans z)
          have e9 : (RG_expr k 3 (FI_X12_goOn (FI_X12_knot T TJ) TJ) TJ).1 = FI_X12_goOn (FI_X12_knot T TJ) TJ := (R 3 _ TJ (by omega) q3.1 q3.2).2.2.2.2.2.1 cb
          rw [e9, puts_f cb]
          exact G.f t3 t4
        · refine G.pre t1 t2 ?_
          have g := rhs_G (f0 := f0) (h := h) (J := J) (J2 := TJ) (J3 := (RG_expr k 3 (FI_X12_goOn (FI_X12_knot T TJ) TJ) TJ).2) (w := 1) (v := T 130 29) k3 lv (by omega : 3 ≤ 5) q3.1 q3.2 R t3 (fun _ => ⟨rfl, t5, by rw [t6]; exact kr.2.1 z, by decide, by rw [t6, z]; decide, fun _ _ => by rw [t6, z]; decide⟩)
          exact g.mono (fun Y cY sY p => by
            obtain ⟨p1, m3, h3, q1, q2, q3, q4, q5⟩ := p
            have y84 : rn (Y 84 h) = 4 := by rw [q3, t6]; exact z
            refine ⟨(fr.tr t7).tr (p1.dn (by omega)), m3, h3, q1, fun j a b => ?_, q5.of (by omega) (fun z => by omega) (fun z => by omega) (fun _ _ => ⟨h, Nat.le_refl _, by omega, y84, fun j a b => q4 j (by omega) b⟩) (fun z => by omega) (fun z => by omega)⟩
            by_cases x : j = h
            · rw [x, y84]; decide
            · exact Nat.le_trans (by decide) (q4 j (by omega) b))
      · have nz := fun y => z (kr.1.mpr y)
        have eq : (if T 130 28 = 3 then if T 130 29 = 60 then S2_X12_negation (RG_expr k) B J' else if T 130 29 = 62 then S2_X12_negation (RG_expr k) B J' else if T 130 29 = 61 then S2_X12_negation (RG_expr k) B J' else if (256 : Int32) ≤ T 130 29 then S2_X12_negation (RG_expr k) B J' else T else T) = T := by
          by_cases y : T 130 28 = 3
          · rw [if_pos y, if_neg (fun x => nz ⟨y, Or.inl x⟩), if_neg (fun x => nz ⟨y, Or.inr (Or.inl x)⟩), if_neg (fun x => nz ⟨y, Or.inr (Or.inr (Or.inl x))⟩), if_neg (fun x => nz ⟨y, Or.inr (Or.inr (Or.inr x))⟩)]
          · rw [if_neg y]
        rw [eq]
        exact ⟨cn, X, 0, r1, r2, r3, fun _ => ⟨rfl, fr, m', h', dd, fun j a b => Nat.le_trans (by decide) (hrn j a b), mu0.of (Nat.le_refl _) (fun z => by omega) (fun z => by omega) (fun _ y => absurd y z) (fun z => by omega) (fun z => by omega)⟩⟩
    · have cT : ¬ T 130 30 = 0 := fun z => cX (r3.1.trans z)
      rw [if_neg cT]
      exact ⟨cn, X, w1, r1, r2, r3, fun z => absurd z cX⟩
  · rw [if_neg w]
    have e35 : A 81 5 = 35 := (wd_iff (i := 15) (J := J') s c (by omega)).mp w
    have e9 : S9_X12_negation (RG_expr k) B J' = FI_X12_puts 2 260 (RG_expr k 2 (FI_X12_goOn (FI_X12_knot B J') J') J').1 (RG_expr k 2 (FI_X12_goOn (FI_X12_knot B J') J') J').2 := rfl
    rw [e9]
    rcases not_G (J := J) (J' := J') k3 eb s c d e35 pb with ⟨A2, w2, t1, t2, t3, t4⟩ | ⟨A2, t1, t2, t3, t4, t5, t6, t7⟩
    · refine G.pre t1 t2 ?_
      have cb : ¬ FI_X12_goOn (FI_X12_knot B J') J' 130 30 = 0 := fun z => t4 (t3.1.trans z)
      have e9 : (RG_expr k 2 (FI_X12_goOn (FI_X12_knot B J') J') J').1 = FI_X12_goOn (FI_X12_knot B J') J' := (R 2 _ J' (by omega) D2.2 D2.1).2.2.2.2.2.1 cb
      rw [e9, puts_f cb]
      exact G.f t3 t4
    · refine G.pre t1 t2 ?_
      have r3 : rn 35 = 3 := rn_35.1
      have g := rhs_G (f0 := f0) (h := h) (J := J) (J2 := J') (J3 := (RG_expr k 2 (FI_X12_goOn (FI_X12_knot B J') J') J').2) (w := 1) (v := 260) k3 lv (by omega : 2 ≤ 5) D2.2 D2.1 R t3 (fun _ => ⟨rfl, t5, by rw [t6]; exact Or.inr (Or.inr (Or.inr ⟨rfl, rfl⟩)), by decide, by rw [t6, r3]; decide, fun z _ => by omega⟩)
      exact g.mono (fun Y cY sY p => by
        obtain ⟨p1, m3, h3, q1, q2, q3, q4, q5⟩ := p
        refine ⟨t7.tr (p1.dn (by omega)), m3, h3, q1, fun j a b => ?_, q5.dn (by omega)⟩
        by_cases x : j = h
        · rw [x, q3, t6, r3]; decide
        · exact q4 j (by omega) b)
/-- a side that can't go on -/
theorem end_F {a0 n f0 m' h1 h' : Nat} {A B : SI} {J : SJ} (k3 : K3 a0) (eb : EI B) (s : Si n A B) (c : A 41 1 = 0) (d : SD a0 f0 h1 m' h' A B) (mu : MU 0 h1 h' A) (h6 : A 81 5 = 6 → A 41 7 ≤ 0) : Fl 1 A (FI_X4_sign a0 A J) := by
  have k3' := k3
  unfold K3 at k3'
  have c0 : B 130 30 = 0 := s.1.symm.trans c
  obtain ⟨_, _, _, _, _, _, _, _, _, _, _, kv⟩ := s.2.2.1 c
  obtain ⟨hN, cc1, o, hc, ho, ec, ebc, eo, ebo, eq, eq2⟩ := d.n eb c0
  have cap := d.cap
  unfold FI_X4_sign
  by_cases k6 : A 81 5 = 6
  · rw [if_pos k6, if_pos (h6 k6), if_pos (by rw [k6]; rfl)]
    exact fail_Fl c
  · rw [if_neg k6]
    by_cases r0 : F_X4_rank (A 81 5) A J = 0
    · rw [if_pos r0]; exact fail_Fl c
    · rw [if_neg r0]
      by_cases k35 : A 81 5 = 35
      · rw [if_pos k35]; exact fail_Fl c
      · rw [if_neg k35]
        have r4 : rn (A 81 5) = 4 := by
          rcases kv.rnk4.2.2 with z | z | z | z | z | z | z | z | z
          · exact absurd (by rw [rk_v, (rk_n _).1, z]; rfl) r0
          · exact absurd z (mu.2.2.2.2 (by omega))
          · exact absurd z (mu.2.2.2.1 (by omega))
          · exact absurd z k35
          · exact z
          · exact absurd z (mu.2.1 (by omega)).1
          · exact absurd z (mu.2.1 (by omega)).2
          · exact absurd z (mu.1 (by omega)).1
          · exact absurd z (mu.1 (by omega)).2
        have e4 : F_X4_rank (A 81 5) A J = 4 := by rw [rk_v, (rk_n _).1, r4]; rfl
        have e83 : T_X4_sign_j83 a0 A J = nI 5 := by unfold T_X4_sign_j83; rw [if_pos e4]; rfl
        obtain ⟨q, q1, q2, q3, q4⟩ := mu.2.2.1 (by omega) r4
        have q0 : h1 ≤ h' := d.2.2.1
        have jw := join_w (J := J) (ρ := 5) (q := q + 1) k3 d.2.1 cap (by omega) d.1 (by omega) d.2.2.2.1 (fun j a b => q4 j (by omega) b) (Or.inr (by rw [Nat.add_sub_cancel, q3]; omega)) (by omega)
        obtain ⟨j6, j1, jo, jn, jk⟩ := jw
        rw [if_pos e4, e83]
        have tv : F_X4_topRank (FI_X4_join a0 (nI 5) A J) J = 4 := by
          rw [top_v (J := J) j6 (by omega), if_neg (by omega), Nat.add_sub_cancel, jk 85 q (by omega) (by omega) (by omega) (by omega), d.2.2.2.1 q q2, (rk_n _).1, q3]
          rfl
        rw [if_pos tv]
        unfold S3_X4_sign
        rw [e83]
        have cj : FI_X4_join a0 (nI 5) A J 41 1 = 0 := (jk 41 1 (by omega) (by omega) (by omega) (by omega)).trans c
        have f1 := fail_Fl (w := 1) (J := J) cj
        have f2 : Fl 1 A (FI_X4_fail 1 (FI_X4_join a0 (nI 5) A J) J) := f1.of (jk 81 7 (by omega) (by omega) (by omega) (by omega))
        have f3 : Fl 1 A (FI_X4_knot (FI_X4_fail 1 (FI_X4_join a0 (nI 5) A J) J) J) := by
          unfold FI_X4_knot
          by_cases z : FI_X4_fail 1 (FI_X4_join a0 (nI 5) A J) J 42 11 < 64
          · rw [if_pos z]
            exact f2.w (fun a b y => u2_n _ _ (by omega))
          · rw [if_neg z, fail_f (by rw [f2.1]; decide)]
            exact f2
        rw [hold_f (by rw [f3.1]; decide)]
        exact f3
/-- a bracket off the stack -/
theorem SD.pop {a0 f0 h m c o : Nat} {A B A' B' : SI} (s : SD a0 f0 (h + 1) m (h + 1) A B) (eA : ∀ a b, (a = a0 ∧ b = 1) ∨ a = a0 + 1 ∨ a = a0 + 2 ∨ a = 84 ∨ a = 85 → A' a b = A a b) (e6 : A' 41 6 = nI h) (eB : ∀ a b, (a = 132 ∧ b = 19) ∨ a = 150 ∨ a = 151 → B' a b = B a b) (hc : c ≤ 64) (ho : o ≤ 8) (c1 : A' 42 11 = nI c) (c2 : B' 130 35 = nI c) (o1 : A' 41 7 = nI o) (o2 : B' 130 34 = nI o) (eq : f0 + m + h = c + o) : SD a0 f0 h m h A' B' := by
  obtain ⟨e1, _, hh, er, en, _, cq⟩ := s
  refine ⟨(eA _ _ (by omega)).trans e1, e6, Nat.le_refl _, fun j hj => by rw [eA 85 j (by omega), eA 84 j (by omega)]; exact er j (by omega), by rw [eB 132 19 (by omega), en]; exact congrArg nI (by omega), ⟨c, o, hc, ho, c1, c2, o1, o2, eq⟩, fun j hj => ?_⟩
  have q := cq j (by omega)
  have jm : j < m := by omega
  unfold vk vv at q ⊢
  rw [if_pos jm, if_pos jm] at q ⊢
  rw [eA (a0 + 1) j (by omega), eA (a0 + 2) j (by omega), eB 150 _ (by omega), eB 151 _ (by omega)]
  exact q
theorem prim_G {a0 n f0 m h k : Nat} {A B : SI} {J J' : SJ} (lv : LV k) (R : RC k) (k3 : K3 a0) (eb : EI B) (hD : DD 5 B ≤ k + 1) (s : Si n A B) (c : A 41 1 = 0) (d : SD a0 f0 h m h A B) (pre : Pre 5 h A) : G a0 n J 1 A (FI_X12_primary (RG_expr k) B J') (fun A' => PTD 5 a0 f0 h A A' (FI_X12_primary (RG_expr k) B J')) := by
  have c0 : B 130 30 = 0 := s.1.symm.trans c
  have k3' := k3
  unfold K3 at k3'
  by_cases w : F_X12_isSign 40 B J' = 0
  · have eR : FI_X12_primary (RG_expr k) B J' = if T_X12_primary_j114 (RG_expr k) B J' = 0 then FI_X12_goOn (S1_X12_primary (RG_expr k) B J') J' else FI_X12_goOn (S2_X12_primary (RG_expr k) B J') J' := by
      unfold FI_X12_primary
      rw [if_pos c0, if_pos w]
    have g := leaf_G (J := J) (J' := J') (k := k) k3 eb s c d (fun q => (sg_iff (i := 1) (J := J') s c (by omega)).mpr q w) (fun q => pre.2 (by omega) q) eR
    exact g.mono (fun Y cY sY p => by
      obtain ⟨p1, m3, q1⟩ := p
      exact ⟨p1, m3, h, q1, fun j a b => by omega, fun z => by omega, fun z => by omega, fun z => by omega, fun z => by omega, fun z => by omega⟩)
  · have e5 : A 81 5 = 5 := (sg_iff (i := 1) (J := J') s c (by omega)).mp w
    obtain ⟨tp, wd0, hn, a2, b2, a4, r0, hr0, a3, b3, a7, kv⟩ := s.2.2.1 c
    obtain ⟨hN, cc1, o, hc, ho, ec, ebc, eo, ebo, eq, eq2⟩ := d.n eb c0
    have cap := d.cap
    unfold FI_X12_primary
    rw [if_pos c0, if_neg w]
    have eO : FI_X4_operand a0 A J = FI_X4_hold 5 (S2_X4_operand a0 A J) J := by
      unfold FI_X4_operand
      rw [if_neg (by rw [e5]; decide), if_pos (by rw [e5]; decide), if_pos e5, e5]
    have eF : F_X4_operand a0 A J = 1 := by
      unfold F_X4_operand
      rw [if_neg (by rw [e5]; decide), if_pos (by rw [e5]; decide), if_pos e5]
    have ri := Rch.one (it_op (a0 := a0) (J := J) c)
    rw [eF] at ri
    by_cases o8 : o = 8
    · have t31 : T_X12_primary_j31 (RG_expr k) B J' = FI_X12_wrong 2 B J' := by
        unfold T_X12_primary_j31
        rw [if_pos (by rw [ebo, o8]; rfl)]
      have t88 : T_X4_operand_j88 a0 A J = FI_X4_fail 2 A J := by
        unfold T_X4_operand_j88
        rw [if_neg (by rw [eo, o8]; decide)]
      have wf : ¬ FI_X12_wrong 2 B J' 130 30 = 0 := fun q => absurd ((wrong_Fm (w := 2) (J := J') c0).1.symm.trans q) (by decide)
      rw [t31, if_neg wf]
      have f1 : Fl 2 A (S2_X4_operand a0 A J) := by
        unfold S2_X4_operand
        rw [t88]
        exact (fail_Fl c).w (fun a b y => u2_n _ _ (by omega))
      have f2 : Fl 2 A (FI_X4_operand a0 A J) := by
        rw [eO, hold_f (by rw [f1.1]; decide)]
        exact f1
      have s1 : Si n (FI_X4_operand a0 A J) (FI_X12_wrong 2 B J') := flt s c (by decide) f2 (wrong_Fm c0)
      have nf : ¬ FI_X4_operand a0 A J 41 1 = 0 := by rw [f2.1]; decide
      have p1 := phi_s (J := J) s c s1 (fun z => absurd z nf)
      rw [step_id f2.2.2] at p1 ri
      exact G.pre ri (by omega) (G.f s1 nf)
    · have t31 : T_X12_primary_j31 (RG_expr k) B J' = B := by
        unfold T_X12_primary_j31
        rw [if_neg (by rw [ebo]; exact fun q => o8 ((nI_eq (b := 8) (by omega) (by omega)).mp q))]
      have t88 : T_X4_operand_j88 a0 A J = A := by
        unfold T_X4_operand_j88
        rw [if_pos (by rw [eo]; exact nI_lt (b := 8) (by omega) (by omega))]
      have eS3 : S3_X12_primary (RG_expr k) B J' = u2 B 130 34 (nI (o + 1)) := by
        unfold S3_X12_primary
        rw [t31, ebo, nI_1]
      rw [t31, if_pos c0]
      have eA : FI_X4_operand a0 A J = u2 (u2 (u2 (u2 A 41 7 (nI (o + 1))) 84 h 5) 85 h (rk 5)) 41 6 (nI (h + 1)) := by
        rw [eO]
        unfold S2_X4_operand
        rw [t88, eo, nI_1]
        exact hold_v ((u2_n _ _ (by omega)).trans c) ((u2_n _ _ (by omega)).trans d.2.1) (by omega)
      have g : ∀ a b, a = 81 ∨ (a = 41 ∧ ¬ b = 6 ∧ ¬ b = 7) ∨ a = 1 ∨ a = 82 ∨ a = 42 → FI_X4_operand a0 A J a b = A a b := fun a b z => by
        rw [eA]
        exact (u2_n _ _ (by omega)).trans ((u2_n _ _ (by omega)).trans ((u2_n _ _ (by omega)).trans (u2_n _ _ (by omega))))
      have gB : ∀ a b, ¬ (a = 130 ∧ b = 34) → S3_X12_primary (RG_expr k) B J' a b = B a b := fun a b z => by
        rw [eS3]
        exact u2_n _ _ z
      have s1 : Si n (FI_X4_operand a0 A J) (S3_X12_primary (RG_expr k) B J') := ⟨by rw [g 41 1 (by omega), gB 130 30 (by omega)]; exact s.1, by rw [g 41 2 (by omega), gB 130 31 (by omega)]; exact s.2.1, fun _ => ⟨fun b => by rw [g 1 b (by omega), gB 131 b (by omega)]; exact tp b, fun i hi => (g 82 i (by omega)).trans (wd0 i hi), hn, (g 81 2 (by omega)).trans a2, (gB 130 25 (by omega)).trans b2, (g 81 4 (by omega)).trans a4, r0, hr0, (g 81 3 (by omega)).trans a3, (gB 130 26 (by omega)).trans b3, by rw [g 81 7 (by omega), gB 130 27 (by omega)]; exact a7, by rw [g 81 5 (by omega), g 81 6 (by omega), gB 130 28 (by omega), gB 130 29 (by omega)]; exact kv⟩, fun z => absurd ((g 41 1 (by omega)).trans c) z⟩
      have p1 := phi_s (J := J) s c s1 (fun _ => ⟨by rw [e5]; decide, g 81 3 (by omega)⟩)
      have o1 := op_step (J := J) (J' := J') s1
      have cA : FI_X4_operand a0 A J 41 1 = 0 := (g 41 1 (by omega)).trans c
      have cS : S3_X12_primary (RG_expr k) B J' 130 30 = 0 := (gB 130 30 (by omega)).trans c0
      unfold FI_X12_goOn at o1
      rw [if_pos cS] at o1
      have dp : SD a0 f0 (h + 1) m (h + 1) (FI_X4_operand a0 A J) (S3_X12_primary (RG_expr k) B J') := d.push (x := 5) (c := cc1) (o := o + 1) (fun a b z => by
        rw [eA]
        exact (u2_n _ _ (by omega)).trans ((u2_n _ _ (by omega)).trans ((u2_n _ _ (by omega)).trans (u2_n _ _ (by omega))))) (by rw [eA]; exact u2_s _ _ _ _) (by rw [eA]; exact (u2_n _ _ (by omega)).trans ((u2_n _ _ (by omega)).trans (u2_s _ _ _ _))) (by rw [eA]; exact (u2_n _ _ (by omega)).trans (u2_s _ _ _ _)) (fun a b z => gB a b (by omega)) hc (by omega) ((g 42 11 (by omega)).trans ec) ((gB 130 35 (by omega)).trans ebc) (by rw [eA]; exact (u2_n _ _ (by omega)).trans ((u2_n _ _ (by omega)).trans ((u2_n _ _ (by omega)).trans (u2_s _ _ _ _)))) (by rw [eS3]; exact u2_s _ _ _ _) (by omega)
      have eS : EI (S3_X12_primary (RG_expr k) B J') := by
        have e := eb
        have n1 : nn (S3_X12_primary (RG_expr k) B J') = nn B := by unfold nn; rw [gB 132 19 (by omega)]
        have c1 : cc (S3_X12_primary (RG_expr k) B J') = cc B := by unfold cc; rw [gB 130 35 (by omega)]
        refine ⟨?_, e.2.1.of (gB 130 28 (by omega)) (gB 130 29 (by omega)), by rw [eS3, u2_s]; exact inR_nI (by omega) (by decide), by rw [gB 130 35 (by omega)]; exact e.2.2.2.1, by rw [gB 132 19 (by omega)]; exact e.2.2.2.2.1, fun _ => by rw [n1, c1]; exact e.2.2.2.2.2 c0⟩
        rw [eS3]
        exact e.1.u (by omega)
      have tk := tok_E (x := 0) (J := J') eS cS
      have D0 : DD 0 (FI_X12_token (S3_X12_primary (RG_expr k) B J') J') ≤ k := by
        have ob : oo B = o := by unfold oo; rw [ebo, nI_clamp (by omega)]
        have os : oo (S3_X12_primary (RG_expr k) B J') = o + 1 := by unfold oo; rw [eS3, u2_s, nI_clamp (by omega)]
        have cs : cc (S3_X12_primary (RG_expr k) B J') = cc B := by unfold cc; rw [gB 130 35 (by omega)]
        unfold DD at hD ⊢
        rw [if_pos c0, ob] at hD
        by_cases z : FI_X12_token (S3_X12_primary (RG_expr k) B J') J' 130 30 = 0
        · rw [if_pos z]
          have p := tk.2.2.2.2.2.2.2 z
          have := p.2.1
          rw [p.1, os]
          omega
        · rw [if_neg z]; omega
      have cA2 : FI_X8_step (FI_X4_operand a0 A J) J 41 1 = 0 := (o1.2 cA).2
      have e84 : FI_X8_step (FI_X4_operand a0 A J) J 84 h = 5 := by
        rw [o1.1.2.1 84 h (by omega) (by omega), eA]
        exact (u2_n _ _ (by omega)).trans ((u2_n _ _ (by omega)).trans (u2_s _ _ _ _))
      have g0 := lv 0 a0 n f0 m (h + 1) (FI_X8_step (FI_X4_operand a0 A J) J) (FI_X12_token (S3_X12_primary (RG_expr k) B J') J') J J' (by omega) k3 tk.2.ei D0 o1.1.1 cA2 (dp.op k3 o1.1) ⟨Or.inr (by rw [Nat.add_sub_cancel, e84, rn_35.2.2.1]; decide), fun z => by omega⟩
      have frA : FRS a0 h A (FI_X8_step (FI_X4_operand a0 A J) J) := by
        refine FRS.tr (A1 := FI_X4_operand a0 A J) (fun a b x1 x2 x3 x4 x5 x6 x7 => ?_) o1.1.2.1.frs
        rw [eA]
        exact (u2_n _ _ (by omega)).trans ((u2_n _ _ (by omega)).trans ((u2_n _ _ (by omega)).trans (u2_n _ _ (by omega))))
      have px := (R 0 (FI_X12_token (S3_X12_primary (RG_expr k) B J') J') J' (by omega) tk.2.ei D0).2
      have e6 : S6_X12_primary (RG_expr k) B J' = F_X12_isSign 41 (RG_expr k 0 (FI_X12_token (S3_X12_primary (RG_expr k) B J') J') J').1 (RG_expr k 0 (FI_X12_token (S3_X12_primary (RG_expr k) B J') J') J').2 := rfl
      have e7 : S7_X12_primary (RG_expr k) B J' = FI_X12_wrong 1 (RG_expr k 0 (FI_X12_token (S3_X12_primary (RG_expr k) B J') J') J').1 (RG_expr k 0 (FI_X12_token (S3_X12_primary (RG_expr k) B J') J') J').2 := rfl
      have e78 : T_X12_primary_j78 (RG_expr k) B J' = if (RG_expr k 0 (FI_X12_token (S3_X12_primary (RG_expr k) B J') J') J').1 130 30 = 0 then (if S6_X12_primary (RG_expr k) B J' = 0 then S7_X12_primary (RG_expr k) B J' else (RG_expr k 0 (FI_X12_token (S3_X12_primary (RG_expr k) B J') J') J').1) else (RG_expr k 0 (FI_X12_token (S3_X12_primary (RG_expr k) B J') J') J').1 := rfl
      have e55 : S5_X12_primary (RG_expr k) B J' = FI_X12_token (S4_X12_primary (RG_expr k) B J') (RG_expr k 0 (FI_X12_token (S3_X12_primary (RG_expr k) B J') J') J').2 := rfl
      rw [e6, e7] at e78
      refine G.pre ri (by omega) ?_
      generalize FI_X8_step (FI_X4_operand a0 A J) J = A2 at *
      generalize hT : (RG_expr k 0 (FI_X12_token (S3_X12_primary (RG_expr k) B J') J') J').1 = T at *
      generalize (RG_expr k 0 (FI_X12_token (S3_X12_primary (RG_expr k) B J') J') J').2 = TJ at *
      obtain ⟨cn, X, w1, r1, r2, r3, r4⟩ := g0
      by_cases cX : X 41 1 = 0
      · obtain ⟨rfl, fr, m', h', dd, hrn, mu0⟩ := r4 cX
        have cT : T 130 30 = 0 := r3.1.symm.trans cX
        rw [if_pos cT] at e78
        obtain ⟨tp', wd', hn', a2', b2', a4', r0', hr0', a3', b3', a7', kv'⟩ := r3.2.2.1 cX
        obtain ⟨hN', cc2, o', hc', ho', ec', ebc', eo', ebo', eq', eq2'⟩ := dd.n px.ei cT
        have oo1 : o' = o + 1 := by
          have p := (px.2.2.2.2.2.2 cT).1
          have p2 := (tk.2.2.2.2.2.2.2 (by
            by_cases z : FI_X12_token (S3_X12_primary (RG_expr k) B J') J' 130 30 = 0
            · exact z
            · rw [px.2.2.2.2.1 z] at cT; exact absurd cT z)).1
          have os : oo (S3_X12_primary (RG_expr k) B J') = o + 1 := by unfold oo; rw [eS3, u2_s, nI_clamp (by omega)]
          have ot : oo T = o' := by unfold oo; rw [ebo', nI_clamp (by omega)]
          omega
        subst oo1
        by_cases k6 : A 81 5 = A 81 5 ∧ X 81 5 = 6
        · have i41 : ¬ F_X12_isSign 41 T TJ = 0 := (sg_iff (i := 2) r3 cX (by omega)).mpr k6.2
          rw [if_neg i41] at e78
          rw [e78, if_pos cT, e55]
          have e4 : S4_X12_primary (RG_expr k) B J' = u2 T 130 34 (nI o) := by
            unfold S4_X12_primary
            rw [e78, ebo', show (1 : Int32) = nI 1 from rfl, pk_sub (by omega)]
            exact congrArg _ (congrArg nI (by omega))
          rw [e4]
          have jr := join_R (J := J) (ρ := 1) k3 dd hN' (fun j a b => hrn j a b) (Or.inr (by rw [Nat.add_sub_cancel, fr 84 h (by omega) (by omega) (by omega) (by omega) (by omega) (by omega) (by omega), e84, rn_35.2.2.1]; omega)) (by omega)
          obtain ⟨dj, kj⟩ := jr
          have eS7 : FI_X4_sign a0 X J = u2 (u2 (FI_X4_join a0 (nI 1) X J) 41 6 (nI h)) 41 7 (nI o) := by
            unfold FI_X4_sign
            rw [if_pos k6.2, if_neg (by rw [eo']; exact fun q => by have := (nI_leI (b := 0) (by omega) (by omega)).mp q; omega)]
            unfold S7_X4_sign
            have j6 : FI_X4_join a0 1 X J 41 6 = nI (h + 1) := dj.2.1
            have j7 : FI_X4_join a0 1 X J 41 7 = nI (o + 1) := (kj 41 7 (by omega) (by omega) (by omega) (by omega)).trans eo'
            rw [j6, show (1 : Int32) = nI 1 from rfl, pk_sub (by omega), Nat.add_sub_cancel, show u2 (FI_X4_join a0 (nI 1) X J) 41 6 (nI h) 41 7 = nI (o + 1) from (u2_n _ _ (by omega)).trans j7, pk_sub (by omega), Nat.add_sub_cancel]
          have eF7 : F_X4_sign a0 X J = 0 := by
            unfold F_X4_sign
            rw [if_pos k6.2, if_neg (by rw [eo']; exact fun q => by have := (nI_leI (b := 0) (by omega) (by omega)).mp q; omega)]
          have ri2 := Rch.one (it_sg (a0 := a0) (J := J) cX (fun z => by rw [k6.2] at z; exact absurd z.2 (by decide)))
          rw [eF7] at ri2
          have g7 : ∀ a b, ¬ (a = 41 ∧ (b = 6 ∨ b = 7)) → ¬ (a = a0 ∧ b = 1) → ¬ a = a0 + 1 → ¬ a = a0 + 2 → FI_X4_sign a0 X J a b = X a b := fun a b z z1 z2 z3 => by
            rw [eS7]
            exact (u2_n _ _ (by omega)).trans ((u2_n _ _ (by omega)).trans (kj a b z1 z2 z3 (by omega)))
          have gB7 : ∀ a b, ¬ (a = 130 ∧ b = 34) → u2 T 130 34 (nI o) a b = T a b := fun a b z => u2_n _ _ z
          have s7 : Si n (FI_X4_sign a0 X J) (u2 T 130 34 (nI o)) := ⟨by rw [g7 41 1 (by omega) (by omega) (by omega) (by omega), gB7 130 30 (by omega)]; exact r3.1, by rw [g7 41 2 (by omega) (by omega) (by omega) (by omega), gB7 130 31 (by omega)]; exact r3.2.1, fun _ => ⟨fun b => by rw [g7 1 b (by omega) (by omega) (by omega) (by omega), gB7 131 b (by omega)]; exact tp' b, fun i hi => (g7 82 i (by omega) (by omega) (by omega) (by omega)).trans (wd' i hi), hn', (g7 81 2 (by omega) (by omega) (by omega) (by omega)).trans a2', (gB7 130 25 (by omega)).trans b2', (g7 81 4 (by omega) (by omega) (by omega) (by omega)).trans a4', r0', hr0', (g7 81 3 (by omega) (by omega) (by omega) (by omega)).trans a3', (gB7 130 26 (by omega)).trans b3', by rw [g7 81 7 (by omega) (by omega) (by omega) (by omega), gB7 130 27 (by omega)]; exact a7', by rw [g7 81 5 (by omega) (by omega) (by omega) (by omega), g7 81 6 (by omega) (by omega) (by omega) (by omega), gB7 130 28 (by omega), gB7 130 29 (by omega)]; exact kv'⟩, fun z => absurd ((g7 41 1 (by omega) (by omega) (by omega) (by omega)).trans cX) z⟩
          have p7 := phi_s (J := J) r3 cX s7 (fun _ => ⟨by rw [k6.2]; decide, g7 81 3 (by omega) (by omega) (by omega) (by omega)⟩)
          have o7 := op_step (J := J) (J' := TJ) s7
          have cS7 : u2 T 130 34 (nI o) 130 30 = 0 := (gB7 130 30 (by omega)).trans cT
          unfold FI_X12_goOn at o7
          rw [if_pos cS7] at o7
          have d7 : SD a0 f0 h (m' + (h' - (h + 1))) h (FI_X4_sign a0 X J) (u2 T 130 34 (nI o)) := dj.pop (c := cc2) (o := o) (fun a b z => by
              rw [eS7]
              exact (u2_n _ _ (by omega)).trans (u2_n _ _ (by omega))) (by rw [eS7]; exact (u2_n _ _ (by omega)).trans (u2_s _ _ _ _)) (fun a b z => gB7 a b (by omega)) hc' (by omega) ((g7 42 11 (by omega) (by omega) (by omega) (by omega)).trans ec') ((gB7 130 35 (by omega)).trans ebc') (by rw [eS7]; exact u2_s _ _ _ _) (u2_s _ _ _ _) (by have := dd.2.2.1; omega)
          refine G.pre r1 r2 (G.pre ri2 (by omega) ⟨0, _, 0, rfl, by omega, o7.1.1, fun _ => ⟨rfl, ?_, _, h, d7.op k3 o7.1, fun j a b => by omega, fun z => by omega, fun z => by omega, fun z => by omega, fun z => by omega, fun z => by omega⟩⟩)
          refine ((frA.tr (fr.dn (by omega))).tr (fun a b x1 x2 x3 x4 x5 x6 x7 => ?_)).tr o7.1.2.1.frs
          exact g7 a b (by omega) x5 x6 x7
        · have n6 : ¬ X 81 5 = 6 := fun z => k6 ⟨rfl, z⟩
          have i41 : F_X12_isSign 41 T TJ = 0 := by
            by_cases z : F_X12_isSign 41 T TJ = 0
            · exact z
            · exact absurd ((sg_iff (i := 2) r3 cX (by omega)).mp z) n6
          rw [if_pos i41] at e78
          have f1 := end_F (J := J) k3 px.ei r3 cX dd mu0 (fun z => absurd z n6)
          have wf : ¬ FI_X12_wrong 1 T TJ 130 30 = 0 := fun q => absurd ((wrong_Fm (w := 1) (J := TJ) cT).1.symm.trans q) (by decide)
          rw [e78, if_neg wf]
          have s7 : Si n (FI_X4_sign a0 X J) (FI_X12_wrong 1 T TJ) := flt r3 cX (by decide) f1 (wrong_Fm cT)
          have nf : ¬ FI_X4_sign a0 X J 41 1 = 0 := by rw [f1.1]; decide
          have p7 := phi_s (J := J) r3 cX s7 (fun z => absurd z nf)
          have ri2 := Rch.one (it_sg (a0 := a0) (J := J) cX (fun z => by rw [eo'] at z; have := (nI_eq (b := 0) (by omega) (by omega)).mp z.1; omega))
          rw [step_id f1.2.2] at p7 ri2
          exact G.pre r1 r2 (G.pre ri2 (by omega) (G.f s7 nf))
      · have cT : ¬ T 130 30 = 0 := fun z => cX (r3.1.trans z)
        rw [if_neg cT] at e78
        rw [e78, if_neg cT]
        exact ⟨cn, X, w1, r1, r2, r3, fun z => absurd z cX⟩
theorem all_G : ∀ k, LV k := by
  intro k
  induction k with
  | zero =>
    intro i a0 n f0 m h A B J J' hi _ _ hD
    unfold DD at hD
    split at hD <;> omega
  | succ k lv =>
    intro i a0 n f0 m h A B J J' hi k3 eb hD s c d pre
    have R := all_E k
    rcases (by omega : i = 0 ∨ i = 1 ∨ i = 2 ∨ i = 3 ∨ i = 4 ∨ i = 5) with rfl | rfl | rfl | rfl | rfl | rfl
    · exact expr_G lv R k3 eb hD s c d pre
    · exact conj_G lv R k3 eb hD s c d pre
    · exact neg_G lv R k3 eb hD s c d pre
    · exact sum_G lv R k3 eb hD s c d pre
    · exact prod_G lv R k3 eb hD s c d pre
    · exact prim_G lv R k3 eb hD s c d pre
