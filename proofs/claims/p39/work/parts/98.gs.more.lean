/-! both: go, keep, back, text, feed -/
theorem tl_g {A B : SI} (g : GTL A B) : TL A B := g.2.2.2.2.2
/-- the reference's own days, one after another -/
theorem go_S {a0 : Int32} {A B : SI} {JA J' : SJ} (g : GTL A B) (m : MW B B) (d : GDF B) (s : GSC A JA B) : F_X11_go a0 A JA = F_X12_go a0 B J' ∧ GSC (FI_X11_go a0 A JA) (FJ_X11_go a0 A JA) (FI_X12_go a0 B J') ∧ GDF (FI_X12_go a0 B J') := by
  have s0 := gsc0 (v := 0) s
  have d0 : GDF (u2 B 130 0 0) := d.q qu0
  obtain ⟨nm, ns, c, sc, im, un⟩ := s0
  have s0 : GSC A JA (u2 B 130 0 0) := ⟨nm, ns, c, sc, im, un⟩
  have e0 : A 86 0 = u2 B 130 0 0 154 0 := sc.1.1
  unfold F_X11_go F_X12_go FI_X11_go FI_X12_go FJ_X11_go
  rw [← e0]
  by_cases c1 : a0 < 0
  · rw [if_pos c1, if_pos c1, if_pos c1, if_pos c1, if_pos c1]
    exact ⟨rfl, s0, d0⟩
  rw [if_neg c1, if_neg c1, if_neg c1, if_neg c1, if_neg c1]
  by_cases c2 : (99 : Int32) < a0
  · rw [if_pos c2, if_pos c2, if_pos c2, if_pos c2, if_pos c2]
    exact ⟨rfl, s0, d0⟩
  rw [if_neg c2, if_neg c2, if_neg c2, if_neg c2, if_neg c2]
  by_cases c3 : A 86 0 + a0 ≤ 9900
  rotate_left
  · rw [if_neg c3, if_neg c3, if_neg c3, if_neg c3, if_neg c3]
    exact ⟨rfl, s0, d0⟩
  rw [if_pos c3, if_pos c3, if_pos c3, if_pos c3, if_pos c3]
  by_cases c4 : a0 ≤ 0
  · have tz : T_X12_go_j40 a0 B J' = u2 B 130 0 0 := by unfold T_X12_go_j40; rw [if_pos c4]
    have z0 : a0.toNatClampNeg = 0 := by
      have e : a0 = 0 := Int32.le_antisymm c4 (Int32.not_lt.mp c1)
      rw [e]; rfl
    have lz : F_X12_go_l42 a0 B J' (u2 B 130 0 0, J') = (u2 B 130 0 0, J') := by
      unfold F_X12_go_l42
      rw [z0, itN_0]
    rw [if_pos c4, if_pos c4, if_pos c4, tz, lz]
    exact ⟨e0, s0, d0⟩
  rw [if_neg c4, if_neg c4, if_neg c4]
  have tz : T_X12_go_j40 a0 B J' = u2 (u2 B 130 0 0) 130 54 0 := by unfold T_X12_go_j40; rw [if_neg c4]
  rw [tz]
  have lw : ∀ k, k < 3 → LW (u2 (u2 B 130 0 0) 130 54 0) k := fun k hk => (m.1.l hk).of hk (fun a b x y => (u2_n _ _ (by omega)).trans (u2_n _ _ (by omega)))
  have t0 : TL A (u2 (u2 B 130 0 0) 130 54 0) := (tl_g g).mv (fun _ _ _ _ => rfl) (fun a b z => (u2_n _ _ (by unfold mT at z; omega)).trans (u2_n _ _ (by unfold mT at z; omega)))
  have nb : ∀ a b, ¬ (a = 130 ∧ (b = 0 ∨ b = 54)) → u2 (u2 B 130 0 0) 130 54 0 a b = B a b := fun a b z => (u2_n _ _ (by omega)).trans (u2_n _ _ (by omega))
  have cz : CN nm ns A (u2 (u2 B 130 0 0) 130 54 0) := ⟨c.1, c.2.1, c.2.2.1, c.2.2.2.1, (u2_n _ _ (by omega)).trans c.2.2.2.2.1, (u2_n _ _ (by omega)).trans c.2.2.2.2.2⟩
  have sz : SCT 86 0 nm ns A JA (u2 (u2 B 130 0 0) 130 54 0) := sc.mv c.2.1 (fun _ _ _ _ => rfl) rfl (fun a b q => u2_n _ _ (fun y => nS (f := 0) (by omega) q))
  have gz : GDF (u2 (u2 B 130 0 0) 130 54 0) := ⟨(u2_n _ _ (by omega)).trans d0.1, (u2_n _ _ (by omega)).trans d0.2.1, (u2_n _ _ (by omega)).trans d0.2.2.1, (u2_n _ _ (by omega)).trans d0.2.2.2⟩
  obtain ⟨_, _, np, _, p⟩ := cn_of t0
  obtain ⟨b1, b2, b3⟩ := begin_v sz cz p t0 lw gz
  -- by odds
  have b1' : SCT 105 0 nm ns (u2 (FI_X0_begin 86 A JA) 104 2 1) (FJ_X0_begin 86 A JA) (u2 (u2 B 130 0 0) 130 54 0) := b1.mv c.2.1 (fun a b x y => u2_n _ _ (by omega)) rfl (fun _ _ _ => rfl)
  have b2' : DX 1 nm ns np (u2 (FI_X0_begin 86 A JA) 104 2 1) (u2 (u2 B 130 0 0) 130 54 0) := by
    obtain ⟨x1, x2, x3, x4, x5, x6, x7, x8, x9⟩ := b2
    have n : ∀ a b, ¬ (a = 104 ∧ b = 2) → u2 (FI_X0_begin 86 A JA) 104 2 1 a b = FI_X0_begin 86 A JA a b := fun a b z => u2_n _ _ z
    refine ⟨⟨x1.1, x1.2.1, (n _ _ (by omega)).trans x1.2.2.1, (n _ _ (by omega)).trans x1.2.2.2.1, x1.2.2.2.2.1, x1.2.2.2.2.2⟩, ⟨x2.1, (n _ _ (by omega)).trans x2.2.1, x2.2.2⟩, x3.mv (fun a b _ y => n a b (by omega)) (fun _ _ _ => rfl), x4, Or.inr ⟨gz.2.2.2, Or.inr (Or.inr ⟨u2_s _ _ _ _, by rw [gz.1]; decide, by decide⟩)⟩, ?_, ?_, ?_, fun m hm => ?_⟩
    · rw [n 104 5 (by omega)]; exact x6
    · rw [n 104 6 (by omega)]; exact x7
    · rw [n 104 7 (by omega)]; exact x8
    · rw [n 114 m (by omega)]; exact x9 m hm
  have days := days_v (b := 1) (f := 0) (a0 := a0) (Ia := u2 (FI_X0_begin 86 A JA) 104 2 1) (Ja := FJ_X0_begin 86 A JA) (J' := J') (g := B_X12_go_l42 a0 B J') (fun _ _ => rfl) b1' b2' (by omega) a0.toNatClampNeg
  have eI : FI_X0_pass a0 (u2 (FI_X0_begin 86 A JA) 104 2 1) (FJ_X0_begin 86 A JA) = (itN (B_X0_pass_l2 a0 (u2 (FI_X0_begin 86 A JA) 104 2 1) (FJ_X0_begin 86 A JA)) a0.toNatClampNeg (u2 (FI_X0_begin 86 A JA) 104 2 1, FJ_X0_begin 86 A JA)).1 := rfl
  have eJ : FJ_X0_pass a0 (u2 (FI_X0_begin 86 A JA) 104 2 1) (FJ_X0_begin 86 A JA) = (itN (B_X0_pass_l2 a0 (u2 (FI_X0_begin 86 A JA) 104 2 1) (FJ_X0_begin 86 A JA)) a0.toNatClampNeg (u2 (FI_X0_begin 86 A JA) 104 2 1, FJ_X0_begin 86 A JA)).2 := rfl
  have eB : (F_X12_go_l42 a0 B J' (u2 (u2 B 130 0 0) 130 54 0, J')).1 = (itN (B_X12_go_l42 a0 B J') a0.toNatClampNeg (u2 (u2 B 130 0 0) 130 54 0, J')).1 := rfl
  rw [← eI, ← eJ, ← eB] at days
  obtain ⟨y1, y2, y3, y4⟩ := days
  have bj : JDY JA (FJ_X0_begin 86 A JA) := begin_J
  have e1 : S1_X11_go a0 A JA = FI_X5_copy 86 105 (FI_X0_pass a0 (u2 (FI_X0_begin 86 A JA) 104 2 1) (FJ_X0_begin 86 A JA)) (FJ_X0_pass a0 (u2 (FI_X0_begin 86 A JA) 104 2 1) (FJ_X0_begin 86 A JA)) := rfl
  have e2 : S2_X11_go a0 A JA = FJ_X5_copy 86 105 (FI_X0_pass a0 (u2 (FI_X0_begin 86 A JA) 104 2 1) (FJ_X0_begin 86 A JA)) (FJ_X0_pass a0 (u2 (FI_X0_begin 86 A JA) 104 2 1) (FJ_X0_begin 86 A JA)) := rfl
  rw [e1, e2]
  generalize FI_X0_pass a0 (u2 (FI_X0_begin 86 A JA) 104 2 1) (FJ_X0_begin 86 A JA) = A2 at *
  generalize FJ_X0_pass a0 (u2 (FI_X0_begin 86 A JA) 104 2 1) (FJ_X0_begin 86 A JA) = J2 at *
  generalize (F_X12_go_l42 a0 B J' (u2 (u2 B 130 0 0) 130 54 0, J')).1 = B2 at *
  have lowA : ∀ a b, a < 104 → A2 a b = A a b := fun a b x => (y2 a b (by omega)).trans ((u2_n _ _ (by omega)).trans (b3 a b (by omega)))
  have lowB : ∀ a b, ¬ inS 0 a b → ¬ (a = 130 ∧ (b = 0 ∨ b = 38 ∨ b = 54)) → B2 a b = B a b := fun a b x z => (y3 a b x (by omega)).trans (nb a b (by omega))
  have cv := copy_v (k := 86) (a0 := 105) (I := A2) (J := J2) (by omega)
  have ck : KP 86 94 A2 (FI_X5_copy 86 105 A2 J2) := copy_K
  have fa : ∀ a b, ¬ (a = 120 ∧ b = 0) → FI_X10_clear (FI_X5_copy 86 105 A2 J2) (FJ_X5_copy 86 105 A2 J2) a b = FI_X5_copy 86 105 A2 J2 a b := fun a b z => u2_n _ _ z
  have f120 : FI_X10_clear (FI_X5_copy 86 105 A2 J2) (FJ_X5_copy 86 105 A2 J2) 120 0 = 0 := u2_s _ _ _ _
  have scn : SCT 86 0 nm ns (FI_X10_clear (FI_X5_copy 86 105 A2 J2) (FJ_X5_copy 86 105 A2 J2)) (FJ_X5_copy 86 105 A2 J2) B2 := y1.tr c.2.1 (fun j b x y => (fa (86 + j) b (by omega)).trans (cv j b x y)) (u2_s _ _ _ _) (fun _ _ _ _ _ => rfl)
  refine ⟨?_, ⟨nm, ns, ⟨c.1, c.2.1, ?_, ?_, ?_, ?_⟩, scn, ?_, 0, by omega, ?_, f120⟩, ?_⟩
  · exact scn.1.1
  · rw [fa 3 1 (by omega), ck 3 1 (by omega), lowA 3 1 (by omega)]; exact c.2.2.1
  · rw [fa 8 1 (by omega), ck 8 1 (by omega), lowA 8 1 (by omega)]; exact c.2.2.2.1
  · rw [lowB 132 0 (nS (by omega)) (by omega)]; exact (nb 132 0 (by omega)).symm.trans cz.2.2.2.2.1
  · rw [lowB 132 1 (nS (by omega)) (by omega)]; exact (nb 132 1 (by omega)).symm.trans cz.2.2.2.2.2
  · have k06 : FI_X10_clear (FI_X5_copy 86 105 A2 J2) (FJ_X5_copy 86 105 A2 J2) 0 6 = A 0 6 := by rw [fa 0 6 (by omega), ck 0 6 (by omega), lowA 0 6 (by omega)]
    have k53 : B2 130 53 = u2 B 130 0 0 130 53 := by rw [lowB 130 53 (nS (by omega)) (by omega), u2_n _ _ (by omega)]
    rw [k06, k53]
    refine im.imp id (fun z => ⟨z.1, z.2.1, z.2.2.mv c.2.1 (fun a b x y => ?_) ?_ (fun a b q => ?_)⟩)
    · rw [fa a b (by omega), ck a b (by omega), lowA a b (by omega)]
    · show u2 J2 86 6 (J2 105 6) 95 6 = JA 95 6
      rw [u2_n _ _ (by omega), y4 95 6 (by omega), bj 95 6 (by omega)]
    · rw [lowB a b (fun y => by have := inS_u q y; omega) (fun y => nS (f := 2) (by omega) q), u2_n _ _ (fun y => nS (f := 2) (by omega) q)]
  · have k : B2 130 54 = u2 (u2 B 130 0 0) 130 54 0 130 54 := y3 130 54 (nS (by omega)) (by omega)
    rw [k, u2_s]; rfl
  · exact ⟨(y3 130 55 (nS (by omega)) (by omega)).trans gz.1, (y3 130 56 (nS (by omega)) (by omega)).trans gz.2.1, (y3 130 57 (nS (by omega)) (by omega)).trans gz.2.2.1, (y3 130 59 (nS (by omega)) (by omega)).trans gz.2.2.2⟩
theorem keep_S {A B : SI} {JA J' : SJ} (d : GDF B) (s : GSC A JA B) : F_X11_keep A JA = F_X12_keep B J' ∧ GSC (FI_X11_keep A JA) (FJ_X11_keep A JA) (FI_X12_keep B J') ∧ GDF (FI_X12_keep B J') := by
  have s0 := gsc0 (v := 0) s
  have d0 : GDF (u2 B 130 0 0) := d.q qu0
  obtain ⟨nm, ns, c, sc, im, un⟩ := s0
  have cb := copies_v (p := 2) (q := 0) (I := u2 B 130 0 0) (J := J') (by omega) (by omega) (by omega)
  have e2 : FI_X12_copies 2 0 (u2 B 130 0 0) J' = FI_X12_copies (nI 2) (nI 0) (u2 B 130 0 0) J' := rfl
  unfold F_X11_keep F_X12_keep FI_X11_keep FI_X12_keep FJ_X11_keep
  rw [e2]
  have cv := copy_v (k := 95) (a0 := 86) (I := A) (J := JA) (by omega)
  have ck : KP 95 103 A (FI_X5_copy 95 86 A JA) := copy_K
  generalize FI_X12_copies (nI 2) (nI 0) (u2 B 130 0 0) J' = X at cb
  have na : ∀ a b, a < 95 ∨ 103 < a → ¬ (a = 0 ∧ b = 6) → u2 (FI_X5_copy 95 86 A JA) 0 6 1 a b = A a b := fun a b x y => (u2_n _ _ y).trans (ck a b x)
  have nb : ∀ a b, ¬ inS 2 a b → ¬ (a = 130 ∧ b = 53) → u2 X 130 53 1 a b = u2 B 130 0 0 a b := fun a b x y => (u2_n _ _ y).trans (cb.2 a b x)
  have sn : SCT 86 0 nm ns (u2 (FI_X5_copy 95 86 A JA) 0 6 1) (FJ_X5_copy 95 86 A JA) (u2 X 130 53 1) := sc.mv c.2.1 (fun a b x y => na a b (by omega) (by omega)) (u2_n _ _ (by omega)) (fun a b q => nb a b (fun y => by have := inS_u q y; omega) (fun y => nS (f := 0) (by omega) q))
  refine ⟨sn.1.1, ⟨nm, ns, ⟨c.1, c.2.1, (na _ _ (by omega) (by omega)).trans c.2.2.1, (na _ _ (by omega) (by omega)).trans c.2.2.2.1, (nb _ _ (nS (by omega)) (by omega)).trans c.2.2.2.2.1, (nb _ _ (nS (by omega)) (by omega)).trans c.2.2.2.2.2⟩, sn, Or.inr ⟨?_, ?_, ?_⟩, un.mv c.2.1 (fun a b q => na a b (by omega) (by omega)) (u2_n _ _ (by omega)) (fun f a b x q => nb a b (fun y => by have := inS_u q y; omega) (fun y => nS (f := f) (by omega) q)) (nb _ _ (nS (by omega)) (by omega))⟩, ?_⟩
  · rw [u2_s]; decide
  · rw [u2_s]; decide
  · refine sc.tr c.2.1 (fun j b x y => ?_) (u2_s _ _ _ _) (fun a i x y z => ?_)
    · rw [u2_n _ _ (by omega)]
      exact cv j b x y
    · rw [u2_n _ _ (by omega)]
      exact cb.1 a i x y z
  · exact ⟨(nb _ _ (nS (by omega)) (by omega)).trans d0.1, (nb _ _ (nS (by omega)) (by omega)).trans d0.2.1, (nb _ _ (nS (by omega)) (by omega)).trans d0.2.2.1, (nb _ _ (nS (by omega)) (by omega)).trans d0.2.2.2⟩
theorem back_S {A B : SI} {JA J' : SJ} (d : GDF B) (s : GSC A JA B) : F_X11_back A JA = F_X12_back B J' ∧ GSC (FI_X11_back A JA) (FJ_X11_back A JA) (FI_X12_back B J') ∧ GDF (FI_X12_back B J') := by
  have s0 := gsc0 (v := 0) s
  have d0 : GDF (u2 B 130 0 0) := d.q qu0
  obtain ⟨nm, ns, c, sc, im, un⟩ := s0
  have cb := copies_v (p := 0) (q := 2) (I := u2 B 130 0 0) (J := J') (by omega) (by omega) (by omega)
  have e2 : FI_X12_copies 0 2 (u2 B 130 0 0) J' = FI_X12_copies (nI 0) (nI 2) (u2 B 130 0 0) J' := rfl
  unfold F_X11_back F_X12_back FI_X11_back FI_X12_back FJ_X11_back
  rw [e2]
  rcases im with ⟨i1, i2⟩ | ⟨i1, i2, i3⟩
  · rw [if_pos i1, if_pos i1, if_pos i1, if_pos i2, if_pos i2]
    exact ⟨rfl, ⟨nm, ns, c, sc, Or.inl ⟨i1, i2⟩, un⟩, d0⟩
  rw [if_neg i1, if_neg i1, if_neg i1, if_neg i2, if_neg i2]
  have cv := copy_v (k := 86) (a0 := 95) (I := A) (J := JA) (by omega)
  have ck : KP 86 94 A (FI_X5_copy 86 95 A JA) := copy_K
  generalize FI_X12_copies (nI 0) (nI 2) (u2 B 130 0 0) J' = X at cb
  have na : ∀ a b, a < 86 ∨ 94 < a → ¬ (a = 120 ∧ b = 0) → FI_X10_clear (FI_X5_copy 86 95 A JA) (FJ_X5_copy 86 95 A JA) a b = A a b := fun a b x y => (u2_n _ _ y).trans (ck a b x)
  have nb : ∀ a b, ¬ inS 0 a b → ¬ (a = 130 ∧ b = 54) → u2 X 130 54 0 a b = u2 B 130 0 0 a b := fun a b x y => (u2_n _ _ y).trans (cb.2 a b x)
  have sn : SCT 86 0 nm ns (FI_X10_clear (FI_X5_copy 86 95 A JA) (FJ_X5_copy 86 95 A JA)) (FJ_X5_copy 86 95 A JA) (u2 X 130 54 0) := by
    refine i3.tr c.2.1 (fun j b x y => ?_) (u2_s _ _ _ _) (fun a i x y z => ?_)
    · refine (u2_n _ _ (by omega)).trans ?_
      exact cv j b x y
    · rw [u2_n _ _ (by omega)]
      exact cb.1 a i x y z
  refine ⟨sn.1.1, ⟨nm, ns, ⟨c.1, c.2.1, (na _ _ (by omega) (by omega)).trans c.2.2.1, (na _ _ (by omega) (by omega)).trans c.2.2.2.1, (nb _ _ (nS (by omega)) (by omega)).trans c.2.2.2.2.1, (nb _ _ (nS (by omega)) (by omega)).trans c.2.2.2.2.2⟩, sn, Or.inr ⟨?_, ?_, ?_⟩, 0, by omega, by rw [u2_s]; rfl, u2_s _ _ _ _⟩, ?_⟩
  · rw [na 0 6 (by omega) (by omega)]; exact i1
  · rw [nb 130 53 (nS (by omega)) (by omega)]; exact i2
  · exact i3.mv c.2.1 (fun a b x y => na a b (by omega) (by omega)) (u2_n _ _ (by omega)) (fun a b q => nb a b (fun y => by have := inS_u q y; omega) (fun y => nS (f := 2) (by omega) q))
  · exact ⟨(nb _ _ (nS (by omega)) (by omega)).trans d0.1, (nb _ _ (nS (by omega)) (by omega)).trans d0.2.1, (nb _ _ (nS (by omega)) (by omega)).trans d0.2.2.1, (nb _ _ (nS (by omega)) (by omega)).trans d0.2.2.2⟩
