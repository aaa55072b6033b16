/-! both: runs of days from now on: ahead, without, tried, agrees, chance -/
def NWD (nm ns np : Nat) (A : SI) (JA : SJ) (B : SI) : Prop := CN nm ns A B ∧ SCT 86 0 nm ns A JA B ∧ (np ≤ 4 ∧ A 13 1 = nI np ∧ B 132 3 = nI np) ∧ TL A B ∧ (∀ k, k < 3 → LW B k) ∧ GDF B
theorem nwd {A B : SI} {JA : SJ} (g : GTL A B) (m : MW B B) (d : GDF B) (s : GSC A JA B) : ∃ nm ns np, NWD nm ns np A JA (u2 B 130 0 0) := by
  obtain ⟨nm, ns, c, sc, _, _⟩ := gsc0 (v := 0) s
  have t0 : TL A (u2 B 130 0 0) := (tl_g g).mv (fun _ _ _ _ => rfl) (fun a b z => u2_n _ _ (by unfold mT at z; omega))
  have lw : ∀ k, k < 3 → LW (u2 B 130 0 0) k := fun k hk => (m.1.l hk).of hk (fun a b x y => u2_n _ _ (by omega))
  obtain ⟨_, _, np, _, p⟩ := cn_of t0
  exact ⟨nm, ns, np, c, sc, p, t0, lw, d.q qu0⟩
theorem NWD.mv {nm ns np : Nat} {A A1 B B1 : SI} {JA JA1 : SJ} (h : NWD nm ns np A JA B) (ea : ∀ a b, a < 104 → A1 a b = A a b) (ej : JA1 86 6 = JA 86 6) (eb : FS 1 B B1) : NWD nm ns np A1 JA1 B1 := by
  obtain ⟨⟨c1, c2, c3, c4, c5, c6⟩, sc, ⟨p1, p2, p3⟩, t, l, g1, g2, g3, g4⟩ := h
  have lo : ∀ a b, a < 154 → ¬ (a = 130 ∧ b = 38) → B1 a b = B a b := fun a b x y => eb.lo (Or.inl x) y
  exact ⟨⟨c1, c2, (ea _ _ (by omega)).trans c3, (ea _ _ (by omega)).trans c4, (lo _ _ (by omega) (by omega)).trans c5, (lo _ _ (by omega) (by omega)).trans c6⟩, sc.mv c2 (fun a b x y => ea a b (by omega)) ej (fun a b q => eb a b (fun z => absurd (inS_u q z) (by decide)) (fun z => by have := q.1; omega)), ⟨p1, (ea _ _ (by omega)).trans p2, (lo _ _ (by omega) (by omega)).trans p3⟩, t.mv (fun a b x y => ea a b (by omega)) (fun a b z => lo a b (by unfold mT at z; omega) (by unfold mT at z; omega)), fun k hk => (l k hk).of hk (fun a b x y => lo a b (by omega) (by omega)), (lo _ _ (by omega) (by omega)).trans g1, (lo _ _ (by omega) (by omega)).trans g2, (lo _ _ (by omega) (by omega)).trans g3, (lo _ _ (by omega) (by omega)).trans g4⟩
/-- days begin: the class's scene as the reference's set 1 -/
theorem begin1 {b : Int32} {nm ns np : Nat} {A A' B B' : SI} {JA J' : SJ} (h : NWD nm ns np A JA B) (ea : ∀ a b, ¬ (a = 104 ∨ a = 114) → A' a b = FI_X0_begin 86 A JA a b) (eb : ∀ a b, ¬ (a = 130 ∧ (b = 55 ∨ b = 56 ∨ b = 59)) → B' a b = B a b) (cf : CFG b nm A' B') : SCT 105 1 nm ns A' (FJ_X0_begin 86 A JA) (FI_X12_copies 1 0 B' J') ∧ DX b nm ns np A' (FI_X12_copies 1 0 B' J') := by
  obtain ⟨c, sc, p, t, l, g⟩ := h
  obtain ⟨b1, b2, _⟩ := begin_v sc c p t l g
  obtain ⟨x1, x2, x3, x4, _⟩ := b2
  have y : DX b nm ns np A' B' := ⟨⟨x1.1, x1.2.1, (ea _ _ (by omega)).trans x1.2.2.1, (ea _ _ (by omega)).trans x1.2.2.2.1, (eb _ _ (by omega)).trans x1.2.2.2.2.1, (eb _ _ (by omega)).trans x1.2.2.2.2.2⟩, ⟨x2.1, (ea _ _ (by omega)).trans x2.2.1, (eb _ _ (by omega)).trans x2.2.2⟩, x3.mv (fun a b _ z => ea a b (by omega)) (fun a b z => eb a b (by unfold mT at z; omega)), fun k hk => (x4 k hk).of hk (fun a b _ _ => eb a b (by omega)), cf⟩
  have cp := copies_v (p := 1) (q := 0) (I := B') (J := J') (by omega) (by omega) (by omega)
  have cp1 : ∀ a i, 154 ≤ a → a ≤ 167 → i < szm a → FI_X12_copies 1 0 B' J' a (szm a * 1 + i) = B' a (szm a * 0 + i) := cp.1
  have cp2 : ∀ a b, ¬ inS 1 a b → FI_X12_copies 1 0 B' J' a b = B' a b := cp.2
  have fs : FS 1 B' (FI_X12_copies 1 0 B' J') := fun a b z _ => cp2 a b z
  have s1 : SCT 105 0 nm ns A' (FJ_X0_begin 86 A JA) B' := b1.mv c.2.1 (fun a b _ _ => ea a b (by omega)) rfl (fun a b q => eb a b (fun z => by have := q.1; omega))
  exact ⟨s1.tr c.2.1 (fun _ _ _ _ => rfl) rfl cp1, y.mv (fun _ _ _ => rfl) fs⟩
theorem cfg0 {nm ns np : Nat} {A B : SI} {JA : SJ} (h : NWD nm ns np A JA B) : CFG 0 nm (FI_X0_begin 86 A JA) B := (begin_v h.2.1 h.1 h.2.2.1 h.2.2.2.1 h.2.2.2.2.1 h.2.2.2.2.2).2.1.2.2.2.2
/-- days run: what is left behind -/
theorem run1 {nm ns np : Nat} {a0 : Int32} {A A' B B' : SI} {JA J' : SJ} (h : NWD nm ns np A JA B) (ea : ∀ a b, ¬ (a = 104 ∨ a = 114) → A' a b = FI_X0_begin 86 A JA a b) (eb : ∀ a b, ¬ (a = 130 ∧ (b = 55 ∨ b = 56 ∨ b = 59)) → B' a b = B a b) (cf : CFG 0 nm A' B') : SCT 105 1 nm ns (FI_X0_pass a0 A' (FJ_X0_begin 86 A JA)) (FJ_X0_pass a0 A' (FJ_X0_begin 86 A JA)) (FI_X12_runs a0 B' J') ∧ CN nm ns (FI_X0_pass a0 A' (FJ_X0_begin 86 A JA)) (FI_X12_runs a0 B' J') ∧ SCT 86 0 nm ns (FI_X0_pass a0 A' (FJ_X0_begin 86 A JA)) JA (FI_X12_runs a0 B' J') := by
  obtain ⟨b1, b2⟩ := begin1 (J' := J') h ea eb cf
  have days := days_v (b := 0) (f := 1) (a0 := a0) (Ia := A') (Ja := FJ_X0_begin 86 A JA) (J' := J') (g := B_X12_goesOn_l2 a0 (FI_X12_copies 1 0 B' J') J') (fun _ _ => rfl) b1 b2 (by omega) a0.toNatClampNeg
  have days' : DRL 1 nm ns A' (FJ_X0_begin 86 A JA) (FI_X12_copies 1 0 B' J') (FI_X0_pass a0 A' (FJ_X0_begin 86 A JA)) (FJ_X0_pass a0 A' (FJ_X0_begin 86 A JA)) (FI_X12_runs a0 B' J') := days
  obtain ⟨y1, y2, y3, _⟩ := days'
  have y := b2.mv y2 y3
  have cp := copies_v (p := 1) (q := 0) (I := B') (J := J') (by omega) (by omega) (by omega)
  have cp2 : ∀ a b, ¬ inS 1 a b → FI_X12_copies 1 0 B' J' a b = B' a b := cp.2
  have bk : KP 104 115 A (FI_X0_begin 86 A JA) := begin_K
  refine ⟨y1, y.1, h.2.1.mv h.1.2.1 (fun a b x z => (y2 a b (by omega)).trans ((ea a b (by omega)).trans (bk a b (by omega)))) rfl (fun a b q => ?_)⟩
  have n1 : ¬ inS 1 a b := fun z => absurd (inS_u q z) (by decide)
  have n2 : 154 ≤ a := q.1
  exact (y3 a b n1 (by omega)).trans ((cp2 a b n1).trans (eb a b (by omega)))
theorem ahead_val {a0 a1 : Int32} {A B : SI} {JA J' : SJ} (g : GTL A B) (m : MW B B) (d : GDF B) (s : GSC A JA B) : F_X11_ahead a0 a1 A JA = F_X12_ahead a0 a1 B J' := by
  obtain ⟨nm, ns, np, h⟩ := nwd g m d s
  obtain ⟨r1, r2, r3⟩ := run1 (a0 := a0) (J' := J') h (fun _ _ _ => rfl) (fun _ _ _ => rfl) (cfg0 h)
  unfold F_X11_ahead F_X12_ahead S1_X11_ahead S2_X11_ahead S3_X11_ahead S4_X11_ahead S5_X11_ahead S1_X12_ahead S2_X12_ahead
  generalize FI_X0_pass a0 (FI_X0_begin 86 A JA) (FJ_X0_begin 86 A JA) = X at *
  generalize FJ_X0_pass a0 (FI_X0_begin 86 A JA) (FJ_X0_begin 86 A JA) = JX at *
  generalize FI_X12_runs a0 (u2 B 130 0 0) J' = Y at *
  generalize FJ_X12_runs a0 (u2 B 130 0 0) J' = JY at *
  have f1 : F_X5_filmedCount 105 X JX = F_X12_sumOf 163 184 1 Y JY := filmed_v (f := 1) r1 (by omega)
  have f0 : F_X5_filmedCount 86 X JX = F_X12_sumOf 163 184 0 Y JY := filmed_v (f := 0) r3 (by omega)
  have g1 : X 105 3 = F_X12_sumOf 164 184 1 Y JY := agains_v (f := 1) r1 (by omega)
  have g0 : X 86 3 = F_X12_sumOf 164 184 0 Y JY := agains_v (f := 0) r3 (by omega)
  have k1 : X 105 2 = Y 157 1 := r1.1.2.2.1
  have k0 : X 86 2 = Y 157 0 := r3.1.2.2.1
  have p1 : X 105 1 = Y 156 1 := r1.1.2.1
  have c1 : F_X5_clashCount 105 X JX = F_X12_clashesAll 1 Y JY := clashes_v (f := 1) r1 r2 (by omega)
  rw [f1, f0, g1, g0, k1, k0, p1, c1]
theorem SCT.nb {p f nm ns b : Nat} {v : Int32} {A B : SI} {JA : SJ} (h : SCT p f nm ns A JA B) (hn : ns ≤ 8) : SCT p f nm ns A JA (u2 B 130 b v) := h.mv hn (fun _ _ _ _ => rfl) rfl (fun a c q => u2_n _ _ (fun y => nS (f := f) (by omega) q))
theorem CN.nb {nm ns b : Nat} {v : Int32} {A B : SI} (c : CN nm ns A B) : CN nm ns A (u2 B 130 b v) := ⟨c.1, c.2.1, c.2.2.1, c.2.2.2.1, (u2_n _ _ (by omega)).trans c.2.2.2.2.1, (u2_n _ _ (by omega)).trans c.2.2.2.2.2⟩
theorem without_val {a0 : Int32} {A B : SI} {JA J' : SJ} (g : GTL A B) (m : MW B B) (d : GDF B) (s : GSC A JA B) : F_X11_without a0 A JA = F_X12_without a0 B J' := by
  obtain ⟨nm, ns, np, h⟩ := nwd g m d s
  have cf := cfg0 h
  have eA : ∀ a b, ¬ (a = 104 ∧ b = 2) → u2 (FI_X0_begin 86 A JA) 104 2 3 a b = FI_X0_begin 86 A JA a b := fun a b z => u2_n _ _ z
  have eB : ∀ a b, ¬ (a = 130 ∧ b = 59) → u2 (u2 B 130 0 0) 130 59 1 a b = u2 B 130 0 0 a b := fun a b z => u2_n _ _ z
  have cf1 : CFG 0 nm (u2 (FI_X0_begin 86 A JA) 104 2 3) (u2 (u2 B 130 0 0) 130 59 1) := by
    refine ⟨Or.inl ⟨u2_s _ _ _ _, by rw [u2_s]; decide⟩, ?_, ?_, ?_, fun q hq => ?_⟩
    · rw [eA 104 5 (by omega), eB 130 55 (by omega), eB 130 56 (by omega)]; exact cf.2.1
    · rw [eA 104 6 (by omega), eB 130 55 (by omega)]; exact cf.2.2.1
    · rw [eA 104 7 (by omega), eB 130 55 (by omega)]; exact cf.2.2.2.1
    · rw [eA 114 q (by omega), cf.2.2.2.2 q hq]
      unfold F_X12_strikeOf
      rw [eB 130 55 (by omega), eB 130 57 (by omega), eB 130 58 (by omega), eB 134 _ (by omega)]
  obtain ⟨r1, r2, _⟩ := run1 (a0 := a0) (J' := J') h (fun a b z => eA a b (by omega)) (fun a b z => eB a b (by omega)) cf1
  have r1' := r1.nb (b := 59) (v := 0) h.1.2.1
  have r2' := r2.nb (b := 59) (v := 0)
  unfold F_X11_without F_X12_without S1_X11_without S2_X11_without S1_X12_without S2_X12_without
  generalize FI_X0_pass a0 (u2 (FI_X0_begin 86 A JA) 104 2 3) (FJ_X0_begin 86 A JA) = X at *
  generalize FJ_X0_pass a0 (u2 (FI_X0_begin 86 A JA) 104 2 3) (FJ_X0_begin 86 A JA) = JX at *
  generalize u2 (FI_X12_runs a0 (u2 (u2 B 130 0 0) 130 59 1) J') 130 59 0 = Y at *
  generalize FJ_X12_runs a0 (u2 (u2 B 130 0 0) 130 59 1) J' = JY at *
  have c1 : F_X5_clashCount 105 X JX = F_X12_clashesAll 1 Y JY := clashes_v (f := 1) r1' r2' (by omega)
  have c2 : F_X5_breakCount 105 X JX = F_X12_breaksAll 1 Y JY := breaks_v (f := 1) r1' r2' (by omega)
  rw [c1, c2]
theorem other_v {a0 a1 : Int32} {I : SI} {J : SJ} : (FI_X0_otherwise a0 a1 I J 104 2 = (if a0 = 1 then 2 else 0) ∧ FI_X0_otherwise a0 a1 I J 104 5 = (if a0 = 2 then a1 else -1) ∧ FI_X0_otherwise a0 a1 I J 104 6 = (if a0 = 3 then 0 else 1) ∧ FI_X0_otherwise a0 a1 I J 104 7 = (if a0 = 4 then 0 else 1)) ∧ (∀ b, b < 6 → FI_X0_otherwise a0 a1 I J 114 b = if a0 = 5 then 99 else I 114 b) ∧ ∀ a b, ¬ (a = 104 ∨ a = 114) → FI_X0_otherwise a0 a1 I J a b = I a b := by
  have k : S2_X0_otherwise a0 a1 I J = u2 (u2 (u2 (u2 I 104 2 (if a0 = 1 then 2 else 0)) 104 5 (if a0 = 2 then a1 else -1)) 104 6 (if a0 = 3 then 0 else 1)) 104 7 (if a0 = 4 then 0 else 1) := rfl
  have k2 : S2_X0_otherwise a0 a1 I J 104 2 = (if a0 = 1 then 2 else 0) := by rw [k, u2_n _ _ (by omega), u2_n _ _ (by omega), u2_n _ _ (by omega), u2_s]
  have k5 : S2_X0_otherwise a0 a1 I J 104 5 = (if a0 = 2 then a1 else -1) := by rw [k, u2_n _ _ (by omega), u2_n _ _ (by omega), u2_s]
  have k6 : S2_X0_otherwise a0 a1 I J 104 6 = (if a0 = 3 then 0 else 1) := by rw [k, u2_n _ _ (by omega), u2_s]
  have k7 : S2_X0_otherwise a0 a1 I J 104 7 = (if a0 = 4 then 0 else 1) := by rw [k, u2_s]
  have kn : ∀ a b, ¬ a = 104 → S2_X0_otherwise a0 a1 I J a b = I a b := fun a b z => by rw [k, u2_n _ _ (by omega), u2_n _ _ (by omega), u2_n _ _ (by omega), u2_n _ _ (by omega)]
  unfold FI_X0_otherwise
  by_cases z : a0 = 5
  · rw [if_pos z]
    refine ⟨⟨(fillF_n (by decide)).trans k2, (fillF_n (by decide)).trans k5, (fillF_n (by decide)).trans k6, (fillF_n (by decide)).trans k7⟩, fun b hb => ?_, fun a b q => (fillF_n (by omega)).trans (kn a b (by omega))⟩
    rw [if_pos z]
    exact if_pos ⟨rfl, hb⟩
  · rw [if_neg z]
    refine ⟨⟨k2, k5, k6, k7⟩, fun b _ => ?_, fun a b q => kn a b (by omega)⟩
    rw [if_neg z]
    exact kn 114 b (by omega)
theorem tried_val {a0 a1 a2 : Int32} {A B : SI} {JA J' : SJ} (g : GTL A B) (m : MW B B) (d : GDF B) (s : GSC A JA B) : F_X11_tried a0 a1 a2 A JA = F_X12_tried a0 a1 a2 B J' := by
  have ph := party_h (a0 := a1) (J := JA) (J' := J') g
  obtain ⟨nm, ns, np, h⟩ := nwd g m d s
  have cf := cfg0 h
  have gd := h.2.2.2.2.2
  obtain ⟨⟨o2, o5, o6, o7⟩, os, oa⟩ := other_v (a0 := a0) (a1 := a1) (I := FI_X0_begin 86 A JA) (J := FJ_X0_begin 86 A JA)
  have eB : ∀ a b, ¬ (a = 130 ∧ (b = 55 ∨ b = 56)) → u2 (u2 (u2 B 130 0 0) 130 55 a0) 130 56 a1 a b = u2 B 130 0 0 a b := fun a b z => (u2_n _ _ (by omega)).trans (u2_n _ _ (by omega))
  have e55 : u2 (u2 (u2 B 130 0 0) 130 55 a0) 130 56 a1 130 55 = a0 := (u2_n _ _ (by omega)).trans (u2_s _ _ _ _)
  have e56 : u2 (u2 (u2 B 130 0 0) 130 55 a0) 130 56 a1 130 56 = a1 := u2_s _ _ _ _
  have e59 : u2 (u2 (u2 B 130 0 0) 130 55 a0) 130 56 a1 130 59 = 0 := (eB _ _ (by omega)).trans gd.2.2.2
  have cf1 : CFG 0 nm (FI_X0_otherwise a0 a1 (FI_X0_begin 86 A JA) (FJ_X0_begin 86 A JA)) (u2 (u2 (u2 B 130 0 0) 130 55 a0) 130 56 a1) := by
    refine ⟨Or.inr ⟨e59, ?_⟩, ?_, ?_, ?_, fun q hq => ?_⟩
    · rw [e55, o2]
      by_cases z : a0 = 1
      · rw [if_pos z]; exact Or.inl ⟨rfl, z⟩
      · rw [if_neg z]; exact Or.inr (Or.inl ⟨rfl, z, rfl⟩)
    · rw [e55, e56, o5]
      by_cases z : a0 = 2
      · rw [if_pos z]; exact Or.inl ⟨z, rfl⟩
      · rw [if_neg z]; exact Or.inr ⟨z, rfl⟩
    · rw [e55, o6]
      by_cases z : a0 = 3
      · rw [if_pos z]; exact ⟨fun _ => z, fun _ => rfl⟩
      · rw [if_neg z]; exact ⟨fun y => absurd y (by decide), fun y => absurd y z⟩
    · rw [e55, o7]
      by_cases z : a0 = 4
      · rw [if_pos z]; exact ⟨fun _ => z, fun _ => rfl⟩
      · rw [if_neg z]; exact ⟨fun y => absurd y (by decide), fun y => absurd y z⟩
    · have q6 : q < 6 := by have := h.1.1; omega
      rw [os q q6]
      have w := cf.2.2.2.2 q hq
      unfold F_X12_strikeOf at w ⊢
      rw [gd.1, if_neg (show ¬ (0 : Int32) = 5 by decide)] at w
      rw [e55, eB 130 57 (by omega), eB 130 58 (by omega), eB 134 _ (by omega), ← w]
  obtain ⟨r1, r2, _⟩ := run1 (a0 := a2) (J' := J') h oa (fun a b z => eB a b (by omega)) cf1
  have r1' := (r1.nb (b := 55) (v := 0) h.1.2.1).nb (b := 56) (v := -1) h.1.2.1
  have r2' := (r2.nb (b := 55) (v := 0)).nb (b := 56) (v := -1)
  have et : T_X11_tried_j37 a0 a1 a2 A JA = T_X12_tried_j36 a0 a1 a2 B J' := by
    unfold T_X11_tried_j37 T_X12_tried_j36
    rw [ph]
  unfold F_X11_tried F_X12_tried S1_X11_tried S2_X11_tried S2_X12_tried S1_X12_tried
  generalize FI_X0_pass a2 (FI_X0_otherwise a0 a1 (FI_X0_begin 86 A JA) (FJ_X0_begin 86 A JA)) (FJ_X0_begin 86 A JA) = X at *
  generalize FJ_X0_pass a2 (FI_X0_otherwise a0 a1 (FI_X0_begin 86 A JA) (FJ_X0_begin 86 A JA)) (FJ_X0_begin 86 A JA) = JX at *
  generalize u2 (u2 (FI_X12_runs a2 (u2 (u2 (u2 B 130 0 0) 130 55 a0) 130 56 a1) J') 130 55 0) 130 56 (-1) = Y at *
  generalize FJ_X12_runs a2 (u2 (u2 (u2 B 130 0 0) 130 55 a0) 130 56 a1) J' = JY at *
  have c1 : F_X5_clashCount 105 X JX = F_X12_clashesAll 1 Y JY := clashes_v (f := 1) r1' r2' (by omega)
  rw [c1, et]
/-- loops that stop alike -/
theorem itE2 {σ ρ τ υ : Type} {f : Nat → σ → σ ⊕ ρ} {g : Nat → τ → τ ⊕ υ} (P : σ → τ → Prop) (Q : ρ → υ → Prop) (h : ∀ i s t, P s t → (∃ s' t', f i s = .inl s' ∧ g i t = .inl t' ∧ P s' t') ∨ (∃ r u, f i s = .inr r ∧ g i t = .inr u ∧ Q r u)) : ∀ n i s t, P s t → (∃ s' t', itE f n i s = .inl s' ∧ itE g n i t = .inl t' ∧ P s' t') ∨ (∃ r u, itE f n i s = .inr r ∧ itE g n i t = .inr u ∧ Q r u) := by
  intro n
  induction n with
  | zero => intro i s t p; exact Or.inl ⟨s, t, itE_0 f i s, itE_0 g i t, p⟩
  | succ n ih =>
    intro i s t p
    rcases h i s t p with ⟨s', t', e1, e2, p'⟩ | ⟨r, u, e1, e2, q⟩
    · rw [itE_l f n i s s' e1, itE_l g n i t t' e2]
      exact ih (i + 1) s' t' p'
    · exact Or.inr ⟨r, u, itE_r f n i s r e1, itE_r g n i t u e2, q⟩
theorem pass1_e {A : SI} {JA : SJ} : FI_X0_pass 1 A JA = (B_X0_pass_l2 1 A JA 0 (A, JA)).1 ∧ FJ_X0_pass 1 A JA = (B_X0_pass_l2 1 A JA 0 (A, JA)).2 := by
  have e : F_X0_pass_l2 1 A JA (A, JA) = B_X0_pass_l2 1 A JA 0 (A, JA) := by
    unfold F_X0_pass_l2
    rw [show (1 : Int32).toNatClampNeg = 0 + 1 from by decide, itN_s, itN_0]
  exact ⟨congrArg Prod.fst e, congrArg Prod.snd e⟩
theorem pass1 {b : Int32} {f nm ns np : Nat} {A B : SI} {JA J' : SJ} (h : SCT 105 f nm ns A JA B) (x : DX b nm ns np A B) (hf : f ≤ 22) : DRL f nm ns A JA B (FI_X0_pass 1 A JA) (FJ_X0_pass 1 A JA) (FI_X12_passes (nI f) b B J') ∧ DX b nm ns np (FI_X0_pass 1 A JA) (FI_X12_passes (nI f) b B J') := by
  have p := pass_v (a0 := 1) (i2 := 0) (Ia := A) (Ja := JA) (J' := J') h x hf
  rw [pass1_e.1, pass1_e.2]
  exact ⟨p, x.mv p.2.1 p.2.2.1⟩
theorem agrees_val {A B : SI} {JA J' : SJ} (g : GTL A B) (m : MW B B) (d : GDF B) (s : GSC A JA B) : F_X11_agrees A JA = F_X12_agrees B J' := by
  obtain ⟨nm, ns, np, h⟩ := nwd g m d s
  obtain ⟨b1, b2⟩ := begin1 (J' := J') h (fun _ _ _ => rfl) (fun _ _ _ => rfl) (cfg0 h)
  have st : ∀ i (x y : SI × SJ), (SCT 105 1 nm ns x.1 x.2 y.1 ∧ DX 0 nm ns np x.1 y.1) → (∃ x' y', B_X11_agrees_l13_4 A JA i x = .inl x' ∧ B_X12_agrees_l13_4 B J' i y = .inl y' ∧ (SCT 105 1 nm ns x'.1 x'.2 y'.1 ∧ DX 0 nm ns np x'.1 y'.1)) ∨ (∃ r u, B_X11_agrees_l13_4 A JA i x = .inr r ∧ B_X12_agrees_l13_4 B J' i y = .inr u ∧ r.1 = u.1) := by
    rintro i ⟨A1, J1⟩ ⟨B1, K1⟩ ⟨p1, p2⟩
    have p1 : SCT 105 1 nm ns A1 J1 B1 := p1
    have p2 : DX 0 nm ns np A1 B1 := p2
    have f1 : F_X5_filmedCount 105 A1 J1 = F_X12_sumOf 163 184 1 B1 K1 := filmed_v (f := 1) p1 (by omega)
    have c1 : F_X5_clashCount 105 A1 J1 = F_X12_clashesAll 1 B1 K1 := clashes_v (f := 1) p1 p2.1 (by omega)
    have e8 : A1 8 1 = B1 132 1 := p2.1.2.2.2.1.trans p2.1.2.2.2.2.2.symm
    have ps := pass1 (f := 1) (J' := K1) p1 p2 (by omega)
    have ps' : SCT 105 1 nm ns (FI_X0_pass 1 A1 J1) (FJ_X0_pass 1 A1 J1) (FI_X12_passes 1 0 B1 K1) ∧ DX 0 nm ns np (FI_X0_pass 1 A1 J1) (FI_X12_passes 1 0 B1 K1) := ⟨ps.1.1, ps.2⟩
    by_cases z1 : F_X5_filmedCount 105 A1 J1 = A1 8 1
    · by_cases z2 : F_X5_clashCount 105 A1 J1 = 0
      · refine Or.inr ⟨(nI i, A1, J1), (nI i, B1, K1), ?_, ?_, rfl⟩
        · unfold B_X11_agrees_l13_4
          exact (if_pos z1).trans (if_pos z2)
        · unfold B_X12_agrees_l13_4
          exact (if_pos (f1.symm.trans (z1.trans e8))).trans (if_pos (c1.symm.trans z2))
      · refine Or.inl ⟨(FI_X0_pass 1 A1 J1, FJ_X0_pass 1 A1 J1), (FI_X12_passes 1 0 B1 K1, FJ_X12_passes 1 0 B1 K1), ?_, ?_, ps'⟩
        · unfold B_X11_agrees_l13_4
          exact (if_pos z1).trans (if_neg z2)
        · unfold B_X12_agrees_l13_4
          exact (if_pos (f1.symm.trans (z1.trans e8))).trans (if_neg (fun y => z2 (c1.trans y)))
    · refine Or.inl ⟨(FI_X0_pass 1 A1 J1, FJ_X0_pass 1 A1 J1), (FI_X12_passes 1 0 B1 K1, FJ_X12_passes 1 0 B1 K1), ?_, ?_, ps'⟩
      · unfold B_X11_agrees_l13_4
        exact if_neg z1
      · unfold B_X12_agrees_l13_4
        exact if_neg (fun y => z1 (f1.trans (y.trans e8.symm)))
  have L := itE2 (f := B_X11_agrees_l13_4 A JA) (g := B_X12_agrees_l13_4 B J') (fun (x y : SI × SJ) => SCT 105 1 nm ns x.1 x.2 y.1 ∧ DX 0 nm ns np x.1 y.1) (fun (r u : Int32 × SI × SJ) => r.1 = u.1) st 100 0 (FI_X0_begin 86 A JA, FJ_X0_begin 86 A JA) (FI_X12_copies 1 0 (u2 B 130 0 0) J', J') ⟨b1, b2⟩
  unfold F_X11_agrees F_X12_agrees F_X11_agrees_l13_4 F_X12_agrees_l13_4
  rcases L with ⟨x, y, e1, e2, _⟩ | ⟨r, u, e1, e2, q⟩
  · simp only [e1, e2]
  · simp only [e1, e2]
    exact q
