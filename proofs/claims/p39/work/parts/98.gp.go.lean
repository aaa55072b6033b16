/-! both: days begin as now; what a text opens; the scenes between calls -/
theorem tl_s {A B : SI} {nm ns : Nat} (t : TL A B) (c : CN nm ns A B) : (∀ m, m < nm → A 5 m = B 134 m) ∧ ∀ s, s < ns → A 11 s = B 138 s := by
  obtain ⟨c1, c2, c3, c4, c5, c6⟩ := c
  obtain ⟨⟨x, hx, x1, _, x3, _⟩, ⟨y, hy, y1, _, y3, _⟩, _⟩ := t
  have ex : x = nm := (nI_eq (by omega) (by omega)).mp (x1.symm.trans c3)
  have ey : y = ns := (nI_eq (by omega) (by omega)).mp (y1.symm.trans c4)
  subst ex ey
  exact ⟨fun m h => (x3 m h (5, 134) (by unfold TSM; simp)).1, fun s h => (y3 s h (11, 138) (by unfold TSS; simp)).1⟩
theorem cn_of {A B : SI} (t : TL A B) : ∃ nm ns np, CN nm ns A B ∧ (np ≤ 4 ∧ A 13 1 = nI np ∧ B 132 3 = nI np) := by
  obtain ⟨⟨x, hx, x1, x2, _⟩, ⟨y, hy, y1, y2, _⟩, ⟨z, hz, z1, z2, _⟩, _⟩ := t
  exact ⟨x, y, z, ⟨hx, hy, x1, y1, x2, y2⟩, hz, z1, z2⟩
/-- the days begin as now -/
theorem begin_v {nm ns np f : Nat} {A B : SI} {JA : SJ} (h : SCT 86 f nm ns A JA B) (c : CN nm ns A B) (p : np ≤ 4 ∧ A 13 1 = nI np ∧ B 132 3 = nI np) (t : TL A B) (l : ∀ k, k < 3 → LW B k) (g : GDF B) : SCT 105 f nm ns (FI_X0_begin 86 A JA) (FJ_X0_begin 86 A JA) B ∧ DX 0 nm ns np (FI_X0_begin 86 A JA) B ∧ KP 104 115 A (FI_X0_begin 86 A JA) := by
  have hn : ns ≤ 8 := c.2.1
  have kp : KP 104 115 A (FI_X0_begin 86 A JA) := begin_K
  have top : ∀ a b, 105 ≤ a → a ≤ 113 → FI_X0_begin 86 A JA a b = FI_X5_copy 105 86 A JA a b := fun a b x y => by
    unfold FI_X0_begin S1_X0_begin
    rw [u2_n _ _ (by omega), u2_n _ _ (by omega), u2_n _ _ (by omega), u2_n _ _ (by omega), cpF_n (by omega)]
  have st : ∀ m, m < 6 → FI_X0_begin 86 A JA 114 m = A 5 m := fun m hm => by
    unfold FI_X0_begin S1_X0_begin
    rw [u2_n _ _ (by omega), u2_n _ _ (by omega), u2_n _ _ (by omega), u2_n _ _ (by omega), cpF_s hm]
    exact copy_K (k := 105) 5 m (by omega)
  have c2 : FI_X0_begin 86 A JA 104 2 = 0 ∧ FI_X0_begin 86 A JA 104 5 = -1 ∧ FI_X0_begin 86 A JA 104 6 = 1 ∧ FI_X0_begin 86 A JA 104 7 = 1 := by
    unfold FI_X0_begin S1_X0_begin
    exact ⟨by rw [u2_n _ _ (by omega), u2_n _ _ (by omega), u2_n _ _ (by omega), u2_s], by rw [u2_n _ _ (by omega), u2_n _ _ (by omega), u2_s], by rw [u2_n _ _ (by omega), u2_s], u2_s _ _ _ _⟩
  have cv := copy_v (k := 105) (a0 := 86) (I := A) (J := JA) (by omega)
  have ts := tl_s t c
  refine ⟨h.tr hn (fun j b x y => (top (105 + j) b (by omega) (by omega)).trans (cv j b x y)) (show u2 JA 105 6 (JA 86 6) 105 6 = JA 86 6 from u2_s _ _ _ _) (fun _ _ _ _ _ => rfl), ?_, kp⟩
  have ea : ∀ a b, a < 104 → FI_X0_begin 86 A JA a b = A a b := fun a b x => kp a b (by omega)
  refine ⟨⟨c.1, c.2.1, (ea _ _ (by omega)).trans c.2.2.1, (ea _ _ (by omega)).trans c.2.2.2.1, c.2.2.2.2.1, c.2.2.2.2.2⟩, ⟨p.1, (ea _ _ (by omega)).trans p.2.1, p.2.2⟩, t.mv (fun a b _ y => ea a b (by omega)) (fun _ _ _ => rfl), l, Or.inr ⟨g.2.2.2, Or.inr (Or.inl ⟨c2.1, by rw [g.1]; decide, rfl⟩)⟩, Or.inr ⟨by rw [g.1]; decide, c2.2.1⟩, ?_, ?_, fun m hm => ?_⟩
  · rw [c2.2.2.1, g.1]; decide
  · rw [c2.2.2.2, g.1]; decide
  · have m6 : m < 6 := by have := c.1; omega
    rw [st m m6, ts.1 m hm]
    unfold F_X12_strikeOf
    rw [g.1, if_neg (show ¬ (0 : Int32) = 5 by decide), g.2.2.1, if_neg (show ¬ nI m = -1 from fun y => by
      have e : (nI m).toInt = (-1 : Int32).toInt := congrArg Int32.toInt y
      rw [nI_toInt (by omega)] at e
      have e2 : (-1 : Int32).toInt = -1 := by decide
      omega), nI_clamp (by omega)]
/-- the scene that a text opens -/
theorem sct_start {p f nm ns : Nat} {X Y : SI} {J J' : SJ} (hp : p = 86 ∨ p = 105) (hf : f ≤ 22) (t : TL X Y) (c : CN nm ns X Y) : SCT p f nm ns (FI_X5_open p 2 X J) (FJ_X5_open p 2 X J) (FI_X12_starts (nI f) Y J') := by
  have ts := tl_s t c
  obtain ⟨c1, c2, c3, c4, c5, c6⟩ := c
  have o := open_v (k := p) (A := X) (J := J) (by omega)
  have s := starts_v (f := f) (I := Y) (J := J') hf
  obtain ⟨o0, o1, o2, o4, o5, o7, on, oj⟩ := o
  obtain ⟨⟨s0, s1, s2, s3, s4, s5⟩, s6, s8, s48, s14, sn⟩ := s
  obtain ⟨_, ⟨y, hy, y1, y2, y3, y4⟩, ⟨d, hd, d1, d2, d3, d4⟩, _, _, w, _, ⟨p8, _⟩, ⟨p9, _⟩, _, _, mk⟩ := t
  have ey : y = ns := (nI_eq (by omega) (by omega)).mp (y1.symm.trans c4)
  subst ey
  generalize FI_X5_open p 2 X J = A at *
  generalize FI_X12_starts (nI f) Y J' = B at *
  refine ⟨⟨?_, ?_, ?_, ?_, ?_, ?_⟩, ?_, fun i hi => ?_, fun i m hi hm => ?_, fun i hi => ?_, fun i hi => ?_⟩
  · rw [o0 0 (by omega), s0]; rfl
  · rw [o0 1 (by omega), s2]; exact p8
  · rw [o0 2 (by omega), s3]; rfl
  · rw [o0 4 (by omega), s5]; rfl
  · rw [o0 5 (by omega), s4]; rfl
  · rw [oj, u2_s, s1, p9]
  · rw [o0 3 (by omega), if_neg (show ¬ (3 : Nat) = 1 by decide)]
    refine (itN_inv (P := fun x => x = 0) rfl (fun i x hi q => ?_)).symm
    rw [q, (s8 i hi).2.2]
    rfl
  · have k := s8 i hi
    rw [k.1, k.2.1, k.2.2]
    refine ⟨⟨?_, (o2 i hi).1, (o2 i hi).2⟩, Or.inl (o2 i hi).1⟩
    rw [o1 i hi, y2]
    by_cases z : i < y
    · rw [if_neg (nI_ge z (by omega))]
      exact ts.2 i z
    · rw [if_pos (nI_le (by omega) (by omega))]
      exact y4 3 i (by omega) (by omega) (by omega) hi
  · have i8 : i < 8 := by omega
    have w' := w.resolve_left (fun q => by
      rw [q] at c4
      have := (nI_eq (a := 0) (b := y) (by omega) (by omega)).mp c4
      omega) (6 * i + m) (by omega)
    rw [o4 (6 * i + m) (by omega), s48 (6 * i + m) (by omega)]
    refine ⟨w'.1, w'.2.imp id (fun q => ⟨q, ?_⟩)⟩
    have mq := (mk (6 * i + m) (by omega)).1
    rw [c3, nI_clamp (by omega), show (6 * i + m) % 6 = m by omega] at mq
    rcases mq with mq | mq
    · rw [mq] at q
      exact absurd q.1 (by decide)
    · exact mq
  · rw [(s6 i hi).1, (s6 i hi).2]
    exact ⟨⟨(o5 i hi).1, (o5 i hi).2⟩, Or.inl (o5 i hi).1, fun _ => (o5 i hi).2⟩
  · have k := s14 i hi
    rw [k.1, k.2, d2]
    by_cases z : i < d
    · have q := d3 i z (17, 143) (by unfold TSP; simp)
      have q1 : X 17 i = Y 143 i := q.1
      have q2 : inR (X 17 i) 100 := by have := q.2; unfold BD at this; simpa using this
      rw [if_neg (nI_ge z (by omega))]
      exact ⟨⟨(o7 i hi).1.trans q1, (o7 i hi).2⟩, by rw [(o7 i hi).1]; exact q2.le (by omega)⟩
    · have q : A (p + 7) i = 0 := (o7 i hi).1.trans (d4 4 i (by omega) (by omega) (by omega) (by omega))
      rw [if_pos (nI_le (by omega) (by omega))]
      exact ⟨⟨q, (o7 i hi).2⟩, by rw [q]; exact ⟨rfl, by decide⟩⟩
/-- the scenes between two calls -/
def GSC (A : SI) (JA : SJ) (B : SI) : Prop := ∃ nm ns : Nat, CN nm ns A B ∧ SCT 86 0 nm ns A JA B ∧ ((A 0 6 = 0 ∧ B 130 53 = 0) ∨ (¬ A 0 6 = 0 ∧ ¬ B 130 53 = 0 ∧ SCT 95 2 nm ns A JA B)) ∧ UND nm ns A JA B
theorem UND.mv {nm ns : Nat} {A A' B B' : SI} {JA JA' : SJ} (hns : ns ≤ 8) (h : UND nm ns A JA B) (ea : ∀ a b, (86 ≤ a ∧ a ≤ 94) ∨ (120 ≤ a ∧ a ≤ 123) → A' a b = A a b) (ej : JA' 86 6 = JA 86 6) (eb : ∀ f a b, 3 ≤ f → inS f a b → B' a b = B a b) (e54 : B' 130 54 = B 130 54) : UND nm ns A' JA' B' := by
  obtain ⟨n, hn, e, u⟩ := h
  exact ⟨n, hn, e54.trans e, u.cg hns ej n _ _ hn (fun a b q => ea a b (by omega)) (fun f a b x _ q => eb f a b x q)⟩
theorem GSC.quiet {A A' B B' : SI} {JA JA' : SJ} (h : GSC A JA B) (ka : ∀ a b, (86 ≤ a ∧ a ≤ 103) ∨ (120 ≤ a ∧ a ≤ 123) ∨ a = 3 ∨ a = 8 ∨ (a = 0 ∧ b = 6) → A' a b = A a b) (kj : JDY JA JA') (kb : KQT B B') (k0 : B' 132 0 = B 132 0) (k1 : B' 132 1 = B 132 1) : GSC A' JA' B' := by
  obtain ⟨nm, ns, ⟨c1, c2, c3, c4, c5, c6⟩, s, i, u⟩ := h
  have nb : ∀ f a b, f ≠ 1 → inS f a b → B' a b = B a b := fun f a b x q => kb a b (Or.inr ⟨q.1, q.2.1, fun z => x (inS_u q z)⟩)
  refine ⟨nm, ns, ⟨c1, c2, (ka _ _ (by omega)).trans c3, (ka _ _ (by omega)).trans c4, k0.trans c5, k1.trans c6⟩, s.mv c2 (fun a b x y => ka a b (by omega)) (kj _ _ (by omega)) (fun a b q => nb 0 a b (by omega) q), ?_, u.mv c2 (fun a b q => ka a b (by omega)) (kj _ _ (by omega)) (fun f a b x q => nb f a b (by omega) q) (kb 130 54 (by unfold QT; omega))⟩
  have e6 := ka 0 6 (by omega)
  have e53 : B' 130 53 = B 130 53 := kb 130 53 (by unfold QT; omega)
  rw [e6, e53]
  exact i.imp id (fun z => ⟨z.1, z.2.1, z.2.2.mv c2 (fun a b x y => ka a b (by omega)) (kj _ _ (by omega)) (fun a b q => nb 2 a b (by omega) q)⟩)
