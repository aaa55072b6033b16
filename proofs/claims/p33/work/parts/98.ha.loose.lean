/-! both: scenes alike but for what parties have left (printed by wip/gen/inv/gloose.py) -/
def SCL (R : Nat → Int32 → Int32 → Prop) (p f nm ns : Nat) (A : SI) (JA : SJ) (B : SI) : Prop := (A p 0 = B 154 f ∧ A p 1 = B 156 f ∧ A p 2 = B 157 f ∧ A p 4 = B 159 f ∧ A p 5 = B 158 f ∧ JA p 6 = (B 155 f).toInt64) ∧ (A p 3 = itN (fun i s => s + B 164 (8 * f + i)) 8 0) ∧ (∀ s, s < 8 → (A (p + 1) s = B 162 (8 * f + s) ∧ A (p + 2) s = B 163 (8 * f + s) ∧ A (p + 3) s = B 164 (8 * f + s)) ∧ (A (p + 2) s = 0 ∨ (A (p + 2) s = 1 ∧ s < ns))) ∧ (∀ s m, s < ns → m < 6 → A (p + 4) (6 * s + m) = B 165 (48 * f + (6 * s + m)) ∧ (A (p + 4) (6 * s + m) = -1 ∨ (inR (A (p + 4) (6 * s + m)) 6 ∧ m < nm))) ∧ (∀ m, m < 6 → (A (p + 5) m = B 160 (6 * f + m) ∧ A (p + 6) m = B 161 (6 * f + m)) ∧ (A (p + 5) m = -1 ∨ inR (A (p + 5) m) 6) ∧ (nm ≤ m → A (p + 6) m = 0)) ∧ (∀ q, q < 4 → (R q (A (p + 7) q) (B 166 (4 * f + q)) ∧ A (p + 8) q = B 167 (4 * f + q)) ∧ True)
theorem SCL.mono {R R' : Nat → Int32 → Int32 → Prop} {p f nm ns : Nat} {A B : SI} {JA : SJ} (h : SCL R p f nm ns A JA B) (k : ∀ q a b, q < 4 → R q a b → R' q a b) : SCL R' p f nm ns A JA B := ⟨h.1, h.2.1, h.2.2.1, h.2.2.2.1, h.2.2.2.2.1, fun q z => ⟨⟨k q _ _ z (h.2.2.2.2.2 q z).1.1, (h.2.2.2.2.2 q z).1.2⟩, trivial⟩⟩
theorem SCT.loose {R : Nat → Int32 → Int32 → Prop} {p f nm ns : Nat} {A B : SI} {JA : SJ} (h : SCT p f nm ns A JA B) (k : ∀ q a, q < 4 → inR a 1000 → R q a a) : SCL R p f nm ns A JA B := ⟨h.1, h.2.1, h.2.2.1, h.2.2.2.1, h.2.2.2.2.1, fun q z => ⟨⟨by rw [← (h.2.2.2.2.2 q z).1.1]; exact k q _ z (h.2.2.2.2.2 q z).2, (h.2.2.2.2.2 q z).1.2⟩, trivial⟩⟩
theorem SCL.tr {R : Nat → Int32 → Int32 → Prop} {p f p' f' nm ns : Nat} {A A' B B' : SI} {JA JA' : SJ} (h : SCL R p f nm ns A JA B) (hn : ns ≤ 8) (ea : ∀ j b, j ≤ 8 → b < szc j → A' (p' + j) b = A (p + j) b) (ej : JA' p' 6 = JA p 6) (eb : ∀ a i, 154 ≤ a → a ≤ 167 → i < szm a → B' a (szm a * f' + i) = B a (szm a * f + i)) : SCL R p' f' nm ns A' JA' B' := by
  obtain ⟨⟨h0, h1, h2, h4, h5, h6⟩, h3, hs, hw, hm, hq⟩ := h
  have a0 : ∀ b, b < 6 → A' p' b = A p b := fun b z => ea 0 b (by omega) z
  have b1 : ∀ a, 154 ≤ a → a ≤ 159 → B' a f' = B a f := fun a x y => by
    have e : szm a = 1 := by unfold szm; rw [if_pos y]
    have q := eb a 0 x (by omega) (by rw [e]; omega)
    rw [e, Nat.one_mul, Nat.one_mul] at q
    exact q
  have b6 : ∀ a i, a = 160 ∨ a = 161 → i < 6 → B' a (6 * f' + i) = B a (6 * f + i) := fun a i x y => by
    have e : szm a = 6 := by unfold szm; rw [if_neg (by omega), if_pos (by omega)]
    have q := eb a i (by omega) (by omega) (by rw [e]; exact y)
    rw [e] at q
    exact q
  have b8 : ∀ a i, 162 ≤ a → a ≤ 164 → i < 8 → B' a (8 * f' + i) = B a (8 * f + i) := fun a i x0 x y => by
    have e : szm a = 8 := by unfold szm; rw [if_neg (by omega), if_neg (by omega), if_pos (by omega)]
    have q := eb a i (by omega) (by omega) (by rw [e]; exact y)
    rw [e] at q
    exact q
  have b48 : ∀ i, i < 48 → B' 165 (48 * f' + i) = B 165 (48 * f + i) := fun i y => eb 165 i (by omega) (by omega) y
  have b4 : ∀ a i, a = 166 ∨ a = 167 → i < 4 → B' a (4 * f' + i) = B a (4 * f + i) := fun a i x y => by
    have e : szm a = 4 := by unfold szm; rw [if_neg (by omega), if_neg (by omega), if_neg (by omega), if_neg (by omega)]
    have q := eb a i (by omega) (by omega) (by rw [e]; exact y)
    rw [e] at q
    exact q
  refine ⟨⟨by rw [a0 0 (by omega), b1 154 (by omega) (by omega)]; exact h0, by rw [a0 1 (by omega), b1 156 (by omega) (by omega)]; exact h1, by rw [a0 2 (by omega), b1 157 (by omega) (by omega)]; exact h2, by rw [a0 4 (by omega), b1 159 (by omega) (by omega)]; exact h4, by rw [a0 5 (by omega), b1 158 (by omega) (by omega)]; exact h5, by rw [ej, b1 155 (by omega) (by omega)]; exact h6⟩, ?_, fun s z => ?_, fun s m z y => ?_, fun m z => ?_, fun q z => ?_⟩
  · rw [a0 3 (by omega), h3]
    exact itN_cg 8 (fun i hi s => by rw [b8 164 i (by omega) (by omega) hi])
  · have k := hs s z
    rw [ea 1 s (by omega) z, ea 2 s (by omega) z, ea 3 s (by omega) z, b8 162 s (by omega) (by omega) z, b8 163 s (by omega) (by omega) z, b8 164 s (by omega) (by omega) z]
    exact k
  · have k := hw s m z y
    rw [ea 4 (6 * s + m) (by omega) (show 6 * s + m < 48 by omega), b48 (6 * s + m) (by omega)]
    exact k
  · have k := hm m z
    rw [ea 5 m (by omega) z, ea 6 m (by omega) z, b6 160 m (by omega) z, b6 161 m (by omega) z]
    exact k
  · have k := hq q z
    rw [ea 7 q (by omega) z, ea 8 q (by omega) z, b4 166 q (by omega) z, b4 167 q (by omega) z]
    exact k
theorem SCL.mv {R : Nat → Int32 → Int32 → Prop} {p f nm ns : Nat} {A A' B B' : SI} {JA JA' : SJ} (h : SCL R p f nm ns A JA B) (hn : ns ≤ 8) (ea : ∀ a b, p ≤ a → a ≤ p + 8 → A' a b = A a b) (ej : JA' p 6 = JA p 6) (eb : ∀ a b, inS f a b → B' a b = B a b) : SCL R p f nm ns A' JA' B' := h.tr hn (fun j b x _ => ea (p + j) b (by omega) (by omega)) ej (fun a i x y z => eb a _ ⟨x, y, Nat.le_add_right _ _, Nat.add_lt_add_left z _⟩)
theorem SCL.dn {R : Nat → Int32 → Int32 → Prop} {p f nm ns s : Nat} {A B : SI} {JA J : SJ} (h : SCL R p f nm ns A JA B) (hf : f ≤ 22) (hs : s < 8) : A (p + 2) s = 0 ↔ F_X12_isDone (nI f) (nI s) B J = 0 := by
  obtain ⟨⟨_, k, _⟩, k2⟩ := h.2.2.1 s hs
  rw [done_m hf hs, ← k]
  rcases k2 with z | ⟨z, _⟩
  · rw [z]; decide
  · rw [z]; decide
theorem SCL.wn {R : Nat → Int32 → Int32 → Prop} {p f nm ns s m : Nat} {A B : SI} {JA J J' : SJ} (h : SCL R p f nm ns A JA B) (hn : ns ≤ 8) (hf : f ≤ 22) (hs : s < ns) (hm : m < 6) : F_X5_wayIn p (nI s) (nI m) A J = F_X12_wayIn (nI f) (nI s) (nI m) B J' ∧ (F_X5_wayIn p (nI s) (nI m) A J < 0 ↔ F_X12_wayIn (nI f) (nI s) (nI m) B J' = -1) ∧ (nm ≤ m → F_X5_wayIn p (nI s) (nI m) A J < 0) := by
  have k := h.2.2.2.1 s m hs hm
  rw [way_c (by omega) hm, way_m hf (by omega) hm, ← k.1]
  refine ⟨rfl, m1_nn (k.2.imp id And.left), fun z => ?_⟩
  rw [k.2.resolve_right (fun y => by omega)]
  decide
theorem SCL.sn {R : Nat → Int32 → Int32 → Prop} {p f nm ns m : Nat} {A B : SI} {JA : SJ} (h : SCL R p f nm ns A JA B) (hf : f ≤ 22) (hm : m < 6) : atF (A (p + 5)) 6 (nI m) = B 160 (((6 : Int32) * nI f) + nI m).toNatClampNeg ∧ (atF (A (p + 5)) 6 (nI m) < 0 ↔ B 160 (((6 : Int32) * nI f) + nI m).toNatClampNeg = -1) := by
  have k := h.2.2.2.2.1 m hm
  rw [atF_v hm (by omega), cel6 hf hm, ← k.1.1]
  exact ⟨rfl, m1_nn k.2.1⟩
theorem times_vL {R : Nat → Int32 → Int32 → Prop} {p f nm ns m : Nat} {a : Int32} {A B : SI} {JA J J' : SJ} (h : SCL R p f nm ns A JA B) (c : CN nm ns A B) (hf : f ≤ 22) (hm : m < 6) : F_X5_filmedWith p (nI m) a A J = F_X12_timesOf (nI f) (nI m) a B J' := by
  obtain ⟨_, hn, _, _, _, cs⟩ := c
  unfold F_X5_filmedWith F_X5_filmedWith_l5 F_X12_timesOf F_X12_timesOf_l6
  rw [cs, nI_clamp (by omega)]
  refine itN_cut hn (fun i hi s => ?_) (fun i h1 h2 s => ?_)
  · unfold B_X5_filmedWith_l5 B_X12_timesOf_l6
    rw [atF_v (show i < 8 by omega) (by omega)]
    exact ife Iff.rfl (fun _ => rfl) (fun _ => ife (h.dn hf (by omega)) (fun _ => rfl) (fun _ => ife (h.wn hn hf hi hm).2.1 (fun _ => rfl) (fun _ => rfl)))
  · unfold B_X5_filmedWith_l5
    rw [atF_v h2 (by omega), if_pos (((h.2.2.1 i h2).2).resolve_right (fun y => by omega)), ite_self]
    exact Int32.add_zero _
theorem clash_vL {R : Nat → Int32 → Int32 → Prop} {p f nm ns s : Nat} {A B : SI} {JA J J' : SJ} (h : SCL R p f nm ns A JA B) (c : CN nm ns A B) (hf : f ≤ 22) (hs : s < ns) : F_X12_clashesOf (nI f) (nI s) B J' = if A (p + 2) s = 0 then 0 else F_X5_clashing p (nI s) A J := by
  obtain ⟨hm, hn, _, _, cm, _⟩ := c
  have dn := h.dn (J := J') hf (show s < 8 by omega)
  unfold F_X12_clashesOf F_X12_clashesOf_l5
  by_cases z : A (p + 2) s = 0
  · rw [if_pos z]
    refine itN_inv (P := fun x => x = 0) rfl (fun i x _ q => ?_)
    unfold B_X12_clashesOf_l5 F_X12_doesClash
    rw [if_pos (dn.mp z), if_pos rfl, q]
    rfl
  · rw [if_neg z, cm, nI_clamp (by omega)]
    unfold F_X5_clashing F_X5_clashing_l4
    symm
    refine itN_cut hm (fun i hi x => ?_) (fun i h1 h2 x => ?_)
    · have w := h.wn (J := J) (J' := J') hn hf hs (show i < 6 by omega)
      have sd := h.sn hf (show i < 6 by omega)
      unfold B_X5_clashing_l4 B_X12_clashesOf_l5 F_X12_doesClash
      rw [if_neg (fun y => z (dn.mpr y))]
      by_cases c1 : F_X5_wayIn p (nI s) (nI i) A J < 0
      · rw [if_pos c1, if_pos (w.2.1.mp c1), if_pos rfl]
      · rw [if_neg c1, if_neg (fun y => c1 (w.2.1.mpr y))]
        by_cases c2 : atF (A (p + 5)) 6 (nI i) < 0
        · rw [if_pos c2, if_pos (sd.2.mp c2), if_pos rfl]
        · rw [if_neg c2, if_neg (fun y => c2 (sd.2.mpr y)), ← w.1, ← sd.1]
          by_cases c3 : F_X5_wayIn p (nI s) (nI i) A J = atF (A (p + 5)) 6 (nI i)
          · rw [if_pos c3, if_pos c3.symm, if_pos rfl]
          · rw [if_neg c3, if_neg (show ¬ atF (A (p + 5)) 6 (nI i) = F_X5_wayIn p (nI s) (nI i) A J from fun y => c3 y.symm), if_neg (show ¬ (1 : Int32) = 0 by decide)]
    · unfold B_X5_clashing_l4
      rw [if_pos ((h.wn (J := J) (J' := J') hn hf hs h2).2.2 h1)]
      exact Int32.add_zero _
theorem clashes_vL {R : Nat → Int32 → Int32 → Prop} {p f nm ns : Nat} {A B : SI} {JA J J' : SJ} (h : SCL R p f nm ns A JA B) (c : CN nm ns A B) (hf : f ≤ 22) : F_X5_clashCount p A J = F_X12_clashesAll (nI f) B J' := by
  have c' := c
  obtain ⟨_, hn, _, _, _, cs⟩ := c'
  unfold F_X5_clashCount F_X5_clashCount_l4 F_X12_clashesAll F_X12_clashesAll_l4
  rw [cs, nI_clamp (by omega)]
  refine itN_cut hn (fun i hi s => ?_) (fun i h1 h2 s => ?_)
  · unfold B_X5_clashCount_l4 B_X12_clashesAll_l4
    rw [atF_v (show i < 8 by omega) (by omega), clash_vL (J := J) h c hf hi]
    by_cases z : A (p + 2) i = 0
    · rw [if_pos z, if_pos z]
    · rw [if_neg z, if_neg z]
  · unfold B_X5_clashCount_l4
    rw [atF_v h2 (by omega), if_pos (((h.2.2.1 i h2).2).resolve_right (fun y => by omega))]
    exact Int32.add_zero _
theorem filmed_vL {R : Nat → Int32 → Int32 → Prop} {p f nm ns : Nat} {A B : SI} {JA J J' : SJ} (h : SCL R p f nm ns A JA B) (hf : f ≤ 22) : F_X5_filmedCount p A J = F_X12_sumOf 163 184 (nI f) B J' := by
  unfold F_X5_filmedCount F_X5_filmedCount_l4 F_X12_sumOf F_X12_sumOf_l5
  refine itN_cg 8 (fun i hi s => ?_)
  unfold B_X5_filmedCount_l4 B_X12_sumOf_l5
  rw [atF_v hi (by omega), cel8 hf hi, (h.2.2.1 i hi).1.2.1]
theorem agains_vL {R : Nat → Int32 → Int32 → Prop} {p f nm ns : Nat} {A B : SI} {JA J' : SJ} (h : SCL R p f nm ns A JA B) (hf : f ≤ 22) : A p 3 = F_X12_sumOf 164 184 (nI f) B J' := by
  rw [h.2.1]
  unfold F_X12_sumOf F_X12_sumOf_l5
  refine itN_cg 8 (fun i hi s => ?_)
  unfold B_X12_sumOf_l5
  rw [cel8 hf hi]
theorem shot_vL {R : Nat → Int32 → Int32 → Prop} {p f nm ns s : Nat} {A B : SI} {JA J J' : SJ} (h : SCL R p f nm ns A JA B) (c : CN nm ns A B) (hf : f ≤ 22) (hs : s < ns) : F_X12_callsShot_l8 (nI f) (nI s) B J' (0, 0) = (F_X5_givenCount p A J, F_X5_marksIn p (nI s) A J) := by
  obtain ⟨hm, hn, _, _, cm, _⟩ := c
  have e1 : F_X5_givenCount p A J = itN (B_X5_givenCount_l4 p A J) nm 0 := by
    unfold F_X5_givenCount F_X5_givenCount_l4
    refine itN_cut hm (fun _ _ _ => rfl) (fun i h1 h2 x => ?_)
    unfold B_X5_givenCount_l4
    rw [atF_v h2 (by omega), (h.2.2.2.2.1 i h2).2.2 h1]
    exact Int32.add_zero _
  have e2 : F_X5_marksIn p (nI s) A J = itN (B_X5_marksIn_l4 p (nI s) A J) nm 0 := by
    unfold F_X5_marksIn F_X5_marksIn_l4
    refine itN_cut hm (fun _ _ _ => rfl) (fun i h1 h2 x => ?_)
    unfold B_X5_marksIn_l4
    rw [if_pos ((h.wn (J := J) (J' := J') hn hf hs h2).2.2 h1)]
    exact Int32.add_zero _
  rw [e1, e2]
  unfold F_X12_callsShot_l8
  rw [cm, nI_clamp (by omega)]
  have k : ∀ n, n ≤ nm → itN (B_X12_callsShot_l8 (nI f) (nI s) B J') n (0, 0) = (itN (B_X5_givenCount_l4 p A J) n 0, itN (B_X5_marksIn_l4 p (nI s) A J) n 0) := by
    intro n
    induction n with
    | zero => intro _; rw [itN_0, itN_0, itN_0]
    | succ n ih =>
      intro q
      rw [itN_s, itN_s, itN_s, ih (by omega)]
      have w := h.wn (J := J) (J' := J') hn hf hs (show n < 6 by omega)
      unfold B_X12_callsShot_l8 B_X5_givenCount_l4 B_X5_marksIn_l4
      rw [atF_v (show n < 6 by omega) (by omega), cel6 hf (show n < 6 by omega), (h.2.2.2.2.1 n (by omega)).1.2]
      by_cases c1 : F_X5_wayIn p (nI s) (nI n) A J < 0
      · rw [if_pos c1, if_pos (w.2.1.mp c1)]
      · rw [if_neg c1, if_neg (fun y => c1 (w.2.1.mpr y))]
  exact k nm (Nat.le_refl _)
theorem brk_vL {R : Nat → Int32 → Int32 → Prop} {p f nm ns s : Nat} {A B : SI} {JA J J' : SJ} (h : SCL R p f nm ns A JA B) (c : CN nm ns A B) (hf : f ≤ 22) (hs : s < 8) : F_X5_breaksBehind p (nI s) A J = F_X12_breaksOf (nI f) (nI s) B J' := by
  obtain ⟨hm, hn, _, _, cm, cs⟩ := c
  unfold F_X5_breaksBehind F_X12_breaksOf
  rw [cs, nI_1, atF_v hs (by omega)]
  by_cases z : ns ≤ s + 1
  · rw [if_pos (nI_le z (by omega))]
    have z1 : atF (A (p + 2)) 8 (nI (s + 1)) = 0 := by
      by_cases y : s + 1 < 8
      · rw [atF_v y (by omega)]
        exact ((h.2.2.1 (s + 1) y).2).resolve_right (fun x => by omega)
      · unfold atF
        rw [if_neg (nI_pos (by omega)), if_pos (nI_le (by omega) (by omega))]
    rw [if_pos z1, ite_self]
  · rw [if_neg (nI_ge (by omega) (by omega)), atF_v (show s + 1 < 8 by omega) (by omega)]
    refine ife (h.dn hf (by omega)) (fun _ => rfl) (fun _ => ife (h.dn hf (by omega)) (fun _ => rfl) (fun _ => ?_))
    unfold F_X5_breaksBehind_l28 F_X12_breaksOf_l39
    rw [cm, nI_clamp (by omega)]
    refine itN_cut hm (fun i hi x => ?_) (fun i h1 h2 x => ?_)
    · have w := h.wn (J := J) (J' := J') (s := s) hn hf (by omega) (show i < 6 by omega)
      have w2 := h.wn (J := J) (J' := J') (s := s + 1) hn hf (by omega) (show i < 6 by omega)
      unfold B_X5_breaksBehind_l28 B_X12_breaksOf_l39
      rw [nI_1]
      exact ife w.2.1 (fun _ => rfl) (fun _ => ife w2.2.1 (fun _ => rfl) (fun _ => ife (by rw [w.1, w2.1]) (fun _ => rfl) (fun _ => rfl)))
    · unfold B_X5_breaksBehind_l28
      rw [if_pos ((h.wn (J := J) (J' := J') (s := s) hn hf (by omega) h2).2.2 h1)]
      exact Int32.add_zero _
theorem breaks_vL {R : Nat → Int32 → Int32 → Prop} {p f nm ns : Nat} {A B : SI} {JA J J' : SJ} (h : SCL R p f nm ns A JA B) (c : CN nm ns A B) (hf : f ≤ 22) : F_X5_breakCount p A J = F_X12_breaksAll (nI f) B J' := by
  have c' := c
  obtain ⟨_, hn, _, _, _, cs⟩ := c'
  have z : ∀ i, i < 8 → ns ≤ i + 1 → F_X12_breaksOf (nI f) (nI i) B J' = 0 := fun i hi q => by
    unfold F_X12_breaksOf
    rw [cs, nI_1, if_pos (nI_le q (by omega))]
  have e8 : F_X5_breakCount p A J = itN (B_X5_breakCount_l4 p A J) 8 0 := by
    unfold F_X5_breakCount F_X5_breakCount_l4
    have k : itN (B_X5_breakCount_l4 p A J) 8 0 = B_X5_breakCount_l4 p A J 7 (itN (B_X5_breakCount_l4 p A J) 7 0) := itN_s _ 7 _
    rw [k]
    show itN (B_X5_breakCount_l4 p A J) 7 0 = itN (B_X5_breakCount_l4 p A J) 7 0 + F_X5_breaksBehind p (nI 7) A J
    rw [brk_vL (J := J) (J' := J') h c hf (show 7 < 8 by omega), z 7 (by omega) (by omega)]
    exact (Int32.add_zero _).symm
  rw [e8]
  unfold F_X12_breaksAll F_X12_breaksAll_l4
  rw [cs, nI_clamp (by omega)]
  refine itN_cut hn (fun i hi s => ?_) (fun i h1 h2 s => ?_)
  · unfold B_X5_breakCount_l4 B_X12_breaksAll_l4
    rw [brk_vL (J := J) (J' := J') h c hf (by omega)]
  · unfold B_X5_breakCount_l4
    rw [brk_vL (J := J) (J' := J') h c hf h2, z i h2 (by omega)]
    exact Int32.add_zero _
theorem away_vL {R : Nat → Int32 → Int32 → Prop} {b : Int32} {f nm ns np : Nat} {A B : SI} {JA J' : SJ} (h : SCL R 105 f nm ns A JA B) (x : DX b nm ns np A B) (hf : f ≤ 22) : F_X0_isAway A JA = F_X12_isAway (nI f) b B J' ∧ SCL R 105 f nm ns A (FJ_X0_isAway A JA) (FI_X12_isAway (nI f) b B J') ∧ (∀ a c, ¬ (a = 105 ∧ c = 6) → FJ_X0_isAway A JA a c = JA a c) ∧ FS f B (FI_X12_isAway (nI f) b B J') := by
  obtain ⟨⟨_, hn, _⟩, _, t, _, g1, _⟩ := x
  have cv := cold_v (d := B 154 f) (J := JA) (J' := J') t.2.2.2.2.1
  have ill := t.2.2.2.2.2.2.1
  have rf : SCL R 105 f nm ns A JA B := h
  obtain ⟨iv, hiv, ei⟩ := ill.2.n
  have ei2 : B 132 6 = nI iv := ill.1.symm.trans ei
  obtain ⟨d, hd, d1, d2⟩ := lcg_v (B 155 f)
  have e0 := h.1.1
  have e6 := h.1.2.2.2.2.2
  have sI : S1_X12_isAway (nI f) b B J' = u2 B 155 f (nI d) := by
    unfold S1_X12_isAway
    rw [nI_clamp (by omega), d1]
  have jN : ((JA 105 6 * 1103515245 + 12345) &&& 2147483647 : Int64) = lN d := by rw [e6]; exact d2
  have moved : SCL R 105 f nm ns A (u2 JA 105 6 (lN d)) (u2 B 155 f (nI d)) := by
    obtain ⟨⟨h0, h1, h2, h4, h5, h6⟩, h3, hs, hw, hm, hq⟩ := h
    refine ⟨⟨h0.trans (u2_n _ _ (by omega)).symm, h1.trans (u2_n _ _ (by omega)).symm, h2.trans (u2_n _ _ (by omega)).symm, h4.trans (u2_n _ _ (by omega)).symm, h5.trans (u2_n _ _ (by omega)).symm, ?_⟩, ?_, fun s z => ?_, fun s m z y => ?_, fun m z => ?_, fun q z => ?_⟩
    · rw [u2_s, u2_s, nI_l hd]
    · rw [h3]
      exact itN_cg 8 (fun i hi s => by rw [u2_n _ _ (by omega)])
    · rw [u2_n _ _ (by omega), u2_n _ _ (by omega), u2_n _ _ (by omega)]; exact hs s z
    · rw [u2_n _ _ (by omega)]; exact hw s m z y
    · rw [u2_n _ _ (by omega), u2_n _ _ (by omega)]; exact hm m z
    · rw [u2_n _ _ (by omega), u2_n _ _ (by omega)]; exact hq q z
  have s2 : S2_X12_isAway (nI f) b B J' = nI (d / 65536 % 100) := by
    unfold S2_X12_isAway
    rw [sI, nI_clamp (by omega), u2_s, pk_shrN hd (16 &&& 31) 16 (by decide)]
    exact pk_rem (d := 100) (by omega) (by omega) (by omega)
  have s1 : S1_X0_isAway A JA = lN (d / 65536 % 100) := by
    unfold S1_X0_isAway
    rw [u2_s, jN]
    have q : lN d / 65536 = lN (d / 65536) := pk_lDiv (b := 65536) (by omega) (by omega) (by omega)
    rw [q]
    exact pk_lRem (b := 100) (by omega) (by omega) (by omega)
  have cmp : (0 : Int32) ≤ lg_cmp (S1_X0_isAway A JA) ((A 2 7).toInt64) ↔ B 132 6 ≤ S2_X12_isAway (nI f) b B J' := by
    rw [lg_cmp_ge, s1, s2, ei, ei2, nI_l (by omega), pk_lLE (by omega) (by omega), nI_leI (by omega) (by omega)]
  have fsm : FS f B (u2 B 155 f (nI d)) := (FS.rf f B).u (in1 (by omega))
  unfold F_X0_isAway F_X12_isAway FJ_X0_isAway FI_X12_isAway
  rw [nI_clamp (show f < 2 ^ 31 by omega), e0, cv, jN, sI]
  rcases g1 with ⟨m3, g59⟩ | ⟨g59, g⟩
  · rw [m3, if_neg (show ¬ (3 : Int32) = 2 by decide), if_neg (show ¬ (3 : Int32) = 2 by decide), if_pos (show (3 : Int32) = 3 from rfl), if_pos (show (3 : Int32) = 3 from rfl), if_neg g59, if_neg g59]
    exact ⟨rfl, h, fun _ _ _ => rfl, FS.rf f B⟩
  · rw [if_pos g59, if_pos g59]
    rcases g with ⟨m2, g55⟩ | ⟨m0, g55, b0⟩ | ⟨m1, g55, b1⟩
    · rw [m2, if_pos (show (2 : Int32) = 2 from rfl), if_pos (show (2 : Int32) = 2 from rfl), if_neg (show ¬ (2 : Int32) = 3 by decide), if_neg (show ¬ (2 : Int32) = 3 by decide), if_pos g55, if_pos g55]
      exact ⟨rfl, h, fun _ _ _ => rfl, FS.rf f B⟩
    · rw [m0, if_neg (show ¬ (0 : Int32) = 2 by decide), if_neg (show ¬ (0 : Int32) = 2 by decide), if_neg (show ¬ (0 : Int32) = 3 by decide), if_neg (show ¬ (0 : Int32) = 3 by decide), if_neg g55, if_neg g55]
      by_cases k : F_X12_isCold (B 154 f) B J' = 0
      · rw [if_pos k, if_pos k, if_pos k, if_pos k, if_pos (show (0 : Int32) = 0 from rfl), if_pos (show (0 : Int32) = 0 from rfl), if_pos b0, if_pos b0, ei, ei2, ite_self, ite_self]
        exact ⟨rfl, h, fun _ _ _ => rfl, FS.rf f B⟩
      · rw [if_neg k, if_neg k, if_neg k, if_neg k]
        exact ⟨rfl, h, fun _ _ _ => rfl, FS.rf f B⟩
    · rw [m1, if_neg (show ¬ (1 : Int32) = 2 by decide), if_neg (show ¬ (1 : Int32) = 2 by decide), if_neg (show ¬ (1 : Int32) = 3 by decide), if_neg (show ¬ (1 : Int32) = 3 by decide), if_neg g55, if_neg g55]
      by_cases k : F_X12_isCold (B 154 f) B J' = 0
      · rw [if_pos k, if_pos k, if_pos k, if_pos k, if_neg (show ¬ (1 : Int32) = 0 by decide), if_neg (show ¬ (1 : Int32) = 0 by decide), if_neg b1, if_neg b1]
        by_cases i0 : iv = 0
        · have q1 : A 2 7 ≤ 0 := by rw [ei, i0]; decide
          have q2 : B 132 6 = 0 := by rw [ei2, i0]; rfl
          rw [if_pos q1, if_pos q1, if_pos q2, if_pos q2, ei, ei2, ite_self, ite_self]
          exact ⟨rfl, h, fun _ _ _ => rfl, FS.rf f B⟩
        · have q1 : ¬ A 2 7 ≤ 0 := by rw [ei]; exact nI_ge (a := 0) (by omega) (by omega)
          have q2 : ¬ B 132 6 = 0 := by rw [ei2]; exact fun y => i0 ((nI_eq (b := 0) (by omega) (by omega)).mp y)
          rw [if_neg q1, if_neg q1, if_neg q2, if_neg q2]
          by_cases i1 : iv = 100
          · have q3 : ¬ A 2 7 < 100 := by rw [ei, i1]; decide
            have q4 : B 132 6 = 100 := by rw [ei2, i1]; rfl
            rw [if_neg q3, if_neg q3, if_pos q4, if_pos q4, ei, ei2, ite_self, ite_self]
            exact ⟨rfl, h, fun _ _ _ => rfl, FS.rf f B⟩
          · have q3 : A 2 7 < 100 := by rw [ei]; exact (nI_ltI (b := 100) (by omega) (by omega)).mpr (by omega)
            have q4 : ¬ B 132 6 = 100 := by rw [ei2]; exact fun y => i1 ((nI_eq (b := 100) (by omega) (by omega)).mp y)
            rw [if_pos q3, if_pos q3, if_neg q4, if_neg q4, ite_self, ite_self]
            exact ⟨ife cmp (fun _ => rfl) (fun _ => rfl), moved, fun a c z => u2_n _ _ z, fsm⟩
      · rw [if_neg k, if_neg k, if_neg k, if_neg k]
        exact ⟨rfl, h, fun _ _ _ => rfl, FS.rf f B⟩
theorem SCL.w_day {R : Nat → Int32 → Int32 → Prop} {p f nm ns : Nat} {v : Int32} {A B : SI} {JA : SJ} (h : SCL R p f nm ns A JA B) : SCL R p f nm ns (u2 A p 0 v) JA (u2 B 154 f v) := by
  have eA : ∀ a c, ¬ (a = p ∧ c = 0) → u2 A p 0 v a c = A a c := fun a c z => u2_n _ _ z
  have eB : ∀ a c, ¬ (a = 154 ∧ c = f) → u2 B 154 f v a c = B a c := fun a c z => u2_n _ _ z
  obtain ⟨⟨h0, h1, h2, h4, h5, h6⟩, h3, hs, hw, hm, hq⟩ := h
  exact ⟨⟨(u2_s _ _ _ _).trans (u2_s _ _ _ _).symm, ((eA _ _ (by omega)).trans h1).trans (eB _ _ (by omega)).symm, ((eA _ _ (by omega)).trans h2).trans (eB _ _ (by omega)).symm, ((eA _ _ (by omega)).trans h4).trans (eB _ _ (by omega)).symm, ((eA _ _ (by omega)).trans h5).trans (eB _ _ (by omega)).symm, h6.trans (congrArg Int32.toInt64 (eB _ _ (by omega)).symm)⟩, (eA _ _ (by omega)).trans (h3.trans (itN_cg 8 (fun i hi s => by rw [eB 164 _ (by omega)]))), fun s z => by rw [eA (p + 1) s (by omega), eA (p + 2) s (by omega), eA (p + 3) s (by omega), eB 162 _ (by omega), eB 163 _ (by omega), eB 164 _ (by omega)]; exact hs s z, fun s m z y => by rw [eA (p + 4) _ (by omega), eB 165 _ (by omega)]; exact hw s m z y, fun m z => by rw [eA (p + 5) m (by omega), eA (p + 6) m (by omega), eB 160 _ (by omega), eB 161 _ (by omega)]; exact hm m z, fun q z => by rw [eA (p + 7) q (by omega), eA (p + 8) q (by omega), eB 166 _ (by omega), eB 167 _ (by omega)]; exact hq q z⟩
theorem SCL.w_purse {R : Nat → Int32 → Int32 → Prop} {p f nm ns : Nat} {v : Int32} {A B : SI} {JA : SJ} (h : SCL R p f nm ns A JA B) : SCL R p f nm ns (u2 A p 1 v) JA (u2 B 156 f v) := by
  have eA : ∀ a c, ¬ (a = p ∧ c = 1) → u2 A p 1 v a c = A a c := fun a c z => u2_n _ _ z
  have eB : ∀ a c, ¬ (a = 156 ∧ c = f) → u2 B 156 f v a c = B a c := fun a c z => u2_n _ _ z
  obtain ⟨⟨h0, h1, h2, h4, h5, h6⟩, h3, hs, hw, hm, hq⟩ := h
  exact ⟨⟨((eA _ _ (by omega)).trans h0).trans (eB _ _ (by omega)).symm, (u2_s _ _ _ _).trans (u2_s _ _ _ _).symm, ((eA _ _ (by omega)).trans h2).trans (eB _ _ (by omega)).symm, ((eA _ _ (by omega)).trans h4).trans (eB _ _ (by omega)).symm, ((eA _ _ (by omega)).trans h5).trans (eB _ _ (by omega)).symm, h6.trans (congrArg Int32.toInt64 (eB _ _ (by omega)).symm)⟩, (eA _ _ (by omega)).trans (h3.trans (itN_cg 8 (fun i hi s => by rw [eB 164 _ (by omega)]))), fun s z => by rw [eA (p + 1) s (by omega), eA (p + 2) s (by omega), eA (p + 3) s (by omega), eB 162 _ (by omega), eB 163 _ (by omega), eB 164 _ (by omega)]; exact hs s z, fun s m z y => by rw [eA (p + 4) _ (by omega), eB 165 _ (by omega)]; exact hw s m z y, fun m z => by rw [eA (p + 5) m (by omega), eA (p + 6) m (by omega), eB 160 _ (by omega), eB 161 _ (by omega)]; exact hm m z, fun q z => by rw [eA (p + 7) q (by omega), eA (p + 8) q (by omega), eB 166 _ (by omega), eB 167 _ (by omega)]; exact hq q z⟩
theorem SCL.w_chg {R : Nat → Int32 → Int32 → Prop} {p f nm ns : Nat} {v : Int32} {A B : SI} {JA : SJ} (h : SCL R p f nm ns A JA B) : SCL R p f nm ns (u2 A p 2 v) JA (u2 B 157 f v) := by
  have eA : ∀ a c, ¬ (a = p ∧ c = 2) → u2 A p 2 v a c = A a c := fun a c z => u2_n _ _ z
  have eB : ∀ a c, ¬ (a = 157 ∧ c = f) → u2 B 157 f v a c = B a c := fun a c z => u2_n _ _ z
  obtain ⟨⟨h0, h1, h2, h4, h5, h6⟩, h3, hs, hw, hm, hq⟩ := h
  exact ⟨⟨((eA _ _ (by omega)).trans h0).trans (eB _ _ (by omega)).symm, ((eA _ _ (by omega)).trans h1).trans (eB _ _ (by omega)).symm, (u2_s _ _ _ _).trans (u2_s _ _ _ _).symm, ((eA _ _ (by omega)).trans h4).trans (eB _ _ (by omega)).symm, ((eA _ _ (by omega)).trans h5).trans (eB _ _ (by omega)).symm, h6.trans (congrArg Int32.toInt64 (eB _ _ (by omega)).symm)⟩, (eA _ _ (by omega)).trans (h3.trans (itN_cg 8 (fun i hi s => by rw [eB 164 _ (by omega)]))), fun s z => by rw [eA (p + 1) s (by omega), eA (p + 2) s (by omega), eA (p + 3) s (by omega), eB 162 _ (by omega), eB 163 _ (by omega), eB 164 _ (by omega)]; exact hs s z, fun s m z y => by rw [eA (p + 4) _ (by omega), eB 165 _ (by omega)]; exact hw s m z y, fun m z => by rw [eA (p + 5) m (by omega), eA (p + 6) m (by omega), eB 160 _ (by omega), eB 161 _ (by omega)]; exact hm m z, fun q z => by rw [eA (p + 7) q (by omega), eA (p + 8) q (by omega), eB 166 _ (by omega), eB 167 _ (by omega)]; exact hq q z⟩
theorem SCL.w_adays {R : Nat → Int32 → Int32 → Prop} {p f nm ns : Nat} {v : Int32} {A B : SI} {JA : SJ} (h : SCL R p f nm ns A JA B) : SCL R p f nm ns (u2 A p 4 v) JA (u2 B 159 f v) := by
  have eA : ∀ a c, ¬ (a = p ∧ c = 4) → u2 A p 4 v a c = A a c := fun a c z => u2_n _ _ z
  have eB : ∀ a c, ¬ (a = 159 ∧ c = f) → u2 B 159 f v a c = B a c := fun a c z => u2_n _ _ z
  obtain ⟨⟨h0, h1, h2, h4, h5, h6⟩, h3, hs, hw, hm, hq⟩ := h
  exact ⟨⟨((eA _ _ (by omega)).trans h0).trans (eB _ _ (by omega)).symm, ((eA _ _ (by omega)).trans h1).trans (eB _ _ (by omega)).symm, ((eA _ _ (by omega)).trans h2).trans (eB _ _ (by omega)).symm, (u2_s _ _ _ _).trans (u2_s _ _ _ _).symm, ((eA _ _ (by omega)).trans h5).trans (eB _ _ (by omega)).symm, h6.trans (congrArg Int32.toInt64 (eB _ _ (by omega)).symm)⟩, (eA _ _ (by omega)).trans (h3.trans (itN_cg 8 (fun i hi s => by rw [eB 164 _ (by omega)]))), fun s z => by rw [eA (p + 1) s (by omega), eA (p + 2) s (by omega), eA (p + 3) s (by omega), eB 162 _ (by omega), eB 163 _ (by omega), eB 164 _ (by omega)]; exact hs s z, fun s m z y => by rw [eA (p + 4) _ (by omega), eB 165 _ (by omega)]; exact hw s m z y, fun m z => by rw [eA (p + 5) m (by omega), eA (p + 6) m (by omega), eB 160 _ (by omega), eB 161 _ (by omega)]; exact hm m z, fun q z => by rw [eA (p + 7) q (by omega), eA (p + 8) q (by omega), eB 166 _ (by omega), eB 167 _ (by omega)]; exact hq q z⟩
theorem SCL.w_arow {R : Nat → Int32 → Int32 → Prop} {p f nm ns : Nat} {v : Int32} {A B : SI} {JA : SJ} (h : SCL R p f nm ns A JA B) : SCL R p f nm ns (u2 A p 5 v) JA (u2 B 158 f v) := by
  have eA : ∀ a c, ¬ (a = p ∧ c = 5) → u2 A p 5 v a c = A a c := fun a c z => u2_n _ _ z
  have eB : ∀ a c, ¬ (a = 158 ∧ c = f) → u2 B 158 f v a c = B a c := fun a c z => u2_n _ _ z
  obtain ⟨⟨h0, h1, h2, h4, h5, h6⟩, h3, hs, hw, hm, hq⟩ := h
  exact ⟨⟨((eA _ _ (by omega)).trans h0).trans (eB _ _ (by omega)).symm, ((eA _ _ (by omega)).trans h1).trans (eB _ _ (by omega)).symm, ((eA _ _ (by omega)).trans h2).trans (eB _ _ (by omega)).symm, ((eA _ _ (by omega)).trans h4).trans (eB _ _ (by omega)).symm, (u2_s _ _ _ _).trans (u2_s _ _ _ _).symm, h6.trans (congrArg Int32.toInt64 (eB _ _ (by omega)).symm)⟩, (eA _ _ (by omega)).trans (h3.trans (itN_cg 8 (fun i hi s => by rw [eB 164 _ (by omega)]))), fun s z => by rw [eA (p + 1) s (by omega), eA (p + 2) s (by omega), eA (p + 3) s (by omega), eB 162 _ (by omega), eB 163 _ (by omega), eB 164 _ (by omega)]; exact hs s z, fun s m z y => by rw [eA (p + 4) _ (by omega), eB 165 _ (by omega)]; exact hw s m z y, fun m z => by rw [eA (p + 5) m (by omega), eA (p + 6) m (by omega), eB 160 _ (by omega), eB 161 _ (by omega)]; exact hm m z, fun q z => by rw [eA (p + 7) q (by omega), eA (p + 8) q (by omega), eB 166 _ (by omega), eB 167 _ (by omega)]; exact hq q z⟩
theorem SCL.w_sday {R : Nat → Int32 → Int32 → Prop} {s0 : Nat} {p f nm ns : Nat} {v : Int32} {A B : SI} {JA : SJ} (h : SCL R p f nm ns A JA B) : SCL R p f nm ns (u2 A (p + 1) s0 v) JA (u2 B 162 (8 * f + s0) v) := by
  have eA : ∀ a c, ¬ (a = (p + 1) ∧ c = s0) → u2 A (p + 1) s0 v a c = A a c := fun a c z => u2_n _ _ z
  have eB : ∀ a c, ¬ (a = 162 ∧ c = (8 * f + s0)) → u2 B 162 (8 * f + s0) v a c = B a c := fun a c z => u2_n _ _ z
  obtain ⟨⟨h0, h1, h2, h4, h5, h6⟩, h3, hs, hw, hm, hq⟩ := h
  exact ⟨⟨((eA _ _ (by omega)).trans h0).trans (eB _ _ (by omega)).symm, ((eA _ _ (by omega)).trans h1).trans (eB _ _ (by omega)).symm, ((eA _ _ (by omega)).trans h2).trans (eB _ _ (by omega)).symm, ((eA _ _ (by omega)).trans h4).trans (eB _ _ (by omega)).symm, ((eA _ _ (by omega)).trans h5).trans (eB _ _ (by omega)).symm, h6.trans (congrArg Int32.toInt64 (eB _ _ (by omega)).symm)⟩, (eA _ _ (by omega)).trans (h3.trans (itN_cg 8 (fun i hi s => by rw [eB 164 _ (by omega)]))), fun s z => by
    by_cases y : s = s0
    · subst y
      obtain ⟨⟨k1, k2, k3⟩, k4⟩ := hs s z
      exact ⟨⟨(u2_s _ _ _ _).trans (u2_s _ _ _ _).symm, ((eA _ _ (by omega)).trans k2).trans (eB _ _ (by omega)).symm, ((eA _ _ (by omega)).trans k3).trans (eB _ _ (by omega)).symm⟩, by rw [eA (p + 2) s (by omega)]; exact k4⟩
    · rw [eA (p + 1) s (by omega), eA (p + 2) s (by omega), eA (p + 3) s (by omega), eB 162 _ (by omega), eB 163 _ (by omega), eB 164 _ (by omega)]; exact hs s z, fun s m z y => by rw [eA (p + 4) _ (by omega), eB 165 _ (by omega)]; exact hw s m z y, fun m z => by rw [eA (p + 5) m (by omega), eA (p + 6) m (by omega), eB 160 _ (by omega), eB 161 _ (by omega)]; exact hm m z, fun q z => by rw [eA (p + 7) q (by omega), eA (p + 8) q (by omega), eB 166 _ (by omega), eB 167 _ (by omega)]; exact hq q z⟩
theorem SCL.w_film {R : Nat → Int32 → Int32 → Prop} {s0 : Nat} {p f nm ns : Nat} {v : Int32} {A B : SI} {JA : SJ} (h : SCL R p f nm ns A JA B) (hv : v = 1) (h0s : s0 < ns) : SCL R p f nm ns (u2 A (p + 2) s0 v) JA (u2 B 163 (8 * f + s0) v) := by
  have eA : ∀ a c, ¬ (a = (p + 2) ∧ c = s0) → u2 A (p + 2) s0 v a c = A a c := fun a c z => u2_n _ _ z
  have eB : ∀ a c, ¬ (a = 163 ∧ c = (8 * f + s0)) → u2 B 163 (8 * f + s0) v a c = B a c := fun a c z => u2_n _ _ z
  obtain ⟨⟨h0, h1, h2, h4, h5, h6⟩, h3, hs, hw, hm, hq⟩ := h
  exact ⟨⟨((eA _ _ (by omega)).trans h0).trans (eB _ _ (by omega)).symm, ((eA _ _ (by omega)).trans h1).trans (eB _ _ (by omega)).symm, ((eA _ _ (by omega)).trans h2).trans (eB _ _ (by omega)).symm, ((eA _ _ (by omega)).trans h4).trans (eB _ _ (by omega)).symm, ((eA _ _ (by omega)).trans h5).trans (eB _ _ (by omega)).symm, h6.trans (congrArg Int32.toInt64 (eB _ _ (by omega)).symm)⟩, (eA _ _ (by omega)).trans (h3.trans (itN_cg 8 (fun i hi s => by rw [eB 164 _ (by omega)]))), fun s z => by
    by_cases y : s = s0
    · subst y
      obtain ⟨⟨k1, k2, k3⟩, k4⟩ := hs s z
      exact ⟨⟨((eA _ _ (by omega)).trans k1).trans (eB _ _ (by omega)).symm, (u2_s _ _ _ _).trans (u2_s _ _ _ _).symm, ((eA _ _ (by omega)).trans k3).trans (eB _ _ (by omega)).symm⟩, Or.inr ⟨(u2_s _ _ _ _).trans hv, h0s⟩⟩
    · rw [eA (p + 1) s (by omega), eA (p + 2) s (by omega), eA (p + 3) s (by omega), eB 162 _ (by omega), eB 163 _ (by omega), eB 164 _ (by omega)]; exact hs s z, fun s m z y => by rw [eA (p + 4) _ (by omega), eB 165 _ (by omega)]; exact hw s m z y, fun m z => by rw [eA (p + 5) m (by omega), eA (p + 6) m (by omega), eB 160 _ (by omega), eB 161 _ (by omega)]; exact hm m z, fun q z => by rw [eA (p + 7) q (by omega), eA (p + 8) q (by omega), eB 166 _ (by omega), eB 167 _ (by omega)]; exact hq q z⟩
theorem SCL.w_way {R : Nat → Int32 → Int32 → Prop} {s0 m0 : Nat} {p f nm ns : Nat} {v : Int32} {A B : SI} {JA : SJ} (h : SCL R p f nm ns A JA B) (hm0 : m0 < 6) (hv : v = -1 ∨ (inR v 6 ∧ m0 < nm)) : SCL R p f nm ns (u2 A (p + 4) (6 * s0 + m0) v) JA (u2 B 165 (48 * f + (6 * s0 + m0)) v) := by
  have eA : ∀ a c, ¬ (a = (p + 4) ∧ c = (6 * s0 + m0)) → u2 A (p + 4) (6 * s0 + m0) v a c = A a c := fun a c z => u2_n _ _ z
  have eB : ∀ a c, ¬ (a = 165 ∧ c = (48 * f + (6 * s0 + m0))) → u2 B 165 (48 * f + (6 * s0 + m0)) v a c = B a c := fun a c z => u2_n _ _ z
  obtain ⟨⟨h0, h1, h2, h4, h5, h6⟩, h3, hs, hw, hm, hq⟩ := h
  exact ⟨⟨((eA _ _ (by omega)).trans h0).trans (eB _ _ (by omega)).symm, ((eA _ _ (by omega)).trans h1).trans (eB _ _ (by omega)).symm, ((eA _ _ (by omega)).trans h2).trans (eB _ _ (by omega)).symm, ((eA _ _ (by omega)).trans h4).trans (eB _ _ (by omega)).symm, ((eA _ _ (by omega)).trans h5).trans (eB _ _ (by omega)).symm, h6.trans (congrArg Int32.toInt64 (eB _ _ (by omega)).symm)⟩, (eA _ _ (by omega)).trans (h3.trans (itN_cg 8 (fun i hi s => by rw [eB 164 _ (by omega)]))), fun s z => by rw [eA (p + 1) s (by omega), eA (p + 2) s (by omega), eA (p + 3) s (by omega), eB 162 _ (by omega), eB 163 _ (by omega), eB 164 _ (by omega)]; exact hs s z, fun s m z y => by
    by_cases x : 6 * s + m = 6 * s0 + m0
    · have es : s = s0 := by omega
      have em : m = m0 := by omega
      subst es em
      exact ⟨(u2_s _ _ _ _).trans (u2_s _ _ _ _).symm, by rw [u2_s]; exact hv⟩
    · rw [eA (p + 4) _ (by omega), eB 165 _ (by omega)]; exact hw s m z y, fun m z => by rw [eA (p + 5) m (by omega), eA (p + 6) m (by omega), eB 160 _ (by omega), eB 161 _ (by omega)]; exact hm m z, fun q z => by rw [eA (p + 7) q (by omega), eA (p + 8) q (by omega), eB 166 _ (by omega), eB 167 _ (by omega)]; exact hq q z⟩
theorem SCL.w_say {R : Nat → Int32 → Int32 → Prop} {m0 : Nat} {p f nm ns : Nat} {v : Int32} {A B : SI} {JA : SJ} (h : SCL R p f nm ns A JA B) (hv : v = -1 ∨ inR v 6) : SCL R p f nm ns (u2 A (p + 5) m0 v) JA (u2 B 160 (6 * f + m0) v) := by
  have eA : ∀ a c, ¬ (a = (p + 5) ∧ c = m0) → u2 A (p + 5) m0 v a c = A a c := fun a c z => u2_n _ _ z
  have eB : ∀ a c, ¬ (a = 160 ∧ c = (6 * f + m0)) → u2 B 160 (6 * f + m0) v a c = B a c := fun a c z => u2_n _ _ z
  obtain ⟨⟨h0, h1, h2, h4, h5, h6⟩, h3, hs, hw, hm, hq⟩ := h
  exact ⟨⟨((eA _ _ (by omega)).trans h0).trans (eB _ _ (by omega)).symm, ((eA _ _ (by omega)).trans h1).trans (eB _ _ (by omega)).symm, ((eA _ _ (by omega)).trans h2).trans (eB _ _ (by omega)).symm, ((eA _ _ (by omega)).trans h4).trans (eB _ _ (by omega)).symm, ((eA _ _ (by omega)).trans h5).trans (eB _ _ (by omega)).symm, h6.trans (congrArg Int32.toInt64 (eB _ _ (by omega)).symm)⟩, (eA _ _ (by omega)).trans (h3.trans (itN_cg 8 (fun i hi s => by rw [eB 164 _ (by omega)]))), fun s z => by rw [eA (p + 1) s (by omega), eA (p + 2) s (by omega), eA (p + 3) s (by omega), eB 162 _ (by omega), eB 163 _ (by omega), eB 164 _ (by omega)]; exact hs s z, fun s m z y => by rw [eA (p + 4) _ (by omega), eB 165 _ (by omega)]; exact hw s m z y, fun m z => by
    by_cases y : m = m0
    · subst y
      obtain ⟨⟨k1, k2⟩, k3, k4⟩ := hm m z
      exact ⟨⟨(u2_s _ _ _ _).trans (u2_s _ _ _ _).symm, ((eA _ _ (by omega)).trans k2).trans (eB _ _ (by omega)).symm⟩, by rw [u2_s]; exact hv, fun x => (eA _ _ (by omega)).trans (k4 x)⟩
    · rw [eA (p + 5) m (by omega), eA (p + 6) m (by omega), eB 160 _ (by omega), eB 161 _ (by omega)]; exact hm m z, fun q z => by rw [eA (p + 7) q (by omega), eA (p + 8) q (by omega), eB 166 _ (by omega), eB 167 _ (by omega)]; exact hq q z⟩
theorem SCL.w_given {R : Nat → Int32 → Int32 → Prop} {m0 : Nat} {p f nm ns : Nat} {v : Int32} {A B : SI} {JA : SJ} (h : SCL R p f nm ns A JA B) (hm0 : m0 < nm) : SCL R p f nm ns (u2 A (p + 6) m0 v) JA (u2 B 161 (6 * f + m0) v) := by
  have eA : ∀ a c, ¬ (a = (p + 6) ∧ c = m0) → u2 A (p + 6) m0 v a c = A a c := fun a c z => u2_n _ _ z
  have eB : ∀ a c, ¬ (a = 161 ∧ c = (6 * f + m0)) → u2 B 161 (6 * f + m0) v a c = B a c := fun a c z => u2_n _ _ z
  obtain ⟨⟨h0, h1, h2, h4, h5, h6⟩, h3, hs, hw, hm, hq⟩ := h
  exact ⟨⟨((eA _ _ (by omega)).trans h0).trans (eB _ _ (by omega)).symm, ((eA _ _ (by omega)).trans h1).trans (eB _ _ (by omega)).symm, ((eA _ _ (by omega)).trans h2).trans (eB _ _ (by omega)).symm, ((eA _ _ (by omega)).trans h4).trans (eB _ _ (by omega)).symm, ((eA _ _ (by omega)).trans h5).trans (eB _ _ (by omega)).symm, h6.trans (congrArg Int32.toInt64 (eB _ _ (by omega)).symm)⟩, (eA _ _ (by omega)).trans (h3.trans (itN_cg 8 (fun i hi s => by rw [eB 164 _ (by omega)]))), fun s z => by rw [eA (p + 1) s (by omega), eA (p + 2) s (by omega), eA (p + 3) s (by omega), eB 162 _ (by omega), eB 163 _ (by omega), eB 164 _ (by omega)]; exact hs s z, fun s m z y => by rw [eA (p + 4) _ (by omega), eB 165 _ (by omega)]; exact hw s m z y, fun m z => by
    by_cases y : m = m0
    · subst y
      obtain ⟨⟨k1, k2⟩, k3, k4⟩ := hm m z
      exact ⟨⟨((eA _ _ (by omega)).trans k1).trans (eB _ _ (by omega)).symm, (u2_s _ _ _ _).trans (u2_s _ _ _ _).symm⟩, by rw [eA (p + 5) m (by omega)]; exact k3, fun x => absurd x (by omega)⟩
    · rw [eA (p + 5) m (by omega), eA (p + 6) m (by omega), eB 160 _ (by omega), eB 161 _ (by omega)]; exact hm m z, fun q z => by rw [eA (p + 7) q (by omega), eA (p + 8) q (by omega), eB 166 _ (by omega), eB 167 _ (by omega)]; exact hq q z⟩
theorem SCL.w_left {R R' : Nat → Int32 → Int32 → Prop} {q0 : Nat} {p f nm ns : Nat} {v v' : Int32} {A B : SI} {JA : SJ} (h : SCL R p f nm ns A JA B) (hv : R' q0 v v') (ho : ∀ q a b, q < 4 → q ≠ q0 → R q a b → R' q a b) : SCL R' p f nm ns (u2 A (p + 7) q0 v) JA (u2 B 166 (4 * f + q0) v') := by
  have eA : ∀ a c, ¬ (a = (p + 7) ∧ c = q0) → u2 A (p + 7) q0 v a c = A a c := fun a c z => u2_n _ _ z
  have eB : ∀ a c, ¬ (a = 166 ∧ c = (4 * f + q0)) → u2 B 166 (4 * f + q0) v' a c = B a c := fun a c z => u2_n _ _ z
  obtain ⟨⟨h0, h1, h2, h4, h5, h6⟩, h3, hs, hw, hm, hq⟩ := h
  exact ⟨⟨((eA _ _ (by omega)).trans h0).trans (eB _ _ (by omega)).symm, ((eA _ _ (by omega)).trans h1).trans (eB _ _ (by omega)).symm, ((eA _ _ (by omega)).trans h2).trans (eB _ _ (by omega)).symm, ((eA _ _ (by omega)).trans h4).trans (eB _ _ (by omega)).symm, ((eA _ _ (by omega)).trans h5).trans (eB _ _ (by omega)).symm, h6.trans (congrArg Int32.toInt64 (eB _ _ (by omega)).symm)⟩, (eA _ _ (by omega)).trans (h3.trans (itN_cg 8 (fun i hi s => by rw [eB 164 _ (by omega)]))), fun s z => by rw [eA (p + 1) s (by omega), eA (p + 2) s (by omega), eA (p + 3) s (by omega), eB 162 _ (by omega), eB 163 _ (by omega), eB 164 _ (by omega)]; exact hs s z, fun s m z y => by rw [eA (p + 4) _ (by omega), eB 165 _ (by omega)]; exact hw s m z y, fun m z => by rw [eA (p + 5) m (by omega), eA (p + 6) m (by omega), eB 160 _ (by omega), eB 161 _ (by omega)]; exact hm m z, fun q z => by
    by_cases y : q = q0
    · subst y
      obtain ⟨⟨k1, k2⟩, k3⟩ := hq q z
      exact ⟨⟨by rw [u2_s, u2_s]; exact hv, ((eA _ _ (by omega)).trans k2).trans (eB _ _ (by omega)).symm⟩, trivial⟩
    · rw [eA (p + 7) q (by omega), eA (p + 8) q (by omega), eB 166 _ (by omega), eB 167 _ (by omega)]; exact ⟨⟨ho q _ _ z y (hq q z).1.1, (hq q z).1.2⟩, trivial⟩⟩
theorem SCL.w_gave {R : Nat → Int32 → Int32 → Prop} {q0 : Nat} {p f nm ns : Nat} {v : Int32} {A B : SI} {JA : SJ} (h : SCL R p f nm ns A JA B) : SCL R p f nm ns (u2 A (p + 8) q0 v) JA (u2 B 167 (4 * f + q0) v) := by
  have eA : ∀ a c, ¬ (a = (p + 8) ∧ c = q0) → u2 A (p + 8) q0 v a c = A a c := fun a c z => u2_n _ _ z
  have eB : ∀ a c, ¬ (a = 167 ∧ c = (4 * f + q0)) → u2 B 167 (4 * f + q0) v a c = B a c := fun a c z => u2_n _ _ z
  obtain ⟨⟨h0, h1, h2, h4, h5, h6⟩, h3, hs, hw, hm, hq⟩ := h
  exact ⟨⟨((eA _ _ (by omega)).trans h0).trans (eB _ _ (by omega)).symm, ((eA _ _ (by omega)).trans h1).trans (eB _ _ (by omega)).symm, ((eA _ _ (by omega)).trans h2).trans (eB _ _ (by omega)).symm, ((eA _ _ (by omega)).trans h4).trans (eB _ _ (by omega)).symm, ((eA _ _ (by omega)).trans h5).trans (eB _ _ (by omega)).symm, h6.trans (congrArg Int32.toInt64 (eB _ _ (by omega)).symm)⟩, (eA _ _ (by omega)).trans (h3.trans (itN_cg 8 (fun i hi s => by rw [eB 164 _ (by omega)]))), fun s z => by rw [eA (p + 1) s (by omega), eA (p + 2) s (by omega), eA (p + 3) s (by omega), eB 162 _ (by omega), eB 163 _ (by omega), eB 164 _ (by omega)]; exact hs s z, fun s m z y => by rw [eA (p + 4) _ (by omega), eB 165 _ (by omega)]; exact hw s m z y, fun m z => by rw [eA (p + 5) m (by omega), eA (p + 6) m (by omega), eB 160 _ (by omega), eB 161 _ (by omega)]; exact hm m z, fun q z => by
    by_cases y : q = q0
    · subst y
      obtain ⟨⟨k1, k2⟩, k3⟩ := hq q z
      exact ⟨⟨by rw [eA (p + 7) q (by omega), eB 166 _ (by omega)]; exact k1, (u2_s _ _ _ _).trans (u2_s _ _ _ _).symm⟩, trivial⟩
    · rw [eA (p + 7) q (by omega), eA (p + 8) q (by omega), eB 166 _ (by omega), eB 167 _ (by omega)]; exact hq q z⟩
theorem SCL.w_again {R : Nat → Int32 → Int32 → Prop} {p f nm ns s0 : Nat} {A B : SI} {JA : SJ} (h : SCL R p f nm ns A JA B) (h8 : s0 < 8) : SCL R p f nm ns (u2 (u2 A p 3 (A p 3 + 1)) (p + 3) s0 (A (p + 3) s0 + 1)) JA (u2 B 164 (8 * f + s0) (B 164 (8 * f + s0) + 1)) := by
  have eA : ∀ a c, ¬ (a = p ∧ c = 3) → ¬ (a = p + 3 ∧ c = s0) → u2 (u2 A p 3 (A p 3 + 1)) (p + 3) s0 (A (p + 3) s0 + 1) a c = A a c := fun a c z y => (u2_n _ _ y).trans (u2_n _ _ z)
  have eB : ∀ a c, ¬ (a = 164 ∧ c = 8 * f + s0) → u2 B 164 (8 * f + s0) (B 164 (8 * f + s0) + 1) a c = B a c := fun a c z => u2_n _ _ z
  obtain ⟨⟨h0, h1, h2, h4, h5, h6⟩, h3, hs, hw, hm, hq⟩ := h
  have up := sum_up (g := fun i => B 164 (8 * f + i)) (g' := fun i => u2 B 164 (8 * f + s0) (B 164 (8 * f + s0) + 1) 164 (8 * f + i)) (s0 := s0) (u2_s _ _ _ _) (fun i hi => eB _ _ (by omega)) 8
  refine ⟨⟨((eA _ _ (by omega) (by omega)).trans h0).trans (eB _ _ (by omega)).symm, ((eA _ _ (by omega) (by omega)).trans h1).trans (eB _ _ (by omega)).symm, ((eA _ _ (by omega) (by omega)).trans h2).trans (eB _ _ (by omega)).symm, ((eA _ _ (by omega) (by omega)).trans h4).trans (eB _ _ (by omega)).symm, ((eA _ _ (by omega) (by omega)).trans h5).trans (eB _ _ (by omega)).symm, h6.trans (congrArg Int32.toInt64 (eB _ _ (by omega)).symm)⟩, ?_, fun s z => ?_, fun s m z y => ?_, fun m z => ?_, fun q z => ?_⟩
  · rw [up, if_pos h8, u2_n _ _ (by omega), u2_s, h3]
  · obtain ⟨⟨k1, k2, k3⟩, k4⟩ := hs s z
    rw [eA (p + 1) s (by omega) (by omega), eA (p + 2) s (by omega) (by omega), eB 162 _ (by omega), eB 163 _ (by omega)]
    refine ⟨⟨k1, k2, ?_⟩, k4⟩
    by_cases y : s = s0
    · rw [y, u2_s, u2_s, ← y, k3]
    · rw [eA (p + 3) s (by omega) (by omega), eB 164 _ (by omega)]
      exact k3
  · rw [eA (p + 4) _ (by omega) (by omega), eB 165 _ (by omega)]; exact hw s m z y
  · rw [eA (p + 5) m (by omega) (by omega), eA (p + 6) m (by omega) (by omega), eB 160 _ (by omega), eB 161 _ (by omega)]; exact hm m z
  · rw [eA (p + 7) q (by omega) (by omega), eA (p + 8) q (by omega) (by omega), eB 166 _ (by omega), eB 167 _ (by omega)]; exact hq q z
def RLL (R : Nat → Int32 → Int32 → Prop) (f nm ns : Nat) (A0 : SI) (J0 : SJ) (B0 A1 : SI) (J1 : SJ) (B1 : SI) : Prop := SCL R 105 f nm ns A1 J1 B1 ∧ KP 105 113 A0 A1 ∧ FS f B0 B1 ∧ JW J0 J1
theorem RLL.mono {R R' : Nat → Int32 → Int32 → Prop} {f nm ns : Nat} {A0 A1 B0 B1 : SI} {J0 J1 : SJ} (h : RLL R f nm ns A0 J0 B0 A1 J1 B1) (k : ∀ q a b, q < 4 → R q a b → R' q a b) : RLL R' f nm ns A0 J0 B0 A1 J1 B1 := ⟨h.1.mono k, h.2⟩
theorem RLL.u {R R' : Nat → Int32 → Int32 → Prop} {f nm ns a b r c : Nat} {v v' : Int32} {A0 B0 A1 B1 : SI} {J0 J1 : SJ} (h : RLL R f nm ns A0 J0 B0 A1 J1 B1) (s : SCL R' 105 f nm ns (u2 A1 a b v) J1 (u2 B1 r c v')) (ha : 105 ≤ a ∧ a ≤ 113) (hb : inS f r c) : RLL R' f nm ns A0 J0 B0 (u2 A1 a b v) J1 (u2 B1 r c v') := ⟨s, fun x y z => (u2_n _ _ (fun q => by omega)).trans (h.2.1 x y z), h.2.2.1.u hb, h.2.2.2⟩
theorem RLL.j {R : Nat → Int32 → Int32 → Prop} {f nm ns : Nat} {A0 B0 A1 B1 B2 : SI} {J0 J1 J2 : SJ} (h : RLL R f nm ns A0 J0 B0 A1 J1 B1) (hn : ns ≤ 8) (j : JW J1 J2) (b : Fr38 B1 B2) : RLL R f nm ns A0 J0 B0 A1 J2 B2 := ⟨h.1.mv hn (fun _ _ _ _ => rfl) (j 105 6 (by omega)) (fun a c z => b a c (by unfold inS at z; omega)), h.2.1, h.2.2.1.tr b.fs, h.2.2.2.tr j⟩
theorem cm_vL {R : Nat → Int32 → Int32 → Prop} {b : Int32} {k0 f nm ns np m : Nat} {g more a3 cost c5 : Int32} {A B : SI} {JA J1 J' : SJ} (h : SCL R 105 f nm ns A JA B) (x : DX b nm ns np A B) (hf : f ≤ 22) (hm : m < nm) (h3 : k0 < 3) (eg : g = B 161 (6 * f + m) + more) (ec : c5 = cost) : JW J1 (FJ_X0_worthOf (29 + 4 * k0) (atF (A 114) 6 (nI m)) g (F_X0_isSaid (nI m) A J1) (F_X5_filmedWith 105 (nI m) a3 A J1) c5 A J1) ∧ WSO k0 (F_X0_worthOf (29 + 4 * k0) (atF (A 114) 6 (nI m)) g (F_X0_isSaid (nI m) A J1) (F_X5_filmedWith 105 (nI m) a3 A J1) c5 A J1) B (FJ_X12_callsMark (nI f) (nI m) more a3 cost B J') := by
  have c := x.1
  have m6 : m < 6 := by have := c.1; omega
  have e : FJ_X12_callsMark (nI f) (nI m) more a3 cost B J' = ch7 152 J' (F_X12_strikeOf (nI m) B J').toInt64 ((B 161 (((6 : Int32) * nI f) + nI m).toNatClampNeg + more)).toInt64 (T_X12_callsMark_j57 (nI f) (nI m) more a3 cost B J') ((F_X12_timesOf (nI f) (nI m) a3 B (S2_X12_callsMark (nI f) (nI m) more a3 cost B J')).toInt64) cost.toInt64 ((B 154 (nI f).toNatClampNeg).toInt64) ((B 158 (nI f).toNatClampNeg).toInt64) := rfl
  rw [e]
  have sn := h.sn hf m6
  refine wof_v h3 (x.2.2.1.2.2.2.2.2.2.2.2.2.2.1 k0 h3) (x.2.2.2.1 k0 h3) ?_ ?_ ?_ ?_ ?_ ?_ ?_
  · rw [atF_v m6 (by omega), x.2.2.2.2.2.2.2.2 m hm]
    rfl
  · rw [cel6 hf m6, eg]
  · unfold F_X0_isSaid T_X12_callsMark_j57
    by_cases z : atF (A 110) 6 (nI m) < 0
    · rw [if_pos z, if_pos (sn.2.mp z)]; rfl
    · rw [if_neg z, if_neg (fun q => z (sn.2.mpr q))]; rfl
  · rw [times_vL h c hf m6]
  · rw [ec]
  · rw [nI_clamp (by omega), h.1.1]
  · rw [nI_clamp (by omega), h.1.2.2.2.2.1]
theorem film_vL {R : Nat → Int32 → Int32 → Prop} {b : Int32} {f nm ns np s : Nat} {w : Int32} {A B : SI} {JA J' : SJ} (h : SCL R 105 f nm ns A JA B) (x : DX b nm ns np A B) (hf : f ≤ 22) (hs : s < ns) : RLL R f nm ns A JA B (FI_X0_film (nI s) w A JA) (FJ_X0_film (nI s) w A JA) (FI_X12_films (nI f) (nI s) w B J') := by
  have hn : ns ≤ 8 := x.1.2.1
  have h6 : nm ≤ 6 := x.1.1
  have s8 : s < 8 := by omega
  have eA : putF A 107 8 (nI s) 1 = u2 A 107 s 1 := putF_v s8 (by omega)
  have r0 : RLL R f nm ns A JA B A JA B := ⟨h, fun _ _ _ => rfl, FS.rf f B, JW.rf JA⟩
  have r1 : RLL R f nm ns A JA B (u2 A 107 s 1) JA (u2 B 163 (8 * f + s) 1) := r0.u (h.w_film rfl hs) (by omega) (in8 (by omega) s8)
  unfold FI_X0_film FJ_X0_film FI_X12_films F_X0_film_w14 F_X12_films_w15
  rw [eA, cel8 hf s8]
  have L := itW2 (f := B_X0_film_w14 (nI s) w A JA) (g := B_X12_films_w15 (nI f) (nI s) w B J') (fun n (p : Int32 × SI × SJ) (q : Int32 × SI × SJ) => ∃ i, i + n = nm ∧ p.1 = nI i ∧ q.1 = nI i ∧ RLL R f nm ns A JA B p.2.1 p.2.2 q.2.1) (fun (r u : Int32 × SI × SJ) => RLL R f nm ns A JA B r.2.1 r.2.2 u.2.1) ?_ 800 nm 800 (0, u2 A 107 s 1, JA) (0, u2 B 163 (8 * f + s) 1, J') ⟨0, by omega, rfl, rfl, r1⟩ (by omega) (by omega)
  · exact L _ _
  rintro n ⟨p1, A1, J1⟩ ⟨q1, B1, K1⟩ ⟨i, hi, e1, e2, r⟩
  have e1 : p1 = nI i := e1
  have e2 : q1 = nI i := e2
  subst e1 e2
  have r : RLL R f nm ns A JA B A1 J1 B1 := r
  have sc := r.1
  have y := x.mv r.2.1 r.2.2.1
  obtain ⟨_, _, c3, c4, c5, c6⟩ := y.1
  by_cases z : n = 0
  · left
    refine ⟨(nI i, A1, J1), (nI i, B1, K1), ?_, ?_, r⟩
    · unfold B_X0_film_w14
      dsimp only
      rw [if_pos (show A1 3 1 ≤ nI i by rw [c3]; exact nI_le (by omega) (by omega))]
    · unfold B_X12_films_w15
      dsimp only
      rw [if_pos (show B1 132 0 ≤ nI i by rw [c5]; exact nI_le (by omega) (by omega))]
  have hi2 : i < nm := by omega
  have i6 : i < 6 := by omega
  have g1 : ¬ A1 3 1 ≤ nI i := by rw [c3]; exact nI_ge hi2 (by omega)
  have g2 : ¬ B1 132 0 ≤ nI i := by rw [c5]; exact nI_ge hi2 (by omega)
  by_cases w0 : w = 0
  rotate_left
  · left
    refine ⟨(nI i, A1, J1), (nI i, B1, K1), ?_, ?_, r⟩
    · unfold B_X0_film_w14
      dsimp only
      rw [if_neg g1, if_neg w0]
    · unfold B_X12_films_w15
      dsimp only
      rw [if_neg g2, if_neg w0]
  right
  have wv := sc.2.2.2.1 s i hs i6
  have sv := sc.2.2.2.2.1 i i6
  have ew : F_X5_wayIn 105 (nI s) (nI i) A1 J1 = A1 109 (6 * s + i) := way_c s8 i6
  have eu : atF (A1 110) 6 (nI i) = A1 110 i := atF_v i6 (by omega)
  have m1 := m1_nn (wv.2.imp id And.left)
  have m2 := m1_nn sv.2.1
  have w1 : A1 109 (6 * s + i) = B1 165 (48 * f + (6 * s + i)) := wv.1
  have u1 : A1 110 i = B1 160 (6 * f + i) := sv.1.1
  have mm1 : A1 109 (6 * s + i) < 0 ↔ A1 109 (6 * s + i) = -1 := m1
  have mm2 : A1 110 i < 0 ↔ A1 110 i = -1 := m2
  have v1 : B1 165 (((48 : Int32) * nI f) + ((6 : Int32) * nI s) + nI i).toNatClampNeg = A1 109 (6 * s + i) := by rw [cel48 hf s8 i6]; exact w1.symm
  have v2 : B1 160 (((6 : Int32) * nI f) + nI i).toNatClampNeg = A1 110 i := by rw [cel6 hf i6]; exact u1.symm
  by_cases k1 : A1 109 (6 * s + i) < 0
  · refine ⟨n - 1, (nI (i + 1), A1, J1), (nI (i + 1), B1, K1), by omega, ?_, ?_, ⟨i + 1, by omega, rfl, rfl, r⟩⟩
    · unfold B_X0_film_w14 T_X0_film_j104
      dsimp only
      rw [if_neg g1, if_pos w0, ew, if_pos k1, if_pos k1, nI_1]
    · unfold B_X12_films_w15
      dsimp only
      rw [if_neg g2, if_pos w0, if_pos (v1.trans (mm1.mp k1)), nI_1]
  have k1' : ¬ A1 109 (6 * s + i) = -1 := fun q => k1 (mm1.mpr q)
  by_cases k2 : A1 110 i < 0
  · -- she says nothing of it
    have ne : ¬ A1 110 i = A1 109 (6 * s + i) := fun q => k1 (by rw [← q]; exact k2)
    have tj : T_X0_film_j104 (nI s) w A JA (nI i, A1, J1) = A1 := by
      unfold T_X0_film_j104
      dsimp only
      rw [ew, if_neg k1, eu, if_pos k2]
    have cm := cm_vL (k0 := 0) (g := atF (A1 111) 6 (nI i)) (more := 0) (a3 := nI s) (cost := B1 137 (nI s).toNatClampNeg) (c5 := atF (A1 10) 8 (nI s)) (J1 := J1) (J' := K1) sc y hf hi2 (by omega) (by rw [atF_v i6 (by omega), Int32.add_zero]; exact sv.1.2) (by rw [atF_v s8 (by omega), nI_clamp (by omega)]; exact told_s y hs)
    have jn : FJ_X0_noticeWorth (nI s) (nI i) A1 J1 = FJ_X0_worthOf (29 + 4 * 0) (atF (A1 114) 6 (nI i)) (atF (A1 111) 6 (nI i)) (F_X0_isSaid (nI i) A1 J1) (F_X5_filmedWith 105 (nI i) (nI s) A1 J1) (atF (A1 10) 8 (nI s)) A1 J1 := rfl
    have fn : F_X0_noticeWorth (nI s) (nI i) A1 J1 = F_X0_worthOf (29 + 4 * 0) (atF (A1 114) 6 (nI i)) (atF (A1 111) 6 (nI i)) (F_X0_isSaid (nI i) A1 J1) (F_X5_filmedWith 105 (nI i) (nI s) A1 J1) (atF (A1 10) 8 (nI s)) A1 J1 := rfl
    rw [← jn, ← fn] at cm
    have s1e : S1_X12_films (nI f) (nI s) w B J' (nI i, B1, K1) = FJ_X12_callsMark (nI f) (nI i) 0 (nI s) (B1 137 (nI s).toNatClampNeg) B1 K1 := rfl
    have t138 : T_X0_film_j138 (nI s) w A JA (nI i, A1, J1) = T_X12_films_j145 (nI f) (nI s) w B J' (nI i, B1, K1) := by
      unfold T_X0_film_j138 T_X12_films_j145
      rw [tj]
      dsimp only
      rw [atF_v i6 (by omega), y.2.2.2.2.2.2.2.2 i hi2]
      rfl
    have so : S1_X0_film (nI s) w A JA (nI i, A1, J1) = F_X12_isSo 0 (T_X12_films_j145 (nI f) (nI s) w B J' (nI i, B1, K1)) B1 (S1_X12_films (nI f) (nI s) w B J' (nI i, B1, K1)) := by
      unfold S1_X0_film
      rw [tj, t138, s1e]
      exact cm.2.so
    have fr : Fr38 B1 (S2_X12_films (nI f) (nI s) w B J' (nI i, B1, K1)) := by
      unfold S2_X12_films
      exact isSo_f (k := 0) (by omega) (y.2.2.2.1 0 (by omega))
    have rj := r.j hn cm.1 fr
    by_cases k3 : S1_X0_film (nI s) w A JA (nI i, A1, J1) = 0
    · refine ⟨n - 1, (nI (i + 1), A1, FJ_X0_noticeWorth (nI s) (nI i) A1 J1), (nI (i + 1), S2_X12_films (nI f) (nI s) w B J' (nI i, B1, K1), S3_X12_films (nI f) (nI s) w B J' (nI i, B1, K1)), by omega, ?_, ?_, ⟨i + 1, by omega, rfl, rfl, rj⟩⟩
      · unfold B_X0_film_w14
        rw [tj]
        dsimp only
        rw [if_neg g1, if_pos w0, ew, if_neg k1, eu, if_neg (fun q => Int32.not_le.mpr k2 q), if_pos k3, nI_1]
      · unfold B_X12_films_w15
        dsimp only
        rw [if_neg g2, if_pos w0, if_neg (fun q => k1' (v1.symm.trans q)), if_neg (fun q => ne (v2.symm.trans (q.trans v1))), if_pos (v2.trans (mm2.mp k2)), if_pos (so.symm.trans k3), nI_1]
    · have s2e : S2_X0_film (nI s) w A JA (nI i, A1, J1) = u2 A1 110 i (A1 109 (6 * s + i)) := by
        unfold S2_X0_film
        rw [tj]
        dsimp only
        rw [ew, putF_v i6 (by omega)]
      have s5e : S5_X12_films (nI f) (nI s) w B J' (nI i, B1, K1) = u2 (S2_X12_films (nI f) (nI s) w B J' (nI i, B1, K1)) 160 (6 * f + i) (A1 109 (6 * s + i)) := by
        unfold S5_X12_films S4_X12_films
        dsimp only
        rw [cel48 hf s8 i6, cel6 hf i6, fr 165 _ (by omega), ← w1]
      have rs := rj.u (a := 110) (b := i) (r := 160) (c := 6 * f + i) (v := A1 109 (6 * s + i)) (v' := A1 109 (6 * s + i)) (rj.1.w_say (Or.inr (wv.2.resolve_left k1').1)) (by omega) (in6 (by omega) i6)
      refine ⟨n - 1, (nI (i + 1), u2 A1 110 i (A1 109 (6 * s + i)), FJ_X0_noticeWorth (nI s) (nI i) A1 J1), (nI (i + 1), u2 (S2_X12_films (nI f) (nI s) w B J' (nI i, B1, K1)) 160 (6 * f + i) (A1 109 (6 * s + i)), S3_X12_films (nI f) (nI s) w B J' (nI i, B1, K1)), by omega, ?_, ?_, ⟨i + 1, by omega, rfl, rfl, rs⟩⟩
      · unfold B_X0_film_w14
        rw [tj, s2e]
        dsimp only
        rw [if_neg g1, if_pos w0, ew, if_neg k1, eu, if_neg (fun q => Int32.not_le.mpr k2 q), if_neg k3, nI_1]
      · unfold B_X12_films_w15
        rw [s5e]
        dsimp only
        rw [if_neg g2, if_pos w0, if_neg (fun q => k1' (v1.symm.trans q)), if_neg (fun q => ne (v2.symm.trans (q.trans v1))), if_pos (v2.trans (mm2.mp k2)), if_neg (fun q => k3 (so.trans q)), nI_1]
  have k2' : ¬ A1 110 i = -1 := fun q => k2 (mm2.mpr q)
  have k2'' : (0 : Int32) ≤ A1 110 i := Int32.not_lt.mp k2
  by_cases k3 : A1 109 (6 * s + i) = A1 110 i
  · refine ⟨n - 1, (nI (i + 1), A1, J1), (nI (i + 1), B1, K1), by omega, ?_, ?_, ⟨i + 1, by omega, rfl, rfl, r⟩⟩
    · unfold B_X0_film_w14 T_X0_film_j104
      dsimp only
      rw [if_neg g1, if_pos w0, ew, eu, if_neg k1, if_pos k2'', if_neg k1, if_neg k2, if_pos k3, nI_1]
    · unfold B_X12_films_w15
      dsimp only
      rw [if_neg g2, if_pos w0, if_neg (fun q => k1' (v1.symm.trans q)), if_pos (v2.trans (k3.symm.trans v1.symm)), nI_1]
  · have s3e : S3_X0_film (nI s) w A JA (nI i, A1, J1) = u2 (u2 A1 109 (6 * s + i) (A1 110 i)) 105 2 (A1 105 2 + 1) := by
      unfold S3_X0_film
      dsimp only
      have ix : nI s * 6 + nI i = nI (6 * s + i) := by
        rw [show (6 : Int32) = nI 6 from rfl, nI_mul, nI_add, show s * 6 + i = 6 * s + i by omega]
      rw [eu, ix, putF_v (by omega) (by omega), u2_n _ _ (show ¬ ((105 : Nat) = 109 ∧ 2 = 6 * s + i) by omega)]
    have s7e : S7_X12_films (nI f) (nI s) w B J' (nI i, B1, K1) = u2 (u2 B1 165 (48 * f + (6 * s + i)) (A1 110 i)) 157 f (A1 105 2 + 1) := by
      unfold S7_X12_films S6_X12_films
      dsimp only
      rw [cel48 hf s8 i6, cel6 hf i6, nI_clamp (by omega), ← u1, u2_n _ _ (show ¬ ((157 : Nat) = 165 ∧ f = 48 * f + (6 * s + i)) by omega), sc.1.2.2.1]
    have ra := r.u (a := 109) (b := 6 * s + i) (r := 165) (c := 48 * f + (6 * s + i)) (v := A1 110 i) (v' := A1 110 i) (sc.w_way i6 (Or.inr ⟨sv.2.1.resolve_left k2', hi2⟩)) (by omega) (in48 (by omega))
    have rb := ra.u (a := 105) (b := 2) (r := 157) (c := f) (v := A1 105 2 + 1) (v' := A1 105 2 + 1) ra.1.w_chg (by omega) (in1 (by omega))
    refine ⟨n - 1, (nI (i + 1), u2 (u2 A1 109 (6 * s + i) (A1 110 i)) 105 2 (A1 105 2 + 1), J1), (nI (i + 1), u2 (u2 B1 165 (48 * f + (6 * s + i)) (A1 110 i)) 157 f (A1 105 2 + 1), K1), by omega, ?_, ?_, ⟨i + 1, by omega, rfl, rfl, rb⟩⟩
    · unfold B_X0_film_w14 T_X0_film_j104
      rw [s3e]
      dsimp only
      rw [if_neg g1, if_pos w0, ew, eu, if_neg k1, if_pos k2'', if_neg k1, if_neg k2, if_neg k3, nI_1]
    · unfold B_X12_films_w15
      rw [s7e]
      dsimp only
      rw [if_neg g2, if_pos w0, if_neg (fun q => k1' (v1.symm.trans q)), if_neg (fun q => k3 (v2.symm.trans (q.trans v1)).symm), if_neg (fun q => k2' (v2.symm.trans q)), nI_1]
/-- so much left, or both enough for d days -/
def RR (d : Nat) (a b : Int32) : Prop := ∃ x y, x < 1000 ∧ y < 1000 ∧ a = nI x ∧ b = nI y ∧ (x = y ∨ (d ≤ x ∧ d ≤ y))
theorem RR.dn {d : Nat} {a b : Int32} (h : RR (d + 1) a b) : RR d a b := by
  obtain ⟨x, y, h1, h2, h3, h4, h5⟩ := h
  exact ⟨x, y, h1, h2, h3, h4, h5.imp id (fun z => ⟨by omega, by omega⟩)⟩
theorem RR.zz {d : Nat} {a b : Int32} (h : RR (d + 1) a b) : (a = 0 ∧ b = 0) ∨ (¬ a = 0 ∧ ¬ a ≤ 0 ∧ ¬ b = 0 ∧ ¬ b ≤ 0 ∧ RR d (a - 1) (b - 1)) := by
  obtain ⟨x, y, h1, h2, rfl, rfl, h5⟩ := h
  have nz : ∀ z, 0 < z → z < 1000 → ¬ nI z = 0 ∧ ¬ nI z ≤ 0 := fun z z1 z2 => ⟨fun q => by
    have := (nI_eq (a := z) (b := 0) (by omega) (by omega)).mp q
    omega, nI_ge (a := 0) z1 (by omega)⟩
  by_cases c : x = 0
  · left
    have e : y = 0 := by omega
    subst c e
    exact ⟨rfl, rfl⟩
  · right
    have yp : 0 < y := by omega
    have n1 := nz x (by omega) h1
    have n2 := nz y yp h2
    refine ⟨n1.1, n1.2, n2.1, n2.2, x - 1, y - 1, by omega, by omega, pk_sub (b := 1) (by omega), pk_sub (b := 1) (by omega), ?_⟩
    omega
def Rd (d i q : Nat) (a b : Int32) : Prop := if q < i then RR d a b else RR (d + 1) a b
theorem Rd.up {d i q : Nat} {a b : Int32} (h : Rd d i q a b) : Rd d (i + 1) q a b := by
  unfold Rd at h ⊢
  by_cases c : q < i
  · rw [if_pos c] at h
    rw [if_pos (by omega)]
    exact h
  · rw [if_neg c] at h
    by_cases c2 : q < i + 1
    · rw [if_pos c2]; exact h.dn
    · rw [if_neg c2]; exact h
theorem Rd.all {d i q : Nat} {a b : Int32} (h : Rd d i q a b) : RR d a b := by
  unfold Rd at h
  by_cases c : q < i
  · rw [if_pos c] at h; exact h
  · rw [if_neg c] at h; exact h.dn
theorem give_vL {d : Nat} {b : Int32} {f nm ns np q : Nat} {A B : SI} {JA J' : SJ} (h : SCL (Rd d q) 105 f nm ns A JA B) (x : DX b nm ns np A B) (hf : f ≤ 22) (hq : q < np) : RLL (Rd d (q + 1)) f nm ns A JA B (FI_X0_give (nI q) A JA) (FJ_X0_give (nI q) A JA) (FI_X12_gives (nI f) (nI q) B J') := by
  have h6 : nm ≤ 6 := x.1.1
  have hn : ns ≤ 8 := x.1.2.1
  have q4 : q < 4 := by have := x.2.1.1; omega
  obtain ⟨m, hm, am, bm, aw, ww⟩ := told_p x hq
  have m6 : m < 6 := by omega
  have r0 : RLL (Rd d (q + 1)) f nm ns A JA B A JA B := ⟨h.mono (fun _ _ _ _ z => z.up), fun _ _ _ => rfl, FS.rf f B, JW.rf JA⟩
  have sq := h.2.2.2.2.2 q q4
  have sm := h.2.2.2.2.1 m m6
  have l1 : RR (d + 1) (A 112 q) (B 166 (4 * f + q)) := by
    have z := sq.1.1
    unfold Rd at z
    rw [if_neg (Nat.lt_irrefl q)] at z
    exact z
  have l2 : A 113 q = B 167 (4 * f + q) := sq.1.2
  have l3 : A 111 m = B 161 (6 * f + m) := sm.1.2
  have l4 : A 110 m = B 160 (6 * f + m) := sm.1.1
  have mm : A 110 m < 0 ↔ A 110 m = -1 := m1_nn sm.2.1
  have eM : atF (A 15) 8 (nI q) = nI m := by rw [atF_v (by omega) (by omega), am]
  have eW : atF (A 16) 8 (nI q) = A 16 q := atF_v (by omega) (by omega)
  have eL : atF (A 112) 4 (nI q) = A 112 q := atF_v q4 (by omega)
  have eS : atF (A 110) 6 (nI m) = A 110 m := atF_v m6 (by omega)
  have bM : B 141 (nI q).toNatClampNeg = nI m := by rw [nI_clamp (by omega)]; exact bm
  have bW : B 142 (nI q).toNatClampNeg = A 16 q := by rw [nI_clamp (by omega)]; exact aw.symm
  have s2e : S2_X0_give (nI q) A JA = u2 (u2 (u2 A 112 q (A 112 q - 1)) 113 q (A 113 q + 1)) 111 m (A 111 m + 1) := by
    unfold S2_X0_give S1_X0_give
    have p1 : putF A 112 4 (nI q) (A 112 q - 1) = u2 A 112 q (A 112 q - 1) := putF_v q4 (by omega)
    rw [eM, eL, p1, putF_v q4 (by omega), atF_v q4 (by omega), u2_n _ _ (show ¬ ((113 : Nat) = 112 ∧ q = q) by omega), atF_v m6 (by omega), putF_v m6 (by omega)]
  have s4e : S4_X12_gives (nI f) (nI q) B J' = u2 (u2 (u2 B 166 (4 * f + q) (B 166 (4 * f + q) - 1)) 167 (4 * f + q) (A 113 q + 1)) 161 (6 * f + m) (A 111 m + 1) := by
    unfold S4_X12_gives S3_X12_gives S2_X12_gives S1_X12_gives
    rw [bM, cel4 hf q4, cel6 hf m6, u2_n _ _ (show ¬ ((167 : Nat) = 166 ∧ 4 * f + q = 4 * f + q) by omega), u2_n _ _ (show ¬ ((161 : Nat) = 167 ∧ 6 * f + m = 4 * f + q) by omega), u2_n _ _ (show ¬ ((161 : Nat) = 166 ∧ 6 * f + m = 4 * f + q) by omega), ← l2, ← l3]
  unfold FI_X0_give FJ_X0_give FI_X12_gives
  rw [eM, eW, eL, eS, bM, bW, cel4 hf q4, cel6 hf m6, ← l4]
  have e20 : S20_X12_gives (nI f) (nI q) B J' = S9_X12_gives (nI f) (nI q) B J' := rfl
  have e18 : S18_X12_gives (nI f) (nI q) B J' = S7_X12_gives (nI f) (nI q) B J' := rfl
  have e21 : S21_X12_gives (nI f) (nI q) B J' = S10_X12_gives (nI f) (nI q) B J' := rfl
  rw [e20, e18, e21]
  rcases l1.zz with ⟨z1, z1'⟩ | ⟨z1, y1, z1', y1', d1⟩
  · have y1 : A 112 q ≤ 0 := by rw [z1]; decide
    rw [if_pos z1', if_pos y1, if_pos y1, ite_self, ite_self]
    exact r0
  rw [if_neg z1', if_neg y1, if_neg y1]
  by_cases z2 : A 110 m < 0
  · rw [if_pos z2, if_pos z2, if_pos (mm.mp z2), ite_self, ite_self]
    exact r0
  rw [if_neg z2, if_neg z2, if_neg (fun y => z2 (mm.mpr y))]
  by_cases z3 : A 110 m = A 16 q
  · rw [if_pos z3, if_pos z3, if_pos z3, ite_self, ite_self]
    exact r0
  rw [if_neg z3, if_neg z3, if_neg z3]
  obtain ⟨_, g2, _, g4, g5⟩ := x.2.2.2.2
  by_cases z4 : nI q = A 104 5
  · have z5 : B 130 55 = 2 ∧ A 104 5 = B 130 56 := by
      rcases g2 with g | ⟨_, g⟩
      · exact g
      · rw [g] at z4
        exact absurd z4 (fun y => by
          have e : (nI q).toInt = (-1 : Int32).toInt := congrArg Int32.toInt y
          rw [nI_toInt (by omega)] at e
          have e2 : (-1 : Int32).toInt = -1 := by decide
          omega)
    rw [if_pos z4, if_pos z4, if_pos z5.1, if_pos (z4.trans z5.2)]
    exact r0
  rw [if_neg z4, if_neg z4]
  -- it gives
  have dR : Rd d (q + 1) q (A 112 q - 1) (B 166 (4 * f + q) - 1) := by
    unfold Rd
    rw [if_pos (Nat.lt_succ_self q)]
    exact d1
  have ra := r0.u (a := 112) (b := q) (r := 166) (c := 4 * f + q) (v := A 112 q - 1) (v' := B 166 (4 * f + q) - 1) (h.w_left dR (fun _ _ _ _ _ z => z.up)) (by omega) (in4 (by omega) q4)
  have rb := ra.u (a := 113) (b := q) (r := 167) (c := 4 * f + q) (v := A 113 q + 1) (v' := A 113 q + 1) ra.1.w_gave (by omega) (in4 (by omega) q4)
  have rc := rb.u (a := 111) (b := m) (r := 161) (c := 6 * f + m) (v := A 111 m + 1) (v' := A 111 m + 1) (rb.1.w_given hm) (by omega) (in6 (by omega) m6)
  rw [← s2e, ← s4e] at rc
  have y := x.mv rc.2.1 rc.2.2.1
  have tq : S4_X12_gives (nI f) (nI q) B J' 161 (((6 : Int32) * nI f) + B 141 (nI q).toNatClampNeg).toNatClampNeg = A 111 m + 1 := by
    rw [bM, cel6 hf m6, s4e, u2_s]
  have cm := cm_vL (k0 := 1) (g := A 111 m + 1) (more := 0) (a3 := -1) (cost := 0) (c5 := 0) (J1 := JA) (J' := J') rc.1 y hf hm (by omega) (by rw [s4e, u2_s, Int32.add_zero]) rfl
  have jn : S3_X0_give (nI q) A JA = FJ_X0_worthOf (29 + 4 * 1) (atF (S2_X0_give (nI q) A JA 114) 6 (nI m)) (A 111 m + 1) (F_X0_isSaid (nI m) (S2_X0_give (nI q) A JA) JA) (F_X5_filmedWith 105 (nI m) (-1) (S2_X0_give (nI q) A JA) JA) 0 (S2_X0_give (nI q) A JA) JA := by
    unfold S3_X0_give
    rw [eM, atF_v m6 (by omega)]
    rfl
  have fn : S4_X0_give (nI q) A JA = F_X0_worthOf (29 + 4 * 1) (atF (S2_X0_give (nI q) A JA 114) 6 (nI m)) (A 111 m + 1) (F_X0_isSaid (nI m) (S2_X0_give (nI q) A JA) JA) (F_X5_filmedWith 105 (nI m) (-1) (S2_X0_give (nI q) A JA) JA) 0 (S2_X0_give (nI q) A JA) JA := by
    unfold S4_X0_give
    rw [eM, atF_v m6 (by omega)]
    rfl
  rw [← jn, ← fn] at cm
  have s5e : S5_X12_gives (nI f) (nI q) B J' = FJ_X12_callsMark (nI f) (nI m) 0 (-1) 0 (S4_X12_gives (nI f) (nI q) B J') J' := by
    unfold S5_X12_gives
    rw [bM]
  have tj : T_X0_give_j183 (nI q) A JA = T_X12_gives_j148 (nI f) (nI q) B J' := by
    unfold T_X0_give_j183 T_X12_gives_j148 S6_X12_gives
    rw [tq, eM, bM, atF_v m6 (by omega), atF_v m6 (by omega), y.2.2.2.2.2.2.2.2 m hm]
    rfl
  have so : S5_X0_give (nI q) A JA = S9_X12_gives (nI f) (nI q) B J' := by
    unfold S5_X0_give S9_X12_gives
    rw [tj, s5e]
    exact cm.2.so
  have fr : Fr38 (S4_X12_gives (nI f) (nI q) B J') (S7_X12_gives (nI f) (nI q) B J') := by
    unfold S7_X12_gives
    exact isSo_f (k := 1) (by omega) (y.2.2.2.1 1 (by omega))
  have a47 : S2_X0_give (nI q) A JA 104 7 = A 104 7 := rc.2.1 _ _ (by omega)
  have b55 : S7_X12_gives (nI f) (nI q) B J' 130 55 = B 130 55 := (fr _ _ (by omega)).trans (rc.2.2.1.lo (Or.inl (by omega)) (by omega))
  have b142 : S7_X12_gives (nI f) (nI q) B J' 142 (nI q).toNatClampNeg = A 16 q := (fr _ _ (by omega)).trans ((rc.2.2.1.lo (Or.inl (by omega)) (by omega)).trans bW)
  have rj := rc.j hn cm.1 fr
  have rk := rc.j hn (JW.rf JA) fr
  have refEq : (if B 130 55 = 2 then (if nI q = B 130 56 then B else (if S9_X12_gives (nI f) (nI q) B J' = 0 then S7_X12_gives (nI f) (nI q) B J' else (if S7_X12_gives (nI f) (nI q) B J' 130 55 = 4 then S7_X12_gives (nI f) (nI q) B J' else S10_X12_gives (nI f) (nI q) B J'))) else (if S9_X12_gives (nI f) (nI q) B J' = 0 then S7_X12_gives (nI f) (nI q) B J' else (if S7_X12_gives (nI f) (nI q) B J' 130 55 = 4 then S7_X12_gives (nI f) (nI q) B J' else S10_X12_gives (nI f) (nI q) B J'))) = (if S9_X12_gives (nI f) (nI q) B J' = 0 then S7_X12_gives (nI f) (nI q) B J' else (if S7_X12_gives (nI f) (nI q) B J' 130 55 = 4 then S7_X12_gives (nI f) (nI q) B J' else S10_X12_gives (nI f) (nI q) B J')) := by
    by_cases z5 : B 130 55 = 2
    · have z6 : ¬ nI q = B 130 56 := fun y2 => by
        rcases g2 with g | g
        · exact z4 (y2.trans g.2.symm)
        · exact g.1 z5
      rw [if_pos z5, if_neg z6]
    · rw [if_neg z5]
  rw [refEq, a47, b55]
  by_cases z7 : A 104 7 = 0
  · rw [if_pos z7, if_pos z7, if_pos (g4.mp z7), ite_self]
    exact rk
  rw [if_neg z7, if_neg z7, if_neg (fun y2 => z7 (g4.mpr y2)), so]
  by_cases z8 : S9_X12_gives (nI f) (nI q) B J' = 0
  · rw [if_pos z8, if_pos z8, if_pos z8]
    exact rj
  · rw [if_neg z8, if_neg z8, if_neg z8]
    have s10e : S10_X12_gives (nI f) (nI q) B J' = u2 (S7_X12_gives (nI f) (nI q) B J') 160 (6 * f + m) (A 16 q) := by
      unfold S10_X12_gives
      rw [bM, cel6 hf m6, b142]
    rw [s10e, putF_v m6 (by omega)]
    exact rj.u (a := 110) (b := m) (r := 160) (c := 6 * f + m) (v := A 16 q) (v' := A 16 q) (rj.1.w_say (Or.inr ww)) (by omega) (in6 (by omega) m6)
theorem agn_vL {R : Nat → Int32 → Int32 → Prop} {b : Int32} {f nm ns np s : Nat} {A B : SI} {JA J1 J' : SJ} (h : SCL R 105 f nm ns A JA B) (x : DX b nm ns np A B) (hf : f ≤ 22) (hs : s < ns) (hz : ¬ A 107 s = 0) : JW J1 (FJ_X0_againWorth (nI s) A J1) ∧ WSO 2 (F_X0_againWorth (nI s) A J1) B (FJ_X12_callsShot (nI f) (nI s) B J') := by
  have hn : ns ≤ 8 := x.1.2.1
  have e : FJ_X12_callsShot (nI f) (nI s) B J' = ch7 152 J' 0 (((F_X12_callsShot_l8 (nI f) (nI s) B J' (0, 0)).1).toInt64) ((F_X12_clashesOf (nI f) (nI s) B (S1_X12_callsShot (nI f) (nI s) B J')).toInt64) (((F_X12_callsShot_l8 (nI f) (nI s) B J' (0, 0)).2).toInt64) ((B 137 (nI s).toNatClampNeg).toInt64) ((B 154 (nI f).toNatClampNeg).toInt64) ((B 158 (nI f).toNatClampNeg).toInt64) := rfl
  have sv := shot_vL (J := J1) (J' := J') h x.1 hf hs
  have cv := clash_vL (J := J1) (J' := S1_X12_callsShot (nI f) (nI s) B J') h x.1 hf hs
  rw [if_neg hz] at cv
  rw [e, sv, cv]
  have w := wof_v (k0 := 2) (a1 := 0) (a2 := F_X5_givenCount 105 A J1) (a3 := F_X5_clashing 105 (nI s) A J1) (a4 := F_X5_marksIn 105 (nI s) A J1) (a5 := atF (A 10) 8 (nI s)) (b0 := 0) (b1 := (F_X5_givenCount 105 A J1).toInt64) (b2 := (F_X5_clashing 105 (nI s) A J1).toInt64) (b3 := (F_X5_marksIn 105 (nI s) A J1).toInt64) (b4 := (B 137 (nI s).toNatClampNeg).toInt64) (b5 := (B 154 (nI f).toNatClampNeg).toInt64) (b6 := (B 158 (nI f).toNatClampNeg).toInt64) (Jc := J1) (J' := J') (by omega) (x.2.2.1.2.2.2.2.2.2.2.2.2.2.1 2 (by omega)) (x.2.2.2.1 2 (by omega)) rfl rfl rfl rfl (by rw [atF_v (by omega) (by omega), nI_clamp (by omega), told_s x hs]) (by rw [nI_clamp (by omega), h.1.1]) (by rw [nI_clamp (by omega), h.1.2.2.2.2.1])
  exact w
theorem price_vL {R : Nat → Int32 → Int32 → Prop} {b : Int32} {f nm ns np s : Nat} {A B : SI} {JA J1 J' Ja : SJ} (h : SCL R 105 f nm ns A JA B) (x : DX b nm ns np A B) (hf : f ≤ 22) (hs : s < ns) (hz : ¬ A 107 s = 0) : T_X0_filmOneAgain_j84_2 A Ja s J1 = (F_X12_priceOf (nI f) (nI s) B J').toInt64 ∧ (T_X0_filmOneAgain_j84_2 A Ja s J1).toInt32 = F_X12_priceOf (nI f) (nI s) B J' ∧ Fr38 B (FI_X12_priceOf (nI f) (nI s) B J') := by
  have hn : ns ≤ 8 := x.1.2.1
  have a := (agn_vL (J1 := J1) (J' := J') h x hf hs hz).2
  have g := goes_H (k := 2) (J := FJ_X12_callsShot (nI f) (nI s) B J') (by omega) (x.2.2.2.1 2 (by omega))
  have fr : Fr38 B (FI_X12_priceOf (nI f) (nI s) B J') := by
    unfold FI_X12_priceOf
    rw [ite_self]
    split
    · exact fun _ _ _ => rfl
    · exact g.2
  have ec : atF (A 10) 8 (nI s) = B 137 s := by rw [atF_v (by omega) (by omega)]; exact told_s x hs
  have main : ∃ p : Int32, T_X0_filmOneAgain_j84_2 A Ja s J1 = p.toInt64 ∧ F_X12_priceOf (nI f) (nI s) B J' = p := by
    unfold T_X0_filmOneAgain_j84_2 F_X12_priceOf
    rw [nI_clamp (show s < 2 ^ 31 by omega)]
    rcases a with ⟨w, k⟩ | ⟨h1, h2, w, bd⟩
    · rw [if_pos ((lg_cmp_eq _ _).mpr w), ec]
      refine ⟨B 137 s, rfl, ?_⟩
      rcases k with k | k
      · exact if_pos k
      · have k : F_X12_goes 2 B (FJ_X12_callsShot (nI f) (nI s) B J') = 0 := k
        rw [show FI_X12_goes 2 B (FJ_X12_callsShot (nI f) (nI s) B J') 137 s = B 137 s from g.2 137 s (by omega), if_pos k, ite_self]
    · have h1 : ¬ F_X12_hasLaw 2 B (FJ_X12_callsShot (nI f) (nI s) B J') = 0 := h1
      have h2 : ¬ F_X12_goes 2 B (FJ_X12_callsShot (nI f) (nI s) B J') = 0 := h2
      have w : F_X0_againWorth (nI s) A J1 = FJ_X12_goes 2 B (FJ_X12_callsShot (nI f) (nI s) B J') 153 0 := w
      rw [if_neg (fun q => nmin bd ((lg_cmp_eq _ _).mp q)), if_neg h1, if_neg h2, ← w]
      obtain ⟨k, hk, ek⟩ := cut_v (F_X0_againWorth (nI s) A J1)
      rw [ek]
      exact ⟨nI k, (nI_l (by omega)).symm, l32_v k hk⟩
  obtain ⟨p, p1, p2⟩ := main
  rw [p1, p2]
  exact ⟨rfl, Int32.toInt32_toInt64 p, fr⟩
theorem inner_vL {R : Nat → Int32 → Int32 → Prop} {b : Int32} {f nm ns np s : Nat} {A0 B0 A B Ia Ib : SI} {J0 JA Ja Jb : SJ} {s2 : Int32 × SI × SJ} (x : DX b nm ns np A0 B0) (hf : f ≤ 22) (hs : s < ns) (e2 : s2.1 = nI s) (r0 : RLL R f nm ns A0 J0 B0 A JA B) : RLL R f nm ns A0 J0 B0 (F_X0_filmAgain_w39 (nI s) Ia Ja (0, A)).2 JA (F_X12_filmsAgain_w71_3 (nI f) Ib Jb s2 (0, B)).2 := by
  have hn : ns ≤ 8 := x.1.2.1
  have h6 : nm ≤ 6 := x.1.1
  have s8 : s < 8 := by omega
  unfold F_X0_filmAgain_w39 F_X12_filmsAgain_w71_3
  have L := itW2 (f := B_X0_filmAgain_w39 (nI s) Ia Ja) (g := B_X12_filmsAgain_w71_3 (nI f) Ib Jb s2) (fun n (p : Int32 × SI) (q : Int32 × SI) => ∃ i, i + n = nm ∧ p.1 = nI i ∧ q.1 = nI i ∧ RLL R f nm ns A0 J0 B0 p.2 JA q.2) (fun (r u : Int32 × SI) => RLL R f nm ns A0 J0 B0 r.2 JA u.2) ?_ 800 nm 800 (0, A) (0, B) ⟨0, by omega, rfl, rfl, r0⟩ (by omega) (by omega)
  · exact L _ _
  rintro n ⟨p1, A1⟩ ⟨q1, B1⟩ ⟨i, hi, c1, c2, r⟩
  have c1 : p1 = nI i := c1
  have c2 : q1 = nI i := c2
  subst c1 c2
  have r : RLL R f nm ns A0 J0 B0 A1 JA B1 := r
  have sc := r.1
  have y := x.mv r.2.1 r.2.2.1
  obtain ⟨_, _, c3, _, c5, _⟩ := y.1
  by_cases z : n = 0
  · left
    refine ⟨(nI i, A1), (nI i, B1), ?_, ?_, r⟩
    · unfold B_X0_filmAgain_w39
      dsimp only
      rw [if_pos (show A1 3 1 ≤ nI i by rw [c3]; exact nI_le (by omega) (by omega))]
    · unfold B_X12_filmsAgain_w71_3
      dsimp only
      rw [if_pos (show B1 132 0 ≤ nI i by rw [c5]; exact nI_le (by omega) (by omega))]
  right
  have hi2 : i < nm := by omega
  have i6 : i < 6 := by omega
  have g1 : ¬ A1 3 1 ≤ nI i := by rw [c3]; exact nI_ge hi2 (by omega)
  have g2 : ¬ B1 132 0 ≤ nI i := by rw [c5]; exact nI_ge hi2 (by omega)
  have wv := sc.2.2.2.1 s i hs i6
  have sv := sc.2.2.2.2.1 i i6
  have ew : F_X5_wayIn 105 (nI s) (nI i) A1 Ja = A1 109 (6 * s + i) := way_c s8 i6
  have eu : atF (A1 110) 6 (nI i) = A1 110 i := atF_v i6 (by omega)
  have w1 : A1 109 (6 * s + i) = B1 165 (48 * f + (6 * s + i)) := wv.1
  have u1 : A1 110 i = B1 160 (6 * f + i) := sv.1.1
  have mm1 : A1 109 (6 * s + i) < 0 ↔ A1 109 (6 * s + i) = -1 := m1_nn (wv.2.imp id And.left)
  have mm2 : A1 110 i < 0 ↔ A1 110 i = -1 := m1_nn sv.2.1
  have v1 : B1 165 (((48 : Int32) * nI f) + ((6 : Int32) * s2.1) + nI i).toNatClampNeg = A1 109 (6 * s + i) := by rw [e2, cel48 hf s8 i6]; exact w1.symm
  have v2 : B1 160 (((6 : Int32) * nI f) + nI i).toNatClampNeg = A1 110 i := by rw [cel6 hf i6]; exact u1.symm
  have stay : B_X0_filmAgain_w39 (nI s) Ia Ja (nI i, A1) = .inl (nI (i + 1), A1) → B_X12_filmsAgain_w71_3 (nI f) Ib Jb s2 (nI i, B1) = .inl (nI (i + 1), B1) → ∃ m s' t', m < n ∧ B_X0_filmAgain_w39 (nI s) Ia Ja (nI i, A1) = .inl s' ∧ B_X12_filmsAgain_w71_3 (nI f) Ib Jb s2 (nI i, B1) = .inl t' ∧ ∃ i, i + m = nm ∧ s'.1 = nI i ∧ t'.1 = nI i ∧ RLL R f nm ns A0 J0 B0 s'.2 JA t'.2 := fun k1 k2 => ⟨n - 1, _, _, by omega, k1, k2, i + 1, by omega, rfl, rfl, r⟩
  by_cases k1 : A1 110 i < 0
  · refine stay ?_ ?_
    · unfold B_X0_filmAgain_w39
      dsimp only
      rw [if_neg g1, eu, if_pos k1, nI_1]
    · unfold B_X12_filmsAgain_w71_3
      dsimp only
      rw [if_neg g2, if_pos (v2.trans (mm2.mp k1)), ite_self, nI_1]
  by_cases k2 : A1 109 (6 * s + i) < 0
  · refine stay ?_ ?_
    · unfold B_X0_filmAgain_w39
      dsimp only
      rw [if_neg g1, eu, if_neg k1, ew, if_pos k2, nI_1]
    · unfold B_X12_filmsAgain_w71_3
      dsimp only
      rw [if_neg g2, if_pos (v1.trans (mm1.mp k2)), nI_1]
  · have ix : nI s * 6 + nI i = nI (6 * s + i) := by
      rw [show (6 : Int32) = nI 6 from rfl, nI_mul, nI_add, show s * 6 + i = 6 * s + i by omega]
    have s7 : S7_X12_filmsAgain (nI f) Ib Jb s2 (nI i, B1) = u2 B1 165 (48 * f + (6 * s + i)) (A1 110 i) := by
      unfold S7_X12_filmsAgain
      dsimp only
      rw [e2, cel48 hf s8 i6, cel6 hf i6, ← u1]
    have ra := r.u (a := 109) (b := 6 * s + i) (r := 165) (c := 48 * f + (6 * s + i)) (v := A1 110 i) (v' := A1 110 i) (sc.w_way i6 (Or.inr ⟨sv.2.1.resolve_left (fun q => k1 (mm2.mpr q)), hi2⟩)) (by omega) (in48 (by omega))
    refine ⟨n - 1, (nI (i + 1), u2 A1 109 (6 * s + i) (A1 110 i)), (nI (i + 1), u2 B1 165 (48 * f + (6 * s + i)) (A1 110 i)), by omega, ?_, ?_, i + 1, by omega, rfl, rfl, ra⟩
    · unfold B_X0_filmAgain_w39
      dsimp only
      rw [if_neg g1, eu, if_neg k1, ew, if_neg k2, ix, putF_v (by omega) (by omega), nI_1]
    · unfold B_X12_filmsAgain_w71_3
      rw [s7]
      dsimp only
      rw [if_neg g2, if_neg (fun q => k2 (mm1.mpr (v1.symm.trans q))), if_neg (fun q => k1 (mm2.mpr (v2.symm.trans q))), nI_1]
theorem again_LL {R : Nat → Int32 → Int32 → Prop} {b : Int32} {f nm ns np : Nat} {A B Ib : SI} {JA Jb : SJ} (h : SCL R 105 f nm ns A JA B) (x : DX b nm ns np A B) (hf : f ≤ 22) : ∀ n i N J1 B1 K1, i + n = ns → n < N → Fr38 B B1 → JW JA J1 → (∃ J2 t, itE (B_X0_filmOneAgain_l2_2 A JA) n i J1 = .inl J2 ∧ itW (B_X12_filmsAgain_w2 (nI f) Ib Jb) N (nI i, B1, K1) = some (.inl t) ∧ Fr38 B t.2.1 ∧ JW JA J2) ∨ (∃ A2 J2 B2 K2, itE (B_X0_filmOneAgain_l2_2 A JA) n i J1 = .inr (A2, J2) ∧ itW (B_X12_filmsAgain_w2 (nI f) Ib Jb) N (nI i, B1, K1) = some (.inr (B2, K2)) ∧ RLL R f nm ns A JA B A2 J2 B2) := by
  have hn : ns ≤ 8 := x.1.2.1
  intro n
  induction n with
  | zero =>
    intro i N J1 B1 K1 hi hN fr jw
    obtain ⟨N', rfl⟩ : ∃ N', N = N' + 1 := ⟨N - 1, by omega⟩
    have g : B_X12_filmsAgain_w2 (nI f) Ib Jb (nI i, B1, K1) = .inr (.inl (nI i, B1, K1)) := by
      unfold B_X12_filmsAgain_w2
      dsimp only
      rw [if_pos (show B1 132 1 ≤ nI i by rw [fr 132 1 (by omega), x.1.2.2.2.2.2]; exact nI_le (by omega) (by omega))]
    exact Or.inl ⟨J1, (nI i, B1, K1), itE_0 _ _ _, itW_r _ _ _ _ g, fr, jw⟩
  | succ n ih =>
    intro i N J1 B1 K1 hi hN fr jw
    obtain ⟨N', rfl⟩ : ∃ N', N = N' + 1 := ⟨N - 1, by omega⟩
    have is : i < ns := by omega
    have i8 : i < 8 := by omega
    have r1 : RLL R f nm ns A JA B A J1 B1 := RLL.j ⟨h, fun _ _ _ => rfl, FS.rf f B, JW.rf JA⟩ hn jw fr
    have y := x.mv r1.2.1 r1.2.2.1
    have sc := r1.1
    have g0 : ¬ B1 132 1 ≤ nI i := by rw [y.1.2.2.2.2.2]; exact nI_ge is (by omega)
    have cv := clash_vL (J := J1) (J' := K1) sc y.1 hf is
    have af : atF (A 107) 8 (nI i) = A 107 i := atF_v i8 (by omega)
    obtain ⟨c, hc, ec⟩ := clashing_n (p := 105) (s := nI i) (A := A) (J := J1)
    have goOn : ∀ J3 B3 K3, B_X0_filmOneAgain_l2_2 A JA i J1 = .inl J3 → B_X12_filmsAgain_w2 (nI f) Ib Jb (nI i, B1, K1) = .inl (nI (i + 1), B3, K3) → Fr38 B B3 → JW JA J3 → ((∃ J2 t, itE (B_X0_filmOneAgain_l2_2 A JA) (n + 1) i J1 = .inl J2 ∧ itW (B_X12_filmsAgain_w2 (nI f) Ib Jb) (N' + 1) (nI i, B1, K1) = some (.inl t) ∧ Fr38 B t.2.1 ∧ JW JA J2) ∨ (∃ A2 J2 B2 K2, itE (B_X0_filmOneAgain_l2_2 A JA) (n + 1) i J1 = .inr (A2, J2) ∧ itW (B_X12_filmsAgain_w2 (nI f) Ib Jb) (N' + 1) (nI i, B1, K1) = some (.inr (B2, K2)) ∧ RLL R f nm ns A JA B A2 J2 B2)) := fun J3 B3 K3 k1 k2 k3 k4 => by
      have q := ih (i + 1) N' J3 B3 K3 (by omega) (by omega) k3 k4
      rw [← itE_l _ _ _ _ _ k1, ← itW_l _ _ _ _ k2] at q
      exact q
    by_cases z1 : A 107 i = 0
    · refine goOn J1 B1 K1 ?_ ?_ fr jw
      · unfold B_X0_filmOneAgain_l2_2
        rw [af, if_pos z1]
      · unfold B_X12_filmsAgain_w2
        dsimp only
        rw [if_neg g0, cv, if_pos z1, if_pos (show (0 : Int32) = 0 from rfl), nI_1]
    rw [if_neg z1, ec] at cv
    by_cases z2 : c = 0
    · refine goOn J1 B1 K1 ?_ ?_ fr jw
      · unfold B_X0_filmOneAgain_l2_2
        rw [af, if_neg z1, ec, z2, if_pos (show nI 0 ≤ (0 : Int32) by decide)]
      · unfold B_X12_filmsAgain_w2
        dsimp only
        rw [if_neg g0, cv, z2, if_pos (show nI 0 = (0 : Int32) from rfl), nI_1]
    have c1 : ¬ nI c ≤ 0 := nI_ge (a := 0) (by omega) (by omega)
    have c2 : ¬ nI c = 0 := fun q => z2 ((nI_eq (b := 0) (by omega) (by omega)).mp q)
    have ag := agn_vL (J1 := J1) (J' := K1) sc y hf is z1
    obtain ⟨t1, t2, t3⟩ := price_vL (J1 := J1) (J' := K1) (Ja := JA) sc y hf is z1
    have pf : FI_X12_priceOf (nI f) (nI i) B1 K1 156 (nI f).toNatClampNeg = A 105 1 := by
      rw [nI_clamp (by omega), t3 156 f (by omega)]
      exact sc.1.2.1.symm
    have cmp : lg_cmp ((A 105 1).toInt64) (T_X0_filmOneAgain_j84_2 A JA i J1) < 0 ↔ ¬ F_X12_priceOf (nI f) (nI i) B1 K1 ≤ A 105 1 := by
      rw [t1, lg_cmp_lt, Int64.lt_iff_toInt_lt, Int32.toInt_toInt64, Int32.toInt_toInt64, Int32.le_iff_toInt_le]
      omega
    have fr3 : Fr38 B (FI_X12_priceOf (nI f) (nI i) B1 K1) := fun a c z => (t3 a c z).trans (fr a c z)
    by_cases z3 : F_X12_priceOf (nI f) (nI i) B1 K1 ≤ A 105 1
    rotate_left
    · refine goOn (FJ_X0_againWorth (nI i) A J1) (FI_X12_priceOf (nI f) (nI i) B1 K1) (FJ_X12_priceOf (nI f) (nI i) B1 K1) ?_ ?_ fr3 (jw.tr ag.1)
      · unfold B_X0_filmOneAgain_l2_2
        rw [af, if_neg z1, ec, if_neg c1, if_pos (cmp.mpr z3)]
      · unfold B_X12_filmsAgain_w2
        dsimp only
        rw [if_neg g0, cv, if_neg c2, pf, if_neg z3, nI_1]
    -- it is filmed again
    have r2 : RLL R f nm ns A JA B A (FJ_X0_againWorth (nI i) A J1) (FI_X12_priceOf (nI f) (nI i) B1 K1) := r1.j hn ag.1 t3
    have y2 := x.mv r2.2.1 r2.2.2.1
    obtain ⟨v1, v2, v3⟩ := price_vL (J1 := J1) (J' := FJ_X12_priceOf (nI f) (nI i) B1 K1) (Ja := JA) r2.1 y2 hf is z1
    have r3 : RLL R f nm ns A JA B A (FJ_X0_againWorth (nI i) A J1) (S1_X12_filmsAgain (nI f) Ib Jb (nI i, B1, K1)) := r2.j hn (JW.rf _) v3
    have s4 : S4_X12_filmsAgain (nI f) Ib Jb (nI i, B1, K1) = A 105 1 - (T_X0_filmOneAgain_j84_2 A JA i J1).toInt32 := by
      rw [v2]
      unfold S4_X12_filmsAgain S3_X12_filmsAgain
      dsimp only
      rw [pf]
    have r4 := r3.u (a := 105) (b := 1) (r := 156) (c := f) (v := A 105 1 - (T_X0_filmOneAgain_j84_2 A JA i J1).toInt32) (v' := A 105 1 - (T_X0_filmOneAgain_j84_2 A JA i J1).toInt32) r3.1.w_purse (by omega) (in1 (by omega))
    have k164 := (r4.1.2.2.1 i i8).1.2.2
    have s6 : S6_X12_filmsAgain (nI f) Ib Jb (nI i, B1, K1) = u2 (u2 (S1_X12_filmsAgain (nI f) Ib Jb (nI i, B1, K1)) 156 f (A 105 1 - (T_X0_filmOneAgain_j84_2 A JA i J1).toInt32)) 164 (8 * f + i) (u2 (S1_X12_filmsAgain (nI f) Ib Jb (nI i, B1, K1)) 156 f (A 105 1 - (T_X0_filmOneAgain_j84_2 A JA i J1).toInt32) 164 (8 * f + i) + 1) := by
      unfold S6_X12_filmsAgain S5_X12_filmsAgain
      rw [s4]
      dsimp only
      rw [cel8 hf i8, nI_clamp (show f < 2 ^ 31 by omega)]
    have a1 : S1_X0_filmAgain (nI i) (u2 A 105 1 (A 105 1 - (T_X0_filmOneAgain_j84_2 A JA i J1).toInt32)) (FJ_X0_againWorth (nI i) A J1) = u2 (u2 (u2 A 105 1 (A 105 1 - (T_X0_filmOneAgain_j84_2 A JA i J1).toInt32)) 105 3 (u2 A 105 1 (A 105 1 - (T_X0_filmOneAgain_j84_2 A JA i J1).toInt32) 105 3 + 1)) 108 i (u2 A 105 1 (A 105 1 - (T_X0_filmOneAgain_j84_2 A JA i J1).toInt32) 108 i + 1) := by
      unfold S1_X0_filmAgain
      rw [putF_v i8 (by omega), atF_v i8 (by omega), u2_n _ _ (show ¬ ((108 : Nat) = 105 ∧ i = 3) by omega)]
    have r5 : RLL R f nm ns A JA B (S1_X0_filmAgain (nI i) (u2 A 105 1 (A 105 1 - (T_X0_filmOneAgain_j84_2 A JA i J1).toInt32)) (FJ_X0_againWorth (nI i) A J1)) (FJ_X0_againWorth (nI i) A J1) (S6_X12_filmsAgain (nI f) Ib Jb (nI i, B1, K1)) := by
      rw [a1, s6]
      exact ⟨r4.1.w_again i8, (r4.2.1.u (by omega)).u (by omega), r4.2.2.1.u (in8 (by omega) i8), r4.2.2.2⟩
    have r6 := inner_vL (Ia := u2 A 105 1 (A 105 1 - (T_X0_filmOneAgain_j84_2 A JA i J1).toInt32)) (Ib := Ib) (Ja := FJ_X0_againWorth (nI i) A J1) (Jb := Jb) (s2 := (nI i, B1, K1)) x hf is rfl r5
    have k1 : B_X0_filmOneAgain_l2_2 A JA i J1 = .inr (S1_X0_filmOneAgain A JA i J1, FJ_X0_againWorth (nI i) A J1) := by
      unfold B_X0_filmOneAgain_l2_2
      rw [af, if_neg z1, ec, if_neg c1, if_neg (fun q => cmp.mp q z3)]
    have k2 : B_X12_filmsAgain_w2 (nI f) Ib Jb (nI i, B1, K1) = .inr (.inr ((F_X12_filmsAgain_w71_3 (nI f) Ib Jb (nI i, B1, K1) (0, S6_X12_filmsAgain (nI f) Ib Jb (nI i, B1, K1))).2, S2_X12_filmsAgain (nI f) Ib Jb (nI i, B1, K1))) := by
      unfold B_X12_filmsAgain_w2
      dsimp only
      rw [if_neg g0, cv, if_neg c2, pf, if_pos z3]
    exact Or.inr ⟨_, _, _, _, itE_r _ _ _ _ _ k1, itW_r _ _ _ _ k2, r6⟩
theorem again_vL {R : Nat → Int32 → Int32 → Prop} {b : Int32} {f nm ns np : Nat} {A B : SI} {JA J' : SJ} (h : SCL R 105 f nm ns A JA B) (x : DX b nm ns np A B) (hf : f ≤ 22) : RLL R f nm ns A JA B (FI_X0_filmOneAgain A JA) (FJ_X0_filmOneAgain A JA) (FI_X12_filmsAgain (nI f) B J') := by
  have hn : ns ≤ 8 := x.1.2.1
  have ec : (A 8 1).toNatClampNeg = ns := by rw [x.1.2.2.2.1, nI_clamp (by omega)]
  have L := again_LL (Ib := B) (Jb := J') h x hf ns 0 800 JA B J' (by omega) (by omega) (fun _ _ _ => rfl) (JW.rf JA)
  unfold FI_X0_filmOneAgain FJ_X0_filmOneAgain FI_X12_filmsAgain F_X0_filmOneAgain_l2_2 F_X12_filmsAgain_w2
  rw [ec]
  rcases L with ⟨J2, t, e1, e2, fr, jw⟩ | ⟨A2, J2, B2, K2, e1, e2, r⟩
  · rw [e1, show ((0 : Int32), B, J') = (nI 0, B, J') from rfl, e2]
    exact RLL.j ⟨h, fun _ _ _ => rfl, FS.rf f B, JW.rf JA⟩ hn jw fr
  · rw [e1, show ((0 : Int32), B, J') = (nI 0, B, J') from rfl, e2]
    exact r
theorem RLL.tr {R R' : Nat → Int32 → Int32 → Prop} {f nm ns : Nat} {A0 A1 A2 B0 B1 B2 : SI} {J0 J1 J2 : SJ} (h : RLL R f nm ns A0 J0 B0 A1 J1 B1) (k : RLL R' f nm ns A1 J1 B1 A2 J2 B2) : RLL R' f nm ns A0 J0 B0 A2 J2 B2 := ⟨k.1, h.2.1.tr k.2.1, h.2.2.1.tr k.2.2.1, h.2.2.2.tr k.2.2.2⟩
theorem RLL.rf {R : Nat → Int32 → Int32 → Prop} {f nm ns : Nat} {A B : SI} {J : SJ} (h : SCL R 105 f nm ns A J B) : RLL R f nm ns A J B A J B := ⟨h, fun _ _ _ => rfl, FS.rf f B, JW.rf J⟩
theorem shots_vL {R : Nat → Int32 → Int32 → Prop} {b w : Int32} {f nm ns np : Nat} {A B Ia Ib : SI} {JA J' Ja Jb : SJ} {a0 b1 : Int32} {i2 : Nat} {s2 : SI × SJ} (h : SCL R 105 f nm ns A JA B) (x : DX b nm ns np A B) (hf : f ≤ 22) (hw : F_X0_isAway s2.1 s2.2 = w) (hw2 : F_X12_isAway (nI f) b1 Ib Jb = w) : RLL R f nm ns A JA B (F_X0_pass_w60 a0 Ia Ja i2 s2 (0, A, JA)).2.1 (F_X0_pass_w60 a0 Ia Ja i2 s2 (0, A, JA)).2.2 (F_X12_passes_w50 (nI f) b1 Ib Jb (0, B, J')).2.1 := by
  have hn : ns ≤ 8 := x.1.2.1
  unfold F_X0_pass_w60 F_X12_passes_w50
  have L := itW2 (f := B_X0_pass_w60 a0 Ia Ja i2 s2) (g := B_X12_passes_w50 (nI f) b1 Ib Jb) (fun n (p : Int32 × SI × SJ) (q : Int32 × SI × SJ) => ∃ i, i + n = ns ∧ p.1 = nI i ∧ q.1 = nI i ∧ RLL R f nm ns A JA B p.2.1 p.2.2 q.2.1) (fun (r u : Int32 × SI × SJ) => RLL R f nm ns A JA B r.2.1 r.2.2 u.2.1) ?_ 800 ns 800 (0, A, JA) (0, B, J') ⟨0, by omega, rfl, rfl, RLL.rf h⟩ (by omega) (by omega)
  · exact L _ _
  rintro n ⟨p1, A1, J1⟩ ⟨q1, B1, K1⟩ ⟨i, hi, e1, e2, r⟩
  have e1 : p1 = nI i := e1
  have e2 : q1 = nI i := e2
  subst e1 e2
  have r : RLL R f nm ns A JA B A1 J1 B1 := r
  have sc := r.1
  have y := x.mv r.2.1 r.2.2.1
  obtain ⟨_, _, _, c4, _, c6⟩ := y.1
  by_cases z : n = 0
  · left
    refine ⟨(nI i, A1, J1), (nI i, B1, K1), ?_, ?_, r⟩
    · unfold B_X0_pass_w60
      dsimp only
      rw [if_pos (show A1 8 1 ≤ nI i by rw [c4]; exact nI_le (by omega) (by omega))]
    · unfold B_X12_passes_w50
      dsimp only
      rw [if_pos (show B1 132 1 ≤ nI i by rw [c6]; exact nI_le (by omega) (by omega))]
  right
  have is : i < ns := by omega
  have i8 : i < 8 := by omega
  have g1 : ¬ A1 8 1 ≤ nI i := by rw [c4]; exact nI_ge is (by omega)
  have g2 : ¬ B1 132 1 ≤ nI i := by rw [c6]; exact nI_ge is (by omega)
  have sh := (sc.2.2.1 i i8).1.1
  have dn := sc.dn (J := K1) hf i8
  have ef : atF (A1 107) 8 (nI i) = A1 107 i := atF_v i8 (by omega)
  have ed : atF (A1 106) 8 (nI i) = A1 106 i := atF_v i8 (by omega)
  have dd : A1 106 i = B1 162 (8 * f + i) := sh
  have rd : B1 162 (((8 : Int32) * nI f) + nI i).toNatClampNeg = B1 154 (nI f).toNatClampNeg ↔ A1 106 i = A1 105 0 := by
    rw [cel8 hf i8, nI_clamp (show f < 2 ^ 31 by omega), ← dd, ← sc.1.1]
  have stay : B_X0_pass_w60 a0 Ia Ja i2 s2 (nI i, A1, J1) = .inl (nI (i + 1), A1, J1) → B_X12_passes_w50 (nI f) b1 Ib Jb (nI i, B1, K1) = .inl (nI (i + 1), B1, K1) → ∃ m s' t', m < n ∧ B_X0_pass_w60 a0 Ia Ja i2 s2 (nI i, A1, J1) = .inl s' ∧ B_X12_passes_w50 (nI f) b1 Ib Jb (nI i, B1, K1) = .inl t' ∧ ∃ i, i + m = ns ∧ s'.1 = nI i ∧ t'.1 = nI i ∧ RLL R f nm ns A JA B s'.2.1 s'.2.2 t'.2.1 := fun k1 k2 => ⟨n - 1, _, _, by omega, k1, k2, i + 1, by omega, rfl, rfl, r⟩
  by_cases k1 : A1 107 i = 0
  · by_cases k2 : A1 106 i = A1 105 0
    · have fv := film_vL (w := w) (J' := K1) sc y hf is
      refine ⟨n - 1, (nI (i + 1), FI_X0_film (nI i) w A1 J1, FJ_X0_film (nI i) w A1 J1), (nI (i + 1), FI_X12_films (nI f) (nI i) w B1 K1, FJ_X12_films (nI f) (nI i) w B1 K1), by omega, ?_, ?_, i + 1, by omega, rfl, rfl, r.tr fv⟩
      · unfold B_X0_pass_w60
        dsimp only
        rw [if_neg g1, ef, if_pos k1, ed, if_pos k2, hw, nI_1]
      · unfold B_X12_passes_w50
        dsimp only
        rw [if_neg g2, if_pos (dn.mp k1), if_pos (rd.mpr k2), hw2, nI_1]
    · refine stay ?_ ?_
      · unfold B_X0_pass_w60
        dsimp only
        rw [if_neg g1, ef, if_pos k1, ed, if_neg k2, nI_1]
      · unfold B_X12_passes_w50
        dsimp only
        rw [if_neg g2, if_pos (dn.mp k1), if_neg (fun q => k2 (rd.mp q)), nI_1]
  · refine stay ?_ ?_
    · unfold B_X0_pass_w60
      dsimp only
      rw [if_neg g1, ef, if_neg k1, nI_1]
    · unfold B_X12_passes_w50
      dsimp only
      rw [if_neg g2, if_neg (fun q => k1 (dn.mpr q)), nI_1]
theorem parts_vL {d : Nat} {b w : Int32} {f nm ns np : Nat} {A B Ia Ib : SI} {JA J' Ja Jb : SJ} {a0 b1 : Int32} {i2 : Nat} {s2 : SI × SJ} (h : SCL (fun _ => RR (d + 1)) 105 f nm ns A JA B) (x : DX b nm ns np A B) (hf : f ≤ 22) (hw : F_X0_isAway s2.1 s2.2 = w) (hw2 : F_X12_isAway (nI f) b1 Ib Jb = w) : RLL (fun _ => RR d) f nm ns A JA B (F_X0_pass_w128 a0 Ia Ja i2 s2 (0, A, JA)).2.1 (F_X0_pass_w128 a0 Ia Ja i2 s2 (0, A, JA)).2.2 (F_X12_passes_w109 (nI f) b1 Ib Jb (0, B, J')).2.1 := by
  have p4 : np ≤ 4 := x.2.1.1
  unfold F_X0_pass_w128 F_X12_passes_w109
  have L := itW2 (f := B_X0_pass_w128 a0 Ia Ja i2 s2) (g := B_X12_passes_w109 (nI f) b1 Ib Jb) (fun n (p : Int32 × SI × SJ) (q : Int32 × SI × SJ) => ∃ i, i + n = np ∧ p.1 = nI i ∧ q.1 = nI i ∧ RLL (Rd d i) f nm ns A JA B p.2.1 p.2.2 q.2.1) (fun (r u : Int32 × SI × SJ) => RLL (fun _ => RR d) f nm ns A JA B r.2.1 r.2.2 u.2.1) ?_ 800 np 800 (0, A, JA) (0, B, J') ⟨0, by omega, rfl, rfl, (RLL.rf h).mono (fun q a b _ z => by unfold Rd; rw [if_neg (Nat.not_lt_zero q)]; exact z)⟩ (by omega) (by omega)
  · exact L _ _
  rintro n ⟨p1, A1, J1⟩ ⟨q1, B1, K1⟩ ⟨i, hi, e1, e2, r⟩
  have e1 : p1 = nI i := e1
  have e2 : q1 = nI i := e2
  subst e1 e2
  have r : RLL (Rd d i) f nm ns A JA B A1 J1 B1 := r
  have sc := r.1
  have y := x.mv r.2.1 r.2.2.1
  obtain ⟨_, c4, c6⟩ := y.2.1
  by_cases z : n = 0
  · left
    refine ⟨(nI i, A1, J1), (nI i, B1, K1), ?_, ?_, r.mono (fun _ _ _ _ z => z.all)⟩
    · unfold B_X0_pass_w128
      dsimp only
      rw [if_pos (show A1 13 1 ≤ nI i by rw [c4]; exact nI_le (by omega) (by omega))]
    · unfold B_X12_passes_w109
      dsimp only
      rw [if_pos (show B1 132 3 ≤ nI i by rw [c6]; exact nI_le (by omega) (by omega))]
  have ip : i < np := by omega
  have g1 : ¬ A1 13 1 ≤ nI i := by rw [c4]; exact nI_ge ip (by omega)
  have g2 : ¬ B1 132 3 ≤ nI i := by rw [c6]; exact nI_ge ip (by omega)
  by_cases w0 : w = 0
  · right
    have gv := give_vL (J' := K1) sc y hf ip
    refine ⟨n - 1, (nI (i + 1), FI_X0_give (nI i) A1 J1, FJ_X0_give (nI i) A1 J1), (nI (i + 1), FI_X12_gives (nI f) (nI i) B1 K1, FJ_X12_gives (nI f) (nI i) B1 K1), by omega, ?_, ?_, i + 1, by omega, rfl, rfl, r.tr gv⟩
    · unfold B_X0_pass_w128
      dsimp only
      rw [if_neg g1, hw, if_pos w0, nI_1]
    · unfold B_X12_passes_w109
      dsimp only
      rw [if_neg g2, hw2, if_pos w0, nI_1]
  · left
    refine ⟨(nI i, A1, J1), (nI i, B1, K1), ?_, ?_, r.mono (fun _ _ _ _ z => z.all)⟩
    · unfold B_X0_pass_w128
      dsimp only
      rw [if_neg g1, hw, if_neg w0]
    · unfold B_X12_passes_w109
      dsimp only
      rw [if_neg g2, hw2, if_neg w0]
def DLL (R : Nat → Int32 → Int32 → Prop) (f nm ns : Nat) (A0 : SI) (J0 : SJ) (B0 A1 : SI) (J1 : SJ) (B1 : SI) : Prop := SCL R 105 f nm ns A1 J1 B1 ∧ KP 105 113 A0 A1 ∧ FS f B0 B1 ∧ JDY J0 J1
theorem DLL.mono {R R' : Nat → Int32 → Int32 → Prop} {f nm ns : Nat} {A0 A1 B0 B1 : SI} {J0 J1 : SJ} (h : DLL R f nm ns A0 J0 B0 A1 J1 B1) (k : ∀ q a b, q < 4 → R q a b → R' q a b) : DLL R' f nm ns A0 J0 B0 A1 J1 B1 := ⟨h.1.mono k, h.2⟩
theorem DLL.rf {R : Nat → Int32 → Int32 → Prop} {f nm ns : Nat} {A B : SI} {J : SJ} (h : SCL R 105 f nm ns A J B) : DLL R f nm ns A J B A J B := ⟨h, fun _ _ _ => rfl, FS.rf f B, fun _ _ _ => rfl⟩
theorem DLL.tr {R R' : Nat → Int32 → Int32 → Prop} {f nm ns : Nat} {A0 A1 A2 B0 B1 B2 : SI} {J0 J1 J2 : SJ} (h : DLL R f nm ns A0 J0 B0 A1 J1 B1) (k : DLL R' f nm ns A1 J1 B1 A2 J2 B2) : DLL R' f nm ns A0 J0 B0 A2 J2 B2 := ⟨k.1, h.2.1.tr k.2.1, h.2.2.1.tr k.2.2.1, fun a c z => (k.2.2.2 a c z).trans (h.2.2.2 a c z)⟩
theorem RLL.d {R : Nat → Int32 → Int32 → Prop} {f nm ns : Nat} {A0 A1 B0 B1 : SI} {J0 J1 : SJ} (h : RLL R f nm ns A0 J0 B0 A1 J1 B1) : DLL R f nm ns A0 J0 B0 A1 J1 B1 := ⟨h.1, h.2.1, h.2.2.1, fun a c z => h.2.2.2 a c (by omega)⟩
theorem pass_vL {d : Nat} {b a0 : Int32} {f nm ns np i2 : Nat} {A B Ia : SI} {JA J' Ja : SJ} (h : SCL (fun _ => RR (d + 1)) 105 f nm ns A JA B) (x : DX b nm ns np A B) (hf : f ≤ 22) : DLL (fun _ => RR d) f nm ns A JA B (B_X0_pass_l2 a0 Ia Ja i2 (A, JA)).1 (B_X0_pass_l2 a0 Ia Ja i2 (A, JA)).2 (FI_X12_passes (nI f) b B J') := by
  obtain ⟨w1, w2, w3, w4⟩ := away_vL (J' := J') h x hf
  have ra : DLL (fun _ => RR (d + 1)) f nm ns A JA B A (FJ_X0_isAway A JA) (FI_X12_isAway (nI f) b B J') := ⟨w2, fun _ _ _ => rfl, w4, fun a c z => w3 a c (by omega)⟩
  have r0 : RLL (fun _ => RR (d + 1)) f nm ns A (FJ_X0_isAway A JA) (FI_X12_isAway (nI f) b B J') A (FJ_X0_isAway A JA) (FI_X12_isAway (nI f) b B J') := RLL.rf w2
  have e4 : A 105 4 = FI_X12_isAway (nI f) b B J' 159 f := w2.1.2.2.2.1
  have e5 : A 105 5 = FI_X12_isAway (nI f) b B J' 158 f := w2.1.2.2.2.2.1
  -- the count of days away, and their row
  have r1 := r0.u (a := 105) (b := 4) (r := 159) (c := f) (v := A 105 4 + (if F_X0_isAway A JA = 0 then 0 else 1)) (v' := A 105 4 + (if F_X0_isAway A JA = 0 then 0 else 1)) r0.1.w_adays (by omega) (in1 (by omega))
  have r2 := r1.u (a := 105) (b := 5) (r := 158) (c := f) (v := if F_X0_isAway A JA = 0 then 0 else A 105 5 + 1) (v' := if F_X0_isAway A JA = 0 then 0 else A 105 5 + 1) r1.1.w_arow (by omega) (in1 (by omega))
  have s1 : S1_X0_pass a0 Ia Ja i2 (A, JA) = u2 (u2 A 105 4 (A 105 4 + (if F_X0_isAway A JA = 0 then 0 else 1))) 105 5 (if F_X0_isAway A JA = 0 then 0 else A 105 5 + 1) := by
    unfold S1_X0_pass T_X0_pass_j54 T_X0_pass_j29
    dsimp only
    rw [u2_n _ _ (show ¬ ((105 : Nat) = 105 ∧ (5 : Nat) = 4) by omega)]
  have s2 : S2_X12_passes (nI f) b B J' = u2 (u2 (FI_X12_isAway (nI f) b B J') 159 f (A 105 4 + (if F_X0_isAway A JA = 0 then 0 else 1))) 158 f (if F_X0_isAway A JA = 0 then 0 else A 105 5 + 1) := by
    unfold S2_X12_passes S1_X12_passes T_X12_passes_j28 T_X12_passes_j45
    rw [← w1, nI_clamp (show f < 2 ^ 31 by omega), u2_n _ _ (show ¬ ((159 : Nat) = 158 ∧ f = f) by omega), ← e4, ← e5]
    exact u2_cm (by omega)
  rw [← s1, ← s2] at r2
  have y2 := x.mv (r2.2.1) (w4.tr r2.2.2.1)
  have r3 := shots_vL (w := F_X0_isAway A JA) (Ia := Ia) (Ib := B) (Ja := Ja) (Jb := J') (J' := J') (a0 := a0) (b1 := b) (i2 := i2) (s2 := (A, JA)) r2.1 y2 hf rfl w1.symm
  have r4 := r2.tr r3
  have y3 := x.mv r4.2.1 (w4.tr r4.2.2.1)
  have r5 := parts_vL (w := F_X0_isAway A JA) (Ia := Ia) (Ib := B) (Ja := Ja) (Jb := J') (J' := (F_X12_passes_w50 (nI f) b B J' (0, S2_X12_passes (nI f) b B J', J')).2.2) (a0 := a0) (b1 := b) (i2 := i2) (s2 := (A, JA)) r4.1 y3 hf rfl w1.symm
  have r6 : RLL (fun _ => RR d) f nm ns A (FJ_X0_isAway A JA) (FI_X12_isAway (nI f) b B J') (S4_X0_pass a0 Ia Ja i2 (A, JA)) (S5_X0_pass a0 Ia Ja i2 (A, JA)) (S3_X12_passes (nI f) b B J') := r4.tr r5
  have y4 := x.mv r6.2.1 (w4.tr r6.2.2.1)
  have g3 := y4.2.2.2.2.2.2.1
  have r7 : RLL (fun _ => RR d) f nm ns A (FJ_X0_isAway A JA) (FI_X12_isAway (nI f) b B J') (T_X0_pass_j170 a0 Ia Ja i2 (A, JA)).1 (T_X0_pass_j170 a0 Ia Ja i2 (A, JA)).2 (T_X12_passes_j150 (nI f) b B J').1 := by
    unfold T_X0_pass_j170 T_X12_passes_j150
    by_cases z : S4_X0_pass a0 Ia Ja i2 (A, JA) 104 6 = 0
    · rw [if_pos z, if_pos (g3.mp z)]
      exact r6
    · rw [if_neg z, if_neg (fun q => z (g3.mpr q))]
      exact r6.tr (again_vL (J' := S4_X12_passes (nI f) b B J') r6.1 y4 hf)
  have e0 : (T_X0_pass_j170 a0 Ia Ja i2 (A, JA)).1 105 0 = (T_X12_passes_j150 (nI f) b B J').1 154 f := r7.1.1.1
  have r8 := r7.u (a := 105) (b := 0) (r := 154) (c := f) (v := (T_X0_pass_j170 a0 Ia Ja i2 (A, JA)).1 105 0 + 1) (v' := (T_X0_pass_j170 a0 Ia Ja i2 (A, JA)).1 105 0 + 1) r7.1.w_day (by omega) (in1 (by omega))
  have s6 : FI_X12_passes (nI f) b B J' = u2 (T_X12_passes_j150 (nI f) b B J').1 154 f ((T_X0_pass_j170 a0 Ia Ja i2 (A, JA)).1 105 0 + 1) := by
    unfold FI_X12_passes S6_X12_passes
    rw [nI_clamp (show f < 2 ^ 31 by omega), e0]
  rw [s6]
  exact ra.tr r8.d
theorem days_vL {d : Nat} {b a0 : Int32} {f nm ns np : Nat} {A B Ia : SI} {JA J' Ja : SJ} {g : Nat → SI × SJ → SI × SJ} (hg : ∀ i s, g i s = (FI_X12_passes (nI f) b s.1 s.2, FJ_X12_passes (nI f) b s.1 s.2)) (h : SCL (fun _ => RR d) 105 f nm ns A JA B) (x : DX b nm ns np A B) (hf : f ≤ 22) : ∀ n, n ≤ d → DLL (fun _ => RR (d - n)) f nm ns A JA B (itN (B_X0_pass_l2 a0 Ia Ja) n (A, JA)).1 (itN (B_X0_pass_l2 a0 Ia Ja) n (A, JA)).2 (itN g n (B, J')).1 := by
  intro n
  induction n with
  | zero => intro _; rw [itN_0, itN_0]; exact DLL.rf h
  | succ n ih =>
    intro hn
    have k := ih (by omega)
    rw [show d - n = (d - (n + 1)) + 1 by omega] at k
    rw [itN_s, itN_s, hg]
    exact k.tr (pass_vL (J' := (itN g n (B, J')).2) k.1 (x.mv k.2.1 k.2.2.1) hf)
