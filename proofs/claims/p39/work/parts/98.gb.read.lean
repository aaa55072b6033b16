/-! both: scenes alike, and what is read of them -/
theorem ife {α : Type} {c d : Prop} [Decidable c] [Decidable d] {a b a' b' : α} (h : c ↔ d) (h1 : c → a = a') (h2 : ¬ c → b = b') : (if c then a else b) = if d then a' else b' := by
  by_cases x : c
  · rw [if_pos x, if_pos (h.mp x)]; exact h1 x
  · rw [if_neg x, if_neg (fun y => x (h.mpr y))]; exact h2 x
theorem itN_cg {σ : Type} {f g : Nat → σ → σ} {s0 : σ} : ∀ n, (∀ i, i < n → ∀ s, f i s = g i s) → itN f n s0 = itN g n s0 := by
  intro n
  induction n with
  | zero => intro _; rw [itN_0, itN_0]
  | succ n ih =>
    intro h
    rw [itN_s, itN_s, ih (fun i hi s => h i (by omega) s), h n (by omega)]
theorem itN_id {σ : Type} {f : Nat → σ → σ} {s0 : σ} {n : Nat} : ∀ k, (∀ i, n ≤ i → i < n + k → ∀ s, f i s = s) → itN f (n + k) s0 = itN f n s0 := by
  intro k
  induction k with
  | zero => intro _; rfl
  | succ k ih =>
    intro h
    rw [← Nat.add_assoc, itN_s, h (n + k) (by omega) (by omega), ih (fun i a b s => h i a (by omega) s)]
theorem itN_cut {σ : Type} {f g : Nat → σ → σ} {s0 : σ} {n N : Nat} (hn : n ≤ N) (e : ∀ i, i < n → ∀ s, f i s = g i s) (z : ∀ i, n ≤ i → i < N → ∀ s, f i s = s) : itN f N s0 = itN g n s0 := by
  have k := itN_id (f := f) (s0 := s0) (n := n) (N - n) (fun i a b s => z i a (by omega) s)
  rw [show n + (N - n) = N by omega] at k
  rw [k]
  exact itN_cg n e
/-- a scene alike: the class's at place p, the reference's set f; nm marks, ns shots -/
def SCT (p f nm ns : Nat) (A : SI) (JA : SJ) (B : SI) : Prop := (A p 0 = B 154 f ∧ A p 1 = B 156 f ∧ A p 2 = B 157 f ∧ A p 4 = B 159 f ∧ A p 5 = B 158 f ∧ JA p 6 = (B 155 f).toInt64) ∧ (A p 3 = itN (fun i s => s + B 164 (8 * f + i)) 8 0) ∧ (∀ s, s < 8 → (A (p + 1) s = B 162 (8 * f + s) ∧ A (p + 2) s = B 163 (8 * f + s) ∧ A (p + 3) s = B 164 (8 * f + s)) ∧ (A (p + 2) s = 0 ∨ (A (p + 2) s = 1 ∧ s < ns))) ∧ (∀ s m, s < ns → m < 6 → A (p + 4) (6 * s + m) = B 165 (48 * f + (6 * s + m)) ∧ (A (p + 4) (6 * s + m) = -1 ∨ (inR (A (p + 4) (6 * s + m)) 6 ∧ m < nm))) ∧ (∀ m, m < 6 → (A (p + 5) m = B 160 (6 * f + m) ∧ A (p + 6) m = B 161 (6 * f + m)) ∧ (A (p + 5) m = -1 ∨ inR (A (p + 5) m) 6) ∧ (nm ≤ m → A (p + 6) m = 0)) ∧ (∀ q, q < 4 → (A (p + 7) q = B 166 (4 * f + q) ∧ A (p + 8) q = B 167 (4 * f + q)) ∧ inR (A (p + 7) q) 1000)
def CN (nm ns : Nat) (A B : SI) : Prop := nm ≤ 6 ∧ ns ≤ 8 ∧ A 3 1 = nI nm ∧ A 8 1 = nI ns ∧ B 132 0 = nI nm ∧ B 132 1 = nI ns
/-- rows of the reference's scenes: so many cells a set -/
def szm (a : Nat) : Nat := if a ≤ 159 then 1 else if a ≤ 161 then 6 else if a ≤ 164 then 8 else if a = 165 then 48 else 4
def szc (j : Nat) : Nat := if j = 0 then 6 else if j ≤ 3 then 8 else if j = 4 then 48 else if j ≤ 6 then 6 else 4
theorem SCT.tr {p f p' f' nm ns : Nat} {A A' B B' : SI} {JA JA' : SJ} (h : SCT p f nm ns A JA B) (hn : ns ≤ 8) (ea : ∀ j b, j ≤ 8 → b < szc j → A' (p' + j) b = A (p + j) b) (ej : JA' p' 6 = JA p 6) (eb : ∀ a i, 154 ≤ a → a ≤ 167 → i < szm a → B' a (szm a * f' + i) = B a (szm a * f + i)) : SCT p' f' nm ns A' JA' B' := by
  obtain ⟨⟨h0, h1, h2, h4, h5, h6⟩, h3, hs, hw, hm, hq⟩ := h
  have a0 : ∀ b, b < 6 → A' p' b = A p b := fun b z => ea 0 b (by omega) z
  have b1 : ∀ a, 154 ≤ a → a ≤ 159 → B' a f' = B a f := fun a x y => by
    have e : szm a = 1 := by unfold szm; rw [if_pos y]
    have q := eb a 0 x (by omega) (by rw [e]; omega)
    rw [e, Nat.one_mul, Nat.one_mul] at q
    exact q
  have b6 : ∀ a i, a = 160 ∨ a = 161 → i < 6 → B' a (6 * f' + i) = B a (6 * f + i) := fun a i x y => by
    have e : szm a = 6 := by unfold szm; rw [if_neg (by omega), if_pos (by omega)]
    have q := eb a i (by omega) (by omega) (by rw [e]; exact y)
    rw [e] at q
    exact q
  have b8 : ∀ a i, 162 ≤ a → a ≤ 164 → i < 8 → B' a (8 * f' + i) = B a (8 * f + i) := fun a i x0 x y => by
    have e : szm a = 8 := by unfold szm; rw [if_neg (by omega), if_neg (by omega), if_pos (by omega)]
    have q := eb a i (by omega) (by omega) (by rw [e]; exact y)
    rw [e] at q
    exact q
  have b48 : ∀ i, i < 48 → B' 165 (48 * f' + i) = B 165 (48 * f + i) := fun i y => eb 165 i (by omega) (by omega) y
  have b4 : ∀ a i, a = 166 ∨ a = 167 → i < 4 → B' a (4 * f' + i) = B a (4 * f + i) := fun a i x y => by
    have e : szm a = 4 := by unfold szm; rw [if_neg (by omega), if_neg (by omega), if_neg (by omega), if_neg (by omega)]
    have q := eb a i (by omega) (by omega) (by rw [e]; exact y)
    rw [e] at q
    exact q
  refine ⟨⟨by rw [a0 0 (by omega), b1 154 (by omega) (by omega)]; exact h0, by rw [a0 1 (by omega), b1 156 (by omega) (by omega)]; exact h1, by rw [a0 2 (by omega), b1 157 (by omega) (by omega)]; exact h2, by rw [a0 4 (by omega), b1 159 (by omega) (by omega)]; exact h4, by rw [a0 5 (by omega), b1 158 (by omega) (by omega)]; exact h5, by rw [ej, b1 155 (by omega) (by omega)]; exact h6⟩, ?_, fun s z => ?_, fun s m z y => ?_, fun m z => ?_, fun q z => ?_⟩
  · rw [a0 3 (by omega), h3]
    exact itN_cg 8 (fun i hi s => by rw [b8 164 i (by omega) (by omega) hi])
  · have k := hs s z
    rw [ea 1 s (by omega) z, ea 2 s (by omega) z, ea 3 s (by omega) z, b8 162 s (by omega) (by omega) z, b8 163 s (by omega) (by omega) z, b8 164 s (by omega) (by omega) z]
    exact k
  · have k := hw s m z y
    rw [ea 4 (6 * s + m) (by omega) (show 6 * s + m < 48 by omega), b48 (6 * s + m) (by omega)]
    exact k
  · have k := hm m z
    rw [ea 5 m (by omega) z, ea 6 m (by omega) z, b6 160 m (by omega) z, b6 161 m (by omega) z]
    exact k
  · have k := hq q z
    rw [ea 7 q (by omega) z, ea 8 q (by omega) z, b4 166 q (by omega) z, b4 167 q (by omega) z]
    exact k
/-- the cells of set f -/
def inS (f a b : Nat) : Prop := 154 ≤ a ∧ a ≤ 167 ∧ szm a * f ≤ b ∧ b < szm a * f + szm a
theorem SCT.mv {p f nm ns : Nat} {A A' B B' : SI} {JA JA' : SJ} (h : SCT p f nm ns A JA B) (hn : ns ≤ 8) (ea : ∀ a b, p ≤ a → a ≤ p + 8 → A' a b = A a b) (ej : JA' p 6 = JA p 6) (eb : ∀ a b, inS f a b → B' a b = B a b) : SCT p f nm ns A' JA' B' := h.tr hn (fun j b x _ => ea (p + j) b (by omega) (by omega)) ej (fun a i x y z => eb a _ ⟨x, y, Nat.le_add_right _ _, Nat.add_lt_add_left z _⟩)
theorem way_c {p s m : Nat} {A : SI} {J : SJ} (hs : s < 8) (hm : m < 6) : F_X5_wayIn p (nI s) (nI m) A J = A (p + 4) (6 * s + m) := by
  unfold F_X5_wayIn
  rw [show (6 : Int32) = nI 6 from rfl, nI_mul, nI_add, atF_v (by omega) (by omega), show s * 6 + m = 6 * s + m by omega]
theorem cel48 {f s m : Nat} (h : f ≤ 22) (hs : s < 8) (hm : m < 6) : (((48 : Int32) * nI f) + ((6 : Int32) * nI s) + nI m).toNatClampNeg = 48 * f + (6 * s + m) := by
  rw [show (6 : Int32) = nI 6 from rfl, show (48 : Int32) = nI 48 from rfl, nI_mul, nI_mul, nI_add, nI_add, nI_clamp (by omega)]
  omega
theorem cel8 {f s : Nat} (h : f ≤ 22) (hs : s < 8) : (((8 : Int32) * nI f) + nI s).toNatClampNeg = 8 * f + s := cell_v (m := 8) (by omega)
theorem cel6 {f s : Nat} (h : f ≤ 22) (hs : s < 6) : (((6 : Int32) * nI f) + nI s).toNatClampNeg = 6 * f + s := cell_v (m := 6) (by omega)
theorem cel4 {f s : Nat} (h : f ≤ 22) (hs : s < 4) : (((4 : Int32) * nI f) + nI s).toNatClampNeg = 4 * f + s := cell_v (m := 4) (by omega)
theorem way_m {f s m : Nat} {B : SI} {J : SJ} (h : f ≤ 22) (hs : s < 8) (hm : m < 6) : F_X12_wayIn (nI f) (nI s) (nI m) B J = B 165 (48 * f + (6 * s + m)) := by
  unfold F_X12_wayIn
  rw [cel48 h hs hm]
theorem done_m {f s : Nat} {B : SI} {J : SJ} (h : f ≤ 22) (hs : s < 8) : F_X12_isDone (nI f) (nI s) B J = if B 163 (8 * f + s) = 1 then 1 else 0 := by
  unfold F_X12_isDone
  rw [cel8 h hs]
theorem SCT.dn {p f nm ns s : Nat} {A B : SI} {JA J : SJ} (h : SCT p f nm ns A JA B) (hf : f ≤ 22) (hs : s < 8) : A (p + 2) s = 0 ↔ F_X12_isDone (nI f) (nI s) B J = 0 := by
  obtain ⟨⟨_, k, _⟩, k2⟩ := h.2.2.1 s hs
  rw [done_m hf hs, ← k]
  rcases k2 with z | ⟨z, _⟩
  · rw [z]; decide
  · rw [z]; decide
theorem SCT.wn {p f nm ns s m : Nat} {A B : SI} {JA J J' : SJ} (h : SCT p f nm ns A JA B) (hn : ns ≤ 8) (hf : f ≤ 22) (hs : s < ns) (hm : m < 6) : F_X5_wayIn p (nI s) (nI m) A J = F_X12_wayIn (nI f) (nI s) (nI m) B J' ∧ (F_X5_wayIn p (nI s) (nI m) A J < 0 ↔ F_X12_wayIn (nI f) (nI s) (nI m) B J' = -1) ∧ (nm ≤ m → F_X5_wayIn p (nI s) (nI m) A J < 0) := by
  have k := h.2.2.2.1 s m hs hm
  rw [way_c (by omega) hm, way_m hf (by omega) hm, ← k.1]
  refine ⟨rfl, m1_nn (k.2.imp id And.left), fun z => ?_⟩
  rw [k.2.resolve_right (fun y => by omega)]
  decide
theorem SCT.sn {p f nm ns m : Nat} {A B : SI} {JA : SJ} (h : SCT p f nm ns A JA B) (hf : f ≤ 22) (hm : m < 6) : atF (A (p + 5)) 6 (nI m) = B 160 (((6 : Int32) * nI f) + nI m).toNatClampNeg ∧ (atF (A (p + 5)) 6 (nI m) < 0 ↔ B 160 (((6 : Int32) * nI f) + nI m).toNatClampNeg = -1) := by
  have k := h.2.2.2.2.1 m hm
  rw [atF_v hm (by omega), cel6 hf hm, ← k.1.1]
  exact ⟨rfl, m1_nn k.2.1⟩
theorem times_v {p f nm ns m : Nat} {a : Int32} {A B : SI} {JA J J' : SJ} (h : SCT p f nm ns A JA B) (c : CN nm ns A B) (hf : f ≤ 22) (hm : m < 6) : F_X5_filmedWith p (nI m) a A J = F_X12_timesOf (nI f) (nI m) a B J' := by
  obtain ⟨_, hn, _, _, _, cs⟩ := c
  unfold F_X5_filmedWith F_X5_filmedWith_l5 F_X12_timesOf F_X12_timesOf_l6
  rw [cs, nI_clamp (by omega)]
  refine itN_cut hn (fun i hi s => ?_) (fun i h1 h2 s => ?_)
  · unfold B_X5_filmedWith_l5 B_X12_timesOf_l6
    rw [atF_v (show i < 8 by omega) (by omega)]
    exact ife Iff.rfl (fun _ => rfl) (fun _ => ife (h.dn hf (by omega)) (fun _ => rfl) (fun _ => ife (h.wn hn hf hi hm).2.1 (fun _ => rfl) (fun _ => rfl)))
  · unfold B_X5_filmedWith_l5
    rw [atF_v h2 (by omega), if_pos (((h.2.2.1 i h2).2).resolve_right (fun y => by omega)), ite_self]
    exact Int32.add_zero _
theorem clash_v {p f nm ns s : Nat} {A B : SI} {JA J J' : SJ} (h : SCT p f nm ns A JA B) (c : CN nm ns A B) (hf : f ≤ 22) (hs : s < ns) : F_X12_clashesOf (nI f) (nI s) B J' = if A (p + 2) s = 0 then 0 else F_X5_clashing p (nI s) A J := by
  obtain ⟨hm, hn, _, _, cm, _⟩ := c
  have dn := h.dn (J := J') hf (show s < 8 by omega)
  unfold F_X12_clashesOf F_X12_clashesOf_l5
  by_cases z : A (p + 2) s = 0
  · rw [if_pos z]
    refine itN_inv (P := fun x => x = 0) rfl (fun i x _ q => ?_)
    unfold B_X12_clashesOf_l5 F_X12_doesClash
    rw [if_pos (dn.mp z), if_pos rfl, q]
    rfl
  · rw [if_neg z, cm, nI_clamp (by omega)]
    unfold F_X5_clashing F_X5_clashing_l4
    symm
    refine itN_cut hm (fun i hi x => ?_) (fun i h1 h2 x => ?_)
    · have w := h.wn (J := J) (J' := J') hn hf hs (show i < 6 by omega)
      have sd := h.sn hf (show i < 6 by omega)
      unfold B_X5_clashing_l4 B_X12_clashesOf_l5 F_X12_doesClash
      rw [if_neg (fun y => z (dn.mpr y))]
      by_cases c1 : F_X5_wayIn p (nI s) (nI i) A J < 0
      · rw [if_pos c1, if_pos (w.2.1.mp c1), if_pos rfl]
      · rw [if_neg c1, if_neg (fun y => c1 (w.2.1.mpr y))]
        by_cases c2 : atF (A (p + 5)) 6 (nI i) < 0
        · rw [if_pos c2, if_pos (sd.2.mp c2), if_pos rfl]
        · rw [if_neg c2, if_neg (fun y => c2 (sd.2.mpr y)), ← w.1, ← sd.1]
          by_cases c3 : F_X5_wayIn p (nI s) (nI i) A J = atF (A (p + 5)) 6 (nI i)
          · rw [if_pos c3, if_pos c3.symm, if_pos rfl]
          · rw [if_neg c3, if_neg (show ¬ atF (A (p + 5)) 6 (nI i) = F_X5_wayIn p (nI s) (nI i) A J from fun y => c3 y.symm), if_neg (show ¬ (1 : Int32) = 0 by decide)]
    · unfold B_X5_clashing_l4
      rw [if_pos ((h.wn (J := J) (J' := J') hn hf hs h2).2.2 h1)]
      exact Int32.add_zero _
theorem clashes_v {p f nm ns : Nat} {A B : SI} {JA J J' : SJ} (h : SCT p f nm ns A JA B) (c : CN nm ns A B) (hf : f ≤ 22) : F_X5_clashCount p A J = F_X12_clashesAll (nI f) B J' := by
  have c' := c
  obtain ⟨_, hn, _, _, _, cs⟩ := c'
  unfold F_X5_clashCount F_X5_clashCount_l4 F_X12_clashesAll F_X12_clashesAll_l4
  rw [cs, nI_clamp (by omega)]
  refine itN_cut hn (fun i hi s => ?_) (fun i h1 h2 s => ?_)
  · unfold B_X5_clashCount_l4 B_X12_clashesAll_l4
    rw [atF_v (show i < 8 by omega) (by omega), clash_v (J := J) h c hf hi]
    by_cases z : A (p + 2) i = 0
    · rw [if_pos z, if_pos z]
    · rw [if_neg z, if_neg z]
  · unfold B_X5_clashCount_l4
    rw [atF_v h2 (by omega), if_pos (((h.2.2.1 i h2).2).resolve_right (fun y => by omega))]
    exact Int32.add_zero _
theorem filmed_v {p f nm ns : Nat} {A B : SI} {JA J J' : SJ} (h : SCT p f nm ns A JA B) (hf : f ≤ 22) : F_X5_filmedCount p A J = F_X12_sumOf 163 184 (nI f) B J' := by
  unfold F_X5_filmedCount F_X5_filmedCount_l4 F_X12_sumOf F_X12_sumOf_l5
  refine itN_cg 8 (fun i hi s => ?_)
  unfold B_X5_filmedCount_l4 B_X12_sumOf_l5
  rw [atF_v hi (by omega), cel8 hf hi, (h.2.2.1 i hi).1.2.1]
theorem agains_v {p f nm ns : Nat} {A B : SI} {JA J' : SJ} (h : SCT p f nm ns A JA B) (hf : f ≤ 22) : A p 3 = F_X12_sumOf 164 184 (nI f) B J' := by
  rw [h.2.1]
  unfold F_X12_sumOf F_X12_sumOf_l5
  refine itN_cg 8 (fun i hi s => ?_)
  unfold B_X12_sumOf_l5
  rw [cel8 hf hi]
theorem shot_v {p f nm ns s : Nat} {A B : SI} {JA J J' : SJ} (h : SCT p f nm ns A JA B) (c : CN nm ns A B) (hf : f ≤ 22) (hs : s < ns) : F_X12_callsShot_l8 (nI f) (nI s) B J' (0, 0) = (F_X5_givenCount p A J, F_X5_marksIn p (nI s) A J) := by
  obtain ⟨hm, hn, _, _, cm, _⟩ := c
  have e1 : F_X5_givenCount p A J = itN (B_X5_givenCount_l4 p A J) nm 0 := by
    unfold F_X5_givenCount F_X5_givenCount_l4
    refine itN_cut hm (fun _ _ _ => rfl) (fun i h1 h2 x => ?_)
    unfold B_X5_givenCount_l4
    rw [atF_v h2 (by omega), (h.2.2.2.2.1 i h2).2.2 h1]
    exact Int32.add_zero _
  have e2 : F_X5_marksIn p (nI s) A J = itN (B_X5_marksIn_l4 p (nI s) A J) nm 0 := by
    unfold F_X5_marksIn F_X5_marksIn_l4
    refine itN_cut hm (fun _ _ _ => rfl) (fun i h1 h2 x => ?_)
    unfold B_X5_marksIn_l4
    rw [if_pos ((h.wn (J := J) (J' := J') hn hf hs h2).2.2 h1)]
    exact Int32.add_zero _
  rw [e1, e2]
  unfold F_X12_callsShot_l8
  rw [cm, nI_clamp (by omega)]
  have k : ∀ n, n ≤ nm → itN (B_X12_callsShot_l8 (nI f) (nI s) B J') n (0, 0) = (itN (B_X5_givenCount_l4 p A J) n 0, itN (B_X5_marksIn_l4 p (nI s) A J) n 0) := by
    intro n
    induction n with
    | zero => intro _; rw [itN_0, itN_0, itN_0]
    | succ n ih =>
      intro q
      rw [itN_s, itN_s, itN_s, ih (by omega)]
      have w := h.wn (J := J) (J' := J') hn hf hs (show n < 6 by omega)
      unfold B_X12_callsShot_l8 B_X5_givenCount_l4 B_X5_marksIn_l4
      rw [atF_v (show n < 6 by omega) (by omega), cel6 hf (show n < 6 by omega), (h.2.2.2.2.1 n (by omega)).1.2]
      by_cases c1 : F_X5_wayIn p (nI s) (nI n) A J < 0
      · rw [if_pos c1, if_pos (w.2.1.mp c1)]
      · rw [if_neg c1, if_neg (fun y => c1 (w.2.1.mpr y))]
  exact k nm (Nat.le_refl _)
theorem brk_v {p f nm ns s : Nat} {A B : SI} {JA J J' : SJ} (h : SCT p f nm ns A JA B) (c : CN nm ns A B) (hf : f ≤ 22) (hs : s < 8) : F_X5_breaksBehind p (nI s) A J = F_X12_breaksOf (nI f) (nI s) B J' := by
  obtain ⟨hm, hn, _, _, cm, cs⟩ := c
  unfold F_X5_breaksBehind F_X12_breaksOf
  rw [cs, nI_1, atF_v hs (by omega)]
  by_cases z : ns ≤ s + 1
  · rw [if_pos (nI_le z (by omega))]
    have z1 : atF (A (p + 2)) 8 (nI (s + 1)) = 0 := by
      by_cases y : s + 1 < 8
      · rw [atF_v y (by omega)]
        exact ((h.2.2.1 (s + 1) y).2).resolve_right (fun x => by omega)
      · unfold atF
        rw [if_neg (nI_pos (by omega)), if_pos (nI_le (by omega) (by omega))]
    rw [if_pos z1, ite_self]
  · rw [if_neg (nI_ge (by omega) (by omega)), atF_v (show s + 1 < 8 by omega) (by omega)]
    refine ife (h.dn hf (by omega)) (fun _ => rfl) (fun _ => ife (h.dn hf (by omega)) (fun _ => rfl) (fun _ => ?_))
    unfold F_X5_breaksBehind_l28 F_X12_breaksOf_l39
    rw [cm, nI_clamp (by omega)]
    refine itN_cut hm (fun i hi x => ?_) (fun i h1 h2 x => ?_)
    · have w := h.wn (J := J) (J' := J') (s := s) hn hf (by omega) (show i < 6 by omega)
      have w2 := h.wn (J := J) (J' := J') (s := s + 1) hn hf (by omega) (show i < 6 by omega)
      unfold B_X5_breaksBehind_l28 B_X12_breaksOf_l39
      rw [nI_1]
      exact ife w.2.1 (fun _ => rfl) (fun _ => ife w2.2.1 (fun _ => rfl) (fun _ => ife (by rw [w.1, w2.1]) (fun _ => rfl) (fun _ => rfl)))
    · unfold B_X5_breaksBehind_l28
      rw [if_pos ((h.wn (J := J) (J' := J') (s := s) hn hf (by omega) h2).2.2 h1)]
      exact Int32.add_zero _
theorem breaks_v {p f nm ns : Nat} {A B : SI} {JA J J' : SJ} (h : SCT p f nm ns A JA B) (c : CN nm ns A B) (hf : f ≤ 22) : F_X5_breakCount p A J = F_X12_breaksAll (nI f) B J' := by
  have c' := c
  obtain ⟨_, hn, _, _, _, cs⟩ := c'
  have z : ∀ i, i < 8 → ns ≤ i + 1 → F_X12_breaksOf (nI f) (nI i) B J' = 0 := fun i hi q => by
    unfold F_X12_breaksOf
    rw [cs, nI_1, if_pos (nI_le q (by omega))]
  have e8 : F_X5_breakCount p A J = itN (B_X5_breakCount_l4 p A J) 8 0 := by
    unfold F_X5_breakCount F_X5_breakCount_l4
    have k : itN (B_X5_breakCount_l4 p A J) 8 0 = B_X5_breakCount_l4 p A J 7 (itN (B_X5_breakCount_l4 p A J) 7 0) := itN_s _ 7 _
    rw [k]
    show itN (B_X5_breakCount_l4 p A J) 7 0 = itN (B_X5_breakCount_l4 p A J) 7 0 + F_X5_breaksBehind p (nI 7) A J
    rw [brk_v (J := J) (J' := J') h c hf (show 7 < 8 by omega), z 7 (by omega) (by omega)]
    exact (Int32.add_zero _).symm
  rw [e8]
  unfold F_X12_breaksAll F_X12_breaksAll_l4
  rw [cs, nI_clamp (by omega)]
  refine itN_cut hn (fun i hi s => ?_) (fun i h1 h2 s => ?_)
  · unfold B_X5_breakCount_l4 B_X12_breaksAll_l4
    rw [brk_v (J := J) (J' := J') h c hf (by omega)]
  · unfold B_X5_breakCount_l4
    rw [brk_v (J := J) (J' := J') h c hf h2, z i h2 (by omega)]
    exact Int32.add_zero _
