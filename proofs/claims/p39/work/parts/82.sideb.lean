/-! both: a law's side: the class's rounds -/
def sbd (a0 : Nat) (J : SJ) (s : Int32 × SI) : (Int32 × SI) ⊕ SI := B_X4_side_l14_3 a0 s.2 J 0 s
theorem sbd_eq {a0 : Nat} {I : SI} {J : SJ} {i : Nat} {s : Int32 × SI} : B_X4_side_l14_3 a0 I J i s = sbd a0 J s := rfl
def Rch (a0 : Nat) (J : SJ) : Nat → Int32 × SI → Int32 × SI → Prop
  | 0, s, s' => s' = s
  | k + 1, s, s' => ∃ s1, sbd a0 J s = .inl s1 ∧ Rch a0 J k s1 s'
theorem Rch.tr {a0 : Nat} {J : SJ} : ∀ {k l : Nat} {s s1 s2 : Int32 × SI}, Rch a0 J k s s1 → Rch a0 J l s1 s2 → Rch a0 J (k + l) s s2 := by
  intro k
  induction k with
  | zero => intro l s s1 s2 h h2; rw [Nat.zero_add]; rw [show s1 = s from h] at h2; exact h2
  | succ k ih =>
    intro l s s1 s2 h h2
    rw [show k + 1 + l = (k + l) + 1 by omega]
    obtain ⟨t, h3, h4⟩ := h
    exact ⟨t, h3, ih h4 h2⟩
theorem Rch.one {a0 : Nat} {J : SJ} {s s1 : Int32 × SI} (h : sbd a0 J s = .inl s1) : Rch a0 J 1 s s1 := ⟨s1, h, rfl⟩
def phi (n : Nat) (A : SI) : Nat := if A 41 1 = 0 then (if A 81 5 = 0 then 1 else 2 + n - nx A) else 0
theorem it_op {a0 : Nat} {J : SJ} {A : SI} (c : A 41 1 = 0) : sbd a0 J (1, A) = .inl (F_X4_operand a0 A J, FI_X8_step (FI_X4_operand a0 A J) J) := by
  unfold sbd B_X4_side_l14_3
  rw [if_pos c, if_neg (show ¬ (1 : Int32) = 0 by decide)]
theorem it_sg {a0 : Nat} {J : SJ} {A : SI} (c : A 41 1 = 0) (h : ¬ (A 41 7 = 0 ∧ A 81 5 = 4)) : sbd a0 J (0, A) = .inl (F_X4_sign a0 A J, FI_X8_step (FI_X4_sign a0 A J) J) := by
  unfold sbd B_X4_side_l14_3
  rw [if_pos c, if_pos rfl]
  by_cases z : A 41 7 = 0
  · rw [if_pos z, if_neg (fun q => h ⟨z, q⟩)]
  · rw [if_neg z]
theorem Si.far {n : Nat} {A B : SI} (h : Si n A B) (c : A 41 1 = 0) : nx A ≤ n := by
  obtain ⟨_, _, hn, _, _, _, r, hr, a3, _⟩ := h.2.2.1 c
  unfold nx
  rw [a3, nI_clamp (by omega)]
  exact hr
theorem phi_1 {n : Nat} {A B : SI} (h : Si n A B) (c : A 41 1 = 0) : 1 ≤ phi n A := by
  have := h.far c
  unfold phi
  rw [if_pos c]
  split <;> omega
theorem phi_s {n : Nat} {A A1 B B1 : SI} {J : SJ} (h0 : Si n A B) (c : A 41 1 = 0) (h : Si n A1 B1) (e5 : A1 41 1 = 0 → ¬ A 81 5 = 0 ∧ A1 81 3 = A 81 3) : phi n (FI_X8_step A1 J) + 1 ≤ phi n A := by
  by_cases d : A1 41 1 = 0
  · obtain ⟨k5, e3⟩ := e5 d
    have o := (op_step (J := J) (J' := J) h).2 d
    have o1 := (op_step (J := J) (J' := J) h).1.1
    have n1 := o1.far o.2
    have n0 := h0.far c
    have e : nx A1 = nx A := by unfold nx; rw [e3]
    unfold phi
    rw [if_pos o.2, if_pos c, if_neg k5]
    rcases o.1 with z | z
    · rw [if_pos z]; omega
    · split <;> omega
  · rw [step_id (h.2.2.2 d)]
    have := phi_1 h0 c
    have e : phi n A1 = 0 := by unfold phi; rw [if_neg d]
    omega
/-- what a part's walk gives: rounds of the class to a state that stands beside the model's -/
def G (a0 n : Nat) (J : SJ) (w0 : Int32) (A B' : SI) (P : SI → Prop) : Prop := ∃ (c : Nat) (A' : SI) (w : Int32), Rch a0 J c (w0, A) (w, A') ∧ c + phi n A' ≤ phi n A ∧ Si n A' B' ∧ (A' 41 1 = 0 → w = 0 ∧ P A')
theorem G.f {a0 n : Nat} {J : SJ} {w : Int32} {A B' : SI} {P : SI → Prop} (h : Si n A B') (c : ¬ A 41 1 = 0) : G a0 n J w A B' P := ⟨0, A, w, rfl, by omega, h, fun z => absurd z c⟩
theorem G.pre {a0 n k : Nat} {J : SJ} {w w1 : Int32} {A A1 B' : SI} {P : SI → Prop} (r : Rch a0 J k (w, A) (w1, A1)) (hp : k + phi n A1 ≤ phi n A) (g : G a0 n J w1 A1 B' P) : G a0 n J w A B' P := by
  obtain ⟨c, A', w', h1, h2, h3, h4⟩ := g
  exact ⟨k + c, A', w', r.tr h1, by omega, h3, h4⟩
theorem G.mono {a0 n : Nat} {J : SJ} {w : Int32} {A B' : SI} {P Q : SI → Prop} (g : G a0 n J w A B' P) (h : ∀ X, X 41 1 = 0 → Si n X B' → P X → Q X) : G a0 n J w A B' Q := by
  obtain ⟨c, A', w', h1, h2, h3, h4⟩ := g
  exact ⟨c, A', w', h1, h2, h3, fun z => ⟨(h4 z).1, h A' z h3 (h4 z).2⟩⟩
/-- faults -/
def Fl (w : Int32) (A A' : SI) : Prop := A' 41 1 = w ∧ A' 41 2 = A 81 7 ∧ ¬ A' 81 4 = 0
def Fm (w : Int32) (B B' : SI) : Prop := B' 130 30 = w ∧ B' 130 31 = B 130 27
theorem flt {n : Nat} {w : Int32} {A B A' B' : SI} (h : Si n A B) (c : A 41 1 = 0) (hw : w ≠ 0) (f : Fl w A A') (g : Fm w B B') : Si n A' B' := by
  obtain ⟨_, _, _, _, _, _, r, _, _, _, a7, _⟩ := h.2.2.1 c
  exact ⟨f.1.trans g.1.symm, f.2.1.trans (a7.trans g.2.symm), fun z => absurd (f.1.symm.trans z) hw, fun _ => f.2.2⟩
theorem fail_Fl {w : Int32} {A : SI} {J : SJ} (c : A 41 1 = 0) : Fl w A (FI_X4_fail w A J) := by
  unfold FI_X4_fail
  rw [if_pos c]
  exact ⟨(u2_n _ _ (by omega)).trans ((u2_n _ _ (by omega)).trans (u2_s _ _ _ _)), (u2_n _ _ (by omega)).trans ((u2_s _ _ _ _).trans (u2_n _ _ (by omega))), by rw [u2_s]; decide⟩
theorem fail_f {w : Int32} {A : SI} {J : SJ} (c : ¬ A 41 1 = 0) : FI_X4_fail w A J = A := by unfold FI_X4_fail; rw [if_neg c]
theorem wrong_Fm {w : Int32} {B : SI} {J : SJ} (c : B 130 30 = 0) : Fm w B (FI_X12_wrong w B J) := by
  unfold FI_X12_wrong
  rw [if_pos c]
  exact ⟨(u2_n _ _ (by omega)).trans (u2_s _ _ _ _), (u2_s _ _ _ _).trans (u2_n _ _ (by omega))⟩
theorem wrong_f {w : Int32} {B : SI} {J : SJ} (c : ¬ B 130 30 = 0) : FI_X12_wrong w B J = B := by unfold FI_X12_wrong; rw [if_neg c]
theorem Fl.w {w : Int32} {A A1 A2 : SI} (f : Fl w A A1) (e : ∀ a b, (a = 41 ∧ (b = 1 ∨ b = 2)) ∨ (a = 81 ∧ b = 4) → A2 a b = A1 a b) : Fl w A A2 := ⟨(e 41 1 (by omega)).trans f.1, (e 41 2 (by omega)).trans f.2.1, by rw [e 81 4 (by omega)]; exact f.2.2⟩
theorem Fl.of {w : Int32} {A A0 A1 : SI} (f : Fl w A0 A1) (e : A0 81 7 = A 81 7) : Fl w A A1 := ⟨f.1, f.2.1.trans e, f.2.2⟩
theorem kn_R {A B : SI} {J J' : SJ} {c : Nat} (c0 : B 130 30 = 0) (ea : A 42 11 = nI c) (eb : B 130 35 = nI c) (hc : c ≤ 64) : (c = 64 ∧ FI_X4_knot A J = FI_X4_fail 2 A J ∧ FI_X12_knot B J' = FI_X12_wrong 2 B J') ∨ (c < 64 ∧ FI_X4_knot A J = u2 A 42 11 (nI (c + 1)) ∧ FI_X12_knot B J' = u2 B 130 35 (nI (c + 1))) := by
  unfold FI_X4_knot FI_X12_knot
  rw [if_pos c0, ea, eb, nI_1]
  by_cases z : c = 64
  · subst z
    exact Or.inl ⟨rfl, by rw [if_neg (show ¬ nI 64 < (64 : Int32) by decide)], by rw [if_pos (show nI 64 = (64 : Int32) from rfl)]⟩
  · exact Or.inr ⟨by omega, by rw [if_pos (show nI c < (64 : Int32) from nI_lt (b := 64) (by omega) (by omega))], by rw [if_neg (show ¬ nI c = (64 : Int32) from fun q => z ((nI_eq (b := 64) (by omega) (by omega)).mp q))]⟩
theorem puts_v {a b : Int32} {N : Nat} {B : SI} {J : SJ} (c0 : B 130 30 = 0) (e : B 132 19 = nI N) (hN : N ≤ 64) : FI_X12_puts a b B J = u2 (u2 (u2 B 150 (64 + N) a) 151 (64 + N) b) 132 19 (nI (N + 1)) := by
  have e64 : (64 : Int32) + B 132 19 = nI (64 + N) := by rw [e, show (64 : Int32) = nI 64 from rfl, nI_add]
  have t64 : ((64 : Int32) + B 132 19).toNatClampNeg = 64 + N := by rw [e64, nI_clamp (by omega)]
  have s1 : S1_X12_puts a b B J = (64 : Int32) + B 132 19 := by
    unfold S1_X12_puts
    rw [fr9]
    exact congrArg (fun z => (64 : Int32) + z) (u2_n _ _ (by omega))
  have s2 : S2_X12_puts a b B J = u2 (u2 B 150 (64 + N) a) 151 (64 + N) b := by
    unfold S2_X12_puts
    rw [s1, fr9, t64]
  have f2 : F_X12_fresher 9 (S2_X12_puts a b B J) J = nI N := by
    rw [fr9, s2]
    exact (u2_n _ _ (by omega)).trans ((u2_n _ _ (by omega)).trans e)
  unfold FI_X12_puts S3_X12_puts FI_X12_reads
  rw [if_pos c0, f2, s2, nI_1]
  rfl
theorem puts_f {a b : Int32} {B : SI} {J : SJ} (c : ¬ B 130 30 = 0) : FI_X12_puts a b B J = B := by unfold FI_X12_puts; rw [if_neg c]
theorem knot_f {B : SI} {J : SJ} (c : ¬ B 130 30 = 0) : FI_X12_knot B J = B := by unfold FI_X12_knot; rw [if_neg c]
theorem goOn_f {B : SI} {J : SJ} (c : ¬ B 130 30 = 0) : FI_X12_goOn B J = B := by unfold FI_X12_goOn; rw [if_neg c]
/-- kinds by the model's signs and words -/
theorem sg_iff {n i : Nat} {A B : SI} {J : SJ} (h : Si n A B) (c : A 41 1 = 0) (hi : i < 13) : (¬ F_X12_isSign (sgv i) B J = 0) ↔ A 81 5 = nI (4 + i) := by
  obtain ⟨_, _, _, _, _, _, r, _, _, _, _, kv⟩ := h.2.2.1 c
  have k := kv.sgn.2 i hi
  have c0 : B 130 30 = 0 := h.1.symm.trans c
  rw [k]
  constructor
  · intro q
    have z := isS q
    exact ⟨z.2.1, z.2.2⟩
  · intro q
    unfold F_X12_isSign
    rw [if_pos c0, if_pos q.1, if_pos q.2]
    decide
theorem wd_iff {n i : Nat} {A B : SI} {J : SJ} (h : Si n A B) (c : A 41 1 = 0) (hi : i < 23) : (¬ F_X12_isWord (nI i) B J = 0) ↔ A 81 5 = nI (20 + i) := by
  obtain ⟨_, _, _, _, _, _, r, _, _, _, _, kv⟩ := h.2.2.1 c
  have k := kv.word.2 i hi
  have c0 : B 130 30 = 0 := h.1.symm.trans c
  rw [k]
  constructor
  · intro q
    have z := isW q
    exact ⟨z.2.1, z.2.2⟩
  · intro q
    unfold F_X12_isWord
    rw [if_pos c0, if_pos q.1, if_pos q.2]
    decide
/-- moved along by cells that stay -/
theorem SD.mv {a0 f0 h0 m h : Nat} {A B A' B' : SI} (s : SD a0 f0 h0 m h A B) (eA : ∀ a b, (a = a0 ∧ b = 1) ∨ a = a0 + 1 ∨ a = a0 + 2 ∨ a = 84 ∨ a = 85 ∨ (a = 41 ∧ (b = 6 ∨ b = 7)) ∨ (a = 42 ∧ b = 11) → A' a b = A a b) (eB : ∀ a b, (a = 132 ∧ b = 19) ∨ (a = 130 ∧ (b = 34 ∨ b = 35)) ∨ a = 150 ∨ a = 151 → B' a b = B a b) : SD a0 f0 h0 m h A' B' := by
  obtain ⟨e1, e6, hh, er, en, ⟨c, o, hc, ho, ec, ebc, eo, ebo, eq⟩, cq⟩ := s
  refine ⟨(eA _ _ (by omega)).trans e1, (eA _ _ (by omega)).trans e6, hh, fun j hj => by rw [eA 85 j (by omega), eA 84 j (by omega)]; exact er j hj, (eB _ _ (by omega)).trans en, ⟨c, o, hc, ho, (eA _ _ (by omega)).trans ec, (eB _ _ (by omega)).trans ebc, (eA _ _ (by omega)).trans eo, (eB _ _ (by omega)).trans ebo, eq⟩, fun j hj => ?_⟩
  have e : vk a0 A' m h j = vk a0 A m h j ∧ vv a0 A' m j = vv a0 A m j := by
    unfold vk vv
    rw [eA (a0 + 1) j (by omega), eA (a0 + 2) j (by omega), eA 84 _ (by omega)]
    exact ⟨rfl, rfl⟩
  rw [e.1, e.2, eB 150 _ (by omega), eB 151 _ (by omega)]
  exact cq j hj
theorem SD.op {a0 f0 h0 m h n : Nat} {A B A' B' : SI} (s : SD a0 f0 h0 m h A B) (k3 : K3 a0) (o : Op n A B A' B') : SD a0 f0 h0 m h A' B' := by
  unfold K3 at k3
  exact s.mv (fun a b q => o.2.1 a b (by omega) (by omega)) (fun a b q => o.2.2.1 a b (by omega))
/-- one more on the stack -/
theorem SD.push {a0 f0 h m c o : Nat} {x : Int32} {A B A' B' : SI} (s : SD a0 f0 h m h A B) (eA : ∀ a b, (a = a0 ∧ b = 1) ∨ a = a0 + 1 ∨ a = a0 + 2 ∨ ((a = 84 ∨ a = 85) ∧ b < h) → A' a b = A a b) (e6 : A' 41 6 = nI (h + 1)) (e84 : A' 84 h = x) (e85 : A' 85 h = rk x) (eB : ∀ a b, (a = 132 ∧ b = 19) ∨ a = 150 ∨ a = 151 → B' a b = B a b) (hc : c ≤ 64) (ho : o ≤ 8) (c1 : A' 42 11 = nI c) (c2 : B' 130 35 = nI c) (o1 : A' 41 7 = nI o) (o2 : B' 130 34 = nI o) (eq : f0 + m + (h + 1) = c + o) : SD a0 f0 (h + 1) m (h + 1) A' B' := by
  obtain ⟨e1, _, hh, er, en, _, cq⟩ := s
  refine ⟨(eA _ _ (by omega)).trans e1, e6, Nat.le_refl _, fun j hj => ?_, by rw [eB 132 19 (by omega), en]; exact congrArg nI (by omega), ⟨c, o, hc, ho, c1, c2, o1, o2, eq⟩, fun j hj => ?_⟩
  · by_cases z : j = h
    · rw [z, e84, e85]
    · rw [eA 85 j (by omega), eA 84 j (by omega)]
      exact er j (by omega)
  · have q := cq j (by omega)
    have jm : j < m := by omega
    unfold vk vv at q ⊢
    rw [if_pos jm, if_pos jm] at q ⊢
    rw [eA (a0 + 1) j (by omega), eA (a0 + 2) j (by omega), eB 150 _ (by omega), eB 151 _ (by omega)]
    exact q
/-- a sign told by the model stands on the class's stack -/
theorem SD.puts {a0 f0 h m h' : Nat} {v : Int32} {A B : SI} {J : SJ} (s : SD a0 f0 (h + 1) m h' A B) (c0 : B 130 30 = 0) (hN : f0 + m + (h' - (h + 1)) ≤ 64) (sq : SQ (A 84 h) v) : SD a0 f0 h m h' A (FI_X12_puts 2 v B J) := by
  obtain ⟨e1, e6, hh, er, en, ⟨c, o, hc, ho, ec, ebc, eo, ebo, eq⟩, cq⟩ := s
  rw [puts_v c0 en hN]
  refine ⟨e1, e6, by omega, er, by rw [u2_s]; exact congrArg nI (by omega), ⟨c, o, hc, ho, ec, (u2_n _ _ (by omega)).trans ((u2_n _ _ (by omega)).trans ((u2_n _ _ (by omega)).trans ebc)), eo, (u2_n _ _ (by omega)).trans ((u2_n _ _ (by omega)).trans ((u2_n _ _ (by omega)).trans ebo)), eq⟩, fun j hj => ?_⟩
  by_cases z : j = m + (h' - (h + 1))
  · have f1 : (u2 (u2 (u2 B 150 (64 + (f0 + m + (h' - (h + 1)))) 2) 151 (64 + (f0 + m + (h' - (h + 1)))) v) 132 19 (nI (f0 + m + (h' - (h + 1)) + 1))) 150 (64 + f0 + j) = 2 := by
      rw [show 64 + f0 + j = 64 + (f0 + m + (h' - (h + 1))) by omega]
      exact (u2_n _ _ (by omega)).trans ((u2_n _ _ (by omega)).trans (u2_s _ _ _ _))
    have f2 : (u2 (u2 (u2 B 150 (64 + (f0 + m + (h' - (h + 1)))) 2) 151 (64 + (f0 + m + (h' - (h + 1)))) v) 132 19 (nI (f0 + m + (h' - (h + 1)) + 1))) 151 (64 + f0 + j) = v := by
      rw [show 64 + f0 + j = 64 + (f0 + m + (h' - (h + 1))) by omega]
      exact (u2_n _ _ (by omega)).trans (u2_s _ _ _ _)
    rw [f1, f2]
    refine Or.inr (Or.inr ⟨rfl, ?_⟩)
    unfold vk
    rw [if_neg (by omega), show h' - 1 - (j - m) = h by omega]
    exact sq
  · have f1 : (u2 (u2 (u2 B 150 (64 + (f0 + m + (h' - (h + 1)))) 2) 151 (64 + (f0 + m + (h' - (h + 1)))) v) 132 19 (nI (f0 + m + (h' - (h + 1)) + 1))) 150 (64 + f0 + j) = B 150 (64 + f0 + j) := (u2_n _ _ (by omega)).trans ((u2_n _ _ (by omega)).trans (u2_n _ _ (by omega)))
    have f2 : (u2 (u2 (u2 B 150 (64 + (f0 + m + (h' - (h + 1)))) 2) 151 (64 + (f0 + m + (h' - (h + 1)))) v) 132 19 (nI (f0 + m + (h' - (h + 1)) + 1))) 151 (64 + f0 + j) = B 151 (64 + f0 + j) := (u2_n _ _ (by omega)).trans ((u2_n _ _ (by omega)).trans (u2_n _ _ (by omega)))
    rw [f1, f2]
    exact cq j (by omega)
/-- a knot told alike -/
theorem SD.leaf {a0 f0 h m c o : Nat} {x y s v : Int32} {A B A' : SI} {J : SJ} (d : SD a0 f0 h m h A B) (k3 : K3 a0) (eA : A' = u2 (u2 (u2 (u2 A 42 11 (nI c)) (a0 + 1) m x) (a0 + 2) m y) a0 1 (nI (m + 1))) (c0 : B 130 30 = 0) (hN : f0 + m ≤ 64) (hc : c ≤ 64) (ho : o ≤ 8) (o1 : A 41 7 = nI o) (o2 : B 130 34 = nI o) (eq : f0 + (m + 1) + h = c + o) (q : CQ x y s v) : SD a0 f0 h (m + 1) h A' (FI_X12_puts s v (u2 B 130 35 (nI c)) J) := by
  obtain ⟨e1, e6, hh, er, en, _, cq⟩ := d
  unfold K3 at k3
  have en2 : (u2 B 130 35 (nI c)) 132 19 = nI (f0 + m) := (u2_n _ _ (by omega)).trans (en.trans (congrArg nI (by omega)))
  rw [puts_v ((u2_n _ _ (by omega)).trans c0) en2 (by omega), eA]
  refine ⟨u2_s _ _ _ _, (u2_n _ _ (by omega)).trans ((u2_n _ _ (by omega)).trans ((u2_n _ _ (by omega)).trans ((u2_n _ _ (by omega)).trans e6))), Nat.le_refl _, fun j hj => ?_, by rw [u2_s]; exact congrArg nI (by omega), ⟨c, o, hc, ho, (u2_n _ _ (by omega)).trans ((u2_n _ _ (by omega)).trans ((u2_n _ _ (by omega)).trans (u2_s _ _ _ _))), (u2_n _ _ (by omega)).trans ((u2_n _ _ (by omega)).trans ((u2_n _ _ (by omega)).trans (u2_s _ _ _ _))), (u2_n _ _ (by omega)).trans ((u2_n _ _ (by omega)).trans ((u2_n _ _ (by omega)).trans ((u2_n _ _ (by omega)).trans o1))), (u2_n _ _ (by omega)).trans ((u2_n _ _ (by omega)).trans ((u2_n _ _ (by omega)).trans ((u2_n _ _ (by omega)).trans o2))), eq⟩, fun j hj => ?_⟩
  · have g : ∀ r, r = 84 ∨ r = 85 → (u2 (u2 (u2 (u2 A 42 11 (nI c)) (a0 + 1) m x) (a0 + 2) m y) a0 1 (nI (m + 1))) r j = A r j := fun r hr => (u2_n _ _ (by omega)).trans ((u2_n _ _ (by omega)).trans ((u2_n _ _ (by omega)).trans (u2_n _ _ (by omega))))
    rw [g 84 (by omega), g 85 (by omega)]
    exact er j hj
  · have jm : j < m + 1 := by omega
    unfold vk vv
    rw [if_pos jm, if_pos jm]
    by_cases z : j = m
    · subst z
      have g1 : (u2 (u2 (u2 (u2 A 42 11 (nI c)) (a0 + 1) j x) (a0 + 2) j y) a0 1 (nI (j + 1))) (a0 + 1) j = x := (u2_n _ _ (by omega)).trans ((u2_n _ _ (by omega)).trans (u2_s _ _ _ _))
      have g2 : (u2 (u2 (u2 (u2 A 42 11 (nI c)) (a0 + 1) j x) (a0 + 2) j y) a0 1 (nI (j + 1))) (a0 + 2) j = y := (u2_n _ _ (by omega)).trans (u2_s _ _ _ _)
      have g3 : (u2 (u2 (u2 (u2 B 130 35 (nI c)) 150 (64 + (f0 + j)) s) 151 (64 + (f0 + j)) v) 132 19 (nI (f0 + j + 1))) 150 (64 + f0 + j) = s := by
        rw [show 64 + f0 + j = 64 + (f0 + j) by omega]
        exact (u2_n _ _ (by omega)).trans ((u2_n _ _ (by omega)).trans (u2_s _ _ _ _))
      have g4 : (u2 (u2 (u2 (u2 B 130 35 (nI c)) 150 (64 + (f0 + j)) s) 151 (64 + (f0 + j)) v) 132 19 (nI (f0 + j + 1))) 151 (64 + f0 + j) = v := by
        rw [show 64 + f0 + j = 64 + (f0 + j) by omega]
        exact (u2_n _ _ (by omega)).trans (u2_s _ _ _ _)
      rw [g1, g2, g3, g4]
      exact q
    · have jm2 : j < m := by omega
      have z1 := cq j (by omega)
      unfold vk vv at z1
      rw [if_pos jm2, if_pos jm2] at z1
      have g : ∀ r, r = a0 + 1 ∨ r = a0 + 2 → (u2 (u2 (u2 (u2 A 42 11 (nI c)) (a0 + 1) m x) (a0 + 2) m y) a0 1 (nI (m + 1))) r j = A r j := fun r hr => (u2_n _ _ (by omega)).trans ((u2_n _ _ (by omega)).trans ((u2_n _ _ (by omega)).trans (u2_n _ _ (by omega))))
      have g2 : ∀ r, r = 150 ∨ r = 151 → (u2 (u2 (u2 (u2 B 130 35 (nI c)) 150 (64 + (f0 + m)) s) 151 (64 + (f0 + m)) v) 132 19 (nI (f0 + m + 1))) r (64 + f0 + j) = B r (64 + f0 + j) := fun r hr => (u2_n _ _ (by omega)).trans ((u2_n _ _ (by omega)).trans ((u2_n _ _ (by omega)).trans (u2_n _ _ (by omega))))
      rw [g (a0 + 1) (by omega), g (a0 + 2) (by omega), g2 150 (by omega), g2 151 (by omega)]
      exact z1
