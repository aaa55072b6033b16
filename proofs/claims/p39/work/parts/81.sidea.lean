/-! both: a law's side: the class's stack -/
def rk (x : Int32) : Int32 := F_X4_rank x (fun _ _ => 0) (fun _ _ => 0)
def rn (x : Int32) : Nat := (rk x).toNatClampNeg
theorem rk_v {x : Int32} {I : SI} {J : SJ} : F_X4_rank x I J = rk x := rfl
theorem rk_n (x : Int32) : rk x = nI (rn x) ∧ rn x ≤ 6 := by
  have h : ∃ m, m ≤ 6 ∧ rk x = nI m := by
    have g : ∀ (c : Prop) (d : Decidable c) (a b : Int32), (∃ m, m ≤ 6 ∧ a = nI m) → (∃ m, m ≤ 6 ∧ b = nI m) → ∃ m, m ≤ 6 ∧ (@ite Int32 c d a b) = nI m := fun c d a b x y => by
      by_cases z : c
      · rw [if_pos z]; exact x
      · rw [if_neg z]; exact y
    unfold rk F_X4_rank
    repeat' apply g
    all_goals first
      | exact ⟨0, by omega, rfl⟩
      | exact ⟨1, by omega, rfl⟩
      | exact ⟨2, by omega, rfl⟩
      | exact ⟨3, by omega, rfl⟩
      | exact ⟨4, by omega, rfl⟩
      | exact ⟨5, by omega, rfl⟩
      | exact ⟨6, by omega, rfl⟩
  obtain ⟨m, hm, e⟩ := h
  have : rn x = m := by unfold rn; rw [e, nI_clamp (by omega)]
  rw [this]
  exact ⟨e, hm⟩
theorem addl_v {k m : Nat} {x y : Int32} {I : SI} {J : SJ} (e : I k 1 = nI m) (hm : m < 64) : FI_X1_add k x y I J = u2 (u2 (u2 I (k + 1) m x) (k + 2) m y) k 1 (nI (m + 1)) := by
  have e1 : (u2 I (k + 1) (I k 1).toNatClampNeg x) k 1 = nI m := (u2_n _ _ (by omega)).trans e
  have e2 : S1_X1_add k x y I J = u2 (u2 I (k + 1) m x) (k + 2) m y := by
    unfold S1_X1_add
    rw [e1, e, nI_clamp (by omega)]
  have e3 : (u2 (u2 I (k + 1) m x) (k + 2) m y) k 1 = nI m := (u2_n _ _ (by omega)).trans ((u2_n _ _ (by omega)).trans e)
  unfold FI_X1_add
  rw [e2, e3, nI_1, e, if_neg (nI_pos (by omega)), if_neg (fun q => by have := (nI_leI (a := 64) (by omega) (by omega)).mp q; omega)]
theorem putF_v {I : SI} {r len i : Nat} {x : Int32} (h : i < len) (hl : len < 1000) : putF I r len (nI i) x = u2 I r i x := by
  unfold putF
  rw [if_neg (nI_pos (by omega)), if_neg (fun q => by have := (nI_leI (by omega) (by omega)).mp q; omega), nI_clamp (by omega)]
theorem atF_v {f : Nat → Int32} {len i : Nat} (h : i < len) (hl : len < 1000) : atF f len (nI i) = f i := by
  unfold atF
  rw [if_neg (nI_pos (by omega)), if_neg (fun q => by have := (nI_leI (by omega) (by omega)).mp q; omega), nI_clamp (by omega)]
theorem top_v {I : SI} {J : SJ} {h : Nat} (e : I 41 6 = nI h) (hh : h ≤ 72) : F_X4_topRank I J = if h = 0 then 0 else I 85 (h - 1) := by
  unfold F_X4_topRank
  rw [e]
  by_cases c : h = 0
  · rw [if_pos c, c, if_pos (by decide)]
  · rw [if_neg c, if_neg (fun q => by have := (nI_leI (b := 0) (by omega) (by omega)).mp q; omega), if_neg (fun q => by have := (nI_ltI (a := 72) (by omega) (by omega)).mp q; omega), show (1 : Int32) = nI 1 from rfl, pk_sub (by omega), nI_clamp (by omega)]
/-- what a join changes -/
def KJ (a0 : Nat) (A A' : SI) : Prop := ∀ a b, ¬ (a = a0 ∧ b = 1) → a ≠ a0 + 1 → a ≠ a0 + 2 → ¬ (a = 41 ∧ b = 6) → A' a b = A a b
theorem join_w {a0 ρ m h q : Nat} {A : SI} {J : SJ} (k3 : K3 a0) (e6 : A 41 6 = nI h) (hh : h ≤ 72) (hq : q ≤ h) (e1 : A a0 1 = nI m) (hm : m + (h - q) ≤ 64) (er : ∀ j, j < h → A 85 j = rk (A 84 j)) (hr : ∀ j, q ≤ j → j < h → ρ ≤ rn (A 84 j)) (hb : q = 0 ∨ rn (A 84 (q - 1)) < ρ) (hρ : ρ ≤ 6) : FI_X4_join a0 (nI ρ) A J 41 6 = nI q ∧ FI_X4_join a0 (nI ρ) A J a0 1 = nI (m + (h - q)) ∧ (∀ j, j < m → FI_X4_join a0 (nI ρ) A J (a0 + 1) j = A (a0 + 1) j ∧ FI_X4_join a0 (nI ρ) A J (a0 + 2) j = A (a0 + 2) j) ∧ (∀ t, t < h - q → FI_X4_join a0 (nI ρ) A J (a0 + 1) (m + t) = A 84 (h - 1 - t) ∧ FI_X4_join a0 (nI ρ) A J (a0 + 2) (m + t) = 0) ∧ KJ a0 A (FI_X4_join a0 (nI ρ) A J) := by
  unfold K3 at k3
  have L := whl (f := B_X4_join_w5 a0 (nI ρ) A J) (s0 := (A 41 6, A)) (fun s => ∃ t, t ≤ h - q ∧ s.1 = nI (h - t) ∧ s.2 41 6 = nI (h - t) ∧ s.2 a0 1 = nI (m + t) ∧ (∀ j, j < m → s.2 (a0 + 1) j = A (a0 + 1) j ∧ s.2 (a0 + 2) j = A (a0 + 2) j) ∧ (∀ j, j < t → s.2 (a0 + 1) (m + j) = A 84 (h - 1 - j) ∧ s.2 (a0 + 2) (m + j) = 0) ∧ KJ a0 A s.2) (fun s => s.2 41 6 = nI q ∧ s.2 a0 1 = nI (m + (h - q)) ∧ (∀ j, j < m → s.2 (a0 + 1) j = A (a0 + 1) j ∧ s.2 (a0 + 2) j = A (a0 + 2) j) ∧ (∀ j, j < h - q → s.2 (a0 + 1) (m + j) = A 84 (h - 1 - j) ∧ s.2 (a0 + 2) (m + j) = 0) ∧ KJ a0 A s.2) (fun s => s.1.toNatClampNeg) ⟨0, by omega, e6, e6, e1, fun _ _ => ⟨rfl, rfl⟩, fun j z => absurd z (by omega), fun _ _ _ _ _ _ => rfl⟩ (by show (A 41 6).toNatClampNeg < 800; rw [e6, nI_clamp (by omega)]; omega) (fun s s' hs hf => by
    obtain ⟨t, ht, f1, f6, fm, fo, fn, fk⟩ := hs
    obtain ⟨c1, f2⟩ := inl_of hf
    obtain ⟨c2, f3⟩ := inl_of f2
    have e := Sum.inl.inj f3
    have tv := top_v (J := J) f6 (by omega)
    have ht1 : 0 < h - t := by
      by_cases z : h - t = 0
      · rw [f1, z] at c1; exact absurd (show nI 0 ≤ 0 by decide) c1
      · omega
    rw [tv, if_neg (by omega), fk 85 _ (by omega) (by omega) (by omega) (by omega), er _ (by omega), (rk_n _).1] at c2
    have ht2 : t < h - q := by
      by_cases z : t = h - q
      · rcases hb with hb | hb
        · omega
        · refine absurd (nI_lt (a := rn (A 84 (h - t - 1))) (b := ρ) ?_ (by omega)) c2
          rw [show h - t - 1 = q - 1 by omega]; exact hb
      · omega
    have av : FI_X1_add a0 (atF (s.2 84) 72 (s.2 41 6 - 1)) 0 s.2 J = u2 (u2 (u2 s.2 (a0 + 1) (m + t) (A 84 (h - 1 - t))) (a0 + 2) (m + t) 0) a0 1 (nI (m + t + 1)) := by
      rw [addl_v fm (by omega), f6, show (1 : Int32) = nI 1 from rfl, pk_sub (by omega), atF_v (by omega) (by omega), fk 84 _ (by omega) (by omega) (by omega) (by omega), show h - t - 1 = h - 1 - t by omega]
    have e6' : (FI_X1_add a0 (atF (s.2 84) 72 (s.2 41 6 - 1)) 0 s.2 J) 41 6 = nI (h - t) := by
      rw [av]
      exact (u2_n _ _ (by omega)).trans ((u2_n _ _ (by omega)).trans ((u2_n _ _ (by omega)).trans f6))
    have es : s'.2 = u2 (u2 (u2 (u2 s.2 (a0 + 1) (m + t) (A 84 (h - 1 - t))) (a0 + 2) (m + t) 0) a0 1 (nI (m + t + 1))) 41 6 (nI (h - (t + 1))) := by
      rw [← e]
      show S1_X4_join a0 (nI ρ) A J s = _
      unfold S1_X4_join
      rw [e6', av, show (1 : Int32) = nI 1 from rfl, pk_sub (by omega), show h - t - 1 = h - (t + 1) by omega]
    have es1 : s'.1 = nI (h - (t + 1)) := by
      rw [← e]
      show s.1 + (-1) = _
      rw [f1, show h - t = h - (t + 1) + 1 by omega, pk_m1]
    refine ⟨⟨t + 1, by omega, es1, ?_, ?_, fun j hj => ?_, fun j hj => ?_, fun a b x1 x2 x3 x4 => ?_⟩, ?_⟩
    · rw [es]; exact u2_s _ _ _ _
    · rw [es]; exact (u2_n _ _ (by omega)).trans (u2_s _ _ _ _)
    · rw [es]
      exact ⟨(u2_n _ _ (by omega)).trans ((u2_n _ _ (by omega)).trans ((u2_n _ _ (by omega)).trans ((u2_n _ _ (by omega)).trans (fo j hj).1))), (u2_n _ _ (by omega)).trans ((u2_n _ _ (by omega)).trans ((u2_n _ _ (by omega)).trans ((u2_n _ _ (by omega)).trans (fo j hj).2)))⟩
    · rw [es]
      by_cases z : j = t
      · rw [z]
        exact ⟨(u2_n _ _ (by omega)).trans ((u2_n _ _ (by omega)).trans ((u2_n _ _ (by omega)).trans (u2_s _ _ _ _))), (u2_n _ _ (by omega)).trans ((u2_n _ _ (by omega)).trans (u2_s _ _ _ _))⟩
      · have g := fn j (by omega)
        exact ⟨(u2_n _ _ (by omega)).trans ((u2_n _ _ (by omega)).trans ((u2_n _ _ (by omega)).trans ((u2_n _ _ (by omega)).trans g.1))), (u2_n _ _ (by omega)).trans ((u2_n _ _ (by omega)).trans ((u2_n _ _ (by omega)).trans ((u2_n _ _ (by omega)).trans g.2)))⟩
    · rw [es]
      exact (u2_n _ _ (by omega)).trans ((u2_n _ _ (by omega)).trans ((u2_n _ _ (by omega)).trans ((u2_n _ _ (by omega)).trans (fk a b x1 x2 x3 x4))))
    · rw [es1, f1, nI_clamp (by omega), nI_clamp (by omega)]
      omega) (fun s r hs hf => by
    obtain ⟨t, ht, f1, f6, fm, fo, fn, fk⟩ := hs
    have fin : t = h - q → r = (s.1, s.2) → r.2 41 6 = nI q ∧ r.2 a0 1 = nI (m + (h - q)) ∧ (∀ j, j < m → r.2 (a0 + 1) j = A (a0 + 1) j ∧ r.2 (a0 + 2) j = A (a0 + 2) j) ∧ (∀ j, j < h - q → r.2 (a0 + 1) (m + j) = A 84 (h - 1 - j) ∧ r.2 (a0 + 2) (m + j) = 0) ∧ KJ a0 A r.2 := fun z e => by
      rw [e]
      subst z
      exact ⟨by rw [f6]; exact congrArg nI (by omega), fm, fo, fn, fk⟩
    unfold B_X4_join_w5 at hf
    by_cases c1 : s.1 ≤ 0
    · rw [if_pos c1] at hf
      refine fin ?_ (Sum.inr.inj hf).symm
      rw [f1] at c1
      have := (nI_leI (b := 0) (by omega) (by omega)).mp c1
      omega
    · rw [if_neg c1] at hf
      by_cases c2 : F_X4_topRank s.2 J < nI ρ
      · rw [if_pos c2] at hf
        refine fin ?_ (Sum.inr.inj hf).symm
        by_cases z : t = h - q
        · exact z
        · rw [top_v (J := J) f6 (by omega), if_neg (by omega), fk 85 _ (by omega) (by omega) (by omega) (by omega), er _ (by omega), (rk_n _).1] at c2
          have := (nI_ltI (by have := (rk_n (A 84 (h - t - 1))).2; omega) (by omega)).mp c2
          have := hr (h - t - 1) (by omega) (by omega)
          omega
      · rw [if_neg c2] at hf; cases hf)
  unfold FI_X4_join F_X4_join_w5
  exact L.2.2 _
theorem hold_v {x : Int32} {h : Nat} {I : SI} {J : SJ} (c : I 41 1 = 0) (e6 : I 41 6 = nI h) (hh : h < 72) : FI_X4_hold x I J = u2 (u2 (u2 I 84 h x) 85 h (rk x)) 41 6 (nI (h + 1)) := by
  have e : S1_X4_hold x I J = u2 (u2 I 84 h x) 85 h (rk x) := by
    unfold S1_X4_hold
    rw [e6, putF_v hh (by omega), show (u2 I 84 h x) 41 6 = nI h from (u2_n _ _ (by omega)).trans e6, putF_v hh (by omega), rk_v]
  unfold FI_X4_hold
  rw [if_pos c, e, show (u2 (u2 I 84 h x) 85 h (rk x)) 41 6 = nI h from (u2_n _ _ (by omega)).trans ((u2_n _ _ (by omega)).trans e6), nI_1]
theorem hold_f {x : Int32} {I : SI} {J : SJ} (c : ¬ I 41 1 = 0) : FI_X4_hold x I J = I := by unfold FI_X4_hold; rw [if_neg c]
/-- signs' codes alike -/
def SQ (k v : Int32) : Prop := (∃ i, 3 ≤ i ∧ i < 13 ∧ k = nI (4 + i) ∧ v = sgv i) ∨ (k = 33 ∧ v = 262) ∨ (k = 34 ∧ v = 261) ∨ (k = 35 ∧ v = 260)
/-- knots alike: the class's kind and number, the model's sort and value -/
def CQ (k x s v : Int32) : Prop := (k = 2 ∧ s = 0 ∧ x = v ∧ ∃ j : Nat, j ≤ 9999 ∧ v = nI j) ∨ (∃ i, i < 7 ∧ k = nI (36 + i) ∧ s = 1 ∧ v = nI i) ∨ (s = 2 ∧ SQ k v)
/-- the class's code as if all above a place were joined -/
def vk (a0 : Nat) (A : SI) (m h j : Nat) : Int32 := if j < m then A (a0 + 1) j else A 84 (h - 1 - (j - m))
def vv (a0 : Nat) (A : SI) (m j : Nat) : Int32 := if j < m then A (a0 + 2) j else 0
def SD (a0 f0 h0 m h : Nat) (A B : SI) : Prop := A a0 1 = nI m ∧ A 41 6 = nI h ∧ h0 ≤ h ∧ (∀ j, j < h → A 85 j = rk (A 84 j)) ∧ B 132 19 = nI (f0 + m + (h - h0)) ∧ (∃ c o : Nat, c ≤ 64 ∧ o ≤ 8 ∧ A 42 11 = nI c ∧ B 130 35 = nI c ∧ A 41 7 = nI o ∧ B 130 34 = nI o ∧ f0 + m + h = c + o) ∧ ∀ j, j < m + (h - h0) → CQ (vk a0 A m h j) (vv a0 A m j) (B 150 (64 + f0 + j)) (B 151 (64 + f0 + j))
theorem SD.cap {a0 f0 h0 m h : Nat} {A B : SI} (s : SD a0 f0 h0 m h A B) : h ≤ 72 := by
  obtain ⟨_, _, _, _, _, ⟨c, o, hc, ho, _, _, _, _, e⟩, _⟩ := s
  omega
theorem SD.n {a0 f0 h0 m h : Nat} {A B : SI} (s : SD a0 f0 h0 m h A B) (e : EI B) (c0 : B 130 30 = 0) : f0 + m + (h - h0) ≤ 64 ∧ ∃ c o : Nat, c ≤ 64 ∧ o ≤ 8 ∧ A 42 11 = nI c ∧ B 130 35 = nI c ∧ A 41 7 = nI o ∧ B 130 34 = nI o ∧ f0 + m + h = c + o ∧ f0 + m + (h - h0) ≤ c := by
  obtain ⟨_, _, hh, _, en, ⟨c, o, hc, ho, e1, e2, e3, e4, eq⟩, _⟩ := s
  have q := e.2.2.2.2.2 c0
  have z := e.2.2.2.2.1.2
  have : f0 + m + (h - h0) < 2 ^ 31 := by omega
  unfold nn cc at q
  rw [en, e2, nI_clamp (by omega), nI_clamp (by omega)] at q
  exact ⟨by omega, c, o, hc, ho, e1, e2, e3, e4, eq, q⟩
/-- cells that a side's steps leave -/
def FRS (a0 h : Nat) (A A' : SI) : Prop := ∀ a b, ¬ a = 81 → ¬ a = 41 → ¬ (a = 42 ∧ b = 11) → ¬ ((a = 84 ∨ a = 85) ∧ h ≤ b) → ¬ (a = a0 ∧ b = 1) → ¬ a = a0 + 1 → ¬ a = a0 + 2 → A' a b = A a b
theorem FRS.rf (a0 h : Nat) (A : SI) : FRS a0 h A A := fun _ _ _ _ _ _ _ _ _ => rfl
theorem FRS.tr {a0 h : Nat} {A A1 A2 : SI} (f : FRS a0 h A A1) (g : FRS a0 h A1 A2) : FRS a0 h A A2 := fun a b x1 x2 x3 x4 x5 x6 x7 => (g a b x1 x2 x3 x4 x5 x6 x7).trans (f a b x1 x2 x3 x4 x5 x6 x7)
theorem FRS.dn {a0 h h2 : Nat} {A A1 : SI} (f : FRS a0 h2 A A1) (hh : h ≤ h2) : FRS a0 h A A1 := fun a b x1 x2 x3 x4 x5 x6 x7 => f a b x1 x2 x3 (by omega) x5 x6 x7
theorem KJ.frs {a0 h : Nat} {A A1 : SI} (f : KJ a0 A A1) : FRS a0 h A A1 := fun a b x1 x2 x3 x4 x5 x6 x7 => f a b x5 x6 x7 (by omega)
theorem KX.frs {a0 h : Nat} {A A1 : SI} (f : KX A A1) : FRS a0 h A A1 := fun a b x1 x2 x3 x4 x5 x6 x7 => f a b x1 (by omega)
/-- all above a place joined -/
theorem join_R {a0 ρ f0 h0 m h : Nat} {A B : SI} {J : SJ} (k3 : K3 a0) (sd : SD a0 f0 h0 m h A B) (hN : f0 + m + (h - h0) ≤ 64) (hr : ∀ j, h0 ≤ j → j < h → ρ ≤ rn (A 84 j)) (hb : h0 = 0 ∨ rn (A 84 (h0 - 1)) < ρ) (hρ : ρ ≤ 6) : SD a0 f0 h0 (m + (h - h0)) h0 (FI_X4_join a0 (nI ρ) A J) B ∧ KJ a0 A (FI_X4_join a0 (nI ρ) A J) := by
  have cap := sd.cap
  obtain ⟨e1, e6, hh, er, en, ⟨c, o, hc, ho, ec, ebc, eo, ebo, eq⟩, cq⟩ := sd
  obtain ⟨j6, j1, jo, jn, jk⟩ := join_w (J := J) k3 e6 cap hh e1 (by omega) er hr hb hρ
  unfold K3 at k3
  refine ⟨⟨j1, j6, Nat.le_refl _, fun j hj => ?_, by rw [en]; exact congrArg nI (by omega), ⟨c, o, hc, ho, (jk 42 11 (by omega) (by omega) (by omega) (by omega)).trans ec, ebc, (jk 41 7 (by omega) (by omega) (by omega) (by omega)).trans eo, ebo, by omega⟩, fun j hj => ?_⟩, jk⟩
  · rw [jk 85 j (by omega) (by omega) (by omega) (by omega), jk 84 j (by omega) (by omega) (by omega) (by omega)]
    exact er j (by omega)
  · have q := cq j (by omega)
    have hv : vk a0 (FI_X4_join a0 (nI ρ) A J) (m + (h - h0)) h0 j = vk a0 A m h j ∧ vv a0 (FI_X4_join a0 (nI ρ) A J) (m + (h - h0)) j = vv a0 A m j := by
      unfold vk vv
      have hj2 : j < m + (h - h0) := by omega
      rw [if_pos hj2, if_pos hj2]
      by_cases z : j < m
      · simp only [if_pos z]
        exact jo j z
      · simp only [if_neg z]
        have g := jn (j - m) (by omega)
        rw [show m + (j - m) = j by omega] at g
        exact g
    rw [hv.1, hv.2]
    exact q
