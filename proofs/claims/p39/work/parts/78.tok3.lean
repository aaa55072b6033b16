/-! both: words, names, signs; tokens alike -/
theorem chne {i j : Nat} (hi : i < 23) (h : j < wln i) : chS 3 (wof i + j) ≠ 32 := by
  rw [(wd_1 i hi j h).1, show (32 : Int32) = nI 32 from rfl]
  intro q
  have := (nI_eq (by have := wd_4 i hi j (by have := (wd_2 i hi).2.1; omega); omega) (by omega)).mp q
  omega
theorem w15_R {B t : SI} {J : SJ} {p k i : Nat} (hpk : p + k ≤ 700) (e27 : t 130 27 = nI p) (e26 : t 130 26 = nI (p + k)) (e31 : ∀ b, t 131 b = B 131 b) (hi : i < 23) (s : Int32 × Int32) (es : s.2 = nI (wof i)) : ∃ m, m ≤ wln i ∧ F_X12_word_w15 t J s 0 = nI m ∧ ((chS 3 (wof i + m) = 32 ∧ m = k) ↔ MT B p k i) := by
  have w2 := wd_2 i hi
  have w5 := wd_5 i hi
  have L := whl (f := B_X12_word_w15 t J s) (s0 := (0 : Int32)) (fun x => ∃ m, m ≤ wln i ∧ x = nI m ∧ m ≤ k ∧ ∀ j, j < m → B 131 (p + j) = chS 3 (wof i + j)) (fun x => ∃ m, m ≤ wln i ∧ x = nI m ∧ ((chS 3 (wof i + m) = 32 ∧ m = k) ↔ MT B p k i)) (fun x => 10 - x.toNatClampNeg) ⟨0, by omega, rfl, by omega, fun j h => absurd h (by omega)⟩ (by show 10 - _ < 800; omega) (fun x x' h hf => by
    obtain ⟨m, h1, e, h2, h3⟩ := h
    obtain ⟨c1, f2⟩ := inl_of hf
    obtain ⟨c2, f3⟩ := inl_of f2
    rw [es, e, nI_add, nI_clamp (by omega)] at c1
    rw [e26, e27, e, nI_add] at c2
    have mk : m < k := by
      by_cases z : k ≤ m
      · exact absurd (nI_le (show p + k ≤ p + m by omega) (by omega)) c2
      · omega
    have ml : m < wln i := by
      by_cases z : m = wln i
      · rw [z] at c1; exact absurd w2.1 c1
      · omega
    by_cases c3 : t 131 (t 130 27 + x).toNatClampNeg = chS 3 (s.2 + x).toNatClampNeg
    · rw [if_pos c3] at f3
      cases f3
      rw [e27, es, e, nI_add, nI_add, nI_clamp (by omega), nI_clamp (by omega), e31] at c3
      refine ⟨⟨m + 1, by omega, by rw [e, nI_1], by omega, fun j hj => ?_⟩, ?_⟩
      · by_cases z : j < m
        · exact h3 j z
        · have : j = m := by omega
          rw [this]; exact c3
      · rw [e, nI_1, nI_clamp (by omega), nI_clamp (by omega)]
        omega
    · rw [if_neg c3] at f3; cases f3) (fun x r h hf => by
    obtain ⟨m, h1, e, h2, h3⟩ := h
    unfold B_X12_word_w15 at hf
    by_cases c1 : chS 3 (s.2 + x).toNatClampNeg = 32
    · rw [if_pos c1] at hf
      cases hf
      rw [es, e, nI_add, nI_clamp (by omega)] at c1
      have ml : m = wln i := by
        by_cases z : m < wln i
        · exact absurd c1 (chne hi z)
        · omega
      refine ⟨m, h1, e, ⟨fun q => ⟨by rw [← q.2, ml], fun j hj => h3 j (by omega)⟩, fun q => ⟨c1, by rw [ml, q.1]⟩⟩⟩
    · rw [if_neg c1] at hf
      rw [es, e, nI_add, nI_clamp (by omega)] at c1
      have ml : m < wln i := by
        by_cases z : m = wln i
        · rw [z] at c1; exact absurd w2.1 c1
        · omega
      by_cases c2 : t 130 26 ≤ t 130 27 + x
      · rw [if_pos c2] at hf
        cases hf
        rw [e26, e27, e, nI_add] at c2
        have := (nI_leI (by omega) (by omega)).mp c2
        exact ⟨m, h1, e, ⟨fun q => absurd q.1 c1, fun q => absurd q.1 (by omega)⟩⟩
      · rw [if_neg c2] at hf
        by_cases c3 : t 131 (t 130 27 + x).toNatClampNeg = chS 3 (s.2 + x).toNatClampNeg
        · rw [if_pos c3] at hf; cases hf
        · rw [if_neg c3] at hf
          cases hf
          rw [e27, es, e, nI_add, nI_add, nI_clamp (by omega), nI_clamp (by omega), e31] at c3
          exact ⟨m, h1, e, ⟨fun q => absurd q.1 c1, fun q => absurd (q.2 m ml) c3⟩⟩)
  exact L.2.2 _
theorem w97_R {i : Nat} (hi : i < 23) (f : Int32 → Int32 ⊕ Int32) (hf0 : ∀ t, f t = if chS 3 t.toNatClampNeg = 32 then .inr t else .inl (t + 1)) : ∀ d, (itW f 800 (nI (wof i))).getD d = nI (wof i + wln i) := by
  have w2 := wd_2 i hi
  have w5 := wd_5 i hi
  exact (whl (f := f) (s0 := nI (wof i)) (fun x => ∃ m, m ≤ wln i ∧ x = nI (wof i + m)) (fun x => x = nI (wof i + wln i)) (fun x => 200 - x.toNatClampNeg) ⟨0, by omega, rfl⟩ (by show 200 - _ < 800; omega) (fun x x' h hf => by
    obtain ⟨m, h1, e⟩ := h
    rw [hf0] at hf
    obtain ⟨c1, f2⟩ := inl_of hf
    cases f2
    rw [e, nI_clamp (by omega)] at c1
    have ml : m < wln i := by
      by_cases z : m = wln i
      · rw [z] at c1; exact absurd w2.1 c1
      · omega
    refine ⟨⟨m + 1, by omega, by rw [e, nI_1]; rfl⟩, ?_⟩
    rw [e, nI_1, nI_clamp (by omega), nI_clamp (by omega)]
    omega) (fun x r h hf => by
    obtain ⟨m, h1, e⟩ := h
    rw [hf0] at hf
    by_cases c1 : chS 3 x.toNatClampNeg = 32
    · rw [if_pos c1] at hf
      cases hf
      rw [e, nI_clamp (by omega)] at c1
      have ml : m = wln i := by
        by_cases z : m < wln i
        · exact absurd c1 (chne hi z)
        · omega
      rw [e, ml]
    · rw [if_neg c1] at hf; cases hf)).2.2
/-- which word it is -/
theorem word_R {B t : SI} {J : SJ} {p k : Nat} (hpk : p + k ≤ 700) (e27 : t 130 27 = nI p) (e26 : t 130 26 = nI (p + k)) (e31 : ∀ b, t 131 b = B 131 b) : (∃ i, i < 23 ∧ MT B p k i ∧ (∀ j, j < i → ¬ MT B p k j) ∧ F_X12_word t J = nI i) ∨ ((∀ i, i < 23 → ¬ MT B p k i) ∧ F_X12_word t J = -1) := by
  have L := whl (f := B_X12_word_w4 t J) (s0 := ((0 : Int32), (0 : Int32))) (fun s => ∃ i, i ≤ 23 ∧ s.1 = nI i ∧ s.2 = nI (wof i) ∧ ∀ j, j < i → ¬ MT B p k j) (fun r => match r with | .inl _ => ∀ i, i < 23 → ¬ MT B p k i | .inr x => ∃ i, i < 23 ∧ MT B p k i ∧ (∀ j, j < i → ¬ MT B p k j) ∧ x = nI i) (fun s => 30 - s.1.toNatClampNeg) ⟨0, by omega, rfl, rfl, fun j h => absurd h (by omega)⟩ (by show 30 - _ < 800; omega) (fun s s' h hf => by
    obtain ⟨i, h1, e1, e2, h2⟩ := h
    obtain ⟨c1, f2⟩ := inl_of hf
    have hi : i < 23 := by
      by_cases z : i = 23
      · rw [e2, z] at c1; exact absurd (show nI (STL.getD 3 0) ≤ nI (wof 23) by decide) c1
      · omega
    have w2 := wd_2 i hi
    have w5 := wd_5 i hi
    obtain ⟨m, m1, m2, m3⟩ := w15_R (J := J) hpk e27 e26 e31 hi s e2
    have a1 : F_X12_word_w97 t J s s.2 + 1 = nI (wof (i + 1)) := by
      unfold F_X12_word_w97
      rw [e2, w97_R hi (B_X12_word_w97 t J s) (fun _ => rfl), nI_1, w2.2.2]
    have a2 : F_X12_word_w97_2 t J s s.2 + 1 = nI (wof (i + 1)) := by
      unfold F_X12_word_w97_2
      rw [e2, w97_R hi (B_X12_word_w97_2 t J s) (fun _ => rfl), nI_1, w2.2.2]
    have no : ¬ MT B p k i → ∀ j, j < i + 1 → ¬ MT B p k j := fun z j hj => by
      by_cases y : j < i
      · exact h2 j y
      · have : j = i := by omega
        rw [this]; exact z
    rw [m2] at f2
    have mu : 30 - (nI (i + 1)).toNatClampNeg < 30 - s.1.toNatClampNeg := by
      rw [e1, nI_clamp (by omega), nI_clamp (by omega)]
      omega
    by_cases c2 : chS 3 (s.2 + nI m).toNatClampNeg = 32
    · rw [if_pos c2] at f2
      by_cases c3 : t 130 27 + nI m = t 130 26
      · rw [if_pos c3] at f2; cases f2
      · rw [if_neg c3] at f2
        have e := Sum.inl.inj f2
        rw [← e, e1, nI_1]
        refine ⟨⟨i + 1, by omega, rfl, a2, no (fun z => c3 ?_)⟩, by rw [← e1]; exact mu⟩
        rw [e27, e26, nI_add, (m3.mpr z).2]
    · rw [if_neg c2] at f2
      have e := Sum.inl.inj f2
      rw [← e, e1, nI_1]
      refine ⟨⟨i + 1, by omega, rfl, a1, no (fun z => c2 ?_)⟩, by rw [← e1]; exact mu⟩
      rw [e2, nI_add, nI_clamp (by omega)]
      exact (m3.mpr z).1) (fun s r h hf => by
    obtain ⟨i, h1, e1, e2, h2⟩ := h
    unfold B_X12_word_w4 at hf
    by_cases c1 : nI (STL.getD 3 0) ≤ s.2
    · rw [if_pos c1] at hf
      cases hf
      show ∀ i, i < 23 → ¬ MT B p k i
      have hi : ¬ i < 23 := fun hi => by
        have w5 := wd_5 i hi
        rw [e2] at c1
        have := (nI_leI (a := 118) (by omega) (by omega)).mp c1
        omega
      exact fun j hj => h2 j (by omega)
    · rw [if_neg c1] at hf
      have hi : i < 23 := by
        by_cases z : i = 23
        · rw [e2, z] at c1; exact absurd (show nI (STL.getD 3 0) ≤ nI (wof 23) by decide) c1
        · omega
      have w5 := wd_5 i hi
      obtain ⟨m, m1, m2, m3⟩ := w15_R (J := J) hpk e27 e26 e31 hi s e2
      have w2 := wd_2 i hi
      rw [m2] at hf
      by_cases c2 : chS 3 (s.2 + nI m).toNatClampNeg = 32
      · rw [if_pos c2] at hf
        by_cases c3 : t 130 27 + nI m = t 130 26
        · rw [if_pos c3] at hf
          cases hf
          refine ⟨i, hi, m3.mp ⟨?_, ?_⟩, h2, e1⟩
          · rw [e2, nI_add, nI_clamp (by omega)] at c2
            exact c2
          · rw [e27, e26, nI_add] at c3
            have := (nI_eq (by omega) (by omega)).mp c3
            omega
        · rw [if_neg c3] at hf; cases hf
      · rw [if_neg c2] at hf; cases hf)
  have z := L.2.2 (.inl (0, 0))
  unfold F_X12_word F_X12_word_w4
  generalize (itW (B_X12_word_w4 t J) 800 (0, 0)).getD (.inl (0, 0)) = r at z
  cases r with
  | inl x => exact Or.inr ⟨z, rfl⟩
  | inr x => exact Or.inl z
/-- the class's words -/
theorem find_R {A I0 : SI} {J : SJ} {f : Nat → Nat} (hf6 : ∀ j, j < 6 → f j ≤ 26) (wd0 : WD I0) (e5 : I0 81 5 = 3) (e6 : I0 81 6 = nI (PV f)) : KR1 81 (· = 5) I0 (F_X8_word_w90 A J (0, I0)).2 ∧ ((∃ i, i < 23 ∧ (∀ j, j < 6 → f j = wd i j) ∧ (∀ q, q < i → ¬ ∀ j, j < 6 → f j = wd q j) ∧ (F_X8_word_w90 A J (0, I0)).2 81 5 = nI (20 + i)) ∨ ((∀ i, i < 23 → ¬ ∀ j, j < 6 → f j = wd i j) ∧ (F_X8_word_w90 A J (0, I0)).2 81 5 = 3)) := by
  have L := whl (f := B_X8_word_w90 A J) (s0 := ((0 : Int32), I0)) (fun s => ∃ i, i ≤ 23 ∧ s.1 = nI i ∧ KR1 81 (· = 5) I0 s.2 ∧ ((s.2 81 5 = 3 ∧ ∀ q, q < i → ¬ ∀ j, j < 6 → f j = wd q j) ∨ (∃ q, q + 1 = i ∧ (∀ j, j < 6 → f j = wd q j) ∧ (∀ q', q' < q → ¬ ∀ j, j < 6 → f j = wd q' j) ∧ s.2 81 5 = nI (20 + q)))) (fun s => KR1 81 (· = 5) I0 s.2 ∧ ((∃ i, i < 23 ∧ (∀ j, j < 6 → f j = wd i j) ∧ (∀ q, q < i → ¬ ∀ j, j < 6 → f j = wd q j) ∧ s.2 81 5 = nI (20 + i)) ∨ ((∀ i, i < 23 → ¬ ∀ j, j < 6 → f j = wd i j) ∧ s.2 81 5 = 3))) (fun s => 30 - s.1.toNatClampNeg) ⟨0, by omega, rfl, KR1.rf _ _ _, Or.inl ⟨e5, fun q h => absurd h (by omega)⟩⟩ (by show 30 - _ < 800; omega) (fun s s' h hf => by
    obtain ⟨i, h1, e1, k, h2⟩ := h
    obtain ⟨c1, f2⟩ := inl_of hf
    have hi : i < 23 := by
      by_cases z : i = 23
      · rw [e1, z] at c1; exact absurd (show (23 : Int32) ≤ nI 23 by decide) c1
      · omega
    by_cases c2 : s.2 81 5 = 3
    · rw [if_pos c2] at f2
      have h3 : ∀ q, q < i → ¬ ∀ j, j < 6 → f j = wd q j := by
        rcases h2 with h2 | ⟨q, q1, -, -, z⟩
        · exact h2.2
        · rw [z] at c2
          have := (nI_eq (b := 3) (by omega) (by omega)).mp c2
          omega
      have ev : (s.2 82 s.1.toNatClampNeg = s.2 81 6) ↔ ∀ j, j < 6 → f j = wd i j := by
        rw [e1, nI_clamp (by omega), k 82 i (by omega), wd0 i hi, k 81 6 (by omega), e6, nI_eq (by have := pv_lt (fun j hj => wd_4 i hi j hj); omega) (by have := pv_lt hf6; omega)]
        constructor
        · intro z j hj
          exact (pv_inj (fun j hj => wd_4 i hi j hj) hf6 z j hj).symm
        · intro z
          unfold PV
          rw [z 0 (by omega), z 1 (by omega), z 2 (by omega), z 3 (by omega), z 4 (by omega), z 5 (by omega)]
      have mu : 30 - (s.1 + 1).toNatClampNeg < 30 - s.1.toNatClampNeg := by
        rw [e1, nI_1, nI_clamp (by omega), nI_clamp (by omega)]
        omega
      by_cases c3 : s.2 82 s.1.toNatClampNeg = s.2 81 6
      · rw [if_pos c3] at f2
        have e := Sum.inl.inj f2
        rw [← e]
        refine ⟨⟨i + 1, by omega, by rw [e1, nI_1], k.u rfl, Or.inr ⟨i, rfl, ev.mp c3, h3, ?_⟩⟩, mu⟩
        show u2 s.2 81 5 (20 + s.1) 81 5 = _
        rw [u2_s, e1, show (20 : Int32) = nI 20 from rfl, nI_add]
      · rw [if_neg c3] at f2
        have e := Sum.inl.inj f2
        rw [← e]
        refine ⟨⟨i + 1, by omega, by rw [e1, nI_1], k.u rfl, Or.inl ⟨(show u2 s.2 81 5 3 81 5 = 3 from u2_s _ _ _ _), fun q hq => ?_⟩⟩, mu⟩
        by_cases y : q < i
        · exact h3 q y
        · have : q = i := by omega
          rw [this]; exact fun z => c3 (ev.mpr z)
    · rw [if_neg c2] at f2; cases f2) (fun s r h hf => by
    obtain ⟨i, h1, e1, k, h2⟩ := h
    have fin : r.2 = s.2 → (s.2 81 5 = 3 → i = 23) → KR1 81 (· = 5) I0 r.2 ∧ ((∃ i, i < 23 ∧ (∀ j, j < 6 → f j = wd i j) ∧ (∀ q, q < i → ¬ ∀ j, j < 6 → f j = wd q j) ∧ r.2 81 5 = nI (20 + i)) ∨ ((∀ i, i < 23 → ¬ ∀ j, j < 6 → f j = wd i j) ∧ r.2 81 5 = 3)) := fun er hh => by
      rw [er]
      refine ⟨k, ?_⟩
      rcases h2 with ⟨a, b⟩ | ⟨q, a, b, c, d⟩
      · have := hh a
        exact Or.inr ⟨fun q hq => b q (by omega), a⟩
      · exact Or.inl ⟨q, by omega, b, c, d⟩
    unfold B_X8_word_w90 at hf
    by_cases c1 : (23 : Int32) ≤ s.1
    · rw [if_pos c1] at hf
      cases hf
      refine fin rfl (fun _ => ?_)
      rw [e1] at c1
      have := (nI_leI (a := 23) (by omega) (by omega)).mp c1
      omega
    · rw [if_neg c1] at hf
      by_cases c2 : s.2 81 5 = 3
      · rw [if_pos c2] at hf
        by_cases c3 : s.2 82 s.1.toNatClampNeg = s.2 81 6
        · rw [if_pos c3] at hf; cases hf
        · rw [if_neg c3] at hf; cases hf
      · rw [if_neg c2] at hf
        cases hf
        exact fin rfl (fun z => absurd z c2))
  unfold F_X8_word_w90
  exact L.2.2 _
def PN (f : Nat → Nat) : Nat → Nat
  | 0 => 0
  | i + 1 => PN f i * 32 + f i
theorem pn_6 (f : Nat → Nat) : PN f 6 = PV f := by
  unfold PV
  simp only [PN]
  omega
theorem pn_lt (f : Nat → Nat) (hf : ∀ j, f j ≤ 26) : ∀ i, PN f i < 32 ^ i := by
  intro i
  induction i with
  | zero => exact Nat.lt_of_lt_of_le Nat.zero_lt_one (Nat.le_refl _)
  | succ i ih =>
    have := hf i
    simp only [PN, Nat.pow_succ]
    omega
theorem name_R {B t : SI} {J : SJ} {p k : Nat} (hpk : p + k ≤ 700) (lt : LT B p k) (e27 : t 130 27 = nI p) (e26 : t 130 26 = nI (p + k)) (e31 : ∀ b, t 131 b = B 131 b) : KR1 130 (· = 29) t (FI_X12_name t J) ∧ FI_X12_name t J 130 29 = nI (PV (dg B p k)) := by
  have N := itN_ind (f := B_X12_name_l7 t J) (N := 6) (s0 := u2 t 130 29 0) (fun i s => KR1 130 (· = 29) t s ∧ s 130 29 = nI (PN (dg B p k) i)) ⟨(KR1.rf _ _ _).u rfl, u2_s _ _ _ _⟩ (fun i s hi h => by
    obtain ⟨kr, e⟩ := h
    have b := pn_lt (dg B p k) (dg_le lt) i
    have b2 : (32 : Nat) ^ i ≤ 32 ^ 5 := Nat.pow_le_pow_right (by decide) (by omega)
    have b3 : PN (dg B p k) i < 33554432 := Nat.lt_of_lt_of_le b b2
    have dl := dg_le lt i
    have sh : s 130 29 <<< ((5 : Int32) &&& 31) = nI (PN (dg B p k) i * 32) := by
      rw [e]
      exact pk_shlN _ 5 (by decide) (by omega)
    unfold B_X12_name_l7 S1_X12_name
    rw [sh, kr 130 26 (by omega), kr 130 27 (by omega), kr 131 _ (by omega), e26, e27, nI_add]
    by_cases c : nI (p + k) ≤ nI (p + i)
    · rw [if_pos c]
      have := (nI_leI (by omega) (by omega)).mp c
      refine ⟨kr.u rfl, (u2_s _ _ _ _).trans ?_⟩
      rw [or00]
      simp only [PN]
      rw [dg_out (by omega)]
      rfl
    · rw [if_neg c]
      have ik : i < k := by
        by_cases z : k ≤ i
        · exact absurd (nI_le (by omega) (by omega)) c
        · omega
      have g := dg_in lt ik
      refine ⟨kr.u rfl, (u2_s _ _ _ _).trans ?_⟩
      rw [nI_clamp (by omega), e31, g.2.2, show (97 : Int32) = nI 97 from rfl, pk_sub (by omega), nI_1, show 96 + dg B p k i - 97 + 1 = dg B p k i by omega, orN (m := 5) (by omega) (by omega) (by omega)]
      rfl) 6 (Nat.le_refl _)
  unfold FI_X12_name F_X12_name_l7
  rw [pn_6] at N
  exact N
