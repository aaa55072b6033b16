def PV (d : Nat → Nat) : Nat := d 0 * 33554432 + d 1 * 1048576 + d 2 * 32768 + d 3 * 1024 + d 4 * 32 + d 5
/-- the letters of a word from p on, of k letters -/
def dg (B : SI) (p k j : Nat) : Nat := if j < k then (B 131 (p + j)).toNatClampNeg - 96 else 0
/-- small letters from p on -/
def LT (B : SI) (p k : Nat) : Prop := ∀ j, j < k → ∃ d : Nat, 1 ≤ d ∧ d ≤ 26 ∧ B 131 (p + j) = nI (96 + d)
theorem dg_in {B : SI} {p k j : Nat} (h : LT B p k) (hj : j < k) : 1 ≤ dg B p k j ∧ dg B p k j ≤ 26 ∧ B 131 (p + j) = nI (96 + dg B p k j) := by
  obtain ⟨d, h1, h2, e⟩ := h j hj
  have q : dg B p k j = d := by
    unfold dg
    rw [if_pos hj, e, nI_clamp (by omega)]
    omega
  rw [q]
  exact ⟨h1, h2, e⟩
theorem dg_out {B : SI} {p k j : Nat} (hj : k ≤ j) : dg B p k j = 0 := by unfold dg; rw [if_neg (by omega)]
theorem dg_le {B : SI} {p k : Nat} (h : LT B p k) (j : Nat) : dg B p k j ≤ 26 := by
  by_cases c : j < k
  · exact (dg_in h c).2.1
  · rw [dg_out (by omega)]; omega
theorem pv_inj {d e : Nat → Nat} (hd : ∀ j, j < 6 → d j ≤ 26) (he : ∀ j, j < 6 → e j ≤ 26) (h : PV d = PV e) : ∀ j, j < 6 → d j = e j := by
  have d0 := hd 0 (by omega); have d1 := hd 1 (by omega); have d2 := hd 2 (by omega); have d3 := hd 3 (by omega); have d4 := hd 4 (by omega); have d5 := hd 5 (by omega)
  have e0 := he 0 (by omega); have e1 := he 1 (by omega); have e2 := he 2 (by omega); have e3 := he 3 (by omega); have e4 := he 4 (by omega); have e5 := he 5 (by omega)
  unfold PV at h
  intro j hj
  have : j = 0 ∨ j = 1 ∨ j = 2 ∨ j = 3 ∨ j = 4 ∨ j = 5 := by omega
  rcases this with rfl | rfl | rfl | rfl | rfl | rfl <;> omega
theorem pv_lt {d : Nat → Nat} (hd : ∀ j, j < 6 → d j ≤ 26) : PV d < 2 ^ 30 := by
  have d0 := hd 0 (by omega); have d1 := hd 1 (by omega); have d2 := hd 2 (by omega); have d3 := hd 3 (by omega); have d4 := hd 4 (by omega); have d5 := hd 5 (by omega)
  unfold PV
  omega
def WD (A : SI) : Prop := ∀ i, i < 23 → A 82 i = nI (PV (wd i))
/-- it is word i -/
def MT (B : SI) (p k i : Nat) : Prop := k = wln i ∧ ∀ j, j < wln i → B 131 (p + j) = chS 3 (wof i + j)
theorem mt_dg {B : SI} {p k i : Nat} (h : LT B p k) (hi : i < 23) : MT B p k i ↔ (k ≤ 6 ∧ ∀ j, j < 6 → dg B p k j = wd i j) := by
  have w2 := wd_2 i hi
  constructor
  · intro m
    obtain ⟨m1, m2⟩ := m
    refine ⟨by omega, fun j hj => ?_⟩
    by_cases c : j < wln i
    · have e := m2 j c
      have g := (dg_in h (j := j) (by omega)).2.2
      rw [g, (wd_1 i hi j c).1] at e
      have z := wd_4 i hi j hj
      have y := dg_le h j
      have := (nI_eq (by omega) (by omega)).mp e
      omega
    · rw [dg_out (by omega), wd_3 i hi j hj (by omega)]
  · intro ⟨m1, m2⟩
    have e : k = wln i := by
      by_cases c : k < wln i
      · have z := m2 k (by omega)
        rw [dg_out (Nat.le_refl _)] at z
        have := (wd_1 i hi k c).2
        omega
      · by_cases c2 : wln i < k
        · have z := m2 (wln i) (by omega)
          rw [wd_3 i hi _ (by omega) (Nat.le_refl _)] at z
          have := (dg_in h c2).1
          omega
        · omega
    refine ⟨e, fun j hj => ?_⟩
    rw [(wd_1 i hi j hj).1, (dg_in h (j := j) (by omega)).2.2, m2 j (by omega)]
theorem let_v {c : Nat} (h : c < 256) {I : SI} {J : SJ} : F_X12_isSmall (nI c) I J = (if 97 ≤ c ∧ c ≤ 122 then 1 else 0) ∧ F_X8_isLetter (nI c) I J = (if 97 ≤ c ∧ c ≤ 122 then 1 else 0) := by
  unfold F_X12_isSmall F_X8_isLetter
  rw [show (97 : Int32) = nI 97 from rfl, show (122 : Int32) = nI 122 from rfl]
  by_cases c1 : c < 97
  · rw [if_pos (nI_lt (b := 97) c1 (by decide)), if_neg (by omega)]
    exact ⟨rfl, rfl⟩
  · rw [if_neg (nI_nlt (b := 97) (by omega) (by omega))]
    by_cases c2 : 122 < c
    · rw [if_pos (nI_lt (a := 122) c2 (by omega)), if_neg (by omega)]
      exact ⟨rfl, rfl⟩
    · rw [if_neg (nI_nlt (a := 122) (by omega) (by omega)), if_pos (by omega)]
      exact ⟨rfl, rfl⟩
theorem dig_v {c : Nat} (h : c < 256) {I I' : SI} {J J' : SJ} : F_X12_isDigit (nI c) I J = (if 48 ≤ c ∧ c ≤ 57 then 1 else 0) ∧ F_X8_isDigit (nI c) I' J' = (if 48 ≤ c ∧ c ≤ 57 then 1 else 0) := by
  unfold F_X12_isDigit F_X8_isDigit
  rw [show (48 : Int32) = nI 48 from rfl, show (57 : Int32) = nI 57 from rfl]
  by_cases c1 : c < 48
  · rw [if_pos (nI_lt (b := 48) c1 (by decide)), if_neg (by omega)]
    exact ⟨rfl, rfl⟩
  · rw [if_neg (nI_nlt (b := 48) (by omega) (by omega))]
    by_cases c2 : 57 < c
    · rw [if_pos (nI_lt (a := 57) c2 (by omega)), if_neg (by omega)]
      exact ⟨rfl, rfl⟩
    · rw [if_neg (nI_nlt (a := 57) (by omega) (by omega)), if_pos (by omega)]
      exact ⟨rfl, rfl⟩
theorem m1_let {I I' : SI} {J J' : SJ} : F_X12_isSmall (-1) I J = 0 ∧ F_X8_isLetter (-1) I' J' = 0 ∧ F_X12_isDigit (-1) I J = 0 ∧ F_X8_isDigit (-1) I' J' = 0 := by
  unfold F_X12_isSmall F_X8_isLetter F_X12_isDigit F_X8_isDigit
  exact ⟨by decide, by decide, by decide, by decide⟩
/-- one letter more -/
theorem pack_v {d k : Nat} {I : SI} {J : SJ} (h1 : 1 ≤ d) (h2 : d ≤ 26) (f : Nat → Nat) (hf : ∀ j, f j ≤ 26) (h0 : ∀ j, k ≤ j → f j = 0) (hk : k ≤ 800) : nI (PV f) ||| F_X8_packed (nI (96 + d)) (nI k) I J = nI (PV (fun j => if j = k then d else f j)) := by
  unfold F_X8_packed
  have e : (nI (96 + d) - 97 + 1 : Int32) = nI d := by
    rw [show (97 : Int32) = nI 97 from rfl, pk_sub (by omega), nI_1]
    exact congrArg nI (by omega)
  rw [show (6 : Int32) = nI 6 from rfl]
  by_cases c : 6 ≤ k
  · rw [if_pos (nI_le (a := 6) c (by omega)), or00]
    refine congrArg nI ?_
    unfold PV
    dsimp only
    rw [if_neg (by omega), if_neg (by omega), if_neg (by omega), if_neg (by omega), if_neg (by omega), if_neg (by omega)]
  · rw [if_neg (fun q => c ((nI_leI (a := 6) (by omega) (by omega)).mp q)), e]
    have d0 := hf 0; have d1 := hf 1; have d2 := hf 2; have d3 := hf 3; have d4 := hf 4; have d5 := hf 5
    have ck : k = 0 ∨ k = 1 ∨ k = 2 ∨ k = 3 ∨ k = 4 ∨ k = 5 := by omega
    rcases ck with rfl | rfl | rfl | rfl | rfl | rfl
    · have z0 := h0 0 (by omega); have z1 := h0 1 (by omega); have z2 := h0 2 (by omega); have z3 := h0 3 (by omega); have z4 := h0 4 (by omega); have z5 := h0 5 (by omega)
      rw [pk_shlN (n := d) _ 25 (by decide) (by omega)]
      rw [orN (m := 30) (by unfold PV; omega) (by omega) (by unfold PV; omega)]
      refine congrArg nI ?_
      unfold PV
      simp only [show ¬ ((1 : Nat) = 0) by omega, show ¬ ((2 : Nat) = 0) by omega, show ¬ ((3 : Nat) = 0) by omega, show ¬ ((4 : Nat) = 0) by omega, show ¬ ((5 : Nat) = 0) by omega, reduceIte]
      omega
    · have z1 := h0 1 (by omega); have z2 := h0 2 (by omega); have z3 := h0 3 (by omega); have z4 := h0 4 (by omega); have z5 := h0 5 (by omega)
      rw [pk_shlN (n := d) _ 20 (by decide) (by omega)]
      rw [orN (m := 25) (by unfold PV; omega) (by omega) (by unfold PV; omega)]
      refine congrArg nI ?_
      unfold PV
      simp only [show ¬ ((0 : Nat) = 1) by omega, show ¬ ((2 : Nat) = 1) by omega, show ¬ ((3 : Nat) = 1) by omega, show ¬ ((4 : Nat) = 1) by omega, show ¬ ((5 : Nat) = 1) by omega, reduceIte]
      omega
    · have z2 := h0 2 (by omega); have z3 := h0 3 (by omega); have z4 := h0 4 (by omega); have z5 := h0 5 (by omega)
      rw [pk_shlN (n := d) _ 15 (by decide) (by omega)]
      rw [orN (m := 20) (by unfold PV; omega) (by omega) (by unfold PV; omega)]
      refine congrArg nI ?_
      unfold PV
      simp only [show ¬ ((0 : Nat) = 2) by omega, show ¬ ((1 : Nat) = 2) by omega, show ¬ ((3 : Nat) = 2) by omega, show ¬ ((4 : Nat) = 2) by omega, show ¬ ((5 : Nat) = 2) by omega, reduceIte]
      omega
    · have z3 := h0 3 (by omega); have z4 := h0 4 (by omega); have z5 := h0 5 (by omega)
      rw [pk_shlN (n := d) _ 10 (by decide) (by omega)]
      rw [orN (m := 15) (by unfold PV; omega) (by omega) (by unfold PV; omega)]
      refine congrArg nI ?_
      unfold PV
      simp only [show ¬ ((0 : Nat) = 3) by omega, show ¬ ((1 : Nat) = 3) by omega, show ¬ ((2 : Nat) = 3) by omega, show ¬ ((4 : Nat) = 3) by omega, show ¬ ((5 : Nat) = 3) by omega, reduceIte]
      omega
    · have z4 := h0 4 (by omega); have z5 := h0 5 (by omega)
      rw [pk_shlN (n := d) _ 5 (by decide) (by omega)]
      rw [orN (m := 10) (by unfold PV; omega) (by omega) (by unfold PV; omega)]
      refine congrArg nI ?_
      unfold PV
      simp only [show ¬ ((0 : Nat) = 4) by omega, show ¬ ((1 : Nat) = 4) by omega, show ¬ ((2 : Nat) = 4) by omega, show ¬ ((3 : Nat) = 4) by omega, show ¬ ((5 : Nat) = 4) by omega, reduceIte]
      omega
    · have z5 := h0 5 (by omega)
      rw [pk_shlN (n := d) _ 0 (by decide) (by omega)]
      rw [orN (m := 5) (by unfold PV; omega) (by omega) (by unfold PV; omega)]
      refine congrArg nI ?_
      unfold PV
      simp only [show ¬ ((0 : Nat) = 5) by omega, show ¬ ((1 : Nat) = 5) by omega, show ¬ ((2 : Nat) = 5) by omega, show ¬ ((3 : Nat) = 5) by omega, show ¬ ((4 : Nat) = 5) by omega, reduceIte]
      omega

