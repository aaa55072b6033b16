/-! both: tokens alike -/
/-- two loops side by side -/
theorem whl2 {σ ρ τ π : Type} {f : σ → σ ⊕ ρ} {g : τ → τ ⊕ π} {s0 : σ} {t0 : τ} (R : σ → τ → Prop) (Q : ρ → π → Prop) (mu : σ → Nat) (h0 : R s0 t0) (hb : mu s0 < 800) (hs : ∀ s t, R s t → (∃ s' t', f s = .inl s' ∧ g t = .inl t' ∧ R s' t' ∧ mu s' < mu s) ∨ (∃ r q, f s = .inr r ∧ g t = .inr q ∧ Q r q)) : ∃ r q, itW f 800 s0 = some r ∧ itW g 800 t0 = some q ∧ Q r q := by
  have k : ∀ n s t, R s t → mu s < n → ∃ r q, itW f n s = some r ∧ itW g n t = some q ∧ Q r q := by
    intro n
    induction n with
    | zero => intro s t _ h; exact absurd h (Nat.not_lt_zero _)
    | succ n ih =>
      intro s t hr hm
      rcases hs s t hr with ⟨s', t', e1, e2, h1, h2⟩ | ⟨r, q, e1, e2, h1⟩
      · obtain ⟨r, q, a, b, c⟩ := ih s' t' h1 (by omega)
        exact ⟨r, q, by rw [itW_l f n s s' e1]; exact a, by rw [itW_l g n t t' e2]; exact b, c⟩
      · exact ⟨r, q, itW_r f n s r e1, itW_r g n t q e2, h1⟩
  exact k 800 s0 t0 h0 hb
theorem orN {a b m : Nat} (ha : a % 2 ^ m = 0) (hb : b < 2 ^ m) (h : a + b < 2 ^ 32) : nI a ||| nI b = nI (a + b) := by
  apply Int32.toBitVec_inj.mp
  apply BitVec.eq_of_toNat_eq
  rw [Int32.toBitVec_or, BitVec.toNat_or, pk_tn (by omega), pk_tn (by omega), pk_tn h]
  have e : a = (a / 2 ^ m) <<< m := by
    rw [Nat.shiftLeft_eq]
    have := Nat.div_add_mod' a (2 ^ m)
    omega
  rw [e]
  exact (Nat.shiftLeft_add_eq_or_of_lt hb _).symm
theorem or00 (x : Int32) : x ||| 0 = x := by
  apply Int32.toBitVec_inj.mp
  rw [Int32.toBitVec_or]
  exact BitVec.or_zero
/-- changes cells of one row alone -/
def KR1 (r : Nat) (L : Nat → Prop) (I I' : SI) : Prop := ∀ a b, ¬ (a = r ∧ L b) → I' a b = I a b
theorem KR1.rf (r : Nat) (L : Nat → Prop) (I : SI) : KR1 r L I I := fun _ _ _ => rfl
theorem KR1.tr {r : Nat} {L : Nat → Prop} {I I1 I2 : SI} (h : KR1 r L I I1) (h2 : KR1 r L I1 I2) : KR1 r L I I2 := fun a b z => (h2 a b z).trans (h a b z)
theorem KR1.u {r b : Nat} {L : Nat → Prop} {I I1 : SI} {v : Int32} (h : KR1 r L I I1) (hb : L b) : KR1 r L I (u2 I1 r b v) := fun c d z => (u2_n _ _ (fun q => z ⟨q.1, by rw [q.2]; exact hb⟩)).trans (h c d z)
theorem KR1.w {r : Nat} {L L' : Nat → Prop} {I I1 : SI} (h : KR1 r L I I1) (hb : ∀ b, L b → L' b) : KR1 r L' I I1 := fun c d z => h c d (fun q => z ⟨q.1, hb _ q.2⟩)
/-- both tapes -/
def TP (A B : SI) : Prop := ∀ b, A 1 b &&& 255 = B 131 b
theorem TP.by {A B : SI} (h : TP A B) (b : Nat) : ∃ c : Nat, c < 256 ∧ B 131 b = nI c := by
  obtain ⟨j, hj, e⟩ := pk_andE (A 1 b) (m := 255) 8 (by decide)
  exact ⟨j, hj, (h b).symm.trans e⟩
def sgn (B : SI) (n i : Nat) : Int32 := if n ≤ i then -1 else B 131 i
theorem here_v {B t : SI} {J : SJ} {n i : Nat} (hn : n ≤ 700) (hi : i ≤ 701) (e1 : t 130 25 = nI n) (e2 : t 130 26 = nI i) (e3 : ∀ b, t 131 b = B 131 b) : F_X12_here t J = sgn B n i := by
  unfold F_X12_here sgn
  rw [e1, e2, nI_clamp (by omega), e3]
  by_cases c : n ≤ i
  · rw [if_pos c, if_pos (nI_le c (by omega))]
  · rw [if_neg c, if_neg (fun q => c ((nI_leI (by omega) (by omega)).mp q))]
theorem sign_v {A B I : SI} {J : SJ} {n i : Nat} (tp : TP A B) (hn : n ≤ 700) (hi : i ≤ 701) (e1 : I 81 2 = nI n) (e3 : ∀ b, I 1 b = A 1 b) : F_X8_signAt (nI i) I J = sgn B n i := by
  unfold F_X8_signAt sgn
  rw [e1, nI_clamp (by omega), e3, tp, if_neg (nI_pos (by omega))]
  by_cases c : n ≤ i
  · rw [if_pos c, if_pos (nI_le c (by omega))]
  · rw [if_neg c, if_neg (fun q => c ((nI_leI (by omega) (by omega)).mp q)), if_neg (fun q => by
      have := (nI_leI (a := 700) (by omega) (by omega)).mp q
      omega)]
theorem sgn_in {A B : SI} (tp : TP A B) {n i : Nat} (h : i < n) : ∃ c : Nat, c < 256 ∧ sgn B n i = nI c ∧ B 131 i = nI c := by
  obtain ⟨c, hc, e⟩ := tp.by i
  exact ⟨c, hc, by unfold sgn; rw [if_neg (by omega)]; exact e, e⟩
theorem sgn_out {B : SI} {n i : Nat} (h : n ≤ i) : sgn B n i = -1 := by unfold sgn; rw [if_pos h]
/-- blanks are passed alike -/
theorem skip_R {A B : SI} {J J' : SJ} {n i0 : Nat} (tp : TP A B) (hn : n ≤ 700) (hi : i0 ≤ n) (a2 : A 81 2 = nI n) (b2 : B 130 25 = nI n) (a3 : A 81 3 = nI i0) (b3 : B 130 26 = nI i0) : ∃ i, i0 ≤ i ∧ i ≤ n ∧ KR1 81 (· = 3) A (F_X8_step_w17 A J ((F_X8_signAt (A 81 3) A J), A)).2 ∧ (F_X8_step_w17 A J ((F_X8_signAt (A 81 3) A J), A)).2 81 3 = nI i ∧ KR1 130 (· = 26) B (F_X12_token_w0 B J' B) ∧ F_X12_token_w0 B J' B 130 26 = nI i := by
  have L := whl2 (f := B_X8_step_w17 A J) (g := B_X12_token_w0 B J') (s0 := ((F_X8_signAt (A 81 3) A J), A)) (t0 := B) (fun s t => ∃ i, i0 ≤ i ∧ i ≤ n ∧ s.1 = sgn B n i ∧ KR1 81 (· = 3) A s.2 ∧ s.2 81 3 = nI i ∧ KR1 130 (· = 26) B t ∧ t 130 26 = nI i) (fun s t => ∃ i, i0 ≤ i ∧ i ≤ n ∧ KR1 81 (· = 3) A s.2 ∧ s.2 81 3 = nI i ∧ KR1 130 (· = 26) B t ∧ t 130 26 = nI i) (fun s => n - (s.2 81 3).toNatClampNeg) ⟨i0, Nat.le_refl _, hi, (by show F_X8_signAt (A 81 3) A J = _; rw [a3]; exact sign_v tp hn (by omega) a2 (fun _ => rfl)), KR1.rf _ _ _, a3, KR1.rf _ _ _, b3⟩ (by show n - _ < 800; omega) (fun s t h => by
    obtain ⟨i, h1, h2, e, k, e3, m, f3⟩ := h
    have s2 : s.2 81 2 = nI n := (k 81 2 (by omega)).trans a2
    have t2 : t 130 25 = nI n := (m 130 25 (by omega)).trans b2
    have hv : F_X12_here t J' = sgn B n i := here_v hn (by omega) t2 f3 (fun b => m 131 b (by omega))
    have nx : u2 s.2 81 3 (s.2 81 3 + 1) 81 3 = nI (i + 1) := by rw [u2_s, e3, nI_1]
    have ny : u2 t 130 26 (t 130 26 + 1) 130 26 = nI (i + 1) := by rw [u2_s, f3, nI_1]
    have st : i < n → F_X8_signAt ((u2 s.2 81 3 (s.2 81 3 + 1)) 81 3) (u2 s.2 81 3 (s.2 81 3 + 1)) J = sgn B n (i + 1) := fun c => by
      rw [nx]
      exact sign_v tp hn (by omega) ((u2_n _ _ (by omega)).trans s2) (fun b => (u2_n _ _ (by omega)).trans (k 1 b (by omega)))
    by_cases c : n ≤ i
    · refine Or.inr ⟨s, t, ?_, ?_, i, h1, h2, k, e3, m, f3⟩
      · unfold B_X8_step_w17
        rw [s2, e3, if_pos (nI_le c (by omega))]
      · unfold B_X12_token_w0
        rw [hv, sgn_out c, if_neg (by decide), if_neg (by decide)]
    · have go : ∀ x, sgn B n i = x → (x = 32 ∨ x = 10) → (∃ s' t', B_X8_step_w17 A J s = .inl s' ∧ B_X12_token_w0 B J' t = .inl t' ∧ (∃ i, i0 ≤ i ∧ i ≤ n ∧ s'.1 = sgn B n i ∧ KR1 81 (· = 3) A s'.2 ∧ s'.2 81 3 = nI i ∧ KR1 130 (· = 26) B t' ∧ t' 130 26 = nI i) ∧ n - (s'.2 81 3).toNatClampNeg < n - (s.2 81 3).toNatClampNeg) := fun x ex hx => by
        refine ⟨(F_X8_signAt ((u2 s.2 81 3 (s.2 81 3 + 1)) 81 3) (u2 s.2 81 3 (s.2 81 3 + 1)) J, u2 s.2 81 3 (s.2 81 3 + 1)), u2 t 130 26 (t 130 26 + 1), ?_, ?_, ⟨i + 1, by omega, by omega, st (by omega), k.u rfl, nx, m.u rfl, ny⟩, ?_⟩
        · unfold B_X8_step_w17
          rw [s2, e3, if_neg (fun q => c ((nI_leI (by omega) (by omega)).mp q)), e, ex]
          rcases hx with rfl | rfl
          · rw [if_pos rfl, ← e3]
          · rw [if_neg (by decide), if_pos rfl, ← e3]
        · unfold B_X12_token_w0
          rw [hv, ex]
          rcases hx with rfl | rfl
          · rw [if_neg (by decide), if_pos rfl]
          · rw [if_pos rfl]
        · show n - (u2 s.2 81 3 (s.2 81 3 + 1) 81 3).toNatClampNeg < n - (s.2 81 3).toNatClampNeg
          rw [nx, e3, nI_clamp (by omega), nI_clamp (by omega)]
          omega
      by_cases c1 : sgn B n i = 32
      · exact Or.inl (go _ c1 (Or.inl rfl))
      · by_cases c2 : sgn B n i = 10
        · exact Or.inl (go _ c2 (Or.inr rfl))
        · refine Or.inr ⟨s, t, ?_, ?_, i, h1, h2, k, e3, m, f3⟩
          · unfold B_X8_step_w17
            rw [e, if_neg c1, if_neg c2, ite_self, ← e]
          · unfold B_X12_token_w0
            rw [hv, if_neg c2, if_neg c1])
  obtain ⟨r, q, e1, e2, h⟩ := L
  unfold F_X8_step_w17 F_X12_token_w0
  rw [e1, e2]
  exact h
/-! words -/
def WDG : List (List Nat) := [[13, 1, 18, 11, 0, 0], [19, 8, 15, 20, 0, 0], [8, 1, 19, 0, 0, 0], [16, 1, 18, 20, 25, 0], [3, 12, 5, 18, 11, 0], [3, 15, 12, 4, 0, 0], [9, 12, 12, 0, 0, 0], [16, 21, 18, 19, 5, 0], [19, 5, 5, 4, 0, 0], [12, 1, 23, 0, 0, 0], [14, 15, 20, 9, 3, 5], [25, 9, 5, 12, 4, 0], [1, 7, 1, 9, 14, 0], [15, 18, 0, 0, 0, 0], [1, 14, 4, 0, 0, 0], [14, 15, 20, 0, 0, 0], [19, 20, 18, 9, 11, 5], [16, 12, 21, 13, 19, 0], [19, 1, 9, 4, 0, 0], [20, 9, 13, 5, 19, 0], [3, 15, 19, 20, 0, 0], [4, 1, 25, 0, 0, 0], [1, 23, 1, 25, 0, 0]]
def WOF : List Nat := [0, 5, 10, 14, 20, 26, 31, 35, 41, 46, 50, 57, 63, 69, 72, 76, 80, 87, 93, 98, 104, 109, 113, 118]
def WLN : List Nat := [4, 4, 3, 5, 5, 4, 3, 5, 4, 3, 6, 5, 5, 2, 3, 3, 6, 5, 4, 5, 4, 3, 4]
def wd (i j : Nat) : Nat := (WDG.getD i []).getD j 0
def wof (i : Nat) : Nat := WOF.getD i 0
def wln (i : Nat) : Nat := WLN.getD i 0
theorem wd_1 : ∀ i, i < 23 → ∀ j, j < wln i → chS 3 (wof i + j) = nI (96 + wd i j) ∧ 1 ≤ wd i j := by decide +kernel
theorem wd_2 : ∀ i, i < 23 → chS 3 (wof i + wln i) = 32 ∧ wln i ≤ 6 ∧ wof (i + 1) = wof i + wln i + 1 := by decide +kernel
theorem wd_3 : ∀ i, i < 23 → ∀ j, j < 6 → wln i ≤ j → wd i j = 0 := by decide +kernel
theorem wd_4 : ∀ i, i < 23 → ∀ j, j < 6 → wd i j ≤ 26 := by decide +kernel
theorem wd_5 : ∀ i, i < 23 → wof i < 118 := by decide +kernel
def PV (d : Nat → Nat) : Nat := d 0 * 33554432 + d 1 * 1048576 + d 2 * 32768 + d 3 * 1024 + d 4 * 32 + d 5
/-- the letters of a word from p on, of k letters -/
def dg (B : SI) (p k j : Nat) : Nat := if j < k then (B 131 (p + j)).toNatClampNeg - 96 else 0
/-- small letters from p on -/
def LT (B : SI) (p k : Nat) : Prop := ∀ j, j < k → ∃ d : Nat, 1 ≤ d ∧ d ≤ 26 ∧ B 131 (p + j) = nI (96 + d)
theorem dg_in {B : SI} {p k j : Nat} (h : LT B p k) (hj : j < k) : 1 ≤ dg B p k j ∧ dg B p k j ≤ 26 ∧ B 131 (p + j) = nI (96 + dg B p k j) := by
  obtain ⟨d, h1, h2, e⟩ := h j hj
  have q : dg B p k j = d := by
    unfold dg
    rw [if_pos hj, e, nI_clamp (by omega)]
    omega
  rw [q]
  exact ⟨h1, h2, e⟩
theorem dg_out {B : SI} {p k j : Nat} (hj : k ≤ j) : dg B p k j = 0 := by unfold dg; rw [if_neg (by omega)]
theorem dg_le {B : SI} {p k : Nat} (h : LT B p k) (j : Nat) : dg B p k j ≤ 26 := by
  by_cases c : j < k
  · exact (dg_in h c).2.1
  · rw [dg_out (by omega)]; omega
theorem pv_inj {d e : Nat → Nat} (hd : ∀ j, j < 6 → d j ≤ 26) (he : ∀ j, j < 6 → e j ≤ 26) (h : PV d = PV e) : ∀ j, j < 6 → d j = e j := by
  have d0 := hd 0 (by omega); have d1 := hd 1 (by omega); have d2 := hd 2 (by omega); have d3 := hd 3 (by omega); have d4 := hd 4 (by omega); have d5 := hd 5 (by omega)
  have e0 := he 0 (by omega); have e1 := he 1 (by omega); have e2 := he 2 (by omega); have e3 := he 3 (by omega); have e4 := he 4 (by omega); have e5 := he 5 (by omega)
  unfold PV at h
  intro j hj
  have : j = 0 ∨ j = 1 ∨ j = 2 ∨ j = 3 ∨ j = 4 ∨ j = 5 := by omega
  rcases this with rfl | rfl | rfl | rfl | rfl | rfl <;> omega
theorem pv_lt {d : Nat → Nat} (hd : ∀ j, j < 6 → d j ≤ 26) : PV d < 2 ^ 30 := by
  have d0 := hd 0 (by omega); have d1 := hd 1 (by omega); have d2 := hd 2 (by omega); have d3 := hd 3 (by omega); have d4 := hd 4 (by omega); have d5 := hd 5 (by omega)
  unfold PV
  omega
def WD (A : SI) : Prop := ∀ i, i < 23 → A 82 i = nI (PV (wd i))
/-- it is word i -/
def MT (B : SI) (p k i : Nat) : Prop := k = wln i ∧ ∀ j, j < wln i → B 131 (p + j) = chS 3 (wof i + j)
theorem mt_dg {B : SI} {p k i : Nat} (h : LT B p k) (hi : i < 23) : MT B p k i ↔ (k ≤ 6 ∧ ∀ j, j < 6 → dg B p k j = wd i j) := by
  have w2 := wd_2 i hi
  constructor
  · intro m
    obtain ⟨m1, m2⟩ := m
    refine ⟨by omega, fun j hj => ?_⟩
    by_cases c : j < wln i
    · have e := m2 j c
      have g := (dg_in h (j := j) (by omega)).2.2
      rw [g, (wd_1 i hi j c).1] at e
      have z := wd_4 i hi j hj
      have y := dg_le h j
      have := (nI_eq (by omega) (by omega)).mp e
      omega
    · rw [dg_out (by omega), wd_3 i hi j hj (by omega)]
  · intro ⟨m1, m2⟩
    have e : k = wln i := by
      by_cases c : k < wln i
      · have z := m2 k (by omega)
        rw [dg_out (Nat.le_refl _)] at z
        have := (wd_1 i hi k c).2
        omega
      · by_cases c2 : wln i < k
        · have z := m2 (wln i) (by omega)
          rw [wd_3 i hi _ (by omega) (Nat.le_refl _)] at z
          have := (dg_in h c2).1
          omega
        · omega
    refine ⟨e, fun j hj => ?_⟩
    rw [(wd_1 i hi j hj).1, (dg_in h (j := j) (by omega)).2.2, m2 j (by omega)]
theorem let_v {c : Nat} (h : c < 256) {I : SI} {J : SJ} : F_X12_isSmall (nI c) I J = (if 97 ≤ c ∧ c ≤ 122 then 1 else 0) ∧ F_X8_isLetter (nI c) I J = (if 97 ≤ c ∧ c ≤ 122 then 1 else 0) := by
  unfold F_X12_isSmall F_X8_isLetter
  rw [show (97 : Int32) = nI 97 from rfl, show (122 : Int32) = nI 122 from rfl]
  by_cases c1 : c < 97
  · rw [if_pos (nI_lt (b := 97) c1 (by decide)), if_neg (by omega)]
    exact ⟨rfl, rfl⟩
  · rw [if_neg (nI_nlt (b := 97) (by omega) (by omega))]
    by_cases c2 : 122 < c
    · rw [if_pos (nI_lt (a := 122) c2 (by omega)), if_neg (by omega)]
      exact ⟨rfl, rfl⟩
    · rw [if_neg (nI_nlt (a := 122) (by omega) (by omega)), if_pos (by omega)]
      exact ⟨rfl, rfl⟩
theorem dig_v {c : Nat} (h : c < 256) {I I' : SI} {J J' : SJ} : F_X12_isDigit (nI c) I J = (if 48 ≤ c ∧ c ≤ 57 then 1 else 0) ∧ F_X8_isDigit (nI c) I' J' = (if 48 ≤ c ∧ c ≤ 57 then 1 else 0) := by
  unfold F_X12_isDigit F_X8_isDigit
  rw [show (48 : Int32) = nI 48 from rfl, show (57 : Int32) = nI 57 from rfl]
  by_cases c1 : c < 48
  · rw [if_pos (nI_lt (b := 48) c1 (by decide)), if_neg (by omega)]
    exact ⟨rfl, rfl⟩
  · rw [if_neg (nI_nlt (b := 48) (by omega) (by omega))]
    by_cases c2 : 57 < c
    · rw [if_pos (nI_lt (a := 57) c2 (by omega)), if_neg (by omega)]
      exact ⟨rfl, rfl⟩
    · rw [if_neg (nI_nlt (a := 57) (by omega) (by omega)), if_pos (by omega)]
      exact ⟨rfl, rfl⟩
theorem m1_let {I I' : SI} {J J' : SJ} : F_X12_isSmall (-1) I J = 0 ∧ F_X8_isLetter (-1) I' J' = 0 ∧ F_X12_isDigit (-1) I J = 0 ∧ F_X8_isDigit (-1) I' J' = 0 := by
  unfold F_X12_isSmall F_X8_isLetter F_X12_isDigit F_X8_isDigit
  exact ⟨by decide, by decide, by decide, by decide⟩
/-- one letter more -/
theorem pack_v {d k : Nat} {I : SI} {J : SJ} (h1 : 1 ≤ d) (h2 : d ≤ 26) (f : Nat → Nat) (hf : ∀ j, f j ≤ 26) (h0 : ∀ j, k ≤ j → f j = 0) (hk : k ≤ 800) : nI (PV f) ||| F_X8_packed (nI (96 + d)) (nI k) I J = nI (PV (fun j => if j = k then d else f j)) := by
  unfold F_X8_packed
  have e : (nI (96 + d) - 97 + 1 : Int32) = nI d := by
    rw [show (97 : Int32) = nI 97 from rfl, pk_sub (by omega), nI_1]
    exact congrArg nI (by omega)
  rw [show (6 : Int32) = nI 6 from rfl]
  by_cases c : 6 ≤ k
  · rw [if_pos (nI_le (a := 6) c (by omega)), or00]
    refine congrArg nI ?_
    unfold PV
    dsimp only
    rw [if_neg (by omega), if_neg (by omega), if_neg (by omega), if_neg (by omega), if_neg (by omega), if_neg (by omega)]
  · rw [if_neg (fun q => c ((nI_leI (a := 6) (by omega) (by omega)).mp q)), e]
    have d0 := hf 0; have d1 := hf 1; have d2 := hf 2; have d3 := hf 3; have d4 := hf 4; have d5 := hf 5
    have ck : k = 0 ∨ k = 1 ∨ k = 2 ∨ k = 3 ∨ k = 4 ∨ k = 5 := by omega
    rcases ck with rfl | rfl | rfl | rfl | rfl | rfl
    · have z0 := h0 0 (by omega); have z1 := h0 1 (by omega); have z2 := h0 2 (by omega); have z3 := h0 3 (by omega); have z4 := h0 4 (by omega); have z5 := h0 5 (by omega)
      rw [pk_shlN (n := d) _ 25 (by decide) (by omega)]
      rw [orN (m := 30) (by unfold PV; omega) (by omega) (by unfold PV; omega)]
      refine congrArg nI ?_
      unfold PV
      simp only [show ¬ ((1 : Nat) = 0) by omega, show ¬ ((2 : Nat) = 0) by omega, show ¬ ((3 : Nat) = 0) by omega, show ¬ ((4 : Nat) = 0) by omega, show ¬ ((5 : Nat) = 0) by omega, reduceIte]
      omega
    · have z1 := h0 1 (by omega); have z2 := h0 2 (by omega); have z3 := h0 3 (by omega); have z4 := h0 4 (by omega); have z5 := h0 5 (by omega)
      rw [pk_shlN (n := d) _ 20 (by decide) (by omega)]
      rw [orN (m := 25) (by unfold PV; omega) (by omega) (by unfold PV; omega)]
      refine congrArg nI ?_
      unfold PV
      simp only [show ¬ ((0 : Nat) = 1) by omega, show ¬ ((2 : Nat) = 1) by omega, show ¬ ((3 : Nat) = 1) by omega, show ¬ ((4 : Nat) = 1) by omega, show ¬ ((5 : Nat) = 1) by omega, reduceIte]
      omega
    · have z2 := h0 2 (by omega); have z3 := h0 3 (by omega); have z4 := h0 4 (by omega); have z5 := h0 5 (by omega)
      rw [pk_shlN (n := d) _ 15 (by decide) (by omega)]
      rw [orN (m := 20) (by unfold PV; omega) (by omega) (by unfold PV; omega)]
      refine congrArg nI ?_
      unfold PV
      simp only [show ¬ ((0 : Nat) = 2) by omega, show ¬ ((1 : Nat) = 2) by omega, show ¬ ((3 : Nat) = 2) by omega, show ¬ ((4 : Nat) = 2) by omega, show ¬ ((5 : Nat) = 2) by omega, reduceIte]
      omega
    · have z3 := h0 3 (by omega); have z4 := h0 4 (by omega); have z5 := h0 5 (by omega)
      rw [pk_shlN (n := d) _ 10 (by decide) (by omega)]
      rw [orN (m := 15) (by unfold PV; omega) (by omega) (by unfold PV; omega)]
      refine congrArg nI ?_
      unfold PV
      simp only [show ¬ ((0 : Nat) = 3) by omega, show ¬ ((1 : Nat) = 3) by omega, show ¬ ((2 : Nat) = 3) by omega, show ¬ ((4 : Nat) = 3) by omega, show ¬ ((5 : Nat) = 3) by omega, reduceIte]
      omega
    · have z4 := h0 4 (by omega); have z5 := h0 5 (by omega)
      rw [pk_shlN (n := d) _ 5 (by decide) (by omega)]
      rw [orN (m := 10) (by unfold PV; omega) (by omega) (by unfold PV; omega)]
      refine congrArg nI ?_
      unfold PV
      simp only [show ¬ ((0 : Nat) = 4) by omega, show ¬ ((1 : Nat) = 4) by omega, show ¬ ((2 : Nat) = 4) by omega, show ¬ ((3 : Nat) = 4) by omega, show ¬ ((5 : Nat) = 4) by omega, reduceIte]
      omega
    · have z5 := h0 5 (by omega)
      rw [pk_shlN (n := d) _ 0 (by decide) (by omega)]
      rw [orN (m := 5) (by unfold PV; omega) (by omega) (by unfold PV; omega)]
      refine congrArg nI ?_
      unfold PV
      simp only [show ¬ ((0 : Nat) = 5) by omega, show ¬ ((1 : Nat) = 5) by omega, show ¬ ((2 : Nat) = 5) by omega, show ¬ ((3 : Nat) = 5) by omega, show ¬ ((4 : Nat) = 5) by omega, reduceIte]
      omega
