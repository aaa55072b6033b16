/-! both: tokens alike, further -/
def SGV : List Nat := [59, 40, 41, 43, 45, 42, 47, 60, 256, 61, 257, 258, 62]
def sgv (i : Nat) : Int32 := nI (SGV.getD i 0)
def NV (v w : Int32) : Prop := ∃ a b : Nat, v = nI a ∧ w = nI b ∧ a ≤ 1000000 ∧ b ≤ 999999 ∧ (a = b ∨ (99999 < a ∧ 99999 < b))
/-- kinds and sorts alike -/
def KV (k v s w : Int32) : Prop := (k = 0 ∧ s = 4) ∨ (k = 1 ∧ s = 5) ∨ (k = 2 ∧ s = 2 ∧ NV v w) ∨ (k = 3 ∧ s = 1 ∧ v = w) ∨ (∃ i, i < 13 ∧ k = nI (4 + i) ∧ s = 3 ∧ w = sgv i) ∨ (∃ i, i < 23 ∧ k = nI (20 + i) ∧ s = 0 ∧ w = nI i)
theorem min_v {a : Nat} (h : a < 2 ^ 31) : minI (nI a) 1000000 = nI (min a 1000000) := by
  unfold minI
  rw [show (1000000 : Int32) = nI 1000000 from rfl]
  by_cases c : 1000000 < a
  · rw [if_pos (nI_lt c h), Nat.min_eq_right (by omega)]
  · rw [if_neg (nI_nlt (by omega) (by omega)), Nat.min_eq_left (by omega)]
theorem numb_R {A B B0 : SI} {J J' : SJ} {n p : Nat} (tp : TP A B) (hn : n ≤ 700) (hp : p ≤ n) (a2 : A 81 2 = nI n) (b2 : B 130 25 = nI n) (a3 : A 81 3 = nI p) (b3 : B 130 26 = nI p) : ∃ i, p ≤ i ∧ i ≤ n ∧ KR1 81 (fun b => b = 3 ∨ b = 5 ∨ b = 6) A (FI_X8_number A J) ∧ FI_X8_number A J 81 3 = nI i ∧ FI_X8_number A J 81 5 = 2 ∧ KR1 130 (fun b => b = 26 ∨ b = 28 ∨ b = 29) B (F_X12_token_w162 B0 J' (u2 (u2 B 130 28 2) 130 29 0)) ∧ F_X12_token_w162 B0 J' (u2 (u2 B 130 28 2) 130 29 0) 130 26 = nI i ∧ F_X12_token_w162 B0 J' (u2 (u2 B 130 28 2) 130 29 0) 130 28 = 2 ∧ NV (FI_X8_number A J 81 6) (F_X12_token_w162 B0 J' (u2 (u2 B 130 28 2) 130 29 0) 130 29) ∧ (p < n → 48 ≤ (B 131 p).toNatClampNeg ∧ (B 131 p).toNatClampNeg ≤ 57 → p < i) := by
  have L := whl2 (f := B_X8_number_w14 A J) (g := B_X12_token_w162 B0 J') (s0 := (F_X8_signAt ((u2 A 81 6 0) 81 3) (u2 A 81 6 0) J, u2 A 81 6 0)) (t0 := u2 (u2 B 130 28 2) 130 29 0) (fun s t => ∃ i, p ≤ i ∧ i ≤ n ∧ s.1 = sgn B n i ∧ KR1 81 (fun b => b = 3 ∨ b = 6) A s.2 ∧ s.2 81 3 = nI i ∧ KR1 130 (fun b => b = 26 ∨ b = 28 ∨ b = 29) B t ∧ t 130 26 = nI i ∧ t 130 28 = 2 ∧ NV (s.2 81 6) (t 130 29)) (fun s t => ∃ i, p ≤ i ∧ i ≤ n ∧ KR1 81 (fun b => b = 3 ∨ b = 6) A s.2 ∧ s.2 81 3 = nI i ∧ KR1 130 (fun b => b = 26 ∨ b = 28 ∨ b = 29) B t ∧ t 130 26 = nI i ∧ t 130 28 = 2 ∧ NV (s.2 81 6) (t 130 29) ∧ (p < n → 48 ≤ (B 131 p).toNatClampNeg ∧ (B 131 p).toNatClampNeg ≤ 57 → p < i)) (fun s => n - (s.2 81 3).toNatClampNeg) ⟨p, Nat.le_refl _, hp, (by
      show F_X8_signAt ((u2 A 81 6 0) 81 3) (u2 A 81 6 0) J = _
      rw [show (u2 A 81 6 0) 81 3 = nI p from (u2_n _ _ (by omega)).trans a3]
      exact sign_v tp hn (by omega) ((u2_n _ _ (by omega)).trans a2) (fun b => u2_n _ _ (by omega))), (KR1.rf _ _ _).u (Or.inr rfl), (show u2 A 81 6 0 81 3 = nI p from (u2_n _ _ (by omega)).trans a3), ((KR1.rf _ _ _).u (Or.inr (Or.inl rfl))).u (Or.inr (Or.inr rfl)), (u2_n _ _ (by omega)).trans ((u2_n _ _ (by omega)).trans b3), (u2_n _ _ (by omega)).trans (u2_s _ _ _ _), ⟨0, 0, (show u2 A 81 6 0 81 6 = nI 0 from u2_s _ _ _ _), u2_s _ _ _ _, by omega, by omega, Or.inl rfl⟩⟩ (by show n - _ < 800; omega) (fun s t h => by
    obtain ⟨i, h1, h2, e, k, e3, m, f3, f28, nv⟩ := h
    have s2 : s.2 81 2 = nI n := (k 81 2 (by omega)).trans a2
    have t2 : t 130 25 = nI n := (m 130 25 (by omega)).trans b2
    have hv : F_X12_here t J' = sgn B n i := here_v hn (by omega) t2 f3 (fun b => m 131 b (by omega))
    by_cases c : n ≤ i
    · refine Or.inr ⟨s, t, ?_, ?_, i, h1, h2, k, e3, m, f3, f28, nv, fun z _ => by omega⟩
      · unfold B_X8_number_w14
        rw [s2, e3, if_pos (nI_le c (by omega))]
      · unfold B_X12_token_w162
        rw [hv, sgn_out c, (m1_let (I := t) (J := J') (I' := t) (J' := J')).2.2.1, if_pos rfl]
    · obtain ⟨q, hq, eq, eb⟩ := sgn_in tp (show i < n by omega)
      have dv := dig_v hq (I := t) (J := J') (I' := s.2) (J' := J)
      by_cases c2 : 48 ≤ q ∧ q ≤ 57
      · rw [if_pos c2] at dv
        obtain ⟨a, b, ea, ebb, ha, hb, hab⟩ := nv
        have x1 : ((s.2 81 6 * 10 + s.1 - 48) : Int32) = nI (10 * a + q - 48) := by
          rw [ea, e, eq, show (10 : Int32) = nI 10 from rfl, show (48 : Int32) = nI 48 from rfl, pk_mul, nI_add, pk_sub (by omega)]
          exact congrArg nI (by omega)
        have x2 : ((10 * t 130 29 + F_X12_here t J' - 48) : Int32) = nI (10 * b + q - 48) := by
          rw [ebb, hv, eq, show (10 : Int32) = nI 10 from rfl, show (48 : Int32) = nI 48 from rfl, pk_mul, nI_add, pk_sub (by omega)]
        have y6 : S3_X8_number A J s 81 6 = nI (min (10 * a + q - 48) 1000000) := by
          unfold S3_X8_number
          rw [x1, min_v (by omega)]
          exact (u2_n _ _ (by omega)).trans (u2_s _ _ _ _)
        have y3 : S3_X8_number A J s 81 3 = nI (i + 1) := by
          unfold S3_X8_number
          rw [u2_s, u2_n _ _ (by omega), e3, nI_1]
        have yk : KR1 81 (fun b => b = 3 ∨ b = 6) A (S3_X8_number A J s) := by
          unfold S3_X8_number
          exact (k.u (Or.inr rfl)).u (Or.inl rfl)
        have cl : B_X8_number_w14 A J s = .inl (F_X8_signAt (S3_X8_number A J s 81 3) (S3_X8_number A J s) J, S3_X8_number A J s) := by
          unfold B_X8_number_w14
          rw [if_neg (fun z => c ((nI_leI (by omega) (by omega)).mp (by rw [← s2, ← e3]; exact z))), e, eq, dv.2, if_neg (by decide)]
        have mv : ∀ w : Int32, KR1 130 (fun b => b = 26 ∨ b = 28 ∨ b = 29) B (u2 (u2 t 130 29 w) 130 26 ((u2 t 130 29 w) 130 26 + 1)) ∧ (u2 (u2 t 130 29 w) 130 26 ((u2 t 130 29 w) 130 26 + 1)) 130 26 = nI (i + 1) ∧ (u2 (u2 t 130 29 w) 130 26 ((u2 t 130 29 w) 130 26 + 1)) 130 28 = 2 ∧ (u2 (u2 t 130 29 w) 130 26 ((u2 t 130 29 w) 130 26 + 1)) 130 29 = w := fun w => ⟨(m.u (Or.inr (Or.inr rfl))).u (Or.inl rfl), by rw [u2_s, u2_n _ _ (by omega), f3, nI_1], (u2_n _ _ (by omega)).trans ((u2_n _ _ (by omega)).trans f28), (u2_n _ _ (by omega)).trans (u2_s _ _ _ _)⟩
        have ml : ∃ w : Int32, B_X12_token_w162 B0 J' t = .inl (u2 (u2 t 130 29 w) 130 26 ((u2 t 130 29 w) 130 26 + 1)) ∧ NV (nI (min (10 * a + q - 48) 1000000)) w := by
          by_cases c3 : b ≤ 99999
          · refine ⟨nI (10 * b + q - 48), ?_, ⟨_, _, rfl, rfl, by omega, by omega, ?_⟩⟩
            · unfold B_X12_token_w162 S6_X12_token S5_X12_token
              rw [if_neg (by rw [hv, eq, dv.1]; decide), if_pos (by rw [ebb]; exact nI_le (b := 99999) c3 (by omega)), x2]
            · left; omega
          · refine ⟨nI b, ?_, ⟨_, _, rfl, rfl, by omega, hb, ?_⟩⟩
            · unfold B_X12_token_w162 S7_X12_token
              rw [if_neg (by rw [hv, eq, dv.1]; decide), if_neg (by rw [ebb]; exact fun z => c3 ((nI_leI (b := 99999) (by omega) (by omega)).mp z)), ebb]
            · right; omega
        obtain ⟨w, em, nw⟩ := ml
        refine Or.inl ⟨_, _, cl, em, ⟨i + 1, by omega, by omega, ?_, yk, y3, (mv w).1, (mv w).2.1, (mv w).2.2.1, ?_⟩, ?_⟩
        · show F_X8_signAt (S3_X8_number A J s 81 3) (S3_X8_number A J s) J = _
          rw [y3]
          exact sign_v tp hn (by omega) ((yk 81 2 (by omega)).trans a2) (fun b => yk 1 b (by omega))
        · rw [(mv w).2.2.2]
          show NV (S3_X8_number A J s 81 6) w
          rw [y6]
          exact nw
        · show n - (S3_X8_number A J s 81 3).toNatClampNeg < n - (s.2 81 3).toNatClampNeg
          rw [y3, e3, nI_clamp (by omega), nI_clamp (by omega)]
          omega
      · rw [if_neg c2] at dv
        refine Or.inr ⟨s, t, ?_, ?_, i, h1, h2, k, e3, m, f3, f28, nv, fun z y => ?_⟩
        · unfold B_X8_number_w14
          rw [if_neg (fun z => c ((nI_leI (by omega) (by omega)).mp (by rw [← s2, ← e3]; exact z)))]
          rw [if_pos (by rw [e, eq]; exact dv.2)]
        · unfold B_X12_token_w162
          rw [hv, eq, dv.1, if_pos rfl]
        · by_cases w : p < i
          · exact w
          · have : p = i := by omega
            rw [this, eb, nI_clamp (by omega)] at y
            exact absurd y c2)
  obtain ⟨r, q, e1, e2, i, h1, h2, k, e3, m, f3, f28, nv, pr⟩ := L
  have x : S1_X8_number A J = r.2 := by
    unfold S1_X8_number F_X8_number_w14
    rw [e1]
    rfl
  unfold FI_X8_number
  rw [x]
  unfold F_X12_token_w162
  rw [e2]
  exact ⟨i, h1, h2, (k.w (fun b z => by omega)).u (Or.inr (Or.inl rfl)), (u2_n _ _ (by omega)).trans e3, u2_s _ _ _ _, m, f3, f28, by rw [show u2 r.2 81 5 2 81 6 = r.2 81 6 from u2_n _ _ (by omega)]; exact nv, pr⟩
theorem dg_s {B : SI} {p k d : Nat} (h : B 131 (p + k) = nI (96 + d)) (hd : d ≤ 26) : dg B p (k + 1) = fun j => if j = k then d else dg B p k j := by
  funext j
  unfold dg
  by_cases c : j = k
  · rw [if_pos (by omega), if_pos c, c, h, nI_clamp (by omega)]
    omega
  · rw [if_neg c]
    by_cases c2 : j < k
    · rw [if_pos (by omega), if_pos c2]
    · rw [if_neg (by omega), if_neg c2]
theorem pv_0 {B : SI} {p : Nat} : PV (dg B p 0) = 0 := by
  unfold PV
  rw [dg_out (Nat.zero_le _), dg_out (Nat.zero_le _), dg_out (Nat.zero_le _), dg_out (Nat.zero_le _), dg_out (Nat.zero_le _), dg_out (Nat.zero_le _)]
/-- letters are taken alike -/
theorem lets_R {A B B0 : SI} {J J' : SJ} {n p : Nat} (tp : TP A B) (hn : n ≤ 700) (hp : p ≤ n) (a2 : A 81 2 = nI n) (b2 : B 130 25 = nI n) (a3 : A 81 3 = nI p) (b3 : B 130 26 = nI p) : ∃ k, p + k ≤ n ∧ LT B p k ∧ S2_X8_word A J = nI k ∧ KR1 81 (fun b => b = 3 ∨ b = 6) A (S1_X8_word A J) ∧ S1_X8_word A J 81 3 = nI (p + k) ∧ S1_X8_word A J 81 6 = nI (PV (dg B p k)) ∧ KR1 130 (· = 26) B (F_X12_token_w64 B0 J' B) ∧ F_X12_token_w64 B0 J' B 130 26 = nI (p + k) ∧ (p < n → 97 ≤ (B 131 p).toNatClampNeg ∧ (B 131 p).toNatClampNeg ≤ 122 → 0 < k) := by
  have L := whl2 (f := B_X8_word_w16 A J) (g := B_X12_token_w64 B0 J') (s0 := ((0 : Int32), F_X8_signAt ((u2 A 81 6 0) 81 3) (u2 A 81 6 0) J, u2 A 81 6 0)) (t0 := B) (fun s t => ∃ k, p + k ≤ n ∧ LT B p k ∧ s.1 = nI k ∧ s.2.1 = sgn B n (p + k) ∧ KR1 81 (fun b => b = 3 ∨ b = 6) A s.2.2 ∧ s.2.2 81 3 = nI (p + k) ∧ s.2.2 81 6 = nI (PV (dg B p k)) ∧ KR1 130 (· = 26) B t ∧ t 130 26 = nI (p + k)) (fun s t => ∃ k, p + k ≤ n ∧ LT B p k ∧ s.1 = nI k ∧ KR1 81 (fun b => b = 3 ∨ b = 6) A s.2.2 ∧ s.2.2 81 3 = nI (p + k) ∧ s.2.2 81 6 = nI (PV (dg B p k)) ∧ KR1 130 (· = 26) B t ∧ t 130 26 = nI (p + k) ∧ (p < n → 97 ≤ (B 131 p).toNatClampNeg ∧ (B 131 p).toNatClampNeg ≤ 122 → 0 < k)) (fun s => n - (s.2.2 81 3).toNatClampNeg) ⟨0, by omega, fun j h => absurd h (by omega), rfl, (by
      show F_X8_signAt ((u2 A 81 6 0) 81 3) (u2 A 81 6 0) J = _
      rw [show (u2 A 81 6 0) 81 3 = nI p from (u2_n _ _ (by omega)).trans a3]
      exact sign_v tp hn (by omega) ((u2_n _ _ (by omega)).trans a2) (fun b => u2_n _ _ (by omega))), (KR1.rf _ _ _).u (Or.inr rfl), (show u2 A 81 6 0 81 3 = nI p from (u2_n _ _ (by omega)).trans a3), (show u2 A 81 6 0 81 6 = _ from (u2_s _ _ _ _).trans (by rw [pv_0]; rfl)), KR1.rf _ _ _, b3⟩ (by show n - _ < 800; omega) (fun s t h => by
    obtain ⟨k, h1, lt, e0, e, kr, e3, e6, m, f3⟩ := h
    have s2 : s.2.2 81 2 = nI n := (kr 81 2 (by omega)).trans a2
    have t2 : t 130 25 = nI n := (m 130 25 (by omega)).trans b2
    have hv : F_X12_here t J' = sgn B n (p + k) := here_v hn (by omega) t2 f3 (fun b => m 131 b (by omega))
    by_cases c : n ≤ p + k
    · refine Or.inr ⟨s, t, ?_, ?_, k, h1, lt, e0, kr, e3, e6, m, f3, fun z _ => by omega⟩
      · unfold B_X8_word_w16
        rw [s2, e3, if_pos (nI_le c (by omega))]
      · unfold B_X12_token_w64
        rw [hv, sgn_out c, (m1_let (I := t) (J := J') (I' := t) (J' := J')).1, if_pos rfl]
    · obtain ⟨q, hq, eq, eb⟩ := sgn_in tp (show p + k < n by omega)
      have d1 := (let_v hq (I := t) (J := J')).1
      have d2 := (let_v hq (I := s.2.2) (J := J)).2
      have cn : ¬ s.2.2 81 2 ≤ s.2.2 81 3 := fun z => c ((nI_leI (by omega) (by omega)).mp (by rw [← s2, ← e3]; exact z))
      by_cases c2 : 97 ≤ q ∧ q ≤ 122
      · rw [if_pos c2] at d1 d2
        have eb2 : B 131 (p + k) = nI (96 + (q - 96)) := by rw [eb]; exact congrArg nI (by omega)
        have lt2 : LT B p (k + 1) := fun j hj => by
          by_cases z : j < k
          · exact lt j z
          · have : j = k := by omega
            rw [this]
            exact ⟨q - 96, by omega, by omega, eb2⟩
        have y6 : S4_X8_word A J s 81 6 = nI (PV (dg B p (k + 1))) := by
          unfold S4_X8_word
          rw [u2_s, e6, e, eq, e0, show nI q = nI (96 + (q - 96)) from congrArg nI (by omega), pack_v (by omega) (by omega) (dg B p k) (dg_le lt) (fun j hj => dg_out hj) (by omega), dg_s eb2 (by omega)]
        have k4 : KR1 81 (fun b => b = 3 ∨ b = 6) A (S4_X8_word A J s) := by
          unfold S4_X8_word
          exact kr.u (Or.inr rfl)
        have y3 : S4_X8_word A J s 81 3 = nI (p + k) := by
          unfold S4_X8_word
          exact (u2_n _ _ (by omega)).trans e3
        have z3 : u2 (S4_X8_word A J s) 81 3 (S4_X8_word A J s 81 3 + 1) 81 3 = nI (p + (k + 1)) := by rw [u2_s, y3, nI_1]; rfl
        have zk : KR1 81 (fun b => b = 3 ∨ b = 6) A (u2 (S4_X8_word A J s) 81 3 (S4_X8_word A J s 81 3 + 1)) := k4.u (Or.inl rfl)
        refine Or.inl ⟨((s.1 + 1), (S5_X8_word A J s), (u2 (S4_X8_word A J s) 81 3 (S4_X8_word A J s 81 3 + 1))), u2 t 130 26 (t 130 26 + 1), ?_, ?_, ⟨k + 1, by omega, lt2, ?_, ?_, zk, z3, (show u2 (S4_X8_word A J s) 81 3 (S4_X8_word A J s 81 3 + 1) 81 6 = _ from (u2_n _ _ (by omega)).trans y6), m.u rfl, ?_⟩, ?_⟩
        · unfold B_X8_word_w16
          rw [if_neg cn, if_neg (by rw [e, eq, d2]; decide)]
        · unfold B_X12_token_w64
          rw [if_neg (by rw [hv, eq, d1]; decide)]
        · show s.1 + 1 = _
          rw [e0, nI_1]
        · show S5_X8_word A J s = _
          unfold S5_X8_word
          rw [z3]
          exact sign_v tp hn (by omega) ((zk 81 2 (by omega)).trans a2) (fun b => zk 1 b (by omega))
        · rw [u2_s, f3, nI_1]; rfl
        · show n - (u2 (S4_X8_word A J s) 81 3 (S4_X8_word A J s 81 3 + 1) 81 3).toNatClampNeg < n - (s.2.2 81 3).toNatClampNeg
          rw [z3, e3, nI_clamp (by omega), nI_clamp (by omega)]
          omega
      · rw [if_neg c2] at d1 d2
        refine Or.inr ⟨s, t, ?_, ?_, k, h1, lt, e0, kr, e3, e6, m, f3, fun z y => ?_⟩
        · unfold B_X8_word_w16
          rw [if_neg cn, if_pos (by rw [e, eq]; exact d2)]
        · unfold B_X12_token_w64
          rw [hv, eq, d1, if_pos rfl]
        · by_cases w : 0 < k
          · exact w
          · have : k = 0 := by omega
            rw [this, Nat.add_zero] at eb
            rw [eb, nI_clamp (by omega)] at y
            exact absurd y c2)
  obtain ⟨r, q, e1, e2, k, h1, lt, e0, kr, e3, e6, m, f3, pr⟩ := L
  unfold S2_X8_word S1_X8_word F_X8_word_w16 F_X12_token_w64
  rw [e1, e2]
  exact ⟨k, h1, lt, e0, kr, e3, e6, m, f3, pr⟩
