/-! both: where two bids rest -/
def Zb (u v : Nat) : SI := fun _ b => if b = 0 then nI u else nI v
def Jb : SJ := fun _ _ => 0
def rest_q (u v i : Nat) : Bool := (decide (i / 5 ≤ u ∧ i % 5 ≤ v) && (decide (F_X11_isRest 0 1 (nI i) (Zb u v) Jb = 0) == decide (F_X12_isRest 0 1 (nI (i / 5)) (nI (i % 5)) (Zb u v) Jb = 0))) || (!decide (i / 5 ≤ u ∧ i % 5 ≤ v) && decide (F_X11_isRest 0 1 (nI i) (Zb u v) Jb = 0))
theorem rest_qt : ∀ u, u < 5 → ∀ v, v < 5 → ∀ i, i < 25 → rest_q u v i = true := by decide +kernel
theorem rest_tab : ∀ u, u < 5 → ∀ v, v < 5 → ∀ i, i < 25 → (i / 5 ≤ u ∧ i % 5 ≤ v ∧ (F_X11_isRest 0 1 (nI i) (Zb u v) Jb = 0 ↔ F_X12_isRest 0 1 (nI (i / 5)) (nI (i % 5)) (Zb u v) Jb = 0)) ∨ (¬ (i / 5 ≤ u ∧ i % 5 ≤ v) ∧ F_X11_isRest 0 1 (nI i) (Zb u v) Jb = 0) := fun u hu v hv i hi => by
  have k := rest_qt u hu v hv i hi
  unfold rest_q at k
  by_cases c : i / 5 ≤ u ∧ i % 5 ≤ v
  · refine Or.inl ⟨c.1, c.2, ?_⟩
    rw [decide_eq_true c] at k
    by_cases a : F_X11_isRest 0 1 (nI i) (Zb u v) Jb = 0
    · by_cases b : F_X12_isRest 0 1 (nI (i / 5)) (nI (i % 5)) (Zb u v) Jb = 0
      · exact ⟨fun _ => b, fun _ => a⟩
      · rw [decide_eq_true a, decide_eq_false b] at k
        simp at k
    · by_cases b : F_X12_isRest 0 1 (nI (i / 5)) (nI (i % 5)) (Zb u v) Jb = 0
      · rw [decide_eq_false a, decide_eq_true b] at k
        simp at k
      · exact ⟨fun y => absurd y a, fun y => absurd y b⟩
  · refine Or.inr ⟨c, ?_⟩
    by_cases a : F_X11_isRest 0 1 (nI i) (Zb u v) Jb = 0
    · exact a
    · rw [decide_eq_false c, decide_eq_false a] at k
      simp at k
theorem rest_num : ∀ i, i < 25 → (nI i / 5) * 10 + (nI i - nI i / 5 * 5) = 10 * nI (i / 5) + nI (i % 5) := by decide +kernel
theorem rest_min : ∀ u, u < 5 → ∀ v, v < 5 → minI 4 (atF (Zb u v 93) 4 0) = nI u ∧ minI 4 (atF (Zb u v 93) 4 1) = nI v := by decide +kernel
theorem nI_ltb {a b : Nat} (ha : a < 2 ^ 31) (hb : b < 2 ^ 31) : nI a < nI b ↔ a < b := by
  rw [Int32.lt_iff_toInt_lt, nI_toInt ha, nI_toInt hb]
  omega
theorem mins_v {l : Nat} (h : l < 1000) : ∃ u, u < 5 ∧ minI 4 (nI l) = nI u ∧ ∀ k, k < 5 → (nI l < nI k ↔ nI u < nI k) := by
  unfold minI
  by_cases z : l < 4
  · have q : nI l < nI 4 := (nI_ltb (by omega) (by omega)).mpr z
    exact ⟨l, by omega, if_pos q, fun k _ => Iff.rfl⟩
  · have q : ¬ nI l < nI 4 := fun y => z ((nI_ltb (by omega) (by omega)).mp y)
    refine ⟨4, by omega, if_neg q, fun k hk => ?_⟩
    rw [nI_ltb (by omega) (by omega), nI_ltb (by omega) (by omega)]
    omega
theorem rest11 {u v : Nat} {a0 a1 w : Int32} {A : SI} {J : SJ} (e1 : minI 4 (atF (A 93) 4 a0) = nI u) (e2 : minI 4 (atF (A 93) 4 a1) = nI v) (hu : u < 5) (hv : v < 5) : F_X11_isRest a0 a1 w A J = F_X11_isRest 0 1 w (Zb u v) Jb := by
  obtain ⟨z1, z2⟩ := rest_min u hu v hv
  unfold F_X11_isRest
  rw [e1, e2, z1, z2]
  rfl
theorem rest12 {p q u v : Nat} {x y : Int32} {B : SI} {J : SJ} (hp : p < 4) (hq : q < 4) (h1 : ∀ k, k < 5 → (B 166 p < nI k ↔ nI u < nI k)) (h2 : ∀ k, k < 5 → (B 166 q < nI k ↔ nI v < nI k)) : F_X12_isRest (nI p) (nI q) x y B J = F_X12_isRest 0 1 x y (Zb u v) Jb := by
  have e : itE (B_X12_isRest_l3 (nI p) (nI q) x y B J) 5 0 () = itE (B_X12_isRest_l3 0 1 x y (Zb u v) Jb) 5 0 () := itE_cg 5 0 () (fun j _ hj s => by
    have z0 : Zb u v 166 (0 : Int32).toNatClampNeg = nI u := if_pos (by decide)
    have z1 : Zb u v 166 (1 : Int32).toNatClampNeg = nI v := if_neg (by decide)
    have j5 : j < 5 := by omega
    unfold B_X12_isRest_l3
    rw [nI_clamp (show p < 2 ^ 31 by omega), nI_clamp (show q < 2 ^ 31 by omega), z0, z1]
    exact ife (h1 j j5) (fun _ => ife (h2 j j5) (fun _ => rfl) (fun _ => rfl)) (fun _ => ife Iff.rfl (fun _ => rfl) (fun _ => ife (h2 j j5) (fun _ => rfl) (fun _ => rfl))))
  unfold F_X12_isRest F_X12_isRest_l3
  rw [e]
theorem itE_id {σ ρ : Type} {f : Nat → σ → σ ⊕ ρ} {s : σ} : ∀ n i, (∀ j, i ≤ j → j < i + n → f j s = .inl s) → itE f n i s = .inl s := by
  intro n
  induction n with
  | zero => intro i _; exact itE_0 f i s
  | succ n ih =>
    intro i h
    rw [itE_l f n i s s (h i (Nat.le_refl _) (by omega))]
    exact ih (i + 1) (fun j x y => h j (by omega) (by omega))
theorem itE_add {σ ρ : Type} {f : Nat → σ → σ ⊕ ρ} : ∀ n m i s, (∀ s', itE f n i s = .inl s' → itE f (n + m) i s = itE f m (i + n) s') ∧ (∀ r, itE f n i s = .inr r → itE f (n + m) i s = .inr r) := by
  intro n
  induction n with
  | zero =>
    intro m i s
    rw [itE_0]
    refine ⟨fun s' e => ?_, fun r e => nomatch e⟩
    rw [Sum.inl.inj e, Nat.zero_add, Nat.add_zero]
  | succ n ih =>
    intro m i s
    rw [show n + 1 + m = (n + m) + 1 by omega]
    cases e : f i s with
    | inl s1 =>
      rw [itE_l f n i s s1 e, itE_l f (n + m) i s s1 e]
      have k := ih m (i + 1) s1
      rw [show i + 1 + n = i + (n + 1) by omega] at k
      exact k
    | inr r =>
      rw [itE_r f n i s r e, itE_r f (n + m) i s r e]
      exact ⟨fun s' x => (nomatch x), fun r' x => x⟩
theorem rest_in {p q u v x : Nat} {a2 cx : Int32} {A B : SI} {JA J' : SJ} (hx : x ≤ u) (hu : u < 5) (hv : v < 5) (hq : q < 4) (E11 : ∀ w, F_X11_isRest (nI p) (nI q) w A JA = F_X11_isRest 0 1 w (Zb u v) Jb) (E12 : ∀ x y, F_X12_isRest (nI p) (nI q) x y B J' = F_X12_isRest 0 1 x y (Zb u v) Jb) (mq : minI 4 (B 166 q) = nI v) : ∀ n y c N, y + n = 5 → n < N → (∃ c' y', itW (B_X12_restOf_w24 (nI p) (nI q) a2 B J' (cx, nI x)) N (c, nI y) = some (.inl (c', y')) ∧ itE (B_X11_rest_l21 (nI p) (nI q) a2 A JA) n (5 * x + y) c = .inl c') ∨ (∃ r, itW (B_X12_restOf_w24 (nI p) (nI q) a2 B J' (cx, nI x)) N (c, nI y) = some (.inr r) ∧ itE (B_X11_rest_l21 (nI p) (nI q) a2 A JA) n (5 * x + y) c = .inr r) := by
  have lt : ∀ y, y < 6 → (minI 4 (B 166 (nI q).toNatClampNeg) < nI y ↔ v < y) := fun y hy => by
    rw [nI_clamp (show q < 2 ^ 31 by omega), mq]
    exact nI_ltb (by omega) (by omega)
  intro n
  induction n with
  | zero =>
    intro y c N hy hN
    obtain ⟨N, rfl⟩ : ∃ M, N = M + 1 := ⟨N - 1, by omega⟩
    refine Or.inl ⟨c, nI y, itW_r _ _ _ _ ?_, itE_0 _ _ _⟩
    unfold B_X12_restOf_w24
    exact if_pos ((lt y (by omega)).mpr (by omega))
  | succ n ih =>
    intro y c N hy hN
    obtain ⟨N, rfl⟩ : ∃ M, N = M + 1 := ⟨N - 1, by omega⟩
    by_cases z : v < y
    · refine Or.inl ⟨c, nI y, itW_r _ _ _ _ ?_, itE_id _ _ (fun j h1 h2 => ?_)⟩
      · unfold B_X12_restOf_w24
        exact if_pos ((lt y (by omega)).mpr z)
      · have t := (rest_tab u hu v hv j (by omega)).resolve_left (fun w => by have := w.2.1; omega)
        unfold B_X11_rest_l21
        exact if_pos ((E11 _).trans t.2)
    · have t := rest_tab u hu v hv (5 * x + y) (by omega)
      have d : (5 * x + y) / 5 = x := by omega
      have m : (5 * x + y) % 5 = y := by omega
      have nm := rest_num (5 * x + y) (by omega)
      rw [d, m] at t nm
      have t2 := (t.resolve_right (fun w => w.1 ⟨hx, by omega⟩)).2.2
      have g : ¬ minI 4 (B 166 (nI q).toNatClampNeg) < nI y := fun w => z ((lt y (by omega)).mp w)
      by_cases k : F_X12_isRest 0 1 (nI x) (nI y) (Zb u v) Jb = 0
      · have r1 : B_X12_restOf_w24 (nI p) (nI q) a2 B J' (cx, nI x) (c, nI y) = .inl (c, nI (y + 1)) := by
          unfold B_X12_restOf_w24
          exact (if_neg g).trans ((if_pos ((E12 _ _).trans k)).trans (congrArg (fun w => Sum.inl (c, w)) (nI_1 _)))
        have r2 : B_X11_rest_l21 (nI p) (nI q) a2 A JA (5 * x + y) c = .inl c := by
          unfold B_X11_rest_l21
          exact if_pos ((E11 _).trans (t2.mpr k))
        rw [itW_l _ _ _ _ r1, itE_l _ _ _ _ _ r2]
        exact ih (y + 1) c N (by omega) (by omega)
      · have k1 : ¬ F_X12_isRest (nI p) (nI q) (nI x) (nI y) B J' = 0 := fun w => k ((E12 _ _).symm.trans w)
        have k2 : ¬ F_X11_isRest (nI p) (nI q) (nI (5 * x + y)) A JA = 0 := fun w => k (t2.mp ((E11 _).symm.trans w))
        by_cases w : c = a2
        · refine Or.inr ⟨10 * nI x + nI y, itW_r _ _ _ _ ?_, itE_r _ _ _ _ _ ?_⟩
          · unfold B_X12_restOf_w24
            exact (if_neg g).trans ((if_neg k1).trans (if_pos w))
          · unfold B_X11_rest_l21
            exact (if_neg k2).trans ((if_pos w).trans (congrArg Sum.inr nm))
        · have r1 : B_X12_restOf_w24 (nI p) (nI q) a2 B J' (cx, nI x) (c, nI y) = .inl (c + 1, nI (y + 1)) := by
            unfold B_X12_restOf_w24
            exact (if_neg g).trans ((if_neg k1).trans ((if_neg w).trans (congrArg (fun w => Sum.inl (c + 1, w)) (nI_1 _))))
          have r2 : B_X11_rest_l21 (nI p) (nI q) a2 A JA (5 * x + y) c = .inl (c + 1) := by
            unfold B_X11_rest_l21
            exact (if_neg k2).trans (if_neg w)
          rw [itW_l _ _ _ _ r1, itE_l _ _ _ _ _ r2]
          exact ih (y + 1) (c + 1) N (by omega) (by omega)
theorem rest_out {p q u v : Nat} {a2 : Int32} {A B : SI} {JA J' : SJ} (hu : u < 5) (hv : v < 5) (hp : p < 4) (hq : q < 4) (E11 : ∀ w, F_X11_isRest (nI p) (nI q) w A JA = F_X11_isRest 0 1 w (Zb u v) Jb) (E12 : ∀ x y, F_X12_isRest (nI p) (nI q) x y B J' = F_X12_isRest 0 1 x y (Zb u v) Jb) (mp : minI 4 (B 166 p) = nI u) (mq : minI 4 (B 166 q) = nI v) : ∀ n x c N, x + n = 5 → n < N → (∃ c' x', itW (B_X12_restOf_w6 (nI p) (nI q) a2 B J') N (c, nI x) = some (.inl (c', x')) ∧ itE (B_X11_rest_l21 (nI p) (nI q) a2 A JA) (5 * n) (5 * x) c = .inl c') ∨ (∃ r, itW (B_X12_restOf_w6 (nI p) (nI q) a2 B J') N (c, nI x) = some (.inr r) ∧ itE (B_X11_rest_l21 (nI p) (nI q) a2 A JA) (5 * n) (5 * x) c = .inr r) := by
  have lt : ∀ y, y < 6 → (minI 4 (B 166 (nI p).toNatClampNeg) < nI y ↔ u < y) := fun y hy => by
    rw [nI_clamp (show p < 2 ^ 31 by omega), mp]
    exact nI_ltb (by omega) (by omega)
  intro n
  induction n with
  | zero =>
    intro x c N hx hN
    obtain ⟨N, rfl⟩ : ∃ M, N = M + 1 := ⟨N - 1, by omega⟩
    refine Or.inl ⟨c, nI x, itW_r _ _ _ _ ?_, itE_0 _ _ _⟩
    unfold B_X12_restOf_w6
    exact if_pos ((lt x (by omega)).mpr (by omega))
  | succ n ih =>
    intro x c N hx hN
    obtain ⟨N, rfl⟩ : ∃ M, N = M + 1 := ⟨N - 1, by omega⟩
    by_cases z : u < x
    · refine Or.inl ⟨c, nI x, itW_r _ _ _ _ ?_, itE_id _ _ (fun j h1 h2 => ?_)⟩
      · unfold B_X12_restOf_w6
        exact if_pos ((lt x (by omega)).mpr z)
      · have t := (rest_tab u hu v hv j (by omega)).resolve_left (fun w => by have := w.1; omega)
        unfold B_X11_rest_l21
        exact if_pos ((E11 _).trans t.2)
    · have g : ¬ minI 4 (B 166 (nI p).toNatClampNeg) < nI x := fun w => z ((lt x (by omega)).mp w)
      have ad := itE_add (f := B_X11_rest_l21 (nI p) (nI q) a2 A JA) 5 (5 * n) (5 * x) c
      have i := rest_in (a2 := a2) (cx := c) (A := A) (JA := JA) (show x ≤ u by omega) hu hv hq E11 E12 mq 5 0 c 800 (by omega) (by omega)
      rw [Nat.add_zero] at i
      rw [show 5 * (n + 1) = 5 + 5 * n by omega]
      rcases i with ⟨c', y', e1, e2⟩ | ⟨r, e1, e2⟩
      · have e24 : F_X12_restOf_w24 (nI p) (nI q) a2 B J' (c, nI x) (c, 0) = .inl (c', y') := by
          unfold F_X12_restOf_w24
          exact congrArg (fun o => Option.getD o (.inl (c, 0))) e1
        have b : B_X12_restOf_w6 (nI p) (nI q) a2 B J' (c, nI x) = .inl (c', nI (x + 1)) := by
          unfold B_X12_restOf_w6
          refine (if_neg g).trans ?_
          show (match F_X12_restOf_w24 (nI p) (nI q) a2 B J' (c, nI x) (c, 0) with | .inl se24 => (Sum.inl (se24.1, nI x + 1) : (Int32 × Int32) ⊕ ((Int32 × Int32) ⊕ Int32)) | .inr re24 => Sum.inr (Sum.inr re24)) = _
          rw [e24]
          exact congrArg (fun w => Sum.inl (c', w)) (nI_1 _)
        rw [itW_l _ _ _ _ b, ad.1 c' e2]
        exact ih (x + 1) c' N (by omega) (by omega)
      · have e24 : F_X12_restOf_w24 (nI p) (nI q) a2 B J' (c, nI x) (c, 0) = .inr r := by
          unfold F_X12_restOf_w24
          exact congrArg (fun o => Option.getD o (.inl (c, 0))) e1
        refine Or.inr ⟨r, itW_r _ _ _ _ ?_, ad.2 r e2⟩
        unfold B_X12_restOf_w6
        refine (if_neg g).trans ?_
        show (match F_X12_restOf_w24 (nI p) (nI q) a2 B J' (c, nI x) (c, 0) with | .inl se24 => (Sum.inl (se24.1, nI x + 1) : (Int32 × Int32) ⊕ ((Int32 × Int32) ⊕ Int32)) | .inr re24 => Sum.inr (Sum.inr re24)) = _
        rw [e24]
theorem rest_all {a0 a1 : Int32} {A B : SI} {JA J' : SJ} (g : GTL A B) (s : GSC A JA B) : F_X11_canBid a0 a1 A JA = F_X12_areTwo a0 a1 (u2 B 130 0 0) J' ∧ (¬ F_X11_canBid a0 a1 A JA = 0 → ∀ a2, (∃ c' x', itE (B_X11_rest_l21 a0 a1 a2 A JA) 25 0 0 = .inl c' ∧ F_X12_restOf_w6 a0 a1 a2 (u2 B 130 0 0) J' (0, 0) = .inl (c', x')) ∨ (∃ r, itE (B_X11_rest_l21 a0 a1 a2 A JA) 25 0 0 = .inr r ∧ F_X12_restOf_w6 a0 a1 a2 (u2 B 130 0 0) J' (0, 0) = .inr r)) := by
  obtain ⟨nm, ns, c, sc, _, _⟩ := gsc0 (v := 0) s
  obtain ⟨np, hp, p1, p2, _⟩ := cnt_p g
  have h0 := party_h (a0 := a0) (J := JA) (J' := J') g
  have h1 := party_h (a0 := a1) (J := JA) (J' := J') g
  refine ⟨?_, fun h a2 => ?_⟩
  · unfold F_X11_canBid F_X12_areTwo
    rw [h0, h1]
  unfold F_X11_canBid at h
  by_cases c1 : F_X7_holds 13 a0 A JA = 0
  · rw [if_pos c1] at h
    exact absurd rfl h
  by_cases c2 : F_X7_holds 13 a1 A JA = 0
  · rw [if_neg c1, if_pos c2] at h
    exact absurd rfl h
  obtain ⟨p, hp4, rfl⟩ := hold_n p1 (by omega) c1
  obtain ⟨q, hq4, rfl⟩ := hold_n p1 (by omega) c2
  have lf : ∀ k, k < 4 → A 93 k = u2 B 130 0 0 166 k ∧ ∃ l, l < 1000 ∧ A 93 k = nI l := fun k hk => by
    have w := sc.2.2.2.2.2 k hk
    rw [Nat.mul_zero, Nat.zero_add] at w
    exact ⟨w.1.1, w.2.n⟩
  obtain ⟨ep, lp, hlp, e1⟩ := lf p (by omega)
  obtain ⟨eq, lq, hlq, e2⟩ := lf q (by omega)
  obtain ⟨u, hu, mu, ku⟩ := mins_v hlp
  obtain ⟨v, hv, mv, kv⟩ := mins_v hlq
  have E11 : ∀ w, F_X11_isRest (nI p) (nI q) w A JA = F_X11_isRest 0 1 w (Zb u v) Jb := fun w => rest11 (by rw [atF_v (by omega) (by omega), e1]; exact mu) (by rw [atF_v (by omega) (by omega), e2]; exact mv) hu hv
  have E12 : ∀ x y, F_X12_isRest (nI p) (nI q) x y (u2 B 130 0 0) J' = F_X12_isRest 0 1 x y (Zb u v) Jb := fun x y => rest12 (by omega) (by omega) (fun k hk => by rw [← ep, e1]; exact ku k hk) (fun k hk => by rw [← eq, e2]; exact kv k hk)
  have o := rest_out (a2 := a2) (p := p) (q := q) hu hv (by omega) (by omega) E11 E12 (by rw [← ep, e1]; exact mu) (by rw [← eq, e2]; exact mv) 5 0 0 800 (by omega) (by omega)
  rcases o with ⟨c', x', w1, w2⟩ | ⟨r, w1, w2⟩
  · refine Or.inl ⟨c', x', w2, ?_⟩
    unfold F_X12_restOf_w6
    exact congrArg (fun o => Option.getD o (.inl (0, 0))) w1
  · refine Or.inr ⟨r, w2, ?_⟩
    unfold F_X12_restOf_w6
    exact congrArg (fun o => Option.getD o (.inl (0, 0))) w1
theorem rest_val {a0 a1 a2 : Int32} {A B : SI} {JA J' : SJ} (g : GTL A B) (s : GSC A JA B) : F_X11_rest a0 a1 a2 A JA = F_X12_rest a0 a1 a2 B J' := by
  obtain ⟨e, w⟩ := rest_all (a0 := a0) (a1 := a1) (J' := J') g s
  unfold F_X11_rest F_X12_rest F_X11_rest_l21 F_X12_restOf
  rw [← e]
  by_cases c1 : F_X11_canBid a0 a1 A JA = 0
  · rw [if_pos c1, if_pos c1]
  rw [if_neg c1, if_neg c1]
  by_cases c2 : 0 ≤ a2
  · rw [if_pos c2, if_neg (Int32.not_lt.mpr c2)]
    have nn : ¬ a2 = -1 := fun y => by rw [y] at c2; exact absurd c2 (by decide)
    rcases w c1 a2 with ⟨c', x', w1, w2⟩ | ⟨r, w1, w2⟩
    · rw [w1, w2]
      exact (if_neg nn).symm
    · rw [w1, w2]
  · rw [if_neg c2, if_pos (Int32.not_le.mp c2)]
theorem rests_val {a0 a1 : Int32} {A B : SI} {JA J' : SJ} (g : GTL A B) (s : GSC A JA B) : F_X11_rests a0 a1 A JA = F_X12_rests a0 a1 B J' := by
  obtain ⟨e, w⟩ := rest_all (a0 := a0) (a1 := a1) (J' := J') g s
  have k : ∀ n, n ≤ 25 → ∃ k, k ≤ n ∧ itN (B_X11_rests_l16 a0 a1 A JA) n 0 = nI k ∧ itE (B_X11_rest_l21 a0 a1 (-1) A JA) n 0 0 = .inl (nI k) := by
    intro n
    induction n with
    | zero => intro _; exact ⟨0, Nat.le_refl _, itN_0 _ _, itE_0 _ _ _⟩
    | succ n ih =>
      intro hn
      obtain ⟨k, hk, e1, e2⟩ := ih (by omega)
      rw [itN_s, e1]
      by_cases z : F_X11_isRest a0 a1 (nI n) A JA = 0
      · refine ⟨k, by omega, ?_, itE_succ _ _ _ _ _ e2 ?_⟩
        · unfold B_X11_rests_l16
          exact if_pos z
        · unfold B_X11_rest_l21
          exact if_pos z
      · refine ⟨k + 1, by omega, ?_, itE_succ _ _ _ _ _ e2 ?_⟩
        · unfold B_X11_rests_l16
          exact (if_neg z).trans (nI_1 _)
        · unfold B_X11_rest_l21
          refine (if_neg z).trans ((if_neg (fun y => ?_)).trans (congrArg Sum.inl (nI_1 _)))
          have t : (nI k).toInt = (-1 : Int32).toInt := congrArg Int32.toInt y
          rw [nI_toInt (by omega)] at t
          have t2 : (-1 : Int32).toInt = -1 := by decide
          omega
  obtain ⟨m, _, e1, e2⟩ := k 25 (Nat.le_refl _)
  unfold F_X11_rests F_X12_rests F_X11_rests_l16 F_X12_restOf
  rw [← e]
  by_cases c1 : F_X11_canBid a0 a1 A JA = 0
  · rw [if_pos c1, if_pos c1]
  rw [if_neg c1, if_neg c1, e1]
  rcases w c1 (-1) with ⟨c', x', w1, w2⟩ | ⟨r, w1, w2⟩
  · rw [w2]
    rw [e2] at w1
    exact Sum.inl.inj w1
  · rw [e2] at w1
    exact nomatch w1
