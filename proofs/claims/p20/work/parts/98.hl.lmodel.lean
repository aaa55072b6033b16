/-! both: the least that must be filmed again: the reference's search -/
/-- the shots that would clash by a way of a mark -/
def clB (ns : Nat) (B : SI) (m v i : Nat) : Bool := decide (i < ns ∧ B 163 i = 1 ∧ ¬ B 165 (6 * i + m) = -1 ∧ ¬ B 165 (6 * i + m) = nI v)
theorem clB_t {ns m v i : Nat} {B : SI} : clB ns B m v i = true ↔ (i < ns ∧ B 163 i = 1 ∧ ¬ B 165 (6 * i + m) = -1 ∧ ¬ B 165 (6 * i + m) = nI v) := decide_eq_true_iff
theorem un_ns {ns m i : Nat} {t : Nat → Nat} {B : SI} (h : un (clB ns B) t m i = true) : i < ns := by
  obtain ⟨j, _, k⟩ := (an_t m).mp h
  exact (clB_t.mp k).1
/-- what is told of it: counts, ways, costs -/
def LTM (nm ns : Nat) (W c : Nat → Nat) (B : SI) : Prop := nm ≤ 6 ∧ ns ≤ 8 ∧ B 132 0 = nI nm ∧ B 132 1 = nI ns ∧ (∀ m, m < nm → B 135 m = nI (W m) ∧ 0 < W m ∧ W m < 7) ∧ ∀ i, i < ns → B 137 i = nI (c i) ∧ c i < 100
theorem LTM.bd {nm ns m : Nat} {W c t : Nat → Nat} {B B0 : SI} (h : LTM nm ns W c B) : vl c (un (clB ns B0) t m) 8 ≤ 800 := vl_le 8 (fun _ _ q => (h.2.2.2.2.2 _ (un_ns q)).2)
theorem cost_fl {nm ns s : Nat} {s4 : Int32} {t : Nat → Nat} {B Y : SI} {J : SJ} (hs : s < ns) (hn : ns ≤ 8) (hm : nm ≤ 6) (ew : ∀ b, Y 165 b = B 165 b) (ek : ∀ j, j < nm → Y 168 j = nI (t j)) : ∀ n, n ≤ nm → itN (B_X12_costNow_l19 Y J s s4) n 0 = if an (fun j => decide (¬ B 165 (6 * s + j) = -1 ∧ ¬ B 165 (6 * s + j) = nI (t j))) n = true then 1 else 0 := by
  intro n
  induction n with
  | zero => intro _; exact itN_0 _ _
  | succ n ih =>
    intro h
    have w : F_X12_wayIn 0 (nI s) (nI n) Y J = Y 165 (48 * 0 + (6 * s + n)) := way_m (f := 0) (by omega) (by omega) (by omega)
    rw [Nat.mul_zero, Nat.zero_add, ew] at w
    rw [itN_s, ih (by omega)]
    unfold B_X12_costNow_l19
    rw [w, nI_clamp (show n < 2 ^ 31 by omega), ek n (by omega)]
    show _ = if (an (fun j => decide (¬ B 165 (6 * s + j) = -1 ∧ ¬ B 165 (6 * s + j) = nI (t j))) n || decide (¬ B 165 (6 * s + n) = -1 ∧ ¬ B 165 (6 * s + n) = nI (t n))) = true then (1 : Int32) else 0
    by_cases c1 : B 165 (6 * s + n) = -1
    · rw [if_pos c1, Int32.or_zero, decide_eq_false (fun q => q.1 c1), Bool.or_false]
    · rw [if_neg c1]
      by_cases c2 : B 165 (6 * s + n) = nI (t n)
      · rw [if_pos c2, Int32.or_zero, decide_eq_false (fun q => q.2 c2), Bool.or_false]
      · rw [if_neg c2, decide_eq_true (And.intro c1 c2), Bool.or_true, if_pos rfl]
        split <;> decide
theorem cost_v {nm ns : Nat} {W c t : Nat → Nat} {B Y : SI} {J : SJ} (h : LTM nm ns W c B) (ey : ∀ a b, ¬ a = 168 → ¬ a = 169 → ¬ (a = 130 ∧ b = 62) → Y a b = B a b) (ek : ∀ j, j < nm → Y 168 j = nI (t j)) : F_X12_costNow Y J = nI (vl c (un (clB ns B) t nm) 8) := by
  obtain ⟨hm, hn, e0, e1, _, hc⟩ := h
  have L : ∀ n, n ≤ ns → itN (B_X12_costNow_l4 Y J) n 0 = nI (vl c (un (clB ns B) t nm) n) := by
    intro n
    induction n with
    | zero => intro _; exact itN_0 _ _
    | succ n ih =>
      intro hh
      have d : F_X12_isDone 0 (nI n) Y J = if Y 163 (8 * 0 + n) = 1 then 1 else 0 := done_m (f := 0) (by omega) (by omega)
      rw [Nat.mul_zero, Nat.zero_add, ey 163 n (by omega) (by omega) (by omega)] at d
      have key : un (clB ns B) t nm n = true ↔ (an (fun j => decide (¬ B 165 (6 * n + j) = -1 ∧ ¬ B 165 (6 * n + j) = nI (t j))) nm = true ∧ B 163 n = 1) := by
        constructor
        · intro q
          obtain ⟨j, j1, j2⟩ := (an_t nm).mp q
          have k := clB_t.mp j2
          exact ⟨(an_t nm).mpr ⟨j, j1, decide_eq_true k.2.2⟩, k.2.1⟩
        · rintro ⟨q, b⟩
          obtain ⟨j, j1, j2⟩ := (an_t nm).mp q
          have k := of_decide_eq_true j2
          exact (an_t nm).mpr ⟨j, j1, clB_t.mpr ⟨by omega, b, k.1, k.2⟩⟩
      rw [itN_s, ih (by omega)]
      unfold B_X12_costNow_l4 F_X12_costNow_l19
      rw [ey 132 0 (by omega) (by omega) (by omega), e0, nI_clamp (show nm < 2 ^ 31 by omega), cost_fl (ns := ns) (t := t) (B := B) (by omega) hn hm (fun b => ey 165 b (by omega) (by omega) (by omega)) ek nm (Nat.le_refl _), d, nI_clamp (show n < 2 ^ 31 by omega), ey 137 n (by omega) (by omega) (by omega), (hc n (by omega)).1]
      show _ = nI (vl c (un (clB ns B) t nm) n + (if un (clB ns B) t nm n = true then c n else 0))
      by_cases a : an (fun j => decide (¬ B 165 (6 * n + j) = -1 ∧ ¬ B 165 (6 * n + j) = nI (t j))) nm = true
      · rw [if_pos a, if_neg (show ¬ (1 : Int32) = 0 by decide)]
        by_cases b : B 163 n = 1
        · rw [if_pos b, if_neg (show ¬ (1 : Int32) = 0 by decide), if_pos (key.mpr ⟨a, b⟩), nI_add]
        · rw [if_neg b, if_pos rfl, if_neg (fun q => b (key.mp q).2), Int32.add_zero, Nat.add_zero]
      · rw [if_neg a, if_pos rfl, if_neg (fun q => a (key.mp q).1), Int32.add_zero, Nat.add_zero]
  have cut := vl_cut (c := c) (u := un (clB ns B) t nm) (n := ns) (8 - ns) (fun i a _ => by
    cases e : un (clB ns B) t nm i with
    | false => rfl
    | true => have := un_ns e; omega)
  rw [show ns + (8 - ns) = 8 by omega] at cut
  unfold F_X12_costNow F_X12_costNow_l4
  rw [ey 132 1 (by omega) (by omega) (by omega), e1, nI_clamp (show ns < 2 ^ 31 by omega), L ns (Nat.le_refl _), cut]
theorem say_cp {nm : Nat} {rec : Nat → Int32 → SI → SJ → SI × SJ} {a0 : Int32} {Ia : SI} {Ja : SJ} (hm : nm ≤ 6) : ∀ d j Y N, j + d = nm → d < N → Y 132 0 = nI nm → ∃ e Y', itW (B_X12_sayings_w72 rec a0 Ia Ja) N (nI j, Y) = some (e, Y') ∧ (∀ b, j ≤ b → b < nm → Y' 169 b = Y 168 b) ∧ ∀ a b, ¬ (a = 169 ∧ j ≤ b) → Y' a b = Y a b := by
  intro d
  induction d with
  | zero =>
    intro j Y N hj hN e
    obtain ⟨N, rfl⟩ : ∃ M, N = M + 1 := ⟨N - 1, by omega⟩
    refine ⟨nI j, Y, itW_r _ _ _ _ ?_, fun b h1 h2 => by omega, fun _ _ _ => rfl⟩
    unfold B_X12_sayings_w72
    exact if_pos (show Y 132 0 ≤ nI j by rw [e]; exact nI_le (by omega) (by omega))
  | succ d ih =>
    intro j Y N hj hN e
    obtain ⟨N, rfl⟩ : ∃ M, N = M + 1 := ⟨N - 1, by omega⟩
    have r : B_X12_sayings_w72 rec a0 Ia Ja (nI j, Y) = .inl (nI (j + 1), u2 Y 169 j (Y 168 j)) := by
      unfold B_X12_sayings_w72
      refine (if_neg (show ¬ Y 132 0 ≤ nI j by rw [e]; exact nI_ge (by omega) (by omega))).trans ?_
      show Sum.inl (nI j + 1, u2 Y 169 (nI j).toNatClampNeg (Y 168 (nI j).toNatClampNeg)) = _
      rw [nI_clamp (show j < 2 ^ 31 by omega), nI_1]
    obtain ⟨e', Y', h1, h2, h3⟩ := ih (j + 1) (u2 Y 169 j (Y 168 j)) N (by omega) (by omega) ((u2_n _ _ (by omega)).trans e)
    refine ⟨e', Y', (itW_l _ _ _ _ r).trans h1, fun b b1 b2 => ?_, fun a b q => (h3 a b (by omega)).trans (u2_n _ _ (by omega))⟩
    by_cases z : b = j
    · subst z
      exact (h3 169 b (by omega)).trans (u2_s _ _ _ _)
    · exact (h2 b (by omega) b2).trans (u2_n _ _ (by omega))
/-- the reference between two tries: the least so far, the ways on trial -/
def RLS (nm m : Nat) (t : Nat → Nat) (s : LQ) (B Y : SI) : Prop := ((s.1 = 1000000 ∧ Y 130 62 = -1) ∨ (s.1 < 1000 ∧ Y 130 62 = nI s.1 ∧ ∀ j, j < nm → Y 169 j = nI (s.2 j))) ∧ (∀ j, j < m → Y 168 j = nI (t j)) ∧ ∀ a b, ¬ a = 168 → ¬ a = 169 → ¬ (a = 130 ∧ b = 62) → Y a b = B a b
theorem say_v {nm ns : Nat} {W c : Nat → Nat} {B : SI} (h : LTM nm ns W c B) : ∀ n m t s Y J k, m + n = nm → n < k → RLS nm m t s B Y → RLS nm m t (sr W (clB ns B) c n m t s) B (RG_sayings k 0 (nI m) Y J).1 := by
  have h' := h
  obtain ⟨hm, hn, e0, e1, hw, hc⟩ := h'
  intro n
  induction n with
  | zero =>
    intro m t s Y J k hmn hk r
    obtain ⟨k, rfl⟩ : ∃ k', k = k' + 1 := ⟨k - 1, by omega⟩
    have em : m = nm := by omega
    subst em
    obtain ⟨r1, r2, r3⟩ := r
    show RLS m m t (sr W (clB ns B) c 0 m t s) B (FI_X12_sayings (RG_sayings k) (nI m) Y J)
    have cv := cost_v (J := J) h r3 r2
    have bd := h.bd (m := m) (t := t) (B0 := B)
    have y0 : Y 132 0 = nI m := (r3 132 0 (by omega) (by omega) (by omega)).trans e0
    rw [sr_0]
    generalize vl c (un (clB ns B) t m) 8 = v at *
    obtain ⟨e', Z, z1, z2, z3⟩ := say_cp (rec := RG_sayings k) (a0 := nI m) (Ia := Y) (Ja := J) hm m 0 (u2 Y 130 62 (nI v)) 800 (by omega) (by omega) ((u2_n _ _ (by omega)).trans y0)
    have zz : F_X12_sayings_w72 (RG_sayings k) (nI m) Y J (0, u2 Y 130 62 (nI v)) = (e', Z) := by
      unfold F_X12_sayings_w72
      exact congrArg (fun o => Option.getD o (0, u2 Y 130 62 (nI v))) z1
    have zz2 : F_X12_sayings_w72_2 (RG_sayings k) (nI m) Y J (0, u2 Y 130 62 (nI v)) = (e', Z) := zz
    have fin : RLS m m t (v, t) B Z := by
      refine ⟨Or.inr ⟨by omega, (z3 130 62 (by omega)).trans (u2_s _ _ _ _), fun j hj => ?_⟩, fun j hj => ?_, fun a b x y z => ?_⟩
      · exact (z2 j (by omega) hj).trans ((u2_n _ _ (by omega)).trans (r2 j hj))
      · exact (z3 168 j (by omega)).trans ((u2_n _ _ (by omega)).trans (r2 j hj))
      · exact (z3 a b (by omega)).trans ((u2_n _ _ z).trans (r3 a b x y z))
    unfold FI_X12_sayings
    rw [if_pos (show Y 132 0 ≤ nI m by rw [y0]; exact Int32.le_refl _), cv, zz, zz2]
    rcases r1 with ⟨a1, a2⟩ | ⟨a1, a2, a3⟩
    · rw [if_pos a2, if_pos (show v < s.1 by omega)]
      exact fin
    · rw [if_neg (show ¬ Y 130 62 = -1 by rw [a2]; exact nI_m1 (by omega)), a2]
      by_cases q : v < s.1
      · rw [if_pos q, if_pos ((nI_ltI (by omega) (by omega)).mpr q)]
        exact fin
      · rw [if_neg q, if_neg (fun y => q ((nI_ltI (by omega) (by omega)).mp y))]
        exact ⟨Or.inr ⟨a1, a2, a3⟩, r2, r3⟩
  | succ n ih =>
    intro m t s Y J k hmn hk r
    obtain ⟨k, rfl⟩ : ∃ k', k = k' + 1 := ⟨k - 1, by omega⟩
    show RLS nm m t (sr W (clB ns B) c (n + 1) m t s) B (FI_X12_sayings (RG_sayings k) (nI m) Y J)
    obtain ⟨w1, w2, w3⟩ := hw m (by omega)
    have L : ∀ d v Y' J' N, v + d = W m → d < N → RLS nm m t (itN (srF W (clB ns B) c n m t) v s) B Y' → ∃ e Y2 J2, itW (B_X12_sayings_w12 (RG_sayings k) (nI m) Y J) N (nI v, Y', J') = some (e, Y2, J2) ∧ RLS nm m t (itN (srF W (clB ns B) c n m t) (W m) s) B Y2 := by
      intro d
      induction d with
      | zero =>
        intro v Y' J' N hv hN q
        obtain ⟨N, rfl⟩ : ∃ M, N = M + 1 := ⟨N - 1, by omega⟩
        have ev : v = W m := by omega
        refine ⟨nI v, Y', J', itW_r _ _ _ _ ?_, by rw [← ev]; exact q⟩
        unfold B_X12_sayings_w12
        refine if_pos ?_
        show Y' 135 (nI m).toNatClampNeg ≤ nI v
        rw [nI_clamp (show m < 2 ^ 31 by omega), q.2.2 135 m (by omega) (by omega) (by omega), w1]
        exact nI_le (by omega) (by omega)
      | succ d id =>
        intro v Y' J' N hv hN q
        obtain ⟨N, rfl⟩ : ∃ M, N = M + 1 := ⟨N - 1, by omega⟩
        have cnd : ¬ Y' 135 (nI m).toNatClampNeg ≤ nI v := by
          rw [nI_clamp (show m < 2 ^ 31 by omega), q.2.2 135 m (by omega) (by omega) (by omega), w1]
          exact nI_ge (by omega) (by omega)
        have r : B_X12_sayings_w12 (RG_sayings k) (nI m) Y J (nI v, Y', J') = .inl (nI (v + 1), (RG_sayings k 0 (nI (m + 1)) (u2 Y' 168 m (nI v)) J').1, (RG_sayings k 0 (nI (m + 1)) (u2 Y' 168 m (nI v)) J').2) := by
          unfold B_X12_sayings_w12
          refine (if_neg cnd).trans ?_
          show Sum.inl (nI v + 1, (RG_sayings k 0 (nI m + 1) (u2 Y' 168 (nI m).toNatClampNeg (nI v)) J').1, (RG_sayings k 0 (nI m + 1) (u2 Y' 168 (nI m).toNatClampNeg (nI v)) J').2) = _
          rw [nI_clamp (show m < 2 ^ 31 by omega), nI_1, nI_1]
        have q' := q
        obtain ⟨q1, q2, q3⟩ := q'
        have inn := ih (m + 1) (up1 t m v) (itN (srF W (clB ns B) c n m t) v s) (u2 Y' 168 m (nI v)) J' k (by omega) (by omega) ⟨by
          rcases q1 with ⟨a1, a2⟩ | ⟨a1, a2, a3⟩
          · exact Or.inl ⟨a1, (u2_n _ _ (by omega)).trans a2⟩
          · exact Or.inr ⟨a1, (u2_n _ _ (by omega)).trans a2, fun j hj => (u2_n _ _ (by omega)).trans (a3 j hj)⟩, fun j hj => by
          by_cases y : j = m
          · rw [y, u2_s]
            exact congrArg nI (if_pos rfl).symm
          · rw [u2_n _ _ (by omega), q2 j (by omega)]
            exact congrArg nI (if_neg y).symm, fun a b x y z => (u2_n _ _ (by omega)).trans (q3 a b x y z)⟩
        obtain ⟨i1, i2, i3⟩ := inn
        obtain ⟨e', Y2, J2, g1, g2⟩ := id (v + 1) (RG_sayings k 0 (nI (m + 1)) (u2 Y' 168 m (nI v)) J').1 (RG_sayings k 0 (nI (m + 1)) (u2 Y' 168 m (nI v)) J').2 N (by omega) (by omega) (by
          rw [itN_s]
          exact ⟨i1, fun j hj => (i2 j (by omega)).trans (congrArg nI (if_neg (by omega))), i3⟩)
        exact ⟨e', Y2, J2, (itW_l _ _ _ _ r).trans g1, g2⟩
    obtain ⟨e', Y2, J2, g1, g2⟩ := L (W m) 0 Y J 800 (by omega) (by omega) (by rw [itN_0]; exact r)
    have zz : F_X12_sayings_w12 (RG_sayings k) (nI m) Y J (0, Y, J) = (e', Y2, J2) := by
      unfold F_X12_sayings_w12
      exact congrArg (fun o => Option.getD o (0, Y, J)) g1
    unfold FI_X12_sayings
    rw [if_neg (show ¬ Y 132 0 ≤ nI m by rw [r.2.2 132 0 (by omega) (by omega) (by omega), e0]; exact nI_ge (by omega) (by omega)), zz, sr_s]
    exact g2
