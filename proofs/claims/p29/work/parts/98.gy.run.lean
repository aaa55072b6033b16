/-! both: whom she believes, the longest run that follows -/
theorem believed_val {A B : SI} {JA J J' : SJ} (g : GTL A B) (s : GSC A JA B) : F_X11_believed A J = F_X12_believed B J' := by
  obtain ⟨nm, ns, c, sc, _, _⟩ := gsc0 (v := 0) s
  obtain ⟨np, hp, p1, p2, p3⟩ := cnt_p g
  unfold F_X11_believed F_X12_believed F_X11_believed_l4 F_X12_believed_l9
  rw [p1, u2_n _ _ (show ¬ ((132 : Nat) = 130 ∧ (3 : Nat) = 0) by omega), p2, nI_clamp (show np < 2 ^ 31 by omega)]
  refine itN_cg np (fun i hi x => ?_)
  obtain ⟨q1, q2, q3, q4⟩ := p3 i hi
  obtain ⟨mk, hk, ek⟩ := q3.n
  have r1 : u2 B 130 0 0 141 i = nI mk := (u2_n _ _ (by omega)).trans (q1.symm.trans ek)
  have r2 : u2 B 130 0 0 142 i = A 16 i := (u2_n _ _ (by omega)).trans q2.symm
  have k := (sc.2.2.2.2.1 mk hk).1.1
  rw [Nat.mul_zero, Nat.zero_add] at k
  have k1 : A 91 mk = u2 B 130 0 0 160 mk := k
  unfold B_X11_believed_l4 B_X12_believed_l9
  rw [nI_clamp (show i < 2 ^ 31 by omega), r1, r2, nI_clamp (show mk < 2 ^ 31 by omega), atF_v (show i < 8 by omega) (by omega), atF_v (show i < 8 by omega) (by omega), ek, atF_v hk (by omega), ← k1]
  by_cases z : A 91 mk = A 16 i
  · rw [if_pos z, if_pos z]
  · rw [if_neg z, if_neg z]
    exact Int32.or_zero.symm
theorem cnt_b {f : Nat → Int32 → Int32} (h : ∀ i x, f i x = x + 0 ∨ f i x = x + 1) : ∀ n, ∃ k, k ≤ n ∧ itN f n 0 = nI k := by
  intro n
  induction n with
  | zero => exact ⟨0, Nat.le_refl _, itN_0 _ _⟩
  | succ n ih =>
    obtain ⟨k, hk, e⟩ := ih
    rw [itN_s, e]
    rcases h n (nI k) with z | z
    · exact ⟨k, by omega, z.trans (Int32.add_zero _)⟩
    · exact ⟨k + 1, by omega, z.trans (nI_1 _)⟩
theorem br_b {a0 a1 : Int32} {nm : Nat} {B : SI} {J : SJ} (hm : nm ≤ 6) (e : B 132 0 = nI nm) : ∃ k, k ≤ nm ∧ F_X12_breaksOf a0 a1 B J = nI k := by
  unfold F_X12_breaksOf F_X12_breaksOf_l39
  rw [e, nI_clamp (show nm < 2 ^ 31 by omega)]
  repeat' split
  · exact ⟨0, Nat.zero_le _, rfl⟩
  · exact ⟨0, Nat.zero_le _, rfl⟩
  · exact ⟨0, Nat.zero_le _, rfl⟩
  · refine cnt_b (fun i x => ?_) nm
    unfold B_X12_breaksOf_l39
    repeat' split
    all_goals first
      | exact Or.inl rfl
      | exact Or.inr rfl
theorem run_val {A B : SI} {JA J J' : SJ} (s : GSC A JA B) : F_X11_run A J = F_X12_run B J' := by
  obtain ⟨nm, ns, c, sc, _, _⟩ := gsc0 (v := 0) s
  have c' := c
  obtain ⟨hm, hn, a3, a8, b0, b1⟩ := c'
  have L : ∀ n, n ≤ ns → itN (B_X11_run_l6 A J) n (0, 0) = itN (B_X12_run_l11 B J') n (0, 0) ∧ ∃ k, k ≤ n ∧ (itN (B_X12_run_l11 B J') n (0, 0)).2 = nI k := by
    intro n
    induction n with
    | zero => intro _; rw [itN_0, itN_0]; exact ⟨rfl, 0, Nat.le_refl _, rfl⟩
    | succ n ih =>
      intro h
      obtain ⟨e, k, hk, ek⟩ := ih (by omega)
      rw [itN_s, itN_s, e]
      generalize itN (B_X12_run_l11 B J') n (0, 0) = S at *
      obtain ⟨x, y⟩ := S
      have ek : y = nI k := ek
      subst ek
      have dn : A 88 n = 0 ↔ F_X12_isDone 0 (nI n) (u2 B 130 0 0) J' = 0 := sc.dn (f := 0) (J := J') (by omega) (show n < 8 by omega)
      have ea : atF (A 88) 8 (nI n) = A 88 n := atF_v (by omega) (by omega)
      by_cases z : A 88 n = 0
      · have e1 : B_X11_run_l6 A J n (x, nI k) = (maxI x 0, 0) := by
          unfold B_X11_run_l6
          exact if_pos (ea.trans z)
        have e2 : B_X12_run_l11 B J' n (x, nI k) = (maxI x 0, 0) := by
          unfold B_X12_run_l11
          exact if_pos (dn.mp z)
        rw [e1, e2]
        exact ⟨rfl, 0, by omega, rfl⟩
      have z1 : ¬ atF (A 88) 8 (nI n) = 0 := by rw [ea]; exact z
      have z2 : ¬ F_X12_isDone 0 (nI n) (u2 B 130 0 0) J' = 0 := fun q => z (dn.mpr q)
      have one : B_X11_run_l6 A J n (x, nI k) = (maxI x 1, 1) → T_X12_run_j41 B J' n (x, nI k) = 0 → B_X11_run_l6 A J n (x, nI k) = B_X12_run_l11 B J' n (x, nI k) ∧ ∃ k', k' ≤ n + 1 ∧ (B_X12_run_l11 B J' n (x, nI k)).2 = nI k' := by
        intro e1 t
        have e2 : B_X12_run_l11 B J' n (x, nI k) = (maxI x 1, 1) := by
          unfold B_X12_run_l11
          exact (if_neg z2).trans (if_pos t)
        rw [e1, e2]
        exact ⟨rfl, 1, by omega, rfl⟩
      have more : B_X11_run_l6 A J n (x, nI k) = (maxI x (nI k + 1), nI k + 1) → ¬ T_X12_run_j41 B J' n (x, nI k) = 0 → B_X11_run_l6 A J n (x, nI k) = B_X12_run_l11 B J' n (x, nI k) ∧ ∃ k', k' ≤ n + 1 ∧ (B_X12_run_l11 B J' n (x, nI k)).2 = nI k' := by
        intro e1 t
        have e2 : B_X12_run_l11 B J' n (x, nI k) = (maxI x (nI k + 1), nI k + 1) := by
          unfold B_X12_run_l11
          exact (if_neg z2).trans (if_neg t)
        rw [e1, e2]
        exact ⟨rfl, k + 1, by omega, nI_1 _⟩
      have up : (maxI x (nI 0 + 1), nI 0 + 1) = (maxI x 1, (1 : Int32)) := congrArg (fun w => (maxI x w, w)) (show nI 0 + 1 = (1 : Int32) from by decide)
      by_cases n0 : n = 0
      · subst n0
        have k0 : k = 0 := by omega
        subst k0
        refine one ?_ ?_
        · unfold B_X11_run_l6
          exact ((if_neg z1).trans (if_pos (show nI 0 ≤ 0 by decide))).trans up
        · unfold T_X12_run_j41
          exact if_pos (show nI 0 ≤ 0 by decide)
      obtain ⟨j, rfl⟩ : ∃ j, n = j + 1 := ⟨n - 1, by omega⟩
      have ej : nI (j + 1) - 1 = nI j := by
        rw [← nI_1]
        exact Int32.add_sub_cancel _ _
      have pos : ∀ w, 0 < w → w < 100 → ¬ nI w ≤ 0 := fun w h1 h2 => by
        have q : ¬ nI w ≤ nI 0 := nI_ge h1 (by omega)
        exact q
      have g0 : ¬ nI (j + 1) ≤ 0 := pos _ (by omega) (by omega)
      have bk : F_X5_breaksBehind 86 (nI j) A J = F_X12_breaksOf 0 (nI j) (u2 B 130 0 0) J' := brk_v (f := 0) sc c (by omega) (show j < 8 by omega)
      obtain ⟨w, hw, ew⟩ := br_b (a0 := 0) (a1 := nI j) (J := J') hm b0
      by_cases k0 : k = 0
      · subst k0
        refine one ?_ ?_
        · unfold B_X11_run_l6
          refine (if_neg z1).trans ((if_neg g0).trans ?_)
          by_cases q : F_X5_breaksBehind 86 (nI (j + 1) - 1) A J ≤ 0
          · exact (if_pos q).trans up
          · exact if_neg q
        · unfold T_X12_run_j41
          exact if_pos (show nI 0 ≤ 0 by decide)
      have kp : ¬ nI k ≤ 0 := pos k (by omega) (by omega)
      by_cases q : w = 0
      · refine more ?_ ?_
        · unfold B_X11_run_l6
          exact (if_neg z1).trans ((if_neg g0).trans (if_pos (by rw [ej, bk, ew, q]; decide)))
        · have t : T_X12_run_j41 B J' (j + 1) (x, nI k) = 1 := by
            unfold T_X12_run_j41
            exact (if_neg kp).trans (if_pos (by rw [ej, ew, q]; rfl))
          rw [t]
          decide
      · refine one ?_ ?_
        · unfold B_X11_run_l6
          exact (if_neg z1).trans ((if_neg g0).trans (if_neg (by rw [ej, bk, ew]; exact pos w (by omega) (by omega))))
        · unfold T_X12_run_j41
          refine (if_neg kp).trans (if_neg ?_)
          rw [ej, ew]
          intro y
          exact q ((nI_eq (a := w) (b := 0) (by omega) (by omega)).mp y)
  unfold F_X11_run F_X12_run F_X11_run_l6 F_X12_run_l11
  rw [a8, b1, nI_clamp (show ns < 2 ^ 31 by omega)]
  exact congrArg Prod.fst (L ns (Nat.le_refl _)).1
