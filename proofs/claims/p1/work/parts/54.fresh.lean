/-! one call where nothing is told: odds, chances, the least, the order -/
theorem cp100 (I : SI) (J : SJ) : F_X11_commonPart ((100 : Int32) - 0) 100 I J = 100 := by
  have e : F_X11_commonPart ((100 : Int32) - 0) 100 I J = F_X11_commonPart ((100 : Int32) - 0) 100 Z0 ZJ := rfl
  rw [e]
  decide +kernel
theorem cpH (a b : Int32) (I : SI) (J : SJ) : H_X11_commonPart a b I J := by
  unfold H_X11_commonPart
  exact ⟨fun i _ h _ => nI_ne0 (by omega) (by omega), fun i _ h _ _ => nI_ne0 (by omega) (by omega)⟩
def pwS (_ : Nat) (s : Int64 × Int64) : Int64 × Int64 := (s.1 * (100 - (0 : Int32).toInt64), s.2 * 100)
def pw (n : Nat) : Int64 × Int64 := itN pwS n (1, 1)
theorem pw_1 : ∀ n, n < 7 → (itW (B_X12_common_w6 (pw n).1 (pw n).2 Z0 ZJ) 800 ((pw n).1, (pw n).2)).isSome = true := by decide +kernel
theorem pw_2 : ∀ n, n < 7 → F_X12_common (pw n).1 (pw n).2 Z0 ZJ = (pw n).2 := by decide +kernel
theorem pw_3 : ∀ n, n < 7 → ¬ (pw n).2 = 0 := by decide +kernel
theorem pw_4 : ∀ n, n < 7 → (pw n).1 / (pw n).2 = 1 ∧ (pw n).2 / (pw n).2 = 1 := by decide +kernel
theorem cmH (a b : Int64) (I : SI) (J : SJ) (h : (itW (B_X12_common_w6 a b Z0 ZJ) 800 (a, b)).isSome = true) : H_X12_common a b I J := by
  unfold H_X12_common
  exact ⟨h, fun n s _ h e => h (by rw [e]; decide +kernel)⟩
theorem thM {a0 a1 : Int32} {I : SI} {J : SJ} (h : u2 I 130 0 0 132 6 = 0) : F_X12_there_l36 a0 a1 I J (1, 1) = pw a0.toNatClampNeg := by
  have e : B_X12_there_l36 a0 a1 I J = pwS := by
    funext i s
    unfold B_X12_there_l36 pwS
    rw [h]
  unfold F_X12_there_l36 pw
  rw [e]
theorem thC {a0 a1 : Int32} {I : SI} {J : SJ} (h : I 2 7 = 0) : F_X11_there_l51 a0 a1 I J (1, 1) = (1, 1) := by
  unfold F_X11_there_l51
  refine itN_inv (P := fun s => s = ((1, 1) : Int64 × Int64)) rfl (fun i s _ hs => ?_)
  unfold B_X11_there_l51 T_X11_there_j73
  rw [h, cp100, if_neg (show ¬ (100 : Int32) = 0 by decide), if_neg (show ¬ (100 : Int32) = 0 by decide), hs]
  decide +kernel
theorem fr24 {xs : Nat → Int32} {k : Nat} {A B : SI} {JA JB : SJ} (hA : FC A) (hB : FM B) : Nd24 xs k A JA B JB (fun _ _ _ _ => True) := by
  have hB' := hB.u0
  have e6 : u2 B 130 0 0 132 6 = 0 := hB'.g 132 6 0 (by decide +kernel)
  have e7 : A 2 7 = 0 := hA.g 2 7 0 (by decide +kernel)
  have hn : ¬ xs (k + 1) < 0 → ¬ (6 : Int32) < xs (k + 1) → (xs (k + 1)).toNatClampNeg < 7 := fun h h2 => (in_of h (fun q => h2 (Int32.lt_of_lt_of_le (show (6 : Int32) < nI 7 by decide) q)) (by decide)).2
  have hS : ¬ xs (k + 1) < 0 → ¬ (6 : Int32) < xs (k + 1) → S1_X12_there (xs (k + 1)) (xs (k + 2)) B JB = (pw (xs (k + 1)).toNatClampNeg).2 := by
    intro h h2
    unfold S1_X12_there
    rw [thM e6]
    exact pw_2 _ (hn h h2)
  unfold Nd24
  refine ⟨?_, ?_, ?_, trivial⟩
  · unfold H_X11_there
    exact ⟨fun _ _ _ _ => cpH _ _ _ _, fun _ _ _ _ _ _ _ _ h => h⟩
  · unfold H_X12_there
    rw [thM e6]
    refine ⟨fun h h2 _ _ => cmH _ _ _ _ (pw_1 _ (hn h h2)), fun h h2 _ _ _ => ?_, fun h h2 _ _ _ => ?_⟩
    · rw [hS h h2]
      exact pw_3 _ (hn h h2)
    · rw [hS h h2]
      exact pw_3 _ (hn h h2)
  · unfold F_X11_there F_X12_there
    rw [thM e6, thC e7]
    by_cases c : xs (k + 1) < 0
    · rw [if_pos c, if_pos c]
    · rw [if_neg c, if_neg c]
      by_cases c2 : (6 : Int32) < xs (k + 1)
      · rw [if_pos c2, if_pos c2]
      · rw [if_neg c2, if_neg c2, hS c c2]
        rw [(pw_4 _ (hn c c2)).1, (pw_4 _ (hn c c2)).2]
theorem chC {a0 a1 a2 : Int32} {I : SI} {J : SJ} (hI : BS I) : (∀ n, n ≤ 10 → BS (itN (B_X11_chance_l37 a0 a1 a2 I J) n (a0.toInt64, 0, I, J)).2.2.1 ∧ (itN (B_X11_chance_l37 a0 a1 a2 I J) n (a0.toInt64, 0, I, J)).2.1 = if (0 : Int32) < a2 then 0 else nI n) := by
  refine itN_ind (fun (n : Nat) (s : Int64 × Int32 × SI × SJ) => BS s.2.2.1 ∧ s.2.1 = if (0 : Int32) < a2 then 0 else nI n) ⟨hI, ?_⟩ (fun i s _ h => ?_)
  · by_cases q : (0 : Int32) < a2
    · rw [if_pos q]
    · rw [if_neg q]; rfl
  · have hp := ((BG.begin s.2.2.1 s.2.2.2).u (j := 2) (v := 1)).pass (J := u2 (FJ_X0_begin 86 s.2.2.1 s.2.2.2) 105 6 s.1) h.1 a1
    have e3 : S3_X11_chance a0 a1 a2 I J i s = 0 := clash_0 (k := 105) hp.2.2.1
    have e1 : BS (S1_X11_chance a0 a1 a2 I J i s) := h.1.of hp.2.1
    unfold B_X11_chance_l37
    rw [e3]
    by_cases q : (0 : Int32) < a2
    · rw [if_pos q, if_pos q]
      refine ⟨e1, ?_⟩
      have := h.2
      rw [if_pos q] at this
      exact this
    · rw [if_neg q, if_neg q]
      refine ⟨e1, ?_⟩
      have := h.2
      rw [if_neg q] at this
      show s.2.1 + 1 = nI (i + 1)
      rw [this, nI_1]
theorem chM {a0 a1 a2 : Int32} {I I0 : SI} {J : SJ} (hI : EM I0) : (∀ n, n ≤ 10 → EM (itN (B_X12_chance_l41 a0 a1 a2 I J) n (a0, 0, I0, J)).2.2.1 ∧ (itN (B_X12_chance_l41 a0 a1 a2 I J) n (a0, 0, I0, J)).2.1 = if (0 : Int32) < a2 then 0 else nI n) := by
  refine itN_ind (fun (n : Nat) (s : Int32 × Int32 × SI × SJ) => EM s.2.2.1 ∧ s.2.1 = if (0 : Int32) < a2 then 0 else nI n) ⟨hI, ?_⟩ (fun i s _ h => ?_)
  · by_cases q : (0 : Int32) < a2
    · rw [if_pos q]
    · rw [if_neg q]; rfl
  · have hE : EM (u2 (FI_X12_copies 1 0 s.2.2.1 s.2.2.2) 155 1 s.1) := (h.1.of (fun b => (copM 1 0 s.2.2.1 s.2.2.2).1 132 b (by omega))).u (by decide)
    have lp := loopM (f := 1) (b := 1) (g := B_X12_chance_l65 a0 a1 a2 I J i s) (J := s.2.2.2) (fun _ _ => rfl) hE ⟨rfl, by decide⟩ a1.toNatClampNeg
    have e1 : EM (S1_X12_chance a0 a1 a2 I J i s) := hE.of (fun b => lp.1 132 b dm132)
    have e3 : S3_X12_chance a0 a1 a2 I J i s = 0 := (clashM (f := 1) e1.2.1).1
    unfold B_X12_chance_l41
    rw [e3]
    by_cases q : (0 : Int32) < a2
    · rw [if_pos q, if_pos q]
      refine ⟨e1, ?_⟩
      have := h.2
      rw [if_pos q] at this
      show s.2.1 + 0 = 0
      rw [this, Int32.add_zero]
    · rw [if_neg q, if_neg q]
      refine ⟨e1, ?_⟩
      have := h.2
      rw [if_neg q] at this
      show s.2.1 + 1 = nI (i + 1)
      rw [this, nI_1]
theorem fr32 {xs : Nat → Int32} {k : Nat} {A B : SI} {JA JB : SJ} (hA : FC A) (hB : FM B) : Nd32 xs k A JA B JB (fun _ _ _ _ => True) := by
  have hB' := hB.u0
  have hc := chC (a0 := xs (k + 1)) (a1 := xs (k + 2)) (a2 := xs (k + 3)) (J := JA) hA.bs
  have hm := chM (a0 := xs (k + 1)) (a1 := xs (k + 2)) (a2 := xs (k + 3)) (I := B) (J := JB) hB'.em
  unfold Nd32
  refine ⟨?_, ?_, ?_, trivial⟩
  · unfold H_X11_chance
    intro _ _ _ _ _ i s hi hs
    have h := (hc i (Nat.le_of_lt hi)).1
    rw [← hs] at h
    exact (((BG.begin s.2.2.1 s.2.2.2).u (j := 2) (v := 1)).pass (J := u2 (FJ_X0_begin 86 s.2.2.1 s.2.2.2) 105 6 s.1) h (xs (k + 2))).1
  · have hE : ∀ (i : Nat) (s : Int32 × Int32 × SI × SJ), i < 10 → s = itN (B_X12_chance_l41 (xs (k + 1)) (xs (k + 2)) (xs (k + 3)) B JB) i (xs (k + 1), 0, u2 B 130 0 0, JB) → EM (u2 (FI_X12_copies 1 0 s.2.2.1 s.2.2.2) 155 1 s.1) := by
      intro i s hi hs
      have h := (hm i (Nat.le_of_lt hi)).1
      rw [← hs] at h
      exact (h.of (fun b => (copM 1 0 s.2.2.1 s.2.2.2).1 132 b (by omega))).u (by decide)
    unfold H_X12_chance
    refine ⟨fun _ _ _ _ _ i s _ _ => cop_in (p := 1) (q := 0) (by decide) (by decide) _ _, fun _ _ _ _ _ i s hi hs => ?_, fun _ _ _ _ _ i s hi hs i2 s2 _ hs2 => ?_⟩
    · have lp := loopM (f := 1) (b := 1) (g := B_X12_chance_l65 (xs (k + 1)) (xs (k + 2)) (xs (k + 3)) B JB i s) (J := s.2.2.2) (fun _ _ => rfl) (hE i s hi hs) ⟨rfl, by decide⟩ (xs (k + 2)).toNatClampNeg
      have e1 : EM (S1_X12_chance (xs (k + 1)) (xs (k + 2)) (xs (k + 3)) B JB i s) := (hE i s hi hs).of (fun b => lp.1 132 b dm132)
      exact (clashM (f := 1) e1.2.1).2
    · exact loopH (f := 1) (b := 1) (g := B_X12_chance_l65 (xs (k + 1)) (xs (k + 2)) (xs (k + 3)) B JB i s) (fun _ _ => rfl) (hE i s hi hs) ⟨rfl, by decide⟩ hs2
  · have ec : (F_X11_chance_l37 (xs (k + 1)) (xs (k + 2)) (xs (k + 3)) A JA ((xs (k + 1)).toInt64, 0, A, JA)).2.1 = if (0 : Int32) < xs (k + 3) then 0 else nI 10 := (hc 10 (by decide)).2
    have em : (F_X12_chance_l41 (xs (k + 1)) (xs (k + 2)) (xs (k + 3)) B JB (xs (k + 1), 0, u2 B 130 0 0, JB)).2.1 = if (0 : Int32) < xs (k + 3) then 0 else nI 10 := (hm 10 (by decide)).2
    unfold F_X11_chance F_X12_chance
    rw [ec, em]
/-- the least: no marks -/
theorem wk127 (I : SI) (J : SJ) : ∀ a, a ≠ 127 → F_X2_work_l2 86 I J I a = I a := by
  unfold F_X2_work_l2
  refine itN_inv (P := fun (s : SI) => ∀ a, a ≠ 127 → s a = I a) (fun _ _ => rfl) (fun i s _ h => ?_)
  unfold B_X2_work_l2 F_X2_work_l10
  refine itN_inv (P := fun (s : SI) => ∀ a, a ≠ 127 → s a = I a) h (fun i2 s2 _ h2 => ?_)
  unfold B_X2_work_l10 S3_X2_work
  exact fun a ha => (putF_ne ha).trans (h2 a ha)
theorem least_c {I : SI} {J : SJ} (h : I 3 1 = 0) : H_X2_work 86 I J ∧ FI_X2_work 86 I J 124 1 = 0 := by
  have e1 : u2 (fillF (F_X2_work_l2 86 I J I) 125 0 6) 124 1 1000000 124 1 = 1000000 := u2_s _ _ _ _
  have e3 : u2 (fillF (F_X2_work_l2 86 I J I) 125 0 6) 124 1 1000000 3 1 ≤ 0 := by
    rw [u2_n _ _ (show ¬ ((3 : Nat) = 124 ∧ (1 : Nat) = 1) from fun q => absurd q.1 (by decide))]
    show (if (3 : Nat) = 125 ∧ (1 : Nat) < 6 then (0 : Int32) else F_X2_work_l2 86 I J I 3 1) ≤ 0
    rw [if_neg (fun q => absurd q.1 (by decide)), wk127 I J 3 (by decide), h]
    decide
  have e2 : (0 : Int32) < u2 (fillF (F_X2_work_l2 86 I J I) 125 0 6) 124 1 1000000 124 1 := by rw [e1]; decide
  refine ⟨?_, ?_⟩
  · unfold H_X2_work
    show H_X2_choose (HG_choose 7) (RG_choose 7) 0 0 0 _ J
    unfold H_X2_choose
    exact ⟨fun _ h => absurd e3 h, fun _ h => absurd e3 h, fun _ h => absurd e3 h⟩
  · unfold FI_X2_work S1_X2_work
    have er : RG_choose 8 0 (0 : Int32) (0 : Int32) (0 : Int32) (u2 (fillF (F_X2_work_l2 86 I J I) 125 0 6) 124 1 1000000) J = (FI_X2_choose (RG_choose 7) 0 0 0 (u2 (fillF (F_X2_work_l2 86 I J I) 125 0 6) 124 1 1000000) J, FJ_X2_choose (RG_choose 7) 0 0 0 (u2 (fillF (F_X2_work_l2 86 I J I) 125 0 6) 124 1 1000000) J) := rfl
    rw [er]
    dsimp only
    unfold FI_X2_choose
    rw [if_pos e2, if_pos e3]
    show (if (124 : Nat) = 125 ∧ (1 : Nat) < 6 then _ else u2 _ 124 1 (0 : Int32) 124 1) = 0
    rw [if_neg (fun q => absurd q.1 (by decide)), u2_s]
theorem least_m {I : SI} {J : SJ} (h0 : I 132 0 = 0) (h1 : I 132 1 = 0) (h6 : I 130 62 = -1) : HG_sayings 8 0 (0 : Int32) I J ∧ (RG_sayings 8 0 (0 : Int32) I J).1 = u2 I 130 62 0 := by
  have hc : F_X12_costNow I J = 0 := by
    unfold F_X12_costNow F_X12_costNow_l4
    rw [tz0 h1, itN_0]
  have hcH : H_X12_costNow I J := by
    unfold H_X12_costNow
    rw [tz0 h1]
    exact ⟨fun _ _ h => nlt0 h, fun _ _ h => nlt0 h, fun _ _ h => nlt0 h, fun _ _ h => nlt0 h⟩
  have hle : I 132 0 ≤ 0 := le00 h0
  have e0 : u2 I 130 62 (F_X12_costNow I J) 132 0 = 0 := (u2_n _ _ (by omega)).trans h0
  have x : B_X12_sayings_w72 (RG_sayings 7) 0 I J (0, u2 I 130 62 (F_X12_costNow I J)) = .inr (0, u2 I 130 62 (F_X12_costNow I J)) := by
    unfold B_X12_sayings_w72
    exact if_pos (le00 e0)
  refine ⟨?_, ?_⟩
  · show H_X12_sayings (HG_sayings 7) (RG_sayings 7) 0 I J
    unfold H_X12_sayings
    refine ⟨fun _ => hcH, fun _ _ => by rw [itW_x x]; rfl, fun _ _ n s hw hn => ?_, fun _ h => absurd h6 h, fun _ h => absurd h6 h, fun h => absurd hle h, fun h => absurd hle h, fun h => absurd hle h, fun h => absurd hle h⟩
    rw [wN_out x hw] at hn
    exact absurd (le00 e0) hn
  · show FI_X12_sayings (RG_sayings 7) 0 I J = _
    unfold FI_X12_sayings F_X12_sayings_w72
    rw [if_pos hle, if_pos h6, itW_x x, hc]
    rfl
theorem fr18 {xs : Nat → Int32} {k : Nat} {A B : SI} {JA JB : SJ} (hA : FC A) (hB : FM B) : Nd18 xs k A JA B JB (fun _ _ _ _ => True) := by
  have hB' := hB.u0
  have hc := least_c (J := JA) (hA.g 3 1 0 (by decide +kernel))
  have hm := least_m (I := u2 (u2 B 130 0 0) 130 62 (-1)) (J := JB) ((u2_n _ _ (by omega)).trans (hB'.g 132 0 0 (by decide +kernel))) ((u2_n _ _ (by omega)).trans (hB'.g 132 1 0 (by decide +kernel))) (u2_s _ _ _ _)
  have m0 : (RG_sayings 8 0 (0 : Int32) (u2 (u2 B 130 0 0) 130 62 (-1)) JB).1 132 0 = 0 := by
    rw [hm.2]
    exact (u2_n _ _ (by omega)).trans ((u2_n _ _ (by omega)).trans (hB'.g 132 0 0 (by decide +kernel)))
  have m62 : (RG_sayings 8 0 (0 : Int32) (u2 (u2 B 130 0 0) 130 62 (-1)) JB).1 130 62 = 0 := by
    rw [hm.2]
    exact u2_s _ _ _ _
  have a3 : A 3 1 = 0 := hA.g 3 1 0 (by decide +kernel)
  unfold Nd18
  refine ⟨?_, ?_, ?_, trivial⟩
  · unfold H_X11_least
    exact ⟨fun _ _ _ => hc.1, fun _ _ _ _ => hc.1⟩
  · unfold H_X12_least
    rw [m0]
    exact ⟨fun _ _ => hm.1, fun h _ _ h2 => absurd (Int32.not_lt.mp h) h2⟩
  · unfold F_X11_least F_X12_least
    rw [hc.2, m0, m62, a3]
    by_cases c : xs (k + 1) < 0
    · rw [if_pos c, if_pos c]
    · rw [if_neg c, if_neg c, if_neg c]
      by_cases c2 : xs (k + 1) ≤ 6
      · rw [if_pos c2, if_pos c2]
        by_cases c3 : xs (k + 1) = 6
        · rw [if_pos (show (6 : Int32) ≤ xs (k + 1) by rw [c3]; decide), if_pos c3, if_pos c3]
        · have c4 : ¬ (6 : Int32) ≤ xs (k + 1) := fun q => c3 (Int32.le_antisymm c2 q)
          rw [if_neg c4, if_neg c3, if_pos (Int32.not_lt.mp c)]
      · rw [if_neg c2, if_neg c2]
/-- the order: no shots -/
theorem row_e {a : Int32} {I : SI} {J : SJ} (h : I 128 2 = 0) : F_X3_isRow a I J = F_X3_isRow a Z0 ZJ := by
  have e : B_X3_isRow_l4 a I J = B_X3_isRow_l4 a Z0 ZJ := by
    funext i s
    unfold B_X3_isRow_l4
    rw [h]
    rfl
  unfold F_X3_isRow F_X3_isRow_l4
  rw [e]
theorem row_0 : ∀ i, i < 256 → i ≠ 27 → F_X3_isRow (nI i) Z0 ZJ = 0 := by decide +kernel
theorem row_27 : ¬ F_X3_isRow (nI 27) Z0 ZJ = 0 := by decide +kernel
/-- what the loop over the rows keeps -/
def OC (i : Nat) (X : SI) : Prop := BS X ∧ X 86 2 = 0 ∧ X 86 3 = 0 ∧ X 128 2 = 0 ∧ X 128 0 = 0 ∧ (i ≤ 27 → X 128 1 = -1)
theorem oc_days {a : Int32} {I : SI} {J : SJ} (h : I 128 2 = 0) : H_X3_putDays a 105 I J ∧ FI_X3_putDays a 105 I J = I := by
  have x : B_X3_putDays_w2 a 105 I J (0, I) = .inr (0, I) := by
    unfold B_X3_putDays_w2
    exact if_pos (le00 h)
  refine ⟨?_, ?_⟩
  · unfold H_X3_putDays
    rw [itW_x x]
    rfl
  · unfold FI_X3_putDays F_X3_putDays_w2
    rw [itW_x x]
    rfl
theorem oc_in {a0 : Int32} {I : SI} {J : SJ} {i : Nat} {s : SI × SJ} (h : OC i s.1) : H_X3_putDays (nI i) 105 (FI_X0_begin 86 s.1 s.2) (FJ_X0_begin 86 s.1 s.2) ∧ H_X0_pass 20 (S2_X11_order a0 I J i s) (FJ_X0_begin 86 s.1 s.2) ∧ S2_X11_order a0 I J i s = FI_X0_begin 86 s.1 s.2 := by
  have g := BG.begin s.1 s.2
  have d := oc_days (a := nI i) (J := FJ_X0_begin 86 s.1 s.2) ((g.1 128 2 (by omega)).trans h.2.2.2.1)
  have e : S2_X11_order a0 I J i s = FI_X0_begin 86 s.1 s.2 := d.2
  refine ⟨d.1, ?_, e⟩
  rw [e]
  exact (g.pass h.1 20).1
theorem oc_s {a0 : Int32} {I : SI} {J : SJ} {i : Nat} {s : SI × SJ} (hi : i < 256) (h : OC i s.1) : OC (i + 1) (B_X11_order_l34 a0 I J i s).1 := by
  unfold B_X11_order_l34
  rw [row_e (J := s.2) h.2.2.2.1]
  by_cases c : i = 27
  · subst c
    rw [if_neg row_27]
    have g := BG.begin s.1 s.2
    have p := g.pass (J := FJ_X0_begin 86 s.1 s.2) h.1 20
    have e2 := (oc_in (a0 := a0) (I := I) (J := J) h).2.2
    have e3 : S3_X11_order a0 I J 27 s = FI_X0_pass 20 (FI_X0_begin 86 s.1 s.2) (FJ_X0_begin 86 s.1 s.2) := by
      unfold S3_X11_order
      rw [e2]
    have f3 : ∀ a b, (a < 104 ∨ 114 < a) → S3_X11_order a0 I J 27 s a b = s.1 a b := fun a b q => by rw [e3]; exact p.2.1 a b q
    have e5 : S5_X11_order a0 I J 27 s - S3_X11_order a0 I J 27 s 86 3 = 0 := by
      unfold S5_X11_order
      rw [f3 86 2 (by omega), f3 86 3 (by omega), e3, p.2.2.2.1 2 (by omega), p.2.2.2.1 3 (by omega), h.2.1, h.2.2.1]
      decide
    have e6 : S6_X11_order a0 I J 27 s = u2 (u2 (S3_X11_order a0 I J 27 s) 128 1 (nI 27)) 128 0 0 := by
      unfold S6_X11_order FI_X3_weigh
      rw [e5, if_pos (by rw [f3 128 1 (by omega), h.2.2.2.2.2 (by omega)]; decide)]
    show OC (27 + 1) (S6_X11_order a0 I J 27 s)
    rw [e6]
    have f6 : ∀ a b, (a < 104 ∨ 114 < a) → a ≠ 128 → u2 (u2 (S3_X11_order a0 I J 27 s) 128 1 (nI 27)) 128 0 0 a b = s.1 a b := fun a b q r => (u2_n _ _ (fun w => r w.1)).trans ((u2_n _ _ (fun w => r w.1)).trans (f3 a b q))
    refine ⟨⟨⟨(f6 3 1 (by omega) (by omega)).trans h.1.1.1, (f6 8 1 (by omega) (by omega)).trans h.1.1.2.1, (f6 13 1 (by omega) (by omega)).trans h.1.1.2.2.1, (f6 18 1 (by omega) (by omega)).trans h.1.1.2.2.2.1, (f6 23 1 (by omega) (by omega)).trans h.1.1.2.2.2.2.1, (f6 2 7 (by omega) (by omega)).trans h.1.1.2.2.2.2.2⟩, fun b q => (f6 88 b (by omega) (by omega)).trans (h.1.2 b q)⟩, (f6 86 2 (by omega) (by omega)).trans h.2.1, (f6 86 3 (by omega) (by omega)).trans h.2.2.1, ?_, u2_s _ _ _ _, fun q => absurd q (by decide)⟩
    exact (u2_n _ _ (by omega)).trans ((u2_n _ _ (by omega)).trans ((f3 128 2 (by omega)).trans h.2.2.2.1))
  · rw [if_pos (row_0 i hi c)]
    exact ⟨h.1, h.2.1, h.2.2.1, h.2.2.2.1, h.2.2.2.2.1, fun q => h.2.2.2.2.2 (by omega)⟩
theorem order_c {a0 : Int32} {I : SI} {J : SJ} (hI : BS I) (h2 : I 86 2 = 0) (h3 : I 86 3 = 0) : H_X11_order a0 I J ∧ OC 256 (F_X11_order_l34 a0 I J (FI_X3_begin 86 (I 8 1) I J, J)).1 := by
  have h8 : I 8 1 = 0 := hI.1.2.1
  have x : B_X3_begin_w17 86 (I 8 1) I J (0, u2 (u2 (u2 I 128 2 0) 128 1 (-1)) 128 0 0) = .inr (0, u2 (u2 (u2 I 128 2 0) 128 1 (-1)) 128 0 0) := by
    unfold B_X3_begin_w17
    exact if_pos (le00 h8)
  have eb : FI_X3_begin 86 (I 8 1) I J = u2 (u2 (u2 I 128 2 0) 128 1 (-1)) 128 0 0 := by
    unfold FI_X3_begin F_X3_begin_w17
    rw [itW_x x]
    rfl
  have f : ∀ a b, a ≠ 128 → FI_X3_begin 86 (I 8 1) I J a b = I a b := fun a b r => by
    rw [eb]
    exact (u2_n _ _ (fun w => r w.1)).trans ((u2_n _ _ (fun w => r w.1)).trans (u2_n _ _ (fun w => r w.1)))
  have h0 : OC 0 (FI_X3_begin 86 (I 8 1) I J) := by
    refine ⟨⟨⟨(f 3 1 (by omega)).trans hI.1.1, (f 8 1 (by omega)).trans hI.1.2.1, (f 13 1 (by omega)).trans hI.1.2.2.1, (f 18 1 (by omega)).trans hI.1.2.2.2.1, (f 23 1 (by omega)).trans hI.1.2.2.2.2.1, (f 2 7 (by omega)).trans hI.1.2.2.2.2.2⟩, fun b q => (f 88 b (by omega)).trans (hI.2 b q)⟩, (f 86 2 (by omega)).trans h2, (f 86 3 (by omega)).trans h3, ?_, ?_, fun _ => ?_⟩
    · rw [eb]; exact (u2_n _ _ (by omega)).trans ((u2_n _ _ (by omega)).trans (u2_s _ _ _ _))
    · rw [eb]; exact u2_s _ _ _ _
    · rw [eb]; exact (u2_n _ _ (by omega)).trans (u2_s _ _ _ _)
  have key := itN_ind (f := B_X11_order_l34 a0 I J) (N := 256) (s0 := (FI_X3_begin 86 (I 8 1) I J, J)) (fun (i : Nat) (s : SI × SJ) => OC i s.1) h0 (fun i s hi h => oc_s hi h)
  refine ⟨?_, key 256 (Nat.le_refl _)⟩
  unfold H_X11_order
  refine ⟨fun _ _ => ?_, fun _ _ i s hi hs _ => ?_, fun _ _ i s hi hs _ => ?_⟩
  · unfold H_X3_begin
    rw [itW_x x]
    rfl
  · have h := key i (Nat.le_of_lt hi)
    rw [← hs] at h
    exact (oc_in (a0 := a0) (I := I) (J := J) h).1
  · have h := key i (Nat.le_of_lt hi)
    rw [← hs] at h
    exact (oc_in (a0 := a0) (I := I) (J := J) h).2.1
theorem trM {f : Nat} {I : SI} {J : SJ} (hf : f < 23) (h1 : ∀ b, I 157 b = 0) (h2 : ∀ b, I 164 b = 0) : F_X12_trouble (nI f) I J = 0 ∧ H_X12_trouble (nI f) I J := by
  refine ⟨?_, ?_⟩
  · unfold F_X12_trouble
    rw [h1, sumM h2]
    decide
  · unfold H_X12_trouble
    exact ⟨inR_nI hf (by decide), sumH hf⟩
theorem order_m {I : SI} {J : SJ} (hE : EM I) (h66 : I 130 66 = 0) (h67 : I 130 67 = -1) (h157 : ∀ b, I 157 b = 0) (h164 : ∀ b, I 164 b = 0) : HG_rows 6 0 (0 : Int32) (0 : Int32) I J ∧ (RG_rows 6 0 (0 : Int32) (0 : Int32) I J).1 130 66 = 0 ∧ (RG_rows 6 0 (0 : Int32) (0 : Int32) I J).1 130 67 = 0 := by
  have c := copM 1 0 I J
  have cE : EM (FI_X12_copies 1 0 I J) := hE.of (fun b => c.1 132 b (by omega))
  have c66 : FI_X12_copies 1 0 I J 130 66 = 0 := (c.1 130 66 (by omega)).trans h66
  have x69 : B_X12_rows_w69 (RG_rows 5) 0 0 I J (0, FI_X12_copies 1 0 I J) = .inr (0, FI_X12_copies 1 0 I J) := by
    unfold B_X12_rows_w69
    exact if_pos (le00 c66)
  have e69 : F_X12_rows_w69 (RG_rows 5) 0 0 I J (0, FI_X12_copies 1 0 I J) = (0, FI_X12_copies 1 0 I J) := by
    unfold F_X12_rows_w69
    rw [itW_x x69]
    rfl
  have g := goesM (n := 20) (J := J) cE
  have e1 : S1_X12_rows (RG_rows 5) 0 0 I J = FI_X12_goesOn 20 (FI_X12_copies 1 0 I J) J := by
    unfold S1_X12_rows
    rw [e69]
  have f1 : ∀ a b, (a < 154 ∨ 167 < a) → S1_X12_rows (RG_rows 5) 0 0 I J a b = I a b := fun a b q => by
    rw [e1]
    exact (g.1 a b (fun d => by have := d.1; omega)).trans (c.1 a b q)
  have f0 : ∀ a, a = 157 ∨ a = 164 → (∀ b, I a b = 0) → ∀ b, S1_X12_rows (RG_rows 5) 0 0 I J a b = 0 := fun a q hz b => by
    rw [e1]
    exact (g.1 a b (fun d => by have := d.1; omega)).trans (c.2 a hz b)
  have t1 := trM (f := 1) (J := S2_X12_rows (RG_rows 5) 0 0 I J) (by decide) (f0 157 (by omega) h157) (f0 164 (by omega) h164)
  have t0 := trM (f := 0) (J := S2_X12_rows (RG_rows 5) 0 0 I J) (by decide) (f0 157 (by omega) h157) (f0 164 (by omega) h164)
  have e3 : S3_X12_rows (RG_rows 5) 0 0 I J = 0 := by
    have q1 : F_X12_trouble 1 (S1_X12_rows (RG_rows 5) 0 0 I J) (S2_X12_rows (RG_rows 5) 0 0 I J) = 0 := t1.1
    have q0 : F_X12_trouble 0 (S1_X12_rows (RG_rows 5) 0 0 I J) (S2_X12_rows (RG_rows 5) 0 0 I J) = 0 := t0.1
    unfold S3_X12_rows
    rw [q1, q0]
    decide
  have s67 : S1_X12_rows (RG_rows 5) 0 0 I J 130 67 = -1 := (f1 130 67 (by omega)).trans h67
  have s66 : u2 (S1_X12_rows (RG_rows 5) 0 0 I J) 130 67 (S3_X12_rows (RG_rows 5) 0 0 I J) 130 66 = 0 := (u2_n _ _ (by omega)).trans ((f1 130 66 (by omega)).trans h66)
  have x148 : B_X12_rows_w148 (RG_rows 5) 0 0 I J (0, u2 (S1_X12_rows (RG_rows 5) 0 0 I J) 130 67 (S3_X12_rows (RG_rows 5) 0 0 I J)) = .inr (0, u2 (S1_X12_rows (RG_rows 5) 0 0 I J) 130 67 (S3_X12_rows (RG_rows 5) 0 0 I J)) := by
    unfold B_X12_rows_w148
    exact if_pos (le00 s66)
  have hle : I 130 66 ≤ 0 := le00 h66
  have er : (RG_rows 6 0 (0 : Int32) (0 : Int32) I J).1 = u2 (S1_X12_rows (RG_rows 5) 0 0 I J) 130 67 (S3_X12_rows (RG_rows 5) 0 0 I J) := by
    show FI_X12_rows (RG_rows 5) 0 0 I J = _
    unfold FI_X12_rows F_X12_rows_w148
    rw [if_pos hle, if_pos s67, itW_x x148]
    rfl
  refine ⟨?_, ?_, ?_⟩
  · show H_X12_rows (HG_rows 5) (RG_rows 5) 0 0 I J
    unfold H_X12_rows
    refine ⟨fun _ => cop_in (p := 1) (q := 0) (by decide) (by decide) _ _, fun _ => by rw [itW_x x69]; rfl, fun _ => ?_, fun _ => t1.2, fun _ => t0.2, fun _ _ => by rw [itW_x x148]; rfl, fun _ _ n s hw hn => ?_, fun _ h => absurd s67 h, fun _ h => absurd s67 h, fun _ n s hw hn => ?_, fun _ n s hw hn => ?_, fun h => absurd hle h, fun h => absurd hle h, fun h => absurd hle h, fun h => absurd hle h⟩
    · rw [e69]
      exact g.2.2
    · rw [wN_out x148 hw] at hn
      exact absurd (le00 s66) hn
    · rw [wN_out x69 hw] at hn
      exact absurd (le00 c66) hn
    · rw [wN_out x69 hw] at hn
      exact absurd (le00 c66) hn
  · rw [er]
    exact s66
  · rw [er, u2_s]
    exact e3
theorem fr19 {xs : Nat → Int32} {k : Nat} {A B : SI} {JA JB : SJ} (hA : FC A) (hB : FM B) : Nd19 xs k A JA B JB (fun _ _ _ _ => True) := by
  have hB' := hB.u0
  have hc := order_c (a0 := xs (k + 1)) (J := JA) hA.bs (hA.g 86 2 0 (by decide +kernel)) (hA.g 86 3 0 (by decide +kernel))
  have e1 : u2 (u2 B 130 0 0) 130 66 0 132 1 = 0 := (u2_n _ _ (by omega)).trans (hB'.g 132 1 0 (by decide +kernel))
  have x : B_X12_order_w23 (xs (k + 1)) B JB (0, u2 (u2 B 130 0 0) 130 66 0) = .inr (0, u2 (u2 B 130 0 0) 130 66 0) := by
    unfold B_X12_order_w23
    exact if_pos (le00 e1)
  have es : S1_X12_order (xs (k + 1)) B JB = u2 (u2 (u2 B 130 0 0) 130 66 0) 130 67 (-1) := by
    unfold S1_X12_order F_X12_order_w23
    rw [itW_x x]
    rfl
  have hm := order_m (I := S1_X12_order (xs (k + 1)) B JB) (J := JB) (by rw [es]; exact (hB'.em.u (by decide)).u (by decide)) (by rw [es]; exact (u2_n _ _ (by omega)).trans (u2_s _ _ _ _)) (by rw [es]; exact u2_s _ _ _ _) (by rw [es]; exact fun b => (u2_n _ _ (by omega)).trans ((u2_n _ _ (by omega)).trans (hB'.2 157 (by omega) b))) (by rw [es]; exact fun b => (u2_n _ _ (by omega)).trans ((u2_n _ _ (by omega)).trans (hB'.2 164 (by omega) b)))
  unfold Nd19
  refine ⟨hc.1, ?_, ?_, trivial⟩
  · unfold H_X12_order
    rw [hm.2.1]
    refine ⟨fun _ _ => by rw [itW_x x]; rfl, fun _ _ => hm.1, fun h _ _ h2 => absurd (Int32.not_lt.mp h) h2, fun _ _ n s hw hn => ?_, fun _ _ n s hw hn => ?_⟩
    · rw [wN_out x hw] at hn
      exact absurd (le00 e1) hn
    · rw [wN_out x hw] at hn
      exact absurd (le00 e1) hn
  · unfold F_X11_order F_X12_order
    rw [hm.2.1, hm.2.2, hc.2.2.2.2.2.1]
    unfold S1_X11_order F_X3_shotAt
    rw [hc.2.2.2.2.1]
    by_cases c : xs (k + 1) < 0
    · rw [if_pos c, if_pos c]
    · rw [if_neg c, if_neg c, if_pos (Int32.not_lt.mp c), if_pos (Int32.not_lt.mp c)]
