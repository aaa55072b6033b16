/-! one call where nothing is told: days pass, all is counted -/
/-- the class where nothing is told and nothing filmed -/
def BS (X : SI) : Prop := EC X ∧ ∀ b, b < 8 → X 88 b = 0
/-- the days' own scene, begun from the scene that is -/
def BG (X Y : SI) : Prop := (∀ a b, (a < 104 ∨ 114 < a) → Y a b = X a b) ∧ (∀ b, b < 8 → Y 107 b = X 88 b) ∧ ∀ b, b < 5 → Y 105 b = X 86 b
theorem BG.begin (X : SI) (J : SJ) : BG X (FI_X0_begin 86 X J) := by
  unfold FI_X0_begin S1_X0_begin FI_X5_copy S5_X5_copy S4_X5_copy S3_X5_copy S2_X5_copy S1_X5_copy
  refine ⟨fun a b h => ?_, fun b h => ?_, fun b h => ?_⟩
  · have hn : ∀ n, 104 ≤ n → n ≤ 114 → (a = n) = False := fun n h1 h2 => eq_false (by omega)
    simp only [u2, cpF, hn 104 (by decide) (by decide), hn 105 (by decide) (by decide), hn 114 (by decide) (by decide), hn (105 + 1) (by decide) (by decide), hn 106 (by decide) (by decide), hn (105 + 2) (by decide) (by decide), hn 107 (by decide) (by decide), hn (105 + 3) (by decide) (by decide), hn 108 (by decide) (by decide), hn (105 + 4) (by decide) (by decide), hn 109 (by decide) (by decide), hn (105 + 5) (by decide) (by decide), hn 110 (by decide) (by decide), hn (105 + 6) (by decide) (by decide), hn 111 (by decide) (by decide), hn (105 + 7) (by decide) (by decide), hn 112 (by decide) (by decide), hn (105 + 8) (by decide) (by decide), hn 113 (by decide) (by decide), false_and, if_false]
  · simp [u2, cpF, h]
  · rcases (show b = 0 ∨ b = 1 ∨ b = 2 ∨ b = 3 ∨ b = 4 by omega) with rfl | rfl | rfl | rfl | rfl <;> simp [u2, cpF]
theorem BG.u {X Y : SI} (h : BG X Y) {j : Nat} {v : Int32} : BG X (u2 Y 104 j v) := ⟨fun a b q => (u2_n Y v (by omega)).trans (h.1 a b q), fun b q => (u2_n Y v (by omega)).trans (h.2.1 b q), fun b q => (u2_n Y v (by omega)).trans (h.2.2 b q)⟩
theorem BG.fill {X Y : SI} (h : BG X Y) {v : Int32} {n : Nat} : BG X (fillF Y 114 v n) := ⟨fun a b q => (if_neg (by omega)).trans (h.1 a b q), fun b q => (if_neg (by omega)).trans (h.2.1 b q), fun b q => (if_neg (by omega)).trans (h.2.2 b q)⟩
theorem BG.oth {X Y : SI} {J : SJ} (h : BG X Y) (a0 a1 : Int32) : BG X (FI_X0_otherwise a0 a1 Y J) := by
  unfold FI_X0_otherwise S2_X0_otherwise S1_X0_otherwise
  split
  · exact (h.u.u.u.u).fill
  · exact h.u.u.u.u
theorem BG.pass {X Y : SI} {J : SJ} (h : BG X Y) (hX : BS X) (n : Int32) : H_X0_pass n Y J ∧ (∀ a b, (a < 104 ∨ 114 < a) → FI_X0_pass n Y J a b = X a b) ∧ (∀ b, b < 8 → FI_X0_pass n Y J (105 + 2) b = 0) ∧ (∀ b, b = 1 ∨ b = 2 ∨ b = 3 → FI_X0_pass n Y J 105 b = X 86 b) ∧ FI_X0_pass n Y J 105 0 = X 86 0 + nI n.toNatClampNeg := by
  have hE : EC Y := ⟨(h.1 3 1 (by omega)).trans hX.1.1, (h.1 8 1 (by omega)).trans hX.1.2.1, (h.1 13 1 (by omega)).trans hX.1.2.2.1, (h.1 18 1 (by omega)).trans hX.1.2.2.2.1, (h.1 23 1 (by omega)).trans hX.1.2.2.2.2.1, (h.1 2 7 (by omega)).trans hX.1.2.2.2.2.2⟩
  have p := pass_E (n := n) (J := J) hE
  refine ⟨p.2.2.2, fun a b q => (p.1 a b (fun d => by have := d.1; omega)).trans (h.1 a b q), fun b q => (p.1 107 b (fun d => absurd d.1 (by decide))).trans ((h.2.1 b q).trans (hX.2 b q)), fun b q => (p.1 105 b (fun d => by have := d.2; omega)).trans (h.2.2 b (by omega)), ?_⟩
  rw [p.2.2.1, h.2.2 0 (by omega)]
theorem BS.of {X Y : SI} (hX : BS X) (h : ∀ a b, (a < 104 ∨ 114 < a) → Y a b = X a b) : BS Y := ⟨⟨(h 3 1 (by omega)).trans hX.1.1, (h 8 1 (by omega)).trans hX.1.2.1, (h 13 1 (by omega)).trans hX.1.2.2.1, (h 18 1 (by omega)).trans hX.1.2.2.2.1, (h 23 1 (by omega)).trans hX.1.2.2.2.2.1, (h 2 7 (by omega)).trans hX.1.2.2.2.2.2⟩, fun b q => (h 88 b (by omega)).trans (hX.2 b q)⟩
theorem FC.bs {A : SI} (h : FC A) : BS A := ⟨h.ec, h.2⟩
theorem breaks_0 {k : Nat} {I : SI} {J : SJ} (h : ∀ b, b < 8 → I (k + 2) b = 0) : F_X5_breakCount k I J = 0 := by
  unfold F_X5_breakCount F_X5_breakCount_l4
  refine itN_inv (P := fun s => s = (0 : Int32)) rfl (fun i s _ hs => ?_)
  unfold B_X5_breakCount_l4 F_X5_breaksBehind
  rw [atF_z (len := 8) (by decide) h, if_pos rfl, hs, Int32.add_zero]
theorem breaksM {f : Int32} {I : SI} {J : SJ} (h : I 132 1 = 0) : F_X12_breaksAll f I J = 0 ∧ H_X12_breaksAll f I J := by
  refine ⟨?_, ?_⟩
  · unfold F_X12_breaksAll F_X12_breaksAll_l4
    rw [tz0 h, itN_0]
  · unfold H_X12_breaksAll
    rw [tz0 h]
    exact fun _ _ h => nlt0 h
theorem EM.u1 {I : SI} {a b : Nat} {v : Int32} (h : EM I) (ha : a ≠ 132) : EM (u2 I a b v) := h.u ha
theorem z01 : (0 : Int32) + 0 = 0 := by decide
theorem ERR_n {a : Int32} (h : ¬ a < 0) (h2 : ¬ (2 : Int32) < a) : inR a 6 := in_of h (fun q => h2 (Int32.lt_of_lt_of_le (by decide) q)) (by decide)
theorem hasLaw_0 {a : Int32} {I : SI} {J : SJ} (h : ∀ b, I 148 b = 0) (h2 : ∀ b, I 149 b = 0) : F_X12_hasLaw a I J = 0 := by
  unfold F_X12_hasLaw
  rw [h, h2]
  exact if_pos (by decide)
theorem fr9 {xs : Nat → Int32} {k : Nat} {A B : SI} {JA JB : SJ} (hA : FC A) (hB : FM B) : Nd9 xs k A JA B JB (fun _ _ _ _ => True) := by
  have hB' := hB.u0
  have g := (BG.begin A JA).1
  have e3 : F_X7_holds 3 (xs (k + 3)) (FI_X0_begin 86 A JA) (FJ_X0_begin 86 A JA) = 0 := holds_0 ((g 3 1 (by omega)).trans (hA.g 3 1 0 (by decide +kernel)))
  have e8 : F_X7_holds 8 (xs (k + 2)) (FI_X0_begin 86 A JA) (FJ_X0_begin 86 A JA) = 0 := holds_0 ((g 8 1 (by omega)).trans (hA.g 8 1 0 (by decide +kernel)))
  have el : F_X12_hasLaw (xs (k + 1)) (u2 B 130 0 0) JB = 0 := hasLaw_0 (hB'.2 148 (by omega)) (hB'.2 149 (by omega))
  unfold Nd9
  refine ⟨?_, ?_, ?_, trivial⟩
  · unfold H_X11_law H_X11_noticeNow
    exact ⟨fun _ h => absurd e8 h, fun _ _ h => absurd e3 h, fun _ _ _ h => absurd e8 h⟩
  · unfold H_X12_law
    refine ⟨fun h1 h2 => ?_, ?_⟩
    · unfold H_X12_hasLaw
      exact ERR_n h1 h2
    · and_intros <;> exact fun _ _ h => absurd el h
  · have em : F_X12_law (xs (k + 1)) (xs (k + 2)) (xs (k + 3)) B JB = -9223372036854775808 := by
      unfold F_X12_law
      rw [if_pos el]
      by_cases c : xs (k + 1) < 0
      · exact if_pos c
      · rw [if_neg c]
        exact ite_self _
    rw [em]
    unfold F_X11_law F_X11_noticeNow
    rw [if_pos e8, if_pos e8, if_pos e3]
    by_cases c0 : xs (k + 1) = 0
    · exact if_pos c0
    · rw [if_neg c0]
      by_cases c1 : xs (k + 1) = 1
      · exact if_pos c1
      · rw [if_neg c1]
        exact ite_self _
theorem fr14 {xs : Nat → Int32} {k : Nat} {A B : SI} {JA JB : SJ} (hA : FC A) (hB : FM B) : Nd14 xs k A JA B JB (fun _ _ _ _ => True) := by
  have hB' := hB.u0
  have hp := ((BG.begin A JA).u (j := 2) (v := 1)).pass (J := FJ_X0_begin 86 A JA) hA.bs (xs (k + 1))
  have hT : EM (T_X12_go_j40 (xs (k + 1)) B JB) ∧ T_X12_go_j40 (xs (k + 1)) B JB 154 0 = 0 := by
    unfold T_X12_go_j40
    split
    · exact ⟨hB'.em, hB'.2 154 (by omega) 0⟩
    · exact ⟨hB'.em.u (by decide), (u2_n _ _ (by omega)).trans (hB'.2 154 (by omega) 0)⟩
  have hg : ∀ i s, B_X12_go_l42 (xs (k + 1)) B JB i s = (FI_X12_passes 0 1 s.1 s.2, FJ_X12_passes 0 1 s.1 s.2) := fun _ _ => rfl
  have h0 : inR 0 23 := ⟨rfl, by decide⟩
  have eA : A 86 0 = 0 := hA.g 86 0 0 (by decide +kernel)
  have eB : u2 B 130 0 0 154 0 = 0 := hB'.2 154 (by omega) 0
  unfold Nd14
  refine ⟨?_, ?_, ?_, trivial⟩
  · unfold H_X11_go
    exact fun _ _ _ _ => hp.1
  · unfold H_X12_go
    intro _ _ _ i s _ hs
    exact loopH hg hT.1 h0 hs
  · have lp := loopM (J := JB) hg hT.1 h0 (xs (k + 1)).toNatClampNeg
    unfold F_X11_go F_X12_go
    rw [eA, eB]
    by_cases c : xs (k + 1) < 0
    · rw [if_pos c, if_pos c]
    · rw [if_neg c, if_neg c]
      by_cases c2 : (99 : Int32) < xs (k + 1)
      · rw [if_pos c2, if_pos c2]
      · rw [if_neg c2, if_neg c2]
        by_cases c3 : 0 + xs (k + 1) ≤ 9900
        · rw [if_pos c3, if_pos c3]
          have em : (F_X12_go_l42 (xs (k + 1)) B JB (T_X12_go_j40 (xs (k + 1)) B JB, JB)).1 154 0 = xs (k + 1) := by
            refine lp.2.2.trans ?_
            show T_X12_go_j40 (xs (k + 1)) B JB 154 0 + nI (xs (k + 1)).toNatClampNeg = xs (k + 1)
            rw [hT.2, Int32.zero_add]
            exact (nI_self c).symm
          rw [em]
          by_cases c4 : xs (k + 1) ≤ 0
          · rw [if_pos c4]
            exact Int32.le_antisymm (Int32.not_lt.mp c) c4
          · rw [if_neg c4]
            unfold FI_X10_clear S1_X11_go
            refine (u2_n _ _ (by omega)).trans ?_
            have e5 : ∀ (Y : SI) (J : SJ), FI_X5_copy 86 105 Y J 86 0 = Y 105 0 := by
              intro Y J
              unfold FI_X5_copy S5_X5_copy S4_X5_copy S3_X5_copy S2_X5_copy S1_X5_copy
              simp [u2, cpF]
            rw [e5, hp.2.2.2.2, eA, Int32.zero_add]
            exact (nI_self c).symm
        · rw [if_neg c3, if_neg c3]
theorem fr15 {xs : Nat → Int32} {k : Nat} {A B : SI} {JA JB : SJ} (hA : FC A) (hB : FM B) : Nd15 xs k A JA B JB (fun _ _ _ _ => True) := by
  have hB' := hB.u0
  have hp := (BG.begin A JA).pass (J := FJ_X0_begin 86 A JA) hA.bs (xs (k + 1))
  have hr := runsM (n := xs (k + 1)) (J := JB) hB'.em
  have z163 := hr.2.1 163 (by decide) (by decide) (by decide) (hB'.2 163 (by omega))
  have z164 := hr.2.1 164 (by decide) (by decide) (by decide) (hB'.2 164 (by omega))
  have z157 := hr.2.1 157 (by decide) (by decide) (by decide) (hB'.2 157 (by omega))
  have m1 : FI_X12_runs (xs (k + 1)) (u2 B 130 0 0) JB 132 1 = 0 := (hr.1 132 1 (by omega)).trans (hB'.g 132 1 0 (by decide +kernel))
  have hc := clashM (f := 1) (J := FJ_X12_runs (xs (k + 1)) (u2 B 130 0 0) JB) m1
  have f86 : ∀ b, b < 8 → FI_X0_pass (xs (k + 1)) (FI_X0_begin 86 A JA) (FJ_X0_begin 86 A JA) (86 + 2) b = 0 := fun b h => (hp.2.1 88 b (by omega)).trans (hA.2 b h)
  unfold Nd15
  refine ⟨?_, ?_, ?_, trivial⟩
  · unfold H_X11_ahead
    exact fun _ _ _ _ => hp.1
  · unfold H_X12_ahead
    exact ⟨fun _ _ _ _ => hr.2.2.2.2, fun _ _ _ _ _ => sumH (p := 1) (by decide), fun _ _ _ _ _ => sumH (p := 0) (by decide), fun _ _ _ _ _ _ _ => sumH (p := 1) (by decide), fun _ _ _ _ _ _ _ => sumH (p := 0) (by decide), fun _ _ _ _ _ _ _ _ => hc.2⟩
  · unfold F_X11_ahead F_X12_ahead S1_X11_ahead S2_X11_ahead S3_X11_ahead S4_X11_ahead S5_X11_ahead S1_X12_ahead S2_X12_ahead
    rw [filmed_0 hp.2.2.1, filmed_0 f86, clash_0 hp.2.2.1, sumM z163, sumM z163, sumM z164, sumM z164, z157, z157, hc.1, hp.2.2.2.1 1 (by omega), hp.2.2.2.1 2 (by omega), hp.2.2.2.1 3 (by omega), hp.2.1 86 2 (by omega), hp.2.1 86 3 (by omega), hr.2.2.1, hA.g 86 1 99 (by decide +kernel), hA.g 86 2 0 (by decide +kernel), hA.g 86 3 0 (by decide +kernel), hB'.g 156 0 99 (by decide +kernel)]
theorem fr16 {xs : Nat → Int32} {k : Nat} {A B : SI} {JA JB : SJ} (hA : FC A) (hB : FM B) : Nd16 xs k A JA B JB (fun _ _ _ _ => True) := by
  have hB' := hB.u0
  have hm := breaksM (f := 0) (J := JB) (hB'.g 132 1 0 (by decide +kernel))
  unfold Nd16 H_X12_breaks F_X12_breaks F_X11_breaks
  exact ⟨hm.2, (breaks_0 (k := 86) hA.2).trans hm.1.symm, trivial⟩
/-- a loop that ends in its first round -/
theorem itE_first {σ ρ : Type} {f : Nat → σ → σ ⊕ ρ} {s0 : σ} {r : ρ} (h : f 0 s0 = .inr r) {i : Nat} {s : σ} (hs : itE f i 0 s0 = .inl s) : s = s0 := by
  cases i with
  | zero => rw [itE_0] at hs; cases hs; rfl
  | succ i => rw [itE_r f i 0 s0 r h] at hs; cases hs
theorem fr17 {xs : Nat → Int32} {k : Nat} {A B : SI} {JA JB : SJ} (hA : FC A) (hB : FM B) : Nd17 xs k A JA B JB (fun _ _ _ _ => True) := by
  have hB' := hB.u0
  have g := BG.begin A JA
  have g0 : ∀ b, b < 8 → FI_X0_begin 86 A JA (105 + 2) b = 0 := fun b h => (g.2.1 b h).trans (hA.2 b h)
  have g8 : FI_X0_begin 86 A JA 8 1 = 0 := (g.1 8 1 (by omega)).trans (hA.g 8 1 0 (by decide +kernel))
  have c := copM 1 0 (u2 B 130 0 0) JB
  have c1 : FI_X12_copies 1 0 (u2 B 130 0 0) JB 132 1 = 0 := (c.1 132 1 (by omega)).trans (hB'.g 132 1 0 (by decide +kernel))
  have c163 := c.2 163 (hB'.2 163 (by omega))
  have eA : F_X5_filmedCount 105 (FI_X0_begin 86 A JA) (FJ_X0_begin 86 A JA) = FI_X0_begin 86 A JA 8 1 := (filmed_0 g0).trans g8.symm
  have eA2 : F_X5_clashCount 105 (FI_X0_begin 86 A JA) (FJ_X0_begin 86 A JA) = 0 := clash_0 g0
  have eB : F_X12_sumOf 163 184 1 (FI_X12_copies 1 0 (u2 B 130 0 0) JB) JB = FI_X12_copies 1 0 (u2 B 130 0 0) JB 132 1 := (sumM c163).trans c1.symm
  have hc := clashM (f := 1) (J := JB) c1
  have sA : B_X11_agrees_l13_4 A JA 0 (FI_X0_begin 86 A JA, FJ_X0_begin 86 A JA) = .inr (nI 0, FI_X0_begin 86 A JA, FJ_X0_begin 86 A JA) := by
    unfold B_X11_agrees_l13_4
    rw [if_pos eA, if_pos eA2]
  have sB : B_X12_agrees_l13_4 B JB 0 (FI_X12_copies 1 0 (u2 B 130 0 0) JB, JB) = .inr (nI 0, FI_X12_copies 1 0 (u2 B 130 0 0) JB, JB) := by
    unfold B_X12_agrees_l13_4
    rw [if_pos eB, if_pos hc.1]
  unfold Nd17
  refine ⟨?_, ?_, ?_, trivial⟩
  · unfold H_X11_agrees
    refine ⟨fun i s _ hs h => ?_, fun i s _ hs _ h => ?_⟩
    · rw [itE_first sA hs] at h
      exact absurd eA h
    · rw [itE_first sA hs] at h
      exact absurd eA2 h
  · unfold H_X12_agrees
    refine ⟨cop_in (p := 1) (q := 0) (by decide) (by decide) _ _, fun i s _ hs => ?_, fun i s _ hs h => ?_, fun i s _ hs _ => ?_, fun i s _ hs _ h => ?_⟩
    · exact sumH (p := 1) (by decide)
    · rw [itE_first sB hs] at h
      exact absurd eB h
    · rw [itE_first sB hs]
      exact hc.2
    · rw [itE_first sB hs] at h
      exact absurd hc.1 h
  · unfold F_X11_agrees F_X12_agrees F_X11_agrees_l13_4 F_X12_agrees_l13_4
    rw [show (100 : Nat) = 99 + 1 from rfl, itE_r _ _ _ _ _ sA, itE_r _ _ _ _ _ sB]
theorem shl0 : ((1 : Int32) <<< ((0 : Int32) &&& 31)).toNatClampNeg = 1 := by decide +kernel
theorem all0 : ((1 : Int32) <<< ((0 : Int32) &&& 31)) - 1 = 0 := by decide +kernel
theorem fr20 {xs : Nat → Int32} {k : Nat} {A B : SI} {JA JB : SJ} (hA : FC A) (hB : FM B) : Nd20 xs k A JA B JB (fun _ _ _ _ => True) := by
  have hB' := hB.u0
  have e0 : u2 B 130 0 0 132 0 = 0 := hB'.g 132 0 0 (by decide +kernel)
  have e4 : u2 B 130 0 0 132 4 = 0 := hB'.g 132 4 0 (by decide +kernel)
  have a3 : A 3 1 = 0 := hA.g 3 1 0 (by decide +kernel)
  have a18 : A 18 1 = 0 := hA.g 18 1 0 (by decide +kernel)
  unfold Nd20
  refine ⟨?_, ?_, trivial⟩
  · unfold H_X12_noted
    intro _ _ _ _ i s h
    rw [e4] at h
    exact nlt0 h
  · have eA : F_X11_noted A JA = nI 0 := by
      unfold F_X11_noted F_X11_noted_l20
      rw [a18, shl0, show (1 : Nat) = 0 + 1 from rfl, itN_s, itN_0]
      unfold B_X11_noted_l20
      rw [a3, all0, Int32.and_zero, if_pos rfl]
      refine if_neg ?_
      unfold T_X11_noted_j56
      rw [if_pos (show (-2 : Int32) < 0 by decide)]
      decide
    have eB : F_X12_noted B JB = nI 0 := by
      unfold F_X12_noted F_X12_noted_l21
      rw [e4, shl0, show (1 : Nat) = 0 + 1 from rfl, itN_s, itN_0]
      unfold B_X12_noted_l21 S1_X12_noted
      rw [e0, all0, Int32.and_zero, if_pos rfl]
      exact if_pos (by decide)
    rw [eA, eB]
theorem fr25 {xs : Nat → Int32} {k : Nat} {A B : SI} {JA JB : SJ} (hA : FC A) (hB : FM B) : Nd25 xs k A JA B JB (fun _ _ _ _ => True) := by
  have hB' := hB.u0
  have hp := ((BG.begin A JA).u (j := 2) (v := 3)).pass (J := FJ_X0_begin 86 A JA) hA.bs (xs (k + 1))
  have hr := runsM (n := xs (k + 1)) (J := JB) (hB'.em.u (a := 130) (b := 59) (v := 1) (by decide))
  have m1 : u2 (FI_X12_runs (xs (k + 1)) (u2 (u2 B 130 0 0) 130 59 1) JB) 130 59 0 132 1 = 0 := (u2_n _ _ (by omega)).trans ((hr.1 132 1 (by omega)).trans ((u2_n _ _ (by omega)).trans (hB'.g 132 1 0 (by decide +kernel))))
  have hc := clashM (f := 1) (J := FJ_X12_runs (xs (k + 1)) (u2 (u2 B 130 0 0) 130 59 1) JB) m1
  have hb := breaksM (f := 1) (J := FJ_X12_runs (xs (k + 1)) (u2 (u2 B 130 0 0) 130 59 1) JB) m1
  unfold Nd25
  refine ⟨?_, ?_, ?_, trivial⟩
  · unfold H_X11_without
    exact fun _ _ => hp.1
  · unfold H_X12_without
    exact ⟨fun _ _ => hr.2.2.2.2, fun _ _ => hc.2, fun _ _ => hb.2⟩
  · unfold F_X11_without F_X12_without S1_X11_without S2_X11_without S1_X12_without S2_X12_without
    rw [clash_0 hp.2.2.1, breaks_0 hp.2.2.1, hc.1, hb.1]
theorem fr33 {xs : Nat → Int32} {k : Nat} {A B : SI} {JA JB : SJ} (hA : FC A) (hB : FM B) : Nd33 xs k A JA B JB (fun _ _ _ _ => True) := by
  have hB' := hB.u0
  have hp := ((BG.begin A JA).oth (J := FJ_X0_begin 86 A JA) (xs (k + 1)) (xs (k + 2))).pass (J := FJ_X0_begin 86 A JA) hA.bs (xs (k + 3))
  have hr := runsM (n := xs (k + 3)) (J := JB) ((hB'.em.u (a := 130) (b := 55) (v := xs (k + 1)) (by decide)).u (a := 130) (b := 56) (v := xs (k + 2)) (by decide))
  have m1 : u2 (S1_X12_tried (xs (k + 1)) (xs (k + 2)) (xs (k + 3)) B JB) 130 56 (-1) 132 1 = 0 := by
    refine (u2_n _ _ (by omega)).trans ?_
    unfold S1_X12_tried
    refine (u2_n _ _ (by omega)).trans ?_
    exact (hr.1 132 1 (by omega)).trans ((u2_n _ _ (by omega)).trans ((u2_n _ _ (by omega)).trans (hB'.g 132 1 0 (by decide +kernel))))
  have hc := clashM (f := 1) (J := FJ_X12_runs (xs (k + 3)) (u2 (u2 (u2 B 130 0 0) 130 55 (xs (k + 1))) 130 56 (xs (k + 2))) JB) m1
  have eT : T_X11_tried_j37 (xs (k + 1)) (xs (k + 2)) (xs (k + 3)) A JA = T_X12_tried_j36 (xs (k + 1)) (xs (k + 2)) (xs (k + 3)) B JB := by
    unfold T_X11_tried_j37 T_X12_tried_j36
    rw [holds_0 (hA.g 13 1 0 (by decide +kernel)), isParty_0 (hB'.g 132 3 0 (by decide +kernel))]
  unfold Nd33
  refine ⟨?_, ?_, ?_, trivial⟩
  · unfold H_X11_tried
    refine ⟨fun _ _ _ => ?_, fun _ _ _ => hp.1⟩
    unfold H_X0_otherwise T_X0_otherwise_j39 T_X0_otherwise_j53
    refine ⟨?_, ?_⟩
    · by_cases q : xs (k + 1) = 3 <;> simp [q]
    · by_cases q : xs (k + 1) = 4 <;> simp [q]
  · unfold H_X12_tried
    exact ⟨fun _ _ _ => hr.2.2.2.2, fun _ _ _ => hc.2⟩
  · unfold F_X11_tried F_X12_tried S2_X12_tried
    rw [eT, hc.1]
    unfold S1_X11_tried
    rw [clash_0 hp.2.2.1]
theorem fr35 {xs : Nat → Int32} {k : Nat} {A B : SI} {JA JB : SJ} (hA : FC A) (hB : FM B) : Nd35 xs k A JA B JB (fun _ _ _ _ => True) := by
  have hB' := hB.u0
  have c := copM 2 0 (u2 B 130 0 0) JB
  have e5 : FI_X5_copy 95 86 A JA 86 0 = A 86 0 := by
    unfold FI_X5_copy S5_X5_copy S4_X5_copy S3_X5_copy S2_X5_copy S1_X5_copy
    simp [u2, cpF]
  unfold Nd35 H_X12_keep F_X12_keep F_X11_keep
  refine ⟨cop_in (p := 2) (q := 0) (by decide) (by decide) _ _, ?_, trivial⟩
  have l1 : u2 (FI_X5_copy 95 86 A JA) 0 6 1 86 0 = 0 := (u2_n _ _ (by omega)).trans (e5.trans (hA.g 86 0 0 (by decide +kernel)))
  have l2 : u2 (FI_X12_copies 2 0 (u2 B 130 0 0) JB) 130 53 1 154 0 = 0 := (u2_n _ _ (by omega)).trans (c.2 154 (hB'.2 154 (by omega)) 0)
  exact l1.trans l2.symm
theorem fr37 {xs : Nat → Int32} {k : Nat} {A B : SI} {JA JB : SJ} (hA : FC A) (hB : FM B) : Nd37 xs k A JA B JB (fun _ _ _ _ => True) := by
  have hB' := hB.u0
  have hc := clashM (f := 0) (J := JB) (hB'.g 132 1 0 (by decide +kernel))
  unfold Nd37
  refine ⟨?_, ?_, trivial⟩
  · unfold H_X12_count
    exact ⟨fun _ _ _ _ _ _ _ => sumH (p := 0) (by decide), fun _ _ _ _ _ _ _ _ _ => sumH (p := 0) (by decide), fun _ _ _ _ _ _ _ _ _ _ _ => hc.2⟩
  · have ek : F_X6_knownCount A JA = 0 := by
      unfold F_X6_knownCount
      rw [hA.g 116 1 (-1) (by decide +kernel), if_neg (by decide)]
      exact hA.g 116 0 0 (by decide +kernel)
    have ekm : F_X12_knownMany (u2 B 130 0 0) JB = 0 := by
      unfold F_X12_knownMany
      rw [hB'.g 130 69 (-1) (by decide +kernel), if_pos rfl]
      exact hB'.g 130 68 0 (by decide +kernel)
    unfold F_X11_count F_X12_count
    rw [ek, ekm, hc.1, filmed_0 (k := 86) hA.2, clash_0 (k := 86) hA.2, sumM (hB'.2 163 (by omega)), sumM (hB'.2 164 (by omega)), hB'.2 154 (by omega), hB'.2 157 (by omega), hA.g 3 1 0 (by decide +kernel), hA.g 8 1 0 (by decide +kernel), hA.g 13 1 0 (by decide +kernel), hA.g 18 1 0 (by decide +kernel), hA.g 2 11 0 (by decide +kernel), hA.g 86 0 0 (by decide +kernel), hA.g 86 1 99 (by decide +kernel), hA.g 86 2 0 (by decide +kernel), hA.g 86 3 0 (by decide +kernel), hA.g 86 4 0 (by decide +kernel), hA.g 116 0 0 (by decide +kernel), hA.g 120 0 0 (by decide +kernel), hB'.g 132 0 0 (by decide +kernel), hB'.g 132 1 0 (by decide +kernel), hB'.g 132 3 0 (by decide +kernel), hB'.g 132 4 0 (by decide +kernel), hB'.g 132 9 0 (by decide +kernel), hB'.g 156 0 99 (by decide +kernel), hB'.g 159 0 0 (by decide +kernel), hB'.g 130 68 0 (by decide +kernel), hB'.g 130 54 0 (by decide +kernel)]
