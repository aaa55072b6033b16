/-! the class reads a line -/
def Ww (i : Nat) (x : Int32) : Prop := -(i : Int) ≤ x.toInt ∧ x.toInt ≤ (i : Int)
theorem Ww.up {i j : Nat} {x : Int32} (h : Ww i x) (hj : i ≤ j) : Ww j x := ⟨by have := h.1; omega, by have := h.2; omega⟩
theorem toInt_u {x y : Int32} (h : -2147483648 ≤ x.toInt + y.toInt) (h2 : x.toInt + y.toInt < 2147483648) : (x + y).toInt = x.toInt + y.toInt := by
  rw [Int32.toInt_add]
  simp only [Int.bmod]
  split <;> omega
theorem Ww.p1 {i : Nat} {x : Int32} (h : Ww i x) (hi : i < 800) : Ww (i + 1) (x + 1) := by
  have e : (1 : Int32).toInt = 1 := by decide
  have := h.1
  have := h.2
  have k := toInt_u (x := x) (y := 1) (by omega) (by omega)
  exact ⟨by rw [k, e]; omega, by rw [k, e]; omega⟩
theorem Ww.m1 {i : Nat} {x : Int32} (h : Ww i x) (hi : i < 800) : Ww (i + 1) (x + (-1)) := by
  have e : (-1 : Int32).toInt = -1 := by decide
  have := h.1
  have := h.2
  have k := toInt_u (x := x) (y := -1) (by omega) (by omega)
  exact ⟨by rw [k, e]; omega, by rw [k, e]; omega⟩
theorem sub1 (x : Int32) : x - 1 = x + (-1) := Int32.sub_eq_add_neg _ _
theorem Ww.dn {i : Nat} {x : Int32} (h : Ww i x) (hi : i < 800) (c : ¬ x ≤ 0) : Ww i (x + (-1)) ∧ (x + (-1)).toNatClampNeg < x.toNatClampNeg := by
  have e : (-1 : Int32).toInt = -1 := by decide
  have e0 : (0 : Int32).toInt = 0 := by decide
  have h1 := h.1
  have h2 := h.2
  have k := toInt_u (x := x) (y := -1) (by omega) (by omega)
  have p : 0 < x.toInt := by
    rw [Int32.le_iff_toInt_le, e0] at c
    omega
  refine ⟨⟨by rw [k, e]; omega, by rw [k, e]; omega⟩, ?_⟩
  show (x + (-1)).toInt.toNat < x.toInt.toNat
  rw [k, e]
  omega
theorem Ww.mu {i : Nat} {x : Int32} (h : Ww i x) (hi : i < 800) : x.toNatClampNeg < 800 := by
  have := h.2
  show x.toInt.toNat < 800
  omega
def K3 (k : Nat) : Prop := k = 69 ∨ k = 73 ∨ k = 77
theorem top_H {I : SI} {J : SJ} : H_X4_topRank I J := by
  unfold H_X4_topRank
  intro c c2
  have z : inR (I 41 6) 73 := in_of (len := 73) (fun q => c (Int32.le_of_lt q)) (fun q => c2 (Int32.lt_of_lt_of_le (show (72 : Int32) < nI 73 by decide) q)) (by decide)
  obtain ⟨j, hj, e⟩ := z.n
  rw [e] at c ⊢
  cases j with
  | zero => exact absurd (show nI 0 ≤ 0 by decide) c
  | succ j =>
    rw [show nI (j + 1) - 1 = nI j from pk_sub (b := 1) (by omega)]
    exact inR_nI (by omega) (by decide)
theorem add1_C {k : Nat} {a0 a1 : Int32} {I : SI} {J : SJ} (h : PI I) (hk : K3 k) : H_X1_add k a0 a1 I J ∧ GO I (FI_X1_add k a0 a1 I J) ∧ FI_X1_add k a0 a1 I J 41 = I 41 ∧ FI_X1_add k a0 a1 I J 81 = I 81 := by
  have n0 : ∀ v w : Int32, (u2 I (k + 1) w.toNatClampNeg v) k 1 = I k 1 := fun v w => u2_n _ _ (by omega)
  have t : KD I (S1_X1_add k a0 a1 I J) := by
    unfold S1_X1_add
    refine ((KD.rf I).u ?_).u ?_
    · unfold K3 at hk; unfold dpR; omega
    · unfold K3 at hk; unfold dpR; omega
  have t2 : ∀ v : Int32, KD I (u2 (S1_X1_add k a0 a1 I J) k 1 v) := fun v => t.u (by unfold K3 at hk; unfold dpR; omega)
  have e : ∀ (v : Int32) (a : Nat), a = 41 ∨ a = 81 → u2 (S1_X1_add k a0 a1 I J) k 1 v a = I a := fun v a ha => funext fun b => by
    unfold K3 at hk
    refine (u2_n _ _ (by omega)).trans ?_
    unfold S1_X1_add
    exact (u2_n _ _ (by omega)).trans (u2_n _ _ (by omega))
  refine ⟨?_, ?_⟩
  · unfold H_X1_add
    intro c c2
    rw [n0]
    exact in_of c c2 (by decide)
  · unfold FI_X1_add
    by_cases c : I k 1 < 0
    · rw [if_pos c]
      exact ⟨GO.rf h, rfl, rfl⟩
    · rw [if_neg c]
      by_cases c2 : (64 : Int32) ≤ I k 1
      · rw [if_pos c2]
        exact ⟨GO.rf h, rfl, rfl⟩
      · rw [if_neg c2]
        have e8 := e (S1_X1_add k a0 a1 I J k 1 + 1) 81 (.inr rfl)
        have tk : TK (u2 (S1_X1_add k a0 a1 I J) k 1 (S1_X1_add k a0 a1 I J k 1 + 1)) := by
          unfold TK
          rw [e8]
          exact h.1
        exact ⟨⟨h.kd tk (t2 _), (t2 _).kp⟩, e _ 41 (.inl rfl), e8⟩
theorem jn_C {k i : Nat} {a1 : Int32} {I : SI} {J : SJ} (h : PI I) (hk : K3 k) (hw : Ww i (I 41 6)) (hi : i < 800) : H_X4_join k a1 I J ∧ GO I (FI_X4_join k a1 I J) ∧ Ww i (FI_X4_join k a1 I J 41 6) ∧ FI_X4_join k a1 I J 41 1 = I 41 1 := by
  have L := whl (f := B_X4_join_w5 k a1 I J) (s0 := (I 41 6, I)) (fun s => s.2 41 6 = s.1 ∧ Ww i s.1 ∧ GO I s.2 ∧ s.2 41 1 = I 41 1) (fun r => Ww i (r.2 41 6) ∧ GO I r.2 ∧ r.2 41 1 = I 41 1) (fun s => s.1.toNatClampNeg) ⟨rfl, hw, GO.rf h, rfl⟩ (hw.mu hi) (fun s s' hs hf => by
    obtain ⟨c, h2⟩ := inl_of hf
    obtain ⟨_, h3⟩ := inl_of h2
    have ee := Sum.inl.inj h3
    rw [← ee]
    have a := add1_C (k := k) (a0 := atF (s.2 84) 72 (s.2 41 6 - 1)) (a1 := 0) (J := J) hs.2.2.1.1 hk
    have d := hs.2.1.dn hi c
    have eS : S1_X4_join k a1 I J s = u2 (FI_X1_add k (atF (s.2 84) 72 (s.2 41 6 - 1)) 0 s.2 J) 41 6 (s.1 + (-1)) := by
      unfold S1_X4_join
      rw [a.2.2.1, hs.1, sub1]
    refine ⟨⟨?_, d.1, ?_, ?_⟩, d.2⟩
    · show S1_X4_join k a1 I J s 41 6 = s.1 + (-1)
      rw [eS]
      exact u2_s _ _ _ _
    · show GO I (S1_X4_join k a1 I J s)
      rw [eS]
      refine (hs.2.2.1.tr a.2.1).tr ?_
      have kd : KD (FI_X1_add k (atF (s.2 84) 72 (s.2 41 6 - 1)) 0 s.2 J) (u2 (FI_X1_add k (atF (s.2 84) 72 (s.2 41 6 - 1)) 0 s.2 J) 41 6 (s.1 + (-1))) := (KD.rf _).r (by omega)
      exact ⟨a.2.1.1.kd (a.2.1.1.1.u (by omega)) kd, kd.kp⟩
    · show S1_X4_join k a1 I J s 41 1 = I 41 1
      rw [eS]
      refine (u2_n _ _ (by omega)).trans ?_
      rw [a.2.2.1]
      exact hs.2.2.2) (fun s r hs hf => by
    have q : Ww i (s.2 41 6) ∧ GO I s.2 ∧ s.2 41 1 = I 41 1 := ⟨by rw [hs.1]; exact hs.2.1, hs.2.2⟩
    unfold B_X4_join_w5 at hf
    repeat' split at hf
    all_goals cases hf
    all_goals exact q)
  refine ⟨?_, ?_⟩
  · unfold H_X4_join
    exact ⟨L.1, fun _ _ _ _ => top_H, fun n s hn _ _ => (add1_C (L.2.1 n s hn).2.2.1.1 hk).1⟩
  · unfold FI_X4_join F_X4_join_w5
    have q := L.2.2 (I 41 6, I)
    exact ⟨q.2.1, q.1, q.2.2⟩
theorem hold_C {i : Nat} {w : Int32} {I : SI} {J : SJ} (h : PI I) (hw : Ww i (I 41 6)) (hi : i < 800) : GO I (FI_X4_hold w I J) ∧ Ww (i + 1) (FI_X4_hold w I J 41 6) := by
  have k : KD I (S1_X4_hold w I J) := by
    unfold S1_X4_hold
    exact ((KD.rf I).p (by omega)).p (by omega)
  have t : TK (S1_X4_hold w I J) := by
    unfold S1_X4_hold
    exact (h.1.p (by decide)).p (by decide)
  have e : S1_X4_hold w I J 41 6 = I 41 6 := by
    unfold S1_X4_hold
    exact (putF_n (by decide)).trans (putF_n (by decide))
  unfold FI_X4_hold
  split
  · have k2 : KD I (u2 (S1_X4_hold w I J) 41 6 (S1_X4_hold w I J 41 6 + 1)) := k.r (by omega)
    refine ⟨⟨h.kd (t.u (by omega)) k2, k2.kp⟩, ?_⟩
    rw [u2_s, e]
    exact hw.p1 hi
  · exact ⟨GO.rf h, hw.up (by omega)⟩
theorem knot_C {I : SI} {J : SJ} (h : PI I) : GO I (FI_X4_knot I J) ∧ FI_X4_knot I J 41 6 = I 41 6 := by
  unfold FI_X4_knot
  split
  · have k : KD I (u2 I 42 11 (I 42 11 + 1)) := (KD.rf I).r (by omega)
    exact ⟨⟨h.kd (h.1.u (by omega)) k, k.kp⟩, u2_n _ _ (by omega)⟩
  · have f := fail_C (w := 2) (J := J) h (by decide)
    exact ⟨⟨f.1, f.2.1⟩, f.2.2.2.1⟩
theorem opd_C {k i : Nat} {I : SI} {J : SJ} (h : PI I) (hk : K3 k) (hw : Ww i (I 41 6)) (hi : i < 800) : H_X4_operand k I J ∧ GO I (FI_X4_operand k I J) ∧ Ww (i + 1) (FI_X4_operand k I J 41 6) := by
  have kn := knot_C (J := J) h
  have f1 := fail_C (w := 1) (J := J) h (by decide)
  have f2 := fail_C (w := 2) (J := J) h (by decide)
  have tj : GO I (T_X4_operand_j46 k I J) ∧ T_X4_operand_j46 k I J 41 6 = I 41 6 := by
    unfold T_X4_operand_j46
    split
    · exact kn
    · have f := fail_C (w := 2) (J := J) kn.1.1 (by decide)
      exact ⟨kn.1.tr ⟨f.1, f.2.1⟩, f.2.2.2.1.trans kn.2⟩
  have t8 : GO I (T_X4_operand_j88 k I J) ∧ T_X4_operand_j88 k I J 41 6 = I 41 6 := by
    unfold T_X4_operand_j88
    split
    · exact ⟨GO.rf h, rfl⟩
    · exact ⟨⟨f2.1, f2.2.1⟩, f2.2.2.2.1⟩
  have t2 : GO I (S2_X4_operand k I J) ∧ S2_X4_operand k I J 41 6 = I 41 6 := by
    unfold S2_X4_operand
    have kd : KD (T_X4_operand_j88 k I J) (u2 (T_X4_operand_j88 k I J) 41 7 ((T_X4_operand_j88 k I J) 41 7 + 1)) := (KD.rf _).r (by omega)
    exact ⟨t8.1.tr ⟨t8.1.1.kd (t8.1.1.1.u (by omega)) kd, kd.kp⟩, (u2_n _ _ (by omega)).trans t8.2⟩
  refine ⟨?_, ?_⟩
  · unfold H_X4_operand
    exact ⟨fun _ => (add1_C tj.1.1 hk).1, fun _ _ _ _ => top_H, fun _ _ => (add1_C kn.1.1 hk).1⟩
  · unfold FI_X4_operand S1_X4_operand
    repeat' split
    · have a := add1_C (k := k) (a0 := I 81 5) (a1 := (T_X4_operand_j46 k I J) 81 6) (J := J) tj.1.1 hk
      exact ⟨tj.1.tr a.2.1, by rw [a.2.2.1, tj.2]; exact hw.up (by omega)⟩
    · have q := hold_C (w := I 81 5) (J := J) t2.1.1 (by rw [t2.2]; exact hw) hi
      exact ⟨t2.1.tr q.1, q.2⟩
    · exact ⟨⟨f1.1, f1.2.1⟩, by rw [f1.2.2.2.1]; exact hw.up (by omega)⟩
    · have q := hold_C (w := I 81 5) (J := J) kn.1.1 (by rw [kn.2]; exact hw) hi
      exact ⟨kn.1.tr q.1, q.2⟩
    · exact ⟨⟨f1.1, f1.2.1⟩, by rw [f1.2.2.2.1]; exact hw.up (by omega)⟩
    · have a := add1_C (k := k) (a0 := I 81 5) (a1 := 0) (J := J) kn.1.1 hk
      exact ⟨kn.1.tr a.2.1, by rw [a.2.2.1, kn.2]; exact hw.up (by omega)⟩
theorem sgn_C {k i : Nat} {I : SI} {J : SJ} (h : PI I) (hk : K3 k) (hw : Ww i (I 41 6)) (hi : i < 800) : H_X4_sign k I J ∧ GO I (FI_X4_sign k I J) ∧ Ww (i + 1) (FI_X4_sign k I J 41 6) := by
  have j := fun a1 : Int32 => jn_C (a1 := a1) (J := J) h hk hw hi
  have f1 := fail_C (w := 1) (J := J) h (by decide)
  have F : GO I (FI_X4_fail 1 I J) ∧ Ww (i + 1) (FI_X4_fail 1 I J 41 6) := ⟨⟨f1.1, f1.2.1⟩, by rw [f1.2.2.2.1]; exact hw.up (by omega)⟩
  have A : ∀ a1 w : Int32, GO I (FI_X4_hold w (FI_X4_knot (FI_X4_join k a1 I J) J) J) ∧ Ww (i + 1) (FI_X4_hold w (FI_X4_knot (FI_X4_join k a1 I J) J) J 41 6) := fun a1 w => by
    have kn := knot_C (J := J) (j a1).2.1.1
    have q := hold_C (w := w) (J := J) kn.1.1 (by rw [kn.2]; exact (j a1).2.2.1) hi
    exact ⟨(j a1).2.1.tr (kn.1.tr q.1), q.2⟩
  have B : ∀ a1 w : Int32, GO I (FI_X4_hold w (FI_X4_knot (FI_X4_fail 1 (FI_X4_join k a1 I J) J) J) J) ∧ Ww (i + 1) (FI_X4_hold w (FI_X4_knot (FI_X4_fail 1 (FI_X4_join k a1 I J) J) J) J 41 6) := fun a1 w => by
    have f := fail_C (w := 1) (J := J) (j a1).2.1.1 (by decide)
    have kn := knot_C (J := J) f.1
    have q := hold_C (w := w) (J := J) kn.1.1 (by rw [kn.2, f.2.2.2.1]; exact (j a1).2.2.1) hi
    exact ⟨(j a1).2.1.tr ((show GO _ _ from ⟨f.1, f.2.1⟩).tr (kn.1.tr q.1)), q.2⟩
  refine ⟨?_, ?_⟩
  · unfold H_X4_sign
    exact ⟨fun _ _ _ => (j _).1, fun _ _ _ _ => top_H, fun _ _ _ _ => (j _).1, fun _ _ _ _ _ => top_H, fun _ _ => (j _).1⟩
  · have S7 : GO I (S7_X4_sign k I J) ∧ Ww (i + 1) (S7_X4_sign k I J 41 6) := by
      unfold S7_X4_sign
      have q := j 1
      have kd : KD (FI_X4_join k 1 I J) (u2 (u2 (FI_X4_join k 1 I J) 41 6 (FI_X4_join k 1 I J 41 6 - 1)) 41 7 ((u2 (FI_X4_join k 1 I J) 41 6 (FI_X4_join k 1 I J 41 6 - 1)) 41 7 - 1)) := ((KD.rf _).r (by omega)).r (by omega)
      refine ⟨q.2.1.tr ⟨q.2.1.1.kd ((q.2.1.1.1.u (by omega)).u (by omega)) kd, kd.kp⟩, ?_⟩
      have e : (u2 (u2 (FI_X4_join k 1 I J) 41 6 (FI_X4_join k 1 I J 41 6 - 1)) 41 7 ((u2 (FI_X4_join k 1 I J) 41 6 (FI_X4_join k 1 I J 41 6 - 1)) 41 7 - 1)) 41 6 = FI_X4_join k 1 I J 41 6 - 1 := (u2_n _ _ (by omega)).trans (u2_s _ _ _ _)
      rw [e, sub1]
      exact q.2.2.1.m1 hi
    unfold FI_X4_sign
    repeat' split
    · exact F
    · exact F
    · unfold S6_X4_sign; exact B _ _
    · unfold S5_X4_sign; exact A _ _
    · unfold S4_X4_sign; exact A _ _
    · exact S7
    · exact F
    · exact F
    · unfold S3_X4_sign; exact B _ _
    · unfold S2_X4_sign; exact A _ _
    · unfold S1_X4_sign; exact A _ _
theorem itE_ind {σ ρ : Type} {f : Nat → σ → σ ⊕ ρ} {N : Nat} {s0 : σ} (P : Nat → σ → Prop) (Q : ρ → Prop) (h0 : P 0 s0) (hs : ∀ i s s', i < N → P i s → f i s = .inl s' → P (i + 1) s') (hr : ∀ i s r, i < N → P i s → f i s = .inr r → Q r) : (∀ m s, m ≤ N → itE f m 0 s0 = .inl s → P m s) ∧ ∀ r, itE f N 0 s0 = .inr r → Q r := by
  have key : ∀ m i s, i + m ≤ N → P i s → (∀ s', itE f m i s = .inl s' → P (i + m) s') ∧ ∀ r, itE f m i s = .inr r → Q r := by
    intro m
    induction m with
    | zero => intro i s _ hp; exact ⟨fun s' h => by rw [itE_0] at h; cases h; exact hp, fun r h => by rw [itE_0] at h; cases h⟩
    | succ m ih =>
      intro i s hm hp
      cases hf : f i s with
      | inl s2 =>
        rw [itE_l f m i s s2 hf]
        have q := ih (i + 1) s2 (by omega) (hs i s s2 (by omega) hp hf)
        rw [show i + 1 + m = i + (m + 1) from by omega] at q
        exact q
      | inr r2 => rw [itE_r f m i s r2 hf]; exact ⟨fun s' h => (by cases h), fun r h => by cases h; exact hr i s r2 (by omega) hp hf⟩
  exact ⟨fun m s hm h => by have q := (key m 0 s0 (by omega) h0).1 s h; rw [Nat.zero_add] at q; exact q, fun r h => (key N 0 s0 (by omega) h0).2 r h⟩
theorem side_C {k : Nat} {I : SI} {J : SJ} (h : PI I) (hk : K3 k) : H_X4_side k I J ∧ GO I (FI_X4_side k I J) := by
  have kd : KD I (u2 (u2 I 41 6 0) 41 7 0) := ((KD.rf I).r (by omega)).r (by omega)
  have g0 : GO I (u2 (u2 I 41 6 0) 41 7 0) := ⟨h.kd ((h.1.u (by omega)).u (by omega)) kd, kd.kp⟩
  have e0 : (u2 (u2 I 41 6 0) 41 7 0) 41 6 = 0 := (u2_n _ _ (by omega)).trans (u2_s _ _ _ _)
  have stp2 : ∀ {I1 : SI} {i : Nat}, GO I I1 → Ww i (I1 41 6) → GO I (FI_X8_step I1 J) ∧ Ww i (FI_X8_step I1 J 41 6) := fun {I1} {i} g w => by
    have s := stp (J := J) g.1
    exact ⟨g.tr s.2.1, by rw [s.2.2]; exact w⟩
  have L := itE_ind (f := B_X4_side_l14_3 k I J) (N := 701) (s0 := ((1 : Int32), u2 (u2 I 41 6 0) 41 7 0)) (fun i s => GO I s.2 ∧ Ww i (s.2 41 6)) (fun r => GO I r) ⟨g0, by show Ww 0 ((u2 (u2 I 41 6 0) 41 7 0) 41 6); rw [e0]; exact ⟨by decide, by decide⟩⟩ (fun i s s' hi hs hf => by
    have o := opd_C (J := J) hs.1.1 hk hs.2 (by omega)
    have g := sgn_C (J := J) hs.1.1 hk hs.2 (by omega)
    have o2 := stp2 (hs.1.tr o.2.1) o.2.2
    have g2 := stp2 (hs.1.tr g.2.1) g.2.2
    unfold B_X4_side_l14_3 at hf
    repeat' split at hf
    all_goals cases hf
    all_goals first
      | exact o2
      | exact g2) (fun i s r hi hs hf => by
    have j := jn_C (a1 := 1) (J := J) hs.1.1 hk hs.2 (by omega)
    unfold B_X4_side_l14_3 at hf
    repeat' split at hf
    all_goals cases hf
    all_goals first
      | exact hs.1
      | exact hs.1.tr j.2.1)
  have O : ∀ (i : Nat) (s : Int32 × SI), i < 701 → itE (B_X4_side_l14_3 k I J) i 0 ((1 : Int32), u2 (u2 I 41 6 0) 41 7 0) = .inl s → (H_X4_operand k s.2 J ∧ GO s.2 (FI_X4_operand k s.2 J)) ∧ (H_X4_sign k s.2 J ∧ GO s.2 (FI_X4_sign k s.2 J)) ∧ H_X4_join k 1 s.2 J := fun i s hi e => by
    have q := L.1 i s (by omega) e
    have o := opd_C (J := J) q.1.1 hk q.2 (by omega)
    have g := sgn_C (J := J) q.1.1 hk q.2 (by omega)
    exact ⟨⟨o.1, o.2.1⟩, ⟨g.1, g.2.1⟩, (jn_C q.1.1 hk q.2 (by omega)).1⟩
  refine ⟨?_, ?_⟩
  · unfold H_X4_side
    exact ⟨fun i s hi e _ _ => (O i s hi e).1.1, fun i s hi e _ _ => (stp (O i s hi e).1.2.1).1, fun i s hi e _ _ _ => (O i s hi e).2.1.1, fun i s hi e _ _ _ => (stp (O i s hi e).2.1.2.1).1, fun i s hi e _ _ _ _ => (O i s hi e).2.1.1, fun i s hi e _ _ _ _ => (stp (O i s hi e).2.1.2.1).1, fun i s hi e _ _ _ _ => (O i s hi e).2.2⟩
  · unfold FI_X4_side
    cases q : F_X4_side_l14_3 k I J ((1 : Int32), u2 (u2 I 41 6 0) 41 7 0) with
    | inl s => exact (L.1 701 s (by omega) q).1
    | inr r => exact L.2 r q
