/-! the model: searches, what was seen, chances -/
theorem starts_H {f : Int32} {I : SI} {J : SJ} (hf : inR f 23) : H_X12_starts f I J ∧ FrM I (FI_X12_starts f I J) := by
  refine ⟨?_, ?_⟩
  · obtain ⟨j, hj, rfl⟩ := hf.n
    unfold H_X12_starts
    exact ⟨inR_nI hj (by decide), fun i s h _ => m4 (by omega) (by decide), fun _ _ h0 _ _ => inR_nI (Nat.lt_of_lt_of_le h0 (by decide)) (by decide), fun _ _ h0 _ => inR_nI (Nat.lt_of_lt_of_le h0 (by decide)) (by decide), fun i s h _ => m48 (by omega) (by decide), fun i s h _ => m8 (by omega) (by decide), fun _ _ h0 _ _ => inR_nI (Nat.lt_of_lt_of_le h0 (by decide)) (by decide), fun i s h _ => m6 (by omega) (by decide)⟩
  · unfold FI_X12_starts F_X12_starts_l194 S5_X12_starts F_X12_starts_l163 F_X12_starts_l94 S4_X12_starts F_X12_starts_l56
    refine itN_inv (P := FrM I) ?_ (fun i s _ h => (h.u (by decide)).u (by decide))
    refine itN_inv (P := FrM I) ?_ (fun i s _ h => h.u (by decide))
    refine itN_inv (P := FrM I) ?_ (fun i s _ h => ((h.u (by decide)).u (by decide)).u (by decide))
    refine itN_inv (P := FrM I) ?_ (fun i s _ h => (h.u (by decide)).u (by decide))
    exact ((((((FrM.rf I).u (by decide)).u (by decide)).u (by decide)).u (by decide)).u (by decide)).u (by decide)
theorem costNow_H {I : SI} {J : SJ} (hS : SM I) : H_X12_costNow I J := by
  unfold H_X12_costNow
  exact ⟨fun _ _ h0 _ _ => isDone_H r0 (hS.s h0), fun _ _ h0 _ _ _ => (hS.s h0).le (by decide), fun _ _ h0 _ _ _ h2 _ => wayIn_H r0 (hS.s h0) (hS.m h2), fun _ _ _ _ _ _ h2 _ _ => hS.m h2⟩
set_option maxHeartbeats 1000000 in
theorem say_H {tp : SI} : ∀ (k : Nat) (a0 : Int32) (I : SI) (J : SJ), (MW tp) I → inR a0 7 → 6 - a0.toNatClampNeg < k → HG_sayings k 0 a0 I J ∧ (MW tp) (RG_sayings k 0 a0 I J).1 := by
  intro k
  induction k with
  | zero => intro _ _ _ _ _ h; exact absurd h (Nat.not_lt_zero _)
  | succ k ih =>
    intro a0 I J h ha hk
    have c6 : ¬ I 132 0 ≤ a0 → inR a0 6 := fun c => cn_lt (N := 6) (by decide) ha h.1.1 c
    have L1 := whc (f := B_X12_sayings_w72 (RG_sayings k) a0 I J) (x0 := u2 I 130 62 (F_X12_costNow I J)) 6 (by decide) (MW tp) (fun r => (MW tp) r.2) (h.u rfl) (fun e x s' he hP hf => by
      unfold B_X12_sayings_w72 at hf
      by_cases c1 : x 132 0 ≤ e
      · rw [if_pos c1] at hf; cases hf
      · rw [if_neg c1] at hf
        cases hf
        exact ⟨cn_lt (N := 6) (by decide) he hP.1.1 c1, rfl, hP.u rfl⟩) (fun e x r he hP hf => by
      unfold B_X12_sayings_w72 at hf
      by_cases c1 : x 132 0 ≤ e
      · rw [if_pos c1] at hf; cases hf; exact hP
      · rw [if_neg c1] at hf; cases hf)
    have L_2 := whc (f := B_X12_sayings_w72_2 (RG_sayings k) a0 I J) (x0 := u2 I 130 62 (F_X12_costNow I J)) 6 (by decide) (MW tp) (fun r => (MW tp) r.2) (h.u rfl) (fun e x s' he hP hf => by
      unfold B_X12_sayings_w72_2 at hf
      by_cases c1 : x 132 0 ≤ e
      · rw [if_pos c1] at hf; cases hf
      · rw [if_neg c1] at hf
        cases hf
        exact ⟨cn_lt (N := 6) (by decide) he hP.1.1 c1, rfl, hP.u rfl⟩) (fun e x r he hP hf => by
      unfold B_X12_sayings_w72_2 at hf
      by_cases c1 : x 132 0 ≤ e
      · rw [if_pos c1] at hf; cases hf; exact hP
      · rw [if_neg c1] at hf; cases hf)
    have M : ¬ I 132 0 ≤ a0 → (itW (B_X12_sayings_w12 (RG_sayings k) a0 I J) 800 (0, I, J)).isSome = true ∧ (∀ n s, wN (B_X12_sayings_w12 (RG_sayings k) a0 I J) n (0, I, J) = some s → inR s.1 (6 + 1) ∧ (MW tp) s.2.1) ∧ ∀ d, (MW tp) ((itW (B_X12_sayings_w12 (RG_sayings k) a0 I J) 800 (0, I, J)).getD d).2.1 := fun c => by
      have q1 := (cn_s (N := 6) (by decide) (c6 c))
      have q2 := (c6 c).2
      refine whc (f := B_X12_sayings_w12 (RG_sayings k) a0 I J) (x0 := (I, J)) 6 (by decide) (fun x => (MW tp) x.1) (fun r => (MW tp) r.2.1) h (fun e x s' he hP hf => ?_) (fun e x r he hP hf => ?_)
      · unfold B_X12_sayings_w12 at hf
        by_cases c1 : x.1 135 a0.toNatClampNeg ≤ e
        · rw [if_pos c1] at hf; cases hf
        · rw [if_neg c1] at hf
          cases hf
          exact ⟨cn_lt (N := 6) (by decide) he (hP.1.2.2.2.2.2.2.2.1 _ (Nat.lt_of_lt_of_le (c6 c).2 (by decide))) c1, rfl, (ih (a0 + 1) _ x.2 (hP.u rfl) q1.1 (by omega)).2⟩
      · unfold B_X12_sayings_w12 at hf
        by_cases c1 : x.1 135 a0.toNatClampNeg ≤ e
        · rw [if_pos c1] at hf; cases hf; exact hP
        · rw [if_neg c1] at hf; cases hf
    refine ⟨?_, ?_⟩
    · show H_X12_sayings (HG_sayings k) (RG_sayings k) a0 I J
      unfold H_X12_sayings
      exact ⟨fun _ => costNow_H h.1, fun _ _ => L1.1, fun _ _ _ _ h2 h3 => cn_lt (N := 6) (by decide) (L1.2.1 _ _ h2).1 (L1.2.1 _ _ h2).2.1.1 h3, fun _ _ _ => L_2.1, fun _ _ _ _ _ h3 h4 => cn_lt (N := 6) (by decide) (L_2.2.1 _ _ h3).1 (L_2.2.1 _ _ h3).2.1.1 h4, fun h0 => (M h0).1, fun h0 _ _ _ => (c6 h0).le (by decide), fun h0 _ _ _ _ => c6 h0, fun h0 _ s12 h1 _ => (ih (a0 + 1) _ s12.2.2 (((M h0).2.1 _ _ h1).2.u rfl) (cn_s (N := 6) (by decide) (c6 h0)).1 (by have q1 := (cn_s (N := 6) (by decide) (c6 h0)).2; have q2 := (c6 h0).2; omega)).1⟩
    · show (MW tp) (FI_X12_sayings (RG_sayings k) a0 I J)
      unfold FI_X12_sayings
      by_cases c : I 132 0 ≤ a0
      · rw [if_pos c]
        split
        · exact L1.2.2 _
        · split
          · exact L_2.2.2 _
          · exact h
      · rw [if_neg c]
        exact (M c).2.2 _
theorem m_least {tp : SI} {a0 : Int32} {I : SI} {J : SJ} (h : (MW tp) I) : H_X12_least a0 I J ∧ (MW tp) (FI_X12_least a0 I J) := by
  have h' := h.u0
  have sy := say_H 8 0 (u2 (u2 I 130 0 0) 130 62 (-1)) J (h'.u rfl) ⟨rfl, by decide⟩ (by decide)
  refine ⟨?_, ?_⟩
  · unfold H_X12_least
    exact ⟨fun _ _ => sy.1, fun h0 _ _ h3 => in_lt (N := 6) (by decide) h0 sy.2.1.1 h3⟩
  · unfold FI_X12_least
    repeat' split
    all_goals first
      | exact h'
      | exact sy.2
theorem trouble_H {f : Nat} {I : SI} {J : SJ} (hf : f < 23) : H_X12_trouble (nI f) I J := by
  unfold H_X12_trouble
  exact ⟨inR_nI hf (by decide), sumH hf⟩
def RW (tp : SI) (I : SI) : Prop := (MW tp) I ∧ inR (I 130 66) 5
theorem RW.fr {tp : SI} {I I1 : SI} (h : (RW tp) I) (f : FrM I I1) : (RW tp) I1 := ⟨h.1.fr f, by rw [f 130 66 (by omega) (by omega)]; exact h.2⟩
theorem RW.u {tp : SI} {I : SI} {a b : Nat} {v : Int32} (h : (RW tp) I) (q : dpM a b = false) (q2 : ¬ (a = 130 ∧ b = 66)) : (RW tp) (u2 I a b v) := ⟨h.1.u q, by rw [u2_n _ _ (fun z => q2 ⟨z.1.symm, z.2.symm⟩)]; exact h.2⟩
theorem ix8' {x : Int32} (h : inR x 8) : inR ((8 : Int32) + x) 184 := by
  obtain ⟨i, hi, rfl⟩ := h.n
  rw [show (8 : Int32) = nI 8 from rfl, nI_add]
  exact inR_nI (by omega) (by decide)
theorem ix6' {x : Int32} (h : inR x 6) : inR ((6 : Int32) + x) 138 := by
  obtain ⟨i, hi, rfl⟩ := h.n
  rw [show (6 : Int32) = nI 6 from rfl, nI_add]
  exact inR_nI (by omega) (by decide)
theorem ix4' {x : Int32} (h : inR x 4) : inR ((4 : Int32) + x) 92 := by
  obtain ⟨i, hi, rfl⟩ := h.n
  rw [show (4 : Int32) = nI 4 from rfl, nI_add]
  exact inR_nI (by omega) (by decide)
theorem RW.p {tp : SI} {I : SI} {x : Nat} {v : Int32} (h : (RW tp) I) (hv : inR v 8) : (RW tp) (u2 I 171 x v) := ⟨h.1.f1 hv, by rw [u2_n _ _ (show ¬ ((130 : Nat) = 171 ∧ (66 : Nat) = x) from fun z => absurd z.1 (by decide))]; exact h.2⟩
set_option maxHeartbeats 1000000 in
theorem rows_H {tp : SI} : ∀ (k : Nat) (a0 a1 : Int32) (I : SI) (J : SJ), (RW tp) I → inR a0 5 → 4 - a0.toNatClampNeg < k → HG_rows k 0 a0 a1 I J ∧ (RW tp) (RG_rows k 0 a0 a1 I J).1 := by
  intro k
  induction k with
  | zero => intro _ _ _ _ _ _ h; exact absurd h (Nat.not_lt_zero _)
  | succ k ih =>
    intro a0 a1 I J h ha hk
    have c4 : ¬ I 130 66 ≤ a0 → inR a0 4 := fun c => cn_lt (N := 4) (by decide) ha h.2 c
    have L0 := whc (f := B_X12_rows_w69 (RG_rows k) a0 a1 I J) (x0 := FI_X12_copies 1 0 I J) 4 (by decide) (RW tp) (fun r => (RW tp) r.2) (h.fr (copies_F _ _ _ _)) (fun e x s' he hP hf => by
      unfold B_X12_rows_w69 at hf
      by_cases c1 : x 130 66 ≤ e
      · rw [if_pos c1] at hf; cases hf
      · rw [if_neg c1] at hf
        cases hf
        exact ⟨cn_lt (N := 4) (by decide) he hP.2 c1, rfl, hP.u rfl (by omega)⟩) (fun e x r he hP hf => by
      unfold B_X12_rows_w69 at hf
      by_cases c1 : x 130 66 ≤ e
      · rw [if_pos c1] at hf; cases hf; exact hP
      · rw [if_neg c1] at hf; cases hf)
    have f0 : (RW tp) (F_X12_rows_w69 (RG_rows k) a0 a1 I J (0, FI_X12_copies 1 0 I J)).2 := L0.2.2 _
    have f1 : (RW tp) (S1_X12_rows (RG_rows k) a0 a1 I J) := f0.fr (goesOn_H (n := 20) (J := J) f0.1.1).2
    have L1 := whc (f := B_X12_rows_w148 (RG_rows k) a0 a1 I J) (x0 := u2 (S1_X12_rows (RG_rows k) a0 a1 I J) 130 67 (S3_X12_rows (RG_rows k) a0 a1 I J)) 4 (by decide) (RW tp) (fun r => (RW tp) r.2) (f1.u rfl (by omega)) (fun e x s' he hP hf => by
      unfold B_X12_rows_w148 at hf
      by_cases c1 : x 130 66 ≤ e
      · rw [if_pos c1] at hf; cases hf
      · rw [if_neg c1] at hf
        cases hf
        exact ⟨cn_lt (N := 4) (by decide) he hP.2 c1, rfl, hP.u rfl (by omega)⟩) (fun e x r he hP hf => by
      unfold B_X12_rows_w148 at hf
      by_cases c1 : x 130 66 ≤ e
      · rw [if_pos c1] at hf; cases hf; exact hP
      · rw [if_neg c1] at hf; cases hf)
    have L_2 := whc (f := B_X12_rows_w148_2 (RG_rows k) a0 a1 I J) (x0 := u2 (S1_X12_rows (RG_rows k) a0 a1 I J) 130 67 (S3_X12_rows (RG_rows k) a0 a1 I J)) 4 (by decide) (RW tp) (fun r => (RW tp) r.2) (f1.u rfl (by omega)) (fun e x s' he hP hf => by
      unfold B_X12_rows_w148_2 at hf
      by_cases c1 : x 130 66 ≤ e
      · rw [if_pos c1] at hf; cases hf
      · rw [if_neg c1] at hf
        cases hf
        exact ⟨cn_lt (N := 4) (by decide) he hP.2 c1, rfl, hP.u rfl (by omega)⟩) (fun e x r he hP hf => by
      unfold B_X12_rows_w148_2 at hf
      by_cases c1 : x 130 66 ≤ e
      · rw [if_pos c1] at hf; cases hf; exact hP
      · rw [if_neg c1] at hf; cases hf)
    have st : ¬ I 130 66 ≤ a0 → ∀ (e : Int32) (x : SI), inR e (4 + 1) → (RW tp) x → ¬ x 130 66 ≤ e → (RW tp) (u2 x 171 a0.toNatClampNeg (x 170 e.toNatClampNeg)) := fun _ e x he hx hn => hx.p (hx.1.gf0 _ (cn_lt (N := 4) (by decide) he hx.2 hn).2)
    have M : ¬ I 130 66 ≤ a0 → (itW (B_X12_rows_w10 (RG_rows k) a0 a1 I J) 800 (0, I, J)).isSome = true ∧ (∀ n s, wN (B_X12_rows_w10 (RG_rows k) a0 a1 I J) n (0, I, J) = some s → inR s.1 (4 + 1) ∧ (RW tp) s.2.1) ∧ ∀ d, (RW tp) ((itW (B_X12_rows_w10 (RG_rows k) a0 a1 I J) 800 (0, I, J)).getD d).2.1 := fun c => by
      have q1 := (cn_s (N := 4) (by decide) (c4 c))
      have q2 := (c4 c).2
      refine whc (f := B_X12_rows_w10 (RG_rows k) a0 a1 I J) (x0 := (I, J)) 4 (by decide) (fun x => (RW tp) x.1) (fun r => (RW tp) r.2.1) h (fun e x s' he hP hf => ?_) (fun e x r he hP hf => ?_)
      · unfold B_X12_rows_w10 at hf
        by_cases c1 : x.1 130 66 ≤ e
        · rw [if_pos c1] at hf; cases hf
        · rw [if_neg c1] at hf
          have ce := cn_lt (N := 4) (by decide) he hP.2 c1
          split at hf
          · cases hf
            exact ⟨ce, rfl, hP⟩
          · cases hf
            exact ⟨ce, rfl, (ih (a0 + 1) _ _ x.2 (st c e x.1 he hP c1) q1.1 (by omega)).2⟩
      · unfold B_X12_rows_w10 at hf
        by_cases c1 : x.1 130 66 ≤ e
        · rw [if_pos c1] at hf; cases hf; exact hP
        · rw [if_neg c1] at hf
          split at hf <;> cases hf
    refine ⟨?_, ?_⟩
    · show H_X12_rows (HG_rows k) (RG_rows k) a0 a1 I J
      unfold H_X12_rows
      exact ⟨fun _ => copies_H r1 r0 _ _, fun _ => L0.1, fun _ => (goesOn_H f0.1.1).1, fun _ => trouble_H (f := 1) (by decide), fun _ => trouble_H (f := 0) (by decide), fun _ _ => L1.1, fun _ _ _ _ h2 h3 => cn_lt (N := 4) (by decide) (L1.2.1 _ _ h2).1 (L1.2.1 _ _ h2).2.2 h3, fun _ _ _ => L_2.1, fun _ _ _ _ _ h3 h4 => cn_lt (N := 4) (by decide) (L_2.2.1 _ _ h3).1 (L_2.2.1 _ _ h3).2.2 h4, fun _ _ _ h1 h2 => cn_lt (N := 4) (by decide) (L0.2.1 _ _ h1).1 (L0.2.1 _ _ h1).2.2 h2, fun _ _ _ h1 h2 => ix8' ((L0.2.1 _ _ h1).2.1.gf1 _ (cn_lt (N := 4) (by decide) (L0.2.1 _ _ h1).1 (L0.2.1 _ _ h1).2.2 h2).2), fun h0 => (M h0).1, fun h0 _ _ h1 h2 _ => cn_lt (N := 4) (by decide) ((M h0).2.1 _ _ h1).1 ((M h0).2.1 _ _ h1).2.2 h2, fun h0 _ _ _ _ _ => c4 h0, fun h0 _ s10 h1 h2 _ => (ih (a0 + 1) _ _ s10.2.2 (st h0 _ _ ((M h0).2.1 _ _ h1).1 ((M h0).2.1 _ _ h1).2 h2) (cn_s (N := 4) (by decide) (c4 h0)).1 (by have q1 := (cn_s (N := 4) (by decide) (c4 h0)).2; have q2 := (c4 h0).2; omega)).1⟩
    · show (RW tp) (FI_X12_rows (RG_rows k) a0 a1 I J)
      unfold FI_X12_rows
      by_cases c : I 130 66 ≤ a0
      · rw [if_pos c]
        split
        · exact L1.2.2 _
        · split
          · exact L_2.2.2 _
          · exact f1
      · rw [if_neg c]
        exact (M c).2.2 _
theorem MW.pf {tp : SI} {I : SI} {x : Nat} {v : Int32} (h : (RW tp) I) (hv : inR v 8) : (RW tp) (u2 I 170 x v) := ⟨h.1.f0 hv, by rw [u2_n _ _ (show ¬ ((130 : Nat) = 170 ∧ (66 : Nat) = x) from fun z => absurd z.1 (by decide))]; exact h.2⟩
theorem order_w {tp : SI} {a0 : Int32} {I : SI} {J : SJ} (h : (MW tp) I) : (itW (B_X12_order_w23 a0 I J) 800 (0, u2 (u2 I 130 0 0) 130 66 0)).isSome = true ∧ (∀ n s, wN (B_X12_order_w23 a0 I J) n (0, u2 (u2 I 130 0 0) 130 66 0) = some s → inR s.1 (8 + 1) ∧ (RW tp) s.2) ∧ ∀ d, (RW tp) ((itW (B_X12_order_w23 a0 I J) 800 (0, u2 (u2 I 130 0 0) 130 66 0)).getD d).2 := by
  have hz : (RW tp) (u2 (u2 I 130 0 0) 130 66 0) := ⟨h.u0.u rfl, by rw [u2_s]; exact ⟨rfl, by decide⟩⟩
  refine whc (f := B_X12_order_w23 a0 I J) 8 (by decide) (RW tp) (fun r => (RW tp) r.2) hz (fun e x s' he hP hf => ?_) (fun e x r he hP hf => ?_)
  · unfold B_X12_order_w23 at hf
    by_cases c1 : x 132 1 ≤ e
    · rw [if_pos c1] at hf; cases hf
    · rw [if_neg c1] at hf
      have ce := cn_lt (N := 8) (by decide) he hP.1.1.2.1 c1
      by_cases c2 : (4 : Int32) ≤ x 130 66
      · rw [if_pos c2] at hf; cases hf
      · rw [if_neg c2] at hf
        split at hf
        · cases hf
          refine ⟨ce, rfl, ?_⟩
          have q : inR (x 130 66) 4 := cn_lt (N := 4) (by decide) hP.2 (z := 4) ⟨by decide, by decide⟩ c2
          unfold S2_X12_order
          refine ⟨(MW.pf hP ce).1.u rfl, ?_⟩
          show inR ((u2 (u2 x 170 (x 130 66).toNatClampNeg e) 130 66 (u2 x 170 (x 130 66).toNatClampNeg e 130 66 + 1)) 130 66) 5
          rw [u2_s, u2_n _ _ (show ¬ ((130 : Nat) = 170 ∧ (66 : Nat) = _) from fun z => absurd z.1 (by decide))]
          exact (cn_s (N := 4) (by decide) q).1
        · cases hf
          exact ⟨ce, rfl, hP⟩
  · unfold B_X12_order_w23 at hf
    repeat' split at hf
    all_goals cases hf
    all_goals exact hP
theorem m_order {tp : SI} {a0 : Int32} {I : SI} {J : SJ} (h : (MW tp) I) : H_X12_order a0 I J ∧ (MW tp) (FI_X12_order a0 I J) := by
  have h' := h.u0
  have ow := order_w (a0 := a0) (J := J) h
  have s1 : (RW tp) (S1_X12_order a0 I J) := by
    unfold S1_X12_order F_X12_order_w23
    exact (ow.2.2 _).u rfl (by omega)
  have rw_ := rows_H 6 0 0 (S1_X12_order a0 I J) J s1 ⟨rfl, by decide⟩ (by decide)
  refine ⟨?_, ?_⟩
  · unfold H_X12_order
    exact ⟨fun _ _ => ow.1, fun _ _ => rw_.1, fun h0 _ _ h3 => in_lt (N := 4) (by decide) h0 rw_.2.2 h3, fun _ _ _ _ h2 h3 _ => isDone_H r0 (cn_lt (N := 8) (by decide) (ow.2.1 _ _ h2).1 (ow.2.1 _ _ h2).2.1.1.2.1 h3), fun _ _ _ _ h2 _ h4 _ => cn_lt (N := 4) (by decide) (ow.2.1 _ _ h2).2.2 (z := 4) ⟨by decide, by decide⟩ h4⟩
  · unfold FI_X12_order
    repeat' split
    all_goals first
      | exact h'
      | exact rw_.2.1
theorem bribe_i {tp : SI} {a0 : Int32} {I : SI} {J : SJ} (h' : (MW tp) (u2 I 130 0 0)) : (∀ m s, itE (B_X12_bribe_l17_4 a0 I J) m 0 (u2 I 130 0 0, J) = .inl s → FrM (u2 I 130 0 0) s.1) ∧ ∀ m r, itE (B_X12_bribe_l17_4 a0 I J) m 0 (u2 I 130 0 0, J) = .inr r → FrM (u2 I 130 0 0) r.2.1 := by
  have step : ∀ (i : Nat) (s : SI × SJ), FrM (u2 I 130 0 0) s.1 → FrM (u2 I 130 0 0) (FI_X12_goesOn 20 (S1_X12_bribe a0 I J i s) s.2) := fun i s hp => by
    have f1 : FrM (u2 I 130 0 0) (S1_X12_bribe a0 I J i s) := (hp.tr (copies_F _ _ _ _)).u (by decide)
    exact f1.tr (goesOn_H (J := s.2) (h'.1.fr f1)).2
  refine itE_inv (f := B_X12_bribe_l17_4 a0 I J) (fun s => FrM (u2 I 130 0 0) s.1) (fun r => FrM (u2 I 130 0 0) r.2.1) (FrM.rf _) (fun i s s' hp hf => ?_) (fun i s r hp hf => ?_)
  · unfold B_X12_bribe_l17_4 at hf
    split at hf
    · cases hf
    · cases hf; exact step i s hp
  · unfold B_X12_bribe_l17_4 at hf
    split at hf
    · cases hf; exact step i s hp
    · cases hf
theorem m_bribe {tp : SI} {a0 : Int32} {I : SI} {J : SJ} (h : (MW tp) I) : H_X12_bribe a0 I J ∧ (MW tp) (FI_X12_bribe a0 I J) := by
  have h' := h.u0
  have L := bribe_i (a0 := a0) (J := J) h'
  refine ⟨?_, ?_⟩
  · unfold H_X12_bribe
    exact ⟨fun _ _ _ _ _ => copies_H r1 r0 _ _, fun h0 _ _ _ _ => ix4' (isParty_in h'.1 h0), fun _ i17 s17 _ h2 => (goesOn_H (h'.1.fr (((L.1 _ _ h2).tr (copies_F 1 0 s17.1 s17.2)).u (v := nI i17) (by decide) : FrM (u2 I 130 0 0) (S1_X12_bribe a0 I J i17 s17)))).1, fun h0 _ _ _ _ => (isParty_in h'.1 h0).le (by decide), fun h0 i17 s17 _ h2 => ix6' (((h'.1.fr (((L.1 _ _ h2).tr (copies_F 1 0 s17.1 s17.2)).u (v := nI i17) (by decide) : FrM (u2 I 130 0 0) (S1_X12_bribe a0 I J i17 s17))).fr (goesOn_H (J := s17.2) (h'.1.fr (((L.1 _ _ h2).tr (copies_F 1 0 s17.1 s17.2)).u (v := nI i17) (by decide) : FrM (u2 I 130 0 0) (S1_X12_bribe a0 I J i17 s17)))).2).pm (isParty_in h'.1 h0))⟩
  · unfold FI_X12_bribe
    split
    · exact h'
    · cases q : F_X12_bribe_l17_4 a0 I J (u2 I 130 0 0, J) with
      | inl s => exact h'.fr (L.1 _ _ q)
      | inr r => exact h'.fr (L.2 _ _ q)
theorem chance_i {tp : SI} {a0 a1 a2 : Int32} {I I0 : SI} {J : SJ} (h : (MW tp) I0) : ∀ n, (MW tp) (itN (B_X12_chance_l41 a0 a1 a2 I J) n (a0, 0, I0, J)).2.2.1 := by
  intro n
  refine itN_inv (P := fun (s : Int32 × Int32 × SI × SJ) => (MW tp) s.2.2.1) h (fun i s _ hs => ?_)
  have hE : (MW tp) (u2 (FI_X12_copies 1 0 s.2.2.1 s.2.2.2) 155 1 s.1) := (hs.fr (copies_F _ _ _ _)).u rfl
  have e1 : (MW tp) (S1_X12_chance a0 a1 a2 I J i s) := hE.fr (days_H (f := 1) (b := 1) (g := B_X12_chance_l65 a0 a1 a2 I J i s) (J := s.2.2.2) (fun _ _ => rfl) hE.1 r1 _)
  unfold B_X12_chance_l41
  split <;> exact e1
theorem m_chance {tp : SI} {a0 a1 a2 : Int32} {I : SI} {J : SJ} (h : (MW tp) I) : H_X12_chance a0 a1 a2 I J ∧ (MW tp) (FI_X12_chance a0 a1 a2 I J) := by
  have h' := h.u0
  refine ⟨?_, ?_⟩
  · unfold H_X12_chance
    exact ⟨fun _ _ _ _ _ _ _ _ _ => copies_H r1 r0 _ _, fun _ _ _ _ _ i41 _ _ h6 => (by rw [h6]; exact clashesAll_H ((((chance_i (a0 := a0) (a1 := a1) (a2 := a2) (I := I) (J := J) h' i41).fr (copies_F 1 0 _ (itN (B_X12_chance_l41 a0 a1 a2 I J) i41 (a0, 0, u2 I 130 0 0, J)).2.2.2)).u (a := 155) (b := 1) (v := (itN (B_X12_chance_l41 a0 a1 a2 I J) i41 (a0, 0, u2 I 130 0 0, J)).1) rfl).fr (days_H (f := 1) (b := 1) (g := B_X12_chance_l65 a0 a1 a2 I J i41 _) (fun _ _ => rfl) (((chance_i (a0 := a0) (a1 := a1) (a2 := a2) (I := I) (J := J) h' i41).fr (copies_F 1 0 _ (itN (B_X12_chance_l41 a0 a1 a2 I J) i41 (a0, 0, u2 I 130 0 0, J)).2.2.2)).u (a := 155) (b := 1) (v := (itN (B_X12_chance_l41 a0 a1 a2 I J) i41 (a0, 0, u2 I 130 0 0, J)).1) rfl).1 r1 _)).1 r1), fun _ _ _ _ _ i41 _ _ h6 _ _ _ h8 => (by rw [h6] at h8; exact daysH_H (f := 1) (b := 1) (g := B_X12_chance_l65 a0 a1 a2 I J i41 _) (fun _ _ => rfl) (((chance_i (a0 := a0) (a1 := a1) (a2 := a2) (I := I) (J := J) h' i41).fr (copies_F 1 0 _ (itN (B_X12_chance_l41 a0 a1 a2 I J) i41 (a0, 0, u2 I 130 0 0, J)).2.2.2)).u (a := 155) (b := 1) (v := (itN (B_X12_chance_l41 a0 a1 a2 I J) i41 (a0, 0, u2 I 130 0 0, J)).1) rfl).1 r1 h8)⟩
  · unfold FI_X12_chance
    repeat' split
    all_goals first
      | exact h'
      | exact chance_i h' 10
theorem see_n {tp : SI} {I : SI} (h : (MW tp) I) (h0 : ¬ I 130 68 = 24) : inR (I 130 68) 24 := by
  obtain ⟨i, hi, e⟩ := h.gs.n
  have : i ≠ 24 := fun q => h0 (by rw [e, q]; rfl)
  rw [e]
  exact inR_nI (by omega) (by decide)
theorem u68 {I : SI} {a b : Nat} {v : Int32} (h : a ≠ 130) : u2 I a b v 130 68 = I 130 68 := u2_n _ _ (fun z => h z.1.symm)
theorem m_see {tp : SI} {a0 a1 a2 : Int32} {I : SI} {J : SJ} (h : (MW tp) I) : H_X12_see a0 a1 a2 I J ∧ MW (FI_X12_see a0 a1 a2 I J) (FI_X12_see a0 a1 a2 I J) := by
  have h' := h.u0
  refine ⟨?_, ?_⟩
  · unfold H_X12_see
    exact ⟨fun _ _ _ h3 => see_n h' h3, fun _ _ _ h3 => (by rw [u68 (by decide)]; exact see_n h' h3), fun _ _ _ h3 => (by unfold S1_X12_see; rw [u68 (by decide), u68 (by decide)]; exact see_n h' h3), fun _ _ _ h3 => (by unfold S2_X12_see S1_X12_see; rw [u68 (by decide), u68 (by decide), u68 (by decide)]; exact see_n h' h3)⟩
  · unfold FI_X12_see
    by_cases c0 : a0 < 1
    · rw [if_pos c0]; exact h'.self
    · rw [if_neg c0]
      by_cases c1 : (40 : Int32) < a0
      · rw [if_pos c1]; exact h'.self
      · rw [if_neg c1]
        by_cases c2 : F_X12_isMark a1 (u2 I 130 0 0) J = 0
        · rw [if_pos c2]; exact h'.self
        · rw [if_neg c2]
          by_cases c3 : u2 I 130 0 0 130 68 = 24
          · rw [if_pos c3]; exact h'.self
          · rw [if_neg c3]
            have ha : inR a0 41 := in_of (len := 41) (fun q => c0 (Int32.lt_of_lt_of_le q (by decide))) (fun q => c1 (Int32.lt_of_lt_of_le (show (40 : Int32) < nI 41 by decide) q)) (by decide)
            have k3 : MW (S3_X12_see a0 a1 a2 I J) (S3_X12_see a0 a1 a2 I J) := by
              unfold S3_X12_see S2_X12_see S1_X12_see
              exact (((h'.r3 ha).r4 (isMark_in h'.1 c2)).r5).r6 (Or.inl rfl)
            have e3 : S3_X12_see a0 a1 a2 I J 130 68 = u2 I 130 0 0 130 68 := by
              unfold S3_X12_see S2_X12_see S1_X12_see
              rw [u68 (by decide), u68 (by decide), u68 (by decide), u68 (by decide)]
            unfold S4_X12_see
            refine k3.s ?_
            rw [e3]
            exact (cn_s (N := 24) (by decide) (see_n h' c3)).1
theorem m_out {tp : SI} {a0 : Int32} {I : SI} {J : SJ} (h : (MW tp) I) : H_X12_out a0 I J ∧ MW (FI_X12_out a0 I J) (FI_X12_out a0 I J) := by
  have h' := h.u0
  refine ⟨?_, ?_⟩
  · unfold H_X12_out
    exact fun _ _ h2 => see_n h' h2
  · unfold FI_X12_out
    by_cases c0 : a0 < 0
    · rw [if_pos c0]; exact h'.self
    · rw [if_neg c0]
      by_cases c1 : u2 I 130 0 0 130 68 ≤ a0
      · rw [if_pos c1]; exact h'.self
      · rw [if_neg c1]
        by_cases c3 : u2 I 130 0 0 130 68 = 24
        · rw [if_pos c3]; exact h'.self
        · rw [if_neg c3]
          unfold S1_X12_out
          refine (h'.r6 (Or.inr (in_lt (N := 24) (by decide) c0 h'.gs c1))).s ?_
          rw [u68 (by decide)]
          exact (cn_s (N := 24) (by decide) (see_n h' c3)).1
theorem m_known {tp : SI} {a0 : Int32} {I : SI} {J : SJ} (h : (MW tp) I) : MW (FI_X12_known a0 I J) (FI_X12_known a0 I J) := by
  have h' := h.u0
  unfold FI_X12_known
  by_cases c0 : a0 < -1
  · rw [if_pos c0]; exact h'.self
  · rw [if_neg c0]
    by_cases c1 : a0 ≤ u2 I 130 0 0 130 68
    · rw [if_pos c1]
      refine h'.k ?_
      by_cases c2 : a0 < 0
      · refine Or.inl (Int32.le_antisymm ?_ (Int32.not_lt.mp c0))
        have q := Int32.lt_iff_toInt_lt.mp c2
        refine Int32.le_iff_toInt_le.mpr ?_
        have e0 : (0 : Int32).toInt = 0 := by decide
        have e1 : (-1 : Int32).toInt = -1 := by decide
        rw [e0] at q
        rw [e1]
        omega
      · refine Or.inr ?_
        obtain ⟨i, hi, e⟩ := h'.gs.n
        rw [e] at c1
        exact (in_le (N := i) (by omega) c2 c1).le (by omega)
    · rw [if_neg c1]; exact h'.self
theorem km_in {tp : SI} {I : SI} {J : SJ} (h : (MW tp) I) : inR (F_X12_knownMany I J) 25 := by
  unfold F_X12_knownMany
  by_cases c : I 130 69 = -1
  · rw [if_pos c]; exact h.gs
  · rw [if_neg c]; exact h.gk.resolve_left c
theorem fits_H {tp : SI} {a0 : Int32} {I : SI} {J : SJ} (h : (MW tp) I) : H_X12_fits a0 I J := by
  unfold H_X12_fits
  exact ⟨fun _ _ h0 _ => in_it (N := 24) (by decide) (km_in h) h0, fun _ _ h0 _ _ => in_it (N := 24) (by decide) (km_in h) h0, fun _ _ h0 _ _ _ => in_it (N := 24) (by decide) (km_in h) h0, fun _ _ h0 _ _ _ _ => in_it (N := 24) (by decide) (km_in h) h0, fun _ _ h0 _ _ _ _ => ix6' (h.gr4 _ (in_it (N := 24) (by decide) (km_in h) h0).2)⟩
theorem fitsStrike_H {tp : SI} {a0 : Int32} {I : SI} {J : SJ} (h : (MW tp) I) (ha : inR a0 41) : H_X12_fitsStrike a0 I J ∧ (MW tp) (FI_X12_fitsStrike a0 I J) := by
  have L := whl (f := B_X12_fitsStrike_w7 a0 I J) (s0 := (1, FI_X12_starts 1 I J, J)) (fun s => inR s.1 42 ∧ (MW tp) s.2.1) (fun r => (MW tp) (match r with | .inl z => z.2.1 | .inr z => z.2.1)) (fun s => 42 - s.1.toNatClampNeg) ⟨⟨rfl, (by decide : (1 : Int32).toNatClampNeg < 42)⟩, h.fr (starts_H (J := J) r1).2⟩ (by show 42 - _ < 800; omega) (fun s s' hp hf => ?_) (fun s r hp hf => ?_)
  · refine ⟨?_, ?_⟩
    · unfold H_X12_fitsStrike
      exact ⟨(starts_H r1).1, L.1, fun _ _ h0 _ => (passes_H (L.2.1 _ _ h0).2.1 r1).1, fun _ _ h0 _ => fits_H ((L.2.1 _ _ h0).2.fr (passes_H (L.2.1 _ _ h0).2.1 r1).2)⟩
    · have q := L.2.2 (.inl (1, FI_X12_starts 1 I J, J))
      unfold FI_X12_fitsStrike F_X12_fitsStrike_w7
      exact q
  · unfold B_X12_fitsStrike_w7 at hf
    by_cases c1 : a0 < s.1
    · rw [if_pos c1] at hf; cases hf
    · rw [if_neg c1] at hf
      have p := passes_H (a1 := 0) (J := s.2.2) hp.2.1 r1
      split at hf
      · cases hf
      · cases hf
        have q : inR s.1 41 := by
          obtain ⟨i, hi, e⟩ := hp.1.n
          obtain ⟨j, hj, e2⟩ := ha.n
          have : i ≤ j := by
            by_cases z : i ≤ j
            · exact z
            · exact absurd (show a0 < s.1 by rw [e, e2]; exact nI_lt (by omega) (by omega)) c1
          rw [e]
          exact inR_nI (by omega) (by decide)
        have k := cn_s (N := 41) (by decide) q
        have := q.2
        exact ⟨⟨k.1, hp.2.fr p.2⟩, by show 42 - (s.1 + 1).toNatClampNeg < 42 - s.1.toNatClampNeg; omega⟩
  · unfold B_X12_fitsStrike_w7 at hf
    by_cases c1 : a0 < s.1
    · rw [if_pos c1] at hf; cases hf; exact hp.2
    · rw [if_neg c1] at hf
      have p := passes_H (a1 := 0) (J := s.2.2) hp.2.1 r1
      split at hf
      · cases hf; exact hp.2.fr p.2
      · cases hf
theorem max41 {a b : Int32} (h1 : inR a 41) (h2 : inR b 41) : inR (maxI a b) 41 := by
  unfold maxI
  split
  · exact h2
  · exact h1
theorem sh_19 {tp : SI} {a0 : Int32} {I : SI} {J : SJ} (h' : (MW tp) (u2 I 130 0 0)) : (itW (B_X12_struckHow_w19 a0 I J) 800 (0, u2 I 130 0 0)).isSome = true ∧ (∀ n s, wN (B_X12_struckHow_w19 a0 I J) n (0, u2 I 130 0 0) = some s → inR s.1 (24 + 1) ∧ (MW tp) s.2) ∧ ∀ d, (MW tp) ((itW (B_X12_struckHow_w19 a0 I J) 800 (0, u2 I 130 0 0)).getD d).2 := by
  refine whc (f := B_X12_struckHow_w19 a0 I J) 24 (by decide) (MW tp) (fun r => (MW tp) r.2) h' (fun e x s' he hP hf => ?_) (fun e x r he hP hf => ?_)
  · unfold B_X12_struckHow_w19 at hf
    by_cases c1 : F_X12_knownMany x J ≤ e
    · rw [if_pos c1] at hf; cases hf
    · rw [if_neg c1] at hf
      cases hf
      exact ⟨cn_lt (N := 24) (by decide) he (km_in hP) c1, rfl, hP.u rfl⟩
  · unfold B_X12_struckHow_w19 at hf
    split at hf
    · cases hf; exact hP
    · cases hf
theorem sh_47 {tp : SI} {a0 : Int32} {I : SI} {J : SJ} {s0 : Int32 × SI} (h1 : inR (s0.1 + 1) 25) (h2 : (MW tp) s0.2) : (itW (B_X12_struckHow_w47 a0 I J) 800 s0).isSome = true ∧ (∀ n s, wN (B_X12_struckHow_w47 a0 I J) n s0 = some s → inR (s.1 + 1) 25 ∧ (MW tp) s.2) ∧ ∀ d, (MW tp) ((itW (B_X12_struckHow_w47 a0 I J) 800 s0).getD d).2 := by
  refine whl (f := B_X12_struckHow_w47 a0 I J) (fun s => inR (s.1 + 1) 25 ∧ (MW tp) s.2) (fun r => (MW tp) r.2) (fun s => (s.1 + 1).toNatClampNeg) ⟨h1, h2⟩ (by have := h1.2; omega) (fun s s' hp hf => ?_) (fun s r hp hf => ?_)
  · unfold B_X12_struckHow_w47 at hf
    by_cases c1 : s.1 < 0
    · rw [if_pos c1] at hf; cases hf
    · rw [if_neg c1] at hf
      obtain ⟨j, hj, e⟩ := hp.1.n
      have hj0 : 0 < j := by
        by_cases z : j = 0
        · rw [z, nI_0] at e
          have e2 : s.1 = -1 := by rw [← Int32.add_sub_cancel s.1 1, e]; rfl
          exact absurd (show s.1 < 0 by rw [e2]; decide) c1
        · omega
      have e2 : s.1 = nI (j - 1) := by rw [← Int32.add_sub_cancel s.1 1, e]; exact pk_sub (b := 1) hj0
      have e3 : s.1 + (-1) + 1 = nI (j - 1) := by rw [Int32.add_assoc, show (-1 : Int32) + 1 = 0 by decide, Int32.add_zero]; exact e2
      have d : (s.1 + (-1) + 1).toNatClampNeg < (s.1 + 1).toNatClampNeg := by
        rw [e3, e, nI_clamp (by omega), nI_clamp (by omega)]
        omega
      have q : inR (s.1 + (-1) + 1) 25 := by rw [e3]; exact inR_nI (by omega) (by decide)
      repeat' split at hf
      all_goals (have ee := Sum.inl.inj hf; rw [← ee])
      all_goals first
        | exact ⟨⟨q, hp.2⟩, d⟩
        | exact ⟨⟨q, hp.2.u rfl⟩, d⟩
  · unfold B_X12_struckHow_w47 at hf
    repeat' split at hf
    all_goals cases hf
    all_goals exact hp.2
theorem sh_k {I : SI} {x : Int32} (h : inR (x + 1) 25) (c1 : ¬ x < 0) : inR x 24 := by
  obtain ⟨j, hj, e⟩ := h.n
  have hj0 : 0 < j := by
    by_cases z : j = 0
    · rw [z, nI_0] at e
      have e2 : x = -1 := by rw [← Int32.add_sub_cancel x 1, e]; rfl
      exact absurd (show x < 0 by rw [e2]; decide) c1
    · omega
  have e2 : x = nI (j - 1) := by rw [← Int32.add_sub_cancel x 1, e]; exact pk_sub (b := 1) hj0
  rw [e2]
  exact inR_nI (by omega) (by decide)
theorem sh_90 {tp : SI} {a0 : Int32} {I : SI} {J : SJ} (h : (MW tp) (S1_X12_struckHow a0 I J)) : inR (F_X12_struckHow_l90 a0 I J 0) 41 := by
  unfold F_X12_struckHow_l90
  refine itN_inv (P := fun (s : Int32) => inR s 41) ⟨rfl, by decide⟩ (fun i s hi hs => ?_)
  unfold B_X12_struckHow_l90
  split
  · split
    · exact max41 hs (h.gr3 _ (in_it (N := 24) (by decide) (km_in h) hi).2)
    · exact hs
  · exact hs
theorem sh_144 {tp : SI} {a0 : Int32} {I : SI} {J : SJ} (h : (MW tp) (S1_X12_struckHow a0 I J)) (n : Nat) : (MW tp) (itN (B_X12_struckHow_l144 a0 I J) n (0, u2 (S1_X12_struckHow a0 I J) 130 57 a0, J)).2.1 := by
  refine itN_inv (P := fun (s : Int32 × SI × SJ) => (MW tp) s.2.1) (h.u rfl) (fun i s _ hs => ?_)
  have f : (MW tp) (S5_X12_struckHow a0 I J i s) := (fitsStrike_H (J := s.2.2) (hs.u rfl) (sh_90 h)).2
  unfold B_X12_struckHow_l144
  split <;> exact f
theorem m_struckHow {tp : SI} {a0 : Int32} {I : SI} {J : SJ} (h : (MW tp) I) : H_X12_struckHow a0 I J ∧ (MW tp) (FI_X12_struckHow a0 I J) := by
  have h' := h.u0
  have a19 := sh_19 (a0 := a0) (J := J) h'
  have m19 : (MW tp) (F_X12_struckHow_w19 a0 I J (0, u2 I 130 0 0)).2 := a19.2.2 _
  have a47 := sh_47 (a0 := a0) (I := I) (J := J) (s0 := (F_X12_knownMany (F_X12_struckHow_w19 a0 I J (0, u2 I 130 0 0)).2 J - 1, (F_X12_struckHow_w19 a0 I J (0, u2 I 130 0 0)).2)) (by show inR (F_X12_knownMany (F_X12_struckHow_w19 a0 I J (0, u2 I 130 0 0)).2 J - 1 + 1) 25; rw [Int32.sub_add_cancel]; exact km_in m19) m19
  have s1 : (MW tp) (S1_X12_struckHow a0 I J) := a47.2.2 _
  refine ⟨?_, ?_⟩
  · unfold H_X12_struckHow
    exact ⟨fun _ => a19.1, fun _ => a47.1, fun _ i144 _ _ h2 => (by rw [h2]; exact (fitsStrike_H ((sh_144 s1 i144).u rfl) (sh_90 s1)).1), fun _ _ _ h1 _ => in_it (N := 24) (by decide) (km_in s1) h1, fun _ _ _ h1 _ _ => in_it (N := 24) (by decide) (km_in s1) h1, fun _ _ _ h1 _ _ _ => in_it (N := 24) (by decide) (km_in s1) h1, fun _ _ _ h1 h2 => sh_k (I := I) (a47.2.1 _ _ h1).1 h2, fun _ _ _ h1 h2 _ => sh_k (I := I) (a47.2.1 _ _ h1).1 h2, fun _ _ _ h1 h2 _ _ => sh_k (I := I) (a47.2.1 _ _ h1).1 h2, fun _ _ _ h1 h2 _ h4 => ((a47.2.1 _ _ h1).2.gr6 _ (sh_k (I := I) (a47.2.1 _ _ h1).1 h2).2).resolve_left h4, fun _ _ _ h1 h2 => cn_lt (N := 24) (by decide) (a19.2.1 _ _ h1).1 (km_in (a19.2.1 _ _ h1).2) h2⟩
  · unfold FI_X12_struckHow
    split
    · exact h'
    · exact (sh_144 s1 10).u rfl
theorem m_feed {tp : SI} {a0 a1 a2 a3 a4 : Int32} {I : SI} {J : SJ} (h : (MW tp) I) (ht : inR (tp 130 2) 701) : H_X12_feed a0 a1 a2 a3 a4 I J ∧ MW (FI_X12_feed a0 a1 a2 a3 a4 I J) (FI_X12_feed a0 a1 a2 a3 a4 I J) ∧ FI_X12_feed a0 a1 a2 a3 a4 I J 130 2 = (if tp 130 2 ≤ 680 then tp 130 2 + 20 else tp 130 2) ∧ F_X12_feed a0 a1 a2 a3 a4 I J = (if tp 130 2 ≤ 680 then tp 130 2 + 20 else -1) := by
  obtain ⟨c, hc, e⟩ := ht.n
  have f := feed_m (a0 := a0) (a1 := a1) (a2 := a2) (a3 := a3) (a4 := a4) (J := J) ((h.gt 130 2 (by omega)).trans e) (by omega)
  refine ⟨f.1, h.tof (fun a b q z z2 => ?_), ?_⟩
  · refine f.2.2.2 a b (fun y => ?_) (fun y => ?_)
    · exact z2 y
    · rcases y.2 with y2 | y2
      · rw [y.1, y2] at q; exact Bool.noConfusion q
      · exact z ⟨y.1, y2⟩
  · rw [e]
    by_cases q : c ≤ 680
    · have d : nI c ≤ 680 := nI_le (b := 680) q (by decide)
      rw [if_pos d, if_pos d, (f.2.1 q).1, (f.2.1 q).2, show (20 : Int32) = nI 20 from rfl, nI_add]
      exact ⟨rfl, rfl⟩
    · have d : ¬ nI c ≤ 680 := nI_ge (a := 680) (by omega) (by omega)
      rw [if_neg d, if_neg d, (f.2.2.1 (by omega)).1, (f.2.2.1 (by omega)).2]
      exact ⟨rfl, rfl⟩
