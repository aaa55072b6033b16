/-! the model: all levels of a side -/
theorem loop_E {k i : Nat} {I : SI} {J : SJ} {f : SI × SJ → (SI × SJ) ⊕ (SI × SJ)} (R : RC k) (h : EI I) (hD : DD i I ≤ k + 1) (hi : i < 5) (hf : ∀ s s', f s = .inl s' → ∃ (v : Int32) (J' : SJ), v ≠ 260 ∧ s.1 130 30 = 0 ∧ s'.1 = FI_X12_puts 2 v (RG_expr k (i + 1) (FI_X12_goOn (FI_X12_knot s.1 s.2) s.2) s.2).1 J') (hr : ∀ s r, f s = .inr r → r = s) : (itW f 800 ((RG_expr k (i + 1) I J).1, (RG_expr k (i + 1) I J).2)).isSome = true ∧ (∀ n s, wN f n ((RG_expr k (i + 1) I J).1, (RG_expr k (i + 1) I J).2) = some s → PX 0 0 0 1 I s.1) ∧ ∀ d, PX 0 0 0 1 I ((itW f 800 ((RG_expr k (i + 1) I J).1, (RG_expr k (i + 1) I J).2)).getD d).1 := by
  have r0 := R (i + 1) I J (by omega) h (DD.sm hD (by omega))
  refine whl (f := f) (s0 := ((RG_expr k (i + 1) I J).1, (RG_expr k (i + 1) I J).2)) (fun s => PX 0 0 0 1 I s.1) (fun r => PX 0 0 0 1 I r.1) (fun s => mu s.1) r0.2 (mu_b _) (fun s s' hs h1 => ?_) (fun s r hs h1 => ?_)
  · obtain ⟨v, J', hv, c, e⟩ := hf s s' h1
    have b := bin_E (v := v) (J := s.2) R (by omega : i + 1 ≤ 5) hs.ei c (DD.nx hD hs c (by omega)) hv
    have b2 := b.2.2 J'
    rw [e]
    exact ⟨hs.tr b2.2.1, mu_lt hs.ei c b2.2.2⟩
  · rw [hr s r h1]
    exact hs
theorem lvH {k i : Nat} {I : SI} {s : SI × SJ} {v : Int32} (R : RC k) (hD : DD i I ≤ k + 1) (hi : i < 5) (hs : PX 0 0 0 1 I s.1) (c : s.1 130 30 = 0) (hv : v ≠ 260) : H_X12_goOn (FI_X12_knot s.1 s.2) s.2 ∧ HG_expr k (i + 1) (FI_X12_goOn (FI_X12_knot s.1 s.2) s.2) s.2 ∧ ∀ J', H_X12_puts 2 v (RG_expr k (i + 1) (FI_X12_goOn (FI_X12_knot s.1 s.2) s.2) s.2).1 J' := by
  have b := bin_E (v := v) (J := s.2) R (by omega : i + 1 ≤ 5) hs.ei c (DD.nx hD hs c (by omega)) hv
  exact ⟨b.1, b.2.1, fun J' => (b.2.2 J').1⟩
theorem expr_E {k : Nat} {I : SI} {J : SJ} (R : RC k) (h : EI I) (hD : DD 0 I ≤ k + 1) : H_X12_expression (HG_expr k) (RG_expr k) I J ∧ PX 0 0 0 1 I (FI_X12_expression (RG_expr k) I J) := by
  have L := loop_E (f := B_X12_expression_w4 (RG_expr k) I J) (J := J) R h hD (by omega) (fun s s' hf => by
    obtain ⟨c, h2⟩ := inl_of hf
    exact ⟨262, _, by decide, (isW c).1, by rw [← Sum.inl.inj h2]; rfl⟩) (fun s r hf => by
    unfold B_X12_expression_w4 at hf
    split at hf
    · exact (Sum.inr.inj hf).symm
    · cases hf)
  have Q := fun (s : SI × SJ) (n : Nat) (hn : wN (B_X12_expression_w4 (RG_expr k) I J) n ((RG_expr k 1 I J).1, (RG_expr k 1 I J).2) = some s) (c : ¬ F_X12_isWord 13 s.1 s.2 = 0) => lvH (v := 262) R hD (by omega) (L.2.1 n s hn) (isW c).1 (by decide)
  refine ⟨?_, ?_⟩
  · unfold H_X12_expression
    exact ⟨(R 1 I J (by omega) h (DD.sm hD (by omega))).1, L.1, fun n s hn c => (Q s n hn c).1, fun n s hn c => (Q s n hn c).2.1, fun n s hn c => (Q s n hn c).2.2 _⟩
  · unfold FI_X12_expression F_X12_expression_w4
    exact L.2.2 _
theorem conj_E {k : Nat} {I : SI} {J : SJ} (R : RC k) (h : EI I) (hD : DD 1 I ≤ k + 1) : H_X12_conjunction (HG_expr k) (RG_expr k) I J ∧ PX 0 0 0 1 I (FI_X12_conjunction (RG_expr k) I J) := by
  have L := loop_E (f := B_X12_conjunction_w4 (RG_expr k) I J) (J := J) R h hD (by omega) (fun s s' hf => by
    obtain ⟨c, h2⟩ := inl_of hf
    exact ⟨261, _, by decide, (isW c).1, by rw [← Sum.inl.inj h2]; rfl⟩) (fun s r hf => by
    unfold B_X12_conjunction_w4 at hf
    split at hf
    · exact (Sum.inr.inj hf).symm
    · cases hf)
  have Q := fun (s : SI × SJ) (n : Nat) (hn : wN (B_X12_conjunction_w4 (RG_expr k) I J) n ((RG_expr k 2 I J).1, (RG_expr k 2 I J).2) = some s) (c : ¬ F_X12_isWord 14 s.1 s.2 = 0) => lvH (v := 261) R hD (by omega) (L.2.1 n s hn) (isW c).1 (by decide)
  refine ⟨?_, ?_⟩
  · unfold H_X12_conjunction
    exact ⟨(R 2 I J (by omega) h (DD.sm hD (by omega))).1, L.1, fun n s hn c => (Q s n hn c).1, fun n s hn c => (Q s n hn c).2.1, fun n s hn c => (Q s n hn c).2.2 _⟩
  · unfold FI_X12_conjunction F_X12_conjunction_w4
    exact L.2.2 _
theorem sum_E {k : Nat} {I : SI} {J : SJ} (R : RC k) (h : EI I) (hD : DD 3 I ≤ k + 1) : H_X12_sum (HG_expr k) (RG_expr k) I J ∧ PX 0 0 0 1 I (FI_X12_sum (RG_expr k) I J) := by
  have sv : ∀ {s : SI × SJ} {w : Int32}, ¬ F_X12_isSign w s.1 s.2 = 0 → w ≠ 260 → s.1 130 29 ≠ 260 := fun {s w} c hw => by rw [(isS c).2.2]; exact hw
  have L := loop_E (f := B_X12_sum_w4 (RG_expr k) I J) (J := J) R h hD (by omega) (fun s s' hf => by
    unfold B_X12_sum_w4 at hf
    by_cases c : F_X12_isSign 43 s.1 s.2 = 0
    · rw [if_pos c] at hf
      obtain ⟨c2, h2⟩ := inl_of hf
      exact ⟨s.1 130 29, _, sv c2 (by decide), (isS c2).1, by rw [← Sum.inl.inj h2]; rfl⟩
    · rw [if_neg c] at hf
      exact ⟨s.1 130 29, _, sv c (by decide), (isS c).1, by rw [← Sum.inl.inj hf]; rfl⟩) (fun s r hf => by
    unfold B_X12_sum_w4 at hf
    repeat' split at hf
    · exact (Sum.inr.inj hf).symm
    · cases hf
    · cases hf)
  have Q := fun (s : SI × SJ) (n : Nat) (hn : wN (B_X12_sum_w4 (RG_expr k) I J) n ((RG_expr k 4 I J).1, (RG_expr k 4 I J).2) = some s) (c : s.1 130 30 = 0) (v : s.1 130 29 ≠ 260) => lvH R hD (by omega) (L.2.1 n s hn) c v
  refine ⟨?_, ?_⟩
  · unfold H_X12_sum
    exact ⟨(R 4 I J (by omega) h (DD.sm hD (by omega))).1, L.1, fun n s hn c => (Q s n hn (isS c).1 (sv c (by decide))).1, fun n s hn c => (Q s n hn (isS c).1 (sv c (by decide))).2.1, fun n s hn c => (Q s n hn (isS c).1 (sv c (by decide))).2.2 _, fun n s hn _ c => (Q s n hn (isS c).1 (sv c (by decide))).1, fun n s hn _ c => (Q s n hn (isS c).1 (sv c (by decide))).2.1, fun n s hn _ c => (Q s n hn (isS c).1 (sv c (by decide))).2.2 _⟩
  · unfold FI_X12_sum F_X12_sum_w4
    exact L.2.2 _
theorem prod_E {k : Nat} {I : SI} {J : SJ} (R : RC k) (h : EI I) (hD : DD 4 I ≤ k + 1) : H_X12_product (HG_expr k) (RG_expr k) I J ∧ PX 0 0 0 1 I (FI_X12_product (RG_expr k) I J) := by
  have sv : ∀ {s : SI × SJ} {w : Int32}, ¬ F_X12_isSign w s.1 s.2 = 0 → w ≠ 260 → s.1 130 29 ≠ 260 := fun {s w} c hw => by rw [(isS c).2.2]; exact hw
  have L := loop_E (f := B_X12_product_w4 (RG_expr k) I J) (J := J) R h hD (by omega) (fun s s' hf => by
    unfold B_X12_product_w4 at hf
    by_cases c : F_X12_isSign 42 s.1 s.2 = 0
    · rw [if_pos c] at hf
      obtain ⟨c2, h2⟩ := inl_of hf
      exact ⟨s.1 130 29, _, sv c2 (by decide), (isS c2).1, by rw [← Sum.inl.inj h2]; rfl⟩
    · rw [if_neg c] at hf
      exact ⟨s.1 130 29, _, sv c (by decide), (isS c).1, by rw [← Sum.inl.inj hf]; rfl⟩) (fun s r hf => by
    unfold B_X12_product_w4 at hf
    repeat' split at hf
    · exact (Sum.inr.inj hf).symm
    · cases hf
    · cases hf)
  have Q := fun (s : SI × SJ) (n : Nat) (hn : wN (B_X12_product_w4 (RG_expr k) I J) n ((RG_expr k 5 I J).1, (RG_expr k 5 I J).2) = some s) (c : s.1 130 30 = 0) (v : s.1 130 29 ≠ 260) => lvH R hD (by omega) (L.2.1 n s hn) c v
  refine ⟨?_, ?_⟩
  · unfold H_X12_product
    exact ⟨(R 5 I J (by omega) h (DD.sm hD (by omega))).1, L.1, fun n s hn c => (Q s n hn (isS c).1 (sv c (by decide))).1, fun n s hn c => (Q s n hn (isS c).1 (sv c (by decide))).2.1, fun n s hn c => (Q s n hn (isS c).1 (sv c (by decide))).2.2 _, fun n s hn _ c => (Q s n hn (isS c).1 (sv c (by decide))).1, fun n s hn _ c => (Q s n hn (isS c).1 (sv c (by decide))).2.1, fun n s hn _ c => (Q s n hn (isS c).1 (sv c (by decide))).2.2 _⟩
  · unfold FI_X12_product F_X12_product_w4
    exact L.2.2 _
theorem knot_v {b : Nat} {I : SI} {J : SJ} (hb : b = 28 ∨ b = 29) : FI_X12_knot I J 130 b = I 130 b := by
  unfold FI_X12_knot FI_X12_wrong
  repeat' split
  all_goals first
    | rfl
    | exact u2_n _ _ (by omega)
    | exact (u2_n _ _ (by omega)).trans (u2_n _ _ (by omega))
theorem kn_E {x : Nat} {I : SI} {J : SJ} (h : EI I) : PX 1 0 x x I (FI_X12_knot I J) := (knot_E (x := x) (J := J) h).elim id And.right
theorem neg_E {k : Nat} {I : SI} {J : SJ} (R : RC k) (h : EI I) (hD : DD 2 I ≤ k + 1) : H_X12_negation (HG_expr k) (RG_expr k) I J ∧ PX 0 0 0 1 I (FI_X12_negation (RG_expr k) I J) := by
  have r3 := R 3 I J (by omega) h (DD.sm hD (by omega))
  have B := fun (c : (RG_expr k 3 I J).1 130 30 = 0) (c2 : (RG_expr k 3 I J).1 130 28 = 3) => bin_E (v := (RG_expr k 3 I J).1 130 29) (J := (RG_expr k 3 I J).2) R (by omega : 3 ≤ 5) r3.2.ei c (DD.nx hD r3.2 c (by omega)) (r3.2.ei.2.1.1 c2)
  have N := fun (c : ¬ F_X12_isWord 15 I J = 0) => show H_X12_goOn (FI_X12_knot I J) J ∧ HG_expr k 2 (FI_X12_goOn (FI_X12_knot I J) J) J ∧ ∀ J', H_X12_puts 2 260 (RG_expr k 2 (FI_X12_goOn (FI_X12_knot I J) J) J).1 J' ∧ PX 0 0 0 1 I (FI_X12_puts 2 260 (RG_expr k 2 (FI_X12_goOn (FI_X12_knot I J) J) J).1 J') from by
    have h0 := (isW c).1
    have kn : PX 1 0 0 0 I (FI_X12_knot I J) := kn_E h
    have g := goOn_E (x := 0) (J := J) kn.ei
    have a1 := kn.tr g.2
    have D1 : DD 2 (FI_X12_goOn (FI_X12_knot I J) J) ≤ k := by
      unfold DD at hD ⊢
      rw [if_pos h0] at hD
      by_cases c : FI_X12_goOn (FI_X12_knot I J) J 130 30 = 0
      · rw [if_pos c]
        have p := a1.2.2.2.2.2.2 c
        rw [p.1]
        have := p.2.2.1
        have := a1.2.2.2.1
        have q : cc (FI_X12_goOn (FI_X12_knot I J) J) < 65 := a1.ei.2.2.2.1.2
        omega
      · rw [if_neg c]
        omega
    have r := R 2 (FI_X12_goOn (FI_X12_knot I J) J) J (by omega) a1.ei D1
    have a2 := a1.tr r.2
    refine ⟨g.1, r.1, fun J' => ?_⟩
    have pu := puts_E (a0 := 2) (a1 := 260) (x := 1) (y := 1) (J := J') a2.ei (fun c => by
      have p := a2.2.2.2.2.2.2 c
      have := h.2.2.2.2.2 h0
      have := p.2.2.1
      omega) (fun _ d => by rw [if_pos rfl, if_pos rfl]; exact ⟨by omega, rfl⟩)
    exact ⟨pu.1, (a2.tr pu.2).st⟩
  refine ⟨?_, ?_⟩
  · unfold H_X12_negation
    exact ⟨fun _ => r3.1, fun _ c c2 _ => (B c c2).1, fun _ c c2 _ => (B c c2).2.1, fun _ c c2 _ => ((B c c2).2.2 _).1, fun _ c c2 _ _ => (B c c2).1, fun _ c c2 _ _ => (B c c2).2.1, fun _ c c2 _ _ => ((B c c2).2.2 _).1, fun _ c c2 _ _ _ => (B c c2).1, fun _ c c2 _ _ _ => (B c c2).2.1, fun _ c c2 _ _ _ => ((B c c2).2.2 _).1, fun _ c c2 _ _ _ _ => (B c c2).1, fun _ c c2 _ _ _ _ => (B c c2).2.1, fun _ c c2 _ _ _ _ => ((B c c2).2.2 _).1, fun c => (N c).1, fun c => (N c).2.1, fun c => ((N c).2.2 _).1⟩
  · unfold FI_X12_negation
    by_cases c : F_X12_isWord 15 I J = 0
    · rw [if_pos c]
      by_cases c1 : (RG_expr k 3 I J).1 130 30 = 0
      · rw [if_pos c1]
        by_cases c2 : (RG_expr k 3 I J).1 130 28 = 3
        · rw [if_pos c2]
          have b := fun J' => r3.2.tr ((B c1 c2).2.2 J').2.1
          repeat' split
          · exact b _
          · exact b _
          · exact b _
          · exact b _
          · exact r3.2
        · rw [if_neg c2]; exact r3.2
      · rw [if_neg c1]; exact r3.2
    · rw [if_neg c]
      exact ((N c).2.2 _).2
theorem leaf_E {a0 a1 : Int32} {I T : SI} {J J2 : SJ} (h : EI I) (h0 : I 130 30 = 0) (hT : PX 0 0 0 0 I T) (ha : T 130 30 = 0 → a0 = 0 ∨ (a0 = 1 ∧ inR a1 7)) : H_X12_puts a0 a1 (FI_X12_knot T J) J2 ∧ H_X12_goOn (FI_X12_puts a0 a1 (FI_X12_knot T J) J2) J2 ∧ PX 0 0 0 1 I (FI_X12_goOn (FI_X12_puts a0 a1 (FI_X12_knot T J) J2) J2) := by
  have kn : PX 1 0 0 0 T (FI_X12_knot T J) := kn_E hT.ei
  have a2 := hT.tr kn
  have pu := puts_E (a0 := a0) (a1 := a1) (x := 0) (y := 1) (J := J2) a2.ei (fun c => by
    have p := a2.2.2.2.2.2.2 c
    have := h.2.2.2.2.2 h0
    have := p.2.2.1
    omega) (fun c d => by
    have cT : T 130 30 = 0 := by
      by_cases z : T 130 30 = 0
      · exact z
      · rw [kn.2.2.2.2.1 z] at c; exact absurd c z
    rcases ha cT with e | e
    · rw [if_neg (by rw [e]; decide)]; exact ⟨Or.inl e, rfl⟩
    · rw [if_neg (by rw [e.1]; decide)]; exact ⟨Or.inr e.2, rfl⟩)
  have a3 := (a2.tr pu.2).st
  have g := goOn_E (x := 1) (J := J2) a3.ei
  exact ⟨pu.1, g.1, a3.tr g.2⟩
theorem v16 {v : Int32} (h : inR v 23) (h2 : (16 : Int32) ≤ v) : inR (v - 16) 7 := by
  obtain ⟨j, hj, e⟩ := h.n
  rw [e] at h2 ⊢
  have q : 16 ≤ j := by
    by_cases z : 16 ≤ j
    · exact z
    · exact absurd h2 (nI_ge (a := j) (b := 16) (by omega) (by decide) |> fun w => w)
  rw [show nI j - 16 = nI (j - 16) from pk_sub (b := 16) q]
  exact inR_nI (by omega) (by decide)
theorem prim_E {k : Nat} {I : SI} {J : SJ} (R : RC k) (h : EI I) (hD : DD 5 I ≤ k + 1) : H_X12_primary (HG_expr k) (RG_expr k) I J ∧ PX 0 0 0 1 I (FI_X12_primary (RG_expr k) I J) := by
  have T : PX 0 0 0 0 I (T_X12_primary_j162 (RG_expr k) I J) ∧ (T_X12_primary_j162 (RG_expr k) I J 130 30 = 0 → T_X12_primary_j162 (RG_expr k) I J = I ∧ (T_X12_primary_j114 (RG_expr k) I J = 0 → I 130 28 = 0 ∧ (16 : Int32) ≤ I 130 29)) := by
    have w1 := wrong_E (w := 1) (x := 0) (J := J) h (by decide)
    have w2 := wrong_E (w := 2) (x := 0) (J := J) h (by decide)
    unfold T_X12_primary_j162
    by_cases a : T_X12_primary_j114 (RG_expr k) I J = 0
    · rw [if_pos a]
      by_cases b : I 130 28 = 0
      · rw [if_pos b]
        by_cases c : (16 : Int32) ≤ I 130 29
        · rw [if_pos c]; exact ⟨PX.rf h, fun _ => ⟨rfl, fun _ => ⟨b, c⟩⟩⟩
        · rw [if_neg c]; exact ⟨w1.1, fun z => absurd z w1.2⟩
      · rw [if_neg b]; exact ⟨w1.1, fun z => absurd z w1.2⟩
    · rw [if_neg a]
      by_cases c : I 130 29 ≤ 9999
      · rw [if_pos c]; exact ⟨PX.rf h, fun _ => ⟨rfl, fun z => absurd z a⟩⟩
      · rw [if_neg c]; exact ⟨w2.1, fun z => absurd z w2.2⟩
  have kv : FI_X12_knot (T_X12_primary_j162 (RG_expr k) I J) J 130 29 = T_X12_primary_j162 (RG_expr k) I J 130 29 := knot_v (Or.inr rfl)
  have LN := fun (h0 : I 130 30 = 0) (a : T_X12_primary_j114 (RG_expr k) I J = 0) => leaf_E (a0 := T_X12_primary_j176 (RG_expr k) I J) (a1 := FI_X12_knot (T_X12_primary_j162 (RG_expr k) I J) J 130 29 - 16) (J := J) (J2 := J) h h0 T.1 (fun c => by
    have q := T.2 c
    refine Or.inr ⟨?_, ?_⟩
    · unfold T_X12_primary_j176
      rw [if_pos a]
    · rw [kv, q.1]
      exact v16 (h.2.1.2 (q.2 a).1) (q.2 a).2)
  have LV := fun (h0 : I 130 30 = 0) (a : ¬ T_X12_primary_j114 (RG_expr k) I J = 0) => leaf_E (a0 := T_X12_primary_j176 (RG_expr k) I J) (a1 := FI_X12_knot (T_X12_primary_j162 (RG_expr k) I J) J 130 29) (J := J) (J2 := J) h h0 T.1 (fun _ => Or.inl (by
    unfold T_X12_primary_j176
    rw [if_neg a]))
  have T31 : PX 0 0 0 1 I (T_X12_primary_j31 (RG_expr k) I J) ∨ (T_X12_primary_j31 (RG_expr k) I J = I ∧ ¬ I 130 34 = 8) := by
    unfold T_X12_primary_j31
    by_cases c : I 130 34 = 8
    · rw [if_pos c]
      have w := wrong_E (w := 2) (x := 0) (J := J) h (by decide)
      obtain ⟨e1, k1, g1, n1, f1, o1, p1⟩ := w.1
      exact Or.inl ⟨e1, k1, g1, n1, f1, o1, fun z => absurd z w.2⟩
    · rw [if_neg c]; exact Or.inr ⟨rfl, c⟩
  have O : ∀ (h0 : I 130 30 = 0) (c1 : T_X12_primary_j31 (RG_expr k) I J 130 30 = 0), T_X12_primary_j31 (RG_expr k) I J = I ∧ ¬ I 130 34 = 8 := fun h0 c1 => by
    unfold T_X12_primary_j31 at c1 ⊢
    by_cases c : I 130 34 = 8
    · rw [if_pos c] at c1
      exact absurd c1 (wrong_E (w := 2) (x := 0) (J := J) h (by decide)).2
    · rw [if_neg c]; exact ⟨rfl, c⟩
  -- behind the bracket
  have S : ∀ (h0 : I 130 30 = 0) (c1 : T_X12_primary_j31 (RG_expr k) I J 130 30 = 0), EI (S3_X12_primary (RG_expr k) I J) ∧ S3_X12_primary (RG_expr k) I J 130 30 = 0 ∧ oo (S3_X12_primary (RG_expr k) I J) = oo I + 1 ∧ oo I < 8 ∧ (∀ a b, ¬ (a = 130 ∧ b = 34) → S3_X12_primary (RG_expr k) I J a b = I a b) := fun h0 c1 => by
    have o := O h0 c1
    have eS : S3_X12_primary (RG_expr k) I J = u2 I 130 34 (I 130 34 + 1) := by unfold S3_X12_primary; rw [o.1]
    rw [eS]
    obtain ⟨j, hj, ej⟩ := h.2.2.1.n
    have j8 : j < 8 := by
      by_cases z : j = 8
      · exact absurd (by rw [ej, z]; rfl) o.2
      · omega
    have e : ∀ a b, ¬ (a = 130 ∧ b = 34) → u2 I 130 34 (I 130 34 + 1) a b = I a b := fun a b z => u2_n _ _ z
    have e34 : u2 I 130 34 (I 130 34 + 1) 130 34 = nI (j + 1) := by rw [u2_s, ej, nI_1]
    have o0 : oo I = j := by unfold oo; rw [ej, nI_clamp (by omega)]
    have o1 : oo (u2 I 130 34 (I 130 34 + 1)) = j + 1 := by unfold oo; rw [e34, nI_clamp (by omega)]
    have n1 : nn (u2 I 130 34 (I 130 34 + 1)) = nn I := by unfold nn; rw [e 132 19 (by omega)]
    have cc1 : cc (u2 I 130 34 (I 130 34 + 1)) = cc I := by unfold cc; rw [e 130 35 (by omega)]
    exact ⟨⟨h.1.u (by omega), h.2.1.of (e 130 28 (by omega)) (e 130 29 (by omega)), by rw [e34]; exact inR_nI (by omega) (by decide), by rw [e 130 35 (by omega)]; exact h.2.2.2.1, by rw [e 132 19 (by omega)]; exact h.2.2.2.2.1, fun _ => by rw [n1, cc1]; exact h.2.2.2.2.2 h0⟩, (e 130 30 (by omega)).trans h0, by rw [o1, o0], by omega, e⟩
  have X := fun (h0 : I 130 30 = 0) (c1 : T_X12_primary_j31 (RG_expr k) I J 130 30 = 0) => show H_X12_token (S3_X12_primary (RG_expr k) I J) J ∧ HG_expr k 0 (FI_X12_token (S3_X12_primary (RG_expr k) I J) J) J ∧ PX 0 0 0 1 (S3_X12_primary (RG_expr k) I J) (T_X12_primary_j78 (RG_expr k) I J) from by
    have s := S h0 c1
    have t := tok_E (x := 0) (J := J) s.1 s.2.1
    have D1 : DD 0 (FI_X12_token (S3_X12_primary (RG_expr k) I J) J) ≤ k := by
      unfold DD at hD ⊢
      rw [if_pos h0] at hD
      have c3 : cc (S3_X12_primary (RG_expr k) I J) = cc I := by unfold cc; rw [s.2.2.2.2 130 35 (by omega)]
      by_cases c : FI_X12_token (S3_X12_primary (RG_expr k) I J) J 130 30 = 0
      · rw [if_pos c]
        have p := t.2.2.2.2.2.2.2 c
        have p2 := p.2.1
        have o3 := s.2.2.1
        have o8 := s.2.2.2.1
        rw [p.1]
        omega
      · rw [if_neg c]
        have o8 := s.2.2.2.1
        omega
    have r := R 0 _ J (by omega) t.2.ei D1
    refine ⟨t.1, r.1, ?_⟩
    have a := t.2.tr r.2
    unfold T_X12_primary_j78
    repeat' split
    · unfold S7_X12_primary
      exact a.tr (wrong_E a.ei (by decide)).1
    · exact a
    · exact a
  have U := fun (h0 : I 130 30 = 0) (c1 : T_X12_primary_j31 (RG_expr k) I J 130 30 = 0) => show (T_X12_primary_j78 (RG_expr k) I J 130 30 = 0 → PX 0 0 0 1 I (S4_X12_primary (RG_expr k) I J) ∧ S4_X12_primary (RG_expr k) I J 130 30 = 0) ∧ (¬ T_X12_primary_j78 (RG_expr k) I J 130 30 = 0 → PX 0 0 0 1 I (T_X12_primary_j78 (RG_expr k) I J)) from by
    have s := S h0 c1
    have x := (X h0 c1).2.2
    obtain ⟨e1, k1, g1, n1, f1, o1, p1⟩ := x
    have nS : nn (S3_X12_primary (RG_expr k) I J) = nn I := by unfold nn; rw [s.2.2.2.2 132 19 (by omega)]
    have cS : cc (S3_X12_primary (RG_expr k) I J) = cc I := by unfold cc; rw [s.2.2.2.2 130 35 (by omega)]
    have kS : KE I (S3_X12_primary (RG_expr k) I J) := fun a b z _ _ => s.2.2.2.2 a b (by omega)
    have gS : GT I (S3_X12_primary (RG_expr k) I J) := GT.sm (s.2.2.2.2 130 26 (by omega)) (s.2.2.2.2 130 28 (by omega))
    have k2 : KE I (T_X12_primary_j78 (RG_expr k) I J) := kS.tr k1 (by omega)
    have g2 : GT I (T_X12_primary_j78 (RG_expr k) I J) := gS.tr g1
    rw [nS] at n1 o1 p1
    rw [cS] at p1
    refine ⟨fun c => ?_, fun c => ⟨e1, k2, g2, n1, fun z => absurd h0 z, o1, fun z => absurd z c⟩⟩
    have p := p1 c
    have e : ∀ a b, ¬ (a = 130 ∧ b = 34) → S4_X12_primary (RG_expr k) I J a b = T_X12_primary_j78 (RG_expr k) I J a b := fun a b z => by unfold S4_X12_primary; exact u2_n _ _ z
    have e34 : S4_X12_primary (RG_expr k) I J 130 34 = nI (oo I) := by
      have z : S4_X12_primary (RG_expr k) I J 130 34 = T_X12_primary_j78 (RG_expr k) I J 130 34 - 1 := by unfold S4_X12_primary; exact u2_s _ _ _ _
      obtain ⟨j, hj, ej⟩ := e1.2.2.1.n
      have oj : oo (T_X12_primary_j78 (RG_expr k) I J) = j := by unfold oo; rw [ej, nI_clamp (by omega)]
      have jo : j = oo I + 1 := by rw [← oj, p.1, s.2.2.1]
      rw [z, ej, jo]
      exact pk_sub (b := 1) (by omega)
    have n4 : nn (S4_X12_primary (RG_expr k) I J) = nn (T_X12_primary_j78 (RG_expr k) I J) := by unfold nn; rw [e 132 19 (by omega)]
    have c4 : cc (S4_X12_primary (RG_expr k) I J) = cc (T_X12_primary_j78 (RG_expr k) I J) := by unfold cc; rw [e 130 35 (by omega)]
    have o8 := s.2.2.2.1
    have o4 : oo (S4_X12_primary (RG_expr k) I J) = oo I := by
      have w : oo (S4_X12_primary (RG_expr k) I J) = (nI (oo I)).toNatClampNeg := by unfold oo; rw [e34]; rfl
      rw [w, nI_clamp (by omega)]
    have cd : ∀ j, KK (S4_X12_primary (RG_expr k) I J) j = KK (T_X12_primary_j78 (RG_expr k) I J) j ∧ VV (S4_X12_primary (RG_expr k) I J) j = VV (T_X12_primary_j78 (RG_expr k) I J) j := fun j => ⟨e 150 (64 + j) (by omega), e 151 (64 + j) (by omega)⟩
    refine ⟨⟨⟨⟨by rw [e 130 25 (by omega)]; exact e1.1.1, by rw [e 130 26 (by omega)]; exact e1.1.2⟩, e1.2.1.of (e 130 28 (by omega)) (e 130 29 (by omega)), by rw [e34]; exact inR_nI (by omega) (by decide), by rw [e 130 35 (by omega)]; exact e1.2.2.2.1, by rw [e 132 19 (by omega)]; exact e1.2.2.2.2.1, fun _ => by rw [n4, c4]; exact e1.2.2.2.2.2 c⟩, fun a b z y w => (e a b (by omega)).trans (k2 a b z y w), g2.tr (GT.sm (e 130 26 (by omega)) (e 130 28 (by omega))), by rw [n4]; exact n1, fun z => absurd h0 z, fun d => ?_, fun _ => ⟨o4, by rw [c4]; exact p.2.1, by rw [n4, c4]; exact p.2.2.1, fun d => ?_⟩⟩, (e 130 30 (by omega)).trans c⟩
    · rw [n4]
      exact okc_cg _ _ _ (fun j _ _ => cd j) (o1 d)
    · rw [n4, dp_cg _ _ _ (fun j _ _ => cd j)]
      exact p.2.2.2 d
  refine ⟨?_, ?_⟩
  · unfold H_X12_primary
    exact ⟨fun h0 _ a => (LN h0 a).1, fun h0 _ a => (LN h0 a).2.1, fun h0 _ a => (LV h0 a).1, fun h0 _ a => (LV h0 a).2.1, fun h0 _ c1 => (X h0 c1).1, fun h0 _ c1 => (X h0 c1).2.1, fun h0 _ c1 c2 => (tok_E (x := 0) ((U h0 c1).1 c2).1.ei ((U h0 c1).1 c2).2).1⟩
  · unfold FI_X12_primary
    by_cases h0 : I 130 30 = 0
    · rw [if_pos h0]
      by_cases b : F_X12_isSign 40 I J = 0
      · rw [if_pos b]
        by_cases a : T_X12_primary_j114 (RG_expr k) I J = 0
        · rw [if_pos a]; exact (LN h0 a).2.2
        · rw [if_neg a]; exact (LV h0 a).2.2
      · rw [if_neg b]
        by_cases c1 : T_X12_primary_j31 (RG_expr k) I J 130 30 = 0
        · rw [if_pos c1]
          by_cases c2 : T_X12_primary_j78 (RG_expr k) I J 130 30 = 0
          · rw [if_pos c2]
            unfold S5_X12_primary
            have u := (U h0 c1).1 c2
            exact u.1.tr (tok_E (x := 1) u.1.ei u.2).2
          · rw [if_neg c2]
            exact (U h0 c1).2 c2
        · rw [if_neg c1]
          rcases T31 with t | t
          · exact t
          · rw [t.1] at c1; exact absurd h0 c1
    · rw [if_neg h0]
      have r := PX.rf (x := 0) h
      obtain ⟨e1, k1, g1, n1, f1, o1, p1⟩ := r
      exact ⟨e1, k1, g1, n1, f1, o1, fun z => absurd z h0⟩
theorem all_E : ∀ k, RC k := by
  intro k
  induction k with
  | zero =>
    intro i I J hi _ hD
    unfold DD at hD
    split at hD <;> omega
  | succ k R =>
    intro i I J hi h hD
    rcases (by omega : i = 0 ∨ i = 1 ∨ i = 2 ∨ i = 3 ∨ i = 4 ∨ i = 5) with rfl | rfl | rfl | rfl | rfl | rfl
    · exact expr_E R h hD
    · exact conj_E R h hD
    · exact neg_E R h hD
    · exact sum_E R h hD
    · exact prod_E R h hD
    · exact prim_E R h hD
theorem side_E {I : SI} {J : SJ} (h : EI I) : HG_expr 140 0 I J ∧ PX 0 0 0 1 I (RG_expr 140 0 I J).1 := by
  refine all_E 140 0 I J (by omega) h ?_
  unfold DD
  split <;> omega
