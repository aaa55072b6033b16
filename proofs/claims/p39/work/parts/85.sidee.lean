/-! both: a law's side: all levels -/
/-- the loops: or, and, sums, products -/
theorem loop_G {a0 n f0 m h k i : Nat} {A B : SI} {J J' : SJ} {f : SI × SJ → (SI × SJ) ⊕ (SI × SJ)} (lv : LV k) (R : RC k) (k3 : K3 a0) (eb : EI B) (hD : DD i B ≤ k + 1) (hi : i < 5) (i2 : i ≠ 2) (s : Si n A B) (c : A 41 1 = 0) (d : SD a0 f0 h m h A B) (pre : Pre i h A)
    (hf : ∀ s s', f s = .inl s' → ∃ (v : Int32) (J' : SJ), v ≠ 260 ∧ s.1 130 30 = 0 ∧ s'.1 = FI_X12_puts 2 v (RG_expr k (i + 1) (FI_X12_goOn (FI_X12_knot s.1 s.2) s.2) s.2).1 J' ∧ ∀ X : SI, Si n X s.1 → X 41 1 = 0 → SQ (X 81 5) v ∧ rn (X 81 5) = lo i ∧ X 81 5 ≠ 35)
    (hr : ∀ s r, f s = .inr r → r = s ∧ ∀ X : SI, Si n X s.1 → X 41 1 = 0 → (i = 4 → X 81 5 ≠ 9 ∧ X 81 5 ≠ 10) ∧ (i = 3 → X 81 5 ≠ 7 ∧ X 81 5 ≠ 8) ∧ (i = 1 → X 81 5 ≠ 34) ∧ (i = 0 → X 81 5 ≠ 33)) : ∀ dd, G a0 n J 1 A ((itW f 800 ((RG_expr k (i + 1) B J').1, (RG_expr k (i + 1) B J').2)).getD dd).1 (fun A' => PTD i a0 f0 h A A' ((itW f 800 ((RG_expr k (i + 1) B J').1, (RG_expr k (i + 1) B J').2)).getD dd).1) := by
  have r0 := R (i + 1) B J' (by omega) eb (DD.sm hD (by omega))
  have c0 : B 130 30 = 0 := s.1.symm.trans c
  have lpi : lp i ≤ lp (i + 1) ∧ lo i ≤ lo (i + 1) ∧ lo i ≤ lp i ∧ (if lo i = 4 then 5 else lo i) = lo i ∧ lo i ≠ 4 ∧ lo i < lp (i + 1) ∧ 1 ≤ lo i ∧ (3 ≤ i → 5 ≤ lo i) ∧ lp i = lo i ∧ (i = 1 ∨ 3 ≤ i + 1 → 3 ≤ i ∨ i + 1 ≤ 2) := by
    unfold lp lo
    have : i = 0 ∨ i = 1 ∨ i = 3 ∨ i = 4 := by omega
    rcases this with rfl | rfl | rfl | rfl <;> simp
  have g0 := lv (i + 1) a0 n f0 m h A B J J' (by omega) k3 eb (DD.sm hD (by omega)) s c d ⟨pre.1.imp_right (fun z => Nat.lt_of_lt_of_le z lpi.1), fun z y => pre.2 (by omega) y⟩
  have L := whl (f := f) (s0 := ((RG_expr k (i + 1) B J').1, (RG_expr k (i + 1) B J').2)) (fun t => PX 0 0 0 1 B t.1 ∧ G a0 n J 1 A t.1 (fun A' => FRS a0 h A A' ∧ ∃ m' h', SD a0 f0 h m' h' A' t.1 ∧ (∀ j, h ≤ j → j < h' → lo i ≤ rn (A' 84 j)) ∧ MU (i + 1) h h' A')) (fun t => G a0 n J 1 A t.1 (fun A' => PTD i a0 f0 h A A' t.1)) (fun t => mu t.1) ⟨r0.2, g0.mono (fun X _ _ p => ⟨p.1, by
      obtain ⟨m', h', q1, q2, q3⟩ := p.2
      exact ⟨m', h', q1, fun j a b => Nat.le_trans lpi.2.1 (q2 j a b), q3⟩⟩)⟩ (mu_b _) (fun t t' ht h1 => by
    obtain ⟨px, cn, X, w, r1, r2, r3, r4⟩ := ht
    obtain ⟨v, J3, hv, ct, e, hX⟩ := hf t t' h1
    have b := bin_E (v := v) (J := t.2) R (by omega : i + 1 ≤ 5) px.ei ct (DD.nx hD px ct (by omega)) hv
    have b2 := b.2.2 J3
    have cX : X 41 1 = 0 := r3.1.trans ct
    obtain ⟨rfl, fr, m', h', dd, hrn, mu0⟩ := r4 cX
    obtain ⟨sq, er, n35⟩ := hX X r3 cX
    have e84 : ∀ j, j < h → X 84 j = A 84 j := fun j hj => fr 84 j (by omega) (by omega) (by omega) (by omega) (by unfold K3 at k3; omega) (by unfold K3 at k3; omega) (by unfold K3 at k3; omega)
    have sg := sgn_G (J := J) (J' := t.2) k3 px.ei r3 cX dd er lpi.2.2.2.2.2.2.1 n35 (fun j a b => by rw [lpi.2.2.2.1]; exact hrn j a b) (by
      rw [lpi.2.2.2.1]
      by_cases z : h = 0
      · exact Or.inl z
      · rw [e84 (h - 1) (by omega), ← lpi.2.2.2.2.2.2.2.2.1]
        exact pre.1) (fun z => absurd z lpi.2.2.2.2.1)
    have kn : PX 1 0 1 1 t.1 (FI_X12_knot t.1 t.2) := (knot_E (x := 1) (J := t.2) px.ei).elim id And.right
    have go := goOn_E (x := 1) (J := t.2) kn.ei
    have pk := kn.tr go.2
    have D1 : DD (i + 1) (FI_X12_goOn (FI_X12_knot t.1 t.2) t.2) ≤ k := by
      have q := DD.nx hD px ct (by omega)
      unfold DD at q ⊢
      rw [if_pos ct] at q
      by_cases z : FI_X12_goOn (FI_X12_knot t.1 t.2) t.2 130 30 = 0
      · rw [if_pos z]
        have p := pk.2.2.2.2.2.2 z
        rw [p.1]
        have := p.2.1
        omega
      · rw [if_neg z]
        omega
    rw [e]
    refine ⟨⟨px.tr b2.2.1, ?_⟩, mu_lt px.ei ct b2.2.2⟩
    refine G.pre r1 r2 ?_
    rcases sg with ⟨A2, w2, t1, t2, t3, t4⟩ | ⟨A2, t1, t2, t3, t4, t5, t6, t7⟩
    · refine G.pre t1 t2 ?_
      have cb : ¬ FI_X12_goOn (FI_X12_knot t.1 t.2) t.2 130 30 = 0 := fun z => t4 (t3.1.trans z)
      have e9 : (RG_expr k (i + 1) (FI_X12_goOn (FI_X12_knot t.1 t.2) t.2) t.2).1 = FI_X12_goOn (FI_X12_knot t.1 t.2) t.2 := (R (i + 1) _ t.2 (by omega) go.2.ei D1).2.2.2.2.2.1 cb
      rw [e9, puts_f cb]
      exact G.f t3 t4
    · refine G.pre t1 t2 ?_
      have sq2 : SQ (A2 84 h) v := by rw [t6]; exact sq
      have g := rhs_G (f0 := f0) (h := h) (J := J) (J2 := t.2) (J3 := J3) (w := 1) (v := v) k3 lv (by omega : i + 1 ≤ 5) go.2.ei D1 R t3 (fun _ => ⟨rfl, t5, sq2, by unfold lo; split <;> (try omega) <;> split <;> (try omega) <;> split <;> (try omega) <;> split <;> (try omega) <;> split <;> omega, by rw [t6, er]; exact lpi.2.2.2.2.2.1, fun z y => by
        rw [t6, er]
        have := lpi.2.2.2.2.2.2.2.1
        have : 3 ≤ i := by omega
        have := lpi.2.2.2.2.2.2.2.1 this
        omega⟩)
      exact g.mono (fun Y cY sY p => by
        obtain ⟨p1, m3, h3, q1, q2, q3, q4, q5⟩ := p
        refine ⟨(fr.tr t7).tr (p1.dn (by omega)), m3, h3, q1, fun j a b => ?_, q5.dn (by omega)⟩
        by_cases z : j = h
        · rw [z, q3, t6, er]; exact Nat.le_refl _
        · exact Nat.le_trans lpi.2.1 (q4 j (by omega) b))) (fun t r ht h1 => by
    obtain ⟨px, g⟩ := ht
    obtain ⟨e, hX⟩ := hr t r h1
    rw [e]
    exact g.mono (fun Y cY sY p => by
      obtain ⟨p1, m3, h3, q1, q2, q3⟩ := p
      have x := hX Y sY cY
      exact ⟨p1, m3, h3, q1, q2, q3.of (Nat.le_refl _) x.1 x.2.1 (fun z => absurd z i2) x.2.2.1 x.2.2.2⟩))
  exact L.2.2
theorem expr_G {a0 n f0 m h k : Nat} {A B : SI} {J J' : SJ} (lv : LV k) (R : RC k) (k3 : K3 a0) (eb : EI B) (hD : DD 0 B ≤ k + 1) (s : Si n A B) (c : A 41 1 = 0) (d : SD a0 f0 h m h A B) (pre : Pre 0 h A) : G a0 n J 1 A (FI_X12_expression (RG_expr k) B J') (fun A' => PTD 0 a0 f0 h A A' (FI_X12_expression (RG_expr k) B J')) := by
  unfold FI_X12_expression F_X12_expression_w4
  refine loop_G (f := B_X12_expression_w4 (RG_expr k) B J') lv R k3 eb hD (by omega) (by omega) s c d pre (fun t t' hf => ?_) (fun t r hf => ?_) _
  · obtain ⟨q, h2⟩ := inl_of hf
    refine ⟨262, _, by decide, (isW q).1, by rw [← Sum.inl.inj h2]; rfl, fun X sX cX => ?_⟩
    have e : X 81 5 = 33 := (wd_iff (i := 13) sX cX (by omega)).mp q
    rw [e]
    exact ⟨Or.inr (Or.inl ⟨rfl, rfl⟩), by decide +kernel, by decide⟩
  · unfold B_X12_expression_w4 at hf
    by_cases q : F_X12_isWord 13 t.1 t.2 = 0
    · rw [if_pos q] at hf
      refine ⟨(Sum.inr.inj hf).symm, fun X sX cX => ⟨fun z => by omega, fun z => by omega, fun z => by omega, fun _ e => ?_⟩⟩
      exact (wd_iff (i := 13) (J := t.2) sX cX (by omega)).mpr e q
    · rw [if_neg q] at hf; cases hf
theorem conj_G {a0 n f0 m h k : Nat} {A B : SI} {J J' : SJ} (lv : LV k) (R : RC k) (k3 : K3 a0) (eb : EI B) (hD : DD 1 B ≤ k + 1) (s : Si n A B) (c : A 41 1 = 0) (d : SD a0 f0 h m h A B) (pre : Pre 1 h A) : G a0 n J 1 A (FI_X12_conjunction (RG_expr k) B J') (fun A' => PTD 1 a0 f0 h A A' (FI_X12_conjunction (RG_expr k) B J')) := by
  unfold FI_X12_conjunction F_X12_conjunction_w4
  refine loop_G (f := B_X12_conjunction_w4 (RG_expr k) B J') lv R k3 eb hD (by omega) (by omega) s c d pre (fun t t' hf => ?_) (fun t r hf => ?_) _
  · obtain ⟨q, h2⟩ := inl_of hf
    refine ⟨261, _, by decide, (isW q).1, by rw [← Sum.inl.inj h2]; rfl, fun X sX cX => ?_⟩
    have e : X 81 5 = 34 := (wd_iff (i := 14) sX cX (by omega)).mp q
    rw [e]
    exact ⟨Or.inr (Or.inr (Or.inl ⟨rfl, rfl⟩)), by decide +kernel, by decide⟩
  · unfold B_X12_conjunction_w4 at hf
    by_cases q : F_X12_isWord 14 t.1 t.2 = 0
    · rw [if_pos q] at hf
      refine ⟨(Sum.inr.inj hf).symm, fun X sX cX => ⟨fun z => by omega, fun z => by omega, fun _ e => ?_, fun z => by omega⟩⟩
      exact (wd_iff (i := 14) (J := t.2) sX cX (by omega)).mpr e q
    · rw [if_neg q] at hf; cases hf
theorem sum_G {a0 n f0 m h k : Nat} {A B : SI} {J J' : SJ} (lv : LV k) (R : RC k) (k3 : K3 a0) (eb : EI B) (hD : DD 3 B ≤ k + 1) (s : Si n A B) (c : A 41 1 = 0) (d : SD a0 f0 h m h A B) (pre : Pre 3 h A) : G a0 n J 1 A (FI_X12_sum (RG_expr k) B J') (fun A' => PTD 3 a0 f0 h A A' (FI_X12_sum (RG_expr k) B J')) := by
  unfold FI_X12_sum F_X12_sum_w4
  refine loop_G (f := B_X12_sum_w4 (RG_expr k) B J') lv R k3 eb hD (by omega) (by omega) s c d pre (fun t t' hf => ?_) (fun t r hf => ?_) _
  · unfold B_X12_sum_w4 at hf
    by_cases q : F_X12_isSign 43 t.1 t.2 = 0
    · rw [if_pos q] at hf
      by_cases q2 : F_X12_isSign 45 t.1 t.2 = 0
      · rw [if_pos q2] at hf; cases hf
      · rw [if_neg q2] at hf
        refine ⟨t.1 130 29, _, by rw [(isS q2).2.2]; decide, (isS q2).1, by rw [← Sum.inl.inj hf]; rfl, fun X sX cX => ?_⟩
        have e : X 81 5 = 8 := (sg_iff (i := 4) sX cX (by omega)).mp q2
        rw [e, (isS q2).2.2]
        exact ⟨Or.inl ⟨4, by omega, by omega, rfl, rfl⟩, by decide +kernel, by decide⟩
    · rw [if_neg q] at hf
      refine ⟨t.1 130 29, _, by rw [(isS q).2.2]; decide, (isS q).1, by rw [← Sum.inl.inj hf]; rfl, fun X sX cX => ?_⟩
      have e : X 81 5 = 7 := (sg_iff (i := 3) sX cX (by omega)).mp q
      rw [e, (isS q).2.2]
      exact ⟨Or.inl ⟨3, by omega, by omega, rfl, rfl⟩, by decide +kernel, by decide⟩
  · unfold B_X12_sum_w4 at hf
    by_cases q : F_X12_isSign 43 t.1 t.2 = 0
    · rw [if_pos q] at hf
      by_cases q2 : F_X12_isSign 45 t.1 t.2 = 0
      · rw [if_pos q2] at hf
        refine ⟨(Sum.inr.inj hf).symm, fun X sX cX => ⟨fun z => by omega, fun _ => ⟨fun e => ?_, fun e => ?_⟩, fun z => by omega, fun z => by omega⟩⟩
        · exact (sg_iff (i := 3) (J := t.2) sX cX (by omega)).mpr e q
        · exact (sg_iff (i := 4) (J := t.2) sX cX (by omega)).mpr e q2
      · rw [if_neg q2] at hf; cases hf
    · rw [if_neg q] at hf; cases hf
theorem prod_G {a0 n f0 m h k : Nat} {A B : SI} {J J' : SJ} (lv : LV k) (R : RC k) (k3 : K3 a0) (eb : EI B) (hD : DD 4 B ≤ k + 1) (s : Si n A B) (c : A 41 1 = 0) (d : SD a0 f0 h m h A B) (pre : Pre 4 h A) : G a0 n J 1 A (FI_X12_product (RG_expr k) B J') (fun A' => PTD 4 a0 f0 h A A' (FI_X12_product (RG_expr k) B J')) := by
  unfold FI_X12_product F_X12_product_w4
  refine loop_G (f := B_X12_product_w4 (RG_expr k) B J') lv R k3 eb hD (by omega) (by omega) s c d pre (fun t t' hf => ?_) (fun t r hf => ?_) _
  · unfold B_X12_product_w4 at hf
    by_cases q : F_X12_isSign 42 t.1 t.2 = 0
    · rw [if_pos q] at hf
      by_cases q2 : F_X12_isSign 47 t.1 t.2 = 0
      · rw [if_pos q2] at hf; cases hf
      · rw [if_neg q2] at hf
        refine ⟨t.1 130 29, _, by rw [(isS q2).2.2]; decide, (isS q2).1, by rw [← Sum.inl.inj hf]; rfl, fun X sX cX => ?_⟩
        have e : X 81 5 = 10 := (sg_iff (i := 6) sX cX (by omega)).mp q2
        rw [e, (isS q2).2.2]
        exact ⟨Or.inl ⟨6, by omega, by omega, rfl, rfl⟩, by decide +kernel, by decide⟩
    · rw [if_neg q] at hf
      refine ⟨t.1 130 29, _, by rw [(isS q).2.2]; decide, (isS q).1, by rw [← Sum.inl.inj hf]; rfl, fun X sX cX => ?_⟩
      have e : X 81 5 = 9 := (sg_iff (i := 5) sX cX (by omega)).mp q
      rw [e, (isS q).2.2]
      exact ⟨Or.inl ⟨5, by omega, by omega, rfl, rfl⟩, by decide +kernel, by decide⟩
  · unfold B_X12_product_w4 at hf
    by_cases q : F_X12_isSign 42 t.1 t.2 = 0
    · rw [if_pos q] at hf
      by_cases q2 : F_X12_isSign 47 t.1 t.2 = 0
      · rw [if_pos q2] at hf
        refine ⟨(Sum.inr.inj hf).symm, fun X sX cX => ⟨fun _ => ⟨fun e => ?_, fun e => ?_⟩, fun z => by omega, fun z => by omega, fun z => by omega⟩⟩
        · exact (sg_iff (i := 5) (J := t.2) sX cX (by omega)).mpr e q
        · exact (sg_iff (i := 6) (J := t.2) sX cX (by omega)).mpr e q2
      · rw [if_neg q2] at hf; cases hf
    · rw [if_neg q] at hf; cases hf
/-- ranks of kinds -/
theorem rn_s : ∀ i, i < 13 → (rn (nI (4 + i)) = 4 ↔ 7 ≤ i) ∧ (rn (nI (4 + i)) = 0 ∨ 3 ≤ i) := by decide +kernel
theorem rn_w : ∀ i, i < 23 → rn (nI (20 + i)) ≠ 4 ∧ (rn (nI (20 + i)) = 0 ∨ i = 13 ∨ i = 14 ∨ i = 15) := by decide +kernel
theorem sgv_c : ∀ i, i < 13 → (7 ≤ i ↔ (sgv i = 60 ∨ sgv i = 62 ∨ sgv i = 61 ∨ (256 : Int32) ≤ sgv i)) := by decide +kernel
theorem KV.rnk4 {k v s w : Int32} (h : KV k v s w) : (rn k = 4 ↔ (s = 3 ∧ (w = 60 ∨ w = 62 ∨ w = 61 ∨ (256 : Int32) ≤ w))) ∧ (rn k = 4 → SQ k w) ∧ (rn k = 0 ∨ k = 33 ∨ k = 34 ∨ k = 35 ∨ rn k = 4 ∨ k = 7 ∨ k = 8 ∨ k = 9 ∨ k = 10) := by
  have z : rn 0 = 0 ∧ rn 1 = 0 ∧ rn 2 = 0 ∧ rn 3 = 0 := by decide +kernel
  rcases h with ⟨a, b⟩ | ⟨a, b⟩ | ⟨a, b, c⟩ | ⟨a, b, c⟩ | ⟨i, hi, a, b, c⟩ | ⟨i, hi, a, b, c⟩
  · subst a b; rw [z.1]; exact ⟨⟨fun q => by omega, fun q => absurd q.1 (by decide)⟩, fun q => by omega, Or.inl rfl⟩
  · subst a b; rw [z.2.1]; exact ⟨⟨fun q => by omega, fun q => absurd q.1 (by decide)⟩, fun q => by omega, Or.inl rfl⟩
  · subst a b; rw [z.2.2.1]; exact ⟨⟨fun q => by omega, fun q => absurd q.1 (by decide)⟩, fun q => by omega, Or.inl rfl⟩
  · subst a b; rw [z.2.2.2]; exact ⟨⟨fun q => by omega, fun q => absurd q.1 (by decide)⟩, fun q => by omega, Or.inl rfl⟩
  · have r := rn_s i hi
    have g := sgv_c i hi
    subst a b c
    refine ⟨⟨fun q => ⟨rfl, g.mp (r.1.mp q)⟩, fun q => r.1.mpr (g.mpr q.2)⟩, fun q => Or.inl ⟨i, by have := r.1.mp q; omega, hi, rfl, rfl⟩, ?_⟩
    rcases r.2 with y | y
    · exact Or.inl y
    · by_cases x : 7 ≤ i
      · exact Or.inr (Or.inr (Or.inr (Or.inr (Or.inl (r.1.mpr x)))))
      · rcases (by omega : i = 3 ∨ i = 4 ∨ i = 5 ∨ i = 6) with rfl | rfl | rfl | rfl
        · exact Or.inr (Or.inr (Or.inr (Or.inr (Or.inr (Or.inl rfl)))))
        · exact Or.inr (Or.inr (Or.inr (Or.inr (Or.inr (Or.inr (Or.inl rfl))))))
        · exact Or.inr (Or.inr (Or.inr (Or.inr (Or.inr (Or.inr (Or.inr (Or.inl rfl)))))))
        · exact Or.inr (Or.inr (Or.inr (Or.inr (Or.inr (Or.inr (Or.inr (Or.inr rfl)))))))
  · have r := rn_w i hi
    subst a b c
    refine ⟨⟨fun q => absurd q r.1, fun q => absurd q.1 (by decide)⟩, fun q => absurd q r.1, ?_⟩
    rcases r.2 with y | rfl | rfl | rfl
    · exact Or.inl y
    · exact Or.inr (Or.inl rfl)
    · exact Or.inr (Or.inr (Or.inl rfl))
    · exact Or.inr (Or.inr (Or.inr (Or.inl rfl)))
