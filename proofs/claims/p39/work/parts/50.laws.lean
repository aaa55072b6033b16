/-! the model: its laws go well where their code is whole -/
/-- code from place k, n knots, d waiting numbers -/
def okc (K V : Nat → Int32) : Nat → Nat → Nat → Prop
  | 0, _, _ => True
  | n + 1, k, d => if K k = 2 then (if V k = 260 then 1 ≤ d ∧ okc K V n (k + 1) d else 2 ≤ d ∧ okc K V n (k + 1) (d - 1)) else (K k = 0 ∨ inR (V k) 7) ∧ okc K V n (k + 1) (d + 1)
def LW (I : SI) (k : Nat) : Prop := ∃ f n : Nat, I 148 k = nI f ∧ I 149 k = nI (f + n) ∧ f + n ≤ 64 ∧ okc (I 150) (I 151) n f 0
/-- all but the count of waiting numbers -/
def Fr38 (I I' : SI) : Prop := ∀ a b, ¬ (a = 130 ∧ b = 38) → I' a b = I a b
theorem cmpn {x : Int64} (h : ¬ lg_cmp x 0 = 0) : ¬ x = 0 := fun e => h (by rw [e]; decide +kernel)
theorem absn {x : Int64} (h : ¬ lg_cmp x 0 = 0) : ¬ absL x = 0 := by
  intro e
  refine cmpn h ?_
  unfold absL at e
  by_cases q : 0 < x
  · rw [if_pos q] at e; exact e
  · rw [if_neg q] at e
    exact Int64.neg_neg.symm.trans (by rw [e]; rfl)
theorem works_H {a0 : Int32} {I : SI} {J : SJ} {d : Nat} (hI : I 130 38 = nI d) (hd : d ≤ 64) (h1 : 1 ≤ d) (h2 : ¬ (a0 = 260) → 2 ≤ d) : H_X12_works a0 I J ∧ FI_X12_works a0 I J = (if a0 = 260 then I else u2 I 130 38 (nI (d - 1))) := by
  have e1 : I 130 38 - 1 = nI (d - 1) := by rw [hI]; exact pk_sub (b := 1) h1
  have w1 : inR (I 130 38 - 1) 64 := by rw [e1]; exact inR_nI (by omega) (by decide)
  have w2 : ¬ (a0 = 260) → inR (I 130 38 - 2) 64 := fun h => by
    have := h2 h
    rw [hI, show nI d - 2 = nI (d - 2) from pk_sub (b := 2) this]
    exact inR_nI (by omega) (by decide)
  have w3 : ¬ (a0 = 260) → inR (u2 I 130 38 (I 130 38 - 1) 130 38 - 1) 64 := fun h => by
    have := h2 h
    rw [u2_s, e1, show nI (d - 1) - 1 = nI (d - 1 - 1) from pk_sub (b := 1) (by omega)]
    exact inR_nI (by omega) (by decide)
  refine ⟨?_, ?_⟩
  · unfold H_X12_works
    exact ⟨w1, fun h0 => w2 h0, fun h0 _ _ => w3 h0, fun _ _ h2 => absn h2, fun h0 _ _ _ => w3 h0, fun h0 _ _ => w3 h0, fun h0 _ _ _ => w3 h0, fun _ _ _ _ _ h5 => cmpn h5, fun h0 _ _ _ _ _ => w3 h0, fun h0 _ _ _ _ _ => w3 h0, fun h0 _ _ _ _ _ _ => w3 h0, fun h0 _ _ _ _ _ _ _ => w3 h0, fun h0 _ _ _ _ _ _ _ _ => w3 h0, fun h0 _ _ _ _ _ _ _ _ _ => w3 h0, fun h0 _ _ _ _ _ _ _ _ _ _ => w3 h0, fun h0 _ _ _ _ _ _ _ _ _ _ _ => w3 h0, fun h0 _ _ _ _ _ _ _ _ _ _ _ => w3 h0, fun _ _ => w1, fun _ _ => w1⟩
  · unfold FI_X12_works
    rw [e1]
    by_cases q : a0 = 260
    · simp only [if_pos q, ite_self]
    · simp only [if_neg q, ite_self]
/-- in the loop over a law's knots -/
def GP (I : SI) (f n : Nat) (s : Int32 × SI × SJ) : Prop := ∃ j d : Nat, j ≤ n ∧ s.1 = nI (f + j) ∧ s.2.1 130 38 = nI d ∧ d ≤ j ∧ okc (I 150) (I 151) (n - j) (f + j) d ∧ Fr38 I s.2.1
theorem gp_use {I : SI} {f n k : Nat} {s : Int32 × SI × SJ} (hfn : f + n ≤ 64) (hk : k < 3) (e2 : I 149 k = nI (f + n)) (h : GP I f n s) (hn : ¬ s.2.1 149 (nI k).toNatClampNeg ≤ s.1) :
    inR s.1 128 ∧ inR (s.2.1 130 38) 64 ∧ (¬ s.2.1 150 s.1.toNatClampNeg = 2 → (s.2.1 150 s.1.toNatClampNeg = 0 ∨ inR (s.2.1 151 s.1.toNatClampNeg) 7) ∧ ∀ (x : Int64) (J : SJ), GP I f n (s.1 + 1, u2 s.2.1 130 38 (s.2.1 130 38 + 1), J)) ∧
    (s.2.1 150 s.1.toNatClampNeg = 2 → H_X12_works (s.2.1 151 s.1.toNatClampNeg) s.2.1 s.2.2 ∧ ∀ J, GP I f n (s.1 + 1, FI_X12_works (s.2.1 151 s.1.toNatClampNeg) s.2.1 s.2.2, J)) ∧ f + n - (s.1 + 1).toNatClampNeg < f + n - s.1.toNatClampNeg := by
  obtain ⟨j, d, hj, h1, h38, hdj, hok, hfr⟩ := h
  have e9 : s.2.1 149 (nI k).toNatClampNeg = nI (f + n) := by
    rw [nI_clamp (by omega), hfr 149 k (by omega), e2]
  have hlt : j < n := by
    by_cases q : n ≤ j
    · exact absurd (show s.2.1 149 (nI k).toNatClampNeg ≤ s.1 by rw [e9, h1]; exact nI_le (by omega) (by omega)) hn
    · omega
  have ec : s.1.toNatClampNeg = f + j := by rw [h1]; exact nI_clamp (by omega)
  have e50 : s.2.1 150 (f + j) = I 150 (f + j) := hfr _ _ (by omega)
  have e51 : s.2.1 151 (f + j) = I 151 (f + j) := hfr _ _ (by omega)
  have em : n - j = (n - (j + 1)) + 1 := by omega
  rw [em] at hok
  unfold okc at hok
  rw [ec, e50, e51]
  have en : s.1 + 1 = nI (f + (j + 1)) := by rw [h1, nI_1]; rfl
  refine ⟨by rw [h1]; exact inR_nI (by omega) (by decide), by rw [h38]; exact inR_nI (by omega) (by decide), fun q => ?_, fun q => ?_, ?_⟩
  · rw [if_neg q] at hok
    refine ⟨hok.1, fun _ J => ⟨j + 1, d + 1, by omega, en, ?_, by omega, hok.2, fun a b z => (u2_n _ _ z).trans (hfr a b z)⟩⟩
    show u2 s.2.1 130 38 (s.2.1 130 38 + 1) 130 38 = nI (d + 1)
    rw [u2_s, h38, nI_1]
  · rw [if_pos q] at hok
    by_cases q2 : I 151 (f + j) = 260
    · rw [if_pos q2] at hok
      have k2 := works_H (a0 := I 151 (f + j)) (I := s.2.1) (J := s.2.2) h38 (by omega) hok.1 (fun z => absurd q2 z)
      refine ⟨k2.1, fun J => ⟨j + 1, d, by omega, en, ?_, by omega, hok.2, ?_⟩⟩
      · show FI_X12_works (I 151 (f + j)) s.2.1 s.2.2 130 38 = nI d
        rw [k2.2, if_pos q2]; exact h38
      · show Fr38 I (FI_X12_works (I 151 (f + j)) s.2.1 s.2.2)
        rw [k2.2, if_pos q2]; exact hfr
    · rw [if_neg q2] at hok
      have k2 := works_H (a0 := I 151 (f + j)) (I := s.2.1) (J := s.2.2) h38 (by omega) (by omega) (fun _ => hok.1)
      refine ⟨k2.1, fun J => ⟨j + 1, d - 1, by omega, en, ?_, by omega, hok.2, ?_⟩⟩
      · show FI_X12_works (I 151 (f + j)) s.2.1 s.2.2 130 38 = nI (d - 1)
        rw [k2.2, if_neg q2]; exact u2_s _ _ _ _
      · show Fr38 I (FI_X12_works (I 151 (f + j)) s.2.1 s.2.2)
        rw [k2.2, if_neg q2]
        exact fun a b z => (u2_n _ _ z).trans (hfr a b z)
  · rw [en, nI_clamp (by omega)]
    omega
theorem goes_H {k : Nat} {I : SI} {J : SJ} (hk : k < 3) (hL : LW I k) : H_X12_goes (nI k) I J ∧ Fr38 I (FI_X12_goes (nI k) I J) := by
  obtain ⟨f, n, e1, e2, hfn, hok⟩ := hL
  have h6 : inR (nI k) 6 := inR_nI (by omega) (by decide)
  have es : u2 I 130 38 0 148 (nI k).toNatClampNeg = nI f := by rw [nI_clamp (by omega)]; exact (u2_n _ _ (by omega)).trans e1
  have L := whl (f := B_X12_goes_w12 (nI k) I J) (s0 := (u2 I 130 38 0 148 (nI k).toNatClampNeg, u2 I 130 38 0, J)) (GP I f n) (fun r => Fr38 I (match r with | .inl z => z.2.1 | .inr z => z.2.1)) (fun s => f + n - s.1.toNatClampNeg) ⟨0, 0, Nat.zero_le _, es, (by show u2 I 130 38 0 130 38 = nI 0; rw [u2_s]; rfl), Nat.le_refl _, hok, fun a b z => u2_n _ _ z⟩ (by show f + n - _ < 800; omega) (fun s s' hp hf => ?_) (fun s z hp hf => ?_)
  · refine ⟨?_, ?_⟩
    · unfold H_X12_goes
      exact ⟨h6, L.1, fun _ _ _ => h6, fun _ _ h0 h1 => (gp_use hfn hk e2 (L.2.1 _ _ h0) h1).1, fun _ _ h0 h1 _ => (gp_use hfn hk e2 (L.2.1 _ _ h0) h1).1, fun _ _ h0 h1 _ => (gp_use hfn hk e2 (L.2.1 _ _ h0) h1).2.1, fun _ _ h0 h1 _ _ => (gp_use hfn hk e2 (L.2.1 _ _ h0) h1).1, fun _ _ h0 h1 h2 h3 => ((gp_use hfn hk e2 (L.2.1 _ _ h0) h1).2.2.1 h2).1.resolve_left h3, fun _ _ h0 h1 _ _ => (gp_use hfn hk e2 (L.2.1 _ _ h0) h1).1, fun _ _ h0 h1 _ => (gp_use hfn hk e2 (L.2.1 _ _ h0) h1).1, fun _ _ h0 h1 h2 => ((gp_use hfn hk e2 (L.2.1 _ _ h0) h1).2.2.2.1 h2).1⟩
    · have q := L.2.2 (.inl (u2 I 130 38 0 148 (nI k).toNatClampNeg, u2 I 130 38 0, J))
      unfold FI_X12_goes F_X12_goes_w12
      exact q
  · unfold B_X12_goes_w12 at hf
    by_cases c1 : s.2.1 149 (nI k).toNatClampNeg ≤ s.1
    · rw [if_pos c1] at hf; cases hf
    · rw [if_neg c1] at hf
      obtain ⟨u1, u2', u3, u4, u5⟩ := gp_use hfn hk e2 hp c1
      by_cases c2 : s.2.1 150 s.1.toNatClampNeg = 2
      · rw [if_pos c2] at hf
        by_cases c3 : F_X12_works (s.2.1 151 s.1.toNatClampNeg) s.2.1 s.2.2 = 0
        · rw [if_pos c3] at hf; cases hf
        · rw [if_neg c3] at hf; cases hf
          exact ⟨(u4 c2).2 _, u5⟩
      · rw [if_neg c2] at hf; cases hf
        exact ⟨(u3 c2).2 0 _, u5⟩
  · unfold B_X12_goes_w12 at hf
    by_cases c1 : s.2.1 149 (nI k).toNatClampNeg ≤ s.1
    · rw [if_pos c1] at hf; cases hf
      obtain ⟨j, d, -, -, -, -, -, hfr⟩ := hp
      exact hfr
    · rw [if_neg c1] at hf
      obtain ⟨u1, u2', u3, u4, u5⟩ := gp_use hfn hk e2 hp c1
      by_cases c2 : s.2.1 150 s.1.toNatClampNeg = 2
      · rw [if_pos c2] at hf
        by_cases c3 : F_X12_works (s.2.1 151 s.1.toNatClampNeg) s.2.1 s.2.2 = 0
        · rw [if_pos c3] at hf; cases hf
          obtain ⟨j, d, -, -, -, -, -, hfr⟩ := (u4 c2).2 s.2.2
          exact hfr
        · rw [if_neg c3] at hf; cases hf
      · rw [if_neg c2] at hf; cases hf
theorem isSo_H {k : Nat} {a1 : Int32} {I : SI} {J : SJ} (hk : k < 3) (hL : LW I k) (ha : a1 = 0 ∨ a1 = 1) : H_X12_isSo (nI k) a1 I J ∧ Fr38 I (FI_X12_isSo (nI k) a1 I J) := by
  have g := goes_H (J := J) hk hL
  refine ⟨?_, ?_⟩
  · unfold H_X12_isSo H_X12_hasLaw
    exact ⟨inR_nI (by omega) (by decide), fun _ => ha, fun _ => g.1, fun _ _ => ha⟩
  · unfold FI_X12_isSo
    simp only [ite_self]
    split
    · exact fun _ _ _ => rfl
    · exact g.2
