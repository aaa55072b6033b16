/-! the model: days pass well, and change their own cells alone -/
def SM (I : SI) : Prop := inR (I 132 0) 7 ∧ inR (I 132 1) 9 ∧ inR (I 132 3) 5 ∧ inR (I 132 4) 5 ∧ inR (I 132 5) 4 ∧ inR (I 132 6) 101 ∧ (∀ p, p < 8 → inR (I 141 p) 6) ∧ (∀ m, m < 12 → inR (I 135 m) 7) ∧ ∀ k, k < 3 → LW I k
/-- all but the days' own cells -/
def FrM (I I' : SI) : Prop := ∀ a b, (a < 154 ∨ 167 < a) → ¬ (a = 130 ∧ b = 38) → I' a b = I a b
theorem FrM.rf (I : SI) : FrM I I := fun _ _ _ _ => rfl
theorem FrM.tr {I I1 I2 : SI} (h : FrM I I1) (h2 : FrM I1 I2) : FrM I I2 := fun a b q r => (h2 a b q r).trans (h a b q r)
theorem FrM.u {I I1 : SI} {a b : Nat} {v : Int32} (h : FrM I I1) (ha : 154 ≤ a ∧ a ≤ 167) : FrM I (u2 I1 a b v) := fun c d q r => (u2_n _ _ (by omega)).trans (h c d q r)
theorem Fr38.m {I I1 : SI} (h : Fr38 I I1) : FrM I I1 := fun a b _ r => h a b r
theorem SM.of {I I1 : SI} (h : SM I) (e : ∀ a b, (a = 132 ∨ a = 135 ∨ a = 141 ∨ (148 ≤ a ∧ a ≤ 151)) → I1 a b = I a b) : SM I1 := by
  obtain ⟨h0, h1, h3, h4, h5, h6, hp, hw, hl⟩ := h
  refine ⟨by rw [e 132 0 (by omega)]; exact h0, by rw [e 132 1 (by omega)]; exact h1, by rw [e 132 3 (by omega)]; exact h3, by rw [e 132 4 (by omega)]; exact h4, by rw [e 132 5 (by omega)]; exact h5, by rw [e 132 6 (by omega)]; exact h6, fun p q => by rw [e 141 p (by omega)]; exact hp p q, fun p q => by rw [e 135 p (by omega)]; exact hw p q, fun k q => ?_⟩
  obtain ⟨a, n, e1, e2, hn, ho⟩ := hl k q
  have z0 : I1 150 = I 150 := funext fun b => e 150 b (by omega)
  have z1 : I1 151 = I 151 := funext fun b => e 151 b (by omega)
  exact ⟨a, n, (e 148 k (by omega)).trans e1, (e 149 k (by omega)).trans e2, hn, by rw [z0, z1]; exact ho⟩
theorem SM.fr {I I1 : SI} (h : SM I) (f : FrM I I1) : SM I1 := h.of (fun a b q => f a b (by omega) (by omega))
theorem SM.m {I : SI} (h : SM I) {i : Nat} (hi : i < (I 132 0).toNatClampNeg) : inR (nI i) 6 := in_it (N := 6) (by decide) h.1 hi
theorem SM.s {I : SI} (h : SM I) {i : Nat} (hi : i < (I 132 1).toNatClampNeg) : inR (nI i) 8 := in_it (N := 8) (by decide) h.2.1 hi
theorem SM.pm {I : SI} (h : SM I) {p : Int32} (hp : inR p 4) : inR (I 141 p.toNatClampNeg) 6 := h.2.2.2.2.2.2.1 _ (Nat.lt_of_lt_of_le hp.2 (by decide))
theorem SM.l {I : SI} (h : SM I) {k : Nat} (hk : k < 3) : LW I k := h.2.2.2.2.2.2.2.2 k hk
theorem isDone_H {f s : Int32} {I : SI} {J : SJ} (hf : inR f 23) (hs : inR s 8) : H_X12_isDone f s I J := by unfold H_X12_isDone; exact ix8 hf hs
theorem wayIn_H {f s m : Int32} {I : SI} {J : SJ} (hf : inR f 23) (hs : inR s 8) (hm : inR m 6) : H_X12_wayIn f s m I J := by unfold H_X12_wayIn; exact ix48 hf hs hm
theorem strikeOf_H {m : Int32} {I : SI} {J : SJ} (hm : inR m 6) : H_X12_strikeOf m I J := by unfold H_X12_strikeOf; exact fun _ _ => hm.le (by decide)
theorem timesOf_H {a0 a1 a2 : Int32} {I : SI} {J : SJ} (hS : SM I) (hf : inR a0 23) (hm : inR a1 6) : H_X12_timesOf a0 a1 a2 I J := by
  unfold H_X12_timesOf
  exact ⟨fun _ _ h0 _ _ => isDone_H hf (hS.s h0), fun _ _ h0 _ _ _ => wayIn_H hf (hS.s h0) hm⟩
theorem callsMark_H {a0 a1 a2 a3 a4 : Int32} {I : SI} {J : SJ} (hS : SM I) (hf : inR a0 23) (hm : inR a1 6) : H_X12_callsMark a0 a1 a2 a3 a4 I J := by
  unfold H_X12_callsMark
  exact ⟨strikeOf_H hm, ix6 hf hm, timesOf_H hS hf hm, hf⟩
theorem doesClash_H {a0 a1 a2 : Int32} {I : SI} {J : SJ} (hf : inR a0 23) (hs : inR a1 8) (hm : inR a2 6) : H_X12_doesClash a0 a1 a2 I J := by
  unfold H_X12_doesClash
  exact ⟨wayIn_H hf hs hm, isDone_H hf hs, fun _ _ => ix6 hf hm, fun _ _ _ => ix6 hf hm⟩
theorem clashesOf_H {a0 a1 : Int32} {I : SI} {J : SJ} (hS : SM I) (hf : inR a0 23) (hs : inR a1 8) : H_X12_clashesOf a0 a1 I J := by
  unfold H_X12_clashesOf
  exact fun _ _ h0 _ => doesClash_H hf hs (hS.m h0)
theorem clashesAll_H {a0 : Int32} {I : SI} {J : SJ} (hS : SM I) (hf : inR a0 23) : H_X12_clashesAll a0 I J := by
  unfold H_X12_clashesAll
  exact fun _ _ h0 _ => clashesOf_H hS hf (hS.s h0)
theorem callsShot_H {a0 a1 : Int32} {I : SI} {J : SJ} (hS : SM I) (hf : inR a0 23) (hs : inR a1 8) : H_X12_callsShot a0 a1 I J := by
  unfold H_X12_callsShot
  exact ⟨clashesOf_H hS hf hs, hs.le (by decide), hf, fun _ _ h0 _ => ix6 hf (hS.m h0), fun _ _ h0 _ => wayIn_H hf hs (hS.m h0)⟩
theorem isCold_H {a0 : Int32} {I : SI} {J : SJ} (hS : SM I) : H_X12_isCold a0 I J := by
  unfold H_X12_isCold
  exact ⟨fun _ _ h0 _ => (in_it (N := 3) (by decide) hS.2.2.2.2.1 h0).le (by decide), fun _ _ h0 _ _ => (in_it (N := 3) (by decide) hS.2.2.2.2.1 h0).le (by decide)⟩
theorem isAway_H {a0 a1 : Int32} {I : SI} {J : SJ} (hS : SM I) (hf : inR a0 23) : H_X12_isAway a0 a1 I J ∧ FrM I (FI_X12_isAway a0 a1 I J) := by
  refine ⟨?_, ?_⟩
  · unfold H_X12_isAway
    exact ⟨fun _ _ => hf, fun _ _ => isCold_H hS, fun _ _ _ _ _ _ => hf⟩
  · unfold FI_X12_isAway S1_X12_isAway
    simp only [ite_self]
    repeat' split
    all_goals first
      | exact FrM.rf I
      | exact (FrM.rf I).u (by decide)
theorem films_H {a0 a1 a2 : Int32} {I : SI} {J : SJ} (hS : SM I) (hf : inR a0 23) (hs : inR a1 8) : H_X12_films a0 a1 a2 I J ∧ FrM I (FI_X12_films a0 a1 a2 I J) := by
  have hF : FrM I (u2 I 163 (((8 : Int32) * a0) + a1).toNatClampNeg 1) := (FrM.rf I).u (by decide)
  have L := whc (f := B_X12_films_w15 a0 a1 a2 I J) (x0 := (u2 I 163 (((8 : Int32) * a0) + a1).toNatClampNeg 1, J)) 6 (by decide) (fun x => FrM (u2 I 163 (((8 : Int32) * a0) + a1).toNatClampNeg 1) x.1) (fun r => FrM (u2 I 163 (((8 : Int32) * a0) + a1).toNatClampNeg 1) r.2.1) (FrM.rf _) (fun e x s' he hP h => ?_) (fun e x z he hP h => ?_)
  · refine ⟨?_, ?_⟩
    · unfold H_X12_films
      exact ⟨ix8 hf hs, L.1, fun _ _ h0 h1 _ => ix6 hf (cn_lt (N := 6) (by decide) (L.2.1 _ _ h0).1 (hS.fr (hF.tr (L.2.1 _ _ h0).2)).1 h1), fun _ _ h0 h1 _ => ix48 hf hs (cn_lt (N := 6) (by decide) (L.2.1 _ _ h0).1 (hS.fr (hF.tr (L.2.1 _ _ h0).2)).1 h1), fun _ _ h0 h1 _ _ => ix48 hf hs (cn_lt (N := 6) (by decide) (L.2.1 _ _ h0).1 (hS.fr (hF.tr (L.2.1 _ _ h0).2)).1 h1), fun _ _ _ _ _ _ _ _ => hs.le (by decide), fun _ _ h0 h1 _ _ _ _ => callsMark_H (hS.fr (hF.tr (L.2.1 _ _ h0).2)) hf (cn_lt (N := 6) (by decide) (L.2.1 _ _ h0).1 (hS.fr (hF.tr (L.2.1 _ _ h0).2)).1 h1), fun _ _ h0 h1 _ _ _ _ => strikeOf_H (cn_lt (N := 6) (by decide) (L.2.1 _ _ h0).1 (hS.fr (hF.tr (L.2.1 _ _ h0).2)).1 h1), fun _ _ h0 _ _ _ _ _ => (isSo_H (k := 0) (by decide) ((hS.fr (hF.tr (L.2.1 _ _ h0).2)).l (by decide)) (by unfold T_X12_films_j145; split <;> first | exact Or.inl rfl | exact Or.inr rfl)).1, fun _ _ h0 h1 _ _ _ _ _ => ix48 hf hs (cn_lt (N := 6) (by decide) (L.2.1 _ _ h0).1 (hS.fr (hF.tr (L.2.1 _ _ h0).2)).1 h1), fun _ _ h0 h1 _ _ _ _ _ => ix6 hf (cn_lt (N := 6) (by decide) (L.2.1 _ _ h0).1 (hS.fr (hF.tr (L.2.1 _ _ h0).2)).1 h1), fun _ _ h0 h1 _ _ _ _ => ix48 hf hs (cn_lt (N := 6) (by decide) (L.2.1 _ _ h0).1 (hS.fr (hF.tr (L.2.1 _ _ h0).2)).1 h1), fun _ _ _ _ _ _ _ _ => hf⟩
    · unfold FI_X12_films F_X12_films_w15
      exact hF.tr (L.2.2 _)
  · have hSx : SM x.1 := hS.fr (hF.tr hP)
    have f2 : FrM (u2 I 163 (((8 : Int32) * a0) + a1).toNatClampNeg 1) (S2_X12_films a0 a1 a2 I J (e, x)) := hP.tr (isSo_H (k := 0) (by decide) (hSx.l (by decide)) (by unfold T_X12_films_j145; split <;> first | exact Or.inl rfl | exact Or.inr rfl)).2.m
    unfold B_X12_films_w15 at h
    by_cases c1 : x.1 132 0 ≤ e
    · rw [if_pos c1] at h; cases h
    · rw [if_neg c1] at h
      have ce := cn_lt (N := 6) (by decide) he hSx.1 c1
      repeat' split at h
      all_goals cases h
      all_goals refine ⟨ce, rfl, ?_⟩
      all_goals first
        | exact hP
        | exact f2
        | exact f2.u (by decide)
        | exact (hP.u (by decide)).u (by decide)
  · unfold B_X12_films_w15 at h
    repeat' split at h
    all_goals cases h
    all_goals exact hP
theorem gives_H {a0 a1 : Int32} {I : SI} {J : SJ} (hS : SM I) (hf : inR a0 23) (hp : inR a1 4) : H_X12_gives a0 a1 I J ∧ FrM I (FI_X12_gives a0 a1 I J) := by
  have hm := hS.pm hp
  have f4 : FrM I (S4_X12_gives a0 a1 I J) := (((FrM.rf I).u (by decide)).u (by decide)).u (by decide)
  have f14 : FrM I (S14_X12_gives a0 a1 I J) := (((FrM.rf I).u (by decide)).u (by decide)).u (by decide)
  have g7 := isSo_H (k := 1) (a1 := T_X12_gives_j148 a0 a1 I J) (J := S5_X12_gives a0 a1 I J) (by decide) ((hS.fr f4).l (by decide)) (by unfold T_X12_gives_j148; split <;> first | exact Or.inl rfl | exact Or.inr rfl)
  have g18 := isSo_H (k := 1) (a1 := T_X12_gives_j148_2 a0 a1 I J) (J := S15_X12_gives a0 a1 I J) (by decide) ((hS.fr f14).l (by decide)) (by unfold T_X12_gives_j148_2; split <;> first | exact Or.inl rfl | exact Or.inr rfl)
  have f7 : FrM I (S7_X12_gives a0 a1 I J) := f4.tr g7.2.m
  have f18 : FrM I (S18_X12_gives a0 a1 I J) := f14.tr g18.2.m
  refine ⟨?_, ?_⟩
  · unfold H_X12_gives
    exact ⟨hp.le (by decide), ix6 hf hm, ix4 hf hp, fun _ _ => hp.le (by decide), fun _ _ _ _ => ix4 hf hp, fun _ _ _ _ => ix6 hf hm, fun _ _ _ _ => callsMark_H (hS.fr f4) hf hm, fun _ _ _ _ => strikeOf_H hm, fun _ _ _ _ => (g7).1, fun _ _ _ _ _ _ => hp.le (by decide), fun _ _ _ _ _ _ => ix6 hf hm, fun _ _ _ _ _ => ix4 hf hp, fun _ _ _ _ _ => ix6 hf hm, fun _ _ _ _ _ => callsMark_H (hS.fr f14) hf hm, fun _ _ _ _ _ => strikeOf_H hm, fun _ _ _ _ _ => (g18).1, fun _ _ _ _ _ _ _ => hp.le (by decide), fun _ _ _ _ _ _ _ => ix6 hf hm⟩
  · unfold FI_X12_gives
    repeat' split
    all_goals first
      | exact FrM.rf I
      | exact f7
      | exact f18
      | exact f7.u (by decide)
      | exact f18.u (by decide)
theorem priceOf_H {a0 a1 : Int32} {I : SI} {J : SJ} (hS : SM I) (hf : inR a0 23) (hs : inR a1 8) : H_X12_priceOf a0 a1 I J ∧ FrM I (FI_X12_priceOf a0 a1 I J) := by
  have g := goes_H (k := 2) (J := FJ_X12_callsShot a0 a1 I J) (by decide) (hS.l (k := 2) (by decide))
  refine ⟨?_, ?_⟩
  · unfold H_X12_priceOf
    exact ⟨callsShot_H hS hf hs, (by unfold H_X12_hasLaw; exact ⟨rfl, by decide⟩), fun _ => hs.le (by decide), fun _ => g.1, fun _ _ => hs.le (by decide)⟩
  · unfold FI_X12_priceOf
    simp only [ite_self]
    split
    · exact FrM.rf I
    · exact g.2.m
theorem filmsAgain_H {a0 : Int32} {I : SI} {J : SJ} (hS : SM I) (hf : inR a0 23) : H_X12_filmsAgain a0 I J ∧ FrM I (FI_X12_filmsAgain a0 I J) := by
  have K : ∀ s2 : Int32 × SI × SJ, ¬ s2.2.1 132 1 ≤ s2.1 → inR s2.1 (8 + 1) → FrM I s2.2.1 → (itW (B_X12_filmsAgain_w71_3 a0 I J s2) 800 (0, S6_X12_filmsAgain a0 I J s2)).isSome = true ∧ (∀ n s, wN (B_X12_filmsAgain_w71_3 a0 I J s2) n (0, S6_X12_filmsAgain a0 I J s2) = some s → inR s.1 (6 + 1) ∧ FrM I s.2) ∧ ∀ d, FrM I (((itW (B_X12_filmsAgain_w71_3 a0 I J s2) 800 (0, S6_X12_filmsAgain a0 I J s2)).getD d).2) := by
    intro s2 hn he hP
    have hSx := hS.fr hP
    have h8 := cn_lt (N := 8) (by decide) he hSx.2.1 hn
    have p1 := priceOf_H (J := s2.2.2) hSx hf h8
    have p2 := priceOf_H (J := FJ_X12_priceOf a0 s2.1 s2.2.1 s2.2.2) (hSx.fr p1.2) hf h8
    have f6 : FrM I (S6_X12_filmsAgain a0 I J s2) := (((hP.tr p1.2).tr p2.2).u (by decide)).u (by decide)
    refine whc (f := B_X12_filmsAgain_w71_3 a0 I J s2) 6 (by decide) (FrM I) (fun r => FrM I r.2) f6 (fun e x s' he2 hP2 h => ?_) (fun e x z he2 hP2 h => ?_)
    · unfold B_X12_filmsAgain_w71_3 at h
      by_cases c1 : x 132 0 ≤ e
      · rw [if_pos c1] at h; cases h
      · rw [if_neg c1] at h
        have ce := cn_lt (N := 6) (by decide) he2 (hS.fr hP2).1 c1
        repeat' split at h
        all_goals cases h
        all_goals refine ⟨ce, rfl, ?_⟩
        all_goals first
          | exact hP2
          | exact hP2.u (by decide)
    · unfold B_X12_filmsAgain_w71_3 at h
      repeat' split at h
      all_goals cases h
      all_goals exact hP2
  have L := whc (f := B_X12_filmsAgain_w2 a0 I J) (x0 := (I, J)) 8 (by decide) (fun x => FrM I x.1) (fun r => FrM I (match r with | .inl z => z.2.1 | .inr z => z.1)) (FrM.rf I) (fun e x s' he hP h => ?_) (fun e x z he hP h => ?_)
  · refine ⟨?_, ?_⟩
    · unfold H_X12_filmsAgain
      exact ⟨L.1, fun _ _ h0 h1 => clashesOf_H (hS.fr (L.2.1 _ _ h0).2) hf (cn_lt (N := 8) (by decide) (L.2.1 _ _ h0).1 (hS.fr (L.2.1 _ _ h0).2).2.1 h1), fun _ _ h0 h1 _ => (priceOf_H (hS.fr (L.2.1 _ _ h0).2) hf (cn_lt (N := 8) (by decide) (L.2.1 _ _ h0).1 (hS.fr (L.2.1 _ _ h0).2).2.1 h1)).1, fun _ _ _ _ _ => hf, fun _ _ _ _ _ _ => hf, fun _ _ h0 h1 _ _ => (priceOf_H ((hS.fr (L.2.1 _ _ h0).2).fr (priceOf_H (hS.fr (L.2.1 _ _ h0).2) hf (cn_lt (N := 8) (by decide) (L.2.1 _ _ h0).1 (hS.fr (L.2.1 _ _ h0).2).2.1 h1)).2) hf (cn_lt (N := 8) (by decide) (L.2.1 _ _ h0).1 (hS.fr (L.2.1 _ _ h0).2).2.1 h1)).1, fun _ _ h0 h1 _ _ => ix8 hf (cn_lt (N := 8) (by decide) (L.2.1 _ _ h0).1 (hS.fr (L.2.1 _ _ h0).2).2.1 h1), fun _ s2 h0 h1 _ _ => (K s2 h1 (L.2.1 _ _ h0).1 (L.2.1 _ _ h0).2).1, fun _ s2 h0 h1 _ _ _ _ h4 h5 => ix48 hf (cn_lt (N := 8) (by decide) (L.2.1 _ _ h0).1 (hS.fr (L.2.1 _ _ h0).2).2.1 h1) (cn_lt (N := 6) (by decide) ((K s2  h1 (L.2.1 _ _ h0).1 (L.2.1 _ _ h0).2).2.1 _ _ h4).1 (hS.fr ((K s2  h1 (L.2.1 _ _ h0).1 (L.2.1 _ _ h0).2).2.1 _ _ h4).2).1 h5), fun _ s2 h0 h1 _ _ _ _ h4 h5 _ => ix6 hf (cn_lt (N := 6) (by decide) ((K s2  h1 (L.2.1 _ _ h0).1 (L.2.1 _ _ h0).2).2.1 _ _ h4).1 (hS.fr ((K s2  h1 (L.2.1 _ _ h0).1 (L.2.1 _ _ h0).2).2.1 _ _ h4).2).1 h5), fun _ s2 h0 h1 _ _ _ _ h4 h5 _ _ => ix6 hf (cn_lt (N := 6) (by decide) ((K s2  h1 (L.2.1 _ _ h0).1 (L.2.1 _ _ h0).2).2.1 _ _ h4).1 (hS.fr ((K s2  h1 (L.2.1 _ _ h0).1 (L.2.1 _ _ h0).2).2.1 _ _ h4).2).1 h5), fun _ s2 h0 h1 _ _ _ _ h4 h5 _ _ => ix48 hf (cn_lt (N := 8) (by decide) (L.2.1 _ _ h0).1 (hS.fr (L.2.1 _ _ h0).2).2.1 h1) (cn_lt (N := 6) (by decide) ((K s2  h1 (L.2.1 _ _ h0).1 (L.2.1 _ _ h0).2).2.1 _ _ h4).1 (hS.fr ((K s2  h1 (L.2.1 _ _ h0).1 (L.2.1 _ _ h0).2).2.1 _ _ h4).2).1 h5)⟩
    · have q := L.2.2 (.inl (0, I, J))
      unfold FI_X12_filmsAgain F_X12_filmsAgain_w2
      exact q
  · unfold B_X12_filmsAgain_w2 at h
    by_cases c1 : x.1 132 1 ≤ e
    · rw [if_pos c1] at h; cases h
    · rw [if_neg c1] at h
      have ce := cn_lt (N := 8) (by decide) he (hS.fr hP).2.1 c1
      have p1 := priceOf_H (J := x.2) (hS.fr hP) hf ce
      repeat' split at h
      all_goals cases h
      all_goals refine ⟨ce, rfl, ?_⟩
      all_goals first
        | exact hP
        | exact hP.tr p1.2
  · unfold B_X12_filmsAgain_w2 at h
    by_cases c1 : x.1 132 1 ≤ e
    · rw [if_pos c1] at h; cases h; exact hP
    · rw [if_neg c1] at h
      have k2 := (K (e, x) c1 he hP).2.2 (0, S6_X12_filmsAgain a0 I J (e, x))
      repeat' split at h
      all_goals cases h
      all_goals exact k2
theorem passes_H {a0 a1 : Int32} {I : SI} {J : SJ} (hS : SM I) (hf : inR a0 23) : H_X12_passes a0 a1 I J ∧ FrM I (FI_X12_passes a0 a1 I J) := by
  have aw := isAway_H (a1 := a1) (J := J) hS hf
  have f2 : FrM I (S2_X12_passes a0 a1 I J) := (aw.2.u (by decide)).u (by decide)
  have L := whc (f := B_X12_passes_w50 a0 a1 I J) (x0 := (S2_X12_passes a0 a1 I J, J)) 8 (by decide) (fun x => FrM (S2_X12_passes a0 a1 I J) x.1) (fun r => FrM (S2_X12_passes a0 a1 I J) r.2.1) (FrM.rf _) (fun e x s' he hP h => ?_) (fun e x z he hP h => ?_)
  · have f5 : FrM I (F_X12_passes_w50 a0 a1 I J (0, S2_X12_passes a0 a1 I J, J)).2.1 := f2.tr (L.2.2 _)
    have M := whc (f := B_X12_passes_w109 a0 a1 I J) (x0 := ((F_X12_passes_w50 a0 a1 I J (0, S2_X12_passes a0 a1 I J, J)).2.1, (F_X12_passes_w50 a0 a1 I J (0, S2_X12_passes a0 a1 I J, J)).2.2)) 4 (by decide) (fun x => FrM I x.1) (fun r => FrM I r.2.1) f5 (fun e x s' he hP h => ?_) (fun e x z he hP h => ?_)
    · have f3 : FrM I (S3_X12_passes a0 a1 I J) := M.2.2 _
      refine ⟨?_, ?_⟩
      · unfold H_X12_passes
        exact ⟨aw.1, hf, L.1, M.1, fun _ => (filmsAgain_H (hS.fr f3) hf).1, fun _ _ h0 h1 _ => (gives_H (hS.fr (M.2.1 _ _ h0).2) hf (cn_lt (N := 4) (by decide) (M.2.1 _ _ h0).1 (hS.fr (M.2.1 _ _ h0).2).2.2.1 h1)).1, fun _ _ h0 h1 => isDone_H hf (cn_lt (N := 8) (by decide) (L.2.1 _ _ h0).1 (hS.fr (f2.tr (L.2.1 _ _ h0).2)).2.1 h1), fun _ _ h0 h1 _ => ix8 hf (cn_lt (N := 8) (by decide) (L.2.1 _ _ h0).1 (hS.fr (f2.tr (L.2.1 _ _ h0).2)).2.1 h1), fun _ _ _ _ _ => hf, fun _ _ h0 h1 _ _ => (films_H (hS.fr (f2.tr (L.2.1 _ _ h0).2)) hf (cn_lt (N := 8) (by decide) (L.2.1 _ _ h0).1 (hS.fr (f2.tr (L.2.1 _ _ h0).2)).2.1 h1)).1, fun _ => hf⟩
      · have fa := filmsAgain_H (J := S4_X12_passes a0 a1 I J) (hS.fr f3) hf
        have f7 : FrM I (T_X12_passes_j150 a0 a1 I J).1 := by
          unfold T_X12_passes_j150 S7_X12_passes
          split
          · exact f3
          · exact f3.tr fa.2
        unfold FI_X12_passes S6_X12_passes
        exact f7.u (by decide)
    · unfold B_X12_passes_w109 at h
      by_cases c1 : x.1 132 3 ≤ e
      · rw [if_pos c1] at h; cases h
      · rw [if_neg c1] at h
        have ce := cn_lt (N := 4) (by decide) he (hS.fr hP).2.2.1 c1
        have g := gives_H (J := x.2) (hS.fr hP) hf ce
        repeat' split at h
        all_goals cases h
        exact ⟨ce, rfl, hP.tr g.2⟩
    · unfold B_X12_passes_w109 at h
      repeat' split at h
      all_goals cases h
      all_goals exact hP
  · unfold B_X12_passes_w50 at h
    by_cases c1 : x.1 132 1 ≤ e
    · rw [if_pos c1] at h; cases h
    · rw [if_neg c1] at h
      have ce := cn_lt (N := 8) (by decide) he (hS.fr (f2.tr hP)).2.1 c1
      have g := films_H (a2 := F_X12_isAway a0 a1 I J) (J := x.2) (hS.fr (f2.tr hP)) hf ce
      repeat' split at h
      all_goals cases h
      all_goals refine ⟨ce, rfl, ?_⟩
      all_goals first
        | exact hP
        | exact hP.tr g.2
  · unfold B_X12_passes_w50 at h
    repeat' split at h
    all_goals cases h
    all_goals exact hP
/-- days pass, one after another -/
theorem days_H {f b : Int32} {g : Nat → SI × SJ → SI × SJ} {I : SI} {J : SJ} (hg : ∀ i s, g i s = (FI_X12_passes f b s.1 s.2, FJ_X12_passes f b s.1 s.2)) (hS : SM I) (hf : inR f 23) (n : Nat) : FrM I (itN g n (I, J)).1 := by
  refine itN_inv (P := fun (s : SI × SJ) => FrM I s.1) (FrM.rf I) (fun i s _ h => ?_)
  rw [hg]
  exact h.tr (passes_H (J := s.2) (hS.fr h) hf).2
theorem daysH_H {f b : Int32} {g : Nat → SI × SJ → SI × SJ} {I : SI} {J : SJ} (hg : ∀ i s, g i s = (FI_X12_passes f b s.1 s.2, FJ_X12_passes f b s.1 s.2)) (hS : SM I) (hf : inR f 23) {n : Nat} {s : SI × SJ} (hs : s = itN g n (I, J)) : H_X12_passes f b s.1 s.2 := by
  have p := days_H (J := J) hg hS hf n
  rw [← hs] at p
  exact (passes_H (hS.fr p) hf).1
theorem goesOn_H {n : Int32} {I : SI} {J : SJ} (hS : SM I) : H_X12_goesOn n I J ∧ FrM I (FI_X12_goesOn n I J) := by
  refine ⟨?_, ?_⟩
  · unfold H_X12_goesOn
    exact fun i s _ hs => daysH_H (f := 1) (b := 0) (g := B_X12_goesOn_l2 n I J) (fun _ _ => rfl) hS ⟨rfl, by decide⟩ hs
  · unfold FI_X12_goesOn F_X12_goesOn_l2
    exact days_H (f := 1) (b := 0) (g := B_X12_goesOn_l2 n I J) (fun _ _ => rfl) hS ⟨rfl, by decide⟩ _
theorem copies_F (p q : Int32) (I : SI) (J : SJ) : FrM I (FI_X12_copies p q I J) := by
  unfold FI_X12_copies S7_X12_copies F_X12_copies_l248 F_X12_copies_l212 S6_X12_copies F_X12_copies_l132 F_X12_copies_l74
  refine itN_inv (P := FrM I) ?_ (fun i s _ h => (h.u (by decide)).u (by decide))
  refine itN_inv (P := FrM I) ?_ (fun i s _ h => h.u (by decide))
  refine itN_inv (P := FrM I) ?_ (fun i s _ h => ((h.u (by decide)).u (by decide)).u (by decide))
  refine itN_inv (P := FrM I) ?_ (fun i s _ h => (h.u (by decide)).u (by decide))
  exact ((((((FrM.rf I).u (by decide)).u (by decide)).u (by decide)).u (by decide)).u (by decide)).u (by decide)
theorem copies_H {p q : Int32} (hp : inR p 23) (hq : inR q 23) (I : SI) (J : SJ) : H_X12_copies p q I J := by
  obtain ⟨i, hi, rfl⟩ := hp.n
  obtain ⟨j, hj, rfl⟩ := hq.n
  exact cop_in hi hj I J
theorem runs_H {n : Int32} {I : SI} {J : SJ} (hS : SM I) : H_X12_runs n I J ∧ FrM I (FI_X12_runs n I J) := by
  have c := copies_F 1 0 I J
  have g := goesOn_H (n := n) (J := J) (hS.fr c)
  refine ⟨?_, c.tr g.2⟩
  unfold H_X12_runs
  exact ⟨copies_H ⟨rfl, by decide⟩ ⟨rfl, by decide⟩ I J, g.1⟩
