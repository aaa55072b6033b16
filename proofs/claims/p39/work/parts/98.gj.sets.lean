/-! the reference: days of a set change that set alone -/
theorem FS.m {f : Nat} {B B' : SI} (h : FS f B B') : FrM B B' := fun _ _ x y => h.lo x y
theorem films_S {f s : Nat} {a2 : Int32} {I : SI} {J : SJ} (hS : SM I) (hf : f ≤ 22) (hs : s < 8) : FS f I (FI_X12_films (nI f) (nI s) a2 I J) := by
  have hF : FS f I (u2 I 163 (((8 : Int32) * nI f) + nI s).toNatClampNeg 1) := by
    rw [cel8 hf hs]
    exact (FS.rf f I).u (in8 (by omega) hs)
  have L := whc (f := B_X12_films_w15 (nI f) (nI s) a2 I J) (x0 := (u2 I 163 (((8 : Int32) * nI f) + nI s).toNatClampNeg 1, J)) 6 (by decide) (fun x => FS f I x.1) (fun r => FS f I r.2.1) hF (fun e x s' he hP h => ?_) (fun e x z he hP h => ?_)
  · unfold FI_X12_films F_X12_films_w15
    exact L.2.2 _
  · have hSx : SM x.1 := hS.fr hP.m
    unfold B_X12_films_w15 at h
    by_cases c1 : x.1 132 0 ≤ e
    · rw [if_pos c1] at h; cases h
    · rw [if_neg c1] at h
      have ce := cn_lt (N := 6) (by decide) he hSx.1 c1
      obtain ⟨i, hi, ei⟩ := ce.n
      subst ei
      have f2 : FS f I (S2_X12_films (nI f) (nI s) a2 I J (nI i, x)) := by
        unfold S2_X12_films
        exact hP.tr (isSo_f (k := 0) (by decide) (hSx.l (by decide))).fs
      have f5 : FS f I (S5_X12_films (nI f) (nI s) a2 I J (nI i, x)) := by
        unfold S5_X12_films
        dsimp only
        rw [cel6 hf hi]
        exact f2.u (in6 (by omega) hi)
      have f7 : FS f I (S7_X12_films (nI f) (nI s) a2 I J (nI i, x)) := by
        unfold S7_X12_films S6_X12_films
        dsimp only
        rw [cel48 hf hs hi, nI_clamp (show f < 2 ^ 31 by omega)]
        exact (hP.u (in48 (by omega))).u (in1 (by omega))
      repeat' split at h
      all_goals cases h
      all_goals refine ⟨ce, rfl, ?_⟩
      all_goals first
        | exact hP
        | exact f2
        | exact f5
        | exact f7
  · unfold B_X12_films_w15 at h
    repeat' split at h
    all_goals cases h
    all_goals exact hP
theorem gives_S {f q : Nat} {I : SI} {J : SJ} (hS : SM I) (hf : f ≤ 22) (hq : q < 4) : FS f I (FI_X12_gives (nI f) (nI q) I J) := by
  have hm := hS.pm (show inR (nI q) 4 from inR_nI hq (by decide))
  obtain ⟨m, hm6, em⟩ := hm.n
  have f4 : FS f I (S4_X12_gives (nI f) (nI q) I J) := by
    unfold S4_X12_gives S2_X12_gives S1_X12_gives
    rw [em, cel4 hf hq, cel6 hf hm6]
    exact (((FS.rf f I).u (in4 (by omega) hq)).u (in4 (by omega) hq)).u (in6 (by omega) hm6)
  have f7 : FS f I (S7_X12_gives (nI f) (nI q) I J) := by
    unfold S7_X12_gives
    exact f4.tr (isSo_f (k := 1) (by decide) ((hS.fr f4.m).l (by decide))).fs
  have f10 : FS f I (S10_X12_gives (nI f) (nI q) I J) := by
    unfold S10_X12_gives
    rw [em, cel6 hf hm6]
    exact f7.u (in6 (by omega) hm6)
  unfold FI_X12_gives
  repeat' split
  all_goals first
    | exact FS.rf f I
    | exact f7
    | exact f10
theorem price_S {f s : Nat} {I : SI} {J : SJ} (hS : SM I) : Fr38 I (FI_X12_priceOf (nI f) (nI s) I J) := by
  have g := goes_H (k := 2) (J := FJ_X12_callsShot (nI f) (nI s) I J) (by decide) (hS.l (k := 2) (by decide))
  unfold FI_X12_priceOf
  rw [ite_self]
  split
  · exact fun _ _ _ => rfl
  · exact g.2
theorem inner_S {f s : Nat} {I X Y : SI} {J : SJ} {s2 : Int32 × SI × SJ} (hS : SM I) (hf : f ≤ 22) (hs : s < 8) (e2 : s2.1 = nI s) (h0 : FS f I Y) : ∀ d : Int32 × SI, FS f I (((itW (B_X12_filmsAgain_w71_3 (nI f) X J s2) 800 (0, Y)).getD d).2) := by
  refine (whc (f := B_X12_filmsAgain_w71_3 (nI f) X J s2) (x0 := Y) 6 (by decide) (fun x => FS f I x) (fun r => FS f I r.2) h0 (fun e x s' he hP h => ?_) (fun e x z he hP h => ?_)).2.2
  · unfold B_X12_filmsAgain_w71_3 at h
    by_cases c1 : x 132 0 ≤ e
    · rw [if_pos c1] at h; cases h
    · rw [if_neg c1] at h
      have ce := cn_lt (N := 6) (by decide) he (hS.fr hP.m).1 c1
      obtain ⟨i, hi, ei⟩ := ce.n
      subst ei
      have f7 : FS f I (S7_X12_filmsAgain (nI f) X J s2 (nI i, x)) := by
        unfold S7_X12_filmsAgain
        dsimp only
        rw [e2, cel48 hf hs hi]
        exact hP.u (in48 (by omega))
      repeat' split at h
      all_goals cases h
      all_goals refine ⟨ce, rfl, ?_⟩
      all_goals first
        | exact hP
        | exact f7
  · unfold B_X12_filmsAgain_w71_3 at h
    repeat' split at h
    all_goals cases h
    all_goals exact hP
theorem again_S {f : Nat} {I : SI} {J : SJ} (hS : SM I) (hf : f ≤ 22) : FS f I (FI_X12_filmsAgain (nI f) I J) := by
  have K : ∀ (i : Nat) (x : SI × SJ), i < 8 → FS f I x.1 → FS f I (F_X12_filmsAgain_w71_3 (nI f) I J (nI i, x) (0, S6_X12_filmsAgain (nI f) I J (nI i, x))).2 := fun i x hi hP => by
    have p1 : FS f I (FI_X12_priceOf (nI f) (nI i) x.1 x.2) := hP.tr (price_S (hS.fr hP.m)).fs
    have p2 : FS f I (S1_X12_filmsAgain (nI f) I J (nI i, x)) := by
      unfold S1_X12_filmsAgain
      exact p1.tr (price_S (hS.fr p1.m)).fs
    have p6 : FS f I (S6_X12_filmsAgain (nI f) I J (nI i, x)) := by
      unfold S6_X12_filmsAgain S5_X12_filmsAgain
      dsimp only
      rw [cel8 hf hi, nI_clamp (show f < 2 ^ 31 by omega)]
      exact (p2.u (in1 (by omega))).u (in8 (by omega) hi)
    unfold F_X12_filmsAgain_w71_3
    exact inner_S hS hf hi rfl p6 _
  have L := whc (f := B_X12_filmsAgain_w2 (nI f) I J) (x0 := (I, J)) 8 (by decide) (fun x => FS f I x.1) (fun r => FS f I (match r with | .inl z => z.2.1 | .inr z => z.1)) (FS.rf f I) (fun e x s' he hP h => ?_) (fun e x z he hP h => ?_)
  · have q := L.2.2 (.inl (0, I, J))
    unfold FI_X12_filmsAgain F_X12_filmsAgain_w2
    exact q
  · unfold B_X12_filmsAgain_w2 at h
    by_cases c1 : x.1 132 1 ≤ e
    · rw [if_pos c1] at h; cases h
    · rw [if_neg c1] at h
      have ce := cn_lt (N := 8) (by decide) he (hS.fr hP.m).2.1 c1
      obtain ⟨i, hi, ei⟩ := ce.n
      subst ei
      have p1 : FS f I (FI_X12_priceOf (nI f) (nI i) x.1 x.2) := hP.tr (price_S (hS.fr hP.m)).fs
      repeat' split at h
      all_goals cases h
      all_goals refine ⟨ce, rfl, ?_⟩
      all_goals first
        | exact hP
        | exact p1
  · unfold B_X12_filmsAgain_w2 at h
    by_cases c1 : x.1 132 1 ≤ e
    · rw [if_pos c1] at h; cases h; exact hP
    · rw [if_neg c1] at h
      have ce := cn_lt (N := 8) (by decide) he (hS.fr hP.m).2.1 c1
      obtain ⟨i, hi, ei⟩ := ce.n
      subst ei
      have k2 := K i x hi hP
      repeat' split at h
      all_goals cases h
      all_goals exact k2
theorem away_S {f : Nat} {b : Int32} {I : SI} {J : SJ} (hf : f ≤ 22) : FS f I (FI_X12_isAway (nI f) b I J) := by
  have s : FS f I (S1_X12_isAway (nI f) b I J) := by
    unfold S1_X12_isAway
    rw [nI_clamp (show f < 2 ^ 31 by omega)]
    exact (FS.rf f I).u (in1 (by omega))
  unfold FI_X12_isAway
  repeat' split
  all_goals first
    | exact FS.rf f I
    | exact s
theorem passes_S {f : Nat} {b : Int32} {I : SI} {J : SJ} (hS : SM I) (hf : f ≤ 22) : FS f I (FI_X12_passes (nI f) b I J) := by
  have f2 : FS f I (S2_X12_passes (nI f) b I J) := by
    unfold S2_X12_passes S1_X12_passes
    rw [nI_clamp (show f < 2 ^ 31 by omega)]
    exact ((away_S hf).u (in1 (by omega))).u (in1 (by omega))
  have L := whc (f := B_X12_passes_w50 (nI f) b I J) (x0 := (S2_X12_passes (nI f) b I J, J)) 8 (by decide) (fun x => FS f I x.1) (fun r => FS f I r.2.1) f2 (fun e x s' he hP h => ?_) (fun e x z he hP h => ?_)
  · have f5 : FS f I (F_X12_passes_w50 (nI f) b I J (0, S2_X12_passes (nI f) b I J, J)).2.1 := L.2.2 _
    have M := whc (f := B_X12_passes_w109 (nI f) b I J) (x0 := ((F_X12_passes_w50 (nI f) b I J (0, S2_X12_passes (nI f) b I J, J)).2.1, (F_X12_passes_w50 (nI f) b I J (0, S2_X12_passes (nI f) b I J, J)).2.2)) 4 (by decide) (fun x => FS f I x.1) (fun r => FS f I r.2.1) f5 (fun e x s' he hP h => ?_) (fun e x z he hP h => ?_)
    · have f3 : FS f I (S3_X12_passes (nI f) b I J) := M.2.2 _
      have f7 : FS f I (T_X12_passes_j150 (nI f) b I J).1 := by
        unfold T_X12_passes_j150 S7_X12_passes
        split
        · exact f3
        · exact f3.tr (again_S (hS.fr f3.m) hf)
      unfold FI_X12_passes S6_X12_passes
      rw [nI_clamp (show f < 2 ^ 31 by omega)]
      exact f7.u (in1 (by omega))
    · unfold B_X12_passes_w109 at h
      by_cases c1 : x.1 132 3 ≤ e
      · rw [if_pos c1] at h; cases h
      · rw [if_neg c1] at h
        have ce := cn_lt (N := 4) (by decide) he (hS.fr hP.m).2.2.1 c1
        obtain ⟨i, hi, ei⟩ := ce.n
        subst ei
        have g := gives_S (J := x.2) (hS.fr hP.m) hf hi
        repeat' split at h
        all_goals cases h
        exact ⟨ce, rfl, hP.tr g⟩
    · unfold B_X12_passes_w109 at h
      repeat' split at h
      all_goals cases h
      all_goals exact hP
  · unfold B_X12_passes_w50 at h
    by_cases c1 : x.1 132 1 ≤ e
    · rw [if_pos c1] at h; cases h
    · rw [if_neg c1] at h
      have ce := cn_lt (N := 8) (by decide) he (hS.fr hP.m).2.1 c1
      obtain ⟨i, hi, ei⟩ := ce.n
      subst ei
      have g := films_S (a2 := F_X12_isAway (nI f) b I J) (J := x.2) (hS.fr hP.m) hf hi
      repeat' split at h
      all_goals cases h
      all_goals refine ⟨ce, rfl, ?_⟩
      all_goals first
        | exact hP
        | exact hP.tr g
  · unfold B_X12_passes_w50 at h
    repeat' split at h
    all_goals cases h
    all_goals exact hP
theorem days_S {f : Nat} {b : Int32} {g : Nat → SI × SJ → SI × SJ} {I : SI} {J : SJ} (hg : ∀ i s, g i s = (FI_X12_passes (nI f) b s.1 s.2, FJ_X12_passes (nI f) b s.1 s.2)) (hS : SM I) (hf : f ≤ 22) (n : Nat) : FS f I (itN g n (I, J)).1 := by
  refine itN_inv (P := fun (s : SI × SJ) => FS f I s.1) (FS.rf f I) (fun i s _ h => ?_)
  rw [hg]
  exact h.tr (passes_S (J := s.2) (hS.fr h.m) hf)
theorem goesOn_S {n : Int32} {I : SI} {J : SJ} (hS : SM I) : FS 1 I (FI_X12_goesOn n I J) := by
  unfold FI_X12_goesOn F_X12_goesOn_l2
  exact days_S (f := 1) (b := 0) (g := B_X12_goesOn_l2 n I J) (fun _ _ => rfl) hS (by decide) _
theorem copies_S {p q : Nat} {I : SI} {J : SJ} (hp : p ≤ 22) (hq : q ≤ 22) (hpq : p ≠ q) : FS p I (FI_X12_copies (nI p) (nI q) I J) := fun a b x _ => (copies_v hp hq hpq).2 a b x
theorem runs_S {n : Int32} {I : SI} {J : SJ} (hS : SM I) : FS 1 I (FI_X12_runs n I J) := by
  have c : FS 1 I (FI_X12_copies 1 0 I J) := copies_S (p := 1) (q := 0) (by decide) (by decide) (by decide)
  unfold FI_X12_runs
  exact c.tr (goesOn_S (hS.fr c.m))
theorem starts_S {f : Nat} {I : SI} {J : SJ} (hf : f ≤ 22) : FS f I (FI_X12_starts (nI f) I J) := by
  have w : ∀ (r0 r1 r2 m n : Nat) (V0 V1 V2 : Nat → Int32) (X Y : SI), WR r0 r1 r2 m f n V0 V1 V2 X Y → n = m → (∀ r, r = r0 ∨ r = r1 ∨ r = r2 → 154 ≤ r ∧ r ≤ 167 ∧ szm r = m) → FS f X Y := fun r0 r1 r2 m n V0 V1 V2 X Y h e hr a b x _ => h.2 a b (fun z => by
    obtain ⟨z1, z2, z3⟩ := hr a z.1
    exact x ⟨z1, z2, by rw [z3]; exact z.2.1, by rw [z3, ← e]; rw [← e] at z; exact z.2.2⟩)
  have s3 : FS f I (u2 (S3_X12_starts (nI f) I J) 159 (nI f).toNatClampNeg 0) := by
    unfold S3_X12_starts S2_X12_starts S1_X12_starts
    rw [nI_clamp (show f < 2 ^ 31 by omega)]
    exact ((((((FS.rf f I).u (in1 (by omega))).u (in1 (by omega))).u (in1 (by omega))).u (in1 (by omega))).u (in1 (by omega))).u (in1 (by omega))
  have w1 := w _ _ _ _ _ _ _ _ _ _ (st56 (f := f) (I := I) (J := J) (s0 := u2 (S3_X12_starts (nI f) I J) 159 (nI f).toNatClampNeg 0) hf 6 (by omega)) rfl (fun r hr => by rcases hr with rfl | rfl | rfl <;> exact ⟨by decide, by decide, rfl⟩)
  have e4 : S4_X12_starts (nI f) I J = itN (B_X12_starts_l56 (nI f) I J) 6 (u2 (S3_X12_starts (nI f) I J) 159 (nI f).toNatClampNeg 0) := rfl
  rw [← e4] at w1
  have w2 := w _ _ _ _ _ _ _ _ _ _ (st94 (f := f) (I := I) (J := J) (s0 := S4_X12_starts (nI f) I J) hf 8 (by omega)) rfl (fun r hr => by rcases hr with rfl | rfl | rfl <;> exact ⟨by decide, by decide, rfl⟩)
  have w3 := w _ _ _ _ _ _ _ _ _ _ (st163 (f := f) (I := I) (J := J) (s0 := itN (B_X12_starts_l94 (nI f) I J) 8 (S4_X12_starts (nI f) I J)) hf 48 (by omega)) rfl (fun r hr => by rcases hr with rfl | rfl | rfl <;> exact ⟨by decide, by decide, rfl⟩)
  have e5 : S5_X12_starts (nI f) I J = itN (B_X12_starts_l163 (nI f) I J) 48 (itN (B_X12_starts_l94 (nI f) I J) 8 (S4_X12_starts (nI f) I J)) := rfl
  rw [← e5] at w3
  have w4 := w _ _ _ _ _ _ _ _ _ _ (st194 (f := f) (I := I) (J := J) (s0 := S5_X12_starts (nI f) I J) hf 4 (by omega)) rfl (fun r hr => by rcases hr with rfl | rfl | rfl <;> exact ⟨by decide, by decide, rfl⟩)
  have e6 : FI_X12_starts (nI f) I J = itN (B_X12_starts_l194 (nI f) I J) 4 (S5_X12_starts (nI f) I J) := rfl
  rw [← e6] at w4
  exact (((s3.tr w1).tr w2).tr w3).tr w4
