theorem m_shot {tp : SI} {a0 a1 : Int32} {I : SI} {J : SJ} (h : (MW tp) I) : H_X12_shot a0 a1 I J ∧ (MW tp) (FI_X12_shot a0 a1 I J) := by
  have h' := h.u0
  refine ⟨?_, ?_⟩
  · unfold H_X12_shot
    exact ⟨fun h0 _ => (isShot_in h'.1 h0).le (by decide), fun h0 _ _ => (isShot_in h'.1 h0).le (by decide), fun h0 _ _ _ => (isShot_in h'.1 h0).le (by decide), fun h0 _ _ _ _ => clashesOf_H h'.1 r0 (isShot_in h'.1 h0), fun h0 _ _ _ _ _ => (isShot_in h'.1 h0).le (by decide)⟩
  · unfold FI_X12_shot
    repeat' split
    all_goals exact h'
theorem m_way {tp : SI} {a0 a1 : Int32} {I : SI} {J : SJ} (h : (MW tp) I) : H_X12_way a0 a1 I J ∧ (MW tp) (FI_X12_way a0 a1 I J) := by
  have h' := h.u0
  refine ⟨?_, ?_⟩
  · unfold H_X12_way
    exact ⟨fun h0 h1 => wayIn_H r0 (isShot_in h'.1 h0) (isMark_in h'.1 h1), fun h0 h1 _ => wayIn_H r0 (isShot_in h'.1 h0) (isMark_in h'.1 h1)⟩
  · unfold FI_X12_way
    repeat' split
    all_goals exact h'
theorem m_party {tp : SI} {a0 a1 : Int32} {I : SI} {J : SJ} (h : (MW tp) I) : H_X12_party a0 a1 I J ∧ (MW tp) (FI_X12_party a0 a1 I J) := by
  have h' := h.u0
  refine ⟨?_, ?_⟩
  · unfold H_X12_party
    exact ⟨fun h0 _ _ _ _ => (isParty_in h'.1 h0).le (by decide), fun h0 _ _ _ => (isParty_in h'.1 h0).le (by decide), fun h0 _ _ => (isParty_in h'.1 h0).le (by decide), fun h0 _ => (isParty_in h'.1 h0).le (by decide)⟩
  · unfold FI_X12_party
    repeat' split
    all_goals exact h'
theorem m_clerk {tp : SI} {a0 : Int32} {I : SI} {J : SJ} (h : (MW tp) I) : H_X12_clerk a0 I J ∧ (MW tp) (FI_X12_clerk a0 I J) := by
  have h' := h.u0
  refine ⟨?_, ?_⟩
  · unfold H_X12_clerk
    exact fun h0 h1 => (in_lt (N := 4) (by decide) h0 h'.1.2.2.2.1 h1).le (by decide)
  · unfold FI_X12_clerk
    repeat' split
    all_goals exact h'
theorem lawk {a : Int32} (h : ¬ a < 0) (h2 : ¬ (2 : Int32) < a) : ∃ k, k < 3 ∧ a = nI k := by
  have q : inR a 3 := in_of h (len := 3) (fun q => h2 (Int32.lt_of_lt_of_le (show (2 : Int32) < nI 3 by decide) q)) (by decide)
  exact q.n
theorem law_goes {a : Int32} {I : SI} {J : SJ} (hS : SM I) (h : ¬ a < 0) (h2 : ¬ (2 : Int32) < a) : H_X12_goes a I J ∧ FrM I (FI_X12_goes a I J) := by
  obtain ⟨k, hk, rfl⟩ := lawk h h2
  have g := goes_H (J := J) hk (hS.l hk)
  exact ⟨g.1, g.2.m⟩
theorem m_law {tp : SI} {a0 a1 a2 : Int32} {I : SI} {J : SJ} (h : (MW tp) I) : H_X12_law a0 a1 a2 I J ∧ (MW tp) (FI_X12_law a0 a1 a2 I J) := by
  have h' := h.u0
  refine ⟨?_, ?_⟩
  · unfold H_X12_law
    exact ⟨fun h0 h1 => (by unfold H_X12_hasLaw; exact in_of h0 (len := 6) (fun q => h1 (Int32.lt_of_lt_of_le (show (2 : Int32) < nI 6 by decide) q)) (by decide)), fun _ _ _ h3 h4 _ => (absurd (h4.symm.trans h3) (by decide)), fun h0 h1 _ _ _ _ => (law_goes h'.1 h0 h1).1, fun _ _ _ h3 h4 _ => (absurd (h4.symm.trans h3) (by decide)), fun _ _ _ h3 h4 _ _ => (absurd (h4.symm.trans h3) (by decide)), fun _ _ _ h3 h4 _ _ => (absurd (h4.symm.trans h3) (by decide)), fun h0 h1 _ _ _ _ _ => (law_goes h'.1 h0 h1).1, fun _ _ _ _ _ h5 _ => callsMark_H h'.1 r0 (isMark_in h'.1 h5), fun h0 h1 _ _ _ _ _ => (law_goes h'.1 h0 h1).1, fun _ _ _ h3 _ _ h6 => (absurd (h6.symm.trans h3) (by decide)), fun _ _ _ h3 _ _ h6 _ => (absurd (h6.symm.trans h3) (by decide)), fun _ _ _ _ _ h5 _ _ => callsMark_H h'.1 r0 (isMark_in h'.1 h5), fun h0 h1 _ _ _ _ _ _ => (law_goes h'.1 h0 h1).1, fun _ _ _ _ h4 _ _ => callsShot_H h'.1 r0 (isShot_in h'.1 h4), fun h0 h1 _ _ _ _ _ => (law_goes h'.1 h0 h1).1, fun _ _ _ _ _ h5 h6 => (absurd (h6.symm.trans h5) (by decide)), fun _ _ _ _ h4 _ _ _ => (isShot_in h'.1 h4).le (by decide), fun _ _ _ _ _ h5 h6 _ => (absurd (h6.symm.trans h5) (by decide)), fun h0 h1 _ _ _ _ _ _ => (law_goes h'.1 h0 h1).1, fun _ _ _ _ h4 _ _ _ => callsShot_H h'.1 r0 (isShot_in h'.1 h4), fun h0 h1 _ _ _ _ _ _ => (law_goes h'.1 h0 h1).1, fun _ _ _ _ h4 _ h6 _ => wayIn_H r0 (isShot_in h'.1 h4) (isMark_in h'.1 h6), fun _ _ _ _ h4 _ _ _ _ => (isShot_in h'.1 h4).le (by decide), fun _ _ _ _ _ _ h6 _ _ => callsMark_H h'.1 r0 (isMark_in h'.1 h6), fun h0 h1 _ _ _ _ _ _ _ => (law_goes h'.1 h0 h1).1⟩
  · unfold FI_X12_law
    by_cases c0 : a0 < 0
    · rw [if_pos c0]; exact h'
    · rw [if_neg c0]
      by_cases c1 : (2 : Int32) < a0
      · rw [if_pos c1]; exact h'
      · rw [if_neg c1]
        have g : ∀ J, (MW tp) (FI_X12_goes a0 (u2 I 130 0 0) J) := fun J => h'.fr (law_goes h'.1 c0 c1).2
        repeat' split
        all_goals first
          | exact h'
          | exact g _
          | (unfold S1_X12_law; exact g _)
          | (unfold S4_X12_law; exact g _)
theorem keepT {tp : SI} (I : SI) (J : SJ) (h : (MW tp) I) : (MW tp) (T_X12_keepNow_j45 I J) ∧ inR (T_X12_keepNow_j45 I J 130 54) 20 := by
  unfold T_X12_keepNow_j45
  by_cases c : I 130 54 = 20
  · rw [if_pos c]
    have f : FrM I (F_X12_keepNow_l11 I J I) := by
      unfold F_X12_keepNow_l11
      refine itN_inv (P := FrM I) (FrM.rf I) (fun i s _ hs => ?_)
      unfold B_X12_keepNow_l11 S3_X12_keepNow
      exact hs.tr (copies_F _ _ _ _)
    have e : F_X12_keepNow_l11 I J I 130 54 = 20 := (f 130 54 (by omega) (by omega)).trans c
    unfold S2_X12_keepNow
    rw [e]
    exact ⟨(h.fr f).n ⟨by decide, by decide⟩, by rw [u2_s]; exact ⟨by decide, by decide⟩⟩
  · rw [if_neg c]
    refine ⟨h, ?_⟩
    obtain ⟨i, hi, e⟩ := h.gn.n
    rw [e]
    have : i ≠ 20 := fun q => c (by rw [e, q]; rfl)
    exact inR_nI (by omega) (by decide)
theorem r3p {e : Int32} (h : inR e 20) : inR ((3 : Int32) + e) 23 := by
  obtain ⟨i, hi, rfl⟩ := h.n
  rw [show (3 : Int32) = nI 3 from rfl, nI_add]
  exact inR_nI (by omega) (by decide)
