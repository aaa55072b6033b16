/-! the model reads a line, and a text -/
theorem ne_in {x : Int32} {N : Nat} (hN : N < 800) (h : inR x (N + 1)) (q : ¬ x = nI N) : inR x N := by
  obtain ⟨j, hj, e⟩ := h.n
  rw [e]
  refine inR_nI ?_ (by omega)
  by_cases z : j = N
  · rw [e, z] at q; exact absurd rfl q
  · omega
theorem nf0 {I : SI} {J : SJ} (h : F_X12_isFull (I 130 29) I J = 0) (p : PO I) (hv : I 130 29 = 0) : inR (I 132 10) 6 := by
  refine ne_in (N := 6) (by decide) (p.m (b := 10) (by omega)) (fun q => ?_)
  rw [hv] at h
  unfold F_X12_isFull at h
  rw [if_pos rfl, if_pos (show F_X12_fresher 0 I J = 6 from q)] at h
  exact absurd h (by decide)
theorem nf1 {I : SI} {J : SJ} (h : F_X12_isFull (I 130 29) I J = 0) (p : PO I) (hv : I 130 29 = 1) : inR (I 132 11) 8 := by
  refine ne_in (N := 8) (by decide) (p.m (b := 11) (by omega)) (fun q => ?_)
  rw [hv] at h
  unfold F_X12_isFull at h
  rw [if_neg (by decide), if_pos rfl, if_pos (show F_X12_fresher 1 I J = 8 from q)] at h
  exact absurd h (by decide)
theorem nf2 {I : SI} {J : SJ} (h : F_X12_isFull (I 130 29) I J = 0) (p : PO I) (hv : I 130 29 = 2) : inR (I 132 12) 20 := by
  refine ne_in (N := 20) (by decide) (p.m (b := 12) (by omega)) (fun q => ?_)
  rw [hv] at h
  unfold F_X12_isFull at h
  rw [if_neg (by decide), if_neg (by decide), if_pos rfl, if_pos (show F_X12_fresher 2 I J = 20 from q)] at h
  exact absurd h (by decide)
theorem nf3 {I : SI} {J : SJ} (h : F_X12_isFull (I 130 29) I J = 0) (p : PO I) (hv : I 130 29 = 3) : inR (I 132 13) 4 := by
  refine ne_in (N := 4) (by decide) (p.m (b := 13) (by omega)) (fun q => ?_)
  rw [hv] at h
  unfold F_X12_isFull at h
  rw [if_neg (by decide), if_neg (by decide), if_neg (by decide), if_pos rfl, if_pos (show F_X12_fresher 3 I J = 4 from q)] at h
  exact absurd h (by decide)
theorem nf4 {I : SI} {J : SJ} (h : F_X12_isFull (I 130 29) I J = 0) (p : PO I) (hv : I 130 29 = 4) : inR (I 132 14) 4 := by
  refine ne_in (N := 4) (by decide) (p.m (b := 14) (by omega)) (fun q => ?_)
  rw [hv] at h
  unfold F_X12_isFull at h
  rw [if_neg (by decide), if_neg (by decide), if_neg (by decide), if_neg (by decide), if_pos rfl, if_pos (show F_X12_fresher 4 I J = 4 from q)] at h
  exact absurd h (by decide)
theorem nf5 {I : SI} {J : SJ} (h : F_X12_isFull (I 130 29) I J = 0) (p : PO I) (hv : I 130 29 = 5) : inR (I 132 15) 3 := by
  refine ne_in (N := 3) (by decide) (p.m (b := 15) (by omega)) (fun q => ?_)
  rw [hv] at h
  unfold F_X12_isFull at h
  rw [if_neg (by decide), if_neg (by decide), if_neg (by decide), if_neg (by decide), if_neg (by decide), if_pos rfl, if_pos (show F_X12_fresher 5 I J = 3 from q)] at h
  exact absurd h (by decide)
set_option maxHeartbeats 40000000 in
theorem line_E {I : SI} {J : SJ} (e : EI I) (p : PO I) : H_X12_line I J ∧ LX I (FI_X12_line I J) ∧ (FI_X12_line I J 130 30 = 0 → psn I < psn (FI_X12_line I J)) := by
  have w1 := wrong_E (w := 1) (x := 0) (J := J) e (by decide)
  have T : LX I (T_X12_line_j72 I J) ∧ (T_X12_line_j72 I J 130 30 = 0 → T_X12_line_j72 I J = I ∧ F_X12_isFull (I 130 29) I J = 0) := by
    have w2 := wrong_E (w := 2) (x := 0) (J := J) e (by decide)
    have w3 := wrong_E (w := 3) (x := 0) (J := J) e (by decide)
    unfold T_X12_line_j72
    by_cases a : F_X12_isFull (I 130 29) I J = 0
    · rw [if_pos a]
      repeat' split
      · exact ⟨LX.rf e p, fun _ => ⟨rfl, a⟩⟩
      · exact ⟨LX.rf e p, fun _ => ⟨rfl, a⟩⟩
      · exact ⟨w3.1.lx p, fun z => absurd z w3.2⟩
      · exact ⟨LX.rf e p, fun _ => ⟨rfl, a⟩⟩
    · rw [if_neg a]; exact ⟨w2.1.lx p, fun z => absurd z w2.2⟩
  have isF : H_X12_isFull (I 130 29) I J := by
    unfold H_X12_isFull
    exact ⟨fun _ => fr_H (k := 0) (by decide), fun _ _ => fr_H (k := 1) (by decide), fun _ _ _ => fr_H (k := 2) (by decide), fun _ _ _ _ => fr_H (k := 3) (by decide), fun _ _ _ _ _ => fr_H (k := 4) (by decide), fun _ _ _ _ _ _ => fr_H (k := 5) (by decide)⟩
  have s1 : LX I (S1_X12_line I J) := by unfold S1_X12_line; exact T.1.u (by omega)
  have tk := fun (c : T_X12_line_j72 I J 130 30 = 0) => tok_E (x := 0) (J := J) s1.ei (show S1_X12_line I J 130 30 = 0 by unfold S1_X12_line; exact (u2_n _ _ (by omega)).trans c)
  have a0 := fun (c : T_X12_line_j72 I J 130 30 = 0) => s1.tr ((tk c).2.lx s1.po)
  have n0 : ∀ (b : Nat), b < 19 → T_X12_line_j72 I J 130 30 = 0 → FI_X12_token (S1_X12_line I J) J 132 b = I 132 b := fun b hb c => by
    rw [(tk c).2.2.1 132 b (by omega) (by omega) (by omega)]
    unfold S1_X12_line
    refine (u2_n _ _ (by omega)).trans ?_
    rw [(T.2 c).1]
  have M := fun (c : T_X12_line_j72 I J 130 30 = 0) (v : I 130 29 = 0) => lmark (J := J) (a0 c).ei (a0 c).po (by rw [n0 10 (by omega) c]; exact nf0 (T.2 c).2 p v)
  have S := fun (c : T_X12_line_j72 I J 130 30 = 0) (v : I 130 29 = 1) => lshot (J := J) (a0 c).ei (a0 c).po (by rw [n0 11 (by omega) c]; exact nf1 (T.2 c).2 p v)
  have HL := fun (c : T_X12_line_j72 I J 130 30 = 0) (v : I 130 29 = 2) => has_E (J := J) (a0 c).ei (a0 c).po (by rw [n0 12 (by omega) c]; exact nf2 (T.2 c).2 p v)
  have f13 := fun (c : T_X12_line_j72 I J 130 30 = 0) (v : I 130 29 = 3) => show inR (FI_X12_token (S1_X12_line I J) J 132 13) 4 by rw [n0 13 (by omega) c]; exact nf3 (T.2 c).2 p v
  have P := fun (c : T_X12_line_j72 I J 130 30 = 0) (v : I 130 29 = 3) => party_E (a0 := (4 : Int32) + (F_X12_fresher 3 (FI_X12_token (S1_X12_line I J) J) J)) (J := J) (a0 c).ei (a0 c).po (f13 c v) (off (f := 4) (la := 8) (f13 c v) (by decide) (by decide))
  have C := fun (c : T_X12_line_j72 I J 130 30 = 0) (v : I 130 29 = 4) => lclerk (J := J) (a0 c).ei (a0 c).po (by rw [n0 14 (by omega) c]; exact nf4 (T.2 c).2 p v)
  have K := fun (c : T_X12_line_j72 I J 130 30 = 0) (v : I 130 29 = 5) => lcold (J := J) (a0 c).ei (a0 c).po (by rw [n0 15 (by omega) c]; exact nf5 (T.2 c).2 p v)
  have N6 := fun (c : T_X12_line_j72 I J 130 30 = 0) => lnum (b := 16) (most := 100) (J := J) (a0 c).ei (a0 c).po (by omega) (fun _ => rfl)
  have N7 := fun (c : T_X12_line_j72 I J 130 30 = 0) => lnum (b := 17) (most := 999) (J := J) (a0 c).ei (a0 c).po (by omega) (fun z => absurd z (by decide))
  have N8 := fun (c : T_X12_line_j72 I J 130 30 = 0) => lnum (b := 18) (most := 99999) (J := J) (a0 c).ei (a0 c).po (by omega) (fun z => absurd z (by decide))
  have Lw := fun (c : T_X12_line_j72 I J 130 30 = 0) => lw_E (J := J) (a0 c).ei (a0 c).po
  have TT : T_X12_line_j72 I J 130 30 = 0 → LX I (T_X12_line_j492 I J).1 := fun c => by
    refine (a0 c).tr ?_
    unfold T_X12_line_j492
    by_cases v0 : I 130 29 = 0
    · rw [if_pos v0]; exact (M c v0).2.2.2.2
    · rw [if_neg v0]
      by_cases v1 : I 130 29 = 1
      · rw [if_pos v1]; exact (S c v1).2.2.2.2
      · rw [if_neg v1]
        by_cases v2 : I 130 29 = 2
        · rw [if_pos v2]; show LX _ (FI_X12_hasLine (FI_X12_token (S1_X12_line I J) J) J); exact (HL c v2).2
        · rw [if_neg v2]
          by_cases v3 : I 130 29 = 3
          · rw [if_pos v3]; show LX _ (S16_X12_line I J); unfold S16_X12_line; exact (P c v3).2
          · rw [if_neg v3]
            by_cases v4 : I 130 29 = 4
            · rw [if_pos v4]; exact (C c v4).2.2.2
            · rw [if_neg v4]
              by_cases v5 : I 130 29 = 5
              · rw [if_pos v5]; exact (K c v5).2.2.2
              · rw [if_neg v5]
                by_cases v6 : I 130 29 = 6
                · rw [if_pos v6]; exact (N6 c).2
                · rw [if_neg v6]
                  by_cases v7 : I 130 29 = 7
                  · rw [if_pos v7]; exact (N7 c).2
                  · rw [if_neg v7]
                    by_cases v8 : I 130 29 = 8
                    · rw [if_pos v8]; exact (N8 c).2
                    · rw [if_neg v8]; show LX _ (FI_X12_lawLine (FI_X12_token (S1_X12_line I J) J) J); exact (Lw c).2
  refine ⟨?_, ?_⟩
  · unfold H_X12_line
    exact ⟨fun _ _ => isF, fun _ _ h2 => (tk h2).1, fun _ _ h2 h3 _ => (tok_E (x := 0) (TT h2).ei h3).1, fun _ _ _ _ => fr_H (k := 0) (by decide), fun _ _ h2 h3 => (M h2 h3).1, fun _ _ h2 h3 => (M h2 h3).2.1, fun _ _ h2 h3 => (M h2 h3).2.2.1, fun _ _ h2 h3 => (M h2 h3).2.2.2.1, fun _ _ _ _ => fr_H (k := 0) (by decide), fun _ _ _ _ => rd_H (k := 0) (by decide), fun _ _ _ _ _ => fr_H (k := 1) (by decide), fun _ _ h2 _ h4 => (S h2 h4).1, fun _ _ h2 _ h4 => (S h2 h4).2.1, fun _ _ h2 _ h4 => (S h2 h4).2.2.1, fun _ _ h2 _ h4 => (S h2 h4).2.2.2.1, fun _ _ _ _ _ => fr_H (k := 1) (by decide), fun _ _ _ _ _ => rd_H (k := 1) (by decide), fun _ _ h2 _ _ h5 => (HL h2 h5).1, fun _ _ _ _ _ _ _ => fr_H (k := 3) (by decide), fun _ _ h2 _ _ _ h6 => (P h2 h6).1, fun _ _ _ _ _ _ _ _ => fr_H (k := 4) (by decide), fun _ _ h2 _ _ _ _ h7 => (C h2 h7).1, fun _ _ h2 _ _ _ _ h7 => (C h2 h7).2.1, fun _ _ h2 _ _ _ _ h7 => (C h2 h7).2.2.1, fun _ _ _ _ _ _ _ _ => fr_H (k := 4) (by decide), fun _ _ _ _ _ _ _ _ => rd_H (k := 4) (by decide), fun _ _ _ _ _ _ _ _ _ => fr_H (k := 5) (by decide), fun _ _ h2 _ _ _ _ _ h8 => (K h2 h8).1, fun _ _ h2 _ _ _ _ _ h8 => (K h2 h8).2.1, fun _ _ h2 _ _ _ _ _ h8 => (K h2 h8).2.2.1, fun _ _ _ _ _ _ _ _ _ => fr_H (k := 5) (by decide), fun _ _ _ _ _ _ _ _ _ => rd_H (k := 5) (by decide), fun _ _ h2 _ _ _ _ _ h8 _ => (K h2 h8).2.1, fun _ _ h2 _ _ _ _ _ _ _ => (N6 h2).1, fun _ _ _ _ _ _ _ _ _ _ => rd_H (k := 6) (by decide), fun _ _ h2 _ _ _ _ _ _ _ _ => (N7 h2).1, fun _ _ _ _ _ _ _ _ _ _ _ => rd_H (k := 7) (by decide), fun _ _ h2 _ _ _ _ _ _ _ _ _ => (N8 h2).1, fun _ _ _ _ _ _ _ _ _ _ _ _ => rd_H (k := 8) (by decide), fun _ _ h2 _ _ _ _ _ _ _ _ _ => (Lw h2).1⟩
  · unfold FI_X12_line
    by_cases c0 : I 130 28 = 0
    · rw [if_pos c0]
      by_cases c1 : I 130 29 ≤ 9
      · rw [if_pos c1]
        by_cases c2 : T_X12_line_j72 I J 130 30 = 0
        · rw [if_pos c2]
          have t := TT c2
          by_cases c3 : (T_X12_line_j492 I J).1 130 30 = 0
          · rw [if_pos c3]
            by_cases c4 : F_X12_isSign 59 (T_X12_line_j492 I J).1 (T_X12_line_j492 I J).2 = 0
            · rw [if_pos c4]
              have ww := wrong_E (w := 1) (x := 0) (J := (T_X12_line_j492 I J).2) t.ei (by decide)
              unfold S3_X12_line
              exact ⟨(t.tr (ww.1.lx t.po)).u (by omega), fun z => absurd ((u2_n _ _ (by omega)).symm.trans z) ww.2⟩
            · rw [if_neg c4]
              have tt := tok_E (x := 0) (J := (T_X12_line_j492 I J).2) t.ei c3
              have l := t.tr (tt.2.lx t.po)
              unfold S2_X12_line
              refine ⟨l.u (by omega), fun _ => ?_⟩
              have g := t.2.2.2
              have s3 := (isS c4).2.1
              have lt : psn I < psn (T_X12_line_j492 I J).1 := by
                rcases g.2 with q | q | q
                · exact q
                · rw [s3, c0] at q; exact absurd q (by decide)
                · rw [s3] at q; exact absurd q (by decide)
              rw [psn_u (by omega)]
              exact Nat.lt_of_lt_of_le lt tt.2.2.2.1.1
          · rw [if_neg c3]; exact ⟨t, fun z => absurd z c3⟩
        · rw [if_neg c2]; exact ⟨T.1, fun z => absurd z c2⟩
      · rw [if_neg c1]; exact ⟨w1.1.lx p, fun z => absurd z w1.2⟩
    · rw [if_neg c0]; exact ⟨w1.1.lx p, fun z => absurd z w1.2⟩
