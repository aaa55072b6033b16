/-! the model reads a line, and a text -/
theorem ne_in {x : Int32} {N : Nat} (hN : N < 800) (h : inR x (N + 1)) (q : ¬ x = nI N) : inR x N := by
  obtain ⟨j, hj, e⟩ := h.n
  rw [e]
  refine inR_nI ?_ (by omega)
  by_cases z : j = N
  · rw [e, z] at q; exact absurd rfl q
  · omega
theorem nf0 {I : SI} {J : SJ} (h : F_X12_isFull (I 130 29) I J = 0) (p : PO I) (hv : I 130 29 = 0) : inR (I 132 10) 6 := by
  refine ne_in (N := 6) (by decide) (p.m (b := 10) (by omega)) (fun q => ?_)
  rw [hv] at h
  unfold F_X12_isFull at h
  rw [if_pos rfl, if_pos (show F_X12_fresher 0 I J = 6 from q)] at h
  exact absurd h (by decide)
theorem nf1 {I : SI} {J : SJ} (h : F_X12_isFull (I 130 29) I J = 0) (p : PO I) (hv : I 130 29 = 1) : inR (I 132 11) 8 := by
  refine ne_in (N := 8) (by decide) (p.m (b := 11) (by omega)) (fun q => ?_)
  rw [hv] at h
  unfold F_X12_isFull at h
  rw [if_neg (by decide), if_pos rfl, if_pos (show F_X12_fresher 1 I J = 8 from q)] at h
  exact absurd h (by decide)
theorem nf2 {I : SI} {J : SJ} (h : F_X12_isFull (I 130 29) I J = 0) (p : PO I) (hv : I 130 29 = 2) : inR (I 132 12) 20 := by
  refine ne_in (N := 20) (by decide) (p.m (b := 12) (by omega)) (fun q => ?_)
  rw [hv] at h
  unfold F_X12_isFull at h
  rw [if_neg (by decide), if_neg (by decide), if_pos rfl, if_pos (show F_X12_fresher 2 I J = 20 from q)] at h
  exact absurd h (by decide)
theorem nf3 {I : SI} {J : SJ} (h : F_X12_isFull (I 130 29) I J = 0) (p : PO I) (hv : I 130 29 = 3) : inR (I 132 13) 4 := by
  refine ne_in (N := 4) (by decide) (p.m (b := 13) (by omega)) (fun q => ?_)
  rw [hv] at h
  unfold F_X12_isFull at h
  rw [if_neg (by decide), if_neg (by decide), if_neg (by decide), if_pos rfl, if_pos (show F_X12_fresher 3 I J = 4 from q)] at h
  exact absurd h (by decide)
theorem nf4 {I : SI} {J : SJ} (h : F_X12_isFull (I 130 29) I J = 0) (p : PO I) (hv : I 130 29 = 4) : inR (I 132 14) 4 := by
  refine ne_in (N := 4) (by decide) (p.m (b := 14) (by omega)) (fun q => ?_)
  rw [hv] at h
  unfold F_X12_isFull at h
  rw [if_neg (by decide), if_neg (by decide), if_neg (by decide), if_neg (by decide), if_pos rfl, if_pos (show F_X12_fresher 4 I J = 4 from q)] at h
  exact absurd h (by decide)
theorem nf5 {I : SI} {J : SJ} (h : F_X12_isFull (I 130 29) I J = 0) (p : PO I) (hv : I 130 29 = 5) : inR (I 132 15) 3 := by
  refine ne_in (N := 3) (by decide) (p.m (b := 15) (by omega)) (fun q => ?_)
  rw [hv] at h
  unfold F_X12_isFull at h
  rw [if_neg (by decide), if_neg (by decide), if_neg (by decide), if_neg (by decide), if_neg (by decide), if_pos rfl, if_pos (show F_X12_fresher 5 I J = 3 from q)] at h
  exact absurd h (by decide)
theorem ln72 {I : SI} {J : SJ} (e : EI I) (p : PO I) : LX I (T_X12_line_j72 I J) ∧ (T_X12_line_j72 I J 130 30 = 0 → T_X12_line_j72 I J = I ∧ F_X12_isFull (I 130 29) I J = 0) := by
  have w2 := wrong_E (w := 2) (x := 0) (J := J) e (by decide)
  have w3 := wrong_E (w := 3) (x := 0) (J := J) e (by decide)
  unfold T_X12_line_j72
  by_cases a : F_X12_isFull (I 130 29) I J = 0
  · rw [if_pos a]
    repeat' split
    · exact ⟨LX.rf e p, fun _ => ⟨rfl, a⟩⟩
    · exact ⟨LX.rf e p, fun _ => ⟨rfl, a⟩⟩
    · exact ⟨w3.1.lx p, fun z => absurd z w3.2⟩
    · exact ⟨LX.rf e p, fun _ => ⟨rfl, a⟩⟩
  · rw [if_neg a]; exact ⟨w2.1.lx p, fun z => absurd z w2.2⟩
theorem lnA {I : SI} {J : SJ} (e : EI I) (p : PO I) (c : T_X12_line_j72 I J 130 30 = 0) : H_X12_token (S1_X12_line I J) J ∧ LX I (FI_X12_token (S1_X12_line I J) J) ∧ ∀ b, b < 19 → FI_X12_token (S1_X12_line I J) J 132 b = I 132 b := by
  have T := ln72 (J := J) e p
  have s1 : LX I (S1_X12_line I J) := by unfold S1_X12_line; exact T.1.u (by omega)
  have tk := tok_E (x := 0) (J := J) s1.ei (show S1_X12_line I J 130 30 = 0 by unfold S1_X12_line; exact (u2_n _ _ (by omega)).trans c)
  refine ⟨tk.1, s1.tr (tk.2.lx s1.po), fun b hb => ?_⟩
  refine (tk.2.2.1 132 b (by omega) (by omega) (by omega)).trans ?_
  unfold S1_X12_line
  refine (u2_n _ _ (by omega)).trans ?_
  rw [(T.2 c).1]
theorem lnI {I : SI} {J : SJ} : H_X12_isFull (I 130 29) I J := by
  unfold H_X12_isFull
  exact ⟨fun _ => fr_H (k := 0) (by decide), fun _ _ => fr_H (k := 1) (by decide), fun _ _ _ => fr_H (k := 2) (by decide), fun _ _ _ _ => fr_H (k := 3) (by decide), fun _ _ _ _ _ => fr_H (k := 4) (by decide), fun _ _ _ _ _ _ => fr_H (k := 5) (by decide)⟩
theorem t492_0 {I : SI} {J : SJ} (v : I 130 29 = 0) : (T_X12_line_j492 I J).1 = (S9_X12_line I J) := by
  unfold T_X12_line_j492
  rw [if_pos v]
theorem t492_1 {I : SI} {J : SJ} (v : I 130 29 = 1) : (T_X12_line_j492 I J).1 = (S15_X12_line I J) := by
  unfold T_X12_line_j492
  rw [if_neg (by rw [v]; decide), if_pos v]
theorem t492_2 {I : SI} {J : SJ} (v : I 130 29 = 2) : (T_X12_line_j492 I J).1 = (FI_X12_hasLine (FI_X12_token (S1_X12_line I J) J) J) := by
  unfold T_X12_line_j492
  rw [if_neg (by rw [v]; decide), if_neg (by rw [v]; decide), if_pos v]
theorem t492_3 {I : SI} {J : SJ} (v : I 130 29 = 3) : (T_X12_line_j492 I J).1 = (S16_X12_line I J) := by
  unfold T_X12_line_j492
  rw [if_neg (by rw [v]; decide), if_neg (by rw [v]; decide), if_neg (by rw [v]; decide), if_pos v]
theorem t492_4 {I : SI} {J : SJ} (v : I 130 29 = 4) : (T_X12_line_j492 I J).1 = (S21_X12_line I J) := by
  unfold T_X12_line_j492
  rw [if_neg (by rw [v]; decide), if_neg (by rw [v]; decide), if_neg (by rw [v]; decide), if_neg (by rw [v]; decide), if_pos v]
theorem t492_5 {I : SI} {J : SJ} (v : I 130 29 = 5) : (T_X12_line_j492 I J).1 = (S24_X12_line I J) := by
  unfold T_X12_line_j492
  rw [if_neg (by rw [v]; decide), if_neg (by rw [v]; decide), if_neg (by rw [v]; decide), if_neg (by rw [v]; decide), if_neg (by rw [v]; decide), if_pos v]
theorem t492_6 {I : SI} {J : SJ} (v : I 130 29 = 6) : (T_X12_line_j492 I J).1 = (S26_X12_line I J) := by
  unfold T_X12_line_j492
  rw [if_neg (by rw [v]; decide), if_neg (by rw [v]; decide), if_neg (by rw [v]; decide), if_neg (by rw [v]; decide), if_neg (by rw [v]; decide), if_neg (by rw [v]; decide), if_pos v]
theorem t492_7 {I : SI} {J : SJ} (v : I 130 29 = 7) : (T_X12_line_j492 I J).1 = (S27_X12_line I J) := by
  unfold T_X12_line_j492
  rw [if_neg (by rw [v]; decide), if_neg (by rw [v]; decide), if_neg (by rw [v]; decide), if_neg (by rw [v]; decide), if_neg (by rw [v]; decide), if_neg (by rw [v]; decide), if_neg (by rw [v]; decide), if_pos v]
theorem t492_8 {I : SI} {J : SJ} (v : I 130 29 = 8) : (T_X12_line_j492 I J).1 = (S28_X12_line I J) := by
  unfold T_X12_line_j492
  rw [if_neg (by rw [v]; decide), if_neg (by rw [v]; decide), if_neg (by rw [v]; decide), if_neg (by rw [v]; decide), if_neg (by rw [v]; decide), if_neg (by rw [v]; decide), if_neg (by rw [v]; decide), if_neg (by rw [v]; decide), if_pos v]
theorem t492_9 {I : SI} {J : SJ} (v0 : ¬ I 130 29 = 0) (v1 : ¬ I 130 29 = 1) (v2 : ¬ I 130 29 = 2) (v3 : ¬ I 130 29 = 3) (v4 : ¬ I 130 29 = 4) (v5 : ¬ I 130 29 = 5) (v6 : ¬ I 130 29 = 6) (v7 : ¬ I 130 29 = 7) (v8 : ¬ I 130 29 = 8) : (T_X12_line_j492 I J).1 = FI_X12_lawLine (FI_X12_token (S1_X12_line I J) J) J := by
  unfold T_X12_line_j492
  rw [if_neg v0, if_neg v1, if_neg v2, if_neg v3, if_neg v4, if_neg v5, if_neg v6, if_neg v7, if_neg v8]
set_option maxHeartbeats 8000000 in
theorem lnT {I : SI} {J : SJ} (e : EI I) (p : PO I) (c : T_X12_line_j72 I J 130 30 = 0) : LX I (T_X12_line_j492 I J).1 := by
  have a := lnA (J := J) e p c
  have M := fun (v : I 130 29 = 0) => lmark (J := J) a.2.1.ei a.2.1.po (by rw [a.2.2 10 (by omega)]; exact nf0 (ln72 e p |>.2 c).2 p v)
  have S := fun (v : I 130 29 = 1) => lshot (J := J) a.2.1.ei a.2.1.po (by rw [a.2.2 11 (by omega)]; exact nf1 (ln72 e p |>.2 c).2 p v)
  have HL := fun (v : I 130 29 = 2) => has_E (J := J) a.2.1.ei a.2.1.po (by rw [a.2.2 12 (by omega)]; exact nf2 (ln72 e p |>.2 c).2 p v)
  have f13 := fun (v : I 130 29 = 3) => show inR (FI_X12_token (S1_X12_line I J) J 132 13) 4 from (by rw [a.2.2 13 (by omega)]; exact nf3 (ln72 e p |>.2 c).2 p v)
  have P := fun (v : I 130 29 = 3) => party_E (a0 := (4 : Int32) + (F_X12_fresher 3 (FI_X12_token (S1_X12_line I J) J) J)) (J := J) a.2.1.ei a.2.1.po (f13 v) (off (f := 4) (la := 8) (f13 v) (by decide) (by decide))
  have C := fun (v : I 130 29 = 4) => lclerk (J := J) a.2.1.ei a.2.1.po (by rw [a.2.2 14 (by omega)]; exact nf4 (ln72 e p |>.2 c).2 p v)
  have K := fun (v : I 130 29 = 5) => lcold (J := J) a.2.1.ei a.2.1.po (by rw [a.2.2 15 (by omega)]; exact nf5 (ln72 e p |>.2 c).2 p v)
  have N6 := lnum (b := 16) (most := 100) (J := J) a.2.1.ei a.2.1.po (by omega) (fun _ => rfl)
  have N7 := lnum (b := 17) (most := 999) (J := J) a.2.1.ei a.2.1.po (by omega) (fun z => absurd z (by decide))
  have N8 := lnum (b := 18) (most := 99999) (J := J) a.2.1.ei a.2.1.po (by omega) (fun z => absurd z (by decide))
  have Lw := lw_E (J := J) a.2.1.ei a.2.1.po
  by_cases v0 : I 130 29 = 0
  · rw [t492_0 v0]; exact a.2.1.tr (M v0).2.2.2.2
  by_cases v1 : I 130 29 = 1
  · rw [t492_1 v1]; exact a.2.1.tr (S v1).2.2.2.2
  by_cases v2 : I 130 29 = 2
  · rw [t492_2 v2]; exact a.2.1.tr (HL v2).2
  by_cases v3 : I 130 29 = 3
  · rw [t492_3 v3]; exact a.2.1.tr (P v3).2
  by_cases v4 : I 130 29 = 4
  · rw [t492_4 v4]; exact a.2.1.tr (C v4).2.2.2
  by_cases v5 : I 130 29 = 5
  · rw [t492_5 v5]; exact a.2.1.tr (K v5).2.2.2
  by_cases v6 : I 130 29 = 6
  · rw [t492_6 v6]; exact a.2.1.tr N6.2
  by_cases v7 : I 130 29 = 7
  · rw [t492_7 v7]; exact a.2.1.tr N7.2
  by_cases v8 : I 130 29 = 8
  · rw [t492_8 v8]; exact a.2.1.tr N8.2
  rw [t492_9 v0 v1 v2 v3 v4 v5 v6 v7 v8]
  exact a.2.1.tr Lw.2
theorem lh_M {I : SI} {J : SJ} (e : EI I) (p : PO I) (c : T_X12_line_j72 I J 130 30 = 0) (v : I 130 29 = 0) : H_X12_fresh 133 12 6 (F_X12_fresher 0 (FI_X12_token  (S1_X12_line I J) J) J) (FI_X12_token  (S1_X12_line I J) J) J ∧ inR ((6 : Int32) + (F_X12_fresher 0 (FI_X12_token  (S1_X12_line I J) J) J)) 12 ∧ H_X12_numeral 0 99 (S6_X12_line I J) J ∧ H_X12_numeral 2 6 (S7_X12_line I J) J := by
  have a := lnA (J := J) e p c
  have M := fun (v : I 130 29 = 0) => lmark (J := J) a.2.1.ei a.2.1.po (by rw [a.2.2 10 (by omega)]; exact nf0 (ln72 e p |>.2 c).2 p v)
  exact ⟨(M v).1, (M v).2.1, (M v).2.2.1, (M v).2.2.2.1⟩
theorem lh_S {I : SI} {J : SJ} (e : EI I) (p : PO I) (c : T_X12_line_j72 I J 130 30 = 0) (v : I 130 29 = 1) : H_X12_fresh 136 16 8 (F_X12_fresher 1 (FI_X12_token  (S1_X12_line I J) J) J) (FI_X12_token  (S1_X12_line I J) J) J ∧ inR ((8 : Int32) + (F_X12_fresher 1 (FI_X12_token  (S1_X12_line I J) J) J)) 16 ∧ H_X12_numeral 1 99 (S12_X12_line I J) J ∧ H_X12_numeral 0 99 (S13_X12_line I J) J := by
  have a := lnA (J := J) e p c
  have S := fun (v : I 130 29 = 1) => lshot (J := J) a.2.1.ei a.2.1.po (by rw [a.2.2 11 (by omega)]; exact nf1 (ln72 e p |>.2 c).2 p v)
  exact ⟨(S v).1, (S v).2.1, (S v).2.2.1, (S v).2.2.2.1⟩
theorem lh_HL {I : SI} {J : SJ} (e : EI I) (p : PO I) (c : T_X12_line_j72 I J 130 30 = 0) (v : I 130 29 = 2) : H_X12_hasLine  (FI_X12_token  (S1_X12_line I J) J) J := by
  have a := lnA (J := J) e p c
  have HL := fun (v : I 130 29 = 2) => has_E (J := J) a.2.1.ei a.2.1.po (by rw [a.2.2 12 (by omega)]; exact nf2 (ln72 e p |>.2 c).2 p v)
  exact (HL v).1
theorem lh_P {I : SI} {J : SJ} (e : EI I) (p : PO I) (c : T_X12_line_j72 I J 130 30 = 0) (v : I 130 29 = 3) : H_X12_partyLine ((4 : Int32) + (F_X12_fresher 3 (FI_X12_token  (S1_X12_line I J) J) J)) (FI_X12_token  (S1_X12_line I J) J) J := by
  have a := lnA (J := J) e p c
  have f13 := fun (v : I 130 29 = 3) => show inR (FI_X12_token (S1_X12_line I J) J 132 13) 4 from (by rw [a.2.2 13 (by omega)]; exact nf3 (ln72 e p |>.2 c).2 p v)
  have P := fun (v : I 130 29 = 3) => party_E (a0 := (4 : Int32) + (F_X12_fresher 3 (FI_X12_token (S1_X12_line I J) J) J)) (J := J) a.2.1.ei a.2.1.po (f13 v) (off (f := 4) (la := 8) (f13 v) (by decide) (by decide))
  exact (P v).1
theorem lh_C {I : SI} {J : SJ} (e : EI I) (p : PO I) (c : T_X12_line_j72 I J 130 30 = 0) (v : I 130 29 = 4) : H_X12_fresh 144 8 4 (F_X12_fresher 4 (FI_X12_token  (S1_X12_line I J) J) J) (FI_X12_token  (S1_X12_line I J) J) J ∧ inR ((4 : Int32) + (F_X12_fresher 4 (FI_X12_token  (S1_X12_line I J) J) J)) 8 ∧ H_X12_numeral 0 63 (S19_X12_line I J) J := by
  have a := lnA (J := J) e p c
  have C := fun (v : I 130 29 = 4) => lclerk (J := J) a.2.1.ei a.2.1.po (by rw [a.2.2 14 (by omega)]; exact nf4 (ln72 e p |>.2 c).2 p v)
  exact ⟨(C v).1, (C v).2.1, (C v).2.2.1⟩
theorem lh_K {I : SI} {J : SJ} (e : EI I) (p : PO I) (c : T_X12_line_j72 I J 130 30 = 0) (v : I 130 29 = 5) : H_X12_numeral 0 99 (FI_X12_token  (S1_X12_line I J) J) J ∧ inR ((3 : Int32) + (F_X12_fresher 5 (FI_X12_token  (S1_X12_line I J) J) J)) 6 ∧ H_X12_numeral (T_X12_line_j418 I J) 99 (S22_X12_line I J) J := by
  have a := lnA (J := J) e p c
  have K := fun (v : I 130 29 = 5) => lcold (J := J) a.2.1.ei a.2.1.po (by rw [a.2.2 15 (by omega)]; exact nf5 (ln72 e p |>.2 c).2 p v)
  exact ⟨(K v).1, (K v).2.1, (K v).2.2.1⟩
set_option maxHeartbeats 8000000 in
theorem lnH {I : SI} {J : SJ} (e : EI I) (p : PO I) : H_X12_line I J := by
  unfold H_X12_line
  exact ⟨fun _ _ => lnI, fun _ _ h2 => (lnA e p h2).1, fun _ _ h2 h3 _ => (tok_E (x := 0) (lnT e p h2).ei h3).1, fun _ _ _ _ => fr_H (k := 0) (by decide), fun _ _ h2 h3 => (lh_M e p h2 h3).1, fun _ _ h2 h3 => (lh_M e p h2 h3).2.1, fun _ _ h2 h3 => (lh_M e p h2 h3).2.2.1, fun _ _ h2 h3 => (lh_M e p h2 h3).2.2.2, fun _ _ _ _ => fr_H (k := 0) (by decide), fun _ _ _ _ => rd_H (k := 0) (by decide), fun _ _ _ _ _ => fr_H (k := 1) (by decide), fun _ _ h2 _ h4 => (lh_S e p h2 h4).1, fun _ _ h2 _ h4 => (lh_S e p h2 h4).2.1, fun _ _ h2 _ h4 => (lh_S e p h2 h4).2.2.1, fun _ _ h2 _ h4 => (lh_S e p h2 h4).2.2.2, fun _ _ _ _ _ => fr_H (k := 1) (by decide), fun _ _ _ _ _ => rd_H (k := 1) (by decide), fun _ _ h2 _ _ h5 => (lh_HL e p h2 h5), fun _ _ _ _ _ _ _ => fr_H (k := 3) (by decide), fun _ _ h2 _ _ _ h6 => (lh_P e p h2 h6), fun _ _ _ _ _ _ _ _ => fr_H (k := 4) (by decide), fun _ _ h2 _ _ _ _ h7 => (lh_C e p h2 h7).1, fun _ _ h2 _ _ _ _ h7 => (lh_C e p h2 h7).2.1, fun _ _ h2 _ _ _ _ h7 => (lh_C e p h2 h7).2.2, fun _ _ _ _ _ _ _ _ => fr_H (k := 4) (by decide), fun _ _ _ _ _ _ _ _ => rd_H (k := 4) (by decide), fun _ _ _ _ _ _ _ _ _ => fr_H (k := 5) (by decide), fun _ _ h2 _ _ _ _ _ h8 => (lh_K e p h2 h8).1, fun _ _ h2 _ _ _ _ _ h8 => (lh_K e p h2 h8).2.1, fun _ _ h2 _ _ _ _ _ h8 => (lh_K e p h2 h8).2.2, fun _ _ _ _ _ _ _ _ _ => fr_H (k := 5) (by decide), fun _ _ _ _ _ _ _ _ _ => rd_H (k := 5) (by decide), fun _ _ h2 _ _ _ _ _ h8 _ => (lh_K e p h2 h8).2.1, fun _ _ h2 _ _ _ _ _ _ _ => (lnum (b := 16) (most := 100) (lnA e p h2).2.1.ei (lnA e p h2).2.1.po (by omega) (fun z => rfl)).1, fun _ _ _ _ _ _ _ _ _ _ => rd_H (k := 6) (by decide), fun _ _ h2 _ _ _ _ _ _ _ _ => (lnum (b := 17) (most := 999) (lnA e p h2).2.1.ei (lnA e p h2).2.1.po (by omega) (fun z => absurd z (by decide))).1, fun _ _ _ _ _ _ _ _ _ _ _ => rd_H (k := 7) (by decide), fun _ _ h2 _ _ _ _ _ _ _ _ _ => (lnum (b := 18) (most := 99999) (lnA e p h2).2.1.ei (lnA e p h2).2.1.po (by omega) (fun z => absurd z (by decide))).1, fun _ _ _ _ _ _ _ _ _ _ _ _ => rd_H (k := 8) (by decide), fun _ _ h2 _ _ _ _ _ _ _ _ _ => (lw_E (lnA e p h2).2.1.ei (lnA e p h2).2.1.po).1⟩
set_option maxHeartbeats 8000000 in
theorem line_E {I : SI} {J : SJ} (e : EI I) (p : PO I) : H_X12_line I J ∧ LX I (FI_X12_line I J) ∧ (FI_X12_line I J 130 30 = 0 → psn I < psn (FI_X12_line I J)) := by
  have w1 := wrong_E (w := 1) (x := 0) (J := J) e (by decide)
  refine ⟨lnH e p, ?_⟩
  unfold FI_X12_line
  by_cases c0 : I 130 28 = 0
  · rw [if_pos c0]
    by_cases c1 : I 130 29 ≤ 9
    · rw [if_pos c1]
      by_cases c2 : T_X12_line_j72 I J 130 30 = 0
      · rw [if_pos c2]
        have t := lnT (J := J) e p c2
        by_cases c3 : (T_X12_line_j492 I J).1 130 30 = 0
        · rw [if_pos c3]
          by_cases c4 : F_X12_isSign 59 (T_X12_line_j492 I J).1 (T_X12_line_j492 I J).2 = 0
          · rw [if_pos c4]
            have ww := wrong_E (w := 1) (x := 0) (J := (T_X12_line_j492 I J).2) t.ei (by decide)
            unfold S3_X12_line
            exact ⟨(t.tr (ww.1.lx t.po)).u (by omega), fun z => absurd ((u2_n _ _ (by omega)).symm.trans z) ww.2⟩
          · rw [if_neg c4]
            have tt := tok_E (x := 0) (J := (T_X12_line_j492 I J).2) t.ei c3
            have l := t.tr (tt.2.lx t.po)
            unfold S2_X12_line
            refine ⟨l.u (by omega), fun _ => ?_⟩
            have g := t.2.2.2
            have s3 := (isS c4).2.1
            have lt : psn I < psn (T_X12_line_j492 I J).1 := by
              rcases g.2 with q | q | q
              · exact q
              · rw [s3, c0] at q; exact absurd q (by decide)
              · rw [s3] at q; exact absurd q (by decide)
            rw [psn_u (by omega)]
            exact Nat.lt_of_lt_of_le lt tt.2.2.2.1.1
        · rw [if_neg c3]; exact ⟨t, fun z => absurd z c3⟩
      · rw [if_neg c2]; exact ⟨(ln72 e p).1, fun z => absurd z c2⟩
    · rw [if_neg c1]; exact ⟨w1.1.lx p, fun z => absurd z w1.2⟩
  · rw [if_neg c0]; exact ⟨w1.1.lx p, fun z => absurd z w1.2⟩
