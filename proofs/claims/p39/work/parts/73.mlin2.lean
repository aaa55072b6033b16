/-! the model reads each kind of line -/
def LC (b : Nat) (I I' : SI) : Prop := LX I I' ∧ I' 132 b = I 132 b
theorem LC.rf {b : Nat} {I : SI} (h : EI I) (p : PO I) : LC b I I := ⟨LX.rf h p, rfl⟩
theorem LC.tr {b : Nat} {I I1 I2 : SI} (h : LC b I I1) (h2 : LC b I1 I2) : LC b I I2 := ⟨h.1.tr h2.1, h2.2.trans h.2⟩
theorem LC.ei {b : Nat} {I I1 : SI} (h : LC b I I1) : EI I1 := h.1.1
theorem LC.po {b : Nat} {I I1 : SI} (h : LC b I I1) : PO I1 := h.1.2.1
theorem PX.lc {s t x y b : Nat} {I I1 : SI} (h : PX s t x y I I1) (p : PO I) (hb : b < 19) : LC b I I1 := ⟨h.lx p, h.2.1 132 b (by omega) (by omega) (by omega)⟩
theorem LC.x {s t x y b : Nat} {I I1 I2 : SI} (h : LC b I I1) (p : PX s t x y I1 I2) (hb : b < 19) : LC b I I2 := h.tr (p.lc h.po hb)
theorem LC.u {I I1 : SI} {a b c : Nat} {v : Int32} (h : LC c I I1) (q : a = 133 ∨ a = 134 ∨ (136 ≤ a ∧ a ≤ 140) ∨ (142 ≤ a ∧ a ≤ 147) ∨ (a = 130 ∧ (b = 23 ∨ b = 24))) : LC c I (u2 I1 a b v) := ⟨h.1.u q, (u2_n _ _ (by omega)).trans h.2⟩
theorem LC.p {I I1 : SI} {b c : Nat} {v : Int32} (h : LC c I I1) (hb : 4 ≤ b) (hv : inR v 6) : LC c I (u2 I1 141 b v) := ⟨h.1.p hb hv, (u2_n _ _ (by omega)).trans h.2⟩
theorem LC.w {I I1 : SI} {b c : Nat} {v : Int32} (h : LC c I I1) (hb : 6 ≤ b) (hv : inR v 7) : LC c I (u2 I1 135 b v) := ⟨h.1.w hb hv, (u2_n _ _ (by omega)).trans h.2⟩
/-- one more of a kind -/
theorem LC.one {b : Nat} {I I1 : SI} (h : LC b I I1) (hb : 10 ≤ b ∧ b ≤ 15) (hf : inR (I 132 b) (MO b - 1)) : LX I (u2 I1 132 b (I1 132 b + 1)) := by
  refine h.1.n (by omega) (fun _ => ?_)
  have m : MO b - 1 + 1 = MO b ∧ MO b - 1 < 800 := by
    rcases (by omega : b = 10 ∨ b = 11 ∨ b = 12 ∨ b = 13 ∨ b = 14 ∨ b = 15) with rfl | rfl | rfl | rfl | rfl | rfl <;> decide
  rw [h.2]
  have k := (cn_s m.2 hf).1
  rw [m.1] at k
  exact k
theorem off {f N la : Nat} {x : Int32} (h : inR x N) (hl : f + N ≤ la) (hla : la < 800) : inR (nI f + x) la ∧ f ≤ (nI f + x).toNatClampNeg := by
  obtain ⟨j, hj, e⟩ := h.n
  rw [e, nI_add, nI_clamp (by omega)]
  exact ⟨inR_nI (by omega) (by omega), by omega⟩
theorem v26 {v : Int32} (h : v = 2 ∨ (¬ v < 2 ∧ v ≤ 6)) : inR v 7 := by
  rcases h with e | e
  · rw [e]; exact ⟨rfl, by decide⟩
  · exact in_le (N := 6) (by decide) (fun q => e.1 (Int32.lt_of_lt_of_le q (by decide))) e.2
theorem lmark {I : SI} {J : SJ} (e : EI (FI_X12_token (S1_X12_line I J) J)) (p : PO (FI_X12_token (S1_X12_line I J) J)) (hf : inR (FI_X12_token (S1_X12_line I J) J 132 10) 6) : H_X12_fresh 133 12 6 (F_X12_fresher 0 (FI_X12_token (S1_X12_line I J) J) J) (FI_X12_token (S1_X12_line I J) J) J ∧ inR ((6 : Int32) + (F_X12_fresher 0 (FI_X12_token (S1_X12_line I J) J) J)) 12 ∧ H_X12_numeral 0 99 (S6_X12_line I J) J ∧ H_X12_numeral 2 6 (S7_X12_line I J) J ∧ LX (FI_X12_token (S1_X12_line I J) J) (S9_X12_line I J) := by
  have fr := fresh_E (a0 := 133) (la := 12) (f := 6) (N := 6) (x := 0) (c := F_X12_fresher 0 (FI_X12_token (S1_X12_line I J) J) J) (J := J) e (hf.le (by decide)) (by decide) (by decide)
  have i := off (f := 6) (la := 12) hf (by decide) (by decide)
  have a4 : LC 10 (FI_X12_token (S1_X12_line I J) J) (S4_X12_line I J) := by unfold S4_X12_line; exact fr.2.lc p (by omega)
  have a6 : LC 10 (FI_X12_token (S1_X12_line I J) J) (S6_X12_line I J) := by unfold S6_X12_line; exact a4.u (by omega)
  have n1 := num_E (a0 := 0) (a1 := 99) (x := 0) (J := J) a6.ei
  have a7 : LC 10 (FI_X12_token (S1_X12_line I J) J) (S7_X12_line I J) := by unfold S7_X12_line; exact (a6.x n1.2.1 (by omega)).u (by omega)
  have n2 := num_E (a0 := 2) (a1 := 6) (x := 0) (J := J) a7.ei
  have a8 : LC 10 (FI_X12_token (S1_X12_line I J) J) (S8_X12_line I J) := by unfold S8_X12_line; exact (a7.x n2.2.1 (by omega)).w i.2 (v26 n2.2.2)
  refine ⟨fr.1, i.1, n1.1, n2.1, ?_⟩
  have q := a8.one (by omega) hf
  exact q
theorem lshot {I : SI} {J : SJ} (e : EI (FI_X12_token (S1_X12_line I J) J)) (p : PO (FI_X12_token (S1_X12_line I J) J)) (hf : inR (FI_X12_token (S1_X12_line I J) J 132 11) 8) : H_X12_fresh 136 16 8 (F_X12_fresher 1 (FI_X12_token (S1_X12_line I J) J) J) (FI_X12_token (S1_X12_line I J) J) J ∧ inR ((8 : Int32) + (F_X12_fresher 1 (FI_X12_token (S1_X12_line I J) J) J)) 16 ∧ H_X12_numeral 1 99 (S12_X12_line I J) J ∧ H_X12_numeral 0 99 (S13_X12_line I J) J ∧ LX (FI_X12_token (S1_X12_line I J) J) (S15_X12_line I J) := by
  have fr := fresh_E (a0 := 136) (la := 16) (f := 8) (N := 8) (x := 0) (c := F_X12_fresher 1 (FI_X12_token (S1_X12_line I J) J) J) (J := J) e (hf.le (by decide)) (by decide) (by decide)
  have i := off (f := 8) (la := 16) hf (by decide) (by decide)
  have a4 : LC 11 (FI_X12_token (S1_X12_line I J) J) (S10_X12_line I J) := by unfold S10_X12_line; exact fr.2.lc p (by omega)
  have a6 : LC 11 (FI_X12_token (S1_X12_line I J) J) (S12_X12_line I J) := by unfold S12_X12_line; exact a4.u (by omega)
  have n1 := num_E (a0 := 1) (a1 := 99) (x := 0) (J := J) a6.ei
  have a7 : LC 11 (FI_X12_token (S1_X12_line I J) J) (S13_X12_line I J) := by unfold S13_X12_line; exact (a6.x n1.2.1 (by omega)).u (by omega)
  have n2 := num_E (a0 := 0) (a1 := 99) (x := 0) (J := J) a7.ei
  have a8 : LC 11 (FI_X12_token (S1_X12_line I J) J) (S14_X12_line I J) := by unfold S14_X12_line; exact (a7.x n2.2.1 (by omega)).u (by omega)
  refine ⟨fr.1, i.1, n1.1, n2.1, ?_⟩
  have q := a8.one (by omega) hf
  exact q
theorem lclerk {I : SI} {J : SJ} (e : EI (FI_X12_token (S1_X12_line I J) J)) (p : PO (FI_X12_token (S1_X12_line I J) J)) (hf : inR (FI_X12_token (S1_X12_line I J) J 132 14) 4) : H_X12_fresh 144 8 4 (F_X12_fresher 4 (FI_X12_token (S1_X12_line I J) J) J) (FI_X12_token (S1_X12_line I J) J) J ∧ inR ((4 : Int32) + (F_X12_fresher 4 (FI_X12_token (S1_X12_line I J) J) J)) 8 ∧ H_X12_numeral 0 63 (S19_X12_line I J) J ∧ LX (FI_X12_token (S1_X12_line I J) J) (S21_X12_line I J) := by
  have fr := fresh_E (a0 := 144) (la := 8) (f := 4) (N := 4) (x := 0) (c := F_X12_fresher 4 (FI_X12_token (S1_X12_line I J) J) J) (J := J) e (hf.le (by decide)) (by decide) (by decide)
  have i := off (f := 4) (la := 8) hf (by decide) (by decide)
  have a4 : LC 14 (FI_X12_token (S1_X12_line I J) J) (S17_X12_line I J) := by unfold S17_X12_line; exact fr.2.lc p (by omega)
  have a6 : LC 14 (FI_X12_token (S1_X12_line I J) J) (S19_X12_line I J) := by unfold S19_X12_line; exact a4.u (by omega)
  have n1 := num_E (a0 := 0) (a1 := 63) (x := 0) (J := J) a6.ei
  have a7 : LC 14 (FI_X12_token (S1_X12_line I J) J) (S20_X12_line I J) := by unfold S20_X12_line; exact (a6.x n1.2.1 (by omega)).u (by omega)
  refine ⟨fr.1, i.1, n1.1, ?_⟩
  have q := a7.one (by omega) hf
  exact q
theorem lcold {I : SI} {J : SJ} (e : EI (FI_X12_token (S1_X12_line I J) J)) (p : PO (FI_X12_token (S1_X12_line I J) J)) (hf : inR (FI_X12_token (S1_X12_line I J) J 132 15) 3) : H_X12_numeral 0 99 (FI_X12_token (S1_X12_line I J) J) J ∧ inR ((3 : Int32) + (F_X12_fresher 5 (FI_X12_token (S1_X12_line I J) J) J)) 6 ∧ H_X12_numeral (T_X12_line_j418 I J) 99 (S22_X12_line I J) J ∧ LX (FI_X12_token (S1_X12_line I J) J) (S24_X12_line I J) := by
  have i := off (f := 3) (la := 6) hf (by decide) (by decide)
  have n1 := num_E (a0 := 0) (a1 := 99) (x := 0) (J := J) e
  have a6 : LC 15 (FI_X12_token (S1_X12_line I J) J) (S22_X12_line I J) := by unfold S22_X12_line; exact (n1.2.1.lc p (by omega)).u (by omega)
  have n2 := num_E (a0 := T_X12_line_j418 I J) (a1 := 99) (x := 0) (J := J) a6.ei
  have a7 : LC 15 (FI_X12_token (S1_X12_line I J) J) (S23_X12_line I J) := by unfold S23_X12_line; exact (a6.x n2.2.1 (by omega)).u (by omega)
  refine ⟨n1.1, i.1, n2.1, ?_⟩
  have q := a7.one (by omega) hf
  exact q
theorem lnum {b : Nat} {most : Int32} {I : SI} {J : SJ} (e : EI I) (p : PO I) (hb : 16 ≤ b ∧ b ≤ 18) (hm : b = 16 → most = 100) : H_X12_numeral 0 most I J ∧ LX I (u2 (FI_X12_numeral 0 most I J) 132 b (F_X12_numeral 0 most I J)) := by
  have n := num_E (a0 := 0) (a1 := most) (x := 0) (J := J) e
  refine ⟨n.1, (n.2.1.lx p).n (by omega) (fun h => ?_)⟩
  have b16 : b = 16 := by omega
  have m := hm b16
  rw [b16]
  show inR _ 101
  rcases n.2.2 with z | z
  · rw [z]; exact cn_0
  · rw [m] at z ⊢
    exact in_le (N := 100) (by decide) z.1 z.2
theorem mk_E {I : SI} {J : SJ} {x : Nat} (e : EI I) (p : PO I) : H_X12_markAtHand I J ∧ PX 0 0 x x I (FI_X12_markAtHand I J) ∧ inR (F_X12_markAtHand I J) 6 := by
  have h := hand_E (a0 := 133) (la := 12) (f := 6) (N := 6) (x := x) (c := F_X12_fresher 0 I J) (J := J) e p.1 (by decide) (by decide) (by decide)
  refine ⟨?_, h.2.1, h.2.2⟩
  unfold H_X12_markAtHand
  exact ⟨fr_H (k := 0) (by decide), h.1⟩
theorem ix96 {s m : Int32} (hs : inR s 8) (hm : inR m 6) : inR ((48 : Int32) + (6 : Int32) * s + m) 96 := by
  obtain ⟨i, hi, e1⟩ := hs.n
  obtain ⟨j, hj, e2⟩ := hm.n
  rw [e1, e2, show (48 : Int32) = nI 48 from rfl, show (6 : Int32) = nI 6 from rfl, nI_mul, nI_add, nI_add]
  exact inR_nI (by omega) (by decide)
theorem has_E {I : SI} {J : SJ} (e : EI I) (p : PO I) (hf : inR (I 132 12) 20) : H_X12_hasLine I J ∧ LX I (FI_X12_hasLine I J) := by
  have a := hand_E (a0 := 136) (la := 16) (f := 8) (N := 8) (x := 0) (c := F_X12_fresher 1 I J) (J := J) e p.2.1 (by decide) (by decide) (by decide)
  have c1 : LC 12 I (FI_X12_atHand 136 16 8 (F_X12_fresher 1 I J) I J) := a.2.1.lc p (by omega)
  have g1 := goOn_E (x := 0) (J := J) c1.ei
  have c2 := c1.x g1.2 (by omega)
  have m := mk_E (x := 0) (J := J) c2.ei c2.po
  have c3 : LC 12 I (S1_X12_hasLine I J) := by unfold S1_X12_hasLine; exact c2.x m.2.1 (by omega)
  have i2 : inR (S2_X12_hasLine I J) 96 := by unfold S2_X12_hasLine; exact ix96 a.2.2 m.2.2
  have i6 : inR (S6_X12_hasLine I J) 12 := by unfold S6_X12_hasLine; exact (off (f := 6) (la := 12) m.2.2 (by decide) (by decide)).1
  have c4 : LC 12 I (T_X12_hasLine_j57 I J) := by
    unfold T_X12_hasLine_j57
    repeat' split
    · exact c3
    · exact c3.x (wrong_E (x := 0) c3.ei (by decide)).1 (by omega)
    · exact c3
  have g2 := goOn_E (x := 0) (J := J) c4.ei
  have c5 := c4.x g2.2 (by omega)
  have n := num_E (a0 := 0) (a1 := T_X12_hasLine_j85 I J) (x := 0) (J := J) c5.ei
  have c6 : LC 12 I (S3_X12_hasLine I J) := by unfold S3_X12_hasLine; exact c5.x n.2.1 (by omega)
  have c7 : LC 12 I (S4_X12_hasLine I J) := by unfold S4_X12_hasLine; exact c6.u (by omega)
  refine ⟨?_, ?_⟩
  · unfold H_X12_hasLine
    exact ⟨fr_H (k := 1) (by decide), a.1, g1.1, m.1, g2.1, n.1, fun _ => i2, fun _ => fr_H (k := 2) (by decide), fun _ => rd_H (k := 2) (by decide), fun _ => i6, fun _ => i2⟩
  · unfold FI_X12_hasLine
    split
    · have q := c7.one (by omega) hf
      exact q
    · exact c6.1
theorem party_E {a0 : Int32} {I : SI} {J : SJ} (e : EI I) (p : PO I) (hf : inR (I 132 13) 4) (ha : inR a0 8 ∧ 4 ≤ a0.toNatClampNeg) : H_X12_partyLine a0 I J ∧ LX I (FI_X12_partyLine a0 I J) := by
  have fr := fresh_E (a0 := 140) (la := 8) (f := 4) (N := 4) (x := 0) (c := F_X12_fresher 3 I J) (J := J) e (hf.le (by decide)) (by decide) (by decide)
  have c1 : LC 13 I (S1_X12_partyLine a0 I J) := by unfold S1_X12_partyLine; exact (fr.2.lc p (by omega)).u (by omega)
  have m := mk_E (x := 0) (J := J) c1.ei c1.po
  have c2 : LC 13 I (S2_X12_partyLine a0 I J) := by unfold S2_X12_partyLine; exact (c1.x m.2.1 (by omega)).p ha.2 m.2.2
  have g := goOn_E (x := 0) (J := J) c2.ei
  have c3 := c2.x g.2 (by omega)
  have n1 := num_E (a0 := 0) (a1 := T_X12_partyLine_j68 a0 I J) (x := 0) (J := J) c3.ei
  have c4 : LC 13 I (S3_X12_partyLine a0 I J) := by unfold S3_X12_partyLine; exact c3.x n1.2.1 (by omega)
  have c5 : LC 13 I (S4_X12_partyLine a0 I J) := by unfold S4_X12_partyLine; exact c4.u (by omega)
  have n2 := num_E (a0 := 0) (a1 := 99) (x := 0) (J := J) c5.ei
  have c6 : LC 13 I (S5_X12_partyLine a0 I J) := by unfold S5_X12_partyLine; exact (c5.x n2.2.1 (by omega)).u (by omega)
  refine ⟨?_, ?_⟩
  · unfold H_X12_partyLine
    exact ⟨fr_H (k := 3) (by decide), fr.1, ha.1, m.1, g.1, n1.1, n2.1, fr_H (k := 3) (by decide), rd_H (k := 3) (by decide), fun _ => ha.1, fun _ => (off (f := 6) (la := 12) (c3.po.2.2.2.2.2.2.2.1 _ ha.2 ha.1.2) (by decide) (by decide)).1⟩
  · unfold FI_X12_partyLine
    have q := c6.one (by omega) hf
    exact q
theorem lw_E {I : SI} {J : SJ} (e : EI I) (p : PO I) : H_X12_lawLine I J ∧ LX I (FI_X12_lawLine I J) := by
  have w1 := wrong_E (w := 1) (x := 0) (J := J) e (by decide)
  have T : LX I (T_X12_lawLine_j30 I J) ∧ (T_X12_lawLine_j30 I J 130 30 = 0 → ∃ k, k < 3 ∧ T_X12_lawLine_j30 I J 130 29 - 10 = nI k) := by
    unfold T_X12_lawLine_j30
    by_cases a : I 130 28 = 0
    · rw [if_pos a]
      by_cases b : I 130 29 < 10
      · rw [if_pos b]; exact ⟨w1.1.lx p, fun z => absurd z w1.2⟩
      · rw [if_neg b]
        by_cases c : I 130 29 ≤ 12
        · rw [if_pos c]
          refine ⟨LX.rf e p, fun _ => ?_⟩
          have q : inR (I 130 29) 13 := in_le (N := 12) (by decide) (fun z => b (Int32.lt_trans z (by decide))) c
          obtain ⟨j, hj, ej⟩ := q.n
          rw [ej] at b ⊢
          have j10 : 10 ≤ j := by
            by_cases z : 10 ≤ j
            · exact z
            · exact absurd (nI_lt (a := j) (b := 10) (by omega) (by decide)) b
          exact ⟨j - 10, by omega, pk_sub (b := 10) j10⟩
        · rw [if_neg c]; exact ⟨w1.1.lx p, fun z => absurd z w1.2⟩
    · rw [if_neg a]; exact ⟨w1.1.lx p, fun z => absurd z w1.2⟩
  have T2 : LX I (T_X12_lawLine_j65 I J) ∧ (T_X12_lawLine_j65 I J 130 30 = 0 → T_X12_lawLine_j30 I J 130 30 = 0) := by
    unfold T_X12_lawLine_j65
    by_cases a : T_X12_lawLine_j30 I J 130 30 = 0
    · rw [if_pos a]
      split
      · exact ⟨T.1.tr ((wrong_E (x := 0) T.1.ei (by decide)).1.lx T.1.po), fun _ => a⟩
      · exact ⟨T.1, fun _ => a⟩
    · rw [if_neg a]; exact ⟨T.1, fun z => z⟩
  have u3 : ∀ v : Int32, LX I (u2 (T_X12_lawLine_j65 I J) 130 23 v) := fun v => T2.1.u (by omega)
  have tk := fun (c : T_X12_lawLine_j65 I J 130 30 = 0) => tok_E (x := 0) (J := J) (u3 (S1_X12_lawLine I J)).ei ((u2_n _ _ (by omega)).trans c)
  have s2 : T_X12_lawLine_j65 I J 130 30 = 0 → LX I (S2_X12_lawLine I J) := fun c => by
    unfold S2_X12_lawLine
    exact (u3 _).tr ((tk c).2.lx (u3 _).po)
  have ix : T_X12_lawLine_j65 I J 130 30 = 0 → ∃ k, k < 3 ∧ (3 : Int32) + (T_X12_lawLine_j30 I J 130 29 - 10) = nI (3 + k) := fun c => by
    obtain ⟨k, hk, ek⟩ := T.2 (T2.2 c)
    exact ⟨k, hk, by rw [ek, show (3 : Int32) = nI 3 from rfl, nI_add]⟩
  have e3 : T_X12_lawLine_j65 I J 130 30 = 0 → EI (S3_X12_lawLine I J) := fun c => by
    unfold S3_X12_lawLine
    exact (s2 c).ei.u (by omega) (by omega)
  refine ⟨?_, ?_⟩
  · unfold H_X12_lawLine
    exact ⟨fun c => (tk c).1, fun _ => fr_H (k := 9) (by decide), fun c => by
      obtain ⟨k, hk, ek⟩ := ix c
      rw [ek]
      exact inR_nI (by omega) (by decide), fun c => (side_E (e3 c)).1, fun _ => fr_H (k := 9) (by decide)⟩
  · unfold FI_X12_lawLine
    by_cases c : T_X12_lawLine_j65 I J 130 30 = 0
    · rw [if_pos c]
      refine (s2 c).tr ?_
      obtain ⟨k, hk, ek⟩ := ix c
      have s := (s2 c)
      have sd := (side_E (J := J) (e3 c)).2
      have t3 : ((3 : Int32) + (T_X12_lawLine_j30 I J 130 29 - 10)).toNatClampNeg = 3 + k := by rw [ek, nI_clamp (by omega)]
      have q3 : S3_X12_lawLine I J = u2 (S2_X12_lawLine I J) 148 (3 + k) (S2_X12_lawLine I J 132 19) := by
        unfold S3_X12_lawLine
        rw [t3]
        rfl
      have q5 : S5_X12_lawLine I J = u2 (RG_expr 140 0 (S3_X12_lawLine I J) J).1 149 (3 + k) ((RG_expr 140 0 (S3_X12_lawLine I J) J).1 132 19) := by
        unfold S5_X12_lawLine S4_X12_lawLine
        rw [t3]
        rfl
      generalize hR : (RG_expr 140 0 (S3_X12_lawLine I J) J).1 = R at sd q5
      generalize hS : S2_X12_lawLine I J = S at s q3
      rw [q5]
      rw [q3] at sd
      obtain ⟨e1, k1, g1, n1, f1, o1, p1⟩ := sd
      have nS : nn (u2 S 148 (3 + k) (S 132 19)) = nn S := by unfold nn; exact congrArg Int32.toNatClampNeg (u2_n _ _ (by omega))
      rw [nS] at n1 o1
      have a8 : ∀ a b, ¬ (a = 148 ∧ b = 3 + k) → u2 S 148 (3 + k) (S 132 19) a b = S a b := fun a b z => u2_n _ _ z
      have kR : ∀ a b, ¬ (a = 130 ∧ ((26 ≤ b ∧ b ≤ 31) ∨ b = 34 ∨ b = 35)) → ¬ (a = 132 ∧ b = 19) → ¬ ((a = 150 ∨ a = 151) ∧ 64 + nn S ≤ b) → ¬ (a = 148 ∧ b = 3 + k) → R a b = S a b := fun a b x y z w => (k1 a b x y (by rw [nS]; exact z)).trans (a8 a b w)
      have e9 : ∀ a b, ¬ (a = 149 ∧ b = 3 + k) → u2 R 149 (3 + k) (R 132 19) a b = R a b := fun a b z => u2_n _ _ z
      have n9 : nn (u2 R 149 (3 + k) (R 132 19)) = nn R := by unfold nn; rw [e9 132 19 (by omega)]
      have gR : GT S R := (GT.sm (a8 130 26 (by omega)) (a8 130 28 (by omega))).tr g1
      obtain ⟨a0, a1, a2, a3, a4, a5, a6, pp, mm, ll⟩ := s.po
      have er : ∀ b, b < 19 → u2 R 149 (3 + k) (R 132 19) 132 b = S 132 b := fun b z => (e9 132 b (by omega)).trans (kR 132 b (by omega) (by omega) (by omega) (by omega))
      have cd : ∀ j, j < nn S → KK (u2 R 149 (3 + k) (R 132 19)) j = KK S j ∧ VV (u2 R 149 (3 + k) (R 132 19)) j = VV S j := fun j hj => ⟨(e9 150 _ (by omega)).trans (kR 150 (64 + j) (by omega) (by omega) (by omega) (by omega)), (e9 151 _ (by omega)).trans (kR 151 (64 + j) (by omega) (by omega) (by omega) (by omega))⟩
      have cd2 : ∀ j, KK (u2 R 149 (3 + k) (R 132 19)) j = KK R j ∧ VV (u2 R 149 (3 + k) (R 132 19)) j = VV R j := fun j => ⟨e9 150 (64 + j) (by omega), e9 151 (64 + j) (by omega)⟩
      refine ⟨e1.u (by omega) (by omega), ⟨by rw [er 10 (by omega)]; exact a0, by rw [er 11 (by omega)]; exact a1, by rw [er 12 (by omega)]; exact a2, by rw [er 13 (by omega)]; exact a3, by rw [er 14 (by omega)]; exact a4, by rw [er 15 (by omega)]; exact a5, by rw [er 16 (by omega)]; exact a6, fun b z w => ?_, fun b z w => ?_, fun j hj => ?_⟩, fun a b z => ?_, gR.tr (GT.u (by omega))⟩
      · rw [e9 141 b (by omega), kR 141 b (by omega) (by omega) (by omega) (by omega)]; exact pp b z w
      · rw [e9 135 b (by omega), kR 135 b (by omega) (by omega) (by omega) (by omega)]; exact mm b z w
      · by_cases y : j = k
        · refine ⟨nn S, nn R - nn S, ?_, ?_, by rw [n9]; omega, ?_⟩
          · rw [y, e9 148 _ (by omega), k1 148 (3 + k) (by omega) (by omega) (by omega), u2_s]
            obtain ⟨i, hi, ei⟩ := s.ei.2.2.2.2.1.n
            unfold nn
            rw [ei, nI_clamp (by omega)]
          · rw [y, u2_s, show nn S + (nn R - nn S) = nn R from by omega]
            obtain ⟨i, hi, ei⟩ := e1.2.2.2.2.1.n
            unfold nn
            rw [ei, nI_clamp (by omega)]
          · exact okc_cg _ _ _ (fun i _ _ => cd2 i) (o1 0)
        · obtain ⟨f, n, b1, b2, b3, b4⟩ := ll j hj
          refine ⟨f, n, ?_, ?_, by rw [n9]; omega, okc_cg _ _ _ (fun i _ z => cd i (by omega)) b4⟩
          · rw [e9 148 _ (by omega), kR 148 _ (by omega) (by omega) (by omega) (by omega)]; exact b1
          · rw [e9 149 _ (by omega), kR 149 _ (by omega) (by omega) (by omega) (by omega)]; exact b2
      · unfold dpL at z
        exact (e9 a b (by omega)).trans (kR a b (by omega) (by omega) (by omega) (by omega))
    · rw [if_neg c]; exact T2.1

