/-! the class: which longs its days change -/
theorem JF.rf (k : Nat) (J : SJ) : JF k J J := fun _ _ _ => rfl
theorem worth_J {k a0 la0 : Nat} {I : SI} {J : SJ} : JF k J (FJ_X1_worth k a0 la0 I J) := by
  have L := itE_inv (f := B_X1_worth_l4_2 k a0 la0 I J) (s0 := ((0 : Int32), J)) (fun s => JF k J s.2) (fun r => JF k J r.2) (JF.rf k J) (fun i s s' h e => by
    unfold B_X1_worth_l4_2 at e
    repeat' split at e
    all_goals cases e
    all_goals first
      | exact h
      | (unfold S1_X1_worth; exact fun a b z => (u2_n _ _ (fun y => z y.1)).trans (h a b z))) (fun i s r h e => by
    unfold B_X1_worth_l4_2 at e
    repeat' split at e
    all_goals cases e
    all_goals exact h)
  unfold FJ_X1_worth
  cases q : F_X1_worth_l4_2 k a0 la0 I J (0, J) with
  | inl s =>
    show JF k J (if I k 0 = 0 then s.2 else s.2)
    rw [ite_self]
    exact L.1 _ _ q
  | inr r => exact L.2 _ _ q
theorem wof_J {k0 : Nat} {a1 a2 a3 a4 a5 : Int32} {I : SI} {J : SJ} (h3 : k0 < 3) : JW J (FJ_X0_worthOf (29 + 4 * k0) a1 a2 a3 a4 a5 I J) := by
  unfold FJ_X0_worthOf S3_X0_worthOf
  split
  · exact JW.rf J
  · intro a b z
    have eC : u2 (S2_X0_worthOf (29 + 4 * k0) a1 a2 a3 a4 a5 I J) 115 6 ((I 105 5).toInt64) = ch7 115 J a1.toInt64 a2.toInt64 a3.toInt64 a4.toInt64 a5.toInt64 (I 105 0).toInt64 (I 105 5).toInt64 := rfl
    rw [eC]
    exact (worth_J a b (by omega)).trans (ch7_n _ _ _ _ _ _ _ _ _ a b (by omega))
theorem notice_J {a0 a1 : Int32} {I : SI} {J : SJ} : JW J (FJ_X0_noticeWorth a0 a1 I J) := wof_J (k0 := 0) (by omega)
theorem yield_J {a0 a1 : Int32} {I : SI} {J : SJ} : JW J (FJ_X0_yieldWorth a0 a1 I J) := wof_J (k0 := 1) (by omega)
theorem againw_J {a0 : Int32} {I : SI} {J : SJ} : JW J (FJ_X0_againWorth a0 I J) := wof_J (k0 := 2) (by omega)
theorem film_J {a0 a1 : Int32} {I : SI} {J : SJ} : JW J (FJ_X0_film a0 a1 I J) := by
  unfold FJ_X0_film F_X0_film_w14
  refine itW_P (f := B_X0_film_w14 a0 a1 I J) (fun (s : Int32 × SI × SJ) => JW J s.2.2) (fun (r : Int32 × SI × SJ) => JW J r.2.2) (fun s s' h e => ?_) (fun s r h e => ?_) 800 _ (JW.rf J) _ (JW.rf J)
  · unfold B_X0_film_w14 at e
    repeat' split at e
    all_goals cases e
    all_goals first
      | exact h
      | exact h.tr notice_J
  · unfold B_X0_film_w14 at e
    repeat' split at e
    all_goals cases e
    all_goals exact h
theorem give_J {a0 : Int32} {I : SI} {J : SJ} : JW J (FJ_X0_give a0 I J) := by
  unfold FJ_X0_give S3_X0_give
  repeat' split
  all_goals first
    | exact JW.rf J
    | exact yield_J
theorem oneAgain_J {I : SI} {J : SJ} : JW J (FJ_X0_filmOneAgain I J) := by
  have L := itE_inv (f := B_X0_filmOneAgain_l2_2 I J) (s0 := J) (fun s => JW J s) (fun r => JW J r.2) (JW.rf J) (fun i s s' h e => by
    unfold B_X0_filmOneAgain_l2_2 at e
    repeat' split at e
    all_goals cases e
    all_goals first
      | exact h
      | exact h.tr againw_J) (fun i s r h e => by
    unfold B_X0_filmOneAgain_l2_2 at e
    repeat' split at e
    all_goals cases e
    all_goals exact h.tr againw_J)
  unfold FJ_X0_filmOneAgain
  cases q : F_X0_filmOneAgain_l2_2 I J J with
  | inl s => exact L.1 _ _ q
  | inr r => exact L.2 _ _ q
theorem JDY.rf (J : SJ) : JDY J J := fun _ _ _ => rfl
theorem JDY.tr {J J1 J2 : SJ} (h : JDY J J1) (h2 : JDY J1 J2) : JDY J J2 := fun a b z => (h2 a b z).trans (h a b z)
theorem JW.d {J J1 : SJ} (h : JW J J1) : JDY J J1 := fun a c z => h a c (by omega)
theorem JDY.u {J J1 : SJ} {v : Int64} (h : JDY J J1) : JDY J (u2 J1 105 6 v) := fun a c z => (u2_n _ _ (by omega)).trans (h a c z)
theorem away_J {I : SI} {J : SJ} : JDY J (FJ_X0_isAway I J) := by
  unfold FJ_X0_isAway
  repeat' split
  all_goals first
    | exact JDY.rf J
    | exact (JDY.rf J).u
theorem day_J {a0 : Int32} {I : SI} {J : SJ} {i2 : Nat} {s2 : SI × SJ} : JDY s2.2 (B_X0_pass_l2 a0 I J i2 s2).2 := by
  have l1 : JDY s2.2 (S3_X0_pass a0 I J i2 s2) := by
    unfold S3_X0_pass F_X0_pass_w60
    refine itW_P (f := B_X0_pass_w60 a0 I J i2 s2) (fun (s : Int32 × SI × SJ) => JDY s2.2 s.2.2) (fun (r : Int32 × SI × SJ) => JDY s2.2 r.2.2) (fun s s' h e => ?_) (fun s r h e => ?_) 800 _ away_J _ away_J
    · unfold B_X0_pass_w60 at e
      repeat' split at e
      all_goals cases e
      all_goals first
        | exact h
        | exact h.tr film_J.d
    · unfold B_X0_pass_w60 at e
      repeat' split at e
      all_goals cases e
      all_goals exact h
  have l2 : JDY s2.2 (S5_X0_pass a0 I J i2 s2) := by
    unfold S5_X0_pass F_X0_pass_w128
    refine itW_P (f := B_X0_pass_w128 a0 I J i2 s2) (fun (s : Int32 × SI × SJ) => JDY s2.2 s.2.2) (fun (r : Int32 × SI × SJ) => JDY s2.2 r.2.2) (fun s s' h e => ?_) (fun s r h e => ?_) 800 (0, S2_X0_pass a0 I J i2 s2, S3_X0_pass a0 I J i2 s2) l1 (0, S2_X0_pass a0 I J i2 s2, S3_X0_pass a0 I J i2 s2) l1
    · unfold B_X0_pass_w128 at e
      repeat' split at e
      all_goals cases e
      all_goals exact h.tr give_J.d
    · unfold B_X0_pass_w128 at e
      repeat' split at e
      all_goals cases e
      all_goals exact h
  have e : (B_X0_pass_l2 a0 I J i2 s2).2 = (T_X0_pass_j170 a0 I J i2 s2).2 := rfl
  rw [e]
  unfold T_X0_pass_j170 S8_X0_pass
  split
  · exact l2
  · exact l2.tr oneAgain_J.d
theorem pass_J {a0 : Int32} {I : SI} {J : SJ} : JDY J (FJ_X0_pass a0 I J) := by
  unfold FJ_X0_pass F_X0_pass_l2
  exact itN_inv (P := fun (s : SI × SJ) => JDY J s.2) (JDY.rf J) (fun i s _ h => h.tr day_J)
theorem begin_J {a0 : Nat} {I : SI} {J : SJ} : JDY J (FJ_X0_begin a0 I J) := by
  unfold FJ_X0_begin FJ_X5_copy
  exact (JDY.rf J).u
theorem openj_J {I : SI} {J : SJ} : JDY J (FJ_X5_open 105 2 I J) := by
  unfold FJ_X5_open
  exact (JDY.rf J).u
theorem law_J {a0 a1 a2 : Int32} {I : SI} {J : SJ} : JDY J (FJ_X11_law a0 a1 a2 I J) := by
  have b := begin_J (a0 := 86) (I := I) (J := J)
  have n : JDY J (FJ_X11_noticeNow a1 a2 (FI_X0_begin 86 I J) (FJ_X0_begin 86 I J)) := by
    unfold FJ_X11_noticeNow
    repeat' split
    all_goals first
      | exact b
      | exact b.tr notice_J.d
  unfold FJ_X11_law S1_X11_law
  repeat' split
  all_goals first
    | exact n
    | exact b
    | exact b.tr yield_J.d
    | exact b.tr againw_J.d
theorem ahead_J {a0 a1 : Int32} {I : SI} {J : SJ} : JDY J (FJ_X11_ahead a0 a1 I J) := by
  unfold FJ_X11_ahead
  repeat' split
  all_goals first
    | exact JDY.rf J
    | exact begin_J.tr pass_J
theorem agrees_J {I : SI} {J : SJ} : JDY J (FJ_X11_agrees I J) := by
  have L := itE_inv (f := B_X11_agrees_l13_4 I J) (s0 := (FI_X0_begin 86 I J, FJ_X0_begin 86 I J)) (fun s => JDY J s.2) (fun r => JDY J r.2.2) (begin_J (a0 := 86) (I := I) (J := J)) (fun i s s' h e => by
    unfold B_X11_agrees_l13_4 at e
    repeat' split at e
    all_goals cases e
    all_goals exact h.tr pass_J) (fun i s r h e => by
    unfold B_X11_agrees_l13_4 at e
    repeat' split at e
    all_goals cases e
    all_goals exact h)
  unfold FJ_X11_agrees
  cases q : F_X11_agrees_l13_4 I J (FI_X0_begin 86 I J, FJ_X0_begin 86 I J) with
  | inl s => exact L.1 _ _ q
  | inr r => exact L.2 _ _ q
theorem order_J {a0 : Int32} {I : SI} {J : SJ} : JDY J (FJ_X11_order a0 I J) := by
  have L : ∀ X : SI, JDY J (F_X11_order_l34 a0 I J (X, J)).2 := fun X => by
    unfold F_X11_order_l34
    exact itN_inv (P := fun (s : SI × SJ) => JDY J s.2) (JDY.rf J) (fun i s _ h => by
      unfold B_X11_order_l34 S4_X11_order
      split
      · exact h
      · exact (h.tr begin_J).tr pass_J)
  unfold FJ_X11_order
  repeat' split
  all_goals first
    | exact JDY.rf J
    | exact L _
theorem bribe_J {a0 : Int32} {I : SI} {J : SJ} : JDY J (FJ_X11_bribe a0 I J) := by
  have L := itE_inv (f := B_X11_bribe_l49_4 a0 I J) (s0 := (I, J)) (fun s => JDY J s.2) (fun r => JDY J r.2.2) (JDY.rf J) (fun i s s' h e => by
    unfold B_X11_bribe_l49_4 at e
    repeat' split at e
    all_goals cases e
    all_goals (unfold S2_X11_bribe; exact (h.tr begin_J).tr pass_J)) (fun i s r h e => by
    unfold B_X11_bribe_l49_4 at e
    repeat' split at e
    all_goals cases e
    all_goals (unfold S2_X11_bribe; exact (h.tr begin_J).tr pass_J))
  unfold FJ_X11_bribe
  split
  · exact JDY.rf J
  · cases q : F_X11_bribe_l49_4 a0 I J (I, J) with
    | inl s => exact L.1 _ _ q
    | inr r => exact L.2 _ _ q
theorem without_J {a0 : Int32} {I : SI} {J : SJ} : JDY J (FJ_X11_without a0 I J) := by
  unfold FJ_X11_without
  repeat' split
  all_goals first
    | exact JDY.rf J
    | exact begin_J.tr pass_J
theorem struck_J {a0 : Int32} {I : SI} {J : SJ} : JDY J (FJ_X11_struckHow a0 I J) := by
  have L : JDY J (F_X11_struckHow_l39 a0 I J (0, I, J)).2.2 := by
    unfold F_X11_struckHow_l39
    refine itN_inv (P := fun (s : Int32 × SI × SJ) => JDY J s.2.2) (JDY.rf J) (fun i s _ h => ?_)
    have h2 : JDY J (S2_X11_struckHow a0 I J i s) := by
      unfold S2_X11_struckHow
      exact (h.tr begin_J).tr openj_J
    have h4 : JDY J (S4_X11_struckHow a0 I J i s) := by
      unfold S4_X11_struckHow F_X11_struckHow_w93
      refine itW_P (f := B_X11_struckHow_w93 a0 I J i s) (fun (t : Int32 × Int32 × SI × SJ) => JDY J t.2.2.2) (fun (r : Int32 × Int32 × SI × SJ) => JDY J r.2.2.2) (fun t t' h e => ?_) (fun t r h e => ?_) 800 _ h2 _ h2
      · unfold B_X11_struckHow_w93 at e
        repeat' split at e
        all_goals cases e
        all_goals exact h.tr pass_J
      · unfold B_X11_struckHow_w93 at e
        repeat' split at e
        all_goals cases e
        all_goals exact h
    unfold B_X11_struckHow_l39
    split
    · exact h4
    · exact h4
  unfold FJ_X11_struckHow
  split
  · exact JDY.rf J
  · exact L
theorem chance_J {a0 a1 a2 : Int32} {I : SI} {J : SJ} : JDY J (FJ_X11_chance a0 a1 a2 I J) := by
  have L : JDY J (F_X11_chance_l37 a0 a1 a2 I J (a0.toInt64, 0, I, J)).2.2.2 := by
    unfold F_X11_chance_l37
    refine itN_inv (P := fun (s : Int64 × Int32 × SI × SJ) => JDY J s.2.2.2) (JDY.rf J) (fun i s _ h => ?_)
    have h2 : JDY J (S2_X11_chance a0 a1 a2 I J i s) := by
      unfold S2_X11_chance
      exact ((h.tr begin_J).u).tr pass_J
    unfold B_X11_chance_l37
    split
    · exact h2
    · exact h2
  unfold FJ_X11_chance
  repeat' split
  all_goals first
    | exact JDY.rf J
    | exact L
theorem tried_J {a0 a1 a2 : Int32} {I : SI} {J : SJ} : JDY J (FJ_X11_tried a0 a1 a2 I J) := by
  unfold FJ_X11_tried S2_X11_tried
  repeat' split
  all_goals first
    | exact JDY.rf J
    | exact begin_J.tr pass_J
