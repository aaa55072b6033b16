theorem openj_J {I : SI} {J : SJ} : JDY J (FJ_X5_open 105 2 I J) := by
  unfold FJ_X5_open
  exact (JDY.rf J).u
theorem law_J {a0 a1 a2 : Int32} {I : SI} {J : SJ} : JDY J (FJ_X11_law a0 a1 a2 I J) := by
  have b := begin_J (a0 := 86) (I := I) (J := J)
  have n : JDY J (FJ_X11_noticeNow a1 a2 (FI_X0_begin 86 I J) (FJ_X0_begin 86 I J)) := by
    unfold FJ_X11_noticeNow
    repeat' split
    all_goals first
      | exact b
      | exact b.tr notice_J.d
  unfold FJ_X11_law S1_X11_law
  repeat' split
  all_goals first
    | exact n
    | exact b
    | exact b.tr yield_J.d
    | exact b.tr againw_J.d
theorem ahead_J {a0 a1 : Int32} {I : SI} {J : SJ} : JDY J (FJ_X11_ahead a0 a1 I J) := by
  unfold FJ_X11_ahead
  repeat' split
  all_goals first
    | exact JDY.rf J
    | exact begin_J.tr pass_J
theorem agrees_J {I : SI} {J : SJ} : JDY J (FJ_X11_agrees I J) := by
  have L := itE_inv (f := B_X11_agrees_l13_4 I J) (s0 := (FI_X0_begin 86 I J, FJ_X0_begin 86 I J)) (fun s => JDY J s.2) (fun r => JDY J r.2.2) (begin_J (a0 := 86) (I := I) (J := J)) (fun i s s' h e => by
    unfold B_X11_agrees_l13_4 at e
    repeat' split at e
    all_goals cases e
    all_goals exact h.tr pass_J) (fun i s r h e => by
    unfold B_X11_agrees_l13_4 at e
    repeat' split at e
    all_goals cases e
    all_goals exact h)
  unfold FJ_X11_agrees
  cases q : F_X11_agrees_l13_4 I J (FI_X0_begin 86 I J, FJ_X0_begin 86 I J) with
  | inl s => exact L.1 _ _ q
  | inr r => exact L.2 _ _ q
theorem order_J {a0 : Int32} {I : SI} {J : SJ} : JDY J (FJ_X11_order a0 I J) := by
  have L : ∀ X : SI, JDY J (F_X11_order_l34 a0 I J (X, J)).2 := fun X => by
    unfold F_X11_order_l34
    exact itN_inv (P := fun (s : SI × SJ) => JDY J s.2) (JDY.rf J) (fun i s _ h => by
      unfold B_X11_order_l34 S4_X11_order
      split
      · exact h
      · exact (h.tr begin_J).tr pass_J)
  unfold FJ_X11_order
  repeat' split
  all_goals first
    | exact JDY.rf J
    | exact L _
