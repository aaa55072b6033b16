theorem bribe_J {a0 : Int32} {I : SI} {J : SJ} : JDY J (FJ_X11_bribe a0 I J) := by
  have L := itE_inv (f := B_X11_bribe_l49_4 a0 I J) (s0 := (I, J)) (fun s => JDY J s.2) (fun r => JDY J r.2.2) (JDY.rf J) (fun i s s' h e => by
    unfold B_X11_bribe_l49_4 at e
    repeat' split at e
    all_goals cases e
    all_goals (unfold S2_X11_bribe; exact (h.tr begin_J).tr pass_J)) (fun i s r h e => by
    unfold B_X11_bribe_l49_4 at e
    repeat' split at e
    all_goals cases e
    all_goals (unfold S2_X11_bribe; exact (h.tr begin_J).tr pass_J))
  unfold FJ_X11_bribe
  split
  · exact JDY.rf J
  · cases q : F_X11_bribe_l49_4 a0 I J (I, J) with
    | inl s => exact L.1 _ _ q
    | inr r => exact L.2 _ _ q
theorem without_J {a0 : Int32} {I : SI} {J : SJ} : JDY J (FJ_X11_without a0 I J) := by
  unfold FJ_X11_without
  repeat' split
  all_goals first
    | exact JDY.rf J
    | exact begin_J.tr pass_J
theorem struck_J {a0 : Int32} {I : SI} {J : SJ} : JDY J (FJ_X11_struckHow a0 I J) := by
  have L : JDY J (F_X11_struckHow_l39 a0 I J (0, I, J)).2.2 := by
    unfold F_X11_struckHow_l39
    refine itN_inv (P := fun (s : Int32 × SI × SJ) => JDY J s.2.2) (JDY.rf J) (fun i s _ h => ?_)
    have h2 : JDY J (S2_X11_struckHow a0 I J i s) := by
      unfold S2_X11_struckHow
      exact (h.tr begin_J).tr openj_J
    have h4 : JDY J (S4_X11_struckHow a0 I J i s) := by
      unfold S4_X11_struckHow F_X11_struckHow_w93
      refine itW_P (f := B_X11_struckHow_w93 a0 I J i s) (fun (t : Int32 × Int32 × SI × SJ) => JDY J t.2.2.2) (fun (r : Int32 × Int32 × SI × SJ) => JDY J r.2.2.2) (fun t t' h e => ?_) (fun t r h e => ?_) 800 _ h2 _ h2
      · unfold B_X11_struckHow_w93 at e
        repeat' split at e
        all_goals cases e
        all_goals exact h.tr pass_J
      · unfold B_X11_struckHow_w93 at e
        repeat' split at e
        all_goals cases e
        all_goals exact h
    unfold B_X11_struckHow_l39
    split
    · exact h4
    · exact h4
  unfold FJ_X11_struckHow
  split
  · exact JDY.rf J
  · exact L
theorem chance_J {a0 a1 a2 : Int32} {I : SI} {J : SJ} : JDY J (FJ_X11_chance a0 a1 a2 I J) := by
  have L : JDY J (F_X11_chance_l37 a0 a1 a2 I J (a0.toInt64, 0, I, J)).2.2.2 := by
    unfold F_X11_chance_l37
    refine itN_inv (P := fun (s : Int64 × Int32 × SI × SJ) => JDY J s.2.2.2) (JDY.rf J) (fun i s _ h => ?_)
    have h2 : JDY J (S2_X11_chance a0 a1 a2 I J i s) := by
      unfold S2_X11_chance
      exact ((h.tr begin_J).u).tr pass_J
    unfold B_X11_chance_l37
    split
    · exact h2
    · exact h2
  unfold FJ_X11_chance
  repeat' split
  all_goals first
    | exact JDY.rf J
    | exact L
theorem tried_J {a0 a1 a2 : Int32} {I : SI} {J : SJ} : JDY J (FJ_X11_tried a0 a1 a2 I J) := by
  unfold FJ_X11_tried S2_X11_tried
  repeat' split
  all_goals first
    | exact JDY.rf J
    | exact begin_J.tr pass_J

