/-! both: the least call of the class moves only the days' cells of J -/
theorem choose_J : ∀ (k : Nat) (a0 a1 a2 : Int32) (I : SI) (J : SJ), JDY J (RG_choose k 0 a0 a1 a2 I J).2 := by
  intro k
  induction k with
  | zero => intro a0 a1 a2 I J; exact JDY.rf J
  | succ k ih =>
    intro a0 a1 a2 I J
    show JDY J (FJ_X2_choose (RG_choose k) a0 a1 a2 I J)
    have L : JDY J (F_X2_choose_w49 (RG_choose k) a0 a1 a2 I J (0, I, J)).2.2 := by
      unfold F_X2_choose_w49
      refine itW_P (f := B_X2_choose_w49 (RG_choose k) a0 a1 a2 I J) (fun (s : Int32 × SI × SJ) => JDY J s.2.2) (fun (r : Int32 × SI × SJ) => JDY J r.2.2) (fun s s' h e => ?_) (fun s r h e => ?_) 800 (0, I, J) (JDY.rf J) (0, I, J) (JDY.rf J)
      · unfold B_X2_choose_w49 at e
        repeat' split at e
        all_goals cases e
        all_goals first
          | exact h
          | (unfold S3_X2_choose; exact h.tr (ih _ _ _ _ _))
      · unfold B_X2_choose_w49 at e
        repeat' split at e
        all_goals cases e
        all_goals exact h
    unfold FJ_X2_choose
    repeat' split
    all_goals first
      | exact JDY.rf J
      | exact L
theorem least_J {a0 : Int32} {I : SI} {J : SJ} : JDY J (FJ_X11_least a0 I J) := by
  have L : JDY J (FJ_X2_work 86 I J) := by
    unfold FJ_X2_work S2_X2_work
    exact choose_J 8 _ _ _ _ _
  unfold FJ_X11_least
  repeat' split
  all_goals first
    | exact JDY.rf J
    | exact L
theorem see_132 {a0 a1 a2 : Int32} {I : SI} {J : SJ} : ∀ b, FI_X12_see a0 a1 a2 I J 132 b = I 132 b := fun b => by
  unfold FI_X12_see
  repeat' split
  all_goals first
    | exact u2_n _ _ (by omega)
    | (unfold S4_X12_see S3_X12_see S2_X12_see S1_X12_see
       rw [u2_n _ _ (by omega), u2_n _ _ (by omega), u2_n _ _ (by omega), u2_n _ _ (by omega), u2_n _ _ (by omega), u2_n _ _ (by omega)])
theorem out_132 {a0 : Int32} {I : SI} {J : SJ} : ∀ b, FI_X12_out a0 I J 132 b = I 132 b := fun b => by
  unfold FI_X12_out
  repeat' split
  all_goals first
    | exact u2_n _ _ (by omega)
    | (unfold S1_X12_out
       rw [u2_n _ _ (by omega), u2_n _ _ (by omega), u2_n _ _ (by omega)])
theorem known_132 {a0 : Int32} {I : SI} {J : SJ} : ∀ b, FI_X12_known a0 I J 132 b = I 132 b := fun b => by
  unfold FI_X12_known
  repeat' split
  all_goals first
    | exact u2_n _ _ (by omega)
    | rw [u2_n _ _ (by omega), u2_n _ _ (by omega)]
