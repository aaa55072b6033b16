theorem away_J {I : SI} {J : SJ} : JDY J (FJ_X0_isAway I J) := by
  unfold FJ_X0_isAway
  repeat' split
  all_goals first
    | exact JDY.rf J
    | exact (JDY.rf J).u
theorem day_J {a0 : Int32} {I : SI} {J : SJ} {i2 : Nat} {s2 : SI × SJ} : JDY s2.2 (B_X0_pass_l2 a0 I J i2 s2).2 := by
  have l1 : JDY s2.2 (S3_X0_pass a0 I J i2 s2) := by
    unfold S3_X0_pass F_X0_pass_w60
    refine itW_P (f := B_X0_pass_w60 a0 I J i2 s2) (fun (s : Int32 × SI × SJ) => JDY s2.2 s.2.2) (fun (r : Int32 × SI × SJ) => JDY s2.2 r.2.2) (fun s s' h e => ?_) (fun s r h e => ?_) 800 _ away_J _ away_J
    · unfold B_X0_pass_w60 at e
      repeat' split at e
      all_goals cases e
      all_goals first
        | exact h
        | exact h.tr film_J.d
    · unfold B_X0_pass_w60 at e
      repeat' split at e
      all_goals cases e
      all_goals exact h
  have l2 : JDY s2.2 (S5_X0_pass a0 I J i2 s2) := by
    unfold S5_X0_pass F_X0_pass_w128
    refine itW_P (f := B_X0_pass_w128 a0 I J i2 s2) (fun (s : Int32 × SI × SJ) => JDY s2.2 s.2.2) (fun (r : Int32 × SI × SJ) => JDY s2.2 r.2.2) (fun s s' h e => ?_) (fun s r h e => ?_) 800 (0, S2_X0_pass a0 I J i2 s2, S3_X0_pass a0 I J i2 s2) l1 (0, S2_X0_pass a0 I J i2 s2, S3_X0_pass a0 I J i2 s2) l1
    · unfold B_X0_pass_w128 at e
      repeat' split at e
      all_goals cases e
      all_goals exact h.tr give_J.d
    · unfold B_X0_pass_w128 at e
      repeat' split at e
      all_goals cases e
      all_goals exact h
  have e : (B_X0_pass_l2 a0 I J i2 s2).2 = (T_X0_pass_j170 a0 I J i2 s2).2 := rfl
  rw [e]
  unfold T_X0_pass_j170 S8_X0_pass
  split
  · exact l2
  · exact l2.tr oneAgain_J.d
theorem pass_J {a0 : Int32} {I : SI} {J : SJ} : JDY J (FJ_X0_pass a0 I J) := by
  unfold FJ_X0_pass F_X0_pass_l2
  exact itN_inv (P := fun (s : SI × SJ) => JDY J s.2) (JDY.rf J) (fun i s _ h => h.tr day_J)
theorem begin_J {a0 : Nat} {I : SI} {J : SJ} : JDY J (FJ_X0_begin a0 I J) := by
  unfold FJ_X0_begin FJ_X5_copy
  exact (JDY.rf J).u
