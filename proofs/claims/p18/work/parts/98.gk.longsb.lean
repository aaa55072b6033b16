theorem notice_J {a0 a1 : Int32} {I : SI} {J : SJ} : JW J (FJ_X0_noticeWorth a0 a1 I J) := wof_J (k0 := 0) (by omega)
theorem yield_J {a0 a1 : Int32} {I : SI} {J : SJ} : JW J (FJ_X0_yieldWorth a0 a1 I J) := wof_J (k0 := 1) (by omega)
theorem againw_J {a0 : Int32} {I : SI} {J : SJ} : JW J (FJ_X0_againWorth a0 I J) := wof_J (k0 := 2) (by omega)
theorem film_J {a0 a1 : Int32} {I : SI} {J : SJ} : JW J (FJ_X0_film a0 a1 I J) := by
  unfold FJ_X0_film F_X0_film_w14
  refine itW_P (f := B_X0_film_w14 a0 a1 I J) (fun (s : Int32 × SI × SJ) => JW J s.2.2) (fun (r : Int32 × SI × SJ) => JW J r.2.2) (fun s s' h e => ?_) (fun s r h e => ?_) 800 _ (JW.rf J) _ (JW.rf J)
  · unfold B_X0_film_w14 at e
    repeat' split at e
    all_goals cases e
    all_goals first
      | exact h
      | exact h.tr notice_J
  · unfold B_X0_film_w14 at e
    repeat' split at e
    all_goals cases e
    all_goals exact h
theorem give_J {a0 : Int32} {I : SI} {J : SJ} : JW J (FJ_X0_give a0 I J) := by
  unfold FJ_X0_give S3_X0_give
  repeat' split
  all_goals first
    | exact JW.rf J
    | exact yield_J
