theorem oneAgain_J {I : SI} {J : SJ} : JW J (FJ_X0_filmOneAgain I J) := by
  have L := itE_inv (f := B_X0_filmOneAgain_l2_2 I J) (s0 := J) (fun s => JW J s) (fun r => JW J r.2) (JW.rf J) (fun i s s' h e => by
    unfold B_X0_filmOneAgain_l2_2 at e
    repeat' split at e
    all_goals cases e
    all_goals first
      | exact h
      | exact h.tr againw_J) (fun i s r h e => by
    unfold B_X0_filmOneAgain_l2_2 at e
    repeat' split at e
    all_goals cases e
    all_goals exact h.tr againw_J)
  unfold FJ_X0_filmOneAgain
  cases q : F_X0_filmOneAgain_l2_2 I J J with
  | inl s => exact L.1 _ _ q
  | inr r => exact L.2 _ _ q
theorem JDY.rf (J : SJ) : JDY J J := fun _ _ _ => rfl
theorem JDY.tr {J J1 J2 : SJ} (h : JDY J J1) (h2 : JDY J1 J2) : JDY J J2 := fun a b z => (h2 a b z).trans (h a b z)
theorem JW.d {J J1 : SJ} (h : JW J J1) : JDY J J1 := fun a c z => h a c (by omega)
theorem JDY.u {J J1 : SJ} {v : Int64} (h : JDY J J1) : JDY J (u2 J1 105 6 v) := fun a c z => (u2_n _ _ (by omega)).trans (h a c z)
