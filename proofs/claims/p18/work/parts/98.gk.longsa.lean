/-! the class: which longs its days change -/
theorem JF.rf (k : Nat) (J : SJ) : JF k J J := fun _ _ _ => rfl
theorem worth_J {k a0 la0 : Nat} {I : SI} {J : SJ} : JF k J (FJ_X1_worth k a0 la0 I J) := by
  have L := itE_inv (f := B_X1_worth_l4_2 k a0 la0 I J) (s0 := ((0 : Int32), J)) (fun s => JF k J s.2) (fun r => JF k J r.2) (JF.rf k J) (fun i s s' h e => by
    unfold B_X1_worth_l4_2 at e
    repeat' split at e
    all_goals cases e
    all_goals first
      | exact h
      | (unfold S1_X1_worth; exact fun a b z => (u2_n _ _ (fun y => z y.1)).trans (h a b z))) (fun i s r h e => by
    unfold B_X1_worth_l4_2 at e
    repeat' split at e
    all_goals cases e
    all_goals exact h)
  unfold FJ_X1_worth
  cases q : F_X1_worth_l4_2 k a0 la0 I J (0, J) with
  | inl s =>
    show JF k J (if I k 0 = 0 then s.2 else s.2)
    rw [ite_self]
    exact L.1 _ _ q
  | inr r => exact L.2 _ _ q
theorem wof_J {k0 : Nat} {a1 a2 a3 a4 a5 : Int32} {I : SI} {J : SJ} (h3 : k0 < 3) : JW J (FJ_X0_worthOf (29 + 4 * k0) a1 a2 a3 a4 a5 I J) := by
  unfold FJ_X0_worthOf S3_X0_worthOf
  split
  · exact JW.rf J
  · intro a b z
    have eC : u2 (S2_X0_worthOf (29 + 4 * k0) a1 a2 a3 a4 a5 I J) 115 6 ((I 105 5).toInt64) = ch7 115 J a1.toInt64 a2.toInt64 a3.toInt64 a4.toInt64 a5.toInt64 (I 105 0).toInt64 (I 105 5).toInt64 := rfl
    rw [eC]
    exact (worth_J a b (by omega)).trans (ch7_n _ _ _ _ _ _ _ _ _ a b (by omega))
