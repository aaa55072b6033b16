theorem m_keepNow {tp : SI} {I : SI} {J : SJ} (h : (MW tp) I) : H_X12_keepNow I J ∧ (MW tp) (FI_X12_keepNow I J) := by
  have t := keepT I J h
  refine ⟨?_, ?_⟩
  · unfold H_X12_keepNow
    refine ⟨copies_H (r3p t.2) r0 _ _, fun _ i s hi _ => ?_⟩
    rw [show (3 : Int32) = nI 3 from rfl, nI_add, show nI (3 + (1 + i)) - 1 = nI (3 + (1 + i) - 1) from pk_sub (b := 1) (by omega)]
    exact copies_H (inR_nI (by omega) (by decide)) (inR_nI (by omega) (by decide)) _ _
  · have f : FrM (T_X12_keepNow_j45 I J) (S1_X12_keepNow I J) := by
      unfold S1_X12_keepNow
      exact copies_F _ _ _ _
    unfold FI_X12_keepNow
    refine (t.1.fr f).n ?_
    rw [f 130 54 (by omega) (by omega)]
    exact (cn_s (N := 20) (by decide) t.2).1
theorem m_plums {tp : SI} {a0 a1 : Int32} {I : SI} {J : SJ} (h : (MW tp) I) : H_X12_plums a0 a1 I J ∧ (MW tp) (FI_X12_plums a0 a1 I J) := by
  have h' := h.u0
  have kn := m_keepNow (J := J) h'
  refine ⟨?_, ?_⟩
  · unfold H_X12_plums
    exact ⟨fun h0 _ _ => (isParty_in h'.1 h0).le (by decide), fun _ _ _ _ => kn.1, fun h0 _ _ _ => (isParty_in h'.1 h0).le (by decide)⟩
  · unfold FI_X12_plums
    repeat' split
    all_goals first
      | exact h'
      | exact (by unfold S1_X12_plums; exact kn.2.u rfl)
theorem m_move {tp : SI} {a0 a1 : Int32} {I : SI} {J : SJ} (h : (MW tp) I) : H_X12_move a0 a1 I J ∧ (MW tp) (FI_X12_move a0 a1 I J) := by
  have h' := h.u0
  have kn := m_keepNow (J := J) h'
  refine ⟨?_, ?_⟩
  · unfold H_X12_move
    exact ⟨fun h0 _ _ => isDone_H r0 (isShot_in h'.1 h0), fun h0 _ _ _ => (isShot_in h'.1 h0).le (by decide), fun _ _ _ _ _ => kn.1, fun h0 _ _ _ _ => (isShot_in h'.1 h0).le (by decide)⟩
  · unfold FI_X12_move
    repeat' split
    all_goals first
      | exact h'
      | exact kn.2.u rfl
theorem m_tell {tp : SI} {a0 a1 : Int32} {I : SI} {J : SJ} (h : (MW tp) I) : H_X12_tell a0 a1 I J ∧ (MW tp) (FI_X12_tell a0 a1 I J) := by
  have h' := h.u0
  have kn := m_keepNow (J := J) h'
  refine ⟨?_, ?_⟩
  · unfold H_X12_tell
    exact ⟨fun h0 _ => (isMark_in h'.1 h0).le (by decide), fun h0 _ _ => (isMark_in h'.1 h0).le (by decide), fun _ _ _ _ => kn.1, fun h0 _ _ _ => (isMark_in h'.1 h0).le (by decide)⟩
  · unfold FI_X12_tell
    repeat' split
    all_goals first
      | exact h'
      | exact kn.2.u rfl
theorem m_forget {tp : SI} {a0 : Int32} {I : SI} {J : SJ} (h : (MW tp) I) : H_X12_forget a0 I J ∧ (MW tp) (FI_X12_forget a0 I J) := by
  have h' := h.u0
  have kn := m_keepNow (J := J) h'
  refine ⟨?_, ?_⟩
  · unfold H_X12_forget
    exact ⟨fun h0 => (isMark_in h'.1 h0).le (by decide), fun _ _ => kn.1, fun h0 _ => (isMark_in h'.1 h0).le (by decide)⟩
  · unfold FI_X12_forget
    repeat' split
    all_goals first
      | exact h'
      | exact kn.2.u rfl
theorem m_go {tp : SI} {a0 : Int32} {I : SI} {J : SJ} (h : (MW tp) I) : H_X12_go a0 I J ∧ (MW tp) (FI_X12_go a0 I J) := by
  have h' := h.u0
  have hT : (MW tp) (T_X12_go_j40 a0 I J) := by
    unfold T_X12_go_j40
    split
    · exact h'
    · exact h'.n ⟨rfl, by decide⟩
  refine ⟨?_, ?_⟩
  · unfold H_X12_go
    exact fun _ _ _ _ _ _ h4 => daysH_H (g := B_X12_go_l42 a0 I J) (fun _ _ => rfl) hT.1 r0 h4
  · unfold FI_X12_go
    repeat' split
    all_goals first
      | exact h'
      | exact hT.fr (days_H (g := B_X12_go_l42 a0 I J) (J := J) (fun _ _ => rfl) hT.1 r0 _)
theorem m_ahead {tp : SI} {a0 a1 : Int32} {I : SI} {J : SJ} (h : (MW tp) I) : H_X12_ahead a0 a1 I J ∧ (MW tp) (FI_X12_ahead a0 a1 I J) := by
  have h' := h.u0
  have rn := runs_H (n := a0) (J := J) h'.1
  refine ⟨?_, ?_⟩
  · unfold H_X12_ahead
    exact ⟨fun _ _ _ _ => rn.1, fun _ _ _ _ _ => sumH (p := 1) (by decide), fun _ _ _ _ _ => sumH (p := 0) (by decide), fun _ _ _ _ _ _ _ => sumH (p := 1) (by decide), fun _ _ _ _ _ _ _ => sumH (p := 0) (by decide), fun _ _ _ _ _ _ _ _ => clashesAll_H (h'.1.fr rn.2) r1⟩
  · unfold FI_X12_ahead
    repeat' split
    all_goals first
      | exact h'
      | exact h'.fr rn.2
theorem breaksOf_H {a0 a1 : Int32} {I : SI} {J : SJ} (hS : SM I) (hf : inR a0 23) (hs : inR a1 8) : H_X12_breaksOf a0 a1 I J := by
  have hx : ¬ I 132 1 ≤ a1 + 1 → inR (a1 + 1) 8 := fun q => cn_lt (N := 8) (by decide) (cn_s (N := 8) (by decide) hs).1 hS.2.1 q
  unfold H_X12_breaksOf
  exact ⟨fun _ => isDone_H hf hs, fun h0 _ => isDone_H hf (hx h0), fun _ _ _ _ _ h3 _ => wayIn_H hf hs (hS.m h3), fun h0 _ _ _ _ h3 _ => wayIn_H hf (hx h0) (hS.m h3)⟩
theorem breaksAll_H {a0 : Int32} {I : SI} {J : SJ} (hS : SM I) (hf : inR a0 23) : H_X12_breaksAll a0 I J := by
  unfold H_X12_breaksAll
  exact fun i _ hi _ => breaksOf_H hS hf (hS.s hi)
theorem m_breaks {tp : SI} {I : SI} {J : SJ} (h : (MW tp) I) : H_X12_breaks I J ∧ (MW tp) (FI_X12_breaks I J) := by
  have h' := h.u0
  refine ⟨?_, ?_⟩
  · unfold H_X12_breaks
    exact breaksAll_H h'.1 r0
  · unfold FI_X12_breaks
    exact h'
