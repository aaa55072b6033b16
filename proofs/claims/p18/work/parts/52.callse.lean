theorem r0 : inR (0 : Int32) 23 := ⟨rfl, by decide⟩
theorem r1 : inR (1 : Int32) 23 := ⟨rfl, by decide⟩
theorem r2 : inR (2 : Int32) 23 := ⟨rfl, by decide⟩
theorem fresh_ix {a : Int32} {k L : Nat} (h : inR a k) (hk : k ≤ L) : inR a L := h.le hk
theorem m_fault {tp : SI} {a0 : Int32} {I : SI} {J : SJ} (h : (MW tp) I) : (MW tp) (FI_X12_fault a0 I J) := by
  have h' := h.u0
  unfold FI_X12_fault
  repeat' split
  all_goals exact h'
theorem found_H {r la N : Nat} {c x : Int32} {I : SI} {J : SJ} (hc : inR c (N + 1)) (hl : N ≤ la ∧ la < 800) : H_X12_found r la 0 c x I J := by
  unfold H_X12_found
  intro i s hi _
  rw [Int32.zero_add]
  have := hc.2
  exact inR_nI (by omega) (by omega)
theorem m_named {tp : SI} {a0 a1 : Int32} {I : SI} {J : SJ} (h : (MW tp) I) : H_X12_named a0 a1 I J ∧ (MW tp) (FI_X12_named a0 a1 I J) := by
  have h' := h.u0
  refine ⟨?_, ?_⟩
  · unfold H_X12_named
    exact ⟨fun _ => found_H h'.1.1 (by decide), fun _ _ => found_H h'.1.2.1 (by decide), fun _ _ _ => found_H h'.1.2.2.1 (by decide), fun _ _ _ _ => found_H h'.1.2.2.2.1 (by decide)⟩
  · unfold FI_X12_named
    repeat' split
    all_goals exact h'
theorem mark_in {a0 a1 : Int32} {I : SI} {J : SJ} (hS : SM I) (h : u2 I 130 0 (T_X12_mark_j27 a0 a1 I J) 130 0 = 0) : inR a0 6 := by
  refine isMark_in (J := J) hS (fun q => ?_)
  rw [u2_s] at h
  unfold T_X12_mark_j27 at h
  rw [if_pos q] at h
  exact absurd h (by decide)
theorem m_mark {tp : SI} {a0 a1 : Int32} {I : SI} {J : SJ} (h : (MW tp) I) : H_X12_mark a0 a1 I J ∧ (MW tp) (FI_X12_mark a0 a1 I J) := by
  have h' := h.u0
  refine ⟨?_, ?_⟩
  · unfold H_X12_mark
    exact ⟨fun h0 _ => (mark_in h.1 h0).le (by decide), fun h0 _ _ => (mark_in h.1 h0).le (by decide), fun h0 _ _ _ => (mark_in h.1 h0).le (by decide), fun h0 _ _ _ _ => (mark_in h.1 h0).le (by decide), fun h0 _ _ _ _ => timesOf_H (h.u (v := T_X12_mark_j27 a0 a1 I J) (a := 130) (b := 0) rfl).1 r0 (mark_in h.1 h0)⟩
  · unfold FI_X12_mark
    repeat' split
    all_goals exact h.u rfl
