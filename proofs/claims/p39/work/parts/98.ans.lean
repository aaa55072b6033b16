/-! both: answers on what is told -/
theorem fault_v {a0 : Int32} {A B : SI} {J J' : SJ} (g : GTL A B) : F_X11_fault a0 A J = F_X12_fault a0 B J' := by
  obtain ⟨_, _, _, f1, f2, _⟩ := g
  unfold F_X11_fault F_X12_fault
  rw [u2_n _ _ (show ¬ ((130 : Nat) = 130 ∧ (32 : Nat) = 0) by omega), u2_n _ _ (show ¬ ((130 : Nat) = 130 ∧ (33 : Nat) = 0) by omega), f1, f2]
theorem fd_v {k w mx r la : Nat} {x : Int32} {rs : List (Nat × Nat)} {A B : SI} {J J' : SJ} (t : TBT k w mx rs A B) (hm : mx ≤ 8) (m : (k + 1, r) ∈ rs) (hr : r ≠ 130) : F_X7_find k x A J = F_X12_found r la 0 (u2 B 130 0 0 132 w) x (u2 B 130 0 0) J' := by
  obtain ⟨c, hc, e1, e2, h, _⟩ := t
  have f := find_v (k := k) (r := r) (la := la) (f := 0) (c := c) (x := x) (A := A) (B := u2 B 130 0 0) (J := J) (J' := J') (by omega) (by omega) e1 (fun i hi => by
    rw [u2_n _ _ (by omega), Nat.zero_add]
    exact (h i hi _ m).1)
  rw [u2_n _ _ (by omega), e2]
  exact f.1
theorem named_v {a0 a1 : Int32} {A B : SI} {J J' : SJ} (g : GTL A B) : F_X11_named a0 a1 A J = F_X12_named a0 a1 B J' := by
  obtain ⟨_, _, _, _, _, t0, t1, t3, t4, _⟩ := g
  unfold F_X11_named F_X12_named
  rw [fd_v (la := 12) (J' := J') t0 (by omega) (show (3 + 1, 133) ∈ TSM by decide) (by omega), fd_v (la := 16) (J' := J') t1 (by omega) (show (8 + 1, 136) ∈ TSS by decide) (by omega), fd_v (la := 8) (J' := J') t3 (by omega) (show (13 + 1, 140) ∈ TSP by decide) (by omega), fd_v (la := 8) (J' := J') t4 (by omega) (show (18 + 1, 144) ∈ TSC by decide) (by omega)]
theorem holds_v {k c : Nat} {a0 : Int32} {A : SI} {J : SJ} (e : A k 1 = nI c) (hc : c ≤ 8) : (F_X7_holds k a0 A J = 0 ∧ (a0 < 0 ∨ nI c ≤ a0)) ∨ (F_X7_holds k a0 A J = 1 ∧ ¬ a0 < 0 ∧ ¬ nI c ≤ a0 ∧ ∃ i, i < c ∧ a0 = nI i) := by
  unfold F_X7_holds
  rw [e]
  by_cases q : a0 < 0
  · rw [if_pos q]; exact Or.inl ⟨rfl, Or.inl q⟩
  · rw [if_neg q]
    by_cases q2 : nI c ≤ a0
    · rw [if_pos q2]; exact Or.inl ⟨rfl, Or.inr q2⟩
    · rw [if_neg q2]
      exact Or.inr ⟨rfl, q, q2, (in_lt (N := c) (by omega) q (inR_nI (by omega) (by omega)) q2).n⟩
theorem clerk_v {a0 : Int32} {A B : SI} {J J' : SJ} (g : GTL A B) : F_X11_clerk a0 A J = F_X12_clerk a0 B J' := by
  obtain ⟨_, _, _, _, _, _, _, _, ⟨c, hc, e1, e2, h, _⟩, _⟩ := g
  unfold F_X11_clerk F_X12_clerk
  rw [u2_n _ _ (show ¬ ((132 : Nat) = 130 ∧ (4 : Nat) = 0) by omega), e2]
  rcases holds_v (J := J) (a0 := a0) e1 (by omega) with ⟨q, q1⟩ | ⟨q, q1, q2, i, hi, rfl⟩
  · rw [if_pos q]
    rcases q1 with q1 | q1
    · rw [if_pos q1]
    · rw [if_pos q1, ite_self]
  · rw [if_neg (by rw [q]; decide), if_neg q1, if_neg q2, u2_n _ _ (by omega), nI_clamp (by omega), atF_v (by omega) (by omega)]
    exact (h i hi _ (show (20, 145) ∈ TSC by decide)).1
