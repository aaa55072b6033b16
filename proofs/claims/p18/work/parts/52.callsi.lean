theorem run_0 {i : Nat} {I : SI} {J : SJ} {s : Int32 × Int32} (hs : s = itN (B_X12_run_l11 I J) i (0, 0)) (h : ¬ s.2 ≤ 0) : 0 < i := by
  cases i with
  | zero => rw [itN_0] at hs; rw [hs] at h; exact absurd (show (0 : Int32) ≤ 0 by decide) h
  | succ i => exact Nat.succ_pos _
theorem m_run {tp : SI} {I : SI} {J : SJ} (h : (MW tp) I) : H_X12_run I J ∧ (MW tp) (FI_X12_run I J) := by
  have h' := h.u0
  refine ⟨?_, ?_⟩
  · unfold H_X12_run
    exact ⟨fun _ _ h0 _ => isDone_H r0 (h'.1.s h0), fun i11 _ _ h1 h2 => (by have q := run_0 h1 h2; rw [show nI i11 - 1 = nI (i11 - 1) from pk_sub (b := 1) q]; exact breaksOf_H h'.1 r0 (h'.1.s (by omega)))⟩
  · unfold FI_X12_run
    exact h'
theorem m_believed {tp : SI} {I : SI} {J : SJ} (h : (MW tp) I) : H_X12_believed I J ∧ (MW tp) (FI_X12_believed I J) := by
  have h' := h.u0
  refine ⟨?_, ?_⟩
  · unfold H_X12_believed
    exact ⟨fun _ _ h0 _ => (in_it (N := 4) (by decide) h'.1.2.2.1 h0).le (by decide), fun _ _ h0 _ => (h'.1.pm (in_it (N := 4) (by decide) h'.1.2.2.1 h0)).le (by decide)⟩
  · unfold FI_X12_believed
    exact h'
theorem m_noted {tp : SI} {I : SI} {J : SJ} (h : (MW tp) I) : H_X12_noted I J ∧ (MW tp) (FI_X12_noted I J) := by
  have h' := h.u0
  refine ⟨?_, ?_⟩
  · unfold H_X12_noted
    exact fun _ _ _ _ _ _ h2 _ _ => (in_it (N := 4) (by decide) h'.1.2.2.2.1 h2).le (by decide)
  · unfold FI_X12_noted
    exact h'
theorem areTwo_in {a b : Int32} {I : SI} {J : SJ} (hS : SM I) (h : ¬ F_X12_areTwo a b I J = 0) : inR a 4 ∧ inR b 4 := by
  unfold F_X12_areTwo at h
  by_cases c1 : F_X12_isParty a I J = 0
  · rw [if_pos c1] at h; exact absurd rfl h
  · rw [if_neg c1] at h
    by_cases c2 : F_X12_isParty b I J = 0
    · rw [if_pos c2] at h; exact absurd rfl h
    · exact ⟨isParty_in hS c1, isParty_in hS c2⟩
theorem isRest_H {a0 a1 a2 a3 : Int32} {I : SI} {J : SJ} (h0 : inR a0 4) (h1 : inR a1 4) : H_X12_isRest a0 a1 a2 a3 I J := by
  unfold H_X12_isRest
  exact ⟨fun _ _ _ _ => h0.le (by decide), fun _ _ _ _ _ => h1.le (by decide), fun _ _ _ _ _ _ => h1.le (by decide)⟩
theorem min4 {x e : Int32} (h : ¬ minI 4 x < e) (he : inR e (5 + 1)) : inR e 5 := by
  refine cn_lt (N := 5) (by decide) he (z := 5) ⟨by decide, by decide⟩ (fun q => h ?_)
  have h4 : minI 4 x ≤ 4 := by
    unfold minI
    by_cases c : x < 4
    · rw [if_pos c]; exact Int32.le_of_lt c
    · rw [if_neg c]; exact Int32.le_refl _
  exact Int32.lt_of_le_of_lt h4 (Int32.lt_of_lt_of_le (by decide) q)
theorem restOf_H {a0 a1 a2 : Int32} {I : SI} {J : SJ} (h0 : inR a0 4) (h1 : inR a1 4) : H_X12_restOf a0 a1 a2 I J := by
  have K : ∀ s6 : Int32 × Int32, (itW (B_X12_restOf_w24 a0 a1 a2 I J s6) 800 (s6.1, 0)).isSome = true := by
    intro s6
    refine (whl (f := B_X12_restOf_w24 a0 a1 a2 I J s6) (fun s => inR s.2 (5 + 1)) (fun _ => True) (fun s => 5 - s.2.toNatClampNeg) cn_0 (by show 5 - _ < 800; omega) (fun s s' hp hf => ?_) (fun _ _ _ _ => trivial)).1
    unfold B_X12_restOf_w24 at hf
    by_cases c : minI 4 (I 166 a1.toNatClampNeg) < s.2
    · rw [if_pos c] at hf; cases hf
    · rw [if_neg c] at hf
      have q := min4 c hp
      have k := cn_s (N := 5) (by decide) q
      have := q.2
      repeat' split at hf
      all_goals cases hf
      all_goals exact ⟨k.1, by show 5 - (s.2 + 1).toNatClampNeg < 5 - s.2.toNatClampNeg; omega⟩
  have L := whl (f := B_X12_restOf_w6 a0 a1 a2 I J) (s0 := (0, 0)) (fun s => inR s.2 (5 + 1)) (fun _ => True) (fun s => 5 - s.2.toNatClampNeg) cn_0 (by show 5 - _ < 800; omega) (fun s s' hp hf => by
    unfold B_X12_restOf_w6 at hf
    by_cases c : minI 4 (I 166 a0.toNatClampNeg) < s.2
    · rw [if_pos c] at hf; cases hf
    · rw [if_neg c] at hf
      have q := min4 c hp
      have k := cn_s (N := 5) (by decide) q
      have := q.2
      repeat' split at hf
      all_goals cases hf
      all_goals exact ⟨k.1, by show 5 - (s.2 + 1).toNatClampNeg < 5 - s.2.toNatClampNeg; omega⟩) (fun _ _ _ _ => trivial)
  unfold H_X12_restOf
  exact ⟨L.1, fun _ _ _ => h0.le (by decide), fun _ _ _ _ => K _, fun _ _ _ _ _ _ _ => h1.le (by decide), fun _ _ _ _ _ _ _ _ => isRest_H h0 h1⟩
theorem m_rests {tp : SI} {a0 a1 : Int32} {I : SI} {J : SJ} (h : (MW tp) I) : H_X12_rests a0 a1 I J ∧ (MW tp) (FI_X12_rests a0 a1 I J) := by
  have h' := h.u0
  refine ⟨?_, ?_⟩
  · unfold H_X12_rests
    exact fun h0 => restOf_H (areTwo_in h'.1 h0).1 (areTwo_in h'.1 h0).2
  · unfold FI_X12_rests
    repeat' split
    all_goals exact h'
