theorem two_v : ∀ c, c < 5 → ((1 : Int32) <<< (nI c &&& 31)).toNatClampNeg ≤ 16 := by decide +kernel
theorem noted_v {A B : SI} {J J' : SJ} (g : GTL A B) : F_X11_noted A J = F_X12_noted B J' := by
  obtain ⟨_, _, _, _, _, ⟨c0, hc0, e01, e02, _⟩, _, _, ⟨c, hc, e1, e2, h, _⟩, _⟩ := g
  have nb : ∀ i, i < 16 → ∀ s21 : Int32, F_X11_notedBy (nI i) A J = F_X12_noted_l39 B J' i s21 0 := fun i hi s21 => by
    have N : ∀ n, n ≤ c → itN (B_X11_notedBy_l4 (nI i) A J) n 0 = itN (B_X12_noted_l39 B J' i s21) n 0 := by
      intro n
      induction n with
      | zero => intro _; rw [itN_0, itN_0]
      | succ n ih =>
        intro hn
        rw [itN_s, itN_s, ih (by omega)]
        unfold B_X11_notedBy_l4 B_X12_noted_l39
        rw [u2_n _ _ (by omega), nI_clamp (by omega), atF_v (by omega) (by omega), (h n (by omega) _ (show (20, 145) ∈ TSC by decide)).1]
        rcases bit_01 i hi n (by omega) with q | q
        · rw [if_pos q, if_neg (by rw [q]; decide), Int32.or_zero]
        · rw [if_neg (by rw [q]; decide), if_pos q]
    unfold F_X11_notedBy F_X11_notedBy_l4 F_X12_noted_l39
    rw [u2_n _ _ (show ¬ ((132 : Nat) = 130 ∧ (4 : Nat) = 0) by omega), e1, e2, nI_clamp (by omega)]
    exact N c (by omega)
  unfold F_X11_noted F_X12_noted F_X11_noted_l20 F_X12_noted_l21
  rw [u2_n _ _ (show ¬ ((132 : Nat) = 130 ∧ (4 : Nat) = 0) by omega), e1, e2]
  have M : ∀ n, n ≤ 16 → itN (B_X11_noted_l20 A J) n (-2) = itN (B_X12_noted_l21 B J') n (-2) ∧ (itN (B_X12_noted_l21 B J') n (-2) = -2 ∨ ∃ j, j < 16 ∧ itN (B_X12_noted_l21 B J') n (-2) = nI j) := by
    intro n
    induction n with
    | zero => intro _; rw [itN_0, itN_0]; exact ⟨rfl, Or.inl rfl⟩
    | succ n ih =>
      intro hn
      obtain ⟨i1, i2⟩ := ih (by omega)
      rw [itN_s, itN_s, i1]
      generalize itN (B_X12_noted_l21 B J') n (-2) = s at *
      unfold B_X11_noted_l20 B_X12_noted_l21 T_X11_noted_j56 S1_X12_noted
      rw [u2_n _ _ (show ¬ ((132 : Nat) = 130 ∧ (0 : Nat) = 0) by omega), e01, e02, ← nb n (by omega) s]
      by_cases q : s < 0
      · rw [if_pos q, if_pos q, if_neg (show ¬ (1 : Int32) = 0 by decide)]
        refine ⟨rfl, ?_⟩
        split
        · exact Or.inr ⟨n, by omega, rfl⟩
        · exact i2
      · rw [if_neg q, if_neg q]
        obtain ⟨j, hj, rfl⟩ : ∃ j, j < 16 ∧ s = nI j := i2.resolve_left (fun y => q (by rw [y]; decide))
        rw [bits_v (I' := u2 B 130 0 0) (J' := J') hj, bits_v (I' := u2 B 130 0 0) (J' := J') (show n < 16 by omega)]
        by_cases q2 : F_X12_bitsOf (nI j) (u2 B 130 0 0) J' ≤ F_X12_bitsOf (nI n) (u2 B 130 0 0) J'
        · rw [if_pos q2, if_pos q2, if_pos rfl, ite_self]
          exact ⟨rfl, Or.inr ⟨j, hj, rfl⟩⟩
        · rw [if_neg q2, if_neg q2, if_neg (show ¬ (1 : Int32) = 0 by decide)]
          refine ⟨rfl, ?_⟩
          split
          · exact Or.inr ⟨n, by omega, rfl⟩
          · exact Or.inr ⟨j, hj, rfl⟩
  exact (M _ (two_v c (by omega))).1
