/-! the class reads all lines, and takes what they tell -/
theorem setR {I : SI} {b : Nat} {v : Int32} {a : Nat} (h : PI I) (ha : a = 42) : GO I (u2 I a b v) := by
  have kd : KD I (u2 I a b v) := (KD.rf I).r (by omega)
  exact ⟨h.kd (h.1.u (by omega)) kd, kd.kp⟩
theorem flag_C {k : Nat} {I : SI} (h : PI I) (hk : K3 k) : GO I (u2 I k 0 1) := by
  obtain ⟨t, ⟨m0, m1, m2⟩, s0, s1, s2, r, l0, l1, l2⟩ := h
  unfold K3 at hk
  have e : ∀ a b, ¬ (a = k ∧ b = 0) → u2 I k 0 1 a b = I a b := fun a b q => u2_n _ _ q
  have L : ∀ a, a = 69 ∨ a = 73 ∨ a = 77 → B01 (I a 0) → B01 (u2 I k 0 1 a 0) := fun a ha hb => by
    by_cases q : a = k
    · rw [q, u2_s]; exact .inr rfl
    · rw [e a 0 (fun z => q z.1)]; exact hb
  refine ⟨⟨t.u (by omega), ⟨by rw [e 43 0 (by omega)]; exact m0, by rw [e 48 0 (by omega)]; exact m1, by rw [e 53 0 (by omega)]; exact m2⟩, by rw [e 43 1 (by omega)]; exact s0, by rw [e 48 1 (by omega)]; exact s1, by rw [e 53 1 (by omega)]; exact s2, fun b z => by rw [e 46 b (by omega)]; exact r b z, L 69 (by omega) l0, L 73 (by omega) l1, L 77 (by omega) l2⟩, (KP.rf I).u (by omega)⟩
theorem mark_C {I : SI} {J : SJ} (h : PI I) : H_X4_markLine I J ∧ GO I (FI_X4_markLine I J) := by
  have b := bgn_C (a0 := F_X7_isFull 43 I J) (J := J) h
  have f := fresh_C (k := 43) (J := J) b.2.1
  have n1 := num_C (a0 := 0) (a1 := 99) (J := J) f.2.1
  have g1 : GO I (S1_X4_markLine I J) := by unfold S1_X4_markLine; exact b.2.tr (f.2.tr n1.2.1)
  have n2 := num_C (a0 := 2) (a1 := 6) (J := J) g1.1
  refine ⟨?_, ?_⟩
  · unfold H_X4_markLine
    exact ⟨b.1, f.1, n1.1, n2.1⟩
  · unfold FI_X4_markLine S2_X4_markLine
    by_cases c : FI_X4_number 2 6 (S1_X4_markLine I J) J 41 1 = 0
    · rw [if_pos c]
      have q := n2.2.2 c
      exact (g1.tr n2.2.1).tr (add_C n2.2.1.1 (.inl rfl) (fun _ => in_le (N := 6) (by decide) (fun z => q.1 (Int32.lt_of_lt_of_le z (by decide))) q.2))
    · rw [if_neg c]
      exact g1.tr n2.2.1
theorem shot_C {I : SI} {J : SJ} (h : PI I) : H_X4_shotLine I J ∧ GO I (FI_X4_shotLine I J) := by
  have b := bgn_C (a0 := F_X7_isFull 48 I J) (J := J) h
  have f := fresh_C (k := 48) (J := J) b.2.1
  have n1 := num_C (a0 := 1) (a1 := 99) (J := J) f.2.1
  have g1 : GO I (S1_X4_shotLine I J) := by unfold S1_X4_shotLine; exact b.2.tr (f.2.tr n1.2.1)
  have n2 := num_C (a0 := 0) (a1 := 99) (J := J) g1.1
  refine ⟨?_, ?_⟩
  · unfold H_X4_shotLine
    exact ⟨b.1, f.1, n1.1, n2.1⟩
  · unfold FI_X4_shotLine S2_X4_shotLine
    split
    · exact (g1.tr n2.2.1).tr (add_C n2.2.1.1 (by omega) (by omega))
    · exact g1.tr n2.2.1
theorem pair_C {I : SI} {J : SJ} (h : PI I) : H_X4_pairLine I J ∧ GO I (FI_X4_pairLine I J) := by
  have b := bgn_C (a0 := T_X4_pairLine_j18 I J) (J := J) h
  have f := find_C (k := 48) (J := J) b.2.1
  have s1 := stp (J := J) f.1
  have g1 : GO I (S1_X4_pairLine I J) := by unfold S1_X4_pairLine; exact b.2.tr (f.tr s1.2.1)
  have f2 := find_C (k := 43) (J := J) g1.1
  have t : GO I (T_X4_pairLine_j85 I J) := by
    unfold T_X4_pairLine_j85
    split
    · split
      · exact g1.tr f2
      · exact (g1.tr f2).tr (fl f2.1 (by decide))
    · exact g1.tr f2
  have s2 := stp (J := J) t.1
  have n := num_C (a0 := 0) (a1 := S3_X4_pairLine I J) (J := J) s2.2.1.1
  have g4 : GO I (S4_X4_pairLine I J) := by unfold S4_X4_pairLine; exact t.tr (s2.2.1.tr n.2.1)
  refine ⟨?_, ?_⟩
  · unfold H_X4_pairLine
    exact ⟨b.1, s1.1, s2.1, n.1⟩
  · unfold FI_X4_pairLine
    split
    · have g5 : GO I (S5_X4_pairLine I J) := by
        unfold S5_X4_pairLine
        have kd : KD (S4_X4_pairLine I J) (putF (S4_X4_pairLine I J) 68 48 (S2_X4_pairLine I J) (F_X4_number 0 (S3_X4_pairLine I J) (FI_X8_step (T_X4_pairLine_j85 I J) J) J)) := (KD.rf _).p (by omega)
        exact g4.tr ⟨g4.1.kd (g4.1.1.p (by decide)) kd, kd.kp⟩
      exact g5.tr (setR g5.1 rfl)
    · exact g4
theorem party_C {I : SI} {J : SJ} (h : PI I) : H_X4_partyLine I J ∧ GO I (FI_X4_partyLine I J) := by
  have b := bgn_C (a0 := F_X7_isFull 53 I J) (J := J) h
  have f := fresh_C (k := 53) (J := J) b.2.1
  have d := find_C (k := 43) (J := J) f.2.1
  have g1 : GO I (S1_X4_partyLine I J) := by unfold S1_X4_partyLine; exact b.2.tr (f.2.tr d)
  have s := stp (J := J) g1.1
  have n1 := num_C (a0 := 0) (a1 := S2_X4_partyLine I J - 1) (J := J) s.2.1.1
  have g3 : GO I (S3_X4_partyLine I J) := by unfold S3_X4_partyLine; exact g1.tr (s.2.1.tr n1.2.1)
  have n2 := num_C (a0 := 0) (a1 := 99) (J := J) g3.1
  refine ⟨?_, ?_⟩
  · unfold H_X4_partyLine
    exact ⟨b.1, f.1, s.1, n1.1, n2.1⟩
  · unfold FI_X4_partyLine S4_X4_partyLine
    split
    · exact (g3.tr n2.2.1).tr (add_C n2.2.1.1 (by omega) (by omega))
    · exact g3.tr n2.2.1
theorem clerk_C {I : SI} {J : SJ} (h : PI I) : H_X4_clerkLine I J ∧ GO I (FI_X4_clerkLine I J) := by
  have b := bgn_C (a0 := F_X7_isFull 58 I J) (J := J) h
  have f := fresh_C (k := 58) (J := J) b.2.1
  have n1 := num_C (a0 := 0) (a1 := 63) (J := J) f.2.1
  have g1 : GO I (S1_X4_clerkLine I J) := by unfold S1_X4_clerkLine; exact b.2.tr (f.2.tr n1.2.1)
  refine ⟨?_, ?_⟩
  · unfold H_X4_clerkLine
    exact ⟨b.1, f.1, n1.1⟩
  · unfold FI_X4_clerkLine S2_X4_clerkLine
    split
    · exact g1.tr (add_C g1.1 (by omega) (by omega))
    · exact g1
theorem cold_C {I : SI} {J : SJ} (h : PI I) : H_X4_coldLine I J ∧ GO I (FI_X4_coldLine I J) := by
  have b := bgn_C (a0 := F_X7_isFull 63 I J) (J := J) h
  have n1 := num_C (a0 := 0) (a1 := 99) (J := J) b.2.1
  have n2 := num_C (a0 := F_X4_number 0 99 (FI_X4_begin (F_X7_isFull 63 I J) I J) J) (a1 := 99) (J := J) n1.2.1.1
  have g1 : GO I (S1_X4_coldLine I J) := by unfold S1_X4_coldLine; exact b.2.tr (n1.2.1.tr n2.2.1)
  refine ⟨?_, ?_⟩
  · unfold H_X4_coldLine
    exact ⟨b.1, n1.1, n2.1⟩
  · unfold FI_X4_coldLine S3_X4_coldLine
    split
    · exact g1.tr (add_C g1.1 (by omega) (by omega))
    · exact g1
theorem once_C {a0 a1 : Int32} {I : SI} {J : SJ} (h : PI I) : H_X4_onlyOnce a0 a1 I J ∧ GO I (FI_X4_onlyOnce a0 a1 I J) := by
  have s := stp (J := J) h
  have f := fl (w := 3) (J := J) h (by decide)
  have s2 := stp (J := J) f.1
  have n := num_C (a0 := 0) (a1 := a1) (J := J) s.2.1.1
  have n2 := num_C (a0 := 0) (a1 := a1) (J := J) s2.2.1.1
  refine ⟨?_, ?_⟩
  · unfold H_X4_onlyOnce
    exact ⟨fun _ => s.1, fun _ => n.1, fun _ => s2.1, fun _ => n2.1⟩
  · unfold FI_X4_onlyOnce
    split
    · exact s.2.1.tr n.2.1
    · exact f.tr (s2.2.1.tr n2.2.1)
theorem lawl_C {I : SI} {J : SJ} (h : PI I) : H_X4_lawLine I J ∧ GO I (FI_X4_lawLine I J) := by
  have s := stp (J := J) h
  have g : ∀ (k : Nat) (T : SI), K3 k → (T = FI_X8_step I J ∨ T = FI_X4_fail 3 (FI_X8_step I J) J) → H_X8_step (u2 T k 0 1) J ∧ H_X4_side k (FI_X8_step (u2 T k 0 1) J) J ∧ GO I (FI_X4_side k (FI_X8_step (u2 T k 0 1) J) J) := fun k T hk hT => by
    have gT : GO I T := by
      rcases hT with rfl | rfl
      · exact s.2.1
      · exact s.2.1.tr (fl s.2.1.1 (by decide))
    have gf := gT.tr (flag_C gT.1 hk)
    have s2 := stp (J := J) gf.1
    have d := side_C (J := J) s2.2.1.1 hk
    exact ⟨s2.1, d.1, gf.tr (s2.2.1.tr d.2)⟩
  have g1 := g 69 (T_X4_lawLine_j91 I J) (.inl rfl) (by unfold T_X4_lawLine_j91; split; exact .inl rfl; exact .inr rfl)
  have g2 := g 73 (T_X4_lawLine_j91_2 I J) (.inr (.inl rfl)) (by unfold T_X4_lawLine_j91_2; split; exact .inl rfl; exact .inr rfl)
  have g3 := g 77 (T_X4_lawLine_j91_3 I J) (.inr (.inr rfl)) (by unfold T_X4_lawLine_j91_3; split; exact .inl rfl; exact .inr rfl)
  refine ⟨?_, ?_⟩
  · unfold H_X4_lawLine
    exact ⟨s.1, fun _ => g1.1, fun _ => g1.2.1, fun _ _ => g2.1, fun _ _ => g2.2.1, fun _ _ _ => g3.1, fun _ _ _ => g3.2.1⟩
  · unfold FI_X4_lawLine
    repeat' split
    · exact g1.2.2
    · exact g2.2.2
    · exact g3.2.2
    · exact s.2.1.tr (fl s.2.1.1 (by decide))
theorem line_C {I : SI} {J : SJ} (h : PI I) : H_X4_line I J ∧ GO I (FI_X4_line I J) := by
  have m := mark_C (J := J) h
  have s := shot_C (J := J) h
  have p := pair_C (J := J) h
  have y := party_C (J := J) h
  have c := clerk_C (J := J) h
  have d := cold_C (J := J) h
  have l := lawl_C (J := J) h
  have o := fun a0 a1 : Int32 => once_C (a0 := a0) (a1 := a1) (J := J) h
  refine ⟨?_, ?_⟩
  · unfold H_X4_line
    exact ⟨fun _ => m.1, fun _ _ => s.1, fun _ _ _ => p.1, fun _ _ _ _ => y.1, fun _ _ _ _ _ => c.1, fun _ _ _ _ _ _ => d.1, fun _ _ _ _ _ _ _ => (o _ _).1, fun _ _ _ _ _ _ _ _ => (o _ _).1, fun _ _ _ _ _ _ _ _ _ => (o _ _).1, fun _ _ _ _ _ _ _ _ _ _ => l.1⟩
  · unfold FI_X4_line S1_X4_line S2_X4_line S3_X4_line
    repeat' split
    · exact m.2
    · exact s.2
    · exact p.2
    · exact y.2
    · exact c.2
    · exact d.2
    · exact (o _ _).2.tr (setR (o _ _).2.1 rfl)
    · exact (o _ _).2.tr (setR (o _ _).2.1 rfl)
    · exact (o _ _).2.tr (setR (o _ _).2.1 rfl)
    · exact l.2
    · exact fl h (by decide)
theorem tclear {k : Nat} {I : SI} {J : SJ} : KP k (k + 4) I (FI_X7_clear k I J) ∧ FI_X7_clear k I J k 0 = I k 0 ∧ FI_X7_clear k I J k 1 = 0 ∧ ∀ b, b < 8 → FI_X7_clear k I J (k + 3) b = 0 := by
  unfold FI_X7_clear S1_X7_clear
  refine ⟨(((((KP.rf I).u (by omega)).f (by omega)).f (by omega)).f (by omega)).f (by omega), ?_, ?_, fun b z => ?_⟩
  · exact (fillF_n (by omega)).trans ((fillF_n (by omega)).trans ((fillF_n (by omega)).trans ((fillF_n (by omega)).trans (u2_n _ _ (by omega)))))
  · exact (fillF_n (by omega)).trans ((fillF_n (by omega)).trans ((fillF_n (by omega)).trans ((fillF_n (by omega)).trans (u2_s _ _ _ _))))
  · refine (fillF_n (by omega)).trans ?_
    exact if_pos ⟨rfl, z⟩
theorem lclear {k : Nat} {I : SI} {J : SJ} : KP k k I (FI_X1_clear k I J) ∧ FI_X1_clear k I J k 0 = 0 := by
  unfold FI_X1_clear
  exact ⟨((KP.rf I).u (by omega)).u (by omega), (u2_n _ _ (by omega)).trans (u2_s _ _ _ _)⟩
theorem clear_C {I : SI} {J : SJ} (h : PM I) : PD (FI_X9_clear 42 I J) ∧ KP 42 80 I (FI_X9_clear 42 I J) := by
  have a1 := tclear (k := 43) (I := I) (J := J)
  have a2 := tclear (k := 48) (I := FI_X7_clear 43 I J) (J := J)
  have a3 := tclear (k := 53) (I := FI_X7_clear 48 (FI_X7_clear 43 I J) J) (J := J)
  have k1 : KP 43 57 I (S1_X9_clear 42 I J) := by
    unfold S1_X9_clear
    exact (a1.1.w (by decide) (by decide)).tr ((a2.1.w (by decide) (by decide)).tr (a3.1.w (by decide) (by decide)))
  have v1 : S1_X9_clear 42 I J 43 0 = I 43 0 ∧ S1_X9_clear 42 I J 48 0 = I 48 0 ∧ S1_X9_clear 42 I J 53 0 = I 53 0 ∧ S1_X9_clear 42 I J 43 1 = 0 ∧ S1_X9_clear 42 I J 48 1 = 0 ∧ S1_X9_clear 42 I J 53 1 = 0 ∧ ∀ b, b < 8 → S1_X9_clear 42 I J 46 b = 0 := by
    unfold S1_X9_clear
    refine ⟨(a3.1 43 0 (by omega)).trans ((a2.1 43 0 (by omega)).trans a1.2.1), (a3.1 48 0 (by omega)).trans (a2.2.1.trans (a1.1 48 0 (by omega))), a3.2.1.trans ((a2.1 53 0 (by omega)).trans (a1.1 53 0 (by omega))), (a3.1 43 1 (by omega)).trans ((a2.1 43 1 (by omega)).trans a1.2.2.1), (a3.1 48 1 (by omega)).trans a2.2.2.1, a3.2.2.1, fun b z => (a3.1 46 b (by omega)).trans ((a2.1 46 b (by omega)).trans (a1.2.2.2 b z))⟩
  have k3 : ∀ a b, (a < 58 ∨ 68 < a) → a ≠ 42 → S3_X9_clear 42 I J a b = S1_X9_clear 42 I J a b := fun a b z y => by
    unfold S3_X9_clear S2_X9_clear
    refine (u2_n _ _ (by omega)).trans ((u2_n _ _ (by omega)).trans ((u2_n _ _ (by omega)).trans ((u2_n _ _ (by omega)).trans ((u2_n _ _ (by omega)).trans ((fillF_n (by omega)).trans ?_)))))
    exact ((tclear (k := 63)).1 a b (by omega)).trans ((tclear (k := 58)).1 a b (by omega))
  have l1 := lclear (k := 69) (I := u2 (S3_X9_clear 42 I J) 42 11 0) (J := J)
  have l2 := lclear (k := 73) (I := FI_X1_clear 69 (u2 (S3_X9_clear 42 I J) 42 11 0) J) (J := J)
  have l3 := lclear (k := 77) (I := FI_X1_clear 73 (FI_X1_clear 69 (u2 (S3_X9_clear 42 I J) 42 11 0) J) J) (J := J)
  have kk : ∀ a b, a < 58 → a ≠ 42 → FI_X9_clear 42 I J a b = S1_X9_clear 42 I J a b := fun a b z y => by
    unfold FI_X9_clear S4_X9_clear
    exact (l3.1 a b (by omega)).trans ((l2.1 a b (by omega)).trans ((l1.1 a b (by omega)).trans ((u2_n _ _ (by omega)).trans (k3 a b (by omega) y))))
  have f1 : FI_X9_clear 42 I J 69 0 = 0 := by
    unfold FI_X9_clear S4_X9_clear
    exact (l3.1 69 0 (by omega)).trans ((l2.1 69 0 (by omega)).trans l1.2)
  have f2 : FI_X9_clear 42 I J 73 0 = 0 := by
    unfold FI_X9_clear S4_X9_clear
    exact (l3.1 73 0 (by omega)).trans l2.2
  have f3 : FI_X9_clear 42 I J 77 0 = 0 := by
    unfold FI_X9_clear S4_X9_clear
    exact l3.2
  refine ⟨⟨⟨?_, ?_, ?_⟩, ?_, ?_, ?_, fun b z => ?_, .inl f1, .inl f2, .inl f3⟩, fun a b z => ?_⟩
  · rw [kk 43 0 (by omega) (by omega), v1.1]; exact h.1
  · rw [kk 48 0 (by omega) (by omega), v1.2.1]; exact h.2.1
  · rw [kk 53 0 (by omega) (by omega), v1.2.2.1]; exact h.2.2
  · rw [kk 43 1 (by omega) (by omega), v1.2.2.2.1]; exact cn_0
  · rw [kk 48 1 (by omega) (by omega), v1.2.2.2.2.1]; exact cn_0
  · rw [kk 53 1 (by omega) (by omega), v1.2.2.2.2.2.1]; exact cn_0
  · rw [kk 46 b (by omega) (by omega), v1.2.2.2.2.2.2 b z]; exact cn_0
  · unfold FI_X9_clear S4_X9_clear
    exact (l3.1 a b (by omega)).trans ((l2.1 a b (by omega)).trans ((l1.1 a b (by omega)).trans ((u2_n _ _ (by omega)).trans ((k3 a b (by omega) (by omega)).trans (k1 a b (by omega))))))
theorem read_C {a1 : Int32} {I : SI} {J : SJ} (h : PM I) (ha : inR a1 701) : H_X4_read a1 I J ∧ PD (FI_X4_read a1 I J) ∧ KP 41 85 I (FI_X4_read a1 I J) := by
  have h0 : PM (u2 (u2 I 41 1 0) 41 2 (-1)) := by
    have e : ∀ a, a ≠ 41 → (u2 (u2 I 41 1 0) 41 2 (-1)) a 0 = I a 0 := fun a z => (u2_n _ _ (by omega)).trans (u2_n _ _ (by omega))
    exact ⟨by rw [e 43 (by omega)]; exact h.1, by rw [e 48 (by omega)]; exact h.2.1, by rw [e 53 (by omega)]; exact h.2.2⟩
  have c := clear_C (J := J) h0
  have p1 : PI (u2 (u2 (u2 (FI_X9_clear 42 (u2 (u2 I 41 1 0) 41 2 (-1)) J) 81 2 a1) 81 3 0) 81 4 0) := by
    refine ⟨⟨?_, ?_⟩, c.1.kd (((KD.rf _).r (by omega)).r (by omega) |>.r (by omega))⟩
    · have e : (u2 (u2 (u2 (FI_X9_clear 42 (u2 (u2 I 41 1 0) 41 2 (-1)) J) 81 2 a1) 81 3 0) 81 4 0) 81 2 = a1 := (u2_n _ _ (by omega)).trans ((u2_n _ _ (by omega)).trans (u2_s _ _ _ _))
      rw [e]
      exact ha
    · have e : (u2 (u2 (u2 (FI_X9_clear 42 (u2 (u2 I 41 1 0) 41 2 (-1)) J) 81 2 a1) 81 3 0) 81 4 0) 81 3 = 0 := (u2_n _ _ (by omega)).trans (u2_s _ _ _ _)
      rw [e]
      exact cn_0
  have k0 : KP 41 85 I (u2 (u2 (u2 (FI_X9_clear 42 (u2 (u2 I 41 1 0) 41 2 (-1)) J) 81 2 a1) 81 3 0) 81 4 0) := ((((((KP.rf I).u (by omega)).u (by omega)).tr (c.2.w (by decide) (by decide))).u (by omega)).u (by omega)).u (by omega)
  have s0 := stp (J := J) p1
  have g0 : GO I (FI_X8_begin a1 (FI_X9_clear 42 (u2 (u2 I 41 1 0) 41 2 (-1)) J) J) := by
    unfold FI_X8_begin
    exact ⟨s0.2.1.1, k0.tr s0.2.1.2⟩
  have G : ∀ (s : Int32 × SI), GO I s.2 → GO I (S3_X4_read a1 I J s) := fun s hs => by
    have l := line_C (J := J) hs.1
    have t : GO I (T_X4_read_j70 a1 I J s) := by
      unfold T_X4_read_j70
      split
      · exact hs.tr l.2
      · exact (hs.tr l.2).tr (fl l.2.1 (by decide))
    unfold S3_X4_read
    exact t.tr (setR t.1 rfl)
  have L := whc (f := B_X4_read_w28 a1 I J) (x0 := FI_X8_begin a1 (FI_X9_clear 42 (u2 (u2 I 41 1 0) 41 2 (-1)) J) J) 701 (by decide) (fun x => GO I x) (fun r => GO I r.2) g0 (fun e x s' he hx hf => by
    obtain ⟨c, h2⟩ := inl_of hf
    refine ⟨cn_le (by decide) he ha c, ?_⟩
    repeat' split at h2
    all_goals cases h2
    have g := G (e, x) hx
    exact ⟨rfl, g.tr (stp g.1).2.1⟩) (fun e x r he hx hf => by
    unfold B_X4_read_w28 at hf
    repeat' split at hf
    all_goals cases hf
    all_goals exact hx)
  have g1 : GO I (S1_X4_read a1 I J) := by
    unfold S1_X4_read F_X4_read_w28
    exact L.2.2 _
  have g2 : GO I (FI_X9_settle 42 (S1_X4_read a1 I J) J) := by
    have kd : KD (S1_X4_read a1 I J) (FI_X9_settle 42 (S1_X4_read a1 I J) J) := by
      unfold FI_X9_settle S1_X9_settle S2_X9_settle
      split
      · exact ((((KD.rf _).r (by omega)).r (by omega)).r (by omega))
      · exact ((((KD.rf _).r (by omega)).r (by omega)).r (by omega))
    refine g1.tr ⟨g1.1.kd ?_ kd, kd.kp⟩
    unfold FI_X9_settle S1_X9_settle S2_X9_settle
    split
    · exact ((g1.1.1.u (by omega)).u (by omega)).u (by omega)
    · exact ((g1.1.1.u (by omega)).u (by omega)).u (by omega)
  refine ⟨?_, ?_⟩
  · unfold H_X4_read
    refine ⟨?_, L.1, fun n s hn _ _ _ => (line_C (L.2.1 n s hn).2.1).1, fun n s hn _ _ _ => (stp (G s (L.2.1 n s hn).2).1).1⟩
    unfold H_X8_begin
    exact s0.1
  · unfold FI_X4_read
    split
    · exact ⟨g2.1.2, g2.2⟩
    · exact ⟨g2.1.2, g2.2⟩
theorem tcopy {k a0 : Nat} {I : SI} {J : SJ} (h : k + 4 < a0) : KP k (k + 4) I (FI_X7_copy k a0 I J) ∧ FI_X7_copy k a0 I J k 0 = I k 0 ∧ FI_X7_copy k a0 I J k 1 = I a0 1 ∧ ∀ b, b < 8 → FI_X7_copy k a0 I J (k + 3) b = I (a0 + 3) b := by
  unfold FI_X7_copy S1_X7_copy
  refine ⟨(((((KP.rf I).u (by omega)).c (by omega)).c (by omega)).c (by omega)).c (by omega), ?_, ?_, fun b z => ?_⟩
  · exact (cpF_n (by omega)).trans ((cpF_n (by omega)).trans ((cpF_n (by omega)).trans ((cpF_n (by omega)).trans (u2_n _ _ (by omega)))))
  · exact (cpF_n (by omega)).trans ((cpF_n (by omega)).trans ((cpF_n (by omega)).trans ((cpF_n (by omega)).trans (u2_s _ _ _ _))))
  · refine (cpF_n (by omega)).trans ((if_pos ⟨rfl, z⟩ : cpF (cpF (cpF (u2 I k 1 (I a0 1)) (a0 + 1) (k + 1) 8) (a0 + 2) (k + 2) 8) (a0 + 3) (k + 3) 8 (k + 3) b = _).trans ?_)
    exact (cpF_n (by omega)).trans ((cpF_n (by omega)).trans (u2_n _ _ (by omega)))
theorem lcopy {k a0 : Nat} {I : SI} {J : SJ} : KP k (k + 2) I (FI_X1_copy k a0 I J) := by
  unfold FI_X1_copy S1_X1_copy
  exact ((((KP.rf I).u (by omega)).u (by omega)).c (by omega)).c (by omega)
theorem copy9_C {I : SI} {J : SJ} (h : PD I) : H_X9_copy 2 42 I J ∧ CL (FI_X9_copy 2 42 I J) ∧ KP 2 40 I (FI_X9_copy 2 42 I J) := by
  obtain ⟨_, s0, s1, s2, r, l0, l1, l2⟩ := h
  have a1 := tcopy (k := 3) (a0 := 43) (I := I) (J := J) (by decide)
  have a2 := tcopy (k := 8) (a0 := 48) (I := FI_X7_copy 3 43 I J) (J := J) (by decide)
  have a3 := tcopy (k := 13) (a0 := 53) (I := FI_X7_copy 8 48 (FI_X7_copy 3 43 I J) J) (J := J) (by decide)
  have k1 : KP 2 40 I (S1_X9_copy 2 42 I J) := by
    unfold S1_X9_copy
    exact (a1.1.w (by decide) (by decide)).tr ((a2.1.w (by decide) (by decide)).tr (a3.1.w (by decide) (by decide)))
  have v1 : S1_X9_copy 2 42 I J 3 1 = I 43 1 ∧ S1_X9_copy 2 42 I J 8 1 = I 48 1 ∧ S1_X9_copy 2 42 I J 13 1 = I 53 1 ∧ ∀ b, b < 8 → S1_X9_copy 2 42 I J 6 b = I 46 b := by
    unfold S1_X9_copy
    refine ⟨(a3.1 3 1 (by omega)).trans ((a2.1 3 1 (by omega)).trans a1.2.2.1), (a3.1 8 1 (by omega)).trans (a2.2.2.1.trans (a1.1 48 1 (by omega))), a3.2.2.1.trans ((a2.1 53 1 (by omega)).trans (a1.1 53 1 (by omega))), fun b z => (a3.1 6 b (by omega)).trans ((a2.1 6 b (by omega)).trans (a1.2.2.2 b z))⟩
  have k2 : KP 18 27 (S1_X9_copy 2 42 I J) (S2_X9_copy 2 42 I J) := by
    unfold S2_X9_copy
    exact ((tcopy (by decide)).1.w (by decide) (by decide)).tr ((tcopy (by decide)).1.w (by decide) (by decide))
  have k5 : ∀ a b, a ≠ 2 → a ≠ 28 → (u2 (S5_X9_copy 2 42 I J) 2 11 (S5_X9_copy 2 42 I J 42 11)) a b = S2_X9_copy 2 42 I J a b := fun a b z y => by
    unfold S5_X9_copy S4_X9_copy S3_X9_copy
    exact (u2_n _ _ (by omega)).trans ((u2_n _ _ (by omega)).trans ((u2_n _ _ (by omega)).trans ((u2_n _ _ (by omega)).trans ((u2_n _ _ (by omega)).trans ((u2_n _ _ (by omega)).trans (cpF_n (by omega)))))))
  have c1 := lcopy (k := 29) (a0 := 69) (I := u2 (S5_X9_copy 2 42 I J) 2 11 (S5_X9_copy 2 42 I J 42 11)) (J := J)
  have c2 := lcopy (k := 33) (a0 := 73) (I := S6_X9_copy 2 42 I J) (J := J)
  have c3 := lcopy (k := 37) (a0 := 77) (I := FI_X1_copy 33 73 (S6_X9_copy 2 42 I J) J) (J := J)
  have kk : ∀ a b, a ≠ 2 → a < 28 → FI_X9_copy 2 42 I J a b = S2_X9_copy 2 42 I J a b := fun a b z y => by
    unfold FI_X9_copy S7_X9_copy
    refine (c3 a b (by omega)).trans ((c2 a b (by omega)).trans ?_)
    unfold S6_X9_copy
    exact (c1 a b (by omega)).trans (k5 a b z (by omega))
  have K2 : KP 2 40 I (u2 (S5_X9_copy 2 42 I J) 2 11 (S5_X9_copy 2 42 I J 42 11)) := fun a b z => (k5 a b (by omega) (by omega)).trans ((k2 a b (by omega)).trans (k1 a b z))
  have K6 : KP 2 40 I (S6_X9_copy 2 42 I J) := by
    unfold S6_X9_copy
    exact K2.tr (c1.w (by decide) (by decide))
  have K7 : KP 2 40 I (FI_X1_copy 33 73 (S6_X9_copy 2 42 I J) J) := K6.tr (c2.w (by decide) (by decide))
  refine ⟨?_, ⟨⟨?_, ?_, ?_⟩, fun b z => ?_⟩, ?_⟩
  · unfold H_X9_copy H_X1_copy
    exact ⟨by rw [K2 69 0 (by omega)]; exact l0, by rw [K6 73 0 (by omega)]; exact l1, by rw [K7 77 0 (by omega)]; exact l2⟩
  · rw [kk 3 1 (by omega) (by omega), k2 3 1 (by omega), v1.1]; exact s0
  · rw [kk 8 1 (by omega) (by omega), k2 8 1 (by omega), v1.2.1]; exact s1
  · rw [kk 13 1 (by omega) (by omega), k2 13 1 (by omega), v1.2.2.1]; exact s2
  · rw [kk 6 b (by omega) (by omega), k2 6 b (by omega), v1.2.2.2 b z]; exact r b z
  · unfold FI_X9_copy S7_X9_copy
    exact K7.tr (c3.w (by decide) (by decide))
