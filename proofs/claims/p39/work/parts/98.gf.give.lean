/-! both: a party gives -/
/-- a party's mark and way, told -/
theorem told_p {b : Int32} {nm ns np q : Nat} {A B : SI} (x : DX b nm ns np A B) (hq : q < np) : ∃ m, m < nm ∧ A 15 q = nI m ∧ B 141 q = nI m ∧ A 16 q = B 142 q ∧ inR (A 16 q) 6 := by
  obtain ⟨h6, hn, c3, c4, _, _⟩ := x.1
  obtain ⟨p4, p1, p2⟩ := x.2.1
  obtain ⟨c, hc, e1, e2, e3, _⟩ := x.2.2.1.2.2.1
  have ec : c = np := (nI_eq (by omega) (by omega)).mp (e1.symm.trans p1)
  have k1 := e3 q (by omega) (15, 141) (by unfold TSP; simp)
  have k2 := e3 q (by omega) (16, 142) (by unfold TSP; simp)
  have b1 : inR (A 15 q) 6 := by have := k1.2; unfold BD at this; simpa using this
  have b2 : inR (A 16 q) 6 := by have := k2.2; unfold BD at this; simpa using this
  obtain ⟨m, hm, em⟩ := b1.n
  have mk := (x.2.2.1.2.2.2.2.2.2.2.2.2.2.2 q (by omega)).2 (by rw [p1, nI_clamp (by omega)]; exact hq)
  rw [em, c3, nI_clamp (by omega), nI_clamp (by omega)] at mk
  exact ⟨m, mk, em, (show A 15 q = B 141 q from k1.1).symm.trans em, k2.1, b2⟩
theorem give_v {b : Int32} {f nm ns np q : Nat} {A B : SI} {JA J' : SJ} (h : SCT 105 f nm ns A JA B) (x : DX b nm ns np A B) (hf : f ≤ 22) (hq : q < np) : RLX f nm ns A JA B (FI_X0_give (nI q) A JA) (FJ_X0_give (nI q) A JA) (FI_X12_gives (nI f) (nI q) B J') := by
  have h6 : nm ≤ 6 := x.1.1
  have hn : ns ≤ 8 := x.1.2.1
  have q4 : q < 4 := by have := x.2.1.1; omega
  obtain ⟨m, hm, am, bm, aw, ww⟩ := told_p x hq
  have m6 : m < 6 := by omega
  have r0 : RLX f nm ns A JA B A JA B := ⟨h, fun _ _ _ => rfl, FS.rf f B, JW.rf JA⟩
  have sq := h.2.2.2.2.2 q q4
  have sm := h.2.2.2.2.1 m m6
  have l1 : A 112 q = B 166 (4 * f + q) := sq.1.1
  have l2 : A 113 q = B 167 (4 * f + q) := sq.1.2
  have l3 : A 111 m = B 161 (6 * f + m) := sm.1.2
  have l4 : A 110 m = B 160 (6 * f + m) := sm.1.1
  have mm : A 110 m < 0 ↔ A 110 m = -1 := m1_nn sm.2.1
  have eM : atF (A 15) 8 (nI q) = nI m := by rw [atF_v (by omega) (by omega), am]
  have eW : atF (A 16) 8 (nI q) = A 16 q := atF_v (by omega) (by omega)
  have eL : atF (A 112) 4 (nI q) = A 112 q := atF_v q4 (by omega)
  have eS : atF (A 110) 6 (nI m) = A 110 m := atF_v m6 (by omega)
  have bM : B 141 (nI q).toNatClampNeg = nI m := by rw [nI_clamp (by omega)]; exact bm
  have bW : B 142 (nI q).toNatClampNeg = A 16 q := by rw [nI_clamp (by omega)]; exact aw.symm
  obtain ⟨l, hl, el⟩ := sq.2.n
  have el : A 112 q = nI l := el
  have s2e : S2_X0_give (nI q) A JA = u2 (u2 (u2 A 112 q (A 112 q - 1)) 113 q (A 113 q + 1)) 111 m (A 111 m + 1) := by
    unfold S2_X0_give S1_X0_give
    have p1 : putF A 112 4 (nI q) (A 112 q - 1) = u2 A 112 q (A 112 q - 1) := putF_v q4 (by omega)
    rw [eM, eL, p1, putF_v q4 (by omega), atF_v q4 (by omega), u2_n _ _ (show ¬ ((113 : Nat) = 112 ∧ q = q) by omega), atF_v m6 (by omega), putF_v m6 (by omega)]
  have s4e : S4_X12_gives (nI f) (nI q) B J' = u2 (u2 (u2 B 166 (4 * f + q) (A 112 q - 1)) 167 (4 * f + q) (A 113 q + 1)) 161 (6 * f + m) (A 111 m + 1) := by
    unfold S4_X12_gives S3_X12_gives S2_X12_gives S1_X12_gives
    rw [bM, cel4 hf q4, cel6 hf m6, u2_n _ _ (show ¬ ((167 : Nat) = 166 ∧ 4 * f + q = 4 * f + q) by omega), u2_n _ _ (show ¬ ((161 : Nat) = 167 ∧ 6 * f + m = 4 * f + q) by omega), u2_n _ _ (show ¬ ((161 : Nat) = 166 ∧ 6 * f + m = 4 * f + q) by omega), ← l1, ← l2, ← l3]
  unfold FI_X0_give FJ_X0_give FI_X12_gives
  rw [eM, eW, eL, eS, bM, bW, cel4 hf q4, cel6 hf m6, ← l1, ← l4]
  have e20 : S20_X12_gives (nI f) (nI q) B J' = S9_X12_gives (nI f) (nI q) B J' := rfl
  have e18 : S18_X12_gives (nI f) (nI q) B J' = S7_X12_gives (nI f) (nI q) B J' := rfl
  have e21 : S21_X12_gives (nI f) (nI q) B J' = S10_X12_gives (nI f) (nI q) B J' := rfl
  rw [e20, e18, e21]
  by_cases z1 : A 112 q = 0
  · have y1 : A 112 q ≤ 0 := by rw [z1]; decide
    rw [if_pos z1, if_pos y1, if_pos y1, ite_self, ite_self]
    exact r0
  have lp : 0 < l := by
    by_cases y : l = 0
    · exact absurd (by rw [el, y]; rfl) z1
    · omega
  have y1 : ¬ A 112 q ≤ 0 := by rw [el]; exact nI_ge (a := 0) lp (by omega)
  rw [if_neg z1, if_neg y1, if_neg y1]
  by_cases z2 : A 110 m < 0
  · rw [if_pos z2, if_pos z2, if_pos (mm.mp z2), ite_self, ite_self]
    exact r0
  rw [if_neg z2, if_neg z2, if_neg (fun y => z2 (mm.mpr y))]
  by_cases z3 : A 110 m = A 16 q
  · rw [if_pos z3, if_pos z3, if_pos z3, ite_self, ite_self]
    exact r0
  rw [if_neg z3, if_neg z3, if_neg z3]
  obtain ⟨_, g2, _, g4, g5⟩ := x.2.2.2.2
  by_cases z4 : nI q = A 104 5
  · have z5 : B 130 55 = 2 ∧ A 104 5 = B 130 56 := by
      rcases g2 with g | ⟨_, g⟩
      · exact g
      · rw [g] at z4
        exact absurd z4 (fun y => by
          have e : (nI q).toInt = (-1 : Int32).toInt := congrArg Int32.toInt y
          rw [nI_toInt (by omega)] at e
          have e2 : (-1 : Int32).toInt = -1 := by decide
          omega)
    rw [if_pos z4, if_pos z4, if_pos z5.1, if_pos (z4.trans z5.2)]
    exact r0
  rw [if_neg z4, if_neg z4]
  -- it gives
  have d1 : inR (A 112 q - 1) 1000 := by
    rw [el, show nI l - 1 = nI (l - 1) from pk_sub (b := 1) (by omega)]
    exact inR_nI (by omega) (by decide)
  have ra := r0.u (a := 112) (b := q) (r := 166) (c := 4 * f + q) (v := A 112 q - 1) (v' := A 112 q - 1) (h.w_left d1) (by omega) (in4 (by omega) q4)
  have rb := ra.u (a := 113) (b := q) (r := 167) (c := 4 * f + q) (v := A 113 q + 1) (v' := A 113 q + 1) ra.1.w_gave (by omega) (in4 (by omega) q4)
  have rc := rb.u (a := 111) (b := m) (r := 161) (c := 6 * f + m) (v := A 111 m + 1) (v' := A 111 m + 1) (rb.1.w_given hm) (by omega) (in6 (by omega) m6)
  rw [← s2e, ← s4e] at rc
  have y := x.mv rc.2.1 rc.2.2.1
  have tq : S4_X12_gives (nI f) (nI q) B J' 161 (((6 : Int32) * nI f) + B 141 (nI q).toNatClampNeg).toNatClampNeg = A 111 m + 1 := by
    rw [bM, cel6 hf m6, s4e, u2_s]
  have cm := cm_v (k0 := 1) (g := A 111 m + 1) (more := 0) (a3 := -1) (cost := 0) (c5 := 0) (J1 := JA) (J' := J') rc.1 y hf hm (by omega) (by rw [s4e, u2_s, Int32.add_zero]) rfl
  have jn : S3_X0_give (nI q) A JA = FJ_X0_worthOf (29 + 4 * 1) (atF (S2_X0_give (nI q) A JA 114) 6 (nI m)) (A 111 m + 1) (F_X0_isSaid (nI m) (S2_X0_give (nI q) A JA) JA) (F_X5_filmedWith 105 (nI m) (-1) (S2_X0_give (nI q) A JA) JA) 0 (S2_X0_give (nI q) A JA) JA := by
    unfold S3_X0_give
    rw [eM, atF_v m6 (by omega)]
    rfl
  have fn : S4_X0_give (nI q) A JA = F_X0_worthOf (29 + 4 * 1) (atF (S2_X0_give (nI q) A JA 114) 6 (nI m)) (A 111 m + 1) (F_X0_isSaid (nI m) (S2_X0_give (nI q) A JA) JA) (F_X5_filmedWith 105 (nI m) (-1) (S2_X0_give (nI q) A JA) JA) 0 (S2_X0_give (nI q) A JA) JA := by
    unfold S4_X0_give
    rw [eM, atF_v m6 (by omega)]
    rfl
  rw [← jn, ← fn] at cm
  have s5e : S5_X12_gives (nI f) (nI q) B J' = FJ_X12_callsMark (nI f) (nI m) 0 (-1) 0 (S4_X12_gives (nI f) (nI q) B J') J' := by
    unfold S5_X12_gives
    rw [bM]
  have tj : T_X0_give_j183 (nI q) A JA = T_X12_gives_j148 (nI f) (nI q) B J' := by
    unfold T_X0_give_j183 T_X12_gives_j148 S6_X12_gives
    rw [tq, eM, bM, atF_v m6 (by omega), atF_v m6 (by omega), y.2.2.2.2.2.2.2.2 m hm]
    rfl
  have so : S5_X0_give (nI q) A JA = S9_X12_gives (nI f) (nI q) B J' := by
    unfold S5_X0_give S9_X12_gives
    rw [tj, s5e]
    exact cm.2.so
  have fr : Fr38 (S4_X12_gives (nI f) (nI q) B J') (S7_X12_gives (nI f) (nI q) B J') := by
    unfold S7_X12_gives
    exact isSo_f (k := 1) (by omega) (y.2.2.2.1 1 (by omega))
  have a47 : S2_X0_give (nI q) A JA 104 7 = A 104 7 := rc.2.1 _ _ (by omega)
  have b55 : S7_X12_gives (nI f) (nI q) B J' 130 55 = B 130 55 := (fr _ _ (by omega)).trans (rc.2.2.1.lo (Or.inl (by omega)) (by omega))
  have b142 : S7_X12_gives (nI f) (nI q) B J' 142 (nI q).toNatClampNeg = A 16 q := (fr _ _ (by omega)).trans ((rc.2.2.1.lo (Or.inl (by omega)) (by omega)).trans bW)
  have rj := rc.j hn cm.1 fr
  have rk := rc.j hn (JW.rf JA) fr
  have refEq : (if B 130 55 = 2 then (if nI q = B 130 56 then B else (if S9_X12_gives (nI f) (nI q) B J' = 0 then S7_X12_gives (nI f) (nI q) B J' else (if S7_X12_gives (nI f) (nI q) B J' 130 55 = 4 then S7_X12_gives (nI f) (nI q) B J' else S10_X12_gives (nI f) (nI q) B J'))) else (if S9_X12_gives (nI f) (nI q) B J' = 0 then S7_X12_gives (nI f) (nI q) B J' else (if S7_X12_gives (nI f) (nI q) B J' 130 55 = 4 then S7_X12_gives (nI f) (nI q) B J' else S10_X12_gives (nI f) (nI q) B J'))) = (if S9_X12_gives (nI f) (nI q) B J' = 0 then S7_X12_gives (nI f) (nI q) B J' else (if S7_X12_gives (nI f) (nI q) B J' 130 55 = 4 then S7_X12_gives (nI f) (nI q) B J' else S10_X12_gives (nI f) (nI q) B J')) := by
    by_cases z5 : B 130 55 = 2
    · have z6 : ¬ nI q = B 130 56 := fun y2 => by
        rcases g2 with g | g
        · exact z4 (y2.trans g.2.symm)
        · exact g.1 z5
      rw [if_pos z5, if_neg z6]
    · rw [if_neg z5]
  rw [refEq, a47, b55]
  by_cases z7 : A 104 7 = 0
  · rw [if_pos z7, if_pos z7, if_pos (g4.mp z7), ite_self]
    exact rk
  rw [if_neg z7, if_neg z7, if_neg (fun y2 => z7 (g4.mpr y2)), so]
  by_cases z8 : S9_X12_gives (nI f) (nI q) B J' = 0
  · rw [if_pos z8, if_pos z8, if_pos z8]
    exact rj
  · rw [if_neg z8, if_neg z8, if_neg z8]
    have s10e : S10_X12_gives (nI f) (nI q) B J' = u2 (S7_X12_gives (nI f) (nI q) B J') 160 (6 * f + m) (A 16 q) := by
      unfold S10_X12_gives
      rw [bM, cel6 hf m6, b142]
    rw [s10e, putF_v m6 (by omega)]
    exact rj.u (a := 110) (b := m) (r := 160) (c := 6 * f + m) (v := A 16 q) (v' := A 16 q) (rj.1.w_say (Or.inr ww)) (by omega) (in6 (by omega) m6)
