/-! both: a day passes, and days -/
theorem u2_cm {α : Type} {g : Nat → Nat → α} {a b c d : Nat} {v w : α} (h : ¬ (a = c ∧ b = d)) : u2 (u2 g a b v) c d w = u2 (u2 g c d w) a b v := by
  funext x y
  by_cases p : x = c ∧ y = d
  · obtain ⟨rfl, rfl⟩ := p
    rw [u2_s, u2_n _ _ (fun q => h ⟨q.1.symm, q.2.symm⟩), u2_s]
  · rw [u2_n _ _ p]
    by_cases q : x = a ∧ y = b
    · obtain ⟨rfl, rfl⟩ := q
      rw [u2_s, u2_s]
    · rw [u2_n _ _ q, u2_n _ _ q, u2_n _ _ p]
theorem RLX.tr {f nm ns : Nat} {A0 A1 A2 B0 B1 B2 : SI} {J0 J1 J2 : SJ} (h : RLX f nm ns A0 J0 B0 A1 J1 B1) (k : RLX f nm ns A1 J1 B1 A2 J2 B2) : RLX f nm ns A0 J0 B0 A2 J2 B2 := ⟨k.1, h.2.1.tr k.2.1, h.2.2.1.tr k.2.2.1, h.2.2.2.tr k.2.2.2⟩
theorem RLX.rf {f nm ns : Nat} {A B : SI} {J : SJ} (h : SCT 105 f nm ns A J B) : RLX f nm ns A J B A J B := ⟨h, fun _ _ _ => rfl, FS.rf f B, JW.rf J⟩
/-- the shots of a day -/
theorem shots_v {b w : Int32} {f nm ns np : Nat} {A B Ia Ib : SI} {JA J' Ja Jb : SJ} {a0 b1 : Int32} {i2 : Nat} {s2 : SI × SJ} (h : SCT 105 f nm ns A JA B) (x : DX b nm ns np A B) (hf : f ≤ 22) (hw : F_X0_isAway s2.1 s2.2 = w) (hw2 : F_X12_isAway (nI f) b1 Ib Jb = w) : RLX f nm ns A JA B (F_X0_pass_w60 a0 Ia Ja i2 s2 (0, A, JA)).2.1 (F_X0_pass_w60 a0 Ia Ja i2 s2 (0, A, JA)).2.2 (F_X12_passes_w50 (nI f) b1 Ib Jb (0, B, J')).2.1 := by
  have hn : ns ≤ 8 := x.1.2.1
  unfold F_X0_pass_w60 F_X12_passes_w50
  have L := itW2 (f := B_X0_pass_w60 a0 Ia Ja i2 s2) (g := B_X12_passes_w50 (nI f) b1 Ib Jb) (fun n (p : Int32 × SI × SJ) (q : Int32 × SI × SJ) => ∃ i, i + n = ns ∧ p.1 = nI i ∧ q.1 = nI i ∧ RLX f nm ns A JA B p.2.1 p.2.2 q.2.1) (fun (r u : Int32 × SI × SJ) => RLX f nm ns A JA B r.2.1 r.2.2 u.2.1) ?_ 800 ns 800 (0, A, JA) (0, B, J') ⟨0, by omega, rfl, rfl, RLX.rf h⟩ (by omega) (by omega)
  · exact L _ _
  rintro n ⟨p1, A1, J1⟩ ⟨q1, B1, K1⟩ ⟨i, hi, e1, e2, r⟩
  have e1 : p1 = nI i := e1
  have e2 : q1 = nI i := e2
  subst e1 e2
  have r : RLX f nm ns A JA B A1 J1 B1 := r
  have sc := r.1
  have y := x.mv r.2.1 r.2.2.1
  obtain ⟨_, _, _, c4, _, c6⟩ := y.1
  by_cases z : n = 0
  · left
    refine ⟨(nI i, A1, J1), (nI i, B1, K1), ?_, ?_, r⟩
    · unfold B_X0_pass_w60
      dsimp only
      rw [if_pos (show A1 8 1 ≤ nI i by rw [c4]; exact nI_le (by omega) (by omega))]
    · unfold B_X12_passes_w50
      dsimp only
      rw [if_pos (show B1 132 1 ≤ nI i by rw [c6]; exact nI_le (by omega) (by omega))]
  right
  have is : i < ns := by omega
  have i8 : i < 8 := by omega
  have g1 : ¬ A1 8 1 ≤ nI i := by rw [c4]; exact nI_ge is (by omega)
  have g2 : ¬ B1 132 1 ≤ nI i := by rw [c6]; exact nI_ge is (by omega)
  have sh := (sc.2.2.1 i i8).1.1
  have dn := sc.dn (J := K1) hf i8
  have ef : atF (A1 107) 8 (nI i) = A1 107 i := atF_v i8 (by omega)
  have ed : atF (A1 106) 8 (nI i) = A1 106 i := atF_v i8 (by omega)
  have dd : A1 106 i = B1 162 (8 * f + i) := sh
  have rd : B1 162 (((8 : Int32) * nI f) + nI i).toNatClampNeg = B1 154 (nI f).toNatClampNeg ↔ A1 106 i = A1 105 0 := by
    rw [cel8 hf i8, nI_clamp (show f < 2 ^ 31 by omega), ← dd, ← sc.1.1]
  have stay : B_X0_pass_w60 a0 Ia Ja i2 s2 (nI i, A1, J1) = .inl (nI (i + 1), A1, J1) → B_X12_passes_w50 (nI f) b1 Ib Jb (nI i, B1, K1) = .inl (nI (i + 1), B1, K1) → ∃ m s' t', m < n ∧ B_X0_pass_w60 a0 Ia Ja i2 s2 (nI i, A1, J1) = .inl s' ∧ B_X12_passes_w50 (nI f) b1 Ib Jb (nI i, B1, K1) = .inl t' ∧ ∃ i, i + m = ns ∧ s'.1 = nI i ∧ t'.1 = nI i ∧ RLX f nm ns A JA B s'.2.1 s'.2.2 t'.2.1 := fun k1 k2 => ⟨n - 1, _, _, by omega, k1, k2, i + 1, by omega, rfl, rfl, r⟩
  by_cases k1 : A1 107 i = 0
  · by_cases k2 : A1 106 i = A1 105 0
    · have fv := film_v (w := w) (J' := K1) sc y hf is
      refine ⟨n - 1, (nI (i + 1), FI_X0_film (nI i) w A1 J1, FJ_X0_film (nI i) w A1 J1), (nI (i + 1), FI_X12_films (nI f) (nI i) w B1 K1, FJ_X12_films (nI f) (nI i) w B1 K1), by omega, ?_, ?_, i + 1, by omega, rfl, rfl, r.tr fv⟩
      · unfold B_X0_pass_w60
        dsimp only
        rw [if_neg g1, ef, if_pos k1, ed, if_pos k2, hw, nI_1]
      · unfold B_X12_passes_w50
        dsimp only
        rw [if_neg g2, if_pos (dn.mp k1), if_pos (rd.mpr k2), hw2, nI_1]
    · refine stay ?_ ?_
      · unfold B_X0_pass_w60
        dsimp only
        rw [if_neg g1, ef, if_pos k1, ed, if_neg k2, nI_1]
      · unfold B_X12_passes_w50
        dsimp only
        rw [if_neg g2, if_pos (dn.mp k1), if_neg (fun q => k2 (rd.mp q)), nI_1]
  · refine stay ?_ ?_
    · unfold B_X0_pass_w60
      dsimp only
      rw [if_neg g1, ef, if_neg k1, nI_1]
    · unfold B_X12_passes_w50
      dsimp only
      rw [if_neg g2, if_neg (fun q => k1 (dn.mpr q)), nI_1]
/-- the parties of a day -/
theorem parts_v {b w : Int32} {f nm ns np : Nat} {A B Ia Ib : SI} {JA J' Ja Jb : SJ} {a0 b1 : Int32} {i2 : Nat} {s2 : SI × SJ} (h : SCT 105 f nm ns A JA B) (x : DX b nm ns np A B) (hf : f ≤ 22) (hw : F_X0_isAway s2.1 s2.2 = w) (hw2 : F_X12_isAway (nI f) b1 Ib Jb = w) : RLX f nm ns A JA B (F_X0_pass_w128 a0 Ia Ja i2 s2 (0, A, JA)).2.1 (F_X0_pass_w128 a0 Ia Ja i2 s2 (0, A, JA)).2.2 (F_X12_passes_w109 (nI f) b1 Ib Jb (0, B, J')).2.1 := by
  have p4 : np ≤ 4 := x.2.1.1
  unfold F_X0_pass_w128 F_X12_passes_w109
  have L := itW2 (f := B_X0_pass_w128 a0 Ia Ja i2 s2) (g := B_X12_passes_w109 (nI f) b1 Ib Jb) (fun n (p : Int32 × SI × SJ) (q : Int32 × SI × SJ) => ∃ i, i + n = np ∧ p.1 = nI i ∧ q.1 = nI i ∧ RLX f nm ns A JA B p.2.1 p.2.2 q.2.1) (fun (r u : Int32 × SI × SJ) => RLX f nm ns A JA B r.2.1 r.2.2 u.2.1) ?_ 800 np 800 (0, A, JA) (0, B, J') ⟨0, by omega, rfl, rfl, RLX.rf h⟩ (by omega) (by omega)
  · exact L _ _
  rintro n ⟨p1, A1, J1⟩ ⟨q1, B1, K1⟩ ⟨i, hi, e1, e2, r⟩
  have e1 : p1 = nI i := e1
  have e2 : q1 = nI i := e2
  subst e1 e2
  have r : RLX f nm ns A JA B A1 J1 B1 := r
  have sc := r.1
  have y := x.mv r.2.1 r.2.2.1
  obtain ⟨_, c4, c6⟩ := y.2.1
  by_cases z : n = 0
  · left
    refine ⟨(nI i, A1, J1), (nI i, B1, K1), ?_, ?_, r⟩
    · unfold B_X0_pass_w128
      dsimp only
      rw [if_pos (show A1 13 1 ≤ nI i by rw [c4]; exact nI_le (by omega) (by omega))]
    · unfold B_X12_passes_w109
      dsimp only
      rw [if_pos (show B1 132 3 ≤ nI i by rw [c6]; exact nI_le (by omega) (by omega))]
  have ip : i < np := by omega
  have g1 : ¬ A1 13 1 ≤ nI i := by rw [c4]; exact nI_ge ip (by omega)
  have g2 : ¬ B1 132 3 ≤ nI i := by rw [c6]; exact nI_ge ip (by omega)
  by_cases w0 : w = 0
  · right
    have gv := give_v (J' := K1) sc y hf ip
    refine ⟨n - 1, (nI (i + 1), FI_X0_give (nI i) A1 J1, FJ_X0_give (nI i) A1 J1), (nI (i + 1), FI_X12_gives (nI f) (nI i) B1 K1, FJ_X12_gives (nI f) (nI i) B1 K1), by omega, ?_, ?_, i + 1, by omega, rfl, rfl, r.tr gv⟩
    · unfold B_X0_pass_w128
      dsimp only
      rw [if_neg g1, hw, if_pos w0, nI_1]
    · unfold B_X12_passes_w109
      dsimp only
      rw [if_neg g2, hw2, if_pos w0, nI_1]
  · left
    refine ⟨(nI i, A1, J1), (nI i, B1, K1), ?_, ?_, r⟩
    · unfold B_X0_pass_w128
      dsimp only
      rw [if_neg g1, hw, if_neg w0]
    · unfold B_X12_passes_w109
      dsimp only
      rw [if_neg g2, hw2, if_neg w0]
/-- longs that days leave alone -/
def JDY (J J' : SJ) : Prop := ∀ a c, ¬ (a = 115 ∨ a = 32 ∨ a = 36 ∨ a = 40 ∨ (a = 105 ∧ c = 6)) → J' a c = J a c
def DRL (f nm ns : Nat) (A0 : SI) (J0 : SJ) (B0 A1 : SI) (J1 : SJ) (B1 : SI) : Prop := SCT 105 f nm ns A1 J1 B1 ∧ KP 105 113 A0 A1 ∧ FS f B0 B1 ∧ JDY J0 J1
theorem DRL.rf {f nm ns : Nat} {A B : SI} {J : SJ} (h : SCT 105 f nm ns A J B) : DRL f nm ns A J B A J B := ⟨h, fun _ _ _ => rfl, FS.rf f B, fun _ _ _ => rfl⟩
theorem DRL.tr {f nm ns : Nat} {A0 A1 A2 B0 B1 B2 : SI} {J0 J1 J2 : SJ} (h : DRL f nm ns A0 J0 B0 A1 J1 B1) (k : DRL f nm ns A1 J1 B1 A2 J2 B2) : DRL f nm ns A0 J0 B0 A2 J2 B2 := ⟨k.1, h.2.1.tr k.2.1, h.2.2.1.tr k.2.2.1, fun a c z => (k.2.2.2 a c z).trans (h.2.2.2 a c z)⟩
theorem RLX.d {f nm ns : Nat} {A0 A1 B0 B1 : SI} {J0 J1 : SJ} (h : RLX f nm ns A0 J0 B0 A1 J1 B1) : DRL f nm ns A0 J0 B0 A1 J1 B1 := ⟨h.1, h.2.1, h.2.2.1, fun a c z => h.2.2.2 a c (by omega)⟩
theorem pass_v {b a0 : Int32} {f nm ns np i2 : Nat} {A B Ia : SI} {JA J' Ja : SJ} (h : SCT 105 f nm ns A JA B) (x : DX b nm ns np A B) (hf : f ≤ 22) : DRL f nm ns A JA B (B_X0_pass_l2 a0 Ia Ja i2 (A, JA)).1 (B_X0_pass_l2 a0 Ia Ja i2 (A, JA)).2 (FI_X12_passes (nI f) b B J') := by
  obtain ⟨w1, w2, w3, w4⟩ := away_v (J' := J') h x hf
  have ra : DRL f nm ns A JA B A (FJ_X0_isAway A JA) (FI_X12_isAway (nI f) b B J') := ⟨w2, fun _ _ _ => rfl, w4, fun a c z => w3 a c (by omega)⟩
  have r0 : RLX f nm ns A (FJ_X0_isAway A JA) (FI_X12_isAway (nI f) b B J') A (FJ_X0_isAway A JA) (FI_X12_isAway (nI f) b B J') := RLX.rf w2
  have e4 : A 105 4 = FI_X12_isAway (nI f) b B J' 159 f := w2.1.2.2.2.1
  have e5 : A 105 5 = FI_X12_isAway (nI f) b B J' 158 f := w2.1.2.2.2.2.1
  -- the count of days away, and their row
  have r1 := r0.u (a := 105) (b := 4) (r := 159) (c := f) (v := A 105 4 + (if F_X0_isAway A JA = 0 then 0 else 1)) (v' := A 105 4 + (if F_X0_isAway A JA = 0 then 0 else 1)) r0.1.w_adays (by omega) (in1 (by omega))
  have r2 := r1.u (a := 105) (b := 5) (r := 158) (c := f) (v := if F_X0_isAway A JA = 0 then 0 else A 105 5 + 1) (v' := if F_X0_isAway A JA = 0 then 0 else A 105 5 + 1) r1.1.w_arow (by omega) (in1 (by omega))
  have s1 : S1_X0_pass a0 Ia Ja i2 (A, JA) = u2 (u2 A 105 4 (A 105 4 + (if F_X0_isAway A JA = 0 then 0 else 1))) 105 5 (if F_X0_isAway A JA = 0 then 0 else A 105 5 + 1) := by
    unfold S1_X0_pass T_X0_pass_j54 T_X0_pass_j29
    dsimp only
    rw [u2_n _ _ (show ¬ ((105 : Nat) = 105 ∧ (5 : Nat) = 4) by omega)]
  have s2 : S2_X12_passes (nI f) b B J' = u2 (u2 (FI_X12_isAway (nI f) b B J') 159 f (A 105 4 + (if F_X0_isAway A JA = 0 then 0 else 1))) 158 f (if F_X0_isAway A JA = 0 then 0 else A 105 5 + 1) := by
    unfold S2_X12_passes S1_X12_passes T_X12_passes_j28 T_X12_passes_j45
    rw [← w1, nI_clamp (show f < 2 ^ 31 by omega), u2_n _ _ (show ¬ ((159 : Nat) = 158 ∧ f = f) by omega), ← e4, ← e5]
    exact u2_cm (by omega)
  rw [← s1, ← s2] at r2
  have y2 := x.mv (r2.2.1) (w4.tr r2.2.2.1)
  have r3 := shots_v (w := F_X0_isAway A JA) (Ia := Ia) (Ib := B) (Ja := Ja) (Jb := J') (J' := J') (a0 := a0) (b1 := b) (i2 := i2) (s2 := (A, JA)) r2.1 y2 hf rfl w1.symm
  have r4 := r2.tr r3
  have y3 := x.mv r4.2.1 (w4.tr r4.2.2.1)
  have r5 := parts_v (w := F_X0_isAway A JA) (Ia := Ia) (Ib := B) (Ja := Ja) (Jb := J') (J' := (F_X12_passes_w50 (nI f) b B J' (0, S2_X12_passes (nI f) b B J', J')).2.2) (a0 := a0) (b1 := b) (i2 := i2) (s2 := (A, JA)) r4.1 y3 hf rfl w1.symm
  have r6 : RLX f nm ns A (FJ_X0_isAway A JA) (FI_X12_isAway (nI f) b B J') (S4_X0_pass a0 Ia Ja i2 (A, JA)) (S5_X0_pass a0 Ia Ja i2 (A, JA)) (S3_X12_passes (nI f) b B J') := r4.tr r5
  have y4 := x.mv r6.2.1 (w4.tr r6.2.2.1)
  have g3 := y4.2.2.2.2.2.2.1
  have r7 : RLX f nm ns A (FJ_X0_isAway A JA) (FI_X12_isAway (nI f) b B J') (T_X0_pass_j170 a0 Ia Ja i2 (A, JA)).1 (T_X0_pass_j170 a0 Ia Ja i2 (A, JA)).2 (T_X12_passes_j150 (nI f) b B J').1 := by
    unfold T_X0_pass_j170 T_X12_passes_j150
    by_cases z : S4_X0_pass a0 Ia Ja i2 (A, JA) 104 6 = 0
    · rw [if_pos z, if_pos (g3.mp z)]
      exact r6
    · rw [if_neg z, if_neg (fun q => z (g3.mpr q))]
      exact r6.tr (again_v (J' := S4_X12_passes (nI f) b B J') r6.1 y4 hf)
  have e0 : (T_X0_pass_j170 a0 Ia Ja i2 (A, JA)).1 105 0 = (T_X12_passes_j150 (nI f) b B J').1 154 f := r7.1.1.1
  have r8 := r7.u (a := 105) (b := 0) (r := 154) (c := f) (v := (T_X0_pass_j170 a0 Ia Ja i2 (A, JA)).1 105 0 + 1) (v' := (T_X0_pass_j170 a0 Ia Ja i2 (A, JA)).1 105 0 + 1) r7.1.w_day (by omega) (in1 (by omega))
  have s6 : FI_X12_passes (nI f) b B J' = u2 (T_X12_passes_j150 (nI f) b B J').1 154 f ((T_X0_pass_j170 a0 Ia Ja i2 (A, JA)).1 105 0 + 1) := by
    unfold FI_X12_passes S6_X12_passes
    rw [nI_clamp (show f < 2 ^ 31 by omega), e0]
  rw [s6]
  exact ra.tr r8.d
/-- days, one after another -/
theorem days_v {b a0 : Int32} {f nm ns np : Nat} {A B Ia : SI} {JA J' Ja : SJ} {g : Nat → SI × SJ → SI × SJ} (hg : ∀ i s, g i s = (FI_X12_passes (nI f) b s.1 s.2, FJ_X12_passes (nI f) b s.1 s.2)) (h : SCT 105 f nm ns A JA B) (x : DX b nm ns np A B) (hf : f ≤ 22) : ∀ n, DRL f nm ns A JA B (itN (B_X0_pass_l2 a0 Ia Ja) n (A, JA)).1 (itN (B_X0_pass_l2 a0 Ia Ja) n (A, JA)).2 (itN g n (B, J')).1 := by
  intro n
  induction n with
  | zero => rw [itN_0, itN_0]; exact DRL.rf h
  | succ n ih =>
    rw [itN_s, itN_s, hg]
    exact ih.tr (pass_v (J' := (itN g n (B, J')).2) ih.1 (x.mv ih.2.1 ih.2.2.1) hf)
