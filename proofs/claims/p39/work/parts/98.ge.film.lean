/-! both: a shot is filmed -/
theorem itW2 {σ ρ τ υ : Type} {f : σ → σ ⊕ ρ} {g : τ → τ ⊕ υ} (P : Nat → σ → τ → Prop) (Q : ρ → υ → Prop) (h : ∀ n s t, P n s t → (∃ r u, f s = .inr r ∧ g t = .inr u ∧ Q r u) ∨ (∃ m s' t', m < n ∧ f s = .inl s' ∧ g t = .inl t' ∧ P m s' t')) : ∀ N n M s t, P n s t → n < N → n < M → ∀ dr du, Q ((itW f N s).getD dr) ((itW g M t).getD du) := by
  intro N
  induction N with
  | zero => intro n M s t _ h1; omega
  | succ N ih =>
    intro n M s t hp h1 h2 dr du
    obtain ⟨M', rfl⟩ : ∃ M', M = M' + 1 := ⟨M - 1, by omega⟩
    rcases h n s t hp with ⟨r, u, e1, e2, q⟩ | ⟨m, s', t', hm, e1, e2, q⟩
    · rw [itW_r _ _ _ _ e1, itW_r _ _ _ _ e2]
      exact q
    · rw [itW_l _ _ _ _ e1, itW_l _ _ _ _ e2]
      exact ih m M' s' t' q (by omega) (by omega) dr du
/-- alike, and moved from a start in the days' own cells alone -/
def RLX (f nm ns : Nat) (A0 : SI) (J0 : SJ) (B0 A1 : SI) (J1 : SJ) (B1 : SI) : Prop := SCT 105 f nm ns A1 J1 B1 ∧ KP 105 113 A0 A1 ∧ FS f B0 B1 ∧ JW J0 J1
theorem RLX.u {f nm ns a b r c : Nat} {v v' : Int32} {A0 B0 A1 B1 : SI} {J0 J1 : SJ} (h : RLX f nm ns A0 J0 B0 A1 J1 B1) (s : SCT 105 f nm ns (u2 A1 a b v) J1 (u2 B1 r c v')) (ha : 105 ≤ a ∧ a ≤ 113) (hb : inS f r c) : RLX f nm ns A0 J0 B0 (u2 A1 a b v) J1 (u2 B1 r c v') := ⟨s, fun x y z => (u2_n _ _ (fun q => by omega)).trans (h.2.1 x y z), h.2.2.1.u hb, h.2.2.2⟩
theorem RLX.j {f nm ns : Nat} {A0 B0 A1 B1 B2 : SI} {J0 J1 J2 : SJ} (h : RLX f nm ns A0 J0 B0 A1 J1 B1) (hn : ns ≤ 8) (j : JW J1 J2) (b : Fr38 B1 B2) : RLX f nm ns A0 J0 B0 A1 J2 B2 := ⟨h.1.mv hn (fun _ _ _ _ => rfl) (j 105 6 (by omega)) (fun a c z => b a c (by unfold inS at z; omega)), h.2.1, h.2.2.1.tr b.fs, h.2.2.2.tr j⟩
theorem isSo_f {k : Nat} {a1 : Int32} {B : SI} {J : SJ} (hk : k < 3) (hL : LW B k) : Fr38 B (FI_X12_isSo (nI k) a1 B J) := by
  have g := goes_H (J := J) hk hL
  unfold FI_X12_isSo
  simp only [ite_self]
  split
  · exact fun _ _ _ => rfl
  · exact g.2
/-- a side's names of a mark, alike -/
theorem cm_v {b : Int32} {k0 f nm ns np m : Nat} {g more a3 cost c5 : Int32} {A B : SI} {JA J1 J' : SJ} (h : SCT 105 f nm ns A JA B) (x : DX b nm ns np A B) (hf : f ≤ 22) (hm : m < nm) (h3 : k0 < 3) (eg : g = B 161 (6 * f + m) + more) (ec : c5 = cost) : JW J1 (FJ_X0_worthOf (29 + 4 * k0) (atF (A 114) 6 (nI m)) g (F_X0_isSaid (nI m) A J1) (F_X5_filmedWith 105 (nI m) a3 A J1) c5 A J1) ∧ WSO k0 (F_X0_worthOf (29 + 4 * k0) (atF (A 114) 6 (nI m)) g (F_X0_isSaid (nI m) A J1) (F_X5_filmedWith 105 (nI m) a3 A J1) c5 A J1) B (FJ_X12_callsMark (nI f) (nI m) more a3 cost B J') := by
  have c := x.1
  have m6 : m < 6 := by have := c.1; omega
  have e : FJ_X12_callsMark (nI f) (nI m) more a3 cost B J' = ch7 152 J' (F_X12_strikeOf (nI m) B J').toInt64 ((B 161 (((6 : Int32) * nI f) + nI m).toNatClampNeg + more)).toInt64 (T_X12_callsMark_j57 (nI f) (nI m) more a3 cost B J') ((F_X12_timesOf (nI f) (nI m) a3 B (S2_X12_callsMark (nI f) (nI m) more a3 cost B J')).toInt64) cost.toInt64 ((B 154 (nI f).toNatClampNeg).toInt64) ((B 158 (nI f).toNatClampNeg).toInt64) := rfl
  rw [e]
  have sn := h.sn hf m6
  refine wof_v h3 (x.2.2.1.2.2.2.2.2.2.2.2.2.2.1 k0 h3) (x.2.2.2.1 k0 h3) ?_ ?_ ?_ ?_ ?_ ?_ ?_
  · rw [atF_v m6 (by omega), x.2.2.2.2.2.2.2.2 m hm]
    rfl
  · rw [cel6 hf m6, eg]
  · unfold F_X0_isSaid T_X12_callsMark_j57
    by_cases z : atF (A 110) 6 (nI m) < 0
    · rw [if_pos z, if_pos (sn.2.mp z)]; rfl
    · rw [if_neg z, if_neg (fun q => z (sn.2.mpr q))]; rfl
  · rw [times_v h c hf m6]
  · rw [ec]
  · rw [nI_clamp (by omega), h.1.1]
  · rw [nI_clamp (by omega), h.1.2.2.2.2.1]
theorem told_s {b : Int32} {nm ns np s : Nat} {A B : SI} (x : DX b nm ns np A B) (hs : s < ns) : A 10 s = B 137 s := by
  obtain ⟨_, hn, _, c4, _, _⟩ := x.1
  obtain ⟨c, hc, e1, e2, e3, _⟩ := x.2.2.1.2.1
  have ec : c = ns := (nI_eq (by omega) (by omega)).mp (e1.symm.trans c4)
  exact (e3 s (by omega) (10, 137) (by unfold TSS; simp)).1
theorem film_v {b : Int32} {f nm ns np s : Nat} {w : Int32} {A B : SI} {JA J' : SJ} (h : SCT 105 f nm ns A JA B) (x : DX b nm ns np A B) (hf : f ≤ 22) (hs : s < ns) : RLX f nm ns A JA B (FI_X0_film (nI s) w A JA) (FJ_X0_film (nI s) w A JA) (FI_X12_films (nI f) (nI s) w B J') := by
  have hn : ns ≤ 8 := x.1.2.1
  have h6 : nm ≤ 6 := x.1.1
  have s8 : s < 8 := by omega
  have eA : putF A 107 8 (nI s) 1 = u2 A 107 s 1 := putF_v s8 (by omega)
  have r0 : RLX f nm ns A JA B A JA B := ⟨h, fun _ _ _ => rfl, FS.rf f B, JW.rf JA⟩
  have r1 : RLX f nm ns A JA B (u2 A 107 s 1) JA (u2 B 163 (8 * f + s) 1) := r0.u (h.w_film rfl hs) (by omega) (in8 (by omega) s8)
  unfold FI_X0_film FJ_X0_film FI_X12_films F_X0_film_w14 F_X12_films_w15
  rw [eA, cel8 hf s8]
  have L := itW2 (f := B_X0_film_w14 (nI s) w A JA) (g := B_X12_films_w15 (nI f) (nI s) w B J') (fun n (p : Int32 × SI × SJ) (q : Int32 × SI × SJ) => ∃ i, i + n = nm ∧ p.1 = nI i ∧ q.1 = nI i ∧ RLX f nm ns A JA B p.2.1 p.2.2 q.2.1) (fun (r u : Int32 × SI × SJ) => RLX f nm ns A JA B r.2.1 r.2.2 u.2.1) ?_ 800 nm 800 (0, u2 A 107 s 1, JA) (0, u2 B 163 (8 * f + s) 1, J') ⟨0, by omega, rfl, rfl, r1⟩ (by omega) (by omega)
  · exact L _ _
  rintro n ⟨p1, A1, J1⟩ ⟨q1, B1, K1⟩ ⟨i, hi, e1, e2, r⟩
  have e1 : p1 = nI i := e1
  have e2 : q1 = nI i := e2
  subst e1 e2
  have r : RLX f nm ns A JA B A1 J1 B1 := r
  have sc := r.1
  have y := x.mv r.2.1 r.2.2.1
  obtain ⟨_, _, c3, c4, c5, c6⟩ := y.1
  by_cases z : n = 0
  · left
    refine ⟨(nI i, A1, J1), (nI i, B1, K1), ?_, ?_, r⟩
    · unfold B_X0_film_w14
      dsimp only
      rw [if_pos (show A1 3 1 ≤ nI i by rw [c3]; exact nI_le (by omega) (by omega))]
    · unfold B_X12_films_w15
      dsimp only
      rw [if_pos (show B1 132 0 ≤ nI i by rw [c5]; exact nI_le (by omega) (by omega))]
  have hi2 : i < nm := by omega
  have i6 : i < 6 := by omega
  have g1 : ¬ A1 3 1 ≤ nI i := by rw [c3]; exact nI_ge hi2 (by omega)
  have g2 : ¬ B1 132 0 ≤ nI i := by rw [c5]; exact nI_ge hi2 (by omega)
  by_cases w0 : w = 0
  rotate_left
  · left
    refine ⟨(nI i, A1, J1), (nI i, B1, K1), ?_, ?_, r⟩
    · unfold B_X0_film_w14
      dsimp only
      rw [if_neg g1, if_neg w0]
    · unfold B_X12_films_w15
      dsimp only
      rw [if_neg g2, if_neg w0]
  right
  have wv := sc.2.2.2.1 s i hs i6
  have sv := sc.2.2.2.2.1 i i6
  have ew : F_X5_wayIn 105 (nI s) (nI i) A1 J1 = A1 109 (6 * s + i) := way_c s8 i6
  have eu : atF (A1 110) 6 (nI i) = A1 110 i := atF_v i6 (by omega)
  have m1 := m1_nn (wv.2.imp id And.left)
  have m2 := m1_nn sv.2.1
  have w1 : A1 109 (6 * s + i) = B1 165 (48 * f + (6 * s + i)) := wv.1
  have u1 : A1 110 i = B1 160 (6 * f + i) := sv.1.1
  have mm1 : A1 109 (6 * s + i) < 0 ↔ A1 109 (6 * s + i) = -1 := m1
  have mm2 : A1 110 i < 0 ↔ A1 110 i = -1 := m2
  have v1 : B1 165 (((48 : Int32) * nI f) + ((6 : Int32) * nI s) + nI i).toNatClampNeg = A1 109 (6 * s + i) := by rw [cel48 hf s8 i6]; exact w1.symm
  have v2 : B1 160 (((6 : Int32) * nI f) + nI i).toNatClampNeg = A1 110 i := by rw [cel6 hf i6]; exact u1.symm
  by_cases k1 : A1 109 (6 * s + i) < 0
  · refine ⟨n - 1, (nI (i + 1), A1, J1), (nI (i + 1), B1, K1), by omega, ?_, ?_, ⟨i + 1, by omega, rfl, rfl, r⟩⟩
    · unfold B_X0_film_w14 T_X0_film_j104
      dsimp only
      rw [if_neg g1, if_pos w0, ew, if_pos k1, if_pos k1, nI_1]
    · unfold B_X12_films_w15
      dsimp only
      rw [if_neg g2, if_pos w0, if_pos (v1.trans (mm1.mp k1)), nI_1]
  have k1' : ¬ A1 109 (6 * s + i) = -1 := fun q => k1 (mm1.mpr q)
  by_cases k2 : A1 110 i < 0
  · -- she says nothing of it
    have ne : ¬ A1 110 i = A1 109 (6 * s + i) := fun q => k1 (by rw [← q]; exact k2)
    have tj : T_X0_film_j104 (nI s) w A JA (nI i, A1, J1) = A1 := by
      unfold T_X0_film_j104
      dsimp only
      rw [ew, if_neg k1, eu, if_pos k2]
    have cm := cm_v (k0 := 0) (g := atF (A1 111) 6 (nI i)) (more := 0) (a3 := nI s) (cost := B1 137 (nI s).toNatClampNeg) (c5 := atF (A1 10) 8 (nI s)) (J1 := J1) (J' := K1) sc y hf hi2 (by omega) (by rw [atF_v i6 (by omega), Int32.add_zero]; exact sv.1.2) (by rw [atF_v s8 (by omega), nI_clamp (by omega)]; exact told_s y hs)
    have jn : FJ_X0_noticeWorth (nI s) (nI i) A1 J1 = FJ_X0_worthOf (29 + 4 * 0) (atF (A1 114) 6 (nI i)) (atF (A1 111) 6 (nI i)) (F_X0_isSaid (nI i) A1 J1) (F_X5_filmedWith 105 (nI i) (nI s) A1 J1) (atF (A1 10) 8 (nI s)) A1 J1 := rfl
    have fn : F_X0_noticeWorth (nI s) (nI i) A1 J1 = F_X0_worthOf (29 + 4 * 0) (atF (A1 114) 6 (nI i)) (atF (A1 111) 6 (nI i)) (F_X0_isSaid (nI i) A1 J1) (F_X5_filmedWith 105 (nI i) (nI s) A1 J1) (atF (A1 10) 8 (nI s)) A1 J1 := rfl
    rw [← jn, ← fn] at cm
    have s1e : S1_X12_films (nI f) (nI s) w B J' (nI i, B1, K1) = FJ_X12_callsMark (nI f) (nI i) 0 (nI s) (B1 137 (nI s).toNatClampNeg) B1 K1 := rfl
    have t138 : T_X0_film_j138 (nI s) w A JA (nI i, A1, J1) = T_X12_films_j145 (nI f) (nI s) w B J' (nI i, B1, K1) := by
      unfold T_X0_film_j138 T_X12_films_j145
      rw [tj]
      dsimp only
      rw [atF_v i6 (by omega), y.2.2.2.2.2.2.2.2 i hi2]
      rfl
    have so : S1_X0_film (nI s) w A JA (nI i, A1, J1) = F_X12_isSo 0 (T_X12_films_j145 (nI f) (nI s) w B J' (nI i, B1, K1)) B1 (S1_X12_films (nI f) (nI s) w B J' (nI i, B1, K1)) := by
      unfold S1_X0_film
      rw [tj, t138, s1e]
      exact cm.2.so
    have fr : Fr38 B1 (S2_X12_films (nI f) (nI s) w B J' (nI i, B1, K1)) := by
      unfold S2_X12_films
      exact isSo_f (k := 0) (by omega) (y.2.2.2.1 0 (by omega))
    have rj := r.j hn cm.1 fr
    by_cases k3 : S1_X0_film (nI s) w A JA (nI i, A1, J1) = 0
    · refine ⟨n - 1, (nI (i + 1), A1, FJ_X0_noticeWorth (nI s) (nI i) A1 J1), (nI (i + 1), S2_X12_films (nI f) (nI s) w B J' (nI i, B1, K1), S3_X12_films (nI f) (nI s) w B J' (nI i, B1, K1)), by omega, ?_, ?_, ⟨i + 1, by omega, rfl, rfl, rj⟩⟩
      · unfold B_X0_film_w14
        rw [tj]
        dsimp only
        rw [if_neg g1, if_pos w0, ew, if_neg k1, eu, if_neg (fun q => Int32.not_le.mpr k2 q), if_pos k3, nI_1]
      · unfold B_X12_films_w15
        dsimp only
        rw [if_neg g2, if_pos w0, if_neg (fun q => k1' (v1.symm.trans q)), if_neg (fun q => ne (v2.symm.trans (q.trans v1))), if_pos (v2.trans (mm2.mp k2)), if_pos (so.symm.trans k3), nI_1]
    · have s2e : S2_X0_film (nI s) w A JA (nI i, A1, J1) = u2 A1 110 i (A1 109 (6 * s + i)) := by
        unfold S2_X0_film
        rw [tj]
        dsimp only
        rw [ew, putF_v i6 (by omega)]
      have s5e : S5_X12_films (nI f) (nI s) w B J' (nI i, B1, K1) = u2 (S2_X12_films (nI f) (nI s) w B J' (nI i, B1, K1)) 160 (6 * f + i) (A1 109 (6 * s + i)) := by
        unfold S5_X12_films S4_X12_films
        dsimp only
        rw [cel48 hf s8 i6, cel6 hf i6, fr 165 _ (by omega), ← w1]
      have rs := rj.u (a := 110) (b := i) (r := 160) (c := 6 * f + i) (v := A1 109 (6 * s + i)) (v' := A1 109 (6 * s + i)) (rj.1.w_say (Or.inr (wv.2.resolve_left k1').1)) (by omega) (in6 (by omega) i6)
      refine ⟨n - 1, (nI (i + 1), u2 A1 110 i (A1 109 (6 * s + i)), FJ_X0_noticeWorth (nI s) (nI i) A1 J1), (nI (i + 1), u2 (S2_X12_films (nI f) (nI s) w B J' (nI i, B1, K1)) 160 (6 * f + i) (A1 109 (6 * s + i)), S3_X12_films (nI f) (nI s) w B J' (nI i, B1, K1)), by omega, ?_, ?_, ⟨i + 1, by omega, rfl, rfl, rs⟩⟩
      · unfold B_X0_film_w14
        rw [tj, s2e]
        dsimp only
        rw [if_neg g1, if_pos w0, ew, if_neg k1, eu, if_neg (fun q => Int32.not_le.mpr k2 q), if_neg k3, nI_1]
      · unfold B_X12_films_w15
        rw [s5e]
        dsimp only
        rw [if_neg g2, if_pos w0, if_neg (fun q => k1' (v1.symm.trans q)), if_neg (fun q => ne (v2.symm.trans (q.trans v1))), if_pos (v2.trans (mm2.mp k2)), if_neg (fun q => k3 (so.trans q)), nI_1]
  have k2' : ¬ A1 110 i = -1 := fun q => k2 (mm2.mpr q)
  have k2'' : (0 : Int32) ≤ A1 110 i := Int32.not_lt.mp k2
  by_cases k3 : A1 109 (6 * s + i) = A1 110 i
  · refine ⟨n - 1, (nI (i + 1), A1, J1), (nI (i + 1), B1, K1), by omega, ?_, ?_, ⟨i + 1, by omega, rfl, rfl, r⟩⟩
    · unfold B_X0_film_w14 T_X0_film_j104
      dsimp only
      rw [if_neg g1, if_pos w0, ew, eu, if_neg k1, if_pos k2'', if_neg k1, if_neg k2, if_pos k3, nI_1]
    · unfold B_X12_films_w15
      dsimp only
      rw [if_neg g2, if_pos w0, if_neg (fun q => k1' (v1.symm.trans q)), if_pos (v2.trans (k3.symm.trans v1.symm)), nI_1]
  · have s3e : S3_X0_film (nI s) w A JA (nI i, A1, J1) = u2 (u2 A1 109 (6 * s + i) (A1 110 i)) 105 2 (A1 105 2 + 1) := by
      unfold S3_X0_film
      dsimp only
      have ix : nI s * 6 + nI i = nI (6 * s + i) := by
        rw [show (6 : Int32) = nI 6 from rfl, nI_mul, nI_add, show s * 6 + i = 6 * s + i by omega]
      rw [eu, ix, putF_v (by omega) (by omega), u2_n _ _ (show ¬ ((105 : Nat) = 109 ∧ 2 = 6 * s + i) by omega)]
    have s7e : S7_X12_films (nI f) (nI s) w B J' (nI i, B1, K1) = u2 (u2 B1 165 (48 * f + (6 * s + i)) (A1 110 i)) 157 f (A1 105 2 + 1) := by
      unfold S7_X12_films S6_X12_films
      dsimp only
      rw [cel48 hf s8 i6, cel6 hf i6, nI_clamp (by omega), ← u1, u2_n _ _ (show ¬ ((157 : Nat) = 165 ∧ f = 48 * f + (6 * s + i)) by omega), sc.1.2.2.1]
    have ra := r.u (a := 109) (b := 6 * s + i) (r := 165) (c := 48 * f + (6 * s + i)) (v := A1 110 i) (v' := A1 110 i) (sc.w_way i6 (Or.inr ⟨sv.2.1.resolve_left k2', hi2⟩)) (by omega) (in48 (by omega))
    have rb := ra.u (a := 105) (b := 2) (r := 157) (c := f) (v := A1 105 2 + 1) (v' := A1 105 2 + 1) ra.1.w_chg (by omega) (in1 (by omega))
    refine ⟨n - 1, (nI (i + 1), u2 (u2 A1 109 (6 * s + i) (A1 110 i)) 105 2 (A1 105 2 + 1), J1), (nI (i + 1), u2 (u2 B1 165 (48 * f + (6 * s + i)) (A1 110 i)) 157 f (A1 105 2 + 1), K1), by omega, ?_, ?_, ⟨i + 1, by omega, rfl, rfl, rb⟩⟩
    · unfold B_X0_film_w14 T_X0_film_j104
      rw [s3e]
      dsimp only
      rw [if_neg g1, if_pos w0, ew, eu, if_neg k1, if_pos k2'', if_neg k1, if_neg k2, if_neg k3, nI_1]
    · unfold B_X12_films_w15
      rw [s7e]
      dsimp only
      rw [if_neg g2, if_pos w0, if_neg (fun q => k1' (v1.symm.trans q)), if_neg (fun q => k3 (v2.symm.trans (q.trans v1)).symm), if_neg (fun q => k2' (v2.symm.trans q)), nI_1]
