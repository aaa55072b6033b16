/-! the class reads a text: it ends, and leaves what it must -/
/-- what the reader's own needs look at -/
def dpR (a b : Nat) : Prop := a < 41 ∨ 85 < a ∨ a = 43 ∨ a = 46 ∨ a = 48 ∨ a = 53 ∨ ((a = 69 ∨ a = 73 ∨ a = 77) ∧ b = 0)
def KD (I I' : SI) : Prop := ∀ a b, dpR a b → I' a b = I a b
theorem KD.rf (I : SI) : KD I I := fun _ _ _ => rfl
theorem KD.tr {I I1 I2 : SI} (h : KD I I1) (h2 : KD I1 I2) : KD I I2 := fun a b z => (h2 a b z).trans (h a b z)
theorem KD.u {I I1 : SI} {a b : Nat} {v : Int32} (h : KD I I1) (ha : ¬ dpR a b) : KD I (u2 I1 a b v) := fun c d z => (u2_n _ _ (fun q => ha (by rw [← q.1, ← q.2]; exact z))).trans (h c d z)
theorem KD.r {I I1 : SI} {a b : Nat} {v : Int32} (h : KD I I1) (ha : a = 41 ∨ a = 42 ∨ a = 81 ∨ a = 84 ∨ a = 85 ∨ a = 70 ∨ a = 71 ∨ a = 74 ∨ a = 75 ∨ a = 78 ∨ a = 79) : KD I (u2 I1 a b v) := h.u (by unfold dpR; omega)
theorem KD.p {I I1 : SI} {r len : Nat} {i x : Int32} (h : KD I I1) (ha : r = 84 ∨ r = 85 ∨ r = 68) : KD I (putF I1 r len i x) := fun c d z => (putF_n (by unfold dpR at z; omega)).trans (h c d z)
def B01 (x : Int32) : Prop := x = 0 ∨ x = 1
def TK (I : SI) : Prop := inR (I 81 2) 701 ∧ inR (I 81 3) 702
def PM (I : SI) : Prop := inR (I 43 0) 9 ∧ inR (I 48 0) 9 ∧ inR (I 53 0) 9
def PD (I : SI) : Prop := PM I ∧ inR (I 43 1) 9 ∧ inR (I 48 1) 9 ∧ inR (I 53 1) 9 ∧ (∀ b, b < 8 → inR (I 46 b) 7) ∧ B01 (I 69 0) ∧ B01 (I 73 0) ∧ B01 (I 77 0)
theorem PD.kd {I I1 : SI} (h : PD I) (k : KD I I1) : PD I1 := by
  obtain ⟨⟨m0, m1, m2⟩, s0, s1, s2, r, l0, l1, l2⟩ := h
  refine ⟨⟨by rw [k 43 0 (by unfold dpR; omega)]; exact m0, by rw [k 48 0 (by unfold dpR; omega)]; exact m1, by rw [k 53 0 (by unfold dpR; omega)]; exact m2⟩, by rw [k 43 1 (by unfold dpR; omega)]; exact s0, by rw [k 48 1 (by unfold dpR; omega)]; exact s1, by rw [k 53 1 (by unfold dpR; omega)]; exact s2, fun b z => by rw [k 46 b (by unfold dpR; omega)]; exact r b z, by rw [k 69 0 (by unfold dpR; omega)]; exact l0, by rw [k 73 0 (by unfold dpR; omega)]; exact l1, by rw [k 77 0 (by unfold dpR; omega)]; exact l2⟩
theorem KD.kp {I I1 : SI} (h : KD I I1) : KP 41 85 I I1 := fun a b z => h a b (by unfold dpR; omega)
/-- changes the place of the tokens alone -/
def KS (I I' : SI) : Prop := ∀ a b, a ≠ 81 → I' a b = I a b
theorem KS.rf (I : SI) : KS I I := fun _ _ _ => rfl
theorem KS.tr {I I1 I2 : SI} (h : KS I I1) (h2 : KS I1 I2) : KS I I2 := fun a b z => (h2 a b z).trans (h a b z)
theorem KS.u {I I1 : SI} {b : Nat} {v : Int32} (h : KS I I1) : KS I (u2 I1 81 b v) := fun c d z => (u2_n _ _ (fun q => z q.1)).trans (h c d z)
theorem KS.kd {I I1 : SI} (h : KS I I1) : KD I I1 := fun a b z => h a b (fun q => by unfold dpR at z; omega)
theorem TK.u {I : SI} {a b : Nat} {v : Int32} (h : TK I) (hb : ¬ (a = 81 ∧ (b = 2 ∨ b = 3))) : TK (u2 I a b v) := by
  have e2 : u2 I a b v 81 2 = I 81 2 := u2_n _ _ (by omega)
  have e3 : u2 I a b v 81 3 = I 81 3 := u2_n _ _ (by omega)
  exact ⟨by rw [e2]; exact h.1, by rw [e3]; exact h.2⟩
theorem TK.p {I : SI} {r len : Nat} {i x : Int32} (h : TK I) (hb : r ≠ 81) : TK (putF I r len i x) := by
  have e : ∀ b, putF I r len i x 81 b = I 81 b := fun b => putF_n (fun q => hb q.symm)
  exact ⟨by rw [e]; exact h.1, by rw [e]; exact h.2⟩
/-- one sign further -/
theorem TK.nx {I : SI} (h : TK I) (c : ¬ I 81 2 ≤ I 81 3) : TK (u2 I 81 3 (I 81 3 + 1)) ∧ inR (I 81 3 + 1) 701 ∧ (I 81 3 + 1).toNatClampNeg = (I 81 3).toNatClampNeg + 1 ∧ (I 81 3).toNatClampNeg < (I 81 2).toNatClampNeg := by
  obtain ⟨i, hi, e1⟩ := h.2.n
  obtain ⟨j, hj, e2⟩ := h.1.n
  have hlt : i < j := by
    by_cases q : j ≤ i
    · exact absurd (show I 81 2 ≤ I 81 3 by rw [e1, e2]; exact nI_le q (by omega)) c
    · omega
  have z : inR (I 81 3) 700 := by rw [e1]; exact inR_nI (by omega) (by decide)
  have k := cn_s (N := 700) (by decide) z
  have f2 : u2 I 81 3 (I 81 3 + 1) 81 2 = I 81 2 := u2_n _ _ (by omega)
  have f3 : u2 I 81 3 (I 81 3 + 1) 81 3 = I 81 3 + 1 := u2_s _ _ _ _
  refine ⟨⟨by rw [f2]; exact h.1, by rw [f3]; exact k.1.le (by decide)⟩, k.1, k.2, ?_⟩
  rw [e1, e2, nI_clamp (by omega), nI_clamp (by omega)]
  exact hlt
theorem word_C {I : SI} {J : SJ} (h : TK I) : H_X8_word I J ∧ TK (FI_X8_word I J) ∧ KS I (FI_X8_word I J) := by
  have L := whl (f := B_X8_word_w16 I J) (s0 := ((0 : Int32), F_X8_signAt ((u2 I 81 6 0) 81 3) (u2 I 81 6 0) J, u2 I 81 6 0)) (fun s => TK s.2.2 ∧ KS I s.2.2 ∧ s.2.2 81 2 = I 81 2) (fun r => TK r.2.2 ∧ KS I r.2.2) (fun s => (I 81 2).toNatClampNeg - (s.2.2 81 3).toNatClampNeg) ⟨h.u (by omega), (KS.rf I).u, (show u2 I 81 6 0 81 2 = I 81 2 from u2_n _ _ (by omega))⟩ (by
    have := h.1.2
    show (I 81 2).toNatClampNeg - _ < 800
    omega) (fun s s' hs hf => by
    obtain ⟨c, h2⟩ := inl_of hf
    obtain ⟨_, h3⟩ := inl_of h2
    cases h3
    have t4 : TK (S4_X8_word I J s) := by unfold S4_X8_word; exact hs.1.u (by omega)
    have e2 : S4_X8_word I J s 81 2 = s.2.2 81 2 := by unfold S4_X8_word; exact u2_n _ _ (by omega)
    have e3 : S4_X8_word I J s 81 3 = s.2.2 81 3 := by unfold S4_X8_word; exact u2_n _ _ (by omega)
    have k := t4.nx (by rw [e2, e3]; exact c)
    have f3 : u2 (S4_X8_word I J s) 81 3 (S4_X8_word I J s 81 3 + 1) 81 3 = S4_X8_word I J s 81 3 + 1 := u2_s _ _ _ _
    refine ⟨⟨k.1, ?_, (show u2 (S4_X8_word I J s) 81 3 (S4_X8_word I J s 81 3 + 1) 81 2 = S4_X8_word I J s 81 2 from u2_n _ _ (by omega)).trans (e2.trans hs.2.2)⟩, ?_⟩
    · refine KS.u ?_
      unfold S4_X8_word
      exact hs.2.1.u
    · show (I 81 2).toNatClampNeg - (u2 (S4_X8_word I J s) 81 3 (S4_X8_word I J s 81 3 + 1) 81 3).toNatClampNeg < (I 81 2).toNatClampNeg - (s.2.2 81 3).toNatClampNeg
      have q := k.2.2.2
      rw [e2, e3, hs.2.2] at q
      rw [f3, k.2.2.1, e3]
      omega) (fun s r hs hf => by
    unfold B_X8_word_w16 at hf
    repeat' split at hf
    all_goals cases hf
    all_goals exact ⟨hs.1, hs.2.1⟩)
  have t1 : TK (S1_X8_word I J) ∧ KS I (S1_X8_word I J) := by
    unfold S1_X8_word F_X8_word_w16
    exact L.2.2 _
  have M := whc (f := B_X8_word_w90 I J) (x0 := u2 (S1_X8_word I J) 81 5 (T_X8_word_j85 I J)) 23 (by decide) (fun x => TK x ∧ KS I x) (fun r => TK r.2 ∧ KS I r.2) ⟨t1.1.u (by omega), t1.2.u⟩ (fun e x s' he hx hf => by
    obtain ⟨c, h2⟩ := inl_of hf
    refine ⟨cn_lt (by decide) he (show inR (23 : Int32) 24 from ⟨rfl, by decide⟩) c, ?_⟩
    repeat' split at h2
    all_goals cases h2
    all_goals exact ⟨rfl, hx.1.u (by omega), hx.2.u⟩) (fun e x r he hx hf => by
    unfold B_X8_word_w90 at hf
    repeat' split at hf
    all_goals cases hf
    all_goals exact hx)
  refine ⟨?_, ?_⟩
  · unfold H_X8_word
    exact ⟨L.1, M.1, fun n s hn c _ => cn_lt (by decide) (M.2.1 n s hn).1 (show inR (23 : Int32) 24 from ⟨rfl, by decide⟩) c⟩
  · unfold FI_X8_word F_X8_word_w90
    exact M.2.2 _
theorem numb_C {I : SI} {J : SJ} (h : TK I) : H_X8_number I J ∧ TK (FI_X8_number I J) ∧ KS I (FI_X8_number I J) := by
  have L := whl (f := B_X8_number_w14 I J) (s0 := (F_X8_signAt ((u2 I 81 6 0) 81 3) (u2 I 81 6 0) J, u2 I 81 6 0)) (fun s => TK s.2 ∧ KS I s.2 ∧ s.2 81 2 = I 81 2) (fun r => TK r.2 ∧ KS I r.2) (fun s => (I 81 2).toNatClampNeg - (s.2 81 3).toNatClampNeg) ⟨h.u (by omega), (KS.rf I).u, (show u2 I 81 6 0 81 2 = I 81 2 from u2_n _ _ (by omega))⟩ (by
    have := h.1.2
    show (I 81 2).toNatClampNeg - _ < 800
    omega) (fun s s' hs hf => by
    obtain ⟨c, h2⟩ := inl_of hf
    obtain ⟨_, h3⟩ := inl_of h2
    cases h3
    have kS : KS I (S3_X8_number I J s) := by
      unfold S3_X8_number
      exact hs.2.1.u.u
    have e2 : S3_X8_number I J s 81 2 = s.2 81 2 := by unfold S3_X8_number; exact (u2_n _ _ (by omega)).trans (u2_n _ _ (by omega))
    have t4 : TK (u2 s.2 81 6 (minI ((((s.2 81 6) * 10) + s.1) - 48) 1000000)) := hs.1.u (by omega)
    have g2 : (u2 s.2 81 6 (minI ((((s.2 81 6) * 10) + s.1) - 48) 1000000)) 81 2 = s.2 81 2 := u2_n _ _ (by omega)
    have g3 : (u2 s.2 81 6 (minI ((((s.2 81 6) * 10) + s.1) - 48) 1000000)) 81 3 = s.2 81 3 := u2_n _ _ (by omega)
    have k := t4.nx (by rw [g2, g3]; exact c)
    refine ⟨⟨by unfold S3_X8_number; exact k.1, kS, e2.trans hs.2.2⟩, ?_⟩
    show (I 81 2).toNatClampNeg - (S3_X8_number I J s 81 3).toNatClampNeg < (I 81 2).toNatClampNeg - (s.2 81 3).toNatClampNeg
    have f3 : S3_X8_number I J s 81 3 = (u2 s.2 81 6 (minI ((((s.2 81 6) * 10) + s.1) - 48) 1000000)) 81 3 + 1 := by unfold S3_X8_number; exact u2_s _ _ _ _
    have q := k.2.2.2
    rw [g2, g3, hs.2.2] at q
    rw [f3, k.2.2.1, g3]
    omega) (fun s r hs hf => by
    unfold B_X8_number_w14 at hf
    repeat' split at hf
    all_goals cases hf
    all_goals exact ⟨hs.1, hs.2.1⟩)
  have t1 : TK (S1_X8_number I J) ∧ KS I (S1_X8_number I J) := by
    unfold S1_X8_number F_X8_number_w14
    exact L.2.2 _
  refine ⟨?_, ?_⟩
  · unfold H_X8_number
    exact L.1
  · unfold FI_X8_number
    exact ⟨t1.1.u (by omega), t1.2.u⟩
theorem sign_no {a : Int32} {I : SI} {J : SJ} (h : 0 ≤ F_X8_signAt a I J) : ¬ I 81 2 ≤ a := by
  unfold F_X8_signAt at h
  by_cases c : a < 0
  · rw [if_pos c] at h; exact absurd h (by decide)
  · rw [if_neg c] at h
    by_cases c2 : I 81 2 ≤ a
    · rw [if_pos c2] at h; exact absurd h (by decide)
    · exact c2
theorem step_C {I : SI} {J : SJ} (h : TK I) : H_X8_step I J ∧ TK (FI_X8_step I J) ∧ KS I (FI_X8_step I J) := by
  have L := whl (f := B_X8_step_w17 I J) (s0 := (F_X8_signAt (I 81 3) I J, I)) (fun s => TK s.2 ∧ KS I s.2 ∧ s.2 81 2 = I 81 2) (fun r => TK r.2 ∧ KS I r.2) (fun s => (I 81 2).toNatClampNeg - (s.2 81 3).toNatClampNeg) ⟨h, KS.rf I, rfl⟩ (by
    have := h.1.2
    show (I 81 2).toNatClampNeg - _ < 800
    omega) (fun s s' hs hf => by
    obtain ⟨c, h2⟩ := inl_of hf
    have k := hs.1.nx c
    have q := k.2.2.2
    rw [hs.2.2] at q
    have f3 : u2 s.2 81 3 (s.2 81 3 + 1) 81 3 = s.2 81 3 + 1 := u2_s _ _ _ _
    have e : s'.2 = u2 s.2 81 3 (s.2 81 3 + 1) := by
      repeat' split at h2
      all_goals cases h2
      all_goals rfl
    refine ⟨⟨by rw [e]; exact k.1, by rw [e]; exact hs.2.1.u, by rw [e]; exact (u2_n _ _ (by omega)).trans hs.2.2⟩, ?_⟩
    show (I 81 2).toNatClampNeg - (s'.2 81 3).toNatClampNeg < (I 81 2).toNatClampNeg - (s.2 81 3).toNatClampNeg
    rw [e, f3, k.2.2.1]
    omega) (fun s r hs hf => by
    unfold B_X8_step_w17 at hf
    repeat' split at hf
    all_goals cases hf
    all_goals exact ⟨hs.1, hs.2.1⟩)
  have t0 : TK (F_X8_step_w17 I J (F_X8_signAt (I 81 3) I J, I)).2 ∧ KS I (F_X8_step_w17 I J (F_X8_signAt (I 81 3) I J, I)).2 := by
    unfold F_X8_step_w17
    exact L.2.2 _
  have t1 : TK (S1_X8_step I J) ∧ KS I (S1_X8_step I J) := by
    unfold S1_X8_step
    exact ⟨t0.1.u (by omega), t0.2.u⟩
  have nb := numb_C (J := J) t1.1
  have wd := word_C (J := J) t1.1
  refine ⟨?_, ?_⟩
  · unfold H_X8_step
    exact ⟨fun _ => L.1, fun _ _ _ _ => nb.1, fun _ _ _ => wd.1⟩
  · unfold FI_X8_step
    by_cases c0 : I 81 4 = 0
    · rw [if_pos c0]
      by_cases c1 : (0 : Int32) ≤ F_X8_signAt (S1_X8_step I J 81 3) (S1_X8_step I J) J
      · rw [if_pos c1]
        have k := t1.1.nx (sign_no c1)
        have f2 : S5_X8_step I J 81 2 = S1_X8_step I J 81 2 := by unfold S5_X8_step; exact (u2_n _ _ (by omega)).trans (u2_n _ _ (by omega))
        have f3 : S5_X8_step I J 81 3 = S1_X8_step I J 81 3 + 1 := by unfold S5_X8_step; exact (u2_n _ _ (by omega)).trans (u2_s _ _ _ _)
        have k5 : KS I (S5_X8_step I J) := by unfold S5_X8_step; exact t1.2.u.u
        have g : ∀ v : Int32, inR v 702 → TK (u2 (S5_X8_step I J) 81 3 v) ∧ KS I (u2 (S5_X8_step I J) 81 3 v) := fun v hv => by
          have e2 : u2 (S5_X8_step I J) 81 3 v 81 2 = S1_X8_step I J 81 2 := (u2_n _ _ (by omega)).trans f2
          have e3 : u2 (S5_X8_step I J) 81 3 v 81 3 = v := u2_s _ _ _ _
          exact ⟨⟨by rw [e2]; exact t1.1.1, by rw [e3]; exact hv⟩, k5.u⟩
        repeat' split
        · exact g _ (by rw [f3, Int32.add_zero]; exact k.2.1.le (by decide))
        · exact g _ (by rw [f3]; exact (cn_s (N := 701) (by decide) k.2.1).1)
        · exact nb.2.imp_right (fun z => t1.2.tr z)
        · exact wd.2.imp_right (fun z => t1.2.tr z)
      · rw [if_neg c1]
        exact ⟨t1.1.u (by omega), t1.2.u⟩
    · rw [if_neg c0]
      exact ⟨h, KS.rf I⟩
/-- the reader's own -/
def PI (I : SI) : Prop := TK I ∧ PD I
theorem PI.kd {I I1 : SI} (h : PI I) (t : TK I1) (k : KD I I1) : PI I1 := ⟨t, h.2.kd k⟩
theorem fail_C {w : Int32} {I : SI} {J : SJ} (h : PI I) (hw : w ≠ 0) : PI (FI_X4_fail w I J) ∧ KP 41 85 I (FI_X4_fail w I J) ∧ FI_X4_fail w I J 41 1 ≠ 0 ∧ FI_X4_fail w I J 41 6 = I 41 6 ∧ FI_X4_fail w I J 81 5 = I 81 5 := by
  unfold FI_X4_fail
  by_cases c : I 41 1 = 0
  · rw [if_pos c]
    have k : KD I (u2 (u2 (u2 I 41 1 w) 41 2 ((u2 I 41 1 w) 81 7)) 81 4 1) := (((KD.rf I).r (by omega)).r (by omega)).r (by omega)
    refine ⟨h.kd (((h.1.u (by omega)).u (by omega)).u (by omega)) k, k.kp, ?_, ?_, ?_⟩
    · have e : (u2 (u2 (u2 I 41 1 w) 41 2 ((u2 I 41 1 w) 81 7)) 81 4 1) 41 1 = w := (u2_n _ _ (by omega)).trans ((u2_n _ _ (by omega)).trans (u2_s _ _ _ _))
      rw [e]
      exact hw
    · exact (u2_n _ _ (by omega)).trans ((u2_n _ _ (by omega)).trans (u2_n _ _ (by omega)))
    · exact (u2_n _ _ (by omega)).trans ((u2_n _ _ (by omega)).trans (u2_n _ _ (by omega)))
  · rw [if_neg c]
    exact ⟨h, KP.rf I, c, rfl, rfl⟩
/-- what a step of the reader gives -/
def GO (I I' : SI) : Prop := PI I' ∧ KP 41 85 I I'
theorem GO.rf {I : SI} (h : PI I) : GO I I := ⟨h, KP.rf I⟩
theorem GO.tr {I I1 I2 : SI} (h : GO I I1) (h2 : GO I1 I2) : GO I I2 := ⟨h2.1, h.2.tr h2.2⟩
theorem stp {I : SI} {J : SJ} (h : PI I) : H_X8_step I J ∧ GO I (FI_X8_step I J) ∧ FI_X8_step I J 41 = I 41 := by
  have q := step_C (J := J) h.1
  exact ⟨q.1, ⟨h.kd q.2.1 q.2.2.kd, q.2.2.kd.kp⟩, funext fun b => q.2.2 41 b (by decide)⟩
theorem fl {w : Int32} {I : SI} {J : SJ} (h : PI I) (hw : w ≠ 0) : GO I (FI_X4_fail w I J) := ⟨(fail_C h hw).1, (fail_C h hw).2.1⟩
theorem bgn_C {a0 : Int32} {I : SI} {J : SJ} (h : PI I) : H_X4_begin a0 I J ∧ GO I (FI_X4_begin a0 I J) := by
  have f := fl (w := 2) (J := J) h (by decide)
  refine ⟨?_, ?_⟩
  · unfold H_X4_begin
    exact ⟨fun _ => (stp h).1, fun _ => (stp f.1).1⟩
  · unfold FI_X4_begin
    split
    · exact (stp h).2.1
    · exact f.tr (stp f.1).2.1
theorem fresh_C {k : Nat} {I : SI} {J : SJ} (h : PI I) : H_X4_fresh k I J ∧ GO I (FI_X4_fresh k I J) := by
  have f := fun (w : Int32) (hw : w ≠ 0) => fl (w := w) (J := J) h hw
  refine ⟨?_, ?_⟩
  · unfold H_X4_fresh
    exact ⟨fun _ _ => (stp h).1, fun _ _ => (stp (f 3 (by decide)).1).1, fun _ => (stp (f 1 (by decide)).1).1⟩
  · unfold FI_X4_fresh
    repeat' split
    · exact (stp h).2.1
    · exact (f 3 (by decide)).tr (stp (f 3 (by decide)).1).2.1
    · exact (f 1 (by decide)).tr (stp (f 1 (by decide)).1).2.1
theorem find_C {k : Nat} {I : SI} {J : SJ} (h : PI I) : GO I (FI_X4_find k I J) := by
  unfold FI_X4_find
  repeat' split
  · exact GO.rf h
  · exact fl h (by decide)
  · exact fl h (by decide)
theorem num_C {a0 a1 : Int32} {I : SI} {J : SJ} (h : PI I) : H_X4_number a0 a1 I J ∧ GO I (FI_X4_number a0 a1 I J) ∧ (FI_X4_number a0 a1 I J 41 1 = 0 → ¬ F_X4_number a0 a1 I J < a0 ∧ F_X4_number a0 a1 I J ≤ a1) := by
  have f := fun (w : Int32) (hw : w ≠ 0) => fail_C (w := w) (J := J) h hw
  have s := fun (w : Int32) (hw : w ≠ 0) => stp (J := J) (f w hw).1
  refine ⟨?_, ?_, ?_⟩
  · unfold H_X4_number
    exact ⟨fun _ _ => (s 2 (by decide)).1, fun _ _ _ => (stp h).1, fun _ _ _ => (s 2 (by decide)).1, fun _ => (s 1 (by decide)).1⟩
  · unfold FI_X4_number
    repeat' split
    · exact (fl h (by decide)).tr (s 2 (by decide)).2.1
    · exact (stp h).2.1
    · exact (fl h (by decide)).tr (s 2 (by decide)).2.1
    · exact (fl h (by decide)).tr (s 1 (by decide)).2.1
  · have no : ∀ (w : Int32) (hw : w ≠ 0), ¬ FI_X8_step (FI_X4_fail w I J) J 41 1 = 0 := fun w hw e => (f w hw).2.2.1 (by rw [← (s w hw).2.2]; exact e)
    unfold FI_X4_number F_X4_number
    by_cases c0 : I 81 5 = 2
    · rw [if_pos c0, if_pos c0]
      by_cases c1 : I 81 6 < a0
      · rw [if_pos c1]
        exact fun e => absurd e (no 2 (by decide))
      · rw [if_neg c1, if_neg c1]
        by_cases c2 : I 81 6 ≤ a1
        · rw [if_pos c2, if_pos c2]
          exact fun _ => ⟨c1, c2⟩
        · rw [if_neg c2]
          exact fun e => absurd e (no 2 (by decide))
    · rw [if_neg c0]
      exact fun e => absurd e (no 1 (by decide))
theorem putF_in {I : SI} {r len n N : Nat} {i x : Int32} (h : ∀ b, b < n → inR (I r b) N) (hx : inR x N) : ∀ b, b < n → inR (putF I r len i x r b) N := by
  intro b z
  unfold putF
  split
  · exact h b z
  · split
    · exact h b z
    · exact row_u (P := fun y => inR y N) h hx b z
theorem add_v {k : Nat} {a0 a1 a2 a3 : Int32} {I : SI} {J : SJ} : KP k (k + 4) I (FI_X7_add k a0 a1 a2 a3 I J) ∧ FI_X7_add k a0 a1 a2 a3 I J k 0 = I k 0 ∧ (inR (I k 0) 9 → inR (I k 1) 9 → inR (FI_X7_add k a0 a1 a2 a3 I J k 1) 9) ∧ ((∀ b, b < 8 → inR (I (k + 3) b) 7) → inR a2 7 → ∀ b, b < 8 → inR (FI_X7_add k a0 a1 a2 a3 I J (k + 3) b) 7) := by
  have e1 : ∀ b, S3_X7_add k a0 a1 a2 a3 I J k b = I k b := fun b => by
    unfold S3_X7_add S2_X7_add S1_X7_add
    exact (putF_n (by omega)).trans ((putF_n (by omega)).trans ((putF_n (by omega)).trans (putF_n (by omega))))
  have k3 : KP k (k + 4) I (S3_X7_add k a0 a1 a2 a3 I J) := by
    unfold S3_X7_add S2_X7_add S1_X7_add
    exact ((((KP.rf I).p (by omega)).p (by omega)).p (by omega)).p (by omega)
  unfold FI_X7_add
  by_cases c : I k 0 ≤ I k 1
  · rw [if_pos c]
    exact ⟨KP.rf I, rfl, fun _ h => h, fun h _ => h⟩
  · rw [if_neg c]
    unfold S4_X7_add
    refine ⟨k3.u (by omega), (u2_n _ _ (by omega)).trans (e1 0), fun h0 h1 => ?_, fun h hx b z => ?_⟩
    · rw [u2_s, e1]
      exact (cn_s (N := 8) (by decide) (cn_lt (N := 8) (by decide) h1 h0 c)).1
    · have e : u2 (S3_X7_add k a0 a1 a2 a3 I J) k 1 (S3_X7_add k a0 a1 a2 a3 I J k 1 + 1) (k + 3) b = S3_X7_add k a0 a1 a2 a3 I J (k + 3) b := u2_n _ _ (by omega)
      rw [e]
      have e3 : S3_X7_add k a0 a1 a2 a3 I J (k + 3) b = S2_X7_add k a0 a1 a2 a3 I J (k + 3) b := by unfold S3_X7_add; exact putF_n (by omega)
      rw [e3]
      unfold S2_X7_add
      refine putF_in (fun d y => ?_) hx b z
      have e4 : S1_X7_add k a0 a1 a2 a3 I J (k + 3) d = I (k + 3) d := by unfold S1_X7_add; exact (putF_n (by omega)).trans (putF_n (by omega))
      rw [e4]
      exact h d y
theorem add_C {k : Nat} {a0 a1 a2 a3 : Int32} {I : SI} {J : SJ} (h : PI I) (hk : k = 43 ∨ k = 48 ∨ k = 53 ∨ k = 58 ∨ k = 63) (h2 : k = 43 → inR a2 7) : GO I (FI_X7_add k a0 a1 a2 a3 I J) := by
  obtain ⟨⟨t2, t3⟩, ⟨m0, m1, m2⟩, s0, s1, s2, r, l0, l1, l2⟩ := h
  have v := add_v (k := k) (a0 := a0) (a1 := a1) (a2 := a2) (a3 := a3) (I := I) (J := J)
  refine ⟨⟨⟨by rw [v.1 81 2 (by omega)]; exact t2, by rw [v.1 81 3 (by omega)]; exact t3⟩, ⟨?_, ?_, ?_⟩, ?_, ?_, ?_, ?_, by rw [v.1 69 0 (by omega)]; exact l0, by rw [v.1 73 0 (by omega)]; exact l1, by rw [v.1 77 0 (by omega)]; exact l2⟩, v.1.w (by omega) (by omega)⟩
  all_goals rcases hk with rfl | rfl | rfl | rfl | rfl
  all_goals first
    | exact v.2.2.1 (by assumption) (by assumption)
    | exact v.2.2.2 r (h2 rfl)
    | (rw [v.2.1]; assumption)
    | (rw [v.1 _ _ (by omega)]; assumption)
    | (intro b z; rw [v.1 _ _ (by omega)]; exact r b z)
