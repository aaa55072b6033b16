/-! the class: what every call needs and leaves -/
def CI (I : SI) : Prop := CL I ∧ CK I ∧ PM I
/-- what it looks at -/
def dpI (a b : Nat) : Prop := a = 3 ∨ a = 6 ∨ a = 8 ∨ a = 13 ∨ a = 43 ∨ a = 48 ∨ a = 53 ∨ a = 116 ∨ a = 117 ∨ (a = 0 ∧ b = 1)
def KI (I I' : SI) : Prop := ∀ a b, dpI a b → I' a b = I a b
theorem KI.rf (I : SI) : KI I I := fun _ _ _ => rfl
theorem KI.tr {I I1 I2 : SI} (h : KI I I1) (h2 : KI I1 I2) : KI I I2 := fun a b z => (h2 a b z).trans (h a b z)
theorem KI.k {p q : Nat} {I I1 : SI} (h : KP p q I I1) (hp : 53 < p) (hq : q < 116 ∨ 117 < p) : KI I I1 := fun a b z => h a b (by unfold dpI at z; omega)
theorem KI.d {I I1 : SI} (h : KP 104 115 I I1) : KI I I1 := KI.k h (by decide) (by decide)
theorem KI.o {I I1 : SI} (h : KO I I1) : KI I I1 := fun a b z => h a b (by unfold dpI at z; omega)
theorem KI.u {I I1 : SI} {a b : Nat} {v : Int32} (h : KI I I1) (q : ¬ dpI a b) : KI I (u2 I1 a b v) := fun c d z => (u2_n _ _ (fun y => q (by rw [← y.1, ← y.2]; exact z))).trans (h c d z)
theorem KI.p {I I1 : SI} {r len : Nat} {i x : Int32} (h : KI I I1) (q : ∀ b, ¬ dpI r b) : KI I (putF I1 r len i x) := fun c d z => (putF_n (fun y => q d (by rw [← y]; exact z))).trans (h c d z)
theorem CI.ki {I I1 : SI} (h : CI I) (k : KI I I1) : CI I1 := by
  obtain ⟨⟨⟨c1, c2, c3⟩, r⟩, ⟨s0, s1, s2⟩, ⟨m0, m1, m2⟩⟩ := h
  have e : ∀ a b, a = 3 ∨ a = 6 ∨ a = 8 ∨ a = 13 ∨ a = 43 ∨ a = 48 ∨ a = 53 ∨ a = 116 ∨ a = 117 → I1 a b = I a b := fun a b z => k a b (by unfold dpI; omega)
  exact ⟨⟨⟨by rw [e 3 1 (by omega)]; exact c1, by rw [e 8 1 (by omega)]; exact c2, by rw [e 13 1 (by omega)]; exact c3⟩, fun b z => by rw [e 6 b (by omega)]; exact r b z⟩, ⟨by rw [e 116 0 (by omega)]; exact s0, by rw [e 116 1 (by omega)]; exact s1, fun b z => by rw [e 117 b (by omega)]; exact s2 b z⟩, ⟨by rw [e 43 0 (by omega)]; exact m0, by rw [e 48 0 (by omega)]; exact m1, by rw [e 53 0 (by omega)]; exact m2⟩⟩
theorem KI.t {I I1 : SI} (k : KI I I1) : I1 0 1 = I 0 1 := k 0 1 (by unfold dpI; omega)
theorem cy_K {p q r : Nat} {I I1 : SI} {X : Nat → Int32} (h : KP p q I I1) (hr : p ≤ r ∧ r ≤ q) : KP p q I (fun a => if a = r then X else I1 a) := fun a b z => by
  show (if a = r then X else I1 a) b = I a b
  rw [if_neg (by omega)]
  exact h a b z
theorem undoadd_K {a0 a1 a2 : Int32} {I : SI} {J : SJ} : KP 120 123 I (FI_X10_add a0 a1 a2 I J) := by
  have t : KP 120 123 I (T_X10_add_j60 a0 a1 a2 I J) := by
    unfold T_X10_add_j60
    split
    · exact KP.rf I
    · unfold S7_X10_add
      refine cy_K ?_ (by decide)
      unfold S6_X10_add
      refine cy_K ?_ (by decide)
      unfold S5_X10_add
      refine cy_K ?_ (by decide)
      exact (KP.rf I).u (by decide)
  unfold FI_X10_add S4_X10_add S3_X10_add S2_X10_add S1_X10_add
  exact (((t.p (by decide)).p (by decide)).p (by decide)).u (by decide)
theorem plums_K {a0 a1 : Int32} {I : SI} {J : SJ} : KI I (FI_X11_plums a0 a1 I J) := by
  unfold FI_X11_plums S1_X11_plums
  repeat' split
  all_goals first
    | exact KI.rf I
    | exact (KI.k undoadd_K (by decide) (by decide)).p (fun b => by unfold dpI; omega)
theorem move_K {a0 a1 : Int32} {I : SI} {J : SJ} : KI I (FI_X11_move a0 a1 I J) := by
  unfold FI_X11_move
  repeat' split
  all_goals first
    | exact KI.rf I
    | exact (KI.k undoadd_K (by decide) (by decide)).p (fun b => by unfold dpI; omega)
theorem say_K {a0 a1 : Int32} {I : SI} {J : SJ} : KI I (FI_X11_sayFromNowOn a0 a1 I J) := by
  unfold FI_X11_sayFromNowOn
  split
  · exact KI.rf I
  · exact (KI.k undoadd_K (by decide) (by decide)).p (fun b => by unfold dpI; omega)
theorem tell_K {a0 a1 : Int32} {I : SI} {J : SJ} : KI I (FI_X11_tell a0 a1 I J) := by
  unfold FI_X11_tell
  repeat' split
  all_goals first
    | exact KI.rf I
    | exact say_K
theorem forget_K {a0 : Int32} {I : SI} {J : SJ} : KI I (FI_X11_forget a0 I J) := by
  unfold FI_X11_forget
  repeat' split
  all_goals first
    | exact KI.rf I
    | exact say_K
theorem go_K {a0 : Int32} {I : SI} {J : SJ} (h : CI I) : H_X11_go a0 I J ∧ KI I (FI_X11_go a0 I J) := by
  have g := go_C (a0 := a0) (J := J) h.1.1
  refine ⟨g.1, fun a b z => ?_⟩
  by_cases q : a = 116 ∨ a = 117
  · rcases q with rfl | rfl
    · rw [g.2.2.1]
    · rw [g.2.2.2]
  · exact g.2.1 a b (by unfold dpI at z; omega)
theorem take_K {I : SI} {J : SJ} : KI I (FI_X10_takeBack 86 I J) := by
  have t : KI I (u2 I 120 0 (I 120 0 - 1)) := (KI.rf I).u (by unfold dpI; omega)
  unfold FI_X10_takeBack S1_X10_takeBack S2_X10_takeBack S3_X10_takeBack
  repeat' split
  all_goals first
    | exact KI.rf I
    | exact t.p (fun b => by unfold dpI; omega)
theorem undo_K {I : SI} {J : SJ} : KI I (FI_X11_undo I J) := by
  unfold FI_X11_undo
  split
  · exact take_K
  · exact take_K
theorem keep_K {I : SI} {J : SJ} : KI I (FI_X11_keep I J) := by
  unfold FI_X11_keep
  exact (KI.k (copy_K (k := 95)) (by decide) (by decide)).u (by unfold dpI; omega)
theorem back_K {I : SI} {J : SJ} : KI I (FI_X11_back I J) := by
  unfold FI_X11_back FI_X10_clear
  split
  · exact KI.rf I
  · exact (KI.k (copy_K (k := 86)) (by decide) (by decide)).u (by unfold dpI; omega)
theorem CI.set {I I1 : SI} (h : CI I) (k : ∀ a b, a ≠ 116 → a ≠ 117 → dpI a b → I1 a b = I a b) (c : CK I1) : CI I1 := by
  obtain ⟨⟨⟨c1, c2, c3⟩, r⟩, _, ⟨m0, m1, m2⟩⟩ := h
  have e : ∀ a b, a = 3 ∨ a = 6 ∨ a = 8 ∨ a = 13 ∨ a = 43 ∨ a = 48 ∨ a = 53 → I1 a b = I a b := fun a b z => k a b (by omega) (by omega) (by unfold dpI; omega)
  exact ⟨⟨⟨by rw [e 3 1 (by omega)]; exact c1, by rw [e 8 1 (by omega)]; exact c2, by rw [e 13 1 (by omega)]; exact c3⟩, fun b z => by rw [e 6 b (by omega)]; exact r b z⟩, c, ⟨by rw [e 43 0 (by omega)]; exact m0, by rw [e 48 0 (by omega)]; exact m1, by rw [e 53 0 (by omega)]; exact m2⟩⟩
theorem seen_C {a0 a1 a2 : Int32} {I : SI} {J : SJ} (h : CI I) (ha : inR a0 41) : CI (FI_X6_add a0 a1 a2 I J) ∧ FI_X6_add a0 a1 a2 I J 0 1 = I 0 1 := by
  unfold FI_X6_add
  by_cases c : I 116 0 < 24
  · rw [if_pos c]
    have k : KP 116 119 I (S3_X6_add a0 a1 a2 I J) := by
      unfold S3_X6_add S2_X6_add S1_X6_add
      exact ((((KP.rf I).p (by decide)).p (by decide)).p (by decide)).u (by decide)
    have e2 : ∀ b, S2_X6_add a0 a1 a2 I J 116 b = I 116 b := fun b => by
      unfold S2_X6_add S1_X6_add
      exact (putF_n (by decide)).trans ((putF_n (by decide)).trans (putF_n (by decide)))
    have z : inR (I 116 0) 24 := by
      obtain ⟨j, hj, e⟩ := h.2.1.1.n
      rw [e]
      refine inR_nI ?_ (by decide)
      rw [e] at c
      by_cases y : j = 24
      · rw [y] at c; exact absurd c (by decide)
      · omega
    refine ⟨h.set (fun a b y x w => k a b (by unfold dpI at w; omega)) ⟨?_, ?_, fun b y => ?_⟩, k 0 1 (by omega)⟩
    · have e : S3_X6_add a0 a1 a2 I J 116 0 = I 116 0 + 1 := by
        unfold S3_X6_add
        rw [u2_s, e2]
      rw [e]
      exact (cn_s (N := 24) (by decide) z).1
    · have e : S3_X6_add a0 a1 a2 I J 116 1 = I 116 1 := by
        unfold S3_X6_add
        exact (u2_n _ _ (by omega)).trans (e2 1)
      rw [e]
      exact h.2.1.2.1
    · have e : S3_X6_add a0 a1 a2 I J 117 b = putF I 117 24 (I 116 0) a0 117 b := by
        unfold S3_X6_add S2_X6_add S1_X6_add
        exact (u2_n _ _ (by omega)).trans ((putF_n (by decide)).trans (putF_n (by decide)))
      rw [e]
      exact putF_in (N := 41) h.2.1.2.2 ha b y
  · rw [if_neg c]
    exact ⟨h, rfl⟩
theorem see_C {a0 a1 a2 : Int32} {I : SI} {J : SJ} (h : CI I) : CI (FI_X11_see a0 a1 a2 I J) ∧ FI_X11_see a0 a1 a2 I J 0 1 = I 0 1 := by
  unfold FI_X11_see
  by_cases c1 : a0 < 1
  · rw [if_pos c1]; exact ⟨h, rfl⟩
  · rw [if_neg c1]
    by_cases c2 : (40 : Int32) < a0
    · rw [if_pos c2]; exact ⟨h, rfl⟩
    · rw [if_neg c2]
      have z : inR a0 41 := in_of (len := 41) (fun q => c1 (Int32.lt_trans q (by decide))) (fun q => c2 (Int32.lt_of_lt_of_le (show (40 : Int32) < nI 41 by decide) q)) (by decide)
      repeat' split
      · exact ⟨h, rfl⟩
      · exact seen_C h z
      · exact seen_C h z
theorem out_C {a0 : Int32} {I : SI} {J : SJ} (h : CI I) : CI (FI_X11_out a0 I J) ∧ FI_X11_out a0 I J 0 1 = I 0 1 := by
  unfold FI_X11_out
  repeat' split
  · exact ⟨h, rfl⟩
  · exact seen_C h cn_0
  · exact ⟨h, rfl⟩
theorem le_m1 {x : Int32} (h : x < 0) : x ≤ -1 := by
  rw [Int32.lt_iff_toInt_lt, show (0 : Int32).toInt = 0 from by decide] at h
  rw [Int32.le_iff_toInt_le, show (-1 : Int32).toInt = -1 from by decide]
  omega
theorem known_K {a0 : Int32} {I : SI} {J : SJ} (h : CI I) : CI (FI_X11_known a0 I J) ∧ FI_X11_known a0 I J 0 1 = I 0 1 := by
  unfold FI_X11_known
  by_cases c1 : a0 < -1
  · rw [if_pos c1]; exact ⟨h, rfl⟩
  · rw [if_neg c1]
    by_cases c2 : a0 ≤ I 116 0
    · rw [if_pos c2]
      have e0 : u2 I 116 1 a0 116 0 = I 116 0 := u2_n _ _ (by omega)
      have e7 : ∀ b, u2 I 116 1 a0 117 b = I 117 b := fun b => u2_n _ _ (by omega)
      refine ⟨h.set (fun a b y x w => u2_n _ _ (by omega)) ⟨by rw [e0]; exact h.2.1.1, ?_, fun b z => by rw [e7]; exact h.2.1.2.2 b z⟩, u2_n _ _ (by omega)⟩
      rw [u2_s]
      by_cases c3 : a0 < 0
      · refine .inl (Int32.le_antisymm ?_ (Int32.not_lt.mp c1))
        exact le_m1 c3
      · refine .inr ?_
        obtain ⟨j, hj, e⟩ := h.2.1.1.n
        rw [e] at c2
        exact (in_le (N := j) (by omega) c3 c2).le (by omega)
    · rw [if_neg c2]; exact ⟨h, rfl⟩
theorem fresh_PM {I I1 : SI} (h : PD I) (k : ∀ a, a = 43 ∨ a = 48 ∨ a = 53 → I1 a 0 = I a 0) : PM I1 := ⟨by rw [k 43 (by omega)]; exact h.1.1, by rw [k 48 (by omega)]; exact h.1.2.1, by rw [k 53 (by omega)]; exact h.1.2.2⟩
theorem text_C {a0 : Int32} {I : SI} {J : SJ} (h : CI I) (ht : inR (I 0 1) 701) : H_X11_text a0 I J ∧ CI (FI_X11_text a0 I J) ∧ FI_X11_text a0 I J 0 1 = (if a0 < 0 then I 0 1 else if a0 ≤ I 0 1 then 0 else I 0 1) := by
  have ha : ¬ a0 < 0 → a0 ≤ I 0 1 → inR a0 701 := fun c c2 => by
    obtain ⟨j, hj, e⟩ := ht.n
    rw [e] at c2
    exact (in_le (N := j) (by omega) c c2).le (by omega)
  have rd := fun (c : ¬ a0 < 0) (c2 : a0 ≤ I 0 1) => read_C (J := J) h.2.2 (ha c c2)
  have d0 := fun (c : ¬ a0 < 0) (c2 : a0 ≤ I 0 1) => show PD (u2 (FI_X4_read a0 I J) 0 1 0) ∧ KP 0 85 I (u2 (FI_X4_read a0 I J) 0 1 0) ∧ ∀ a b, a ≠ 0 → a < 41 → u2 (FI_X4_read a0 I J) 0 1 0 a b = I a b from ⟨by
    have e : ∀ a b, a ≠ 0 → u2 (FI_X4_read a0 I J) 0 1 0 a b = FI_X4_read a0 I J a b := fun a b z => u2_n _ _ (by omega)
    obtain ⟨⟨m0, m1, m2⟩, s0, s1, s2, r, l0, l1, l2⟩ := (rd c c2).2.1
    exact ⟨⟨by rw [e 43 0 (by omega)]; exact m0, by rw [e 48 0 (by omega)]; exact m1, by rw [e 53 0 (by omega)]; exact m2⟩, by rw [e 43 1 (by omega)]; exact s0, by rw [e 48 1 (by omega)]; exact s1, by rw [e 53 1 (by omega)]; exact s2, fun b z => by rw [e 46 b (by omega)]; exact r b z, by rw [e 69 0 (by omega)]; exact l0, by rw [e 73 0 (by omega)]; exact l1, by rw [e 77 0 (by omega)]; exact l2⟩, ((rd c c2).2.2.w (by decide) (by decide)).u (by decide), fun a b z y => (u2_n _ _ (by omega)).trans ((rd c c2).2.2 a b (by omega))⟩
  have cp := fun (c : ¬ a0 < 0) (c2 : a0 ≤ I 0 1) => copy9_C (J := J) (d0 c c2).1
  refine ⟨?_, ?_⟩
  · unfold H_X11_text
    exact ⟨fun c c2 => (rd c c2).1, fun c c2 _ => (cp c c2).1⟩
  · unfold FI_X11_text
    by_cases c : a0 < 0
    · rw [if_pos c, if_pos c]; exact ⟨h, rfl⟩
    · rw [if_neg c, if_neg c]
      by_cases c2 : a0 ≤ I 0 1
      · rw [if_pos c2, if_pos c2]
        have d := d0 c c2
        by_cases c3 : F_X4_read a0 I J = 0
        · rw [if_pos c3]
          refine ⟨⟨⟨⟨by rw [d.2.2 3 1 (by omega) (by omega)]; exact h.1.1.1, by rw [d.2.2 8 1 (by omega) (by omega)]; exact h.1.1.2.1, by rw [d.2.2 13 1 (by omega) (by omega)]; exact h.1.1.2.2⟩, fun b z => by rw [d.2.2 6 b (by omega) (by omega)]; exact h.1.2 b z⟩, h.2.1.kp d.2.1 (by omega), d.1.1⟩, u2_s _ _ _ _⟩
        · rw [if_neg c3]
          have k9 := cp c c2
          have op := open_K (k := 86) (a0 := 2) (I := FI_X9_copy 2 42 (u2 (FI_X4_read a0 I J) 0 1 0) J) (J := J)
          have k2 : KP 86 120 (FI_X9_copy 2 42 (u2 (FI_X4_read a0 I J) 0 1 0) J) (S2_X11_text a0 I J) := by
            unfold S2_X11_text S1_X11_text FI_X10_clear FI_X6_clear
            exact (((op.w (by decide) (by decide)).u (by decide)).u (by decide)).u (by decide)
          have v0 : S2_X11_text a0 I J 116 0 = 0 := by
            unfold S2_X11_text S1_X11_text FI_X10_clear FI_X6_clear
            exact (u2_n _ _ (by omega)).trans ((u2_n _ _ (by omega)).trans (u2_s _ _ _ _))
          have v1 : S2_X11_text a0 I J 116 1 = -1 := by
            unfold S2_X11_text S1_X11_text FI_X10_clear FI_X6_clear
            exact (u2_n _ _ (by omega)).trans (u2_s _ _ _ _)
          have v7 : ∀ b, S2_X11_text a0 I J 117 b = I 117 b := fun b => by
            unfold S2_X11_text S1_X11_text FI_X10_clear FI_X6_clear
            exact (u2_n _ _ (by omega)).trans ((u2_n _ _ (by omega)).trans ((u2_n _ _ (by omega)).trans ((op 117 b (by omega)).trans ((k9.2.2 117 b (by omega)).trans (d.2.1 117 b (by omega))))))
          have e6 : ∀ a b, ¬ (a = 0 ∧ b = 6) → u2 (S2_X11_text a0 I J) 0 6 0 a b = S2_X11_text a0 I J a b := fun a b z => u2_n _ _ z
          have cl : CL (u2 (S2_X11_text a0 I J) 0 6 0) := by
            obtain ⟨⟨c1, c4, c5⟩, r⟩ := k9.2.1
            have e : ∀ a b, a < 86 → a ≠ 0 → u2 (S2_X11_text a0 I J) 0 6 0 a b = FI_X9_copy 2 42 (u2 (FI_X4_read a0 I J) 0 1 0) J a b := fun a b z y => (e6 a b (by omega)).trans (k2 a b (by omega))
            exact ⟨⟨by rw [e 3 1 (by omega) (by omega)]; exact c1, by rw [e 8 1 (by omega) (by omega)]; exact c4, by rw [e 13 1 (by omega) (by omega)]; exact c5⟩, fun b z => by rw [e 6 b (by omega) (by omega)]; exact r b z⟩
          refine ⟨⟨cl, ⟨?_, ?_, fun b z => ?_⟩, fresh_PM d.1 (fun a z => (e6 a 0 (by omega)).trans ((k2 a 0 (by omega)).trans (k9.2.2 a 0 (by omega))))⟩, ?_⟩
          · rw [e6 116 0 (by omega), v0]; exact cn_0
          · rw [e6 116 1 (by omega), v1]; exact .inl rfl
          · rw [e6 117 b (by omega), v7 b]; exact h.2.1.2.2 b z
          · exact (e6 0 1 (by omega)).trans ((k2 0 1 (by omega)).trans ((k9.2.2 0 1 (by omega)).trans (u2_s _ _ _ _)))
      · rw [if_neg c2, if_neg c2]; exact ⟨h, rfl⟩
theorem feed_K {a0 a1 a2 a3 a4 : Int32} {I : SI} {J : SJ} (h : CI I) (ht : inR (I 0 1) 701) : H_X11_feed a0 a1 a2 a3 a4 I J ∧ CI (FI_X11_feed a0 a1 a2 a3 a4 I J) ∧ FI_X11_feed a0 a1 a2 a3 a4 I J 0 1 = (if I 0 1 ≤ 680 then I 0 1 + 20 else I 0 1) ∧ F_X11_feed a0 a1 a2 a3 a4 I J = (if I 0 1 ≤ 680 then I 0 1 + 20 else -1) ∧ inR (if I 0 1 ≤ 680 then I 0 1 + 20 else I 0 1) 701 := by
  have f := feed_c (a0 := a0) (a1 := a1) (a2 := a2) (a3 := a3) (a4 := a4) (I := I) (J := J)
  obtain ⟨c, hc, e⟩ := ht.n
  have ci : CI (FI_X11_feed a0 a1 a2 a3 a4 I J) := by
    obtain ⟨⟨⟨c1, c2, c3⟩, r⟩, ⟨s0, s1, s2⟩, ⟨m0, m1, m2⟩⟩ := h
    have g : ∀ a b, 1 < a → FI_X11_feed a0 a1 a2 a3 a4 I J a b = I a b := fun a b z => f.2.2.2 a b (by omega) (by omega)
    exact ⟨⟨⟨by rw [g 3 1 (by omega)]; exact c1, by rw [g 8 1 (by omega)]; exact c2, by rw [g 13 1 (by omega)]; exact c3⟩, fun b z => by rw [g 6 b (by omega)]; exact r b z⟩, ⟨by rw [g 116 0 (by omega)]; exact s0, by rw [g 116 1 (by omega)]; exact s1, fun b z => by rw [g 117 b (by omega)]; exact s2 b z⟩, ⟨by rw [g 43 0 (by omega)]; exact m0, by rw [g 48 0 (by omega)]; exact m1, by rw [g 53 0 (by omega)]; exact m2⟩⟩
  refine ⟨f.1, ci, ?_⟩
  by_cases q : c ≤ 680
  · have d : I 0 1 ≤ 680 := by rw [e]; exact nI_le (b := 680) q (by decide)
    rw [if_pos d, if_pos d, (f.2.1 c q e).1, (f.2.1 c q e).2, e, show (20 : Int32) = nI 20 from rfl, nI_add]
    exact ⟨rfl, rfl, inR_nI (by omega) (by decide)⟩
  · have d : ¬ I 0 1 ≤ 680 := by rw [e]; exact nI_ge (a := 680) (by omega) (by omega)
    have g := f.2.2.1 c (by omega) (by omega) e
    rw [if_neg d, if_neg d, g.1, g.2]
    exact ⟨rfl, rfl, ht⟩
