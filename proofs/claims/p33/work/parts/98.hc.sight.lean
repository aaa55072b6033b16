/-! both: what is sighted, row by row -/
def ER (A B : SI) (i : Nat) : Prop := (A 117 i = 0 ∧ ∃ j, j < i ∧ A 118 i = nI j ∧ B 176 i = nI j) ∨ (¬ A 117 i = 0 ∧ B 176 i = -1 ∧ A 117 i = B 173 i ∧ A 118 i = B 174 i ∧ A 119 i = B 175 i)
def GSR (A B : SI) : Prop := ∃ c, c ≤ 24 ∧ A 116 0 = nI c ∧ (A 116 1 = -1 ∨ ∃ n, n ≤ c ∧ A 116 1 = nI n) ∧ ∀ i, i < c → ER A B i
theorem ER.mv {A A' B B' : SI} {i : Nat} (h : ER A B i) (a7 : A' 117 i = A 117 i) (a8 : A' 118 i = A 118 i) (a9 : A' 119 i = A 119 i) (b3 : B' 173 i = B 173 i) (b4 : B' 174 i = B 174 i) (b5 : B' 175 i = B 175 i) (b6 : B' 176 i = B 176 i) : ER A' B' i := by
  unfold ER
  rw [a7, a8, a9, b3, b4, b5, b6]
  exact h
theorem GSR.mv {A A' B B' : SI} (h : GSR A B) (ka : ∀ a b, 116 ≤ a → a ≤ 119 → A' a b = A a b) (kb : ∀ a b, 173 ≤ a → a ≤ 176 → B' a b = B a b) : GSR A' B' := by
  obtain ⟨c, h1, h2, h3, h4⟩ := h
  refine ⟨c, h1, (ka _ _ (by omega) (by omega)).trans h2, ?_, fun i hi => (h4 i hi).mv (ka _ _ (by omega) (by omega)) (ka _ _ (by omega) (by omega)) (ka _ _ (by omega) (by omega)) (kb _ _ (by omega) (by omega)) (kb _ _ (by omega) (by omega)) (kb _ _ (by omega) (by omega)) (kb _ _ (by omega) (by omega))⟩
  rw [ka 116 1 (by omega) (by omega)]
  exact h3
/-- the class's calls leave it -/
theorem plums_s {a0 a1 : Int32} {I : SI} {J : SJ} : ∀ a b, 116 ≤ a → a ≤ 119 → FI_X11_plums a0 a1 I J a b = I a b := fun a b x y => by
  unfold FI_X11_plums S1_X11_plums
  repeat' split
  all_goals first
    | rfl
    | exact (putF_n (by omega)).trans (undoadd_K a b (by omega))
theorem move_s {a0 a1 : Int32} {I : SI} {J : SJ} : ∀ a b, 116 ≤ a → a ≤ 119 → FI_X11_move a0 a1 I J a b = I a b := fun a b x y => by
  unfold FI_X11_move
  repeat' split
  all_goals first
    | rfl
    | exact (putF_n (by omega)).trans (undoadd_K a b (by omega))
theorem say_s {a0 a1 : Int32} {I : SI} {J : SJ} : ∀ a b, 116 ≤ a → a ≤ 119 → FI_X11_sayFromNowOn a0 a1 I J a b = I a b := fun a b x y => by
  unfold FI_X11_sayFromNowOn
  split
  · rfl
  · exact (putF_n (by omega)).trans (undoadd_K a b (by omega))
theorem tell_s {a0 a1 : Int32} {I : SI} {J : SJ} : ∀ a b, 116 ≤ a → a ≤ 119 → FI_X11_tell a0 a1 I J a b = I a b := fun a b x y => by
  unfold FI_X11_tell
  repeat' split
  all_goals first
    | rfl
    | exact say_s a b x y
theorem forget_s {a0 : Int32} {I : SI} {J : SJ} : ∀ a b, 116 ≤ a → a ≤ 119 → FI_X11_forget a0 I J a b = I a b := fun a b x y => by
  unfold FI_X11_forget
  repeat' split
  all_goals first
    | rfl
    | exact say_s a b x y
theorem undo_s {I : SI} {J : SJ} : ∀ a b, 116 ≤ a → a ≤ 119 → FI_X11_undo I J a b = I a b := fun a b x y => by
  unfold FI_X11_undo FI_X10_takeBack S1_X10_takeBack S2_X10_takeBack S3_X10_takeBack
  repeat' split
  all_goals first
    | rfl
    | exact (putF_n (by omega)).trans (u2_n _ _ (by omega))
theorem keep_s {I : SI} {J : SJ} : ∀ a b, 116 ≤ a → a ≤ 119 → FI_X11_keep I J a b = I a b := fun a b x y => by
  unfold FI_X11_keep
  exact (u2_n _ _ (by omega)).trans (copy_K (k := 95) a b (by omega))
theorem back_s {I : SI} {J : SJ} : ∀ a b, 116 ≤ a → a ≤ 119 → FI_X11_back I J a b = I a b := fun a b x y => by
  unfold FI_X11_back FI_X10_clear
  split
  · rfl
  · exact (u2_n _ _ (by omega)).trans (copy_K (k := 86) a b (by omega))
theorem go_s {a0 : Int32} {I : SI} {J : SJ} (hC : CS I) : ∀ a b, 116 ≤ a → a ≤ 119 → FI_X11_go a0 I J a b = I a b := fun a b x y => by
  have k : KP 104 115 I (u2 (FI_X0_begin 86 I J) 104 2 1) := begin_K.u (by decide)
  have q := pass_C (a0 := a0) (J := FJ_X0_begin 86 I J) (hC.kp k (by decide))
  have t : KP 86 115 I (S1_X11_go a0 I J) := by
    unfold S1_X11_go
    exact ((k.tr q.2).w (by decide) (by decide)).tr ((copy_K (k := 86)).w (by decide) (by decide))
  unfold FI_X11_go FI_X10_clear
  repeat' split
  all_goals first
    | rfl
    | exact (u2_n _ _ (by omega)).trans (t a b (by omega))
theorem feed_s {a0 a1 a2 a3 a4 : Int32} {I : SI} {J : SJ} : ∀ a b, 116 ≤ a → a ≤ 119 → FI_X11_feed a0 a1 a2 a3 a4 I J a b = I a b := fun a b x y => by
  unfold FI_X11_feed S1_X11_feed
  split
  · rw [write_A a b (by omega) (by omega), write_A a b (by omega) (by omega), write_A a b (by omega) (by omega), write_A a b (by omega) (by omega), write_A a b (by omega) (by omega)]
  · rfl
/-- and the reference's -/
theorem feed_t {a0 a1 a2 a3 a4 : Int32} {B : SI} {J' : SJ} : ∀ a b, 173 ≤ a → a ≤ 176 → FI_X12_feed a0 a1 a2 a3 a4 B J' a b = B a b := fun a b x y => by
  unfold FI_X12_feed S1_X12_feed F_X12_feed_l20
  split
  · rw [u2_n _ _ (by omega)]
    exact itN_inv (P := fun (z : SI) => z a b = B a b) (u2_n _ _ (by omega)) (fun i z _ h => by
      unfold B_X12_feed_l20 S3_X12_feed
      exact (u2_n _ _ (by omega)).trans h)
  · exact u2_n _ _ (by omega)
theorem text_R {a0 : Int32} {A B : SI} {J J' : SJ} (g : GTL A B) (h : MW B B) (r : GSR A B) : GSR (FI_X11_text a0 A J) (FI_X12_text a0 B J') := by
  obtain ⟨⟨n, hn, e1, e2⟩, tp, z, f1, f2, tl⟩ := g
  have u1 : u2 B 130 0 0 130 2 = nI n := (u2_n _ _ (by omega)).trans e2
  have r0 : GSR A (u2 B 130 0 0) := r.mv (fun _ _ _ _ => rfl) (fun a b x y => u2_n _ _ (by omega))
  unfold FI_X11_text FI_X12_text
  by_cases c : a0 < 0
  · rw [if_pos c, if_pos c]
    exact r0
  rw [if_neg c, if_neg c, e1, u1]
  by_cases c2 : a0 ≤ nI n
  rotate_left
  · rw [if_neg c2, if_neg c2]
    exact r0
  rw [if_pos c2, if_pos c2]
  have ha : inR a0 701 := (in_le (N := n) (by omega) c c2).le (by omega)
  obtain ⟨m, hm, em⟩ := ha.n
  have m7 : m ≤ 700 := by omega
  subst em
  have t1 := tx1 (a0 := nI m) (J := J') h.1 ha
  obtain ⟨si, _, _, kt⟩ := read_R (J := J) tp z m7 t1.2.1 t1.2.2.1
  have eF : FI_X4_read (nI m) A J = FI_X9_settle 42 (S1_X4_read (nI m) A J) J := by unfold FI_X4_read; exact ite_self _
  have s41 : FI_X9_settle 42 (S1_X4_read (nI m) A J) J 41 1 = S1_X4_read (nI m) A J 41 1 := settle_o 41 1 (by omega)
  have kc := (read_C (a1 := nI m) (I := A) (J := J) (by exact ⟨by rw [z.1.1]; exact ⟨rfl, by decide⟩, by rw [z.2.1.1]; exact ⟨rfl, by decide⟩, by rw [z.2.2.1.1]; exact ⟨rfl, by decide⟩⟩) ha).2.2
  have b4 : ∀ a b, ¬ (a = 130 ∧ (b = 32 ∨ b = 33)) → (u2 (S4_X12_text (nI m) B J') 130 33 (S4_X12_text (nI m) B J' 130 31)) a b = (F_X12_text_w150 (nI m) B J' (FI_X12_token (S3_X12_text (nI m) B J') J', J')).1 a b := fun a b z => by
    refine (u2_n _ _ (by omega)).trans ?_
    unfold S4_X12_text
    exact u2_n _ _ (by omega)
  have kr : ∀ a b, 152 ≤ a ∨ (a = 130 ∧ 36 ≤ b) ∨ (a = 132 ∧ b < 10) → (u2 (S4_X12_text (nI m) B J') 130 33 (S4_X12_text (nI m) B J' 130 31)) a b = B a b := fun a b q => (b4 a b (by omega)).trans (kt a b (by unfold mT; omega))
  have eS2 : S2_X11_text (nI m) A J = FI_X10_clear (FI_X6_clear (FI_X5_open 86 2 (FI_X9_copy 2 42 (u2 (FI_X4_read (nI m) A J) 0 1 0) J) J) (FJ_X5_open 86 2 (FI_X9_copy 2 42 (u2 (FI_X4_read (nI m) A J) 0 1 0) J) J)) (FJ_X5_open 86 2 (FI_X9_copy 2 42 (u2 (FI_X4_read (nI m) A J) 0 1 0) J) J) := rfl
  have cF : F_X4_read (nI m) A J = 0 ↔ ¬ S1_X4_read (nI m) A J 41 1 = 0 := by
    unfold F_X4_read
    rw [s41]
    by_cases q : S1_X4_read (nI m) A J 41 1 = 0
    · rw [if_pos q]; exact ⟨fun y => absurd y (by decide), fun y => absurd q y⟩
    · rw [if_neg q]; exact ⟨fun _ => q, fun _ => rfl⟩
  have R30 : (u2 (S4_X12_text (nI m) B J') 130 33 (S4_X12_text (nI m) B J' 130 31)) 130 30 = S1_X4_read (nI m) A J 41 1 := (b4 130 30 (by omega)).trans si.1.symm
  by_cases c3 : S1_X4_read (nI m) A J 41 1 = 0
  rotate_left
  · rw [if_pos (cF.mpr c3), if_neg (fun q => c3 (R30.symm.trans q))]
    exact r.mv (fun a b x y => (u2_n _ _ (by omega)).trans (kc a b (by omega))) (fun a b x y => kr a b (by omega))
  rw [if_neg (fun q => (cF.mp q) c3), if_pos (R30.trans c3)]
  refine ⟨0, by omega, ?_, Or.inl ?_, fun i hi => absurd hi (Nat.not_lt_zero i)⟩
  · rw [u2_n _ _ (by omega), eS2]
    unfold FI_X10_clear FI_X6_clear
    rw [u2_n _ _ (by omega), u2_n _ _ (by omega)]
    exact u2_s _ _ _ _
  · rw [u2_n _ _ (by omega), eS2]
    unfold FI_X10_clear FI_X6_clear
    rw [u2_n _ _ (by omega)]
    exact u2_s _ _ _ _
/-- a sighting, and one taken out -/
theorem add_e {a0 a1 a2 : Int32} {c : Nat} {A : SI} {J : SJ} (hc : c < 24) (e : A 116 0 = nI c) : FI_X6_add a0 a1 a2 A J = u2 (u2 (u2 (u2 A 117 c a0) 118 c a1) 119 c a2) 116 0 (nI c + 1) := by
  have s1 : S1_X6_add a0 a1 a2 A J = u2 (u2 A 117 c a0) 118 c a1 := by
    unfold S1_X6_add
    rw [e, putF_v hc (by omega), u2_n _ _ (show ¬ ((116 : Nat) = 117 ∧ (0 : Nat) = c) by omega), e, putF_v hc (by omega)]
  have s10 : S1_X6_add a0 a1 a2 A J 116 0 = nI c := by
    rw [s1, u2_n _ _ (by omega), u2_n _ _ (by omega)]
    exact e
  have s2 : S2_X6_add a0 a1 a2 A J = u2 (u2 (u2 A 117 c a0) 118 c a1) 119 c a2 := by
    unfold S2_X6_add
    rw [s10, s1, putF_v hc (by omega)]
  have s20 : S2_X6_add a0 a1 a2 A J 116 0 = nI c := by
    rw [s2, u2_n _ _ (by omega), u2_n _ _ (by omega), u2_n _ _ (by omega)]
    exact e
  unfold FI_X6_add
  rw [if_pos (show A 116 0 < 24 by rw [e]; exact nI_lt (b := 24) hc (by decide))]
  unfold S3_X6_add
  rw [s20, s2]
theorem GSR.add {a0 a1 a2 : Int32} {c : Nat} {A B B' : SI} {J : SJ} (r : GSR A B) (hc : c < 24) (e : A 116 0 = nI c) (kb : ∀ a b, 173 ≤ a → a ≤ 176 → ¬ b = c → B' a b = B a b) (k : (a0 = 0 ∧ ∃ j, j < c ∧ a1 = nI j ∧ B' 176 c = nI j) ∨ (¬ a0 = 0 ∧ B' 176 c = -1 ∧ a0 = B' 173 c ∧ a1 = B' 174 c ∧ a2 = B' 175 c)) : GSR (FI_X6_add a0 a1 a2 A J) B' := by
  obtain ⟨c', h1, h2, h3, h4⟩ := r
  have ec : c' = c := (nI_eq (by omega) (by omega)).mp (h2.symm.trans e)
  subst ec
  rw [add_e hc e]
  refine ⟨c' + 1, by omega, (u2_s _ _ _ _).trans (nI_1 _), ?_, fun i hi => ?_⟩
  · rw [u2_n _ _ (by omega), u2_n _ _ (by omega), u2_n _ _ (by omega), u2_n _ _ (by omega)]
    exact h3.imp id (fun ⟨n, x, y⟩ => ⟨n, by omega, y⟩)
  · by_cases q : i = c'
    · subst q
      unfold ER
      rw [u2_n _ _ (show ¬ ((117 : Nat) = 116 ∧ i = 0) by omega), u2_n _ _ (show ¬ ((117 : Nat) = 119 ∧ i = i) by omega), u2_n _ _ (show ¬ ((117 : Nat) = 118 ∧ i = i) by omega), u2_s, u2_n _ _ (show ¬ ((118 : Nat) = 116 ∧ i = 0) by omega), u2_n _ _ (show ¬ ((118 : Nat) = 119 ∧ i = i) by omega), u2_s, u2_n _ _ (show ¬ ((119 : Nat) = 116 ∧ i = 0) by omega), u2_s]
      exact k
    · exact (h4 i (by omega)).mv (by rw [u2_n _ _ (by omega), u2_n _ _ (by omega), u2_n _ _ (by omega), u2_n _ _ (by omega)]) (by rw [u2_n _ _ (by omega), u2_n _ _ (by omega), u2_n _ _ (by omega), u2_n _ _ (by omega)]) (by rw [u2_n _ _ (by omega), u2_n _ _ (by omega), u2_n _ _ (by omega), u2_n _ _ (by omega)]) (kb _ _ (by omega) (by omega) q) (kb _ _ (by omega) (by omega) q) (kb _ _ (by omega) (by omega) q) (kb _ _ (by omega) (by omega) q)
theorem full_e {a0 a1 a2 : Int32} {A : SI} {J : SJ} (e : A 116 0 = nI 24) : FI_X6_add a0 a1 a2 A J = A := by
  unfold FI_X6_add
  exact if_neg (show ¬ A 116 0 < 24 by rw [e]; decide)
theorem see_R {a0 a1 a2 : Int32} {A B : SI} {J J' : SJ} (g : GTL A B) (s : GSE A B) (h2 : a2 = 0 ∨ a2 = 1) (r : GSR A B) : GSR (FI_X11_see a0 a1 a2 A J) (FI_X12_see a0 a1 a2 B J') := by
  have r0 : GSR A (u2 B 130 0 0) := r.mv (fun _ _ _ _ => rfl) (fun a b x y => u2_n _ _ (by omega))
  have m := mark_v (a1 := a1) (J := J) (J' := J') g
  obtain ⟨c, hc, e, _⟩ := r
  have b0 : u2 B 130 0 0 130 68 = nI c := (u2_n _ _ (by omega)).trans (s.1.symm.trans e)
  unfold FI_X11_see FI_X12_see
  by_cases c0 : a0 < 1
  · rw [if_pos c0, if_pos c0]; exact r0
  rw [if_neg c0, if_neg c0]
  by_cases c1 : (40 : Int32) < a0
  · rw [if_pos c1, if_pos c1]; exact r0
  rw [if_neg c1, if_neg c1, m]
  by_cases c2 : F_X12_isMark a1 (u2 B 130 0 0) J' = 0
  · rw [if_pos c2, if_pos c2]; exact r0
  rw [if_neg c2, if_neg c2, b0]
  have n0 : ¬ a0 = 0 := fun y => c0 (by rw [y]; decide)
  have ea : (if a2 = 0 then FI_X6_add a0 a1 0 A J else FI_X6_add a0 a1 1 A J) = FI_X6_add a0 a1 a2 A J := by
    rcases h2 with rfl | rfl
    · exact if_pos rfl
    · exact if_neg (by decide)
  rw [ea]
  by_cases q : c = 24
  · subst q
    rw [if_pos (show nI 24 = 24 from rfl), full_e e]
    exact r0
  have q24 : c < 24 := by omega
  have ne : ¬ nI c = 24 := fun y => by have := (nI_eq (b := 24) (by omega) (by omega)).mp y; omega
  rw [if_neg ne]
  have s1 : S1_X12_see a0 a1 a2 B J' = u2 (u2 (u2 B 130 0 0) 173 c a0) 174 c a1 := by
    unfold S1_X12_see
    rw [b0, nI_clamp (by omega), u2_n _ _ (show ¬ ((130 : Nat) = 173 ∧ (68 : Nat) = c) by omega), b0, nI_clamp (by omega)]
  have t1 : S1_X12_see a0 a1 a2 B J' 130 68 = nI c := by
    rw [s1, u2_n _ _ (by omega), u2_n _ _ (by omega)]
    exact b0
  have s2 : S2_X12_see a0 a1 a2 B J' = u2 (S1_X12_see a0 a1 a2 B J') 175 c (vp_nar .boolean a2) := by
    unfold S2_X12_see
    rw [t1, nI_clamp (by omega)]
  have t2 : S2_X12_see a0 a1 a2 B J' 130 68 = nI c := by
    rw [s2, u2_n _ _ (by omega)]
    exact t1
  have s3 : S3_X12_see a0 a1 a2 B J' = u2 (S2_X12_see a0 a1 a2 B J') 176 c (-1) := by
    unfold S3_X12_see
    rw [t2, nI_clamp (by omega)]
  have v2 : vp_nar .boolean a2 = a2 := by
    rcases h2 with rfl | rfl
    · rfl
    · rfl
  have s4 : S4_X12_see a0 a1 a2 B J' = u2 (u2 (u2 (u2 (u2 (u2 B 130 0 0) 173 c a0) 174 c a1) 175 c a2) 176 c (-1)) 130 68 (S3_X12_see a0 a1 a2 B J' 130 68 + 1) := by
    unfold S4_X12_see
    rw [s3, s2, s1, v2]
  rw [s4]
  refine r0.add q24 e (fun a b x y z => ?_) (Or.inr ⟨n0, ?_, ?_, ?_, ?_⟩)
  · rw [u2_n _ _ (by omega), u2_n _ _ (by omega), u2_n _ _ (by omega), u2_n _ _ (by omega), u2_n _ _ (by omega)]
  · rw [u2_n _ _ (by omega), u2_s]
  · rw [u2_n _ _ (by omega), u2_n _ _ (by omega), u2_n _ _ (by omega), u2_n _ _ (by omega), u2_s]
  · rw [u2_n _ _ (by omega), u2_n _ _ (by omega), u2_n _ _ (by omega), u2_s]
  · rw [u2_n _ _ (by omega), u2_n _ _ (by omega), u2_s]
theorem out_R {a0 : Int32} {A B : SI} {J J' : SJ} (s : GSE A B) (r : GSR A B) : GSR (FI_X11_out a0 A J) (FI_X12_out a0 B J') := by
  have r0 : GSR A (u2 B 130 0 0) := r.mv (fun _ _ _ _ => rfl) (fun a b x y => u2_n _ _ (by omega))
  obtain ⟨c, hc, e, _⟩ := r
  have b0 : u2 B 130 0 0 130 68 = nI c := (u2_n _ _ (by omega)).trans (s.1.symm.trans e)
  unfold FI_X11_out FI_X12_out
  by_cases c0 : a0 < 0
  · rw [if_pos c0, if_pos c0]; exact r0
  rw [if_neg c0, if_neg c0, b0, e]
  by_cases c1 : nI c ≤ a0
  · rw [if_pos c1, if_neg (Int32.not_lt.mpr c1)]; exact r0
  have c2 : a0 < nI c := Int32.not_le.mp c1
  rw [if_neg c1, if_pos c2]
  by_cases q : c = 24
  · subst q
    rw [if_pos (show nI 24 = 24 from rfl), full_e e]
    exact r0
  have q24 : c < 24 := by omega
  have ne : ¬ nI c = 24 := fun y => by have := (nI_eq (b := 24) (by omega) (by omega)).mp y; omega
  rw [if_neg ne]
  have ha : inR a0 c := in_lt (N := c) (by omega) c0 (inR_nI (by omega) (by omega)) c1
  obtain ⟨j, hj, rfl⟩ := ha.n
  have s1 : S1_X12_out (nI j) B J' = u2 (u2 (u2 B 130 0 0) 176 c (nI j)) 130 68 ((u2 (u2 B 130 0 0) 176 c (nI j)) 130 68 + 1) := by
    unfold S1_X12_out
    rw [b0, nI_clamp (by omega)]
  rw [s1]
  refine r0.add q24 e (fun a b x y z => ?_) (Or.inl ⟨rfl, j, hj, rfl, ?_⟩)
  · rw [u2_n _ _ (by omega), u2_n _ _ (by omega)]
  · rw [u2_n _ _ (by omega), u2_s]
theorem known_R {a0 : Int32} {A B : SI} {J J' : SJ} (s : GSE A B) (r : GSR A B) : GSR (FI_X11_known a0 A J) (FI_X12_known a0 B J') := by
  have r0 : GSR A (u2 B 130 0 0) := r.mv (fun _ _ _ _ => rfl) (fun a b x y => u2_n _ _ (by omega))
  have b0 : u2 B 130 0 0 130 68 = A 116 0 := (u2_n _ _ (by omega)).trans s.1.symm
  unfold FI_X11_known FI_X12_known
  by_cases c0 : a0 < -1
  · rw [if_pos c0, if_pos c0]; exact r0
  rw [if_neg c0, if_neg c0, b0]
  by_cases c1 : a0 ≤ A 116 0
  rotate_left
  · rw [if_neg c1, if_neg c1]; exact r0
  rw [if_pos c1, if_pos c1]
  obtain ⟨c, hc, e, h3, h4⟩ := r0
  refine ⟨c, hc, (u2_n _ _ (by omega)).trans e, ?_, fun i hi => (h4 i hi).mv (u2_n _ _ (by omega)) (u2_n _ _ (by omega)) (u2_n _ _ (by omega)) (u2_n _ _ (by omega)) (u2_n _ _ (by omega)) (u2_n _ _ (by omega)) (u2_n _ _ (by omega))⟩
  rw [u2_s]
  by_cases z : a0 < 0
  · left
    refine Int32.le_antisymm ?_ (Int32.not_lt.mp c0)
    have q := Int32.lt_iff_toInt_lt.mp z
    refine Int32.le_iff_toInt_le.mpr ?_
    have q0 : (0 : Int32).toInt = 0 := by decide
    have q1 : (-1 : Int32).toInt = -1 := by decide
    omega
  · right
    rw [e] at c1
    obtain ⟨n, hn, en⟩ := (in_le (N := c) (by omega) z c1).n
    exact ⟨n, by omega, en⟩
