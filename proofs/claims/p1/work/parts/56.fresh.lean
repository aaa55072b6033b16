/-! the empty text: what the class reads, what the model reads -/
theorem step_0 {X : SI} {J : SJ} (h2 : X 81 2 = 0) (h3 : X 81 3 = 0) (h4 : X 81 4 = 0) : H_X8_step X J ∧ FI_X8_step X J = u2 (u2 X 81 7 0) 81 5 0 := by
  have x : B_X8_step_w17 X J (F_X8_signAt (X 81 3) X J, X) = .inr (F_X8_signAt (X 81 3) X J, X) := by
    unfold B_X8_step_w17
    exact if_pos (by show X 81 2 ≤ X 81 3; rw [h2, h3]; decide)
  have e1 : S1_X8_step X J = u2 X 81 7 0 := by
    unfold S1_X8_step F_X8_step_w17
    rw [itW_x x]
    show u2 X 81 7 (X 81 3) = _
    rw [h3]
  have s3 : u2 X 81 7 0 81 3 = 0 := (u2_n _ _ (by omega)).trans h3
  have s2 : u2 X 81 7 0 81 2 = 0 := (u2_n _ _ (by omega)).trans h2
  have es : F_X8_signAt (S1_X8_step X J 81 3) (S1_X8_step X J) J = -1 := by
    rw [e1, s3]
    unfold F_X8_signAt
    rw [if_neg (show ¬ (0 : Int32) < 0 by decide), s2]
    exact if_pos (by decide)
  have en : ¬ (0 : Int32) ≤ F_X8_signAt (S1_X8_step X J 81 3) (S1_X8_step X J) J := by rw [es]; decide
  refine ⟨?_, ?_⟩
  · unfold H_X8_step
    exact ⟨fun _ => by rw [itW_x x]; rfl, fun _ h => absurd h en, fun _ h => absurd h en⟩
  · unfold FI_X8_step
    rw [if_pos h4, if_neg en, e1]
theorem x7cp {k r : Nat} {I : SI} {J : SJ} {a : Nat} (h : a < k ∨ k + 4 < a) : FI_X7_copy k r I J a = I a := by
  funext b
  unfold FI_X7_copy S1_X7_copy
  show (if a = k + 4 ∧ b < 8 then _ else if a = k + 3 ∧ b < 8 then _ else if a = k + 2 ∧ b < 8 then _ else if a = k + 1 ∧ b < 8 then _ else u2 I k 1 (I r 1) a b) = I a b
  rw [if_neg (by omega), if_neg (by omega), if_neg (by omega), if_neg (by omega)]
  exact u2_n _ _ (by omega)
theorem x1cp {k r : Nat} {I : SI} {J : SJ} {a : Nat} (h : a < k ∨ k + 2 < a) : FI_X1_copy k r I J a = I a := by
  funext b
  unfold FI_X1_copy S1_X1_copy
  show (if a = k + 2 ∧ b < 64 then _ else if a = k + 1 ∧ b < 64 then _ else u2 (u2 I k 0 (I r 0)) k 1 ((u2 I k 0 (I r 0)) r 1) a b) = I a b
  rw [if_neg (by omega), if_neg (by omega)]
  exact (u2_n _ _ (by omega)).trans (u2_n _ _ (by omega))
theorem s3cp {I : SI} {J : SJ} {a : Nat} (h : 28 < a) : S3_X9_copy 2 42 I J a = I a := by
  have e2 : S2_X9_copy 2 42 I J a = I a := by
    unfold S2_X9_copy S1_X9_copy
    rw [x7cp (k := 2 + 21) (a := a) (Or.inr (by omega)), x7cp (k := 2 + 16) (a := a) (Or.inr (by omega)), x7cp (k := 2 + 11) (a := a) (Or.inr (by omega)), x7cp (k := 2 + 6) (a := a) (Or.inr (by omega)), x7cp (k := 2 + 1) (a := a) (Or.inr (by omega))]
  funext b
  unfold S3_X9_copy
  refine (u2_n _ _ (by omega)).trans ?_
  show (if a = 2 + 26 ∧ b < 48 then _ else S2_X9_copy 2 42 I J a b) = I a b
  rw [if_neg (by omega), e2]
theorem s5cp {I : SI} {J : SJ} {a : Nat} (h : 28 < a) : S5_X9_copy 2 42 I J a = I a := by
  funext b
  unfold S5_X9_copy S4_X9_copy
  refine (u2_n _ _ (by omega)).trans ((u2_n _ _ (by omega)).trans ((u2_n _ _ (by omega)).trans ((u2_n _ _ (by omega)).trans ?_)))
  rw [s3cp h]
theorem cp42 {I : SI} {J : SJ} : S5_X9_copy 2 42 I J 2 10 = I 42 10 := by
  unfold S5_X9_copy
  rw [u2_s]
  refine (u2_n _ _ (by omega)).trans ?_
  unfold S4_X9_copy
  refine (u2_n _ _ (by omega)).trans ((u2_n _ _ (by omega)).trans ?_)
  rw [s3cp (by omega)]
theorem copyH {I : SI} {J : SJ} (h1 : I 69 0 = 0) (h2 : I 73 0 = 0) (h3 : I 77 0 = 0) : H_X9_copy 2 42 I J ∧ FI_X9_copy 2 42 I J 2 10 = I 42 10 := by
  have e0 : ∀ a b, 40 < a → u2 (S5_X9_copy 2 42 I J) 2 11 ((S5_X9_copy 2 42 I J) 42 11) a b = I a b := fun a b h => (u2_n _ _ (by omega)).trans (by rw [s5cp (by omega)])
  have e6 : ∀ a b, 40 < a → S6_X9_copy 2 42 I J a b = I a b := fun a b h => by
    unfold S6_X9_copy
    rw [x1cp (Or.inr (by omega))]
    exact e0 a b h
  have e7 : ∀ a b, 40 < a → FI_X1_copy (2 + 31) (42 + 31) (S6_X9_copy 2 42 I J) J a b = I a b := fun a b h => by
    rw [x1cp (Or.inr (by omega))]
    exact e6 a b h
  refine ⟨?_, ?_⟩
  · unfold H_X9_copy H_X1_copy
    exact ⟨Or.inl ((e0 69 0 (by omega)).trans h1), Or.inl ((e6 73 0 (by omega)).trans h2), Or.inl ((e7 77 0 (by omega)).trans h3)⟩
  · unfold FI_X9_copy S7_X9_copy S6_X9_copy
    rw [x1cp (k := 2 + 35) (a := 2) (Or.inl (by omega)), x1cp (k := 2 + 31) (a := 2) (Or.inl (by omega)), x1cp (k := 2 + 27) (a := 2) (Or.inl (by omega))]
    exact (u2_n _ _ (by omega)).trans cp42
theorem open_ne {I : SI} {J : SJ} {a b : Nat} (h : a < 86) : FI_X5_open 86 2 I J a b = I a b := by
  have hn : ∀ n, 86 ≤ n → (a = n) = False := fun n h1 => eq_false (by omega)
  unfold FI_X5_open S4_X5_open S3_X5_open S2_X5_open S1_X5_open
  simp only [u2, cpF, fillF, hn 86 (by decide), hn (86 + 1) (by decide), hn 87 (by decide), hn (86 + 2) (by decide), hn 88 (by decide), hn (86 + 3) (by decide), hn 89 (by decide), hn (86 + 4) (by decide), hn 90 (by decide), hn (86 + 5) (by decide), hn 91 (by decide), hn (86 + 6) (by decide), hn 92 (by decide), hn (86 + 7) (by decide), hn 93 (by decide), hn (86 + 8) (by decide), hn 94 (by decide), false_and, if_false]
/-- what is read to, cleared -/
def D0 (I : SI) (J : SJ) : SI := FI_X9_clear 42 (u2 (u2 I 41 1 0) 41 2 (-1)) J
theorem d0_v (I : SI) (J : SJ) : D0 I J 41 1 = 0 ∧ D0 I J 42 10 = 0 ∧ D0 I J 69 0 = 0 ∧ D0 I J 73 0 = 0 ∧ D0 I J 77 0 = 0 := by
  unfold D0 FI_X9_clear S4_X9_clear S3_X9_clear S2_X9_clear S1_X9_clear FI_X7_clear S1_X7_clear FI_X1_clear
  refine ⟨?_, ?_, ?_, ?_, ?_⟩ <;> simp [u2, fillF]
def E0 (I : SI) (J : SJ) : SI := u2 (u2 (u2 (u2 (u2 (D0 I J) 81 2 0) 81 3 0) 81 4 0) 81 7 0) 81 5 0
theorem e0_n {I : SI} {J : SJ} {a b : Nat} (h : a ≠ 81) : E0 I J a b = D0 I J a b := by
  unfold E0
  exact (u2_n _ _ (fun q => h q.1)).trans ((u2_n _ _ (fun q => h q.1)).trans ((u2_n _ _ (fun q => h q.1)).trans ((u2_n _ _ (fun q => h q.1)).trans (u2_n _ _ (fun q => h q.1)))))
theorem begin_0 (I : SI) (J : SJ) : H_X8_begin 0 (D0 I J) J ∧ FI_X8_begin 0 (D0 I J) J = E0 I J := by
  have s := step_0 (X := u2 (u2 (u2 (D0 I J) 81 2 0) 81 3 0) 81 4 0) (J := J) ((u2_n _ _ (by omega)).trans ((u2_n _ _ (by omega)).trans (u2_s _ _ _ _))) ((u2_n _ _ (by omega)).trans (u2_s _ _ _ _)) (u2_s _ _ _ _)
  exact ⟨s.1, s.2⟩
theorem read_0 (I : SI) (J : SJ) : H_X4_read 0 I J ∧ F_X4_read 0 I J = 1 ∧ FI_X4_read 0 I J = FI_X9_settle 42 (E0 I J) J := by
  have b := begin_0 I J
  have e81 : E0 I J 81 5 = 0 := u2_s _ _ _ _
  have e41 : E0 I J 41 1 = 0 := (e0_n (by omega)).trans (d0_v I J).1
  have x : B_X4_read_w28 0 I J (0, E0 I J) = .inr (0, E0 I J) := by
    unfold B_X4_read_w28
    rw [if_neg (show ¬ (0 : Int32) < (0, E0 I J).1 from by show ¬ (0 : Int32) < 0; decide), if_pos e41, if_pos e81]
  have eb : FI_X8_begin 0 (FI_X9_clear 42 (u2 (u2 I 41 1 0) 41 2 (-1)) J) J = E0 I J := b.2
  have es : S1_X4_read 0 I J = E0 I J := by
    unfold S1_X4_read F_X4_read_w28
    rw [eb, itW_x x]
    rfl
  have e41s : FI_X9_settle 42 (E0 I J) J 41 1 = 0 := by
    have q : ∀ b v, u2 (E0 I J) 42 b v 41 1 = 0 := fun b v => (u2_n _ _ (by omega)).trans e41
    unfold FI_X9_settle S1_X9_settle S2_X9_settle
    split <;> exact (u2_n _ _ (by omega)).trans ((u2_n _ _ (by omega)).trans (q _ _))
  refine ⟨?_, ?_, ?_⟩
  · unfold H_X4_read
    rw [eb]
    refine ⟨b.1, by rw [itW_x x]; rfl, fun n s hw _ _ hn => ?_, fun n s hw _ _ hn => ?_⟩
    · rw [wN_out x hw] at hn
      exact absurd e81 hn
    · rw [wN_out x hw] at hn
      exact absurd e81 hn
  · unfold F_X4_read
    rw [es]
    exact if_pos e41s
  · unfold FI_X4_read
    rw [es]
    exact ite_self _
theorem settle_n {X : SI} {J : SJ} {a b : Nat} (h : ¬ (a = 42 ∧ (b = 7 ∨ b = 8 ∨ b = 9))) : FI_X9_settle 42 X J a b = X a b := by
  unfold FI_X9_settle S1_X9_settle S2_X9_settle
  split <;> exact (u2_n _ _ (by omega)).trans ((u2_n _ _ (by omega)).trans (u2_n _ _ (by omega)))
theorem text_c (I : SI) (J : SJ) (h1 : I 0 1 = 0) : H_X11_text 0 I J ∧ F_X11_text 0 I J = 0 := by
  have r := read_0 I J
  have d := d0_v I J
  have w : ∀ a b, a ≠ 0 → a ≠ 81 → ¬ (a = 42 ∧ (b = 7 ∨ b = 8 ∨ b = 9)) → u2 (FI_X4_read 0 I J) 0 1 0 a b = D0 I J a b := fun a b q1 q2 q3 => by
    rw [r.2.2]
    exact (u2_n _ _ (fun z => q1 z.1)).trans ((settle_n q3).trans (e0_n q2))
  have c := copyH (I := u2 (FI_X4_read 0 I J) 0 1 0) (J := J) ((w 69 0 (by omega) (by omega) (by omega)).trans d.2.2.1) ((w 73 0 (by omega) (by omega) (by omega)).trans d.2.2.2.1) ((w 77 0 (by omega) (by omega) (by omega)).trans d.2.2.2.2)
  refine ⟨?_, ?_⟩
  · unfold H_X11_text
    exact ⟨fun _ _ => r.1, fun _ _ _ => c.1⟩
  · unfold F_X11_text
    rw [if_neg (show ¬ (0 : Int32) < 0 by decide), h1, if_pos (show (0 : Int32) ≤ 0 by decide), r.2.1, if_neg (show ¬ (1 : Int32) = 0 by decide)]
    refine (u2_n _ _ (by omega)).trans ?_
    unfold S2_X11_text FI_X10_clear S1_X11_text FI_X6_clear
    refine (u2_n _ _ (by omega)).trans ((u2_n _ _ (by omega)).trans ((u2_n _ _ (by omega)).trans ((open_ne (by omega)).trans ?_)))
    exact c.2.trans ((w 42 10 (by omega) (by omega) (by omega)).trans d.2.1)
/-- the model -/
theorem half_H {r l : Nat} {I : SI} {J : SJ} (hl : l < 2 ^ 31) (e : nI l / 2 = nI (l / 2)) : H_X12_half r l I J := by
  unfold H_X12_half
  rw [e, nI_clamp (by omega)]
  exact ⟨fun i _ h _ => by rw [nI_add]; exact inR_nI (by omega) hl, fun i _ h _ => inR_nI (by omega) hl⟩
theorem half_n {r l : Nat} {I : SI} {J : SJ} {a : Nat} (h : a ≠ r) : FI_X12_half r l I J a = I a := by
  unfold FI_X12_half F_X12_half_l7
  refine itN_inv (P := fun (s : SI) => s a = I a) rfl (fun i s _ hs => ?_)
  unfold B_X12_half_l7 S1_X12_half
  exact (u2_k _ _ h).trans hs
theorem starts_n {f : Int32} {I : SI} {J : SJ} {a : Nat} (h : a < 154 ∨ 167 < a) : FI_X12_starts f I J a = I a := by
  unfold FI_X12_starts F_X12_starts_l194 S5_X12_starts F_X12_starts_l163 F_X12_starts_l94 S4_X12_starts F_X12_starts_l56
  refine itN_inv (P := fun (s : SI) => s a = I a) ?_ (fun i s _ hs => ?_)
  · refine itN_inv (P := fun (s : SI) => s a = I a) ?_ (fun i s _ hs => ?_)
    · refine itN_inv (P := fun (s : SI) => s a = I a) ?_ (fun i s _ hs => ?_)
      · refine itN_inv (P := fun (s : SI) => s a = I a) ?_ (fun i s _ hs => ?_)
        · unfold S3_X12_starts S2_X12_starts S1_X12_starts
          exact (u2_k _ _ (by omega)).trans ((u2_k _ _ (by omega)).trans ((u2_k _ _ (by omega)).trans ((u2_k _ _ (by omega)).trans ((u2_k _ _ (by omega)).trans (u2_k _ _ (by omega))))))
        · unfold B_X12_starts_l56 S12_X12_starts
          exact (u2_k _ _ (by omega)).trans ((u2_k _ _ (by omega)).trans hs)
      · unfold B_X12_starts_l94 S11_X12_starts S10_X12_starts S9_X12_starts
        exact (u2_k _ _ (by omega)).trans ((u2_k _ _ (by omega)).trans ((u2_k _ _ (by omega)).trans hs))
    · unfold B_X12_starts_l163 S8_X12_starts
      exact (u2_k _ _ (by omega)).trans hs
  · unfold B_X12_starts_l194 S7_X12_starts S6_X12_starts
    exact (u2_k _ _ (by omega)).trans ((u2_k _ _ (by omega)).trans hs)
theorem tx2 {a0 : Int32} {I : SI} {J : SJ} : S2_X12_text a0 I J 130 = S1_X12_text a0 I J 130 := by
  unfold S2_X12_text F_X12_text_l100 F_X12_text_l79 F_X12_text_l47
  refine itN_inv (P := fun (s : SI) => s 130 = S1_X12_text a0 I J 130) ?_ (fun i s _ hs => ?_)
  · refine itN_inv (P := fun (s : SI) => s 130 = S1_X12_text a0 I J 130) ?_ (fun i s _ hs => ?_)
    · refine itN_inv (P := fun (s : SI) => s 130 = S1_X12_text a0 I J 130) rfl (fun i s _ hs => ?_)
      unfold B_X12_text_l47 FI_X12_reads
      split <;> exact (u2_k _ _ (by omega)).trans hs
    · unfold B_X12_text_l79
      exact (u2_k _ _ (by omega)).trans hs
  · unfold B_X12_text_l100 S27_X12_text
    exact (u2_k _ _ (by omega)).trans ((u2_k _ _ (by omega)).trans hs)
theorem tok_0 {X : SI} {J : SJ} (h25 : X 130 25 = 0) (h26 : X 130 26 = 0) : H_X12_token X J ∧ FI_X12_token X J = u2 (u2 X 130 27 0) 130 28 4 := by
  have hh : ∀ Y : SI, Y 130 25 = 0 → Y 130 26 = 0 → F_X12_here Y J = -1 := fun Y q1 q2 => by
    unfold F_X12_here
    rw [q1, q2]
    exact if_pos (by decide)
  have hH : ∀ Y : SI, Y 130 25 = 0 → Y 130 26 = 0 → H_X12_here Y J := fun Y q1 q2 => by
    unfold H_X12_here
    rw [q1, q2]
    exact fun h => absurd (show (0 : Int32) ≤ 0 by decide) h
  have h1 := hh X h25 h26
  have x : B_X12_token_w0 X J X = .inr X := by
    unfold B_X12_token_w0
    rw [h1, if_neg (show ¬ (-1 : Int32) = 10 by decide), if_neg (show ¬ (-1 : Int32) = 32 by decide)]
  have e0 : F_X12_token_w0 X J X = X := by
    unfold F_X12_token_w0
    rw [itW_x x]
    rfl
  have k25 : u2 X 130 27 (X 130 26) 130 25 = 0 := (u2_n _ _ (by omega)).trans h25
  have k26 : u2 X 130 27 (X 130 26) 130 26 = 0 := (u2_n _ _ (by omega)).trans h26
  have h2 := hh _ k25 k26
  have en : ∀ {P : Prop}, ¬ F_X12_here (u2 X 130 27 (X 130 26)) J = -1 → P := fun h => absurd h2 h
  refine ⟨?_, ?_⟩
  · unfold H_X12_token
    rw [e0]
    refine ⟨by rw [itW_x x]; rfl, hH _ k25 k26, fun h => en h, fun h => en h, fun h => en h, fun h => en h, fun h => en h, fun h => en h, fun h => en h, fun h => en h, fun n s hw => ?_, fun n s hw _ => ?_⟩
    · rw [wN_out x hw]
      exact hH X h25 h26
    · rw [wN_out x hw]
      exact hH X h25 h26
  · unfold FI_X12_token S11_X12_token
    rw [e0, if_pos h2, h26]
theorem text_m (I : SI) (J : SJ) (h2 : I 130 2 = 0) : H_X12_text 0 I J ∧ F_X12_text 0 I J = 0 := by
  have s3 : ∀ b, b ≠ 23 → b ≠ 24 → b ≠ 34 → b ≠ 35 → S3_X12_text 0 I J 130 b = S1_X12_text 0 I J 130 b := fun b q1 q2 q3 q4 => by
    unfold S3_X12_text
    exact (u2_n _ _ (by omega)).trans ((u2_n _ _ (by omega)).trans ((u2_n _ _ (by omega)).trans ((u2_n _ _ (by omega)).trans (by rw [tx2]))))
  have s24 : S3_X12_text 0 I J 130 24 = 0 := by
    unfold S3_X12_text
    exact (u2_n _ _ (by omega)).trans ((u2_n _ _ (by omega)).trans (u2_s _ _ _ _))
  have s25 : S3_X12_text 0 I J 130 25 = 0 := (s3 25 (by omega) (by omega) (by omega) (by omega)).trans (by unfold S1_X12_text; simp [u2])
  have s26 : S3_X12_text 0 I J 130 26 = 0 := (s3 26 (by omega) (by omega) (by omega) (by omega)).trans (by unfold S1_X12_text; simp [u2])
  have s30 : S3_X12_text 0 I J 130 30 = 0 := (s3 30 (by omega) (by omega) (by omega) (by omega)).trans (by unfold S1_X12_text; simp [u2])
  have t := tok_0 (J := J) s25 s26
  have t30 : FI_X12_token (S3_X12_text 0 I J) J 130 30 = 0 := by rw [t.2]; exact (u2_n _ _ (by omega)).trans ((u2_n _ _ (by omega)).trans s30)
  have t28 : FI_X12_token (S3_X12_text 0 I J) J 130 28 = 4 := by rw [t.2]; exact u2_s _ _ _ _
  have t24 : FI_X12_token (S3_X12_text 0 I J) J 130 24 = 0 := by rw [t.2]; exact (u2_n _ _ (by omega)).trans ((u2_n _ _ (by omega)).trans s24)
  have x : B_X12_text_w150 0 I J (FI_X12_token (S3_X12_text 0 I J) J, J) = .inr (FI_X12_token (S3_X12_text 0 I J) J, J) := by
    unfold B_X12_text_w150
    rw [if_pos t30, if_pos t28]
  have e : F_X12_text_w150 0 I J (FI_X12_token (S3_X12_text 0 I J) J, J) = (FI_X12_token (S3_X12_text 0 I J) J, J) := by
    unfold F_X12_text_w150
    rw [itW_x x]
    rfl
  have e4 : S4_X12_text 0 I J = u2 (FI_X12_token (S3_X12_text 0 I J) J) 130 32 (FI_X12_token (S3_X12_text 0 I J) J 130 30) := by
    unfold S4_X12_text
    rw [e]
  have f30 : u2 (S4_X12_text 0 I J) 130 33 (S4_X12_text 0 I J 130 31) 130 30 = 0 := by
    rw [e4]
    exact (u2_n _ _ (by omega)).trans ((u2_n _ _ (by omega)).trans t30)
  have e0 : ¬ (0 : Int32) < 0 := by decide
  have hle : (0 : Int32) ≤ u2 I 130 0 0 130 2 := by rw [u2_n _ _ (show ¬ ((130 : Nat) = 130 ∧ (2 : Nat) = 0) from fun q => absurd q.2 (by decide)), h2]; decide
  refine ⟨?_, ?_⟩
  · unfold H_X12_text
    refine ⟨fun _ _ => t.1, fun _ _ => by rw [itW_x x]; rfl, fun _ _ _ => half_H (by decide) (by decide), fun _ _ _ => half_H (by decide) (by decide), fun _ _ _ => half_H (by decide) (by decide), fun _ _ _ => half_H (by decide) (by decide), fun _ _ _ => half_H (by decide) (by decide), fun _ _ _ => half_H (by decide) (by decide), fun _ _ _ => half_H (by decide) (by decide), fun _ _ _ => half_H (by decide) (by decide), fun _ _ _ => half_H (by decide) (by decide), fun _ _ _ => half_H (by decide) (by decide), fun _ _ _ => half_H (by decide) (by decide), fun _ _ _ => half_H (by decide) (by decide), fun _ _ _ => half_H (by decide) (by decide), fun _ _ _ => half_H (by decide) (by decide), fun _ _ _ => half_H (by decide) (by decide), fun _ _ _ => half_H (by decide) (by decide), fun _ _ _ => half_H (by decide) (by decide), fun _ _ _ => half_H (by decide) (by decide), fun _ _ _ => half_H (by decide) (by decide), fun _ _ _ => half_H (by decide) (by decide), fun _ _ _ => h_begins _ _, fun _ _ n s hw _ hn => ?_, fun _ _ i _ h _ => inR_nI (by omega) (by decide), fun _ _ i _ h _ => inR_nI (by omega) (by decide), fun _ _ i _ h _ _ => ?_, fun _ _ i _ h _ _ => ?_⟩
    · rw [wN_out x hw] at hn
      exact absurd t28 hn
    · unfold H_X12_reads
      rw [show (10 : Int32) = nI 10 from rfl, nI_add]
      exact inR_nI (by omega) (by decide)
    · unfold H_X12_reads
      rw [show (10 : Int32) = nI 10 from rfl, nI_add]
      exact inR_nI (by omega) (by decide)
  · unfold F_X12_text
    rw [if_neg e0, if_pos hle, if_pos f30]
    unfold S26_X12_text FI_X12_begins
    rw [starts_n (a := 130) (Or.inl (by decide))]
    unfold S25_X12_text
    refine (u2_n _ _ (by omega)).trans ((u2_n _ _ (by omega)).trans ((u2_n _ _ (by omega)).trans ((u2_n _ _ (by omega)).trans ?_)))
    unfold S24_X12_text S23_X12_text S22_X12_text S21_X12_text S20_X12_text S19_X12_text S18_X12_text S17_X12_text S16_X12_text S15_X12_text S14_X12_text S13_X12_text S12_X12_text S11_X12_text S10_X12_text S9_X12_text S8_X12_text S7_X12_text S6_X12_text S5_X12_text
    rw [half_n (r := 151) (by decide), half_n (r := 150) (by decide), half_n (r := 149) (by decide), half_n (r := 148) (by decide), half_n (r := 147) (by decide), half_n (r := 146) (by decide), half_n (r := 145) (by decide), half_n (r := 144) (by decide), half_n (r := 143) (by decide), half_n (r := 142) (by decide), half_n (r := 141) (by decide), half_n (r := 140) (by decide), half_n (r := 139) (by decide), half_n (r := 138) (by decide), half_n (r := 137) (by decide), half_n (r := 136) (by decide), half_n (r := 135) (by decide), half_n (r := 134) (by decide), half_n (r := 133) (by decide), half_n (r := 132) (by decide)]
    refine (u2_n _ _ (by omega)).trans ?_
    rw [e4]
    exact (u2_n _ _ (by omega)).trans t24
theorem fr1 {xs : Nat → Int32} {k : Nat} {A B : SI} {JA JB : SJ} (hA : FC A) (hB : FM B) : Nd1 xs k A JA B JB (fun _ _ _ _ => True) := by
  have a1 : A 0 1 = 0 := hA.g 0 1 0 (by decide +kernel)
  have b2 : B 130 2 = 0 := hB.g 130 2 0 (by decide +kernel)
  have b2' : u2 B 130 0 0 130 2 = 0 := (u2_n _ _ (by omega)).trans b2
  unfold Nd1
  by_cases c : xs (k + 1) = 0
  · rw [c]
    have hc := text_c A JA a1
    have hm := text_m B JB b2
    exact ⟨hc.1, hm.1, hc.2.trans hm.2.symm, trivial⟩
  · have cc : ¬ xs (k + 1) < 0 → ¬ xs (k + 1) ≤ 0 := fun h q => c (Int32.le_antisymm q (Int32.not_lt.mp h))
    refine ⟨?_, ?_, ?_, trivial⟩
    · unfold H_X11_text
      rw [a1]
      exact ⟨fun h q => absurd q (cc h), fun h q => absurd q (cc h)⟩
    · unfold H_X12_text
      rw [b2']
      and_intros <;> exact fun h q => absurd q (cc h)
    · unfold F_X11_text F_X12_text
      rw [a1, b2']
      by_cases c2 : xs (k + 1) < 0
      · rw [if_pos c2, if_pos c2]
      · rw [if_neg c2, if_neg c2, if_neg (cc c2), if_neg (cc c2)]
