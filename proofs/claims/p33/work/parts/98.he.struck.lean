/-! both: how a mark strikes her by what she said -/
theorem ER.m1 {A B : SI} {i : Nat} (h : ER A B i) (hi : i < 24) : (B 176 i = -1 ∧ ¬ A 117 i = 0 ∧ A 117 i = B 173 i ∧ A 118 i = B 174 i ∧ A 119 i = B 175 i) ∨ (¬ B 176 i = -1 ∧ A 117 i = 0 ∧ ∃ j, j < i ∧ A 118 i = nI j ∧ B 176 i = nI j) := by
  rcases h with ⟨h1, j, h2, h3, h4⟩ | ⟨h1, h2, h3⟩
  · refine Or.inr ⟨fun y => ?_, h1, j, h2, h3, h4⟩
    rw [h4] at y
    have t : (nI j).toInt = (-1 : Int32).toInt := congrArg Int32.toInt y
    rw [nI_toInt (by omega)] at t
    have t2 : (-1 : Int32).toInt = -1 := by decide
    omega
  · exact Or.inl ⟨h2, h1, h3⟩
theorem idx_e (k : Nat) : nI (k + 1) - 1 = nI k := by
  rw [← nI_1]
  exact Int32.add_sub_cancel _ _
theorem idx_m (k : Nat) : nI k + (-1) = nI k - 1 := (Int32.sub_eq_add_neg _ _).symm
/-- so many are known -/
theorem kn_v {A B : SI} {J J' : SJ} (s : GSE A B) (r : GSR A B) : ∃ c n, c ≤ 24 ∧ n ≤ c ∧ A 116 0 = nI c ∧ F_X6_knownCount A J = nI n ∧ F_X12_knownMany B J' = nI n ∧ ∀ i, i < c → ER A B i := by
  obtain ⟨c, h1, h2, h3, h4⟩ := r
  unfold F_X6_knownCount F_X12_knownMany
  rw [← s.1, ← s.2]
  rcases h3 with h3 | ⟨n, hn, h3⟩
  · refine ⟨c, c, h1, Nat.le_refl _, h2, ?_, ?_, h4⟩
    · rw [h3, if_neg (show ¬ (0 : Int32) ≤ -1 by decide)]; exact h2
    · rw [h3, if_pos rfl]; exact h2
  · refine ⟨c, n, h1, hn, h2, ?_, ?_, h4⟩
    · rw [h3, if_pos (show (0 : Int32) ≤ nI n from nI_pos' (by omega))]
    · rw [h3, if_neg (fun y => by
        have t : (nI n).toInt = (-1 : Int32).toInt := congrArg Int32.toInt y
        rw [nI_toInt (by omega)] at t
        have t2 : (-1 : Int32).toInt = -1 := by decide
        omega)]
/-- which of them stand: from the last one down -/
def INV (n k : Nat) (s1 s2 : Int32) (B Y : SI) : Prop := (∀ i, i < n → (bt s1 i = true ↔ ¬ Y 177 i = 0)) ∧ (∀ i, i < 24 → (bt s2 i = true ↔ k ≤ i ∧ i < n ∧ Y 177 i = 0 ∧ B 176 i = -1)) ∧ ∀ a b, ¬ a = 177 → Y a b = B a b
theorem ones_v {c n : Nat} {a0 : Int32} {A B I2 : SI} {J J2 : SJ} (hc : c ≤ 24) (hn : n ≤ c) (er : ∀ i, i < c → ER A B i) : ∀ k, k ≤ n → ∀ s1 s2 Y N M, k < N → k < M → INV n k s1 s2 B Y → ∃ t1 t2 e1 Y' e2, itW (B_X6_knownOnes_w11 A J) N (s1, s2, nI k - 1) = some (t1, t2, e1) ∧ itW (B_X12_struckHow_w47 a0 I2 J2) M (nI k - 1, Y) = some (e2, Y') ∧ INV n 0 t1 t2 B Y' := by
  intro k
  induction k with
  | zero =>
    intro _ s1 s2 Y N M hN hM v
    obtain ⟨N, rfl⟩ : ∃ x, N = x + 1 := ⟨N - 1, by omega⟩
    obtain ⟨M, rfl⟩ : ∃ x, M = x + 1 := ⟨M - 1, by omega⟩
    have z : nI 0 - 1 < 0 := by decide
    refine ⟨s1, s2, nI 0 - 1, Y, nI 0 - 1, itW_r _ _ _ _ ?_, itW_r _ _ _ _ ?_, v⟩
    · unfold B_X6_knownOnes_w11
      exact if_pos z
    · unfold B_X12_struckHow_w47
      exact if_pos z
  | succ k ih =>
    intro hk s1 s2 Y N M hN hM v
    obtain ⟨N, rfl⟩ : ∃ x, N = x + 1 := ⟨N - 1, by omega⟩
    obtain ⟨M, rfl⟩ : ∃ x, M = x + 1 := ⟨M - 1, by omega⟩
    obtain ⟨v1, v2, v3⟩ := v
    rw [idx_e k]
    have k24 : k < 24 := by omega
    have z : ¬ nI k < 0 := nI_pos (by omega)
    have cl : (nI k).toNatClampNeg = k := nI_clamp (by omega)
    have y6 : Y 176 k = B 176 k := v3 _ _ (by omega)
    have bit := bt_get (s := s1) k24
    by_cases st : bt s1 k = true
    · -- taken out
      have nb : ¬ (s1 >>> (nI k &&& 31)) &&& 1 = 0 := fun y => by rw [bit.mp y] at st; exact absurd st (by decide)
      have f1 : B_X6_knownOnes_w11 A J (s1, s2, nI k) = .inl (s1, s2, nI k + (-1)) := by
        unfold B_X6_knownOnes_w11
        refine (if_neg z).trans (if_pos ?_)
        unfold T_X6_knownOnes_j28
        exact if_neg nb
      have g1 : B_X12_struckHow_w47 a0 I2 J2 (nI k, Y) = .inl (nI k + (-1), Y) := by
        unfold B_X12_struckHow_w47
        exact (if_neg z).trans (if_neg (show ¬ Y 177 (nI k).toNatClampNeg = 0 by rw [cl]; exact (v1 k (by omega)).mp st))
      rw [itW_l _ _ _ _ f1, itW_l _ _ _ _ g1, idx_m]
      refine ih (by omega) s1 s2 Y N M (by omega) (by omega) ⟨v1, fun i hi => ?_, v3⟩
      rw [v2 i hi]
      by_cases q : i = k
      · subst q
        exact ⟨fun y => absurd y.1 (by omega), fun y => absurd y.2.2.1 ((v1 i (by omega)).mp st)⟩
      · exact ⟨fun y => ⟨by omega, y.2⟩, fun y => ⟨by omega, y.2⟩⟩
    have sf : bt s1 k = false := by cases e : bt s1 k with | true => exact absurd e st | false => rfl
    have y7 : Y 177 k = 0 := Decidable.byContradiction (fun y => st ((v1 k (by omega)).mpr y))
    have t1 : ¬ T_X6_knownOnes_j28 A J (s1, s2, nI k) = 0 := by
      have e : T_X6_knownOnes_j28 A J (s1, s2, nI k) = 1 := by
        unfold T_X6_knownOnes_j28
        exact if_pos (bit.mpr sf)
      rw [e]
      decide
    have a7 : atF (A 117) 24 (nI k) = A 117 k := atF_v k24 (by omega)
    have a8 : atF (A 118) 24 (nI k) = A 118 k := atF_v k24 (by omega)
    rcases (er k (by omega)).m1 k24 with ⟨b6, n7, _⟩ | ⟨b6, z7, j, hj, ej, bj⟩
    · -- stands
      have f1 : B_X6_knownOnes_w11 A J (s1, s2, nI k) = .inl (s1, s2 ||| ((1 : Int32) <<< (nI k &&& 31)), nI k + (-1)) := by
        unfold B_X6_knownOnes_w11
        exact (if_neg z).trans ((if_neg t1).trans (if_neg (show ¬ atF (A 117) 24 (nI k) = 0 by rw [a7]; exact n7)))
      have g1 : B_X12_struckHow_w47 a0 I2 J2 (nI k, Y) = .inl (nI k + (-1), Y) := by
        unfold B_X12_struckHow_w47
        exact (if_neg z).trans ((if_pos (show Y 177 (nI k).toNatClampNeg = 0 by rw [cl]; exact y7)).trans (if_pos (show Y 176 (nI k).toNatClampNeg = -1 by rw [cl, y6]; exact b6)))
      rw [itW_l _ _ _ _ f1, itW_l _ _ _ _ g1, idx_m]
      refine ih (by omega) s1 _ Y N M (by omega) (by omega) ⟨v1, fun i hi => ?_, v3⟩
      rw [bt_or k24 hi]
      by_cases q : i = k
      · subst q
        rw [decide_eq_true rfl, Bool.or_true]
        exact ⟨fun _ => ⟨Nat.le_refl _, by omega, y7, b6⟩, fun _ => rfl⟩
      · rw [decide_eq_false q, Bool.or_false, v2 i hi]
        exact ⟨fun y => ⟨by omega, y.2⟩, fun y => ⟨by omega, y.2⟩⟩
    · -- takes another out
      have f1 : B_X6_knownOnes_w11 A J (s1, s2, nI k) = .inl (s1 ||| ((1 : Int32) <<< (nI j &&& 31)), s2, nI k + (-1)) := by
        unfold B_X6_knownOnes_w11
        refine (if_neg z).trans ((if_neg t1).trans ((if_pos (show atF (A 117) 24 (nI k) = 0 by rw [a7]; exact z7)).trans ?_))
        show Sum.inl (s1 ||| ((1 : Int32) <<< (atF (A 118) 24 (nI k) &&& 31)), s2, nI k + (-1)) = _
        rw [a8, ej]
      have g1 : B_X12_struckHow_w47 a0 I2 J2 (nI k, Y) = .inl (nI k + (-1), u2 Y 177 j 1) := by
        unfold B_X12_struckHow_w47
        refine (if_neg z).trans ((if_pos (show Y 177 (nI k).toNatClampNeg = 0 by rw [cl]; exact y7)).trans ((if_neg (show ¬ Y 176 (nI k).toNatClampNeg = -1 by rw [cl, y6]; exact b6)).trans ?_))
        have e : S8_X12_struckHow a0 I2 J2 (nI k, Y) = u2 Y 177 j 1 := by
          unfold S8_X12_struckHow
          show u2 Y 177 (Y 176 (nI k).toNatClampNeg).toNatClampNeg (vp_nar .boolean 1) = _
          rw [cl, y6, bj, nI_clamp (by omega)]
          rfl
        rw [e]
      rw [itW_l _ _ _ _ f1, itW_l _ _ _ _ g1, idx_m]
      refine ih (by omega) _ s2 _ N M (by omega) (by omega) ⟨fun i hi => ?_, fun i hi => ?_, fun a b q => (u2_n _ _ (by omega)).trans (v3 a b q)⟩
      · rw [bt_or (show j < 24 by omega) (show i < 24 by omega)]
        by_cases q : i = j
        · subst q
          rw [decide_eq_true rfl, Bool.or_true, u2_s]
          exact ⟨fun _ => by decide, fun _ => rfl⟩
        · rw [decide_eq_false q, Bool.or_false, u2_n _ _ (by omega)]
          exact v1 i hi
      · rw [v2 i hi]
        by_cases q : i = k
        · subst q
          exact ⟨fun y => absurd y.1 (by omega), fun y => absurd y.2.2.2 b6⟩
        · refine ⟨fun y => ⟨by omega, y.2.1, ?_, y.2.2.2⟩, fun y => ⟨by omega, y.2.1, ?_, y.2.2.2⟩⟩
          · rw [u2_n _ _ (by omega)]; exact y.2.2.1
          · have y3 := y.2.2.1
            rw [u2_n _ _ (by omega)] at y3
            exact y3
/-- the reference's flags, cleared -/
theorem flag_v {n : Nat} {a0 : Int32} {B I2 : SI} {J J2 : SJ} (hn : n ≤ 24) (e : ∀ Y : SI, (∀ a b, ¬ a = 177 → Y a b = B a b) → F_X12_knownMany Y J2 = nI n) : ∀ k i (Y : SI) N, i + k = n → k < N → (∀ a b, ¬ a = 177 → Y a b = B a b) → (∀ j, j < i → Y 177 j = 0) → ∃ e Y', itW (B_X12_struckHow_w19 a0 I2 J2) N (nI i, Y) = some (e, Y') ∧ (∀ a b, ¬ a = 177 → Y' a b = B a b) ∧ ∀ j, j < n → Y' 177 j = 0 := by
  intro k
  induction k with
  | zero =>
    intro i Y N hi hN h1 h2
    obtain ⟨N, rfl⟩ : ∃ x, N = x + 1 := ⟨N - 1, by omega⟩
    have ei : i = n := by omega
    subst ei
    refine ⟨nI i, Y, itW_r _ _ _ _ ?_, h1, h2⟩
    unfold B_X12_struckHow_w19
    exact if_pos (show F_X12_knownMany Y J2 ≤ nI i by rw [e Y h1]; exact nI_le (Nat.le_refl _) (by omega))
  | succ k ih =>
    intro i Y N hi hN h1 h2
    obtain ⟨N, rfl⟩ : ∃ x, N = x + 1 := ⟨N - 1, by omega⟩
    have b : B_X12_struckHow_w19 a0 I2 J2 (nI i, Y) = .inl (nI (i + 1), u2 Y 177 i 0) := by
      unfold B_X12_struckHow_w19
      refine (if_neg (show ¬ F_X12_knownMany Y J2 ≤ nI i by rw [e Y h1]; exact nI_ge (by omega) (by omega))).trans ?_
      show Sum.inl (nI i + 1, u2 Y 177 (nI i).toNatClampNeg (vp_nar .boolean 0)) = _
      rw [nI_clamp (show i < 2 ^ 31 by omega), nI_1]
      rfl
    rw [itW_l _ _ _ _ b]
    refine ih (i + 1) _ N (by omega) (by omega) (fun a b q => (u2_n _ _ (by omega)).trans (h1 a b q)) (fun j hj => ?_)
    by_cases q : j = i
    · subst q; exact u2_s _ _ _ _
    · rw [u2_n _ _ (by omega)]
      exact h2 j (by omega)
theorem stand_v {a0 : Int32} {A B : SI} {J J' : SJ} (s : GSE A B) (r : GSR A B) : ∃ c n, c ≤ 24 ∧ n ≤ c ∧ A 116 0 = nI c ∧ (∀ Z : SI, Z 130 68 = B 130 68 → Z 130 69 = B 130 69 → F_X12_knownMany Z J' = nI n) ∧ (∀ a b, ¬ a = 177 → S1_X12_struckHow a0 B J' a b = u2 B 130 0 0 a b) ∧ (∀ i, i < 24 → (bt (F_X6_knownOnes A J) i = true ↔ i < n ∧ S1_X12_struckHow a0 B J' 177 i = 0 ∧ S1_X12_struckHow a0 B J' 176 i = -1)) ∧ ∀ i, i < c → ER A B i := by
  obtain ⟨c, n, hc, hn, e, k1, k2, er⟩ := kn_v (J := J) (J' := J') s r
  have km : ∀ Z : SI, Z 130 68 = B 130 68 → Z 130 69 = B 130 69 → F_X12_knownMany Z J' = nI n := fun Z z1 z2 => by
    unfold F_X12_knownMany at k2 ⊢
    rw [z1, z2]
    exact k2
  have er0 : ∀ i, i < c → ER A (u2 B 130 0 0) i := fun i hi => (er i hi).mv rfl rfl rfl (u2_n _ _ (by omega)) (u2_n _ _ (by omega)) (u2_n _ _ (by omega)) (u2_n _ _ (by omega))
  obtain ⟨e19, Y0, w19, y1, y2⟩ := flag_v (n := n) (a0 := a0) (B := u2 B 130 0 0) (I2 := B) (J := J) (J2 := J') (by omega) (fun Y h => km Y ((h _ _ (by omega)).trans (u2_n _ _ (by omega))) ((h _ _ (by omega)).trans (u2_n _ _ (by omega)))) n 0 (u2 B 130 0 0) 800 (by omega) (by omega) (fun _ _ _ => rfl) (fun j hj => absurd hj (Nat.not_lt_zero j))
  have f19 : F_X12_struckHow_w19 a0 B J' (0, u2 B 130 0 0) = (e19, Y0) := by
    unfold F_X12_struckHow_w19
    exact congrArg (fun o => Option.getD o (0, u2 B 130 0 0)) w19
  have tz : ∀ i, bt 0 i = false := fun i => by
    unfold bt
    show (0#32).getLsbD i = false
    simp
  have v0 : INV n n 0 0 (u2 B 130 0 0) Y0 := ⟨fun i hi => by
    rw [tz, y2 i hi]
    exact ⟨fun y => absurd y (by decide), fun y => absurd rfl y⟩, fun i hi => by
    rw [tz]
    exact ⟨fun y => absurd y (by decide), fun y => absurd y.2.1 (by omega)⟩, y1⟩
  obtain ⟨t1, t2, e1, Y', e2, o1, o2, v1, v2, v3⟩ := ones_v (a0 := a0) (I2 := B) (J := J) (J2 := J') hc hn er0 n (Nat.le_refl _) 0 0 Y0 800 800 (by omega) (by omega) v0
  have g1 : F_X6_knownOnes A J = t2 := by
    unfold F_X6_knownOnes F_X6_knownOnes_w11
    rw [k1, o1]
    rfl
  have g2 : S1_X12_struckHow a0 B J' = Y' := by
    unfold S1_X12_struckHow F_X12_struckHow_w47
    rw [f19]
    show ((itW (B_X12_struckHow_w47 a0 B J') 800 (F_X12_knownMany Y0 J' - 1, Y0)).getD (F_X12_knownMany Y0 J' - 1, Y0)).2 = Y'
    rw [km Y0 ((y1 _ _ (by omega)).trans (u2_n _ _ (by omega))) ((y1 _ _ (by omega)).trans (u2_n _ _ (by omega))), o2]
    rfl
  rw [g1, g2]
  refine ⟨c, n, hc, hn, e, km, v3, fun i hi => ?_, er⟩
  rw [v2 i hi, v3 176 i (by omega)]
  exact ⟨fun y => y.2, fun y => ⟨Nat.zero_le _, y⟩⟩
/-- the last day that counts -/
theorem max_b {a b : Nat} : ∃ k, (k = a ∨ k = b) ∧ maxI (nI a) (nI b) = nI k := by
  unfold maxI
  split
  · exact ⟨b, Or.inr rfl, rfl⟩
  · exact ⟨a, Or.inl rfl, rfl⟩
theorem last_v {c n : Nat} {a0 ones : Int32} {A B : SI} {J J' : SJ} (hc : c ≤ 24) (hn : n ≤ c) (e : A 116 0 = nI c) (km : F_X12_knownMany (S1_X12_struckHow a0 B J') J' = nI n) (er : ∀ i, i < c → ER A B i) (b3 : ∀ i, S1_X12_struckHow a0 B J' 173 i = B 173 i) (b6 : ∀ i, S1_X12_struckHow a0 B J' 176 i = B 176 i) (on : ∀ i, i < 24 → (bt ones i = true ↔ i < n ∧ S1_X12_struckHow a0 B J' 177 i = 0 ∧ S1_X12_struckHow a0 B J' 176 i = -1)) (k7 : ∀ b, b < 24 → inR (A 117 b) 41) : F_X6_lastDay ones A J = F_X12_struckHow_l90 a0 B J' 0 ∧ ∃ L, L ≤ 40 ∧ F_X12_struckHow_l90 a0 B J' 0 = nI L := by
  have e1 : F_X6_lastDay ones A J = F_X12_struckHow_l90 a0 B J' 0 := by
    unfold F_X6_lastDay F_X6_lastDay_l4 F_X12_struckHow_l90
    rw [e, km, nI_clamp (show c < 2 ^ 31 by omega), nI_clamp (show n < 2 ^ 31 by omega)]
    refine itN_cut hn (fun i hi x => ?_) (fun i h1 h2 x => ?_)
    · have i24 : i < 24 := by omega
      unfold B_X6_lastDay_l4 B_X12_struckHow_l90
      rw [atF_v i24 (by omega), nI_clamp (show i < 2 ^ 31 by omega)]
      by_cases q : bt ones i = true
      · have w := (on i i24).mp q
        have nb : ¬ (ones >>> (nI i &&& 31)) &&& 1 = 0 := fun y => by rw [(bt_get i24).mp y] at q; exact absurd q (by decide)
        rw [if_neg nb, if_pos w.2.1, if_pos w.2.2, b3]
        rcases (er i (by omega)).m1 i24 with ⟨_, _, h3, _⟩ | ⟨h6, _⟩
        · rw [h3]
        · exact absurd ((b6 i).symm.trans w.2.2) h6
      · have qf : bt ones i = false := by cases z : bt ones i with | true => exact absurd z q | false => rfl
        rw [if_pos ((bt_get i24).mpr qf)]
        by_cases w1 : S1_X12_struckHow a0 B J' 177 i = 0
        · rw [if_pos w1]
          by_cases w2 : S1_X12_struckHow a0 B J' 176 i = -1
          · exact absurd ((on i i24).mpr ⟨hi, w1, w2⟩) q
          · rw [if_neg w2]
        · rw [if_neg w1]
    · have i24 : i < 24 := by omega
      have qf : bt ones i = false := by
        cases z : bt ones i with
        | true => exact absurd ((on i i24).mp z).1 (by omega)
        | false => rfl
      unfold B_X6_lastDay_l4
      exact if_pos ((bt_get i24).mpr qf)
  refine ⟨e1, ?_⟩
  rw [← e1]
  unfold F_X6_lastDay F_X6_lastDay_l4
  rw [e, nI_clamp (show c < 2 ^ 31 by omega)]
  refine itN_inv (P := fun x => ∃ L, L ≤ 40 ∧ x = nI L) ⟨0, by omega, rfl⟩ (fun i x hi h => ?_)
  obtain ⟨L, hL, rfl⟩ := h
  unfold B_X6_lastDay_l4
  split
  · exact ⟨L, hL, rfl⟩
  · rw [atF_v (show i < 24 by omega) (by omega)]
    obtain ⟨d, hd, ed⟩ := (k7 i (by omega)).n
    rw [ed]
    obtain ⟨k, hk, em⟩ := max_b (a := L) (b := d)
    exact ⟨k, by omega, em⟩
theorem fits_v {c n nm ns : Nat} {day ones : Int32} {A X Y Z : SI} {JX K J' : SJ} (hc : c ≤ 24) (hn : n ≤ c) (e : A 116 0 = nI c) (sc : SCT 105 1 nm ns X JX Z) (ka : ∀ a b, 116 ≤ a → a ≤ 119 → X a b = A a b) (kz : ∀ a b, 173 ≤ a → a ≤ 177 → Z a b = Y a b) (km : F_X12_knownMany Z K = nI n) (er : ∀ i, i < c → ER A Y i) (on : ∀ i, i < 24 → (bt ones i = true ↔ i < n ∧ Y 177 i = 0 ∧ Y 176 i = -1)) (k4 : ∀ b, b < 24 → inR (Y 174 b) 6) : F_X6_fits ones day 110 6 X JX = F_X12_fits day Z K := by
  have x0 : X 116 0 = nI c := (ka _ _ (by omega) (by omega)).trans e
  have lt := fun (i : Nat) (hi : i < n) => show B_X6_fits_l3 ones day 110 6 X JX i () = B_X12_fits_l2 day Z K i () by
    have i24 : i < 24 := by omega
    have cl : (nI i).toNatClampNeg = i := nI_clamp (by omega)
    have x7 : atF (X 117) 24 (nI i) = A 117 i := (atF_v i24 (by omega)).trans (ka _ _ (by omega) (by omega))
    have x8 : atF (X 118) 24 (nI i) = A 118 i := (atF_v i24 (by omega)).trans (ka _ _ (by omega) (by omega))
    have x9 : atF (X 119) 24 (nI i) = A 119 i := (atF_v i24 (by omega)).trans (ka _ _ (by omega) (by omega))
    unfold B_X6_fits_l3 B_X12_fits_l2 T_X6_fits_j39 T_X6_fits_j62 T_X12_fits_j65
    rw [cl, x7, x8, x9, kz 177 i (by omega) (by omega), kz 176 i (by omega) (by omega), kz 173 i (by omega) (by omega), kz 174 i (by omega) (by omega), kz 175 i (by omega) (by omega)]
    by_cases q : bt ones i = true
    · have w := (on i i24).mp q
      have nb : ¬ (ones >>> (nI i &&& 31)) &&& 1 = 0 := fun y => by rw [(bt_get i24).mp y] at q; exact absurd q (by decide)
      rw [if_neg nb, if_pos w.2.1, if_pos w.2.2]
      rcases (er i (by omega)).m1 i24 with ⟨_, _, h3, h4, h5⟩ | ⟨h6, _⟩
      · rw [h3, h4, h5]
        obtain ⟨m, hm, em⟩ := (k4 i i24).n
        have sm := sc.2.2.2.2.1 m hm
        have e6 : ((6 : Int32) + nI m).toNatClampNeg = 6 * 1 + m := by
          have e : (6 : Int32) + nI m = nI (6 + m) := nI_add 6 m
          rw [e, nI_clamp (by omega)]
        have s1 : X 110 m = Z 160 (6 * 1 + m) := sm.1.1
        have s2 : X 110 m < 0 ↔ X 110 m = -1 := m1_nn sm.2.1
        rw [em, atF_v hm (by omega), e6, ← s1]
        by_cases d : Y 173 i = day
        · rw [if_pos d, if_pos d, if_neg (show ¬ (1 : Int32) = 0 by decide)]
          by_cases t : X 110 m < 0
          · rw [if_pos t, if_pos (s2.mp t)]
          · rw [if_neg t, if_neg (fun y => t (s2.mpr y))]
        · rw [if_neg d, if_neg d, if_pos rfl]
      · exact absurd w.2.2 h6
    · have qf : bt ones i = false := by cases z : bt ones i with | true => exact absurd z q | false => rfl
      rw [if_pos ((bt_get i24).mpr qf), if_pos rfl]
      by_cases w1 : Y 177 i = 0
      · rw [if_pos w1]
        by_cases w2 : Y 176 i = -1
        · exact absurd ((on i i24).mpr ⟨hi, w1, w2⟩) q
        · rw [if_neg w2]
      · rw [if_neg w1]
  have ge := fun (i : Nat) (h1 : n ≤ i) (h2 : i < c) => show B_X6_fits_l3 ones day 110 6 X JX i () = .inl () by
    have i24 : i < 24 := by omega
    have qf : bt ones i = false := by
      cases z : bt ones i with
      | true => exact absurd ((on i i24).mp z).1 (by omega)
      | false => rfl
    unfold B_X6_fits_l3 T_X6_fits_j39
    rw [if_pos ((bt_get i24).mpr qf), if_pos rfl]
  have cg : itE (B_X6_fits_l3 ones day 110 6 X JX) n 0 () = itE (B_X12_fits_l2 day Z K) n 0 () := itE_cg n 0 () (fun j _ hj _ => lt j (by omega))
  have ad := itE_add (f := B_X6_fits_l3 ones day 110 6 X JX) n (c - n) 0 ()
  have big : itE (B_X6_fits_l3 ones day 110 6 X JX) c 0 () = itE (B_X12_fits_l2 day Z K) n 0 () := by
    rw [show n + (c - n) = c by omega] at ad
    rw [← cg]
    cases q : itE (B_X6_fits_l3 ones day 110 6 X JX) n 0 () with
    | inl u => exact (ad.1 u q).trans (itE_id _ _ (fun j h1 h2 => ge j (by omega) (by omega)))
    | inr r => exact ad.2 r q
  unfold F_X6_fits F_X12_fits F_X6_fits_l3 F_X12_fits_l2
  rw [x0, km, nI_clamp (show c < 2 ^ 31 by omega), nI_clamp (show n < 2 ^ 31 by omega), big]
  cases itE (B_X12_fits_l2 day Z K) n 0 () <;> rfl
theorem fits_01 {day : Int32} {Z : SI} {K : SJ} : F_X12_fits day Z K = 0 ∨ F_X12_fits day Z K = 1 := by
  have q := itE_inv (f := B_X12_fits_l2 day Z K) (s0 := ()) (fun _ => True) (fun r => r = 0) trivial (fun _ _ _ _ _ => trivial) (fun i s r _ h => by
    unfold B_X12_fits_l2 at h
    repeat' split at h
    all_goals first
      | exact (Sum.inr.inj h).symm
      | exact nomatch h)
  unfold F_X12_fits F_X12_fits_l2
  cases e : itE (B_X12_fits_l2 day Z K) (F_X12_knownMany Z K).toNatClampNeg 0 () with
  | inl u => exact Or.inr rfl
  | inr r => exact Or.inl (q.2 _ r e)
