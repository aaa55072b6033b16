/-! both: scenes copied -/
theorem cpF_s {I : SI} {r0 r1 n b : Nat} (h : b < n) : cpF I r0 r1 n r1 b = I r0 b := if_pos ⟨rfl, h⟩
/-- the class copies a scene -/
theorem copy_v {k a0 : Nat} {I : SI} {J : SJ} (hd : k + 8 < a0 ∨ a0 + 8 < k) : ∀ j b, j ≤ 8 → b < szc j → FI_X5_copy k a0 I J (k + j) b = I (a0 + j) b := by
  have y1 : S1_X5_copy k a0 I J = u2 (u2 (u2 I k 0 (I a0 0)) k 1 (I a0 1)) k 2 (I a0 2) := by
    unfold S1_X5_copy
    rw [u2_n _ _ (show ¬ (a0 = k ∧ 1 = 0) by omega), u2_n _ _ (show ¬ (a0 = k ∧ 2 = 1) by omega), u2_n _ _ (show ¬ (a0 = k ∧ 2 = 0) by omega)]
  have y2 : S2_X5_copy k a0 I J = u2 (u2 (S1_X5_copy k a0 I J) k 3 (I a0 3)) k 4 (I a0 4) := by
    unfold S2_X5_copy
    rw [u2_n _ _ (show ¬ (a0 = k ∧ 4 = 3) by omega), y1, u2_n _ _ (show ¬ (a0 = k ∧ 3 = 2) by omega), u2_n _ _ (show ¬ (a0 = k ∧ 3 = 1) by omega), u2_n _ _ (show ¬ (a0 = k ∧ 3 = 0) by omega), u2_n _ _ (show ¬ (a0 = k ∧ 4 = 2) by omega), u2_n _ _ (show ¬ (a0 = k ∧ 4 = 1) by omega), u2_n _ _ (show ¬ (a0 = k ∧ 4 = 0) by omega)]
  have y2o : ∀ a b, ¬ a = k → S2_X5_copy k a0 I J a b = I a b := fun a b h => by
    rw [y2, y1, u2_n _ _ (by omega), u2_n _ _ (by omega), u2_n _ _ (by omega), u2_n _ _ (by omega), u2_n _ _ (by omega)]
  have y3 : S3_X5_copy k a0 I J = cpF (u2 (S2_X5_copy k a0 I J) k 5 (I a0 5)) (a0 + 1) (k + 1) 8 := by
    unfold S3_X5_copy
    rw [y2o a0 5 (by omega)]
  have y3o : ∀ a b, ¬ (k ≤ a ∧ a ≤ k + 8) → u2 (S2_X5_copy k a0 I J) k 5 (I a0 5) a b = I a b := fun a b h => by
    rw [u2_n _ _ (by omega)]
    exact y2o a b (by omega)
  have y30 : ∀ b, b < 6 → u2 (S2_X5_copy k a0 I J) k 5 (I a0 5) k b = I a0 b := fun b hb => by
    rw [y2, y1]
    rcases (by omega : b = 0 ∨ b = 1 ∨ b = 2 ∨ b = 3 ∨ b = 4 ∨ b = 5) with rfl | rfl | rfl | rfl | rfl | rfl
    · rw [u2_n _ _ (by omega), u2_n _ _ (by omega), u2_n _ _ (by omega), u2_n _ _ (by omega), u2_n _ _ (by omega), u2_s]
    · rw [u2_n _ _ (by omega), u2_n _ _ (by omega), u2_n _ _ (by omega), u2_n _ _ (by omega), u2_s]
    · rw [u2_n _ _ (by omega), u2_n _ _ (by omega), u2_n _ _ (by omega), u2_s]
    · rw [u2_n _ _ (by omega), u2_n _ _ (by omega), u2_s]
    · rw [u2_n _ _ (by omega), u2_s]
    · rw [u2_s]
  generalize u2 (S2_X5_copy k a0 I J) k 5 (I a0 5) = Y at y3 y3o y30
  have e : FI_X5_copy k a0 I J = cpF (cpF (cpF (cpF (cpF (cpF (cpF (cpF Y (a0 + 1) (k + 1) 8) (a0 + 2) (k + 2) 8) (a0 + 3) (k + 3) 8) (a0 + 4) (k + 4) 48) (a0 + 5) (k + 5) 6) (a0 + 6) (k + 6) 6) (a0 + 7) (k + 7) 4) (a0 + 8) (k + 8) 4 := by
    unfold FI_X5_copy S5_X5_copy S4_X5_copy
    rw [y3]
  rw [e]
  intro j b hj hb
  have z : ∀ i, i ≤ 8 → Y (a0 + i) b = I (a0 + i) b := fun i hi => y3o _ _ (by omega)
  rcases (by omega : j = 0 ∨ j = 1 ∨ j = 2 ∨ j = 3 ∨ j = 4 ∨ j = 5 ∨ j = 6 ∨ j = 7 ∨ j = 8) with rfl | rfl | rfl | rfl | rfl | rfl | rfl | rfl | rfl
  · rw [cpF_n (by omega), cpF_n (by omega), cpF_n (by omega), cpF_n (by omega), cpF_n (by omega), cpF_n (by omega), cpF_n (by omega), cpF_n (by omega)]
    exact y30 b hb
  · rw [cpF_n (by omega), cpF_n (by omega), cpF_n (by omega), cpF_n (by omega), cpF_n (by omega), cpF_n (by omega), cpF_n (by omega), cpF_s (show b < 8 from hb)]
    exact z 1 (by omega)
  · rw [cpF_n (by omega), cpF_n (by omega), cpF_n (by omega), cpF_n (by omega), cpF_n (by omega), cpF_n (by omega), cpF_s (show b < 8 from hb), cpF_n (by omega)]
    exact z 2 (by omega)
  · rw [cpF_n (by omega), cpF_n (by omega), cpF_n (by omega), cpF_n (by omega), cpF_n (by omega), cpF_s (show b < 8 from hb), cpF_n (by omega), cpF_n (by omega)]
    exact z 3 (by omega)
  · rw [cpF_n (by omega), cpF_n (by omega), cpF_n (by omega), cpF_n (by omega), cpF_s (show b < 48 from hb), cpF_n (by omega), cpF_n (by omega), cpF_n (by omega)]
    exact z 4 (by omega)
  · rw [cpF_n (by omega), cpF_n (by omega), cpF_n (by omega), cpF_s (show b < 6 from hb), cpF_n (by omega), cpF_n (by omega), cpF_n (by omega), cpF_n (by omega)]
    exact z 5 (by omega)
  · rw [cpF_n (by omega), cpF_n (by omega), cpF_s (show b < 6 from hb), cpF_n (by omega), cpF_n (by omega), cpF_n (by omega), cpF_n (by omega), cpF_n (by omega)]
    exact z 6 (by omega)
  · rw [cpF_n (by omega), cpF_s (show b < 4 from hb), cpF_n (by omega), cpF_n (by omega), cpF_n (by omega), cpF_n (by omega), cpF_n (by omega), cpF_n (by omega)]
    exact z 7 (by omega)
  · rw [cpF_s (show b < 4 from hb), cpF_n (by omega), cpF_n (by omega), cpF_n (by omega), cpF_n (by omega), cpF_n (by omega), cpF_n (by omega), cpF_n (by omega)]
    exact z 8 (by omega)
/-- the reference copies rows of a set: a loop's round -/
def CPR (r0 r1 r2 m p q n : Nat) (I S : SI) : Prop := (∀ i, i < n → S r0 (m * p + i) = I r0 (m * q + i) ∧ S r1 (m * p + i) = I r1 (m * q + i) ∧ S r2 (m * p + i) = I r2 (m * q + i)) ∧ ∀ a b, ¬ ((a = r0 ∨ a = r1 ∨ a = r2) ∧ m * p ≤ b ∧ b < m * p + n) → S a b = I a b
theorem mul_ap {m p q : Nat} (h : p < q) : m * p + m ≤ m * q := by
  have : m * (p + 1) ≤ m * q := Nat.mul_le_mul_left m h
  rw [Nat.mul_add, Nat.mul_one] at this
  exact this
theorem cp_row {g : Nat → SI → SI} {r0 r1 r2 m p q : Nat} (hpq : p ≠ q) (hr : (r0 ≠ r1 ∨ r0 = r1) ∧ True) (hg : ∀ i S, i < m → g i S = u2 (u2 (u2 S r0 (m * p + i) (S r0 (m * q + i))) r1 (m * p + i) (S r1 (m * q + i))) r2 (m * p + i) (S r2 (m * q + i))) (s0 : SI) : ∀ n, n ≤ m → CPR r0 r1 r2 m p q n s0 (itN g n s0) := by
  intro n
  induction n with
  | zero => intro _; rw [itN_0]; exact ⟨fun i hi => absurd hi (Nat.not_lt_zero i), fun _ _ _ => rfl⟩
  | succ n ih =>
    intro hn
    obtain ⟨i1, i2⟩ := ih (by omega)
    rw [itN_s, hg n _ (by omega)]
    generalize itN g n s0 = S at *
    have ap : ∀ i j, i < m → j < m → m * p + i ≠ m * q + j := fun i j hi hj => by
      rcases Nat.lt_or_gt_of_ne hpq with h | h
      · have := mul_ap (m := m) h; omega
      · have := mul_ap (m := m) h; omega
    have src : ∀ r, S r (m * q + n) = s0 r (m * q + n) := fun r => i2 r _ (fun z => by
      rcases Nat.lt_or_gt_of_ne hpq with h | h
      · have := mul_ap (m := m) h; omega
      · have := mul_ap (m := m) h; omega)
    rw [src r0, src r1, src r2]
    refine ⟨fun i hi => ?_, fun a b z => ?_⟩
    · have cell : ∀ r, r = r0 ∨ r = r1 ∨ r = r2 → u2 (u2 (u2 S r0 (m * p + n) (s0 r0 (m * q + n))) r1 (m * p + n) (s0 r1 (m * q + n))) r2 (m * p + n) (s0 r2 (m * q + n)) r (m * p + i) = s0 r (m * q + i) := fun r hr => by
        by_cases y : i = n
        · subst y
          by_cases h2 : r = r2
          · subst h2; rw [u2_s]
          · rw [u2_n _ _ (fun w => h2 w.1)]
            by_cases h1 : r = r1
            · subst h1; rw [u2_s]
            · rw [u2_n _ _ (fun w => h1 w.1)]
              have h0 : r = r0 := by omega
              subst h0; rw [u2_s]
        · have k := i1 i (by omega)
          rw [u2_n _ _ (by omega), u2_n _ _ (by omega), u2_n _ _ (by omega)]
          rcases hr with rfl | rfl | rfl
          · exact k.1
          · exact k.2.1
          · exact k.2.2
      exact ⟨cell r0 (Or.inl rfl), cell r1 (Or.inr (Or.inl rfl)), cell r2 (Or.inr (Or.inr rfl))⟩
    · rw [u2_n _ _ (by omega), u2_n _ _ (by omega), u2_n _ _ (by omega)]
      exact i2 a b (by omega)
theorem u2_ss {g : SI} {a b : Nat} {v w : Int32} (h : w = v) : u2 (u2 g a b v) a b w = u2 g a b v := by
  subst h
  funext x y
  by_cases q : x = a ∧ y = b
  · obtain ⟨rfl, rfl⟩ := q
    rw [u2_s, u2_s]
  · rw [u2_n _ _ q]
/-- the reference copies a set: to p, as q -/
theorem copies_v {p q : Nat} {I : SI} {J : SJ} (hp : p ≤ 22) (hq : q ≤ 22) (hpq : p ≠ q) : (∀ a i, 154 ≤ a → a ≤ 167 → i < szm a → FI_X12_copies (nI p) (nI q) I J a (szm a * p + i) = I a (szm a * q + i)) ∧ ∀ a b, ¬ inS p a b → FI_X12_copies (nI p) (nI q) I J a b = I a b := by
  have cp : ∀ {n i : Nat} (m : Nat), m ≤ 48 → n ≤ 22 → i < 48 → (((nI m) * nI n) + nI i).toNatClampNeg = m * n + i := fun {n i} m hm hn hi => cell_v (by
    have : m * n ≤ 48 * 22 := Nat.mul_le_mul hm hn
    omega)
  have s5 : S5_X12_copies (nI p) (nI q) I J = u2 (u2 (u2 (u2 (u2 (u2 I 154 p (I 154 q)) 155 p (I 155 q)) 156 p (I 156 q)) 157 p (I 157 q)) 158 p (I 158 q)) 159 p (I 159 q) := by
    unfold S5_X12_copies S4_X12_copies S3_X12_copies S2_X12_copies S1_X12_copies
    rw [nI_clamp (show p < 2 ^ 31 by omega), nI_clamp (show q < 2 ^ 31 by omega)]
    have n1 : ∀ (X : SI) (a c : Nat) (v : Int32), ¬ a = c → u2 X c p v a q = X a q := fun X a c v h => u2_n _ _ (fun w => h w.1)
    rw [n1 _ 155 154 _ (by omega), n1 _ 156 155 _ (by omega), n1 _ 156 154 _ (by omega), n1 _ 157 156 _ (by omega), n1 _ 157 155 _ (by omega), n1 _ 157 154 _ (by omega), n1 _ 158 157 _ (by omega), n1 _ 158 156 _ (by omega), n1 _ 158 155 _ (by omega), n1 _ 158 154 _ (by omega), n1 _ 159 158 _ (by omega), n1 _ 159 157 _ (by omega), n1 _ 159 156 _ (by omega), n1 _ 159 155 _ (by omega), n1 _ 159 154 _ (by omega)]
  have f5 : ∀ a b, ¬ (154 ≤ a ∧ a ≤ 159 ∧ b = p) → S5_X12_copies (nI p) (nI q) I J a b = I a b := fun a b h => by
    rw [s5, u2_n _ _ (by omega), u2_n _ _ (by omega), u2_n _ _ (by omega), u2_n _ _ (by omega), u2_n _ _ (by omega), u2_n _ _ (by omega)]
  have g5 : ∀ a, 154 ≤ a → a ≤ 159 → S5_X12_copies (nI p) (nI q) I J a p = I a q := fun a h1 h2 => by
    rw [s5]
    rcases (by omega : a = 154 ∨ a = 155 ∨ a = 156 ∨ a = 157 ∨ a = 158 ∨ a = 159) with rfl | rfl | rfl | rfl | rfl | rfl
    · rw [u2_n _ _ (by omega), u2_n _ _ (by omega), u2_n _ _ (by omega), u2_n _ _ (by omega), u2_n _ _ (by omega), u2_s]
    · rw [u2_n _ _ (by omega), u2_n _ _ (by omega), u2_n _ _ (by omega), u2_n _ _ (by omega), u2_s]
    · rw [u2_n _ _ (by omega), u2_n _ _ (by omega), u2_n _ _ (by omega), u2_s]
    · rw [u2_n _ _ (by omega), u2_n _ _ (by omega), u2_s]
    · rw [u2_n _ _ (by omega), u2_s]
    · rw [u2_s]
  have w1 := cp_row (g := B_X12_copies_l74 (nI p) (nI q) I J) (r0 := 160) (r1 := 161) (r2 := 161) (m := 6) hpq ⟨Or.inl (by decide), trivial⟩ (fun i S hi => by
    unfold B_X12_copies_l74 S15_X12_copies S14_X12_copies
    rw [show (6 : Int32) = nI 6 from rfl, cp 6 (by omega) hp (by omega), cp 6 (by omega) hq (by omega), u2_n _ _ (show ¬ ((161 : Nat) = 160 ∧ 6 * q + i = 6 * p + i) by omega)]
    exact (u2_ss rfl).symm) (S5_X12_copies (nI p) (nI q) I J) 6 (Nat.le_refl _)
  have e1 : itN (B_X12_copies_l74 (nI p) (nI q) I J) 6 (S5_X12_copies (nI p) (nI q) I J) = F_X12_copies_l74 (nI p) (nI q) I J (S5_X12_copies (nI p) (nI q) I J) := rfl
  rw [e1] at w1
  have w2 := cp_row (g := B_X12_copies_l132 (nI p) (nI q) I J) (r0 := 162) (r1 := 163) (r2 := 164) (m := 8) hpq ⟨Or.inl (by decide), trivial⟩ (fun i S hi => by
    unfold B_X12_copies_l132 S13_X12_copies S12_X12_copies S11_X12_copies
    rw [show (8 : Int32) = nI 8 from rfl, cp 8 (by omega) hp (by omega), cp 8 (by omega) hq (by omega), u2_n _ _ (show ¬ ((163 : Nat) = 162 ∧ 8 * q + i = 8 * p + i) by omega), u2_n _ _ (show ¬ ((164 : Nat) = 163 ∧ 8 * q + i = 8 * p + i) by omega), u2_n _ _ (show ¬ ((164 : Nat) = 162 ∧ 8 * q + i = 8 * p + i) by omega)]) (F_X12_copies_l74 (nI p) (nI q) I J (S5_X12_copies (nI p) (nI q) I J)) 8 (Nat.le_refl _)
  have e2 : itN (B_X12_copies_l132 (nI p) (nI q) I J) 8 (F_X12_copies_l74 (nI p) (nI q) I J (S5_X12_copies (nI p) (nI q) I J)) = S6_X12_copies (nI p) (nI q) I J := rfl
  rw [e2] at w2
  have w3 := cp_row (g := B_X12_copies_l212 (nI p) (nI q) I J) (r0 := 165) (r1 := 165) (r2 := 165) (m := 48) hpq ⟨Or.inr rfl, trivial⟩ (fun i S hi => by
    unfold B_X12_copies_l212 S10_X12_copies
    rw [show (48 : Int32) = nI 48 from rfl, cp 48 (by omega) hp (by omega), cp 48 (by omega) hq (by omega)]
    rw [u2_ss rfl, u2_ss rfl]) (S6_X12_copies (nI p) (nI q) I J) 48 (Nat.le_refl _)
  have e3 : itN (B_X12_copies_l212 (nI p) (nI q) I J) 48 (S6_X12_copies (nI p) (nI q) I J) = F_X12_copies_l212 (nI p) (nI q) I J (S6_X12_copies (nI p) (nI q) I J) := rfl
  rw [e3] at w3
  have w4 := cp_row (g := B_X12_copies_l248 (nI p) (nI q) I J) (r0 := 166) (r1 := 167) (r2 := 167) (m := 4) hpq ⟨Or.inl (by decide), trivial⟩ (fun i S hi => by
    unfold B_X12_copies_l248 S9_X12_copies S8_X12_copies
    rw [show (4 : Int32) = nI 4 from rfl, cp 4 (by omega) hp (by omega), cp 4 (by omega) hq (by omega), u2_n _ _ (show ¬ ((167 : Nat) = 166 ∧ 4 * q + i = 4 * p + i) by omega)]
    exact (u2_ss rfl).symm) (F_X12_copies_l212 (nI p) (nI q) I J (S6_X12_copies (nI p) (nI q) I J)) 4 (Nat.le_refl _)
  have e4 : itN (B_X12_copies_l248 (nI p) (nI q) I J) 4 (F_X12_copies_l212 (nI p) (nI q) I J (S6_X12_copies (nI p) (nI q) I J)) = FI_X12_copies (nI p) (nI q) I J := rfl
  rw [e4] at w4
  generalize F_X12_copies_l74 (nI p) (nI q) I J (S5_X12_copies (nI p) (nI q) I J) = Y1 at *
  generalize S5_X12_copies (nI p) (nI q) I J = Y0 at *
  generalize F_X12_copies_l212 (nI p) (nI q) I J (S6_X12_copies (nI p) (nI q) I J) = Y3 at *
  generalize S6_X12_copies (nI p) (nI q) I J = Y2 at *
  generalize FI_X12_copies (nI p) (nI q) I J = Y4 at *
  refine ⟨fun a i h1 h2 hi => ?_, fun a b h => ?_⟩
  · unfold szm at hi ⊢
    by_cases c1 : a ≤ 159
    · rw [if_pos c1] at hi ⊢
      have i0 : i = 0 := by omega
      subst i0
      rw [Nat.one_mul, Nat.one_mul, Nat.add_zero, Nat.add_zero, w4.2 a p (by omega), w3.2 a p (by omega), w2.2 a p (by omega), w1.2 a p (by omega)]
      exact g5 a h1 c1
    rw [if_neg c1] at hi ⊢
    by_cases c2 : a ≤ 161
    · rw [if_pos c2] at hi ⊢
      have k := w1.1 i hi
      rw [w4.2 a _ (by omega), w3.2 a _ (by omega), w2.2 a _ (by omega)]
      rcases (by omega : a = 160 ∨ a = 161) with rfl | rfl
      · rw [k.1]; exact f5 _ _ (by omega)
      · rw [k.2.1]; exact f5 _ _ (by omega)
    rw [if_neg c2] at hi ⊢
    by_cases c3 : a ≤ 164
    · rw [if_pos c3] at hi ⊢
      have k := w2.1 i hi
      rw [w4.2 a _ (by omega), w3.2 a _ (by omega)]
      rcases (by omega : a = 162 ∨ a = 163 ∨ a = 164) with rfl | rfl | rfl
      · rw [k.1, w1.2 _ _ (by omega)]; exact f5 _ _ (by omega)
      · rw [k.2.1, w1.2 _ _ (by omega)]; exact f5 _ _ (by omega)
      · rw [k.2.2, w1.2 _ _ (by omega)]; exact f5 _ _ (by omega)
    rw [if_neg c3] at hi ⊢
    by_cases c4 : a = 165
    · rw [if_pos c4] at hi ⊢
      subst c4
      rw [w4.2 165 _ (by omega), (w3.1 i hi).1, w2.2 _ _ (by omega), w1.2 _ _ (by omega)]
      exact f5 _ _ (by omega)
    rw [if_neg c4] at hi ⊢
    have k := w4.1 i hi
    rcases (by omega : a = 166 ∨ a = 167) with rfl | rfl
    · rw [k.1, w3.2 _ _ (by omega), w2.2 _ _ (by omega), w1.2 _ _ (by omega)]; exact f5 _ _ (by omega)
    · rw [k.2.1, w3.2 _ _ (by omega), w2.2 _ _ (by omega), w1.2 _ _ (by omega)]; exact f5 _ _ (by omega)
  · have nb : ∀ m, szm a = m → 154 ≤ a → a ≤ 167 → ¬ (m * p ≤ b ∧ b < m * p + m) := fun m e x y z => h ⟨x, y, by rw [e]; exact z.1, by rw [e]; exact z.2⟩
    have z1 : 154 ≤ a → a ≤ 159 → ¬ b = p := fun x y z => nb 1 (by unfold szm; rw [if_pos y]) x (by omega) (by omega)
    have z6 : (a = 160 ∨ a = 161) → ¬ (6 * p ≤ b ∧ b < 6 * p + 6) := fun x => nb 6 (by unfold szm; rw [if_neg (by omega), if_pos (by omega)]) (by omega) (by omega)
    have z8 : (a = 162 ∨ a = 163 ∨ a = 164) → ¬ (8 * p ≤ b ∧ b < 8 * p + 8) := fun x => nb 8 (by unfold szm; rw [if_neg (by omega), if_neg (by omega), if_pos (by omega)]) (by omega) (by omega)
    have z48 : a = 165 → ¬ (48 * p ≤ b ∧ b < 48 * p + 48) := fun x => nb 48 (by rw [x]; rfl) (by omega) (by omega)
    have z4 : (a = 166 ∨ a = 167) → ¬ (4 * p ≤ b ∧ b < 4 * p + 4) := fun x => nb 4 (by unfold szm; rw [if_neg (by omega), if_neg (by omega), if_neg (by omega), if_neg (by omega)]) (by omega) (by omega)
    rw [w4.2 a b (fun z => z4 (by omega) z.2), w3.2 a b (fun z => z48 (by omega) z.2), w2.2 a b (fun z => z8 (by omega) z.2), w1.2 a b (fun z => z6 (by omega) z.2)]
    exact f5 a b (fun z => z1 z.1 z.2.1 z.2.2)
/-- the class's days begin as the reference's run does -/
theorem SCT.cp {p q p' q' nm ns : Nat} {A B : SI} {JA J' : SJ} (h : SCT p q nm ns A JA B) (hn : ns ≤ 8) (hd : p' + 8 < p ∨ p + 8 < p') (hp : q' ≤ 22) (hq : q ≤ 22) (hpq : q' ≠ q) : SCT p' q' nm ns (FI_X5_copy p' p A JA) (FJ_X5_copy p' p A JA) (FI_X12_copies (nI q') (nI q) B J') := h.tr hn (copy_v hd) (u2_s _ _ _ _) (copies_v hp hq hpq).1
