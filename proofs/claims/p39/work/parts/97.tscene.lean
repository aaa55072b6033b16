/-! scenes alike: how the reference's begin -/
/-- a scene alike: the class's at place p, the reference's of set f -/
def SCN (p f : Nat) (A : SI) (JA : SJ) (B : SI) : Prop := (A p 0 = B 154 f ∧ A p 1 = B 156 f ∧ A p 2 = B 157 f ∧ A p 4 = B 159 f ∧ A p 5 = B 158 f ∧ JA p 6 = (B 155 f).toInt64) ∧ A p 3 = B 164 (8 * f) + B 164 (8 * f + 1) + B 164 (8 * f + 2) + B 164 (8 * f + 3) + B 164 (8 * f + 4) + B 164 (8 * f + 5) + B 164 (8 * f + 6) + B 164 (8 * f + 7) ∧ (∀ s, s < 8 → A (p + 1) s = B 162 (8 * f + s) ∧ A (p + 2) s = B 163 (8 * f + s) ∧ A (p + 3) s = B 164 (8 * f + s)) ∧ (A 8 1 = 0 ∨ ∀ i, i < 48 → A (p + 4) i = B 165 (48 * f + i)) ∧ (∀ m, m < 6 → A (p + 5) m = B 160 (6 * f + m) ∧ A (p + 6) m = B 161 (6 * f + m)) ∧ ∀ q, q < 4 → A (p + 7) q = B 166 (4 * f + q) ∧ A (p + 8) q = B 167 (4 * f + q)
/-- a loop that writes one cell of a row a round -/
def WR (r0 r1 r2 m f n : Nat) (V0 V1 V2 : Nat → Int32) (I S : SI) : Prop := (∀ i, i < n → S r0 (m * f + i) = V0 i ∧ S r1 (m * f + i) = V1 i ∧ S r2 (m * f + i) = V2 i) ∧ ∀ a b, ¬ ((a = r0 ∨ a = r1 ∨ a = r2) ∧ m * f ≤ b ∧ b < m * f + n) → S a b = I a b
theorem cell_v {m f i : Nat} (h : m * f + i < 2 ^ 31) : (((nI m) * nI f) + (nI i)).toNatClampNeg = m * f + i := by
  rw [nI_mul, nI_add, nI_clamp h]
theorem st56 {f : Nat} {I : SI} {J : SJ} {s0 : SI} (hf : f ≤ 22) : ∀ n, n ≤ 6 → WR 160 161 161 6 f n (fun _ => -1) (fun _ => 0) (fun _ => 0) s0 (itN (B_X12_starts_l56 (nI f) I J) n s0) := by
  intro n
  induction n with
  | zero => intro _; rw [itN_0]; exact ⟨fun i hi => absurd hi (by omega), fun _ _ _ => rfl⟩
  | succ n ih =>
    intro hn
    obtain ⟨i1, i2⟩ := ih (by omega)
    rw [itN_s]
    generalize itN (B_X12_starts_l56 (nI f) I J) n s0 = S at *
    unfold B_X12_starts_l56 S12_X12_starts
    rw [show (6 : Int32) = nI 6 from rfl, cell_v (by omega)]
    refine ⟨fun i hi => ?_, fun a b q => ?_⟩
    · by_cases y : i = n
      · subst y
        exact ⟨(u2_n _ _ (by omega)).trans (u2_s _ _ _ _), u2_s _ _ _ _, u2_s _ _ _ _⟩
      · have k := i1 i (by omega)
        exact ⟨(u2_n _ _ (by omega)).trans ((u2_n _ _ (by omega)).trans k.1), (u2_n _ _ (by omega)).trans ((u2_n _ _ (by omega)).trans k.2.1), (u2_n _ _ (by omega)).trans ((u2_n _ _ (by omega)).trans k.2.2)⟩
    · exact (u2_n _ _ (by omega)).trans ((u2_n _ _ (by omega)).trans (i2 a b (by omega)))
theorem st94 {f : Nat} {I : SI} {J : SJ} {s0 : SI} (hf : f ≤ 22) : ∀ n, n ≤ 8 → WR 162 163 164 8 f n (fun s => if s0 132 1 ≤ nI s then 0 else s0 138 s) (fun _ => 0) (fun _ => 0) s0 (itN (B_X12_starts_l94 (nI f) I J) n s0) := by
  intro n
  induction n with
  | zero => intro _; rw [itN_0]; exact ⟨fun i hi => absurd hi (by omega), fun _ _ _ => rfl⟩
  | succ n ih =>
    intro hn
    obtain ⟨i1, i2⟩ := ih (by omega)
    rw [itN_s]
    generalize itN (B_X12_starts_l94 (nI f) I J) n s0 = S at *
    have t : T_X12_starts_j130 (nI f) I J n S = if s0 132 1 ≤ nI n then 0 else s0 138 n := by
      unfold T_X12_starts_j130
      rw [i2 132 1 (by omega), nI_clamp (by omega), i2 138 n (by omega)]
    unfold B_X12_starts_l94 S11_X12_starts S10_X12_starts S9_X12_starts
    rw [show (8 : Int32) = nI 8 from rfl, cell_v (by omega), t]
    refine ⟨fun i hi => ?_, fun a b q => ?_⟩
    · by_cases y : i = n
      · subst y
        exact ⟨(u2_n _ _ (by omega)).trans ((u2_n _ _ (by omega)).trans (u2_s _ _ _ _)), (u2_n _ _ (by omega)).trans (u2_s _ _ _ _), u2_s _ _ _ _⟩
      · have k := i1 i (by omega)
        exact ⟨(u2_n _ _ (by omega)).trans ((u2_n _ _ (by omega)).trans ((u2_n _ _ (by omega)).trans k.1)), (u2_n _ _ (by omega)).trans ((u2_n _ _ (by omega)).trans ((u2_n _ _ (by omega)).trans k.2.1)), (u2_n _ _ (by omega)).trans ((u2_n _ _ (by omega)).trans ((u2_n _ _ (by omega)).trans k.2.2))⟩
    · exact (u2_n _ _ (by omega)).trans ((u2_n _ _ (by omega)).trans ((u2_n _ _ (by omega)).trans (i2 a b (by omega))))
theorem st163 {f : Nat} {I : SI} {J : SJ} {s0 : SI} (hf : f ≤ 22) : ∀ n, n ≤ 48 → WR 165 165 165 48 f n (fun i => s0 139 i) (fun i => s0 139 i) (fun i => s0 139 i) s0 (itN (B_X12_starts_l163 (nI f) I J) n s0) := by
  intro n
  induction n with
  | zero => intro _; rw [itN_0]; exact ⟨fun i hi => absurd hi (by omega), fun _ _ _ => rfl⟩
  | succ n ih =>
    intro hn
    obtain ⟨i1, i2⟩ := ih (by omega)
    rw [itN_s]
    generalize itN (B_X12_starts_l163 (nI f) I J) n s0 = S at *
    unfold B_X12_starts_l163 S8_X12_starts
    rw [show (48 : Int32) = nI 48 from rfl, cell_v (by omega), nI_clamp (by omega), i2 139 n (by omega)]
    refine ⟨fun i hi => ?_, fun a b q => ?_⟩
    · by_cases y : i = n
      · subst y
        exact ⟨u2_s _ _ _ _, u2_s _ _ _ _, u2_s _ _ _ _⟩
      · have k := i1 i (by omega)
        have e : ∀ v : Int32, u2 S 165 (48 * f + n) v 165 (48 * f + i) = S 165 (48 * f + i) := fun v => u2_n _ _ (by omega)
        exact ⟨(e _).trans k.1, (e _).trans k.1, (e _).trans k.1⟩
    · exact (u2_n _ _ (by omega)).trans (i2 a b (by omega))
theorem st194 {f : Nat} {I : SI} {J : SJ} {s0 : SI} (hf : f ≤ 22) : ∀ n, n ≤ 4 → WR 166 167 167 4 f n (fun q => if s0 132 3 ≤ nI q then 0 else s0 143 q) (fun _ => 0) (fun _ => 0) s0 (itN (B_X12_starts_l194 (nI f) I J) n s0) := by
  intro n
  induction n with
  | zero => intro _; rw [itN_0]; exact ⟨fun i hi => absurd hi (by omega), fun _ _ _ => rfl⟩
  | succ n ih =>
    intro hn
    obtain ⟨i1, i2⟩ := ih (by omega)
    rw [itN_s]
    generalize itN (B_X12_starts_l194 (nI f) I J) n s0 = S at *
    have t : T_X12_starts_j228 (nI f) I J n S = if s0 132 3 ≤ nI n then 0 else s0 143 n := by
      unfold T_X12_starts_j228
      rw [i2 132 3 (by omega), nI_clamp (by omega), i2 143 n (by omega)]
    unfold B_X12_starts_l194 S7_X12_starts S6_X12_starts
    rw [show (4 : Int32) = nI 4 from rfl, cell_v (by omega), t]
    refine ⟨fun i hi => ?_, fun a b q => ?_⟩
    · by_cases y : i = n
      · subst y
        exact ⟨(u2_n _ _ (by omega)).trans (u2_s _ _ _ _), u2_s _ _ _ _, u2_s _ _ _ _⟩
      · have k := i1 i (by omega)
        exact ⟨(u2_n _ _ (by omega)).trans ((u2_n _ _ (by omega)).trans k.1), (u2_n _ _ (by omega)).trans ((u2_n _ _ (by omega)).trans k.2.1), (u2_n _ _ (by omega)).trans ((u2_n _ _ (by omega)).trans k.2.2)⟩
    · exact (u2_n _ _ (by omega)).trans ((u2_n _ _ (by omega)).trans (i2 a b (by omega)))
/-- all cells of a scene that begins -/
theorem starts_v {f : Nat} {I : SI} {J : SJ} (hf : f ≤ 22) : (FI_X12_starts (nI f) I J 154 f = 0 ∧ FI_X12_starts (nI f) I J 155 f = I 132 8 ∧ FI_X12_starts (nI f) I J 156 f = I 132 7 ∧ FI_X12_starts (nI f) I J 157 f = 0 ∧ FI_X12_starts (nI f) I J 158 f = 0 ∧ FI_X12_starts (nI f) I J 159 f = 0) ∧ (∀ i, i < 6 → FI_X12_starts (nI f) I J 160 (6 * f + i) = -1 ∧ FI_X12_starts (nI f) I J 161 (6 * f + i) = 0) ∧ (∀ s, s < 8 → FI_X12_starts (nI f) I J 162 (8 * f + s) = (if I 132 1 ≤ nI s then 0 else I 138 s) ∧ FI_X12_starts (nI f) I J 163 (8 * f + s) = 0 ∧ FI_X12_starts (nI f) I J 164 (8 * f + s) = 0) ∧ (∀ i, i < 48 → FI_X12_starts (nI f) I J 165 (48 * f + i) = I 139 i) ∧ (∀ q, q < 4 → FI_X12_starts (nI f) I J 166 (4 * f + q) = (if I 132 3 ≤ nI q then 0 else I 143 q) ∧ FI_X12_starts (nI f) I J 167 (4 * f + q) = 0) ∧ ∀ a b, (a < 154 ∨ 167 < a) → FI_X12_starts (nI f) I J a b = I a b := by
  have s1 : S1_X12_starts (nI f) I J = u2 (u2 I 154 f 0) 155 f (I 132 8) := by
    unfold S1_X12_starts
    rw [nI_clamp (by omega), u2_n _ _ (show ¬ ((132 : Nat) = 154 ∧ (8 : Nat) = f) by omega)]
  have s2 : S2_X12_starts (nI f) I J = u2 (u2 (u2 I 154 f 0) 155 f (I 132 8)) 156 f (I 132 7) := by
    unfold S2_X12_starts
    rw [s1, nI_clamp (by omega), u2_n _ _ (show ¬ ((132 : Nat) = 155 ∧ (7 : Nat) = f) by omega), u2_n _ _ (show ¬ ((132 : Nat) = 154 ∧ (7 : Nat) = f) by omega)]
  have s3 : u2 (S3_X12_starts (nI f) I J) 159 (nI f).toNatClampNeg 0 = u2 (u2 (u2 (u2 (u2 (u2 I 154 f 0) 155 f (I 132 8)) 156 f (I 132 7)) 157 f 0) 158 f 0) 159 f 0 := by
    unfold S3_X12_starts
    rw [s2, nI_clamp (by omega)]
  have w1 := st56 (f := f) (I := I) (J := J) (s0 := u2 (S3_X12_starts (nI f) I J) 159 (nI f).toNatClampNeg 0) hf 6 (by omega)
  have e4 : S4_X12_starts (nI f) I J = itN (B_X12_starts_l56 (nI f) I J) 6 (u2 (S3_X12_starts (nI f) I J) 159 (nI f).toNatClampNeg 0) := rfl
  rw [← e4, s3] at w1
  have w2 := st94 (f := f) (I := I) (J := J) (s0 := S4_X12_starts (nI f) I J) hf 8 (by omega)
  have w3 := st163 (f := f) (I := I) (J := J) (s0 := itN (B_X12_starts_l94 (nI f) I J) 8 (S4_X12_starts (nI f) I J)) hf 48 (by omega)
  have e5 : S5_X12_starts (nI f) I J = itN (B_X12_starts_l163 (nI f) I J) 48 (itN (B_X12_starts_l94 (nI f) I J) 8 (S4_X12_starts (nI f) I J)) := rfl
  rw [← e5] at w3
  have w4 := st194 (f := f) (I := I) (J := J) (s0 := S5_X12_starts (nI f) I J) hf 4 (by omega)
  have e6 : FI_X12_starts (nI f) I J = itN (B_X12_starts_l194 (nI f) I J) 4 (S5_X12_starts (nI f) I J) := rfl
  rw [← e6] at w4
  generalize itN (B_X12_starts_l94 (nI f) I J) 8 (S4_X12_starts (nI f) I J) = Y2 at *
  generalize S5_X12_starts (nI f) I J = Y3 at *
  generalize S4_X12_starts (nI f) I J = Y1 at *
  generalize FI_X12_starts (nI f) I J = Y4 at *
  have f4 : ∀ a b, a ≠ 166 → a ≠ 167 → Y4 a b = Y3 a b := fun a b x y => w4.2 a b (by omega)
  have f3 : ∀ a b, a ≠ 165 → Y3 a b = Y2 a b := fun a b x => w3.2 a b (by omega)
  have f2 : ∀ a b, a ≠ 162 → a ≠ 163 → a ≠ 164 → Y2 a b = Y1 a b := fun a b x y z => w2.2 a b (by omega)
  have f1 : ∀ a b, a ≠ 160 → a ≠ 161 → Y1 a b = (u2 (u2 (u2 (u2 (u2 (u2 I 154 f 0) 155 f (I 132 8)) 156 f (I 132 7)) 157 f 0) 158 f 0) 159 f 0) a b := fun a b x y => w1.2 a b (by omega)
  have low : ∀ a b, (a < 154 ∨ 167 < a) → Y4 a b = I a b := fun a b h => by
    rw [f4 a b (by omega) (by omega), f3 a b (by omega), f2 a b (by omega) (by omega) (by omega), f1 a b (by omega) (by omega), u2_n _ _ (by omega), u2_n _ _ (by omega), u2_n _ _ (by omega), u2_n _ _ (by omega), u2_n _ _ (by omega), u2_n _ _ (by omega)]
  have l1 : ∀ a b, (a < 154 ∨ 167 < a) → Y1 a b = I a b := fun a b h => by
    rw [f1 a b (by omega) (by omega), u2_n _ _ (by omega), u2_n _ _ (by omega), u2_n _ _ (by omega), u2_n _ _ (by omega), u2_n _ _ (by omega), u2_n _ _ (by omega)]
  have mid : ∀ a b, 154 ≤ a → a ≤ 159 → Y4 a b = (u2 (u2 (u2 (u2 (u2 (u2 I 154 f 0) 155 f (I 132 8)) 156 f (I 132 7)) 157 f 0) 158 f 0) 159 f 0) a b := fun a b h1 h2 => by
    rw [f4 a b (by omega) (by omega), f3 a b (by omega), f2 a b (by omega) (by omega) (by omega), f1 a b (by omega) (by omega)]
  refine ⟨⟨?_, ?_, ?_, ?_, ?_, ?_⟩, fun i hi => ?_, fun s hs => ?_, fun i hi => ?_, fun q hq => ?_, low⟩
  · rw [mid 154 f (by omega) (by omega), u2_n _ _ (by omega), u2_n _ _ (by omega), u2_n _ _ (by omega), u2_n _ _ (by omega), u2_n _ _ (by omega), u2_s]
  · rw [mid 155 f (by omega) (by omega), u2_n _ _ (by omega), u2_n _ _ (by omega), u2_n _ _ (by omega), u2_n _ _ (by omega), u2_s]
  · rw [mid 156 f (by omega) (by omega), u2_n _ _ (by omega), u2_n _ _ (by omega), u2_n _ _ (by omega), u2_s]
  · rw [mid 157 f (by omega) (by omega), u2_n _ _ (by omega), u2_n _ _ (by omega), u2_s]
  · rw [mid 158 f (by omega) (by omega), u2_n _ _ (by omega), u2_s]
  · rw [mid 159 f (by omega) (by omega), u2_s]
  · have k := w1.1 i hi
    have e : ∀ a, a = 160 ∨ a = 161 → Y4 a (6 * f + i) = Y1 a (6 * f + i) := fun a h => by
      rw [f4 a _ (by omega) (by omega), f3 a _ (by omega), f2 a _ (by omega) (by omega) (by omega)]
    exact ⟨(e 160 (by omega)).trans k.1, (e 161 (by omega)).trans k.2.1⟩
  · have k : Y2 162 (8 * f + s) = (if Y1 132 1 ≤ nI s then 0 else Y1 138 s) ∧ Y2 163 (8 * f + s) = 0 ∧ Y2 164 (8 * f + s) = 0 := w2.1 s hs
    have e : ∀ a, a = 162 ∨ a = 163 ∨ a = 164 → Y4 a (8 * f + s) = Y2 a (8 * f + s) := fun a h => by
      rw [f4 a _ (by omega) (by omega), f3 a _ (by omega)]
    rw [l1 132 1 (by omega), l1 138 s (by omega)] at k
    exact ⟨(e 162 (by omega)).trans k.1, (e 163 (by omega)).trans k.2.1, (e 164 (by omega)).trans k.2.2⟩
  · have k : Y3 165 (48 * f + i) = Y2 139 i := (w3.1 i hi).1
    rw [f2 139 i (by omega) (by omega) (by omega), l1 139 i (by omega)] at k
    exact (f4 165 _ (by omega) (by omega)).trans k
  · have k : Y4 166 (4 * f + q) = (if Y3 132 3 ≤ nI q then 0 else Y3 143 q) ∧ Y4 167 (4 * f + q) = 0 ∧ Y4 167 (4 * f + q) = 0 := w4.1 q hq
    rw [f3 132 3 (by omega), f2 132 3 (by omega) (by omega) (by omega), l1 132 3 (by omega), f3 143 q (by omega), f2 143 q (by omega) (by omega) (by omega), l1 143 q (by omega)] at k
    exact ⟨k.1, k.2.1⟩
/-- the scene that a text opens -/
theorem sr_start {X Y : SI} {J J' : SJ} (t : TL X Y) : SCN 86 0 (FI_X5_open 86 2 X J) (FJ_X5_open 86 2 X J) (FI_X12_begins Y J') := by
  obtain ⟨_, ⟨c, hc, c1, c2, c3, c4⟩, ⟨d, hd, d1, d2, d3, d4⟩, _, _, w, _, ⟨p8, _⟩, ⟨p9, _⟩, _⟩ := t
  have o := open_v (k := 86) (A := X) (J := J) (by omega)
  have s := starts_v (f := 0) (I := Y) (J := J') (by omega)
  have eb : FI_X12_begins Y J' = FI_X12_starts (nI 0) Y J' := rfl
  rw [eb]
  obtain ⟨o0, o1, o2, o4, o5, o7, on, oj⟩ := o
  obtain ⟨⟨s0, s1, s2, s3, s4, s5⟩, s6, s8, s48, s14, sn⟩ := s
  generalize FI_X5_open 86 2 X J = A at *
  generalize FI_X12_starts (nI 0) Y J' = B at *
  refine ⟨⟨?_, ?_, ?_, ?_, ?_, ?_⟩, ?_, fun i hi => ?_, ?_, fun i hi => ?_, fun i hi => ?_⟩
  · rw [o0 0 (by omega), s0]; rfl
  · rw [o0 1 (by omega), s2]; exact p8
  · rw [o0 2 (by omega), s3]; rfl
  · rw [o0 4 (by omega), s5]; rfl
  · rw [o0 5 (by omega), s4]; rfl
  · rw [oj, u2_s, s1, p9]
  · rw [o0 3 (by omega), if_neg (show ¬ (3 : Nat) = 1 by decide)]
    have z := fun i hi => (s8 i hi).2.2
    rw [show 8 * 0 = 8 * 0 + 0 from rfl, z 0 (by omega), z 1 (by omega), z 2 (by omega), z 3 (by omega), z 4 (by omega), z 5 (by omega), z 6 (by omega), z 7 (by omega)]
    decide
  · have k := s8 i hi
    rw [k.1, k.2.1, k.2.2]
    refine ⟨?_, (o2 i hi).1, (o2 i hi).2⟩
    rw [o1 i hi, c2]
    by_cases y : i < c
    · rw [if_neg (nI_ge y (by omega))]
      exact (c3 i y _ (show (11, 138) ∈ TSS by decide)).1
    · rw [if_pos (nI_le (by omega) (by omega))]
      exact c4 3 i (by omega) (by omega) (by omega) hi
  · rw [on 8 1 (by omega)]
    exact w.imp id (fun h i hi => by rw [o4 i hi, s48 i hi]; exact (h i hi).1)
  · rw [(s6 i hi).1, (s6 i hi).2]
    exact ⟨(o5 i hi).1, (o5 i hi).2⟩
  · have k := s14 i hi
    rw [k.1, k.2]
    refine ⟨?_, (o7 i hi).2⟩
    rw [(o7 i hi).1, d2]
    by_cases y : i < d
    · rw [if_neg (nI_ge y (by omega))]
      exact (d3 i y _ (show (17, 143) ∈ TSP by decide)).1
    · rw [if_pos (nI_le (by omega) (by omega))]
      exact d4 4 i (by omega) (by omega) (by omega) (by omega)
