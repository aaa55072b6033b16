/-! the model reads a line -/
theorem fnd_H {a0 la f N : Nat} {c x : Int32} {I : SI} {J : SJ} (hc : inR c (N + 1)) (hl : f + N ≤ la) (hla : la < 800) : H_X12_found a0 la (nI f) c x I J := by
  unfold H_X12_found
  intro i s hi _
  rw [nI_add]
  have := hc.2
  exact inR_nI (by omega) (by omega)
theorem fnd_v {a0 la N : Nat} {b c x : Int32} {I : SI} {J : SJ} (hc : inR c (N + 1)) (hN : N < 800) : F_X12_found a0 la b c x I J = -1 ∨ inR (F_X12_found a0 la b c x I J) N := by
  have L := itE_ind (f := B_X12_found_l3 a0 la b c x I J) (N := c.toNatClampNeg) (s0 := ()) (fun _ _ => True) (fun r => inR r N) trivial (fun _ _ _ _ _ _ => trivial) (fun i s r hi _ hf => by
    unfold B_X12_found_l3 at hf
    split at hf
    · cases hf
      have := hc.2
      exact inR_nI (by omega) (by omega)
    · cases hf)
  unfold F_X12_found
  cases q : F_X12_found_l3 a0 la b c x I J () with
  | inl s => exact Or.inl rfl
  | inr r => exact Or.inr (L.2 r q)
theorem num_E {a0 a1 : Int32} {x : Nat} {I : SI} {J : SJ} (h : EI I) : H_X12_numeral a0 a1 I J ∧ PX 0 0 x x I (FI_X12_numeral a0 a1 I J) ∧ (F_X12_numeral a0 a1 I J = a0 ∨ (¬ F_X12_numeral a0 a1 I J < a0 ∧ F_X12_numeral a0 a1 I J ≤ a1)) := by
  have w1 := wrong_E (w := 1) (x := x) (J := J) h (by decide)
  have w2 := wrong_E (w := 2) (x := x) (J := J) h (by decide)
  have T : PX 0 0 x x I (T_X12_numeral_j46 a0 a1 I J) ∧ (T_X12_numeral_j46 a0 a1 I J 130 30 = 0 → ¬ T_X12_numeral_j46 a0 a1 I J 130 29 < a0 ∧ T_X12_numeral_j46 a0 a1 I J 130 29 ≤ a1) := by
    unfold T_X12_numeral_j46
    by_cases a : I 130 28 = 2
    · rw [if_pos a]
      by_cases b : I 130 29 < a0
      · rw [if_pos b]; exact ⟨w2.1, fun z => absurd z w2.2⟩
      · rw [if_neg b]
        by_cases c : I 130 29 ≤ a1
        · rw [if_pos c]; exact ⟨PX.rf h, fun _ => ⟨b, c⟩⟩
        · rw [if_neg c]; exact ⟨w2.1, fun z => absurd z w2.2⟩
    · rw [if_neg a]; exact ⟨w1.1, fun z => absurd z w1.2⟩
  refine ⟨?_, ?_, ?_⟩
  · unfold H_X12_numeral
    exact fun _ c => (tok_E (x := x) T.1.ei c).1
  · unfold FI_X12_numeral
    by_cases c0 : I 130 30 = 0
    · rw [if_pos c0]
      by_cases c : T_X12_numeral_j46 a0 a1 I J 130 30 = 0
      · rw [if_pos c]; exact T.1.tr (tok_E T.1.ei c).2
      · rw [if_neg c]; exact T.1
    · rw [if_neg c0]; exact PX.rf h
  · unfold F_X12_numeral
    by_cases c0 : I 130 30 = 0
    · rw [if_pos c0]
      by_cases c : T_X12_numeral_j46 a0 a1 I J 130 30 = 0
      · rw [if_pos c]; exact Or.inr (T.2 c)
      · rw [if_neg c]; exact Or.inl rfl
    · rw [if_neg c0]; exact Or.inl rfl
theorem fresh_E {a0 la f N x : Nat} {c : Int32} {I : SI} {J : SJ} (h : EI I) (hc : inR c (N + 1)) (hl : f + N ≤ la) (hla : la < 800) : H_X12_fresh a0 la (nI f) c I J ∧ PX 0 0 x x I (FI_X12_fresh a0 la (nI f) c I J) := by
  have T : PX 0 0 x x I (T_X12_fresh_j44 a0 la (nI f) c I J) := by
    unfold T_X12_fresh_j44
    repeat' split
    · exact PX.rf h
    · exact (wrong_E h (by decide)).1
    · exact (wrong_E h (by decide)).1
  refine ⟨?_, ?_⟩
  · unfold H_X12_fresh
    exact ⟨fun _ c => (tok_E (x := x) T.ei c).1, fun _ _ => fnd_H hc hl hla⟩
  · unfold FI_X12_fresh
    by_cases c0 : I 130 30 = 0
    · rw [if_pos c0]
      by_cases c1 : T_X12_fresh_j44 a0 la (nI f) c I J 130 30 = 0
      · rw [if_pos c1]; exact T.tr (tok_E T.ei c1).2
      · rw [if_neg c1]; exact T
    · rw [if_neg c0]; exact PX.rf h
theorem hand_E {a0 la f N x : Nat} {c : Int32} {I : SI} {J : SJ} (h : EI I) (hc : inR c (N + 1)) (hl : f + N ≤ la) (hla : la < 800) (hN : 0 < N) : H_X12_atHand a0 la (nI f) c I J ∧ PX 0 0 x x I (FI_X12_atHand a0 la (nI f) c I J) ∧ inR (F_X12_atHand a0 la (nI f) c I J) N := by
  have T : PX 0 0 x x I (T_X12_atHand_j44 a0 la (nI f) c I J) ∧ (T_X12_atHand_j44 a0 la (nI f) c I J 130 30 = 0 → T_X12_atHand_j44 a0 la (nI f) c I J = I ∧ ¬ F_X12_found a0 la (nI f) c (I 130 29) I J = -1) := by
    unfold T_X12_atHand_j44
    have w1 := wrong_E (w := 1) (x := x) (J := J) h (by decide)
    have w4 := wrong_E (w := 4) (x := x) (J := J) h (by decide)
    by_cases a : I 130 28 = 1
    · rw [if_pos a]
      by_cases b : F_X12_found a0 la (nI f) c (I 130 29) I J = -1
      · rw [if_pos b]; exact ⟨w4.1, fun z => absurd z w4.2⟩
      · rw [if_neg b]; exact ⟨PX.rf h, fun _ => ⟨rfl, b⟩⟩
    · rw [if_neg a]; exact ⟨w1.1, fun z => absurd z w1.2⟩
  refine ⟨?_, ?_, ?_⟩
  · unfold H_X12_atHand
    exact ⟨fun _ _ => fnd_H hc hl hla, fun _ _ => fnd_H hc hl hla⟩
  · unfold FI_X12_atHand
    repeat' split
    · exact T.1
    · exact T.1
    · exact PX.rf h
  · unfold F_X12_atHand
    by_cases c0 : I 130 30 = 0
    · rw [if_pos c0]
      by_cases c1 : T_X12_atHand_j44 a0 la (nI f) c I J 130 30 = 0
      · rw [if_pos c1]
        unfold S1_X12_atHand
        have q := T.2 c1
        rw [q.1]
        exact (fnd_v hc (by omega)).resolve_left q.2
      · rw [if_neg c1]; exact inR.z rfl hN
    · rw [if_neg c0]; exact inR.z rfl hN
/-- what is drafted -/
def LWd (I : SI) (k : Nat) : Prop := ∃ f n : Nat, I 148 (3 + k) = nI f ∧ I 149 (3 + k) = nI (f + n) ∧ f + n ≤ nn I ∧ okc (KK I) (VV I) n f 0
def PO (I : SI) : Prop := inR (I 132 10) 7 ∧ inR (I 132 11) 9 ∧ inR (I 132 12) 21 ∧ inR (I 132 13) 5 ∧ inR (I 132 14) 5 ∧ inR (I 132 15) 4 ∧ inR (I 132 16) 101 ∧ (∀ p, 4 ≤ p → p < 8 → inR (I 141 p) 6) ∧ (∀ m, 6 ≤ m → m < 12 → inR (I 135 m) 7) ∧ ∀ k, k < 3 → LWd I k
/-- what is told, and what else text leaves alone until the end -/
def dpL (a b : Nat) : Prop := (a = 130 ∧ (b = 2 ∨ b = 25 ∨ b = 54 ∨ b = 68 ∨ b = 69)) ∨ (a = 132 ∧ b < 10) ∨ (a = 141 ∧ b < 4) ∨ (a = 135 ∧ b < 6) ∨ ((a = 148 ∨ a = 149) ∧ b < 3) ∨ ((a = 150 ∨ a = 151) ∧ b < 64) ∨ a = 170 ∨ a = 171 ∨ a = 173 ∨ a = 174 ∨ a = 176
def KL (I I' : SI) : Prop := ∀ a b, dpL a b → I' a b = I a b
def LX (I I' : SI) : Prop := EI I' ∧ PO I' ∧ KL I I' ∧ GT I I'
theorem LX.tr {I I1 I2 : SI} (h : LX I I1) (h2 : LX I1 I2) : LX I I2 := ⟨h2.1, h2.2.1, fun a b z => (h2.2.2.1 a b z).trans (h.2.2.1 a b z), h.2.2.2.tr h2.2.2.2⟩
theorem LX.rf {I : SI} (h : EI I) (p : PO I) : LX I I := ⟨h, p, fun _ _ _ => rfl, GT.rf I⟩
theorem LX.ei {I I1 : SI} (h : LX I I1) : EI I1 := h.1
theorem LX.po {I I1 : SI} (h : LX I I1) : PO I1 := h.2.1
theorem PO.law {I I1 : SI} (h : ∀ k, k < 3 → LWd I k) (e8 : ∀ k, k < 3 → I1 148 (3 + k) = I 148 (3 + k)) (e9 : ∀ k, k < 3 → I1 149 (3 + k) = I 149 (3 + k)) (hn : nn I ≤ nn I1) (c : ∀ j, j < nn I → KK I1 j = KK I j ∧ VV I1 j = VV I j) : ∀ k, k < 3 → LWd I1 k := fun k hk => by
  obtain ⟨f, n, a, b, g, o⟩ := h k hk
  exact ⟨f, n, (e8 k hk).trans a, (e9 k hk).trans b, by omega, okc_cg _ _ _ (fun j _ w => c j (by omega)) o⟩
theorem PO.ke {I I1 : SI} (h : PO I) (k : KE I I1) (hn : nn I ≤ nn I1) : PO I1 := by
  obtain ⟨a0, a1, a2, a3, a4, a5, a6, p, m, l⟩ := h
  have e : ∀ b, b < 19 → I1 132 b = I 132 b := fun b z => k 132 b (by omega) (by omega) (by omega)
  exact ⟨by rw [e 10 (by omega)]; exact a0, by rw [e 11 (by omega)]; exact a1, by rw [e 12 (by omega)]; exact a2, by rw [e 13 (by omega)]; exact a3, by rw [e 14 (by omega)]; exact a4, by rw [e 15 (by omega)]; exact a5, by rw [e 16 (by omega)]; exact a6, fun b z w => by rw [k 141 b (by omega) (by omega) (by omega)]; exact p b z w, fun b z w => by rw [k 135 b (by omega) (by omega) (by omega)]; exact m b z w, PO.law l (fun b _ => k 148 _ (by omega) (by omega) (by omega)) (fun b _ => k 149 _ (by omega) (by omega) (by omega)) hn k.code⟩
theorem PX.lx {s t x y : Nat} {I I1 : SI} (h : PX s t x y I I1) (p : PO I) : LX I I1 := ⟨h.ei, p.ke h.2.1 h.2.2.2.1, fun a b z => h.2.1 a b (by unfold dpL at z; omega) (by unfold dpL at z; omega) (by unfold dpL at z; omega), h.2.2.1⟩
theorem EI.u {I : SI} {a b : Nat} {v : Int32} (h : EI I) (q : ¬ (a = 132 ∧ b = 19)) (r : a ≠ 130 ∨ b = 23 ∨ b = 24) : EI (u2 I a b v) := by
  have e : ∀ c, c ≠ 23 → c ≠ 24 → u2 I a b v 130 c = I 130 c := fun c z w => u2_n _ _ (by omega)
  have e19 : u2 I a b v 132 19 = I 132 19 := u2_n _ _ (by omega)
  have en : nn (u2 I a b v) = nn I := by unfold nn; rw [e19]
  have ec : cc (u2 I a b v) = cc I := by unfold cc; rw [e 35 (by omega) (by omega)]
  exact ⟨h.1.u (by omega), h.2.1.of (e 28 (by omega) (by omega)) (e 29 (by omega) (by omega)), by rw [e 34 (by omega) (by omega)]; exact h.2.2.1, by rw [e 35 (by omega) (by omega)]; exact h.2.2.2.1, by rw [e19]; exact h.2.2.2.2.1, fun z => by rw [en, ec]; exact h.2.2.2.2.2 (by rw [← e 30 (by omega) (by omega)]; exact z)⟩
theorem GT.u {I : SI} {a b : Nat} {v : Int32} (r : a ≠ 130 ∨ b = 23 ∨ b = 24) : GT I (u2 I a b v) := GT.sm (u2_n _ _ (by omega)) (u2_n _ _ (by omega))
/-- a cell that nothing here looks at -/
theorem LX.u {I I1 : SI} {a b : Nat} {v : Int32} (h : LX I I1) (q : a = 133 ∨ a = 134 ∨ (136 ≤ a ∧ a ≤ 140) ∨ (142 ≤ a ∧ a ≤ 147) ∨ (a = 130 ∧ (b = 23 ∨ b = 24))) : LX I (u2 I1 a b v) := by
  refine h.tr ⟨h.ei.u (by omega) (by omega), ?_, fun c d z => u2_n _ _ (by unfold dpL at z; omega), GT.u (by omega)⟩
  obtain ⟨a0, a1, a2, a3, a4, a5, a6, p, m, l⟩ := h.po
  have e : ∀ c d, 130 < c → (c = 132 ∨ c = 135 ∨ c = 141 ∨ 148 ≤ c) → u2 I1 a b v c d = I1 c d := fun c d _ z => u2_n _ _ (by omega)
  have en : nn (u2 I1 a b v) = nn I1 := by unfold nn; rw [e 132 19 (by omega) (by omega)]
  exact ⟨by rw [e 132 10 (by omega) (by omega)]; exact a0, by rw [e 132 11 (by omega) (by omega)]; exact a1, by rw [e 132 12 (by omega) (by omega)]; exact a2, by rw [e 132 13 (by omega) (by omega)]; exact a3, by rw [e 132 14 (by omega) (by omega)]; exact a4, by rw [e 132 15 (by omega) (by omega)]; exact a5, by rw [e 132 16 (by omega) (by omega)]; exact a6, fun c z w => by rw [e 141 c (by omega) (by omega)]; exact p c z w, fun c z w => by rw [e 135 c (by omega) (by omega)]; exact m c z w, PO.law l (fun c _ => e 148 _ (by omega) (by omega)) (fun c _ => e 149 _ (by omega) (by omega)) (by omega) (fun j _ => ⟨e 150 _ (by omega) (by omega), e 151 _ (by omega) (by omega)⟩)⟩
theorem LX.p {I I1 : SI} {b : Nat} {v : Int32} (h : LX I I1) (hb : 4 ≤ b) (hv : inR v 6) : LX I (u2 I1 141 b v) := by
  refine h.tr ⟨h.ei.u (by omega) (by omega), ?_, fun c d z => u2_n _ _ (by unfold dpL at z; omega), GT.u (by omega)⟩
  obtain ⟨a0, a1, a2, a3, a4, a5, a6, p, m, l⟩ := h.po
  have e : ∀ c d, c ≠ 141 → u2 I1 141 b v c d = I1 c d := fun c d z => u2_n _ _ (by omega)
  have en : nn (u2 I1 141 b v) = nn I1 := by unfold nn; rw [e 132 19 (by omega)]
  exact ⟨by rw [e 132 10 (by omega)]; exact a0, by rw [e 132 11 (by omega)]; exact a1, by rw [e 132 12 (by omega)]; exact a2, by rw [e 132 13 (by omega)]; exact a3, by rw [e 132 14 (by omega)]; exact a4, by rw [e 132 15 (by omega)]; exact a5, by rw [e 132 16 (by omega)]; exact a6, fun c z w => by
    by_cases y : c = b
    · rw [y, u2_s]; exact hv
    · rw [u2_n _ _ (fun q => y q.2)]; exact p c z w, fun c z w => by rw [e 135 c (by omega)]; exact m c z w, PO.law l (fun c _ => e 148 _ (by omega)) (fun c _ => e 149 _ (by omega)) (by omega) (fun j _ => ⟨e 150 _ (by omega), e 151 _ (by omega)⟩)⟩
theorem LX.w {I I1 : SI} {b : Nat} {v : Int32} (h : LX I I1) (hb : 6 ≤ b) (hv : inR v 7) : LX I (u2 I1 135 b v) := by
  refine h.tr ⟨h.ei.u (by omega) (by omega), ?_, fun c d z => u2_n _ _ (by unfold dpL at z; omega), GT.u (by omega)⟩
  obtain ⟨a0, a1, a2, a3, a4, a5, a6, p, m, l⟩ := h.po
  have e : ∀ c d, c ≠ 135 → u2 I1 135 b v c d = I1 c d := fun c d z => u2_n _ _ (by omega)
  have en : nn (u2 I1 135 b v) = nn I1 := by unfold nn; rw [e 132 19 (by omega)]
  exact ⟨by rw [e 132 10 (by omega)]; exact a0, by rw [e 132 11 (by omega)]; exact a1, by rw [e 132 12 (by omega)]; exact a2, by rw [e 132 13 (by omega)]; exact a3, by rw [e 132 14 (by omega)]; exact a4, by rw [e 132 15 (by omega)]; exact a5, by rw [e 132 16 (by omega)]; exact a6, fun c z w => by rw [e 141 c (by omega)]; exact p c z w, fun c z w => by
    by_cases y : c = b
    · rw [y, u2_s]; exact hv
    · rw [u2_n _ _ (fun q => y q.2)]; exact m c z w, PO.law l (fun c _ => e 148 _ (by omega)) (fun c _ => e 149 _ (by omega)) (by omega) (fun j _ => ⟨e 150 _ (by omega), e 151 _ (by omega)⟩)⟩
/-- how many there may be of a kind -/
def MO (b : Nat) : Nat := if b = 10 then 7 else if b = 11 then 9 else if b = 12 then 21 else if b = 13 then 5 else if b = 14 then 5 else if b = 15 then 4 else if b = 16 then 101 else 0
theorem PO.m {I : SI} (h : PO I) {b : Nat} (hb : 10 ≤ b ∧ b ≤ 16) : inR (I 132 b) (MO b) := by
  obtain ⟨a0, a1, a2, a3, a4, a5, a6, _⟩ := h
  rcases (by omega : b = 10 ∨ b = 11 ∨ b = 12 ∨ b = 13 ∨ b = 14 ∨ b = 15 ∨ b = 16) with rfl | rfl | rfl | rfl | rfl | rfl | rfl
  · exact a0
  · exact a1
  · exact a2
  · exact a3
  · exact a4
  · exact a5
  · exact a6
theorem LX.n {I I1 : SI} {b : Nat} {v : Int32} (h : LX I I1) (hb : 10 ≤ b ∧ b ≤ 18) (hv : b ≤ 16 → inR v (MO b)) : LX I (u2 I1 132 b v) := by
  refine h.tr ⟨h.ei.u (by omega) (by omega), ?_, fun c d z => u2_n _ _ (by unfold dpL at z; omega), GT.u (by omega)⟩
  have po := h.po
  obtain ⟨_, _, _, _, _, _, _, p, m, l⟩ := h.po
  have e : ∀ c d, c ≠ 132 → u2 I1 132 b v c d = I1 c d := fun c d z => u2_n _ _ (by omega)
  have en : nn (u2 I1 132 b v) = nn I1 := by unfold nn; exact congrArg Int32.toNatClampNeg (u2_n _ _ (by omega))
  have g : ∀ c, 10 ≤ c ∧ c ≤ 16 → inR (u2 I1 132 b v 132 c) (MO c) := fun c hc => by
    by_cases y : c = b
    · rw [y, u2_s]; exact hv (by omega)
    · rw [u2_n _ _ (fun q => y q.2)]; exact po.m hc
  exact ⟨g 10 (by omega), g 11 (by omega), g 12 (by omega), g 13 (by omega), g 14 (by omega), g 15 (by omega), g 16 (by omega), fun c z w => by rw [e 141 c (by omega)]; exact p c z w, fun c z w => by rw [e 135 c (by omega)]; exact m c z w, PO.law l (fun c _ => e 148 _ (by omega)) (fun c _ => e 149 _ (by omega)) (by omega) (fun j _ => ⟨e 150 _ (by omega), e 151 _ (by omega)⟩)⟩
