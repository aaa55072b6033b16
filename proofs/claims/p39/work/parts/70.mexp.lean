/-! the model: a law's side -/
def KK (I : SI) : Nat → Int32 := fun j => I 150 (64 + j)
def VV (I : SI) : Nat → Int32 := fun j => I 151 (64 + j)
def dp (K V : Nat → Int32) : Nat → Nat → Nat → Nat
  | 0, _, d => d
  | n + 1, k, d => if K k = 2 then (if V k = 260 then dp K V n (k + 1) d else dp K V n (k + 1) (d - 1)) else dp K V n (k + 1) (d + 1)
theorem okc_app {K V : Nat → Int32} : ∀ (n m k d : Nat), okc K V n k d → okc K V m (k + n) (dp K V n k d) → okc K V (n + m) k d := by
  intro n
  induction n with
  | zero => intro m k d _ h2; rw [Nat.zero_add]; exact h2
  | succ n ih =>
    intro m k d h h2
    rw [show n + 1 + m = (n + m) + 1 from by omega]
    rw [show k + (n + 1) = k + 1 + n from by omega] at h2
    unfold okc at h ⊢
    unfold dp at h2
    by_cases c : K k = 2
    · rw [if_pos c] at h h2 ⊢
      by_cases e : V k = 260
      · rw [if_pos e] at h h2 ⊢
        exact ⟨h.1, ih m (k + 1) d h.2 h2⟩
      · rw [if_neg e] at h h2 ⊢
        exact ⟨h.1, ih m (k + 1) (d - 1) h.2 h2⟩
    · rw [if_neg c] at h h2 ⊢
      exact ⟨h.1, ih m (k + 1) (d + 1) h.2 h2⟩
theorem dp_app {K V : Nat → Int32} : ∀ (n m k d : Nat), dp K V (n + m) k d = dp K V m (k + n) (dp K V n k d) := by
  intro n
  induction n with
  | zero => intro m k d; rw [Nat.zero_add]; rfl
  | succ n ih =>
    intro m k d
    rw [show n + 1 + m = (n + m) + 1 from by omega, show k + (n + 1) = k + 1 + n from by omega, dp, dp]
    by_cases c : K k = 2
    · rw [if_pos c, if_pos c]
      by_cases e : V k = 260
      · rw [if_pos e, if_pos e]; exact ih m (k + 1) d
      · rw [if_neg e, if_neg e]; exact ih m (k + 1) (d - 1)
    · rw [if_neg c, if_neg c]; exact ih m (k + 1) (d + 1)
theorem okc_cg {K V K' V' : Nat → Int32} : ∀ (n k d : Nat), (∀ j, k ≤ j → j < k + n → K' j = K j ∧ V' j = V j) → okc K V n k d → okc K' V' n k d := by
  intro n
  induction n with
  | zero => intro k d _ _; trivial
  | succ n ih =>
    intro k d e h
    have e0 := e k (Nat.le_refl _) (by omega)
    unfold okc at h ⊢
    rw [e0.1, e0.2]
    by_cases c : K k = 2
    · rw [if_pos c] at h ⊢
      by_cases e2 : V k = 260
      · rw [if_pos e2] at h ⊢
        exact ⟨h.1, ih (k + 1) d (fun j a b => e j (by omega) (by omega)) h.2⟩
      · rw [if_neg e2] at h ⊢
        exact ⟨h.1, ih (k + 1) (d - 1) (fun j a b => e j (by omega) (by omega)) h.2⟩
    · rw [if_neg c] at h ⊢
      exact ⟨h.1, ih (k + 1) (d + 1) (fun j a b => e j (by omega) (by omega)) h.2⟩
theorem dp_cg {K V K' V' : Nat → Int32} : ∀ (n k d : Nat), (∀ j, k ≤ j → j < k + n → K' j = K j ∧ V' j = V j) → dp K' V' n k d = dp K V n k d := by
  intro n
  induction n with
  | zero => intro k d _; rfl
  | succ n ih =>
    intro k d e
    have e0 := e k (Nat.le_refl _) (by omega)
    rw [dp, dp, e0.1, e0.2]
    by_cases c : K k = 2
    · rw [if_pos c, if_pos c]
      by_cases e2 : V k = 260
      · rw [if_pos e2, if_pos e2]; exact ih (k + 1) d (fun j a b => e j (by omega) (by omega))
      · rw [if_neg e2, if_neg e2]; exact ih (k + 1) (d - 1) (fun j a b => e j (by omega) (by omega))
    · rw [if_neg c, if_neg c]; exact ih (k + 1) (d + 1) (fun j a b => e j (by omega) (by omega))
def oo (I : SI) : Nat := (I 130 34).toNatClampNeg
def cc (I : SI) : Nat := (I 130 35).toNatClampNeg
def nn (I : SI) : Nat := (I 132 19).toNatClampNeg
/-- what a side's steps need -/
def EI (I : SI) : Prop := TM I ∧ VS I ∧ inR (I 130 34) 9 ∧ inR (I 130 35) 65 ∧ inR (I 132 19) 65 ∧ (I 130 30 = 0 → nn I ≤ cc I)
/-- the cells that they change -/
def KE (I I' : SI) : Prop := ∀ a b, ¬ (a = 130 ∧ ((26 ≤ b ∧ b ≤ 31) ∨ b = 34 ∨ b = 35)) → ¬ (a = 132 ∧ b = 19) → ¬ ((a = 150 ∨ a = 151) ∧ 64 + nn I ≤ b) → I' a b = I a b
/-- tokens go on -/
def GT (I I' : SI) : Prop := psn I ≤ psn I' ∧ (psn I < psn I' ∨ I' 130 28 = I 130 28 ∨ I' 130 28 = 4)
theorem GT.rf (I : SI) : GT I I := ⟨Nat.le_refl _, Or.inr (Or.inl rfl)⟩
theorem GT.tr {I I1 I2 : SI} (h : GT I I1) (h2 : GT I1 I2) : GT I I2 := by
  obtain ⟨a, b⟩ := h
  obtain ⟨c, d⟩ := h2
  refine ⟨Nat.le_trans a c, ?_⟩
  rcases d with d | d | d
  · exact Or.inl (by omega)
  · rcases b with b | b | b
    · exact Or.inl (by omega)
    · exact Or.inr (Or.inl (d.trans b))
    · exact Or.inr (Or.inr (d.trans b))
  · exact Or.inr (Or.inr d)
theorem GT.sm {I I1 : SI} (e1 : I1 130 26 = I 130 26) (e2 : I1 130 28 = I 130 28) : GT I I1 := ⟨by unfold psn; rw [e1]; exact Nat.le_refl _, Or.inr (Or.inl e2)⟩
/-- a part of a side from I to I1: s more counted than told, t told, x waiting ahead, y behind -/
def PX (s t x y : Nat) (I I' : SI) : Prop := EI I' ∧ KE I I' ∧ GT I I' ∧ nn I ≤ nn I' ∧ (¬ I 130 30 = 0 → I' = I) ∧ (∀ d, okc (KK I') (VV I') (nn I' - nn I) (nn I) (d + x)) ∧ (I' 130 30 = 0 → oo I' = oo I ∧ cc I ≤ cc I' ∧ cc I + nn I' + s ≤ cc I' + nn I + t ∧ ∀ d, dp (KK I') (VV I') (nn I' - nn I) (nn I) (d + x) = d + y)
theorem KE.code {I I1 : SI} (h : KE I I1) : ∀ j, j < nn I → KK I1 j = KK I j ∧ VV I1 j = VV I j := fun j hj => ⟨h 150 (64 + j) (by omega) (by omega) (by omega), h 151 (64 + j) (by omega) (by omega) (by omega)⟩
theorem KE.tr {I I1 I2 : SI} (h : KE I I1) (h2 : KE I1 I2) (hn : nn I ≤ nn I1) : KE I I2 := fun a b z y w => (h2 a b z y (by omega)).trans (h a b z y w)
theorem PX.tr {s1 t1 s2 t2 x y z : Nat} {I I1 I2 : SI} (h : PX s1 t1 x y I I1) (h2 : PX s2 t2 y z I1 I2) : PX (s1 + s2) (t1 + t2) x z I I2 := by
  obtain ⟨e1, k1, g1, n1, f1, o1, p1⟩ := h
  obtain ⟨e2, k2, g2, n2, f2, o2, p2⟩ := h2
  have cg : ∀ j, nn I ≤ j → j < nn I + (nn I1 - nn I) → KK I2 j = KK I1 j ∧ VV I2 j = VV I1 j := fun j a b => k2.code j (by omega)
  have sp : nn I2 - nn I = (nn I1 - nn I) + (nn I2 - nn I1) := by omega
  have sp2 : nn I + (nn I1 - nn I) = nn I1 := by omega
  refine ⟨e2, k1.tr k2 n1, g1.tr g2, by omega, fun c => ?_, fun d => ?_, fun c => ?_⟩
  · have e := f1 c
    rw [f2 (by rw [e]; exact c), e]
  · by_cases c : I1 130 30 = 0
    · rw [sp]
      refine okc_app _ _ _ _ (okc_cg _ _ _ cg (o1 d)) ?_
      rw [dp_cg _ _ _ cg, (p1 c).2.2.2 d, sp2]
      exact o2 d
    · rw [f2 c]
      exact o1 d
  · have c1 : I1 130 30 = 0 := by
      by_cases q : I1 130 30 = 0
      · exact q
      · rw [f2 q] at c; exact absurd c q
    have q1 := p1 c1
    have q2 := p2 c
    refine ⟨q2.1.trans q1.1, by omega, by omega, fun d => ?_⟩
    rw [sp, dp_app, dp_cg _ _ _ cg, q1.2.2.2 d, sp2]
    exact q2.2.2.2 d
theorem PX.rf {x : Nat} {I : SI} (h : EI I) : PX 0 0 x x I I := ⟨h, fun _ _ _ _ _ => rfl, GT.rf I, Nat.le_refl _, fun _ => rfl, fun d => by rw [Nat.sub_self]; trivial, fun _ => ⟨rfl, Nat.le_refl _, Nat.le_refl _, fun d => by rw [Nat.sub_self]; rfl⟩⟩
theorem PX.up {s t x y : Nat} (w : Nat) {I I1 : SI} (h : PX s t x y I I1) : PX s t (x + w) (y + w) I I1 := by
  obtain ⟨e1, k1, g1, n1, f1, o1, p1⟩ := h
  refine ⟨e1, k1, g1, n1, f1, fun d => ?_, fun c => ⟨(p1 c).1, (p1 c).2.1, (p1 c).2.2.1, fun d => ?_⟩⟩
  · rw [show d + (x + w) = (d + w) + x from by omega]; exact o1 _
  · rw [show d + (x + w) = (d + w) + x from by omega, (p1 c).2.2.2]; omega
theorem PX.st {s t x y : Nat} {I I1 : SI} (h : PX (s + 1) (t + 1) x y I I1) : PX s t x y I I1 := by
  obtain ⟨e1, k1, g1, n1, f1, o1, p1⟩ := h
  exact ⟨e1, k1, g1, n1, f1, o1, fun c => ⟨(p1 c).1, (p1 c).2.1, by have := (p1 c).2.2.1; omega, (p1 c).2.2.2⟩⟩
theorem PX.ei {s t x y : Nat} {I I1 : SI} (h : PX s t x y I I1) : EI I1 := h.1
/-- steps that change no code -/
theorem PX.nc {x s : Nat} {I I1 : SI} (e : EI I1) (k : KE I I1) (g : GT I I1) (n : nn I1 = nn I) (f : ¬ I 130 30 = 0 → I1 = I) (p : I1 130 30 = 0 → oo I1 = oo I ∧ cc I + s ≤ cc I1) : PX s 0 x x I I1 := by
  refine ⟨e, k, g, by omega, f, fun d => ?_, fun c => ⟨(p c).1, by have := (p c).2; omega, by have := (p c).2; omega, fun d => ?_⟩⟩
  · rw [n, Nat.sub_self]; trivial
  · rw [n, Nat.sub_self]; rfl
theorem wrong_E {w : Int32} {x : Nat} {I : SI} {J : SJ} (h : EI I) (hw : w ≠ 0) : PX 0 0 x x I (FI_X12_wrong w I J) ∧ FI_X12_wrong w I J 130 30 ≠ 0 := by
  unfold FI_X12_wrong
  by_cases c : I 130 30 = 0
  · rw [if_pos c]
    have e : ∀ a b, ¬ (a = 130 ∧ (b = 30 ∨ b = 31)) → (u2 (u2 I 130 30 w) 130 31 ((u2 I 130 30 w) 130 27)) a b = I a b := fun a b z => (u2_n _ _ (by omega)).trans (u2_n _ _ (by omega))
    have e30 : (u2 (u2 I 130 30 w) 130 31 ((u2 I 130 30 w) 130 27)) 130 30 = w := (u2_n _ _ (by omega)).trans (u2_s _ _ _ _)
    have en : nn (u2 (u2 I 130 30 w) 130 31 ((u2 I 130 30 w) 130 27)) = nn I := by unfold nn; rw [e 132 19 (by omega)]
    have nf : (u2 (u2 I 130 30 w) 130 31 ((u2 I 130 30 w) 130 27)) 130 30 ≠ 0 := by rw [e30]; exact hw
    refine ⟨PX.nc ⟨(h.1.u (by omega)).u (by omega), h.2.1.of (e 130 28 (by omega)) (e 130 29 (by omega)), by rw [e 130 34 (by omega)]; exact h.2.2.1, by rw [e 130 35 (by omega)]; exact h.2.2.2.1, by rw [e 132 19 (by omega)]; exact h.2.2.2.2.1, fun q => absurd q nf⟩ (fun a b z _ _ => e a b (by omega)) (GT.sm (e 130 26 (by omega)) (e 130 28 (by omega))) en (fun q => absurd c q) (fun q => absurd q nf), nf⟩
  · rw [if_neg c]
    exact ⟨PX.rf h, c⟩
theorem tok_E {x : Nat} {I : SI} {J : SJ} (h : EI I) (h0 : I 130 30 = 0) : H_X12_token I J ∧ PX 0 0 x x I (FI_X12_token I J) := by
  have t := tok_M (J := J) h.1
  have v := tok_V (J := J) h.1
  have e : ∀ a b, ¬ (a = 130 ∧ 26 ≤ b ∧ b ≤ 29) → FI_X12_token I J a b = I a b := t.2.1.2.1
  have en : nn (FI_X12_token I J) = nn I := by unfold nn; rw [e 132 19 (by omega)]
  have ec : cc (FI_X12_token I J) = cc I := by unfold cc; rw [e 130 35 (by omega)]
  have eo : oo (FI_X12_token I J) = oo I := by unfold oo; rw [e 130 34 (by omega)]
  exact ⟨t.1, PX.nc ⟨t.2.1.1, v, by rw [e 130 34 (by omega)]; exact h.2.2.1, by rw [e 130 35 (by omega)]; exact h.2.2.2.1, by rw [e 132 19 (by omega)]; exact h.2.2.2.2.1, fun _ => by rw [en, ec]; exact h.2.2.2.2.2 h0⟩ (fun a b z _ _ => e a b (by omega)) ⟨t.2.1.2.2, t.2.2.imp_right Or.inr⟩ en (fun q => absurd h0 q) (fun _ => ⟨eo, by rw [ec]; exact Nat.le_refl _⟩)⟩
theorem goOn_E {x : Nat} {I : SI} {J : SJ} (h : EI I) : H_X12_goOn I J ∧ PX 0 0 x x I (FI_X12_goOn I J) := by
  refine ⟨?_, ?_⟩
  · unfold H_X12_goOn
    exact fun c => (tok_E (x := x) h c).1
  · unfold FI_X12_goOn
    by_cases c : I 130 30 = 0
    · rw [if_pos c]; exact (tok_E h c).2
    · rw [if_neg c]; exact PX.rf h
theorem knot_E {x : Nat} {I : SI} {J : SJ} (h : EI I) : PX 1 0 x x I (FI_X12_knot I J) ∨ (¬ FI_X12_knot I J 130 30 = 0 ∧ PX 1 0 x x I (FI_X12_knot I J)) := by
  refine Or.inl ?_
  unfold FI_X12_knot
  by_cases c : I 130 30 = 0
  · rw [if_pos c]
    by_cases c2 : I 130 35 = 64
    · rw [if_pos c2]
      have w := wrong_E (w := 2) (x := x) (J := J) h (by decide)
      obtain ⟨e1, k1, g1, n1, f1, o1, p1⟩ := w.1
      exact ⟨e1, k1, g1, n1, f1, o1, fun q => absurd q w.2⟩
    · rw [if_neg c2]
      have e : ∀ a b, ¬ (a = 130 ∧ b = 35) → (u2 I 130 35 (I 130 35 + 1)) a b = I a b := fun a b z => u2_n _ _ z
      obtain ⟨j, hj, ej⟩ := h.2.2.2.1.n
      have j64 : j < 64 := by
        by_cases q : j = 64
        · rw [ej, q] at c2; exact absurd rfl c2
        · omega
      have e35 : (u2 I 130 35 (I 130 35 + 1)) 130 35 = nI (j + 1) := by rw [u2_s, ej, nI_1]
      have c0 : cc I = j := by unfold cc; rw [ej, nI_clamp (by omega)]
      have c1 : cc (u2 I 130 35 (I 130 35 + 1)) = j + 1 := by unfold cc; rw [e35, nI_clamp (by omega)]
      have en : nn (u2 I 130 35 (I 130 35 + 1)) = nn I := by unfold nn; rw [e 132 19 (by omega)]
      have eo : oo (u2 I 130 35 (I 130 35 + 1)) = oo I := by unfold oo; rw [e 130 34 (by omega)]
      exact PX.nc ⟨h.1.u (by omega), h.2.1.of (e 130 28 (by omega)) (e 130 29 (by omega)), by rw [e 130 34 (by omega)]; exact h.2.2.1, by rw [e35]; exact inR_nI (by omega) (by decide), by rw [e 132 19 (by omega)]; exact h.2.2.2.2.1, fun _ => by have := h.2.2.2.2.2 c; rw [en, c1]; omega⟩ (fun a b z _ _ => e a b (by omega)) (GT.sm (e 130 26 (by omega)) (e 130 28 (by omega))) en (fun q => absurd c q) (fun _ => ⟨eo, by rw [c0, c1]; omega⟩)
  · rw [if_neg c]
    have r := PX.rf (x := x) h
    obtain ⟨e1, k1, g1, n1, f1, o1, p1⟩ := r
    exact ⟨e1, k1, g1, n1, f1, o1, fun q => absurd q c⟩
theorem fr9 {I : SI} {J : SJ} : F_X12_fresher 9 I J = I 132 19 := rfl
theorem fr_H {k : Nat} {I : SI} {J : SJ} (h : k < 10) : H_X12_fresher (nI k) I J := by
  unfold H_X12_fresher
  rw [show (10 : Int32) = nI 10 from rfl, nI_add]
  exact inR_nI (by omega) (by decide)
theorem rd_H {k : Nat} {v : Int32} {I : SI} {J : SJ} (h : k < 10) : H_X12_reads (nI k) v I J := by
  unfold H_X12_reads
  rw [show (10 : Int32) = nI 10 from rfl, nI_add]
  exact inR_nI (by omega) (by decide)
/-- a knot told: what it takes and leaves -/
theorem puts_E {a0 a1 : Int32} {x y : Nat} {I : SI} {J : SJ} (h : EI I) (hs : I 130 30 = 0 → nn I + 1 ≤ cc I) (ho : I 130 30 = 0 → ∀ d, if a0 = 2 then (if a1 = 260 then 1 ≤ d + x ∧ y = x else 2 ≤ d + x ∧ y + 1 = x) else (a0 = 0 ∨ inR a1 7) ∧ y = x + 1) : H_X12_puts a0 a1 I J ∧ PX 0 1 x y I (FI_X12_puts a0 a1 I J) := by
  obtain ⟨n, hn, en⟩ := h.2.2.2.2.1.n
  have nnI : nn I = n := by unfold nn; rw [en, nI_clamp (by omega)]
  have e64 : (64 : Int32) + I 132 19 = nI (64 + n) := by rw [en, show (64 : Int32) = nI 64 from rfl, nI_add]
  have t64 : ((64 : Int32) + I 132 19).toNatClampNeg = 64 + n := by rw [e64, nI_clamp (by omega)]
  have lt : I 130 30 = 0 → n < 64 := fun c => by
    have := hs c
    have := h.2.2.2.1.2
    unfold cc at *
    omega
  have s1 : S1_X12_puts a0 a1 I J = (64 : Int32) + I 132 19 := by
    unfold S1_X12_puts
    rw [fr9]
    exact congrArg (fun z => (64 : Int32) + z) (u2_n _ _ (by omega))
  have s2 : S2_X12_puts a0 a1 I J = u2 (u2 I 150 (64 + n) a0) 151 (64 + n) a1 := by
    unfold S2_X12_puts
    rw [s1, fr9, t64]
  have f2 : F_X12_fresher 9 (S2_X12_puts a0 a1 I J) J = nI n := by
    rw [fr9, s2]
    exact (u2_n _ _ (by omega)).trans ((u2_n _ _ (by omega)).trans en)
  have s3 : S3_X12_puts a0 a1 I J = u2 (u2 (u2 I 150 (64 + n) a0) 151 (64 + n) a1) 132 19 (nI (n + 1)) := by
    unfold S3_X12_puts FI_X12_reads
    rw [f2, s2, nI_1]
    rfl
  refine ⟨?_, ?_⟩
  · unfold H_X12_puts
    refine ⟨fun _ => fr_H (k := 9) (by decide), fun c => ?_, fun _ => fr_H (k := 9) (by decide), fun c => ?_, fun _ => fr_H (k := 9) (by decide), fun _ => rd_H (k := 9) (by decide)⟩
    · rw [fr9, e64]; exact inR_nI (by have := lt c; omega) (by decide)
    · rw [s1, e64]; exact inR_nI (by have := lt c; omega) (by decide)
  · unfold FI_X12_puts
    by_cases c : I 130 30 = 0
    · rw [if_pos c, s3]
      have l := lt c
      have e : ∀ a b, ¬ (a = 132 ∧ b = 19) → ¬ ((a = 150 ∨ a = 151) ∧ b = 64 + n) → (u2 (u2 (u2 I 150 (64 + n) a0) 151 (64 + n) a1) 132 19 (nI (n + 1))) a b = I a b := fun a b z w => (u2_n _ _ z).trans ((u2_n _ _ (by omega)).trans (u2_n _ _ (by omega)))
      have e19 : (u2 (u2 (u2 I 150 (64 + n) a0) 151 (64 + n) a1) 132 19 (nI (n + 1))) 132 19 = nI (n + 1) := u2_s _ _ _ _
      have n1 : nn (u2 (u2 (u2 I 150 (64 + n) a0) 151 (64 + n) a1) 132 19 (nI (n + 1))) = n + 1 := by unfold nn; rw [e19, nI_clamp (by omega)]
      have c1 : cc (u2 (u2 (u2 I 150 (64 + n) a0) 151 (64 + n) a1) 132 19 (nI (n + 1))) = cc I := by unfold cc; rw [e 130 35 (by omega) (by omega)]
      have o1 : oo (u2 (u2 (u2 I 150 (64 + n) a0) 151 (64 + n) a1) 132 19 (nI (n + 1))) = oo I := by unfold oo; rw [e 130 34 (by omega) (by omega)]
      have k0 : KK (u2 (u2 (u2 I 150 (64 + n) a0) 151 (64 + n) a1) 132 19 (nI (n + 1))) n = a0 := (u2_n _ _ (by omega)).trans ((u2_n _ _ (by omega)).trans (u2_s _ _ _ _))
      have v0 : VV (u2 (u2 (u2 I 150 (64 + n) a0) 151 (64 + n) a1) 132 19 (nI (n + 1))) n = a1 := (u2_n _ _ (by omega)).trans (u2_s _ _ _ _)
      have hs2 := hs c
      refine ⟨⟨⟨by rw [e 130 25 (by omega) (by omega)]; exact h.1.1, by rw [e 130 26 (by omega) (by omega)]; exact h.1.2⟩, h.2.1.of (e 130 28 (by omega) (by omega)) (e 130 29 (by omega) (by omega)), by rw [e 130 34 (by omega) (by omega)]; exact h.2.2.1, by rw [e 130 35 (by omega) (by omega)]; exact h.2.2.2.1, by rw [e19]; exact inR_nI (by omega) (by decide), fun _ => by rw [n1, c1]; omega⟩, fun a b z y w => e a b y (by omega), GT.sm (e 130 26 (by omega) (by omega)) (e 130 28 (by omega) (by omega)), by omega, fun q => absurd c q, fun d => ?_, fun _ => ⟨o1, by omega, by omega, fun d => ?_⟩⟩
      · rw [n1, nnI, show n + 1 - n = 0 + 1 from by omega]
        unfold okc
        rw [k0, v0]
        have q := ho c d
        by_cases w : a0 = 2
        · rw [if_pos w] at q ⊢
          by_cases w2 : a1 = 260
          · rw [if_pos w2] at q ⊢; exact ⟨q.1, trivial⟩
          · rw [if_neg w2] at q ⊢; exact ⟨q.1, trivial⟩
        · rw [if_neg w] at q ⊢; exact ⟨q.1, trivial⟩
      · rw [n1, nnI, show n + 1 - n = 0 + 1 from by omega, dp, k0, v0]
        have q := ho c d
        by_cases w : a0 = 2
        · rw [if_pos w] at q ⊢
          by_cases w2 : a1 = 260
          · rw [if_pos w2] at q ⊢; show d + x = d + y; rw [q.2]
          · rw [if_neg w2] at q ⊢; show d + x - 1 = d + y; have := q.2; omega
        · rw [if_neg w] at q ⊢; show d + x + 1 = d + y; have := q.2; omega
    · rw [if_neg c]
      have r := PX.rf (x := x) h
      obtain ⟨e1, k1, g1, n1, f1, o1, p1⟩ := r
      exact ⟨e1, k1, g1, n1, f1, o1, fun q => absurd q c⟩
/-- how deep a side may go -/
def DD (i : Nat) (I : SI) : Nat := if I 130 30 = 0 then 6 * (8 - oo I) + (64 - cc I) + (7 - i) else 6 - i
def RC (k : Nat) : Prop := ∀ (i : Nat) (I : SI) (J : SJ), i ≤ 5 → EI I → DD i I ≤ k → HG_expr k i I J ∧ PX 0 0 0 1 I (RG_expr k i I J).1
/-- a sign between two operands -/
theorem bin_E {k q : Nat} {v : Int32} {I : SI} {J : SJ} (R : RC k) (hq : q ≤ 5) (h : EI I) (h0 : I 130 30 = 0) (hD : DD q I ≤ k) (hv : v ≠ 260) : H_X12_goOn (FI_X12_knot I J) J ∧ HG_expr k q (FI_X12_goOn (FI_X12_knot I J) J) J ∧ ∀ J', H_X12_puts 2 v (RG_expr k q (FI_X12_goOn (FI_X12_knot I J) J) J).1 J' ∧ PX 0 0 1 1 I (FI_X12_puts 2 v (RG_expr k q (FI_X12_goOn (FI_X12_knot I J) J) J).1 J') ∧ (FI_X12_puts 2 v (RG_expr k q (FI_X12_goOn (FI_X12_knot I J) J) J).1 J' 130 30 = 0 → cc I < cc (FI_X12_puts 2 v (RG_expr k q (FI_X12_goOn (FI_X12_knot I J) J) J).1 J')) := by
  have kn : PX 1 0 1 1 I (FI_X12_knot I J) := (knot_E (x := 1) (J := J) h).elim id And.right
  have g := goOn_E (x := 1) (J := J) kn.ei
  have a1 := kn.tr g.2
  have D1 : DD q (FI_X12_goOn (FI_X12_knot I J) J) ≤ k := by
    unfold DD at hD ⊢
    rw [if_pos h0] at hD
    by_cases c : FI_X12_goOn (FI_X12_knot I J) J 130 30 = 0
    · rw [if_pos c]
      have p := a1.2.2.2.2.2.2 c
      rw [p.1]
      have := p.2.1
      omega
    · rw [if_neg c]
      omega
  have r := R q (FI_X12_goOn (FI_X12_knot I J) J) J hq a1.ei D1
  have a2 := a1.tr (r.2.up 1)
  refine ⟨g.1, r.1, fun J' => ?_⟩
  have pu := puts_E (a0 := 2) (a1 := v) (x := 2) (y := 1) (J := J') a2.ei (fun c => by
    have p := a2.2.2.2.2.2.2 c
    have := h.2.2.2.2.2 h0
    have := p.2.2.1
    omega) (fun _ d => by rw [if_pos rfl, if_neg hv]; exact ⟨by omega, rfl⟩)
  have a3 := a2.tr pu.2
  refine ⟨pu.1, a3.st, fun c => ?_⟩
  have c2 : (RG_expr k q (FI_X12_goOn (FI_X12_knot I J) J) J).1 130 30 = 0 := by
    by_cases z : (RG_expr k q (FI_X12_goOn (FI_X12_knot I J) J) J).1 130 30 = 0
    · exact z
    · rw [pu.2.2.2.2.2.1 z] at c; exact absurd c z
  have c1 : FI_X12_goOn (FI_X12_knot I J) J 130 30 = 0 := by
    by_cases z : FI_X12_goOn (FI_X12_knot I J) J 130 30 = 0
    · exact z
    · rw [r.2.2.2.2.2.1 z] at c2; exact absurd c2 z
  have p1 := a1.2.2.2.2.2.2 c1
  have p2 := r.2.2.2.2.2.2.2 c2
  have p3 := pu.2.2.2.2.2.2.2 c
  have e1 : nn (FI_X12_goOn (FI_X12_knot I J) J) = nn I ∨ True := Or.inr trivial
  have n1 := a1.2.2.2.1
  have := p1.2.2.1
  have := p2.2.1
  have := p3.2.1
  omega
theorem isW {w : Int32} {I : SI} {J : SJ} (h : ¬ F_X12_isWord w I J = 0) : I 130 30 = 0 ∧ I 130 28 = 0 ∧ I 130 29 = w := by
  unfold F_X12_isWord at h
  by_cases a : I 130 30 = 0
  · rw [if_pos a] at h
    by_cases b : I 130 28 = 0
    · rw [if_pos b] at h
      by_cases c : I 130 29 = w
      · exact ⟨a, b, c⟩
      · rw [if_neg c] at h; exact absurd rfl h
    · rw [if_neg b] at h; exact absurd rfl h
  · rw [if_neg a] at h; exact absurd rfl h
theorem isS {w : Int32} {I : SI} {J : SJ} (h : ¬ F_X12_isSign w I J = 0) : I 130 30 = 0 ∧ I 130 28 = 3 ∧ I 130 29 = w := by
  unfold F_X12_isSign at h
  by_cases a : I 130 30 = 0
  · rw [if_pos a] at h
    by_cases b : I 130 28 = 3
    · rw [if_pos b] at h
      by_cases c : I 130 29 = w
      · exact ⟨a, b, c⟩
      · rw [if_neg c] at h; exact absurd rfl h
    · rw [if_neg b] at h; exact absurd rfl h
  · rw [if_neg a] at h; exact absurd rfl h
/-- the depth of the next level behind a part -/
theorem DD.nx {i k : Nat} {s t x y : Nat} {I I1 : SI} (h : DD i I ≤ k + 1) (p : PX s t x y I I1) (c : I1 130 30 = 0) (hi : i < 6) : DD (i + 1) I1 ≤ k := by
  have c0 : I 130 30 = 0 := by
    by_cases z : I 130 30 = 0
    · exact z
    · rw [p.2.2.2.2.1 z] at c; exact absurd c z
  have q := p.2.2.2.2.2.2 c
  unfold DD at h ⊢
  rw [if_pos c0] at h
  rw [if_pos c, q.1]
  have := q.2.1
  omega
theorem DD.sm {i k : Nat} {I : SI} (h : DD i I ≤ k + 1) (hi : i < 6) : DD (i + 1) I ≤ k := by
  unfold DD at h ⊢
  split at h
  · rename_i c; rw [if_pos c]; omega
  · rename_i c; rw [if_neg c]; omega
def mu (I : SI) : Nat := if I 130 30 = 0 then 65 - cc I else 0
theorem mu_lt {I I1 : SI} (h : EI I) (h0 : I 130 30 = 0) (c : I1 130 30 = 0 → cc I < cc I1) : mu I1 < mu I := by
  have : cc I < 65 := h.2.2.2.1.2
  unfold mu
  rw [if_pos h0]
  by_cases q : I1 130 30 = 0
  · rw [if_pos q]; have := c q; omega
  · rw [if_neg q]; omega
theorem mu_b (I : SI) : mu I < 800 := by unfold mu; split <;> omega
