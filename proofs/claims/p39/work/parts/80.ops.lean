/-! both: what a line is read with, alike -/
def TO (n : Nat) (A B : SI) : Prop := TP A B ∧ WD A ∧ n ≤ 700 ∧ A 81 2 = nI n ∧ B 130 25 = nI n ∧ A 81 4 = 0 ∧ ∃ r : Nat, r ≤ n ∧ A 81 3 = nI r ∧ B 130 26 = nI r ∧ A 81 7 = B 130 27 ∧ KV (A 81 5) (A 81 6) (B 130 28) (B 130 29)
/-- faults alike; without one, tokens alike -/
def Si (n : Nat) (A B : SI) : Prop := A 41 1 = B 130 30 ∧ A 41 2 = B 130 31 ∧ (A 41 1 = 0 → TO n A B) ∧ (¬ A 41 1 = 0 → ¬ A 81 4 = 0)
/-- the class's reader alone -/
def KX (A A' : SI) : Prop := ∀ a b, ¬ a = 81 → ¬ (a = 41 ∧ (b = 1 ∨ b = 2)) → A' a b = A a b
/-- the model's -/
def KY (B B' : SI) : Prop := ∀ a b, ¬ (a = 130 ∧ 26 ≤ b ∧ b ≤ 31) → B' a b = B a b
theorem KX.rf (A : SI) : KX A A := fun _ _ _ _ => rfl
theorem KY.rf (A : SI) : KY A A := fun _ _ _ => rfl
theorem KX.tr {A A1 A2 : SI} (h : KX A A1) (h2 : KX A1 A2) : KX A A2 := fun a b x y => (h2 a b x y).trans (h a b x y)
theorem KY.tr {A A1 A2 : SI} (h : KY A A1) (h2 : KY A1 A2) : KY A A2 := fun a b x => (h2 a b x).trans (h a b x)
/-- how far -/
def nx (A : SI) : Nat := (A 81 3).toNatClampNeg
/-- both go on -/
def Op (n : Nat) (A B A' B' : SI) : Prop := Si n A' B' ∧ KX A A' ∧ KY B B' ∧ (¬ A 41 1 = 0 → A' = A) ∧ (A' 41 1 = 0 → nx A ≤ nx A')
theorem Op.tr {n : Nat} {A B A1 B1 A2 B2 : SI} (h : Op n A B A1 B1) (h2 : Op n A1 B1 A2 B2) : Op n A B A2 B2 := by
  obtain ⟨s1, x1, y1, f1, g1⟩ := h
  obtain ⟨s2, x2, y2, f2, g2⟩ := h2
  refine ⟨s2, x1.tr x2, y1.tr y2, fun c => ?_, fun c => ?_⟩
  · have e := f1 c
    rw [f2 (by rw [e]; exact c), e]
  · have c1 : A1 41 1 = 0 := by
      by_cases z : A1 41 1 = 0
      · exact z
      · rw [f2 z] at c; exact absurd c z
    have := g1 c1
    have := g2 c
    omega
theorem Op.rf {n : Nat} {A B : SI} (h : Si n A B) : Op n A B A B := ⟨h, KX.rf A, KY.rf B, fun _ => rfl, fun _ => Nat.le_refl _⟩
/-- without a fault behind, without one ahead -/
theorem Op.c0 {n : Nat} {A B A' B' : SI} (h : Op n A B A' B') (c : A' 41 1 = 0) : A 41 1 = 0 := by
  by_cases z : A 41 1 = 0
  · exact z
  · rw [h.2.2.2.1 z] at c; exact absurd c z
theorem step_id {A : SI} {J : SJ} (h : ¬ A 81 4 = 0) : FI_X8_step A J = A := by unfold FI_X8_step; rw [if_neg h]
theorem op_fail {n : Nat} {w : Int32} {A B : SI} {J J' : SJ} (h : Si n A B) (hw : w ≠ 0) : Op n A B (FI_X4_fail w A J) (FI_X12_wrong w B J') ∧ ¬ FI_X4_fail w A J 41 1 = 0 := by
  obtain ⟨e1, e2, t, f⟩ := h
  unfold FI_X4_fail FI_X12_wrong
  by_cases c : A 41 1 = 0
  · rw [if_pos c, if_pos (e1.symm.trans c)]
    have x1 : (u2 (u2 (u2 A 41 1 w) 41 2 ((u2 A 41 1 w) 81 7)) 81 4 1) 41 1 = w := (u2_n _ _ (by omega)).trans ((u2_n _ _ (by omega)).trans (u2_s _ _ _ _))
    obtain ⟨tp, wd0, hn, a2, b2, a4, r, hr, a3, b3, a7, kv⟩ := t c
    refine ⟨⟨⟨?_, ?_, fun q => absurd (x1.symm.trans q) hw, fun _ => ?_⟩, fun a b y z => (u2_n _ _ (by omega)).trans ((u2_n _ _ (by omega)).trans (u2_n _ _ (by omega))), fun a b y => (u2_n _ _ (by omega)).trans (u2_n _ _ (by omega)), fun q => absurd c q, fun q => absurd (x1.symm.trans q) hw⟩, by rw [x1]; exact hw⟩
    · rw [x1]
      exact ((u2_n _ _ (by omega)).trans (u2_s _ _ _ _)).symm
    · have l : (u2 (u2 (u2 A 41 1 w) 41 2 ((u2 A 41 1 w) 81 7)) 81 4 1) 41 2 = A 81 7 := (u2_n _ _ (by omega)).trans ((u2_s _ _ _ _).trans (u2_n _ _ (by omega)))
      have m : (u2 (u2 B 130 30 w) 130 31 ((u2 B 130 30 w) 130 27)) 130 31 = B 130 27 := (u2_s _ _ _ _).trans (u2_n _ _ (by omega))
      rw [l, m]; exact a7
    · rw [u2_s]; decide
  · rw [if_neg c, if_neg (fun q => c (e1.trans q))]
    exact ⟨Op.rf ⟨e1, e2, t, f⟩, c⟩
theorem op_step {n : Nat} {A B : SI} {J J' : SJ} (h : Si n A B) : Op n A B (FI_X8_step A J) (FI_X12_goOn B J') ∧ (A 41 1 = 0 → (FI_X8_step A J 81 5 = 0 ∨ nx A < nx (FI_X8_step A J)) ∧ FI_X8_step A J 41 1 = 0) := by
  have h0 := h
  obtain ⟨e1, e2, t, f⟩ := h
  unfold FI_X12_goOn
  by_cases c : A 41 1 = 0
  · rw [if_pos (e1.symm.trans c)]
    obtain ⟨tp, wd0, hn, a2, b2, a4, r, hr, a3, b3, a7, kv⟩ := t c
    obtain ⟨p, q, h1, h2, h3, kA, c3, c7, kB, m6, m7, kv2, pr⟩ := tok_R (J := J) (J' := J') tp wd0 hn hr a2 b2 a3 b3 a4
    have z1 : FI_X8_step A J 41 1 = A 41 1 := kA 41 1 (by omega)
    have z2 : FI_X12_token B J' 130 30 = B 130 30 := kB 130 30 (by omega)
    have n1 : nx A = r := by unfold nx; rw [a3, nI_clamp (by omega)]
    have n2 : nx (FI_X8_step A J) = q := by unfold nx; rw [c3, nI_clamp (by omega)]
    refine ⟨⟨⟨by rw [z1, z2]; exact e1, by rw [kA 41 2 (by omega), kB 130 31 (by omega)]; exact e2, fun _ => ⟨fun b => by rw [kA 1 b (by omega), kB 131 b (by omega)]; exact tp b, fun i hi => (kA 82 i (by omega)).trans (wd0 i hi), hn, (kA 81 2 (by omega)).trans a2, (kB 130 25 (by omega)).trans b2, (kA 81 4 (by omega)).trans a4, q, h3, c3, m6, c7.trans m7.symm, kv2⟩, fun z => absurd (z1.trans c) z⟩, fun a b y z => kA a b (by omega), fun a b y => kB a b (by omega), fun z => absurd c z, fun _ => by rw [n1, n2]; omega⟩, fun _ => ⟨?_, z1.trans c⟩⟩
    rw [n1, n2]
    exact pr
  · rw [if_neg (fun q => c (e1.trans q)), step_id (f c)]
    exact ⟨Op.rf h0, fun q => absurd q c⟩
theorem num_id {a0 a1 : Int32} {A : SI} {J : SJ} (c : ¬ A 41 1 = 0) (f : ¬ A 81 4 = 0) : FI_X4_number a0 a1 A J = A := by
  have e : ∀ w : Int32, FI_X4_fail w A J = A := fun w => by unfold FI_X4_fail; rw [if_neg c]
  unfold FI_X4_number
  rw [e, e, step_id f]
  simp only [ite_self]
theorem fresh_id {k : Nat} {A : SI} {J : SJ} (c : ¬ A 41 1 = 0) (f : ¬ A 81 4 = 0) : FI_X4_fresh k A J = A := by
  have e : ∀ w : Int32, FI_X4_fail w A J = A := fun w => by unfold FI_X4_fail; rw [if_neg c]
  unfold FI_X4_fresh
  rw [e, e, step_id f]
  simp only [ite_self]
theorem find_id {k : Nat} {A : SI} {J : SJ} (c : ¬ A 41 1 = 0) : FI_X4_find k A J = A := by
  have e : ∀ w : Int32, FI_X4_fail w A J = A := fun w => by unfold FI_X4_fail; rw [if_neg c]
  unfold FI_X4_find
  rw [e, e]
  simp only [ite_self]
/-- kinds and sorts, each by the other -/
theorem KV.num {k v s w : Int32} (h : KV k v s w) : (k = 2 ↔ s = 2) ∧ (k = 2 → NV v w) := by
  rcases h with ⟨a, b⟩ | ⟨a, b⟩ | ⟨a, b, c⟩ | ⟨a, b, c⟩ | ⟨i, hi, a, b, c⟩ | ⟨i, hi, a, b, c⟩
  · subst a b; exact ⟨by decide, fun h => absurd h (by decide)⟩
  · subst a b; exact ⟨by decide, fun h => absurd h (by decide)⟩
  · subst a b; exact ⟨by decide, fun _ => c⟩
  · subst a b; exact ⟨by decide, fun h => absurd h (by decide)⟩
  · have z : ¬ nI (4 + i) = 2 := fun q => by have := (nI_eq (b := 2) (by omega) (by omega)).mp q; omega
    subst a b; exact ⟨⟨fun q => absurd q z, fun q => absurd q (by decide)⟩, fun q => absurd q z⟩
  · have z : ¬ nI (20 + i) = 2 := fun q => by have := (nI_eq (b := 2) (by omega) (by omega)).mp q; omega
    subst a b; exact ⟨⟨fun q => absurd q z, fun q => absurd q (by decide)⟩, fun q => absurd q z⟩
theorem KV.own {k v s w : Int32} (h : KV k v s w) : (k = 3 ↔ s = 1) ∧ (k = 3 → v = w) := by
  rcases h with ⟨a, b⟩ | ⟨a, b⟩ | ⟨a, b, c⟩ | ⟨a, b, c⟩ | ⟨i, hi, a, b, c⟩ | ⟨i, hi, a, b, c⟩
  · subst a b; exact ⟨by decide, fun h => absurd h (by decide)⟩
  · subst a b; exact ⟨by decide, fun h => absurd h (by decide)⟩
  · subst a b; exact ⟨by decide, fun h => absurd h (by decide)⟩
  · subst a b; exact ⟨by decide, fun _ => c⟩
  · have z : ¬ nI (4 + i) = 3 := fun q => by have := (nI_eq (b := 3) (by omega) (by omega)).mp q; omega
    subst a b; exact ⟨⟨fun q => absurd q z, fun q => absurd q (by decide)⟩, fun q => absurd q z⟩
  · have z : ¬ nI (20 + i) = 3 := fun q => by have := (nI_eq (b := 3) (by omega) (by omega)).mp q; omega
    subst a b; exact ⟨⟨fun q => absurd q z, fun q => absurd q (by decide)⟩, fun q => absurd q z⟩
theorem KV.word {k v s w : Int32} (h : KV k v s w) : (s = 0 → ∃ i, i < 23 ∧ k = nI (20 + i) ∧ w = nI i) ∧ (∀ i, i < 23 → (k = nI (20 + i) ↔ (s = 0 ∧ w = nI i))) := by
  have n20 : ∀ (m i : Nat), m < 20 → i < 23 → ¬ nI m = nI (20 + i) := fun m i hm hi q => by have := (nI_eq (by omega) (by omega)).mp q; omega
  rcases h with ⟨a, b⟩ | ⟨a, b⟩ | ⟨a, b, c⟩ | ⟨a, b, c⟩ | ⟨i, hi, a, b, c⟩ | ⟨i, hi, a, b, c⟩
  · subst a b; exact ⟨fun q => absurd q (by decide), fun j hj => ⟨fun q => absurd q (n20 0 j (by omega) hj), fun q => absurd q.1 (by decide)⟩⟩
  · subst a b; exact ⟨fun q => absurd q (by decide), fun j hj => ⟨fun q => absurd q (n20 1 j (by omega) hj), fun q => absurd q.1 (by decide)⟩⟩
  · subst a b; exact ⟨fun q => absurd q (by decide), fun j hj => ⟨fun q => absurd q (n20 2 j (by omega) hj), fun q => absurd q.1 (by decide)⟩⟩
  · subst a b; exact ⟨fun q => absurd q (by decide), fun j hj => ⟨fun q => absurd q (n20 3 j (by omega) hj), fun q => absurd q.1 (by decide)⟩⟩
  · subst a b; exact ⟨fun q => absurd q (by decide), fun j hj => ⟨fun q => absurd q (n20 (4 + i) j (by omega) hj), fun q => absurd q.1 (by decide)⟩⟩
  · subst a b c
    refine ⟨fun _ => ⟨i, hi, rfl, rfl⟩, fun j hj => ⟨fun q => ?_, fun q => ?_⟩⟩
    · have := (nI_eq (by omega) (by omega)).mp q
      exact ⟨rfl, congrArg nI (by omega)⟩
    · have := (nI_eq (by omega) (by omega)).mp q.2
      exact congrArg nI (by omega)
theorem sgl_inj : ∀ i, i < 13 → ∀ j, j < 13 → (SGV.getD i 0 = SGV.getD j 0 ↔ i = j) := by decide +kernel
theorem sgl_lt : ∀ i, i < 13 → SGV.getD i 0 < 300 := by decide +kernel
theorem KV.sgn {k v s w : Int32} (h : KV k v s w) : (s = 3 → ∃ i, i < 13 ∧ k = nI (4 + i) ∧ w = sgv i) ∧ (∀ i, i < 13 → (k = nI (4 + i) ↔ (s = 3 ∧ w = sgv i))) := by
  have n20 : ∀ (m i : Nat), m < 4 → i < 13 → ¬ nI m = nI (4 + i) := fun m i hm hi q => by have := (nI_eq (by omega) (by omega)).mp q; omega
  rcases h with ⟨a, b⟩ | ⟨a, b⟩ | ⟨a, b, c⟩ | ⟨a, b, c⟩ | ⟨i, hi, a, b, c⟩ | ⟨i, hi, a, b, c⟩
  · subst a b; exact ⟨fun q => absurd q (by decide), fun j hj => ⟨fun q => absurd q (n20 0 j (by omega) hj), fun q => absurd q.1 (by decide)⟩⟩
  · subst a b; exact ⟨fun q => absurd q (by decide), fun j hj => ⟨fun q => absurd q (n20 1 j (by omega) hj), fun q => absurd q.1 (by decide)⟩⟩
  · subst a b; exact ⟨fun q => absurd q (by decide), fun j hj => ⟨fun q => absurd q (n20 2 j (by omega) hj), fun q => absurd q.1 (by decide)⟩⟩
  · subst a b; exact ⟨fun q => absurd q (by decide), fun j hj => ⟨fun q => absurd q (n20 3 j (by omega) hj), fun q => absurd q.1 (by decide)⟩⟩
  · subst a b c
    refine ⟨fun _ => ⟨i, hi, rfl, rfl⟩, fun j hj => ⟨fun q => ?_, fun q => ?_⟩⟩
    · have := (nI_eq (by omega) (by omega)).mp q
      exact ⟨rfl, by rw [show i = j by omega]⟩
    · have := (nI_eq (by have := sgl_lt i hi; omega) (by have := sgl_lt j hj; omega)).mp q.2
      rw [(sgl_inj i hi j hj).mp this]
  · subst a b; exact ⟨fun q => absurd q (by decide), fun j hj => ⟨fun q => by have := (nI_eq (by omega) (by omega)).mp q; omega, fun q => absurd q.1 (by decide)⟩⟩
/-- .. of both alike -/
theorem NV.lt {v w a : Int32} (h : NV v w) (ha : a ≤ 99999) : (v < a ↔ w < a) ∧ (v ≤ a ↔ w ≤ a) ∧ (v ≤ a → v = w) := by
  obtain ⟨x, y, rfl, rfl, hx, hy, h⟩ := h
  rcases h with rfl | ⟨h1, h2⟩
  · exact ⟨Iff.rfl, Iff.rfl, fun _ => rfl⟩
  · have g : ∀ z : Nat, 99999 < z → z ≤ 1000000 → a < nI z := fun z q1 q2 => Int32.lt_of_le_of_lt ha (nI_lt (a := 99999) q1 (by omega))
    have gx := g x h1 hx
    have gy := g y h2 (by omega)
    exact ⟨⟨fun q => absurd (Int32.lt_trans q gx) (Int32.lt_irrefl), fun q => absurd (Int32.lt_trans q gy) (Int32.lt_irrefl)⟩, ⟨fun q => absurd (Int32.lt_of_lt_of_le gx q) (Int32.lt_irrefl), fun q => absurd (Int32.lt_of_lt_of_le gy q) (Int32.lt_irrefl)⟩, fun q => absurd (Int32.lt_of_lt_of_le gx q) (Int32.lt_irrefl)⟩
theorem op_num {n : Nat} {a0 a1 : Int32} {A B : SI} {J J' : SJ} (h : Si n A B) (h0 : a0 ≤ 99999) (h1 : a1 ≤ 99999) : Op n A B (FI_X4_number a0 a1 A J) (FI_X12_numeral a0 a1 B J') ∧ (FI_X4_number a0 a1 A J 41 1 = 0 → F_X4_number a0 a1 A J = F_X12_numeral a0 a1 B J' ∧ ¬ F_X4_number a0 a1 A J < a0 ∧ F_X4_number a0 a1 A J ≤ a1 ∧ nx A ≤ nx (FI_X4_number a0 a1 A J)) := by
  have hh := h
  obtain ⟨e1, e2, t, f⟩ := h
  unfold FI_X12_numeral F_X12_numeral
  by_cases c : A 41 1 = 0
  · have cb : B 130 30 = 0 := e1.symm.trans c
    rw [if_pos cb, if_pos cb]
    obtain ⟨tp, wd0, hn, a2, b2, a4, r, hr, a3, b3, a7, kv⟩ := t c
    have kn := kv.num
    have bad : ∀ w : Int32, w ≠ 0 → T_X12_numeral_j46 a0 a1 B J' = FI_X12_wrong w B J' → FI_X4_number a0 a1 A J = FI_X8_step (FI_X4_fail w A J) J → Op n A B (FI_X4_number a0 a1 A J) (if T_X12_numeral_j46 a0 a1 B J' 130 30 = 0 then FI_X12_token (T_X12_numeral_j46 a0 a1 B J') J' else T_X12_numeral_j46 a0 a1 B J') ∧ (FI_X4_number a0 a1 A J 41 1 = 0 → F_X4_number a0 a1 A J = (if T_X12_numeral_j46 a0 a1 B J' 130 30 = 0 then T_X12_numeral_j46 a0 a1 B J' 130 29 else a0) ∧ ¬ F_X4_number a0 a1 A J < a0 ∧ F_X4_number a0 a1 A J ≤ a1 ∧ nx A ≤ nx (FI_X4_number a0 a1 A J)) := fun w hw eT eN => by
      have o := op_fail (w := w) (J := J) (J' := J') hh hw
      have g : ¬ FI_X12_wrong w B J' 130 30 = 0 := fun q => o.2 (o.1.1.1.trans q)
      rw [eT, eN, if_neg g, step_id (o.1.1.2.2.2 o.2)]
      exact ⟨o.1, fun q => absurd q o.2⟩
    by_cases k2 : A 81 5 = 2
    · have s2 := kn.1.mp k2
      have nv := kn.2 k2
      by_cases k3 : A 81 6 < a0
      · refine bad 2 (by decide) ?_ ?_
        · unfold T_X12_numeral_j46
          rw [if_pos s2, if_pos ((nv.lt h0).1.mp k3)]
        · unfold FI_X4_number
          rw [if_pos k2, if_pos k3]
      · by_cases k4 : A 81 6 ≤ a1
        · have eT : T_X12_numeral_j46 a0 a1 B J' = B := by
            unfold T_X12_numeral_j46
            rw [if_pos s2, if_neg (fun q => k3 ((nv.lt h0).1.mpr q)), if_pos ((nv.lt h1).2.1.mp k4)]
          have eN : FI_X4_number a0 a1 A J = FI_X8_step A J := by
            unfold FI_X4_number
            rw [if_pos k2, if_neg k3, if_pos k4]
          have eF : F_X4_number a0 a1 A J = A 81 6 := by
            unfold F_X4_number
            rw [if_pos k2, if_neg k3, if_pos k4]
          have o := op_step (J := J) (J' := J') hh
          unfold FI_X12_goOn at o
          rw [if_pos cb] at o
          rw [eT, eN, eF, if_pos cb, if_pos cb]
          exact ⟨o.1, fun q => ⟨(nv.lt h1).2.2 k4, k3, k4, o.1.2.2.2.2 q⟩⟩
        · refine bad 2 (by decide) ?_ ?_
          · unfold T_X12_numeral_j46
            rw [if_pos s2, if_neg (fun q => k3 ((nv.lt h0).1.mpr q)), if_neg (fun q => k4 ((nv.lt h1).2.1.mpr q))]
          · unfold FI_X4_number
            rw [if_pos k2, if_neg k3, if_neg k4]
    · refine bad 1 (by decide) ?_ ?_
      · unfold T_X12_numeral_j46
        rw [if_neg (fun q => k2 (kn.1.mpr q))]
      · unfold FI_X4_number
        rw [if_neg k2]
  · rw [if_neg (fun q => c (e1.trans q)), num_id c (f c)]
    exact ⟨Op.rf hh, fun q => absurd q c⟩
/-- a table's names alike: m places of the class at k, of the model at r from f on -/
def TN (k r f : Nat) (A B : SI) : Prop := ∃ c : Nat, c ≤ 8 ∧ A k 1 = nI c ∧ ∀ i, i < c → A (k + 1) i = B r (f + i)
theorem find_v {k r la f c : Nat} {x : Int32} {A B : SI} {J J' : SJ} (hc : c ≤ 8) (hf : f ≤ 100) (e : A k 1 = nI c) (e2 : ∀ i, i < c → A (k + 1) i = B r (f + i)) : F_X7_find k x A J = F_X12_found r la (nI f) (nI c) x B J' ∧ (F_X7_find k x A J = -1 ∨ ∃ i, i < c ∧ F_X7_find k x A J = nI i ∧ A (k + 1) i = x) := by
  have key : ∀ m i : Nat, i + m = c → ((itE (B_X7_find_l2 k x A J) m i () = .inl () ∧ itE (B_X12_found_l3 r la (nI f) (nI c) x B J') m i () = .inl ()) ∨ ∃ j, j < c ∧ A (k + 1) j = x ∧ itE (B_X7_find_l2 k x A J) m i () = .inr (nI j) ∧ itE (B_X12_found_l3 r la (nI f) (nI c) x B J') m i () = .inr (nI j)) := by
    intro m
    induction m with
    | zero => intro i _; exact Or.inl ⟨itE_0 _ _ _, itE_0 _ _ _⟩
    | succ m ih =>
      intro i hi
      have a : atF (A (k + 1)) 8 (nI i) = A (k + 1) i := by
        unfold atF
        rw [if_neg (nI_pos (by omega)), if_neg (fun q => by have := (nI_leI (by omega) (by omega)).mp q; omega), nI_clamp (by omega)]
      have b : B r (nI f + nI i).toNatClampNeg = A (k + 1) i := by
        rw [nI_add, nI_clamp (by omega)]
        exact (e2 i (by omega)).symm
      by_cases q : A (k + 1) i = x
      · refine Or.inr ⟨i, by omega, q, itE_r _ _ _ _ _ ?_, itE_r _ _ _ _ _ ?_⟩
        · unfold B_X7_find_l2
          rw [a, if_pos q]
        · unfold B_X12_found_l3
          rw [b, if_pos q]
      · have c1 : B_X7_find_l2 k x A J i () = .inl () := by
          unfold B_X7_find_l2
          rw [a, if_neg q]
        have c2 : B_X12_found_l3 r la (nI f) (nI c) x B J' i () = .inl () := by
          unfold B_X12_found_l3
          rw [b, if_neg q]
        rw [itE_l _ _ _ _ _ c1, itE_l _ _ _ _ _ c2]
        exact ih (i + 1) (by omega)
  unfold F_X7_find F_X7_find_l2 F_X12_found F_X12_found_l3
  rw [e, nI_clamp (by omega)]
  rcases key c 0 (by omega) with ⟨k1, k2⟩ | ⟨j, hj, ej, k1, k2⟩
  · rw [k1, k2]; exact ⟨rfl, Or.inl rfl⟩
  · rw [k1, k2]; exact ⟨rfl, Or.inr ⟨j, hj, rfl, ej⟩⟩
theorem op_fresh {n k r la f c : Nat} {A B : SI} {J J' : SJ} (h : Si n A B) (hc : A 41 1 = 0 → c ≤ 8 ∧ A k 1 = nI c ∧ ∀ i, i < c → A (k + 1) i = B r (f + i)) (hf : f ≤ 100) : Op n A B (FI_X4_fresh k A J) (FI_X12_fresh r la (nI f) (nI c) B J') ∧ (FI_X4_fresh k A J 41 1 = 0 → F_X4_fresh k A J = F_X12_fresh r la (nI f) (nI c) B J') := by
  have hh := h
  obtain ⟨e1, e2, t, fz⟩ := h
  unfold FI_X12_fresh F_X12_fresh
  by_cases c0 : A 41 1 = 0
  · have cb : B 130 30 = 0 := e1.symm.trans c0
    obtain ⟨hc1, hc2, hc3⟩ := hc c0
    rw [if_pos cb, if_pos cb]
    obtain ⟨tp, wd0, hn, a2, b2, a4, r0, hr, a3, b3, a7, kv⟩ := t c0
    have ko := kv.own
    have fv := find_v (x := A 81 6) (la := la) (J := J) (J' := J') hc1 hf hc2 hc3
    have bad : ∀ w : Int32, w ≠ 0 → T_X12_fresh_j44 r la (nI f) (nI c) B J' = FI_X12_wrong w B J' → FI_X4_fresh k A J = FI_X8_step (FI_X4_fail w A J) J → Op n A B (FI_X4_fresh k A J) (if T_X12_fresh_j44 r la (nI f) (nI c) B J' 130 30 = 0 then FI_X12_token (T_X12_fresh_j44 r la (nI f) (nI c) B J') J' else T_X12_fresh_j44 r la (nI f) (nI c) B J') ∧ (FI_X4_fresh k A J 41 1 = 0 → F_X4_fresh k A J = (if T_X12_fresh_j44 r la (nI f) (nI c) B J' 130 30 = 0 then T_X12_fresh_j44 r la (nI f) (nI c) B J' 130 29 else 0)) := fun w hw eT eN => by
      have o := op_fail (w := w) (J := J) (J' := J') hh hw
      have g : ¬ FI_X12_wrong w B J' 130 30 = 0 := fun q => o.2 (o.1.1.1.trans q)
      rw [eT, eN, if_neg g, step_id (o.1.1.2.2.2 o.2)]
      exact ⟨o.1, fun q => absurd q o.2⟩
    by_cases k3 : A 81 5 = 3
    · have s1 := ko.1.mp k3
      have vw := ko.2 k3
      rw [vw] at fv
      have eF : F_X4_fresh k A J = A 81 6 := by unfold F_X4_fresh; simp only [ite_self]
      by_cases q : F_X7_find k (A 81 6) A J < 0
      · have qm : F_X12_found r la (nI f) (nI c) (B 130 29) B J' = -1 := by
          rw [← fv.1]
          rcases fv.2 with z | ⟨i, hi, z, _⟩
          · exact z
          · rw [vw, z] at q; exact absurd q (nI_pos (by omega))
        have eT : T_X12_fresh_j44 r la (nI f) (nI c) B J' = B := by
          unfold T_X12_fresh_j44
          rw [if_pos s1, if_pos qm]
        have eN : FI_X4_fresh k A J = FI_X8_step A J := by
          unfold FI_X4_fresh
          rw [if_pos k3, if_pos q]
        have o := op_step (J := J) (J' := J') hh
        unfold FI_X12_goOn at o
        rw [if_pos cb] at o
        rw [eT, eN, eF, if_pos cb, if_pos cb]
        exact ⟨o.1, fun _ => vw⟩
      · refine bad 3 (by decide) ?_ ?_
        · unfold T_X12_fresh_j44
          rw [if_pos s1, if_neg (fun z => q (by rw [vw, fv.1, z]; decide))]
        · unfold FI_X4_fresh
          rw [if_pos k3, if_neg q]
    · refine bad 1 (by decide) ?_ ?_
      · unfold T_X12_fresh_j44
        rw [if_neg (fun q => k3 (ko.1.mpr q))]
      · unfold FI_X4_fresh
        rw [if_neg k3]
  · rw [if_neg (fun q => c0 (e1.trans q)), fresh_id c0 (fz c0)]
    exact ⟨Op.rf hh, fun q => absurd q c0⟩
theorem op_find {n k r la f c : Nat} {A B : SI} {J J' : SJ} (h : Si n A B) (hc : A 41 1 = 0 → c ≤ 8 ∧ A k 1 = nI c ∧ ∀ i, i < c → A (k + 1) i = B r (f + i)) (hf : f ≤ 100) : Op n A B (FI_X4_find k A J) (FI_X12_atHand r la (nI f) (nI c) B J') ∧ (FI_X4_find k A J 41 1 = 0 → F_X4_find k A J = F_X12_atHand r la (nI f) (nI c) B J' ∧ ∃ i, i < c ∧ F_X4_find k A J = nI i) := by
  have hh := h
  obtain ⟨e1, e2, t, fz⟩ := h
  unfold FI_X12_atHand F_X12_atHand
  by_cases c0 : A 41 1 = 0
  · have cb : B 130 30 = 0 := e1.symm.trans c0
    obtain ⟨hc1, hc2, hc3⟩ := hc c0
    rw [if_pos cb, if_pos cb, ite_self]
    obtain ⟨tp, wd0, hn, a2, b2, a4, r0, hr, a3, b3, a7, kv⟩ := t c0
    have ko := kv.own
    have fv := find_v (x := A 81 6) (la := la) (J := J) (J' := J') hc1 hf hc2 hc3
    have bad : ∀ w : Int32, w ≠ 0 → T_X12_atHand_j44 r la (nI f) (nI c) B J' = FI_X12_wrong w B J' → FI_X4_find k A J = FI_X4_fail w A J → Op n A B (FI_X4_find k A J) (T_X12_atHand_j44 r la (nI f) (nI c) B J') ∧ (FI_X4_find k A J 41 1 = 0 → F_X4_find k A J = (if T_X12_atHand_j44 r la (nI f) (nI c) B J' 130 30 = 0 then S1_X12_atHand r la (nI f) (nI c) B J' else 0) ∧ ∃ i, i < c ∧ F_X4_find k A J = nI i) := fun w hw eT eN => by
      have o := op_fail (w := w) (J := J) (J' := J') hh hw
      rw [eT, eN]
      exact ⟨o.1, fun q => absurd q o.2⟩
    by_cases k3 : A 81 5 = 3
    · have s1 := ko.1.mp k3
      have vw := ko.2 k3
      rw [vw] at fv
      have eF : F_X4_find k A J = F_X7_find k (A 81 6) A J := by
        unfold F_X4_find
        rw [if_pos k3, ite_self]
      by_cases q : (0 : Int32) ≤ F_X7_find k (A 81 6) A J
      · obtain ⟨i, hi, z, _⟩ : ∃ i, i < c ∧ F_X7_find k (B 130 29) A J = nI i ∧ A (k + 1) i = B 130 29 := by
          rcases fv.2 with z | z
          · rw [vw, z] at q; exact absurd q (by decide)
          · exact z
        have qm : ¬ F_X12_found r la (nI f) (nI c) (B 130 29) B J' = -1 := by
          rw [← fv.1, z]
          intro y
          exact absurd (nI_pos' (n := i) (by omega)) (by rw [y]; decide)
        have eT : T_X12_atHand_j44 r la (nI f) (nI c) B J' = B := by
          unfold T_X12_atHand_j44
          rw [if_pos s1, if_neg qm]
        have eN : FI_X4_find k A J = A := by
          unfold FI_X4_find
          rw [if_pos k3, if_pos q]
        have eS : S1_X12_atHand r la (nI f) (nI c) B J' = F_X12_found r la (nI f) (nI c) (B 130 29) B J' := by
          unfold S1_X12_atHand
          rw [eT]
        rw [eT, eN, eF, if_pos cb, eS, vw]
        exact ⟨Op.rf hh, fun _ => ⟨fv.1, i, hi, z⟩⟩
      · refine bad 4 (by decide) ?_ ?_
        · unfold T_X12_atHand_j44
          rw [if_pos s1, if_pos ?_]
          rw [← fv.1]
          rcases fv.2 with z | ⟨i, hi, z, _⟩
          · exact z
          · rw [vw, z] at q; exact absurd (nI_pos' (by omega)) q
        · unfold FI_X4_find
          rw [if_pos k3, if_neg q]
    · refine bad 1 (by decide) ?_ ?_
      · unfold T_X12_atHand_j44
        rw [if_neg (fun q => k3 (ko.1.mpr q))]
      · unfold FI_X4_find
        rw [if_neg k3]
  · rw [if_neg (fun q => c0 (e1.trans q)), find_id c0]
    exact ⟨Op.rf hh, fun q => absurd q c0⟩
