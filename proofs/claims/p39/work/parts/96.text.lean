/-! both: a text read alike -/
theorem tcl_v {k : Nat} {A : SI} {J : SJ} : FI_X7_clear k A J k 0 = A k 0 ∧ FI_X7_clear k A J k 1 = 0 ∧ (∀ j b, 1 ≤ j → j ≤ 4 → b < 8 → FI_X7_clear k A J (k + j) b = 0) ∧ ∀ a b, a < k ∨ k + 4 < a → FI_X7_clear k A J a b = A a b := by
  have fn : ∀ {I : SI} {r m : Nat} {x : Int32} {a b : Nat}, ¬ (a = r ∧ b < m) → fillF I r x m a b = I a b := fun {I r m x a b} z => if_neg z
  have fs : ∀ {I : SI} {r m : Nat} {x : Int32} {b : Nat}, b < m → fillF I r x m r b = x := fun {I r m x b} z => if_pos ⟨rfl, z⟩
  unfold FI_X7_clear S1_X7_clear
  refine ⟨?_, ?_, fun j b x y z => ?_, fun a b z => ?_⟩
  · rw [fn (by omega), fn (by omega), fn (by omega), fn (by omega), u2_n _ _ (by omega)]
  · rw [fn (by omega), fn (by omega), fn (by omega), fn (by omega), u2_s]
  · rcases (by omega : j = 1 ∨ j = 2 ∨ j = 3 ∨ j = 4) with rfl | rfl | rfl | rfl
    · rw [fn (by omega), fn (by omega), fn (by omega), fs z]
    · rw [fn (by omega), fn (by omega), fs z]
    · rw [fn (by omega), fs z]
    · rw [fs z]
  · rw [fn (by omega), fn (by omega), fn (by omega), fn (by omega), u2_n _ _ (by omega)]
theorem lcl_v {k : Nat} {A : SI} {J : SJ} : FI_X1_clear k A J k 0 = 0 ∧ FI_X1_clear k A J k 1 = 0 ∧ ∀ a b, ¬ (a = k ∧ b < 2) → FI_X1_clear k A J a b = A a b := by
  unfold FI_X1_clear
  exact ⟨(u2_n _ _ (by omega)).trans (u2_s _ _ _ _), u2_s _ _ _ _, fun a b z => (u2_n _ _ (by omega)).trans (u2_n _ _ (by omega))⟩
theorem clear_v {A : SI} {J : SJ} (z : ZK A) : ZK (FI_X9_clear 42 A J) ∧ (∀ k, k = 43 ∨ k = 48 ∨ k = 53 ∨ k = 58 ∨ k = 63 → FI_X9_clear 42 A J k 1 = 0) ∧ (∀ b, b < 48 → FI_X9_clear 42 A J 68 b = -1) ∧ FI_X9_clear 42 A J 42 6 = 0 ∧ FI_X9_clear 42 A J 42 7 = -1 ∧ FI_X9_clear 42 A J 42 8 = -1 ∧ FI_X9_clear 42 A J 42 9 = -1 ∧ FI_X9_clear 42 A J 42 10 = 0 ∧ FI_X9_clear 42 A J 42 11 = 0 ∧ (∀ k, k < 3 → FI_X9_clear 42 A J (69 + 4 * k) 0 = 0 ∧ FI_X9_clear 42 A J (69 + 4 * k) 1 = 0) ∧ ∀ a b, a < 42 ∨ 80 < a → FI_X9_clear 42 A J a b = A a b := by
  have fn : ∀ {I : SI} {r m : Nat} {x : Int32} {a b : Nat}, ¬ (a = r ∧ b < m) → fillF I r x m a b = I a b := fun {I r m x a b} z => if_neg z
  have fs : ∀ {I : SI} {r m : Nat} {x : Int32} {b : Nat}, b < m → fillF I r x m r b = x := fun {I r m x b} z => if_pos ⟨rfl, z⟩
  have e : FI_X9_clear 42 A J = FI_X1_clear 77 (FI_X1_clear 73 (FI_X1_clear 69 (u2 (u2 (u2 (u2 (u2 (u2 (fillF (FI_X7_clear 63 (FI_X7_clear 58 (FI_X7_clear 53 (FI_X7_clear 48 (FI_X7_clear 43 A J) J) J) J) J) 68 (-1) 48) 42 6 0) 42 7 (-1)) 42 8 (-1)) 42 9 (-1)) 42 10 0) 42 11 0) J) J) J := rfl
  have t1 := tcl_v (k := 43) (A := A) (J := J)
  generalize FI_X7_clear 43 A J = Y1 at e t1
  have t2 := tcl_v (k := 48) (A := Y1) (J := J)
  generalize FI_X7_clear 48 Y1 J = Y2 at e t2
  have t3 := tcl_v (k := 53) (A := Y2) (J := J)
  generalize FI_X7_clear 53 Y2 J = Y3 at e t3
  have t4 := tcl_v (k := 58) (A := Y3) (J := J)
  generalize FI_X7_clear 58 Y3 J = Y4 at e t4
  have t5 := tcl_v (k := 63) (A := Y4) (J := J)
  generalize FI_X7_clear 63 Y4 J = Y5 at e t5
  have g6 : ∀ a b, ¬ (a = 68 ∧ b < 48) → ¬ (a = 42) → (u2 (u2 (u2 (u2 (u2 (u2 (fillF Y5 68 (-1) 48) 42 6 0) 42 7 (-1)) 42 8 (-1)) 42 9 (-1)) 42 10 0) 42 11 0) a b = Y5 a b := fun a b x y => by
    rw [u2_n _ _ (by omega), u2_n _ _ (by omega), u2_n _ _ (by omega), u2_n _ _ (by omega), u2_n _ _ (by omega), u2_n _ _ (by omega), fn x]
  have h6 : ∀ b, b < 48 → (u2 (u2 (u2 (u2 (u2 (u2 (fillF Y5 68 (-1) 48) 42 6 0) 42 7 (-1)) 42 8 (-1)) 42 9 (-1)) 42 10 0) 42 11 0) 68 b = -1 := fun b x => by
    rw [u2_n _ _ (by omega), u2_n _ _ (by omega), u2_n _ _ (by omega), u2_n _ _ (by omega), u2_n _ _ (by omega), u2_n _ _ (by omega), fs x]
  have v6 : (u2 (u2 (u2 (u2 (u2 (u2 (fillF Y5 68 (-1) 48) 42 6 0) 42 7 (-1)) 42 8 (-1)) 42 9 (-1)) 42 10 0) 42 11 0) 42 6 = 0 ∧ (u2 (u2 (u2 (u2 (u2 (u2 (fillF Y5 68 (-1) 48) 42 6 0) 42 7 (-1)) 42 8 (-1)) 42 9 (-1)) 42 10 0) 42 11 0) 42 7 = -1 ∧ (u2 (u2 (u2 (u2 (u2 (u2 (fillF Y5 68 (-1) 48) 42 6 0) 42 7 (-1)) 42 8 (-1)) 42 9 (-1)) 42 10 0) 42 11 0) 42 8 = -1 ∧ (u2 (u2 (u2 (u2 (u2 (u2 (fillF Y5 68 (-1) 48) 42 6 0) 42 7 (-1)) 42 8 (-1)) 42 9 (-1)) 42 10 0) 42 11 0) 42 9 = -1 ∧ (u2 (u2 (u2 (u2 (u2 (u2 (fillF Y5 68 (-1) 48) 42 6 0) 42 7 (-1)) 42 8 (-1)) 42 9 (-1)) 42 10 0) 42 11 0) 42 10 = 0 ∧ (u2 (u2 (u2 (u2 (u2 (u2 (fillF Y5 68 (-1) 48) 42 6 0) 42 7 (-1)) 42 8 (-1)) 42 9 (-1)) 42 10 0) 42 11 0) 42 11 = 0 := by
    refine ⟨?_, ?_, ?_, ?_, ?_, u2_s _ _ _ _⟩
    · rw [u2_n _ _ (by omega), u2_n _ _ (by omega), u2_n _ _ (by omega), u2_n _ _ (by omega), u2_n _ _ (by omega), u2_s]
    · rw [u2_n _ _ (by omega), u2_n _ _ (by omega), u2_n _ _ (by omega), u2_n _ _ (by omega), u2_s]
    · rw [u2_n _ _ (by omega), u2_n _ _ (by omega), u2_n _ _ (by omega), u2_s]
    · rw [u2_n _ _ (by omega), u2_n _ _ (by omega), u2_s]
    · rw [u2_n _ _ (by omega), u2_s]
  generalize u2 (u2 (u2 (u2 (u2 (u2 (fillF Y5 68 (-1) 48) 42 6 0) 42 7 (-1)) 42 8 (-1)) 42 9 (-1)) 42 10 0) 42 11 0 = Y6 at e g6 h6 v6
  have t7 := lcl_v (k := 69) (A := Y6) (J := J)
  generalize FI_X1_clear 69 Y6 J = Y7 at e t7
  have t8 := lcl_v (k := 73) (A := Y7) (J := J)
  generalize FI_X1_clear 73 Y7 J = Y8 at e t8
  have t9 := lcl_v (k := 77) (A := Y8) (J := J)
  generalize FI_X1_clear 77 Y8 J = Y9 at e t9
  rw [e]
  have up : ∀ a b, ¬ ((a = 69 ∨ a = 73 ∨ a = 77) ∧ b < 2) → Y9 a b = Y6 a b := fun a b x => by
    rw [t9.2.2 a b (by omega), t8.2.2 a b (by omega), t7.2.2 a b (by omega)]
  have r1 : ∀ a b, 43 ≤ a → a ≤ 47 → Y9 a b = Y1 a b := fun a b x y => by
    rw [up a b (by omega), g6 a b (by omega) (by omega), t5.2.2.2 a b (by omega), t4.2.2.2 a b (by omega), t3.2.2.2 a b (by omega), t2.2.2.2 a b (by omega)]
  have r2 : ∀ a b, 48 ≤ a → a ≤ 52 → Y9 a b = Y2 a b := fun a b x y => by
    rw [up a b (by omega), g6 a b (by omega) (by omega), t5.2.2.2 a b (by omega), t4.2.2.2 a b (by omega), t3.2.2.2 a b (by omega)]
  have r3 : ∀ a b, 53 ≤ a → a ≤ 57 → Y9 a b = Y3 a b := fun a b x y => by
    rw [up a b (by omega), g6 a b (by omega) (by omega), t5.2.2.2 a b (by omega), t4.2.2.2 a b (by omega)]
  have r4 : ∀ a b, 58 ≤ a → a ≤ 62 → Y9 a b = Y4 a b := fun a b x y => by
    rw [up a b (by omega), g6 a b (by omega) (by omega), t5.2.2.2 a b (by omega)]
  have r5 : ∀ a b, 63 ≤ a → a ≤ 67 → Y9 a b = Y5 a b := fun a b x y => by
    rw [up a b (by omega), g6 a b (by omega) (by omega)]
  have ot : ∀ a b, a < 42 ∨ 80 < a → Y9 a b = A a b := fun a b x => by
    rw [up a b (by omega), g6 a b (by omega) (by omega), t5.2.2.2 a b (by omega), t4.2.2.2 a b (by omega), t3.2.2.2 a b (by omega), t2.2.2.2 a b (by omega), t1.2.2.2 a b (by omega)]
  have s2 : Y1 48 0 = A 48 0 := t1.2.2.2 _ _ (by omega)
  have s3 : Y2 53 0 = A 53 0 := (t2.2.2.2 _ _ (by omega)).trans (t1.2.2.2 _ _ (by omega))
  have s4 : Y3 58 0 = A 58 0 := (t3.2.2.2 _ _ (by omega)).trans ((t2.2.2.2 _ _ (by omega)).trans (t1.2.2.2 _ _ (by omega)))
  have s5 : Y4 63 0 = A 63 0 := (t4.2.2.2 _ _ (by omega)).trans ((t3.2.2.2 _ _ (by omega)).trans ((t2.2.2.2 _ _ (by omega)).trans (t1.2.2.2 _ _ (by omega))))
  obtain ⟨z0, z1, z2, z3, z4, z5⟩ := z
  refine ⟨⟨?_, ?_, ?_, ?_, ?_, fun i hi => (ot 82 i (by omega)).trans (z5 i hi)⟩, ?_, fun b x => (up 68 b (by omega)).trans (h6 b x), (up _ _ (by omega)).trans v6.1, (up _ _ (by omega)).trans v6.2.1, (up _ _ (by omega)).trans v6.2.2.1, (up _ _ (by omega)).trans v6.2.2.2.1, (up _ _ (by omega)).trans v6.2.2.2.2.1, (up _ _ (by omega)).trans v6.2.2.2.2.2, ?_, ot⟩
  · exact ⟨(r1 43 0 (by omega) (by omega)).trans (t1.1.trans z0.1), 0, by omega, (r1 43 1 (by omega) (by omega)).trans t1.2.1, fun j i x y _ w => (r1 _ _ (by omega) (by omega)).trans (t1.2.2.1 j i x y w)⟩
  · exact ⟨(r2 48 0 (by omega) (by omega)).trans (t2.1.trans (s2.trans z1.1)), 0, by omega, (r2 48 1 (by omega) (by omega)).trans t2.2.1, fun j i x y _ w => (r2 _ _ (by omega) (by omega)).trans (t2.2.2.1 j i x y w)⟩
  · exact ⟨(r3 53 0 (by omega) (by omega)).trans (t3.1.trans (s3.trans z2.1)), 0, by omega, (r3 53 1 (by omega) (by omega)).trans t3.2.1, fun j i x y _ w => (r3 _ _ (by omega) (by omega)).trans (t3.2.2.1 j i x y w)⟩
  · exact ⟨(r4 58 0 (by omega) (by omega)).trans (t4.1.trans (s4.trans z3.1)), 0, by omega, (r4 58 1 (by omega) (by omega)).trans t4.2.1, fun j i x y _ w => (r4 _ _ (by omega) (by omega)).trans (t4.2.2.1 j i x y w)⟩
  · exact ⟨(r5 63 0 (by omega) (by omega)).trans (t5.1.trans (s5.trans z4.1)), 0, by omega, (r5 63 1 (by omega) (by omega)).trans t5.2.1, fun j i x y _ w => (r5 _ _ (by omega) (by omega)).trans (t5.2.2.1 j i x y w)⟩
  · intro k hk
    rcases hk with rfl | rfl | rfl | rfl | rfl
    · exact (r1 43 1 (by omega) (by omega)).trans t1.2.1
    · exact (r2 48 1 (by omega) (by omega)).trans t2.2.1
    · exact (r3 53 1 (by omega) (by omega)).trans t3.2.1
    · exact (r4 58 1 (by omega) (by omega)).trans t4.2.1
    · exact (r5 63 1 (by omega) (by omega)).trans t5.2.1
  · intro k hk
    rcases (by omega : k = 0 ∨ k = 1 ∨ k = 2) with rfl | rfl | rfl
    · exact ⟨(t9.2.2 69 0 (by omega)).trans ((t8.2.2 69 0 (by omega)).trans t7.1), (t9.2.2 69 1 (by omega)).trans ((t8.2.2 69 1 (by omega)).trans t7.2.1)⟩
    · exact ⟨(t9.2.2 73 0 (by omega)).trans t8.1, (t9.2.2 73 1 (by omega)).trans t8.2.1⟩
    · exact ⟨t9.1, t9.2.1⟩
/-- the model's start of a text, the rest of its values -/
theorem tx0b {a0 : Int32} {I : SI} {J : SJ} : S3_X12_text a0 I J 132 17 = 99 ∧ (∀ i, i < 48 → S3_X12_text a0 I J 139 (48 + i) = -1) ∧ S3_X12_text a0 I J 130 23 = 0 ∧ S3_X12_text a0 I J 130 24 = 0 ∧ S3_X12_text a0 I J 130 31 = -1 ∧ ∀ i, i < 48 → S3_X12_text a0 I J 139 i = I 139 i := by
  have A := itN_ind (f := B_X12_text_l47 a0 I J) (N := 10) (s0 := S1_X12_text a0 I J) (fun i s => (7 < i → s 132 17 = 99) ∧ ∀ a b, a ≠ 132 → s a b = S1_X12_text a0 I J a b) ⟨fun z => by omega, fun _ _ _ => rfl⟩ (fun i s hi hs => by
    have t : ((10 : Int32) + nI i).toNatClampNeg = 10 + i := by rw [show (10 : Int32) = nI 10 from rfl, nI_add, nI_clamp (by omega)]
    unfold B_X12_text_l47 FI_X12_reads
    rw [t]
    by_cases q : nI i = 7
    · have i7 : i = 7 := (nI_eq (b := 7) (by omega) (by omega)).mp q
      rw [if_pos q, i7]
      exact ⟨fun _ => u2_s _ _ _ _, fun a b z => (u2_n _ _ (by omega)).trans (hs.2 a b z)⟩
    · have i7 : i ≠ 7 := fun y => q (by rw [y]; rfl)
      rw [if_neg q]
      exact ⟨fun z => (u2_n _ _ (by omega)).trans (hs.1 (by omega)), fun a b z => (u2_n _ _ (by omega)).trans (hs.2 a b z)⟩) 10 (Nat.le_refl _)
  have Bq := itN_ind (f := B_X12_text_l79 a0 I J) (N := 48) (s0 := F_X12_text_l47 a0 I J (S1_X12_text a0 I J)) (fun i s => (∀ b, b < i → s 139 (48 + b) = -1) ∧ ∀ a b, ¬ (a = 139 ∧ 48 ≤ b) → s a b = F_X12_text_l47 a0 I J (S1_X12_text a0 I J) a b) ⟨fun b z => by omega, fun _ _ _ => rfl⟩ (fun i s hi hs => by
    unfold B_X12_text_l79
    rw [nI_clamp (by omega)]
    refine ⟨fun b z => ?_, fun a b z => (u2_n _ _ (by omega)).trans (hs.2 a b z)⟩
    by_cases y : b = i
    · rw [y, u2_s]
    · rw [u2_n _ _ (by omega)]; exact hs.1 b (by omega)) 48 (Nat.le_refl _)
  have C := itN_ind (f := B_X12_text_l100 a0 I J) (N := 3) (s0 := F_X12_text_l79 a0 I J (F_X12_text_l47 a0 I J (S1_X12_text a0 I J))) (fun i s => ∀ a b, a ≠ 148 → a ≠ 149 → s a b = F_X12_text_l79 a0 I J (F_X12_text_l47 a0 I J (S1_X12_text a0 I J)) a b) (fun _ _ _ _ => rfl) (fun i s hi hs => by
    unfold B_X12_text_l100 S27_X12_text
    exact fun a b x y => (u2_n _ _ (by omega)).trans ((u2_n _ _ (by omega)).trans (hs a b x y))) 3 (Nat.le_refl _)
  have k3 : ∀ a b, ¬ (a = 130 ∧ (b = 23 ∨ b = 24 ∨ b = 34 ∨ b = 35)) → S3_X12_text a0 I J a b = S2_X12_text a0 I J a b := fun a b z => by
    unfold S3_X12_text
    exact (u2_n _ _ (by omega)).trans ((u2_n _ _ (by omega)).trans ((u2_n _ _ (by omega)).trans (u2_n _ _ (by omega))))
  have C2 : ∀ a b, a ≠ 148 → a ≠ 149 → S2_X12_text a0 I J a b = F_X12_text_l79 a0 I J (F_X12_text_l47 a0 I J (S1_X12_text a0 I J)) a b := C
  have B2 : (∀ b, b < 48 → F_X12_text_l79 a0 I J (F_X12_text_l47 a0 I J (S1_X12_text a0 I J)) 139 (48 + b) = -1) ∧ ∀ a b, ¬ (a = 139 ∧ 48 ≤ b) → F_X12_text_l79 a0 I J (F_X12_text_l47 a0 I J (S1_X12_text a0 I J)) a b = F_X12_text_l47 a0 I J (S1_X12_text a0 I J) a b := Bq
  have A2 : (7 < 10 → F_X12_text_l47 a0 I J (S1_X12_text a0 I J) 132 17 = 99) ∧ ∀ a b, a ≠ 132 → F_X12_text_l47 a0 I J (S1_X12_text a0 I J) a b = S1_X12_text a0 I J a b := A
  refine ⟨?_, fun i hi => ?_, ?_, ?_, ?_, fun i hi => ?_⟩
  · rw [k3 132 17 (by omega), C2 _ _ (by omega) (by omega), B2.2 _ _ (by omega)]
    exact A2.1 (by omega)
  · rw [k3 139 _ (by omega), C2 _ _ (by omega) (by omega)]
    exact B2.1 i hi
  · unfold S3_X12_text
    exact (u2_n _ _ (by omega)).trans ((u2_n _ _ (by omega)).trans ((u2_n _ _ (by omega)).trans (u2_s _ _ _ _)))
  · unfold S3_X12_text
    exact (u2_n _ _ (by omega)).trans ((u2_n _ _ (by omega)).trans (u2_s _ _ _ _))
  · rw [k3 130 31 (by omega), C2 _ _ (by omega) (by omega), B2.2 _ _ (by omega), A2.2 _ _ (by omega)]
    unfold S1_X12_text
    exact u2_s _ _ _ _
  · rw [k3 139 _ (by omega), C2 _ _ (by omega) (by omega), B2.2 _ _ (by omega), A2.2 _ _ (by omega)]
    unfold S1_X12_text
    exact (u2_n _ _ (by omega)).trans ((u2_n _ _ (by omega)).trans ((u2_n _ _ (by omega)).trans ((u2_n _ _ (by omega)).trans ((u2_n _ _ (by omega)).trans (u2_n _ _ (by omega))))))
/-- the readers' loops over lines -/
theorem read_R {n : Nat} {A B : SI} {J J' : SJ} (tp : TP A B) (z : ZK A) (hn : n ≤ 700) (e : EI (FI_X12_token (S3_X12_text (nI n) B J') J')) (p : PO (FI_X12_token (S3_X12_text (nI n) B J') J')) : Si n (S1_X4_read (nI n) A J) (F_X12_text_w150 (nI n) B J' (FI_X12_token (S3_X12_text (nI n) B J') J', J')).1 ∧ (S1_X4_read (nI n) A J 41 1 = 0 → DT (S1_X4_read (nI n) A J) (F_X12_text_w150 (nI n) B J' (FI_X12_token (S3_X12_text (nI n) B J') J', J')).1) ∧ ZK (S1_X4_read (nI n) A J) ∧ KTM B (F_X12_text_w150 (nI n) B J' (FI_X12_token (S3_X12_text (nI n) B J') J', J')).1 := by
  have z0 : ZK (u2 (u2 A 41 1 0) 41 2 (-1)) := z.q (((KQ.rf A).u (nq (by omega))).u (nq (by omega)))
  have cv := clear_v (J := J) z0
  obtain ⟨zC, k1, w68, v6, v7, v8, v9, v10, v11, vl, ot⟩ := cv
  generalize hC0 : FI_X9_clear 42 (u2 (u2 A 41 1 0) 41 2 (-1)) J = C0 at *
  have x0 := tx0 (a0 := nI n) (I := B) (J := J')
  have xb := tx0b (a0 := nI n) (I := B) (J := J')
  have kS : KTM B (S3_X12_text (nI n) B J') := fun a b q => by
    by_cases y : a = 139
    · rw [y]; exact xb.2.2.2.2.2 b (by unfold mT at q; omega)
    · exact x0.2.2.2.2.2.2.2.2 a b (by unfold mT at q; omega) (by unfold mT at q; omega) y (by unfold mT at q; omega)
  generalize hS3 : S3_X12_text (nI n) B J' = S3 at *
  have gC : ∀ a b, ¬ (a = 81 ∧ (b = 2 ∨ b = 3 ∨ b = 4)) → (u2 (u2 (u2 C0 81 2 (nI n)) 81 3 0) 81 4 0) a b = C0 a b := fun a b q => by
    rw [u2_n _ _ (by omega), u2_n _ _ (by omega), u2_n _ _ (by omega)]
  have c2 : (u2 (u2 (u2 C0 81 2 (nI n)) 81 3 0) 81 4 0) 81 2 = nI n := by rw [u2_n _ _ (by omega), u2_n _ _ (by omega), u2_s]
  have c3 : (u2 (u2 (u2 C0 81 2 (nI n)) 81 3 0) 81 4 0) 81 3 = nI 0 := by rw [u2_n _ _ (by omega), u2_s]; rfl
  have c4 : (u2 (u2 (u2 C0 81 2 (nI n)) 81 3 0) 81 4 0) 81 4 = 0 := u2_s _ _ _ _
  have zC1 : ZK (u2 (u2 (u2 C0 81 2 (nI n)) 81 3 0) 81 4 0) := zC.q ((((KQ.rf C0).u (nq (by omega))).u (nq (by omega))).u (nq (by omega)))
  have eR : S1_X4_read (nI n) A J = (F_X4_read_w28 (nI n) A J (0, FI_X8_step (u2 (u2 (u2 C0 81 2 (nI n)) 81 3 0) 81 4 0) J)).2 := by rw [← hC0]; rfl
  generalize hC1 : u2 (u2 (u2 C0 81 2 (nI n)) 81 3 0) 81 4 0 = C1 at *
  have a41 : C1 41 1 = 0 ∧ C1 41 2 = -1 := by
    rw [gC 41 1 (by omega), gC 41 2 (by omega), ot 41 1 (by omega), ot 41 2 (by omega)]
    exact ⟨(u2_n _ _ (by omega)).trans (u2_s _ _ _ _), u2_s _ _ _ _⟩
  have tp1 : TP C1 S3 := fun b => by
    rw [gC 1 b (by omega), ot 1 b (by omega), u2_n _ _ (by omega), u2_n _ _ (by omega), kS 131 b (by omega)]
    exact tp b
  have d0 : DT C1 S3 := by
    have tb1 : ∀ (k w mx f : Nat) (rs : List (Nat × Nat)), ZT k mx C1 → C1 k 1 = 0 → S3 132 (10 + w) = 0 → TBL k w mx f rs C1 S3 := fun k w mx f rs zt e1 e2 => ⟨0, by omega, zt.1, e1, e2, fun i hi => by omega⟩
    have g1 : ∀ k, k = 43 ∨ k = 48 ∨ k = 53 ∨ k = 58 ∨ k = 63 → C1 k 1 = 0 := fun k hk => (gC k 1 (by omega)).trans (k1 k hk)
    have n23 : ∀ w, w < 31 → ¬ tb (S3 130 23) w := fun w hw => by rw [xb.2.2.1]; exact tb_0 hw
    refine ⟨⟨tb1 _ _ _ _ _ zC1.1 (g1 43 (by omega)) (x0.2.2.2.2.2.2.1 0 (by omega) (by omega)), tb1 _ _ _ _ _ zC1.2.1 (g1 48 (by omega)) (x0.2.2.2.2.2.2.1 1 (by omega) (by omega)), tb1 _ _ _ _ _ zC1.2.2.1 (g1 53 (by omega)) (x0.2.2.2.2.2.2.1 3 (by omega) (by omega)), tb1 _ _ _ _ _ zC1.2.2.2.1 (g1 58 (by omega)) (x0.2.2.2.2.2.2.1 4 (by omega) (by omega)), tb1 _ _ _ _ _ zC1.2.2.2.2.1 (g1 63 (by omega)) (x0.2.2.2.2.2.2.1 5 (by omega) (by omega)), ⟨0, by omega, (gC 42 6 (by omega)).trans v6, x0.2.2.2.2.2.2.1 2 (by omega) (by omega)⟩, fun i hi => ?_⟩, ⟨Or.inl ⟨n23 6 (by omega), (gC 42 7 (by omega)).trans v7, x0.2.2.2.2.2.2.1 6 (by omega) (by omega)⟩, Or.inl ⟨n23 7 (by omega), (gC 42 8 (by omega)).trans v8, xb.1⟩, Or.inl ⟨n23 8 (by omega), (gC 42 9 (by omega)).trans v9, x0.2.2.2.2.2.2.1 8 (by omega) (by omega)⟩, ?_⟩, ⟨0, by omega, (gC 42 11 (by omega)).trans v11, x0.2.2.2.2.2.1, x0.2.2.2.2.2.2.1 9 (by omega) (by omega), x0.2.2.2.2.1⟩, fun k hk => Or.inl ⟨n23 _ (by omega), (gC _ 0 (by omega)).trans (vl k hk).1, (gC _ 1 (by omega)).trans (vl k hk).2, (x0.2.2.2.2.2.2.2.1 k hk).1, (x0.2.2.2.2.2.2.2.1 k hk).2⟩⟩
    · have mq : MKQ 68 43 53 55 i C1 := ⟨Or.inl ((gC 68 i (by omega)).trans (w68 i hi)), fun z => by
        rw [g1 53 (by omega)] at z
        exact absurd z (Nat.not_lt_zero _)⟩
      rw [gC 68 i (by omega), w68 i hi, xb.2.1 i hi]
      exact ⟨rfl, Or.inl rfl, mq⟩
    · rw [gC 42 10 (by omega), v10, xb.2.2.2.1]
  have wd1 : WD C1 := zC1.2.2.2.2.2
  obtain ⟨q0, r0, _, h2, h3, kA, b3, b7, kB, m6, m7, kv, _⟩ := tok_R (J := J) (J' := J') tp1 wd1 hn (Nat.zero_le n) c2 (x0.1) c3 x0.2.1 c4
  have s0 : Si n (FI_X8_step C1 J) (FI_X12_token S3 J') := by
    refine ⟨?_, ?_, fun _ => ⟨fun b => by rw [kA 1 b (by omega), kB 131 b (by omega)]; exact tp1 b, fun i hi => (kA 82 i (by omega)).trans (wd1 i hi), hn, (kA 81 2 (by omega)).trans c2, (kB 130 25 (by omega)).trans x0.1, (kA 81 4 (by omega)).trans c4, r0, h3, b3, m6, b7.trans m7.symm, kv⟩, fun q => absurd ((kA 41 1 (by omega)).trans a41.1) q⟩
    · rw [kA 41 1 (by omega), kB 130 30 (by omega), a41.1]
      exact x0.2.2.2.1.symm
    · rw [kA 41 2 (by omega), kB 130 31 (by omega), a41.2]
      exact xb.2.2.2.2.1.symm
  have d1 : DT (FI_X8_step C1 J) (FI_X12_token S3 J') := d0.op (fun a b x y => kA a b (by omega)) (fun a b x => kB a b (by omega))
  have kt1 : KTM B (FI_X12_token S3 J') := kS.tr (fun a b q => kB a b (by unfold mT at q; omega))
  have ph0 : phi n (FI_X8_step C1 J) ≤ n + 2 := by
    unfold phi
    split
    · split <;> omega
    · omega
  have L := whl2 (f := B_X4_read_w28 (nI n) A J) (g := B_X12_text_w150 (nI n) B J') (s0 := ((0 : Int32), FI_X8_step C1 J)) (t0 := (FI_X12_token S3 J', J')) (fun s t => ∃ i : Nat, s.1 = nI i ∧ i + phi n s.2 ≤ n + 2 ∧ Si n s.2 t.1 ∧ (s.2 41 1 = 0 → DT s.2 t.1) ∧ EI t.1 ∧ PO t.1 ∧ ZK s.2 ∧ KTM B t.1) (fun s t => Si n s.2 t.1 ∧ (s.2 41 1 = 0 → DT s.2 t.1) ∧ ZK s.2 ∧ KTM B t.1) (fun s => phi n s.2) ⟨0, rfl, by rw [Nat.zero_add]; exact ph0, s0, fun _ => d1, e, p, zC1.q step_Q, kt1⟩ (by show phi n (FI_X8_step C1 J) < 800; omega) (fun s t h => by
    obtain ⟨i, e1, hi, si, hd, ei, po, zk, kt⟩ := h
    have iter : ∀ (c : s.2 41 1 = 0), ¬ s.2 81 5 = 0 → i ≤ n := fun c k0 => by
      have f := si.far c
      unfold phi at hi; rw [if_pos c, if_neg k0] at hi; omega
    by_cases c : s.2 41 1 = 0
    · have cT : t.1 130 30 = 0 := si.1.symm.trans c
      obtain ⟨_, _, _, _, _, _, r, _, _, _, _, kv⟩ := si.2.2.1 c
      have k40 : s.2 81 5 = 0 ↔ t.1 130 28 = 4 := by
        rcases kv with ⟨a, b⟩ | ⟨a, b⟩ | ⟨a, b, _⟩ | ⟨a, b, _⟩ | ⟨j, hj, a, b, _⟩ | ⟨j, hj, a, b, _⟩
        · rw [a, b]; exact ⟨fun _ => rfl, fun _ => rfl⟩
        · rw [a, b]; decide
        · rw [a, b]; decide
        · rw [a, b]; decide
        · rw [a, b]; exact ⟨fun q => by have := (nI_eq (b := 0) (by omega) (by omega)).mp q; omega, fun q => absurd q (by decide)⟩
        · rw [a, b]; exact ⟨fun q => by have := (nI_eq (b := 0) (by omega) (by omega)).mp q; omega, fun q => absurd q (by decide)⟩
      by_cases k0 : s.2 81 5 = 0
      · refine Or.inr ⟨s, t, ?_, ?_, si, hd, zk, kt⟩
        · unfold B_X4_read_w28
          rw [if_pos c, if_pos k0, ite_self]
        · unfold B_X12_text_w150
          rw [if_pos cT, if_pos (k40.mp k0)]
      · by_cases lt : nI n < s.1
        · exact absurd lt (by rw [e1]; exact nI_nlt (iter c k0) (by omega))
        · have l := line_R (J := J) (J1 := J) (J' := t.2) si c (hd c) ei
          have le := line_E (J := t.2) ei po
          have eS : S3_X4_read (nI n) A J s = u2 (semiC (FI_X4_line s.2 J) J) 42 10 (semiC (FI_X4_line s.2 J) J 42 10 + 1) := rfl
          have phd : phi n (FI_X8_step (S3_X4_read (nI n) A J s) J) + 1 ≤ phi n s.2 := by
            rw [eS]
            have f := si.far c
            have e2 : phi n s.2 = 2 + n - nx s.2 := by unfold phi; rw [if_pos c, if_neg k0]
            rw [e2]
            unfold phi
            split
            · rename_i q
              have pr := (l.2.2 q).2
              split
              · omega
              · rename_i q2
                have := pr.resolve_left q2
                omega
            · omega
          refine Or.inl ⟨_, _, by unfold B_X4_read_w28; rw [if_neg lt, if_pos c, if_neg k0], by unfold B_X12_text_w150; rw [if_pos cT, if_neg (fun q => k0 (k40.mpr q))], ⟨i + 1, by rw [e1, nI_1], ?_, ?_, ?_, le.2.1.1, le.2.1.2.1, ?_, kt.tr l.1⟩, ?_⟩
          · show i + 1 + phi n (FI_X8_step (S3_X4_read (nI n) A J s) J) ≤ n + 2
            omega
          · rw [eS]; exact l.2.1
          · intro q
            rw [eS] at q ⊢
            exact (l.2.2 q).1
          · have sc : KQ (FI_X4_line s.2 J) (semiC (FI_X4_line s.2 J) J) := by
              unfold semiC
              split
              · exact KQ.rf _
              · exact fail_Q
            rw [eS]
            exact (zk.aq line_Q).q ((sc.u (nq (by omega))).tr step_Q)
          · show phi n (FI_X8_step (S3_X4_read (nI n) A J s) J) < phi n s.2
            omega
    · have cT : ¬ t.1 130 30 = 0 := fun q => c (si.1.trans q)
      refine Or.inr ⟨s, t, ?_, ?_, si, hd, zk, kt⟩
      · unfold B_X4_read_w28
        rw [if_neg c, ite_self]
      · unfold B_X12_text_w150
        rw [if_neg cT])
  obtain ⟨r, q, g1, g2, g3, g4, g5, g6⟩ := L
  rw [eR]
  unfold F_X4_read_w28 F_X12_text_w150
  rw [g1, g2]
  exact ⟨g3, g4, g5, g6⟩
