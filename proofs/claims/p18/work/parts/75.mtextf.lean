theorem MW.kl {tp : SI} {I I1 : SI} (h : MW tp I) (s : SM I1) (k : ∀ a b, a = 170 ∨ a = 171 ∨ a = 173 ∨ a = 174 ∨ a = 176 → I1 a b = I a b) (c54 : inR (I1 130 54) 21) (c68 : inR (I1 130 68) 25) (c69 : I1 130 69 = -1 ∨ inR (I1 130 69) 25) : MW I1 I1 := ⟨s, (fun _ _ _ => rfl), c54, c68, c69, fun b z => by rw [k 174 b (by omega)]; exact h.gr4 b z, fun b z => by rw [k 173 b (by omega)]; exact h.gr3 b z, fun b z => by rw [k 176 b (by omega)]; exact h.gr6 b z, fun b z => by rw [k 170 b (by omega)]; exact h.gf0 b z, fun b z => by rw [k 171 b (by omega)]; exact h.gf1 b z⟩
/-- the state ahead of the first token -/
theorem tx0 {a0 : Int32} {I : SI} {J : SJ} : S3_X12_text a0 I J 130 25 = a0 ∧ S3_X12_text a0 I J 130 26 = 0 ∧ S3_X12_text a0 I J 130 2 = 0 ∧ S3_X12_text a0 I J 130 30 = 0 ∧ S3_X12_text a0 I J 130 34 = 0 ∧ S3_X12_text a0 I J 130 35 = 0 ∧ (∀ k, k < 10 → k ≠ 7 → S3_X12_text a0 I J 132 (10 + k) = 0) ∧ (∀ k, k < 3 → S3_X12_text a0 I J 148 (3 + k) = 0 ∧ S3_X12_text a0 I J 149 (3 + k) = 0) ∧ ∀ a b, a ≠ 130 ∨ (35 < b) → ¬ (a = 132 ∧ 10 ≤ b) → a ≠ 139 → ¬ ((a = 148 ∨ a = 149) ∧ 3 ≤ b) → S3_X12_text a0 I J a b = I a b := by
  have s1 : ∀ a b, a ≠ 130 ∨ 35 < b → S1_X12_text a0 I J a b = I a b := fun a b z => by
    unfold S1_X12_text
    exact (u2_n _ _ (by omega)).trans ((u2_n _ _ (by omega)).trans ((u2_n _ _ (by omega)).trans ((u2_n _ _ (by omega)).trans ((u2_n _ _ (by omega)).trans (u2_n _ _ (by omega))))))
  have v1 : S1_X12_text a0 I J 130 25 = a0 ∧ S1_X12_text a0 I J 130 26 = 0 ∧ S1_X12_text a0 I J 130 2 = 0 ∧ S1_X12_text a0 I J 130 30 = 0 := by
    unfold S1_X12_text
    exact ⟨(u2_n _ _ (by omega)).trans ((u2_n _ _ (by omega)).trans ((u2_n _ _ (by omega)).trans ((u2_n _ _ (by omega)).trans (u2_s _ _ _ _)))), (u2_n _ _ (by omega)).trans ((u2_n _ _ (by omega)).trans (u2_s _ _ _ _)), (u2_n _ _ (by omega)).trans ((u2_n _ _ (by omega)).trans ((u2_n _ _ (by omega)).trans (u2_s _ _ _ _))), (u2_n _ _ (by omega)).trans (u2_s _ _ _ _)⟩
  have A := itN_ind (f := B_X12_text_l47 a0 I J) (N := 10) (s0 := S1_X12_text a0 I J) (fun i s => (∀ k, k < i → k ≠ 7 → s 132 (10 + k) = 0) ∧ ∀ a b, ¬ (a = 132 ∧ 10 ≤ b) → s a b = S1_X12_text a0 I J a b) ⟨fun b z => absurd z (Nat.not_lt_zero _), fun _ _ _ => rfl⟩ (fun i s hi hs => by
    have t : ((10 : Int32) + nI i).toNatClampNeg = 10 + i := by rw [show (10 : Int32) = nI 10 from rfl, nI_add, nI_clamp (by omega)]
    unfold B_X12_text_l47 FI_X12_reads
    rw [t]
    split
    · rename_i q
      have i7 : i = 7 := by
        have y := congrArg Int32.toNatClampNeg q
        rw [nI_clamp (by omega)] at y
        exact y
      refine ⟨fun k z y => ?_, fun a b z => (u2_n _ _ (by omega)).trans (hs.2 a b z)⟩
      rw [u2_n _ _ (by omega)]
      exact hs.1 k (by omega) y
    · refine ⟨fun k z y => ?_, fun a b z => (u2_n _ _ (by omega)).trans (hs.2 a b z)⟩
      by_cases q : k = i
      · rw [q, u2_s]
      · rw [u2_n _ _ (by omega)]; exact hs.1 k (by omega) y) 10 (Nat.le_refl _)
  have Bq := itN_ind (f := B_X12_text_l79 a0 I J) (N := 48) (s0 := F_X12_text_l47 a0 I J (S1_X12_text a0 I J)) (fun i s => ∀ a b, a ≠ 139 → s a b = F_X12_text_l47 a0 I J (S1_X12_text a0 I J) a b) (fun _ _ _ => rfl) (fun i s hi hs => by
    unfold B_X12_text_l79
    exact fun a b z => (u2_n _ _ (by omega)).trans (hs a b z)) 48 (Nat.le_refl _)
  have C := itN_ind (f := B_X12_text_l100 a0 I J) (N := 3) (s0 := F_X12_text_l79 a0 I J (F_X12_text_l47 a0 I J (S1_X12_text a0 I J))) (fun i s => (∀ k, k < i → s 148 (3 + k) = 0 ∧ s 149 (3 + k) = 0) ∧ ∀ a b, ¬ ((a = 148 ∨ a = 149) ∧ 3 ≤ b) → s a b = F_X12_text_l79 a0 I J (F_X12_text_l47 a0 I J (S1_X12_text a0 I J)) a b) ⟨fun b z => absurd z (Nat.not_lt_zero _), fun _ _ _ => rfl⟩ (fun i s hi hs => by
    have t : (nI (3 + i)).toNatClampNeg = 3 + i := nI_clamp (by omega)
    unfold B_X12_text_l100 S27_X12_text
    rw [t]
    refine ⟨fun k z => ?_, fun a b z => (u2_n _ _ (by omega)).trans ((u2_n _ _ (by omega)).trans (hs.2 a b z))⟩
    by_cases q : k = i
    · rw [q]
      exact ⟨(u2_n _ _ (by omega)).trans (u2_s _ _ _ _), u2_s _ _ _ _⟩
    · have r := hs.1 k (by omega)
      exact ⟨(u2_n _ _ (by omega)).trans ((u2_n _ _ (by omega)).trans r.1), (u2_n _ _ (by omega)).trans ((u2_n _ _ (by omega)).trans r.2)⟩) 3 (Nat.le_refl _)
  have e2 : ∀ a b, a ≠ 139 → ¬ ((a = 148 ∨ a = 149) ∧ 3 ≤ b) → S2_X12_text a0 I J a b = F_X12_text_l47 a0 I J (S1_X12_text a0 I J) a b := fun a b z y => by
    unfold S2_X12_text
    exact (C.2 a b y).trans (Bq a b z)
  have e3 : ∀ a b, ¬ (a = 130 ∧ (b = 23 ∨ b = 24 ∨ b = 34 ∨ b = 35)) → S3_X12_text a0 I J a b = S2_X12_text a0 I J a b := fun a b z => by
    unfold S3_X12_text
    exact (u2_n _ _ (by omega)).trans ((u2_n _ _ (by omega)).trans ((u2_n _ _ (by omega)).trans (u2_n _ _ (by omega))))
  have p : ∀ b, b = 25 ∨ b = 26 ∨ b = 2 ∨ b = 30 → S3_X12_text a0 I J 130 b = S1_X12_text a0 I J 130 b := fun b z => (e3 130 b (by omega)).trans ((e2 130 b (by omega) (by omega)).trans (A.2 130 b (by omega)))
  refine ⟨(p 25 (by omega)).trans v1.1, (p 26 (by omega)).trans v1.2.1, (p 2 (by omega)).trans v1.2.2.1, (p 30 (by omega)).trans v1.2.2.2, ?_, ?_, fun k z y => ?_, fun k z => ?_, fun a b z y x v => ?_⟩
  · unfold S3_X12_text
    exact (u2_n _ _ (by omega)).trans (u2_s _ _ _ _)
  · unfold S3_X12_text
    exact u2_s _ _ _ _
  · exact (e3 132 _ (by omega)).trans ((e2 132 _ (by omega) (by omega)).trans (A.1 k z y))
  · have q := C.1 k z
    refine ⟨(e3 148 _ (by omega)).trans ?_, (e3 149 _ (by omega)).trans ?_⟩
    · unfold S2_X12_text; exact q.1
    · unfold S2_X12_text; exact q.2
  · exact (e3 a b (by omega)).trans ((e2 a b x v).trans ((A.2 a b y).trans (s1 a b z)))
