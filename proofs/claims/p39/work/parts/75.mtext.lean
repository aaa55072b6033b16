/-! the model takes a text -/
theorem half_v {r N : Nat} {I : SI} {J : SJ} (hN : 2 * N < 800) (hd : nI (2 * N) / 2 = nI N) : H_X12_half r (2 * N) I J ∧ (∀ b, b < N → FI_X12_half r (2 * N) I J r b = I r (N + b)) ∧ ∀ a b, ¬ (a = r ∧ b < N) → FI_X12_half r (2 * N) I J a b = I a b := by
  have L := itN_ind (f := B_X12_half_l7 r (2 * N) I J) (N := N) (s0 := I) (fun i s => (∀ b, b < i → s r b = I r (N + b)) ∧ ∀ a b, ¬ (a = r ∧ b < i) → s a b = I a b) ⟨fun b z => absurd z (Nat.not_lt_zero _), fun _ _ _ => rfl⟩ (fun i s hi hs => by
    unfold B_X12_half_l7 S1_X12_half
    rw [hd, nI_add, nI_clamp (by omega), nI_clamp (by omega)]
    refine ⟨fun b z => ?_, fun a b z => ?_⟩
    · by_cases q : b = i
      · rw [q, u2_s]; exact hs.2 r (N + i) (by omega)
      · rw [u2_n _ _ (fun y => q y.2)]; exact hs.1 b (by omega)
    · exact (u2_n _ _ (by omega)).trans (hs.2 a b (by omega)))
  refine ⟨?_, ?_⟩
  · unfold H_X12_half
    rw [hd]
    refine ⟨fun i s hi _ => ?_, fun i s hi _ => ?_⟩
    · rw [nI_clamp (by omega)] at hi
      rw [nI_add]
      exact inR_nI (by omega) (by omega)
    · rw [nI_clamp (by omega)] at hi
      exact inR_nI (by omega) (by omega)
  · unfold FI_X12_half F_X12_half_l7
    rw [hd, nI_clamp (by omega)]
    exact L N (Nat.le_refl _)
/-- what is told, but for the tape's counts -/
def dpT (a b : Nat) : Prop := dpL a b ∧ ¬ (a = 130 ∧ (b = 2 ∨ b = 25))
theorem SM.kl {I I1 : SI} (h : SM I) (k : ∀ a b, dpT a b → I1 a b = I a b) (p : PO I1) : SM I1 := by
  obtain ⟨h0, h1, h3, h4, h5, h6, hp, hw, hl⟩ := h
  have e : ∀ b, b < 10 → I1 132 b = I 132 b := fun b z => k 132 b (by unfold dpT dpL; omega)
  refine ⟨by rw [e 0 (by omega)]; exact h0, by rw [e 1 (by omega)]; exact h1, by rw [e 3 (by omega)]; exact h3, by rw [e 4 (by omega)]; exact h4, by rw [e 5 (by omega)]; exact h5, by rw [e 6 (by omega)]; exact h6, fun q z => ?_, fun q z => ?_, fun q z => ?_⟩
  · by_cases c : q < 4
    · rw [k 141 q (by unfold dpT dpL; omega)]; exact hp q z
    · exact p.2.2.2.2.2.2.2.1 q (by omega) z
  · by_cases c : q < 6
    · rw [k 135 q (by unfold dpT dpL; omega)]; exact hw q z
    · exact p.2.2.2.2.2.2.2.2.1 q (by omega) z
  · obtain ⟨f, n, a, b, g, ok⟩ := hl q z
    exact ⟨f, n, (k 148 q (by unfold dpT dpL; omega)).trans a, (k 149 q (by unfold dpT dpL; omega)).trans b, g, okc_cg _ _ _ (fun j _ y => ⟨k 150 j (by unfold dpT dpL; omega), k 151 j (by unfold dpT dpL; omega)⟩) ok⟩
theorem dpT_k {a b : Nat} (z : a = 170 ∨ a = 171 ∨ a = 173 ∨ a = 174 ∨ a = 176) : dpT a b := by
  unfold dpT dpL
  refine ⟨?_, fun y => by omega⟩
  exact Or.inr (Or.inr (Or.inr (Or.inr (Or.inr (Or.inr z)))))
theorem MW.kl {tp : SI} {I I1 : SI} (h : MW tp I) (s : SM I1) (k : ∀ a b, a = 170 ∨ a = 171 ∨ a = 173 ∨ a = 174 ∨ a = 176 → I1 a b = I a b) (c54 : inR (I1 130 54) 21) (c68 : inR (I1 130 68) 25) (c69 : I1 130 69 = -1 ∨ inR (I1 130 69) 25) : MW I1 I1 := ⟨s, (fun _ _ _ => rfl), c54, c68, c69, fun b z => by rw [k 174 b (by omega)]; exact h.gr4 b z, fun b z => by rw [k 173 b (by omega)]; exact h.gr3 b z, fun b z => by rw [k 176 b (by omega)]; exact h.gr6 b z, fun b z => by rw [k 170 b (by omega)]; exact h.gf0 b z, fun b z => by rw [k 171 b (by omega)]; exact h.gf1 b z⟩
/-- the state ahead of the first token -/
theorem tx0 {a0 : Int32} {I : SI} {J : SJ} : S3_X12_text a0 I J 130 25 = a0 ∧ S3_X12_text a0 I J 130 26 = 0 ∧ S3_X12_text a0 I J 130 2 = 0 ∧ S3_X12_text a0 I J 130 30 = 0 ∧ S3_X12_text a0 I J 130 34 = 0 ∧ S3_X12_text a0 I J 130 35 = 0 ∧ (∀ k, k < 10 → k ≠ 7 → S3_X12_text a0 I J 132 (10 + k) = 0) ∧ (∀ k, k < 3 → S3_X12_text a0 I J 148 (3 + k) = 0 ∧ S3_X12_text a0 I J 149 (3 + k) = 0) ∧ ∀ a b, a ≠ 130 ∨ (35 < b) → ¬ (a = 132 ∧ 10 ≤ b) → a ≠ 139 → ¬ ((a = 148 ∨ a = 149) ∧ 3 ≤ b) → S3_X12_text a0 I J a b = I a b := by
  have s1 : ∀ a b, a ≠ 130 ∨ 35 < b → S1_X12_text a0 I J a b = I a b := fun a b z => by
    unfold S1_X12_text
    exact (u2_n _ _ (by omega)).trans ((u2_n _ _ (by omega)).trans ((u2_n _ _ (by omega)).trans ((u2_n _ _ (by omega)).trans ((u2_n _ _ (by omega)).trans (u2_n _ _ (by omega))))))
  have v1 : S1_X12_text a0 I J 130 25 = a0 ∧ S1_X12_text a0 I J 130 26 = 0 ∧ S1_X12_text a0 I J 130 2 = 0 ∧ S1_X12_text a0 I J 130 30 = 0 := by
    unfold S1_X12_text
    exact ⟨(u2_n _ _ (by omega)).trans ((u2_n _ _ (by omega)).trans ((u2_n _ _ (by omega)).trans ((u2_n _ _ (by omega)).trans (u2_s _ _ _ _)))), (u2_n _ _ (by omega)).trans ((u2_n _ _ (by omega)).trans (u2_s _ _ _ _)), (u2_n _ _ (by omega)).trans ((u2_n _ _ (by omega)).trans ((u2_n _ _ (by omega)).trans (u2_s _ _ _ _))), (u2_n _ _ (by omega)).trans (u2_s _ _ _ _)⟩
  have A := itN_ind (f := B_X12_text_l47 a0 I J) (N := 10) (s0 := S1_X12_text a0 I J) (fun i s => (∀ k, k < i → k ≠ 7 → s 132 (10 + k) = 0) ∧ ∀ a b, ¬ (a = 132 ∧ 10 ≤ b) → s a b = S1_X12_text a0 I J a b) ⟨fun b z => absurd z (Nat.not_lt_zero _), fun _ _ _ => rfl⟩ (fun i s hi hs => by
    have t : ((10 : Int32) + nI i).toNatClampNeg = 10 + i := by rw [show (10 : Int32) = nI 10 from rfl, nI_add, nI_clamp (by omega)]
    unfold B_X12_text_l47 FI_X12_reads
    rw [t]
    split
    · rename_i q
      have i7 : i = 7 := by
        have y := congrArg Int32.toNatClampNeg q
        rw [nI_clamp (by omega)] at y
        exact y
      refine ⟨fun k z y => ?_, fun a b z => (u2_n _ _ (by omega)).trans (hs.2 a b z)⟩
      rw [u2_n _ _ (by omega)]
      exact hs.1 k (by omega) y
    · refine ⟨fun k z y => ?_, fun a b z => (u2_n _ _ (by omega)).trans (hs.2 a b z)⟩
      by_cases q : k = i
      · rw [q, u2_s]
      · rw [u2_n _ _ (by omega)]; exact hs.1 k (by omega) y) 10 (Nat.le_refl _)
  have Bq := itN_ind (f := B_X12_text_l79 a0 I J) (N := 48) (s0 := F_X12_text_l47 a0 I J (S1_X12_text a0 I J)) (fun i s => ∀ a b, a ≠ 139 → s a b = F_X12_text_l47 a0 I J (S1_X12_text a0 I J) a b) (fun _ _ _ => rfl) (fun i s hi hs => by
    unfold B_X12_text_l79
    exact fun a b z => (u2_n _ _ (by omega)).trans (hs a b z)) 48 (Nat.le_refl _)
  have C := itN_ind (f := B_X12_text_l100 a0 I J) (N := 3) (s0 := F_X12_text_l79 a0 I J (F_X12_text_l47 a0 I J (S1_X12_text a0 I J))) (fun i s => (∀ k, k < i → s 148 (3 + k) = 0 ∧ s 149 (3 + k) = 0) ∧ ∀ a b, ¬ ((a = 148 ∨ a = 149) ∧ 3 ≤ b) → s a b = F_X12_text_l79 a0 I J (F_X12_text_l47 a0 I J (S1_X12_text a0 I J)) a b) ⟨fun b z => absurd z (Nat.not_lt_zero _), fun _ _ _ => rfl⟩ (fun i s hi hs => by
    have t : (nI (3 + i)).toNatClampNeg = 3 + i := nI_clamp (by omega)
    unfold B_X12_text_l100 S27_X12_text
    rw [t]
    refine ⟨fun k z => ?_, fun a b z => (u2_n _ _ (by omega)).trans ((u2_n _ _ (by omega)).trans (hs.2 a b z))⟩
    by_cases q : k = i
    · rw [q]
      exact ⟨(u2_n _ _ (by omega)).trans (u2_s _ _ _ _), u2_s _ _ _ _⟩
    · have r := hs.1 k (by omega)
      exact ⟨(u2_n _ _ (by omega)).trans ((u2_n _ _ (by omega)).trans r.1), (u2_n _ _ (by omega)).trans ((u2_n _ _ (by omega)).trans r.2)⟩) 3 (Nat.le_refl _)
  have e2 : ∀ a b, a ≠ 139 → ¬ ((a = 148 ∨ a = 149) ∧ 3 ≤ b) → S2_X12_text a0 I J a b = F_X12_text_l47 a0 I J (S1_X12_text a0 I J) a b := fun a b z y => by
    unfold S2_X12_text
    exact (C.2 a b y).trans (Bq a b z)
  have e3 : ∀ a b, ¬ (a = 130 ∧ (b = 23 ∨ b = 24 ∨ b = 34 ∨ b = 35)) → S3_X12_text a0 I J a b = S2_X12_text a0 I J a b := fun a b z => by
    unfold S3_X12_text
    exact (u2_n _ _ (by omega)).trans ((u2_n _ _ (by omega)).trans ((u2_n _ _ (by omega)).trans (u2_n _ _ (by omega))))
  have p : ∀ b, b = 25 ∨ b = 26 ∨ b = 2 ∨ b = 30 → S3_X12_text a0 I J 130 b = S1_X12_text a0 I J 130 b := fun b z => (e3 130 b (by omega)).trans ((e2 130 b (by omega) (by omega)).trans (A.2 130 b (by omega)))
  refine ⟨(p 25 (by omega)).trans v1.1, (p 26 (by omega)).trans v1.2.1, (p 2 (by omega)).trans v1.2.2.1, (p 30 (by omega)).trans v1.2.2.2, ?_, ?_, fun k z y => ?_, fun k z => ?_, fun a b z y x v => ?_⟩
  · unfold S3_X12_text
    exact (u2_n _ _ (by omega)).trans (u2_s _ _ _ _)
  · unfold S3_X12_text
    exact u2_s _ _ _ _
  · exact (e3 132 _ (by omega)).trans ((e2 132 _ (by omega) (by omega)).trans (A.1 k z y))
  · have q := C.1 k z
    refine ⟨(e3 148 _ (by omega)).trans ?_, (e3 149 _ (by omega)).trans ?_⟩
    · unfold S2_X12_text; exact q.1
    · unfold S2_X12_text; exact q.2
  · exact (e3 a b (by omega)).trans ((e2 a b x v).trans ((A.2 a b y).trans (s1 a b z)))
theorem tx1 {a0 : Int32} {I : SI} {J : SJ} (hS : SM I) (ha : inR a0 701) : H_X12_token (S3_X12_text a0 I J) J ∧ EI (FI_X12_token (S3_X12_text a0 I J) J) ∧ PO (FI_X12_token (S3_X12_text a0 I J) J) ∧ (∀ a b, dpT a b → FI_X12_token (S3_X12_text a0 I J) J a b = I a b) ∧ FI_X12_token (S3_X12_text a0 I J) J 130 2 = 0 := by
  obtain ⟨x25, x26, x2, x30, x34, x35, xn, xl, xf⟩ := tx0 (a0 := a0) (I := I) (J := J)
  have tm : TM (S3_X12_text a0 I J) := ⟨by rw [x25]; exact ha, by rw [x26]; exact cn_0⟩
  have t := tok_M (J := J) tm
  have v := tok_V (J := J) tm
  have e : ∀ a b, ¬ (a = 130 ∧ 26 ≤ b ∧ b ≤ 29) → FI_X12_token (S3_X12_text a0 I J) J a b = S3_X12_text a0 I J a b := t.2.1.2.1
  have n19 : FI_X12_token (S3_X12_text a0 I J) J 132 19 = 0 := (e 132 19 (by omega)).trans (xn 9 (by omega) (by omega))
  have z0 : ∀ k, k < 10 → k ≠ 7 → FI_X12_token (S3_X12_text a0 I J) J 132 (10 + k) = 0 := fun k h h7 => (e 132 _ (by omega)).trans (xn k h h7)
  have nz : nn (FI_X12_token (S3_X12_text a0 I J) J) = 0 := by unfold nn; rw [n19]; rfl
  refine ⟨t.1, ⟨t.2.1.1, v, by rw [e 130 34 (by omega), x34]; exact cn_0, by rw [e 130 35 (by omega), x35]; exact cn_0, by rw [n19]; exact cn_0, fun _ => by rw [nz]; exact Nat.zero_le _⟩, ⟨by rw [z0 0 (by omega) (by omega)]; exact cn_0, by rw [z0 1 (by omega) (by omega)]; exact cn_0, by rw [z0 2 (by omega) (by omega)]; exact cn_0, by rw [z0 3 (by omega) (by omega)]; exact cn_0, by rw [z0 4 (by omega) (by omega)]; exact cn_0, by rw [z0 5 (by omega) (by omega)]; exact cn_0, by rw [z0 6 (by omega) (by omega)]; exact cn_0, fun q h1 h2 => ?_, fun q h1 h2 => ?_, fun k hk => ⟨0, 0, ?_, ?_, by omega, trivial⟩⟩, fun a b z => ?_, (e 130 2 (by omega)).trans x2⟩
  · rw [e 141 q (by omega), xf 141 q (by omega) (by omega) (by omega) (by omega)]; exact hS.2.2.2.2.2.2.1 q h2
  · rw [e 135 q (by omega), xf 135 q (by omega) (by omega) (by omega) (by omega)]; exact hS.2.2.2.2.2.2.2.1 q h2
  · exact (e 148 _ (by omega)).trans (xl k hk).1
  · exact (e 149 _ (by omega)).trans (xl k hk).2
  · unfold dpT dpL at z
    exact (e a b (by omega)).trans (xf a b (by omega) (by omega) (by omega) (by omega))
set_option maxHeartbeats 8000000 in
theorem tx2 {a0 : Int32} {I : SI} {J : SJ} {R : SI} (eR : ∀ a b, a ≠ 130 → (u2 (S4_X12_text a0 I J) 130 33 (S4_X12_text a0 I J 130 31)) a b = R a b) (e : EI R) (p : PO R) : (H_X12_half 132 20 (u2 (S4_X12_text a0 I J) 130 33 (S4_X12_text a0 I J 130 31)) (F_X12_text_w150 a0 I J (FI_X12_token (S3_X12_text a0 I J) J, J)).2 ∧ H_X12_half 133 12 (S5_X12_text a0 I J) (F_X12_text_w150 a0 I J (FI_X12_token (S3_X12_text a0 I J) J, J)).2 ∧ H_X12_half 134 12 (S6_X12_text a0 I J) (F_X12_text_w150 a0 I J (FI_X12_token (S3_X12_text a0 I J) J, J)).2 ∧ H_X12_half 135 12 (S7_X12_text a0 I J) (F_X12_text_w150 a0 I J (FI_X12_token (S3_X12_text a0 I J) J, J)).2 ∧ H_X12_half 136 16 (S8_X12_text a0 I J) (F_X12_text_w150 a0 I J (FI_X12_token (S3_X12_text a0 I J) J, J)).2 ∧ H_X12_half 137 16 (S9_X12_text a0 I J) (F_X12_text_w150 a0 I J (FI_X12_token (S3_X12_text a0 I J) J, J)).2 ∧ H_X12_half 138 16 (S10_X12_text a0 I J) (F_X12_text_w150 a0 I J (FI_X12_token (S3_X12_text a0 I J) J, J)).2 ∧ H_X12_half 139 96 (S11_X12_text a0 I J) (F_X12_text_w150 a0 I J (FI_X12_token (S3_X12_text a0 I J) J, J)).2 ∧ H_X12_half 140 8 (S12_X12_text a0 I J) (F_X12_text_w150 a0 I J (FI_X12_token (S3_X12_text a0 I J) J, J)).2 ∧ H_X12_half 141 8 (S13_X12_text a0 I J) (F_X12_text_w150 a0 I J (FI_X12_token (S3_X12_text a0 I J) J, J)).2 ∧ H_X12_half 142 8 (S14_X12_text a0 I J) (F_X12_text_w150 a0 I J (FI_X12_token (S3_X12_text a0 I J) J, J)).2 ∧ H_X12_half 143 8 (S15_X12_text a0 I J) (F_X12_text_w150 a0 I J (FI_X12_token (S3_X12_text a0 I J) J, J)).2 ∧ H_X12_half 144 8 (S16_X12_text a0 I J) (F_X12_text_w150 a0 I J (FI_X12_token (S3_X12_text a0 I J) J, J)).2 ∧ H_X12_half 145 8 (S17_X12_text a0 I J) (F_X12_text_w150 a0 I J (FI_X12_token (S3_X12_text a0 I J) J, J)).2 ∧ H_X12_half 146 6 (S18_X12_text a0 I J) (F_X12_text_w150 a0 I J (FI_X12_token (S3_X12_text a0 I J) J, J)).2 ∧ H_X12_half 147 6 (S19_X12_text a0 I J) (F_X12_text_w150 a0 I J (FI_X12_token (S3_X12_text a0 I J) J, J)).2 ∧ H_X12_half 148 6 (S20_X12_text a0 I J) (F_X12_text_w150 a0 I J (FI_X12_token (S3_X12_text a0 I J) J, J)).2 ∧ H_X12_half 149 6 (S21_X12_text a0 I J) (F_X12_text_w150 a0 I J (FI_X12_token (S3_X12_text a0 I J) J, J)).2 ∧ H_X12_half 150 128 (S22_X12_text a0 I J) (F_X12_text_w150 a0 I J (FI_X12_token (S3_X12_text a0 I J) J, J)).2 ∧ H_X12_half 151 128 (S23_X12_text a0 I J) (F_X12_text_w150 a0 I J (FI_X12_token (S3_X12_text a0 I J) J, J)).2) ∧ (SM (S24_X12_text a0 I J) ∧ (∀ a b, a < 132 ∨ 151 < a → S24_X12_text a0 I J a b = (u2 (S4_X12_text a0 I J) 130 33 (S4_X12_text a0 I J 130 31)) a b)) := by
  have q0 := half_v (r := 132) (N := 10) (I := (u2 (S4_X12_text a0 I J) 130 33 (S4_X12_text a0 I J 130 31))) (J := (F_X12_text_w150 a0 I J (FI_X12_token (S3_X12_text a0 I J) J, J)).2) (by decide) (by decide +kernel)
  have t0 : ∀ a b, a ≠ 132 → S5_X12_text a0 I J a b = (u2 (S4_X12_text a0 I J) 130 33 (S4_X12_text a0 I J 130 31)) a b := fun a b z => by unfold S5_X12_text; exact q0.2.2 a b (fun y => z y.1)
  have c0 : ∀ b, b < 10 → S5_X12_text a0 I J 132 b = (u2 (S4_X12_text a0 I J) 130 33 (S4_X12_text a0 I J 130 31)) 132 (10 + b) := fun b z => by unfold S5_X12_text; exact q0.2.1 b z
  have q1 := half_v (r := 133) (N := 6) (I := S5_X12_text a0 I J) (J := (F_X12_text_w150 a0 I J (FI_X12_token (S3_X12_text a0 I J) J, J)).2) (by decide) (by decide +kernel)
  have t1 : ∀ a b, a ≠ 133 → S6_X12_text a0 I J a b = S5_X12_text a0 I J a b := fun a b z => by unfold S6_X12_text; exact q1.2.2 a b (fun y => z y.1)
  have c1 : ∀ b, b < 6 → S6_X12_text a0 I J 133 b = S5_X12_text a0 I J 133 (6 + b) := fun b z => by unfold S6_X12_text; exact q1.2.1 b z
  have q2 := half_v (r := 134) (N := 6) (I := S6_X12_text a0 I J) (J := (F_X12_text_w150 a0 I J (FI_X12_token (S3_X12_text a0 I J) J, J)).2) (by decide) (by decide +kernel)
  have t2 : ∀ a b, a ≠ 134 → S7_X12_text a0 I J a b = S6_X12_text a0 I J a b := fun a b z => by unfold S7_X12_text; exact q2.2.2 a b (fun y => z y.1)
  have c2 : ∀ b, b < 6 → S7_X12_text a0 I J 134 b = S6_X12_text a0 I J 134 (6 + b) := fun b z => by unfold S7_X12_text; exact q2.2.1 b z
  have q3 := half_v (r := 135) (N := 6) (I := S7_X12_text a0 I J) (J := (F_X12_text_w150 a0 I J (FI_X12_token (S3_X12_text a0 I J) J, J)).2) (by decide) (by decide +kernel)
  have t3 : ∀ a b, a ≠ 135 → S8_X12_text a0 I J a b = S7_X12_text a0 I J a b := fun a b z => by unfold S8_X12_text; exact q3.2.2 a b (fun y => z y.1)
  have c3 : ∀ b, b < 6 → S8_X12_text a0 I J 135 b = S7_X12_text a0 I J 135 (6 + b) := fun b z => by unfold S8_X12_text; exact q3.2.1 b z
  have q4 := half_v (r := 136) (N := 8) (I := S8_X12_text a0 I J) (J := (F_X12_text_w150 a0 I J (FI_X12_token (S3_X12_text a0 I J) J, J)).2) (by decide) (by decide +kernel)
  have t4 : ∀ a b, a ≠ 136 → S9_X12_text a0 I J a b = S8_X12_text a0 I J a b := fun a b z => by unfold S9_X12_text; exact q4.2.2 a b (fun y => z y.1)
  have c4 : ∀ b, b < 8 → S9_X12_text a0 I J 136 b = S8_X12_text a0 I J 136 (8 + b) := fun b z => by unfold S9_X12_text; exact q4.2.1 b z
  have q5 := half_v (r := 137) (N := 8) (I := S9_X12_text a0 I J) (J := (F_X12_text_w150 a0 I J (FI_X12_token (S3_X12_text a0 I J) J, J)).2) (by decide) (by decide +kernel)
  have t5 : ∀ a b, a ≠ 137 → S10_X12_text a0 I J a b = S9_X12_text a0 I J a b := fun a b z => by unfold S10_X12_text; exact q5.2.2 a b (fun y => z y.1)
  have c5 : ∀ b, b < 8 → S10_X12_text a0 I J 137 b = S9_X12_text a0 I J 137 (8 + b) := fun b z => by unfold S10_X12_text; exact q5.2.1 b z
  have q6 := half_v (r := 138) (N := 8) (I := S10_X12_text a0 I J) (J := (F_X12_text_w150 a0 I J (FI_X12_token (S3_X12_text a0 I J) J, J)).2) (by decide) (by decide +kernel)
  have t6 : ∀ a b, a ≠ 138 → S11_X12_text a0 I J a b = S10_X12_text a0 I J a b := fun a b z => by unfold S11_X12_text; exact q6.2.2 a b (fun y => z y.1)
  have c6 : ∀ b, b < 8 → S11_X12_text a0 I J 138 b = S10_X12_text a0 I J 138 (8 + b) := fun b z => by unfold S11_X12_text; exact q6.2.1 b z
  have q7 := half_v (r := 139) (N := 48) (I := S11_X12_text a0 I J) (J := (F_X12_text_w150 a0 I J (FI_X12_token (S3_X12_text a0 I J) J, J)).2) (by decide) (by decide +kernel)
  have t7 : ∀ a b, a ≠ 139 → S12_X12_text a0 I J a b = S11_X12_text a0 I J a b := fun a b z => by unfold S12_X12_text; exact q7.2.2 a b (fun y => z y.1)
  have c7 : ∀ b, b < 48 → S12_X12_text a0 I J 139 b = S11_X12_text a0 I J 139 (48 + b) := fun b z => by unfold S12_X12_text; exact q7.2.1 b z
  have q8 := half_v (r := 140) (N := 4) (I := S12_X12_text a0 I J) (J := (F_X12_text_w150 a0 I J (FI_X12_token (S3_X12_text a0 I J) J, J)).2) (by decide) (by decide +kernel)
  have t8 : ∀ a b, a ≠ 140 → S13_X12_text a0 I J a b = S12_X12_text a0 I J a b := fun a b z => by unfold S13_X12_text; exact q8.2.2 a b (fun y => z y.1)
  have c8 : ∀ b, b < 4 → S13_X12_text a0 I J 140 b = S12_X12_text a0 I J 140 (4 + b) := fun b z => by unfold S13_X12_text; exact q8.2.1 b z
  have q9 := half_v (r := 141) (N := 4) (I := S13_X12_text a0 I J) (J := (F_X12_text_w150 a0 I J (FI_X12_token (S3_X12_text a0 I J) J, J)).2) (by decide) (by decide +kernel)
  have t9 : ∀ a b, a ≠ 141 → S14_X12_text a0 I J a b = S13_X12_text a0 I J a b := fun a b z => by unfold S14_X12_text; exact q9.2.2 a b (fun y => z y.1)
  have c9 : ∀ b, b < 4 → S14_X12_text a0 I J 141 b = S13_X12_text a0 I J 141 (4 + b) := fun b z => by unfold S14_X12_text; exact q9.2.1 b z
  have q10 := half_v (r := 142) (N := 4) (I := S14_X12_text a0 I J) (J := (F_X12_text_w150 a0 I J (FI_X12_token (S3_X12_text a0 I J) J, J)).2) (by decide) (by decide +kernel)
  have t10 : ∀ a b, a ≠ 142 → S15_X12_text a0 I J a b = S14_X12_text a0 I J a b := fun a b z => by unfold S15_X12_text; exact q10.2.2 a b (fun y => z y.1)
  have c10 : ∀ b, b < 4 → S15_X12_text a0 I J 142 b = S14_X12_text a0 I J 142 (4 + b) := fun b z => by unfold S15_X12_text; exact q10.2.1 b z
  have q11 := half_v (r := 143) (N := 4) (I := S15_X12_text a0 I J) (J := (F_X12_text_w150 a0 I J (FI_X12_token (S3_X12_text a0 I J) J, J)).2) (by decide) (by decide +kernel)
  have t11 : ∀ a b, a ≠ 143 → S16_X12_text a0 I J a b = S15_X12_text a0 I J a b := fun a b z => by unfold S16_X12_text; exact q11.2.2 a b (fun y => z y.1)
  have c11 : ∀ b, b < 4 → S16_X12_text a0 I J 143 b = S15_X12_text a0 I J 143 (4 + b) := fun b z => by unfold S16_X12_text; exact q11.2.1 b z
  have q12 := half_v (r := 144) (N := 4) (I := S16_X12_text a0 I J) (J := (F_X12_text_w150 a0 I J (FI_X12_token (S3_X12_text a0 I J) J, J)).2) (by decide) (by decide +kernel)
  have t12 : ∀ a b, a ≠ 144 → S17_X12_text a0 I J a b = S16_X12_text a0 I J a b := fun a b z => by unfold S17_X12_text; exact q12.2.2 a b (fun y => z y.1)
  have c12 : ∀ b, b < 4 → S17_X12_text a0 I J 144 b = S16_X12_text a0 I J 144 (4 + b) := fun b z => by unfold S17_X12_text; exact q12.2.1 b z
  have q13 := half_v (r := 145) (N := 4) (I := S17_X12_text a0 I J) (J := (F_X12_text_w150 a0 I J (FI_X12_token (S3_X12_text a0 I J) J, J)).2) (by decide) (by decide +kernel)
  have t13 : ∀ a b, a ≠ 145 → S18_X12_text a0 I J a b = S17_X12_text a0 I J a b := fun a b z => by unfold S18_X12_text; exact q13.2.2 a b (fun y => z y.1)
  have c13 : ∀ b, b < 4 → S18_X12_text a0 I J 145 b = S17_X12_text a0 I J 145 (4 + b) := fun b z => by unfold S18_X12_text; exact q13.2.1 b z
  have q14 := half_v (r := 146) (N := 3) (I := S18_X12_text a0 I J) (J := (F_X12_text_w150 a0 I J (FI_X12_token (S3_X12_text a0 I J) J, J)).2) (by decide) (by decide +kernel)
  have t14 : ∀ a b, a ≠ 146 → S19_X12_text a0 I J a b = S18_X12_text a0 I J a b := fun a b z => by unfold S19_X12_text; exact q14.2.2 a b (fun y => z y.1)
  have c14 : ∀ b, b < 3 → S19_X12_text a0 I J 146 b = S18_X12_text a0 I J 146 (3 + b) := fun b z => by unfold S19_X12_text; exact q14.2.1 b z
  have q15 := half_v (r := 147) (N := 3) (I := S19_X12_text a0 I J) (J := (F_X12_text_w150 a0 I J (FI_X12_token (S3_X12_text a0 I J) J, J)).2) (by decide) (by decide +kernel)
  have t15 : ∀ a b, a ≠ 147 → S20_X12_text a0 I J a b = S19_X12_text a0 I J a b := fun a b z => by unfold S20_X12_text; exact q15.2.2 a b (fun y => z y.1)
  have c15 : ∀ b, b < 3 → S20_X12_text a0 I J 147 b = S19_X12_text a0 I J 147 (3 + b) := fun b z => by unfold S20_X12_text; exact q15.2.1 b z
  have q16 := half_v (r := 148) (N := 3) (I := S20_X12_text a0 I J) (J := (F_X12_text_w150 a0 I J (FI_X12_token (S3_X12_text a0 I J) J, J)).2) (by decide) (by decide +kernel)
  have t16 : ∀ a b, a ≠ 148 → S21_X12_text a0 I J a b = S20_X12_text a0 I J a b := fun a b z => by unfold S21_X12_text; exact q16.2.2 a b (fun y => z y.1)
  have c16 : ∀ b, b < 3 → S21_X12_text a0 I J 148 b = S20_X12_text a0 I J 148 (3 + b) := fun b z => by unfold S21_X12_text; exact q16.2.1 b z
  have q17 := half_v (r := 149) (N := 3) (I := S21_X12_text a0 I J) (J := (F_X12_text_w150 a0 I J (FI_X12_token (S3_X12_text a0 I J) J, J)).2) (by decide) (by decide +kernel)
  have t17 : ∀ a b, a ≠ 149 → S22_X12_text a0 I J a b = S21_X12_text a0 I J a b := fun a b z => by unfold S22_X12_text; exact q17.2.2 a b (fun y => z y.1)
  have c17 : ∀ b, b < 3 → S22_X12_text a0 I J 149 b = S21_X12_text a0 I J 149 (3 + b) := fun b z => by unfold S22_X12_text; exact q17.2.1 b z
  have q18 := half_v (r := 150) (N := 64) (I := S22_X12_text a0 I J) (J := (F_X12_text_w150 a0 I J (FI_X12_token (S3_X12_text a0 I J) J, J)).2) (by decide) (by decide +kernel)
  have t18 : ∀ a b, a ≠ 150 → S23_X12_text a0 I J a b = S22_X12_text a0 I J a b := fun a b z => by unfold S23_X12_text; exact q18.2.2 a b (fun y => z y.1)
  have c18 : ∀ b, b < 64 → S23_X12_text a0 I J 150 b = S22_X12_text a0 I J 150 (64 + b) := fun b z => by unfold S23_X12_text; exact q18.2.1 b z
  have q19 := half_v (r := 151) (N := 64) (I := S23_X12_text a0 I J) (J := (F_X12_text_w150 a0 I J (FI_X12_token (S3_X12_text a0 I J) J, J)).2) (by decide) (by decide +kernel)
  have t19 : ∀ a b, a ≠ 151 → S24_X12_text a0 I J a b = S23_X12_text a0 I J a b := fun a b z => by unfold S24_X12_text; exact q19.2.2 a b (fun y => z y.1)
  have c19 : ∀ b, b < 64 → S24_X12_text a0 I J 151 b = S23_X12_text a0 I J 151 (64 + b) := fun b z => by unfold S24_X12_text; exact q19.2.1 b z
  obtain ⟨a10, a11, a12, a13, a14, a15, a16, pp, mm, ll⟩ := p
  have v132 : ∀ b, b < 10 → S24_X12_text a0 I J 132 b = R 132 (10 + b) := fun b z => (((t19 132 b (by omega)).trans ((t18 132 b (by omega)).trans ((t17 132 b (by omega)).trans ((t16 132 b (by omega)).trans ((t15 132 b (by omega)).trans ((t14 132 b (by omega)).trans ((t13 132 b (by omega)).trans ((t12 132 b (by omega)).trans ((t11 132 b (by omega)).trans ((t10 132 b (by omega)).trans ((t9 132 b (by omega)).trans ((t8 132 b (by omega)).trans ((t7 132 b (by omega)).trans ((t6 132 b (by omega)).trans ((t5 132 b (by omega)).trans ((t4 132 b (by omega)).trans ((t3 132 b (by omega)).trans ((t2 132 b (by omega)).trans (t1 132 b (by omega)))))))))))))))))))).trans (c0 b (by omega))).trans (eR 132 _ (by omega))
  have v141 : ∀ b, b < 4 → S24_X12_text a0 I J 141 b = R 141 (4 + b) := fun b z => ((((t19 141 b (by omega)).trans ((t18 141 b (by omega)).trans ((t17 141 b (by omega)).trans ((t16 141 b (by omega)).trans ((t15 141 b (by omega)).trans ((t14 141 b (by omega)).trans ((t13 141 b (by omega)).trans ((t12 141 b (by omega)).trans ((t11 141 b (by omega)).trans (t10 141 b (by omega))))))))))).trans (c9 b (by omega))).trans (((((((((t8 141 (4 + b) (by omega)).trans (t7 141 (4 + b) (by omega))).trans (t6 141 (4 + b) (by omega))).trans (t5 141 (4 + b) (by omega))).trans (t4 141 (4 + b) (by omega))).trans (t3 141 (4 + b) (by omega))).trans (t2 141 (4 + b) (by omega))).trans (t1 141 (4 + b) (by omega))).trans (t0 141 (4 + b) (by omega)))).trans (eR 141 _ (by omega))
  have v135 : ∀ b, b < 6 → S24_X12_text a0 I J 135 b = R 135 (6 + b) := fun b z => ((((t19 135 b (by omega)).trans ((t18 135 b (by omega)).trans ((t17 135 b (by omega)).trans ((t16 135 b (by omega)).trans ((t15 135 b (by omega)).trans ((t14 135 b (by omega)).trans ((t13 135 b (by omega)).trans ((t12 135 b (by omega)).trans ((t11 135 b (by omega)).trans ((t10 135 b (by omega)).trans ((t9 135 b (by omega)).trans ((t8 135 b (by omega)).trans ((t7 135 b (by omega)).trans ((t6 135 b (by omega)).trans ((t5 135 b (by omega)).trans (t4 135 b (by omega))))))))))))))))).trans (c3 b (by omega))).trans (((t2 135 (6 + b) (by omega)).trans (t1 135 (6 + b) (by omega))).trans (t0 135 (6 + b) (by omega)))).trans (eR 135 _ (by omega))
  have v148 : ∀ b, b < 3 → S24_X12_text a0 I J 148 b = R 148 (3 + b) := fun b z => ((((t19 148 b (by omega)).trans ((t18 148 b (by omega)).trans (t17 148 b (by omega)))).trans (c16 b (by omega))).trans ((((((((((((((((t15 148 (3 + b) (by omega)).trans (t14 148 (3 + b) (by omega))).trans (t13 148 (3 + b) (by omega))).trans (t12 148 (3 + b) (by omega))).trans (t11 148 (3 + b) (by omega))).trans (t10 148 (3 + b) (by omega))).trans (t9 148 (3 + b) (by omega))).trans (t8 148 (3 + b) (by omega))).trans (t7 148 (3 + b) (by omega))).trans (t6 148 (3 + b) (by omega))).trans (t5 148 (3 + b) (by omega))).trans (t4 148 (3 + b) (by omega))).trans (t3 148 (3 + b) (by omega))).trans (t2 148 (3 + b) (by omega))).trans (t1 148 (3 + b) (by omega))).trans (t0 148 (3 + b) (by omega)))).trans (eR 148 _ (by omega))
  have v149 : ∀ b, b < 3 → S24_X12_text a0 I J 149 b = R 149 (3 + b) := fun b z => ((((t19 149 b (by omega)).trans (t18 149 b (by omega))).trans (c17 b (by omega))).trans (((((((((((((((((t16 149 (3 + b) (by omega)).trans (t15 149 (3 + b) (by omega))).trans (t14 149 (3 + b) (by omega))).trans (t13 149 (3 + b) (by omega))).trans (t12 149 (3 + b) (by omega))).trans (t11 149 (3 + b) (by omega))).trans (t10 149 (3 + b) (by omega))).trans (t9 149 (3 + b) (by omega))).trans (t8 149 (3 + b) (by omega))).trans (t7 149 (3 + b) (by omega))).trans (t6 149 (3 + b) (by omega))).trans (t5 149 (3 + b) (by omega))).trans (t4 149 (3 + b) (by omega))).trans (t3 149 (3 + b) (by omega))).trans (t2 149 (3 + b) (by omega))).trans (t1 149 (3 + b) (by omega))).trans (t0 149 (3 + b) (by omega)))).trans (eR 149 _ (by omega))
  have v150 : ∀ b, b < 64 → S24_X12_text a0 I J 150 b = R 150 (64 + b) := fun b z => (((t19 150 b (by omega)).trans (c18 b (by omega))).trans ((((((((((((((((((t17 150 (64 + b) (by omega)).trans (t16 150 (64 + b) (by omega))).trans (t15 150 (64 + b) (by omega))).trans (t14 150 (64 + b) (by omega))).trans (t13 150 (64 + b) (by omega))).trans (t12 150 (64 + b) (by omega))).trans (t11 150 (64 + b) (by omega))).trans (t10 150 (64 + b) (by omega))).trans (t9 150 (64 + b) (by omega))).trans (t8 150 (64 + b) (by omega))).trans (t7 150 (64 + b) (by omega))).trans (t6 150 (64 + b) (by omega))).trans (t5 150 (64 + b) (by omega))).trans (t4 150 (64 + b) (by omega))).trans (t3 150 (64 + b) (by omega))).trans (t2 150 (64 + b) (by omega))).trans (t1 150 (64 + b) (by omega))).trans (t0 150 (64 + b) (by omega)))).trans (eR 150 _ (by omega))
  have v151 : ∀ b, b < 64 → S24_X12_text a0 I J 151 b = R 151 (64 + b) := fun b z => ((c19 b (by omega)).trans (((((((((((((((((((t18 151 (64 + b) (by omega)).trans (t17 151 (64 + b) (by omega))).trans (t16 151 (64 + b) (by omega))).trans (t15 151 (64 + b) (by omega))).trans (t14 151 (64 + b) (by omega))).trans (t13 151 (64 + b) (by omega))).trans (t12 151 (64 + b) (by omega))).trans (t11 151 (64 + b) (by omega))).trans (t10 151 (64 + b) (by omega))).trans (t9 151 (64 + b) (by omega))).trans (t8 151 (64 + b) (by omega))).trans (t7 151 (64 + b) (by omega))).trans (t6 151 (64 + b) (by omega))).trans (t5 151 (64 + b) (by omega))).trans (t4 151 (64 + b) (by omega))).trans (t3 151 (64 + b) (by omega))).trans (t2 151 (64 + b) (by omega))).trans (t1 151 (64 + b) (by omega))).trans (t0 151 (64 + b) (by omega)))).trans (eR 151 _ (by omega))
  have w141 : ∀ b, 4 ≤ b → S24_X12_text a0 I J 141 b = R 141 b := fun b z => ((((t19 141 b (by omega)).trans ((t18 141 b (by omega)).trans ((t17 141 b (by omega)).trans ((t16 141 b (by omega)).trans ((t15 141 b (by omega)).trans ((t14 141 b (by omega)).trans ((t13 141 b (by omega)).trans ((t12 141 b (by omega)).trans ((t11 141 b (by omega)).trans (t10 141 b (by omega))))))))))).trans (show S14_X12_text a0 I J 141 b = S13_X12_text a0 I J 141 b by unfold S14_X12_text; exact q9.2.2 141 b (by omega))).trans (((((((((t8 141 b (by omega)).trans (t7 141 b (by omega))).trans (t6 141 b (by omega))).trans (t5 141 b (by omega))).trans (t4 141 b (by omega))).trans (t3 141 b (by omega))).trans (t2 141 b (by omega))).trans (t1 141 b (by omega))).trans (t0 141 b (by omega)))).trans (eR 141 b (by omega))
  have w135 : ∀ b, 6 ≤ b → S24_X12_text a0 I J 135 b = R 135 b := fun b z => ((((t19 135 b (by omega)).trans ((t18 135 b (by omega)).trans ((t17 135 b (by omega)).trans ((t16 135 b (by omega)).trans ((t15 135 b (by omega)).trans ((t14 135 b (by omega)).trans ((t13 135 b (by omega)).trans ((t12 135 b (by omega)).trans ((t11 135 b (by omega)).trans ((t10 135 b (by omega)).trans ((t9 135 b (by omega)).trans ((t8 135 b (by omega)).trans ((t7 135 b (by omega)).trans ((t6 135 b (by omega)).trans ((t5 135 b (by omega)).trans (t4 135 b (by omega))))))))))))))))).trans (show S8_X12_text a0 I J 135 b = S7_X12_text a0 I J 135 b by unfold S8_X12_text; exact q3.2.2 135 b (by omega))).trans (((t2 135 b (by omega)).trans (t1 135 b (by omega))).trans (t0 135 b (by omega)))).trans (eR 135 b (by omega))
  refine ⟨⟨q0.1, q1.1, q2.1, q3.1, q4.1, q5.1, q6.1, q7.1, q8.1, q9.1, q10.1, q11.1, q12.1, q13.1, q14.1, q15.1, q16.1, q17.1, q18.1, q19.1⟩, ⟨⟨by rw [v132 0 (by omega)]; exact a10, by rw [v132 1 (by omega)]; exact a11, by rw [v132 3 (by omega)]; exact a13, by rw [v132 4 (by omega)]; exact a14, by rw [v132 5 (by omega)]; exact a15, by rw [v132 6 (by omega)]; exact a16, fun q z => ?_, fun q z => ?_, fun k z => ?_⟩, fun a b z => ((((((((((((((((((((t19 a b (by omega)).trans (t18 a b (by omega))).trans (t17 a b (by omega))).trans (t16 a b (by omega))).trans (t15 a b (by omega))).trans (t14 a b (by omega))).trans (t13 a b (by omega))).trans (t12 a b (by omega))).trans (t11 a b (by omega))).trans (t10 a b (by omega))).trans (t9 a b (by omega))).trans (t8 a b (by omega))).trans (t7 a b (by omega))).trans (t6 a b (by omega))).trans (t5 a b (by omega))).trans (t4 a b (by omega))).trans (t3 a b (by omega))).trans (t2 a b (by omega))).trans (t1 a b (by omega))).trans (t0 a b (by omega)))⟩⟩
  · by_cases c : q < 4
    · rw [v141 q c]; exact pp _ (by omega) (by omega)
    · rw [w141 q (by omega)]; exact pp _ (by omega) z
  · by_cases c : q < 6
    · rw [v135 q c]; exact mm _ (by omega) (by omega)
    · rw [w135 q (by omega)]; exact mm _ (by omega) z
  · obtain ⟨f, n, b1, b2, b3, b4⟩ := ll k z
    have n64 : nn R < 65 := e.2.2.2.2.1.2
    exact ⟨f, n, (v148 k z).trans b1, (v149 k z).trans b2, by omega, okc_cg _ _ _ (fun j _ y => ⟨v150 j (by omega), v151 j (by omega)⟩) b4⟩
theorem PO.at0 {I I1 : SI} (h : PO I) (k : ∀ a b, a ≠ 130 → I1 a b = I a b) : PO I1 := by
  obtain ⟨a0, a1, a2, a3, a4, a5, a6, p, m, l⟩ := h
  have e : ∀ b, I1 132 b = I 132 b := fun b => k 132 b (by omega)
  exact ⟨by rw [e 10]; exact a0, by rw [e 11]; exact a1, by rw [e 12]; exact a2, by rw [e 13]; exact a3, by rw [e 14]; exact a4, by rw [e 15]; exact a5, by rw [e 16]; exact a6, fun b z w => by rw [k 141 b (by omega)]; exact p b z w, fun b z w => by rw [k 135 b (by omega)]; exact m b z w, PO.law l (fun b _ => k 148 _ (by omega)) (fun b _ => k 149 _ (by omega)) (by unfold nn; rw [e 19]; exact Nat.le_refl _) (fun j _ => ⟨k 150 _ (by omega), k 151 _ (by omega)⟩)⟩
theorem bg {I : SI} (J : SJ) (_ : True) : H_X12_begins I J ∧ FrM I (FI_X12_begins I J) := by
  have s := starts_H (f := 0) (I := I) (J := J) r0
  unfold H_X12_begins FI_X12_begins
  exact s
def mt (I : SI) : Nat := if I 130 30 = 0 then 703 - psn I else 0
theorem m_text {tp : SI} {a0 : Int32} {I : SI} {J : SJ} (h : MW tp I) (ht : inR (tp 130 2) 701) : H_X12_text a0 I J ∧ MW (FI_X12_text a0 I J) (FI_X12_text a0 I J) ∧ FI_X12_text a0 I J 130 2 = (if a0 < 0 then tp 130 2 else if a0 ≤ tp 130 2 then 0 else tp 130 2) := by
  have e2 : u2 I 130 0 0 130 2 = tp 130 2 := (u2_n _ _ (by omega)).trans (h.gt 130 2 (by omega))
  have ha : ¬ a0 < 0 → a0 ≤ u2 I 130 0 0 130 2 → inR a0 701 := fun c c2 => by
    obtain ⟨j, hj, e⟩ := ht.n
    rw [e2, e] at c2
    exact (in_le (N := j) (by omega) c c2).le (by omega)
  have T := fun (c : ¬ a0 < 0) (c2 : a0 ≤ u2 I 130 0 0 130 2) => tx1 (a0 := a0) (J := J) h.1 (ha c c2)
  have L := fun (c : ¬ a0 < 0) (c2 : a0 ≤ u2 I 130 0 0 130 2) => whl (f := B_X12_text_w150 a0 I J) (s0 := (FI_X12_token (S3_X12_text a0 I J) J, J)) (fun s => EI s.1 ∧ PO s.1 ∧ KL (FI_X12_token (S3_X12_text a0 I J) J) s.1) (fun s => EI s.1 ∧ PO s.1 ∧ KL (FI_X12_token (S3_X12_text a0 I J) J) s.1) (fun s => mt s.1) ⟨(T c c2).2.1, (T c c2).2.2.1, fun _ _ _ => rfl⟩ (by show mt _ < 800; unfold mt; split <;> omega) (fun s s' hs hf => by
    unfold B_X12_text_w150 at hf
    by_cases f0 : s.1 130 30 = 0
    · rw [if_pos f0] at hf
      by_cases f1 : s.1 130 28 = 4
      · rw [if_pos f1] at hf; cases hf
      · rw [if_neg f1] at hf
        have l := line_E (J := s.2) hs.1 hs.2.1
        rw [← Sum.inl.inj hf]
        refine ⟨⟨l.2.1.1, l.2.1.2.1, fun a b z => (l.2.1.2.2.1 a b z).trans (hs.2.2 a b z)⟩, ?_⟩
        have q : psn s.1 < 702 := hs.1.1.2.2
        show mt (FI_X12_line s.1 s.2) < mt s.1
        unfold mt
        rw [if_pos f0]
        by_cases f2 : FI_X12_line s.1 s.2 130 30 = 0
        · rw [if_pos f2]; have := l.2.2 f2; omega
        · rw [if_neg f2]; omega
    · rw [if_neg f0] at hf; cases hf) (fun s r hs hf => by
    unfold B_X12_text_w150 at hf
    repeat' split at hf
    all_goals cases hf
    all_goals exact hs)
  have Rq := fun (c : ¬ a0 < 0) (c2 : a0 ≤ u2 I 130 0 0 130 2) => show EI (F_X12_text_w150 a0 I J (FI_X12_token (S3_X12_text a0 I J) J, J)).1 ∧ PO (F_X12_text_w150 a0 I J (FI_X12_token (S3_X12_text a0 I J) J, J)).1 ∧ KL (FI_X12_token (S3_X12_text a0 I J) J) (F_X12_text_w150 a0 I J (FI_X12_token (S3_X12_text a0 I J) J, J)).1 by
    unfold F_X12_text_w150
    exact (L c c2).2.2 _
  have b4 : ∀ a b, ¬ (a = 130 ∧ (b = 32 ∨ b = 33)) → (u2 (S4_X12_text a0 I J) 130 33 (S4_X12_text a0 I J 130 31)) a b = (F_X12_text_w150 a0 I J (FI_X12_token (S3_X12_text a0 I J) J, J)).1 a b := fun a b z => by
    refine (u2_n _ _ (by omega)).trans ?_
    unfold S4_X12_text
    exact u2_n _ _ (by omega)
  have X := fun (c : ¬ a0 < 0) (c2 : a0 ≤ u2 I 130 0 0 130 2) => tx2 (a0 := a0) (I := I) (J := J) (fun a b z => b4 a b (by omega)) (Rq c c2).1 (Rq c c2).2.1
  have kR := fun (c : ¬ a0 < 0) (c2 : a0 ≤ u2 I 130 0 0 130 2) => show ∀ a b, dpT a b → (u2 (S4_X12_text a0 I J) 130 33 (S4_X12_text a0 I J 130 31)) a b = I a b from fun a b z => (b4 a b (by unfold dpT dpL at z; omega)).trans (((Rq c c2).2.2 a b z.1).trans ((T c c2).2.2.2.1 a b z))
  have k2 := fun (c : ¬ a0 < 0) (c2 : a0 ≤ u2 I 130 0 0 130 2) => show (u2 (S4_X12_text a0 I J) 130 33 (S4_X12_text a0 I J 130 31)) 130 2 = 0 from (b4 130 2 (by omega)).trans (((Rq c c2).2.2 130 2 (by unfold dpL; omega)).trans (T c c2).2.2.2.2)
  refine ⟨?_, ?_⟩
  · unfold H_X12_text
    exact ⟨fun c c2 => (T c c2).1, fun c c2 => (L c c2).1, fun c c2 _ => (X c c2).1.1, fun c c2 _ => (X c c2).1.2.1, fun c c2 _ => (X c c2).1.2.2.1, fun c c2 _ => (X c c2).1.2.2.2.1, fun c c2 _ => (X c c2).1.2.2.2.2.1, fun c c2 _ => (X c c2).1.2.2.2.2.2.1, fun c c2 _ => (X c c2).1.2.2.2.2.2.2.1, fun c c2 _ => (X c c2).1.2.2.2.2.2.2.2.1, fun c c2 _ => (X c c2).1.2.2.2.2.2.2.2.2.1, fun c c2 _ => (X c c2).1.2.2.2.2.2.2.2.2.2.1, fun c c2 _ => (X c c2).1.2.2.2.2.2.2.2.2.2.2.1, fun c c2 _ => (X c c2).1.2.2.2.2.2.2.2.2.2.2.2.1, fun c c2 _ => (X c c2).1.2.2.2.2.2.2.2.2.2.2.2.2.1, fun c c2 _ => (X c c2).1.2.2.2.2.2.2.2.2.2.2.2.2.2.1, fun c c2 _ => (X c c2).1.2.2.2.2.2.2.2.2.2.2.2.2.2.2.1, fun c c2 _ => (X c c2).1.2.2.2.2.2.2.2.2.2.2.2.2.2.2.2.1, fun c c2 _ => (X c c2).1.2.2.2.2.2.2.2.2.2.2.2.2.2.2.2.2.1, fun c c2 _ => (X c c2).1.2.2.2.2.2.2.2.2.2.2.2.2.2.2.2.2.2.1, fun c c2 _ => (X c c2).1.2.2.2.2.2.2.2.2.2.2.2.2.2.2.2.2.2.2.1, fun c c2 _ => (X c c2).1.2.2.2.2.2.2.2.2.2.2.2.2.2.2.2.2.2.2.2, fun c c2 _ => (bg _ trivial).1, fun c c2 n s hn _ _ => (line_E ((L c c2).2.1 n s hn).1 ((L c c2).2.1 n s hn).2.1).1, fun _ _ i _ hi _ => inR_nI (by omega) (by decide), fun _ _ i _ hi _ => inR_nI (by omega) (by decide), fun _ _ i _ hi _ _ => rd_H hi, fun _ _ i _ hi _ _ => rd_H hi⟩
  · unfold FI_X12_text
    by_cases c : a0 < 0
    · rw [if_pos c, if_pos c]
      exact ⟨(h.u0).self, e2⟩
    · rw [if_neg c, if_neg c]
      by_cases c2 : a0 ≤ u2 I 130 0 0 130 2
      · rw [if_pos c2, if_pos (show a0 ≤ tp 130 2 by rw [← e2]; exact c2)]
        by_cases c3 : (u2 (S4_X12_text a0 I J) 130 33 (S4_X12_text a0 I J 130 31)) 130 30 = 0
        · rw [if_pos c3]
          have x := (X c c2).2
          have b25 : ∀ a b, ¬ (a = 130 ∧ (b = 68 ∨ b = 69 ∨ b = 53 ∨ b = 54)) → S25_X12_text a0 I J a b = S24_X12_text a0 I J a b := fun a b z => by
            unfold S25_X12_text
            exact (u2_n _ _ (by omega)).trans ((u2_n _ _ (by omega)).trans ((u2_n _ _ (by omega)).trans (u2_n _ _ (by omega))))
          have g := (bg (I := S25_X12_text a0 I J) ((F_X12_text_w150 a0 I J (FI_X12_token (S3_X12_text a0 I J) J, J)).2) trivial).2
          have eS : S26_X12_text a0 I J = FI_X12_begins (S25_X12_text a0 I J) ((F_X12_text_w150 a0 I J (FI_X12_token (S3_X12_text a0 I J) J, J)).2) := rfl
          have sm : SM (S26_X12_text a0 I J) := by
            rw [eS]
            exact (x.1.of (fun a b z => b25 a b (by omega))).fr g
          have v : ∀ b, b ≠ 38 → S26_X12_text a0 I J 130 b = S25_X12_text a0 I J 130 b := fun b z => by rw [eS]; exact g 130 b (by omega) (by omega)
          have v54 : S26_X12_text a0 I J 130 54 = 0 := (v 54 (by omega)).trans (by unfold S25_X12_text; exact u2_s _ _ _ _)
          have v68 : S26_X12_text a0 I J 130 68 = 0 := (v 68 (by omega)).trans (by unfold S25_X12_text; exact (u2_n _ _ (by omega)).trans ((u2_n _ _ (by omega)).trans ((u2_n _ _ (by omega)).trans (u2_s _ _ _ _))))
          have v69 : S26_X12_text a0 I J 130 69 = -1 := (v 69 (by omega)).trans (by unfold S25_X12_text; exact (u2_n _ _ (by omega)).trans ((u2_n _ _ (by omega)).trans (u2_s _ _ _ _)))
          refine ⟨h.kl sm (fun a b z => ?_) (by rw [v54]; exact cn_0) (by rw [v68]; exact cn_0) (Or.inl v69), ?_⟩
          · rw [eS]
            exact (g a b (by omega) (by omega)).trans ((b25 a b (by omega)).trans ((x.2 a b (by omega)).trans (kR c c2 a b (by first | exact dpT_k z | (unfold dpT dpL; omega)))))
          · exact (v 2 (by omega)).trans ((b25 130 2 (by omega)).trans ((x.2 130 2 (by omega)).trans (k2 c c2)))
        · rw [if_neg c3]
          have po : PO (u2 (S4_X12_text a0 I J) 130 33 (S4_X12_text a0 I J 130 31)) := (Rq c c2).2.1.at0 (fun a b z => b4 a b (by omega))
          refine ⟨h.kl (h.1.kl (kR c c2) po) (fun a b z => kR c c2 a b (by first | exact dpT_k z | (unfold dpT dpL; omega))) ?_ ?_ ?_, k2 c c2⟩
          · rw [kR c c2 130 54 (by unfold dpT dpL; omega)]; exact h.gn
          · rw [kR c c2 130 68 (by unfold dpT dpL; omega)]; exact h.gs
          · rw [kR c c2 130 69 (by unfold dpT dpL; omega)]; exact h.gk
      · rw [if_neg c2, if_neg (show ¬ a0 ≤ tp 130 2 by rw [← e2]; exact c2)]
        exact ⟨(h.u0).self, e2⟩
