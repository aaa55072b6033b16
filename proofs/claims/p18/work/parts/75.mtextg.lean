theorem tx1 {a0 : Int32} {I : SI} {J : SJ} (hS : SM I) (ha : inR a0 701) : H_X12_token (S3_X12_text a0 I J) J ∧ EI (FI_X12_token (S3_X12_text a0 I J) J) ∧ PO (FI_X12_token (S3_X12_text a0 I J) J) ∧ (∀ a b, dpT a b → FI_X12_token (S3_X12_text a0 I J) J a b = I a b) ∧ FI_X12_token (S3_X12_text a0 I J) J 130 2 = 0 := by
  obtain ⟨x25, x26, x2, x30, x34, x35, xn, xl, xf⟩ := tx0 (a0 := a0) (I := I) (J := J)
  have tm : TM (S3_X12_text a0 I J) := ⟨by rw [x25]; exact ha, by rw [x26]; exact cn_0⟩
  have t := tok_M (J := J) tm
  have v := tok_V (J := J) tm
  have e : ∀ a b, ¬ (a = 130 ∧ 26 ≤ b ∧ b ≤ 29) → FI_X12_token (S3_X12_text a0 I J) J a b = S3_X12_text a0 I J a b := t.2.1.2.1
  have n19 : FI_X12_token (S3_X12_text a0 I J) J 132 19 = 0 := (e 132 19 (by omega)).trans (xn 9 (by omega) (by omega))
  have z0 : ∀ k, k < 10 → k ≠ 7 → FI_X12_token (S3_X12_text a0 I J) J 132 (10 + k) = 0 := fun k h h7 => (e 132 _ (by omega)).trans (xn k h h7)
  have nz : nn (FI_X12_token (S3_X12_text a0 I J) J) = 0 := by unfold nn; rw [n19]; rfl
  refine ⟨t.1, ⟨t.2.1.1, v, by rw [e 130 34 (by omega), x34]; exact cn_0, by rw [e 130 35 (by omega), x35]; exact cn_0, by rw [n19]; exact cn_0, fun _ => by rw [nz]; exact Nat.zero_le _⟩, ⟨by rw [z0 0 (by omega) (by omega)]; exact cn_0, by rw [z0 1 (by omega) (by omega)]; exact cn_0, by rw [z0 2 (by omega) (by omega)]; exact cn_0, by rw [z0 3 (by omega) (by omega)]; exact cn_0, by rw [z0 4 (by omega) (by omega)]; exact cn_0, by rw [z0 5 (by omega) (by omega)]; exact cn_0, by rw [z0 6 (by omega) (by omega)]; exact cn_0, fun q h1 h2 => ?_, fun q h1 h2 => ?_, fun k hk => ⟨0, 0, ?_, ?_, by omega, trivial⟩⟩, fun a b z => ?_, (e 130 2 (by omega)).trans x2⟩
  · rw [e 141 q (by omega), xf 141 q (by omega) (by omega) (by omega) (by omega)]; exact hS.2.2.2.2.2.2.1 q h2
  · rw [e 135 q (by omega), xf 135 q (by omega) (by omega) (by omega) (by omega)]; exact hS.2.2.2.2.2.2.2.1 q h2
  · exact (e 148 _ (by omega)).trans (xl k hk).1
  · exact (e 149 _ (by omega)).trans (xl k hk).2
  · unfold dpT dpL at z
    exact (e a b (by omega)).trans (xf a b (by omega) (by omega) (by omega) (by omega))
