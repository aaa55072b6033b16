theorem m_rest {tp : SI} {a0 a1 a2 : Int32} {I : SI} {J : SJ} (h : (MW tp) I) : H_X12_rest a0 a1 a2 I J ∧ (MW tp) (FI_X12_rest a0 a1 a2 I J) := by
  have h' := h.u0
  refine ⟨?_, ?_⟩
  · unfold H_X12_rest
    exact fun h0 _ => restOf_H (areTwo_in h'.1 h0).1 (areTwo_in h'.1 h0).2
  · unfold FI_X12_rest
    repeat' split
    all_goals exact h'
def pwT (q : Nat) (_ : Nat) (s : Int64 × Int64) : Int64 × Int64 := (s.1 * (100 - (nI q).toInt64), s.2 * 100)
def pwq (q n : Nat) : Int64 × Int64 := itN (pwT q) n (1, 1)
def ZI : SI := fun _ _ => 0
def ZJJ : SJ := fun _ _ => 0
theorem pwq_1 : ∀ q, q < 101 → ∀ n, n < 7 → (itW (B_X12_common_w6 (pwq q n).1 (pwq q n).2 ZI ZJJ) 800 ((pwq q n).1, (pwq q n).2)).isSome = true := by decide +kernel
theorem pwq_2 : ∀ q, q < 101 → ∀ n, n < 7 → ¬ F_X12_common (pwq q n).1 (pwq q n).2 ZI ZJJ = 0 := by decide +kernel
theorem cmn_H (a b : Int64) (I : SI) (J : SJ) (h : (itW (B_X12_common_w6 a b ZI ZJJ) 800 (a, b)).isSome = true) : H_X12_common a b I J := by
  unfold H_X12_common
  exact ⟨h, fun n s _ h => cmpn h⟩
theorem there_e {a0 a1 : Int32} {I : SI} {J : SJ} {q : Nat} (h : u2 I 130 0 0 132 6 = nI q) : F_X12_there_l36 a0 a1 I J (1, 1) = pwq q a0.toNatClampNeg := by
  have e : B_X12_there_l36 a0 a1 I J = pwT q := by
    funext i s
    unfold B_X12_there_l36 pwT
    rw [h]
  unfold F_X12_there_l36 pwq
  rw [e]
theorem m_there {tp : SI} {a0 a1 : Int32} {I : SI} {J : SJ} (h : (MW tp) I) : H_X12_there a0 a1 I J ∧ (MW tp) (FI_X12_there a0 a1 I J) := by
  have h' := h.u0
  obtain ⟨q, hq, eq⟩ := h'.1.2.2.2.2.2.1.n
  have n7 : ¬ a0 < 0 → ¬ (6 : Int32) < a0 → a0.toNatClampNeg < 7 := fun h h2 => (in_of h (len := 7) (fun q => h2 (Int32.lt_of_lt_of_le (show (6 : Int32) < nI 7 by decide) q)) (by decide)).2
  refine ⟨?_, ?_⟩
  · unfold H_X12_there
    exact ⟨fun h0 h1 _ _ => (by rw [there_e eq]; exact cmn_H _ _ _ _ (pwq_1 q hq _ (n7 h0 h1))), fun h0 h1 _ _ _ => (by unfold S1_X12_there; rw [there_e eq]; exact pwq_2 q hq _ (n7 h0 h1)), fun h0 h1 _ _ _ => (by unfold S1_X12_there; rw [there_e eq]; exact pwq_2 q hq _ (n7 h0 h1))⟩
  · unfold FI_X12_there
    repeat' split
    all_goals exact h'

