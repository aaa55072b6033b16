/-! both: who noted what, and being there still -/
theorem bc_0 (x : Int32) (I : SI) (J : SJ) : F_J6_bitCount_0f7a4 x I J = F_J6_bitCount_0f7a4 x (fun _ _ => 0) (fun _ _ => 0) := by
  unfold F_J6_bitCount_0f7a4 S7_J6_bitCount_0f7a4 S6_J6_bitCount_0f7a4 S5_J6_bitCount_0f7a4 S4_J6_bitCount_0f7a4 S3_J6_bitCount_0f7a4 S2_J6_bitCount_0f7a4 S1_J6_bitCount_0f7a4
  rfl
theorem bo_0 (x : Int32) (I : SI) (J : SJ) : F_X12_bitsOf x I J = F_X12_bitsOf x (fun _ _ => 0) (fun _ _ => 0) := by
  unfold F_X12_bitsOf F_X12_bitsOf_l4 B_X12_bitsOf_l4
  rfl
theorem bits_0 : ∀ s, s < 16 → F_J6_bitCount_0f7a4 (nI s) (fun _ _ => 0) (fun _ _ => 0) = F_X12_bitsOf (nI s) (fun _ _ => 0) (fun _ _ => 0) := by decide +kernel
theorem bits_v {s : Nat} (h : s < 16) {I I' : SI} {J J' : SJ} : F_J6_bitCount_0f7a4 (nI s) I J = F_X12_bitsOf (nI s) I' J' := (bc_0 _ _ _).trans ((bits_0 s h).trans (bo_0 _ _ _).symm)
theorem bit_01 : ∀ i, i < 16 → ∀ j, j < 4 → (nI i >>> (nI j &&& 31)) &&& 1 = 0 ∨ (nI i >>> (nI j &&& 31)) &&& 1 = 1 := by decide +kernel
theorem two_v : ∀ c, c < 5 → ((1 : Int32) <<< (nI c &&& 31)).toNatClampNeg ≤ 16 := by decide +kernel
theorem noted_v {A B : SI} {J J' : SJ} (g : GTL A B) : F_X11_noted A J = F_X12_noted B J' := by
  obtain ⟨_, _, _, _, _, ⟨c0, hc0, e01, e02, _⟩, _, _, ⟨c, hc, e1, e2, h, _⟩, _⟩ := g
  have nb : ∀ i, i < 16 → ∀ s21 : Int32, F_X11_notedBy (nI i) A J = F_X12_noted_l39 B J' i s21 0 := fun i hi s21 => by
    have N : ∀ n, n ≤ c → itN (B_X11_notedBy_l4 (nI i) A J) n 0 = itN (B_X12_noted_l39 B J' i s21) n 0 := by
      intro n
      induction n with
      | zero => intro _; rw [itN_0, itN_0]
      | succ n ih =>
        intro hn
        rw [itN_s, itN_s, ih (by omega)]
        unfold B_X11_notedBy_l4 B_X12_noted_l39
        rw [u2_n _ _ (by omega), nI_clamp (by omega), atF_v (by omega) (by omega), (h n (by omega) _ (show (20, 145) ∈ TSC by decide)).1]
        rcases bit_01 i hi n (by omega) with q | q
        · rw [if_pos q, if_neg (by rw [q]; decide), Int32.or_zero]
        · rw [if_neg (by rw [q]; decide), if_pos q]
    unfold F_X11_notedBy F_X11_notedBy_l4 F_X12_noted_l39
    rw [u2_n _ _ (show ¬ ((132 : Nat) = 130 ∧ (4 : Nat) = 0) by omega), e1, e2, nI_clamp (by omega)]
    exact N c (by omega)
  unfold F_X11_noted F_X12_noted F_X11_noted_l20 F_X12_noted_l21
  rw [u2_n _ _ (show ¬ ((132 : Nat) = 130 ∧ (4 : Nat) = 0) by omega), e1, e2]
  have M : ∀ n, n ≤ 16 → itN (B_X11_noted_l20 A J) n (-2) = itN (B_X12_noted_l21 B J') n (-2) ∧ (itN (B_X12_noted_l21 B J') n (-2) = -2 ∨ ∃ j, j < 16 ∧ itN (B_X12_noted_l21 B J') n (-2) = nI j) := by
    intro n
    induction n with
    | zero => intro _; rw [itN_0, itN_0]; exact ⟨rfl, Or.inl rfl⟩
    | succ n ih =>
      intro hn
      obtain ⟨i1, i2⟩ := ih (by omega)
      rw [itN_s, itN_s, i1]
      generalize itN (B_X12_noted_l21 B J') n (-2) = s at *
      unfold B_X11_noted_l20 B_X12_noted_l21 T_X11_noted_j56 S1_X12_noted
      rw [u2_n _ _ (show ¬ ((132 : Nat) = 130 ∧ (0 : Nat) = 0) by omega), e01, e02, ← nb n (by omega) s]
      by_cases q : s < 0
      · rw [if_pos q, if_pos q, if_neg (show ¬ (1 : Int32) = 0 by decide)]
        refine ⟨rfl, ?_⟩
        split
        · exact Or.inr ⟨n, by omega, rfl⟩
        · exact i2
      · rw [if_neg q, if_neg q]
        obtain ⟨j, hj, rfl⟩ : ∃ j, j < 16 ∧ s = nI j := i2.resolve_left (fun y => q (by rw [y]; decide))
        rw [bits_v (I' := u2 B 130 0 0) (J' := J') hj, bits_v (I' := u2 B 130 0 0) (J' := J') (show n < 16 by omega)]
        by_cases q2 : F_X12_bitsOf (nI j) (u2 B 130 0 0) J' ≤ F_X12_bitsOf (nI n) (u2 B 130 0 0) J'
        · rw [if_pos q2, if_pos q2, if_pos rfl, ite_self]
          exact ⟨rfl, Or.inr ⟨j, hj, rfl⟩⟩
        · rw [if_neg q2, if_neg q2, if_neg (show ¬ (1 : Int32) = 0 by decide)]
          refine ⟨rfl, ?_⟩
          split
          · exact Or.inr ⟨n, by omega, rfl⟩
          · exact Or.inr ⟨j, hj, rfl⟩
  exact (M _ (two_v c (by omega))).1
/-! being there -/
theorem cp_0 (x y : Int32) (I : SI) (J : SJ) : F_X11_commonPart x y I J = F_X11_commonPart x y (fun _ _ => 0) (fun _ _ => 0) := by
  unfold F_X11_commonPart F_X11_commonPart_l4 B_X11_commonPart_l4
  rfl
theorem cm_0 (x y : Int64) (I : SI) (J : SJ) : F_X12_common x y I J = F_X12_common x y (fun _ _ => 0) (fun _ _ => 0) := by
  unfold F_X12_common F_X12_common_w6 B_X12_common_w6
  rfl
theorem cp_v : ∀ v, v < 101 → F_X11_commonPart ((100 : Int32) - nI v) 100 (fun _ _ => 0) (fun _ _ => 0) = nI (Nat.gcd (100 - v) 100) := by decide +kernel
def thA (v n : Nat) : Int64 × Int64 := itN (fun _ s => if nI (Nat.gcd (100 - v) 100) = 0 then (s.1 * (if nI (Nat.gcd (100 - v) 100) = 0 then 0 else (((100 : Int32) - nI v) / nI (Nat.gcd (100 - v) 100)).toInt64), s.2 * 1) else (s.1 * (if nI (Nat.gcd (100 - v) 100) = 0 then 0 else (((100 : Int32) - nI v) / nI (Nat.gcd (100 - v) 100)).toInt64), s.2 * ((100 / nI (Nat.gcd (100 - v) 100)).toInt64))) n (1, 1)
def thB (v n : Nat) : Int64 × Int64 := itN (fun _ s => (s.1 * (100 - (nI v).toInt64), s.2 * 100)) n (1, 1)
theorem th_v : ∀ v, v < 101 → ∀ n, n < 7 → (thA v n).1 = (thB v n).1 / F_X12_common (thB v n).1 (thB v n).2 (fun _ _ => 0) (fun _ _ => 0) ∧ (thA v n).2 = (thB v n).2 / F_X12_common (thB v n).1 (thB v n).2 (fun _ _ => 0) (fun _ _ => 0) := by decide +kernel
theorem there_v {a0 a1 : Int32} {A B : SI} {J J' : SJ} (g : GTL A B) : F_X11_there a0 a1 A J = F_X12_there a0 a1 B J' := by
  obtain ⟨_, _, _, _, _, _, _, _, _, _, _, ⟨e, hi⟩, _⟩ := g
  obtain ⟨v, hv, ev⟩ := hi.n
  have em : u2 B 130 0 0 132 6 = nI v := (u2_n _ _ (by omega)).trans (e.symm.trans ev)
  unfold F_X11_there F_X12_there
  by_cases c0 : a0 < 0
  · rw [if_pos c0, if_pos c0]
  · rw [if_neg c0, if_neg c0]
    by_cases c1 : (6 : Int32) < a0
    · rw [if_pos c1, if_pos c1]
    · rw [if_neg c1, if_neg c1]
      obtain ⟨n, hn, rfl⟩ := (in_le (N := 6) (by omega) c0 (Int32.not_lt.mp c1)).n
      have hA : F_X11_there_l51 (nI n) a1 A J (1, 1) = thA v n := by
        unfold F_X11_there_l51 thA
        rw [nI_clamp (by omega)]
        congr 1
        funext i s
        unfold B_X11_there_l51 T_X11_there_j73
        rw [ev, cp_0, cp_v v hv]
      have hB : F_X12_there_l36 (nI n) a1 B J' (1, 1) = thB v n := by
        unfold F_X12_there_l36 thB
        rw [nI_clamp (by omega)]
        congr 1
        funext i s
        unfold B_X12_there_l36
        rw [em]
      unfold S1_X12_there
      rw [hA, hB, cm_0, (th_v v hv n hn).1, (th_v v hv n hn).2]
