/-! both: a mark now, and what is thrown -/
theorem mark_b {a0 : Int32} {A B : SI} {J J' : SJ} (g : GTL A B) : F_X7_holds 3 a0 A J = F_X12_isMark a0 B J' := by
  obtain ⟨_, _, _, _, _, ⟨c, hc, e1, e2, _⟩, _⟩ := g
  unfold F_X7_holds F_X12_isMark
  rw [e1, e2]
theorem mark_t0 {a0 a1 : Int32} {A B : SI} {J J' : SJ} (g : GTL A B) : T_X12_mark_j27 a0 a1 B J' = G_X11_mark a0 a1 A J := by
  have h := mark_b (a0 := a0) (J := J) (J' := J') g
  unfold T_X12_mark_j27 G_X11_mark
  rw [← h]
  by_cases c1 : F_X7_holds 3 a0 A J = 0
  · rw [if_pos c1, if_pos c1]
  · rw [if_neg c1, if_neg c1]
    by_cases c2 : a1 < 0
    · have n : ∀ x : Int32, ¬ x < 0 → ¬ a1 = x := fun x hx z => hx (z ▸ c2)
      rw [if_pos c2, if_neg (n 0 (by decide)), if_neg (n 1 (by decide)), if_neg (n 2 (by decide)), if_neg (n 3 (by decide)), if_neg (n 4 (by decide))]
    · rw [if_neg c2]
      by_cases c3 : a1 ≤ 4
      · rw [if_pos c3]
        obtain ⟨q, hq, rfl⟩ := (in_le (N := 4) (by omega) c2 c3).n
        rcases (by omega : q = 0 ∨ q = 1 ∨ q = 2 ∨ q = 3 ∨ q = 4) with rfl | rfl | rfl | rfl | rfl <;> decide
      · have n : ∀ x : Int32, x ≤ 4 → ¬ a1 = x := fun x hx z => c3 (by rw [z]; exact hx)
        rw [if_neg c3, if_neg (n 0 (by decide)), if_neg (n 1 (by decide)), if_neg (n 2 (by decide)), if_neg (n 3 (by decide)), if_neg (n 4 (by decide))]
theorem mark_t {a0 a1 : Int32} {A B : SI} {J J' : SJ} (g : GTL A B) : FI_X12_mark a0 a1 B J' 130 0 = G_X11_mark a0 a1 A J := by
  have e : FI_X12_mark a0 a1 B J' 130 0 = T_X12_mark_j27 a0 a1 B J' := by
    unfold FI_X12_mark
    repeat' split
    all_goals exact u2_s _ _ _ _
  exact e.trans (mark_t0 g)
theorem mark_val {a0 a1 : Int32} {A B : SI} {JA J J' : SJ} (g : GTL A B) (s : GSC A JA B) (h : G_X11_mark a0 a1 A J = 0) : F_X11_mark a0 a1 A J = F_X12_mark a0 a1 B J' := by
  have et : T_X12_mark_j27 a0 a1 B J' = 0 := (mark_t0 g).trans h
  obtain ⟨nm, ns, c, sc, _, _⟩ := gsc0 (v := 0) s
  obtain ⟨nm', hn', n1, n2, n3⟩ := cnt_m g
  unfold F_X11_mark F_X12_mark
  rw [et, u2_s, if_pos rfl]
  unfold G_X11_mark at h
  by_cases c1 : F_X7_holds 3 a0 A J = 0
  · rw [if_pos c1] at h
    exact absurd h (by decide)
  rw [if_neg c1] at h ⊢
  obtain ⟨m, hm, rfl⟩ := hold_n n1 (by omega) c1
  have m6 : m < 6 := by omega
  obtain ⟨k1, k2, _⟩ := n3 m hm
  have k := sc.2.2.2.2.1 m m6
  rw [Nat.mul_zero, Nat.zero_add] at k
  have k3 : A 91 m = u2 B 130 0 0 160 m := k.1.1
  have k4 : A 92 m = u2 B 130 0 0 161 m := k.1.2
  have k5 : F_X5_filmedWith 86 (nI m) (-1) A J = F_X12_timesOf 0 (nI m) (-1) (u2 B 130 0 0) J' := times_v (f := 0) sc c (by omega) m6
  have z5 : u2 B 130 0 0 134 m = B 134 m := u2_n _ _ (by omega)
  have z6 : u2 B 130 0 0 135 m = B 135 m := u2_n _ _ (by omega)
  rw [nI_clamp (show m < 2 ^ 31 by omega), z5, z6, ← k1, ← k2, ← k3, ← k4, ← k5, atF_v (show m < 8 by omega) (by omega), atF_v (show m < 8 by omega) (by omega), atF_v m6 (by omega), atF_v m6 (by omega)]
  by_cases d0 : a1 = 0
  · rw [if_pos d0, if_pos d0]
  rw [if_neg d0] at h ⊢
  rw [if_neg d0]
  by_cases d1 : a1 = 1
  · rw [if_pos d1, if_pos d1]
  rw [if_neg d1] at h ⊢
  rw [if_neg d1]
  by_cases d2 : a1 = 2
  · rw [if_pos d2, if_pos d2]
  rw [if_neg d2] at h ⊢
  rw [if_neg d2]
  by_cases d3 : a1 = 3
  · rw [if_pos d3, if_pos d3]
  rw [if_neg d3] at h ⊢
  rw [if_neg d3]
  by_cases d4 : a1 = 4
  · rw [if_pos d4]
  · rw [if_neg d4] at h
    exact absurd h (by decide)
theorem mark_ans {a0 a1 : Int32} {A B : SI} {JA JB : SJ} (g : GTL A B) (s : GSC A JA B) : G_X11_mark a0 a1 A JA = 0 → (if G_X11_mark a0 a1 A JA = 0 then u2 JB 178 0 (F_X11_mark a0 a1 A JA).toInt64 else JB) 178 0 = (F_X12_mark a0 a1 B (if G_X11_mark a0 a1 A JA = 0 then u2 JB 178 0 (F_X11_mark a0 a1 A JA).toInt64 else JB)).toInt64 := fun h => by
  rw [if_pos h]
  exact (u2_s _ _ _ _).trans (congrArg Int32.toInt64 (mark_val g s h))
