theorem sgn_in {A B : SI} (tp : TP A B) {n i : Nat} (h : i < n) : ∃ c : Nat, c < 256 ∧ sgn B n i = nI c ∧ B 131 i = nI c := by
  obtain ⟨c, hc, e⟩ := tp.by i
  exact ⟨c, hc, by unfold sgn; rw [if_neg (by omega)]; exact e, e⟩
theorem sgn_out {B : SI} {n i : Nat} (h : n ≤ i) : sgn B n i = -1 := by unfold sgn; rw [if_pos h]
/-- blanks are passed alike -/
theorem skip_R {A B : SI} {J J' : SJ} {n i0 : Nat} (tp : TP A B) (hn : n ≤ 700) (hi : i0 ≤ n) (a2 : A 81 2 = nI n) (b2 : B 130 25 = nI n) (a3 : A 81 3 = nI i0) (b3 : B 130 26 = nI i0) : ∃ i, i0 ≤ i ∧ i ≤ n ∧ KR1 81 (· = 3) A (F_X8_step_w17 A J ((F_X8_signAt (A 81 3) A J), A)).2 ∧ (F_X8_step_w17 A J ((F_X8_signAt (A 81 3) A J), A)).2 81 3 = nI i ∧ KR1 130 (· = 26) B (F_X12_token_w0 B J' B) ∧ F_X12_token_w0 B J' B 130 26 = nI i := by
  have L := whl2 (f := B_X8_step_w17 A J) (g := B_X12_token_w0 B J') (s0 := ((F_X8_signAt (A 81 3) A J), A)) (t0 := B) (fun s t => ∃ i, i0 ≤ i ∧ i ≤ n ∧ s.1 = sgn B n i ∧ KR1 81 (· = 3) A s.2 ∧ s.2 81 3 = nI i ∧ KR1 130 (· = 26) B t ∧ t 130 26 = nI i) (fun s t => ∃ i, i0 ≤ i ∧ i ≤ n ∧ KR1 81 (· = 3) A s.2 ∧ s.2 81 3 = nI i ∧ KR1 130 (· = 26) B t ∧ t 130 26 = nI i) (fun s => n - (s.2 81 3).toNatClampNeg) ⟨i0, Nat.le_refl _, hi, (by show F_X8_signAt (A 81 3) A J = _; rw [a3]; exact sign_v tp hn (by omega) a2 (fun _ => rfl)), KR1.rf _ _ _, a3, KR1.rf _ _ _, b3⟩ (by show n - _ < 800; omega) (fun s t h => by
    obtain ⟨i, h1, h2, e, k, e3, m, f3⟩ := h
    have s2 : s.2 81 2 = nI n := (k 81 2 (by omega)).trans a2
    have t2 : t 130 25 = nI n := (m 130 25 (by omega)).trans b2
    have hv : F_X12_here t J' = sgn B n i := here_v hn (by omega) t2 f3 (fun b => m 131 b (by omega))
    have nx : u2 s.2 81 3 (s.2 81 3 + 1) 81 3 = nI (i + 1) := by rw [u2_s, e3, nI_1]
    have ny : u2 t 130 26 (t 130 26 + 1) 130 26 = nI (i + 1) := by rw [u2_s, f3, nI_1]
    have st : i < n → F_X8_signAt ((u2 s.2 81 3 (s.2 81 3 + 1)) 81 3) (u2 s.2 81 3 (s.2 81 3 + 1)) J = sgn B n (i + 1) := fun c => by
      rw [nx]
      exact sign_v tp hn (by omega) ((u2_n _ _ (by omega)).trans s2) (fun b => (u2_n _ _ (by omega)).trans (k 1 b (by omega)))
    by_cases c : n ≤ i
    · refine Or.inr ⟨s, t, ?_, ?_, i, h1, h2, k, e3, m, f3⟩
      · unfold B_X8_step_w17
        rw [s2, e3, if_pos (nI_le c (by omega))]
      · unfold B_X12_token_w0
        rw [hv, sgn_out c, if_neg (by decide), if_neg (by decide)]
    · have go : ∀ x, sgn B n i = x → (x = 32 ∨ x = 10) → (∃ s' t', B_X8_step_w17 A J s = .inl s' ∧ B_X12_token_w0 B J' t = .inl t' ∧ (∃ i, i0 ≤ i ∧ i ≤ n ∧ s'.1 = sgn B n i ∧ KR1 81 (· = 3) A s'.2 ∧ s'.2 81 3 = nI i ∧ KR1 130 (· = 26) B t' ∧ t' 130 26 = nI i) ∧ n - (s'.2 81 3).toNatClampNeg < n - (s.2 81 3).toNatClampNeg) := fun x ex hx => by
        refine ⟨(F_X8_signAt ((u2 s.2 81 3 (s.2 81 3 + 1)) 81 3) (u2 s.2 81 3 (s.2 81 3 + 1)) J, u2 s.2 81 3 (s.2 81 3 + 1)), u2 t 130 26 (t 130 26 + 1), ?_, ?_, ⟨i + 1, by omega, by omega, st (by omega), k.u rfl, nx, m.u rfl, ny⟩, ?_⟩
        · unfold B_X8_step_w17
          rw [s2, e3, if_neg (fun q => c ((nI_leI (by omega) (by omega)).mp q)), e, ex]
          rcases hx with rfl | rfl
          · rw [if_pos rfl, ← e3]
          · rw [if_neg (by decide), if_pos rfl, ← e3]
        · unfold B_X12_token_w0
          rw [hv, ex]
          rcases hx with rfl | rfl
          · rw [if_neg (by decide), if_pos rfl]
          · rw [if_pos rfl]
        · show n - (u2 s.2 81 3 (s.2 81 3 + 1) 81 3).toNatClampNeg < n - (s.2 81 3).toNatClampNeg
          rw [nx, e3, nI_clamp (by omega), nI_clamp (by omega)]
          omega
      by_cases c1 : sgn B n i = 32
      · exact Or.inl (go _ c1 (Or.inl rfl))
      · by_cases c2 : sgn B n i = 10
        · exact Or.inl (go _ c2 (Or.inr rfl))
        · refine Or.inr ⟨s, t, ?_, ?_, i, h1, h2, k, e3, m, f3⟩
          · unfold B_X8_step_w17
            rw [e, if_neg c1, if_neg c2, ite_self, ← e]
          · unfold B_X12_token_w0
            rw [hv, if_neg c2, if_neg c1])
  obtain ⟨r, q, e1, e2, h⟩ := L
  unfold F_X8_step_w17 F_X12_token_w0
  rw [e1, e2]
  exact h
/-! words -/
def WDG : List (List Nat) := [[13, 1, 18, 11, 0, 0], [19, 8, 15, 20, 0, 0], [8, 1, 19, 0, 0, 0], [16, 1, 18, 20, 25, 0], [3, 12, 5, 18, 11, 0], [3, 15, 12, 4, 0, 0], [9, 12, 12, 0, 0, 0], [16, 21, 18, 19, 5, 0], [19, 5, 5, 4, 0, 0], [12, 1, 23, 0, 0, 0], [14, 15, 20, 9, 3, 5], [25, 9, 5, 12, 4, 0], [1, 7, 1, 9, 14, 0], [15, 18, 0, 0, 0, 0], [1, 14, 4, 0, 0, 0], [14, 15, 20, 0, 0, 0], [19, 20, 18, 9, 11, 5], [16, 12, 21, 13, 19, 0], [19, 1, 9, 4, 0, 0], [20, 9, 13, 5, 19, 0], [3, 15, 19, 20, 0, 0], [4, 1, 25, 0, 0, 0], [1, 23, 1, 25, 0, 0]]
def WOF : List Nat := [0, 5, 10, 14, 20, 26, 31, 35, 41, 46, 50, 57, 63, 69, 72, 76, 80, 87, 93, 98, 104, 109, 113, 118]
def WLN : List Nat := [4, 4, 3, 5, 5, 4, 3, 5, 4, 3, 6, 5, 5, 2, 3, 3, 6, 5, 4, 5, 4, 3, 4]
def wd (i j : Nat) : Nat := (WDG.getD i []).getD j 0
def wof (i : Nat) : Nat := WOF.getD i 0
def wln (i : Nat) : Nat := WLN.getD i 0
theorem wd_1 : ∀ i, i < 23 → ∀ j, j < wln i → chS 3 (wof i + j) = nI (96 + wd i j) ∧ 1 ≤ wd i j := by decide +kernel
theorem wd_2 : ∀ i, i < 23 → chS 3 (wof i + wln i) = 32 ∧ wln i ≤ 6 ∧ wof (i + 1) = wof i + wln i + 1 := by decide +kernel
theorem wd_3 : ∀ i, i < 23 → ∀ j, j < 6 → wln i ≤ j → wd i j = 0 := by decide +kernel
theorem wd_4 : ∀ i, i < 23 → ∀ j, j < 6 → wd i j ≤ 26 := by decide +kernel
theorem wd_5 : ∀ i, i < 23 → wof i < 118 := by decide +kernel
