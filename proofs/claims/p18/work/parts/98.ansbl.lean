theorem th_v : ∀ v, v < 101 → ∀ n, n < 7 → (thA v n).1 = (thB v n).1 / F_X12_common (thB v n).1 (thB v n).2 (fun _ _ => 0) (fun _ _ => 0) ∧ (thA v n).2 = (thB v n).2 / F_X12_common (thB v n).1 (thB v n).2 (fun _ _ => 0) (fun _ _ => 0) := by decide +kernel
theorem there_v {a0 a1 : Int32} {A B : SI} {J J' : SJ} (g : GTL A B) : F_X11_there a0 a1 A J = F_X12_there a0 a1 B J' := by
  obtain ⟨_, _, _, _, _, _, _, _, _, _, _, ⟨e, hi⟩, _⟩ := g
  obtain ⟨v, hv, ev⟩ := hi.n
  have em : u2 B 130 0 0 132 6 = nI v := (u2_n _ _ (by omega)).trans (e.symm.trans ev)
  unfold F_X11_there F_X12_there
  by_cases c0 : a0 < 0
  · rw [if_pos c0, if_pos c0]
  · rw [if_neg c0, if_neg c0]
    by_cases c1 : (6 : Int32) < a0
    · rw [if_pos c1, if_pos c1]
    · rw [if_neg c1, if_neg c1]
      obtain ⟨n, hn, rfl⟩ := (in_le (N := 6) (by omega) c0 (Int32.not_lt.mp c1)).n
      have hA : F_X11_there_l51 (nI n) a1 A J (1, 1) = thA v n := by
        unfold F_X11_there_l51 thA
        rw [nI_clamp (by omega)]
        congr 1
        funext i s
        unfold B_X11_there_l51 T_X11_there_j73
        rw [ev, cp_0, cp_v v hv]
      have hB : F_X12_there_l36 (nI n) a1 B J' (1, 1) = thB v n := by
        unfold F_X12_there_l36 thB
        rw [nI_clamp (by omega)]
        congr 1
        funext i s
        unfold B_X12_there_l36
        rw [em]
      unfold S1_X12_there
      rw [hA, hB, cm_0, (th_v v hv n hn).1, (th_v v hv n hn).2]

