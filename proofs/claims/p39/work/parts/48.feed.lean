/-! twenty bytes more, counted -/
theorem wr_s {a : Int32} {I : SI} {J : SJ} (s : Int32 × SI) (h : ¬ s.1 < 0) : ∃ I', B_X11_write_w3 a I J s = .inl (s.1 + (-8), I') ∧ (∀ c : Nat, c < 700 → s.2 0 1 = nI c → I' 0 1 = nI (c + 1)) ∧ ∀ x y, x ≠ 1 → ¬ (x = 0 ∧ y = 1) → I' x y = s.2 x y := by
  unfold B_X11_write_w3
  rw [if_neg h]
  by_cases h1 : s.2 0 1 < 0
  · exact ⟨s.2, by rw [if_pos h1], fun c hc e => absurd h1 (by rw [e]; exact nI_pos (by omega)), fun _ _ _ _ => rfl⟩
  · rw [if_neg h1]
    by_cases h2 : (700 : Int32) ≤ s.2 0 1
    · exact ⟨s.2, by rw [if_pos h2], fun c hc e => absurd h2 (by rw [e]; exact nI_ge (b := 700) hc (by decide)), fun _ _ _ _ => rfl⟩
    · refine ⟨u2 (S1_X11_write a I J s) 0 1 ((S1_X11_write a I J s) 0 1 + 1), by rw [if_neg h2], fun c hc e => ?_, fun x y hx hy => ?_⟩
      · rw [u2_s]
        unfold S1_X11_write
        rw [u2_n _ _ (show ¬ ((0 : Nat) = 1 ∧ (1 : Nat) = _) from fun q => absurd q.1 (by decide)), e, nI_1]
      · rw [u2_n _ _ hy]
        unfold S1_X11_write
        rw [u2_n _ _ (fun q => hx q.1)]
theorem wr_a (a : Int32) (I : SI) (J : SJ) : H_X11_write a I J ∧ (∀ c : Nat, c + 3 < 700 → I 0 1 = nI c → FI_X11_write a I J 0 1 = nI (c + 4)) ∧ ∀ x y, x ≠ 1 → ¬ (x = 0 ∧ y = 1) → FI_X11_write a I J x y = I x y := by
  obtain ⟨I1, e1, c1, f1⟩ := wr_s (a := a) (I := I) (J := J) ((24 : Int32), I) (by show ¬ (24 : Int32) < 0; decide)
  obtain ⟨I2, e2, c2, f2⟩ := wr_s (a := a) (I := I) (J := J) ((24 : Int32) + (-8), I1) (by show ¬ (24 : Int32) + (-8) < 0; decide)
  obtain ⟨I3, e3, c3, f3⟩ := wr_s (a := a) (I := I) (J := J) ((24 : Int32) + (-8) + (-8), I2) (by show ¬ (24 : Int32) + (-8) + (-8) < 0; decide)
  obtain ⟨I4, e4, c4, f4⟩ := wr_s (a := a) (I := I) (J := J) ((24 : Int32) + (-8) + (-8) + (-8), I3) (by show ¬ (24 : Int32) + (-8) + (-8) + (-8) < 0; decide)
  have e5 : B_X11_write_w3 a I J ((24 : Int32) + (-8) + (-8) + (-8) + (-8), I4) = .inr ((24 : Int32) + (-8) + (-8) + (-8) + (-8), I4) := by
    unfold B_X11_write_w3
    exact if_pos (by show (24 : Int32) + (-8) + (-8) + (-8) + (-8) < 0; decide)
  have e : itW (B_X11_write_w3 a I J) 800 (24, I) = some ((24 : Int32) + (-8) + (-8) + (-8) + (-8), I4) := by
    rw [show (800 : Nat) = 795 + 1 + 1 + 1 + 1 + 1 from rfl, itW_l _ _ _ _ e1, itW_l _ _ _ _ e2, itW_l _ _ _ _ e3, itW_l _ _ _ _ e4, itW_r _ _ _ _ e5]
  have ef : FI_X11_write a I J = I4 := by
    unfold FI_X11_write F_X11_write_w3
    rw [e]
    rfl
  refine ⟨?_, fun c hc hI => ?_, fun x y hx hy => ?_⟩
  · unfold H_X11_write
    rw [e]
    rfl
  · rw [ef]
    exact c4 (c + 3) (by omega) (c3 (c + 2) (by omega) (c2 (c + 1) (by omega) (c1 c (by omega) hI)))
  · rw [ef]
    exact (f4 x y hx hy).trans ((f3 x y hx hy).trans ((f2 x y hx hy).trans (f1 x y hx hy)))
theorem feed_c {a0 a1 a2 a3 a4 : Int32} {I : SI} {J : SJ} : H_X11_feed a0 a1 a2 a3 a4 I J ∧ (∀ c : Nat, c ≤ 680 → I 0 1 = nI c → F_X11_feed a0 a1 a2 a3 a4 I J = nI (c + 20) ∧ FI_X11_feed a0 a1 a2 a3 a4 I J 0 1 = nI (c + 20)) ∧ (∀ c : Nat, 680 < c → c ≤ 700 → I 0 1 = nI c → F_X11_feed a0 a1 a2 a3 a4 I J = -1 ∧ FI_X11_feed a0 a1 a2 a3 a4 I J = I) ∧ ∀ x y, x ≠ 1 → ¬ (x = 0 ∧ y = 1) → FI_X11_feed a0 a1 a2 a3 a4 I J x y = I x y := by
  have w0 := wr_a a0 I J
  have w1 := wr_a a1 (FI_X11_write a0 I J) J
  have w2 := wr_a a2 (FI_X11_write a1 (FI_X11_write a0 I J) J) J
  have w3 := wr_a a3 (FI_X11_write a2 (FI_X11_write a1 (FI_X11_write a0 I J) J) J) J
  have w4 := wr_a a4 (S1_X11_feed a0 a1 a2 a3 a4 I J) J
  refine ⟨?_, fun c hc hI => ?_, fun c hc hc2 hI => ?_, fun x y hx hy => ?_⟩
  · unfold H_X11_feed
    exact ⟨fun _ => w0.1, fun _ => w1.1, fun _ => w2.1, fun _ => w3.1, fun _ => w4.1⟩
  · have hle : I 0 1 ≤ 680 := by rw [hI]; exact nI_le (b := 680) hc (by decide)
    have k : FI_X11_write a4 (S1_X11_feed a0 a1 a2 a3 a4 I J) J 0 1 = nI (c + 20) := w4.2.1 (c + 16) (by omega) (w3.2.1 (c + 12) (by omega) (w2.2.1 (c + 8) (by omega) (w1.2.1 (c + 4) (by omega) (w0.2.1 c (by omega) hI))))
    unfold F_X11_feed FI_X11_feed
    rw [if_pos hle, if_pos hle]
    exact ⟨k, k⟩
  · have hle : ¬ I 0 1 ≤ 680 := by rw [hI]; exact nI_ge (a := 680) hc (by omega)
    unfold F_X11_feed FI_X11_feed
    rw [if_neg hle, if_neg hle]
    exact ⟨rfl, rfl⟩
  · unfold FI_X11_feed
    by_cases hle : I 0 1 ≤ 680
    · rw [if_pos hle]
      exact (w4.2.2 x y hx hy).trans ((w3.2.2 x y hx hy).trans ((w2.2.2 x y hx hy).trans ((w1.2.2 x y hx hy).trans (w0.2.2 x y hx hy))))
    · rw [if_neg hle]
theorem feed_m {a0 a1 a2 a3 a4 : Int32} {I : SI} {J : SJ} {c : Nat} (hI : I 130 2 = nI c) (hc7 : c ≤ 700) : H_X12_feed a0 a1 a2 a3 a4 I J ∧ (c ≤ 680 → F_X12_feed a0 a1 a2 a3 a4 I J = nI (c + 20) ∧ FI_X12_feed a0 a1 a2 a3 a4 I J 130 2 = nI (c + 20)) ∧ (680 < c → F_X12_feed a0 a1 a2 a3 a4 I J = -1 ∧ FI_X12_feed a0 a1 a2 a3 a4 I J 130 2 = nI c) ∧ ∀ x y, x ≠ 131 → ¬ (x = 130 ∧ (y = 0 ∨ y = 2)) → FI_X12_feed a0 a1 a2 a3 a4 I J x y = I x y := by
  have hu : u2 I 130 0 0 130 2 = nI c := (u2_n I 0 (by omega)).trans hI
  have key : ∀ n, (itN (B_X12_feed_l20 a0 a1 a2 a3 a4 I J) n (u2 I 130 0 0)) 130 2 = nI c ∧ ∀ x y, x ≠ 131 → (itN (B_X12_feed_l20 a0 a1 a2 a3 a4 I J) n (u2 I 130 0 0)) x y = u2 I 130 0 0 x y := by
    intro n
    refine itN_inv (P := fun (s : SI) => s 130 2 = nI c ∧ ∀ x y, x ≠ 131 → s x y = u2 I 130 0 0 x y) ⟨hu, fun _ _ _ => rfl⟩ (fun i s _ h => ?_)
    unfold B_X12_feed_l20 S3_X12_feed
    exact ⟨(u2_n _ _ (fun q => absurd q.1 (by decide))).trans h.1, fun x y hx => (u2_n _ _ (fun q => hx q.1)).trans (h.2 x y hx)⟩
  have hf : F_X12_feed_l20 a0 a1 a2 a3 a4 I J (u2 I 130 0 0) = itN (B_X12_feed_l20 a0 a1 a2 a3 a4 I J) 20 (u2 I 130 0 0) := rfl
  have hs : S1_X12_feed a0 a1 a2 a3 a4 I J 130 2 = nI (c + 20) := by
    unfold S1_X12_feed
    rw [u2_s, hf, (key 20).1]
    exact nI_add c 20
  refine ⟨?_, fun hc => ?_, fun hc => ?_, fun x y hx hy => ?_⟩
  · unfold H_X12_feed
    intro hle i s hi hs
    have hc : c ≤ 680 := by
      by_cases q : c ≤ 680
      · exact q
      · exact absurd hle (by rw [hu]; exact nI_ge (a := 680) (by omega) (by omega))
    rw [hs, (key i).1, nI_add]
    exact inR_nI (by omega) (by decide)
  · have hle : u2 I 130 0 0 130 2 ≤ 680 := by rw [hu]; exact nI_le (b := 680) hc (by decide)
    unfold F_X12_feed FI_X12_feed
    rw [if_pos hle, if_pos hle]
    exact ⟨hs, hs⟩
  · have hle : ¬ u2 I 130 0 0 130 2 ≤ 680 := by rw [hu]; exact nI_ge (a := 680) hc (by omega)
    unfold F_X12_feed FI_X12_feed
    rw [if_neg hle, if_neg hle]
    exact ⟨rfl, hu⟩
  · unfold FI_X12_feed
    have e0 : u2 I 130 0 0 x y = I x y := u2_n I 0 (fun q => hy ⟨q.1, Or.inl q.2⟩)
    by_cases hle : u2 I 130 0 0 130 2 ≤ 680
    · rw [if_pos hle]
      unfold S1_X12_feed
      rw [u2_n _ _ (fun q => hy ⟨q.1, Or.inr q.2⟩), hf, (key 20).2 x y hx]
      exact e0
    · rw [if_neg hle]
      exact e0
