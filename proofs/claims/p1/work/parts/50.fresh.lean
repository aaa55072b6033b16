/-! one call where nothing is told: what class and model read; the calls that refuse -/
def FCL : List (Nat × Nat × Int32) := [(3, 1, 0), (8, 1, 0), (13, 1, 0), (18, 1, 0), (23, 1, 0), (2, 7, 0), (2, 10, 0), (2, 11, 0), (0, 1, 0), (0, 6, 0), (41, 1, 0), (41, 2, -1), (86, 0, 0), (86, 1, 99), (86, 2, 0), (86, 3, 0), (86, 4, 0), (116, 0, 0), (116, 1, -1), (120, 0, 0)]
def FC (A : SI) : Prop := (∀ q ∈ FCL, A q.1 q.2.1 = q.2.2) ∧ ∀ b, b < 8 → A 88 b = 0
theorem FC.g {A : SI} (h : FC A) (a b : Nat) (v : Int32) (hq : (a, b, v) ∈ FCL) : A a b = v := h.1 _ hq
def FML : List (Nat × Nat × Int32) := [(132, 0, 0), (132, 1, 0), (132, 3, 0), (132, 4, 0), (132, 5, 0), (132, 6, 0), (132, 9, 0), (130, 2, 0), (130, 32, 0), (130, 33, -1), (130, 53, 0), (130, 54, 0), (130, 68, 0), (130, 69, -1), (156, 0, 99), (159, 0, 0)]
def FM (B : SI) : Prop := (∀ q ∈ FML, B q.1 q.2.1 = q.2.2) ∧ ∀ a, (a = 148 ∨ a = 149 ∨ a = 154 ∨ a = 157 ∨ a = 163 ∨ a = 164) → ∀ b, B a b = 0
theorem FM.g {B : SI} (h : FM B) (a b : Nat) (v : Int32) (hq : (a, b, v) ∈ FML) : B a b = v := h.1 _ hq
theorem fml_130 : ∀ q ∈ FML, ¬ (q.1 = 130 ∧ q.2.1 = 0) := by decide +kernel
theorem FM.u0 {B : SI} (h : FM B) : FM (u2 B 130 0 0) := ⟨fun q hq => (u2_n B 0 (fml_130 q hq)).trans (h.1 q hq), fun a ha b => (u2_n B 0 (fun q => by have := q.1; omega)).trans (h.2 a ha b)⟩
theorem FC.ec {A : SI} (h : FC A) : EC A := ⟨h.g 3 1 0 (by decide +kernel), h.g 8 1 0 (by decide +kernel), h.g 13 1 0 (by decide +kernel), h.g 18 1 0 (by decide +kernel), h.g 23 1 0 (by decide +kernel), h.g 2 7 0 (by decide +kernel)⟩
theorem FM.em {B : SI} (h : FM B) : EM B := ⟨h.g 132 0 0 (by decide +kernel), h.g 132 1 0 (by decide +kernel), h.g 132 3 0 (by decide +kernel), h.g 132 4 0 (by decide +kernel), h.g 132 5 0 (by decide +kernel), h.g 132 6 0 (by decide +kernel)⟩
theorem holds_0 {k : Nat} {a : Int32} {I : SI} {J : SJ} (h : I k 1 = 0) : F_X7_holds k a I J = 0 := by
  unfold F_X7_holds
  by_cases c : a < 0
  · exact if_pos c
  · rw [if_neg c, h, if_pos (Int32.not_lt.mp c)]
theorem find_0 {k : Nat} {a : Int32} {I : SI} {J : SJ} (h : I k 1 = 0) : F_X7_find k a I J = -1 := by
  simp only [F_X7_find, F_X7_find_l2, tz0 h, itE_0]
theorem found_0 {r la : Nat} {a c x : Int32} {I : SI} {J : SJ} (h : c = 0) : F_X12_found r la a c x I J = -1 := by
  simp only [F_X12_found, F_X12_found_l3, tz0 h, itE_0]
theorem foundH {r la : Nat} {a c x : Int32} {I : SI} {J : SJ} (h : c = 0) : H_X12_found r la a c x I J := by
  unfold H_X12_found
  rw [tz0 h]
  exact fun _ _ h => nlt0 h
theorem isMark_0 {a : Int32} {I : SI} {J : SJ} (h : I 132 0 = 0) : F_X12_isMark a I J = 0 := by
  unfold F_X12_isMark
  by_cases c : a < 0
  · exact if_pos c
  · rw [if_neg c, h, if_pos (Int32.not_lt.mp c)]
theorem isShot_0 {a : Int32} {I : SI} {J : SJ} (h : I 132 1 = 0) : F_X12_isShot a I J = 0 := by
  unfold F_X12_isShot
  by_cases c : a < 0
  · exact if_pos c
  · rw [if_neg c, h, if_pos (Int32.not_lt.mp c)]
theorem isParty_0 {a : Int32} {I : SI} {J : SJ} (h : I 132 3 = 0) : F_X12_isParty a I J = 0 := by
  unfold F_X12_isParty
  by_cases c : a < 0
  · exact if_pos c
  · rw [if_neg c, h, if_pos (Int32.not_lt.mp c)]
theorem nz {P : Prop} (h : (1 : Int32) = 0) : P := absurd h (by decide)
/-- feed: one int written -/
theorem wr_s {a : Int32} {I : SI} {J : SJ} (s : Int32 × SI) (h : ¬ s.1 < 0) : ∃ I', B_X11_write_w3 a I J s = .inl (s.1 + (-8), I') ∧ (∀ c : Nat, c < 700 → s.2 0 1 = nI c → I' 0 1 = nI (c + 1)) ∧ ∀ x y, x ≠ 1 → ¬ (x = 0 ∧ y = 1) → I' x y = s.2 x y := by
  unfold B_X11_write_w3
  rw [if_neg h]
  by_cases h1 : s.2 0 1 < 0
  · exact ⟨s.2, by rw [if_pos h1], fun c hc e => absurd h1 (by rw [e]; exact nI_pos (by omega)), fun _ _ _ _ => rfl⟩
  · rw [if_neg h1]
    by_cases h2 : (700 : Int32) ≤ s.2 0 1
    · exact ⟨s.2, by rw [if_pos h2], fun c hc e => absurd h2 (by rw [e]; exact nI_ge (b := 700) hc (by decide)), fun _ _ _ _ => rfl⟩
    · refine ⟨u2 (S1_X11_write a I J s) 0 1 ((S1_X11_write a I J s) 0 1 + 1), by rw [if_neg h2], fun c hc e => ?_, fun x y hx hy => ?_⟩
      · rw [u2_s]
        unfold S1_X11_write
        rw [u2_n _ _ (show ¬ ((0 : Nat) = 1 ∧ (1 : Nat) = _) from fun q => absurd q.1 (by decide)), e, nI_1]
      · rw [u2_n _ _ hy]
        unfold S1_X11_write
        rw [u2_n _ _ (fun q => hx q.1)]
theorem wr_a (a : Int32) (I : SI) (J : SJ) : H_X11_write a I J ∧ (∀ c : Nat, c + 3 < 700 → I 0 1 = nI c → FI_X11_write a I J 0 1 = nI (c + 4)) ∧ ∀ x y, x ≠ 1 → ¬ (x = 0 ∧ y = 1) → FI_X11_write a I J x y = I x y := by
  obtain ⟨I1, e1, c1, f1⟩ := wr_s (a := a) (I := I) (J := J) ((24 : Int32), I) (by show ¬ (24 : Int32) < 0; decide)
  obtain ⟨I2, e2, c2, f2⟩ := wr_s (a := a) (I := I) (J := J) ((24 : Int32) + (-8), I1) (by show ¬ (24 : Int32) + (-8) < 0; decide)
  obtain ⟨I3, e3, c3, f3⟩ := wr_s (a := a) (I := I) (J := J) ((24 : Int32) + (-8) + (-8), I2) (by show ¬ (24 : Int32) + (-8) + (-8) < 0; decide)
  obtain ⟨I4, e4, c4, f4⟩ := wr_s (a := a) (I := I) (J := J) ((24 : Int32) + (-8) + (-8) + (-8), I3) (by show ¬ (24 : Int32) + (-8) + (-8) + (-8) < 0; decide)
  have e5 : B_X11_write_w3 a I J ((24 : Int32) + (-8) + (-8) + (-8) + (-8), I4) = .inr ((24 : Int32) + (-8) + (-8) + (-8) + (-8), I4) := by
    unfold B_X11_write_w3
    exact if_pos (by show (24 : Int32) + (-8) + (-8) + (-8) + (-8) < 0; decide)
  have e : itW (B_X11_write_w3 a I J) 800 (24, I) = some ((24 : Int32) + (-8) + (-8) + (-8) + (-8), I4) := by
    rw [show (800 : Nat) = 795 + 1 + 1 + 1 + 1 + 1 from rfl, itW_l _ _ _ _ e1, itW_l _ _ _ _ e2, itW_l _ _ _ _ e3, itW_l _ _ _ _ e4, itW_r _ _ _ _ e5]
  have ef : FI_X11_write a I J = I4 := by
    unfold FI_X11_write F_X11_write_w3
    rw [e]
    rfl
  refine ⟨?_, fun c hc hI => ?_, fun x y hx hy => ?_⟩
  · unfold H_X11_write
    rw [e]
    rfl
  · rw [ef]
    exact c4 (c + 3) (by omega) (c3 (c + 2) (by omega) (c2 (c + 1) (by omega) (c1 c (by omega) hI)))
  · rw [ef]
    exact (f4 x y hx hy).trans ((f3 x y hx hy).trans ((f2 x y hx hy).trans (f1 x y hx hy)))
theorem feed_c {a0 a1 a2 a3 a4 : Int32} {I : SI} {J : SJ} : H_X11_feed a0 a1 a2 a3 a4 I J ∧ (∀ c : Nat, c ≤ 680 → I 0 1 = nI c → F_X11_feed a0 a1 a2 a3 a4 I J = nI (c + 20) ∧ FI_X11_feed a0 a1 a2 a3 a4 I J 0 1 = nI (c + 20)) ∧ (∀ c : Nat, 680 < c → c ≤ 700 → I 0 1 = nI c → F_X11_feed a0 a1 a2 a3 a4 I J = -1 ∧ FI_X11_feed a0 a1 a2 a3 a4 I J = I) ∧ ∀ x y, x ≠ 1 → ¬ (x = 0 ∧ y = 1) → FI_X11_feed a0 a1 a2 a3 a4 I J x y = I x y := by
  have w0 := wr_a a0 I J
  have w1 := wr_a a1 (FI_X11_write a0 I J) J
  have w2 := wr_a a2 (FI_X11_write a1 (FI_X11_write a0 I J) J) J
  have w3 := wr_a a3 (FI_X11_write a2 (FI_X11_write a1 (FI_X11_write a0 I J) J) J) J
  have w4 := wr_a a4 (S1_X11_feed a0 a1 a2 a3 a4 I J) J
  refine ⟨?_, fun c hc hI => ?_, fun c hc hc2 hI => ?_, fun x y hx hy => ?_⟩
  · unfold H_X11_feed
    exact ⟨fun _ => w0.1, fun _ => w1.1, fun _ => w2.1, fun _ => w3.1, fun _ => w4.1⟩
  · have hle : I 0 1 ≤ 680 := by rw [hI]; exact nI_le (b := 680) hc (by decide)
    have k : FI_X11_write a4 (S1_X11_feed a0 a1 a2 a3 a4 I J) J 0 1 = nI (c + 20) := w4.2.1 (c + 16) (by omega) (w3.2.1 (c + 12) (by omega) (w2.2.1 (c + 8) (by omega) (w1.2.1 (c + 4) (by omega) (w0.2.1 c (by omega) hI))))
    unfold F_X11_feed FI_X11_feed
    rw [if_pos hle, if_pos hle]
    exact ⟨k, k⟩
  · have hle : ¬ I 0 1 ≤ 680 := by rw [hI]; exact nI_ge (a := 680) hc (by omega)
    unfold F_X11_feed FI_X11_feed
    rw [if_neg hle, if_neg hle]
    exact ⟨rfl, rfl⟩
  · unfold FI_X11_feed
    by_cases hle : I 0 1 ≤ 680
    · rw [if_pos hle]
      exact (w4.2.2 x y hx hy).trans ((w3.2.2 x y hx hy).trans ((w2.2.2 x y hx hy).trans ((w1.2.2 x y hx hy).trans (w0.2.2 x y hx hy))))
    · rw [if_neg hle]
theorem feed_m {a0 a1 a2 a3 a4 : Int32} {I : SI} {J : SJ} {c : Nat} (hI : I 130 2 = nI c) (hc7 : c ≤ 700) : H_X12_feed a0 a1 a2 a3 a4 I J ∧ (c ≤ 680 → F_X12_feed a0 a1 a2 a3 a4 I J = nI (c + 20) ∧ FI_X12_feed a0 a1 a2 a3 a4 I J 130 2 = nI (c + 20)) ∧ (680 < c → F_X12_feed a0 a1 a2 a3 a4 I J = -1 ∧ FI_X12_feed a0 a1 a2 a3 a4 I J 130 2 = nI c) ∧ ∀ x y, x ≠ 131 → ¬ (x = 130 ∧ (y = 0 ∨ y = 2)) → FI_X12_feed a0 a1 a2 a3 a4 I J x y = I x y := by
  have hu : u2 I 130 0 0 130 2 = nI c := (u2_n I 0 (by omega)).trans hI
  have key : ∀ n, (itN (B_X12_feed_l20 a0 a1 a2 a3 a4 I J) n (u2 I 130 0 0)) 130 2 = nI c ∧ ∀ x y, x ≠ 131 → (itN (B_X12_feed_l20 a0 a1 a2 a3 a4 I J) n (u2 I 130 0 0)) x y = u2 I 130 0 0 x y := by
    intro n
    refine itN_inv (P := fun (s : SI) => s 130 2 = nI c ∧ ∀ x y, x ≠ 131 → s x y = u2 I 130 0 0 x y) ⟨hu, fun _ _ _ => rfl⟩ (fun i s _ h => ?_)
    unfold B_X12_feed_l20 S3_X12_feed
    exact ⟨(u2_n _ _ (fun q => absurd q.1 (by decide))).trans h.1, fun x y hx => (u2_n _ _ (fun q => hx q.1)).trans (h.2 x y hx)⟩
  have hf : F_X12_feed_l20 a0 a1 a2 a3 a4 I J (u2 I 130 0 0) = itN (B_X12_feed_l20 a0 a1 a2 a3 a4 I J) 20 (u2 I 130 0 0) := rfl
  have hs : S1_X12_feed a0 a1 a2 a3 a4 I J 130 2 = nI (c + 20) := by
    unfold S1_X12_feed
    rw [u2_s, hf, (key 20).1]
    exact nI_add c 20
  refine ⟨?_, fun hc => ?_, fun hc => ?_, fun x y hx hy => ?_⟩
  · unfold H_X12_feed
    intro hle i s hi hs
    have hc : c ≤ 680 := by
      by_cases q : c ≤ 680
      · exact q
      · exact absurd hle (by rw [hu]; exact nI_ge (a := 680) (by omega) (by omega))
    rw [hs, (key i).1, nI_add]
    exact inR_nI (by omega) (by decide)
  · have hle : u2 I 130 0 0 130 2 ≤ 680 := by rw [hu]; exact nI_le (b := 680) hc (by decide)
    unfold F_X12_feed FI_X12_feed
    rw [if_pos hle, if_pos hle]
    exact ⟨hs, hs⟩
  · have hle : ¬ u2 I 130 0 0 130 2 ≤ 680 := by rw [hu]; exact nI_ge (a := 680) hc (by omega)
    unfold F_X12_feed FI_X12_feed
    rw [if_neg hle, if_neg hle]
    exact ⟨rfl, hu⟩
  · unfold FI_X12_feed
    have e0 : u2 I 130 0 0 x y = I x y := u2_n I 0 (fun q => hy ⟨q.1, Or.inl q.2⟩)
    by_cases hle : u2 I 130 0 0 130 2 ≤ 680
    · rw [if_pos hle]
      unfold S1_X12_feed
      rw [u2_n _ _ (fun q => hy ⟨q.1, Or.inr q.2⟩), hf, (key 20).2 x y hx]
      exact e0
    · rw [if_neg hle]
      exact e0
theorem fr0 {xs : Nat → Int32} {k : Nat} {A B : SI} {JA JB : SJ} (hA : FC A) (hB : FM B) : Nd0 xs k A JA B JB (fun _ _ _ _ => True) := by
  have hc := feed_c (a0 := xs (k + 1)) (a1 := xs (k + 2)) (a2 := xs (k + 3)) (a3 := xs (k + 4)) (a4 := xs (k + 5)) (I := A) (J := JA)
  have hm := feed_m (a0 := xs (k + 1)) (a1 := xs (k + 2)) (a2 := xs (k + 3)) (a3 := xs (k + 4)) (a4 := xs (k + 5)) (I := B) (J := JB) (c := 0) (hB.g 130 2 0 (by decide +kernel)) (by decide)
  unfold Nd0
  exact ⟨hc.1, hm.1, ((hc.2.1 0 (by decide) (hA.g 0 1 0 (by decide +kernel))).1).trans (hm.2.1 (by decide)).1.symm, trivial⟩
theorem fr2 {xs : Nat → Int32} {k : Nat} {A B : SI} {JA JB : SJ} (hA : FC A) (hB : FM B) : Nd2 xs k A JA B JB (fun _ _ _ _ => True) := by
  have hB' := hB.u0
  unfold Nd2 F_X11_fault F_X12_fault
  refine ⟨?_, trivial⟩
  rw [hA.g 41 1 0 (by decide +kernel), hA.g 41 2 (-1) (by decide +kernel), hB'.g 130 32 0 (by decide +kernel), hB'.g 130 33 (-1) (by decide +kernel)]
theorem fr3 {xs : Nat → Int32} {k : Nat} {A B : SI} {JA JB : SJ} (hA : FC A) (hB : FM B) : Nd3 xs k A JA B JB (fun _ _ _ _ => True) := by
  have hB' := hB.u0
  unfold Nd3 H_X12_named F_X12_named F_X11_named
  generalize u2 B 130 0 0 = C at hB' ⊢
  refine ⟨⟨fun _ => foundH (hB'.g 132 0 0 (by decide +kernel)), fun _ _ => foundH (hB'.g 132 1 0 (by decide +kernel)), fun _ _ _ => foundH (hB'.g 132 3 0 (by decide +kernel)), fun _ _ _ _ => foundH (hB'.g 132 4 0 (by decide +kernel))⟩, ?_, trivial⟩
  rw [find_0 (hA.g 3 1 0 (by decide +kernel)), find_0 (hA.g 8 1 0 (by decide +kernel)), find_0 (hA.g 13 1 0 (by decide +kernel)), find_0 (hA.g 18 1 0 (by decide +kernel)), found_0 (hB'.g 132 0 0 (by decide +kernel)), found_0 (hB'.g 132 1 0 (by decide +kernel)), found_0 (hB'.g 132 3 0 (by decide +kernel)), found_0 (hB'.g 132 4 0 (by decide +kernel))]
theorem fr4 {xs : Nat → Int32} {k : Nat} {A B : SI} {JA JB : SJ} (hA : FC A) (hB : FM B) : Nd4 xs k A JA B JB (fun _ _ _ _ => True) := by
  have hG : G_X11_mark (xs (k + 1)) (xs (k + 2)) A JA = 1 := by
    unfold G_X11_mark
    exact if_pos (holds_0 (hA.g 3 1 0 (by decide +kernel)))
  have hT : ∀ J, T_X12_mark_j27 (xs (k + 1)) (xs (k + 2)) B J = 1 := by
    intro J
    unfold T_X12_mark_j27
    exact if_pos (isMark_0 (hB.g 132 0 0 (by decide +kernel)))
  have e1 : ∀ J, (u2 B 130 0 (T_X12_mark_j27 (xs (k + 1)) (xs (k + 2)) B J)) 130 0 = 1 := fun J => by rw [u2_s, hT]
  unfold Nd4
  rw [hG]
  refine ⟨by decide, ?_, ?_, fun h => nz h, trivial⟩
  · unfold H_X12_mark
    exact ⟨fun h => nz ((e1 _).symm.trans h), fun h => nz ((e1 _).symm.trans h), fun h => nz ((e1 _).symm.trans h), fun h => nz ((e1 _).symm.trans h), fun h => nz ((e1 _).symm.trans h)⟩
  · unfold F_X12_thrown FI_X12_mark
    rw [if_neg (fun h => nz ((e1 _).symm.trans h))]
    exact e1 _
theorem fr5 {xs : Nat → Int32} {k : Nat} {A B : SI} {JA JB : SJ} (hA : FC A) (hB : FM B) : Nd5 xs k A JA B JB (fun _ _ _ _ => True) := by
  have hB' := hB.u0
  unfold Nd5 H_X12_shot F_X12_shot F_X11_shot
  generalize u2 B 130 0 0 = C at hB' ⊢
  have e : F_X12_isShot (xs (k + 1)) C JB = 0 := isShot_0 (hB'.g 132 1 0 (by decide +kernel))
  refine ⟨⟨fun h => absurd e h, fun h => absurd e h, fun h => absurd e h, fun h => absurd e h, fun h => absurd e h⟩, ?_, trivial⟩
  rw [if_pos e, if_pos (holds_0 (hA.g 8 1 0 (by decide +kernel)))]
theorem fr6 {xs : Nat → Int32} {k : Nat} {A B : SI} {JA JB : SJ} (hA : FC A) (hB : FM B) : Nd6 xs k A JA B JB (fun _ _ _ _ => True) := by
  have hB' := hB.u0
  unfold Nd6 H_X12_way F_X12_way F_X11_way
  generalize u2 B 130 0 0 = C at hB' ⊢
  have e : F_X12_isShot (xs (k + 1)) C JB = 0 := isShot_0 (hB'.g 132 1 0 (by decide +kernel))
  refine ⟨⟨fun h => absurd e h, fun h => absurd e h⟩, ?_, trivial⟩
  rw [if_pos e, if_pos (holds_0 (hA.g 8 1 0 (by decide +kernel)))]
theorem fr7 {xs : Nat → Int32} {k : Nat} {A B : SI} {JA JB : SJ} (hA : FC A) (hB : FM B) : Nd7 xs k A JA B JB (fun _ _ _ _ => True) := by
  have hB' := hB.u0
  unfold Nd7 H_X12_party F_X12_party F_X11_party
  generalize u2 B 130 0 0 = C at hB' ⊢
  have e : F_X12_isParty (xs (k + 1)) C JB = 0 := isParty_0 (hB'.g 132 3 0 (by decide +kernel))
  refine ⟨⟨fun h => absurd e h, fun h => absurd e h, fun h => absurd e h, fun h => absurd e h⟩, ?_, trivial⟩
  rw [if_pos e, if_pos (holds_0 (hA.g 13 1 0 (by decide +kernel)))]
theorem fr8 {xs : Nat → Int32} {k : Nat} {A B : SI} {JA JB : SJ} (hA : FC A) (hB : FM B) : Nd8 xs k A JA B JB (fun _ _ _ _ => True) := by
  have hB' := hB.u0
  unfold Nd8 H_X12_clerk F_X12_clerk F_X11_clerk
  generalize u2 B 130 0 0 = C at hB' ⊢
  have e : C 132 4 = 0 := hB'.g 132 4 0 (by decide +kernel)
  rw [e]
  refine ⟨fun h1 h2 => absurd (Int32.not_lt.mp h1) h2, ?_, trivial⟩
  rw [if_pos (holds_0 (hA.g 18 1 0 (by decide +kernel)))]
  by_cases c : xs (k + 1) < 0
  · rw [if_pos c]
  · rw [if_neg c, if_pos (Int32.not_lt.mp c)]
theorem fr10 {xs : Nat → Int32} {k : Nat} {A B : SI} {JA JB : SJ} (hA : FC A) (hB : FM B) : Nd10 xs k A JA B JB (fun _ _ _ _ => True) := by
  have hB' := hB.u0
  unfold Nd10 H_X12_plums F_X12_plums F_X11_plums
  have e : F_X12_isParty (xs (k + 1)) (u2 B 130 0 0) JB = 0 := isParty_0 (hB'.g 132 3 0 (by decide +kernel))
  refine ⟨⟨fun h => absurd e h, fun h => absurd e h, fun h => absurd e h⟩, ?_, trivial⟩
  rw [if_pos e, if_pos (holds_0 (hA.g 13 1 0 (by decide +kernel)))]
theorem fr11 {xs : Nat → Int32} {k : Nat} {A B : SI} {JA JB : SJ} (hA : FC A) (hB : FM B) : Nd11 xs k A JA B JB (fun _ _ _ _ => True) := by
  have hB' := hB.u0
  unfold Nd11 H_X12_move F_X12_move F_X11_move
  have e : F_X12_isShot (xs (k + 1)) (u2 B 130 0 0) JB = 0 := isShot_0 (hB'.g 132 1 0 (by decide +kernel))
  refine ⟨⟨fun h => absurd e h, fun h => absurd e h, fun h => absurd e h, fun h => absurd e h⟩, ?_, trivial⟩
  rw [if_pos e, if_pos (holds_0 (hA.g 8 1 0 (by decide +kernel)))]
theorem fr12 {xs : Nat → Int32} {k : Nat} {A B : SI} {JA JB : SJ} (hA : FC A) (hB : FM B) : Nd12 xs k A JA B JB (fun _ _ _ _ => True) := by
  have hB' := hB.u0
  unfold Nd12 H_X12_tell H_X11_tell F_X12_tell F_X11_tell
  have e : F_X12_isMark (xs (k + 1)) (u2 B 130 0 0) JB = 0 := isMark_0 (hB'.g 132 0 0 (by decide +kernel))
  have e2 : F_X7_holds 3 (xs (k + 1)) A JA = 0 := holds_0 (hA.g 3 1 0 (by decide +kernel))
  refine ⟨fun h => absurd e2 h, ⟨fun h => absurd e h, fun h => absurd e h, fun h => absurd e h, fun h => absurd e h⟩, ?_, trivial⟩
  rw [if_pos e, if_pos e2]
theorem fr13 {xs : Nat → Int32} {k : Nat} {A B : SI} {JA JB : SJ} (hA : FC A) (hB : FM B) : Nd13 xs k A JA B JB (fun _ _ _ _ => True) := by
  have hB' := hB.u0
  unfold Nd13 H_X12_forget F_X12_forget F_X11_forget
  have e : F_X12_isMark (xs (k + 1)) (u2 B 130 0 0) JB = 0 := isMark_0 (hB'.g 132 0 0 (by decide +kernel))
  refine ⟨⟨fun h => absurd e h, fun h => absurd e h, fun h => absurd e h⟩, ?_, trivial⟩
  rw [if_pos e, if_pos (holds_0 (hA.g 3 1 0 (by decide +kernel)))]
theorem fr21 {xs : Nat → Int32} {k : Nat} {A B : SI} {JA JB : SJ} (hA : FC A) (hB : FM B) : Nd21 xs k A JA B JB (fun _ _ _ _ => True) := by
  have hB' := hB.u0
  unfold Nd21 H_X12_bribe H_X11_bribe F_X12_bribe F_X11_bribe
  have e : F_X12_isParty (xs (k + 1)) (u2 B 130 0 0) JB = 0 := isParty_0 (hB'.g 132 3 0 (by decide +kernel))
  have e2 : F_X7_holds 13 (xs (k + 1)) A JA = 0 := holds_0 (hA.g 13 1 0 (by decide +kernel))
  refine ⟨fun h => absurd e2 h, ⟨fun h => absurd e h, fun h => absurd e h, fun h => absurd e h, fun h => absurd e h, fun h => absurd e h⟩, ?_, trivial⟩
  rw [if_pos e, if_pos e2]
theorem areTwo_0 {a b : Int32} {I : SI} {J : SJ} (h : I 132 3 = 0) : F_X12_areTwo a b I J = 0 := by
  unfold F_X12_areTwo
  exact if_pos (isParty_0 h)
theorem canBid_0 {a b : Int32} {I : SI} {J : SJ} (h : I 13 1 = 0) : F_X11_canBid a b I J = 0 := by
  unfold F_X11_canBid
  exact if_pos (holds_0 h)
theorem fr22 {xs : Nat → Int32} {k : Nat} {A B : SI} {JA JB : SJ} (hA : FC A) (hB : FM B) : Nd22 xs k A JA B JB (fun _ _ _ _ => True) := by
  have hB' := hB.u0
  unfold Nd22 H_X12_rests F_X12_rests F_X11_rests
  have e : F_X12_areTwo (xs (k + 1)) (xs (k + 2)) (u2 B 130 0 0) JB = 0 := areTwo_0 (hB'.g 132 3 0 (by decide +kernel))
  refine ⟨fun h => absurd e h, ?_, trivial⟩
  rw [if_pos e, if_pos (canBid_0 (hA.g 13 1 0 (by decide +kernel)))]
theorem fr23 {xs : Nat → Int32} {k : Nat} {A B : SI} {JA JB : SJ} (hA : FC A) (hB : FM B) : Nd23 xs k A JA B JB (fun _ _ _ _ => True) := by
  have hB' := hB.u0
  unfold Nd23 H_X12_rest F_X12_rest F_X11_rest
  have e : F_X12_areTwo (xs (k + 1)) (xs (k + 2)) (u2 B 130 0 0) JB = 0 := areTwo_0 (hB'.g 132 3 0 (by decide +kernel))
  refine ⟨fun h => absurd e h, ?_, trivial⟩
  rw [if_pos e, if_pos (canBid_0 (hA.g 13 1 0 (by decide +kernel)))]
theorem fr26 {xs : Nat → Int32} {k : Nat} {A B : SI} {JA JB : SJ} (hA : FC A) (hB : FM B) : Nd26 xs k A JA B JB (fun _ _ _ _ => True) := by
  have hB' := hB.u0
  have e := tz0 (hB'.g 132 1 0 (by decide +kernel))
  unfold Nd26 H_X12_run F_X12_run F_X12_run_l11 F_X11_run F_X11_run_l6
  rw [e, tz0 (hA.g 8 1 0 (by decide +kernel)), itN_0, itN_0]
  exact ⟨⟨fun _ _ h => nlt0 h, fun _ _ h => nlt0 h⟩, rfl, trivial⟩
theorem fr27 {xs : Nat → Int32} {k : Nat} {A B : SI} {JA JB : SJ} (hA : FC A) (hB : FM B) : Nd27 xs k A JA B JB (fun _ _ _ _ => True) := by
  have hB' := hB.u0
  have e := tz0 (hB'.g 132 3 0 (by decide +kernel))
  unfold Nd27 H_X12_believed F_X12_believed F_X12_believed_l9 F_X11_believed F_X11_believed_l4
  rw [e, tz0 (hA.g 13 1 0 (by decide +kernel)), itN_0, itN_0]
  exact ⟨⟨fun _ _ h => nlt0 h, fun _ _ h => nlt0 h⟩, rfl, trivial⟩
theorem fr28 {xs : Nat → Int32} {k : Nat} {A B : SI} {JA JB : SJ} (hA : FC A) (hB : FM B) : Nd28 xs k A JA B JB (fun _ _ _ _ => True) := by
  have hB' := hB.u0
  unfold Nd28 H_X12_see F_X12_see F_X11_see
  have e : F_X12_isMark (xs (k + 2)) (u2 B 130 0 0) JB = 0 := isMark_0 (hB'.g 132 0 0 (by decide +kernel))
  refine ⟨⟨fun _ _ h => absurd e h, fun _ _ h => absurd e h, fun _ _ h => absurd e h, fun _ _ h => absurd e h⟩, ?_, trivial⟩
  rw [if_pos e, if_pos (holds_0 (hA.g 3 1 0 (by decide +kernel)))]
theorem fr29 {xs : Nat → Int32} {k : Nat} {A B : SI} {JA JB : SJ} (hA : FC A) (hB : FM B) : Nd29 xs k A JA B JB (fun _ _ _ _ => True) := by
  have hB' := hB.u0
  have e : u2 B 130 0 0 130 68 = 0 := hB'.g 130 68 0 (by decide +kernel)
  have e2 : A 116 0 = 0 := hA.g 116 0 0 (by decide +kernel)
  unfold Nd29 H_X12_out F_X12_out F_X11_out
  rw [e, e2]
  refine ⟨fun h1 h2 => absurd (Int32.not_lt.mp h1) h2, ?_, trivial⟩
  by_cases c : xs (k + 1) < 0
  · rw [if_pos c, if_pos c]
  · rw [if_neg c, if_neg c, if_neg c, if_pos (Int32.not_lt.mp c)]
theorem fr30 {xs : Nat → Int32} {k : Nat} {A B : SI} {JA JB : SJ} (hA : FC A) (hB : FM B) : Nd30 xs k A JA B JB (fun _ _ _ _ => True) := by
  have hB' := hB.u0
  unfold Nd30 F_X12_known F_X11_known
  rw [hB'.g 130 68 0 (by decide +kernel), hA.g 116 0 0 (by decide +kernel)]
  exact ⟨rfl, trivial⟩
theorem fr31 {xs : Nat → Int32} {k : Nat} {A B : SI} {JA JB : SJ} (hA : FC A) (hB : FM B) : Nd31 xs k A JA B JB (fun _ _ _ _ => True) := by
  have hB' := hB.u0
  unfold Nd31 H_X12_struckHow H_X11_struckHow F_X12_struckHow F_X11_struckHow
  have e : F_X12_isMark (xs (k + 1)) (u2 B 130 0 0) JB = 0 := isMark_0 (hB'.g 132 0 0 (by decide +kernel))
  have e2 : F_X7_holds 3 (xs (k + 1)) A JA = 0 := holds_0 (hA.g 3 1 0 (by decide +kernel))
  refine ⟨?_, ?_, ?_, trivial⟩
  · and_intros <;> exact fun h => absurd e2 h
  · and_intros <;> exact fun h => absurd e h
  · rw [if_pos e, if_pos e2]
theorem fr34 {xs : Nat → Int32} {k : Nat} {A B : SI} {JA JB : SJ} (hA : FC A) (hB : FM B) : Nd34 xs k A JA B JB (fun _ _ _ _ => True) := by
  have hB' := hB.u0
  have e : u2 B 130 0 0 130 54 = 0 := hB'.g 130 54 0 (by decide +kernel)
  have e2 : F_X10_takeBack 86 A JA = 0 := by
    unfold F_X10_takeBack
    rw [hA.g 120 0 0 (by decide +kernel)]
    exact if_neg (by decide)
  unfold Nd34 H_X12_undo F_X12_undo F_X11_undo
  refine ⟨fun h => absurd e h, ?_, trivial⟩
  rw [if_pos e, if_pos e2]
theorem fr36 {xs : Nat → Int32} {k : Nat} {A B : SI} {JA JB : SJ} (hA : FC A) (hB : FM B) : Nd36 xs k A JA B JB (fun _ _ _ _ => True) := by
  have hB' := hB.u0
  have e : u2 B 130 0 0 130 53 = 0 := hB'.g 130 53 0 (by decide +kernel)
  unfold Nd36 H_X12_back F_X12_back F_X11_back
  refine ⟨fun h => absurd e h, ?_, trivial⟩
  rw [if_pos e, if_pos (hA.g 0 6 0 (by decide +kernel))]
