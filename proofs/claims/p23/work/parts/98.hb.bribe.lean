/-! both: the plums that make her say so -/
theorem cp_L {nm ns np : Nat} {v v' : Int32} {q : Nat} {A B : SI} {JA J' : SJ} (h : NWD nm ns np A JA B) (hq : q < 4) (k : RR 20 v v') : SCL (fun _ => RR 20) 105 1 nm ns (u2 (FI_X0_begin 86 A JA) 112 q v) (FJ_X0_begin 86 A JA) (u2 (FI_X12_copies 1 0 B J') 166 (4 * 1 + q) v') ∧ DX 0 nm ns np (u2 (FI_X0_begin 86 A JA) 112 q v) (u2 (FI_X12_copies 1 0 B J') 166 (4 * 1 + q) v') := by
  obtain ⟨b1, b2⟩ := begin1 (J' := J') h (fun _ _ _ => rfl) (fun _ _ _ => rfl) (cfg0 h)
  have l := b1.loose (R := fun _ => RR 20) (fun q a hq z => by
    obtain ⟨x, hx, ex⟩ := z.n
    exact ⟨x, x, hx, hx, ex, ex, Or.inl rfl⟩)
  have w := l.w_left (R' := fun _ => RR 20) (q0 := q) (v := v) (v' := v') k (fun _ _ _ _ _ z => z)
  exact ⟨w, b2.mv (fun a c z => u2_n _ _ (by omega)) ((FS.rf 1 _).u (in4 (by omega) hq))⟩
theorem pass20 {nm ns np : Nat} {q : Nat} {v v' : Int32} {A B : SI} {JA J' : SJ} (h : NWD nm ns np A JA B) (hq : q < 4) (k : RR 20 v v') : DLL (fun _ => RR 0) 1 nm ns (u2 (FI_X0_begin 86 A JA) 112 q v) (FJ_X0_begin 86 A JA) (u2 (FI_X12_copies 1 0 B J') 166 (4 * 1 + q) v') (FI_X0_pass 20 (u2 (FI_X0_begin 86 A JA) 112 q v) (FJ_X0_begin 86 A JA)) (FJ_X0_pass 20 (u2 (FI_X0_begin 86 A JA) 112 q v) (FJ_X0_begin 86 A JA)) (FI_X12_goesOn 20 (u2 (FI_X12_copies 1 0 B J') 166 (4 * 1 + q) v') J') := by
  obtain ⟨c1, c2⟩ := cp_L (J' := J') h hq k
  have days := days_vL (d := 20) (b := 0) (f := 1) (a0 := 20) (Ia := u2 (FI_X0_begin 86 A JA) 112 q v) (Ja := FJ_X0_begin 86 A JA) (J' := J') (g := B_X12_goesOn_l2 20 (u2 (FI_X12_copies 1 0 B J') 166 (4 * 1 + q) v') J') (fun _ _ => rfl) c1 c2 (by omega) 20 (Nat.le_refl _)
  have e20 : (20 : Int32).toNatClampNeg = 20 := by decide
  have eI : FI_X0_pass 20 (u2 (FI_X0_begin 86 A JA) 112 q v) (FJ_X0_begin 86 A JA) = (itN (B_X0_pass_l2 20 (u2 (FI_X0_begin 86 A JA) 112 q v) (FJ_X0_begin 86 A JA)) 20 (u2 (FI_X0_begin 86 A JA) 112 q v, FJ_X0_begin 86 A JA)).1 := by
    unfold FI_X0_pass F_X0_pass_l2
    rw [e20]
  have eJ : FJ_X0_pass 20 (u2 (FI_X0_begin 86 A JA) 112 q v) (FJ_X0_begin 86 A JA) = (itN (B_X0_pass_l2 20 (u2 (FI_X0_begin 86 A JA) 112 q v) (FJ_X0_begin 86 A JA)) 20 (u2 (FI_X0_begin 86 A JA) 112 q v, FJ_X0_begin 86 A JA)).2 := by
    unfold FJ_X0_pass F_X0_pass_l2
    rw [e20]
  have eB : FI_X12_goesOn 20 (u2 (FI_X12_copies 1 0 B J') 166 (4 * 1 + q) v') J' = (itN (B_X12_goesOn_l2 20 (u2 (FI_X12_copies 1 0 B J') 166 (4 * 1 + q) v') J') 20 (u2 (FI_X12_copies 1 0 B J') 166 (4 * 1 + q) v', J')).1 := by
    unfold FI_X12_goesOn F_X12_goesOn_l2
    rw [e20]
  rw [eI, eJ, eB]
  exact days
/-- one try: alike, and what goes on -/
theorem try_v {nm ns np q i j : Nat} {A B : SI} {JA J' : SJ} {I0 Ib : SI} {Y0 Yb : SJ} (h : NWD nm ns np A JA B) (hq : q < np) (hi : i < 100) (hj : j < 100) (k : RR 20 (nI i) (nI j)) (e15 : I0 15 = A 15) (e16 : I0 16 = A 16) : (atF (S1_X11_bribe (nI q) I0 Y0 i (A, JA) 110) 6 (atF (I0 15) 8 (nI q)) = atF (I0 16) 8 (nI q) ↔ S3_X12_bribe (nI q) Ib Yb j (B, J') = FI_X12_goesOn 20 (S1_X12_bribe (nI q) Ib Yb j (B, J')) J' 142 (nI q).toNatClampNeg) ∧ NWD nm ns np (S1_X11_bribe (nI q) I0 Y0 i (A, JA)) (S2_X11_bribe (nI q) I0 Y0 i (A, JA)) (FI_X12_goesOn 20 (S1_X12_bribe (nI q) Ib Yb j (B, J')) J') ∧ NWD nm ns np A JA (FI_X12_goesOn 20 (S1_X12_bribe (nI q) Ib Yb j (B, J')) J') ∧ S1_X11_bribe (nI q) I0 Y0 i (A, JA) 15 = A 15 ∧ S1_X11_bribe (nI q) I0 Y0 i (A, JA) 16 = A 16 := by
  have q4 : q < 4 := by have := h.2.2.1.1; omega
  have p := pass20 (J' := J') h q4 k
  have ec : ((4 : Int32) + nI q).toNatClampNeg = 4 * 1 + q := by
    have e : (4 : Int32) + nI q = nI (4 + q) := nI_add 4 q
    rw [e, nI_clamp (by omega)]
  have s1 : S1_X11_bribe (nI q) I0 Y0 i (A, JA) = FI_X0_pass 20 (u2 (FI_X0_begin 86 A JA) 112 q (nI i)) (FJ_X0_begin 86 A JA) := by
    unfold S1_X11_bribe
    have e : putF (FI_X0_begin 86 A JA) 112 4 (nI q) (nI i) = u2 (FI_X0_begin 86 A JA) 112 q (nI i) := putF_v q4 (by omega)
    show FI_X0_pass 20 (putF (FI_X0_begin 86 A JA) 112 4 (nI q) (nI i)) (FJ_X0_begin 86 A JA) = _
    rw [e]
  have s2 : S2_X11_bribe (nI q) I0 Y0 i (A, JA) = FJ_X0_pass 20 (u2 (FI_X0_begin 86 A JA) 112 q (nI i)) (FJ_X0_begin 86 A JA) := by
    unfold S2_X11_bribe
    have e : putF (FI_X0_begin 86 A JA) 112 4 (nI q) (nI i) = u2 (FI_X0_begin 86 A JA) 112 q (nI i) := putF_v q4 (by omega)
    show FJ_X0_pass 20 (putF (FI_X0_begin 86 A JA) 112 4 (nI q) (nI i)) (FJ_X0_begin 86 A JA) = _
    rw [e]
  have s3 : S1_X12_bribe (nI q) Ib Yb j (B, J') = u2 (FI_X12_copies 1 0 B J') 166 (4 * 1 + q) (nI j) := by
    unfold S1_X12_bribe
    rw [ec]
  have b2 := (cp_L (J' := J') h q4 k).2
  unfold S3_X12_bribe S2_X12_bribe
  rw [s1, s2, s3]
  obtain ⟨y1, y2, y3, y4⟩ := p
  have y := b2.mv y2 y3
  have cp := copies_v (p := 1) (q := 0) (I := B) (J := J') (by omega) (by omega) (by omega)
  have cp2 : ∀ a b, ¬ inS 1 a b → FI_X12_copies 1 0 B J' a b = B a b := cp.2
  have fs : FS 1 B (FI_X12_copies 1 0 B J') := fun a b z _ => cp2 a b z
  have bk : KP 104 115 A (FI_X0_begin 86 A JA) := begin_K
  have bj : JDY JA (FJ_X0_begin 86 A JA) := begin_J
  generalize FI_X0_pass 20 (u2 (FI_X0_begin 86 A JA) 112 q (nI i)) (FJ_X0_begin 86 A JA) = X at *
  generalize FJ_X0_pass 20 (u2 (FI_X0_begin 86 A JA) 112 q (nI i)) (FJ_X0_begin 86 A JA) = JX at *
  generalize FI_X12_goesOn 20 (u2 (FI_X12_copies 1 0 B J') 166 (4 * 1 + q) (nI j)) J' = Y at *
  have xa : ∀ a b, a < 104 → X a b = A a b := fun a b z => (y2 a b (by omega)).trans ((u2_n _ _ (by omega)).trans (bk a b (by omega)))
  have f2 : FS 1 B Y := (fs.u (in4 (by omega) q4)).tr y3
  have n2 : NWD nm ns np A JA Y := h.mv (fun _ _ _ => rfl) rfl f2
  obtain ⟨m, hm, am, bm, aw, _⟩ := told_p y hq
  have m6 : m < 6 := by have := h.1.1; omega
  have x15 : X 15 = A 15 := funext fun b => xa 15 b (by omega)
  have x16 : X 16 = A 16 := funext fun b => xa 16 b (by omega)
  refine ⟨?_, h.mv xa ((y4 86 6 (by omega)).trans (bj 86 6 (by omega))) f2, n2, x15, x16⟩
  have sm := (y1.2.2.2.2.1 m m6).1.1
  have sm2 : X 110 m = Y 160 (6 * 1 + m) := sm
  have e6 : ((6 : Int32) + nI m).toNatClampNeg = 6 * 1 + m := by
    have e : (6 : Int32) + nI m = nI (6 + m) := nI_add 6 m
    rw [e, nI_clamp (by omega)]
  rw [e15, e16, ← x15, ← x16, atF_v (show q < 8 by omega) (by omega), atF_v (show q < 8 by omega) (by omega), am, atF_v m6 (by omega), nI_clamp (show q < 2 ^ 31 by omega), bm, e6, ← sm2, ← aw]
theorem itE_1 {σ ρ : Type} {f : Nat → σ → σ ⊕ ρ} {i : Nat} {s : σ} : itE f 1 i s = f i s := by
  cases e : f i s with
  | inl s1 => exact (itE_l f 0 i s s1 e).trans (itE_0 f (i + 1) s1)
  | inr r => exact itE_r f 0 i s r e
theorem bribe_val {a0 : Int32} {A B : SI} {JA J' : SJ} (g : GTL A B) (m : MW B B) (d : GDF B) (s : GSC A JA B) : F_X11_bribe a0 A JA = F_X12_bribe a0 B J' := by
  have ph := party_h (a0 := a0) (J := JA) (J' := J') g
  obtain ⟨nm, ns, np, h⟩ := nwd g m d s
  unfold F_X11_bribe F_X12_bribe F_X11_bribe_l49_4 F_X12_bribe_l17_4
  rw [← ph]
  by_cases c1 : F_X7_holds 13 a0 A JA = 0
  · rw [if_pos c1, if_pos c1]
  rw [if_neg c1, if_neg c1]
  obtain ⟨q, hq, rfl⟩ := hold_n h.2.2.1.2.1 (by have := h.2.2.1.1; omega) c1
  have same : ∀ i, i < 1000 → RR 20 (nI i) (nI i) := fun i hi => ⟨i, i, hi, hi, rfl, rfl, Or.inl rfl⟩
  have fy : ∀ {i : Nat} {A1 : SI} {J1 : SJ}, atF (S1_X11_bribe (nI q) A JA i (A1, J1) 110) 6 (atF (A 15) 8 (nI q)) = atF (A 16) 8 (nI q) → B_X11_bribe_l49_4 (nI q) A JA i (A1, J1) = .inr (nI i, S1_X11_bribe (nI q) A JA i (A1, J1), S2_X11_bribe (nI q) A JA i (A1, J1)) := fun t => by
    unfold B_X11_bribe_l49_4
    exact if_pos t
  have fn : ∀ {i : Nat} {A1 : SI} {J1 : SJ}, ¬ atF (S1_X11_bribe (nI q) A JA i (A1, J1) 110) 6 (atF (A 15) 8 (nI q)) = atF (A 16) 8 (nI q) → B_X11_bribe_l49_4 (nI q) A JA i (A1, J1) = .inl (S1_X11_bribe (nI q) A JA i (A1, J1), S2_X11_bribe (nI q) A JA i (A1, J1)) := fun t => by
    unfold B_X11_bribe_l49_4
    exact if_neg t
  have gy : ∀ {j : Nat} {B1 : SI} {K1 : SJ}, S3_X12_bribe (nI q) B J' j (B1, K1) = FI_X12_goesOn 20 (S1_X12_bribe (nI q) B J' j (B1, K1)) K1 142 (nI q).toNatClampNeg → B_X12_bribe_l17_4 (nI q) B J' j (B1, K1) = .inr (nI j, FI_X12_goesOn 20 (S1_X12_bribe (nI q) B J' j (B1, K1)) K1, FJ_X12_goesOn 20 (S1_X12_bribe (nI q) B J' j (B1, K1)) K1) := fun t => by
    unfold B_X12_bribe_l17_4
    exact if_pos t
  have gn : ∀ {j : Nat} {B1 : SI} {K1 : SJ}, ¬ S3_X12_bribe (nI q) B J' j (B1, K1) = FI_X12_goesOn 20 (S1_X12_bribe (nI q) B J' j (B1, K1)) K1 142 (nI q).toNatClampNeg → B_X12_bribe_l17_4 (nI q) B J' j (B1, K1) = .inl (FI_X12_goesOn 20 (S1_X12_bribe (nI q) B J' j (B1, K1)) K1, FJ_X12_goesOn 20 (S1_X12_bribe (nI q) B J' j (B1, K1)) K1) := fun t => by
    unfold B_X12_bribe_l17_4
    exact if_neg t
  -- tries alike
  have L : ∀ n, n ≤ 20 → (∃ (A1 : SI) (J1 : SJ) (B1 : SI) (K1 : SJ), itE (B_X11_bribe_l49_4 (nI q) A JA) n 0 (A, JA) = .inl (A1, J1) ∧ itE (B_X12_bribe_l17_4 (nI q) B J') n 0 (u2 B 130 0 0, J') = .inl (B1, K1) ∧ NWD nm ns np A1 J1 B1 ∧ A 15 = A1 15 ∧ A 16 = A1 16) ∨ (∃ (r u : Int32 × SI × SJ), itE (B_X11_bribe_l49_4 (nI q) A JA) n 0 (A, JA) = .inr r ∧ itE (B_X12_bribe_l17_4 (nI q) B J') n 0 (u2 B 130 0 0, J') = .inr u ∧ r.1 = u.1) := by
    intro n
    induction n with
    | zero => intro _; exact Or.inl ⟨A, JA, u2 B 130 0 0, J', itE_0 _ _ _, itE_0 _ _ _, h, rfl, rfl⟩
    | succ n ih =>
      intro hn
      have ad1 := itE_add (f := B_X11_bribe_l49_4 (nI q) A JA) n 1 0 (A, JA)
      have ad2 := itE_add (f := B_X12_bribe_l17_4 (nI q) B J') n 1 0 (u2 B 130 0 0, J')
      rcases ih (by omega) with ⟨A1, J1, B1, K1, e1, e2, h1, x15, x16⟩ | ⟨r, u, e1, e2, e3⟩
      · have t := try_v (I0 := A) (Y0 := JA) (Ib := B) (Yb := J') (J' := K1) h1 hq (show n < 100 by omega) (show n < 100 by omega) (same n (by omega)) x15 x16
        rw [ad1.1 _ e1, ad2.1 _ e2, itE_1, itE_1, Nat.zero_add]
        by_cases z : atF (S1_X11_bribe (nI q) A JA n (A1, J1) 110) 6 (atF (A 15) 8 (nI q)) = atF (A 16) 8 (nI q)
        · exact Or.inr ⟨_, _, fy z, gy (t.1.mp z), rfl⟩
        · exact Or.inl ⟨_, _, _, _, fn z, gn (fun y => z (t.1.mpr y)), t.2.1, x15.trans t.2.2.2.1.symm, x16.trans t.2.2.2.2.symm⟩
      · exact Or.inr ⟨r, u, ad1.2 _ e1, ad2.2 _ e2, e3⟩
  have ad1 := itE_add (f := B_X11_bribe_l49_4 (nI q) A JA) 20 1 0 (A, JA)
  have ad2 := itE_add (f := B_X12_bribe_l17_4 (nI q) B J') 20 80 0 (u2 B 130 0 0, J')
  rcases L 20 (Nat.le_refl _) with ⟨A1, J1, B1, K1, e1, e2, h1, x15, x16⟩ | ⟨r, u, e1, e2, e3⟩
  · have f1 : itE (B_X11_bribe_l49_4 (nI q) A JA) 21 0 (A, JA) = B_X11_bribe_l49_4 (nI q) A JA 20 (A1, J1) := (ad1.1 _ e1).trans itE_1
    have f2 : itE (B_X12_bribe_l17_4 (nI q) B J') 100 0 (u2 B 130 0 0, J') = itE (B_X12_bribe_l17_4 (nI q) B J') 80 20 (B1, K1) := ad2.1 _ e2
    have t := fun (j : Nat) (B2 : SI) (K2 : SJ) (h2 : NWD nm ns np A1 J1 B2) (h20 : 20 ≤ j) (hj : j < 100) => try_v (i := 20) (I0 := A) (Y0 := JA) (Ib := B) (Yb := J') (J' := K2) h2 hq (by omega) hj ⟨20, j, by omega, by omega, rfl, rfl, Or.inr ⟨Nat.le_refl _, h20⟩⟩ x15 x16
    by_cases z : atF (S1_X11_bribe (nI q) A JA 20 (A1, J1) 110) 6 (atF (A 15) 8 (nI q)) = atF (A 16) 8 (nI q)
    · have y := gy ((t 20 B1 K1 h1 (by omega) (by omega)).1.mp z)
      rw [f1, f2, fy z, itE_r _ 79 20 _ _ y]
    · have no : ∀ n j B2 K2, 20 ≤ j → j + n ≤ 100 → NWD nm ns np A1 J1 B2 → ∃ w, itE (B_X12_bribe_l17_4 (nI q) B J') n j (B2, K2) = .inl w := by
        intro n
        induction n with
        | zero => intro j B2 K2 _ _ _; exact ⟨_, itE_0 _ _ _⟩
        | succ n ih =>
          intro j B2 K2 h20 hj h2
          have tj := t j B2 K2 h2 h20 (by omega)
          rw [itE_l _ n j _ _ (gn (fun y => z (tj.1.mpr y)))]
          exact ih (j + 1) _ _ (by omega) (by omega) tj.2.2.1
      obtain ⟨w, ew⟩ := no 80 20 B1 K1 (Nat.le_refl _) (by omega) h1
      rw [f1, f2, fn z, ew]
  · have f1 : itE (B_X11_bribe_l49_4 (nI q) A JA) 21 0 (A, JA) = .inr r := ad1.2 _ e1
    have f2 : itE (B_X12_bribe_l17_4 (nI q) B J') 100 0 (u2 B 130 0 0, J') = .inr u := ad2.2 _ e2
    rw [f1, f2]
    exact e3
