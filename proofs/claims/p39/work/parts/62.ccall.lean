/-! the class: its calls go well (all but text) -/
theorem atF_in {f : Nat → Int32} {len N : Nat} {i : Int32} (hl : len < 2 ^ 31) (hN : 0 < N) (h : ∀ b, b < len → inR (f b) N) : inR (atF f len i) N := by
  unfold atF
  by_cases h1 : i < 0
  · rw [if_pos h1]; exact inR.z rfl hN
  · rw [if_neg h1]
    by_cases h2 : nI len ≤ i
    · rw [if_pos h2]; exact inR.z rfl hN
    · rw [if_neg h2]; exact h _ (in_of h1 h2 hl).2
/-- changes the days', the least's and the order's own cells alone -/
def KO (I I' : SI) : Prop := ∀ a b, (a < 104 ∨ 129 < a ∨ (115 < a ∧ a < 124)) → I' a b = I a b
theorem KO.rf (I : SI) : KO I I := fun _ _ _ => rfl
theorem KO.tr {I I1 I2 : SI} (h : KO I I1) (h2 : KO I1 I2) : KO I I2 := fun a b z => (h2 a b z).trans (h a b z)
theorem KO.d {I I1 : SI} (h : KP 104 115 I I1) : KO I I1 := fun a b z => h a b (by omega)
theorem KO.o {I I1 : SI} (h : KP 124 129 I I1) : KO I I1 := fun a b z => h a b (by omega)
theorem CS.ko {I I1 : SI} (h : CS I) (k : KO I I1) : CS I1 := ⟨by rw [k 3 1 (by omega)]; exact h.1, by rw [k 8 1 (by omega)]; exact h.2.1, by rw [k 13 1 (by omega)]; exact h.2.2⟩
theorem row_C {a0 : Nat} {a1 : Int32} {I : SI} {J : SJ} (h1 : inR a1 9) : H_X3_begin a0 a1 I J ∧ KP 128 129 I (FI_X3_begin a0 a1 I J) ∧ inR (FI_X3_begin a0 a1 I J 128 2) 5 := by
  have e0 : (u2 (u2 (u2 I 128 2 0) 128 1 (-1)) 128 0 0) 128 2 = 0 := by simp [u2]
  have L := whc (f := B_X3_begin_w17 a0 a1 I J) (x0 := u2 (u2 (u2 I 128 2 0) 128 1 (-1)) 128 0 0) 8 (by decide) (fun x => KP 128 129 I x ∧ inR (x 128 2) 5) (fun r => KP 128 129 I r.2 ∧ inR (r.2 128 2) 5) ⟨(((KP.rf I).u (by decide)).u (by decide)).u (by decide), by rw [e0]; exact cn_0⟩ (fun e x s' he hx h => by
    obtain ⟨c, h2⟩ := inl_of h
    obtain ⟨c2, h3⟩ := inl_of h2
    have z : inR (x 128 2) 4 := cn_lt (N := 4) (by decide) hx.2 (show inR (4 : Int32) 5 from ⟨rfl, by decide⟩) c2
    refine ⟨cn_lt (by decide) he h1 c, ?_⟩
    repeat' split at h3
    all_goals cases h3
    all_goals refine ⟨rfl, ?_⟩
    · unfold S1_X3_begin
      refine ⟨(hx.1.p (by decide)).u (by decide), ?_⟩
      show inR (u2 (putF x 129 4 (x 128 2) e) 128 2 (putF x 129 4 (x 128 2) e 128 2 + 1) 128 2) 5
      rw [u2_s, putF_n (show (128 : Nat) ≠ 129 from by decide)]
      exact (cn_s (N := 4) (by decide) z).1
    · exact hx) (fun e x r he hx h => by
    unfold B_X3_begin_w17 at h
    repeat' split at h
    all_goals cases h
    all_goals exact hx)
  refine ⟨?_, ?_⟩
  · unfold H_X3_begin
    exact L.1
  · unfold FI_X3_begin F_X3_begin_w17
    exact L.2.2 _
theorem put_C {a0 : Int32} {I : SI} {J : SJ} (h1 : inR (I 128 2) 5) : H_X3_putDays a0 105 I J ∧ KP 104 115 I (FI_X3_putDays a0 105 I J) := by
  have L := whc (f := B_X3_putDays_w2 a0 105 I J) (x0 := I) 4 (by decide) (fun x => KP 104 115 I x) (fun r => KP 104 115 I r.2) (KP.rf I) (fun e x s' he hx h => by
    obtain ⟨c, h2⟩ := inl_of h
    cases h2
    refine ⟨cn_lt (by decide) he (show inR (x 128 2) 5 by rw [hx 128 2 (by omega)]; exact h1) c, rfl, ?_⟩
    unfold S1_X3_putDays
    exact hx.p (by decide)) (fun e x r he hx h => by
    unfold B_X3_putDays_w2 at h
    repeat' split at h
    all_goals cases h
    all_goals exact hx)
  refine ⟨?_, ?_⟩
  · unfold H_X3_putDays
    exact L.1
  · unfold FI_X3_putDays F_X3_putDays_w2
    exact L.2.2 _
theorem u128 {X : SI} {a b : Int32} : (u2 (u2 X 128 1 a) 128 0 b) 128 2 = X 128 2 := (u2_n _ _ (by omega)).trans (u2_n _ _ (by omega))
theorem order_C {a0 : Int32} {I : SI} {J : SJ} (hC : CS I) : H_X11_order a0 I J ∧ KO I (FI_X11_order a0 I J) := by
  have R := row_C (a0 := 86) (I := I) (J := J) hC.2.1
  have P : ∀ (s : SI × SJ), KO I s.1 ∧ inR (s.1 128 2) 5 → CS s.1 ∧ CS (FI_X0_begin 86 s.1 s.2) ∧ inR (FI_X0_begin 86 s.1 s.2 128 2) 5 := fun s hs => ⟨hC.ko hs.1, (hC.ko hs.1).kp (begin_K (J := s.2)) (by decide), by rw [begin_K (a0 := 86) (I := s.1) (J := s.2) 128 2 (by omega)]; exact hs.2⟩
  have S2 : ∀ (i : Nat) (s : SI × SJ), KO I s.1 ∧ inR (s.1 128 2) 5 → KP 104 115 s.1 (S2_X11_order a0 I J i s) := fun i s hs => by
    unfold S2_X11_order
    exact begin_K.tr (put_C (P s hs).2.2).2
  have S3 : ∀ (i : Nat) (s : SI × SJ), KO I s.1 ∧ inR (s.1 128 2) 5 → KP 104 115 s.1 (S3_X11_order a0 I J i s) := fun i s hs => by
    unfold S3_X11_order
    exact (S2 i s hs).tr (pass_C ((P s hs).1.kp (S2 i s hs) (by decide))).2
  have N : ∀ n, KO I (itN (B_X11_order_l34 a0 I J) n (FI_X3_begin 86 (I 8 1) I J, J)).1 ∧ inR ((itN (B_X11_order_l34 a0 I J) n (FI_X3_begin 86 (I 8 1) I J, J)).1 128 2) 5 := fun n => itN_inv (P := fun s : SI × SJ => KO I s.1 ∧ inR (s.1 128 2) 5) ⟨KO.o (R.2.1.w (by decide) (by decide)), R.2.2⟩ (fun i s _ hs => by
    unfold B_X11_order_l34
    split
    · exact hs
    · have k := S3 i s hs
      have k2 : KO I (S3_X11_order a0 I J i s) := hs.1.tr (KO.d k)
      have k3 : inR (S3_X11_order a0 I J i s 128 2) 5 := by rw [k 128 2 (by omega)]; exact hs.2
      show KO I (S6_X11_order a0 I J i s) ∧ inR (S6_X11_order a0 I J i s 128 2) 5
      unfold S6_X11_order FI_X3_weigh
      repeat' split
      all_goals first
        | exact ⟨k2, k3⟩
        | (refine ⟨k2.tr (KO.o (((KP.rf _).u (by decide)).u (by decide))), ?_⟩; rw [u128]; exact k3))
  have D : ∀ (i : Nat) (s : SI × SJ), s = itN (B_X11_order_l34 a0 I J) i (FI_X3_begin 86 (I 8 1) I J, J) → KO I s.1 ∧ inR (s.1 128 2) 5 := fun i s e => e ▸ N i
  refine ⟨?_, ?_⟩
  · unfold H_X11_order
    exact ⟨fun _ _ => R.1, fun _ _ i s _ e _ => (put_C (P s (D i s e)).2.2).1, fun _ _ i s _ e _ => (pass_C ((P s (D i s e)).1.kp (S2 i s (D i s e)) (by decide))).1⟩
  · unfold FI_X11_order F_X11_order_l34
    repeat' split
    all_goals first
      | exact KO.rf I
      | exact (N _).1
/-- .. and the ways of the marks -/
def CL (I : SI) : Prop := CS I ∧ ∀ b, b < 8 → inR (I 6 b) 7
theorem CL.kp {p q : Nat} {I I1 : SI} (h : CL I) (k : KP p q I I1) (hp : 13 < p) : CL I1 := ⟨h.1.kp k hp, fun b z => by rw [k 6 b (by omega)]; exact h.2 b z⟩
theorem cost_C {a0 : Int32} {I : SI} {J : SJ} : H_X2_costOf a0 I J := by
  have L := whl (f := B_X2_costOf_w4 a0 I J) (s0 := ((0 : Int32), (0 : Int32))) (fun s => inR s.2 9) (fun _ => True) (fun s => 8 - s.2.toNatClampNeg) cn_0 (by show 8 - _ < 800; omega) (fun s s' hs h => by
    obtain ⟨c, h2⟩ := inl_of h
    obtain ⟨_, h3⟩ := inl_of h2
    have z : inR s.2 8 := cn_lt (N := 8) (by decide) hs (show inR (8 : Int32) 9 from ⟨rfl, by decide⟩) c
    have k := cn_s (N := 8) (by decide) z
    have q : s'.2 = s.2 + 1 := by
      split at h3 <;> (cases h3; rfl)
    have := z.2
    exact ⟨by rw [q]; exact k.1, by show 8 - s'.2.toNatClampNeg < 8 - s.2.toNatClampNeg; rw [q, k.2]; omega⟩) (fun _ _ _ _ => trivial)
  unfold H_X2_costOf
  exact L.1
theorem choose_C : ∀ (k i : Nat), i + k = 8 → i ≤ 6 → ∀ (a1 a2 : Int32) (I : SI) (J : SJ), CL I → HG_choose k 0 (nI i) a1 a2 I J ∧ KP 124 127 I (RG_choose k 0 (nI i) a1 a2 I J).1 := by
  intro k
  induction k with
  | zero => intro i h h6; omega
  | succ k ih =>
    intro i h h6 a1 a2 I J hC
    show H_X2_choose (HG_choose k) (RG_choose k) (nI i) a1 a2 I J ∧ KP 124 127 I (FI_X2_choose (RG_choose k) (nI i) a1 a2 I J)
    by_cases hi : i < 6
    · have g : ∀ (s : Int32 × SI × SJ) (b1 b2 : Int32), KP 124 127 I s.2.1 → HG_choose k 0 (nI i + 1) b1 b2 (putF s.2.1 126 6 (nI i) s.1) s.2.2 ∧ KP 124 127 I (RG_choose k 0 (nI i + 1) b1 b2 (putF s.2.1 126 6 (nI i) s.1) s.2.2).1 := fun s b1 b2 hs => by
        have k1 : KP 124 127 I (putF s.2.1 126 6 (nI i) s.1) := hs.p (by decide)
        have q := ih (i + 1) (by omega) (by omega) b1 b2 (putF s.2.1 126 6 (nI i) s.1) s.2.2 (hC.kp k1 (by decide))
        rw [nI_1]
        exact ⟨q.1, k1.tr q.2⟩
      have L := whc (f := B_X2_choose_w49 (RG_choose k) (nI i) a1 a2 I J) (x0 := (I, J)) 6 (by decide) (fun x => KP 124 127 I x.1) (fun r => KP 124 127 I r.2.1) (KP.rf I) (fun e x s' he hx h => by
        obtain ⟨c, h2⟩ := inl_of h
        refine ⟨cn_lt (by decide) he (atF_in (f := x.1 6) (len := 8) (by decide) (by decide) (hC.kp hx (by decide)).2) c, ?_⟩
        repeat' split at h2
        all_goals cases h2
        all_goals refine ⟨rfl, ?_⟩
        all_goals first
          | exact hx
          | (unfold S2_X2_choose; exact (g (e, x) _ _ hx).2)) (fun e x r he hx h => by
        unfold B_X2_choose_w49 at h
        repeat' split at h
        all_goals cases h
        all_goals exact hx)
      refine ⟨?_, ?_⟩
      · unfold H_X2_choose
        exact ⟨fun _ _ _ => L.1, fun _ _ _ _ _ _ _ _ => cost_C, fun _ _ _ n s hn _ _ => (g s _ _ (L.2.1 n s hn).2).1⟩
      · unfold FI_X2_choose F_X2_choose_w49
        repeat' split
        all_goals first
          | exact KP.rf I
          | exact ((KP.rf I).u (by decide)).c (by decide)
          | exact L.2.2 _
    · have e : i = 6 := by omega
      subst e
      have no : ¬ nI 6 < 6 := by decide
      refine ⟨?_, ?_⟩
      · unfold H_X2_choose
        exact ⟨fun _ _ c => absurd c no, fun _ _ c => absurd c no, fun _ _ c => absurd c no⟩
      · unfold FI_X2_choose
        rw [if_neg no]
        repeat' split
        all_goals first
          | exact KP.rf I
          | exact ((KP.rf I).u (by decide)).c (by decide)
theorem work_C {I : SI} {J : SJ} (hC : CL I) : H_X2_work 86 I J ∧ KP 124 127 I (FI_X2_work 86 I J) := by
  have k : KP 124 127 I (F_X2_work_l2 86 I J I) := by
    unfold F_X2_work_l2
    refine itN_inv (P := fun s => KP 124 127 I s) (KP.rf I) (fun i s _ hs => ?_)
    unfold B_X2_work_l2 F_X2_work_l10
    refine itN_inv (P := fun s => KP 124 127 I s) hs (fun i2 s2 _ hs2 => ?_)
    unfold B_X2_work_l10 S3_X2_work
    exact hs2.p (by decide)
  have k1 : KP 124 127 I (u2 (fillF (F_X2_work_l2 86 I J I) 125 0 6) 124 1 1000000) := (k.f (by decide)).u (by decide)
  have q := choose_C 8 0 rfl (by decide) 0 0 _ J (hC.kp k1 (by decide))
  refine ⟨?_, ?_⟩
  · unfold H_X2_work
    exact q.1
  · unfold FI_X2_work S1_X2_work
    exact k1.tr q.2
theorem least_C {a0 : Int32} {I : SI} {J : SJ} (hC : CL I) : H_X11_least a0 I J ∧ KO I (FI_X11_least a0 I J) := by
  have w := work_C (J := J) hC
  refine ⟨?_, ?_⟩
  · unfold H_X11_least
    exact ⟨fun _ _ _ => w.1, fun _ _ _ _ => w.1⟩
  · unfold FI_X11_least
    repeat' split
    all_goals first
      | exact KO.rf I
      | exact KO.o (w.2.w (by decide) (by decide))
/-- what was seen -/
def CK (I : SI) : Prop := inR (I 116 0) 25 ∧ (I 116 1 = -1 ∨ inR (I 116 1) 25) ∧ ∀ b, b < 24 → inR (I 117 b) 41
theorem CK.kp {p q : Nat} {I I1 : SI} (h : CK I) (k : KP p q I I1) (hp : 117 < p ∨ q < 116) : CK I1 := ⟨by rw [k 116 0 (by omega)]; exact h.1, by rw [k 116 1 (by omega)]; exact h.2.1, fun b z => by rw [k 117 b (by omega)]; exact h.2.2 b z⟩
theorem kc_in {I : SI} {J : SJ} (h : CK I) : inR (F_X6_knownCount I J) 25 := by
  unfold F_X6_knownCount
  split
  · rename_i c
    rcases h.2.1 with e | e
    · rw [e] at c; exact absurd c (by decide)
    · exact e
  · exact h.1
theorem dn {e : Int32} {N : Nat} (hN : N < 800) (h : inR (e + 1) N) (h2 : ¬ e < 0) : inR (e + (-1) + 1) N ∧ (e + (-1) + 1).toNatClampNeg < (e + 1).toNatClampNeg := by
  have e1 : e + (-1) + 1 = e := by rw [Int32.add_assoc, show (-1 : Int32) + 1 = 0 from by decide, Int32.add_zero]
  obtain ⟨j, hj, q⟩ := h.n
  have e2 : e = nI j - 1 := by rw [← q, Int32.add_sub_cancel]
  rw [e1, q]
  cases j with
  | zero => exact absurd (show e < 0 by rw [e2]; decide) h2
  | succ j =>
    have e3 : e = nI j := e2.trans (pk_sub (b := 1) (by omega))
    rw [e3, nI_clamp (by omega), nI_clamp (by omega)]
    exact ⟨inR_nI (by omega) (by omega), by omega⟩
theorem known_C {I : SI} {J : SJ} (h : CK I) : H_X6_knownOnes I J := by
  have k0 : F_X6_knownCount I J - 1 + 1 = F_X6_knownCount I J := Int32.sub_add_cancel _ _
  have kc := kc_in (J := J) h
  have L := whl (f := B_X6_knownOnes_w11 I J) (s0 := ((0 : Int32), (0 : Int32), F_X6_knownCount I J - 1)) (fun s => inR (s.2.2 + 1) 25) (fun _ => True) (fun s => (s.2.2 + 1).toNatClampNeg) (by show inR (F_X6_knownCount I J - 1 + 1) 25; rw [k0]; exact kc) (by show (F_X6_knownCount I J - 1 + 1).toNatClampNeg < 800; rw [k0]; exact Nat.lt_trans kc.2 (by decide)) (fun s s' hs hf => by
    obtain ⟨c, h2⟩ := inl_of hf
    have q : s'.2.2 = s.2.2 + (-1) := by
      repeat' split at h2
      all_goals cases h2
      all_goals rfl
    show inR (s'.2.2 + 1) 25 ∧ (s'.2.2 + 1).toNatClampNeg < (s.2.2 + 1).toNatClampNeg
    rw [q]
    exact dn (by decide) hs c) (fun _ _ _ _ => trivial)
  unfold H_X6_knownOnes
  exact L.1
theorem last_in {a0 : Int32} {I : SI} {J : SJ} (h : CK I) : inR (F_X6_lastDay a0 I J) 41 := by
  unfold F_X6_lastDay F_X6_lastDay_l4
  refine itN_inv (P := fun s : Int32 => inR s 41) cn_0 (fun i s _ hs => ?_)
  unfold B_X6_lastDay_l4
  split
  · exact hs
  · unfold maxI
    split
    · exact atF_in (by decide) (by decide) h.2.2
    · exact hs
theorem cn_le {e z : Int32} {N : Nat} (hN : N < 800) (he : inR e (N + 1)) (hz : inR z N) (h : ¬ z < e) : inR e N := by
  obtain ⟨i, hi, e1⟩ := he.n
  obtain ⟨j, hj, e2⟩ := hz.n
  rw [e1]
  refine inR_nI ?_ (by omega)
  by_cases q : j < i
  · exact absurd (show z < e by rw [e1, e2]; exact nI_lt q (by omega)) h
  · omega
theorem struck_C {a0 : Int32} {I : SI} {J : SJ} (hC : CS I) (hK : CK I) : H_X11_struckHow a0 I J ∧ KP 104 115 I (FI_X11_struckHow a0 I J) := by
  have lst : inR (F_X6_lastDay (F_X6_knownOnes I J) I J) 41 := last_in hK
  have L := fun (i : Nat) (s : Int32 × SI × SJ) (hs : KP 104 115 I s.2.1) => whl (f := B_X11_struckHow_w93 a0 I J i s) (s0 := ((1 : Int32), (1 : Int32), putF (S1_X11_struckHow a0 I J i s) 114 6 a0 ((nI i) * 10), S2_X11_struckHow a0 I J i s)) (fun t => inR t.2.1 42 ∧ KP 104 115 I t.2.2.1) (fun r => KP 104 115 I r.2.2.1) (fun t => 42 - t.2.1.toNatClampNeg) ⟨(show inR (1 : Int32) 42 from ⟨rfl, by decide⟩), by
      have k : KP 104 115 I (S1_X11_struckHow a0 I J i s) := by
        unfold S1_X11_struckHow
        exact (hs.tr begin_K).tr ((open_K (k := 105)).w (by decide) (by decide))
      exact k.p (by decide)⟩ (by show 42 - _ < 800; omega) (fun t t' ht hf => by
      obtain ⟨c, h2⟩ := inl_of hf
      obtain ⟨_, h3⟩ := inl_of h2
      cases h3
      have z : inR t.2.1 41 := cn_le (by decide) ht.1 lst c
      have k := cn_s (N := 41) (by decide) z
      have := z.2
      exact ⟨⟨k.1, ht.2.tr (pass_C (hC.kp ht.2 (by decide))).2⟩, by show 42 - (t.2.1 + 1).toNatClampNeg < 42 - t.2.1.toNatClampNeg; rw [k.2]; omega⟩) (fun t r ht hf => by
      unfold B_X11_struckHow_w93 at hf
      repeat' split at hf
      all_goals cases hf
      all_goals exact ht.2)
  have N : ∀ n, KP 104 115 I (itN (B_X11_struckHow_l39 a0 I J) n (0, I, J)).2.1 := fun n => itN_inv (P := fun s : Int32 × SI × SJ => KP 104 115 I s.2.1) (KP.rf I) (fun i s _ hs => by
    have k : KP 104 115 I (S3_X11_struckHow a0 I J i s) := by
      unfold S3_X11_struckHow F_X11_struckHow_w93
      exact (L i s hs).2.2 _
    unfold B_X11_struckHow_l39
    split
    · exact k
    · exact k)
  have D : ∀ (i : Nat) (s : Int32 × SI × SJ), s = itN (B_X11_struckHow_l39 a0 I J) i (0, I, J) → KP 104 115 I s.2.1 := fun i s e => e ▸ N i
  refine ⟨?_, ?_⟩
  · unfold H_X11_struckHow
    exact ⟨fun _ => known_C hK, fun _ i s _ e => (L i s (D i s e)).1, fun _ i s _ e n t hn _ _ => (pass_C (hC.kp ((L i s (D i s e)).2.1 n t hn).2 (by decide))).1⟩
  · unfold FI_X11_struckHow F_X11_struckHow_l39
    split
    · exact KP.rf I
    · exact N _
theorem chance_C {a0 a1 a2 : Int32} {I : SI} {J : SJ} (hC : CS I) : H_X11_chance a0 a1 a2 I J ∧ KP 104 115 I (FI_X11_chance a0 a1 a2 I J) := by
  have g : ∀ (s : Int64 × Int32 × SI × SJ), KP 104 115 I s.2.2.1 → KP 104 115 I (u2 (FI_X0_begin 86 s.2.2.1 s.2.2.2) 104 2 1) := fun s hs => (hs.tr begin_K).u (by decide)
  have N : ∀ n, KP 104 115 I (itN (B_X11_chance_l37 a0 a1 a2 I J) n (a0.toInt64, 0, I, J)).2.2.1 := fun n => itN_inv (P := fun s : Int64 × Int32 × SI × SJ => KP 104 115 I s.2.2.1) (KP.rf I) (fun i s _ hs => by
    have k : KP 104 115 I (S1_X11_chance a0 a1 a2 I J i s) := by
      unfold S1_X11_chance
      exact (g s hs).tr (pass_C (hC.kp (g s hs) (by decide))).2
    unfold B_X11_chance_l37
    split
    · exact k
    · exact k)
  refine ⟨?_, ?_⟩
  · unfold H_X11_chance
    exact fun _ _ _ _ _ i s _ e => (pass_C (hC.kp (g s (e ▸ N i)) (by decide))).1
  · unfold FI_X11_chance F_X11_chance_l37
    repeat' split
    all_goals first
      | exact KP.rf I
      | exact N _
theorem bribe_C {a0 : Int32} {I : SI} {J : SJ} (hC : CS I) : H_X11_bribe a0 I J ∧ KP 104 115 I (FI_X11_bribe a0 I J) := by
  have g : ∀ (i : Nat) (s : SI × SJ), KP 104 115 I s.1 → KP 104 115 I (putF (FI_X0_begin 86 s.1 s.2) 112 4 a0 (nI i)) := fun i s hs => (hs.tr begin_K).p (by decide)
  have k : ∀ (i : Nat) (s : SI × SJ), KP 104 115 I s.1 → KP 104 115 I (S1_X11_bribe a0 I J i s) := fun i s hs => by
    unfold S1_X11_bribe
    exact (g i s hs).tr (pass_C (hC.kp (g i s hs) (by decide))).2
  have L := itE_inv (f := B_X11_bribe_l49_4 a0 I J) (s0 := (I, J)) (fun s => KP 104 115 I s.1) (fun r => KP 104 115 I r.2.1) (KP.rf I) (fun i s s' hs h => by
    unfold B_X11_bribe_l49_4 at h
    split at h
    · cases h
    · cases h; exact k i s hs) (fun i s r hs h => by
    unfold B_X11_bribe_l49_4 at h
    split at h
    · cases h; exact k i s hs
    · cases h)
  refine ⟨?_, ?_⟩
  · unfold H_X11_bribe
    exact fun _ i s _ e => (pass_C (hC.kp (g i s (L.1 _ _ e)) (by decide))).1
  · unfold FI_X11_bribe
    split
    · exact KP.rf I
    · cases q : F_X11_bribe_l49_4 a0 I J (I, J) with
      | inl s => exact L.1 _ _ q
      | inr r => exact L.2 _ _ q
theorem agrees_C {I : SI} {J : SJ} (hC : CS I) : H_X11_agrees I J ∧ KP 104 115 I (FI_X11_agrees I J) := by
  have L := itE_inv (f := B_X11_agrees_l13_4 I J) (s0 := (FI_X0_begin 86 I J, FJ_X0_begin 86 I J)) (fun s => KP 104 115 I s.1) (fun r => KP 104 115 I r.2.1) begin_K (fun i s s' hs h => by
    unfold B_X11_agrees_l13_4 at h
    repeat' split at h
    all_goals cases h
    all_goals exact hs.tr (pass_C (hC.kp hs (by decide))).2) (fun i s r hs h => by
    unfold B_X11_agrees_l13_4 at h
    repeat' split at h
    all_goals cases h
    all_goals exact hs)
  refine ⟨?_, ?_⟩
  · unfold H_X11_agrees
    exact ⟨fun i s _ e _ => (pass_C (hC.kp (L.1 _ _ e) (by decide))).1, fun i s _ e _ _ => (pass_C (hC.kp (L.1 _ _ e) (by decide))).1⟩
  · unfold FI_X11_agrees
    cases q : F_X11_agrees_l13_4 I J (FI_X0_begin 86 I J, FJ_X0_begin 86 I J) with
    | inl s => exact L.1 _ _ q
    | inr r => exact L.2 _ _ q
theorem ahead_C {a0 a1 : Int32} {I : SI} {J : SJ} (hC : CS I) : H_X11_ahead a0 a1 I J ∧ KP 104 115 I (FI_X11_ahead a0 a1 I J) := by
  have k : KP 104 115 I (FI_X0_begin 86 I J) := begin_K
  have q := pass_C (a0 := a0) (J := FJ_X0_begin 86 I J) (hC.kp k (by decide))
  refine ⟨?_, ?_⟩
  · unfold H_X11_ahead
    exact fun _ _ _ _ => q.1
  · unfold FI_X11_ahead
    repeat' split
    all_goals first
      | exact KP.rf I
      | exact k.tr q.2
theorem without_C {a0 : Int32} {I : SI} {J : SJ} (hC : CS I) : H_X11_without a0 I J ∧ KP 104 115 I (FI_X11_without a0 I J) := by
  have k : KP 104 115 I (u2 (FI_X0_begin 86 I J) 104 2 3) := begin_K.u (by decide)
  have q := pass_C (a0 := a0) (J := FJ_X0_begin 86 I J) (hC.kp k (by decide))
  refine ⟨?_, ?_⟩
  · unfold H_X11_without
    exact fun _ _ => q.1
  · unfold FI_X11_without
    repeat' split
    all_goals first
      | exact KP.rf I
      | exact k.tr q.2
theorem tried_C {a0 a1 a2 : Int32} {I : SI} {J : SJ} (hC : CS I) : H_X11_tried a0 a1 a2 I J ∧ KP 104 115 I (FI_X11_tried a0 a1 a2 I J) := by
  have o := otherwise_C (a0 := a0) (a1 := a1) (I := FI_X0_begin 86 I J) (J := FJ_X0_begin 86 I J)
  have k : KP 104 115 I (FI_X0_otherwise a0 a1 (FI_X0_begin 86 I J) (FJ_X0_begin 86 I J)) := begin_K.tr o.2
  have q := pass_C (a0 := a2) (J := FJ_X0_begin 86 I J) (hC.kp k (by decide))
  refine ⟨?_, ?_⟩
  · unfold H_X11_tried
    exact ⟨fun _ _ _ => o.1, fun _ _ _ => q.1⟩
  · unfold FI_X11_tried S1_X11_tried
    repeat' split
    all_goals first
      | exact KP.rf I
      | exact k.tr q.2
theorem go_C {a0 : Int32} {I : SI} {J : SJ} (hC : CS I) : H_X11_go a0 I J ∧ KP 86 120 I (FI_X11_go a0 I J) ∧ FI_X11_go a0 I J 116 = I 116 ∧ FI_X11_go a0 I J 117 = I 117 := by
  have k : KP 104 115 I (u2 (FI_X0_begin 86 I J) 104 2 1) := begin_K.u (by decide)
  have q := pass_C (a0 := a0) (J := FJ_X0_begin 86 I J) (hC.kp k (by decide))
  refine ⟨?_, ?_⟩
  · unfold H_X11_go
    exact fun _ _ _ _ => q.1
  · have t : KP 86 115 I (S1_X11_go a0 I J) := by
      unfold S1_X11_go
      exact ((k.tr q.2).w (by decide) (by decide)).tr ((copy_K (k := 86)).w (by decide) (by decide))
    unfold FI_X11_go FI_X10_clear
    repeat' split
    all_goals first
      | exact ⟨KP.rf I, rfl, rfl⟩
      | exact ⟨(t.w (by decide) (by decide)).u (by decide), funext fun b => (u2_n _ _ (by omega)).trans (t 116 b (by omega)), funext fun b => (u2_n _ _ (by omega)).trans (t 117 b (by omega))⟩
theorem law_C {a0 a1 a2 : Int32} {I : SI} {J : SJ} : H_X11_law a0 a1 a2 I J ∧ KP 104 115 I (FI_X11_law a0 a1 a2 I J) := by
  have k : KP 104 115 I (FI_X0_begin 86 I J) := begin_K
  refine ⟨?_, ?_⟩
  · unfold H_X11_law
    refine ⟨fun _ => ?_, fun _ _ _ => yield_C, fun _ _ _ _ => again_C⟩
    unfold H_X11_noticeNow
    exact fun _ _ _ => notice_C
  · unfold FI_X11_law
    repeat' split
    all_goals exact k
theorem say_C {a0 a1 : Int32} {I : SI} {J : SJ} : F_X11_sayFromNowOn a0 a1 I J = 0 ∨ F_X11_sayFromNowOn a0 a1 I J = 1 := by
  unfold F_X11_sayFromNowOn
  exact or01
theorem tell_C {a0 a1 : Int32} {I : SI} {J : SJ} : H_X11_tell a0 a1 I J := by
  unfold H_X11_tell
  exact fun _ _ _ => say_C
theorem nI_nz {n : Nat} (h : 0 < n) (hn : n < 800) : ¬ nI n = 0 := fun e => by
  have k := congrArg Int32.toNatClampNeg e
  rw [nI_clamp (by omega)] at k
  exact absurd (show n = 0 from k) (by omega)
theorem part_C {a0 a1 : Int32} {I : SI} {J : SJ} : H_X11_commonPart a0 a1 I J := by
  unfold H_X11_commonPart
  exact ⟨fun i _ h _ => nI_nz (by omega) (by omega), fun i _ h _ _ => nI_nz (by omega) (by omega)⟩
theorem there_C {a0 a1 : Int32} {I : SI} {J : SJ} : H_X11_there a0 a1 I J := by
  unfold H_X11_there
  exact ⟨fun _ _ _ _ => part_C, fun _ _ _ _ _ _ _ _ h => h⟩
