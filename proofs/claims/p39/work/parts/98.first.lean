/-! the start: rows that keep nothing -/
theorem x1_K {k : Nat} {I0 I : SI} {J : SJ} {R : SR} (h : KP 2 129 I0 I) (hk : 2 ≤ k ∧ k ≤ 129) : KP 2 129 I0 (KI_X1_init k I J R) := by
  unfold KI_X1_init
  exact (h.u hk).u hk
theorem x7_K {k : Nat} {a : Int32} {I0 I : SI} {J : SJ} {R : SR} (h : KP 2 129 I0 I) (hk : 2 ≤ k ∧ k ≤ 129) : KP 2 129 I0 (KI_X7_init k a I J R) := by
  unfold KI_X7_init
  exact (h.u hk).u hk
theorem x5_K {k : Nat} {I0 I : SI} {J : SJ} {R : SR} (h : KP 2 129 I0 I) (hk : 2 ≤ k ∧ k ≤ 129) : KP 2 129 I0 (KI_X5_init k I J R) := by
  unfold KI_X5_init
  exact (((((h.u hk).u hk).u hk).u hk).u hk).u hk
theorem x9_K {k : Nat} {I0 I : SI} {J : SJ} {R : SR} (h : KP 2 129 I0 I) (hk : 2 ≤ k ∧ k ≤ 90) : KP 2 129 I0 (KI_X9_init k I J R) := by
  have h1 : KP 2 129 I0 (S1_X9_init k I J R) := x7_K (x7_K h (by omega)) (by omega)
  have h4 : KP 2 129 I0 (S4_X9_init k I J R) := x7_K h1 (by omega)
  have h7 : KP 2 129 I0 (S7_X9_init k I J R) := x7_K h4 (by omega)
  have h10 : KP 2 129 I0 (S10_X9_init k I J R) := x7_K h7 (by omega)
  have h13 : KP 2 129 I0 (S13_X9_init k I J R) := ((((h10.u (by omega)).u (by omega)).u (by omega)).u (by omega)).u (by omega)
  have h14 : KP 2 129 I0 (S14_X9_init k I J R) := x1_K (h13.u (by omega)) (by omega)
  have h17 : KP 2 129 I0 (S17_X9_init k I J R) := x1_K h14 (by omega)
  have h20 : KP 2 129 I0 (S20_X9_init k I J R) := x1_K h17 (by omega)
  exact h20.f (by omega)
theorem x8_K {I0 I : SI} {J : SJ} {R : SR} (h : KP 2 129 I0 I) : KP 2 129 I0 (KI_X8_init I J R) := by
  have h1 : KP 2 129 I0 (S1_X8_init I J R) := (((((h.u (by omega)).u (by omega)).u (by omega)).u (by omega)).u (by omega)).u (by omega)
  unfold KI_X8_init FI_X8_init F_X8_init_l51
  refine itN_inv (P := fun s => KP 2 129 I0 s) h1 (fun i s _ hs => ?_)
  unfold B_X8_init_l51
  split
  · exact hs.p (by omega)
  · exact hs.p (by omega)
theorem i1_K : ∀ b, S22_X11_init Z0 ZJ ZR 1 b = 0 := by
  have h9 : KP 2 129 (u2 Z0 0 1 0) (KI_X9_init 2 (u2 Z0 0 1 0) ZJ (u2 ZR 0 0 (some 1))) := x9_K (KP.rf _) (by omega)
  have h1 : KP 2 129 (u2 Z0 0 1 0) (S1_X11_init Z0 ZJ ZR) := ((x8_K (((x9_K h9 (by omega)).u (by omega)).u (by omega))).u (by omega)).u (by omega)
  have h4 : KP 2 129 (u2 Z0 0 1 0) (S4_X11_init Z0 ZJ ZR) := x5_K h1 (by omega)
  have h7 : KP 2 129 (u2 Z0 0 1 0) (S7_X11_init Z0 ZJ ZR) := x5_K h4 (by omega)
  have h10 : KP 2 129 (u2 (S7_X11_init Z0 ZJ ZR) 0 6 0) (S10_X11_init Z0 ZJ ZR) := ((((x5_K (KP.rf _) (by omega)).u (by omega)).u (by omega)).u (by omega)).u (by omega)
  have h13 : KP 2 129 (u2 (S7_X11_init Z0 ZJ ZR) 0 6 0) (S13_X11_init Z0 ZJ ZR) := (h10.u (by omega)).u (by omega)
  have h16 : KP 2 129 (u2 (S7_X11_init Z0 ZJ ZR) 0 6 0) (S16_X11_init Z0 ZJ ZR) := h13.u (by omega)
  have h19 : KP 2 129 (u2 (S7_X11_init Z0 ZJ ZR) 0 6 0) (S19_X11_init Z0 ZJ ZR) := h16.u (by omega)
  have h22 : KP 2 129 (u2 (S7_X11_init Z0 ZJ ZR) 0 6 0) (S22_X11_init Z0 ZJ ZR) := ((h19.u (by omega)).u (by omega)).u (by omega)
  exact fun b => (h22 1 b (by omega)).trans ((u2_n _ _ (by omega)).trans ((h7 1 b (by omega)).trans (u2_n _ _ (by omega))))
theorem a0_K : KP 130 132 I1 A0 := by
  unfold A0 S17_X12_init S4_X12_init S3_X12_init S2_X12_init S1_X12_init
  exact ((((((((((((((((((((((((KP.rf _).u (by omega)).u (by omega)).u (by omega)).u (by omega)).u (by omega)).u (by omega)).u (by omega)).u (by omega)).u (by omega)).u (by omega)).u (by omega)).u (by omega)).u (by omega)).u (by omega)).u (by omega)).u (by omega)).u (by omega)).u (by omega)).u (by omega)).u (by omega)).u (by omega)).u (by omega)).u (by omega)).u (by omega)
theorem a0_1 : ∀ b, A0 1 b = 0 := fun b => by
  rw [a0_K 1 b (by omega)]
  have e : I1 1 b = (if decide (1 < nK) = true then FI_X5_open 86 2 (S22_X11_init Z0 ZJ ZR) (S23_X11_init Z0 ZJ ZR) 1 else S22_X11_init Z0 ZJ ZR 1) b := rfl
  rw [e]
  split
  · exact ((open_v (k := 86) (A := S22_X11_init Z0 ZJ ZR) (J := S23_X11_init Z0 ZJ ZR) (by omega)).2.2.2.2.2.2.1 1 b (by omega)).trans (i1_K b)
  · exact i1_K b
theorem b0_1 : ∀ b, B0 131 b = 0 := fun b => by
  have e : B0 131 b = A0 131 b := (bg (I := A0) J1 trivial).2 131 b (by omega) (by omega)
  have z : A0 131 b = I1 131 b := by
    unfold A0 S17_X12_init S4_X12_init S3_X12_init S2_X12_init S1_X12_init
    repeat rw [u2_n _ _ (show ¬ ((131 : Nat) = _ ∧ _) by omega)]
  exact e.trans (z.trans (zr_1 131 b (by omega)).1)
