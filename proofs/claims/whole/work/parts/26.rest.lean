/-! what stands on the recursions, by program -/
def F_X12_least (a0 : Int32) (I : SI) (J : SJ) : Int32 := if a0 < 0 then -1 else (if a0 ≤ 6 then (if a0 = 6 then ((RG_sayings 8 0 (0 : Int32) (u2 (u2 I 130 0 0) 130 62 (-1)) J).1) 130 62 else (if (((RG_sayings 8 0 (0 : Int32) (u2 (u2 I 130 0 0) 130 62 (-1)) J).1) 132 0) ≤ a0 then -2 else ((RG_sayings 8 0 (0 : Int32) (u2 (u2 I 130 0 0) 130 62 (-1)) J).1) 169 a0.toNatClampNeg)) else -1)
def FI_X12_least (a0 : Int32) (I : SI) (J : SJ) : SI := if a0 < 0 then u2 I 130 0 0 else (if a0 ≤ 6 then (if a0 = 6 then (RG_sayings 8 0 (0 : Int32) (u2 (u2 I 130 0 0) 130 62 (-1)) J).1 else (if (((RG_sayings 8 0 (0 : Int32) (u2 (u2 I 130 0 0) 130 62 (-1)) J).1) 132 0) ≤ a0 then (RG_sayings 8 0 (0 : Int32) (u2 (u2 I 130 0 0) 130 62 (-1)) J).1 else (RG_sayings 8 0 (0 : Int32) (u2 (u2 I 130 0 0) 130 62 (-1)) J).1)) else u2 I 130 0 0)
def FJ_X12_least (a0 : Int32) (I : SI) (J : SJ) : SJ := if a0 < 0 then J else (if a0 ≤ 6 then (if a0 = 6 then (RG_sayings 8 0 (0 : Int32) (u2 (u2 I 130 0 0) 130 62 (-1)) J).2 else (if (((RG_sayings 8 0 (0 : Int32) (u2 (u2 I 130 0 0) 130 62 (-1)) J).1) 132 0) ≤ a0 then (RG_sayings 8 0 (0 : Int32) (u2 (u2 I 130 0 0) 130 62 (-1)) J).2 else (RG_sayings 8 0 (0 : Int32) (u2 (u2 I 130 0 0) 130 62 (-1)) J).2)) else J)
def H_X12_least (a0 : Int32) (I : SI) (J : SJ) : Prop := (¬ (a0 < 0) → a0 ≤ 6 → HG_sayings 8 0 (0 : Int32) (u2 (u2 I 130 0 0) 130 62 (-1)) J) ∧ (¬ (a0 < 0) → a0 ≤ 6 → ¬ (a0 = 6) → ¬ ((((RG_sayings 8 0 (0 : Int32) (u2 (u2 I 130 0 0) 130 62 (-1)) J).1) 132 0) ≤ a0) → inR a0 6)
set_option maxHeartbeats 1000000 in
set_option maxRecDepth 40000 in
theorem c_X12_least {I : SI} {J : SJ} {R : SR} {n g : Nat} (ro : RM R) (hnn : nM ≤ n) (a0 : Int32)  (hp : H_X12_least a0 I J) : MM 11 0 0 mX12_least [.ref 130, .int a0] I J R n g (Pd (some (.int (F_X12_least a0 I J))) (FI_X12_least a0 I J) (FJ_X12_least a0 I J) R n g) := by
  refine MM.of (by decide) (Nat.le_of_ble_eq_true rfl) fun K ok fin => ?_
  show WK K 0 0 0 [(0, .ref 130), (1, .int a0)] [] I J R n g
  obtain ⟨hp1, hp2⟩ := hp
  refine w_aload_n ok dX12_least_0 0 rfl ?_
  refine w_iconst (v := 0) ok dX12_least_1 (by decide) ?_
  refine w_putI ok dX12_least_2 (fwX12_169 rfl) (congrArg Prod.fst s_130) rfl (ltM hnn (by decide)) ?_
  refine w_iload_n ok dX12_least_5 1 rfl ?_
  refine w_if_lt (tgt := 15) ok dX12_least_6 (by decide) (fun c1 => ?_) (fun c1 => ?_)
  · skip
    refine w_iconst (v := (-1)) ok dX12_least_15 (by decide) ?_
    exact w_iret ok fin dX12_least_16 rfl (by unfold F_X12_least FI_X12_least FJ_X12_least; simp only [if_pos c1]; exact Pd.i)
  · skip
    refine w_iload_n ok dX12_least_9 1 rfl ?_
    refine w_bipush (v := 6) ok dX12_least_10 (by decide) ?_
    refine w_icmp_le (tgt := 17) ok dX12_least_12 (by decide) (fun c2 => ?_) (fun c2 => ?_)
    · skip
      refine w_aload_n ok dX12_least_17 0 rfl ?_
      refine w_iconst (v := (-1)) ok dX12_least_18 (by decide) ?_
      refine w_putI ok dX12_least_19 (fwX12_488 rfl) (congrArg Prod.fst s_130) rfl (ltM hnn (by decide)) ?_
      refine w_aload_n ok dX12_least_22 0 rfl ?_
      refine w_iconst (v := 0) ok dX12_least_23 (by decide) ?_
      refine w_cV (As := [.int 0]) ok dX12_least_24 iX12_sayings (lX12_482 rfl) (rcv cls12 (congrArg Prod.fst s_130)) (ltM hnn (by decide)) ((cr_sayings ro hnn (dd := 2) (by decide) 8) (0 : Int32) (u2 (u2 I 130 0 0) 130 62 (-1)) J (hp1 c1 c2)) (by decide) rfl (Nat.le_of_ble_eq_true rfl) ?_
      refine w_iload_n ok dX12_least_27 1 rfl ?_
      refine w_bipush (v := 6) ok dX12_least_28 (by decide) ?_
      refine w_icmp_ne (tgt := 40) ok dX12_least_30 (by decide) (fun c3 => ?_) (fun c3 => ?_)
      · skip
        refine w_iload_n ok dX12_least_40 1 rfl ?_
        refine w_aload_n ok dX12_least_41 0 rfl ?_
        refine w_getR ok dX12_least_42 (fX12_13 rfl) (congrArg Prod.fst s_130) rfl (r_130_3 ro) (ltM hnn (by decide)) ?_
        refine w_iconst (v := 0) ok dX12_least_45 (by decide) ?_
        refine x_iald (q := 0) ok dX12_least_46 s_132 (by decide) (by decide) (ltM hnn (by decide)) ?_
        refine w_icmp_ge (tgt := 59) ok dX12_least_47 (by decide) (fun c4 => ?_) (fun c4 => ?_)
        · skip
          refine w_bipush (v := (-2)) ok dX12_least_59 (by decide) ?_
          exact w_iret ok fin dX12_least_61 rfl (by unfold F_X12_least FI_X12_least FJ_X12_least; simp only [if_neg c1]; simp only [if_pos c2]; simp only [if_neg c3]; simp only [if_pos c4]; exact Pd.i)
        · skip
          refine w_aload_n ok dX12_least_50 0 rfl ?_
          refine w_getR ok dX12_least_51 (fX12_135 rfl) (congrArg Prod.fst s_130) rfl (r_130_61 ro) (ltM hnn (by decide)) ?_
          refine w_iload_n ok dX12_least_54 1 rfl ?_
          refine x_iald (q := a0.toNatClampNeg) ok dX12_least_55 s_169 (hp2 c1 c2 c3 c4) (by decide) (ltM hnn (by decide)) ?_
          refine w_goto (tgt := 61) ok dX12_least_56 (by decide) ?_
          exact w_iret ok fin dX12_least_61 rfl (by unfold F_X12_least FI_X12_least FJ_X12_least; simp only [if_neg c1]; simp only [if_pos c2]; simp only [if_neg c3]; simp only [if_neg c4]; exact Pd.i)
      · skip
        refine w_aload_n ok dX12_least_33 0 rfl ?_
        refine w_getI ok dX12_least_34 (fX12_488 rfl) (congrArg Prod.fst s_130) rfl (ltM hnn (by decide)) ?_
        refine w_goto (tgt := 61) ok dX12_least_37 (by decide) ?_
        exact w_iret ok fin dX12_least_61 rfl (by unfold F_X12_least FI_X12_least FJ_X12_least; simp only [if_neg c1]; simp only [if_pos c2]; simp only [if_pos c3]; exact Pd.i)
    · skip
      refine w_iconst (v := (-1)) ok dX12_least_15 (by decide) ?_
      exact w_iret ok fin dX12_least_16 rfl (by unfold F_X12_least FI_X12_least FJ_X12_least; simp only [if_neg c1]; simp only [if_neg c2]; exact Pd.i)
def S2_X12_order (a0 : Int32) (I : SI) (J : SJ) (s23 : Int32 × SI) : SI := u2 (u2 s23.2 170 (s23.2 130 66).toNatClampNeg s23.1) 130 66 (((u2 s23.2 170 (s23.2 130 66).toNatClampNeg s23.1) 130 66) + 1)
def B_X12_order_w23 (a0 : Int32) (I : SI) (J : SJ) (s23 : Int32 × SI) : (Int32 × SI) ⊕ (Int32 × SI) := if (s23.2 132 1) ≤ s23.1 then .inr (s23.1, s23.2) else (if (4 : Int32) ≤ (s23.2 130 66) then .inr (s23.1, s23.2) else (if (F_X12_isDone 0 s23.1 s23.2 J) = 0 then .inl ((s23.1 + 1), (S2_X12_order a0 I J s23)) else .inl ((s23.1 + 1), s23.2)))
def F_X12_order_w23 (a0 : Int32) (I : SI) (J : SJ) (s0 : Int32 × SI) : Int32 × SI := (itW (B_X12_order_w23 a0 I J) 800 s0).getD s0
def S1_X12_order (a0 : Int32) (I : SI) (J : SJ) : SI := u2 ((F_X12_order_w23 a0 I J (0, (u2 (u2 I 130 0 0) 130 66 0))).2) 130 67 (-1)
def F_X12_order (a0 : Int32) (I : SI) (J : SJ) : Int32 := if a0 < 0 then -1 else (if a0 ≤ 4 then (if a0 = 4 then ((RG_rows 6 0 (0 : Int32) (0 : Int32) (S1_X12_order a0 I J) J).1) 130 67 else (if (((RG_rows 6 0 (0 : Int32) (0 : Int32) (S1_X12_order a0 I J) J).1) 130 66) ≤ a0 then -2 else ((RG_rows 6 0 (0 : Int32) (0 : Int32) (S1_X12_order a0 I J) J).1) 172 a0.toNatClampNeg)) else -1)
def FI_X12_order (a0 : Int32) (I : SI) (J : SJ) : SI := if a0 < 0 then u2 I 130 0 0 else (if a0 ≤ 4 then (if a0 = 4 then (RG_rows 6 0 (0 : Int32) (0 : Int32) (S1_X12_order a0 I J) J).1 else (if (((RG_rows 6 0 (0 : Int32) (0 : Int32) (S1_X12_order a0 I J) J).1) 130 66) ≤ a0 then (RG_rows 6 0 (0 : Int32) (0 : Int32) (S1_X12_order a0 I J) J).1 else (RG_rows 6 0 (0 : Int32) (0 : Int32) (S1_X12_order a0 I J) J).1)) else u2 I 130 0 0)
def FJ_X12_order (a0 : Int32) (I : SI) (J : SJ) : SJ := if a0 < 0 then J else (if a0 ≤ 4 then (if a0 = 4 then (RG_rows 6 0 (0 : Int32) (0 : Int32) (S1_X12_order a0 I J) J).2 else (if (((RG_rows 6 0 (0 : Int32) (0 : Int32) (S1_X12_order a0 I J) J).1) 130 66) ≤ a0 then (RG_rows 6 0 (0 : Int32) (0 : Int32) (S1_X12_order a0 I J) J).2 else (RG_rows 6 0 (0 : Int32) (0 : Int32) (S1_X12_order a0 I J) J).2)) else J)
def H_X12_order (a0 : Int32) (I : SI) (J : SJ) : Prop := (¬ (a0 < 0) → a0 ≤ 4 → (itW (B_X12_order_w23 a0 I J) 800 (0, (u2 (u2 I 130 0 0) 130 66 0))).isSome = true) ∧ (¬ (a0 < 0) → a0 ≤ 4 → HG_rows 6 0 (0 : Int32) (0 : Int32) (S1_X12_order a0 I J) J) ∧ (¬ (a0 < 0) → a0 ≤ 4 → ¬ (a0 = 4) → ¬ ((((RG_rows 6 0 (0 : Int32) (0 : Int32) (S1_X12_order a0 I J) J).1) 130 66) ≤ a0) → inR a0 4) ∧ (¬ (a0 < 0) → a0 ≤ 4 → ∀ (n23 : Nat) (s23 : Int32 × SI), wN (B_X12_order_w23 a0 I J) n23 (0, (u2 (u2 I 130 0 0) 130 66 0)) = some s23 → ¬ ((s23.2 132 1) ≤ s23.1) → ¬ ((4 : Int32) ≤ (s23.2 130 66)) → H_X12_isDone 0 s23.1 s23.2 J) ∧ (¬ (a0 < 0) → a0 ≤ 4 → ∀ (n23 : Nat) (s23 : Int32 × SI), wN (B_X12_order_w23 a0 I J) n23 (0, (u2 (u2 I 130 0 0) 130 66 0)) = some s23 → ¬ ((s23.2 132 1) ≤ s23.1) → ¬ ((4 : Int32) ≤ (s23.2 130 66)) → (F_X12_isDone 0 s23.1 s23.2 J) = 0 → inR (s23.2 130 66) 4)
set_option maxHeartbeats 1170000 in
set_option maxRecDepth 40000 in
theorem c_X12_order {I : SI} {J : SJ} {R : SR} {n g : Nat} (ro : RM R) (hnn : nM ≤ n) (a0 : Int32)  (hp : H_X12_order a0 I J) : MM 15 0 0 mX12_order [.ref 130, .int a0] I J R n g (Pd (some (.int (F_X12_order a0 I J))) (FI_X12_order a0 I J) (FJ_X12_order a0 I J) R n g) := by
  refine MM.of (by decide) (Nat.le_of_ble_eq_true rfl) fun K ok fin => ?_
  show WK K 0 0 0 [(0, .ref 130), (1, .int a0)] [] I J R n g
  obtain ⟨hp1, hp2, hp3, hp4, hp5⟩ := hp
  refine w_aload_n ok dX12_order_0 0 rfl ?_
  refine w_iconst (v := 0) ok dX12_order_1 (by decide) ?_
  refine w_putI ok dX12_order_2 (fwX12_169 rfl) (congrArg Prod.fst s_130) rfl (ltM hnn (by decide)) ?_
  refine w_iload_n ok dX12_order_5 1 rfl ?_
  refine w_if_lt (tgt := 14) ok dX12_order_6 (by decide) (fun c1 => ?_) (fun c1 => ?_)
  · skip
    refine w_iconst (v := (-1)) ok dX12_order_14 (by decide) ?_
    exact w_iret ok fin dX12_order_15 rfl (by unfold F_X12_order FI_X12_order FJ_X12_order; simp only [if_pos c1]; exact Pd.i)
  · skip
    refine w_iload_n ok dX12_order_9 1 rfl ?_
    refine w_iconst (v := 4) ok dX12_order_10 (by decide) ?_
    refine w_icmp_le (tgt := 16) ok dX12_order_11 (by decide) (fun c2 => ?_) (fun c2 => ?_)
    · skip
      refine w_aload_n ok dX12_order_16 0 rfl ?_
      refine w_iconst (v := 0) ok dX12_order_17 (by decide) ?_
      refine w_putI ok dX12_order_18 (fwX12_491 rfl) (congrArg Prod.fst s_130) rfl (ltM hnn (by decide)) ?_
      refine w_iconst (v := 0) ok dX12_order_21 (by decide) ?_
      refine w_istore_n ok dX12_order_22 rfl (by decide) rfl ?_
      refine w_loc [1, 2, 0] rfl ?_
      refine loop_w (fun (s23 : Int32 × SI) => WK K 0 0 23 [(0, .ref 130), (1, .int a0), (2, .int s23.1)] [] s23.2 J R n g) (fun (s23 : Int32 × SI) => WK K 0 0 79 [(0, .ref 130), (1, .int a0), (2, .int s23.1)] [] s23.2 J R n g) (B_X12_order_w23 a0 I J) 800 (0, (u2 (u2 I 130 0 0) 130 66 0)) (F_X12_order_w23 a0 I J (0, (u2 (u2 I 130 0 0) 130 66 0))) (itW_some (hp1 c1 c2)) ?_ ?_
      · show WK K 0 0 79 [(0, .ref 130), (1, .int a0), (2, .int ((F_X12_order_w23 a0 I J (0, (u2 (u2 I 130 0 0) 130 66 0))).1))] [] ((F_X12_order_w23 a0 I J (0, (u2 (u2 I 130 0 0) 130 66 0))).2) J R n g
        refine w_aload_n ok dX12_order_79 0 rfl ?_
        refine w_iconst (v := (-1)) ok dX12_order_80 (by decide) ?_
        refine w_putI ok dX12_order_81 (fwX12_500 rfl) (congrArg Prod.fst s_130) rfl (ltM hnn (by decide)) ?_
        show WK K 0 0 84 [(0, .ref 130), (1, .int a0), (2, .int ((F_X12_order_w23 a0 I J (0, (u2 (u2 I 130 0 0) 130 66 0))).1))] [] (S1_X12_order a0 I J) J R n g
        refine w_aload_n ok dX12_order_84 0 rfl ?_
        refine w_iconst (v := 0) ok dX12_order_85 (by decide) ?_
        refine w_iconst (v := 0) ok dX12_order_86 (by decide) ?_
        refine w_cV (As := [.int 0, .int 0]) ok dX12_order_87 iX12_rows (lX12_494 rfl) (rcv cls12 (congrArg Prod.fst s_130)) (ltM hnn (by decide)) ((cr_rows ro hnn (dd := 8) (by decide) 6) (0 : Int32) (0 : Int32) (S1_X12_order a0 I J) J (hp2 c1 c2)) (by decide) rfl (Nat.le_of_ble_eq_true rfl) ?_
        refine w_iload_n ok dX12_order_90 1 rfl ?_
        refine w_iconst (v := 4) ok dX12_order_91 (by decide) ?_
        refine w_icmp_ne (tgt := 102) ok dX12_order_92 (by decide) (fun c3 => ?_) (fun c3 => ?_)
        · skip
          refine w_iload_n ok dX12_order_102 1 rfl ?_
          refine w_aload_n ok dX12_order_103 0 rfl ?_
          refine w_getI ok dX12_order_104 (fX12_491 rfl) (congrArg Prod.fst s_130) rfl (ltM hnn (by decide)) ?_
          refine w_icmp_ge (tgt := 119) ok dX12_order_107 (by decide) (fun c4 => ?_) (fun c4 => ?_)
          · skip
            refine w_bipush (v := (-2)) ok dX12_order_119 (by decide) ?_
            exact w_iret ok fin dX12_order_121 rfl (by unfold F_X12_order FI_X12_order FJ_X12_order; simp only [if_neg c1]; simp only [if_pos c2]; simp only [if_neg c3]; simp only [if_pos c4]; exact Pd.i)
          · skip
            refine w_aload_n ok dX12_order_110 0 rfl ?_
            refine w_getR ok dX12_order_111 (fX12_144 rfl) (congrArg Prod.fst s_130) rfl (r_130_65 ro) (ltM hnn (by decide)) ?_
            refine w_iload_n ok dX12_order_114 1 rfl ?_
            refine x_iald (q := a0.toNatClampNeg) ok dX12_order_115 s_172 (hp3 c1 c2 c3 c4) (by decide) (ltM hnn (by decide)) ?_
            refine w_goto (tgt := 121) ok dX12_order_116 (by decide) ?_
            exact w_iret ok fin dX12_order_121 rfl (by unfold F_X12_order FI_X12_order FJ_X12_order; simp only [if_neg c1]; simp only [if_pos c2]; simp only [if_neg c3]; simp only [if_neg c4]; exact Pd.i)
        · skip
          refine w_aload_n ok dX12_order_95 0 rfl ?_
          refine w_getI ok dX12_order_96 (fX12_500 rfl) (congrArg Prod.fst s_130) rfl (ltM hnn (by decide)) ?_
          refine w_goto (tgt := 121) ok dX12_order_99 (by decide) ?_
          exact w_iret ok fin dX12_order_121 rfl (by unfold F_X12_order FI_X12_order FJ_X12_order; simp only [if_neg c1]; simp only [if_pos c2]; simp only [if_pos c3]; exact Pd.i)
      · intro n23 s23 hs23 kc23 kx23
        show WK K 0 0 23 [(0, .ref 130), (1, .int a0), (2, .int s23.1)] [] s23.2 J R n g
        refine w_iload_n ok dX12_order_23 2 rfl ?_
        refine w_aload_n ok dX12_order_24 0 rfl ?_
        refine w_getR ok dX12_order_25 (fX12_13 rfl) (congrArg Prod.fst s_130) rfl (r_130_3 ro) (ltM hnn (by decide)) ?_
        refine w_iconst (v := 1) ok dX12_order_28 (by decide) ?_
        refine x_iald (q := 1) ok dX12_order_29 s_132 (by decide) (by decide) (ltM hnn (by decide)) ?_
        refine w_icmp_ge (tgt := 79) ok dX12_order_30 (by decide) (fun c5 => ?_) (fun c5 => ?_)
        · skip
          have eB : B_X12_order_w23 a0 I J s23 = .inr (s23.1, s23.2) := by
            unfold B_X12_order_w23; exact (if_pos c5).trans (rfl)
          refine w_loc [0, 1, 2] rfl ?_
          have kk := kx23 _ eB
          exact kk
        · skip
          refine w_aload_n ok dX12_order_33 0 rfl ?_
          refine w_getI ok dX12_order_34 (fX12_491 rfl) (congrArg Prod.fst s_130) rfl (ltM hnn (by decide)) ?_
          refine w_iconst (v := 4) ok dX12_order_37 (by decide) ?_
          refine w_icmp_ge (tgt := 79) ok dX12_order_38 (by decide) (fun c6 => ?_) (fun c6 => ?_)
          · skip
            have eB : B_X12_order_w23 a0 I J s23 = .inr (s23.1, s23.2) := by
              unfold B_X12_order_w23; exact (if_neg c5).trans ((if_pos c6).trans (rfl))
            refine w_loc [0, 1, 2] rfl ?_
            have kk := kx23 _ eB
            exact kk
          · skip
            refine w_aload_n ok dX12_order_41 0 rfl ?_
            refine w_iconst (v := 0) ok dX12_order_42 (by decide) ?_
            refine w_iload_n ok dX12_order_43 2 rfl ?_
            refine w_cV (As := [.int 0, .int s23.1]) ok dX12_order_44 iX12_isDone (lX12_367 rfl) (rcv cls12 (congrArg Prod.fst s_130)) (ltM hnn (by decide)) (c_X12_isDone ro hnn 0 s23.1  (hp4 c1 c2 n23 s23 hs23 c5 c6)) (by decide) rfl (Nat.le_of_ble_eq_true rfl) ?_
            refine w_if_eq (tgt := 53) ok dX12_order_47 (by decide) (fun c7 => ?_) (fun c7 => ?_)
            · skip
              refine w_aload_n ok dX12_order_53 0 rfl ?_
              refine w_getR ok dX12_order_54 (fX12_138 rfl) (congrArg Prod.fst s_130) rfl (r_130_63 ro) (ltM hnn (by decide)) ?_
              refine w_aload_n ok dX12_order_57 0 rfl ?_
              refine w_getI ok dX12_order_58 (fX12_491 rfl) (congrArg Prod.fst s_130) rfl (ltM hnn (by decide)) ?_
              refine w_iload_n ok dX12_order_61 2 rfl ?_
              refine x_iast (q := (s23.2 130 66).toNatClampNeg) ok dX12_order_62 s_170 (hp5 c1 c2 n23 s23 hs23 c5 c6 c7) (by decide) (ltM hnn (by decide)) ?_
              refine w_aload_n ok dX12_order_63 0 rfl ?_
              refine w_dup ok dX12_order_64 rfl ?_
              refine w_getI ok dX12_order_65 (fX12_491 rfl) (congrArg Prod.fst s_130) rfl (ltM hnn (by decide)) ?_
              refine w_iconst (v := 1) ok dX12_order_68 (by decide) ?_
              refine w_iadd ok dX12_order_69 ?_
              refine w_putI ok dX12_order_70 (fwX12_491 rfl) (congrArg Prod.fst s_130) rfl (ltM hnn (by decide)) ?_
              show WK K 0 0 73 [(0, .ref 130), (1, .int a0), (2, .int s23.1)] [] (S2_X12_order a0 I J s23) J R n g
              refine w_iinc (v := s23.1 + 1) ok dX12_order_73 2 rfl rfl (by decide) rfl ?_
              refine w_goto (tgt := 23) ok dX12_order_76 (by decide) ?_
              have eB : B_X12_order_w23 a0 I J s23 = .inl ((s23.1 + 1), (S2_X12_order a0 I J s23)) := by
                unfold B_X12_order_w23; exact (if_neg c5).trans ((if_neg c6).trans ((if_pos c7).trans (rfl)))
              refine w_loc [1, 2, 0] rfl ?_
              have kk := kc23 _ eB
              exact kk
            · skip
              refine w_goto (tgt := 73) ok dX12_order_50 (by decide) ?_
              refine w_iinc (v := s23.1 + 1) ok dX12_order_73 2 rfl rfl (by decide) rfl ?_
              refine w_goto (tgt := 23) ok dX12_order_76 (by decide) ?_
              have eB : B_X12_order_w23 a0 I J s23 = .inl ((s23.1 + 1), s23.2) := by
                unfold B_X12_order_w23; exact (if_neg c5).trans ((if_neg c6).trans ((if_neg c7).trans (rfl)))
              refine w_loc [1, 2, 0] rfl ?_
              have kk := kc23 _ eB
              exact kk
    · skip
      refine w_iconst (v := (-1)) ok dX12_order_14 (by decide) ?_
      exact w_iret ok fin dX12_order_15 rfl (by unfold F_X12_order FI_X12_order FJ_X12_order; simp only [if_neg c1]; simp only [if_neg c2]; exact Pd.i)
def S3_X2_work (a0 : Nat) (I : SI) (J : SJ) (i2 : Nat) (s2 : SI) (i10 : Nat) (s10 : SI) : SI := putF s10 127 36 (((nI i2) * 6) + (nI i10)) (F_X2_clashesBy a0 (nI i2) (nI i10) s10 J)
def B_X2_work_l10 (a0 : Nat) (I : SI) (J : SJ) (i2 : Nat) (s2 : SI) (i10 : Nat) (s10 : SI) : SI := (S3_X2_work a0 I J i2 s2 i10 s10)
def F_X2_work_l10 (a0 : Nat) (I : SI) (J : SJ) (i2 : Nat) (s2 : SI) (s0 : SI) : SI := itN (B_X2_work_l10 a0 I J i2 s2) (6) s0
def B_X2_work_l2 (a0 : Nat) (I : SI) (J : SJ) (i2 : Nat) (s2 : SI) : SI := (F_X2_work_l10 a0 I J i2 s2 s2)
def F_X2_work_l2 (a0 : Nat) (I : SI) (J : SJ) (s0 : SI) : SI := itN (B_X2_work_l2 a0 I J) (6) s0
def S1_X2_work (a0 : Nat) (I : SI) (J : SJ) : SI := (RG_choose 8 0 (0 : Int32) (0 : Int32) (u2 (fillF (F_X2_work_l2 a0 I J I) 125 0 6) 124 1 1000000) J).1
def S2_X2_work (a0 : Nat) (I : SI) (J : SJ) : SJ := (RG_choose 8 0 (0 : Int32) (0 : Int32) (u2 (fillF (F_X2_work_l2 a0 I J I) 125 0 6) 124 1 1000000) J).2
def FI_X2_work (a0 : Nat) (I : SI) (J : SJ) : SI := (S1_X2_work a0 I J)
def FJ_X2_work (a0 : Nat) (I : SI) (J : SJ) : SJ := (S2_X2_work a0 I J)
def H_X2_work (a0 : Nat) (I : SI) (J : SJ) : Prop := (HG_choose 8 0 (0 : Int32) (0 : Int32) (u2 (fillF (F_X2_work_l2 a0 I J I) 125 0 6) 124 1 1000000) J)
set_option maxHeartbeats 1000000 in
set_option maxRecDepth 40000 in
theorem c_X2_work {I : SI} {J : SJ} {R : SR} {n g : Nat} (ro : RO R) (hnn : nK ≤ n) {a0 : Nat} (ha0 : IsSc a0)  (hp : H_X2_work a0 I J) : MM 11 0 0 mX2_work [.ref 124, .ref a0] I J R n g (Pd none (FI_X2_work a0 I J) (FJ_X2_work a0 I J) R n g) := by
  refine MM.of (by decide) (Nat.le_of_ble_eq_true rfl) fun K ok fin => ?_
  show WK K 0 0 0 [(0, .ref 124), (1, .ref a0)] [] I J R n g
  have hp1 := hp
  refine w_iconst (v := 0) ok dX2_work_0 (by decide) ?_
  refine w_istore_n ok dX2_work_1 rfl (by decide) rfl ?_
  refine w_loc [1, 2, 0] rfl ?_
  refine loop_for (σ := SI) (fun (i2 : Nat) (s2 : SI) => WK K 0 0 2 [(0, .ref 124), (1, .ref a0), (2, .int (nI i2))] [] s2 J R n g) (B_X2_work_l2 a0 I J) (6) (I) ?_ ?_
  · show WK K 0 0 2 [(0, .ref 124), (1, .ref a0), (2, .int (nI 6))] [] (F_X2_work_l2 a0 I J I) J R n g
    have e1 : (6 : Int32) ≤ (nI 6) := (show nI 6 ≤ nI 6 from nI_le (by omega) (by decide))
    refine w_iload_n ok dX2_work_2 2 rfl ?_
    refine w_bipush (v := 6) ok dX2_work_3 (by decide) ?_
    refine w_icmp_ge (tgt := 47) ok dX2_work_5 (by decide) (fun _ => ?_) (fun h => absurd e1 h)
    refine w_aload_n ok dX2_work_47 0 rfl ?_
    refine w_getR ok dX2_work_48 (fX2_9 rfl) (congrArg Prod.fst s_124) rfl (r_124_0 ro) (ltK hnn (by decide)) ?_
    refine w_iconst (v := 0) ok dX2_work_51 (by decide) ?_
    refine w_cS (As := [.ref 125, .int 0]) ok dX2_work_52 iX11_fill (lX2_37 rfl) (c_fill s_125 (ltK hnn (by decide)) 0) (by decide) rfl (Nat.le_of_ble_eq_true rfl) ?_
    refine w_aload_n ok dX2_work_55 0 rfl ?_
    refine w_ldc ok dX2_work_56 kX2_41 ?_
    refine w_putI ok dX2_work_58 (fwX2_15 rfl) (congrArg Prod.fst s_124) rfl (ltK hnn (by decide)) ?_
    refine w_aload_n ok dX2_work_61 0 rfl ?_
    refine w_iconst (v := 0) ok dX2_work_62 (by decide) ?_
    refine w_iconst (v := 0) ok dX2_work_63 (by decide) ?_
    refine w_cV (As := [.int 0, .int 0]) ok dX2_work_64 iX2_choose (lX2_42 rfl) (rcv cls2 (congrArg Prod.fst s_124)) (ltK hnn (by decide)) ((cr_choose ro hnn (dd := 2) (by decide) 8) (0 : Int32) (0 : Int32) (u2 (fillF (F_X2_work_l2 a0 I J I) 125 0 6) 124 1 1000000) J (hp1)) (by decide) rfl (Nat.le_of_ble_eq_true rfl) ?_
    show WK K 0 0 67 [(0, .ref 124), (1, .ref a0), (2, .int (nI 6))] [] (S1_X2_work a0 I J) (S2_X2_work a0 I J) R n g
    exact w_vret ok fin dX2_work_67 rfl (by unfold FI_X2_work FJ_X2_work; exact Pd.i)
  · intro i2 s2 hi2 hs2 k2
    show WK K 0 0 2 [(0, .ref 124), (1, .ref a0), (2, .int (nI i2))] [] s2 J R n g
    have e2 : ¬ ((6 : Int32) ≤ (nI i2)) := (show ¬ (nI 6 ≤ nI i2) from nI_ge (by omega) (by decide))
    refine w_iload_n ok dX2_work_2 2 rfl ?_
    refine w_bipush (v := 6) ok dX2_work_3 (by decide) ?_
    refine w_icmp_ge (tgt := 47) ok dX2_work_5 (by decide) (fun h => absurd h e2) (fun _ => ?_)
    refine w_iconst (v := 0) ok dX2_work_8 (by decide) ?_
    refine w_istore_n ok dX2_work_9 rfl (by decide) rfl ?_
    refine w_loc [1, 2, 3, 0] rfl ?_
    refine loop_for (σ := SI) (fun (i10 : Nat) (s10 : SI) => WK K 0 0 10 [(0, .ref 124), (1, .ref a0), (2, .int (nI i2)), (3, .int (nI i10))] [] s10 J R n g) (B_X2_work_l10 a0 I J i2 s2) (6) (s2) ?_ ?_
    · show WK K 0 0 10 [(0, .ref 124), (1, .ref a0), (2, .int (nI i2)), (3, .int (nI 6))] [] (F_X2_work_l10 a0 I J i2 s2 s2) J R n g
      have e3 : (6 : Int32) ≤ (nI 6) := (show nI 6 ≤ nI 6 from nI_le (by omega) (by decide))
      refine w_iload_n ok dX2_work_10 3 rfl ?_
      refine w_bipush (v := 6) ok dX2_work_11 (by decide) ?_
      refine w_icmp_ge (tgt := 41) ok dX2_work_13 (by decide) (fun _ => ?_) (fun h => absurd e3 h)
      refine w_iinc (v := (nI i2) + 1) ok dX2_work_41 2 rfl rfl (by decide) rfl ?_
      refine w_goto (tgt := 2) ok dX2_work_44 (by decide) ?_
      have eB : B_X2_work_l2 a0 I J i2 s2 = (F_X2_work_l10 a0 I J i2 s2 s2) := by
        unfold B_X2_work_l2; exact rfl
      have kk := k2
      rw [eB] at kk
      refine w_loc [1, 2, 0] rfl ?_
      rw [nI_1 i2]
      exact kk
    · intro i10 s10 hi10 hs10 k10
      show WK K 0 0 10 [(0, .ref 124), (1, .ref a0), (2, .int (nI i2)), (3, .int (nI i10))] [] s10 J R n g
      have e4 : ¬ ((6 : Int32) ≤ (nI i10)) := (show ¬ (nI 6 ≤ nI i10) from nI_ge (by omega) (by decide))
      refine w_iload_n ok dX2_work_10 3 rfl ?_
      refine w_bipush (v := 6) ok dX2_work_11 (by decide) ?_
      refine w_icmp_ge (tgt := 41) ok dX2_work_13 (by decide) (fun h => absurd h e4) (fun _ => ?_)
      refine w_aload_n ok dX2_work_16 0 rfl ?_
      refine w_getR ok dX2_work_17 (fX2_22 rfl) (congrArg Prod.fst s_124) rfl (r_124_4 ro) (ltK hnn (by decide)) ?_
      refine w_iload_n ok dX2_work_20 2 rfl ?_
      refine w_bipush (v := 6) ok dX2_work_21 (by decide) ?_
      refine w_imul ok dX2_work_23 ?_
      refine w_iload_n ok dX2_work_24 3 rfl ?_
      refine w_iadd ok dX2_work_25 ?_
      refine w_aload_n ok dX2_work_26 1 rfl ?_
      refine w_iload_n ok dX2_work_27 2 rfl ?_
      refine w_iload_n ok dX2_work_28 3 rfl ?_
      refine w_cS (As := [.ref a0, .int (nI i2), .int (nI i10)]) ok dX2_work_29 iX2_clashesBy (lX2_29 rfl) (c_X2_clashesBy ro hnn (nI i2) (nI i10) ha0) (by decide) rfl (Nat.le_of_ble_eq_true rfl) ?_
      show WK K 0 0 32 [(0, .ref 124), (1, .ref a0), (2, .int (nI i2)), (3, .int (nI i10))] [.int (F_X2_clashesBy a0 (nI i2) (nI i10) s10 J), .int (((nI i2) * 6) + (nI i10)), .ref 127] s10 J R n g
      refine w_cS (As := [.ref 127, .int (((nI i2) * 6) + (nI i10)), .int (F_X2_clashesBy a0 (nI i2) (nI i10) s10 J)]) ok dX2_work_32 iX11_put (lX2_33 rfl) (c_put s_127 (ltK hnn (by decide)) (((nI i2) * 6) + (nI i10)) (F_X2_clashesBy a0 (nI i2) (nI i10) s10 J)) (by decide) rfl (Nat.le_of_ble_eq_true rfl) ?_
      show WK K 0 0 35 [(0, .ref 124), (1, .ref a0), (2, .int (nI i2)), (3, .int (nI i10))] [] (S3_X2_work a0 I J i2 s2 i10 s10) J R n g
      refine w_iinc (v := (nI i10) + 1) ok dX2_work_35 3 rfl rfl (by decide) rfl ?_
      refine w_goto (tgt := 10) ok dX2_work_38 (by decide) ?_
      have eB : B_X2_work_l10 a0 I J i2 s2 i10 s10 = (S3_X2_work a0 I J i2 s2 i10 s10) := by
        unfold B_X2_work_l10; exact rfl
      have kk := k10
      rw [eB] at kk
      refine w_loc [1, 2, 3, 0] rfl ?_
      rw [nI_1 i10]
      exact kk
def F_X11_least (a0 : Int32) (I : SI) (J : SJ) : Int32 := if a0 < 0 then -1 else (if a0 ≤ 6 then (if (6 : Int32) ≤ a0 then (if a0 = 6 then (FI_X2_work 86 I J) 124 1 else atF ((FI_X2_work 86 I J) 125) 6 a0) else (if a0 < (I 3 1) then (if a0 = 6 then (FI_X2_work 86 I J) 124 1 else atF ((FI_X2_work 86 I J) 125) 6 a0) else -2)) else -1)
def FI_X11_least (a0 : Int32) (I : SI) (J : SJ) : SI := if a0 < 0 then I else (if a0 ≤ 6 then (if (6 : Int32) ≤ a0 then (if a0 = 6 then FI_X2_work 86 I J else FI_X2_work 86 I J) else (if a0 < (I 3 1) then (if a0 = 6 then FI_X2_work 86 I J else FI_X2_work 86 I J) else I)) else I)
def FJ_X11_least (a0 : Int32) (I : SI) (J : SJ) : SJ := if a0 < 0 then J else (if a0 ≤ 6 then (if (6 : Int32) ≤ a0 then (if a0 = 6 then FJ_X2_work 86 I J else FJ_X2_work 86 I J) else (if a0 < (I 3 1) then (if a0 = 6 then FJ_X2_work 86 I J else FJ_X2_work 86 I J) else J)) else J)
def H_X11_least (a0 : Int32) (I : SI) (J : SJ) : Prop := (¬ (a0 < 0) → a0 ≤ 6 → (6 : Int32) ≤ a0 → H_X2_work 86 I J) ∧ (¬ (a0 < 0) → a0 ≤ 6 → ¬ ((6 : Int32) ≤ a0) → a0 < (I 3 1) → H_X2_work 86 I J)
set_option maxHeartbeats 1000000 in
set_option maxRecDepth 40000 in
theorem c_X11_least {I : SI} {J : SJ} {R : SR} {n g : Nat} (ro : RO R) (hnn : nK ≤ n) (a0 : Int32)  (hp : H_X11_least a0 I J) : MM 12 0 0 mX11_least [.ref 0, .int a0] I J R n g (Pd (some (.int (F_X11_least a0 I J))) (FI_X11_least a0 I J) (FJ_X11_least a0 I J) R n g) := by
  refine MM.of (by decide) (Nat.le_of_ble_eq_true rfl) fun K ok fin => ?_
  show WK K 0 0 0 [(0, .ref 0), (1, .int a0)] [] I J R n g
  obtain ⟨hp1, hp2⟩ := hp
  refine w_iload_n ok dX11_least_0 1 rfl ?_
  refine w_if_lt (tgt := 10) ok dX11_least_1 (by decide) (fun c1 => ?_) (fun c1 => ?_)
  · skip
    refine w_iconst (v := (-1)) ok dX11_least_10 (by decide) ?_
    exact w_iret ok fin dX11_least_11 rfl (by unfold F_X11_least FI_X11_least FJ_X11_least; simp only [if_pos c1]; exact Pd.i)
  · skip
    refine w_iload_n ok dX11_least_4 1 rfl ?_
    refine w_bipush (v := 6) ok dX11_least_5 (by decide) ?_
    refine w_icmp_le (tgt := 12) ok dX11_least_7 (by decide) (fun c2 => ?_) (fun c2 => ?_)
    · skip
      refine w_iload_n ok dX11_least_12 1 rfl ?_
      refine w_bipush (v := 6) ok dX11_least_13 (by decide) ?_
      refine w_icmp_ge (tgt := 35) ok dX11_least_15 (by decide) (fun c3 => ?_) (fun c3 => ?_)
      · skip
        refine w_aload_n ok dX11_least_35 0 rfl ?_
        refine w_getR ok dX11_least_36 (fX11_71 rfl) (congrArg Prod.fst s_0) rfl (r_0_10 ro) (ltK hnn (by decide)) ?_
        refine w_aload_n ok dX11_least_39 0 rfl ?_
        refine w_getR ok dX11_least_40 (fX11_34 rfl) (congrArg Prod.fst s_0) rfl (r_0_4 ro) (ltK hnn (by decide)) ?_
        refine w_cV (As := [.ref 86]) ok dX11_least_43 iX2_work (lX11_259 rfl) (rcv cls2 (congrArg Prod.fst s_124)) (ltK hnn (by decide)) (c_X2_work ro hnn  isSc_86 (hp1 c1 c2 c3)) (by decide) rfl (Nat.le_of_ble_eq_true rfl) ?_
        refine w_iload_n ok dX11_least_46 1 rfl ?_
        refine w_bipush (v := 6) ok dX11_least_47 (by decide) ?_
        refine w_icmp_ne (tgt := 62) ok dX11_least_49 (by decide) (fun c4 => ?_) (fun c4 => ?_)
        · skip
          refine w_aload_n ok dX11_least_62 0 rfl ?_
          refine w_getR ok dX11_least_63 (fX11_71 rfl) (congrArg Prod.fst s_0) rfl (r_0_10 ro) (ltK hnn (by decide)) ?_
          refine w_getR ok dX11_least_66 (fX11_265 rfl) (congrArg Prod.fst s_124) rfl (r_124_0 ro) (ltK hnn (by decide)) ?_
          refine w_iload_n ok dX11_least_69 1 rfl ?_
          refine w_cS (As := [.ref 125, .int a0]) ok dX11_least_70 iX11_at (lX11_146 rfl) (c_at s_125 (ltK hnn (by decide)) a0) (by decide) rfl (Nat.le_of_ble_eq_true rfl) ?_
          exact w_iret ok fin dX11_least_73 rfl (by unfold F_X11_least FI_X11_least FJ_X11_least; simp only [if_neg c1]; simp only [if_pos c2]; simp only [if_pos c3]; simp only [if_neg c4]; exact Pd.i)
        · skip
          refine w_aload_n ok dX11_least_52 0 rfl ?_
          refine w_getR ok dX11_least_53 (fX11_71 rfl) (congrArg Prod.fst s_0) rfl (r_0_10 ro) (ltK hnn (by decide)) ?_
          refine w_getI ok dX11_least_56 (fX11_262 rfl) (congrArg Prod.fst s_124) rfl (ltK hnn (by decide)) ?_
          refine w_goto (tgt := 73) ok dX11_least_59 (by decide) ?_
          exact w_iret ok fin dX11_least_73 rfl (by unfold F_X11_least FI_X11_least FJ_X11_least; simp only [if_neg c1]; simp only [if_pos c2]; simp only [if_pos c3]; simp only [if_pos c4]; exact Pd.i)
      · skip
        refine w_iload_n ok dX11_least_18 1 rfl ?_
        refine w_aload_n ok dX11_least_19 0 rfl ?_
        refine w_getR ok dX11_least_20 (fX11_20 rfl) (congrArg Prod.fst s_0) rfl (r_0_2 ro) (ltK hnn (by decide)) ?_
        refine w_getR ok dX11_least_23 (fX11_112 rfl) (congrArg Prod.fst s_2) rfl (r_2_0 ro) (ltK hnn (by decide)) ?_
        refine w_getI ok dX11_least_26 (fX11_256 rfl) (congrArg Prod.fst s_3) rfl (ltK hnn (by decide)) ?_
        refine w_icmp_lt (tgt := 35) ok dX11_least_29 (by decide) (fun c5 => ?_) (fun c5 => ?_)
        · skip
          refine w_aload_n ok dX11_least_35 0 rfl ?_
          refine w_getR ok dX11_least_36 (fX11_71 rfl) (congrArg Prod.fst s_0) rfl (r_0_10 ro) (ltK hnn (by decide)) ?_
          refine w_aload_n ok dX11_least_39 0 rfl ?_
          refine w_getR ok dX11_least_40 (fX11_34 rfl) (congrArg Prod.fst s_0) rfl (r_0_4 ro) (ltK hnn (by decide)) ?_
          refine w_cV (As := [.ref 86]) ok dX11_least_43 iX2_work (lX11_259 rfl) (rcv cls2 (congrArg Prod.fst s_124)) (ltK hnn (by decide)) (c_X2_work ro hnn  isSc_86 (hp2 c1 c2 c3 c5)) (by decide) rfl (Nat.le_of_ble_eq_true rfl) ?_
          refine w_iload_n ok dX11_least_46 1 rfl ?_
          refine w_bipush (v := 6) ok dX11_least_47 (by decide) ?_
          refine w_icmp_ne (tgt := 62) ok dX11_least_49 (by decide) (fun c6 => ?_) (fun c6 => ?_)
          · skip
            refine w_aload_n ok dX11_least_62 0 rfl ?_
            refine w_getR ok dX11_least_63 (fX11_71 rfl) (congrArg Prod.fst s_0) rfl (r_0_10 ro) (ltK hnn (by decide)) ?_
            refine w_getR ok dX11_least_66 (fX11_265 rfl) (congrArg Prod.fst s_124) rfl (r_124_0 ro) (ltK hnn (by decide)) ?_
            refine w_iload_n ok dX11_least_69 1 rfl ?_
            refine w_cS (As := [.ref 125, .int a0]) ok dX11_least_70 iX11_at (lX11_146 rfl) (c_at s_125 (ltK hnn (by decide)) a0) (by decide) rfl (Nat.le_of_ble_eq_true rfl) ?_
            exact w_iret ok fin dX11_least_73 rfl (by unfold F_X11_least FI_X11_least FJ_X11_least; simp only [if_neg c1]; simp only [if_pos c2]; simp only [if_neg c3]; simp only [if_pos c5]; simp only [if_neg c6]; exact Pd.i)
          · skip
            refine w_aload_n ok dX11_least_52 0 rfl ?_
            refine w_getR ok dX11_least_53 (fX11_71 rfl) (congrArg Prod.fst s_0) rfl (r_0_10 ro) (ltK hnn (by decide)) ?_
            refine w_getI ok dX11_least_56 (fX11_262 rfl) (congrArg Prod.fst s_124) rfl (ltK hnn (by decide)) ?_
            refine w_goto (tgt := 73) ok dX11_least_59 (by decide) ?_
            exact w_iret ok fin dX11_least_73 rfl (by unfold F_X11_least FI_X11_least FJ_X11_least; simp only [if_neg c1]; simp only [if_pos c2]; simp only [if_neg c3]; simp only [if_pos c5]; simp only [if_pos c6]; exact Pd.i)
        · skip
          refine w_bipush (v := (-2)) ok dX11_least_32 (by decide) ?_
          exact w_iret ok fin dX11_least_34 rfl (by unfold F_X11_least FI_X11_least FJ_X11_least; simp only [if_neg c1]; simp only [if_pos c2]; simp only [if_neg c3]; simp only [if_neg c5]; exact Pd.i)
    · skip
      refine w_iconst (v := (-1)) ok dX11_least_10 (by decide) ?_
      exact w_iret ok fin dX11_least_11 rfl (by unfold F_X11_least FI_X11_least FJ_X11_least; simp only [if_neg c1]; simp only [if_neg c2]; exact Pd.i)
