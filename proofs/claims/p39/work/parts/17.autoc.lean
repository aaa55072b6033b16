/-! printed by wip/whole/gen_c.py: contracts by program -/
def S1_X12_gives (a0 : Int32) (a1 : Int32) (I : SI) (J : SJ) : SI := u2 I 166 (((4 : Int32) * a0) + a1).toNatClampNeg ((I 166 (((4 : Int32) * a0) + a1).toNatClampNeg) - 1)
def S2_X12_gives (a0 : Int32) (a1 : Int32) (I : SI) (J : SJ) : SI := u2 (S1_X12_gives a0 a1 I J) 167 (((4 : Int32) * a0) + a1).toNatClampNeg (((S1_X12_gives a0 a1 I J) 167 (((4 : Int32) * a0) + a1).toNatClampNeg) + 1)
def S3_X12_gives (a0 : Int32) (a1 : Int32) (I : SI) (J : SJ) : Int32 := ((S2_X12_gives a0 a1 I J) 161 (((6 : Int32) * a0) + (I 141 a1.toNatClampNeg)).toNatClampNeg) + 1
def S4_X12_gives (a0 : Int32) (a1 : Int32) (I : SI) (J : SJ) : SI := u2 (S2_X12_gives a0 a1 I J) 161 (((6 : Int32) * a0) + (I 141 a1.toNatClampNeg)).toNatClampNeg (S3_X12_gives a0 a1 I J)
def S5_X12_gives (a0 : Int32) (a1 : Int32) (I : SI) (J : SJ) : SJ := FJ_X12_callsMark a0 (I 141 a1.toNatClampNeg) 0 (-1) 0 (S4_X12_gives a0 a1 I J) J
def S6_X12_gives (a0 : Int32) (a1 : Int32) (I : SI) (J : SJ) : Int32 := (F_X12_strikeOf (I 141 a1.toNatClampNeg) (S4_X12_gives a0 a1 I J) (S5_X12_gives a0 a1 I J)) / 10
def T_X12_gives_j148 (a0 : Int32) (a1 : Int32) (I : SI) (J : SJ) : Int32 := if ((S4_X12_gives a0 a1 I J) 161 (((6 : Int32) * a0) + (I 141 a1.toNatClampNeg)).toNatClampNeg) ≤ (S6_X12_gives a0 a1 I J) then 0 else 1
def S7_X12_gives (a0 : Int32) (a1 : Int32) (I : SI) (J : SJ) : SI := FI_X12_isSo 1 (T_X12_gives_j148 a0 a1 I J) (S4_X12_gives a0 a1 I J) (S5_X12_gives a0 a1 I J)
def S8_X12_gives (a0 : Int32) (a1 : Int32) (I : SI) (J : SJ) : SJ := FJ_X12_isSo 1 (T_X12_gives_j148 a0 a1 I J) (S4_X12_gives a0 a1 I J) (S5_X12_gives a0 a1 I J)
def S9_X12_gives (a0 : Int32) (a1 : Int32) (I : SI) (J : SJ) : Int32 := F_X12_isSo 1 (T_X12_gives_j148 a0 a1 I J) (S4_X12_gives a0 a1 I J) (S5_X12_gives a0 a1 I J)
def S10_X12_gives (a0 : Int32) (a1 : Int32) (I : SI) (J : SJ) : SI := u2 (S7_X12_gives a0 a1 I J) 160 (((6 : Int32) * a0) + (I 141 a1.toNatClampNeg)).toNatClampNeg ((S7_X12_gives a0 a1 I J) 142 a1.toNatClampNeg)
def S11_X12_gives (a0 : Int32) (a1 : Int32) (I : SI) (J : SJ) : SI := u2 I 166 (((4 : Int32) * a0) + a1).toNatClampNeg ((I 166 (((4 : Int32) * a0) + a1).toNatClampNeg) - 1)
def S12_X12_gives (a0 : Int32) (a1 : Int32) (I : SI) (J : SJ) : SI := u2 (S11_X12_gives a0 a1 I J) 167 (((4 : Int32) * a0) + a1).toNatClampNeg (((S11_X12_gives a0 a1 I J) 167 (((4 : Int32) * a0) + a1).toNatClampNeg) + 1)
def S13_X12_gives (a0 : Int32) (a1 : Int32) (I : SI) (J : SJ) : Int32 := (S12_X12_gives a0 a1 I J) 161 (((6 : Int32) * a0) + (I 141 a1.toNatClampNeg)).toNatClampNeg
def S14_X12_gives (a0 : Int32) (a1 : Int32) (I : SI) (J : SJ) : SI := u2 (S12_X12_gives a0 a1 I J) 161 (((6 : Int32) * a0) + (I 141 a1.toNatClampNeg)).toNatClampNeg ((S13_X12_gives a0 a1 I J) + 1)
def S15_X12_gives (a0 : Int32) (a1 : Int32) (I : SI) (J : SJ) : SJ := FJ_X12_callsMark a0 (I 141 a1.toNatClampNeg) 0 (-1) 0 (S14_X12_gives a0 a1 I J) J
def S16_X12_gives (a0 : Int32) (a1 : Int32) (I : SI) (J : SJ) : Int32 := (S14_X12_gives a0 a1 I J) 161 (((6 : Int32) * a0) + (I 141 a1.toNatClampNeg)).toNatClampNeg
def S17_X12_gives (a0 : Int32) (a1 : Int32) (I : SI) (J : SJ) : Int32 := F_X12_strikeOf (I 141 a1.toNatClampNeg) (S14_X12_gives a0 a1 I J) (S15_X12_gives a0 a1 I J)
def T_X12_gives_j148_2 (a0 : Int32) (a1 : Int32) (I : SI) (J : SJ) : Int32 := if (S16_X12_gives a0 a1 I J) ≤ ((S17_X12_gives a0 a1 I J) / 10) then 0 else 1
def S18_X12_gives (a0 : Int32) (a1 : Int32) (I : SI) (J : SJ) : SI := FI_X12_isSo 1 (T_X12_gives_j148_2 a0 a1 I J) (S14_X12_gives a0 a1 I J) (S15_X12_gives a0 a1 I J)
def S19_X12_gives (a0 : Int32) (a1 : Int32) (I : SI) (J : SJ) : SJ := FJ_X12_isSo 1 (T_X12_gives_j148_2 a0 a1 I J) (S14_X12_gives a0 a1 I J) (S15_X12_gives a0 a1 I J)
def S20_X12_gives (a0 : Int32) (a1 : Int32) (I : SI) (J : SJ) : Int32 := F_X12_isSo 1 (T_X12_gives_j148_2 a0 a1 I J) (S14_X12_gives a0 a1 I J) (S15_X12_gives a0 a1 I J)
def S21_X12_gives (a0 : Int32) (a1 : Int32) (I : SI) (J : SJ) : SI := u2 (S18_X12_gives a0 a1 I J) 160 (((6 : Int32) * a0) + (I 141 a1.toNatClampNeg)).toNatClampNeg ((S18_X12_gives a0 a1 I J) 142 a1.toNatClampNeg)
def FI_X12_gives (a0 : Int32) (a1 : Int32) (I : SI) (J : SJ) : SI := if (I 166 (((4 : Int32) * a0) + a1).toNatClampNeg) = 0 then I else (if (I 160 (((6 : Int32) * a0) + (I 141 a1.toNatClampNeg)).toNatClampNeg) = (-1) then I else (if (I 160 (((6 : Int32) * a0) + (I 141 a1.toNatClampNeg)).toNatClampNeg) = (I 142 a1.toNatClampNeg) then I else (if (I 130 55) = 2 then (if a1 = (I 130 56) then I else (if (S20_X12_gives a0 a1 I J) = 0 then (S18_X12_gives a0 a1 I J) else (if (((S18_X12_gives a0 a1 I J)) 130 55) = 4 then (S18_X12_gives a0 a1 I J) else (S21_X12_gives a0 a1 I J)))) else (if (S9_X12_gives a0 a1 I J) = 0 then (S7_X12_gives a0 a1 I J) else (if (((S7_X12_gives a0 a1 I J)) 130 55) = 4 then (S7_X12_gives a0 a1 I J) else (S10_X12_gives a0 a1 I J))))))
def FJ_X12_gives (a0 : Int32) (a1 : Int32) (I : SI) (J : SJ) : SJ := if (I 166 (((4 : Int32) * a0) + a1).toNatClampNeg) = 0 then J else (if (I 160 (((6 : Int32) * a0) + (I 141 a1.toNatClampNeg)).toNatClampNeg) = (-1) then J else (if (I 160 (((6 : Int32) * a0) + (I 141 a1.toNatClampNeg)).toNatClampNeg) = (I 142 a1.toNatClampNeg) then J else (if (I 130 55) = 2 then (if a1 = (I 130 56) then J else (if (S20_X12_gives a0 a1 I J) = 0 then (S19_X12_gives a0 a1 I J) else (if (((S18_X12_gives a0 a1 I J)) 130 55) = 4 then (S19_X12_gives a0 a1 I J) else (S19_X12_gives a0 a1 I J)))) else (if (S9_X12_gives a0 a1 I J) = 0 then (S8_X12_gives a0 a1 I J) else (if (((S7_X12_gives a0 a1 I J)) 130 55) = 4 then (S8_X12_gives a0 a1 I J) else (S8_X12_gives a0 a1 I J))))))
def H_X12_gives (a0 : Int32) (a1 : Int32) (I : SI) (J : SJ) : Prop := (inR a1 8) ∧ (inR (((6 : Int32) * a0) + (I 141 a1.toNatClampNeg)) 138) ∧ (inR (((4 : Int32) * a0) + a1) 92) ∧ (¬ ((I 166 (((4 : Int32) * a0) + a1).toNatClampNeg) = 0) → ¬ ((I 160 (((6 : Int32) * a0) + (I 141 a1.toNatClampNeg)).toNatClampNeg) = (-1)) → inR a1 8) ∧ (¬ ((I 166 (((4 : Int32) * a0) + a1).toNatClampNeg) = 0) → ¬ ((I 160 (((6 : Int32) * a0) + (I 141 a1.toNatClampNeg)).toNatClampNeg) = (-1)) → ¬ ((I 160 (((6 : Int32) * a0) + (I 141 a1.toNatClampNeg)).toNatClampNeg) = (I 142 a1.toNatClampNeg)) → ¬ ((I 130 55) = 2) → inR (((4 : Int32) * a0) + a1) 92) ∧ (¬ ((I 166 (((4 : Int32) * a0) + a1).toNatClampNeg) = 0) → ¬ ((I 160 (((6 : Int32) * a0) + (I 141 a1.toNatClampNeg)).toNatClampNeg) = (-1)) → ¬ ((I 160 (((6 : Int32) * a0) + (I 141 a1.toNatClampNeg)).toNatClampNeg) = (I 142 a1.toNatClampNeg)) → ¬ ((I 130 55) = 2) → inR (((6 : Int32) * a0) + (I 141 a1.toNatClampNeg)) 138) ∧ (¬ ((I 166 (((4 : Int32) * a0) + a1).toNatClampNeg) = 0) → ¬ ((I 160 (((6 : Int32) * a0) + (I 141 a1.toNatClampNeg)).toNatClampNeg) = (-1)) → ¬ ((I 160 (((6 : Int32) * a0) + (I 141 a1.toNatClampNeg)).toNatClampNeg) = (I 142 a1.toNatClampNeg)) → ¬ ((I 130 55) = 2) → H_X12_callsMark a0 (I 141 a1.toNatClampNeg) 0 (-1) 0 (S4_X12_gives a0 a1 I J) J) ∧ (¬ ((I 166 (((4 : Int32) * a0) + a1).toNatClampNeg) = 0) → ¬ ((I 160 (((6 : Int32) * a0) + (I 141 a1.toNatClampNeg)).toNatClampNeg) = (-1)) → ¬ ((I 160 (((6 : Int32) * a0) + (I 141 a1.toNatClampNeg)).toNatClampNeg) = (I 142 a1.toNatClampNeg)) → ¬ ((I 130 55) = 2) → H_X12_strikeOf (I 141 a1.toNatClampNeg) (S4_X12_gives a0 a1 I J) (S5_X12_gives a0 a1 I J)) ∧ (¬ ((I 166 (((4 : Int32) * a0) + a1).toNatClampNeg) = 0) → ¬ ((I 160 (((6 : Int32) * a0) + (I 141 a1.toNatClampNeg)).toNatClampNeg) = (-1)) → ¬ ((I 160 (((6 : Int32) * a0) + (I 141 a1.toNatClampNeg)).toNatClampNeg) = (I 142 a1.toNatClampNeg)) → ¬ ((I 130 55) = 2) → H_X12_isSo 1 (T_X12_gives_j148 a0 a1 I J) (S4_X12_gives a0 a1 I J) (S5_X12_gives a0 a1 I J)) ∧ (¬ ((I 166 (((4 : Int32) * a0) + a1).toNatClampNeg) = 0) → ¬ ((I 160 (((6 : Int32) * a0) + (I 141 a1.toNatClampNeg)).toNatClampNeg) = (-1)) → ¬ ((I 160 (((6 : Int32) * a0) + (I 141 a1.toNatClampNeg)).toNatClampNeg) = (I 142 a1.toNatClampNeg)) → ¬ ((I 130 55) = 2) → ¬ ((S9_X12_gives a0 a1 I J) = 0) → ¬ ((((S7_X12_gives a0 a1 I J)) 130 55) = 4) → inR a1 8) ∧ (¬ ((I 166 (((4 : Int32) * a0) + a1).toNatClampNeg) = 0) → ¬ ((I 160 (((6 : Int32) * a0) + (I 141 a1.toNatClampNeg)).toNatClampNeg) = (-1)) → ¬ ((I 160 (((6 : Int32) * a0) + (I 141 a1.toNatClampNeg)).toNatClampNeg) = (I 142 a1.toNatClampNeg)) → ¬ ((I 130 55) = 2) → ¬ ((S9_X12_gives a0 a1 I J) = 0) → ¬ ((((S7_X12_gives a0 a1 I J)) 130 55) = 4) → inR (((6 : Int32) * a0) + (I 141 a1.toNatClampNeg)) 138) ∧ (¬ ((I 166 (((4 : Int32) * a0) + a1).toNatClampNeg) = 0) → ¬ ((I 160 (((6 : Int32) * a0) + (I 141 a1.toNatClampNeg)).toNatClampNeg) = (-1)) → ¬ ((I 160 (((6 : Int32) * a0) + (I 141 a1.toNatClampNeg)).toNatClampNeg) = (I 142 a1.toNatClampNeg)) → (I 130 55) = 2 → ¬ (a1 = (I 130 56)) → inR (((4 : Int32) * a0) + a1) 92) ∧ (¬ ((I 166 (((4 : Int32) * a0) + a1).toNatClampNeg) = 0) → ¬ ((I 160 (((6 : Int32) * a0) + (I 141 a1.toNatClampNeg)).toNatClampNeg) = (-1)) → ¬ ((I 160 (((6 : Int32) * a0) + (I 141 a1.toNatClampNeg)).toNatClampNeg) = (I 142 a1.toNatClampNeg)) → (I 130 55) = 2 → ¬ (a1 = (I 130 56)) → inR (((6 : Int32) * a0) + (I 141 a1.toNatClampNeg)) 138) ∧ (¬ ((I 166 (((4 : Int32) * a0) + a1).toNatClampNeg) = 0) → ¬ ((I 160 (((6 : Int32) * a0) + (I 141 a1.toNatClampNeg)).toNatClampNeg) = (-1)) → ¬ ((I 160 (((6 : Int32) * a0) + (I 141 a1.toNatClampNeg)).toNatClampNeg) = (I 142 a1.toNatClampNeg)) → (I 130 55) = 2 → ¬ (a1 = (I 130 56)) → H_X12_callsMark a0 (I 141 a1.toNatClampNeg) 0 (-1) 0 (S14_X12_gives a0 a1 I J) J) ∧ (¬ ((I 166 (((4 : Int32) * a0) + a1).toNatClampNeg) = 0) → ¬ ((I 160 (((6 : Int32) * a0) + (I 141 a1.toNatClampNeg)).toNatClampNeg) = (-1)) → ¬ ((I 160 (((6 : Int32) * a0) + (I 141 a1.toNatClampNeg)).toNatClampNeg) = (I 142 a1.toNatClampNeg)) → (I 130 55) = 2 → ¬ (a1 = (I 130 56)) → H_X12_strikeOf (I 141 a1.toNatClampNeg) (S14_X12_gives a0 a1 I J) (S15_X12_gives a0 a1 I J)) ∧ (¬ ((I 166 (((4 : Int32) * a0) + a1).toNatClampNeg) = 0) → ¬ ((I 160 (((6 : Int32) * a0) + (I 141 a1.toNatClampNeg)).toNatClampNeg) = (-1)) → ¬ ((I 160 (((6 : Int32) * a0) + (I 141 a1.toNatClampNeg)).toNatClampNeg) = (I 142 a1.toNatClampNeg)) → (I 130 55) = 2 → ¬ (a1 = (I 130 56)) → H_X12_isSo 1 (T_X12_gives_j148_2 a0 a1 I J) (S14_X12_gives a0 a1 I J) (S15_X12_gives a0 a1 I J)) ∧ (¬ ((I 166 (((4 : Int32) * a0) + a1).toNatClampNeg) = 0) → ¬ ((I 160 (((6 : Int32) * a0) + (I 141 a1.toNatClampNeg)).toNatClampNeg) = (-1)) → ¬ ((I 160 (((6 : Int32) * a0) + (I 141 a1.toNatClampNeg)).toNatClampNeg) = (I 142 a1.toNatClampNeg)) → (I 130 55) = 2 → ¬ (a1 = (I 130 56)) → ¬ ((S20_X12_gives a0 a1 I J) = 0) → ¬ ((((S18_X12_gives a0 a1 I J)) 130 55) = 4) → inR a1 8) ∧ (¬ ((I 166 (((4 : Int32) * a0) + a1).toNatClampNeg) = 0) → ¬ ((I 160 (((6 : Int32) * a0) + (I 141 a1.toNatClampNeg)).toNatClampNeg) = (-1)) → ¬ ((I 160 (((6 : Int32) * a0) + (I 141 a1.toNatClampNeg)).toNatClampNeg) = (I 142 a1.toNatClampNeg)) → (I 130 55) = 2 → ¬ (a1 = (I 130 56)) → ¬ ((S20_X12_gives a0 a1 I J) = 0) → ¬ ((((S18_X12_gives a0 a1 I J)) 130 55) = 4) → inR (((6 : Int32) * a0) + (I 141 a1.toNatClampNeg)) 138)
set_option maxHeartbeats 2770000 in
set_option maxRecDepth 40000 in
theorem c_X12_gives {I : SI} {J : SJ} {R : SR} {n g : Nat} {f : Fr} (ro : RM R) (hnn : nM ≤ n) (hf : f.1 = false) (a0 : Int32) (a1 : Int32)  (hp : H_X12_gives a0 a1 I J) : MM 4 0 0 mX12_gives [.ref 130, .int a0, .int a1] (eI f I) (eJ f J) R n g (Pd none (eI f (FI_X12_gives a0 a1 I J)) (eJ f (FJ_X12_gives a0 a1 I J)) R n g) := by
  refine MM.of (by decide) (Nat.le_of_ble_eq_true rfl) fun K ok fin => ?_
  show WK K 0 0 0 [(0, .ref 130), (1, .int a0), (2, .int a1)] [] (eI f I) (eJ f J) R n g
  obtain ⟨hp1, hp2, hp3, hp4, hp5, hp6, hp7, hp8, hp9, hp10, hp11, hp12, hp13, hp14, hp15, hp16, hp17, hp18⟩ := hp
  refine w_aload_n ok dX12_gives_0 0 rfl ?_
  refine w_getR ok dX12_gives_1 (fX12_40 rfl) (congrArg Prod.fst s_130) rfl (r_130_12 ro) (ltM hnn (by decide)) ?_
  refine w_iload_n ok dX12_gives_4 2 rfl ?_
  refine y_iald (q := a1.toNatClampNeg) ok dX12_gives_5 s_141 (hp1) (by decide) (ltM hnn (by decide)) (sdm hf (by decide)) ?_
  refine w_istore_n ok dX12_gives_6 rfl (by decide) rfl ?_
  refine w_aload_n ok dX12_gives_7 1 rfl ?_
  refine w_getR ok dX12_gives_8 (fX12_102 rfl) (congrArg Prod.fst s_130) rfl (r_130_45 ro) (ltM hnn (by decide)) ?_
  refine w_bipush (v := 6) ok dX12_gives_11 (by decide) ?_
  refine w_iload_n ok dX12_gives_13 2 rfl ?_
  refine w_imul ok dX12_gives_14 ?_
  refine w_iload_n ok dX12_gives_15 0 rfl ?_
  refine w_iadd ok dX12_gives_16 ?_
  refine y_iald (q := (((6 : Int32) * a0) + (I 141 a1.toNatClampNeg)).toNatClampNeg) ok dX12_gives_17 s_160 (hp2) (by decide) (ltM hnn (by decide)) (sdm hf (by decide)) ?_
  refine w_istore ok dX12_gives_18 (by decide) rfl ?_
  refine w_aload_n ok dX12_gives_20 2 rfl ?_
  refine w_getR ok dX12_gives_21 (fX12_120 rfl) (congrArg Prod.fst s_130) rfl (r_130_51 ro) (ltM hnn (by decide)) ?_
  refine w_iconst (v := 4) ok dX12_gives_24 (by decide) ?_
  refine w_iload_n ok dX12_gives_25 3 rfl ?_
  refine w_imul ok dX12_gives_26 ?_
  refine w_iload_n ok dX12_gives_27 4 rfl ?_
  refine w_iadd ok dX12_gives_28 ?_
  refine y_iald (q := (((4 : Int32) * a0) + a1).toNatClampNeg) ok dX12_gives_29 s_166 (hp3) (by decide) (ltM hnn (by decide)) (sdm hf (by decide)) ?_
  refine w_if_eq (tgt := 66) ok dX12_gives_30 (by decide) (fun c1 => ?_) (fun c1 => ?_)
  · skip
    exact w_vret ok fin dX12_gives_66 rfl (by unfold FI_X12_gives FJ_X12_gives; simp only [if_pos c1]; exact Pd.i)
  · skip
    refine w_iload ok dX12_gives_33 0 rfl ?_
    refine w_iconst (v := (-1)) ok dX12_gives_35 (by decide) ?_
    refine w_icmp_eq (tgt := 66) ok dX12_gives_36 (by decide) (fun c2 => ?_) (fun c2 => ?_)
    · skip
      exact w_vret ok fin dX12_gives_66 rfl (by unfold FI_X12_gives FJ_X12_gives; simp only [if_neg c1]; simp only [if_pos c2]; exact Pd.i)
    · skip
      refine w_iload ok dX12_gives_39 0 rfl ?_
      refine w_aload_n ok dX12_gives_41 2 rfl ?_
      refine w_getR ok dX12_gives_42 (fX12_43 rfl) (congrArg Prod.fst s_130) rfl (r_130_13 ro) (ltM hnn (by decide)) ?_
      refine w_iload_n ok dX12_gives_45 4 rfl ?_
      refine y_iald (q := a1.toNatClampNeg) ok dX12_gives_46 s_142 (hp4 c1 c2) (by decide) (ltM hnn (by decide)) (sdm hf (by decide)) ?_
      refine w_icmp_eq (tgt := 66) ok dX12_gives_47 (by decide) (fun c3 => ?_) (fun c3 => ?_)
      · skip
        exact w_vret ok fin dX12_gives_66 rfl (by unfold FI_X12_gives FJ_X12_gives; simp only [if_neg c1]; simp only [if_neg c2]; simp only [if_pos c3]; exact Pd.i)
      · skip
        refine w_aload_n ok dX12_gives_50 2 rfl ?_
        refine y_getI ok dX12_gives_51 (fX12_361 rfl) (congrArg Prod.fst s_130) rfl (ltM hnn (by decide)) (sdm hf (by decide)) ?_
        refine w_iconst (v := 2) ok dX12_gives_54 (by decide) ?_
        refine w_icmp_ne (tgt := 67) ok dX12_gives_55 (by decide) (fun c4 => ?_) (fun c4 => ?_)
        · skip
          refine w_aload_n ok dX12_gives_67 2 rfl ?_
          refine w_getR ok dX12_gives_68 (fX12_120 rfl) (congrArg Prod.fst s_130) rfl (r_130_51 ro) (ltM hnn (by decide)) ?_
          refine w_iconst (v := 4) ok dX12_gives_71 (by decide) ?_
          refine w_iload_n ok dX12_gives_72 3 rfl ?_
          refine w_imul ok dX12_gives_73 ?_
          refine w_iload_n ok dX12_gives_74 4 rfl ?_
          refine w_iadd ok dX12_gives_75 ?_
          refine w_dup2 ok dX12_gives_76 rfl rfl ?_
          refine y_iald (q := (((4 : Int32) * a0) + a1).toNatClampNeg) ok dX12_gives_77 s_166 (hp5 c1 c2 c3 c4) (by decide) (ltM hnn (by decide)) (sdm hf (by decide)) ?_
          refine w_iconst (v := 1) ok dX12_gives_78 (by decide) ?_
          refine w_isub ok dX12_gives_79 ?_
          refine y_iast (q := (((4 : Int32) * a0) + a1).toNatClampNeg) ok dX12_gives_80 s_166 (hp5 c1 c2 c3 c4) (by decide) (ltM hnn (by decide)) (sdm hf (by decide)) ?_
          show WK K 0 0 81 [(4, .int (I 160 (((6 : Int32) * a0) + (I 141 a1.toNatClampNeg)).toNatClampNeg)), (3, .int (I 141 a1.toNatClampNeg)), (0, .ref 130), (1, .int a0), (2, .int a1)] [] (eI f (S1_X12_gives a0 a1 I J)) (eJ f J) R n g
          refine w_aload_n ok dX12_gives_81 2 rfl ?_
          refine w_getR ok dX12_gives_82 (fX12_123 rfl) (congrArg Prod.fst s_130) rfl (r_130_52 ro) (ltM hnn (by decide)) ?_
          refine w_iconst (v := 4) ok dX12_gives_85 (by decide) ?_
          refine w_iload_n ok dX12_gives_86 3 rfl ?_
          refine w_imul ok dX12_gives_87 ?_
          refine w_iload_n ok dX12_gives_88 4 rfl ?_
          refine w_iadd ok dX12_gives_89 ?_
          refine w_dup2 ok dX12_gives_90 rfl rfl ?_
          refine y_iald (q := (((4 : Int32) * a0) + a1).toNatClampNeg) ok dX12_gives_91 s_167 (hp5 c1 c2 c3 c4) (by decide) (ltM hnn (by decide)) (sdm hf (by decide)) ?_
          refine w_iconst (v := 1) ok dX12_gives_92 (by decide) ?_
          refine w_iadd ok dX12_gives_93 ?_
          refine y_iast (q := (((4 : Int32) * a0) + a1).toNatClampNeg) ok dX12_gives_94 s_167 (hp5 c1 c2 c3 c4) (by decide) (ltM hnn (by decide)) (sdm hf (by decide)) ?_
          show WK K 0 0 95 [(4, .int (I 160 (((6 : Int32) * a0) + (I 141 a1.toNatClampNeg)).toNatClampNeg)), (3, .int (I 141 a1.toNatClampNeg)), (0, .ref 130), (1, .int a0), (2, .int a1)] [] (eI f (S2_X12_gives a0 a1 I J)) (eJ f J) R n g
          refine w_aload_n ok dX12_gives_95 2 rfl ?_
          refine w_getR ok dX12_gives_96 (fX12_105 rfl) (congrArg Prod.fst s_130) rfl (r_130_46 ro) (ltM hnn (by decide)) ?_
          refine w_bipush (v := 6) ok dX12_gives_99 (by decide) ?_
          refine w_iload_n ok dX12_gives_101 3 rfl ?_
          refine w_imul ok dX12_gives_102 ?_
          refine w_iload_n ok dX12_gives_103 1 rfl ?_
          refine w_iadd ok dX12_gives_104 ?_
          refine w_dup2 ok dX12_gives_105 rfl rfl ?_
          refine y_iald (q := (((6 : Int32) * a0) + (I 141 a1.toNatClampNeg)).toNatClampNeg) ok dX12_gives_106 s_161 (hp6 c1 c2 c3 c4) (by decide) (ltM hnn (by decide)) (sdm hf (by decide)) ?_
          refine w_iconst (v := 1) ok dX12_gives_107 (by decide) ?_
          refine w_iadd ok dX12_gives_108 ?_
          show WK K 0 0 109 [(4, .int (I 160 (((6 : Int32) * a0) + (I 141 a1.toNatClampNeg)).toNatClampNeg)), (3, .int (I 141 a1.toNatClampNeg)), (0, .ref 130), (1, .int a0), (2, .int a1)] [.int (S3_X12_gives a0 a1 I J), .int (((6 : Int32) * a0) + (I 141 a1.toNatClampNeg)), .ref 161] (eI f (S2_X12_gives a0 a1 I J)) (eJ f J) R n g
          refine y_iast (q := (((6 : Int32) * a0) + (I 141 a1.toNatClampNeg)).toNatClampNeg) ok dX12_gives_109 s_161 (hp6 c1 c2 c3 c4) (by decide) (ltM hnn (by decide)) (sdm hf (by decide)) ?_
          show WK K 0 0 110 [(4, .int (I 160 (((6 : Int32) * a0) + (I 141 a1.toNatClampNeg)).toNatClampNeg)), (3, .int (I 141 a1.toNatClampNeg)), (0, .ref 130), (1, .int a0), (2, .int a1)] [] (eI f (S4_X12_gives a0 a1 I J)) (eJ f J) R n g
          refine w_aload_n ok dX12_gives_110 2 rfl ?_
          refine w_iload_n ok dX12_gives_111 3 rfl ?_
          refine w_iload_n ok dX12_gives_112 1 rfl ?_
          refine w_iconst (v := 0) ok dX12_gives_113 (by decide) ?_
          refine w_iconst (v := (-1)) ok dX12_gives_114 (by decide) ?_
          refine w_iconst (v := 0) ok dX12_gives_115 (by decide) ?_
          refine w_cV (As := [.int a0, .int (I 141 a1.toNatClampNeg), .int 0, .int (-1), .int 0]) ok dX12_gives_116 iX12_callsMark (lX12_404 rfl) (rcv cls12 (congrArg Prod.fst s_130)) (ltM hnn (by decide)) (c_X12_callsMark ro hnn hf a0 (I 141 a1.toNatClampNeg) 0 (-1) 0  (hp7 c1 c2 c3 c4)) (by decide) rfl (Nat.le_of_ble_eq_true rfl) ?_
          show WK K 0 0 119 [(4, .int (I 160 (((6 : Int32) * a0) + (I 141 a1.toNatClampNeg)).toNatClampNeg)), (3, .int (I 141 a1.toNatClampNeg)), (0, .ref 130), (1, .int a0), (2, .int a1)] [] (eI f (S4_X12_gives a0 a1 I J)) (eJ f (S5_X12_gives a0 a1 I J)) R n g
          refine w_aload_n ok dX12_gives_119 2 rfl ?_
          refine w_iconst (v := 1) ok dX12_gives_120 (by decide) ?_
          refine w_aload_n ok dX12_gives_121 2 rfl ?_
          refine w_getR ok dX12_gives_122 (fX12_105 rfl) (congrArg Prod.fst s_130) rfl (r_130_46 ro) (ltM hnn (by decide)) ?_
          refine w_bipush (v := 6) ok dX12_gives_125 (by decide) ?_
          refine w_iload_n ok dX12_gives_127 3 rfl ?_
          refine w_imul ok dX12_gives_128 ?_
          refine w_iload_n ok dX12_gives_129 1 rfl ?_
          refine w_iadd ok dX12_gives_130 ?_
          refine y_iald (q := (((6 : Int32) * a0) + (I 141 a1.toNatClampNeg)).toNatClampNeg) ok dX12_gives_131 s_161 (hp6 c1 c2 c3 c4) (by decide) (ltM hnn (by decide)) (sdm hf (by decide)) ?_
          refine w_aload_n ok dX12_gives_132 2 rfl ?_
          refine w_iload_n ok dX12_gives_133 1 rfl ?_
          refine w_cV (As := [.int (I 141 a1.toNatClampNeg)]) ok dX12_gives_134 iX12_strikeOf (lX12_375 rfl) (rcv cls12 (congrArg Prod.fst s_130)) (ltM hnn (by decide)) (c_X12_strikeOf ro hnn hf (I 141 a1.toNatClampNeg)  (hp8 c1 c2 c3 c4)) (by decide) rfl (Nat.le_of_ble_eq_true rfl) ?_
          show WK K 0 0 137 [(4, .int (I 160 (((6 : Int32) * a0) + (I 141 a1.toNatClampNeg)).toNatClampNeg)), (3, .int (I 141 a1.toNatClampNeg)), (0, .ref 130), (1, .int a0), (2, .int a1)] [.int (F_X12_strikeOf (I 141 a1.toNatClampNeg) (S4_X12_gives a0 a1 I J) (S5_X12_gives a0 a1 I J)), .int ((S4_X12_gives a0 a1 I J) 161 (((6 : Int32) * a0) + (I 141 a1.toNatClampNeg)).toNatClampNeg), .int 1, .ref 130] (eI f (S4_X12_gives a0 a1 I J)) (eJ f (S5_X12_gives a0 a1 I J)) R n g
          refine w_bipush (v := 10) ok dX12_gives_137 (by decide) ?_
          refine w_idiv ok dX12_gives_139 (by decide) ?_
          show WK K 0 0 140 [(4, .int (I 160 (((6 : Int32) * a0) + (I 141 a1.toNatClampNeg)).toNatClampNeg)), (3, .int (I 141 a1.toNatClampNeg)), (0, .ref 130), (1, .int a0), (2, .int a1)] [.int (S6_X12_gives a0 a1 I J), .int ((S4_X12_gives a0 a1 I J) 161 (((6 : Int32) * a0) + (I 141 a1.toNatClampNeg)).toNatClampNeg), .int 1, .ref 130] (eI f (S4_X12_gives a0 a1 I J)) (eJ f (S5_X12_gives a0 a1 I J)) R n g
          have jn5 : WK K 0 0 148 [(0, .ref 130), (1, .int a0), (2, .int a1), (3, .int (I 141 a1.toNatClampNeg)), (4, .int (I 160 (((6 : Int32) * a0) + (I 141 a1.toNatClampNeg)).toNatClampNeg))] [.int (T_X12_gives_j148 a0 a1 I J), .int 1, .ref 130] (eI f (S4_X12_gives a0 a1 I J)) (eJ f (S5_X12_gives a0 a1 I J)) R n g := by
            refine w_cV (As := [.int 1, .int (T_X12_gives_j148 a0 a1 I J)]) ok dX12_gives_148 iX12_isSo (lX12_408 rfl) (rcv cls12 (congrArg Prod.fst s_130)) (ltM hnn (by decide)) (c_X12_isSo ro hnn hf 1 (T_X12_gives_j148 a0 a1 I J)  (hp9 c1 c2 c3 c4)) (by decide) rfl (Nat.le_of_ble_eq_true rfl) ?_
            show WK K 0 0 151 [(0, .ref 130), (1, .int a0), (2, .int a1), (3, .int (I 141 a1.toNatClampNeg)), (4, .int (I 160 (((6 : Int32) * a0) + (I 141 a1.toNatClampNeg)).toNatClampNeg))] [.int (S9_X12_gives a0 a1 I J)] (eI f (S7_X12_gives a0 a1 I J)) (eJ f (S8_X12_gives a0 a1 I J)) R n g
            refine w_if_eq (tgt := 179) ok dX12_gives_151 (by decide) (fun c6 => ?_) (fun c6 => ?_)
            · skip
              exact w_vret ok fin dX12_gives_179 rfl (by unfold FI_X12_gives FJ_X12_gives; simp only [if_neg c1]; simp only [if_neg c2]; simp only [if_neg c3]; simp only [if_neg c4]; simp only [if_pos c6]; exact Pd.i)
            · skip
              refine w_aload_n ok dX12_gives_154 0 rfl ?_
              refine y_getI ok dX12_gives_155 (fX12_361 rfl) (congrArg Prod.fst s_130) rfl (ltM hnn (by decide)) (sdm hf (by decide)) ?_
              refine w_iconst (v := 4) ok dX12_gives_158 (by decide) ?_
              refine w_icmp_eq (tgt := 179) ok dX12_gives_159 (by decide) (fun c7 => ?_) (fun c7 => ?_)
              · skip
                exact w_vret ok fin dX12_gives_179 rfl (by unfold FI_X12_gives FJ_X12_gives; simp only [if_neg c1]; simp only [if_neg c2]; simp only [if_neg c3]; simp only [if_neg c4]; simp only [if_neg c6]; simp only [if_pos c7]; exact Pd.i)
              · skip
                refine w_aload_n ok dX12_gives_162 0 rfl ?_
                refine w_getR ok dX12_gives_163 (fX12_102 rfl) (congrArg Prod.fst s_130) rfl (r_130_45 ro) (ltM hnn (by decide)) ?_
                refine w_bipush (v := 6) ok dX12_gives_166 (by decide) ?_
                refine w_iload_n ok dX12_gives_168 1 rfl ?_
                refine w_imul ok dX12_gives_169 ?_
                refine w_iload_n ok dX12_gives_170 3 rfl ?_
                refine w_iadd ok dX12_gives_171 ?_
                refine w_aload_n ok dX12_gives_172 0 rfl ?_
                refine w_getR ok dX12_gives_173 (fX12_43 rfl) (congrArg Prod.fst s_130) rfl (r_130_13 ro) (ltM hnn (by decide)) ?_
                refine w_iload_n ok dX12_gives_176 2 rfl ?_
                refine y_iald (q := a1.toNatClampNeg) ok dX12_gives_177 s_142 (hp10 c1 c2 c3 c4 c6 c7) (by decide) (ltM hnn (by decide)) (sdm hf (by decide)) ?_
                refine y_iast (q := (((6 : Int32) * a0) + (I 141 a1.toNatClampNeg)).toNatClampNeg) ok dX12_gives_178 s_160 (hp11 c1 c2 c3 c4 c6 c7) (by decide) (ltM hnn (by decide)) (sdm hf (by decide)) ?_
                show WK K 0 0 179 [(0, .ref 130), (1, .int a0), (2, .int a1), (3, .int (I 141 a1.toNatClampNeg)), (4, .int (I 160 (((6 : Int32) * a0) + (I 141 a1.toNatClampNeg)).toNatClampNeg))] [] (eI f (S10_X12_gives a0 a1 I J)) (eJ f (S8_X12_gives a0 a1 I J)) R n g
                exact w_vret ok fin dX12_gives_179 rfl (by unfold FI_X12_gives FJ_X12_gives; simp only [if_neg c1]; simp only [if_neg c2]; simp only [if_neg c3]; simp only [if_neg c4]; simp only [if_neg c6]; simp only [if_neg c7]; exact Pd.i)
          refine w_icmp_le (tgt := 147) ok dX12_gives_140 (by decide) (fun c8 => ?_) (fun c8 => ?_)
          · skip
            refine w_iconst (v := 0) ok dX12_gives_147 (by decide) ?_
            have eT : (T_X12_gives_j148 a0 a1 I J) = 0 := by
              unfold T_X12_gives_j148; exact (if_pos c8).trans (rfl)
            refine w_loc [2, 3, 4, 1, 0] rfl ?_
            have jj := jn5
            rw [eT] at jj
            exact jj
          · skip
            refine w_iconst (v := 1) ok dX12_gives_143 (by decide) ?_
            refine w_goto (tgt := 148) ok dX12_gives_144 (by decide) ?_
            have eT : (T_X12_gives_j148 a0 a1 I J) = 1 := by
              unfold T_X12_gives_j148; exact (if_neg c8).trans (rfl)
            refine w_loc [2, 3, 4, 1, 0] rfl ?_
            have jj := jn5
            rw [eT] at jj
            exact jj
        · skip
          refine w_iload_n ok dX12_gives_58 4 rfl ?_
          refine w_aload_n ok dX12_gives_59 2 rfl ?_
          refine y_getI ok dX12_gives_60 (fX12_126 rfl) (congrArg Prod.fst s_130) rfl (ltM hnn (by decide)) (sdm hf (by decide)) ?_
          refine w_icmp_ne (tgt := 67) ok dX12_gives_63 (by decide) (fun c9 => ?_) (fun c9 => ?_)
          · skip
            refine w_aload_n ok dX12_gives_67 2 rfl ?_
            refine w_getR ok dX12_gives_68 (fX12_120 rfl) (congrArg Prod.fst s_130) rfl (r_130_51 ro) (ltM hnn (by decide)) ?_
            refine w_iconst (v := 4) ok dX12_gives_71 (by decide) ?_
            refine w_iload_n ok dX12_gives_72 3 rfl ?_
            refine w_imul ok dX12_gives_73 ?_
            refine w_iload_n ok dX12_gives_74 4 rfl ?_
            refine w_iadd ok dX12_gives_75 ?_
            refine w_dup2 ok dX12_gives_76 rfl rfl ?_
            refine y_iald (q := (((4 : Int32) * a0) + a1).toNatClampNeg) ok dX12_gives_77 s_166 (hp12 c1 c2 c3 c4 c9) (by decide) (ltM hnn (by decide)) (sdm hf (by decide)) ?_
            refine w_iconst (v := 1) ok dX12_gives_78 (by decide) ?_
            refine w_isub ok dX12_gives_79 ?_
            refine y_iast (q := (((4 : Int32) * a0) + a1).toNatClampNeg) ok dX12_gives_80 s_166 (hp12 c1 c2 c3 c4 c9) (by decide) (ltM hnn (by decide)) (sdm hf (by decide)) ?_
            show WK K 0 0 81 [(4, .int (I 160 (((6 : Int32) * a0) + (I 141 a1.toNatClampNeg)).toNatClampNeg)), (3, .int (I 141 a1.toNatClampNeg)), (0, .ref 130), (1, .int a0), (2, .int a1)] [] (eI f (S11_X12_gives a0 a1 I J)) (eJ f J) R n g
            refine w_aload_n ok dX12_gives_81 2 rfl ?_
            refine w_getR ok dX12_gives_82 (fX12_123 rfl) (congrArg Prod.fst s_130) rfl (r_130_52 ro) (ltM hnn (by decide)) ?_
            refine w_iconst (v := 4) ok dX12_gives_85 (by decide) ?_
            refine w_iload_n ok dX12_gives_86 3 rfl ?_
            refine w_imul ok dX12_gives_87 ?_
            refine w_iload_n ok dX12_gives_88 4 rfl ?_
            refine w_iadd ok dX12_gives_89 ?_
            refine w_dup2 ok dX12_gives_90 rfl rfl ?_
            refine y_iald (q := (((4 : Int32) * a0) + a1).toNatClampNeg) ok dX12_gives_91 s_167 (hp12 c1 c2 c3 c4 c9) (by decide) (ltM hnn (by decide)) (sdm hf (by decide)) ?_
            refine w_iconst (v := 1) ok dX12_gives_92 (by decide) ?_
            refine w_iadd ok dX12_gives_93 ?_
            refine y_iast (q := (((4 : Int32) * a0) + a1).toNatClampNeg) ok dX12_gives_94 s_167 (hp12 c1 c2 c3 c4 c9) (by decide) (ltM hnn (by decide)) (sdm hf (by decide)) ?_
            show WK K 0 0 95 [(4, .int (I 160 (((6 : Int32) * a0) + (I 141 a1.toNatClampNeg)).toNatClampNeg)), (3, .int (I 141 a1.toNatClampNeg)), (0, .ref 130), (1, .int a0), (2, .int a1)] [] (eI f (S12_X12_gives a0 a1 I J)) (eJ f J) R n g
            refine w_aload_n ok dX12_gives_95 2 rfl ?_
            refine w_getR ok dX12_gives_96 (fX12_105 rfl) (congrArg Prod.fst s_130) rfl (r_130_46 ro) (ltM hnn (by decide)) ?_
            refine w_bipush (v := 6) ok dX12_gives_99 (by decide) ?_
            refine w_iload_n ok dX12_gives_101 3 rfl ?_
            refine w_imul ok dX12_gives_102 ?_
            refine w_iload_n ok dX12_gives_103 1 rfl ?_
            refine w_iadd ok dX12_gives_104 ?_
            refine w_dup2 ok dX12_gives_105 rfl rfl ?_
            refine y_iald (q := (((6 : Int32) * a0) + (I 141 a1.toNatClampNeg)).toNatClampNeg) ok dX12_gives_106 s_161 (hp13 c1 c2 c3 c4 c9) (by decide) (ltM hnn (by decide)) (sdm hf (by decide)) ?_
            show WK K 0 0 107 [(4, .int (I 160 (((6 : Int32) * a0) + (I 141 a1.toNatClampNeg)).toNatClampNeg)), (3, .int (I 141 a1.toNatClampNeg)), (0, .ref 130), (1, .int a0), (2, .int a1)] [.int (S13_X12_gives a0 a1 I J), .int (((6 : Int32) * a0) + (I 141 a1.toNatClampNeg)), .ref 161] (eI f (S12_X12_gives a0 a1 I J)) (eJ f J) R n g
            refine w_iconst (v := 1) ok dX12_gives_107 (by decide) ?_
            refine w_iadd ok dX12_gives_108 ?_
            refine y_iast (q := (((6 : Int32) * a0) + (I 141 a1.toNatClampNeg)).toNatClampNeg) ok dX12_gives_109 s_161 (hp13 c1 c2 c3 c4 c9) (by decide) (ltM hnn (by decide)) (sdm hf (by decide)) ?_
            show WK K 0 0 110 [(4, .int (I 160 (((6 : Int32) * a0) + (I 141 a1.toNatClampNeg)).toNatClampNeg)), (3, .int (I 141 a1.toNatClampNeg)), (0, .ref 130), (1, .int a0), (2, .int a1)] [] (eI f (S14_X12_gives a0 a1 I J)) (eJ f J) R n g
            refine w_aload_n ok dX12_gives_110 2 rfl ?_
            refine w_iload_n ok dX12_gives_111 3 rfl ?_
            refine w_iload_n ok dX12_gives_112 1 rfl ?_
            refine w_iconst (v := 0) ok dX12_gives_113 (by decide) ?_
            refine w_iconst (v := (-1)) ok dX12_gives_114 (by decide) ?_
            refine w_iconst (v := 0) ok dX12_gives_115 (by decide) ?_
            refine w_cV (As := [.int a0, .int (I 141 a1.toNatClampNeg), .int 0, .int (-1), .int 0]) ok dX12_gives_116 iX12_callsMark (lX12_404 rfl) (rcv cls12 (congrArg Prod.fst s_130)) (ltM hnn (by decide)) (c_X12_callsMark ro hnn hf a0 (I 141 a1.toNatClampNeg) 0 (-1) 0  (hp14 c1 c2 c3 c4 c9)) (by decide) rfl (Nat.le_of_ble_eq_true rfl) ?_
            show WK K 0 0 119 [(4, .int (I 160 (((6 : Int32) * a0) + (I 141 a1.toNatClampNeg)).toNatClampNeg)), (3, .int (I 141 a1.toNatClampNeg)), (0, .ref 130), (1, .int a0), (2, .int a1)] [] (eI f (S14_X12_gives a0 a1 I J)) (eJ f (S15_X12_gives a0 a1 I J)) R n g
            refine w_aload_n ok dX12_gives_119 2 rfl ?_
            refine w_iconst (v := 1) ok dX12_gives_120 (by decide) ?_
            refine w_aload_n ok dX12_gives_121 2 rfl ?_
            refine w_getR ok dX12_gives_122 (fX12_105 rfl) (congrArg Prod.fst s_130) rfl (r_130_46 ro) (ltM hnn (by decide)) ?_
            refine w_bipush (v := 6) ok dX12_gives_125 (by decide) ?_
            refine w_iload_n ok dX12_gives_127 3 rfl ?_
            refine w_imul ok dX12_gives_128 ?_
            refine w_iload_n ok dX12_gives_129 1 rfl ?_
            refine w_iadd ok dX12_gives_130 ?_
            refine y_iald (q := (((6 : Int32) * a0) + (I 141 a1.toNatClampNeg)).toNatClampNeg) ok dX12_gives_131 s_161 (hp13 c1 c2 c3 c4 c9) (by decide) (ltM hnn (by decide)) (sdm hf (by decide)) ?_
            show WK K 0 0 132 [(4, .int (I 160 (((6 : Int32) * a0) + (I 141 a1.toNatClampNeg)).toNatClampNeg)), (3, .int (I 141 a1.toNatClampNeg)), (0, .ref 130), (1, .int a0), (2, .int a1)] [.int (S16_X12_gives a0 a1 I J), .int 1, .ref 130] (eI f (S14_X12_gives a0 a1 I J)) (eJ f (S15_X12_gives a0 a1 I J)) R n g
            refine w_aload_n ok dX12_gives_132 2 rfl ?_
            refine w_iload_n ok dX12_gives_133 1 rfl ?_
            refine w_cV (As := [.int (I 141 a1.toNatClampNeg)]) ok dX12_gives_134 iX12_strikeOf (lX12_375 rfl) (rcv cls12 (congrArg Prod.fst s_130)) (ltM hnn (by decide)) (c_X12_strikeOf ro hnn hf (I 141 a1.toNatClampNeg)  (hp15 c1 c2 c3 c4 c9)) (by decide) rfl (Nat.le_of_ble_eq_true rfl) ?_
            show WK K 0 0 137 [(4, .int (I 160 (((6 : Int32) * a0) + (I 141 a1.toNatClampNeg)).toNatClampNeg)), (3, .int (I 141 a1.toNatClampNeg)), (0, .ref 130), (1, .int a0), (2, .int a1)] [.int (S17_X12_gives a0 a1 I J), .int (S16_X12_gives a0 a1 I J), .int 1, .ref 130] (eI f (S14_X12_gives a0 a1 I J)) (eJ f (S15_X12_gives a0 a1 I J)) R n g
            refine w_bipush (v := 10) ok dX12_gives_137 (by decide) ?_
            refine w_idiv ok dX12_gives_139 (by decide) ?_
            have jn10 : WK K 0 0 148 [(0, .ref 130), (1, .int a0), (2, .int a1), (3, .int (I 141 a1.toNatClampNeg)), (4, .int (I 160 (((6 : Int32) * a0) + (I 141 a1.toNatClampNeg)).toNatClampNeg))] [.int (T_X12_gives_j148_2 a0 a1 I J), .int 1, .ref 130] (eI f (S14_X12_gives a0 a1 I J)) (eJ f (S15_X12_gives a0 a1 I J)) R n g := by
              refine w_cV (As := [.int 1, .int (T_X12_gives_j148_2 a0 a1 I J)]) ok dX12_gives_148 iX12_isSo (lX12_408 rfl) (rcv cls12 (congrArg Prod.fst s_130)) (ltM hnn (by decide)) (c_X12_isSo ro hnn hf 1 (T_X12_gives_j148_2 a0 a1 I J)  (hp16 c1 c2 c3 c4 c9)) (by decide) rfl (Nat.le_of_ble_eq_true rfl) ?_
              show WK K 0 0 151 [(0, .ref 130), (1, .int a0), (2, .int a1), (3, .int (I 141 a1.toNatClampNeg)), (4, .int (I 160 (((6 : Int32) * a0) + (I 141 a1.toNatClampNeg)).toNatClampNeg))] [.int (S20_X12_gives a0 a1 I J)] (eI f (S18_X12_gives a0 a1 I J)) (eJ f (S19_X12_gives a0 a1 I J)) R n g
              refine w_if_eq (tgt := 179) ok dX12_gives_151 (by decide) (fun c11 => ?_) (fun c11 => ?_)
              · skip
                exact w_vret ok fin dX12_gives_179 rfl (by unfold FI_X12_gives FJ_X12_gives; simp only [if_neg c1]; simp only [if_neg c2]; simp only [if_neg c3]; simp only [if_pos c4]; simp only [if_neg c9]; simp only [if_pos c11]; exact Pd.i)
              · skip
                refine w_aload_n ok dX12_gives_154 0 rfl ?_
                refine y_getI ok dX12_gives_155 (fX12_361 rfl) (congrArg Prod.fst s_130) rfl (ltM hnn (by decide)) (sdm hf (by decide)) ?_
                refine w_iconst (v := 4) ok dX12_gives_158 (by decide) ?_
                refine w_icmp_eq (tgt := 179) ok dX12_gives_159 (by decide) (fun c12 => ?_) (fun c12 => ?_)
                · skip
                  exact w_vret ok fin dX12_gives_179 rfl (by unfold FI_X12_gives FJ_X12_gives; simp only [if_neg c1]; simp only [if_neg c2]; simp only [if_neg c3]; simp only [if_pos c4]; simp only [if_neg c9]; simp only [if_neg c11]; simp only [if_pos c12]; exact Pd.i)
                · skip
                  refine w_aload_n ok dX12_gives_162 0 rfl ?_
                  refine w_getR ok dX12_gives_163 (fX12_102 rfl) (congrArg Prod.fst s_130) rfl (r_130_45 ro) (ltM hnn (by decide)) ?_
                  refine w_bipush (v := 6) ok dX12_gives_166 (by decide) ?_
                  refine w_iload_n ok dX12_gives_168 1 rfl ?_
                  refine w_imul ok dX12_gives_169 ?_
                  refine w_iload_n ok dX12_gives_170 3 rfl ?_
                  refine w_iadd ok dX12_gives_171 ?_
                  refine w_aload_n ok dX12_gives_172 0 rfl ?_
                  refine w_getR ok dX12_gives_173 (fX12_43 rfl) (congrArg Prod.fst s_130) rfl (r_130_13 ro) (ltM hnn (by decide)) ?_
                  refine w_iload_n ok dX12_gives_176 2 rfl ?_
                  refine y_iald (q := a1.toNatClampNeg) ok dX12_gives_177 s_142 (hp17 c1 c2 c3 c4 c9 c11 c12) (by decide) (ltM hnn (by decide)) (sdm hf (by decide)) ?_
                  refine y_iast (q := (((6 : Int32) * a0) + (I 141 a1.toNatClampNeg)).toNatClampNeg) ok dX12_gives_178 s_160 (hp18 c1 c2 c3 c4 c9 c11 c12) (by decide) (ltM hnn (by decide)) (sdm hf (by decide)) ?_
                  show WK K 0 0 179 [(0, .ref 130), (1, .int a0), (2, .int a1), (3, .int (I 141 a1.toNatClampNeg)), (4, .int (I 160 (((6 : Int32) * a0) + (I 141 a1.toNatClampNeg)).toNatClampNeg))] [] (eI f (S21_X12_gives a0 a1 I J)) (eJ f (S19_X12_gives a0 a1 I J)) R n g
                  exact w_vret ok fin dX12_gives_179 rfl (by unfold FI_X12_gives FJ_X12_gives; simp only [if_neg c1]; simp only [if_neg c2]; simp only [if_neg c3]; simp only [if_pos c4]; simp only [if_neg c9]; simp only [if_neg c11]; simp only [if_neg c12]; exact Pd.i)
            refine w_icmp_le (tgt := 147) ok dX12_gives_140 (by decide) (fun c13 => ?_) (fun c13 => ?_)
            · skip
              refine w_iconst (v := 0) ok dX12_gives_147 (by decide) ?_
              have eT : (T_X12_gives_j148_2 a0 a1 I J) = 0 := by
                unfold T_X12_gives_j148_2; exact (if_pos c13).trans (rfl)
              refine w_loc [2, 3, 4, 1, 0] rfl ?_
              have jj := jn10
              rw [eT] at jj
              exact jj
            · skip
              refine w_iconst (v := 1) ok dX12_gives_143 (by decide) ?_
              refine w_goto (tgt := 148) ok dX12_gives_144 (by decide) ?_
              have eT : (T_X12_gives_j148_2 a0 a1 I J) = 1 := by
                unfold T_X12_gives_j148_2; exact (if_neg c13).trans (rfl)
              refine w_loc [2, 3, 4, 1, 0] rfl ?_
              have jj := jn10
              rw [eT] at jj
              exact jj
          · skip
            exact w_vret ok fin dX12_gives_66 rfl (by unfold FI_X12_gives FJ_X12_gives; simp only [if_neg c1]; simp only [if_neg c2]; simp only [if_neg c3]; simp only [if_pos c4]; simp only [if_pos c9]; exact Pd.i)
def F_X12_priceOf (a0 : Int32) (a1 : Int32) (I : SI) (J : SJ) : Int32 := if (F_X12_hasLaw 2 I (FJ_X12_callsShot a0 a1 I J)) = 0 then I 137 a1.toNatClampNeg else (if (F_X12_goes 2 I (FJ_X12_callsShot a0 a1 I J)) = 0 then (FI_X12_goes 2 I (FJ_X12_callsShot a0 a1 I J)) 137 a1.toNatClampNeg else (maxL (0) (minL (999) ((FJ_X12_goes 2 I (FJ_X12_callsShot a0 a1 I J)) 153 0))).toInt32)
def FI_X12_priceOf (a0 : Int32) (a1 : Int32) (I : SI) (J : SJ) : SI := if (F_X12_hasLaw 2 I (FJ_X12_callsShot a0 a1 I J)) = 0 then I else (if (F_X12_goes 2 I (FJ_X12_callsShot a0 a1 I J)) = 0 then FI_X12_goes 2 I (FJ_X12_callsShot a0 a1 I J) else FI_X12_goes 2 I (FJ_X12_callsShot a0 a1 I J))
def FJ_X12_priceOf (a0 : Int32) (a1 : Int32) (I : SI) (J : SJ) : SJ := if (F_X12_hasLaw 2 I (FJ_X12_callsShot a0 a1 I J)) = 0 then FJ_X12_callsShot a0 a1 I J else (if (F_X12_goes 2 I (FJ_X12_callsShot a0 a1 I J)) = 0 then FJ_X12_goes 2 I (FJ_X12_callsShot a0 a1 I J) else FJ_X12_goes 2 I (FJ_X12_callsShot a0 a1 I J))
def H_X12_priceOf (a0 : Int32) (a1 : Int32) (I : SI) (J : SJ) : Prop := (H_X12_callsShot a0 a1 I J) ∧ (H_X12_hasLaw 2 I (FJ_X12_callsShot a0 a1 I J)) ∧ ((F_X12_hasLaw 2 I (FJ_X12_callsShot a0 a1 I J)) = 0 → inR a1 16) ∧ (¬ ((F_X12_hasLaw 2 I (FJ_X12_callsShot a0 a1 I J)) = 0) → H_X12_goes 2 I (FJ_X12_callsShot a0 a1 I J)) ∧ (¬ ((F_X12_hasLaw 2 I (FJ_X12_callsShot a0 a1 I J)) = 0) → (F_X12_goes 2 I (FJ_X12_callsShot a0 a1 I J)) = 0 → inR a1 16)
set_option maxHeartbeats 1000000 in
set_option maxRecDepth 40000 in
theorem c_X12_priceOf {I : SI} {J : SJ} {R : SR} {n g : Nat} {f : Fr} (ro : RM R) (hnn : nM ≤ n) (hf : f.1 = false) (a0 : Int32) (a1 : Int32)  (hp : H_X12_priceOf a0 a1 I J) : MM 4 0 0 mX12_priceOf [.ref 130, .int a0, .int a1] (eI f I) (eJ f J) R n g (Pd (some (.int (F_X12_priceOf a0 a1 I J))) (eI f (FI_X12_priceOf a0 a1 I J)) (eJ f (FJ_X12_priceOf a0 a1 I J)) R n g) := by
  refine MM.of (by decide) (Nat.le_of_ble_eq_true rfl) fun K ok fin => ?_
  show WK K 0 0 0 [(0, .ref 130), (1, .int a0), (2, .int a1)] [] (eI f I) (eJ f J) R n g
  obtain ⟨hp1, hp2, hp3, hp4, hp5⟩ := hp
  refine w_aload_n ok dX12_priceOf_0 0 rfl ?_
  refine w_iload_n ok dX12_priceOf_1 1 rfl ?_
  refine w_iload_n ok dX12_priceOf_2 2 rfl ?_
  refine w_cV (As := [.int a0, .int a1]) ok dX12_priceOf_3 iX12_callsShot (lX12_412 rfl) (rcv cls12 (congrArg Prod.fst s_130)) (ltM hnn (by decide)) (c_X12_callsShot ro hnn hf a0 a1  (hp1)) (by decide) rfl (Nat.le_of_ble_eq_true rfl) ?_
  refine w_aload_n ok dX12_priceOf_6 0 rfl ?_
  refine w_iconst (v := 2) ok dX12_priceOf_7 (by decide) ?_
  refine w_cV (As := [.int 2]) ok dX12_priceOf_8 iX12_hasLaw (lX12_388 rfl) (rcv cls12 (congrArg Prod.fst s_130)) (ltM hnn (by decide)) (c_X12_hasLaw ro hnn hf 2  (hp2)) (by decide) rfl (Nat.le_of_ble_eq_true rfl) ?_
  refine w_if_eq (tgt := 42) ok dX12_priceOf_11 (by decide) (fun c1 => ?_) (fun c1 => ?_)
  · skip
    refine w_aload_n ok dX12_priceOf_42 0 rfl ?_
    refine w_getR ok dX12_priceOf_43 (fX12_28 rfl) (congrArg Prod.fst s_130) rfl (r_130_8 ro) (ltM hnn (by decide)) ?_
    refine w_iload_n ok dX12_priceOf_46 2 rfl ?_
    refine y_iald (q := a1.toNatClampNeg) ok dX12_priceOf_47 s_137 (hp3 c1) (by decide) (ltM hnn (by decide)) (sdm hf (by decide)) ?_
    exact w_iret ok fin dX12_priceOf_48 rfl (by unfold F_X12_priceOf FI_X12_priceOf FJ_X12_priceOf; simp only [if_pos c1]; exact Pd.i)
  · skip
    refine w_aload_n ok dX12_priceOf_14 0 rfl ?_
    refine w_iconst (v := 2) ok dX12_priceOf_15 (by decide) ?_
    refine w_cV (As := [.int 2]) ok dX12_priceOf_16 iX12_goes (lX12_391 rfl) (rcv cls12 (congrArg Prod.fst s_130)) (ltM hnn (by decide)) (c_X12_goes ro hnn hf 2  (hp4 c1)) (by decide) rfl (Nat.le_of_ble_eq_true rfl) ?_
    refine w_if_eq (tgt := 42) ok dX12_priceOf_19 (by decide) (fun c2 => ?_) (fun c2 => ?_)
    · skip
      refine w_aload_n ok dX12_priceOf_42 0 rfl ?_
      refine w_getR ok dX12_priceOf_43 (fX12_28 rfl) (congrArg Prod.fst s_130) rfl (r_130_8 ro) (ltM hnn (by decide)) ?_
      refine w_iload_n ok dX12_priceOf_46 2 rfl ?_
      refine y_iald (q := a1.toNatClampNeg) ok dX12_priceOf_47 s_137 (hp5 c1 c2) (by decide) (ltM hnn (by decide)) (sdm hf (by decide)) ?_
      exact w_iret ok fin dX12_priceOf_48 rfl (by unfold F_X12_priceOf FI_X12_priceOf FJ_X12_priceOf; simp only [if_neg c1]; simp only [if_pos c2]; exact Pd.i)
    · skip
      refine w_lconst (v := 0) ok dX12_priceOf_22 (by decide) ?_
      refine w_ldc2 ok dX12_priceOf_23 kX12_415 ?_
      refine w_aload_n ok dX12_priceOf_26 0 rfl ?_
      refine w_getR ok dX12_priceOf_27 (fX12_81 rfl) (congrArg Prod.fst s_130) rfl (r_130_37 ro) (ltM hnn (by decide)) ?_
      refine w_iconst (v := 0) ok dX12_priceOf_30 (by decide) ?_
      refine y_lald (q := 0) ok dX12_priceOf_31 s_153 (by decide) (by decide) (ltM hnn (by decide)) (sdm hf (by decide)) ?_
      refine w_minL ok dX12_priceOf_32 (iT_8 151 (by decide +kernel) (by decide +kernel)) (Nat.le_of_ble_eq_true rfl) ?_
      show WK K 0 0 35 [(0, .ref 130), (1, .int a0), (2, .int a1)] [.long (minL (999) ((FJ_X12_goes 2 I (FJ_X12_callsShot a0 a1 I J)) 153 0)), .long 0] (eI f (FI_X12_goes 2 I (FJ_X12_callsShot a0 a1 I J))) (eJ f (FJ_X12_goes 2 I (FJ_X12_callsShot a0 a1 I J))) R n g
      refine w_maxL ok dX12_priceOf_35 (iT_8 152 (by decide +kernel) (by decide +kernel)) (Nat.le_of_ble_eq_true rfl) ?_
      refine w_l2i ok dX12_priceOf_38 ?_
      refine w_goto (tgt := 48) ok dX12_priceOf_39 (by decide) ?_
      exact w_iret ok fin dX12_priceOf_48 rfl (by unfold F_X12_priceOf FI_X12_priceOf FJ_X12_priceOf; simp only [if_neg c1]; simp only [if_neg c2]; exact Pd.i)
def S1_X12_filmsAgain (a0 : Int32) (I : SI) (J : SJ) (s2 : Int32 × SI × SJ) : SI := FI_X12_priceOf a0 s2.1 (FI_X12_priceOf a0 s2.1 s2.2.1 s2.2.2) (FJ_X12_priceOf a0 s2.1 s2.2.1 s2.2.2)
def S2_X12_filmsAgain (a0 : Int32) (I : SI) (J : SJ) (s2 : Int32 × SI × SJ) : SJ := FJ_X12_priceOf a0 s2.1 (FI_X12_priceOf a0 s2.1 s2.2.1 s2.2.2) (FJ_X12_priceOf a0 s2.1 s2.2.1 s2.2.2)
def S3_X12_filmsAgain (a0 : Int32) (I : SI) (J : SJ) (s2 : Int32 × SI × SJ) : Int32 := F_X12_priceOf a0 s2.1 (FI_X12_priceOf a0 s2.1 s2.2.1 s2.2.2) (FJ_X12_priceOf a0 s2.1 s2.2.1 s2.2.2)
def S4_X12_filmsAgain (a0 : Int32) (I : SI) (J : SJ) (s2 : Int32 × SI × SJ) : Int32 := ((FI_X12_priceOf a0 s2.1 s2.2.1 s2.2.2) 156 a0.toNatClampNeg) - (S3_X12_filmsAgain a0 I J s2)
def S5_X12_filmsAgain (a0 : Int32) (I : SI) (J : SJ) (s2 : Int32 × SI × SJ) : SI := u2 (S1_X12_filmsAgain a0 I J s2) 156 a0.toNatClampNeg (S4_X12_filmsAgain a0 I J s2)
def S6_X12_filmsAgain (a0 : Int32) (I : SI) (J : SJ) (s2 : Int32 × SI × SJ) : SI := u2 (S5_X12_filmsAgain a0 I J s2) 164 (((8 : Int32) * a0) + s2.1).toNatClampNeg (((S5_X12_filmsAgain a0 I J s2) 164 (((8 : Int32) * a0) + s2.1).toNatClampNeg) + 1)
def S7_X12_filmsAgain (a0 : Int32) (I : SI) (J : SJ) (s2 : Int32 × SI × SJ) (s71 : Int32 × SI) : SI := u2 s71.2 165 ((((48 : Int32) * a0) + ((6 : Int32) * s2.1)) + s71.1).toNatClampNeg (s71.2 160 (((6 : Int32) * a0) + s71.1).toNatClampNeg)
def B_X12_filmsAgain_w71_3 (a0 : Int32) (I : SI) (J : SJ) (s2 : Int32 × SI × SJ) (s71 : Int32 × SI) : (Int32 × SI) ⊕ (Int32 × SI) := if (s71.2 132 0) ≤ s71.1 then .inr (s71.1, s71.2) else (if (s71.2 165 ((((48 : Int32) * a0) + ((6 : Int32) * s2.1)) + s71.1).toNatClampNeg) = (-1) then .inl ((s71.1 + 1), s71.2) else (if (s71.2 160 (((6 : Int32) * a0) + s71.1).toNatClampNeg) = (-1) then .inl ((s71.1 + 1), s71.2) else .inl ((s71.1 + 1), (S7_X12_filmsAgain a0 I J s2 s71))))
def F_X12_filmsAgain_w71_3 (a0 : Int32) (I : SI) (J : SJ) (s2 : Int32 × SI × SJ) (s0 : Int32 × SI) : Int32 × SI := (itW (B_X12_filmsAgain_w71_3 a0 I J s2) 800 s0).getD s0
def B_X12_filmsAgain_w2 (a0 : Int32) (I : SI) (J : SJ) (s2 : Int32 × SI × SJ) : (Int32 × SI × SJ) ⊕ ((Int32 × SI × SJ) ⊕ (SI × SJ)) := if (s2.2.1 132 1) ≤ s2.1 then .inr (.inl (s2.1, s2.2.1, s2.2.2)) else (if (F_X12_clashesOf a0 s2.1 s2.2.1 s2.2.2) = 0 then .inl ((s2.1 + 1), s2.2.1, s2.2.2) else (if (F_X12_priceOf a0 s2.1 s2.2.1 s2.2.2) ≤ ((FI_X12_priceOf a0 s2.1 s2.2.1 s2.2.2) 156 a0.toNatClampNeg) then .inr (.inr (((F_X12_filmsAgain_w71_3 a0 I J s2 (0, (S6_X12_filmsAgain a0 I J s2))).2), (S2_X12_filmsAgain a0 I J s2))) else .inl ((s2.1 + 1), (FI_X12_priceOf a0 s2.1 s2.2.1 s2.2.2), (FJ_X12_priceOf a0 s2.1 s2.2.1 s2.2.2))))
def F_X12_filmsAgain_w2 (a0 : Int32) (I : SI) (J : SJ) (s0 : Int32 × SI × SJ) : (Int32 × SI × SJ) ⊕ (SI × SJ) := (itW (B_X12_filmsAgain_w2 a0 I J) 800 s0).getD (.inl s0)
def FI_X12_filmsAgain (a0 : Int32) (I : SI) (J : SJ) : SI := (match (F_X12_filmsAgain_w2 a0 I J (0, I, J)) with | .inl se2 => se2.2.1 | .inr re2 => re2.1)
def FJ_X12_filmsAgain (a0 : Int32) (I : SI) (J : SJ) : SJ := (match (F_X12_filmsAgain_w2 a0 I J (0, I, J)) with | .inl se2 => se2.2.2 | .inr re2 => re2.2)
def H_X12_filmsAgain (a0 : Int32) (I : SI) (J : SJ) : Prop := ((itW (B_X12_filmsAgain_w2 a0 I J) 800 (0, I, J)).isSome = true) ∧ (∀ (n2 : Nat) (s2 : Int32 × SI × SJ), wN (B_X12_filmsAgain_w2 a0 I J) n2 (0, I, J) = some s2 → ¬ ((s2.2.1 132 1) ≤ s2.1) → H_X12_clashesOf a0 s2.1 s2.2.1 s2.2.2) ∧ (∀ (n2 : Nat) (s2 : Int32 × SI × SJ), wN (B_X12_filmsAgain_w2 a0 I J) n2 (0, I, J) = some s2 → ¬ ((s2.2.1 132 1) ≤ s2.1) → ¬ ((F_X12_clashesOf a0 s2.1 s2.2.1 s2.2.2) = 0) → H_X12_priceOf a0 s2.1 s2.2.1 s2.2.2) ∧ (∀ (n2 : Nat) (s2 : Int32 × SI × SJ), wN (B_X12_filmsAgain_w2 a0 I J) n2 (0, I, J) = some s2 → ¬ ((s2.2.1 132 1) ≤ s2.1) → ¬ ((F_X12_clashesOf a0 s2.1 s2.2.1 s2.2.2) = 0) → inR a0 23) ∧ (∀ (n2 : Nat) (s2 : Int32 × SI × SJ), wN (B_X12_filmsAgain_w2 a0 I J) n2 (0, I, J) = some s2 → ¬ ((s2.2.1 132 1) ≤ s2.1) → ¬ ((F_X12_clashesOf a0 s2.1 s2.2.1 s2.2.2) = 0) → (F_X12_priceOf a0 s2.1 s2.2.1 s2.2.2) ≤ ((FI_X12_priceOf a0 s2.1 s2.2.1 s2.2.2) 156 a0.toNatClampNeg) → inR a0 23) ∧ (∀ (n2 : Nat) (s2 : Int32 × SI × SJ), wN (B_X12_filmsAgain_w2 a0 I J) n2 (0, I, J) = some s2 → ¬ ((s2.2.1 132 1) ≤ s2.1) → ¬ ((F_X12_clashesOf a0 s2.1 s2.2.1 s2.2.2) = 0) → (F_X12_priceOf a0 s2.1 s2.2.1 s2.2.2) ≤ ((FI_X12_priceOf a0 s2.1 s2.2.1 s2.2.2) 156 a0.toNatClampNeg) → H_X12_priceOf a0 s2.1 (FI_X12_priceOf a0 s2.1 s2.2.1 s2.2.2) (FJ_X12_priceOf a0 s2.1 s2.2.1 s2.2.2)) ∧ (∀ (n2 : Nat) (s2 : Int32 × SI × SJ), wN (B_X12_filmsAgain_w2 a0 I J) n2 (0, I, J) = some s2 → ¬ ((s2.2.1 132 1) ≤ s2.1) → ¬ ((F_X12_clashesOf a0 s2.1 s2.2.1 s2.2.2) = 0) → (F_X12_priceOf a0 s2.1 s2.2.1 s2.2.2) ≤ ((FI_X12_priceOf a0 s2.1 s2.2.1 s2.2.2) 156 a0.toNatClampNeg) → inR (((8 : Int32) * a0) + s2.1) 184) ∧ (∀ (n2 : Nat) (s2 : Int32 × SI × SJ), wN (B_X12_filmsAgain_w2 a0 I J) n2 (0, I, J) = some s2 → ¬ ((s2.2.1 132 1) ≤ s2.1) → ¬ ((F_X12_clashesOf a0 s2.1 s2.2.1 s2.2.2) = 0) → (F_X12_priceOf a0 s2.1 s2.2.1 s2.2.2) ≤ ((FI_X12_priceOf a0 s2.1 s2.2.1 s2.2.2) 156 a0.toNatClampNeg) → (itW (B_X12_filmsAgain_w71_3 a0 I J s2) 800 (0, (S6_X12_filmsAgain a0 I J s2))).isSome = true) ∧ (∀ (n2 : Nat) (s2 : Int32 × SI × SJ), wN (B_X12_filmsAgain_w2 a0 I J) n2 (0, I, J) = some s2 → ¬ ((s2.2.1 132 1) ≤ s2.1) → ¬ ((F_X12_clashesOf a0 s2.1 s2.2.1 s2.2.2) = 0) → (F_X12_priceOf a0 s2.1 s2.2.1 s2.2.2) ≤ ((FI_X12_priceOf a0 s2.1 s2.2.1 s2.2.2) 156 a0.toNatClampNeg) → ∀ (n71 : Nat) (s71 : Int32 × SI), wN (B_X12_filmsAgain_w71_3 a0 I J s2) n71 (0, (S6_X12_filmsAgain a0 I J s2)) = some s71 → ¬ ((s71.2 132 0) ≤ s71.1) → inR ((((48 : Int32) * a0) + ((6 : Int32) * s2.1)) + s71.1) 1104) ∧ (∀ (n2 : Nat) (s2 : Int32 × SI × SJ), wN (B_X12_filmsAgain_w2 a0 I J) n2 (0, I, J) = some s2 → ¬ ((s2.2.1 132 1) ≤ s2.1) → ¬ ((F_X12_clashesOf a0 s2.1 s2.2.1 s2.2.2) = 0) → (F_X12_priceOf a0 s2.1 s2.2.1 s2.2.2) ≤ ((FI_X12_priceOf a0 s2.1 s2.2.1 s2.2.2) 156 a0.toNatClampNeg) → ∀ (n71 : Nat) (s71 : Int32 × SI), wN (B_X12_filmsAgain_w71_3 a0 I J s2) n71 (0, (S6_X12_filmsAgain a0 I J s2)) = some s71 → ¬ ((s71.2 132 0) ≤ s71.1) → ¬ ((s71.2 165 ((((48 : Int32) * a0) + ((6 : Int32) * s2.1)) + s71.1).toNatClampNeg) = (-1)) → inR (((6 : Int32) * a0) + s71.1) 138) ∧ (∀ (n2 : Nat) (s2 : Int32 × SI × SJ), wN (B_X12_filmsAgain_w2 a0 I J) n2 (0, I, J) = some s2 → ¬ ((s2.2.1 132 1) ≤ s2.1) → ¬ ((F_X12_clashesOf a0 s2.1 s2.2.1 s2.2.2) = 0) → (F_X12_priceOf a0 s2.1 s2.2.1 s2.2.2) ≤ ((FI_X12_priceOf a0 s2.1 s2.2.1 s2.2.2) 156 a0.toNatClampNeg) → ∀ (n71 : Nat) (s71 : Int32 × SI), wN (B_X12_filmsAgain_w71_3 a0 I J s2) n71 (0, (S6_X12_filmsAgain a0 I J s2)) = some s71 → ¬ ((s71.2 132 0) ≤ s71.1) → ¬ ((s71.2 165 ((((48 : Int32) * a0) + ((6 : Int32) * s2.1)) + s71.1).toNatClampNeg) = (-1)) → ¬ ((s71.2 160 (((6 : Int32) * a0) + s71.1).toNatClampNeg) = (-1)) → inR (((6 : Int32) * a0) + s71.1) 138) ∧ (∀ (n2 : Nat) (s2 : Int32 × SI × SJ), wN (B_X12_filmsAgain_w2 a0 I J) n2 (0, I, J) = some s2 → ¬ ((s2.2.1 132 1) ≤ s2.1) → ¬ ((F_X12_clashesOf a0 s2.1 s2.2.1 s2.2.2) = 0) → (F_X12_priceOf a0 s2.1 s2.2.1 s2.2.2) ≤ ((FI_X12_priceOf a0 s2.1 s2.2.1 s2.2.2) 156 a0.toNatClampNeg) → ∀ (n71 : Nat) (s71 : Int32 × SI), wN (B_X12_filmsAgain_w71_3 a0 I J s2) n71 (0, (S6_X12_filmsAgain a0 I J s2)) = some s71 → ¬ ((s71.2 132 0) ≤ s71.1) → ¬ ((s71.2 165 ((((48 : Int32) * a0) + ((6 : Int32) * s2.1)) + s71.1).toNatClampNeg) = (-1)) → ¬ ((s71.2 160 (((6 : Int32) * a0) + s71.1).toNatClampNeg) = (-1)) → inR ((((48 : Int32) * a0) + ((6 : Int32) * s2.1)) + s71.1) 1104)
set_option maxHeartbeats 1720000 in
set_option maxRecDepth 40000 in
theorem c_X12_filmsAgain {I : SI} {J : SJ} {R : SR} {n g : Nat} {f : Fr} (ro : RM R) (hnn : nM ≤ n) (hf : f.1 = false) (a0 : Int32)  (hp : H_X12_filmsAgain a0 I J) : MM 5 0 0 mX12_filmsAgain [.ref 130, .int a0] (eI f I) (eJ f J) R n g (Pd none (eI f (FI_X12_filmsAgain a0 I J)) (eJ f (FJ_X12_filmsAgain a0 I J)) R n g) := by
  refine MM.of (by decide) (Nat.le_of_ble_eq_true rfl) fun K ok fin => ?_
  show WK K 0 0 0 [(0, .ref 130), (1, .int a0)] [] (eI f I) (eJ f J) R n g
  obtain ⟨hp1, hp2, hp3, hp4, hp5, hp6, hp7, hp8, hp9, hp10, hp11, hp12⟩ := hp
  refine w_iconst (v := 0) ok dX12_filmsAgain_0 (by decide) ?_
  refine w_istore_n ok dX12_filmsAgain_1 rfl (by decide) rfl ?_
  refine w_loc [1, 2, 0] rfl ?_
  refine loop_wr (σ := Int32 × SI × SJ) (ρ := SI × SJ) (fun (s2 : Int32 × SI × SJ) => WK K 0 0 2 [(0, .ref 130), (1, .int a0), (2, .int s2.1)] [] (eI f s2.2.1) (eJ f s2.2.2) R n g) (B_X12_filmsAgain_w2 a0 I J) 800 (0, I, J) (F_X12_filmsAgain_w2 a0 I J (0, I, J)) (itW_some2 (hp1)) ?_
  · intro n2 s2 hs2 kc2 kr2
    have kx2 : ∀ se2 : Int32 × SI × SJ, B_X12_filmsAgain_w2 a0 I J s2 = .inr (.inl se2) → WK K 0 0 151 [(0, .ref 130), (1, .int a0), (2, .int se2.1)] [] (eI f se2.2.1) (eJ f se2.2.2) R n g := by
      intro se2 hb2
      have he2 : (F_X12_filmsAgain_w2 a0 I J (0, I, J)) = .inl se2 := kr2 _ hb2
      exact w_vret ok fin dX12_filmsAgain_151 rfl (by unfold FI_X12_filmsAgain FJ_X12_filmsAgain; simp only [he2]; exact Pd.i)
    show WK K 0 0 2 [(0, .ref 130), (1, .int a0), (2, .int s2.1)] [] (eI f s2.2.1) (eJ f s2.2.2) R n g
    refine w_iload_n ok dX12_filmsAgain_2 2 rfl ?_
    refine w_aload_n ok dX12_filmsAgain_3 0 rfl ?_
    refine w_getR ok dX12_filmsAgain_4 (fX12_13 rfl) (congrArg Prod.fst s_130) rfl (r_130_3 ro) (ltM hnn (by decide)) ?_
    refine w_iconst (v := 1) ok dX12_filmsAgain_7 (by decide) ?_
    refine y_iald (q := 1) ok dX12_filmsAgain_8 s_132 (by decide) (by decide) (ltM hnn (by decide)) (sdm hf (by decide)) ?_
    refine w_icmp_ge (tgt := 151) ok dX12_filmsAgain_9 (by decide) (fun c1 => ?_) (fun c1 => ?_)
    · skip
      have eB : B_X12_filmsAgain_w2 a0 I J s2 = .inr (.inl (s2.1, s2.2.1, s2.2.2)) := by
        unfold B_X12_filmsAgain_w2; exact (if_pos c1).trans (rfl)
      refine w_loc [0, 1, 2] rfl ?_
      have kk := kx2 _ eB
      exact kk
    · skip
      refine w_aload_n ok dX12_filmsAgain_12 0 rfl ?_
      refine w_iload_n ok dX12_filmsAgain_13 1 rfl ?_
      refine w_iload_n ok dX12_filmsAgain_14 2 rfl ?_
      refine w_cV (As := [.int a0, .int s2.1]) ok dX12_filmsAgain_15 iX12_clashesOf (lX12_385 rfl) (rcv cls12 (congrArg Prod.fst s_130)) (ltM hnn (by decide)) (c_X12_clashesOf ro hnn hf a0 s2.1  (hp2 n2 s2 hs2 c1)) (by decide) rfl (Nat.le_of_ble_eq_true rfl) ?_
      refine w_if_eq (tgt := 145) ok dX12_filmsAgain_18 (by decide) (fun c2 => ?_) (fun c2 => ?_)
      · skip
        refine w_iinc (v := s2.1 + 1) ok dX12_filmsAgain_145 2 rfl rfl (by decide) rfl ?_
        refine w_goto (tgt := 2) ok dX12_filmsAgain_148 (by decide) ?_
        have eB : B_X12_filmsAgain_w2 a0 I J s2 = .inl ((s2.1 + 1), s2.2.1, s2.2.2) := by
          unfold B_X12_filmsAgain_w2; exact (if_neg c1).trans ((if_pos c2).trans (rfl))
        refine w_loc [1, 2, 0] rfl ?_
        have kk := kc2 _ eB
        exact kk
      · skip
        refine w_aload_n ok dX12_filmsAgain_21 0 rfl ?_
        refine w_iload_n ok dX12_filmsAgain_22 1 rfl ?_
        refine w_iload_n ok dX12_filmsAgain_23 2 rfl ?_
        refine w_cV (As := [.int a0, .int s2.1]) ok dX12_filmsAgain_24 iX12_priceOf (lX12_424 rfl) (rcv cls12 (congrArg Prod.fst s_130)) (ltM hnn (by decide)) (c_X12_priceOf ro hnn hf a0 s2.1  (hp3 n2 s2 hs2 c1 c2)) (by decide) rfl (Nat.le_of_ble_eq_true rfl) ?_
        refine w_aload_n ok dX12_filmsAgain_27 0 rfl ?_
        refine w_getR ok dX12_filmsAgain_28 (fX12_90 rfl) (congrArg Prod.fst s_130) rfl (r_130_41 ro) (ltM hnn (by decide)) ?_
        refine w_iload_n ok dX12_filmsAgain_31 1 rfl ?_
        refine y_iald (q := a0.toNatClampNeg) ok dX12_filmsAgain_32 s_156 (hp4 n2 s2 hs2 c1 c2) (by decide) (ltM hnn (by decide)) (sdm hf (by decide)) ?_
        refine w_icmp_le (tgt := 39) ok dX12_filmsAgain_33 (by decide) (fun c3 => ?_) (fun c3 => ?_)
        · skip
          refine w_aload_n ok dX12_filmsAgain_39 0 rfl ?_
          refine w_getR ok dX12_filmsAgain_40 (fX12_90 rfl) (congrArg Prod.fst s_130) rfl (r_130_41 ro) (ltM hnn (by decide)) ?_
          refine w_iload_n ok dX12_filmsAgain_43 1 rfl ?_
          refine w_dup2 ok dX12_filmsAgain_44 rfl rfl ?_
          refine y_iald (q := a0.toNatClampNeg) ok dX12_filmsAgain_45 s_156 (hp5 n2 s2 hs2 c1 c2 c3) (by decide) (ltM hnn (by decide)) (sdm hf (by decide)) ?_
          refine w_aload_n ok dX12_filmsAgain_46 0 rfl ?_
          refine w_iload_n ok dX12_filmsAgain_47 1 rfl ?_
          refine w_iload_n ok dX12_filmsAgain_48 2 rfl ?_
          refine w_cV (As := [.int a0, .int s2.1]) ok dX12_filmsAgain_49 iX12_priceOf (lX12_424 rfl) (rcv cls12 (congrArg Prod.fst s_130)) (ltM hnn (by decide)) (c_X12_priceOf ro hnn hf a0 s2.1  (hp6 n2 s2 hs2 c1 c2 c3)) (by decide) rfl (Nat.le_of_ble_eq_true rfl) ?_
          show WK K 0 0 52 [(0, .ref 130), (1, .int a0), (2, .int s2.1)] [.int (S3_X12_filmsAgain a0 I J s2), .int ((FI_X12_priceOf a0 s2.1 s2.2.1 s2.2.2) 156 a0.toNatClampNeg), .int a0, .ref 156] (eI f (S1_X12_filmsAgain a0 I J s2)) (eJ f (S2_X12_filmsAgain a0 I J s2)) R n g
          refine w_isub ok dX12_filmsAgain_52 ?_
          show WK K 0 0 53 [(0, .ref 130), (1, .int a0), (2, .int s2.1)] [.int (S4_X12_filmsAgain a0 I J s2), .int a0, .ref 156] (eI f (S1_X12_filmsAgain a0 I J s2)) (eJ f (S2_X12_filmsAgain a0 I J s2)) R n g
          refine y_iast (q := a0.toNatClampNeg) ok dX12_filmsAgain_53 s_156 (hp5 n2 s2 hs2 c1 c2 c3) (by decide) (ltM hnn (by decide)) (sdm hf (by decide)) ?_
          show WK K 0 0 54 [(0, .ref 130), (1, .int a0), (2, .int s2.1)] [] (eI f (S5_X12_filmsAgain a0 I J s2)) (eJ f (S2_X12_filmsAgain a0 I J s2)) R n g
          refine w_aload_n ok dX12_filmsAgain_54 0 rfl ?_
          refine w_getR ok dX12_filmsAgain_55 (fX12_114 rfl) (congrArg Prod.fst s_130) rfl (r_130_49 ro) (ltM hnn (by decide)) ?_
          refine w_bipush (v := 8) ok dX12_filmsAgain_58 (by decide) ?_
          refine w_iload_n ok dX12_filmsAgain_60 1 rfl ?_
          refine w_imul ok dX12_filmsAgain_61 ?_
          refine w_iload_n ok dX12_filmsAgain_62 2 rfl ?_
          refine w_iadd ok dX12_filmsAgain_63 ?_
          refine w_dup2 ok dX12_filmsAgain_64 rfl rfl ?_
          refine y_iald (q := (((8 : Int32) * a0) + s2.1).toNatClampNeg) ok dX12_filmsAgain_65 s_164 (hp7 n2 s2 hs2 c1 c2 c3) (by decide) (ltM hnn (by decide)) (sdm hf (by decide)) ?_
          refine w_iconst (v := 1) ok dX12_filmsAgain_66 (by decide) ?_
          refine w_iadd ok dX12_filmsAgain_67 ?_
          refine y_iast (q := (((8 : Int32) * a0) + s2.1).toNatClampNeg) ok dX12_filmsAgain_68 s_164 (hp7 n2 s2 hs2 c1 c2 c3) (by decide) (ltM hnn (by decide)) (sdm hf (by decide)) ?_
          show WK K 0 0 69 [(0, .ref 130), (1, .int a0), (2, .int s2.1)] [] (eI f (S6_X12_filmsAgain a0 I J s2)) (eJ f (S2_X12_filmsAgain a0 I J s2)) R n g
          refine w_iconst (v := 0) ok dX12_filmsAgain_69 (by decide) ?_
          refine w_istore_n ok dX12_filmsAgain_70 rfl (by decide) rfl ?_
          refine w_loc [1, 2, 3, 0] rfl ?_
          refine loop_w (fun (s71 : Int32 × SI) => WK K 0 0 71 [(0, .ref 130), (1, .int a0), (2, .int s2.1), (3, .int s71.1)] [] (eI f s71.2) (eJ f (S2_X12_filmsAgain a0 I J s2)) R n g) (fun (s71 : Int32 × SI) => WK K 0 0 144 [(0, .ref 130), (1, .int a0), (2, .int s2.1), (3, .int s71.1)] [] (eI f s71.2) (eJ f (S2_X12_filmsAgain a0 I J s2)) R n g) (B_X12_filmsAgain_w71_3 a0 I J s2) 800 (0, (S6_X12_filmsAgain a0 I J s2)) (F_X12_filmsAgain_w71_3 a0 I J s2 (0, (S6_X12_filmsAgain a0 I J s2))) (itW_some (hp8 n2 s2 hs2 c1 c2 c3)) ?_ ?_
          · show WK K 0 0 144 [(0, .ref 130), (1, .int a0), (2, .int s2.1), (3, .int ((F_X12_filmsAgain_w71_3 a0 I J s2 (0, (S6_X12_filmsAgain a0 I J s2))).1))] [] (eI f ((F_X12_filmsAgain_w71_3 a0 I J s2 (0, (S6_X12_filmsAgain a0 I J s2))).2)) (eJ f (S2_X12_filmsAgain a0 I J s2)) R n g
            have eB : B_X12_filmsAgain_w2 a0 I J s2 = .inr (.inr (((F_X12_filmsAgain_w71_3 a0 I J s2 (0, (S6_X12_filmsAgain a0 I J s2))).2), (S2_X12_filmsAgain a0 I J s2))) := by
              unfold B_X12_filmsAgain_w2; exact (if_neg c1).trans ((if_neg c2).trans ((if_pos c3).trans (rfl)))
            have hr : (F_X12_filmsAgain_w2 a0 I J (0, I, J)) = .inr (((F_X12_filmsAgain_w71_3 a0 I J s2 (0, (S6_X12_filmsAgain a0 I J s2))).2), (S2_X12_filmsAgain a0 I J s2)) := kr2 _ eB
            exact w_vret ok fin dX12_filmsAgain_144 rfl (by unfold FI_X12_filmsAgain FJ_X12_filmsAgain; simp only [hr]; exact Pd.i)
          · intro n71 s71 hs71 kc71 kx71
            show WK K 0 0 71 [(0, .ref 130), (1, .int a0), (2, .int s2.1), (3, .int s71.1)] [] (eI f s71.2) (eJ f (S2_X12_filmsAgain a0 I J s2)) R n g
            refine w_iload_n ok dX12_filmsAgain_71 3 rfl ?_
            refine w_aload_n ok dX12_filmsAgain_72 0 rfl ?_
            refine w_getR ok dX12_filmsAgain_73 (fX12_13 rfl) (congrArg Prod.fst s_130) rfl (r_130_3 ro) (ltM hnn (by decide)) ?_
            refine w_iconst (v := 0) ok dX12_filmsAgain_76 (by decide) ?_
            refine y_iald (q := 0) ok dX12_filmsAgain_77 s_132 (by decide) (by decide) (ltM hnn (by decide)) (sdm hf (by decide)) ?_
            refine w_icmp_ge (tgt := 144) ok dX12_filmsAgain_78 (by decide) (fun c4 => ?_) (fun c4 => ?_)
            · skip
              have eB : B_X12_filmsAgain_w71_3 a0 I J s2 s71 = .inr (s71.1, s71.2) := by
                unfold B_X12_filmsAgain_w71_3; exact (if_pos c4).trans (rfl)
              refine w_loc [0, 1, 2, 3] rfl ?_
              have kk := kx71 _ eB
              exact kk
            · skip
              refine w_bipush (v := 48) ok dX12_filmsAgain_81 (by decide) ?_
              refine w_iload_n ok dX12_filmsAgain_83 1 rfl ?_
              refine w_imul ok dX12_filmsAgain_84 ?_
              refine w_bipush (v := 6) ok dX12_filmsAgain_85 (by decide) ?_
              refine w_iload_n ok dX12_filmsAgain_87 2 rfl ?_
              refine w_imul ok dX12_filmsAgain_88 ?_
              refine w_iadd ok dX12_filmsAgain_89 ?_
              refine w_iload_n ok dX12_filmsAgain_90 3 rfl ?_
              refine w_iadd ok dX12_filmsAgain_91 ?_
              refine w_istore ok dX12_filmsAgain_92 (by decide) rfl ?_
              refine w_aload_n ok dX12_filmsAgain_94 1 rfl ?_
              refine w_getR ok dX12_filmsAgain_95 (fX12_117 rfl) (congrArg Prod.fst s_130) rfl (r_130_50 ro) (ltM hnn (by decide)) ?_
              refine w_iload ok dX12_filmsAgain_98 0 rfl ?_
              refine y_iald (q := ((((48 : Int32) * a0) + ((6 : Int32) * s2.1)) + s71.1).toNatClampNeg) ok dX12_filmsAgain_100 s_165 (hp9 n2 s2 hs2 c1 c2 c3 n71 s71 hs71 c4) (by decide) (ltM hnn (by decide)) (sdm hf (by decide)) ?_
              refine w_iconst (v := (-1)) ok dX12_filmsAgain_101 (by decide) ?_
              refine w_icmp_eq (tgt := 138) ok dX12_filmsAgain_102 (by decide) (fun c5 => ?_) (fun c5 => ?_)
              · skip
                refine w_iinc (v := s71.1 + 1) ok dX12_filmsAgain_138 4 rfl rfl (by decide) rfl ?_
                refine w_goto (tgt := 71) ok dX12_filmsAgain_141 (by decide) ?_
                have eB : B_X12_filmsAgain_w71_3 a0 I J s2 s71 = .inl ((s71.1 + 1), s71.2) := by
                  unfold B_X12_filmsAgain_w71_3; exact (if_neg c4).trans ((if_pos c5).trans (rfl))
                refine w_loc [2, 3, 4, 0] rfl ?_
                have kk := kc71 _ eB
                exact kk
              · skip
                refine w_aload_n ok dX12_filmsAgain_105 1 rfl ?_
                refine w_getR ok dX12_filmsAgain_106 (fX12_102 rfl) (congrArg Prod.fst s_130) rfl (r_130_45 ro) (ltM hnn (by decide)) ?_
                refine w_bipush (v := 6) ok dX12_filmsAgain_109 (by decide) ?_
                refine w_iload_n ok dX12_filmsAgain_111 2 rfl ?_
                refine w_imul ok dX12_filmsAgain_112 ?_
                refine w_iload_n ok dX12_filmsAgain_113 4 rfl ?_
                refine w_iadd ok dX12_filmsAgain_114 ?_
                refine y_iald (q := (((6 : Int32) * a0) + s71.1).toNatClampNeg) ok dX12_filmsAgain_115 s_160 (hp10 n2 s2 hs2 c1 c2 c3 n71 s71 hs71 c4 c5) (by decide) (ltM hnn (by decide)) (sdm hf (by decide)) ?_
                refine w_iconst (v := (-1)) ok dX12_filmsAgain_116 (by decide) ?_
                refine w_icmp_eq (tgt := 138) ok dX12_filmsAgain_117 (by decide) (fun c6 => ?_) (fun c6 => ?_)
                · skip
                  refine w_iinc (v := s71.1 + 1) ok dX12_filmsAgain_138 4 rfl rfl (by decide) rfl ?_
                  refine w_goto (tgt := 71) ok dX12_filmsAgain_141 (by decide) ?_
                  have eB : B_X12_filmsAgain_w71_3 a0 I J s2 s71 = .inl ((s71.1 + 1), s71.2) := by
                    unfold B_X12_filmsAgain_w71_3; exact (if_neg c4).trans ((if_neg c5).trans ((if_pos c6).trans (rfl)))
                  refine w_loc [2, 3, 4, 0] rfl ?_
                  have kk := kc71 _ eB
                  exact kk
                · skip
                  refine w_aload_n ok dX12_filmsAgain_120 1 rfl ?_
                  refine w_getR ok dX12_filmsAgain_121 (fX12_117 rfl) (congrArg Prod.fst s_130) rfl (r_130_50 ro) (ltM hnn (by decide)) ?_
                  refine w_iload ok dX12_filmsAgain_124 0 rfl ?_
                  refine w_aload_n ok dX12_filmsAgain_126 1 rfl ?_
                  refine w_getR ok dX12_filmsAgain_127 (fX12_102 rfl) (congrArg Prod.fst s_130) rfl (r_130_45 ro) (ltM hnn (by decide)) ?_
                  refine w_bipush (v := 6) ok dX12_filmsAgain_130 (by decide) ?_
                  refine w_iload_n ok dX12_filmsAgain_132 2 rfl ?_
                  refine w_imul ok dX12_filmsAgain_133 ?_
                  refine w_iload_n ok dX12_filmsAgain_134 4 rfl ?_
                  refine w_iadd ok dX12_filmsAgain_135 ?_
                  refine y_iald (q := (((6 : Int32) * a0) + s71.1).toNatClampNeg) ok dX12_filmsAgain_136 s_160 (hp11 n2 s2 hs2 c1 c2 c3 n71 s71 hs71 c4 c5 c6) (by decide) (ltM hnn (by decide)) (sdm hf (by decide)) ?_
                  refine y_iast (q := ((((48 : Int32) * a0) + ((6 : Int32) * s2.1)) + s71.1).toNatClampNeg) ok dX12_filmsAgain_137 s_165 (hp12 n2 s2 hs2 c1 c2 c3 n71 s71 hs71 c4 c5 c6) (by decide) (ltM hnn (by decide)) (sdm hf (by decide)) ?_
                  show WK K 0 0 138 [(4, .int ((((48 : Int32) * a0) + ((6 : Int32) * s2.1)) + s71.1)), (0, .ref 130), (1, .int a0), (2, .int s2.1), (3, .int s71.1)] [] (eI f (S7_X12_filmsAgain a0 I J s2 s71)) (eJ f (S2_X12_filmsAgain a0 I J s2)) R n g
                  refine w_iinc (v := s71.1 + 1) ok dX12_filmsAgain_138 4 rfl rfl (by decide) rfl ?_
                  refine w_goto (tgt := 71) ok dX12_filmsAgain_141 (by decide) ?_
                  have eB : B_X12_filmsAgain_w71_3 a0 I J s2 s71 = .inl ((s71.1 + 1), (S7_X12_filmsAgain a0 I J s2 s71)) := by
                    unfold B_X12_filmsAgain_w71_3; exact (if_neg c4).trans ((if_neg c5).trans ((if_neg c6).trans (rfl)))
                  refine w_loc [2, 3, 4, 0] rfl ?_
                  have kk := kc71 _ eB
                  exact kk
        · skip
          refine w_goto (tgt := 145) ok dX12_filmsAgain_36 (by decide) ?_
          refine w_iinc (v := s2.1 + 1) ok dX12_filmsAgain_145 2 rfl rfl (by decide) rfl ?_
          refine w_goto (tgt := 2) ok dX12_filmsAgain_148 (by decide) ?_
          have eB : B_X12_filmsAgain_w2 a0 I J s2 = .inl ((s2.1 + 1), (FI_X12_priceOf a0 s2.1 s2.2.1 s2.2.2), (FJ_X12_priceOf a0 s2.1 s2.2.1 s2.2.2)) := by
            unfold B_X12_filmsAgain_w2; exact (if_neg c1).trans ((if_neg c2).trans ((if_neg c3).trans (rfl)))
          refine w_loc [1, 2, 0] rfl ?_
          have kk := kc2 _ eB
          exact kk
def T_X12_passes_j28 (a0 : Int32) (a1 : Int32) (I : SI) (J : SJ) : Int32 := if (F_X12_isAway a0 a1 I J) = 0 then 0 else (((FI_X12_isAway a0 a1 I J) 158 a0.toNatClampNeg) + 1)
def S1_X12_passes (a0 : Int32) (a1 : Int32) (I : SI) (J : SJ) : SI := u2 (FI_X12_isAway a0 a1 I J) 158 a0.toNatClampNeg (T_X12_passes_j28 a0 a1 I J)
def T_X12_passes_j45 (a0 : Int32) (a1 : Int32) (I : SI) (J : SJ) : Int32 := if (F_X12_isAway a0 a1 I J) = 0 then 0 else 1
def S2_X12_passes (a0 : Int32) (a1 : Int32) (I : SI) (J : SJ) : SI := u2 (S1_X12_passes a0 a1 I J) 159 a0.toNatClampNeg (((S1_X12_passes a0 a1 I J) 159 a0.toNatClampNeg) + (T_X12_passes_j45 a0 a1 I J))
def B_X12_passes_w50 (a0 : Int32) (a1 : Int32) (I : SI) (J : SJ) (s50 : Int32 × SI × SJ) : (Int32 × SI × SJ) ⊕ (Int32 × SI × SJ) := if (s50.2.1 132 1) ≤ s50.1 then .inr (s50.1, s50.2.1, s50.2.2) else (if (F_X12_isDone a0 s50.1 s50.2.1 s50.2.2) = 0 then (if (s50.2.1 162 (((8 : Int32) * a0) + s50.1).toNatClampNeg) = (s50.2.1 154 a0.toNatClampNeg) then .inl ((s50.1 + 1), (FI_X12_films a0 s50.1 (F_X12_isAway a0 a1 I J) s50.2.1 s50.2.2), (FJ_X12_films a0 s50.1 (F_X12_isAway a0 a1 I J) s50.2.1 s50.2.2)) else .inl ((s50.1 + 1), s50.2.1, s50.2.2)) else .inl ((s50.1 + 1), s50.2.1, s50.2.2))
def F_X12_passes_w50 (a0 : Int32) (a1 : Int32) (I : SI) (J : SJ) (s0 : Int32 × SI × SJ) : Int32 × SI × SJ := (itW (B_X12_passes_w50 a0 a1 I J) 800 s0).getD s0
def B_X12_passes_w109 (a0 : Int32) (a1 : Int32) (I : SI) (J : SJ) (s109 : Int32 × SI × SJ) : (Int32 × SI × SJ) ⊕ (Int32 × SI × SJ) := if (s109.2.1 132 3) ≤ s109.1 then .inr (s109.1, s109.2.1, s109.2.2) else (if (F_X12_isAway a0 a1 I J) = 0 then .inl ((s109.1 + 1), (FI_X12_gives a0 s109.1 s109.2.1 s109.2.2), (FJ_X12_gives a0 s109.1 s109.2.1 s109.2.2)) else .inr (s109.1, s109.2.1, s109.2.2))
def F_X12_passes_w109 (a0 : Int32) (a1 : Int32) (I : SI) (J : SJ) (s0 : Int32 × SI × SJ) : Int32 × SI × SJ := (itW (B_X12_passes_w109 a0 a1 I J) 800 s0).getD s0
def S3_X12_passes (a0 : Int32) (a1 : Int32) (I : SI) (J : SJ) : SI := (F_X12_passes_w109 a0 a1 I J (0, ((F_X12_passes_w50 a0 a1 I J (0, (S2_X12_passes a0 a1 I J), J)).2.1), ((F_X12_passes_w50 a0 a1 I J (0, (S2_X12_passes a0 a1 I J), J)).2.2))).2.1
def S4_X12_passes (a0 : Int32) (a1 : Int32) (I : SI) (J : SJ) : SJ := (F_X12_passes_w109 a0 a1 I J (0, ((F_X12_passes_w50 a0 a1 I J (0, (S2_X12_passes a0 a1 I J), J)).2.1), ((F_X12_passes_w50 a0 a1 I J (0, (S2_X12_passes a0 a1 I J), J)).2.2))).2.2
def S5_X12_passes (a0 : Int32) (a1 : Int32) (I : SI) (J : SJ) : Int32 := (F_X12_passes_w109 a0 a1 I J (0, ((F_X12_passes_w50 a0 a1 I J (0, (S2_X12_passes a0 a1 I J), J)).2.1), ((F_X12_passes_w50 a0 a1 I J (0, (S2_X12_passes a0 a1 I J), J)).2.2))).1
def S7_X12_passes (a0 : Int32) (a1 : Int32) (I : SI) (J : SJ) : SI := FI_X12_filmsAgain a0 (S3_X12_passes a0 a1 I J) (S4_X12_passes a0 a1 I J)
def S8_X12_passes (a0 : Int32) (a1 : Int32) (I : SI) (J : SJ) : SJ := FJ_X12_filmsAgain a0 (S3_X12_passes a0 a1 I J) (S4_X12_passes a0 a1 I J)
def T_X12_passes_j150 (a0 : Int32) (a1 : Int32) (I : SI) (J : SJ) : SI × SJ := if (((S3_X12_passes a0 a1 I J)) 130 55) = 3 then ((S3_X12_passes a0 a1 I J), (S4_X12_passes a0 a1 I J)) else ((S7_X12_passes a0 a1 I J), (S8_X12_passes a0 a1 I J))
def S6_X12_passes (a0 : Int32) (a1 : Int32) (I : SI) (J : SJ) : SI := u2 ((T_X12_passes_j150 a0 a1 I J).1) 154 a0.toNatClampNeg ((((T_X12_passes_j150 a0 a1 I J).1) 154 a0.toNatClampNeg) + 1)
def FI_X12_passes (a0 : Int32) (a1 : Int32) (I : SI) (J : SJ) : SI := (S6_X12_passes a0 a1 I J)
def FJ_X12_passes (a0 : Int32) (a1 : Int32) (I : SI) (J : SJ) : SJ := (T_X12_passes_j150 a0 a1 I J).2
def H_X12_passes (a0 : Int32) (a1 : Int32) (I : SI) (J : SJ) : Prop := (H_X12_isAway a0 a1 I J) ∧ (inR a0 23) ∧ ((itW (B_X12_passes_w50 a0 a1 I J) 800 (0, (S2_X12_passes a0 a1 I J), J)).isSome = true) ∧ ((itW (B_X12_passes_w109 a0 a1 I J) 800 (0, ((F_X12_passes_w50 a0 a1 I J (0, (S2_X12_passes a0 a1 I J), J)).2.1), ((F_X12_passes_w50 a0 a1 I J (0, (S2_X12_passes a0 a1 I J), J)).2.2))).isSome = true) ∧ (¬ ((((S3_X12_passes a0 a1 I J)) 130 55) = 3) → H_X12_filmsAgain a0 (S3_X12_passes a0 a1 I J) (S4_X12_passes a0 a1 I J)) ∧ (∀ (n109 : Nat) (s109 : Int32 × SI × SJ), wN (B_X12_passes_w109 a0 a1 I J) n109 (0, ((F_X12_passes_w50 a0 a1 I J (0, (S2_X12_passes a0 a1 I J), J)).2.1), ((F_X12_passes_w50 a0 a1 I J (0, (S2_X12_passes a0 a1 I J), J)).2.2)) = some s109 → ¬ ((s109.2.1 132 3) ≤ s109.1) → (F_X12_isAway a0 a1 I J) = 0 → H_X12_gives a0 s109.1 s109.2.1 s109.2.2) ∧ (∀ (n50 : Nat) (s50 : Int32 × SI × SJ), wN (B_X12_passes_w50 a0 a1 I J) n50 (0, (S2_X12_passes a0 a1 I J), J) = some s50 → ¬ ((s50.2.1 132 1) ≤ s50.1) → H_X12_isDone a0 s50.1 s50.2.1 s50.2.2) ∧ (∀ (n50 : Nat) (s50 : Int32 × SI × SJ), wN (B_X12_passes_w50 a0 a1 I J) n50 (0, (S2_X12_passes a0 a1 I J), J) = some s50 → ¬ ((s50.2.1 132 1) ≤ s50.1) → (F_X12_isDone a0 s50.1 s50.2.1 s50.2.2) = 0 → inR (((8 : Int32) * a0) + s50.1) 184) ∧ (∀ (n50 : Nat) (s50 : Int32 × SI × SJ), wN (B_X12_passes_w50 a0 a1 I J) n50 (0, (S2_X12_passes a0 a1 I J), J) = some s50 → ¬ ((s50.2.1 132 1) ≤ s50.1) → (F_X12_isDone a0 s50.1 s50.2.1 s50.2.2) = 0 → inR a0 23) ∧ (∀ (n50 : Nat) (s50 : Int32 × SI × SJ), wN (B_X12_passes_w50 a0 a1 I J) n50 (0, (S2_X12_passes a0 a1 I J), J) = some s50 → ¬ ((s50.2.1 132 1) ≤ s50.1) → (F_X12_isDone a0 s50.1 s50.2.1 s50.2.2) = 0 → (s50.2.1 162 (((8 : Int32) * a0) + s50.1).toNatClampNeg) = (s50.2.1 154 a0.toNatClampNeg) → H_X12_films a0 s50.1 (F_X12_isAway a0 a1 I J) s50.2.1 s50.2.2) ∧ (¬ ((F_X12_isAway a0 a1 I J) = 0) → inR a0 23)
set_option maxHeartbeats 2060000 in
set_option maxRecDepth 40000 in
theorem c_X12_passes {I : SI} {J : SJ} {R : SR} {n g : Nat} {f : Fr} (ro : RM R) (hnn : nM ≤ n) (hf : f.1 = false) (a0 : Int32) (a1 : Int32)  (hp : H_X12_passes a0 a1 I J) : MM 6 0 0 mX12_passes [.ref 130, .int a0, .int a1] (eI f I) (eJ f J) R n g (Pd none (eI f (FI_X12_passes a0 a1 I J)) (eJ f (FJ_X12_passes a0 a1 I J)) R n g) := by
  refine MM.of (by decide) (Nat.le_of_ble_eq_true rfl) fun K ok fin => ?_
  show WK K 0 0 0 [(0, .ref 130), (1, .int a0), (2, .int a1)] [] (eI f I) (eJ f J) R n g
  obtain ⟨hp1, hp2, hp3, hp4, hp5, hp6, hp7, hp8, hp9, hp10, hp11⟩ := hp
  refine w_aload_n ok dX12_passes_0 0 rfl ?_
  refine w_iload_n ok dX12_passes_1 1 rfl ?_
  refine w_iload_n ok dX12_passes_2 2 rfl ?_
  refine w_cV (As := [.int a0, .int a1]) ok dX12_passes_3 iX12_isAway (lX12_427 rfl) (rcv cls12 (congrArg Prod.fst s_130)) (ltM hnn (by decide)) (c_X12_isAway ro hnn hf a0 a1  (hp1)) (by decide) rfl (Nat.le_of_ble_eq_true rfl) ?_
  refine w_istore_n ok dX12_passes_6 rfl (by decide) rfl ?_
  refine w_aload_n ok dX12_passes_7 1 rfl ?_
  refine w_getR ok dX12_passes_8 (fX12_96 rfl) (congrArg Prod.fst s_130) rfl (r_130_43 ro) (ltM hnn (by decide)) ?_
  refine w_iload_n ok dX12_passes_11 2 rfl ?_
  refine w_iload_n ok dX12_passes_12 0 rfl ?_
  have jn1 : WK K 0 0 28 [(0, .ref 130), (1, .int a0), (2, .int a1), (3, .int (F_X12_isAway a0 a1 I J))] [.int (T_X12_passes_j28 a0 a1 I J), .int a0, .ref 158] (eI f (FI_X12_isAway a0 a1 I J)) (eJ f J) R n g := by
    refine y_iast (q := a0.toNatClampNeg) ok dX12_passes_28 s_158 (hp2) (by decide) (ltM hnn (by decide)) (sdm hf (by decide)) ?_
    show WK K 0 0 29 [(0, .ref 130), (1, .int a0), (2, .int a1), (3, .int (F_X12_isAway a0 a1 I J))] [] (eI f (S1_X12_passes a0 a1 I J)) (eJ f J) R n g
    refine w_aload_n ok dX12_passes_29 0 rfl ?_
    refine w_getR ok dX12_passes_30 (fX12_99 rfl) (congrArg Prod.fst s_130) rfl (r_130_44 ro) (ltM hnn (by decide)) ?_
    refine w_iload_n ok dX12_passes_33 1 rfl ?_
    refine w_dup2 ok dX12_passes_34 rfl rfl ?_
    refine y_iald (q := a0.toNatClampNeg) ok dX12_passes_35 s_159 (hp2) (by decide) (ltM hnn (by decide)) (sdm hf (by decide)) ?_
    refine w_iload_n ok dX12_passes_36 3 rfl ?_
    have jn2 : WK K 0 0 45 [(0, .ref 130), (1, .int a0), (2, .int a1), (3, .int (F_X12_isAway a0 a1 I J))] [.int (T_X12_passes_j45 a0 a1 I J), .int ((S1_X12_passes a0 a1 I J) 159 a0.toNatClampNeg), .int a0, .ref 159] (eI f (S1_X12_passes a0 a1 I J)) (eJ f J) R n g := by
      refine w_iadd ok dX12_passes_45 ?_
      refine y_iast (q := a0.toNatClampNeg) ok dX12_passes_46 s_159 (hp2) (by decide) (ltM hnn (by decide)) (sdm hf (by decide)) ?_
      show WK K 0 0 47 [(0, .ref 130), (1, .int a0), (2, .int a1), (3, .int (F_X12_isAway a0 a1 I J))] [] (eI f (S2_X12_passes a0 a1 I J)) (eJ f J) R n g
      refine w_iconst (v := 0) ok dX12_passes_47 (by decide) ?_
      refine w_istore ok dX12_passes_48 (by decide) rfl ?_
      refine w_loc [1, 2, 3, 4, 0] rfl ?_
      refine loop_w (fun (s50 : Int32 × SI × SJ) => WK K 0 0 50 [(0, .ref 130), (1, .int a0), (2, .int a1), (3, .int (F_X12_isAway a0 a1 I J)), (4, .int s50.1)] [] (eI f s50.2.1) (eJ f s50.2.2) R n g) (fun (s50 : Int32 × SI × SJ) => WK K 0 0 106 [(0, .ref 130), (1, .int a0), (2, .int a1), (3, .int (F_X12_isAway a0 a1 I J)), (4, .int s50.1)] [] (eI f s50.2.1) (eJ f s50.2.2) R n g) (B_X12_passes_w50 a0 a1 I J) 800 (0, (S2_X12_passes a0 a1 I J), J) (F_X12_passes_w50 a0 a1 I J (0, (S2_X12_passes a0 a1 I J), J)) (itW_some (hp3)) ?_ ?_
      · show WK K 0 0 106 [(0, .ref 130), (1, .int a0), (2, .int a1), (3, .int (F_X12_isAway a0 a1 I J)), (4, .int ((F_X12_passes_w50 a0 a1 I J (0, (S2_X12_passes a0 a1 I J), J)).1))] [] (eI f ((F_X12_passes_w50 a0 a1 I J (0, (S2_X12_passes a0 a1 I J), J)).2.1)) (eJ f ((F_X12_passes_w50 a0 a1 I J (0, (S2_X12_passes a0 a1 I J), J)).2.2)) R n g
        refine w_iconst (v := 0) ok dX12_passes_106 (by decide) ?_
        refine w_istore ok dX12_passes_107 (by decide) rfl ?_
        refine w_loc [1, 2, 3, 4, 0] rfl ?_
        refine loop_w (fun (s109 : Int32 × SI × SJ) => WK K 0 0 109 [(0, .ref 130), (1, .int a0), (2, .int a1), (3, .int (F_X12_isAway a0 a1 I J)), (4, .int s109.1)] [] (eI f s109.2.1) (eJ f s109.2.2) R n g) (fun (s109 : Int32 × SI × SJ) => WK K 0 0 137 [(0, .ref 130), (1, .int a0), (2, .int a1), (3, .int (F_X12_isAway a0 a1 I J)), (4, .int s109.1)] [] (eI f s109.2.1) (eJ f s109.2.2) R n g) (B_X12_passes_w109 a0 a1 I J) 800 (0, ((F_X12_passes_w50 a0 a1 I J (0, (S2_X12_passes a0 a1 I J), J)).2.1), ((F_X12_passes_w50 a0 a1 I J (0, (S2_X12_passes a0 a1 I J), J)).2.2)) (F_X12_passes_w109 a0 a1 I J (0, ((F_X12_passes_w50 a0 a1 I J (0, (S2_X12_passes a0 a1 I J), J)).2.1), ((F_X12_passes_w50 a0 a1 I J (0, (S2_X12_passes a0 a1 I J), J)).2.2))) (itW_some (hp4)) ?_ ?_
        · show WK K 0 0 137 [(0, .ref 130), (1, .int a0), (2, .int a1), (3, .int (F_X12_isAway a0 a1 I J)), (4, .int ((F_X12_passes_w109 a0 a1 I J (0, ((F_X12_passes_w50 a0 a1 I J (0, (S2_X12_passes a0 a1 I J), J)).2.1), ((F_X12_passes_w50 a0 a1 I J (0, (S2_X12_passes a0 a1 I J), J)).2.2))).1))] [] (eI f ((F_X12_passes_w109 a0 a1 I J (0, ((F_X12_passes_w50 a0 a1 I J (0, (S2_X12_passes a0 a1 I J), J)).2.1), ((F_X12_passes_w50 a0 a1 I J (0, (S2_X12_passes a0 a1 I J), J)).2.2))).2.1)) (eJ f ((F_X12_passes_w109 a0 a1 I J (0, ((F_X12_passes_w50 a0 a1 I J (0, (S2_X12_passes a0 a1 I J), J)).2.1), ((F_X12_passes_w50 a0 a1 I J (0, (S2_X12_passes a0 a1 I J), J)).2.2))).2.2)) R n g
          refine w_aload_n ok dX12_passes_137 0 rfl ?_
          show WK K 0 0 138 [(0, .ref 130), (1, .int a0), (2, .int a1), (3, .int (F_X12_isAway a0 a1 I J)), (4, .int (S5_X12_passes a0 a1 I J))] [.ref 130] (eI f (S3_X12_passes a0 a1 I J)) (eJ f (S4_X12_passes a0 a1 I J)) R n g
          refine y_getI ok dX12_passes_138 (fX12_361 rfl) (congrArg Prod.fst s_130) rfl (ltM hnn (by decide)) (sdm hf (by decide)) ?_
          refine w_iconst (v := 3) ok dX12_passes_141 (by decide) ?_
          have jn3 : WK K 0 0 150 [(0, .ref 130), (1, .int a0), (2, .int a1), (3, .int (F_X12_isAway a0 a1 I J)), (4, .int (S5_X12_passes a0 a1 I J))] [] (eI f ((T_X12_passes_j150 a0 a1 I J).1)) (eJ f ((T_X12_passes_j150 a0 a1 I J).2)) R n g := by
            refine w_aload_n ok dX12_passes_150 0 rfl ?_
            refine w_getR ok dX12_passes_151 (fX12_84 rfl) (congrArg Prod.fst s_130) rfl (r_130_39 ro) (ltM hnn (by decide)) ?_
            refine w_iload_n ok dX12_passes_154 1 rfl ?_
            refine w_dup2 ok dX12_passes_155 rfl rfl ?_
            refine y_iald (q := a0.toNatClampNeg) ok dX12_passes_156 s_154 (hp2) (by decide) (ltM hnn (by decide)) (sdm hf (by decide)) ?_
            refine w_iconst (v := 1) ok dX12_passes_157 (by decide) ?_
            refine w_iadd ok dX12_passes_158 ?_
            refine y_iast (q := a0.toNatClampNeg) ok dX12_passes_159 s_154 (hp2) (by decide) (ltM hnn (by decide)) (sdm hf (by decide)) ?_
            show WK K 0 0 160 [(0, .ref 130), (1, .int a0), (2, .int a1), (3, .int (F_X12_isAway a0 a1 I J)), (4, .int (S5_X12_passes a0 a1 I J))] [] (eI f (S6_X12_passes a0 a1 I J)) (eJ f ((T_X12_passes_j150 a0 a1 I J).2)) R n g
            exact w_vret ok fin dX12_passes_160 rfl (by unfold FI_X12_passes FJ_X12_passes; exact Pd.i)
          refine w_icmp_eq (tgt := 150) ok dX12_passes_142 (by decide) (fun c4 => ?_) (fun c4 => ?_)
          · skip
            have eT : (T_X12_passes_j150 a0 a1 I J) = ((S3_X12_passes a0 a1 I J), (S4_X12_passes a0 a1 I J)) := by
              unfold T_X12_passes_j150; exact (if_pos c4).trans (rfl)
            refine w_loc [0, 1, 2, 3, 4] rfl ?_
            have jj := jn3
            rw [eT] at jj
            exact jj
          · skip
            refine w_aload_n ok dX12_passes_145 0 rfl ?_
            refine w_iload_n ok dX12_passes_146 1 rfl ?_
            refine w_cV (As := [.int a0]) ok dX12_passes_147 iX12_filmsAgain (lX12_437 rfl) (rcv cls12 (congrArg Prod.fst s_130)) (ltM hnn (by decide)) (c_X12_filmsAgain ro hnn hf a0  (hp5 c4)) (by decide) rfl (Nat.le_of_ble_eq_true rfl) ?_
            show WK K 0 0 150 [(0, .ref 130), (1, .int a0), (2, .int a1), (3, .int (F_X12_isAway a0 a1 I J)), (4, .int (S5_X12_passes a0 a1 I J))] [] (eI f (S7_X12_passes a0 a1 I J)) (eJ f (S8_X12_passes a0 a1 I J)) R n g
            have eT : (T_X12_passes_j150 a0 a1 I J) = ((S7_X12_passes a0 a1 I J), (S8_X12_passes a0 a1 I J)) := by
              unfold T_X12_passes_j150; exact (if_neg c4).trans (rfl)
            refine w_loc [0, 1, 2, 3, 4] rfl ?_
            have jj := jn3
            rw [eT] at jj
            exact jj
        · intro n109 s109 hs109 kc109 kx109
          show WK K 0 0 109 [(0, .ref 130), (1, .int a0), (2, .int a1), (3, .int (F_X12_isAway a0 a1 I J)), (4, .int s109.1)] [] (eI f s109.2.1) (eJ f s109.2.2) R n g
          refine w_iload ok dX12_passes_109 4 rfl ?_
          refine w_aload_n ok dX12_passes_111 0 rfl ?_
          refine w_getR ok dX12_passes_112 (fX12_13 rfl) (congrArg Prod.fst s_130) rfl (r_130_3 ro) (ltM hnn (by decide)) ?_
          refine w_iconst (v := 3) ok dX12_passes_115 (by decide) ?_
          refine y_iald (q := 3) ok dX12_passes_116 s_132 (by decide) (by decide) (ltM hnn (by decide)) (sdm hf (by decide)) ?_
          refine w_icmp_ge (tgt := 137) ok dX12_passes_117 (by decide) (fun c5 => ?_) (fun c5 => ?_)
          · skip
            have eB : B_X12_passes_w109 a0 a1 I J s109 = .inr (s109.1, s109.2.1, s109.2.2) := by
              unfold B_X12_passes_w109; exact (if_pos c5).trans (rfl)
            refine w_loc [0, 1, 2, 3, 4] rfl ?_
            have kk := kx109 _ eB
            exact kk
          · skip
            refine w_iload_n ok dX12_passes_120 3 rfl ?_
            refine w_if_ne (tgt := 137) ok dX12_passes_121 (by decide) (fun c6 => ?_) (fun c6 => ?_)
            · skip
              have eB : B_X12_passes_w109 a0 a1 I J s109 = .inr (s109.1, s109.2.1, s109.2.2) := by
                unfold B_X12_passes_w109; exact (if_neg c5).trans ((if_neg c6).trans (rfl))
              refine w_loc [0, 1, 2, 3, 4] rfl ?_
              have kk := kx109 _ eB
              exact kk
            · skip
              refine w_aload_n ok dX12_passes_124 0 rfl ?_
              refine w_iload_n ok dX12_passes_125 1 rfl ?_
              refine w_iload ok dX12_passes_126 4 rfl ?_
              refine w_cV (As := [.int a0, .int s109.1]) ok dX12_passes_128 iX12_gives (lX12_434 rfl) (rcv cls12 (congrArg Prod.fst s_130)) (ltM hnn (by decide)) (c_X12_gives ro hnn hf a0 s109.1  (hp6 n109 s109 hs109 c5 c6)) (by decide) rfl (Nat.le_of_ble_eq_true rfl) ?_
              refine w_iinc (v := s109.1 + 1) ok dX12_passes_131 4 rfl rfl (by decide) rfl ?_
              refine w_goto (tgt := 109) ok dX12_passes_134 (by decide) ?_
              have eB : B_X12_passes_w109 a0 a1 I J s109 = .inl ((s109.1 + 1), (FI_X12_gives a0 s109.1 s109.2.1 s109.2.2), (FJ_X12_gives a0 s109.1 s109.2.1 s109.2.2)) := by
                unfold B_X12_passes_w109; exact (if_neg c5).trans ((if_pos c6).trans (rfl))
              refine w_loc [1, 2, 3, 4, 0] rfl ?_
              have kk := kc109 _ eB
              exact kk
      · intro n50 s50 hs50 kc50 kx50
        show WK K 0 0 50 [(0, .ref 130), (1, .int a0), (2, .int a1), (3, .int (F_X12_isAway a0 a1 I J)), (4, .int s50.1)] [] (eI f s50.2.1) (eJ f s50.2.2) R n g
        refine w_iload ok dX12_passes_50 4 rfl ?_
        refine w_aload_n ok dX12_passes_52 0 rfl ?_
        refine w_getR ok dX12_passes_53 (fX12_13 rfl) (congrArg Prod.fst s_130) rfl (r_130_3 ro) (ltM hnn (by decide)) ?_
        refine w_iconst (v := 1) ok dX12_passes_56 (by decide) ?_
        refine y_iald (q := 1) ok dX12_passes_57 s_132 (by decide) (by decide) (ltM hnn (by decide)) (sdm hf (by decide)) ?_
        refine w_icmp_ge (tgt := 106) ok dX12_passes_58 (by decide) (fun c7 => ?_) (fun c7 => ?_)
        · skip
          have eB : B_X12_passes_w50 a0 a1 I J s50 = .inr (s50.1, s50.2.1, s50.2.2) := by
            unfold B_X12_passes_w50; exact (if_pos c7).trans (rfl)
          refine w_loc [0, 1, 2, 3, 4] rfl ?_
          have kk := kx50 _ eB
          exact kk
        · skip
          refine w_aload_n ok dX12_passes_61 0 rfl ?_
          refine w_iload_n ok dX12_passes_62 1 rfl ?_
          refine w_iload ok dX12_passes_63 4 rfl ?_
          refine w_cV (As := [.int a0, .int s50.1]) ok dX12_passes_65 iX12_isDone (lX12_367 rfl) (rcv cls12 (congrArg Prod.fst s_130)) (ltM hnn (by decide)) (c_X12_isDone ro hnn hf a0 s50.1  (hp7 n50 s50 hs50 c7)) (by decide) rfl (Nat.le_of_ble_eq_true rfl) ?_
          refine w_if_ne (tgt := 100) ok dX12_passes_68 (by decide) (fun c8 => ?_) (fun c8 => ?_)
          · skip
            refine w_iinc (v := s50.1 + 1) ok dX12_passes_100 4 rfl rfl (by decide) rfl ?_
            refine w_goto (tgt := 50) ok dX12_passes_103 (by decide) ?_
            have eB : B_X12_passes_w50 a0 a1 I J s50 = .inl ((s50.1 + 1), s50.2.1, s50.2.2) := by
              unfold B_X12_passes_w50; exact (if_neg c7).trans ((if_neg c8).trans (rfl))
            refine w_loc [1, 2, 3, 4, 0] rfl ?_
            have kk := kc50 _ eB
            exact kk
          · skip
            refine w_aload_n ok dX12_passes_71 0 rfl ?_
            refine w_getR ok dX12_passes_72 (fX12_108 rfl) (congrArg Prod.fst s_130) rfl (r_130_47 ro) (ltM hnn (by decide)) ?_
            refine w_bipush (v := 8) ok dX12_passes_75 (by decide) ?_
            refine w_iload_n ok dX12_passes_77 1 rfl ?_
            refine w_imul ok dX12_passes_78 ?_
            refine w_iload ok dX12_passes_79 4 rfl ?_
            refine w_iadd ok dX12_passes_81 ?_
            refine y_iald (q := (((8 : Int32) * a0) + s50.1).toNatClampNeg) ok dX12_passes_82 s_162 (hp8 n50 s50 hs50 c7 c8) (by decide) (ltM hnn (by decide)) (sdm hf (by decide)) ?_
            refine w_aload_n ok dX12_passes_83 0 rfl ?_
            refine w_getR ok dX12_passes_84 (fX12_84 rfl) (congrArg Prod.fst s_130) rfl (r_130_39 ro) (ltM hnn (by decide)) ?_
            refine w_iload_n ok dX12_passes_87 1 rfl ?_
            refine y_iald (q := a0.toNatClampNeg) ok dX12_passes_88 s_154 (hp9 n50 s50 hs50 c7 c8) (by decide) (ltM hnn (by decide)) (sdm hf (by decide)) ?_
            refine w_icmp_ne (tgt := 100) ok dX12_passes_89 (by decide) (fun c9 => ?_) (fun c9 => ?_)
            · skip
              refine w_iinc (v := s50.1 + 1) ok dX12_passes_100 4 rfl rfl (by decide) rfl ?_
              refine w_goto (tgt := 50) ok dX12_passes_103 (by decide) ?_
              have eB : B_X12_passes_w50 a0 a1 I J s50 = .inl ((s50.1 + 1), s50.2.1, s50.2.2) := by
                unfold B_X12_passes_w50; exact (if_neg c7).trans ((if_pos c8).trans ((if_neg c9).trans (rfl)))
              refine w_loc [1, 2, 3, 4, 0] rfl ?_
              have kk := kc50 _ eB
              exact kk
            · skip
              refine w_aload_n ok dX12_passes_92 0 rfl ?_
              refine w_iload_n ok dX12_passes_93 1 rfl ?_
              refine w_iload ok dX12_passes_94 4 rfl ?_
              refine w_iload_n ok dX12_passes_96 3 rfl ?_
              refine w_cV (As := [.int a0, .int s50.1, .int (F_X12_isAway a0 a1 I J)]) ok dX12_passes_97 iX12_films (lX12_430 rfl) (rcv cls12 (congrArg Prod.fst s_130)) (ltM hnn (by decide)) (c_X12_films ro hnn hf a0 s50.1 (F_X12_isAway a0 a1 I J)  (hp10 n50 s50 hs50 c7 c8 c9)) (by decide) rfl (Nat.le_of_ble_eq_true rfl) ?_
              refine w_iinc (v := s50.1 + 1) ok dX12_passes_100 4 rfl rfl (by decide) rfl ?_
              refine w_goto (tgt := 50) ok dX12_passes_103 (by decide) ?_
              have eB : B_X12_passes_w50 a0 a1 I J s50 = .inl ((s50.1 + 1), (FI_X12_films a0 s50.1 (F_X12_isAway a0 a1 I J) s50.2.1 s50.2.2), (FJ_X12_films a0 s50.1 (F_X12_isAway a0 a1 I J) s50.2.1 s50.2.2)) := by
                unfold B_X12_passes_w50; exact (if_neg c7).trans ((if_pos c8).trans ((if_pos c9).trans (rfl)))
              refine w_loc [1, 2, 3, 4, 0] rfl ?_
              have kk := kc50 _ eB
              exact kk
    refine w_if_eq (tgt := 44) ok dX12_passes_37 (by decide) (fun c10 => ?_) (fun c10 => ?_)
    · skip
      refine w_iconst (v := 0) ok dX12_passes_44 (by decide) ?_
      have eT : (T_X12_passes_j45 a0 a1 I J) = 0 := by
        unfold T_X12_passes_j45; exact (if_pos c10).trans (rfl)
      refine w_loc [0, 1, 2, 3] rfl ?_
      have jj := jn2
      rw [eT] at jj
      exact jj
    · skip
      refine w_iconst (v := 1) ok dX12_passes_40 (by decide) ?_
      refine w_goto (tgt := 45) ok dX12_passes_41 (by decide) ?_
      have eT : (T_X12_passes_j45 a0 a1 I J) = 1 := by
        unfold T_X12_passes_j45; exact (if_neg c10).trans (rfl)
      refine w_loc [0, 1, 2, 3] rfl ?_
      have jj := jn2
      rw [eT] at jj
      exact jj
  refine w_if_eq (tgt := 27) ok dX12_passes_13 (by decide) (fun c11 => ?_) (fun c11 => ?_)
  · skip
    refine w_iconst (v := 0) ok dX12_passes_27 (by decide) ?_
    have eT : (T_X12_passes_j28 a0 a1 I J) = 0 := by
      unfold T_X12_passes_j28; exact (if_pos c11).trans (rfl)
    refine w_loc [1, 2, 3, 0] rfl ?_
    have jj := jn1
    rw [eT] at jj
    exact jj
  · skip
    refine w_aload_n ok dX12_passes_16 1 rfl ?_
    refine w_getR ok dX12_passes_17 (fX12_96 rfl) (congrArg Prod.fst s_130) rfl (r_130_43 ro) (ltM hnn (by decide)) ?_
    refine w_iload_n ok dX12_passes_20 2 rfl ?_
    refine y_iald (q := a0.toNatClampNeg) ok dX12_passes_21 s_158 (hp11 c11) (by decide) (ltM hnn (by decide)) (sdm hf (by decide)) ?_
    refine w_iconst (v := 1) ok dX12_passes_22 (by decide) ?_
    refine w_iadd ok dX12_passes_23 ?_
    refine w_goto (tgt := 28) ok dX12_passes_24 (by decide) ?_
    have eT : (T_X12_passes_j28 a0 a1 I J) = (((FI_X12_isAway a0 a1 I J) 158 a0.toNatClampNeg) + 1) := by
      unfold T_X12_passes_j28; exact (if_neg c11).trans (rfl)
    refine w_loc [1, 2, 3, 0] rfl ?_
    have jj := jn1
    rw [eT] at jj
    exact jj
def B_X12_goesOn_l2 (a0 : Int32) (I : SI) (J : SJ) (i2 : Nat) (s2 : SI × SJ) : SI × SJ := ((FI_X12_passes 1 0 s2.1 s2.2), (FJ_X12_passes 1 0 s2.1 s2.2))
def F_X12_goesOn_l2 (a0 : Int32) (I : SI) (J : SJ) (s0 : SI × SJ) : SI × SJ := itN (B_X12_goesOn_l2 a0 I J) (a0.toNatClampNeg) s0
def FI_X12_goesOn (a0 : Int32) (I : SI) (J : SJ) : SI := (F_X12_goesOn_l2 a0 I J (I, J)).1
def FJ_X12_goesOn (a0 : Int32) (I : SI) (J : SJ) : SJ := (F_X12_goesOn_l2 a0 I J (I, J)).2
def H_X12_goesOn (a0 : Int32) (I : SI) (J : SJ) : Prop := (∀ (i2 : Nat) (s2 : SI × SJ), i2 < a0.toNatClampNeg → s2 = itN (B_X12_goesOn_l2 a0 I J) i2 (I, J) → H_X12_passes 1 0 s2.1 s2.2)
set_option maxHeartbeats 1000000 in
set_option maxRecDepth 40000 in
theorem c_X12_goesOn {I : SI} {J : SJ} {R : SR} {n g : Nat} {f : Fr} (ro : RM R) (hnn : nM ≤ n) (hf : f.1 = false) (a0 : Int32)  (hp : H_X12_goesOn a0 I J) : MM 7 0 0 mX12_goesOn [.ref 130, .int a0] (eI f I) (eJ f J) R n g (Pd none (eI f (FI_X12_goesOn a0 I J)) (eJ f (FJ_X12_goesOn a0 I J)) R n g) := by
  refine MM.of (by decide) (Nat.le_of_ble_eq_true rfl) fun K ok fin => ?_
  show WK K 0 0 0 [(0, .ref 130), (1, .int a0)] [] (eI f I) (eJ f J) R n g
  have hp1 := hp
  refine w_iconst (v := 0) ok dX12_goesOn_0 (by decide) ?_
  refine w_istore_n ok dX12_goesOn_1 rfl (by decide) rfl ?_
  refine w_loc [1, 2, 0] rfl ?_
  refine loop_for (σ := SI × SJ) (fun (i2 : Nat) (s2 : SI × SJ) => WK K 0 0 2 [(0, .ref 130), (1, .int a0), (2, .int (nI i2))] [] (eI f s2.1) (eJ f s2.2) R n g) (B_X12_goesOn_l2 a0 I J) (a0.toNatClampNeg) ((I, J)) ?_ ?_
  · show WK K 0 0 2 [(0, .ref 130), (1, .int a0), (2, .int (nI a0.toNatClampNeg))] [] (eI f ((F_X12_goesOn_l2 a0 I J (I, J)).1)) (eJ f ((F_X12_goesOn_l2 a0 I J (I, J)).2)) R n g
    have e1 : a0 ≤ (nI a0.toNatClampNeg) := cnt_ge _
    refine w_iload_n ok dX12_goesOn_2 2 rfl ?_
    refine w_iload_n ok dX12_goesOn_3 1 rfl ?_
    refine w_icmp_ge (tgt := 19) ok dX12_goesOn_4 (by decide) (fun _ => ?_) (fun h => absurd e1 h)
    exact w_vret ok fin dX12_goesOn_19 rfl (by unfold FI_X12_goesOn FJ_X12_goesOn; exact Pd.i)
  · intro i2 s2 hi2 hs2 k2
    show WK K 0 0 2 [(0, .ref 130), (1, .int a0), (2, .int (nI i2))] [] (eI f s2.1) (eJ f s2.2) R n g
    have e2 : ¬ (a0 ≤ (nI i2)) := cnt_lt hi2
    refine w_iload_n ok dX12_goesOn_2 2 rfl ?_
    refine w_iload_n ok dX12_goesOn_3 1 rfl ?_
    refine w_icmp_ge (tgt := 19) ok dX12_goesOn_4 (by decide) (fun h => absurd h e2) (fun _ => ?_)
    refine w_aload_n ok dX12_goesOn_7 0 rfl ?_
    refine w_iconst (v := 1) ok dX12_goesOn_8 (by decide) ?_
    refine w_iconst (v := 0) ok dX12_goesOn_9 (by decide) ?_
    refine w_cV (As := [.int 1, .int 0]) ok dX12_goesOn_10 iX12_passes (lX12_440 rfl) (rcv cls12 (congrArg Prod.fst s_130)) (ltM hnn (by decide)) (c_X12_passes ro hnn hf 1 0  (hp1 i2 s2 hi2 hs2)) (by decide) rfl (Nat.le_of_ble_eq_true rfl) ?_
    refine w_iinc (v := (nI i2) + 1) ok dX12_goesOn_13 2 rfl rfl (by decide) rfl ?_
    refine w_goto (tgt := 2) ok dX12_goesOn_16 (by decide) ?_
    have eB : B_X12_goesOn_l2 a0 I J i2 s2 = ((FI_X12_passes 1 0 s2.1 s2.2), (FJ_X12_passes 1 0 s2.1 s2.2)) := by
      unfold B_X12_goesOn_l2; exact rfl
    have kk := k2
    rw [eB] at kk
    refine w_loc [1, 2, 0] rfl ?_
    rw [nI_1 i2]
    exact kk
def FI_X12_runs (a0 : Int32) (I : SI) (J : SJ) : SI := FI_X12_goesOn a0 (FI_X12_copies 1 0 I J) J
def FJ_X12_runs (a0 : Int32) (I : SI) (J : SJ) : SJ := FJ_X12_goesOn a0 (FI_X12_copies 1 0 I J) J
def H_X12_runs (a0 : Int32) (I : SI) (J : SJ) : Prop := (H_X12_copies 1 0 I J) ∧ (H_X12_goesOn a0 (FI_X12_copies 1 0 I J) J)
set_option maxHeartbeats 1000000 in
set_option maxRecDepth 40000 in
theorem c_X12_runs {I : SI} {J : SJ} {R : SR} {n g : Nat} {f : Fr} (ro : RM R) (hnn : nM ≤ n) (hf : f.1 = false) (a0 : Int32)  (hp : H_X12_runs a0 I J) : MM 8 0 0 mX12_runs [.ref 130, .int a0] (eI f I) (eJ f J) R n g (Pd none (eI f (FI_X12_runs a0 I J)) (eJ f (FJ_X12_runs a0 I J)) R n g) := by
  refine MM.of (by decide) (Nat.le_of_ble_eq_true rfl) fun K ok fin => ?_
  show WK K 0 0 0 [(0, .ref 130), (1, .int a0)] [] (eI f I) (eJ f J) R n g
  obtain ⟨hp1, hp2⟩ := hp
  refine w_aload_n ok dX12_runs_0 0 rfl ?_
  refine w_iconst (v := 1) ok dX12_runs_1 (by decide) ?_
  refine w_iconst (v := 0) ok dX12_runs_2 (by decide) ?_
  refine w_cV (As := [.int 1, .int 0]) ok dX12_runs_3 iX12_copies (lX12_444 rfl) (rcv cls12 (congrArg Prod.fst s_130)) (ltM hnn (by decide)) (c_X12_copies ro hnn hf 1 0  (hp1)) (by decide) rfl (Nat.le_of_ble_eq_true rfl) ?_
  refine w_aload_n ok dX12_runs_6 0 rfl ?_
  refine w_iload_n ok dX12_runs_7 1 rfl ?_
  refine w_cV (As := [.int a0]) ok dX12_runs_8 iX12_goesOn (lX12_447 rfl) (rcv cls12 (congrArg Prod.fst s_130)) (ltM hnn (by decide)) (c_X12_goesOn ro hnn hf a0  (hp2)) (by decide) rfl (Nat.le_of_ble_eq_true rfl) ?_
  exact w_vret ok fin dX12_runs_11 rfl (by unfold FI_X12_runs FJ_X12_runs; exact Pd.i)
def B_X12_sumOf_l5 (a0 : Nat) (la0 : Nat) (a1 : Int32) (I : SI) (J : SJ) (i5 : Nat) (s5 : Int32) : Int32 := (s5 + (I a0 (((8 : Int32) * a1) + (nI i5)).toNatClampNeg))
def F_X12_sumOf_l5 (a0 : Nat) (la0 : Nat) (a1 : Int32) (I : SI) (J : SJ) (s0 : Int32) : Int32 := itN (B_X12_sumOf_l5 a0 la0 a1 I J) (8) s0
def F_X12_sumOf (a0 : Nat) (la0 : Nat) (a1 : Int32) (I : SI) (J : SJ) : Int32 := (F_X12_sumOf_l5 a0 la0 a1 I J 0)
def H_X12_sumOf (a0 : Nat) (la0 : Nat) (a1 : Int32) (I : SI) (J : SJ) : Prop := (∀ (i5 : Nat) (s5 : Int32), i5 < 8 → s5 = itN (B_X12_sumOf_l5 a0 la0 a1 I J) i5 0 → inR (((8 : Int32) * a1) + (nI i5)) la0)
set_option maxHeartbeats 1000000 in
set_option maxRecDepth 40000 in
theorem c_X12_sumOf {I : SI} {J : SJ} {R : SR} {n g : Nat} {f : Fr} (ro : RM R) (hnn : nM ≤ n) (hf : f.1 = false) {a0 : Nat} {la0 : Nat} (a1 : Int32) (hsa0 : SH a0 = (14, la0)) (hka0 : a0 < n) (hda0 : sd f a0) (hlen : la0 < 2 ^ 31)  (hp : H_X12_sumOf a0 la0 a1 I J) : MM 0 0 0 mX12_sumOf [.ref 130, .ref a0, .int a1] (eI f I) (eJ f J) R n g (Pd (some (.int (F_X12_sumOf a0 la0 a1 I J))) (eI f I) (eJ f J) R n g) := by
  refine MM.of (by decide) (Nat.le_of_ble_eq_true rfl) fun K ok fin => ?_
  show WK K 0 0 0 [(0, .ref 130), (1, .ref a0), (2, .int a1)] [] (eI f I) (eJ f J) R n g
  have hp1 := hp
  refine w_iconst (v := 0) ok dX12_sumOf_0 (by decide) ?_
  refine w_istore_n ok dX12_sumOf_1 rfl (by decide) rfl ?_
  refine w_iconst (v := 0) ok dX12_sumOf_2 (by decide) ?_
  refine w_istore ok dX12_sumOf_3 (by decide) rfl ?_
  refine w_loc [2, 3, 4, 1, 0] rfl ?_
  refine loop_for (σ := Int32) (fun (i5 : Nat) (s5 : Int32) => WK K 0 0 5 [(0, .ref 130), (1, .ref a0), (2, .int a1), (3, .int s5), (4, .int (nI i5))] [] (eI f I) (eJ f J) R n g) (B_X12_sumOf_l5 a0 la0 a1 I J) (8) (0) ?_ ?_
  · show WK K 0 0 5 [(0, .ref 130), (1, .ref a0), (2, .int a1), (3, .int (F_X12_sumOf_l5 a0 la0 a1 I J 0)), (4, .int (nI 8))] [] (eI f I) (eJ f J) R n g
    have e1 : (8 : Int32) ≤ (nI 8) := (show nI 8 ≤ nI 8 from nI_le (by omega) (by decide))
    refine w_iload ok dX12_sumOf_5 4 rfl ?_
    refine w_bipush (v := 8) ok dX12_sumOf_7 (by decide) ?_
    refine w_icmp_ge (tgt := 30) ok dX12_sumOf_9 (by decide) (fun _ => ?_) (fun h => absurd e1 h)
    refine w_iload_n ok dX12_sumOf_30 3 rfl ?_
    exact w_iret ok fin dX12_sumOf_31 rfl (by unfold F_X12_sumOf; exact Pd.i)
  · intro i5 s5 hi5 hs5 k5
    show WK K 0 0 5 [(0, .ref 130), (1, .ref a0), (2, .int a1), (3, .int s5), (4, .int (nI i5))] [] (eI f I) (eJ f J) R n g
    have e2 : ¬ ((8 : Int32) ≤ (nI i5)) := (show ¬ (nI 8 ≤ nI i5) from nI_ge (by omega) (by decide))
    refine w_iload ok dX12_sumOf_5 4 rfl ?_
    refine w_bipush (v := 8) ok dX12_sumOf_7 (by decide) ?_
    refine w_icmp_ge (tgt := 30) ok dX12_sumOf_9 (by decide) (fun h => absurd h e2) (fun _ => ?_)
    refine w_iload_n ok dX12_sumOf_12 3 rfl ?_
    refine w_aload_n ok dX12_sumOf_13 1 rfl ?_
    refine w_bipush (v := 8) ok dX12_sumOf_14 (by decide) ?_
    refine w_iload_n ok dX12_sumOf_16 2 rfl ?_
    refine w_imul ok dX12_sumOf_17 ?_
    refine w_iload ok dX12_sumOf_18 4 rfl ?_
    refine w_iadd ok dX12_sumOf_20 ?_
    refine y_iald (q := (((8 : Int32) * a1) + (nI i5)).toNatClampNeg) ok dX12_sumOf_21 hsa0 (hp1 i5 s5 hi5 hs5) hlen hka0 hda0 ?_
    refine w_iadd ok dX12_sumOf_22 ?_
    refine w_istore_n ok dX12_sumOf_23 rfl (by decide) rfl ?_
    refine w_iinc (v := (nI i5) + 1) ok dX12_sumOf_24 4 rfl rfl (by decide) rfl ?_
    refine w_goto (tgt := 5) ok dX12_sumOf_27 (by decide) ?_
    have eB : B_X12_sumOf_l5 a0 la0 a1 I J i5 s5 = (s5 + (I a0 (((8 : Int32) * a1) + (nI i5)).toNatClampNeg)) := by
      unfold B_X12_sumOf_l5; exact rfl
    have kk := k5
    rw [eB] at kk
    refine w_loc [2, 3, 4, 1, 0] rfl ?_
    rw [nI_1 i5]
    exact kk
def T_X12_mark_j27 (a0 : Int32) (a1 : Int32) (I : SI) (J : SJ) : Int32 := if (F_X12_isMark a0 I J) = 0 then 1 else (if a1 < 0 then 2 else (if a1 ≤ 4 then 0 else 2))
def F_X12_mark (a0 : Int32) (a1 : Int32) (I : SI) (J : SJ) : Int32 := if ((u2 I 130 0 (T_X12_mark_j27 a0 a1 I J)) 130 0) = 0 then (if a1 = 0 then (u2 I 130 0 (T_X12_mark_j27 a0 a1 I J)) 134 a0.toNatClampNeg else (if a1 = 1 then (u2 I 130 0 (T_X12_mark_j27 a0 a1 I J)) 135 a0.toNatClampNeg else (if a1 = 2 then (u2 I 130 0 (T_X12_mark_j27 a0 a1 I J)) 160 a0.toNatClampNeg else (if a1 = 3 then (u2 I 130 0 (T_X12_mark_j27 a0 a1 I J)) 161 a0.toNatClampNeg else F_X12_timesOf 0 a0 (-1) (u2 I 130 0 (T_X12_mark_j27 a0 a1 I J)) J)))) else 0
def FI_X12_mark (a0 : Int32) (a1 : Int32) (I : SI) (J : SJ) : SI := if ((u2 I 130 0 (T_X12_mark_j27 a0 a1 I J)) 130 0) = 0 then (if a1 = 0 then u2 I 130 0 (T_X12_mark_j27 a0 a1 I J) else (if a1 = 1 then u2 I 130 0 (T_X12_mark_j27 a0 a1 I J) else (if a1 = 2 then u2 I 130 0 (T_X12_mark_j27 a0 a1 I J) else (if a1 = 3 then u2 I 130 0 (T_X12_mark_j27 a0 a1 I J) else u2 I 130 0 (T_X12_mark_j27 a0 a1 I J))))) else u2 I 130 0 (T_X12_mark_j27 a0 a1 I J)
def H_X12_mark (a0 : Int32) (a1 : Int32) (I : SI) (J : SJ) : Prop := (((u2 I 130 0 (T_X12_mark_j27 a0 a1 I J)) 130 0) = 0 → a1 = 0 → inR a0 12) ∧ (((u2 I 130 0 (T_X12_mark_j27 a0 a1 I J)) 130 0) = 0 → ¬ (a1 = 0) → a1 = 1 → inR a0 12) ∧ (((u2 I 130 0 (T_X12_mark_j27 a0 a1 I J)) 130 0) = 0 → ¬ (a1 = 0) → ¬ (a1 = 1) → a1 = 2 → inR a0 138) ∧ (((u2 I 130 0 (T_X12_mark_j27 a0 a1 I J)) 130 0) = 0 → ¬ (a1 = 0) → ¬ (a1 = 1) → ¬ (a1 = 2) → a1 = 3 → inR a0 138) ∧ (((u2 I 130 0 (T_X12_mark_j27 a0 a1 I J)) 130 0) = 0 → ¬ (a1 = 0) → ¬ (a1 = 1) → ¬ (a1 = 2) → ¬ (a1 = 3) → H_X12_timesOf 0 a0 (-1) (u2 I 130 0 (T_X12_mark_j27 a0 a1 I J)) J)
set_option maxHeartbeats 1060000 in
set_option maxRecDepth 40000 in
theorem c_X12_mark {I : SI} {J : SJ} {R : SR} {n g : Nat} {f : Fr} (ro : RM R) (hnn : nM ≤ n) (hf : f.1 = false) (a0 : Int32) (a1 : Int32)  (hp : H_X12_mark a0 a1 I J) : MM 2 0 0 mX12_mark [.ref 130, .int a0, .int a1] (eI f I) (eJ f J) R n g (Pd (some (.int (F_X12_mark a0 a1 I J))) (eI f (FI_X12_mark a0 a1 I J)) (eJ f J) R n g) := by
  refine MM.of (by decide) (Nat.le_of_ble_eq_true rfl) fun K ok fin => ?_
  show WK K 0 0 0 [(0, .ref 130), (1, .int a0), (2, .int a1)] [] (eI f I) (eJ f J) R n g
  obtain ⟨hp1, hp2, hp3, hp4, hp5⟩ := hp
  refine w_aload_n ok dX12_mark_0 0 rfl ?_
  refine w_aload_n ok dX12_mark_1 0 rfl ?_
  refine w_iload_n ok dX12_mark_2 1 rfl ?_
  refine w_cV (As := [.int a0]) ok dX12_mark_3 iX12_isMark (lX12_450 rfl) (rcv cls12 (congrArg Prod.fst s_130)) (ltM hnn (by decide)) (c_X12_isMark ro hnn hf a0 ) (by decide) rfl (Nat.le_of_ble_eq_true rfl) ?_
  show WK K 0 0 6 [(0, .ref 130), (1, .int a0), (2, .int a1)] [.int (F_X12_isMark a0 I J), .ref 130] (eI f I) (eJ f J) R n g
  have jn1 : WK K 0 0 27 [(0, .ref 130), (1, .int a0), (2, .int a1)] [.int (T_X12_mark_j27 a0 a1 I J), .ref 130] (eI f I) (eJ f J) R n g := by
    refine y_putI ok dX12_mark_27 (fwX12_169 rfl) (congrArg Prod.fst s_130) rfl (ltM hnn (by decide)) (sdm hf (by decide)) ?_
    refine w_aload_n ok dX12_mark_30 0 rfl ?_
    refine y_getI ok dX12_mark_31 (fX12_169 rfl) (congrArg Prod.fst s_130) rfl (ltM hnn (by decide)) (sdm hf (by decide)) ?_
    refine w_if_eq (tgt := 39) ok dX12_mark_34 (by decide) (fun c2 => ?_) (fun c2 => ?_)
    · skip
      refine w_iload_n ok dX12_mark_39 2 rfl ?_
      by_cases c3 : a1 = 0
      · skip
        refine w_tabIn (tgt := 72) (off := 32) ok dX12_mark_40 (by rw [c3]; decide) (by rw [c3]; decide) (by rw [c3]; rfl) (by decide) ?_
        refine w_aload_n ok dX12_mark_72 0 rfl ?_
        refine w_getR ok dX12_mark_73 (fX12_19 rfl) (congrArg Prod.fst s_130) rfl (r_130_5 ro) (ltM hnn (by decide)) ?_
        refine w_iload_n ok dX12_mark_76 1 rfl ?_
        refine y_iald (q := a0.toNatClampNeg) ok dX12_mark_77 s_134 (hp1 c2 c3) (by decide) (ltM hnn (by decide)) (sdm hf (by decide)) ?_
        exact w_iret ok fin dX12_mark_78 rfl (by unfold F_X12_mark FI_X12_mark; simp only [if_pos c2]; simp only [if_pos c3]; exact Pd.i)
      · skip
        by_cases c4 : a1 = 1
        · skip
          refine w_tabIn (tgt := 79) (off := 39) ok dX12_mark_40 (by rw [c4]; decide) (by rw [c4]; decide) (by rw [c4]; rfl) (by decide) ?_
          refine w_aload_n ok dX12_mark_79 0 rfl ?_
          refine w_getR ok dX12_mark_80 (fX12_22 rfl) (congrArg Prod.fst s_130) rfl (r_130_6 ro) (ltM hnn (by decide)) ?_
          refine w_iload_n ok dX12_mark_83 1 rfl ?_
          refine y_iald (q := a0.toNatClampNeg) ok dX12_mark_84 s_135 (hp2 c2 c3 c4) (by decide) (ltM hnn (by decide)) (sdm hf (by decide)) ?_
          exact w_iret ok fin dX12_mark_85 rfl (by unfold F_X12_mark FI_X12_mark; simp only [if_pos c2]; simp only [if_neg c3]; simp only [if_pos c4]; exact Pd.i)
        · skip
          by_cases c5 : a1 = 2
          · skip
            refine w_tabIn (tgt := 86) (off := 46) ok dX12_mark_40 (by rw [c5]; decide) (by rw [c5]; decide) (by rw [c5]; rfl) (by decide) ?_
            refine w_aload_n ok dX12_mark_86 0 rfl ?_
            refine w_getR ok dX12_mark_87 (fX12_102 rfl) (congrArg Prod.fst s_130) rfl (r_130_45 ro) (ltM hnn (by decide)) ?_
            refine w_iload_n ok dX12_mark_90 1 rfl ?_
            refine y_iald (q := a0.toNatClampNeg) ok dX12_mark_91 s_160 (hp3 c2 c3 c4 c5) (by decide) (ltM hnn (by decide)) (sdm hf (by decide)) ?_
            exact w_iret ok fin dX12_mark_92 rfl (by unfold F_X12_mark FI_X12_mark; simp only [if_pos c2]; simp only [if_neg c3]; simp only [if_neg c4]; simp only [if_pos c5]; exact Pd.i)
          · skip
            by_cases c6 : a1 = 3
            · skip
              refine w_tabIn (tgt := 93) (off := 53) ok dX12_mark_40 (by rw [c6]; decide) (by rw [c6]; decide) (by rw [c6]; rfl) (by decide) ?_
              refine w_aload_n ok dX12_mark_93 0 rfl ?_
              refine w_getR ok dX12_mark_94 (fX12_105 rfl) (congrArg Prod.fst s_130) rfl (r_130_46 ro) (ltM hnn (by decide)) ?_
              refine w_iload_n ok dX12_mark_97 1 rfl ?_
              refine y_iald (q := a0.toNatClampNeg) ok dX12_mark_98 s_161 (hp4 c2 c3 c4 c5 c6) (by decide) (ltM hnn (by decide)) (sdm hf (by decide)) ?_
              exact w_iret ok fin dX12_mark_99 rfl (by unfold F_X12_mark FI_X12_mark; simp only [if_pos c2]; simp only [if_neg c3]; simp only [if_neg c4]; simp only [if_neg c5]; simp only [if_pos c6]; exact Pd.i)
            · skip
              have n7 : a1.toInt ≠ 0 := ne_toInt c3
              have n8 : a1.toInt ≠ 1 := ne_toInt c4
              have n9 : a1.toInt ≠ 2 := ne_toInt c5
              have n10 : a1.toInt ≠ 3 := ne_toInt c6
              refine w_tabOut (tgt := 100) ok dX12_mark_40 (by omega) (by decide) ?_
              refine w_aload_n ok dX12_mark_100 0 rfl ?_
              refine w_iconst (v := 0) ok dX12_mark_101 (by decide) ?_
              refine w_iload_n ok dX12_mark_102 1 rfl ?_
              refine w_iconst (v := (-1)) ok dX12_mark_103 (by decide) ?_
              refine w_cV (As := [.int 0, .int a0, .int (-1)]) ok dX12_mark_104 iX12_timesOf (lX12_378 rfl) (rcv cls12 (congrArg Prod.fst s_130)) (ltM hnn (by decide)) (c_X12_timesOf ro hnn hf 0 a0 (-1)  (hp5 c2 c3 c4 c5 c6)) (by decide) rfl (Nat.le_of_ble_eq_true rfl) ?_
              exact w_iret ok fin dX12_mark_107 rfl (by unfold F_X12_mark FI_X12_mark; simp only [if_pos c2]; simp only [if_neg c3]; simp only [if_neg c4]; simp only [if_neg c5]; simp only [if_neg c6]; exact Pd.i)
    · skip
      refine w_iconst (v := 0) ok dX12_mark_37 (by decide) ?_
      exact w_iret ok fin dX12_mark_38 rfl (by unfold F_X12_mark FI_X12_mark; simp only [if_neg c2]; exact Pd.i)
  refine w_if_ne (tgt := 13) ok dX12_mark_6 (by decide) (fun c11 => ?_) (fun c11 => ?_)
  · skip
    refine w_iload_n ok dX12_mark_13 2 rfl ?_
    refine w_if_lt (tgt := 22) ok dX12_mark_14 (by decide) (fun c12 => ?_) (fun c12 => ?_)
    · skip
      refine w_iconst (v := 2) ok dX12_mark_22 (by decide) ?_
      refine w_goto (tgt := 27) ok dX12_mark_23 (by decide) ?_
      have eT : (T_X12_mark_j27 a0 a1 I J) = 2 := by
        unfold T_X12_mark_j27; exact (if_neg c11).trans ((if_pos c12).trans (rfl))
      refine w_loc [0, 1, 2] rfl ?_
      have jj := jn1
      rw [eT] at jj
      exact jj
    · skip
      refine w_iload_n ok dX12_mark_17 2 rfl ?_
      refine w_iconst (v := 4) ok dX12_mark_18 (by decide) ?_
      refine w_icmp_le (tgt := 26) ok dX12_mark_19 (by decide) (fun c13 => ?_) (fun c13 => ?_)
      · skip
        refine w_iconst (v := 0) ok dX12_mark_26 (by decide) ?_
        have eT : (T_X12_mark_j27 a0 a1 I J) = 0 := by
          unfold T_X12_mark_j27; exact (if_neg c11).trans ((if_neg c12).trans ((if_pos c13).trans (rfl)))
        refine w_loc [0, 1, 2] rfl ?_
        have jj := jn1
        rw [eT] at jj
        exact jj
      · skip
        refine w_iconst (v := 2) ok dX12_mark_22 (by decide) ?_
        refine w_goto (tgt := 27) ok dX12_mark_23 (by decide) ?_
        have eT : (T_X12_mark_j27 a0 a1 I J) = 2 := by
          unfold T_X12_mark_j27; exact (if_neg c11).trans ((if_neg c12).trans ((if_neg c13).trans (rfl)))
        refine w_loc [0, 1, 2] rfl ?_
        have jj := jn1
        rw [eT] at jj
        exact jj
  · skip
    refine w_iconst (v := 1) ok dX12_mark_9 (by decide) ?_
    refine w_goto (tgt := 27) ok dX12_mark_10 (by decide) ?_
    have eT : (T_X12_mark_j27 a0 a1 I J) = 1 := by
      unfold T_X12_mark_j27; exact (if_pos c11).trans (rfl)
    refine w_loc [0, 1, 2] rfl ?_
    have jj := jn1
    rw [eT] at jj
    exact jj
def F_X12_shot (a0 : Int32) (a1 : Int32) (I : SI) (J : SJ) : Int32 := if (F_X12_isShot a0 (u2 I 130 0 0) J) = 0 then -1 else (if a1 = 0 then (u2 I 130 0 0) 137 a0.toNatClampNeg else (if a1 = 1 then (u2 I 130 0 0) 162 a0.toNatClampNeg else (if a1 = 2 then (u2 I 130 0 0) 163 a0.toNatClampNeg else (if a1 = 3 then F_X12_clashesOf 0 a0 (u2 I 130 0 0) J else (if a1 = 4 then (u2 I 130 0 0) 164 a0.toNatClampNeg else -1)))))
def FI_X12_shot (a0 : Int32) (a1 : Int32) (I : SI) (J : SJ) : SI := if (F_X12_isShot a0 (u2 I 130 0 0) J) = 0 then u2 I 130 0 0 else (if a1 = 0 then u2 I 130 0 0 else (if a1 = 1 then u2 I 130 0 0 else (if a1 = 2 then u2 I 130 0 0 else (if a1 = 3 then u2 I 130 0 0 else (if a1 = 4 then u2 I 130 0 0 else u2 I 130 0 0)))))
def H_X12_shot (a0 : Int32) (a1 : Int32) (I : SI) (J : SJ) : Prop := (¬ ((F_X12_isShot a0 (u2 I 130 0 0) J) = 0) → a1 = 0 → inR a0 16) ∧ (¬ ((F_X12_isShot a0 (u2 I 130 0 0) J) = 0) → ¬ (a1 = 0) → a1 = 1 → inR a0 184) ∧ (¬ ((F_X12_isShot a0 (u2 I 130 0 0) J) = 0) → ¬ (a1 = 0) → ¬ (a1 = 1) → a1 = 2 → inR a0 184) ∧ (¬ ((F_X12_isShot a0 (u2 I 130 0 0) J) = 0) → ¬ (a1 = 0) → ¬ (a1 = 1) → ¬ (a1 = 2) → a1 = 3 → H_X12_clashesOf 0 a0 (u2 I 130 0 0) J) ∧ (¬ ((F_X12_isShot a0 (u2 I 130 0 0) J) = 0) → ¬ (a1 = 0) → ¬ (a1 = 1) → ¬ (a1 = 2) → ¬ (a1 = 3) → a1 = 4 → inR a0 184)
set_option maxHeartbeats 1000000 in
set_option maxRecDepth 40000 in
theorem c_X12_shot {I : SI} {J : SJ} {R : SR} {n g : Nat} {f : Fr} (ro : RM R) (hnn : nM ≤ n) (hf : f.1 = false) (a0 : Int32) (a1 : Int32)  (hp : H_X12_shot a0 a1 I J) : MM 3 0 0 mX12_shot [.ref 130, .int a0, .int a1] (eI f I) (eJ f J) R n g (Pd (some (.int (F_X12_shot a0 a1 I J))) (eI f (FI_X12_shot a0 a1 I J)) (eJ f J) R n g) := by
  refine MM.of (by decide) (Nat.le_of_ble_eq_true rfl) fun K ok fin => ?_
  show WK K 0 0 0 [(0, .ref 130), (1, .int a0), (2, .int a1)] [] (eI f I) (eJ f J) R n g
  obtain ⟨hp1, hp2, hp3, hp4, hp5⟩ := hp
  refine w_aload_n ok dX12_shot_0 0 rfl ?_
  refine w_iconst (v := 0) ok dX12_shot_1 (by decide) ?_
  refine y_putI ok dX12_shot_2 (fwX12_169 rfl) (congrArg Prod.fst s_130) rfl (ltM hnn (by decide)) (sdm hf (by decide)) ?_
  refine w_aload_n ok dX12_shot_5 0 rfl ?_
  refine w_iload_n ok dX12_shot_6 1 rfl ?_
  refine w_cV (As := [.int a0]) ok dX12_shot_7 iX12_isShot (lX12_453 rfl) (rcv cls12 (congrArg Prod.fst s_130)) (ltM hnn (by decide)) (c_X12_isShot ro hnn hf a0 ) (by decide) rfl (Nat.le_of_ble_eq_true rfl) ?_
  refine w_if_ne (tgt := 15) ok dX12_shot_10 (by decide) (fun c1 => ?_) (fun c1 => ?_)
  · skip
    refine w_iload_n ok dX12_shot_15 2 rfl ?_
    by_cases c2 : a1 = 0
    · skip
      refine w_tabIn (tgt := 52) (off := 36) ok dX12_shot_16 (by rw [c2]; decide) (by rw [c2]; decide) (by rw [c2]; rfl) (by decide) ?_
      refine w_aload_n ok dX12_shot_52 0 rfl ?_
      refine w_getR ok dX12_shot_53 (fX12_28 rfl) (congrArg Prod.fst s_130) rfl (r_130_8 ro) (ltM hnn (by decide)) ?_
      refine w_iload_n ok dX12_shot_56 1 rfl ?_
      refine y_iald (q := a0.toNatClampNeg) ok dX12_shot_57 s_137 (hp1 c1 c2) (by decide) (ltM hnn (by decide)) (sdm hf (by decide)) ?_
      exact w_iret ok fin dX12_shot_58 rfl (by unfold F_X12_shot FI_X12_shot; simp only [if_neg c1]; simp only [if_pos c2]; exact Pd.i)
    · skip
      by_cases c3 : a1 = 1
      · skip
        refine w_tabIn (tgt := 59) (off := 43) ok dX12_shot_16 (by rw [c3]; decide) (by rw [c3]; decide) (by rw [c3]; rfl) (by decide) ?_
        refine w_aload_n ok dX12_shot_59 0 rfl ?_
        refine w_getR ok dX12_shot_60 (fX12_108 rfl) (congrArg Prod.fst s_130) rfl (r_130_47 ro) (ltM hnn (by decide)) ?_
        refine w_iload_n ok dX12_shot_63 1 rfl ?_
        refine y_iald (q := a0.toNatClampNeg) ok dX12_shot_64 s_162 (hp2 c1 c2 c3) (by decide) (ltM hnn (by decide)) (sdm hf (by decide)) ?_
        exact w_iret ok fin dX12_shot_65 rfl (by unfold F_X12_shot FI_X12_shot; simp only [if_neg c1]; simp only [if_neg c2]; simp only [if_pos c3]; exact Pd.i)
      · skip
        by_cases c4 : a1 = 2
        · skip
          refine w_tabIn (tgt := 66) (off := 50) ok dX12_shot_16 (by rw [c4]; decide) (by rw [c4]; decide) (by rw [c4]; rfl) (by decide) ?_
          refine w_aload_n ok dX12_shot_66 0 rfl ?_
          refine w_getR ok dX12_shot_67 (fX12_111 rfl) (congrArg Prod.fst s_130) rfl (r_130_48 ro) (ltM hnn (by decide)) ?_
          refine w_iload_n ok dX12_shot_70 1 rfl ?_
          refine y_iald (q := a0.toNatClampNeg) ok dX12_shot_71 s_163 (hp3 c1 c2 c3 c4) (by decide) (ltM hnn (by decide)) (sdm hf (by decide)) ?_
          exact w_iret ok fin dX12_shot_72 rfl (by unfold F_X12_shot FI_X12_shot; simp only [if_neg c1]; simp only [if_neg c2]; simp only [if_neg c3]; simp only [if_pos c4]; exact Pd.i)
        · skip
          by_cases c5 : a1 = 3
          · skip
            refine w_tabIn (tgt := 73) (off := 57) ok dX12_shot_16 (by rw [c5]; decide) (by rw [c5]; decide) (by rw [c5]; rfl) (by decide) ?_
            refine w_aload_n ok dX12_shot_73 0 rfl ?_
            refine w_iconst (v := 0) ok dX12_shot_74 (by decide) ?_
            refine w_iload_n ok dX12_shot_75 1 rfl ?_
            refine w_cV (As := [.int 0, .int a0]) ok dX12_shot_76 iX12_clashesOf (lX12_385 rfl) (rcv cls12 (congrArg Prod.fst s_130)) (ltM hnn (by decide)) (c_X12_clashesOf ro hnn hf 0 a0  (hp4 c1 c2 c3 c4 c5)) (by decide) rfl (Nat.le_of_ble_eq_true rfl) ?_
            exact w_iret ok fin dX12_shot_79 rfl (by unfold F_X12_shot FI_X12_shot; simp only [if_neg c1]; simp only [if_neg c2]; simp only [if_neg c3]; simp only [if_neg c4]; simp only [if_pos c5]; exact Pd.i)
          · skip
            by_cases c6 : a1 = 4
            · skip
              refine w_tabIn (tgt := 80) (off := 64) ok dX12_shot_16 (by rw [c6]; decide) (by rw [c6]; decide) (by rw [c6]; rfl) (by decide) ?_
              refine w_aload_n ok dX12_shot_80 0 rfl ?_
              refine w_getR ok dX12_shot_81 (fX12_114 rfl) (congrArg Prod.fst s_130) rfl (r_130_49 ro) (ltM hnn (by decide)) ?_
              refine w_iload_n ok dX12_shot_84 1 rfl ?_
              refine y_iald (q := a0.toNatClampNeg) ok dX12_shot_85 s_164 (hp5 c1 c2 c3 c4 c5 c6) (by decide) (ltM hnn (by decide)) (sdm hf (by decide)) ?_
              exact w_iret ok fin dX12_shot_86 rfl (by unfold F_X12_shot FI_X12_shot; simp only [if_neg c1]; simp only [if_neg c2]; simp only [if_neg c3]; simp only [if_neg c4]; simp only [if_neg c5]; simp only [if_pos c6]; exact Pd.i)
            · skip
              have n7 : a1.toInt ≠ 0 := ne_toInt c2
              have n8 : a1.toInt ≠ 1 := ne_toInt c3
              have n9 : a1.toInt ≠ 2 := ne_toInt c4
              have n10 : a1.toInt ≠ 3 := ne_toInt c5
              have n11 : a1.toInt ≠ 4 := ne_toInt c6
              refine w_tabOut (tgt := 87) ok dX12_shot_16 (by omega) (by decide) ?_
              refine w_iconst (v := (-1)) ok dX12_shot_87 (by decide) ?_
              exact w_iret ok fin dX12_shot_88 rfl (by unfold F_X12_shot FI_X12_shot; simp only [if_neg c1]; simp only [if_neg c2]; simp only [if_neg c3]; simp only [if_neg c4]; simp only [if_neg c5]; simp only [if_neg c6]; exact Pd.i)
  · skip
    refine w_iconst (v := (-1)) ok dX12_shot_13 (by decide) ?_
    exact w_iret ok fin dX12_shot_14 rfl (by unfold F_X12_shot FI_X12_shot; simp only [if_pos c1]; exact Pd.i)
def F_X12_way (a0 : Int32) (a1 : Int32) (I : SI) (J : SJ) : Int32 := if (F_X12_isShot a0 (u2 I 130 0 0) J) = 0 then -1 else (if (F_X12_isMark a1 (u2 I 130 0 0) J) = 0 then -1 else (if (F_X12_wayIn 0 a0 a1 (u2 I 130 0 0) J) = (-1) then -2 else F_X12_wayIn 0 a0 a1 (u2 I 130 0 0) J))
def FI_X12_way (a0 : Int32) (a1 : Int32) (I : SI) (J : SJ) : SI := if (F_X12_isShot a0 (u2 I 130 0 0) J) = 0 then u2 I 130 0 0 else (if (F_X12_isMark a1 (u2 I 130 0 0) J) = 0 then u2 I 130 0 0 else (if (F_X12_wayIn 0 a0 a1 (u2 I 130 0 0) J) = (-1) then u2 I 130 0 0 else u2 I 130 0 0))
def H_X12_way (a0 : Int32) (a1 : Int32) (I : SI) (J : SJ) : Prop := (¬ ((F_X12_isShot a0 (u2 I 130 0 0) J) = 0) → ¬ ((F_X12_isMark a1 (u2 I 130 0 0) J) = 0) → H_X12_wayIn 0 a0 a1 (u2 I 130 0 0) J) ∧ (¬ ((F_X12_isShot a0 (u2 I 130 0 0) J) = 0) → ¬ ((F_X12_isMark a1 (u2 I 130 0 0) J) = 0) → ¬ ((F_X12_wayIn 0 a0 a1 (u2 I 130 0 0) J) = (-1)) → H_X12_wayIn 0 a0 a1 (u2 I 130 0 0) J)
set_option maxHeartbeats 1000000 in
set_option maxRecDepth 40000 in
theorem c_X12_way {I : SI} {J : SJ} {R : SR} {n g : Nat} {f : Fr} (ro : RM R) (hnn : nM ≤ n) (hf : f.1 = false) (a0 : Int32) (a1 : Int32)  (hp : H_X12_way a0 a1 I J) : MM 1 0 0 mX12_way [.ref 130, .int a0, .int a1] (eI f I) (eJ f J) R n g (Pd (some (.int (F_X12_way a0 a1 I J))) (eI f (FI_X12_way a0 a1 I J)) (eJ f J) R n g) := by
  refine MM.of (by decide) (Nat.le_of_ble_eq_true rfl) fun K ok fin => ?_
  show WK K 0 0 0 [(0, .ref 130), (1, .int a0), (2, .int a1)] [] (eI f I) (eJ f J) R n g
  obtain ⟨hp1, hp2⟩ := hp
  refine w_aload_n ok dX12_way_0 0 rfl ?_
  refine w_iconst (v := 0) ok dX12_way_1 (by decide) ?_
  refine y_putI ok dX12_way_2 (fwX12_169 rfl) (congrArg Prod.fst s_130) rfl (ltM hnn (by decide)) (sdm hf (by decide)) ?_
  refine w_aload_n ok dX12_way_5 0 rfl ?_
  refine w_iload_n ok dX12_way_6 1 rfl ?_
  refine w_cV (As := [.int a0]) ok dX12_way_7 iX12_isShot (lX12_453 rfl) (rcv cls12 (congrArg Prod.fst s_130)) (ltM hnn (by decide)) (c_X12_isShot ro hnn hf a0 ) (by decide) rfl (Nat.le_of_ble_eq_true rfl) ?_
  refine w_if_eq (tgt := 21) ok dX12_way_10 (by decide) (fun c1 => ?_) (fun c1 => ?_)
  · skip
    refine w_iconst (v := (-1)) ok dX12_way_21 (by decide) ?_
    exact w_iret ok fin dX12_way_22 rfl (by unfold F_X12_way FI_X12_way; simp only [if_pos c1]; exact Pd.i)
  · skip
    refine w_aload_n ok dX12_way_13 0 rfl ?_
    refine w_iload_n ok dX12_way_14 2 rfl ?_
    refine w_cV (As := [.int a1]) ok dX12_way_15 iX12_isMark (lX12_450 rfl) (rcv cls12 (congrArg Prod.fst s_130)) (ltM hnn (by decide)) (c_X12_isMark ro hnn hf a1 ) (by decide) rfl (Nat.le_of_ble_eq_true rfl) ?_
    refine w_if_ne (tgt := 23) ok dX12_way_18 (by decide) (fun c2 => ?_) (fun c2 => ?_)
    · skip
      refine w_aload_n ok dX12_way_23 0 rfl ?_
      refine w_iconst (v := 0) ok dX12_way_24 (by decide) ?_
      refine w_iload_n ok dX12_way_25 1 rfl ?_
      refine w_iload_n ok dX12_way_26 2 rfl ?_
      refine w_cV (As := [.int 0, .int a0, .int a1]) ok dX12_way_27 iX12_wayIn (lX12_371 rfl) (rcv cls12 (congrArg Prod.fst s_130)) (ltM hnn (by decide)) (c_X12_wayIn ro hnn hf 0 a0 a1  (hp1 c1 c2)) (by decide) rfl (Nat.le_of_ble_eq_true rfl) ?_
      refine w_iconst (v := (-1)) ok dX12_way_30 (by decide) ?_
      refine w_icmp_ne (tgt := 39) ok dX12_way_31 (by decide) (fun c3 => ?_) (fun c3 => ?_)
      · skip
        refine w_aload_n ok dX12_way_39 0 rfl ?_
        refine w_iconst (v := 0) ok dX12_way_40 (by decide) ?_
        refine w_iload_n ok dX12_way_41 1 rfl ?_
        refine w_iload_n ok dX12_way_42 2 rfl ?_
        refine w_cV (As := [.int 0, .int a0, .int a1]) ok dX12_way_43 iX12_wayIn (lX12_371 rfl) (rcv cls12 (congrArg Prod.fst s_130)) (ltM hnn (by decide)) (c_X12_wayIn ro hnn hf 0 a0 a1  (hp2 c1 c2 c3)) (by decide) rfl (Nat.le_of_ble_eq_true rfl) ?_
        exact w_iret ok fin dX12_way_46 rfl (by unfold F_X12_way FI_X12_way; simp only [if_neg c1]; simp only [if_neg c2]; simp only [if_neg c3]; exact Pd.i)
      · skip
        refine w_bipush (v := (-2)) ok dX12_way_34 (by decide) ?_
        refine w_goto (tgt := 46) ok dX12_way_36 (by decide) ?_
        exact w_iret ok fin dX12_way_46 rfl (by unfold F_X12_way FI_X12_way; simp only [if_neg c1]; simp only [if_neg c2]; simp only [if_pos c3]; exact Pd.i)
    · skip
      refine w_iconst (v := (-1)) ok dX12_way_21 (by decide) ?_
      exact w_iret ok fin dX12_way_22 rfl (by unfold F_X12_way FI_X12_way; simp only [if_neg c1]; simp only [if_pos c2]; exact Pd.i)
def F_X12_party (a0 : Int32) (a1 : Int32) (I : SI) (J : SJ) : Int32 := if (F_X12_isParty a0 (u2 I 130 0 0) J) = 0 then -1 else (if a1 = 0 then (u2 I 130 0 0) 141 a0.toNatClampNeg else (if a1 = 1 then (u2 I 130 0 0) 142 a0.toNatClampNeg else (if a1 = 2 then (u2 I 130 0 0) 166 a0.toNatClampNeg else (if a1 = 3 then (u2 I 130 0 0) 167 a0.toNatClampNeg else -1))))
def FI_X12_party (a0 : Int32) (a1 : Int32) (I : SI) (J : SJ) : SI := if (F_X12_isParty a0 (u2 I 130 0 0) J) = 0 then u2 I 130 0 0 else (if a1 = 0 then u2 I 130 0 0 else (if a1 = 1 then u2 I 130 0 0 else (if a1 = 2 then u2 I 130 0 0 else (if a1 = 3 then u2 I 130 0 0 else u2 I 130 0 0))))
def H_X12_party (a0 : Int32) (a1 : Int32) (I : SI) (J : SJ) : Prop := (¬ ((F_X12_isParty a0 (u2 I 130 0 0) J) = 0) → ¬ (a1 = 0) → ¬ (a1 = 1) → ¬ (a1 = 2) → a1 = 3 → inR a0 92) ∧ (¬ ((F_X12_isParty a0 (u2 I 130 0 0) J) = 0) → ¬ (a1 = 0) → ¬ (a1 = 1) → a1 = 2 → inR a0 92) ∧ (¬ ((F_X12_isParty a0 (u2 I 130 0 0) J) = 0) → ¬ (a1 = 0) → a1 = 1 → inR a0 8) ∧ (¬ ((F_X12_isParty a0 (u2 I 130 0 0) J) = 0) → a1 = 0 → inR a0 8)
set_option maxHeartbeats 1000000 in
set_option maxRecDepth 40000 in
theorem c_X12_party {I : SI} {J : SJ} {R : SR} {n g : Nat} {f : Fr} (ro : RM R) (hnn : nM ≤ n) (hf : f.1 = false) (a0 : Int32) (a1 : Int32)  (hp : H_X12_party a0 a1 I J) : MM 1 0 0 mX12_party [.ref 130, .int a0, .int a1] (eI f I) (eJ f J) R n g (Pd (some (.int (F_X12_party a0 a1 I J))) (eI f (FI_X12_party a0 a1 I J)) (eJ f J) R n g) := by
  refine MM.of (by decide) (Nat.le_of_ble_eq_true rfl) fun K ok fin => ?_
  show WK K 0 0 0 [(0, .ref 130), (1, .int a0), (2, .int a1)] [] (eI f I) (eJ f J) R n g
  obtain ⟨hp1, hp2, hp3, hp4⟩ := hp
  refine w_aload_n ok dX12_party_0 0 rfl ?_
  refine w_iconst (v := 0) ok dX12_party_1 (by decide) ?_
  refine y_putI ok dX12_party_2 (fwX12_169 rfl) (congrArg Prod.fst s_130) rfl (ltM hnn (by decide)) (sdm hf (by decide)) ?_
  refine w_aload_n ok dX12_party_5 0 rfl ?_
  refine w_iload_n ok dX12_party_6 1 rfl ?_
  refine w_cV (As := [.int a0]) ok dX12_party_7 iX12_isParty (lX12_456 rfl) (rcv cls12 (congrArg Prod.fst s_130)) (ltM hnn (by decide)) (c_X12_isParty ro hnn hf a0 ) (by decide) rfl (Nat.le_of_ble_eq_true rfl) ?_
  refine w_if_ne (tgt := 15) ok dX12_party_10 (by decide) (fun c1 => ?_) (fun c1 => ?_)
  · skip
    refine w_iload_n ok dX12_party_15 2 rfl ?_
    refine w_if_ne (tgt := 28) ok dX12_party_16 (by decide) (fun c2 => ?_) (fun c2 => ?_)
    · skip
      refine w_iload_n ok dX12_party_28 2 rfl ?_
      refine w_iconst (v := 1) ok dX12_party_29 (by decide) ?_
      refine w_icmp_ne (tgt := 42) ok dX12_party_30 (by decide) (fun c3 => ?_) (fun c3 => ?_)
      · skip
        refine w_iload_n ok dX12_party_42 2 rfl ?_
        refine w_iconst (v := 2) ok dX12_party_43 (by decide) ?_
        refine w_icmp_ne (tgt := 56) ok dX12_party_44 (by decide) (fun c4 => ?_) (fun c4 => ?_)
        · skip
          refine w_iload_n ok dX12_party_56 2 rfl ?_
          refine w_iconst (v := 3) ok dX12_party_57 (by decide) ?_
          refine w_icmp_ne (tgt := 70) ok dX12_party_58 (by decide) (fun c5 => ?_) (fun c5 => ?_)
          · skip
            refine w_iconst (v := (-1)) ok dX12_party_70 (by decide) ?_
            exact w_iret ok fin dX12_party_71 rfl (by unfold F_X12_party FI_X12_party; simp only [if_neg c1]; simp only [if_neg c2]; simp only [if_neg c3]; simp only [if_neg c4]; simp only [if_neg c5]; exact Pd.i)
          · skip
            refine w_aload_n ok dX12_party_61 0 rfl ?_
            refine w_getR ok dX12_party_62 (fX12_123 rfl) (congrArg Prod.fst s_130) rfl (r_130_52 ro) (ltM hnn (by decide)) ?_
            refine w_iload_n ok dX12_party_65 1 rfl ?_
            refine y_iald (q := a0.toNatClampNeg) ok dX12_party_66 s_167 (hp1 c1 c2 c3 c4 c5) (by decide) (ltM hnn (by decide)) (sdm hf (by decide)) ?_
            refine w_goto (tgt := 71) ok dX12_party_67 (by decide) ?_
            exact w_iret ok fin dX12_party_71 rfl (by unfold F_X12_party FI_X12_party; simp only [if_neg c1]; simp only [if_neg c2]; simp only [if_neg c3]; simp only [if_neg c4]; simp only [if_pos c5]; exact Pd.i)
        · skip
          refine w_aload_n ok dX12_party_47 0 rfl ?_
          refine w_getR ok dX12_party_48 (fX12_120 rfl) (congrArg Prod.fst s_130) rfl (r_130_51 ro) (ltM hnn (by decide)) ?_
          refine w_iload_n ok dX12_party_51 1 rfl ?_
          refine y_iald (q := a0.toNatClampNeg) ok dX12_party_52 s_166 (hp2 c1 c2 c3 c4) (by decide) (ltM hnn (by decide)) (sdm hf (by decide)) ?_
          refine w_goto (tgt := 71) ok dX12_party_53 (by decide) ?_
          exact w_iret ok fin dX12_party_71 rfl (by unfold F_X12_party FI_X12_party; simp only [if_neg c1]; simp only [if_neg c2]; simp only [if_neg c3]; simp only [if_pos c4]; exact Pd.i)
      · skip
        refine w_aload_n ok dX12_party_33 0 rfl ?_
        refine w_getR ok dX12_party_34 (fX12_43 rfl) (congrArg Prod.fst s_130) rfl (r_130_13 ro) (ltM hnn (by decide)) ?_
        refine w_iload_n ok dX12_party_37 1 rfl ?_
        refine y_iald (q := a0.toNatClampNeg) ok dX12_party_38 s_142 (hp3 c1 c2 c3) (by decide) (ltM hnn (by decide)) (sdm hf (by decide)) ?_
        refine w_goto (tgt := 71) ok dX12_party_39 (by decide) ?_
        exact w_iret ok fin dX12_party_71 rfl (by unfold F_X12_party FI_X12_party; simp only [if_neg c1]; simp only [if_neg c2]; simp only [if_pos c3]; exact Pd.i)
    · skip
      refine w_aload_n ok dX12_party_19 0 rfl ?_
      refine w_getR ok dX12_party_20 (fX12_40 rfl) (congrArg Prod.fst s_130) rfl (r_130_12 ro) (ltM hnn (by decide)) ?_
      refine w_iload_n ok dX12_party_23 1 rfl ?_
      refine y_iald (q := a0.toNatClampNeg) ok dX12_party_24 s_141 (hp4 c1 c2) (by decide) (ltM hnn (by decide)) (sdm hf (by decide)) ?_
      refine w_goto (tgt := 71) ok dX12_party_25 (by decide) ?_
      exact w_iret ok fin dX12_party_71 rfl (by unfold F_X12_party FI_X12_party; simp only [if_neg c1]; simp only [if_pos c2]; exact Pd.i)
  · skip
    refine w_iconst (v := (-1)) ok dX12_party_13 (by decide) ?_
    exact w_iret ok fin dX12_party_14 rfl (by unfold F_X12_party FI_X12_party; simp only [if_pos c1]; exact Pd.i)
def F_X12_clerk (a0 : Int32) (I : SI) (J : SJ) : Int32 := if a0 < 0 then -1 else (if ((u2 I 130 0 0) 132 4) ≤ a0 then -1 else (u2 I 130 0 0) 145 a0.toNatClampNeg)
def FI_X12_clerk (a0 : Int32) (I : SI) (J : SJ) : SI := if a0 < 0 then u2 I 130 0 0 else (if ((u2 I 130 0 0) 132 4) ≤ a0 then u2 I 130 0 0 else u2 I 130 0 0)
def H_X12_clerk (a0 : Int32) (I : SI) (J : SJ) : Prop := (¬ (a0 < 0) → ¬ (((u2 I 130 0 0) 132 4) ≤ a0) → inR a0 8)
set_option maxHeartbeats 1000000 in
set_option maxRecDepth 40000 in
theorem c_X12_clerk {I : SI} {J : SJ} {R : SR} {n g : Nat} {f : Fr} (ro : RM R) (hnn : nM ≤ n) (hf : f.1 = false) (a0 : Int32)  (hp : H_X12_clerk a0 I J) : MM 0 0 0 mX12_clerk [.ref 130, .int a0] (eI f I) (eJ f J) R n g (Pd (some (.int (F_X12_clerk a0 I J))) (eI f (FI_X12_clerk a0 I J)) (eJ f J) R n g) := by
  refine MM.of (by decide) (Nat.le_of_ble_eq_true rfl) fun K ok fin => ?_
  show WK K 0 0 0 [(0, .ref 130), (1, .int a0)] [] (eI f I) (eJ f J) R n g
  have hp1 := hp
  refine w_aload_n ok dX12_clerk_0 0 rfl ?_
  refine w_iconst (v := 0) ok dX12_clerk_1 (by decide) ?_
  refine y_putI ok dX12_clerk_2 (fwX12_169 rfl) (congrArg Prod.fst s_130) rfl (ltM hnn (by decide)) (sdm hf (by decide)) ?_
  refine w_iload_n ok dX12_clerk_5 1 rfl ?_
  refine w_if_lt (tgt := 28) ok dX12_clerk_6 (by decide) (fun c1 => ?_) (fun c1 => ?_)
  · skip
    refine w_iconst (v := (-1)) ok dX12_clerk_28 (by decide) ?_
    exact w_iret ok fin dX12_clerk_29 rfl (by unfold F_X12_clerk FI_X12_clerk; simp only [if_pos c1]; exact Pd.i)
  · skip
    refine w_iload_n ok dX12_clerk_9 1 rfl ?_
    refine w_aload_n ok dX12_clerk_10 0 rfl ?_
    refine w_getR ok dX12_clerk_11 (fX12_13 rfl) (congrArg Prod.fst s_130) rfl (r_130_3 ro) (ltM hnn (by decide)) ?_
    refine w_iconst (v := 4) ok dX12_clerk_14 (by decide) ?_
    refine y_iald (q := 4) ok dX12_clerk_15 s_132 (by decide) (by decide) (ltM hnn (by decide)) (sdm hf (by decide)) ?_
    refine w_icmp_ge (tgt := 28) ok dX12_clerk_16 (by decide) (fun c2 => ?_) (fun c2 => ?_)
    · skip
      refine w_iconst (v := (-1)) ok dX12_clerk_28 (by decide) ?_
      exact w_iret ok fin dX12_clerk_29 rfl (by unfold F_X12_clerk FI_X12_clerk; simp only [if_neg c1]; simp only [if_pos c2]; exact Pd.i)
    · skip
      refine w_aload_n ok dX12_clerk_19 0 rfl ?_
      refine w_getR ok dX12_clerk_20 (fX12_52 rfl) (congrArg Prod.fst s_130) rfl (r_130_16 ro) (ltM hnn (by decide)) ?_
      refine w_iload_n ok dX12_clerk_23 1 rfl ?_
      refine y_iald (q := a0.toNatClampNeg) ok dX12_clerk_24 s_145 (hp1 c1 c2) (by decide) (ltM hnn (by decide)) (sdm hf (by decide)) ?_
      refine w_goto (tgt := 29) ok dX12_clerk_25 (by decide) ?_
      exact w_iret ok fin dX12_clerk_29 rfl (by unfold F_X12_clerk FI_X12_clerk; simp only [if_neg c1]; simp only [if_neg c2]; exact Pd.i)
def S1_X12_law (a0 : Int32) (a1 : Int32) (a2 : Int32) (I : SI) (J : SJ) : SI := FI_X12_goes a0 (u2 I 130 0 0) (FJ_X12_callsMark 0 a2 1 (-1) 0 (u2 I 130 0 0) J)
def S2_X12_law (a0 : Int32) (a1 : Int32) (a2 : Int32) (I : SI) (J : SJ) : SJ := FJ_X12_goes a0 (u2 I 130 0 0) (FJ_X12_callsMark 0 a2 1 (-1) 0 (u2 I 130 0 0) J)
def S3_X12_law (a0 : Int32) (a1 : Int32) (a2 : Int32) (I : SI) (J : SJ) : SJ := FJ_X12_callsMark 0 a2 0 a1 ((u2 I 130 0 0) 137 a1.toNatClampNeg) (u2 I 130 0 0) J
def S4_X12_law (a0 : Int32) (a1 : Int32) (a2 : Int32) (I : SI) (J : SJ) : SI := FI_X12_goes a0 (u2 I 130 0 0) (FJ_X12_callsMark 0 a2 1 (-1) 0 (u2 I 130 0 0) J)
def S5_X12_law (a0 : Int32) (a1 : Int32) (a2 : Int32) (I : SI) (J : SJ) : SJ := FJ_X12_goes a0 (u2 I 130 0 0) (FJ_X12_callsMark 0 a2 1 (-1) 0 (u2 I 130 0 0) J)
def S6_X12_law (a0 : Int32) (a1 : Int32) (a2 : Int32) (I : SI) (J : SJ) : SJ := FJ_X12_callsMark 0 a2 0 a1 ((u2 I 130 0 0) 137 a1.toNatClampNeg) (u2 I 130 0 0) J
def S7_X12_law (a0 : Int32) (a1 : Int32) (a2 : Int32) (I : SI) (J : SJ) : SJ := FJ_X12_callsMark 0 a2 0 a1 ((u2 I 130 0 0) 137 a1.toNatClampNeg) (u2 I 130 0 0) J
def S8_X12_law (a0 : Int32) (a1 : Int32) (a2 : Int32) (I : SI) (J : SJ) : SJ := FJ_X12_callsMark 0 a2 0 a1 ((u2 I 130 0 0) 137 a1.toNatClampNeg) (u2 I 130 0 0) J
def F_X12_law (a0 : Int32) (a1 : Int32) (a2 : Int32) (I : SI) (J : SJ) : Int64 := if a0 < 0 then -9223372036854775808 else (if (2 : Int32) < a0 then -9223372036854775808 else (if (F_X12_hasLaw a0 (u2 I 130 0 0) J) = 0 then -9223372036854775808 else (if a0 = 1 then (if a0 = 2 then (if a0 = 0 then (if (F_X12_wayIn 0 a1 a2 (u2 I 130 0 0) J) = (-1) then -9223372036854775808 else (if (F_X12_goes a0 (u2 I 130 0 0) (S3_X12_law a0 a1 a2 I J)) = 0 then -9223372036854775808 else (FJ_X12_goes a0 (u2 I 130 0 0) (S3_X12_law a0 a1 a2 I J)) 153 0)) else (if (F_X12_goes a0 (u2 I 130 0 0) (FJ_X12_callsMark 0 a2 1 (-1) 0 (u2 I 130 0 0) J)) = 0 then -9223372036854775808 else (S2_X12_law a0 a1 a2 I J) 153 0)) else (if (F_X12_isMark a2 (u2 I 130 0 0) J) = 0 then -9223372036854775808 else (if a0 = 0 then (if (F_X12_wayIn 0 a1 a2 (u2 I 130 0 0) J) = (-1) then -9223372036854775808 else (if (F_X12_goes a0 (u2 I 130 0 0) (S6_X12_law a0 a1 a2 I J)) = 0 then -9223372036854775808 else (FJ_X12_goes a0 (u2 I 130 0 0) (S6_X12_law a0 a1 a2 I J)) 153 0)) else (if (F_X12_goes a0 (u2 I 130 0 0) (FJ_X12_callsMark 0 a2 1 (-1) 0 (u2 I 130 0 0) J)) = 0 then -9223372036854775808 else (S5_X12_law a0 a1 a2 I J) 153 0)))) else (if (F_X12_isShot a1 (u2 I 130 0 0) J) = 0 then -9223372036854775808 else (if a0 = 2 then (if a0 = 0 then (if (F_X12_wayIn 0 a1 a2 (u2 I 130 0 0) J) = (-1) then -9223372036854775808 else (if (F_X12_goes a0 (u2 I 130 0 0) (S7_X12_law a0 a1 a2 I J)) = 0 then -9223372036854775808 else (FJ_X12_goes a0 (u2 I 130 0 0) (S7_X12_law a0 a1 a2 I J)) 153 0)) else (if (F_X12_goes a0 (u2 I 130 0 0) (FJ_X12_callsShot 0 a1 (u2 I 130 0 0) J)) = 0 then -9223372036854775808 else (FJ_X12_goes a0 (u2 I 130 0 0) (FJ_X12_callsShot 0 a1 (u2 I 130 0 0) J)) 153 0)) else (if (F_X12_isMark a2 (u2 I 130 0 0) J) = 0 then -9223372036854775808 else (if a0 = 0 then (if (F_X12_wayIn 0 a1 a2 (u2 I 130 0 0) J) = (-1) then -9223372036854775808 else (if (F_X12_goes a0 (u2 I 130 0 0) (S8_X12_law a0 a1 a2 I J)) = 0 then -9223372036854775808 else (FJ_X12_goes a0 (u2 I 130 0 0) (S8_X12_law a0 a1 a2 I J)) 153 0)) else (if (F_X12_goes a0 (u2 I 130 0 0) (FJ_X12_callsShot 0 a1 (u2 I 130 0 0) J)) = 0 then -9223372036854775808 else (FJ_X12_goes a0 (u2 I 130 0 0) (FJ_X12_callsShot 0 a1 (u2 I 130 0 0) J)) 153 0))))))))
def FI_X12_law (a0 : Int32) (a1 : Int32) (a2 : Int32) (I : SI) (J : SJ) : SI := if a0 < 0 then u2 I 130 0 0 else (if (2 : Int32) < a0 then u2 I 130 0 0 else (if (F_X12_hasLaw a0 (u2 I 130 0 0) J) = 0 then u2 I 130 0 0 else (if a0 = 1 then (if a0 = 2 then (if a0 = 0 then (if (F_X12_wayIn 0 a1 a2 (u2 I 130 0 0) J) = (-1) then u2 I 130 0 0 else (if (F_X12_goes a0 (u2 I 130 0 0) (S3_X12_law a0 a1 a2 I J)) = 0 then FI_X12_goes a0 (u2 I 130 0 0) (S3_X12_law a0 a1 a2 I J) else FI_X12_goes a0 (u2 I 130 0 0) (S3_X12_law a0 a1 a2 I J))) else (if (F_X12_goes a0 (u2 I 130 0 0) (FJ_X12_callsMark 0 a2 1 (-1) 0 (u2 I 130 0 0) J)) = 0 then (S1_X12_law a0 a1 a2 I J) else (S1_X12_law a0 a1 a2 I J))) else (if (F_X12_isMark a2 (u2 I 130 0 0) J) = 0 then u2 I 130 0 0 else (if a0 = 0 then (if (F_X12_wayIn 0 a1 a2 (u2 I 130 0 0) J) = (-1) then u2 I 130 0 0 else (if (F_X12_goes a0 (u2 I 130 0 0) (S6_X12_law a0 a1 a2 I J)) = 0 then FI_X12_goes a0 (u2 I 130 0 0) (S6_X12_law a0 a1 a2 I J) else FI_X12_goes a0 (u2 I 130 0 0) (S6_X12_law a0 a1 a2 I J))) else (if (F_X12_goes a0 (u2 I 130 0 0) (FJ_X12_callsMark 0 a2 1 (-1) 0 (u2 I 130 0 0) J)) = 0 then (S4_X12_law a0 a1 a2 I J) else (S4_X12_law a0 a1 a2 I J))))) else (if (F_X12_isShot a1 (u2 I 130 0 0) J) = 0 then u2 I 130 0 0 else (if a0 = 2 then (if a0 = 0 then (if (F_X12_wayIn 0 a1 a2 (u2 I 130 0 0) J) = (-1) then u2 I 130 0 0 else (if (F_X12_goes a0 (u2 I 130 0 0) (S7_X12_law a0 a1 a2 I J)) = 0 then FI_X12_goes a0 (u2 I 130 0 0) (S7_X12_law a0 a1 a2 I J) else FI_X12_goes a0 (u2 I 130 0 0) (S7_X12_law a0 a1 a2 I J))) else (if (F_X12_goes a0 (u2 I 130 0 0) (FJ_X12_callsShot 0 a1 (u2 I 130 0 0) J)) = 0 then FI_X12_goes a0 (u2 I 130 0 0) (FJ_X12_callsShot 0 a1 (u2 I 130 0 0) J) else FI_X12_goes a0 (u2 I 130 0 0) (FJ_X12_callsShot 0 a1 (u2 I 130 0 0) J))) else (if (F_X12_isMark a2 (u2 I 130 0 0) J) = 0 then u2 I 130 0 0 else (if a0 = 0 then (if (F_X12_wayIn 0 a1 a2 (u2 I 130 0 0) J) = (-1) then u2 I 130 0 0 else (if (F_X12_goes a0 (u2 I 130 0 0) (S8_X12_law a0 a1 a2 I J)) = 0 then FI_X12_goes a0 (u2 I 130 0 0) (S8_X12_law a0 a1 a2 I J) else FI_X12_goes a0 (u2 I 130 0 0) (S8_X12_law a0 a1 a2 I J))) else (if (F_X12_goes a0 (u2 I 130 0 0) (FJ_X12_callsShot 0 a1 (u2 I 130 0 0) J)) = 0 then FI_X12_goes a0 (u2 I 130 0 0) (FJ_X12_callsShot 0 a1 (u2 I 130 0 0) J) else FI_X12_goes a0 (u2 I 130 0 0) (FJ_X12_callsShot 0 a1 (u2 I 130 0 0) J)))))))))
def FJ_X12_law (a0 : Int32) (a1 : Int32) (a2 : Int32) (I : SI) (J : SJ) : SJ := if a0 < 0 then J else (if (2 : Int32) < a0 then J else (if (F_X12_hasLaw a0 (u2 I 130 0 0) J) = 0 then J else (if a0 = 1 then (if a0 = 2 then (if a0 = 0 then (if (F_X12_wayIn 0 a1 a2 (u2 I 130 0 0) J) = (-1) then J else (if (F_X12_goes a0 (u2 I 130 0 0) (S3_X12_law a0 a1 a2 I J)) = 0 then FJ_X12_goes a0 (u2 I 130 0 0) (S3_X12_law a0 a1 a2 I J) else FJ_X12_goes a0 (u2 I 130 0 0) (S3_X12_law a0 a1 a2 I J))) else (if (F_X12_goes a0 (u2 I 130 0 0) (FJ_X12_callsMark 0 a2 1 (-1) 0 (u2 I 130 0 0) J)) = 0 then (S2_X12_law a0 a1 a2 I J) else (S2_X12_law a0 a1 a2 I J))) else (if (F_X12_isMark a2 (u2 I 130 0 0) J) = 0 then J else (if a0 = 0 then (if (F_X12_wayIn 0 a1 a2 (u2 I 130 0 0) J) = (-1) then J else (if (F_X12_goes a0 (u2 I 130 0 0) (S6_X12_law a0 a1 a2 I J)) = 0 then FJ_X12_goes a0 (u2 I 130 0 0) (S6_X12_law a0 a1 a2 I J) else FJ_X12_goes a0 (u2 I 130 0 0) (S6_X12_law a0 a1 a2 I J))) else (if (F_X12_goes a0 (u2 I 130 0 0) (FJ_X12_callsMark 0 a2 1 (-1) 0 (u2 I 130 0 0) J)) = 0 then (S5_X12_law a0 a1 a2 I J) else (S5_X12_law a0 a1 a2 I J))))) else (if (F_X12_isShot a1 (u2 I 130 0 0) J) = 0 then J else (if a0 = 2 then (if a0 = 0 then (if (F_X12_wayIn 0 a1 a2 (u2 I 130 0 0) J) = (-1) then J else (if (F_X12_goes a0 (u2 I 130 0 0) (S7_X12_law a0 a1 a2 I J)) = 0 then FJ_X12_goes a0 (u2 I 130 0 0) (S7_X12_law a0 a1 a2 I J) else FJ_X12_goes a0 (u2 I 130 0 0) (S7_X12_law a0 a1 a2 I J))) else (if (F_X12_goes a0 (u2 I 130 0 0) (FJ_X12_callsShot 0 a1 (u2 I 130 0 0) J)) = 0 then FJ_X12_goes a0 (u2 I 130 0 0) (FJ_X12_callsShot 0 a1 (u2 I 130 0 0) J) else FJ_X12_goes a0 (u2 I 130 0 0) (FJ_X12_callsShot 0 a1 (u2 I 130 0 0) J))) else (if (F_X12_isMark a2 (u2 I 130 0 0) J) = 0 then J else (if a0 = 0 then (if (F_X12_wayIn 0 a1 a2 (u2 I 130 0 0) J) = (-1) then J else (if (F_X12_goes a0 (u2 I 130 0 0) (S8_X12_law a0 a1 a2 I J)) = 0 then FJ_X12_goes a0 (u2 I 130 0 0) (S8_X12_law a0 a1 a2 I J) else FJ_X12_goes a0 (u2 I 130 0 0) (S8_X12_law a0 a1 a2 I J))) else (if (F_X12_goes a0 (u2 I 130 0 0) (FJ_X12_callsShot 0 a1 (u2 I 130 0 0) J)) = 0 then FJ_X12_goes a0 (u2 I 130 0 0) (FJ_X12_callsShot 0 a1 (u2 I 130 0 0) J) else FJ_X12_goes a0 (u2 I 130 0 0) (FJ_X12_callsShot 0 a1 (u2 I 130 0 0) J)))))))))
def H_X12_law (a0 : Int32) (a1 : Int32) (a2 : Int32) (I : SI) (J : SJ) : Prop := (¬ (a0 < 0) → ¬ ((2 : Int32) < a0) → H_X12_hasLaw a0 (u2 I 130 0 0) J) ∧ (¬ (a0 < 0) → ¬ ((2 : Int32) < a0) → ¬ ((F_X12_hasLaw a0 (u2 I 130 0 0) J) = 0) → a0 = 1 → a0 = 2 → ¬ (a0 = 0) → H_X12_callsMark 0 a2 1 (-1) 0 (u2 I 130 0 0) J) ∧ (¬ (a0 < 0) → ¬ ((2 : Int32) < a0) → ¬ ((F_X12_hasLaw a0 (u2 I 130 0 0) J) = 0) → a0 = 1 → a0 = 2 → ¬ (a0 = 0) → H_X12_goes a0 (u2 I 130 0 0) (FJ_X12_callsMark 0 a2 1 (-1) 0 (u2 I 130 0 0) J)) ∧ (¬ (a0 < 0) → ¬ ((2 : Int32) < a0) → ¬ ((F_X12_hasLaw a0 (u2 I 130 0 0) J) = 0) → a0 = 1 → a0 = 2 → a0 = 0 → H_X12_wayIn 0 a1 a2 (u2 I 130 0 0) J) ∧ (¬ (a0 < 0) → ¬ ((2 : Int32) < a0) → ¬ ((F_X12_hasLaw a0 (u2 I 130 0 0) J) = 0) → a0 = 1 → a0 = 2 → a0 = 0 → ¬ ((F_X12_wayIn 0 a1 a2 (u2 I 130 0 0) J) = (-1)) → inR a1 16) ∧ (¬ (a0 < 0) → ¬ ((2 : Int32) < a0) → ¬ ((F_X12_hasLaw a0 (u2 I 130 0 0) J) = 0) → a0 = 1 → a0 = 2 → a0 = 0 → ¬ ((F_X12_wayIn 0 a1 a2 (u2 I 130 0 0) J) = (-1)) → H_X12_callsMark 0 a2 0 a1 ((u2 I 130 0 0) 137 a1.toNatClampNeg) (u2 I 130 0 0) J) ∧ (¬ (a0 < 0) → ¬ ((2 : Int32) < a0) → ¬ ((F_X12_hasLaw a0 (u2 I 130 0 0) J) = 0) → a0 = 1 → a0 = 2 → a0 = 0 → ¬ ((F_X12_wayIn 0 a1 a2 (u2 I 130 0 0) J) = (-1)) → H_X12_goes a0 (u2 I 130 0 0) (S3_X12_law a0 a1 a2 I J)) ∧ (¬ (a0 < 0) → ¬ ((2 : Int32) < a0) → ¬ ((F_X12_hasLaw a0 (u2 I 130 0 0) J) = 0) → a0 = 1 → ¬ (a0 = 2) → ¬ ((F_X12_isMark a2 (u2 I 130 0 0) J) = 0) → ¬ (a0 = 0) → H_X12_callsMark 0 a2 1 (-1) 0 (u2 I 130 0 0) J) ∧ (¬ (a0 < 0) → ¬ ((2 : Int32) < a0) → ¬ ((F_X12_hasLaw a0 (u2 I 130 0 0) J) = 0) → a0 = 1 → ¬ (a0 = 2) → ¬ ((F_X12_isMark a2 (u2 I 130 0 0) J) = 0) → ¬ (a0 = 0) → H_X12_goes a0 (u2 I 130 0 0) (FJ_X12_callsMark 0 a2 1 (-1) 0 (u2 I 130 0 0) J)) ∧ (¬ (a0 < 0) → ¬ ((2 : Int32) < a0) → ¬ ((F_X12_hasLaw a0 (u2 I 130 0 0) J) = 0) → a0 = 1 → ¬ (a0 = 2) → ¬ ((F_X12_isMark a2 (u2 I 130 0 0) J) = 0) → a0 = 0 → H_X12_wayIn 0 a1 a2 (u2 I 130 0 0) J) ∧ (¬ (a0 < 0) → ¬ ((2 : Int32) < a0) → ¬ ((F_X12_hasLaw a0 (u2 I 130 0 0) J) = 0) → a0 = 1 → ¬ (a0 = 2) → ¬ ((F_X12_isMark a2 (u2 I 130 0 0) J) = 0) → a0 = 0 → ¬ ((F_X12_wayIn 0 a1 a2 (u2 I 130 0 0) J) = (-1)) → inR a1 16) ∧ (¬ (a0 < 0) → ¬ ((2 : Int32) < a0) → ¬ ((F_X12_hasLaw a0 (u2 I 130 0 0) J) = 0) → a0 = 1 → ¬ (a0 = 2) → ¬ ((F_X12_isMark a2 (u2 I 130 0 0) J) = 0) → a0 = 0 → ¬ ((F_X12_wayIn 0 a1 a2 (u2 I 130 0 0) J) = (-1)) → H_X12_callsMark 0 a2 0 a1 ((u2 I 130 0 0) 137 a1.toNatClampNeg) (u2 I 130 0 0) J) ∧ (¬ (a0 < 0) → ¬ ((2 : Int32) < a0) → ¬ ((F_X12_hasLaw a0 (u2 I 130 0 0) J) = 0) → a0 = 1 → ¬ (a0 = 2) → ¬ ((F_X12_isMark a2 (u2 I 130 0 0) J) = 0) → a0 = 0 → ¬ ((F_X12_wayIn 0 a1 a2 (u2 I 130 0 0) J) = (-1)) → H_X12_goes a0 (u2 I 130 0 0) (S6_X12_law a0 a1 a2 I J)) ∧ (¬ (a0 < 0) → ¬ ((2 : Int32) < a0) → ¬ ((F_X12_hasLaw a0 (u2 I 130 0 0) J) = 0) → ¬ (a0 = 1) → ¬ ((F_X12_isShot a1 (u2 I 130 0 0) J) = 0) → a0 = 2 → ¬ (a0 = 0) → H_X12_callsShot 0 a1 (u2 I 130 0 0) J) ∧ (¬ (a0 < 0) → ¬ ((2 : Int32) < a0) → ¬ ((F_X12_hasLaw a0 (u2 I 130 0 0) J) = 0) → ¬ (a0 = 1) → ¬ ((F_X12_isShot a1 (u2 I 130 0 0) J) = 0) → a0 = 2 → ¬ (a0 = 0) → H_X12_goes a0 (u2 I 130 0 0) (FJ_X12_callsShot 0 a1 (u2 I 130 0 0) J)) ∧ (¬ (a0 < 0) → ¬ ((2 : Int32) < a0) → ¬ ((F_X12_hasLaw a0 (u2 I 130 0 0) J) = 0) → ¬ (a0 = 1) → ¬ ((F_X12_isShot a1 (u2 I 130 0 0) J) = 0) → a0 = 2 → a0 = 0 → H_X12_wayIn 0 a1 a2 (u2 I 130 0 0) J) ∧ (¬ (a0 < 0) → ¬ ((2 : Int32) < a0) → ¬ ((F_X12_hasLaw a0 (u2 I 130 0 0) J) = 0) → ¬ (a0 = 1) → ¬ ((F_X12_isShot a1 (u2 I 130 0 0) J) = 0) → a0 = 2 → a0 = 0 → ¬ ((F_X12_wayIn 0 a1 a2 (u2 I 130 0 0) J) = (-1)) → inR a1 16) ∧ (¬ (a0 < 0) → ¬ ((2 : Int32) < a0) → ¬ ((F_X12_hasLaw a0 (u2 I 130 0 0) J) = 0) → ¬ (a0 = 1) → ¬ ((F_X12_isShot a1 (u2 I 130 0 0) J) = 0) → a0 = 2 → a0 = 0 → ¬ ((F_X12_wayIn 0 a1 a2 (u2 I 130 0 0) J) = (-1)) → H_X12_callsMark 0 a2 0 a1 ((u2 I 130 0 0) 137 a1.toNatClampNeg) (u2 I 130 0 0) J) ∧ (¬ (a0 < 0) → ¬ ((2 : Int32) < a0) → ¬ ((F_X12_hasLaw a0 (u2 I 130 0 0) J) = 0) → ¬ (a0 = 1) → ¬ ((F_X12_isShot a1 (u2 I 130 0 0) J) = 0) → a0 = 2 → a0 = 0 → ¬ ((F_X12_wayIn 0 a1 a2 (u2 I 130 0 0) J) = (-1)) → H_X12_goes a0 (u2 I 130 0 0) (S7_X12_law a0 a1 a2 I J)) ∧ (¬ (a0 < 0) → ¬ ((2 : Int32) < a0) → ¬ ((F_X12_hasLaw a0 (u2 I 130 0 0) J) = 0) → ¬ (a0 = 1) → ¬ ((F_X12_isShot a1 (u2 I 130 0 0) J) = 0) → ¬ (a0 = 2) → ¬ ((F_X12_isMark a2 (u2 I 130 0 0) J) = 0) → ¬ (a0 = 0) → H_X12_callsShot 0 a1 (u2 I 130 0 0) J) ∧ (¬ (a0 < 0) → ¬ ((2 : Int32) < a0) → ¬ ((F_X12_hasLaw a0 (u2 I 130 0 0) J) = 0) → ¬ (a0 = 1) → ¬ ((F_X12_isShot a1 (u2 I 130 0 0) J) = 0) → ¬ (a0 = 2) → ¬ ((F_X12_isMark a2 (u2 I 130 0 0) J) = 0) → ¬ (a0 = 0) → H_X12_goes a0 (u2 I 130 0 0) (FJ_X12_callsShot 0 a1 (u2 I 130 0 0) J)) ∧ (¬ (a0 < 0) → ¬ ((2 : Int32) < a0) → ¬ ((F_X12_hasLaw a0 (u2 I 130 0 0) J) = 0) → ¬ (a0 = 1) → ¬ ((F_X12_isShot a1 (u2 I 130 0 0) J) = 0) → ¬ (a0 = 2) → ¬ ((F_X12_isMark a2 (u2 I 130 0 0) J) = 0) → a0 = 0 → H_X12_wayIn 0 a1 a2 (u2 I 130 0 0) J) ∧ (¬ (a0 < 0) → ¬ ((2 : Int32) < a0) → ¬ ((F_X12_hasLaw a0 (u2 I 130 0 0) J) = 0) → ¬ (a0 = 1) → ¬ ((F_X12_isShot a1 (u2 I 130 0 0) J) = 0) → ¬ (a0 = 2) → ¬ ((F_X12_isMark a2 (u2 I 130 0 0) J) = 0) → a0 = 0 → ¬ ((F_X12_wayIn 0 a1 a2 (u2 I 130 0 0) J) = (-1)) → inR a1 16) ∧ (¬ (a0 < 0) → ¬ ((2 : Int32) < a0) → ¬ ((F_X12_hasLaw a0 (u2 I 130 0 0) J) = 0) → ¬ (a0 = 1) → ¬ ((F_X12_isShot a1 (u2 I 130 0 0) J) = 0) → ¬ (a0 = 2) → ¬ ((F_X12_isMark a2 (u2 I 130 0 0) J) = 0) → a0 = 0 → ¬ ((F_X12_wayIn 0 a1 a2 (u2 I 130 0 0) J) = (-1)) → H_X12_callsMark 0 a2 0 a1 ((u2 I 130 0 0) 137 a1.toNatClampNeg) (u2 I 130 0 0) J) ∧ (¬ (a0 < 0) → ¬ ((2 : Int32) < a0) → ¬ ((F_X12_hasLaw a0 (u2 I 130 0 0) J) = 0) → ¬ (a0 = 1) → ¬ ((F_X12_isShot a1 (u2 I 130 0 0) J) = 0) → ¬ (a0 = 2) → ¬ ((F_X12_isMark a2 (u2 I 130 0 0) J) = 0) → a0 = 0 → ¬ ((F_X12_wayIn 0 a1 a2 (u2 I 130 0 0) J) = (-1)) → H_X12_goes a0 (u2 I 130 0 0) (S8_X12_law a0 a1 a2 I J))
set_option maxHeartbeats 3380000 in
set_option maxRecDepth 40000 in
theorem c_X12_law {I : SI} {J : SJ} {R : SR} {n g : Nat} {f : Fr} (ro : RM R) (hnn : nM ≤ n) (hf : f.1 = false) (a0 : Int32) (a1 : Int32) (a2 : Int32)  (hp : H_X12_law a0 a1 a2 I J) : MM 4 0 0 mX12_law [.ref 130, .int a0, .int a1, .int a2] (eI f I) (eJ f J) R n g (Pd (some (.long (F_X12_law a0 a1 a2 I J))) (eI f (FI_X12_law a0 a1 a2 I J)) (eJ f (FJ_X12_law a0 a1 a2 I J)) R n g) := by
  refine MM.of (by decide) (Nat.le_of_ble_eq_true rfl) fun K ok fin => ?_
  show WK K 0 0 0 [(0, .ref 130), (1, .int a0), (2, .int a1), (3, .int a2)] [] (eI f I) (eJ f J) R n g
  obtain ⟨hp1, hp2, hp3, hp4, hp5, hp6, hp7, hp8, hp9, hp10, hp11, hp12, hp13, hp14, hp15, hp16, hp17, hp18, hp19, hp20, hp21, hp22, hp23, hp24, hp25⟩ := hp
  refine w_aload_n ok dX12_law_0 0 rfl ?_
  refine w_iconst (v := 0) ok dX12_law_1 (by decide) ?_
  refine y_putI ok dX12_law_2 (fwX12_169 rfl) (congrArg Prod.fst s_130) rfl (ltM hnn (by decide)) (sdm hf (by decide)) ?_
  refine w_iload_n ok dX12_law_5 1 rfl ?_
  refine w_if_lt (tgt := 22) ok dX12_law_6 (by decide) (fun c1 => ?_) (fun c1 => ?_)
  · skip
    refine w_ldc2 ok dX12_law_22 kX12_461 ?_
    exact w_lret ok fin dX12_law_25 rfl (by unfold F_X12_law FI_X12_law FJ_X12_law; simp only [if_pos c1]; exact Pd.i)
  · skip
    refine w_iload_n ok dX12_law_9 1 rfl ?_
    refine w_iconst (v := 2) ok dX12_law_10 (by decide) ?_
    refine w_icmp_gt (tgt := 22) ok dX12_law_11 (by decide) (fun c2 => ?_) (fun c2 => ?_)
    · skip
      refine w_ldc2 ok dX12_law_22 kX12_461 ?_
      exact w_lret ok fin dX12_law_25 rfl (by unfold F_X12_law FI_X12_law FJ_X12_law; simp only [if_neg c1]; simp only [if_pos c2]; exact Pd.i)
    · skip
      refine w_aload_n ok dX12_law_14 0 rfl ?_
      refine w_iload_n ok dX12_law_15 1 rfl ?_
      refine w_cV (As := [.int a0]) ok dX12_law_16 iX12_hasLaw (lX12_388 rfl) (rcv cls12 (congrArg Prod.fst s_130)) (ltM hnn (by decide)) (c_X12_hasLaw ro hnn hf a0  (hp1 c1 c2)) (by decide) rfl (Nat.le_of_ble_eq_true rfl) ?_
      refine w_if_ne (tgt := 26) ok dX12_law_19 (by decide) (fun c3 => ?_) (fun c3 => ?_)
      · skip
        refine w_iload_n ok dX12_law_26 1 rfl ?_
        refine w_iconst (v := 1) ok dX12_law_27 (by decide) ?_
        refine w_icmp_eq (tgt := 39) ok dX12_law_28 (by decide) (fun c4 => ?_) (fun c4 => ?_)
        · skip
          refine w_iload_n ok dX12_law_39 1 rfl ?_
          refine w_iconst (v := 2) ok dX12_law_40 (by decide) ?_
          refine w_icmp_eq (tgt := 56) ok dX12_law_41 (by decide) (fun c5 => ?_) (fun c5 => ?_)
          · skip
            refine w_iload_n ok dX12_law_56 1 rfl ?_
            refine w_if_ne (tgt := 75) ok dX12_law_57 (by decide) (fun c6 => ?_) (fun c6 => ?_)
            · skip
              refine w_iload_n ok dX12_law_75 1 rfl ?_
              refine w_if_ne (tgt := 96) ok dX12_law_76 (by decide) (fun _ => ?_) (fun h => absurd h c6)
              refine w_iload_n ok dX12_law_96 1 rfl ?_
              refine w_iconst (v := 1) ok dX12_law_97 (by decide) ?_
              refine w_icmp_ne (tgt := 113) ok dX12_law_98 (by decide) (fun h => absurd c4 h) (fun _ => ?_)
              refine w_aload_n ok dX12_law_101 0 rfl ?_
              refine w_iconst (v := 0) ok dX12_law_102 (by decide) ?_
              refine w_iload_n ok dX12_law_103 3 rfl ?_
              refine w_iconst (v := 1) ok dX12_law_104 (by decide) ?_
              refine w_iconst (v := (-1)) ok dX12_law_105 (by decide) ?_
              refine w_iconst (v := 0) ok dX12_law_106 (by decide) ?_
              refine w_cV (As := [.int 0, .int a2, .int 1, .int (-1), .int 0]) ok dX12_law_107 iX12_callsMark (lX12_404 rfl) (rcv cls12 (congrArg Prod.fst s_130)) (ltM hnn (by decide)) (c_X12_callsMark ro hnn hf 0 a2 1 (-1) 0  (hp2 c1 c2 c3 c4 c5 c6)) (by decide) rfl (Nat.le_of_ble_eq_true rfl) ?_
              refine w_goto (tgt := 119) ok dX12_law_110 (by decide) ?_
              refine w_aload_n ok dX12_law_119 0 rfl ?_
              refine w_iload_n ok dX12_law_120 1 rfl ?_
              refine w_cV (As := [.int a0]) ok dX12_law_121 iX12_goes (lX12_391 rfl) (rcv cls12 (congrArg Prod.fst s_130)) (ltM hnn (by decide)) (c_X12_goes ro hnn hf a0  (hp3 c1 c2 c3 c4 c5 c6)) (by decide) rfl (Nat.le_of_ble_eq_true rfl) ?_
              show WK K 0 0 124 [(0, .ref 130), (1, .int a0), (2, .int a1), (3, .int a2)] [.int (F_X12_goes a0 (u2 I 130 0 0) (FJ_X12_callsMark 0 a2 1 (-1) 0 (u2 I 130 0 0) J))] (eI f (S1_X12_law a0 a1 a2 I J)) (eJ f (S2_X12_law a0 a1 a2 I J)) R n g
              refine w_if_eq (tgt := 136) ok dX12_law_124 (by decide) (fun c7 => ?_) (fun c7 => ?_)
              · skip
                refine w_ldc2 ok dX12_law_136 kX12_461 ?_
                exact w_lret ok fin dX12_law_139 rfl (by unfold F_X12_law FI_X12_law FJ_X12_law; simp only [if_neg c1]; simp only [if_neg c2]; simp only [if_neg c3]; simp only [if_pos c4]; simp only [if_pos c5]; simp only [if_neg c6]; simp only [if_pos c7]; exact Pd.i)
              · skip
                refine w_aload_n ok dX12_law_127 0 rfl ?_
                refine w_getR ok dX12_law_128 (fX12_81 rfl) (congrArg Prod.fst s_130) rfl (r_130_37 ro) (ltM hnn (by decide)) ?_
                refine w_iconst (v := 0) ok dX12_law_131 (by decide) ?_
                refine y_lald (q := 0) ok dX12_law_132 s_153 (by decide) (by decide) (ltM hnn (by decide)) (sdm hf (by decide)) ?_
                refine w_goto (tgt := 139) ok dX12_law_133 (by decide) ?_
                exact w_lret ok fin dX12_law_139 rfl (by unfold F_X12_law FI_X12_law FJ_X12_law; simp only [if_neg c1]; simp only [if_neg c2]; simp only [if_neg c3]; simp only [if_pos c4]; simp only [if_pos c5]; simp only [if_neg c6]; simp only [if_neg c7]; exact Pd.i)
            · skip
              refine w_aload_n ok dX12_law_60 0 rfl ?_
              refine w_iconst (v := 0) ok dX12_law_61 (by decide) ?_
              refine w_iload_n ok dX12_law_62 2 rfl ?_
              refine w_iload_n ok dX12_law_63 3 rfl ?_
              refine w_cV (As := [.int 0, .int a1, .int a2]) ok dX12_law_64 iX12_wayIn (lX12_371 rfl) (rcv cls12 (congrArg Prod.fst s_130)) (ltM hnn (by decide)) (c_X12_wayIn ro hnn hf 0 a1 a2  (hp4 c1 c2 c3 c4 c5 c6)) (by decide) rfl (Nat.le_of_ble_eq_true rfl) ?_
              refine w_iconst (v := (-1)) ok dX12_law_67 (by decide) ?_
              refine w_icmp_ne (tgt := 75) ok dX12_law_68 (by decide) (fun c8 => ?_) (fun c8 => ?_)
              · skip
                refine w_iload_n ok dX12_law_75 1 rfl ?_
                refine w_if_ne (tgt := 96) ok dX12_law_76 (by decide) (fun h => absurd c6 h) (fun _ => ?_)
                refine w_aload_n ok dX12_law_79 0 rfl ?_
                refine w_iconst (v := 0) ok dX12_law_80 (by decide) ?_
                refine w_iload_n ok dX12_law_81 3 rfl ?_
                refine w_iconst (v := 0) ok dX12_law_82 (by decide) ?_
                refine w_iload_n ok dX12_law_83 2 rfl ?_
                refine w_aload_n ok dX12_law_84 0 rfl ?_
                refine w_getR ok dX12_law_85 (fX12_28 rfl) (congrArg Prod.fst s_130) rfl (r_130_8 ro) (ltM hnn (by decide)) ?_
                refine w_iload_n ok dX12_law_88 2 rfl ?_
                refine y_iald (q := a1.toNatClampNeg) ok dX12_law_89 s_137 (hp5 c1 c2 c3 c4 c5 c6 c8) (by decide) (ltM hnn (by decide)) (sdm hf (by decide)) ?_
                refine w_cV (As := [.int 0, .int a2, .int 0, .int a1, .int ((u2 I 130 0 0) 137 a1.toNatClampNeg)]) ok dX12_law_90 iX12_callsMark (lX12_404 rfl) (rcv cls12 (congrArg Prod.fst s_130)) (ltM hnn (by decide)) (c_X12_callsMark ro hnn hf 0 a2 0 a1 ((u2 I 130 0 0) 137 a1.toNatClampNeg)  (hp6 c1 c2 c3 c4 c5 c6 c8)) (by decide) rfl (Nat.le_of_ble_eq_true rfl) ?_
                show WK K 0 0 93 [(0, .ref 130), (1, .int a0), (2, .int a1), (3, .int a2)] [] (eI f (u2 I 130 0 0)) (eJ f (S3_X12_law a0 a1 a2 I J)) R n g
                refine w_goto (tgt := 119) ok dX12_law_93 (by decide) ?_
                refine w_aload_n ok dX12_law_119 0 rfl ?_
                refine w_iload_n ok dX12_law_120 1 rfl ?_
                refine w_cV (As := [.int a0]) ok dX12_law_121 iX12_goes (lX12_391 rfl) (rcv cls12 (congrArg Prod.fst s_130)) (ltM hnn (by decide)) (c_X12_goes ro hnn hf a0  (hp7 c1 c2 c3 c4 c5 c6 c8)) (by decide) rfl (Nat.le_of_ble_eq_true rfl) ?_
                refine w_if_eq (tgt := 136) ok dX12_law_124 (by decide) (fun c9 => ?_) (fun c9 => ?_)
                · skip
                  refine w_ldc2 ok dX12_law_136 kX12_461 ?_
                  exact w_lret ok fin dX12_law_139 rfl (by unfold F_X12_law FI_X12_law FJ_X12_law; simp only [if_neg c1]; simp only [if_neg c2]; simp only [if_neg c3]; simp only [if_pos c4]; simp only [if_pos c5]; simp only [if_pos c6]; simp only [if_neg c8]; simp only [if_pos c9]; exact Pd.i)
                · skip
                  refine w_aload_n ok dX12_law_127 0 rfl ?_
                  refine w_getR ok dX12_law_128 (fX12_81 rfl) (congrArg Prod.fst s_130) rfl (r_130_37 ro) (ltM hnn (by decide)) ?_
                  refine w_iconst (v := 0) ok dX12_law_131 (by decide) ?_
                  refine y_lald (q := 0) ok dX12_law_132 s_153 (by decide) (by decide) (ltM hnn (by decide)) (sdm hf (by decide)) ?_
                  refine w_goto (tgt := 139) ok dX12_law_133 (by decide) ?_
                  exact w_lret ok fin dX12_law_139 rfl (by unfold F_X12_law FI_X12_law FJ_X12_law; simp only [if_neg c1]; simp only [if_neg c2]; simp only [if_neg c3]; simp only [if_pos c4]; simp only [if_pos c5]; simp only [if_pos c6]; simp only [if_neg c8]; simp only [if_neg c9]; exact Pd.i)
              · skip
                refine w_ldc2 ok dX12_law_71 kX12_461 ?_
                exact w_lret ok fin dX12_law_74 rfl (by unfold F_X12_law FI_X12_law FJ_X12_law; simp only [if_neg c1]; simp only [if_neg c2]; simp only [if_neg c3]; simp only [if_pos c4]; simp only [if_pos c5]; simp only [if_pos c6]; simp only [if_pos c8]; exact Pd.i)
          · skip
            refine w_aload_n ok dX12_law_44 0 rfl ?_
            refine w_iload_n ok dX12_law_45 3 rfl ?_
            refine w_cV (As := [.int a2]) ok dX12_law_46 iX12_isMark (lX12_450 rfl) (rcv cls12 (congrArg Prod.fst s_130)) (ltM hnn (by decide)) (c_X12_isMark ro hnn hf a2 ) (by decide) rfl (Nat.le_of_ble_eq_true rfl) ?_
            refine w_if_ne (tgt := 56) ok dX12_law_49 (by decide) (fun c10 => ?_) (fun c10 => ?_)
            · skip
              refine w_iload_n ok dX12_law_56 1 rfl ?_
              refine w_if_ne (tgt := 75) ok dX12_law_57 (by decide) (fun c11 => ?_) (fun c11 => ?_)
              · skip
                refine w_iload_n ok dX12_law_75 1 rfl ?_
                refine w_if_ne (tgt := 96) ok dX12_law_76 (by decide) (fun _ => ?_) (fun h => absurd h c11)
                refine w_iload_n ok dX12_law_96 1 rfl ?_
                refine w_iconst (v := 1) ok dX12_law_97 (by decide) ?_
                refine w_icmp_ne (tgt := 113) ok dX12_law_98 (by decide) (fun h => absurd c4 h) (fun _ => ?_)
                refine w_aload_n ok dX12_law_101 0 rfl ?_
                refine w_iconst (v := 0) ok dX12_law_102 (by decide) ?_
                refine w_iload_n ok dX12_law_103 3 rfl ?_
                refine w_iconst (v := 1) ok dX12_law_104 (by decide) ?_
                refine w_iconst (v := (-1)) ok dX12_law_105 (by decide) ?_
                refine w_iconst (v := 0) ok dX12_law_106 (by decide) ?_
                refine w_cV (As := [.int 0, .int a2, .int 1, .int (-1), .int 0]) ok dX12_law_107 iX12_callsMark (lX12_404 rfl) (rcv cls12 (congrArg Prod.fst s_130)) (ltM hnn (by decide)) (c_X12_callsMark ro hnn hf 0 a2 1 (-1) 0  (hp8 c1 c2 c3 c4 c5 c10 c11)) (by decide) rfl (Nat.le_of_ble_eq_true rfl) ?_
                refine w_goto (tgt := 119) ok dX12_law_110 (by decide) ?_
                refine w_aload_n ok dX12_law_119 0 rfl ?_
                refine w_iload_n ok dX12_law_120 1 rfl ?_
                refine w_cV (As := [.int a0]) ok dX12_law_121 iX12_goes (lX12_391 rfl) (rcv cls12 (congrArg Prod.fst s_130)) (ltM hnn (by decide)) (c_X12_goes ro hnn hf a0  (hp9 c1 c2 c3 c4 c5 c10 c11)) (by decide) rfl (Nat.le_of_ble_eq_true rfl) ?_
                show WK K 0 0 124 [(0, .ref 130), (1, .int a0), (2, .int a1), (3, .int a2)] [.int (F_X12_goes a0 (u2 I 130 0 0) (FJ_X12_callsMark 0 a2 1 (-1) 0 (u2 I 130 0 0) J))] (eI f (S4_X12_law a0 a1 a2 I J)) (eJ f (S5_X12_law a0 a1 a2 I J)) R n g
                refine w_if_eq (tgt := 136) ok dX12_law_124 (by decide) (fun c12 => ?_) (fun c12 => ?_)
                · skip
                  refine w_ldc2 ok dX12_law_136 kX12_461 ?_
                  exact w_lret ok fin dX12_law_139 rfl (by unfold F_X12_law FI_X12_law FJ_X12_law; simp only [if_neg c1]; simp only [if_neg c2]; simp only [if_neg c3]; simp only [if_pos c4]; simp only [if_neg c5]; simp only [if_neg c10]; simp only [if_neg c11]; simp only [if_pos c12]; exact Pd.i)
                · skip
                  refine w_aload_n ok dX12_law_127 0 rfl ?_
                  refine w_getR ok dX12_law_128 (fX12_81 rfl) (congrArg Prod.fst s_130) rfl (r_130_37 ro) (ltM hnn (by decide)) ?_
                  refine w_iconst (v := 0) ok dX12_law_131 (by decide) ?_
                  refine y_lald (q := 0) ok dX12_law_132 s_153 (by decide) (by decide) (ltM hnn (by decide)) (sdm hf (by decide)) ?_
                  refine w_goto (tgt := 139) ok dX12_law_133 (by decide) ?_
                  exact w_lret ok fin dX12_law_139 rfl (by unfold F_X12_law FI_X12_law FJ_X12_law; simp only [if_neg c1]; simp only [if_neg c2]; simp only [if_neg c3]; simp only [if_pos c4]; simp only [if_neg c5]; simp only [if_neg c10]; simp only [if_neg c11]; simp only [if_neg c12]; exact Pd.i)
              · skip
                refine w_aload_n ok dX12_law_60 0 rfl ?_
                refine w_iconst (v := 0) ok dX12_law_61 (by decide) ?_
                refine w_iload_n ok dX12_law_62 2 rfl ?_
                refine w_iload_n ok dX12_law_63 3 rfl ?_
                refine w_cV (As := [.int 0, .int a1, .int a2]) ok dX12_law_64 iX12_wayIn (lX12_371 rfl) (rcv cls12 (congrArg Prod.fst s_130)) (ltM hnn (by decide)) (c_X12_wayIn ro hnn hf 0 a1 a2  (hp10 c1 c2 c3 c4 c5 c10 c11)) (by decide) rfl (Nat.le_of_ble_eq_true rfl) ?_
                refine w_iconst (v := (-1)) ok dX12_law_67 (by decide) ?_
                refine w_icmp_ne (tgt := 75) ok dX12_law_68 (by decide) (fun c13 => ?_) (fun c13 => ?_)
                · skip
                  refine w_iload_n ok dX12_law_75 1 rfl ?_
                  refine w_if_ne (tgt := 96) ok dX12_law_76 (by decide) (fun h => absurd c11 h) (fun _ => ?_)
                  refine w_aload_n ok dX12_law_79 0 rfl ?_
                  refine w_iconst (v := 0) ok dX12_law_80 (by decide) ?_
                  refine w_iload_n ok dX12_law_81 3 rfl ?_
                  refine w_iconst (v := 0) ok dX12_law_82 (by decide) ?_
                  refine w_iload_n ok dX12_law_83 2 rfl ?_
                  refine w_aload_n ok dX12_law_84 0 rfl ?_
                  refine w_getR ok dX12_law_85 (fX12_28 rfl) (congrArg Prod.fst s_130) rfl (r_130_8 ro) (ltM hnn (by decide)) ?_
                  refine w_iload_n ok dX12_law_88 2 rfl ?_
                  refine y_iald (q := a1.toNatClampNeg) ok dX12_law_89 s_137 (hp11 c1 c2 c3 c4 c5 c10 c11 c13) (by decide) (ltM hnn (by decide)) (sdm hf (by decide)) ?_
                  refine w_cV (As := [.int 0, .int a2, .int 0, .int a1, .int ((u2 I 130 0 0) 137 a1.toNatClampNeg)]) ok dX12_law_90 iX12_callsMark (lX12_404 rfl) (rcv cls12 (congrArg Prod.fst s_130)) (ltM hnn (by decide)) (c_X12_callsMark ro hnn hf 0 a2 0 a1 ((u2 I 130 0 0) 137 a1.toNatClampNeg)  (hp12 c1 c2 c3 c4 c5 c10 c11 c13)) (by decide) rfl (Nat.le_of_ble_eq_true rfl) ?_
                  show WK K 0 0 93 [(0, .ref 130), (1, .int a0), (2, .int a1), (3, .int a2)] [] (eI f (u2 I 130 0 0)) (eJ f (S6_X12_law a0 a1 a2 I J)) R n g
                  refine w_goto (tgt := 119) ok dX12_law_93 (by decide) ?_
                  refine w_aload_n ok dX12_law_119 0 rfl ?_
                  refine w_iload_n ok dX12_law_120 1 rfl ?_
                  refine w_cV (As := [.int a0]) ok dX12_law_121 iX12_goes (lX12_391 rfl) (rcv cls12 (congrArg Prod.fst s_130)) (ltM hnn (by decide)) (c_X12_goes ro hnn hf a0  (hp13 c1 c2 c3 c4 c5 c10 c11 c13)) (by decide) rfl (Nat.le_of_ble_eq_true rfl) ?_
                  refine w_if_eq (tgt := 136) ok dX12_law_124 (by decide) (fun c14 => ?_) (fun c14 => ?_)
                  · skip
                    refine w_ldc2 ok dX12_law_136 kX12_461 ?_
                    exact w_lret ok fin dX12_law_139 rfl (by unfold F_X12_law FI_X12_law FJ_X12_law; simp only [if_neg c1]; simp only [if_neg c2]; simp only [if_neg c3]; simp only [if_pos c4]; simp only [if_neg c5]; simp only [if_neg c10]; simp only [if_pos c11]; simp only [if_neg c13]; simp only [if_pos c14]; exact Pd.i)
                  · skip
                    refine w_aload_n ok dX12_law_127 0 rfl ?_
                    refine w_getR ok dX12_law_128 (fX12_81 rfl) (congrArg Prod.fst s_130) rfl (r_130_37 ro) (ltM hnn (by decide)) ?_
                    refine w_iconst (v := 0) ok dX12_law_131 (by decide) ?_
                    refine y_lald (q := 0) ok dX12_law_132 s_153 (by decide) (by decide) (ltM hnn (by decide)) (sdm hf (by decide)) ?_
                    refine w_goto (tgt := 139) ok dX12_law_133 (by decide) ?_
                    exact w_lret ok fin dX12_law_139 rfl (by unfold F_X12_law FI_X12_law FJ_X12_law; simp only [if_neg c1]; simp only [if_neg c2]; simp only [if_neg c3]; simp only [if_pos c4]; simp only [if_neg c5]; simp only [if_neg c10]; simp only [if_pos c11]; simp only [if_neg c13]; simp only [if_neg c14]; exact Pd.i)
                · skip
                  refine w_ldc2 ok dX12_law_71 kX12_461 ?_
                  exact w_lret ok fin dX12_law_74 rfl (by unfold F_X12_law FI_X12_law FJ_X12_law; simp only [if_neg c1]; simp only [if_neg c2]; simp only [if_neg c3]; simp only [if_pos c4]; simp only [if_neg c5]; simp only [if_neg c10]; simp only [if_pos c11]; simp only [if_pos c13]; exact Pd.i)
            · skip
              refine w_ldc2 ok dX12_law_52 kX12_461 ?_
              exact w_lret ok fin dX12_law_55 rfl (by unfold F_X12_law FI_X12_law FJ_X12_law; simp only [if_neg c1]; simp only [if_neg c2]; simp only [if_neg c3]; simp only [if_pos c4]; simp only [if_neg c5]; simp only [if_pos c10]; exact Pd.i)
        · skip
          refine w_aload_n ok dX12_law_31 0 rfl ?_
          refine w_iload_n ok dX12_law_32 2 rfl ?_
          refine w_cV (As := [.int a1]) ok dX12_law_33 iX12_isShot (lX12_453 rfl) (rcv cls12 (congrArg Prod.fst s_130)) (ltM hnn (by decide)) (c_X12_isShot ro hnn hf a1 ) (by decide) rfl (Nat.le_of_ble_eq_true rfl) ?_
          refine w_if_eq (tgt := 52) ok dX12_law_36 (by decide) (fun c15 => ?_) (fun c15 => ?_)
          · skip
            refine w_ldc2 ok dX12_law_52 kX12_461 ?_
            exact w_lret ok fin dX12_law_55 rfl (by unfold F_X12_law FI_X12_law FJ_X12_law; simp only [if_neg c1]; simp only [if_neg c2]; simp only [if_neg c3]; simp only [if_neg c4]; simp only [if_pos c15]; exact Pd.i)
          · skip
            refine w_iload_n ok dX12_law_39 1 rfl ?_
            refine w_iconst (v := 2) ok dX12_law_40 (by decide) ?_
            refine w_icmp_eq (tgt := 56) ok dX12_law_41 (by decide) (fun c16 => ?_) (fun c16 => ?_)
            · skip
              refine w_iload_n ok dX12_law_56 1 rfl ?_
              refine w_if_ne (tgt := 75) ok dX12_law_57 (by decide) (fun c17 => ?_) (fun c17 => ?_)
              · skip
                refine w_iload_n ok dX12_law_75 1 rfl ?_
                refine w_if_ne (tgt := 96) ok dX12_law_76 (by decide) (fun _ => ?_) (fun h => absurd h c17)
                refine w_iload_n ok dX12_law_96 1 rfl ?_
                refine w_iconst (v := 1) ok dX12_law_97 (by decide) ?_
                refine w_icmp_ne (tgt := 113) ok dX12_law_98 (by decide) (fun _ => ?_) (fun h => absurd h c4)
                refine w_aload_n ok dX12_law_113 0 rfl ?_
                refine w_iconst (v := 0) ok dX12_law_114 (by decide) ?_
                refine w_iload_n ok dX12_law_115 2 rfl ?_
                refine w_cV (As := [.int 0, .int a1]) ok dX12_law_116 iX12_callsShot (lX12_412 rfl) (rcv cls12 (congrArg Prod.fst s_130)) (ltM hnn (by decide)) (c_X12_callsShot ro hnn hf 0 a1  (hp14 c1 c2 c3 c4 c15 c16 c17)) (by decide) rfl (Nat.le_of_ble_eq_true rfl) ?_
                refine w_aload_n ok dX12_law_119 0 rfl ?_
                refine w_iload_n ok dX12_law_120 1 rfl ?_
                refine w_cV (As := [.int a0]) ok dX12_law_121 iX12_goes (lX12_391 rfl) (rcv cls12 (congrArg Prod.fst s_130)) (ltM hnn (by decide)) (c_X12_goes ro hnn hf a0  (hp15 c1 c2 c3 c4 c15 c16 c17)) (by decide) rfl (Nat.le_of_ble_eq_true rfl) ?_
                refine w_if_eq (tgt := 136) ok dX12_law_124 (by decide) (fun c18 => ?_) (fun c18 => ?_)
                · skip
                  refine w_ldc2 ok dX12_law_136 kX12_461 ?_
                  exact w_lret ok fin dX12_law_139 rfl (by unfold F_X12_law FI_X12_law FJ_X12_law; simp only [if_neg c1]; simp only [if_neg c2]; simp only [if_neg c3]; simp only [if_neg c4]; simp only [if_neg c15]; simp only [if_pos c16]; simp only [if_neg c17]; simp only [if_pos c18]; exact Pd.i)
                · skip
                  refine w_aload_n ok dX12_law_127 0 rfl ?_
                  refine w_getR ok dX12_law_128 (fX12_81 rfl) (congrArg Prod.fst s_130) rfl (r_130_37 ro) (ltM hnn (by decide)) ?_
                  refine w_iconst (v := 0) ok dX12_law_131 (by decide) ?_
                  refine y_lald (q := 0) ok dX12_law_132 s_153 (by decide) (by decide) (ltM hnn (by decide)) (sdm hf (by decide)) ?_
                  refine w_goto (tgt := 139) ok dX12_law_133 (by decide) ?_
                  exact w_lret ok fin dX12_law_139 rfl (by unfold F_X12_law FI_X12_law FJ_X12_law; simp only [if_neg c1]; simp only [if_neg c2]; simp only [if_neg c3]; simp only [if_neg c4]; simp only [if_neg c15]; simp only [if_pos c16]; simp only [if_neg c17]; simp only [if_neg c18]; exact Pd.i)
              · skip
                refine w_aload_n ok dX12_law_60 0 rfl ?_
                refine w_iconst (v := 0) ok dX12_law_61 (by decide) ?_
                refine w_iload_n ok dX12_law_62 2 rfl ?_
                refine w_iload_n ok dX12_law_63 3 rfl ?_
                refine w_cV (As := [.int 0, .int a1, .int a2]) ok dX12_law_64 iX12_wayIn (lX12_371 rfl) (rcv cls12 (congrArg Prod.fst s_130)) (ltM hnn (by decide)) (c_X12_wayIn ro hnn hf 0 a1 a2  (hp16 c1 c2 c3 c4 c15 c16 c17)) (by decide) rfl (Nat.le_of_ble_eq_true rfl) ?_
                refine w_iconst (v := (-1)) ok dX12_law_67 (by decide) ?_
                refine w_icmp_ne (tgt := 75) ok dX12_law_68 (by decide) (fun c19 => ?_) (fun c19 => ?_)
                · skip
                  refine w_iload_n ok dX12_law_75 1 rfl ?_
                  refine w_if_ne (tgt := 96) ok dX12_law_76 (by decide) (fun h => absurd c17 h) (fun _ => ?_)
                  refine w_aload_n ok dX12_law_79 0 rfl ?_
                  refine w_iconst (v := 0) ok dX12_law_80 (by decide) ?_
                  refine w_iload_n ok dX12_law_81 3 rfl ?_
                  refine w_iconst (v := 0) ok dX12_law_82 (by decide) ?_
                  refine w_iload_n ok dX12_law_83 2 rfl ?_
                  refine w_aload_n ok dX12_law_84 0 rfl ?_
                  refine w_getR ok dX12_law_85 (fX12_28 rfl) (congrArg Prod.fst s_130) rfl (r_130_8 ro) (ltM hnn (by decide)) ?_
                  refine w_iload_n ok dX12_law_88 2 rfl ?_
                  refine y_iald (q := a1.toNatClampNeg) ok dX12_law_89 s_137 (hp17 c1 c2 c3 c4 c15 c16 c17 c19) (by decide) (ltM hnn (by decide)) (sdm hf (by decide)) ?_
                  refine w_cV (As := [.int 0, .int a2, .int 0, .int a1, .int ((u2 I 130 0 0) 137 a1.toNatClampNeg)]) ok dX12_law_90 iX12_callsMark (lX12_404 rfl) (rcv cls12 (congrArg Prod.fst s_130)) (ltM hnn (by decide)) (c_X12_callsMark ro hnn hf 0 a2 0 a1 ((u2 I 130 0 0) 137 a1.toNatClampNeg)  (hp18 c1 c2 c3 c4 c15 c16 c17 c19)) (by decide) rfl (Nat.le_of_ble_eq_true rfl) ?_
                  show WK K 0 0 93 [(0, .ref 130), (1, .int a0), (2, .int a1), (3, .int a2)] [] (eI f (u2 I 130 0 0)) (eJ f (S7_X12_law a0 a1 a2 I J)) R n g
                  refine w_goto (tgt := 119) ok dX12_law_93 (by decide) ?_
                  refine w_aload_n ok dX12_law_119 0 rfl ?_
                  refine w_iload_n ok dX12_law_120 1 rfl ?_
                  refine w_cV (As := [.int a0]) ok dX12_law_121 iX12_goes (lX12_391 rfl) (rcv cls12 (congrArg Prod.fst s_130)) (ltM hnn (by decide)) (c_X12_goes ro hnn hf a0  (hp19 c1 c2 c3 c4 c15 c16 c17 c19)) (by decide) rfl (Nat.le_of_ble_eq_true rfl) ?_
                  refine w_if_eq (tgt := 136) ok dX12_law_124 (by decide) (fun c20 => ?_) (fun c20 => ?_)
                  · skip
                    refine w_ldc2 ok dX12_law_136 kX12_461 ?_
                    exact w_lret ok fin dX12_law_139 rfl (by unfold F_X12_law FI_X12_law FJ_X12_law; simp only [if_neg c1]; simp only [if_neg c2]; simp only [if_neg c3]; simp only [if_neg c4]; simp only [if_neg c15]; simp only [if_pos c16]; simp only [if_pos c17]; simp only [if_neg c19]; simp only [if_pos c20]; exact Pd.i)
                  · skip
                    refine w_aload_n ok dX12_law_127 0 rfl ?_
                    refine w_getR ok dX12_law_128 (fX12_81 rfl) (congrArg Prod.fst s_130) rfl (r_130_37 ro) (ltM hnn (by decide)) ?_
                    refine w_iconst (v := 0) ok dX12_law_131 (by decide) ?_
                    refine y_lald (q := 0) ok dX12_law_132 s_153 (by decide) (by decide) (ltM hnn (by decide)) (sdm hf (by decide)) ?_
                    refine w_goto (tgt := 139) ok dX12_law_133 (by decide) ?_
                    exact w_lret ok fin dX12_law_139 rfl (by unfold F_X12_law FI_X12_law FJ_X12_law; simp only [if_neg c1]; simp only [if_neg c2]; simp only [if_neg c3]; simp only [if_neg c4]; simp only [if_neg c15]; simp only [if_pos c16]; simp only [if_pos c17]; simp only [if_neg c19]; simp only [if_neg c20]; exact Pd.i)
                · skip
                  refine w_ldc2 ok dX12_law_71 kX12_461 ?_
                  exact w_lret ok fin dX12_law_74 rfl (by unfold F_X12_law FI_X12_law FJ_X12_law; simp only [if_neg c1]; simp only [if_neg c2]; simp only [if_neg c3]; simp only [if_neg c4]; simp only [if_neg c15]; simp only [if_pos c16]; simp only [if_pos c17]; simp only [if_pos c19]; exact Pd.i)
            · skip
              refine w_aload_n ok dX12_law_44 0 rfl ?_
              refine w_iload_n ok dX12_law_45 3 rfl ?_
              refine w_cV (As := [.int a2]) ok dX12_law_46 iX12_isMark (lX12_450 rfl) (rcv cls12 (congrArg Prod.fst s_130)) (ltM hnn (by decide)) (c_X12_isMark ro hnn hf a2 ) (by decide) rfl (Nat.le_of_ble_eq_true rfl) ?_
              refine w_if_ne (tgt := 56) ok dX12_law_49 (by decide) (fun c21 => ?_) (fun c21 => ?_)
              · skip
                refine w_iload_n ok dX12_law_56 1 rfl ?_
                refine w_if_ne (tgt := 75) ok dX12_law_57 (by decide) (fun c22 => ?_) (fun c22 => ?_)
                · skip
                  refine w_iload_n ok dX12_law_75 1 rfl ?_
                  refine w_if_ne (tgt := 96) ok dX12_law_76 (by decide) (fun _ => ?_) (fun h => absurd h c22)
                  refine w_iload_n ok dX12_law_96 1 rfl ?_
                  refine w_iconst (v := 1) ok dX12_law_97 (by decide) ?_
                  refine w_icmp_ne (tgt := 113) ok dX12_law_98 (by decide) (fun _ => ?_) (fun h => absurd h c4)
                  refine w_aload_n ok dX12_law_113 0 rfl ?_
                  refine w_iconst (v := 0) ok dX12_law_114 (by decide) ?_
                  refine w_iload_n ok dX12_law_115 2 rfl ?_
                  refine w_cV (As := [.int 0, .int a1]) ok dX12_law_116 iX12_callsShot (lX12_412 rfl) (rcv cls12 (congrArg Prod.fst s_130)) (ltM hnn (by decide)) (c_X12_callsShot ro hnn hf 0 a1  (hp20 c1 c2 c3 c4 c15 c16 c21 c22)) (by decide) rfl (Nat.le_of_ble_eq_true rfl) ?_
                  refine w_aload_n ok dX12_law_119 0 rfl ?_
                  refine w_iload_n ok dX12_law_120 1 rfl ?_
                  refine w_cV (As := [.int a0]) ok dX12_law_121 iX12_goes (lX12_391 rfl) (rcv cls12 (congrArg Prod.fst s_130)) (ltM hnn (by decide)) (c_X12_goes ro hnn hf a0  (hp21 c1 c2 c3 c4 c15 c16 c21 c22)) (by decide) rfl (Nat.le_of_ble_eq_true rfl) ?_
                  refine w_if_eq (tgt := 136) ok dX12_law_124 (by decide) (fun c23 => ?_) (fun c23 => ?_)
                  · skip
                    refine w_ldc2 ok dX12_law_136 kX12_461 ?_
                    exact w_lret ok fin dX12_law_139 rfl (by unfold F_X12_law FI_X12_law FJ_X12_law; simp only [if_neg c1]; simp only [if_neg c2]; simp only [if_neg c3]; simp only [if_neg c4]; simp only [if_neg c15]; simp only [if_neg c16]; simp only [if_neg c21]; simp only [if_neg c22]; simp only [if_pos c23]; exact Pd.i)
                  · skip
                    refine w_aload_n ok dX12_law_127 0 rfl ?_
                    refine w_getR ok dX12_law_128 (fX12_81 rfl) (congrArg Prod.fst s_130) rfl (r_130_37 ro) (ltM hnn (by decide)) ?_
                    refine w_iconst (v := 0) ok dX12_law_131 (by decide) ?_
                    refine y_lald (q := 0) ok dX12_law_132 s_153 (by decide) (by decide) (ltM hnn (by decide)) (sdm hf (by decide)) ?_
                    refine w_goto (tgt := 139) ok dX12_law_133 (by decide) ?_
                    exact w_lret ok fin dX12_law_139 rfl (by unfold F_X12_law FI_X12_law FJ_X12_law; simp only [if_neg c1]; simp only [if_neg c2]; simp only [if_neg c3]; simp only [if_neg c4]; simp only [if_neg c15]; simp only [if_neg c16]; simp only [if_neg c21]; simp only [if_neg c22]; simp only [if_neg c23]; exact Pd.i)
                · skip
                  refine w_aload_n ok dX12_law_60 0 rfl ?_
                  refine w_iconst (v := 0) ok dX12_law_61 (by decide) ?_
                  refine w_iload_n ok dX12_law_62 2 rfl ?_
                  refine w_iload_n ok dX12_law_63 3 rfl ?_
                  refine w_cV (As := [.int 0, .int a1, .int a2]) ok dX12_law_64 iX12_wayIn (lX12_371 rfl) (rcv cls12 (congrArg Prod.fst s_130)) (ltM hnn (by decide)) (c_X12_wayIn ro hnn hf 0 a1 a2  (hp22 c1 c2 c3 c4 c15 c16 c21 c22)) (by decide) rfl (Nat.le_of_ble_eq_true rfl) ?_
                  refine w_iconst (v := (-1)) ok dX12_law_67 (by decide) ?_
                  refine w_icmp_ne (tgt := 75) ok dX12_law_68 (by decide) (fun c24 => ?_) (fun c24 => ?_)
                  · skip
                    refine w_iload_n ok dX12_law_75 1 rfl ?_
                    refine w_if_ne (tgt := 96) ok dX12_law_76 (by decide) (fun h => absurd c22 h) (fun _ => ?_)
                    refine w_aload_n ok dX12_law_79 0 rfl ?_
                    refine w_iconst (v := 0) ok dX12_law_80 (by decide) ?_
                    refine w_iload_n ok dX12_law_81 3 rfl ?_
                    refine w_iconst (v := 0) ok dX12_law_82 (by decide) ?_
                    refine w_iload_n ok dX12_law_83 2 rfl ?_
                    refine w_aload_n ok dX12_law_84 0 rfl ?_
                    refine w_getR ok dX12_law_85 (fX12_28 rfl) (congrArg Prod.fst s_130) rfl (r_130_8 ro) (ltM hnn (by decide)) ?_
                    refine w_iload_n ok dX12_law_88 2 rfl ?_
                    refine y_iald (q := a1.toNatClampNeg) ok dX12_law_89 s_137 (hp23 c1 c2 c3 c4 c15 c16 c21 c22 c24) (by decide) (ltM hnn (by decide)) (sdm hf (by decide)) ?_
                    refine w_cV (As := [.int 0, .int a2, .int 0, .int a1, .int ((u2 I 130 0 0) 137 a1.toNatClampNeg)]) ok dX12_law_90 iX12_callsMark (lX12_404 rfl) (rcv cls12 (congrArg Prod.fst s_130)) (ltM hnn (by decide)) (c_X12_callsMark ro hnn hf 0 a2 0 a1 ((u2 I 130 0 0) 137 a1.toNatClampNeg)  (hp24 c1 c2 c3 c4 c15 c16 c21 c22 c24)) (by decide) rfl (Nat.le_of_ble_eq_true rfl) ?_
                    show WK K 0 0 93 [(0, .ref 130), (1, .int a0), (2, .int a1), (3, .int a2)] [] (eI f (u2 I 130 0 0)) (eJ f (S8_X12_law a0 a1 a2 I J)) R n g
                    refine w_goto (tgt := 119) ok dX12_law_93 (by decide) ?_
                    refine w_aload_n ok dX12_law_119 0 rfl ?_
                    refine w_iload_n ok dX12_law_120 1 rfl ?_
                    refine w_cV (As := [.int a0]) ok dX12_law_121 iX12_goes (lX12_391 rfl) (rcv cls12 (congrArg Prod.fst s_130)) (ltM hnn (by decide)) (c_X12_goes ro hnn hf a0  (hp25 c1 c2 c3 c4 c15 c16 c21 c22 c24)) (by decide) rfl (Nat.le_of_ble_eq_true rfl) ?_
                    refine w_if_eq (tgt := 136) ok dX12_law_124 (by decide) (fun c25 => ?_) (fun c25 => ?_)
                    · skip
                      refine w_ldc2 ok dX12_law_136 kX12_461 ?_
                      exact w_lret ok fin dX12_law_139 rfl (by unfold F_X12_law FI_X12_law FJ_X12_law; simp only [if_neg c1]; simp only [if_neg c2]; simp only [if_neg c3]; simp only [if_neg c4]; simp only [if_neg c15]; simp only [if_neg c16]; simp only [if_neg c21]; simp only [if_pos c22]; simp only [if_neg c24]; simp only [if_pos c25]; exact Pd.i)
                    · skip
                      refine w_aload_n ok dX12_law_127 0 rfl ?_
                      refine w_getR ok dX12_law_128 (fX12_81 rfl) (congrArg Prod.fst s_130) rfl (r_130_37 ro) (ltM hnn (by decide)) ?_
                      refine w_iconst (v := 0) ok dX12_law_131 (by decide) ?_
                      refine y_lald (q := 0) ok dX12_law_132 s_153 (by decide) (by decide) (ltM hnn (by decide)) (sdm hf (by decide)) ?_
                      refine w_goto (tgt := 139) ok dX12_law_133 (by decide) ?_
                      exact w_lret ok fin dX12_law_139 rfl (by unfold F_X12_law FI_X12_law FJ_X12_law; simp only [if_neg c1]; simp only [if_neg c2]; simp only [if_neg c3]; simp only [if_neg c4]; simp only [if_neg c15]; simp only [if_neg c16]; simp only [if_neg c21]; simp only [if_pos c22]; simp only [if_neg c24]; simp only [if_neg c25]; exact Pd.i)
                  · skip
                    refine w_ldc2 ok dX12_law_71 kX12_461 ?_
                    exact w_lret ok fin dX12_law_74 rfl (by unfold F_X12_law FI_X12_law FJ_X12_law; simp only [if_neg c1]; simp only [if_neg c2]; simp only [if_neg c3]; simp only [if_neg c4]; simp only [if_neg c15]; simp only [if_neg c16]; simp only [if_neg c21]; simp only [if_pos c22]; simp only [if_pos c24]; exact Pd.i)
              · skip
                refine w_ldc2 ok dX12_law_52 kX12_461 ?_
                exact w_lret ok fin dX12_law_55 rfl (by unfold F_X12_law FI_X12_law FJ_X12_law; simp only [if_neg c1]; simp only [if_neg c2]; simp only [if_neg c3]; simp only [if_neg c4]; simp only [if_neg c15]; simp only [if_neg c16]; simp only [if_pos c21]; exact Pd.i)
      · skip
        refine w_ldc2 ok dX12_law_22 kX12_461 ?_
        exact w_lret ok fin dX12_law_25 rfl (by unfold F_X12_law FI_X12_law FJ_X12_law; simp only [if_neg c1]; simp only [if_neg c2]; simp only [if_pos c3]; exact Pd.i)
def S3_X12_keepNow (I : SI) (J : SJ) (i11 : Nat) (s11 : SI) : SI := FI_X12_copies (((3 : Int32) + (nI (1 + i11))) - 1) ((3 : Int32) + (nI (1 + i11))) s11 J
def B_X12_keepNow_l11 (I : SI) (J : SJ) (i11 : Nat) (s11 : SI) : SI := (S3_X12_keepNow I J i11 s11)
def F_X12_keepNow_l11 (I : SI) (J : SJ) (s0 : SI) : SI := itN (B_X12_keepNow_l11 I J) (19) s0
def S2_X12_keepNow (I : SI) (J : SJ) : SI := u2 (F_X12_keepNow_l11 I J I) 130 54 ((((F_X12_keepNow_l11 I J I)) 130 54) - 1)
def T_X12_keepNow_j45 (I : SI) (J : SJ) : SI := if (I 130 54) = 20 then (S2_X12_keepNow I J) else I
def S1_X12_keepNow (I : SI) (J : SJ) : SI := FI_X12_copies ((3 : Int32) + (((T_X12_keepNow_j45 I J)) 130 54)) 0 (T_X12_keepNow_j45 I J) J
def FI_X12_keepNow  (I : SI) (J : SJ) : SI := u2 (S1_X12_keepNow I J) 130 54 ((((S1_X12_keepNow I J)) 130 54) + 1)
def H_X12_keepNow  (I : SI) (J : SJ) : Prop := (H_X12_copies ((3 : Int32) + (((T_X12_keepNow_j45 I J)) 130 54)) 0 (T_X12_keepNow_j45 I J) J) ∧ ((I 130 54) = 20 → ∀ (i11 : Nat) (s11 : SI), i11 < 19 → s11 = itN (B_X12_keepNow_l11 I J) i11 I → H_X12_copies (((3 : Int32) + (nI (1 + i11))) - 1) ((3 : Int32) + (nI (1 + i11))) s11 J)
set_option maxHeartbeats 1000000 in
set_option maxRecDepth 40000 in
theorem c_X12_keepNow {I : SI} {J : SJ} {R : SR} {n g : Nat} {f : Fr} (ro : RM R) (hnn : nM ≤ n) (hf : f.1 = false)   (hp : H_X12_keepNow  I J) : MM 1 0 0 mX12_keepNow [.ref 130] (eI f I) (eJ f J) R n g (Pd none (eI f (FI_X12_keepNow  I J)) (eJ f J) R n g) := by
  refine MM.of (by decide) (Nat.le_of_ble_eq_true rfl) fun K ok fin => ?_
  show WK K 0 0 0 [(0, .ref 130)] [] (eI f I) (eJ f J) R n g
  obtain ⟨hp1, hp2⟩ := hp
  refine w_aload_n ok dX12_keepNow_0 0 rfl ?_
  refine y_getI ok dX12_keepNow_1 (fX12_335 rfl) (congrArg Prod.fst s_130) rfl (ltM hnn (by decide)) (sdm hf (by decide)) ?_
  refine w_bipush (v := 20) ok dX12_keepNow_4 (by decide) ?_
  have jn1 : WK K 0 0 45 [(0, .ref 130)] [] (eI f (T_X12_keepNow_j45 I J)) (eJ f J) R n g := by
    refine w_aload_n ok dX12_keepNow_45 0 rfl ?_
    refine w_iconst (v := 3) ok dX12_keepNow_46 (by decide) ?_
    refine w_aload_n ok dX12_keepNow_47 0 rfl ?_
    refine y_getI ok dX12_keepNow_48 (fX12_335 rfl) (congrArg Prod.fst s_130) rfl (ltM hnn (by decide)) (sdm hf (by decide)) ?_
    refine w_iadd ok dX12_keepNow_51 ?_
    refine w_iconst (v := 0) ok dX12_keepNow_52 (by decide) ?_
    refine w_cV (As := [.int ((3 : Int32) + (((T_X12_keepNow_j45 I J)) 130 54)), .int 0]) ok dX12_keepNow_53 iX12_copies (lX12_444 rfl) (rcv cls12 (congrArg Prod.fst s_130)) (ltM hnn (by decide)) (c_X12_copies ro hnn hf ((3 : Int32) + (((T_X12_keepNow_j45 I J)) 130 54)) 0  (hp1)) (by decide) rfl (Nat.le_of_ble_eq_true rfl) ?_
    show WK K 0 0 56 [(0, .ref 130)] [] (eI f (S1_X12_keepNow I J)) (eJ f J) R n g
    refine w_aload_n ok dX12_keepNow_56 0 rfl ?_
    refine w_dup ok dX12_keepNow_57 rfl ?_
    refine y_getI ok dX12_keepNow_58 (fX12_335 rfl) (congrArg Prod.fst s_130) rfl (ltM hnn (by decide)) (sdm hf (by decide)) ?_
    refine w_iconst (v := 1) ok dX12_keepNow_61 (by decide) ?_
    refine w_iadd ok dX12_keepNow_62 ?_
    refine y_putI ok dX12_keepNow_63 (fwX12_335 rfl) (congrArg Prod.fst s_130) rfl (ltM hnn (by decide)) (sdm hf (by decide)) ?_
    exact w_vret ok fin dX12_keepNow_66 rfl (by unfold FI_X12_keepNow; exact Pd.i)
  refine w_icmp_ne (tgt := 45) ok dX12_keepNow_6 (by decide) (fun c2 => ?_) (fun c2 => ?_)
  · skip
    have eT : (T_X12_keepNow_j45 I J) = I := by
      unfold T_X12_keepNow_j45; exact (if_neg c2).trans (rfl)
    refine w_loc [0] rfl ?_
    have jj := jn1
    rw [eT] at jj
    exact jj
  · skip
    refine w_iconst (v := 1) ok dX12_keepNow_9 (by decide) ?_
    refine w_istore_n ok dX12_keepNow_10 rfl (by decide) rfl ?_
    refine w_loc [1, 0] rfl ?_
    refine loop_for (σ := SI) (fun (i11 : Nat) (s11 : SI) => WK K 0 0 11 [(0, .ref 130), (1, .int (nI (1 + i11)))] [] (eI f s11) (eJ f J) R n g) (B_X12_keepNow_l11 I J) (19) (I) ?_ ?_
    · show WK K 0 0 11 [(0, .ref 130), (1, .int (nI (1 + 19)))] [] (eI f (F_X12_keepNow_l11 I J I)) (eJ f J) R n g
      have e3 : (20 : Int32) ≤ (nI (1 + 19)) := (show nI 20 ≤ nI (1 + 19) from nI_le (by omega) (by decide))
      refine w_iload_n ok dX12_keepNow_11 1 rfl ?_
      refine w_bipush (v := 20) ok dX12_keepNow_12 (by decide) ?_
      refine w_icmp_ge (tgt := 35) ok dX12_keepNow_14 (by decide) (fun _ => ?_) (fun h => absurd e3 h)
      refine w_aload_n ok dX12_keepNow_35 0 rfl ?_
      refine w_dup ok dX12_keepNow_36 rfl ?_
      refine y_getI ok dX12_keepNow_37 (fX12_335 rfl) (congrArg Prod.fst s_130) rfl (ltM hnn (by decide)) (sdm hf (by decide)) ?_
      refine w_iconst (v := 1) ok dX12_keepNow_40 (by decide) ?_
      refine w_isub ok dX12_keepNow_41 ?_
      refine y_putI ok dX12_keepNow_42 (fwX12_335 rfl) (congrArg Prod.fst s_130) rfl (ltM hnn (by decide)) (sdm hf (by decide)) ?_
      show WK K 0 0 45 [(0, .ref 130), (1, .int (nI (1 + 19)))] [] (eI f (S2_X12_keepNow I J)) (eJ f J) R n g
      have eT : (T_X12_keepNow_j45 I J) = (S2_X12_keepNow I J) := by
        unfold T_X12_keepNow_j45; exact (if_pos c2).trans (rfl)
      refine w_loc [0] rfl ?_
      have jj := jn1
      rw [eT] at jj
      exact jj
    · intro i11 s11 hi11 hs11 k11
      show WK K 0 0 11 [(0, .ref 130), (1, .int (nI (1 + i11)))] [] (eI f s11) (eJ f J) R n g
      have e4 : ¬ ((20 : Int32) ≤ (nI (1 + i11))) := (show ¬ (nI 20 ≤ nI (1 + i11)) from nI_ge (by omega) (by decide))
      refine w_iload_n ok dX12_keepNow_11 1 rfl ?_
      refine w_bipush (v := 20) ok dX12_keepNow_12 (by decide) ?_
      refine w_icmp_ge (tgt := 35) ok dX12_keepNow_14 (by decide) (fun h => absurd h e4) (fun _ => ?_)
      refine w_aload_n ok dX12_keepNow_17 0 rfl ?_
      refine w_iconst (v := 3) ok dX12_keepNow_18 (by decide) ?_
      refine w_iload_n ok dX12_keepNow_19 1 rfl ?_
      refine w_iadd ok dX12_keepNow_20 ?_
      refine w_iconst (v := 1) ok dX12_keepNow_21 (by decide) ?_
      refine w_isub ok dX12_keepNow_22 ?_
      refine w_iconst (v := 3) ok dX12_keepNow_23 (by decide) ?_
      refine w_iload_n ok dX12_keepNow_24 1 rfl ?_
      refine w_iadd ok dX12_keepNow_25 ?_
      refine w_cV (As := [.int (((3 : Int32) + (nI (1 + i11))) - 1), .int ((3 : Int32) + (nI (1 + i11)))]) ok dX12_keepNow_26 iX12_copies (lX12_444 rfl) (rcv cls12 (congrArg Prod.fst s_130)) (ltM hnn (by decide)) (c_X12_copies ro hnn hf (((3 : Int32) + (nI (1 + i11))) - 1) ((3 : Int32) + (nI (1 + i11)))  (hp2 c2 i11 s11 hi11 hs11)) (by decide) rfl (Nat.le_of_ble_eq_true rfl) ?_
      show WK K 0 0 29 [(0, .ref 130), (1, .int (nI (1 + i11)))] [] (eI f (S3_X12_keepNow I J i11 s11)) (eJ f J) R n g
      refine w_iinc (v := (nI (1 + i11)) + 1) ok dX12_keepNow_29 1 rfl rfl (by decide) rfl ?_
      refine w_goto (tgt := 11) ok dX12_keepNow_32 (by decide) ?_
      have eB : B_X12_keepNow_l11 I J i11 s11 = (S3_X12_keepNow I J i11 s11) := by
        unfold B_X12_keepNow_l11; exact rfl
      have kk := k11
      rw [eB] at kk
      refine w_loc [1, 0] rfl ?_
      rw [show nI (1 + i11) + 1 = nI (1 + (i11 + 1)) from nI_1 _]
      exact kk
