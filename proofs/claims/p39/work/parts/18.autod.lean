/-! printed by wip/whole/gen_c.py: contracts by program -/
def S1_X12_plums (a0 : Int32) (a1 : Int32) (I : SI) (J : SJ) : SI := u2 (FI_X12_keepNow  (u2 I 130 0 0) J) 166 a0.toNatClampNeg (((FI_X12_keepNow  (u2 I 130 0 0) J) 166 a0.toNatClampNeg) + a1)
def F_X12_plums (a0 : Int32) (a1 : Int32) (I : SI) (J : SJ) : Int32 := if (F_X12_isParty a0 (u2 I 130 0 0) J) = 0 then -1 else (if a1 < 1 then -1 else (if (99 : Int32) < a1 then -1 else (if (((u2 I 130 0 0) 166 a0.toNatClampNeg) + a1) ≤ 999 then (S1_X12_plums a0 a1 I J) 166 a0.toNatClampNeg else -1)))
def FI_X12_plums (a0 : Int32) (a1 : Int32) (I : SI) (J : SJ) : SI := if (F_X12_isParty a0 (u2 I 130 0 0) J) = 0 then u2 I 130 0 0 else (if a1 < 1 then u2 I 130 0 0 else (if (99 : Int32) < a1 then u2 I 130 0 0 else (if (((u2 I 130 0 0) 166 a0.toNatClampNeg) + a1) ≤ 999 then (S1_X12_plums a0 a1 I J) else u2 I 130 0 0)))
def H_X12_plums (a0 : Int32) (a1 : Int32) (I : SI) (J : SJ) : Prop := (¬ ((F_X12_isParty a0 (u2 I 130 0 0) J) = 0) → ¬ (a1 < 1) → ¬ ((99 : Int32) < a1) → inR a0 92) ∧ (¬ ((F_X12_isParty a0 (u2 I 130 0 0) J) = 0) → ¬ (a1 < 1) → ¬ ((99 : Int32) < a1) → (((u2 I 130 0 0) 166 a0.toNatClampNeg) + a1) ≤ 999 → H_X12_keepNow  (u2 I 130 0 0) J) ∧ (¬ ((F_X12_isParty a0 (u2 I 130 0 0) J) = 0) → ¬ (a1 < 1) → ¬ ((99 : Int32) < a1) → (((u2 I 130 0 0) 166 a0.toNatClampNeg) + a1) ≤ 999 → inR a0 92)
set_option maxHeartbeats 1000000 in
set_option maxRecDepth 40000 in
theorem c_X12_plums {I : SI} {J : SJ} {R : SR} {n g : Nat} {f : Fr} (ro : RM R) (hnn : nM ≤ n) (hf : f.1 = false) (a0 : Int32) (a1 : Int32)  (hp : H_X12_plums a0 a1 I J) : MM 2 0 0 mX12_plums [.ref 130, .int a0, .int a1] (eI f I) (eJ f J) R n g (Pd (some (.int (F_X12_plums a0 a1 I J))) (eI f (FI_X12_plums a0 a1 I J)) (eJ f J) R n g) := by
  refine MM.of (by decide) (Nat.le_of_ble_eq_true rfl) fun K ok fin => ?_
  show WK K 0 0 0 [(0, .ref 130), (1, .int a0), (2, .int a1)] [] (eI f I) (eJ f J) R n g
  obtain ⟨hp1, hp2, hp3⟩ := hp
  refine w_aload_n ok dX12_plums_0 0 rfl ?_
  refine w_iconst (v := 0) ok dX12_plums_1 (by decide) ?_
  refine y_putI ok dX12_plums_2 (fwX12_169 rfl) (congrArg Prod.fst s_130) rfl (ltM hnn (by decide)) (sdm hf (by decide)) ?_
  refine w_aload_n ok dX12_plums_5 0 rfl ?_
  refine w_iload_n ok dX12_plums_6 1 rfl ?_
  refine w_cV (As := [.int a0]) ok dX12_plums_7 iX12_isParty (lX12_456 rfl) (rcv cls12 (congrArg Prod.fst s_130)) (ltM hnn (by decide)) (c_X12_isParty ro hnn hf a0 ) (by decide) rfl (Nat.le_of_ble_eq_true rfl) ?_
  refine w_if_eq (tgt := 38) ok dX12_plums_10 (by decide) (fun c1 => ?_) (fun c1 => ?_)
  · skip
    refine w_iconst (v := (-1)) ok dX12_plums_38 (by decide) ?_
    exact w_iret ok fin dX12_plums_39 rfl (by unfold F_X12_plums FI_X12_plums; simp only [if_pos c1]; exact Pd.i)
  · skip
    refine w_iload_n ok dX12_plums_13 2 rfl ?_
    refine w_iconst (v := 1) ok dX12_plums_14 (by decide) ?_
    refine w_icmp_lt (tgt := 38) ok dX12_plums_15 (by decide) (fun c2 => ?_) (fun c2 => ?_)
    · skip
      refine w_iconst (v := (-1)) ok dX12_plums_38 (by decide) ?_
      exact w_iret ok fin dX12_plums_39 rfl (by unfold F_X12_plums FI_X12_plums; simp only [if_neg c1]; simp only [if_pos c2]; exact Pd.i)
    · skip
      refine w_iload_n ok dX12_plums_18 2 rfl ?_
      refine w_bipush (v := 99) ok dX12_plums_19 (by decide) ?_
      refine w_icmp_gt (tgt := 38) ok dX12_plums_21 (by decide) (fun c3 => ?_) (fun c3 => ?_)
      · skip
        refine w_iconst (v := (-1)) ok dX12_plums_38 (by decide) ?_
        exact w_iret ok fin dX12_plums_39 rfl (by unfold F_X12_plums FI_X12_plums; simp only [if_neg c1]; simp only [if_neg c2]; simp only [if_pos c3]; exact Pd.i)
      · skip
        refine w_aload_n ok dX12_plums_24 0 rfl ?_
        refine w_getR ok dX12_plums_25 (fX12_120 rfl) (congrArg Prod.fst s_130) rfl (r_130_51 ro) (ltM hnn (by decide)) ?_
        refine w_iload_n ok dX12_plums_28 1 rfl ?_
        refine y_iald (q := a0.toNatClampNeg) ok dX12_plums_29 s_166 (hp1 c1 c2 c3) (by decide) (ltM hnn (by decide)) (sdm hf (by decide)) ?_
        refine w_iload_n ok dX12_plums_30 2 rfl ?_
        refine w_iadd ok dX12_plums_31 ?_
        refine w_sipush (v := 999) ok dX12_plums_32 (by decide) ?_
        refine w_icmp_le (tgt := 40) ok dX12_plums_35 (by decide) (fun c4 => ?_) (fun c4 => ?_)
        · skip
          refine w_aload_n ok dX12_plums_40 0 rfl ?_
          refine w_cV (As := []) ok dX12_plums_41 iX12_keepNow (lX12_463 rfl) (rcv cls12 (congrArg Prod.fst s_130)) (ltM hnn (by decide)) (c_X12_keepNow ro hnn hf   (hp2 c1 c2 c3 c4)) (by decide) rfl (Nat.le_of_ble_eq_true rfl) ?_
          refine w_aload_n ok dX12_plums_44 0 rfl ?_
          refine w_getR ok dX12_plums_45 (fX12_120 rfl) (congrArg Prod.fst s_130) rfl (r_130_51 ro) (ltM hnn (by decide)) ?_
          refine w_iload_n ok dX12_plums_48 1 rfl ?_
          refine w_dup2 ok dX12_plums_49 rfl rfl ?_
          refine y_iald (q := a0.toNatClampNeg) ok dX12_plums_50 s_166 (hp3 c1 c2 c3 c4) (by decide) (ltM hnn (by decide)) (sdm hf (by decide)) ?_
          refine w_iload_n ok dX12_plums_51 2 rfl ?_
          refine w_iadd ok dX12_plums_52 ?_
          refine y_iast (q := a0.toNatClampNeg) ok dX12_plums_53 s_166 (hp3 c1 c2 c3 c4) (by decide) (ltM hnn (by decide)) (sdm hf (by decide)) ?_
          show WK K 0 0 54 [(0, .ref 130), (1, .int a0), (2, .int a1)] [] (eI f (S1_X12_plums a0 a1 I J)) (eJ f J) R n g
          refine w_aload_n ok dX12_plums_54 0 rfl ?_
          refine w_getR ok dX12_plums_55 (fX12_120 rfl) (congrArg Prod.fst s_130) rfl (r_130_51 ro) (ltM hnn (by decide)) ?_
          refine w_iload_n ok dX12_plums_58 1 rfl ?_
          refine y_iald (q := a0.toNatClampNeg) ok dX12_plums_59 s_166 (hp3 c1 c2 c3 c4) (by decide) (ltM hnn (by decide)) (sdm hf (by decide)) ?_
          exact w_iret ok fin dX12_plums_60 rfl (by unfold F_X12_plums FI_X12_plums; simp only [if_neg c1]; simp only [if_neg c2]; simp only [if_neg c3]; simp only [if_pos c4]; exact Pd.i)
        · skip
          refine w_iconst (v := (-1)) ok dX12_plums_38 (by decide) ?_
          exact w_iret ok fin dX12_plums_39 rfl (by unfold F_X12_plums FI_X12_plums; simp only [if_neg c1]; simp only [if_neg c2]; simp only [if_neg c3]; simp only [if_neg c4]; exact Pd.i)
def F_X12_move (a0 : Int32) (a1 : Int32) (I : SI) (J : SJ) : Int32 := if (F_X12_isShot a0 (u2 I 130 0 0) J) = 0 then 0 else (if a1 < ((u2 I 130 0 0) 154 0) then 0 else (if (9999 : Int32) < a1 then 0 else (if (F_X12_isDone 0 a0 (u2 I 130 0 0) J) = 0 then (if ((u2 I 130 0 0) 162 a0.toNatClampNeg) = a1 then 0 else 1) else 0)))
def FI_X12_move (a0 : Int32) (a1 : Int32) (I : SI) (J : SJ) : SI := if (F_X12_isShot a0 (u2 I 130 0 0) J) = 0 then u2 I 130 0 0 else (if a1 < ((u2 I 130 0 0) 154 0) then u2 I 130 0 0 else (if (9999 : Int32) < a1 then u2 I 130 0 0 else (if (F_X12_isDone 0 a0 (u2 I 130 0 0) J) = 0 then (if ((u2 I 130 0 0) 162 a0.toNatClampNeg) = a1 then u2 I 130 0 0 else u2 (FI_X12_keepNow  (u2 I 130 0 0) J) 162 a0.toNatClampNeg a1) else u2 I 130 0 0)))
def H_X12_move (a0 : Int32) (a1 : Int32) (I : SI) (J : SJ) : Prop := (¬ ((F_X12_isShot a0 (u2 I 130 0 0) J) = 0) → ¬ (a1 < ((u2 I 130 0 0) 154 0)) → ¬ ((9999 : Int32) < a1) → H_X12_isDone 0 a0 (u2 I 130 0 0) J) ∧ (¬ ((F_X12_isShot a0 (u2 I 130 0 0) J) = 0) → ¬ (a1 < ((u2 I 130 0 0) 154 0)) → ¬ ((9999 : Int32) < a1) → (F_X12_isDone 0 a0 (u2 I 130 0 0) J) = 0 → inR a0 184) ∧ (¬ ((F_X12_isShot a0 (u2 I 130 0 0) J) = 0) → ¬ (a1 < ((u2 I 130 0 0) 154 0)) → ¬ ((9999 : Int32) < a1) → (F_X12_isDone 0 a0 (u2 I 130 0 0) J) = 0 → ¬ (((u2 I 130 0 0) 162 a0.toNatClampNeg) = a1) → H_X12_keepNow  (u2 I 130 0 0) J) ∧ (¬ ((F_X12_isShot a0 (u2 I 130 0 0) J) = 0) → ¬ (a1 < ((u2 I 130 0 0) 154 0)) → ¬ ((9999 : Int32) < a1) → (F_X12_isDone 0 a0 (u2 I 130 0 0) J) = 0 → ¬ (((u2 I 130 0 0) 162 a0.toNatClampNeg) = a1) → inR a0 184)
set_option maxHeartbeats 1000000 in
set_option maxRecDepth 40000 in
theorem c_X12_move {I : SI} {J : SJ} {R : SR} {n g : Nat} {f : Fr} (ro : RM R) (hnn : nM ≤ n) (hf : f.1 = false) (a0 : Int32) (a1 : Int32)  (hp : H_X12_move a0 a1 I J) : MM 2 0 0 mX12_move [.ref 130, .int a0, .int a1] (eI f I) (eJ f J) R n g (Pd (some (.int (F_X12_move a0 a1 I J))) (eI f (FI_X12_move a0 a1 I J)) (eJ f J) R n g) := by
  refine MM.of (by decide) (Nat.le_of_ble_eq_true rfl) fun K ok fin => ?_
  show WK K 0 0 0 [(0, .ref 130), (1, .int a0), (2, .int a1)] [] (eI f I) (eJ f J) R n g
  obtain ⟨hp1, hp2, hp3, hp4⟩ := hp
  refine w_aload_n ok dX12_move_0 0 rfl ?_
  refine w_iconst (v := 0) ok dX12_move_1 (by decide) ?_
  refine y_putI ok dX12_move_2 (fwX12_169 rfl) (congrArg Prod.fst s_130) rfl (ltM hnn (by decide)) (sdm hf (by decide)) ?_
  refine w_aload_n ok dX12_move_5 0 rfl ?_
  refine w_iload_n ok dX12_move_6 1 rfl ?_
  refine w_cV (As := [.int a0]) ok dX12_move_7 iX12_isShot (lX12_453 rfl) (rcv cls12 (congrArg Prod.fst s_130)) (ltM hnn (by decide)) (c_X12_isShot ro hnn hf a0 ) (by decide) rfl (Nat.le_of_ble_eq_true rfl) ?_
  refine w_if_eq (tgt := 49) ok dX12_move_10 (by decide) (fun c1 => ?_) (fun c1 => ?_)
  · skip
    refine w_iconst (v := 0) ok dX12_move_49 (by decide) ?_
    exact w_zret ok fin dX12_move_50 rfl (by decide) (by unfold F_X12_move FI_X12_move; simp only [if_pos c1]; exact Pd.i)
  · skip
    refine w_iload_n ok dX12_move_13 2 rfl ?_
    refine w_aload_n ok dX12_move_14 0 rfl ?_
    refine w_getR ok dX12_move_15 (fX12_84 rfl) (congrArg Prod.fst s_130) rfl (r_130_39 ro) (ltM hnn (by decide)) ?_
    refine w_iconst (v := 0) ok dX12_move_18 (by decide) ?_
    refine y_iald (q := 0) ok dX12_move_19 s_154 (by decide) (by decide) (ltM hnn (by decide)) (sdm hf (by decide)) ?_
    refine w_icmp_lt (tgt := 49) ok dX12_move_20 (by decide) (fun c2 => ?_) (fun c2 => ?_)
    · skip
      refine w_iconst (v := 0) ok dX12_move_49 (by decide) ?_
      exact w_zret ok fin dX12_move_50 rfl (by decide) (by unfold F_X12_move FI_X12_move; simp only [if_neg c1]; simp only [if_pos c2]; exact Pd.i)
    · skip
      refine w_iload_n ok dX12_move_23 2 rfl ?_
      refine w_sipush (v := 9999) ok dX12_move_24 (by decide) ?_
      refine w_icmp_gt (tgt := 49) ok dX12_move_27 (by decide) (fun c3 => ?_) (fun c3 => ?_)
      · skip
        refine w_iconst (v := 0) ok dX12_move_49 (by decide) ?_
        exact w_zret ok fin dX12_move_50 rfl (by decide) (by unfold F_X12_move FI_X12_move; simp only [if_neg c1]; simp only [if_neg c2]; simp only [if_pos c3]; exact Pd.i)
      · skip
        refine w_aload_n ok dX12_move_30 0 rfl ?_
        refine w_iconst (v := 0) ok dX12_move_31 (by decide) ?_
        refine w_iload_n ok dX12_move_32 1 rfl ?_
        refine w_cV (As := [.int 0, .int a0]) ok dX12_move_33 iX12_isDone (lX12_367 rfl) (rcv cls12 (congrArg Prod.fst s_130)) (ltM hnn (by decide)) (c_X12_isDone ro hnn hf 0 a0  (hp1 c1 c2 c3)) (by decide) rfl (Nat.le_of_ble_eq_true rfl) ?_
        refine w_if_ne (tgt := 49) ok dX12_move_36 (by decide) (fun c4 => ?_) (fun c4 => ?_)
        · skip
          refine w_iconst (v := 0) ok dX12_move_49 (by decide) ?_
          exact w_zret ok fin dX12_move_50 rfl (by decide) (by unfold F_X12_move FI_X12_move; simp only [if_neg c1]; simp only [if_neg c2]; simp only [if_neg c3]; simp only [if_neg c4]; exact Pd.i)
        · skip
          refine w_aload_n ok dX12_move_39 0 rfl ?_
          refine w_getR ok dX12_move_40 (fX12_108 rfl) (congrArg Prod.fst s_130) rfl (r_130_47 ro) (ltM hnn (by decide)) ?_
          refine w_iload_n ok dX12_move_43 1 rfl ?_
          refine y_iald (q := a0.toNatClampNeg) ok dX12_move_44 s_162 (hp2 c1 c2 c3 c4) (by decide) (ltM hnn (by decide)) (sdm hf (by decide)) ?_
          refine w_iload_n ok dX12_move_45 2 rfl ?_
          refine w_icmp_ne (tgt := 51) ok dX12_move_46 (by decide) (fun c5 => ?_) (fun c5 => ?_)
          · skip
            refine w_aload_n ok dX12_move_51 0 rfl ?_
            refine w_cV (As := []) ok dX12_move_52 iX12_keepNow (lX12_463 rfl) (rcv cls12 (congrArg Prod.fst s_130)) (ltM hnn (by decide)) (c_X12_keepNow ro hnn hf   (hp3 c1 c2 c3 c4 c5)) (by decide) rfl (Nat.le_of_ble_eq_true rfl) ?_
            refine w_aload_n ok dX12_move_55 0 rfl ?_
            refine w_getR ok dX12_move_56 (fX12_108 rfl) (congrArg Prod.fst s_130) rfl (r_130_47 ro) (ltM hnn (by decide)) ?_
            refine w_iload_n ok dX12_move_59 1 rfl ?_
            refine w_iload_n ok dX12_move_60 2 rfl ?_
            refine y_iast (q := a0.toNatClampNeg) ok dX12_move_61 s_162 (hp4 c1 c2 c3 c4 c5) (by decide) (ltM hnn (by decide)) (sdm hf (by decide)) ?_
            refine w_iconst (v := 1) ok dX12_move_62 (by decide) ?_
            exact w_zret ok fin dX12_move_63 rfl (by decide) (by unfold F_X12_move FI_X12_move; simp only [if_neg c1]; simp only [if_neg c2]; simp only [if_neg c3]; simp only [if_pos c4]; simp only [if_neg c5]; exact Pd.i)
          · skip
            refine w_iconst (v := 0) ok dX12_move_49 (by decide) ?_
            exact w_zret ok fin dX12_move_50 rfl (by decide) (by unfold F_X12_move FI_X12_move; simp only [if_neg c1]; simp only [if_neg c2]; simp only [if_neg c3]; simp only [if_pos c4]; simp only [if_pos c5]; exact Pd.i)
def F_X12_tell (a0 : Int32) (a1 : Int32) (I : SI) (J : SJ) : Int32 := if (F_X12_isMark a0 (u2 I 130 0 0) J) = 0 then 0 else (if a1 < 0 then 0 else (if ((u2 I 130 0 0) 135 a0.toNatClampNeg) ≤ a1 then 0 else (if ((u2 I 130 0 0) 160 a0.toNatClampNeg) = a1 then 0 else 1)))
def FI_X12_tell (a0 : Int32) (a1 : Int32) (I : SI) (J : SJ) : SI := if (F_X12_isMark a0 (u2 I 130 0 0) J) = 0 then u2 I 130 0 0 else (if a1 < 0 then u2 I 130 0 0 else (if ((u2 I 130 0 0) 135 a0.toNatClampNeg) ≤ a1 then u2 I 130 0 0 else (if ((u2 I 130 0 0) 160 a0.toNatClampNeg) = a1 then u2 I 130 0 0 else u2 (FI_X12_keepNow  (u2 I 130 0 0) J) 160 a0.toNatClampNeg a1)))
def H_X12_tell (a0 : Int32) (a1 : Int32) (I : SI) (J : SJ) : Prop := (¬ ((F_X12_isMark a0 (u2 I 130 0 0) J) = 0) → ¬ (a1 < 0) → inR a0 12) ∧ (¬ ((F_X12_isMark a0 (u2 I 130 0 0) J) = 0) → ¬ (a1 < 0) → ¬ (((u2 I 130 0 0) 135 a0.toNatClampNeg) ≤ a1) → inR a0 138) ∧ (¬ ((F_X12_isMark a0 (u2 I 130 0 0) J) = 0) → ¬ (a1 < 0) → ¬ (((u2 I 130 0 0) 135 a0.toNatClampNeg) ≤ a1) → ¬ (((u2 I 130 0 0) 160 a0.toNatClampNeg) = a1) → H_X12_keepNow  (u2 I 130 0 0) J) ∧ (¬ ((F_X12_isMark a0 (u2 I 130 0 0) J) = 0) → ¬ (a1 < 0) → ¬ (((u2 I 130 0 0) 135 a0.toNatClampNeg) ≤ a1) → ¬ (((u2 I 130 0 0) 160 a0.toNatClampNeg) = a1) → inR a0 138)
set_option maxHeartbeats 1000000 in
set_option maxRecDepth 40000 in
theorem c_X12_tell {I : SI} {J : SJ} {R : SR} {n g : Nat} {f : Fr} (ro : RM R) (hnn : nM ≤ n) (hf : f.1 = false) (a0 : Int32) (a1 : Int32)  (hp : H_X12_tell a0 a1 I J) : MM 2 0 0 mX12_tell [.ref 130, .int a0, .int a1] (eI f I) (eJ f J) R n g (Pd (some (.int (F_X12_tell a0 a1 I J))) (eI f (FI_X12_tell a0 a1 I J)) (eJ f J) R n g) := by
  refine MM.of (by decide) (Nat.le_of_ble_eq_true rfl) fun K ok fin => ?_
  show WK K 0 0 0 [(0, .ref 130), (1, .int a0), (2, .int a1)] [] (eI f I) (eJ f J) R n g
  obtain ⟨hp1, hp2, hp3, hp4⟩ := hp
  refine w_aload_n ok dX12_tell_0 0 rfl ?_
  refine w_iconst (v := 0) ok dX12_tell_1 (by decide) ?_
  refine y_putI ok dX12_tell_2 (fwX12_169 rfl) (congrArg Prod.fst s_130) rfl (ltM hnn (by decide)) (sdm hf (by decide)) ?_
  refine w_aload_n ok dX12_tell_5 0 rfl ?_
  refine w_iload_n ok dX12_tell_6 1 rfl ?_
  refine w_cV (As := [.int a0]) ok dX12_tell_7 iX12_isMark (lX12_450 rfl) (rcv cls12 (congrArg Prod.fst s_130)) (ltM hnn (by decide)) (c_X12_isMark ro hnn hf a0 ) (by decide) rfl (Nat.le_of_ble_eq_true rfl) ?_
  refine w_if_eq (tgt := 37) ok dX12_tell_10 (by decide) (fun c1 => ?_) (fun c1 => ?_)
  · skip
    refine w_iconst (v := 0) ok dX12_tell_37 (by decide) ?_
    exact w_zret ok fin dX12_tell_38 rfl (by decide) (by unfold F_X12_tell FI_X12_tell; simp only [if_pos c1]; exact Pd.i)
  · skip
    refine w_iload_n ok dX12_tell_13 2 rfl ?_
    refine w_if_lt (tgt := 37) ok dX12_tell_14 (by decide) (fun c2 => ?_) (fun c2 => ?_)
    · skip
      refine w_iconst (v := 0) ok dX12_tell_37 (by decide) ?_
      exact w_zret ok fin dX12_tell_38 rfl (by decide) (by unfold F_X12_tell FI_X12_tell; simp only [if_neg c1]; simp only [if_pos c2]; exact Pd.i)
    · skip
      refine w_iload_n ok dX12_tell_17 2 rfl ?_
      refine w_aload_n ok dX12_tell_18 0 rfl ?_
      refine w_getR ok dX12_tell_19 (fX12_22 rfl) (congrArg Prod.fst s_130) rfl (r_130_6 ro) (ltM hnn (by decide)) ?_
      refine w_iload_n ok dX12_tell_22 1 rfl ?_
      refine y_iald (q := a0.toNatClampNeg) ok dX12_tell_23 s_135 (hp1 c1 c2) (by decide) (ltM hnn (by decide)) (sdm hf (by decide)) ?_
      refine w_icmp_ge (tgt := 37) ok dX12_tell_24 (by decide) (fun c3 => ?_) (fun c3 => ?_)
      · skip
        refine w_iconst (v := 0) ok dX12_tell_37 (by decide) ?_
        exact w_zret ok fin dX12_tell_38 rfl (by decide) (by unfold F_X12_tell FI_X12_tell; simp only [if_neg c1]; simp only [if_neg c2]; simp only [if_pos c3]; exact Pd.i)
      · skip
        refine w_aload_n ok dX12_tell_27 0 rfl ?_
        refine w_getR ok dX12_tell_28 (fX12_102 rfl) (congrArg Prod.fst s_130) rfl (r_130_45 ro) (ltM hnn (by decide)) ?_
        refine w_iload_n ok dX12_tell_31 1 rfl ?_
        refine y_iald (q := a0.toNatClampNeg) ok dX12_tell_32 s_160 (hp2 c1 c2 c3) (by decide) (ltM hnn (by decide)) (sdm hf (by decide)) ?_
        refine w_iload_n ok dX12_tell_33 2 rfl ?_
        refine w_icmp_ne (tgt := 39) ok dX12_tell_34 (by decide) (fun c4 => ?_) (fun c4 => ?_)
        · skip
          refine w_aload_n ok dX12_tell_39 0 rfl ?_
          refine w_cV (As := []) ok dX12_tell_40 iX12_keepNow (lX12_463 rfl) (rcv cls12 (congrArg Prod.fst s_130)) (ltM hnn (by decide)) (c_X12_keepNow ro hnn hf   (hp3 c1 c2 c3 c4)) (by decide) rfl (Nat.le_of_ble_eq_true rfl) ?_
          refine w_aload_n ok dX12_tell_43 0 rfl ?_
          refine w_getR ok dX12_tell_44 (fX12_102 rfl) (congrArg Prod.fst s_130) rfl (r_130_45 ro) (ltM hnn (by decide)) ?_
          refine w_iload_n ok dX12_tell_47 1 rfl ?_
          refine w_iload_n ok dX12_tell_48 2 rfl ?_
          refine y_iast (q := a0.toNatClampNeg) ok dX12_tell_49 s_160 (hp4 c1 c2 c3 c4) (by decide) (ltM hnn (by decide)) (sdm hf (by decide)) ?_
          refine w_iconst (v := 1) ok dX12_tell_50 (by decide) ?_
          exact w_zret ok fin dX12_tell_51 rfl (by decide) (by unfold F_X12_tell FI_X12_tell; simp only [if_neg c1]; simp only [if_neg c2]; simp only [if_neg c3]; simp only [if_neg c4]; exact Pd.i)
        · skip
          refine w_iconst (v := 0) ok dX12_tell_37 (by decide) ?_
          exact w_zret ok fin dX12_tell_38 rfl (by decide) (by unfold F_X12_tell FI_X12_tell; simp only [if_neg c1]; simp only [if_neg c2]; simp only [if_neg c3]; simp only [if_pos c4]; exact Pd.i)
def F_X12_forget (a0 : Int32) (I : SI) (J : SJ) : Int32 := if (F_X12_isMark a0 (u2 I 130 0 0) J) = 0 then 0 else (if ((u2 I 130 0 0) 160 a0.toNatClampNeg) = (-1) then 0 else 1)
def FI_X12_forget (a0 : Int32) (I : SI) (J : SJ) : SI := if (F_X12_isMark a0 (u2 I 130 0 0) J) = 0 then u2 I 130 0 0 else (if ((u2 I 130 0 0) 160 a0.toNatClampNeg) = (-1) then u2 I 130 0 0 else u2 (FI_X12_keepNow  (u2 I 130 0 0) J) 160 a0.toNatClampNeg (-1))
def H_X12_forget (a0 : Int32) (I : SI) (J : SJ) : Prop := (¬ ((F_X12_isMark a0 (u2 I 130 0 0) J) = 0) → inR a0 138) ∧ (¬ ((F_X12_isMark a0 (u2 I 130 0 0) J) = 0) → ¬ (((u2 I 130 0 0) 160 a0.toNatClampNeg) = (-1)) → H_X12_keepNow  (u2 I 130 0 0) J) ∧ (¬ ((F_X12_isMark a0 (u2 I 130 0 0) J) = 0) → ¬ (((u2 I 130 0 0) 160 a0.toNatClampNeg) = (-1)) → inR a0 138)
set_option maxHeartbeats 1000000 in
set_option maxRecDepth 40000 in
theorem c_X12_forget {I : SI} {J : SJ} {R : SR} {n g : Nat} {f : Fr} (ro : RM R) (hnn : nM ≤ n) (hf : f.1 = false) (a0 : Int32)  (hp : H_X12_forget a0 I J) : MM 2 0 0 mX12_forget [.ref 130, .int a0] (eI f I) (eJ f J) R n g (Pd (some (.int (F_X12_forget a0 I J))) (eI f (FI_X12_forget a0 I J)) (eJ f J) R n g) := by
  refine MM.of (by decide) (Nat.le_of_ble_eq_true rfl) fun K ok fin => ?_
  show WK K 0 0 0 [(0, .ref 130), (1, .int a0)] [] (eI f I) (eJ f J) R n g
  obtain ⟨hp1, hp2, hp3⟩ := hp
  refine w_aload_n ok dX12_forget_0 0 rfl ?_
  refine w_iconst (v := 0) ok dX12_forget_1 (by decide) ?_
  refine y_putI ok dX12_forget_2 (fwX12_169 rfl) (congrArg Prod.fst s_130) rfl (ltM hnn (by decide)) (sdm hf (by decide)) ?_
  refine w_aload_n ok dX12_forget_5 0 rfl ?_
  refine w_iload_n ok dX12_forget_6 1 rfl ?_
  refine w_cV (As := [.int a0]) ok dX12_forget_7 iX12_isMark (lX12_450 rfl) (rcv cls12 (congrArg Prod.fst s_130)) (ltM hnn (by decide)) (c_X12_isMark ro hnn hf a0 ) (by decide) rfl (Nat.le_of_ble_eq_true rfl) ?_
  refine w_if_eq (tgt := 23) ok dX12_forget_10 (by decide) (fun c1 => ?_) (fun c1 => ?_)
  · skip
    refine w_iconst (v := 0) ok dX12_forget_23 (by decide) ?_
    exact w_zret ok fin dX12_forget_24 rfl (by decide) (by unfold F_X12_forget FI_X12_forget; simp only [if_pos c1]; exact Pd.i)
  · skip
    refine w_aload_n ok dX12_forget_13 0 rfl ?_
    refine w_getR ok dX12_forget_14 (fX12_102 rfl) (congrArg Prod.fst s_130) rfl (r_130_45 ro) (ltM hnn (by decide)) ?_
    refine w_iload_n ok dX12_forget_17 1 rfl ?_
    refine y_iald (q := a0.toNatClampNeg) ok dX12_forget_18 s_160 (hp1 c1) (by decide) (ltM hnn (by decide)) (sdm hf (by decide)) ?_
    refine w_iconst (v := (-1)) ok dX12_forget_19 (by decide) ?_
    refine w_icmp_ne (tgt := 25) ok dX12_forget_20 (by decide) (fun c2 => ?_) (fun c2 => ?_)
    · skip
      refine w_aload_n ok dX12_forget_25 0 rfl ?_
      refine w_cV (As := []) ok dX12_forget_26 iX12_keepNow (lX12_463 rfl) (rcv cls12 (congrArg Prod.fst s_130)) (ltM hnn (by decide)) (c_X12_keepNow ro hnn hf   (hp2 c1 c2)) (by decide) rfl (Nat.le_of_ble_eq_true rfl) ?_
      refine w_aload_n ok dX12_forget_29 0 rfl ?_
      refine w_getR ok dX12_forget_30 (fX12_102 rfl) (congrArg Prod.fst s_130) rfl (r_130_45 ro) (ltM hnn (by decide)) ?_
      refine w_iload_n ok dX12_forget_33 1 rfl ?_
      refine w_iconst (v := (-1)) ok dX12_forget_34 (by decide) ?_
      refine y_iast (q := a0.toNatClampNeg) ok dX12_forget_35 s_160 (hp3 c1 c2) (by decide) (ltM hnn (by decide)) (sdm hf (by decide)) ?_
      refine w_iconst (v := 1) ok dX12_forget_36 (by decide) ?_
      exact w_zret ok fin dX12_forget_37 rfl (by decide) (by unfold F_X12_forget FI_X12_forget; simp only [if_neg c1]; simp only [if_neg c2]; exact Pd.i)
    · skip
      refine w_iconst (v := 0) ok dX12_forget_23 (by decide) ?_
      exact w_zret ok fin dX12_forget_24 rfl (by decide) (by unfold F_X12_forget FI_X12_forget; simp only [if_neg c1]; simp only [if_pos c2]; exact Pd.i)
def T_X12_go_j40 (a0 : Int32) (I : SI) (J : SJ) : SI := if a0 ≤ 0 then (u2 I 130 0 0) else (u2 (u2 I 130 0 0) 130 54 0)
def B_X12_go_l42 (a0 : Int32) (I : SI) (J : SJ) (i42 : Nat) (s42 : SI × SJ) : SI × SJ := ((FI_X12_passes 0 1 s42.1 s42.2), (FJ_X12_passes 0 1 s42.1 s42.2))
def F_X12_go_l42 (a0 : Int32) (I : SI) (J : SJ) (s0 : SI × SJ) : SI × SJ := itN (B_X12_go_l42 a0 I J) (a0.toNatClampNeg) s0
def F_X12_go (a0 : Int32) (I : SI) (J : SJ) : Int32 := if a0 < 0 then -1 else (if (99 : Int32) < a0 then -1 else (if (((u2 I 130 0 0) 154 0) + a0) ≤ 9900 then ((F_X12_go_l42 a0 I J ((T_X12_go_j40 a0 I J), J)).1) 154 0 else -1))
def FI_X12_go (a0 : Int32) (I : SI) (J : SJ) : SI := if a0 < 0 then u2 I 130 0 0 else (if (99 : Int32) < a0 then u2 I 130 0 0 else (if (((u2 I 130 0 0) 154 0) + a0) ≤ 9900 then (F_X12_go_l42 a0 I J ((T_X12_go_j40 a0 I J), J)).1 else u2 I 130 0 0))
def FJ_X12_go (a0 : Int32) (I : SI) (J : SJ) : SJ := if a0 < 0 then J else (if (99 : Int32) < a0 then J else (if (((u2 I 130 0 0) 154 0) + a0) ≤ 9900 then (F_X12_go_l42 a0 I J ((T_X12_go_j40 a0 I J), J)).2 else J))
def H_X12_go (a0 : Int32) (I : SI) (J : SJ) : Prop := (¬ (a0 < 0) → ¬ ((99 : Int32) < a0) → (((u2 I 130 0 0) 154 0) + a0) ≤ 9900 → ∀ (i42 : Nat) (s42 : SI × SJ), i42 < a0.toNatClampNeg → s42 = itN (B_X12_go_l42 a0 I J) i42 ((T_X12_go_j40 a0 I J), J) → H_X12_passes 0 1 s42.1 s42.2)
set_option maxHeartbeats 1000000 in
set_option maxRecDepth 40000 in
theorem c_X12_go {I : SI} {J : SJ} {R : SR} {n g : Nat} {f : Fr} (ro : RM R) (hnn : nM ≤ n) (hf : f.1 = false) (a0 : Int32)  (hp : H_X12_go a0 I J) : MM 7 0 0 mX12_go [.ref 130, .int a0] (eI f I) (eJ f J) R n g (Pd (some (.int (F_X12_go a0 I J))) (eI f (FI_X12_go a0 I J)) (eJ f (FJ_X12_go a0 I J)) R n g) := by
  refine MM.of (by decide) (Nat.le_of_ble_eq_true rfl) fun K ok fin => ?_
  show WK K 0 0 0 [(0, .ref 130), (1, .int a0)] [] (eI f I) (eJ f J) R n g
  have hp1 := hp
  refine w_aload_n ok dX12_go_0 0 rfl ?_
  refine w_iconst (v := 0) ok dX12_go_1 (by decide) ?_
  refine y_putI ok dX12_go_2 (fwX12_169 rfl) (congrArg Prod.fst s_130) rfl (ltM hnn (by decide)) (sdm hf (by decide)) ?_
  refine w_iload_n ok dX12_go_5 1 rfl ?_
  refine w_if_lt (tgt := 29) ok dX12_go_6 (by decide) (fun c1 => ?_) (fun c1 => ?_)
  · skip
    refine w_iconst (v := (-1)) ok dX12_go_29 (by decide) ?_
    exact w_iret ok fin dX12_go_30 rfl (by unfold F_X12_go FI_X12_go FJ_X12_go; simp only [if_pos c1]; exact Pd.i)
  · skip
    refine w_iload_n ok dX12_go_9 1 rfl ?_
    refine w_bipush (v := 99) ok dX12_go_10 (by decide) ?_
    refine w_icmp_gt (tgt := 29) ok dX12_go_12 (by decide) (fun c2 => ?_) (fun c2 => ?_)
    · skip
      refine w_iconst (v := (-1)) ok dX12_go_29 (by decide) ?_
      exact w_iret ok fin dX12_go_30 rfl (by unfold F_X12_go FI_X12_go FJ_X12_go; simp only [if_neg c1]; simp only [if_pos c2]; exact Pd.i)
    · skip
      refine w_aload_n ok dX12_go_15 0 rfl ?_
      refine w_getR ok dX12_go_16 (fX12_84 rfl) (congrArg Prod.fst s_130) rfl (r_130_39 ro) (ltM hnn (by decide)) ?_
      refine w_iconst (v := 0) ok dX12_go_19 (by decide) ?_
      refine y_iald (q := 0) ok dX12_go_20 s_154 (by decide) (by decide) (ltM hnn (by decide)) (sdm hf (by decide)) ?_
      refine w_iload_n ok dX12_go_21 1 rfl ?_
      refine w_iadd ok dX12_go_22 ?_
      refine w_sipush (v := 9900) ok dX12_go_23 (by decide) ?_
      refine w_icmp_le (tgt := 31) ok dX12_go_26 (by decide) (fun c3 => ?_) (fun c3 => ?_)
      · skip
        refine w_iload_n ok dX12_go_31 1 rfl ?_
        have jn4 : WK K 0 0 40 [(0, .ref 130), (1, .int a0)] [] (eI f (T_X12_go_j40 a0 I J)) (eJ f J) R n g := by
          refine w_iconst (v := 0) ok dX12_go_40 (by decide) ?_
          refine w_istore_n ok dX12_go_41 rfl (by decide) rfl ?_
          refine w_loc [1, 2, 0] rfl ?_
          refine loop_for (σ := SI × SJ) (fun (i42 : Nat) (s42 : SI × SJ) => WK K 0 0 42 [(0, .ref 130), (1, .int a0), (2, .int (nI i42))] [] (eI f s42.1) (eJ f s42.2) R n g) (B_X12_go_l42 a0 I J) (a0.toNatClampNeg) (((T_X12_go_j40 a0 I J), J)) ?_ ?_
          · show WK K 0 0 42 [(0, .ref 130), (1, .int a0), (2, .int (nI a0.toNatClampNeg))] [] (eI f ((F_X12_go_l42 a0 I J ((T_X12_go_j40 a0 I J), J)).1)) (eJ f ((F_X12_go_l42 a0 I J ((T_X12_go_j40 a0 I J), J)).2)) R n g
            have e5 : a0 ≤ (nI a0.toNatClampNeg) := cnt_ge _
            refine w_iload_n ok dX12_go_42 2 rfl ?_
            refine w_iload_n ok dX12_go_43 1 rfl ?_
            refine w_icmp_ge (tgt := 59) ok dX12_go_44 (by decide) (fun _ => ?_) (fun h => absurd e5 h)
            refine w_aload_n ok dX12_go_59 0 rfl ?_
            refine w_getR ok dX12_go_60 (fX12_84 rfl) (congrArg Prod.fst s_130) rfl (r_130_39 ro) (ltM hnn (by decide)) ?_
            refine w_iconst (v := 0) ok dX12_go_63 (by decide) ?_
            refine y_iald (q := 0) ok dX12_go_64 s_154 (by decide) (by decide) (ltM hnn (by decide)) (sdm hf (by decide)) ?_
            exact w_iret ok fin dX12_go_65 rfl (by unfold F_X12_go FI_X12_go FJ_X12_go; simp only [if_neg c1]; simp only [if_neg c2]; simp only [if_pos c3]; exact Pd.i)
          · intro i42 s42 hi42 hs42 k42
            show WK K 0 0 42 [(0, .ref 130), (1, .int a0), (2, .int (nI i42))] [] (eI f s42.1) (eJ f s42.2) R n g
            have e6 : ¬ (a0 ≤ (nI i42)) := cnt_lt hi42
            refine w_iload_n ok dX12_go_42 2 rfl ?_
            refine w_iload_n ok dX12_go_43 1 rfl ?_
            refine w_icmp_ge (tgt := 59) ok dX12_go_44 (by decide) (fun h => absurd h e6) (fun _ => ?_)
            refine w_aload_n ok dX12_go_47 0 rfl ?_
            refine w_iconst (v := 0) ok dX12_go_48 (by decide) ?_
            refine w_iconst (v := 1) ok dX12_go_49 (by decide) ?_
            refine w_cV (As := [.int 0, .int 1]) ok dX12_go_50 iX12_passes (lX12_440 rfl) (rcv cls12 (congrArg Prod.fst s_130)) (ltM hnn (by decide)) (c_X12_passes ro hnn hf 0 1  (hp1 c1 c2 c3 i42 s42 hi42 hs42)) (by decide) rfl (Nat.le_of_ble_eq_true rfl) ?_
            refine w_iinc (v := (nI i42) + 1) ok dX12_go_53 2 rfl rfl (by decide) rfl ?_
            refine w_goto (tgt := 42) ok dX12_go_56 (by decide) ?_
            have eB : B_X12_go_l42 a0 I J i42 s42 = ((FI_X12_passes 0 1 s42.1 s42.2), (FJ_X12_passes 0 1 s42.1 s42.2)) := by
              unfold B_X12_go_l42; exact rfl
            have kk := k42
            rw [eB] at kk
            refine w_loc [1, 2, 0] rfl ?_
            rw [nI_1 i42]
            exact kk
        refine w_if_le (tgt := 40) ok dX12_go_32 (by decide) (fun c7 => ?_) (fun c7 => ?_)
        · skip
          have eT : (T_X12_go_j40 a0 I J) = (u2 I 130 0 0) := by
            unfold T_X12_go_j40; exact (if_pos c7).trans (rfl)
          refine w_loc [0, 1] rfl ?_
          have jj := jn4
          rw [eT] at jj
          exact jj
        · skip
          refine w_aload_n ok dX12_go_35 0 rfl ?_
          refine w_iconst (v := 0) ok dX12_go_36 (by decide) ?_
          refine y_putI ok dX12_go_37 (fwX12_335 rfl) (congrArg Prod.fst s_130) rfl (ltM hnn (by decide)) (sdm hf (by decide)) ?_
          have eT : (T_X12_go_j40 a0 I J) = (u2 (u2 I 130 0 0) 130 54 0) := by
            unfold T_X12_go_j40; exact (if_neg c7).trans (rfl)
          refine w_loc [0, 1] rfl ?_
          have jj := jn4
          rw [eT] at jj
          exact jj
      · skip
        refine w_iconst (v := (-1)) ok dX12_go_29 (by decide) ?_
        exact w_iret ok fin dX12_go_30 rfl (by unfold F_X12_go FI_X12_go FJ_X12_go; simp only [if_neg c1]; simp only [if_neg c2]; simp only [if_neg c3]; exact Pd.i)
def S1_X12_ahead (a0 : Int32) (a1 : Int32) (I : SI) (J : SJ) : Int32 := (F_X12_sumOf 163 184 1 (FI_X12_runs a0 (u2 I 130 0 0) J) (FJ_X12_runs a0 (u2 I 130 0 0) J)) - (F_X12_sumOf 163 184 0 (FI_X12_runs a0 (u2 I 130 0 0) J) (FJ_X12_runs a0 (u2 I 130 0 0) J))
def S2_X12_ahead (a0 : Int32) (a1 : Int32) (I : SI) (J : SJ) : Int32 := (F_X12_sumOf 164 184 1 (FI_X12_runs a0 (u2 I 130 0 0) J) (FJ_X12_runs a0 (u2 I 130 0 0) J)) - (F_X12_sumOf 164 184 0 (FI_X12_runs a0 (u2 I 130 0 0) J) (FJ_X12_runs a0 (u2 I 130 0 0) J))
def F_X12_ahead (a0 : Int32) (a1 : Int32) (I : SI) (J : SJ) : Int32 := if a0 < 0 then -1 else (if (99 : Int32) < a0 then -1 else (if a1 < 0 then -1 else (if a1 ≤ 4 then (if a1 = 0 then (S1_X12_ahead a0 a1 I J) else (if a1 = 1 then ((FI_X12_runs a0 (u2 I 130 0 0) J) 157 1) - ((FI_X12_runs a0 (u2 I 130 0 0) J) 157 0) else (if a1 = 2 then (S2_X12_ahead a0 a1 I J) else (if a1 = 3 then (FI_X12_runs a0 (u2 I 130 0 0) J) 156 1 else F_X12_clashesAll 1 (FI_X12_runs a0 (u2 I 130 0 0) J) (FJ_X12_runs a0 (u2 I 130 0 0) J))))) else -1)))
def FI_X12_ahead (a0 : Int32) (a1 : Int32) (I : SI) (J : SJ) : SI := if a0 < 0 then u2 I 130 0 0 else (if (99 : Int32) < a0 then u2 I 130 0 0 else (if a1 < 0 then u2 I 130 0 0 else (if a1 ≤ 4 then (if a1 = 0 then FI_X12_runs a0 (u2 I 130 0 0) J else (if a1 = 1 then FI_X12_runs a0 (u2 I 130 0 0) J else (if a1 = 2 then FI_X12_runs a0 (u2 I 130 0 0) J else (if a1 = 3 then FI_X12_runs a0 (u2 I 130 0 0) J else FI_X12_runs a0 (u2 I 130 0 0) J)))) else u2 I 130 0 0)))
def FJ_X12_ahead (a0 : Int32) (a1 : Int32) (I : SI) (J : SJ) : SJ := if a0 < 0 then J else (if (99 : Int32) < a0 then J else (if a1 < 0 then J else (if a1 ≤ 4 then (if a1 = 0 then FJ_X12_runs a0 (u2 I 130 0 0) J else (if a1 = 1 then FJ_X12_runs a0 (u2 I 130 0 0) J else (if a1 = 2 then FJ_X12_runs a0 (u2 I 130 0 0) J else (if a1 = 3 then FJ_X12_runs a0 (u2 I 130 0 0) J else FJ_X12_runs a0 (u2 I 130 0 0) J)))) else J)))
def H_X12_ahead (a0 : Int32) (a1 : Int32) (I : SI) (J : SJ) : Prop := (¬ (a0 < 0) → ¬ ((99 : Int32) < a0) → ¬ (a1 < 0) → a1 ≤ 4 → H_X12_runs a0 (u2 I 130 0 0) J) ∧ (¬ (a0 < 0) → ¬ ((99 : Int32) < a0) → ¬ (a1 < 0) → a1 ≤ 4 → a1 = 0 → H_X12_sumOf 163 184 1 (FI_X12_runs a0 (u2 I 130 0 0) J) (FJ_X12_runs a0 (u2 I 130 0 0) J)) ∧ (¬ (a0 < 0) → ¬ ((99 : Int32) < a0) → ¬ (a1 < 0) → a1 ≤ 4 → a1 = 0 → H_X12_sumOf 163 184 0 (FI_X12_runs a0 (u2 I 130 0 0) J) (FJ_X12_runs a0 (u2 I 130 0 0) J)) ∧ (¬ (a0 < 0) → ¬ ((99 : Int32) < a0) → ¬ (a1 < 0) → a1 ≤ 4 → ¬ (a1 = 0) → ¬ (a1 = 1) → a1 = 2 → H_X12_sumOf 164 184 1 (FI_X12_runs a0 (u2 I 130 0 0) J) (FJ_X12_runs a0 (u2 I 130 0 0) J)) ∧ (¬ (a0 < 0) → ¬ ((99 : Int32) < a0) → ¬ (a1 < 0) → a1 ≤ 4 → ¬ (a1 = 0) → ¬ (a1 = 1) → a1 = 2 → H_X12_sumOf 164 184 0 (FI_X12_runs a0 (u2 I 130 0 0) J) (FJ_X12_runs a0 (u2 I 130 0 0) J)) ∧ (¬ (a0 < 0) → ¬ ((99 : Int32) < a0) → ¬ (a1 < 0) → a1 ≤ 4 → ¬ (a1 = 0) → ¬ (a1 = 1) → ¬ (a1 = 2) → ¬ (a1 = 3) → H_X12_clashesAll 1 (FI_X12_runs a0 (u2 I 130 0 0) J) (FJ_X12_runs a0 (u2 I 130 0 0) J))
set_option maxHeartbeats 1020000 in
set_option maxRecDepth 40000 in
theorem c_X12_ahead {I : SI} {J : SJ} {R : SR} {n g : Nat} {f : Fr} (ro : RM R) (hnn : nM ≤ n) (hf : f.1 = false) (a0 : Int32) (a1 : Int32)  (hp : H_X12_ahead a0 a1 I J) : MM 9 0 0 mX12_ahead [.ref 130, .int a0, .int a1] (eI f I) (eJ f J) R n g (Pd (some (.int (F_X12_ahead a0 a1 I J))) (eI f (FI_X12_ahead a0 a1 I J)) (eJ f (FJ_X12_ahead a0 a1 I J)) R n g) := by
  refine MM.of (by decide) (Nat.le_of_ble_eq_true rfl) fun K ok fin => ?_
  show WK K 0 0 0 [(0, .ref 130), (1, .int a0), (2, .int a1)] [] (eI f I) (eJ f J) R n g
  obtain ⟨hp1, hp2, hp3, hp4, hp5, hp6⟩ := hp
  refine w_aload_n ok dX12_ahead_0 0 rfl ?_
  refine w_iconst (v := 0) ok dX12_ahead_1 (by decide) ?_
  refine y_putI ok dX12_ahead_2 (fwX12_169 rfl) (congrArg Prod.fst s_130) rfl (ltM hnn (by decide)) (sdm hf (by decide)) ?_
  refine w_iload_n ok dX12_ahead_5 1 rfl ?_
  refine w_if_lt (tgt := 24) ok dX12_ahead_6 (by decide) (fun c1 => ?_) (fun c1 => ?_)
  · skip
    refine w_iconst (v := (-1)) ok dX12_ahead_24 (by decide) ?_
    exact w_iret ok fin dX12_ahead_25 rfl (by unfold F_X12_ahead FI_X12_ahead FJ_X12_ahead; simp only [if_pos c1]; exact Pd.i)
  · skip
    refine w_iload_n ok dX12_ahead_9 1 rfl ?_
    refine w_bipush (v := 99) ok dX12_ahead_10 (by decide) ?_
    refine w_icmp_gt (tgt := 24) ok dX12_ahead_12 (by decide) (fun c2 => ?_) (fun c2 => ?_)
    · skip
      refine w_iconst (v := (-1)) ok dX12_ahead_24 (by decide) ?_
      exact w_iret ok fin dX12_ahead_25 rfl (by unfold F_X12_ahead FI_X12_ahead FJ_X12_ahead; simp only [if_neg c1]; simp only [if_pos c2]; exact Pd.i)
    · skip
      refine w_iload_n ok dX12_ahead_15 2 rfl ?_
      refine w_if_lt (tgt := 24) ok dX12_ahead_16 (by decide) (fun c3 => ?_) (fun c3 => ?_)
      · skip
        refine w_iconst (v := (-1)) ok dX12_ahead_24 (by decide) ?_
        exact w_iret ok fin dX12_ahead_25 rfl (by unfold F_X12_ahead FI_X12_ahead FJ_X12_ahead; simp only [if_neg c1]; simp only [if_neg c2]; simp only [if_pos c3]; exact Pd.i)
      · skip
        refine w_iload_n ok dX12_ahead_19 2 rfl ?_
        refine w_iconst (v := 4) ok dX12_ahead_20 (by decide) ?_
        refine w_icmp_le (tgt := 26) ok dX12_ahead_21 (by decide) (fun c4 => ?_) (fun c4 => ?_)
        · skip
          refine w_aload_n ok dX12_ahead_26 0 rfl ?_
          refine w_iload_n ok dX12_ahead_27 1 rfl ?_
          refine w_cV (As := [.int a0]) ok dX12_ahead_28 iX12_runs (lX12_466 rfl) (rcv cls12 (congrArg Prod.fst s_130)) (ltM hnn (by decide)) (c_X12_runs ro hnn hf a0  (hp1 c1 c2 c3 c4)) (by decide) rfl (Nat.le_of_ble_eq_true rfl) ?_
          refine w_iload_n ok dX12_ahead_31 2 rfl ?_
          by_cases c5 : a1 = 0
          · skip
            refine w_tabIn (tgt := 64) (off := 32) ok dX12_ahead_32 (by rw [c5]; decide) (by rw [c5]; decide) (by rw [c5]; rfl) (by decide) ?_
            refine w_aload_n ok dX12_ahead_64 0 rfl ?_
            refine w_aload_n ok dX12_ahead_65 0 rfl ?_
            refine w_getR ok dX12_ahead_66 (fX12_111 rfl) (congrArg Prod.fst s_130) rfl (r_130_48 ro) (ltM hnn (by decide)) ?_
            refine w_iconst (v := 1) ok dX12_ahead_69 (by decide) ?_
            refine w_cV (As := [.ref 163, .int 1]) ok dX12_ahead_70 iX12_sumOf (lX12_469 rfl) (rcv cls12 (congrArg Prod.fst s_130)) (ltM hnn (by decide)) (c_X12_sumOf ro hnn hf 1 s_163 (ltM hnn (by decide)) (sdm hf (by decide)) (sh_len s_163) (hp2 c1 c2 c3 c4 c5)) (by decide) rfl (Nat.le_of_ble_eq_true rfl) ?_
            refine w_aload_n ok dX12_ahead_73 0 rfl ?_
            refine w_aload_n ok dX12_ahead_74 0 rfl ?_
            refine w_getR ok dX12_ahead_75 (fX12_111 rfl) (congrArg Prod.fst s_130) rfl (r_130_48 ro) (ltM hnn (by decide)) ?_
            refine w_iconst (v := 0) ok dX12_ahead_78 (by decide) ?_
            refine w_cV (As := [.ref 163, .int 0]) ok dX12_ahead_79 iX12_sumOf (lX12_469 rfl) (rcv cls12 (congrArg Prod.fst s_130)) (ltM hnn (by decide)) (c_X12_sumOf ro hnn hf 0 s_163 (ltM hnn (by decide)) (sdm hf (by decide)) (sh_len s_163) (hp3 c1 c2 c3 c4 c5)) (by decide) rfl (Nat.le_of_ble_eq_true rfl) ?_
            show WK K 0 0 82 [(0, .ref 130), (1, .int a0), (2, .int a1)] [.int (F_X12_sumOf 163 184 0 (FI_X12_runs a0 (u2 I 130 0 0) J) (FJ_X12_runs a0 (u2 I 130 0 0) J)), .int (F_X12_sumOf 163 184 1 (FI_X12_runs a0 (u2 I 130 0 0) J) (FJ_X12_runs a0 (u2 I 130 0 0) J))] (eI f (FI_X12_runs a0 (u2 I 130 0 0) J)) (eJ f (FJ_X12_runs a0 (u2 I 130 0 0) J)) R n g
            refine w_isub ok dX12_ahead_82 ?_
            show WK K 0 0 83 [(0, .ref 130), (1, .int a0), (2, .int a1)] [.int (S1_X12_ahead a0 a1 I J)] (eI f (FI_X12_runs a0 (u2 I 130 0 0) J)) (eJ f (FJ_X12_runs a0 (u2 I 130 0 0) J)) R n g
            exact w_iret ok fin dX12_ahead_83 rfl (by unfold F_X12_ahead FI_X12_ahead FJ_X12_ahead; simp only [if_neg c1]; simp only [if_neg c2]; simp only [if_neg c3]; simp only [if_pos c4]; simp only [if_pos c5]; exact Pd.i)
          · skip
            by_cases c6 : a1 = 1
            · skip
              refine w_tabIn (tgt := 84) (off := 52) ok dX12_ahead_32 (by rw [c6]; decide) (by rw [c6]; decide) (by rw [c6]; rfl) (by decide) ?_
              refine w_aload_n ok dX12_ahead_84 0 rfl ?_
              refine w_getR ok dX12_ahead_85 (fX12_93 rfl) (congrArg Prod.fst s_130) rfl (r_130_42 ro) (ltM hnn (by decide)) ?_
              refine w_iconst (v := 1) ok dX12_ahead_88 (by decide) ?_
              refine y_iald (q := 1) ok dX12_ahead_89 s_157 (by decide) (by decide) (ltM hnn (by decide)) (sdm hf (by decide)) ?_
              refine w_aload_n ok dX12_ahead_90 0 rfl ?_
              refine w_getR ok dX12_ahead_91 (fX12_93 rfl) (congrArg Prod.fst s_130) rfl (r_130_42 ro) (ltM hnn (by decide)) ?_
              refine w_iconst (v := 0) ok dX12_ahead_94 (by decide) ?_
              refine y_iald (q := 0) ok dX12_ahead_95 s_157 (by decide) (by decide) (ltM hnn (by decide)) (sdm hf (by decide)) ?_
              refine w_isub ok dX12_ahead_96 ?_
              exact w_iret ok fin dX12_ahead_97 rfl (by unfold F_X12_ahead FI_X12_ahead FJ_X12_ahead; simp only [if_neg c1]; simp only [if_neg c2]; simp only [if_neg c3]; simp only [if_pos c4]; simp only [if_neg c5]; simp only [if_pos c6]; exact Pd.i)
            · skip
              by_cases c7 : a1 = 2
              · skip
                refine w_tabIn (tgt := 98) (off := 66) ok dX12_ahead_32 (by rw [c7]; decide) (by rw [c7]; decide) (by rw [c7]; rfl) (by decide) ?_
                refine w_aload_n ok dX12_ahead_98 0 rfl ?_
                refine w_aload_n ok dX12_ahead_99 0 rfl ?_
                refine w_getR ok dX12_ahead_100 (fX12_114 rfl) (congrArg Prod.fst s_130) rfl (r_130_49 ro) (ltM hnn (by decide)) ?_
                refine w_iconst (v := 1) ok dX12_ahead_103 (by decide) ?_
                refine w_cV (As := [.ref 164, .int 1]) ok dX12_ahead_104 iX12_sumOf (lX12_469 rfl) (rcv cls12 (congrArg Prod.fst s_130)) (ltM hnn (by decide)) (c_X12_sumOf ro hnn hf 1 s_164 (ltM hnn (by decide)) (sdm hf (by decide)) (sh_len s_164) (hp4 c1 c2 c3 c4 c5 c6 c7)) (by decide) rfl (Nat.le_of_ble_eq_true rfl) ?_
                refine w_aload_n ok dX12_ahead_107 0 rfl ?_
                refine w_aload_n ok dX12_ahead_108 0 rfl ?_
                refine w_getR ok dX12_ahead_109 (fX12_114 rfl) (congrArg Prod.fst s_130) rfl (r_130_49 ro) (ltM hnn (by decide)) ?_
                refine w_iconst (v := 0) ok dX12_ahead_112 (by decide) ?_
                refine w_cV (As := [.ref 164, .int 0]) ok dX12_ahead_113 iX12_sumOf (lX12_469 rfl) (rcv cls12 (congrArg Prod.fst s_130)) (ltM hnn (by decide)) (c_X12_sumOf ro hnn hf 0 s_164 (ltM hnn (by decide)) (sdm hf (by decide)) (sh_len s_164) (hp5 c1 c2 c3 c4 c5 c6 c7)) (by decide) rfl (Nat.le_of_ble_eq_true rfl) ?_
                show WK K 0 0 116 [(0, .ref 130), (1, .int a0), (2, .int a1)] [.int (F_X12_sumOf 164 184 0 (FI_X12_runs a0 (u2 I 130 0 0) J) (FJ_X12_runs a0 (u2 I 130 0 0) J)), .int (F_X12_sumOf 164 184 1 (FI_X12_runs a0 (u2 I 130 0 0) J) (FJ_X12_runs a0 (u2 I 130 0 0) J))] (eI f (FI_X12_runs a0 (u2 I 130 0 0) J)) (eJ f (FJ_X12_runs a0 (u2 I 130 0 0) J)) R n g
                refine w_isub ok dX12_ahead_116 ?_
                show WK K 0 0 117 [(0, .ref 130), (1, .int a0), (2, .int a1)] [.int (S2_X12_ahead a0 a1 I J)] (eI f (FI_X12_runs a0 (u2 I 130 0 0) J)) (eJ f (FJ_X12_runs a0 (u2 I 130 0 0) J)) R n g
                exact w_iret ok fin dX12_ahead_117 rfl (by unfold F_X12_ahead FI_X12_ahead FJ_X12_ahead; simp only [if_neg c1]; simp only [if_neg c2]; simp only [if_neg c3]; simp only [if_pos c4]; simp only [if_neg c5]; simp only [if_neg c6]; simp only [if_pos c7]; exact Pd.i)
              · skip
                by_cases c8 : a1 = 3
                · skip
                  refine w_tabIn (tgt := 118) (off := 86) ok dX12_ahead_32 (by rw [c8]; decide) (by rw [c8]; decide) (by rw [c8]; rfl) (by decide) ?_
                  refine w_aload_n ok dX12_ahead_118 0 rfl ?_
                  refine w_getR ok dX12_ahead_119 (fX12_90 rfl) (congrArg Prod.fst s_130) rfl (r_130_41 ro) (ltM hnn (by decide)) ?_
                  refine w_iconst (v := 1) ok dX12_ahead_122 (by decide) ?_
                  refine y_iald (q := 1) ok dX12_ahead_123 s_156 (by decide) (by decide) (ltM hnn (by decide)) (sdm hf (by decide)) ?_
                  exact w_iret ok fin dX12_ahead_124 rfl (by unfold F_X12_ahead FI_X12_ahead FJ_X12_ahead; simp only [if_neg c1]; simp only [if_neg c2]; simp only [if_neg c3]; simp only [if_pos c4]; simp only [if_neg c5]; simp only [if_neg c6]; simp only [if_neg c7]; simp only [if_pos c8]; exact Pd.i)
                · skip
                  have n9 : a1.toInt ≠ 0 := ne_toInt c5
                  have n10 : a1.toInt ≠ 1 := ne_toInt c6
                  have n11 : a1.toInt ≠ 2 := ne_toInt c7
                  have n12 : a1.toInt ≠ 3 := ne_toInt c8
                  refine w_tabOut (tgt := 125) ok dX12_ahead_32 (by omega) (by decide) ?_
                  refine w_aload_n ok dX12_ahead_125 0 rfl ?_
                  refine w_iconst (v := 1) ok dX12_ahead_126 (by decide) ?_
                  refine w_cV (As := [.int 1]) ok dX12_ahead_127 iX12_clashesAll (lX12_473 rfl) (rcv cls12 (congrArg Prod.fst s_130)) (ltM hnn (by decide)) (c_X12_clashesAll ro hnn hf 1  (hp6 c1 c2 c3 c4 c5 c6 c7 c8)) (by decide) rfl (Nat.le_of_ble_eq_true rfl) ?_
                  exact w_iret ok fin dX12_ahead_130 rfl (by unfold F_X12_ahead FI_X12_ahead FJ_X12_ahead; simp only [if_neg c1]; simp only [if_neg c2]; simp only [if_neg c3]; simp only [if_pos c4]; simp only [if_neg c5]; simp only [if_neg c6]; simp only [if_neg c7]; simp only [if_neg c8]; exact Pd.i)
        · skip
          refine w_iconst (v := (-1)) ok dX12_ahead_24 (by decide) ?_
          exact w_iret ok fin dX12_ahead_25 rfl (by unfold F_X12_ahead FI_X12_ahead FJ_X12_ahead; simp only [if_neg c1]; simp only [if_neg c2]; simp only [if_neg c3]; simp only [if_neg c4]; exact Pd.i)
def B_X12_breaksOf_l39 (a0 : Int32) (a1 : Int32) (I : SI) (J : SJ) (i39 : Nat) (s39 : Int32) : Int32 := if (F_X12_wayIn a0 a1 (nI i39) I J) = (-1) then (s39 + 0) else (if (F_X12_wayIn a0 (a1 + 1) (nI i39) I J) = (-1) then (s39 + 0) else (if (F_X12_wayIn a0 a1 (nI i39) I J) = (F_X12_wayIn a0 (a1 + 1) (nI i39) I J) then (s39 + 0) else (s39 + 1)))
def F_X12_breaksOf_l39 (a0 : Int32) (a1 : Int32) (I : SI) (J : SJ) (s0 : Int32) : Int32 := itN (B_X12_breaksOf_l39 a0 a1 I J) ((I 132 0).toNatClampNeg) s0
def F_X12_breaksOf (a0 : Int32) (a1 : Int32) (I : SI) (J : SJ) : Int32 := if (I 132 1) ≤ (a1 + 1) then 0 else (if (F_X12_isDone a0 a1 I J) = 0 then 0 else (if (F_X12_isDone a0 (a1 + 1) I J) = 0 then 0 else (F_X12_breaksOf_l39 a0 a1 I J 0)))
def H_X12_breaksOf (a0 : Int32) (a1 : Int32) (I : SI) (J : SJ) : Prop := (¬ ((I 132 1) ≤ (a1 + 1)) → H_X12_isDone a0 a1 I J) ∧ (¬ ((I 132 1) ≤ (a1 + 1)) → ¬ ((F_X12_isDone a0 a1 I J) = 0) → H_X12_isDone a0 (a1 + 1) I J) ∧ (¬ ((I 132 1) ≤ (a1 + 1)) → ¬ ((F_X12_isDone a0 a1 I J) = 0) → ¬ ((F_X12_isDone a0 (a1 + 1) I J) = 0) → ∀ (i39 : Nat) (s39 : Int32), i39 < (I 132 0).toNatClampNeg → s39 = itN (B_X12_breaksOf_l39 a0 a1 I J) i39 0 → H_X12_wayIn a0 a1 (nI i39) I J) ∧ (¬ ((I 132 1) ≤ (a1 + 1)) → ¬ ((F_X12_isDone a0 a1 I J) = 0) → ¬ ((F_X12_isDone a0 (a1 + 1) I J) = 0) → ∀ (i39 : Nat) (s39 : Int32), i39 < (I 132 0).toNatClampNeg → s39 = itN (B_X12_breaksOf_l39 a0 a1 I J) i39 0 → H_X12_wayIn a0 (a1 + 1) (nI i39) I J)
set_option maxHeartbeats 1370000 in
set_option maxRecDepth 40000 in
theorem c_X12_breaksOf {I : SI} {J : SJ} {R : SR} {n g : Nat} {f : Fr} (ro : RM R) (hnn : nM ≤ n) (hf : f.1 = false) (a0 : Int32) (a1 : Int32)  (hp : H_X12_breaksOf a0 a1 I J) : MM 1 0 0 mX12_breaksOf [.ref 130, .int a0, .int a1] (eI f I) (eJ f J) R n g (Pd (some (.int (F_X12_breaksOf a0 a1 I J))) (eI f I) (eJ f J) R n g) := by
  refine MM.of (by decide) (Nat.le_of_ble_eq_true rfl) fun K ok fin => ?_
  show WK K 0 0 0 [(0, .ref 130), (1, .int a0), (2, .int a1)] [] (eI f I) (eJ f J) R n g
  obtain ⟨hp1, hp2, hp3, hp4⟩ := hp
  refine w_iload_n ok dX12_breaksOf_0 2 rfl ?_
  refine w_iconst (v := 1) ok dX12_breaksOf_1 (by decide) ?_
  refine w_iadd ok dX12_breaksOf_2 ?_
  refine w_aload_n ok dX12_breaksOf_3 0 rfl ?_
  refine w_getR ok dX12_breaksOf_4 (fX12_13 rfl) (congrArg Prod.fst s_130) rfl (r_130_3 ro) (ltM hnn (by decide)) ?_
  refine w_iconst (v := 1) ok dX12_breaksOf_7 (by decide) ?_
  refine y_iald (q := 1) ok dX12_breaksOf_8 s_132 (by decide) (by decide) (ltM hnn (by decide)) (sdm hf (by decide)) ?_
  refine w_icmp_ge (tgt := 32) ok dX12_breaksOf_9 (by decide) (fun c1 => ?_) (fun c1 => ?_)
  · skip
    refine w_iconst (v := 0) ok dX12_breaksOf_32 (by decide) ?_
    exact w_iret ok fin dX12_breaksOf_33 rfl (by unfold F_X12_breaksOf; simp only [if_pos c1]; exact Pd.i)
  · skip
    refine w_aload_n ok dX12_breaksOf_12 0 rfl ?_
    refine w_iload_n ok dX12_breaksOf_13 1 rfl ?_
    refine w_iload_n ok dX12_breaksOf_14 2 rfl ?_
    refine w_cV (As := [.int a0, .int a1]) ok dX12_breaksOf_15 iX12_isDone (lX12_367 rfl) (rcv cls12 (congrArg Prod.fst s_130)) (ltM hnn (by decide)) (c_X12_isDone ro hnn hf a0 a1  (hp1 c1)) (by decide) rfl (Nat.le_of_ble_eq_true rfl) ?_
    refine w_if_eq (tgt := 32) ok dX12_breaksOf_18 (by decide) (fun c2 => ?_) (fun c2 => ?_)
    · skip
      refine w_iconst (v := 0) ok dX12_breaksOf_32 (by decide) ?_
      exact w_iret ok fin dX12_breaksOf_33 rfl (by unfold F_X12_breaksOf; simp only [if_neg c1]; simp only [if_pos c2]; exact Pd.i)
    · skip
      refine w_aload_n ok dX12_breaksOf_21 0 rfl ?_
      refine w_iload_n ok dX12_breaksOf_22 1 rfl ?_
      refine w_iload_n ok dX12_breaksOf_23 2 rfl ?_
      refine w_iconst (v := 1) ok dX12_breaksOf_24 (by decide) ?_
      refine w_iadd ok dX12_breaksOf_25 ?_
      refine w_cV (As := [.int a0, .int (a1 + 1)]) ok dX12_breaksOf_26 iX12_isDone (lX12_367 rfl) (rcv cls12 (congrArg Prod.fst s_130)) (ltM hnn (by decide)) (c_X12_isDone ro hnn hf a0 (a1 + 1)  (hp2 c1 c2)) (by decide) rfl (Nat.le_of_ble_eq_true rfl) ?_
      refine w_if_ne (tgt := 34) ok dX12_breaksOf_29 (by decide) (fun c3 => ?_) (fun c3 => ?_)
      · skip
        refine w_iconst (v := 0) ok dX12_breaksOf_34 (by decide) ?_
        refine w_istore_n ok dX12_breaksOf_35 rfl (by decide) rfl ?_
        refine w_iconst (v := 0) ok dX12_breaksOf_36 (by decide) ?_
        refine w_istore ok dX12_breaksOf_37 (by decide) rfl ?_
        refine w_loc [2, 3, 4, 1, 0] rfl ?_
        refine loop_for (σ := Int32) (fun (i39 : Nat) (s39 : Int32) => WK K 0 0 39 [(0, .ref 130), (1, .int a0), (2, .int a1), (3, .int s39), (4, .int (nI i39))] [] (eI f I) (eJ f J) R n g) (B_X12_breaksOf_l39 a0 a1 I J) ((I 132 0).toNatClampNeg) (0) ?_ ?_
        · show WK K 0 0 39 [(0, .ref 130), (1, .int a0), (2, .int a1), (3, .int (F_X12_breaksOf_l39 a0 a1 I J 0)), (4, .int (nI ((I 132 0).toNatClampNeg)))] [] (eI f I) (eJ f J) R n g
          have e4 : (I 132 0) ≤ (nI ((I 132 0).toNatClampNeg)) := cnt_ge _
          refine w_iload ok dX12_breaksOf_39 4 rfl ?_
          refine w_aload_n ok dX12_breaksOf_41 0 rfl ?_
          refine w_getR ok dX12_breaksOf_42 (fX12_13 rfl) (congrArg Prod.fst s_130) rfl (r_130_3 ro) (ltM hnn (by decide)) ?_
          refine w_iconst (v := 0) ok dX12_breaksOf_45 (by decide) ?_
          refine y_iald (q := 0) ok dX12_breaksOf_46 s_132 (by decide) (by decide) (ltM hnn (by decide)) (sdm hf (by decide)) ?_
          refine w_icmp_ge (tgt := 105) ok dX12_breaksOf_47 (by decide) (fun _ => ?_) (fun h => absurd e4 h)
          refine w_iload_n ok dX12_breaksOf_105 3 rfl ?_
          exact w_iret ok fin dX12_breaksOf_106 rfl (by unfold F_X12_breaksOf; simp only [if_neg c1]; simp only [if_neg c2]; simp only [if_neg c3]; exact Pd.i)
        · intro i39 s39 hi39 hs39 k39
          show WK K 0 0 39 [(0, .ref 130), (1, .int a0), (2, .int a1), (3, .int s39), (4, .int (nI i39))] [] (eI f I) (eJ f J) R n g
          have e5 : ¬ ((I 132 0) ≤ (nI i39)) := cnt_lt hi39
          refine w_iload ok dX12_breaksOf_39 4 rfl ?_
          refine w_aload_n ok dX12_breaksOf_41 0 rfl ?_
          refine w_getR ok dX12_breaksOf_42 (fX12_13 rfl) (congrArg Prod.fst s_130) rfl (r_130_3 ro) (ltM hnn (by decide)) ?_
          refine w_iconst (v := 0) ok dX12_breaksOf_45 (by decide) ?_
          refine y_iald (q := 0) ok dX12_breaksOf_46 s_132 (by decide) (by decide) (ltM hnn (by decide)) (sdm hf (by decide)) ?_
          refine w_icmp_ge (tgt := 105) ok dX12_breaksOf_47 (by decide) (fun h => absurd h e5) (fun _ => ?_)
          refine w_aload_n ok dX12_breaksOf_50 0 rfl ?_
          refine w_iload_n ok dX12_breaksOf_51 1 rfl ?_
          refine w_iload_n ok dX12_breaksOf_52 2 rfl ?_
          refine w_iload ok dX12_breaksOf_53 4 rfl ?_
          refine w_cV (As := [.int a0, .int a1, .int (nI i39)]) ok dX12_breaksOf_55 iX12_wayIn (lX12_371 rfl) (rcv cls12 (congrArg Prod.fst s_130)) (ltM hnn (by decide)) (c_X12_wayIn ro hnn hf a0 a1 (nI i39)  (hp3 c1 c2 c3 i39 s39 hi39 hs39)) (by decide) rfl (Nat.le_of_ble_eq_true rfl) ?_
          refine w_istore ok dX12_breaksOf_58 (by decide) rfl ?_
          refine w_aload_n ok dX12_breaksOf_60 1 rfl ?_
          refine w_iload_n ok dX12_breaksOf_61 2 rfl ?_
          refine w_iload_n ok dX12_breaksOf_62 3 rfl ?_
          refine w_iconst (v := 1) ok dX12_breaksOf_63 (by decide) ?_
          refine w_iadd ok dX12_breaksOf_64 ?_
          refine w_iload ok dX12_breaksOf_65 5 rfl ?_
          refine w_cV (As := [.int a0, .int (a1 + 1), .int (nI i39)]) ok dX12_breaksOf_67 iX12_wayIn (lX12_371 rfl) (rcv cls12 (congrArg Prod.fst s_130)) (ltM hnn (by decide)) (c_X12_wayIn ro hnn hf a0 (a1 + 1) (nI i39)  (hp4 c1 c2 c3 i39 s39 hi39 hs39)) (by decide) rfl (Nat.le_of_ble_eq_true rfl) ?_
          refine w_istore ok dX12_breaksOf_70 (by decide) rfl ?_
          refine w_iload_n ok dX12_breaksOf_72 5 rfl ?_
          refine w_iload ok dX12_breaksOf_73 1 rfl ?_
          refine w_iconst (v := (-1)) ok dX12_breaksOf_75 (by decide) ?_
          refine w_icmp_eq (tgt := 96) ok dX12_breaksOf_76 (by decide) (fun c6 => ?_) (fun c6 => ?_)
          · skip
            refine w_iconst (v := 0) ok dX12_breaksOf_96 (by decide) ?_
            refine w_iadd ok dX12_breaksOf_97 ?_
            refine w_istore_n ok dX12_breaksOf_98 rfl (by decide) rfl ?_
            refine w_iinc (v := (nI i39) + 1) ok dX12_breaksOf_99 6 rfl rfl (by decide) rfl ?_
            refine w_goto (tgt := 39) ok dX12_breaksOf_102 (by decide) ?_
            have eB : B_X12_breaksOf_l39 a0 a1 I J i39 s39 = (s39 + 0) := by
              unfold B_X12_breaksOf_l39; exact (if_pos c6).trans (rfl)
            have kk := k39
            rw [eB] at kk
            refine w_loc [4, 5, 6, 1, 0] rfl ?_
            rw [nI_1 i39]
            exact kk
          · skip
            refine w_iload ok dX12_breaksOf_79 0 rfl ?_
            refine w_iconst (v := (-1)) ok dX12_breaksOf_81 (by decide) ?_
            refine w_icmp_eq (tgt := 96) ok dX12_breaksOf_82 (by decide) (fun c7 => ?_) (fun c7 => ?_)
            · skip
              refine w_iconst (v := 0) ok dX12_breaksOf_96 (by decide) ?_
              refine w_iadd ok dX12_breaksOf_97 ?_
              refine w_istore_n ok dX12_breaksOf_98 rfl (by decide) rfl ?_
              refine w_iinc (v := (nI i39) + 1) ok dX12_breaksOf_99 6 rfl rfl (by decide) rfl ?_
              refine w_goto (tgt := 39) ok dX12_breaksOf_102 (by decide) ?_
              have eB : B_X12_breaksOf_l39 a0 a1 I J i39 s39 = (s39 + 0) := by
                unfold B_X12_breaksOf_l39; exact (if_neg c6).trans ((if_pos c7).trans (rfl))
              have kk := k39
              rw [eB] at kk
              refine w_loc [4, 5, 6, 1, 0] rfl ?_
              rw [nI_1 i39]
              exact kk
            · skip
              refine w_iload ok dX12_breaksOf_85 1 rfl ?_
              refine w_iload ok dX12_breaksOf_87 0 rfl ?_
              refine w_icmp_eq (tgt := 96) ok dX12_breaksOf_89 (by decide) (fun c8 => ?_) (fun c8 => ?_)
              · skip
                refine w_iconst (v := 0) ok dX12_breaksOf_96 (by decide) ?_
                refine w_iadd ok dX12_breaksOf_97 ?_
                refine w_istore_n ok dX12_breaksOf_98 rfl (by decide) rfl ?_
                refine w_iinc (v := (nI i39) + 1) ok dX12_breaksOf_99 6 rfl rfl (by decide) rfl ?_
                refine w_goto (tgt := 39) ok dX12_breaksOf_102 (by decide) ?_
                have eB : B_X12_breaksOf_l39 a0 a1 I J i39 s39 = (s39 + 0) := by
                  unfold B_X12_breaksOf_l39; exact (if_neg c6).trans ((if_neg c7).trans ((if_pos c8).trans (rfl)))
                have kk := k39
                rw [eB] at kk
                refine w_loc [4, 5, 6, 1, 0] rfl ?_
                rw [nI_1 i39]
                exact kk
              · skip
                refine w_iconst (v := 1) ok dX12_breaksOf_92 (by decide) ?_
                refine w_goto (tgt := 97) ok dX12_breaksOf_93 (by decide) ?_
                refine w_iadd ok dX12_breaksOf_97 ?_
                refine w_istore_n ok dX12_breaksOf_98 rfl (by decide) rfl ?_
                refine w_iinc (v := (nI i39) + 1) ok dX12_breaksOf_99 6 rfl rfl (by decide) rfl ?_
                refine w_goto (tgt := 39) ok dX12_breaksOf_102 (by decide) ?_
                have eB : B_X12_breaksOf_l39 a0 a1 I J i39 s39 = (s39 + 1) := by
                  unfold B_X12_breaksOf_l39; exact (if_neg c6).trans ((if_neg c7).trans ((if_neg c8).trans (rfl)))
                have kk := k39
                rw [eB] at kk
                refine w_loc [4, 5, 6, 1, 0] rfl ?_
                rw [nI_1 i39]
                exact kk
      · skip
        refine w_iconst (v := 0) ok dX12_breaksOf_32 (by decide) ?_
        exact w_iret ok fin dX12_breaksOf_33 rfl (by unfold F_X12_breaksOf; simp only [if_neg c1]; simp only [if_neg c2]; simp only [if_pos c3]; exact Pd.i)
def B_X12_breaksAll_l4 (a0 : Int32) (I : SI) (J : SJ) (i4 : Nat) (s4 : Int32) : Int32 := (s4 + (F_X12_breaksOf a0 (nI i4) I J))
def F_X12_breaksAll_l4 (a0 : Int32) (I : SI) (J : SJ) (s0 : Int32) : Int32 := itN (B_X12_breaksAll_l4 a0 I J) ((I 132 1).toNatClampNeg) s0
def F_X12_breaksAll (a0 : Int32) (I : SI) (J : SJ) : Int32 := (F_X12_breaksAll_l4 a0 I J 0)
def H_X12_breaksAll (a0 : Int32) (I : SI) (J : SJ) : Prop := (∀ (i4 : Nat) (s4 : Int32), i4 < (I 132 1).toNatClampNeg → s4 = itN (B_X12_breaksAll_l4 a0 I J) i4 0 → H_X12_breaksOf a0 (nI i4) I J)
set_option maxHeartbeats 1000000 in
set_option maxRecDepth 40000 in
theorem c_X12_breaksAll {I : SI} {J : SJ} {R : SR} {n g : Nat} {f : Fr} (ro : RM R) (hnn : nM ≤ n) (hf : f.1 = false) (a0 : Int32)  (hp : H_X12_breaksAll a0 I J) : MM 2 0 0 mX12_breaksAll [.ref 130, .int a0] (eI f I) (eJ f J) R n g (Pd (some (.int (F_X12_breaksAll a0 I J))) (eI f I) (eJ f J) R n g) := by
  refine MM.of (by decide) (Nat.le_of_ble_eq_true rfl) fun K ok fin => ?_
  show WK K 0 0 0 [(0, .ref 130), (1, .int a0)] [] (eI f I) (eJ f J) R n g
  have hp1 := hp
  refine w_iconst (v := 0) ok dX12_breaksAll_0 (by decide) ?_
  refine w_istore_n ok dX12_breaksAll_1 rfl (by decide) rfl ?_
  refine w_iconst (v := 0) ok dX12_breaksAll_2 (by decide) ?_
  refine w_istore_n ok dX12_breaksAll_3 rfl (by decide) rfl ?_
  refine w_loc [2, 3, 1, 0] rfl ?_
  refine loop_for (σ := Int32) (fun (i4 : Nat) (s4 : Int32) => WK K 0 0 4 [(0, .ref 130), (1, .int a0), (2, .int s4), (3, .int (nI i4))] [] (eI f I) (eJ f J) R n g) (B_X12_breaksAll_l4 a0 I J) ((I 132 1).toNatClampNeg) (0) ?_ ?_
  · show WK K 0 0 4 [(0, .ref 130), (1, .int a0), (2, .int (F_X12_breaksAll_l4 a0 I J 0)), (3, .int (nI ((I 132 1).toNatClampNeg)))] [] (eI f I) (eJ f J) R n g
    have e1 : (I 132 1) ≤ (nI ((I 132 1).toNatClampNeg)) := cnt_ge _
    refine w_iload_n ok dX12_breaksAll_4 3 rfl ?_
    refine w_aload_n ok dX12_breaksAll_5 0 rfl ?_
    refine w_getR ok dX12_breaksAll_6 (fX12_13 rfl) (congrArg Prod.fst s_130) rfl (r_130_3 ro) (ltM hnn (by decide)) ?_
    refine w_iconst (v := 1) ok dX12_breaksAll_9 (by decide) ?_
    refine y_iald (q := 1) ok dX12_breaksAll_10 s_132 (by decide) (by decide) (ltM hnn (by decide)) (sdm hf (by decide)) ?_
    refine w_icmp_ge (tgt := 29) ok dX12_breaksAll_11 (by decide) (fun _ => ?_) (fun h => absurd e1 h)
    refine w_iload_n ok dX12_breaksAll_29 2 rfl ?_
    exact w_iret ok fin dX12_breaksAll_30 rfl (by unfold F_X12_breaksAll; exact Pd.i)
  · intro i4 s4 hi4 hs4 k4
    show WK K 0 0 4 [(0, .ref 130), (1, .int a0), (2, .int s4), (3, .int (nI i4))] [] (eI f I) (eJ f J) R n g
    have e2 : ¬ ((I 132 1) ≤ (nI i4)) := cnt_lt hi4
    refine w_iload_n ok dX12_breaksAll_4 3 rfl ?_
    refine w_aload_n ok dX12_breaksAll_5 0 rfl ?_
    refine w_getR ok dX12_breaksAll_6 (fX12_13 rfl) (congrArg Prod.fst s_130) rfl (r_130_3 ro) (ltM hnn (by decide)) ?_
    refine w_iconst (v := 1) ok dX12_breaksAll_9 (by decide) ?_
    refine y_iald (q := 1) ok dX12_breaksAll_10 s_132 (by decide) (by decide) (ltM hnn (by decide)) (sdm hf (by decide)) ?_
    refine w_icmp_ge (tgt := 29) ok dX12_breaksAll_11 (by decide) (fun h => absurd h e2) (fun _ => ?_)
    refine w_iload_n ok dX12_breaksAll_14 2 rfl ?_
    refine w_aload_n ok dX12_breaksAll_15 0 rfl ?_
    refine w_iload_n ok dX12_breaksAll_16 1 rfl ?_
    refine w_iload_n ok dX12_breaksAll_17 3 rfl ?_
    refine w_cV (As := [.int a0, .int (nI i4)]) ok dX12_breaksAll_18 iX12_breaksOf (lX12_476 rfl) (rcv cls12 (congrArg Prod.fst s_130)) (ltM hnn (by decide)) (c_X12_breaksOf ro hnn hf a0 (nI i4)  (hp1 i4 s4 hi4 hs4)) (by decide) rfl (Nat.le_of_ble_eq_true rfl) ?_
    show WK K 0 0 21 [(0, .ref 130), (1, .int a0), (2, .int s4), (3, .int (nI i4))] [.int (F_X12_breaksOf a0 (nI i4) I J), .int s4] (eI f I) (eJ f J) R n g
    refine w_iadd ok dX12_breaksAll_21 ?_
    refine w_istore_n ok dX12_breaksAll_22 rfl (by decide) rfl ?_
    refine w_iinc (v := (nI i4) + 1) ok dX12_breaksAll_23 3 rfl rfl (by decide) rfl ?_
    refine w_goto (tgt := 4) ok dX12_breaksAll_26 (by decide) ?_
    have eB : B_X12_breaksAll_l4 a0 I J i4 s4 = (s4 + (F_X12_breaksOf a0 (nI i4) I J)) := by
      unfold B_X12_breaksAll_l4; exact rfl
    have kk := k4
    rw [eB] at kk
    refine w_loc [2, 3, 1, 0] rfl ?_
    rw [nI_1 i4]
    exact kk
def F_X12_breaks  (I : SI) (J : SJ) : Int32 := F_X12_breaksAll 0 (u2 I 130 0 0) J
def FI_X12_breaks  (I : SI) (J : SJ) : SI := u2 I 130 0 0
def H_X12_breaks  (I : SI) (J : SJ) : Prop := (H_X12_breaksAll 0 (u2 I 130 0 0) J)
set_option maxHeartbeats 1000000 in
set_option maxRecDepth 40000 in
theorem c_X12_breaks {I : SI} {J : SJ} {R : SR} {n g : Nat} {f : Fr} (ro : RM R) (hnn : nM ≤ n) (hf : f.1 = false)   (hp : H_X12_breaks  I J) : MM 3 0 0 mX12_breaks [.ref 130] (eI f I) (eJ f J) R n g (Pd (some (.int (F_X12_breaks  I J))) (eI f (FI_X12_breaks  I J)) (eJ f J) R n g) := by
  refine MM.of (by decide) (Nat.le_of_ble_eq_true rfl) fun K ok fin => ?_
  show WK K 0 0 0 [(0, .ref 130)] [] (eI f I) (eJ f J) R n g
  have hp1 := hp
  refine w_aload_n ok dX12_breaks_0 0 rfl ?_
  refine w_iconst (v := 0) ok dX12_breaks_1 (by decide) ?_
  refine y_putI ok dX12_breaks_2 (fwX12_169 rfl) (congrArg Prod.fst s_130) rfl (ltM hnn (by decide)) (sdm hf (by decide)) ?_
  refine w_aload_n ok dX12_breaks_5 0 rfl ?_
  refine w_iconst (v := 0) ok dX12_breaks_6 (by decide) ?_
  refine w_cV (As := [.int 0]) ok dX12_breaks_7 iX12_breaksAll (lX12_479 rfl) (rcv cls12 (congrArg Prod.fst s_130)) (ltM hnn (by decide)) (c_X12_breaksAll ro hnn hf 0  (hp1)) (by decide) rfl (Nat.le_of_ble_eq_true rfl) ?_
  exact w_iret ok fin dX12_breaks_10 rfl (by unfold F_X12_breaks FI_X12_breaks; exact Pd.i)
def B_X12_agrees_l13_4 (I : SI) (J : SJ) (i13 : Nat) (s13 : SI × SJ) : (SI × SJ) ⊕ (Int32 × SI × SJ) := if (F_X12_sumOf 163 184 1 s13.1 s13.2) = (s13.1 132 1) then (if (F_X12_clashesAll 1 s13.1 s13.2) = 0 then .inr ((nI i13), s13.1, s13.2) else .inl ((FI_X12_passes 1 0 s13.1 s13.2), (FJ_X12_passes 1 0 s13.1 s13.2))) else .inl ((FI_X12_passes 1 0 s13.1 s13.2), (FJ_X12_passes 1 0 s13.1 s13.2))
def F_X12_agrees_l13_4 (I : SI) (J : SJ) (s0 : SI × SJ) : (SI × SJ) ⊕ (Int32 × SI × SJ) := itE (B_X12_agrees_l13_4 I J) (100) 0 s0
def F_X12_agrees  (I : SI) (J : SJ) : Int32 := (match (F_X12_agrees_l13_4 I J ((FI_X12_copies 1 0 (u2 I 130 0 0) J), J)) with | .inl se13 => -2 | .inr re13 => re13.1)
def FI_X12_agrees  (I : SI) (J : SJ) : SI := (match (F_X12_agrees_l13_4 I J ((FI_X12_copies 1 0 (u2 I 130 0 0) J), J)) with | .inl se13 => se13.1 | .inr re13 => re13.2.1)
def FJ_X12_agrees  (I : SI) (J : SJ) : SJ := (match (F_X12_agrees_l13_4 I J ((FI_X12_copies 1 0 (u2 I 130 0 0) J), J)) with | .inl se13 => se13.2 | .inr re13 => re13.2.2)
def H_X12_agrees  (I : SI) (J : SJ) : Prop := (H_X12_copies 1 0 (u2 I 130 0 0) J) ∧ (∀ (i13 : Nat) (s13 : SI × SJ), i13 < 100 → itE (B_X12_agrees_l13_4 I J) i13 0 ((FI_X12_copies 1 0 (u2 I 130 0 0) J), J) = .inl s13 → H_X12_sumOf 163 184 1 s13.1 s13.2) ∧ (∀ (i13 : Nat) (s13 : SI × SJ), i13 < 100 → itE (B_X12_agrees_l13_4 I J) i13 0 ((FI_X12_copies 1 0 (u2 I 130 0 0) J), J) = .inl s13 → ¬ ((F_X12_sumOf 163 184 1 s13.1 s13.2) = (s13.1 132 1)) → H_X12_passes 1 0 s13.1 s13.2) ∧ (∀ (i13 : Nat) (s13 : SI × SJ), i13 < 100 → itE (B_X12_agrees_l13_4 I J) i13 0 ((FI_X12_copies 1 0 (u2 I 130 0 0) J), J) = .inl s13 → (F_X12_sumOf 163 184 1 s13.1 s13.2) = (s13.1 132 1) → H_X12_clashesAll 1 s13.1 s13.2) ∧ (∀ (i13 : Nat) (s13 : SI × SJ), i13 < 100 → itE (B_X12_agrees_l13_4 I J) i13 0 ((FI_X12_copies 1 0 (u2 I 130 0 0) J), J) = .inl s13 → (F_X12_sumOf 163 184 1 s13.1 s13.2) = (s13.1 132 1) → ¬ ((F_X12_clashesAll 1 s13.1 s13.2) = 0) → H_X12_passes 1 0 s13.1 s13.2)
set_option maxHeartbeats 1000000 in
set_option maxRecDepth 40000 in
theorem c_X12_agrees {I : SI} {J : SJ} {R : SR} {n g : Nat} {f : Fr} (ro : RM R) (hnn : nM ≤ n) (hf : f.1 = false)   (hp : H_X12_agrees  I J) : MM 7 0 0 mX12_agrees [.ref 130] (eI f I) (eJ f J) R n g (Pd (some (.int (F_X12_agrees  I J))) (eI f (FI_X12_agrees  I J)) (eJ f (FJ_X12_agrees  I J)) R n g) := by
  refine MM.of (by decide) (Nat.le_of_ble_eq_true rfl) fun K ok fin => ?_
  show WK K 0 0 0 [(0, .ref 130)] [] (eI f I) (eJ f J) R n g
  obtain ⟨hp1, hp2, hp3, hp4, hp5⟩ := hp
  refine w_aload_n ok dX12_agrees_0 0 rfl ?_
  refine w_iconst (v := 0) ok dX12_agrees_1 (by decide) ?_
  refine y_putI ok dX12_agrees_2 (fwX12_169 rfl) (congrArg Prod.fst s_130) rfl (ltM hnn (by decide)) (sdm hf (by decide)) ?_
  refine w_aload_n ok dX12_agrees_5 0 rfl ?_
  refine w_iconst (v := 1) ok dX12_agrees_6 (by decide) ?_
  refine w_iconst (v := 0) ok dX12_agrees_7 (by decide) ?_
  refine w_cV (As := [.int 1, .int 0]) ok dX12_agrees_8 iX12_copies (lX12_444 rfl) (rcv cls12 (congrArg Prod.fst s_130)) (ltM hnn (by decide)) (c_X12_copies ro hnn hf 1 0  (hp1)) (by decide) rfl (Nat.le_of_ble_eq_true rfl) ?_
  refine w_iconst (v := 0) ok dX12_agrees_11 (by decide) ?_
  refine w_istore_n ok dX12_agrees_12 rfl (by decide) rfl ?_
  refine w_loc [1, 0] rfl ?_
  refine loop_e (σ := SI × SJ) (ρ := Int32 × SI × SJ) (fun (i13 : Nat) (s13 : SI × SJ) => WK K 0 0 13 [(0, .ref 130), (1, .int (nI i13))] [] (eI f s13.1) (eJ f s13.2) R n g) (B_X12_agrees_l13_4 I J) (100) (((FI_X12_copies 1 0 (u2 I 130 0 0) J), J)) ?_ ?_
  · intro se13 he13
    have he13 : (F_X12_agrees_l13_4 I J ((FI_X12_copies 1 0 (u2 I 130 0 0) J), J)) = .inl se13 := he13
    show WK K 0 0 13 [(0, .ref 130), (1, .int (nI 100))] [] (eI f se13.1) (eJ f se13.2) R n g
    have e1 : (99 : Int32) < (nI 100) := (show nI 99 < nI 100 from nI_lt (by omega) (by decide))
    refine w_iload_n ok dX12_agrees_13 1 rfl ?_
    refine w_bipush (v := 99) ok dX12_agrees_14 (by decide) ?_
    refine w_icmp_gt (tgt := 59) ok dX12_agrees_16 (by decide) (fun _ => ?_) (fun h => absurd e1 h)
    refine w_bipush (v := (-2)) ok dX12_agrees_59 (by decide) ?_
    exact w_iret ok fin dX12_agrees_61 rfl (by unfold F_X12_agrees FI_X12_agrees FJ_X12_agrees; simp only [he13]; exact Pd.i)
  · intro i13 s13 hi13 hs13 k13 kr13
    show WK K 0 0 13 [(0, .ref 130), (1, .int (nI i13))] [] (eI f s13.1) (eJ f s13.2) R n g
    have e2 : ¬ ((99 : Int32) < (nI i13)) := (show ¬ (nI 99 < nI i13) from nI_nlt (by omega) (by decide))
    refine w_iload_n ok dX12_agrees_13 1 rfl ?_
    refine w_bipush (v := 99) ok dX12_agrees_14 (by decide) ?_
    refine w_icmp_gt (tgt := 59) ok dX12_agrees_16 (by decide) (fun h => absurd h e2) (fun _ => ?_)
    refine w_aload_n ok dX12_agrees_19 0 rfl ?_
    refine w_aload_n ok dX12_agrees_20 0 rfl ?_
    refine w_getR ok dX12_agrees_21 (fX12_111 rfl) (congrArg Prod.fst s_130) rfl (r_130_48 ro) (ltM hnn (by decide)) ?_
    refine w_iconst (v := 1) ok dX12_agrees_24 (by decide) ?_
    refine w_cV (As := [.ref 163, .int 1]) ok dX12_agrees_25 iX12_sumOf (lX12_469 rfl) (rcv cls12 (congrArg Prod.fst s_130)) (ltM hnn (by decide)) (c_X12_sumOf ro hnn hf 1 s_163 (ltM hnn (by decide)) (sdm hf (by decide)) (sh_len s_163) (hp2 i13 s13 hi13 hs13)) (by decide) rfl (Nat.le_of_ble_eq_true rfl) ?_
    refine w_aload_n ok dX12_agrees_28 0 rfl ?_
    refine w_getR ok dX12_agrees_29 (fX12_13 rfl) (congrArg Prod.fst s_130) rfl (r_130_3 ro) (ltM hnn (by decide)) ?_
    refine w_iconst (v := 1) ok dX12_agrees_32 (by decide) ?_
    refine y_iald (q := 1) ok dX12_agrees_33 s_132 (by decide) (by decide) (ltM hnn (by decide)) (sdm hf (by decide)) ?_
    refine w_icmp_ne (tgt := 47) ok dX12_agrees_34 (by decide) (fun c3 => ?_) (fun c3 => ?_)
    · skip
      refine w_aload_n ok dX12_agrees_47 0 rfl ?_
      refine w_iconst (v := 1) ok dX12_agrees_48 (by decide) ?_
      refine w_iconst (v := 0) ok dX12_agrees_49 (by decide) ?_
      refine w_cV (As := [.int 1, .int 0]) ok dX12_agrees_50 iX12_passes (lX12_440 rfl) (rcv cls12 (congrArg Prod.fst s_130)) (ltM hnn (by decide)) (c_X12_passes ro hnn hf 1 0  (hp3 i13 s13 hi13 hs13 c3)) (by decide) rfl (Nat.le_of_ble_eq_true rfl) ?_
      refine w_iinc (v := (nI i13) + 1) ok dX12_agrees_53 1 rfl rfl (by decide) rfl ?_
      refine w_goto (tgt := 13) ok dX12_agrees_56 (by decide) ?_
      have eB : B_X12_agrees_l13_4 I J i13 s13 = .inl ((FI_X12_passes 1 0 s13.1 s13.2), (FJ_X12_passes 1 0 s13.1 s13.2)) := by
        unfold B_X12_agrees_l13_4; exact (if_neg c3).trans (rfl)
      have kk := k13 _ eB
      refine w_loc [1, 0] rfl ?_
      rw [nI_1 i13]
      exact kk
    · skip
      refine w_aload_n ok dX12_agrees_37 0 rfl ?_
      refine w_iconst (v := 1) ok dX12_agrees_38 (by decide) ?_
      refine w_cV (As := [.int 1]) ok dX12_agrees_39 iX12_clashesAll (lX12_473 rfl) (rcv cls12 (congrArg Prod.fst s_130)) (ltM hnn (by decide)) (c_X12_clashesAll ro hnn hf 1  (hp4 i13 s13 hi13 hs13 c3)) (by decide) rfl (Nat.le_of_ble_eq_true rfl) ?_
      refine w_if_ne (tgt := 47) ok dX12_agrees_42 (by decide) (fun c4 => ?_) (fun c4 => ?_)
      · skip
        refine w_aload_n ok dX12_agrees_47 0 rfl ?_
        refine w_iconst (v := 1) ok dX12_agrees_48 (by decide) ?_
        refine w_iconst (v := 0) ok dX12_agrees_49 (by decide) ?_
        refine w_cV (As := [.int 1, .int 0]) ok dX12_agrees_50 iX12_passes (lX12_440 rfl) (rcv cls12 (congrArg Prod.fst s_130)) (ltM hnn (by decide)) (c_X12_passes ro hnn hf 1 0  (hp5 i13 s13 hi13 hs13 c3 c4)) (by decide) rfl (Nat.le_of_ble_eq_true rfl) ?_
        refine w_iinc (v := (nI i13) + 1) ok dX12_agrees_53 1 rfl rfl (by decide) rfl ?_
        refine w_goto (tgt := 13) ok dX12_agrees_56 (by decide) ?_
        have eB : B_X12_agrees_l13_4 I J i13 s13 = .inl ((FI_X12_passes 1 0 s13.1 s13.2), (FJ_X12_passes 1 0 s13.1 s13.2)) := by
          unfold B_X12_agrees_l13_4; exact (if_pos c3).trans ((if_neg c4).trans (rfl))
        have kk := k13 _ eB
        refine w_loc [1, 0] rfl ?_
        rw [nI_1 i13]
        exact kk
      · skip
        refine w_iload_n ok dX12_agrees_45 1 rfl ?_
        have eB : B_X12_agrees_l13_4 I J i13 s13 = .inr ((nI i13), s13.1, s13.2) := by
          unfold B_X12_agrees_l13_4; exact (if_pos c3).trans ((if_pos c4).trans (rfl))
        have hr : (F_X12_agrees_l13_4 I J ((FI_X12_copies 1 0 (u2 I 130 0 0) J), J)) = .inr ((nI i13), s13.1, s13.2) := kr13 _ eB
        exact w_iret ok fin dX12_agrees_46 rfl (by unfold F_X12_agrees FI_X12_agrees FJ_X12_agrees; simp only [hr]; exact Pd.i)
def B_X12_costNow_l19 (I : SI) (J : SJ) (i4 : Nat) (s4 : Int32) (i19 : Nat) (s19 : Int32) : Int32 := if (F_X12_wayIn 0 (nI i4) (nI i19) I J) = (-1) then (s19 ||| 0) else (if (F_X12_wayIn 0 (nI i4) (nI i19) I J) = (I 168 (nI i19).toNatClampNeg) then (s19 ||| 0) else (s19 ||| 1))
def F_X12_costNow_l19 (I : SI) (J : SJ) (i4 : Nat) (s4 : Int32) (s0 : Int32) : Int32 := itN (B_X12_costNow_l19 I J i4 s4) ((I 132 0).toNatClampNeg) s0
def B_X12_costNow_l4 (I : SI) (J : SJ) (i4 : Nat) (s4 : Int32) : Int32 := if (F_X12_costNow_l19 I J i4 s4 0) = 0 then (s4 + 0) else (if (F_X12_isDone 0 (nI i4) I J) = 0 then (s4 + 0) else (s4 + (I 137 (nI i4).toNatClampNeg)))
def F_X12_costNow_l4 (I : SI) (J : SJ) (s0 : Int32) : Int32 := itN (B_X12_costNow_l4 I J) ((I 132 1).toNatClampNeg) s0
def F_X12_costNow  (I : SI) (J : SJ) : Int32 := (F_X12_costNow_l4 I J 0)
def H_X12_costNow  (I : SI) (J : SJ) : Prop := (∀ (i4 : Nat) (s4 : Int32), i4 < (I 132 1).toNatClampNeg → s4 = itN (B_X12_costNow_l4 I J) i4 0 → ¬ ((F_X12_costNow_l19 I J i4 s4 0) = 0) → H_X12_isDone 0 (nI i4) I J) ∧ (∀ (i4 : Nat) (s4 : Int32), i4 < (I 132 1).toNatClampNeg → s4 = itN (B_X12_costNow_l4 I J) i4 0 → ¬ ((F_X12_costNow_l19 I J i4 s4 0) = 0) → ¬ ((F_X12_isDone 0 (nI i4) I J) = 0) → inR (nI i4) 16) ∧ (∀ (i4 : Nat) (s4 : Int32), i4 < (I 132 1).toNatClampNeg → s4 = itN (B_X12_costNow_l4 I J) i4 0 → ∀ (i19 : Nat) (s19 : Int32), i19 < (I 132 0).toNatClampNeg → s19 = itN (B_X12_costNow_l19 I J i4 s4) i19 0 → H_X12_wayIn 0 (nI i4) (nI i19) I J) ∧ (∀ (i4 : Nat) (s4 : Int32), i4 < (I 132 1).toNatClampNeg → s4 = itN (B_X12_costNow_l4 I J) i4 0 → ∀ (i19 : Nat) (s19 : Int32), i19 < (I 132 0).toNatClampNeg → s19 = itN (B_X12_costNow_l19 I J i4 s4) i19 0 → ¬ ((F_X12_wayIn 0 (nI i4) (nI i19) I J) = (-1)) → inR (nI i19) 6)
set_option maxHeartbeats 1590000 in
set_option maxRecDepth 40000 in
theorem c_X12_costNow {I : SI} {J : SJ} {R : SR} {n g : Nat} {f : Fr} (ro : RM R) (hnn : nM ≤ n) (hf : f.1 = false)   (hp : H_X12_costNow  I J) : MM 1 0 0 mX12_costNow [.ref 130] (eI f I) (eJ f J) R n g (Pd (some (.int (F_X12_costNow  I J))) (eI f I) (eJ f J) R n g) := by
  refine MM.of (by decide) (Nat.le_of_ble_eq_true rfl) fun K ok fin => ?_
  show WK K 0 0 0 [(0, .ref 130)] [] (eI f I) (eJ f J) R n g
  obtain ⟨hp1, hp2, hp3, hp4⟩ := hp
  refine w_iconst (v := 0) ok dX12_costNow_0 (by decide) ?_
  refine w_istore_n ok dX12_costNow_1 rfl (by decide) rfl ?_
  refine w_iconst (v := 0) ok dX12_costNow_2 (by decide) ?_
  refine w_istore_n ok dX12_costNow_3 rfl (by decide) rfl ?_
  refine w_loc [2, 1, 0] rfl ?_
  refine loop_for (σ := Int32) (fun (i4 : Nat) (s4 : Int32) => WK K 0 0 4 [(0, .ref 130), (1, .int s4), (2, .int (nI i4))] [] (eI f I) (eJ f J) R n g) (B_X12_costNow_l4 I J) ((I 132 1).toNatClampNeg) (0) ?_ ?_
  · show WK K 0 0 4 [(0, .ref 130), (1, .int (F_X12_costNow_l4 I J 0)), (2, .int (nI ((I 132 1).toNatClampNeg)))] [] (eI f I) (eJ f J) R n g
    have e1 : (I 132 1) ≤ (nI ((I 132 1).toNatClampNeg)) := cnt_ge _
    refine w_iload_n ok dX12_costNow_4 2 rfl ?_
    refine w_aload_n ok dX12_costNow_5 0 rfl ?_
    refine w_getR ok dX12_costNow_6 (fX12_13 rfl) (congrArg Prod.fst s_130) rfl (r_130_3 ro) (ltM hnn (by decide)) ?_
    refine w_iconst (v := 1) ok dX12_costNow_9 (by decide) ?_
    refine y_iald (q := 1) ok dX12_costNow_10 s_132 (by decide) (by decide) (ltM hnn (by decide)) (sdm hf (by decide)) ?_
    refine w_icmp_ge (tgt := 104) ok dX12_costNow_11 (by decide) (fun _ => ?_) (fun h => absurd e1 h)
    refine w_iload_n ok dX12_costNow_104 1 rfl ?_
    exact w_iret ok fin dX12_costNow_105 rfl (by unfold F_X12_costNow; exact Pd.i)
  · intro i4 s4 hi4 hs4 k4
    show WK K 0 0 4 [(0, .ref 130), (1, .int s4), (2, .int (nI i4))] [] (eI f I) (eJ f J) R n g
    have e2 : ¬ ((I 132 1) ≤ (nI i4)) := cnt_lt hi4
    refine w_iload_n ok dX12_costNow_4 2 rfl ?_
    refine w_aload_n ok dX12_costNow_5 0 rfl ?_
    refine w_getR ok dX12_costNow_6 (fX12_13 rfl) (congrArg Prod.fst s_130) rfl (r_130_3 ro) (ltM hnn (by decide)) ?_
    refine w_iconst (v := 1) ok dX12_costNow_9 (by decide) ?_
    refine y_iald (q := 1) ok dX12_costNow_10 s_132 (by decide) (by decide) (ltM hnn (by decide)) (sdm hf (by decide)) ?_
    refine w_icmp_ge (tgt := 104) ok dX12_costNow_11 (by decide) (fun h => absurd h e2) (fun _ => ?_)
    refine w_iconst (v := 0) ok dX12_costNow_14 (by decide) ?_
    refine w_istore_n ok dX12_costNow_15 rfl (by decide) rfl ?_
    refine w_iconst (v := 0) ok dX12_costNow_16 (by decide) ?_
    refine w_istore ok dX12_costNow_17 (by decide) rfl ?_
    refine w_loc [2, 3, 4, 1, 0] rfl ?_
    refine loop_for (σ := Int32) (fun (i19 : Nat) (s19 : Int32) => WK K 0 0 19 [(0, .ref 130), (1, .int s4), (2, .int (nI i4)), (3, .int s19), (4, .int (nI i19))] [] (eI f I) (eJ f J) R n g) (B_X12_costNow_l19 I J i4 s4) ((I 132 0).toNatClampNeg) (0) ?_ ?_
    · show WK K 0 0 19 [(0, .ref 130), (1, .int s4), (2, .int (nI i4)), (3, .int (F_X12_costNow_l19 I J i4 s4 0)), (4, .int (nI ((I 132 0).toNatClampNeg)))] [] (eI f I) (eJ f J) R n g
      have e3 : (I 132 0) ≤ (nI ((I 132 0).toNatClampNeg)) := cnt_ge _
      refine w_iload ok dX12_costNow_19 4 rfl ?_
      refine w_aload_n ok dX12_costNow_21 0 rfl ?_
      refine w_getR ok dX12_costNow_22 (fX12_13 rfl) (congrArg Prod.fst s_130) rfl (r_130_3 ro) (ltM hnn (by decide)) ?_
      refine w_iconst (v := 0) ok dX12_costNow_25 (by decide) ?_
      refine y_iald (q := 0) ok dX12_costNow_26 s_132 (by decide) (by decide) (ltM hnn (by decide)) (sdm hf (by decide)) ?_
      refine w_icmp_ge (tgt := 72) ok dX12_costNow_27 (by decide) (fun _ => ?_) (fun h => absurd e3 h)
      refine w_iload_n ok dX12_costNow_72 1 rfl ?_
      refine w_iload_n ok dX12_costNow_73 3 rfl ?_
      refine w_if_eq (tgt := 95) ok dX12_costNow_74 (by decide) (fun c4 => ?_) (fun c4 => ?_)
      · skip
        refine w_iconst (v := 0) ok dX12_costNow_95 (by decide) ?_
        refine w_iadd ok dX12_costNow_96 ?_
        refine w_istore_n ok dX12_costNow_97 rfl (by decide) rfl ?_
        refine w_iinc (v := (nI i4) + 1) ok dX12_costNow_98 2 rfl rfl (by decide) rfl ?_
        refine w_goto (tgt := 4) ok dX12_costNow_101 (by decide) ?_
        have eB : B_X12_costNow_l4 I J i4 s4 = (s4 + 0) := by
          unfold B_X12_costNow_l4; exact (if_pos c4).trans (rfl)
        have kk := k4
        rw [eB] at kk
        refine w_loc [2, 1, 0] rfl ?_
        rw [nI_1 i4]
        exact kk
      · skip
        refine w_aload_n ok dX12_costNow_77 0 rfl ?_
        refine w_iconst (v := 0) ok dX12_costNow_78 (by decide) ?_
        refine w_iload_n ok dX12_costNow_79 2 rfl ?_
        refine w_cV (As := [.int 0, .int (nI i4)]) ok dX12_costNow_80 iX12_isDone (lX12_367 rfl) (rcv cls12 (congrArg Prod.fst s_130)) (ltM hnn (by decide)) (c_X12_isDone ro hnn hf 0 (nI i4)  (hp1 i4 s4 hi4 hs4 c4)) (by decide) rfl (Nat.le_of_ble_eq_true rfl) ?_
        show WK K 0 0 83 [(0, .ref 130), (1, .int s4), (2, .int (nI i4)), (3, .int (F_X12_costNow_l19 I J i4 s4 0)), (4, .int (nI ((I 132 0).toNatClampNeg)))] [.int (F_X12_isDone 0 (nI i4) I J), .int s4] (eI f I) (eJ f J) R n g
        refine w_if_eq (tgt := 95) ok dX12_costNow_83 (by decide) (fun c5 => ?_) (fun c5 => ?_)
        · skip
          refine w_iconst (v := 0) ok dX12_costNow_95 (by decide) ?_
          refine w_iadd ok dX12_costNow_96 ?_
          refine w_istore_n ok dX12_costNow_97 rfl (by decide) rfl ?_
          refine w_iinc (v := (nI i4) + 1) ok dX12_costNow_98 2 rfl rfl (by decide) rfl ?_
          refine w_goto (tgt := 4) ok dX12_costNow_101 (by decide) ?_
          have eB : B_X12_costNow_l4 I J i4 s4 = (s4 + 0) := by
            unfold B_X12_costNow_l4; exact (if_neg c4).trans ((if_pos c5).trans (rfl))
          have kk := k4
          rw [eB] at kk
          refine w_loc [2, 1, 0] rfl ?_
          rw [nI_1 i4]
          exact kk
        · skip
          refine w_aload_n ok dX12_costNow_86 0 rfl ?_
          refine w_getR ok dX12_costNow_87 (fX12_28 rfl) (congrArg Prod.fst s_130) rfl (r_130_8 ro) (ltM hnn (by decide)) ?_
          refine w_iload_n ok dX12_costNow_90 2 rfl ?_
          refine y_iald (q := (nI i4).toNatClampNeg) ok dX12_costNow_91 s_137 (hp2 i4 s4 hi4 hs4 c4 c5) (by decide) (ltM hnn (by decide)) (sdm hf (by decide)) ?_
          refine w_goto (tgt := 96) ok dX12_costNow_92 (by decide) ?_
          refine w_iadd ok dX12_costNow_96 ?_
          refine w_istore_n ok dX12_costNow_97 rfl (by decide) rfl ?_
          refine w_iinc (v := (nI i4) + 1) ok dX12_costNow_98 2 rfl rfl (by decide) rfl ?_
          refine w_goto (tgt := 4) ok dX12_costNow_101 (by decide) ?_
          have eB : B_X12_costNow_l4 I J i4 s4 = (s4 + (I 137 (nI i4).toNatClampNeg)) := by
            unfold B_X12_costNow_l4; exact (if_neg c4).trans ((if_neg c5).trans (rfl))
          have kk := k4
          rw [eB] at kk
          refine w_loc [2, 1, 0] rfl ?_
          rw [nI_1 i4]
          exact kk
    · intro i19 s19 hi19 hs19 k19
      show WK K 0 0 19 [(0, .ref 130), (1, .int s4), (2, .int (nI i4)), (3, .int s19), (4, .int (nI i19))] [] (eI f I) (eJ f J) R n g
      have e6 : ¬ ((I 132 0) ≤ (nI i19)) := cnt_lt hi19
      refine w_iload ok dX12_costNow_19 4 rfl ?_
      refine w_aload_n ok dX12_costNow_21 0 rfl ?_
      refine w_getR ok dX12_costNow_22 (fX12_13 rfl) (congrArg Prod.fst s_130) rfl (r_130_3 ro) (ltM hnn (by decide)) ?_
      refine w_iconst (v := 0) ok dX12_costNow_25 (by decide) ?_
      refine y_iald (q := 0) ok dX12_costNow_26 s_132 (by decide) (by decide) (ltM hnn (by decide)) (sdm hf (by decide)) ?_
      refine w_icmp_ge (tgt := 72) ok dX12_costNow_27 (by decide) (fun h => absurd h e6) (fun _ => ?_)
      refine w_aload_n ok dX12_costNow_30 0 rfl ?_
      refine w_iconst (v := 0) ok dX12_costNow_31 (by decide) ?_
      refine w_iload_n ok dX12_costNow_32 2 rfl ?_
      refine w_iload ok dX12_costNow_33 4 rfl ?_
      refine w_cV (As := [.int 0, .int (nI i4), .int (nI i19)]) ok dX12_costNow_35 iX12_wayIn (lX12_371 rfl) (rcv cls12 (congrArg Prod.fst s_130)) (ltM hnn (by decide)) (c_X12_wayIn ro hnn hf 0 (nI i4) (nI i19)  (hp3 i4 s4 hi4 hs4 i19 s19 hi19 hs19)) (by decide) rfl (Nat.le_of_ble_eq_true rfl) ?_
      refine w_istore ok dX12_costNow_38 (by decide) rfl ?_
      refine w_iload_n ok dX12_costNow_40 4 rfl ?_
      refine w_iload ok dX12_costNow_41 0 rfl ?_
      refine w_iconst (v := (-1)) ok dX12_costNow_43 (by decide) ?_
      refine w_icmp_eq (tgt := 63) ok dX12_costNow_44 (by decide) (fun c7 => ?_) (fun c7 => ?_)
      · skip
        refine w_iconst (v := 0) ok dX12_costNow_63 (by decide) ?_
        refine w_ior ok dX12_costNow_64 ?_
        refine w_istore_n ok dX12_costNow_65 rfl (by decide) rfl ?_
        refine w_iinc (v := (nI i19) + 1) ok dX12_costNow_66 5 rfl rfl (by decide) rfl ?_
        refine w_goto (tgt := 19) ok dX12_costNow_69 (by decide) ?_
        have eB : B_X12_costNow_l19 I J i4 s4 i19 s19 = (s19 ||| 0) := by
          unfold B_X12_costNow_l19; exact (if_pos c7).trans (rfl)
        have kk := k19
        rw [eB] at kk
        refine w_loc [3, 4, 5, 1, 0] rfl ?_
        rw [nI_1 i19]
        exact kk
      · skip
        refine w_iload ok dX12_costNow_47 0 rfl ?_
        refine w_aload_n ok dX12_costNow_49 1 rfl ?_
        refine w_getR ok dX12_costNow_50 (fX12_132 rfl) (congrArg Prod.fst s_130) rfl (r_130_60 ro) (ltM hnn (by decide)) ?_
        refine w_iload ok dX12_costNow_53 5 rfl ?_
        refine y_iald (q := (nI i19).toNatClampNeg) ok dX12_costNow_55 s_168 (hp4 i4 s4 hi4 hs4 i19 s19 hi19 hs19 c7) (by decide) (ltM hnn (by decide)) (sdm hf (by decide)) ?_
        refine w_icmp_eq (tgt := 63) ok dX12_costNow_56 (by decide) (fun c8 => ?_) (fun c8 => ?_)
        · skip
          refine w_iconst (v := 0) ok dX12_costNow_63 (by decide) ?_
          refine w_ior ok dX12_costNow_64 ?_
          refine w_istore_n ok dX12_costNow_65 rfl (by decide) rfl ?_
          refine w_iinc (v := (nI i19) + 1) ok dX12_costNow_66 5 rfl rfl (by decide) rfl ?_
          refine w_goto (tgt := 19) ok dX12_costNow_69 (by decide) ?_
          have eB : B_X12_costNow_l19 I J i4 s4 i19 s19 = (s19 ||| 0) := by
            unfold B_X12_costNow_l19; exact (if_neg c7).trans ((if_pos c8).trans (rfl))
          have kk := k19
          rw [eB] at kk
          refine w_loc [3, 4, 5, 1, 0] rfl ?_
          rw [nI_1 i19]
          exact kk
        · skip
          refine w_iconst (v := 1) ok dX12_costNow_59 (by decide) ?_
          refine w_goto (tgt := 64) ok dX12_costNow_60 (by decide) ?_
          refine w_ior ok dX12_costNow_64 ?_
          refine w_istore_n ok dX12_costNow_65 rfl (by decide) rfl ?_
          refine w_iinc (v := (nI i19) + 1) ok dX12_costNow_66 5 rfl rfl (by decide) rfl ?_
          refine w_goto (tgt := 19) ok dX12_costNow_69 (by decide) ?_
          have eB : B_X12_costNow_l19 I J i4 s4 i19 s19 = (s19 ||| 1) := by
            unfold B_X12_costNow_l19; exact (if_neg c7).trans ((if_neg c8).trans (rfl))
          have kk := k19
          rw [eB] at kk
          refine w_loc [3, 4, 5, 1, 0] rfl ?_
          rw [nI_1 i19]
          exact kk
def F_X12_trouble (a0 : Int32) (I : SI) (J : SJ) : Int32 := (I 157 a0.toNatClampNeg) + (F_X12_sumOf 164 184 a0 I J)
def H_X12_trouble (a0 : Int32) (I : SI) (J : SJ) : Prop := (inR a0 23) ∧ (H_X12_sumOf 164 184 a0 I J)
set_option maxHeartbeats 1000000 in
set_option maxRecDepth 40000 in
theorem c_X12_trouble {I : SI} {J : SJ} {R : SR} {n g : Nat} {f : Fr} (ro : RM R) (hnn : nM ≤ n) (hf : f.1 = false) (a0 : Int32)  (hp : H_X12_trouble a0 I J) : MM 1 0 0 mX12_trouble [.ref 130, .int a0] (eI f I) (eJ f J) R n g (Pd (some (.int (F_X12_trouble a0 I J))) (eI f I) (eJ f J) R n g) := by
  refine MM.of (by decide) (Nat.le_of_ble_eq_true rfl) fun K ok fin => ?_
  show WK K 0 0 0 [(0, .ref 130), (1, .int a0)] [] (eI f I) (eJ f J) R n g
  obtain ⟨hp1, hp2⟩ := hp
  refine w_aload_n ok dX12_trouble_0 0 rfl ?_
  refine w_getR ok dX12_trouble_1 (fX12_93 rfl) (congrArg Prod.fst s_130) rfl (r_130_42 ro) (ltM hnn (by decide)) ?_
  refine w_iload_n ok dX12_trouble_4 1 rfl ?_
  refine y_iald (q := a0.toNatClampNeg) ok dX12_trouble_5 s_157 (hp1) (by decide) (ltM hnn (by decide)) (sdm hf (by decide)) ?_
  refine w_aload_n ok dX12_trouble_6 0 rfl ?_
  refine w_aload_n ok dX12_trouble_7 0 rfl ?_
  refine w_getR ok dX12_trouble_8 (fX12_114 rfl) (congrArg Prod.fst s_130) rfl (r_130_49 ro) (ltM hnn (by decide)) ?_
  refine w_iload_n ok dX12_trouble_11 1 rfl ?_
  refine w_cV (As := [.ref 164, .int a0]) ok dX12_trouble_12 iX12_sumOf (lX12_469 rfl) (rcv cls12 (congrArg Prod.fst s_130)) (ltM hnn (by decide)) (c_X12_sumOf ro hnn hf a0 s_164 (ltM hnn (by decide)) (sdm hf (by decide)) (sh_len s_164) (hp2)) (by decide) rfl (Nat.le_of_ble_eq_true rfl) ?_
  show WK K 0 0 15 [(0, .ref 130), (1, .int a0)] [.int (F_X12_sumOf 164 184 a0 I J), .int (I 157 a0.toNatClampNeg)] (eI f I) (eJ f J) R n g
  refine w_iadd ok dX12_trouble_15 ?_
  exact w_iret ok fin dX12_trouble_16 rfl (by unfold F_X12_trouble; exact Pd.i)
def B_X12_bitsOf_l4 (a0 : Int32) (I : SI) (J : SJ) (i4 : Nat) (s4 : Int32) : Int32 := (s4 + ((a0 >>> ((nI i4) &&& 31)) &&& 1))
def F_X12_bitsOf_l4 (a0 : Int32) (I : SI) (J : SJ) (s0 : Int32) : Int32 := itN (B_X12_bitsOf_l4 a0 I J) (10) s0
def F_X12_bitsOf (a0 : Int32) (I : SI) (J : SJ) : Int32 := (F_X12_bitsOf_l4 a0 I J 0)
set_option maxHeartbeats 1000000 in
set_option maxRecDepth 40000 in
theorem c_X12_bitsOf {I : SI} {J : SJ} {R : SR} {n g : Nat} {f : Fr} (ro : RM R) (hnn : nM ≤ n) (hf : f.1 = false) (a0 : Int32)   : MM 0 0 0 mX12_bitsOf [.int a0] (eI f I) (eJ f J) R n g (Pd (some (.int (F_X12_bitsOf a0 I J))) (eI f I) (eJ f J) R n g) := by
  refine MM.of (by decide) (Nat.le_of_ble_eq_true rfl) fun K ok fin => ?_
  show WK K 0 0 0 [(0, .int a0)] [] (eI f I) (eJ f J) R n g
  refine w_iconst (v := 0) ok dX12_bitsOf_0 (by decide) ?_
  refine w_istore_n ok dX12_bitsOf_1 rfl (by decide) rfl ?_
  refine w_iconst (v := 0) ok dX12_bitsOf_2 (by decide) ?_
  refine w_istore_n ok dX12_bitsOf_3 rfl (by decide) rfl ?_
  refine w_loc [2, 1, 0] rfl ?_
  refine loop_for (σ := Int32) (fun (i4 : Nat) (s4 : Int32) => WK K 0 0 4 [(0, .int a0), (1, .int s4), (2, .int (nI i4))] [] (eI f I) (eJ f J) R n g) (B_X12_bitsOf_l4 a0 I J) (10) (0) ?_ ?_
  · show WK K 0 0 4 [(0, .int a0), (1, .int (F_X12_bitsOf_l4 a0 I J 0)), (2, .int (nI 10))] [] (eI f I) (eJ f J) R n g
    have e1 : (10 : Int32) ≤ (nI 10) := (show nI 10 ≤ nI 10 from nI_le (by omega) (by decide))
    refine w_iload_n ok dX12_bitsOf_4 2 rfl ?_
    refine w_bipush (v := 10) ok dX12_bitsOf_5 (by decide) ?_
    refine w_icmp_ge (tgt := 24) ok dX12_bitsOf_7 (by decide) (fun _ => ?_) (fun h => absurd e1 h)
    refine w_iload_n ok dX12_bitsOf_24 1 rfl ?_
    exact w_iret ok fin dX12_bitsOf_25 rfl (by unfold F_X12_bitsOf; exact Pd.i)
  · intro i4 s4 hi4 hs4 k4
    show WK K 0 0 4 [(0, .int a0), (1, .int s4), (2, .int (nI i4))] [] (eI f I) (eJ f J) R n g
    have e2 : ¬ ((10 : Int32) ≤ (nI i4)) := (show ¬ (nI 10 ≤ nI i4) from nI_ge (by omega) (by decide))
    refine w_iload_n ok dX12_bitsOf_4 2 rfl ?_
    refine w_bipush (v := 10) ok dX12_bitsOf_5 (by decide) ?_
    refine w_icmp_ge (tgt := 24) ok dX12_bitsOf_7 (by decide) (fun h => absurd h e2) (fun _ => ?_)
    refine w_iload_n ok dX12_bitsOf_10 1 rfl ?_
    refine w_iload_n ok dX12_bitsOf_11 0 rfl ?_
    refine w_iload_n ok dX12_bitsOf_12 2 rfl ?_
    refine w_ishr ok dX12_bitsOf_13 ?_
    refine w_iconst (v := 1) ok dX12_bitsOf_14 (by decide) ?_
    refine w_iand ok dX12_bitsOf_15 ?_
    refine w_iadd ok dX12_bitsOf_16 ?_
    refine w_istore_n ok dX12_bitsOf_17 rfl (by decide) rfl ?_
    refine w_iinc (v := (nI i4) + 1) ok dX12_bitsOf_18 2 rfl rfl (by decide) rfl ?_
    refine w_goto (tgt := 4) ok dX12_bitsOf_21 (by decide) ?_
    have eB : B_X12_bitsOf_l4 a0 I J i4 s4 = (s4 + ((a0 >>> ((nI i4) &&& 31)) &&& 1)) := by
      unfold B_X12_bitsOf_l4; exact rfl
    have kk := k4
    rw [eB] at kk
    refine w_loc [2, 1, 0] rfl ?_
    rw [nI_1 i4]
    exact kk
def B_X12_noted_l39 (I : SI) (J : SJ) (i21 : Nat) (s21 : Int32) (i39 : Nat) (s39 : Int32) : Int32 := if (((nI i21) >>> ((nI i39) &&& 31)) &&& 1) = 1 then (s39 ||| ((u2 I 130 0 0) 145 (nI i39).toNatClampNeg)) else (s39 ||| 0)
def F_X12_noted_l39 (I : SI) (J : SJ) (i21 : Nat) (s21 : Int32) (s0 : Int32) : Int32 := itN (B_X12_noted_l39 I J i21 s21) (((u2 I 130 0 0) 132 4).toNatClampNeg) s0
def S1_X12_noted (I : SI) (J : SJ) (i21 : Nat) (s21 : Int32) : Int32 := (F_X12_noted_l39 I J i21 s21 0) &&& (((1 : Int32) <<< (((u2 I 130 0 0) 132 0) &&& 31)) - 1)
def B_X12_noted_l21 (I : SI) (J : SJ) (i21 : Nat) (s21 : Int32) : Int32 := if (S1_X12_noted I J i21 s21) = (((1 : Int32) <<< (((u2 I 130 0 0) 132 0) &&& 31)) - 1) then (if s21 < 0 then (nI i21) else (if (F_X12_bitsOf s21 (u2 I 130 0 0) J) ≤ (F_X12_bitsOf (nI i21) (u2 I 130 0 0) J) then s21 else (nI i21))) else s21
def F_X12_noted_l21 (I : SI) (J : SJ) (s0 : Int32) : Int32 := itN (B_X12_noted_l21 I J) (((1 : Int32) <<< (((u2 I 130 0 0) 132 4) &&& 31)).toNatClampNeg) s0
def F_X12_noted  (I : SI) (J : SJ) : Int32 := (F_X12_noted_l21 I J (-2))
def FI_X12_noted  (I : SI) (J : SJ) : SI := u2 I 130 0 0
def H_X12_noted  (I : SI) (J : SJ) : Prop := (∀ (i21 : Nat) (s21 : Int32), i21 < ((1 : Int32) <<< (((u2 I 130 0 0) 132 4) &&& 31)).toNatClampNeg → s21 = itN (B_X12_noted_l21 I J) i21 (-2) → ∀ (i39 : Nat) (s39 : Int32), i39 < ((u2 I 130 0 0) 132 4).toNatClampNeg → s39 = itN (B_X12_noted_l39 I J i21 s21) i39 0 → (((nI i21) >>> ((nI i39) &&& 31)) &&& 1) = 1 → inR (nI i39) 8)
set_option maxHeartbeats 1630000 in
set_option maxRecDepth 40000 in
theorem c_X12_noted {I : SI} {J : SJ} {R : SR} {n g : Nat} {f : Fr} (ro : RM R) (hnn : nM ≤ n) (hf : f.1 = false)   (hp : H_X12_noted  I J) : MM 1 0 0 mX12_noted [.ref 130] (eI f I) (eJ f J) R n g (Pd (some (.int (F_X12_noted  I J))) (eI f (FI_X12_noted  I J)) (eJ f J) R n g) := by
  refine MM.of (by decide) (Nat.le_of_ble_eq_true rfl) fun K ok fin => ?_
  show WK K 0 0 0 [(0, .ref 130)] [] (eI f I) (eJ f J) R n g
  have hp1 := hp
  refine w_aload_n ok dX12_noted_0 0 rfl ?_
  refine w_iconst (v := 0) ok dX12_noted_1 (by decide) ?_
  refine y_putI ok dX12_noted_2 (fwX12_169 rfl) (congrArg Prod.fst s_130) rfl (ltM hnn (by decide)) (sdm hf (by decide)) ?_
  refine w_iconst (v := 1) ok dX12_noted_5 (by decide) ?_
  refine w_aload_n ok dX12_noted_6 0 rfl ?_
  refine w_getR ok dX12_noted_7 (fX12_13 rfl) (congrArg Prod.fst s_130) rfl (r_130_3 ro) (ltM hnn (by decide)) ?_
  refine w_iconst (v := 0) ok dX12_noted_10 (by decide) ?_
  refine y_iald (q := 0) ok dX12_noted_11 s_132 (by decide) (by decide) (ltM hnn (by decide)) (sdm hf (by decide)) ?_
  refine w_ishl ok dX12_noted_12 ?_
  refine w_iconst (v := 1) ok dX12_noted_13 (by decide) ?_
  refine w_isub ok dX12_noted_14 ?_
  refine w_istore_n ok dX12_noted_15 rfl (by decide) rfl ?_
  refine w_bipush (v := (-2)) ok dX12_noted_16 (by decide) ?_
  refine w_istore_n ok dX12_noted_18 rfl (by decide) rfl ?_
  refine w_iconst (v := 0) ok dX12_noted_19 (by decide) ?_
  refine w_istore_n ok dX12_noted_20 rfl (by decide) rfl ?_
  refine w_loc [3, 2, 1, 0] rfl ?_
  refine loop_for (σ := Int32) (fun (i21 : Nat) (s21 : Int32) => WK K 0 0 21 [(0, .ref 130), (1, .int (((1 : Int32) <<< (((u2 I 130 0 0) 132 0) &&& 31)) - 1)), (2, .int s21), (3, .int (nI i21))] [] (eI f (u2 I 130 0 0)) (eJ f J) R n g) (B_X12_noted_l21 I J) (((1 : Int32) <<< (((u2 I 130 0 0) 132 4) &&& 31)).toNatClampNeg) ((-2)) ?_ ?_
  · show WK K 0 0 21 [(0, .ref 130), (1, .int (((1 : Int32) <<< (((u2 I 130 0 0) 132 0) &&& 31)) - 1)), (2, .int ((F_X12_noted_l21 I J (-2)))), (3, .int (nI (((1 : Int32) <<< (((u2 I 130 0 0) 132 4) &&& 31)).toNatClampNeg)))] [] (eI f (u2 I 130 0 0)) (eJ f J) R n g
    have e1 : ((1 : Int32) <<< (((u2 I 130 0 0) 132 4) &&& 31)) ≤ (nI (((1 : Int32) <<< (((u2 I 130 0 0) 132 4) &&& 31)).toNatClampNeg)) := cnt_ge _
    refine w_iload_n ok dX12_noted_21 3 rfl ?_
    refine w_iconst (v := 1) ok dX12_noted_22 (by decide) ?_
    refine w_aload_n ok dX12_noted_23 0 rfl ?_
    refine w_getR ok dX12_noted_24 (fX12_13 rfl) (congrArg Prod.fst s_130) rfl (r_130_3 ro) (ltM hnn (by decide)) ?_
    refine w_iconst (v := 4) ok dX12_noted_27 (by decide) ?_
    refine y_iald (q := 4) ok dX12_noted_28 s_132 (by decide) (by decide) (ltM hnn (by decide)) (sdm hf (by decide)) ?_
    refine w_ishl ok dX12_noted_29 ?_
    refine w_icmp_ge (tgt := 113) ok dX12_noted_30 (by decide) (fun _ => ?_) (fun h => absurd e1 h)
    refine w_iload_n ok dX12_noted_113 2 rfl ?_
    exact w_iret ok fin dX12_noted_114 rfl (by unfold F_X12_noted FI_X12_noted; exact Pd.i)
  · intro i21 s21 hi21 hs21 k21
    show WK K 0 0 21 [(0, .ref 130), (1, .int (((1 : Int32) <<< (((u2 I 130 0 0) 132 0) &&& 31)) - 1)), (2, .int s21), (3, .int (nI i21))] [] (eI f (u2 I 130 0 0)) (eJ f J) R n g
    have e2 : ¬ (((1 : Int32) <<< (((u2 I 130 0 0) 132 4) &&& 31)) ≤ (nI i21)) := cnt_lt hi21
    refine w_iload_n ok dX12_noted_21 3 rfl ?_
    refine w_iconst (v := 1) ok dX12_noted_22 (by decide) ?_
    refine w_aload_n ok dX12_noted_23 0 rfl ?_
    refine w_getR ok dX12_noted_24 (fX12_13 rfl) (congrArg Prod.fst s_130) rfl (r_130_3 ro) (ltM hnn (by decide)) ?_
    refine w_iconst (v := 4) ok dX12_noted_27 (by decide) ?_
    refine y_iald (q := 4) ok dX12_noted_28 s_132 (by decide) (by decide) (ltM hnn (by decide)) (sdm hf (by decide)) ?_
    refine w_ishl ok dX12_noted_29 ?_
    refine w_icmp_ge (tgt := 113) ok dX12_noted_30 (by decide) (fun h => absurd h e2) (fun _ => ?_)
    refine w_iconst (v := 0) ok dX12_noted_33 (by decide) ?_
    refine w_istore ok dX12_noted_34 (by decide) rfl ?_
    refine w_iconst (v := 0) ok dX12_noted_36 (by decide) ?_
    refine w_istore ok dX12_noted_37 (by decide) rfl ?_
    refine w_loc [2, 3, 4, 5, 1, 0] rfl ?_
    refine loop_for (σ := Int32) (fun (i39 : Nat) (s39 : Int32) => WK K 0 0 39 [(0, .ref 130), (1, .int (((1 : Int32) <<< (((u2 I 130 0 0) 132 0) &&& 31)) - 1)), (2, .int s21), (3, .int (nI i21)), (4, .int s39), (5, .int (nI i39))] [] (eI f (u2 I 130 0 0)) (eJ f J) R n g) (B_X12_noted_l39 I J i21 s21) (((u2 I 130 0 0) 132 4).toNatClampNeg) (0) ?_ ?_
    · show WK K 0 0 39 [(0, .ref 130), (1, .int (((1 : Int32) <<< (((u2 I 130 0 0) 132 0) &&& 31)) - 1)), (2, .int s21), (3, .int (nI i21)), (4, .int (F_X12_noted_l39 I J i21 s21 0)), (5, .int (nI (((u2 I 130 0 0) 132 4).toNatClampNeg)))] [] (eI f (u2 I 130 0 0)) (eJ f J) R n g
      have e3 : ((u2 I 130 0 0) 132 4) ≤ (nI (((u2 I 130 0 0) 132 4).toNatClampNeg)) := cnt_ge _
      refine w_iload ok dX12_noted_39 5 rfl ?_
      refine w_aload_n ok dX12_noted_41 0 rfl ?_
      refine w_getR ok dX12_noted_42 (fX12_13 rfl) (congrArg Prod.fst s_130) rfl (r_130_3 ro) (ltM hnn (by decide)) ?_
      refine w_iconst (v := 4) ok dX12_noted_45 (by decide) ?_
      refine y_iald (q := 4) ok dX12_noted_46 s_132 (by decide) (by decide) (ltM hnn (by decide)) (sdm hf (by decide)) ?_
      refine w_icmp_ge (tgt := 82) ok dX12_noted_47 (by decide) (fun _ => ?_) (fun h => absurd e3 h)
      refine w_iload ok dX12_noted_82 4 rfl ?_
      refine w_iload_n ok dX12_noted_84 1 rfl ?_
      refine w_iand ok dX12_noted_85 ?_
      show WK K 0 0 86 [(0, .ref 130), (1, .int (((1 : Int32) <<< (((u2 I 130 0 0) 132 0) &&& 31)) - 1)), (2, .int s21), (3, .int (nI i21)), (4, .int (F_X12_noted_l39 I J i21 s21 0)), (5, .int (nI (((u2 I 130 0 0) 132 4).toNatClampNeg)))] [.int (S1_X12_noted I J i21 s21)] (eI f (u2 I 130 0 0)) (eJ f J) R n g
      refine w_iload_n ok dX12_noted_86 1 rfl ?_
      refine w_icmp_ne (tgt := 107) ok dX12_noted_87 (by decide) (fun c4 => ?_) (fun c4 => ?_)
      · skip
        refine w_iinc (v := (nI i21) + 1) ok dX12_noted_107 3 rfl rfl (by decide) rfl ?_
        refine w_goto (tgt := 21) ok dX12_noted_110 (by decide) ?_
        have eB : B_X12_noted_l21 I J i21 s21 = s21 := by
          unfold B_X12_noted_l21; exact (if_neg c4).trans (rfl)
        have kk := k21
        rw [eB] at kk
        refine w_loc [1, 2, 3, 0] rfl ?_
        rw [nI_1 i21]
        exact kk
      · skip
        refine w_iload_n ok dX12_noted_90 2 rfl ?_
        refine w_if_lt (tgt := 105) ok dX12_noted_91 (by decide) (fun c5 => ?_) (fun c5 => ?_)
        · skip
          refine w_iload_n ok dX12_noted_105 3 rfl ?_
          refine w_istore_n ok dX12_noted_106 rfl (by decide) rfl ?_
          refine w_iinc (v := (nI i21) + 1) ok dX12_noted_107 3 rfl rfl (by decide) rfl ?_
          refine w_goto (tgt := 21) ok dX12_noted_110 (by decide) ?_
          have eB : B_X12_noted_l21 I J i21 s21 = (nI i21) := by
            unfold B_X12_noted_l21; exact (if_pos c4).trans ((if_pos c5).trans (rfl))
          have kk := k21
          rw [eB] at kk
          refine w_loc [2, 3, 1, 0] rfl ?_
          rw [nI_1 i21]
          exact kk
        · skip
          refine w_iload_n ok dX12_noted_94 3 rfl ?_
          refine w_cS (As := [.int (nI i21)]) ok dX12_noted_95 iX12_bitsOf (lX12_503 rfl) (c_X12_bitsOf ro hnn hf (nI i21) ) (by decide) rfl (Nat.le_of_ble_eq_true rfl) ?_
          refine w_iload_n ok dX12_noted_98 2 rfl ?_
          refine w_cS (As := [.int s21]) ok dX12_noted_99 iX12_bitsOf (lX12_503 rfl) (c_X12_bitsOf ro hnn hf s21 ) (by decide) rfl (Nat.le_of_ble_eq_true rfl) ?_
          show WK K 0 0 102 [(0, .ref 130), (1, .int (((1 : Int32) <<< (((u2 I 130 0 0) 132 0) &&& 31)) - 1)), (2, .int s21), (3, .int (nI i21)), (4, .int (F_X12_noted_l39 I J i21 s21 0)), (5, .int (nI (((u2 I 130 0 0) 132 4).toNatClampNeg)))] [.int (F_X12_bitsOf s21 (u2 I 130 0 0) J), .int (F_X12_bitsOf (nI i21) (u2 I 130 0 0) J)] (eI f (u2 I 130 0 0)) (eJ f J) R n g
          refine w_icmp_ge (tgt := 107) ok dX12_noted_102 (by decide) (fun c6 => ?_) (fun c6 => ?_)
          · skip
            refine w_iinc (v := (nI i21) + 1) ok dX12_noted_107 3 rfl rfl (by decide) rfl ?_
            refine w_goto (tgt := 21) ok dX12_noted_110 (by decide) ?_
            have eB : B_X12_noted_l21 I J i21 s21 = s21 := by
              unfold B_X12_noted_l21; exact (if_pos c4).trans ((if_neg c5).trans ((if_pos c6).trans (rfl)))
            have kk := k21
            rw [eB] at kk
            refine w_loc [1, 2, 3, 0] rfl ?_
            rw [nI_1 i21]
            exact kk
          · skip
            refine w_iload_n ok dX12_noted_105 3 rfl ?_
            refine w_istore_n ok dX12_noted_106 rfl (by decide) rfl ?_
            refine w_iinc (v := (nI i21) + 1) ok dX12_noted_107 3 rfl rfl (by decide) rfl ?_
            refine w_goto (tgt := 21) ok dX12_noted_110 (by decide) ?_
            have eB : B_X12_noted_l21 I J i21 s21 = (nI i21) := by
              unfold B_X12_noted_l21; exact (if_pos c4).trans ((if_neg c5).trans ((if_neg c6).trans (rfl)))
            have kk := k21
            rw [eB] at kk
            refine w_loc [2, 3, 1, 0] rfl ?_
            rw [nI_1 i21]
            exact kk
    · intro i39 s39 hi39 hs39 k39
      show WK K 0 0 39 [(0, .ref 130), (1, .int (((1 : Int32) <<< (((u2 I 130 0 0) 132 0) &&& 31)) - 1)), (2, .int s21), (3, .int (nI i21)), (4, .int s39), (5, .int (nI i39))] [] (eI f (u2 I 130 0 0)) (eJ f J) R n g
      have e7 : ¬ (((u2 I 130 0 0) 132 4) ≤ (nI i39)) := cnt_lt hi39
      refine w_iload ok dX12_noted_39 5 rfl ?_
      refine w_aload_n ok dX12_noted_41 0 rfl ?_
      refine w_getR ok dX12_noted_42 (fX12_13 rfl) (congrArg Prod.fst s_130) rfl (r_130_3 ro) (ltM hnn (by decide)) ?_
      refine w_iconst (v := 4) ok dX12_noted_45 (by decide) ?_
      refine y_iald (q := 4) ok dX12_noted_46 s_132 (by decide) (by decide) (ltM hnn (by decide)) (sdm hf (by decide)) ?_
      refine w_icmp_ge (tgt := 82) ok dX12_noted_47 (by decide) (fun h => absurd h e7) (fun _ => ?_)
      refine w_iload ok dX12_noted_50 4 rfl ?_
      refine w_iload_n ok dX12_noted_52 3 rfl ?_
      refine w_iload ok dX12_noted_53 5 rfl ?_
      refine w_ishr ok dX12_noted_55 ?_
      refine w_iconst (v := 1) ok dX12_noted_56 (by decide) ?_
      refine w_iand ok dX12_noted_57 ?_
      refine w_iconst (v := 1) ok dX12_noted_58 (by decide) ?_
      refine w_icmp_ne (tgt := 72) ok dX12_noted_59 (by decide) (fun c8 => ?_) (fun c8 => ?_)
      · skip
        refine w_iconst (v := 0) ok dX12_noted_72 (by decide) ?_
        refine w_ior ok dX12_noted_73 ?_
        refine w_istore ok dX12_noted_74 (by decide) rfl ?_
        refine w_iinc (v := (nI i39) + 1) ok dX12_noted_76 5 rfl rfl (by decide) rfl ?_
        refine w_goto (tgt := 39) ok dX12_noted_79 (by decide) ?_
        have eB : B_X12_noted_l39 I J i21 s21 i39 s39 = (s39 ||| 0) := by
          unfold B_X12_noted_l39; exact (if_neg c8).trans (rfl)
        have kk := k39
        rw [eB] at kk
        refine w_loc [2, 3, 4, 5, 1, 0] rfl ?_
        rw [nI_1 i39]
        exact kk
      · skip
        refine w_aload_n ok dX12_noted_62 0 rfl ?_
        refine w_getR ok dX12_noted_63 (fX12_52 rfl) (congrArg Prod.fst s_130) rfl (r_130_16 ro) (ltM hnn (by decide)) ?_
        refine w_iload ok dX12_noted_66 5 rfl ?_
        refine y_iald (q := (nI i39).toNatClampNeg) ok dX12_noted_68 s_145 (hp1 i21 s21 hi21 hs21 i39 s39 hi39 hs39 c8) (by decide) (ltM hnn (by decide)) (sdm hf (by decide)) ?_
        refine w_goto (tgt := 73) ok dX12_noted_69 (by decide) ?_
        refine w_ior ok dX12_noted_73 ?_
        refine w_istore ok dX12_noted_74 (by decide) rfl ?_
        refine w_iinc (v := (nI i39) + 1) ok dX12_noted_76 5 rfl rfl (by decide) rfl ?_
        refine w_goto (tgt := 39) ok dX12_noted_79 (by decide) ?_
        have eB : B_X12_noted_l39 I J i21 s21 i39 s39 = (s39 ||| ((u2 I 130 0 0) 145 (nI i39).toNatClampNeg)) := by
          unfold B_X12_noted_l39; exact (if_pos c8).trans (rfl)
        have kk := k39
        rw [eB] at kk
        refine w_loc [2, 3, 4, 5, 1, 0] rfl ?_
        rw [nI_1 i39]
        exact kk
def S1_X12_bribe (a0 : Int32) (I : SI) (J : SJ) (i17 : Nat) (s17 : SI × SJ) : SI := u2 (FI_X12_copies 1 0 s17.1 s17.2) 166 ((4 : Int32) + a0).toNatClampNeg (nI i17)
def S2_X12_bribe (a0 : Int32) (I : SI) (J : SJ) (i17 : Nat) (s17 : SI × SJ) : Int32 := (6 : Int32) + ((FI_X12_goesOn 20 (S1_X12_bribe a0 I J i17 s17) s17.2) 141 a0.toNatClampNeg)
def S3_X12_bribe (a0 : Int32) (I : SI) (J : SJ) (i17 : Nat) (s17 : SI × SJ) : Int32 := (FI_X12_goesOn 20 (S1_X12_bribe a0 I J i17 s17) s17.2) 160 (S2_X12_bribe a0 I J i17 s17).toNatClampNeg
def B_X12_bribe_l17_4 (a0 : Int32) (I : SI) (J : SJ) (i17 : Nat) (s17 : SI × SJ) : (SI × SJ) ⊕ (Int32 × SI × SJ) := if (S3_X12_bribe a0 I J i17 s17) = ((FI_X12_goesOn 20 (S1_X12_bribe a0 I J i17 s17) s17.2) 142 a0.toNatClampNeg) then .inr ((nI i17), (FI_X12_goesOn 20 (S1_X12_bribe a0 I J i17 s17) s17.2), (FJ_X12_goesOn 20 (S1_X12_bribe a0 I J i17 s17) s17.2)) else .inl ((FI_X12_goesOn 20 (S1_X12_bribe a0 I J i17 s17) s17.2), (FJ_X12_goesOn 20 (S1_X12_bribe a0 I J i17 s17) s17.2))
def F_X12_bribe_l17_4 (a0 : Int32) (I : SI) (J : SJ) (s0 : SI × SJ) : (SI × SJ) ⊕ (Int32 × SI × SJ) := itE (B_X12_bribe_l17_4 a0 I J) (100) 0 s0
def F_X12_bribe (a0 : Int32) (I : SI) (J : SJ) : Int32 := if (F_X12_isParty a0 (u2 I 130 0 0) J) = 0 then -1 else (match (F_X12_bribe_l17_4 a0 I J ((u2 I 130 0 0), J)) with | .inl se17 => -2 | .inr re17 => re17.1)
def FI_X12_bribe (a0 : Int32) (I : SI) (J : SJ) : SI := if (F_X12_isParty a0 (u2 I 130 0 0) J) = 0 then u2 I 130 0 0 else (match (F_X12_bribe_l17_4 a0 I J ((u2 I 130 0 0), J)) with | .inl se17 => se17.1 | .inr re17 => re17.2.1)
def FJ_X12_bribe (a0 : Int32) (I : SI) (J : SJ) : SJ := if (F_X12_isParty a0 (u2 I 130 0 0) J) = 0 then J else (match (F_X12_bribe_l17_4 a0 I J ((u2 I 130 0 0), J)) with | .inl se17 => se17.2 | .inr re17 => re17.2.2)
def H_X12_bribe (a0 : Int32) (I : SI) (J : SJ) : Prop := (¬ ((F_X12_isParty a0 (u2 I 130 0 0) J) = 0) → ∀ (i17 : Nat) (s17 : SI × SJ), i17 < 100 → itE (B_X12_bribe_l17_4 a0 I J) i17 0 ((u2 I 130 0 0), J) = .inl s17 → H_X12_copies 1 0 s17.1 s17.2) ∧ (¬ ((F_X12_isParty a0 (u2 I 130 0 0) J) = 0) → ∀ (i17 : Nat) (s17 : SI × SJ), i17 < 100 → itE (B_X12_bribe_l17_4 a0 I J) i17 0 ((u2 I 130 0 0), J) = .inl s17 → inR ((4 : Int32) + a0) 92) ∧ (¬ ((F_X12_isParty a0 (u2 I 130 0 0) J) = 0) → ∀ (i17 : Nat) (s17 : SI × SJ), i17 < 100 → itE (B_X12_bribe_l17_4 a0 I J) i17 0 ((u2 I 130 0 0), J) = .inl s17 → H_X12_goesOn 20 (S1_X12_bribe a0 I J i17 s17) s17.2) ∧ (¬ ((F_X12_isParty a0 (u2 I 130 0 0) J) = 0) → ∀ (i17 : Nat) (s17 : SI × SJ), i17 < 100 → itE (B_X12_bribe_l17_4 a0 I J) i17 0 ((u2 I 130 0 0), J) = .inl s17 → inR a0 8) ∧ (¬ ((F_X12_isParty a0 (u2 I 130 0 0) J) = 0) → ∀ (i17 : Nat) (s17 : SI × SJ), i17 < 100 → itE (B_X12_bribe_l17_4 a0 I J) i17 0 ((u2 I 130 0 0), J) = .inl s17 → inR (S2_X12_bribe a0 I J i17 s17) 138)
set_option maxHeartbeats 1000000 in
set_option maxRecDepth 40000 in
theorem c_X12_bribe {I : SI} {J : SJ} {R : SR} {n g : Nat} {f : Fr} (ro : RM R) (hnn : nM ≤ n) (hf : f.1 = false) (a0 : Int32)  (hp : H_X12_bribe a0 I J) : MM 8 0 0 mX12_bribe [.ref 130, .int a0] (eI f I) (eJ f J) R n g (Pd (some (.int (F_X12_bribe a0 I J))) (eI f (FI_X12_bribe a0 I J)) (eJ f (FJ_X12_bribe a0 I J)) R n g) := by
  refine MM.of (by decide) (Nat.le_of_ble_eq_true rfl) fun K ok fin => ?_
  show WK K 0 0 0 [(0, .ref 130), (1, .int a0)] [] (eI f I) (eJ f J) R n g
  obtain ⟨hp1, hp2, hp3, hp4, hp5⟩ := hp
  refine w_aload_n ok dX12_bribe_0 0 rfl ?_
  refine w_iconst (v := 0) ok dX12_bribe_1 (by decide) ?_
  refine y_putI ok dX12_bribe_2 (fwX12_169 rfl) (congrArg Prod.fst s_130) rfl (ltM hnn (by decide)) (sdm hf (by decide)) ?_
  refine w_aload_n ok dX12_bribe_5 0 rfl ?_
  refine w_iload_n ok dX12_bribe_6 1 rfl ?_
  refine w_cV (As := [.int a0]) ok dX12_bribe_7 iX12_isParty (lX12_456 rfl) (rcv cls12 (congrArg Prod.fst s_130)) (ltM hnn (by decide)) (c_X12_isParty ro hnn hf a0 ) (by decide) rfl (Nat.le_of_ble_eq_true rfl) ?_
  refine w_if_ne (tgt := 15) ok dX12_bribe_10 (by decide) (fun c1 => ?_) (fun c1 => ?_)
  · skip
    refine w_iconst (v := 0) ok dX12_bribe_15 (by decide) ?_
    refine w_istore_n ok dX12_bribe_16 rfl (by decide) rfl ?_
    refine w_loc [1, 2, 0] rfl ?_
    refine loop_e (σ := SI × SJ) (ρ := Int32 × SI × SJ) (fun (i17 : Nat) (s17 : SI × SJ) => WK K 0 0 17 [(0, .ref 130), (1, .int a0), (2, .int (nI i17))] [] (eI f s17.1) (eJ f s17.2) R n g) (B_X12_bribe_l17_4 a0 I J) (100) (((u2 I 130 0 0), J)) ?_ ?_
    · intro se17 he17
      have he17 : (F_X12_bribe_l17_4 a0 I J ((u2 I 130 0 0), J)) = .inl se17 := he17
      show WK K 0 0 17 [(0, .ref 130), (1, .int a0), (2, .int (nI 100))] [] (eI f se17.1) (eJ f se17.2) R n g
      have e2 : (99 : Int32) < (nI 100) := (show nI 99 < nI 100 from nI_lt (by omega) (by decide))
      refine w_iload_n ok dX12_bribe_17 2 rfl ?_
      refine w_bipush (v := 99) ok dX12_bribe_18 (by decide) ?_
      refine w_icmp_gt (tgt := 75) ok dX12_bribe_20 (by decide) (fun _ => ?_) (fun h => absurd e2 h)
      refine w_bipush (v := (-2)) ok dX12_bribe_75 (by decide) ?_
      exact w_iret ok fin dX12_bribe_77 rfl (by unfold F_X12_bribe FI_X12_bribe FJ_X12_bribe; simp only [if_neg c1]; simp only [he17]; exact Pd.i)
    · intro i17 s17 hi17 hs17 k17 kr17
      show WK K 0 0 17 [(0, .ref 130), (1, .int a0), (2, .int (nI i17))] [] (eI f s17.1) (eJ f s17.2) R n g
      have e3 : ¬ ((99 : Int32) < (nI i17)) := (show ¬ (nI 99 < nI i17) from nI_nlt (by omega) (by decide))
      refine w_iload_n ok dX12_bribe_17 2 rfl ?_
      refine w_bipush (v := 99) ok dX12_bribe_18 (by decide) ?_
      refine w_icmp_gt (tgt := 75) ok dX12_bribe_20 (by decide) (fun h => absurd h e3) (fun _ => ?_)
      refine w_aload_n ok dX12_bribe_23 0 rfl ?_
      refine w_iconst (v := 1) ok dX12_bribe_24 (by decide) ?_
      refine w_iconst (v := 0) ok dX12_bribe_25 (by decide) ?_
      refine w_cV (As := [.int 1, .int 0]) ok dX12_bribe_26 iX12_copies (lX12_444 rfl) (rcv cls12 (congrArg Prod.fst s_130)) (ltM hnn (by decide)) (c_X12_copies ro hnn hf 1 0  (hp1 c1 i17 s17 hi17 hs17)) (by decide) rfl (Nat.le_of_ble_eq_true rfl) ?_
      refine w_aload_n ok dX12_bribe_29 0 rfl ?_
      refine w_getR ok dX12_bribe_30 (fX12_120 rfl) (congrArg Prod.fst s_130) rfl (r_130_51 ro) (ltM hnn (by decide)) ?_
      refine w_iconst (v := 4) ok dX12_bribe_33 (by decide) ?_
      refine w_iload_n ok dX12_bribe_34 1 rfl ?_
      refine w_iadd ok dX12_bribe_35 ?_
      refine w_iload_n ok dX12_bribe_36 2 rfl ?_
      refine y_iast (q := ((4 : Int32) + a0).toNatClampNeg) ok dX12_bribe_37 s_166 (hp2 c1 i17 s17 hi17 hs17) (by decide) (ltM hnn (by decide)) (sdm hf (by decide)) ?_
      show WK K 0 0 38 [(0, .ref 130), (1, .int a0), (2, .int (nI i17))] [] (eI f (S1_X12_bribe a0 I J i17 s17)) (eJ f s17.2) R n g
      refine w_aload_n ok dX12_bribe_38 0 rfl ?_
      refine w_bipush (v := 20) ok dX12_bribe_39 (by decide) ?_
      refine w_cV (As := [.int 20]) ok dX12_bribe_41 iX12_goesOn (lX12_447 rfl) (rcv cls12 (congrArg Prod.fst s_130)) (ltM hnn (by decide)) (c_X12_goesOn ro hnn hf 20  (hp3 c1 i17 s17 hi17 hs17)) (by decide) rfl (Nat.le_of_ble_eq_true rfl) ?_
      refine w_aload_n ok dX12_bribe_44 0 rfl ?_
      refine w_getR ok dX12_bribe_45 (fX12_102 rfl) (congrArg Prod.fst s_130) rfl (r_130_45 ro) (ltM hnn (by decide)) ?_
      refine w_bipush (v := 6) ok dX12_bribe_48 (by decide) ?_
      refine w_aload_n ok dX12_bribe_50 0 rfl ?_
      refine w_getR ok dX12_bribe_51 (fX12_40 rfl) (congrArg Prod.fst s_130) rfl (r_130_12 ro) (ltM hnn (by decide)) ?_
      refine w_iload_n ok dX12_bribe_54 1 rfl ?_
      refine y_iald (q := a0.toNatClampNeg) ok dX12_bribe_55 s_141 (hp4 c1 i17 s17 hi17 hs17) (by decide) (ltM hnn (by decide)) (sdm hf (by decide)) ?_
      refine w_iadd ok dX12_bribe_56 ?_
      show WK K 0 0 57 [(0, .ref 130), (1, .int a0), (2, .int (nI i17))] [.int (S2_X12_bribe a0 I J i17 s17), .ref 160] (eI f (FI_X12_goesOn 20 (S1_X12_bribe a0 I J i17 s17) s17.2)) (eJ f (FJ_X12_goesOn 20 (S1_X12_bribe a0 I J i17 s17) s17.2)) R n g
      refine y_iald (q := (S2_X12_bribe a0 I J i17 s17).toNatClampNeg) ok dX12_bribe_57 s_160 (hp5 c1 i17 s17 hi17 hs17) (by decide) (ltM hnn (by decide)) (sdm hf (by decide)) ?_
      show WK K 0 0 58 [(0, .ref 130), (1, .int a0), (2, .int (nI i17))] [.int (S3_X12_bribe a0 I J i17 s17)] (eI f (FI_X12_goesOn 20 (S1_X12_bribe a0 I J i17 s17) s17.2)) (eJ f (FJ_X12_goesOn 20 (S1_X12_bribe a0 I J i17 s17) s17.2)) R n g
      refine w_aload_n ok dX12_bribe_58 0 rfl ?_
      refine w_getR ok dX12_bribe_59 (fX12_43 rfl) (congrArg Prod.fst s_130) rfl (r_130_13 ro) (ltM hnn (by decide)) ?_
      refine w_iload_n ok dX12_bribe_62 1 rfl ?_
      refine y_iald (q := a0.toNatClampNeg) ok dX12_bribe_63 s_142 (hp4 c1 i17 s17 hi17 hs17) (by decide) (ltM hnn (by decide)) (sdm hf (by decide)) ?_
      refine w_icmp_ne (tgt := 69) ok dX12_bribe_64 (by decide) (fun c4 => ?_) (fun c4 => ?_)
      · skip
        refine w_iinc (v := (nI i17) + 1) ok dX12_bribe_69 2 rfl rfl (by decide) rfl ?_
        refine w_goto (tgt := 17) ok dX12_bribe_72 (by decide) ?_
        have eB : B_X12_bribe_l17_4 a0 I J i17 s17 = .inl ((FI_X12_goesOn 20 (S1_X12_bribe a0 I J i17 s17) s17.2), (FJ_X12_goesOn 20 (S1_X12_bribe a0 I J i17 s17) s17.2)) := by
          unfold B_X12_bribe_l17_4; exact (if_neg c4).trans (rfl)
        have kk := k17 _ eB
        refine w_loc [1, 2, 0] rfl ?_
        rw [nI_1 i17]
        exact kk
      · skip
        refine w_iload_n ok dX12_bribe_67 2 rfl ?_
        have eB : B_X12_bribe_l17_4 a0 I J i17 s17 = .inr ((nI i17), (FI_X12_goesOn 20 (S1_X12_bribe a0 I J i17 s17) s17.2), (FJ_X12_goesOn 20 (S1_X12_bribe a0 I J i17 s17) s17.2)) := by
          unfold B_X12_bribe_l17_4; exact (if_pos c4).trans (rfl)
        have hr : (F_X12_bribe_l17_4 a0 I J ((u2 I 130 0 0), J)) = .inr ((nI i17), (FI_X12_goesOn 20 (S1_X12_bribe a0 I J i17 s17) s17.2), (FJ_X12_goesOn 20 (S1_X12_bribe a0 I J i17 s17) s17.2)) := kr17 _ eB
        exact w_iret ok fin dX12_bribe_68 rfl (by unfold F_X12_bribe FI_X12_bribe FJ_X12_bribe; simp only [if_neg c1]; simp only [hr]; exact Pd.i)
  · skip
    refine w_iconst (v := (-1)) ok dX12_bribe_13 (by decide) ?_
    exact w_iret ok fin dX12_bribe_14 rfl (by unfold F_X12_bribe FI_X12_bribe FJ_X12_bribe; simp only [if_pos c1]; exact Pd.i)
def F_X12_hasOf (a0 : Int32) (a1 : Int32) (I : SI) (J : SJ) : Int32 := if a0 ≤ a1 then (if a0 = a1 then (4 : Int32) - a0 else (0 : Int32) - a0) else (10 : Int32) - a0
set_option maxHeartbeats 1000000 in
set_option maxRecDepth 40000 in
theorem c_X12_hasOf {I : SI} {J : SJ} {R : SR} {n g : Nat} {f : Fr} (ro : RM R) (hnn : nM ≤ n) (hf : f.1 = false) (a0 : Int32) (a1 : Int32)   : MM 0 0 0 mX12_hasOf [.int a0, .int a1] (eI f I) (eJ f J) R n g (Pd (some (.int (F_X12_hasOf a0 a1 I J))) (eI f I) (eJ f J) R n g) := by
  refine MM.of (by decide) (Nat.le_of_ble_eq_true rfl) fun K ok fin => ?_
  show WK K 0 0 0 [(0, .int a0), (1, .int a1)] [] (eI f I) (eJ f J) R n g
  refine w_iload_n ok dX12_hasOf_0 0 rfl ?_
  refine w_iload_n ok dX12_hasOf_1 1 rfl ?_
  refine w_icmp_le (tgt := 10) ok dX12_hasOf_2 (by decide) (fun c1 => ?_) (fun c1 => ?_)
  · skip
    refine w_iload_n ok dX12_hasOf_10 0 rfl ?_
    refine w_iload_n ok dX12_hasOf_11 1 rfl ?_
    refine w_icmp_ne (tgt := 19) ok dX12_hasOf_12 (by decide) (fun c2 => ?_) (fun c2 => ?_)
    · skip
      refine w_iconst (v := 0) ok dX12_hasOf_19 (by decide) ?_
      refine w_iload_n ok dX12_hasOf_20 0 rfl ?_
      refine w_isub ok dX12_hasOf_21 ?_
      exact w_iret ok fin dX12_hasOf_22 rfl (by unfold F_X12_hasOf; simp only [if_pos c1]; simp only [if_neg c2]; exact Pd.i)
    · skip
      refine w_iconst (v := 4) ok dX12_hasOf_15 (by decide) ?_
      refine w_goto (tgt := 20) ok dX12_hasOf_16 (by decide) ?_
      refine w_iload_n ok dX12_hasOf_20 0 rfl ?_
      refine w_isub ok dX12_hasOf_21 ?_
      exact w_iret ok fin dX12_hasOf_22 rfl (by unfold F_X12_hasOf; simp only [if_pos c1]; simp only [if_pos c2]; exact Pd.i)
  · skip
    refine w_bipush (v := 10) ok dX12_hasOf_5 (by decide) ?_
    refine w_goto (tgt := 20) ok dX12_hasOf_7 (by decide) ?_
    refine w_iload_n ok dX12_hasOf_20 0 rfl ?_
    refine w_isub ok dX12_hasOf_21 ?_
    exact w_iret ok fin dX12_hasOf_22 rfl (by unfold F_X12_hasOf; simp only [if_neg c1]; exact Pd.i)
def B_X12_isRest_l3 (a0 : Int32) (a1 : Int32) (a2 : Int32) (a3 : Int32) (I : SI) (J : SJ) (i3 : Nat) (s3 : Unit) : (Unit) ⊕ (Int32) := if (I 166 a0.toNatClampNeg) < (nI i3) then (if (I 166 a1.toNatClampNeg) < (nI i3) then .inl () else (if (F_X12_hasOf (nI i3) a2 I J) ≤ (F_X12_hasOf a3 a2 I J) then .inl () else .inr 0)) else (if (F_X12_hasOf a2 a3 I J) < (F_X12_hasOf (nI i3) a3 I J) then .inr 0 else (if (I 166 a1.toNatClampNeg) < (nI i3) then .inl () else (if (F_X12_hasOf (nI i3) a2 I J) ≤ (F_X12_hasOf a3 a2 I J) then .inl () else .inr 0)))
def F_X12_isRest_l3 (a0 : Int32) (a1 : Int32) (a2 : Int32) (a3 : Int32) (I : SI) (J : SJ) (s0 : Unit) : (Unit) ⊕ (Int32) := itE (B_X12_isRest_l3 a0 a1 a2 a3 I J) (5) 0 s0
def F_X12_isRest (a0 : Int32) (a1 : Int32) (a2 : Int32) (a3 : Int32) (I : SI) (J : SJ) : Int32 := (match (F_X12_isRest_l3 a0 a1 a2 a3 I J ()) with | .inl se3 => 1 | .inr re3 => re3)
def H_X12_isRest (a0 : Int32) (a1 : Int32) (a2 : Int32) (a3 : Int32) (I : SI) (J : SJ) : Prop := (∀ (i3 : Nat) (s3 : Unit), i3 < 5 → itE (B_X12_isRest_l3 a0 a1 a2 a3 I J) i3 0 () = .inl s3 → inR a0 92) ∧ (∀ (i3 : Nat) (s3 : Unit), i3 < 5 → itE (B_X12_isRest_l3 a0 a1 a2 a3 I J) i3 0 () = .inl s3 → (I 166 a0.toNatClampNeg) < (nI i3) → inR a1 92) ∧ (∀ (i3 : Nat) (s3 : Unit), i3 < 5 → itE (B_X12_isRest_l3 a0 a1 a2 a3 I J) i3 0 () = .inl s3 → ¬ ((I 166 a0.toNatClampNeg) < (nI i3)) → ¬ ((F_X12_hasOf a2 a3 I J) < (F_X12_hasOf (nI i3) a3 I J)) → inR a1 92)
set_option maxHeartbeats 1210000 in
set_option maxRecDepth 40000 in
theorem c_X12_isRest {I : SI} {J : SJ} {R : SR} {n g : Nat} {f : Fr} (ro : RM R) (hnn : nM ≤ n) (hf : f.1 = false) (a0 : Int32) (a1 : Int32) (a2 : Int32) (a3 : Int32)  (hp : H_X12_isRest a0 a1 a2 a3 I J) : MM 1 0 0 mX12_isRest [.ref 130, .int a0, .int a1, .int a2, .int a3] (eI f I) (eJ f J) R n g (Pd (some (.int (F_X12_isRest a0 a1 a2 a3 I J))) (eI f I) (eJ f J) R n g) := by
  refine MM.of (by decide) (Nat.le_of_ble_eq_true rfl) fun K ok fin => ?_
  show WK K 0 0 0 [(0, .ref 130), (1, .int a0), (2, .int a1), (3, .int a2), (4, .int a3)] [] (eI f I) (eJ f J) R n g
  obtain ⟨hp1, hp2, hp3⟩ := hp
  refine w_iconst (v := 0) ok dX12_isRest_0 (by decide) ?_
  refine w_istore ok dX12_isRest_1 (by decide) rfl ?_
  refine w_loc [1, 2, 3, 4, 5, 0] rfl ?_
  refine loop_e (σ := Unit) (ρ := Int32) (fun (i3 : Nat) (s3 : Unit) => WK K 0 0 3 [(0, .ref 130), (1, .int a0), (2, .int a1), (3, .int a2), (4, .int a3), (5, .int (nI i3))] [] (eI f I) (eJ f J) R n g) (B_X12_isRest_l3 a0 a1 a2 a3 I J) (5) (()) ?_ ?_
  · intro se3 he3
    have he3 : (F_X12_isRest_l3 a0 a1 a2 a3 I J ()) = .inl se3 := he3
    show WK K 0 0 3 [(0, .ref 130), (1, .int a0), (2, .int a1), (3, .int a2), (4, .int a3), (5, .int (nI 5))] [] (eI f I) (eJ f J) R n g
    have e1 : (4 : Int32) < (nI 5) := (show nI 4 < nI 5 from nI_lt (by omega) (by decide))
    refine w_iload ok dX12_isRest_3 5 rfl ?_
    refine w_iconst (v := 4) ok dX12_isRest_5 (by decide) ?_
    refine w_icmp_gt (tgt := 70) ok dX12_isRest_6 (by decide) (fun _ => ?_) (fun h => absurd e1 h)
    refine w_iconst (v := 1) ok dX12_isRest_70 (by decide) ?_
    exact w_zret ok fin dX12_isRest_71 rfl (by decide) (by unfold F_X12_isRest; simp only [he3]; exact Pd.i)
  · intro i3 s3 hi3 hs3 k3 kr3
    show WK K 0 0 3 [(0, .ref 130), (1, .int a0), (2, .int a1), (3, .int a2), (4, .int a3), (5, .int (nI i3))] [] (eI f I) (eJ f J) R n g
    have e2 : ¬ ((4 : Int32) < (nI i3)) := (show ¬ (nI 4 < nI i3) from nI_nlt (by omega) (by decide))
    refine w_iload ok dX12_isRest_3 5 rfl ?_
    refine w_iconst (v := 4) ok dX12_isRest_5 (by decide) ?_
    refine w_icmp_gt (tgt := 70) ok dX12_isRest_6 (by decide) (fun h => absurd h e2) (fun _ => ?_)
    refine w_iload ok dX12_isRest_9 5 rfl ?_
    refine w_aload_n ok dX12_isRest_11 0 rfl ?_
    refine w_getR ok dX12_isRest_12 (fX12_120 rfl) (congrArg Prod.fst s_130) rfl (r_130_51 ro) (ltM hnn (by decide)) ?_
    refine w_iload_n ok dX12_isRest_15 1 rfl ?_
    refine y_iald (q := a0.toNatClampNeg) ok dX12_isRest_16 s_166 (hp1 i3 s3 hi3 hs3) (by decide) (ltM hnn (by decide)) (sdm hf (by decide)) ?_
    refine w_icmp_gt (tgt := 36) ok dX12_isRest_17 (by decide) (fun c3 => ?_) (fun c3 => ?_)
    · skip
      refine w_iload ok dX12_isRest_36 5 rfl ?_
      refine w_aload_n ok dX12_isRest_38 0 rfl ?_
      refine w_getR ok dX12_isRest_39 (fX12_120 rfl) (congrArg Prod.fst s_130) rfl (r_130_51 ro) (ltM hnn (by decide)) ?_
      refine w_iload_n ok dX12_isRest_42 2 rfl ?_
      refine y_iald (q := a1.toNatClampNeg) ok dX12_isRest_43 s_166 (hp2 i3 s3 hi3 hs3 c3) (by decide) (ltM hnn (by decide)) (sdm hf (by decide)) ?_
      refine w_icmp_gt (tgt := 64) ok dX12_isRest_44 (by decide) (fun c4 => ?_) (fun c4 => ?_)
      · skip
        refine w_iinc (v := (nI i3) + 1) ok dX12_isRest_64 5 rfl rfl (by decide) rfl ?_
        refine w_goto (tgt := 3) ok dX12_isRest_67 (by decide) ?_
        have eB : B_X12_isRest_l3 a0 a1 a2 a3 I J i3 s3 = .inl () := by
          unfold B_X12_isRest_l3; exact (if_pos c3).trans ((if_pos c4).trans (rfl))
        have kk := k3 _ eB
        refine w_loc [1, 2, 3, 4, 5, 0] rfl ?_
        rw [nI_1 i3]
        exact kk
      · skip
        refine w_iload ok dX12_isRest_47 5 rfl ?_
        refine w_iload_n ok dX12_isRest_49 3 rfl ?_
        refine w_cS (As := [.int (nI i3), .int a2]) ok dX12_isRest_50 iX12_hasOf (lX12_506 rfl) (c_X12_hasOf ro hnn hf (nI i3) a2 ) (by decide) rfl (Nat.le_of_ble_eq_true rfl) ?_
        refine w_iload ok dX12_isRest_53 4 rfl ?_
        refine w_iload_n ok dX12_isRest_55 3 rfl ?_
        refine w_cS (As := [.int a3, .int a2]) ok dX12_isRest_56 iX12_hasOf (lX12_506 rfl) (c_X12_hasOf ro hnn hf a3 a2 ) (by decide) rfl (Nat.le_of_ble_eq_true rfl) ?_
        show WK K 0 0 59 [(0, .ref 130), (1, .int a0), (2, .int a1), (3, .int a2), (4, .int a3), (5, .int (nI i3))] [.int (F_X12_hasOf a3 a2 I J), .int (F_X12_hasOf (nI i3) a2 I J)] (eI f I) (eJ f J) R n g
        refine w_icmp_le (tgt := 64) ok dX12_isRest_59 (by decide) (fun c5 => ?_) (fun c5 => ?_)
        · skip
          refine w_iinc (v := (nI i3) + 1) ok dX12_isRest_64 5 rfl rfl (by decide) rfl ?_
          refine w_goto (tgt := 3) ok dX12_isRest_67 (by decide) ?_
          have eB : B_X12_isRest_l3 a0 a1 a2 a3 I J i3 s3 = .inl () := by
            unfold B_X12_isRest_l3; exact (if_pos c3).trans ((if_neg c4).trans ((if_pos c5).trans (rfl)))
          have kk := k3 _ eB
          refine w_loc [1, 2, 3, 4, 5, 0] rfl ?_
          rw [nI_1 i3]
          exact kk
        · skip
          refine w_iconst (v := 0) ok dX12_isRest_62 (by decide) ?_
          have eB : B_X12_isRest_l3 a0 a1 a2 a3 I J i3 s3 = .inr 0 := by
            unfold B_X12_isRest_l3; exact (if_pos c3).trans ((if_neg c4).trans ((if_neg c5).trans (rfl)))
          have hr : (F_X12_isRest_l3 a0 a1 a2 a3 I J ()) = .inr 0 := kr3 _ eB
          exact w_zret ok fin dX12_isRest_63 rfl (by decide) (by unfold F_X12_isRest; simp only [hr]; exact Pd.i)
    · skip
      refine w_iload ok dX12_isRest_20 5 rfl ?_
      refine w_iload ok dX12_isRest_22 4 rfl ?_
      refine w_cS (As := [.int (nI i3), .int a3]) ok dX12_isRest_24 iX12_hasOf (lX12_506 rfl) (c_X12_hasOf ro hnn hf (nI i3) a3 ) (by decide) rfl (Nat.le_of_ble_eq_true rfl) ?_
      refine w_iload_n ok dX12_isRest_27 3 rfl ?_
      refine w_iload ok dX12_isRest_28 4 rfl ?_
      refine w_cS (As := [.int a2, .int a3]) ok dX12_isRest_30 iX12_hasOf (lX12_506 rfl) (c_X12_hasOf ro hnn hf a2 a3 ) (by decide) rfl (Nat.le_of_ble_eq_true rfl) ?_
      show WK K 0 0 33 [(0, .ref 130), (1, .int a0), (2, .int a1), (3, .int a2), (4, .int a3), (5, .int (nI i3))] [.int (F_X12_hasOf a2 a3 I J), .int (F_X12_hasOf (nI i3) a3 I J)] (eI f I) (eJ f J) R n g
      refine w_icmp_gt (tgt := 62) ok dX12_isRest_33 (by decide) (fun c6 => ?_) (fun c6 => ?_)
      · skip
        refine w_iconst (v := 0) ok dX12_isRest_62 (by decide) ?_
        have eB : B_X12_isRest_l3 a0 a1 a2 a3 I J i3 s3 = .inr 0 := by
          unfold B_X12_isRest_l3; exact (if_neg c3).trans ((if_pos c6).trans (rfl))
        have hr : (F_X12_isRest_l3 a0 a1 a2 a3 I J ()) = .inr 0 := kr3 _ eB
        exact w_zret ok fin dX12_isRest_63 rfl (by decide) (by unfold F_X12_isRest; simp only [hr]; exact Pd.i)
      · skip
        refine w_iload ok dX12_isRest_36 5 rfl ?_
        refine w_aload_n ok dX12_isRest_38 0 rfl ?_
        refine w_getR ok dX12_isRest_39 (fX12_120 rfl) (congrArg Prod.fst s_130) rfl (r_130_51 ro) (ltM hnn (by decide)) ?_
        refine w_iload_n ok dX12_isRest_42 2 rfl ?_
        refine y_iald (q := a1.toNatClampNeg) ok dX12_isRest_43 s_166 (hp3 i3 s3 hi3 hs3 c3 c6) (by decide) (ltM hnn (by decide)) (sdm hf (by decide)) ?_
        refine w_icmp_gt (tgt := 64) ok dX12_isRest_44 (by decide) (fun c7 => ?_) (fun c7 => ?_)
        · skip
          refine w_iinc (v := (nI i3) + 1) ok dX12_isRest_64 5 rfl rfl (by decide) rfl ?_
          refine w_goto (tgt := 3) ok dX12_isRest_67 (by decide) ?_
          have eB : B_X12_isRest_l3 a0 a1 a2 a3 I J i3 s3 = .inl () := by
            unfold B_X12_isRest_l3; exact (if_neg c3).trans ((if_neg c6).trans ((if_pos c7).trans (rfl)))
          have kk := k3 _ eB
          refine w_loc [1, 2, 3, 4, 5, 0] rfl ?_
          rw [nI_1 i3]
          exact kk
        · skip
          refine w_iload ok dX12_isRest_47 5 rfl ?_
          refine w_iload_n ok dX12_isRest_49 3 rfl ?_
          refine w_cS (As := [.int (nI i3), .int a2]) ok dX12_isRest_50 iX12_hasOf (lX12_506 rfl) (c_X12_hasOf ro hnn hf (nI i3) a2 ) (by decide) rfl (Nat.le_of_ble_eq_true rfl) ?_
          refine w_iload ok dX12_isRest_53 4 rfl ?_
          refine w_iload_n ok dX12_isRest_55 3 rfl ?_
          refine w_cS (As := [.int a3, .int a2]) ok dX12_isRest_56 iX12_hasOf (lX12_506 rfl) (c_X12_hasOf ro hnn hf a3 a2 ) (by decide) rfl (Nat.le_of_ble_eq_true rfl) ?_
          show WK K 0 0 59 [(0, .ref 130), (1, .int a0), (2, .int a1), (3, .int a2), (4, .int a3), (5, .int (nI i3))] [.int (F_X12_hasOf a3 a2 I J), .int (F_X12_hasOf (nI i3) a2 I J)] (eI f I) (eJ f J) R n g
          refine w_icmp_le (tgt := 64) ok dX12_isRest_59 (by decide) (fun c8 => ?_) (fun c8 => ?_)
          · skip
            refine w_iinc (v := (nI i3) + 1) ok dX12_isRest_64 5 rfl rfl (by decide) rfl ?_
            refine w_goto (tgt := 3) ok dX12_isRest_67 (by decide) ?_
            have eB : B_X12_isRest_l3 a0 a1 a2 a3 I J i3 s3 = .inl () := by
              unfold B_X12_isRest_l3; exact (if_neg c3).trans ((if_neg c6).trans ((if_neg c7).trans ((if_pos c8).trans (rfl))))
            have kk := k3 _ eB
            refine w_loc [1, 2, 3, 4, 5, 0] rfl ?_
            rw [nI_1 i3]
            exact kk
          · skip
            refine w_iconst (v := 0) ok dX12_isRest_62 (by decide) ?_
            have eB : B_X12_isRest_l3 a0 a1 a2 a3 I J i3 s3 = .inr 0 := by
              unfold B_X12_isRest_l3; exact (if_neg c3).trans ((if_neg c6).trans ((if_neg c7).trans ((if_neg c8).trans (rfl))))
            have hr : (F_X12_isRest_l3 a0 a1 a2 a3 I J ()) = .inr 0 := kr3 _ eB
            exact w_zret ok fin dX12_isRest_63 rfl (by decide) (by unfold F_X12_isRest; simp only [hr]; exact Pd.i)
def B_X12_restOf_w24 (a0 : Int32) (a1 : Int32) (a2 : Int32) (I : SI) (J : SJ) (s6 : Int32 × Int32) (s24 : Int32 × Int32) : (Int32 × Int32) ⊕ ((Int32 × Int32) ⊕ (Int32)) := if (minI (4) (I 166 a1.toNatClampNeg)) < s24.2 then .inr (.inl (s24.1, s24.2)) else (if (F_X12_isRest a0 a1 s6.2 s24.2 I J) = 0 then .inl (s24.1, (s24.2 + 1)) else (if s24.1 = a2 then .inr (.inr (((10 : Int32) * s6.2) + s24.2)) else .inl ((s24.1 + 1), (s24.2 + 1))))
def F_X12_restOf_w24 (a0 : Int32) (a1 : Int32) (a2 : Int32) (I : SI) (J : SJ) (s6 : Int32 × Int32) (s0 : Int32 × Int32) : (Int32 × Int32) ⊕ (Int32) := (itW (B_X12_restOf_w24 a0 a1 a2 I J s6) 800 s0).getD (.inl s0)
def B_X12_restOf_w6 (a0 : Int32) (a1 : Int32) (a2 : Int32) (I : SI) (J : SJ) (s6 : Int32 × Int32) : (Int32 × Int32) ⊕ ((Int32 × Int32) ⊕ (Int32)) := if (minI (4) (I 166 a0.toNatClampNeg)) < s6.2 then .inr (.inl (s6.1, s6.2)) else (match (F_X12_restOf_w24 a0 a1 a2 I J s6 (s6.1, 0)) with | .inl se24 => .inl (se24.1, (s6.2 + 1)) | .inr re24 => .inr (.inr re24))
def F_X12_restOf_w6 (a0 : Int32) (a1 : Int32) (a2 : Int32) (I : SI) (J : SJ) (s0 : Int32 × Int32) : (Int32 × Int32) ⊕ (Int32) := (itW (B_X12_restOf_w6 a0 a1 a2 I J) 800 s0).getD (.inl s0)
def F_X12_restOf (a0 : Int32) (a1 : Int32) (a2 : Int32) (I : SI) (J : SJ) : Int32 := (match (F_X12_restOf_w6 a0 a1 a2 I J (0, 0)) with | .inl se6 => if a2 = (-1) then se6.1 else -2 | .inr re6 => re6)
def H_X12_restOf (a0 : Int32) (a1 : Int32) (a2 : Int32) (I : SI) (J : SJ) : Prop := ((itW (B_X12_restOf_w6 a0 a1 a2 I J) 800 (0, 0)).isSome = true) ∧ (∀ (n6 : Nat) (s6 : Int32 × Int32), wN (B_X12_restOf_w6 a0 a1 a2 I J) n6 (0, 0) = some s6 → inR a0 92) ∧ (∀ (n6 : Nat) (s6 : Int32 × Int32), wN (B_X12_restOf_w6 a0 a1 a2 I J) n6 (0, 0) = some s6 → ¬ ((minI (4) (I 166 a0.toNatClampNeg)) < s6.2) → (itW (B_X12_restOf_w24 a0 a1 a2 I J s6) 800 (s6.1, 0)).isSome = true) ∧ (∀ (n6 : Nat) (s6 : Int32 × Int32), wN (B_X12_restOf_w6 a0 a1 a2 I J) n6 (0, 0) = some s6 → ¬ ((minI (4) (I 166 a0.toNatClampNeg)) < s6.2) → ∀ (n24 : Nat) (s24 : Int32 × Int32), wN (B_X12_restOf_w24 a0 a1 a2 I J s6) n24 (s6.1, 0) = some s24 → inR a1 92) ∧ (∀ (n6 : Nat) (s6 : Int32 × Int32), wN (B_X12_restOf_w6 a0 a1 a2 I J) n6 (0, 0) = some s6 → ¬ ((minI (4) (I 166 a0.toNatClampNeg)) < s6.2) → ∀ (n24 : Nat) (s24 : Int32 × Int32), wN (B_X12_restOf_w24 a0 a1 a2 I J s6) n24 (s6.1, 0) = some s24 → ¬ ((minI (4) (I 166 a1.toNatClampNeg)) < s24.2) → H_X12_isRest a0 a1 s6.2 s24.2 I J)
set_option maxHeartbeats 1120000 in
set_option maxRecDepth 40000 in
theorem c_X12_restOf {I : SI} {J : SJ} {R : SR} {n g : Nat} {f : Fr} (ro : RM R) (hnn : nM ≤ n) (hf : f.1 = false) (a0 : Int32) (a1 : Int32) (a2 : Int32)  (hp : H_X12_restOf a0 a1 a2 I J) : MM 2 0 0 mX12_restOf [.ref 130, .int a0, .int a1, .int a2] (eI f I) (eJ f J) R n g (Pd (some (.int (F_X12_restOf a0 a1 a2 I J))) (eI f I) (eJ f J) R n g) := by
  refine MM.of (by decide) (Nat.le_of_ble_eq_true rfl) fun K ok fin => ?_
  show WK K 0 0 0 [(0, .ref 130), (1, .int a0), (2, .int a1), (3, .int a2)] [] (eI f I) (eJ f J) R n g
  obtain ⟨hp1, hp2, hp3, hp4, hp5⟩ := hp
  refine w_iconst (v := 0) ok dX12_restOf_0 (by decide) ?_
  refine w_istore ok dX12_restOf_1 (by decide) rfl ?_
  refine w_iconst (v := 0) ok dX12_restOf_3 (by decide) ?_
  refine w_istore ok dX12_restOf_4 (by decide) rfl ?_
  refine w_loc [2, 3, 4, 5, 1, 0] rfl ?_
  refine loop_wr (σ := Int32 × Int32) (ρ := Int32) (fun (s6 : Int32 × Int32) => WK K 0 0 6 [(0, .ref 130), (1, .int a0), (2, .int a1), (3, .int a2), (4, .int s6.1), (5, .int s6.2)] [] (eI f I) (eJ f J) R n g) (B_X12_restOf_w6 a0 a1 a2 I J) 800 (0, 0) (F_X12_restOf_w6 a0 a1 a2 I J (0, 0)) (itW_some2 (hp1)) ?_
  · intro n6 s6 hs6 kc6 kr6
    have kx6 : ∀ se6 : Int32 × Int32, B_X12_restOf_w6 a0 a1 a2 I J s6 = .inr (.inl se6) → WK K 0 0 85 [(0, .ref 130), (1, .int a0), (2, .int a1), (3, .int a2), (4, .int se6.1), (5, .int se6.2)] [] (eI f I) (eJ f J) R n g := by
      intro se6 hb6
      have he6 : (F_X12_restOf_w6 a0 a1 a2 I J (0, 0)) = .inl se6 := kr6 _ hb6
      refine w_iload_n ok dX12_restOf_85 3 rfl ?_
      refine w_iconst (v := (-1)) ok dX12_restOf_86 (by decide) ?_
      refine w_icmp_ne (tgt := 95) ok dX12_restOf_87 (by decide) (fun c1 => ?_) (fun c1 => ?_)
      · skip
        refine w_bipush (v := (-2)) ok dX12_restOf_95 (by decide) ?_
        exact w_iret ok fin dX12_restOf_97 rfl (by unfold F_X12_restOf; simp only [he6]; simp only [if_neg c1]; exact Pd.i)
      · skip
        refine w_iload ok dX12_restOf_90 4 rfl ?_
        refine w_goto (tgt := 97) ok dX12_restOf_92 (by decide) ?_
        exact w_iret ok fin dX12_restOf_97 rfl (by unfold F_X12_restOf; simp only [he6]; simp only [if_pos c1]; exact Pd.i)
    show WK K 0 0 6 [(0, .ref 130), (1, .int a0), (2, .int a1), (3, .int a2), (4, .int s6.1), (5, .int s6.2)] [] (eI f I) (eJ f J) R n g
    refine w_iload ok dX12_restOf_6 5 rfl ?_
    refine w_iconst (v := 4) ok dX12_restOf_8 (by decide) ?_
    refine w_aload_n ok dX12_restOf_9 0 rfl ?_
    refine w_getR ok dX12_restOf_10 (fX12_120 rfl) (congrArg Prod.fst s_130) rfl (r_130_51 ro) (ltM hnn (by decide)) ?_
    refine w_iload_n ok dX12_restOf_13 1 rfl ?_
    refine y_iald (q := a0.toNatClampNeg) ok dX12_restOf_14 s_166 (hp2 n6 s6 hs6) (by decide) (ltM hnn (by decide)) (sdm hf (by decide)) ?_
    refine w_minI ok dX12_restOf_15 (iT_8 236 (by decide +kernel) (by decide +kernel)) (Nat.le_of_ble_eq_true rfl) ?_
    show WK K 0 0 18 [(0, .ref 130), (1, .int a0), (2, .int a1), (3, .int a2), (4, .int s6.1), (5, .int s6.2)] [.int (minI (4) (I 166 a0.toNatClampNeg)), .int s6.2] (eI f I) (eJ f J) R n g
    refine w_icmp_gt (tgt := 85) ok dX12_restOf_18 (by decide) (fun c2 => ?_) (fun c2 => ?_)
    · skip
      have eB : B_X12_restOf_w6 a0 a1 a2 I J s6 = .inr (.inl (s6.1, s6.2)) := by
        unfold B_X12_restOf_w6; exact (if_pos c2).trans (rfl)
      refine w_loc [0, 1, 2, 3, 4, 5] rfl ?_
      have kk := kx6 _ eB
      exact kk
    · skip
      refine w_iconst (v := 0) ok dX12_restOf_21 (by decide) ?_
      refine w_istore ok dX12_restOf_22 (by decide) rfl ?_
      refine w_loc [1, 2, 3, 4, 5, 6, 0] rfl ?_
      refine loop_wr (σ := Int32 × Int32) (ρ := Int32) (fun (s24 : Int32 × Int32) => WK K 0 0 24 [(0, .ref 130), (1, .int a0), (2, .int a1), (3, .int a2), (4, .int s24.1), (5, .int s6.2), (6, .int s24.2)] [] (eI f I) (eJ f J) R n g) (B_X12_restOf_w24 a0 a1 a2 I J s6) 800 (s6.1, 0) (F_X12_restOf_w24 a0 a1 a2 I J s6 (s6.1, 0)) (itW_some2 (hp3 n6 s6 hs6 c2)) ?_
      · intro n24 s24 hs24 kc24 kr24
        have kx24 : ∀ se24 : Int32 × Int32, B_X12_restOf_w24 a0 a1 a2 I J s6 s24 = .inr (.inl se24) → WK K 0 0 79 [(0, .ref 130), (1, .int a0), (2, .int a1), (3, .int a2), (4, .int se24.1), (5, .int s6.2), (6, .int se24.2)] [] (eI f I) (eJ f J) R n g := by
          intro se24 hb24
          have he24 : (F_X12_restOf_w24 a0 a1 a2 I J s6 (s6.1, 0)) = .inl se24 := kr24 _ hb24
          refine w_iinc (v := s6.2 + 1) ok dX12_restOf_79 5 rfl rfl (by decide) rfl ?_
          refine w_goto (tgt := 6) ok dX12_restOf_82 (by decide) ?_
          have eB : B_X12_restOf_w6 a0 a1 a2 I J s6 = .inl (se24.1, (s6.2 + 1)) := by
            unfold B_X12_restOf_w6; rw [if_neg c2]; simp only [he24]; try rfl
          refine w_loc [1, 2, 3, 4, 5, 0] rfl ?_
          have kk := kc6 _ eB
          exact kk
        show WK K 0 0 24 [(0, .ref 130), (1, .int a0), (2, .int a1), (3, .int a2), (4, .int s24.1), (5, .int s6.2), (6, .int s24.2)] [] (eI f I) (eJ f J) R n g
        refine w_iload ok dX12_restOf_24 6 rfl ?_
        refine w_iconst (v := 4) ok dX12_restOf_26 (by decide) ?_
        refine w_aload_n ok dX12_restOf_27 0 rfl ?_
        refine w_getR ok dX12_restOf_28 (fX12_120 rfl) (congrArg Prod.fst s_130) rfl (r_130_51 ro) (ltM hnn (by decide)) ?_
        refine w_iload_n ok dX12_restOf_31 2 rfl ?_
        refine y_iald (q := a1.toNatClampNeg) ok dX12_restOf_32 s_166 (hp4 n6 s6 hs6 c2 n24 s24 hs24) (by decide) (ltM hnn (by decide)) (sdm hf (by decide)) ?_
        refine w_minI ok dX12_restOf_33 (iT_8 236 (by decide +kernel) (by decide +kernel)) (Nat.le_of_ble_eq_true rfl) ?_
        show WK K 0 0 36 [(0, .ref 130), (1, .int a0), (2, .int a1), (3, .int a2), (4, .int s24.1), (5, .int s6.2), (6, .int s24.2)] [.int (minI (4) (I 166 a1.toNatClampNeg)), .int s24.2] (eI f I) (eJ f J) R n g
        refine w_icmp_gt (tgt := 79) ok dX12_restOf_36 (by decide) (fun c3 => ?_) (fun c3 => ?_)
        · skip
          have eB : B_X12_restOf_w24 a0 a1 a2 I J s6 s24 = .inr (.inl (s24.1, s24.2)) := by
            unfold B_X12_restOf_w24; exact (if_pos c3).trans (rfl)
          refine w_loc [0, 1, 2, 3, 4, 5, 6] rfl ?_
          have kk := kx24 _ eB
          exact kk
        · skip
          refine w_aload_n ok dX12_restOf_39 0 rfl ?_
          refine w_iload_n ok dX12_restOf_40 1 rfl ?_
          refine w_iload_n ok dX12_restOf_41 2 rfl ?_
          refine w_iload ok dX12_restOf_42 5 rfl ?_
          refine w_iload ok dX12_restOf_44 6 rfl ?_
          refine w_cV (As := [.int a0, .int a1, .int s6.2, .int s24.2]) ok dX12_restOf_46 iX12_isRest (lX12_511 rfl) (rcv cls12 (congrArg Prod.fst s_130)) (ltM hnn (by decide)) (c_X12_isRest ro hnn hf a0 a1 s6.2 s24.2  (hp5 n6 s6 hs6 c2 n24 s24 hs24 c3)) (by decide) rfl (Nat.le_of_ble_eq_true rfl) ?_
          refine w_if_ne (tgt := 55) ok dX12_restOf_49 (by decide) (fun c4 => ?_) (fun c4 => ?_)
          · skip
            refine w_iload ok dX12_restOf_55 4 rfl ?_
            refine w_iload_n ok dX12_restOf_57 3 rfl ?_
            refine w_icmp_ne (tgt := 70) ok dX12_restOf_58 (by decide) (fun c5 => ?_) (fun c5 => ?_)
            · skip
              refine w_iinc (v := s24.1 + 1) ok dX12_restOf_70 4 rfl rfl (by decide) rfl ?_
              refine w_iinc (v := s24.2 + 1) ok dX12_restOf_73 6 rfl rfl (by decide) rfl ?_
              refine w_goto (tgt := 24) ok dX12_restOf_76 (by decide) ?_
              have eB : B_X12_restOf_w24 a0 a1 a2 I J s6 s24 = .inl ((s24.1 + 1), (s24.2 + 1)) := by
                unfold B_X12_restOf_w24; exact (if_neg c3).trans ((if_neg c4).trans ((if_neg c5).trans (rfl)))
              refine w_loc [2, 3, 4, 5, 1, 6, 0] rfl ?_
              have kk := kc24 _ eB
              exact kk
            · skip
              refine w_bipush (v := 10) ok dX12_restOf_61 (by decide) ?_
              refine w_iload ok dX12_restOf_63 5 rfl ?_
              refine w_imul ok dX12_restOf_65 ?_
              refine w_iload ok dX12_restOf_66 6 rfl ?_
              refine w_iadd ok dX12_restOf_68 ?_
              have eB : B_X12_restOf_w24 a0 a1 a2 I J s6 s24 = .inr (.inr (((10 : Int32) * s6.2) + s24.2)) := by
                unfold B_X12_restOf_w24; exact (if_neg c3).trans ((if_neg c4).trans ((if_pos c5).trans (rfl)))
              have hr : (F_X12_restOf_w24 a0 a1 a2 I J s6 (s6.1, 0)) = .inr (((10 : Int32) * s6.2) + s24.2) := kr24 _ eB
              have eB2 : B_X12_restOf_w6 a0 a1 a2 I J s6 = .inr (.inr (((10 : Int32) * s6.2) + s24.2)) := by
                unfold B_X12_restOf_w6; rw [if_neg c2]; simp only [hr]
              have hr2 : (F_X12_restOf_w6 a0 a1 a2 I J (0, 0)) = .inr (((10 : Int32) * s6.2) + s24.2) := kr6 _ eB2
              exact w_iret ok fin dX12_restOf_69 rfl (by unfold F_X12_restOf; simp only [hr2]; exact Pd.i)
          · skip
            refine w_goto (tgt := 73) ok dX12_restOf_52 (by decide) ?_
            refine w_iinc (v := s24.2 + 1) ok dX12_restOf_73 6 rfl rfl (by decide) rfl ?_
            refine w_goto (tgt := 24) ok dX12_restOf_76 (by decide) ?_
            have eB : B_X12_restOf_w24 a0 a1 a2 I J s6 s24 = .inl (s24.1, (s24.2 + 1)) := by
              unfold B_X12_restOf_w24; exact (if_neg c3).trans ((if_pos c4).trans (rfl))
            refine w_loc [1, 2, 3, 4, 5, 6, 0] rfl ?_
            have kk := kc24 _ eB
            exact kk
def F_X12_areTwo (a0 : Int32) (a1 : Int32) (I : SI) (J : SJ) : Int32 := if (F_X12_isParty a0 I J) = 0 then 0 else (if (F_X12_isParty a1 I J) = 0 then 0 else (if a0 = a1 then 0 else 1))
set_option maxHeartbeats 1000000 in
set_option maxRecDepth 40000 in
theorem c_X12_areTwo {I : SI} {J : SJ} {R : SR} {n g : Nat} {f : Fr} (ro : RM R) (hnn : nM ≤ n) (hf : f.1 = false) (a0 : Int32) (a1 : Int32)   : MM 1 0 0 mX12_areTwo [.ref 130, .int a0, .int a1] (eI f I) (eJ f J) R n g (Pd (some (.int (F_X12_areTwo a0 a1 I J))) (eI f I) (eJ f J) R n g) := by
  refine MM.of (by decide) (Nat.le_of_ble_eq_true rfl) fun K ok fin => ?_
  show WK K 0 0 0 [(0, .ref 130), (1, .int a0), (2, .int a1)] [] (eI f I) (eJ f J) R n g
  refine w_aload_n ok dX12_areTwo_0 0 rfl ?_
  refine w_iload_n ok dX12_areTwo_1 1 rfl ?_
  refine w_cV (As := [.int a0]) ok dX12_areTwo_2 iX12_isParty (lX12_456 rfl) (rcv cls12 (congrArg Prod.fst s_130)) (ltM hnn (by decide)) (c_X12_isParty ro hnn hf a0 ) (by decide) rfl (Nat.le_of_ble_eq_true rfl) ?_
  refine w_if_eq (tgt := 25) ok dX12_areTwo_5 (by decide) (fun c1 => ?_) (fun c1 => ?_)
  · skip
    refine w_iconst (v := 0) ok dX12_areTwo_25 (by decide) ?_
    exact w_zret ok fin dX12_areTwo_26 rfl (by decide) (by unfold F_X12_areTwo; simp only [if_pos c1]; exact Pd.i)
  · skip
    refine w_aload_n ok dX12_areTwo_8 0 rfl ?_
    refine w_iload_n ok dX12_areTwo_9 2 rfl ?_
    refine w_cV (As := [.int a1]) ok dX12_areTwo_10 iX12_isParty (lX12_456 rfl) (rcv cls12 (congrArg Prod.fst s_130)) (ltM hnn (by decide)) (c_X12_isParty ro hnn hf a1 ) (by decide) rfl (Nat.le_of_ble_eq_true rfl) ?_
    refine w_if_eq (tgt := 25) ok dX12_areTwo_13 (by decide) (fun c2 => ?_) (fun c2 => ?_)
    · skip
      refine w_iconst (v := 0) ok dX12_areTwo_25 (by decide) ?_
      exact w_zret ok fin dX12_areTwo_26 rfl (by decide) (by unfold F_X12_areTwo; simp only [if_neg c1]; simp only [if_pos c2]; exact Pd.i)
    · skip
      refine w_iload_n ok dX12_areTwo_16 1 rfl ?_
      refine w_iload_n ok dX12_areTwo_17 2 rfl ?_
      refine w_icmp_eq (tgt := 25) ok dX12_areTwo_18 (by decide) (fun c3 => ?_) (fun c3 => ?_)
      · skip
        refine w_iconst (v := 0) ok dX12_areTwo_25 (by decide) ?_
        exact w_zret ok fin dX12_areTwo_26 rfl (by decide) (by unfold F_X12_areTwo; simp only [if_neg c1]; simp only [if_neg c2]; simp only [if_pos c3]; exact Pd.i)
      · skip
        refine w_iconst (v := 1) ok dX12_areTwo_21 (by decide) ?_
        refine w_goto (tgt := 26) ok dX12_areTwo_22 (by decide) ?_
        exact w_zret ok fin dX12_areTwo_26 rfl (by decide) (by unfold F_X12_areTwo; simp only [if_neg c1]; simp only [if_neg c2]; simp only [if_neg c3]; exact Pd.i)
def F_X12_rests (a0 : Int32) (a1 : Int32) (I : SI) (J : SJ) : Int32 := if (F_X12_areTwo a0 a1 (u2 I 130 0 0) J) = 0 then -1 else F_X12_restOf a0 a1 (-1) (u2 I 130 0 0) J
def FI_X12_rests (a0 : Int32) (a1 : Int32) (I : SI) (J : SJ) : SI := if (F_X12_areTwo a0 a1 (u2 I 130 0 0) J) = 0 then u2 I 130 0 0 else u2 I 130 0 0
def H_X12_rests (a0 : Int32) (a1 : Int32) (I : SI) (J : SJ) : Prop := (¬ ((F_X12_areTwo a0 a1 (u2 I 130 0 0) J) = 0) → H_X12_restOf a0 a1 (-1) (u2 I 130 0 0) J)
set_option maxHeartbeats 1000000 in
set_option maxRecDepth 40000 in
theorem c_X12_rests {I : SI} {J : SJ} {R : SR} {n g : Nat} {f : Fr} (ro : RM R) (hnn : nM ≤ n) (hf : f.1 = false) (a0 : Int32) (a1 : Int32)  (hp : H_X12_rests a0 a1 I J) : MM 3 0 0 mX12_rests [.ref 130, .int a0, .int a1] (eI f I) (eJ f J) R n g (Pd (some (.int (F_X12_rests a0 a1 I J))) (eI f (FI_X12_rests a0 a1 I J)) (eJ f J) R n g) := by
  refine MM.of (by decide) (Nat.le_of_ble_eq_true rfl) fun K ok fin => ?_
  show WK K 0 0 0 [(0, .ref 130), (1, .int a0), (2, .int a1)] [] (eI f I) (eJ f J) R n g
  have hp1 := hp
  refine w_aload_n ok dX12_rests_0 0 rfl ?_
  refine w_iconst (v := 0) ok dX12_rests_1 (by decide) ?_
  refine y_putI ok dX12_rests_2 (fwX12_169 rfl) (congrArg Prod.fst s_130) rfl (ltM hnn (by decide)) (sdm hf (by decide)) ?_
  refine w_aload_n ok dX12_rests_5 0 rfl ?_
  refine w_iload_n ok dX12_rests_6 1 rfl ?_
  refine w_iload_n ok dX12_rests_7 2 rfl ?_
  refine w_cV (As := [.int a0, .int a1]) ok dX12_rests_8 iX12_areTwo (lX12_515 rfl) (rcv cls12 (congrArg Prod.fst s_130)) (ltM hnn (by decide)) (c_X12_areTwo ro hnn hf a0 a1 ) (by decide) rfl (Nat.le_of_ble_eq_true rfl) ?_
  refine w_if_eq (tgt := 24) ok dX12_rests_11 (by decide) (fun c1 => ?_) (fun c1 => ?_)
  · skip
    refine w_iconst (v := (-1)) ok dX12_rests_24 (by decide) ?_
    exact w_iret ok fin dX12_rests_25 rfl (by unfold F_X12_rests FI_X12_rests; simp only [if_pos c1]; exact Pd.i)
  · skip
    refine w_aload_n ok dX12_rests_14 0 rfl ?_
    refine w_iload_n ok dX12_rests_15 1 rfl ?_
    refine w_iload_n ok dX12_rests_16 2 rfl ?_
    refine w_iconst (v := (-1)) ok dX12_rests_17 (by decide) ?_
    refine w_cV (As := [.int a0, .int a1, .int (-1)]) ok dX12_rests_18 iX12_restOf (lX12_518 rfl) (rcv cls12 (congrArg Prod.fst s_130)) (ltM hnn (by decide)) (c_X12_restOf ro hnn hf a0 a1 (-1)  (hp1 c1)) (by decide) rfl (Nat.le_of_ble_eq_true rfl) ?_
    refine w_goto (tgt := 25) ok dX12_rests_21 (by decide) ?_
    exact w_iret ok fin dX12_rests_25 rfl (by unfold F_X12_rests FI_X12_rests; simp only [if_neg c1]; exact Pd.i)
def F_X12_rest (a0 : Int32) (a1 : Int32) (a2 : Int32) (I : SI) (J : SJ) : Int32 := if (F_X12_areTwo a0 a1 (u2 I 130 0 0) J) = 0 then -1 else (if a2 < 0 then -1 else F_X12_restOf a0 a1 a2 (u2 I 130 0 0) J)
def FI_X12_rest (a0 : Int32) (a1 : Int32) (a2 : Int32) (I : SI) (J : SJ) : SI := if (F_X12_areTwo a0 a1 (u2 I 130 0 0) J) = 0 then u2 I 130 0 0 else (if a2 < 0 then u2 I 130 0 0 else u2 I 130 0 0)
def H_X12_rest (a0 : Int32) (a1 : Int32) (a2 : Int32) (I : SI) (J : SJ) : Prop := (¬ ((F_X12_areTwo a0 a1 (u2 I 130 0 0) J) = 0) → ¬ (a2 < 0) → H_X12_restOf a0 a1 a2 (u2 I 130 0 0) J)
set_option maxHeartbeats 1000000 in
set_option maxRecDepth 40000 in
theorem c_X12_rest {I : SI} {J : SJ} {R : SR} {n g : Nat} {f : Fr} (ro : RM R) (hnn : nM ≤ n) (hf : f.1 = false) (a0 : Int32) (a1 : Int32) (a2 : Int32)  (hp : H_X12_rest a0 a1 a2 I J) : MM 3 0 0 mX12_rest [.ref 130, .int a0, .int a1, .int a2] (eI f I) (eJ f J) R n g (Pd (some (.int (F_X12_rest a0 a1 a2 I J))) (eI f (FI_X12_rest a0 a1 a2 I J)) (eJ f J) R n g) := by
  refine MM.of (by decide) (Nat.le_of_ble_eq_true rfl) fun K ok fin => ?_
  show WK K 0 0 0 [(0, .ref 130), (1, .int a0), (2, .int a1), (3, .int a2)] [] (eI f I) (eJ f J) R n g
  have hp1 := hp
  refine w_aload_n ok dX12_rest_0 0 rfl ?_
  refine w_iconst (v := 0) ok dX12_rest_1 (by decide) ?_
  refine y_putI ok dX12_rest_2 (fwX12_169 rfl) (congrArg Prod.fst s_130) rfl (ltM hnn (by decide)) (sdm hf (by decide)) ?_
  refine w_aload_n ok dX12_rest_5 0 rfl ?_
  refine w_iload_n ok dX12_rest_6 1 rfl ?_
  refine w_iload_n ok dX12_rest_7 2 rfl ?_
  refine w_cV (As := [.int a0, .int a1]) ok dX12_rest_8 iX12_areTwo (lX12_515 rfl) (rcv cls12 (congrArg Prod.fst s_130)) (ltM hnn (by decide)) (c_X12_areTwo ro hnn hf a0 a1 ) (by decide) rfl (Nat.le_of_ble_eq_true rfl) ?_
  refine w_if_eq (tgt := 28) ok dX12_rest_11 (by decide) (fun c1 => ?_) (fun c1 => ?_)
  · skip
    refine w_iconst (v := (-1)) ok dX12_rest_28 (by decide) ?_
    exact w_iret ok fin dX12_rest_29 rfl (by unfold F_X12_rest FI_X12_rest; simp only [if_pos c1]; exact Pd.i)
  · skip
    refine w_iload_n ok dX12_rest_14 3 rfl ?_
    refine w_if_lt (tgt := 28) ok dX12_rest_15 (by decide) (fun c2 => ?_) (fun c2 => ?_)
    · skip
      refine w_iconst (v := (-1)) ok dX12_rest_28 (by decide) ?_
      exact w_iret ok fin dX12_rest_29 rfl (by unfold F_X12_rest FI_X12_rest; simp only [if_neg c1]; simp only [if_pos c2]; exact Pd.i)
    · skip
      refine w_aload_n ok dX12_rest_18 0 rfl ?_
      refine w_iload_n ok dX12_rest_19 1 rfl ?_
      refine w_iload_n ok dX12_rest_20 2 rfl ?_
      refine w_iload_n ok dX12_rest_21 3 rfl ?_
      refine w_cV (As := [.int a0, .int a1, .int a2]) ok dX12_rest_22 iX12_restOf (lX12_518 rfl) (rcv cls12 (congrArg Prod.fst s_130)) (ltM hnn (by decide)) (c_X12_restOf ro hnn hf a0 a1 a2  (hp1 c1 c2)) (by decide) rfl (Nat.le_of_ble_eq_true rfl) ?_
      refine w_goto (tgt := 29) ok dX12_rest_25 (by decide) ?_
      exact w_iret ok fin dX12_rest_29 rfl (by unfold F_X12_rest FI_X12_rest; simp only [if_neg c1]; simp only [if_neg c2]; exact Pd.i)
def B_X12_common_w6 (a0 : Int64) (a1 : Int64) (I : SI) (J : SJ) (s6 : Int64 × Int64) : (Int64 × Int64) ⊕ (Int64 × Int64) := if (lg_cmp s6.2 0) = 0 then .inr (s6.1, s6.2) else .inl (s6.2, (s6.1 - s6.1 / s6.2 * s6.2))
def F_X12_common_w6 (a0 : Int64) (a1 : Int64) (I : SI) (J : SJ) (s0 : Int64 × Int64) : Int64 × Int64 := (itW (B_X12_common_w6 a0 a1 I J) 800 s0).getD s0
def F_X12_common (a0 : Int64) (a1 : Int64) (I : SI) (J : SJ) : Int64 := (F_X12_common_w6 a0 a1 I J (a0, a1)).1
def H_X12_common (a0 : Int64) (a1 : Int64) (I : SI) (J : SJ) : Prop := ((itW (B_X12_common_w6 a0 a1 I J) 800 (a0, a1)).isSome = true) ∧ (∀ (n6 : Nat) (s6 : Int64 × Int64), wN (B_X12_common_w6 a0 a1 I J) n6 (a0, a1) = some s6 → ¬ ((lg_cmp s6.2 0) = 0) → ¬ s6.2 = 0)
set_option maxHeartbeats 1000000 in
set_option maxRecDepth 40000 in
theorem c_X12_common {I : SI} {J : SJ} {R : SR} {n g : Nat} {f : Fr} (ro : RM R) (hnn : nM ≤ n) (hf : f.1 = false) (a0 : Int64) (a1 : Int64)  (hp : H_X12_common a0 a1 I J) : MM 0 0 0 mX12_common [.long a0, .long a1] (eI f I) (eJ f J) R n g (Pd (some (.long (F_X12_common a0 a1 I J))) (eI f I) (eJ f J) R n g) := by
  refine MM.of (by decide) (Nat.le_of_ble_eq_true rfl) fun K ok fin => ?_
  show WK K 0 0 0 [(0, .long a0), (2, .long a1)] [] (eI f I) (eJ f J) R n g
  obtain ⟨hp1, hp2⟩ := hp
  refine w_lload_n ok dX12_common_0 0 rfl ?_
  refine w_lstore ok dX12_common_1 (by decide) rfl ?_
  refine w_lload_n ok dX12_common_3 2 rfl ?_
  refine w_lstore ok dX12_common_4 (by decide) rfl ?_
  refine w_loc [2, 3, 1, 0] rfl ?_
  refine loop_w (fun (s6 : Int64 × Int64) => WK K 0 0 6 [(0, .long a0), (2, .long a1), (4, .long s6.1), (6, .long s6.2)] [] (eI f I) (eJ f J) R n g) (fun (s6 : Int64 × Int64) => WK K 0 0 31 [(0, .long a0), (2, .long a1), (4, .long s6.1), (6, .long s6.2)] [] (eI f I) (eJ f J) R n g) (B_X12_common_w6 a0 a1 I J) 800 (a0, a1) (F_X12_common_w6 a0 a1 I J (a0, a1)) (itW_some (hp1)) ?_ ?_
  · show WK K 0 0 31 [(0, .long a0), (2, .long a1), (4, .long ((F_X12_common_w6 a0 a1 I J (a0, a1)).1)), (6, .long ((F_X12_common_w6 a0 a1 I J (a0, a1)).2))] [] (eI f I) (eJ f J) R n g
    refine w_lload ok dX12_common_31 2 rfl ?_
    exact w_lret ok fin dX12_common_33 rfl (by unfold F_X12_common; exact Pd.i)
  · intro n6 s6 hs6 kc6 kx6
    show WK K 0 0 6 [(0, .long a0), (2, .long a1), (4, .long s6.1), (6, .long s6.2)] [] (eI f I) (eJ f J) R n g
    refine w_lload ok dX12_common_6 3 rfl ?_
    refine w_lconst (v := 0) ok dX12_common_8 (by decide) ?_
    refine w_lcmp ok dX12_common_9 ?_
    refine w_if_eq (tgt := 31) ok dX12_common_10 (by decide) (fun c1 => ?_) (fun c1 => ?_)
    · skip
      have eB : B_X12_common_w6 a0 a1 I J s6 = .inr (s6.1, s6.2) := by
        unfold B_X12_common_w6; exact (if_pos c1).trans (rfl)
      refine w_loc [0, 1, 2, 3] rfl ?_
      have kk := kx6 _ eB
      exact kk
    · skip
      refine w_lload ok dX12_common_13 2 rfl ?_
      refine w_lload ok dX12_common_15 3 rfl ?_
      refine w_lrem ok dX12_common_17 (hp2 n6 s6 hs6 c1) ?_
      refine w_lstore ok dX12_common_18 (by decide) rfl ?_
      refine w_lload ok dX12_common_20 4 rfl ?_
      refine w_lstore ok dX12_common_22 (by decide) rfl ?_
      refine w_lload ok dX12_common_24 1 rfl ?_
      refine w_lstore ok dX12_common_26 (by decide) rfl ?_
      refine w_goto (tgt := 6) ok dX12_common_28 (by decide) ?_
      have eB : B_X12_common_w6 a0 a1 I J s6 = .inl (s6.2, (s6.1 - s6.1 / s6.2 * s6.2)) := by
        unfold B_X12_common_w6; exact (if_neg c1).trans (rfl)
      refine w_loc [3, 4, 1, 0] rfl ?_
      have kk := kc6 _ eB
      exact kk
def B_X12_there_l36 (a0 : Int32) (a1 : Int32) (I : SI) (J : SJ) (i36 : Nat) (s36 : Int64 × Int64) : Int64 × Int64 := ((s36.1 * (100 - (((u2 I 130 0 0) 132 6).toInt64))), (s36.2 * 100))
def F_X12_there_l36 (a0 : Int32) (a1 : Int32) (I : SI) (J : SJ) (s0 : Int64 × Int64) : Int64 × Int64 := itN (B_X12_there_l36 a0 a1 I J) (a0.toNatClampNeg) s0
def S1_X12_there (a0 : Int32) (a1 : Int32) (I : SI) (J : SJ) : Int64 := F_X12_common ((F_X12_there_l36 a0 a1 I J (1, 1)).1) ((F_X12_there_l36 a0 a1 I J (1, 1)).2) (u2 I 130 0 0) J
def F_X12_there (a0 : Int32) (a1 : Int32) (I : SI) (J : SJ) : Int64 := if a0 < 0 then -1 else (if (6 : Int32) < a0 then -1 else (if a1 < 0 then -1 else (if a1 ≤ 1 then (if a1 = 0 then ((F_X12_there_l36 a0 a1 I J (1, 1)).1) / (S1_X12_there a0 a1 I J) else ((F_X12_there_l36 a0 a1 I J (1, 1)).2) / (S1_X12_there a0 a1 I J)) else -1)))
def FI_X12_there (a0 : Int32) (a1 : Int32) (I : SI) (J : SJ) : SI := if a0 < 0 then u2 I 130 0 0 else (if (6 : Int32) < a0 then u2 I 130 0 0 else (if a1 < 0 then u2 I 130 0 0 else (if a1 ≤ 1 then (if a1 = 0 then u2 I 130 0 0 else u2 I 130 0 0) else u2 I 130 0 0)))
def H_X12_there (a0 : Int32) (a1 : Int32) (I : SI) (J : SJ) : Prop := (¬ (a0 < 0) → ¬ ((6 : Int32) < a0) → ¬ (a1 < 0) → a1 ≤ 1 → H_X12_common ((F_X12_there_l36 a0 a1 I J (1, 1)).1) ((F_X12_there_l36 a0 a1 I J (1, 1)).2) (u2 I 130 0 0) J) ∧ (¬ (a0 < 0) → ¬ ((6 : Int32) < a0) → ¬ (a1 < 0) → a1 ≤ 1 → ¬ (a1 = 0) → ¬ (S1_X12_there a0 a1 I J) = 0) ∧ (¬ (a0 < 0) → ¬ ((6 : Int32) < a0) → ¬ (a1 < 0) → a1 ≤ 1 → a1 = 0 → ¬ (S1_X12_there a0 a1 I J) = 0)
set_option maxHeartbeats 1000000 in
set_option maxRecDepth 40000 in
theorem c_X12_there {I : SI} {J : SJ} {R : SR} {n g : Nat} {f : Fr} (ro : RM R) (hnn : nM ≤ n) (hf : f.1 = false) (a0 : Int32) (a1 : Int32)  (hp : H_X12_there a0 a1 I J) : MM 1 0 0 mX12_there [.ref 130, .int a0, .int a1] (eI f I) (eJ f J) R n g (Pd (some (.long (F_X12_there a0 a1 I J))) (eI f (FI_X12_there a0 a1 I J)) (eJ f J) R n g) := by
  refine MM.of (by decide) (Nat.le_of_ble_eq_true rfl) fun K ok fin => ?_
  show WK K 0 0 0 [(0, .ref 130), (1, .int a0), (2, .int a1)] [] (eI f I) (eJ f J) R n g
  obtain ⟨hp1, hp2, hp3⟩ := hp
  refine w_aload_n ok dX12_there_0 0 rfl ?_
  refine w_iconst (v := 0) ok dX12_there_1 (by decide) ?_
  refine y_putI ok dX12_there_2 (fwX12_169 rfl) (congrArg Prod.fst s_130) rfl (ltM hnn (by decide)) (sdm hf (by decide)) ?_
  refine w_iload_n ok dX12_there_5 1 rfl ?_
  refine w_if_lt (tgt := 24) ok dX12_there_6 (by decide) (fun c1 => ?_) (fun c1 => ?_)
  · skip
    refine w_ldc2 ok dX12_there_24 kX12_521 ?_
    exact w_lret ok fin dX12_there_27 rfl (by unfold F_X12_there FI_X12_there; simp only [if_pos c1]; exact Pd.i)
  · skip
    refine w_iload_n ok dX12_there_9 1 rfl ?_
    refine w_bipush (v := 6) ok dX12_there_10 (by decide) ?_
    refine w_icmp_gt (tgt := 24) ok dX12_there_12 (by decide) (fun c2 => ?_) (fun c2 => ?_)
    · skip
      refine w_ldc2 ok dX12_there_24 kX12_521 ?_
      exact w_lret ok fin dX12_there_27 rfl (by unfold F_X12_there FI_X12_there; simp only [if_neg c1]; simp only [if_pos c2]; exact Pd.i)
    · skip
      refine w_iload_n ok dX12_there_15 2 rfl ?_
      refine w_if_lt (tgt := 24) ok dX12_there_16 (by decide) (fun c3 => ?_) (fun c3 => ?_)
      · skip
        refine w_ldc2 ok dX12_there_24 kX12_521 ?_
        exact w_lret ok fin dX12_there_27 rfl (by unfold F_X12_there FI_X12_there; simp only [if_neg c1]; simp only [if_neg c2]; simp only [if_pos c3]; exact Pd.i)
      · skip
        refine w_iload_n ok dX12_there_19 2 rfl ?_
        refine w_iconst (v := 1) ok dX12_there_20 (by decide) ?_
        refine w_icmp_le (tgt := 28) ok dX12_there_21 (by decide) (fun c4 => ?_) (fun c4 => ?_)
        · skip
          refine w_lconst (v := 1) ok dX12_there_28 (by decide) ?_
          refine w_lstore_n ok dX12_there_29 rfl (by decide) rfl ?_
          refine w_lconst (v := 1) ok dX12_there_30 (by decide) ?_
          refine w_lstore ok dX12_there_31 (by decide) rfl ?_
          refine w_iconst (v := 0) ok dX12_there_33 (by decide) ?_
          refine w_istore ok dX12_there_34 (by decide) rfl ?_
          refine w_loc [3, 4, 5, 2, 1, 0] rfl ?_
          refine loop_for (σ := Int64 × Int64) (fun (i36 : Nat) (s36 : Int64 × Int64) => WK K 0 0 36 [(0, .ref 130), (1, .int a0), (2, .int a1), (3, .long s36.1), (5, .long s36.2), (7, .int (nI i36))] [] (eI f (u2 I 130 0 0)) (eJ f J) R n g) (B_X12_there_l36 a0 a1 I J) (a0.toNatClampNeg) ((1, 1)) ?_ ?_
          · show WK K 0 0 36 [(0, .ref 130), (1, .int a0), (2, .int a1), (3, .long ((F_X12_there_l36 a0 a1 I J (1, 1)).1)), (5, .long ((F_X12_there_l36 a0 a1 I J (1, 1)).2)), (7, .int (nI a0.toNatClampNeg))] [] (eI f (u2 I 130 0 0)) (eJ f J) R n g
            have e5 : a0 ≤ (nI a0.toNatClampNeg) := cnt_ge _
            refine w_iload ok dX12_there_36 5 rfl ?_
            refine w_iload_n ok dX12_there_38 1 rfl ?_
            refine w_icmp_ge (tgt := 71) ok dX12_there_39 (by decide) (fun _ => ?_) (fun h => absurd e5 h)
            refine w_lload_n ok dX12_there_71 3 rfl ?_
            refine w_lload ok dX12_there_72 4 rfl ?_
            refine w_cS (As := [.long ((F_X12_there_l36 a0 a1 I J (1, 1)).1), .long ((F_X12_there_l36 a0 a1 I J (1, 1)).2)]) ok dX12_there_74 iX12_common (lX12_525 rfl) (c_X12_common ro hnn hf ((F_X12_there_l36 a0 a1 I J (1, 1)).1) ((F_X12_there_l36 a0 a1 I J (1, 1)).2)  (hp1 c1 c2 c3 c4)) (by decide) rfl (Nat.le_of_ble_eq_true rfl) ?_
            show WK K 0 0 77 [(0, .ref 130), (1, .int a0), (2, .int a1), (3, .long ((F_X12_there_l36 a0 a1 I J (1, 1)).1)), (5, .long ((F_X12_there_l36 a0 a1 I J (1, 1)).2)), (7, .int (nI a0.toNatClampNeg))] [.long (S1_X12_there a0 a1 I J)] (eI f (u2 I 130 0 0)) (eJ f J) R n g
            refine w_lstore ok dX12_there_77 (by decide) rfl ?_
            refine w_iload_n ok dX12_there_79 3 rfl ?_
            refine w_if_ne (tgt := 90) ok dX12_there_80 (by decide) (fun c6 => ?_) (fun c6 => ?_)
            · skip
              refine w_lload ok dX12_there_90 5 rfl ?_
              refine w_lload ok dX12_there_92 0 rfl ?_
              refine w_ldiv ok dX12_there_94 (hp2 c1 c2 c3 c4 c6) ?_
              exact w_lret ok fin dX12_there_95 rfl (by unfold F_X12_there FI_X12_there; simp only [if_neg c1]; simp only [if_neg c2]; simp only [if_neg c3]; simp only [if_pos c4]; simp only [if_neg c6]; exact Pd.i)
            · skip
              refine w_lload_n ok dX12_there_83 4 rfl ?_
              refine w_lload ok dX12_there_84 0 rfl ?_
              refine w_ldiv ok dX12_there_86 (hp3 c1 c2 c3 c4 c6) ?_
              refine w_goto (tgt := 95) ok dX12_there_87 (by decide) ?_
              exact w_lret ok fin dX12_there_95 rfl (by unfold F_X12_there FI_X12_there; simp only [if_neg c1]; simp only [if_neg c2]; simp only [if_neg c3]; simp only [if_pos c4]; simp only [if_pos c6]; exact Pd.i)
          · intro i36 s36 hi36 hs36 k36
            show WK K 0 0 36 [(0, .ref 130), (1, .int a0), (2, .int a1), (3, .long s36.1), (5, .long s36.2), (7, .int (nI i36))] [] (eI f (u2 I 130 0 0)) (eJ f J) R n g
            have e7 : ¬ (a0 ≤ (nI i36)) := cnt_lt hi36
            refine w_iload ok dX12_there_36 5 rfl ?_
            refine w_iload_n ok dX12_there_38 1 rfl ?_
            refine w_icmp_ge (tgt := 71) ok dX12_there_39 (by decide) (fun h => absurd h e7) (fun _ => ?_)
            refine w_lload_n ok dX12_there_42 3 rfl ?_
            refine w_ldc2 ok dX12_there_43 kX12_523 ?_
            refine w_aload_n ok dX12_there_46 0 rfl ?_
            refine w_getR ok dX12_there_47 (fX12_13 rfl) (congrArg Prod.fst s_130) rfl (r_130_3 ro) (ltM hnn (by decide)) ?_
            refine w_bipush (v := 6) ok dX12_there_50 (by decide) ?_
            refine y_iald (q := 6) ok dX12_there_52 s_132 (by decide) (by decide) (ltM hnn (by decide)) (sdm hf (by decide)) ?_
            refine w_i2l ok dX12_there_53 ?_
            refine w_lsub ok dX12_there_54 ?_
            refine w_lmul ok dX12_there_55 ?_
            refine w_lstore_n ok dX12_there_56 rfl (by decide) rfl ?_
            refine w_lload ok dX12_there_57 4 rfl ?_
            refine w_ldc2 ok dX12_there_59 kX12_523 ?_
            refine w_lmul ok dX12_there_62 ?_
            refine w_lstore ok dX12_there_63 (by decide) rfl ?_
            refine w_iinc (v := (nI i36) + 1) ok dX12_there_65 5 rfl rfl (by decide) rfl ?_
            refine w_goto (tgt := 36) ok dX12_there_68 (by decide) ?_
            have eB : B_X12_there_l36 a0 a1 I J i36 s36 = ((s36.1 * (100 - (((u2 I 130 0 0) 132 6).toInt64))), (s36.2 * 100)) := by
              unfold B_X12_there_l36; exact rfl
            have kk := k36
            rw [eB] at kk
            refine w_loc [3, 4, 5, 2, 1, 0] rfl ?_
            rw [nI_1 i36]
            exact kk
        · skip
          refine w_ldc2 ok dX12_there_24 kX12_521 ?_
          exact w_lret ok fin dX12_there_27 rfl (by unfold F_X12_there FI_X12_there; simp only [if_neg c1]; simp only [if_neg c2]; simp only [if_neg c3]; simp only [if_neg c4]; exact Pd.i)
def S1_X12_without (a0 : Int32) (I : SI) (J : SJ) : Int32 := F_X12_clashesAll 1 (u2 (FI_X12_runs a0 (u2 (u2 I 130 0 0) 130 59 1) J) 130 59 0) (FJ_X12_runs a0 (u2 (u2 I 130 0 0) 130 59 1) J)
def S2_X12_without (a0 : Int32) (I : SI) (J : SJ) : Int32 := F_X12_breaksAll 1 (u2 (FI_X12_runs a0 (u2 (u2 I 130 0 0) 130 59 1) J) 130 59 0) (FJ_X12_runs a0 (u2 (u2 I 130 0 0) 130 59 1) J)
def F_X12_without (a0 : Int32) (I : SI) (J : SJ) : Int32 := if a0 < 0 then -1 else (if a0 ≤ 99 then (S1_X12_without a0 I J) + (S2_X12_without a0 I J) else -1)
def FI_X12_without (a0 : Int32) (I : SI) (J : SJ) : SI := if a0 < 0 then u2 I 130 0 0 else (if a0 ≤ 99 then u2 (FI_X12_runs a0 (u2 (u2 I 130 0 0) 130 59 1) J) 130 59 0 else u2 I 130 0 0)
def FJ_X12_without (a0 : Int32) (I : SI) (J : SJ) : SJ := if a0 < 0 then J else (if a0 ≤ 99 then FJ_X12_runs a0 (u2 (u2 I 130 0 0) 130 59 1) J else J)
def H_X12_without (a0 : Int32) (I : SI) (J : SJ) : Prop := (¬ (a0 < 0) → a0 ≤ 99 → H_X12_runs a0 (u2 (u2 I 130 0 0) 130 59 1) J) ∧ (¬ (a0 < 0) → a0 ≤ 99 → H_X12_clashesAll 1 (u2 (FI_X12_runs a0 (u2 (u2 I 130 0 0) 130 59 1) J) 130 59 0) (FJ_X12_runs a0 (u2 (u2 I 130 0 0) 130 59 1) J)) ∧ (¬ (a0 < 0) → a0 ≤ 99 → H_X12_breaksAll 1 (u2 (FI_X12_runs a0 (u2 (u2 I 130 0 0) 130 59 1) J) 130 59 0) (FJ_X12_runs a0 (u2 (u2 I 130 0 0) 130 59 1) J))
set_option maxHeartbeats 1000000 in
set_option maxRecDepth 40000 in
theorem c_X12_without {I : SI} {J : SJ} {R : SR} {n g : Nat} {f : Fr} (ro : RM R) (hnn : nM ≤ n) (hf : f.1 = false) (a0 : Int32)  (hp : H_X12_without a0 I J) : MM 9 0 0 mX12_without [.ref 130, .int a0] (eI f I) (eJ f J) R n g (Pd (some (.int (F_X12_without a0 I J))) (eI f (FI_X12_without a0 I J)) (eJ f (FJ_X12_without a0 I J)) R n g) := by
  refine MM.of (by decide) (Nat.le_of_ble_eq_true rfl) fun K ok fin => ?_
  show WK K 0 0 0 [(0, .ref 130), (1, .int a0)] [] (eI f I) (eJ f J) R n g
  obtain ⟨hp1, hp2, hp3⟩ := hp
  refine w_aload_n ok dX12_without_0 0 rfl ?_
  refine w_iconst (v := 0) ok dX12_without_1 (by decide) ?_
  refine y_putI ok dX12_without_2 (fwX12_169 rfl) (congrArg Prod.fst s_130) rfl (ltM hnn (by decide)) (sdm hf (by decide)) ?_
  refine w_iload_n ok dX12_without_5 1 rfl ?_
  refine w_if_lt (tgt := 15) ok dX12_without_6 (by decide) (fun c1 => ?_) (fun c1 => ?_)
  · skip
    refine w_iconst (v := (-1)) ok dX12_without_15 (by decide) ?_
    exact w_iret ok fin dX12_without_16 rfl (by unfold F_X12_without FI_X12_without FJ_X12_without; simp only [if_pos c1]; exact Pd.i)
  · skip
    refine w_iload_n ok dX12_without_9 1 rfl ?_
    refine w_bipush (v := 99) ok dX12_without_10 (by decide) ?_
    refine w_icmp_le (tgt := 17) ok dX12_without_12 (by decide) (fun c2 => ?_) (fun c2 => ?_)
    · skip
      refine w_aload_n ok dX12_without_17 0 rfl ?_
      refine w_iconst (v := 1) ok dX12_without_18 (by decide) ?_
      refine y_putZ ok dX12_without_19 (fwX12_394 rfl) (congrArg Prod.fst s_130) rfl (by decide) (ltM hnn (by decide)) (sdm hf (by decide)) ?_
      refine w_aload_n ok dX12_without_22 0 rfl ?_
      refine w_iload_n ok dX12_without_23 1 rfl ?_
      refine w_cV (As := [.int a0]) ok dX12_without_24 iX12_runs (lX12_466 rfl) (rcv cls12 (congrArg Prod.fst s_130)) (ltM hnn (by decide)) (c_X12_runs ro hnn hf a0  (hp1 c1 c2)) (by decide) rfl (Nat.le_of_ble_eq_true rfl) ?_
      refine w_aload_n ok dX12_without_27 0 rfl ?_
      refine w_iconst (v := 0) ok dX12_without_28 (by decide) ?_
      refine y_putZ ok dX12_without_29 (fwX12_394 rfl) (congrArg Prod.fst s_130) rfl (by decide) (ltM hnn (by decide)) (sdm hf (by decide)) ?_
      refine w_aload_n ok dX12_without_32 0 rfl ?_
      refine w_iconst (v := 1) ok dX12_without_33 (by decide) ?_
      refine w_cV (As := [.int 1]) ok dX12_without_34 iX12_clashesAll (lX12_473 rfl) (rcv cls12 (congrArg Prod.fst s_130)) (ltM hnn (by decide)) (c_X12_clashesAll ro hnn hf 1  (hp2 c1 c2)) (by decide) rfl (Nat.le_of_ble_eq_true rfl) ?_
      show WK K 0 0 37 [(0, .ref 130), (1, .int a0)] [.int (S1_X12_without a0 I J)] (eI f (u2 (FI_X12_runs a0 (u2 (u2 I 130 0 0) 130 59 1) J) 130 59 0)) (eJ f (FJ_X12_runs a0 (u2 (u2 I 130 0 0) 130 59 1) J)) R n g
      refine w_aload_n ok dX12_without_37 0 rfl ?_
      refine w_iconst (v := 1) ok dX12_without_38 (by decide) ?_
      refine w_cV (As := [.int 1]) ok dX12_without_39 iX12_breaksAll (lX12_479 rfl) (rcv cls12 (congrArg Prod.fst s_130)) (ltM hnn (by decide)) (c_X12_breaksAll ro hnn hf 1  (hp3 c1 c2)) (by decide) rfl (Nat.le_of_ble_eq_true rfl) ?_
      show WK K 0 0 42 [(0, .ref 130), (1, .int a0)] [.int (S2_X12_without a0 I J), .int (S1_X12_without a0 I J)] (eI f (u2 (FI_X12_runs a0 (u2 (u2 I 130 0 0) 130 59 1) J) 130 59 0)) (eJ f (FJ_X12_runs a0 (u2 (u2 I 130 0 0) 130 59 1) J)) R n g
      refine w_iadd ok dX12_without_42 ?_
      exact w_iret ok fin dX12_without_43 rfl (by unfold F_X12_without FI_X12_without FJ_X12_without; simp only [if_neg c1]; simp only [if_pos c2]; exact Pd.i)
    · skip
      refine w_iconst (v := (-1)) ok dX12_without_15 (by decide) ?_
      exact w_iret ok fin dX12_without_16 rfl (by unfold F_X12_without FI_X12_without FJ_X12_without; simp only [if_neg c1]; simp only [if_neg c2]; exact Pd.i)
def T_X12_run_j41 (I : SI) (J : SJ) (i11 : Nat) (s11 : Int32 × Int32) : Int32 := if s11.2 ≤ 0 then 0 else (if (F_X12_breaksOf 0 ((nI i11) - 1) (u2 I 130 0 0) J) = 0 then 1 else 0)
def B_X12_run_l11 (I : SI) (J : SJ) (i11 : Nat) (s11 : Int32 × Int32) : Int32 × Int32 := if (F_X12_isDone 0 (nI i11) (u2 I 130 0 0) J) = 0 then ((maxI s11.1 0), 0) else (if (T_X12_run_j41 I J i11 s11) = 0 then ((maxI s11.1 1), 1) else ((maxI s11.1 (s11.2 + 1)), (s11.2 + 1)))
def F_X12_run_l11 (I : SI) (J : SJ) (s0 : Int32 × Int32) : Int32 × Int32 := itN (B_X12_run_l11 I J) (((u2 I 130 0 0) 132 1).toNatClampNeg) s0
def F_X12_run  (I : SI) (J : SJ) : Int32 := (F_X12_run_l11 I J (0, 0)).1
def FI_X12_run  (I : SI) (J : SJ) : SI := u2 I 130 0 0
def H_X12_run  (I : SI) (J : SJ) : Prop := (∀ (i11 : Nat) (s11 : Int32 × Int32), i11 < ((u2 I 130 0 0) 132 1).toNatClampNeg → s11 = itN (B_X12_run_l11 I J) i11 (0, 0) → H_X12_isDone 0 (nI i11) (u2 I 130 0 0) J) ∧ (∀ (i11 : Nat) (s11 : Int32 × Int32), i11 < ((u2 I 130 0 0) 132 1).toNatClampNeg → s11 = itN (B_X12_run_l11 I J) i11 (0, 0) → ¬ (s11.2 ≤ 0) → H_X12_breaksOf 0 ((nI i11) - 1) (u2 I 130 0 0) J)
set_option maxHeartbeats 1280000 in
set_option maxRecDepth 40000 in
theorem c_X12_run {I : SI} {J : SJ} {R : SR} {n g : Nat} {f : Fr} (ro : RM R) (hnn : nM ≤ n) (hf : f.1 = false)   (hp : H_X12_run  I J) : MM 2 0 0 mX12_run [.ref 130] (eI f I) (eJ f J) R n g (Pd (some (.int (F_X12_run  I J))) (eI f (FI_X12_run  I J)) (eJ f J) R n g) := by
  refine MM.of (by decide) (Nat.le_of_ble_eq_true rfl) fun K ok fin => ?_
  show WK K 0 0 0 [(0, .ref 130)] [] (eI f I) (eJ f J) R n g
  obtain ⟨hp1, hp2⟩ := hp
  refine w_aload_n ok dX12_run_0 0 rfl ?_
  refine w_iconst (v := 0) ok dX12_run_1 (by decide) ?_
  refine y_putI ok dX12_run_2 (fwX12_169 rfl) (congrArg Prod.fst s_130) rfl (ltM hnn (by decide)) (sdm hf (by decide)) ?_
  refine w_iconst (v := 0) ok dX12_run_5 (by decide) ?_
  refine w_istore_n ok dX12_run_6 rfl (by decide) rfl ?_
  refine w_iconst (v := 0) ok dX12_run_7 (by decide) ?_
  refine w_istore_n ok dX12_run_8 rfl (by decide) rfl ?_
  refine w_iconst (v := 0) ok dX12_run_9 (by decide) ?_
  refine w_istore_n ok dX12_run_10 rfl (by decide) rfl ?_
  refine w_loc [3, 2, 1, 0] rfl ?_
  refine loop_for (σ := Int32 × Int32) (fun (i11 : Nat) (s11 : Int32 × Int32) => WK K 0 0 11 [(0, .ref 130), (1, .int s11.1), (2, .int s11.2), (3, .int (nI i11))] [] (eI f (u2 I 130 0 0)) (eJ f J) R n g) (B_X12_run_l11 I J) (((u2 I 130 0 0) 132 1).toNatClampNeg) ((0, 0)) ?_ ?_
  · show WK K 0 0 11 [(0, .ref 130), (1, .int ((F_X12_run_l11 I J (0, 0)).1)), (2, .int ((F_X12_run_l11 I J (0, 0)).2)), (3, .int (nI (((u2 I 130 0 0) 132 1).toNatClampNeg)))] [] (eI f (u2 I 130 0 0)) (eJ f J) R n g
    have e1 : ((u2 I 130 0 0) 132 1) ≤ (nI (((u2 I 130 0 0) 132 1).toNatClampNeg)) := cnt_ge _
    refine w_iload_n ok dX12_run_11 3 rfl ?_
    refine w_aload_n ok dX12_run_12 0 rfl ?_
    refine w_getR ok dX12_run_13 (fX12_13 rfl) (congrArg Prod.fst s_130) rfl (r_130_3 ro) (ltM hnn (by decide)) ?_
    refine w_iconst (v := 1) ok dX12_run_16 (by decide) ?_
    refine y_iald (q := 1) ok dX12_run_17 s_132 (by decide) (by decide) (ltM hnn (by decide)) (sdm hf (by decide)) ?_
    refine w_icmp_ge (tgt := 81) ok dX12_run_18 (by decide) (fun _ => ?_) (fun h => absurd e1 h)
    refine w_iload_n ok dX12_run_81 1 rfl ?_
    exact w_iret ok fin dX12_run_82 rfl (by unfold F_X12_run FI_X12_run; exact Pd.i)
  · intro i11 s11 hi11 hs11 k11
    show WK K 0 0 11 [(0, .ref 130), (1, .int s11.1), (2, .int s11.2), (3, .int (nI i11))] [] (eI f (u2 I 130 0 0)) (eJ f J) R n g
    have e2 : ¬ (((u2 I 130 0 0) 132 1) ≤ (nI i11)) := cnt_lt hi11
    refine w_iload_n ok dX12_run_11 3 rfl ?_
    refine w_aload_n ok dX12_run_12 0 rfl ?_
    refine w_getR ok dX12_run_13 (fX12_13 rfl) (congrArg Prod.fst s_130) rfl (r_130_3 ro) (ltM hnn (by decide)) ?_
    refine w_iconst (v := 1) ok dX12_run_16 (by decide) ?_
    refine y_iald (q := 1) ok dX12_run_17 s_132 (by decide) (by decide) (ltM hnn (by decide)) (sdm hf (by decide)) ?_
    refine w_icmp_ge (tgt := 81) ok dX12_run_18 (by decide) (fun h => absurd h e2) (fun _ => ?_)
    refine w_iload_n ok dX12_run_21 2 rfl ?_
    have jn3 : WK K 0 0 41 [(0, .ref 130), (1, .int s11.1), (2, .int s11.2), (3, .int (nI i11))] [.int (T_X12_run_j41 I J i11 s11)] (eI f (u2 I 130 0 0)) (eJ f J) R n g := by
      refine w_istore ok dX12_run_41 (by decide) rfl ?_
      refine w_aload_n ok dX12_run_43 1 rfl ?_
      refine w_iconst (v := 0) ok dX12_run_44 (by decide) ?_
      refine w_iload_n ok dX12_run_45 4 rfl ?_
      refine w_cV (As := [.int 0, .int (nI i11)]) ok dX12_run_46 iX12_isDone (lX12_367 rfl) (rcv cls12 (congrArg Prod.fst s_130)) (ltM hnn (by decide)) (c_X12_isDone ro hnn hf 0 (nI i11)  (hp1 i11 s11 hi11 hs11)) (by decide) rfl (Nat.le_of_ble_eq_true rfl) ?_
      refine w_if_ne (tgt := 56) ok dX12_run_49 (by decide) (fun c4 => ?_) (fun c4 => ?_)
      · skip
        refine w_iload ok dX12_run_56 0 rfl ?_
        refine w_if_eq (tgt := 67) ok dX12_run_58 (by decide) (fun c5 => ?_) (fun c5 => ?_)
        · skip
          refine w_iconst (v := 1) ok dX12_run_67 (by decide) ?_
          refine w_istore_n ok dX12_run_68 rfl (by decide) rfl ?_
          refine w_iload_n ok dX12_run_69 3 rfl ?_
          refine w_iload_n ok dX12_run_70 0 rfl ?_
          refine w_maxI ok dX12_run_71 (iT_9 25 (by decide +kernel) (by decide +kernel)) (Nat.le_of_ble_eq_true rfl) ?_
          refine w_istore_n ok dX12_run_74 rfl (by decide) rfl ?_
          refine w_iinc (v := (nI i11) + 1) ok dX12_run_75 4 rfl rfl (by decide) rfl ?_
          refine w_goto (tgt := 11) ok dX12_run_78 (by decide) ?_
          have eB : B_X12_run_l11 I J i11 s11 = ((maxI s11.1 1), 1) := by
            unfold B_X12_run_l11; exact (if_neg c4).trans ((if_pos c5).trans (rfl))
          have kk := k11
          rw [eB] at kk
          refine w_loc [4, 1, 2, 0] rfl ?_
          rw [nI_1 i11]
          exact kk
        · skip
          refine w_iload_n ok dX12_run_61 3 rfl ?_
          refine w_iconst (v := 1) ok dX12_run_62 (by decide) ?_
          refine w_iadd ok dX12_run_63 ?_
          refine w_goto (tgt := 68) ok dX12_run_64 (by decide) ?_
          refine w_istore_n ok dX12_run_68 rfl (by decide) rfl ?_
          refine w_iload_n ok dX12_run_69 3 rfl ?_
          refine w_iload_n ok dX12_run_70 0 rfl ?_
          refine w_maxI ok dX12_run_71 (iT_9 25 (by decide +kernel) (by decide +kernel)) (Nat.le_of_ble_eq_true rfl) ?_
          refine w_istore_n ok dX12_run_74 rfl (by decide) rfl ?_
          refine w_iinc (v := (nI i11) + 1) ok dX12_run_75 4 rfl rfl (by decide) rfl ?_
          refine w_goto (tgt := 11) ok dX12_run_78 (by decide) ?_
          have eB : B_X12_run_l11 I J i11 s11 = ((maxI s11.1 (s11.2 + 1)), (s11.2 + 1)) := by
            unfold B_X12_run_l11; exact (if_neg c4).trans ((if_neg c5).trans (rfl))
          have kk := k11
          rw [eB] at kk
          refine w_loc [4, 1, 2, 0] rfl ?_
          rw [nI_1 i11]
          exact kk
      · skip
        refine w_iconst (v := 0) ok dX12_run_52 (by decide) ?_
        refine w_goto (tgt := 68) ok dX12_run_53 (by decide) ?_
        refine w_istore_n ok dX12_run_68 rfl (by decide) rfl ?_
        refine w_iload_n ok dX12_run_69 3 rfl ?_
        refine w_iload_n ok dX12_run_70 0 rfl ?_
        refine w_maxI ok dX12_run_71 (iT_9 25 (by decide +kernel) (by decide +kernel)) (Nat.le_of_ble_eq_true rfl) ?_
        refine w_istore_n ok dX12_run_74 rfl (by decide) rfl ?_
        refine w_iinc (v := (nI i11) + 1) ok dX12_run_75 4 rfl rfl (by decide) rfl ?_
        refine w_goto (tgt := 11) ok dX12_run_78 (by decide) ?_
        have eB : B_X12_run_l11 I J i11 s11 = ((maxI s11.1 0), 0) := by
          unfold B_X12_run_l11; exact (if_pos c4).trans (rfl)
        have kk := k11
        rw [eB] at kk
        refine w_loc [4, 1, 2, 0] rfl ?_
        rw [nI_1 i11]
        exact kk
    refine w_if_le (tgt := 40) ok dX12_run_22 (by decide) (fun c6 => ?_) (fun c6 => ?_)
    · skip
      refine w_iconst (v := 0) ok dX12_run_40 (by decide) ?_
      have eT : (T_X12_run_j41 I J i11 s11) = 0 := by
        unfold T_X12_run_j41; exact (if_pos c6).trans (rfl)
      refine w_loc [0, 1, 2, 3] rfl ?_
      have jj := jn3
      rw [eT] at jj
      exact jj
    · skip
      refine w_aload_n ok dX12_run_25 0 rfl ?_
      refine w_iconst (v := 0) ok dX12_run_26 (by decide) ?_
      refine w_iload_n ok dX12_run_27 3 rfl ?_
      refine w_iconst (v := 1) ok dX12_run_28 (by decide) ?_
      refine w_isub ok dX12_run_29 ?_
      refine w_cV (As := [.int 0, .int ((nI i11) - 1)]) ok dX12_run_30 iX12_breaksOf (lX12_476 rfl) (rcv cls12 (congrArg Prod.fst s_130)) (ltM hnn (by decide)) (c_X12_breaksOf ro hnn hf 0 ((nI i11) - 1)  (hp2 i11 s11 hi11 hs11 c6)) (by decide) rfl (Nat.le_of_ble_eq_true rfl) ?_
      refine w_if_ne (tgt := 40) ok dX12_run_33 (by decide) (fun c7 => ?_) (fun c7 => ?_)
      · skip
        refine w_iconst (v := 0) ok dX12_run_40 (by decide) ?_
        have eT : (T_X12_run_j41 I J i11 s11) = 0 := by
          unfold T_X12_run_j41; exact (if_neg c6).trans ((if_neg c7).trans (rfl))
        refine w_loc [0, 1, 2, 3] rfl ?_
        have jj := jn3
        rw [eT] at jj
        exact jj
      · skip
        refine w_iconst (v := 1) ok dX12_run_36 (by decide) ?_
        refine w_goto (tgt := 41) ok dX12_run_37 (by decide) ?_
        have eT : (T_X12_run_j41 I J i11 s11) = 1 := by
          unfold T_X12_run_j41; exact (if_neg c6).trans ((if_pos c7).trans (rfl))
        refine w_loc [0, 1, 2, 3] rfl ?_
        have jj := jn3
        rw [eT] at jj
        exact jj
def B_X12_believed_l9 (I : SI) (J : SJ) (i9 : Nat) (s9 : Int32) : Int32 := if ((u2 I 130 0 0) 160 ((u2 I 130 0 0) 141 (nI i9).toNatClampNeg).toNatClampNeg) = ((u2 I 130 0 0) 142 (nI i9).toNatClampNeg) then (s9 ||| ((1 : Int32) <<< ((nI i9) &&& 31))) else (s9 ||| 0)
def F_X12_believed_l9 (I : SI) (J : SJ) (s0 : Int32) : Int32 := itN (B_X12_believed_l9 I J) (((u2 I 130 0 0) 132 3).toNatClampNeg) s0
def F_X12_believed  (I : SI) (J : SJ) : Int32 := (F_X12_believed_l9 I J 0)
def FI_X12_believed  (I : SI) (J : SJ) : SI := u2 I 130 0 0
def H_X12_believed  (I : SI) (J : SJ) : Prop := (∀ (i9 : Nat) (s9 : Int32), i9 < ((u2 I 130 0 0) 132 3).toNatClampNeg → s9 = itN (B_X12_believed_l9 I J) i9 0 → inR (nI i9) 8) ∧ (∀ (i9 : Nat) (s9 : Int32), i9 < ((u2 I 130 0 0) 132 3).toNatClampNeg → s9 = itN (B_X12_believed_l9 I J) i9 0 → inR ((u2 I 130 0 0) 141 (nI i9).toNatClampNeg) 138)
set_option maxHeartbeats 1000000 in
set_option maxRecDepth 40000 in
theorem c_X12_believed {I : SI} {J : SJ} {R : SR} {n g : Nat} {f : Fr} (ro : RM R) (hnn : nM ≤ n) (hf : f.1 = false)   (hp : H_X12_believed  I J) : MM 0 0 0 mX12_believed [.ref 130] (eI f I) (eJ f J) R n g (Pd (some (.int (F_X12_believed  I J))) (eI f (FI_X12_believed  I J)) (eJ f J) R n g) := by
  refine MM.of (by decide) (Nat.le_of_ble_eq_true rfl) fun K ok fin => ?_
  show WK K 0 0 0 [(0, .ref 130)] [] (eI f I) (eJ f J) R n g
  obtain ⟨hp1, hp2⟩ := hp
  refine w_aload_n ok dX12_believed_0 0 rfl ?_
  refine w_iconst (v := 0) ok dX12_believed_1 (by decide) ?_
  refine y_putI ok dX12_believed_2 (fwX12_169 rfl) (congrArg Prod.fst s_130) rfl (ltM hnn (by decide)) (sdm hf (by decide)) ?_
  refine w_iconst (v := 0) ok dX12_believed_5 (by decide) ?_
  refine w_istore_n ok dX12_believed_6 rfl (by decide) rfl ?_
  refine w_iconst (v := 0) ok dX12_believed_7 (by decide) ?_
  refine w_istore_n ok dX12_believed_8 rfl (by decide) rfl ?_
  refine w_loc [2, 1, 0] rfl ?_
  refine loop_for (σ := Int32) (fun (i9 : Nat) (s9 : Int32) => WK K 0 0 9 [(0, .ref 130), (1, .int s9), (2, .int (nI i9))] [] (eI f (u2 I 130 0 0)) (eJ f J) R n g) (B_X12_believed_l9 I J) (((u2 I 130 0 0) 132 3).toNatClampNeg) (0) ?_ ?_
  · show WK K 0 0 9 [(0, .ref 130), (1, .int (F_X12_believed_l9 I J 0)), (2, .int (nI (((u2 I 130 0 0) 132 3).toNatClampNeg)))] [] (eI f (u2 I 130 0 0)) (eJ f J) R n g
    have e1 : ((u2 I 130 0 0) 132 3) ≤ (nI (((u2 I 130 0 0) 132 3).toNatClampNeg)) := cnt_ge _
    refine w_iload_n ok dX12_believed_9 2 rfl ?_
    refine w_aload_n ok dX12_believed_10 0 rfl ?_
    refine w_getR ok dX12_believed_11 (fX12_13 rfl) (congrArg Prod.fst s_130) rfl (r_130_3 ro) (ltM hnn (by decide)) ?_
    refine w_iconst (v := 3) ok dX12_believed_14 (by decide) ?_
    refine y_iald (q := 3) ok dX12_believed_15 s_132 (by decide) (by decide) (ltM hnn (by decide)) (sdm hf (by decide)) ?_
    refine w_icmp_ge (tgt := 55) ok dX12_believed_16 (by decide) (fun _ => ?_) (fun h => absurd e1 h)
    refine w_iload_n ok dX12_believed_55 1 rfl ?_
    exact w_iret ok fin dX12_believed_56 rfl (by unfold F_X12_believed FI_X12_believed; exact Pd.i)
  · intro i9 s9 hi9 hs9 k9
    show WK K 0 0 9 [(0, .ref 130), (1, .int s9), (2, .int (nI i9))] [] (eI f (u2 I 130 0 0)) (eJ f J) R n g
    have e2 : ¬ (((u2 I 130 0 0) 132 3) ≤ (nI i9)) := cnt_lt hi9
    refine w_iload_n ok dX12_believed_9 2 rfl ?_
    refine w_aload_n ok dX12_believed_10 0 rfl ?_
    refine w_getR ok dX12_believed_11 (fX12_13 rfl) (congrArg Prod.fst s_130) rfl (r_130_3 ro) (ltM hnn (by decide)) ?_
    refine w_iconst (v := 3) ok dX12_believed_14 (by decide) ?_
    refine y_iald (q := 3) ok dX12_believed_15 s_132 (by decide) (by decide) (ltM hnn (by decide)) (sdm hf (by decide)) ?_
    refine w_icmp_ge (tgt := 55) ok dX12_believed_16 (by decide) (fun h => absurd h e2) (fun _ => ?_)
    refine w_iload_n ok dX12_believed_19 1 rfl ?_
    refine w_aload_n ok dX12_believed_20 0 rfl ?_
    refine w_getR ok dX12_believed_21 (fX12_102 rfl) (congrArg Prod.fst s_130) rfl (r_130_45 ro) (ltM hnn (by decide)) ?_
    refine w_aload_n ok dX12_believed_24 0 rfl ?_
    refine w_getR ok dX12_believed_25 (fX12_40 rfl) (congrArg Prod.fst s_130) rfl (r_130_12 ro) (ltM hnn (by decide)) ?_
    refine w_iload_n ok dX12_believed_28 2 rfl ?_
    refine y_iald (q := (nI i9).toNatClampNeg) ok dX12_believed_29 s_141 (hp1 i9 s9 hi9 hs9) (by decide) (ltM hnn (by decide)) (sdm hf (by decide)) ?_
    refine y_iald (q := ((u2 I 130 0 0) 141 (nI i9).toNatClampNeg).toNatClampNeg) ok dX12_believed_30 s_160 (hp2 i9 s9 hi9 hs9) (by decide) (ltM hnn (by decide)) (sdm hf (by decide)) ?_
    refine w_aload_n ok dX12_believed_31 0 rfl ?_
    refine w_getR ok dX12_believed_32 (fX12_43 rfl) (congrArg Prod.fst s_130) rfl (r_130_13 ro) (ltM hnn (by decide)) ?_
    refine w_iload_n ok dX12_believed_35 2 rfl ?_
    refine y_iald (q := (nI i9).toNatClampNeg) ok dX12_believed_36 s_142 (hp1 i9 s9 hi9 hs9) (by decide) (ltM hnn (by decide)) (sdm hf (by decide)) ?_
    refine w_icmp_ne (tgt := 46) ok dX12_believed_37 (by decide) (fun c3 => ?_) (fun c3 => ?_)
    · skip
      refine w_iconst (v := 0) ok dX12_believed_46 (by decide) ?_
      refine w_ior ok dX12_believed_47 ?_
      refine w_istore_n ok dX12_believed_48 rfl (by decide) rfl ?_
      refine w_iinc (v := (nI i9) + 1) ok dX12_believed_49 2 rfl rfl (by decide) rfl ?_
      refine w_goto (tgt := 9) ok dX12_believed_52 (by decide) ?_
      have eB : B_X12_believed_l9 I J i9 s9 = (s9 ||| 0) := by
        unfold B_X12_believed_l9; exact (if_neg c3).trans (rfl)
      have kk := k9
      rw [eB] at kk
      refine w_loc [2, 1, 0] rfl ?_
      rw [nI_1 i9]
      exact kk
    · skip
      refine w_iconst (v := 1) ok dX12_believed_40 (by decide) ?_
      refine w_iload_n ok dX12_believed_41 2 rfl ?_
      refine w_ishl ok dX12_believed_42 ?_
      refine w_goto (tgt := 47) ok dX12_believed_43 (by decide) ?_
      refine w_ior ok dX12_believed_47 ?_
      refine w_istore_n ok dX12_believed_48 rfl (by decide) rfl ?_
      refine w_iinc (v := (nI i9) + 1) ok dX12_believed_49 2 rfl rfl (by decide) rfl ?_
      refine w_goto (tgt := 9) ok dX12_believed_52 (by decide) ?_
      have eB : B_X12_believed_l9 I J i9 s9 = (s9 ||| ((1 : Int32) <<< ((nI i9) &&& 31))) := by
        unfold B_X12_believed_l9; exact (if_pos c3).trans (rfl)
      have kk := k9
      rw [eB] at kk
      refine w_loc [2, 1, 0] rfl ?_
      rw [nI_1 i9]
      exact kk
def S1_X12_see (a0 : Int32) (a1 : Int32) (a2 : Int32) (I : SI) (J : SJ) : SI := u2 (u2 (u2 I 130 0 0) 173 ((u2 I 130 0 0) 130 68).toNatClampNeg a0) 174 ((u2 (u2 I 130 0 0) 173 ((u2 I 130 0 0) 130 68).toNatClampNeg a0) 130 68).toNatClampNeg a1
def S2_X12_see (a0 : Int32) (a1 : Int32) (a2 : Int32) (I : SI) (J : SJ) : SI := u2 (S1_X12_see a0 a1 a2 I J) 175 (((S1_X12_see a0 a1 a2 I J)) 130 68).toNatClampNeg (vp_nar .boolean a2)
def S3_X12_see (a0 : Int32) (a1 : Int32) (a2 : Int32) (I : SI) (J : SJ) : SI := u2 (S2_X12_see a0 a1 a2 I J) 176 (((S2_X12_see a0 a1 a2 I J)) 130 68).toNatClampNeg (-1)
def S4_X12_see (a0 : Int32) (a1 : Int32) (a2 : Int32) (I : SI) (J : SJ) : SI := u2 (S3_X12_see a0 a1 a2 I J) 130 68 ((((S3_X12_see a0 a1 a2 I J)) 130 68) + 1)
def F_X12_see (a0 : Int32) (a1 : Int32) (a2 : Int32) (I : SI) (J : SJ) : Int32 := if a0 < 1 then -1 else (if (40 : Int32) < a0 then -1 else (if (F_X12_isMark a1 (u2 I 130 0 0) J) = 0 then -1 else (if ((u2 I 130 0 0) 130 68) = 24 then -1 else (((S4_X12_see a0 a1 a2 I J)) 130 68) - 1)))
def FI_X12_see (a0 : Int32) (a1 : Int32) (a2 : Int32) (I : SI) (J : SJ) : SI := if a0 < 1 then u2 I 130 0 0 else (if (40 : Int32) < a0 then u2 I 130 0 0 else (if (F_X12_isMark a1 (u2 I 130 0 0) J) = 0 then u2 I 130 0 0 else (if ((u2 I 130 0 0) 130 68) = 24 then u2 I 130 0 0 else (S4_X12_see a0 a1 a2 I J))))
def H_X12_see (a0 : Int32) (a1 : Int32) (a2 : Int32) (I : SI) (J : SJ) : Prop := (¬ (a0 < 1) → ¬ ((40 : Int32) < a0) → ¬ ((F_X12_isMark a1 (u2 I 130 0 0) J) = 0) → ¬ (((u2 I 130 0 0) 130 68) = 24) → inR ((u2 I 130 0 0) 130 68) 24) ∧ (¬ (a0 < 1) → ¬ ((40 : Int32) < a0) → ¬ ((F_X12_isMark a1 (u2 I 130 0 0) J) = 0) → ¬ (((u2 I 130 0 0) 130 68) = 24) → inR ((u2 (u2 I 130 0 0) 173 ((u2 I 130 0 0) 130 68).toNatClampNeg a0) 130 68) 24) ∧ (¬ (a0 < 1) → ¬ ((40 : Int32) < a0) → ¬ ((F_X12_isMark a1 (u2 I 130 0 0) J) = 0) → ¬ (((u2 I 130 0 0) 130 68) = 24) → inR (((S1_X12_see a0 a1 a2 I J)) 130 68) 24) ∧ (¬ (a0 < 1) → ¬ ((40 : Int32) < a0) → ¬ ((F_X12_isMark a1 (u2 I 130 0 0) J) = 0) → ¬ (((u2 I 130 0 0) 130 68) = 24) → inR (((S2_X12_see a0 a1 a2 I J)) 130 68) 24)
set_option maxHeartbeats 1000000 in
set_option maxRecDepth 40000 in
theorem c_X12_see {I : SI} {J : SJ} {R : SR} {n g : Nat} {f : Fr} (ro : RM R) (hnn : nM ≤ n) (hf : f.1 = false) (a0 : Int32) (a1 : Int32) (a2 : Int32)  (hp : H_X12_see a0 a1 a2 I J) : MM 1 0 0 mX12_see [.ref 130, .int a0, .int a1, .int a2] (eI f I) (eJ f J) R n g (Pd (some (.int (F_X12_see a0 a1 a2 I J))) (eI f (FI_X12_see a0 a1 a2 I J)) (eJ f J) R n g) := by
  refine MM.of (by decide) (Nat.le_of_ble_eq_true rfl) fun K ok fin => ?_
  show WK K 0 0 0 [(0, .ref 130), (1, .int a0), (2, .int a1), (3, .int a2)] [] (eI f I) (eJ f J) R n g
  obtain ⟨hp1, hp2, hp3, hp4⟩ := hp
  refine w_aload_n ok dX12_see_0 0 rfl ?_
  refine w_iconst (v := 0) ok dX12_see_1 (by decide) ?_
  refine y_putI ok dX12_see_2 (fwX12_169 rfl) (congrArg Prod.fst s_130) rfl (ltM hnn (by decide)) (sdm hf (by decide)) ?_
  refine w_iload_n ok dX12_see_5 1 rfl ?_
  refine w_iconst (v := 1) ok dX12_see_6 (by decide) ?_
  refine w_icmp_lt (tgt := 33) ok dX12_see_7 (by decide) (fun c1 => ?_) (fun c1 => ?_)
  · skip
    refine w_iconst (v := (-1)) ok dX12_see_33 (by decide) ?_
    exact w_iret ok fin dX12_see_34 rfl (by unfold F_X12_see FI_X12_see; simp only [if_pos c1]; exact Pd.i)
  · skip
    refine w_iload_n ok dX12_see_10 1 rfl ?_
    refine w_bipush (v := 40) ok dX12_see_11 (by decide) ?_
    refine w_icmp_gt (tgt := 33) ok dX12_see_13 (by decide) (fun c2 => ?_) (fun c2 => ?_)
    · skip
      refine w_iconst (v := (-1)) ok dX12_see_33 (by decide) ?_
      exact w_iret ok fin dX12_see_34 rfl (by unfold F_X12_see FI_X12_see; simp only [if_neg c1]; simp only [if_pos c2]; exact Pd.i)
    · skip
      refine w_aload_n ok dX12_see_16 0 rfl ?_
      refine w_iload_n ok dX12_see_17 2 rfl ?_
      refine w_cV (As := [.int a1]) ok dX12_see_18 iX12_isMark (lX12_450 rfl) (rcv cls12 (congrArg Prod.fst s_130)) (ltM hnn (by decide)) (c_X12_isMark ro hnn hf a1 ) (by decide) rfl (Nat.le_of_ble_eq_true rfl) ?_
      refine w_if_eq (tgt := 33) ok dX12_see_21 (by decide) (fun c3 => ?_) (fun c3 => ?_)
      · skip
        refine w_iconst (v := (-1)) ok dX12_see_33 (by decide) ?_
        exact w_iret ok fin dX12_see_34 rfl (by unfold F_X12_see FI_X12_see; simp only [if_neg c1]; simp only [if_neg c2]; simp only [if_pos c3]; exact Pd.i)
      · skip
        refine w_aload_n ok dX12_see_24 0 rfl ?_
        refine y_getI ok dX12_see_25 (fX12_328 rfl) (congrArg Prod.fst s_130) rfl (ltM hnn (by decide)) (sdm hf (by decide)) ?_
        refine w_bipush (v := 24) ok dX12_see_28 (by decide) ?_
        refine w_icmp_ne (tgt := 35) ok dX12_see_30 (by decide) (fun c4 => ?_) (fun c4 => ?_)
        · skip
          refine w_aload_n ok dX12_see_35 0 rfl ?_
          refine w_getR ok dX12_see_36 (fX12_150 rfl) (congrArg Prod.fst s_130) rfl (r_130_70 ro) (ltM hnn (by decide)) ?_
          refine w_aload_n ok dX12_see_39 0 rfl ?_
          refine y_getI ok dX12_see_40 (fX12_328 rfl) (congrArg Prod.fst s_130) rfl (ltM hnn (by decide)) (sdm hf (by decide)) ?_
          refine w_iload_n ok dX12_see_43 1 rfl ?_
          refine y_iast (q := ((u2 I 130 0 0) 130 68).toNatClampNeg) ok dX12_see_44 s_173 (hp1 c1 c2 c3 c4) (by decide) (ltM hnn (by decide)) (sdm hf (by decide)) ?_
          refine w_aload_n ok dX12_see_45 0 rfl ?_
          refine w_getR ok dX12_see_46 (fX12_153 rfl) (congrArg Prod.fst s_130) rfl (r_130_71 ro) (ltM hnn (by decide)) ?_
          refine w_aload_n ok dX12_see_49 0 rfl ?_
          refine y_getI ok dX12_see_50 (fX12_328 rfl) (congrArg Prod.fst s_130) rfl (ltM hnn (by decide)) (sdm hf (by decide)) ?_
          refine w_iload_n ok dX12_see_53 2 rfl ?_
          refine y_iast (q := ((u2 (u2 I 130 0 0) 173 ((u2 I 130 0 0) 130 68).toNatClampNeg a0) 130 68).toNatClampNeg) ok dX12_see_54 s_174 (hp2 c1 c2 c3 c4) (by decide) (ltM hnn (by decide)) (sdm hf (by decide)) ?_
          show WK K 0 0 55 [(0, .ref 130), (1, .int a0), (2, .int a1), (3, .int a2)] [] (eI f (S1_X12_see a0 a1 a2 I J)) (eJ f J) R n g
          refine w_aload_n ok dX12_see_55 0 rfl ?_
          refine w_getR ok dX12_see_56 (fX12_156 rfl) (congrArg Prod.fst s_130) rfl (r_130_72 ro) (ltM hnn (by decide)) ?_
          refine w_aload_n ok dX12_see_59 0 rfl ?_
          refine y_getI ok dX12_see_60 (fX12_328 rfl) (congrArg Prod.fst s_130) rfl (ltM hnn (by decide)) (sdm hf (by decide)) ?_
          refine w_iload_n ok dX12_see_63 3 rfl ?_
          refine y_zast (q := (((S1_X12_see a0 a1 a2 I J)) 130 68).toNatClampNeg) ok dX12_see_64 s_175 (hp3 c1 c2 c3 c4) (by decide) (ltM hnn (by decide)) (sdm hf (by decide)) ?_
          show WK K 0 0 65 [(0, .ref 130), (1, .int a0), (2, .int a1), (3, .int a2)] [] (eI f (S2_X12_see a0 a1 a2 I J)) (eJ f J) R n g
          refine w_aload_n ok dX12_see_65 0 rfl ?_
          refine w_getR ok dX12_see_66 (fX12_160 rfl) (congrArg Prod.fst s_130) rfl (r_130_73 ro) (ltM hnn (by decide)) ?_
          refine w_aload_n ok dX12_see_69 0 rfl ?_
          refine y_getI ok dX12_see_70 (fX12_328 rfl) (congrArg Prod.fst s_130) rfl (ltM hnn (by decide)) (sdm hf (by decide)) ?_
          refine w_iconst (v := (-1)) ok dX12_see_73 (by decide) ?_
          refine y_iast (q := (((S2_X12_see a0 a1 a2 I J)) 130 68).toNatClampNeg) ok dX12_see_74 s_176 (hp4 c1 c2 c3 c4) (by decide) (ltM hnn (by decide)) (sdm hf (by decide)) ?_
          show WK K 0 0 75 [(0, .ref 130), (1, .int a0), (2, .int a1), (3, .int a2)] [] (eI f (S3_X12_see a0 a1 a2 I J)) (eJ f J) R n g
          refine w_aload_n ok dX12_see_75 0 rfl ?_
          refine w_dup ok dX12_see_76 rfl ?_
          refine y_getI ok dX12_see_77 (fX12_328 rfl) (congrArg Prod.fst s_130) rfl (ltM hnn (by decide)) (sdm hf (by decide)) ?_
          refine w_iconst (v := 1) ok dX12_see_80 (by decide) ?_
          refine w_iadd ok dX12_see_81 ?_
          refine y_putI ok dX12_see_82 (fwX12_328 rfl) (congrArg Prod.fst s_130) rfl (ltM hnn (by decide)) (sdm hf (by decide)) ?_
          show WK K 0 0 85 [(0, .ref 130), (1, .int a0), (2, .int a1), (3, .int a2)] [] (eI f (S4_X12_see a0 a1 a2 I J)) (eJ f J) R n g
          refine w_aload_n ok dX12_see_85 0 rfl ?_
          refine y_getI ok dX12_see_86 (fX12_328 rfl) (congrArg Prod.fst s_130) rfl (ltM hnn (by decide)) (sdm hf (by decide)) ?_
          refine w_iconst (v := 1) ok dX12_see_89 (by decide) ?_
          refine w_isub ok dX12_see_90 ?_
          exact w_iret ok fin dX12_see_91 rfl (by unfold F_X12_see FI_X12_see; simp only [if_neg c1]; simp only [if_neg c2]; simp only [if_neg c3]; simp only [if_neg c4]; exact Pd.i)
        · skip
          refine w_iconst (v := (-1)) ok dX12_see_33 (by decide) ?_
          exact w_iret ok fin dX12_see_34 rfl (by unfold F_X12_see FI_X12_see; simp only [if_neg c1]; simp only [if_neg c2]; simp only [if_neg c3]; simp only [if_pos c4]; exact Pd.i)
