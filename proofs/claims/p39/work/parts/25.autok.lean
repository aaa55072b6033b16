/-! printed by wip/whole/gen_c.py: contracts by program -/
def S1_X11_text (a0 : Int32) (I : SI) (J : SJ) : SI := FI_X6_clear  (FI_X5_open 86 2 (FI_X9_copy 2 42 (u2 (FI_X4_read a0 I J) 0 1 0) J) J) (FJ_X5_open 86 2 (FI_X9_copy 2 42 (u2 (FI_X4_read a0 I J) 0 1 0) J) J)
def S2_X11_text (a0 : Int32) (I : SI) (J : SJ) : SI := FI_X10_clear  (S1_X11_text a0 I J) (FJ_X5_open 86 2 (FI_X9_copy 2 42 (u2 (FI_X4_read a0 I J) 0 1 0) J) J)
def F_X11_text (a0 : Int32) (I : SI) (J : SJ) : Int32 := if a0 < 0 then -2 else (if a0 ≤ (I 0 1) then (if (F_X4_read a0 I J) = 0 then -1 else (u2 (S2_X11_text a0 I J) 0 6 0) 2 10) else -2)
def FI_X11_text (a0 : Int32) (I : SI) (J : SJ) : SI := if a0 < 0 then I else (if a0 ≤ (I 0 1) then (if (F_X4_read a0 I J) = 0 then u2 (FI_X4_read a0 I J) 0 1 0 else u2 (S2_X11_text a0 I J) 0 6 0) else I)
def FJ_X11_text (a0 : Int32) (I : SI) (J : SJ) : SJ := if a0 < 0 then J else (if a0 ≤ (I 0 1) then (if (F_X4_read a0 I J) = 0 then J else FJ_X5_open 86 2 (FI_X9_copy 2 42 (u2 (FI_X4_read a0 I J) 0 1 0) J) J) else J)
def FR_X11_text (a0 : Int32) (I : SI) (J : SJ) (R : SR) : SR := if a0 < 0 then R else (if a0 ≤ (I 0 1) then (if (F_X4_read a0 I J) = 0 then (tR R) else (tR R)) else R)
def H_X11_text (a0 : Int32) (I : SI) (J : SJ) : Prop := (¬ (a0 < 0) → a0 ≤ (I 0 1) → H_X4_read a0 I J) ∧ (¬ (a0 < 0) → a0 ≤ (I 0 1) → ¬ ((F_X4_read a0 I J) = 0) → H_X9_copy 2 42 (u2 (FI_X4_read a0 I J) 0 1 0) J)
set_option maxHeartbeats 1000000 in
set_option maxRecDepth 40000 in
theorem c_X11_text {I : SI} {J : SJ} {R : SR} {n g : Nat} {f : Fr} (ro : RO R) (hnn : nK ≤ n) (hf : f.1 = true) (a0 : Int32)  (hp : H_X11_text a0 I J) : MM 7 0 0 mX11_text [.ref 0, .int a0] (eI f I) (eJ f J) R n g (Pd (some (.int (F_X11_text a0 I J))) (eI f (FI_X11_text a0 I J)) (eJ f (FJ_X11_text a0 I J)) (FR_X11_text a0 I J R) n g) := by
  refine MM.of (by decide) (Nat.le_of_ble_eq_true rfl) fun K ok fin => ?_
  show WK K 0 0 0 [(0, .ref 0), (1, .int a0)] [] (eI f I) (eJ f J) R n g
  obtain ⟨hp1, hp2⟩ := hp
  refine w_iload_n ok dX11_text_0 1 rfl ?_
  refine w_if_lt (tgt := 12) ok dX11_text_1 (by decide) (fun c1 => ?_) (fun c1 => ?_)
  · skip
    refine w_bipush (v := (-2)) ok dX11_text_12 (by decide) ?_
    exact w_iret ok fin dX11_text_14 rfl (by unfold F_X11_text FI_X11_text FJ_X11_text FR_X11_text; simp only [if_pos c1]; exact Pd.i)
  · skip
    refine w_iload_n ok dX11_text_4 1 rfl ?_
    refine w_aload_n ok dX11_text_5 0 rfl ?_
    refine y_getI ok dX11_text_6 (fX11_13 rfl) (congrArg Prod.fst s_0) rfl (ltK hnn (by decide)) (sdc hf (by decide)) ?_
    refine w_icmp_le (tgt := 15) ok dX11_text_9 (by decide) (fun c2 => ?_) (fun c2 => ?_)
    · skip
      refine w_aload_n ok dX11_text_15 0 rfl ?_
      refine w_getR ok dX11_text_16 (fX11_27 rfl) (congrArg Prod.fst s_0) rfl (r_0_3 ro) (ltK hnn (by decide)) ?_
      refine w_aload_n ok dX11_text_19 0 rfl ?_
      refine w_getR ok dX11_text_20 (fX11_9 rfl) (congrArg Prod.fst s_0) rfl (r_0_0 ro) (ltK hnn (by decide)) ?_
      refine w_iload_n ok dX11_text_23 1 rfl ?_
      refine w_cV (As := [.ref 1, .int a0]) ok dX11_text_24 iX4_read (lX11_89 rfl) (rcv cls4 (congrArg Prod.fst s_41)) (ltK hnn (by decide)) (c_X4_read ro hnn hf a0  (hp1 c1 c2)) (by decide) rfl (Nat.le_of_ble_eq_true rfl) ?_
      replace ro := ro_t ro
      have htp : (tR R) 81 1 = some 1 := u2_s _ _ _ _
      refine w_istore_n ok dX11_text_27 rfl (by decide) rfl ?_
      refine w_aload_n ok dX11_text_28 1 rfl ?_
      refine w_iconst (v := 0) ok dX11_text_29 (by decide) ?_
      refine y_putI ok dX11_text_30 (fwX11_13 rfl) (congrArg Prod.fst s_0) rfl (ltK hnn (by decide)) (sdc hf (by decide)) ?_
      refine w_iload_n ok dX11_text_33 0 rfl ?_
      refine w_if_ne (tgt := 39) ok dX11_text_34 (by decide) (fun c3 => ?_) (fun c3 => ?_)
      · skip
        refine w_aload_n ok dX11_text_39 1 rfl ?_
        refine w_getR ok dX11_text_40 (fX11_20 rfl) (congrArg Prod.fst s_0) rfl (r_0_2 ro) (ltK hnn (by decide)) ?_
        refine w_aload_n ok dX11_text_43 1 rfl ?_
        refine w_getR ok dX11_text_44 (fX11_27 rfl) (congrArg Prod.fst s_0) rfl (r_0_3 ro) (ltK hnn (by decide)) ?_
        refine w_getR ok dX11_text_47 (fX11_93 rfl) (congrArg Prod.fst s_41) rfl (r_41_0 ro) (ltK hnn (by decide)) ?_
        refine w_cV (As := [.ref 42]) ok dX11_text_50 iX9_copy (lX11_96 rfl) (rcv cls9 (congrArg Prod.fst s_2)) (ltK hnn (by decide)) (c_X9_copy ro hnn hf  isTo_2 isTo_42 (hp2 c1 c2 c3)) (by decide) rfl (Nat.le_of_ble_eq_true rfl) ?_
        refine w_aload_n ok dX11_text_53 1 rfl ?_
        refine w_getR ok dX11_text_54 (fX11_34 rfl) (congrArg Prod.fst s_0) rfl (r_0_4 ro) (ltK hnn (by decide)) ?_
        refine w_aload_n ok dX11_text_57 1 rfl ?_
        refine w_getR ok dX11_text_58 (fX11_20 rfl) (congrArg Prod.fst s_0) rfl (r_0_2 ro) (ltK hnn (by decide)) ?_
        refine w_cV (As := [.ref 2]) ok dX11_text_61 iX5_open (lX11_82 rfl) (rcv cls5 (congrArg Prod.fst s_86)) (ltK hnn (by decide)) (c_X5_open ro hnn hf  isSc_86 isTo_2) (by decide) rfl (Nat.le_of_ble_eq_true rfl) ?_
        refine w_aload_n ok dX11_text_64 1 rfl ?_
        refine w_getR ok dX11_text_65 (fX11_57 rfl) (congrArg Prod.fst s_0) rfl (r_0_8 ro) (ltK hnn (by decide)) ?_
        refine w_cV (As := []) ok dX11_text_68 iX6_clear (lX11_99 rfl) (rcv cls6 (congrArg Prod.fst s_116)) (ltK hnn (by decide)) (c_X6_clear ro hnn hf  ) (by decide) rfl (Nat.le_of_ble_eq_true rfl) ?_
        show WK K 0 0 71 [(2, .int (F_X4_read a0 I J)), (0, .ref 0), (1, .int a0)] [] (eI f (S1_X11_text a0 I J)) (eJ f (FJ_X5_open 86 2 (FI_X9_copy 2 42 (u2 (FI_X4_read a0 I J) 0 1 0) J) J)) (tR R) n g
        refine w_aload_n ok dX11_text_71 1 rfl ?_
        refine w_getR ok dX11_text_72 (fX11_64 rfl) (congrArg Prod.fst s_0) rfl (r_0_9 ro) (ltK hnn (by decide)) ?_
        refine w_cV (As := []) ok dX11_text_75 iX10_clear (lX11_102 rfl) (rcv cls10 (congrArg Prod.fst s_120)) (ltK hnn (by decide)) (c_X10_clear ro hnn hf  ) (by decide) rfl (Nat.le_of_ble_eq_true rfl) ?_
        show WK K 0 0 78 [(2, .int (F_X4_read a0 I J)), (0, .ref 0), (1, .int a0)] [] (eI f (S2_X11_text a0 I J)) (eJ f (FJ_X5_open 86 2 (FI_X9_copy 2 42 (u2 (FI_X4_read a0 I J) 0 1 0) J) J)) (tR R) n g
        refine w_aload_n ok dX11_text_78 1 rfl ?_
        refine w_iconst (v := 0) ok dX11_text_79 (by decide) ?_
        refine y_putZ ok dX11_text_80 (fwX11_41 rfl) (congrArg Prod.fst s_0) rfl (by decide) (ltK hnn (by decide)) (sdc hf (by decide)) ?_
        refine w_aload_n ok dX11_text_83 1 rfl ?_
        refine w_getR ok dX11_text_84 (fX11_20 rfl) (congrArg Prod.fst s_0) rfl (r_0_2 ro) (ltK hnn (by decide)) ?_
        refine y_getI ok dX11_text_87 (fX11_103 rfl) (congrArg Prod.fst s_2) rfl (ltK hnn (by decide)) (sdc hf (by decide)) ?_
        exact w_iret ok fin dX11_text_90 rfl (by unfold F_X11_text FI_X11_text FJ_X11_text FR_X11_text; simp only [if_neg c1]; simp only [if_pos c2]; simp only [if_neg c3]; exact Pd.i)
      · skip
        refine w_iconst (v := (-1)) ok dX11_text_37 (by decide) ?_
        exact w_iret ok fin dX11_text_38 rfl (by unfold F_X11_text FI_X11_text FJ_X11_text FR_X11_text; simp only [if_neg c1]; simp only [if_pos c2]; simp only [if_pos c3]; exact Pd.i)
    · skip
      refine w_bipush (v := (-2)) ok dX11_text_12 (by decide) ?_
      exact w_iret ok fin dX11_text_14 rfl (by unfold F_X11_text FI_X11_text FJ_X11_text FR_X11_text; simp only [if_neg c1]; simp only [if_neg c2]; exact Pd.i)
