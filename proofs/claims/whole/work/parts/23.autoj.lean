/-! printed by wip/whole/gen_c.py: contracts by program -/
def S1_X0_againWorth (a0 : Int32) (I : SI) (J : SJ) : SJ := FJ_X0_worthOf 37 0 (F_X5_givenCount 105 I J) (F_X5_clashing 105 a0 I J) (F_X5_marksIn 105 a0 I J) (atF (I 10) 8 a0) I J
def S2_X0_againWorth (a0 : Int32) (I : SI) (J : SJ) : Int64 := F_X0_worthOf 37 0 (F_X5_givenCount 105 I J) (F_X5_clashing 105 a0 I J) (F_X5_marksIn 105 a0 I J) (atF (I 10) 8 a0) I J
def F_X0_againWorth (a0 : Int32) (I : SI) (J : SJ) : Int64 := (S2_X0_againWorth a0 I J)
def FJ_X0_againWorth (a0 : Int32) (I : SI) (J : SJ) : SJ := (S1_X0_againWorth a0 I J)
def H_X0_againWorth (a0 : Int32) (I : SI) (J : SJ) : Prop := (H_X0_worthOf 37 0 (F_X5_givenCount 105 I J) (F_X5_clashing 105 a0 I J) (F_X5_marksIn 105 a0 I J) (atF (I 10) 8 a0) I J)
set_option maxHeartbeats 1000000 in
set_option maxRecDepth 40000 in
theorem c_X0_againWorth {I : SI} {J : SJ} {R : SR} {n g : Nat} (ro : RO R) (hnn : nK ≤ n) (a0 : Int32)  (hp : H_X0_againWorth a0 I J) : MM 3 0 0 mX0_againWorth [.ref 104, .int a0] I J R n g (Pd (some (.long (F_X0_againWorth a0 I J))) I (FJ_X0_againWorth a0 I J) R n g) := by
  refine MM.of (by decide) (Nat.le_of_ble_eq_true rfl) fun K ok fin => ?_
  show WK K 0 0 0 [(0, .ref 104), (1, .int a0)] [] I J R n g
  have hp1 := hp
  refine w_aload_n ok dX0_againWorth_0 0 rfl ?_
  refine w_aload_n ok dX0_againWorth_1 0 rfl ?_
  refine w_getR ok dX0_againWorth_2 (fX0_40 rfl) (congrArg Prod.fst s_104) rfl (r_104_3 ro) (ltK hnn (by decide)) ?_
  refine w_getR ok dX0_againWorth_5 (fX0_223 rfl) (congrArg Prod.fst s_2) rfl (r_2_14 ro) (ltK hnn (by decide)) ?_
  refine w_iconst (v := 0) ok dX0_againWorth_8 (by decide) ?_
  refine w_aload_n ok dX0_againWorth_9 0 rfl ?_
  refine w_getR ok dX0_againWorth_10 (fX0_12 rfl) (congrArg Prod.fst s_104) rfl (r_104_0 ro) (ltK hnn (by decide)) ?_
  refine w_cV (As := []) ok dX0_againWorth_13 iX5_givenCount (lX0_226 rfl) (rcv cls5 (congrArg Prod.fst s_105)) (ltK hnn (by decide)) (c_X5_givenCount ro hnn  isSc_105) (by decide) rfl (Nat.le_of_ble_eq_true rfl) ?_
  show WK K 0 0 16 [(0, .ref 104), (1, .int a0)] [.int (F_X5_givenCount 105 I J), .int 0, .ref 37, .ref 104] I J R n g
  refine w_aload_n ok dX0_againWorth_16 0 rfl ?_
  refine w_getR ok dX0_againWorth_17 (fX0_12 rfl) (congrArg Prod.fst s_104) rfl (r_104_0 ro) (ltK hnn (by decide)) ?_
  refine w_iload_n ok dX0_againWorth_20 1 rfl ?_
  refine w_cV (As := [.int a0]) ok dX0_againWorth_21 iX5_clashing (lX0_171 rfl) (rcv cls5 (congrArg Prod.fst s_105)) (ltK hnn (by decide)) (c_X5_clashing ro hnn a0 isSc_105) (by decide) rfl (Nat.le_of_ble_eq_true rfl) ?_
  show WK K 0 0 24 [(0, .ref 104), (1, .int a0)] [.int (F_X5_clashing 105 a0 I J), .int (F_X5_givenCount 105 I J), .int 0, .ref 37, .ref 104] I J R n g
  refine w_aload_n ok dX0_againWorth_24 0 rfl ?_
  refine w_getR ok dX0_againWorth_25 (fX0_12 rfl) (congrArg Prod.fst s_104) rfl (r_104_0 ro) (ltK hnn (by decide)) ?_
  refine w_iload_n ok dX0_againWorth_28 1 rfl ?_
  refine w_cV (As := [.int a0]) ok dX0_againWorth_29 iX5_marksIn (lX0_230 rfl) (rcv cls5 (congrArg Prod.fst s_105)) (ltK hnn (by decide)) (c_X5_marksIn ro hnn a0 isSc_105) (by decide) rfl (Nat.le_of_ble_eq_true rfl) ?_
  show WK K 0 0 32 [(0, .ref 104), (1, .int a0)] [.int (F_X5_marksIn 105 a0 I J), .int (F_X5_clashing 105 a0 I J), .int (F_X5_givenCount 105 I J), .int 0, .ref 37, .ref 104] I J R n g
  refine w_aload_n ok dX0_againWorth_32 0 rfl ?_
  refine w_getR ok dX0_againWorth_33 (fX0_40 rfl) (congrArg Prod.fst s_104) rfl (r_104_3 ro) (ltK hnn (by decide)) ?_
  refine w_getR ok dX0_againWorth_36 (fX0_77 rfl) (congrArg Prod.fst s_2) rfl (r_2_1 ro) (ltK hnn (by decide)) ?_
  refine w_getR ok dX0_againWorth_39 (fX0_54 rfl) (congrArg Prod.fst s_8) rfl (r_8_3 ro) (ltK hnn (by decide)) ?_
  refine w_iload_n ok dX0_againWorth_42 1 rfl ?_
  refine w_cS (As := [.ref 10, .int a0]) ok dX0_againWorth_43 iX11_at (lX0_86 rfl) (c_at s_10 (ltK hnn (by decide)) a0) (by decide) rfl (Nat.le_of_ble_eq_true rfl) ?_
  show WK K 0 0 46 [(0, .ref 104), (1, .int a0)] [.int (atF (I 10) 8 a0), .int (F_X5_marksIn 105 a0 I J), .int (F_X5_clashing 105 a0 I J), .int (F_X5_givenCount 105 I J), .int 0, .ref 37, .ref 104] I J R n g
  refine w_cV (As := [.ref 37, .int 0, .int (F_X5_givenCount 105 I J), .int (F_X5_clashing 105 a0 I J), .int (F_X5_marksIn 105 a0 I J), .int (atF (I 10) 8 a0)]) ok dX0_againWorth_46 iX0_worthOf (lX0_216 rfl) (rcv cls0 (congrArg Prod.fst s_104)) (ltK hnn (by decide)) (c_X0_worthOf ro hnn 0 (F_X5_givenCount 105 I J) (F_X5_clashing 105 a0 I J) (F_X5_marksIn 105 a0 I J) (atF (I 10) 8 a0) isLw_37 (hp1)) (by decide) rfl (Nat.le_of_ble_eq_true rfl) ?_
  show WK K 0 0 49 [(0, .ref 104), (1, .int a0)] [.long (S2_X0_againWorth a0 I J)] I (S1_X0_againWorth a0 I J) R n g
  exact w_lret ok fin dX0_againWorth_49 rfl (by unfold F_X0_againWorth FJ_X0_againWorth; exact Pd.i)
def S1_X4_markLine (I : SI) (J : SJ) : SI := FI_X4_number 0 99 (FI_X4_fresh 43 (FI_X4_begin (F_X7_isFull 43 I J) I J) J) J
def S2_X4_markLine (I : SI) (J : SJ) : SI := FI_X7_add 43 (F_X4_fresh 43 (FI_X4_begin (F_X7_isFull 43 I J) I J) J) (F_X4_number 0 99 (FI_X4_fresh 43 (FI_X4_begin (F_X7_isFull 43 I J) I J) J) J) (F_X4_number 2 6 (S1_X4_markLine I J) J) 0 (FI_X4_number 2 6 (S1_X4_markLine I J) J) J
def FI_X4_markLine  (I : SI) (J : SJ) : SI := if ((FI_X4_number 2 6 (S1_X4_markLine I J) J) 41 1) = 0 then (S2_X4_markLine I J) else FI_X4_number 2 6 (S1_X4_markLine I J) J
def H_X4_markLine  (I : SI) (J : SJ) : Prop := (H_X4_begin (F_X7_isFull 43 I J) I J) ∧ (H_X4_fresh 43 (FI_X4_begin (F_X7_isFull 43 I J) I J) J) ∧ (H_X4_number 0 99 (FI_X4_fresh 43 (FI_X4_begin (F_X7_isFull 43 I J) I J) J) J) ∧ (H_X4_number 2 6 (S1_X4_markLine I J) J)
set_option maxHeartbeats 1000000 in
set_option maxRecDepth 40000 in
theorem c_X4_markLine {I : SI} {J : SJ} {R : SR} {n g : Nat} (ro : RO R) (hnn : nK ≤ n)  (htp : R 81 1 = some 1)  (hp : H_X4_markLine  I J) : MM 4 0 0 mX4_markLine [.ref 41] I J R n g (Pd none (FI_X4_markLine  I J) J R n g) := by
  refine MM.of (by decide) (Nat.le_of_ble_eq_true rfl) fun K ok fin => ?_
  show WK K 0 0 0 [(0, .ref 41)] [] I J R n g
  obtain ⟨hp1, hp2, hp3, hp4⟩ := hp
  refine w_aload_n ok dX4_markLine_0 0 rfl ?_
  refine w_aload_n ok dX4_markLine_1 0 rfl ?_
  refine w_getR ok dX4_markLine_2 (fX4_12 rfl) (congrArg Prod.fst s_41) rfl (r_41_0 ro) (ltK hnn (by decide)) ?_
  refine w_getR ok dX4_markLine_5 (fX4_111 rfl) (congrArg Prod.fst s_42) rfl (r_42_0 ro) (ltK hnn (by decide)) ?_
  refine w_cV (As := []) ok dX4_markLine_8 iX7_isFull (lX4_115 rfl) (rcv cls7 (congrArg Prod.fst s_43)) (ltK hnn (by decide)) (c_X7_isFull ro hnn  isTb_43) (by decide) rfl (Nat.le_of_ble_eq_true rfl) ?_
  show WK K 0 0 11 [(0, .ref 41)] [.int (F_X7_isFull 43 I J), .ref 41] I J R n g
  refine w_cV (As := [.int (F_X7_isFull 43 I J)]) ok dX4_markLine_11 iX4_begin (lX4_121 rfl) (rcv cls4 (congrArg Prod.fst s_41)) (ltK hnn (by decide)) (c_X4_begin ro hnn (F_X7_isFull 43 I J) htp (hp1)) (by decide) rfl (Nat.le_of_ble_eq_true rfl) ?_
  refine w_aload_n ok dX4_markLine_14 0 rfl ?_
  refine w_aload_n ok dX4_markLine_15 0 rfl ?_
  refine w_getR ok dX4_markLine_16 (fX4_12 rfl) (congrArg Prod.fst s_41) rfl (r_41_0 ro) (ltK hnn (by decide)) ?_
  refine w_getR ok dX4_markLine_19 (fX4_111 rfl) (congrArg Prod.fst s_42) rfl (r_42_0 ro) (ltK hnn (by decide)) ?_
  refine w_cV (As := [.ref 43]) ok dX4_markLine_22 iX4_fresh (lX4_124 rfl) (rcv cls4 (congrArg Prod.fst s_41)) (ltK hnn (by decide)) (c_X4_fresh ro hnn  isTb_43 htp (hp2)) (by decide) rfl (Nat.le_of_ble_eq_true rfl) ?_
  refine w_istore_n ok dX4_markLine_25 rfl (by decide) rfl ?_
  refine w_aload_n ok dX4_markLine_26 1 rfl ?_
  refine w_iconst (v := 0) ok dX4_markLine_27 (by decide) ?_
  refine w_bipush (v := 99) ok dX4_markLine_28 (by decide) ?_
  refine w_cV (As := [.int 0, .int 99]) ok dX4_markLine_30 iX4_number (lX4_128 rfl) (rcv cls4 (congrArg Prod.fst s_41)) (ltK hnn (by decide)) (c_X4_number ro hnn 0 99 htp (hp3)) (by decide) rfl (Nat.le_of_ble_eq_true rfl) ?_
  show WK K 0 0 33 [(1, .int (F_X4_fresh 43 (FI_X4_begin (F_X7_isFull 43 I J) I J) J)), (0, .ref 41)] [.int (F_X4_number 0 99 (FI_X4_fresh 43 (FI_X4_begin (F_X7_isFull 43 I J) I J) J) J)] (S1_X4_markLine I J) J R n g
  refine w_istore_n ok dX4_markLine_33 rfl (by decide) rfl ?_
  refine w_aload_n ok dX4_markLine_34 2 rfl ?_
  refine w_iconst (v := 2) ok dX4_markLine_35 (by decide) ?_
  refine w_bipush (v := 6) ok dX4_markLine_36 (by decide) ?_
  refine w_cV (As := [.int 2, .int 6]) ok dX4_markLine_38 iX4_number (lX4_128 rfl) (rcv cls4 (congrArg Prod.fst s_41)) (ltK hnn (by decide)) (c_X4_number ro hnn 2 6 htp (hp4)) (by decide) rfl (Nat.le_of_ble_eq_true rfl) ?_
  refine w_istore_n ok dX4_markLine_41 rfl (by decide) rfl ?_
  refine w_aload_n ok dX4_markLine_42 3 rfl ?_
  refine w_getI ok dX4_markLine_43 (fX4_18 rfl) (congrArg Prod.fst s_41) rfl (ltK hnn (by decide)) ?_
  refine w_if_ne (tgt := 63) ok dX4_markLine_46 (by decide) (fun c1 => ?_) (fun c1 => ?_)
  · skip
    exact w_vret ok fin dX4_markLine_63 rfl (by unfold FI_X4_markLine; simp only [if_neg c1]; exact Pd.i)
  · skip
    refine w_aload_n ok dX4_markLine_49 3 rfl ?_
    refine w_getR ok dX4_markLine_50 (fX4_12 rfl) (congrArg Prod.fst s_41) rfl (r_41_0 ro) (ltK hnn (by decide)) ?_
    refine w_getR ok dX4_markLine_53 (fX4_111 rfl) (congrArg Prod.fst s_42) rfl (r_42_0 ro) (ltK hnn (by decide)) ?_
    refine w_iload_n ok dX4_markLine_56 2 rfl ?_
    refine w_iload_n ok dX4_markLine_57 1 rfl ?_
    refine w_iload_n ok dX4_markLine_58 0 rfl ?_
    refine w_iconst (v := 0) ok dX4_markLine_59 (by decide) ?_
    refine w_cV (As := [.int (F_X4_fresh 43 (FI_X4_begin (F_X7_isFull 43 I J) I J) J), .int (F_X4_number 0 99 (FI_X4_fresh 43 (FI_X4_begin (F_X7_isFull 43 I J) I J) J) J), .int (F_X4_number 2 6 (S1_X4_markLine I J) J), .int 0]) ok dX4_markLine_60 iX7_add (lX4_131 rfl) (rcv cls7 (congrArg Prod.fst s_43)) (ltK hnn (by decide)) (c_X7_add ro hnn (F_X4_fresh 43 (FI_X4_begin (F_X7_isFull 43 I J) I J) J) (F_X4_number 0 99 (FI_X4_fresh 43 (FI_X4_begin (F_X7_isFull 43 I J) I J) J) J) (F_X4_number 2 6 (S1_X4_markLine I J) J) 0 isTb_43) (by decide) rfl (Nat.le_of_ble_eq_true rfl) ?_
    show WK K 0 0 63 [(3, .int (F_X4_number 2 6 (S1_X4_markLine I J) J)), (2, .int (F_X4_number 0 99 (FI_X4_fresh 43 (FI_X4_begin (F_X7_isFull 43 I J) I J) J) J)), (1, .int (F_X4_fresh 43 (FI_X4_begin (F_X7_isFull 43 I J) I J) J)), (0, .ref 41)] [] (S2_X4_markLine I J) J R n g
    exact w_vret ok fin dX4_markLine_63 rfl (by unfold FI_X4_markLine; simp only [if_pos c1]; exact Pd.i)
def S1_X4_shotLine (I : SI) (J : SJ) : SI := FI_X4_number 1 99 (FI_X4_fresh 48 (FI_X4_begin (F_X7_isFull 48 I J) I J) J) J
def S2_X4_shotLine (I : SI) (J : SJ) : SI := FI_X7_add 48 (F_X4_fresh 48 (FI_X4_begin (F_X7_isFull 48 I J) I J) J) (F_X4_number 1 99 (FI_X4_fresh 48 (FI_X4_begin (F_X7_isFull 48 I J) I J) J) J) (F_X4_number 0 99 (S1_X4_shotLine I J) J) 0 (FI_X4_number 0 99 (S1_X4_shotLine I J) J) J
def FI_X4_shotLine  (I : SI) (J : SJ) : SI := if ((FI_X4_number 0 99 (S1_X4_shotLine I J) J) 41 1) = 0 then (S2_X4_shotLine I J) else FI_X4_number 0 99 (S1_X4_shotLine I J) J
def H_X4_shotLine  (I : SI) (J : SJ) : Prop := (H_X4_begin (F_X7_isFull 48 I J) I J) ∧ (H_X4_fresh 48 (FI_X4_begin (F_X7_isFull 48 I J) I J) J) ∧ (H_X4_number 1 99 (FI_X4_fresh 48 (FI_X4_begin (F_X7_isFull 48 I J) I J) J) J) ∧ (H_X4_number 0 99 (S1_X4_shotLine I J) J)
set_option maxHeartbeats 1000000 in
set_option maxRecDepth 40000 in
theorem c_X4_shotLine {I : SI} {J : SJ} {R : SR} {n g : Nat} (ro : RO R) (hnn : nK ≤ n)  (htp : R 81 1 = some 1)  (hp : H_X4_shotLine  I J) : MM 4 0 0 mX4_shotLine [.ref 41] I J R n g (Pd none (FI_X4_shotLine  I J) J R n g) := by
  refine MM.of (by decide) (Nat.le_of_ble_eq_true rfl) fun K ok fin => ?_
  show WK K 0 0 0 [(0, .ref 41)] [] I J R n g
  obtain ⟨hp1, hp2, hp3, hp4⟩ := hp
  refine w_aload_n ok dX4_shotLine_0 0 rfl ?_
  refine w_aload_n ok dX4_shotLine_1 0 rfl ?_
  refine w_getR ok dX4_shotLine_2 (fX4_12 rfl) (congrArg Prod.fst s_41) rfl (r_41_0 ro) (ltK hnn (by decide)) ?_
  refine w_getR ok dX4_shotLine_5 (fX4_135 rfl) (congrArg Prod.fst s_42) rfl (r_42_1 ro) (ltK hnn (by decide)) ?_
  refine w_cV (As := []) ok dX4_shotLine_8 iX7_isFull (lX4_115 rfl) (rcv cls7 (congrArg Prod.fst s_48)) (ltK hnn (by decide)) (c_X7_isFull ro hnn  isTb_48) (by decide) rfl (Nat.le_of_ble_eq_true rfl) ?_
  show WK K 0 0 11 [(0, .ref 41)] [.int (F_X7_isFull 48 I J), .ref 41] I J R n g
  refine w_cV (As := [.int (F_X7_isFull 48 I J)]) ok dX4_shotLine_11 iX4_begin (lX4_121 rfl) (rcv cls4 (congrArg Prod.fst s_41)) (ltK hnn (by decide)) (c_X4_begin ro hnn (F_X7_isFull 48 I J) htp (hp1)) (by decide) rfl (Nat.le_of_ble_eq_true rfl) ?_
  refine w_aload_n ok dX4_shotLine_14 0 rfl ?_
  refine w_aload_n ok dX4_shotLine_15 0 rfl ?_
  refine w_getR ok dX4_shotLine_16 (fX4_12 rfl) (congrArg Prod.fst s_41) rfl (r_41_0 ro) (ltK hnn (by decide)) ?_
  refine w_getR ok dX4_shotLine_19 (fX4_135 rfl) (congrArg Prod.fst s_42) rfl (r_42_1 ro) (ltK hnn (by decide)) ?_
  refine w_cV (As := [.ref 48]) ok dX4_shotLine_22 iX4_fresh (lX4_124 rfl) (rcv cls4 (congrArg Prod.fst s_41)) (ltK hnn (by decide)) (c_X4_fresh ro hnn  isTb_48 htp (hp2)) (by decide) rfl (Nat.le_of_ble_eq_true rfl) ?_
  refine w_istore_n ok dX4_shotLine_25 rfl (by decide) rfl ?_
  refine w_aload_n ok dX4_shotLine_26 1 rfl ?_
  refine w_iconst (v := 1) ok dX4_shotLine_27 (by decide) ?_
  refine w_bipush (v := 99) ok dX4_shotLine_28 (by decide) ?_
  refine w_cV (As := [.int 1, .int 99]) ok dX4_shotLine_30 iX4_number (lX4_128 rfl) (rcv cls4 (congrArg Prod.fst s_41)) (ltK hnn (by decide)) (c_X4_number ro hnn 1 99 htp (hp3)) (by decide) rfl (Nat.le_of_ble_eq_true rfl) ?_
  show WK K 0 0 33 [(1, .int (F_X4_fresh 48 (FI_X4_begin (F_X7_isFull 48 I J) I J) J)), (0, .ref 41)] [.int (F_X4_number 1 99 (FI_X4_fresh 48 (FI_X4_begin (F_X7_isFull 48 I J) I J) J) J)] (S1_X4_shotLine I J) J R n g
  refine w_istore_n ok dX4_shotLine_33 rfl (by decide) rfl ?_
  refine w_aload_n ok dX4_shotLine_34 2 rfl ?_
  refine w_iconst (v := 0) ok dX4_shotLine_35 (by decide) ?_
  refine w_bipush (v := 99) ok dX4_shotLine_36 (by decide) ?_
  refine w_cV (As := [.int 0, .int 99]) ok dX4_shotLine_38 iX4_number (lX4_128 rfl) (rcv cls4 (congrArg Prod.fst s_41)) (ltK hnn (by decide)) (c_X4_number ro hnn 0 99 htp (hp4)) (by decide) rfl (Nat.le_of_ble_eq_true rfl) ?_
  refine w_istore_n ok dX4_shotLine_41 rfl (by decide) rfl ?_
  refine w_aload_n ok dX4_shotLine_42 3 rfl ?_
  refine w_getI ok dX4_shotLine_43 (fX4_18 rfl) (congrArg Prod.fst s_41) rfl (ltK hnn (by decide)) ?_
  refine w_if_ne (tgt := 63) ok dX4_shotLine_46 (by decide) (fun c1 => ?_) (fun c1 => ?_)
  · skip
    exact w_vret ok fin dX4_shotLine_63 rfl (by unfold FI_X4_shotLine; simp only [if_neg c1]; exact Pd.i)
  · skip
    refine w_aload_n ok dX4_shotLine_49 3 rfl ?_
    refine w_getR ok dX4_shotLine_50 (fX4_12 rfl) (congrArg Prod.fst s_41) rfl (r_41_0 ro) (ltK hnn (by decide)) ?_
    refine w_getR ok dX4_shotLine_53 (fX4_135 rfl) (congrArg Prod.fst s_42) rfl (r_42_1 ro) (ltK hnn (by decide)) ?_
    refine w_iload_n ok dX4_shotLine_56 2 rfl ?_
    refine w_iload_n ok dX4_shotLine_57 1 rfl ?_
    refine w_iload_n ok dX4_shotLine_58 0 rfl ?_
    refine w_iconst (v := 0) ok dX4_shotLine_59 (by decide) ?_
    refine w_cV (As := [.int (F_X4_fresh 48 (FI_X4_begin (F_X7_isFull 48 I J) I J) J), .int (F_X4_number 1 99 (FI_X4_fresh 48 (FI_X4_begin (F_X7_isFull 48 I J) I J) J) J), .int (F_X4_number 0 99 (S1_X4_shotLine I J) J), .int 0]) ok dX4_shotLine_60 iX7_add (lX4_131 rfl) (rcv cls7 (congrArg Prod.fst s_48)) (ltK hnn (by decide)) (c_X7_add ro hnn (F_X4_fresh 48 (FI_X4_begin (F_X7_isFull 48 I J) I J) J) (F_X4_number 1 99 (FI_X4_fresh 48 (FI_X4_begin (F_X7_isFull 48 I J) I J) J) J) (F_X4_number 0 99 (S1_X4_shotLine I J) J) 0 isTb_48) (by decide) rfl (Nat.le_of_ble_eq_true rfl) ?_
    show WK K 0 0 63 [(3, .int (F_X4_number 0 99 (S1_X4_shotLine I J) J)), (2, .int (F_X4_number 1 99 (FI_X4_fresh 48 (FI_X4_begin (F_X7_isFull 48 I J) I J) J) J)), (1, .int (F_X4_fresh 48 (FI_X4_begin (F_X7_isFull 48 I J) I J) J)), (0, .ref 41)] [] (S2_X4_shotLine I J) J R n g
    exact w_vret ok fin dX4_shotLine_63 rfl (by unfold FI_X4_shotLine; simp only [if_pos c1]; exact Pd.i)
def S1_X4_pairLine (I : SI) (J : SJ) : Int32 := ((F_X4_find 48 (FI_X4_begin 0 I J) J) * 6) + (F_X4_find 43 (FI_X8_step  (FI_X4_find 48 (FI_X4_begin 0 I J) J) J) J)
def S2_X4_pairLine (I : SI) (J : SJ) : SI := FI_X8_step  (FI_X4_find 43 (FI_X8_step  (FI_X4_find 48 (FI_X4_begin 0 I J) J) J) J) J
def S3_X4_pairLine (I : SI) (J : SJ) : Int32 := atF ((S2_X4_pairLine I J) 46) 8 (F_X4_find 43 (FI_X8_step  (FI_X4_find 48 (FI_X4_begin 0 I J) J) J) J)
def S4_X4_pairLine (I : SI) (J : SJ) : SI := putF (FI_X4_number 0 ((S3_X4_pairLine I J) - 1) (S2_X4_pairLine I J) J) 68 48 (S1_X4_pairLine I J) (F_X4_number 0 ((S3_X4_pairLine I J) - 1) (S2_X4_pairLine I J) J)
def S5_X4_pairLine (I : SI) (J : SJ) : Int32 := atF ((FI_X4_find 43 (FI_X8_step  (FI_X4_find 48 (FI_X4_begin 0 I J) J) J) J) 68) 48 (S1_X4_pairLine I J)
def S6_X4_pairLine (I : SI) (J : SJ) : SI := FI_X8_step  (FI_X4_find 43 (FI_X8_step  (FI_X4_find 48 (FI_X4_begin 0 I J) J) J) J) J
def S7_X4_pairLine (I : SI) (J : SJ) : Int32 := atF ((S6_X4_pairLine I J) 46) 8 (F_X4_find 43 (FI_X8_step  (FI_X4_find 48 (FI_X4_begin 0 I J) J) J) J)
def S8_X4_pairLine (I : SI) (J : SJ) : SI := putF (FI_X4_number 0 ((S7_X4_pairLine I J) - 1) (S6_X4_pairLine I J) J) 68 48 (S1_X4_pairLine I J) (F_X4_number 0 ((S7_X4_pairLine I J) - 1) (S6_X4_pairLine I J) J)
def S9_X4_pairLine (I : SI) (J : SJ) : SI := FI_X4_fail 3 (FI_X4_find 43 (FI_X8_step  (FI_X4_find 48 (FI_X4_begin 0 I J) J) J) J) J
def S10_X4_pairLine (I : SI) (J : SJ) : Int32 := atF ((FI_X8_step  (S9_X4_pairLine I J) J) 46) 8 (F_X4_find 43 (FI_X8_step  (FI_X4_find 48 (FI_X4_begin 0 I J) J) J) J)
def S11_X4_pairLine (I : SI) (J : SJ) : SI := FI_X4_number 0 ((S10_X4_pairLine I J) - 1) (FI_X8_step  (S9_X4_pairLine I J) J) J
def S12_X4_pairLine (I : SI) (J : SJ) : SI := putF (S11_X4_pairLine I J) 68 48 (S1_X4_pairLine I J) (F_X4_number 0 ((S10_X4_pairLine I J) - 1) (FI_X8_step  (S9_X4_pairLine I J) J) J)
def S13_X4_pairLine (I : SI) (J : SJ) : Int32 := ((F_X4_find 48 (FI_X4_begin 1 I J) J) * 6) + (F_X4_find 43 (FI_X8_step  (FI_X4_find 48 (FI_X4_begin 1 I J) J) J) J)
def S14_X4_pairLine (I : SI) (J : SJ) : SI := FI_X8_step  (FI_X4_find 43 (FI_X8_step  (FI_X4_find 48 (FI_X4_begin 1 I J) J) J) J) J
def S15_X4_pairLine (I : SI) (J : SJ) : Int32 := atF ((S14_X4_pairLine I J) 46) 8 (F_X4_find 43 (FI_X8_step  (FI_X4_find 48 (FI_X4_begin 1 I J) J) J) J)
def S16_X4_pairLine (I : SI) (J : SJ) : SI := putF (FI_X4_number 0 ((S15_X4_pairLine I J) - 1) (S14_X4_pairLine I J) J) 68 48 (S13_X4_pairLine I J) (F_X4_number 0 ((S15_X4_pairLine I J) - 1) (S14_X4_pairLine I J) J)
def S17_X4_pairLine (I : SI) (J : SJ) : Int32 := atF ((FI_X4_find 43 (FI_X8_step  (FI_X4_find 48 (FI_X4_begin 1 I J) J) J) J) 68) 48 (S13_X4_pairLine I J)
def S18_X4_pairLine (I : SI) (J : SJ) : SI := FI_X8_step  (FI_X4_find 43 (FI_X8_step  (FI_X4_find 48 (FI_X4_begin 1 I J) J) J) J) J
def S19_X4_pairLine (I : SI) (J : SJ) : Int32 := atF ((S18_X4_pairLine I J) 46) 8 (F_X4_find 43 (FI_X8_step  (FI_X4_find 48 (FI_X4_begin 1 I J) J) J) J)
def S20_X4_pairLine (I : SI) (J : SJ) : SI := putF (FI_X4_number 0 ((S19_X4_pairLine I J) - 1) (S18_X4_pairLine I J) J) 68 48 (S13_X4_pairLine I J) (F_X4_number 0 ((S19_X4_pairLine I J) - 1) (S18_X4_pairLine I J) J)
def S21_X4_pairLine (I : SI) (J : SJ) : SI := FI_X4_fail 3 (FI_X4_find 43 (FI_X8_step  (FI_X4_find 48 (FI_X4_begin 1 I J) J) J) J) J
def S22_X4_pairLine (I : SI) (J : SJ) : Int32 := atF ((FI_X8_step  (S21_X4_pairLine I J) J) 46) 8 (F_X4_find 43 (FI_X8_step  (FI_X4_find 48 (FI_X4_begin 1 I J) J) J) J)
def S23_X4_pairLine (I : SI) (J : SJ) : SI := FI_X4_number 0 ((S22_X4_pairLine I J) - 1) (FI_X8_step  (S21_X4_pairLine I J) J) J
def S24_X4_pairLine (I : SI) (J : SJ) : SI := putF (S23_X4_pairLine I J) 68 48 (S13_X4_pairLine I J) (F_X4_number 0 ((S22_X4_pairLine I J) - 1) (FI_X8_step  (S21_X4_pairLine I J) J) J)
def FI_X4_pairLine  (I : SI) (J : SJ) : SI := if (I 42 6) < 20 then (if ((FI_X4_find 43 (FI_X8_step  (FI_X4_find 48 (FI_X4_begin 0 I J) J) J) J) 41 1) = 0 then (if (S5_X4_pairLine I J) < 0 then (if ((FI_X4_number 0 ((S7_X4_pairLine I J) - 1) (S6_X4_pairLine I J) J) 41 1) = 0 then u2 (S8_X4_pairLine I J) 42 6 ((((S8_X4_pairLine I J)) 42 6) + 1) else FI_X4_number 0 ((S7_X4_pairLine I J) - 1) (S6_X4_pairLine I J) J) else (if (((S11_X4_pairLine I J)) 41 1) = 0 then u2 (S12_X4_pairLine I J) 42 6 ((((S12_X4_pairLine I J)) 42 6) + 1) else (S11_X4_pairLine I J))) else (if ((FI_X4_number 0 ((S3_X4_pairLine I J) - 1) (S2_X4_pairLine I J) J) 41 1) = 0 then u2 (S4_X4_pairLine I J) 42 6 ((((S4_X4_pairLine I J)) 42 6) + 1) else FI_X4_number 0 ((S3_X4_pairLine I J) - 1) (S2_X4_pairLine I J) J)) else (if ((FI_X4_find 43 (FI_X8_step  (FI_X4_find 48 (FI_X4_begin 1 I J) J) J) J) 41 1) = 0 then (if (S17_X4_pairLine I J) < 0 then (if ((FI_X4_number 0 ((S19_X4_pairLine I J) - 1) (S18_X4_pairLine I J) J) 41 1) = 0 then u2 (S20_X4_pairLine I J) 42 6 ((((S20_X4_pairLine I J)) 42 6) + 1) else FI_X4_number 0 ((S19_X4_pairLine I J) - 1) (S18_X4_pairLine I J) J) else (if (((S23_X4_pairLine I J)) 41 1) = 0 then u2 (S24_X4_pairLine I J) 42 6 ((((S24_X4_pairLine I J)) 42 6) + 1) else (S23_X4_pairLine I J))) else (if ((FI_X4_number 0 ((S15_X4_pairLine I J) - 1) (S14_X4_pairLine I J) J) 41 1) = 0 then u2 (S16_X4_pairLine I J) 42 6 ((((S16_X4_pairLine I J)) 42 6) + 1) else FI_X4_number 0 ((S15_X4_pairLine I J) - 1) (S14_X4_pairLine I J) J))
def H_X4_pairLine  (I : SI) (J : SJ) : Prop := ((I 42 6) < 20 → H_X4_begin 0 I J) ∧ ((I 42 6) < 20 → H_X8_step  (FI_X4_find 48 (FI_X4_begin 0 I J) J) J) ∧ ((I 42 6) < 20 → ¬ (((FI_X4_find 43 (FI_X8_step  (FI_X4_find 48 (FI_X4_begin 0 I J) J) J) J) 41 1) = 0) → H_X8_step  (FI_X4_find 43 (FI_X8_step  (FI_X4_find 48 (FI_X4_begin 0 I J) J) J) J) J) ∧ ((I 42 6) < 20 → ¬ (((FI_X4_find 43 (FI_X8_step  (FI_X4_find 48 (FI_X4_begin 0 I J) J) J) J) 41 1) = 0) → H_X4_number 0 ((S3_X4_pairLine I J) - 1) (S2_X4_pairLine I J) J) ∧ ((I 42 6) < 20 → ((FI_X4_find 43 (FI_X8_step  (FI_X4_find 48 (FI_X4_begin 0 I J) J) J) J) 41 1) = 0 → (S5_X4_pairLine I J) < 0 → H_X8_step  (FI_X4_find 43 (FI_X8_step  (FI_X4_find 48 (FI_X4_begin 0 I J) J) J) J) J) ∧ ((I 42 6) < 20 → ((FI_X4_find 43 (FI_X8_step  (FI_X4_find 48 (FI_X4_begin 0 I J) J) J) J) 41 1) = 0 → (S5_X4_pairLine I J) < 0 → H_X4_number 0 ((S7_X4_pairLine I J) - 1) (S6_X4_pairLine I J) J) ∧ ((I 42 6) < 20 → ((FI_X4_find 43 (FI_X8_step  (FI_X4_find 48 (FI_X4_begin 0 I J) J) J) J) 41 1) = 0 → ¬ ((S5_X4_pairLine I J) < 0) → H_X8_step  (S9_X4_pairLine I J) J) ∧ ((I 42 6) < 20 → ((FI_X4_find 43 (FI_X8_step  (FI_X4_find 48 (FI_X4_begin 0 I J) J) J) J) 41 1) = 0 → ¬ ((S5_X4_pairLine I J) < 0) → H_X4_number 0 ((S10_X4_pairLine I J) - 1) (FI_X8_step  (S9_X4_pairLine I J) J) J) ∧ (¬ ((I 42 6) < 20) → H_X4_begin 1 I J) ∧ (¬ ((I 42 6) < 20) → H_X8_step  (FI_X4_find 48 (FI_X4_begin 1 I J) J) J) ∧ (¬ ((I 42 6) < 20) → ¬ (((FI_X4_find 43 (FI_X8_step  (FI_X4_find 48 (FI_X4_begin 1 I J) J) J) J) 41 1) = 0) → H_X8_step  (FI_X4_find 43 (FI_X8_step  (FI_X4_find 48 (FI_X4_begin 1 I J) J) J) J) J) ∧ (¬ ((I 42 6) < 20) → ¬ (((FI_X4_find 43 (FI_X8_step  (FI_X4_find 48 (FI_X4_begin 1 I J) J) J) J) 41 1) = 0) → H_X4_number 0 ((S15_X4_pairLine I J) - 1) (S14_X4_pairLine I J) J) ∧ (¬ ((I 42 6) < 20) → ((FI_X4_find 43 (FI_X8_step  (FI_X4_find 48 (FI_X4_begin 1 I J) J) J) J) 41 1) = 0 → (S17_X4_pairLine I J) < 0 → H_X8_step  (FI_X4_find 43 (FI_X8_step  (FI_X4_find 48 (FI_X4_begin 1 I J) J) J) J) J) ∧ (¬ ((I 42 6) < 20) → ((FI_X4_find 43 (FI_X8_step  (FI_X4_find 48 (FI_X4_begin 1 I J) J) J) J) 41 1) = 0 → (S17_X4_pairLine I J) < 0 → H_X4_number 0 ((S19_X4_pairLine I J) - 1) (S18_X4_pairLine I J) J) ∧ (¬ ((I 42 6) < 20) → ((FI_X4_find 43 (FI_X8_step  (FI_X4_find 48 (FI_X4_begin 1 I J) J) J) J) 41 1) = 0 → ¬ ((S17_X4_pairLine I J) < 0) → H_X8_step  (S21_X4_pairLine I J) J) ∧ (¬ ((I 42 6) < 20) → ((FI_X4_find 43 (FI_X8_step  (FI_X4_find 48 (FI_X4_begin 1 I J) J) J) J) 41 1) = 0 → ¬ ((S17_X4_pairLine I J) < 0) → H_X4_number 0 ((S22_X4_pairLine I J) - 1) (FI_X8_step  (S21_X4_pairLine I J) J) J)
set_option maxHeartbeats 3220000 in
set_option maxRecDepth 40000 in
theorem c_X4_pairLine {I : SI} {J : SJ} {R : SR} {n g : Nat} (ro : RO R) (hnn : nK ≤ n)  (htp : R 81 1 = some 1)  (hp : H_X4_pairLine  I J) : MM 4 0 0 mX4_pairLine [.ref 41] I J R n g (Pd none (FI_X4_pairLine  I J) J R n g) := by
  refine MM.of (by decide) (Nat.le_of_ble_eq_true rfl) fun K ok fin => ?_
  show WK K 0 0 0 [(0, .ref 41)] [] I J R n g
  obtain ⟨hp1, hp2, hp3, hp4, hp5, hp6, hp7, hp8, hp9, hp10, hp11, hp12, hp13, hp14, hp15, hp16⟩ := hp
  refine w_aload_n ok dX4_pairLine_0 0 rfl ?_
  refine w_aload_n ok dX4_pairLine_1 0 rfl ?_
  refine w_getR ok dX4_pairLine_2 (fX4_12 rfl) (congrArg Prod.fst s_41) rfl (r_41_0 ro) (ltK hnn (by decide)) ?_
  refine w_getI ok dX4_pairLine_5 (fX4_138 rfl) (congrArg Prod.fst s_42) rfl (ltK hnn (by decide)) ?_
  refine w_bipush (v := 20) ok dX4_pairLine_8 (by decide) ?_
  refine w_icmp_lt (tgt := 17) ok dX4_pairLine_10 (by decide) (fun c1 => ?_) (fun c1 => ?_)
  · skip
    refine w_iconst (v := 0) ok dX4_pairLine_17 (by decide) ?_
    refine w_cV (As := [.int 0]) ok dX4_pairLine_18 iX4_begin (lX4_121 rfl) (rcv cls4 (congrArg Prod.fst s_41)) (ltK hnn (by decide)) (c_X4_begin ro hnn 0 htp (hp1 c1)) (by decide) rfl (Nat.le_of_ble_eq_true rfl) ?_
    refine w_aload_n ok dX4_pairLine_21 0 rfl ?_
    refine w_aload_n ok dX4_pairLine_22 0 rfl ?_
    refine w_getR ok dX4_pairLine_23 (fX4_12 rfl) (congrArg Prod.fst s_41) rfl (r_41_0 ro) (ltK hnn (by decide)) ?_
    refine w_getR ok dX4_pairLine_26 (fX4_135 rfl) (congrArg Prod.fst s_42) rfl (r_42_1 ro) (ltK hnn (by decide)) ?_
    refine w_cV (As := [.ref 48]) ok dX4_pairLine_29 iX4_find (lX4_141 rfl) (rcv cls4 (congrArg Prod.fst s_41)) (ltK hnn (by decide)) (c_X4_find ro hnn  isTb_48) (by decide) rfl (Nat.le_of_ble_eq_true rfl) ?_
    refine w_istore_n ok dX4_pairLine_32 rfl (by decide) rfl ?_
    refine w_aload_n ok dX4_pairLine_33 1 rfl ?_
    refine w_getR ok dX4_pairLine_34 (fX4_28 rfl) (congrArg Prod.fst s_41) rfl (r_41_3 ro) (ltK hnn (by decide)) ?_
    refine w_cV (As := []) ok dX4_pairLine_37 iX8_step (lX4_65 rfl) (rcv cls8 (congrArg Prod.fst s_81)) (ltK hnn (by decide)) (c_X8_step ro hnn  htp (hp2 c1)) (by decide) rfl (Nat.le_of_ble_eq_true rfl) ?_
    refine w_aload_n ok dX4_pairLine_40 1 rfl ?_
    refine w_aload_n ok dX4_pairLine_41 1 rfl ?_
    refine w_getR ok dX4_pairLine_42 (fX4_12 rfl) (congrArg Prod.fst s_41) rfl (r_41_0 ro) (ltK hnn (by decide)) ?_
    refine w_getR ok dX4_pairLine_45 (fX4_111 rfl) (congrArg Prod.fst s_42) rfl (r_42_0 ro) (ltK hnn (by decide)) ?_
    refine w_cV (As := [.ref 43]) ok dX4_pairLine_48 iX4_find (lX4_141 rfl) (rcv cls4 (congrArg Prod.fst s_41)) (ltK hnn (by decide)) (c_X4_find ro hnn  isTb_43) (by decide) rfl (Nat.le_of_ble_eq_true rfl) ?_
    refine w_istore_n ok dX4_pairLine_51 rfl (by decide) rfl ?_
    refine w_iload_n ok dX4_pairLine_52 1 rfl ?_
    refine w_bipush (v := 6) ok dX4_pairLine_53 (by decide) ?_
    refine w_imul ok dX4_pairLine_55 ?_
    refine w_iload_n ok dX4_pairLine_56 0 rfl ?_
    refine w_iadd ok dX4_pairLine_57 ?_
    show WK K 0 0 58 [(2, .int (F_X4_find 43 (FI_X8_step  (FI_X4_find 48 (FI_X4_begin 0 I J) J) J) J)), (1, .int (F_X4_find 48 (FI_X4_begin 0 I J) J)), (0, .ref 41)] [.int (S1_X4_pairLine I J)] (FI_X4_find 43 (FI_X8_step  (FI_X4_find 48 (FI_X4_begin 0 I J) J) J) J) J R n g
    refine w_istore_n ok dX4_pairLine_58 rfl (by decide) rfl ?_
    refine w_aload_n ok dX4_pairLine_59 3 rfl ?_
    refine w_getI ok dX4_pairLine_60 (fX4_18 rfl) (congrArg Prod.fst s_41) rfl (ltK hnn (by decide)) ?_
    refine w_if_ne (tgt := 85) ok dX4_pairLine_63 (by decide) (fun c2 => ?_) (fun c2 => ?_)
    · skip
      refine w_aload_n ok dX4_pairLine_85 3 rfl ?_
      refine w_getR ok dX4_pairLine_86 (fX4_28 rfl) (congrArg Prod.fst s_41) rfl (r_41_3 ro) (ltK hnn (by decide)) ?_
      refine w_cV (As := []) ok dX4_pairLine_89 iX8_step (lX4_65 rfl) (rcv cls8 (congrArg Prod.fst s_81)) (ltK hnn (by decide)) (c_X8_step ro hnn  htp (hp3 c1 c2)) (by decide) rfl (Nat.le_of_ble_eq_true rfl) ?_
      show WK K 0 0 92 [(3, .int (S1_X4_pairLine I J)), (2, .int (F_X4_find 43 (FI_X8_step  (FI_X4_find 48 (FI_X4_begin 0 I J) J) J) J)), (1, .int (F_X4_find 48 (FI_X4_begin 0 I J) J)), (0, .ref 41)] [] (S2_X4_pairLine I J) J R n g
      refine w_aload_n ok dX4_pairLine_92 3 rfl ?_
      refine w_iconst (v := 0) ok dX4_pairLine_93 (by decide) ?_
      refine w_aload_n ok dX4_pairLine_94 3 rfl ?_
      refine w_getR ok dX4_pairLine_95 (fX4_12 rfl) (congrArg Prod.fst s_41) rfl (r_41_0 ro) (ltK hnn (by decide)) ?_
      refine w_getR ok dX4_pairLine_98 (fX4_111 rfl) (congrArg Prod.fst s_42) rfl (r_42_0 ro) (ltK hnn (by decide)) ?_
      refine w_getR ok dX4_pairLine_101 (fX4_151 rfl) (congrArg Prod.fst s_43) rfl (r_43_4 ro) (ltK hnn (by decide)) ?_
      refine w_iload_n ok dX4_pairLine_104 1 rfl ?_
      refine w_cS (As := [.ref 46, .int (F_X4_find 43 (FI_X8_step  (FI_X4_find 48 (FI_X4_begin 0 I J) J) J) J)]) ok dX4_pairLine_105 iX11_at (lX4_147 rfl) (c_at s_46 (ltK hnn (by decide)) (F_X4_find 43 (FI_X8_step  (FI_X4_find 48 (FI_X4_begin 0 I J) J) J) J)) (by decide) rfl (Nat.le_of_ble_eq_true rfl) ?_
      show WK K 0 0 108 [(3, .int (S1_X4_pairLine I J)), (2, .int (F_X4_find 43 (FI_X8_step  (FI_X4_find 48 (FI_X4_begin 0 I J) J) J) J)), (1, .int (F_X4_find 48 (FI_X4_begin 0 I J) J)), (0, .ref 41)] [.int (S3_X4_pairLine I J), .int 0, .ref 41] (S2_X4_pairLine I J) J R n g
      refine w_iconst (v := 1) ok dX4_pairLine_108 (by decide) ?_
      refine w_isub ok dX4_pairLine_109 ?_
      refine w_cV (As := [.int 0, .int ((S3_X4_pairLine I J) - 1)]) ok dX4_pairLine_110 iX4_number (lX4_128 rfl) (rcv cls4 (congrArg Prod.fst s_41)) (ltK hnn (by decide)) (c_X4_number ro hnn 0 ((S3_X4_pairLine I J) - 1) htp (hp4 c1 c2)) (by decide) rfl (Nat.le_of_ble_eq_true rfl) ?_
      refine w_istore ok dX4_pairLine_113 (by decide) rfl ?_
      refine w_aload_n ok dX4_pairLine_115 4 rfl ?_
      refine w_getI ok dX4_pairLine_116 (fX4_18 rfl) (congrArg Prod.fst s_41) rfl (ltK hnn (by decide)) ?_
      refine w_if_ne (tgt := 148) ok dX4_pairLine_119 (by decide) (fun c3 => ?_) (fun c3 => ?_)
      · skip
        exact w_vret ok fin dX4_pairLine_148 rfl (by unfold FI_X4_pairLine; simp only [if_pos c1]; simp only [if_neg c2]; simp only [if_neg c3]; exact Pd.i)
      · skip
        refine w_aload_n ok dX4_pairLine_122 4 rfl ?_
        refine w_getR ok dX4_pairLine_123 (fX4_12 rfl) (congrArg Prod.fst s_41) rfl (r_41_0 ro) (ltK hnn (by decide)) ?_
        refine w_getR ok dX4_pairLine_126 (fX4_144 rfl) (congrArg Prod.fst s_42) rfl (r_42_5 ro) (ltK hnn (by decide)) ?_
        refine w_iload_n ok dX4_pairLine_129 1 rfl ?_
        refine w_iload ok dX4_pairLine_130 0 rfl ?_
        refine w_cS (As := [.ref 68, .int (S1_X4_pairLine I J), .int (F_X4_number 0 ((S3_X4_pairLine I J) - 1) (S2_X4_pairLine I J) J)]) ok dX4_pairLine_132 iX11_put (lX4_154 rfl) (c_put s_68 (ltK hnn (by decide)) (S1_X4_pairLine I J) (F_X4_number 0 ((S3_X4_pairLine I J) - 1) (S2_X4_pairLine I J) J)) (by decide) rfl (Nat.le_of_ble_eq_true rfl) ?_
        show WK K 0 0 135 [(4, .int (F_X4_number 0 ((S3_X4_pairLine I J) - 1) (S2_X4_pairLine I J) J)), (3, .int (S1_X4_pairLine I J)), (2, .int (F_X4_find 43 (FI_X8_step  (FI_X4_find 48 (FI_X4_begin 0 I J) J) J) J)), (1, .int (F_X4_find 48 (FI_X4_begin 0 I J) J)), (0, .ref 41)] [] (S4_X4_pairLine I J) J R n g
        refine w_aload_n ok dX4_pairLine_135 4 rfl ?_
        refine w_getR ok dX4_pairLine_136 (fX4_12 rfl) (congrArg Prod.fst s_41) rfl (r_41_0 ro) (ltK hnn (by decide)) ?_
        refine w_dup ok dX4_pairLine_139 rfl ?_
        refine w_getI ok dX4_pairLine_140 (fX4_138 rfl) (congrArg Prod.fst s_42) rfl (ltK hnn (by decide)) ?_
        refine w_iconst (v := 1) ok dX4_pairLine_143 (by decide) ?_
        refine w_iadd ok dX4_pairLine_144 ?_
        refine w_putI ok dX4_pairLine_145 (fwX4_138 rfl) (congrArg Prod.fst s_42) rfl (ltK hnn (by decide)) ?_
        exact w_vret ok fin dX4_pairLine_148 rfl (by unfold FI_X4_pairLine; simp only [if_pos c1]; simp only [if_neg c2]; simp only [if_pos c3]; exact Pd.i)
    · skip
      refine w_aload_n ok dX4_pairLine_66 3 rfl ?_
      refine w_getR ok dX4_pairLine_67 (fX4_12 rfl) (congrArg Prod.fst s_41) rfl (r_41_0 ro) (ltK hnn (by decide)) ?_
      refine w_getR ok dX4_pairLine_70 (fX4_144 rfl) (congrArg Prod.fst s_42) rfl (r_42_5 ro) (ltK hnn (by decide)) ?_
      refine w_iload_n ok dX4_pairLine_73 0 rfl ?_
      refine w_cS (As := [.ref 68, .int (S1_X4_pairLine I J)]) ok dX4_pairLine_74 iX11_at (lX4_147 rfl) (c_at s_68 (ltK hnn (by decide)) (S1_X4_pairLine I J)) (by decide) rfl (Nat.le_of_ble_eq_true rfl) ?_
      show WK K 0 0 77 [(3, .int (S1_X4_pairLine I J)), (2, .int (F_X4_find 43 (FI_X8_step  (FI_X4_find 48 (FI_X4_begin 0 I J) J) J) J)), (1, .int (F_X4_find 48 (FI_X4_begin 0 I J) J)), (0, .ref 41)] [.int (S5_X4_pairLine I J)] (FI_X4_find 43 (FI_X8_step  (FI_X4_find 48 (FI_X4_begin 0 I J) J) J) J) J R n g
      refine w_if_lt (tgt := 85) ok dX4_pairLine_77 (by decide) (fun c4 => ?_) (fun c4 => ?_)
      · skip
        refine w_aload_n ok dX4_pairLine_85 3 rfl ?_
        refine w_getR ok dX4_pairLine_86 (fX4_28 rfl) (congrArg Prod.fst s_41) rfl (r_41_3 ro) (ltK hnn (by decide)) ?_
        refine w_cV (As := []) ok dX4_pairLine_89 iX8_step (lX4_65 rfl) (rcv cls8 (congrArg Prod.fst s_81)) (ltK hnn (by decide)) (c_X8_step ro hnn  htp (hp5 c1 c2 c4)) (by decide) rfl (Nat.le_of_ble_eq_true rfl) ?_
        show WK K 0 0 92 [(3, .int (S1_X4_pairLine I J)), (2, .int (F_X4_find 43 (FI_X8_step  (FI_X4_find 48 (FI_X4_begin 0 I J) J) J) J)), (1, .int (F_X4_find 48 (FI_X4_begin 0 I J) J)), (0, .ref 41)] [] (S6_X4_pairLine I J) J R n g
        refine w_aload_n ok dX4_pairLine_92 3 rfl ?_
        refine w_iconst (v := 0) ok dX4_pairLine_93 (by decide) ?_
        refine w_aload_n ok dX4_pairLine_94 3 rfl ?_
        refine w_getR ok dX4_pairLine_95 (fX4_12 rfl) (congrArg Prod.fst s_41) rfl (r_41_0 ro) (ltK hnn (by decide)) ?_
        refine w_getR ok dX4_pairLine_98 (fX4_111 rfl) (congrArg Prod.fst s_42) rfl (r_42_0 ro) (ltK hnn (by decide)) ?_
        refine w_getR ok dX4_pairLine_101 (fX4_151 rfl) (congrArg Prod.fst s_43) rfl (r_43_4 ro) (ltK hnn (by decide)) ?_
        refine w_iload_n ok dX4_pairLine_104 1 rfl ?_
        refine w_cS (As := [.ref 46, .int (F_X4_find 43 (FI_X8_step  (FI_X4_find 48 (FI_X4_begin 0 I J) J) J) J)]) ok dX4_pairLine_105 iX11_at (lX4_147 rfl) (c_at s_46 (ltK hnn (by decide)) (F_X4_find 43 (FI_X8_step  (FI_X4_find 48 (FI_X4_begin 0 I J) J) J) J)) (by decide) rfl (Nat.le_of_ble_eq_true rfl) ?_
        show WK K 0 0 108 [(3, .int (S1_X4_pairLine I J)), (2, .int (F_X4_find 43 (FI_X8_step  (FI_X4_find 48 (FI_X4_begin 0 I J) J) J) J)), (1, .int (F_X4_find 48 (FI_X4_begin 0 I J) J)), (0, .ref 41)] [.int (S7_X4_pairLine I J), .int 0, .ref 41] (S6_X4_pairLine I J) J R n g
        refine w_iconst (v := 1) ok dX4_pairLine_108 (by decide) ?_
        refine w_isub ok dX4_pairLine_109 ?_
        refine w_cV (As := [.int 0, .int ((S7_X4_pairLine I J) - 1)]) ok dX4_pairLine_110 iX4_number (lX4_128 rfl) (rcv cls4 (congrArg Prod.fst s_41)) (ltK hnn (by decide)) (c_X4_number ro hnn 0 ((S7_X4_pairLine I J) - 1) htp (hp6 c1 c2 c4)) (by decide) rfl (Nat.le_of_ble_eq_true rfl) ?_
        refine w_istore ok dX4_pairLine_113 (by decide) rfl ?_
        refine w_aload_n ok dX4_pairLine_115 4 rfl ?_
        refine w_getI ok dX4_pairLine_116 (fX4_18 rfl) (congrArg Prod.fst s_41) rfl (ltK hnn (by decide)) ?_
        refine w_if_ne (tgt := 148) ok dX4_pairLine_119 (by decide) (fun c5 => ?_) (fun c5 => ?_)
        · skip
          exact w_vret ok fin dX4_pairLine_148 rfl (by unfold FI_X4_pairLine; simp only [if_pos c1]; simp only [if_pos c2]; simp only [if_pos c4]; simp only [if_neg c5]; exact Pd.i)
        · skip
          refine w_aload_n ok dX4_pairLine_122 4 rfl ?_
          refine w_getR ok dX4_pairLine_123 (fX4_12 rfl) (congrArg Prod.fst s_41) rfl (r_41_0 ro) (ltK hnn (by decide)) ?_
          refine w_getR ok dX4_pairLine_126 (fX4_144 rfl) (congrArg Prod.fst s_42) rfl (r_42_5 ro) (ltK hnn (by decide)) ?_
          refine w_iload_n ok dX4_pairLine_129 1 rfl ?_
          refine w_iload ok dX4_pairLine_130 0 rfl ?_
          refine w_cS (As := [.ref 68, .int (S1_X4_pairLine I J), .int (F_X4_number 0 ((S7_X4_pairLine I J) - 1) (S6_X4_pairLine I J) J)]) ok dX4_pairLine_132 iX11_put (lX4_154 rfl) (c_put s_68 (ltK hnn (by decide)) (S1_X4_pairLine I J) (F_X4_number 0 ((S7_X4_pairLine I J) - 1) (S6_X4_pairLine I J) J)) (by decide) rfl (Nat.le_of_ble_eq_true rfl) ?_
          show WK K 0 0 135 [(4, .int (F_X4_number 0 ((S7_X4_pairLine I J) - 1) (S6_X4_pairLine I J) J)), (3, .int (S1_X4_pairLine I J)), (2, .int (F_X4_find 43 (FI_X8_step  (FI_X4_find 48 (FI_X4_begin 0 I J) J) J) J)), (1, .int (F_X4_find 48 (FI_X4_begin 0 I J) J)), (0, .ref 41)] [] (S8_X4_pairLine I J) J R n g
          refine w_aload_n ok dX4_pairLine_135 4 rfl ?_
          refine w_getR ok dX4_pairLine_136 (fX4_12 rfl) (congrArg Prod.fst s_41) rfl (r_41_0 ro) (ltK hnn (by decide)) ?_
          refine w_dup ok dX4_pairLine_139 rfl ?_
          refine w_getI ok dX4_pairLine_140 (fX4_138 rfl) (congrArg Prod.fst s_42) rfl (ltK hnn (by decide)) ?_
          refine w_iconst (v := 1) ok dX4_pairLine_143 (by decide) ?_
          refine w_iadd ok dX4_pairLine_144 ?_
          refine w_putI ok dX4_pairLine_145 (fwX4_138 rfl) (congrArg Prod.fst s_42) rfl (ltK hnn (by decide)) ?_
          exact w_vret ok fin dX4_pairLine_148 rfl (by unfold FI_X4_pairLine; simp only [if_pos c1]; simp only [if_pos c2]; simp only [if_pos c4]; simp only [if_pos c5]; exact Pd.i)
      · skip
        refine w_aload_n ok dX4_pairLine_80 3 rfl ?_
        refine w_iconst (v := 3) ok dX4_pairLine_81 (by decide) ?_
        refine w_cV (As := [.int 3]) ok dX4_pairLine_82 iX4_fail (lX4_58 rfl) (rcv cls4 (congrArg Prod.fst s_41)) (ltK hnn (by decide)) (c_X4_fail ro hnn 3 ) (by decide) rfl (Nat.le_of_ble_eq_true rfl) ?_
        show WK K 0 0 85 [(3, .int (S1_X4_pairLine I J)), (2, .int (F_X4_find 43 (FI_X8_step  (FI_X4_find 48 (FI_X4_begin 0 I J) J) J) J)), (1, .int (F_X4_find 48 (FI_X4_begin 0 I J) J)), (0, .ref 41)] [] (S9_X4_pairLine I J) J R n g
        refine w_aload_n ok dX4_pairLine_85 3 rfl ?_
        refine w_getR ok dX4_pairLine_86 (fX4_28 rfl) (congrArg Prod.fst s_41) rfl (r_41_3 ro) (ltK hnn (by decide)) ?_
        refine w_cV (As := []) ok dX4_pairLine_89 iX8_step (lX4_65 rfl) (rcv cls8 (congrArg Prod.fst s_81)) (ltK hnn (by decide)) (c_X8_step ro hnn  htp (hp7 c1 c2 c4)) (by decide) rfl (Nat.le_of_ble_eq_true rfl) ?_
        refine w_aload_n ok dX4_pairLine_92 3 rfl ?_
        refine w_iconst (v := 0) ok dX4_pairLine_93 (by decide) ?_
        refine w_aload_n ok dX4_pairLine_94 3 rfl ?_
        refine w_getR ok dX4_pairLine_95 (fX4_12 rfl) (congrArg Prod.fst s_41) rfl (r_41_0 ro) (ltK hnn (by decide)) ?_
        refine w_getR ok dX4_pairLine_98 (fX4_111 rfl) (congrArg Prod.fst s_42) rfl (r_42_0 ro) (ltK hnn (by decide)) ?_
        refine w_getR ok dX4_pairLine_101 (fX4_151 rfl) (congrArg Prod.fst s_43) rfl (r_43_4 ro) (ltK hnn (by decide)) ?_
        refine w_iload_n ok dX4_pairLine_104 1 rfl ?_
        refine w_cS (As := [.ref 46, .int (F_X4_find 43 (FI_X8_step  (FI_X4_find 48 (FI_X4_begin 0 I J) J) J) J)]) ok dX4_pairLine_105 iX11_at (lX4_147 rfl) (c_at s_46 (ltK hnn (by decide)) (F_X4_find 43 (FI_X8_step  (FI_X4_find 48 (FI_X4_begin 0 I J) J) J) J)) (by decide) rfl (Nat.le_of_ble_eq_true rfl) ?_
        show WK K 0 0 108 [(3, .int (S1_X4_pairLine I J)), (2, .int (F_X4_find 43 (FI_X8_step  (FI_X4_find 48 (FI_X4_begin 0 I J) J) J) J)), (1, .int (F_X4_find 48 (FI_X4_begin 0 I J) J)), (0, .ref 41)] [.int (S10_X4_pairLine I J), .int 0, .ref 41] (FI_X8_step  (S9_X4_pairLine I J) J) J R n g
        refine w_iconst (v := 1) ok dX4_pairLine_108 (by decide) ?_
        refine w_isub ok dX4_pairLine_109 ?_
        refine w_cV (As := [.int 0, .int ((S10_X4_pairLine I J) - 1)]) ok dX4_pairLine_110 iX4_number (lX4_128 rfl) (rcv cls4 (congrArg Prod.fst s_41)) (ltK hnn (by decide)) (c_X4_number ro hnn 0 ((S10_X4_pairLine I J) - 1) htp (hp8 c1 c2 c4)) (by decide) rfl (Nat.le_of_ble_eq_true rfl) ?_
        show WK K 0 0 113 [(3, .int (S1_X4_pairLine I J)), (2, .int (F_X4_find 43 (FI_X8_step  (FI_X4_find 48 (FI_X4_begin 0 I J) J) J) J)), (1, .int (F_X4_find 48 (FI_X4_begin 0 I J) J)), (0, .ref 41)] [.int (F_X4_number 0 ((S10_X4_pairLine I J) - 1) (FI_X8_step  (S9_X4_pairLine I J) J) J)] (S11_X4_pairLine I J) J R n g
        refine w_istore ok dX4_pairLine_113 (by decide) rfl ?_
        refine w_aload_n ok dX4_pairLine_115 4 rfl ?_
        refine w_getI ok dX4_pairLine_116 (fX4_18 rfl) (congrArg Prod.fst s_41) rfl (ltK hnn (by decide)) ?_
        refine w_if_ne (tgt := 148) ok dX4_pairLine_119 (by decide) (fun c6 => ?_) (fun c6 => ?_)
        · skip
          exact w_vret ok fin dX4_pairLine_148 rfl (by unfold FI_X4_pairLine; simp only [if_pos c1]; simp only [if_pos c2]; simp only [if_neg c4]; simp only [if_neg c6]; exact Pd.i)
        · skip
          refine w_aload_n ok dX4_pairLine_122 4 rfl ?_
          refine w_getR ok dX4_pairLine_123 (fX4_12 rfl) (congrArg Prod.fst s_41) rfl (r_41_0 ro) (ltK hnn (by decide)) ?_
          refine w_getR ok dX4_pairLine_126 (fX4_144 rfl) (congrArg Prod.fst s_42) rfl (r_42_5 ro) (ltK hnn (by decide)) ?_
          refine w_iload_n ok dX4_pairLine_129 1 rfl ?_
          refine w_iload ok dX4_pairLine_130 0 rfl ?_
          refine w_cS (As := [.ref 68, .int (S1_X4_pairLine I J), .int (F_X4_number 0 ((S10_X4_pairLine I J) - 1) (FI_X8_step  (S9_X4_pairLine I J) J) J)]) ok dX4_pairLine_132 iX11_put (lX4_154 rfl) (c_put s_68 (ltK hnn (by decide)) (S1_X4_pairLine I J) (F_X4_number 0 ((S10_X4_pairLine I J) - 1) (FI_X8_step  (S9_X4_pairLine I J) J) J)) (by decide) rfl (Nat.le_of_ble_eq_true rfl) ?_
          show WK K 0 0 135 [(4, .int (F_X4_number 0 ((S10_X4_pairLine I J) - 1) (FI_X8_step  (S9_X4_pairLine I J) J) J)), (3, .int (S1_X4_pairLine I J)), (2, .int (F_X4_find 43 (FI_X8_step  (FI_X4_find 48 (FI_X4_begin 0 I J) J) J) J)), (1, .int (F_X4_find 48 (FI_X4_begin 0 I J) J)), (0, .ref 41)] [] (S12_X4_pairLine I J) J R n g
          refine w_aload_n ok dX4_pairLine_135 4 rfl ?_
          refine w_getR ok dX4_pairLine_136 (fX4_12 rfl) (congrArg Prod.fst s_41) rfl (r_41_0 ro) (ltK hnn (by decide)) ?_
          refine w_dup ok dX4_pairLine_139 rfl ?_
          refine w_getI ok dX4_pairLine_140 (fX4_138 rfl) (congrArg Prod.fst s_42) rfl (ltK hnn (by decide)) ?_
          refine w_iconst (v := 1) ok dX4_pairLine_143 (by decide) ?_
          refine w_iadd ok dX4_pairLine_144 ?_
          refine w_putI ok dX4_pairLine_145 (fwX4_138 rfl) (congrArg Prod.fst s_42) rfl (ltK hnn (by decide)) ?_
          exact w_vret ok fin dX4_pairLine_148 rfl (by unfold FI_X4_pairLine; simp only [if_pos c1]; simp only [if_pos c2]; simp only [if_neg c4]; simp only [if_pos c6]; exact Pd.i)
  · skip
    refine w_iconst (v := 1) ok dX4_pairLine_13 (by decide) ?_
    refine w_goto (tgt := 18) ok dX4_pairLine_14 (by decide) ?_
    refine w_cV (As := [.int 1]) ok dX4_pairLine_18 iX4_begin (lX4_121 rfl) (rcv cls4 (congrArg Prod.fst s_41)) (ltK hnn (by decide)) (c_X4_begin ro hnn 1 htp (hp9 c1)) (by decide) rfl (Nat.le_of_ble_eq_true rfl) ?_
    refine w_aload_n ok dX4_pairLine_21 0 rfl ?_
    refine w_aload_n ok dX4_pairLine_22 0 rfl ?_
    refine w_getR ok dX4_pairLine_23 (fX4_12 rfl) (congrArg Prod.fst s_41) rfl (r_41_0 ro) (ltK hnn (by decide)) ?_
    refine w_getR ok dX4_pairLine_26 (fX4_135 rfl) (congrArg Prod.fst s_42) rfl (r_42_1 ro) (ltK hnn (by decide)) ?_
    refine w_cV (As := [.ref 48]) ok dX4_pairLine_29 iX4_find (lX4_141 rfl) (rcv cls4 (congrArg Prod.fst s_41)) (ltK hnn (by decide)) (c_X4_find ro hnn  isTb_48) (by decide) rfl (Nat.le_of_ble_eq_true rfl) ?_
    refine w_istore_n ok dX4_pairLine_32 rfl (by decide) rfl ?_
    refine w_aload_n ok dX4_pairLine_33 1 rfl ?_
    refine w_getR ok dX4_pairLine_34 (fX4_28 rfl) (congrArg Prod.fst s_41) rfl (r_41_3 ro) (ltK hnn (by decide)) ?_
    refine w_cV (As := []) ok dX4_pairLine_37 iX8_step (lX4_65 rfl) (rcv cls8 (congrArg Prod.fst s_81)) (ltK hnn (by decide)) (c_X8_step ro hnn  htp (hp10 c1)) (by decide) rfl (Nat.le_of_ble_eq_true rfl) ?_
    refine w_aload_n ok dX4_pairLine_40 1 rfl ?_
    refine w_aload_n ok dX4_pairLine_41 1 rfl ?_
    refine w_getR ok dX4_pairLine_42 (fX4_12 rfl) (congrArg Prod.fst s_41) rfl (r_41_0 ro) (ltK hnn (by decide)) ?_
    refine w_getR ok dX4_pairLine_45 (fX4_111 rfl) (congrArg Prod.fst s_42) rfl (r_42_0 ro) (ltK hnn (by decide)) ?_
    refine w_cV (As := [.ref 43]) ok dX4_pairLine_48 iX4_find (lX4_141 rfl) (rcv cls4 (congrArg Prod.fst s_41)) (ltK hnn (by decide)) (c_X4_find ro hnn  isTb_43) (by decide) rfl (Nat.le_of_ble_eq_true rfl) ?_
    refine w_istore_n ok dX4_pairLine_51 rfl (by decide) rfl ?_
    refine w_iload_n ok dX4_pairLine_52 1 rfl ?_
    refine w_bipush (v := 6) ok dX4_pairLine_53 (by decide) ?_
    refine w_imul ok dX4_pairLine_55 ?_
    refine w_iload_n ok dX4_pairLine_56 0 rfl ?_
    refine w_iadd ok dX4_pairLine_57 ?_
    show WK K 0 0 58 [(2, .int (F_X4_find 43 (FI_X8_step  (FI_X4_find 48 (FI_X4_begin 1 I J) J) J) J)), (1, .int (F_X4_find 48 (FI_X4_begin 1 I J) J)), (0, .ref 41)] [.int (S13_X4_pairLine I J)] (FI_X4_find 43 (FI_X8_step  (FI_X4_find 48 (FI_X4_begin 1 I J) J) J) J) J R n g
    refine w_istore_n ok dX4_pairLine_58 rfl (by decide) rfl ?_
    refine w_aload_n ok dX4_pairLine_59 3 rfl ?_
    refine w_getI ok dX4_pairLine_60 (fX4_18 rfl) (congrArg Prod.fst s_41) rfl (ltK hnn (by decide)) ?_
    refine w_if_ne (tgt := 85) ok dX4_pairLine_63 (by decide) (fun c7 => ?_) (fun c7 => ?_)
    · skip
      refine w_aload_n ok dX4_pairLine_85 3 rfl ?_
      refine w_getR ok dX4_pairLine_86 (fX4_28 rfl) (congrArg Prod.fst s_41) rfl (r_41_3 ro) (ltK hnn (by decide)) ?_
      refine w_cV (As := []) ok dX4_pairLine_89 iX8_step (lX4_65 rfl) (rcv cls8 (congrArg Prod.fst s_81)) (ltK hnn (by decide)) (c_X8_step ro hnn  htp (hp11 c1 c7)) (by decide) rfl (Nat.le_of_ble_eq_true rfl) ?_
      show WK K 0 0 92 [(3, .int (S13_X4_pairLine I J)), (2, .int (F_X4_find 43 (FI_X8_step  (FI_X4_find 48 (FI_X4_begin 1 I J) J) J) J)), (1, .int (F_X4_find 48 (FI_X4_begin 1 I J) J)), (0, .ref 41)] [] (S14_X4_pairLine I J) J R n g
      refine w_aload_n ok dX4_pairLine_92 3 rfl ?_
      refine w_iconst (v := 0) ok dX4_pairLine_93 (by decide) ?_
      refine w_aload_n ok dX4_pairLine_94 3 rfl ?_
      refine w_getR ok dX4_pairLine_95 (fX4_12 rfl) (congrArg Prod.fst s_41) rfl (r_41_0 ro) (ltK hnn (by decide)) ?_
      refine w_getR ok dX4_pairLine_98 (fX4_111 rfl) (congrArg Prod.fst s_42) rfl (r_42_0 ro) (ltK hnn (by decide)) ?_
      refine w_getR ok dX4_pairLine_101 (fX4_151 rfl) (congrArg Prod.fst s_43) rfl (r_43_4 ro) (ltK hnn (by decide)) ?_
      refine w_iload_n ok dX4_pairLine_104 1 rfl ?_
      refine w_cS (As := [.ref 46, .int (F_X4_find 43 (FI_X8_step  (FI_X4_find 48 (FI_X4_begin 1 I J) J) J) J)]) ok dX4_pairLine_105 iX11_at (lX4_147 rfl) (c_at s_46 (ltK hnn (by decide)) (F_X4_find 43 (FI_X8_step  (FI_X4_find 48 (FI_X4_begin 1 I J) J) J) J)) (by decide) rfl (Nat.le_of_ble_eq_true rfl) ?_
      show WK K 0 0 108 [(3, .int (S13_X4_pairLine I J)), (2, .int (F_X4_find 43 (FI_X8_step  (FI_X4_find 48 (FI_X4_begin 1 I J) J) J) J)), (1, .int (F_X4_find 48 (FI_X4_begin 1 I J) J)), (0, .ref 41)] [.int (S15_X4_pairLine I J), .int 0, .ref 41] (S14_X4_pairLine I J) J R n g
      refine w_iconst (v := 1) ok dX4_pairLine_108 (by decide) ?_
      refine w_isub ok dX4_pairLine_109 ?_
      refine w_cV (As := [.int 0, .int ((S15_X4_pairLine I J) - 1)]) ok dX4_pairLine_110 iX4_number (lX4_128 rfl) (rcv cls4 (congrArg Prod.fst s_41)) (ltK hnn (by decide)) (c_X4_number ro hnn 0 ((S15_X4_pairLine I J) - 1) htp (hp12 c1 c7)) (by decide) rfl (Nat.le_of_ble_eq_true rfl) ?_
      refine w_istore ok dX4_pairLine_113 (by decide) rfl ?_
      refine w_aload_n ok dX4_pairLine_115 4 rfl ?_
      refine w_getI ok dX4_pairLine_116 (fX4_18 rfl) (congrArg Prod.fst s_41) rfl (ltK hnn (by decide)) ?_
      refine w_if_ne (tgt := 148) ok dX4_pairLine_119 (by decide) (fun c8 => ?_) (fun c8 => ?_)
      · skip
        exact w_vret ok fin dX4_pairLine_148 rfl (by unfold FI_X4_pairLine; simp only [if_neg c1]; simp only [if_neg c7]; simp only [if_neg c8]; exact Pd.i)
      · skip
        refine w_aload_n ok dX4_pairLine_122 4 rfl ?_
        refine w_getR ok dX4_pairLine_123 (fX4_12 rfl) (congrArg Prod.fst s_41) rfl (r_41_0 ro) (ltK hnn (by decide)) ?_
        refine w_getR ok dX4_pairLine_126 (fX4_144 rfl) (congrArg Prod.fst s_42) rfl (r_42_5 ro) (ltK hnn (by decide)) ?_
        refine w_iload_n ok dX4_pairLine_129 1 rfl ?_
        refine w_iload ok dX4_pairLine_130 0 rfl ?_
        refine w_cS (As := [.ref 68, .int (S13_X4_pairLine I J), .int (F_X4_number 0 ((S15_X4_pairLine I J) - 1) (S14_X4_pairLine I J) J)]) ok dX4_pairLine_132 iX11_put (lX4_154 rfl) (c_put s_68 (ltK hnn (by decide)) (S13_X4_pairLine I J) (F_X4_number 0 ((S15_X4_pairLine I J) - 1) (S14_X4_pairLine I J) J)) (by decide) rfl (Nat.le_of_ble_eq_true rfl) ?_
        show WK K 0 0 135 [(4, .int (F_X4_number 0 ((S15_X4_pairLine I J) - 1) (S14_X4_pairLine I J) J)), (3, .int (S13_X4_pairLine I J)), (2, .int (F_X4_find 43 (FI_X8_step  (FI_X4_find 48 (FI_X4_begin 1 I J) J) J) J)), (1, .int (F_X4_find 48 (FI_X4_begin 1 I J) J)), (0, .ref 41)] [] (S16_X4_pairLine I J) J R n g
        refine w_aload_n ok dX4_pairLine_135 4 rfl ?_
        refine w_getR ok dX4_pairLine_136 (fX4_12 rfl) (congrArg Prod.fst s_41) rfl (r_41_0 ro) (ltK hnn (by decide)) ?_
        refine w_dup ok dX4_pairLine_139 rfl ?_
        refine w_getI ok dX4_pairLine_140 (fX4_138 rfl) (congrArg Prod.fst s_42) rfl (ltK hnn (by decide)) ?_
        refine w_iconst (v := 1) ok dX4_pairLine_143 (by decide) ?_
        refine w_iadd ok dX4_pairLine_144 ?_
        refine w_putI ok dX4_pairLine_145 (fwX4_138 rfl) (congrArg Prod.fst s_42) rfl (ltK hnn (by decide)) ?_
        exact w_vret ok fin dX4_pairLine_148 rfl (by unfold FI_X4_pairLine; simp only [if_neg c1]; simp only [if_neg c7]; simp only [if_pos c8]; exact Pd.i)
    · skip
      refine w_aload_n ok dX4_pairLine_66 3 rfl ?_
      refine w_getR ok dX4_pairLine_67 (fX4_12 rfl) (congrArg Prod.fst s_41) rfl (r_41_0 ro) (ltK hnn (by decide)) ?_
      refine w_getR ok dX4_pairLine_70 (fX4_144 rfl) (congrArg Prod.fst s_42) rfl (r_42_5 ro) (ltK hnn (by decide)) ?_
      refine w_iload_n ok dX4_pairLine_73 0 rfl ?_
      refine w_cS (As := [.ref 68, .int (S13_X4_pairLine I J)]) ok dX4_pairLine_74 iX11_at (lX4_147 rfl) (c_at s_68 (ltK hnn (by decide)) (S13_X4_pairLine I J)) (by decide) rfl (Nat.le_of_ble_eq_true rfl) ?_
      show WK K 0 0 77 [(3, .int (S13_X4_pairLine I J)), (2, .int (F_X4_find 43 (FI_X8_step  (FI_X4_find 48 (FI_X4_begin 1 I J) J) J) J)), (1, .int (F_X4_find 48 (FI_X4_begin 1 I J) J)), (0, .ref 41)] [.int (S17_X4_pairLine I J)] (FI_X4_find 43 (FI_X8_step  (FI_X4_find 48 (FI_X4_begin 1 I J) J) J) J) J R n g
      refine w_if_lt (tgt := 85) ok dX4_pairLine_77 (by decide) (fun c9 => ?_) (fun c9 => ?_)
      · skip
        refine w_aload_n ok dX4_pairLine_85 3 rfl ?_
        refine w_getR ok dX4_pairLine_86 (fX4_28 rfl) (congrArg Prod.fst s_41) rfl (r_41_3 ro) (ltK hnn (by decide)) ?_
        refine w_cV (As := []) ok dX4_pairLine_89 iX8_step (lX4_65 rfl) (rcv cls8 (congrArg Prod.fst s_81)) (ltK hnn (by decide)) (c_X8_step ro hnn  htp (hp13 c1 c7 c9)) (by decide) rfl (Nat.le_of_ble_eq_true rfl) ?_
        show WK K 0 0 92 [(3, .int (S13_X4_pairLine I J)), (2, .int (F_X4_find 43 (FI_X8_step  (FI_X4_find 48 (FI_X4_begin 1 I J) J) J) J)), (1, .int (F_X4_find 48 (FI_X4_begin 1 I J) J)), (0, .ref 41)] [] (S18_X4_pairLine I J) J R n g
        refine w_aload_n ok dX4_pairLine_92 3 rfl ?_
        refine w_iconst (v := 0) ok dX4_pairLine_93 (by decide) ?_
        refine w_aload_n ok dX4_pairLine_94 3 rfl ?_
        refine w_getR ok dX4_pairLine_95 (fX4_12 rfl) (congrArg Prod.fst s_41) rfl (r_41_0 ro) (ltK hnn (by decide)) ?_
        refine w_getR ok dX4_pairLine_98 (fX4_111 rfl) (congrArg Prod.fst s_42) rfl (r_42_0 ro) (ltK hnn (by decide)) ?_
        refine w_getR ok dX4_pairLine_101 (fX4_151 rfl) (congrArg Prod.fst s_43) rfl (r_43_4 ro) (ltK hnn (by decide)) ?_
        refine w_iload_n ok dX4_pairLine_104 1 rfl ?_
        refine w_cS (As := [.ref 46, .int (F_X4_find 43 (FI_X8_step  (FI_X4_find 48 (FI_X4_begin 1 I J) J) J) J)]) ok dX4_pairLine_105 iX11_at (lX4_147 rfl) (c_at s_46 (ltK hnn (by decide)) (F_X4_find 43 (FI_X8_step  (FI_X4_find 48 (FI_X4_begin 1 I J) J) J) J)) (by decide) rfl (Nat.le_of_ble_eq_true rfl) ?_
        show WK K 0 0 108 [(3, .int (S13_X4_pairLine I J)), (2, .int (F_X4_find 43 (FI_X8_step  (FI_X4_find 48 (FI_X4_begin 1 I J) J) J) J)), (1, .int (F_X4_find 48 (FI_X4_begin 1 I J) J)), (0, .ref 41)] [.int (S19_X4_pairLine I J), .int 0, .ref 41] (S18_X4_pairLine I J) J R n g
        refine w_iconst (v := 1) ok dX4_pairLine_108 (by decide) ?_
        refine w_isub ok dX4_pairLine_109 ?_
        refine w_cV (As := [.int 0, .int ((S19_X4_pairLine I J) - 1)]) ok dX4_pairLine_110 iX4_number (lX4_128 rfl) (rcv cls4 (congrArg Prod.fst s_41)) (ltK hnn (by decide)) (c_X4_number ro hnn 0 ((S19_X4_pairLine I J) - 1) htp (hp14 c1 c7 c9)) (by decide) rfl (Nat.le_of_ble_eq_true rfl) ?_
        refine w_istore ok dX4_pairLine_113 (by decide) rfl ?_
        refine w_aload_n ok dX4_pairLine_115 4 rfl ?_
        refine w_getI ok dX4_pairLine_116 (fX4_18 rfl) (congrArg Prod.fst s_41) rfl (ltK hnn (by decide)) ?_
        refine w_if_ne (tgt := 148) ok dX4_pairLine_119 (by decide) (fun c10 => ?_) (fun c10 => ?_)
        · skip
          exact w_vret ok fin dX4_pairLine_148 rfl (by unfold FI_X4_pairLine; simp only [if_neg c1]; simp only [if_pos c7]; simp only [if_pos c9]; simp only [if_neg c10]; exact Pd.i)
        · skip
          refine w_aload_n ok dX4_pairLine_122 4 rfl ?_
          refine w_getR ok dX4_pairLine_123 (fX4_12 rfl) (congrArg Prod.fst s_41) rfl (r_41_0 ro) (ltK hnn (by decide)) ?_
          refine w_getR ok dX4_pairLine_126 (fX4_144 rfl) (congrArg Prod.fst s_42) rfl (r_42_5 ro) (ltK hnn (by decide)) ?_
          refine w_iload_n ok dX4_pairLine_129 1 rfl ?_
          refine w_iload ok dX4_pairLine_130 0 rfl ?_
          refine w_cS (As := [.ref 68, .int (S13_X4_pairLine I J), .int (F_X4_number 0 ((S19_X4_pairLine I J) - 1) (S18_X4_pairLine I J) J)]) ok dX4_pairLine_132 iX11_put (lX4_154 rfl) (c_put s_68 (ltK hnn (by decide)) (S13_X4_pairLine I J) (F_X4_number 0 ((S19_X4_pairLine I J) - 1) (S18_X4_pairLine I J) J)) (by decide) rfl (Nat.le_of_ble_eq_true rfl) ?_
          show WK K 0 0 135 [(4, .int (F_X4_number 0 ((S19_X4_pairLine I J) - 1) (S18_X4_pairLine I J) J)), (3, .int (S13_X4_pairLine I J)), (2, .int (F_X4_find 43 (FI_X8_step  (FI_X4_find 48 (FI_X4_begin 1 I J) J) J) J)), (1, .int (F_X4_find 48 (FI_X4_begin 1 I J) J)), (0, .ref 41)] [] (S20_X4_pairLine I J) J R n g
          refine w_aload_n ok dX4_pairLine_135 4 rfl ?_
          refine w_getR ok dX4_pairLine_136 (fX4_12 rfl) (congrArg Prod.fst s_41) rfl (r_41_0 ro) (ltK hnn (by decide)) ?_
          refine w_dup ok dX4_pairLine_139 rfl ?_
          refine w_getI ok dX4_pairLine_140 (fX4_138 rfl) (congrArg Prod.fst s_42) rfl (ltK hnn (by decide)) ?_
          refine w_iconst (v := 1) ok dX4_pairLine_143 (by decide) ?_
          refine w_iadd ok dX4_pairLine_144 ?_
          refine w_putI ok dX4_pairLine_145 (fwX4_138 rfl) (congrArg Prod.fst s_42) rfl (ltK hnn (by decide)) ?_
          exact w_vret ok fin dX4_pairLine_148 rfl (by unfold FI_X4_pairLine; simp only [if_neg c1]; simp only [if_pos c7]; simp only [if_pos c9]; simp only [if_pos c10]; exact Pd.i)
      · skip
        refine w_aload_n ok dX4_pairLine_80 3 rfl ?_
        refine w_iconst (v := 3) ok dX4_pairLine_81 (by decide) ?_
        refine w_cV (As := [.int 3]) ok dX4_pairLine_82 iX4_fail (lX4_58 rfl) (rcv cls4 (congrArg Prod.fst s_41)) (ltK hnn (by decide)) (c_X4_fail ro hnn 3 ) (by decide) rfl (Nat.le_of_ble_eq_true rfl) ?_
        show WK K 0 0 85 [(3, .int (S13_X4_pairLine I J)), (2, .int (F_X4_find 43 (FI_X8_step  (FI_X4_find 48 (FI_X4_begin 1 I J) J) J) J)), (1, .int (F_X4_find 48 (FI_X4_begin 1 I J) J)), (0, .ref 41)] [] (S21_X4_pairLine I J) J R n g
        refine w_aload_n ok dX4_pairLine_85 3 rfl ?_
        refine w_getR ok dX4_pairLine_86 (fX4_28 rfl) (congrArg Prod.fst s_41) rfl (r_41_3 ro) (ltK hnn (by decide)) ?_
        refine w_cV (As := []) ok dX4_pairLine_89 iX8_step (lX4_65 rfl) (rcv cls8 (congrArg Prod.fst s_81)) (ltK hnn (by decide)) (c_X8_step ro hnn  htp (hp15 c1 c7 c9)) (by decide) rfl (Nat.le_of_ble_eq_true rfl) ?_
        refine w_aload_n ok dX4_pairLine_92 3 rfl ?_
        refine w_iconst (v := 0) ok dX4_pairLine_93 (by decide) ?_
        refine w_aload_n ok dX4_pairLine_94 3 rfl ?_
        refine w_getR ok dX4_pairLine_95 (fX4_12 rfl) (congrArg Prod.fst s_41) rfl (r_41_0 ro) (ltK hnn (by decide)) ?_
        refine w_getR ok dX4_pairLine_98 (fX4_111 rfl) (congrArg Prod.fst s_42) rfl (r_42_0 ro) (ltK hnn (by decide)) ?_
        refine w_getR ok dX4_pairLine_101 (fX4_151 rfl) (congrArg Prod.fst s_43) rfl (r_43_4 ro) (ltK hnn (by decide)) ?_
        refine w_iload_n ok dX4_pairLine_104 1 rfl ?_
        refine w_cS (As := [.ref 46, .int (F_X4_find 43 (FI_X8_step  (FI_X4_find 48 (FI_X4_begin 1 I J) J) J) J)]) ok dX4_pairLine_105 iX11_at (lX4_147 rfl) (c_at s_46 (ltK hnn (by decide)) (F_X4_find 43 (FI_X8_step  (FI_X4_find 48 (FI_X4_begin 1 I J) J) J) J)) (by decide) rfl (Nat.le_of_ble_eq_true rfl) ?_
        show WK K 0 0 108 [(3, .int (S13_X4_pairLine I J)), (2, .int (F_X4_find 43 (FI_X8_step  (FI_X4_find 48 (FI_X4_begin 1 I J) J) J) J)), (1, .int (F_X4_find 48 (FI_X4_begin 1 I J) J)), (0, .ref 41)] [.int (S22_X4_pairLine I J), .int 0, .ref 41] (FI_X8_step  (S21_X4_pairLine I J) J) J R n g
        refine w_iconst (v := 1) ok dX4_pairLine_108 (by decide) ?_
        refine w_isub ok dX4_pairLine_109 ?_
        refine w_cV (As := [.int 0, .int ((S22_X4_pairLine I J) - 1)]) ok dX4_pairLine_110 iX4_number (lX4_128 rfl) (rcv cls4 (congrArg Prod.fst s_41)) (ltK hnn (by decide)) (c_X4_number ro hnn 0 ((S22_X4_pairLine I J) - 1) htp (hp16 c1 c7 c9)) (by decide) rfl (Nat.le_of_ble_eq_true rfl) ?_
        show WK K 0 0 113 [(3, .int (S13_X4_pairLine I J)), (2, .int (F_X4_find 43 (FI_X8_step  (FI_X4_find 48 (FI_X4_begin 1 I J) J) J) J)), (1, .int (F_X4_find 48 (FI_X4_begin 1 I J) J)), (0, .ref 41)] [.int (F_X4_number 0 ((S22_X4_pairLine I J) - 1) (FI_X8_step  (S21_X4_pairLine I J) J) J)] (S23_X4_pairLine I J) J R n g
        refine w_istore ok dX4_pairLine_113 (by decide) rfl ?_
        refine w_aload_n ok dX4_pairLine_115 4 rfl ?_
        refine w_getI ok dX4_pairLine_116 (fX4_18 rfl) (congrArg Prod.fst s_41) rfl (ltK hnn (by decide)) ?_
        refine w_if_ne (tgt := 148) ok dX4_pairLine_119 (by decide) (fun c11 => ?_) (fun c11 => ?_)
        · skip
          exact w_vret ok fin dX4_pairLine_148 rfl (by unfold FI_X4_pairLine; simp only [if_neg c1]; simp only [if_pos c7]; simp only [if_neg c9]; simp only [if_neg c11]; exact Pd.i)
        · skip
          refine w_aload_n ok dX4_pairLine_122 4 rfl ?_
          refine w_getR ok dX4_pairLine_123 (fX4_12 rfl) (congrArg Prod.fst s_41) rfl (r_41_0 ro) (ltK hnn (by decide)) ?_
          refine w_getR ok dX4_pairLine_126 (fX4_144 rfl) (congrArg Prod.fst s_42) rfl (r_42_5 ro) (ltK hnn (by decide)) ?_
          refine w_iload_n ok dX4_pairLine_129 1 rfl ?_
          refine w_iload ok dX4_pairLine_130 0 rfl ?_
          refine w_cS (As := [.ref 68, .int (S13_X4_pairLine I J), .int (F_X4_number 0 ((S22_X4_pairLine I J) - 1) (FI_X8_step  (S21_X4_pairLine I J) J) J)]) ok dX4_pairLine_132 iX11_put (lX4_154 rfl) (c_put s_68 (ltK hnn (by decide)) (S13_X4_pairLine I J) (F_X4_number 0 ((S22_X4_pairLine I J) - 1) (FI_X8_step  (S21_X4_pairLine I J) J) J)) (by decide) rfl (Nat.le_of_ble_eq_true rfl) ?_
          show WK K 0 0 135 [(4, .int (F_X4_number 0 ((S22_X4_pairLine I J) - 1) (FI_X8_step  (S21_X4_pairLine I J) J) J)), (3, .int (S13_X4_pairLine I J)), (2, .int (F_X4_find 43 (FI_X8_step  (FI_X4_find 48 (FI_X4_begin 1 I J) J) J) J)), (1, .int (F_X4_find 48 (FI_X4_begin 1 I J) J)), (0, .ref 41)] [] (S24_X4_pairLine I J) J R n g
          refine w_aload_n ok dX4_pairLine_135 4 rfl ?_
          refine w_getR ok dX4_pairLine_136 (fX4_12 rfl) (congrArg Prod.fst s_41) rfl (r_41_0 ro) (ltK hnn (by decide)) ?_
          refine w_dup ok dX4_pairLine_139 rfl ?_
          refine w_getI ok dX4_pairLine_140 (fX4_138 rfl) (congrArg Prod.fst s_42) rfl (ltK hnn (by decide)) ?_
          refine w_iconst (v := 1) ok dX4_pairLine_143 (by decide) ?_
          refine w_iadd ok dX4_pairLine_144 ?_
          refine w_putI ok dX4_pairLine_145 (fwX4_138 rfl) (congrArg Prod.fst s_42) rfl (ltK hnn (by decide)) ?_
          exact w_vret ok fin dX4_pairLine_148 rfl (by unfold FI_X4_pairLine; simp only [if_neg c1]; simp only [if_pos c7]; simp only [if_neg c9]; simp only [if_pos c11]; exact Pd.i)
def S1_X4_partyLine (I : SI) (J : SJ) : SI := FI_X4_find 43 (FI_X4_fresh 53 (FI_X4_begin (F_X7_isFull 53 I J) I J) J) J
def S2_X4_partyLine (I : SI) (J : SJ) : Int32 := atF ((FI_X8_step  (S1_X4_partyLine I J) J) 46) 8 (F_X4_find 43 (FI_X4_fresh 53 (FI_X4_begin (F_X7_isFull 53 I J) I J) J) J)
def S3_X4_partyLine (I : SI) (J : SJ) : SI := FI_X4_number 0 ((S2_X4_partyLine I J) - 1) (FI_X8_step  (S1_X4_partyLine I J) J) J
def S4_X4_partyLine (I : SI) (J : SJ) : SI := FI_X7_add 53 (F_X4_fresh 53 (FI_X4_begin (F_X7_isFull 53 I J) I J) J) (F_X4_find 43 (FI_X4_fresh 53 (FI_X4_begin (F_X7_isFull 53 I J) I J) J) J) (F_X4_number 0 ((S2_X4_partyLine I J) - 1) (FI_X8_step  (S1_X4_partyLine I J) J) J) (F_X4_number 0 99 (S3_X4_partyLine I J) J) (FI_X4_number 0 99 (S3_X4_partyLine I J) J) J
def FI_X4_partyLine  (I : SI) (J : SJ) : SI := if ((FI_X4_number 0 99 (S3_X4_partyLine I J) J) 41 1) = 0 then (S4_X4_partyLine I J) else FI_X4_number 0 99 (S3_X4_partyLine I J) J
def H_X4_partyLine  (I : SI) (J : SJ) : Prop := (H_X4_begin (F_X7_isFull 53 I J) I J) ∧ (H_X4_fresh 53 (FI_X4_begin (F_X7_isFull 53 I J) I J) J) ∧ (H_X8_step  (S1_X4_partyLine I J) J) ∧ (H_X4_number 0 ((S2_X4_partyLine I J) - 1) (FI_X8_step  (S1_X4_partyLine I J) J) J) ∧ (H_X4_number 0 99 (S3_X4_partyLine I J) J)
set_option maxHeartbeats 1000000 in
set_option maxRecDepth 40000 in
theorem c_X4_partyLine {I : SI} {J : SJ} {R : SR} {n g : Nat} (ro : RO R) (hnn : nK ≤ n)  (htp : R 81 1 = some 1)  (hp : H_X4_partyLine  I J) : MM 4 0 0 mX4_partyLine [.ref 41] I J R n g (Pd none (FI_X4_partyLine  I J) J R n g) := by
  refine MM.of (by decide) (Nat.le_of_ble_eq_true rfl) fun K ok fin => ?_
  show WK K 0 0 0 [(0, .ref 41)] [] I J R n g
  obtain ⟨hp1, hp2, hp3, hp4, hp5⟩ := hp
  refine w_aload_n ok dX4_partyLine_0 0 rfl ?_
  refine w_aload_n ok dX4_partyLine_1 0 rfl ?_
  refine w_getR ok dX4_partyLine_2 (fX4_12 rfl) (congrArg Prod.fst s_41) rfl (r_41_0 ro) (ltK hnn (by decide)) ?_
  refine w_getR ok dX4_partyLine_5 (fX4_158 rfl) (congrArg Prod.fst s_42) rfl (r_42_2 ro) (ltK hnn (by decide)) ?_
  refine w_cV (As := []) ok dX4_partyLine_8 iX7_isFull (lX4_115 rfl) (rcv cls7 (congrArg Prod.fst s_53)) (ltK hnn (by decide)) (c_X7_isFull ro hnn  isTb_53) (by decide) rfl (Nat.le_of_ble_eq_true rfl) ?_
  show WK K 0 0 11 [(0, .ref 41)] [.int (F_X7_isFull 53 I J), .ref 41] I J R n g
  refine w_cV (As := [.int (F_X7_isFull 53 I J)]) ok dX4_partyLine_11 iX4_begin (lX4_121 rfl) (rcv cls4 (congrArg Prod.fst s_41)) (ltK hnn (by decide)) (c_X4_begin ro hnn (F_X7_isFull 53 I J) htp (hp1)) (by decide) rfl (Nat.le_of_ble_eq_true rfl) ?_
  refine w_aload_n ok dX4_partyLine_14 0 rfl ?_
  refine w_aload_n ok dX4_partyLine_15 0 rfl ?_
  refine w_getR ok dX4_partyLine_16 (fX4_12 rfl) (congrArg Prod.fst s_41) rfl (r_41_0 ro) (ltK hnn (by decide)) ?_
  refine w_getR ok dX4_partyLine_19 (fX4_158 rfl) (congrArg Prod.fst s_42) rfl (r_42_2 ro) (ltK hnn (by decide)) ?_
  refine w_cV (As := [.ref 53]) ok dX4_partyLine_22 iX4_fresh (lX4_124 rfl) (rcv cls4 (congrArg Prod.fst s_41)) (ltK hnn (by decide)) (c_X4_fresh ro hnn  isTb_53 htp (hp2)) (by decide) rfl (Nat.le_of_ble_eq_true rfl) ?_
  refine w_istore_n ok dX4_partyLine_25 rfl (by decide) rfl ?_
  refine w_aload_n ok dX4_partyLine_26 1 rfl ?_
  refine w_aload_n ok dX4_partyLine_27 1 rfl ?_
  refine w_getR ok dX4_partyLine_28 (fX4_12 rfl) (congrArg Prod.fst s_41) rfl (r_41_0 ro) (ltK hnn (by decide)) ?_
  refine w_getR ok dX4_partyLine_31 (fX4_111 rfl) (congrArg Prod.fst s_42) rfl (r_42_0 ro) (ltK hnn (by decide)) ?_
  refine w_cV (As := [.ref 43]) ok dX4_partyLine_34 iX4_find (lX4_141 rfl) (rcv cls4 (congrArg Prod.fst s_41)) (ltK hnn (by decide)) (c_X4_find ro hnn  isTb_43) (by decide) rfl (Nat.le_of_ble_eq_true rfl) ?_
  show WK K 0 0 37 [(1, .int (F_X4_fresh 53 (FI_X4_begin (F_X7_isFull 53 I J) I J) J)), (0, .ref 41)] [.int (F_X4_find 43 (FI_X4_fresh 53 (FI_X4_begin (F_X7_isFull 53 I J) I J) J) J)] (S1_X4_partyLine I J) J R n g
  refine w_istore_n ok dX4_partyLine_37 rfl (by decide) rfl ?_
  refine w_aload_n ok dX4_partyLine_38 2 rfl ?_
  refine w_getR ok dX4_partyLine_39 (fX4_28 rfl) (congrArg Prod.fst s_41) rfl (r_41_3 ro) (ltK hnn (by decide)) ?_
  refine w_cV (As := []) ok dX4_partyLine_42 iX8_step (lX4_65 rfl) (rcv cls8 (congrArg Prod.fst s_81)) (ltK hnn (by decide)) (c_X8_step ro hnn  htp (hp3)) (by decide) rfl (Nat.le_of_ble_eq_true rfl) ?_
  refine w_aload_n ok dX4_partyLine_45 2 rfl ?_
  refine w_iconst (v := 0) ok dX4_partyLine_46 (by decide) ?_
  refine w_aload_n ok dX4_partyLine_47 2 rfl ?_
  refine w_getR ok dX4_partyLine_48 (fX4_12 rfl) (congrArg Prod.fst s_41) rfl (r_41_0 ro) (ltK hnn (by decide)) ?_
  refine w_getR ok dX4_partyLine_51 (fX4_111 rfl) (congrArg Prod.fst s_42) rfl (r_42_0 ro) (ltK hnn (by decide)) ?_
  refine w_getR ok dX4_partyLine_54 (fX4_151 rfl) (congrArg Prod.fst s_43) rfl (r_43_4 ro) (ltK hnn (by decide)) ?_
  refine w_iload_n ok dX4_partyLine_57 0 rfl ?_
  refine w_cS (As := [.ref 46, .int (F_X4_find 43 (FI_X4_fresh 53 (FI_X4_begin (F_X7_isFull 53 I J) I J) J) J)]) ok dX4_partyLine_58 iX11_at (lX4_147 rfl) (c_at s_46 (ltK hnn (by decide)) (F_X4_find 43 (FI_X4_fresh 53 (FI_X4_begin (F_X7_isFull 53 I J) I J) J) J)) (by decide) rfl (Nat.le_of_ble_eq_true rfl) ?_
  show WK K 0 0 61 [(2, .int (F_X4_find 43 (FI_X4_fresh 53 (FI_X4_begin (F_X7_isFull 53 I J) I J) J) J)), (1, .int (F_X4_fresh 53 (FI_X4_begin (F_X7_isFull 53 I J) I J) J)), (0, .ref 41)] [.int (S2_X4_partyLine I J), .int 0, .ref 41] (FI_X8_step  (S1_X4_partyLine I J) J) J R n g
  refine w_iconst (v := 1) ok dX4_partyLine_61 (by decide) ?_
  refine w_isub ok dX4_partyLine_62 ?_
  refine w_cV (As := [.int 0, .int ((S2_X4_partyLine I J) - 1)]) ok dX4_partyLine_63 iX4_number (lX4_128 rfl) (rcv cls4 (congrArg Prod.fst s_41)) (ltK hnn (by decide)) (c_X4_number ro hnn 0 ((S2_X4_partyLine I J) - 1) htp (hp4)) (by decide) rfl (Nat.le_of_ble_eq_true rfl) ?_
  show WK K 0 0 66 [(2, .int (F_X4_find 43 (FI_X4_fresh 53 (FI_X4_begin (F_X7_isFull 53 I J) I J) J) J)), (1, .int (F_X4_fresh 53 (FI_X4_begin (F_X7_isFull 53 I J) I J) J)), (0, .ref 41)] [.int (F_X4_number 0 ((S2_X4_partyLine I J) - 1) (FI_X8_step  (S1_X4_partyLine I J) J) J)] (S3_X4_partyLine I J) J R n g
  refine w_istore_n ok dX4_partyLine_66 rfl (by decide) rfl ?_
  refine w_aload_n ok dX4_partyLine_67 3 rfl ?_
  refine w_iconst (v := 0) ok dX4_partyLine_68 (by decide) ?_
  refine w_bipush (v := 99) ok dX4_partyLine_69 (by decide) ?_
  refine w_cV (As := [.int 0, .int 99]) ok dX4_partyLine_71 iX4_number (lX4_128 rfl) (rcv cls4 (congrArg Prod.fst s_41)) (ltK hnn (by decide)) (c_X4_number ro hnn 0 99 htp (hp5)) (by decide) rfl (Nat.le_of_ble_eq_true rfl) ?_
  refine w_istore ok dX4_partyLine_74 (by decide) rfl ?_
  refine w_aload_n ok dX4_partyLine_76 4 rfl ?_
  refine w_getI ok dX4_partyLine_77 (fX4_18 rfl) (congrArg Prod.fst s_41) rfl (ltK hnn (by decide)) ?_
  refine w_if_ne (tgt := 98) ok dX4_partyLine_80 (by decide) (fun c1 => ?_) (fun c1 => ?_)
  · skip
    exact w_vret ok fin dX4_partyLine_98 rfl (by unfold FI_X4_partyLine; simp only [if_neg c1]; exact Pd.i)
  · skip
    refine w_aload_n ok dX4_partyLine_83 4 rfl ?_
    refine w_getR ok dX4_partyLine_84 (fX4_12 rfl) (congrArg Prod.fst s_41) rfl (r_41_0 ro) (ltK hnn (by decide)) ?_
    refine w_getR ok dX4_partyLine_87 (fX4_158 rfl) (congrArg Prod.fst s_42) rfl (r_42_2 ro) (ltK hnn (by decide)) ?_
    refine w_iload_n ok dX4_partyLine_90 3 rfl ?_
    refine w_iload_n ok dX4_partyLine_91 2 rfl ?_
    refine w_iload_n ok dX4_partyLine_92 1 rfl ?_
    refine w_iload ok dX4_partyLine_93 0 rfl ?_
    refine w_cV (As := [.int (F_X4_fresh 53 (FI_X4_begin (F_X7_isFull 53 I J) I J) J), .int (F_X4_find 43 (FI_X4_fresh 53 (FI_X4_begin (F_X7_isFull 53 I J) I J) J) J), .int (F_X4_number 0 ((S2_X4_partyLine I J) - 1) (FI_X8_step  (S1_X4_partyLine I J) J) J), .int (F_X4_number 0 99 (S3_X4_partyLine I J) J)]) ok dX4_partyLine_95 iX7_add (lX4_131 rfl) (rcv cls7 (congrArg Prod.fst s_53)) (ltK hnn (by decide)) (c_X7_add ro hnn (F_X4_fresh 53 (FI_X4_begin (F_X7_isFull 53 I J) I J) J) (F_X4_find 43 (FI_X4_fresh 53 (FI_X4_begin (F_X7_isFull 53 I J) I J) J) J) (F_X4_number 0 ((S2_X4_partyLine I J) - 1) (FI_X8_step  (S1_X4_partyLine I J) J) J) (F_X4_number 0 99 (S3_X4_partyLine I J) J) isTb_53) (by decide) rfl (Nat.le_of_ble_eq_true rfl) ?_
    show WK K 0 0 98 [(4, .int (F_X4_number 0 99 (S3_X4_partyLine I J) J)), (3, .int (F_X4_number 0 ((S2_X4_partyLine I J) - 1) (FI_X8_step  (S1_X4_partyLine I J) J) J)), (2, .int (F_X4_find 43 (FI_X4_fresh 53 (FI_X4_begin (F_X7_isFull 53 I J) I J) J) J)), (1, .int (F_X4_fresh 53 (FI_X4_begin (F_X7_isFull 53 I J) I J) J)), (0, .ref 41)] [] (S4_X4_partyLine I J) J R n g
    exact w_vret ok fin dX4_partyLine_98 rfl (by unfold FI_X4_partyLine; simp only [if_pos c1]; exact Pd.i)
def S1_X4_clerkLine (I : SI) (J : SJ) : SI := FI_X4_number 0 63 (FI_X4_fresh 58 (FI_X4_begin (F_X7_isFull 58 I J) I J) J) J
def S2_X4_clerkLine (I : SI) (J : SJ) : SI := FI_X7_add 58 (F_X4_fresh 58 (FI_X4_begin (F_X7_isFull 58 I J) I J) J) (F_X4_number 0 63 (FI_X4_fresh 58 (FI_X4_begin (F_X7_isFull 58 I J) I J) J) J) 0 0 (S1_X4_clerkLine I J) J
def FI_X4_clerkLine  (I : SI) (J : SJ) : SI := if (((S1_X4_clerkLine I J)) 41 1) = 0 then (S2_X4_clerkLine I J) else (S1_X4_clerkLine I J)
def H_X4_clerkLine  (I : SI) (J : SJ) : Prop := (H_X4_begin (F_X7_isFull 58 I J) I J) ∧ (H_X4_fresh 58 (FI_X4_begin (F_X7_isFull 58 I J) I J) J) ∧ (H_X4_number 0 63 (FI_X4_fresh 58 (FI_X4_begin (F_X7_isFull 58 I J) I J) J) J)
set_option maxHeartbeats 1000000 in
set_option maxRecDepth 40000 in
theorem c_X4_clerkLine {I : SI} {J : SJ} {R : SR} {n g : Nat} (ro : RO R) (hnn : nK ≤ n)  (htp : R 81 1 = some 1)  (hp : H_X4_clerkLine  I J) : MM 4 0 0 mX4_clerkLine [.ref 41] I J R n g (Pd none (FI_X4_clerkLine  I J) J R n g) := by
  refine MM.of (by decide) (Nat.le_of_ble_eq_true rfl) fun K ok fin => ?_
  show WK K 0 0 0 [(0, .ref 41)] [] I J R n g
  obtain ⟨hp1, hp2, hp3⟩ := hp
  refine w_aload_n ok dX4_clerkLine_0 0 rfl ?_
  refine w_aload_n ok dX4_clerkLine_1 0 rfl ?_
  refine w_getR ok dX4_clerkLine_2 (fX4_12 rfl) (congrArg Prod.fst s_41) rfl (r_41_0 ro) (ltK hnn (by decide)) ?_
  refine w_getR ok dX4_clerkLine_5 (fX4_161 rfl) (congrArg Prod.fst s_42) rfl (r_42_3 ro) (ltK hnn (by decide)) ?_
  refine w_cV (As := []) ok dX4_clerkLine_8 iX7_isFull (lX4_115 rfl) (rcv cls7 (congrArg Prod.fst s_58)) (ltK hnn (by decide)) (c_X7_isFull ro hnn  isTb_58) (by decide) rfl (Nat.le_of_ble_eq_true rfl) ?_
  show WK K 0 0 11 [(0, .ref 41)] [.int (F_X7_isFull 58 I J), .ref 41] I J R n g
  refine w_cV (As := [.int (F_X7_isFull 58 I J)]) ok dX4_clerkLine_11 iX4_begin (lX4_121 rfl) (rcv cls4 (congrArg Prod.fst s_41)) (ltK hnn (by decide)) (c_X4_begin ro hnn (F_X7_isFull 58 I J) htp (hp1)) (by decide) rfl (Nat.le_of_ble_eq_true rfl) ?_
  refine w_aload_n ok dX4_clerkLine_14 0 rfl ?_
  refine w_aload_n ok dX4_clerkLine_15 0 rfl ?_
  refine w_getR ok dX4_clerkLine_16 (fX4_12 rfl) (congrArg Prod.fst s_41) rfl (r_41_0 ro) (ltK hnn (by decide)) ?_
  refine w_getR ok dX4_clerkLine_19 (fX4_161 rfl) (congrArg Prod.fst s_42) rfl (r_42_3 ro) (ltK hnn (by decide)) ?_
  refine w_cV (As := [.ref 58]) ok dX4_clerkLine_22 iX4_fresh (lX4_124 rfl) (rcv cls4 (congrArg Prod.fst s_41)) (ltK hnn (by decide)) (c_X4_fresh ro hnn  isTb_58 htp (hp2)) (by decide) rfl (Nat.le_of_ble_eq_true rfl) ?_
  refine w_istore_n ok dX4_clerkLine_25 rfl (by decide) rfl ?_
  refine w_aload_n ok dX4_clerkLine_26 1 rfl ?_
  refine w_iconst (v := 0) ok dX4_clerkLine_27 (by decide) ?_
  refine w_bipush (v := 63) ok dX4_clerkLine_28 (by decide) ?_
  refine w_cV (As := [.int 0, .int 63]) ok dX4_clerkLine_30 iX4_number (lX4_128 rfl) (rcv cls4 (congrArg Prod.fst s_41)) (ltK hnn (by decide)) (c_X4_number ro hnn 0 63 htp (hp3)) (by decide) rfl (Nat.le_of_ble_eq_true rfl) ?_
  show WK K 0 0 33 [(1, .int (F_X4_fresh 58 (FI_X4_begin (F_X7_isFull 58 I J) I J) J)), (0, .ref 41)] [.int (F_X4_number 0 63 (FI_X4_fresh 58 (FI_X4_begin (F_X7_isFull 58 I J) I J) J) J)] (S1_X4_clerkLine I J) J R n g
  refine w_istore_n ok dX4_clerkLine_33 rfl (by decide) rfl ?_
  refine w_aload_n ok dX4_clerkLine_34 2 rfl ?_
  refine w_getI ok dX4_clerkLine_35 (fX4_18 rfl) (congrArg Prod.fst s_41) rfl (ltK hnn (by decide)) ?_
  refine w_if_ne (tgt := 55) ok dX4_clerkLine_38 (by decide) (fun c1 => ?_) (fun c1 => ?_)
  · skip
    exact w_vret ok fin dX4_clerkLine_55 rfl (by unfold FI_X4_clerkLine; simp only [if_neg c1]; exact Pd.i)
  · skip
    refine w_aload_n ok dX4_clerkLine_41 2 rfl ?_
    refine w_getR ok dX4_clerkLine_42 (fX4_12 rfl) (congrArg Prod.fst s_41) rfl (r_41_0 ro) (ltK hnn (by decide)) ?_
    refine w_getR ok dX4_clerkLine_45 (fX4_161 rfl) (congrArg Prod.fst s_42) rfl (r_42_3 ro) (ltK hnn (by decide)) ?_
    refine w_iload_n ok dX4_clerkLine_48 1 rfl ?_
    refine w_iload_n ok dX4_clerkLine_49 0 rfl ?_
    refine w_iconst (v := 0) ok dX4_clerkLine_50 (by decide) ?_
    refine w_iconst (v := 0) ok dX4_clerkLine_51 (by decide) ?_
    refine w_cV (As := [.int (F_X4_fresh 58 (FI_X4_begin (F_X7_isFull 58 I J) I J) J), .int (F_X4_number 0 63 (FI_X4_fresh 58 (FI_X4_begin (F_X7_isFull 58 I J) I J) J) J), .int 0, .int 0]) ok dX4_clerkLine_52 iX7_add (lX4_131 rfl) (rcv cls7 (congrArg Prod.fst s_58)) (ltK hnn (by decide)) (c_X7_add ro hnn (F_X4_fresh 58 (FI_X4_begin (F_X7_isFull 58 I J) I J) J) (F_X4_number 0 63 (FI_X4_fresh 58 (FI_X4_begin (F_X7_isFull 58 I J) I J) J) J) 0 0 isTb_58) (by decide) rfl (Nat.le_of_ble_eq_true rfl) ?_
    show WK K 0 0 55 [(2, .int (F_X4_number 0 63 (FI_X4_fresh 58 (FI_X4_begin (F_X7_isFull 58 I J) I J) J) J)), (1, .int (F_X4_fresh 58 (FI_X4_begin (F_X7_isFull 58 I J) I J) J)), (0, .ref 41)] [] (S2_X4_clerkLine I J) J R n g
    exact w_vret ok fin dX4_clerkLine_55 rfl (by unfold FI_X4_clerkLine; simp only [if_pos c1]; exact Pd.i)
def S1_X4_coldLine (I : SI) (J : SJ) : SI := FI_X4_number (F_X4_number 0 99 (FI_X4_begin (F_X7_isFull 63 I J) I J) J) 99 (FI_X4_number 0 99 (FI_X4_begin (F_X7_isFull 63 I J) I J) J) J
def S2_X4_coldLine (I : SI) (J : SJ) : Int32 := F_X4_number (F_X4_number 0 99 (FI_X4_begin (F_X7_isFull 63 I J) I J) J) 99 (FI_X4_number 0 99 (FI_X4_begin (F_X7_isFull 63 I J) I J) J) J
def S3_X4_coldLine (I : SI) (J : SJ) : SI := FI_X7_add 63 0 (F_X4_number 0 99 (FI_X4_begin (F_X7_isFull 63 I J) I J) J) (S2_X4_coldLine I J) 0 (S1_X4_coldLine I J) J
def FI_X4_coldLine  (I : SI) (J : SJ) : SI := if (((S1_X4_coldLine I J)) 41 1) = 0 then (S3_X4_coldLine I J) else (S1_X4_coldLine I J)
def H_X4_coldLine  (I : SI) (J : SJ) : Prop := (H_X4_begin (F_X7_isFull 63 I J) I J) ∧ (H_X4_number 0 99 (FI_X4_begin (F_X7_isFull 63 I J) I J) J) ∧ (H_X4_number (F_X4_number 0 99 (FI_X4_begin (F_X7_isFull 63 I J) I J) J) 99 (FI_X4_number 0 99 (FI_X4_begin (F_X7_isFull 63 I J) I J) J) J)
set_option maxHeartbeats 1000000 in
set_option maxRecDepth 40000 in
theorem c_X4_coldLine {I : SI} {J : SJ} {R : SR} {n g : Nat} (ro : RO R) (hnn : nK ≤ n)  (htp : R 81 1 = some 1)  (hp : H_X4_coldLine  I J) : MM 4 0 0 mX4_coldLine [.ref 41] I J R n g (Pd none (FI_X4_coldLine  I J) J R n g) := by
  refine MM.of (by decide) (Nat.le_of_ble_eq_true rfl) fun K ok fin => ?_
  show WK K 0 0 0 [(0, .ref 41)] [] I J R n g
  obtain ⟨hp1, hp2, hp3⟩ := hp
  refine w_aload_n ok dX4_coldLine_0 0 rfl ?_
  refine w_aload_n ok dX4_coldLine_1 0 rfl ?_
  refine w_getR ok dX4_coldLine_2 (fX4_12 rfl) (congrArg Prod.fst s_41) rfl (r_41_0 ro) (ltK hnn (by decide)) ?_
  refine w_getR ok dX4_coldLine_5 (fX4_164 rfl) (congrArg Prod.fst s_42) rfl (r_42_4 ro) (ltK hnn (by decide)) ?_
  refine w_cV (As := []) ok dX4_coldLine_8 iX7_isFull (lX4_115 rfl) (rcv cls7 (congrArg Prod.fst s_63)) (ltK hnn (by decide)) (c_X7_isFull ro hnn  isTb_63) (by decide) rfl (Nat.le_of_ble_eq_true rfl) ?_
  show WK K 0 0 11 [(0, .ref 41)] [.int (F_X7_isFull 63 I J), .ref 41] I J R n g
  refine w_cV (As := [.int (F_X7_isFull 63 I J)]) ok dX4_coldLine_11 iX4_begin (lX4_121 rfl) (rcv cls4 (congrArg Prod.fst s_41)) (ltK hnn (by decide)) (c_X4_begin ro hnn (F_X7_isFull 63 I J) htp (hp1)) (by decide) rfl (Nat.le_of_ble_eq_true rfl) ?_
  refine w_aload_n ok dX4_coldLine_14 0 rfl ?_
  refine w_iconst (v := 0) ok dX4_coldLine_15 (by decide) ?_
  refine w_bipush (v := 99) ok dX4_coldLine_16 (by decide) ?_
  refine w_cV (As := [.int 0, .int 99]) ok dX4_coldLine_18 iX4_number (lX4_128 rfl) (rcv cls4 (congrArg Prod.fst s_41)) (ltK hnn (by decide)) (c_X4_number ro hnn 0 99 htp (hp2)) (by decide) rfl (Nat.le_of_ble_eq_true rfl) ?_
  refine w_istore_n ok dX4_coldLine_21 rfl (by decide) rfl ?_
  refine w_aload_n ok dX4_coldLine_22 1 rfl ?_
  refine w_iload_n ok dX4_coldLine_23 0 rfl ?_
  refine w_bipush (v := 99) ok dX4_coldLine_24 (by decide) ?_
  refine w_cV (As := [.int (F_X4_number 0 99 (FI_X4_begin (F_X7_isFull 63 I J) I J) J), .int 99]) ok dX4_coldLine_26 iX4_number (lX4_128 rfl) (rcv cls4 (congrArg Prod.fst s_41)) (ltK hnn (by decide)) (c_X4_number ro hnn (F_X4_number 0 99 (FI_X4_begin (F_X7_isFull 63 I J) I J) J) 99 htp (hp3)) (by decide) rfl (Nat.le_of_ble_eq_true rfl) ?_
  show WK K 0 0 29 [(1, .int (F_X4_number 0 99 (FI_X4_begin (F_X7_isFull 63 I J) I J) J)), (0, .ref 41)] [.int (S2_X4_coldLine I J)] (S1_X4_coldLine I J) J R n g
  refine w_istore_n ok dX4_coldLine_29 rfl (by decide) rfl ?_
  refine w_aload_n ok dX4_coldLine_30 2 rfl ?_
  refine w_getI ok dX4_coldLine_31 (fX4_18 rfl) (congrArg Prod.fst s_41) rfl (ltK hnn (by decide)) ?_
  refine w_if_ne (tgt := 51) ok dX4_coldLine_34 (by decide) (fun c1 => ?_) (fun c1 => ?_)
  · skip
    exact w_vret ok fin dX4_coldLine_51 rfl (by unfold FI_X4_coldLine; simp only [if_neg c1]; exact Pd.i)
  · skip
    refine w_aload_n ok dX4_coldLine_37 2 rfl ?_
    refine w_getR ok dX4_coldLine_38 (fX4_12 rfl) (congrArg Prod.fst s_41) rfl (r_41_0 ro) (ltK hnn (by decide)) ?_
    refine w_getR ok dX4_coldLine_41 (fX4_164 rfl) (congrArg Prod.fst s_42) rfl (r_42_4 ro) (ltK hnn (by decide)) ?_
    refine w_iconst (v := 0) ok dX4_coldLine_44 (by decide) ?_
    refine w_iload_n ok dX4_coldLine_45 1 rfl ?_
    refine w_iload_n ok dX4_coldLine_46 0 rfl ?_
    refine w_iconst (v := 0) ok dX4_coldLine_47 (by decide) ?_
    refine w_cV (As := [.int 0, .int (F_X4_number 0 99 (FI_X4_begin (F_X7_isFull 63 I J) I J) J), .int (S2_X4_coldLine I J), .int 0]) ok dX4_coldLine_48 iX7_add (lX4_131 rfl) (rcv cls7 (congrArg Prod.fst s_63)) (ltK hnn (by decide)) (c_X7_add ro hnn 0 (F_X4_number 0 99 (FI_X4_begin (F_X7_isFull 63 I J) I J) J) (S2_X4_coldLine I J) 0 isTb_63) (by decide) rfl (Nat.le_of_ble_eq_true rfl) ?_
    show WK K 0 0 51 [(2, .int (S2_X4_coldLine I J)), (1, .int (F_X4_number 0 99 (FI_X4_begin (F_X7_isFull 63 I J) I J) J)), (0, .ref 41)] [] (S3_X4_coldLine I J) J R n g
    exact w_vret ok fin dX4_coldLine_51 rfl (by unfold FI_X4_coldLine; simp only [if_pos c1]; exact Pd.i)
def F_X4_onlyOnce (a0 : Int32) (a1 : Int32) (I : SI) (J : SJ) : Int32 := if a0 < 0 then F_X4_number 0 a1 (FI_X8_step  I J) J else F_X4_number 0 a1 (FI_X8_step  (FI_X4_fail 3 I J) J) J
def FI_X4_onlyOnce (a0 : Int32) (a1 : Int32) (I : SI) (J : SJ) : SI := if a0 < 0 then FI_X4_number 0 a1 (FI_X8_step  I J) J else FI_X4_number 0 a1 (FI_X8_step  (FI_X4_fail 3 I J) J) J
def H_X4_onlyOnce (a0 : Int32) (a1 : Int32) (I : SI) (J : SJ) : Prop := (a0 < 0 → H_X8_step  I J) ∧ (a0 < 0 → H_X4_number 0 a1 (FI_X8_step  I J) J) ∧ (¬ (a0 < 0) → H_X8_step  (FI_X4_fail 3 I J) J) ∧ (¬ (a0 < 0) → H_X4_number 0 a1 (FI_X8_step  (FI_X4_fail 3 I J) J) J)
set_option maxHeartbeats 1000000 in
set_option maxRecDepth 40000 in
theorem c_X4_onlyOnce {I : SI} {J : SJ} {R : SR} {n g : Nat} (ro : RO R) (hnn : nK ≤ n) (a0 : Int32) (a1 : Int32) (htp : R 81 1 = some 1)  (hp : H_X4_onlyOnce a0 a1 I J) : MM 4 0 0 mX4_onlyOnce [.ref 41, .int a0, .int a1] I J R n g (Pd (some (.int (F_X4_onlyOnce a0 a1 I J))) (FI_X4_onlyOnce a0 a1 I J) J R n g) := by
  refine MM.of (by decide) (Nat.le_of_ble_eq_true rfl) fun K ok fin => ?_
  show WK K 0 0 0 [(0, .ref 41), (1, .int a0), (2, .int a1)] [] I J R n g
  obtain ⟨hp1, hp2, hp3, hp4⟩ := hp
  refine w_iload_n ok dX4_onlyOnce_0 1 rfl ?_
  refine w_if_lt (tgt := 9) ok dX4_onlyOnce_1 (by decide) (fun c1 => ?_) (fun c1 => ?_)
  · skip
    refine w_aload_n ok dX4_onlyOnce_9 0 rfl ?_
    refine w_getR ok dX4_onlyOnce_10 (fX4_28 rfl) (congrArg Prod.fst s_41) rfl (r_41_3 ro) (ltK hnn (by decide)) ?_
    refine w_cV (As := []) ok dX4_onlyOnce_13 iX8_step (lX4_65 rfl) (rcv cls8 (congrArg Prod.fst s_81)) (ltK hnn (by decide)) (c_X8_step ro hnn  htp (hp1 c1)) (by decide) rfl (Nat.le_of_ble_eq_true rfl) ?_
    refine w_aload_n ok dX4_onlyOnce_16 0 rfl ?_
    refine w_iconst (v := 0) ok dX4_onlyOnce_17 (by decide) ?_
    refine w_iload_n ok dX4_onlyOnce_18 2 rfl ?_
    refine w_cV (As := [.int 0, .int a1]) ok dX4_onlyOnce_19 iX4_number (lX4_128 rfl) (rcv cls4 (congrArg Prod.fst s_41)) (ltK hnn (by decide)) (c_X4_number ro hnn 0 a1 htp (hp2 c1)) (by decide) rfl (Nat.le_of_ble_eq_true rfl) ?_
    exact w_iret ok fin dX4_onlyOnce_22 rfl (by unfold F_X4_onlyOnce FI_X4_onlyOnce; simp only [if_pos c1]; exact Pd.i)
  · skip
    refine w_aload_n ok dX4_onlyOnce_4 0 rfl ?_
    refine w_iconst (v := 3) ok dX4_onlyOnce_5 (by decide) ?_
    refine w_cV (As := [.int 3]) ok dX4_onlyOnce_6 iX4_fail (lX4_58 rfl) (rcv cls4 (congrArg Prod.fst s_41)) (ltK hnn (by decide)) (c_X4_fail ro hnn 3 ) (by decide) rfl (Nat.le_of_ble_eq_true rfl) ?_
    refine w_aload_n ok dX4_onlyOnce_9 0 rfl ?_
    refine w_getR ok dX4_onlyOnce_10 (fX4_28 rfl) (congrArg Prod.fst s_41) rfl (r_41_3 ro) (ltK hnn (by decide)) ?_
    refine w_cV (As := []) ok dX4_onlyOnce_13 iX8_step (lX4_65 rfl) (rcv cls8 (congrArg Prod.fst s_81)) (ltK hnn (by decide)) (c_X8_step ro hnn  htp (hp3 c1)) (by decide) rfl (Nat.le_of_ble_eq_true rfl) ?_
    refine w_aload_n ok dX4_onlyOnce_16 0 rfl ?_
    refine w_iconst (v := 0) ok dX4_onlyOnce_17 (by decide) ?_
    refine w_iload_n ok dX4_onlyOnce_18 2 rfl ?_
    refine w_cV (As := [.int 0, .int a1]) ok dX4_onlyOnce_19 iX4_number (lX4_128 rfl) (rcv cls4 (congrArg Prod.fst s_41)) (ltK hnn (by decide)) (c_X4_number ro hnn 0 a1 htp (hp4 c1)) (by decide) rfl (Nat.le_of_ble_eq_true rfl) ?_
    exact w_iret ok fin dX4_onlyOnce_22 rfl (by unfold F_X4_onlyOnce FI_X4_onlyOnce; simp only [if_neg c1]; exact Pd.i)
def B_X4_side_l14_3 (a0 : Nat) (I : SI) (J : SJ) (i14 : Nat) (s14 : Int32 × SI) : (Int32 × SI) ⊕ (SI) := if (s14.2 41 1) = 0 then (if s14.1 = 0 then (if (s14.2 41 7) = 0 then (if (s14.2 81 5) = 4 then .inr (FI_X4_join a0 1 s14.2 J) else .inl ((F_X4_sign a0 s14.2 J), (FI_X8_step  (FI_X4_sign a0 s14.2 J) J))) else .inl ((F_X4_sign a0 s14.2 J), (FI_X8_step  (FI_X4_sign a0 s14.2 J) J))) else .inl ((F_X4_operand a0 s14.2 J), (FI_X8_step  (FI_X4_operand a0 s14.2 J) J))) else .inr s14.2
def F_X4_side_l14_3 (a0 : Nat) (I : SI) (J : SJ) (s0 : Int32 × SI) : (Int32 × SI) ⊕ (SI) := itE (B_X4_side_l14_3 a0 I J) (701) 0 s0
def FI_X4_side (a0 : Nat) (I : SI) (J : SJ) : SI := (match (F_X4_side_l14_3 a0 I J (1, (u2 (u2 I 41 6 0) 41 7 0))) with | .inl se14 => se14.2 | .inr re14 => re14)
def H_X4_side (a0 : Nat) (I : SI) (J : SJ) : Prop := (∀ (i14 : Nat) (s14 : Int32 × SI), i14 < 701 → itE (B_X4_side_l14_3 a0 I J) i14 0 (1, (u2 (u2 I 41 6 0) 41 7 0)) = .inl s14 → (s14.2 41 1) = 0 → ¬ (s14.1 = 0) → H_X4_operand a0 s14.2 J) ∧ (∀ (i14 : Nat) (s14 : Int32 × SI), i14 < 701 → itE (B_X4_side_l14_3 a0 I J) i14 0 (1, (u2 (u2 I 41 6 0) 41 7 0)) = .inl s14 → (s14.2 41 1) = 0 → ¬ (s14.1 = 0) → H_X8_step  (FI_X4_operand a0 s14.2 J) J) ∧ (∀ (i14 : Nat) (s14 : Int32 × SI), i14 < 701 → itE (B_X4_side_l14_3 a0 I J) i14 0 (1, (u2 (u2 I 41 6 0) 41 7 0)) = .inl s14 → (s14.2 41 1) = 0 → s14.1 = 0 → ¬ ((s14.2 41 7) = 0) → H_X4_sign a0 s14.2 J) ∧ (∀ (i14 : Nat) (s14 : Int32 × SI), i14 < 701 → itE (B_X4_side_l14_3 a0 I J) i14 0 (1, (u2 (u2 I 41 6 0) 41 7 0)) = .inl s14 → (s14.2 41 1) = 0 → s14.1 = 0 → ¬ ((s14.2 41 7) = 0) → H_X8_step  (FI_X4_sign a0 s14.2 J) J) ∧ (∀ (i14 : Nat) (s14 : Int32 × SI), i14 < 701 → itE (B_X4_side_l14_3 a0 I J) i14 0 (1, (u2 (u2 I 41 6 0) 41 7 0)) = .inl s14 → (s14.2 41 1) = 0 → s14.1 = 0 → (s14.2 41 7) = 0 → ¬ ((s14.2 81 5) = 4) → H_X4_sign a0 s14.2 J) ∧ (∀ (i14 : Nat) (s14 : Int32 × SI), i14 < 701 → itE (B_X4_side_l14_3 a0 I J) i14 0 (1, (u2 (u2 I 41 6 0) 41 7 0)) = .inl s14 → (s14.2 41 1) = 0 → s14.1 = 0 → (s14.2 41 7) = 0 → ¬ ((s14.2 81 5) = 4) → H_X8_step  (FI_X4_sign a0 s14.2 J) J) ∧ (∀ (i14 : Nat) (s14 : Int32 × SI), i14 < 701 → itE (B_X4_side_l14_3 a0 I J) i14 0 (1, (u2 (u2 I 41 6 0) 41 7 0)) = .inl s14 → (s14.2 41 1) = 0 → s14.1 = 0 → (s14.2 41 7) = 0 → (s14.2 81 5) = 4 → H_X4_join a0 1 s14.2 J)
set_option maxHeartbeats 1120000 in
set_option maxRecDepth 40000 in
theorem c_X4_side {I : SI} {J : SJ} {R : SR} {n g : Nat} (ro : RO R) (hnn : nK ≤ n) {a0 : Nat} (ha0 : IsLw a0) (htp : R 81 1 = some 1)  (hp : H_X4_side a0 I J) : MM 3 0 0 mX4_side [.ref 41, .ref a0] I J R n g (Pd none (FI_X4_side a0 I J) J R n g) := by
  refine MM.of (by decide) (Nat.le_of_ble_eq_true rfl) fun K ok fin => ?_
  show WK K 0 0 0 [(0, .ref 41), (1, .ref a0)] [] I J R n g
  obtain ⟨hp1, hp2, hp3, hp4, hp5, hp6, hp7⟩ := hp
  refine w_iconst (v := 1) ok dX4_side_0 (by decide) ?_
  refine w_istore_n ok dX4_side_1 rfl (by decide) rfl ?_
  refine w_aload_n ok dX4_side_2 1 rfl ?_
  refine w_iconst (v := 0) ok dX4_side_3 (by decide) ?_
  refine w_putI ok dX4_side_4 (fwX4_39 rfl) (congrArg Prod.fst s_41) rfl (ltK hnn (by decide)) ?_
  refine w_aload_n ok dX4_side_7 1 rfl ?_
  refine w_iconst (v := 0) ok dX4_side_8 (by decide) ?_
  refine w_putI ok dX4_side_9 (fwX4_42 rfl) (congrArg Prod.fst s_41) rfl (ltK hnn (by decide)) ?_
  refine w_iconst (v := 0) ok dX4_side_12 (by decide) ?_
  refine w_istore_n ok dX4_side_13 rfl (by decide) rfl ?_
  refine w_loc [2, 3, 1, 0] rfl ?_
  refine loop_e (σ := Int32 × SI) (ρ := SI) (fun (i14 : Nat) (s14 : Int32 × SI) => WK K 0 0 14 [(0, .ref 41), (1, .ref a0), (2, .int s14.1), (3, .int (nI i14))] [] s14.2 J R n g) (B_X4_side_l14_3 a0 I J) (701) ((1, (u2 (u2 I 41 6 0) 41 7 0))) ?_ ?_
  · intro se14 he14
    have he14 : (F_X4_side_l14_3 a0 I J (1, (u2 (u2 I 41 6 0) 41 7 0))) = .inl se14 := he14
    show WK K 0 0 14 [(0, .ref 41), (1, .ref a0), (2, .int se14.1), (3, .int (nI 701))] [] se14.2 J R n g
    have e1 : (700 : Int32) < (nI 701) := (show nI 700 < nI 701 from nI_lt (by omega) (by decide))
    refine w_iload_n ok dX4_side_14 3 rfl ?_
    refine w_sipush (v := 700) ok dX4_side_15 (by decide) ?_
    refine w_icmp_gt (tgt := 88) ok dX4_side_18 (by decide) (fun _ => ?_) (fun h => absurd e1 h)
    exact w_vret ok fin dX4_side_88 rfl (by unfold FI_X4_side; simp only [he14]; exact Pd.i)
  · intro i14 s14 hi14 hs14 k14 kr14
    show WK K 0 0 14 [(0, .ref 41), (1, .ref a0), (2, .int s14.1), (3, .int (nI i14))] [] s14.2 J R n g
    have e2 : ¬ ((700 : Int32) < (nI i14)) := (show ¬ (nI 700 < nI i14) from nI_nlt (by omega) (by decide))
    refine w_iload_n ok dX4_side_14 3 rfl ?_
    refine w_sipush (v := 700) ok dX4_side_15 (by decide) ?_
    refine w_icmp_gt (tgt := 88) ok dX4_side_18 (by decide) (fun h => absurd h e2) (fun _ => ?_)
    refine w_aload_n ok dX4_side_21 0 rfl ?_
    refine w_getI ok dX4_side_22 (fX4_18 rfl) (congrArg Prod.fst s_41) rfl (ltK hnn (by decide)) ?_
    refine w_if_ne (tgt := 88) ok dX4_side_25 (by decide) (fun c3 => ?_) (fun c3 => ?_)
    · skip
      have eB : B_X4_side_l14_3 a0 I J i14 s14 = .inr s14.2 := by
        unfold B_X4_side_l14_3; exact (if_neg c3).trans (rfl)
      have hr : (F_X4_side_l14_3 a0 I J (1, (u2 (u2 I 41 6 0) 41 7 0))) = .inr s14.2 := kr14 _ eB
      exact w_vret ok fin dX4_side_88 rfl (by unfold FI_X4_side; simp only [hr]; exact Pd.i)
    · skip
      refine w_iload_n ok dX4_side_28 2 rfl ?_
      refine w_if_ne (tgt := 57) ok dX4_side_29 (by decide) (fun c4 => ?_) (fun c4 => ?_)
      · skip
        refine w_iload_n ok dX4_side_57 2 rfl ?_
        refine w_if_eq (tgt := 69) ok dX4_side_58 (by decide) (fun h => absurd h c4) (fun _ => ?_)
        refine w_aload_n ok dX4_side_61 0 rfl ?_
        refine w_aload_n ok dX4_side_62 1 rfl ?_
        refine w_cV (As := [.ref a0]) ok dX4_side_63 iX4_operand (lX4_196 rfl) (rcv cls4 (congrArg Prod.fst s_41)) (ltK hnn (by decide)) (c_X4_operand ro hnn  ha0 (hp1 i14 s14 hi14 hs14 c3 c4)) (by decide) rfl (Nat.le_of_ble_eq_true rfl) ?_
        refine w_goto (tgt := 74) ok dX4_side_66 (by decide) ?_
        refine w_istore_n ok dX4_side_74 rfl (by decide) rfl ?_
        refine w_aload_n ok dX4_side_75 1 rfl ?_
        refine w_getR ok dX4_side_76 (fX4_28 rfl) (congrArg Prod.fst s_41) rfl (r_41_3 ro) (ltK hnn (by decide)) ?_
        refine w_cV (As := []) ok dX4_side_79 iX8_step (lX4_65 rfl) (rcv cls8 (congrArg Prod.fst s_81)) (ltK hnn (by decide)) (c_X8_step ro hnn  htp (hp2 i14 s14 hi14 hs14 c3 c4)) (by decide) rfl (Nat.le_of_ble_eq_true rfl) ?_
        refine w_iinc (v := (nI i14) + 1) ok dX4_side_82 3 rfl rfl (by decide) rfl ?_
        refine w_goto (tgt := 14) ok dX4_side_85 (by decide) ?_
        have eB : B_X4_side_l14_3 a0 I J i14 s14 = .inl ((F_X4_operand a0 s14.2 J), (FI_X8_step  (FI_X4_operand a0 s14.2 J) J)) := by
          unfold B_X4_side_l14_3; exact (if_pos c3).trans ((if_neg c4).trans (rfl))
        have kk := k14 _ eB
        refine w_loc [2, 3, 1, 0] rfl ?_
        rw [nI_1 i14]
        exact kk
      · skip
        refine w_aload_n ok dX4_side_32 0 rfl ?_
        refine w_getI ok dX4_side_33 (fX4_42 rfl) (congrArg Prod.fst s_41) rfl (ltK hnn (by decide)) ?_
        refine w_if_ne (tgt := 57) ok dX4_side_36 (by decide) (fun c5 => ?_) (fun c5 => ?_)
        · skip
          refine w_iload_n ok dX4_side_57 2 rfl ?_
          refine w_if_eq (tgt := 69) ok dX4_side_58 (by decide) (fun _ => ?_) (fun h => absurd c4 h)
          refine w_aload_n ok dX4_side_69 0 rfl ?_
          refine w_aload_n ok dX4_side_70 1 rfl ?_
          refine w_cV (As := [.ref a0]) ok dX4_side_71 iX4_sign (lX4_200 rfl) (rcv cls4 (congrArg Prod.fst s_41)) (ltK hnn (by decide)) (c_X4_sign ro hnn  ha0 (hp3 i14 s14 hi14 hs14 c3 c4 c5)) (by decide) rfl (Nat.le_of_ble_eq_true rfl) ?_
          refine w_istore_n ok dX4_side_74 rfl (by decide) rfl ?_
          refine w_aload_n ok dX4_side_75 1 rfl ?_
          refine w_getR ok dX4_side_76 (fX4_28 rfl) (congrArg Prod.fst s_41) rfl (r_41_3 ro) (ltK hnn (by decide)) ?_
          refine w_cV (As := []) ok dX4_side_79 iX8_step (lX4_65 rfl) (rcv cls8 (congrArg Prod.fst s_81)) (ltK hnn (by decide)) (c_X8_step ro hnn  htp (hp4 i14 s14 hi14 hs14 c3 c4 c5)) (by decide) rfl (Nat.le_of_ble_eq_true rfl) ?_
          refine w_iinc (v := (nI i14) + 1) ok dX4_side_82 3 rfl rfl (by decide) rfl ?_
          refine w_goto (tgt := 14) ok dX4_side_85 (by decide) ?_
          have eB : B_X4_side_l14_3 a0 I J i14 s14 = .inl ((F_X4_sign a0 s14.2 J), (FI_X8_step  (FI_X4_sign a0 s14.2 J) J)) := by
            unfold B_X4_side_l14_3; exact (if_pos c3).trans ((if_pos c4).trans ((if_neg c5).trans (rfl)))
          have kk := k14 _ eB
          refine w_loc [2, 3, 1, 0] rfl ?_
          rw [nI_1 i14]
          exact kk
        · skip
          refine w_aload_n ok dX4_side_39 0 rfl ?_
          refine w_getR ok dX4_side_40 (fX4_28 rfl) (congrArg Prod.fst s_41) rfl (r_41_3 ro) (ltK hnn (by decide)) ?_
          refine w_getI ok dX4_side_43 (fX4_52 rfl) (congrArg Prod.fst s_81) rfl (ltK hnn (by decide)) ?_
          refine w_iconst (v := 4) ok dX4_side_46 (by decide) ?_
          refine w_icmp_ne (tgt := 57) ok dX4_side_47 (by decide) (fun c6 => ?_) (fun c6 => ?_)
          · skip
            refine w_iload_n ok dX4_side_57 2 rfl ?_
            refine w_if_eq (tgt := 69) ok dX4_side_58 (by decide) (fun _ => ?_) (fun h => absurd c4 h)
            refine w_aload_n ok dX4_side_69 0 rfl ?_
            refine w_aload_n ok dX4_side_70 1 rfl ?_
            refine w_cV (As := [.ref a0]) ok dX4_side_71 iX4_sign (lX4_200 rfl) (rcv cls4 (congrArg Prod.fst s_41)) (ltK hnn (by decide)) (c_X4_sign ro hnn  ha0 (hp5 i14 s14 hi14 hs14 c3 c4 c5 c6)) (by decide) rfl (Nat.le_of_ble_eq_true rfl) ?_
            refine w_istore_n ok dX4_side_74 rfl (by decide) rfl ?_
            refine w_aload_n ok dX4_side_75 1 rfl ?_
            refine w_getR ok dX4_side_76 (fX4_28 rfl) (congrArg Prod.fst s_41) rfl (r_41_3 ro) (ltK hnn (by decide)) ?_
            refine w_cV (As := []) ok dX4_side_79 iX8_step (lX4_65 rfl) (rcv cls8 (congrArg Prod.fst s_81)) (ltK hnn (by decide)) (c_X8_step ro hnn  htp (hp6 i14 s14 hi14 hs14 c3 c4 c5 c6)) (by decide) rfl (Nat.le_of_ble_eq_true rfl) ?_
            refine w_iinc (v := (nI i14) + 1) ok dX4_side_82 3 rfl rfl (by decide) rfl ?_
            refine w_goto (tgt := 14) ok dX4_side_85 (by decide) ?_
            have eB : B_X4_side_l14_3 a0 I J i14 s14 = .inl ((F_X4_sign a0 s14.2 J), (FI_X8_step  (FI_X4_sign a0 s14.2 J) J)) := by
              unfold B_X4_side_l14_3; exact (if_pos c3).trans ((if_pos c4).trans ((if_pos c5).trans ((if_neg c6).trans (rfl))))
            have kk := k14 _ eB
            refine w_loc [2, 3, 1, 0] rfl ?_
            rw [nI_1 i14]
            exact kk
          · skip
            refine w_aload_n ok dX4_side_50 0 rfl ?_
            refine w_aload_n ok dX4_side_51 1 rfl ?_
            refine w_iconst (v := 1) ok dX4_side_52 (by decide) ?_
            refine w_cV (As := [.ref a0, .int 1]) ok dX4_side_53 iX4_join (lX4_192 rfl) (rcv cls4 (congrArg Prod.fst s_41)) (ltK hnn (by decide)) (c_X4_join ro hnn 1 ha0 (hp7 i14 s14 hi14 hs14 c3 c4 c5 c6)) (by decide) rfl (Nat.le_of_ble_eq_true rfl) ?_
            have eB : B_X4_side_l14_3 a0 I J i14 s14 = .inr (FI_X4_join a0 1 s14.2 J) := by
              unfold B_X4_side_l14_3; exact (if_pos c3).trans ((if_pos c4).trans ((if_pos c5).trans ((if_pos c6).trans (rfl))))
            have hr : (F_X4_side_l14_3 a0 I J (1, (u2 (u2 I 41 6 0) 41 7 0))) = .inr (FI_X4_join a0 1 s14.2 J) := kr14 _ eB
            exact w_vret ok fin dX4_side_56 rfl (by unfold FI_X4_side; simp only [hr]; exact Pd.i)
def F_X11_noticeNow (a0 : Int32) (a1 : Int32) (I : SI) (J : SJ) : Int64 := if (F_X7_holds 8 a0 I J) = 0 then -9223372036854775808 else (if (F_X7_holds 3 a1 I J) = 0 then -9223372036854775808 else (if (0 : Int32) ≤ (F_X5_wayIn 86 a0 a1 I J) then F_X0_noticeWorth a0 a1 I J else -9223372036854775808))
def FJ_X11_noticeNow (a0 : Int32) (a1 : Int32) (I : SI) (J : SJ) : SJ := if (F_X7_holds 8 a0 I J) = 0 then J else (if (F_X7_holds 3 a1 I J) = 0 then J else (if (0 : Int32) ≤ (F_X5_wayIn 86 a0 a1 I J) then FJ_X0_noticeWorth a0 a1 I J else J))
def H_X11_noticeNow (a0 : Int32) (a1 : Int32) (I : SI) (J : SJ) : Prop := (¬ ((F_X7_holds 8 a0 I J) = 0) → ¬ ((F_X7_holds 3 a1 I J) = 0) → (0 : Int32) ≤ (F_X5_wayIn 86 a0 a1 I J) → H_X0_noticeWorth a0 a1 I J)
set_option maxHeartbeats 1000000 in
set_option maxRecDepth 40000 in
theorem c_X11_noticeNow {I : SI} {J : SJ} {R : SR} {n g : Nat} (ro : RO R) (hnn : nK ≤ n) (a0 : Int32) (a1 : Int32)  (hp : H_X11_noticeNow a0 a1 I J) : MM 4 0 0 mX11_noticeNow [.ref 0, .int a0, .int a1] I J R n g (Pd (some (.long (F_X11_noticeNow a0 a1 I J))) I (FJ_X11_noticeNow a0 a1 I J) R n g) := by
  refine MM.of (by decide) (Nat.le_of_ble_eq_true rfl) fun K ok fin => ?_
  show WK K 0 0 0 [(0, .ref 0), (1, .int a0), (2, .int a1)] [] I J R n g
  have hp1 := hp
  refine w_aload_n ok dX11_noticeNow_0 0 rfl ?_
  refine w_getR ok dX11_noticeNow_1 (fX11_20 rfl) (congrArg Prod.fst s_0) rfl (r_0_2 ro) (ltK hnn (by decide)) ?_
  refine w_getR ok dX11_noticeNow_4 (fX11_122 rfl) (congrArg Prod.fst s_2) rfl (r_2_1 ro) (ltK hnn (by decide)) ?_
  refine w_iload_n ok dX11_noticeNow_7 1 rfl ?_
  refine w_cV (As := [.int a0]) ok dX11_noticeNow_8 iX7_holds (lX11_131 rfl) (rcv cls7 (congrArg Prod.fst s_8)) (ltK hnn (by decide)) (c_X7_holds ro hnn a0 isTb_8) (by decide) rfl (Nat.le_of_ble_eq_true rfl) ?_
  refine w_if_eq (tgt := 40) ok dX11_noticeNow_11 (by decide) (fun c1 => ?_) (fun c1 => ?_)
  · skip
    refine w_ldc2 ok dX11_noticeNow_40 kX11_202 ?_
    exact w_lret ok fin dX11_noticeNow_43 rfl (by unfold F_X11_noticeNow FJ_X11_noticeNow; simp only [if_pos c1]; exact Pd.i)
  · skip
    refine w_aload_n ok dX11_noticeNow_14 0 rfl ?_
    refine w_getR ok dX11_noticeNow_15 (fX11_20 rfl) (congrArg Prod.fst s_0) rfl (r_0_2 ro) (ltK hnn (by decide)) ?_
    refine w_getR ok dX11_noticeNow_18 (fX11_112 rfl) (congrArg Prod.fst s_2) rfl (r_2_0 ro) (ltK hnn (by decide)) ?_
    refine w_iload_n ok dX11_noticeNow_21 2 rfl ?_
    refine w_cV (As := [.int a1]) ok dX11_noticeNow_22 iX7_holds (lX11_131 rfl) (rcv cls7 (congrArg Prod.fst s_3)) (ltK hnn (by decide)) (c_X7_holds ro hnn a1 isTb_3) (by decide) rfl (Nat.le_of_ble_eq_true rfl) ?_
    refine w_if_eq (tgt := 40) ok dX11_noticeNow_25 (by decide) (fun c2 => ?_) (fun c2 => ?_)
    · skip
      refine w_ldc2 ok dX11_noticeNow_40 kX11_202 ?_
      exact w_lret ok fin dX11_noticeNow_43 rfl (by unfold F_X11_noticeNow FJ_X11_noticeNow; simp only [if_neg c1]; simp only [if_pos c2]; exact Pd.i)
    · skip
      refine w_aload_n ok dX11_noticeNow_28 0 rfl ?_
      refine w_getR ok dX11_noticeNow_29 (fX11_34 rfl) (congrArg Prod.fst s_0) rfl (r_0_4 ro) (ltK hnn (by decide)) ?_
      refine w_iload_n ok dX11_noticeNow_32 1 rfl ?_
      refine w_iload_n ok dX11_noticeNow_33 2 rfl ?_
      refine w_cV (As := [.int a0, .int a1]) ok dX11_noticeNow_34 iX5_wayIn (lX11_180 rfl) (rcv cls5 (congrArg Prod.fst s_86)) (ltK hnn (by decide)) (c_X5_wayIn ro hnn a0 a1 isSc_86) (by decide) rfl (Nat.le_of_ble_eq_true rfl) ?_
      refine w_if_ge (tgt := 44) ok dX11_noticeNow_37 (by decide) (fun c3 => ?_) (fun c3 => ?_)
      · skip
        refine w_aload_n ok dX11_noticeNow_44 0 rfl ?_
        refine w_getR ok dX11_noticeNow_45 (fX11_50 rfl) (congrArg Prod.fst s_0) rfl (r_0_7 ro) (ltK hnn (by decide)) ?_
        refine w_iload_n ok dX11_noticeNow_48 1 rfl ?_
        refine w_iload_n ok dX11_noticeNow_49 2 rfl ?_
        refine w_cV (As := [.int a0, .int a1]) ok dX11_noticeNow_50 iX0_noticeWorth (lX11_208 rfl) (rcv cls0 (congrArg Prod.fst s_104)) (ltK hnn (by decide)) (c_X0_noticeWorth ro hnn a0 a1  (hp1 c1 c2 c3)) (by decide) rfl (Nat.le_of_ble_eq_true rfl) ?_
        exact w_lret ok fin dX11_noticeNow_53 rfl (by unfold F_X11_noticeNow FJ_X11_noticeNow; simp only [if_neg c1]; simp only [if_neg c2]; simp only [if_pos c3]; exact Pd.i)
      · skip
        refine w_ldc2 ok dX11_noticeNow_40 kX11_202 ?_
        exact w_lret ok fin dX11_noticeNow_43 rfl (by unfold F_X11_noticeNow FJ_X11_noticeNow; simp only [if_neg c1]; simp only [if_neg c2]; simp only [if_neg c3]; exact Pd.i)
def S1_X0_film (a0 : Int32) (a1 : Int32) (I : SI) (J : SJ) (s14 : Int32 × SI × SJ) : Int32 := F_X0_isSo (F_X0_noticeWorth a0 s14.1 s14.2.1 s14.2.2) 0 s14.2.1 (FJ_X0_noticeWorth a0 s14.1 s14.2.1 s14.2.2)
def S2_X0_film (a0 : Int32) (a1 : Int32) (I : SI) (J : SJ) (s14 : Int32 × SI × SJ) : Int32 := F_X0_isSo (F_X0_noticeWorth a0 s14.1 s14.2.1 s14.2.2) 1 s14.2.1 (FJ_X0_noticeWorth a0 s14.1 s14.2.1 s14.2.2)
def S3_X0_film (a0 : Int32) (a1 : Int32) (I : SI) (J : SJ) (s14 : Int32 × SI × SJ) : Int32 := F_X0_isSo (F_X0_noticeWorth a0 s14.1 s14.2.1 s14.2.2) 0 s14.2.1 (FJ_X0_noticeWorth a0 s14.1 s14.2.1 s14.2.2)
def S4_X0_film (a0 : Int32) (a1 : Int32) (I : SI) (J : SJ) (s14 : Int32 × SI × SJ) : Int32 := F_X0_isSo (F_X0_noticeWorth a0 s14.1 s14.2.1 s14.2.2) 1 s14.2.1 (FJ_X0_noticeWorth a0 s14.1 s14.2.1 s14.2.2)
def S5_X0_film (a0 : Int32) (a1 : Int32) (I : SI) (J : SJ) (s14 : Int32 × SI × SJ) : SI := u2 (putF s14.2.1 109 48 ((a0 * 6) + s14.1) (atF (s14.2.1 110) 6 s14.1)) 105 2 (((putF s14.2.1 109 48 ((a0 * 6) + s14.1) (atF (s14.2.1 110) 6 s14.1)) 105 2) + 1)
def S6_X0_film (a0 : Int32) (a1 : Int32) (I : SI) (J : SJ) (s14 : Int32 × SI × SJ) : Int32 := F_X0_isSo (F_X0_noticeWorth a0 s14.1 (S5_X0_film a0 a1 I J s14) s14.2.2) 0 (S5_X0_film a0 a1 I J s14) (FJ_X0_noticeWorth a0 s14.1 (S5_X0_film a0 a1 I J s14) s14.2.2)
def S7_X0_film (a0 : Int32) (a1 : Int32) (I : SI) (J : SJ) (s14 : Int32 × SI × SJ) : SI := putF (S5_X0_film a0 a1 I J s14) 110 6 s14.1 (F_X5_wayIn 105 a0 s14.1 s14.2.1 s14.2.2)
def S8_X0_film (a0 : Int32) (a1 : Int32) (I : SI) (J : SJ) (s14 : Int32 × SI × SJ) : Int32 := F_X0_isSo (F_X0_noticeWorth a0 s14.1 (S5_X0_film a0 a1 I J s14) s14.2.2) 1 (S5_X0_film a0 a1 I J s14) (FJ_X0_noticeWorth a0 s14.1 (S5_X0_film a0 a1 I J s14) s14.2.2)
def S9_X0_film (a0 : Int32) (a1 : Int32) (I : SI) (J : SJ) (s14 : Int32 × SI × SJ) : SI := putF (S5_X0_film a0 a1 I J s14) 110 6 s14.1 (F_X5_wayIn 105 a0 s14.1 s14.2.1 s14.2.2)
def B_X0_film_w14 (a0 : Int32) (a1 : Int32) (I : SI) (J : SJ) (s14 : Int32 × SI × SJ) : (Int32 × SI × SJ) ⊕ (Int32 × SI × SJ) := if (s14.2.1 3 1) ≤ s14.1 then .inr (s14.1, s14.2.1, s14.2.2) else (if a1 = 0 then (if (F_X5_wayIn 105 a0 s14.1 s14.2.1 s14.2.2) < 0 then .inl ((s14.1 + 1), s14.2.1, s14.2.2) else (if (atF (s14.2.1 110) 6 s14.1) < 0 then (if (0 : Int32) ≤ (atF (s14.2.1 110) 6 s14.1) then .inl ((s14.1 + 1), s14.2.1, s14.2.2) else (if (atF (s14.2.1 114) 6 s14.1) < 50 then (if (S1_X0_film a0 a1 I J s14) = 0 then .inl ((s14.1 + 1), s14.2.1, (FJ_X0_noticeWorth a0 s14.1 s14.2.1 s14.2.2)) else .inl ((s14.1 + 1), (putF s14.2.1 110 6 s14.1 (F_X5_wayIn 105 a0 s14.1 s14.2.1 s14.2.2)), (FJ_X0_noticeWorth a0 s14.1 s14.2.1 s14.2.2))) else (if (S2_X0_film a0 a1 I J s14) = 0 then .inl ((s14.1 + 1), s14.2.1, (FJ_X0_noticeWorth a0 s14.1 s14.2.1 s14.2.2)) else .inl ((s14.1 + 1), (putF s14.2.1 110 6 s14.1 (F_X5_wayIn 105 a0 s14.1 s14.2.1 s14.2.2)), (FJ_X0_noticeWorth a0 s14.1 s14.2.1 s14.2.2))))) else (if (F_X5_wayIn 105 a0 s14.1 s14.2.1 s14.2.2) = (atF (s14.2.1 110) 6 s14.1) then (if (0 : Int32) ≤ (atF (s14.2.1 110) 6 s14.1) then .inl ((s14.1 + 1), s14.2.1, s14.2.2) else (if (atF (s14.2.1 114) 6 s14.1) < 50 then (if (S3_X0_film a0 a1 I J s14) = 0 then .inl ((s14.1 + 1), s14.2.1, (FJ_X0_noticeWorth a0 s14.1 s14.2.1 s14.2.2)) else .inl ((s14.1 + 1), (putF s14.2.1 110 6 s14.1 (F_X5_wayIn 105 a0 s14.1 s14.2.1 s14.2.2)), (FJ_X0_noticeWorth a0 s14.1 s14.2.1 s14.2.2))) else (if (S4_X0_film a0 a1 I J s14) = 0 then .inl ((s14.1 + 1), s14.2.1, (FJ_X0_noticeWorth a0 s14.1 s14.2.1 s14.2.2)) else .inl ((s14.1 + 1), (putF s14.2.1 110 6 s14.1 (F_X5_wayIn 105 a0 s14.1 s14.2.1 s14.2.2)), (FJ_X0_noticeWorth a0 s14.1 s14.2.1 s14.2.2))))) else (if (0 : Int32) ≤ (atF (s14.2.1 110) 6 s14.1) then .inl ((s14.1 + 1), (S5_X0_film a0 a1 I J s14), s14.2.2) else (if (atF ((S5_X0_film a0 a1 I J s14) 114) 6 s14.1) < 50 then (if (S6_X0_film a0 a1 I J s14) = 0 then .inl ((s14.1 + 1), (S5_X0_film a0 a1 I J s14), (FJ_X0_noticeWorth a0 s14.1 (S5_X0_film a0 a1 I J s14) s14.2.2)) else .inl ((s14.1 + 1), (S7_X0_film a0 a1 I J s14), (FJ_X0_noticeWorth a0 s14.1 (S5_X0_film a0 a1 I J s14) s14.2.2))) else (if (S8_X0_film a0 a1 I J s14) = 0 then .inl ((s14.1 + 1), (S5_X0_film a0 a1 I J s14), (FJ_X0_noticeWorth a0 s14.1 (S5_X0_film a0 a1 I J s14) s14.2.2)) else .inl ((s14.1 + 1), (S9_X0_film a0 a1 I J s14), (FJ_X0_noticeWorth a0 s14.1 (S5_X0_film a0 a1 I J s14) s14.2.2)))))))) else .inr (s14.1, s14.2.1, s14.2.2))
def F_X0_film_w14 (a0 : Int32) (a1 : Int32) (I : SI) (J : SJ) (s0 : Int32 × SI × SJ) : Int32 × SI × SJ := (itW (B_X0_film_w14 a0 a1 I J) 800 s0).getD s0
def FI_X0_film (a0 : Int32) (a1 : Int32) (I : SI) (J : SJ) : SI := (F_X0_film_w14 a0 a1 I J (0, (putF I 107 8 a0 1), J)).2.1
def FJ_X0_film (a0 : Int32) (a1 : Int32) (I : SI) (J : SJ) : SJ := (F_X0_film_w14 a0 a1 I J (0, (putF I 107 8 a0 1), J)).2.2
def H_X0_film (a0 : Int32) (a1 : Int32) (I : SI) (J : SJ) : Prop := ((itW (B_X0_film_w14 a0 a1 I J) 800 (0, (putF I 107 8 a0 1), J)).isSome = true) ∧ (∀ (n14 : Nat) (s14 : Int32 × SI × SJ), wN (B_X0_film_w14 a0 a1 I J) n14 (0, (putF I 107 8 a0 1), J) = some s14 → ¬ ((s14.2.1 3 1) ≤ s14.1) → a1 = 0 → ¬ ((F_X5_wayIn 105 a0 s14.1 s14.2.1 s14.2.2) < 0) → (atF (s14.2.1 110) 6 s14.1) < 0 → ¬ ((0 : Int32) ≤ (atF (s14.2.1 110) 6 s14.1)) → H_X0_noticeWorth a0 s14.1 s14.2.1 s14.2.2) ∧ (∀ (n14 : Nat) (s14 : Int32 × SI × SJ), wN (B_X0_film_w14 a0 a1 I J) n14 (0, (putF I 107 8 a0 1), J) = some s14 → ¬ ((s14.2.1 3 1) ≤ s14.1) → a1 = 0 → ¬ ((F_X5_wayIn 105 a0 s14.1 s14.2.1 s14.2.2) < 0) → (atF (s14.2.1 110) 6 s14.1) < 0 → ¬ ((0 : Int32) ≤ (atF (s14.2.1 110) 6 s14.1)) → (atF (s14.2.1 114) 6 s14.1) < 50 → H_X0_isSo (F_X0_noticeWorth a0 s14.1 s14.2.1 s14.2.2) 0 s14.2.1 (FJ_X0_noticeWorth a0 s14.1 s14.2.1 s14.2.2)) ∧ (∀ (n14 : Nat) (s14 : Int32 × SI × SJ), wN (B_X0_film_w14 a0 a1 I J) n14 (0, (putF I 107 8 a0 1), J) = some s14 → ¬ ((s14.2.1 3 1) ≤ s14.1) → a1 = 0 → ¬ ((F_X5_wayIn 105 a0 s14.1 s14.2.1 s14.2.2) < 0) → (atF (s14.2.1 110) 6 s14.1) < 0 → ¬ ((0 : Int32) ≤ (atF (s14.2.1 110) 6 s14.1)) → ¬ ((atF (s14.2.1 114) 6 s14.1) < 50) → H_X0_isSo (F_X0_noticeWorth a0 s14.1 s14.2.1 s14.2.2) 1 s14.2.1 (FJ_X0_noticeWorth a0 s14.1 s14.2.1 s14.2.2)) ∧ (∀ (n14 : Nat) (s14 : Int32 × SI × SJ), wN (B_X0_film_w14 a0 a1 I J) n14 (0, (putF I 107 8 a0 1), J) = some s14 → ¬ ((s14.2.1 3 1) ≤ s14.1) → a1 = 0 → ¬ ((F_X5_wayIn 105 a0 s14.1 s14.2.1 s14.2.2) < 0) → ¬ ((atF (s14.2.1 110) 6 s14.1) < 0) → (F_X5_wayIn 105 a0 s14.1 s14.2.1 s14.2.2) = (atF (s14.2.1 110) 6 s14.1) → ¬ ((0 : Int32) ≤ (atF (s14.2.1 110) 6 s14.1)) → H_X0_noticeWorth a0 s14.1 s14.2.1 s14.2.2) ∧ (∀ (n14 : Nat) (s14 : Int32 × SI × SJ), wN (B_X0_film_w14 a0 a1 I J) n14 (0, (putF I 107 8 a0 1), J) = some s14 → ¬ ((s14.2.1 3 1) ≤ s14.1) → a1 = 0 → ¬ ((F_X5_wayIn 105 a0 s14.1 s14.2.1 s14.2.2) < 0) → ¬ ((atF (s14.2.1 110) 6 s14.1) < 0) → (F_X5_wayIn 105 a0 s14.1 s14.2.1 s14.2.2) = (atF (s14.2.1 110) 6 s14.1) → ¬ ((0 : Int32) ≤ (atF (s14.2.1 110) 6 s14.1)) → (atF (s14.2.1 114) 6 s14.1) < 50 → H_X0_isSo (F_X0_noticeWorth a0 s14.1 s14.2.1 s14.2.2) 0 s14.2.1 (FJ_X0_noticeWorth a0 s14.1 s14.2.1 s14.2.2)) ∧ (∀ (n14 : Nat) (s14 : Int32 × SI × SJ), wN (B_X0_film_w14 a0 a1 I J) n14 (0, (putF I 107 8 a0 1), J) = some s14 → ¬ ((s14.2.1 3 1) ≤ s14.1) → a1 = 0 → ¬ ((F_X5_wayIn 105 a0 s14.1 s14.2.1 s14.2.2) < 0) → ¬ ((atF (s14.2.1 110) 6 s14.1) < 0) → (F_X5_wayIn 105 a0 s14.1 s14.2.1 s14.2.2) = (atF (s14.2.1 110) 6 s14.1) → ¬ ((0 : Int32) ≤ (atF (s14.2.1 110) 6 s14.1)) → ¬ ((atF (s14.2.1 114) 6 s14.1) < 50) → H_X0_isSo (F_X0_noticeWorth a0 s14.1 s14.2.1 s14.2.2) 1 s14.2.1 (FJ_X0_noticeWorth a0 s14.1 s14.2.1 s14.2.2)) ∧ (∀ (n14 : Nat) (s14 : Int32 × SI × SJ), wN (B_X0_film_w14 a0 a1 I J) n14 (0, (putF I 107 8 a0 1), J) = some s14 → ¬ ((s14.2.1 3 1) ≤ s14.1) → a1 = 0 → ¬ ((F_X5_wayIn 105 a0 s14.1 s14.2.1 s14.2.2) < 0) → ¬ ((atF (s14.2.1 110) 6 s14.1) < 0) → ¬ ((F_X5_wayIn 105 a0 s14.1 s14.2.1 s14.2.2) = (atF (s14.2.1 110) 6 s14.1)) → ¬ ((0 : Int32) ≤ (atF (s14.2.1 110) 6 s14.1)) → H_X0_noticeWorth a0 s14.1 (S5_X0_film a0 a1 I J s14) s14.2.2) ∧ (∀ (n14 : Nat) (s14 : Int32 × SI × SJ), wN (B_X0_film_w14 a0 a1 I J) n14 (0, (putF I 107 8 a0 1), J) = some s14 → ¬ ((s14.2.1 3 1) ≤ s14.1) → a1 = 0 → ¬ ((F_X5_wayIn 105 a0 s14.1 s14.2.1 s14.2.2) < 0) → ¬ ((atF (s14.2.1 110) 6 s14.1) < 0) → ¬ ((F_X5_wayIn 105 a0 s14.1 s14.2.1 s14.2.2) = (atF (s14.2.1 110) 6 s14.1)) → ¬ ((0 : Int32) ≤ (atF (s14.2.1 110) 6 s14.1)) → (atF ((S5_X0_film a0 a1 I J s14) 114) 6 s14.1) < 50 → H_X0_isSo (F_X0_noticeWorth a0 s14.1 (S5_X0_film a0 a1 I J s14) s14.2.2) 0 (S5_X0_film a0 a1 I J s14) (FJ_X0_noticeWorth a0 s14.1 (S5_X0_film a0 a1 I J s14) s14.2.2)) ∧ (∀ (n14 : Nat) (s14 : Int32 × SI × SJ), wN (B_X0_film_w14 a0 a1 I J) n14 (0, (putF I 107 8 a0 1), J) = some s14 → ¬ ((s14.2.1 3 1) ≤ s14.1) → a1 = 0 → ¬ ((F_X5_wayIn 105 a0 s14.1 s14.2.1 s14.2.2) < 0) → ¬ ((atF (s14.2.1 110) 6 s14.1) < 0) → ¬ ((F_X5_wayIn 105 a0 s14.1 s14.2.1 s14.2.2) = (atF (s14.2.1 110) 6 s14.1)) → ¬ ((0 : Int32) ≤ (atF (s14.2.1 110) 6 s14.1)) → ¬ ((atF ((S5_X0_film a0 a1 I J s14) 114) 6 s14.1) < 50) → H_X0_isSo (F_X0_noticeWorth a0 s14.1 (S5_X0_film a0 a1 I J s14) s14.2.2) 1 (S5_X0_film a0 a1 I J s14) (FJ_X0_noticeWorth a0 s14.1 (S5_X0_film a0 a1 I J s14) s14.2.2))
set_option maxHeartbeats 3280000 in
set_option maxRecDepth 40000 in
theorem c_X0_film {I : SI} {J : SJ} {R : SR} {n g : Nat} (ro : RO R) (hnn : nK ≤ n) (a0 : Int32) (a1 : Int32)  (hp : H_X0_film a0 a1 I J) : MM 4 0 0 mX0_film [.ref 104, .int a0, .int a1] I J R n g (Pd none (FI_X0_film a0 a1 I J) (FJ_X0_film a0 a1 I J) R n g) := by
  refine MM.of (by decide) (Nat.le_of_ble_eq_true rfl) fun K ok fin => ?_
  show WK K 0 0 0 [(0, .ref 104), (1, .int a0), (2, .int a1)] [] I J R n g
  obtain ⟨hp1, hp2, hp3, hp4, hp5, hp6, hp7, hp8, hp9, hp10⟩ := hp
  refine w_aload_n ok dX0_film_0 0 rfl ?_
  refine w_getR ok dX0_film_1 (fX0_12 rfl) (congrArg Prod.fst s_104) rfl (r_104_0 ro) (ltK hnn (by decide)) ?_
  refine w_getR ok dX0_film_4 (fX0_83 rfl) (congrArg Prod.fst s_105) rfl (r_105_8 ro) (ltK hnn (by decide)) ?_
  refine w_iload_n ok dX0_film_7 1 rfl ?_
  refine w_iconst (v := 1) ok dX0_film_8 (by decide) ?_
  refine w_cS (As := [.ref 107, .int a0, .int 1]) ok dX0_film_9 iX11_put (lX0_131 rfl) (c_put s_107 (ltK hnn (by decide)) a0 1) (by decide) rfl (Nat.le_of_ble_eq_true rfl) ?_
  refine w_iconst (v := 0) ok dX0_film_12 (by decide) ?_
  refine w_istore_n ok dX0_film_13 rfl (by decide) rfl ?_
  refine w_loc [1, 2, 3, 0] rfl ?_
  refine loop_w (fun (s14 : Int32 × SI × SJ) => WK K 0 0 14 [(0, .ref 104), (1, .int a0), (2, .int a1), (3, .int s14.1)] [] s14.2.1 s14.2.2 R n g) (fun (s14 : Int32 × SI × SJ) => WK K 0 0 163 [(0, .ref 104), (1, .int a0), (2, .int a1), (3, .int s14.1)] [] s14.2.1 s14.2.2 R n g) (B_X0_film_w14 a0 a1 I J) 800 (0, (putF I 107 8 a0 1), J) (F_X0_film_w14 a0 a1 I J (0, (putF I 107 8 a0 1), J)) (itW_some (hp1)) ?_ ?_
  · show WK K 0 0 163 [(0, .ref 104), (1, .int a0), (2, .int a1), (3, .int ((F_X0_film_w14 a0 a1 I J (0, (putF I 107 8 a0 1), J)).1))] [] ((F_X0_film_w14 a0 a1 I J (0, (putF I 107 8 a0 1), J)).2.1) ((F_X0_film_w14 a0 a1 I J (0, (putF I 107 8 a0 1), J)).2.2) R n g
    exact w_vret ok fin dX0_film_163 rfl (by unfold FI_X0_film FJ_X0_film; exact Pd.i)
  · intro n14 s14 hs14 kc14 kx14
    show WK K 0 0 14 [(0, .ref 104), (1, .int a0), (2, .int a1), (3, .int s14.1)] [] s14.2.1 s14.2.2 R n g
    refine w_iload_n ok dX0_film_14 3 rfl ?_
    refine w_aload_n ok dX0_film_15 0 rfl ?_
    refine w_getR ok dX0_film_16 (fX0_40 rfl) (congrArg Prod.fst s_104) rfl (r_104_3 ro) (ltK hnn (by decide)) ?_
    refine w_getR ok dX0_film_19 (fX0_48 rfl) (congrArg Prod.fst s_2) rfl (r_2_0 ro) (ltK hnn (by decide)) ?_
    refine w_getI ok dX0_film_22 (fX0_80 rfl) (congrArg Prod.fst s_3) rfl (ltK hnn (by decide)) ?_
    refine w_icmp_ge (tgt := 163) ok dX0_film_25 (by decide) (fun c1 => ?_) (fun c1 => ?_)
    · skip
      have eB : B_X0_film_w14 a0 a1 I J s14 = .inr (s14.1, s14.2.1, s14.2.2) := by
        unfold B_X0_film_w14; exact (if_pos c1).trans (rfl)
      refine w_loc [0, 1, 2, 3] rfl ?_
      have kk := kx14 _ eB
      exact kk
    · skip
      refine w_iload_n ok dX0_film_28 2 rfl ?_
      refine w_if_ne (tgt := 163) ok dX0_film_29 (by decide) (fun c2 => ?_) (fun c2 => ?_)
      · skip
        have eB : B_X0_film_w14 a0 a1 I J s14 = .inr (s14.1, s14.2.1, s14.2.2) := by
          unfold B_X0_film_w14; exact (if_neg c1).trans ((if_neg c2).trans (rfl))
        refine w_loc [0, 1, 2, 3] rfl ?_
        have kk := kx14 _ eB
        exact kk
      · skip
        refine w_aload_n ok dX0_film_32 0 rfl ?_
        refine w_getR ok dX0_film_33 (fX0_12 rfl) (congrArg Prod.fst s_104) rfl (r_104_0 ro) (ltK hnn (by decide)) ?_
        refine w_iload_n ok dX0_film_36 1 rfl ?_
        refine w_iload_n ok dX0_film_37 3 rfl ?_
        refine w_cV (As := [.int a0, .int s14.1]) ok dX0_film_38 iX5_wayIn (lX0_135 rfl) (rcv cls5 (congrArg Prod.fst s_105)) (ltK hnn (by decide)) (c_X5_wayIn ro hnn a0 s14.1 isSc_105) (by decide) rfl (Nat.le_of_ble_eq_true rfl) ?_
        refine w_istore ok dX0_film_41 (by decide) rfl ?_
        refine w_aload_n ok dX0_film_43 1 rfl ?_
        refine w_getR ok dX0_film_44 (fX0_12 rfl) (congrArg Prod.fst s_104) rfl (r_104_0 ro) (ltK hnn (by decide)) ?_
        refine w_getR ok dX0_film_47 (fX0_139 rfl) (congrArg Prod.fst s_105) rfl (r_105_11 ro) (ltK hnn (by decide)) ?_
        refine w_iload_n ok dX0_film_50 4 rfl ?_
        refine w_cS (As := [.ref 110, .int s14.1]) ok dX0_film_51 iX11_at (lX0_86 rfl) (c_at s_110 (ltK hnn (by decide)) s14.1) (by decide) rfl (Nat.le_of_ble_eq_true rfl) ?_
        refine w_istore ok dX0_film_54 (by decide) rfl ?_
        refine w_iload ok dX0_film_56 1 rfl ?_
        refine w_if_lt (tgt := 104) ok dX0_film_58 (by decide) (fun c3 => ?_) (fun c3 => ?_)
        · skip
          refine w_iload ok dX0_film_104 1 rfl ?_
          refine w_if_lt (tgt := 157) ok dX0_film_106 (by decide) (fun _ => ?_) (fun h => absurd c3 h)
          refine w_iinc (v := s14.1 + 1) ok dX0_film_157 5 rfl rfl (by decide) rfl ?_
          refine w_goto (tgt := 14) ok dX0_film_160 (by decide) ?_
          have eB : B_X0_film_w14 a0 a1 I J s14 = .inl ((s14.1 + 1), s14.2.1, s14.2.2) := by
            unfold B_X0_film_w14; exact (if_neg c1).trans ((if_pos c2).trans ((if_pos c3).trans (rfl)))
          refine w_loc [3, 4, 5, 0] rfl ?_
          have kk := kc14 _ eB
          exact kk
        · skip
          refine w_iload ok dX0_film_61 0 rfl ?_
          refine w_if_lt (tgt := 104) ok dX0_film_63 (by decide) (fun c4 => ?_) (fun c4 => ?_)
          · skip
            refine w_iload ok dX0_film_104 1 rfl ?_
            refine w_if_lt (tgt := 157) ok dX0_film_106 (by decide) (fun h => absurd h c3) (fun _ => ?_)
            refine w_iload ok dX0_film_109 0 rfl ?_
            refine w_if_ge (tgt := 157) ok dX0_film_111 (by decide) (fun c5 => ?_) (fun c5 => ?_)
            · skip
              refine w_iinc (v := s14.1 + 1) ok dX0_film_157 5 rfl rfl (by decide) rfl ?_
              refine w_goto (tgt := 14) ok dX0_film_160 (by decide) ?_
              have eB : B_X0_film_w14 a0 a1 I J s14 = .inl ((s14.1 + 1), s14.2.1, s14.2.2) := by
                unfold B_X0_film_w14; exact (if_neg c1).trans ((if_pos c2).trans ((if_neg c3).trans ((if_pos c4).trans ((if_pos c5).trans (rfl)))))
              refine w_loc [3, 4, 5, 0] rfl ?_
              have kk := kc14 _ eB
              exact kk
            · skip
              refine w_aload_n ok dX0_film_114 2 rfl ?_
              refine w_iload_n ok dX0_film_115 3 rfl ?_
              refine w_iload_n ok dX0_film_116 5 rfl ?_
              refine w_cV (As := [.int a0, .int s14.1]) ok dX0_film_117 iX0_noticeWorth (lX0_148 rfl) (rcv cls0 (congrArg Prod.fst s_104)) (ltK hnn (by decide)) (c_X0_noticeWorth ro hnn a0 s14.1  (hp2 n14 s14 hs14 c1 c2 c3 c4 c5)) (by decide) rfl (Nat.le_of_ble_eq_true rfl) ?_
              refine w_aload_n ok dX0_film_120 2 rfl ?_
              refine w_getR ok dX0_film_121 (fX0_18 rfl) (congrArg Prod.fst s_104) rfl (r_104_1 ro) (ltK hnn (by decide)) ?_
              refine w_iload_n ok dX0_film_124 5 rfl ?_
              refine w_cS (As := [.ref 114, .int s14.1]) ok dX0_film_125 iX11_at (lX0_86 rfl) (c_at s_114 (ltK hnn (by decide)) s14.1) (by decide) rfl (Nat.le_of_ble_eq_true rfl) ?_
              show WK K 0 0 128 [(5, .int (atF (s14.2.1 110) 6 s14.1)), (4, .int (F_X5_wayIn 105 a0 s14.1 s14.2.1 s14.2.2)), (0, .ref 104), (1, .int a0), (2, .int a1), (3, .int s14.1)] [.int (atF (s14.2.1 114) 6 s14.1), .long (F_X0_noticeWorth a0 s14.1 s14.2.1 s14.2.2)] s14.2.1 (FJ_X0_noticeWorth a0 s14.1 s14.2.1 s14.2.2) R n g
              refine w_bipush (v := 50) ok dX0_film_128 (by decide) ?_
              refine w_icmp_lt (tgt := 137) ok dX0_film_130 (by decide) (fun c6 => ?_) (fun c6 => ?_)
              · skip
                refine w_iconst (v := 0) ok dX0_film_137 (by decide) ?_
                refine w_cS (As := [.long (F_X0_noticeWorth a0 s14.1 s14.2.1 s14.2.2), .int 0]) ok dX0_film_138 iX0_isSo (lX0_152 rfl) (c_X0_isSo ro hnn (F_X0_noticeWorth a0 s14.1 s14.2.1 s14.2.2) 0  (hp3 n14 s14 hs14 c1 c2 c3 c4 c5 c6)) (by decide) rfl (Nat.le_of_ble_eq_true rfl) ?_
                show WK K 0 0 141 [(5, .int (atF (s14.2.1 110) 6 s14.1)), (4, .int (F_X5_wayIn 105 a0 s14.1 s14.2.1 s14.2.2)), (0, .ref 104), (1, .int a0), (2, .int a1), (3, .int s14.1)] [.int (S1_X0_film a0 a1 I J s14)] s14.2.1 (FJ_X0_noticeWorth a0 s14.1 s14.2.1 s14.2.2) R n g
                refine w_if_eq (tgt := 157) ok dX0_film_141 (by decide) (fun c7 => ?_) (fun c7 => ?_)
                · skip
                  refine w_iinc (v := s14.1 + 1) ok dX0_film_157 5 rfl rfl (by decide) rfl ?_
                  refine w_goto (tgt := 14) ok dX0_film_160 (by decide) ?_
                  have eB : B_X0_film_w14 a0 a1 I J s14 = .inl ((s14.1 + 1), s14.2.1, (FJ_X0_noticeWorth a0 s14.1 s14.2.1 s14.2.2)) := by
                    unfold B_X0_film_w14; exact (if_neg c1).trans ((if_pos c2).trans ((if_neg c3).trans ((if_pos c4).trans ((if_neg c5).trans ((if_pos c6).trans ((if_pos c7).trans (rfl)))))))
                  refine w_loc [3, 4, 5, 0] rfl ?_
                  have kk := kc14 _ eB
                  exact kk
                · skip
                  refine w_aload_n ok dX0_film_144 2 rfl ?_
                  refine w_getR ok dX0_film_145 (fX0_12 rfl) (congrArg Prod.fst s_104) rfl (r_104_0 ro) (ltK hnn (by decide)) ?_
                  refine w_getR ok dX0_film_148 (fX0_139 rfl) (congrArg Prod.fst s_105) rfl (r_105_11 ro) (ltK hnn (by decide)) ?_
                  refine w_iload_n ok dX0_film_151 5 rfl ?_
                  refine w_iload ok dX0_film_152 1 rfl ?_
                  refine w_cS (As := [.ref 110, .int s14.1, .int (F_X5_wayIn 105 a0 s14.1 s14.2.1 s14.2.2)]) ok dX0_film_154 iX11_put (lX0_131 rfl) (c_put s_110 (ltK hnn (by decide)) s14.1 (F_X5_wayIn 105 a0 s14.1 s14.2.1 s14.2.2)) (by decide) rfl (Nat.le_of_ble_eq_true rfl) ?_
                  refine w_iinc (v := s14.1 + 1) ok dX0_film_157 5 rfl rfl (by decide) rfl ?_
                  refine w_goto (tgt := 14) ok dX0_film_160 (by decide) ?_
                  have eB : B_X0_film_w14 a0 a1 I J s14 = .inl ((s14.1 + 1), (putF s14.2.1 110 6 s14.1 (F_X5_wayIn 105 a0 s14.1 s14.2.1 s14.2.2)), (FJ_X0_noticeWorth a0 s14.1 s14.2.1 s14.2.2)) := by
                    unfold B_X0_film_w14; exact (if_neg c1).trans ((if_pos c2).trans ((if_neg c3).trans ((if_pos c4).trans ((if_neg c5).trans ((if_pos c6).trans ((if_neg c7).trans (rfl)))))))
                  refine w_loc [3, 4, 5, 0] rfl ?_
                  have kk := kc14 _ eB
                  exact kk
              · skip
                refine w_iconst (v := 1) ok dX0_film_133 (by decide) ?_
                refine w_goto (tgt := 138) ok dX0_film_134 (by decide) ?_
                refine w_cS (As := [.long (F_X0_noticeWorth a0 s14.1 s14.2.1 s14.2.2), .int 1]) ok dX0_film_138 iX0_isSo (lX0_152 rfl) (c_X0_isSo ro hnn (F_X0_noticeWorth a0 s14.1 s14.2.1 s14.2.2) 1  (hp4 n14 s14 hs14 c1 c2 c3 c4 c5 c6)) (by decide) rfl (Nat.le_of_ble_eq_true rfl) ?_
                show WK K 0 0 141 [(5, .int (atF (s14.2.1 110) 6 s14.1)), (4, .int (F_X5_wayIn 105 a0 s14.1 s14.2.1 s14.2.2)), (0, .ref 104), (1, .int a0), (2, .int a1), (3, .int s14.1)] [.int (S2_X0_film a0 a1 I J s14)] s14.2.1 (FJ_X0_noticeWorth a0 s14.1 s14.2.1 s14.2.2) R n g
                refine w_if_eq (tgt := 157) ok dX0_film_141 (by decide) (fun c8 => ?_) (fun c8 => ?_)
                · skip
                  refine w_iinc (v := s14.1 + 1) ok dX0_film_157 5 rfl rfl (by decide) rfl ?_
                  refine w_goto (tgt := 14) ok dX0_film_160 (by decide) ?_
                  have eB : B_X0_film_w14 a0 a1 I J s14 = .inl ((s14.1 + 1), s14.2.1, (FJ_X0_noticeWorth a0 s14.1 s14.2.1 s14.2.2)) := by
                    unfold B_X0_film_w14; exact (if_neg c1).trans ((if_pos c2).trans ((if_neg c3).trans ((if_pos c4).trans ((if_neg c5).trans ((if_neg c6).trans ((if_pos c8).trans (rfl)))))))
                  refine w_loc [3, 4, 5, 0] rfl ?_
                  have kk := kc14 _ eB
                  exact kk
                · skip
                  refine w_aload_n ok dX0_film_144 2 rfl ?_
                  refine w_getR ok dX0_film_145 (fX0_12 rfl) (congrArg Prod.fst s_104) rfl (r_104_0 ro) (ltK hnn (by decide)) ?_
                  refine w_getR ok dX0_film_148 (fX0_139 rfl) (congrArg Prod.fst s_105) rfl (r_105_11 ro) (ltK hnn (by decide)) ?_
                  refine w_iload_n ok dX0_film_151 5 rfl ?_
                  refine w_iload ok dX0_film_152 1 rfl ?_
                  refine w_cS (As := [.ref 110, .int s14.1, .int (F_X5_wayIn 105 a0 s14.1 s14.2.1 s14.2.2)]) ok dX0_film_154 iX11_put (lX0_131 rfl) (c_put s_110 (ltK hnn (by decide)) s14.1 (F_X5_wayIn 105 a0 s14.1 s14.2.1 s14.2.2)) (by decide) rfl (Nat.le_of_ble_eq_true rfl) ?_
                  refine w_iinc (v := s14.1 + 1) ok dX0_film_157 5 rfl rfl (by decide) rfl ?_
                  refine w_goto (tgt := 14) ok dX0_film_160 (by decide) ?_
                  have eB : B_X0_film_w14 a0 a1 I J s14 = .inl ((s14.1 + 1), (putF s14.2.1 110 6 s14.1 (F_X5_wayIn 105 a0 s14.1 s14.2.1 s14.2.2)), (FJ_X0_noticeWorth a0 s14.1 s14.2.1 s14.2.2)) := by
                    unfold B_X0_film_w14; exact (if_neg c1).trans ((if_pos c2).trans ((if_neg c3).trans ((if_pos c4).trans ((if_neg c5).trans ((if_neg c6).trans ((if_neg c8).trans (rfl)))))))
                  refine w_loc [3, 4, 5, 0] rfl ?_
                  have kk := kc14 _ eB
                  exact kk
          · skip
            refine w_iload ok dX0_film_66 1 rfl ?_
            refine w_iload ok dX0_film_68 0 rfl ?_
            refine w_icmp_eq (tgt := 104) ok dX0_film_70 (by decide) (fun c9 => ?_) (fun c9 => ?_)
            · skip
              refine w_iload ok dX0_film_104 1 rfl ?_
              refine w_if_lt (tgt := 157) ok dX0_film_106 (by decide) (fun h => absurd h c3) (fun _ => ?_)
              refine w_iload ok dX0_film_109 0 rfl ?_
              refine w_if_ge (tgt := 157) ok dX0_film_111 (by decide) (fun c10 => ?_) (fun c10 => ?_)
              · skip
                refine w_iinc (v := s14.1 + 1) ok dX0_film_157 5 rfl rfl (by decide) rfl ?_
                refine w_goto (tgt := 14) ok dX0_film_160 (by decide) ?_
                have eB : B_X0_film_w14 a0 a1 I J s14 = .inl ((s14.1 + 1), s14.2.1, s14.2.2) := by
                  unfold B_X0_film_w14; exact (if_neg c1).trans ((if_pos c2).trans ((if_neg c3).trans ((if_neg c4).trans ((if_pos c9).trans ((if_pos c10).trans (rfl))))))
                refine w_loc [3, 4, 5, 0] rfl ?_
                have kk := kc14 _ eB
                exact kk
              · skip
                refine w_aload_n ok dX0_film_114 2 rfl ?_
                refine w_iload_n ok dX0_film_115 3 rfl ?_
                refine w_iload_n ok dX0_film_116 5 rfl ?_
                refine w_cV (As := [.int a0, .int s14.1]) ok dX0_film_117 iX0_noticeWorth (lX0_148 rfl) (rcv cls0 (congrArg Prod.fst s_104)) (ltK hnn (by decide)) (c_X0_noticeWorth ro hnn a0 s14.1  (hp5 n14 s14 hs14 c1 c2 c3 c4 c9 c10)) (by decide) rfl (Nat.le_of_ble_eq_true rfl) ?_
                refine w_aload_n ok dX0_film_120 2 rfl ?_
                refine w_getR ok dX0_film_121 (fX0_18 rfl) (congrArg Prod.fst s_104) rfl (r_104_1 ro) (ltK hnn (by decide)) ?_
                refine w_iload_n ok dX0_film_124 5 rfl ?_
                refine w_cS (As := [.ref 114, .int s14.1]) ok dX0_film_125 iX11_at (lX0_86 rfl) (c_at s_114 (ltK hnn (by decide)) s14.1) (by decide) rfl (Nat.le_of_ble_eq_true rfl) ?_
                show WK K 0 0 128 [(5, .int (atF (s14.2.1 110) 6 s14.1)), (4, .int (F_X5_wayIn 105 a0 s14.1 s14.2.1 s14.2.2)), (0, .ref 104), (1, .int a0), (2, .int a1), (3, .int s14.1)] [.int (atF (s14.2.1 114) 6 s14.1), .long (F_X0_noticeWorth a0 s14.1 s14.2.1 s14.2.2)] s14.2.1 (FJ_X0_noticeWorth a0 s14.1 s14.2.1 s14.2.2) R n g
                refine w_bipush (v := 50) ok dX0_film_128 (by decide) ?_
                refine w_icmp_lt (tgt := 137) ok dX0_film_130 (by decide) (fun c11 => ?_) (fun c11 => ?_)
                · skip
                  refine w_iconst (v := 0) ok dX0_film_137 (by decide) ?_
                  refine w_cS (As := [.long (F_X0_noticeWorth a0 s14.1 s14.2.1 s14.2.2), .int 0]) ok dX0_film_138 iX0_isSo (lX0_152 rfl) (c_X0_isSo ro hnn (F_X0_noticeWorth a0 s14.1 s14.2.1 s14.2.2) 0  (hp6 n14 s14 hs14 c1 c2 c3 c4 c9 c10 c11)) (by decide) rfl (Nat.le_of_ble_eq_true rfl) ?_
                  show WK K 0 0 141 [(5, .int (atF (s14.2.1 110) 6 s14.1)), (4, .int (F_X5_wayIn 105 a0 s14.1 s14.2.1 s14.2.2)), (0, .ref 104), (1, .int a0), (2, .int a1), (3, .int s14.1)] [.int (S3_X0_film a0 a1 I J s14)] s14.2.1 (FJ_X0_noticeWorth a0 s14.1 s14.2.1 s14.2.2) R n g
                  refine w_if_eq (tgt := 157) ok dX0_film_141 (by decide) (fun c12 => ?_) (fun c12 => ?_)
                  · skip
                    refine w_iinc (v := s14.1 + 1) ok dX0_film_157 5 rfl rfl (by decide) rfl ?_
                    refine w_goto (tgt := 14) ok dX0_film_160 (by decide) ?_
                    have eB : B_X0_film_w14 a0 a1 I J s14 = .inl ((s14.1 + 1), s14.2.1, (FJ_X0_noticeWorth a0 s14.1 s14.2.1 s14.2.2)) := by
                      unfold B_X0_film_w14; exact (if_neg c1).trans ((if_pos c2).trans ((if_neg c3).trans ((if_neg c4).trans ((if_pos c9).trans ((if_neg c10).trans ((if_pos c11).trans ((if_pos c12).trans (rfl))))))))
                    refine w_loc [3, 4, 5, 0] rfl ?_
                    have kk := kc14 _ eB
                    exact kk
                  · skip
                    refine w_aload_n ok dX0_film_144 2 rfl ?_
                    refine w_getR ok dX0_film_145 (fX0_12 rfl) (congrArg Prod.fst s_104) rfl (r_104_0 ro) (ltK hnn (by decide)) ?_
                    refine w_getR ok dX0_film_148 (fX0_139 rfl) (congrArg Prod.fst s_105) rfl (r_105_11 ro) (ltK hnn (by decide)) ?_
                    refine w_iload_n ok dX0_film_151 5 rfl ?_
                    refine w_iload ok dX0_film_152 1 rfl ?_
                    refine w_cS (As := [.ref 110, .int s14.1, .int (F_X5_wayIn 105 a0 s14.1 s14.2.1 s14.2.2)]) ok dX0_film_154 iX11_put (lX0_131 rfl) (c_put s_110 (ltK hnn (by decide)) s14.1 (F_X5_wayIn 105 a0 s14.1 s14.2.1 s14.2.2)) (by decide) rfl (Nat.le_of_ble_eq_true rfl) ?_
                    refine w_iinc (v := s14.1 + 1) ok dX0_film_157 5 rfl rfl (by decide) rfl ?_
                    refine w_goto (tgt := 14) ok dX0_film_160 (by decide) ?_
                    have eB : B_X0_film_w14 a0 a1 I J s14 = .inl ((s14.1 + 1), (putF s14.2.1 110 6 s14.1 (F_X5_wayIn 105 a0 s14.1 s14.2.1 s14.2.2)), (FJ_X0_noticeWorth a0 s14.1 s14.2.1 s14.2.2)) := by
                      unfold B_X0_film_w14; exact (if_neg c1).trans ((if_pos c2).trans ((if_neg c3).trans ((if_neg c4).trans ((if_pos c9).trans ((if_neg c10).trans ((if_pos c11).trans ((if_neg c12).trans (rfl))))))))
                    refine w_loc [3, 4, 5, 0] rfl ?_
                    have kk := kc14 _ eB
                    exact kk
                · skip
                  refine w_iconst (v := 1) ok dX0_film_133 (by decide) ?_
                  refine w_goto (tgt := 138) ok dX0_film_134 (by decide) ?_
                  refine w_cS (As := [.long (F_X0_noticeWorth a0 s14.1 s14.2.1 s14.2.2), .int 1]) ok dX0_film_138 iX0_isSo (lX0_152 rfl) (c_X0_isSo ro hnn (F_X0_noticeWorth a0 s14.1 s14.2.1 s14.2.2) 1  (hp7 n14 s14 hs14 c1 c2 c3 c4 c9 c10 c11)) (by decide) rfl (Nat.le_of_ble_eq_true rfl) ?_
                  show WK K 0 0 141 [(5, .int (atF (s14.2.1 110) 6 s14.1)), (4, .int (F_X5_wayIn 105 a0 s14.1 s14.2.1 s14.2.2)), (0, .ref 104), (1, .int a0), (2, .int a1), (3, .int s14.1)] [.int (S4_X0_film a0 a1 I J s14)] s14.2.1 (FJ_X0_noticeWorth a0 s14.1 s14.2.1 s14.2.2) R n g
                  refine w_if_eq (tgt := 157) ok dX0_film_141 (by decide) (fun c13 => ?_) (fun c13 => ?_)
                  · skip
                    refine w_iinc (v := s14.1 + 1) ok dX0_film_157 5 rfl rfl (by decide) rfl ?_
                    refine w_goto (tgt := 14) ok dX0_film_160 (by decide) ?_
                    have eB : B_X0_film_w14 a0 a1 I J s14 = .inl ((s14.1 + 1), s14.2.1, (FJ_X0_noticeWorth a0 s14.1 s14.2.1 s14.2.2)) := by
                      unfold B_X0_film_w14; exact (if_neg c1).trans ((if_pos c2).trans ((if_neg c3).trans ((if_neg c4).trans ((if_pos c9).trans ((if_neg c10).trans ((if_neg c11).trans ((if_pos c13).trans (rfl))))))))
                    refine w_loc [3, 4, 5, 0] rfl ?_
                    have kk := kc14 _ eB
                    exact kk
                  · skip
                    refine w_aload_n ok dX0_film_144 2 rfl ?_
                    refine w_getR ok dX0_film_145 (fX0_12 rfl) (congrArg Prod.fst s_104) rfl (r_104_0 ro) (ltK hnn (by decide)) ?_
                    refine w_getR ok dX0_film_148 (fX0_139 rfl) (congrArg Prod.fst s_105) rfl (r_105_11 ro) (ltK hnn (by decide)) ?_
                    refine w_iload_n ok dX0_film_151 5 rfl ?_
                    refine w_iload ok dX0_film_152 1 rfl ?_
                    refine w_cS (As := [.ref 110, .int s14.1, .int (F_X5_wayIn 105 a0 s14.1 s14.2.1 s14.2.2)]) ok dX0_film_154 iX11_put (lX0_131 rfl) (c_put s_110 (ltK hnn (by decide)) s14.1 (F_X5_wayIn 105 a0 s14.1 s14.2.1 s14.2.2)) (by decide) rfl (Nat.le_of_ble_eq_true rfl) ?_
                    refine w_iinc (v := s14.1 + 1) ok dX0_film_157 5 rfl rfl (by decide) rfl ?_
                    refine w_goto (tgt := 14) ok dX0_film_160 (by decide) ?_
                    have eB : B_X0_film_w14 a0 a1 I J s14 = .inl ((s14.1 + 1), (putF s14.2.1 110 6 s14.1 (F_X5_wayIn 105 a0 s14.1 s14.2.1 s14.2.2)), (FJ_X0_noticeWorth a0 s14.1 s14.2.1 s14.2.2)) := by
                      unfold B_X0_film_w14; exact (if_neg c1).trans ((if_pos c2).trans ((if_neg c3).trans ((if_neg c4).trans ((if_pos c9).trans ((if_neg c10).trans ((if_neg c11).trans ((if_neg c13).trans (rfl))))))))
                    refine w_loc [3, 4, 5, 0] rfl ?_
                    have kk := kc14 _ eB
                    exact kk
            · skip
              refine w_aload_n ok dX0_film_73 2 rfl ?_
              refine w_getR ok dX0_film_74 (fX0_12 rfl) (congrArg Prod.fst s_104) rfl (r_104_0 ro) (ltK hnn (by decide)) ?_
              refine w_getR ok dX0_film_77 (fX0_142 rfl) (congrArg Prod.fst s_105) rfl (r_105_10 ro) (ltK hnn (by decide)) ?_
              refine w_iload_n ok dX0_film_80 3 rfl ?_
              refine w_bipush (v := 6) ok dX0_film_81 (by decide) ?_
              refine w_imul ok dX0_film_83 ?_
              refine w_iload_n ok dX0_film_84 5 rfl ?_
              refine w_iadd ok dX0_film_85 ?_
              refine w_iload ok dX0_film_86 0 rfl ?_
              refine w_cS (As := [.ref 109, .int ((a0 * 6) + s14.1), .int (atF (s14.2.1 110) 6 s14.1)]) ok dX0_film_88 iX11_put (lX0_131 rfl) (c_put s_109 (ltK hnn (by decide)) ((a0 * 6) + s14.1) (atF (s14.2.1 110) 6 s14.1)) (by decide) rfl (Nat.le_of_ble_eq_true rfl) ?_
              refine w_aload_n ok dX0_film_91 2 rfl ?_
              refine w_getR ok dX0_film_92 (fX0_12 rfl) (congrArg Prod.fst s_104) rfl (r_104_0 ro) (ltK hnn (by decide)) ?_
              refine w_dup ok dX0_film_95 rfl ?_
              refine w_getI ok dX0_film_96 (fX0_145 rfl) (congrArg Prod.fst s_105) rfl (ltK hnn (by decide)) ?_
              refine w_iconst (v := 1) ok dX0_film_99 (by decide) ?_
              refine w_iadd ok dX0_film_100 ?_
              refine w_putI ok dX0_film_101 (fwX0_145 rfl) (congrArg Prod.fst s_105) rfl (ltK hnn (by decide)) ?_
              show WK K 0 0 104 [(5, .int (atF (s14.2.1 110) 6 s14.1)), (4, .int (F_X5_wayIn 105 a0 s14.1 s14.2.1 s14.2.2)), (0, .ref 104), (1, .int a0), (2, .int a1), (3, .int s14.1)] [] (S5_X0_film a0 a1 I J s14) s14.2.2 R n g
              refine w_iload ok dX0_film_104 1 rfl ?_
              refine w_if_lt (tgt := 157) ok dX0_film_106 (by decide) (fun h => absurd h c3) (fun _ => ?_)
              refine w_iload ok dX0_film_109 0 rfl ?_
              refine w_if_ge (tgt := 157) ok dX0_film_111 (by decide) (fun c14 => ?_) (fun c14 => ?_)
              · skip
                refine w_iinc (v := s14.1 + 1) ok dX0_film_157 5 rfl rfl (by decide) rfl ?_
                refine w_goto (tgt := 14) ok dX0_film_160 (by decide) ?_
                have eB : B_X0_film_w14 a0 a1 I J s14 = .inl ((s14.1 + 1), (S5_X0_film a0 a1 I J s14), s14.2.2) := by
                  unfold B_X0_film_w14; exact (if_neg c1).trans ((if_pos c2).trans ((if_neg c3).trans ((if_neg c4).trans ((if_neg c9).trans ((if_pos c14).trans (rfl))))))
                refine w_loc [3, 4, 5, 0] rfl ?_
                have kk := kc14 _ eB
                exact kk
              · skip
                refine w_aload_n ok dX0_film_114 2 rfl ?_
                refine w_iload_n ok dX0_film_115 3 rfl ?_
                refine w_iload_n ok dX0_film_116 5 rfl ?_
                refine w_cV (As := [.int a0, .int s14.1]) ok dX0_film_117 iX0_noticeWorth (lX0_148 rfl) (rcv cls0 (congrArg Prod.fst s_104)) (ltK hnn (by decide)) (c_X0_noticeWorth ro hnn a0 s14.1  (hp8 n14 s14 hs14 c1 c2 c3 c4 c9 c14)) (by decide) rfl (Nat.le_of_ble_eq_true rfl) ?_
                refine w_aload_n ok dX0_film_120 2 rfl ?_
                refine w_getR ok dX0_film_121 (fX0_18 rfl) (congrArg Prod.fst s_104) rfl (r_104_1 ro) (ltK hnn (by decide)) ?_
                refine w_iload_n ok dX0_film_124 5 rfl ?_
                refine w_cS (As := [.ref 114, .int s14.1]) ok dX0_film_125 iX11_at (lX0_86 rfl) (c_at s_114 (ltK hnn (by decide)) s14.1) (by decide) rfl (Nat.le_of_ble_eq_true rfl) ?_
                show WK K 0 0 128 [(5, .int (atF (s14.2.1 110) 6 s14.1)), (4, .int (F_X5_wayIn 105 a0 s14.1 s14.2.1 s14.2.2)), (0, .ref 104), (1, .int a0), (2, .int a1), (3, .int s14.1)] [.int (atF ((S5_X0_film a0 a1 I J s14) 114) 6 s14.1), .long (F_X0_noticeWorth a0 s14.1 (S5_X0_film a0 a1 I J s14) s14.2.2)] (S5_X0_film a0 a1 I J s14) (FJ_X0_noticeWorth a0 s14.1 (S5_X0_film a0 a1 I J s14) s14.2.2) R n g
                refine w_bipush (v := 50) ok dX0_film_128 (by decide) ?_
                refine w_icmp_lt (tgt := 137) ok dX0_film_130 (by decide) (fun c15 => ?_) (fun c15 => ?_)
                · skip
                  refine w_iconst (v := 0) ok dX0_film_137 (by decide) ?_
                  refine w_cS (As := [.long (F_X0_noticeWorth a0 s14.1 (S5_X0_film a0 a1 I J s14) s14.2.2), .int 0]) ok dX0_film_138 iX0_isSo (lX0_152 rfl) (c_X0_isSo ro hnn (F_X0_noticeWorth a0 s14.1 (S5_X0_film a0 a1 I J s14) s14.2.2) 0  (hp9 n14 s14 hs14 c1 c2 c3 c4 c9 c14 c15)) (by decide) rfl (Nat.le_of_ble_eq_true rfl) ?_
                  show WK K 0 0 141 [(5, .int (atF (s14.2.1 110) 6 s14.1)), (4, .int (F_X5_wayIn 105 a0 s14.1 s14.2.1 s14.2.2)), (0, .ref 104), (1, .int a0), (2, .int a1), (3, .int s14.1)] [.int (S6_X0_film a0 a1 I J s14)] (S5_X0_film a0 a1 I J s14) (FJ_X0_noticeWorth a0 s14.1 (S5_X0_film a0 a1 I J s14) s14.2.2) R n g
                  refine w_if_eq (tgt := 157) ok dX0_film_141 (by decide) (fun c16 => ?_) (fun c16 => ?_)
                  · skip
                    refine w_iinc (v := s14.1 + 1) ok dX0_film_157 5 rfl rfl (by decide) rfl ?_
                    refine w_goto (tgt := 14) ok dX0_film_160 (by decide) ?_
                    have eB : B_X0_film_w14 a0 a1 I J s14 = .inl ((s14.1 + 1), (S5_X0_film a0 a1 I J s14), (FJ_X0_noticeWorth a0 s14.1 (S5_X0_film a0 a1 I J s14) s14.2.2)) := by
                      unfold B_X0_film_w14; exact (if_neg c1).trans ((if_pos c2).trans ((if_neg c3).trans ((if_neg c4).trans ((if_neg c9).trans ((if_neg c14).trans ((if_pos c15).trans ((if_pos c16).trans (rfl))))))))
                    refine w_loc [3, 4, 5, 0] rfl ?_
                    have kk := kc14 _ eB
                    exact kk
                  · skip
                    refine w_aload_n ok dX0_film_144 2 rfl ?_
                    refine w_getR ok dX0_film_145 (fX0_12 rfl) (congrArg Prod.fst s_104) rfl (r_104_0 ro) (ltK hnn (by decide)) ?_
                    refine w_getR ok dX0_film_148 (fX0_139 rfl) (congrArg Prod.fst s_105) rfl (r_105_11 ro) (ltK hnn (by decide)) ?_
                    refine w_iload_n ok dX0_film_151 5 rfl ?_
                    refine w_iload ok dX0_film_152 1 rfl ?_
                    refine w_cS (As := [.ref 110, .int s14.1, .int (F_X5_wayIn 105 a0 s14.1 s14.2.1 s14.2.2)]) ok dX0_film_154 iX11_put (lX0_131 rfl) (c_put s_110 (ltK hnn (by decide)) s14.1 (F_X5_wayIn 105 a0 s14.1 s14.2.1 s14.2.2)) (by decide) rfl (Nat.le_of_ble_eq_true rfl) ?_
                    show WK K 0 0 157 [(5, .int (atF (s14.2.1 110) 6 s14.1)), (4, .int (F_X5_wayIn 105 a0 s14.1 s14.2.1 s14.2.2)), (0, .ref 104), (1, .int a0), (2, .int a1), (3, .int s14.1)] [] (S7_X0_film a0 a1 I J s14) (FJ_X0_noticeWorth a0 s14.1 (S5_X0_film a0 a1 I J s14) s14.2.2) R n g
                    refine w_iinc (v := s14.1 + 1) ok dX0_film_157 5 rfl rfl (by decide) rfl ?_
                    refine w_goto (tgt := 14) ok dX0_film_160 (by decide) ?_
                    have eB : B_X0_film_w14 a0 a1 I J s14 = .inl ((s14.1 + 1), (S7_X0_film a0 a1 I J s14), (FJ_X0_noticeWorth a0 s14.1 (S5_X0_film a0 a1 I J s14) s14.2.2)) := by
                      unfold B_X0_film_w14; exact (if_neg c1).trans ((if_pos c2).trans ((if_neg c3).trans ((if_neg c4).trans ((if_neg c9).trans ((if_neg c14).trans ((if_pos c15).trans ((if_neg c16).trans (rfl))))))))
                    refine w_loc [3, 4, 5, 0] rfl ?_
                    have kk := kc14 _ eB
                    exact kk
                · skip
                  refine w_iconst (v := 1) ok dX0_film_133 (by decide) ?_
                  refine w_goto (tgt := 138) ok dX0_film_134 (by decide) ?_
                  refine w_cS (As := [.long (F_X0_noticeWorth a0 s14.1 (S5_X0_film a0 a1 I J s14) s14.2.2), .int 1]) ok dX0_film_138 iX0_isSo (lX0_152 rfl) (c_X0_isSo ro hnn (F_X0_noticeWorth a0 s14.1 (S5_X0_film a0 a1 I J s14) s14.2.2) 1  (hp10 n14 s14 hs14 c1 c2 c3 c4 c9 c14 c15)) (by decide) rfl (Nat.le_of_ble_eq_true rfl) ?_
                  show WK K 0 0 141 [(5, .int (atF (s14.2.1 110) 6 s14.1)), (4, .int (F_X5_wayIn 105 a0 s14.1 s14.2.1 s14.2.2)), (0, .ref 104), (1, .int a0), (2, .int a1), (3, .int s14.1)] [.int (S8_X0_film a0 a1 I J s14)] (S5_X0_film a0 a1 I J s14) (FJ_X0_noticeWorth a0 s14.1 (S5_X0_film a0 a1 I J s14) s14.2.2) R n g
                  refine w_if_eq (tgt := 157) ok dX0_film_141 (by decide) (fun c17 => ?_) (fun c17 => ?_)
                  · skip
                    refine w_iinc (v := s14.1 + 1) ok dX0_film_157 5 rfl rfl (by decide) rfl ?_
                    refine w_goto (tgt := 14) ok dX0_film_160 (by decide) ?_
                    have eB : B_X0_film_w14 a0 a1 I J s14 = .inl ((s14.1 + 1), (S5_X0_film a0 a1 I J s14), (FJ_X0_noticeWorth a0 s14.1 (S5_X0_film a0 a1 I J s14) s14.2.2)) := by
                      unfold B_X0_film_w14; exact (if_neg c1).trans ((if_pos c2).trans ((if_neg c3).trans ((if_neg c4).trans ((if_neg c9).trans ((if_neg c14).trans ((if_neg c15).trans ((if_pos c17).trans (rfl))))))))
                    refine w_loc [3, 4, 5, 0] rfl ?_
                    have kk := kc14 _ eB
                    exact kk
                  · skip
                    refine w_aload_n ok dX0_film_144 2 rfl ?_
                    refine w_getR ok dX0_film_145 (fX0_12 rfl) (congrArg Prod.fst s_104) rfl (r_104_0 ro) (ltK hnn (by decide)) ?_
                    refine w_getR ok dX0_film_148 (fX0_139 rfl) (congrArg Prod.fst s_105) rfl (r_105_11 ro) (ltK hnn (by decide)) ?_
                    refine w_iload_n ok dX0_film_151 5 rfl ?_
                    refine w_iload ok dX0_film_152 1 rfl ?_
                    refine w_cS (As := [.ref 110, .int s14.1, .int (F_X5_wayIn 105 a0 s14.1 s14.2.1 s14.2.2)]) ok dX0_film_154 iX11_put (lX0_131 rfl) (c_put s_110 (ltK hnn (by decide)) s14.1 (F_X5_wayIn 105 a0 s14.1 s14.2.1 s14.2.2)) (by decide) rfl (Nat.le_of_ble_eq_true rfl) ?_
                    show WK K 0 0 157 [(5, .int (atF (s14.2.1 110) 6 s14.1)), (4, .int (F_X5_wayIn 105 a0 s14.1 s14.2.1 s14.2.2)), (0, .ref 104), (1, .int a0), (2, .int a1), (3, .int s14.1)] [] (S9_X0_film a0 a1 I J s14) (FJ_X0_noticeWorth a0 s14.1 (S5_X0_film a0 a1 I J s14) s14.2.2) R n g
                    refine w_iinc (v := s14.1 + 1) ok dX0_film_157 5 rfl rfl (by decide) rfl ?_
                    refine w_goto (tgt := 14) ok dX0_film_160 (by decide) ?_
                    have eB : B_X0_film_w14 a0 a1 I J s14 = .inl ((s14.1 + 1), (S9_X0_film a0 a1 I J s14), (FJ_X0_noticeWorth a0 s14.1 (S5_X0_film a0 a1 I J s14) s14.2.2)) := by
                      unfold B_X0_film_w14; exact (if_neg c1).trans ((if_pos c2).trans ((if_neg c3).trans ((if_neg c4).trans ((if_neg c9).trans ((if_neg c14).trans ((if_neg c15).trans ((if_neg c17).trans (rfl))))))))
                    refine w_loc [3, 4, 5, 0] rfl ?_
                    have kk := kc14 _ eB
                    exact kk
def S1_X0_give (a0 : Int32) (I : SI) (J : SJ) : SI := putF (putF I 112 4 a0 ((atF (I 112) 4 a0) - 1)) 113 4 a0 ((atF ((putF I 112 4 a0 ((atF (I 112) 4 a0) - 1)) 113) 4 a0) + 1)
def S2_X0_give (a0 : Int32) (I : SI) (J : SJ) : SI := putF (S1_X0_give a0 I J) 111 6 (atF (I 15) 8 a0) ((atF (I 111) 6 (atF (I 15) 8 a0)) + 1)
def S3_X0_give (a0 : Int32) (I : SI) (J : SJ) : SJ := FJ_X0_yieldWorth (atF (I 15) 8 a0) ((atF (I 111) 6 (atF (I 15) 8 a0)) + 1) (S2_X0_give a0 I J) J
def S4_X0_give (a0 : Int32) (I : SI) (J : SJ) : Int64 := F_X0_yieldWorth (atF (I 15) 8 a0) ((atF (I 111) 6 (atF (I 15) 8 a0)) + 1) (S2_X0_give a0 I J) J
def FI_X0_give (a0 : Int32) (I : SI) (J : SJ) : SI := if a0 = (I 104 5) then I else (if (atF (I 112) 4 a0) ≤ 0 then I else (if (atF (I 110) 6 (atF (I 15) 8 a0)) < 0 then I else (if (atF (I 110) 6 (atF (I 15) 8 a0)) = (atF (I 16) 8 a0) then I else (if (((S2_X0_give a0 I J)) 104 7) = 0 then (S2_X0_give a0 I J) else (if ((atF (I 111) 6 (atF (I 15) 8 a0)) + 1) ≤ ((atF ((S2_X0_give a0 I J) 114) 6 (atF (I 15) 8 a0)) / 10) then (if (F_X0_isSo (S4_X0_give a0 I J) 0 (S2_X0_give a0 I J) (S3_X0_give a0 I J)) = 0 then (S2_X0_give a0 I J) else putF (S2_X0_give a0 I J) 110 6 (atF (I 15) 8 a0) (atF (I 16) 8 a0)) else (if (F_X0_isSo (S4_X0_give a0 I J) 1 (S2_X0_give a0 I J) (S3_X0_give a0 I J)) = 0 then (S2_X0_give a0 I J) else putF (S2_X0_give a0 I J) 110 6 (atF (I 15) 8 a0) (atF (I 16) 8 a0)))))))
def FJ_X0_give (a0 : Int32) (I : SI) (J : SJ) : SJ := if a0 = (I 104 5) then J else (if (atF (I 112) 4 a0) ≤ 0 then J else (if (atF (I 110) 6 (atF (I 15) 8 a0)) < 0 then J else (if (atF (I 110) 6 (atF (I 15) 8 a0)) = (atF (I 16) 8 a0) then J else (if (((S2_X0_give a0 I J)) 104 7) = 0 then J else (if ((atF (I 111) 6 (atF (I 15) 8 a0)) + 1) ≤ ((atF ((S2_X0_give a0 I J) 114) 6 (atF (I 15) 8 a0)) / 10) then (if (F_X0_isSo (S4_X0_give a0 I J) 0 (S2_X0_give a0 I J) (S3_X0_give a0 I J)) = 0 then (S3_X0_give a0 I J) else (S3_X0_give a0 I J)) else (if (F_X0_isSo (S4_X0_give a0 I J) 1 (S2_X0_give a0 I J) (S3_X0_give a0 I J)) = 0 then (S3_X0_give a0 I J) else (S3_X0_give a0 I J)))))))
def H_X0_give (a0 : Int32) (I : SI) (J : SJ) : Prop := (¬ (a0 = (I 104 5)) → ¬ ((atF (I 112) 4 a0) ≤ 0) → ¬ ((atF (I 110) 6 (atF (I 15) 8 a0)) < 0) → ¬ ((atF (I 110) 6 (atF (I 15) 8 a0)) = (atF (I 16) 8 a0)) → ¬ ((((S2_X0_give a0 I J)) 104 7) = 0) → H_X0_yieldWorth (atF (I 15) 8 a0) ((atF (I 111) 6 (atF (I 15) 8 a0)) + 1) (S2_X0_give a0 I J) J) ∧ (¬ (a0 = (I 104 5)) → ¬ ((atF (I 112) 4 a0) ≤ 0) → ¬ ((atF (I 110) 6 (atF (I 15) 8 a0)) < 0) → ¬ ((atF (I 110) 6 (atF (I 15) 8 a0)) = (atF (I 16) 8 a0)) → ¬ ((((S2_X0_give a0 I J)) 104 7) = 0) → ((atF (I 111) 6 (atF (I 15) 8 a0)) + 1) ≤ ((atF ((S2_X0_give a0 I J) 114) 6 (atF (I 15) 8 a0)) / 10) → H_X0_isSo (S4_X0_give a0 I J) 0 (S2_X0_give a0 I J) (S3_X0_give a0 I J)) ∧ (¬ (a0 = (I 104 5)) → ¬ ((atF (I 112) 4 a0) ≤ 0) → ¬ ((atF (I 110) 6 (atF (I 15) 8 a0)) < 0) → ¬ ((atF (I 110) 6 (atF (I 15) 8 a0)) = (atF (I 16) 8 a0)) → ¬ ((((S2_X0_give a0 I J)) 104 7) = 0) → ¬ (((atF (I 111) 6 (atF (I 15) 8 a0)) + 1) ≤ ((atF ((S2_X0_give a0 I J) 114) 6 (atF (I 15) 8 a0)) / 10)) → H_X0_isSo (S4_X0_give a0 I J) 1 (S2_X0_give a0 I J) (S3_X0_give a0 I J))
set_option maxHeartbeats 1360000 in
set_option maxRecDepth 40000 in
theorem c_X0_give {I : SI} {J : SJ} {R : SR} {n g : Nat} (ro : RO R) (hnn : nK ≤ n) (a0 : Int32)  (hp : H_X0_give a0 I J) : MM 4 0 0 mX0_give [.ref 104, .int a0] I J R n g (Pd none (FI_X0_give a0 I J) (FJ_X0_give a0 I J) R n g) := by
  refine MM.of (by decide) (Nat.le_of_ble_eq_true rfl) fun K ok fin => ?_
  show WK K 0 0 0 [(0, .ref 104), (1, .int a0)] [] I J R n g
  obtain ⟨hp1, hp2, hp3⟩ := hp
  refine w_aload_n ok dX0_give_0 0 rfl ?_
  refine w_getR ok dX0_give_1 (fX0_40 rfl) (congrArg Prod.fst s_104) rfl (r_104_3 ro) (ltK hnn (by decide)) ?_
  refine w_getR ok dX0_give_4 (fX0_100 rfl) (congrArg Prod.fst s_2) rfl (r_2_2 ro) (ltK hnn (by decide)) ?_
  refine w_getR ok dX0_give_7 (fX0_54 rfl) (congrArg Prod.fst s_13) rfl (r_13_3 ro) (ltK hnn (by decide)) ?_
  refine w_iload_n ok dX0_give_10 1 rfl ?_
  refine w_cS (As := [.ref 15, .int a0]) ok dX0_give_11 iX11_at (lX0_86 rfl) (c_at s_15 (ltK hnn (by decide)) a0) (by decide) rfl (Nat.le_of_ble_eq_true rfl) ?_
  refine w_istore_n ok dX0_give_14 rfl (by decide) rfl ?_
  refine w_aload_n ok dX0_give_15 1 rfl ?_
  refine w_getR ok dX0_give_16 (fX0_40 rfl) (congrArg Prod.fst s_104) rfl (r_104_3 ro) (ltK hnn (by decide)) ?_
  refine w_getR ok dX0_give_19 (fX0_100 rfl) (congrArg Prod.fst s_2) rfl (r_2_2 ro) (ltK hnn (by decide)) ?_
  refine w_getR ok dX0_give_22 (fX0_156 rfl) (congrArg Prod.fst s_13) rfl (r_13_4 ro) (ltK hnn (by decide)) ?_
  refine w_iload_n ok dX0_give_25 2 rfl ?_
  refine w_cS (As := [.ref 16, .int a0]) ok dX0_give_26 iX11_at (lX0_86 rfl) (c_at s_16 (ltK hnn (by decide)) a0) (by decide) rfl (Nat.le_of_ble_eq_true rfl) ?_
  refine w_istore_n ok dX0_give_29 rfl (by decide) rfl ?_
  refine w_aload_n ok dX0_give_30 2 rfl ?_
  refine w_getR ok dX0_give_31 (fX0_12 rfl) (congrArg Prod.fst s_104) rfl (r_104_0 ro) (ltK hnn (by decide)) ?_
  refine w_getR ok dX0_give_34 (fX0_139 rfl) (congrArg Prod.fst s_105) rfl (r_105_11 ro) (ltK hnn (by decide)) ?_
  refine w_iload_n ok dX0_give_37 1 rfl ?_
  refine w_cS (As := [.ref 110, .int (atF (I 15) 8 a0)]) ok dX0_give_38 iX11_at (lX0_86 rfl) (c_at s_110 (ltK hnn (by decide)) (atF (I 15) 8 a0)) (by decide) rfl (Nat.le_of_ble_eq_true rfl) ?_
  refine w_istore ok dX0_give_41 (by decide) rfl ?_
  refine w_aload_n ok dX0_give_43 3 rfl ?_
  refine w_getR ok dX0_give_44 (fX0_12 rfl) (congrArg Prod.fst s_104) rfl (r_104_0 ro) (ltK hnn (by decide)) ?_
  refine w_getR ok dX0_give_47 (fX0_159 rfl) (congrArg Prod.fst s_105) rfl (r_105_13 ro) (ltK hnn (by decide)) ?_
  refine w_iload_n ok dX0_give_50 4 rfl ?_
  refine w_cS (As := [.ref 112, .int a0]) ok dX0_give_51 iX11_at (lX0_86 rfl) (c_at s_112 (ltK hnn (by decide)) a0) (by decide) rfl (Nat.le_of_ble_eq_true rfl) ?_
  refine w_istore ok dX0_give_54 (by decide) rfl ?_
  refine w_iload_n ok dX0_give_56 5 rfl ?_
  refine w_aload_n ok dX0_give_57 4 rfl ?_
  refine w_getI ok dX0_give_58 (fX0_30 rfl) (congrArg Prod.fst s_104) rfl (ltK hnn (by decide)) ?_
  refine w_icmp_eq (tgt := 80) ok dX0_give_61 (by decide) (fun c1 => ?_) (fun c1 => ?_)
  · skip
    exact w_vret ok fin dX0_give_80 rfl (by unfold FI_X0_give FJ_X0_give; simp only [if_pos c1]; exact Pd.i)
  · skip
    refine w_iload ok dX0_give_64 0 rfl ?_
    refine w_if_le (tgt := 80) ok dX0_give_66 (by decide) (fun c2 => ?_) (fun c2 => ?_)
    · skip
      exact w_vret ok fin dX0_give_80 rfl (by unfold FI_X0_give FJ_X0_give; simp only [if_neg c1]; simp only [if_pos c2]; exact Pd.i)
    · skip
      refine w_iload ok dX0_give_69 1 rfl ?_
      refine w_if_lt (tgt := 80) ok dX0_give_71 (by decide) (fun c3 => ?_) (fun c3 => ?_)
      · skip
        exact w_vret ok fin dX0_give_80 rfl (by unfold FI_X0_give FJ_X0_give; simp only [if_neg c1]; simp only [if_neg c2]; simp only [if_pos c3]; exact Pd.i)
      · skip
        refine w_iload ok dX0_give_74 1 rfl ?_
        refine w_iload_n ok dX0_give_76 2 rfl ?_
        refine w_icmp_ne (tgt := 81) ok dX0_give_77 (by decide) (fun c4 => ?_) (fun c4 => ?_)
        · skip
          refine w_aload_n ok dX0_give_81 4 rfl ?_
          refine w_getR ok dX0_give_82 (fX0_12 rfl) (congrArg Prod.fst s_104) rfl (r_104_0 ro) (ltK hnn (by decide)) ?_
          refine w_getR ok dX0_give_85 (fX0_162 rfl) (congrArg Prod.fst s_105) rfl (r_105_12 ro) (ltK hnn (by decide)) ?_
          refine w_iload_n ok dX0_give_88 3 rfl ?_
          refine w_cS (As := [.ref 111, .int (atF (I 15) 8 a0)]) ok dX0_give_89 iX11_at (lX0_86 rfl) (c_at s_111 (ltK hnn (by decide)) (atF (I 15) 8 a0)) (by decide) rfl (Nat.le_of_ble_eq_true rfl) ?_
          refine w_iconst (v := 1) ok dX0_give_92 (by decide) ?_
          refine w_iadd ok dX0_give_93 ?_
          refine w_istore ok dX0_give_94 (by decide) rfl ?_
          refine w_aload_n ok dX0_give_96 5 rfl ?_
          refine w_getR ok dX0_give_97 (fX0_12 rfl) (congrArg Prod.fst s_104) rfl (r_104_0 ro) (ltK hnn (by decide)) ?_
          refine w_getR ok dX0_give_100 (fX0_159 rfl) (congrArg Prod.fst s_105) rfl (r_105_13 ro) (ltK hnn (by decide)) ?_
          refine w_iload_n ok dX0_give_103 6 rfl ?_
          refine w_iload ok dX0_give_104 1 rfl ?_
          refine w_iconst (v := 1) ok dX0_give_106 (by decide) ?_
          refine w_isub ok dX0_give_107 ?_
          refine w_cS (As := [.ref 112, .int a0, .int ((atF (I 112) 4 a0) - 1)]) ok dX0_give_108 iX11_put (lX0_131 rfl) (c_put s_112 (ltK hnn (by decide)) a0 ((atF (I 112) 4 a0) - 1)) (by decide) rfl (Nat.le_of_ble_eq_true rfl) ?_
          refine w_aload_n ok dX0_give_111 5 rfl ?_
          refine w_getR ok dX0_give_112 (fX0_12 rfl) (congrArg Prod.fst s_104) rfl (r_104_0 ro) (ltK hnn (by decide)) ?_
          refine w_getR ok dX0_give_115 (fX0_165 rfl) (congrArg Prod.fst s_105) rfl (r_105_14 ro) (ltK hnn (by decide)) ?_
          refine w_iload_n ok dX0_give_118 6 rfl ?_
          refine w_aload_n ok dX0_give_119 5 rfl ?_
          refine w_getR ok dX0_give_120 (fX0_12 rfl) (congrArg Prod.fst s_104) rfl (r_104_0 ro) (ltK hnn (by decide)) ?_
          refine w_getR ok dX0_give_123 (fX0_165 rfl) (congrArg Prod.fst s_105) rfl (r_105_14 ro) (ltK hnn (by decide)) ?_
          refine w_iload_n ok dX0_give_126 6 rfl ?_
          refine w_cS (As := [.ref 113, .int a0]) ok dX0_give_127 iX11_at (lX0_86 rfl) (c_at s_113 (ltK hnn (by decide)) a0) (by decide) rfl (Nat.le_of_ble_eq_true rfl) ?_
          show WK K 0 0 130 [(6, .int ((atF (I 111) 6 (atF (I 15) 8 a0)) + 1)), (5, .int (atF (I 112) 4 a0)), (4, .int (atF (I 110) 6 (atF (I 15) 8 a0))), (3, .int (atF (I 16) 8 a0)), (2, .int (atF (I 15) 8 a0)), (0, .ref 104), (1, .int a0)] [.int (atF ((putF I 112 4 a0 ((atF (I 112) 4 a0) - 1)) 113) 4 a0), .int a0, .ref 113] (putF I 112 4 a0 ((atF (I 112) 4 a0) - 1)) J R n g
          refine w_iconst (v := 1) ok dX0_give_130 (by decide) ?_
          refine w_iadd ok dX0_give_131 ?_
          refine w_cS (As := [.ref 113, .int a0, .int ((atF ((putF I 112 4 a0 ((atF (I 112) 4 a0) - 1)) 113) 4 a0) + 1)]) ok dX0_give_132 iX11_put (lX0_131 rfl) (c_put s_113 (ltK hnn (by decide)) a0 ((atF ((putF I 112 4 a0 ((atF (I 112) 4 a0) - 1)) 113) 4 a0) + 1)) (by decide) rfl (Nat.le_of_ble_eq_true rfl) ?_
          show WK K 0 0 135 [(6, .int ((atF (I 111) 6 (atF (I 15) 8 a0)) + 1)), (5, .int (atF (I 112) 4 a0)), (4, .int (atF (I 110) 6 (atF (I 15) 8 a0))), (3, .int (atF (I 16) 8 a0)), (2, .int (atF (I 15) 8 a0)), (0, .ref 104), (1, .int a0)] [] (S1_X0_give a0 I J) J R n g
          refine w_aload_n ok dX0_give_135 5 rfl ?_
          refine w_getR ok dX0_give_136 (fX0_12 rfl) (congrArg Prod.fst s_104) rfl (r_104_0 ro) (ltK hnn (by decide)) ?_
          refine w_getR ok dX0_give_139 (fX0_162 rfl) (congrArg Prod.fst s_105) rfl (r_105_12 ro) (ltK hnn (by decide)) ?_
          refine w_iload_n ok dX0_give_142 4 rfl ?_
          refine w_iload ok dX0_give_143 0 rfl ?_
          refine w_cS (As := [.ref 111, .int (atF (I 15) 8 a0), .int ((atF (I 111) 6 (atF (I 15) 8 a0)) + 1)]) ok dX0_give_145 iX11_put (lX0_131 rfl) (c_put s_111 (ltK hnn (by decide)) (atF (I 15) 8 a0) ((atF (I 111) 6 (atF (I 15) 8 a0)) + 1)) (by decide) rfl (Nat.le_of_ble_eq_true rfl) ?_
          show WK K 0 0 148 [(6, .int ((atF (I 111) 6 (atF (I 15) 8 a0)) + 1)), (5, .int (atF (I 112) 4 a0)), (4, .int (atF (I 110) 6 (atF (I 15) 8 a0))), (3, .int (atF (I 16) 8 a0)), (2, .int (atF (I 15) 8 a0)), (0, .ref 104), (1, .int a0)] [] (S2_X0_give a0 I J) J R n g
          refine w_aload_n ok dX0_give_148 5 rfl ?_
          refine w_getI ok dX0_give_149 (fX0_37 rfl) (congrArg Prod.fst s_104) rfl (ltK hnn (by decide)) ?_
          refine w_if_eq (tgt := 201) ok dX0_give_152 (by decide) (fun c5 => ?_) (fun c5 => ?_)
          · skip
            exact w_vret ok fin dX0_give_201 rfl (by unfold FI_X0_give FJ_X0_give; simp only [if_neg c1]; simp only [if_neg c2]; simp only [if_neg c3]; simp only [if_neg c4]; simp only [if_pos c5]; exact Pd.i)
          · skip
            refine w_aload_n ok dX0_give_155 5 rfl ?_
            refine w_iload_n ok dX0_give_156 4 rfl ?_
            refine w_iload ok dX0_give_157 0 rfl ?_
            refine w_cV (As := [.int (atF (I 15) 8 a0), .int ((atF (I 111) 6 (atF (I 15) 8 a0)) + 1)]) ok dX0_give_159 iX0_yieldWorth (lX0_168 rfl) (rcv cls0 (congrArg Prod.fst s_104)) (ltK hnn (by decide)) (c_X0_yieldWorth ro hnn (atF (I 15) 8 a0) ((atF (I 111) 6 (atF (I 15) 8 a0)) + 1)  (hp1 c1 c2 c3 c4 c5)) (by decide) rfl (Nat.le_of_ble_eq_true rfl) ?_
            show WK K 0 0 162 [(6, .int ((atF (I 111) 6 (atF (I 15) 8 a0)) + 1)), (5, .int (atF (I 112) 4 a0)), (4, .int (atF (I 110) 6 (atF (I 15) 8 a0))), (3, .int (atF (I 16) 8 a0)), (2, .int (atF (I 15) 8 a0)), (0, .ref 104), (1, .int a0)] [.long (S4_X0_give a0 I J)] (S2_X0_give a0 I J) (S3_X0_give a0 I J) R n g
            refine w_iload ok dX0_give_162 0 rfl ?_
            refine w_aload_n ok dX0_give_164 5 rfl ?_
            refine w_getR ok dX0_give_165 (fX0_18 rfl) (congrArg Prod.fst s_104) rfl (r_104_1 ro) (ltK hnn (by decide)) ?_
            refine w_iload_n ok dX0_give_168 4 rfl ?_
            refine w_cS (As := [.ref 114, .int (atF (I 15) 8 a0)]) ok dX0_give_169 iX11_at (lX0_86 rfl) (c_at s_114 (ltK hnn (by decide)) (atF (I 15) 8 a0)) (by decide) rfl (Nat.le_of_ble_eq_true rfl) ?_
            show WK K 0 0 172 [(6, .int ((atF (I 111) 6 (atF (I 15) 8 a0)) + 1)), (5, .int (atF (I 112) 4 a0)), (4, .int (atF (I 110) 6 (atF (I 15) 8 a0))), (3, .int (atF (I 16) 8 a0)), (2, .int (atF (I 15) 8 a0)), (0, .ref 104), (1, .int a0)] [.int (atF ((S2_X0_give a0 I J) 114) 6 (atF (I 15) 8 a0)), .int ((atF (I 111) 6 (atF (I 15) 8 a0)) + 1), .long (S4_X0_give a0 I J)] (S2_X0_give a0 I J) (S3_X0_give a0 I J) R n g
            refine w_bipush (v := 10) ok dX0_give_172 (by decide) ?_
            refine w_idiv ok dX0_give_174 (by decide) ?_
            refine w_icmp_le (tgt := 182) ok dX0_give_175 (by decide) (fun c6 => ?_) (fun c6 => ?_)
            · skip
              refine w_iconst (v := 0) ok dX0_give_182 (by decide) ?_
              refine w_cS (As := [.long (S4_X0_give a0 I J), .int 0]) ok dX0_give_183 iX0_isSo (lX0_152 rfl) (c_X0_isSo ro hnn (S4_X0_give a0 I J) 0  (hp2 c1 c2 c3 c4 c5 c6)) (by decide) rfl (Nat.le_of_ble_eq_true rfl) ?_
              refine w_if_eq (tgt := 201) ok dX0_give_186 (by decide) (fun c7 => ?_) (fun c7 => ?_)
              · skip
                exact w_vret ok fin dX0_give_201 rfl (by unfold FI_X0_give FJ_X0_give; simp only [if_neg c1]; simp only [if_neg c2]; simp only [if_neg c3]; simp only [if_neg c4]; simp only [if_neg c5]; simp only [if_pos c6]; simp only [if_pos c7]; exact Pd.i)
              · skip
                refine w_aload_n ok dX0_give_189 5 rfl ?_
                refine w_getR ok dX0_give_190 (fX0_12 rfl) (congrArg Prod.fst s_104) rfl (r_104_0 ro) (ltK hnn (by decide)) ?_
                refine w_getR ok dX0_give_193 (fX0_139 rfl) (congrArg Prod.fst s_105) rfl (r_105_11 ro) (ltK hnn (by decide)) ?_
                refine w_iload_n ok dX0_give_196 4 rfl ?_
                refine w_iload_n ok dX0_give_197 3 rfl ?_
                refine w_cS (As := [.ref 110, .int (atF (I 15) 8 a0), .int (atF (I 16) 8 a0)]) ok dX0_give_198 iX11_put (lX0_131 rfl) (c_put s_110 (ltK hnn (by decide)) (atF (I 15) 8 a0) (atF (I 16) 8 a0)) (by decide) rfl (Nat.le_of_ble_eq_true rfl) ?_
                exact w_vret ok fin dX0_give_201 rfl (by unfold FI_X0_give FJ_X0_give; simp only [if_neg c1]; simp only [if_neg c2]; simp only [if_neg c3]; simp only [if_neg c4]; simp only [if_neg c5]; simp only [if_pos c6]; simp only [if_neg c7]; exact Pd.i)
            · skip
              refine w_iconst (v := 1) ok dX0_give_178 (by decide) ?_
              refine w_goto (tgt := 183) ok dX0_give_179 (by decide) ?_
              refine w_cS (As := [.long (S4_X0_give a0 I J), .int 1]) ok dX0_give_183 iX0_isSo (lX0_152 rfl) (c_X0_isSo ro hnn (S4_X0_give a0 I J) 1  (hp3 c1 c2 c3 c4 c5 c6)) (by decide) rfl (Nat.le_of_ble_eq_true rfl) ?_
              refine w_if_eq (tgt := 201) ok dX0_give_186 (by decide) (fun c8 => ?_) (fun c8 => ?_)
              · skip
                exact w_vret ok fin dX0_give_201 rfl (by unfold FI_X0_give FJ_X0_give; simp only [if_neg c1]; simp only [if_neg c2]; simp only [if_neg c3]; simp only [if_neg c4]; simp only [if_neg c5]; simp only [if_neg c6]; simp only [if_pos c8]; exact Pd.i)
              · skip
                refine w_aload_n ok dX0_give_189 5 rfl ?_
                refine w_getR ok dX0_give_190 (fX0_12 rfl) (congrArg Prod.fst s_104) rfl (r_104_0 ro) (ltK hnn (by decide)) ?_
                refine w_getR ok dX0_give_193 (fX0_139 rfl) (congrArg Prod.fst s_105) rfl (r_105_11 ro) (ltK hnn (by decide)) ?_
                refine w_iload_n ok dX0_give_196 4 rfl ?_
                refine w_iload_n ok dX0_give_197 3 rfl ?_
                refine w_cS (As := [.ref 110, .int (atF (I 15) 8 a0), .int (atF (I 16) 8 a0)]) ok dX0_give_198 iX11_put (lX0_131 rfl) (c_put s_110 (ltK hnn (by decide)) (atF (I 15) 8 a0) (atF (I 16) 8 a0)) (by decide) rfl (Nat.le_of_ble_eq_true rfl) ?_
                exact w_vret ok fin dX0_give_201 rfl (by unfold FI_X0_give FJ_X0_give; simp only [if_neg c1]; simp only [if_neg c2]; simp only [if_neg c3]; simp only [if_neg c4]; simp only [if_neg c5]; simp only [if_neg c6]; simp only [if_neg c8]; exact Pd.i)
        · skip
          exact w_vret ok fin dX0_give_80 rfl (by unfold FI_X0_give FJ_X0_give; simp only [if_neg c1]; simp only [if_neg c2]; simp only [if_neg c3]; simp only [if_pos c4]; exact Pd.i)
def S1_X0_filmOneAgain (I : SI) (J : SJ) (i2 : Nat) (s2 : SJ) : SI := u2 I 105 1 ((I 105 1) - ((maxL (0) (minL (999) (F_X0_againWorth (nI i2) I s2))).toInt32))
def S2_X0_filmOneAgain (I : SI) (J : SJ) (i2 : Nat) (s2 : SJ) : SI := FI_X0_filmAgain (nI i2) (S1_X0_filmOneAgain I J i2 s2) (FJ_X0_againWorth (nI i2) I s2)
def S3_X0_filmOneAgain (I : SI) (J : SJ) (i2 : Nat) (s2 : SJ) : SI := FI_X0_filmAgain (nI i2) (u2 I 105 1 ((I 105 1) - (((atF (I 10) 8 (nI i2)).toInt64).toInt32))) (FJ_X0_againWorth (nI i2) I s2)
def B_X0_filmOneAgain_l2_2 (I : SI) (J : SJ) (i2 : Nat) (s2 : SJ) : (SJ) ⊕ (SI × SJ) := if (atF (I 107) 8 (nI i2)) = 0 then .inl s2 else (if (F_X5_clashing 105 (nI i2) I s2) ≤ 0 then .inl s2 else (if (lg_cmp (F_X0_againWorth (nI i2) I s2) (-9223372036854775808)) = 0 then (if (lg_cmp ((I 105 1).toInt64) ((atF (I 10) 8 (nI i2)).toInt64)) < 0 then .inl (FJ_X0_againWorth (nI i2) I s2) else .inr ((S3_X0_filmOneAgain I J i2 s2), (FJ_X0_againWorth (nI i2) I s2))) else (if (lg_cmp ((I 105 1).toInt64) (maxL (0) (minL (999) (F_X0_againWorth (nI i2) I s2)))) < 0 then .inl (FJ_X0_againWorth (nI i2) I s2) else .inr ((S2_X0_filmOneAgain I J i2 s2), (FJ_X0_againWorth (nI i2) I s2)))))
def F_X0_filmOneAgain_l2_2 (I : SI) (J : SJ) (s0 : SJ) : (SJ) ⊕ (SI × SJ) := itE (B_X0_filmOneAgain_l2_2 I J) ((I 8 1).toNatClampNeg) 0 s0
def FI_X0_filmOneAgain  (I : SI) (J : SJ) : SI := (match (F_X0_filmOneAgain_l2_2 I J J) with | .inl se2 => I | .inr re2 => re2.1)
def FJ_X0_filmOneAgain  (I : SI) (J : SJ) : SJ := (match (F_X0_filmOneAgain_l2_2 I J J) with | .inl se2 => se2 | .inr re2 => re2.2)
def H_X0_filmOneAgain  (I : SI) (J : SJ) : Prop := (∀ (i2 : Nat) (s2 : SJ), i2 < (I 8 1).toNatClampNeg → itE (B_X0_filmOneAgain_l2_2 I J) i2 0 J = .inl s2 → ¬ ((atF (I 107) 8 (nI i2)) = 0) → ¬ ((F_X5_clashing 105 (nI i2) I s2) ≤ 0) → H_X0_againWorth (nI i2) I s2) ∧ (∀ (i2 : Nat) (s2 : SJ), i2 < (I 8 1).toNatClampNeg → itE (B_X0_filmOneAgain_l2_2 I J) i2 0 J = .inl s2 → ¬ ((atF (I 107) 8 (nI i2)) = 0) → ¬ ((F_X5_clashing 105 (nI i2) I s2) ≤ 0) → ¬ ((lg_cmp (F_X0_againWorth (nI i2) I s2) (-9223372036854775808)) = 0) → ¬ ((lg_cmp ((I 105 1).toInt64) (maxL (0) (minL (999) (F_X0_againWorth (nI i2) I s2)))) < 0) → H_X0_filmAgain (nI i2) (S1_X0_filmOneAgain I J i2 s2) (FJ_X0_againWorth (nI i2) I s2)) ∧ (∀ (i2 : Nat) (s2 : SJ), i2 < (I 8 1).toNatClampNeg → itE (B_X0_filmOneAgain_l2_2 I J) i2 0 J = .inl s2 → ¬ ((atF (I 107) 8 (nI i2)) = 0) → ¬ ((F_X5_clashing 105 (nI i2) I s2) ≤ 0) → (lg_cmp (F_X0_againWorth (nI i2) I s2) (-9223372036854775808)) = 0 → ¬ ((lg_cmp ((I 105 1).toInt64) ((atF (I 10) 8 (nI i2)).toInt64)) < 0) → H_X0_filmAgain (nI i2) (u2 I 105 1 ((I 105 1) - (((atF (I 10) 8 (nI i2)).toInt64).toInt32))) (FJ_X0_againWorth (nI i2) I s2))
set_option maxHeartbeats 1490000 in
set_option maxRecDepth 40000 in
theorem c_X0_filmOneAgain {I : SI} {J : SJ} {R : SR} {n g : Nat} (ro : RO R) (hnn : nK ≤ n)   (hp : H_X0_filmOneAgain  I J) : MM 4 0 0 mX0_filmOneAgain [.ref 104] I J R n g (Pd none (FI_X0_filmOneAgain  I J) (FJ_X0_filmOneAgain  I J) R n g) := by
  refine MM.of (by decide) (Nat.le_of_ble_eq_true rfl) fun K ok fin => ?_
  show WK K 0 0 0 [(0, .ref 104)] [] I J R n g
  obtain ⟨hp1, hp2, hp3⟩ := hp
  refine w_iconst (v := 0) ok dX0_filmOneAgain_0 (by decide) ?_
  refine w_istore_n ok dX0_filmOneAgain_1 rfl (by decide) rfl ?_
  refine w_loc [1, 0] rfl ?_
  refine loop_e (σ := SJ) (ρ := SI × SJ) (fun (i2 : Nat) (s2 : SJ) => WK K 0 0 2 [(0, .ref 104), (1, .int (nI i2))] [] I s2 R n g) (B_X0_filmOneAgain_l2_2 I J) ((I 8 1).toNatClampNeg) (J) ?_ ?_
  · intro se2 he2
    have he2 : (F_X0_filmOneAgain_l2_2 I J J) = .inl se2 := he2
    show WK K 0 0 2 [(0, .ref 104), (1, .int (nI ((I 8 1).toNatClampNeg)))] [] I se2 R n g
    have e1 : (I 8 1) ≤ (nI ((I 8 1).toNatClampNeg)) := cnt_ge _
    refine w_iload_n ok dX0_filmOneAgain_2 1 rfl ?_
    refine w_aload_n ok dX0_filmOneAgain_3 0 rfl ?_
    refine w_getR ok dX0_filmOneAgain_4 (fX0_40 rfl) (congrArg Prod.fst s_104) rfl (r_104_3 ro) (ltK hnn (by decide)) ?_
    refine w_getR ok dX0_filmOneAgain_7 (fX0_77 rfl) (congrArg Prod.fst s_2) rfl (r_2_1 ro) (ltK hnn (by decide)) ?_
    refine w_getI ok dX0_filmOneAgain_10 (fX0_80 rfl) (congrArg Prod.fst s_8) rfl (ltK hnn (by decide)) ?_
    refine w_icmp_ge (tgt := 127) ok dX0_filmOneAgain_13 (by decide) (fun _ => ?_) (fun h => absurd e1 h)
    exact w_vret ok fin dX0_filmOneAgain_127 rfl (by unfold FI_X0_filmOneAgain FJ_X0_filmOneAgain; simp only [he2]; exact Pd.i)
  · intro i2 s2 hi2 hs2 k2 kr2
    show WK K 0 0 2 [(0, .ref 104), (1, .int (nI i2))] [] I s2 R n g
    have e2 : ¬ ((I 8 1) ≤ (nI i2)) := cnt_lt hi2
    refine w_iload_n ok dX0_filmOneAgain_2 1 rfl ?_
    refine w_aload_n ok dX0_filmOneAgain_3 0 rfl ?_
    refine w_getR ok dX0_filmOneAgain_4 (fX0_40 rfl) (congrArg Prod.fst s_104) rfl (r_104_3 ro) (ltK hnn (by decide)) ?_
    refine w_getR ok dX0_filmOneAgain_7 (fX0_77 rfl) (congrArg Prod.fst s_2) rfl (r_2_1 ro) (ltK hnn (by decide)) ?_
    refine w_getI ok dX0_filmOneAgain_10 (fX0_80 rfl) (congrArg Prod.fst s_8) rfl (ltK hnn (by decide)) ?_
    refine w_icmp_ge (tgt := 127) ok dX0_filmOneAgain_13 (by decide) (fun h => absurd h e2) (fun _ => ?_)
    refine w_aload_n ok dX0_filmOneAgain_16 0 rfl ?_
    refine w_getR ok dX0_filmOneAgain_17 (fX0_12 rfl) (congrArg Prod.fst s_104) rfl (r_104_0 ro) (ltK hnn (by decide)) ?_
    refine w_getR ok dX0_filmOneAgain_20 (fX0_83 rfl) (congrArg Prod.fst s_105) rfl (r_105_8 ro) (ltK hnn (by decide)) ?_
    refine w_iload_n ok dX0_filmOneAgain_23 1 rfl ?_
    refine w_cS (As := [.ref 107, .int (nI i2)]) ok dX0_filmOneAgain_24 iX11_at (lX0_86 rfl) (c_at s_107 (ltK hnn (by decide)) (nI i2)) (by decide) rfl (Nat.le_of_ble_eq_true rfl) ?_
    refine w_if_eq (tgt := 121) ok dX0_filmOneAgain_27 (by decide) (fun c3 => ?_) (fun c3 => ?_)
    · skip
      refine w_iinc (v := (nI i2) + 1) ok dX0_filmOneAgain_121 1 rfl rfl (by decide) rfl ?_
      refine w_goto (tgt := 2) ok dX0_filmOneAgain_124 (by decide) ?_
      have eB : B_X0_filmOneAgain_l2_2 I J i2 s2 = .inl s2 := by
        unfold B_X0_filmOneAgain_l2_2; exact (if_pos c3).trans (rfl)
      have kk := k2 _ eB
      refine w_loc [1, 0] rfl ?_
      rw [nI_1 i2]
      exact kk
    · skip
      refine w_aload_n ok dX0_filmOneAgain_30 0 rfl ?_
      refine w_getR ok dX0_filmOneAgain_31 (fX0_12 rfl) (congrArg Prod.fst s_104) rfl (r_104_0 ro) (ltK hnn (by decide)) ?_
      refine w_iload_n ok dX0_filmOneAgain_34 1 rfl ?_
      refine w_cV (As := [.int (nI i2)]) ok dX0_filmOneAgain_35 iX5_clashing (lX0_171 rfl) (rcv cls5 (congrArg Prod.fst s_105)) (ltK hnn (by decide)) (c_X5_clashing ro hnn (nI i2) isSc_105) (by decide) rfl (Nat.le_of_ble_eq_true rfl) ?_
      refine w_if_le (tgt := 121) ok dX0_filmOneAgain_38 (by decide) (fun c4 => ?_) (fun c4 => ?_)
      · skip
        refine w_iinc (v := (nI i2) + 1) ok dX0_filmOneAgain_121 1 rfl rfl (by decide) rfl ?_
        refine w_goto (tgt := 2) ok dX0_filmOneAgain_124 (by decide) ?_
        have eB : B_X0_filmOneAgain_l2_2 I J i2 s2 = .inl s2 := by
          unfold B_X0_filmOneAgain_l2_2; exact (if_neg c3).trans ((if_pos c4).trans (rfl))
        have kk := k2 _ eB
        refine w_loc [1, 0] rfl ?_
        rw [nI_1 i2]
        exact kk
      · skip
        refine w_aload_n ok dX0_filmOneAgain_41 0 rfl ?_
        refine w_iload_n ok dX0_filmOneAgain_42 1 rfl ?_
        refine w_cV (As := [.int (nI i2)]) ok dX0_filmOneAgain_43 iX0_againWorth (lX0_175 rfl) (rcv cls0 (congrArg Prod.fst s_104)) (ltK hnn (by decide)) (c_X0_againWorth ro hnn (nI i2)  (hp1 i2 s2 hi2 hs2 c3 c4)) (by decide) rfl (Nat.le_of_ble_eq_true rfl) ?_
        refine w_lstore_n ok dX0_filmOneAgain_46 rfl (by decide) rfl ?_
        refine w_lload_n ok dX0_filmOneAgain_47 0 rfl ?_
        refine w_ldc2 ok dX0_filmOneAgain_48 kX0_181 ?_
        refine w_lcmp ok dX0_filmOneAgain_51 ?_
        refine w_if_ne (tgt := 73) ok dX0_filmOneAgain_52 (by decide) (fun c5 => ?_) (fun c5 => ?_)
        · skip
          refine w_lconst (v := 0) ok dX0_filmOneAgain_73 (by decide) ?_
          refine w_ldc2 ok dX0_filmOneAgain_74 kX0_183 ?_
          refine w_lload_n ok dX0_filmOneAgain_77 0 rfl ?_
          refine w_minL ok dX0_filmOneAgain_78 (iT_5 7 (by decide +kernel) (by decide +kernel)) (Nat.le_of_ble_eq_true rfl) ?_
          show WK K 0 0 81 [(2, .long (F_X0_againWorth (nI i2) I s2)), (0, .ref 104), (1, .int (nI i2))] [.long (minL (999) (F_X0_againWorth (nI i2) I s2)), .long 0] I (FJ_X0_againWorth (nI i2) I s2) R n g
          refine w_maxL ok dX0_filmOneAgain_81 (iT_5 10 (by decide +kernel) (by decide +kernel)) (Nat.le_of_ble_eq_true rfl) ?_
          refine w_lstore ok dX0_filmOneAgain_84 (by decide) rfl ?_
          refine w_aload_n ok dX0_filmOneAgain_86 2 rfl ?_
          refine w_getR ok dX0_filmOneAgain_87 (fX0_12 rfl) (congrArg Prod.fst s_104) rfl (r_104_0 ro) (ltK hnn (by decide)) ?_
          refine w_getI ok dX0_filmOneAgain_90 (fX0_194 rfl) (congrArg Prod.fst s_105) rfl (ltK hnn (by decide)) ?_
          refine w_i2l ok dX0_filmOneAgain_93 ?_
          refine w_lload ok dX0_filmOneAgain_94 0 rfl ?_
          refine w_lcmp ok dX0_filmOneAgain_96 ?_
          refine w_if_lt (tgt := 121) ok dX0_filmOneAgain_97 (by decide) (fun c6 => ?_) (fun c6 => ?_)
          · skip
            refine w_iinc (v := (nI i2) + 1) ok dX0_filmOneAgain_121 3 rfl rfl (by decide) rfl ?_
            refine w_goto (tgt := 2) ok dX0_filmOneAgain_124 (by decide) ?_
            have eB : B_X0_filmOneAgain_l2_2 I J i2 s2 = .inl (FJ_X0_againWorth (nI i2) I s2) := by
              unfold B_X0_filmOneAgain_l2_2; exact (if_neg c3).trans ((if_neg c4).trans ((if_neg c5).trans ((if_pos c6).trans (rfl))))
            have kk := k2 _ eB
            refine w_loc [3, 0] rfl ?_
            rw [nI_1 i2]
            exact kk
          · skip
            refine w_aload_n ok dX0_filmOneAgain_100 2 rfl ?_
            refine w_getR ok dX0_filmOneAgain_101 (fX0_12 rfl) (congrArg Prod.fst s_104) rfl (r_104_0 ro) (ltK hnn (by decide)) ?_
            refine w_dup ok dX0_filmOneAgain_104 rfl ?_
            refine w_getI ok dX0_filmOneAgain_105 (fX0_194 rfl) (congrArg Prod.fst s_105) rfl (ltK hnn (by decide)) ?_
            refine w_lload ok dX0_filmOneAgain_108 0 rfl ?_
            refine w_l2i ok dX0_filmOneAgain_110 ?_
            refine w_isub ok dX0_filmOneAgain_111 ?_
            refine w_putI ok dX0_filmOneAgain_112 (fwX0_194 rfl) (congrArg Prod.fst s_105) rfl (ltK hnn (by decide)) ?_
            show WK K 0 0 115 [(4, .long (maxL (0) (minL (999) (F_X0_againWorth (nI i2) I s2)))), (2, .long (F_X0_againWorth (nI i2) I s2)), (0, .ref 104), (1, .int (nI i2))] [] (S1_X0_filmOneAgain I J i2 s2) (FJ_X0_againWorth (nI i2) I s2) R n g
            refine w_aload_n ok dX0_filmOneAgain_115 2 rfl ?_
            refine w_iload_n ok dX0_filmOneAgain_116 3 rfl ?_
            refine w_cV (As := [.int (nI i2)]) ok dX0_filmOneAgain_117 iX0_filmAgain (lX0_197 rfl) (rcv cls0 (congrArg Prod.fst s_104)) (ltK hnn (by decide)) (c_X0_filmAgain ro hnn (nI i2)  (hp2 i2 s2 hi2 hs2 c3 c4 c5 c6)) (by decide) rfl (Nat.le_of_ble_eq_true rfl) ?_
            show WK K 0 0 120 [(4, .long (maxL (0) (minL (999) (F_X0_againWorth (nI i2) I s2)))), (2, .long (F_X0_againWorth (nI i2) I s2)), (0, .ref 104), (1, .int (nI i2))] [] (S2_X0_filmOneAgain I J i2 s2) (FJ_X0_againWorth (nI i2) I s2) R n g
            have eB : B_X0_filmOneAgain_l2_2 I J i2 s2 = .inr ((S2_X0_filmOneAgain I J i2 s2), (FJ_X0_againWorth (nI i2) I s2)) := by
              unfold B_X0_filmOneAgain_l2_2; exact (if_neg c3).trans ((if_neg c4).trans ((if_neg c5).trans ((if_neg c6).trans (rfl))))
            have hr : (F_X0_filmOneAgain_l2_2 I J J) = .inr ((S2_X0_filmOneAgain I J i2 s2), (FJ_X0_againWorth (nI i2) I s2)) := kr2 _ eB
            exact w_vret ok fin dX0_filmOneAgain_120 rfl (by unfold FI_X0_filmOneAgain FJ_X0_filmOneAgain; simp only [hr]; exact Pd.i)
        · skip
          refine w_aload_n ok dX0_filmOneAgain_55 1 rfl ?_
          refine w_getR ok dX0_filmOneAgain_56 (fX0_40 rfl) (congrArg Prod.fst s_104) rfl (r_104_3 ro) (ltK hnn (by decide)) ?_
          refine w_getR ok dX0_filmOneAgain_59 (fX0_77 rfl) (congrArg Prod.fst s_2) rfl (r_2_1 ro) (ltK hnn (by decide)) ?_
          refine w_getR ok dX0_filmOneAgain_62 (fX0_54 rfl) (congrArg Prod.fst s_8) rfl (r_8_3 ro) (ltK hnn (by decide)) ?_
          refine w_iload_n ok dX0_filmOneAgain_65 2 rfl ?_
          refine w_cS (As := [.ref 10, .int (nI i2)]) ok dX0_filmOneAgain_66 iX11_at (lX0_86 rfl) (c_at s_10 (ltK hnn (by decide)) (nI i2)) (by decide) rfl (Nat.le_of_ble_eq_true rfl) ?_
          refine w_i2l ok dX0_filmOneAgain_69 ?_
          refine w_goto (tgt := 84) ok dX0_filmOneAgain_70 (by decide) ?_
          refine w_lstore ok dX0_filmOneAgain_84 (by decide) rfl ?_
          refine w_aload_n ok dX0_filmOneAgain_86 2 rfl ?_
          refine w_getR ok dX0_filmOneAgain_87 (fX0_12 rfl) (congrArg Prod.fst s_104) rfl (r_104_0 ro) (ltK hnn (by decide)) ?_
          refine w_getI ok dX0_filmOneAgain_90 (fX0_194 rfl) (congrArg Prod.fst s_105) rfl (ltK hnn (by decide)) ?_
          refine w_i2l ok dX0_filmOneAgain_93 ?_
          refine w_lload ok dX0_filmOneAgain_94 0 rfl ?_
          refine w_lcmp ok dX0_filmOneAgain_96 ?_
          refine w_if_lt (tgt := 121) ok dX0_filmOneAgain_97 (by decide) (fun c7 => ?_) (fun c7 => ?_)
          · skip
            refine w_iinc (v := (nI i2) + 1) ok dX0_filmOneAgain_121 3 rfl rfl (by decide) rfl ?_
            refine w_goto (tgt := 2) ok dX0_filmOneAgain_124 (by decide) ?_
            have eB : B_X0_filmOneAgain_l2_2 I J i2 s2 = .inl (FJ_X0_againWorth (nI i2) I s2) := by
              unfold B_X0_filmOneAgain_l2_2; exact (if_neg c3).trans ((if_neg c4).trans ((if_pos c5).trans ((if_pos c7).trans (rfl))))
            have kk := k2 _ eB
            refine w_loc [3, 0] rfl ?_
            rw [nI_1 i2]
            exact kk
          · skip
            refine w_aload_n ok dX0_filmOneAgain_100 2 rfl ?_
            refine w_getR ok dX0_filmOneAgain_101 (fX0_12 rfl) (congrArg Prod.fst s_104) rfl (r_104_0 ro) (ltK hnn (by decide)) ?_
            refine w_dup ok dX0_filmOneAgain_104 rfl ?_
            refine w_getI ok dX0_filmOneAgain_105 (fX0_194 rfl) (congrArg Prod.fst s_105) rfl (ltK hnn (by decide)) ?_
            refine w_lload ok dX0_filmOneAgain_108 0 rfl ?_
            refine w_l2i ok dX0_filmOneAgain_110 ?_
            refine w_isub ok dX0_filmOneAgain_111 ?_
            refine w_putI ok dX0_filmOneAgain_112 (fwX0_194 rfl) (congrArg Prod.fst s_105) rfl (ltK hnn (by decide)) ?_
            refine w_aload_n ok dX0_filmOneAgain_115 2 rfl ?_
            refine w_iload_n ok dX0_filmOneAgain_116 3 rfl ?_
            refine w_cV (As := [.int (nI i2)]) ok dX0_filmOneAgain_117 iX0_filmAgain (lX0_197 rfl) (rcv cls0 (congrArg Prod.fst s_104)) (ltK hnn (by decide)) (c_X0_filmAgain ro hnn (nI i2)  (hp3 i2 s2 hi2 hs2 c3 c4 c5 c7)) (by decide) rfl (Nat.le_of_ble_eq_true rfl) ?_
            show WK K 0 0 120 [(4, .long ((atF (I 10) 8 (nI i2)).toInt64)), (2, .long (F_X0_againWorth (nI i2) I s2)), (0, .ref 104), (1, .int (nI i2))] [] (S3_X0_filmOneAgain I J i2 s2) (FJ_X0_againWorth (nI i2) I s2) R n g
            have eB : B_X0_filmOneAgain_l2_2 I J i2 s2 = .inr ((S3_X0_filmOneAgain I J i2 s2), (FJ_X0_againWorth (nI i2) I s2)) := by
              unfold B_X0_filmOneAgain_l2_2; exact (if_neg c3).trans ((if_neg c4).trans ((if_pos c5).trans ((if_neg c7).trans (rfl))))
            have hr : (F_X0_filmOneAgain_l2_2 I J J) = .inr ((S3_X0_filmOneAgain I J i2 s2), (FJ_X0_againWorth (nI i2) I s2)) := kr2 _ eB
            exact w_vret ok fin dX0_filmOneAgain_120 rfl (by unfold FI_X0_filmOneAgain FJ_X0_filmOneAgain; simp only [hr]; exact Pd.i)
def S1_X4_lawLine (I : SI) (J : SJ) : SI := FI_X4_side 69 (FI_X8_step  (u2 (FI_X4_fail 3 (FI_X8_step  I J) J) 69 0 1) J) J
def S2_X4_lawLine (I : SI) (J : SJ) : SI := FI_X4_side 73 (FI_X8_step  (u2 (FI_X4_fail 3 (FI_X8_step  I J) J) 73 0 1) J) J
def S3_X4_lawLine (I : SI) (J : SJ) : SI := FI_X4_side 77 (FI_X8_step  (u2 (FI_X4_fail 3 (FI_X8_step  I J) J) 77 0 1) J) J
def FI_X4_lawLine  (I : SI) (J : SJ) : SI := if ((FI_X8_step  I J) 81 5) = 30 then (if ((FI_X8_step  I J) 69 0) = 0 then FI_X4_side 69 (FI_X8_step  (u2 (FI_X8_step  I J) 69 0 1) J) J else (S1_X4_lawLine I J)) else (if ((FI_X8_step  I J) 81 5) = 31 then (if ((FI_X8_step  I J) 73 0) = 0 then FI_X4_side 73 (FI_X8_step  (u2 (FI_X8_step  I J) 73 0 1) J) J else (S2_X4_lawLine I J)) else (if ((FI_X8_step  I J) 81 5) = 32 then (if ((FI_X8_step  I J) 77 0) = 0 then FI_X4_side 77 (FI_X8_step  (u2 (FI_X8_step  I J) 77 0 1) J) J else (S3_X4_lawLine I J)) else FI_X4_fail 1 (FI_X8_step  I J) J))
def H_X4_lawLine  (I : SI) (J : SJ) : Prop := (H_X8_step  I J) ∧ (((FI_X8_step  I J) 81 5) = 30 → ((FI_X8_step  I J) 69 0) = 0 → H_X8_step  (u2 (FI_X8_step  I J) 69 0 1) J) ∧ (((FI_X8_step  I J) 81 5) = 30 → ((FI_X8_step  I J) 69 0) = 0 → H_X4_side 69 (FI_X8_step  (u2 (FI_X8_step  I J) 69 0 1) J) J) ∧ (((FI_X8_step  I J) 81 5) = 30 → ¬ (((FI_X8_step  I J) 69 0) = 0) → H_X8_step  (u2 (FI_X4_fail 3 (FI_X8_step  I J) J) 69 0 1) J) ∧ (((FI_X8_step  I J) 81 5) = 30 → ¬ (((FI_X8_step  I J) 69 0) = 0) → H_X4_side 69 (FI_X8_step  (u2 (FI_X4_fail 3 (FI_X8_step  I J) J) 69 0 1) J) J) ∧ (¬ (((FI_X8_step  I J) 81 5) = 30) → ((FI_X8_step  I J) 81 5) = 31 → ((FI_X8_step  I J) 73 0) = 0 → H_X8_step  (u2 (FI_X8_step  I J) 73 0 1) J) ∧ (¬ (((FI_X8_step  I J) 81 5) = 30) → ((FI_X8_step  I J) 81 5) = 31 → ((FI_X8_step  I J) 73 0) = 0 → H_X4_side 73 (FI_X8_step  (u2 (FI_X8_step  I J) 73 0 1) J) J) ∧ (¬ (((FI_X8_step  I J) 81 5) = 30) → ((FI_X8_step  I J) 81 5) = 31 → ¬ (((FI_X8_step  I J) 73 0) = 0) → H_X8_step  (u2 (FI_X4_fail 3 (FI_X8_step  I J) J) 73 0 1) J) ∧ (¬ (((FI_X8_step  I J) 81 5) = 30) → ((FI_X8_step  I J) 81 5) = 31 → ¬ (((FI_X8_step  I J) 73 0) = 0) → H_X4_side 73 (FI_X8_step  (u2 (FI_X4_fail 3 (FI_X8_step  I J) J) 73 0 1) J) J) ∧ (¬ (((FI_X8_step  I J) 81 5) = 30) → ¬ (((FI_X8_step  I J) 81 5) = 31) → ((FI_X8_step  I J) 81 5) = 32 → ((FI_X8_step  I J) 77 0) = 0 → H_X8_step  (u2 (FI_X8_step  I J) 77 0 1) J) ∧ (¬ (((FI_X8_step  I J) 81 5) = 30) → ¬ (((FI_X8_step  I J) 81 5) = 31) → ((FI_X8_step  I J) 81 5) = 32 → ((FI_X8_step  I J) 77 0) = 0 → H_X4_side 77 (FI_X8_step  (u2 (FI_X8_step  I J) 77 0 1) J) J) ∧ (¬ (((FI_X8_step  I J) 81 5) = 30) → ¬ (((FI_X8_step  I J) 81 5) = 31) → ((FI_X8_step  I J) 81 5) = 32 → ¬ (((FI_X8_step  I J) 77 0) = 0) → H_X8_step  (u2 (FI_X4_fail 3 (FI_X8_step  I J) J) 77 0 1) J) ∧ (¬ (((FI_X8_step  I J) 81 5) = 30) → ¬ (((FI_X8_step  I J) 81 5) = 31) → ((FI_X8_step  I J) 81 5) = 32 → ¬ (((FI_X8_step  I J) 77 0) = 0) → H_X4_side 77 (FI_X8_step  (u2 (FI_X4_fail 3 (FI_X8_step  I J) J) 77 0 1) J) J)
set_option maxHeartbeats 1430000 in
set_option maxRecDepth 40000 in
theorem c_X4_lawLine {I : SI} {J : SJ} {R : SR} {n g : Nat} (ro : RO R) (hnn : nK ≤ n)  (htp : R 81 1 = some 1)  (hp : H_X4_lawLine  I J) : MM 4 0 0 mX4_lawLine [.ref 41] I J R n g (Pd none (FI_X4_lawLine  I J) J R n g) := by
  refine MM.of (by decide) (Nat.le_of_ble_eq_true rfl) fun K ok fin => ?_
  show WK K 0 0 0 [(0, .ref 41)] [] I J R n g
  obtain ⟨hp1, hp2, hp3, hp4, hp5, hp6, hp7, hp8, hp9, hp10, hp11, hp12, hp13⟩ := hp
  refine w_aload_n ok dX4_lawLine_0 0 rfl ?_
  refine w_getR ok dX4_lawLine_1 (fX4_28 rfl) (congrArg Prod.fst s_41) rfl (r_41_3 ro) (ltK hnn (by decide)) ?_
  refine w_cV (As := []) ok dX4_lawLine_4 iX8_step (lX4_65 rfl) (rcv cls8 (congrArg Prod.fst s_81)) (ltK hnn (by decide)) (c_X8_step ro hnn  htp (hp1)) (by decide) rfl (Nat.le_of_ble_eq_true rfl) ?_
  refine w_aload_n ok dX4_lawLine_7 0 rfl ?_
  refine w_getR ok dX4_lawLine_8 (fX4_28 rfl) (congrArg Prod.fst s_41) rfl (r_41_3 ro) (ltK hnn (by decide)) ?_
  refine w_getI ok dX4_lawLine_11 (fX4_52 rfl) (congrArg Prod.fst s_81) rfl (ltK hnn (by decide)) ?_
  refine w_istore_n ok dX4_lawLine_14 rfl (by decide) rfl ?_
  refine w_iload_n ok dX4_lawLine_15 0 rfl ?_
  refine w_bipush (v := 30) ok dX4_lawLine_16 (by decide) ?_
  refine w_icmp_eq (tgt := 39) ok dX4_lawLine_18 (by decide) (fun c1 => ?_) (fun c1 => ?_)
  · skip
    refine w_iload_n ok dX4_lawLine_39 0 rfl ?_
    refine w_bipush (v := 30) ok dX4_lawLine_40 (by decide) ?_
    refine w_icmp_ne (tgt := 55) ok dX4_lawLine_42 (by decide) (fun h => absurd c1 h) (fun _ => ?_)
    refine w_aload_n ok dX4_lawLine_45 1 rfl ?_
    refine w_getR ok dX4_lawLine_46 (fX4_12 rfl) (congrArg Prod.fst s_41) rfl (r_41_0 ro) (ltK hnn (by decide)) ?_
    refine w_getR ok dX4_lawLine_49 (fX4_173 rfl) (congrArg Prod.fst s_42) rfl (r_42_12 ro) (ltK hnn (by decide)) ?_
    refine w_goto (tgt := 78) ok dX4_lawLine_52 (by decide) ?_
    refine w_astore_n ok dX4_lawLine_78 rfl (by decide) rfl ?_
    refine w_aload_n ok dX4_lawLine_79 0 rfl ?_
    refine w_getI ok dX4_lawLine_80 (fX4_183 rfl) (congrArg Prod.fst s_69) rfl (ltK hnn (by decide)) ?_
    refine w_if_eq (tgt := 91) ok dX4_lawLine_83 (by decide) (fun c2 => ?_) (fun c2 => ?_)
    · skip
      refine w_aload_n ok dX4_lawLine_91 0 rfl ?_
      refine w_iconst (v := 1) ok dX4_lawLine_92 (by decide) ?_
      refine w_putZ ok dX4_lawLine_93 (fwX4_183 rfl) (congrArg Prod.fst s_69) rfl (by decide) (ltK hnn (by decide)) ?_
      refine w_aload_n ok dX4_lawLine_96 2 rfl ?_
      refine w_getR ok dX4_lawLine_97 (fX4_28 rfl) (congrArg Prod.fst s_41) rfl (r_41_3 ro) (ltK hnn (by decide)) ?_
      refine w_cV (As := []) ok dX4_lawLine_100 iX8_step (lX4_65 rfl) (rcv cls8 (congrArg Prod.fst s_81)) (ltK hnn (by decide)) (c_X8_step ro hnn  htp (hp2 c1 c2)) (by decide) rfl (Nat.le_of_ble_eq_true rfl) ?_
      refine w_aload_n ok dX4_lawLine_103 2 rfl ?_
      refine w_aload_n ok dX4_lawLine_104 0 rfl ?_
      refine w_cV (As := [.ref 69]) ok dX4_lawLine_105 iX4_side (lX4_188 rfl) (rcv cls4 (congrArg Prod.fst s_41)) (ltK hnn (by decide)) (c_X4_side ro hnn  isLw_69 htp (hp3 c1 c2)) (by decide) rfl (Nat.le_of_ble_eq_true rfl) ?_
      exact w_vret ok fin dX4_lawLine_108 rfl (by unfold FI_X4_lawLine; simp only [if_pos c1]; simp only [if_pos c2]; exact Pd.i)
    · skip
      refine w_aload_n ok dX4_lawLine_86 2 rfl ?_
      refine w_iconst (v := 3) ok dX4_lawLine_87 (by decide) ?_
      refine w_cV (As := [.int 3]) ok dX4_lawLine_88 iX4_fail (lX4_58 rfl) (rcv cls4 (congrArg Prod.fst s_41)) (ltK hnn (by decide)) (c_X4_fail ro hnn 3 ) (by decide) rfl (Nat.le_of_ble_eq_true rfl) ?_
      refine w_aload_n ok dX4_lawLine_91 0 rfl ?_
      refine w_iconst (v := 1) ok dX4_lawLine_92 (by decide) ?_
      refine w_putZ ok dX4_lawLine_93 (fwX4_183 rfl) (congrArg Prod.fst s_69) rfl (by decide) (ltK hnn (by decide)) ?_
      refine w_aload_n ok dX4_lawLine_96 2 rfl ?_
      refine w_getR ok dX4_lawLine_97 (fX4_28 rfl) (congrArg Prod.fst s_41) rfl (r_41_3 ro) (ltK hnn (by decide)) ?_
      refine w_cV (As := []) ok dX4_lawLine_100 iX8_step (lX4_65 rfl) (rcv cls8 (congrArg Prod.fst s_81)) (ltK hnn (by decide)) (c_X8_step ro hnn  htp (hp4 c1 c2)) (by decide) rfl (Nat.le_of_ble_eq_true rfl) ?_
      refine w_aload_n ok dX4_lawLine_103 2 rfl ?_
      refine w_aload_n ok dX4_lawLine_104 0 rfl ?_
      refine w_cV (As := [.ref 69]) ok dX4_lawLine_105 iX4_side (lX4_188 rfl) (rcv cls4 (congrArg Prod.fst s_41)) (ltK hnn (by decide)) (c_X4_side ro hnn  isLw_69 htp (hp5 c1 c2)) (by decide) rfl (Nat.le_of_ble_eq_true rfl) ?_
      show WK K 0 0 108 [(2, .ref 69), (1, .int ((FI_X8_step  I J) 81 5)), (0, .ref 41)] [] (S1_X4_lawLine I J) J R n g
      exact w_vret ok fin dX4_lawLine_108 rfl (by unfold FI_X4_lawLine; simp only [if_pos c1]; simp only [if_neg c2]; exact Pd.i)
  · skip
    refine w_iload_n ok dX4_lawLine_21 0 rfl ?_
    refine w_bipush (v := 31) ok dX4_lawLine_22 (by decide) ?_
    refine w_icmp_eq (tgt := 39) ok dX4_lawLine_24 (by decide) (fun c3 => ?_) (fun c3 => ?_)
    · skip
      refine w_iload_n ok dX4_lawLine_39 0 rfl ?_
      refine w_bipush (v := 30) ok dX4_lawLine_40 (by decide) ?_
      refine w_icmp_ne (tgt := 55) ok dX4_lawLine_42 (by decide) (fun _ => ?_) (fun h => absurd h c1)
      refine w_iload_n ok dX4_lawLine_55 0 rfl ?_
      refine w_bipush (v := 31) ok dX4_lawLine_56 (by decide) ?_
      refine w_icmp_ne (tgt := 71) ok dX4_lawLine_58 (by decide) (fun h => absurd c3 h) (fun _ => ?_)
      refine w_aload_n ok dX4_lawLine_61 1 rfl ?_
      refine w_getR ok dX4_lawLine_62 (fX4_12 rfl) (congrArg Prod.fst s_41) rfl (r_41_0 ro) (ltK hnn (by decide)) ?_
      refine w_getR ok dX4_lawLine_65 (fX4_177 rfl) (congrArg Prod.fst s_42) rfl (r_42_13 ro) (ltK hnn (by decide)) ?_
      refine w_goto (tgt := 78) ok dX4_lawLine_68 (by decide) ?_
      refine w_astore_n ok dX4_lawLine_78 rfl (by decide) rfl ?_
      refine w_aload_n ok dX4_lawLine_79 0 rfl ?_
      refine w_getI ok dX4_lawLine_80 (fX4_183 rfl) (congrArg Prod.fst s_73) rfl (ltK hnn (by decide)) ?_
      refine w_if_eq (tgt := 91) ok dX4_lawLine_83 (by decide) (fun c4 => ?_) (fun c4 => ?_)
      · skip
        refine w_aload_n ok dX4_lawLine_91 0 rfl ?_
        refine w_iconst (v := 1) ok dX4_lawLine_92 (by decide) ?_
        refine w_putZ ok dX4_lawLine_93 (fwX4_183 rfl) (congrArg Prod.fst s_73) rfl (by decide) (ltK hnn (by decide)) ?_
        refine w_aload_n ok dX4_lawLine_96 2 rfl ?_
        refine w_getR ok dX4_lawLine_97 (fX4_28 rfl) (congrArg Prod.fst s_41) rfl (r_41_3 ro) (ltK hnn (by decide)) ?_
        refine w_cV (As := []) ok dX4_lawLine_100 iX8_step (lX4_65 rfl) (rcv cls8 (congrArg Prod.fst s_81)) (ltK hnn (by decide)) (c_X8_step ro hnn  htp (hp6 c1 c3 c4)) (by decide) rfl (Nat.le_of_ble_eq_true rfl) ?_
        refine w_aload_n ok dX4_lawLine_103 2 rfl ?_
        refine w_aload_n ok dX4_lawLine_104 0 rfl ?_
        refine w_cV (As := [.ref 73]) ok dX4_lawLine_105 iX4_side (lX4_188 rfl) (rcv cls4 (congrArg Prod.fst s_41)) (ltK hnn (by decide)) (c_X4_side ro hnn  isLw_73 htp (hp7 c1 c3 c4)) (by decide) rfl (Nat.le_of_ble_eq_true rfl) ?_
        exact w_vret ok fin dX4_lawLine_108 rfl (by unfold FI_X4_lawLine; simp only [if_neg c1]; simp only [if_pos c3]; simp only [if_pos c4]; exact Pd.i)
      · skip
        refine w_aload_n ok dX4_lawLine_86 2 rfl ?_
        refine w_iconst (v := 3) ok dX4_lawLine_87 (by decide) ?_
        refine w_cV (As := [.int 3]) ok dX4_lawLine_88 iX4_fail (lX4_58 rfl) (rcv cls4 (congrArg Prod.fst s_41)) (ltK hnn (by decide)) (c_X4_fail ro hnn 3 ) (by decide) rfl (Nat.le_of_ble_eq_true rfl) ?_
        refine w_aload_n ok dX4_lawLine_91 0 rfl ?_
        refine w_iconst (v := 1) ok dX4_lawLine_92 (by decide) ?_
        refine w_putZ ok dX4_lawLine_93 (fwX4_183 rfl) (congrArg Prod.fst s_73) rfl (by decide) (ltK hnn (by decide)) ?_
        refine w_aload_n ok dX4_lawLine_96 2 rfl ?_
        refine w_getR ok dX4_lawLine_97 (fX4_28 rfl) (congrArg Prod.fst s_41) rfl (r_41_3 ro) (ltK hnn (by decide)) ?_
        refine w_cV (As := []) ok dX4_lawLine_100 iX8_step (lX4_65 rfl) (rcv cls8 (congrArg Prod.fst s_81)) (ltK hnn (by decide)) (c_X8_step ro hnn  htp (hp8 c1 c3 c4)) (by decide) rfl (Nat.le_of_ble_eq_true rfl) ?_
        refine w_aload_n ok dX4_lawLine_103 2 rfl ?_
        refine w_aload_n ok dX4_lawLine_104 0 rfl ?_
        refine w_cV (As := [.ref 73]) ok dX4_lawLine_105 iX4_side (lX4_188 rfl) (rcv cls4 (congrArg Prod.fst s_41)) (ltK hnn (by decide)) (c_X4_side ro hnn  isLw_73 htp (hp9 c1 c3 c4)) (by decide) rfl (Nat.le_of_ble_eq_true rfl) ?_
        show WK K 0 0 108 [(2, .ref 73), (1, .int ((FI_X8_step  I J) 81 5)), (0, .ref 41)] [] (S2_X4_lawLine I J) J R n g
        exact w_vret ok fin dX4_lawLine_108 rfl (by unfold FI_X4_lawLine; simp only [if_neg c1]; simp only [if_pos c3]; simp only [if_neg c4]; exact Pd.i)
    · skip
      refine w_iload_n ok dX4_lawLine_27 0 rfl ?_
      refine w_bipush (v := 32) ok dX4_lawLine_28 (by decide) ?_
      refine w_icmp_eq (tgt := 39) ok dX4_lawLine_30 (by decide) (fun c5 => ?_) (fun c5 => ?_)
      · skip
        refine w_iload_n ok dX4_lawLine_39 0 rfl ?_
        refine w_bipush (v := 30) ok dX4_lawLine_40 (by decide) ?_
        refine w_icmp_ne (tgt := 55) ok dX4_lawLine_42 (by decide) (fun _ => ?_) (fun h => absurd h c1)
        refine w_iload_n ok dX4_lawLine_55 0 rfl ?_
        refine w_bipush (v := 31) ok dX4_lawLine_56 (by decide) ?_
        refine w_icmp_ne (tgt := 71) ok dX4_lawLine_58 (by decide) (fun _ => ?_) (fun h => absurd h c3)
        refine w_aload_n ok dX4_lawLine_71 1 rfl ?_
        refine w_getR ok dX4_lawLine_72 (fX4_12 rfl) (congrArg Prod.fst s_41) rfl (r_41_0 ro) (ltK hnn (by decide)) ?_
        refine w_getR ok dX4_lawLine_75 (fX4_180 rfl) (congrArg Prod.fst s_42) rfl (r_42_14 ro) (ltK hnn (by decide)) ?_
        refine w_astore_n ok dX4_lawLine_78 rfl (by decide) rfl ?_
        refine w_aload_n ok dX4_lawLine_79 0 rfl ?_
        refine w_getI ok dX4_lawLine_80 (fX4_183 rfl) (congrArg Prod.fst s_77) rfl (ltK hnn (by decide)) ?_
        refine w_if_eq (tgt := 91) ok dX4_lawLine_83 (by decide) (fun c6 => ?_) (fun c6 => ?_)
        · skip
          refine w_aload_n ok dX4_lawLine_91 0 rfl ?_
          refine w_iconst (v := 1) ok dX4_lawLine_92 (by decide) ?_
          refine w_putZ ok dX4_lawLine_93 (fwX4_183 rfl) (congrArg Prod.fst s_77) rfl (by decide) (ltK hnn (by decide)) ?_
          refine w_aload_n ok dX4_lawLine_96 2 rfl ?_
          refine w_getR ok dX4_lawLine_97 (fX4_28 rfl) (congrArg Prod.fst s_41) rfl (r_41_3 ro) (ltK hnn (by decide)) ?_
          refine w_cV (As := []) ok dX4_lawLine_100 iX8_step (lX4_65 rfl) (rcv cls8 (congrArg Prod.fst s_81)) (ltK hnn (by decide)) (c_X8_step ro hnn  htp (hp10 c1 c3 c5 c6)) (by decide) rfl (Nat.le_of_ble_eq_true rfl) ?_
          refine w_aload_n ok dX4_lawLine_103 2 rfl ?_
          refine w_aload_n ok dX4_lawLine_104 0 rfl ?_
          refine w_cV (As := [.ref 77]) ok dX4_lawLine_105 iX4_side (lX4_188 rfl) (rcv cls4 (congrArg Prod.fst s_41)) (ltK hnn (by decide)) (c_X4_side ro hnn  isLw_77 htp (hp11 c1 c3 c5 c6)) (by decide) rfl (Nat.le_of_ble_eq_true rfl) ?_
          exact w_vret ok fin dX4_lawLine_108 rfl (by unfold FI_X4_lawLine; simp only [if_neg c1]; simp only [if_neg c3]; simp only [if_pos c5]; simp only [if_pos c6]; exact Pd.i)
        · skip
          refine w_aload_n ok dX4_lawLine_86 2 rfl ?_
          refine w_iconst (v := 3) ok dX4_lawLine_87 (by decide) ?_
          refine w_cV (As := [.int 3]) ok dX4_lawLine_88 iX4_fail (lX4_58 rfl) (rcv cls4 (congrArg Prod.fst s_41)) (ltK hnn (by decide)) (c_X4_fail ro hnn 3 ) (by decide) rfl (Nat.le_of_ble_eq_true rfl) ?_
          refine w_aload_n ok dX4_lawLine_91 0 rfl ?_
          refine w_iconst (v := 1) ok dX4_lawLine_92 (by decide) ?_
          refine w_putZ ok dX4_lawLine_93 (fwX4_183 rfl) (congrArg Prod.fst s_77) rfl (by decide) (ltK hnn (by decide)) ?_
          refine w_aload_n ok dX4_lawLine_96 2 rfl ?_
          refine w_getR ok dX4_lawLine_97 (fX4_28 rfl) (congrArg Prod.fst s_41) rfl (r_41_3 ro) (ltK hnn (by decide)) ?_
          refine w_cV (As := []) ok dX4_lawLine_100 iX8_step (lX4_65 rfl) (rcv cls8 (congrArg Prod.fst s_81)) (ltK hnn (by decide)) (c_X8_step ro hnn  htp (hp12 c1 c3 c5 c6)) (by decide) rfl (Nat.le_of_ble_eq_true rfl) ?_
          refine w_aload_n ok dX4_lawLine_103 2 rfl ?_
          refine w_aload_n ok dX4_lawLine_104 0 rfl ?_
          refine w_cV (As := [.ref 77]) ok dX4_lawLine_105 iX4_side (lX4_188 rfl) (rcv cls4 (congrArg Prod.fst s_41)) (ltK hnn (by decide)) (c_X4_side ro hnn  isLw_77 htp (hp13 c1 c3 c5 c6)) (by decide) rfl (Nat.le_of_ble_eq_true rfl) ?_
          show WK K 0 0 108 [(2, .ref 77), (1, .int ((FI_X8_step  I J) 81 5)), (0, .ref 41)] [] (S3_X4_lawLine I J) J R n g
          exact w_vret ok fin dX4_lawLine_108 rfl (by unfold FI_X4_lawLine; simp only [if_neg c1]; simp only [if_neg c3]; simp only [if_pos c5]; simp only [if_neg c6]; exact Pd.i)
      · skip
        refine w_aload_n ok dX4_lawLine_33 1 rfl ?_
        refine w_iconst (v := 1) ok dX4_lawLine_34 (by decide) ?_
        refine w_cV (As := [.int 1]) ok dX4_lawLine_35 iX4_fail (lX4_58 rfl) (rcv cls4 (congrArg Prod.fst s_41)) (ltK hnn (by decide)) (c_X4_fail ro hnn 1 ) (by decide) rfl (Nat.le_of_ble_eq_true rfl) ?_
        exact w_vret ok fin dX4_lawLine_38 rfl (by unfold FI_X4_lawLine; simp only [if_neg c1]; simp only [if_neg c3]; simp only [if_neg c5]; exact Pd.i)
