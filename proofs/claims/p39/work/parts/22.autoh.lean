/-! printed by wip/whole/gen_c.py: contracts by program -/
def F_X11_see (a0 : Int32) (a1 : Int32) (a2 : Int32) (I : SI) (J : SJ) : Int32 := if a0 < 1 then -1 else (if (40 : Int32) < a0 then -1 else (if (F_X7_holds 3 a1 I J) = 0 then -1 else (if a2 = 0 then F_X6_add a0 a1 0 I J else F_X6_add a0 a1 1 I J)))
def FI_X11_see (a0 : Int32) (a1 : Int32) (a2 : Int32) (I : SI) (J : SJ) : SI := if a0 < 1 then I else (if (40 : Int32) < a0 then I else (if (F_X7_holds 3 a1 I J) = 0 then I else (if a2 = 0 then FI_X6_add a0 a1 0 I J else FI_X6_add a0 a1 1 I J)))
set_option maxHeartbeats 1000000 in
set_option maxRecDepth 40000 in
theorem c_X11_see {I : SI} {J : SJ} {R : SR} {n g : Nat} {f : Fr} (ro : RO R) (hnn : nK ≤ n) (hf : f.1 = true) (a0 : Int32) (a1 : Int32) (a2 : Int32)   : MM 2 0 0 mX11_see [.ref 0, .int a0, .int a1, .int a2] (eI f I) (eJ f J) R n g (Pd (some (.int (F_X11_see a0 a1 a2 I J))) (eI f (FI_X11_see a0 a1 a2 I J)) (eJ f J) R n g) := by
  refine MM.of (by decide) (Nat.le_of_ble_eq_true rfl) fun K ok fin => ?_
  show WK K 0 0 0 [(0, .ref 0), (1, .int a0), (2, .int a1), (3, .int a2)] [] (eI f I) (eJ f J) R n g
  refine w_iload_n ok dX11_see_0 1 rfl ?_
  refine w_iconst (v := 1) ok dX11_see_1 (by decide) ?_
  refine w_icmp_lt (tgt := 25) ok dX11_see_2 (by decide) (fun c1 => ?_) (fun c1 => ?_)
  · skip
    refine w_iconst (v := (-1)) ok dX11_see_25 (by decide) ?_
    exact w_iret ok fin dX11_see_26 rfl (by unfold F_X11_see FI_X11_see; simp only [if_pos c1]; exact Pd.i)
  · skip
    refine w_iload_n ok dX11_see_5 1 rfl ?_
    refine w_bipush (v := 40) ok dX11_see_6 (by decide) ?_
    refine w_icmp_gt (tgt := 25) ok dX11_see_8 (by decide) (fun c2 => ?_) (fun c2 => ?_)
    · skip
      refine w_iconst (v := (-1)) ok dX11_see_25 (by decide) ?_
      exact w_iret ok fin dX11_see_26 rfl (by unfold F_X11_see FI_X11_see; simp only [if_neg c1]; simp only [if_pos c2]; exact Pd.i)
    · skip
      refine w_aload_n ok dX11_see_11 0 rfl ?_
      refine w_getR ok dX11_see_12 (fX11_20 rfl) (congrArg Prod.fst s_0) rfl (r_0_2 ro) (ltK hnn (by decide)) ?_
      refine w_getR ok dX11_see_15 (fX11_112 rfl) (congrArg Prod.fst s_2) rfl (r_2_0 ro) (ltK hnn (by decide)) ?_
      refine w_iload_n ok dX11_see_18 2 rfl ?_
      refine w_cV (As := [.int a1]) ok dX11_see_19 iX7_holds (lX11_131 rfl) (rcv cls7 (congrArg Prod.fst s_3)) (ltK hnn (by decide)) (c_X7_holds ro hnn hf a1 isTb_3) (by decide) rfl (Nat.le_of_ble_eq_true rfl) ?_
      refine w_if_ne (tgt := 27) ok dX11_see_22 (by decide) (fun c3 => ?_) (fun c3 => ?_)
      · skip
        refine w_aload_n ok dX11_see_27 0 rfl ?_
        refine w_getR ok dX11_see_28 (fX11_57 rfl) (congrArg Prod.fst s_0) rfl (r_0_8 ro) (ltK hnn (by decide)) ?_
        refine w_iload_n ok dX11_see_31 1 rfl ?_
        refine w_iload_n ok dX11_see_32 2 rfl ?_
        refine w_iload_n ok dX11_see_33 3 rfl ?_
        refine w_if_eq (tgt := 41) ok dX11_see_34 (by decide) (fun c4 => ?_) (fun c4 => ?_)
        · skip
          refine w_iconst (v := 0) ok dX11_see_41 (by decide) ?_
          refine w_cV (As := [.int a0, .int a1, .int 0]) ok dX11_see_42 iX6_add (lX11_328 rfl) (rcv cls6 (congrArg Prod.fst s_116)) (ltK hnn (by decide)) (c_X6_add ro hnn hf a0 a1 0 ) (by decide) rfl (Nat.le_of_ble_eq_true rfl) ?_
          exact w_iret ok fin dX11_see_45 rfl (by unfold F_X11_see FI_X11_see; simp only [if_neg c1]; simp only [if_neg c2]; simp only [if_neg c3]; simp only [if_pos c4]; exact Pd.i)
        · skip
          refine w_iconst (v := 1) ok dX11_see_37 (by decide) ?_
          refine w_goto (tgt := 42) ok dX11_see_38 (by decide) ?_
          refine w_cV (As := [.int a0, .int a1, .int 1]) ok dX11_see_42 iX6_add (lX11_328 rfl) (rcv cls6 (congrArg Prod.fst s_116)) (ltK hnn (by decide)) (c_X6_add ro hnn hf a0 a1 1 ) (by decide) rfl (Nat.le_of_ble_eq_true rfl) ?_
          exact w_iret ok fin dX11_see_45 rfl (by unfold F_X11_see FI_X11_see; simp only [if_neg c1]; simp only [if_neg c2]; simp only [if_neg c3]; simp only [if_neg c4]; exact Pd.i)
      · skip
        refine w_iconst (v := (-1)) ok dX11_see_25 (by decide) ?_
        exact w_iret ok fin dX11_see_26 rfl (by unfold F_X11_see FI_X11_see; simp only [if_neg c1]; simp only [if_neg c2]; simp only [if_pos c3]; exact Pd.i)
def F_X11_out (a0 : Int32) (I : SI) (J : SJ) : Int32 := if a0 < 0 then -1 else (if a0 < (I 116 0) then F_X6_add 0 a0 0 I J else -1)
def FI_X11_out (a0 : Int32) (I : SI) (J : SJ) : SI := if a0 < 0 then I else (if a0 < (I 116 0) then FI_X6_add 0 a0 0 I J else I)
set_option maxHeartbeats 1000000 in
set_option maxRecDepth 40000 in
theorem c_X11_out {I : SI} {J : SJ} {R : SR} {n g : Nat} {f : Fr} (ro : RO R) (hnn : nK ≤ n) (hf : f.1 = true) (a0 : Int32)   : MM 2 0 0 mX11_out [.ref 0, .int a0] (eI f I) (eJ f J) R n g (Pd (some (.int (F_X11_out a0 I J))) (eI f (FI_X11_out a0 I J)) (eJ f J) R n g) := by
  refine MM.of (by decide) (Nat.le_of_ble_eq_true rfl) fun K ok fin => ?_
  show WK K 0 0 0 [(0, .ref 0), (1, .int a0)] [] (eI f I) (eJ f J) R n g
  refine w_iload_n ok dX11_out_0 1 rfl ?_
  refine w_if_lt (tgt := 15) ok dX11_out_1 (by decide) (fun c1 => ?_) (fun c1 => ?_)
  · skip
    refine w_iconst (v := (-1)) ok dX11_out_15 (by decide) ?_
    refine w_goto (tgt := 29) ok dX11_out_16 (by decide) ?_
    exact w_iret ok fin dX11_out_29 rfl (by unfold F_X11_out FI_X11_out; simp only [if_pos c1]; exact Pd.i)
  · skip
    refine w_iload_n ok dX11_out_4 1 rfl ?_
    refine w_aload_n ok dX11_out_5 0 rfl ?_
    refine w_getR ok dX11_out_6 (fX11_57 rfl) (congrArg Prod.fst s_0) rfl (r_0_8 ro) (ltK hnn (by decide)) ?_
    refine y_getI ok dX11_out_9 (fX11_331 rfl) (congrArg Prod.fst s_116) rfl (ltK hnn (by decide)) (sdc hf (by decide)) ?_
    refine w_icmp_lt (tgt := 19) ok dX11_out_12 (by decide) (fun c2 => ?_) (fun c2 => ?_)
    · skip
      refine w_aload_n ok dX11_out_19 0 rfl ?_
      refine w_getR ok dX11_out_20 (fX11_57 rfl) (congrArg Prod.fst s_0) rfl (r_0_8 ro) (ltK hnn (by decide)) ?_
      refine w_iconst (v := 0) ok dX11_out_23 (by decide) ?_
      refine w_iload_n ok dX11_out_24 1 rfl ?_
      refine w_iconst (v := 0) ok dX11_out_25 (by decide) ?_
      refine w_cV (As := [.int 0, .int a0, .int 0]) ok dX11_out_26 iX6_add (lX11_328 rfl) (rcv cls6 (congrArg Prod.fst s_116)) (ltK hnn (by decide)) (c_X6_add ro hnn hf 0 a0 0 ) (by decide) rfl (Nat.le_of_ble_eq_true rfl) ?_
      exact w_iret ok fin dX11_out_29 rfl (by unfold F_X11_out FI_X11_out; simp only [if_neg c1]; simp only [if_pos c2]; exact Pd.i)
    · skip
      refine w_iconst (v := (-1)) ok dX11_out_15 (by decide) ?_
      refine w_goto (tgt := 29) ok dX11_out_16 (by decide) ?_
      exact w_iret ok fin dX11_out_29 rfl (by unfold F_X11_out FI_X11_out; simp only [if_neg c1]; simp only [if_neg c2]; exact Pd.i)
def F_X11_undo  (I : SI) (J : SJ) : Int32 := if (F_X10_takeBack 86 I J) = 0 then -1 else (FI_X10_takeBack 86 I J) 120 0
def FI_X11_undo  (I : SI) (J : SJ) : SI := if (F_X10_takeBack 86 I J) = 0 then FI_X10_takeBack 86 I J else FI_X10_takeBack 86 I J
set_option maxHeartbeats 1000000 in
set_option maxRecDepth 40000 in
theorem c_X11_undo {I : SI} {J : SJ} {R : SR} {n g : Nat} {f : Fr} (ro : RO R) (hnn : nK ≤ n) (hf : f.1 = true)    : MM 2 0 0 mX11_undo [.ref 0] (eI f I) (eJ f J) R n g (Pd (some (.int (F_X11_undo  I J))) (eI f (FI_X11_undo  I J)) (eJ f J) R n g) := by
  refine MM.of (by decide) (Nat.le_of_ble_eq_true rfl) fun K ok fin => ?_
  show WK K 0 0 0 [(0, .ref 0)] [] (eI f I) (eJ f J) R n g
  refine w_aload_n ok dX11_undo_0 0 rfl ?_
  refine w_getR ok dX11_undo_1 (fX11_64 rfl) (congrArg Prod.fst s_0) rfl (r_0_9 ro) (ltK hnn (by decide)) ?_
  refine w_aload_n ok dX11_undo_4 0 rfl ?_
  refine w_getR ok dX11_undo_5 (fX11_34 rfl) (congrArg Prod.fst s_0) rfl (r_0_4 ro) (ltK hnn (by decide)) ?_
  refine w_cV (As := [.ref 86]) ok dX11_undo_8 iX10_takeBack (lX11_355 rfl) (rcv cls10 (congrArg Prod.fst s_120)) (ltK hnn (by decide)) (c_X10_takeBack ro hnn hf  isSc_86) (by decide) rfl (Nat.le_of_ble_eq_true rfl) ?_
  refine w_if_eq (tgt := 24) ok dX11_undo_11 (by decide) (fun c1 => ?_) (fun c1 => ?_)
  · skip
    refine w_iconst (v := (-1)) ok dX11_undo_24 (by decide) ?_
    exact w_iret ok fin dX11_undo_25 rfl (by unfold F_X11_undo FI_X11_undo; simp only [if_pos c1]; exact Pd.i)
  · skip
    refine w_aload_n ok dX11_undo_14 0 rfl ?_
    refine w_getR ok dX11_undo_15 (fX11_64 rfl) (congrArg Prod.fst s_0) rfl (r_0_9 ro) (ltK hnn (by decide)) ?_
    refine y_getI ok dX11_undo_18 (fX11_359 rfl) (congrArg Prod.fst s_120) rfl (ltK hnn (by decide)) (sdc hf (by decide)) ?_
    refine w_goto (tgt := 25) ok dX11_undo_21 (by decide) ?_
    exact w_iret ok fin dX11_undo_25 rfl (by unfold F_X11_undo FI_X11_undo; simp only [if_neg c1]; exact Pd.i)
def F_X11_keep  (I : SI) (J : SJ) : Int32 := (u2 (FI_X5_copy 95 86 I J) 0 6 1) 86 0
def FI_X11_keep  (I : SI) (J : SJ) : SI := u2 (FI_X5_copy 95 86 I J) 0 6 1
def FJ_X11_keep  (I : SI) (J : SJ) : SJ := FJ_X5_copy 95 86 I J
set_option maxHeartbeats 1000000 in
set_option maxRecDepth 40000 in
theorem c_X11_keep {I : SI} {J : SJ} {R : SR} {n g : Nat} {f : Fr} (ro : RO R) (hnn : nK ≤ n) (hf : f.1 = true)    : MM 3 0 0 mX11_keep [.ref 0] (eI f I) (eJ f J) R n g (Pd (some (.int (F_X11_keep  I J))) (eI f (FI_X11_keep  I J)) (eJ f (FJ_X11_keep  I J)) R n g) := by
  refine MM.of (by decide) (Nat.le_of_ble_eq_true rfl) fun K ok fin => ?_
  show WK K 0 0 0 [(0, .ref 0)] [] (eI f I) (eJ f J) R n g
  refine w_aload_n ok dX11_keep_0 0 rfl ?_
  refine w_getR ok dX11_keep_1 (fX11_38 rfl) (congrArg Prod.fst s_0) rfl (r_0_5 ro) (ltK hnn (by decide)) ?_
  refine w_aload_n ok dX11_keep_4 0 rfl ?_
  refine w_getR ok dX11_keep_5 (fX11_34 rfl) (congrArg Prod.fst s_0) rfl (r_0_4 ro) (ltK hnn (by decide)) ?_
  refine w_cV (As := [.ref 86]) ok dX11_keep_8 iX5_copy (lX11_235 rfl) (rcv cls5 (congrArg Prod.fst s_95)) (ltK hnn (by decide)) (c_X5_copy ro hnn hf  isSc_95 isSc_86) (by decide) rfl (Nat.le_of_ble_eq_true rfl) ?_
  refine w_aload_n ok dX11_keep_11 0 rfl ?_
  refine w_iconst (v := 1) ok dX11_keep_12 (by decide) ?_
  refine y_putZ ok dX11_keep_13 (fwX11_41 rfl) (congrArg Prod.fst s_0) rfl (by decide) (ltK hnn (by decide)) (sdc hf (by decide)) ?_
  refine w_aload_n ok dX11_keep_16 0 rfl ?_
  refine w_getR ok dX11_keep_17 (fX11_34 rfl) (congrArg Prod.fst s_0) rfl (r_0_4 ro) (ltK hnn (by decide)) ?_
  refine y_getI ok dX11_keep_20 (fX11_219 rfl) (congrArg Prod.fst s_86) rfl (ltK hnn (by decide)) (sdc hf (by decide)) ?_
  exact w_iret ok fin dX11_keep_23 rfl (by unfold F_X11_keep FI_X11_keep FJ_X11_keep; exact Pd.i)
def F_X11_back  (I : SI) (J : SJ) : Int32 := if (I 0 6) = 0 then -1 else (FI_X10_clear  (FI_X5_copy 86 95 I J) (FJ_X5_copy 86 95 I J)) 86 0
def FI_X11_back  (I : SI) (J : SJ) : SI := if (I 0 6) = 0 then I else FI_X10_clear  (FI_X5_copy 86 95 I J) (FJ_X5_copy 86 95 I J)
def FJ_X11_back  (I : SI) (J : SJ) : SJ := if (I 0 6) = 0 then J else FJ_X5_copy 86 95 I J
set_option maxHeartbeats 1000000 in
set_option maxRecDepth 40000 in
theorem c_X11_back {I : SI} {J : SJ} {R : SR} {n g : Nat} {f : Fr} (ro : RO R) (hnn : nK ≤ n) (hf : f.1 = true)    : MM 3 0 0 mX11_back [.ref 0] (eI f I) (eJ f J) R n g (Pd (some (.int (F_X11_back  I J))) (eI f (FI_X11_back  I J)) (eJ f (FJ_X11_back  I J)) R n g) := by
  refine MM.of (by decide) (Nat.le_of_ble_eq_true rfl) fun K ok fin => ?_
  show WK K 0 0 0 [(0, .ref 0)] [] (eI f I) (eJ f J) R n g
  refine w_aload_n ok dX11_back_0 0 rfl ?_
  refine y_getI ok dX11_back_1 (fX11_41 rfl) (congrArg Prod.fst s_0) rfl (ltK hnn (by decide)) (sdc hf (by decide)) ?_
  refine w_if_ne (tgt := 9) ok dX11_back_4 (by decide) (fun c1 => ?_) (fun c1 => ?_)
  · skip
    refine w_aload_n ok dX11_back_9 0 rfl ?_
    refine w_getR ok dX11_back_10 (fX11_34 rfl) (congrArg Prod.fst s_0) rfl (r_0_4 ro) (ltK hnn (by decide)) ?_
    refine w_aload_n ok dX11_back_13 0 rfl ?_
    refine w_getR ok dX11_back_14 (fX11_38 rfl) (congrArg Prod.fst s_0) rfl (r_0_5 ro) (ltK hnn (by decide)) ?_
    refine w_cV (As := [.ref 95]) ok dX11_back_17 iX5_copy (lX11_235 rfl) (rcv cls5 (congrArg Prod.fst s_86)) (ltK hnn (by decide)) (c_X5_copy ro hnn hf  isSc_86 isSc_95) (by decide) rfl (Nat.le_of_ble_eq_true rfl) ?_
    refine w_aload_n ok dX11_back_20 0 rfl ?_
    refine w_getR ok dX11_back_21 (fX11_64 rfl) (congrArg Prod.fst s_0) rfl (r_0_9 ro) (ltK hnn (by decide)) ?_
    refine w_cV (As := []) ok dX11_back_24 iX10_clear (lX11_102 rfl) (rcv cls10 (congrArg Prod.fst s_120)) (ltK hnn (by decide)) (c_X10_clear ro hnn hf  ) (by decide) rfl (Nat.le_of_ble_eq_true rfl) ?_
    refine w_aload_n ok dX11_back_27 0 rfl ?_
    refine w_getR ok dX11_back_28 (fX11_34 rfl) (congrArg Prod.fst s_0) rfl (r_0_4 ro) (ltK hnn (by decide)) ?_
    refine y_getI ok dX11_back_31 (fX11_219 rfl) (congrArg Prod.fst s_86) rfl (ltK hnn (by decide)) (sdc hf (by decide)) ?_
    exact w_iret ok fin dX11_back_34 rfl (by unfold F_X11_back FI_X11_back FJ_X11_back; simp only [if_neg c1]; exact Pd.i)
  · skip
    refine w_iconst (v := (-1)) ok dX11_back_7 (by decide) ?_
    exact w_iret ok fin dX11_back_8 rfl (by unfold F_X11_back FI_X11_back FJ_X11_back; simp only [if_pos c1]; exact Pd.i)
def F_X11_count (a0 : Int32) (I : SI) (J : SJ) : Int32 := if a0 = 0 then I 3 1 else (if a0 = 1 then I 8 1 else (if a0 = 2 then I 13 1 else (if a0 = 3 then I 18 1 else (if a0 = 4 then I 2 11 else (if a0 = 5 then I 86 0 else (if a0 = 6 then F_X5_filmedCount 86 I J else (if a0 = 7 then I 86 2 else (if a0 = 8 then I 86 3 else (if a0 = 9 then I 86 1 else (if a0 = 10 then F_X5_clashCount 86 I J else (if a0 = 11 then I 86 4 else (if a0 = 12 then I 116 0 else (if a0 = 13 then F_X6_knownCount  I J else (if a0 = 14 then I 120 0 else -1))))))))))))))
set_option maxHeartbeats 1430000 in
set_option maxRecDepth 40000 in
theorem c_X11_count {I : SI} {J : SJ} {R : SR} {n g : Nat} {f : Fr} (ro : RO R) (hnn : nK ≤ n) (hf : f.1 = true) (a0 : Int32)   : MM 4 0 0 mX11_count [.ref 0, .int a0] (eI f I) (eJ f J) R n g (Pd (some (.int (F_X11_count a0 I J))) (eI f I) (eJ f J) R n g) := by
  refine MM.of (by decide) (Nat.le_of_ble_eq_true rfl) fun K ok fin => ?_
  show WK K 0 0 0 [(0, .ref 0), (1, .int a0)] [] (eI f I) (eJ f J) R n g
  refine w_iload_n ok dX11_count_0 1 rfl ?_
  by_cases c1 : a0 = 0
  · skip
    refine w_tabIn (tgt := 76) (off := 75) ok dX11_count_1 (by rw [c1]; decide) (by rw [c1]; decide) (by rw [c1]; rfl) (by decide) ?_
    refine w_aload_n ok dX11_count_76 0 rfl ?_
    refine w_getR ok dX11_count_77 (fX11_20 rfl) (congrArg Prod.fst s_0) rfl (r_0_2 ro) (ltK hnn (by decide)) ?_
    refine w_getR ok dX11_count_80 (fX11_112 rfl) (congrArg Prod.fst s_2) rfl (r_2_0 ro) (ltK hnn (by decide)) ?_
    refine y_getI ok dX11_count_83 (fX11_256 rfl) (congrArg Prod.fst s_3) rfl (ltK hnn (by decide)) (sdc hf (by decide)) ?_
    exact w_iret ok fin dX11_count_86 rfl (by unfold F_X11_count; simp only [if_pos c1]; exact Pd.i)
  · skip
    by_cases c2 : a0 = 1
    · skip
      refine w_tabIn (tgt := 87) (off := 86) ok dX11_count_1 (by rw [c2]; decide) (by rw [c2]; decide) (by rw [c2]; rfl) (by decide) ?_
      refine w_aload_n ok dX11_count_87 0 rfl ?_
      refine w_getR ok dX11_count_88 (fX11_20 rfl) (congrArg Prod.fst s_0) rfl (r_0_2 ro) (ltK hnn (by decide)) ?_
      refine w_getR ok dX11_count_91 (fX11_122 rfl) (congrArg Prod.fst s_2) rfl (r_2_1 ro) (ltK hnn (by decide)) ?_
      refine y_getI ok dX11_count_94 (fX11_256 rfl) (congrArg Prod.fst s_8) rfl (ltK hnn (by decide)) (sdc hf (by decide)) ?_
      exact w_iret ok fin dX11_count_97 rfl (by unfold F_X11_count; simp only [if_neg c1]; simp only [if_pos c2]; exact Pd.i)
    · skip
      by_cases c3 : a0 = 2
      · skip
        refine w_tabIn (tgt := 98) (off := 97) ok dX11_count_1 (by rw [c3]; decide) (by rw [c3]; decide) (by rw [c3]; rfl) (by decide) ?_
        refine w_aload_n ok dX11_count_98 0 rfl ?_
        refine w_getR ok dX11_count_99 (fX11_20 rfl) (congrArg Prod.fst s_0) rfl (r_0_2 ro) (ltK hnn (by decide)) ?_
        refine w_getR ok dX11_count_102 (fX11_125 rfl) (congrArg Prod.fst s_2) rfl (r_2_2 ro) (ltK hnn (by decide)) ?_
        refine y_getI ok dX11_count_105 (fX11_256 rfl) (congrArg Prod.fst s_13) rfl (ltK hnn (by decide)) (sdc hf (by decide)) ?_
        exact w_iret ok fin dX11_count_108 rfl (by unfold F_X11_count; simp only [if_neg c1]; simp only [if_neg c2]; simp only [if_pos c3]; exact Pd.i)
      · skip
        by_cases c4 : a0 = 3
        · skip
          refine w_tabIn (tgt := 109) (off := 108) ok dX11_count_1 (by rw [c4]; decide) (by rw [c4]; decide) (by rw [c4]; rfl) (by decide) ?_
          refine w_aload_n ok dX11_count_109 0 rfl ?_
          refine w_getR ok dX11_count_110 (fX11_20 rfl) (congrArg Prod.fst s_0) rfl (r_0_2 ro) (ltK hnn (by decide)) ?_
          refine w_getR ok dX11_count_113 (fX11_128 rfl) (congrArg Prod.fst s_2) rfl (r_2_3 ro) (ltK hnn (by decide)) ?_
          refine y_getI ok dX11_count_116 (fX11_256 rfl) (congrArg Prod.fst s_18) rfl (ltK hnn (by decide)) (sdc hf (by decide)) ?_
          exact w_iret ok fin dX11_count_119 rfl (by unfold F_X11_count; simp only [if_neg c1]; simp only [if_neg c2]; simp only [if_neg c3]; simp only [if_pos c4]; exact Pd.i)
        · skip
          by_cases c5 : a0 = 4
          · skip
            refine w_tabIn (tgt := 120) (off := 119) ok dX11_count_1 (by rw [c5]; decide) (by rw [c5]; decide) (by rw [c5]; rfl) (by decide) ?_
            refine w_aload_n ok dX11_count_120 0 rfl ?_
            refine w_getR ok dX11_count_121 (fX11_20 rfl) (congrArg Prod.fst s_0) rfl (r_0_2 ro) (ltK hnn (by decide)) ?_
            refine y_getI ok dX11_count_124 (fX11_360 rfl) (congrArg Prod.fst s_2) rfl (ltK hnn (by decide)) (sdc hf (by decide)) ?_
            exact w_iret ok fin dX11_count_127 rfl (by unfold F_X11_count; simp only [if_neg c1]; simp only [if_neg c2]; simp only [if_neg c3]; simp only [if_neg c4]; simp only [if_pos c5]; exact Pd.i)
          · skip
            by_cases c6 : a0 = 5
            · skip
              refine w_tabIn (tgt := 128) (off := 127) ok dX11_count_1 (by rw [c6]; decide) (by rw [c6]; decide) (by rw [c6]; rfl) (by decide) ?_
              refine w_aload_n ok dX11_count_128 0 rfl ?_
              refine w_getR ok dX11_count_129 (fX11_34 rfl) (congrArg Prod.fst s_0) rfl (r_0_4 ro) (ltK hnn (by decide)) ?_
              refine y_getI ok dX11_count_132 (fX11_219 rfl) (congrArg Prod.fst s_86) rfl (ltK hnn (by decide)) (sdc hf (by decide)) ?_
              exact w_iret ok fin dX11_count_135 rfl (by unfold F_X11_count; simp only [if_neg c1]; simp only [if_neg c2]; simp only [if_neg c3]; simp only [if_neg c4]; simp only [if_neg c5]; simp only [if_pos c6]; exact Pd.i)
            · skip
              by_cases c7 : a0 = 6
              · skip
                refine w_tabIn (tgt := 136) (off := 135) ok dX11_count_1 (by rw [c7]; decide) (by rw [c7]; decide) (by rw [c7]; rfl) (by decide) ?_
                refine w_aload_n ok dX11_count_136 0 rfl ?_
                refine w_getR ok dX11_count_137 (fX11_34 rfl) (congrArg Prod.fst s_0) rfl (r_0_4 ro) (ltK hnn (by decide)) ?_
                refine w_cV (As := []) ok dX11_count_140 iX5_filmedCount (lX11_237 rfl) (rcv cls5 (congrArg Prod.fst s_86)) (ltK hnn (by decide)) (c_X5_filmedCount ro hnn hf  isSc_86) (by decide) rfl (Nat.le_of_ble_eq_true rfl) ?_
                exact w_iret ok fin dX11_count_143 rfl (by unfold F_X11_count; simp only [if_neg c1]; simp only [if_neg c2]; simp only [if_neg c3]; simp only [if_neg c4]; simp only [if_neg c5]; simp only [if_neg c6]; simp only [if_pos c7]; exact Pd.i)
              · skip
                by_cases c8 : a0 = 7
                · skip
                  refine w_tabIn (tgt := 144) (off := 143) ok dX11_count_1 (by rw [c8]; decide) (by rw [c8]; decide) (by rw [c8]; rfl) (by decide) ?_
                  refine w_aload_n ok dX11_count_144 0 rfl ?_
                  refine w_getR ok dX11_count_145 (fX11_34 rfl) (congrArg Prod.fst s_0) rfl (r_0_4 ro) (ltK hnn (by decide)) ?_
                  refine y_getI ok dX11_count_148 (fX11_241 rfl) (congrArg Prod.fst s_86) rfl (ltK hnn (by decide)) (sdc hf (by decide)) ?_
                  exact w_iret ok fin dX11_count_151 rfl (by unfold F_X11_count; simp only [if_neg c1]; simp only [if_neg c2]; simp only [if_neg c3]; simp only [if_neg c4]; simp only [if_neg c5]; simp only [if_neg c6]; simp only [if_neg c7]; simp only [if_pos c8]; exact Pd.i)
                · skip
                  by_cases c9 : a0 = 8
                  · skip
                    refine w_tabIn (tgt := 152) (off := 151) ok dX11_count_1 (by rw [c9]; decide) (by rw [c9]; decide) (by rw [c9]; rfl) (by decide) ?_
                    refine w_aload_n ok dX11_count_152 0 rfl ?_
                    refine w_getR ok dX11_count_153 (fX11_34 rfl) (congrArg Prod.fst s_0) rfl (r_0_4 ro) (ltK hnn (by decide)) ?_
                    refine y_getI ok dX11_count_156 (fX11_244 rfl) (congrArg Prod.fst s_86) rfl (ltK hnn (by decide)) (sdc hf (by decide)) ?_
                    exact w_iret ok fin dX11_count_159 rfl (by unfold F_X11_count; simp only [if_neg c1]; simp only [if_neg c2]; simp only [if_neg c3]; simp only [if_neg c4]; simp only [if_neg c5]; simp only [if_neg c6]; simp only [if_neg c7]; simp only [if_neg c8]; simp only [if_pos c9]; exact Pd.i)
                  · skip
                    by_cases c10 : a0 = 9
                    · skip
                      refine w_tabIn (tgt := 160) (off := 159) ok dX11_count_1 (by rw [c10]; decide) (by rw [c10]; decide) (by rw [c10]; rfl) (by decide) ?_
                      refine w_aload_n ok dX11_count_160 0 rfl ?_
                      refine w_getR ok dX11_count_161 (fX11_34 rfl) (congrArg Prod.fst s_0) rfl (r_0_4 ro) (ltK hnn (by decide)) ?_
                      refine y_getI ok dX11_count_164 (fX11_247 rfl) (congrArg Prod.fst s_86) rfl (ltK hnn (by decide)) (sdc hf (by decide)) ?_
                      exact w_iret ok fin dX11_count_167 rfl (by unfold F_X11_count; simp only [if_neg c1]; simp only [if_neg c2]; simp only [if_neg c3]; simp only [if_neg c4]; simp only [if_neg c5]; simp only [if_neg c6]; simp only [if_neg c7]; simp only [if_neg c8]; simp only [if_neg c9]; simp only [if_pos c10]; exact Pd.i)
                    · skip
                      by_cases c11 : a0 = 10
                      · skip
                        refine w_tabIn (tgt := 168) (off := 167) ok dX11_count_1 (by rw [c11]; decide) (by rw [c11]; decide) (by rw [c11]; rfl) (by decide) ?_
                        refine w_aload_n ok dX11_count_168 0 rfl ?_
                        refine w_getR ok dX11_count_169 (fX11_34 rfl) (congrArg Prod.fst s_0) rfl (r_0_4 ro) (ltK hnn (by decide)) ?_
                        refine w_cV (As := []) ok dX11_count_172 iX5_clashCount (lX11_250 rfl) (rcv cls5 (congrArg Prod.fst s_86)) (ltK hnn (by decide)) (c_X5_clashCount ro hnn hf  isSc_86) (by decide) rfl (Nat.le_of_ble_eq_true rfl) ?_
                        exact w_iret ok fin dX11_count_175 rfl (by unfold F_X11_count; simp only [if_neg c1]; simp only [if_neg c2]; simp only [if_neg c3]; simp only [if_neg c4]; simp only [if_neg c5]; simp only [if_neg c6]; simp only [if_neg c7]; simp only [if_neg c8]; simp only [if_neg c9]; simp only [if_neg c10]; simp only [if_pos c11]; exact Pd.i)
                      · skip
                        by_cases c12 : a0 = 11
                        · skip
                          refine w_tabIn (tgt := 176) (off := 175) ok dX11_count_1 (by rw [c12]; decide) (by rw [c12]; decide) (by rw [c12]; rfl) (by decide) ?_
                          refine w_aload_n ok dX11_count_176 0 rfl ?_
                          refine w_getR ok dX11_count_177 (fX11_34 rfl) (congrArg Prod.fst s_0) rfl (r_0_4 ro) (ltK hnn (by decide)) ?_
                          refine y_getI ok dX11_count_180 (fX11_363 rfl) (congrArg Prod.fst s_86) rfl (ltK hnn (by decide)) (sdc hf (by decide)) ?_
                          exact w_iret ok fin dX11_count_183 rfl (by unfold F_X11_count; simp only [if_neg c1]; simp only [if_neg c2]; simp only [if_neg c3]; simp only [if_neg c4]; simp only [if_neg c5]; simp only [if_neg c6]; simp only [if_neg c7]; simp only [if_neg c8]; simp only [if_neg c9]; simp only [if_neg c10]; simp only [if_neg c11]; simp only [if_pos c12]; exact Pd.i)
                        · skip
                          by_cases c13 : a0 = 12
                          · skip
                            refine w_tabIn (tgt := 184) (off := 183) ok dX11_count_1 (by rw [c13]; decide) (by rw [c13]; decide) (by rw [c13]; rfl) (by decide) ?_
                            refine w_aload_n ok dX11_count_184 0 rfl ?_
                            refine w_getR ok dX11_count_185 (fX11_57 rfl) (congrArg Prod.fst s_0) rfl (r_0_8 ro) (ltK hnn (by decide)) ?_
                            refine y_getI ok dX11_count_188 (fX11_331 rfl) (congrArg Prod.fst s_116) rfl (ltK hnn (by decide)) (sdc hf (by decide)) ?_
                            exact w_iret ok fin dX11_count_191 rfl (by unfold F_X11_count; simp only [if_neg c1]; simp only [if_neg c2]; simp only [if_neg c3]; simp only [if_neg c4]; simp only [if_neg c5]; simp only [if_neg c6]; simp only [if_neg c7]; simp only [if_neg c8]; simp only [if_neg c9]; simp only [if_neg c10]; simp only [if_neg c11]; simp only [if_neg c12]; simp only [if_pos c13]; exact Pd.i)
                          · skip
                            by_cases c14 : a0 = 13
                            · skip
                              refine w_tabIn (tgt := 192) (off := 191) ok dX11_count_1 (by rw [c14]; decide) (by rw [c14]; decide) (by rw [c14]; rfl) (by decide) ?_
                              refine w_aload_n ok dX11_count_192 0 rfl ?_
                              refine w_getR ok dX11_count_193 (fX11_57 rfl) (congrArg Prod.fst s_0) rfl (r_0_8 ro) (ltK hnn (by decide)) ?_
                              refine w_cV (As := []) ok dX11_count_196 iX6_knownCount (lX11_366 rfl) (rcv cls6 (congrArg Prod.fst s_116)) (ltK hnn (by decide)) (c_X6_knownCount ro hnn hf  ) (by decide) rfl (Nat.le_of_ble_eq_true rfl) ?_
                              exact w_iret ok fin dX11_count_199 rfl (by unfold F_X11_count; simp only [if_neg c1]; simp only [if_neg c2]; simp only [if_neg c3]; simp only [if_neg c4]; simp only [if_neg c5]; simp only [if_neg c6]; simp only [if_neg c7]; simp only [if_neg c8]; simp only [if_neg c9]; simp only [if_neg c10]; simp only [if_neg c11]; simp only [if_neg c12]; simp only [if_neg c13]; simp only [if_pos c14]; exact Pd.i)
                            · skip
                              by_cases c15 : a0 = 14
                              · skip
                                refine w_tabIn (tgt := 200) (off := 199) ok dX11_count_1 (by rw [c15]; decide) (by rw [c15]; decide) (by rw [c15]; rfl) (by decide) ?_
                                refine w_aload_n ok dX11_count_200 0 rfl ?_
                                refine w_getR ok dX11_count_201 (fX11_64 rfl) (congrArg Prod.fst s_0) rfl (r_0_9 ro) (ltK hnn (by decide)) ?_
                                refine y_getI ok dX11_count_204 (fX11_359 rfl) (congrArg Prod.fst s_120) rfl (ltK hnn (by decide)) (sdc hf (by decide)) ?_
                                exact w_iret ok fin dX11_count_207 rfl (by unfold F_X11_count; simp only [if_neg c1]; simp only [if_neg c2]; simp only [if_neg c3]; simp only [if_neg c4]; simp only [if_neg c5]; simp only [if_neg c6]; simp only [if_neg c7]; simp only [if_neg c8]; simp only [if_neg c9]; simp only [if_neg c10]; simp only [if_neg c11]; simp only [if_neg c12]; simp only [if_neg c13]; simp only [if_neg c14]; simp only [if_pos c15]; exact Pd.i)
                              · skip
                                have n16 : a0.toInt ≠ 0 := ne_toInt c1
                                have n17 : a0.toInt ≠ 1 := ne_toInt c2
                                have n18 : a0.toInt ≠ 2 := ne_toInt c3
                                have n19 : a0.toInt ≠ 3 := ne_toInt c4
                                have n20 : a0.toInt ≠ 4 := ne_toInt c5
                                have n21 : a0.toInt ≠ 5 := ne_toInt c6
                                have n22 : a0.toInt ≠ 6 := ne_toInt c7
                                have n23 : a0.toInt ≠ 7 := ne_toInt c8
                                have n24 : a0.toInt ≠ 8 := ne_toInt c9
                                have n25 : a0.toInt ≠ 9 := ne_toInt c10
                                have n26 : a0.toInt ≠ 10 := ne_toInt c11
                                have n27 : a0.toInt ≠ 11 := ne_toInt c12
                                have n28 : a0.toInt ≠ 12 := ne_toInt c13
                                have n29 : a0.toInt ≠ 13 := ne_toInt c14
                                have n30 : a0.toInt ≠ 14 := ne_toInt c15
                                refine w_tabOut (tgt := 208) ok dX11_count_1 (by omega) (by decide) ?_
                                refine w_iconst (v := (-1)) ok dX11_count_208 (by decide) ?_
                                exact w_iret ok fin dX11_count_209 rfl (by unfold F_X11_count; simp only [if_neg c1]; simp only [if_neg c2]; simp only [if_neg c3]; simp only [if_neg c4]; simp only [if_neg c5]; simp only [if_neg c6]; simp only [if_neg c7]; simp only [if_neg c8]; simp only [if_neg c9]; simp only [if_neg c10]; simp only [if_neg c11]; simp only [if_neg c12]; simp only [if_neg c13]; simp only [if_neg c14]; simp only [if_neg c15]; exact Pd.i)
def B_X12_token_w0 (I : SI) (J : SJ) (s0 : SI) : (SI) ⊕ (SI) := if (F_X12_here  s0 J) = 10 then .inl (u2 s0 130 26 ((s0 130 26) + 1)) else (if (F_X12_here  s0 J) = 32 then .inl (u2 s0 130 26 ((s0 130 26) + 1)) else .inr s0)
def F_X12_token_w0 (I : SI) (J : SJ) (s0 : SI) : SI := (itW (B_X12_token_w0 I J) 800 s0).getD s0
def S1_X12_token (I : SI) (J : SJ) : Int32 := F_X12_isSmall (F_X12_here  (u2 (F_X12_token_w0 I J I) 130 27 (((F_X12_token_w0 I J I)) 130 26)) J) (u2 (F_X12_token_w0 I J I) 130 27 (((F_X12_token_w0 I J I)) 130 26)) J
def S2_X12_token (I : SI) (J : SJ) : Int32 := F_X12_isDigit (F_X12_here  (u2 (F_X12_token_w0 I J I) 130 27 (((F_X12_token_w0 I J I)) 130 26)) J) (u2 (F_X12_token_w0 I J I) 130 27 (((F_X12_token_w0 I J I)) 130 26)) J
def S3_X12_token (I : SI) (J : SJ) : SI := FI_X12_sign (F_X12_here  (u2 (F_X12_token_w0 I J I) 130 27 (((F_X12_token_w0 I J I)) 130 26)) J) (u2 (F_X12_token_w0 I J I) 130 27 (((F_X12_token_w0 I J I)) 130 26)) J
def S4_X12_token (I : SI) (J : SJ) : SI := u2 (u2 (F_X12_token_w0 I J I) 130 27 (((F_X12_token_w0 I J I)) 130 26)) 130 28 2
def S5_X12_token (I : SI) (J : SJ) (s162 : SI) : SI := u2 s162 130 29 ((((10 : Int32) * (s162 130 29)) + (F_X12_here  s162 J)) - 48)
def S6_X12_token (I : SI) (J : SJ) (s162 : SI) : SI := u2 (S5_X12_token I J s162) 130 26 ((((S5_X12_token I J s162)) 130 26) + 1)
def S7_X12_token (I : SI) (J : SJ) (s162 : SI) : SI := u2 (u2 s162 130 29 (s162 130 29)) 130 26 (((u2 s162 130 29 (s162 130 29)) 130 26) + 1)
def B_X12_token_w162 (I : SI) (J : SJ) (s162 : SI) : (SI) ⊕ (SI) := if (F_X12_isDigit (F_X12_here  s162 J) s162 J) = 0 then .inr s162 else (if (s162 130 29) ≤ 99999 then .inl (S6_X12_token I J s162) else .inl (S7_X12_token I J s162))
def F_X12_token_w162 (I : SI) (J : SJ) (s0 : SI) : SI := (itW (B_X12_token_w162 I J) 800 s0).getD s0
def B_X12_token_w64 (I : SI) (J : SJ) (s64 : SI) : (SI) ⊕ (SI) := if (F_X12_isSmall (F_X12_here  s64 J) s64 J) = 0 then .inr s64 else .inl (u2 s64 130 26 ((s64 130 26) + 1))
def F_X12_token_w64 (I : SI) (J : SJ) (s0 : SI) : SI := (itW (B_X12_token_w64 I J) 800 s0).getD s0
def S8_X12_token (I : SI) (J : SJ) : SI := (F_X12_token_w64 I J (u2 (F_X12_token_w0 I J I) 130 27 (((F_X12_token_w0 I J I)) 130 26)))
def S10_X12_token (I : SI) (J : SJ) : Int32 := ((u2 (S8_X12_token I J) 130 29 (F_X12_word  (S8_X12_token I J) J)) 130 26) - ((u2 (S8_X12_token I J) 130 29 (F_X12_word  (S8_X12_token I J) J)) 130 27)
def T_X12_token_j127 (I : SI) (J : SJ) : Int32 := if ((u2 (S8_X12_token I J) 130 29 (F_X12_word  (S8_X12_token I J) J)) 130 29) = (-1) then (if (S10_X12_token I J) ≤ 6 then 1 else 5) else 0
def S9_X12_token (I : SI) (J : SJ) : SI := u2 (u2 (S8_X12_token I J) 130 29 (F_X12_word  (S8_X12_token I J) J)) 130 28 (T_X12_token_j127 I J)
def S11_X12_token (I : SI) (J : SJ) : SI := u2 (u2 (F_X12_token_w0 I J I) 130 27 (((F_X12_token_w0 I J I)) 130 26)) 130 28 4
def FI_X12_token  (I : SI) (J : SJ) : SI := if (F_X12_here  (u2 (F_X12_token_w0 I J I) 130 27 (((F_X12_token_w0 I J I)) 130 26)) J) = (-1) then (S11_X12_token I J) else (if (S1_X12_token I J) = 0 then (if (S2_X12_token I J) = 0 then (S3_X12_token I J) else (F_X12_token_w162 I J (u2 (S4_X12_token I J) 130 29 0))) else (if (((S9_X12_token I J)) 130 28) = 1 then FI_X12_name  (S9_X12_token I J) J else (S9_X12_token I J)))
def H_X12_token  (I : SI) (J : SJ) : Prop := ((itW (B_X12_token_w0 I J) 800 I).isSome = true) ∧ (H_X12_here  (u2 (F_X12_token_w0 I J I) 130 27 (((F_X12_token_w0 I J I)) 130 26)) J) ∧ (¬ ((F_X12_here  (u2 (F_X12_token_w0 I J I) 130 27 (((F_X12_token_w0 I J I)) 130 26)) J) = (-1)) → (S1_X12_token I J) = 0 → (S2_X12_token I J) = 0 → H_X12_sign (F_X12_here  (u2 (F_X12_token_w0 I J I) 130 27 (((F_X12_token_w0 I J I)) 130 26)) J) (u2 (F_X12_token_w0 I J I) 130 27 (((F_X12_token_w0 I J I)) 130 26)) J) ∧ (¬ ((F_X12_here  (u2 (F_X12_token_w0 I J I) 130 27 (((F_X12_token_w0 I J I)) 130 26)) J) = (-1)) → (S1_X12_token I J) = 0 → ¬ ((S2_X12_token I J) = 0) → (itW (B_X12_token_w162 I J) 800 (u2 (S4_X12_token I J) 130 29 0)).isSome = true) ∧ (¬ ((F_X12_here  (u2 (F_X12_token_w0 I J I) 130 27 (((F_X12_token_w0 I J I)) 130 26)) J) = (-1)) → (S1_X12_token I J) = 0 → ¬ ((S2_X12_token I J) = 0) → ∀ (n162 : Nat) (s162 : SI), wN (B_X12_token_w162 I J) n162 (u2 (S4_X12_token I J) 130 29 0) = some s162 → H_X12_here  s162 J) ∧ (¬ ((F_X12_here  (u2 (F_X12_token_w0 I J I) 130 27 (((F_X12_token_w0 I J I)) 130 26)) J) = (-1)) → (S1_X12_token I J) = 0 → ¬ ((S2_X12_token I J) = 0) → ∀ (n162 : Nat) (s162 : SI), wN (B_X12_token_w162 I J) n162 (u2 (S4_X12_token I J) 130 29 0) = some s162 → ¬ ((F_X12_isDigit (F_X12_here  s162 J) s162 J) = 0) → (s162 130 29) ≤ 99999 → H_X12_here  s162 J) ∧ (¬ ((F_X12_here  (u2 (F_X12_token_w0 I J I) 130 27 (((F_X12_token_w0 I J I)) 130 26)) J) = (-1)) → ¬ ((S1_X12_token I J) = 0) → (itW (B_X12_token_w64 I J) 800 (u2 (F_X12_token_w0 I J I) 130 27 (((F_X12_token_w0 I J I)) 130 26))).isSome = true) ∧ (¬ ((F_X12_here  (u2 (F_X12_token_w0 I J I) 130 27 (((F_X12_token_w0 I J I)) 130 26)) J) = (-1)) → ¬ ((S1_X12_token I J) = 0) → H_X12_word  (S8_X12_token I J) J) ∧ (¬ ((F_X12_here  (u2 (F_X12_token_w0 I J I) 130 27 (((F_X12_token_w0 I J I)) 130 26)) J) = (-1)) → ¬ ((S1_X12_token I J) = 0) → (((S9_X12_token I J)) 130 28) = 1 → H_X12_name  (S9_X12_token I J) J) ∧ (¬ ((F_X12_here  (u2 (F_X12_token_w0 I J I) 130 27 (((F_X12_token_w0 I J I)) 130 26)) J) = (-1)) → ¬ ((S1_X12_token I J) = 0) → ∀ (n64 : Nat) (s64 : SI), wN (B_X12_token_w64 I J) n64 (u2 (F_X12_token_w0 I J I) 130 27 (((F_X12_token_w0 I J I)) 130 26)) = some s64 → H_X12_here  s64 J) ∧ (∀ (n0 : Nat) (s0 : SI), wN (B_X12_token_w0 I J) n0 I = some s0 → H_X12_here  s0 J) ∧ (∀ (n0 : Nat) (s0 : SI), wN (B_X12_token_w0 I J) n0 I = some s0 → ¬ ((F_X12_here  s0 J) = 10) → H_X12_here  s0 J)
set_option maxHeartbeats 2420000 in
set_option maxRecDepth 40000 in
theorem c_X12_token {I : SI} {J : SJ} {R : SR} {n g : Nat} {f : Fr} (ro : RM R) (hnn : nM ≤ n) (hf : f.1 = false)   (hp : H_X12_token  I J) : MM 5 0 0 mX12_token [.ref 130] (eI f I) (eJ f J) R n g (Pd none (eI f (FI_X12_token  I J)) (eJ f J) R n g) := by
  refine MM.of (by decide) (Nat.le_of_ble_eq_true rfl) fun K ok fin => ?_
  show WK K 0 0 0 [(0, .ref 130)] [] (eI f I) (eJ f J) R n g
  obtain ⟨hp1, hp2, hp3, hp4, hp5, hp6, hp7, hp8, hp9, hp10, hp11, hp12⟩ := hp
  refine loop_w (fun (s0 : SI) => WK K 0 0 0 [(0, .ref 130)] [] (eI f s0) (eJ f J) R n g) (fun (s0 : SI) => WK K 0 0 31 [(0, .ref 130)] [] (eI f s0) (eJ f J) R n g) (B_X12_token_w0 I J) 800 I (F_X12_token_w0 I J I) (itW_some (hp1)) ?_ ?_
  · show WK K 0 0 31 [(0, .ref 130)] [] (eI f (F_X12_token_w0 I J I)) (eJ f J) R n g
    refine w_aload_n ok dX12_token_31 0 rfl ?_
    refine w_aload_n ok dX12_token_32 0 rfl ?_
    refine y_getI ok dX12_token_33 (fX12_175 rfl) (congrArg Prod.fst s_130) rfl (ltM hnn (by decide)) (sdm hf (by decide)) ?_
    refine y_putI ok dX12_token_36 (fwX12_185 rfl) (congrArg Prod.fst s_130) rfl (ltM hnn (by decide)) (sdm hf (by decide)) ?_
    refine w_aload_n ok dX12_token_39 0 rfl ?_
    refine w_cV (As := []) ok dX12_token_40 iX12_here (lX12_181 rfl) (rcv cls12 (congrArg Prod.fst s_130)) (ltM hnn (by decide)) (c_X12_here ro hnn hf   (hp2)) (by decide) rfl (Nat.le_of_ble_eq_true rfl) ?_
    refine w_istore_n ok dX12_token_43 rfl (by decide) rfl ?_
    refine w_iload_n ok dX12_token_44 0 rfl ?_
    refine w_iconst (v := (-1)) ok dX12_token_45 (by decide) ?_
    refine w_icmp_ne (tgt := 57) ok dX12_token_46 (by decide) (fun c1 => ?_) (fun c1 => ?_)
    · skip
      refine w_iload_n ok dX12_token_57 0 rfl ?_
      refine w_cS (As := [.int (F_X12_here  (u2 (F_X12_token_w0 I J I) 130 27 (((F_X12_token_w0 I J I)) 130 26)) J)]) ok dX12_token_58 iX12_isSmall (lX12_191 rfl) (c_X12_isSmall ro hnn hf (F_X12_here  (u2 (F_X12_token_w0 I J I) 130 27 (((F_X12_token_w0 I J I)) 130 26)) J) ) (by decide) rfl (Nat.le_of_ble_eq_true rfl) ?_
      show WK K 0 0 61 [(1, .int (F_X12_here  (u2 (F_X12_token_w0 I J I) 130 27 (((F_X12_token_w0 I J I)) 130 26)) J)), (0, .ref 130)] [.int (S1_X12_token I J)] (eI f (u2 (F_X12_token_w0 I J I) 130 27 (((F_X12_token_w0 I J I)) 130 26))) (eJ f J) R n g
      refine w_if_eq (tgt := 145) ok dX12_token_61 (by decide) (fun c2 => ?_) (fun c2 => ?_)
      · skip
        refine w_iload_n ok dX12_token_145 0 rfl ?_
        refine w_cS (As := [.int (F_X12_here  (u2 (F_X12_token_w0 I J I) 130 27 (((F_X12_token_w0 I J I)) 130 26)) J)]) ok dX12_token_146 iX12_isDigit (lX12_204 rfl) (c_X12_isDigit ro hnn hf (F_X12_here  (u2 (F_X12_token_w0 I J I) 130 27 (((F_X12_token_w0 I J I)) 130 26)) J) ) (by decide) rfl (Nat.le_of_ble_eq_true rfl) ?_
        show WK K 0 0 149 [(1, .int (F_X12_here  (u2 (F_X12_token_w0 I J I) 130 27 (((F_X12_token_w0 I J I)) 130 26)) J)), (0, .ref 130)] [.int (S2_X12_token I J)] (eI f (u2 (F_X12_token_w0 I J I) 130 27 (((F_X12_token_w0 I J I)) 130 26))) (eJ f J) R n g
        refine w_if_eq (tgt := 220) ok dX12_token_149 (by decide) (fun c3 => ?_) (fun c3 => ?_)
        · skip
          refine w_aload_n ok dX12_token_220 1 rfl ?_
          refine w_iload_n ok dX12_token_221 0 rfl ?_
          refine w_cV (As := [.int (F_X12_here  (u2 (F_X12_token_w0 I J I) 130 27 (((F_X12_token_w0 I J I)) 130 26)) J)]) ok dX12_token_222 iX12_sign (lX12_208 rfl) (rcv cls12 (congrArg Prod.fst s_130)) (ltM hnn (by decide)) (c_X12_sign ro hnn hf (F_X12_here  (u2 (F_X12_token_w0 I J I) 130 27 (((F_X12_token_w0 I J I)) 130 26)) J)  (hp3 c1 c2 c3)) (by decide) rfl (Nat.le_of_ble_eq_true rfl) ?_
          show WK K 0 0 225 [(1, .int (F_X12_here  (u2 (F_X12_token_w0 I J I) 130 27 (((F_X12_token_w0 I J I)) 130 26)) J)), (0, .ref 130)] [] (eI f (S3_X12_token I J)) (eJ f J) R n g
          exact w_vret ok fin dX12_token_225 rfl (by unfold FI_X12_token; simp only [if_neg c1]; simp only [if_pos c2]; simp only [if_pos c3]; exact Pd.i)
        · skip
          refine w_aload_n ok dX12_token_152 1 rfl ?_
          refine w_iconst (v := 2) ok dX12_token_153 (by decide) ?_
          refine y_putI ok dX12_token_154 (fwX12_188 rfl) (congrArg Prod.fst s_130) rfl (ltM hnn (by decide)) (sdm hf (by decide)) ?_
          show WK K 0 0 157 [(1, .int (F_X12_here  (u2 (F_X12_token_w0 I J I) 130 27 (((F_X12_token_w0 I J I)) 130 26)) J)), (0, .ref 130)] [] (eI f (S4_X12_token I J)) (eJ f J) R n g
          refine w_aload_n ok dX12_token_157 1 rfl ?_
          refine w_iconst (v := 0) ok dX12_token_158 (by decide) ?_
          refine y_putI ok dX12_token_159 (fwX12_198 rfl) (congrArg Prod.fst s_130) rfl (ltM hnn (by decide)) (sdm hf (by decide)) ?_
          refine w_loc [1, 0] rfl ?_
          refine loop_w (fun (s162 : SI) => WK K 0 0 162 [(0, .ref 130), (1, .int (F_X12_here  (u2 (F_X12_token_w0 I J I) 130 27 (((F_X12_token_w0 I J I)) 130 26)) J))] [] (eI f s162) (eJ f J) R n g) (fun (s162 : SI) => WK K 0 0 225 [(0, .ref 130), (1, .int (F_X12_here  (u2 (F_X12_token_w0 I J I) 130 27 (((F_X12_token_w0 I J I)) 130 26)) J))] [] (eI f s162) (eJ f J) R n g) (B_X12_token_w162 I J) 800 (u2 (S4_X12_token I J) 130 29 0) (F_X12_token_w162 I J (u2 (S4_X12_token I J) 130 29 0)) (itW_some (hp4 c1 c2 c3)) ?_ ?_
          · show WK K 0 0 225 [(0, .ref 130), (1, .int (F_X12_here  (u2 (F_X12_token_w0 I J I) 130 27 (((F_X12_token_w0 I J I)) 130 26)) J))] [] (eI f ((F_X12_token_w162 I J (u2 (S4_X12_token I J) 130 29 0)))) (eJ f J) R n g
            exact w_vret ok fin dX12_token_225 rfl (by unfold FI_X12_token; simp only [if_neg c1]; simp only [if_pos c2]; simp only [if_neg c3]; exact Pd.i)
          · intro n162 s162 hs162 kc162 kx162
            show WK K 0 0 162 [(0, .ref 130), (1, .int (F_X12_here  (u2 (F_X12_token_w0 I J I) 130 27 (((F_X12_token_w0 I J I)) 130 26)) J))] [] (eI f s162) (eJ f J) R n g
            refine w_aload_n ok dX12_token_162 0 rfl ?_
            refine w_cV (As := []) ok dX12_token_163 iX12_here (lX12_181 rfl) (rcv cls12 (congrArg Prod.fst s_130)) (ltM hnn (by decide)) (c_X12_here ro hnn hf   (hp5 c1 c2 c3 n162 s162 hs162)) (by decide) rfl (Nat.le_of_ble_eq_true rfl) ?_
            refine w_cS (As := [.int (F_X12_here  s162 J)]) ok dX12_token_166 iX12_isDigit (lX12_204 rfl) (c_X12_isDigit ro hnn hf (F_X12_here  s162 J) ) (by decide) rfl (Nat.le_of_ble_eq_true rfl) ?_
            refine w_if_eq (tgt := 225) ok dX12_token_169 (by decide) (fun c4 => ?_) (fun c4 => ?_)
            · skip
              have eB : B_X12_token_w162 I J s162 = .inr s162 := by
                unfold B_X12_token_w162; exact (if_pos c4).trans (rfl)
              refine w_loc [0, 1] rfl ?_
              have kk := kx162 _ eB
              exact kk
            · skip
              refine w_aload_n ok dX12_token_172 0 rfl ?_
              refine w_aload_n ok dX12_token_173 0 rfl ?_
              refine y_getI ok dX12_token_174 (fX12_198 rfl) (congrArg Prod.fst s_130) rfl (ltM hnn (by decide)) (sdm hf (by decide)) ?_
              refine w_ldc ok dX12_token_177 kX12_207 ?_
              refine w_icmp_le (tgt := 189) ok dX12_token_179 (by decide) (fun c5 => ?_) (fun c5 => ?_)
              · skip
                refine w_bipush (v := 10) ok dX12_token_189 (by decide) ?_
                refine w_aload_n ok dX12_token_191 0 rfl ?_
                refine y_getI ok dX12_token_192 (fX12_198 rfl) (congrArg Prod.fst s_130) rfl (ltM hnn (by decide)) (sdm hf (by decide)) ?_
                refine w_imul ok dX12_token_195 ?_
                refine w_aload_n ok dX12_token_196 0 rfl ?_
                refine w_cV (As := []) ok dX12_token_197 iX12_here (lX12_181 rfl) (rcv cls12 (congrArg Prod.fst s_130)) (ltM hnn (by decide)) (c_X12_here ro hnn hf   (hp6 c1 c2 c3 n162 s162 hs162 c4 c5)) (by decide) rfl (Nat.le_of_ble_eq_true rfl) ?_
                show WK K 0 0 200 [(0, .ref 130), (1, .int (F_X12_here  (u2 (F_X12_token_w0 I J I) 130 27 (((F_X12_token_w0 I J I)) 130 26)) J))] [.int (F_X12_here  s162 J), .int ((10 : Int32) * (s162 130 29)), .ref 130] (eI f s162) (eJ f J) R n g
                refine w_iadd ok dX12_token_200 ?_
                refine w_bipush (v := 48) ok dX12_token_201 (by decide) ?_
                refine w_isub ok dX12_token_203 ?_
                refine y_putI ok dX12_token_204 (fwX12_198 rfl) (congrArg Prod.fst s_130) rfl (ltM hnn (by decide)) (sdm hf (by decide)) ?_
                show WK K 0 0 207 [(0, .ref 130), (1, .int (F_X12_here  (u2 (F_X12_token_w0 I J I) 130 27 (((F_X12_token_w0 I J I)) 130 26)) J))] [] (eI f (S5_X12_token I J s162)) (eJ f J) R n g
                refine w_aload_n ok dX12_token_207 0 rfl ?_
                refine w_dup ok dX12_token_208 rfl ?_
                refine y_getI ok dX12_token_209 (fX12_175 rfl) (congrArg Prod.fst s_130) rfl (ltM hnn (by decide)) (sdm hf (by decide)) ?_
                refine w_iconst (v := 1) ok dX12_token_212 (by decide) ?_
                refine w_iadd ok dX12_token_213 ?_
                refine y_putI ok dX12_token_214 (fwX12_175 rfl) (congrArg Prod.fst s_130) rfl (ltM hnn (by decide)) (sdm hf (by decide)) ?_
                show WK K 0 0 217 [(0, .ref 130), (1, .int (F_X12_here  (u2 (F_X12_token_w0 I J I) 130 27 (((F_X12_token_w0 I J I)) 130 26)) J))] [] (eI f (S6_X12_token I J s162)) (eJ f J) R n g
                refine w_goto (tgt := 162) ok dX12_token_217 (by decide) ?_
                have eB : B_X12_token_w162 I J s162 = .inl (S6_X12_token I J s162) := by
                  unfold B_X12_token_w162; exact (if_neg c4).trans ((if_pos c5).trans (rfl))
                refine w_loc [0, 1] rfl ?_
                have kk := kc162 _ eB
                exact kk
              · skip
                refine w_aload_n ok dX12_token_182 0 rfl ?_
                refine y_getI ok dX12_token_183 (fX12_198 rfl) (congrArg Prod.fst s_130) rfl (ltM hnn (by decide)) (sdm hf (by decide)) ?_
                refine w_goto (tgt := 204) ok dX12_token_186 (by decide) ?_
                refine y_putI ok dX12_token_204 (fwX12_198 rfl) (congrArg Prod.fst s_130) rfl (ltM hnn (by decide)) (sdm hf (by decide)) ?_
                refine w_aload_n ok dX12_token_207 0 rfl ?_
                refine w_dup ok dX12_token_208 rfl ?_
                refine y_getI ok dX12_token_209 (fX12_175 rfl) (congrArg Prod.fst s_130) rfl (ltM hnn (by decide)) (sdm hf (by decide)) ?_
                refine w_iconst (v := 1) ok dX12_token_212 (by decide) ?_
                refine w_iadd ok dX12_token_213 ?_
                refine y_putI ok dX12_token_214 (fwX12_175 rfl) (congrArg Prod.fst s_130) rfl (ltM hnn (by decide)) (sdm hf (by decide)) ?_
                show WK K 0 0 217 [(0, .ref 130), (1, .int (F_X12_here  (u2 (F_X12_token_w0 I J I) 130 27 (((F_X12_token_w0 I J I)) 130 26)) J))] [] (eI f (S7_X12_token I J s162)) (eJ f J) R n g
                refine w_goto (tgt := 162) ok dX12_token_217 (by decide) ?_
                have eB : B_X12_token_w162 I J s162 = .inl (S7_X12_token I J s162) := by
                  unfold B_X12_token_w162; exact (if_neg c4).trans ((if_neg c5).trans (rfl))
                refine w_loc [0, 1] rfl ?_
                have kk := kc162 _ eB
                exact kk
      · skip
        refine w_loc [1, 0] rfl ?_
        refine loop_w (fun (s64 : SI) => WK K 0 0 64 [(0, .ref 130), (1, .int (F_X12_here  (u2 (F_X12_token_w0 I J I) 130 27 (((F_X12_token_w0 I J I)) 130 26)) J))] [] (eI f s64) (eJ f J) R n g) (fun (s64 : SI) => WK K 0 0 87 [(0, .ref 130), (1, .int (F_X12_here  (u2 (F_X12_token_w0 I J I) 130 27 (((F_X12_token_w0 I J I)) 130 26)) J))] [] (eI f s64) (eJ f J) R n g) (B_X12_token_w64 I J) 800 (u2 (F_X12_token_w0 I J I) 130 27 (((F_X12_token_w0 I J I)) 130 26)) (F_X12_token_w64 I J (u2 (F_X12_token_w0 I J I) 130 27 (((F_X12_token_w0 I J I)) 130 26))) (itW_some (hp7 c1 c2)) ?_ ?_
        · show WK K 0 0 87 [(0, .ref 130), (1, .int (F_X12_here  (u2 (F_X12_token_w0 I J I) 130 27 (((F_X12_token_w0 I J I)) 130 26)) J))] [] (eI f ((F_X12_token_w64 I J (u2 (F_X12_token_w0 I J I) 130 27 (((F_X12_token_w0 I J I)) 130 26))))) (eJ f J) R n g
          refine w_aload_n ok dX12_token_87 0 rfl ?_
          show WK K 0 0 88 [(0, .ref 130), (1, .int (F_X12_here  (u2 (F_X12_token_w0 I J I) 130 27 (((F_X12_token_w0 I J I)) 130 26)) J))] [.ref 130] (eI f (S8_X12_token I J)) (eJ f J) R n g
          refine w_aload_n ok dX12_token_88 0 rfl ?_
          refine w_cV (As := []) ok dX12_token_89 iX12_word (lX12_195 rfl) (rcv cls12 (congrArg Prod.fst s_130)) (ltM hnn (by decide)) (c_X12_word ro hnn hf   (hp8 c1 c2)) (by decide) rfl (Nat.le_of_ble_eq_true rfl) ?_
          show WK K 0 0 92 [(0, .ref 130), (1, .int (F_X12_here  (u2 (F_X12_token_w0 I J I) 130 27 (((F_X12_token_w0 I J I)) 130 26)) J))] [.int (F_X12_word  (S8_X12_token I J) J), .ref 130] (eI f (S8_X12_token I J)) (eJ f J) R n g
          refine y_putI ok dX12_token_92 (fwX12_198 rfl) (congrArg Prod.fst s_130) rfl (ltM hnn (by decide)) (sdm hf (by decide)) ?_
          refine w_aload_n ok dX12_token_95 0 rfl ?_
          refine w_aload_n ok dX12_token_96 0 rfl ?_
          refine y_getI ok dX12_token_97 (fX12_198 rfl) (congrArg Prod.fst s_130) rfl (ltM hnn (by decide)) (sdm hf (by decide)) ?_
          refine w_iconst (v := (-1)) ok dX12_token_100 (by decide) ?_
          have jn6 : WK K 0 0 127 [(0, .ref 130), (1, .int (F_X12_here  (u2 (F_X12_token_w0 I J I) 130 27 (((F_X12_token_w0 I J I)) 130 26)) J))] [.int (T_X12_token_j127 I J), .ref 130] (eI f (u2 (S8_X12_token I J) 130 29 (F_X12_word  (S8_X12_token I J) J))) (eJ f J) R n g := by
            refine y_putI ok dX12_token_127 (fwX12_188 rfl) (congrArg Prod.fst s_130) rfl (ltM hnn (by decide)) (sdm hf (by decide)) ?_
            show WK K 0 0 130 [(0, .ref 130), (1, .int (F_X12_here  (u2 (F_X12_token_w0 I J I) 130 27 (((F_X12_token_w0 I J I)) 130 26)) J))] [] (eI f (S9_X12_token I J)) (eJ f J) R n g
            refine w_aload_n ok dX12_token_130 0 rfl ?_
            refine y_getI ok dX12_token_131 (fX12_188 rfl) (congrArg Prod.fst s_130) rfl (ltM hnn (by decide)) (sdm hf (by decide)) ?_
            refine w_iconst (v := 1) ok dX12_token_134 (by decide) ?_
            refine w_icmp_ne (tgt := 225) ok dX12_token_135 (by decide) (fun c7 => ?_) (fun c7 => ?_)
            · skip
              exact w_vret ok fin dX12_token_225 rfl (by unfold FI_X12_token; simp only [if_neg c1]; simp only [if_neg c2]; simp only [if_neg c7]; exact Pd.i)
            · skip
              refine w_aload_n ok dX12_token_138 0 rfl ?_
              refine w_cV (As := []) ok dX12_token_139 iX12_name (lX12_201 rfl) (rcv cls12 (congrArg Prod.fst s_130)) (ltM hnn (by decide)) (c_X12_name ro hnn hf   (hp9 c1 c2 c7)) (by decide) rfl (Nat.le_of_ble_eq_true rfl) ?_
              refine w_goto (tgt := 225) ok dX12_token_142 (by decide) ?_
              exact w_vret ok fin dX12_token_225 rfl (by unfold FI_X12_token; simp only [if_neg c1]; simp only [if_neg c2]; simp only [if_pos c7]; exact Pd.i)
          refine w_icmp_eq (tgt := 108) ok dX12_token_101 (by decide) (fun c8 => ?_) (fun c8 => ?_)
          · skip
            refine w_aload_n ok dX12_token_108 0 rfl ?_
            refine y_getI ok dX12_token_109 (fX12_175 rfl) (congrArg Prod.fst s_130) rfl (ltM hnn (by decide)) (sdm hf (by decide)) ?_
            refine w_aload_n ok dX12_token_112 0 rfl ?_
            refine y_getI ok dX12_token_113 (fX12_185 rfl) (congrArg Prod.fst s_130) rfl (ltM hnn (by decide)) (sdm hf (by decide)) ?_
            refine w_isub ok dX12_token_116 ?_
            show WK K 0 0 117 [(0, .ref 130), (1, .int (F_X12_here  (u2 (F_X12_token_w0 I J I) 130 27 (((F_X12_token_w0 I J I)) 130 26)) J))] [.int (S10_X12_token I J), .ref 130] (eI f (u2 (S8_X12_token I J) 130 29 (F_X12_word  (S8_X12_token I J) J))) (eJ f J) R n g
            refine w_bipush (v := 6) ok dX12_token_117 (by decide) ?_
            refine w_icmp_le (tgt := 126) ok dX12_token_119 (by decide) (fun c9 => ?_) (fun c9 => ?_)
            · skip
              refine w_iconst (v := 1) ok dX12_token_126 (by decide) ?_
              have eT : (T_X12_token_j127 I J) = 1 := by
                unfold T_X12_token_j127; exact (if_pos c8).trans ((if_pos c9).trans (rfl))
              refine w_loc [0, 1] rfl ?_
              have jj := jn6
              rw [eT] at jj
              exact jj
            · skip
              refine w_iconst (v := 5) ok dX12_token_122 (by decide) ?_
              refine w_goto (tgt := 127) ok dX12_token_123 (by decide) ?_
              have eT : (T_X12_token_j127 I J) = 5 := by
                unfold T_X12_token_j127; exact (if_pos c8).trans ((if_neg c9).trans (rfl))
              refine w_loc [0, 1] rfl ?_
              have jj := jn6
              rw [eT] at jj
              exact jj
          · skip
            refine w_iconst (v := 0) ok dX12_token_104 (by decide) ?_
            refine w_goto (tgt := 127) ok dX12_token_105 (by decide) ?_
            have eT : (T_X12_token_j127 I J) = 0 := by
              unfold T_X12_token_j127; exact (if_neg c8).trans (rfl)
            refine w_loc [0, 1] rfl ?_
            have jj := jn6
            rw [eT] at jj
            exact jj
        · intro n64 s64 hs64 kc64 kx64
          show WK K 0 0 64 [(0, .ref 130), (1, .int (F_X12_here  (u2 (F_X12_token_w0 I J I) 130 27 (((F_X12_token_w0 I J I)) 130 26)) J))] [] (eI f s64) (eJ f J) R n g
          refine w_aload_n ok dX12_token_64 0 rfl ?_
          refine w_cV (As := []) ok dX12_token_65 iX12_here (lX12_181 rfl) (rcv cls12 (congrArg Prod.fst s_130)) (ltM hnn (by decide)) (c_X12_here ro hnn hf   (hp10 c1 c2 n64 s64 hs64)) (by decide) rfl (Nat.le_of_ble_eq_true rfl) ?_
          refine w_cS (As := [.int (F_X12_here  s64 J)]) ok dX12_token_68 iX12_isSmall (lX12_191 rfl) (c_X12_isSmall ro hnn hf (F_X12_here  s64 J) ) (by decide) rfl (Nat.le_of_ble_eq_true rfl) ?_
          refine w_if_eq (tgt := 87) ok dX12_token_71 (by decide) (fun c10 => ?_) (fun c10 => ?_)
          · skip
            have eB : B_X12_token_w64 I J s64 = .inr s64 := by
              unfold B_X12_token_w64; exact (if_pos c10).trans (rfl)
            refine w_loc [0, 1] rfl ?_
            have kk := kx64 _ eB
            exact kk
          · skip
            refine w_aload_n ok dX12_token_74 0 rfl ?_
            refine w_dup ok dX12_token_75 rfl ?_
            refine y_getI ok dX12_token_76 (fX12_175 rfl) (congrArg Prod.fst s_130) rfl (ltM hnn (by decide)) (sdm hf (by decide)) ?_
            refine w_iconst (v := 1) ok dX12_token_79 (by decide) ?_
            refine w_iadd ok dX12_token_80 ?_
            refine y_putI ok dX12_token_81 (fwX12_175 rfl) (congrArg Prod.fst s_130) rfl (ltM hnn (by decide)) (sdm hf (by decide)) ?_
            refine w_goto (tgt := 64) ok dX12_token_84 (by decide) ?_
            have eB : B_X12_token_w64 I J s64 = .inl (u2 s64 130 26 ((s64 130 26) + 1)) := by
              unfold B_X12_token_w64; exact (if_neg c10).trans (rfl)
            refine w_loc [0, 1] rfl ?_
            have kk := kc64 _ eB
            exact kk
    · skip
      refine w_aload_n ok dX12_token_49 1 rfl ?_
      refine w_iconst (v := 4) ok dX12_token_50 (by decide) ?_
      refine y_putI ok dX12_token_51 (fwX12_188 rfl) (congrArg Prod.fst s_130) rfl (ltM hnn (by decide)) (sdm hf (by decide)) ?_
      show WK K 0 0 54 [(1, .int (F_X12_here  (u2 (F_X12_token_w0 I J I) 130 27 (((F_X12_token_w0 I J I)) 130 26)) J)), (0, .ref 130)] [] (eI f (S11_X12_token I J)) (eJ f J) R n g
      refine w_goto (tgt := 225) ok dX12_token_54 (by decide) ?_
      exact w_vret ok fin dX12_token_225 rfl (by unfold FI_X12_token; simp only [if_pos c1]; exact Pd.i)
  · intro n0 s0 hs0 kc0 kx0
    show WK K 0 0 0 [(0, .ref 130)] [] (eI f s0) (eJ f J) R n g
    refine w_aload_n ok dX12_token_0 0 rfl ?_
    refine w_cV (As := []) ok dX12_token_1 iX12_here (lX12_181 rfl) (rcv cls12 (congrArg Prod.fst s_130)) (ltM hnn (by decide)) (c_X12_here ro hnn hf   (hp11 n0 s0 hs0)) (by decide) rfl (Nat.le_of_ble_eq_true rfl) ?_
    refine w_bipush (v := 10) ok dX12_token_4 (by decide) ?_
    refine w_icmp_eq (tgt := 18) ok dX12_token_6 (by decide) (fun c11 => ?_) (fun c11 => ?_)
    · skip
      refine w_aload_n ok dX12_token_18 0 rfl ?_
      refine w_dup ok dX12_token_19 rfl ?_
      refine y_getI ok dX12_token_20 (fX12_175 rfl) (congrArg Prod.fst s_130) rfl (ltM hnn (by decide)) (sdm hf (by decide)) ?_
      refine w_iconst (v := 1) ok dX12_token_23 (by decide) ?_
      refine w_iadd ok dX12_token_24 ?_
      refine y_putI ok dX12_token_25 (fwX12_175 rfl) (congrArg Prod.fst s_130) rfl (ltM hnn (by decide)) (sdm hf (by decide)) ?_
      refine w_goto (tgt := 0) ok dX12_token_28 (by decide) ?_
      have eB : B_X12_token_w0 I J s0 = .inl (u2 s0 130 26 ((s0 130 26) + 1)) := by
        unfold B_X12_token_w0; exact (if_pos c11).trans (rfl)
      refine w_loc [0] rfl ?_
      have kk := kc0 _ eB
      exact kk
    · skip
      refine w_aload_n ok dX12_token_9 0 rfl ?_
      refine w_cV (As := []) ok dX12_token_10 iX12_here (lX12_181 rfl) (rcv cls12 (congrArg Prod.fst s_130)) (ltM hnn (by decide)) (c_X12_here ro hnn hf   (hp12 n0 s0 hs0 c11)) (by decide) rfl (Nat.le_of_ble_eq_true rfl) ?_
      refine w_bipush (v := 32) ok dX12_token_13 (by decide) ?_
      refine w_icmp_ne (tgt := 31) ok dX12_token_15 (by decide) (fun c12 => ?_) (fun c12 => ?_)
      · skip
        have eB : B_X12_token_w0 I J s0 = .inr s0 := by
          unfold B_X12_token_w0; exact (if_neg c11).trans ((if_neg c12).trans (rfl))
        refine w_loc [0] rfl ?_
        have kk := kx0 _ eB
        exact kk
      · skip
        refine w_aload_n ok dX12_token_18 0 rfl ?_
        refine w_dup ok dX12_token_19 rfl ?_
        refine y_getI ok dX12_token_20 (fX12_175 rfl) (congrArg Prod.fst s_130) rfl (ltM hnn (by decide)) (sdm hf (by decide)) ?_
        refine w_iconst (v := 1) ok dX12_token_23 (by decide) ?_
        refine w_iadd ok dX12_token_24 ?_
        refine y_putI ok dX12_token_25 (fwX12_175 rfl) (congrArg Prod.fst s_130) rfl (ltM hnn (by decide)) (sdm hf (by decide)) ?_
        refine w_goto (tgt := 0) ok dX12_token_28 (by decide) ?_
        have eB : B_X12_token_w0 I J s0 = .inl (u2 s0 130 26 ((s0 130 26) + 1)) := by
          unfold B_X12_token_w0; exact (if_neg c11).trans ((if_pos c12).trans (rfl))
        refine w_loc [0] rfl ?_
        have kk := kc0 _ eB
        exact kk
def FI_X12_goOn  (I : SI) (J : SJ) : SI := if (I 130 30) = 0 then FI_X12_token  I J else I
def H_X12_goOn  (I : SI) (J : SJ) : Prop := ((I 130 30) = 0 → H_X12_token  I J)
set_option maxHeartbeats 1000000 in
set_option maxRecDepth 40000 in
theorem c_X12_goOn {I : SI} {J : SJ} {R : SR} {n g : Nat} {f : Fr} (ro : RM R) (hnn : nM ≤ n) (hf : f.1 = false)   (hp : H_X12_goOn  I J) : MM 6 0 0 mX12_goOn [.ref 130] (eI f I) (eJ f J) R n g (Pd none (eI f (FI_X12_goOn  I J)) (eJ f J) R n g) := by
  refine MM.of (by decide) (Nat.le_of_ble_eq_true rfl) fun K ok fin => ?_
  show WK K 0 0 0 [(0, .ref 130)] [] (eI f I) (eJ f J) R n g
  have hp1 := hp
  refine w_aload_n ok dX12_goOn_0 0 rfl ?_
  refine y_getI ok dX12_goOn_1 (fX12_223 rfl) (congrArg Prod.fst s_130) rfl (ltM hnn (by decide)) (sdm hf (by decide)) ?_
  refine w_if_ne (tgt := 11) ok dX12_goOn_4 (by decide) (fun c1 => ?_) (fun c1 => ?_)
  · skip
    exact w_vret ok fin dX12_goOn_11 rfl (by unfold FI_X12_goOn; simp only [if_neg c1]; exact Pd.i)
  · skip
    refine w_aload_n ok dX12_goOn_7 0 rfl ?_
    refine w_cV (As := []) ok dX12_goOn_8 iX12_token (lX12_229 rfl) (rcv cls12 (congrArg Prod.fst s_130)) (ltM hnn (by decide)) (c_X12_token ro hnn hf   (hp1 c1)) (by decide) rfl (Nat.le_of_ble_eq_true rfl) ?_
    exact w_vret ok fin dX12_goOn_11 rfl (by unfold FI_X12_goOn; simp only [if_pos c1]; exact Pd.i)
def T_X12_numeral_j46 (a0 : Int32) (a1 : Int32) (I : SI) (J : SJ) : SI := if (I 130 28) = 2 then (if (I 130 29) < a0 then (FI_X12_wrong 2 I J) else (if (I 130 29) ≤ a1 then I else (FI_X12_wrong 2 I J))) else (FI_X12_wrong 1 I J)
def F_X12_numeral (a0 : Int32) (a1 : Int32) (I : SI) (J : SJ) : Int32 := if (I 130 30) = 0 then (if (((T_X12_numeral_j46 a0 a1 I J)) 130 30) = 0 then ((T_X12_numeral_j46 a0 a1 I J)) 130 29 else a0) else a0
def FI_X12_numeral (a0 : Int32) (a1 : Int32) (I : SI) (J : SJ) : SI := if (I 130 30) = 0 then (if (((T_X12_numeral_j46 a0 a1 I J)) 130 30) = 0 then FI_X12_token  (T_X12_numeral_j46 a0 a1 I J) J else (T_X12_numeral_j46 a0 a1 I J)) else I
def H_X12_numeral (a0 : Int32) (a1 : Int32) (I : SI) (J : SJ) : Prop := ((I 130 30) = 0 → (((T_X12_numeral_j46 a0 a1 I J)) 130 30) = 0 → H_X12_token  (T_X12_numeral_j46 a0 a1 I J) J)
set_option maxHeartbeats 1000000 in
set_option maxRecDepth 40000 in
theorem c_X12_numeral {I : SI} {J : SJ} {R : SR} {n g : Nat} {f : Fr} (ro : RM R) (hnn : nM ≤ n) (hf : f.1 = false) (a0 : Int32) (a1 : Int32)  (hp : H_X12_numeral a0 a1 I J) : MM 6 0 0 mX12_numeral [.ref 130, .int a0, .int a1] (eI f I) (eJ f J) R n g (Pd (some (.int (F_X12_numeral a0 a1 I J))) (eI f (FI_X12_numeral a0 a1 I J)) (eJ f J) R n g) := by
  refine MM.of (by decide) (Nat.le_of_ble_eq_true rfl) fun K ok fin => ?_
  show WK K 0 0 0 [(0, .ref 130), (1, .int a0), (2, .int a1)] [] (eI f I) (eJ f J) R n g
  have hp1 := hp
  refine w_aload_n ok dX12_numeral_0 0 rfl ?_
  refine y_getI ok dX12_numeral_1 (fX12_223 rfl) (congrArg Prod.fst s_130) rfl (ltM hnn (by decide)) (sdm hf (by decide)) ?_
  refine w_if_eq (tgt := 9) ok dX12_numeral_4 (by decide) (fun c1 => ?_) (fun c1 => ?_)
  · skip
    refine w_aload_n ok dX12_numeral_9 0 rfl ?_
    refine y_getI ok dX12_numeral_10 (fX12_188 rfl) (congrArg Prod.fst s_130) rfl (ltM hnn (by decide)) (sdm hf (by decide)) ?_
    refine w_iconst (v := 2) ok dX12_numeral_13 (by decide) ?_
    have jn2 : WK K 0 0 46 [(0, .ref 130), (1, .int a0), (2, .int a1)] [] (eI f (T_X12_numeral_j46 a0 a1 I J)) (eJ f J) R n g := by
      refine w_aload_n ok dX12_numeral_46 0 rfl ?_
      refine y_getI ok dX12_numeral_47 (fX12_223 rfl) (congrArg Prod.fst s_130) rfl (ltM hnn (by decide)) (sdm hf (by decide)) ?_
      refine w_if_eq (tgt := 55) ok dX12_numeral_50 (by decide) (fun c3 => ?_) (fun c3 => ?_)
      · skip
        refine w_aload_n ok dX12_numeral_55 0 rfl ?_
        refine y_getI ok dX12_numeral_56 (fX12_198 rfl) (congrArg Prod.fst s_130) rfl (ltM hnn (by decide)) (sdm hf (by decide)) ?_
        refine w_istore_n ok dX12_numeral_59 rfl (by decide) rfl ?_
        refine w_aload_n ok dX12_numeral_60 1 rfl ?_
        refine w_cV (As := []) ok dX12_numeral_61 iX12_token (lX12_229 rfl) (rcv cls12 (congrArg Prod.fst s_130)) (ltM hnn (by decide)) (c_X12_token ro hnn hf   (hp1 c1 c3)) (by decide) rfl (Nat.le_of_ble_eq_true rfl) ?_
        refine w_iload_n ok dX12_numeral_64 0 rfl ?_
        exact w_iret ok fin dX12_numeral_65 rfl (by unfold F_X12_numeral FI_X12_numeral; simp only [if_pos c1]; simp only [if_pos c3]; exact Pd.i)
      · skip
        refine w_iload_n ok dX12_numeral_53 1 rfl ?_
        exact w_iret ok fin dX12_numeral_54 rfl (by unfold F_X12_numeral FI_X12_numeral; simp only [if_pos c1]; simp only [if_neg c3]; exact Pd.i)
    refine w_icmp_eq (tgt := 25) ok dX12_numeral_14 (by decide) (fun c4 => ?_) (fun c4 => ?_)
    · skip
      refine w_aload_n ok dX12_numeral_25 0 rfl ?_
      refine y_getI ok dX12_numeral_26 (fX12_198 rfl) (congrArg Prod.fst s_130) rfl (ltM hnn (by decide)) (sdm hf (by decide)) ?_
      refine w_iload_n ok dX12_numeral_29 1 rfl ?_
      refine w_icmp_lt (tgt := 41) ok dX12_numeral_30 (by decide) (fun c5 => ?_) (fun c5 => ?_)
      · skip
        refine w_aload_n ok dX12_numeral_41 0 rfl ?_
        refine w_iconst (v := 2) ok dX12_numeral_42 (by decide) ?_
        refine w_cV (As := [.int 2]) ok dX12_numeral_43 iX12_wrong (lX12_232 rfl) (rcv cls12 (congrArg Prod.fst s_130)) (ltM hnn (by decide)) (c_X12_wrong ro hnn hf 2 ) (by decide) rfl (Nat.le_of_ble_eq_true rfl) ?_
        have eT : (T_X12_numeral_j46 a0 a1 I J) = (FI_X12_wrong 2 I J) := by
          unfold T_X12_numeral_j46; exact (if_pos c4).trans ((if_pos c5).trans (rfl))
        refine w_loc [0, 1, 2] rfl ?_
        have jj := jn2
        rw [eT] at jj
        exact jj
      · skip
        refine w_aload_n ok dX12_numeral_33 0 rfl ?_
        refine y_getI ok dX12_numeral_34 (fX12_198 rfl) (congrArg Prod.fst s_130) rfl (ltM hnn (by decide)) (sdm hf (by decide)) ?_
        refine w_iload_n ok dX12_numeral_37 2 rfl ?_
        refine w_icmp_le (tgt := 46) ok dX12_numeral_38 (by decide) (fun c6 => ?_) (fun c6 => ?_)
        · skip
          have eT : (T_X12_numeral_j46 a0 a1 I J) = I := by
            unfold T_X12_numeral_j46; exact (if_pos c4).trans ((if_neg c5).trans ((if_pos c6).trans (rfl)))
          refine w_loc [0, 1, 2] rfl ?_
          have jj := jn2
          rw [eT] at jj
          exact jj
        · skip
          refine w_aload_n ok dX12_numeral_41 0 rfl ?_
          refine w_iconst (v := 2) ok dX12_numeral_42 (by decide) ?_
          refine w_cV (As := [.int 2]) ok dX12_numeral_43 iX12_wrong (lX12_232 rfl) (rcv cls12 (congrArg Prod.fst s_130)) (ltM hnn (by decide)) (c_X12_wrong ro hnn hf 2 ) (by decide) rfl (Nat.le_of_ble_eq_true rfl) ?_
          have eT : (T_X12_numeral_j46 a0 a1 I J) = (FI_X12_wrong 2 I J) := by
            unfold T_X12_numeral_j46; exact (if_pos c4).trans ((if_neg c5).trans ((if_neg c6).trans (rfl)))
          refine w_loc [0, 1, 2] rfl ?_
          have jj := jn2
          rw [eT] at jj
          exact jj
    · skip
      refine w_aload_n ok dX12_numeral_17 0 rfl ?_
      refine w_iconst (v := 1) ok dX12_numeral_18 (by decide) ?_
      refine w_cV (As := [.int 1]) ok dX12_numeral_19 iX12_wrong (lX12_232 rfl) (rcv cls12 (congrArg Prod.fst s_130)) (ltM hnn (by decide)) (c_X12_wrong ro hnn hf 1 ) (by decide) rfl (Nat.le_of_ble_eq_true rfl) ?_
      refine w_goto (tgt := 46) ok dX12_numeral_22 (by decide) ?_
      have eT : (T_X12_numeral_j46 a0 a1 I J) = (FI_X12_wrong 1 I J) := by
        unfold T_X12_numeral_j46; exact (if_neg c4).trans (rfl)
      refine w_loc [0, 1, 2] rfl ?_
      have jj := jn2
      rw [eT] at jj
      exact jj
  · skip
    refine w_iload_n ok dX12_numeral_7 1 rfl ?_
    exact w_iret ok fin dX12_numeral_8 rfl (by unfold F_X12_numeral FI_X12_numeral; simp only [if_neg c1]; exact Pd.i)
def T_X12_fresh_j44 (a0 : Nat) (la0 : Nat) (a1 : Int32) (a2 : Int32) (I : SI) (J : SJ) : SI := if (I 130 28) = 1 then (if (F_X12_found a0 la0 a1 a2 (I 130 29) I J) = (-1) then I else (FI_X12_wrong 3 I J)) else (FI_X12_wrong 1 I J)
def F_X12_fresh (a0 : Nat) (la0 : Nat) (a1 : Int32) (a2 : Int32) (I : SI) (J : SJ) : Int32 := if (I 130 30) = 0 then (if (((T_X12_fresh_j44 a0 la0 a1 a2 I J)) 130 30) = 0 then ((T_X12_fresh_j44 a0 la0 a1 a2 I J)) 130 29 else 0) else 0
def FI_X12_fresh (a0 : Nat) (la0 : Nat) (a1 : Int32) (a2 : Int32) (I : SI) (J : SJ) : SI := if (I 130 30) = 0 then (if (((T_X12_fresh_j44 a0 la0 a1 a2 I J)) 130 30) = 0 then FI_X12_token  (T_X12_fresh_j44 a0 la0 a1 a2 I J) J else (T_X12_fresh_j44 a0 la0 a1 a2 I J)) else I
def H_X12_fresh (a0 : Nat) (la0 : Nat) (a1 : Int32) (a2 : Int32) (I : SI) (J : SJ) : Prop := ((I 130 30) = 0 → (((T_X12_fresh_j44 a0 la0 a1 a2 I J)) 130 30) = 0 → H_X12_token  (T_X12_fresh_j44 a0 la0 a1 a2 I J) J) ∧ ((I 130 30) = 0 → (I 130 28) = 1 → H_X12_found a0 la0 a1 a2 (I 130 29) I J)
set_option maxHeartbeats 1000000 in
set_option maxRecDepth 40000 in
theorem c_X12_fresh {I : SI} {J : SJ} {R : SR} {n g : Nat} {f : Fr} (ro : RM R) (hnn : nM ≤ n) (hf : f.1 = false) {a0 : Nat} {la0 : Nat} (a1 : Int32) (a2 : Int32) (hsa0 : SH a0 = (14, la0)) (hka0 : a0 < n) (hda0 : sd f a0) (hlen : la0 < 2 ^ 31)  (hp : H_X12_fresh a0 la0 a1 a2 I J) : MM 6 0 0 mX12_fresh [.ref 130, .ref a0, .int a1, .int a2] (eI f I) (eJ f J) R n g (Pd (some (.int (F_X12_fresh a0 la0 a1 a2 I J))) (eI f (FI_X12_fresh a0 la0 a1 a2 I J)) (eJ f J) R n g) := by
  refine MM.of (by decide) (Nat.le_of_ble_eq_true rfl) fun K ok fin => ?_
  show WK K 0 0 0 [(0, .ref 130), (1, .ref a0), (2, .int a1), (3, .int a2)] [] (eI f I) (eJ f J) R n g
  obtain ⟨hp1, hp2⟩ := hp
  refine w_aload_n ok dX12_fresh_0 0 rfl ?_
  refine y_getI ok dX12_fresh_1 (fX12_223 rfl) (congrArg Prod.fst s_130) rfl (ltM hnn (by decide)) (sdm hf (by decide)) ?_
  refine w_if_eq (tgt := 9) ok dX12_fresh_4 (by decide) (fun c1 => ?_) (fun c1 => ?_)
  · skip
    refine w_aload_n ok dX12_fresh_9 0 rfl ?_
    refine y_getI ok dX12_fresh_10 (fX12_188 rfl) (congrArg Prod.fst s_130) rfl (ltM hnn (by decide)) (sdm hf (by decide)) ?_
    refine w_iconst (v := 1) ok dX12_fresh_13 (by decide) ?_
    have jn2 : WK K 0 0 44 [(0, .ref 130), (1, .ref a0), (2, .int a1), (3, .int a2)] [] (eI f (T_X12_fresh_j44 a0 la0 a1 a2 I J)) (eJ f J) R n g := by
      refine w_aload_n ok dX12_fresh_44 0 rfl ?_
      refine y_getI ok dX12_fresh_45 (fX12_223 rfl) (congrArg Prod.fst s_130) rfl (ltM hnn (by decide)) (sdm hf (by decide)) ?_
      refine w_if_eq (tgt := 53) ok dX12_fresh_48 (by decide) (fun c3 => ?_) (fun c3 => ?_)
      · skip
        refine w_aload_n ok dX12_fresh_53 0 rfl ?_
        refine y_getI ok dX12_fresh_54 (fX12_198 rfl) (congrArg Prod.fst s_130) rfl (ltM hnn (by decide)) (sdm hf (by decide)) ?_
        refine w_istore ok dX12_fresh_57 (by decide) rfl ?_
        refine w_aload_n ok dX12_fresh_59 1 rfl ?_
        refine w_cV (As := []) ok dX12_fresh_60 iX12_token (lX12_229 rfl) (rcv cls12 (congrArg Prod.fst s_130)) (ltM hnn (by decide)) (c_X12_token ro hnn hf   (hp1 c1 c3)) (by decide) rfl (Nat.le_of_ble_eq_true rfl) ?_
        refine w_iload ok dX12_fresh_63 0 rfl ?_
        exact w_iret ok fin dX12_fresh_65 rfl (by unfold F_X12_fresh FI_X12_fresh; simp only [if_pos c1]; simp only [if_pos c3]; exact Pd.i)
      · skip
        refine w_iconst (v := 0) ok dX12_fresh_51 (by decide) ?_
        exact w_iret ok fin dX12_fresh_52 rfl (by unfold F_X12_fresh FI_X12_fresh; simp only [if_pos c1]; simp only [if_neg c3]; exact Pd.i)
    refine w_icmp_eq (tgt := 25) ok dX12_fresh_14 (by decide) (fun c4 => ?_) (fun c4 => ?_)
    · skip
      refine w_aload_n ok dX12_fresh_25 1 rfl ?_
      refine w_iload_n ok dX12_fresh_26 2 rfl ?_
      refine w_iload_n ok dX12_fresh_27 3 rfl ?_
      refine w_aload_n ok dX12_fresh_28 0 rfl ?_
      refine y_getI ok dX12_fresh_29 (fX12_198 rfl) (congrArg Prod.fst s_130) rfl (ltM hnn (by decide)) (sdm hf (by decide)) ?_
      refine w_cS (As := [.ref a0, .int a1, .int a2, .int (I 130 29)]) ok dX12_fresh_32 iX12_found (lX12_235 rfl) (c_X12_found ro hnn hf a1 a2 (I 130 29) hsa0 hka0 hda0 (sh_len hsa0) (hp2 c1 c4)) (by decide) rfl (Nat.le_of_ble_eq_true rfl) ?_
      refine w_iconst (v := (-1)) ok dX12_fresh_35 (by decide) ?_
      refine w_icmp_eq (tgt := 44) ok dX12_fresh_36 (by decide) (fun c5 => ?_) (fun c5 => ?_)
      · skip
        have eT : (T_X12_fresh_j44 a0 la0 a1 a2 I J) = I := by
          unfold T_X12_fresh_j44; exact (if_pos c4).trans ((if_pos c5).trans (rfl))
        refine w_loc [0, 1, 2, 3] rfl ?_
        have jj := jn2
        rw [eT] at jj
        exact jj
      · skip
        refine w_aload_n ok dX12_fresh_39 0 rfl ?_
        refine w_iconst (v := 3) ok dX12_fresh_40 (by decide) ?_
        refine w_cV (As := [.int 3]) ok dX12_fresh_41 iX12_wrong (lX12_232 rfl) (rcv cls12 (congrArg Prod.fst s_130)) (ltM hnn (by decide)) (c_X12_wrong ro hnn hf 3 ) (by decide) rfl (Nat.le_of_ble_eq_true rfl) ?_
        have eT : (T_X12_fresh_j44 a0 la0 a1 a2 I J) = (FI_X12_wrong 3 I J) := by
          unfold T_X12_fresh_j44; exact (if_pos c4).trans ((if_neg c5).trans (rfl))
        refine w_loc [0, 1, 2, 3] rfl ?_
        have jj := jn2
        rw [eT] at jj
        exact jj
    · skip
      refine w_aload_n ok dX12_fresh_17 0 rfl ?_
      refine w_iconst (v := 1) ok dX12_fresh_18 (by decide) ?_
      refine w_cV (As := [.int 1]) ok dX12_fresh_19 iX12_wrong (lX12_232 rfl) (rcv cls12 (congrArg Prod.fst s_130)) (ltM hnn (by decide)) (c_X12_wrong ro hnn hf 1 ) (by decide) rfl (Nat.le_of_ble_eq_true rfl) ?_
      refine w_goto (tgt := 44) ok dX12_fresh_22 (by decide) ?_
      have eT : (T_X12_fresh_j44 a0 la0 a1 a2 I J) = (FI_X12_wrong 1 I J) := by
        unfold T_X12_fresh_j44; exact (if_neg c4).trans (rfl)
      refine w_loc [0, 1, 2, 3] rfl ?_
      have jj := jn2
      rw [eT] at jj
      exact jj
  · skip
    refine w_iconst (v := 0) ok dX12_fresh_7 (by decide) ?_
    exact w_iret ok fin dX12_fresh_8 rfl (by unfold F_X12_fresh FI_X12_fresh; simp only [if_neg c1]; exact Pd.i)
def S1_X12_hasLine (I : SI) (J : SJ) : SI := FI_X12_markAtHand  (FI_X12_goOn  (FI_X12_atHand 136 16 8 (F_X12_fresher 1 I J) I J) J) J
def S2_X12_hasLine (I : SI) (J : SJ) : Int32 := ((48 : Int32) + ((6 : Int32) * (F_X12_atHand 136 16 8 (F_X12_fresher 1 I J) I J))) + (F_X12_markAtHand  (FI_X12_goOn  (FI_X12_atHand 136 16 8 (F_X12_fresher 1 I J) I J) J) J)
def T_X12_hasLine_j57 (I : SI) (J : SJ) : SI := if (((S1_X12_hasLine I J)) 130 30) = 0 then (if ((S1_X12_hasLine I J) 139 (S2_X12_hasLine I J).toNatClampNeg) = (-1) then (S1_X12_hasLine I J) else (FI_X12_wrong 3 (S1_X12_hasLine I J) J)) else (S1_X12_hasLine I J)
def S6_X12_hasLine (I : SI) (J : SJ) : Int32 := (6 : Int32) + (F_X12_markAtHand  (FI_X12_goOn  (FI_X12_atHand 136 16 8 (F_X12_fresher 1 I J) I J) J) J)
def T_X12_hasLine_j85 (I : SI) (J : SJ) : Int32 := if ((FI_X12_goOn  (T_X12_hasLine_j57 I J) J) 130 30) = 0 then (((FI_X12_goOn  (T_X12_hasLine_j57 I J) J) 135 (S6_X12_hasLine I J).toNatClampNeg) - 1) else 0
def S3_X12_hasLine (I : SI) (J : SJ) : SI := FI_X12_numeral 0 (T_X12_hasLine_j85 I J) (FI_X12_goOn  (T_X12_hasLine_j57 I J) J) J
def S4_X12_hasLine (I : SI) (J : SJ) : SI := u2 (S3_X12_hasLine I J) 139 (S2_X12_hasLine I J).toNatClampNeg (F_X12_numeral 0 (T_X12_hasLine_j85 I J) (FI_X12_goOn  (T_X12_hasLine_j57 I J) J) J)
def S5_X12_hasLine (I : SI) (J : SJ) : SI := FI_X12_reads 2 ((F_X12_fresher 2 (S4_X12_hasLine I J) J) + 1) (S4_X12_hasLine I J) J
def FI_X12_hasLine  (I : SI) (J : SJ) : SI := if (((S3_X12_hasLine I J)) 130 30) = 0 then (S5_X12_hasLine I J) else (S3_X12_hasLine I J)
def H_X12_hasLine  (I : SI) (J : SJ) : Prop := (H_X12_fresher 1 I J) ∧ (H_X12_atHand 136 16 8 (F_X12_fresher 1 I J) I J) ∧ (H_X12_goOn  (FI_X12_atHand 136 16 8 (F_X12_fresher 1 I J) I J) J) ∧ (H_X12_markAtHand  (FI_X12_goOn  (FI_X12_atHand 136 16 8 (F_X12_fresher 1 I J) I J) J) J) ∧ (H_X12_goOn  (T_X12_hasLine_j57 I J) J) ∧ (H_X12_numeral 0 (T_X12_hasLine_j85 I J) (FI_X12_goOn  (T_X12_hasLine_j57 I J) J) J) ∧ ((((S3_X12_hasLine I J)) 130 30) = 0 → inR (S2_X12_hasLine I J) 96) ∧ ((((S3_X12_hasLine I J)) 130 30) = 0 → H_X12_fresher 2 (S4_X12_hasLine I J) J) ∧ ((((S3_X12_hasLine I J)) 130 30) = 0 → H_X12_reads 2 ((F_X12_fresher 2 (S4_X12_hasLine I J) J) + 1) (S4_X12_hasLine I J) J) ∧ (((FI_X12_goOn  (T_X12_hasLine_j57 I J) J) 130 30) = 0 → inR (S6_X12_hasLine I J) 12) ∧ ((((S1_X12_hasLine I J)) 130 30) = 0 → inR (S2_X12_hasLine I J) 96)
set_option maxHeartbeats 1200000 in
set_option maxRecDepth 40000 in
theorem c_X12_hasLine {I : SI} {J : SJ} {R : SR} {n g : Nat} {f : Fr} (ro : RM R) (hnn : nM ≤ n) (hf : f.1 = false)   (hp : H_X12_hasLine  I J) : MM 7 0 0 mX12_hasLine [.ref 130] (eI f I) (eJ f J) R n g (Pd none (eI f (FI_X12_hasLine  I J)) (eJ f J) R n g) := by
  refine MM.of (by decide) (Nat.le_of_ble_eq_true rfl) fun K ok fin => ?_
  show WK K 0 0 0 [(0, .ref 130)] [] (eI f I) (eJ f J) R n g
  obtain ⟨hp1, hp2, hp3, hp4, hp5, hp6, hp7, hp8, hp9, hp10, hp11⟩ := hp
  refine w_aload_n ok dX12_hasLine_0 0 rfl ?_
  refine w_aload_n ok dX12_hasLine_1 0 rfl ?_
  refine w_getR ok dX12_hasLine_2 (fX12_25 rfl) (congrArg Prod.fst s_130) rfl (r_130_7 ro) (ltM hnn (by decide)) ?_
  refine w_bipush (v := 8) ok dX12_hasLine_5 (by decide) ?_
  refine w_aload_n ok dX12_hasLine_7 0 rfl ?_
  refine w_iconst (v := 1) ok dX12_hasLine_8 (by decide) ?_
  refine w_cV (As := [.int 1]) ok dX12_hasLine_9 iX12_fresher (lX12_239 rfl) (rcv cls12 (congrArg Prod.fst s_130)) (ltM hnn (by decide)) (c_X12_fresher ro hnn hf 1  (hp1)) (by decide) rfl (Nat.le_of_ble_eq_true rfl) ?_
  show WK K 0 0 12 [(0, .ref 130)] [.int (F_X12_fresher 1 I J), .int 8, .ref 136, .ref 130] (eI f I) (eJ f J) R n g
  refine w_cV (As := [.ref 136, .int 8, .int (F_X12_fresher 1 I J)]) ok dX12_hasLine_12 iX12_atHand (lX12_243 rfl) (rcv cls12 (congrArg Prod.fst s_130)) (ltM hnn (by decide)) (c_X12_atHand ro hnn hf 8 (F_X12_fresher 1 I J) s_136 (ltM hnn (by decide)) (sdm hf (by decide)) (sh_len s_136) (hp2)) (by decide) rfl (Nat.le_of_ble_eq_true rfl) ?_
  refine w_istore_n ok dX12_hasLine_15 rfl (by decide) rfl ?_
  refine w_aload_n ok dX12_hasLine_16 1 rfl ?_
  refine w_cV (As := []) ok dX12_hasLine_17 iX12_goOn (lX12_279 rfl) (rcv cls12 (congrArg Prod.fst s_130)) (ltM hnn (by decide)) (c_X12_goOn ro hnn hf   (hp3)) (by decide) rfl (Nat.le_of_ble_eq_true rfl) ?_
  refine w_aload_n ok dX12_hasLine_20 1 rfl ?_
  refine w_cV (As := []) ok dX12_hasLine_21 iX12_markAtHand (lX12_282 rfl) (rcv cls12 (congrArg Prod.fst s_130)) (ltM hnn (by decide)) (c_X12_markAtHand ro hnn hf   (hp4)) (by decide) rfl (Nat.le_of_ble_eq_true rfl) ?_
  show WK K 0 0 24 [(1, .int (F_X12_atHand 136 16 8 (F_X12_fresher 1 I J) I J)), (0, .ref 130)] [.int (F_X12_markAtHand  (FI_X12_goOn  (FI_X12_atHand 136 16 8 (F_X12_fresher 1 I J) I J) J) J)] (eI f (S1_X12_hasLine I J)) (eJ f J) R n g
  refine w_istore_n ok dX12_hasLine_24 rfl (by decide) rfl ?_
  refine w_bipush (v := 48) ok dX12_hasLine_25 (by decide) ?_
  refine w_bipush (v := 6) ok dX12_hasLine_27 (by decide) ?_
  refine w_iload_n ok dX12_hasLine_29 1 rfl ?_
  refine w_imul ok dX12_hasLine_30 ?_
  refine w_iadd ok dX12_hasLine_31 ?_
  refine w_iload_n ok dX12_hasLine_32 0 rfl ?_
  refine w_iadd ok dX12_hasLine_33 ?_
  show WK K 0 0 34 [(2, .int (F_X12_markAtHand  (FI_X12_goOn  (FI_X12_atHand 136 16 8 (F_X12_fresher 1 I J) I J) J) J)), (1, .int (F_X12_atHand 136 16 8 (F_X12_fresher 1 I J) I J)), (0, .ref 130)] [.int (S2_X12_hasLine I J)] (eI f (S1_X12_hasLine I J)) (eJ f J) R n g
  refine w_istore_n ok dX12_hasLine_34 rfl (by decide) rfl ?_
  refine w_aload_n ok dX12_hasLine_35 3 rfl ?_
  refine y_getI ok dX12_hasLine_36 (fX12_223 rfl) (congrArg Prod.fst s_130) rfl (ltM hnn (by decide)) (sdm hf (by decide)) ?_
  have jn1 : WK K 0 0 57 [(0, .ref 130), (1, .int (F_X12_atHand 136 16 8 (F_X12_fresher 1 I J) I J)), (2, .int (F_X12_markAtHand  (FI_X12_goOn  (FI_X12_atHand 136 16 8 (F_X12_fresher 1 I J) I J) J) J)), (3, .int (S2_X12_hasLine I J))] [] (eI f (T_X12_hasLine_j57 I J)) (eJ f J) R n g := by
    refine w_aload_n ok dX12_hasLine_57 0 rfl ?_
    refine w_cV (As := []) ok dX12_hasLine_58 iX12_goOn (lX12_279 rfl) (rcv cls12 (congrArg Prod.fst s_130)) (ltM hnn (by decide)) (c_X12_goOn ro hnn hf   (hp5)) (by decide) rfl (Nat.le_of_ble_eq_true rfl) ?_
    refine w_aload_n ok dX12_hasLine_61 0 rfl ?_
    refine w_iconst (v := 0) ok dX12_hasLine_62 (by decide) ?_
    refine w_aload_n ok dX12_hasLine_63 0 rfl ?_
    refine y_getI ok dX12_hasLine_64 (fX12_223 rfl) (congrArg Prod.fst s_130) rfl (ltM hnn (by decide)) (sdm hf (by decide)) ?_
    have jn2 : WK K 0 0 85 [(0, .ref 130), (1, .int (F_X12_atHand 136 16 8 (F_X12_fresher 1 I J) I J)), (2, .int (F_X12_markAtHand  (FI_X12_goOn  (FI_X12_atHand 136 16 8 (F_X12_fresher 1 I J) I J) J) J)), (3, .int (S2_X12_hasLine I J))] [.int (T_X12_hasLine_j85 I J), .int 0, .ref 130] (eI f (FI_X12_goOn  (T_X12_hasLine_j57 I J) J)) (eJ f J) R n g := by
      refine w_cV (As := [.int 0, .int (T_X12_hasLine_j85 I J)]) ok dX12_hasLine_85 iX12_numeral (lX12_256 rfl) (rcv cls12 (congrArg Prod.fst s_130)) (ltM hnn (by decide)) (c_X12_numeral ro hnn hf 0 (T_X12_hasLine_j85 I J)  (hp6)) (by decide) rfl (Nat.le_of_ble_eq_true rfl) ?_
      show WK K 0 0 88 [(0, .ref 130), (1, .int (F_X12_atHand 136 16 8 (F_X12_fresher 1 I J) I J)), (2, .int (F_X12_markAtHand  (FI_X12_goOn  (FI_X12_atHand 136 16 8 (F_X12_fresher 1 I J) I J) J) J)), (3, .int (S2_X12_hasLine I J))] [.int (F_X12_numeral 0 (T_X12_hasLine_j85 I J) (FI_X12_goOn  (T_X12_hasLine_j57 I J) J) J)] (eI f (S3_X12_hasLine I J)) (eJ f J) R n g
      refine w_istore ok dX12_hasLine_88 (by decide) rfl ?_
      refine w_aload_n ok dX12_hasLine_90 1 rfl ?_
      refine y_getI ok dX12_hasLine_91 (fX12_223 rfl) (congrArg Prod.fst s_130) rfl (ltM hnn (by decide)) (sdm hf (by decide)) ?_
      refine w_if_eq (tgt := 98) ok dX12_hasLine_94 (by decide) (fun c3 => ?_) (fun c3 => ?_)
      · skip
        refine w_aload_n ok dX12_hasLine_98 1 rfl ?_
        refine w_getR ok dX12_hasLine_99 (fX12_34 rfl) (congrArg Prod.fst s_130) rfl (r_130_10 ro) (ltM hnn (by decide)) ?_
        refine w_iload_n ok dX12_hasLine_102 4 rfl ?_
        refine w_iload ok dX12_hasLine_103 0 rfl ?_
        refine y_iast (q := (S2_X12_hasLine I J).toNatClampNeg) ok dX12_hasLine_105 s_139 (hp7 c3) (by decide) (ltM hnn (by decide)) (sdm hf (by decide)) ?_
        show WK K 0 0 106 [(4, .int (F_X12_numeral 0 (T_X12_hasLine_j85 I J) (FI_X12_goOn  (T_X12_hasLine_j57 I J) J) J)), (0, .ref 130), (1, .int (F_X12_atHand 136 16 8 (F_X12_fresher 1 I J) I J)), (2, .int (F_X12_markAtHand  (FI_X12_goOn  (FI_X12_atHand 136 16 8 (F_X12_fresher 1 I J) I J) J) J)), (3, .int (S2_X12_hasLine I J))] [] (eI f (S4_X12_hasLine I J)) (eJ f J) R n g
        refine w_aload_n ok dX12_hasLine_106 1 rfl ?_
        refine w_iconst (v := 2) ok dX12_hasLine_107 (by decide) ?_
        refine w_aload_n ok dX12_hasLine_108 1 rfl ?_
        refine w_iconst (v := 2) ok dX12_hasLine_109 (by decide) ?_
        refine w_cV (As := [.int 2]) ok dX12_hasLine_110 iX12_fresher (lX12_239 rfl) (rcv cls12 (congrArg Prod.fst s_130)) (ltM hnn (by decide)) (c_X12_fresher ro hnn hf 2  (hp8 c3)) (by decide) rfl (Nat.le_of_ble_eq_true rfl) ?_
        show WK K 0 0 113 [(4, .int (F_X12_numeral 0 (T_X12_hasLine_j85 I J) (FI_X12_goOn  (T_X12_hasLine_j57 I J) J) J)), (0, .ref 130), (1, .int (F_X12_atHand 136 16 8 (F_X12_fresher 1 I J) I J)), (2, .int (F_X12_markAtHand  (FI_X12_goOn  (FI_X12_atHand 136 16 8 (F_X12_fresher 1 I J) I J) J) J)), (3, .int (S2_X12_hasLine I J))] [.int (F_X12_fresher 2 (S4_X12_hasLine I J) J), .int 2, .ref 130] (eI f (S4_X12_hasLine I J)) (eJ f J) R n g
        refine w_iconst (v := 1) ok dX12_hasLine_113 (by decide) ?_
        refine w_iadd ok dX12_hasLine_114 ?_
        refine w_cV (As := [.int 2, .int ((F_X12_fresher 2 (S4_X12_hasLine I J) J) + 1)]) ok dX12_hasLine_115 iX12_reads (lX12_260 rfl) (rcv cls12 (congrArg Prod.fst s_130)) (ltM hnn (by decide)) (c_X12_reads ro hnn hf 2 ((F_X12_fresher 2 (S4_X12_hasLine I J) J) + 1)  (hp9 c3)) (by decide) rfl (Nat.le_of_ble_eq_true rfl) ?_
        show WK K 0 0 118 [(4, .int (F_X12_numeral 0 (T_X12_hasLine_j85 I J) (FI_X12_goOn  (T_X12_hasLine_j57 I J) J) J)), (0, .ref 130), (1, .int (F_X12_atHand 136 16 8 (F_X12_fresher 1 I J) I J)), (2, .int (F_X12_markAtHand  (FI_X12_goOn  (FI_X12_atHand 136 16 8 (F_X12_fresher 1 I J) I J) J) J)), (3, .int (S2_X12_hasLine I J))] [] (eI f (S5_X12_hasLine I J)) (eJ f J) R n g
        exact w_vret ok fin dX12_hasLine_118 rfl (by unfold FI_X12_hasLine; simp only [if_pos c3]; exact Pd.i)
      · skip
        exact w_vret ok fin dX12_hasLine_97 rfl (by unfold FI_X12_hasLine; simp only [if_neg c3]; exact Pd.i)
    refine w_if_ne (tgt := 84) ok dX12_hasLine_67 (by decide) (fun c4 => ?_) (fun c4 => ?_)
    · skip
      refine w_iconst (v := 0) ok dX12_hasLine_84 (by decide) ?_
      have eT : (T_X12_hasLine_j85 I J) = 0 := by
        unfold T_X12_hasLine_j85; exact (if_neg c4).trans (rfl)
      refine w_loc [0, 1, 2, 3] rfl ?_
      have jj := jn2
      rw [eT] at jj
      exact jj
    · skip
      refine w_aload_n ok dX12_hasLine_70 0 rfl ?_
      refine w_getR ok dX12_hasLine_71 (fX12_22 rfl) (congrArg Prod.fst s_130) rfl (r_130_6 ro) (ltM hnn (by decide)) ?_
      refine w_bipush (v := 6) ok dX12_hasLine_74 (by decide) ?_
      refine w_iload_n ok dX12_hasLine_76 2 rfl ?_
      refine w_iadd ok dX12_hasLine_77 ?_
      show WK K 0 0 78 [(0, .ref 130), (1, .int (F_X12_atHand 136 16 8 (F_X12_fresher 1 I J) I J)), (2, .int (F_X12_markAtHand  (FI_X12_goOn  (FI_X12_atHand 136 16 8 (F_X12_fresher 1 I J) I J) J) J)), (3, .int (S2_X12_hasLine I J))] [.int (S6_X12_hasLine I J), .ref 135, .int 0, .ref 130] (eI f (FI_X12_goOn  (T_X12_hasLine_j57 I J) J)) (eJ f J) R n g
      refine y_iald (q := (S6_X12_hasLine I J).toNatClampNeg) ok dX12_hasLine_78 s_135 (hp10 c4) (by decide) (ltM hnn (by decide)) (sdm hf (by decide)) ?_
      refine w_iconst (v := 1) ok dX12_hasLine_79 (by decide) ?_
      refine w_isub ok dX12_hasLine_80 ?_
      refine w_goto (tgt := 85) ok dX12_hasLine_81 (by decide) ?_
      have eT : (T_X12_hasLine_j85 I J) = (((FI_X12_goOn  (T_X12_hasLine_j57 I J) J) 135 (S6_X12_hasLine I J).toNatClampNeg) - 1) := by
        unfold T_X12_hasLine_j85; exact (if_pos c4).trans (rfl)
      refine w_loc [0, 1, 2, 3] rfl ?_
      have jj := jn2
      rw [eT] at jj
      exact jj
  refine w_if_ne (tgt := 57) ok dX12_hasLine_39 (by decide) (fun c5 => ?_) (fun c5 => ?_)
  · skip
    have eT : (T_X12_hasLine_j57 I J) = (S1_X12_hasLine I J) := by
      unfold T_X12_hasLine_j57; exact (if_neg c5).trans (rfl)
    refine w_loc [3, 2, 1, 0] rfl ?_
    have jj := jn1
    rw [eT] at jj
    exact jj
  · skip
    refine w_aload_n ok dX12_hasLine_42 3 rfl ?_
    refine w_getR ok dX12_hasLine_43 (fX12_34 rfl) (congrArg Prod.fst s_130) rfl (r_130_10 ro) (ltM hnn (by decide)) ?_
    refine w_iload_n ok dX12_hasLine_46 0 rfl ?_
    refine y_iald (q := (S2_X12_hasLine I J).toNatClampNeg) ok dX12_hasLine_47 s_139 (hp11 c5) (by decide) (ltM hnn (by decide)) (sdm hf (by decide)) ?_
    refine w_iconst (v := (-1)) ok dX12_hasLine_48 (by decide) ?_
    refine w_icmp_eq (tgt := 57) ok dX12_hasLine_49 (by decide) (fun c6 => ?_) (fun c6 => ?_)
    · skip
      have eT : (T_X12_hasLine_j57 I J) = (S1_X12_hasLine I J) := by
        unfold T_X12_hasLine_j57; exact (if_pos c5).trans ((if_pos c6).trans (rfl))
      refine w_loc [3, 2, 1, 0] rfl ?_
      have jj := jn1
      rw [eT] at jj
      exact jj
    · skip
      refine w_aload_n ok dX12_hasLine_52 3 rfl ?_
      refine w_iconst (v := 3) ok dX12_hasLine_53 (by decide) ?_
      refine w_cV (As := [.int 3]) ok dX12_hasLine_54 iX12_wrong (lX12_232 rfl) (rcv cls12 (congrArg Prod.fst s_130)) (ltM hnn (by decide)) (c_X12_wrong ro hnn hf 3 ) (by decide) rfl (Nat.le_of_ble_eq_true rfl) ?_
      have eT : (T_X12_hasLine_j57 I J) = (FI_X12_wrong 3 (S1_X12_hasLine I J) J) := by
        unfold T_X12_hasLine_j57; exact (if_pos c5).trans ((if_neg c6).trans (rfl))
      refine w_loc [3, 2, 1, 0] rfl ?_
      have jj := jn1
      rw [eT] at jj
      exact jj
def S1_X12_partyLine (a0 : Int32) (I : SI) (J : SJ) : SI := u2 (FI_X12_fresh 140 8 4 (F_X12_fresher 3 I J) I J) 140 a0.toNatClampNeg (F_X12_fresh 140 8 4 (F_X12_fresher 3 I J) I J)
def S2_X12_partyLine (a0 : Int32) (I : SI) (J : SJ) : SI := u2 (FI_X12_markAtHand  (S1_X12_partyLine a0 I J) J) 141 a0.toNatClampNeg (F_X12_markAtHand  (S1_X12_partyLine a0 I J) J)
def S7_X12_partyLine (a0 : Int32) (I : SI) (J : SJ) : Int32 := (FI_X12_goOn  (S2_X12_partyLine a0 I J) J) 135 ((6 : Int32) + ((FI_X12_goOn  (S2_X12_partyLine a0 I J) J) 141 a0.toNatClampNeg)).toNatClampNeg
def T_X12_partyLine_j68 (a0 : Int32) (I : SI) (J : SJ) : Int32 := if ((FI_X12_goOn  (S2_X12_partyLine a0 I J) J) 130 30) = 0 then ((S7_X12_partyLine a0 I J) - 1) else 0
def S3_X12_partyLine (a0 : Int32) (I : SI) (J : SJ) : SI := FI_X12_numeral 0 (T_X12_partyLine_j68 a0 I J) (FI_X12_goOn  (S2_X12_partyLine a0 I J) J) J
def S4_X12_partyLine (a0 : Int32) (I : SI) (J : SJ) : SI := u2 (S3_X12_partyLine a0 I J) 142 a0.toNatClampNeg (F_X12_numeral 0 (T_X12_partyLine_j68 a0 I J) (FI_X12_goOn  (S2_X12_partyLine a0 I J) J) J)
def S5_X12_partyLine (a0 : Int32) (I : SI) (J : SJ) : SI := u2 (FI_X12_numeral 0 99 (S4_X12_partyLine a0 I J) J) 143 a0.toNatClampNeg (F_X12_numeral 0 99 (S4_X12_partyLine a0 I J) J)
def S6_X12_partyLine (a0 : Int32) (I : SI) (J : SJ) : SI := FI_X12_reads 3 ((F_X12_fresher 3 (S5_X12_partyLine a0 I J) J) + 1) (S5_X12_partyLine a0 I J) J
def FI_X12_partyLine (a0 : Int32) (I : SI) (J : SJ) : SI := (S6_X12_partyLine a0 I J)
def H_X12_partyLine (a0 : Int32) (I : SI) (J : SJ) : Prop := (H_X12_fresher 3 I J) ∧ (H_X12_fresh 140 8 4 (F_X12_fresher 3 I J) I J) ∧ (inR a0 8) ∧ (H_X12_markAtHand  (S1_X12_partyLine a0 I J) J) ∧ (H_X12_goOn  (S2_X12_partyLine a0 I J) J) ∧ (H_X12_numeral 0 (T_X12_partyLine_j68 a0 I J) (FI_X12_goOn  (S2_X12_partyLine a0 I J) J) J) ∧ (H_X12_numeral 0 99 (S4_X12_partyLine a0 I J) J) ∧ (H_X12_fresher 3 (S5_X12_partyLine a0 I J) J) ∧ (H_X12_reads 3 ((F_X12_fresher 3 (S5_X12_partyLine a0 I J) J) + 1) (S5_X12_partyLine a0 I J) J) ∧ (((FI_X12_goOn  (S2_X12_partyLine a0 I J) J) 130 30) = 0 → inR a0 8) ∧ (((FI_X12_goOn  (S2_X12_partyLine a0 I J) J) 130 30) = 0 → inR ((6 : Int32) + ((FI_X12_goOn  (S2_X12_partyLine a0 I J) J) 141 a0.toNatClampNeg)) 12)
set_option maxHeartbeats 1000000 in
set_option maxRecDepth 40000 in
theorem c_X12_partyLine {I : SI} {J : SJ} {R : SR} {n g : Nat} {f : Fr} (ro : RM R) (hnn : nM ≤ n) (hf : f.1 = false) (a0 : Int32)  (hp : H_X12_partyLine a0 I J) : MM 7 0 0 mX12_partyLine [.ref 130, .int a0] (eI f I) (eJ f J) R n g (Pd none (eI f (FI_X12_partyLine a0 I J)) (eJ f J) R n g) := by
  refine MM.of (by decide) (Nat.le_of_ble_eq_true rfl) fun K ok fin => ?_
  show WK K 0 0 0 [(0, .ref 130), (1, .int a0)] [] (eI f I) (eJ f J) R n g
  obtain ⟨hp1, hp2, hp3, hp4, hp5, hp6, hp7, hp8, hp9, hp10, hp11⟩ := hp
  refine w_aload_n ok dX12_partyLine_0 0 rfl ?_
  refine w_getR ok dX12_partyLine_1 (fX12_37 rfl) (congrArg Prod.fst s_130) rfl (r_130_11 ro) (ltM hnn (by decide)) ?_
  refine w_iload_n ok dX12_partyLine_4 1 rfl ?_
  refine w_aload_n ok dX12_partyLine_5 0 rfl ?_
  refine w_aload_n ok dX12_partyLine_6 0 rfl ?_
  refine w_getR ok dX12_partyLine_7 (fX12_37 rfl) (congrArg Prod.fst s_130) rfl (r_130_11 ro) (ltM hnn (by decide)) ?_
  refine w_iconst (v := 4) ok dX12_partyLine_10 (by decide) ?_
  refine w_aload_n ok dX12_partyLine_11 0 rfl ?_
  refine w_iconst (v := 3) ok dX12_partyLine_12 (by decide) ?_
  refine w_cV (As := [.int 3]) ok dX12_partyLine_13 iX12_fresher (lX12_239 rfl) (rcv cls12 (congrArg Prod.fst s_130)) (ltM hnn (by decide)) (c_X12_fresher ro hnn hf 3  (hp1)) (by decide) rfl (Nat.le_of_ble_eq_true rfl) ?_
  show WK K 0 0 16 [(0, .ref 130), (1, .int a0)] [.int (F_X12_fresher 3 I J), .int 4, .ref 140, .ref 130, .int a0, .ref 140] (eI f I) (eJ f J) R n g
  refine w_cV (As := [.ref 140, .int 4, .int (F_X12_fresher 3 I J)]) ok dX12_partyLine_16 iX12_fresh (lX12_253 rfl) (rcv cls12 (congrArg Prod.fst s_130)) (ltM hnn (by decide)) (c_X12_fresh ro hnn hf 4 (F_X12_fresher 3 I J) s_140 (ltM hnn (by decide)) (sdm hf (by decide)) (sh_len s_140) (hp2)) (by decide) rfl (Nat.le_of_ble_eq_true rfl) ?_
  show WK K 0 0 19 [(0, .ref 130), (1, .int a0)] [.int (F_X12_fresh 140 8 4 (F_X12_fresher 3 I J) I J), .int a0, .ref 140] (eI f (FI_X12_fresh 140 8 4 (F_X12_fresher 3 I J) I J)) (eJ f J) R n g
  refine y_iast (q := a0.toNatClampNeg) ok dX12_partyLine_19 s_140 (hp3) (by decide) (ltM hnn (by decide)) (sdm hf (by decide)) ?_
  show WK K 0 0 20 [(0, .ref 130), (1, .int a0)] [] (eI f (S1_X12_partyLine a0 I J)) (eJ f J) R n g
  refine w_aload_n ok dX12_partyLine_20 0 rfl ?_
  refine w_getR ok dX12_partyLine_21 (fX12_40 rfl) (congrArg Prod.fst s_130) rfl (r_130_12 ro) (ltM hnn (by decide)) ?_
  refine w_iload_n ok dX12_partyLine_24 1 rfl ?_
  refine w_aload_n ok dX12_partyLine_25 0 rfl ?_
  refine w_cV (As := []) ok dX12_partyLine_26 iX12_markAtHand (lX12_282 rfl) (rcv cls12 (congrArg Prod.fst s_130)) (ltM hnn (by decide)) (c_X12_markAtHand ro hnn hf   (hp4)) (by decide) rfl (Nat.le_of_ble_eq_true rfl) ?_
  show WK K 0 0 29 [(0, .ref 130), (1, .int a0)] [.int (F_X12_markAtHand  (S1_X12_partyLine a0 I J) J), .int a0, .ref 141] (eI f (FI_X12_markAtHand  (S1_X12_partyLine a0 I J) J)) (eJ f J) R n g
  refine y_iast (q := a0.toNatClampNeg) ok dX12_partyLine_29 s_141 (hp3) (by decide) (ltM hnn (by decide)) (sdm hf (by decide)) ?_
  show WK K 0 0 30 [(0, .ref 130), (1, .int a0)] [] (eI f (S2_X12_partyLine a0 I J)) (eJ f J) R n g
  refine w_aload_n ok dX12_partyLine_30 0 rfl ?_
  refine w_cV (As := []) ok dX12_partyLine_31 iX12_goOn (lX12_279 rfl) (rcv cls12 (congrArg Prod.fst s_130)) (ltM hnn (by decide)) (c_X12_goOn ro hnn hf   (hp5)) (by decide) rfl (Nat.le_of_ble_eq_true rfl) ?_
  refine w_aload_n ok dX12_partyLine_34 0 rfl ?_
  refine w_getR ok dX12_partyLine_35 (fX12_43 rfl) (congrArg Prod.fst s_130) rfl (r_130_13 ro) (ltM hnn (by decide)) ?_
  refine w_iload_n ok dX12_partyLine_38 1 rfl ?_
  refine w_aload_n ok dX12_partyLine_39 0 rfl ?_
  refine w_iconst (v := 0) ok dX12_partyLine_40 (by decide) ?_
  refine w_aload_n ok dX12_partyLine_41 0 rfl ?_
  refine y_getI ok dX12_partyLine_42 (fX12_223 rfl) (congrArg Prod.fst s_130) rfl (ltM hnn (by decide)) (sdm hf (by decide)) ?_
  have jn1 : WK K 0 0 68 [(0, .ref 130), (1, .int a0)] [.int (T_X12_partyLine_j68 a0 I J), .int 0, .ref 130, .int a0, .ref 142] (eI f (FI_X12_goOn  (S2_X12_partyLine a0 I J) J)) (eJ f J) R n g := by
    refine w_cV (As := [.int 0, .int (T_X12_partyLine_j68 a0 I J)]) ok dX12_partyLine_68 iX12_numeral (lX12_256 rfl) (rcv cls12 (congrArg Prod.fst s_130)) (ltM hnn (by decide)) (c_X12_numeral ro hnn hf 0 (T_X12_partyLine_j68 a0 I J)  (hp6)) (by decide) rfl (Nat.le_of_ble_eq_true rfl) ?_
    show WK K 0 0 71 [(0, .ref 130), (1, .int a0)] [.int (F_X12_numeral 0 (T_X12_partyLine_j68 a0 I J) (FI_X12_goOn  (S2_X12_partyLine a0 I J) J) J), .int a0, .ref 142] (eI f (S3_X12_partyLine a0 I J)) (eJ f J) R n g
    refine y_iast (q := a0.toNatClampNeg) ok dX12_partyLine_71 s_142 (hp3) (by decide) (ltM hnn (by decide)) (sdm hf (by decide)) ?_
    show WK K 0 0 72 [(0, .ref 130), (1, .int a0)] [] (eI f (S4_X12_partyLine a0 I J)) (eJ f J) R n g
    refine w_aload_n ok dX12_partyLine_72 0 rfl ?_
    refine w_getR ok dX12_partyLine_73 (fX12_46 rfl) (congrArg Prod.fst s_130) rfl (r_130_14 ro) (ltM hnn (by decide)) ?_
    refine w_iload_n ok dX12_partyLine_76 1 rfl ?_
    refine w_aload_n ok dX12_partyLine_77 0 rfl ?_
    refine w_iconst (v := 0) ok dX12_partyLine_78 (by decide) ?_
    refine w_bipush (v := 99) ok dX12_partyLine_79 (by decide) ?_
    refine w_cV (As := [.int 0, .int 99]) ok dX12_partyLine_81 iX12_numeral (lX12_256 rfl) (rcv cls12 (congrArg Prod.fst s_130)) (ltM hnn (by decide)) (c_X12_numeral ro hnn hf 0 99  (hp7)) (by decide) rfl (Nat.le_of_ble_eq_true rfl) ?_
    show WK K 0 0 84 [(0, .ref 130), (1, .int a0)] [.int (F_X12_numeral 0 99 (S4_X12_partyLine a0 I J) J), .int a0, .ref 143] (eI f (FI_X12_numeral 0 99 (S4_X12_partyLine a0 I J) J)) (eJ f J) R n g
    refine y_iast (q := a0.toNatClampNeg) ok dX12_partyLine_84 s_143 (hp3) (by decide) (ltM hnn (by decide)) (sdm hf (by decide)) ?_
    show WK K 0 0 85 [(0, .ref 130), (1, .int a0)] [] (eI f (S5_X12_partyLine a0 I J)) (eJ f J) R n g
    refine w_aload_n ok dX12_partyLine_85 0 rfl ?_
    refine w_iconst (v := 3) ok dX12_partyLine_86 (by decide) ?_
    refine w_aload_n ok dX12_partyLine_87 0 rfl ?_
    refine w_iconst (v := 3) ok dX12_partyLine_88 (by decide) ?_
    refine w_cV (As := [.int 3]) ok dX12_partyLine_89 iX12_fresher (lX12_239 rfl) (rcv cls12 (congrArg Prod.fst s_130)) (ltM hnn (by decide)) (c_X12_fresher ro hnn hf 3  (hp8)) (by decide) rfl (Nat.le_of_ble_eq_true rfl) ?_
    show WK K 0 0 92 [(0, .ref 130), (1, .int a0)] [.int (F_X12_fresher 3 (S5_X12_partyLine a0 I J) J), .int 3, .ref 130] (eI f (S5_X12_partyLine a0 I J)) (eJ f J) R n g
    refine w_iconst (v := 1) ok dX12_partyLine_92 (by decide) ?_
    refine w_iadd ok dX12_partyLine_93 ?_
    refine w_cV (As := [.int 3, .int ((F_X12_fresher 3 (S5_X12_partyLine a0 I J) J) + 1)]) ok dX12_partyLine_94 iX12_reads (lX12_260 rfl) (rcv cls12 (congrArg Prod.fst s_130)) (ltM hnn (by decide)) (c_X12_reads ro hnn hf 3 ((F_X12_fresher 3 (S5_X12_partyLine a0 I J) J) + 1)  (hp9)) (by decide) rfl (Nat.le_of_ble_eq_true rfl) ?_
    show WK K 0 0 97 [(0, .ref 130), (1, .int a0)] [] (eI f (S6_X12_partyLine a0 I J)) (eJ f J) R n g
    exact w_vret ok fin dX12_partyLine_97 rfl (by unfold FI_X12_partyLine; exact Pd.i)
  refine w_if_ne (tgt := 67) ok dX12_partyLine_45 (by decide) (fun c2 => ?_) (fun c2 => ?_)
  · skip
    refine w_iconst (v := 0) ok dX12_partyLine_67 (by decide) ?_
    have eT : (T_X12_partyLine_j68 a0 I J) = 0 := by
      unfold T_X12_partyLine_j68; exact (if_neg c2).trans (rfl)
    refine w_loc [0, 1] rfl ?_
    have jj := jn1
    rw [eT] at jj
    exact jj
  · skip
    refine w_aload_n ok dX12_partyLine_48 0 rfl ?_
    refine w_getR ok dX12_partyLine_49 (fX12_22 rfl) (congrArg Prod.fst s_130) rfl (r_130_6 ro) (ltM hnn (by decide)) ?_
    refine w_bipush (v := 6) ok dX12_partyLine_52 (by decide) ?_
    refine w_aload_n ok dX12_partyLine_54 0 rfl ?_
    refine w_getR ok dX12_partyLine_55 (fX12_40 rfl) (congrArg Prod.fst s_130) rfl (r_130_12 ro) (ltM hnn (by decide)) ?_
    refine w_iload_n ok dX12_partyLine_58 1 rfl ?_
    refine y_iald (q := a0.toNatClampNeg) ok dX12_partyLine_59 s_141 (hp10 c2) (by decide) (ltM hnn (by decide)) (sdm hf (by decide)) ?_
    refine w_iadd ok dX12_partyLine_60 ?_
    refine y_iald (q := ((6 : Int32) + ((FI_X12_goOn  (S2_X12_partyLine a0 I J) J) 141 a0.toNatClampNeg)).toNatClampNeg) ok dX12_partyLine_61 s_135 (hp11 c2) (by decide) (ltM hnn (by decide)) (sdm hf (by decide)) ?_
    show WK K 0 0 62 [(0, .ref 130), (1, .int a0)] [.int (S7_X12_partyLine a0 I J), .int 0, .ref 130, .int a0, .ref 142] (eI f (FI_X12_goOn  (S2_X12_partyLine a0 I J) J)) (eJ f J) R n g
    refine w_iconst (v := 1) ok dX12_partyLine_62 (by decide) ?_
    refine w_isub ok dX12_partyLine_63 ?_
    refine w_goto (tgt := 68) ok dX12_partyLine_64 (by decide) ?_
    have eT : (T_X12_partyLine_j68 a0 I J) = ((S7_X12_partyLine a0 I J) - 1) := by
      unfold T_X12_partyLine_j68; exact (if_pos c2).trans (rfl)
    refine w_loc [0, 1] rfl ?_
    have jj := jn1
    rw [eT] at jj
    exact jj
def S1_X0_begin (a0 : Nat) (I : SI) (J : SJ) : SI := u2 (u2 (u2 (cpF (FI_X5_copy 105 a0 I J) 5 114 6) 104 2 0) 104 5 (-1)) 104 6 1
def FI_X0_begin (a0 : Nat) (I : SI) (J : SJ) : SI := u2 (S1_X0_begin a0 I J) 104 7 1
def FJ_X0_begin (a0 : Nat) (I : SI) (J : SJ) : SJ := FJ_X5_copy 105 a0 I J
set_option maxHeartbeats 1000000 in
set_option maxRecDepth 40000 in
theorem c_X0_begin {I : SI} {J : SJ} {R : SR} {n g : Nat} {f : Fr} (ro : RO R) (hnn : nK ≤ n) (hf : f.1 = true) {a0 : Nat} (ha0 : IsSc a0)   : MM 3 0 0 mX0_begin [.ref 104, .ref a0] (eI f I) (eJ f J) R n g (Pd none (eI f (FI_X0_begin a0 I J)) (eJ f (FJ_X0_begin a0 I J)) R n g) := by
  refine MM.of (by decide) (Nat.le_of_ble_eq_true rfl) fun K ok fin => ?_
  show WK K 0 0 0 [(0, .ref 104), (1, .ref a0)] [] (eI f I) (eJ f J) R n g
  refine w_aload_n ok dX0_begin_0 0 rfl ?_
  refine w_getR ok dX0_begin_1 (fX0_12 rfl) (congrArg Prod.fst s_104) rfl (r_104_0 ro) (ltK hnn (by decide)) ?_
  refine w_aload_n ok dX0_begin_4 1 rfl ?_
  refine w_cV (As := [.ref a0]) ok dX0_begin_5 iX5_copy (lX0_44 rfl) (rcv cls5 (congrArg Prod.fst s_105)) (ltK hnn (by decide)) (c_X5_copy ro hnn hf  isSc_105 ha0) (by decide) rfl (Nat.le_of_ble_eq_true rfl) ?_
  refine w_aload_n ok dX0_begin_8 0 rfl ?_
  refine w_getR ok dX0_begin_9 (fX0_40 rfl) (congrArg Prod.fst s_104) rfl (r_104_3 ro) (ltK hnn (by decide)) ?_
  refine w_getR ok dX0_begin_12 (fX0_48 rfl) (congrArg Prod.fst s_2) rfl (r_2_0 ro) (ltK hnn (by decide)) ?_
  refine w_getR ok dX0_begin_15 (fX0_54 rfl) (congrArg Prod.fst s_3) rfl (r_3_3 ro) (ltK hnn (by decide)) ?_
  refine w_aload_n ok dX0_begin_18 0 rfl ?_
  refine w_getR ok dX0_begin_19 (fX0_18 rfl) (congrArg Prod.fst s_104) rfl (r_104_1 ro) (ltK hnn (by decide)) ?_
  refine w_cS (As := [.ref 5, .ref 114]) ok dX0_begin_22 iX11_copyRow (lX0_59 rfl) (c_copyRow s_5 s_114 (ltK hnn (by decide)) (ltK hnn (by decide)) (sdc hf (by decide)) (sdc hf (by decide))) (by decide) rfl (Nat.le_of_ble_eq_true rfl) ?_
  refine w_aload_n ok dX0_begin_25 0 rfl ?_
  refine w_iconst (v := 0) ok dX0_begin_26 (by decide) ?_
  refine y_putI ok dX0_begin_27 (fwX0_22 rfl) (congrArg Prod.fst s_104) rfl (ltK hnn (by decide)) (sdc hf (by decide)) ?_
  refine w_aload_n ok dX0_begin_30 0 rfl ?_
  refine w_iconst (v := (-1)) ok dX0_begin_31 (by decide) ?_
  refine y_putI ok dX0_begin_32 (fwX0_30 rfl) (congrArg Prod.fst s_104) rfl (ltK hnn (by decide)) (sdc hf (by decide)) ?_
  refine w_aload_n ok dX0_begin_35 0 rfl ?_
  refine w_iconst (v := 1) ok dX0_begin_36 (by decide) ?_
  refine y_putZ ok dX0_begin_37 (fwX0_33 rfl) (congrArg Prod.fst s_104) rfl (by decide) (ltK hnn (by decide)) (sdc hf (by decide)) ?_
  show WK K 0 0 40 [(0, .ref 104), (1, .ref a0)] [] (eI f (S1_X0_begin a0 I J)) (eJ f (FJ_X5_copy 105 a0 I J)) R n g
  refine w_aload_n ok dX0_begin_40 0 rfl ?_
  refine w_iconst (v := 1) ok dX0_begin_41 (by decide) ?_
  refine y_putZ ok dX0_begin_42 (fwX0_37 rfl) (congrArg Prod.fst s_104) rfl (by decide) (ltK hnn (by decide)) (sdc hf (by decide)) ?_
  exact w_vret ok fin dX0_begin_45 rfl (by unfold FI_X0_begin FJ_X0_begin; exact Pd.i)
def S1_X0_isAway (I : SI) (J : SJ) : Int64 := (((u2 J 105 6 ((((J 105 6) * 1103515245) + 12345) &&& 2147483647)) 105 6) / 65536) - (((u2 J 105 6 ((((J 105 6) * 1103515245) + 12345) &&& 2147483647)) 105 6) / 65536) / 100 * 100
def F_X0_isAway  (I : SI) (J : SJ) : Int32 := if (I 104 2) = 2 then (if (I 104 2) = 3 then 1 else 0) else (if (I 104 2) = 3 then 1 else (if (F_X9_isCold 2 (I 105 0) I J) = 0 then (if (I 104 2) = 0 then (if (I 2 7) < 50 then 0 else 1) else (if (I 2 7) ≤ 0 then (if (I 2 7) < 50 then 0 else 1) else (if (I 2 7) < 100 then (if (0 : Int32) ≤ (lg_cmp (S1_X0_isAway I J) ((I 2 7).toInt64)) then 0 else 1) else (if (I 2 7) < 50 then 0 else 1)))) else 1))
def FJ_X0_isAway  (I : SI) (J : SJ) : SJ := if (I 104 2) = 2 then (if (I 104 2) = 3 then J else J) else (if (I 104 2) = 3 then J else (if (F_X9_isCold 2 (I 105 0) I J) = 0 then (if (I 104 2) = 0 then (if (I 2 7) < 50 then J else J) else (if (I 2 7) ≤ 0 then (if (I 2 7) < 50 then J else J) else (if (I 2 7) < 100 then (if (0 : Int32) ≤ (lg_cmp (S1_X0_isAway I J) ((I 2 7).toInt64)) then u2 J 105 6 ((((J 105 6) * 1103515245) + 12345) &&& 2147483647) else u2 J 105 6 ((((J 105 6) * 1103515245) + 12345) &&& 2147483647)) else (if (I 2 7) < 50 then J else J)))) else J))
set_option maxHeartbeats 1280000 in
set_option maxRecDepth 40000 in
theorem c_X0_isAway {I : SI} {J : SJ} {R : SR} {n g : Nat} {f : Fr} (ro : RO R) (hnn : nK ≤ n) (hf : f.1 = true)    : MM 2 0 0 mX0_isAway [.ref 104] (eI f I) (eJ f J) R n g (Pd (some (.int (F_X0_isAway  I J))) (eI f I) (eJ f (FJ_X0_isAway  I J)) R n g) := by
  refine MM.of (by decide) (Nat.le_of_ble_eq_true rfl) fun K ok fin => ?_
  show WK K 0 0 0 [(0, .ref 104)] [] (eI f I) (eJ f J) R n g
  refine w_aload_n ok dX0_isAway_0 0 rfl ?_
  refine y_getI ok dX0_isAway_1 (fX0_22 rfl) (congrArg Prod.fst s_104) rfl (ltK hnn (by decide)) (sdc hf (by decide)) ?_
  refine w_iconst (v := 2) ok dX0_isAway_4 (by decide) ?_
  refine w_icmp_eq (tgt := 16) ok dX0_isAway_5 (by decide) (fun c1 => ?_) (fun c1 => ?_)
  · skip
    refine w_aload_n ok dX0_isAway_16 0 rfl ?_
    refine y_getI ok dX0_isAway_17 (fX0_22 rfl) (congrArg Prod.fst s_104) rfl (ltK hnn (by decide)) (sdc hf (by decide)) ?_
    refine w_iconst (v := 3) ok dX0_isAway_20 (by decide) ?_
    refine w_icmp_ne (tgt := 28) ok dX0_isAway_21 (by decide) (fun c2 => ?_) (fun c2 => ?_)
    · skip
      refine w_iconst (v := 0) ok dX0_isAway_28 (by decide) ?_
      exact w_zret ok fin dX0_isAway_29 rfl (by decide) (by unfold F_X0_isAway FJ_X0_isAway; simp only [if_pos c1]; simp only [if_neg c2]; exact Pd.i)
    · skip
      refine w_iconst (v := 1) ok dX0_isAway_24 (by decide) ?_
      refine w_goto (tgt := 29) ok dX0_isAway_25 (by decide) ?_
      exact w_zret ok fin dX0_isAway_29 rfl (by decide) (by unfold F_X0_isAway FJ_X0_isAway; simp only [if_pos c1]; simp only [if_pos c2]; exact Pd.i)
  · skip
    refine w_aload_n ok dX0_isAway_8 0 rfl ?_
    refine y_getI ok dX0_isAway_9 (fX0_22 rfl) (congrArg Prod.fst s_104) rfl (ltK hnn (by decide)) (sdc hf (by decide)) ?_
    refine w_iconst (v := 3) ok dX0_isAway_12 (by decide) ?_
    refine w_icmp_ne (tgt := 30) ok dX0_isAway_13 (by decide) (fun c3 => ?_) (fun c3 => ?_)
    · skip
      refine w_aload_n ok dX0_isAway_30 0 rfl ?_
      refine w_getR ok dX0_isAway_31 (fX0_40 rfl) (congrArg Prod.fst s_104) rfl (r_104_3 ro) (ltK hnn (by decide)) ?_
      refine w_aload_n ok dX0_isAway_34 0 rfl ?_
      refine w_getR ok dX0_isAway_35 (fX0_12 rfl) (congrArg Prod.fst s_104) rfl (r_104_0 ro) (ltK hnn (by decide)) ?_
      refine y_getI ok dX0_isAway_38 (fX0_93 rfl) (congrArg Prod.fst s_105) rfl (ltK hnn (by decide)) (sdc hf (by decide)) ?_
      refine w_cV (As := [.int (I 105 0)]) ok dX0_isAway_41 iX9_isCold (lX0_110 rfl) (rcv cls9 (congrArg Prod.fst s_2)) (ltK hnn (by decide)) (c_X9_isCold ro hnn hf (I 105 0) isTo_2) (by decide) rfl (Nat.le_of_ble_eq_true rfl) ?_
      refine w_if_eq (tgt := 49) ok dX0_isAway_44 (by decide) (fun c4 => ?_) (fun c4 => ?_)
      · skip
        refine w_aload_n ok dX0_isAway_49 0 rfl ?_
        refine y_getI ok dX0_isAway_50 (fX0_22 rfl) (congrArg Prod.fst s_104) rfl (ltK hnn (by decide)) (sdc hf (by decide)) ?_
        refine w_if_eq (tgt := 78) ok dX0_isAway_53 (by decide) (fun c5 => ?_) (fun c5 => ?_)
        · skip
          refine w_aload_n ok dX0_isAway_78 0 rfl ?_
          refine w_getR ok dX0_isAway_79 (fX0_40 rfl) (congrArg Prod.fst s_104) rfl (r_104_3 ro) (ltK hnn (by decide)) ?_
          refine y_getI ok dX0_isAway_82 (fX0_114 rfl) (congrArg Prod.fst s_2) rfl (ltK hnn (by decide)) (sdc hf (by decide)) ?_
          refine w_bipush (v := 50) ok dX0_isAway_85 (by decide) ?_
          refine w_icmp_lt (tgt := 94) ok dX0_isAway_87 (by decide) (fun c6 => ?_) (fun c6 => ?_)
          · skip
            refine w_iconst (v := 0) ok dX0_isAway_94 (by decide) ?_
            exact w_zret ok fin dX0_isAway_95 rfl (by decide) (by unfold F_X0_isAway FJ_X0_isAway; simp only [if_neg c1]; simp only [if_neg c3]; simp only [if_pos c4]; simp only [if_pos c5]; simp only [if_pos c6]; exact Pd.i)
          · skip
            refine w_iconst (v := 1) ok dX0_isAway_90 (by decide) ?_
            refine w_goto (tgt := 95) ok dX0_isAway_91 (by decide) ?_
            exact w_zret ok fin dX0_isAway_95 rfl (by decide) (by unfold F_X0_isAway FJ_X0_isAway; simp only [if_neg c1]; simp only [if_neg c3]; simp only [if_pos c4]; simp only [if_pos c5]; simp only [if_neg c6]; exact Pd.i)
        · skip
          refine w_aload_n ok dX0_isAway_56 0 rfl ?_
          refine w_getR ok dX0_isAway_57 (fX0_40 rfl) (congrArg Prod.fst s_104) rfl (r_104_3 ro) (ltK hnn (by decide)) ?_
          refine y_getI ok dX0_isAway_60 (fX0_114 rfl) (congrArg Prod.fst s_2) rfl (ltK hnn (by decide)) (sdc hf (by decide)) ?_
          refine w_if_le (tgt := 78) ok dX0_isAway_63 (by decide) (fun c7 => ?_) (fun c7 => ?_)
          · skip
            refine w_aload_n ok dX0_isAway_78 0 rfl ?_
            refine w_getR ok dX0_isAway_79 (fX0_40 rfl) (congrArg Prod.fst s_104) rfl (r_104_3 ro) (ltK hnn (by decide)) ?_
            refine y_getI ok dX0_isAway_82 (fX0_114 rfl) (congrArg Prod.fst s_2) rfl (ltK hnn (by decide)) (sdc hf (by decide)) ?_
            refine w_bipush (v := 50) ok dX0_isAway_85 (by decide) ?_
            refine w_icmp_lt (tgt := 94) ok dX0_isAway_87 (by decide) (fun c8 => ?_) (fun c8 => ?_)
            · skip
              refine w_iconst (v := 0) ok dX0_isAway_94 (by decide) ?_
              exact w_zret ok fin dX0_isAway_95 rfl (by decide) (by unfold F_X0_isAway FJ_X0_isAway; simp only [if_neg c1]; simp only [if_neg c3]; simp only [if_pos c4]; simp only [if_neg c5]; simp only [if_pos c7]; simp only [if_pos c8]; exact Pd.i)
            · skip
              refine w_iconst (v := 1) ok dX0_isAway_90 (by decide) ?_
              refine w_goto (tgt := 95) ok dX0_isAway_91 (by decide) ?_
              exact w_zret ok fin dX0_isAway_95 rfl (by decide) (by unfold F_X0_isAway FJ_X0_isAway; simp only [if_neg c1]; simp only [if_neg c3]; simp only [if_pos c4]; simp only [if_neg c5]; simp only [if_pos c7]; simp only [if_neg c8]; exact Pd.i)
          · skip
            refine w_aload_n ok dX0_isAway_66 0 rfl ?_
            refine w_getR ok dX0_isAway_67 (fX0_40 rfl) (congrArg Prod.fst s_104) rfl (r_104_3 ro) (ltK hnn (by decide)) ?_
            refine y_getI ok dX0_isAway_70 (fX0_114 rfl) (congrArg Prod.fst s_2) rfl (ltK hnn (by decide)) (sdc hf (by decide)) ?_
            refine w_bipush (v := 100) ok dX0_isAway_73 (by decide) ?_
            refine w_icmp_lt (tgt := 96) ok dX0_isAway_75 (by decide) (fun c9 => ?_) (fun c9 => ?_)
            · skip
              refine w_aload_n ok dX0_isAway_96 0 rfl ?_
              refine w_getR ok dX0_isAway_97 (fX0_12 rfl) (congrArg Prod.fst s_104) rfl (r_104_0 ro) (ltK hnn (by decide)) ?_
              refine w_aload_n ok dX0_isAway_100 0 rfl ?_
              refine w_getR ok dX0_isAway_101 (fX0_12 rfl) (congrArg Prod.fst s_104) rfl (r_104_0 ro) (ltK hnn (by decide)) ?_
              refine y_getJ ok dX0_isAway_104 (fX0_117 rfl) (congrArg Prod.fst s_105) rfl (ltK hnn (by decide)) (sdc hf (by decide)) ?_
              refine w_ldc2 ok dX0_isAway_107 kX0_121 ?_
              refine w_lmul ok dX0_isAway_110 ?_
              refine w_ldc2 ok dX0_isAway_111 kX0_123 ?_
              refine w_ladd ok dX0_isAway_114 ?_
              refine w_ldc2 ok dX0_isAway_115 kX0_125 ?_
              refine w_land ok dX0_isAway_118 ?_
              refine y_putJ ok dX0_isAway_119 (fwX0_117 rfl) (congrArg Prod.fst s_105) rfl (ltK hnn (by decide)) (sdc hf (by decide)) ?_
              refine w_aload_n ok dX0_isAway_122 0 rfl ?_
              refine w_getR ok dX0_isAway_123 (fX0_12 rfl) (congrArg Prod.fst s_104) rfl (r_104_0 ro) (ltK hnn (by decide)) ?_
              refine y_getJ ok dX0_isAway_126 (fX0_117 rfl) (congrArg Prod.fst s_105) rfl (ltK hnn (by decide)) (sdc hf (by decide)) ?_
              refine w_ldc2 ok dX0_isAway_129 kX0_127 ?_
              refine w_ldiv ok dX0_isAway_132 (by decide) ?_
              refine w_ldc2 ok dX0_isAway_133 kX0_129 ?_
              refine w_lrem ok dX0_isAway_136 (by decide) ?_
              show WK K 0 0 137 [(0, .ref 104)] [.long (S1_X0_isAway I J)] (eI f I) (eJ f (u2 J 105 6 ((((J 105 6) * 1103515245) + 12345) &&& 2147483647))) R n g
              refine w_aload_n ok dX0_isAway_137 0 rfl ?_
              refine w_getR ok dX0_isAway_138 (fX0_40 rfl) (congrArg Prod.fst s_104) rfl (r_104_3 ro) (ltK hnn (by decide)) ?_
              refine y_getI ok dX0_isAway_141 (fX0_114 rfl) (congrArg Prod.fst s_2) rfl (ltK hnn (by decide)) (sdc hf (by decide)) ?_
              refine w_i2l ok dX0_isAway_144 ?_
              refine w_lcmp ok dX0_isAway_145 ?_
              refine w_if_ge (tgt := 153) ok dX0_isAway_146 (by decide) (fun c10 => ?_) (fun c10 => ?_)
              · skip
                refine w_iconst (v := 0) ok dX0_isAway_153 (by decide) ?_
                exact w_zret ok fin dX0_isAway_154 rfl (by decide) (by unfold F_X0_isAway FJ_X0_isAway; simp only [if_neg c1]; simp only [if_neg c3]; simp only [if_pos c4]; simp only [if_neg c5]; simp only [if_neg c7]; simp only [if_pos c9]; simp only [if_pos c10]; exact Pd.i)
              · skip
                refine w_iconst (v := 1) ok dX0_isAway_149 (by decide) ?_
                refine w_goto (tgt := 154) ok dX0_isAway_150 (by decide) ?_
                exact w_zret ok fin dX0_isAway_154 rfl (by decide) (by unfold F_X0_isAway FJ_X0_isAway; simp only [if_neg c1]; simp only [if_neg c3]; simp only [if_pos c4]; simp only [if_neg c5]; simp only [if_neg c7]; simp only [if_pos c9]; simp only [if_neg c10]; exact Pd.i)
            · skip
              refine w_aload_n ok dX0_isAway_78 0 rfl ?_
              refine w_getR ok dX0_isAway_79 (fX0_40 rfl) (congrArg Prod.fst s_104) rfl (r_104_3 ro) (ltK hnn (by decide)) ?_
              refine y_getI ok dX0_isAway_82 (fX0_114 rfl) (congrArg Prod.fst s_2) rfl (ltK hnn (by decide)) (sdc hf (by decide)) ?_
              refine w_bipush (v := 50) ok dX0_isAway_85 (by decide) ?_
              refine w_icmp_lt (tgt := 94) ok dX0_isAway_87 (by decide) (fun c11 => ?_) (fun c11 => ?_)
              · skip
                refine w_iconst (v := 0) ok dX0_isAway_94 (by decide) ?_
                exact w_zret ok fin dX0_isAway_95 rfl (by decide) (by unfold F_X0_isAway FJ_X0_isAway; simp only [if_neg c1]; simp only [if_neg c3]; simp only [if_pos c4]; simp only [if_neg c5]; simp only [if_neg c7]; simp only [if_neg c9]; simp only [if_pos c11]; exact Pd.i)
              · skip
                refine w_iconst (v := 1) ok dX0_isAway_90 (by decide) ?_
                refine w_goto (tgt := 95) ok dX0_isAway_91 (by decide) ?_
                exact w_zret ok fin dX0_isAway_95 rfl (by decide) (by unfold F_X0_isAway FJ_X0_isAway; simp only [if_neg c1]; simp only [if_neg c3]; simp only [if_pos c4]; simp only [if_neg c5]; simp only [if_neg c7]; simp only [if_neg c9]; simp only [if_neg c11]; exact Pd.i)
      · skip
        refine w_iconst (v := 1) ok dX0_isAway_47 (by decide) ?_
        exact w_zret ok fin dX0_isAway_48 rfl (by decide) (by unfold F_X0_isAway FJ_X0_isAway; simp only [if_neg c1]; simp only [if_neg c3]; simp only [if_neg c4]; exact Pd.i)
    · skip
      refine w_aload_n ok dX0_isAway_16 0 rfl ?_
      refine y_getI ok dX0_isAway_17 (fX0_22 rfl) (congrArg Prod.fst s_104) rfl (ltK hnn (by decide)) (sdc hf (by decide)) ?_
      refine w_iconst (v := 3) ok dX0_isAway_20 (by decide) ?_
      refine w_icmp_ne (tgt := 28) ok dX0_isAway_21 (by decide) (fun h => absurd c3 h) (fun _ => ?_)
      refine w_iconst (v := 1) ok dX0_isAway_24 (by decide) ?_
      refine w_goto (tgt := 29) ok dX0_isAway_25 (by decide) ?_
      exact w_zret ok fin dX0_isAway_29 rfl (by decide) (by unfold F_X0_isAway FJ_X0_isAway; simp only [if_neg c1]; simp only [if_pos c3]; exact Pd.i)
def S1_X0_filmAgain (a0 : Int32) (I : SI) (J : SJ) : SI := putF (u2 I 105 3 ((I 105 3) + 1)) 108 8 a0 ((atF ((u2 I 105 3 ((I 105 3) + 1)) 108) 8 a0) + 1)
def B_X0_filmAgain_w39 (a0 : Int32) (I : SI) (J : SJ) (s39 : Int32 × SI) : (Int32 × SI) ⊕ (Int32 × SI) := if (s39.2 3 1) ≤ s39.1 then .inr (s39.1, s39.2) else (if (atF (s39.2 110) 6 s39.1) < 0 then .inl ((s39.1 + 1), s39.2) else (if (F_X5_wayIn 105 a0 s39.1 s39.2 J) < 0 then .inl ((s39.1 + 1), s39.2) else .inl ((s39.1 + 1), (putF s39.2 109 48 ((a0 * 6) + s39.1) (atF (s39.2 110) 6 s39.1)))))
def F_X0_filmAgain_w39 (a0 : Int32) (I : SI) (J : SJ) (s0 : Int32 × SI) : Int32 × SI := (itW (B_X0_filmAgain_w39 a0 I J) 800 s0).getD s0
def FI_X0_filmAgain (a0 : Int32) (I : SI) (J : SJ) : SI := (F_X0_filmAgain_w39 a0 I J (0, (S1_X0_filmAgain a0 I J))).2
def H_X0_filmAgain (a0 : Int32) (I : SI) (J : SJ) : Prop := ((itW (B_X0_filmAgain_w39 a0 I J) 800 (0, (S1_X0_filmAgain a0 I J))).isSome = true)
set_option maxHeartbeats 1000000 in
set_option maxRecDepth 40000 in
theorem c_X0_filmAgain {I : SI} {J : SJ} {R : SR} {n g : Nat} {f : Fr} (ro : RO R) (hnn : nK ≤ n) (hf : f.1 = true) (a0 : Int32)  (hp : H_X0_filmAgain a0 I J) : MM 2 0 0 mX0_filmAgain [.ref 104, .int a0] (eI f I) (eJ f J) R n g (Pd none (eI f (FI_X0_filmAgain a0 I J)) (eJ f J) R n g) := by
  refine MM.of (by decide) (Nat.le_of_ble_eq_true rfl) fun K ok fin => ?_
  show WK K 0 0 0 [(0, .ref 104), (1, .int a0)] [] (eI f I) (eJ f J) R n g
  have hp1 := hp
  refine w_aload_n ok dX0_filmAgain_0 0 rfl ?_
  refine w_getR ok dX0_filmAgain_1 (fX0_12 rfl) (congrArg Prod.fst s_104) rfl (r_104_0 ro) (ltK hnn (by decide)) ?_
  refine w_dup ok dX0_filmAgain_4 rfl ?_
  refine y_getI ok dX0_filmAgain_5 (fX0_200 rfl) (congrArg Prod.fst s_105) rfl (ltK hnn (by decide)) (sdc hf (by decide)) ?_
  refine w_iconst (v := 1) ok dX0_filmAgain_8 (by decide) ?_
  refine w_iadd ok dX0_filmAgain_9 ?_
  refine y_putI ok dX0_filmAgain_10 (fwX0_200 rfl) (congrArg Prod.fst s_105) rfl (ltK hnn (by decide)) (sdc hf (by decide)) ?_
  refine w_aload_n ok dX0_filmAgain_13 0 rfl ?_
  refine w_getR ok dX0_filmAgain_14 (fX0_12 rfl) (congrArg Prod.fst s_104) rfl (r_104_0 ro) (ltK hnn (by decide)) ?_
  refine w_getR ok dX0_filmAgain_17 (fX0_203 rfl) (congrArg Prod.fst s_105) rfl (r_105_9 ro) (ltK hnn (by decide)) ?_
  refine w_iload_n ok dX0_filmAgain_20 1 rfl ?_
  refine w_aload_n ok dX0_filmAgain_21 0 rfl ?_
  refine w_getR ok dX0_filmAgain_22 (fX0_12 rfl) (congrArg Prod.fst s_104) rfl (r_104_0 ro) (ltK hnn (by decide)) ?_
  refine w_getR ok dX0_filmAgain_25 (fX0_203 rfl) (congrArg Prod.fst s_105) rfl (r_105_9 ro) (ltK hnn (by decide)) ?_
  refine w_iload_n ok dX0_filmAgain_28 1 rfl ?_
  refine w_cS (As := [.ref 108, .int a0]) ok dX0_filmAgain_29 iX11_at (lX0_86 rfl) (c_at s_108 (ltK hnn (by decide)) (sdc hf (by decide)) a0) (by decide) rfl (Nat.le_of_ble_eq_true rfl) ?_
  show WK K 0 0 32 [(0, .ref 104), (1, .int a0)] [.int (atF ((u2 I 105 3 ((I 105 3) + 1)) 108) 8 a0), .int a0, .ref 108] (eI f (u2 I 105 3 ((I 105 3) + 1))) (eJ f J) R n g
  refine w_iconst (v := 1) ok dX0_filmAgain_32 (by decide) ?_
  refine w_iadd ok dX0_filmAgain_33 ?_
  refine w_cS (As := [.ref 108, .int a0, .int ((atF ((u2 I 105 3 ((I 105 3) + 1)) 108) 8 a0) + 1)]) ok dX0_filmAgain_34 iX11_put (lX0_131 rfl) (c_put s_108 (ltK hnn (by decide)) (sdc hf (by decide)) a0 ((atF ((u2 I 105 3 ((I 105 3) + 1)) 108) 8 a0) + 1)) (by decide) rfl (Nat.le_of_ble_eq_true rfl) ?_
  show WK K 0 0 37 [(0, .ref 104), (1, .int a0)] [] (eI f (S1_X0_filmAgain a0 I J)) (eJ f J) R n g
  refine w_iconst (v := 0) ok dX0_filmAgain_37 (by decide) ?_
  refine w_istore_n ok dX0_filmAgain_38 rfl (by decide) rfl ?_
  refine w_loc [1, 2, 0] rfl ?_
  refine loop_w (fun (s39 : Int32 × SI) => WK K 0 0 39 [(0, .ref 104), (1, .int a0), (2, .int s39.1)] [] (eI f s39.2) (eJ f J) R n g) (fun (s39 : Int32 × SI) => WK K 0 0 104 [(0, .ref 104), (1, .int a0), (2, .int s39.1)] [] (eI f s39.2) (eJ f J) R n g) (B_X0_filmAgain_w39 a0 I J) 800 (0, (S1_X0_filmAgain a0 I J)) (F_X0_filmAgain_w39 a0 I J (0, (S1_X0_filmAgain a0 I J))) (itW_some (hp1)) ?_ ?_
  · show WK K 0 0 104 [(0, .ref 104), (1, .int a0), (2, .int ((F_X0_filmAgain_w39 a0 I J (0, (S1_X0_filmAgain a0 I J))).1))] [] (eI f ((F_X0_filmAgain_w39 a0 I J (0, (S1_X0_filmAgain a0 I J))).2)) (eJ f J) R n g
    exact w_vret ok fin dX0_filmAgain_104 rfl (by unfold FI_X0_filmAgain; exact Pd.i)
  · intro n39 s39 hs39 kc39 kx39
    show WK K 0 0 39 [(0, .ref 104), (1, .int a0), (2, .int s39.1)] [] (eI f s39.2) (eJ f J) R n g
    refine w_iload_n ok dX0_filmAgain_39 2 rfl ?_
    refine w_aload_n ok dX0_filmAgain_40 0 rfl ?_
    refine w_getR ok dX0_filmAgain_41 (fX0_40 rfl) (congrArg Prod.fst s_104) rfl (r_104_3 ro) (ltK hnn (by decide)) ?_
    refine w_getR ok dX0_filmAgain_44 (fX0_48 rfl) (congrArg Prod.fst s_2) rfl (r_2_0 ro) (ltK hnn (by decide)) ?_
    refine y_getI ok dX0_filmAgain_47 (fX0_80 rfl) (congrArg Prod.fst s_3) rfl (ltK hnn (by decide)) (sdc hf (by decide)) ?_
    refine w_icmp_ge (tgt := 104) ok dX0_filmAgain_50 (by decide) (fun c1 => ?_) (fun c1 => ?_)
    · skip
      have eB : B_X0_filmAgain_w39 a0 I J s39 = .inr (s39.1, s39.2) := by
        unfold B_X0_filmAgain_w39; exact (if_pos c1).trans (rfl)
      refine w_loc [0, 1, 2] rfl ?_
      have kk := kx39 _ eB
      exact kk
    · skip
      refine w_aload_n ok dX0_filmAgain_53 0 rfl ?_
      refine w_getR ok dX0_filmAgain_54 (fX0_12 rfl) (congrArg Prod.fst s_104) rfl (r_104_0 ro) (ltK hnn (by decide)) ?_
      refine w_getR ok dX0_filmAgain_57 (fX0_139 rfl) (congrArg Prod.fst s_105) rfl (r_105_11 ro) (ltK hnn (by decide)) ?_
      refine w_iload_n ok dX0_filmAgain_60 2 rfl ?_
      refine w_cS (As := [.ref 110, .int s39.1]) ok dX0_filmAgain_61 iX11_at (lX0_86 rfl) (c_at s_110 (ltK hnn (by decide)) (sdc hf (by decide)) s39.1) (by decide) rfl (Nat.le_of_ble_eq_true rfl) ?_
      refine w_istore_n ok dX0_filmAgain_64 rfl (by decide) rfl ?_
      refine w_iload_n ok dX0_filmAgain_65 0 rfl ?_
      refine w_if_lt (tgt := 98) ok dX0_filmAgain_66 (by decide) (fun c2 => ?_) (fun c2 => ?_)
      · skip
        refine w_iinc (v := s39.1 + 1) ok dX0_filmAgain_98 3 rfl rfl (by decide) rfl ?_
        refine w_goto (tgt := 39) ok dX0_filmAgain_101 (by decide) ?_
        have eB : B_X0_filmAgain_w39 a0 I J s39 = .inl ((s39.1 + 1), s39.2) := by
          unfold B_X0_filmAgain_w39; exact (if_neg c1).trans ((if_pos c2).trans (rfl))
        refine w_loc [2, 3, 0] rfl ?_
        have kk := kc39 _ eB
        exact kk
      · skip
        refine w_aload_n ok dX0_filmAgain_69 1 rfl ?_
        refine w_getR ok dX0_filmAgain_70 (fX0_12 rfl) (congrArg Prod.fst s_104) rfl (r_104_0 ro) (ltK hnn (by decide)) ?_
        refine w_iload_n ok dX0_filmAgain_73 2 rfl ?_
        refine w_iload_n ok dX0_filmAgain_74 3 rfl ?_
        refine w_cV (As := [.int a0, .int s39.1]) ok dX0_filmAgain_75 iX5_wayIn (lX0_135 rfl) (rcv cls5 (congrArg Prod.fst s_105)) (ltK hnn (by decide)) (c_X5_wayIn ro hnn hf a0 s39.1 isSc_105) (by decide) rfl (Nat.le_of_ble_eq_true rfl) ?_
        refine w_if_lt (tgt := 98) ok dX0_filmAgain_78 (by decide) (fun c3 => ?_) (fun c3 => ?_)
        · skip
          refine w_iinc (v := s39.1 + 1) ok dX0_filmAgain_98 3 rfl rfl (by decide) rfl ?_
          refine w_goto (tgt := 39) ok dX0_filmAgain_101 (by decide) ?_
          have eB : B_X0_filmAgain_w39 a0 I J s39 = .inl ((s39.1 + 1), s39.2) := by
            unfold B_X0_filmAgain_w39; exact (if_neg c1).trans ((if_neg c2).trans ((if_pos c3).trans (rfl)))
          refine w_loc [2, 3, 0] rfl ?_
          have kk := kc39 _ eB
          exact kk
        · skip
          refine w_aload_n ok dX0_filmAgain_81 1 rfl ?_
          refine w_getR ok dX0_filmAgain_82 (fX0_12 rfl) (congrArg Prod.fst s_104) rfl (r_104_0 ro) (ltK hnn (by decide)) ?_
          refine w_getR ok dX0_filmAgain_85 (fX0_142 rfl) (congrArg Prod.fst s_105) rfl (r_105_10 ro) (ltK hnn (by decide)) ?_
          refine w_iload_n ok dX0_filmAgain_88 2 rfl ?_
          refine w_bipush (v := 6) ok dX0_filmAgain_89 (by decide) ?_
          refine w_imul ok dX0_filmAgain_91 ?_
          refine w_iload_n ok dX0_filmAgain_92 3 rfl ?_
          refine w_iadd ok dX0_filmAgain_93 ?_
          refine w_iload_n ok dX0_filmAgain_94 0 rfl ?_
          refine w_cS (As := [.ref 109, .int ((a0 * 6) + s39.1), .int (atF (s39.2 110) 6 s39.1)]) ok dX0_filmAgain_95 iX11_put (lX0_131 rfl) (c_put s_109 (ltK hnn (by decide)) (sdc hf (by decide)) ((a0 * 6) + s39.1) (atF (s39.2 110) 6 s39.1)) (by decide) rfl (Nat.le_of_ble_eq_true rfl) ?_
          refine w_iinc (v := s39.1 + 1) ok dX0_filmAgain_98 3 rfl rfl (by decide) rfl ?_
          refine w_goto (tgt := 39) ok dX0_filmAgain_101 (by decide) ?_
          have eB : B_X0_filmAgain_w39 a0 I J s39 = .inl ((s39.1 + 1), (putF s39.2 109 48 ((a0 * 6) + s39.1) (atF (s39.2 110) 6 s39.1))) := by
            unfold B_X0_filmAgain_w39; exact (if_neg c1).trans ((if_neg c2).trans ((if_neg c3).trans (rfl)))
          refine w_loc [2, 3, 0] rfl ?_
          have kk := kc39 _ eB
          exact kk
def T_X1_worth_j79 (k : Nat) (a0 : Nat) (la0 : Nat) (I : SI) (J : SJ) (i4 : Nat) (s4 : Int32 × SJ) : Int32 := if (lg_cmp (F_X1_openAt k (s4.1 - 1) I s4.2) 0) = 0 then 1 else 0
def S2_X1_worth (k : Nat) (a0 : Nat) (la0 : Nat) (I : SI) (J : SJ) (i4 : Nat) (s4 : Int32 × SJ) : Int64 := F_X1_join (atF (I (k + 1)) 64 (nI i4)) (F_X1_openAt k (s4.1 - 2) I s4.2) (F_X1_openAt k (s4.1 - 1) I s4.2) I s4.2
def T_X1_worth_j97_2 (k : Nat) (a0 : Nat) (la0 : Nat) (I : SI) (J : SJ) (i4 : Nat) (s4 : Int32 × SJ) : Int64 := if (F_X1_partsOf (atF (I (k + 1)) 64 (nI i4)) I s4.2) = 2 then (S2_X1_worth k a0 la0 I J i4 s4) else (if (F_X1_partsOf (atF (I (k + 1)) 64 (nI i4)) I s4.2) = 1 then ((T_X1_worth_j79 k a0 la0 I J i4 s4).toInt64) else (F_X1_leaf (atF (I (k + 1)) 64 (nI i4)) (atF (I (k + 2)) 64 (nI i4)) a0 la0 I s4.2))
def S1_X1_worth (k : Nat) (a0 : Nat) (la0 : Nat) (I : SI) (J : SJ) (i4 : Nat) (s4 : Int32 × SJ) : SJ := u2 s4.2 (k + 3) (s4.1 - (F_X1_partsOf (atF (I (k + 1)) 64 (nI i4)) I s4.2)).toNatClampNeg (T_X1_worth_j97_2 k a0 la0 I J i4 s4)
def B_X1_worth_l4_2 (k : Nat) (a0 : Nat) (la0 : Nat) (I : SI) (J : SJ) (i4 : Nat) (s4 : Int32 × SJ) : (Int32 × SJ) ⊕ (Int64 × SJ) := if (0 : Int32) < (lg_cmp (T_X1_worth_j97_2 k a0 la0 I J i4 s4) 1000000000000) then .inr ((-9223372036854775808), s4.2) else (if (0 : Int32) ≤ (lg_cmp (T_X1_worth_j97_2 k a0 la0 I J i4 s4) (-1000000000000)) then (if (s4.1 - (F_X1_partsOf (atF (I (k + 1)) 64 (nI i4)) I s4.2)) < 0 then .inl (((s4.1 - (F_X1_partsOf (atF (I (k + 1)) 64 (nI i4)) I s4.2)) + 1), s4.2) else (if (64 : Int32) ≤ (s4.1 - (F_X1_partsOf (atF (I (k + 1)) 64 (nI i4)) I s4.2)) then .inl (((s4.1 - (F_X1_partsOf (atF (I (k + 1)) 64 (nI i4)) I s4.2)) + 1), s4.2) else .inl (((s4.1 - (F_X1_partsOf (atF (I (k + 1)) 64 (nI i4)) I s4.2)) + 1), (S1_X1_worth k a0 la0 I J i4 s4)))) else .inr ((-9223372036854775808), s4.2))
def F_X1_worth_l4_2 (k : Nat) (a0 : Nat) (la0 : Nat) (I : SI) (J : SJ) (s0 : Int32 × SJ) : (Int32 × SJ) ⊕ (Int64 × SJ) := itE (B_X1_worth_l4_2 k a0 la0 I J) ((I k 1).toNatClampNeg) 0 s0
def F_X1_worth (k : Nat) (a0 : Nat) (la0 : Nat) (I : SI) (J : SJ) : Int64 := (match (F_X1_worth_l4_2 k a0 la0 I J (0, J)) with | .inl se4 => if (I k 0) = 0 then -9223372036854775808 else F_X1_openAt k (se4.1 - 1) I se4.2 | .inr re4 => re4.1)
def FJ_X1_worth (k : Nat) (a0 : Nat) (la0 : Nat) (I : SI) (J : SJ) : SJ := (match (F_X1_worth_l4_2 k a0 la0 I J (0, J)) with | .inl se4 => if (I k 0) = 0 then se4.2 else se4.2 | .inr re4 => re4.2)
def H_X1_worth (k : Nat) (a0 : Nat) (la0 : Nat) (I : SI) (J : SJ) : Prop := (∀ (i4 : Nat) (s4 : Int32 × SJ), i4 < (I k 1).toNatClampNeg → itE (B_X1_worth_l4_2 k a0 la0 I J) i4 0 (0, J) = .inl s4 → (F_X1_partsOf (atF (I (k + 1)) 64 (nI i4)) I s4.2) = 2 → H_X1_join (atF (I (k + 1)) 64 (nI i4)) (F_X1_openAt k (s4.1 - 2) I s4.2) (F_X1_openAt k (s4.1 - 1) I s4.2) I s4.2)
set_option maxHeartbeats 1930000 in
set_option maxRecDepth 40000 in
theorem c_X1_worth {I : SI} {J : SJ} {R : SR} {n g : Nat} {f : Fr} (ro : RO R) (hnn : nK ≤ n) (hf : f.1 = true) {k : Nat} {a0 : Nat} {la0 : Nat} (hk : IsLw k) (hsa0 : SH a0 = (15, la0)) (hka0 : a0 < n) (hda0 : sd f a0) (hlen : la0 < 2 ^ 31)  (hp : H_X1_worth k a0 la0 I J) : MM 1 0 0 mX1_worth [.ref k, .ref a0] (eI f I) (eJ f J) R n g (Pd (some (.long (F_X1_worth k a0 la0 I J))) (eI f I) (eJ f (FJ_X1_worth k a0 la0 I J)) R n g) := by
  refine MM.of (by decide) (Nat.le_of_ble_eq_true rfl) fun K ok fin => ?_
  show WK K 0 0 0 [(0, .ref k), (1, .ref a0)] [] (eI f I) (eJ f J) R n g
  have hp1 := hp
  refine w_iconst (v := 0) ok dX1_worth_0 (by decide) ?_
  refine w_istore_n ok dX1_worth_1 rfl (by decide) rfl ?_
  refine w_iconst (v := 0) ok dX1_worth_2 (by decide) ?_
  refine w_istore_n ok dX1_worth_3 rfl (by decide) rfl ?_
  refine w_loc [2, 3, 1, 0] rfl ?_
  refine loop_e (σ := Int32 × SJ) (ρ := Int64 × SJ) (fun (i4 : Nat) (s4 : Int32 × SJ) => WK K 0 0 4 [(0, .ref k), (1, .ref a0), (2, .int s4.1), (3, .int (nI i4))] [] (eI f I) (eJ f s4.2) R n g) (B_X1_worth_l4_2 k a0 la0 I J) ((I k 1).toNatClampNeg) ((0, J)) ?_ ?_
  · intro se4 he4
    have he4 : (F_X1_worth_l4_2 k a0 la0 I J (0, J)) = .inl se4 := he4
    show WK K 0 0 4 [(0, .ref k), (1, .ref a0), (2, .int se4.1), (3, .int (nI ((I k 1).toNatClampNeg)))] [] (eI f I) (eJ f se4.2) R n g
    have e1 : (I k 1) ≤ (nI ((I k 1).toNatClampNeg)) := cnt_ge _
    refine w_iload_n ok dX1_worth_4 3 rfl ?_
    refine w_aload_n ok dX1_worth_5 0 rfl ?_
    refine y_getI ok dX1_worth_6 (fX1_15 rfl) (congrArg Prod.fst (sLw hk)) rfl (ltK hnn (nLw hk)) (sdc hf (nLw hk)) ?_
    refine w_icmp_ge (tgt := 156) ok dX1_worth_9 (by decide) (fun _ => ?_) (fun h => absurd e1 h)
    refine w_aload_n ok dX1_worth_156 0 rfl ?_
    refine y_getI ok dX1_worth_157 (fX1_9 rfl) (congrArg Prod.fst (sLw hk)) rfl (ltK hnn (nLw hk)) (sdc hf (nLw hk)) ?_
    refine w_if_eq (tgt := 173) ok dX1_worth_160 (by decide) (fun c2 => ?_) (fun c2 => ?_)
    · skip
      refine w_ldc2 ok dX1_worth_173 kX1_58 ?_
      exact w_lret ok fin dX1_worth_176 rfl (by unfold F_X1_worth FJ_X1_worth; simp only [he4]; simp only [if_pos c2]; exact Pd.i)
    · skip
      refine w_aload_n ok dX1_worth_163 0 rfl ?_
      refine w_iload_n ok dX1_worth_164 2 rfl ?_
      refine w_iconst (v := 1) ok dX1_worth_165 (by decide) ?_
      refine w_isub ok dX1_worth_166 ?_
      refine w_cV (As := [.int (se4.1 - 1)]) ok dX1_worth_167 iX1_openAt (lX1_42 rfl) (rcv cls1 (congrArg Prod.fst (sLw hk))) (ltK hnn (nLw hk)) (c_X1_openAt ro hnn hf (se4.1 - 1) hk) (by decide) rfl (Nat.le_of_ble_eq_true rfl) ?_
      refine w_goto (tgt := 176) ok dX1_worth_170 (by decide) ?_
      exact w_lret ok fin dX1_worth_176 rfl (by unfold F_X1_worth FJ_X1_worth; simp only [he4]; simp only [if_neg c2]; exact Pd.i)
  · intro i4 s4 hi4 hs4 k4 kr4
    show WK K 0 0 4 [(0, .ref k), (1, .ref a0), (2, .int s4.1), (3, .int (nI i4))] [] (eI f I) (eJ f s4.2) R n g
    have e3 : ¬ ((I k 1) ≤ (nI i4)) := cnt_lt hi4
    refine w_iload_n ok dX1_worth_4 3 rfl ?_
    refine w_aload_n ok dX1_worth_5 0 rfl ?_
    refine y_getI ok dX1_worth_6 (fX1_15 rfl) (congrArg Prod.fst (sLw hk)) rfl (ltK hnn (nLw hk)) (sdc hf (nLw hk)) ?_
    refine w_icmp_ge (tgt := 156) ok dX1_worth_9 (by decide) (fun h => absurd h e3) (fun _ => ?_)
    refine w_aload_n ok dX1_worth_12 0 rfl ?_
    refine w_getR ok dX1_worth_13 (fX1_19 rfl) (congrArg Prod.fst (sLw hk)) rfl (rLw_2 hk ro) (ltK hnn (nLw hk)) ?_
    refine w_iload_n ok dX1_worth_16 3 rfl ?_
    refine w_cS (As := [.ref (k + 1), .int (nI i4)]) ok dX1_worth_17 iX11_at (lX1_34 rfl) (c_at (sLw_2 hk) (ltK hnn (nLw_2 hk)) (sdc hf (nLw_2 hk)) (nI i4)) (by decide) rfl (Nat.le_of_ble_eq_true rfl) ?_
    refine w_istore ok dX1_worth_20 (by decide) rfl ?_
    refine w_iload ok dX1_worth_22 0 rfl ?_
    refine w_cS (As := [.int (atF (I (k + 1)) 64 (nI i4))]) ok dX1_worth_24 iX1_partsOf (lX1_38 rfl) (c_X1_partsOf ro hnn hf (atF (I (k + 1)) 64 (nI i4)) ) (by decide) rfl (Nat.le_of_ble_eq_true rfl) ?_
    refine w_istore ok dX1_worth_27 (by decide) rfl ?_
    refine w_aload_n ok dX1_worth_29 2 rfl ?_
    refine w_iload_n ok dX1_worth_30 4 rfl ?_
    refine w_iconst (v := 1) ok dX1_worth_31 (by decide) ?_
    refine w_isub ok dX1_worth_32 ?_
    refine w_cV (As := [.int (s4.1 - 1)]) ok dX1_worth_33 iX1_openAt (lX1_42 rfl) (rcv cls1 (congrArg Prod.fst (sLw hk))) (ltK hnn (nLw hk)) (c_X1_openAt ro hnn hf (s4.1 - 1) hk) (by decide) rfl (Nat.le_of_ble_eq_true rfl) ?_
    refine w_lstore ok dX1_worth_36 (by decide) rfl ?_
    refine w_iload ok dX1_worth_38 1 rfl ?_
    refine w_iconst (v := 2) ok dX1_worth_40 (by decide) ?_
    have jn4 : WK K 0 0 97 [(0, .ref k), (1, .ref a0), (2, .int s4.1), (3, .int (nI i4)), (4, .int (atF (I (k + 1)) 64 (nI i4))), (5, .int (F_X1_partsOf (atF (I (k + 1)) 64 (nI i4)) I s4.2)), (6, .long (F_X1_openAt k (s4.1 - 1) I s4.2))] [.long (T_X1_worth_j97_2 k a0 la0 I J i4 s4)] (eI f I) (eJ f s4.2) R n g := by
      refine w_lstore ok dX1_worth_97 (by decide) rfl ?_
      refine w_lload ok dX1_worth_99 0 rfl ?_
      refine w_ldc2 ok dX1_worth_101 kX1_54 ?_
      refine w_lcmp ok dX1_worth_104 ?_
      refine w_if_gt (tgt := 117) ok dX1_worth_105 (by decide) (fun c5 => ?_) (fun c5 => ?_)
      · skip
        refine w_ldc2 ok dX1_worth_117 kX1_58 ?_
        have eB : B_X1_worth_l4_2 k a0 la0 I J i4 s4 = .inr ((-9223372036854775808), s4.2) := by
          unfold B_X1_worth_l4_2; exact (if_pos c5).trans (rfl)
        have hr : (F_X1_worth_l4_2 k a0 la0 I J (0, J)) = .inr ((-9223372036854775808), s4.2) := kr4 _ eB
        exact w_lret ok fin dX1_worth_120 rfl (by unfold F_X1_worth FJ_X1_worth; simp only [hr]; exact Pd.i)
      · skip
        refine w_lload ok dX1_worth_108 0 rfl ?_
        refine w_ldc2 ok dX1_worth_110 kX1_56 ?_
        refine w_lcmp ok dX1_worth_113 ?_
        refine w_if_ge (tgt := 121) ok dX1_worth_114 (by decide) (fun c6 => ?_) (fun c6 => ?_)
        · skip
          refine w_iload_n ok dX1_worth_121 3 rfl ?_
          refine w_iload ok dX1_worth_122 6 rfl ?_
          refine w_isub ok dX1_worth_124 ?_
          refine w_istore_n ok dX1_worth_125 rfl (by decide) rfl ?_
          refine w_iload_n ok dX1_worth_126 0 rfl ?_
          refine w_if_lt (tgt := 147) ok dX1_worth_127 (by decide) (fun c7 => ?_) (fun c7 => ?_)
          · skip
            refine w_iinc (v := (s4.1 - (F_X1_partsOf (atF (I (k + 1)) 64 (nI i4)) I s4.2)) + 1) ok dX1_worth_147 0 rfl rfl (by decide) rfl ?_
            refine w_iinc (v := (nI i4) + 1) ok dX1_worth_150 4 rfl rfl (by decide) rfl ?_
            refine w_goto (tgt := 4) ok dX1_worth_153 (by decide) ?_
            have eB : B_X1_worth_l4_2 k a0 la0 I J i4 s4 = .inl (((s4.1 - (F_X1_partsOf (atF (I (k + 1)) 64 (nI i4)) I s4.2)) + 1), s4.2) := by
              unfold B_X1_worth_l4_2; exact (if_neg c5).trans ((if_pos c6).trans ((if_pos c7).trans (rfl)))
            have kk := k4 _ eB
            refine w_loc [3, 4, 1, 0] rfl ?_
            rw [nI_1 i4]
            exact kk
          · skip
            refine w_iload_n ok dX1_worth_130 0 rfl ?_
            refine w_aload_n ok dX1_worth_131 2 rfl ?_
            refine w_getR ok dX1_worth_132 (fX1_26 rfl) (congrArg Prod.fst (sLw hk)) rfl (rLw_4 hk ro) (ltK hnn (nLw hk)) ?_
            refine w_alen (v := 64) ok dX1_worth_135 (sLw_4 hk) (by decide) (by decide) (ltK hnn (nLw_4 hk)) ?_
            refine w_icmp_ge (tgt := 147) ok dX1_worth_136 (by decide) (fun c8 => ?_) (fun c8 => ?_)
            · skip
              refine w_iinc (v := (s4.1 - (F_X1_partsOf (atF (I (k + 1)) 64 (nI i4)) I s4.2)) + 1) ok dX1_worth_147 0 rfl rfl (by decide) rfl ?_
              refine w_iinc (v := (nI i4) + 1) ok dX1_worth_150 4 rfl rfl (by decide) rfl ?_
              refine w_goto (tgt := 4) ok dX1_worth_153 (by decide) ?_
              have eB : B_X1_worth_l4_2 k a0 la0 I J i4 s4 = .inl (((s4.1 - (F_X1_partsOf (atF (I (k + 1)) 64 (nI i4)) I s4.2)) + 1), s4.2) := by
                unfold B_X1_worth_l4_2; exact (if_neg c5).trans ((if_pos c6).trans ((if_neg c7).trans ((if_pos c8).trans (rfl))))
              have kk := k4 _ eB
              refine w_loc [3, 4, 1, 0] rfl ?_
              rw [nI_1 i4]
              exact kk
            · skip
              refine w_aload_n ok dX1_worth_139 2 rfl ?_
              refine w_getR ok dX1_worth_140 (fX1_26 rfl) (congrArg Prod.fst (sLw hk)) rfl (rLw_4 hk ro) (ltK hnn (nLw hk)) ?_
              refine w_iload_n ok dX1_worth_143 0 rfl ?_
              refine w_lload ok dX1_worth_144 1 rfl ?_
              refine y_last (q := (s4.1 - (F_X1_partsOf (atF (I (k + 1)) 64 (nI i4)) I s4.2)).toNatClampNeg) ok dX1_worth_146 (sLw_4 hk) (in_of c7 (show ¬ (nI 64 ≤ _) from c8) (sh_len (sLw_4 hk))) (by decide) (ltK hnn (nLw_4 hk)) (sdc hf (nLw_4 hk)) ?_
              show WK K 0 0 147 [(2, .int (s4.1 - (F_X1_partsOf (atF (I (k + 1)) 64 (nI i4)) I s4.2))), (8, .long (T_X1_worth_j97_2 k a0 la0 I J i4 s4)), (0, .ref k), (1, .ref a0), (3, .int (nI i4)), (4, .int (atF (I (k + 1)) 64 (nI i4))), (5, .int (F_X1_partsOf (atF (I (k + 1)) 64 (nI i4)) I s4.2)), (6, .long (F_X1_openAt k (s4.1 - 1) I s4.2))] [] (eI f I) (eJ f (S1_X1_worth k a0 la0 I J i4 s4)) R n g
              refine w_iinc (v := (s4.1 - (F_X1_partsOf (atF (I (k + 1)) 64 (nI i4)) I s4.2)) + 1) ok dX1_worth_147 0 rfl rfl (by decide) rfl ?_
              refine w_iinc (v := (nI i4) + 1) ok dX1_worth_150 4 rfl rfl (by decide) rfl ?_
              refine w_goto (tgt := 4) ok dX1_worth_153 (by decide) ?_
              have eB : B_X1_worth_l4_2 k a0 la0 I J i4 s4 = .inl (((s4.1 - (F_X1_partsOf (atF (I (k + 1)) 64 (nI i4)) I s4.2)) + 1), (S1_X1_worth k a0 la0 I J i4 s4)) := by
                unfold B_X1_worth_l4_2; exact (if_neg c5).trans ((if_pos c6).trans ((if_neg c7).trans ((if_neg c8).trans (rfl))))
              have kk := k4 _ eB
              refine w_loc [3, 4, 1, 0] rfl ?_
              rw [nI_1 i4]
              exact kk
        · skip
          refine w_ldc2 ok dX1_worth_117 kX1_58 ?_
          have eB : B_X1_worth_l4_2 k a0 la0 I J i4 s4 = .inr ((-9223372036854775808), s4.2) := by
            unfold B_X1_worth_l4_2; exact (if_neg c5).trans ((if_neg c6).trans (rfl))
          have hr : (F_X1_worth_l4_2 k a0 la0 I J (0, J)) = .inr ((-9223372036854775808), s4.2) := kr4 _ eB
          exact w_lret ok fin dX1_worth_120 rfl (by unfold F_X1_worth FJ_X1_worth; simp only [hr]; exact Pd.i)
    refine w_icmp_ne (tgt := 61) ok dX1_worth_41 (by decide) (fun c9 => ?_) (fun c9 => ?_)
    · skip
      refine w_iload ok dX1_worth_61 1 rfl ?_
      refine w_iconst (v := 1) ok dX1_worth_63 (by decide) ?_
      refine w_icmp_ne (tgt := 83) ok dX1_worth_64 (by decide) (fun c10 => ?_) (fun c10 => ?_)
      · skip
        refine w_iload ok dX1_worth_83 2 rfl ?_
        refine w_aload_n ok dX1_worth_85 3 rfl ?_
        refine w_getR ok dX1_worth_86 (fX1_23 rfl) (congrArg Prod.fst (sLw hk)) rfl (rLw_3 hk ro) (ltK hnn (nLw hk)) ?_
        refine w_iload_n ok dX1_worth_89 6 rfl ?_
        refine w_cS (As := [.ref (k + 2), .int (nI i4)]) ok dX1_worth_90 iX11_at (lX1_34 rfl) (c_at (sLw_3 hk) (ltK hnn (nLw_3 hk)) (sdc hf (nLw_3 hk)) (nI i4)) (by decide) rfl (Nat.le_of_ble_eq_true rfl) ?_
        show WK K 0 0 93 [(6, .long (F_X1_openAt k (s4.1 - 1) I s4.2)), (5, .int (F_X1_partsOf (atF (I (k + 1)) 64 (nI i4)) I s4.2)), (4, .int (atF (I (k + 1)) 64 (nI i4))), (0, .ref k), (1, .ref a0), (2, .int s4.1), (3, .int (nI i4))] [.int (atF (I (k + 2)) 64 (nI i4)), .int (atF (I (k + 1)) 64 (nI i4))] (eI f I) (eJ f s4.2) R n g
        refine w_aload_n ok dX1_worth_93 4 rfl ?_
        refine w_cS (As := [.int (atF (I (k + 1)) 64 (nI i4)), .int (atF (I (k + 2)) 64 (nI i4)), .ref a0]) ok dX1_worth_94 iX1_leaf (lX1_50 rfl) (c_X1_leaf ro hnn hf (atF (I (k + 1)) 64 (nI i4)) (atF (I (k + 2)) 64 (nI i4)) hsa0 hka0 hda0 (sh_len hsa0)) (by decide) rfl (Nat.le_of_ble_eq_true rfl) ?_
        have eT : (T_X1_worth_j97_2 k a0 la0 I J i4 s4) = (F_X1_leaf (atF (I (k + 1)) 64 (nI i4)) (atF (I (k + 2)) 64 (nI i4)) a0 la0 I s4.2) := by
          unfold T_X1_worth_j97_2; exact (if_neg c9).trans ((if_neg c10).trans (rfl))
        refine w_loc [3, 4, 5, 6, 2, 1, 0] rfl ?_
        have jj := jn4
        rw [eT] at jj
        exact jj
      · skip
        refine w_lload ok dX1_worth_67 0 rfl ?_
        refine w_lconst (v := 0) ok dX1_worth_69 (by decide) ?_
        refine w_lcmp ok dX1_worth_70 ?_
        have jn11 : WK K 0 0 79 [(0, .ref k), (1, .ref a0), (2, .int s4.1), (3, .int (nI i4)), (4, .int (atF (I (k + 1)) 64 (nI i4))), (5, .int (F_X1_partsOf (atF (I (k + 1)) 64 (nI i4)) I s4.2)), (6, .long (F_X1_openAt k (s4.1 - 1) I s4.2))] [.int (T_X1_worth_j79 k a0 la0 I J i4 s4)] (eI f I) (eJ f s4.2) R n g := by
          refine w_i2l ok dX1_worth_79 ?_
          refine w_goto (tgt := 97) ok dX1_worth_80 (by decide) ?_
          have eT : (T_X1_worth_j97_2 k a0 la0 I J i4 s4) = ((T_X1_worth_j79 k a0 la0 I J i4 s4).toInt64) := by
            unfold T_X1_worth_j97_2; exact (if_neg c9).trans ((if_pos c10).trans (rfl))
          refine w_loc [0, 1, 2, 3, 4, 5, 6] rfl ?_
          have jj := jn4
          rw [eT] at jj
          exact jj
        refine w_if_ne (tgt := 78) ok dX1_worth_71 (by decide) (fun c12 => ?_) (fun c12 => ?_)
        · skip
          refine w_iconst (v := 0) ok dX1_worth_78 (by decide) ?_
          have eT : (T_X1_worth_j79 k a0 la0 I J i4 s4) = 0 := by
            unfold T_X1_worth_j79; exact (if_neg c12).trans (rfl)
          refine w_loc [3, 4, 5, 6, 2, 1, 0] rfl ?_
          have jj := jn11
          rw [eT] at jj
          exact jj
        · skip
          refine w_iconst (v := 1) ok dX1_worth_74 (by decide) ?_
          refine w_goto (tgt := 79) ok dX1_worth_75 (by decide) ?_
          have eT : (T_X1_worth_j79 k a0 la0 I J i4 s4) = 1 := by
            unfold T_X1_worth_j79; exact (if_pos c12).trans (rfl)
          refine w_loc [3, 4, 5, 6, 2, 1, 0] rfl ?_
          have jj := jn11
          rw [eT] at jj
          exact jj
    · skip
      refine w_iload ok dX1_worth_44 2 rfl ?_
      refine w_aload_n ok dX1_worth_46 3 rfl ?_
      refine w_iload_n ok dX1_worth_47 5 rfl ?_
      refine w_iconst (v := 2) ok dX1_worth_48 (by decide) ?_
      refine w_isub ok dX1_worth_49 ?_
      refine w_cV (As := [.int (s4.1 - 2)]) ok dX1_worth_50 iX1_openAt (lX1_42 rfl) (rcv cls1 (congrArg Prod.fst (sLw hk))) (ltK hnn (nLw hk)) (c_X1_openAt ro hnn hf (s4.1 - 2) hk) (by decide) rfl (Nat.le_of_ble_eq_true rfl) ?_
      show WK K 0 0 53 [(6, .long (F_X1_openAt k (s4.1 - 1) I s4.2)), (5, .int (F_X1_partsOf (atF (I (k + 1)) 64 (nI i4)) I s4.2)), (4, .int (atF (I (k + 1)) 64 (nI i4))), (0, .ref k), (1, .ref a0), (2, .int s4.1), (3, .int (nI i4))] [.long (F_X1_openAt k (s4.1 - 2) I s4.2), .int (atF (I (k + 1)) 64 (nI i4))] (eI f I) (eJ f s4.2) R n g
      refine w_lload ok dX1_worth_53 0 rfl ?_
      refine w_cS (As := [.int (atF (I (k + 1)) 64 (nI i4)), .long (F_X1_openAt k (s4.1 - 2) I s4.2), .long (F_X1_openAt k (s4.1 - 1) I s4.2)]) ok dX1_worth_55 iX1_join (lX1_46 rfl) (c_X1_join ro hnn hf (atF (I (k + 1)) 64 (nI i4)) (F_X1_openAt k (s4.1 - 2) I s4.2) (F_X1_openAt k (s4.1 - 1) I s4.2)  (hp1 i4 s4 hi4 hs4 c9)) (by decide) rfl (Nat.le_of_ble_eq_true rfl) ?_
      show WK K 0 0 58 [(6, .long (F_X1_openAt k (s4.1 - 1) I s4.2)), (5, .int (F_X1_partsOf (atF (I (k + 1)) 64 (nI i4)) I s4.2)), (4, .int (atF (I (k + 1)) 64 (nI i4))), (0, .ref k), (1, .ref a0), (2, .int s4.1), (3, .int (nI i4))] [.long (S2_X1_worth k a0 la0 I J i4 s4)] (eI f I) (eJ f s4.2) R n g
      refine w_goto (tgt := 97) ok dX1_worth_58 (by decide) ?_
      have eT : (T_X1_worth_j97_2 k a0 la0 I J i4 s4) = (S2_X1_worth k a0 la0 I J i4 s4) := by
        unfold T_X1_worth_j97_2; exact (if_pos c9).trans (rfl)
      refine w_loc [3, 4, 5, 6, 2, 1, 0] rfl ?_
      have jj := jn4
      rw [eT] at jj
      exact jj
def B_X2_clashesBy_l5 (a0 : Nat) (a1 : Int32) (a2 : Int32) (I : SI) (J : SJ) (i5 : Nat) (s5 : Int32) : Int32 := if (atF (I (a0 + 2)) 8 (nI i5)) = 0 then s5 else (if (F_X5_wayIn a0 (nI i5) a1 I J) < 0 then s5 else (if (F_X5_wayIn a0 (nI i5) a1 I J) = a2 then s5 else (s5 ||| ((1 : Int32) <<< ((nI i5) &&& 31)))))
def F_X2_clashesBy_l5 (a0 : Nat) (a1 : Int32) (a2 : Int32) (I : SI) (J : SJ) (s0 : Int32) : Int32 := itN (B_X2_clashesBy_l5 a0 a1 a2 I J) (8) s0
def F_X2_clashesBy (a0 : Nat) (a1 : Int32) (a2 : Int32) (I : SI) (J : SJ) : Int32 := (F_X2_clashesBy_l5 a0 a1 a2 I J 0)
set_option maxHeartbeats 1000000 in
set_option maxRecDepth 40000 in
theorem c_X2_clashesBy {I : SI} {J : SJ} {R : SR} {n g : Nat} {f : Fr} (ro : RO R) (hnn : nK ≤ n) (hf : f.1 = true) {a0 : Nat} (a1 : Int32) (a2 : Int32) (ha0 : IsSc a0)   : MM 2 0 0 mX2_clashesBy [.ref a0, .int a1, .int a2] (eI f I) (eJ f J) R n g (Pd (some (.int (F_X2_clashesBy a0 a1 a2 I J))) (eI f I) (eJ f J) R n g) := by
  refine MM.of (by decide) (Nat.le_of_ble_eq_true rfl) fun K ok fin => ?_
  show WK K 0 0 0 [(0, .ref a0), (1, .int a1), (2, .int a2)] [] (eI f I) (eJ f J) R n g
  refine w_iconst (v := 0) ok dX2_clashesBy_0 (by decide) ?_
  refine w_istore_n ok dX2_clashesBy_1 rfl (by decide) rfl ?_
  refine w_iconst (v := 0) ok dX2_clashesBy_2 (by decide) ?_
  refine w_istore ok dX2_clashesBy_3 (by decide) rfl ?_
  refine w_loc [2, 3, 4, 1, 0] rfl ?_
  refine loop_for (σ := Int32) (fun (i5 : Nat) (s5 : Int32) => WK K 0 0 5 [(0, .ref a0), (1, .int a1), (2, .int a2), (3, .int s5), (4, .int (nI i5))] [] (eI f I) (eJ f J) R n g) (B_X2_clashesBy_l5 a0 a1 a2 I J) (8) (0) ?_ ?_
  · show WK K 0 0 5 [(0, .ref a0), (1, .int a1), (2, .int a2), (3, .int (F_X2_clashesBy_l5 a0 a1 a2 I J 0)), (4, .int (nI 8))] [] (eI f I) (eJ f J) R n g
    have e1 : (8 : Int32) ≤ (nI 8) := (show nI 8 ≤ nI 8 from nI_le (by omega) (by decide))
    refine w_iload ok dX2_clashesBy_5 4 rfl ?_
    refine w_bipush (v := 8) ok dX2_clashesBy_7 (by decide) ?_
    refine w_icmp_ge (tgt := 57) ok dX2_clashesBy_9 (by decide) (fun _ => ?_) (fun h => absurd e1 h)
    refine w_iload_n ok dX2_clashesBy_57 3 rfl ?_
    exact w_iret ok fin dX2_clashesBy_58 rfl (by unfold F_X2_clashesBy; exact Pd.i)
  · intro i5 s5 hi5 hs5 k5
    show WK K 0 0 5 [(0, .ref a0), (1, .int a1), (2, .int a2), (3, .int s5), (4, .int (nI i5))] [] (eI f I) (eJ f J) R n g
    have e2 : ¬ ((8 : Int32) ≤ (nI i5)) := (show ¬ (nI 8 ≤ nI i5) from nI_ge (by omega) (by decide))
    refine w_iload ok dX2_clashesBy_5 4 rfl ?_
    refine w_bipush (v := 8) ok dX2_clashesBy_7 (by decide) ?_
    refine w_icmp_ge (tgt := 57) ok dX2_clashesBy_9 (by decide) (fun h => absurd h e2) (fun _ => ?_)
    refine w_aload_n ok dX2_clashesBy_12 0 rfl ?_
    refine w_iload ok dX2_clashesBy_13 4 rfl ?_
    refine w_iload_n ok dX2_clashesBy_15 1 rfl ?_
    refine w_cV (As := [.int (nI i5), .int a1]) ok dX2_clashesBy_16 iX5_wayIn (lX2_46 rfl) (rcv cls5 (congrArg Prod.fst (sSc ha0))) (ltK hnn (nSc ha0)) (c_X5_wayIn ro hnn hf (nI i5) a1 ha0) (by decide) rfl (Nat.le_of_ble_eq_true rfl) ?_
    refine w_istore ok dX2_clashesBy_19 (by decide) rfl ?_
    refine w_aload_n ok dX2_clashesBy_21 1 rfl ?_
    refine w_getR ok dX2_clashesBy_22 (fX2_52 rfl) (congrArg Prod.fst (sSc ha0)) rfl (rSc_8 ha0 ro) (ltK hnn (nSc ha0)) ?_
    refine w_iload ok dX2_clashesBy_25 5 rfl ?_
    refine w_cS (As := [.ref (a0 + 2), .int (nI i5)]) ok dX2_clashesBy_27 iX11_at (lX2_55 rfl) (c_at (sSc_8 ha0) (ltK hnn (nSc_8 ha0)) (sdc hf (nSc_8 ha0)) (nI i5)) (by decide) rfl (Nat.le_of_ble_eq_true rfl) ?_
    refine w_if_eq (tgt := 51) ok dX2_clashesBy_30 (by decide) (fun c3 => ?_) (fun c3 => ?_)
    · skip
      refine w_iinc (v := (nI i5) + 1) ok dX2_clashesBy_51 5 rfl rfl (by decide) rfl ?_
      refine w_goto (tgt := 5) ok dX2_clashesBy_54 (by decide) ?_
      have eB : B_X2_clashesBy_l5 a0 a1 a2 I J i5 s5 = s5 := by
        unfold B_X2_clashesBy_l5; exact (if_pos c3).trans (rfl)
      have kk := k5
      rw [eB] at kk
      refine w_loc [2, 3, 4, 5, 0] rfl ?_
      rw [nI_1 i5]
      exact kk
    · skip
      refine w_iload ok dX2_clashesBy_33 0 rfl ?_
      refine w_if_lt (tgt := 51) ok dX2_clashesBy_35 (by decide) (fun c4 => ?_) (fun c4 => ?_)
      · skip
        refine w_iinc (v := (nI i5) + 1) ok dX2_clashesBy_51 5 rfl rfl (by decide) rfl ?_
        refine w_goto (tgt := 5) ok dX2_clashesBy_54 (by decide) ?_
        have eB : B_X2_clashesBy_l5 a0 a1 a2 I J i5 s5 = s5 := by
          unfold B_X2_clashesBy_l5; exact (if_neg c3).trans ((if_pos c4).trans (rfl))
        have kk := k5
        rw [eB] at kk
        refine w_loc [2, 3, 4, 5, 0] rfl ?_
        rw [nI_1 i5]
        exact kk
      · skip
        refine w_iload ok dX2_clashesBy_38 0 rfl ?_
        refine w_iload_n ok dX2_clashesBy_40 3 rfl ?_
        refine w_icmp_eq (tgt := 51) ok dX2_clashesBy_41 (by decide) (fun c5 => ?_) (fun c5 => ?_)
        · skip
          refine w_iinc (v := (nI i5) + 1) ok dX2_clashesBy_51 5 rfl rfl (by decide) rfl ?_
          refine w_goto (tgt := 5) ok dX2_clashesBy_54 (by decide) ?_
          have eB : B_X2_clashesBy_l5 a0 a1 a2 I J i5 s5 = s5 := by
            unfold B_X2_clashesBy_l5; exact (if_neg c3).trans ((if_neg c4).trans ((if_pos c5).trans (rfl)))
          have kk := k5
          rw [eB] at kk
          refine w_loc [2, 3, 4, 5, 0] rfl ?_
          rw [nI_1 i5]
          exact kk
        · skip
          refine w_iload_n ok dX2_clashesBy_44 4 rfl ?_
          refine w_iconst (v := 1) ok dX2_clashesBy_45 (by decide) ?_
          refine w_iload ok dX2_clashesBy_46 5 rfl ?_
          refine w_ishl ok dX2_clashesBy_48 ?_
          refine w_ior ok dX2_clashesBy_49 ?_
          refine w_istore_n ok dX2_clashesBy_50 rfl (by decide) rfl ?_
          refine w_iinc (v := (nI i5) + 1) ok dX2_clashesBy_51 5 rfl rfl (by decide) rfl ?_
          refine w_goto (tgt := 5) ok dX2_clashesBy_54 (by decide) ?_
          have eB : B_X2_clashesBy_l5 a0 a1 a2 I J i5 s5 = (s5 ||| ((1 : Int32) <<< ((nI i5) &&& 31))) := by
            unfold B_X2_clashesBy_l5; exact (if_neg c3).trans ((if_neg c4).trans ((if_neg c5).trans (rfl)))
          have kk := k5
          rw [eB] at kk
          refine w_loc [3, 4, 5, 1, 0] rfl ?_
          rw [nI_1 i5]
          exact kk
def F_X4_find (a0 : Nat) (I : SI) (J : SJ) : Int32 := if (I 81 5) = 3 then (if (0 : Int32) ≤ (F_X7_find a0 (I 81 6) I J) then F_X7_find a0 (I 81 6) I J else F_X7_find a0 (I 81 6) I J) else -1
def FI_X4_find (a0 : Nat) (I : SI) (J : SJ) : SI := if (I 81 5) = 3 then (if (0 : Int32) ≤ (F_X7_find a0 (I 81 6) I J) then I else FI_X4_fail 4 I J) else FI_X4_fail 1 I J
set_option maxHeartbeats 1000000 in
set_option maxRecDepth 40000 in
theorem c_X4_find {I : SI} {J : SJ} {R : SR} {n g : Nat} {f : Fr} (ro : RO R) (hnn : nK ≤ n) (hf : f.1 = true) {a0 : Nat} (ha0 : IsTb a0)   : MM 2 0 0 mX4_find [.ref 41, .ref a0] (eI f I) (eJ f J) R n g (Pd (some (.int (F_X4_find a0 I J))) (eI f (FI_X4_find a0 I J)) (eJ f J) R n g) := by
  refine MM.of (by decide) (Nat.le_of_ble_eq_true rfl) fun K ok fin => ?_
  show WK K 0 0 0 [(0, .ref 41), (1, .ref a0)] [] (eI f I) (eJ f J) R n g
  refine w_aload_n ok dX4_find_0 0 rfl ?_
  refine w_getR ok dX4_find_1 (fX4_28 rfl) (congrArg Prod.fst s_41) rfl (r_41_3 ro) (ltK hnn (by decide)) ?_
  refine y_getI ok dX4_find_4 (fX4_52 rfl) (congrArg Prod.fst s_81) rfl (ltK hnn (by decide)) (sdc hf (by decide)) ?_
  refine w_iconst (v := 3) ok dX4_find_7 (by decide) ?_
  refine w_icmp_eq (tgt := 18) ok dX4_find_8 (by decide) (fun c1 => ?_) (fun c1 => ?_)
  · skip
    refine w_aload_n ok dX4_find_18 1 rfl ?_
    refine w_aload_n ok dX4_find_19 0 rfl ?_
    refine w_getR ok dX4_find_20 (fX4_28 rfl) (congrArg Prod.fst s_41) rfl (r_41_3 ro) (ltK hnn (by decide)) ?_
    refine y_getI ok dX4_find_23 (fX4_167 rfl) (congrArg Prod.fst s_81) rfl (ltK hnn (by decide)) (sdc hf (by decide)) ?_
    refine w_cV (As := [.int (I 81 6)]) ok dX4_find_26 iX7_find (lX4_170 rfl) (rcv cls7 (congrArg Prod.fst (sTb ha0))) (ltK hnn (nTb ha0)) (c_X7_find ro hnn hf (I 81 6) ha0) (by decide) rfl (Nat.le_of_ble_eq_true rfl) ?_
    refine w_istore_n ok dX4_find_29 rfl (by decide) rfl ?_
    refine w_iload_n ok dX4_find_30 0 rfl ?_
    refine w_if_ge (tgt := 39) ok dX4_find_31 (by decide) (fun c2 => ?_) (fun c2 => ?_)
    · skip
      refine w_iload_n ok dX4_find_39 0 rfl ?_
      exact w_iret ok fin dX4_find_40 rfl (by unfold F_X4_find FI_X4_find; simp only [if_pos c1]; simp only [if_pos c2]; exact Pd.i)
    · skip
      refine w_aload_n ok dX4_find_34 1 rfl ?_
      refine w_iconst (v := 4) ok dX4_find_35 (by decide) ?_
      refine w_cV (As := [.int 4]) ok dX4_find_36 iX4_fail (lX4_58 rfl) (rcv cls4 (congrArg Prod.fst s_41)) (ltK hnn (by decide)) (c_X4_fail ro hnn hf 4 ) (by decide) rfl (Nat.le_of_ble_eq_true rfl) ?_
      refine w_iload_n ok dX4_find_39 0 rfl ?_
      exact w_iret ok fin dX4_find_40 rfl (by unfold F_X4_find FI_X4_find; simp only [if_pos c1]; simp only [if_neg c2]; exact Pd.i)
  · skip
    refine w_aload_n ok dX4_find_11 0 rfl ?_
    refine w_iconst (v := 1) ok dX4_find_12 (by decide) ?_
    refine w_cV (As := [.int 1]) ok dX4_find_13 iX4_fail (lX4_58 rfl) (rcv cls4 (congrArg Prod.fst s_41)) (ltK hnn (by decide)) (c_X4_fail ro hnn hf 1 ) (by decide) rfl (Nat.le_of_ble_eq_true rfl) ?_
    refine w_iconst (v := (-1)) ok dX4_find_16 (by decide) ?_
    exact w_iret ok fin dX4_find_17 rfl (by unfold F_X4_find FI_X4_find; simp only [if_neg c1]; exact Pd.i)
def S1_X4_hold (a0 : Int32) (I : SI) (J : SJ) : SI := putF (putF I 84 72 (I 41 6) a0) 85 72 ((putF I 84 72 (I 41 6) a0) 41 6) (F_X4_rank a0 (putF I 84 72 (I 41 6) a0) J)
def FI_X4_hold (a0 : Int32) (I : SI) (J : SJ) : SI := if (I 41 1) = 0 then u2 (S1_X4_hold a0 I J) 41 6 ((((S1_X4_hold a0 I J)) 41 6) + 1) else I
set_option maxHeartbeats 1000000 in
set_option maxRecDepth 40000 in
theorem c_X4_hold {I : SI} {J : SJ} {R : SR} {n g : Nat} {f : Fr} (ro : RO R) (hnn : nK ≤ n) (hf : f.1 = true) (a0 : Int32)   : MM 1 0 0 mX4_hold [.ref 41, .int a0] (eI f I) (eJ f J) R n g (Pd none (eI f (FI_X4_hold a0 I J)) (eJ f J) R n g) := by
  refine MM.of (by decide) (Nat.le_of_ble_eq_true rfl) fun K ok fin => ?_
  show WK K 0 0 0 [(0, .ref 41), (1, .int a0)] [] (eI f I) (eJ f J) R n g
  refine w_aload_n ok dX4_hold_0 0 rfl ?_
  refine y_getI ok dX4_hold_1 (fX4_18 rfl) (congrArg Prod.fst s_41) rfl (ltK hnn (by decide)) (sdc hf (by decide)) ?_
  refine w_if_ne (tgt := 44) ok dX4_hold_4 (by decide) (fun c1 => ?_) (fun c1 => ?_)
  · skip
    exact w_vret ok fin dX4_hold_44 rfl (by unfold FI_X4_hold; simp only [if_neg c1]; exact Pd.i)
  · skip
    refine w_aload_n ok dX4_hold_7 0 rfl ?_
    refine w_getR ok dX4_hold_8 (fX4_32 rfl) (congrArg Prod.fst s_41) rfl (r_41_4 ro) (ltK hnn (by decide)) ?_
    refine w_aload_n ok dX4_hold_11 0 rfl ?_
    refine y_getI ok dX4_hold_12 (fX4_39 rfl) (congrArg Prod.fst s_41) rfl (ltK hnn (by decide)) (sdc hf (by decide)) ?_
    refine w_iload_n ok dX4_hold_15 1 rfl ?_
    refine w_cS (As := [.ref 84, .int (I 41 6), .int a0]) ok dX4_hold_16 iX11_put (lX4_154 rfl) (c_put s_84 (ltK hnn (by decide)) (sdc hf (by decide)) (I 41 6) a0) (by decide) rfl (Nat.le_of_ble_eq_true rfl) ?_
    refine w_aload_n ok dX4_hold_19 0 rfl ?_
    refine w_getR ok dX4_hold_20 (fX4_36 rfl) (congrArg Prod.fst s_41) rfl (r_41_5 ro) (ltK hnn (by decide)) ?_
    refine w_aload_n ok dX4_hold_23 0 rfl ?_
    refine y_getI ok dX4_hold_24 (fX4_39 rfl) (congrArg Prod.fst s_41) rfl (ltK hnn (by decide)) (sdc hf (by decide)) ?_
    refine w_iload_n ok dX4_hold_27 1 rfl ?_
    refine w_cS (As := [.int a0]) ok dX4_hold_28 iX4_rank (lX4_216 rfl) (c_X4_rank ro hnn hf a0 ) (by decide) rfl (Nat.le_of_ble_eq_true rfl) ?_
    show WK K 0 0 31 [(0, .ref 41), (1, .int a0)] [.int (F_X4_rank a0 (putF I 84 72 (I 41 6) a0) J), .int ((putF I 84 72 (I 41 6) a0) 41 6), .ref 85] (eI f (putF I 84 72 (I 41 6) a0)) (eJ f J) R n g
    refine w_cS (As := [.ref 85, .int ((putF I 84 72 (I 41 6) a0) 41 6), .int (F_X4_rank a0 (putF I 84 72 (I 41 6) a0) J)]) ok dX4_hold_31 iX11_put (lX4_154 rfl) (c_put s_85 (ltK hnn (by decide)) (sdc hf (by decide)) ((putF I 84 72 (I 41 6) a0) 41 6) (F_X4_rank a0 (putF I 84 72 (I 41 6) a0) J)) (by decide) rfl (Nat.le_of_ble_eq_true rfl) ?_
    show WK K 0 0 34 [(0, .ref 41), (1, .int a0)] [] (eI f (S1_X4_hold a0 I J)) (eJ f J) R n g
    refine w_aload_n ok dX4_hold_34 0 rfl ?_
    refine w_dup ok dX4_hold_35 rfl ?_
    refine y_getI ok dX4_hold_36 (fX4_39 rfl) (congrArg Prod.fst s_41) rfl (ltK hnn (by decide)) (sdc hf (by decide)) ?_
    refine w_iconst (v := 1) ok dX4_hold_39 (by decide) ?_
    refine w_iadd ok dX4_hold_40 ?_
    refine y_putI ok dX4_hold_41 (fwX4_39 rfl) (congrArg Prod.fst s_41) rfl (ltK hnn (by decide)) (sdc hf (by decide)) ?_
    exact w_vret ok fin dX4_hold_44 rfl (by unfold FI_X4_hold; simp only [if_pos c1]; exact Pd.i)
def S1_X4_join (a0 : Nat) (a1 : Int32) (I : SI) (J : SJ) (s5 : Int32 × SI) : SI := u2 (FI_X1_add a0 (atF (s5.2 84) 72 ((s5.2 41 6) - 1)) 0 s5.2 J) 41 6 (((FI_X1_add a0 (atF (s5.2 84) 72 ((s5.2 41 6) - 1)) 0 s5.2 J) 41 6) - 1)
def B_X4_join_w5 (a0 : Nat) (a1 : Int32) (I : SI) (J : SJ) (s5 : Int32 × SI) : (Int32 × SI) ⊕ (Int32 × SI) := if s5.1 ≤ 0 then .inr (s5.1, s5.2) else (if (F_X4_topRank  s5.2 J) < a1 then .inr (s5.1, s5.2) else .inl ((s5.1 + (-1)), (S1_X4_join a0 a1 I J s5)))
def F_X4_join_w5 (a0 : Nat) (a1 : Int32) (I : SI) (J : SJ) (s0 : Int32 × SI) : Int32 × SI := (itW (B_X4_join_w5 a0 a1 I J) 800 s0).getD s0
def FI_X4_join (a0 : Nat) (a1 : Int32) (I : SI) (J : SJ) : SI := (F_X4_join_w5 a0 a1 I J ((I 41 6), I)).2
def H_X4_join (a0 : Nat) (a1 : Int32) (I : SI) (J : SJ) : Prop := ((itW (B_X4_join_w5 a0 a1 I J) 800 ((I 41 6), I)).isSome = true) ∧ (∀ (n5 : Nat) (s5 : Int32 × SI), wN (B_X4_join_w5 a0 a1 I J) n5 ((I 41 6), I) = some s5 → ¬ (s5.1 ≤ 0) → H_X4_topRank  s5.2 J) ∧ (∀ (n5 : Nat) (s5 : Int32 × SI), wN (B_X4_join_w5 a0 a1 I J) n5 ((I 41 6), I) = some s5 → ¬ (s5.1 ≤ 0) → ¬ ((F_X4_topRank  s5.2 J) < a1) → H_X1_add a0 (atF (s5.2 84) 72 ((s5.2 41 6) - 1)) 0 s5.2 J)
set_option maxHeartbeats 1000000 in
set_option maxRecDepth 40000 in
theorem c_X4_join {I : SI} {J : SJ} {R : SR} {n g : Nat} {f : Fr} (ro : RO R) (hnn : nK ≤ n) (hf : f.1 = true) {a0 : Nat} (a1 : Int32) (ha0 : IsLw a0)  (hp : H_X4_join a0 a1 I J) : MM 1 0 0 mX4_join [.ref 41, .ref a0, .int a1] (eI f I) (eJ f J) R n g (Pd none (eI f (FI_X4_join a0 a1 I J)) (eJ f J) R n g) := by
  refine MM.of (by decide) (Nat.le_of_ble_eq_true rfl) fun K ok fin => ?_
  show WK K 0 0 0 [(0, .ref 41), (1, .ref a0), (2, .int a1)] [] (eI f I) (eJ f J) R n g
  obtain ⟨hp1, hp2, hp3⟩ := hp
  refine w_aload_n ok dX4_join_0 0 rfl ?_
  refine y_getI ok dX4_join_1 (fX4_39 rfl) (congrArg Prod.fst s_41) rfl (ltK hnn (by decide)) (sdc hf (by decide)) ?_
  refine w_istore_n ok dX4_join_4 rfl (by decide) rfl ?_
  refine w_loc [1, 2, 3, 0] rfl ?_
  refine loop_w (fun (s5 : Int32 × SI) => WK K 0 0 5 [(0, .ref 41), (1, .ref a0), (2, .int a1), (3, .int s5.1)] [] (eI f s5.2) (eJ f J) R n g) (fun (s5 : Int32 × SI) => WK K 0 0 51 [(0, .ref 41), (1, .ref a0), (2, .int a1), (3, .int s5.1)] [] (eI f s5.2) (eJ f J) R n g) (B_X4_join_w5 a0 a1 I J) 800 ((I 41 6), I) (F_X4_join_w5 a0 a1 I J ((I 41 6), I)) (itW_some (hp1)) ?_ ?_
  · show WK K 0 0 51 [(0, .ref 41), (1, .ref a0), (2, .int a1), (3, .int ((F_X4_join_w5 a0 a1 I J ((I 41 6), I)).1))] [] (eI f ((F_X4_join_w5 a0 a1 I J ((I 41 6), I)).2)) (eJ f J) R n g
    exact w_vret ok fin dX4_join_51 rfl (by unfold FI_X4_join; exact Pd.i)
  · intro n5 s5 hs5 kc5 kx5
    show WK K 0 0 5 [(0, .ref 41), (1, .ref a0), (2, .int a1), (3, .int s5.1)] [] (eI f s5.2) (eJ f J) R n g
    refine w_iload_n ok dX4_join_5 3 rfl ?_
    refine w_if_le (tgt := 51) ok dX4_join_6 (by decide) (fun c1 => ?_) (fun c1 => ?_)
    · skip
      have eB : B_X4_join_w5 a0 a1 I J s5 = .inr (s5.1, s5.2) := by
        unfold B_X4_join_w5; exact (if_pos c1).trans (rfl)
      refine w_loc [0, 1, 2, 3] rfl ?_
      have kk := kx5 _ eB
      exact kk
    · skip
      refine w_aload_n ok dX4_join_9 0 rfl ?_
      refine w_cV (As := []) ok dX4_join_10 iX4_topRank (lX4_212 rfl) (rcv cls4 (congrArg Prod.fst s_41)) (ltK hnn (by decide)) (c_X4_topRank ro hnn hf   (hp2 n5 s5 hs5 c1)) (by decide) rfl (Nat.le_of_ble_eq_true rfl) ?_
      refine w_iload_n ok dX4_join_13 2 rfl ?_
      refine w_icmp_lt (tgt := 51) ok dX4_join_14 (by decide) (fun c2 => ?_) (fun c2 => ?_)
      · skip
        have eB : B_X4_join_w5 a0 a1 I J s5 = .inr (s5.1, s5.2) := by
          unfold B_X4_join_w5; exact (if_neg c1).trans ((if_pos c2).trans (rfl))
        refine w_loc [0, 1, 2, 3] rfl ?_
        have kk := kx5 _ eB
        exact kk
      · skip
        refine w_aload_n ok dX4_join_17 1 rfl ?_
        refine w_aload_n ok dX4_join_18 0 rfl ?_
        refine w_getR ok dX4_join_19 (fX4_32 rfl) (congrArg Prod.fst s_41) rfl (r_41_4 ro) (ltK hnn (by decide)) ?_
        refine w_aload_n ok dX4_join_22 0 rfl ?_
        refine y_getI ok dX4_join_23 (fX4_39 rfl) (congrArg Prod.fst s_41) rfl (ltK hnn (by decide)) (sdc hf (by decide)) ?_
        refine w_iconst (v := 1) ok dX4_join_26 (by decide) ?_
        refine w_isub ok dX4_join_27 ?_
        refine w_cS (As := [.ref 84, .int ((s5.2 41 6) - 1)]) ok dX4_join_28 iX11_at (lX4_147 rfl) (c_at s_84 (ltK hnn (by decide)) (sdc hf (by decide)) ((s5.2 41 6) - 1)) (by decide) rfl (Nat.le_of_ble_eq_true rfl) ?_
        show WK K 0 0 31 [(0, .ref 41), (1, .ref a0), (2, .int a1), (3, .int s5.1)] [.int (atF (s5.2 84) 72 ((s5.2 41 6) - 1)), .ref a0] (eI f s5.2) (eJ f J) R n g
        refine w_iconst (v := 0) ok dX4_join_31 (by decide) ?_
        refine w_cV (As := [.int (atF (s5.2 84) 72 ((s5.2 41 6) - 1)), .int 0]) ok dX4_join_32 iX1_add (lX4_206 rfl) (rcv cls1 (congrArg Prod.fst (sLw ha0))) (ltK hnn (nLw ha0)) (c_X1_add ro hnn hf (atF (s5.2 84) 72 ((s5.2 41 6) - 1)) 0 ha0 (hp3 n5 s5 hs5 c1 c2)) (by decide) rfl (Nat.le_of_ble_eq_true rfl) ?_
        refine w_aload_n ok dX4_join_35 0 rfl ?_
        refine w_dup ok dX4_join_36 rfl ?_
        refine y_getI ok dX4_join_37 (fX4_39 rfl) (congrArg Prod.fst s_41) rfl (ltK hnn (by decide)) (sdc hf (by decide)) ?_
        refine w_iconst (v := 1) ok dX4_join_40 (by decide) ?_
        refine w_isub ok dX4_join_41 ?_
        refine y_putI ok dX4_join_42 (fwX4_39 rfl) (congrArg Prod.fst s_41) rfl (ltK hnn (by decide)) (sdc hf (by decide)) ?_
        show WK K 0 0 45 [(0, .ref 41), (1, .ref a0), (2, .int a1), (3, .int s5.1)] [] (eI f (S1_X4_join a0 a1 I J s5)) (eJ f J) R n g
        refine w_iinc (v := s5.1 + (-1)) ok dX4_join_45 3 rfl rfl (by decide) rfl ?_
        refine w_goto (tgt := 5) ok dX4_join_48 (by decide) ?_
        have eB : B_X4_join_w5 a0 a1 I J s5 = .inl ((s5.1 + (-1)), (S1_X4_join a0 a1 I J s5)) := by
          unfold B_X4_join_w5; exact (if_neg c1).trans ((if_neg c2).trans (rfl))
        refine w_loc [1, 2, 3, 0] rfl ?_
        have kk := kc5 _ eB
        exact kk
def B_X8_step_w17 (I : SI) (J : SJ) (s17 : Int32 × SI) : (Int32 × SI) ⊕ (Int32 × SI) := if (s17.2 81 2) ≤ (s17.2 81 3) then .inr (s17.1, s17.2) else (if s17.1 = 32 then .inl ((F_X8_signAt ((u2 s17.2 81 3 ((s17.2 81 3) + 1)) 81 3) (u2 s17.2 81 3 ((s17.2 81 3) + 1)) J), (u2 s17.2 81 3 ((s17.2 81 3) + 1))) else (if s17.1 = 10 then .inl ((F_X8_signAt ((u2 s17.2 81 3 ((s17.2 81 3) + 1)) 81 3) (u2 s17.2 81 3 ((s17.2 81 3) + 1)) J), (u2 s17.2 81 3 ((s17.2 81 3) + 1))) else .inr (s17.1, s17.2)))
def F_X8_step_w17 (I : SI) (J : SJ) (s0 : Int32 × SI) : Int32 × SI := (itW (B_X8_step_w17 I J) 800 s0).getD s0
def S1_X8_step (I : SI) (J : SJ) : SI := u2 ((F_X8_step_w17 I J ((F_X8_signAt (I 81 3) I J), I)).2) 81 7 (((F_X8_step_w17 I J ((F_X8_signAt (I 81 3) I J), I)).2) 81 3)
def S2_X8_step (I : SI) (J : SJ) : Int32 := F_X8_isLetter (F_X8_signAt (((S1_X8_step I J)) 81 3) (S1_X8_step I J) J) (S1_X8_step I J) J
def S3_X8_step (I : SI) (J : SJ) : Int32 := F_X8_signAt ((u2 (S1_X8_step I J) 81 3 ((((S1_X8_step I J)) 81 3) + 1)) 81 3) (u2 (S1_X8_step I J) 81 3 ((((S1_X8_step I J)) 81 3) + 1)) J
def S4_X8_step (I : SI) (J : SJ) : Int32 := F_X8_kindOf (F_X8_signAt (((S1_X8_step I J)) 81 3) (S1_X8_step I J) J) (S3_X8_step I J) (u2 (S1_X8_step I J) 81 3 ((((S1_X8_step I J)) 81 3) + 1)) J
def S5_X8_step (I : SI) (J : SJ) : SI := u2 (u2 (S1_X8_step I J) 81 3 ((((S1_X8_step I J)) 81 3) + 1)) 81 5 (S4_X8_step I J)
def FI_X8_step  (I : SI) (J : SJ) : SI := if (I 81 4) = 0 then (if (0 : Int32) ≤ (F_X8_signAt (((S1_X8_step I J)) 81 3) (S1_X8_step I J) J) then (if (S2_X8_step I J) = 0 then (if (F_X8_isDigit (F_X8_signAt (((S1_X8_step I J)) 81 3) (S1_X8_step I J) J) (S1_X8_step I J) J) = 0 then (if (F_X8_isPair (((S5_X8_step I J)) 81 5) (S5_X8_step I J) J) = 0 then u2 (S5_X8_step I J) 81 3 ((((S5_X8_step I J)) 81 3) + 0) else u2 (S5_X8_step I J) 81 3 ((((S5_X8_step I J)) 81 3) + 1)) else FI_X8_number  (S1_X8_step I J) J) else FI_X8_word  (S1_X8_step I J) J) else u2 (S1_X8_step I J) 81 5 0) else I
def H_X8_step  (I : SI) (J : SJ) : Prop := ((I 81 4) = 0 → (itW (B_X8_step_w17 I J) 800 ((F_X8_signAt (I 81 3) I J), I)).isSome = true) ∧ ((I 81 4) = 0 → (0 : Int32) ≤ (F_X8_signAt (((S1_X8_step I J)) 81 3) (S1_X8_step I J) J) → (S2_X8_step I J) = 0 → ¬ ((F_X8_isDigit (F_X8_signAt (((S1_X8_step I J)) 81 3) (S1_X8_step I J) J) (S1_X8_step I J) J) = 0) → H_X8_number  (S1_X8_step I J) J) ∧ ((I 81 4) = 0 → (0 : Int32) ≤ (F_X8_signAt (((S1_X8_step I J)) 81 3) (S1_X8_step I J) J) → ¬ ((S2_X8_step I J) = 0) → H_X8_word  (S1_X8_step I J) J)
set_option maxHeartbeats 1520000 in
set_option maxRecDepth 40000 in
theorem c_X8_step {I : SI} {J : SJ} {R : SR} {n g : Nat} {f : Fr} (ro : RO R) (hnn : nK ≤ n) (hf : f.1 = true)  (htp : R 81 1 = some 1)  (hp : H_X8_step  I J) : MM 2 0 0 mX8_step [.ref 81] (eI f I) (eJ f J) R n g (Pd none (eI f (FI_X8_step  I J)) (eJ f J) R n g) := by
  refine MM.of (by decide) (Nat.le_of_ble_eq_true rfl) fun K ok fin => ?_
  show WK K 0 0 0 [(0, .ref 81)] [] (eI f I) (eJ f J) R n g
  obtain ⟨hp1, hp2, hp3⟩ := hp
  refine w_aload_n ok dX8_step_0 0 rfl ?_
  refine y_getI ok dX8_step_1 (fX8_26 rfl) (congrArg Prod.fst s_81) rfl (ltK hnn (by decide)) (sdc hf (by decide)) ?_
  refine w_if_eq (tgt := 8) ok dX8_step_4 (by decide) (fun c1 => ?_) (fun c1 => ?_)
  · skip
    refine w_aload_n ok dX8_step_8 0 rfl ?_
    refine w_aload_n ok dX8_step_9 0 rfl ?_
    refine y_getI ok dX8_step_10 (fX8_23 rfl) (congrArg Prod.fst s_81) rfl (ltK hnn (by decide)) (sdc hf (by decide)) ?_
    refine w_cV (As := [.int (I 81 3)]) ok dX8_step_13 iX8_signAt (lX8_66 rfl) (rcv cls8 (congrArg Prod.fst s_81)) (ltK hnn (by decide)) (c_X8_signAt ro hnn hf (I 81 3) htp) (by decide) rfl (Nat.le_of_ble_eq_true rfl) ?_
    refine w_istore_n ok dX8_step_16 rfl (by decide) rfl ?_
    refine w_loc [1, 0] rfl ?_
    refine loop_w (fun (s17 : Int32 × SI) => WK K 0 0 17 [(0, .ref 81), (1, .int s17.1)] [] (eI f s17.2) (eJ f J) R n g) (fun (s17 : Int32 × SI) => WK K 0 0 62 [(0, .ref 81), (1, .int s17.1)] [] (eI f s17.2) (eJ f J) R n g) (B_X8_step_w17 I J) 800 ((F_X8_signAt (I 81 3) I J), I) (F_X8_step_w17 I J ((F_X8_signAt (I 81 3) I J), I)) (itW_some (hp1 c1)) ?_ ?_
    · show WK K 0 0 62 [(0, .ref 81), (1, .int ((F_X8_step_w17 I J ((F_X8_signAt (I 81 3) I J), I)).1))] [] (eI f ((F_X8_step_w17 I J ((F_X8_signAt (I 81 3) I J), I)).2)) (eJ f J) R n g
      refine w_aload_n ok dX8_step_62 0 rfl ?_
      refine w_aload_n ok dX8_step_63 0 rfl ?_
      refine y_getI ok dX8_step_64 (fX8_23 rfl) (congrArg Prod.fst s_81) rfl (ltK hnn (by decide)) (sdc hf (by decide)) ?_
      refine y_putI ok dX8_step_67 (fwX8_36 rfl) (congrArg Prod.fst s_81) rfl (ltK hnn (by decide)) (sdc hf (by decide)) ?_
      show WK K 0 0 70 [(0, .ref 81), (1, .int ((F_X8_step_w17 I J ((F_X8_signAt (I 81 3) I J), I)).1))] [] (eI f (S1_X8_step I J)) (eJ f J) R n g
      refine w_aload_n ok dX8_step_70 0 rfl ?_
      refine w_aload_n ok dX8_step_71 0 rfl ?_
      refine y_getI ok dX8_step_72 (fX8_23 rfl) (congrArg Prod.fst s_81) rfl (ltK hnn (by decide)) (sdc hf (by decide)) ?_
      refine w_cV (As := [.int (((S1_X8_step I J)) 81 3)]) ok dX8_step_75 iX8_signAt (lX8_66 rfl) (rcv cls8 (congrArg Prod.fst s_81)) (ltK hnn (by decide)) (c_X8_signAt ro hnn hf (((S1_X8_step I J)) 81 3) htp) (by decide) rfl (Nat.le_of_ble_eq_true rfl) ?_
      refine w_istore_n ok dX8_step_78 rfl (by decide) rfl ?_
      refine w_iload_n ok dX8_step_79 0 rfl ?_
      refine w_if_ge (tgt := 91) ok dX8_step_80 (by decide) (fun c2 => ?_) (fun c2 => ?_)
      · skip
        refine w_iload_n ok dX8_step_91 0 rfl ?_
        refine w_cS (As := [.int (F_X8_signAt (((S1_X8_step I J)) 81 3) (S1_X8_step I J) J)]) ok dX8_step_92 iX8_isLetter (lX8_70 rfl) (c_X8_isLetter ro hnn hf (F_X8_signAt (((S1_X8_step I J)) 81 3) (S1_X8_step I J) J) ) (by decide) rfl (Nat.le_of_ble_eq_true rfl) ?_
        show WK K 0 0 95 [(1, .int (F_X8_signAt (((S1_X8_step I J)) 81 3) (S1_X8_step I J) J)), (0, .ref 81)] [.int (S2_X8_step I J)] (eI f (S1_X8_step I J)) (eJ f J) R n g
        refine w_if_eq (tgt := 105) ok dX8_step_95 (by decide) (fun c3 => ?_) (fun c3 => ?_)
        · skip
          refine w_iload_n ok dX8_step_105 0 rfl ?_
          refine w_cS (As := [.int (F_X8_signAt (((S1_X8_step I J)) 81 3) (S1_X8_step I J) J)]) ok dX8_step_106 iX8_isDigit (lX8_77 rfl) (c_X8_isDigit ro hnn hf (F_X8_signAt (((S1_X8_step I J)) 81 3) (S1_X8_step I J) J) ) (by decide) rfl (Nat.le_of_ble_eq_true rfl) ?_
          refine w_if_eq (tgt := 119) ok dX8_step_109 (by decide) (fun c4 => ?_) (fun c4 => ?_)
          · skip
            refine w_aload_n ok dX8_step_119 1 rfl ?_
            refine w_dup ok dX8_step_120 rfl ?_
            refine y_getI ok dX8_step_121 (fX8_23 rfl) (congrArg Prod.fst s_81) rfl (ltK hnn (by decide)) (sdc hf (by decide)) ?_
            refine w_iconst (v := 1) ok dX8_step_124 (by decide) ?_
            refine w_iadd ok dX8_step_125 ?_
            refine y_putI ok dX8_step_126 (fwX8_23 rfl) (congrArg Prod.fst s_81) rfl (ltK hnn (by decide)) (sdc hf (by decide)) ?_
            refine w_aload_n ok dX8_step_129 1 rfl ?_
            refine w_iload_n ok dX8_step_130 0 rfl ?_
            refine w_aload_n ok dX8_step_131 1 rfl ?_
            refine w_aload_n ok dX8_step_132 1 rfl ?_
            refine y_getI ok dX8_step_133 (fX8_23 rfl) (congrArg Prod.fst s_81) rfl (ltK hnn (by decide)) (sdc hf (by decide)) ?_
            refine w_cV (As := [.int ((u2 (S1_X8_step I J) 81 3 ((((S1_X8_step I J)) 81 3) + 1)) 81 3)]) ok dX8_step_136 iX8_signAt (lX8_66 rfl) (rcv cls8 (congrArg Prod.fst s_81)) (ltK hnn (by decide)) (c_X8_signAt ro hnn hf ((u2 (S1_X8_step I J) 81 3 ((((S1_X8_step I J)) 81 3) + 1)) 81 3) htp) (by decide) rfl (Nat.le_of_ble_eq_true rfl) ?_
            show WK K 0 0 139 [(1, .int (F_X8_signAt (((S1_X8_step I J)) 81 3) (S1_X8_step I J) J)), (0, .ref 81)] [.int (S3_X8_step I J), .int (F_X8_signAt (((S1_X8_step I J)) 81 3) (S1_X8_step I J) J), .ref 81] (eI f (u2 (S1_X8_step I J) 81 3 ((((S1_X8_step I J)) 81 3) + 1))) (eJ f J) R n g
            refine w_cS (As := [.int (F_X8_signAt (((S1_X8_step I J)) 81 3) (S1_X8_step I J) J), .int (S3_X8_step I J)]) ok dX8_step_139 iX8_kindOf (lX8_83 rfl) (c_X8_kindOf ro hnn hf (F_X8_signAt (((S1_X8_step I J)) 81 3) (S1_X8_step I J) J) (S3_X8_step I J) ) (by decide) rfl (Nat.le_of_ble_eq_true rfl) ?_
            show WK K 0 0 142 [(1, .int (F_X8_signAt (((S1_X8_step I J)) 81 3) (S1_X8_step I J) J)), (0, .ref 81)] [.int (S4_X8_step I J), .ref 81] (eI f (u2 (S1_X8_step I J) 81 3 ((((S1_X8_step I J)) 81 3) + 1))) (eJ f J) R n g
            refine y_putI ok dX8_step_142 (fwX8_30 rfl) (congrArg Prod.fst s_81) rfl (ltK hnn (by decide)) (sdc hf (by decide)) ?_
            show WK K 0 0 145 [(1, .int (F_X8_signAt (((S1_X8_step I J)) 81 3) (S1_X8_step I J) J)), (0, .ref 81)] [] (eI f (S5_X8_step I J)) (eJ f J) R n g
            refine w_aload_n ok dX8_step_145 1 rfl ?_
            refine w_dup ok dX8_step_146 rfl ?_
            refine y_getI ok dX8_step_147 (fX8_23 rfl) (congrArg Prod.fst s_81) rfl (ltK hnn (by decide)) (sdc hf (by decide)) ?_
            refine w_aload_n ok dX8_step_150 1 rfl ?_
            refine y_getI ok dX8_step_151 (fX8_30 rfl) (congrArg Prod.fst s_81) rfl (ltK hnn (by decide)) (sdc hf (by decide)) ?_
            refine w_cS (As := [.int (((S5_X8_step I J)) 81 5)]) ok dX8_step_154 iX8_isPair (lX8_86 rfl) (c_X8_isPair ro hnn hf (((S5_X8_step I J)) 81 5) ) (by decide) rfl (Nat.le_of_ble_eq_true rfl) ?_
            show WK K 0 0 157 [(1, .int (F_X8_signAt (((S1_X8_step I J)) 81 3) (S1_X8_step I J) J)), (0, .ref 81)] [.int (F_X8_isPair (((S5_X8_step I J)) 81 5) (S5_X8_step I J) J), .int (((S5_X8_step I J)) 81 3), .ref 81] (eI f (S5_X8_step I J)) (eJ f J) R n g
            refine w_if_eq (tgt := 164) ok dX8_step_157 (by decide) (fun c5 => ?_) (fun c5 => ?_)
            · skip
              refine w_iconst (v := 0) ok dX8_step_164 (by decide) ?_
              refine w_iadd ok dX8_step_165 ?_
              refine y_putI ok dX8_step_166 (fwX8_23 rfl) (congrArg Prod.fst s_81) rfl (ltK hnn (by decide)) (sdc hf (by decide)) ?_
              exact w_vret ok fin dX8_step_169 rfl (by unfold FI_X8_step; simp only [if_pos c1]; simp only [if_pos c2]; simp only [if_pos c3]; simp only [if_pos c4]; simp only [if_pos c5]; exact Pd.i)
            · skip
              refine w_iconst (v := 1) ok dX8_step_160 (by decide) ?_
              refine w_goto (tgt := 165) ok dX8_step_161 (by decide) ?_
              refine w_iadd ok dX8_step_165 ?_
              refine y_putI ok dX8_step_166 (fwX8_23 rfl) (congrArg Prod.fst s_81) rfl (ltK hnn (by decide)) (sdc hf (by decide)) ?_
              exact w_vret ok fin dX8_step_169 rfl (by unfold FI_X8_step; simp only [if_pos c1]; simp only [if_pos c2]; simp only [if_pos c3]; simp only [if_pos c4]; simp only [if_neg c5]; exact Pd.i)
          · skip
            refine w_aload_n ok dX8_step_112 1 rfl ?_
            refine w_cV (As := []) ok dX8_step_113 iX8_number (lX8_80 rfl) (rcv cls8 (congrArg Prod.fst s_81)) (ltK hnn (by decide)) (c_X8_number ro hnn hf  htp (hp2 c1 c2 c3 c4)) (by decide) rfl (Nat.le_of_ble_eq_true rfl) ?_
            refine w_goto (tgt := 169) ok dX8_step_116 (by decide) ?_
            exact w_vret ok fin dX8_step_169 rfl (by unfold FI_X8_step; simp only [if_pos c1]; simp only [if_pos c2]; simp only [if_pos c3]; simp only [if_neg c4]; exact Pd.i)
        · skip
          refine w_aload_n ok dX8_step_98 1 rfl ?_
          refine w_cV (As := []) ok dX8_step_99 iX8_word (lX8_74 rfl) (rcv cls8 (congrArg Prod.fst s_81)) (ltK hnn (by decide)) (c_X8_word ro hnn hf  htp (hp3 c1 c2 c3)) (by decide) rfl (Nat.le_of_ble_eq_true rfl) ?_
          refine w_goto (tgt := 169) ok dX8_step_102 (by decide) ?_
          exact w_vret ok fin dX8_step_169 rfl (by unfold FI_X8_step; simp only [if_pos c1]; simp only [if_pos c2]; simp only [if_neg c3]; exact Pd.i)
      · skip
        refine w_aload_n ok dX8_step_83 1 rfl ?_
        refine w_iconst (v := 0) ok dX8_step_84 (by decide) ?_
        refine y_putI ok dX8_step_85 (fwX8_30 rfl) (congrArg Prod.fst s_81) rfl (ltK hnn (by decide)) (sdc hf (by decide)) ?_
        refine w_goto (tgt := 169) ok dX8_step_88 (by decide) ?_
        exact w_vret ok fin dX8_step_169 rfl (by unfold FI_X8_step; simp only [if_pos c1]; simp only [if_neg c2]; exact Pd.i)
    · intro n17 s17 hs17 kc17 kx17
      show WK K 0 0 17 [(0, .ref 81), (1, .int s17.1)] [] (eI f s17.2) (eJ f J) R n g
      refine w_aload_n ok dX8_step_17 0 rfl ?_
      refine y_getI ok dX8_step_18 (fX8_23 rfl) (congrArg Prod.fst s_81) rfl (ltK hnn (by decide)) (sdc hf (by decide)) ?_
      refine w_aload_n ok dX8_step_21 0 rfl ?_
      refine y_getI ok dX8_step_22 (fX8_19 rfl) (congrArg Prod.fst s_81) rfl (ltK hnn (by decide)) (sdc hf (by decide)) ?_
      refine w_icmp_ge (tgt := 62) ok dX8_step_25 (by decide) (fun c6 => ?_) (fun c6 => ?_)
      · skip
        have eB : B_X8_step_w17 I J s17 = .inr (s17.1, s17.2) := by
          unfold B_X8_step_w17; exact (if_pos c6).trans (rfl)
        refine w_loc [0, 1] rfl ?_
        have kk := kx17 _ eB
        exact kk
      · skip
        refine w_iload_n ok dX8_step_28 1 rfl ?_
        refine w_bipush (v := 32) ok dX8_step_29 (by decide) ?_
        refine w_icmp_eq (tgt := 40) ok dX8_step_31 (by decide) (fun c7 => ?_) (fun c7 => ?_)
        · skip
          refine w_aload_n ok dX8_step_40 0 rfl ?_
          refine w_dup ok dX8_step_41 rfl ?_
          refine y_getI ok dX8_step_42 (fX8_23 rfl) (congrArg Prod.fst s_81) rfl (ltK hnn (by decide)) (sdc hf (by decide)) ?_
          refine w_iconst (v := 1) ok dX8_step_45 (by decide) ?_
          refine w_iadd ok dX8_step_46 ?_
          refine y_putI ok dX8_step_47 (fwX8_23 rfl) (congrArg Prod.fst s_81) rfl (ltK hnn (by decide)) (sdc hf (by decide)) ?_
          refine w_aload_n ok dX8_step_50 0 rfl ?_
          refine w_aload_n ok dX8_step_51 0 rfl ?_
          refine y_getI ok dX8_step_52 (fX8_23 rfl) (congrArg Prod.fst s_81) rfl (ltK hnn (by decide)) (sdc hf (by decide)) ?_
          refine w_cV (As := [.int ((u2 s17.2 81 3 ((s17.2 81 3) + 1)) 81 3)]) ok dX8_step_55 iX8_signAt (lX8_66 rfl) (rcv cls8 (congrArg Prod.fst s_81)) (ltK hnn (by decide)) (c_X8_signAt ro hnn hf ((u2 s17.2 81 3 ((s17.2 81 3) + 1)) 81 3) htp) (by decide) rfl (Nat.le_of_ble_eq_true rfl) ?_
          refine w_istore_n ok dX8_step_58 rfl (by decide) rfl ?_
          refine w_goto (tgt := 17) ok dX8_step_59 (by decide) ?_
          have eB : B_X8_step_w17 I J s17 = .inl ((F_X8_signAt ((u2 s17.2 81 3 ((s17.2 81 3) + 1)) 81 3) (u2 s17.2 81 3 ((s17.2 81 3) + 1)) J), (u2 s17.2 81 3 ((s17.2 81 3) + 1))) := by
            unfold B_X8_step_w17; exact (if_neg c6).trans ((if_pos c7).trans (rfl))
          refine w_loc [1, 0] rfl ?_
          have kk := kc17 _ eB
          exact kk
        · skip
          refine w_iload_n ok dX8_step_34 1 rfl ?_
          refine w_bipush (v := 10) ok dX8_step_35 (by decide) ?_
          refine w_icmp_ne (tgt := 62) ok dX8_step_37 (by decide) (fun c8 => ?_) (fun c8 => ?_)
          · skip
            have eB : B_X8_step_w17 I J s17 = .inr (s17.1, s17.2) := by
              unfold B_X8_step_w17; exact (if_neg c6).trans ((if_neg c7).trans ((if_neg c8).trans (rfl)))
            refine w_loc [0, 1] rfl ?_
            have kk := kx17 _ eB
            exact kk
          · skip
            refine w_aload_n ok dX8_step_40 0 rfl ?_
            refine w_dup ok dX8_step_41 rfl ?_
            refine y_getI ok dX8_step_42 (fX8_23 rfl) (congrArg Prod.fst s_81) rfl (ltK hnn (by decide)) (sdc hf (by decide)) ?_
            refine w_iconst (v := 1) ok dX8_step_45 (by decide) ?_
            refine w_iadd ok dX8_step_46 ?_
            refine y_putI ok dX8_step_47 (fwX8_23 rfl) (congrArg Prod.fst s_81) rfl (ltK hnn (by decide)) (sdc hf (by decide)) ?_
            refine w_aload_n ok dX8_step_50 0 rfl ?_
            refine w_aload_n ok dX8_step_51 0 rfl ?_
            refine y_getI ok dX8_step_52 (fX8_23 rfl) (congrArg Prod.fst s_81) rfl (ltK hnn (by decide)) (sdc hf (by decide)) ?_
            refine w_cV (As := [.int ((u2 s17.2 81 3 ((s17.2 81 3) + 1)) 81 3)]) ok dX8_step_55 iX8_signAt (lX8_66 rfl) (rcv cls8 (congrArg Prod.fst s_81)) (ltK hnn (by decide)) (c_X8_signAt ro hnn hf ((u2 s17.2 81 3 ((s17.2 81 3) + 1)) 81 3) htp) (by decide) rfl (Nat.le_of_ble_eq_true rfl) ?_
            refine w_istore_n ok dX8_step_58 rfl (by decide) rfl ?_
            refine w_goto (tgt := 17) ok dX8_step_59 (by decide) ?_
            have eB : B_X8_step_w17 I J s17 = .inl ((F_X8_signAt ((u2 s17.2 81 3 ((s17.2 81 3) + 1)) 81 3) (u2 s17.2 81 3 ((s17.2 81 3) + 1)) J), (u2 s17.2 81 3 ((s17.2 81 3) + 1))) := by
              unfold B_X8_step_w17; exact (if_neg c6).trans ((if_neg c7).trans ((if_pos c8).trans (rfl)))
            refine w_loc [1, 0] rfl ?_
            have kk := kc17 _ eB
            exact kk
  · skip
    exact w_vret ok fin dX8_step_7 rfl (by unfold FI_X8_step; simp only [if_neg c1]; exact Pd.i)
def F_X11_tell (a0 : Int32) (a1 : Int32) (I : SI) (J : SJ) : Int32 := if (F_X7_holds 3 a0 I J) = 0 then 0 else (if a1 < 0 then 0 else (if a1 < (atF (I 6) 8 a0) then F_X11_sayFromNowOn a0 a1 I J else 0))
def FI_X11_tell (a0 : Int32) (a1 : Int32) (I : SI) (J : SJ) : SI := if (F_X7_holds 3 a0 I J) = 0 then I else (if a1 < 0 then I else (if a1 < (atF (I 6) 8 a0) then FI_X11_sayFromNowOn a0 a1 I J else I))
def H_X11_tell (a0 : Int32) (a1 : Int32) (I : SI) (J : SJ) : Prop := (¬ ((F_X7_holds 3 a0 I J) = 0) → ¬ (a1 < 0) → a1 < (atF (I 6) 8 a0) → (F_X11_sayFromNowOn a0 a1 I J) = 0 ∨ (F_X11_sayFromNowOn a0 a1 I J) = 1)
set_option maxHeartbeats 1000000 in
set_option maxRecDepth 40000 in
theorem c_X11_tell {I : SI} {J : SJ} {R : SR} {n g : Nat} {f : Fr} (ro : RO R) (hnn : nK ≤ n) (hf : f.1 = true) (a0 : Int32) (a1 : Int32)  (hp : H_X11_tell a0 a1 I J) : MM 3 0 0 mX11_tell [.ref 0, .int a0, .int a1] (eI f I) (eJ f J) R n g (Pd (some (.int (F_X11_tell a0 a1 I J))) (eI f (FI_X11_tell a0 a1 I J)) (eJ f J) R n g) := by
  refine MM.of (by decide) (Nat.le_of_ble_eq_true rfl) fun K ok fin => ?_
  show WK K 0 0 0 [(0, .ref 0), (1, .int a0), (2, .int a1)] [] (eI f I) (eJ f J) R n g
  have hp1 := hp
  refine w_aload_n ok dX11_tell_0 0 rfl ?_
  refine w_getR ok dX11_tell_1 (fX11_20 rfl) (congrArg Prod.fst s_0) rfl (r_0_2 ro) (ltK hnn (by decide)) ?_
  refine w_getR ok dX11_tell_4 (fX11_112 rfl) (congrArg Prod.fst s_2) rfl (r_2_0 ro) (ltK hnn (by decide)) ?_
  refine w_iload_n ok dX11_tell_7 1 rfl ?_
  refine w_cV (As := [.int a0]) ok dX11_tell_8 iX7_holds (lX11_131 rfl) (rcv cls7 (congrArg Prod.fst s_3)) (ltK hnn (by decide)) (c_X7_holds ro hnn hf a0 isTb_3) (by decide) rfl (Nat.le_of_ble_eq_true rfl) ?_
  refine w_if_eq (tgt := 36) ok dX11_tell_11 (by decide) (fun c1 => ?_) (fun c1 => ?_)
  · skip
    refine w_iconst (v := 0) ok dX11_tell_36 (by decide) ?_
    exact w_zret ok fin dX11_tell_37 rfl (by decide) (by unfold F_X11_tell FI_X11_tell; simp only [if_pos c1]; exact Pd.i)
  · skip
    refine w_iload_n ok dX11_tell_14 2 rfl ?_
    refine w_if_lt (tgt := 36) ok dX11_tell_15 (by decide) (fun c2 => ?_) (fun c2 => ?_)
    · skip
      refine w_iconst (v := 0) ok dX11_tell_36 (by decide) ?_
      exact w_zret ok fin dX11_tell_37 rfl (by decide) (by unfold F_X11_tell FI_X11_tell; simp only [if_neg c1]; simp only [if_pos c2]; exact Pd.i)
    · skip
      refine w_iload_n ok dX11_tell_18 2 rfl ?_
      refine w_aload_n ok dX11_tell_19 0 rfl ?_
      refine w_getR ok dX11_tell_20 (fX11_20 rfl) (congrArg Prod.fst s_0) rfl (r_0_2 ro) (ltK hnn (by decide)) ?_
      refine w_getR ok dX11_tell_23 (fX11_112 rfl) (congrArg Prod.fst s_2) rfl (r_2_0 ro) (ltK hnn (by decide)) ?_
      refine w_getR ok dX11_tell_26 (fX11_150 rfl) (congrArg Prod.fst s_3) rfl (r_3_4 ro) (ltK hnn (by decide)) ?_
      refine w_iload_n ok dX11_tell_29 1 rfl ?_
      refine w_cS (As := [.ref 6, .int a0]) ok dX11_tell_30 iX11_at (lX11_146 rfl) (c_at s_6 (ltK hnn (by decide)) (sdc hf (by decide)) a0) (by decide) rfl (Nat.le_of_ble_eq_true rfl) ?_
      show WK K 0 0 33 [(0, .ref 0), (1, .int a0), (2, .int a1)] [.int (atF (I 6) 8 a0), .int a1] (eI f I) (eJ f J) R n g
      refine w_icmp_lt (tgt := 38) ok dX11_tell_33 (by decide) (fun c3 => ?_) (fun c3 => ?_)
      · skip
        refine w_aload_n ok dX11_tell_38 0 rfl ?_
        refine w_iload_n ok dX11_tell_39 1 rfl ?_
        refine w_iload_n ok dX11_tell_40 2 rfl ?_
        refine w_cV (As := [.int a0, .int a1]) ok dX11_tell_41 iX11_sayFromNowOn (lX11_222 rfl) (rcv cls11 (congrArg Prod.fst s_0)) (ltK hnn (by decide)) (c_X11_sayFromNowOn ro hnn hf a0 a1 ) (by decide) rfl (Nat.le_of_ble_eq_true rfl) ?_
        exact w_zret ok fin dX11_tell_44 rfl (hp1 c1 c2 c3) (by unfold F_X11_tell FI_X11_tell; simp only [if_neg c1]; simp only [if_neg c2]; simp only [if_pos c3]; exact Pd.i)
      · skip
        refine w_iconst (v := 0) ok dX11_tell_36 (by decide) ?_
        exact w_zret ok fin dX11_tell_37 rfl (by decide) (by unfold F_X11_tell FI_X11_tell; simp only [if_neg c1]; simp only [if_neg c2]; simp only [if_neg c3]; exact Pd.i)
