def F_X11_gain (a0 : Int32) (a1 : Int32) (I : SI) (J : SJ) : Int32 := if a0 = a1 then (4 : Int32) - a0 else (if a0 ≤ a1 then -a0 else (10 : Int32) - a0)
set_option maxHeartbeats 1000000 in
set_option maxRecDepth 40000 in
theorem c_X11_gain {I : SI} {J : SJ} {R : SR} {n g : Nat} {f : Fr} (ro : RO R) (hnn : nK ≤ n) (hf : f.1 = true) (a0 : Int32) (a1 : Int32)   : MM 0 0 0 mX11_gain [.int a0, .int a1] (eI f I) (eJ f J) R n g (Pd (some (.int (F_X11_gain a0 a1 I J))) (eI f I) (eJ f J) R n g) := by
  refine MM.of (by decide) (Nat.le_of_ble_eq_true rfl) fun K ok fin => ?_
  show WK K 0 0 0 [(0, .int a0), (1, .int a1)] [] (eI f I) (eJ f J) R n g
  refine w_iload_n ok dX11_gain_0 0 rfl ?_
  refine w_iload_n ok dX11_gain_1 1 rfl ?_
  refine w_icmp_ne (tgt := 9) ok dX11_gain_2 (by decide) (fun c1 => ?_) (fun c1 => ?_)
  · skip
    refine w_iload_n ok dX11_gain_9 0 rfl ?_
    refine w_iload_n ok dX11_gain_10 1 rfl ?_
    refine w_icmp_le (tgt := 21) ok dX11_gain_11 (by decide) (fun c2 => ?_) (fun c2 => ?_)
    · skip
      refine w_iload_n ok dX11_gain_21 0 rfl ?_
      refine w_ineg ok dX11_gain_22 ?_
      exact w_iret ok fin dX11_gain_23 rfl (by unfold F_X11_gain; simp only [if_neg c1]; simp only [if_pos c2]; exact Pd.i)
    · skip
      refine w_bipush (v := 10) ok dX11_gain_14 (by decide) ?_
      refine w_iload_n ok dX11_gain_16 0 rfl ?_
      refine w_isub ok dX11_gain_17 ?_
      refine w_goto (tgt := 23) ok dX11_gain_18 (by decide) ?_
      exact w_iret ok fin dX11_gain_23 rfl (by unfold F_X11_gain; simp only [if_neg c1]; simp only [if_neg c2]; exact Pd.i)
  · skip
    refine w_iconst (v := 4) ok dX11_gain_5 (by decide) ?_
    refine w_iload_n ok dX11_gain_6 0 rfl ?_
    refine w_isub ok dX11_gain_7 ?_
    exact w_iret ok fin dX11_gain_8 rfl (by unfold F_X11_gain; simp only [if_pos c1]; exact Pd.i)
def B_X11_commonPart_l4 (a0 : Int32) (a1 : Int32) (I : SI) (J : SJ) (i4 : Nat) (s4 : Int32) : Int32 := if (a0 - a0 / (nI (1 + i4)) * (nI (1 + i4))) = 0 then (if (a1 - a1 / (nI (1 + i4)) * (nI (1 + i4))) = 0 then (nI (1 + i4)) else s4) else s4
def F_X11_commonPart_l4 (a0 : Int32) (a1 : Int32) (I : SI) (J : SJ) (s0 : Int32) : Int32 := itN (B_X11_commonPart_l4 a0 a1 I J) (100) s0
def F_X11_commonPart (a0 : Int32) (a1 : Int32) (I : SI) (J : SJ) : Int32 := (F_X11_commonPart_l4 a0 a1 I J 1)
def H_X11_commonPart (a0 : Int32) (a1 : Int32) (I : SI) (J : SJ) : Prop := (∀ (i4 : Nat) (s4 : Int32), i4 < 100 → s4 = itN (B_X11_commonPart_l4 a0 a1 I J) i4 1 → ¬ (nI (1 + i4)) = 0) ∧ (∀ (i4 : Nat) (s4 : Int32), i4 < 100 → s4 = itN (B_X11_commonPart_l4 a0 a1 I J) i4 1 → (a0 - a0 / (nI (1 + i4)) * (nI (1 + i4))) = 0 → ¬ (nI (1 + i4)) = 0)
set_option maxHeartbeats 1000000 in
set_option maxRecDepth 40000 in
theorem c_X11_commonPart {I : SI} {J : SJ} {R : SR} {n g : Nat} {f : Fr} (ro : RO R) (hnn : nK ≤ n) (hf : f.1 = true) (a0 : Int32) (a1 : Int32)  (hp : H_X11_commonPart a0 a1 I J) : MM 0 0 0 mX11_commonPart [.int a0, .int a1] (eI f I) (eJ f J) R n g (Pd (some (.int (F_X11_commonPart a0 a1 I J))) (eI f I) (eJ f J) R n g) := by
  refine MM.of (by decide) (Nat.le_of_ble_eq_true rfl) fun K ok fin => ?_
  show WK K 0 0 0 [(0, .int a0), (1, .int a1)] [] (eI f I) (eJ f J) R n g
  obtain ⟨hp1, hp2⟩ := hp
  refine w_iconst (v := 1) ok dX11_commonPart_0 (by decide) ?_
  refine w_istore_n ok dX11_commonPart_1 rfl (by decide) rfl ?_
  refine w_iconst (v := 1) ok dX11_commonPart_2 (by decide) ?_
  refine w_istore_n ok dX11_commonPart_3 rfl (by decide) rfl ?_
  refine w_loc [2, 3, 1, 0] rfl ?_
  refine loop_for (σ := Int32) (fun (i4 : Nat) (s4 : Int32) => WK K 0 0 4 [(0, .int a0), (1, .int a1), (2, .int s4), (3, .int (nI (1 + i4)))] [] (eI f I) (eJ f J) R n g) (B_X11_commonPart_l4 a0 a1 I J) (100) (1) ?_ ?_
  · show WK K 0 0 4 [(0, .int a0), (1, .int a1), (2, .int (F_X11_commonPart_l4 a0 a1 I J 1)), (3, .int (nI (1 + 100)))] [] (eI f I) (eJ f J) R n g
    have e1 : (100 : Int32) < (nI (1 + 100)) := (show nI 100 < nI (1 + 100) from nI_lt (by omega) (by decide))
    refine w_iload_n ok dX11_commonPart_4 3 rfl ?_
    refine w_bipush (v := 100) ok dX11_commonPart_5 (by decide) ?_
    refine w_icmp_gt (tgt := 30) ok dX11_commonPart_7 (by decide) (fun _ => ?_) (fun h => absurd e1 h)
    refine w_iload_n ok dX11_commonPart_30 2 rfl ?_
    exact w_iret ok fin dX11_commonPart_31 rfl (by unfold F_X11_commonPart; exact Pd.i)
  · intro i4 s4 hi4 hs4 k4
    show WK K 0 0 4 [(0, .int a0), (1, .int a1), (2, .int s4), (3, .int (nI (1 + i4)))] [] (eI f I) (eJ f J) R n g
    have e2 : ¬ ((100 : Int32) < (nI (1 + i4))) := (show ¬ (nI 100 < nI (1 + i4)) from nI_nlt (by omega) (by decide))
    refine w_iload_n ok dX11_commonPart_4 3 rfl ?_
    refine w_bipush (v := 100) ok dX11_commonPart_5 (by decide) ?_
    refine w_icmp_gt (tgt := 30) ok dX11_commonPart_7 (by decide) (fun h => absurd h e2) (fun _ => ?_)
    refine w_iload_n ok dX11_commonPart_10 0 rfl ?_
    refine w_iload_n ok dX11_commonPart_11 3 rfl ?_
    refine w_irem ok dX11_commonPart_12 (hp1 i4 s4 hi4 hs4) ?_
    refine w_if_ne (tgt := 24) ok dX11_commonPart_13 (by decide) (fun c3 => ?_) (fun c3 => ?_)
    · skip
      refine w_iinc (v := (nI (1 + i4)) + 1) ok dX11_commonPart_24 3 rfl rfl (by decide) rfl ?_
      refine w_goto (tgt := 4) ok dX11_commonPart_27 (by decide) ?_
      have eB : B_X11_commonPart_l4 a0 a1 I J i4 s4 = s4 := by
        unfold B_X11_commonPart_l4; exact (if_neg c3).trans (rfl)
      have kk := k4
      rw [eB] at kk
      refine w_loc [1, 2, 3, 0] rfl ?_
      rw [show nI (1 + i4) + 1 = nI (1 + (i4 + 1)) from nI_1 _]
      exact kk
    · skip
      refine w_iload_n ok dX11_commonPart_16 1 rfl ?_
      refine w_iload_n ok dX11_commonPart_17 3 rfl ?_
      refine w_irem ok dX11_commonPart_18 (hp2 i4 s4 hi4 hs4 c3) ?_
      refine w_if_ne (tgt := 24) ok dX11_commonPart_19 (by decide) (fun c4 => ?_) (fun c4 => ?_)
      · skip
        refine w_iinc (v := (nI (1 + i4)) + 1) ok dX11_commonPart_24 3 rfl rfl (by decide) rfl ?_
        refine w_goto (tgt := 4) ok dX11_commonPart_27 (by decide) ?_
        have eB : B_X11_commonPart_l4 a0 a1 I J i4 s4 = s4 := by
          unfold B_X11_commonPart_l4; exact (if_pos c3).trans ((if_neg c4).trans (rfl))
        have kk := k4
        rw [eB] at kk
        refine w_loc [1, 2, 3, 0] rfl ?_
        rw [show nI (1 + i4) + 1 = nI (1 + (i4 + 1)) from nI_1 _]
        exact kk
      · skip
        refine w_iload_n ok dX11_commonPart_22 3 rfl ?_
        refine w_istore_n ok dX11_commonPart_23 rfl (by decide) rfl ?_
        refine w_iinc (v := (nI (1 + i4)) + 1) ok dX11_commonPart_24 3 rfl rfl (by decide) rfl ?_
        refine w_goto (tgt := 4) ok dX11_commonPart_27 (by decide) ?_
        have eB : B_X11_commonPart_l4 a0 a1 I J i4 s4 = (nI (1 + i4)) := by
          unfold B_X11_commonPart_l4; exact (if_pos c3).trans ((if_pos c4).trans (rfl))
        have kk := k4
        rw [eB] at kk
        refine w_loc [2, 3, 1, 0] rfl ?_
        rw [show nI (1 + i4) + 1 = nI (1 + (i4 + 1)) from nI_1 _]
        exact kk
def B_X11_believed_l4 (I : SI) (J : SJ) (i4 : Nat) (s4 : Int32) : Int32 := if (atF (I 91) 6 (atF (I 15) 8 (nI i4))) = (atF (I 16) 8 (nI i4)) then (s4 ||| ((1 : Int32) <<< ((nI i4) &&& 31))) else s4
def F_X11_believed_l4 (I : SI) (J : SJ) (s0 : Int32) : Int32 := itN (B_X11_believed_l4 I J) ((I 13 1).toNatClampNeg) s0
def F_X11_believed  (I : SI) (J : SJ) : Int32 := (F_X11_believed_l4 I J 0)
set_option maxHeartbeats 1000000 in
set_option maxRecDepth 40000 in
theorem c_X11_believed {I : SI} {J : SJ} {R : SR} {n g : Nat} {f : Fr} (ro : RO R) (hnn : nK ≤ n) (hf : f.1 = true)    : MM 1 0 0 mX11_believed [.ref 0] (eI f I) (eJ f J) R n g (Pd (some (.int (F_X11_believed  I J))) (eI f I) (eJ f J) R n g) := by
  refine MM.of (by decide) (Nat.le_of_ble_eq_true rfl) fun K ok fin => ?_
  show WK K 0 0 0 [(0, .ref 0)] [] (eI f I) (eJ f J) R n g
  refine w_iconst (v := 0) ok dX11_believed_0 (by decide) ?_
  refine w_istore_n ok dX11_believed_1 rfl (by decide) rfl ?_
  refine w_iconst (v := 0) ok dX11_believed_2 (by decide) ?_
  refine w_istore_n ok dX11_believed_3 rfl (by decide) rfl ?_
  refine w_loc [2, 1, 0] rfl ?_
  refine loop_for (σ := Int32) (fun (i4 : Nat) (s4 : Int32) => WK K 0 0 4 [(0, .ref 0), (1, .int s4), (2, .int (nI i4))] [] (eI f I) (eJ f J) R n g) (B_X11_believed_l4 I J) ((I 13 1).toNatClampNeg) (0) ?_ ?_
  · show WK K 0 0 4 [(0, .ref 0), (1, .int (F_X11_believed_l4 I J 0)), (2, .int (nI ((I 13 1).toNatClampNeg)))] [] (eI f I) (eJ f J) R n g
    have e1 : (I 13 1) ≤ (nI ((I 13 1).toNatClampNeg)) := cnt_ge _
    refine w_iload_n ok dX11_believed_4 2 rfl ?_
    refine w_aload_n ok dX11_believed_5 0 rfl ?_
    refine w_getR ok dX11_believed_6 (fX11_20 rfl) (congrArg Prod.fst s_0) rfl (r_0_2 ro) (ltK hnn (by decide)) ?_
    refine w_getR ok dX11_believed_9 (fX11_125 rfl) (congrArg Prod.fst s_2) rfl (r_2_2 ro) (ltK hnn (by decide)) ?_
    refine y_getI ok dX11_believed_12 (fX11_256 rfl) (congrArg Prod.fst s_13) rfl (ltK hnn (by decide)) (sdc hf (by decide)) ?_
    refine w_icmp_ge (tgt := 71) ok dX11_believed_15 (by decide) (fun _ => ?_) (fun h => absurd e1 h)
    refine w_iload_n ok dX11_believed_71 1 rfl ?_
    exact w_iret ok fin dX11_believed_72 rfl (by unfold F_X11_believed; exact Pd.i)
  · intro i4 s4 hi4 hs4 k4
    show WK K 0 0 4 [(0, .ref 0), (1, .int s4), (2, .int (nI i4))] [] (eI f I) (eJ f J) R n g
    have e2 : ¬ ((I 13 1) ≤ (nI i4)) := cnt_lt hi4
    refine w_iload_n ok dX11_believed_4 2 rfl ?_
    refine w_aload_n ok dX11_believed_5 0 rfl ?_
    refine w_getR ok dX11_believed_6 (fX11_20 rfl) (congrArg Prod.fst s_0) rfl (r_0_2 ro) (ltK hnn (by decide)) ?_
    refine w_getR ok dX11_believed_9 (fX11_125 rfl) (congrArg Prod.fst s_2) rfl (r_2_2 ro) (ltK hnn (by decide)) ?_
    refine y_getI ok dX11_believed_12 (fX11_256 rfl) (congrArg Prod.fst s_13) rfl (ltK hnn (by decide)) (sdc hf (by decide)) ?_
    refine w_icmp_ge (tgt := 71) ok dX11_believed_15 (by decide) (fun h => absurd h e2) (fun _ => ?_)
    refine w_aload_n ok dX11_believed_18 0 rfl ?_
    refine w_getR ok dX11_believed_19 (fX11_34 rfl) (congrArg Prod.fst s_0) rfl (r_0_4 ro) (ltK hnn (by decide)) ?_
    refine w_getR ok dX11_believed_22 (fX11_153 rfl) (congrArg Prod.fst s_86) rfl (r_86_11 ro) (ltK hnn (by decide)) ?_
    refine w_aload_n ok dX11_believed_25 0 rfl ?_
    refine w_getR ok dX11_believed_26 (fX11_20 rfl) (congrArg Prod.fst s_0) rfl (r_0_2 ro) (ltK hnn (by decide)) ?_
    refine w_getR ok dX11_believed_29 (fX11_125 rfl) (congrArg Prod.fst s_2) rfl (r_2_2 ro) (ltK hnn (by decide)) ?_
    refine w_getR ok dX11_believed_32 (fX11_142 rfl) (congrArg Prod.fst s_13) rfl (r_13_3 ro) (ltK hnn (by decide)) ?_
    refine w_iload_n ok dX11_believed_35 2 rfl ?_
    refine w_cS (As := [.ref 15, .int (nI i4)]) ok dX11_believed_36 iX11_at (lX11_146 rfl) (c_at s_15 (ltK hnn (by decide)) (sdc hf (by decide)) (nI i4)) (by decide) rfl (Nat.le_of_ble_eq_true rfl) ?_
    show WK K 0 0 39 [(0, .ref 0), (1, .int s4), (2, .int (nI i4))] [.int (atF (I 15) 8 (nI i4)), .ref 91] (eI f I) (eJ f J) R n g
    refine w_cS (As := [.ref 91, .int (atF (I 15) 8 (nI i4))]) ok dX11_believed_39 iX11_at (lX11_146 rfl) (c_at s_91 (ltK hnn (by decide)) (sdc hf (by decide)) (atF (I 15) 8 (nI i4))) (by decide) rfl (Nat.le_of_ble_eq_true rfl) ?_
    refine w_aload_n ok dX11_believed_42 0 rfl ?_
    refine w_getR ok dX11_believed_43 (fX11_20 rfl) (congrArg Prod.fst s_0) rfl (r_0_2 ro) (ltK hnn (by decide)) ?_
    refine w_getR ok dX11_believed_46 (fX11_125 rfl) (congrArg Prod.fst s_2) rfl (r_2_2 ro) (ltK hnn (by decide)) ?_
    refine w_getR ok dX11_believed_49 (fX11_150 rfl) (congrArg Prod.fst s_13) rfl (r_13_4 ro) (ltK hnn (by decide)) ?_
    refine w_iload_n ok dX11_believed_52 2 rfl ?_
    refine w_cS (As := [.ref 16, .int (nI i4)]) ok dX11_believed_53 iX11_at (lX11_146 rfl) (c_at s_16 (ltK hnn (by decide)) (sdc hf (by decide)) (nI i4)) (by decide) rfl (Nat.le_of_ble_eq_true rfl) ?_
    show WK K 0 0 56 [(0, .ref 0), (1, .int s4), (2, .int (nI i4))] [.int (atF (I 16) 8 (nI i4)), .int (atF (I 91) 6 (atF (I 15) 8 (nI i4)))] (eI f I) (eJ f J) R n g
    refine w_icmp_ne (tgt := 65) ok dX11_believed_56 (by decide) (fun c3 => ?_) (fun c3 => ?_)
    · skip
      refine w_iinc (v := (nI i4) + 1) ok dX11_believed_65 2 rfl rfl (by decide) rfl ?_
      refine w_goto (tgt := 4) ok dX11_believed_68 (by decide) ?_
      have eB : B_X11_believed_l4 I J i4 s4 = s4 := by
        unfold B_X11_believed_l4; exact (if_neg c3).trans (rfl)
      have kk := k4
      rw [eB] at kk
      refine w_loc [1, 2, 0] rfl ?_
      rw [nI_1 i4]
      exact kk
    · skip
      refine w_iload_n ok dX11_believed_59 1 rfl ?_
      refine w_iconst (v := 1) ok dX11_believed_60 (by decide) ?_
      refine w_iload_n ok dX11_believed_61 2 rfl ?_
      refine w_ishl ok dX11_believed_62 ?_
      refine w_ior ok dX11_believed_63 ?_
      refine w_istore_n ok dX11_believed_64 rfl (by decide) rfl ?_
      refine w_iinc (v := (nI i4) + 1) ok dX11_believed_65 2 rfl rfl (by decide) rfl ?_
      refine w_goto (tgt := 4) ok dX11_believed_68 (by decide) ?_
      have eB : B_X11_believed_l4 I J i4 s4 = (s4 ||| ((1 : Int32) <<< ((nI i4) &&& 31))) := by
        unfold B_X11_believed_l4; exact (if_pos c3).trans (rfl)
      have kk := k4
      rw [eB] at kk
      refine w_loc [2, 1, 0] rfl ?_
      rw [nI_1 i4]
      exact kk
def F_X11_known (a0 : Int32) (I : SI) (J : SJ) : Int32 := if a0 < (-1) then 0 else (if a0 ≤ (I 116 0) then 1 else 0)
def FI_X11_known (a0 : Int32) (I : SI) (J : SJ) : SI := if a0 < (-1) then I else (if a0 ≤ (I 116 0) then u2 I 116 1 a0 else I)
set_option maxHeartbeats 1000000 in
set_option maxRecDepth 40000 in
theorem c_X11_known {I : SI} {J : SJ} {R : SR} {n g : Nat} {f : Fr} (ro : RO R) (hnn : nK ≤ n) (hf : f.1 = true) (a0 : Int32)   : MM 0 0 0 mX11_known [.ref 0, .int a0] (eI f I) (eJ f J) R n g (Pd (some (.int (F_X11_known a0 I J))) (eI f (FI_X11_known a0 I J)) (eJ f J) R n g) := by
  refine MM.of (by decide) (Nat.le_of_ble_eq_true rfl) fun K ok fin => ?_
  show WK K 0 0 0 [(0, .ref 0), (1, .int a0)] [] (eI f I) (eJ f J) R n g
  refine w_iload_n ok dX11_known_0 1 rfl ?_
  refine w_iconst (v := (-1)) ok dX11_known_1 (by decide) ?_
  refine w_icmp_lt (tgt := 16) ok dX11_known_2 (by decide) (fun c1 => ?_) (fun c1 => ?_)
  · skip
    refine w_iconst (v := 0) ok dX11_known_16 (by decide) ?_
    exact w_zret ok fin dX11_known_17 rfl (by decide) (by unfold F_X11_known FI_X11_known; simp only [if_pos c1]; exact Pd.i)
  · skip
    refine w_iload_n ok dX11_known_5 1 rfl ?_
    refine w_aload_n ok dX11_known_6 0 rfl ?_
    refine w_getR ok dX11_known_7 (fX11_57 rfl) (congrArg Prod.fst s_0) rfl (r_0_8 ro) (ltK hnn (by decide)) ?_
    refine y_getI ok dX11_known_10 (fX11_331 rfl) (congrArg Prod.fst s_116) rfl (ltK hnn (by decide)) (sdc hf (by decide)) ?_
    refine w_icmp_le (tgt := 18) ok dX11_known_13 (by decide) (fun c2 => ?_) (fun c2 => ?_)
    · skip
      refine w_aload_n ok dX11_known_18 0 rfl ?_
      refine w_getR ok dX11_known_19 (fX11_57 rfl) (congrArg Prod.fst s_0) rfl (r_0_8 ro) (ltK hnn (by decide)) ?_
      refine w_iload_n ok dX11_known_22 1 rfl ?_
      refine y_putI ok dX11_known_23 (fwX11_332 rfl) (congrArg Prod.fst s_116) rfl (ltK hnn (by decide)) (sdc hf (by decide)) ?_
      refine w_iconst (v := 1) ok dX11_known_26 (by decide) ?_
      exact w_zret ok fin dX11_known_27 rfl (by decide) (by unfold F_X11_known FI_X11_known; simp only [if_neg c1]; simp only [if_pos c2]; exact Pd.i)
    · skip
      refine w_iconst (v := 0) ok dX11_known_16 (by decide) ?_
      exact w_zret ok fin dX11_known_17 rfl (by decide) (by unfold F_X11_known FI_X11_known; simp only [if_neg c1]; simp only [if_neg c2]; exact Pd.i)
def T_X12_feed_j73 (a0 : Int32) (a1 : Int32) (a2 : Int32) (a3 : Int32) (a4 : Int32) (I : SI) (J : SJ) (i20 : Nat) (s20 : SI) : Int32 := if (4 : Int32) ≤ (nI i20) then (if (8 : Int32) ≤ (nI i20) then (if (12 : Int32) ≤ (nI i20) then (if (16 : Int32) ≤ (nI i20) then a4 else a3) else a2) else a1) else a0
def S2_X12_feed (a0 : Int32) (a1 : Int32) (a2 : Int32) (a3 : Int32) (a4 : Int32) (I : SI) (J : SJ) (i20 : Nat) (s20 : SI) : Int32 := (T_X12_feed_j73 a0 a1 a2 a3 a4 I J i20 s20) >>> (((24 : Int32) - ((8 : Int32) * ((nI i20) - (nI i20) / 4 * 4))) &&& 31)
def S3_X12_feed (a0 : Int32) (a1 : Int32) (a2 : Int32) (a3 : Int32) (a4 : Int32) (I : SI) (J : SJ) (i20 : Nat) (s20 : SI) : SI := u2 s20 131 ((s20 130 2) + (nI i20)).toNatClampNeg ((S2_X12_feed a0 a1 a2 a3 a4 I J i20 s20) &&& 255)
def B_X12_feed_l20 (a0 : Int32) (a1 : Int32) (a2 : Int32) (a3 : Int32) (a4 : Int32) (I : SI) (J : SJ) (i20 : Nat) (s20 : SI) : SI := (S3_X12_feed a0 a1 a2 a3 a4 I J i20 s20)
def F_X12_feed_l20 (a0 : Int32) (a1 : Int32) (a2 : Int32) (a3 : Int32) (a4 : Int32) (I : SI) (J : SJ) (s0 : SI) : SI := itN (B_X12_feed_l20 a0 a1 a2 a3 a4 I J) (20) s0
def S1_X12_feed (a0 : Int32) (a1 : Int32) (a2 : Int32) (a3 : Int32) (a4 : Int32) (I : SI) (J : SJ) : SI := u2 ((F_X12_feed_l20 a0 a1 a2 a3 a4 I J (u2 I 130 0 0))) 130 2 ((((F_X12_feed_l20 a0 a1 a2 a3 a4 I J (u2 I 130 0 0))) 130 2) + 20)
def F_X12_feed (a0 : Int32) (a1 : Int32) (a2 : Int32) (a3 : Int32) (a4 : Int32) (I : SI) (J : SJ) : Int32 := if ((u2 I 130 0 0) 130 2) ≤ 680 then ((S1_X12_feed a0 a1 a2 a3 a4 I J)) 130 2 else -1
def FI_X12_feed (a0 : Int32) (a1 : Int32) (a2 : Int32) (a3 : Int32) (a4 : Int32) (I : SI) (J : SJ) : SI := if ((u2 I 130 0 0) 130 2) ≤ 680 then (S1_X12_feed a0 a1 a2 a3 a4 I J) else u2 I 130 0 0
