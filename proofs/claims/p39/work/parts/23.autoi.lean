/-! printed by wip/whole/gen_c.py: contracts by program -/
def F_X11_forget (a0 : Int32) (I : SI) (J : SJ) : Int32 := if (F_X7_holds 3 a0 I J) = 0 then 0 else (if (F_X11_sayFromNowOn a0 (-1) I J) = 0 then 0 else 1)
def FI_X11_forget (a0 : Int32) (I : SI) (J : SJ) : SI := if (F_X7_holds 3 a0 I J) = 0 then I else (if (F_X11_sayFromNowOn a0 (-1) I J) = 0 then FI_X11_sayFromNowOn a0 (-1) I J else FI_X11_sayFromNowOn a0 (-1) I J)
set_option maxHeartbeats 1000000 in
set_option maxRecDepth 40000 in
theorem c_X11_forget {I : SI} {J : SJ} {R : SR} {n g : Nat} {f : Fr} (ro : RO R) (hnn : nK ≤ n) (hf : f.1 = true) (a0 : Int32)   : MM 3 0 0 mX11_forget [.ref 0, .int a0] (eI f I) (eJ f J) R n g (Pd (some (.int (F_X11_forget a0 I J))) (eI f (FI_X11_forget a0 I J)) (eJ f J) R n g) := by
  refine MM.of (by decide) (Nat.le_of_ble_eq_true rfl) fun K ok fin => ?_
  show WK K 0 0 0 [(0, .ref 0), (1, .int a0)] [] (eI f I) (eJ f J) R n g
  refine w_aload_n ok dX11_forget_0 0 rfl ?_
  refine w_getR ok dX11_forget_1 (fX11_20 rfl) (congrArg Prod.fst s_0) rfl (r_0_2 ro) (ltK hnn (by decide)) ?_
  refine w_getR ok dX11_forget_4 (fX11_112 rfl) (congrArg Prod.fst s_2) rfl (r_2_0 ro) (ltK hnn (by decide)) ?_
  refine w_iload_n ok dX11_forget_7 1 rfl ?_
  refine w_cV (As := [.int a0]) ok dX11_forget_8 iX7_holds (lX11_131 rfl) (rcv cls7 (congrArg Prod.fst s_3)) (ltK hnn (by decide)) (c_X7_holds ro hnn hf a0 isTb_3) (by decide) rfl (Nat.le_of_ble_eq_true rfl) ?_
  refine w_if_eq (tgt := 27) ok dX11_forget_11 (by decide) (fun c1 => ?_) (fun c1 => ?_)
  · skip
    refine w_iconst (v := 0) ok dX11_forget_27 (by decide) ?_
    exact w_zret ok fin dX11_forget_28 rfl (by decide) (by unfold F_X11_forget FI_X11_forget; simp only [if_pos c1]; exact Pd.i)
  · skip
    refine w_aload_n ok dX11_forget_14 0 rfl ?_
    refine w_iload_n ok dX11_forget_15 1 rfl ?_
    refine w_iconst (v := (-1)) ok dX11_forget_16 (by decide) ?_
    refine w_cV (As := [.int a0, .int (-1)]) ok dX11_forget_17 iX11_sayFromNowOn (lX11_222 rfl) (rcv cls11 (congrArg Prod.fst s_0)) (ltK hnn (by decide)) (c_X11_sayFromNowOn ro hnn hf a0 (-1) ) (by decide) rfl (Nat.le_of_ble_eq_true rfl) ?_
    refine w_if_eq (tgt := 27) ok dX11_forget_20 (by decide) (fun c2 => ?_) (fun c2 => ?_)
    · skip
      refine w_iconst (v := 0) ok dX11_forget_27 (by decide) ?_
      exact w_zret ok fin dX11_forget_28 rfl (by decide) (by unfold F_X11_forget FI_X11_forget; simp only [if_neg c1]; simp only [if_pos c2]; exact Pd.i)
    · skip
      refine w_iconst (v := 1) ok dX11_forget_23 (by decide) ?_
      refine w_goto (tgt := 28) ok dX11_forget_24 (by decide) ?_
      exact w_zret ok fin dX11_forget_28 rfl (by decide) (by unfold F_X11_forget FI_X11_forget; simp only [if_neg c1]; simp only [if_neg c2]; exact Pd.i)
def F_X11_isRest (a0 : Int32) (a1 : Int32) (a2 : Int32) (I : SI) (J : SJ) : Int32 := if (minI (4) (atF (I 93) 4 a0)) < (a2 / 5) then 0 else (if (minI (4) (atF (I 93) 4 a1)) < (a2 - a2 / 5 * 5) then 0 else (if (F_X11_isBest (a2 / 5) (a2 - a2 / 5 * 5) (minI (4) (atF (I 93) 4 a0)) I J) = 0 then 0 else (if (F_X11_isBest (a2 - a2 / 5 * 5) (a2 / 5) (minI (4) (atF (I 93) 4 a1)) I J) = 0 then 0 else 1)))
set_option maxHeartbeats 1000000 in
set_option maxRecDepth 40000 in
theorem c_X11_isRest {I : SI} {J : SJ} {R : SR} {n g : Nat} {f : Fr} (ro : RO R) (hnn : nK ≤ n) (hf : f.1 = true) (a0 : Int32) (a1 : Int32) (a2 : Int32)   : MM 2 0 0 mX11_isRest [.ref 0, .int a0, .int a1, .int a2] (eI f I) (eJ f J) R n g (Pd (some (.int (F_X11_isRest a0 a1 a2 I J))) (eI f I) (eJ f J) R n g) := by
  refine MM.of (by decide) (Nat.le_of_ble_eq_true rfl) fun K ok fin => ?_
  show WK K 0 0 0 [(0, .ref 0), (1, .int a0), (2, .int a1), (3, .int a2)] [] (eI f I) (eJ f J) R n g
  refine w_iload_n ok dX11_isRest_0 3 rfl ?_
  refine w_iconst (v := 5) ok dX11_isRest_1 (by decide) ?_
  refine w_idiv ok dX11_isRest_2 (by decide) ?_
  refine w_istore ok dX11_isRest_3 (by decide) rfl ?_
  refine w_iload_n ok dX11_isRest_5 4 rfl ?_
  refine w_iconst (v := 5) ok dX11_isRest_6 (by decide) ?_
  refine w_irem ok dX11_isRest_7 (by decide) ?_
  refine w_istore ok dX11_isRest_8 (by decide) rfl ?_
  refine w_iconst (v := 4) ok dX11_isRest_10 (by decide) ?_
  refine w_aload_n ok dX11_isRest_11 2 rfl ?_
  refine w_getR ok dX11_isRest_12 (fX11_34 rfl) (congrArg Prod.fst s_0) rfl (r_0_4 ro) (ltK hnn (by decide)) ?_
  refine w_getR ok dX11_isRest_15 (fX11_183 rfl) (congrArg Prod.fst s_86) rfl (r_86_13 ro) (ltK hnn (by decide)) ?_
  refine w_iload_n ok dX11_isRest_18 3 rfl ?_
  refine w_cS (As := [.ref 93, .int a0]) ok dX11_isRest_19 iX11_at (lX11_146 rfl) (c_at s_93 (ltK hnn (by decide)) (sdc hf (by decide)) a0) (by decide) rfl (Nat.le_of_ble_eq_true rfl) ?_
  show WK K 0 0 22 [(5, .int (a2 - a2 / 5 * 5)), (4, .int (a2 / 5)), (0, .ref 0), (1, .int a0), (2, .int a1), (3, .int a2)] [.int (atF (I 93) 4 a0), .int 4] (eI f I) (eJ f J) R n g
  refine w_minI ok dX11_isRest_22 (iT_3 62 (by decide +kernel) (by decide +kernel)) (Nat.le_of_ble_eq_true rfl) ?_
  refine w_istore ok dX11_isRest_25 (by decide) rfl ?_
  refine w_iconst (v := 4) ok dX11_isRest_27 (by decide) ?_
  refine w_aload_n ok dX11_isRest_28 3 rfl ?_
  refine w_getR ok dX11_isRest_29 (fX11_34 rfl) (congrArg Prod.fst s_0) rfl (r_0_4 ro) (ltK hnn (by decide)) ?_
  refine w_getR ok dX11_isRest_32 (fX11_183 rfl) (congrArg Prod.fst s_86) rfl (r_86_13 ro) (ltK hnn (by decide)) ?_
  refine w_iload_n ok dX11_isRest_35 5 rfl ?_
  refine w_cS (As := [.ref 93, .int a1]) ok dX11_isRest_36 iX11_at (lX11_146 rfl) (c_at s_93 (ltK hnn (by decide)) (sdc hf (by decide)) a1) (by decide) rfl (Nat.le_of_ble_eq_true rfl) ?_
  show WK K 0 0 39 [(6, .int (minI (4) (atF (I 93) 4 a0))), (5, .int (a2 - a2 / 5 * 5)), (4, .int (a2 / 5)), (0, .ref 0), (1, .int a0), (2, .int a1), (3, .int a2)] [.int (atF (I 93) 4 a1), .int 4] (eI f I) (eJ f J) R n g
  refine w_minI ok dX11_isRest_39 (iT_3 62 (by decide +kernel) (by decide +kernel)) (Nat.le_of_ble_eq_true rfl) ?_
  refine w_istore ok dX11_isRest_42 (by decide) rfl ?_
  refine w_iload ok dX11_isRest_44 3 rfl ?_
  refine w_iload ok dX11_isRest_46 1 rfl ?_
  refine w_icmp_gt (tgt := 86) ok dX11_isRest_48 (by decide) (fun c1 => ?_) (fun c1 => ?_)
  · skip
    refine w_iconst (v := 0) ok dX11_isRest_86 (by decide) ?_
    exact w_zret ok fin dX11_isRest_87 rfl (by decide) (by unfold F_X11_isRest; simp only [if_pos c1]; exact Pd.i)
  · skip
    refine w_iload ok dX11_isRest_51 2 rfl ?_
    refine w_iload ok dX11_isRest_53 0 rfl ?_
    refine w_icmp_gt (tgt := 86) ok dX11_isRest_55 (by decide) (fun c2 => ?_) (fun c2 => ?_)
    · skip
      refine w_iconst (v := 0) ok dX11_isRest_86 (by decide) ?_
      exact w_zret ok fin dX11_isRest_87 rfl (by decide) (by unfold F_X11_isRest; simp only [if_neg c1]; simp only [if_pos c2]; exact Pd.i)
    · skip
      refine w_iload ok dX11_isRest_58 3 rfl ?_
      refine w_iload ok dX11_isRest_60 2 rfl ?_
      refine w_iload ok dX11_isRest_62 1 rfl ?_
      refine w_cS (As := [.int (a2 / 5), .int (a2 - a2 / 5 * 5), .int (minI (4) (atF (I 93) 4 a0))]) ok dX11_isRest_64 iX11_isBest (lX11_308 rfl) (c_X11_isBest ro hnn hf (a2 / 5) (a2 - a2 / 5 * 5) (minI (4) (atF (I 93) 4 a0)) ) (by decide) rfl (Nat.le_of_ble_eq_true rfl) ?_
      refine w_if_eq (tgt := 86) ok dX11_isRest_67 (by decide) (fun c3 => ?_) (fun c3 => ?_)
      · skip
        refine w_iconst (v := 0) ok dX11_isRest_86 (by decide) ?_
        exact w_zret ok fin dX11_isRest_87 rfl (by decide) (by unfold F_X11_isRest; simp only [if_neg c1]; simp only [if_neg c2]; simp only [if_pos c3]; exact Pd.i)
      · skip
        refine w_iload ok dX11_isRest_70 2 rfl ?_
        refine w_iload ok dX11_isRest_72 3 rfl ?_
        refine w_iload ok dX11_isRest_74 0 rfl ?_
        refine w_cS (As := [.int (a2 - a2 / 5 * 5), .int (a2 / 5), .int (minI (4) (atF (I 93) 4 a1))]) ok dX11_isRest_76 iX11_isBest (lX11_308 rfl) (c_X11_isBest ro hnn hf (a2 - a2 / 5 * 5) (a2 / 5) (minI (4) (atF (I 93) 4 a1)) ) (by decide) rfl (Nat.le_of_ble_eq_true rfl) ?_
        refine w_if_eq (tgt := 86) ok dX11_isRest_79 (by decide) (fun c4 => ?_) (fun c4 => ?_)
        · skip
          refine w_iconst (v := 0) ok dX11_isRest_86 (by decide) ?_
          exact w_zret ok fin dX11_isRest_87 rfl (by decide) (by unfold F_X11_isRest; simp only [if_neg c1]; simp only [if_neg c2]; simp only [if_neg c3]; simp only [if_pos c4]; exact Pd.i)
        · skip
          refine w_iconst (v := 1) ok dX11_isRest_82 (by decide) ?_
          refine w_goto (tgt := 87) ok dX11_isRest_83 (by decide) ?_
          exact w_zret ok fin dX11_isRest_87 rfl (by decide) (by unfold F_X11_isRest; simp only [if_neg c1]; simp only [if_neg c2]; simp only [if_neg c3]; simp only [if_neg c4]; exact Pd.i)
def S1_X0_worthOf (a0 : Nat) (a1 : Int32) (a2 : Int32) (a3 : Int32) (a4 : Int32) (a5 : Int32) (I : SI) (J : SJ) : SJ := u2 (u2 (u2 (u2 J 115 0 a1.toInt64) 115 1 a2.toInt64) 115 2 a3.toInt64) 115 3 a4.toInt64
def S2_X0_worthOf (a0 : Nat) (a1 : Int32) (a2 : Int32) (a3 : Int32) (a4 : Int32) (a5 : Int32) (I : SI) (J : SJ) : SJ := u2 (u2 (S1_X0_worthOf a0 a1 a2 a3 a4 a5 I J) 115 4 a5.toInt64) 115 5 ((I 105 0).toInt64)
def S3_X0_worthOf (a0 : Nat) (a1 : Int32) (a2 : Int32) (a3 : Int32) (a4 : Int32) (a5 : Int32) (I : SI) (J : SJ) : SJ := FJ_X1_worth a0 115 7 I (u2 (S2_X0_worthOf a0 a1 a2 a3 a4 a5 I J) 115 6 ((I 105 5).toInt64))
def F_X0_worthOf (a0 : Nat) (a1 : Int32) (a2 : Int32) (a3 : Int32) (a4 : Int32) (a5 : Int32) (I : SI) (J : SJ) : Int64 := if (I a0 0) = 0 then -9223372036854775808 else F_X1_worth a0 115 7 I (u2 (S2_X0_worthOf a0 a1 a2 a3 a4 a5 I J) 115 6 ((I 105 5).toInt64))
def FJ_X0_worthOf (a0 : Nat) (a1 : Int32) (a2 : Int32) (a3 : Int32) (a4 : Int32) (a5 : Int32) (I : SI) (J : SJ) : SJ := if (I a0 0) = 0 then J else (S3_X0_worthOf a0 a1 a2 a3 a4 a5 I J)
def H_X0_worthOf (a0 : Nat) (a1 : Int32) (a2 : Int32) (a3 : Int32) (a4 : Int32) (a5 : Int32) (I : SI) (J : SJ) : Prop := (¬ ((I a0 0) = 0) → H_X1_worth a0 115 7 I (u2 (S2_X0_worthOf a0 a1 a2 a3 a4 a5 I J) 115 6 ((I 105 5).toInt64)))
set_option maxHeartbeats 1000000 in
set_option maxRecDepth 40000 in
theorem c_X0_worthOf {I : SI} {J : SJ} {R : SR} {n g : Nat} {f : Fr} (ro : RO R) (hnn : nK ≤ n) (hf : f.1 = true) {a0 : Nat} (a1 : Int32) (a2 : Int32) (a3 : Int32) (a4 : Int32) (a5 : Int32) (ha0 : IsLw a0)  (hp : H_X0_worthOf a0 a1 a2 a3 a4 a5 I J) : MM 2 0 0 mX0_worthOf [.ref 104, .ref a0, .int a1, .int a2, .int a3, .int a4, .int a5] (eI f I) (eJ f J) R n g (Pd (some (.long (F_X0_worthOf a0 a1 a2 a3 a4 a5 I J))) (eI f I) (eJ f (FJ_X0_worthOf a0 a1 a2 a3 a4 a5 I J)) R n g) := by
  refine MM.of (by decide) (Nat.le_of_ble_eq_true rfl) fun K ok fin => ?_
  show WK K 0 0 0 [(0, .ref 104), (1, .ref a0), (2, .int a1), (3, .int a2), (4, .int a3), (5, .int a4), (6, .int a5)] [] (eI f I) (eJ f J) R n g
  have hp1 := hp
  refine w_aload_n ok dX0_worthOf_0 1 rfl ?_
  refine y_getI ok dX0_worthOf_1 (fX0_233 rfl) (congrArg Prod.fst (sLw ha0)) rfl (ltK hnn (nLw ha0)) (sdc hf (nLw ha0)) ?_
  refine w_if_eq (tgt := 17) ok dX0_worthOf_4 (by decide) (fun c1 => ?_) (fun c1 => ?_)
  · skip
    refine w_ldc2 ok dX0_worthOf_17 kX0_181 ?_
    exact w_lret ok fin dX0_worthOf_20 rfl (by unfold F_X0_worthOf FJ_X0_worthOf; simp only [if_pos c1]; exact Pd.i)
  · skip
    refine w_aload_n ok dX0_worthOf_7 0 rfl ?_
    refine w_getR ok dX0_worthOf_8 (fX0_26 rfl) (congrArg Prod.fst s_104) rfl (r_104_4 ro) (ltK hnn (by decide)) ?_
    refine w_alen (v := 7) ok dX0_worthOf_11 s_115 (by decide) (by decide) (ltK hnn (by decide)) ?_
    refine w_bipush (v := 7) ok dX0_worthOf_12 (by decide) ?_
    refine w_icmp_ge (tgt := 21) ok dX0_worthOf_14 (by decide) (fun _ => ?_) (fun h => absurd (by decide) h)
    refine w_aload_n ok dX0_worthOf_21 0 rfl ?_
    refine w_getR ok dX0_worthOf_22 (fX0_26 rfl) (congrArg Prod.fst s_104) rfl (r_104_4 ro) (ltK hnn (by decide)) ?_
    refine w_iconst (v := 0) ok dX0_worthOf_25 (by decide) ?_
    refine w_iload_n ok dX0_worthOf_26 2 rfl ?_
    refine w_i2l ok dX0_worthOf_27 ?_
    refine y_last (q := 0) ok dX0_worthOf_28 s_115 (by decide) (by decide) (ltK hnn (by decide)) (sdc hf (by decide)) ?_
    refine w_aload_n ok dX0_worthOf_29 0 rfl ?_
    refine w_getR ok dX0_worthOf_30 (fX0_26 rfl) (congrArg Prod.fst s_104) rfl (r_104_4 ro) (ltK hnn (by decide)) ?_
    refine w_iconst (v := 1) ok dX0_worthOf_33 (by decide) ?_
    refine w_iload_n ok dX0_worthOf_34 3 rfl ?_
    refine w_i2l ok dX0_worthOf_35 ?_
    refine y_last (q := 1) ok dX0_worthOf_36 s_115 (by decide) (by decide) (ltK hnn (by decide)) (sdc hf (by decide)) ?_
    refine w_aload_n ok dX0_worthOf_37 0 rfl ?_
    refine w_getR ok dX0_worthOf_38 (fX0_26 rfl) (congrArg Prod.fst s_104) rfl (r_104_4 ro) (ltK hnn (by decide)) ?_
    refine w_iconst (v := 2) ok dX0_worthOf_41 (by decide) ?_
    refine w_iload ok dX0_worthOf_42 4 rfl ?_
    refine w_i2l ok dX0_worthOf_44 ?_
    refine y_last (q := 2) ok dX0_worthOf_45 s_115 (by decide) (by decide) (ltK hnn (by decide)) (sdc hf (by decide)) ?_
    refine w_aload_n ok dX0_worthOf_46 0 rfl ?_
    refine w_getR ok dX0_worthOf_47 (fX0_26 rfl) (congrArg Prod.fst s_104) rfl (r_104_4 ro) (ltK hnn (by decide)) ?_
    refine w_iconst (v := 3) ok dX0_worthOf_50 (by decide) ?_
    refine w_iload ok dX0_worthOf_51 5 rfl ?_
    refine w_i2l ok dX0_worthOf_53 ?_
    refine y_last (q := 3) ok dX0_worthOf_54 s_115 (by decide) (by decide) (ltK hnn (by decide)) (sdc hf (by decide)) ?_
    show WK K 0 0 55 [(0, .ref 104), (1, .ref a0), (2, .int a1), (3, .int a2), (4, .int a3), (5, .int a4), (6, .int a5)] [] (eI f I) (eJ f (S1_X0_worthOf a0 a1 a2 a3 a4 a5 I J)) R n g
    refine w_aload_n ok dX0_worthOf_55 0 rfl ?_
    refine w_getR ok dX0_worthOf_56 (fX0_26 rfl) (congrArg Prod.fst s_104) rfl (r_104_4 ro) (ltK hnn (by decide)) ?_
    refine w_iconst (v := 4) ok dX0_worthOf_59 (by decide) ?_
    refine w_iload ok dX0_worthOf_60 6 rfl ?_
    refine w_i2l ok dX0_worthOf_62 ?_
    refine y_last (q := 4) ok dX0_worthOf_63 s_115 (by decide) (by decide) (ltK hnn (by decide)) (sdc hf (by decide)) ?_
    refine w_aload_n ok dX0_worthOf_64 0 rfl ?_
    refine w_getR ok dX0_worthOf_65 (fX0_26 rfl) (congrArg Prod.fst s_104) rfl (r_104_4 ro) (ltK hnn (by decide)) ?_
    refine w_iconst (v := 5) ok dX0_worthOf_68 (by decide) ?_
    refine w_aload_n ok dX0_worthOf_69 0 rfl ?_
    refine w_getR ok dX0_worthOf_70 (fX0_12 rfl) (congrArg Prod.fst s_104) rfl (r_104_0 ro) (ltK hnn (by decide)) ?_
    refine y_getI ok dX0_worthOf_73 (fX0_93 rfl) (congrArg Prod.fst s_105) rfl (ltK hnn (by decide)) (sdc hf (by decide)) ?_
    refine w_i2l ok dX0_worthOf_76 ?_
    refine y_last (q := 5) ok dX0_worthOf_77 s_115 (by decide) (by decide) (ltK hnn (by decide)) (sdc hf (by decide)) ?_
    show WK K 0 0 78 [(0, .ref 104), (1, .ref a0), (2, .int a1), (3, .int a2), (4, .int a3), (5, .int a4), (6, .int a5)] [] (eI f I) (eJ f (S2_X0_worthOf a0 a1 a2 a3 a4 a5 I J)) R n g
    refine w_aload_n ok dX0_worthOf_78 0 rfl ?_
    refine w_getR ok dX0_worthOf_79 (fX0_26 rfl) (congrArg Prod.fst s_104) rfl (r_104_4 ro) (ltK hnn (by decide)) ?_
    refine w_bipush (v := 6) ok dX0_worthOf_82 (by decide) ?_
    refine w_aload_n ok dX0_worthOf_84 0 rfl ?_
    refine w_getR ok dX0_worthOf_85 (fX0_12 rfl) (congrArg Prod.fst s_104) rfl (r_104_0 ro) (ltK hnn (by decide)) ?_
    refine y_getI ok dX0_worthOf_88 (fX0_74 rfl) (congrArg Prod.fst s_105) rfl (ltK hnn (by decide)) (sdc hf (by decide)) ?_
    refine w_i2l ok dX0_worthOf_91 ?_
    refine y_last (q := 6) ok dX0_worthOf_92 s_115 (by decide) (by decide) (ltK hnn (by decide)) (sdc hf (by decide)) ?_
    refine w_aload_n ok dX0_worthOf_93 1 rfl ?_
    refine w_aload_n ok dX0_worthOf_94 0 rfl ?_
    refine w_getR ok dX0_worthOf_95 (fX0_26 rfl) (congrArg Prod.fst s_104) rfl (r_104_4 ro) (ltK hnn (by decide)) ?_
    refine w_cV (As := [.ref 115]) ok dX0_worthOf_98 iX1_worth (lX0_235 rfl) (rcv cls1 (congrArg Prod.fst (sLw ha0))) (ltK hnn (nLw ha0)) (c_X1_worth ro hnn hf  ha0 s_115 (ltK hnn (by decide)) (sdc hf (by decide)) (sh_len s_115) (hp1 c1)) (by decide) rfl (Nat.le_of_ble_eq_true rfl) ?_
    show WK K 0 0 101 [(0, .ref 104), (1, .ref a0), (2, .int a1), (3, .int a2), (4, .int a3), (5, .int a4), (6, .int a5)] [.long (F_X1_worth a0 115 7 I (u2 (S2_X0_worthOf a0 a1 a2 a3 a4 a5 I J) 115 6 ((I 105 5).toInt64)))] (eI f I) (eJ f (S3_X0_worthOf a0 a1 a2 a3 a4 a5 I J)) R n g
    exact w_lret ok fin dX0_worthOf_101 rfl (by unfold F_X0_worthOf FJ_X0_worthOf; simp only [if_neg c1]; exact Pd.i)
def FI_X4_begin (a0 : Int32) (I : SI) (J : SJ) : SI := if a0 = 0 then FI_X8_step  I J else FI_X8_step  (FI_X4_fail 2 I J) J
def H_X4_begin (a0 : Int32) (I : SI) (J : SJ) : Prop := (a0 = 0 → H_X8_step  I J) ∧ (¬ (a0 = 0) → H_X8_step  (FI_X4_fail 2 I J) J)
set_option maxHeartbeats 1000000 in
set_option maxRecDepth 40000 in
theorem c_X4_begin {I : SI} {J : SJ} {R : SR} {n g : Nat} {f : Fr} (ro : RO R) (hnn : nK ≤ n) (hf : f.1 = true) (a0 : Int32) (htp : R 81 1 = some 1)  (hp : H_X4_begin a0 I J) : MM 3 0 0 mX4_begin [.ref 41, .int a0] (eI f I) (eJ f J) R n g (Pd none (eI f (FI_X4_begin a0 I J)) (eJ f J) R n g) := by
  refine MM.of (by decide) (Nat.le_of_ble_eq_true rfl) fun K ok fin => ?_
  show WK K 0 0 0 [(0, .ref 41), (1, .int a0)] [] (eI f I) (eJ f J) R n g
  obtain ⟨hp1, hp2⟩ := hp
  refine w_iload_n ok dX4_begin_0 1 rfl ?_
  refine w_if_eq (tgt := 9) ok dX4_begin_1 (by decide) (fun c1 => ?_) (fun c1 => ?_)
  · skip
    refine w_aload_n ok dX4_begin_9 0 rfl ?_
    refine w_getR ok dX4_begin_10 (fX4_28 rfl) (congrArg Prod.fst s_41) rfl (r_41_3 ro) (ltK hnn (by decide)) ?_
    refine w_cV (As := []) ok dX4_begin_13 iX8_step (lX4_65 rfl) (rcv cls8 (congrArg Prod.fst s_81)) (ltK hnn (by decide)) (c_X8_step ro hnn hf  htp (hp1 c1)) (by decide) rfl (Nat.le_of_ble_eq_true rfl) ?_
    exact w_vret ok fin dX4_begin_16 rfl (by unfold FI_X4_begin; simp only [if_pos c1]; exact Pd.i)
  · skip
    refine w_aload_n ok dX4_begin_4 0 rfl ?_
    refine w_iconst (v := 2) ok dX4_begin_5 (by decide) ?_
    refine w_cV (As := [.int 2]) ok dX4_begin_6 iX4_fail (lX4_58 rfl) (rcv cls4 (congrArg Prod.fst s_41)) (ltK hnn (by decide)) (c_X4_fail ro hnn hf 2 ) (by decide) rfl (Nat.le_of_ble_eq_true rfl) ?_
    refine w_aload_n ok dX4_begin_9 0 rfl ?_
    refine w_getR ok dX4_begin_10 (fX4_28 rfl) (congrArg Prod.fst s_41) rfl (r_41_3 ro) (ltK hnn (by decide)) ?_
    refine w_cV (As := []) ok dX4_begin_13 iX8_step (lX4_65 rfl) (rcv cls8 (congrArg Prod.fst s_81)) (ltK hnn (by decide)) (c_X8_step ro hnn hf  htp (hp2 c1)) (by decide) rfl (Nat.le_of_ble_eq_true rfl) ?_
    exact w_vret ok fin dX4_begin_16 rfl (by unfold FI_X4_begin; simp only [if_neg c1]; exact Pd.i)
def F_X4_fresh (a0 : Nat) (I : SI) (J : SJ) : Int32 := if (I 81 5) = 3 then (if (F_X7_find a0 (I 81 6) I J) < 0 then I 81 6 else I 81 6) else I 81 6
def FI_X4_fresh (a0 : Nat) (I : SI) (J : SJ) : SI := if (I 81 5) = 3 then (if (F_X7_find a0 (I 81 6) I J) < 0 then FI_X8_step  I J else FI_X8_step  (FI_X4_fail 3 I J) J) else FI_X8_step  (FI_X4_fail 1 I J) J
def H_X4_fresh (a0 : Nat) (I : SI) (J : SJ) : Prop := ((I 81 5) = 3 → (F_X7_find a0 (I 81 6) I J) < 0 → H_X8_step  I J) ∧ ((I 81 5) = 3 → ¬ ((F_X7_find a0 (I 81 6) I J) < 0) → H_X8_step  (FI_X4_fail 3 I J) J) ∧ (¬ ((I 81 5) = 3) → H_X8_step  (FI_X4_fail 1 I J) J)
set_option maxHeartbeats 1000000 in
set_option maxRecDepth 40000 in
theorem c_X4_fresh {I : SI} {J : SJ} {R : SR} {n g : Nat} {f : Fr} (ro : RO R) (hnn : nK ≤ n) (hf : f.1 = true) {a0 : Nat} (ha0 : IsTb a0) (htp : R 81 1 = some 1)  (hp : H_X4_fresh a0 I J) : MM 3 0 0 mX4_fresh [.ref 41, .ref a0] (eI f I) (eJ f J) R n g (Pd (some (.int (F_X4_fresh a0 I J))) (eI f (FI_X4_fresh a0 I J)) (eJ f J) R n g) := by
  refine MM.of (by decide) (Nat.le_of_ble_eq_true rfl) fun K ok fin => ?_
  show WK K 0 0 0 [(0, .ref 41), (1, .ref a0)] [] (eI f I) (eJ f J) R n g
  obtain ⟨hp1, hp2, hp3⟩ := hp
  refine w_aload_n ok dX4_fresh_0 0 rfl ?_
  refine w_getR ok dX4_fresh_1 (fX4_28 rfl) (congrArg Prod.fst s_41) rfl (r_41_3 ro) (ltK hnn (by decide)) ?_
  refine y_getI ok dX4_fresh_4 (fX4_167 rfl) (congrArg Prod.fst s_81) rfl (ltK hnn (by decide)) (sdc hf (by decide)) ?_
  refine w_istore_n ok dX4_fresh_7 rfl (by decide) rfl ?_
  refine w_aload_n ok dX4_fresh_8 1 rfl ?_
  refine w_getR ok dX4_fresh_9 (fX4_28 rfl) (congrArg Prod.fst s_41) rfl (r_41_3 ro) (ltK hnn (by decide)) ?_
  refine y_getI ok dX4_fresh_12 (fX4_52 rfl) (congrArg Prod.fst s_81) rfl (ltK hnn (by decide)) (sdc hf (by decide)) ?_
  refine w_iconst (v := 3) ok dX4_fresh_15 (by decide) ?_
  refine w_icmp_eq (tgt := 27) ok dX4_fresh_16 (by decide) (fun c1 => ?_) (fun c1 => ?_)
  · skip
    refine w_aload_n ok dX4_fresh_27 2 rfl ?_
    refine w_iload_n ok dX4_fresh_28 0 rfl ?_
    refine w_cV (As := [.int (I 81 6)]) ok dX4_fresh_29 iX7_find (lX4_170 rfl) (rcv cls7 (congrArg Prod.fst (sTb ha0))) (ltK hnn (nTb ha0)) (c_X7_find ro hnn hf (I 81 6) ha0) (by decide) rfl (Nat.le_of_ble_eq_true rfl) ?_
    refine w_if_lt (tgt := 40) ok dX4_fresh_32 (by decide) (fun c2 => ?_) (fun c2 => ?_)
    · skip
      refine w_aload_n ok dX4_fresh_40 1 rfl ?_
      refine w_getR ok dX4_fresh_41 (fX4_28 rfl) (congrArg Prod.fst s_41) rfl (r_41_3 ro) (ltK hnn (by decide)) ?_
      refine w_cV (As := []) ok dX4_fresh_44 iX8_step (lX4_65 rfl) (rcv cls8 (congrArg Prod.fst s_81)) (ltK hnn (by decide)) (c_X8_step ro hnn hf  htp (hp1 c1 c2)) (by decide) rfl (Nat.le_of_ble_eq_true rfl) ?_
      refine w_iload_n ok dX4_fresh_47 0 rfl ?_
      exact w_iret ok fin dX4_fresh_48 rfl (by unfold F_X4_fresh FI_X4_fresh; simp only [if_pos c1]; simp only [if_pos c2]; exact Pd.i)
    · skip
      refine w_aload_n ok dX4_fresh_35 1 rfl ?_
      refine w_iconst (v := 3) ok dX4_fresh_36 (by decide) ?_
      refine w_cV (As := [.int 3]) ok dX4_fresh_37 iX4_fail (lX4_58 rfl) (rcv cls4 (congrArg Prod.fst s_41)) (ltK hnn (by decide)) (c_X4_fail ro hnn hf 3 ) (by decide) rfl (Nat.le_of_ble_eq_true rfl) ?_
      refine w_aload_n ok dX4_fresh_40 1 rfl ?_
      refine w_getR ok dX4_fresh_41 (fX4_28 rfl) (congrArg Prod.fst s_41) rfl (r_41_3 ro) (ltK hnn (by decide)) ?_
      refine w_cV (As := []) ok dX4_fresh_44 iX8_step (lX4_65 rfl) (rcv cls8 (congrArg Prod.fst s_81)) (ltK hnn (by decide)) (c_X8_step ro hnn hf  htp (hp2 c1 c2)) (by decide) rfl (Nat.le_of_ble_eq_true rfl) ?_
      refine w_iload_n ok dX4_fresh_47 0 rfl ?_
      exact w_iret ok fin dX4_fresh_48 rfl (by unfold F_X4_fresh FI_X4_fresh; simp only [if_pos c1]; simp only [if_neg c2]; exact Pd.i)
  · skip
    refine w_aload_n ok dX4_fresh_19 1 rfl ?_
    refine w_iconst (v := 1) ok dX4_fresh_20 (by decide) ?_
    refine w_cV (As := [.int 1]) ok dX4_fresh_21 iX4_fail (lX4_58 rfl) (rcv cls4 (congrArg Prod.fst s_41)) (ltK hnn (by decide)) (c_X4_fail ro hnn hf 1 ) (by decide) rfl (Nat.le_of_ble_eq_true rfl) ?_
    refine w_goto (tgt := 40) ok dX4_fresh_24 (by decide) ?_
    refine w_aload_n ok dX4_fresh_40 1 rfl ?_
    refine w_getR ok dX4_fresh_41 (fX4_28 rfl) (congrArg Prod.fst s_41) rfl (r_41_3 ro) (ltK hnn (by decide)) ?_
    refine w_cV (As := []) ok dX4_fresh_44 iX8_step (lX4_65 rfl) (rcv cls8 (congrArg Prod.fst s_81)) (ltK hnn (by decide)) (c_X8_step ro hnn hf  htp (hp3 c1)) (by decide) rfl (Nat.le_of_ble_eq_true rfl) ?_
    refine w_iload_n ok dX4_fresh_47 0 rfl ?_
    exact w_iret ok fin dX4_fresh_48 rfl (by unfold F_X4_fresh FI_X4_fresh; simp only [if_neg c1]; exact Pd.i)
def F_X4_number (a0 : Int32) (a1 : Int32) (I : SI) (J : SJ) : Int32 := if (I 81 5) = 2 then (if (I 81 6) < a0 then I 81 6 else (if (I 81 6) ≤ a1 then I 81 6 else I 81 6)) else I 81 6
def FI_X4_number (a0 : Int32) (a1 : Int32) (I : SI) (J : SJ) : SI := if (I 81 5) = 2 then (if (I 81 6) < a0 then FI_X8_step  (FI_X4_fail 2 I J) J else (if (I 81 6) ≤ a1 then FI_X8_step  I J else FI_X8_step  (FI_X4_fail 2 I J) J)) else FI_X8_step  (FI_X4_fail 1 I J) J
def H_X4_number (a0 : Int32) (a1 : Int32) (I : SI) (J : SJ) : Prop := ((I 81 5) = 2 → (I 81 6) < a0 → H_X8_step  (FI_X4_fail 2 I J) J) ∧ ((I 81 5) = 2 → ¬ ((I 81 6) < a0) → (I 81 6) ≤ a1 → H_X8_step  I J) ∧ ((I 81 5) = 2 → ¬ ((I 81 6) < a0) → ¬ ((I 81 6) ≤ a1) → H_X8_step  (FI_X4_fail 2 I J) J) ∧ (¬ ((I 81 5) = 2) → H_X8_step  (FI_X4_fail 1 I J) J)
set_option maxHeartbeats 1000000 in
set_option maxRecDepth 40000 in
theorem c_X4_number {I : SI} {J : SJ} {R : SR} {n g : Nat} {f : Fr} (ro : RO R) (hnn : nK ≤ n) (hf : f.1 = true) (a0 : Int32) (a1 : Int32) (htp : R 81 1 = some 1)  (hp : H_X4_number a0 a1 I J) : MM 3 0 0 mX4_number [.ref 41, .int a0, .int a1] (eI f I) (eJ f J) R n g (Pd (some (.int (F_X4_number a0 a1 I J))) (eI f (FI_X4_number a0 a1 I J)) (eJ f J) R n g) := by
  refine MM.of (by decide) (Nat.le_of_ble_eq_true rfl) fun K ok fin => ?_
  show WK K 0 0 0 [(0, .ref 41), (1, .int a0), (2, .int a1)] [] (eI f I) (eJ f J) R n g
  obtain ⟨hp1, hp2, hp3, hp4⟩ := hp
  refine w_aload_n ok dX4_number_0 0 rfl ?_
  refine w_getR ok dX4_number_1 (fX4_28 rfl) (congrArg Prod.fst s_41) rfl (r_41_3 ro) (ltK hnn (by decide)) ?_
  refine y_getI ok dX4_number_4 (fX4_167 rfl) (congrArg Prod.fst s_81) rfl (ltK hnn (by decide)) (sdc hf (by decide)) ?_
  refine w_istore_n ok dX4_number_7 rfl (by decide) rfl ?_
  refine w_aload_n ok dX4_number_8 1 rfl ?_
  refine w_getR ok dX4_number_9 (fX4_28 rfl) (congrArg Prod.fst s_41) rfl (r_41_3 ro) (ltK hnn (by decide)) ?_
  refine y_getI ok dX4_number_12 (fX4_52 rfl) (congrArg Prod.fst s_81) rfl (ltK hnn (by decide)) (sdc hf (by decide)) ?_
  refine w_iconst (v := 2) ok dX4_number_15 (by decide) ?_
  refine w_icmp_eq (tgt := 27) ok dX4_number_16 (by decide) (fun c1 => ?_) (fun c1 => ?_)
  · skip
    refine w_iload_n ok dX4_number_27 0 rfl ?_
    refine w_iload_n ok dX4_number_28 2 rfl ?_
    refine w_icmp_lt (tgt := 37) ok dX4_number_29 (by decide) (fun c2 => ?_) (fun c2 => ?_)
    · skip
      refine w_aload_n ok dX4_number_37 1 rfl ?_
      refine w_iconst (v := 2) ok dX4_number_38 (by decide) ?_
      refine w_cV (As := [.int 2]) ok dX4_number_39 iX4_fail (lX4_58 rfl) (rcv cls4 (congrArg Prod.fst s_41)) (ltK hnn (by decide)) (c_X4_fail ro hnn hf 2 ) (by decide) rfl (Nat.le_of_ble_eq_true rfl) ?_
      refine w_aload_n ok dX4_number_42 1 rfl ?_
      refine w_getR ok dX4_number_43 (fX4_28 rfl) (congrArg Prod.fst s_41) rfl (r_41_3 ro) (ltK hnn (by decide)) ?_
      refine w_cV (As := []) ok dX4_number_46 iX8_step (lX4_65 rfl) (rcv cls8 (congrArg Prod.fst s_81)) (ltK hnn (by decide)) (c_X8_step ro hnn hf  htp (hp1 c1 c2)) (by decide) rfl (Nat.le_of_ble_eq_true rfl) ?_
      refine w_iload_n ok dX4_number_49 0 rfl ?_
      exact w_iret ok fin dX4_number_50 rfl (by unfold F_X4_number FI_X4_number; simp only [if_pos c1]; simp only [if_pos c2]; exact Pd.i)
    · skip
      refine w_iload_n ok dX4_number_32 0 rfl ?_
      refine w_iload_n ok dX4_number_33 3 rfl ?_
      refine w_icmp_le (tgt := 42) ok dX4_number_34 (by decide) (fun c3 => ?_) (fun c3 => ?_)
      · skip
        refine w_aload_n ok dX4_number_42 1 rfl ?_
        refine w_getR ok dX4_number_43 (fX4_28 rfl) (congrArg Prod.fst s_41) rfl (r_41_3 ro) (ltK hnn (by decide)) ?_
        refine w_cV (As := []) ok dX4_number_46 iX8_step (lX4_65 rfl) (rcv cls8 (congrArg Prod.fst s_81)) (ltK hnn (by decide)) (c_X8_step ro hnn hf  htp (hp2 c1 c2 c3)) (by decide) rfl (Nat.le_of_ble_eq_true rfl) ?_
        refine w_iload_n ok dX4_number_49 0 rfl ?_
        exact w_iret ok fin dX4_number_50 rfl (by unfold F_X4_number FI_X4_number; simp only [if_pos c1]; simp only [if_neg c2]; simp only [if_pos c3]; exact Pd.i)
      · skip
        refine w_aload_n ok dX4_number_37 1 rfl ?_
        refine w_iconst (v := 2) ok dX4_number_38 (by decide) ?_
        refine w_cV (As := [.int 2]) ok dX4_number_39 iX4_fail (lX4_58 rfl) (rcv cls4 (congrArg Prod.fst s_41)) (ltK hnn (by decide)) (c_X4_fail ro hnn hf 2 ) (by decide) rfl (Nat.le_of_ble_eq_true rfl) ?_
        refine w_aload_n ok dX4_number_42 1 rfl ?_
        refine w_getR ok dX4_number_43 (fX4_28 rfl) (congrArg Prod.fst s_41) rfl (r_41_3 ro) (ltK hnn (by decide)) ?_
        refine w_cV (As := []) ok dX4_number_46 iX8_step (lX4_65 rfl) (rcv cls8 (congrArg Prod.fst s_81)) (ltK hnn (by decide)) (c_X8_step ro hnn hf  htp (hp3 c1 c2 c3)) (by decide) rfl (Nat.le_of_ble_eq_true rfl) ?_
        refine w_iload_n ok dX4_number_49 0 rfl ?_
        exact w_iret ok fin dX4_number_50 rfl (by unfold F_X4_number FI_X4_number; simp only [if_pos c1]; simp only [if_neg c2]; simp only [if_neg c3]; exact Pd.i)
  · skip
    refine w_aload_n ok dX4_number_19 1 rfl ?_
    refine w_iconst (v := 1) ok dX4_number_20 (by decide) ?_
    refine w_cV (As := [.int 1]) ok dX4_number_21 iX4_fail (lX4_58 rfl) (rcv cls4 (congrArg Prod.fst s_41)) (ltK hnn (by decide)) (c_X4_fail ro hnn hf 1 ) (by decide) rfl (Nat.le_of_ble_eq_true rfl) ?_
    refine w_goto (tgt := 42) ok dX4_number_24 (by decide) ?_
    refine w_aload_n ok dX4_number_42 1 rfl ?_
    refine w_getR ok dX4_number_43 (fX4_28 rfl) (congrArg Prod.fst s_41) rfl (r_41_3 ro) (ltK hnn (by decide)) ?_
    refine w_cV (As := []) ok dX4_number_46 iX8_step (lX4_65 rfl) (rcv cls8 (congrArg Prod.fst s_81)) (ltK hnn (by decide)) (c_X8_step ro hnn hf  htp (hp4 c1)) (by decide) rfl (Nat.le_of_ble_eq_true rfl) ?_
    refine w_iload_n ok dX4_number_49 0 rfl ?_
    exact w_iret ok fin dX4_number_50 rfl (by unfold F_X4_number FI_X4_number; simp only [if_neg c1]; exact Pd.i)
def T_X4_operand_j46 (a0 : Nat) (I : SI) (J : SJ) : SI := if ((FI_X4_knot  I J) 81 6) ≤ 9999 then (FI_X4_knot  I J) else (FI_X4_fail 2 (FI_X4_knot  I J) J)
def S1_X4_operand (a0 : Nat) (I : SI) (J : SJ) : SI := FI_X1_add a0 (I 81 5) (((T_X4_operand_j46 a0 I J)) 81 6) (T_X4_operand_j46 a0 I J) J
def T_X4_operand_j88 (a0 : Nat) (I : SI) (J : SJ) : SI := if (I 41 7) < 8 then I else (FI_X4_fail 2 I J)
def S2_X4_operand (a0 : Nat) (I : SI) (J : SJ) : SI := u2 (T_X4_operand_j88 a0 I J) 41 7 ((((T_X4_operand_j88 a0 I J)) 41 7) + 1)
def F_X4_operand (a0 : Nat) (I : SI) (J : SJ) : Int32 := if (I 81 5) = 2 then 0 else (if (I 81 5) < 36 then (if (I 81 5) = 5 then 1 else (if (I 81 5) = 35 then (if (F_X4_rank 35 I J) < (F_X4_topRank  I J) then 1 else 1) else 1)) else 0)
def FI_X4_operand (a0 : Nat) (I : SI) (J : SJ) : SI := if (I 81 5) = 2 then (S1_X4_operand a0 I J) else (if (I 81 5) < 36 then (if (I 81 5) = 5 then FI_X4_hold (I 81 5) (S2_X4_operand a0 I J) J else (if (I 81 5) = 35 then (if (F_X4_rank 35 I J) < (F_X4_topRank  I J) then FI_X4_fail 1 I J else FI_X4_hold (I 81 5) (FI_X4_knot  I J) J) else FI_X4_fail 1 I J)) else FI_X1_add a0 (I 81 5) 0 (FI_X4_knot  I J) J)
def H_X4_operand (a0 : Nat) (I : SI) (J : SJ) : Prop := ((I 81 5) = 2 → H_X1_add a0 (I 81 5) (((T_X4_operand_j46 a0 I J)) 81 6) (T_X4_operand_j46 a0 I J) J) ∧ (¬ ((I 81 5) = 2) → (I 81 5) < 36 → ¬ ((I 81 5) = 5) → (I 81 5) = 35 → H_X4_topRank  I J) ∧ (¬ ((I 81 5) = 2) → ¬ ((I 81 5) < 36) → H_X1_add a0 (I 81 5) 0 (FI_X4_knot  I J) J)
set_option maxHeartbeats 1410000 in
set_option maxRecDepth 40000 in
theorem c_X4_operand {I : SI} {J : SJ} {R : SR} {n g : Nat} {f : Fr} (ro : RO R) (hnn : nK ≤ n) (hf : f.1 = true) {a0 : Nat} (ha0 : IsLw a0)  (hp : H_X4_operand a0 I J) : MM 2 0 0 mX4_operand [.ref 41, .ref a0] (eI f I) (eJ f J) R n g (Pd (some (.int (F_X4_operand a0 I J))) (eI f (FI_X4_operand a0 I J)) (eJ f J) R n g) := by
  refine MM.of (by decide) (Nat.le_of_ble_eq_true rfl) fun K ok fin => ?_
  show WK K 0 0 0 [(0, .ref 41), (1, .ref a0)] [] (eI f I) (eJ f J) R n g
  obtain ⟨hp1, hp2, hp3⟩ := hp
  refine w_aload_n ok dX4_operand_0 0 rfl ?_
  refine w_getR ok dX4_operand_1 (fX4_28 rfl) (congrArg Prod.fst s_41) rfl (r_41_3 ro) (ltK hnn (by decide)) ?_
  refine y_getI ok dX4_operand_4 (fX4_52 rfl) (congrArg Prod.fst s_81) rfl (ltK hnn (by decide)) (sdc hf (by decide)) ?_
  refine w_istore_n ok dX4_operand_7 rfl (by decide) rfl ?_
  refine w_iload_n ok dX4_operand_8 0 rfl ?_
  refine w_iconst (v := 2) ok dX4_operand_9 (by decide) ?_
  refine w_icmp_eq (tgt := 19) ok dX4_operand_10 (by decide) (fun c1 => ?_) (fun c1 => ?_)
  · skip
    refine w_aload_n ok dX4_operand_19 1 rfl ?_
    refine w_cV (As := []) ok dX4_operand_20 iX4_knot (lX4_203 rfl) (rcv cls4 (congrArg Prod.fst s_41)) (ltK hnn (by decide)) (c_X4_knot ro hnn hf  ) (by decide) rfl (Nat.le_of_ble_eq_true rfl) ?_
    refine w_iload_n ok dX4_operand_23 0 rfl ?_
    refine w_iconst (v := 2) ok dX4_operand_24 (by decide) ?_
    refine w_icmp_ne (tgt := 46) ok dX4_operand_25 (by decide) (fun h => absurd c1 h) (fun _ => ?_)
    refine w_aload_n ok dX4_operand_28 1 rfl ?_
    refine w_getR ok dX4_operand_29 (fX4_28 rfl) (congrArg Prod.fst s_41) rfl (r_41_3 ro) (ltK hnn (by decide)) ?_
    refine y_getI ok dX4_operand_32 (fX4_167 rfl) (congrArg Prod.fst s_81) rfl (ltK hnn (by decide)) (sdc hf (by decide)) ?_
    refine w_sipush (v := 9999) ok dX4_operand_35 (by decide) ?_
    have jn2 : WK K 0 0 46 [(0, .ref 41), (1, .ref a0), (2, .int (I 81 5))] [] (eI f (T_X4_operand_j46 a0 I J)) (eJ f J) R n g := by
      refine w_aload_n ok dX4_operand_46 1 rfl ?_
      refine w_iload_n ok dX4_operand_47 2 rfl ?_
      refine w_iload_n ok dX4_operand_48 2 rfl ?_
      refine w_iconst (v := 2) ok dX4_operand_49 (by decide) ?_
      refine w_icmp_ne (tgt := 63) ok dX4_operand_50 (by decide) (fun h => absurd c1 h) (fun _ => ?_)
      refine w_aload_n ok dX4_operand_53 0 rfl ?_
      refine w_getR ok dX4_operand_54 (fX4_28 rfl) (congrArg Prod.fst s_41) rfl (r_41_3 ro) (ltK hnn (by decide)) ?_
      refine y_getI ok dX4_operand_57 (fX4_167 rfl) (congrArg Prod.fst s_81) rfl (ltK hnn (by decide)) (sdc hf (by decide)) ?_
      refine w_goto (tgt := 64) ok dX4_operand_60 (by decide) ?_
      refine w_cV (As := [.int (I 81 5), .int (((T_X4_operand_j46 a0 I J)) 81 6)]) ok dX4_operand_64 iX1_add (lX4_206 rfl) (rcv cls1 (congrArg Prod.fst (sLw ha0))) (ltK hnn (nLw ha0)) (c_X1_add ro hnn hf (I 81 5) (((T_X4_operand_j46 a0 I J)) 81 6) ha0 (hp1 c1)) (by decide) rfl (Nat.le_of_ble_eq_true rfl) ?_
      show WK K 0 0 67 [(0, .ref 41), (1, .ref a0), (2, .int (I 81 5))] [] (eI f (S1_X4_operand a0 I J)) (eJ f J) R n g
      refine w_iconst (v := 0) ok dX4_operand_67 (by decide) ?_
      exact w_zret ok fin dX4_operand_68 rfl (by decide) (by unfold F_X4_operand FI_X4_operand; simp only [if_pos c1]; exact Pd.i)
    refine w_icmp_le (tgt := 46) ok dX4_operand_38 (by decide) (fun c3 => ?_) (fun c3 => ?_)
    · skip
      have eT : (T_X4_operand_j46 a0 I J) = (FI_X4_knot  I J) := by
        unfold T_X4_operand_j46; exact (if_pos c3).trans (rfl)
      refine w_loc [1, 2, 0] rfl ?_
      have jj := jn2
      rw [eT] at jj
      exact jj
    · skip
      refine w_aload_n ok dX4_operand_41 1 rfl ?_
      refine w_iconst (v := 2) ok dX4_operand_42 (by decide) ?_
      refine w_cV (As := [.int 2]) ok dX4_operand_43 iX4_fail (lX4_58 rfl) (rcv cls4 (congrArg Prod.fst s_41)) (ltK hnn (by decide)) (c_X4_fail ro hnn hf 2 ) (by decide) rfl (Nat.le_of_ble_eq_true rfl) ?_
      have eT : (T_X4_operand_j46 a0 I J) = (FI_X4_fail 2 (FI_X4_knot  I J) J) := by
        unfold T_X4_operand_j46; exact (if_neg c3).trans (rfl)
      refine w_loc [1, 2, 0] rfl ?_
      have jj := jn2
      rw [eT] at jj
      exact jj
  · skip
    refine w_iload_n ok dX4_operand_13 0 rfl ?_
    refine w_bipush (v := 36) ok dX4_operand_14 (by decide) ?_
    refine w_icmp_lt (tgt := 69) ok dX4_operand_16 (by decide) (fun c4 => ?_) (fun c4 => ?_)
    · skip
      refine w_iload_n ok dX4_operand_69 0 rfl ?_
      refine w_iconst (v := 5) ok dX4_operand_70 (by decide) ?_
      refine w_icmp_ne (tgt := 106) ok dX4_operand_71 (by decide) (fun c5 => ?_) (fun c5 => ?_)
      · skip
        refine w_iload_n ok dX4_operand_106 0 rfl ?_
        refine w_bipush (v := 35) ok dX4_operand_107 (by decide) ?_
        refine w_icmp_ne (tgt := 136) ok dX4_operand_109 (by decide) (fun c6 => ?_) (fun c6 => ?_)
        · skip
          refine w_aload_n ok dX4_operand_136 1 rfl ?_
          refine w_iconst (v := 1) ok dX4_operand_137 (by decide) ?_
          refine w_cV (As := [.int 1]) ok dX4_operand_138 iX4_fail (lX4_58 rfl) (rcv cls4 (congrArg Prod.fst s_41)) (ltK hnn (by decide)) (c_X4_fail ro hnn hf 1 ) (by decide) rfl (Nat.le_of_ble_eq_true rfl) ?_
          refine w_iconst (v := 1) ok dX4_operand_141 (by decide) ?_
          exact w_zret ok fin dX4_operand_142 rfl (by decide) (by unfold F_X4_operand FI_X4_operand; simp only [if_neg c1]; simp only [if_pos c4]; simp only [if_neg c5]; simp only [if_neg c6]; exact Pd.i)
        · skip
          refine w_aload_n ok dX4_operand_112 1 rfl ?_
          refine w_cV (As := []) ok dX4_operand_113 iX4_topRank (lX4_212 rfl) (rcv cls4 (congrArg Prod.fst s_41)) (ltK hnn (by decide)) (c_X4_topRank ro hnn hf   (hp2 c1 c4 c5 c6)) (by decide) rfl (Nat.le_of_ble_eq_true rfl) ?_
          refine w_bipush (v := 35) ok dX4_operand_116 (by decide) ?_
          refine w_cS (As := [.int 35]) ok dX4_operand_118 iX4_rank (lX4_216 rfl) (c_X4_rank ro hnn hf 35 ) (by decide) rfl (Nat.le_of_ble_eq_true rfl) ?_
          show WK K 0 0 121 [(2, .int (I 81 5)), (0, .ref 41), (1, .ref a0)] [.int (F_X4_rank 35 I J), .int (F_X4_topRank  I J)] (eI f I) (eJ f J) R n g
          refine w_icmp_gt (tgt := 136) ok dX4_operand_121 (by decide) (fun c7 => ?_) (fun c7 => ?_)
          · skip
            refine w_aload_n ok dX4_operand_136 1 rfl ?_
            refine w_iconst (v := 1) ok dX4_operand_137 (by decide) ?_
            refine w_cV (As := [.int 1]) ok dX4_operand_138 iX4_fail (lX4_58 rfl) (rcv cls4 (congrArg Prod.fst s_41)) (ltK hnn (by decide)) (c_X4_fail ro hnn hf 1 ) (by decide) rfl (Nat.le_of_ble_eq_true rfl) ?_
            refine w_iconst (v := 1) ok dX4_operand_141 (by decide) ?_
            exact w_zret ok fin dX4_operand_142 rfl (by decide) (by unfold F_X4_operand FI_X4_operand; simp only [if_neg c1]; simp only [if_pos c4]; simp only [if_neg c5]; simp only [if_pos c6]; simp only [if_pos c7]; exact Pd.i)
          · skip
            refine w_aload_n ok dX4_operand_124 1 rfl ?_
            refine w_cV (As := []) ok dX4_operand_125 iX4_knot (lX4_203 rfl) (rcv cls4 (congrArg Prod.fst s_41)) (ltK hnn (by decide)) (c_X4_knot ro hnn hf  ) (by decide) rfl (Nat.le_of_ble_eq_true rfl) ?_
            refine w_aload_n ok dX4_operand_128 1 rfl ?_
            refine w_iload_n ok dX4_operand_129 0 rfl ?_
            refine w_cV (As := [.int (I 81 5)]) ok dX4_operand_130 iX4_hold (lX4_209 rfl) (rcv cls4 (congrArg Prod.fst s_41)) (ltK hnn (by decide)) (c_X4_hold ro hnn hf (I 81 5) ) (by decide) rfl (Nat.le_of_ble_eq_true rfl) ?_
            refine w_goto (tgt := 141) ok dX4_operand_133 (by decide) ?_
            refine w_iconst (v := 1) ok dX4_operand_141 (by decide) ?_
            exact w_zret ok fin dX4_operand_142 rfl (by decide) (by unfold F_X4_operand FI_X4_operand; simp only [if_neg c1]; simp only [if_pos c4]; simp only [if_neg c5]; simp only [if_pos c6]; simp only [if_neg c7]; exact Pd.i)
      · skip
        refine w_aload_n ok dX4_operand_74 1 rfl ?_
        refine y_getI ok dX4_operand_75 (fX4_42 rfl) (congrArg Prod.fst s_41) rfl (ltK hnn (by decide)) (sdc hf (by decide)) ?_
        refine w_bipush (v := 8) ok dX4_operand_78 (by decide) ?_
        have jn8 : WK K 0 0 88 [(0, .ref 41), (1, .ref a0), (2, .int (I 81 5))] [] (eI f (T_X4_operand_j88 a0 I J)) (eJ f J) R n g := by
          refine w_aload_n ok dX4_operand_88 0 rfl ?_
          refine w_dup ok dX4_operand_89 rfl ?_
          refine y_getI ok dX4_operand_90 (fX4_42 rfl) (congrArg Prod.fst s_41) rfl (ltK hnn (by decide)) (sdc hf (by decide)) ?_
          refine w_iconst (v := 1) ok dX4_operand_93 (by decide) ?_
          refine w_iadd ok dX4_operand_94 ?_
          refine y_putI ok dX4_operand_95 (fwX4_42 rfl) (congrArg Prod.fst s_41) rfl (ltK hnn (by decide)) (sdc hf (by decide)) ?_
          show WK K 0 0 98 [(0, .ref 41), (1, .ref a0), (2, .int (I 81 5))] [] (eI f (S2_X4_operand a0 I J)) (eJ f J) R n g
          refine w_aload_n ok dX4_operand_98 0 rfl ?_
          refine w_iload_n ok dX4_operand_99 2 rfl ?_
          refine w_cV (As := [.int (I 81 5)]) ok dX4_operand_100 iX4_hold (lX4_209 rfl) (rcv cls4 (congrArg Prod.fst s_41)) (ltK hnn (by decide)) (c_X4_hold ro hnn hf (I 81 5) ) (by decide) rfl (Nat.le_of_ble_eq_true rfl) ?_
          refine w_goto (tgt := 141) ok dX4_operand_103 (by decide) ?_
          refine w_iconst (v := 1) ok dX4_operand_141 (by decide) ?_
          exact w_zret ok fin dX4_operand_142 rfl (by decide) (by unfold F_X4_operand FI_X4_operand; simp only [if_neg c1]; simp only [if_pos c4]; simp only [if_pos c5]; exact Pd.i)
        refine w_icmp_lt (tgt := 88) ok dX4_operand_80 (by decide) (fun c9 => ?_) (fun c9 => ?_)
        · skip
          have eT : (T_X4_operand_j88 a0 I J) = I := by
            unfold T_X4_operand_j88; exact (if_pos c9).trans (rfl)
          refine w_loc [1, 2, 0] rfl ?_
          have jj := jn8
          rw [eT] at jj
          exact jj
        · skip
          refine w_aload_n ok dX4_operand_83 1 rfl ?_
          refine w_iconst (v := 2) ok dX4_operand_84 (by decide) ?_
          refine w_cV (As := [.int 2]) ok dX4_operand_85 iX4_fail (lX4_58 rfl) (rcv cls4 (congrArg Prod.fst s_41)) (ltK hnn (by decide)) (c_X4_fail ro hnn hf 2 ) (by decide) rfl (Nat.le_of_ble_eq_true rfl) ?_
          have eT : (T_X4_operand_j88 a0 I J) = (FI_X4_fail 2 I J) := by
            unfold T_X4_operand_j88; exact (if_neg c9).trans (rfl)
          refine w_loc [1, 2, 0] rfl ?_
          have jj := jn8
          rw [eT] at jj
          exact jj
    · skip
      refine w_aload_n ok dX4_operand_19 1 rfl ?_
      refine w_cV (As := []) ok dX4_operand_20 iX4_knot (lX4_203 rfl) (rcv cls4 (congrArg Prod.fst s_41)) (ltK hnn (by decide)) (c_X4_knot ro hnn hf  ) (by decide) rfl (Nat.le_of_ble_eq_true rfl) ?_
      refine w_iload_n ok dX4_operand_23 0 rfl ?_
      refine w_iconst (v := 2) ok dX4_operand_24 (by decide) ?_
      refine w_icmp_ne (tgt := 46) ok dX4_operand_25 (by decide) (fun _ => ?_) (fun h => absurd h c1)
      refine w_aload_n ok dX4_operand_46 2 rfl ?_
      refine w_iload_n ok dX4_operand_47 0 rfl ?_
      refine w_iload_n ok dX4_operand_48 0 rfl ?_
      refine w_iconst (v := 2) ok dX4_operand_49 (by decide) ?_
      refine w_icmp_ne (tgt := 63) ok dX4_operand_50 (by decide) (fun _ => ?_) (fun h => absurd h c1)
      refine w_iconst (v := 0) ok dX4_operand_63 (by decide) ?_
      refine w_cV (As := [.int (I 81 5), .int 0]) ok dX4_operand_64 iX1_add (lX4_206 rfl) (rcv cls1 (congrArg Prod.fst (sLw ha0))) (ltK hnn (nLw ha0)) (c_X1_add ro hnn hf (I 81 5) 0 ha0 (hp3 c1 c4)) (by decide) rfl (Nat.le_of_ble_eq_true rfl) ?_
      refine w_iconst (v := 0) ok dX4_operand_67 (by decide) ?_
      exact w_zret ok fin dX4_operand_68 rfl (by decide) (by unfold F_X4_operand FI_X4_operand; simp only [if_neg c1]; simp only [if_neg c4]; exact Pd.i)
def T_X4_sign_j83 (a0 : Nat) (I : SI) (J : SJ) : Int32 := if (F_X4_rank (I 81 5) I J) = 4 then 5 else (F_X4_rank (I 81 5) I J)
def S1_X4_sign (a0 : Nat) (I : SI) (J : SJ) : SI := FI_X4_hold (I 81 5) (FI_X4_knot  (FI_X4_join a0 (T_X4_sign_j83 a0 I J) I J) J) J
def S2_X4_sign (a0 : Nat) (I : SI) (J : SJ) : SI := FI_X4_hold (I 81 5) (FI_X4_knot  (FI_X4_join a0 (T_X4_sign_j83 a0 I J) I J) J) J
def S3_X4_sign (a0 : Nat) (I : SI) (J : SJ) : SI := FI_X4_knot  (FI_X4_fail 1 (FI_X4_join a0 (T_X4_sign_j83 a0 I J) I J) J) J
def T_X4_sign_j83_2 (a0 : Nat) (I : SI) (J : SJ) : Int32 := if (F_X4_rank (I 81 5) I J) = 4 then 5 else (F_X4_rank (I 81 5) I J)
def S4_X4_sign (a0 : Nat) (I : SI) (J : SJ) : SI := FI_X4_hold (I 81 5) (FI_X4_knot  (FI_X4_join a0 (T_X4_sign_j83_2 a0 I J) I J) J) J
def S5_X4_sign (a0 : Nat) (I : SI) (J : SJ) : SI := FI_X4_hold (I 81 5) (FI_X4_knot  (FI_X4_join a0 (T_X4_sign_j83_2 a0 I J) I J) J) J
def S6_X4_sign (a0 : Nat) (I : SI) (J : SJ) : SI := FI_X4_knot  (FI_X4_fail 1 (FI_X4_join a0 (T_X4_sign_j83_2 a0 I J) I J) J) J
def S7_X4_sign (a0 : Nat) (I : SI) (J : SJ) : SI := u2 (u2 (FI_X4_join a0 1 I J) 41 6 (((FI_X4_join a0 1 I J) 41 6) - 1)) 41 7 (((u2 (FI_X4_join a0 1 I J) 41 6 (((FI_X4_join a0 1 I J) 41 6) - 1)) 41 7) - 1)
def F_X4_sign (a0 : Nat) (I : SI) (J : SJ) : Int32 := if (I 81 5) = 6 then (if (I 41 7) ≤ 0 then (if (F_X4_rank (I 81 5) I J) = 0 then 1 else (if (I 81 5) = 35 then 1 else (if (F_X4_rank (I 81 5) I J) = 4 then (if (F_X4_topRank  (FI_X4_join a0 (T_X4_sign_j83_2 a0 I J) I J) J) = 4 then 1 else 1) else 1))) else 0) else (if (F_X4_rank (I 81 5) I J) = 0 then 1 else (if (I 81 5) = 35 then 1 else (if (F_X4_rank (I 81 5) I J) = 4 then (if (F_X4_topRank  (FI_X4_join a0 (T_X4_sign_j83 a0 I J) I J) J) = 4 then 1 else 1) else 1)))
def FI_X4_sign (a0 : Nat) (I : SI) (J : SJ) : SI := if (I 81 5) = 6 then (if (I 41 7) ≤ 0 then (if (F_X4_rank (I 81 5) I J) = 0 then FI_X4_fail 1 I J else (if (I 81 5) = 35 then FI_X4_fail 1 I J else (if (F_X4_rank (I 81 5) I J) = 4 then (if (F_X4_topRank  (FI_X4_join a0 (T_X4_sign_j83_2 a0 I J) I J) J) = 4 then FI_X4_hold (I 81 5) (S6_X4_sign a0 I J) J else (S5_X4_sign a0 I J)) else (S4_X4_sign a0 I J)))) else (S7_X4_sign a0 I J)) else (if (F_X4_rank (I 81 5) I J) = 0 then FI_X4_fail 1 I J else (if (I 81 5) = 35 then FI_X4_fail 1 I J else (if (F_X4_rank (I 81 5) I J) = 4 then (if (F_X4_topRank  (FI_X4_join a0 (T_X4_sign_j83 a0 I J) I J) J) = 4 then FI_X4_hold (I 81 5) (S3_X4_sign a0 I J) J else (S2_X4_sign a0 I J)) else (S1_X4_sign a0 I J))))
def H_X4_sign (a0 : Nat) (I : SI) (J : SJ) : Prop := (¬ ((I 81 5) = 6) → ¬ ((F_X4_rank (I 81 5) I J) = 0) → ¬ ((I 81 5) = 35) → H_X4_join a0 (T_X4_sign_j83 a0 I J) I J) ∧ (¬ ((I 81 5) = 6) → ¬ ((F_X4_rank (I 81 5) I J) = 0) → ¬ ((I 81 5) = 35) → (F_X4_rank (I 81 5) I J) = 4 → H_X4_topRank  (FI_X4_join a0 (T_X4_sign_j83 a0 I J) I J) J) ∧ ((I 81 5) = 6 → (I 41 7) ≤ 0 → ¬ ((F_X4_rank (I 81 5) I J) = 0) → ¬ ((I 81 5) = 35) → H_X4_join a0 (T_X4_sign_j83_2 a0 I J) I J) ∧ ((I 81 5) = 6 → (I 41 7) ≤ 0 → ¬ ((F_X4_rank (I 81 5) I J) = 0) → ¬ ((I 81 5) = 35) → (F_X4_rank (I 81 5) I J) = 4 → H_X4_topRank  (FI_X4_join a0 (T_X4_sign_j83_2 a0 I J) I J) J) ∧ ((I 81 5) = 6 → ¬ ((I 41 7) ≤ 0) → H_X4_join a0 1 I J)
set_option maxHeartbeats 2020000 in
set_option maxRecDepth 40000 in
theorem c_X4_sign {I : SI} {J : SJ} {R : SR} {n g : Nat} {f : Fr} (ro : RO R) (hnn : nK ≤ n) (hf : f.1 = true) {a0 : Nat} (ha0 : IsLw a0)  (hp : H_X4_sign a0 I J) : MM 2 0 0 mX4_sign [.ref 41, .ref a0] (eI f I) (eJ f J) R n g (Pd (some (.int (F_X4_sign a0 I J))) (eI f (FI_X4_sign a0 I J)) (eJ f J) R n g) := by
  refine MM.of (by decide) (Nat.le_of_ble_eq_true rfl) fun K ok fin => ?_
  show WK K 0 0 0 [(0, .ref 41), (1, .ref a0)] [] (eI f I) (eJ f J) R n g
  obtain ⟨hp1, hp2, hp3, hp4, hp5⟩ := hp
  refine w_aload_n ok dX4_sign_0 0 rfl ?_
  refine w_getR ok dX4_sign_1 (fX4_28 rfl) (congrArg Prod.fst s_41) rfl (r_41_3 ro) (ltK hnn (by decide)) ?_
  refine y_getI ok dX4_sign_4 (fX4_52 rfl) (congrArg Prod.fst s_81) rfl (ltK hnn (by decide)) (sdc hf (by decide)) ?_
  refine w_istore_n ok dX4_sign_7 rfl (by decide) rfl ?_
  refine w_iload_n ok dX4_sign_8 0 rfl ?_
  refine w_bipush (v := 6) ok dX4_sign_9 (by decide) ?_
  refine w_icmp_ne (tgt := 49) ok dX4_sign_11 (by decide) (fun c1 => ?_) (fun c1 => ?_)
  · skip
    refine w_iload_n ok dX4_sign_49 0 rfl ?_
    refine w_cS (As := [.int (I 81 5)]) ok dX4_sign_50 iX4_rank (lX4_216 rfl) (c_X4_rank ro hnn hf (I 81 5) ) (by decide) rfl (Nat.le_of_ble_eq_true rfl) ?_
    refine w_istore_n ok dX4_sign_53 rfl (by decide) rfl ?_
    refine w_iload_n ok dX4_sign_54 0 rfl ?_
    refine w_if_eq (tgt := 64) ok dX4_sign_55 (by decide) (fun c2 => ?_) (fun c2 => ?_)
    · skip
      refine w_aload_n ok dX4_sign_64 2 rfl ?_
      refine w_iconst (v := 1) ok dX4_sign_65 (by decide) ?_
      refine w_cV (As := [.int 1]) ok dX4_sign_66 iX4_fail (lX4_58 rfl) (rcv cls4 (congrArg Prod.fst s_41)) (ltK hnn (by decide)) (c_X4_fail ro hnn hf 1 ) (by decide) rfl (Nat.le_of_ble_eq_true rfl) ?_
      refine w_iconst (v := 1) ok dX4_sign_69 (by decide) ?_
      exact w_zret ok fin dX4_sign_70 rfl (by decide) (by unfold F_X4_sign FI_X4_sign; simp only [if_neg c1]; simp only [if_pos c2]; exact Pd.i)
    · skip
      refine w_iload_n ok dX4_sign_58 1 rfl ?_
      refine w_bipush (v := 35) ok dX4_sign_59 (by decide) ?_
      refine w_icmp_ne (tgt := 71) ok dX4_sign_61 (by decide) (fun c3 => ?_) (fun c3 => ?_)
      · skip
        refine w_aload_n ok dX4_sign_71 2 rfl ?_
        refine w_aload_n ok dX4_sign_72 3 rfl ?_
        refine w_iload_n ok dX4_sign_73 0 rfl ?_
        refine w_iconst (v := 4) ok dX4_sign_74 (by decide) ?_
        have jn4 : WK K 0 0 83 [(0, .ref 41), (1, .ref a0), (2, .int (I 81 5)), (3, .int (F_X4_rank (I 81 5) I J))] [.int (T_X4_sign_j83 a0 I J), .ref a0, .ref 41] (eI f I) (eJ f J) R n g := by
          refine w_cV (As := [.ref a0, .int (T_X4_sign_j83 a0 I J)]) ok dX4_sign_83 iX4_join (lX4_192 rfl) (rcv cls4 (congrArg Prod.fst s_41)) (ltK hnn (by decide)) (c_X4_join ro hnn hf (T_X4_sign_j83 a0 I J) ha0 (hp1 c1 c2 c3)) (by decide) rfl (Nat.le_of_ble_eq_true rfl) ?_
          refine w_iload_n ok dX4_sign_86 3 rfl ?_
          refine w_iconst (v := 4) ok dX4_sign_87 (by decide) ?_
          refine w_icmp_ne (tgt := 104) ok dX4_sign_88 (by decide) (fun c5 => ?_) (fun c5 => ?_)
          · skip
            refine w_aload_n ok dX4_sign_104 0 rfl ?_
            refine w_cV (As := []) ok dX4_sign_105 iX4_knot (lX4_203 rfl) (rcv cls4 (congrArg Prod.fst s_41)) (ltK hnn (by decide)) (c_X4_knot ro hnn hf  ) (by decide) rfl (Nat.le_of_ble_eq_true rfl) ?_
            refine w_aload_n ok dX4_sign_108 0 rfl ?_
            refine w_iload_n ok dX4_sign_109 2 rfl ?_
            refine w_cV (As := [.int (I 81 5)]) ok dX4_sign_110 iX4_hold (lX4_209 rfl) (rcv cls4 (congrArg Prod.fst s_41)) (ltK hnn (by decide)) (c_X4_hold ro hnn hf (I 81 5) ) (by decide) rfl (Nat.le_of_ble_eq_true rfl) ?_
            show WK K 0 0 113 [(0, .ref 41), (1, .ref a0), (2, .int (I 81 5)), (3, .int (F_X4_rank (I 81 5) I J))] [] (eI f (S1_X4_sign a0 I J)) (eJ f J) R n g
            refine w_iconst (v := 1) ok dX4_sign_113 (by decide) ?_
            exact w_zret ok fin dX4_sign_114 rfl (by decide) (by unfold F_X4_sign FI_X4_sign; simp only [if_neg c1]; simp only [if_neg c2]; simp only [if_neg c3]; simp only [if_neg c5]; exact Pd.i)
          · skip
            refine w_aload_n ok dX4_sign_91 0 rfl ?_
            refine w_cV (As := []) ok dX4_sign_92 iX4_topRank (lX4_212 rfl) (rcv cls4 (congrArg Prod.fst s_41)) (ltK hnn (by decide)) (c_X4_topRank ro hnn hf   (hp2 c1 c2 c3 c5)) (by decide) rfl (Nat.le_of_ble_eq_true rfl) ?_
            refine w_iconst (v := 4) ok dX4_sign_95 (by decide) ?_
            refine w_icmp_ne (tgt := 104) ok dX4_sign_96 (by decide) (fun c6 => ?_) (fun c6 => ?_)
            · skip
              refine w_aload_n ok dX4_sign_104 0 rfl ?_
              refine w_cV (As := []) ok dX4_sign_105 iX4_knot (lX4_203 rfl) (rcv cls4 (congrArg Prod.fst s_41)) (ltK hnn (by decide)) (c_X4_knot ro hnn hf  ) (by decide) rfl (Nat.le_of_ble_eq_true rfl) ?_
              refine w_aload_n ok dX4_sign_108 0 rfl ?_
              refine w_iload_n ok dX4_sign_109 2 rfl ?_
              refine w_cV (As := [.int (I 81 5)]) ok dX4_sign_110 iX4_hold (lX4_209 rfl) (rcv cls4 (congrArg Prod.fst s_41)) (ltK hnn (by decide)) (c_X4_hold ro hnn hf (I 81 5) ) (by decide) rfl (Nat.le_of_ble_eq_true rfl) ?_
              show WK K 0 0 113 [(0, .ref 41), (1, .ref a0), (2, .int (I 81 5)), (3, .int (F_X4_rank (I 81 5) I J))] [] (eI f (S2_X4_sign a0 I J)) (eJ f J) R n g
              refine w_iconst (v := 1) ok dX4_sign_113 (by decide) ?_
              exact w_zret ok fin dX4_sign_114 rfl (by decide) (by unfold F_X4_sign FI_X4_sign; simp only [if_neg c1]; simp only [if_neg c2]; simp only [if_neg c3]; simp only [if_pos c5]; simp only [if_neg c6]; exact Pd.i)
            · skip
              refine w_aload_n ok dX4_sign_99 0 rfl ?_
              refine w_iconst (v := 1) ok dX4_sign_100 (by decide) ?_
              refine w_cV (As := [.int 1]) ok dX4_sign_101 iX4_fail (lX4_58 rfl) (rcv cls4 (congrArg Prod.fst s_41)) (ltK hnn (by decide)) (c_X4_fail ro hnn hf 1 ) (by decide) rfl (Nat.le_of_ble_eq_true rfl) ?_
              refine w_aload_n ok dX4_sign_104 0 rfl ?_
              refine w_cV (As := []) ok dX4_sign_105 iX4_knot (lX4_203 rfl) (rcv cls4 (congrArg Prod.fst s_41)) (ltK hnn (by decide)) (c_X4_knot ro hnn hf  ) (by decide) rfl (Nat.le_of_ble_eq_true rfl) ?_
              show WK K 0 0 108 [(0, .ref 41), (1, .ref a0), (2, .int (I 81 5)), (3, .int (F_X4_rank (I 81 5) I J))] [] (eI f (S3_X4_sign a0 I J)) (eJ f J) R n g
              refine w_aload_n ok dX4_sign_108 0 rfl ?_
              refine w_iload_n ok dX4_sign_109 2 rfl ?_
              refine w_cV (As := [.int (I 81 5)]) ok dX4_sign_110 iX4_hold (lX4_209 rfl) (rcv cls4 (congrArg Prod.fst s_41)) (ltK hnn (by decide)) (c_X4_hold ro hnn hf (I 81 5) ) (by decide) rfl (Nat.le_of_ble_eq_true rfl) ?_
              refine w_iconst (v := 1) ok dX4_sign_113 (by decide) ?_
              exact w_zret ok fin dX4_sign_114 rfl (by decide) (by unfold F_X4_sign FI_X4_sign; simp only [if_neg c1]; simp only [if_neg c2]; simp only [if_neg c3]; simp only [if_pos c5]; simp only [if_pos c6]; exact Pd.i)
        refine w_icmp_ne (tgt := 82) ok dX4_sign_75 (by decide) (fun c7 => ?_) (fun c7 => ?_)
        · skip
          refine w_iload_n ok dX4_sign_82 0 rfl ?_
          have eT : (T_X4_sign_j83 a0 I J) = (F_X4_rank (I 81 5) I J) := by
            unfold T_X4_sign_j83; exact (if_neg c7).trans (rfl)
          refine w_loc [2, 3, 1, 0] rfl ?_
          have jj := jn4
          rw [eT] at jj
          exact jj
        · skip
          refine w_iconst (v := 5) ok dX4_sign_78 (by decide) ?_
          refine w_goto (tgt := 83) ok dX4_sign_79 (by decide) ?_
          have eT : (T_X4_sign_j83 a0 I J) = 5 := by
            unfold T_X4_sign_j83; exact (if_pos c7).trans (rfl)
          refine w_loc [2, 3, 1, 0] rfl ?_
          have jj := jn4
          rw [eT] at jj
          exact jj
      · skip
        refine w_aload_n ok dX4_sign_64 2 rfl ?_
        refine w_iconst (v := 1) ok dX4_sign_65 (by decide) ?_
        refine w_cV (As := [.int 1]) ok dX4_sign_66 iX4_fail (lX4_58 rfl) (rcv cls4 (congrArg Prod.fst s_41)) (ltK hnn (by decide)) (c_X4_fail ro hnn hf 1 ) (by decide) rfl (Nat.le_of_ble_eq_true rfl) ?_
        refine w_iconst (v := 1) ok dX4_sign_69 (by decide) ?_
        exact w_zret ok fin dX4_sign_70 rfl (by decide) (by unfold F_X4_sign FI_X4_sign; simp only [if_neg c1]; simp only [if_neg c2]; simp only [if_pos c3]; exact Pd.i)
  · skip
    refine w_aload_n ok dX4_sign_14 1 rfl ?_
    refine y_getI ok dX4_sign_15 (fX4_42 rfl) (congrArg Prod.fst s_41) rfl (ltK hnn (by decide)) (sdc hf (by decide)) ?_
    refine w_if_le (tgt := 49) ok dX4_sign_18 (by decide) (fun c8 => ?_) (fun c8 => ?_)
    · skip
      refine w_iload_n ok dX4_sign_49 0 rfl ?_
      refine w_cS (As := [.int (I 81 5)]) ok dX4_sign_50 iX4_rank (lX4_216 rfl) (c_X4_rank ro hnn hf (I 81 5) ) (by decide) rfl (Nat.le_of_ble_eq_true rfl) ?_
      refine w_istore_n ok dX4_sign_53 rfl (by decide) rfl ?_
      refine w_iload_n ok dX4_sign_54 0 rfl ?_
      refine w_if_eq (tgt := 64) ok dX4_sign_55 (by decide) (fun c9 => ?_) (fun c9 => ?_)
      · skip
        refine w_aload_n ok dX4_sign_64 2 rfl ?_
        refine w_iconst (v := 1) ok dX4_sign_65 (by decide) ?_
        refine w_cV (As := [.int 1]) ok dX4_sign_66 iX4_fail (lX4_58 rfl) (rcv cls4 (congrArg Prod.fst s_41)) (ltK hnn (by decide)) (c_X4_fail ro hnn hf 1 ) (by decide) rfl (Nat.le_of_ble_eq_true rfl) ?_
        refine w_iconst (v := 1) ok dX4_sign_69 (by decide) ?_
        exact w_zret ok fin dX4_sign_70 rfl (by decide) (by unfold F_X4_sign FI_X4_sign; simp only [if_pos c1]; simp only [if_pos c8]; simp only [if_pos c9]; exact Pd.i)
      · skip
        refine w_iload_n ok dX4_sign_58 1 rfl ?_
        refine w_bipush (v := 35) ok dX4_sign_59 (by decide) ?_
        refine w_icmp_ne (tgt := 71) ok dX4_sign_61 (by decide) (fun c10 => ?_) (fun c10 => ?_)
        · skip
          refine w_aload_n ok dX4_sign_71 2 rfl ?_
          refine w_aload_n ok dX4_sign_72 3 rfl ?_
          refine w_iload_n ok dX4_sign_73 0 rfl ?_
          refine w_iconst (v := 4) ok dX4_sign_74 (by decide) ?_
          have jn11 : WK K 0 0 83 [(0, .ref 41), (1, .ref a0), (2, .int (I 81 5)), (3, .int (F_X4_rank (I 81 5) I J))] [.int (T_X4_sign_j83_2 a0 I J), .ref a0, .ref 41] (eI f I) (eJ f J) R n g := by
            refine w_cV (As := [.ref a0, .int (T_X4_sign_j83_2 a0 I J)]) ok dX4_sign_83 iX4_join (lX4_192 rfl) (rcv cls4 (congrArg Prod.fst s_41)) (ltK hnn (by decide)) (c_X4_join ro hnn hf (T_X4_sign_j83_2 a0 I J) ha0 (hp3 c1 c8 c9 c10)) (by decide) rfl (Nat.le_of_ble_eq_true rfl) ?_
            refine w_iload_n ok dX4_sign_86 3 rfl ?_
            refine w_iconst (v := 4) ok dX4_sign_87 (by decide) ?_
            refine w_icmp_ne (tgt := 104) ok dX4_sign_88 (by decide) (fun c12 => ?_) (fun c12 => ?_)
            · skip
              refine w_aload_n ok dX4_sign_104 0 rfl ?_
              refine w_cV (As := []) ok dX4_sign_105 iX4_knot (lX4_203 rfl) (rcv cls4 (congrArg Prod.fst s_41)) (ltK hnn (by decide)) (c_X4_knot ro hnn hf  ) (by decide) rfl (Nat.le_of_ble_eq_true rfl) ?_
              refine w_aload_n ok dX4_sign_108 0 rfl ?_
              refine w_iload_n ok dX4_sign_109 2 rfl ?_
              refine w_cV (As := [.int (I 81 5)]) ok dX4_sign_110 iX4_hold (lX4_209 rfl) (rcv cls4 (congrArg Prod.fst s_41)) (ltK hnn (by decide)) (c_X4_hold ro hnn hf (I 81 5) ) (by decide) rfl (Nat.le_of_ble_eq_true rfl) ?_
              show WK K 0 0 113 [(0, .ref 41), (1, .ref a0), (2, .int (I 81 5)), (3, .int (F_X4_rank (I 81 5) I J))] [] (eI f (S4_X4_sign a0 I J)) (eJ f J) R n g
              refine w_iconst (v := 1) ok dX4_sign_113 (by decide) ?_
              exact w_zret ok fin dX4_sign_114 rfl (by decide) (by unfold F_X4_sign FI_X4_sign; simp only [if_pos c1]; simp only [if_pos c8]; simp only [if_neg c9]; simp only [if_neg c10]; simp only [if_neg c12]; exact Pd.i)
            · skip
              refine w_aload_n ok dX4_sign_91 0 rfl ?_
              refine w_cV (As := []) ok dX4_sign_92 iX4_topRank (lX4_212 rfl) (rcv cls4 (congrArg Prod.fst s_41)) (ltK hnn (by decide)) (c_X4_topRank ro hnn hf   (hp4 c1 c8 c9 c10 c12)) (by decide) rfl (Nat.le_of_ble_eq_true rfl) ?_
              refine w_iconst (v := 4) ok dX4_sign_95 (by decide) ?_
              refine w_icmp_ne (tgt := 104) ok dX4_sign_96 (by decide) (fun c13 => ?_) (fun c13 => ?_)
              · skip
                refine w_aload_n ok dX4_sign_104 0 rfl ?_
                refine w_cV (As := []) ok dX4_sign_105 iX4_knot (lX4_203 rfl) (rcv cls4 (congrArg Prod.fst s_41)) (ltK hnn (by decide)) (c_X4_knot ro hnn hf  ) (by decide) rfl (Nat.le_of_ble_eq_true rfl) ?_
                refine w_aload_n ok dX4_sign_108 0 rfl ?_
                refine w_iload_n ok dX4_sign_109 2 rfl ?_
                refine w_cV (As := [.int (I 81 5)]) ok dX4_sign_110 iX4_hold (lX4_209 rfl) (rcv cls4 (congrArg Prod.fst s_41)) (ltK hnn (by decide)) (c_X4_hold ro hnn hf (I 81 5) ) (by decide) rfl (Nat.le_of_ble_eq_true rfl) ?_
                show WK K 0 0 113 [(0, .ref 41), (1, .ref a0), (2, .int (I 81 5)), (3, .int (F_X4_rank (I 81 5) I J))] [] (eI f (S5_X4_sign a0 I J)) (eJ f J) R n g
                refine w_iconst (v := 1) ok dX4_sign_113 (by decide) ?_
                exact w_zret ok fin dX4_sign_114 rfl (by decide) (by unfold F_X4_sign FI_X4_sign; simp only [if_pos c1]; simp only [if_pos c8]; simp only [if_neg c9]; simp only [if_neg c10]; simp only [if_pos c12]; simp only [if_neg c13]; exact Pd.i)
              · skip
                refine w_aload_n ok dX4_sign_99 0 rfl ?_
                refine w_iconst (v := 1) ok dX4_sign_100 (by decide) ?_
                refine w_cV (As := [.int 1]) ok dX4_sign_101 iX4_fail (lX4_58 rfl) (rcv cls4 (congrArg Prod.fst s_41)) (ltK hnn (by decide)) (c_X4_fail ro hnn hf 1 ) (by decide) rfl (Nat.le_of_ble_eq_true rfl) ?_
                refine w_aload_n ok dX4_sign_104 0 rfl ?_
                refine w_cV (As := []) ok dX4_sign_105 iX4_knot (lX4_203 rfl) (rcv cls4 (congrArg Prod.fst s_41)) (ltK hnn (by decide)) (c_X4_knot ro hnn hf  ) (by decide) rfl (Nat.le_of_ble_eq_true rfl) ?_
                show WK K 0 0 108 [(0, .ref 41), (1, .ref a0), (2, .int (I 81 5)), (3, .int (F_X4_rank (I 81 5) I J))] [] (eI f (S6_X4_sign a0 I J)) (eJ f J) R n g
                refine w_aload_n ok dX4_sign_108 0 rfl ?_
                refine w_iload_n ok dX4_sign_109 2 rfl ?_
                refine w_cV (As := [.int (I 81 5)]) ok dX4_sign_110 iX4_hold (lX4_209 rfl) (rcv cls4 (congrArg Prod.fst s_41)) (ltK hnn (by decide)) (c_X4_hold ro hnn hf (I 81 5) ) (by decide) rfl (Nat.le_of_ble_eq_true rfl) ?_
                refine w_iconst (v := 1) ok dX4_sign_113 (by decide) ?_
                exact w_zret ok fin dX4_sign_114 rfl (by decide) (by unfold F_X4_sign FI_X4_sign; simp only [if_pos c1]; simp only [if_pos c8]; simp only [if_neg c9]; simp only [if_neg c10]; simp only [if_pos c12]; simp only [if_pos c13]; exact Pd.i)
          refine w_icmp_ne (tgt := 82) ok dX4_sign_75 (by decide) (fun c14 => ?_) (fun c14 => ?_)
          · skip
            refine w_iload_n ok dX4_sign_82 0 rfl ?_
            have eT : (T_X4_sign_j83_2 a0 I J) = (F_X4_rank (I 81 5) I J) := by
              unfold T_X4_sign_j83_2; exact (if_neg c14).trans (rfl)
            refine w_loc [2, 3, 1, 0] rfl ?_
            have jj := jn11
            rw [eT] at jj
            exact jj
          · skip
            refine w_iconst (v := 5) ok dX4_sign_78 (by decide) ?_
            refine w_goto (tgt := 83) ok dX4_sign_79 (by decide) ?_
            have eT : (T_X4_sign_j83_2 a0 I J) = 5 := by
              unfold T_X4_sign_j83_2; exact (if_pos c14).trans (rfl)
            refine w_loc [2, 3, 1, 0] rfl ?_
            have jj := jn11
            rw [eT] at jj
            exact jj
        · skip
          refine w_aload_n ok dX4_sign_64 2 rfl ?_
          refine w_iconst (v := 1) ok dX4_sign_65 (by decide) ?_
          refine w_cV (As := [.int 1]) ok dX4_sign_66 iX4_fail (lX4_58 rfl) (rcv cls4 (congrArg Prod.fst s_41)) (ltK hnn (by decide)) (c_X4_fail ro hnn hf 1 ) (by decide) rfl (Nat.le_of_ble_eq_true rfl) ?_
          refine w_iconst (v := 1) ok dX4_sign_69 (by decide) ?_
          exact w_zret ok fin dX4_sign_70 rfl (by decide) (by unfold F_X4_sign FI_X4_sign; simp only [if_pos c1]; simp only [if_pos c8]; simp only [if_neg c9]; simp only [if_pos c10]; exact Pd.i)
    · skip
      refine w_aload_n ok dX4_sign_21 1 rfl ?_
      refine w_aload_n ok dX4_sign_22 2 rfl ?_
      refine w_iconst (v := 1) ok dX4_sign_23 (by decide) ?_
      refine w_cV (As := [.ref a0, .int 1]) ok dX4_sign_24 iX4_join (lX4_192 rfl) (rcv cls4 (congrArg Prod.fst s_41)) (ltK hnn (by decide)) (c_X4_join ro hnn hf 1 ha0 (hp5 c1 c8)) (by decide) rfl (Nat.le_of_ble_eq_true rfl) ?_
      refine w_aload_n ok dX4_sign_27 1 rfl ?_
      refine w_dup ok dX4_sign_28 rfl ?_
      refine y_getI ok dX4_sign_29 (fX4_39 rfl) (congrArg Prod.fst s_41) rfl (ltK hnn (by decide)) (sdc hf (by decide)) ?_
      refine w_iconst (v := 1) ok dX4_sign_32 (by decide) ?_
      refine w_isub ok dX4_sign_33 ?_
      refine y_putI ok dX4_sign_34 (fwX4_39 rfl) (congrArg Prod.fst s_41) rfl (ltK hnn (by decide)) (sdc hf (by decide)) ?_
      refine w_aload_n ok dX4_sign_37 1 rfl ?_
      refine w_dup ok dX4_sign_38 rfl ?_
      refine y_getI ok dX4_sign_39 (fX4_42 rfl) (congrArg Prod.fst s_41) rfl (ltK hnn (by decide)) (sdc hf (by decide)) ?_
      refine w_iconst (v := 1) ok dX4_sign_42 (by decide) ?_
      refine w_isub ok dX4_sign_43 ?_
      refine y_putI ok dX4_sign_44 (fwX4_42 rfl) (congrArg Prod.fst s_41) rfl (ltK hnn (by decide)) (sdc hf (by decide)) ?_
      show WK K 0 0 47 [(2, .int (I 81 5)), (0, .ref 41), (1, .ref a0)] [] (eI f (S7_X4_sign a0 I J)) (eJ f J) R n g
      refine w_iconst (v := 0) ok dX4_sign_47 (by decide) ?_
      exact w_zret ok fin dX4_sign_48 rfl (by decide) (by unfold F_X4_sign FI_X4_sign; simp only [if_pos c1]; simp only [if_neg c8]; exact Pd.i)
def FI_X8_begin (a1 : Int32) (I : SI) (J : SJ) : SI := FI_X8_step  (u2 (u2 (u2 I 81 2 a1) 81 3 0) 81 4 0) J
def H_X8_begin (a1 : Int32) (I : SI) (J : SJ) : Prop := (H_X8_step  (u2 (u2 (u2 I 81 2 a1) 81 3 0) 81 4 0) J)
set_option maxHeartbeats 1000000 in
set_option maxRecDepth 40000 in
theorem c_X8_begin {I : SI} {J : SJ} {R : SR} {n g : Nat} {f : Fr} (ro : RO R) (hnn : nK ≤ n) (hf : f.1 = true) (a1 : Int32)  (hp : H_X8_begin a1 I J) : MM 3 0 0 mX8_begin [.ref 81, .ref 1, .int a1] (eI f I) (eJ f J) R n g (Pd none (eI f (FI_X8_begin a1 I J)) (eJ f J) (tR R) n g) := by
  refine MM.of (by decide) (Nat.le_of_ble_eq_true rfl) fun K ok fin => ?_
  show WK K 0 0 0 [(0, .ref 81), (1, .ref 1), (2, .int a1)] [] (eI f I) (eJ f J) R n g
  have hp1 := hp
  refine w_aload_n ok dX8_begin_0 0 rfl ?_
  refine w_aload_n ok dX8_begin_1 1 rfl ?_
  refine w_putR ok dX8_begin_2 (fwX8_15 rfl) (congrArg Prod.fst s_81) rfl (ltK hnn (by decide)) ?_
  replace ro := ro_t ro
  have htp : (tR R) 81 1 = some 1 := u2_s _ _ _ _
  refine w_aload_n ok dX8_begin_5 0 rfl ?_
  refine w_iload_n ok dX8_begin_6 2 rfl ?_
  refine y_putI ok dX8_begin_7 (fwX8_19 rfl) (congrArg Prod.fst s_81) rfl (ltK hnn (by decide)) (sdc hf (by decide)) ?_
  refine w_aload_n ok dX8_begin_10 0 rfl ?_
  refine w_iconst (v := 0) ok dX8_begin_11 (by decide) ?_
  refine y_putI ok dX8_begin_12 (fwX8_23 rfl) (congrArg Prod.fst s_81) rfl (ltK hnn (by decide)) (sdc hf (by decide)) ?_
  refine w_aload_n ok dX8_begin_15 0 rfl ?_
  refine w_iconst (v := 0) ok dX8_begin_16 (by decide) ?_
  refine y_putZ ok dX8_begin_17 (fwX8_26 rfl) (congrArg Prod.fst s_81) rfl (by decide) (ltK hnn (by decide)) (sdc hf (by decide)) ?_
  refine w_aload_n ok dX8_begin_20 0 rfl ?_
  refine w_cV (As := []) ok dX8_begin_21 iX8_step (lX8_63 rfl) (rcv cls8 (congrArg Prod.fst s_81)) (ltK hnn (by decide)) (c_X8_step ro hnn hf  htp (hp1)) (by decide) rfl (Nat.le_of_ble_eq_true rfl) ?_
  exact w_vret ok fin dX8_begin_24 rfl (by unfold FI_X8_begin; exact Pd.i)
def B_X11_rests_l16 (a0 : Int32) (a1 : Int32) (I : SI) (J : SJ) (i16 : Nat) (s16 : Int32) : Int32 := if (F_X11_isRest a0 a1 (nI i16) I J) = 0 then s16 else (s16 + 1)
def F_X11_rests_l16 (a0 : Int32) (a1 : Int32) (I : SI) (J : SJ) (s0 : Int32) : Int32 := itN (B_X11_rests_l16 a0 a1 I J) (25) s0
def F_X11_rests (a0 : Int32) (a1 : Int32) (I : SI) (J : SJ) : Int32 := if (F_X11_canBid a0 a1 I J) = 0 then -1 else (F_X11_rests_l16 a0 a1 I J 0)
set_option maxHeartbeats 1000000 in
set_option maxRecDepth 40000 in
theorem c_X11_rests {I : SI} {J : SJ} {R : SR} {n g : Nat} {f : Fr} (ro : RO R) (hnn : nK ≤ n) (hf : f.1 = true) (a0 : Int32) (a1 : Int32)   : MM 3 0 0 mX11_rests [.ref 0, .int a0, .int a1] (eI f I) (eJ f J) R n g (Pd (some (.int (F_X11_rests a0 a1 I J))) (eI f I) (eJ f J) R n g) := by
  refine MM.of (by decide) (Nat.le_of_ble_eq_true rfl) fun K ok fin => ?_
  show WK K 0 0 0 [(0, .ref 0), (1, .int a0), (2, .int a1)] [] (eI f I) (eJ f J) R n g
  refine w_aload_n ok dX11_rests_0 0 rfl ?_
  refine w_iload_n ok dX11_rests_1 1 rfl ?_
  refine w_iload_n ok dX11_rests_2 2 rfl ?_
  refine w_cV (As := [.int a0, .int a1]) ok dX11_rests_3 iX11_canBid (lX11_296 rfl) (rcv cls11 (congrArg Prod.fst s_0)) (ltK hnn (by decide)) (c_X11_canBid ro hnn hf a0 a1 ) (by decide) rfl (Nat.le_of_ble_eq_true rfl) ?_
  refine w_if_ne (tgt := 11) ok dX11_rests_6 (by decide) (fun c1 => ?_) (fun c1 => ?_)
  · skip
    refine w_iconst (v := 0) ok dX11_rests_11 (by decide) ?_
    refine w_istore_n ok dX11_rests_12 rfl (by decide) rfl ?_
    refine w_iconst (v := 0) ok dX11_rests_13 (by decide) ?_
    refine w_istore ok dX11_rests_14 (by decide) rfl ?_
    refine w_loc [2, 3, 4, 1, 0] rfl ?_
    refine loop_for (σ := Int32) (fun (i16 : Nat) (s16 : Int32) => WK K 0 0 16 [(0, .ref 0), (1, .int a0), (2, .int a1), (3, .int s16), (4, .int (nI i16))] [] (eI f I) (eJ f J) R n g) (B_X11_rests_l16 a0 a1 I J) (25) (0) ?_ ?_
    · show WK K 0 0 16 [(0, .ref 0), (1, .int a0), (2, .int a1), (3, .int (F_X11_rests_l16 a0 a1 I J 0)), (4, .int (nI 25))] [] (eI f I) (eJ f J) R n g
      have e2 : (25 : Int32) ≤ (nI 25) := (show nI 25 ≤ nI 25 from nI_le (by omega) (by decide))
      refine w_iload ok dX11_rests_16 4 rfl ?_
      refine w_bipush (v := 25) ok dX11_rests_18 (by decide) ?_
      refine w_icmp_ge (tgt := 43) ok dX11_rests_20 (by decide) (fun _ => ?_) (fun h => absurd e2 h)
      refine w_iload_n ok dX11_rests_43 3 rfl ?_
      exact w_iret ok fin dX11_rests_44 rfl (by unfold F_X11_rests; simp only [if_neg c1]; exact Pd.i)
    · intro i16 s16 hi16 hs16 k16
      show WK K 0 0 16 [(0, .ref 0), (1, .int a0), (2, .int a1), (3, .int s16), (4, .int (nI i16))] [] (eI f I) (eJ f J) R n g
      have e3 : ¬ ((25 : Int32) ≤ (nI i16)) := (show ¬ (nI 25 ≤ nI i16) from nI_ge (by omega) (by decide))
      refine w_iload ok dX11_rests_16 4 rfl ?_
      refine w_bipush (v := 25) ok dX11_rests_18 (by decide) ?_
      refine w_icmp_ge (tgt := 43) ok dX11_rests_20 (by decide) (fun h => absurd h e3) (fun _ => ?_)
      refine w_aload_n ok dX11_rests_23 0 rfl ?_
      refine w_iload_n ok dX11_rests_24 1 rfl ?_
      refine w_iload_n ok dX11_rests_25 2 rfl ?_
      refine w_iload ok dX11_rests_26 4 rfl ?_
      refine w_cV (As := [.int a0, .int a1, .int (nI i16)]) ok dX11_rests_28 iX11_isRest (lX11_299 rfl) (rcv cls11 (congrArg Prod.fst s_0)) (ltK hnn (by decide)) (c_X11_isRest ro hnn hf a0 a1 (nI i16) ) (by decide) rfl (Nat.le_of_ble_eq_true rfl) ?_
      refine w_if_eq (tgt := 37) ok dX11_rests_31 (by decide) (fun c4 => ?_) (fun c4 => ?_)
      · skip
        refine w_iinc (v := (nI i16) + 1) ok dX11_rests_37 4 rfl rfl (by decide) rfl ?_
        refine w_goto (tgt := 16) ok dX11_rests_40 (by decide) ?_
        have eB : B_X11_rests_l16 a0 a1 I J i16 s16 = s16 := by
          unfold B_X11_rests_l16; exact (if_pos c4).trans (rfl)
        have kk := k16
        rw [eB] at kk
        refine w_loc [1, 2, 3, 4, 0] rfl ?_
        rw [nI_1 i16]
        exact kk
      · skip
        refine w_iinc (v := s16 + 1) ok dX11_rests_34 3 rfl rfl (by decide) rfl ?_
        refine w_iinc (v := (nI i16) + 1) ok dX11_rests_37 4 rfl rfl (by decide) rfl ?_
        refine w_goto (tgt := 16) ok dX11_rests_40 (by decide) ?_
        have eB : B_X11_rests_l16 a0 a1 I J i16 s16 = (s16 + 1) := by
          unfold B_X11_rests_l16; exact (if_neg c4).trans (rfl)
        have kk := k16
        rw [eB] at kk
        refine w_loc [2, 3, 4, 1, 0] rfl ?_
        rw [nI_1 i16]
        exact kk
  · skip
    refine w_iconst (v := (-1)) ok dX11_rests_9 (by decide) ?_
    exact w_iret ok fin dX11_rests_10 rfl (by unfold F_X11_rests; simp only [if_pos c1]; exact Pd.i)
def B_X11_rest_l21 (a0 : Int32) (a1 : Int32) (a2 : Int32) (I : SI) (J : SJ) (i21 : Nat) (s21 : Int32) : (Int32) ⊕ (Int32) := if (F_X11_isRest a0 a1 (nI i21) I J) = 0 then .inl s21 else (if s21 = a2 then .inr ((((nI i21) / 5) * 10) + ((nI i21) - (nI i21) / 5 * 5)) else .inl (s21 + 1))
def F_X11_rest_l21 (a0 : Int32) (a1 : Int32) (a2 : Int32) (I : SI) (J : SJ) (s0 : Int32) : (Int32) ⊕ (Int32) := itE (B_X11_rest_l21 a0 a1 a2 I J) (25) 0 s0
def F_X11_rest (a0 : Int32) (a1 : Int32) (a2 : Int32) (I : SI) (J : SJ) : Int32 := if (F_X11_canBid a0 a1 I J) = 0 then -1 else (if (0 : Int32) ≤ a2 then (match (F_X11_rest_l21 a0 a1 a2 I J 0) with | .inl se21 => -2 | .inr re21 => re21) else -1)
set_option maxHeartbeats 1000000 in
set_option maxRecDepth 40000 in
theorem c_X11_rest {I : SI} {J : SJ} {R : SR} {n g : Nat} {f : Fr} (ro : RO R) (hnn : nK ≤ n) (hf : f.1 = true) (a0 : Int32) (a1 : Int32) (a2 : Int32)   : MM 3 0 0 mX11_rest [.ref 0, .int a0, .int a1, .int a2] (eI f I) (eJ f J) R n g (Pd (some (.int (F_X11_rest a0 a1 a2 I J))) (eI f I) (eJ f J) R n g) := by
  refine MM.of (by decide) (Nat.le_of_ble_eq_true rfl) fun K ok fin => ?_
  show WK K 0 0 0 [(0, .ref 0), (1, .int a0), (2, .int a1), (3, .int a2)] [] (eI f I) (eJ f J) R n g
  refine w_aload_n ok dX11_rest_0 0 rfl ?_
  refine w_iload_n ok dX11_rest_1 1 rfl ?_
  refine w_iload_n ok dX11_rest_2 2 rfl ?_
  refine w_cV (As := [.int a0, .int a1]) ok dX11_rest_3 iX11_canBid (lX11_296 rfl) (rcv cls11 (congrArg Prod.fst s_0)) (ltK hnn (by decide)) (c_X11_canBid ro hnn hf a0 a1 ) (by decide) rfl (Nat.le_of_ble_eq_true rfl) ?_
  refine w_if_eq (tgt := 13) ok dX11_rest_6 (by decide) (fun c1 => ?_) (fun c1 => ?_)
  · skip
    refine w_iconst (v := (-1)) ok dX11_rest_13 (by decide) ?_
    exact w_iret ok fin dX11_rest_14 rfl (by unfold F_X11_rest; simp only [if_pos c1]; exact Pd.i)
  · skip
    refine w_iload_n ok dX11_rest_9 3 rfl ?_
    refine w_if_ge (tgt := 15) ok dX11_rest_10 (by decide) (fun c2 => ?_) (fun c2 => ?_)
    · skip
      refine w_iconst (v := 0) ok dX11_rest_15 (by decide) ?_
      refine w_istore ok dX11_rest_16 (by decide) rfl ?_
      refine w_iconst (v := 0) ok dX11_rest_18 (by decide) ?_
      refine w_istore ok dX11_rest_19 (by decide) rfl ?_
      refine w_loc [2, 3, 4, 5, 1, 0] rfl ?_
      refine loop_e (σ := Int32) (ρ := Int32) (fun (i21 : Nat) (s21 : Int32) => WK K 0 0 21 [(0, .ref 0), (1, .int a0), (2, .int a1), (3, .int a2), (4, .int s21), (5, .int (nI i21))] [] (eI f I) (eJ f J) R n g) (B_X11_rest_l21 a0 a1 a2 I J) (25) (0) ?_ ?_
      · intro se21 he21
        have he21 : (F_X11_rest_l21 a0 a1 a2 I J 0) = .inl se21 := he21
        show WK K 0 0 21 [(0, .ref 0), (1, .int a0), (2, .int a1), (3, .int a2), (4, .int se21), (5, .int (nI 25))] [] (eI f I) (eJ f J) R n g
        have e3 : (25 : Int32) ≤ (nI 25) := (show nI 25 ≤ nI 25 from nI_le (by omega) (by decide))
        refine w_iload ok dX11_rest_21 5 rfl ?_
        refine w_bipush (v := 25) ok dX11_rest_23 (by decide) ?_
        refine w_icmp_ge (tgt := 67) ok dX11_rest_25 (by decide) (fun _ => ?_) (fun h => absurd e3 h)
        refine w_bipush (v := (-2)) ok dX11_rest_67 (by decide) ?_
        exact w_iret ok fin dX11_rest_69 rfl (by unfold F_X11_rest; simp only [if_neg c1]; simp only [if_pos c2]; simp only [he21]; exact Pd.i)
      · intro i21 s21 hi21 hs21 k21 kr21
        show WK K 0 0 21 [(0, .ref 0), (1, .int a0), (2, .int a1), (3, .int a2), (4, .int s21), (5, .int (nI i21))] [] (eI f I) (eJ f J) R n g
        have e4 : ¬ ((25 : Int32) ≤ (nI i21)) := (show ¬ (nI 25 ≤ nI i21) from nI_ge (by omega) (by decide))
        refine w_iload ok dX11_rest_21 5 rfl ?_
        refine w_bipush (v := 25) ok dX11_rest_23 (by decide) ?_
        refine w_icmp_ge (tgt := 67) ok dX11_rest_25 (by decide) (fun h => absurd h e4) (fun _ => ?_)
        refine w_aload_n ok dX11_rest_28 0 rfl ?_
        refine w_iload_n ok dX11_rest_29 1 rfl ?_
        refine w_iload_n ok dX11_rest_30 2 rfl ?_
        refine w_iload ok dX11_rest_31 5 rfl ?_
        refine w_cV (As := [.int a0, .int a1, .int (nI i21)]) ok dX11_rest_33 iX11_isRest (lX11_299 rfl) (rcv cls11 (congrArg Prod.fst s_0)) (ltK hnn (by decide)) (c_X11_isRest ro hnn hf a0 a1 (nI i21) ) (by decide) rfl (Nat.le_of_ble_eq_true rfl) ?_
        refine w_if_eq (tgt := 61) ok dX11_rest_36 (by decide) (fun c5 => ?_) (fun c5 => ?_)
        · skip
          refine w_iinc (v := (nI i21) + 1) ok dX11_rest_61 5 rfl rfl (by decide) rfl ?_
          refine w_goto (tgt := 21) ok dX11_rest_64 (by decide) ?_
          have eB : B_X11_rest_l21 a0 a1 a2 I J i21 s21 = .inl s21 := by
            unfold B_X11_rest_l21; exact (if_pos c5).trans (rfl)
          have kk := k21 _ eB
          refine w_loc [1, 2, 3, 4, 5, 0] rfl ?_
          rw [nI_1 i21]
          exact kk
        · skip
          refine w_iload ok dX11_rest_39 4 rfl ?_
          refine w_iload_n ok dX11_rest_41 3 rfl ?_
          refine w_icmp_ne (tgt := 58) ok dX11_rest_42 (by decide) (fun c6 => ?_) (fun c6 => ?_)
          · skip
            refine w_iinc (v := s21 + 1) ok dX11_rest_58 4 rfl rfl (by decide) rfl ?_
            refine w_iinc (v := (nI i21) + 1) ok dX11_rest_61 5 rfl rfl (by decide) rfl ?_
            refine w_goto (tgt := 21) ok dX11_rest_64 (by decide) ?_
            have eB : B_X11_rest_l21 a0 a1 a2 I J i21 s21 = .inl (s21 + 1) := by
              unfold B_X11_rest_l21; exact (if_neg c5).trans ((if_neg c6).trans (rfl))
            have kk := k21 _ eB
            refine w_loc [2, 3, 4, 5, 1, 0] rfl ?_
            rw [nI_1 i21]
            exact kk
          · skip
            refine w_iload ok dX11_rest_45 5 rfl ?_
            refine w_iconst (v := 5) ok dX11_rest_47 (by decide) ?_
            refine w_idiv ok dX11_rest_48 (by decide) ?_
            refine w_bipush (v := 10) ok dX11_rest_49 (by decide) ?_
            refine w_imul ok dX11_rest_51 ?_
            refine w_iload ok dX11_rest_52 5 rfl ?_
            refine w_iconst (v := 5) ok dX11_rest_54 (by decide) ?_
            refine w_irem ok dX11_rest_55 (by decide) ?_
            refine w_iadd ok dX11_rest_56 ?_
            have eB : B_X11_rest_l21 a0 a1 a2 I J i21 s21 = .inr ((((nI i21) / 5) * 10) + ((nI i21) - (nI i21) / 5 * 5)) := by
              unfold B_X11_rest_l21; exact (if_neg c5).trans ((if_pos c6).trans (rfl))
            have hr : (F_X11_rest_l21 a0 a1 a2 I J 0) = .inr ((((nI i21) / 5) * 10) + ((nI i21) - (nI i21) / 5 * 5)) := kr21 _ eB
            exact w_iret ok fin dX11_rest_57 rfl (by unfold F_X11_rest; simp only [if_neg c1]; simp only [if_pos c2]; simp only [hr]; exact Pd.i)
    · skip
      refine w_iconst (v := (-1)) ok dX11_rest_13 (by decide) ?_
      exact w_iret ok fin dX11_rest_14 rfl (by unfold F_X11_rest; simp only [if_neg c1]; simp only [if_neg c2]; exact Pd.i)
def S1_X0_noticeWorth (a0 : Int32) (a1 : Int32) (I : SI) (J : SJ) : SJ := FJ_X0_worthOf 29 (atF (I 114) 6 a1) (atF (I 111) 6 a1) (F_X0_isSaid a1 I J) (F_X5_filmedWith 105 a1 a0 I J) (atF (I 10) 8 a0) I J
def S2_X0_noticeWorth (a0 : Int32) (a1 : Int32) (I : SI) (J : SJ) : Int64 := F_X0_worthOf 29 (atF (I 114) 6 a1) (atF (I 111) 6 a1) (F_X0_isSaid a1 I J) (F_X5_filmedWith 105 a1 a0 I J) (atF (I 10) 8 a0) I J
def F_X0_noticeWorth (a0 : Int32) (a1 : Int32) (I : SI) (J : SJ) : Int64 := (S2_X0_noticeWorth a0 a1 I J)
def FJ_X0_noticeWorth (a0 : Int32) (a1 : Int32) (I : SI) (J : SJ) : SJ := (S1_X0_noticeWorth a0 a1 I J)
def H_X0_noticeWorth (a0 : Int32) (a1 : Int32) (I : SI) (J : SJ) : Prop := (H_X0_worthOf 29 (atF (I 114) 6 a1) (atF (I 111) 6 a1) (F_X0_isSaid a1 I J) (F_X5_filmedWith 105 a1 a0 I J) (atF (I 10) 8 a0) I J)
set_option maxHeartbeats 1000000 in
set_option maxRecDepth 40000 in
theorem c_X0_noticeWorth {I : SI} {J : SJ} {R : SR} {n g : Nat} {f : Fr} (ro : RO R) (hnn : nK ≤ n) (hf : f.1 = true) (a0 : Int32) (a1 : Int32)  (hp : H_X0_noticeWorth a0 a1 I J) : MM 3 0 0 mX0_noticeWorth [.ref 104, .int a0, .int a1] (eI f I) (eJ f J) R n g (Pd (some (.long (F_X0_noticeWorth a0 a1 I J))) (eI f I) (eJ f (FJ_X0_noticeWorth a0 a1 I J)) R n g) := by
  refine MM.of (by decide) (Nat.le_of_ble_eq_true rfl) fun K ok fin => ?_
  show WK K 0 0 0 [(0, .ref 104), (1, .int a0), (2, .int a1)] [] (eI f I) (eJ f J) R n g
  have hp1 := hp
  refine w_aload_n ok dX0_noticeWorth_0 0 rfl ?_
  refine w_aload_n ok dX0_noticeWorth_1 0 rfl ?_
  refine w_getR ok dX0_noticeWorth_2 (fX0_40 rfl) (congrArg Prod.fst s_104) rfl (r_104_3 ro) (ltK hnn (by decide)) ?_
  refine w_getR ok dX0_noticeWorth_5 (fX0_206 rfl) (congrArg Prod.fst s_2) rfl (r_2_12 ro) (ltK hnn (by decide)) ?_
  refine w_aload_n ok dX0_noticeWorth_8 0 rfl ?_
  refine w_getR ok dX0_noticeWorth_9 (fX0_18 rfl) (congrArg Prod.fst s_104) rfl (r_104_1 ro) (ltK hnn (by decide)) ?_
  refine w_iload_n ok dX0_noticeWorth_12 2 rfl ?_
  refine w_cS (As := [.ref 114, .int a1]) ok dX0_noticeWorth_13 iX11_at (lX0_86 rfl) (c_at s_114 (ltK hnn (by decide)) (sdc hf (by decide)) a1) (by decide) rfl (Nat.le_of_ble_eq_true rfl) ?_
  show WK K 0 0 16 [(0, .ref 104), (1, .int a0), (2, .int a1)] [.int (atF (I 114) 6 a1), .ref 29, .ref 104] (eI f I) (eJ f J) R n g
  refine w_aload_n ok dX0_noticeWorth_16 0 rfl ?_
  refine w_getR ok dX0_noticeWorth_17 (fX0_12 rfl) (congrArg Prod.fst s_104) rfl (r_104_0 ro) (ltK hnn (by decide)) ?_
  refine w_getR ok dX0_noticeWorth_20 (fX0_162 rfl) (congrArg Prod.fst s_105) rfl (r_105_12 ro) (ltK hnn (by decide)) ?_
  refine w_iload_n ok dX0_noticeWorth_23 2 rfl ?_
  refine w_cS (As := [.ref 111, .int a1]) ok dX0_noticeWorth_24 iX11_at (lX0_86 rfl) (c_at s_111 (ltK hnn (by decide)) (sdc hf (by decide)) a1) (by decide) rfl (Nat.le_of_ble_eq_true rfl) ?_
  show WK K 0 0 27 [(0, .ref 104), (1, .int a0), (2, .int a1)] [.int (atF (I 111) 6 a1), .int (atF (I 114) 6 a1), .ref 29, .ref 104] (eI f I) (eJ f J) R n g
  refine w_aload_n ok dX0_noticeWorth_27 0 rfl ?_
  refine w_iload_n ok dX0_noticeWorth_28 2 rfl ?_
  refine w_cV (As := [.int a1]) ok dX0_noticeWorth_29 iX0_isSaid (lX0_210 rfl) (rcv cls0 (congrArg Prod.fst s_104)) (ltK hnn (by decide)) (c_X0_isSaid ro hnn hf a1 ) (by decide) rfl (Nat.le_of_ble_eq_true rfl) ?_
  show WK K 0 0 32 [(0, .ref 104), (1, .int a0), (2, .int a1)] [.int (F_X0_isSaid a1 I J), .int (atF (I 111) 6 a1), .int (atF (I 114) 6 a1), .ref 29, .ref 104] (eI f I) (eJ f J) R n g
  refine w_aload_n ok dX0_noticeWorth_32 0 rfl ?_
  refine w_getR ok dX0_noticeWorth_33 (fX0_12 rfl) (congrArg Prod.fst s_104) rfl (r_104_0 ro) (ltK hnn (by decide)) ?_
  refine w_iload_n ok dX0_noticeWorth_36 2 rfl ?_
  refine w_iload_n ok dX0_noticeWorth_37 1 rfl ?_
  refine w_cV (As := [.int a1, .int a0]) ok dX0_noticeWorth_38 iX5_filmedWith (lX0_213 rfl) (rcv cls5 (congrArg Prod.fst s_105)) (ltK hnn (by decide)) (c_X5_filmedWith ro hnn hf a1 a0 isSc_105) (by decide) rfl (Nat.le_of_ble_eq_true rfl) ?_
  show WK K 0 0 41 [(0, .ref 104), (1, .int a0), (2, .int a1)] [.int (F_X5_filmedWith 105 a1 a0 I J), .int (F_X0_isSaid a1 I J), .int (atF (I 111) 6 a1), .int (atF (I 114) 6 a1), .ref 29, .ref 104] (eI f I) (eJ f J) R n g
  refine w_aload_n ok dX0_noticeWorth_41 0 rfl ?_
  refine w_getR ok dX0_noticeWorth_42 (fX0_40 rfl) (congrArg Prod.fst s_104) rfl (r_104_3 ro) (ltK hnn (by decide)) ?_
  refine w_getR ok dX0_noticeWorth_45 (fX0_77 rfl) (congrArg Prod.fst s_2) rfl (r_2_1 ro) (ltK hnn (by decide)) ?_
  refine w_getR ok dX0_noticeWorth_48 (fX0_54 rfl) (congrArg Prod.fst s_8) rfl (r_8_3 ro) (ltK hnn (by decide)) ?_
  refine w_iload_n ok dX0_noticeWorth_51 1 rfl ?_
  refine w_cS (As := [.ref 10, .int a0]) ok dX0_noticeWorth_52 iX11_at (lX0_86 rfl) (c_at s_10 (ltK hnn (by decide)) (sdc hf (by decide)) a0) (by decide) rfl (Nat.le_of_ble_eq_true rfl) ?_
  show WK K 0 0 55 [(0, .ref 104), (1, .int a0), (2, .int a1)] [.int (atF (I 10) 8 a0), .int (F_X5_filmedWith 105 a1 a0 I J), .int (F_X0_isSaid a1 I J), .int (atF (I 111) 6 a1), .int (atF (I 114) 6 a1), .ref 29, .ref 104] (eI f I) (eJ f J) R n g
  refine w_cV (As := [.ref 29, .int (atF (I 114) 6 a1), .int (atF (I 111) 6 a1), .int (F_X0_isSaid a1 I J), .int (F_X5_filmedWith 105 a1 a0 I J), .int (atF (I 10) 8 a0)]) ok dX0_noticeWorth_55 iX0_worthOf (lX0_216 rfl) (rcv cls0 (congrArg Prod.fst s_104)) (ltK hnn (by decide)) (c_X0_worthOf ro hnn hf (atF (I 114) 6 a1) (atF (I 111) 6 a1) (F_X0_isSaid a1 I J) (F_X5_filmedWith 105 a1 a0 I J) (atF (I 10) 8 a0) isLw_29 (hp1)) (by decide) rfl (Nat.le_of_ble_eq_true rfl) ?_
  show WK K 0 0 58 [(0, .ref 104), (1, .int a0), (2, .int a1)] [.long (S2_X0_noticeWorth a0 a1 I J)] (eI f I) (eJ f (S1_X0_noticeWorth a0 a1 I J)) R n g
  exact w_lret ok fin dX0_noticeWorth_58 rfl (by unfold F_X0_noticeWorth FJ_X0_noticeWorth; exact Pd.i)
def S1_X0_yieldWorth (a0 : Int32) (a1 : Int32) (I : SI) (J : SJ) : SJ := FJ_X0_worthOf 33 (atF (I 114) 6 a0) a1 (F_X0_isSaid a0 I J) (F_X5_filmedWith 105 a0 (-1) I J) 0 I J
def S2_X0_yieldWorth (a0 : Int32) (a1 : Int32) (I : SI) (J : SJ) : Int64 := F_X0_worthOf 33 (atF (I 114) 6 a0) a1 (F_X0_isSaid a0 I J) (F_X5_filmedWith 105 a0 (-1) I J) 0 I J
def F_X0_yieldWorth (a0 : Int32) (a1 : Int32) (I : SI) (J : SJ) : Int64 := (S2_X0_yieldWorth a0 a1 I J)
def FJ_X0_yieldWorth (a0 : Int32) (a1 : Int32) (I : SI) (J : SJ) : SJ := (S1_X0_yieldWorth a0 a1 I J)
def H_X0_yieldWorth (a0 : Int32) (a1 : Int32) (I : SI) (J : SJ) : Prop := (H_X0_worthOf 33 (atF (I 114) 6 a0) a1 (F_X0_isSaid a0 I J) (F_X5_filmedWith 105 a0 (-1) I J) 0 I J)
set_option maxHeartbeats 1000000 in
set_option maxRecDepth 40000 in
theorem c_X0_yieldWorth {I : SI} {J : SJ} {R : SR} {n g : Nat} {f : Fr} (ro : RO R) (hnn : nK ≤ n) (hf : f.1 = true) (a0 : Int32) (a1 : Int32)  (hp : H_X0_yieldWorth a0 a1 I J) : MM 3 0 0 mX0_yieldWorth [.ref 104, .int a0, .int a1] (eI f I) (eJ f J) R n g (Pd (some (.long (F_X0_yieldWorth a0 a1 I J))) (eI f I) (eJ f (FJ_X0_yieldWorth a0 a1 I J)) R n g) := by
  refine MM.of (by decide) (Nat.le_of_ble_eq_true rfl) fun K ok fin => ?_
  show WK K 0 0 0 [(0, .ref 104), (1, .int a0), (2, .int a1)] [] (eI f I) (eJ f J) R n g
  have hp1 := hp
  refine w_aload_n ok dX0_yieldWorth_0 0 rfl ?_
  refine w_aload_n ok dX0_yieldWorth_1 0 rfl ?_
  refine w_getR ok dX0_yieldWorth_2 (fX0_40 rfl) (congrArg Prod.fst s_104) rfl (r_104_3 ro) (ltK hnn (by decide)) ?_
  refine w_getR ok dX0_yieldWorth_5 (fX0_220 rfl) (congrArg Prod.fst s_2) rfl (r_2_13 ro) (ltK hnn (by decide)) ?_
  refine w_aload_n ok dX0_yieldWorth_8 0 rfl ?_
  refine w_getR ok dX0_yieldWorth_9 (fX0_18 rfl) (congrArg Prod.fst s_104) rfl (r_104_1 ro) (ltK hnn (by decide)) ?_
  refine w_iload_n ok dX0_yieldWorth_12 1 rfl ?_
  refine w_cS (As := [.ref 114, .int a0]) ok dX0_yieldWorth_13 iX11_at (lX0_86 rfl) (c_at s_114 (ltK hnn (by decide)) (sdc hf (by decide)) a0) (by decide) rfl (Nat.le_of_ble_eq_true rfl) ?_
  show WK K 0 0 16 [(0, .ref 104), (1, .int a0), (2, .int a1)] [.int (atF (I 114) 6 a0), .ref 33, .ref 104] (eI f I) (eJ f J) R n g
  refine w_iload_n ok dX0_yieldWorth_16 2 rfl ?_
  refine w_aload_n ok dX0_yieldWorth_17 0 rfl ?_
  refine w_iload_n ok dX0_yieldWorth_18 1 rfl ?_
  refine w_cV (As := [.int a0]) ok dX0_yieldWorth_19 iX0_isSaid (lX0_210 rfl) (rcv cls0 (congrArg Prod.fst s_104)) (ltK hnn (by decide)) (c_X0_isSaid ro hnn hf a0 ) (by decide) rfl (Nat.le_of_ble_eq_true rfl) ?_
  show WK K 0 0 22 [(0, .ref 104), (1, .int a0), (2, .int a1)] [.int (F_X0_isSaid a0 I J), .int a1, .int (atF (I 114) 6 a0), .ref 33, .ref 104] (eI f I) (eJ f J) R n g
  refine w_aload_n ok dX0_yieldWorth_22 0 rfl ?_
  refine w_getR ok dX0_yieldWorth_23 (fX0_12 rfl) (congrArg Prod.fst s_104) rfl (r_104_0 ro) (ltK hnn (by decide)) ?_
  refine w_iload_n ok dX0_yieldWorth_26 1 rfl ?_
  refine w_iconst (v := (-1)) ok dX0_yieldWorth_27 (by decide) ?_
  refine w_cV (As := [.int a0, .int (-1)]) ok dX0_yieldWorth_28 iX5_filmedWith (lX0_213 rfl) (rcv cls5 (congrArg Prod.fst s_105)) (ltK hnn (by decide)) (c_X5_filmedWith ro hnn hf a0 (-1) isSc_105) (by decide) rfl (Nat.le_of_ble_eq_true rfl) ?_
  show WK K 0 0 31 [(0, .ref 104), (1, .int a0), (2, .int a1)] [.int (F_X5_filmedWith 105 a0 (-1) I J), .int (F_X0_isSaid a0 I J), .int a1, .int (atF (I 114) 6 a0), .ref 33, .ref 104] (eI f I) (eJ f J) R n g
  refine w_iconst (v := 0) ok dX0_yieldWorth_31 (by decide) ?_
  refine w_cV (As := [.ref 33, .int (atF (I 114) 6 a0), .int a1, .int (F_X0_isSaid a0 I J), .int (F_X5_filmedWith 105 a0 (-1) I J), .int 0]) ok dX0_yieldWorth_32 iX0_worthOf (lX0_216 rfl) (rcv cls0 (congrArg Prod.fst s_104)) (ltK hnn (by decide)) (c_X0_worthOf ro hnn hf (atF (I 114) 6 a0) a1 (F_X0_isSaid a0 I J) (F_X5_filmedWith 105 a0 (-1) I J) 0 isLw_33 (hp1)) (by decide) rfl (Nat.le_of_ble_eq_true rfl) ?_
  show WK K 0 0 35 [(0, .ref 104), (1, .int a0), (2, .int a1)] [.long (S2_X0_yieldWorth a0 a1 I J)] (eI f I) (eJ f (S1_X0_yieldWorth a0 a1 I J)) R n g
  exact w_lret ok fin dX0_yieldWorth_35 rfl (by unfold F_X0_yieldWorth FJ_X0_yieldWorth; exact Pd.i)
def S1_X0_againWorth (a0 : Int32) (I : SI) (J : SJ) : SJ := FJ_X0_worthOf 37 0 (F_X5_givenCount 105 I J) (F_X5_clashing 105 a0 I J) (F_X5_marksIn 105 a0 I J) (atF (I 10) 8 a0) I J
def S2_X0_againWorth (a0 : Int32) (I : SI) (J : SJ) : Int64 := F_X0_worthOf 37 0 (F_X5_givenCount 105 I J) (F_X5_clashing 105 a0 I J) (F_X5_marksIn 105 a0 I J) (atF (I 10) 8 a0) I J
def F_X0_againWorth (a0 : Int32) (I : SI) (J : SJ) : Int64 := (S2_X0_againWorth a0 I J)
def FJ_X0_againWorth (a0 : Int32) (I : SI) (J : SJ) : SJ := (S1_X0_againWorth a0 I J)
def H_X0_againWorth (a0 : Int32) (I : SI) (J : SJ) : Prop := (H_X0_worthOf 37 0 (F_X5_givenCount 105 I J) (F_X5_clashing 105 a0 I J) (F_X5_marksIn 105 a0 I J) (atF (I 10) 8 a0) I J)
set_option maxHeartbeats 1000000 in
set_option maxRecDepth 40000 in
theorem c_X0_againWorth {I : SI} {J : SJ} {R : SR} {n g : Nat} {f : Fr} (ro : RO R) (hnn : nK ≤ n) (hf : f.1 = true) (a0 : Int32)  (hp : H_X0_againWorth a0 I J) : MM 3 0 0 mX0_againWorth [.ref 104, .int a0] (eI f I) (eJ f J) R n g (Pd (some (.long (F_X0_againWorth a0 I J))) (eI f I) (eJ f (FJ_X0_againWorth a0 I J)) R n g) := by
  refine MM.of (by decide) (Nat.le_of_ble_eq_true rfl) fun K ok fin => ?_
  show WK K 0 0 0 [(0, .ref 104), (1, .int a0)] [] (eI f I) (eJ f J) R n g
  have hp1 := hp
  refine w_aload_n ok dX0_againWorth_0 0 rfl ?_
  refine w_aload_n ok dX0_againWorth_1 0 rfl ?_
  refine w_getR ok dX0_againWorth_2 (fX0_40 rfl) (congrArg Prod.fst s_104) rfl (r_104_3 ro) (ltK hnn (by decide)) ?_
  refine w_getR ok dX0_againWorth_5 (fX0_223 rfl) (congrArg Prod.fst s_2) rfl (r_2_14 ro) (ltK hnn (by decide)) ?_
  refine w_iconst (v := 0) ok dX0_againWorth_8 (by decide) ?_
  refine w_aload_n ok dX0_againWorth_9 0 rfl ?_
  refine w_getR ok dX0_againWorth_10 (fX0_12 rfl) (congrArg Prod.fst s_104) rfl (r_104_0 ro) (ltK hnn (by decide)) ?_
  refine w_cV (As := []) ok dX0_againWorth_13 iX5_givenCount (lX0_226 rfl) (rcv cls5 (congrArg Prod.fst s_105)) (ltK hnn (by decide)) (c_X5_givenCount ro hnn hf  isSc_105) (by decide) rfl (Nat.le_of_ble_eq_true rfl) ?_
  show WK K 0 0 16 [(0, .ref 104), (1, .int a0)] [.int (F_X5_givenCount 105 I J), .int 0, .ref 37, .ref 104] (eI f I) (eJ f J) R n g
  refine w_aload_n ok dX0_againWorth_16 0 rfl ?_
  refine w_getR ok dX0_againWorth_17 (fX0_12 rfl) (congrArg Prod.fst s_104) rfl (r_104_0 ro) (ltK hnn (by decide)) ?_
  refine w_iload_n ok dX0_againWorth_20 1 rfl ?_
  refine w_cV (As := [.int a0]) ok dX0_againWorth_21 iX5_clashing (lX0_171 rfl) (rcv cls5 (congrArg Prod.fst s_105)) (ltK hnn (by decide)) (c_X5_clashing ro hnn hf a0 isSc_105) (by decide) rfl (Nat.le_of_ble_eq_true rfl) ?_
  show WK K 0 0 24 [(0, .ref 104), (1, .int a0)] [.int (F_X5_clashing 105 a0 I J), .int (F_X5_givenCount 105 I J), .int 0, .ref 37, .ref 104] (eI f I) (eJ f J) R n g
  refine w_aload_n ok dX0_againWorth_24 0 rfl ?_
  refine w_getR ok dX0_againWorth_25 (fX0_12 rfl) (congrArg Prod.fst s_104) rfl (r_104_0 ro) (ltK hnn (by decide)) ?_
  refine w_iload_n ok dX0_againWorth_28 1 rfl ?_
  refine w_cV (As := [.int a0]) ok dX0_againWorth_29 iX5_marksIn (lX0_230 rfl) (rcv cls5 (congrArg Prod.fst s_105)) (ltK hnn (by decide)) (c_X5_marksIn ro hnn hf a0 isSc_105) (by decide) rfl (Nat.le_of_ble_eq_true rfl) ?_
  show WK K 0 0 32 [(0, .ref 104), (1, .int a0)] [.int (F_X5_marksIn 105 a0 I J), .int (F_X5_clashing 105 a0 I J), .int (F_X5_givenCount 105 I J), .int 0, .ref 37, .ref 104] (eI f I) (eJ f J) R n g
  refine w_aload_n ok dX0_againWorth_32 0 rfl ?_
  refine w_getR ok dX0_againWorth_33 (fX0_40 rfl) (congrArg Prod.fst s_104) rfl (r_104_3 ro) (ltK hnn (by decide)) ?_
  refine w_getR ok dX0_againWorth_36 (fX0_77 rfl) (congrArg Prod.fst s_2) rfl (r_2_1 ro) (ltK hnn (by decide)) ?_
  refine w_getR ok dX0_againWorth_39 (fX0_54 rfl) (congrArg Prod.fst s_8) rfl (r_8_3 ro) (ltK hnn (by decide)) ?_
  refine w_iload_n ok dX0_againWorth_42 1 rfl ?_
  refine w_cS (As := [.ref 10, .int a0]) ok dX0_againWorth_43 iX11_at (lX0_86 rfl) (c_at s_10 (ltK hnn (by decide)) (sdc hf (by decide)) a0) (by decide) rfl (Nat.le_of_ble_eq_true rfl) ?_
  show WK K 0 0 46 [(0, .ref 104), (1, .int a0)] [.int (atF (I 10) 8 a0), .int (F_X5_marksIn 105 a0 I J), .int (F_X5_clashing 105 a0 I J), .int (F_X5_givenCount 105 I J), .int 0, .ref 37, .ref 104] (eI f I) (eJ f J) R n g
  refine w_cV (As := [.ref 37, .int 0, .int (F_X5_givenCount 105 I J), .int (F_X5_clashing 105 a0 I J), .int (F_X5_marksIn 105 a0 I J), .int (atF (I 10) 8 a0)]) ok dX0_againWorth_46 iX0_worthOf (lX0_216 rfl) (rcv cls0 (congrArg Prod.fst s_104)) (ltK hnn (by decide)) (c_X0_worthOf ro hnn hf 0 (F_X5_givenCount 105 I J) (F_X5_clashing 105 a0 I J) (F_X5_marksIn 105 a0 I J) (atF (I 10) 8 a0) isLw_37 (hp1)) (by decide) rfl (Nat.le_of_ble_eq_true rfl) ?_
  show WK K 0 0 49 [(0, .ref 104), (1, .int a0)] [.long (S2_X0_againWorth a0 I J)] (eI f I) (eJ f (S1_X0_againWorth a0 I J)) R n g
  exact w_lret ok fin dX0_againWorth_49 rfl (by unfold F_X0_againWorth FJ_X0_againWorth; exact Pd.i)
def S1_X4_markLine (I : SI) (J : SJ) : SI := FI_X4_number 0 99 (FI_X4_fresh 43 (FI_X4_begin (F_X7_isFull 43 I J) I J) J) J
def S2_X4_markLine (I : SI) (J : SJ) : SI := FI_X7_add 43 (F_X4_fresh 43 (FI_X4_begin (F_X7_isFull 43 I J) I J) J) (F_X4_number 0 99 (FI_X4_fresh 43 (FI_X4_begin (F_X7_isFull 43 I J) I J) J) J) (F_X4_number 2 6 (S1_X4_markLine I J) J) 0 (FI_X4_number 2 6 (S1_X4_markLine I J) J) J
def FI_X4_markLine  (I : SI) (J : SJ) : SI := if ((FI_X4_number 2 6 (S1_X4_markLine I J) J) 41 1) = 0 then (S2_X4_markLine I J) else FI_X4_number 2 6 (S1_X4_markLine I J) J
def H_X4_markLine  (I : SI) (J : SJ) : Prop := (H_X4_begin (F_X7_isFull 43 I J) I J) ∧ (H_X4_fresh 43 (FI_X4_begin (F_X7_isFull 43 I J) I J) J) ∧ (H_X4_number 0 99 (FI_X4_fresh 43 (FI_X4_begin (F_X7_isFull 43 I J) I J) J) J) ∧ (H_X4_number 2 6 (S1_X4_markLine I J) J)
set_option maxHeartbeats 1000000 in
set_option maxRecDepth 40000 in
theorem c_X4_markLine {I : SI} {J : SJ} {R : SR} {n g : Nat} {f : Fr} (ro : RO R) (hnn : nK ≤ n) (hf : f.1 = true)  (htp : R 81 1 = some 1)  (hp : H_X4_markLine  I J) : MM 4 0 0 mX4_markLine [.ref 41] (eI f I) (eJ f J) R n g (Pd none (eI f (FI_X4_markLine  I J)) (eJ f J) R n g) := by
  refine MM.of (by decide) (Nat.le_of_ble_eq_true rfl) fun K ok fin => ?_
  show WK K 0 0 0 [(0, .ref 41)] [] (eI f I) (eJ f J) R n g
  obtain ⟨hp1, hp2, hp3, hp4⟩ := hp
  refine w_aload_n ok dX4_markLine_0 0 rfl ?_
  refine w_aload_n ok dX4_markLine_1 0 rfl ?_
  refine w_getR ok dX4_markLine_2 (fX4_12 rfl) (congrArg Prod.fst s_41) rfl (r_41_0 ro) (ltK hnn (by decide)) ?_
  refine w_getR ok dX4_markLine_5 (fX4_111 rfl) (congrArg Prod.fst s_42) rfl (r_42_0 ro) (ltK hnn (by decide)) ?_
  refine w_cV (As := []) ok dX4_markLine_8 iX7_isFull (lX4_115 rfl) (rcv cls7 (congrArg Prod.fst s_43)) (ltK hnn (by decide)) (c_X7_isFull ro hnn hf  isTb_43) (by decide) rfl (Nat.le_of_ble_eq_true rfl) ?_
  show WK K 0 0 11 [(0, .ref 41)] [.int (F_X7_isFull 43 I J), .ref 41] (eI f I) (eJ f J) R n g
  refine w_cV (As := [.int (F_X7_isFull 43 I J)]) ok dX4_markLine_11 iX4_begin (lX4_121 rfl) (rcv cls4 (congrArg Prod.fst s_41)) (ltK hnn (by decide)) (c_X4_begin ro hnn hf (F_X7_isFull 43 I J) htp (hp1)) (by decide) rfl (Nat.le_of_ble_eq_true rfl) ?_
  refine w_aload_n ok dX4_markLine_14 0 rfl ?_
  refine w_aload_n ok dX4_markLine_15 0 rfl ?_
  refine w_getR ok dX4_markLine_16 (fX4_12 rfl) (congrArg Prod.fst s_41) rfl (r_41_0 ro) (ltK hnn (by decide)) ?_
  refine w_getR ok dX4_markLine_19 (fX4_111 rfl) (congrArg Prod.fst s_42) rfl (r_42_0 ro) (ltK hnn (by decide)) ?_
  refine w_cV (As := [.ref 43]) ok dX4_markLine_22 iX4_fresh (lX4_124 rfl) (rcv cls4 (congrArg Prod.fst s_41)) (ltK hnn (by decide)) (c_X4_fresh ro hnn hf  isTb_43 htp (hp2)) (by decide) rfl (Nat.le_of_ble_eq_true rfl) ?_
  refine w_istore_n ok dX4_markLine_25 rfl (by decide) rfl ?_
  refine w_aload_n ok dX4_markLine_26 1 rfl ?_
  refine w_iconst (v := 0) ok dX4_markLine_27 (by decide) ?_
  refine w_bipush (v := 99) ok dX4_markLine_28 (by decide) ?_
  refine w_cV (As := [.int 0, .int 99]) ok dX4_markLine_30 iX4_number (lX4_128 rfl) (rcv cls4 (congrArg Prod.fst s_41)) (ltK hnn (by decide)) (c_X4_number ro hnn hf 0 99 htp (hp3)) (by decide) rfl (Nat.le_of_ble_eq_true rfl) ?_
  show WK K 0 0 33 [(1, .int (F_X4_fresh 43 (FI_X4_begin (F_X7_isFull 43 I J) I J) J)), (0, .ref 41)] [.int (F_X4_number 0 99 (FI_X4_fresh 43 (FI_X4_begin (F_X7_isFull 43 I J) I J) J) J)] (eI f (S1_X4_markLine I J)) (eJ f J) R n g
  refine w_istore_n ok dX4_markLine_33 rfl (by decide) rfl ?_
  refine w_aload_n ok dX4_markLine_34 2 rfl ?_
  refine w_iconst (v := 2) ok dX4_markLine_35 (by decide) ?_
  refine w_bipush (v := 6) ok dX4_markLine_36 (by decide) ?_
  refine w_cV (As := [.int 2, .int 6]) ok dX4_markLine_38 iX4_number (lX4_128 rfl) (rcv cls4 (congrArg Prod.fst s_41)) (ltK hnn (by decide)) (c_X4_number ro hnn hf 2 6 htp (hp4)) (by decide) rfl (Nat.le_of_ble_eq_true rfl) ?_
  refine w_istore_n ok dX4_markLine_41 rfl (by decide) rfl ?_
  refine w_aload_n ok dX4_markLine_42 3 rfl ?_
  refine y_getI ok dX4_markLine_43 (fX4_18 rfl) (congrArg Prod.fst s_41) rfl (ltK hnn (by decide)) (sdc hf (by decide)) ?_
  refine w_if_ne (tgt := 63) ok dX4_markLine_46 (by decide) (fun c1 => ?_) (fun c1 => ?_)
  · skip
    exact w_vret ok fin dX4_markLine_63 rfl (by unfold FI_X4_markLine; simp only [if_neg c1]; exact Pd.i)
  · skip
    refine w_aload_n ok dX4_markLine_49 3 rfl ?_
    refine w_getR ok dX4_markLine_50 (fX4_12 rfl) (congrArg Prod.fst s_41) rfl (r_41_0 ro) (ltK hnn (by decide)) ?_
    refine w_getR ok dX4_markLine_53 (fX4_111 rfl) (congrArg Prod.fst s_42) rfl (r_42_0 ro) (ltK hnn (by decide)) ?_
    refine w_iload_n ok dX4_markLine_56 2 rfl ?_
    refine w_iload_n ok dX4_markLine_57 1 rfl ?_
    refine w_iload_n ok dX4_markLine_58 0 rfl ?_
    refine w_iconst (v := 0) ok dX4_markLine_59 (by decide) ?_
    refine w_cV (As := [.int (F_X4_fresh 43 (FI_X4_begin (F_X7_isFull 43 I J) I J) J), .int (F_X4_number 0 99 (FI_X4_fresh 43 (FI_X4_begin (F_X7_isFull 43 I J) I J) J) J), .int (F_X4_number 2 6 (S1_X4_markLine I J) J), .int 0]) ok dX4_markLine_60 iX7_add (lX4_131 rfl) (rcv cls7 (congrArg Prod.fst s_43)) (ltK hnn (by decide)) (c_X7_add ro hnn hf (F_X4_fresh 43 (FI_X4_begin (F_X7_isFull 43 I J) I J) J) (F_X4_number 0 99 (FI_X4_fresh 43 (FI_X4_begin (F_X7_isFull 43 I J) I J) J) J) (F_X4_number 2 6 (S1_X4_markLine I J) J) 0 isTb_43) (by decide) rfl (Nat.le_of_ble_eq_true rfl) ?_
    show WK K 0 0 63 [(3, .int (F_X4_number 2 6 (S1_X4_markLine I J) J)), (2, .int (F_X4_number 0 99 (FI_X4_fresh 43 (FI_X4_begin (F_X7_isFull 43 I J) I J) J) J)), (1, .int (F_X4_fresh 43 (FI_X4_begin (F_X7_isFull 43 I J) I J) J)), (0, .ref 41)] [] (eI f (S2_X4_markLine I J)) (eJ f J) R n g
    exact w_vret ok fin dX4_markLine_63 rfl (by unfold FI_X4_markLine; simp only [if_pos c1]; exact Pd.i)
def S1_X4_shotLine (I : SI) (J : SJ) : SI := FI_X4_number 1 99 (FI_X4_fresh 48 (FI_X4_begin (F_X7_isFull 48 I J) I J) J) J
def S2_X4_shotLine (I : SI) (J : SJ) : SI := FI_X7_add 48 (F_X4_fresh 48 (FI_X4_begin (F_X7_isFull 48 I J) I J) J) (F_X4_number 1 99 (FI_X4_fresh 48 (FI_X4_begin (F_X7_isFull 48 I J) I J) J) J) (F_X4_number 0 99 (S1_X4_shotLine I J) J) 0 (FI_X4_number 0 99 (S1_X4_shotLine I J) J) J
def FI_X4_shotLine  (I : SI) (J : SJ) : SI := if ((FI_X4_number 0 99 (S1_X4_shotLine I J) J) 41 1) = 0 then (S2_X4_shotLine I J) else FI_X4_number 0 99 (S1_X4_shotLine I J) J
def H_X4_shotLine  (I : SI) (J : SJ) : Prop := (H_X4_begin (F_X7_isFull 48 I J) I J) ∧ (H_X4_fresh 48 (FI_X4_begin (F_X7_isFull 48 I J) I J) J) ∧ (H_X4_number 1 99 (FI_X4_fresh 48 (FI_X4_begin (F_X7_isFull 48 I J) I J) J) J) ∧ (H_X4_number 0 99 (S1_X4_shotLine I J) J)
set_option maxHeartbeats 1000000 in
set_option maxRecDepth 40000 in
theorem c_X4_shotLine {I : SI} {J : SJ} {R : SR} {n g : Nat} {f : Fr} (ro : RO R) (hnn : nK ≤ n) (hf : f.1 = true)  (htp : R 81 1 = some 1)  (hp : H_X4_shotLine  I J) : MM 4 0 0 mX4_shotLine [.ref 41] (eI f I) (eJ f J) R n g (Pd none (eI f (FI_X4_shotLine  I J)) (eJ f J) R n g) := by
  refine MM.of (by decide) (Nat.le_of_ble_eq_true rfl) fun K ok fin => ?_
  show WK K 0 0 0 [(0, .ref 41)] [] (eI f I) (eJ f J) R n g
  obtain ⟨hp1, hp2, hp3, hp4⟩ := hp
  refine w_aload_n ok dX4_shotLine_0 0 rfl ?_
  refine w_aload_n ok dX4_shotLine_1 0 rfl ?_
  refine w_getR ok dX4_shotLine_2 (fX4_12 rfl) (congrArg Prod.fst s_41) rfl (r_41_0 ro) (ltK hnn (by decide)) ?_
  refine w_getR ok dX4_shotLine_5 (fX4_135 rfl) (congrArg Prod.fst s_42) rfl (r_42_1 ro) (ltK hnn (by decide)) ?_
  refine w_cV (As := []) ok dX4_shotLine_8 iX7_isFull (lX4_115 rfl) (rcv cls7 (congrArg Prod.fst s_48)) (ltK hnn (by decide)) (c_X7_isFull ro hnn hf  isTb_48) (by decide) rfl (Nat.le_of_ble_eq_true rfl) ?_
  show WK K 0 0 11 [(0, .ref 41)] [.int (F_X7_isFull 48 I J), .ref 41] (eI f I) (eJ f J) R n g
  refine w_cV (As := [.int (F_X7_isFull 48 I J)]) ok dX4_shotLine_11 iX4_begin (lX4_121 rfl) (rcv cls4 (congrArg Prod.fst s_41)) (ltK hnn (by decide)) (c_X4_begin ro hnn hf (F_X7_isFull 48 I J) htp (hp1)) (by decide) rfl (Nat.le_of_ble_eq_true rfl) ?_
  refine w_aload_n ok dX4_shotLine_14 0 rfl ?_
  refine w_aload_n ok dX4_shotLine_15 0 rfl ?_
  refine w_getR ok dX4_shotLine_16 (fX4_12 rfl) (congrArg Prod.fst s_41) rfl (r_41_0 ro) (ltK hnn (by decide)) ?_
  refine w_getR ok dX4_shotLine_19 (fX4_135 rfl) (congrArg Prod.fst s_42) rfl (r_42_1 ro) (ltK hnn (by decide)) ?_
  refine w_cV (As := [.ref 48]) ok dX4_shotLine_22 iX4_fresh (lX4_124 rfl) (rcv cls4 (congrArg Prod.fst s_41)) (ltK hnn (by decide)) (c_X4_fresh ro hnn hf  isTb_48 htp (hp2)) (by decide) rfl (Nat.le_of_ble_eq_true rfl) ?_
  refine w_istore_n ok dX4_shotLine_25 rfl (by decide) rfl ?_
  refine w_aload_n ok dX4_shotLine_26 1 rfl ?_
  refine w_iconst (v := 1) ok dX4_shotLine_27 (by decide) ?_
  refine w_bipush (v := 99) ok dX4_shotLine_28 (by decide) ?_
  refine w_cV (As := [.int 1, .int 99]) ok dX4_shotLine_30 iX4_number (lX4_128 rfl) (rcv cls4 (congrArg Prod.fst s_41)) (ltK hnn (by decide)) (c_X4_number ro hnn hf 1 99 htp (hp3)) (by decide) rfl (Nat.le_of_ble_eq_true rfl) ?_
  show WK K 0 0 33 [(1, .int (F_X4_fresh 48 (FI_X4_begin (F_X7_isFull 48 I J) I J) J)), (0, .ref 41)] [.int (F_X4_number 1 99 (FI_X4_fresh 48 (FI_X4_begin (F_X7_isFull 48 I J) I J) J) J)] (eI f (S1_X4_shotLine I J)) (eJ f J) R n g
  refine w_istore_n ok dX4_shotLine_33 rfl (by decide) rfl ?_
  refine w_aload_n ok dX4_shotLine_34 2 rfl ?_
  refine w_iconst (v := 0) ok dX4_shotLine_35 (by decide) ?_
  refine w_bipush (v := 99) ok dX4_shotLine_36 (by decide) ?_
  refine w_cV (As := [.int 0, .int 99]) ok dX4_shotLine_38 iX4_number (lX4_128 rfl) (rcv cls4 (congrArg Prod.fst s_41)) (ltK hnn (by decide)) (c_X4_number ro hnn hf 0 99 htp (hp4)) (by decide) rfl (Nat.le_of_ble_eq_true rfl) ?_
  refine w_istore_n ok dX4_shotLine_41 rfl (by decide) rfl ?_
  refine w_aload_n ok dX4_shotLine_42 3 rfl ?_
  refine y_getI ok dX4_shotLine_43 (fX4_18 rfl) (congrArg Prod.fst s_41) rfl (ltK hnn (by decide)) (sdc hf (by decide)) ?_
  refine w_if_ne (tgt := 63) ok dX4_shotLine_46 (by decide) (fun c1 => ?_) (fun c1 => ?_)
  · skip
    exact w_vret ok fin dX4_shotLine_63 rfl (by unfold FI_X4_shotLine; simp only [if_neg c1]; exact Pd.i)
  · skip
    refine w_aload_n ok dX4_shotLine_49 3 rfl ?_
    refine w_getR ok dX4_shotLine_50 (fX4_12 rfl) (congrArg Prod.fst s_41) rfl (r_41_0 ro) (ltK hnn (by decide)) ?_
    refine w_getR ok dX4_shotLine_53 (fX4_135 rfl) (congrArg Prod.fst s_42) rfl (r_42_1 ro) (ltK hnn (by decide)) ?_
    refine w_iload_n ok dX4_shotLine_56 2 rfl ?_
    refine w_iload_n ok dX4_shotLine_57 1 rfl ?_
    refine w_iload_n ok dX4_shotLine_58 0 rfl ?_
    refine w_iconst (v := 0) ok dX4_shotLine_59 (by decide) ?_
    refine w_cV (As := [.int (F_X4_fresh 48 (FI_X4_begin (F_X7_isFull 48 I J) I J) J), .int (F_X4_number 1 99 (FI_X4_fresh 48 (FI_X4_begin (F_X7_isFull 48 I J) I J) J) J), .int (F_X4_number 0 99 (S1_X4_shotLine I J) J), .int 0]) ok dX4_shotLine_60 iX7_add (lX4_131 rfl) (rcv cls7 (congrArg Prod.fst s_48)) (ltK hnn (by decide)) (c_X7_add ro hnn hf (F_X4_fresh 48 (FI_X4_begin (F_X7_isFull 48 I J) I J) J) (F_X4_number 1 99 (FI_X4_fresh 48 (FI_X4_begin (F_X7_isFull 48 I J) I J) J) J) (F_X4_number 0 99 (S1_X4_shotLine I J) J) 0 isTb_48) (by decide) rfl (Nat.le_of_ble_eq_true rfl) ?_
    show WK K 0 0 63 [(3, .int (F_X4_number 0 99 (S1_X4_shotLine I J) J)), (2, .int (F_X4_number 1 99 (FI_X4_fresh 48 (FI_X4_begin (F_X7_isFull 48 I J) I J) J) J)), (1, .int (F_X4_fresh 48 (FI_X4_begin (F_X7_isFull 48 I J) I J) J)), (0, .ref 41)] [] (eI f (S2_X4_shotLine I J)) (eJ f J) R n g
    exact w_vret ok fin dX4_shotLine_63 rfl (by unfold FI_X4_shotLine; simp only [if_pos c1]; exact Pd.i)
def T_X4_pairLine_j18 (I : SI) (J : SJ) : Int32 := if (I 42 6) < 20 then 0 else 1
def S1_X4_pairLine (I : SI) (J : SJ) : SI := FI_X8_step  (FI_X4_find 48 (FI_X4_begin (T_X4_pairLine_j18 I J) I J) J) J
def S2_X4_pairLine (I : SI) (J : SJ) : Int32 := ((F_X4_find 48 (FI_X4_begin (T_X4_pairLine_j18 I J) I J) J) * 6) + (F_X4_find 43 (S1_X4_pairLine I J) J)
def T_X4_pairLine_j85 (I : SI) (J : SJ) : SI := if ((FI_X4_find 43 (S1_X4_pairLine I J) J) 41 1) = 0 then (if (atF ((FI_X4_find 43 (S1_X4_pairLine I J) J) 68) 48 (S2_X4_pairLine I J)) < 0 then (FI_X4_find 43 (S1_X4_pairLine I J) J) else (FI_X4_fail 3 (FI_X4_find 43 (S1_X4_pairLine I J) J) J)) else (FI_X4_find 43 (S1_X4_pairLine I J) J)
def S3_X4_pairLine (I : SI) (J : SJ) : Int32 := (atF ((FI_X8_step  (T_X4_pairLine_j85 I J) J) 46) 8 (F_X4_find 43 (S1_X4_pairLine I J) J)) - 1
def S4_X4_pairLine (I : SI) (J : SJ) : SI := FI_X4_number 0 (S3_X4_pairLine I J) (FI_X8_step  (T_X4_pairLine_j85 I J) J) J
def S5_X4_pairLine (I : SI) (J : SJ) : SI := putF (S4_X4_pairLine I J) 68 48 (S2_X4_pairLine I J) (F_X4_number 0 (S3_X4_pairLine I J) (FI_X8_step  (T_X4_pairLine_j85 I J) J) J)
def FI_X4_pairLine  (I : SI) (J : SJ) : SI := if (((S4_X4_pairLine I J)) 41 1) = 0 then u2 (S5_X4_pairLine I J) 42 6 ((((S5_X4_pairLine I J)) 42 6) + 1) else (S4_X4_pairLine I J)
def H_X4_pairLine  (I : SI) (J : SJ) : Prop := (H_X4_begin (T_X4_pairLine_j18 I J) I J) ∧ (H_X8_step  (FI_X4_find 48 (FI_X4_begin (T_X4_pairLine_j18 I J) I J) J) J) ∧ (H_X8_step  (T_X4_pairLine_j85 I J) J) ∧ (H_X4_number 0 (S3_X4_pairLine I J) (FI_X8_step  (T_X4_pairLine_j85 I J) J) J)
set_option maxHeartbeats 1230000 in
set_option maxRecDepth 40000 in
theorem c_X4_pairLine {I : SI} {J : SJ} {R : SR} {n g : Nat} {f : Fr} (ro : RO R) (hnn : nK ≤ n) (hf : f.1 = true)  (htp : R 81 1 = some 1)  (hp : H_X4_pairLine  I J) : MM 4 0 0 mX4_pairLine [.ref 41] (eI f I) (eJ f J) R n g (Pd none (eI f (FI_X4_pairLine  I J)) (eJ f J) R n g) := by
  refine MM.of (by decide) (Nat.le_of_ble_eq_true rfl) fun K ok fin => ?_
  show WK K 0 0 0 [(0, .ref 41)] [] (eI f I) (eJ f J) R n g
  obtain ⟨hp1, hp2, hp3, hp4⟩ := hp
  refine w_aload_n ok dX4_pairLine_0 0 rfl ?_
  refine w_aload_n ok dX4_pairLine_1 0 rfl ?_
  refine w_getR ok dX4_pairLine_2 (fX4_12 rfl) (congrArg Prod.fst s_41) rfl (r_41_0 ro) (ltK hnn (by decide)) ?_
  refine y_getI ok dX4_pairLine_5 (fX4_138 rfl) (congrArg Prod.fst s_42) rfl (ltK hnn (by decide)) (sdc hf (by decide)) ?_
  refine w_bipush (v := 20) ok dX4_pairLine_8 (by decide) ?_
  have jn1 : WK K 0 0 18 [(0, .ref 41)] [.int (T_X4_pairLine_j18 I J), .ref 41] (eI f I) (eJ f J) R n g := by
    refine w_cV (As := [.int (T_X4_pairLine_j18 I J)]) ok dX4_pairLine_18 iX4_begin (lX4_121 rfl) (rcv cls4 (congrArg Prod.fst s_41)) (ltK hnn (by decide)) (c_X4_begin ro hnn hf (T_X4_pairLine_j18 I J) htp (hp1)) (by decide) rfl (Nat.le_of_ble_eq_true rfl) ?_
    refine w_aload_n ok dX4_pairLine_21 0 rfl ?_
    refine w_aload_n ok dX4_pairLine_22 0 rfl ?_
    refine w_getR ok dX4_pairLine_23 (fX4_12 rfl) (congrArg Prod.fst s_41) rfl (r_41_0 ro) (ltK hnn (by decide)) ?_
    refine w_getR ok dX4_pairLine_26 (fX4_135 rfl) (congrArg Prod.fst s_42) rfl (r_42_1 ro) (ltK hnn (by decide)) ?_
    refine w_cV (As := [.ref 48]) ok dX4_pairLine_29 iX4_find (lX4_141 rfl) (rcv cls4 (congrArg Prod.fst s_41)) (ltK hnn (by decide)) (c_X4_find ro hnn hf  isTb_48) (by decide) rfl (Nat.le_of_ble_eq_true rfl) ?_
    refine w_istore_n ok dX4_pairLine_32 rfl (by decide) rfl ?_
    refine w_aload_n ok dX4_pairLine_33 1 rfl ?_
    refine w_getR ok dX4_pairLine_34 (fX4_28 rfl) (congrArg Prod.fst s_41) rfl (r_41_3 ro) (ltK hnn (by decide)) ?_
    refine w_cV (As := []) ok dX4_pairLine_37 iX8_step (lX4_65 rfl) (rcv cls8 (congrArg Prod.fst s_81)) (ltK hnn (by decide)) (c_X8_step ro hnn hf  htp (hp2)) (by decide) rfl (Nat.le_of_ble_eq_true rfl) ?_
    show WK K 0 0 40 [(1, .int (F_X4_find 48 (FI_X4_begin (T_X4_pairLine_j18 I J) I J) J)), (0, .ref 41)] [] (eI f (S1_X4_pairLine I J)) (eJ f J) R n g
    refine w_aload_n ok dX4_pairLine_40 1 rfl ?_
    refine w_aload_n ok dX4_pairLine_41 1 rfl ?_
    refine w_getR ok dX4_pairLine_42 (fX4_12 rfl) (congrArg Prod.fst s_41) rfl (r_41_0 ro) (ltK hnn (by decide)) ?_
    refine w_getR ok dX4_pairLine_45 (fX4_111 rfl) (congrArg Prod.fst s_42) rfl (r_42_0 ro) (ltK hnn (by decide)) ?_
    refine w_cV (As := [.ref 43]) ok dX4_pairLine_48 iX4_find (lX4_141 rfl) (rcv cls4 (congrArg Prod.fst s_41)) (ltK hnn (by decide)) (c_X4_find ro hnn hf  isTb_43) (by decide) rfl (Nat.le_of_ble_eq_true rfl) ?_
    refine w_istore_n ok dX4_pairLine_51 rfl (by decide) rfl ?_
    refine w_iload_n ok dX4_pairLine_52 1 rfl ?_
    refine w_bipush (v := 6) ok dX4_pairLine_53 (by decide) ?_
    refine w_imul ok dX4_pairLine_55 ?_
    refine w_iload_n ok dX4_pairLine_56 0 rfl ?_
    refine w_iadd ok dX4_pairLine_57 ?_
    show WK K 0 0 58 [(2, .int (F_X4_find 43 (S1_X4_pairLine I J) J)), (1, .int (F_X4_find 48 (FI_X4_begin (T_X4_pairLine_j18 I J) I J) J)), (0, .ref 41)] [.int (S2_X4_pairLine I J)] (eI f (FI_X4_find 43 (S1_X4_pairLine I J) J)) (eJ f J) R n g
    refine w_istore_n ok dX4_pairLine_58 rfl (by decide) rfl ?_
    refine w_aload_n ok dX4_pairLine_59 3 rfl ?_
    refine y_getI ok dX4_pairLine_60 (fX4_18 rfl) (congrArg Prod.fst s_41) rfl (ltK hnn (by decide)) (sdc hf (by decide)) ?_
    have jn2 : WK K 0 0 85 [(0, .ref 41), (1, .int (F_X4_find 48 (FI_X4_begin (T_X4_pairLine_j18 I J) I J) J)), (2, .int (F_X4_find 43 (S1_X4_pairLine I J) J)), (3, .int (S2_X4_pairLine I J))] [] (eI f (T_X4_pairLine_j85 I J)) (eJ f J) R n g := by
      refine w_aload_n ok dX4_pairLine_85 0 rfl ?_
      refine w_getR ok dX4_pairLine_86 (fX4_28 rfl) (congrArg Prod.fst s_41) rfl (r_41_3 ro) (ltK hnn (by decide)) ?_
      refine w_cV (As := []) ok dX4_pairLine_89 iX8_step (lX4_65 rfl) (rcv cls8 (congrArg Prod.fst s_81)) (ltK hnn (by decide)) (c_X8_step ro hnn hf  htp (hp3)) (by decide) rfl (Nat.le_of_ble_eq_true rfl) ?_
      refine w_aload_n ok dX4_pairLine_92 0 rfl ?_
      refine w_iconst (v := 0) ok dX4_pairLine_93 (by decide) ?_
      refine w_aload_n ok dX4_pairLine_94 0 rfl ?_
      refine w_getR ok dX4_pairLine_95 (fX4_12 rfl) (congrArg Prod.fst s_41) rfl (r_41_0 ro) (ltK hnn (by decide)) ?_
      refine w_getR ok dX4_pairLine_98 (fX4_111 rfl) (congrArg Prod.fst s_42) rfl (r_42_0 ro) (ltK hnn (by decide)) ?_
      refine w_getR ok dX4_pairLine_101 (fX4_151 rfl) (congrArg Prod.fst s_43) rfl (r_43_4 ro) (ltK hnn (by decide)) ?_
      refine w_iload_n ok dX4_pairLine_104 2 rfl ?_
      refine w_cS (As := [.ref 46, .int (F_X4_find 43 (S1_X4_pairLine I J) J)]) ok dX4_pairLine_105 iX11_at (lX4_147 rfl) (c_at s_46 (ltK hnn (by decide)) (sdc hf (by decide)) (F_X4_find 43 (S1_X4_pairLine I J) J)) (by decide) rfl (Nat.le_of_ble_eq_true rfl) ?_
      show WK K 0 0 108 [(0, .ref 41), (1, .int (F_X4_find 48 (FI_X4_begin (T_X4_pairLine_j18 I J) I J) J)), (2, .int (F_X4_find 43 (S1_X4_pairLine I J) J)), (3, .int (S2_X4_pairLine I J))] [.int (atF ((FI_X8_step  (T_X4_pairLine_j85 I J) J) 46) 8 (F_X4_find 43 (S1_X4_pairLine I J) J)), .int 0, .ref 41] (eI f (FI_X8_step  (T_X4_pairLine_j85 I J) J)) (eJ f J) R n g
      refine w_iconst (v := 1) ok dX4_pairLine_108 (by decide) ?_
      refine w_isub ok dX4_pairLine_109 ?_
      show WK K 0 0 110 [(0, .ref 41), (1, .int (F_X4_find 48 (FI_X4_begin (T_X4_pairLine_j18 I J) I J) J)), (2, .int (F_X4_find 43 (S1_X4_pairLine I J) J)), (3, .int (S2_X4_pairLine I J))] [.int (S3_X4_pairLine I J), .int 0, .ref 41] (eI f (FI_X8_step  (T_X4_pairLine_j85 I J) J)) (eJ f J) R n g
      refine w_cV (As := [.int 0, .int (S3_X4_pairLine I J)]) ok dX4_pairLine_110 iX4_number (lX4_128 rfl) (rcv cls4 (congrArg Prod.fst s_41)) (ltK hnn (by decide)) (c_X4_number ro hnn hf 0 (S3_X4_pairLine I J) htp (hp4)) (by decide) rfl (Nat.le_of_ble_eq_true rfl) ?_
      show WK K 0 0 113 [(0, .ref 41), (1, .int (F_X4_find 48 (FI_X4_begin (T_X4_pairLine_j18 I J) I J) J)), (2, .int (F_X4_find 43 (S1_X4_pairLine I J) J)), (3, .int (S2_X4_pairLine I J))] [.int (F_X4_number 0 (S3_X4_pairLine I J) (FI_X8_step  (T_X4_pairLine_j85 I J) J) J)] (eI f (S4_X4_pairLine I J)) (eJ f J) R n g
      refine w_istore ok dX4_pairLine_113 (by decide) rfl ?_
      refine w_aload_n ok dX4_pairLine_115 1 rfl ?_
      refine y_getI ok dX4_pairLine_116 (fX4_18 rfl) (congrArg Prod.fst s_41) rfl (ltK hnn (by decide)) (sdc hf (by decide)) ?_
      refine w_if_ne (tgt := 148) ok dX4_pairLine_119 (by decide) (fun c3 => ?_) (fun c3 => ?_)
      · skip
        exact w_vret ok fin dX4_pairLine_148 rfl (by unfold FI_X4_pairLine; simp only [if_neg c3]; exact Pd.i)
      · skip
        refine w_aload_n ok dX4_pairLine_122 1 rfl ?_
        refine w_getR ok dX4_pairLine_123 (fX4_12 rfl) (congrArg Prod.fst s_41) rfl (r_41_0 ro) (ltK hnn (by decide)) ?_
        refine w_getR ok dX4_pairLine_126 (fX4_144 rfl) (congrArg Prod.fst s_42) rfl (r_42_5 ro) (ltK hnn (by decide)) ?_
        refine w_iload_n ok dX4_pairLine_129 4 rfl ?_
        refine w_iload ok dX4_pairLine_130 0 rfl ?_
        refine w_cS (As := [.ref 68, .int (S2_X4_pairLine I J), .int (F_X4_number 0 (S3_X4_pairLine I J) (FI_X8_step  (T_X4_pairLine_j85 I J) J) J)]) ok dX4_pairLine_132 iX11_put (lX4_154 rfl) (c_put s_68 (ltK hnn (by decide)) (sdc hf (by decide)) (S2_X4_pairLine I J) (F_X4_number 0 (S3_X4_pairLine I J) (FI_X8_step  (T_X4_pairLine_j85 I J) J) J)) (by decide) rfl (Nat.le_of_ble_eq_true rfl) ?_
        show WK K 0 0 135 [(4, .int (F_X4_number 0 (S3_X4_pairLine I J) (FI_X8_step  (T_X4_pairLine_j85 I J) J) J)), (0, .ref 41), (1, .int (F_X4_find 48 (FI_X4_begin (T_X4_pairLine_j18 I J) I J) J)), (2, .int (F_X4_find 43 (S1_X4_pairLine I J) J)), (3, .int (S2_X4_pairLine I J))] [] (eI f (S5_X4_pairLine I J)) (eJ f J) R n g
        refine w_aload_n ok dX4_pairLine_135 1 rfl ?_
        refine w_getR ok dX4_pairLine_136 (fX4_12 rfl) (congrArg Prod.fst s_41) rfl (r_41_0 ro) (ltK hnn (by decide)) ?_
        refine w_dup ok dX4_pairLine_139 rfl ?_
        refine y_getI ok dX4_pairLine_140 (fX4_138 rfl) (congrArg Prod.fst s_42) rfl (ltK hnn (by decide)) (sdc hf (by decide)) ?_
        refine w_iconst (v := 1) ok dX4_pairLine_143 (by decide) ?_
        refine w_iadd ok dX4_pairLine_144 ?_
        refine y_putI ok dX4_pairLine_145 (fwX4_138 rfl) (congrArg Prod.fst s_42) rfl (ltK hnn (by decide)) (sdc hf (by decide)) ?_
        exact w_vret ok fin dX4_pairLine_148 rfl (by unfold FI_X4_pairLine; simp only [if_pos c3]; exact Pd.i)
    refine w_if_ne (tgt := 85) ok dX4_pairLine_63 (by decide) (fun c4 => ?_) (fun c4 => ?_)
    · skip
      have eT : (T_X4_pairLine_j85 I J) = (FI_X4_find 43 (S1_X4_pairLine I J) J) := by
        unfold T_X4_pairLine_j85; exact (if_neg c4).trans (rfl)
      refine w_loc [3, 2, 1, 0] rfl ?_
      have jj := jn2
      rw [eT] at jj
      exact jj
    · skip
      refine w_aload_n ok dX4_pairLine_66 3 rfl ?_
      refine w_getR ok dX4_pairLine_67 (fX4_12 rfl) (congrArg Prod.fst s_41) rfl (r_41_0 ro) (ltK hnn (by decide)) ?_
      refine w_getR ok dX4_pairLine_70 (fX4_144 rfl) (congrArg Prod.fst s_42) rfl (r_42_5 ro) (ltK hnn (by decide)) ?_
      refine w_iload_n ok dX4_pairLine_73 0 rfl ?_
      refine w_cS (As := [.ref 68, .int (S2_X4_pairLine I J)]) ok dX4_pairLine_74 iX11_at (lX4_147 rfl) (c_at s_68 (ltK hnn (by decide)) (sdc hf (by decide)) (S2_X4_pairLine I J)) (by decide) rfl (Nat.le_of_ble_eq_true rfl) ?_
      refine w_if_lt (tgt := 85) ok dX4_pairLine_77 (by decide) (fun c5 => ?_) (fun c5 => ?_)
      · skip
        have eT : (T_X4_pairLine_j85 I J) = (FI_X4_find 43 (S1_X4_pairLine I J) J) := by
          unfold T_X4_pairLine_j85; exact (if_pos c4).trans ((if_pos c5).trans (rfl))
        refine w_loc [3, 2, 1, 0] rfl ?_
        have jj := jn2
        rw [eT] at jj
        exact jj
      · skip
        refine w_aload_n ok dX4_pairLine_80 3 rfl ?_
        refine w_iconst (v := 3) ok dX4_pairLine_81 (by decide) ?_
        refine w_cV (As := [.int 3]) ok dX4_pairLine_82 iX4_fail (lX4_58 rfl) (rcv cls4 (congrArg Prod.fst s_41)) (ltK hnn (by decide)) (c_X4_fail ro hnn hf 3 ) (by decide) rfl (Nat.le_of_ble_eq_true rfl) ?_
        have eT : (T_X4_pairLine_j85 I J) = (FI_X4_fail 3 (FI_X4_find 43 (S1_X4_pairLine I J) J) J) := by
          unfold T_X4_pairLine_j85; exact (if_pos c4).trans ((if_neg c5).trans (rfl))
        refine w_loc [3, 2, 1, 0] rfl ?_
        have jj := jn2
        rw [eT] at jj
        exact jj
  refine w_icmp_lt (tgt := 17) ok dX4_pairLine_10 (by decide) (fun c6 => ?_) (fun c6 => ?_)
  · skip
    refine w_iconst (v := 0) ok dX4_pairLine_17 (by decide) ?_
    have eT : (T_X4_pairLine_j18 I J) = 0 := by
      unfold T_X4_pairLine_j18; exact (if_pos c6).trans (rfl)
    refine w_loc [0] rfl ?_
    have jj := jn1
    rw [eT] at jj
    exact jj
  · skip
    refine w_iconst (v := 1) ok dX4_pairLine_13 (by decide) ?_
    refine w_goto (tgt := 18) ok dX4_pairLine_14 (by decide) ?_
    have eT : (T_X4_pairLine_j18 I J) = 1 := by
      unfold T_X4_pairLine_j18; exact (if_neg c6).trans (rfl)
    refine w_loc [0] rfl ?_
    have jj := jn1
    rw [eT] at jj
    exact jj
def S1_X4_partyLine (I : SI) (J : SJ) : SI := FI_X4_find 43 (FI_X4_fresh 53 (FI_X4_begin (F_X7_isFull 53 I J) I J) J) J
def S2_X4_partyLine (I : SI) (J : SJ) : Int32 := atF ((FI_X8_step  (S1_X4_partyLine I J) J) 46) 8 (F_X4_find 43 (FI_X4_fresh 53 (FI_X4_begin (F_X7_isFull 53 I J) I J) J) J)
def S3_X4_partyLine (I : SI) (J : SJ) : SI := FI_X4_number 0 ((S2_X4_partyLine I J) - 1) (FI_X8_step  (S1_X4_partyLine I J) J) J
def S4_X4_partyLine (I : SI) (J : SJ) : SI := FI_X7_add 53 (F_X4_fresh 53 (FI_X4_begin (F_X7_isFull 53 I J) I J) J) (F_X4_find 43 (FI_X4_fresh 53 (FI_X4_begin (F_X7_isFull 53 I J) I J) J) J) (F_X4_number 0 ((S2_X4_partyLine I J) - 1) (FI_X8_step  (S1_X4_partyLine I J) J) J) (F_X4_number 0 99 (S3_X4_partyLine I J) J) (FI_X4_number 0 99 (S3_X4_partyLine I J) J) J
def FI_X4_partyLine  (I : SI) (J : SJ) : SI := if ((FI_X4_number 0 99 (S3_X4_partyLine I J) J) 41 1) = 0 then (S4_X4_partyLine I J) else FI_X4_number 0 99 (S3_X4_partyLine I J) J
def H_X4_partyLine  (I : SI) (J : SJ) : Prop := (H_X4_begin (F_X7_isFull 53 I J) I J) ∧ (H_X4_fresh 53 (FI_X4_begin (F_X7_isFull 53 I J) I J) J) ∧ (H_X8_step  (S1_X4_partyLine I J) J) ∧ (H_X4_number 0 ((S2_X4_partyLine I J) - 1) (FI_X8_step  (S1_X4_partyLine I J) J) J) ∧ (H_X4_number 0 99 (S3_X4_partyLine I J) J)
set_option maxHeartbeats 1000000 in
set_option maxRecDepth 40000 in
theorem c_X4_partyLine {I : SI} {J : SJ} {R : SR} {n g : Nat} {f : Fr} (ro : RO R) (hnn : nK ≤ n) (hf : f.1 = true)  (htp : R 81 1 = some 1)  (hp : H_X4_partyLine  I J) : MM 4 0 0 mX4_partyLine [.ref 41] (eI f I) (eJ f J) R n g (Pd none (eI f (FI_X4_partyLine  I J)) (eJ f J) R n g) := by
  refine MM.of (by decide) (Nat.le_of_ble_eq_true rfl) fun K ok fin => ?_
  show WK K 0 0 0 [(0, .ref 41)] [] (eI f I) (eJ f J) R n g
  obtain ⟨hp1, hp2, hp3, hp4, hp5⟩ := hp
  refine w_aload_n ok dX4_partyLine_0 0 rfl ?_
  refine w_aload_n ok dX4_partyLine_1 0 rfl ?_
  refine w_getR ok dX4_partyLine_2 (fX4_12 rfl) (congrArg Prod.fst s_41) rfl (r_41_0 ro) (ltK hnn (by decide)) ?_
  refine w_getR ok dX4_partyLine_5 (fX4_158 rfl) (congrArg Prod.fst s_42) rfl (r_42_2 ro) (ltK hnn (by decide)) ?_
  refine w_cV (As := []) ok dX4_partyLine_8 iX7_isFull (lX4_115 rfl) (rcv cls7 (congrArg Prod.fst s_53)) (ltK hnn (by decide)) (c_X7_isFull ro hnn hf  isTb_53) (by decide) rfl (Nat.le_of_ble_eq_true rfl) ?_
  show WK K 0 0 11 [(0, .ref 41)] [.int (F_X7_isFull 53 I J), .ref 41] (eI f I) (eJ f J) R n g
  refine w_cV (As := [.int (F_X7_isFull 53 I J)]) ok dX4_partyLine_11 iX4_begin (lX4_121 rfl) (rcv cls4 (congrArg Prod.fst s_41)) (ltK hnn (by decide)) (c_X4_begin ro hnn hf (F_X7_isFull 53 I J) htp (hp1)) (by decide) rfl (Nat.le_of_ble_eq_true rfl) ?_
  refine w_aload_n ok dX4_partyLine_14 0 rfl ?_
  refine w_aload_n ok dX4_partyLine_15 0 rfl ?_
  refine w_getR ok dX4_partyLine_16 (fX4_12 rfl) (congrArg Prod.fst s_41) rfl (r_41_0 ro) (ltK hnn (by decide)) ?_
  refine w_getR ok dX4_partyLine_19 (fX4_158 rfl) (congrArg Prod.fst s_42) rfl (r_42_2 ro) (ltK hnn (by decide)) ?_
  refine w_cV (As := [.ref 53]) ok dX4_partyLine_22 iX4_fresh (lX4_124 rfl) (rcv cls4 (congrArg Prod.fst s_41)) (ltK hnn (by decide)) (c_X4_fresh ro hnn hf  isTb_53 htp (hp2)) (by decide) rfl (Nat.le_of_ble_eq_true rfl) ?_
  refine w_istore_n ok dX4_partyLine_25 rfl (by decide) rfl ?_
  refine w_aload_n ok dX4_partyLine_26 1 rfl ?_
  refine w_aload_n ok dX4_partyLine_27 1 rfl ?_
  refine w_getR ok dX4_partyLine_28 (fX4_12 rfl) (congrArg Prod.fst s_41) rfl (r_41_0 ro) (ltK hnn (by decide)) ?_
  refine w_getR ok dX4_partyLine_31 (fX4_111 rfl) (congrArg Prod.fst s_42) rfl (r_42_0 ro) (ltK hnn (by decide)) ?_
  refine w_cV (As := [.ref 43]) ok dX4_partyLine_34 iX4_find (lX4_141 rfl) (rcv cls4 (congrArg Prod.fst s_41)) (ltK hnn (by decide)) (c_X4_find ro hnn hf  isTb_43) (by decide) rfl (Nat.le_of_ble_eq_true rfl) ?_
  show WK K 0 0 37 [(1, .int (F_X4_fresh 53 (FI_X4_begin (F_X7_isFull 53 I J) I J) J)), (0, .ref 41)] [.int (F_X4_find 43 (FI_X4_fresh 53 (FI_X4_begin (F_X7_isFull 53 I J) I J) J) J)] (eI f (S1_X4_partyLine I J)) (eJ f J) R n g
  refine w_istore_n ok dX4_partyLine_37 rfl (by decide) rfl ?_
  refine w_aload_n ok dX4_partyLine_38 2 rfl ?_
  refine w_getR ok dX4_partyLine_39 (fX4_28 rfl) (congrArg Prod.fst s_41) rfl (r_41_3 ro) (ltK hnn (by decide)) ?_
  refine w_cV (As := []) ok dX4_partyLine_42 iX8_step (lX4_65 rfl) (rcv cls8 (congrArg Prod.fst s_81)) (ltK hnn (by decide)) (c_X8_step ro hnn hf  htp (hp3)) (by decide) rfl (Nat.le_of_ble_eq_true rfl) ?_
  refine w_aload_n ok dX4_partyLine_45 2 rfl ?_
  refine w_iconst (v := 0) ok dX4_partyLine_46 (by decide) ?_
  refine w_aload_n ok dX4_partyLine_47 2 rfl ?_
  refine w_getR ok dX4_partyLine_48 (fX4_12 rfl) (congrArg Prod.fst s_41) rfl (r_41_0 ro) (ltK hnn (by decide)) ?_
  refine w_getR ok dX4_partyLine_51 (fX4_111 rfl) (congrArg Prod.fst s_42) rfl (r_42_0 ro) (ltK hnn (by decide)) ?_
  refine w_getR ok dX4_partyLine_54 (fX4_151 rfl) (congrArg Prod.fst s_43) rfl (r_43_4 ro) (ltK hnn (by decide)) ?_
  refine w_iload_n ok dX4_partyLine_57 0 rfl ?_
  refine w_cS (As := [.ref 46, .int (F_X4_find 43 (FI_X4_fresh 53 (FI_X4_begin (F_X7_isFull 53 I J) I J) J) J)]) ok dX4_partyLine_58 iX11_at (lX4_147 rfl) (c_at s_46 (ltK hnn (by decide)) (sdc hf (by decide)) (F_X4_find 43 (FI_X4_fresh 53 (FI_X4_begin (F_X7_isFull 53 I J) I J) J) J)) (by decide) rfl (Nat.le_of_ble_eq_true rfl) ?_
  show WK K 0 0 61 [(2, .int (F_X4_find 43 (FI_X4_fresh 53 (FI_X4_begin (F_X7_isFull 53 I J) I J) J) J)), (1, .int (F_X4_fresh 53 (FI_X4_begin (F_X7_isFull 53 I J) I J) J)), (0, .ref 41)] [.int (S2_X4_partyLine I J), .int 0, .ref 41] (eI f (FI_X8_step  (S1_X4_partyLine I J) J)) (eJ f J) R n g
  refine w_iconst (v := 1) ok dX4_partyLine_61 (by decide) ?_
  refine w_isub ok dX4_partyLine_62 ?_
  refine w_cV (As := [.int 0, .int ((S2_X4_partyLine I J) - 1)]) ok dX4_partyLine_63 iX4_number (lX4_128 rfl) (rcv cls4 (congrArg Prod.fst s_41)) (ltK hnn (by decide)) (c_X4_number ro hnn hf 0 ((S2_X4_partyLine I J) - 1) htp (hp4)) (by decide) rfl (Nat.le_of_ble_eq_true rfl) ?_
  show WK K 0 0 66 [(2, .int (F_X4_find 43 (FI_X4_fresh 53 (FI_X4_begin (F_X7_isFull 53 I J) I J) J) J)), (1, .int (F_X4_fresh 53 (FI_X4_begin (F_X7_isFull 53 I J) I J) J)), (0, .ref 41)] [.int (F_X4_number 0 ((S2_X4_partyLine I J) - 1) (FI_X8_step  (S1_X4_partyLine I J) J) J)] (eI f (S3_X4_partyLine I J)) (eJ f J) R n g
  refine w_istore_n ok dX4_partyLine_66 rfl (by decide) rfl ?_
  refine w_aload_n ok dX4_partyLine_67 3 rfl ?_
  refine w_iconst (v := 0) ok dX4_partyLine_68 (by decide) ?_
  refine w_bipush (v := 99) ok dX4_partyLine_69 (by decide) ?_
  refine w_cV (As := [.int 0, .int 99]) ok dX4_partyLine_71 iX4_number (lX4_128 rfl) (rcv cls4 (congrArg Prod.fst s_41)) (ltK hnn (by decide)) (c_X4_number ro hnn hf 0 99 htp (hp5)) (by decide) rfl (Nat.le_of_ble_eq_true rfl) ?_
  refine w_istore ok dX4_partyLine_74 (by decide) rfl ?_
  refine w_aload_n ok dX4_partyLine_76 4 rfl ?_
  refine y_getI ok dX4_partyLine_77 (fX4_18 rfl) (congrArg Prod.fst s_41) rfl (ltK hnn (by decide)) (sdc hf (by decide)) ?_
  refine w_if_ne (tgt := 98) ok dX4_partyLine_80 (by decide) (fun c1 => ?_) (fun c1 => ?_)
  · skip
    exact w_vret ok fin dX4_partyLine_98 rfl (by unfold FI_X4_partyLine; simp only [if_neg c1]; exact Pd.i)
  · skip
    refine w_aload_n ok dX4_partyLine_83 4 rfl ?_
    refine w_getR ok dX4_partyLine_84 (fX4_12 rfl) (congrArg Prod.fst s_41) rfl (r_41_0 ro) (ltK hnn (by decide)) ?_
    refine w_getR ok dX4_partyLine_87 (fX4_158 rfl) (congrArg Prod.fst s_42) rfl (r_42_2 ro) (ltK hnn (by decide)) ?_
    refine w_iload_n ok dX4_partyLine_90 3 rfl ?_
    refine w_iload_n ok dX4_partyLine_91 2 rfl ?_
    refine w_iload_n ok dX4_partyLine_92 1 rfl ?_
    refine w_iload ok dX4_partyLine_93 0 rfl ?_
    refine w_cV (As := [.int (F_X4_fresh 53 (FI_X4_begin (F_X7_isFull 53 I J) I J) J), .int (F_X4_find 43 (FI_X4_fresh 53 (FI_X4_begin (F_X7_isFull 53 I J) I J) J) J), .int (F_X4_number 0 ((S2_X4_partyLine I J) - 1) (FI_X8_step  (S1_X4_partyLine I J) J) J), .int (F_X4_number 0 99 (S3_X4_partyLine I J) J)]) ok dX4_partyLine_95 iX7_add (lX4_131 rfl) (rcv cls7 (congrArg Prod.fst s_53)) (ltK hnn (by decide)) (c_X7_add ro hnn hf (F_X4_fresh 53 (FI_X4_begin (F_X7_isFull 53 I J) I J) J) (F_X4_find 43 (FI_X4_fresh 53 (FI_X4_begin (F_X7_isFull 53 I J) I J) J) J) (F_X4_number 0 ((S2_X4_partyLine I J) - 1) (FI_X8_step  (S1_X4_partyLine I J) J) J) (F_X4_number 0 99 (S3_X4_partyLine I J) J) isTb_53) (by decide) rfl (Nat.le_of_ble_eq_true rfl) ?_
    show WK K 0 0 98 [(4, .int (F_X4_number 0 99 (S3_X4_partyLine I J) J)), (3, .int (F_X4_number 0 ((S2_X4_partyLine I J) - 1) (FI_X8_step  (S1_X4_partyLine I J) J) J)), (2, .int (F_X4_find 43 (FI_X4_fresh 53 (FI_X4_begin (F_X7_isFull 53 I J) I J) J) J)), (1, .int (F_X4_fresh 53 (FI_X4_begin (F_X7_isFull 53 I J) I J) J)), (0, .ref 41)] [] (eI f (S4_X4_partyLine I J)) (eJ f J) R n g
    exact w_vret ok fin dX4_partyLine_98 rfl (by unfold FI_X4_partyLine; simp only [if_pos c1]; exact Pd.i)
def S1_X4_clerkLine (I : SI) (J : SJ) : SI := FI_X4_number 0 63 (FI_X4_fresh 58 (FI_X4_begin (F_X7_isFull 58 I J) I J) J) J
def S2_X4_clerkLine (I : SI) (J : SJ) : SI := FI_X7_add 58 (F_X4_fresh 58 (FI_X4_begin (F_X7_isFull 58 I J) I J) J) (F_X4_number 0 63 (FI_X4_fresh 58 (FI_X4_begin (F_X7_isFull 58 I J) I J) J) J) 0 0 (S1_X4_clerkLine I J) J
def FI_X4_clerkLine  (I : SI) (J : SJ) : SI := if (((S1_X4_clerkLine I J)) 41 1) = 0 then (S2_X4_clerkLine I J) else (S1_X4_clerkLine I J)
def H_X4_clerkLine  (I : SI) (J : SJ) : Prop := (H_X4_begin (F_X7_isFull 58 I J) I J) ∧ (H_X4_fresh 58 (FI_X4_begin (F_X7_isFull 58 I J) I J) J) ∧ (H_X4_number 0 63 (FI_X4_fresh 58 (FI_X4_begin (F_X7_isFull 58 I J) I J) J) J)
set_option maxHeartbeats 1000000 in
set_option maxRecDepth 40000 in
theorem c_X4_clerkLine {I : SI} {J : SJ} {R : SR} {n g : Nat} {f : Fr} (ro : RO R) (hnn : nK ≤ n) (hf : f.1 = true)  (htp : R 81 1 = some 1)  (hp : H_X4_clerkLine  I J) : MM 4 0 0 mX4_clerkLine [.ref 41] (eI f I) (eJ f J) R n g (Pd none (eI f (FI_X4_clerkLine  I J)) (eJ f J) R n g) := by
  refine MM.of (by decide) (Nat.le_of_ble_eq_true rfl) fun K ok fin => ?_
  show WK K 0 0 0 [(0, .ref 41)] [] (eI f I) (eJ f J) R n g
  obtain ⟨hp1, hp2, hp3⟩ := hp
  refine w_aload_n ok dX4_clerkLine_0 0 rfl ?_
  refine w_aload_n ok dX4_clerkLine_1 0 rfl ?_
  refine w_getR ok dX4_clerkLine_2 (fX4_12 rfl) (congrArg Prod.fst s_41) rfl (r_41_0 ro) (ltK hnn (by decide)) ?_
  refine w_getR ok dX4_clerkLine_5 (fX4_161 rfl) (congrArg Prod.fst s_42) rfl (r_42_3 ro) (ltK hnn (by decide)) ?_
  refine w_cV (As := []) ok dX4_clerkLine_8 iX7_isFull (lX4_115 rfl) (rcv cls7 (congrArg Prod.fst s_58)) (ltK hnn (by decide)) (c_X7_isFull ro hnn hf  isTb_58) (by decide) rfl (Nat.le_of_ble_eq_true rfl) ?_
  show WK K 0 0 11 [(0, .ref 41)] [.int (F_X7_isFull 58 I J), .ref 41] (eI f I) (eJ f J) R n g
  refine w_cV (As := [.int (F_X7_isFull 58 I J)]) ok dX4_clerkLine_11 iX4_begin (lX4_121 rfl) (rcv cls4 (congrArg Prod.fst s_41)) (ltK hnn (by decide)) (c_X4_begin ro hnn hf (F_X7_isFull 58 I J) htp (hp1)) (by decide) rfl (Nat.le_of_ble_eq_true rfl) ?_
  refine w_aload_n ok dX4_clerkLine_14 0 rfl ?_
  refine w_aload_n ok dX4_clerkLine_15 0 rfl ?_
  refine w_getR ok dX4_clerkLine_16 (fX4_12 rfl) (congrArg Prod.fst s_41) rfl (r_41_0 ro) (ltK hnn (by decide)) ?_
  refine w_getR ok dX4_clerkLine_19 (fX4_161 rfl) (congrArg Prod.fst s_42) rfl (r_42_3 ro) (ltK hnn (by decide)) ?_
  refine w_cV (As := [.ref 58]) ok dX4_clerkLine_22 iX4_fresh (lX4_124 rfl) (rcv cls4 (congrArg Prod.fst s_41)) (ltK hnn (by decide)) (c_X4_fresh ro hnn hf  isTb_58 htp (hp2)) (by decide) rfl (Nat.le_of_ble_eq_true rfl) ?_
  refine w_istore_n ok dX4_clerkLine_25 rfl (by decide) rfl ?_
  refine w_aload_n ok dX4_clerkLine_26 1 rfl ?_
  refine w_iconst (v := 0) ok dX4_clerkLine_27 (by decide) ?_
  refine w_bipush (v := 63) ok dX4_clerkLine_28 (by decide) ?_
  refine w_cV (As := [.int 0, .int 63]) ok dX4_clerkLine_30 iX4_number (lX4_128 rfl) (rcv cls4 (congrArg Prod.fst s_41)) (ltK hnn (by decide)) (c_X4_number ro hnn hf 0 63 htp (hp3)) (by decide) rfl (Nat.le_of_ble_eq_true rfl) ?_
  show WK K 0 0 33 [(1, .int (F_X4_fresh 58 (FI_X4_begin (F_X7_isFull 58 I J) I J) J)), (0, .ref 41)] [.int (F_X4_number 0 63 (FI_X4_fresh 58 (FI_X4_begin (F_X7_isFull 58 I J) I J) J) J)] (eI f (S1_X4_clerkLine I J)) (eJ f J) R n g
  refine w_istore_n ok dX4_clerkLine_33 rfl (by decide) rfl ?_
  refine w_aload_n ok dX4_clerkLine_34 2 rfl ?_
  refine y_getI ok dX4_clerkLine_35 (fX4_18 rfl) (congrArg Prod.fst s_41) rfl (ltK hnn (by decide)) (sdc hf (by decide)) ?_
  refine w_if_ne (tgt := 55) ok dX4_clerkLine_38 (by decide) (fun c1 => ?_) (fun c1 => ?_)
  · skip
    exact w_vret ok fin dX4_clerkLine_55 rfl (by unfold FI_X4_clerkLine; simp only [if_neg c1]; exact Pd.i)
  · skip
    refine w_aload_n ok dX4_clerkLine_41 2 rfl ?_
    refine w_getR ok dX4_clerkLine_42 (fX4_12 rfl) (congrArg Prod.fst s_41) rfl (r_41_0 ro) (ltK hnn (by decide)) ?_
    refine w_getR ok dX4_clerkLine_45 (fX4_161 rfl) (congrArg Prod.fst s_42) rfl (r_42_3 ro) (ltK hnn (by decide)) ?_
    refine w_iload_n ok dX4_clerkLine_48 1 rfl ?_
    refine w_iload_n ok dX4_clerkLine_49 0 rfl ?_
    refine w_iconst (v := 0) ok dX4_clerkLine_50 (by decide) ?_
    refine w_iconst (v := 0) ok dX4_clerkLine_51 (by decide) ?_
    refine w_cV (As := [.int (F_X4_fresh 58 (FI_X4_begin (F_X7_isFull 58 I J) I J) J), .int (F_X4_number 0 63 (FI_X4_fresh 58 (FI_X4_begin (F_X7_isFull 58 I J) I J) J) J), .int 0, .int 0]) ok dX4_clerkLine_52 iX7_add (lX4_131 rfl) (rcv cls7 (congrArg Prod.fst s_58)) (ltK hnn (by decide)) (c_X7_add ro hnn hf (F_X4_fresh 58 (FI_X4_begin (F_X7_isFull 58 I J) I J) J) (F_X4_number 0 63 (FI_X4_fresh 58 (FI_X4_begin (F_X7_isFull 58 I J) I J) J) J) 0 0 isTb_58) (by decide) rfl (Nat.le_of_ble_eq_true rfl) ?_
    show WK K 0 0 55 [(2, .int (F_X4_number 0 63 (FI_X4_fresh 58 (FI_X4_begin (F_X7_isFull 58 I J) I J) J) J)), (1, .int (F_X4_fresh 58 (FI_X4_begin (F_X7_isFull 58 I J) I J) J)), (0, .ref 41)] [] (eI f (S2_X4_clerkLine I J)) (eJ f J) R n g
    exact w_vret ok fin dX4_clerkLine_55 rfl (by unfold FI_X4_clerkLine; simp only [if_pos c1]; exact Pd.i)
def S1_X4_coldLine (I : SI) (J : SJ) : SI := FI_X4_number (F_X4_number 0 99 (FI_X4_begin (F_X7_isFull 63 I J) I J) J) 99 (FI_X4_number 0 99 (FI_X4_begin (F_X7_isFull 63 I J) I J) J) J
def S2_X4_coldLine (I : SI) (J : SJ) : Int32 := F_X4_number (F_X4_number 0 99 (FI_X4_begin (F_X7_isFull 63 I J) I J) J) 99 (FI_X4_number 0 99 (FI_X4_begin (F_X7_isFull 63 I J) I J) J) J
def S3_X4_coldLine (I : SI) (J : SJ) : SI := FI_X7_add 63 0 (F_X4_number 0 99 (FI_X4_begin (F_X7_isFull 63 I J) I J) J) (S2_X4_coldLine I J) 0 (S1_X4_coldLine I J) J
def FI_X4_coldLine  (I : SI) (J : SJ) : SI := if (((S1_X4_coldLine I J)) 41 1) = 0 then (S3_X4_coldLine I J) else (S1_X4_coldLine I J)
def H_X4_coldLine  (I : SI) (J : SJ) : Prop := (H_X4_begin (F_X7_isFull 63 I J) I J) ∧ (H_X4_number 0 99 (FI_X4_begin (F_X7_isFull 63 I J) I J) J) ∧ (H_X4_number (F_X4_number 0 99 (FI_X4_begin (F_X7_isFull 63 I J) I J) J) 99 (FI_X4_number 0 99 (FI_X4_begin (F_X7_isFull 63 I J) I J) J) J)
set_option maxHeartbeats 1000000 in
set_option maxRecDepth 40000 in
theorem c_X4_coldLine {I : SI} {J : SJ} {R : SR} {n g : Nat} {f : Fr} (ro : RO R) (hnn : nK ≤ n) (hf : f.1 = true)  (htp : R 81 1 = some 1)  (hp : H_X4_coldLine  I J) : MM 4 0 0 mX4_coldLine [.ref 41] (eI f I) (eJ f J) R n g (Pd none (eI f (FI_X4_coldLine  I J)) (eJ f J) R n g) := by
  refine MM.of (by decide) (Nat.le_of_ble_eq_true rfl) fun K ok fin => ?_
  show WK K 0 0 0 [(0, .ref 41)] [] (eI f I) (eJ f J) R n g
  obtain ⟨hp1, hp2, hp3⟩ := hp
  refine w_aload_n ok dX4_coldLine_0 0 rfl ?_
  refine w_aload_n ok dX4_coldLine_1 0 rfl ?_
  refine w_getR ok dX4_coldLine_2 (fX4_12 rfl) (congrArg Prod.fst s_41) rfl (r_41_0 ro) (ltK hnn (by decide)) ?_
  refine w_getR ok dX4_coldLine_5 (fX4_164 rfl) (congrArg Prod.fst s_42) rfl (r_42_4 ro) (ltK hnn (by decide)) ?_
  refine w_cV (As := []) ok dX4_coldLine_8 iX7_isFull (lX4_115 rfl) (rcv cls7 (congrArg Prod.fst s_63)) (ltK hnn (by decide)) (c_X7_isFull ro hnn hf  isTb_63) (by decide) rfl (Nat.le_of_ble_eq_true rfl) ?_
  show WK K 0 0 11 [(0, .ref 41)] [.int (F_X7_isFull 63 I J), .ref 41] (eI f I) (eJ f J) R n g
  refine w_cV (As := [.int (F_X7_isFull 63 I J)]) ok dX4_coldLine_11 iX4_begin (lX4_121 rfl) (rcv cls4 (congrArg Prod.fst s_41)) (ltK hnn (by decide)) (c_X4_begin ro hnn hf (F_X7_isFull 63 I J) htp (hp1)) (by decide) rfl (Nat.le_of_ble_eq_true rfl) ?_
  refine w_aload_n ok dX4_coldLine_14 0 rfl ?_
  refine w_iconst (v := 0) ok dX4_coldLine_15 (by decide) ?_
  refine w_bipush (v := 99) ok dX4_coldLine_16 (by decide) ?_
  refine w_cV (As := [.int 0, .int 99]) ok dX4_coldLine_18 iX4_number (lX4_128 rfl) (rcv cls4 (congrArg Prod.fst s_41)) (ltK hnn (by decide)) (c_X4_number ro hnn hf 0 99 htp (hp2)) (by decide) rfl (Nat.le_of_ble_eq_true rfl) ?_
  refine w_istore_n ok dX4_coldLine_21 rfl (by decide) rfl ?_
  refine w_aload_n ok dX4_coldLine_22 1 rfl ?_
  refine w_iload_n ok dX4_coldLine_23 0 rfl ?_
  refine w_bipush (v := 99) ok dX4_coldLine_24 (by decide) ?_
  refine w_cV (As := [.int (F_X4_number 0 99 (FI_X4_begin (F_X7_isFull 63 I J) I J) J), .int 99]) ok dX4_coldLine_26 iX4_number (lX4_128 rfl) (rcv cls4 (congrArg Prod.fst s_41)) (ltK hnn (by decide)) (c_X4_number ro hnn hf (F_X4_number 0 99 (FI_X4_begin (F_X7_isFull 63 I J) I J) J) 99 htp (hp3)) (by decide) rfl (Nat.le_of_ble_eq_true rfl) ?_
  show WK K 0 0 29 [(1, .int (F_X4_number 0 99 (FI_X4_begin (F_X7_isFull 63 I J) I J) J)), (0, .ref 41)] [.int (S2_X4_coldLine I J)] (eI f (S1_X4_coldLine I J)) (eJ f J) R n g
  refine w_istore_n ok dX4_coldLine_29 rfl (by decide) rfl ?_
  refine w_aload_n ok dX4_coldLine_30 2 rfl ?_
  refine y_getI ok dX4_coldLine_31 (fX4_18 rfl) (congrArg Prod.fst s_41) rfl (ltK hnn (by decide)) (sdc hf (by decide)) ?_
  refine w_if_ne (tgt := 51) ok dX4_coldLine_34 (by decide) (fun c1 => ?_) (fun c1 => ?_)
  · skip
    exact w_vret ok fin dX4_coldLine_51 rfl (by unfold FI_X4_coldLine; simp only [if_neg c1]; exact Pd.i)
  · skip
    refine w_aload_n ok dX4_coldLine_37 2 rfl ?_
    refine w_getR ok dX4_coldLine_38 (fX4_12 rfl) (congrArg Prod.fst s_41) rfl (r_41_0 ro) (ltK hnn (by decide)) ?_
    refine w_getR ok dX4_coldLine_41 (fX4_164 rfl) (congrArg Prod.fst s_42) rfl (r_42_4 ro) (ltK hnn (by decide)) ?_
    refine w_iconst (v := 0) ok dX4_coldLine_44 (by decide) ?_
    refine w_iload_n ok dX4_coldLine_45 1 rfl ?_
    refine w_iload_n ok dX4_coldLine_46 0 rfl ?_
    refine w_iconst (v := 0) ok dX4_coldLine_47 (by decide) ?_
    refine w_cV (As := [.int 0, .int (F_X4_number 0 99 (FI_X4_begin (F_X7_isFull 63 I J) I J) J), .int (S2_X4_coldLine I J), .int 0]) ok dX4_coldLine_48 iX7_add (lX4_131 rfl) (rcv cls7 (congrArg Prod.fst s_63)) (ltK hnn (by decide)) (c_X7_add ro hnn hf 0 (F_X4_number 0 99 (FI_X4_begin (F_X7_isFull 63 I J) I J) J) (S2_X4_coldLine I J) 0 isTb_63) (by decide) rfl (Nat.le_of_ble_eq_true rfl) ?_
    show WK K 0 0 51 [(2, .int (S2_X4_coldLine I J)), (1, .int (F_X4_number 0 99 (FI_X4_begin (F_X7_isFull 63 I J) I J) J)), (0, .ref 41)] [] (eI f (S3_X4_coldLine I J)) (eJ f J) R n g
    exact w_vret ok fin dX4_coldLine_51 rfl (by unfold FI_X4_coldLine; simp only [if_pos c1]; exact Pd.i)
def F_X4_onlyOnce (a0 : Int32) (a1 : Int32) (I : SI) (J : SJ) : Int32 := if a0 < 0 then F_X4_number 0 a1 (FI_X8_step  I J) J else F_X4_number 0 a1 (FI_X8_step  (FI_X4_fail 3 I J) J) J
def FI_X4_onlyOnce (a0 : Int32) (a1 : Int32) (I : SI) (J : SJ) : SI := if a0 < 0 then FI_X4_number 0 a1 (FI_X8_step  I J) J else FI_X4_number 0 a1 (FI_X8_step  (FI_X4_fail 3 I J) J) J
def H_X4_onlyOnce (a0 : Int32) (a1 : Int32) (I : SI) (J : SJ) : Prop := (a0 < 0 → H_X8_step  I J) ∧ (a0 < 0 → H_X4_number 0 a1 (FI_X8_step  I J) J) ∧ (¬ (a0 < 0) → H_X8_step  (FI_X4_fail 3 I J) J) ∧ (¬ (a0 < 0) → H_X4_number 0 a1 (FI_X8_step  (FI_X4_fail 3 I J) J) J)
set_option maxHeartbeats 1000000 in
set_option maxRecDepth 40000 in
theorem c_X4_onlyOnce {I : SI} {J : SJ} {R : SR} {n g : Nat} {f : Fr} (ro : RO R) (hnn : nK ≤ n) (hf : f.1 = true) (a0 : Int32) (a1 : Int32) (htp : R 81 1 = some 1)  (hp : H_X4_onlyOnce a0 a1 I J) : MM 4 0 0 mX4_onlyOnce [.ref 41, .int a0, .int a1] (eI f I) (eJ f J) R n g (Pd (some (.int (F_X4_onlyOnce a0 a1 I J))) (eI f (FI_X4_onlyOnce a0 a1 I J)) (eJ f J) R n g) := by
  refine MM.of (by decide) (Nat.le_of_ble_eq_true rfl) fun K ok fin => ?_
  show WK K 0 0 0 [(0, .ref 41), (1, .int a0), (2, .int a1)] [] (eI f I) (eJ f J) R n g
  obtain ⟨hp1, hp2, hp3, hp4⟩ := hp
  refine w_iload_n ok dX4_onlyOnce_0 1 rfl ?_
  refine w_if_lt (tgt := 9) ok dX4_onlyOnce_1 (by decide) (fun c1 => ?_) (fun c1 => ?_)
  · skip
    refine w_aload_n ok dX4_onlyOnce_9 0 rfl ?_
    refine w_getR ok dX4_onlyOnce_10 (fX4_28 rfl) (congrArg Prod.fst s_41) rfl (r_41_3 ro) (ltK hnn (by decide)) ?_
    refine w_cV (As := []) ok dX4_onlyOnce_13 iX8_step (lX4_65 rfl) (rcv cls8 (congrArg Prod.fst s_81)) (ltK hnn (by decide)) (c_X8_step ro hnn hf  htp (hp1 c1)) (by decide) rfl (Nat.le_of_ble_eq_true rfl) ?_
    refine w_aload_n ok dX4_onlyOnce_16 0 rfl ?_
    refine w_iconst (v := 0) ok dX4_onlyOnce_17 (by decide) ?_
    refine w_iload_n ok dX4_onlyOnce_18 2 rfl ?_
    refine w_cV (As := [.int 0, .int a1]) ok dX4_onlyOnce_19 iX4_number (lX4_128 rfl) (rcv cls4 (congrArg Prod.fst s_41)) (ltK hnn (by decide)) (c_X4_number ro hnn hf 0 a1 htp (hp2 c1)) (by decide) rfl (Nat.le_of_ble_eq_true rfl) ?_
    exact w_iret ok fin dX4_onlyOnce_22 rfl (by unfold F_X4_onlyOnce FI_X4_onlyOnce; simp only [if_pos c1]; exact Pd.i)
  · skip
    refine w_aload_n ok dX4_onlyOnce_4 0 rfl ?_
    refine w_iconst (v := 3) ok dX4_onlyOnce_5 (by decide) ?_
    refine w_cV (As := [.int 3]) ok dX4_onlyOnce_6 iX4_fail (lX4_58 rfl) (rcv cls4 (congrArg Prod.fst s_41)) (ltK hnn (by decide)) (c_X4_fail ro hnn hf 3 ) (by decide) rfl (Nat.le_of_ble_eq_true rfl) ?_
    refine w_aload_n ok dX4_onlyOnce_9 0 rfl ?_
    refine w_getR ok dX4_onlyOnce_10 (fX4_28 rfl) (congrArg Prod.fst s_41) rfl (r_41_3 ro) (ltK hnn (by decide)) ?_
    refine w_cV (As := []) ok dX4_onlyOnce_13 iX8_step (lX4_65 rfl) (rcv cls8 (congrArg Prod.fst s_81)) (ltK hnn (by decide)) (c_X8_step ro hnn hf  htp (hp3 c1)) (by decide) rfl (Nat.le_of_ble_eq_true rfl) ?_
    refine w_aload_n ok dX4_onlyOnce_16 0 rfl ?_
    refine w_iconst (v := 0) ok dX4_onlyOnce_17 (by decide) ?_
    refine w_iload_n ok dX4_onlyOnce_18 2 rfl ?_
    refine w_cV (As := [.int 0, .int a1]) ok dX4_onlyOnce_19 iX4_number (lX4_128 rfl) (rcv cls4 (congrArg Prod.fst s_41)) (ltK hnn (by decide)) (c_X4_number ro hnn hf 0 a1 htp (hp4 c1)) (by decide) rfl (Nat.le_of_ble_eq_true rfl) ?_
    exact w_iret ok fin dX4_onlyOnce_22 rfl (by unfold F_X4_onlyOnce FI_X4_onlyOnce; simp only [if_neg c1]; exact Pd.i)
def B_X4_side_l14_3 (a0 : Nat) (I : SI) (J : SJ) (i14 : Nat) (s14 : Int32 × SI) : (Int32 × SI) ⊕ (SI) := if (s14.2 41 1) = 0 then (if s14.1 = 0 then (if (s14.2 41 7) = 0 then (if (s14.2 81 5) = 4 then .inr (FI_X4_join a0 1 s14.2 J) else .inl ((F_X4_sign a0 s14.2 J), (FI_X8_step  (FI_X4_sign a0 s14.2 J) J))) else .inl ((F_X4_sign a0 s14.2 J), (FI_X8_step  (FI_X4_sign a0 s14.2 J) J))) else .inl ((F_X4_operand a0 s14.2 J), (FI_X8_step  (FI_X4_operand a0 s14.2 J) J))) else .inr s14.2
def F_X4_side_l14_3 (a0 : Nat) (I : SI) (J : SJ) (s0 : Int32 × SI) : (Int32 × SI) ⊕ (SI) := itE (B_X4_side_l14_3 a0 I J) (701) 0 s0
def FI_X4_side (a0 : Nat) (I : SI) (J : SJ) : SI := (match (F_X4_side_l14_3 a0 I J (1, (u2 (u2 I 41 6 0) 41 7 0))) with | .inl se14 => se14.2 | .inr re14 => re14)
def H_X4_side (a0 : Nat) (I : SI) (J : SJ) : Prop := (∀ (i14 : Nat) (s14 : Int32 × SI), i14 < 701 → itE (B_X4_side_l14_3 a0 I J) i14 0 (1, (u2 (u2 I 41 6 0) 41 7 0)) = .inl s14 → (s14.2 41 1) = 0 → ¬ (s14.1 = 0) → H_X4_operand a0 s14.2 J) ∧ (∀ (i14 : Nat) (s14 : Int32 × SI), i14 < 701 → itE (B_X4_side_l14_3 a0 I J) i14 0 (1, (u2 (u2 I 41 6 0) 41 7 0)) = .inl s14 → (s14.2 41 1) = 0 → ¬ (s14.1 = 0) → H_X8_step  (FI_X4_operand a0 s14.2 J) J) ∧ (∀ (i14 : Nat) (s14 : Int32 × SI), i14 < 701 → itE (B_X4_side_l14_3 a0 I J) i14 0 (1, (u2 (u2 I 41 6 0) 41 7 0)) = .inl s14 → (s14.2 41 1) = 0 → s14.1 = 0 → ¬ ((s14.2 41 7) = 0) → H_X4_sign a0 s14.2 J) ∧ (∀ (i14 : Nat) (s14 : Int32 × SI), i14 < 701 → itE (B_X4_side_l14_3 a0 I J) i14 0 (1, (u2 (u2 I 41 6 0) 41 7 0)) = .inl s14 → (s14.2 41 1) = 0 → s14.1 = 0 → ¬ ((s14.2 41 7) = 0) → H_X8_step  (FI_X4_sign a0 s14.2 J) J) ∧ (∀ (i14 : Nat) (s14 : Int32 × SI), i14 < 701 → itE (B_X4_side_l14_3 a0 I J) i14 0 (1, (u2 (u2 I 41 6 0) 41 7 0)) = .inl s14 → (s14.2 41 1) = 0 → s14.1 = 0 → (s14.2 41 7) = 0 → ¬ ((s14.2 81 5) = 4) → H_X4_sign a0 s14.2 J) ∧ (∀ (i14 : Nat) (s14 : Int32 × SI), i14 < 701 → itE (B_X4_side_l14_3 a0 I J) i14 0 (1, (u2 (u2 I 41 6 0) 41 7 0)) = .inl s14 → (s14.2 41 1) = 0 → s14.1 = 0 → (s14.2 41 7) = 0 → ¬ ((s14.2 81 5) = 4) → H_X8_step  (FI_X4_sign a0 s14.2 J) J) ∧ (∀ (i14 : Nat) (s14 : Int32 × SI), i14 < 701 → itE (B_X4_side_l14_3 a0 I J) i14 0 (1, (u2 (u2 I 41 6 0) 41 7 0)) = .inl s14 → (s14.2 41 1) = 0 → s14.1 = 0 → (s14.2 41 7) = 0 → (s14.2 81 5) = 4 → H_X4_join a0 1 s14.2 J)
set_option maxHeartbeats 1120000 in
set_option maxRecDepth 40000 in
theorem c_X4_side {I : SI} {J : SJ} {R : SR} {n g : Nat} {f : Fr} (ro : RO R) (hnn : nK ≤ n) (hf : f.1 = true) {a0 : Nat} (ha0 : IsLw a0) (htp : R 81 1 = some 1)  (hp : H_X4_side a0 I J) : MM 3 0 0 mX4_side [.ref 41, .ref a0] (eI f I) (eJ f J) R n g (Pd none (eI f (FI_X4_side a0 I J)) (eJ f J) R n g) := by
  refine MM.of (by decide) (Nat.le_of_ble_eq_true rfl) fun K ok fin => ?_
  show WK K 0 0 0 [(0, .ref 41), (1, .ref a0)] [] (eI f I) (eJ f J) R n g
  obtain ⟨hp1, hp2, hp3, hp4, hp5, hp6, hp7⟩ := hp
  refine w_iconst (v := 1) ok dX4_side_0 (by decide) ?_
  refine w_istore_n ok dX4_side_1 rfl (by decide) rfl ?_
  refine w_aload_n ok dX4_side_2 1 rfl ?_
  refine w_iconst (v := 0) ok dX4_side_3 (by decide) ?_
  refine y_putI ok dX4_side_4 (fwX4_39 rfl) (congrArg Prod.fst s_41) rfl (ltK hnn (by decide)) (sdc hf (by decide)) ?_
  refine w_aload_n ok dX4_side_7 1 rfl ?_
  refine w_iconst (v := 0) ok dX4_side_8 (by decide) ?_
  refine y_putI ok dX4_side_9 (fwX4_42 rfl) (congrArg Prod.fst s_41) rfl (ltK hnn (by decide)) (sdc hf (by decide)) ?_
  refine w_iconst (v := 0) ok dX4_side_12 (by decide) ?_
  refine w_istore_n ok dX4_side_13 rfl (by decide) rfl ?_
  refine w_loc [2, 3, 1, 0] rfl ?_
  refine loop_e (σ := Int32 × SI) (ρ := SI) (fun (i14 : Nat) (s14 : Int32 × SI) => WK K 0 0 14 [(0, .ref 41), (1, .ref a0), (2, .int s14.1), (3, .int (nI i14))] [] (eI f s14.2) (eJ f J) R n g) (B_X4_side_l14_3 a0 I J) (701) ((1, (u2 (u2 I 41 6 0) 41 7 0))) ?_ ?_
  · intro se14 he14
    have he14 : (F_X4_side_l14_3 a0 I J (1, (u2 (u2 I 41 6 0) 41 7 0))) = .inl se14 := he14
    show WK K 0 0 14 [(0, .ref 41), (1, .ref a0), (2, .int se14.1), (3, .int (nI 701))] [] (eI f se14.2) (eJ f J) R n g
    have e1 : (700 : Int32) < (nI 701) := (show nI 700 < nI 701 from nI_lt (by omega) (by decide))
    refine w_iload_n ok dX4_side_14 3 rfl ?_
    refine w_sipush (v := 700) ok dX4_side_15 (by decide) ?_
    refine w_icmp_gt (tgt := 88) ok dX4_side_18 (by decide) (fun _ => ?_) (fun h => absurd e1 h)
    exact w_vret ok fin dX4_side_88 rfl (by unfold FI_X4_side; simp only [he14]; exact Pd.i)
  · intro i14 s14 hi14 hs14 k14 kr14
    show WK K 0 0 14 [(0, .ref 41), (1, .ref a0), (2, .int s14.1), (3, .int (nI i14))] [] (eI f s14.2) (eJ f J) R n g
    have e2 : ¬ ((700 : Int32) < (nI i14)) := (show ¬ (nI 700 < nI i14) from nI_nlt (by omega) (by decide))
    refine w_iload_n ok dX4_side_14 3 rfl ?_
    refine w_sipush (v := 700) ok dX4_side_15 (by decide) ?_
    refine w_icmp_gt (tgt := 88) ok dX4_side_18 (by decide) (fun h => absurd h e2) (fun _ => ?_)
    refine w_aload_n ok dX4_side_21 0 rfl ?_
    refine y_getI ok dX4_side_22 (fX4_18 rfl) (congrArg Prod.fst s_41) rfl (ltK hnn (by decide)) (sdc hf (by decide)) ?_
    refine w_if_ne (tgt := 88) ok dX4_side_25 (by decide) (fun c3 => ?_) (fun c3 => ?_)
    · skip
      have eB : B_X4_side_l14_3 a0 I J i14 s14 = .inr s14.2 := by
        unfold B_X4_side_l14_3; exact (if_neg c3).trans (rfl)
      have hr : (F_X4_side_l14_3 a0 I J (1, (u2 (u2 I 41 6 0) 41 7 0))) = .inr s14.2 := kr14 _ eB
      exact w_vret ok fin dX4_side_88 rfl (by unfold FI_X4_side; simp only [hr]; exact Pd.i)
    · skip
      refine w_iload_n ok dX4_side_28 2 rfl ?_
      refine w_if_ne (tgt := 57) ok dX4_side_29 (by decide) (fun c4 => ?_) (fun c4 => ?_)
      · skip
        refine w_iload_n ok dX4_side_57 2 rfl ?_
        refine w_if_eq (tgt := 69) ok dX4_side_58 (by decide) (fun h => absurd h c4) (fun _ => ?_)
        refine w_aload_n ok dX4_side_61 0 rfl ?_
        refine w_aload_n ok dX4_side_62 1 rfl ?_
        refine w_cV (As := [.ref a0]) ok dX4_side_63 iX4_operand (lX4_196 rfl) (rcv cls4 (congrArg Prod.fst s_41)) (ltK hnn (by decide)) (c_X4_operand ro hnn hf  ha0 (hp1 i14 s14 hi14 hs14 c3 c4)) (by decide) rfl (Nat.le_of_ble_eq_true rfl) ?_
        refine w_goto (tgt := 74) ok dX4_side_66 (by decide) ?_
        refine w_istore_n ok dX4_side_74 rfl (by decide) rfl ?_
        refine w_aload_n ok dX4_side_75 1 rfl ?_
        refine w_getR ok dX4_side_76 (fX4_28 rfl) (congrArg Prod.fst s_41) rfl (r_41_3 ro) (ltK hnn (by decide)) ?_
        refine w_cV (As := []) ok dX4_side_79 iX8_step (lX4_65 rfl) (rcv cls8 (congrArg Prod.fst s_81)) (ltK hnn (by decide)) (c_X8_step ro hnn hf  htp (hp2 i14 s14 hi14 hs14 c3 c4)) (by decide) rfl (Nat.le_of_ble_eq_true rfl) ?_
        refine w_iinc (v := (nI i14) + 1) ok dX4_side_82 3 rfl rfl (by decide) rfl ?_
        refine w_goto (tgt := 14) ok dX4_side_85 (by decide) ?_
        have eB : B_X4_side_l14_3 a0 I J i14 s14 = .inl ((F_X4_operand a0 s14.2 J), (FI_X8_step  (FI_X4_operand a0 s14.2 J) J)) := by
          unfold B_X4_side_l14_3; exact (if_pos c3).trans ((if_neg c4).trans (rfl))
        have kk := k14 _ eB
        refine w_loc [2, 3, 1, 0] rfl ?_
        rw [nI_1 i14]
        exact kk
      · skip
        refine w_aload_n ok dX4_side_32 0 rfl ?_
        refine y_getI ok dX4_side_33 (fX4_42 rfl) (congrArg Prod.fst s_41) rfl (ltK hnn (by decide)) (sdc hf (by decide)) ?_
        refine w_if_ne (tgt := 57) ok dX4_side_36 (by decide) (fun c5 => ?_) (fun c5 => ?_)
        · skip
          refine w_iload_n ok dX4_side_57 2 rfl ?_
          refine w_if_eq (tgt := 69) ok dX4_side_58 (by decide) (fun _ => ?_) (fun h => absurd c4 h)
          refine w_aload_n ok dX4_side_69 0 rfl ?_
          refine w_aload_n ok dX4_side_70 1 rfl ?_
          refine w_cV (As := [.ref a0]) ok dX4_side_71 iX4_sign (lX4_200 rfl) (rcv cls4 (congrArg Prod.fst s_41)) (ltK hnn (by decide)) (c_X4_sign ro hnn hf  ha0 (hp3 i14 s14 hi14 hs14 c3 c4 c5)) (by decide) rfl (Nat.le_of_ble_eq_true rfl) ?_
          refine w_istore_n ok dX4_side_74 rfl (by decide) rfl ?_
          refine w_aload_n ok dX4_side_75 1 rfl ?_
          refine w_getR ok dX4_side_76 (fX4_28 rfl) (congrArg Prod.fst s_41) rfl (r_41_3 ro) (ltK hnn (by decide)) ?_
          refine w_cV (As := []) ok dX4_side_79 iX8_step (lX4_65 rfl) (rcv cls8 (congrArg Prod.fst s_81)) (ltK hnn (by decide)) (c_X8_step ro hnn hf  htp (hp4 i14 s14 hi14 hs14 c3 c4 c5)) (by decide) rfl (Nat.le_of_ble_eq_true rfl) ?_
          refine w_iinc (v := (nI i14) + 1) ok dX4_side_82 3 rfl rfl (by decide) rfl ?_
          refine w_goto (tgt := 14) ok dX4_side_85 (by decide) ?_
          have eB : B_X4_side_l14_3 a0 I J i14 s14 = .inl ((F_X4_sign a0 s14.2 J), (FI_X8_step  (FI_X4_sign a0 s14.2 J) J)) := by
            unfold B_X4_side_l14_3; exact (if_pos c3).trans ((if_pos c4).trans ((if_neg c5).trans (rfl)))
          have kk := k14 _ eB
          refine w_loc [2, 3, 1, 0] rfl ?_
          rw [nI_1 i14]
          exact kk
        · skip
          refine w_aload_n ok dX4_side_39 0 rfl ?_
          refine w_getR ok dX4_side_40 (fX4_28 rfl) (congrArg Prod.fst s_41) rfl (r_41_3 ro) (ltK hnn (by decide)) ?_
          refine y_getI ok dX4_side_43 (fX4_52 rfl) (congrArg Prod.fst s_81) rfl (ltK hnn (by decide)) (sdc hf (by decide)) ?_
          refine w_iconst (v := 4) ok dX4_side_46 (by decide) ?_
          refine w_icmp_ne (tgt := 57) ok dX4_side_47 (by decide) (fun c6 => ?_) (fun c6 => ?_)
          · skip
            refine w_iload_n ok dX4_side_57 2 rfl ?_
            refine w_if_eq (tgt := 69) ok dX4_side_58 (by decide) (fun _ => ?_) (fun h => absurd c4 h)
            refine w_aload_n ok dX4_side_69 0 rfl ?_
            refine w_aload_n ok dX4_side_70 1 rfl ?_
            refine w_cV (As := [.ref a0]) ok dX4_side_71 iX4_sign (lX4_200 rfl) (rcv cls4 (congrArg Prod.fst s_41)) (ltK hnn (by decide)) (c_X4_sign ro hnn hf  ha0 (hp5 i14 s14 hi14 hs14 c3 c4 c5 c6)) (by decide) rfl (Nat.le_of_ble_eq_true rfl) ?_
            refine w_istore_n ok dX4_side_74 rfl (by decide) rfl ?_
            refine w_aload_n ok dX4_side_75 1 rfl ?_
            refine w_getR ok dX4_side_76 (fX4_28 rfl) (congrArg Prod.fst s_41) rfl (r_41_3 ro) (ltK hnn (by decide)) ?_
            refine w_cV (As := []) ok dX4_side_79 iX8_step (lX4_65 rfl) (rcv cls8 (congrArg Prod.fst s_81)) (ltK hnn (by decide)) (c_X8_step ro hnn hf  htp (hp6 i14 s14 hi14 hs14 c3 c4 c5 c6)) (by decide) rfl (Nat.le_of_ble_eq_true rfl) ?_
            refine w_iinc (v := (nI i14) + 1) ok dX4_side_82 3 rfl rfl (by decide) rfl ?_
            refine w_goto (tgt := 14) ok dX4_side_85 (by decide) ?_
            have eB : B_X4_side_l14_3 a0 I J i14 s14 = .inl ((F_X4_sign a0 s14.2 J), (FI_X8_step  (FI_X4_sign a0 s14.2 J) J)) := by
              unfold B_X4_side_l14_3; exact (if_pos c3).trans ((if_pos c4).trans ((if_pos c5).trans ((if_neg c6).trans (rfl))))
            have kk := k14 _ eB
            refine w_loc [2, 3, 1, 0] rfl ?_
            rw [nI_1 i14]
            exact kk
          · skip
            refine w_aload_n ok dX4_side_50 0 rfl ?_
            refine w_aload_n ok dX4_side_51 1 rfl ?_
            refine w_iconst (v := 1) ok dX4_side_52 (by decide) ?_
            refine w_cV (As := [.ref a0, .int 1]) ok dX4_side_53 iX4_join (lX4_192 rfl) (rcv cls4 (congrArg Prod.fst s_41)) (ltK hnn (by decide)) (c_X4_join ro hnn hf 1 ha0 (hp7 i14 s14 hi14 hs14 c3 c4 c5 c6)) (by decide) rfl (Nat.le_of_ble_eq_true rfl) ?_
            have eB : B_X4_side_l14_3 a0 I J i14 s14 = .inr (FI_X4_join a0 1 s14.2 J) := by
              unfold B_X4_side_l14_3; exact (if_pos c3).trans ((if_pos c4).trans ((if_pos c5).trans ((if_pos c6).trans (rfl))))
            have hr : (F_X4_side_l14_3 a0 I J (1, (u2 (u2 I 41 6 0) 41 7 0))) = .inr (FI_X4_join a0 1 s14.2 J) := kr14 _ eB
            exact w_vret ok fin dX4_side_56 rfl (by unfold FI_X4_side; simp only [hr]; exact Pd.i)
def F_X11_noticeNow (a0 : Int32) (a1 : Int32) (I : SI) (J : SJ) : Int64 := if (F_X7_holds 8 a0 I J) = 0 then -9223372036854775808 else (if (F_X7_holds 3 a1 I J) = 0 then -9223372036854775808 else (if (0 : Int32) ≤ (F_X5_wayIn 86 a0 a1 I J) then F_X0_noticeWorth a0 a1 I J else -9223372036854775808))
def FJ_X11_noticeNow (a0 : Int32) (a1 : Int32) (I : SI) (J : SJ) : SJ := if (F_X7_holds 8 a0 I J) = 0 then J else (if (F_X7_holds 3 a1 I J) = 0 then J else (if (0 : Int32) ≤ (F_X5_wayIn 86 a0 a1 I J) then FJ_X0_noticeWorth a0 a1 I J else J))
def H_X11_noticeNow (a0 : Int32) (a1 : Int32) (I : SI) (J : SJ) : Prop := (¬ ((F_X7_holds 8 a0 I J) = 0) → ¬ ((F_X7_holds 3 a1 I J) = 0) → (0 : Int32) ≤ (F_X5_wayIn 86 a0 a1 I J) → H_X0_noticeWorth a0 a1 I J)
set_option maxHeartbeats 1000000 in
set_option maxRecDepth 40000 in
theorem c_X11_noticeNow {I : SI} {J : SJ} {R : SR} {n g : Nat} {f : Fr} (ro : RO R) (hnn : nK ≤ n) (hf : f.1 = true) (a0 : Int32) (a1 : Int32)  (hp : H_X11_noticeNow a0 a1 I J) : MM 4 0 0 mX11_noticeNow [.ref 0, .int a0, .int a1] (eI f I) (eJ f J) R n g (Pd (some (.long (F_X11_noticeNow a0 a1 I J))) (eI f I) (eJ f (FJ_X11_noticeNow a0 a1 I J)) R n g) := by
  refine MM.of (by decide) (Nat.le_of_ble_eq_true rfl) fun K ok fin => ?_
  show WK K 0 0 0 [(0, .ref 0), (1, .int a0), (2, .int a1)] [] (eI f I) (eJ f J) R n g
  have hp1 := hp
  refine w_aload_n ok dX11_noticeNow_0 0 rfl ?_
  refine w_getR ok dX11_noticeNow_1 (fX11_20 rfl) (congrArg Prod.fst s_0) rfl (r_0_2 ro) (ltK hnn (by decide)) ?_
  refine w_getR ok dX11_noticeNow_4 (fX11_122 rfl) (congrArg Prod.fst s_2) rfl (r_2_1 ro) (ltK hnn (by decide)) ?_
  refine w_iload_n ok dX11_noticeNow_7 1 rfl ?_
  refine w_cV (As := [.int a0]) ok dX11_noticeNow_8 iX7_holds (lX11_131 rfl) (rcv cls7 (congrArg Prod.fst s_8)) (ltK hnn (by decide)) (c_X7_holds ro hnn hf a0 isTb_8) (by decide) rfl (Nat.le_of_ble_eq_true rfl) ?_
  refine w_if_eq (tgt := 40) ok dX11_noticeNow_11 (by decide) (fun c1 => ?_) (fun c1 => ?_)
  · skip
    refine w_ldc2 ok dX11_noticeNow_40 kX11_202 ?_
    exact w_lret ok fin dX11_noticeNow_43 rfl (by unfold F_X11_noticeNow FJ_X11_noticeNow; simp only [if_pos c1]; exact Pd.i)
  · skip
    refine w_aload_n ok dX11_noticeNow_14 0 rfl ?_
    refine w_getR ok dX11_noticeNow_15 (fX11_20 rfl) (congrArg Prod.fst s_0) rfl (r_0_2 ro) (ltK hnn (by decide)) ?_
    refine w_getR ok dX11_noticeNow_18 (fX11_112 rfl) (congrArg Prod.fst s_2) rfl (r_2_0 ro) (ltK hnn (by decide)) ?_
    refine w_iload_n ok dX11_noticeNow_21 2 rfl ?_
    refine w_cV (As := [.int a1]) ok dX11_noticeNow_22 iX7_holds (lX11_131 rfl) (rcv cls7 (congrArg Prod.fst s_3)) (ltK hnn (by decide)) (c_X7_holds ro hnn hf a1 isTb_3) (by decide) rfl (Nat.le_of_ble_eq_true rfl) ?_
    refine w_if_eq (tgt := 40) ok dX11_noticeNow_25 (by decide) (fun c2 => ?_) (fun c2 => ?_)
    · skip
      refine w_ldc2 ok dX11_noticeNow_40 kX11_202 ?_
      exact w_lret ok fin dX11_noticeNow_43 rfl (by unfold F_X11_noticeNow FJ_X11_noticeNow; simp only [if_neg c1]; simp only [if_pos c2]; exact Pd.i)
    · skip
      refine w_aload_n ok dX11_noticeNow_28 0 rfl ?_
      refine w_getR ok dX11_noticeNow_29 (fX11_34 rfl) (congrArg Prod.fst s_0) rfl (r_0_4 ro) (ltK hnn (by decide)) ?_
      refine w_iload_n ok dX11_noticeNow_32 1 rfl ?_
      refine w_iload_n ok dX11_noticeNow_33 2 rfl ?_
      refine w_cV (As := [.int a0, .int a1]) ok dX11_noticeNow_34 iX5_wayIn (lX11_180 rfl) (rcv cls5 (congrArg Prod.fst s_86)) (ltK hnn (by decide)) (c_X5_wayIn ro hnn hf a0 a1 isSc_86) (by decide) rfl (Nat.le_of_ble_eq_true rfl) ?_
      refine w_if_ge (tgt := 44) ok dX11_noticeNow_37 (by decide) (fun c3 => ?_) (fun c3 => ?_)
      · skip
        refine w_aload_n ok dX11_noticeNow_44 0 rfl ?_
        refine w_getR ok dX11_noticeNow_45 (fX11_50 rfl) (congrArg Prod.fst s_0) rfl (r_0_7 ro) (ltK hnn (by decide)) ?_
        refine w_iload_n ok dX11_noticeNow_48 1 rfl ?_
        refine w_iload_n ok dX11_noticeNow_49 2 rfl ?_
        refine w_cV (As := [.int a0, .int a1]) ok dX11_noticeNow_50 iX0_noticeWorth (lX11_208 rfl) (rcv cls0 (congrArg Prod.fst s_104)) (ltK hnn (by decide)) (c_X0_noticeWorth ro hnn hf a0 a1  (hp1 c1 c2 c3)) (by decide) rfl (Nat.le_of_ble_eq_true rfl) ?_
        exact w_lret ok fin dX11_noticeNow_53 rfl (by unfold F_X11_noticeNow FJ_X11_noticeNow; simp only [if_neg c1]; simp only [if_neg c2]; simp only [if_pos c3]; exact Pd.i)
      · skip
        refine w_ldc2 ok dX11_noticeNow_40 kX11_202 ?_
        exact w_lret ok fin dX11_noticeNow_43 rfl (by unfold F_X11_noticeNow FJ_X11_noticeNow; simp only [if_neg c1]; simp only [if_neg c2]; simp only [if_neg c3]; exact Pd.i)
def S3_X0_film (a0 : Int32) (a1 : Int32) (I : SI) (J : SJ) (s14 : Int32 × SI × SJ) : SI := u2 (putF s14.2.1 109 48 ((a0 * 6) + s14.1) (atF (s14.2.1 110) 6 s14.1)) 105 2 (((putF s14.2.1 109 48 ((a0 * 6) + s14.1) (atF (s14.2.1 110) 6 s14.1)) 105 2) + 1)
def T_X0_film_j104 (a0 : Int32) (a1 : Int32) (I : SI) (J : SJ) (s14 : Int32 × SI × SJ) : SI := if (F_X5_wayIn 105 a0 s14.1 s14.2.1 s14.2.2) < 0 then s14.2.1 else (if (atF (s14.2.1 110) 6 s14.1) < 0 then s14.2.1 else (if (F_X5_wayIn 105 a0 s14.1 s14.2.1 s14.2.2) = (atF (s14.2.1 110) 6 s14.1) then s14.2.1 else (S3_X0_film a0 a1 I J s14)))
def T_X0_film_j138 (a0 : Int32) (a1 : Int32) (I : SI) (J : SJ) (s14 : Int32 × SI × SJ) : Int32 := if (atF ((T_X0_film_j104 a0 a1 I J s14) 114) 6 s14.1) < 50 then 0 else 1
def S1_X0_film (a0 : Int32) (a1 : Int32) (I : SI) (J : SJ) (s14 : Int32 × SI × SJ) : Int32 := F_X0_isSo (F_X0_noticeWorth a0 s14.1 (T_X0_film_j104 a0 a1 I J s14) s14.2.2) (T_X0_film_j138 a0 a1 I J s14) (T_X0_film_j104 a0 a1 I J s14) (FJ_X0_noticeWorth a0 s14.1 (T_X0_film_j104 a0 a1 I J s14) s14.2.2)
def S2_X0_film (a0 : Int32) (a1 : Int32) (I : SI) (J : SJ) (s14 : Int32 × SI × SJ) : SI := putF (T_X0_film_j104 a0 a1 I J s14) 110 6 s14.1 (F_X5_wayIn 105 a0 s14.1 s14.2.1 s14.2.2)
def B_X0_film_w14 (a0 : Int32) (a1 : Int32) (I : SI) (J : SJ) (s14 : Int32 × SI × SJ) : (Int32 × SI × SJ) ⊕ (Int32 × SI × SJ) := if (s14.2.1 3 1) ≤ s14.1 then .inr (s14.1, s14.2.1, s14.2.2) else (if a1 = 0 then (if (F_X5_wayIn 105 a0 s14.1 s14.2.1 s14.2.2) < 0 then .inl ((s14.1 + 1), (T_X0_film_j104 a0 a1 I J s14), s14.2.2) else (if (0 : Int32) ≤ (atF (s14.2.1 110) 6 s14.1) then .inl ((s14.1 + 1), (T_X0_film_j104 a0 a1 I J s14), s14.2.2) else (if (S1_X0_film a0 a1 I J s14) = 0 then .inl ((s14.1 + 1), (T_X0_film_j104 a0 a1 I J s14), (FJ_X0_noticeWorth a0 s14.1 (T_X0_film_j104 a0 a1 I J s14) s14.2.2)) else .inl ((s14.1 + 1), (S2_X0_film a0 a1 I J s14), (FJ_X0_noticeWorth a0 s14.1 (T_X0_film_j104 a0 a1 I J s14) s14.2.2))))) else .inr (s14.1, s14.2.1, s14.2.2))
def F_X0_film_w14 (a0 : Int32) (a1 : Int32) (I : SI) (J : SJ) (s0 : Int32 × SI × SJ) : Int32 × SI × SJ := (itW (B_X0_film_w14 a0 a1 I J) 800 s0).getD s0
def FI_X0_film (a0 : Int32) (a1 : Int32) (I : SI) (J : SJ) : SI := (F_X0_film_w14 a0 a1 I J (0, (putF I 107 8 a0 1), J)).2.1
def FJ_X0_film (a0 : Int32) (a1 : Int32) (I : SI) (J : SJ) : SJ := (F_X0_film_w14 a0 a1 I J (0, (putF I 107 8 a0 1), J)).2.2
def H_X0_film (a0 : Int32) (a1 : Int32) (I : SI) (J : SJ) : Prop := ((itW (B_X0_film_w14 a0 a1 I J) 800 (0, (putF I 107 8 a0 1), J)).isSome = true) ∧ (∀ (n14 : Nat) (s14 : Int32 × SI × SJ), wN (B_X0_film_w14 a0 a1 I J) n14 (0, (putF I 107 8 a0 1), J) = some s14 → ¬ ((s14.2.1 3 1) ≤ s14.1) → a1 = 0 → ¬ ((F_X5_wayIn 105 a0 s14.1 s14.2.1 s14.2.2) < 0) → ¬ ((0 : Int32) ≤ (atF (s14.2.1 110) 6 s14.1)) → H_X0_noticeWorth a0 s14.1 (T_X0_film_j104 a0 a1 I J s14) s14.2.2) ∧ (∀ (n14 : Nat) (s14 : Int32 × SI × SJ), wN (B_X0_film_w14 a0 a1 I J) n14 (0, (putF I 107 8 a0 1), J) = some s14 → ¬ ((s14.2.1 3 1) ≤ s14.1) → a1 = 0 → ¬ ((F_X5_wayIn 105 a0 s14.1 s14.2.1 s14.2.2) < 0) → ¬ ((0 : Int32) ≤ (atF (s14.2.1 110) 6 s14.1)) → H_X0_isSo (F_X0_noticeWorth a0 s14.1 (T_X0_film_j104 a0 a1 I J s14) s14.2.2) (T_X0_film_j138 a0 a1 I J s14) (T_X0_film_j104 a0 a1 I J s14) (FJ_X0_noticeWorth a0 s14.1 (T_X0_film_j104 a0 a1 I J s14) s14.2.2))
set_option maxHeartbeats 1820000 in
set_option maxRecDepth 40000 in
theorem c_X0_film {I : SI} {J : SJ} {R : SR} {n g : Nat} {f : Fr} (ro : RO R) (hnn : nK ≤ n) (hf : f.1 = true) (a0 : Int32) (a1 : Int32)  (hp : H_X0_film a0 a1 I J) : MM 4 0 0 mX0_film [.ref 104, .int a0, .int a1] (eI f I) (eJ f J) R n g (Pd none (eI f (FI_X0_film a0 a1 I J)) (eJ f (FJ_X0_film a0 a1 I J)) R n g) := by
  refine MM.of (by decide) (Nat.le_of_ble_eq_true rfl) fun K ok fin => ?_
  show WK K 0 0 0 [(0, .ref 104), (1, .int a0), (2, .int a1)] [] (eI f I) (eJ f J) R n g
  obtain ⟨hp1, hp2, hp3⟩ := hp
  refine w_aload_n ok dX0_film_0 0 rfl ?_
  refine w_getR ok dX0_film_1 (fX0_12 rfl) (congrArg Prod.fst s_104) rfl (r_104_0 ro) (ltK hnn (by decide)) ?_
  refine w_getR ok dX0_film_4 (fX0_83 rfl) (congrArg Prod.fst s_105) rfl (r_105_8 ro) (ltK hnn (by decide)) ?_
  refine w_iload_n ok dX0_film_7 1 rfl ?_
  refine w_iconst (v := 1) ok dX0_film_8 (by decide) ?_
  refine w_cS (As := [.ref 107, .int a0, .int 1]) ok dX0_film_9 iX11_put (lX0_131 rfl) (c_put s_107 (ltK hnn (by decide)) (sdc hf (by decide)) a0 1) (by decide) rfl (Nat.le_of_ble_eq_true rfl) ?_
  refine w_iconst (v := 0) ok dX0_film_12 (by decide) ?_
  refine w_istore_n ok dX0_film_13 rfl (by decide) rfl ?_
  refine w_loc [1, 2, 3, 0] rfl ?_
  refine loop_w (fun (s14 : Int32 × SI × SJ) => WK K 0 0 14 [(0, .ref 104), (1, .int a0), (2, .int a1), (3, .int s14.1)] [] (eI f s14.2.1) (eJ f s14.2.2) R n g) (fun (s14 : Int32 × SI × SJ) => WK K 0 0 163 [(0, .ref 104), (1, .int a0), (2, .int a1), (3, .int s14.1)] [] (eI f s14.2.1) (eJ f s14.2.2) R n g) (B_X0_film_w14 a0 a1 I J) 800 (0, (putF I 107 8 a0 1), J) (F_X0_film_w14 a0 a1 I J (0, (putF I 107 8 a0 1), J)) (itW_some (hp1)) ?_ ?_
  · show WK K 0 0 163 [(0, .ref 104), (1, .int a0), (2, .int a1), (3, .int ((F_X0_film_w14 a0 a1 I J (0, (putF I 107 8 a0 1), J)).1))] [] (eI f ((F_X0_film_w14 a0 a1 I J (0, (putF I 107 8 a0 1), J)).2.1)) (eJ f ((F_X0_film_w14 a0 a1 I J (0, (putF I 107 8 a0 1), J)).2.2)) R n g
    exact w_vret ok fin dX0_film_163 rfl (by unfold FI_X0_film FJ_X0_film; exact Pd.i)
  · intro n14 s14 hs14 kc14 kx14
    show WK K 0 0 14 [(0, .ref 104), (1, .int a0), (2, .int a1), (3, .int s14.1)] [] (eI f s14.2.1) (eJ f s14.2.2) R n g
    refine w_iload_n ok dX0_film_14 3 rfl ?_
    refine w_aload_n ok dX0_film_15 0 rfl ?_
    refine w_getR ok dX0_film_16 (fX0_40 rfl) (congrArg Prod.fst s_104) rfl (r_104_3 ro) (ltK hnn (by decide)) ?_
    refine w_getR ok dX0_film_19 (fX0_48 rfl) (congrArg Prod.fst s_2) rfl (r_2_0 ro) (ltK hnn (by decide)) ?_
    refine y_getI ok dX0_film_22 (fX0_80 rfl) (congrArg Prod.fst s_3) rfl (ltK hnn (by decide)) (sdc hf (by decide)) ?_
    refine w_icmp_ge (tgt := 163) ok dX0_film_25 (by decide) (fun c1 => ?_) (fun c1 => ?_)
    · skip
      have eB : B_X0_film_w14 a0 a1 I J s14 = .inr (s14.1, s14.2.1, s14.2.2) := by
        unfold B_X0_film_w14; exact (if_pos c1).trans (rfl)
      refine w_loc [0, 1, 2, 3] rfl ?_
      have kk := kx14 _ eB
      exact kk
    · skip
      refine w_iload_n ok dX0_film_28 2 rfl ?_
      refine w_if_ne (tgt := 163) ok dX0_film_29 (by decide) (fun c2 => ?_) (fun c2 => ?_)
      · skip
        have eB : B_X0_film_w14 a0 a1 I J s14 = .inr (s14.1, s14.2.1, s14.2.2) := by
          unfold B_X0_film_w14; exact (if_neg c1).trans ((if_neg c2).trans (rfl))
        refine w_loc [0, 1, 2, 3] rfl ?_
        have kk := kx14 _ eB
        exact kk
      · skip
        refine w_aload_n ok dX0_film_32 0 rfl ?_
        refine w_getR ok dX0_film_33 (fX0_12 rfl) (congrArg Prod.fst s_104) rfl (r_104_0 ro) (ltK hnn (by decide)) ?_
        refine w_iload_n ok dX0_film_36 1 rfl ?_
        refine w_iload_n ok dX0_film_37 3 rfl ?_
        refine w_cV (As := [.int a0, .int s14.1]) ok dX0_film_38 iX5_wayIn (lX0_135 rfl) (rcv cls5 (congrArg Prod.fst s_105)) (ltK hnn (by decide)) (c_X5_wayIn ro hnn hf a0 s14.1 isSc_105) (by decide) rfl (Nat.le_of_ble_eq_true rfl) ?_
        refine w_istore ok dX0_film_41 (by decide) rfl ?_
        refine w_aload_n ok dX0_film_43 1 rfl ?_
        refine w_getR ok dX0_film_44 (fX0_12 rfl) (congrArg Prod.fst s_104) rfl (r_104_0 ro) (ltK hnn (by decide)) ?_
        refine w_getR ok dX0_film_47 (fX0_139 rfl) (congrArg Prod.fst s_105) rfl (r_105_11 ro) (ltK hnn (by decide)) ?_
        refine w_iload_n ok dX0_film_50 4 rfl ?_
        refine w_cS (As := [.ref 110, .int s14.1]) ok dX0_film_51 iX11_at (lX0_86 rfl) (c_at s_110 (ltK hnn (by decide)) (sdc hf (by decide)) s14.1) (by decide) rfl (Nat.le_of_ble_eq_true rfl) ?_
        refine w_istore ok dX0_film_54 (by decide) rfl ?_
        refine w_iload ok dX0_film_56 1 rfl ?_
        have jn3 : WK K 0 0 104 [(0, .ref 104), (1, .int a0), (2, .int a1), (3, .int s14.1), (4, .int (F_X5_wayIn 105 a0 s14.1 s14.2.1 s14.2.2)), (5, .int (atF (s14.2.1 110) 6 s14.1))] [] (eI f (T_X0_film_j104 a0 a1 I J s14)) (eJ f s14.2.2) R n g := by
          refine w_iload ok dX0_film_104 4 rfl ?_
          refine w_if_lt (tgt := 157) ok dX0_film_106 (by decide) (fun c4 => ?_) (fun c4 => ?_)
          · skip
            refine w_iinc (v := s14.1 + 1) ok dX0_film_157 3 rfl rfl (by decide) rfl ?_
            refine w_goto (tgt := 14) ok dX0_film_160 (by decide) ?_
            have eB : B_X0_film_w14 a0 a1 I J s14 = .inl ((s14.1 + 1), (T_X0_film_j104 a0 a1 I J s14), s14.2.2) := by
              unfold B_X0_film_w14; exact (if_neg c1).trans ((if_pos c2).trans ((if_pos c4).trans (rfl)))
            refine w_loc [1, 2, 3, 0] rfl ?_
            have kk := kc14 _ eB
            exact kk
          · skip
            refine w_iload ok dX0_film_109 5 rfl ?_
            refine w_if_ge (tgt := 157) ok dX0_film_111 (by decide) (fun c5 => ?_) (fun c5 => ?_)
            · skip
              refine w_iinc (v := s14.1 + 1) ok dX0_film_157 3 rfl rfl (by decide) rfl ?_
              refine w_goto (tgt := 14) ok dX0_film_160 (by decide) ?_
              have eB : B_X0_film_w14 a0 a1 I J s14 = .inl ((s14.1 + 1), (T_X0_film_j104 a0 a1 I J s14), s14.2.2) := by
                unfold B_X0_film_w14; exact (if_neg c1).trans ((if_pos c2).trans ((if_neg c4).trans ((if_pos c5).trans (rfl))))
              refine w_loc [1, 2, 3, 0] rfl ?_
              have kk := kc14 _ eB
              exact kk
            · skip
              refine w_aload_n ok dX0_film_114 0 rfl ?_
              refine w_iload_n ok dX0_film_115 1 rfl ?_
              refine w_iload_n ok dX0_film_116 3 rfl ?_
              refine w_cV (As := [.int a0, .int s14.1]) ok dX0_film_117 iX0_noticeWorth (lX0_148 rfl) (rcv cls0 (congrArg Prod.fst s_104)) (ltK hnn (by decide)) (c_X0_noticeWorth ro hnn hf a0 s14.1  (hp2 n14 s14 hs14 c1 c2 c4 c5)) (by decide) rfl (Nat.le_of_ble_eq_true rfl) ?_
              refine w_aload_n ok dX0_film_120 0 rfl ?_
              refine w_getR ok dX0_film_121 (fX0_18 rfl) (congrArg Prod.fst s_104) rfl (r_104_1 ro) (ltK hnn (by decide)) ?_
              refine w_iload_n ok dX0_film_124 3 rfl ?_
              refine w_cS (As := [.ref 114, .int s14.1]) ok dX0_film_125 iX11_at (lX0_86 rfl) (c_at s_114 (ltK hnn (by decide)) (sdc hf (by decide)) s14.1) (by decide) rfl (Nat.le_of_ble_eq_true rfl) ?_
              show WK K 0 0 128 [(0, .ref 104), (1, .int a0), (2, .int a1), (3, .int s14.1), (4, .int (F_X5_wayIn 105 a0 s14.1 s14.2.1 s14.2.2)), (5, .int (atF (s14.2.1 110) 6 s14.1))] [.int (atF ((T_X0_film_j104 a0 a1 I J s14) 114) 6 s14.1), .long (F_X0_noticeWorth a0 s14.1 (T_X0_film_j104 a0 a1 I J s14) s14.2.2)] (eI f (T_X0_film_j104 a0 a1 I J s14)) (eJ f (FJ_X0_noticeWorth a0 s14.1 (T_X0_film_j104 a0 a1 I J s14) s14.2.2)) R n g
              refine w_bipush (v := 50) ok dX0_film_128 (by decide) ?_
              have jn6 : WK K 0 0 138 [(0, .ref 104), (1, .int a0), (2, .int a1), (3, .int s14.1), (4, .int (F_X5_wayIn 105 a0 s14.1 s14.2.1 s14.2.2)), (5, .int (atF (s14.2.1 110) 6 s14.1))] [.int (T_X0_film_j138 a0 a1 I J s14), .long (F_X0_noticeWorth a0 s14.1 (T_X0_film_j104 a0 a1 I J s14) s14.2.2)] (eI f (T_X0_film_j104 a0 a1 I J s14)) (eJ f (FJ_X0_noticeWorth a0 s14.1 (T_X0_film_j104 a0 a1 I J s14) s14.2.2)) R n g := by
                refine w_cS (As := [.long (F_X0_noticeWorth a0 s14.1 (T_X0_film_j104 a0 a1 I J s14) s14.2.2), .int (T_X0_film_j138 a0 a1 I J s14)]) ok dX0_film_138 iX0_isSo (lX0_152 rfl) (c_X0_isSo ro hnn hf (F_X0_noticeWorth a0 s14.1 (T_X0_film_j104 a0 a1 I J s14) s14.2.2) (T_X0_film_j138 a0 a1 I J s14)  (hp3 n14 s14 hs14 c1 c2 c4 c5)) (by decide) rfl (Nat.le_of_ble_eq_true rfl) ?_
                show WK K 0 0 141 [(0, .ref 104), (1, .int a0), (2, .int a1), (3, .int s14.1), (4, .int (F_X5_wayIn 105 a0 s14.1 s14.2.1 s14.2.2)), (5, .int (atF (s14.2.1 110) 6 s14.1))] [.int (S1_X0_film a0 a1 I J s14)] (eI f (T_X0_film_j104 a0 a1 I J s14)) (eJ f (FJ_X0_noticeWorth a0 s14.1 (T_X0_film_j104 a0 a1 I J s14) s14.2.2)) R n g
                refine w_if_eq (tgt := 157) ok dX0_film_141 (by decide) (fun c7 => ?_) (fun c7 => ?_)
                · skip
                  refine w_iinc (v := s14.1 + 1) ok dX0_film_157 3 rfl rfl (by decide) rfl ?_
                  refine w_goto (tgt := 14) ok dX0_film_160 (by decide) ?_
                  have eB : B_X0_film_w14 a0 a1 I J s14 = .inl ((s14.1 + 1), (T_X0_film_j104 a0 a1 I J s14), (FJ_X0_noticeWorth a0 s14.1 (T_X0_film_j104 a0 a1 I J s14) s14.2.2)) := by
                    unfold B_X0_film_w14; exact (if_neg c1).trans ((if_pos c2).trans ((if_neg c4).trans ((if_neg c5).trans ((if_pos c7).trans (rfl)))))
                  refine w_loc [1, 2, 3, 0] rfl ?_
                  have kk := kc14 _ eB
                  exact kk
                · skip
                  refine w_aload_n ok dX0_film_144 0 rfl ?_
                  refine w_getR ok dX0_film_145 (fX0_12 rfl) (congrArg Prod.fst s_104) rfl (r_104_0 ro) (ltK hnn (by decide)) ?_
                  refine w_getR ok dX0_film_148 (fX0_139 rfl) (congrArg Prod.fst s_105) rfl (r_105_11 ro) (ltK hnn (by decide)) ?_
                  refine w_iload_n ok dX0_film_151 3 rfl ?_
                  refine w_iload ok dX0_film_152 4 rfl ?_
                  refine w_cS (As := [.ref 110, .int s14.1, .int (F_X5_wayIn 105 a0 s14.1 s14.2.1 s14.2.2)]) ok dX0_film_154 iX11_put (lX0_131 rfl) (c_put s_110 (ltK hnn (by decide)) (sdc hf (by decide)) s14.1 (F_X5_wayIn 105 a0 s14.1 s14.2.1 s14.2.2)) (by decide) rfl (Nat.le_of_ble_eq_true rfl) ?_
                  show WK K 0 0 157 [(0, .ref 104), (1, .int a0), (2, .int a1), (3, .int s14.1), (4, .int (F_X5_wayIn 105 a0 s14.1 s14.2.1 s14.2.2)), (5, .int (atF (s14.2.1 110) 6 s14.1))] [] (eI f (S2_X0_film a0 a1 I J s14)) (eJ f (FJ_X0_noticeWorth a0 s14.1 (T_X0_film_j104 a0 a1 I J s14) s14.2.2)) R n g
                  refine w_iinc (v := s14.1 + 1) ok dX0_film_157 3 rfl rfl (by decide) rfl ?_
                  refine w_goto (tgt := 14) ok dX0_film_160 (by decide) ?_
                  have eB : B_X0_film_w14 a0 a1 I J s14 = .inl ((s14.1 + 1), (S2_X0_film a0 a1 I J s14), (FJ_X0_noticeWorth a0 s14.1 (T_X0_film_j104 a0 a1 I J s14) s14.2.2)) := by
                    unfold B_X0_film_w14; exact (if_neg c1).trans ((if_pos c2).trans ((if_neg c4).trans ((if_neg c5).trans ((if_neg c7).trans (rfl)))))
                  refine w_loc [1, 2, 3, 0] rfl ?_
                  have kk := kc14 _ eB
                  exact kk
              refine w_icmp_lt (tgt := 137) ok dX0_film_130 (by decide) (fun c8 => ?_) (fun c8 => ?_)
              · skip
                refine w_iconst (v := 0) ok dX0_film_137 (by decide) ?_
                have eT : (T_X0_film_j138 a0 a1 I J s14) = 0 := by
                  unfold T_X0_film_j138; exact (if_pos c8).trans (rfl)
                refine w_loc [0, 1, 2, 3, 4, 5] rfl ?_
                have jj := jn6
                rw [eT] at jj
                exact jj
              · skip
                refine w_iconst (v := 1) ok dX0_film_133 (by decide) ?_
                refine w_goto (tgt := 138) ok dX0_film_134 (by decide) ?_
                have eT : (T_X0_film_j138 a0 a1 I J s14) = 1 := by
                  unfold T_X0_film_j138; exact (if_neg c8).trans (rfl)
                refine w_loc [0, 1, 2, 3, 4, 5] rfl ?_
                have jj := jn6
                rw [eT] at jj
                exact jj
        refine w_if_lt (tgt := 104) ok dX0_film_58 (by decide) (fun c9 => ?_) (fun c9 => ?_)
        · skip
          have eT : (T_X0_film_j104 a0 a1 I J s14) = s14.2.1 := by
            unfold T_X0_film_j104; exact (if_pos c9).trans (rfl)
          refine w_loc [2, 3, 4, 5, 1, 0] rfl ?_
          have jj := jn3
          rw [eT] at jj
          exact jj
        · skip
          refine w_iload ok dX0_film_61 0 rfl ?_
          refine w_if_lt (tgt := 104) ok dX0_film_63 (by decide) (fun c10 => ?_) (fun c10 => ?_)
          · skip
            have eT : (T_X0_film_j104 a0 a1 I J s14) = s14.2.1 := by
              unfold T_X0_film_j104; exact (if_neg c9).trans ((if_pos c10).trans (rfl))
            refine w_loc [2, 3, 4, 5, 1, 0] rfl ?_
            have jj := jn3
            rw [eT] at jj
            exact jj
          · skip
            refine w_iload ok dX0_film_66 1 rfl ?_
            refine w_iload ok dX0_film_68 0 rfl ?_
            refine w_icmp_eq (tgt := 104) ok dX0_film_70 (by decide) (fun c11 => ?_) (fun c11 => ?_)
            · skip
              have eT : (T_X0_film_j104 a0 a1 I J s14) = s14.2.1 := by
                unfold T_X0_film_j104; exact (if_neg c9).trans ((if_neg c10).trans ((if_pos c11).trans (rfl)))
              refine w_loc [2, 3, 4, 5, 1, 0] rfl ?_
              have jj := jn3
              rw [eT] at jj
              exact jj
            · skip
              refine w_aload_n ok dX0_film_73 2 rfl ?_
              refine w_getR ok dX0_film_74 (fX0_12 rfl) (congrArg Prod.fst s_104) rfl (r_104_0 ro) (ltK hnn (by decide)) ?_
              refine w_getR ok dX0_film_77 (fX0_142 rfl) (congrArg Prod.fst s_105) rfl (r_105_10 ro) (ltK hnn (by decide)) ?_
              refine w_iload_n ok dX0_film_80 3 rfl ?_
              refine w_bipush (v := 6) ok dX0_film_81 (by decide) ?_
              refine w_imul ok dX0_film_83 ?_
              refine w_iload_n ok dX0_film_84 5 rfl ?_
              refine w_iadd ok dX0_film_85 ?_
              refine w_iload ok dX0_film_86 0 rfl ?_
              refine w_cS (As := [.ref 109, .int ((a0 * 6) + s14.1), .int (atF (s14.2.1 110) 6 s14.1)]) ok dX0_film_88 iX11_put (lX0_131 rfl) (c_put s_109 (ltK hnn (by decide)) (sdc hf (by decide)) ((a0 * 6) + s14.1) (atF (s14.2.1 110) 6 s14.1)) (by decide) rfl (Nat.le_of_ble_eq_true rfl) ?_
              refine w_aload_n ok dX0_film_91 2 rfl ?_
              refine w_getR ok dX0_film_92 (fX0_12 rfl) (congrArg Prod.fst s_104) rfl (r_104_0 ro) (ltK hnn (by decide)) ?_
              refine w_dup ok dX0_film_95 rfl ?_
              refine y_getI ok dX0_film_96 (fX0_145 rfl) (congrArg Prod.fst s_105) rfl (ltK hnn (by decide)) (sdc hf (by decide)) ?_
              refine w_iconst (v := 1) ok dX0_film_99 (by decide) ?_
              refine w_iadd ok dX0_film_100 ?_
              refine y_putI ok dX0_film_101 (fwX0_145 rfl) (congrArg Prod.fst s_105) rfl (ltK hnn (by decide)) (sdc hf (by decide)) ?_
              show WK K 0 0 104 [(5, .int (atF (s14.2.1 110) 6 s14.1)), (4, .int (F_X5_wayIn 105 a0 s14.1 s14.2.1 s14.2.2)), (0, .ref 104), (1, .int a0), (2, .int a1), (3, .int s14.1)] [] (eI f (S3_X0_film a0 a1 I J s14)) (eJ f s14.2.2) R n g
              have eT : (T_X0_film_j104 a0 a1 I J s14) = (S3_X0_film a0 a1 I J s14) := by
                unfold T_X0_film_j104; exact (if_neg c9).trans ((if_neg c10).trans ((if_neg c11).trans (rfl)))
              refine w_loc [2, 3, 4, 5, 1, 0] rfl ?_
              have jj := jn3
              rw [eT] at jj
              exact jj
def S1_X0_give (a0 : Int32) (I : SI) (J : SJ) : SI := putF (putF I 112 4 a0 ((atF (I 112) 4 a0) - 1)) 113 4 a0 ((atF ((putF I 112 4 a0 ((atF (I 112) 4 a0) - 1)) 113) 4 a0) + 1)
def S2_X0_give (a0 : Int32) (I : SI) (J : SJ) : SI := putF (S1_X0_give a0 I J) 111 6 (atF (I 15) 8 a0) ((atF (I 111) 6 (atF (I 15) 8 a0)) + 1)
def S3_X0_give (a0 : Int32) (I : SI) (J : SJ) : SJ := FJ_X0_yieldWorth (atF (I 15) 8 a0) ((atF (I 111) 6 (atF (I 15) 8 a0)) + 1) (S2_X0_give a0 I J) J
def S4_X0_give (a0 : Int32) (I : SI) (J : SJ) : Int64 := F_X0_yieldWorth (atF (I 15) 8 a0) ((atF (I 111) 6 (atF (I 15) 8 a0)) + 1) (S2_X0_give a0 I J) J
def T_X0_give_j183 (a0 : Int32) (I : SI) (J : SJ) : Int32 := if ((atF (I 111) 6 (atF (I 15) 8 a0)) + 1) ≤ ((atF ((S2_X0_give a0 I J) 114) 6 (atF (I 15) 8 a0)) / 10) then 0 else 1
def S5_X0_give (a0 : Int32) (I : SI) (J : SJ) : Int32 := F_X0_isSo (S4_X0_give a0 I J) (T_X0_give_j183 a0 I J) (S2_X0_give a0 I J) (S3_X0_give a0 I J)
def FI_X0_give (a0 : Int32) (I : SI) (J : SJ) : SI := if a0 = (I 104 5) then I else (if (atF (I 112) 4 a0) ≤ 0 then I else (if (atF (I 110) 6 (atF (I 15) 8 a0)) < 0 then I else (if (atF (I 110) 6 (atF (I 15) 8 a0)) = (atF (I 16) 8 a0) then I else (if (((S2_X0_give a0 I J)) 104 7) = 0 then (S2_X0_give a0 I J) else (if (S5_X0_give a0 I J) = 0 then (S2_X0_give a0 I J) else putF (S2_X0_give a0 I J) 110 6 (atF (I 15) 8 a0) (atF (I 16) 8 a0))))))
def FJ_X0_give (a0 : Int32) (I : SI) (J : SJ) : SJ := if a0 = (I 104 5) then J else (if (atF (I 112) 4 a0) ≤ 0 then J else (if (atF (I 110) 6 (atF (I 15) 8 a0)) < 0 then J else (if (atF (I 110) 6 (atF (I 15) 8 a0)) = (atF (I 16) 8 a0) then J else (if (((S2_X0_give a0 I J)) 104 7) = 0 then J else (if (S5_X0_give a0 I J) = 0 then (S3_X0_give a0 I J) else (S3_X0_give a0 I J))))))
def H_X0_give (a0 : Int32) (I : SI) (J : SJ) : Prop := (¬ (a0 = (I 104 5)) → ¬ ((atF (I 112) 4 a0) ≤ 0) → ¬ ((atF (I 110) 6 (atF (I 15) 8 a0)) < 0) → ¬ ((atF (I 110) 6 (atF (I 15) 8 a0)) = (atF (I 16) 8 a0)) → ¬ ((((S2_X0_give a0 I J)) 104 7) = 0) → H_X0_yieldWorth (atF (I 15) 8 a0) ((atF (I 111) 6 (atF (I 15) 8 a0)) + 1) (S2_X0_give a0 I J) J) ∧ (¬ (a0 = (I 104 5)) → ¬ ((atF (I 112) 4 a0) ≤ 0) → ¬ ((atF (I 110) 6 (atF (I 15) 8 a0)) < 0) → ¬ ((atF (I 110) 6 (atF (I 15) 8 a0)) = (atF (I 16) 8 a0)) → ¬ ((((S2_X0_give a0 I J)) 104 7) = 0) → H_X0_isSo (S4_X0_give a0 I J) (T_X0_give_j183 a0 I J) (S2_X0_give a0 I J) (S3_X0_give a0 I J))
set_option maxHeartbeats 1380000 in
set_option maxRecDepth 40000 in
theorem c_X0_give {I : SI} {J : SJ} {R : SR} {n g : Nat} {f : Fr} (ro : RO R) (hnn : nK ≤ n) (hf : f.1 = true) (a0 : Int32)  (hp : H_X0_give a0 I J) : MM 4 0 0 mX0_give [.ref 104, .int a0] (eI f I) (eJ f J) R n g (Pd none (eI f (FI_X0_give a0 I J)) (eJ f (FJ_X0_give a0 I J)) R n g) := by
  refine MM.of (by decide) (Nat.le_of_ble_eq_true rfl) fun K ok fin => ?_
  show WK K 0 0 0 [(0, .ref 104), (1, .int a0)] [] (eI f I) (eJ f J) R n g
  obtain ⟨hp1, hp2⟩ := hp
  refine w_aload_n ok dX0_give_0 0 rfl ?_
  refine w_getR ok dX0_give_1 (fX0_40 rfl) (congrArg Prod.fst s_104) rfl (r_104_3 ro) (ltK hnn (by decide)) ?_
  refine w_getR ok dX0_give_4 (fX0_100 rfl) (congrArg Prod.fst s_2) rfl (r_2_2 ro) (ltK hnn (by decide)) ?_
  refine w_getR ok dX0_give_7 (fX0_54 rfl) (congrArg Prod.fst s_13) rfl (r_13_3 ro) (ltK hnn (by decide)) ?_
  refine w_iload_n ok dX0_give_10 1 rfl ?_
  refine w_cS (As := [.ref 15, .int a0]) ok dX0_give_11 iX11_at (lX0_86 rfl) (c_at s_15 (ltK hnn (by decide)) (sdc hf (by decide)) a0) (by decide) rfl (Nat.le_of_ble_eq_true rfl) ?_
  refine w_istore_n ok dX0_give_14 rfl (by decide) rfl ?_
  refine w_aload_n ok dX0_give_15 1 rfl ?_
  refine w_getR ok dX0_give_16 (fX0_40 rfl) (congrArg Prod.fst s_104) rfl (r_104_3 ro) (ltK hnn (by decide)) ?_
  refine w_getR ok dX0_give_19 (fX0_100 rfl) (congrArg Prod.fst s_2) rfl (r_2_2 ro) (ltK hnn (by decide)) ?_
  refine w_getR ok dX0_give_22 (fX0_156 rfl) (congrArg Prod.fst s_13) rfl (r_13_4 ro) (ltK hnn (by decide)) ?_
  refine w_iload_n ok dX0_give_25 2 rfl ?_
  refine w_cS (As := [.ref 16, .int a0]) ok dX0_give_26 iX11_at (lX0_86 rfl) (c_at s_16 (ltK hnn (by decide)) (sdc hf (by decide)) a0) (by decide) rfl (Nat.le_of_ble_eq_true rfl) ?_
  refine w_istore_n ok dX0_give_29 rfl (by decide) rfl ?_
  refine w_aload_n ok dX0_give_30 2 rfl ?_
  refine w_getR ok dX0_give_31 (fX0_12 rfl) (congrArg Prod.fst s_104) rfl (r_104_0 ro) (ltK hnn (by decide)) ?_
  refine w_getR ok dX0_give_34 (fX0_139 rfl) (congrArg Prod.fst s_105) rfl (r_105_11 ro) (ltK hnn (by decide)) ?_
  refine w_iload_n ok dX0_give_37 1 rfl ?_
  refine w_cS (As := [.ref 110, .int (atF (I 15) 8 a0)]) ok dX0_give_38 iX11_at (lX0_86 rfl) (c_at s_110 (ltK hnn (by decide)) (sdc hf (by decide)) (atF (I 15) 8 a0)) (by decide) rfl (Nat.le_of_ble_eq_true rfl) ?_
  refine w_istore ok dX0_give_41 (by decide) rfl ?_
  refine w_aload_n ok dX0_give_43 3 rfl ?_
  refine w_getR ok dX0_give_44 (fX0_12 rfl) (congrArg Prod.fst s_104) rfl (r_104_0 ro) (ltK hnn (by decide)) ?_
  refine w_getR ok dX0_give_47 (fX0_159 rfl) (congrArg Prod.fst s_105) rfl (r_105_13 ro) (ltK hnn (by decide)) ?_
  refine w_iload_n ok dX0_give_50 4 rfl ?_
  refine w_cS (As := [.ref 112, .int a0]) ok dX0_give_51 iX11_at (lX0_86 rfl) (c_at s_112 (ltK hnn (by decide)) (sdc hf (by decide)) a0) (by decide) rfl (Nat.le_of_ble_eq_true rfl) ?_
  refine w_istore ok dX0_give_54 (by decide) rfl ?_
  refine w_iload_n ok dX0_give_56 5 rfl ?_
  refine w_aload_n ok dX0_give_57 4 rfl ?_
  refine y_getI ok dX0_give_58 (fX0_30 rfl) (congrArg Prod.fst s_104) rfl (ltK hnn (by decide)) (sdc hf (by decide)) ?_
  refine w_icmp_eq (tgt := 80) ok dX0_give_61 (by decide) (fun c1 => ?_) (fun c1 => ?_)
  · skip
    exact w_vret ok fin dX0_give_80 rfl (by unfold FI_X0_give FJ_X0_give; simp only [if_pos c1]; exact Pd.i)
  · skip
    refine w_iload ok dX0_give_64 0 rfl ?_
    refine w_if_le (tgt := 80) ok dX0_give_66 (by decide) (fun c2 => ?_) (fun c2 => ?_)
    · skip
      exact w_vret ok fin dX0_give_80 rfl (by unfold FI_X0_give FJ_X0_give; simp only [if_neg c1]; simp only [if_pos c2]; exact Pd.i)
    · skip
      refine w_iload ok dX0_give_69 1 rfl ?_
      refine w_if_lt (tgt := 80) ok dX0_give_71 (by decide) (fun c3 => ?_) (fun c3 => ?_)
      · skip
        exact w_vret ok fin dX0_give_80 rfl (by unfold FI_X0_give FJ_X0_give; simp only [if_neg c1]; simp only [if_neg c2]; simp only [if_pos c3]; exact Pd.i)
      · skip
        refine w_iload ok dX0_give_74 1 rfl ?_
        refine w_iload_n ok dX0_give_76 2 rfl ?_
        refine w_icmp_ne (tgt := 81) ok dX0_give_77 (by decide) (fun c4 => ?_) (fun c4 => ?_)
        · skip
          refine w_aload_n ok dX0_give_81 4 rfl ?_
          refine w_getR ok dX0_give_82 (fX0_12 rfl) (congrArg Prod.fst s_104) rfl (r_104_0 ro) (ltK hnn (by decide)) ?_
          refine w_getR ok dX0_give_85 (fX0_162 rfl) (congrArg Prod.fst s_105) rfl (r_105_12 ro) (ltK hnn (by decide)) ?_
          refine w_iload_n ok dX0_give_88 3 rfl ?_
          refine w_cS (As := [.ref 111, .int (atF (I 15) 8 a0)]) ok dX0_give_89 iX11_at (lX0_86 rfl) (c_at s_111 (ltK hnn (by decide)) (sdc hf (by decide)) (atF (I 15) 8 a0)) (by decide) rfl (Nat.le_of_ble_eq_true rfl) ?_
          refine w_iconst (v := 1) ok dX0_give_92 (by decide) ?_
          refine w_iadd ok dX0_give_93 ?_
          refine w_istore ok dX0_give_94 (by decide) rfl ?_
          refine w_aload_n ok dX0_give_96 5 rfl ?_
          refine w_getR ok dX0_give_97 (fX0_12 rfl) (congrArg Prod.fst s_104) rfl (r_104_0 ro) (ltK hnn (by decide)) ?_
          refine w_getR ok dX0_give_100 (fX0_159 rfl) (congrArg Prod.fst s_105) rfl (r_105_13 ro) (ltK hnn (by decide)) ?_
          refine w_iload_n ok dX0_give_103 6 rfl ?_
          refine w_iload ok dX0_give_104 1 rfl ?_
          refine w_iconst (v := 1) ok dX0_give_106 (by decide) ?_
          refine w_isub ok dX0_give_107 ?_
          refine w_cS (As := [.ref 112, .int a0, .int ((atF (I 112) 4 a0) - 1)]) ok dX0_give_108 iX11_put (lX0_131 rfl) (c_put s_112 (ltK hnn (by decide)) (sdc hf (by decide)) a0 ((atF (I 112) 4 a0) - 1)) (by decide) rfl (Nat.le_of_ble_eq_true rfl) ?_
          refine w_aload_n ok dX0_give_111 5 rfl ?_
          refine w_getR ok dX0_give_112 (fX0_12 rfl) (congrArg Prod.fst s_104) rfl (r_104_0 ro) (ltK hnn (by decide)) ?_
          refine w_getR ok dX0_give_115 (fX0_165 rfl) (congrArg Prod.fst s_105) rfl (r_105_14 ro) (ltK hnn (by decide)) ?_
          refine w_iload_n ok dX0_give_118 6 rfl ?_
          refine w_aload_n ok dX0_give_119 5 rfl ?_
          refine w_getR ok dX0_give_120 (fX0_12 rfl) (congrArg Prod.fst s_104) rfl (r_104_0 ro) (ltK hnn (by decide)) ?_
          refine w_getR ok dX0_give_123 (fX0_165 rfl) (congrArg Prod.fst s_105) rfl (r_105_14 ro) (ltK hnn (by decide)) ?_
          refine w_iload_n ok dX0_give_126 6 rfl ?_
          refine w_cS (As := [.ref 113, .int a0]) ok dX0_give_127 iX11_at (lX0_86 rfl) (c_at s_113 (ltK hnn (by decide)) (sdc hf (by decide)) a0) (by decide) rfl (Nat.le_of_ble_eq_true rfl) ?_
          show WK K 0 0 130 [(6, .int ((atF (I 111) 6 (atF (I 15) 8 a0)) + 1)), (5, .int (atF (I 112) 4 a0)), (4, .int (atF (I 110) 6 (atF (I 15) 8 a0))), (3, .int (atF (I 16) 8 a0)), (2, .int (atF (I 15) 8 a0)), (0, .ref 104), (1, .int a0)] [.int (atF ((putF I 112 4 a0 ((atF (I 112) 4 a0) - 1)) 113) 4 a0), .int a0, .ref 113] (eI f (putF I 112 4 a0 ((atF (I 112) 4 a0) - 1))) (eJ f J) R n g
          refine w_iconst (v := 1) ok dX0_give_130 (by decide) ?_
          refine w_iadd ok dX0_give_131 ?_
          refine w_cS (As := [.ref 113, .int a0, .int ((atF ((putF I 112 4 a0 ((atF (I 112) 4 a0) - 1)) 113) 4 a0) + 1)]) ok dX0_give_132 iX11_put (lX0_131 rfl) (c_put s_113 (ltK hnn (by decide)) (sdc hf (by decide)) a0 ((atF ((putF I 112 4 a0 ((atF (I 112) 4 a0) - 1)) 113) 4 a0) + 1)) (by decide) rfl (Nat.le_of_ble_eq_true rfl) ?_
          show WK K 0 0 135 [(6, .int ((atF (I 111) 6 (atF (I 15) 8 a0)) + 1)), (5, .int (atF (I 112) 4 a0)), (4, .int (atF (I 110) 6 (atF (I 15) 8 a0))), (3, .int (atF (I 16) 8 a0)), (2, .int (atF (I 15) 8 a0)), (0, .ref 104), (1, .int a0)] [] (eI f (S1_X0_give a0 I J)) (eJ f J) R n g
          refine w_aload_n ok dX0_give_135 5 rfl ?_
          refine w_getR ok dX0_give_136 (fX0_12 rfl) (congrArg Prod.fst s_104) rfl (r_104_0 ro) (ltK hnn (by decide)) ?_
          refine w_getR ok dX0_give_139 (fX0_162 rfl) (congrArg Prod.fst s_105) rfl (r_105_12 ro) (ltK hnn (by decide)) ?_
          refine w_iload_n ok dX0_give_142 4 rfl ?_
          refine w_iload ok dX0_give_143 0 rfl ?_
          refine w_cS (As := [.ref 111, .int (atF (I 15) 8 a0), .int ((atF (I 111) 6 (atF (I 15) 8 a0)) + 1)]) ok dX0_give_145 iX11_put (lX0_131 rfl) (c_put s_111 (ltK hnn (by decide)) (sdc hf (by decide)) (atF (I 15) 8 a0) ((atF (I 111) 6 (atF (I 15) 8 a0)) + 1)) (by decide) rfl (Nat.le_of_ble_eq_true rfl) ?_
          show WK K 0 0 148 [(6, .int ((atF (I 111) 6 (atF (I 15) 8 a0)) + 1)), (5, .int (atF (I 112) 4 a0)), (4, .int (atF (I 110) 6 (atF (I 15) 8 a0))), (3, .int (atF (I 16) 8 a0)), (2, .int (atF (I 15) 8 a0)), (0, .ref 104), (1, .int a0)] [] (eI f (S2_X0_give a0 I J)) (eJ f J) R n g
          refine w_aload_n ok dX0_give_148 5 rfl ?_
          refine y_getI ok dX0_give_149 (fX0_37 rfl) (congrArg Prod.fst s_104) rfl (ltK hnn (by decide)) (sdc hf (by decide)) ?_
          refine w_if_eq (tgt := 201) ok dX0_give_152 (by decide) (fun c5 => ?_) (fun c5 => ?_)
          · skip
            exact w_vret ok fin dX0_give_201 rfl (by unfold FI_X0_give FJ_X0_give; simp only [if_neg c1]; simp only [if_neg c2]; simp only [if_neg c3]; simp only [if_neg c4]; simp only [if_pos c5]; exact Pd.i)
          · skip
            refine w_aload_n ok dX0_give_155 5 rfl ?_
            refine w_iload_n ok dX0_give_156 4 rfl ?_
            refine w_iload ok dX0_give_157 0 rfl ?_
            refine w_cV (As := [.int (atF (I 15) 8 a0), .int ((atF (I 111) 6 (atF (I 15) 8 a0)) + 1)]) ok dX0_give_159 iX0_yieldWorth (lX0_168 rfl) (rcv cls0 (congrArg Prod.fst s_104)) (ltK hnn (by decide)) (c_X0_yieldWorth ro hnn hf (atF (I 15) 8 a0) ((atF (I 111) 6 (atF (I 15) 8 a0)) + 1)  (hp1 c1 c2 c3 c4 c5)) (by decide) rfl (Nat.le_of_ble_eq_true rfl) ?_
            show WK K 0 0 162 [(6, .int ((atF (I 111) 6 (atF (I 15) 8 a0)) + 1)), (5, .int (atF (I 112) 4 a0)), (4, .int (atF (I 110) 6 (atF (I 15) 8 a0))), (3, .int (atF (I 16) 8 a0)), (2, .int (atF (I 15) 8 a0)), (0, .ref 104), (1, .int a0)] [.long (S4_X0_give a0 I J)] (eI f (S2_X0_give a0 I J)) (eJ f (S3_X0_give a0 I J)) R n g
            refine w_iload ok dX0_give_162 0 rfl ?_
            refine w_aload_n ok dX0_give_164 5 rfl ?_
            refine w_getR ok dX0_give_165 (fX0_18 rfl) (congrArg Prod.fst s_104) rfl (r_104_1 ro) (ltK hnn (by decide)) ?_
            refine w_iload_n ok dX0_give_168 4 rfl ?_
            refine w_cS (As := [.ref 114, .int (atF (I 15) 8 a0)]) ok dX0_give_169 iX11_at (lX0_86 rfl) (c_at s_114 (ltK hnn (by decide)) (sdc hf (by decide)) (atF (I 15) 8 a0)) (by decide) rfl (Nat.le_of_ble_eq_true rfl) ?_
            show WK K 0 0 172 [(6, .int ((atF (I 111) 6 (atF (I 15) 8 a0)) + 1)), (5, .int (atF (I 112) 4 a0)), (4, .int (atF (I 110) 6 (atF (I 15) 8 a0))), (3, .int (atF (I 16) 8 a0)), (2, .int (atF (I 15) 8 a0)), (0, .ref 104), (1, .int a0)] [.int (atF ((S2_X0_give a0 I J) 114) 6 (atF (I 15) 8 a0)), .int ((atF (I 111) 6 (atF (I 15) 8 a0)) + 1), .long (S4_X0_give a0 I J)] (eI f (S2_X0_give a0 I J)) (eJ f (S3_X0_give a0 I J)) R n g
            refine w_bipush (v := 10) ok dX0_give_172 (by decide) ?_
            refine w_idiv ok dX0_give_174 (by decide) ?_
            have jn6 : WK K 0 0 183 [(0, .ref 104), (1, .int a0), (2, .int (atF (I 15) 8 a0)), (3, .int (atF (I 16) 8 a0)), (4, .int (atF (I 110) 6 (atF (I 15) 8 a0))), (5, .int (atF (I 112) 4 a0)), (6, .int ((atF (I 111) 6 (atF (I 15) 8 a0)) + 1))] [.int (T_X0_give_j183 a0 I J), .long (S4_X0_give a0 I J)] (eI f (S2_X0_give a0 I J)) (eJ f (S3_X0_give a0 I J)) R n g := by
              refine w_cS (As := [.long (S4_X0_give a0 I J), .int (T_X0_give_j183 a0 I J)]) ok dX0_give_183 iX0_isSo (lX0_152 rfl) (c_X0_isSo ro hnn hf (S4_X0_give a0 I J) (T_X0_give_j183 a0 I J)  (hp2 c1 c2 c3 c4 c5)) (by decide) rfl (Nat.le_of_ble_eq_true rfl) ?_
              show WK K 0 0 186 [(0, .ref 104), (1, .int a0), (2, .int (atF (I 15) 8 a0)), (3, .int (atF (I 16) 8 a0)), (4, .int (atF (I 110) 6 (atF (I 15) 8 a0))), (5, .int (atF (I 112) 4 a0)), (6, .int ((atF (I 111) 6 (atF (I 15) 8 a0)) + 1))] [.int (S5_X0_give a0 I J)] (eI f (S2_X0_give a0 I J)) (eJ f (S3_X0_give a0 I J)) R n g
              refine w_if_eq (tgt := 201) ok dX0_give_186 (by decide) (fun c7 => ?_) (fun c7 => ?_)
              · skip
                exact w_vret ok fin dX0_give_201 rfl (by unfold FI_X0_give FJ_X0_give; simp only [if_neg c1]; simp only [if_neg c2]; simp only [if_neg c3]; simp only [if_neg c4]; simp only [if_neg c5]; simp only [if_pos c7]; exact Pd.i)
              · skip
                refine w_aload_n ok dX0_give_189 0 rfl ?_
                refine w_getR ok dX0_give_190 (fX0_12 rfl) (congrArg Prod.fst s_104) rfl (r_104_0 ro) (ltK hnn (by decide)) ?_
                refine w_getR ok dX0_give_193 (fX0_139 rfl) (congrArg Prod.fst s_105) rfl (r_105_11 ro) (ltK hnn (by decide)) ?_
                refine w_iload_n ok dX0_give_196 2 rfl ?_
                refine w_iload_n ok dX0_give_197 3 rfl ?_
                refine w_cS (As := [.ref 110, .int (atF (I 15) 8 a0), .int (atF (I 16) 8 a0)]) ok dX0_give_198 iX11_put (lX0_131 rfl) (c_put s_110 (ltK hnn (by decide)) (sdc hf (by decide)) (atF (I 15) 8 a0) (atF (I 16) 8 a0)) (by decide) rfl (Nat.le_of_ble_eq_true rfl) ?_
                exact w_vret ok fin dX0_give_201 rfl (by unfold FI_X0_give FJ_X0_give; simp only [if_neg c1]; simp only [if_neg c2]; simp only [if_neg c3]; simp only [if_neg c4]; simp only [if_neg c5]; simp only [if_neg c7]; exact Pd.i)
            refine w_icmp_le (tgt := 182) ok dX0_give_175 (by decide) (fun c8 => ?_) (fun c8 => ?_)
            · skip
              refine w_iconst (v := 0) ok dX0_give_182 (by decide) ?_
              have eT : (T_X0_give_j183 a0 I J) = 0 := by
                unfold T_X0_give_j183; exact (if_pos c8).trans (rfl)
              refine w_loc [5, 6, 4, 3, 2, 1, 0] rfl ?_
              have jj := jn6
              rw [eT] at jj
              exact jj
            · skip
              refine w_iconst (v := 1) ok dX0_give_178 (by decide) ?_
              refine w_goto (tgt := 183) ok dX0_give_179 (by decide) ?_
              have eT : (T_X0_give_j183 a0 I J) = 1 := by
                unfold T_X0_give_j183; exact (if_neg c8).trans (rfl)
              refine w_loc [5, 6, 4, 3, 2, 1, 0] rfl ?_
              have jj := jn6
              rw [eT] at jj
              exact jj
        · skip
          exact w_vret ok fin dX0_give_80 rfl (by unfold FI_X0_give FJ_X0_give; simp only [if_neg c1]; simp only [if_neg c2]; simp only [if_neg c3]; simp only [if_pos c4]; exact Pd.i)
