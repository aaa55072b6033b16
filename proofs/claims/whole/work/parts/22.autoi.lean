/-! printed by wip/whole/gen_c.py: contracts by program -/
def S1_X0_begin (a0 : Nat) (I : SI) (J : SJ) : SI := u2 (u2 (u2 (cpF (FI_X5_copy 105 a0 I J) 5 114 6) 104 2 0) 104 5 (-1)) 104 6 1
def FI_X0_begin (a0 : Nat) (I : SI) (J : SJ) : SI := u2 (S1_X0_begin a0 I J) 104 7 1
def FJ_X0_begin (a0 : Nat) (I : SI) (J : SJ) : SJ := FJ_X5_copy 105 a0 I J
set_option maxHeartbeats 1000000 in
set_option maxRecDepth 40000 in
theorem c_X0_begin {I : SI} {J : SJ} {R : SR} {n g : Nat} (ro : RO R) (hnn : nK ≤ n) {a0 : Nat} (ha0 : IsSc a0)   : MM 3 0 0 mX0_begin [.ref 104, .ref a0] I J R n g (Pd none (FI_X0_begin a0 I J) (FJ_X0_begin a0 I J) R n g) := by
  refine MM.of (by decide) (Nat.le_of_ble_eq_true rfl) fun K ok fin => ?_
  show WK K 0 0 0 [(0, .ref 104), (1, .ref a0)] [] I J R n g
  refine w_aload_n ok dX0_begin_0 0 rfl ?_
  refine w_getR ok dX0_begin_1 (fX0_12 rfl) (congrArg Prod.fst s_104) rfl (r_104_0 ro) (ltK hnn (by decide)) ?_
  refine w_aload_n ok dX0_begin_4 1 rfl ?_
  refine w_cV (As := [.ref a0]) ok dX0_begin_5 iX5_copy (lX0_44 rfl) (rcv cls5 (congrArg Prod.fst s_105)) (ltK hnn (by decide)) (c_X5_copy ro hnn  isSc_105 ha0) (by decide) rfl (Nat.le_of_ble_eq_true rfl) ?_
  refine w_aload_n ok dX0_begin_8 0 rfl ?_
  refine w_getR ok dX0_begin_9 (fX0_40 rfl) (congrArg Prod.fst s_104) rfl (r_104_3 ro) (ltK hnn (by decide)) ?_
  refine w_getR ok dX0_begin_12 (fX0_48 rfl) (congrArg Prod.fst s_2) rfl (r_2_0 ro) (ltK hnn (by decide)) ?_
  refine w_getR ok dX0_begin_15 (fX0_54 rfl) (congrArg Prod.fst s_3) rfl (r_3_3 ro) (ltK hnn (by decide)) ?_
  refine w_aload_n ok dX0_begin_18 0 rfl ?_
  refine w_getR ok dX0_begin_19 (fX0_18 rfl) (congrArg Prod.fst s_104) rfl (r_104_1 ro) (ltK hnn (by decide)) ?_
  refine w_cS (As := [.ref 5, .ref 114]) ok dX0_begin_22 iX11_copyRow (lX0_59 rfl) (c_copyRow s_5 s_114 (ltK hnn (by decide)) (ltK hnn (by decide))) (by decide) rfl (Nat.le_of_ble_eq_true rfl) ?_
  refine w_aload_n ok dX0_begin_25 0 rfl ?_
  refine w_iconst (v := 0) ok dX0_begin_26 (by decide) ?_
  refine w_putI ok dX0_begin_27 (fwX0_22 rfl) (congrArg Prod.fst s_104) rfl (ltK hnn (by decide)) ?_
  refine w_aload_n ok dX0_begin_30 0 rfl ?_
  refine w_iconst (v := (-1)) ok dX0_begin_31 (by decide) ?_
  refine w_putI ok dX0_begin_32 (fwX0_30 rfl) (congrArg Prod.fst s_104) rfl (ltK hnn (by decide)) ?_
  refine w_aload_n ok dX0_begin_35 0 rfl ?_
  refine w_iconst (v := 1) ok dX0_begin_36 (by decide) ?_
  refine w_putZ ok dX0_begin_37 (fwX0_33 rfl) (congrArg Prod.fst s_104) rfl (by decide) (ltK hnn (by decide)) ?_
  show WK K 0 0 40 [(0, .ref 104), (1, .ref a0)] [] (S1_X0_begin a0 I J) (FJ_X5_copy 105 a0 I J) R n g
  refine w_aload_n ok dX0_begin_40 0 rfl ?_
  refine w_iconst (v := 1) ok dX0_begin_41 (by decide) ?_
  refine w_putZ ok dX0_begin_42 (fwX0_37 rfl) (congrArg Prod.fst s_104) rfl (by decide) (ltK hnn (by decide)) ?_
  exact w_vret ok fin dX0_begin_45 rfl (by unfold FI_X0_begin FJ_X0_begin; exact Pd.i)
def S1_X0_isAway (I : SI) (J : SJ) : Int64 := (((u2 J 105 6 ((((J 105 6) * 1103515245) + 12345) &&& 2147483647)) 105 6) / 65536) - (((u2 J 105 6 ((((J 105 6) * 1103515245) + 12345) &&& 2147483647)) 105 6) / 65536) / 100 * 100
def F_X0_isAway  (I : SI) (J : SJ) : Int32 := if (I 104 2) = 2 then (if (I 104 2) = 3 then 1 else 0) else (if (I 104 2) = 3 then 1 else (if (F_X9_isCold 2 (I 105 0) I J) = 0 then (if (I 104 2) = 0 then (if (I 2 7) < 50 then 0 else 1) else (if (I 2 7) ≤ 0 then (if (I 2 7) < 50 then 0 else 1) else (if (I 2 7) < 100 then (if (0 : Int32) ≤ (lg_cmp (S1_X0_isAway I J) ((I 2 7).toInt64)) then 0 else 1) else (if (I 2 7) < 50 then 0 else 1)))) else 1))
def FJ_X0_isAway  (I : SI) (J : SJ) : SJ := if (I 104 2) = 2 then (if (I 104 2) = 3 then J else J) else (if (I 104 2) = 3 then J else (if (F_X9_isCold 2 (I 105 0) I J) = 0 then (if (I 104 2) = 0 then (if (I 2 7) < 50 then J else J) else (if (I 2 7) ≤ 0 then (if (I 2 7) < 50 then J else J) else (if (I 2 7) < 100 then (if (0 : Int32) ≤ (lg_cmp (S1_X0_isAway I J) ((I 2 7).toInt64)) then u2 J 105 6 ((((J 105 6) * 1103515245) + 12345) &&& 2147483647) else u2 J 105 6 ((((J 105 6) * 1103515245) + 12345) &&& 2147483647)) else (if (I 2 7) < 50 then J else J)))) else J))
set_option maxHeartbeats 1280000 in
set_option maxRecDepth 40000 in
theorem c_X0_isAway {I : SI} {J : SJ} {R : SR} {n g : Nat} (ro : RO R) (hnn : nK ≤ n)    : MM 2 0 0 mX0_isAway [.ref 104] I J R n g (Pd (some (.int (F_X0_isAway  I J))) I (FJ_X0_isAway  I J) R n g) := by
  refine MM.of (by decide) (Nat.le_of_ble_eq_true rfl) fun K ok fin => ?_
  show WK K 0 0 0 [(0, .ref 104)] [] I J R n g
  refine w_aload_n ok dX0_isAway_0 0 rfl ?_
  refine w_getI ok dX0_isAway_1 (fX0_22 rfl) (congrArg Prod.fst s_104) rfl (ltK hnn (by decide)) ?_
  refine w_iconst (v := 2) ok dX0_isAway_4 (by decide) ?_
  refine w_icmp_eq (tgt := 16) ok dX0_isAway_5 (by decide) (fun c1 => ?_) (fun c1 => ?_)
  · skip
    refine w_aload_n ok dX0_isAway_16 0 rfl ?_
    refine w_getI ok dX0_isAway_17 (fX0_22 rfl) (congrArg Prod.fst s_104) rfl (ltK hnn (by decide)) ?_
    refine w_iconst (v := 3) ok dX0_isAway_20 (by decide) ?_
    refine w_icmp_ne (tgt := 28) ok dX0_isAway_21 (by decide) (fun c2 => ?_) (fun c2 => ?_)
    · skip
      refine w_iconst (v := 0) ok dX0_isAway_28 (by decide) ?_
      exact w_zret ok fin dX0_isAway_29 rfl (by decide) (by unfold F_X0_isAway FJ_X0_isAway; simp only [if_pos c1]; simp only [if_neg c2]; exact Pd.i)
    · skip
      refine w_iconst (v := 1) ok dX0_isAway_24 (by decide) ?_
      refine w_goto (tgt := 29) ok dX0_isAway_25 (by decide) ?_
      exact w_zret ok fin dX0_isAway_29 rfl (by decide) (by unfold F_X0_isAway FJ_X0_isAway; simp only [if_pos c1]; simp only [if_pos c2]; exact Pd.i)
  · skip
    refine w_aload_n ok dX0_isAway_8 0 rfl ?_
    refine w_getI ok dX0_isAway_9 (fX0_22 rfl) (congrArg Prod.fst s_104) rfl (ltK hnn (by decide)) ?_
    refine w_iconst (v := 3) ok dX0_isAway_12 (by decide) ?_
    refine w_icmp_ne (tgt := 30) ok dX0_isAway_13 (by decide) (fun c3 => ?_) (fun c3 => ?_)
    · skip
      refine w_aload_n ok dX0_isAway_30 0 rfl ?_
      refine w_getR ok dX0_isAway_31 (fX0_40 rfl) (congrArg Prod.fst s_104) rfl (r_104_3 ro) (ltK hnn (by decide)) ?_
      refine w_aload_n ok dX0_isAway_34 0 rfl ?_
      refine w_getR ok dX0_isAway_35 (fX0_12 rfl) (congrArg Prod.fst s_104) rfl (r_104_0 ro) (ltK hnn (by decide)) ?_
      refine w_getI ok dX0_isAway_38 (fX0_93 rfl) (congrArg Prod.fst s_105) rfl (ltK hnn (by decide)) ?_
      refine w_cV (As := [.int (I 105 0)]) ok dX0_isAway_41 iX9_isCold (lX0_110 rfl) (rcv cls9 (congrArg Prod.fst s_2)) (ltK hnn (by decide)) (c_X9_isCold ro hnn (I 105 0) isTo_2) (by decide) rfl (Nat.le_of_ble_eq_true rfl) ?_
      refine w_if_eq (tgt := 49) ok dX0_isAway_44 (by decide) (fun c4 => ?_) (fun c4 => ?_)
      · skip
        refine w_aload_n ok dX0_isAway_49 0 rfl ?_
        refine w_getI ok dX0_isAway_50 (fX0_22 rfl) (congrArg Prod.fst s_104) rfl (ltK hnn (by decide)) ?_
        refine w_if_eq (tgt := 78) ok dX0_isAway_53 (by decide) (fun c5 => ?_) (fun c5 => ?_)
        · skip
          refine w_aload_n ok dX0_isAway_78 0 rfl ?_
          refine w_getR ok dX0_isAway_79 (fX0_40 rfl) (congrArg Prod.fst s_104) rfl (r_104_3 ro) (ltK hnn (by decide)) ?_
          refine w_getI ok dX0_isAway_82 (fX0_114 rfl) (congrArg Prod.fst s_2) rfl (ltK hnn (by decide)) ?_
          refine w_bipush (v := 50) ok dX0_isAway_85 (by decide) ?_
          refine w_icmp_lt (tgt := 94) ok dX0_isAway_87 (by decide) (fun c6 => ?_) (fun c6 => ?_)
          · skip
            refine w_iconst (v := 0) ok dX0_isAway_94 (by decide) ?_
            exact w_zret ok fin dX0_isAway_95 rfl (by decide) (by unfold F_X0_isAway FJ_X0_isAway; simp only [if_neg c1]; simp only [if_neg c3]; simp only [if_pos c4]; simp only [if_pos c5]; simp only [if_pos c6]; exact Pd.i)
          · skip
            refine w_iconst (v := 1) ok dX0_isAway_90 (by decide) ?_
            refine w_goto (tgt := 95) ok dX0_isAway_91 (by decide) ?_
            exact w_zret ok fin dX0_isAway_95 rfl (by decide) (by unfold F_X0_isAway FJ_X0_isAway; simp only [if_neg c1]; simp only [if_neg c3]; simp only [if_pos c4]; simp only [if_pos c5]; simp only [if_neg c6]; exact Pd.i)
        · skip
          refine w_aload_n ok dX0_isAway_56 0 rfl ?_
          refine w_getR ok dX0_isAway_57 (fX0_40 rfl) (congrArg Prod.fst s_104) rfl (r_104_3 ro) (ltK hnn (by decide)) ?_
          refine w_getI ok dX0_isAway_60 (fX0_114 rfl) (congrArg Prod.fst s_2) rfl (ltK hnn (by decide)) ?_
          refine w_if_le (tgt := 78) ok dX0_isAway_63 (by decide) (fun c7 => ?_) (fun c7 => ?_)
          · skip
            refine w_aload_n ok dX0_isAway_78 0 rfl ?_
            refine w_getR ok dX0_isAway_79 (fX0_40 rfl) (congrArg Prod.fst s_104) rfl (r_104_3 ro) (ltK hnn (by decide)) ?_
            refine w_getI ok dX0_isAway_82 (fX0_114 rfl) (congrArg Prod.fst s_2) rfl (ltK hnn (by decide)) ?_
            refine w_bipush (v := 50) ok dX0_isAway_85 (by decide) ?_
            refine w_icmp_lt (tgt := 94) ok dX0_isAway_87 (by decide) (fun c8 => ?_) (fun c8 => ?_)
            · skip
              refine w_iconst (v := 0) ok dX0_isAway_94 (by decide) ?_
              exact w_zret ok fin dX0_isAway_95 rfl (by decide) (by unfold F_X0_isAway FJ_X0_isAway; simp only [if_neg c1]; simp only [if_neg c3]; simp only [if_pos c4]; simp only [if_neg c5]; simp only [if_pos c7]; simp only [if_pos c8]; exact Pd.i)
            · skip
              refine w_iconst (v := 1) ok dX0_isAway_90 (by decide) ?_
              refine w_goto (tgt := 95) ok dX0_isAway_91 (by decide) ?_
              exact w_zret ok fin dX0_isAway_95 rfl (by decide) (by unfold F_X0_isAway FJ_X0_isAway; simp only [if_neg c1]; simp only [if_neg c3]; simp only [if_pos c4]; simp only [if_neg c5]; simp only [if_pos c7]; simp only [if_neg c8]; exact Pd.i)
          · skip
            refine w_aload_n ok dX0_isAway_66 0 rfl ?_
            refine w_getR ok dX0_isAway_67 (fX0_40 rfl) (congrArg Prod.fst s_104) rfl (r_104_3 ro) (ltK hnn (by decide)) ?_
            refine w_getI ok dX0_isAway_70 (fX0_114 rfl) (congrArg Prod.fst s_2) rfl (ltK hnn (by decide)) ?_
            refine w_bipush (v := 100) ok dX0_isAway_73 (by decide) ?_
            refine w_icmp_lt (tgt := 96) ok dX0_isAway_75 (by decide) (fun c9 => ?_) (fun c9 => ?_)
            · skip
              refine w_aload_n ok dX0_isAway_96 0 rfl ?_
              refine w_getR ok dX0_isAway_97 (fX0_12 rfl) (congrArg Prod.fst s_104) rfl (r_104_0 ro) (ltK hnn (by decide)) ?_
              refine w_aload_n ok dX0_isAway_100 0 rfl ?_
              refine w_getR ok dX0_isAway_101 (fX0_12 rfl) (congrArg Prod.fst s_104) rfl (r_104_0 ro) (ltK hnn (by decide)) ?_
              refine w_getJ ok dX0_isAway_104 (fX0_117 rfl) (congrArg Prod.fst s_105) rfl (ltK hnn (by decide)) ?_
              refine w_ldc2 ok dX0_isAway_107 kX0_121 ?_
              refine w_lmul ok dX0_isAway_110 ?_
              refine w_ldc2 ok dX0_isAway_111 kX0_123 ?_
              refine w_ladd ok dX0_isAway_114 ?_
              refine w_ldc2 ok dX0_isAway_115 kX0_125 ?_
              refine w_land ok dX0_isAway_118 ?_
              refine w_putJ ok dX0_isAway_119 (fwX0_117 rfl) (congrArg Prod.fst s_105) rfl (ltK hnn (by decide)) ?_
              refine w_aload_n ok dX0_isAway_122 0 rfl ?_
              refine w_getR ok dX0_isAway_123 (fX0_12 rfl) (congrArg Prod.fst s_104) rfl (r_104_0 ro) (ltK hnn (by decide)) ?_
              refine w_getJ ok dX0_isAway_126 (fX0_117 rfl) (congrArg Prod.fst s_105) rfl (ltK hnn (by decide)) ?_
              refine w_ldc2 ok dX0_isAway_129 kX0_127 ?_
              refine w_ldiv ok dX0_isAway_132 (by decide) ?_
              refine w_ldc2 ok dX0_isAway_133 kX0_129 ?_
              refine w_lrem ok dX0_isAway_136 (by decide) ?_
              show WK K 0 0 137 [(0, .ref 104)] [.long (S1_X0_isAway I J)] I (u2 J 105 6 ((((J 105 6) * 1103515245) + 12345) &&& 2147483647)) R n g
              refine w_aload_n ok dX0_isAway_137 0 rfl ?_
              refine w_getR ok dX0_isAway_138 (fX0_40 rfl) (congrArg Prod.fst s_104) rfl (r_104_3 ro) (ltK hnn (by decide)) ?_
              refine w_getI ok dX0_isAway_141 (fX0_114 rfl) (congrArg Prod.fst s_2) rfl (ltK hnn (by decide)) ?_
              refine w_i2l ok dX0_isAway_144 ?_
              refine w_lcmp ok dX0_isAway_145 ?_
              refine w_if_ge (tgt := 153) ok dX0_isAway_146 (by decide) (fun c10 => ?_) (fun c10 => ?_)
              · skip
                refine w_iconst (v := 0) ok dX0_isAway_153 (by decide) ?_
                exact w_zret ok fin dX0_isAway_154 rfl (by decide) (by unfold F_X0_isAway FJ_X0_isAway; simp only [if_neg c1]; simp only [if_neg c3]; simp only [if_pos c4]; simp only [if_neg c5]; simp only [if_neg c7]; simp only [if_pos c9]; simp only [if_pos c10]; exact Pd.i)
              · skip
                refine w_iconst (v := 1) ok dX0_isAway_149 (by decide) ?_
                refine w_goto (tgt := 154) ok dX0_isAway_150 (by decide) ?_
                exact w_zret ok fin dX0_isAway_154 rfl (by decide) (by unfold F_X0_isAway FJ_X0_isAway; simp only [if_neg c1]; simp only [if_neg c3]; simp only [if_pos c4]; simp only [if_neg c5]; simp only [if_neg c7]; simp only [if_pos c9]; simp only [if_neg c10]; exact Pd.i)
            · skip
              refine w_aload_n ok dX0_isAway_78 0 rfl ?_
              refine w_getR ok dX0_isAway_79 (fX0_40 rfl) (congrArg Prod.fst s_104) rfl (r_104_3 ro) (ltK hnn (by decide)) ?_
              refine w_getI ok dX0_isAway_82 (fX0_114 rfl) (congrArg Prod.fst s_2) rfl (ltK hnn (by decide)) ?_
              refine w_bipush (v := 50) ok dX0_isAway_85 (by decide) ?_
              refine w_icmp_lt (tgt := 94) ok dX0_isAway_87 (by decide) (fun c11 => ?_) (fun c11 => ?_)
              · skip
                refine w_iconst (v := 0) ok dX0_isAway_94 (by decide) ?_
                exact w_zret ok fin dX0_isAway_95 rfl (by decide) (by unfold F_X0_isAway FJ_X0_isAway; simp only [if_neg c1]; simp only [if_neg c3]; simp only [if_pos c4]; simp only [if_neg c5]; simp only [if_neg c7]; simp only [if_neg c9]; simp only [if_pos c11]; exact Pd.i)
              · skip
                refine w_iconst (v := 1) ok dX0_isAway_90 (by decide) ?_
                refine w_goto (tgt := 95) ok dX0_isAway_91 (by decide) ?_
                exact w_zret ok fin dX0_isAway_95 rfl (by decide) (by unfold F_X0_isAway FJ_X0_isAway; simp only [if_neg c1]; simp only [if_neg c3]; simp only [if_pos c4]; simp only [if_neg c5]; simp only [if_neg c7]; simp only [if_neg c9]; simp only [if_neg c11]; exact Pd.i)
      · skip
        refine w_iconst (v := 1) ok dX0_isAway_47 (by decide) ?_
        exact w_zret ok fin dX0_isAway_48 rfl (by decide) (by unfold F_X0_isAway FJ_X0_isAway; simp only [if_neg c1]; simp only [if_neg c3]; simp only [if_neg c4]; exact Pd.i)
    · skip
      refine w_aload_n ok dX0_isAway_16 0 rfl ?_
      refine w_getI ok dX0_isAway_17 (fX0_22 rfl) (congrArg Prod.fst s_104) rfl (ltK hnn (by decide)) ?_
      refine w_iconst (v := 3) ok dX0_isAway_20 (by decide) ?_
      refine w_icmp_ne (tgt := 28) ok dX0_isAway_21 (by decide) (fun h => absurd c3 h) (fun _ => ?_)
      refine w_iconst (v := 1) ok dX0_isAway_24 (by decide) ?_
      refine w_goto (tgt := 29) ok dX0_isAway_25 (by decide) ?_
      exact w_zret ok fin dX0_isAway_29 rfl (by decide) (by unfold F_X0_isAway FJ_X0_isAway; simp only [if_neg c1]; simp only [if_pos c3]; exact Pd.i)
def S1_X0_filmAgain (a0 : Int32) (I : SI) (J : SJ) : SI := putF (u2 I 105 3 ((I 105 3) + 1)) 108 8 a0 ((atF ((u2 I 105 3 ((I 105 3) + 1)) 108) 8 a0) + 1)
def B_X0_filmAgain_w39 (a0 : Int32) (I : SI) (J : SJ) (s39 : Int32 × SI) : (Int32 × SI) ⊕ (Int32 × SI) := if (s39.2 3 1) ≤ s39.1 then .inr (s39.1, s39.2) else (if (atF (s39.2 110) 6 s39.1) < 0 then .inl ((s39.1 + 1), s39.2) else (if (F_X5_wayIn 105 a0 s39.1 s39.2 J) < 0 then .inl ((s39.1 + 1), s39.2) else .inl ((s39.1 + 1), (putF s39.2 109 48 ((a0 * 6) + s39.1) (atF (s39.2 110) 6 s39.1)))))
def F_X0_filmAgain_w39 (a0 : Int32) (I : SI) (J : SJ) (s0 : Int32 × SI) : Int32 × SI := (itW (B_X0_filmAgain_w39 a0 I J) 800 s0).getD s0
def FI_X0_filmAgain (a0 : Int32) (I : SI) (J : SJ) : SI := (F_X0_filmAgain_w39 a0 I J (0, (S1_X0_filmAgain a0 I J))).2
def H_X0_filmAgain (a0 : Int32) (I : SI) (J : SJ) : Prop := ((itW (B_X0_filmAgain_w39 a0 I J) 800 (0, (S1_X0_filmAgain a0 I J))).isSome = true)
set_option maxHeartbeats 1000000 in
set_option maxRecDepth 40000 in
theorem c_X0_filmAgain {I : SI} {J : SJ} {R : SR} {n g : Nat} (ro : RO R) (hnn : nK ≤ n) (a0 : Int32)  (hp : H_X0_filmAgain a0 I J) : MM 2 0 0 mX0_filmAgain [.ref 104, .int a0] I J R n g (Pd none (FI_X0_filmAgain a0 I J) J R n g) := by
  refine MM.of (by decide) (Nat.le_of_ble_eq_true rfl) fun K ok fin => ?_
  show WK K 0 0 0 [(0, .ref 104), (1, .int a0)] [] I J R n g
  have hp1 := hp
  refine w_aload_n ok dX0_filmAgain_0 0 rfl ?_
  refine w_getR ok dX0_filmAgain_1 (fX0_12 rfl) (congrArg Prod.fst s_104) rfl (r_104_0 ro) (ltK hnn (by decide)) ?_
  refine w_dup ok dX0_filmAgain_4 rfl ?_
  refine w_getI ok dX0_filmAgain_5 (fX0_200 rfl) (congrArg Prod.fst s_105) rfl (ltK hnn (by decide)) ?_
  refine w_iconst (v := 1) ok dX0_filmAgain_8 (by decide) ?_
  refine w_iadd ok dX0_filmAgain_9 ?_
  refine w_putI ok dX0_filmAgain_10 (fwX0_200 rfl) (congrArg Prod.fst s_105) rfl (ltK hnn (by decide)) ?_
  refine w_aload_n ok dX0_filmAgain_13 0 rfl ?_
  refine w_getR ok dX0_filmAgain_14 (fX0_12 rfl) (congrArg Prod.fst s_104) rfl (r_104_0 ro) (ltK hnn (by decide)) ?_
  refine w_getR ok dX0_filmAgain_17 (fX0_203 rfl) (congrArg Prod.fst s_105) rfl (r_105_9 ro) (ltK hnn (by decide)) ?_
  refine w_iload_n ok dX0_filmAgain_20 1 rfl ?_
  refine w_aload_n ok dX0_filmAgain_21 0 rfl ?_
  refine w_getR ok dX0_filmAgain_22 (fX0_12 rfl) (congrArg Prod.fst s_104) rfl (r_104_0 ro) (ltK hnn (by decide)) ?_
  refine w_getR ok dX0_filmAgain_25 (fX0_203 rfl) (congrArg Prod.fst s_105) rfl (r_105_9 ro) (ltK hnn (by decide)) ?_
  refine w_iload_n ok dX0_filmAgain_28 1 rfl ?_
  refine w_cS (As := [.ref 108, .int a0]) ok dX0_filmAgain_29 iX11_at (lX0_86 rfl) (c_at s_108 (ltK hnn (by decide)) a0) (by decide) rfl (Nat.le_of_ble_eq_true rfl) ?_
  show WK K 0 0 32 [(0, .ref 104), (1, .int a0)] [.int (atF ((u2 I 105 3 ((I 105 3) + 1)) 108) 8 a0), .int a0, .ref 108] (u2 I 105 3 ((I 105 3) + 1)) J R n g
  refine w_iconst (v := 1) ok dX0_filmAgain_32 (by decide) ?_
  refine w_iadd ok dX0_filmAgain_33 ?_
  refine w_cS (As := [.ref 108, .int a0, .int ((atF ((u2 I 105 3 ((I 105 3) + 1)) 108) 8 a0) + 1)]) ok dX0_filmAgain_34 iX11_put (lX0_131 rfl) (c_put s_108 (ltK hnn (by decide)) a0 ((atF ((u2 I 105 3 ((I 105 3) + 1)) 108) 8 a0) + 1)) (by decide) rfl (Nat.le_of_ble_eq_true rfl) ?_
  show WK K 0 0 37 [(0, .ref 104), (1, .int a0)] [] (S1_X0_filmAgain a0 I J) J R n g
  refine w_iconst (v := 0) ok dX0_filmAgain_37 (by decide) ?_
  refine w_istore_n ok dX0_filmAgain_38 rfl (by decide) rfl ?_
  refine w_loc [1, 2, 0] rfl ?_
  refine loop_w (fun (s39 : Int32 × SI) => WK K 0 0 39 [(0, .ref 104), (1, .int a0), (2, .int s39.1)] [] s39.2 J R n g) (fun (s39 : Int32 × SI) => WK K 0 0 104 [(0, .ref 104), (1, .int a0), (2, .int s39.1)] [] s39.2 J R n g) (B_X0_filmAgain_w39 a0 I J) 800 (0, (S1_X0_filmAgain a0 I J)) (F_X0_filmAgain_w39 a0 I J (0, (S1_X0_filmAgain a0 I J))) (itW_some (hp1)) ?_ ?_
  · show WK K 0 0 104 [(0, .ref 104), (1, .int a0), (2, .int ((F_X0_filmAgain_w39 a0 I J (0, (S1_X0_filmAgain a0 I J))).1))] [] ((F_X0_filmAgain_w39 a0 I J (0, (S1_X0_filmAgain a0 I J))).2) J R n g
    exact w_vret ok fin dX0_filmAgain_104 rfl (by unfold FI_X0_filmAgain; exact Pd.i)
  · intro n39 s39 hs39 kc39 kx39
    show WK K 0 0 39 [(0, .ref 104), (1, .int a0), (2, .int s39.1)] [] s39.2 J R n g
    refine w_iload_n ok dX0_filmAgain_39 2 rfl ?_
    refine w_aload_n ok dX0_filmAgain_40 0 rfl ?_
    refine w_getR ok dX0_filmAgain_41 (fX0_40 rfl) (congrArg Prod.fst s_104) rfl (r_104_3 ro) (ltK hnn (by decide)) ?_
    refine w_getR ok dX0_filmAgain_44 (fX0_48 rfl) (congrArg Prod.fst s_2) rfl (r_2_0 ro) (ltK hnn (by decide)) ?_
    refine w_getI ok dX0_filmAgain_47 (fX0_80 rfl) (congrArg Prod.fst s_3) rfl (ltK hnn (by decide)) ?_
    refine w_icmp_ge (tgt := 104) ok dX0_filmAgain_50 (by decide) (fun c1 => ?_) (fun c1 => ?_)
    · skip
      have eB : B_X0_filmAgain_w39 a0 I J s39 = .inr (s39.1, s39.2) := by
        unfold B_X0_filmAgain_w39; exact (if_pos c1).trans (rfl)
      refine w_loc [0, 1, 2] rfl ?_
      have kk := kx39 _ eB
      exact kk
    · skip
      refine w_aload_n ok dX0_filmAgain_53 0 rfl ?_
      refine w_getR ok dX0_filmAgain_54 (fX0_12 rfl) (congrArg Prod.fst s_104) rfl (r_104_0 ro) (ltK hnn (by decide)) ?_
      refine w_getR ok dX0_filmAgain_57 (fX0_139 rfl) (congrArg Prod.fst s_105) rfl (r_105_11 ro) (ltK hnn (by decide)) ?_
      refine w_iload_n ok dX0_filmAgain_60 2 rfl ?_
      refine w_cS (As := [.ref 110, .int s39.1]) ok dX0_filmAgain_61 iX11_at (lX0_86 rfl) (c_at s_110 (ltK hnn (by decide)) s39.1) (by decide) rfl (Nat.le_of_ble_eq_true rfl) ?_
      refine w_istore_n ok dX0_filmAgain_64 rfl (by decide) rfl ?_
      refine w_iload_n ok dX0_filmAgain_65 0 rfl ?_
      refine w_if_lt (tgt := 98) ok dX0_filmAgain_66 (by decide) (fun c2 => ?_) (fun c2 => ?_)
      · skip
        refine w_iinc (v := s39.1 + 1) ok dX0_filmAgain_98 3 rfl rfl (by decide) rfl ?_
        refine w_goto (tgt := 39) ok dX0_filmAgain_101 (by decide) ?_
        have eB : B_X0_filmAgain_w39 a0 I J s39 = .inl ((s39.1 + 1), s39.2) := by
          unfold B_X0_filmAgain_w39; exact (if_neg c1).trans ((if_pos c2).trans (rfl))
        refine w_loc [2, 3, 0] rfl ?_
        have kk := kc39 _ eB
        exact kk
      · skip
        refine w_aload_n ok dX0_filmAgain_69 1 rfl ?_
        refine w_getR ok dX0_filmAgain_70 (fX0_12 rfl) (congrArg Prod.fst s_104) rfl (r_104_0 ro) (ltK hnn (by decide)) ?_
        refine w_iload_n ok dX0_filmAgain_73 2 rfl ?_
        refine w_iload_n ok dX0_filmAgain_74 3 rfl ?_
        refine w_cV (As := [.int a0, .int s39.1]) ok dX0_filmAgain_75 iX5_wayIn (lX0_135 rfl) (rcv cls5 (congrArg Prod.fst s_105)) (ltK hnn (by decide)) (c_X5_wayIn ro hnn a0 s39.1 isSc_105) (by decide) rfl (Nat.le_of_ble_eq_true rfl) ?_
        refine w_if_lt (tgt := 98) ok dX0_filmAgain_78 (by decide) (fun c3 => ?_) (fun c3 => ?_)
        · skip
          refine w_iinc (v := s39.1 + 1) ok dX0_filmAgain_98 3 rfl rfl (by decide) rfl ?_
          refine w_goto (tgt := 39) ok dX0_filmAgain_101 (by decide) ?_
          have eB : B_X0_filmAgain_w39 a0 I J s39 = .inl ((s39.1 + 1), s39.2) := by
            unfold B_X0_filmAgain_w39; exact (if_neg c1).trans ((if_neg c2).trans ((if_pos c3).trans (rfl)))
          refine w_loc [2, 3, 0] rfl ?_
          have kk := kc39 _ eB
          exact kk
        · skip
          refine w_aload_n ok dX0_filmAgain_81 1 rfl ?_
          refine w_getR ok dX0_filmAgain_82 (fX0_12 rfl) (congrArg Prod.fst s_104) rfl (r_104_0 ro) (ltK hnn (by decide)) ?_
          refine w_getR ok dX0_filmAgain_85 (fX0_142 rfl) (congrArg Prod.fst s_105) rfl (r_105_10 ro) (ltK hnn (by decide)) ?_
          refine w_iload_n ok dX0_filmAgain_88 2 rfl ?_
          refine w_bipush (v := 6) ok dX0_filmAgain_89 (by decide) ?_
          refine w_imul ok dX0_filmAgain_91 ?_
          refine w_iload_n ok dX0_filmAgain_92 3 rfl ?_
          refine w_iadd ok dX0_filmAgain_93 ?_
          refine w_iload_n ok dX0_filmAgain_94 0 rfl ?_
          refine w_cS (As := [.ref 109, .int ((a0 * 6) + s39.1), .int (atF (s39.2 110) 6 s39.1)]) ok dX0_filmAgain_95 iX11_put (lX0_131 rfl) (c_put s_109 (ltK hnn (by decide)) ((a0 * 6) + s39.1) (atF (s39.2 110) 6 s39.1)) (by decide) rfl (Nat.le_of_ble_eq_true rfl) ?_
          refine w_iinc (v := s39.1 + 1) ok dX0_filmAgain_98 3 rfl rfl (by decide) rfl ?_
          refine w_goto (tgt := 39) ok dX0_filmAgain_101 (by decide) ?_
          have eB : B_X0_filmAgain_w39 a0 I J s39 = .inl ((s39.1 + 1), (putF s39.2 109 48 ((a0 * 6) + s39.1) (atF (s39.2 110) 6 s39.1))) := by
            unfold B_X0_filmAgain_w39; exact (if_neg c1).trans ((if_neg c2).trans ((if_neg c3).trans (rfl)))
          refine w_loc [2, 3, 0] rfl ?_
          have kk := kc39 _ eB
          exact kk
def S1_X1_worth (k : Nat) (a0 : Nat) (la0 : Nat) (I : SI) (J : SJ) (i4 : Nat) (s4 : Int32 × SJ) : Int32 := lg_cmp (F_X1_leaf (atF (I (k + 1)) 64 (nI i4)) (atF (I (k + 2)) 64 (nI i4)) a0 la0 I s4.2) 1000000000000
def S2_X1_worth (k : Nat) (a0 : Nat) (la0 : Nat) (I : SI) (J : SJ) (i4 : Nat) (s4 : Int32 × SJ) : Int32 := lg_cmp (F_X1_leaf (atF (I (k + 1)) 64 (nI i4)) (atF (I (k + 2)) 64 (nI i4)) a0 la0 I s4.2) (-1000000000000)
def S3_X1_worth (k : Nat) (a0 : Nat) (la0 : Nat) (I : SI) (J : SJ) (i4 : Nat) (s4 : Int32 × SJ) : SJ := u2 s4.2 (k + 3) (s4.1 - (F_X1_partsOf (atF (I (k + 1)) 64 (nI i4)) I s4.2)).toNatClampNeg (F_X1_leaf (atF (I (k + 1)) 64 (nI i4)) (atF (I (k + 2)) 64 (nI i4)) a0 la0 I s4.2)
def S4_X1_worth (k : Nat) (a0 : Nat) (la0 : Nat) (I : SI) (J : SJ) (i4 : Nat) (s4 : Int32 × SJ) : SJ := u2 s4.2 (k + 3) (s4.1 - (F_X1_partsOf (atF (I (k + 1)) 64 (nI i4)) I s4.2)).toNatClampNeg ((0 : Int32).toInt64)
def S5_X1_worth (k : Nat) (a0 : Nat) (la0 : Nat) (I : SI) (J : SJ) (i4 : Nat) (s4 : Int32 × SJ) : SJ := u2 s4.2 (k + 3) (s4.1 - (F_X1_partsOf (atF (I (k + 1)) 64 (nI i4)) I s4.2)).toNatClampNeg ((1 : Int32).toInt64)
def S6_X1_worth (k : Nat) (a0 : Nat) (la0 : Nat) (I : SI) (J : SJ) (i4 : Nat) (s4 : Int32 × SJ) : Int64 := F_X1_join (atF (I (k + 1)) 64 (nI i4)) (F_X1_openAt k (s4.1 - 2) I s4.2) (F_X1_openAt k (s4.1 - 1) I s4.2) I s4.2
def S7_X1_worth (k : Nat) (a0 : Nat) (la0 : Nat) (I : SI) (J : SJ) (i4 : Nat) (s4 : Int32 × SJ) : SJ := u2 s4.2 (k + 3) (s4.1 - (F_X1_partsOf (atF (I (k + 1)) 64 (nI i4)) I s4.2)).toNatClampNeg (S6_X1_worth k a0 la0 I J i4 s4)
def B_X1_worth_l4_2 (k : Nat) (a0 : Nat) (la0 : Nat) (I : SI) (J : SJ) (i4 : Nat) (s4 : Int32 × SJ) : (Int32 × SJ) ⊕ (Int64 × SJ) := if (F_X1_partsOf (atF (I (k + 1)) 64 (nI i4)) I s4.2) = 2 then (if (0 : Int32) < (lg_cmp (S6_X1_worth k a0 la0 I J i4 s4) 1000000000000) then .inr ((-9223372036854775808), s4.2) else (if (0 : Int32) ≤ (lg_cmp (S6_X1_worth k a0 la0 I J i4 s4) (-1000000000000)) then (if (s4.1 - (F_X1_partsOf (atF (I (k + 1)) 64 (nI i4)) I s4.2)) < 0 then .inl (((s4.1 - (F_X1_partsOf (atF (I (k + 1)) 64 (nI i4)) I s4.2)) + 1), s4.2) else (if (64 : Int32) ≤ (s4.1 - (F_X1_partsOf (atF (I (k + 1)) 64 (nI i4)) I s4.2)) then .inl (((s4.1 - (F_X1_partsOf (atF (I (k + 1)) 64 (nI i4)) I s4.2)) + 1), s4.2) else .inl (((s4.1 - (F_X1_partsOf (atF (I (k + 1)) 64 (nI i4)) I s4.2)) + 1), (S7_X1_worth k a0 la0 I J i4 s4)))) else .inr ((-9223372036854775808), s4.2))) else (if (F_X1_partsOf (atF (I (k + 1)) 64 (nI i4)) I s4.2) = 1 then (if (lg_cmp (F_X1_openAt k (s4.1 - 1) I s4.2) 0) = 0 then (if (0 : Int32) < (lg_cmp ((1 : Int32).toInt64) 1000000000000) then .inr ((-9223372036854775808), s4.2) else (if (0 : Int32) ≤ (lg_cmp ((1 : Int32).toInt64) (-1000000000000)) then (if (s4.1 - (F_X1_partsOf (atF (I (k + 1)) 64 (nI i4)) I s4.2)) < 0 then .inl (((s4.1 - (F_X1_partsOf (atF (I (k + 1)) 64 (nI i4)) I s4.2)) + 1), s4.2) else (if (64 : Int32) ≤ (s4.1 - (F_X1_partsOf (atF (I (k + 1)) 64 (nI i4)) I s4.2)) then .inl (((s4.1 - (F_X1_partsOf (atF (I (k + 1)) 64 (nI i4)) I s4.2)) + 1), s4.2) else .inl (((s4.1 - (F_X1_partsOf (atF (I (k + 1)) 64 (nI i4)) I s4.2)) + 1), (S5_X1_worth k a0 la0 I J i4 s4)))) else .inr ((-9223372036854775808), s4.2))) else (if (0 : Int32) < (lg_cmp ((0 : Int32).toInt64) 1000000000000) then .inr ((-9223372036854775808), s4.2) else (if (0 : Int32) ≤ (lg_cmp ((0 : Int32).toInt64) (-1000000000000)) then (if (s4.1 - (F_X1_partsOf (atF (I (k + 1)) 64 (nI i4)) I s4.2)) < 0 then .inl (((s4.1 - (F_X1_partsOf (atF (I (k + 1)) 64 (nI i4)) I s4.2)) + 1), s4.2) else (if (64 : Int32) ≤ (s4.1 - (F_X1_partsOf (atF (I (k + 1)) 64 (nI i4)) I s4.2)) then .inl (((s4.1 - (F_X1_partsOf (atF (I (k + 1)) 64 (nI i4)) I s4.2)) + 1), s4.2) else .inl (((s4.1 - (F_X1_partsOf (atF (I (k + 1)) 64 (nI i4)) I s4.2)) + 1), (S4_X1_worth k a0 la0 I J i4 s4)))) else .inr ((-9223372036854775808), s4.2)))) else (if (0 : Int32) < (S1_X1_worth k a0 la0 I J i4 s4) then .inr ((-9223372036854775808), s4.2) else (if (0 : Int32) ≤ (S2_X1_worth k a0 la0 I J i4 s4) then (if (s4.1 - (F_X1_partsOf (atF (I (k + 1)) 64 (nI i4)) I s4.2)) < 0 then .inl (((s4.1 - (F_X1_partsOf (atF (I (k + 1)) 64 (nI i4)) I s4.2)) + 1), s4.2) else (if (64 : Int32) ≤ (s4.1 - (F_X1_partsOf (atF (I (k + 1)) 64 (nI i4)) I s4.2)) then .inl (((s4.1 - (F_X1_partsOf (atF (I (k + 1)) 64 (nI i4)) I s4.2)) + 1), s4.2) else .inl (((s4.1 - (F_X1_partsOf (atF (I (k + 1)) 64 (nI i4)) I s4.2)) + 1), (S3_X1_worth k a0 la0 I J i4 s4)))) else .inr ((-9223372036854775808), s4.2))))
def F_X1_worth_l4_2 (k : Nat) (a0 : Nat) (la0 : Nat) (I : SI) (J : SJ) (s0 : Int32 × SJ) : (Int32 × SJ) ⊕ (Int64 × SJ) := itE (B_X1_worth_l4_2 k a0 la0 I J) ((I k 1).toNatClampNeg) 0 s0
def F_X1_worth (k : Nat) (a0 : Nat) (la0 : Nat) (I : SI) (J : SJ) : Int64 := (match (F_X1_worth_l4_2 k a0 la0 I J (0, J)) with | .inl se4 => if (I k 0) = 0 then -9223372036854775808 else F_X1_openAt k (se4.1 - 1) I se4.2 | .inr re4 => re4.1)
def FJ_X1_worth (k : Nat) (a0 : Nat) (la0 : Nat) (I : SI) (J : SJ) : SJ := (match (F_X1_worth_l4_2 k a0 la0 I J (0, J)) with | .inl se4 => if (I k 0) = 0 then se4.2 else se4.2 | .inr re4 => re4.2)
def H_X1_worth (k : Nat) (a0 : Nat) (la0 : Nat) (I : SI) (J : SJ) : Prop := (∀ (i4 : Nat) (s4 : Int32 × SJ), i4 < (I k 1).toNatClampNeg → itE (B_X1_worth_l4_2 k a0 la0 I J) i4 0 (0, J) = .inl s4 → (F_X1_partsOf (atF (I (k + 1)) 64 (nI i4)) I s4.2) = 2 → H_X1_join (atF (I (k + 1)) 64 (nI i4)) (F_X1_openAt k (s4.1 - 2) I s4.2) (F_X1_openAt k (s4.1 - 1) I s4.2) I s4.2)
set_option maxHeartbeats 3780000 in
set_option maxRecDepth 40000 in
theorem c_X1_worth {I : SI} {J : SJ} {R : SR} {n g : Nat} (ro : RO R) (hnn : nK ≤ n) {k : Nat} {a0 : Nat} {la0 : Nat} (hk : IsLw k) (hsa0 : SH a0 = (15, la0)) (hka0 : a0 < n) (hlen : la0 < 2 ^ 31)  (hp : H_X1_worth k a0 la0 I J) : MM 1 0 0 mX1_worth [.ref k, .ref a0] I J R n g (Pd (some (.long (F_X1_worth k a0 la0 I J))) I (FJ_X1_worth k a0 la0 I J) R n g) := by
  refine MM.of (by decide) (Nat.le_of_ble_eq_true rfl) fun K ok fin => ?_
  show WK K 0 0 0 [(0, .ref k), (1, .ref a0)] [] I J R n g
  have hp1 := hp
  refine w_iconst (v := 0) ok dX1_worth_0 (by decide) ?_
  refine w_istore_n ok dX1_worth_1 rfl (by decide) rfl ?_
  refine w_iconst (v := 0) ok dX1_worth_2 (by decide) ?_
  refine w_istore_n ok dX1_worth_3 rfl (by decide) rfl ?_
  refine w_loc [2, 3, 1, 0] rfl ?_
  refine loop_e (σ := Int32 × SJ) (ρ := Int64 × SJ) (fun (i4 : Nat) (s4 : Int32 × SJ) => WK K 0 0 4 [(0, .ref k), (1, .ref a0), (2, .int s4.1), (3, .int (nI i4))] [] I s4.2 R n g) (B_X1_worth_l4_2 k a0 la0 I J) ((I k 1).toNatClampNeg) ((0, J)) ?_ ?_
  · intro se4 he4
    have he4 : (F_X1_worth_l4_2 k a0 la0 I J (0, J)) = .inl se4 := he4
    show WK K 0 0 4 [(0, .ref k), (1, .ref a0), (2, .int se4.1), (3, .int (nI ((I k 1).toNatClampNeg)))] [] I se4.2 R n g
    have e1 : (I k 1) ≤ (nI ((I k 1).toNatClampNeg)) := cnt_ge _
    refine w_iload_n ok dX1_worth_4 3 rfl ?_
    refine w_aload_n ok dX1_worth_5 0 rfl ?_
    refine w_getI ok dX1_worth_6 (fX1_15 rfl) (congrArg Prod.fst (sLw hk)) rfl (ltK hnn (nLw hk)) ?_
    refine w_icmp_ge (tgt := 156) ok dX1_worth_9 (by decide) (fun _ => ?_) (fun h => absurd e1 h)
    refine w_aload_n ok dX1_worth_156 0 rfl ?_
    refine w_getI ok dX1_worth_157 (fX1_9 rfl) (congrArg Prod.fst (sLw hk)) rfl (ltK hnn (nLw hk)) ?_
    refine w_if_eq (tgt := 173) ok dX1_worth_160 (by decide) (fun c2 => ?_) (fun c2 => ?_)
    · skip
      refine w_ldc2 ok dX1_worth_173 kX1_58 ?_
      exact w_lret ok fin dX1_worth_176 rfl (by unfold F_X1_worth FJ_X1_worth; simp only [he4]; simp only [if_pos c2]; exact Pd.i)
    · skip
      refine w_aload_n ok dX1_worth_163 0 rfl ?_
      refine w_iload_n ok dX1_worth_164 2 rfl ?_
      refine w_iconst (v := 1) ok dX1_worth_165 (by decide) ?_
      refine w_isub ok dX1_worth_166 ?_
      refine w_cV (As := [.int (se4.1 - 1)]) ok dX1_worth_167 iX1_openAt (lX1_42 rfl) (rcv cls1 (congrArg Prod.fst (sLw hk))) (ltK hnn (nLw hk)) (c_X1_openAt ro hnn (se4.1 - 1) hk) (by decide) rfl (Nat.le_of_ble_eq_true rfl) ?_
      refine w_goto (tgt := 176) ok dX1_worth_170 (by decide) ?_
      exact w_lret ok fin dX1_worth_176 rfl (by unfold F_X1_worth FJ_X1_worth; simp only [he4]; simp only [if_neg c2]; exact Pd.i)
  · intro i4 s4 hi4 hs4 k4 kr4
    show WK K 0 0 4 [(0, .ref k), (1, .ref a0), (2, .int s4.1), (3, .int (nI i4))] [] I s4.2 R n g
    have e3 : ¬ ((I k 1) ≤ (nI i4)) := cnt_lt hi4
    refine w_iload_n ok dX1_worth_4 3 rfl ?_
    refine w_aload_n ok dX1_worth_5 0 rfl ?_
    refine w_getI ok dX1_worth_6 (fX1_15 rfl) (congrArg Prod.fst (sLw hk)) rfl (ltK hnn (nLw hk)) ?_
    refine w_icmp_ge (tgt := 156) ok dX1_worth_9 (by decide) (fun h => absurd h e3) (fun _ => ?_)
    refine w_aload_n ok dX1_worth_12 0 rfl ?_
    refine w_getR ok dX1_worth_13 (fX1_19 rfl) (congrArg Prod.fst (sLw hk)) rfl (rLw_2 hk ro) (ltK hnn (nLw hk)) ?_
    refine w_iload_n ok dX1_worth_16 3 rfl ?_
    refine w_cS (As := [.ref (k + 1), .int (nI i4)]) ok dX1_worth_17 iX11_at (lX1_34 rfl) (c_at (sLw_2 hk) (ltK hnn (nLw_2 hk)) (nI i4)) (by decide) rfl (Nat.le_of_ble_eq_true rfl) ?_
    refine w_istore ok dX1_worth_20 (by decide) rfl ?_
    refine w_iload ok dX1_worth_22 0 rfl ?_
    refine w_cS (As := [.int (atF (I (k + 1)) 64 (nI i4))]) ok dX1_worth_24 iX1_partsOf (lX1_38 rfl) (c_X1_partsOf ro hnn (atF (I (k + 1)) 64 (nI i4)) ) (by decide) rfl (Nat.le_of_ble_eq_true rfl) ?_
    refine w_istore ok dX1_worth_27 (by decide) rfl ?_
    refine w_aload_n ok dX1_worth_29 2 rfl ?_
    refine w_iload_n ok dX1_worth_30 4 rfl ?_
    refine w_iconst (v := 1) ok dX1_worth_31 (by decide) ?_
    refine w_isub ok dX1_worth_32 ?_
    refine w_cV (As := [.int (s4.1 - 1)]) ok dX1_worth_33 iX1_openAt (lX1_42 rfl) (rcv cls1 (congrArg Prod.fst (sLw hk))) (ltK hnn (nLw hk)) (c_X1_openAt ro hnn (s4.1 - 1) hk) (by decide) rfl (Nat.le_of_ble_eq_true rfl) ?_
    refine w_lstore ok dX1_worth_36 (by decide) rfl ?_
    refine w_iload ok dX1_worth_38 1 rfl ?_
    refine w_iconst (v := 2) ok dX1_worth_40 (by decide) ?_
    refine w_icmp_ne (tgt := 61) ok dX1_worth_41 (by decide) (fun c4 => ?_) (fun c4 => ?_)
    · skip
      refine w_iload ok dX1_worth_61 1 rfl ?_
      refine w_iconst (v := 1) ok dX1_worth_63 (by decide) ?_
      refine w_icmp_ne (tgt := 83) ok dX1_worth_64 (by decide) (fun c5 => ?_) (fun c5 => ?_)
      · skip
        refine w_iload ok dX1_worth_83 2 rfl ?_
        refine w_aload_n ok dX1_worth_85 3 rfl ?_
        refine w_getR ok dX1_worth_86 (fX1_23 rfl) (congrArg Prod.fst (sLw hk)) rfl (rLw_3 hk ro) (ltK hnn (nLw hk)) ?_
        refine w_iload_n ok dX1_worth_89 6 rfl ?_
        refine w_cS (As := [.ref (k + 2), .int (nI i4)]) ok dX1_worth_90 iX11_at (lX1_34 rfl) (c_at (sLw_3 hk) (ltK hnn (nLw_3 hk)) (nI i4)) (by decide) rfl (Nat.le_of_ble_eq_true rfl) ?_
        show WK K 0 0 93 [(6, .long (F_X1_openAt k (s4.1 - 1) I s4.2)), (5, .int (F_X1_partsOf (atF (I (k + 1)) 64 (nI i4)) I s4.2)), (4, .int (atF (I (k + 1)) 64 (nI i4))), (0, .ref k), (1, .ref a0), (2, .int s4.1), (3, .int (nI i4))] [.int (atF (I (k + 2)) 64 (nI i4)), .int (atF (I (k + 1)) 64 (nI i4))] I s4.2 R n g
        refine w_aload_n ok dX1_worth_93 4 rfl ?_
        refine w_cS (As := [.int (atF (I (k + 1)) 64 (nI i4)), .int (atF (I (k + 2)) 64 (nI i4)), .ref a0]) ok dX1_worth_94 iX1_leaf (lX1_50 rfl) (c_X1_leaf ro hnn (atF (I (k + 1)) 64 (nI i4)) (atF (I (k + 2)) 64 (nI i4)) hsa0 hka0 (sh_len hsa0)) (by decide) rfl (Nat.le_of_ble_eq_true rfl) ?_
        refine w_lstore ok dX1_worth_97 (by decide) rfl ?_
        refine w_lload ok dX1_worth_99 0 rfl ?_
        refine w_ldc2 ok dX1_worth_101 kX1_54 ?_
        refine w_lcmp ok dX1_worth_104 ?_
        show WK K 0 0 105 [(8, .long (F_X1_leaf (atF (I (k + 1)) 64 (nI i4)) (atF (I (k + 2)) 64 (nI i4)) a0 la0 I s4.2)), (6, .long (F_X1_openAt k (s4.1 - 1) I s4.2)), (5, .int (F_X1_partsOf (atF (I (k + 1)) 64 (nI i4)) I s4.2)), (4, .int (atF (I (k + 1)) 64 (nI i4))), (0, .ref k), (1, .ref a0), (2, .int s4.1), (3, .int (nI i4))] [.int (S1_X1_worth k a0 la0 I J i4 s4)] I s4.2 R n g
        refine w_if_gt (tgt := 117) ok dX1_worth_105 (by decide) (fun c6 => ?_) (fun c6 => ?_)
        · skip
          refine w_ldc2 ok dX1_worth_117 kX1_58 ?_
          have eB : B_X1_worth_l4_2 k a0 la0 I J i4 s4 = .inr ((-9223372036854775808), s4.2) := by
            unfold B_X1_worth_l4_2; exact (if_neg c4).trans ((if_neg c5).trans ((if_pos c6).trans (rfl)))
          have hr : (F_X1_worth_l4_2 k a0 la0 I J (0, J)) = .inr ((-9223372036854775808), s4.2) := kr4 _ eB
          exact w_lret ok fin dX1_worth_120 rfl (by unfold F_X1_worth FJ_X1_worth; simp only [hr]; exact Pd.i)
        · skip
          refine w_lload ok dX1_worth_108 0 rfl ?_
          refine w_ldc2 ok dX1_worth_110 kX1_56 ?_
          refine w_lcmp ok dX1_worth_113 ?_
          show WK K 0 0 114 [(8, .long (F_X1_leaf (atF (I (k + 1)) 64 (nI i4)) (atF (I (k + 2)) 64 (nI i4)) a0 la0 I s4.2)), (6, .long (F_X1_openAt k (s4.1 - 1) I s4.2)), (5, .int (F_X1_partsOf (atF (I (k + 1)) 64 (nI i4)) I s4.2)), (4, .int (atF (I (k + 1)) 64 (nI i4))), (0, .ref k), (1, .ref a0), (2, .int s4.1), (3, .int (nI i4))] [.int (S2_X1_worth k a0 la0 I J i4 s4)] I s4.2 R n g
          refine w_if_ge (tgt := 121) ok dX1_worth_114 (by decide) (fun c7 => ?_) (fun c7 => ?_)
          · skip
            refine w_iload_n ok dX1_worth_121 6 rfl ?_
            refine w_iload ok dX1_worth_122 2 rfl ?_
            refine w_isub ok dX1_worth_124 ?_
            refine w_istore_n ok dX1_worth_125 rfl (by decide) rfl ?_
            refine w_iload_n ok dX1_worth_126 0 rfl ?_
            refine w_if_lt (tgt := 147) ok dX1_worth_127 (by decide) (fun c8 => ?_) (fun c8 => ?_)
            · skip
              refine w_iinc (v := (s4.1 - (F_X1_partsOf (atF (I (k + 1)) 64 (nI i4)) I s4.2)) + 1) ok dX1_worth_147 0 rfl rfl (by decide) rfl ?_
              refine w_iinc (v := (nI i4) + 1) ok dX1_worth_150 7 rfl rfl (by decide) rfl ?_
              refine w_goto (tgt := 4) ok dX1_worth_153 (by decide) ?_
              have eB : B_X1_worth_l4_2 k a0 la0 I J i4 s4 = .inl (((s4.1 - (F_X1_partsOf (atF (I (k + 1)) 64 (nI i4)) I s4.2)) + 1), s4.2) := by
                unfold B_X1_worth_l4_2; exact (if_neg c4).trans ((if_neg c5).trans ((if_neg c6).trans ((if_pos c7).trans ((if_pos c8).trans (rfl)))))
              have kk := k4 _ eB
              refine w_loc [6, 7, 1, 0] rfl ?_
              rw [nI_1 i4]
              exact kk
            · skip
              refine w_iload_n ok dX1_worth_130 0 rfl ?_
              refine w_aload_n ok dX1_worth_131 5 rfl ?_
              refine w_getR ok dX1_worth_132 (fX1_26 rfl) (congrArg Prod.fst (sLw hk)) rfl (rLw_4 hk ro) (ltK hnn (nLw hk)) ?_
              refine w_alen (v := 64) ok dX1_worth_135 (sLw_4 hk) (by decide) (by decide) (ltK hnn (nLw_4 hk)) ?_
              refine w_icmp_ge (tgt := 147) ok dX1_worth_136 (by decide) (fun c9 => ?_) (fun c9 => ?_)
              · skip
                refine w_iinc (v := (s4.1 - (F_X1_partsOf (atF (I (k + 1)) 64 (nI i4)) I s4.2)) + 1) ok dX1_worth_147 0 rfl rfl (by decide) rfl ?_
                refine w_iinc (v := (nI i4) + 1) ok dX1_worth_150 7 rfl rfl (by decide) rfl ?_
                refine w_goto (tgt := 4) ok dX1_worth_153 (by decide) ?_
                have eB : B_X1_worth_l4_2 k a0 la0 I J i4 s4 = .inl (((s4.1 - (F_X1_partsOf (atF (I (k + 1)) 64 (nI i4)) I s4.2)) + 1), s4.2) := by
                  unfold B_X1_worth_l4_2; exact (if_neg c4).trans ((if_neg c5).trans ((if_neg c6).trans ((if_pos c7).trans ((if_neg c8).trans ((if_pos c9).trans (rfl))))))
                have kk := k4 _ eB
                refine w_loc [6, 7, 1, 0] rfl ?_
                rw [nI_1 i4]
                exact kk
              · skip
                refine w_aload_n ok dX1_worth_139 5 rfl ?_
                refine w_getR ok dX1_worth_140 (fX1_26 rfl) (congrArg Prod.fst (sLw hk)) rfl (rLw_4 hk ro) (ltK hnn (nLw hk)) ?_
                refine w_iload_n ok dX1_worth_143 0 rfl ?_
                refine w_lload ok dX1_worth_144 1 rfl ?_
                refine x_last (q := (s4.1 - (F_X1_partsOf (atF (I (k + 1)) 64 (nI i4)) I s4.2)).toNatClampNeg) ok dX1_worth_146 (sLw_4 hk) (in_of c8 (show ¬ (nI 64 ≤ _) from c9) (sh_len (sLw_4 hk))) (by decide) (ltK hnn (nLw_4 hk)) ?_
                show WK K 0 0 147 [(2, .int (s4.1 - (F_X1_partsOf (atF (I (k + 1)) 64 (nI i4)) I s4.2))), (8, .long (F_X1_leaf (atF (I (k + 1)) 64 (nI i4)) (atF (I (k + 2)) 64 (nI i4)) a0 la0 I s4.2)), (6, .long (F_X1_openAt k (s4.1 - 1) I s4.2)), (5, .int (F_X1_partsOf (atF (I (k + 1)) 64 (nI i4)) I s4.2)), (4, .int (atF (I (k + 1)) 64 (nI i4))), (0, .ref k), (1, .ref a0), (3, .int (nI i4))] [] I (S3_X1_worth k a0 la0 I J i4 s4) R n g
                refine w_iinc (v := (s4.1 - (F_X1_partsOf (atF (I (k + 1)) 64 (nI i4)) I s4.2)) + 1) ok dX1_worth_147 0 rfl rfl (by decide) rfl ?_
                refine w_iinc (v := (nI i4) + 1) ok dX1_worth_150 7 rfl rfl (by decide) rfl ?_
                refine w_goto (tgt := 4) ok dX1_worth_153 (by decide) ?_
                have eB : B_X1_worth_l4_2 k a0 la0 I J i4 s4 = .inl (((s4.1 - (F_X1_partsOf (atF (I (k + 1)) 64 (nI i4)) I s4.2)) + 1), (S3_X1_worth k a0 la0 I J i4 s4)) := by
                  unfold B_X1_worth_l4_2; exact (if_neg c4).trans ((if_neg c5).trans ((if_neg c6).trans ((if_pos c7).trans ((if_neg c8).trans ((if_neg c9).trans (rfl))))))
                have kk := k4 _ eB
                refine w_loc [6, 7, 1, 0] rfl ?_
                rw [nI_1 i4]
                exact kk
          · skip
            refine w_ldc2 ok dX1_worth_117 kX1_58 ?_
            have eB : B_X1_worth_l4_2 k a0 la0 I J i4 s4 = .inr ((-9223372036854775808), s4.2) := by
              unfold B_X1_worth_l4_2; exact (if_neg c4).trans ((if_neg c5).trans ((if_neg c6).trans ((if_neg c7).trans (rfl))))
            have hr : (F_X1_worth_l4_2 k a0 la0 I J (0, J)) = .inr ((-9223372036854775808), s4.2) := kr4 _ eB
            exact w_lret ok fin dX1_worth_120 rfl (by unfold F_X1_worth FJ_X1_worth; simp only [hr]; exact Pd.i)
      · skip
        refine w_lload ok dX1_worth_67 0 rfl ?_
        refine w_lconst (v := 0) ok dX1_worth_69 (by decide) ?_
        refine w_lcmp ok dX1_worth_70 ?_
        refine w_if_ne (tgt := 78) ok dX1_worth_71 (by decide) (fun c10 => ?_) (fun c10 => ?_)
        · skip
          refine w_iconst (v := 0) ok dX1_worth_78 (by decide) ?_
          refine w_i2l ok dX1_worth_79 ?_
          refine w_goto (tgt := 97) ok dX1_worth_80 (by decide) ?_
          refine w_lstore ok dX1_worth_97 (by decide) rfl ?_
          refine w_lload ok dX1_worth_99 0 rfl ?_
          refine w_ldc2 ok dX1_worth_101 kX1_54 ?_
          refine w_lcmp ok dX1_worth_104 ?_
          refine w_if_gt (tgt := 117) ok dX1_worth_105 (by decide) (fun c11 => ?_) (fun c11 => ?_)
          · skip
            refine w_ldc2 ok dX1_worth_117 kX1_58 ?_
            have eB : B_X1_worth_l4_2 k a0 la0 I J i4 s4 = .inr ((-9223372036854775808), s4.2) := by
              unfold B_X1_worth_l4_2; exact (if_neg c4).trans ((if_pos c5).trans ((if_neg c10).trans ((if_pos c11).trans (rfl))))
            have hr : (F_X1_worth_l4_2 k a0 la0 I J (0, J)) = .inr ((-9223372036854775808), s4.2) := kr4 _ eB
            exact w_lret ok fin dX1_worth_120 rfl (by unfold F_X1_worth FJ_X1_worth; simp only [hr]; exact Pd.i)
          · skip
            refine w_lload ok dX1_worth_108 0 rfl ?_
            refine w_ldc2 ok dX1_worth_110 kX1_56 ?_
            refine w_lcmp ok dX1_worth_113 ?_
            refine w_if_ge (tgt := 121) ok dX1_worth_114 (by decide) (fun c12 => ?_) (fun c12 => ?_)
            · skip
              refine w_iload_n ok dX1_worth_121 6 rfl ?_
              refine w_iload ok dX1_worth_122 2 rfl ?_
              refine w_isub ok dX1_worth_124 ?_
              refine w_istore_n ok dX1_worth_125 rfl (by decide) rfl ?_
              refine w_iload_n ok dX1_worth_126 0 rfl ?_
              refine w_if_lt (tgt := 147) ok dX1_worth_127 (by decide) (fun c13 => ?_) (fun c13 => ?_)
              · skip
                refine w_iinc (v := (s4.1 - (F_X1_partsOf (atF (I (k + 1)) 64 (nI i4)) I s4.2)) + 1) ok dX1_worth_147 0 rfl rfl (by decide) rfl ?_
                refine w_iinc (v := (nI i4) + 1) ok dX1_worth_150 7 rfl rfl (by decide) rfl ?_
                refine w_goto (tgt := 4) ok dX1_worth_153 (by decide) ?_
                have eB : B_X1_worth_l4_2 k a0 la0 I J i4 s4 = .inl (((s4.1 - (F_X1_partsOf (atF (I (k + 1)) 64 (nI i4)) I s4.2)) + 1), s4.2) := by
                  unfold B_X1_worth_l4_2; exact (if_neg c4).trans ((if_pos c5).trans ((if_neg c10).trans ((if_neg c11).trans ((if_pos c12).trans ((if_pos c13).trans (rfl))))))
                have kk := k4 _ eB
                refine w_loc [6, 7, 1, 0] rfl ?_
                rw [nI_1 i4]
                exact kk
              · skip
                refine w_iload_n ok dX1_worth_130 0 rfl ?_
                refine w_aload_n ok dX1_worth_131 5 rfl ?_
                refine w_getR ok dX1_worth_132 (fX1_26 rfl) (congrArg Prod.fst (sLw hk)) rfl (rLw_4 hk ro) (ltK hnn (nLw hk)) ?_
                refine w_alen (v := 64) ok dX1_worth_135 (sLw_4 hk) (by decide) (by decide) (ltK hnn (nLw_4 hk)) ?_
                refine w_icmp_ge (tgt := 147) ok dX1_worth_136 (by decide) (fun c14 => ?_) (fun c14 => ?_)
                · skip
                  refine w_iinc (v := (s4.1 - (F_X1_partsOf (atF (I (k + 1)) 64 (nI i4)) I s4.2)) + 1) ok dX1_worth_147 0 rfl rfl (by decide) rfl ?_
                  refine w_iinc (v := (nI i4) + 1) ok dX1_worth_150 7 rfl rfl (by decide) rfl ?_
                  refine w_goto (tgt := 4) ok dX1_worth_153 (by decide) ?_
                  have eB : B_X1_worth_l4_2 k a0 la0 I J i4 s4 = .inl (((s4.1 - (F_X1_partsOf (atF (I (k + 1)) 64 (nI i4)) I s4.2)) + 1), s4.2) := by
                    unfold B_X1_worth_l4_2; exact (if_neg c4).trans ((if_pos c5).trans ((if_neg c10).trans ((if_neg c11).trans ((if_pos c12).trans ((if_neg c13).trans ((if_pos c14).trans (rfl)))))))
                  have kk := k4 _ eB
                  refine w_loc [6, 7, 1, 0] rfl ?_
                  rw [nI_1 i4]
                  exact kk
                · skip
                  refine w_aload_n ok dX1_worth_139 5 rfl ?_
                  refine w_getR ok dX1_worth_140 (fX1_26 rfl) (congrArg Prod.fst (sLw hk)) rfl (rLw_4 hk ro) (ltK hnn (nLw hk)) ?_
                  refine w_iload_n ok dX1_worth_143 0 rfl ?_
                  refine w_lload ok dX1_worth_144 1 rfl ?_
                  refine x_last (q := (s4.1 - (F_X1_partsOf (atF (I (k + 1)) 64 (nI i4)) I s4.2)).toNatClampNeg) ok dX1_worth_146 (sLw_4 hk) (in_of c13 (show ¬ (nI 64 ≤ _) from c14) (sh_len (sLw_4 hk))) (by decide) (ltK hnn (nLw_4 hk)) ?_
                  show WK K 0 0 147 [(2, .int (s4.1 - (F_X1_partsOf (atF (I (k + 1)) 64 (nI i4)) I s4.2))), (8, .long ((0 : Int32).toInt64)), (6, .long (F_X1_openAt k (s4.1 - 1) I s4.2)), (5, .int (F_X1_partsOf (atF (I (k + 1)) 64 (nI i4)) I s4.2)), (4, .int (atF (I (k + 1)) 64 (nI i4))), (0, .ref k), (1, .ref a0), (3, .int (nI i4))] [] I (S4_X1_worth k a0 la0 I J i4 s4) R n g
                  refine w_iinc (v := (s4.1 - (F_X1_partsOf (atF (I (k + 1)) 64 (nI i4)) I s4.2)) + 1) ok dX1_worth_147 0 rfl rfl (by decide) rfl ?_
                  refine w_iinc (v := (nI i4) + 1) ok dX1_worth_150 7 rfl rfl (by decide) rfl ?_
                  refine w_goto (tgt := 4) ok dX1_worth_153 (by decide) ?_
                  have eB : B_X1_worth_l4_2 k a0 la0 I J i4 s4 = .inl (((s4.1 - (F_X1_partsOf (atF (I (k + 1)) 64 (nI i4)) I s4.2)) + 1), (S4_X1_worth k a0 la0 I J i4 s4)) := by
                    unfold B_X1_worth_l4_2; exact (if_neg c4).trans ((if_pos c5).trans ((if_neg c10).trans ((if_neg c11).trans ((if_pos c12).trans ((if_neg c13).trans ((if_neg c14).trans (rfl)))))))
                  have kk := k4 _ eB
                  refine w_loc [6, 7, 1, 0] rfl ?_
                  rw [nI_1 i4]
                  exact kk
            · skip
              refine w_ldc2 ok dX1_worth_117 kX1_58 ?_
              have eB : B_X1_worth_l4_2 k a0 la0 I J i4 s4 = .inr ((-9223372036854775808), s4.2) := by
                unfold B_X1_worth_l4_2; exact (if_neg c4).trans ((if_pos c5).trans ((if_neg c10).trans ((if_neg c11).trans ((if_neg c12).trans (rfl)))))
              have hr : (F_X1_worth_l4_2 k a0 la0 I J (0, J)) = .inr ((-9223372036854775808), s4.2) := kr4 _ eB
              exact w_lret ok fin dX1_worth_120 rfl (by unfold F_X1_worth FJ_X1_worth; simp only [hr]; exact Pd.i)
        · skip
          refine w_iconst (v := 1) ok dX1_worth_74 (by decide) ?_
          refine w_goto (tgt := 79) ok dX1_worth_75 (by decide) ?_
          refine w_i2l ok dX1_worth_79 ?_
          refine w_goto (tgt := 97) ok dX1_worth_80 (by decide) ?_
          refine w_lstore ok dX1_worth_97 (by decide) rfl ?_
          refine w_lload ok dX1_worth_99 0 rfl ?_
          refine w_ldc2 ok dX1_worth_101 kX1_54 ?_
          refine w_lcmp ok dX1_worth_104 ?_
          refine w_if_gt (tgt := 117) ok dX1_worth_105 (by decide) (fun c15 => ?_) (fun c15 => ?_)
          · skip
            refine w_ldc2 ok dX1_worth_117 kX1_58 ?_
            have eB : B_X1_worth_l4_2 k a0 la0 I J i4 s4 = .inr ((-9223372036854775808), s4.2) := by
              unfold B_X1_worth_l4_2; exact (if_neg c4).trans ((if_pos c5).trans ((if_pos c10).trans ((if_pos c15).trans (rfl))))
            have hr : (F_X1_worth_l4_2 k a0 la0 I J (0, J)) = .inr ((-9223372036854775808), s4.2) := kr4 _ eB
            exact w_lret ok fin dX1_worth_120 rfl (by unfold F_X1_worth FJ_X1_worth; simp only [hr]; exact Pd.i)
          · skip
            refine w_lload ok dX1_worth_108 0 rfl ?_
            refine w_ldc2 ok dX1_worth_110 kX1_56 ?_
            refine w_lcmp ok dX1_worth_113 ?_
            refine w_if_ge (tgt := 121) ok dX1_worth_114 (by decide) (fun c16 => ?_) (fun c16 => ?_)
            · skip
              refine w_iload_n ok dX1_worth_121 6 rfl ?_
              refine w_iload ok dX1_worth_122 2 rfl ?_
              refine w_isub ok dX1_worth_124 ?_
              refine w_istore_n ok dX1_worth_125 rfl (by decide) rfl ?_
              refine w_iload_n ok dX1_worth_126 0 rfl ?_
              refine w_if_lt (tgt := 147) ok dX1_worth_127 (by decide) (fun c17 => ?_) (fun c17 => ?_)
              · skip
                refine w_iinc (v := (s4.1 - (F_X1_partsOf (atF (I (k + 1)) 64 (nI i4)) I s4.2)) + 1) ok dX1_worth_147 0 rfl rfl (by decide) rfl ?_
                refine w_iinc (v := (nI i4) + 1) ok dX1_worth_150 7 rfl rfl (by decide) rfl ?_
                refine w_goto (tgt := 4) ok dX1_worth_153 (by decide) ?_
                have eB : B_X1_worth_l4_2 k a0 la0 I J i4 s4 = .inl (((s4.1 - (F_X1_partsOf (atF (I (k + 1)) 64 (nI i4)) I s4.2)) + 1), s4.2) := by
                  unfold B_X1_worth_l4_2; exact (if_neg c4).trans ((if_pos c5).trans ((if_pos c10).trans ((if_neg c15).trans ((if_pos c16).trans ((if_pos c17).trans (rfl))))))
                have kk := k4 _ eB
                refine w_loc [6, 7, 1, 0] rfl ?_
                rw [nI_1 i4]
                exact kk
              · skip
                refine w_iload_n ok dX1_worth_130 0 rfl ?_
                refine w_aload_n ok dX1_worth_131 5 rfl ?_
                refine w_getR ok dX1_worth_132 (fX1_26 rfl) (congrArg Prod.fst (sLw hk)) rfl (rLw_4 hk ro) (ltK hnn (nLw hk)) ?_
                refine w_alen (v := 64) ok dX1_worth_135 (sLw_4 hk) (by decide) (by decide) (ltK hnn (nLw_4 hk)) ?_
                refine w_icmp_ge (tgt := 147) ok dX1_worth_136 (by decide) (fun c18 => ?_) (fun c18 => ?_)
                · skip
                  refine w_iinc (v := (s4.1 - (F_X1_partsOf (atF (I (k + 1)) 64 (nI i4)) I s4.2)) + 1) ok dX1_worth_147 0 rfl rfl (by decide) rfl ?_
                  refine w_iinc (v := (nI i4) + 1) ok dX1_worth_150 7 rfl rfl (by decide) rfl ?_
                  refine w_goto (tgt := 4) ok dX1_worth_153 (by decide) ?_
                  have eB : B_X1_worth_l4_2 k a0 la0 I J i4 s4 = .inl (((s4.1 - (F_X1_partsOf (atF (I (k + 1)) 64 (nI i4)) I s4.2)) + 1), s4.2) := by
                    unfold B_X1_worth_l4_2; exact (if_neg c4).trans ((if_pos c5).trans ((if_pos c10).trans ((if_neg c15).trans ((if_pos c16).trans ((if_neg c17).trans ((if_pos c18).trans (rfl)))))))
                  have kk := k4 _ eB
                  refine w_loc [6, 7, 1, 0] rfl ?_
                  rw [nI_1 i4]
                  exact kk
                · skip
                  refine w_aload_n ok dX1_worth_139 5 rfl ?_
                  refine w_getR ok dX1_worth_140 (fX1_26 rfl) (congrArg Prod.fst (sLw hk)) rfl (rLw_4 hk ro) (ltK hnn (nLw hk)) ?_
                  refine w_iload_n ok dX1_worth_143 0 rfl ?_
                  refine w_lload ok dX1_worth_144 1 rfl ?_
                  refine x_last (q := (s4.1 - (F_X1_partsOf (atF (I (k + 1)) 64 (nI i4)) I s4.2)).toNatClampNeg) ok dX1_worth_146 (sLw_4 hk) (in_of c17 (show ¬ (nI 64 ≤ _) from c18) (sh_len (sLw_4 hk))) (by decide) (ltK hnn (nLw_4 hk)) ?_
                  show WK K 0 0 147 [(2, .int (s4.1 - (F_X1_partsOf (atF (I (k + 1)) 64 (nI i4)) I s4.2))), (8, .long ((1 : Int32).toInt64)), (6, .long (F_X1_openAt k (s4.1 - 1) I s4.2)), (5, .int (F_X1_partsOf (atF (I (k + 1)) 64 (nI i4)) I s4.2)), (4, .int (atF (I (k + 1)) 64 (nI i4))), (0, .ref k), (1, .ref a0), (3, .int (nI i4))] [] I (S5_X1_worth k a0 la0 I J i4 s4) R n g
                  refine w_iinc (v := (s4.1 - (F_X1_partsOf (atF (I (k + 1)) 64 (nI i4)) I s4.2)) + 1) ok dX1_worth_147 0 rfl rfl (by decide) rfl ?_
                  refine w_iinc (v := (nI i4) + 1) ok dX1_worth_150 7 rfl rfl (by decide) rfl ?_
                  refine w_goto (tgt := 4) ok dX1_worth_153 (by decide) ?_
                  have eB : B_X1_worth_l4_2 k a0 la0 I J i4 s4 = .inl (((s4.1 - (F_X1_partsOf (atF (I (k + 1)) 64 (nI i4)) I s4.2)) + 1), (S5_X1_worth k a0 la0 I J i4 s4)) := by
                    unfold B_X1_worth_l4_2; exact (if_neg c4).trans ((if_pos c5).trans ((if_pos c10).trans ((if_neg c15).trans ((if_pos c16).trans ((if_neg c17).trans ((if_neg c18).trans (rfl)))))))
                  have kk := k4 _ eB
                  refine w_loc [6, 7, 1, 0] rfl ?_
                  rw [nI_1 i4]
                  exact kk
            · skip
              refine w_ldc2 ok dX1_worth_117 kX1_58 ?_
              have eB : B_X1_worth_l4_2 k a0 la0 I J i4 s4 = .inr ((-9223372036854775808), s4.2) := by
                unfold B_X1_worth_l4_2; exact (if_neg c4).trans ((if_pos c5).trans ((if_pos c10).trans ((if_neg c15).trans ((if_neg c16).trans (rfl)))))
              have hr : (F_X1_worth_l4_2 k a0 la0 I J (0, J)) = .inr ((-9223372036854775808), s4.2) := kr4 _ eB
              exact w_lret ok fin dX1_worth_120 rfl (by unfold F_X1_worth FJ_X1_worth; simp only [hr]; exact Pd.i)
    · skip
      refine w_iload ok dX1_worth_44 2 rfl ?_
      refine w_aload_n ok dX1_worth_46 3 rfl ?_
      refine w_iload_n ok dX1_worth_47 5 rfl ?_
      refine w_iconst (v := 2) ok dX1_worth_48 (by decide) ?_
      refine w_isub ok dX1_worth_49 ?_
      refine w_cV (As := [.int (s4.1 - 2)]) ok dX1_worth_50 iX1_openAt (lX1_42 rfl) (rcv cls1 (congrArg Prod.fst (sLw hk))) (ltK hnn (nLw hk)) (c_X1_openAt ro hnn (s4.1 - 2) hk) (by decide) rfl (Nat.le_of_ble_eq_true rfl) ?_
      show WK K 0 0 53 [(6, .long (F_X1_openAt k (s4.1 - 1) I s4.2)), (5, .int (F_X1_partsOf (atF (I (k + 1)) 64 (nI i4)) I s4.2)), (4, .int (atF (I (k + 1)) 64 (nI i4))), (0, .ref k), (1, .ref a0), (2, .int s4.1), (3, .int (nI i4))] [.long (F_X1_openAt k (s4.1 - 2) I s4.2), .int (atF (I (k + 1)) 64 (nI i4))] I s4.2 R n g
      refine w_lload ok dX1_worth_53 0 rfl ?_
      refine w_cS (As := [.int (atF (I (k + 1)) 64 (nI i4)), .long (F_X1_openAt k (s4.1 - 2) I s4.2), .long (F_X1_openAt k (s4.1 - 1) I s4.2)]) ok dX1_worth_55 iX1_join (lX1_46 rfl) (c_X1_join ro hnn (atF (I (k + 1)) 64 (nI i4)) (F_X1_openAt k (s4.1 - 2) I s4.2) (F_X1_openAt k (s4.1 - 1) I s4.2)  (hp1 i4 s4 hi4 hs4 c4)) (by decide) rfl (Nat.le_of_ble_eq_true rfl) ?_
      show WK K 0 0 58 [(6, .long (F_X1_openAt k (s4.1 - 1) I s4.2)), (5, .int (F_X1_partsOf (atF (I (k + 1)) 64 (nI i4)) I s4.2)), (4, .int (atF (I (k + 1)) 64 (nI i4))), (0, .ref k), (1, .ref a0), (2, .int s4.1), (3, .int (nI i4))] [.long (S6_X1_worth k a0 la0 I J i4 s4)] I s4.2 R n g
      refine w_goto (tgt := 97) ok dX1_worth_58 (by decide) ?_
      refine w_lstore ok dX1_worth_97 (by decide) rfl ?_
      refine w_lload ok dX1_worth_99 0 rfl ?_
      refine w_ldc2 ok dX1_worth_101 kX1_54 ?_
      refine w_lcmp ok dX1_worth_104 ?_
      refine w_if_gt (tgt := 117) ok dX1_worth_105 (by decide) (fun c19 => ?_) (fun c19 => ?_)
      · skip
        refine w_ldc2 ok dX1_worth_117 kX1_58 ?_
        have eB : B_X1_worth_l4_2 k a0 la0 I J i4 s4 = .inr ((-9223372036854775808), s4.2) := by
          unfold B_X1_worth_l4_2; exact (if_pos c4).trans ((if_pos c19).trans (rfl))
        have hr : (F_X1_worth_l4_2 k a0 la0 I J (0, J)) = .inr ((-9223372036854775808), s4.2) := kr4 _ eB
        exact w_lret ok fin dX1_worth_120 rfl (by unfold F_X1_worth FJ_X1_worth; simp only [hr]; exact Pd.i)
      · skip
        refine w_lload ok dX1_worth_108 0 rfl ?_
        refine w_ldc2 ok dX1_worth_110 kX1_56 ?_
        refine w_lcmp ok dX1_worth_113 ?_
        refine w_if_ge (tgt := 121) ok dX1_worth_114 (by decide) (fun c20 => ?_) (fun c20 => ?_)
        · skip
          refine w_iload_n ok dX1_worth_121 6 rfl ?_
          refine w_iload ok dX1_worth_122 2 rfl ?_
          refine w_isub ok dX1_worth_124 ?_
          refine w_istore_n ok dX1_worth_125 rfl (by decide) rfl ?_
          refine w_iload_n ok dX1_worth_126 0 rfl ?_
          refine w_if_lt (tgt := 147) ok dX1_worth_127 (by decide) (fun c21 => ?_) (fun c21 => ?_)
          · skip
            refine w_iinc (v := (s4.1 - (F_X1_partsOf (atF (I (k + 1)) 64 (nI i4)) I s4.2)) + 1) ok dX1_worth_147 0 rfl rfl (by decide) rfl ?_
            refine w_iinc (v := (nI i4) + 1) ok dX1_worth_150 7 rfl rfl (by decide) rfl ?_
            refine w_goto (tgt := 4) ok dX1_worth_153 (by decide) ?_
            have eB : B_X1_worth_l4_2 k a0 la0 I J i4 s4 = .inl (((s4.1 - (F_X1_partsOf (atF (I (k + 1)) 64 (nI i4)) I s4.2)) + 1), s4.2) := by
              unfold B_X1_worth_l4_2; exact (if_pos c4).trans ((if_neg c19).trans ((if_pos c20).trans ((if_pos c21).trans (rfl))))
            have kk := k4 _ eB
            refine w_loc [6, 7, 1, 0] rfl ?_
            rw [nI_1 i4]
            exact kk
          · skip
            refine w_iload_n ok dX1_worth_130 0 rfl ?_
            refine w_aload_n ok dX1_worth_131 5 rfl ?_
            refine w_getR ok dX1_worth_132 (fX1_26 rfl) (congrArg Prod.fst (sLw hk)) rfl (rLw_4 hk ro) (ltK hnn (nLw hk)) ?_
            refine w_alen (v := 64) ok dX1_worth_135 (sLw_4 hk) (by decide) (by decide) (ltK hnn (nLw_4 hk)) ?_
            refine w_icmp_ge (tgt := 147) ok dX1_worth_136 (by decide) (fun c22 => ?_) (fun c22 => ?_)
            · skip
              refine w_iinc (v := (s4.1 - (F_X1_partsOf (atF (I (k + 1)) 64 (nI i4)) I s4.2)) + 1) ok dX1_worth_147 0 rfl rfl (by decide) rfl ?_
              refine w_iinc (v := (nI i4) + 1) ok dX1_worth_150 7 rfl rfl (by decide) rfl ?_
              refine w_goto (tgt := 4) ok dX1_worth_153 (by decide) ?_
              have eB : B_X1_worth_l4_2 k a0 la0 I J i4 s4 = .inl (((s4.1 - (F_X1_partsOf (atF (I (k + 1)) 64 (nI i4)) I s4.2)) + 1), s4.2) := by
                unfold B_X1_worth_l4_2; exact (if_pos c4).trans ((if_neg c19).trans ((if_pos c20).trans ((if_neg c21).trans ((if_pos c22).trans (rfl)))))
              have kk := k4 _ eB
              refine w_loc [6, 7, 1, 0] rfl ?_
              rw [nI_1 i4]
              exact kk
            · skip
              refine w_aload_n ok dX1_worth_139 5 rfl ?_
              refine w_getR ok dX1_worth_140 (fX1_26 rfl) (congrArg Prod.fst (sLw hk)) rfl (rLw_4 hk ro) (ltK hnn (nLw hk)) ?_
              refine w_iload_n ok dX1_worth_143 0 rfl ?_
              refine w_lload ok dX1_worth_144 1 rfl ?_
              refine x_last (q := (s4.1 - (F_X1_partsOf (atF (I (k + 1)) 64 (nI i4)) I s4.2)).toNatClampNeg) ok dX1_worth_146 (sLw_4 hk) (in_of c21 (show ¬ (nI 64 ≤ _) from c22) (sh_len (sLw_4 hk))) (by decide) (ltK hnn (nLw_4 hk)) ?_
              show WK K 0 0 147 [(2, .int (s4.1 - (F_X1_partsOf (atF (I (k + 1)) 64 (nI i4)) I s4.2))), (8, .long (S6_X1_worth k a0 la0 I J i4 s4)), (6, .long (F_X1_openAt k (s4.1 - 1) I s4.2)), (5, .int (F_X1_partsOf (atF (I (k + 1)) 64 (nI i4)) I s4.2)), (4, .int (atF (I (k + 1)) 64 (nI i4))), (0, .ref k), (1, .ref a0), (3, .int (nI i4))] [] I (S7_X1_worth k a0 la0 I J i4 s4) R n g
              refine w_iinc (v := (s4.1 - (F_X1_partsOf (atF (I (k + 1)) 64 (nI i4)) I s4.2)) + 1) ok dX1_worth_147 0 rfl rfl (by decide) rfl ?_
              refine w_iinc (v := (nI i4) + 1) ok dX1_worth_150 7 rfl rfl (by decide) rfl ?_
              refine w_goto (tgt := 4) ok dX1_worth_153 (by decide) ?_
              have eB : B_X1_worth_l4_2 k a0 la0 I J i4 s4 = .inl (((s4.1 - (F_X1_partsOf (atF (I (k + 1)) 64 (nI i4)) I s4.2)) + 1), (S7_X1_worth k a0 la0 I J i4 s4)) := by
                unfold B_X1_worth_l4_2; exact (if_pos c4).trans ((if_neg c19).trans ((if_pos c20).trans ((if_neg c21).trans ((if_neg c22).trans (rfl)))))
              have kk := k4 _ eB
              refine w_loc [6, 7, 1, 0] rfl ?_
              rw [nI_1 i4]
              exact kk
        · skip
          refine w_ldc2 ok dX1_worth_117 kX1_58 ?_
          have eB : B_X1_worth_l4_2 k a0 la0 I J i4 s4 = .inr ((-9223372036854775808), s4.2) := by
            unfold B_X1_worth_l4_2; exact (if_pos c4).trans ((if_neg c19).trans ((if_neg c20).trans (rfl)))
          have hr : (F_X1_worth_l4_2 k a0 la0 I J (0, J)) = .inr ((-9223372036854775808), s4.2) := kr4 _ eB
          exact w_lret ok fin dX1_worth_120 rfl (by unfold F_X1_worth FJ_X1_worth; simp only [hr]; exact Pd.i)
def B_X2_clashesBy_l5 (a0 : Nat) (a1 : Int32) (a2 : Int32) (I : SI) (J : SJ) (i5 : Nat) (s5 : Int32) : Int32 := if (atF (I (a0 + 2)) 8 (nI i5)) = 0 then s5 else (if (F_X5_wayIn a0 (nI i5) a1 I J) < 0 then s5 else (if (F_X5_wayIn a0 (nI i5) a1 I J) = a2 then s5 else (s5 ||| ((1 : Int32) <<< ((nI i5) &&& 31)))))
def F_X2_clashesBy_l5 (a0 : Nat) (a1 : Int32) (a2 : Int32) (I : SI) (J : SJ) (s0 : Int32) : Int32 := itN (B_X2_clashesBy_l5 a0 a1 a2 I J) (8) s0
def F_X2_clashesBy (a0 : Nat) (a1 : Int32) (a2 : Int32) (I : SI) (J : SJ) : Int32 := (F_X2_clashesBy_l5 a0 a1 a2 I J 0)
set_option maxHeartbeats 1000000 in
set_option maxRecDepth 40000 in
theorem c_X2_clashesBy {I : SI} {J : SJ} {R : SR} {n g : Nat} (ro : RO R) (hnn : nK ≤ n) {a0 : Nat} (a1 : Int32) (a2 : Int32) (ha0 : IsSc a0)   : MM 2 0 0 mX2_clashesBy [.ref a0, .int a1, .int a2] I J R n g (Pd (some (.int (F_X2_clashesBy a0 a1 a2 I J))) I J R n g) := by
  refine MM.of (by decide) (Nat.le_of_ble_eq_true rfl) fun K ok fin => ?_
  show WK K 0 0 0 [(0, .ref a0), (1, .int a1), (2, .int a2)] [] I J R n g
  refine w_iconst (v := 0) ok dX2_clashesBy_0 (by decide) ?_
  refine w_istore_n ok dX2_clashesBy_1 rfl (by decide) rfl ?_
  refine w_iconst (v := 0) ok dX2_clashesBy_2 (by decide) ?_
  refine w_istore ok dX2_clashesBy_3 (by decide) rfl ?_
  refine w_loc [2, 3, 4, 1, 0] rfl ?_
  refine loop_for (σ := Int32) (fun (i5 : Nat) (s5 : Int32) => WK K 0 0 5 [(0, .ref a0), (1, .int a1), (2, .int a2), (3, .int s5), (4, .int (nI i5))] [] I J R n g) (B_X2_clashesBy_l5 a0 a1 a2 I J) (8) (0) ?_ ?_
  · show WK K 0 0 5 [(0, .ref a0), (1, .int a1), (2, .int a2), (3, .int (F_X2_clashesBy_l5 a0 a1 a2 I J 0)), (4, .int (nI 8))] [] I J R n g
    have e1 : (8 : Int32) ≤ (nI 8) := (show nI 8 ≤ nI 8 from nI_le (by omega) (by decide))
    refine w_iload ok dX2_clashesBy_5 4 rfl ?_
    refine w_bipush (v := 8) ok dX2_clashesBy_7 (by decide) ?_
    refine w_icmp_ge (tgt := 57) ok dX2_clashesBy_9 (by decide) (fun _ => ?_) (fun h => absurd e1 h)
    refine w_iload_n ok dX2_clashesBy_57 3 rfl ?_
    exact w_iret ok fin dX2_clashesBy_58 rfl (by unfold F_X2_clashesBy; exact Pd.i)
  · intro i5 s5 hi5 hs5 k5
    show WK K 0 0 5 [(0, .ref a0), (1, .int a1), (2, .int a2), (3, .int s5), (4, .int (nI i5))] [] I J R n g
    have e2 : ¬ ((8 : Int32) ≤ (nI i5)) := (show ¬ (nI 8 ≤ nI i5) from nI_ge (by omega) (by decide))
    refine w_iload ok dX2_clashesBy_5 4 rfl ?_
    refine w_bipush (v := 8) ok dX2_clashesBy_7 (by decide) ?_
    refine w_icmp_ge (tgt := 57) ok dX2_clashesBy_9 (by decide) (fun h => absurd h e2) (fun _ => ?_)
    refine w_aload_n ok dX2_clashesBy_12 0 rfl ?_
    refine w_iload ok dX2_clashesBy_13 4 rfl ?_
    refine w_iload_n ok dX2_clashesBy_15 1 rfl ?_
    refine w_cV (As := [.int (nI i5), .int a1]) ok dX2_clashesBy_16 iX5_wayIn (lX2_46 rfl) (rcv cls5 (congrArg Prod.fst (sSc ha0))) (ltK hnn (nSc ha0)) (c_X5_wayIn ro hnn (nI i5) a1 ha0) (by decide) rfl (Nat.le_of_ble_eq_true rfl) ?_
    refine w_istore ok dX2_clashesBy_19 (by decide) rfl ?_
    refine w_aload_n ok dX2_clashesBy_21 1 rfl ?_
    refine w_getR ok dX2_clashesBy_22 (fX2_52 rfl) (congrArg Prod.fst (sSc ha0)) rfl (rSc_8 ha0 ro) (ltK hnn (nSc ha0)) ?_
    refine w_iload ok dX2_clashesBy_25 5 rfl ?_
    refine w_cS (As := [.ref (a0 + 2), .int (nI i5)]) ok dX2_clashesBy_27 iX11_at (lX2_55 rfl) (c_at (sSc_8 ha0) (ltK hnn (nSc_8 ha0)) (nI i5)) (by decide) rfl (Nat.le_of_ble_eq_true rfl) ?_
    refine w_if_eq (tgt := 51) ok dX2_clashesBy_30 (by decide) (fun c3 => ?_) (fun c3 => ?_)
    · skip
      refine w_iinc (v := (nI i5) + 1) ok dX2_clashesBy_51 5 rfl rfl (by decide) rfl ?_
      refine w_goto (tgt := 5) ok dX2_clashesBy_54 (by decide) ?_
      have eB : B_X2_clashesBy_l5 a0 a1 a2 I J i5 s5 = s5 := by
        unfold B_X2_clashesBy_l5; exact (if_pos c3).trans (rfl)
      have kk := k5
      rw [eB] at kk
      refine w_loc [2, 3, 4, 5, 0] rfl ?_
      rw [nI_1 i5]
      exact kk
    · skip
      refine w_iload ok dX2_clashesBy_33 0 rfl ?_
      refine w_if_lt (tgt := 51) ok dX2_clashesBy_35 (by decide) (fun c4 => ?_) (fun c4 => ?_)
      · skip
        refine w_iinc (v := (nI i5) + 1) ok dX2_clashesBy_51 5 rfl rfl (by decide) rfl ?_
        refine w_goto (tgt := 5) ok dX2_clashesBy_54 (by decide) ?_
        have eB : B_X2_clashesBy_l5 a0 a1 a2 I J i5 s5 = s5 := by
          unfold B_X2_clashesBy_l5; exact (if_neg c3).trans ((if_pos c4).trans (rfl))
        have kk := k5
        rw [eB] at kk
        refine w_loc [2, 3, 4, 5, 0] rfl ?_
        rw [nI_1 i5]
        exact kk
      · skip
        refine w_iload ok dX2_clashesBy_38 0 rfl ?_
        refine w_iload_n ok dX2_clashesBy_40 3 rfl ?_
        refine w_icmp_eq (tgt := 51) ok dX2_clashesBy_41 (by decide) (fun c5 => ?_) (fun c5 => ?_)
        · skip
          refine w_iinc (v := (nI i5) + 1) ok dX2_clashesBy_51 5 rfl rfl (by decide) rfl ?_
          refine w_goto (tgt := 5) ok dX2_clashesBy_54 (by decide) ?_
          have eB : B_X2_clashesBy_l5 a0 a1 a2 I J i5 s5 = s5 := by
            unfold B_X2_clashesBy_l5; exact (if_neg c3).trans ((if_neg c4).trans ((if_pos c5).trans (rfl)))
          have kk := k5
          rw [eB] at kk
          refine w_loc [2, 3, 4, 5, 0] rfl ?_
          rw [nI_1 i5]
          exact kk
        · skip
          refine w_iload_n ok dX2_clashesBy_44 4 rfl ?_
          refine w_iconst (v := 1) ok dX2_clashesBy_45 (by decide) ?_
          refine w_iload ok dX2_clashesBy_46 5 rfl ?_
          refine w_ishl ok dX2_clashesBy_48 ?_
          refine w_ior ok dX2_clashesBy_49 ?_
          refine w_istore_n ok dX2_clashesBy_50 rfl (by decide) rfl ?_
          refine w_iinc (v := (nI i5) + 1) ok dX2_clashesBy_51 5 rfl rfl (by decide) rfl ?_
          refine w_goto (tgt := 5) ok dX2_clashesBy_54 (by decide) ?_
          have eB : B_X2_clashesBy_l5 a0 a1 a2 I J i5 s5 = (s5 ||| ((1 : Int32) <<< ((nI i5) &&& 31))) := by
            unfold B_X2_clashesBy_l5; exact (if_neg c3).trans ((if_neg c4).trans ((if_neg c5).trans (rfl)))
          have kk := k5
          rw [eB] at kk
          refine w_loc [3, 4, 5, 1, 0] rfl ?_
          rw [nI_1 i5]
          exact kk
def F_X4_find (a0 : Nat) (I : SI) (J : SJ) : Int32 := if (I 81 5) = 3 then (if (0 : Int32) ≤ (F_X7_find a0 (I 81 6) I J) then F_X7_find a0 (I 81 6) I J else F_X7_find a0 (I 81 6) I J) else -1
def FI_X4_find (a0 : Nat) (I : SI) (J : SJ) : SI := if (I 81 5) = 3 then (if (0 : Int32) ≤ (F_X7_find a0 (I 81 6) I J) then I else FI_X4_fail 4 I J) else FI_X4_fail 1 I J
set_option maxHeartbeats 1000000 in
set_option maxRecDepth 40000 in
theorem c_X4_find {I : SI} {J : SJ} {R : SR} {n g : Nat} (ro : RO R) (hnn : nK ≤ n) {a0 : Nat} (ha0 : IsTb a0)   : MM 2 0 0 mX4_find [.ref 41, .ref a0] I J R n g (Pd (some (.int (F_X4_find a0 I J))) (FI_X4_find a0 I J) J R n g) := by
  refine MM.of (by decide) (Nat.le_of_ble_eq_true rfl) fun K ok fin => ?_
  show WK K 0 0 0 [(0, .ref 41), (1, .ref a0)] [] I J R n g
  refine w_aload_n ok dX4_find_0 0 rfl ?_
  refine w_getR ok dX4_find_1 (fX4_28 rfl) (congrArg Prod.fst s_41) rfl (r_41_3 ro) (ltK hnn (by decide)) ?_
  refine w_getI ok dX4_find_4 (fX4_52 rfl) (congrArg Prod.fst s_81) rfl (ltK hnn (by decide)) ?_
  refine w_iconst (v := 3) ok dX4_find_7 (by decide) ?_
  refine w_icmp_eq (tgt := 18) ok dX4_find_8 (by decide) (fun c1 => ?_) (fun c1 => ?_)
  · skip
    refine w_aload_n ok dX4_find_18 1 rfl ?_
    refine w_aload_n ok dX4_find_19 0 rfl ?_
    refine w_getR ok dX4_find_20 (fX4_28 rfl) (congrArg Prod.fst s_41) rfl (r_41_3 ro) (ltK hnn (by decide)) ?_
    refine w_getI ok dX4_find_23 (fX4_167 rfl) (congrArg Prod.fst s_81) rfl (ltK hnn (by decide)) ?_
    refine w_cV (As := [.int (I 81 6)]) ok dX4_find_26 iX7_find (lX4_170 rfl) (rcv cls7 (congrArg Prod.fst (sTb ha0))) (ltK hnn (nTb ha0)) (c_X7_find ro hnn (I 81 6) ha0) (by decide) rfl (Nat.le_of_ble_eq_true rfl) ?_
    refine w_istore_n ok dX4_find_29 rfl (by decide) rfl ?_
    refine w_iload_n ok dX4_find_30 0 rfl ?_
    refine w_if_ge (tgt := 39) ok dX4_find_31 (by decide) (fun c2 => ?_) (fun c2 => ?_)
    · skip
      refine w_iload_n ok dX4_find_39 0 rfl ?_
      exact w_iret ok fin dX4_find_40 rfl (by unfold F_X4_find FI_X4_find; simp only [if_pos c1]; simp only [if_pos c2]; exact Pd.i)
    · skip
      refine w_aload_n ok dX4_find_34 1 rfl ?_
      refine w_iconst (v := 4) ok dX4_find_35 (by decide) ?_
      refine w_cV (As := [.int 4]) ok dX4_find_36 iX4_fail (lX4_58 rfl) (rcv cls4 (congrArg Prod.fst s_41)) (ltK hnn (by decide)) (c_X4_fail ro hnn 4 ) (by decide) rfl (Nat.le_of_ble_eq_true rfl) ?_
      refine w_iload_n ok dX4_find_39 0 rfl ?_
      exact w_iret ok fin dX4_find_40 rfl (by unfold F_X4_find FI_X4_find; simp only [if_pos c1]; simp only [if_neg c2]; exact Pd.i)
  · skip
    refine w_aload_n ok dX4_find_11 0 rfl ?_
    refine w_iconst (v := 1) ok dX4_find_12 (by decide) ?_
    refine w_cV (As := [.int 1]) ok dX4_find_13 iX4_fail (lX4_58 rfl) (rcv cls4 (congrArg Prod.fst s_41)) (ltK hnn (by decide)) (c_X4_fail ro hnn 1 ) (by decide) rfl (Nat.le_of_ble_eq_true rfl) ?_
    refine w_iconst (v := (-1)) ok dX4_find_16 (by decide) ?_
    exact w_iret ok fin dX4_find_17 rfl (by unfold F_X4_find FI_X4_find; simp only [if_neg c1]; exact Pd.i)
def S1_X4_hold (a0 : Int32) (I : SI) (J : SJ) : SI := putF (putF I 84 72 (I 41 6) a0) 85 72 ((putF I 84 72 (I 41 6) a0) 41 6) (F_X4_rank a0 (putF I 84 72 (I 41 6) a0) J)
def FI_X4_hold (a0 : Int32) (I : SI) (J : SJ) : SI := if (I 41 1) = 0 then u2 (S1_X4_hold a0 I J) 41 6 ((((S1_X4_hold a0 I J)) 41 6) + 1) else I
set_option maxHeartbeats 1000000 in
set_option maxRecDepth 40000 in
theorem c_X4_hold {I : SI} {J : SJ} {R : SR} {n g : Nat} (ro : RO R) (hnn : nK ≤ n) (a0 : Int32)   : MM 1 0 0 mX4_hold [.ref 41, .int a0] I J R n g (Pd none (FI_X4_hold a0 I J) J R n g) := by
  refine MM.of (by decide) (Nat.le_of_ble_eq_true rfl) fun K ok fin => ?_
  show WK K 0 0 0 [(0, .ref 41), (1, .int a0)] [] I J R n g
  refine w_aload_n ok dX4_hold_0 0 rfl ?_
  refine w_getI ok dX4_hold_1 (fX4_18 rfl) (congrArg Prod.fst s_41) rfl (ltK hnn (by decide)) ?_
  refine w_if_ne (tgt := 44) ok dX4_hold_4 (by decide) (fun c1 => ?_) (fun c1 => ?_)
  · skip
    exact w_vret ok fin dX4_hold_44 rfl (by unfold FI_X4_hold; simp only [if_neg c1]; exact Pd.i)
  · skip
    refine w_aload_n ok dX4_hold_7 0 rfl ?_
    refine w_getR ok dX4_hold_8 (fX4_32 rfl) (congrArg Prod.fst s_41) rfl (r_41_4 ro) (ltK hnn (by decide)) ?_
    refine w_aload_n ok dX4_hold_11 0 rfl ?_
    refine w_getI ok dX4_hold_12 (fX4_39 rfl) (congrArg Prod.fst s_41) rfl (ltK hnn (by decide)) ?_
    refine w_iload_n ok dX4_hold_15 1 rfl ?_
    refine w_cS (As := [.ref 84, .int (I 41 6), .int a0]) ok dX4_hold_16 iX11_put (lX4_154 rfl) (c_put s_84 (ltK hnn (by decide)) (I 41 6) a0) (by decide) rfl (Nat.le_of_ble_eq_true rfl) ?_
    refine w_aload_n ok dX4_hold_19 0 rfl ?_
    refine w_getR ok dX4_hold_20 (fX4_36 rfl) (congrArg Prod.fst s_41) rfl (r_41_5 ro) (ltK hnn (by decide)) ?_
    refine w_aload_n ok dX4_hold_23 0 rfl ?_
    refine w_getI ok dX4_hold_24 (fX4_39 rfl) (congrArg Prod.fst s_41) rfl (ltK hnn (by decide)) ?_
    refine w_iload_n ok dX4_hold_27 1 rfl ?_
    refine w_cS (As := [.int a0]) ok dX4_hold_28 iX4_rank (lX4_216 rfl) (c_X4_rank ro hnn a0 ) (by decide) rfl (Nat.le_of_ble_eq_true rfl) ?_
    show WK K 0 0 31 [(0, .ref 41), (1, .int a0)] [.int (F_X4_rank a0 (putF I 84 72 (I 41 6) a0) J), .int ((putF I 84 72 (I 41 6) a0) 41 6), .ref 85] (putF I 84 72 (I 41 6) a0) J R n g
    refine w_cS (As := [.ref 85, .int ((putF I 84 72 (I 41 6) a0) 41 6), .int (F_X4_rank a0 (putF I 84 72 (I 41 6) a0) J)]) ok dX4_hold_31 iX11_put (lX4_154 rfl) (c_put s_85 (ltK hnn (by decide)) ((putF I 84 72 (I 41 6) a0) 41 6) (F_X4_rank a0 (putF I 84 72 (I 41 6) a0) J)) (by decide) rfl (Nat.le_of_ble_eq_true rfl) ?_
    show WK K 0 0 34 [(0, .ref 41), (1, .int a0)] [] (S1_X4_hold a0 I J) J R n g
    refine w_aload_n ok dX4_hold_34 0 rfl ?_
    refine w_dup ok dX4_hold_35 rfl ?_
    refine w_getI ok dX4_hold_36 (fX4_39 rfl) (congrArg Prod.fst s_41) rfl (ltK hnn (by decide)) ?_
    refine w_iconst (v := 1) ok dX4_hold_39 (by decide) ?_
    refine w_iadd ok dX4_hold_40 ?_
    refine w_putI ok dX4_hold_41 (fwX4_39 rfl) (congrArg Prod.fst s_41) rfl (ltK hnn (by decide)) ?_
    exact w_vret ok fin dX4_hold_44 rfl (by unfold FI_X4_hold; simp only [if_pos c1]; exact Pd.i)
def S1_X4_join (a0 : Nat) (a1 : Int32) (I : SI) (J : SJ) (s5 : Int32 × SI) : SI := u2 (FI_X1_add a0 (atF (s5.2 84) 72 ((s5.2 41 6) - 1)) 0 s5.2 J) 41 6 (((FI_X1_add a0 (atF (s5.2 84) 72 ((s5.2 41 6) - 1)) 0 s5.2 J) 41 6) - 1)
def B_X4_join_w5 (a0 : Nat) (a1 : Int32) (I : SI) (J : SJ) (s5 : Int32 × SI) : (Int32 × SI) ⊕ (Int32 × SI) := if s5.1 ≤ 0 then .inr (s5.1, s5.2) else (if (F_X4_topRank  s5.2 J) < a1 then .inr (s5.1, s5.2) else .inl ((s5.1 + (-1)), (S1_X4_join a0 a1 I J s5)))
def F_X4_join_w5 (a0 : Nat) (a1 : Int32) (I : SI) (J : SJ) (s0 : Int32 × SI) : Int32 × SI := (itW (B_X4_join_w5 a0 a1 I J) 800 s0).getD s0
def FI_X4_join (a0 : Nat) (a1 : Int32) (I : SI) (J : SJ) : SI := (F_X4_join_w5 a0 a1 I J ((I 41 6), I)).2
def H_X4_join (a0 : Nat) (a1 : Int32) (I : SI) (J : SJ) : Prop := ((itW (B_X4_join_w5 a0 a1 I J) 800 ((I 41 6), I)).isSome = true) ∧ (∀ (n5 : Nat) (s5 : Int32 × SI), wN (B_X4_join_w5 a0 a1 I J) n5 ((I 41 6), I) = some s5 → ¬ (s5.1 ≤ 0) → H_X4_topRank  s5.2 J) ∧ (∀ (n5 : Nat) (s5 : Int32 × SI), wN (B_X4_join_w5 a0 a1 I J) n5 ((I 41 6), I) = some s5 → ¬ (s5.1 ≤ 0) → ¬ ((F_X4_topRank  s5.2 J) < a1) → H_X1_add a0 (atF (s5.2 84) 72 ((s5.2 41 6) - 1)) 0 s5.2 J)
set_option maxHeartbeats 1000000 in
set_option maxRecDepth 40000 in
theorem c_X4_join {I : SI} {J : SJ} {R : SR} {n g : Nat} (ro : RO R) (hnn : nK ≤ n) {a0 : Nat} (a1 : Int32) (ha0 : IsLw a0)  (hp : H_X4_join a0 a1 I J) : MM 1 0 0 mX4_join [.ref 41, .ref a0, .int a1] I J R n g (Pd none (FI_X4_join a0 a1 I J) J R n g) := by
  refine MM.of (by decide) (Nat.le_of_ble_eq_true rfl) fun K ok fin => ?_
  show WK K 0 0 0 [(0, .ref 41), (1, .ref a0), (2, .int a1)] [] I J R n g
  obtain ⟨hp1, hp2, hp3⟩ := hp
  refine w_aload_n ok dX4_join_0 0 rfl ?_
  refine w_getI ok dX4_join_1 (fX4_39 rfl) (congrArg Prod.fst s_41) rfl (ltK hnn (by decide)) ?_
  refine w_istore_n ok dX4_join_4 rfl (by decide) rfl ?_
  refine w_loc [1, 2, 3, 0] rfl ?_
  refine loop_w (fun (s5 : Int32 × SI) => WK K 0 0 5 [(0, .ref 41), (1, .ref a0), (2, .int a1), (3, .int s5.1)] [] s5.2 J R n g) (fun (s5 : Int32 × SI) => WK K 0 0 51 [(0, .ref 41), (1, .ref a0), (2, .int a1), (3, .int s5.1)] [] s5.2 J R n g) (B_X4_join_w5 a0 a1 I J) 800 ((I 41 6), I) (F_X4_join_w5 a0 a1 I J ((I 41 6), I)) (itW_some (hp1)) ?_ ?_
  · show WK K 0 0 51 [(0, .ref 41), (1, .ref a0), (2, .int a1), (3, .int ((F_X4_join_w5 a0 a1 I J ((I 41 6), I)).1))] [] ((F_X4_join_w5 a0 a1 I J ((I 41 6), I)).2) J R n g
    exact w_vret ok fin dX4_join_51 rfl (by unfold FI_X4_join; exact Pd.i)
  · intro n5 s5 hs5 kc5 kx5
    show WK K 0 0 5 [(0, .ref 41), (1, .ref a0), (2, .int a1), (3, .int s5.1)] [] s5.2 J R n g
    refine w_iload_n ok dX4_join_5 3 rfl ?_
    refine w_if_le (tgt := 51) ok dX4_join_6 (by decide) (fun c1 => ?_) (fun c1 => ?_)
    · skip
      have eB : B_X4_join_w5 a0 a1 I J s5 = .inr (s5.1, s5.2) := by
        unfold B_X4_join_w5; exact (if_pos c1).trans (rfl)
      refine w_loc [0, 1, 2, 3] rfl ?_
      have kk := kx5 _ eB
      exact kk
    · skip
      refine w_aload_n ok dX4_join_9 0 rfl ?_
      refine w_cV (As := []) ok dX4_join_10 iX4_topRank (lX4_212 rfl) (rcv cls4 (congrArg Prod.fst s_41)) (ltK hnn (by decide)) (c_X4_topRank ro hnn   (hp2 n5 s5 hs5 c1)) (by decide) rfl (Nat.le_of_ble_eq_true rfl) ?_
      refine w_iload_n ok dX4_join_13 2 rfl ?_
      refine w_icmp_lt (tgt := 51) ok dX4_join_14 (by decide) (fun c2 => ?_) (fun c2 => ?_)
      · skip
        have eB : B_X4_join_w5 a0 a1 I J s5 = .inr (s5.1, s5.2) := by
          unfold B_X4_join_w5; exact (if_neg c1).trans ((if_pos c2).trans (rfl))
        refine w_loc [0, 1, 2, 3] rfl ?_
        have kk := kx5 _ eB
        exact kk
      · skip
        refine w_aload_n ok dX4_join_17 1 rfl ?_
        refine w_aload_n ok dX4_join_18 0 rfl ?_
        refine w_getR ok dX4_join_19 (fX4_32 rfl) (congrArg Prod.fst s_41) rfl (r_41_4 ro) (ltK hnn (by decide)) ?_
        refine w_aload_n ok dX4_join_22 0 rfl ?_
        refine w_getI ok dX4_join_23 (fX4_39 rfl) (congrArg Prod.fst s_41) rfl (ltK hnn (by decide)) ?_
        refine w_iconst (v := 1) ok dX4_join_26 (by decide) ?_
        refine w_isub ok dX4_join_27 ?_
        refine w_cS (As := [.ref 84, .int ((s5.2 41 6) - 1)]) ok dX4_join_28 iX11_at (lX4_147 rfl) (c_at s_84 (ltK hnn (by decide)) ((s5.2 41 6) - 1)) (by decide) rfl (Nat.le_of_ble_eq_true rfl) ?_
        show WK K 0 0 31 [(0, .ref 41), (1, .ref a0), (2, .int a1), (3, .int s5.1)] [.int (atF (s5.2 84) 72 ((s5.2 41 6) - 1)), .ref a0] s5.2 J R n g
        refine w_iconst (v := 0) ok dX4_join_31 (by decide) ?_
        refine w_cV (As := [.int (atF (s5.2 84) 72 ((s5.2 41 6) - 1)), .int 0]) ok dX4_join_32 iX1_add (lX4_206 rfl) (rcv cls1 (congrArg Prod.fst (sLw ha0))) (ltK hnn (nLw ha0)) (c_X1_add ro hnn (atF (s5.2 84) 72 ((s5.2 41 6) - 1)) 0 ha0 (hp3 n5 s5 hs5 c1 c2)) (by decide) rfl (Nat.le_of_ble_eq_true rfl) ?_
        refine w_aload_n ok dX4_join_35 0 rfl ?_
        refine w_dup ok dX4_join_36 rfl ?_
        refine w_getI ok dX4_join_37 (fX4_39 rfl) (congrArg Prod.fst s_41) rfl (ltK hnn (by decide)) ?_
        refine w_iconst (v := 1) ok dX4_join_40 (by decide) ?_
        refine w_isub ok dX4_join_41 ?_
        refine w_putI ok dX4_join_42 (fwX4_39 rfl) (congrArg Prod.fst s_41) rfl (ltK hnn (by decide)) ?_
        show WK K 0 0 45 [(0, .ref 41), (1, .ref a0), (2, .int a1), (3, .int s5.1)] [] (S1_X4_join a0 a1 I J s5) J R n g
        refine w_iinc (v := s5.1 + (-1)) ok dX4_join_45 3 rfl rfl (by decide) rfl ?_
        refine w_goto (tgt := 5) ok dX4_join_48 (by decide) ?_
        have eB : B_X4_join_w5 a0 a1 I J s5 = .inl ((s5.1 + (-1)), (S1_X4_join a0 a1 I J s5)) := by
          unfold B_X4_join_w5; exact (if_neg c1).trans ((if_neg c2).trans (rfl))
        refine w_loc [1, 2, 3, 0] rfl ?_
        have kk := kc5 _ eB
        exact kk
def B_X8_step_w17 (I : SI) (J : SJ) (s17 : Int32 × SI) : (Int32 × SI) ⊕ (Int32 × SI) := if (s17.2 81 2) ≤ (s17.2 81 3) then .inr (s17.1, s17.2) else (if s17.1 = 32 then .inl ((F_X8_signAt ((u2 s17.2 81 3 ((s17.2 81 3) + 1)) 81 3) (u2 s17.2 81 3 ((s17.2 81 3) + 1)) J), (u2 s17.2 81 3 ((s17.2 81 3) + 1))) else (if s17.1 = 10 then .inl ((F_X8_signAt ((u2 s17.2 81 3 ((s17.2 81 3) + 1)) 81 3) (u2 s17.2 81 3 ((s17.2 81 3) + 1)) J), (u2 s17.2 81 3 ((s17.2 81 3) + 1))) else .inr (s17.1, s17.2)))
def F_X8_step_w17 (I : SI) (J : SJ) (s0 : Int32 × SI) : Int32 × SI := (itW (B_X8_step_w17 I J) 800 s0).getD s0
def S1_X8_step (I : SI) (J : SJ) : SI := u2 ((F_X8_step_w17 I J ((F_X8_signAt (I 81 3) I J), I)).2) 81 7 (((F_X8_step_w17 I J ((F_X8_signAt (I 81 3) I J), I)).2) 81 3)
def S2_X8_step (I : SI) (J : SJ) : Int32 := F_X8_isLetter (F_X8_signAt (((S1_X8_step I J)) 81 3) (S1_X8_step I J) J) (S1_X8_step I J) J
def S3_X8_step (I : SI) (J : SJ) : Int32 := F_X8_signAt ((u2 (S1_X8_step I J) 81 3 ((((S1_X8_step I J)) 81 3) + 1)) 81 3) (u2 (S1_X8_step I J) 81 3 ((((S1_X8_step I J)) 81 3) + 1)) J
def S4_X8_step (I : SI) (J : SJ) : Int32 := F_X8_kindOf (F_X8_signAt (((S1_X8_step I J)) 81 3) (S1_X8_step I J) J) (S3_X8_step I J) (u2 (S1_X8_step I J) 81 3 ((((S1_X8_step I J)) 81 3) + 1)) J
def S5_X8_step (I : SI) (J : SJ) : SI := u2 (u2 (S1_X8_step I J) 81 3 ((((S1_X8_step I J)) 81 3) + 1)) 81 5 (S4_X8_step I J)
def FI_X8_step  (I : SI) (J : SJ) : SI := if (I 81 4) = 0 then (if (0 : Int32) ≤ (F_X8_signAt (((S1_X8_step I J)) 81 3) (S1_X8_step I J) J) then (if (S2_X8_step I J) = 0 then (if (F_X8_isDigit (F_X8_signAt (((S1_X8_step I J)) 81 3) (S1_X8_step I J) J) (S1_X8_step I J) J) = 0 then (if (F_X8_isPair (((S5_X8_step I J)) 81 5) (S5_X8_step I J) J) = 0 then u2 (S5_X8_step I J) 81 3 ((((S5_X8_step I J)) 81 3) + 0) else u2 (S5_X8_step I J) 81 3 ((((S5_X8_step I J)) 81 3) + 1)) else FI_X8_number  (S1_X8_step I J) J) else FI_X8_word  (S1_X8_step I J) J) else u2 (S1_X8_step I J) 81 5 0) else I
def H_X8_step  (I : SI) (J : SJ) : Prop := ((I 81 4) = 0 → (itW (B_X8_step_w17 I J) 800 ((F_X8_signAt (I 81 3) I J), I)).isSome = true) ∧ ((I 81 4) = 0 → (0 : Int32) ≤ (F_X8_signAt (((S1_X8_step I J)) 81 3) (S1_X8_step I J) J) → (S2_X8_step I J) = 0 → ¬ ((F_X8_isDigit (F_X8_signAt (((S1_X8_step I J)) 81 3) (S1_X8_step I J) J) (S1_X8_step I J) J) = 0) → H_X8_number  (S1_X8_step I J) J) ∧ ((I 81 4) = 0 → (0 : Int32) ≤ (F_X8_signAt (((S1_X8_step I J)) 81 3) (S1_X8_step I J) J) → ¬ ((S2_X8_step I J) = 0) → H_X8_word  (S1_X8_step I J) J)
set_option maxHeartbeats 1520000 in
set_option maxRecDepth 40000 in
theorem c_X8_step {I : SI} {J : SJ} {R : SR} {n g : Nat} (ro : RO R) (hnn : nK ≤ n)  (htp : R 81 1 = some 1)  (hp : H_X8_step  I J) : MM 2 0 0 mX8_step [.ref 81] I J R n g (Pd none (FI_X8_step  I J) J R n g) := by
  refine MM.of (by decide) (Nat.le_of_ble_eq_true rfl) fun K ok fin => ?_
  show WK K 0 0 0 [(0, .ref 81)] [] I J R n g
  obtain ⟨hp1, hp2, hp3⟩ := hp
  refine w_aload_n ok dX8_step_0 0 rfl ?_
  refine w_getI ok dX8_step_1 (fX8_26 rfl) (congrArg Prod.fst s_81) rfl (ltK hnn (by decide)) ?_
  refine w_if_eq (tgt := 8) ok dX8_step_4 (by decide) (fun c1 => ?_) (fun c1 => ?_)
  · skip
    refine w_aload_n ok dX8_step_8 0 rfl ?_
    refine w_aload_n ok dX8_step_9 0 rfl ?_
    refine w_getI ok dX8_step_10 (fX8_23 rfl) (congrArg Prod.fst s_81) rfl (ltK hnn (by decide)) ?_
    refine w_cV (As := [.int (I 81 3)]) ok dX8_step_13 iX8_signAt (lX8_66 rfl) (rcv cls8 (congrArg Prod.fst s_81)) (ltK hnn (by decide)) (c_X8_signAt ro hnn (I 81 3) htp) (by decide) rfl (Nat.le_of_ble_eq_true rfl) ?_
    refine w_istore_n ok dX8_step_16 rfl (by decide) rfl ?_
    refine w_loc [1, 0] rfl ?_
    refine loop_w (fun (s17 : Int32 × SI) => WK K 0 0 17 [(0, .ref 81), (1, .int s17.1)] [] s17.2 J R n g) (fun (s17 : Int32 × SI) => WK K 0 0 62 [(0, .ref 81), (1, .int s17.1)] [] s17.2 J R n g) (B_X8_step_w17 I J) 800 ((F_X8_signAt (I 81 3) I J), I) (F_X8_step_w17 I J ((F_X8_signAt (I 81 3) I J), I)) (itW_some (hp1 c1)) ?_ ?_
    · show WK K 0 0 62 [(0, .ref 81), (1, .int ((F_X8_step_w17 I J ((F_X8_signAt (I 81 3) I J), I)).1))] [] ((F_X8_step_w17 I J ((F_X8_signAt (I 81 3) I J), I)).2) J R n g
      refine w_aload_n ok dX8_step_62 0 rfl ?_
      refine w_aload_n ok dX8_step_63 0 rfl ?_
      refine w_getI ok dX8_step_64 (fX8_23 rfl) (congrArg Prod.fst s_81) rfl (ltK hnn (by decide)) ?_
      refine w_putI ok dX8_step_67 (fwX8_36 rfl) (congrArg Prod.fst s_81) rfl (ltK hnn (by decide)) ?_
      show WK K 0 0 70 [(0, .ref 81), (1, .int ((F_X8_step_w17 I J ((F_X8_signAt (I 81 3) I J), I)).1))] [] (S1_X8_step I J) J R n g
      refine w_aload_n ok dX8_step_70 0 rfl ?_
      refine w_aload_n ok dX8_step_71 0 rfl ?_
      refine w_getI ok dX8_step_72 (fX8_23 rfl) (congrArg Prod.fst s_81) rfl (ltK hnn (by decide)) ?_
      refine w_cV (As := [.int (((S1_X8_step I J)) 81 3)]) ok dX8_step_75 iX8_signAt (lX8_66 rfl) (rcv cls8 (congrArg Prod.fst s_81)) (ltK hnn (by decide)) (c_X8_signAt ro hnn (((S1_X8_step I J)) 81 3) htp) (by decide) rfl (Nat.le_of_ble_eq_true rfl) ?_
      refine w_istore_n ok dX8_step_78 rfl (by decide) rfl ?_
      refine w_iload_n ok dX8_step_79 0 rfl ?_
      refine w_if_ge (tgt := 91) ok dX8_step_80 (by decide) (fun c2 => ?_) (fun c2 => ?_)
      · skip
        refine w_iload_n ok dX8_step_91 0 rfl ?_
        refine w_cS (As := [.int (F_X8_signAt (((S1_X8_step I J)) 81 3) (S1_X8_step I J) J)]) ok dX8_step_92 iX8_isLetter (lX8_70 rfl) (c_X8_isLetter ro hnn (F_X8_signAt (((S1_X8_step I J)) 81 3) (S1_X8_step I J) J) ) (by decide) rfl (Nat.le_of_ble_eq_true rfl) ?_
        show WK K 0 0 95 [(1, .int (F_X8_signAt (((S1_X8_step I J)) 81 3) (S1_X8_step I J) J)), (0, .ref 81)] [.int (S2_X8_step I J)] (S1_X8_step I J) J R n g
        refine w_if_eq (tgt := 105) ok dX8_step_95 (by decide) (fun c3 => ?_) (fun c3 => ?_)
        · skip
          refine w_iload_n ok dX8_step_105 0 rfl ?_
          refine w_cS (As := [.int (F_X8_signAt (((S1_X8_step I J)) 81 3) (S1_X8_step I J) J)]) ok dX8_step_106 iX8_isDigit (lX8_77 rfl) (c_X8_isDigit ro hnn (F_X8_signAt (((S1_X8_step I J)) 81 3) (S1_X8_step I J) J) ) (by decide) rfl (Nat.le_of_ble_eq_true rfl) ?_
          refine w_if_eq (tgt := 119) ok dX8_step_109 (by decide) (fun c4 => ?_) (fun c4 => ?_)
          · skip
            refine w_aload_n ok dX8_step_119 1 rfl ?_
            refine w_dup ok dX8_step_120 rfl ?_
            refine w_getI ok dX8_step_121 (fX8_23 rfl) (congrArg Prod.fst s_81) rfl (ltK hnn (by decide)) ?_
            refine w_iconst (v := 1) ok dX8_step_124 (by decide) ?_
            refine w_iadd ok dX8_step_125 ?_
            refine w_putI ok dX8_step_126 (fwX8_23 rfl) (congrArg Prod.fst s_81) rfl (ltK hnn (by decide)) ?_
            refine w_aload_n ok dX8_step_129 1 rfl ?_
            refine w_iload_n ok dX8_step_130 0 rfl ?_
            refine w_aload_n ok dX8_step_131 1 rfl ?_
            refine w_aload_n ok dX8_step_132 1 rfl ?_
            refine w_getI ok dX8_step_133 (fX8_23 rfl) (congrArg Prod.fst s_81) rfl (ltK hnn (by decide)) ?_
            refine w_cV (As := [.int ((u2 (S1_X8_step I J) 81 3 ((((S1_X8_step I J)) 81 3) + 1)) 81 3)]) ok dX8_step_136 iX8_signAt (lX8_66 rfl) (rcv cls8 (congrArg Prod.fst s_81)) (ltK hnn (by decide)) (c_X8_signAt ro hnn ((u2 (S1_X8_step I J) 81 3 ((((S1_X8_step I J)) 81 3) + 1)) 81 3) htp) (by decide) rfl (Nat.le_of_ble_eq_true rfl) ?_
            show WK K 0 0 139 [(1, .int (F_X8_signAt (((S1_X8_step I J)) 81 3) (S1_X8_step I J) J)), (0, .ref 81)] [.int (S3_X8_step I J), .int (F_X8_signAt (((S1_X8_step I J)) 81 3) (S1_X8_step I J) J), .ref 81] (u2 (S1_X8_step I J) 81 3 ((((S1_X8_step I J)) 81 3) + 1)) J R n g
            refine w_cS (As := [.int (F_X8_signAt (((S1_X8_step I J)) 81 3) (S1_X8_step I J) J), .int (S3_X8_step I J)]) ok dX8_step_139 iX8_kindOf (lX8_83 rfl) (c_X8_kindOf ro hnn (F_X8_signAt (((S1_X8_step I J)) 81 3) (S1_X8_step I J) J) (S3_X8_step I J) ) (by decide) rfl (Nat.le_of_ble_eq_true rfl) ?_
            show WK K 0 0 142 [(1, .int (F_X8_signAt (((S1_X8_step I J)) 81 3) (S1_X8_step I J) J)), (0, .ref 81)] [.int (S4_X8_step I J), .ref 81] (u2 (S1_X8_step I J) 81 3 ((((S1_X8_step I J)) 81 3) + 1)) J R n g
            refine w_putI ok dX8_step_142 (fwX8_30 rfl) (congrArg Prod.fst s_81) rfl (ltK hnn (by decide)) ?_
            show WK K 0 0 145 [(1, .int (F_X8_signAt (((S1_X8_step I J)) 81 3) (S1_X8_step I J) J)), (0, .ref 81)] [] (S5_X8_step I J) J R n g
            refine w_aload_n ok dX8_step_145 1 rfl ?_
            refine w_dup ok dX8_step_146 rfl ?_
            refine w_getI ok dX8_step_147 (fX8_23 rfl) (congrArg Prod.fst s_81) rfl (ltK hnn (by decide)) ?_
            refine w_aload_n ok dX8_step_150 1 rfl ?_
            refine w_getI ok dX8_step_151 (fX8_30 rfl) (congrArg Prod.fst s_81) rfl (ltK hnn (by decide)) ?_
            refine w_cS (As := [.int (((S5_X8_step I J)) 81 5)]) ok dX8_step_154 iX8_isPair (lX8_86 rfl) (c_X8_isPair ro hnn (((S5_X8_step I J)) 81 5) ) (by decide) rfl (Nat.le_of_ble_eq_true rfl) ?_
            show WK K 0 0 157 [(1, .int (F_X8_signAt (((S1_X8_step I J)) 81 3) (S1_X8_step I J) J)), (0, .ref 81)] [.int (F_X8_isPair (((S5_X8_step I J)) 81 5) (S5_X8_step I J) J), .int (((S5_X8_step I J)) 81 3), .ref 81] (S5_X8_step I J) J R n g
            refine w_if_eq (tgt := 164) ok dX8_step_157 (by decide) (fun c5 => ?_) (fun c5 => ?_)
            · skip
              refine w_iconst (v := 0) ok dX8_step_164 (by decide) ?_
              refine w_iadd ok dX8_step_165 ?_
              refine w_putI ok dX8_step_166 (fwX8_23 rfl) (congrArg Prod.fst s_81) rfl (ltK hnn (by decide)) ?_
              exact w_vret ok fin dX8_step_169 rfl (by unfold FI_X8_step; simp only [if_pos c1]; simp only [if_pos c2]; simp only [if_pos c3]; simp only [if_pos c4]; simp only [if_pos c5]; exact Pd.i)
            · skip
              refine w_iconst (v := 1) ok dX8_step_160 (by decide) ?_
              refine w_goto (tgt := 165) ok dX8_step_161 (by decide) ?_
              refine w_iadd ok dX8_step_165 ?_
              refine w_putI ok dX8_step_166 (fwX8_23 rfl) (congrArg Prod.fst s_81) rfl (ltK hnn (by decide)) ?_
              exact w_vret ok fin dX8_step_169 rfl (by unfold FI_X8_step; simp only [if_pos c1]; simp only [if_pos c2]; simp only [if_pos c3]; simp only [if_pos c4]; simp only [if_neg c5]; exact Pd.i)
          · skip
            refine w_aload_n ok dX8_step_112 1 rfl ?_
            refine w_cV (As := []) ok dX8_step_113 iX8_number (lX8_80 rfl) (rcv cls8 (congrArg Prod.fst s_81)) (ltK hnn (by decide)) (c_X8_number ro hnn  htp (hp2 c1 c2 c3 c4)) (by decide) rfl (Nat.le_of_ble_eq_true rfl) ?_
            refine w_goto (tgt := 169) ok dX8_step_116 (by decide) ?_
            exact w_vret ok fin dX8_step_169 rfl (by unfold FI_X8_step; simp only [if_pos c1]; simp only [if_pos c2]; simp only [if_pos c3]; simp only [if_neg c4]; exact Pd.i)
        · skip
          refine w_aload_n ok dX8_step_98 1 rfl ?_
          refine w_cV (As := []) ok dX8_step_99 iX8_word (lX8_74 rfl) (rcv cls8 (congrArg Prod.fst s_81)) (ltK hnn (by decide)) (c_X8_word ro hnn  htp (hp3 c1 c2 c3)) (by decide) rfl (Nat.le_of_ble_eq_true rfl) ?_
          refine w_goto (tgt := 169) ok dX8_step_102 (by decide) ?_
          exact w_vret ok fin dX8_step_169 rfl (by unfold FI_X8_step; simp only [if_pos c1]; simp only [if_pos c2]; simp only [if_neg c3]; exact Pd.i)
      · skip
        refine w_aload_n ok dX8_step_83 1 rfl ?_
        refine w_iconst (v := 0) ok dX8_step_84 (by decide) ?_
        refine w_putI ok dX8_step_85 (fwX8_30 rfl) (congrArg Prod.fst s_81) rfl (ltK hnn (by decide)) ?_
        refine w_goto (tgt := 169) ok dX8_step_88 (by decide) ?_
        exact w_vret ok fin dX8_step_169 rfl (by unfold FI_X8_step; simp only [if_pos c1]; simp only [if_neg c2]; exact Pd.i)
    · intro n17 s17 hs17 kc17 kx17
      show WK K 0 0 17 [(0, .ref 81), (1, .int s17.1)] [] s17.2 J R n g
      refine w_aload_n ok dX8_step_17 0 rfl ?_
      refine w_getI ok dX8_step_18 (fX8_23 rfl) (congrArg Prod.fst s_81) rfl (ltK hnn (by decide)) ?_
      refine w_aload_n ok dX8_step_21 0 rfl ?_
      refine w_getI ok dX8_step_22 (fX8_19 rfl) (congrArg Prod.fst s_81) rfl (ltK hnn (by decide)) ?_
      refine w_icmp_ge (tgt := 62) ok dX8_step_25 (by decide) (fun c6 => ?_) (fun c6 => ?_)
      · skip
        have eB : B_X8_step_w17 I J s17 = .inr (s17.1, s17.2) := by
          unfold B_X8_step_w17; exact (if_pos c6).trans (rfl)
        refine w_loc [0, 1] rfl ?_
        have kk := kx17 _ eB
        exact kk
      · skip
        refine w_iload_n ok dX8_step_28 1 rfl ?_
        refine w_bipush (v := 32) ok dX8_step_29 (by decide) ?_
        refine w_icmp_eq (tgt := 40) ok dX8_step_31 (by decide) (fun c7 => ?_) (fun c7 => ?_)
        · skip
          refine w_aload_n ok dX8_step_40 0 rfl ?_
          refine w_dup ok dX8_step_41 rfl ?_
          refine w_getI ok dX8_step_42 (fX8_23 rfl) (congrArg Prod.fst s_81) rfl (ltK hnn (by decide)) ?_
          refine w_iconst (v := 1) ok dX8_step_45 (by decide) ?_
          refine w_iadd ok dX8_step_46 ?_
          refine w_putI ok dX8_step_47 (fwX8_23 rfl) (congrArg Prod.fst s_81) rfl (ltK hnn (by decide)) ?_
          refine w_aload_n ok dX8_step_50 0 rfl ?_
          refine w_aload_n ok dX8_step_51 0 rfl ?_
          refine w_getI ok dX8_step_52 (fX8_23 rfl) (congrArg Prod.fst s_81) rfl (ltK hnn (by decide)) ?_
          refine w_cV (As := [.int ((u2 s17.2 81 3 ((s17.2 81 3) + 1)) 81 3)]) ok dX8_step_55 iX8_signAt (lX8_66 rfl) (rcv cls8 (congrArg Prod.fst s_81)) (ltK hnn (by decide)) (c_X8_signAt ro hnn ((u2 s17.2 81 3 ((s17.2 81 3) + 1)) 81 3) htp) (by decide) rfl (Nat.le_of_ble_eq_true rfl) ?_
          refine w_istore_n ok dX8_step_58 rfl (by decide) rfl ?_
          refine w_goto (tgt := 17) ok dX8_step_59 (by decide) ?_
          have eB : B_X8_step_w17 I J s17 = .inl ((F_X8_signAt ((u2 s17.2 81 3 ((s17.2 81 3) + 1)) 81 3) (u2 s17.2 81 3 ((s17.2 81 3) + 1)) J), (u2 s17.2 81 3 ((s17.2 81 3) + 1))) := by
            unfold B_X8_step_w17; exact (if_neg c6).trans ((if_pos c7).trans (rfl))
          refine w_loc [1, 0] rfl ?_
          have kk := kc17 _ eB
          exact kk
        · skip
          refine w_iload_n ok dX8_step_34 1 rfl ?_
          refine w_bipush (v := 10) ok dX8_step_35 (by decide) ?_
          refine w_icmp_ne (tgt := 62) ok dX8_step_37 (by decide) (fun c8 => ?_) (fun c8 => ?_)
          · skip
            have eB : B_X8_step_w17 I J s17 = .inr (s17.1, s17.2) := by
              unfold B_X8_step_w17; exact (if_neg c6).trans ((if_neg c7).trans ((if_neg c8).trans (rfl)))
            refine w_loc [0, 1] rfl ?_
            have kk := kx17 _ eB
            exact kk
          · skip
            refine w_aload_n ok dX8_step_40 0 rfl ?_
            refine w_dup ok dX8_step_41 rfl ?_
            refine w_getI ok dX8_step_42 (fX8_23 rfl) (congrArg Prod.fst s_81) rfl (ltK hnn (by decide)) ?_
            refine w_iconst (v := 1) ok dX8_step_45 (by decide) ?_
            refine w_iadd ok dX8_step_46 ?_
            refine w_putI ok dX8_step_47 (fwX8_23 rfl) (congrArg Prod.fst s_81) rfl (ltK hnn (by decide)) ?_
            refine w_aload_n ok dX8_step_50 0 rfl ?_
            refine w_aload_n ok dX8_step_51 0 rfl ?_
            refine w_getI ok dX8_step_52 (fX8_23 rfl) (congrArg Prod.fst s_81) rfl (ltK hnn (by decide)) ?_
            refine w_cV (As := [.int ((u2 s17.2 81 3 ((s17.2 81 3) + 1)) 81 3)]) ok dX8_step_55 iX8_signAt (lX8_66 rfl) (rcv cls8 (congrArg Prod.fst s_81)) (ltK hnn (by decide)) (c_X8_signAt ro hnn ((u2 s17.2 81 3 ((s17.2 81 3) + 1)) 81 3) htp) (by decide) rfl (Nat.le_of_ble_eq_true rfl) ?_
            refine w_istore_n ok dX8_step_58 rfl (by decide) rfl ?_
            refine w_goto (tgt := 17) ok dX8_step_59 (by decide) ?_
            have eB : B_X8_step_w17 I J s17 = .inl ((F_X8_signAt ((u2 s17.2 81 3 ((s17.2 81 3) + 1)) 81 3) (u2 s17.2 81 3 ((s17.2 81 3) + 1)) J), (u2 s17.2 81 3 ((s17.2 81 3) + 1))) := by
              unfold B_X8_step_w17; exact (if_neg c6).trans ((if_neg c7).trans ((if_pos c8).trans (rfl)))
            refine w_loc [1, 0] rfl ?_
            have kk := kc17 _ eB
            exact kk
  · skip
    exact w_vret ok fin dX8_step_7 rfl (by unfold FI_X8_step; simp only [if_neg c1]; exact Pd.i)
def F_X11_tell (a0 : Int32) (a1 : Int32) (I : SI) (J : SJ) : Int32 := if (F_X7_holds 3 a0 I J) = 0 then 0 else (if a1 < 0 then 0 else (if a1 < (atF (I 6) 8 a0) then F_X11_sayFromNowOn a0 a1 I J else 0))
def FI_X11_tell (a0 : Int32) (a1 : Int32) (I : SI) (J : SJ) : SI := if (F_X7_holds 3 a0 I J) = 0 then I else (if a1 < 0 then I else (if a1 < (atF (I 6) 8 a0) then FI_X11_sayFromNowOn a0 a1 I J else I))
def H_X11_tell (a0 : Int32) (a1 : Int32) (I : SI) (J : SJ) : Prop := (¬ ((F_X7_holds 3 a0 I J) = 0) → ¬ (a1 < 0) → a1 < (atF (I 6) 8 a0) → (F_X11_sayFromNowOn a0 a1 I J) = 0 ∨ (F_X11_sayFromNowOn a0 a1 I J) = 1)
set_option maxHeartbeats 1000000 in
set_option maxRecDepth 40000 in
theorem c_X11_tell {I : SI} {J : SJ} {R : SR} {n g : Nat} (ro : RO R) (hnn : nK ≤ n) (a0 : Int32) (a1 : Int32)  (hp : H_X11_tell a0 a1 I J) : MM 3 0 0 mX11_tell [.ref 0, .int a0, .int a1] I J R n g (Pd (some (.int (F_X11_tell a0 a1 I J))) (FI_X11_tell a0 a1 I J) J R n g) := by
  refine MM.of (by decide) (Nat.le_of_ble_eq_true rfl) fun K ok fin => ?_
  show WK K 0 0 0 [(0, .ref 0), (1, .int a0), (2, .int a1)] [] I J R n g
  have hp1 := hp
  refine w_aload_n ok dX11_tell_0 0 rfl ?_
  refine w_getR ok dX11_tell_1 (fX11_20 rfl) (congrArg Prod.fst s_0) rfl (r_0_2 ro) (ltK hnn (by decide)) ?_
  refine w_getR ok dX11_tell_4 (fX11_112 rfl) (congrArg Prod.fst s_2) rfl (r_2_0 ro) (ltK hnn (by decide)) ?_
  refine w_iload_n ok dX11_tell_7 1 rfl ?_
  refine w_cV (As := [.int a0]) ok dX11_tell_8 iX7_holds (lX11_131 rfl) (rcv cls7 (congrArg Prod.fst s_3)) (ltK hnn (by decide)) (c_X7_holds ro hnn a0 isTb_3) (by decide) rfl (Nat.le_of_ble_eq_true rfl) ?_
  refine w_if_eq (tgt := 36) ok dX11_tell_11 (by decide) (fun c1 => ?_) (fun c1 => ?_)
  · skip
    refine w_iconst (v := 0) ok dX11_tell_36 (by decide) ?_
    exact w_zret ok fin dX11_tell_37 rfl (by decide) (by unfold F_X11_tell FI_X11_tell; simp only [if_pos c1]; exact Pd.i)
  · skip
    refine w_iload_n ok dX11_tell_14 2 rfl ?_
    refine w_if_lt (tgt := 36) ok dX11_tell_15 (by decide) (fun c2 => ?_) (fun c2 => ?_)
    · skip
      refine w_iconst (v := 0) ok dX11_tell_36 (by decide) ?_
      exact w_zret ok fin dX11_tell_37 rfl (by decide) (by unfold F_X11_tell FI_X11_tell; simp only [if_neg c1]; simp only [if_pos c2]; exact Pd.i)
    · skip
      refine w_iload_n ok dX11_tell_18 2 rfl ?_
      refine w_aload_n ok dX11_tell_19 0 rfl ?_
      refine w_getR ok dX11_tell_20 (fX11_20 rfl) (congrArg Prod.fst s_0) rfl (r_0_2 ro) (ltK hnn (by decide)) ?_
      refine w_getR ok dX11_tell_23 (fX11_112 rfl) (congrArg Prod.fst s_2) rfl (r_2_0 ro) (ltK hnn (by decide)) ?_
      refine w_getR ok dX11_tell_26 (fX11_150 rfl) (congrArg Prod.fst s_3) rfl (r_3_4 ro) (ltK hnn (by decide)) ?_
      refine w_iload_n ok dX11_tell_29 1 rfl ?_
      refine w_cS (As := [.ref 6, .int a0]) ok dX11_tell_30 iX11_at (lX11_146 rfl) (c_at s_6 (ltK hnn (by decide)) a0) (by decide) rfl (Nat.le_of_ble_eq_true rfl) ?_
      show WK K 0 0 33 [(0, .ref 0), (1, .int a0), (2, .int a1)] [.int (atF (I 6) 8 a0), .int a1] I J R n g
      refine w_icmp_lt (tgt := 38) ok dX11_tell_33 (by decide) (fun c3 => ?_) (fun c3 => ?_)
      · skip
        refine w_aload_n ok dX11_tell_38 0 rfl ?_
        refine w_iload_n ok dX11_tell_39 1 rfl ?_
        refine w_iload_n ok dX11_tell_40 2 rfl ?_
        refine w_cV (As := [.int a0, .int a1]) ok dX11_tell_41 iX11_sayFromNowOn (lX11_222 rfl) (rcv cls11 (congrArg Prod.fst s_0)) (ltK hnn (by decide)) (c_X11_sayFromNowOn ro hnn a0 a1 ) (by decide) rfl (Nat.le_of_ble_eq_true rfl) ?_
        exact w_zret ok fin dX11_tell_44 rfl (hp1 c1 c2 c3) (by unfold F_X11_tell FI_X11_tell; simp only [if_neg c1]; simp only [if_neg c2]; simp only [if_pos c3]; exact Pd.i)
      · skip
        refine w_iconst (v := 0) ok dX11_tell_36 (by decide) ?_
        exact w_zret ok fin dX11_tell_37 rfl (by decide) (by unfold F_X11_tell FI_X11_tell; simp only [if_neg c1]; simp only [if_neg c2]; simp only [if_neg c3]; exact Pd.i)
def F_X11_forget (a0 : Int32) (I : SI) (J : SJ) : Int32 := if (F_X7_holds 3 a0 I J) = 0 then 0 else (if (F_X11_sayFromNowOn a0 (-1) I J) = 0 then 0 else 1)
def FI_X11_forget (a0 : Int32) (I : SI) (J : SJ) : SI := if (F_X7_holds 3 a0 I J) = 0 then I else (if (F_X11_sayFromNowOn a0 (-1) I J) = 0 then FI_X11_sayFromNowOn a0 (-1) I J else FI_X11_sayFromNowOn a0 (-1) I J)
set_option maxHeartbeats 1000000 in
set_option maxRecDepth 40000 in
theorem c_X11_forget {I : SI} {J : SJ} {R : SR} {n g : Nat} (ro : RO R) (hnn : nK ≤ n) (a0 : Int32)   : MM 3 0 0 mX11_forget [.ref 0, .int a0] I J R n g (Pd (some (.int (F_X11_forget a0 I J))) (FI_X11_forget a0 I J) J R n g) := by
  refine MM.of (by decide) (Nat.le_of_ble_eq_true rfl) fun K ok fin => ?_
  show WK K 0 0 0 [(0, .ref 0), (1, .int a0)] [] I J R n g
  refine w_aload_n ok dX11_forget_0 0 rfl ?_
  refine w_getR ok dX11_forget_1 (fX11_20 rfl) (congrArg Prod.fst s_0) rfl (r_0_2 ro) (ltK hnn (by decide)) ?_
  refine w_getR ok dX11_forget_4 (fX11_112 rfl) (congrArg Prod.fst s_2) rfl (r_2_0 ro) (ltK hnn (by decide)) ?_
  refine w_iload_n ok dX11_forget_7 1 rfl ?_
  refine w_cV (As := [.int a0]) ok dX11_forget_8 iX7_holds (lX11_131 rfl) (rcv cls7 (congrArg Prod.fst s_3)) (ltK hnn (by decide)) (c_X7_holds ro hnn a0 isTb_3) (by decide) rfl (Nat.le_of_ble_eq_true rfl) ?_
  refine w_if_eq (tgt := 27) ok dX11_forget_11 (by decide) (fun c1 => ?_) (fun c1 => ?_)
  · skip
    refine w_iconst (v := 0) ok dX11_forget_27 (by decide) ?_
    exact w_zret ok fin dX11_forget_28 rfl (by decide) (by unfold F_X11_forget FI_X11_forget; simp only [if_pos c1]; exact Pd.i)
  · skip
    refine w_aload_n ok dX11_forget_14 0 rfl ?_
    refine w_iload_n ok dX11_forget_15 1 rfl ?_
    refine w_iconst (v := (-1)) ok dX11_forget_16 (by decide) ?_
    refine w_cV (As := [.int a0, .int (-1)]) ok dX11_forget_17 iX11_sayFromNowOn (lX11_222 rfl) (rcv cls11 (congrArg Prod.fst s_0)) (ltK hnn (by decide)) (c_X11_sayFromNowOn ro hnn a0 (-1) ) (by decide) rfl (Nat.le_of_ble_eq_true rfl) ?_
    refine w_if_eq (tgt := 27) ok dX11_forget_20 (by decide) (fun c2 => ?_) (fun c2 => ?_)
    · skip
      refine w_iconst (v := 0) ok dX11_forget_27 (by decide) ?_
      exact w_zret ok fin dX11_forget_28 rfl (by decide) (by unfold F_X11_forget FI_X11_forget; simp only [if_neg c1]; simp only [if_pos c2]; exact Pd.i)
    · skip
      refine w_iconst (v := 1) ok dX11_forget_23 (by decide) ?_
      refine w_goto (tgt := 28) ok dX11_forget_24 (by decide) ?_
      exact w_zret ok fin dX11_forget_28 rfl (by decide) (by unfold F_X11_forget FI_X11_forget; simp only [if_neg c1]; simp only [if_neg c2]; exact Pd.i)
def F_X11_isRest (a0 : Int32) (a1 : Int32) (a2 : Int32) (I : SI) (J : SJ) : Int32 := if (minI (4) (atF (I 93) 4 a0)) < (a2 / 5) then 0 else (if (minI (4) (atF (I 93) 4 a1)) < (a2 - a2 / 5 * 5) then 0 else (if (F_X11_isBest (a2 / 5) (a2 - a2 / 5 * 5) (minI (4) (atF (I 93) 4 a0)) I J) = 0 then 0 else (if (F_X11_isBest (a2 - a2 / 5 * 5) (a2 / 5) (minI (4) (atF (I 93) 4 a1)) I J) = 0 then 0 else 1)))
set_option maxHeartbeats 1000000 in
set_option maxRecDepth 40000 in
theorem c_X11_isRest {I : SI} {J : SJ} {R : SR} {n g : Nat} (ro : RO R) (hnn : nK ≤ n) (a0 : Int32) (a1 : Int32) (a2 : Int32)   : MM 2 0 0 mX11_isRest [.ref 0, .int a0, .int a1, .int a2] I J R n g (Pd (some (.int (F_X11_isRest a0 a1 a2 I J))) I J R n g) := by
  refine MM.of (by decide) (Nat.le_of_ble_eq_true rfl) fun K ok fin => ?_
  show WK K 0 0 0 [(0, .ref 0), (1, .int a0), (2, .int a1), (3, .int a2)] [] I J R n g
  refine w_iload_n ok dX11_isRest_0 3 rfl ?_
  refine w_iconst (v := 5) ok dX11_isRest_1 (by decide) ?_
  refine w_idiv ok dX11_isRest_2 (by decide) ?_
  refine w_istore ok dX11_isRest_3 (by decide) rfl ?_
  refine w_iload_n ok dX11_isRest_5 4 rfl ?_
  refine w_iconst (v := 5) ok dX11_isRest_6 (by decide) ?_
  refine w_irem ok dX11_isRest_7 (by decide) ?_
  refine w_istore ok dX11_isRest_8 (by decide) rfl ?_
  refine w_iconst (v := 4) ok dX11_isRest_10 (by decide) ?_
  refine w_aload_n ok dX11_isRest_11 2 rfl ?_
  refine w_getR ok dX11_isRest_12 (fX11_34 rfl) (congrArg Prod.fst s_0) rfl (r_0_4 ro) (ltK hnn (by decide)) ?_
  refine w_getR ok dX11_isRest_15 (fX11_183 rfl) (congrArg Prod.fst s_86) rfl (r_86_13 ro) (ltK hnn (by decide)) ?_
  refine w_iload_n ok dX11_isRest_18 3 rfl ?_
  refine w_cS (As := [.ref 93, .int a0]) ok dX11_isRest_19 iX11_at (lX11_146 rfl) (c_at s_93 (ltK hnn (by decide)) a0) (by decide) rfl (Nat.le_of_ble_eq_true rfl) ?_
  show WK K 0 0 22 [(5, .int (a2 - a2 / 5 * 5)), (4, .int (a2 / 5)), (0, .ref 0), (1, .int a0), (2, .int a1), (3, .int a2)] [.int (atF (I 93) 4 a0), .int 4] I J R n g
  refine w_minI ok dX11_isRest_22 (iT_3 62 (by decide +kernel) (by decide +kernel)) (Nat.le_of_ble_eq_true rfl) ?_
  refine w_istore ok dX11_isRest_25 (by decide) rfl ?_
  refine w_iconst (v := 4) ok dX11_isRest_27 (by decide) ?_
  refine w_aload_n ok dX11_isRest_28 3 rfl ?_
  refine w_getR ok dX11_isRest_29 (fX11_34 rfl) (congrArg Prod.fst s_0) rfl (r_0_4 ro) (ltK hnn (by decide)) ?_
  refine w_getR ok dX11_isRest_32 (fX11_183 rfl) (congrArg Prod.fst s_86) rfl (r_86_13 ro) (ltK hnn (by decide)) ?_
  refine w_iload_n ok dX11_isRest_35 5 rfl ?_
  refine w_cS (As := [.ref 93, .int a1]) ok dX11_isRest_36 iX11_at (lX11_146 rfl) (c_at s_93 (ltK hnn (by decide)) a1) (by decide) rfl (Nat.le_of_ble_eq_true rfl) ?_
  show WK K 0 0 39 [(6, .int (minI (4) (atF (I 93) 4 a0))), (5, .int (a2 - a2 / 5 * 5)), (4, .int (a2 / 5)), (0, .ref 0), (1, .int a0), (2, .int a1), (3, .int a2)] [.int (atF (I 93) 4 a1), .int 4] I J R n g
  refine w_minI ok dX11_isRest_39 (iT_3 62 (by decide +kernel) (by decide +kernel)) (Nat.le_of_ble_eq_true rfl) ?_
  refine w_istore ok dX11_isRest_42 (by decide) rfl ?_
  refine w_iload ok dX11_isRest_44 3 rfl ?_
  refine w_iload ok dX11_isRest_46 1 rfl ?_
  refine w_icmp_gt (tgt := 86) ok dX11_isRest_48 (by decide) (fun c1 => ?_) (fun c1 => ?_)
  · skip
    refine w_iconst (v := 0) ok dX11_isRest_86 (by decide) ?_
    exact w_zret ok fin dX11_isRest_87 rfl (by decide) (by unfold F_X11_isRest; simp only [if_pos c1]; exact Pd.i)
  · skip
    refine w_iload ok dX11_isRest_51 2 rfl ?_
    refine w_iload ok dX11_isRest_53 0 rfl ?_
    refine w_icmp_gt (tgt := 86) ok dX11_isRest_55 (by decide) (fun c2 => ?_) (fun c2 => ?_)
    · skip
      refine w_iconst (v := 0) ok dX11_isRest_86 (by decide) ?_
      exact w_zret ok fin dX11_isRest_87 rfl (by decide) (by unfold F_X11_isRest; simp only [if_neg c1]; simp only [if_pos c2]; exact Pd.i)
    · skip
      refine w_iload ok dX11_isRest_58 3 rfl ?_
      refine w_iload ok dX11_isRest_60 2 rfl ?_
      refine w_iload ok dX11_isRest_62 1 rfl ?_
      refine w_cS (As := [.int (a2 / 5), .int (a2 - a2 / 5 * 5), .int (minI (4) (atF (I 93) 4 a0))]) ok dX11_isRest_64 iX11_isBest (lX11_308 rfl) (c_X11_isBest ro hnn (a2 / 5) (a2 - a2 / 5 * 5) (minI (4) (atF (I 93) 4 a0)) ) (by decide) rfl (Nat.le_of_ble_eq_true rfl) ?_
      refine w_if_eq (tgt := 86) ok dX11_isRest_67 (by decide) (fun c3 => ?_) (fun c3 => ?_)
      · skip
        refine w_iconst (v := 0) ok dX11_isRest_86 (by decide) ?_
        exact w_zret ok fin dX11_isRest_87 rfl (by decide) (by unfold F_X11_isRest; simp only [if_neg c1]; simp only [if_neg c2]; simp only [if_pos c3]; exact Pd.i)
      · skip
        refine w_iload ok dX11_isRest_70 2 rfl ?_
        refine w_iload ok dX11_isRest_72 3 rfl ?_
        refine w_iload ok dX11_isRest_74 0 rfl ?_
        refine w_cS (As := [.int (a2 - a2 / 5 * 5), .int (a2 / 5), .int (minI (4) (atF (I 93) 4 a1))]) ok dX11_isRest_76 iX11_isBest (lX11_308 rfl) (c_X11_isBest ro hnn (a2 - a2 / 5 * 5) (a2 / 5) (minI (4) (atF (I 93) 4 a1)) ) (by decide) rfl (Nat.le_of_ble_eq_true rfl) ?_
        refine w_if_eq (tgt := 86) ok dX11_isRest_79 (by decide) (fun c4 => ?_) (fun c4 => ?_)
        · skip
          refine w_iconst (v := 0) ok dX11_isRest_86 (by decide) ?_
          exact w_zret ok fin dX11_isRest_87 rfl (by decide) (by unfold F_X11_isRest; simp only [if_neg c1]; simp only [if_neg c2]; simp only [if_neg c3]; simp only [if_pos c4]; exact Pd.i)
        · skip
          refine w_iconst (v := 1) ok dX11_isRest_82 (by decide) ?_
          refine w_goto (tgt := 87) ok dX11_isRest_83 (by decide) ?_
          exact w_zret ok fin dX11_isRest_87 rfl (by decide) (by unfold F_X11_isRest; simp only [if_neg c1]; simp only [if_neg c2]; simp only [if_neg c3]; simp only [if_neg c4]; exact Pd.i)
def S1_X0_worthOf (a0 : Nat) (a1 : Int32) (a2 : Int32) (a3 : Int32) (a4 : Int32) (a5 : Int32) (I : SI) (J : SJ) : SJ := u2 (u2 (u2 (u2 J 115 0 a1.toInt64) 115 1 a2.toInt64) 115 2 a3.toInt64) 115 3 a4.toInt64
def S2_X0_worthOf (a0 : Nat) (a1 : Int32) (a2 : Int32) (a3 : Int32) (a4 : Int32) (a5 : Int32) (I : SI) (J : SJ) : SJ := u2 (u2 (S1_X0_worthOf a0 a1 a2 a3 a4 a5 I J) 115 4 a5.toInt64) 115 5 ((I 105 0).toInt64)
def S3_X0_worthOf (a0 : Nat) (a1 : Int32) (a2 : Int32) (a3 : Int32) (a4 : Int32) (a5 : Int32) (I : SI) (J : SJ) : SJ := FJ_X1_worth a0 115 7 I (u2 (S2_X0_worthOf a0 a1 a2 a3 a4 a5 I J) 115 6 ((I 105 5).toInt64))
def F_X0_worthOf (a0 : Nat) (a1 : Int32) (a2 : Int32) (a3 : Int32) (a4 : Int32) (a5 : Int32) (I : SI) (J : SJ) : Int64 := if (I a0 0) = 0 then -9223372036854775808 else F_X1_worth a0 115 7 I (u2 (S2_X0_worthOf a0 a1 a2 a3 a4 a5 I J) 115 6 ((I 105 5).toInt64))
def FJ_X0_worthOf (a0 : Nat) (a1 : Int32) (a2 : Int32) (a3 : Int32) (a4 : Int32) (a5 : Int32) (I : SI) (J : SJ) : SJ := if (I a0 0) = 0 then J else (S3_X0_worthOf a0 a1 a2 a3 a4 a5 I J)
def H_X0_worthOf (a0 : Nat) (a1 : Int32) (a2 : Int32) (a3 : Int32) (a4 : Int32) (a5 : Int32) (I : SI) (J : SJ) : Prop := (¬ ((I a0 0) = 0) → H_X1_worth a0 115 7 I (u2 (S2_X0_worthOf a0 a1 a2 a3 a4 a5 I J) 115 6 ((I 105 5).toInt64)))
set_option maxHeartbeats 1000000 in
set_option maxRecDepth 40000 in
theorem c_X0_worthOf {I : SI} {J : SJ} {R : SR} {n g : Nat} (ro : RO R) (hnn : nK ≤ n) {a0 : Nat} (a1 : Int32) (a2 : Int32) (a3 : Int32) (a4 : Int32) (a5 : Int32) (ha0 : IsLw a0)  (hp : H_X0_worthOf a0 a1 a2 a3 a4 a5 I J) : MM 2 0 0 mX0_worthOf [.ref 104, .ref a0, .int a1, .int a2, .int a3, .int a4, .int a5] I J R n g (Pd (some (.long (F_X0_worthOf a0 a1 a2 a3 a4 a5 I J))) I (FJ_X0_worthOf a0 a1 a2 a3 a4 a5 I J) R n g) := by
  refine MM.of (by decide) (Nat.le_of_ble_eq_true rfl) fun K ok fin => ?_
  show WK K 0 0 0 [(0, .ref 104), (1, .ref a0), (2, .int a1), (3, .int a2), (4, .int a3), (5, .int a4), (6, .int a5)] [] I J R n g
  have hp1 := hp
  refine w_aload_n ok dX0_worthOf_0 1 rfl ?_
  refine w_getI ok dX0_worthOf_1 (fX0_233 rfl) (congrArg Prod.fst (sLw ha0)) rfl (ltK hnn (nLw ha0)) ?_
  refine w_if_eq (tgt := 17) ok dX0_worthOf_4 (by decide) (fun c1 => ?_) (fun c1 => ?_)
  · skip
    refine w_ldc2 ok dX0_worthOf_17 kX0_181 ?_
    exact w_lret ok fin dX0_worthOf_20 rfl (by unfold F_X0_worthOf FJ_X0_worthOf; simp only [if_pos c1]; exact Pd.i)
  · skip
    refine w_aload_n ok dX0_worthOf_7 0 rfl ?_
    refine w_getR ok dX0_worthOf_8 (fX0_26 rfl) (congrArg Prod.fst s_104) rfl (r_104_4 ro) (ltK hnn (by decide)) ?_
    refine w_alen (v := 7) ok dX0_worthOf_11 s_115 (by decide) (by decide) (ltK hnn (by decide)) ?_
    refine w_bipush (v := 7) ok dX0_worthOf_12 (by decide) ?_
    refine w_icmp_ge (tgt := 21) ok dX0_worthOf_14 (by decide) (fun _ => ?_) (fun h => absurd (by decide) h)
    refine w_aload_n ok dX0_worthOf_21 0 rfl ?_
    refine w_getR ok dX0_worthOf_22 (fX0_26 rfl) (congrArg Prod.fst s_104) rfl (r_104_4 ro) (ltK hnn (by decide)) ?_
    refine w_iconst (v := 0) ok dX0_worthOf_25 (by decide) ?_
    refine w_iload_n ok dX0_worthOf_26 2 rfl ?_
    refine w_i2l ok dX0_worthOf_27 ?_
    refine x_last (q := 0) ok dX0_worthOf_28 s_115 (by decide) (by decide) (ltK hnn (by decide)) ?_
    refine w_aload_n ok dX0_worthOf_29 0 rfl ?_
    refine w_getR ok dX0_worthOf_30 (fX0_26 rfl) (congrArg Prod.fst s_104) rfl (r_104_4 ro) (ltK hnn (by decide)) ?_
    refine w_iconst (v := 1) ok dX0_worthOf_33 (by decide) ?_
    refine w_iload_n ok dX0_worthOf_34 3 rfl ?_
    refine w_i2l ok dX0_worthOf_35 ?_
    refine x_last (q := 1) ok dX0_worthOf_36 s_115 (by decide) (by decide) (ltK hnn (by decide)) ?_
    refine w_aload_n ok dX0_worthOf_37 0 rfl ?_
    refine w_getR ok dX0_worthOf_38 (fX0_26 rfl) (congrArg Prod.fst s_104) rfl (r_104_4 ro) (ltK hnn (by decide)) ?_
    refine w_iconst (v := 2) ok dX0_worthOf_41 (by decide) ?_
    refine w_iload ok dX0_worthOf_42 4 rfl ?_
    refine w_i2l ok dX0_worthOf_44 ?_
    refine x_last (q := 2) ok dX0_worthOf_45 s_115 (by decide) (by decide) (ltK hnn (by decide)) ?_
    refine w_aload_n ok dX0_worthOf_46 0 rfl ?_
    refine w_getR ok dX0_worthOf_47 (fX0_26 rfl) (congrArg Prod.fst s_104) rfl (r_104_4 ro) (ltK hnn (by decide)) ?_
    refine w_iconst (v := 3) ok dX0_worthOf_50 (by decide) ?_
    refine w_iload ok dX0_worthOf_51 5 rfl ?_
    refine w_i2l ok dX0_worthOf_53 ?_
    refine x_last (q := 3) ok dX0_worthOf_54 s_115 (by decide) (by decide) (ltK hnn (by decide)) ?_
    show WK K 0 0 55 [(0, .ref 104), (1, .ref a0), (2, .int a1), (3, .int a2), (4, .int a3), (5, .int a4), (6, .int a5)] [] I (S1_X0_worthOf a0 a1 a2 a3 a4 a5 I J) R n g
    refine w_aload_n ok dX0_worthOf_55 0 rfl ?_
    refine w_getR ok dX0_worthOf_56 (fX0_26 rfl) (congrArg Prod.fst s_104) rfl (r_104_4 ro) (ltK hnn (by decide)) ?_
    refine w_iconst (v := 4) ok dX0_worthOf_59 (by decide) ?_
    refine w_iload ok dX0_worthOf_60 6 rfl ?_
    refine w_i2l ok dX0_worthOf_62 ?_
    refine x_last (q := 4) ok dX0_worthOf_63 s_115 (by decide) (by decide) (ltK hnn (by decide)) ?_
    refine w_aload_n ok dX0_worthOf_64 0 rfl ?_
    refine w_getR ok dX0_worthOf_65 (fX0_26 rfl) (congrArg Prod.fst s_104) rfl (r_104_4 ro) (ltK hnn (by decide)) ?_
    refine w_iconst (v := 5) ok dX0_worthOf_68 (by decide) ?_
    refine w_aload_n ok dX0_worthOf_69 0 rfl ?_
    refine w_getR ok dX0_worthOf_70 (fX0_12 rfl) (congrArg Prod.fst s_104) rfl (r_104_0 ro) (ltK hnn (by decide)) ?_
    refine w_getI ok dX0_worthOf_73 (fX0_93 rfl) (congrArg Prod.fst s_105) rfl (ltK hnn (by decide)) ?_
    refine w_i2l ok dX0_worthOf_76 ?_
    refine x_last (q := 5) ok dX0_worthOf_77 s_115 (by decide) (by decide) (ltK hnn (by decide)) ?_
    show WK K 0 0 78 [(0, .ref 104), (1, .ref a0), (2, .int a1), (3, .int a2), (4, .int a3), (5, .int a4), (6, .int a5)] [] I (S2_X0_worthOf a0 a1 a2 a3 a4 a5 I J) R n g
    refine w_aload_n ok dX0_worthOf_78 0 rfl ?_
    refine w_getR ok dX0_worthOf_79 (fX0_26 rfl) (congrArg Prod.fst s_104) rfl (r_104_4 ro) (ltK hnn (by decide)) ?_
    refine w_bipush (v := 6) ok dX0_worthOf_82 (by decide) ?_
    refine w_aload_n ok dX0_worthOf_84 0 rfl ?_
    refine w_getR ok dX0_worthOf_85 (fX0_12 rfl) (congrArg Prod.fst s_104) rfl (r_104_0 ro) (ltK hnn (by decide)) ?_
    refine w_getI ok dX0_worthOf_88 (fX0_74 rfl) (congrArg Prod.fst s_105) rfl (ltK hnn (by decide)) ?_
    refine w_i2l ok dX0_worthOf_91 ?_
    refine x_last (q := 6) ok dX0_worthOf_92 s_115 (by decide) (by decide) (ltK hnn (by decide)) ?_
    refine w_aload_n ok dX0_worthOf_93 1 rfl ?_
    refine w_aload_n ok dX0_worthOf_94 0 rfl ?_
    refine w_getR ok dX0_worthOf_95 (fX0_26 rfl) (congrArg Prod.fst s_104) rfl (r_104_4 ro) (ltK hnn (by decide)) ?_
    refine w_cV (As := [.ref 115]) ok dX0_worthOf_98 iX1_worth (lX0_235 rfl) (rcv cls1 (congrArg Prod.fst (sLw ha0))) (ltK hnn (nLw ha0)) (c_X1_worth ro hnn  ha0 s_115 (ltK hnn (by decide)) (sh_len s_115) (hp1 c1)) (by decide) rfl (Nat.le_of_ble_eq_true rfl) ?_
    show WK K 0 0 101 [(0, .ref 104), (1, .ref a0), (2, .int a1), (3, .int a2), (4, .int a3), (5, .int a4), (6, .int a5)] [.long (F_X1_worth a0 115 7 I (u2 (S2_X0_worthOf a0 a1 a2 a3 a4 a5 I J) 115 6 ((I 105 5).toInt64)))] I (S3_X0_worthOf a0 a1 a2 a3 a4 a5 I J) R n g
    exact w_lret ok fin dX0_worthOf_101 rfl (by unfold F_X0_worthOf FJ_X0_worthOf; simp only [if_neg c1]; exact Pd.i)
def FI_X4_begin (a0 : Int32) (I : SI) (J : SJ) : SI := if a0 = 0 then FI_X8_step  I J else FI_X8_step  (FI_X4_fail 2 I J) J
def H_X4_begin (a0 : Int32) (I : SI) (J : SJ) : Prop := (a0 = 0 → H_X8_step  I J) ∧ (¬ (a0 = 0) → H_X8_step  (FI_X4_fail 2 I J) J)
set_option maxHeartbeats 1000000 in
set_option maxRecDepth 40000 in
theorem c_X4_begin {I : SI} {J : SJ} {R : SR} {n g : Nat} (ro : RO R) (hnn : nK ≤ n) (a0 : Int32) (htp : R 81 1 = some 1)  (hp : H_X4_begin a0 I J) : MM 3 0 0 mX4_begin [.ref 41, .int a0] I J R n g (Pd none (FI_X4_begin a0 I J) J R n g) := by
  refine MM.of (by decide) (Nat.le_of_ble_eq_true rfl) fun K ok fin => ?_
  show WK K 0 0 0 [(0, .ref 41), (1, .int a0)] [] I J R n g
  obtain ⟨hp1, hp2⟩ := hp
  refine w_iload_n ok dX4_begin_0 1 rfl ?_
  refine w_if_eq (tgt := 9) ok dX4_begin_1 (by decide) (fun c1 => ?_) (fun c1 => ?_)
  · skip
    refine w_aload_n ok dX4_begin_9 0 rfl ?_
    refine w_getR ok dX4_begin_10 (fX4_28 rfl) (congrArg Prod.fst s_41) rfl (r_41_3 ro) (ltK hnn (by decide)) ?_
    refine w_cV (As := []) ok dX4_begin_13 iX8_step (lX4_65 rfl) (rcv cls8 (congrArg Prod.fst s_81)) (ltK hnn (by decide)) (c_X8_step ro hnn  htp (hp1 c1)) (by decide) rfl (Nat.le_of_ble_eq_true rfl) ?_
    exact w_vret ok fin dX4_begin_16 rfl (by unfold FI_X4_begin; simp only [if_pos c1]; exact Pd.i)
  · skip
    refine w_aload_n ok dX4_begin_4 0 rfl ?_
    refine w_iconst (v := 2) ok dX4_begin_5 (by decide) ?_
    refine w_cV (As := [.int 2]) ok dX4_begin_6 iX4_fail (lX4_58 rfl) (rcv cls4 (congrArg Prod.fst s_41)) (ltK hnn (by decide)) (c_X4_fail ro hnn 2 ) (by decide) rfl (Nat.le_of_ble_eq_true rfl) ?_
    refine w_aload_n ok dX4_begin_9 0 rfl ?_
    refine w_getR ok dX4_begin_10 (fX4_28 rfl) (congrArg Prod.fst s_41) rfl (r_41_3 ro) (ltK hnn (by decide)) ?_
    refine w_cV (As := []) ok dX4_begin_13 iX8_step (lX4_65 rfl) (rcv cls8 (congrArg Prod.fst s_81)) (ltK hnn (by decide)) (c_X8_step ro hnn  htp (hp2 c1)) (by decide) rfl (Nat.le_of_ble_eq_true rfl) ?_
    exact w_vret ok fin dX4_begin_16 rfl (by unfold FI_X4_begin; simp only [if_neg c1]; exact Pd.i)
def F_X4_fresh (a0 : Nat) (I : SI) (J : SJ) : Int32 := if (I 81 5) = 3 then (if (F_X7_find a0 (I 81 6) I J) < 0 then I 81 6 else I 81 6) else I 81 6
def FI_X4_fresh (a0 : Nat) (I : SI) (J : SJ) : SI := if (I 81 5) = 3 then (if (F_X7_find a0 (I 81 6) I J) < 0 then FI_X8_step  I J else FI_X8_step  (FI_X4_fail 3 I J) J) else FI_X8_step  (FI_X4_fail 1 I J) J
def H_X4_fresh (a0 : Nat) (I : SI) (J : SJ) : Prop := ((I 81 5) = 3 → (F_X7_find a0 (I 81 6) I J) < 0 → H_X8_step  I J) ∧ ((I 81 5) = 3 → ¬ ((F_X7_find a0 (I 81 6) I J) < 0) → H_X8_step  (FI_X4_fail 3 I J) J) ∧ (¬ ((I 81 5) = 3) → H_X8_step  (FI_X4_fail 1 I J) J)
set_option maxHeartbeats 1000000 in
set_option maxRecDepth 40000 in
theorem c_X4_fresh {I : SI} {J : SJ} {R : SR} {n g : Nat} (ro : RO R) (hnn : nK ≤ n) {a0 : Nat} (ha0 : IsTb a0) (htp : R 81 1 = some 1)  (hp : H_X4_fresh a0 I J) : MM 3 0 0 mX4_fresh [.ref 41, .ref a0] I J R n g (Pd (some (.int (F_X4_fresh a0 I J))) (FI_X4_fresh a0 I J) J R n g) := by
  refine MM.of (by decide) (Nat.le_of_ble_eq_true rfl) fun K ok fin => ?_
  show WK K 0 0 0 [(0, .ref 41), (1, .ref a0)] [] I J R n g
  obtain ⟨hp1, hp2, hp3⟩ := hp
  refine w_aload_n ok dX4_fresh_0 0 rfl ?_
  refine w_getR ok dX4_fresh_1 (fX4_28 rfl) (congrArg Prod.fst s_41) rfl (r_41_3 ro) (ltK hnn (by decide)) ?_
  refine w_getI ok dX4_fresh_4 (fX4_167 rfl) (congrArg Prod.fst s_81) rfl (ltK hnn (by decide)) ?_
  refine w_istore_n ok dX4_fresh_7 rfl (by decide) rfl ?_
  refine w_aload_n ok dX4_fresh_8 1 rfl ?_
  refine w_getR ok dX4_fresh_9 (fX4_28 rfl) (congrArg Prod.fst s_41) rfl (r_41_3 ro) (ltK hnn (by decide)) ?_
  refine w_getI ok dX4_fresh_12 (fX4_52 rfl) (congrArg Prod.fst s_81) rfl (ltK hnn (by decide)) ?_
  refine w_iconst (v := 3) ok dX4_fresh_15 (by decide) ?_
  refine w_icmp_eq (tgt := 27) ok dX4_fresh_16 (by decide) (fun c1 => ?_) (fun c1 => ?_)
  · skip
    refine w_aload_n ok dX4_fresh_27 2 rfl ?_
    refine w_iload_n ok dX4_fresh_28 0 rfl ?_
    refine w_cV (As := [.int (I 81 6)]) ok dX4_fresh_29 iX7_find (lX4_170 rfl) (rcv cls7 (congrArg Prod.fst (sTb ha0))) (ltK hnn (nTb ha0)) (c_X7_find ro hnn (I 81 6) ha0) (by decide) rfl (Nat.le_of_ble_eq_true rfl) ?_
    refine w_if_lt (tgt := 40) ok dX4_fresh_32 (by decide) (fun c2 => ?_) (fun c2 => ?_)
    · skip
      refine w_aload_n ok dX4_fresh_40 1 rfl ?_
      refine w_getR ok dX4_fresh_41 (fX4_28 rfl) (congrArg Prod.fst s_41) rfl (r_41_3 ro) (ltK hnn (by decide)) ?_
      refine w_cV (As := []) ok dX4_fresh_44 iX8_step (lX4_65 rfl) (rcv cls8 (congrArg Prod.fst s_81)) (ltK hnn (by decide)) (c_X8_step ro hnn  htp (hp1 c1 c2)) (by decide) rfl (Nat.le_of_ble_eq_true rfl) ?_
      refine w_iload_n ok dX4_fresh_47 0 rfl ?_
      exact w_iret ok fin dX4_fresh_48 rfl (by unfold F_X4_fresh FI_X4_fresh; simp only [if_pos c1]; simp only [if_pos c2]; exact Pd.i)
    · skip
      refine w_aload_n ok dX4_fresh_35 1 rfl ?_
      refine w_iconst (v := 3) ok dX4_fresh_36 (by decide) ?_
      refine w_cV (As := [.int 3]) ok dX4_fresh_37 iX4_fail (lX4_58 rfl) (rcv cls4 (congrArg Prod.fst s_41)) (ltK hnn (by decide)) (c_X4_fail ro hnn 3 ) (by decide) rfl (Nat.le_of_ble_eq_true rfl) ?_
      refine w_aload_n ok dX4_fresh_40 1 rfl ?_
      refine w_getR ok dX4_fresh_41 (fX4_28 rfl) (congrArg Prod.fst s_41) rfl (r_41_3 ro) (ltK hnn (by decide)) ?_
      refine w_cV (As := []) ok dX4_fresh_44 iX8_step (lX4_65 rfl) (rcv cls8 (congrArg Prod.fst s_81)) (ltK hnn (by decide)) (c_X8_step ro hnn  htp (hp2 c1 c2)) (by decide) rfl (Nat.le_of_ble_eq_true rfl) ?_
      refine w_iload_n ok dX4_fresh_47 0 rfl ?_
      exact w_iret ok fin dX4_fresh_48 rfl (by unfold F_X4_fresh FI_X4_fresh; simp only [if_pos c1]; simp only [if_neg c2]; exact Pd.i)
  · skip
    refine w_aload_n ok dX4_fresh_19 1 rfl ?_
    refine w_iconst (v := 1) ok dX4_fresh_20 (by decide) ?_
    refine w_cV (As := [.int 1]) ok dX4_fresh_21 iX4_fail (lX4_58 rfl) (rcv cls4 (congrArg Prod.fst s_41)) (ltK hnn (by decide)) (c_X4_fail ro hnn 1 ) (by decide) rfl (Nat.le_of_ble_eq_true rfl) ?_
    refine w_goto (tgt := 40) ok dX4_fresh_24 (by decide) ?_
    refine w_aload_n ok dX4_fresh_40 1 rfl ?_
    refine w_getR ok dX4_fresh_41 (fX4_28 rfl) (congrArg Prod.fst s_41) rfl (r_41_3 ro) (ltK hnn (by decide)) ?_
    refine w_cV (As := []) ok dX4_fresh_44 iX8_step (lX4_65 rfl) (rcv cls8 (congrArg Prod.fst s_81)) (ltK hnn (by decide)) (c_X8_step ro hnn  htp (hp3 c1)) (by decide) rfl (Nat.le_of_ble_eq_true rfl) ?_
    refine w_iload_n ok dX4_fresh_47 0 rfl ?_
    exact w_iret ok fin dX4_fresh_48 rfl (by unfold F_X4_fresh FI_X4_fresh; simp only [if_neg c1]; exact Pd.i)
def F_X4_number (a0 : Int32) (a1 : Int32) (I : SI) (J : SJ) : Int32 := if (I 81 5) = 2 then (if (I 81 6) < a0 then I 81 6 else (if (I 81 6) ≤ a1 then I 81 6 else I 81 6)) else I 81 6
def FI_X4_number (a0 : Int32) (a1 : Int32) (I : SI) (J : SJ) : SI := if (I 81 5) = 2 then (if (I 81 6) < a0 then FI_X8_step  (FI_X4_fail 2 I J) J else (if (I 81 6) ≤ a1 then FI_X8_step  I J else FI_X8_step  (FI_X4_fail 2 I J) J)) else FI_X8_step  (FI_X4_fail 1 I J) J
def H_X4_number (a0 : Int32) (a1 : Int32) (I : SI) (J : SJ) : Prop := ((I 81 5) = 2 → (I 81 6) < a0 → H_X8_step  (FI_X4_fail 2 I J) J) ∧ ((I 81 5) = 2 → ¬ ((I 81 6) < a0) → (I 81 6) ≤ a1 → H_X8_step  I J) ∧ ((I 81 5) = 2 → ¬ ((I 81 6) < a0) → ¬ ((I 81 6) ≤ a1) → H_X8_step  (FI_X4_fail 2 I J) J) ∧ (¬ ((I 81 5) = 2) → H_X8_step  (FI_X4_fail 1 I J) J)
set_option maxHeartbeats 1000000 in
set_option maxRecDepth 40000 in
theorem c_X4_number {I : SI} {J : SJ} {R : SR} {n g : Nat} (ro : RO R) (hnn : nK ≤ n) (a0 : Int32) (a1 : Int32) (htp : R 81 1 = some 1)  (hp : H_X4_number a0 a1 I J) : MM 3 0 0 mX4_number [.ref 41, .int a0, .int a1] I J R n g (Pd (some (.int (F_X4_number a0 a1 I J))) (FI_X4_number a0 a1 I J) J R n g) := by
  refine MM.of (by decide) (Nat.le_of_ble_eq_true rfl) fun K ok fin => ?_
  show WK K 0 0 0 [(0, .ref 41), (1, .int a0), (2, .int a1)] [] I J R n g
  obtain ⟨hp1, hp2, hp3, hp4⟩ := hp
  refine w_aload_n ok dX4_number_0 0 rfl ?_
  refine w_getR ok dX4_number_1 (fX4_28 rfl) (congrArg Prod.fst s_41) rfl (r_41_3 ro) (ltK hnn (by decide)) ?_
  refine w_getI ok dX4_number_4 (fX4_167 rfl) (congrArg Prod.fst s_81) rfl (ltK hnn (by decide)) ?_
  refine w_istore_n ok dX4_number_7 rfl (by decide) rfl ?_
  refine w_aload_n ok dX4_number_8 1 rfl ?_
  refine w_getR ok dX4_number_9 (fX4_28 rfl) (congrArg Prod.fst s_41) rfl (r_41_3 ro) (ltK hnn (by decide)) ?_
  refine w_getI ok dX4_number_12 (fX4_52 rfl) (congrArg Prod.fst s_81) rfl (ltK hnn (by decide)) ?_
  refine w_iconst (v := 2) ok dX4_number_15 (by decide) ?_
  refine w_icmp_eq (tgt := 27) ok dX4_number_16 (by decide) (fun c1 => ?_) (fun c1 => ?_)
  · skip
    refine w_iload_n ok dX4_number_27 0 rfl ?_
    refine w_iload_n ok dX4_number_28 2 rfl ?_
    refine w_icmp_lt (tgt := 37) ok dX4_number_29 (by decide) (fun c2 => ?_) (fun c2 => ?_)
    · skip
      refine w_aload_n ok dX4_number_37 1 rfl ?_
      refine w_iconst (v := 2) ok dX4_number_38 (by decide) ?_
      refine w_cV (As := [.int 2]) ok dX4_number_39 iX4_fail (lX4_58 rfl) (rcv cls4 (congrArg Prod.fst s_41)) (ltK hnn (by decide)) (c_X4_fail ro hnn 2 ) (by decide) rfl (Nat.le_of_ble_eq_true rfl) ?_
      refine w_aload_n ok dX4_number_42 1 rfl ?_
      refine w_getR ok dX4_number_43 (fX4_28 rfl) (congrArg Prod.fst s_41) rfl (r_41_3 ro) (ltK hnn (by decide)) ?_
      refine w_cV (As := []) ok dX4_number_46 iX8_step (lX4_65 rfl) (rcv cls8 (congrArg Prod.fst s_81)) (ltK hnn (by decide)) (c_X8_step ro hnn  htp (hp1 c1 c2)) (by decide) rfl (Nat.le_of_ble_eq_true rfl) ?_
      refine w_iload_n ok dX4_number_49 0 rfl ?_
      exact w_iret ok fin dX4_number_50 rfl (by unfold F_X4_number FI_X4_number; simp only [if_pos c1]; simp only [if_pos c2]; exact Pd.i)
    · skip
      refine w_iload_n ok dX4_number_32 0 rfl ?_
      refine w_iload_n ok dX4_number_33 3 rfl ?_
      refine w_icmp_le (tgt := 42) ok dX4_number_34 (by decide) (fun c3 => ?_) (fun c3 => ?_)
      · skip
        refine w_aload_n ok dX4_number_42 1 rfl ?_
        refine w_getR ok dX4_number_43 (fX4_28 rfl) (congrArg Prod.fst s_41) rfl (r_41_3 ro) (ltK hnn (by decide)) ?_
        refine w_cV (As := []) ok dX4_number_46 iX8_step (lX4_65 rfl) (rcv cls8 (congrArg Prod.fst s_81)) (ltK hnn (by decide)) (c_X8_step ro hnn  htp (hp2 c1 c2 c3)) (by decide) rfl (Nat.le_of_ble_eq_true rfl) ?_
        refine w_iload_n ok dX4_number_49 0 rfl ?_
        exact w_iret ok fin dX4_number_50 rfl (by unfold F_X4_number FI_X4_number; simp only [if_pos c1]; simp only [if_neg c2]; simp only [if_pos c3]; exact Pd.i)
      · skip
        refine w_aload_n ok dX4_number_37 1 rfl ?_
        refine w_iconst (v := 2) ok dX4_number_38 (by decide) ?_
        refine w_cV (As := [.int 2]) ok dX4_number_39 iX4_fail (lX4_58 rfl) (rcv cls4 (congrArg Prod.fst s_41)) (ltK hnn (by decide)) (c_X4_fail ro hnn 2 ) (by decide) rfl (Nat.le_of_ble_eq_true rfl) ?_
        refine w_aload_n ok dX4_number_42 1 rfl ?_
        refine w_getR ok dX4_number_43 (fX4_28 rfl) (congrArg Prod.fst s_41) rfl (r_41_3 ro) (ltK hnn (by decide)) ?_
        refine w_cV (As := []) ok dX4_number_46 iX8_step (lX4_65 rfl) (rcv cls8 (congrArg Prod.fst s_81)) (ltK hnn (by decide)) (c_X8_step ro hnn  htp (hp3 c1 c2 c3)) (by decide) rfl (Nat.le_of_ble_eq_true rfl) ?_
        refine w_iload_n ok dX4_number_49 0 rfl ?_
        exact w_iret ok fin dX4_number_50 rfl (by unfold F_X4_number FI_X4_number; simp only [if_pos c1]; simp only [if_neg c2]; simp only [if_neg c3]; exact Pd.i)
  · skip
    refine w_aload_n ok dX4_number_19 1 rfl ?_
    refine w_iconst (v := 1) ok dX4_number_20 (by decide) ?_
    refine w_cV (As := [.int 1]) ok dX4_number_21 iX4_fail (lX4_58 rfl) (rcv cls4 (congrArg Prod.fst s_41)) (ltK hnn (by decide)) (c_X4_fail ro hnn 1 ) (by decide) rfl (Nat.le_of_ble_eq_true rfl) ?_
    refine w_goto (tgt := 42) ok dX4_number_24 (by decide) ?_
    refine w_aload_n ok dX4_number_42 1 rfl ?_
    refine w_getR ok dX4_number_43 (fX4_28 rfl) (congrArg Prod.fst s_41) rfl (r_41_3 ro) (ltK hnn (by decide)) ?_
    refine w_cV (As := []) ok dX4_number_46 iX8_step (lX4_65 rfl) (rcv cls8 (congrArg Prod.fst s_81)) (ltK hnn (by decide)) (c_X8_step ro hnn  htp (hp4 c1)) (by decide) rfl (Nat.le_of_ble_eq_true rfl) ?_
    refine w_iload_n ok dX4_number_49 0 rfl ?_
    exact w_iret ok fin dX4_number_50 rfl (by unfold F_X4_number FI_X4_number; simp only [if_neg c1]; exact Pd.i)
def S1_X4_operand (a0 : Nat) (I : SI) (J : SJ) : SI := FI_X1_add a0 (I 81 5) ((FI_X4_fail 2 (FI_X4_knot  I J) J) 81 6) (FI_X4_fail 2 (FI_X4_knot  I J) J) J
def S2_X4_operand (a0 : Nat) (I : SI) (J : SJ) : SI := FI_X4_hold (I 81 5) (u2 (FI_X4_fail 2 I J) 41 7 (((FI_X4_fail 2 I J) 41 7) + 1)) J
def F_X4_operand (a0 : Nat) (I : SI) (J : SJ) : Int32 := if (I 81 5) = 2 then (if ((FI_X4_knot  I J) 81 6) ≤ 9999 then 0 else 0) else (if (I 81 5) < 36 then (if (I 81 5) = 5 then (if (I 41 7) < 8 then 1 else 1) else (if (I 81 5) = 35 then (if (F_X4_rank 35 I J) < (F_X4_topRank  I J) then 1 else 1) else 1)) else 0)
def FI_X4_operand (a0 : Nat) (I : SI) (J : SJ) : SI := if (I 81 5) = 2 then (if ((FI_X4_knot  I J) 81 6) ≤ 9999 then FI_X1_add a0 (I 81 5) ((FI_X4_knot  I J) 81 6) (FI_X4_knot  I J) J else (S1_X4_operand a0 I J)) else (if (I 81 5) < 36 then (if (I 81 5) = 5 then (if (I 41 7) < 8 then FI_X4_hold (I 81 5) (u2 I 41 7 ((I 41 7) + 1)) J else (S2_X4_operand a0 I J)) else (if (I 81 5) = 35 then (if (F_X4_rank 35 I J) < (F_X4_topRank  I J) then FI_X4_fail 1 I J else FI_X4_hold (I 81 5) (FI_X4_knot  I J) J) else FI_X4_fail 1 I J)) else FI_X1_add a0 (I 81 5) 0 (FI_X4_knot  I J) J)
def H_X4_operand (a0 : Nat) (I : SI) (J : SJ) : Prop := ((I 81 5) = 2 → ((FI_X4_knot  I J) 81 6) ≤ 9999 → H_X1_add a0 (I 81 5) ((FI_X4_knot  I J) 81 6) (FI_X4_knot  I J) J) ∧ ((I 81 5) = 2 → ¬ (((FI_X4_knot  I J) 81 6) ≤ 9999) → H_X1_add a0 (I 81 5) ((FI_X4_fail 2 (FI_X4_knot  I J) J) 81 6) (FI_X4_fail 2 (FI_X4_knot  I J) J) J) ∧ (¬ ((I 81 5) = 2) → (I 81 5) < 36 → ¬ ((I 81 5) = 5) → (I 81 5) = 35 → H_X4_topRank  I J) ∧ (¬ ((I 81 5) = 2) → ¬ ((I 81 5) < 36) → H_X1_add a0 (I 81 5) 0 (FI_X4_knot  I J) J)
set_option maxHeartbeats 1390000 in
set_option maxRecDepth 40000 in
theorem c_X4_operand {I : SI} {J : SJ} {R : SR} {n g : Nat} (ro : RO R) (hnn : nK ≤ n) {a0 : Nat} (ha0 : IsLw a0)  (hp : H_X4_operand a0 I J) : MM 2 0 0 mX4_operand [.ref 41, .ref a0] I J R n g (Pd (some (.int (F_X4_operand a0 I J))) (FI_X4_operand a0 I J) J R n g) := by
  refine MM.of (by decide) (Nat.le_of_ble_eq_true rfl) fun K ok fin => ?_
  show WK K 0 0 0 [(0, .ref 41), (1, .ref a0)] [] I J R n g
  obtain ⟨hp1, hp2, hp3, hp4⟩ := hp
  refine w_aload_n ok dX4_operand_0 0 rfl ?_
  refine w_getR ok dX4_operand_1 (fX4_28 rfl) (congrArg Prod.fst s_41) rfl (r_41_3 ro) (ltK hnn (by decide)) ?_
  refine w_getI ok dX4_operand_4 (fX4_52 rfl) (congrArg Prod.fst s_81) rfl (ltK hnn (by decide)) ?_
  refine w_istore_n ok dX4_operand_7 rfl (by decide) rfl ?_
  refine w_iload_n ok dX4_operand_8 0 rfl ?_
  refine w_iconst (v := 2) ok dX4_operand_9 (by decide) ?_
  refine w_icmp_eq (tgt := 19) ok dX4_operand_10 (by decide) (fun c1 => ?_) (fun c1 => ?_)
  · skip
    refine w_aload_n ok dX4_operand_19 1 rfl ?_
    refine w_cV (As := []) ok dX4_operand_20 iX4_knot (lX4_203 rfl) (rcv cls4 (congrArg Prod.fst s_41)) (ltK hnn (by decide)) (c_X4_knot ro hnn  ) (by decide) rfl (Nat.le_of_ble_eq_true rfl) ?_
    refine w_iload_n ok dX4_operand_23 0 rfl ?_
    refine w_iconst (v := 2) ok dX4_operand_24 (by decide) ?_
    refine w_icmp_ne (tgt := 46) ok dX4_operand_25 (by decide) (fun h => absurd c1 h) (fun _ => ?_)
    refine w_aload_n ok dX4_operand_28 1 rfl ?_
    refine w_getR ok dX4_operand_29 (fX4_28 rfl) (congrArg Prod.fst s_41) rfl (r_41_3 ro) (ltK hnn (by decide)) ?_
    refine w_getI ok dX4_operand_32 (fX4_167 rfl) (congrArg Prod.fst s_81) rfl (ltK hnn (by decide)) ?_
    refine w_sipush (v := 9999) ok dX4_operand_35 (by decide) ?_
    refine w_icmp_le (tgt := 46) ok dX4_operand_38 (by decide) (fun c2 => ?_) (fun c2 => ?_)
    · skip
      refine w_aload_n ok dX4_operand_46 2 rfl ?_
      refine w_iload_n ok dX4_operand_47 0 rfl ?_
      refine w_iload_n ok dX4_operand_48 0 rfl ?_
      refine w_iconst (v := 2) ok dX4_operand_49 (by decide) ?_
      refine w_icmp_ne (tgt := 63) ok dX4_operand_50 (by decide) (fun h => absurd c1 h) (fun _ => ?_)
      refine w_aload_n ok dX4_operand_53 1 rfl ?_
      refine w_getR ok dX4_operand_54 (fX4_28 rfl) (congrArg Prod.fst s_41) rfl (r_41_3 ro) (ltK hnn (by decide)) ?_
      refine w_getI ok dX4_operand_57 (fX4_167 rfl) (congrArg Prod.fst s_81) rfl (ltK hnn (by decide)) ?_
      refine w_goto (tgt := 64) ok dX4_operand_60 (by decide) ?_
      refine w_cV (As := [.int (I 81 5), .int ((FI_X4_knot  I J) 81 6)]) ok dX4_operand_64 iX1_add (lX4_206 rfl) (rcv cls1 (congrArg Prod.fst (sLw ha0))) (ltK hnn (nLw ha0)) (c_X1_add ro hnn (I 81 5) ((FI_X4_knot  I J) 81 6) ha0 (hp1 c1 c2)) (by decide) rfl (Nat.le_of_ble_eq_true rfl) ?_
      refine w_iconst (v := 0) ok dX4_operand_67 (by decide) ?_
      exact w_zret ok fin dX4_operand_68 rfl (by decide) (by unfold F_X4_operand FI_X4_operand; simp only [if_pos c1]; simp only [if_pos c2]; exact Pd.i)
    · skip
      refine w_aload_n ok dX4_operand_41 1 rfl ?_
      refine w_iconst (v := 2) ok dX4_operand_42 (by decide) ?_
      refine w_cV (As := [.int 2]) ok dX4_operand_43 iX4_fail (lX4_58 rfl) (rcv cls4 (congrArg Prod.fst s_41)) (ltK hnn (by decide)) (c_X4_fail ro hnn 2 ) (by decide) rfl (Nat.le_of_ble_eq_true rfl) ?_
      refine w_aload_n ok dX4_operand_46 2 rfl ?_
      refine w_iload_n ok dX4_operand_47 0 rfl ?_
      refine w_iload_n ok dX4_operand_48 0 rfl ?_
      refine w_iconst (v := 2) ok dX4_operand_49 (by decide) ?_
      refine w_icmp_ne (tgt := 63) ok dX4_operand_50 (by decide) (fun h => absurd c1 h) (fun _ => ?_)
      refine w_aload_n ok dX4_operand_53 1 rfl ?_
      refine w_getR ok dX4_operand_54 (fX4_28 rfl) (congrArg Prod.fst s_41) rfl (r_41_3 ro) (ltK hnn (by decide)) ?_
      refine w_getI ok dX4_operand_57 (fX4_167 rfl) (congrArg Prod.fst s_81) rfl (ltK hnn (by decide)) ?_
      refine w_goto (tgt := 64) ok dX4_operand_60 (by decide) ?_
      refine w_cV (As := [.int (I 81 5), .int ((FI_X4_fail 2 (FI_X4_knot  I J) J) 81 6)]) ok dX4_operand_64 iX1_add (lX4_206 rfl) (rcv cls1 (congrArg Prod.fst (sLw ha0))) (ltK hnn (nLw ha0)) (c_X1_add ro hnn (I 81 5) ((FI_X4_fail 2 (FI_X4_knot  I J) J) 81 6) ha0 (hp2 c1 c2)) (by decide) rfl (Nat.le_of_ble_eq_true rfl) ?_
      show WK K 0 0 67 [(2, .int (I 81 5)), (0, .ref 41), (1, .ref a0)] [] (S1_X4_operand a0 I J) J R n g
      refine w_iconst (v := 0) ok dX4_operand_67 (by decide) ?_
      exact w_zret ok fin dX4_operand_68 rfl (by decide) (by unfold F_X4_operand FI_X4_operand; simp only [if_pos c1]; simp only [if_neg c2]; exact Pd.i)
  · skip
    refine w_iload_n ok dX4_operand_13 0 rfl ?_
    refine w_bipush (v := 36) ok dX4_operand_14 (by decide) ?_
    refine w_icmp_lt (tgt := 69) ok dX4_operand_16 (by decide) (fun c3 => ?_) (fun c3 => ?_)
    · skip
      refine w_iload_n ok dX4_operand_69 0 rfl ?_
      refine w_iconst (v := 5) ok dX4_operand_70 (by decide) ?_
      refine w_icmp_ne (tgt := 106) ok dX4_operand_71 (by decide) (fun c4 => ?_) (fun c4 => ?_)
      · skip
        refine w_iload_n ok dX4_operand_106 0 rfl ?_
        refine w_bipush (v := 35) ok dX4_operand_107 (by decide) ?_
        refine w_icmp_ne (tgt := 136) ok dX4_operand_109 (by decide) (fun c5 => ?_) (fun c5 => ?_)
        · skip
          refine w_aload_n ok dX4_operand_136 1 rfl ?_
          refine w_iconst (v := 1) ok dX4_operand_137 (by decide) ?_
          refine w_cV (As := [.int 1]) ok dX4_operand_138 iX4_fail (lX4_58 rfl) (rcv cls4 (congrArg Prod.fst s_41)) (ltK hnn (by decide)) (c_X4_fail ro hnn 1 ) (by decide) rfl (Nat.le_of_ble_eq_true rfl) ?_
          refine w_iconst (v := 1) ok dX4_operand_141 (by decide) ?_
          exact w_zret ok fin dX4_operand_142 rfl (by decide) (by unfold F_X4_operand FI_X4_operand; simp only [if_neg c1]; simp only [if_pos c3]; simp only [if_neg c4]; simp only [if_neg c5]; exact Pd.i)
        · skip
          refine w_aload_n ok dX4_operand_112 1 rfl ?_
          refine w_cV (As := []) ok dX4_operand_113 iX4_topRank (lX4_212 rfl) (rcv cls4 (congrArg Prod.fst s_41)) (ltK hnn (by decide)) (c_X4_topRank ro hnn   (hp3 c1 c3 c4 c5)) (by decide) rfl (Nat.le_of_ble_eq_true rfl) ?_
          refine w_bipush (v := 35) ok dX4_operand_116 (by decide) ?_
          refine w_cS (As := [.int 35]) ok dX4_operand_118 iX4_rank (lX4_216 rfl) (c_X4_rank ro hnn 35 ) (by decide) rfl (Nat.le_of_ble_eq_true rfl) ?_
          show WK K 0 0 121 [(2, .int (I 81 5)), (0, .ref 41), (1, .ref a0)] [.int (F_X4_rank 35 I J), .int (F_X4_topRank  I J)] I J R n g
          refine w_icmp_gt (tgt := 136) ok dX4_operand_121 (by decide) (fun c6 => ?_) (fun c6 => ?_)
          · skip
            refine w_aload_n ok dX4_operand_136 1 rfl ?_
            refine w_iconst (v := 1) ok dX4_operand_137 (by decide) ?_
            refine w_cV (As := [.int 1]) ok dX4_operand_138 iX4_fail (lX4_58 rfl) (rcv cls4 (congrArg Prod.fst s_41)) (ltK hnn (by decide)) (c_X4_fail ro hnn 1 ) (by decide) rfl (Nat.le_of_ble_eq_true rfl) ?_
            refine w_iconst (v := 1) ok dX4_operand_141 (by decide) ?_
            exact w_zret ok fin dX4_operand_142 rfl (by decide) (by unfold F_X4_operand FI_X4_operand; simp only [if_neg c1]; simp only [if_pos c3]; simp only [if_neg c4]; simp only [if_pos c5]; simp only [if_pos c6]; exact Pd.i)
          · skip
            refine w_aload_n ok dX4_operand_124 1 rfl ?_
            refine w_cV (As := []) ok dX4_operand_125 iX4_knot (lX4_203 rfl) (rcv cls4 (congrArg Prod.fst s_41)) (ltK hnn (by decide)) (c_X4_knot ro hnn  ) (by decide) rfl (Nat.le_of_ble_eq_true rfl) ?_
            refine w_aload_n ok dX4_operand_128 1 rfl ?_
            refine w_iload_n ok dX4_operand_129 0 rfl ?_
            refine w_cV (As := [.int (I 81 5)]) ok dX4_operand_130 iX4_hold (lX4_209 rfl) (rcv cls4 (congrArg Prod.fst s_41)) (ltK hnn (by decide)) (c_X4_hold ro hnn (I 81 5) ) (by decide) rfl (Nat.le_of_ble_eq_true rfl) ?_
            refine w_goto (tgt := 141) ok dX4_operand_133 (by decide) ?_
            refine w_iconst (v := 1) ok dX4_operand_141 (by decide) ?_
            exact w_zret ok fin dX4_operand_142 rfl (by decide) (by unfold F_X4_operand FI_X4_operand; simp only [if_neg c1]; simp only [if_pos c3]; simp only [if_neg c4]; simp only [if_pos c5]; simp only [if_neg c6]; exact Pd.i)
      · skip
        refine w_aload_n ok dX4_operand_74 1 rfl ?_
        refine w_getI ok dX4_operand_75 (fX4_42 rfl) (congrArg Prod.fst s_41) rfl (ltK hnn (by decide)) ?_
        refine w_bipush (v := 8) ok dX4_operand_78 (by decide) ?_
        refine w_icmp_lt (tgt := 88) ok dX4_operand_80 (by decide) (fun c7 => ?_) (fun c7 => ?_)
        · skip
          refine w_aload_n ok dX4_operand_88 1 rfl ?_
          refine w_dup ok dX4_operand_89 rfl ?_
          refine w_getI ok dX4_operand_90 (fX4_42 rfl) (congrArg Prod.fst s_41) rfl (ltK hnn (by decide)) ?_
          refine w_iconst (v := 1) ok dX4_operand_93 (by decide) ?_
          refine w_iadd ok dX4_operand_94 ?_
          refine w_putI ok dX4_operand_95 (fwX4_42 rfl) (congrArg Prod.fst s_41) rfl (ltK hnn (by decide)) ?_
          refine w_aload_n ok dX4_operand_98 1 rfl ?_
          refine w_iload_n ok dX4_operand_99 0 rfl ?_
          refine w_cV (As := [.int (I 81 5)]) ok dX4_operand_100 iX4_hold (lX4_209 rfl) (rcv cls4 (congrArg Prod.fst s_41)) (ltK hnn (by decide)) (c_X4_hold ro hnn (I 81 5) ) (by decide) rfl (Nat.le_of_ble_eq_true rfl) ?_
          refine w_goto (tgt := 141) ok dX4_operand_103 (by decide) ?_
          refine w_iconst (v := 1) ok dX4_operand_141 (by decide) ?_
          exact w_zret ok fin dX4_operand_142 rfl (by decide) (by unfold F_X4_operand FI_X4_operand; simp only [if_neg c1]; simp only [if_pos c3]; simp only [if_pos c4]; simp only [if_pos c7]; exact Pd.i)
        · skip
          refine w_aload_n ok dX4_operand_83 1 rfl ?_
          refine w_iconst (v := 2) ok dX4_operand_84 (by decide) ?_
          refine w_cV (As := [.int 2]) ok dX4_operand_85 iX4_fail (lX4_58 rfl) (rcv cls4 (congrArg Prod.fst s_41)) (ltK hnn (by decide)) (c_X4_fail ro hnn 2 ) (by decide) rfl (Nat.le_of_ble_eq_true rfl) ?_
          refine w_aload_n ok dX4_operand_88 1 rfl ?_
          refine w_dup ok dX4_operand_89 rfl ?_
          refine w_getI ok dX4_operand_90 (fX4_42 rfl) (congrArg Prod.fst s_41) rfl (ltK hnn (by decide)) ?_
          refine w_iconst (v := 1) ok dX4_operand_93 (by decide) ?_
          refine w_iadd ok dX4_operand_94 ?_
          refine w_putI ok dX4_operand_95 (fwX4_42 rfl) (congrArg Prod.fst s_41) rfl (ltK hnn (by decide)) ?_
          refine w_aload_n ok dX4_operand_98 1 rfl ?_
          refine w_iload_n ok dX4_operand_99 0 rfl ?_
          refine w_cV (As := [.int (I 81 5)]) ok dX4_operand_100 iX4_hold (lX4_209 rfl) (rcv cls4 (congrArg Prod.fst s_41)) (ltK hnn (by decide)) (c_X4_hold ro hnn (I 81 5) ) (by decide) rfl (Nat.le_of_ble_eq_true rfl) ?_
          show WK K 0 0 103 [(2, .int (I 81 5)), (0, .ref 41), (1, .ref a0)] [] (S2_X4_operand a0 I J) J R n g
          refine w_goto (tgt := 141) ok dX4_operand_103 (by decide) ?_
          refine w_iconst (v := 1) ok dX4_operand_141 (by decide) ?_
          exact w_zret ok fin dX4_operand_142 rfl (by decide) (by unfold F_X4_operand FI_X4_operand; simp only [if_neg c1]; simp only [if_pos c3]; simp only [if_pos c4]; simp only [if_neg c7]; exact Pd.i)
    · skip
      refine w_aload_n ok dX4_operand_19 1 rfl ?_
      refine w_cV (As := []) ok dX4_operand_20 iX4_knot (lX4_203 rfl) (rcv cls4 (congrArg Prod.fst s_41)) (ltK hnn (by decide)) (c_X4_knot ro hnn  ) (by decide) rfl (Nat.le_of_ble_eq_true rfl) ?_
      refine w_iload_n ok dX4_operand_23 0 rfl ?_
      refine w_iconst (v := 2) ok dX4_operand_24 (by decide) ?_
      refine w_icmp_ne (tgt := 46) ok dX4_operand_25 (by decide) (fun _ => ?_) (fun h => absurd h c1)
      refine w_aload_n ok dX4_operand_46 2 rfl ?_
      refine w_iload_n ok dX4_operand_47 0 rfl ?_
      refine w_iload_n ok dX4_operand_48 0 rfl ?_
      refine w_iconst (v := 2) ok dX4_operand_49 (by decide) ?_
      refine w_icmp_ne (tgt := 63) ok dX4_operand_50 (by decide) (fun _ => ?_) (fun h => absurd h c1)
      refine w_iconst (v := 0) ok dX4_operand_63 (by decide) ?_
      refine w_cV (As := [.int (I 81 5), .int 0]) ok dX4_operand_64 iX1_add (lX4_206 rfl) (rcv cls1 (congrArg Prod.fst (sLw ha0))) (ltK hnn (nLw ha0)) (c_X1_add ro hnn (I 81 5) 0 ha0 (hp4 c1 c3)) (by decide) rfl (Nat.le_of_ble_eq_true rfl) ?_
      refine w_iconst (v := 0) ok dX4_operand_67 (by decide) ?_
      exact w_zret ok fin dX4_operand_68 rfl (by decide) (by unfold F_X4_operand FI_X4_operand; simp only [if_neg c1]; simp only [if_neg c3]; exact Pd.i)
def S1_X4_sign (a0 : Nat) (I : SI) (J : SJ) : SI := FI_X4_hold (I 81 5) (FI_X4_knot  (FI_X4_join a0 (F_X4_rank (I 81 5) I J) I J) J) J
def S2_X4_sign (a0 : Nat) (I : SI) (J : SJ) : SI := FI_X4_hold (I 81 5) (FI_X4_knot  (FI_X4_fail 1 (FI_X4_join a0 5 I J) J) J) J
def S3_X4_sign (a0 : Nat) (I : SI) (J : SJ) : SI := FI_X4_hold (I 81 5) (FI_X4_knot  (FI_X4_join a0 (F_X4_rank (I 81 5) I J) I J) J) J
def S4_X4_sign (a0 : Nat) (I : SI) (J : SJ) : SI := FI_X4_hold (I 81 5) (FI_X4_knot  (FI_X4_fail 1 (FI_X4_join a0 5 I J) J) J) J
def S5_X4_sign (a0 : Nat) (I : SI) (J : SJ) : SI := u2 (u2 (FI_X4_join a0 1 I J) 41 6 (((FI_X4_join a0 1 I J) 41 6) - 1)) 41 7 (((u2 (FI_X4_join a0 1 I J) 41 6 (((FI_X4_join a0 1 I J) 41 6) - 1)) 41 7) - 1)
def F_X4_sign (a0 : Nat) (I : SI) (J : SJ) : Int32 := if (I 81 5) = 6 then (if (I 41 7) ≤ 0 then (if (F_X4_rank (I 81 5) I J) = 0 then 1 else (if (I 81 5) = 35 then 1 else (if (F_X4_rank (I 81 5) I J) = 4 then (if (F_X4_topRank  (FI_X4_join a0 5 I J) J) = 4 then 1 else 1) else 1))) else 0) else (if (F_X4_rank (I 81 5) I J) = 0 then 1 else (if (I 81 5) = 35 then 1 else (if (F_X4_rank (I 81 5) I J) = 4 then (if (F_X4_topRank  (FI_X4_join a0 5 I J) J) = 4 then 1 else 1) else 1)))
def FI_X4_sign (a0 : Nat) (I : SI) (J : SJ) : SI := if (I 81 5) = 6 then (if (I 41 7) ≤ 0 then (if (F_X4_rank (I 81 5) I J) = 0 then FI_X4_fail 1 I J else (if (I 81 5) = 35 then FI_X4_fail 1 I J else (if (F_X4_rank (I 81 5) I J) = 4 then (if (F_X4_topRank  (FI_X4_join a0 5 I J) J) = 4 then (S4_X4_sign a0 I J) else FI_X4_hold (I 81 5) (FI_X4_knot  (FI_X4_join a0 5 I J) J) J) else (S3_X4_sign a0 I J)))) else (S5_X4_sign a0 I J)) else (if (F_X4_rank (I 81 5) I J) = 0 then FI_X4_fail 1 I J else (if (I 81 5) = 35 then FI_X4_fail 1 I J else (if (F_X4_rank (I 81 5) I J) = 4 then (if (F_X4_topRank  (FI_X4_join a0 5 I J) J) = 4 then (S2_X4_sign a0 I J) else FI_X4_hold (I 81 5) (FI_X4_knot  (FI_X4_join a0 5 I J) J) J) else (S1_X4_sign a0 I J))))
def H_X4_sign (a0 : Nat) (I : SI) (J : SJ) : Prop := (¬ ((I 81 5) = 6) → ¬ ((F_X4_rank (I 81 5) I J) = 0) → ¬ ((I 81 5) = 35) → ¬ ((F_X4_rank (I 81 5) I J) = 4) → H_X4_join a0 (F_X4_rank (I 81 5) I J) I J) ∧ (¬ ((I 81 5) = 6) → ¬ ((F_X4_rank (I 81 5) I J) = 0) → ¬ ((I 81 5) = 35) → (F_X4_rank (I 81 5) I J) = 4 → H_X4_join a0 5 I J) ∧ (¬ ((I 81 5) = 6) → ¬ ((F_X4_rank (I 81 5) I J) = 0) → ¬ ((I 81 5) = 35) → (F_X4_rank (I 81 5) I J) = 4 → H_X4_topRank  (FI_X4_join a0 5 I J) J) ∧ ((I 81 5) = 6 → (I 41 7) ≤ 0 → ¬ ((F_X4_rank (I 81 5) I J) = 0) → ¬ ((I 81 5) = 35) → ¬ ((F_X4_rank (I 81 5) I J) = 4) → H_X4_join a0 (F_X4_rank (I 81 5) I J) I J) ∧ ((I 81 5) = 6 → (I 41 7) ≤ 0 → ¬ ((F_X4_rank (I 81 5) I J) = 0) → ¬ ((I 81 5) = 35) → (F_X4_rank (I 81 5) I J) = 4 → H_X4_join a0 5 I J) ∧ ((I 81 5) = 6 → (I 41 7) ≤ 0 → ¬ ((F_X4_rank (I 81 5) I J) = 0) → ¬ ((I 81 5) = 35) → (F_X4_rank (I 81 5) I J) = 4 → H_X4_topRank  (FI_X4_join a0 5 I J) J) ∧ ((I 81 5) = 6 → ¬ ((I 41 7) ≤ 0) → H_X4_join a0 1 I J)
set_option maxHeartbeats 1780000 in
set_option maxRecDepth 40000 in
theorem c_X4_sign {I : SI} {J : SJ} {R : SR} {n g : Nat} (ro : RO R) (hnn : nK ≤ n) {a0 : Nat} (ha0 : IsLw a0)  (hp : H_X4_sign a0 I J) : MM 2 0 0 mX4_sign [.ref 41, .ref a0] I J R n g (Pd (some (.int (F_X4_sign a0 I J))) (FI_X4_sign a0 I J) J R n g) := by
  refine MM.of (by decide) (Nat.le_of_ble_eq_true rfl) fun K ok fin => ?_
  show WK K 0 0 0 [(0, .ref 41), (1, .ref a0)] [] I J R n g
  obtain ⟨hp1, hp2, hp3, hp4, hp5, hp6, hp7⟩ := hp
  refine w_aload_n ok dX4_sign_0 0 rfl ?_
  refine w_getR ok dX4_sign_1 (fX4_28 rfl) (congrArg Prod.fst s_41) rfl (r_41_3 ro) (ltK hnn (by decide)) ?_
  refine w_getI ok dX4_sign_4 (fX4_52 rfl) (congrArg Prod.fst s_81) rfl (ltK hnn (by decide)) ?_
  refine w_istore_n ok dX4_sign_7 rfl (by decide) rfl ?_
  refine w_iload_n ok dX4_sign_8 0 rfl ?_
  refine w_bipush (v := 6) ok dX4_sign_9 (by decide) ?_
  refine w_icmp_ne (tgt := 49) ok dX4_sign_11 (by decide) (fun c1 => ?_) (fun c1 => ?_)
  · skip
    refine w_iload_n ok dX4_sign_49 0 rfl ?_
    refine w_cS (As := [.int (I 81 5)]) ok dX4_sign_50 iX4_rank (lX4_216 rfl) (c_X4_rank ro hnn (I 81 5) ) (by decide) rfl (Nat.le_of_ble_eq_true rfl) ?_
    refine w_istore_n ok dX4_sign_53 rfl (by decide) rfl ?_
    refine w_iload_n ok dX4_sign_54 0 rfl ?_
    refine w_if_eq (tgt := 64) ok dX4_sign_55 (by decide) (fun c2 => ?_) (fun c2 => ?_)
    · skip
      refine w_aload_n ok dX4_sign_64 2 rfl ?_
      refine w_iconst (v := 1) ok dX4_sign_65 (by decide) ?_
      refine w_cV (As := [.int 1]) ok dX4_sign_66 iX4_fail (lX4_58 rfl) (rcv cls4 (congrArg Prod.fst s_41)) (ltK hnn (by decide)) (c_X4_fail ro hnn 1 ) (by decide) rfl (Nat.le_of_ble_eq_true rfl) ?_
      refine w_iconst (v := 1) ok dX4_sign_69 (by decide) ?_
      exact w_zret ok fin dX4_sign_70 rfl (by decide) (by unfold F_X4_sign FI_X4_sign; simp only [if_neg c1]; simp only [if_pos c2]; exact Pd.i)
    · skip
      refine w_iload_n ok dX4_sign_58 1 rfl ?_
      refine w_bipush (v := 35) ok dX4_sign_59 (by decide) ?_
      refine w_icmp_ne (tgt := 71) ok dX4_sign_61 (by decide) (fun c3 => ?_) (fun c3 => ?_)
      · skip
        refine w_aload_n ok dX4_sign_71 2 rfl ?_
        refine w_aload_n ok dX4_sign_72 3 rfl ?_
        refine w_iload_n ok dX4_sign_73 0 rfl ?_
        refine w_iconst (v := 4) ok dX4_sign_74 (by decide) ?_
        refine w_icmp_ne (tgt := 82) ok dX4_sign_75 (by decide) (fun c4 => ?_) (fun c4 => ?_)
        · skip
          refine w_iload_n ok dX4_sign_82 0 rfl ?_
          refine w_cV (As := [.ref a0, .int (F_X4_rank (I 81 5) I J)]) ok dX4_sign_83 iX4_join (lX4_192 rfl) (rcv cls4 (congrArg Prod.fst s_41)) (ltK hnn (by decide)) (c_X4_join ro hnn (F_X4_rank (I 81 5) I J) ha0 (hp1 c1 c2 c3 c4)) (by decide) rfl (Nat.le_of_ble_eq_true rfl) ?_
          refine w_iload_n ok dX4_sign_86 0 rfl ?_
          refine w_iconst (v := 4) ok dX4_sign_87 (by decide) ?_
          refine w_icmp_ne (tgt := 104) ok dX4_sign_88 (by decide) (fun _ => ?_) (fun h => absurd h c4)
          refine w_aload_n ok dX4_sign_104 2 rfl ?_
          refine w_cV (As := []) ok dX4_sign_105 iX4_knot (lX4_203 rfl) (rcv cls4 (congrArg Prod.fst s_41)) (ltK hnn (by decide)) (c_X4_knot ro hnn  ) (by decide) rfl (Nat.le_of_ble_eq_true rfl) ?_
          refine w_aload_n ok dX4_sign_108 2 rfl ?_
          refine w_iload_n ok dX4_sign_109 1 rfl ?_
          refine w_cV (As := [.int (I 81 5)]) ok dX4_sign_110 iX4_hold (lX4_209 rfl) (rcv cls4 (congrArg Prod.fst s_41)) (ltK hnn (by decide)) (c_X4_hold ro hnn (I 81 5) ) (by decide) rfl (Nat.le_of_ble_eq_true rfl) ?_
          show WK K 0 0 113 [(3, .int (F_X4_rank (I 81 5) I J)), (2, .int (I 81 5)), (0, .ref 41), (1, .ref a0)] [] (S1_X4_sign a0 I J) J R n g
          refine w_iconst (v := 1) ok dX4_sign_113 (by decide) ?_
          exact w_zret ok fin dX4_sign_114 rfl (by decide) (by unfold F_X4_sign FI_X4_sign; simp only [if_neg c1]; simp only [if_neg c2]; simp only [if_neg c3]; simp only [if_neg c4]; exact Pd.i)
        · skip
          refine w_iconst (v := 5) ok dX4_sign_78 (by decide) ?_
          refine w_goto (tgt := 83) ok dX4_sign_79 (by decide) ?_
          refine w_cV (As := [.ref a0, .int 5]) ok dX4_sign_83 iX4_join (lX4_192 rfl) (rcv cls4 (congrArg Prod.fst s_41)) (ltK hnn (by decide)) (c_X4_join ro hnn 5 ha0 (hp2 c1 c2 c3 c4)) (by decide) rfl (Nat.le_of_ble_eq_true rfl) ?_
          refine w_iload_n ok dX4_sign_86 0 rfl ?_
          refine w_iconst (v := 4) ok dX4_sign_87 (by decide) ?_
          refine w_icmp_ne (tgt := 104) ok dX4_sign_88 (by decide) (fun h => absurd c4 h) (fun _ => ?_)
          refine w_aload_n ok dX4_sign_91 2 rfl ?_
          refine w_cV (As := []) ok dX4_sign_92 iX4_topRank (lX4_212 rfl) (rcv cls4 (congrArg Prod.fst s_41)) (ltK hnn (by decide)) (c_X4_topRank ro hnn   (hp3 c1 c2 c3 c4)) (by decide) rfl (Nat.le_of_ble_eq_true rfl) ?_
          refine w_iconst (v := 4) ok dX4_sign_95 (by decide) ?_
          refine w_icmp_ne (tgt := 104) ok dX4_sign_96 (by decide) (fun c5 => ?_) (fun c5 => ?_)
          · skip
            refine w_aload_n ok dX4_sign_104 2 rfl ?_
            refine w_cV (As := []) ok dX4_sign_105 iX4_knot (lX4_203 rfl) (rcv cls4 (congrArg Prod.fst s_41)) (ltK hnn (by decide)) (c_X4_knot ro hnn  ) (by decide) rfl (Nat.le_of_ble_eq_true rfl) ?_
            refine w_aload_n ok dX4_sign_108 2 rfl ?_
            refine w_iload_n ok dX4_sign_109 1 rfl ?_
            refine w_cV (As := [.int (I 81 5)]) ok dX4_sign_110 iX4_hold (lX4_209 rfl) (rcv cls4 (congrArg Prod.fst s_41)) (ltK hnn (by decide)) (c_X4_hold ro hnn (I 81 5) ) (by decide) rfl (Nat.le_of_ble_eq_true rfl) ?_
            refine w_iconst (v := 1) ok dX4_sign_113 (by decide) ?_
            exact w_zret ok fin dX4_sign_114 rfl (by decide) (by unfold F_X4_sign FI_X4_sign; simp only [if_neg c1]; simp only [if_neg c2]; simp only [if_neg c3]; simp only [if_pos c4]; simp only [if_neg c5]; exact Pd.i)
          · skip
            refine w_aload_n ok dX4_sign_99 2 rfl ?_
            refine w_iconst (v := 1) ok dX4_sign_100 (by decide) ?_
            refine w_cV (As := [.int 1]) ok dX4_sign_101 iX4_fail (lX4_58 rfl) (rcv cls4 (congrArg Prod.fst s_41)) (ltK hnn (by decide)) (c_X4_fail ro hnn 1 ) (by decide) rfl (Nat.le_of_ble_eq_true rfl) ?_
            refine w_aload_n ok dX4_sign_104 2 rfl ?_
            refine w_cV (As := []) ok dX4_sign_105 iX4_knot (lX4_203 rfl) (rcv cls4 (congrArg Prod.fst s_41)) (ltK hnn (by decide)) (c_X4_knot ro hnn  ) (by decide) rfl (Nat.le_of_ble_eq_true rfl) ?_
            refine w_aload_n ok dX4_sign_108 2 rfl ?_
            refine w_iload_n ok dX4_sign_109 1 rfl ?_
            refine w_cV (As := [.int (I 81 5)]) ok dX4_sign_110 iX4_hold (lX4_209 rfl) (rcv cls4 (congrArg Prod.fst s_41)) (ltK hnn (by decide)) (c_X4_hold ro hnn (I 81 5) ) (by decide) rfl (Nat.le_of_ble_eq_true rfl) ?_
            show WK K 0 0 113 [(3, .int (F_X4_rank (I 81 5) I J)), (2, .int (I 81 5)), (0, .ref 41), (1, .ref a0)] [] (S2_X4_sign a0 I J) J R n g
            refine w_iconst (v := 1) ok dX4_sign_113 (by decide) ?_
            exact w_zret ok fin dX4_sign_114 rfl (by decide) (by unfold F_X4_sign FI_X4_sign; simp only [if_neg c1]; simp only [if_neg c2]; simp only [if_neg c3]; simp only [if_pos c4]; simp only [if_pos c5]; exact Pd.i)
      · skip
        refine w_aload_n ok dX4_sign_64 2 rfl ?_
        refine w_iconst (v := 1) ok dX4_sign_65 (by decide) ?_
        refine w_cV (As := [.int 1]) ok dX4_sign_66 iX4_fail (lX4_58 rfl) (rcv cls4 (congrArg Prod.fst s_41)) (ltK hnn (by decide)) (c_X4_fail ro hnn 1 ) (by decide) rfl (Nat.le_of_ble_eq_true rfl) ?_
        refine w_iconst (v := 1) ok dX4_sign_69 (by decide) ?_
        exact w_zret ok fin dX4_sign_70 rfl (by decide) (by unfold F_X4_sign FI_X4_sign; simp only [if_neg c1]; simp only [if_neg c2]; simp only [if_pos c3]; exact Pd.i)
  · skip
    refine w_aload_n ok dX4_sign_14 1 rfl ?_
    refine w_getI ok dX4_sign_15 (fX4_42 rfl) (congrArg Prod.fst s_41) rfl (ltK hnn (by decide)) ?_
    refine w_if_le (tgt := 49) ok dX4_sign_18 (by decide) (fun c6 => ?_) (fun c6 => ?_)
    · skip
      refine w_iload_n ok dX4_sign_49 0 rfl ?_
      refine w_cS (As := [.int (I 81 5)]) ok dX4_sign_50 iX4_rank (lX4_216 rfl) (c_X4_rank ro hnn (I 81 5) ) (by decide) rfl (Nat.le_of_ble_eq_true rfl) ?_
      refine w_istore_n ok dX4_sign_53 rfl (by decide) rfl ?_
      refine w_iload_n ok dX4_sign_54 0 rfl ?_
      refine w_if_eq (tgt := 64) ok dX4_sign_55 (by decide) (fun c7 => ?_) (fun c7 => ?_)
      · skip
        refine w_aload_n ok dX4_sign_64 2 rfl ?_
        refine w_iconst (v := 1) ok dX4_sign_65 (by decide) ?_
        refine w_cV (As := [.int 1]) ok dX4_sign_66 iX4_fail (lX4_58 rfl) (rcv cls4 (congrArg Prod.fst s_41)) (ltK hnn (by decide)) (c_X4_fail ro hnn 1 ) (by decide) rfl (Nat.le_of_ble_eq_true rfl) ?_
        refine w_iconst (v := 1) ok dX4_sign_69 (by decide) ?_
        exact w_zret ok fin dX4_sign_70 rfl (by decide) (by unfold F_X4_sign FI_X4_sign; simp only [if_pos c1]; simp only [if_pos c6]; simp only [if_pos c7]; exact Pd.i)
      · skip
        refine w_iload_n ok dX4_sign_58 1 rfl ?_
        refine w_bipush (v := 35) ok dX4_sign_59 (by decide) ?_
        refine w_icmp_ne (tgt := 71) ok dX4_sign_61 (by decide) (fun c8 => ?_) (fun c8 => ?_)
        · skip
          refine w_aload_n ok dX4_sign_71 2 rfl ?_
          refine w_aload_n ok dX4_sign_72 3 rfl ?_
          refine w_iload_n ok dX4_sign_73 0 rfl ?_
          refine w_iconst (v := 4) ok dX4_sign_74 (by decide) ?_
          refine w_icmp_ne (tgt := 82) ok dX4_sign_75 (by decide) (fun c9 => ?_) (fun c9 => ?_)
          · skip
            refine w_iload_n ok dX4_sign_82 0 rfl ?_
            refine w_cV (As := [.ref a0, .int (F_X4_rank (I 81 5) I J)]) ok dX4_sign_83 iX4_join (lX4_192 rfl) (rcv cls4 (congrArg Prod.fst s_41)) (ltK hnn (by decide)) (c_X4_join ro hnn (F_X4_rank (I 81 5) I J) ha0 (hp4 c1 c6 c7 c8 c9)) (by decide) rfl (Nat.le_of_ble_eq_true rfl) ?_
            refine w_iload_n ok dX4_sign_86 0 rfl ?_
            refine w_iconst (v := 4) ok dX4_sign_87 (by decide) ?_
            refine w_icmp_ne (tgt := 104) ok dX4_sign_88 (by decide) (fun _ => ?_) (fun h => absurd h c9)
            refine w_aload_n ok dX4_sign_104 2 rfl ?_
            refine w_cV (As := []) ok dX4_sign_105 iX4_knot (lX4_203 rfl) (rcv cls4 (congrArg Prod.fst s_41)) (ltK hnn (by decide)) (c_X4_knot ro hnn  ) (by decide) rfl (Nat.le_of_ble_eq_true rfl) ?_
            refine w_aload_n ok dX4_sign_108 2 rfl ?_
            refine w_iload_n ok dX4_sign_109 1 rfl ?_
            refine w_cV (As := [.int (I 81 5)]) ok dX4_sign_110 iX4_hold (lX4_209 rfl) (rcv cls4 (congrArg Prod.fst s_41)) (ltK hnn (by decide)) (c_X4_hold ro hnn (I 81 5) ) (by decide) rfl (Nat.le_of_ble_eq_true rfl) ?_
            show WK K 0 0 113 [(3, .int (F_X4_rank (I 81 5) I J)), (2, .int (I 81 5)), (0, .ref 41), (1, .ref a0)] [] (S3_X4_sign a0 I J) J R n g
            refine w_iconst (v := 1) ok dX4_sign_113 (by decide) ?_
            exact w_zret ok fin dX4_sign_114 rfl (by decide) (by unfold F_X4_sign FI_X4_sign; simp only [if_pos c1]; simp only [if_pos c6]; simp only [if_neg c7]; simp only [if_neg c8]; simp only [if_neg c9]; exact Pd.i)
          · skip
            refine w_iconst (v := 5) ok dX4_sign_78 (by decide) ?_
            refine w_goto (tgt := 83) ok dX4_sign_79 (by decide) ?_
            refine w_cV (As := [.ref a0, .int 5]) ok dX4_sign_83 iX4_join (lX4_192 rfl) (rcv cls4 (congrArg Prod.fst s_41)) (ltK hnn (by decide)) (c_X4_join ro hnn 5 ha0 (hp5 c1 c6 c7 c8 c9)) (by decide) rfl (Nat.le_of_ble_eq_true rfl) ?_
            refine w_iload_n ok dX4_sign_86 0 rfl ?_
            refine w_iconst (v := 4) ok dX4_sign_87 (by decide) ?_
            refine w_icmp_ne (tgt := 104) ok dX4_sign_88 (by decide) (fun h => absurd c9 h) (fun _ => ?_)
            refine w_aload_n ok dX4_sign_91 2 rfl ?_
            refine w_cV (As := []) ok dX4_sign_92 iX4_topRank (lX4_212 rfl) (rcv cls4 (congrArg Prod.fst s_41)) (ltK hnn (by decide)) (c_X4_topRank ro hnn   (hp6 c1 c6 c7 c8 c9)) (by decide) rfl (Nat.le_of_ble_eq_true rfl) ?_
            refine w_iconst (v := 4) ok dX4_sign_95 (by decide) ?_
            refine w_icmp_ne (tgt := 104) ok dX4_sign_96 (by decide) (fun c10 => ?_) (fun c10 => ?_)
            · skip
              refine w_aload_n ok dX4_sign_104 2 rfl ?_
              refine w_cV (As := []) ok dX4_sign_105 iX4_knot (lX4_203 rfl) (rcv cls4 (congrArg Prod.fst s_41)) (ltK hnn (by decide)) (c_X4_knot ro hnn  ) (by decide) rfl (Nat.le_of_ble_eq_true rfl) ?_
              refine w_aload_n ok dX4_sign_108 2 rfl ?_
              refine w_iload_n ok dX4_sign_109 1 rfl ?_
              refine w_cV (As := [.int (I 81 5)]) ok dX4_sign_110 iX4_hold (lX4_209 rfl) (rcv cls4 (congrArg Prod.fst s_41)) (ltK hnn (by decide)) (c_X4_hold ro hnn (I 81 5) ) (by decide) rfl (Nat.le_of_ble_eq_true rfl) ?_
              refine w_iconst (v := 1) ok dX4_sign_113 (by decide) ?_
              exact w_zret ok fin dX4_sign_114 rfl (by decide) (by unfold F_X4_sign FI_X4_sign; simp only [if_pos c1]; simp only [if_pos c6]; simp only [if_neg c7]; simp only [if_neg c8]; simp only [if_pos c9]; simp only [if_neg c10]; exact Pd.i)
            · skip
              refine w_aload_n ok dX4_sign_99 2 rfl ?_
              refine w_iconst (v := 1) ok dX4_sign_100 (by decide) ?_
              refine w_cV (As := [.int 1]) ok dX4_sign_101 iX4_fail (lX4_58 rfl) (rcv cls4 (congrArg Prod.fst s_41)) (ltK hnn (by decide)) (c_X4_fail ro hnn 1 ) (by decide) rfl (Nat.le_of_ble_eq_true rfl) ?_
              refine w_aload_n ok dX4_sign_104 2 rfl ?_
              refine w_cV (As := []) ok dX4_sign_105 iX4_knot (lX4_203 rfl) (rcv cls4 (congrArg Prod.fst s_41)) (ltK hnn (by decide)) (c_X4_knot ro hnn  ) (by decide) rfl (Nat.le_of_ble_eq_true rfl) ?_
              refine w_aload_n ok dX4_sign_108 2 rfl ?_
              refine w_iload_n ok dX4_sign_109 1 rfl ?_
              refine w_cV (As := [.int (I 81 5)]) ok dX4_sign_110 iX4_hold (lX4_209 rfl) (rcv cls4 (congrArg Prod.fst s_41)) (ltK hnn (by decide)) (c_X4_hold ro hnn (I 81 5) ) (by decide) rfl (Nat.le_of_ble_eq_true rfl) ?_
              show WK K 0 0 113 [(3, .int (F_X4_rank (I 81 5) I J)), (2, .int (I 81 5)), (0, .ref 41), (1, .ref a0)] [] (S4_X4_sign a0 I J) J R n g
              refine w_iconst (v := 1) ok dX4_sign_113 (by decide) ?_
              exact w_zret ok fin dX4_sign_114 rfl (by decide) (by unfold F_X4_sign FI_X4_sign; simp only [if_pos c1]; simp only [if_pos c6]; simp only [if_neg c7]; simp only [if_neg c8]; simp only [if_pos c9]; simp only [if_pos c10]; exact Pd.i)
        · skip
          refine w_aload_n ok dX4_sign_64 2 rfl ?_
          refine w_iconst (v := 1) ok dX4_sign_65 (by decide) ?_
          refine w_cV (As := [.int 1]) ok dX4_sign_66 iX4_fail (lX4_58 rfl) (rcv cls4 (congrArg Prod.fst s_41)) (ltK hnn (by decide)) (c_X4_fail ro hnn 1 ) (by decide) rfl (Nat.le_of_ble_eq_true rfl) ?_
          refine w_iconst (v := 1) ok dX4_sign_69 (by decide) ?_
          exact w_zret ok fin dX4_sign_70 rfl (by decide) (by unfold F_X4_sign FI_X4_sign; simp only [if_pos c1]; simp only [if_pos c6]; simp only [if_neg c7]; simp only [if_pos c8]; exact Pd.i)
    · skip
      refine w_aload_n ok dX4_sign_21 1 rfl ?_
      refine w_aload_n ok dX4_sign_22 2 rfl ?_
      refine w_iconst (v := 1) ok dX4_sign_23 (by decide) ?_
      refine w_cV (As := [.ref a0, .int 1]) ok dX4_sign_24 iX4_join (lX4_192 rfl) (rcv cls4 (congrArg Prod.fst s_41)) (ltK hnn (by decide)) (c_X4_join ro hnn 1 ha0 (hp7 c1 c6)) (by decide) rfl (Nat.le_of_ble_eq_true rfl) ?_
      refine w_aload_n ok dX4_sign_27 1 rfl ?_
      refine w_dup ok dX4_sign_28 rfl ?_
      refine w_getI ok dX4_sign_29 (fX4_39 rfl) (congrArg Prod.fst s_41) rfl (ltK hnn (by decide)) ?_
      refine w_iconst (v := 1) ok dX4_sign_32 (by decide) ?_
      refine w_isub ok dX4_sign_33 ?_
      refine w_putI ok dX4_sign_34 (fwX4_39 rfl) (congrArg Prod.fst s_41) rfl (ltK hnn (by decide)) ?_
      refine w_aload_n ok dX4_sign_37 1 rfl ?_
      refine w_dup ok dX4_sign_38 rfl ?_
      refine w_getI ok dX4_sign_39 (fX4_42 rfl) (congrArg Prod.fst s_41) rfl (ltK hnn (by decide)) ?_
      refine w_iconst (v := 1) ok dX4_sign_42 (by decide) ?_
      refine w_isub ok dX4_sign_43 ?_
      refine w_putI ok dX4_sign_44 (fwX4_42 rfl) (congrArg Prod.fst s_41) rfl (ltK hnn (by decide)) ?_
      show WK K 0 0 47 [(2, .int (I 81 5)), (0, .ref 41), (1, .ref a0)] [] (S5_X4_sign a0 I J) J R n g
      refine w_iconst (v := 0) ok dX4_sign_47 (by decide) ?_
      exact w_zret ok fin dX4_sign_48 rfl (by decide) (by unfold F_X4_sign FI_X4_sign; simp only [if_pos c1]; simp only [if_neg c6]; exact Pd.i)
def B_X11_rests_l16 (a0 : Int32) (a1 : Int32) (I : SI) (J : SJ) (i16 : Nat) (s16 : Int32) : Int32 := if (F_X11_isRest a0 a1 (nI i16) I J) = 0 then s16 else (s16 + 1)
def F_X11_rests_l16 (a0 : Int32) (a1 : Int32) (I : SI) (J : SJ) (s0 : Int32) : Int32 := itN (B_X11_rests_l16 a0 a1 I J) (25) s0
def F_X11_rests (a0 : Int32) (a1 : Int32) (I : SI) (J : SJ) : Int32 := if (F_X11_canBid a0 a1 I J) = 0 then -1 else (F_X11_rests_l16 a0 a1 I J 0)
set_option maxHeartbeats 1000000 in
set_option maxRecDepth 40000 in
theorem c_X11_rests {I : SI} {J : SJ} {R : SR} {n g : Nat} (ro : RO R) (hnn : nK ≤ n) (a0 : Int32) (a1 : Int32)   : MM 3 0 0 mX11_rests [.ref 0, .int a0, .int a1] I J R n g (Pd (some (.int (F_X11_rests a0 a1 I J))) I J R n g) := by
  refine MM.of (by decide) (Nat.le_of_ble_eq_true rfl) fun K ok fin => ?_
  show WK K 0 0 0 [(0, .ref 0), (1, .int a0), (2, .int a1)] [] I J R n g
  refine w_aload_n ok dX11_rests_0 0 rfl ?_
  refine w_iload_n ok dX11_rests_1 1 rfl ?_
  refine w_iload_n ok dX11_rests_2 2 rfl ?_
  refine w_cV (As := [.int a0, .int a1]) ok dX11_rests_3 iX11_canBid (lX11_296 rfl) (rcv cls11 (congrArg Prod.fst s_0)) (ltK hnn (by decide)) (c_X11_canBid ro hnn a0 a1 ) (by decide) rfl (Nat.le_of_ble_eq_true rfl) ?_
  refine w_if_ne (tgt := 11) ok dX11_rests_6 (by decide) (fun c1 => ?_) (fun c1 => ?_)
  · skip
    refine w_iconst (v := 0) ok dX11_rests_11 (by decide) ?_
    refine w_istore_n ok dX11_rests_12 rfl (by decide) rfl ?_
    refine w_iconst (v := 0) ok dX11_rests_13 (by decide) ?_
    refine w_istore ok dX11_rests_14 (by decide) rfl ?_
    refine w_loc [2, 3, 4, 1, 0] rfl ?_
    refine loop_for (σ := Int32) (fun (i16 : Nat) (s16 : Int32) => WK K 0 0 16 [(0, .ref 0), (1, .int a0), (2, .int a1), (3, .int s16), (4, .int (nI i16))] [] I J R n g) (B_X11_rests_l16 a0 a1 I J) (25) (0) ?_ ?_
    · show WK K 0 0 16 [(0, .ref 0), (1, .int a0), (2, .int a1), (3, .int (F_X11_rests_l16 a0 a1 I J 0)), (4, .int (nI 25))] [] I J R n g
      have e2 : (25 : Int32) ≤ (nI 25) := (show nI 25 ≤ nI 25 from nI_le (by omega) (by decide))
      refine w_iload ok dX11_rests_16 4 rfl ?_
      refine w_bipush (v := 25) ok dX11_rests_18 (by decide) ?_
      refine w_icmp_ge (tgt := 43) ok dX11_rests_20 (by decide) (fun _ => ?_) (fun h => absurd e2 h)
      refine w_iload_n ok dX11_rests_43 3 rfl ?_
      exact w_iret ok fin dX11_rests_44 rfl (by unfold F_X11_rests; simp only [if_neg c1]; exact Pd.i)
    · intro i16 s16 hi16 hs16 k16
      show WK K 0 0 16 [(0, .ref 0), (1, .int a0), (2, .int a1), (3, .int s16), (4, .int (nI i16))] [] I J R n g
      have e3 : ¬ ((25 : Int32) ≤ (nI i16)) := (show ¬ (nI 25 ≤ nI i16) from nI_ge (by omega) (by decide))
      refine w_iload ok dX11_rests_16 4 rfl ?_
      refine w_bipush (v := 25) ok dX11_rests_18 (by decide) ?_
      refine w_icmp_ge (tgt := 43) ok dX11_rests_20 (by decide) (fun h => absurd h e3) (fun _ => ?_)
      refine w_aload_n ok dX11_rests_23 0 rfl ?_
      refine w_iload_n ok dX11_rests_24 1 rfl ?_
      refine w_iload_n ok dX11_rests_25 2 rfl ?_
      refine w_iload ok dX11_rests_26 4 rfl ?_
      refine w_cV (As := [.int a0, .int a1, .int (nI i16)]) ok dX11_rests_28 iX11_isRest (lX11_299 rfl) (rcv cls11 (congrArg Prod.fst s_0)) (ltK hnn (by decide)) (c_X11_isRest ro hnn a0 a1 (nI i16) ) (by decide) rfl (Nat.le_of_ble_eq_true rfl) ?_
      refine w_if_eq (tgt := 37) ok dX11_rests_31 (by decide) (fun c4 => ?_) (fun c4 => ?_)
      · skip
        refine w_iinc (v := (nI i16) + 1) ok dX11_rests_37 4 rfl rfl (by decide) rfl ?_
        refine w_goto (tgt := 16) ok dX11_rests_40 (by decide) ?_
        have eB : B_X11_rests_l16 a0 a1 I J i16 s16 = s16 := by
          unfold B_X11_rests_l16; exact (if_pos c4).trans (rfl)
        have kk := k16
        rw [eB] at kk
        refine w_loc [1, 2, 3, 4, 0] rfl ?_
        rw [nI_1 i16]
        exact kk
      · skip
        refine w_iinc (v := s16 + 1) ok dX11_rests_34 3 rfl rfl (by decide) rfl ?_
        refine w_iinc (v := (nI i16) + 1) ok dX11_rests_37 4 rfl rfl (by decide) rfl ?_
        refine w_goto (tgt := 16) ok dX11_rests_40 (by decide) ?_
        have eB : B_X11_rests_l16 a0 a1 I J i16 s16 = (s16 + 1) := by
          unfold B_X11_rests_l16; exact (if_neg c4).trans (rfl)
        have kk := k16
        rw [eB] at kk
        refine w_loc [2, 3, 4, 1, 0] rfl ?_
        rw [nI_1 i16]
        exact kk
  · skip
    refine w_iconst (v := (-1)) ok dX11_rests_9 (by decide) ?_
    exact w_iret ok fin dX11_rests_10 rfl (by unfold F_X11_rests; simp only [if_pos c1]; exact Pd.i)
def B_X11_rest_l21 (a0 : Int32) (a1 : Int32) (a2 : Int32) (I : SI) (J : SJ) (i21 : Nat) (s21 : Int32) : (Int32) ⊕ (Int32) := if (F_X11_isRest a0 a1 (nI i21) I J) = 0 then .inl s21 else (if s21 = a2 then .inr ((((nI i21) / 5) * 10) + ((nI i21) - (nI i21) / 5 * 5)) else .inl (s21 + 1))
def F_X11_rest_l21 (a0 : Int32) (a1 : Int32) (a2 : Int32) (I : SI) (J : SJ) (s0 : Int32) : (Int32) ⊕ (Int32) := itE (B_X11_rest_l21 a0 a1 a2 I J) (25) 0 s0
def F_X11_rest (a0 : Int32) (a1 : Int32) (a2 : Int32) (I : SI) (J : SJ) : Int32 := if (F_X11_canBid a0 a1 I J) = 0 then -1 else (if (0 : Int32) ≤ a2 then (match (F_X11_rest_l21 a0 a1 a2 I J 0) with | .inl se21 => -2 | .inr re21 => re21) else -1)
set_option maxHeartbeats 1000000 in
set_option maxRecDepth 40000 in
theorem c_X11_rest {I : SI} {J : SJ} {R : SR} {n g : Nat} (ro : RO R) (hnn : nK ≤ n) (a0 : Int32) (a1 : Int32) (a2 : Int32)   : MM 3 0 0 mX11_rest [.ref 0, .int a0, .int a1, .int a2] I J R n g (Pd (some (.int (F_X11_rest a0 a1 a2 I J))) I J R n g) := by
  refine MM.of (by decide) (Nat.le_of_ble_eq_true rfl) fun K ok fin => ?_
  show WK K 0 0 0 [(0, .ref 0), (1, .int a0), (2, .int a1), (3, .int a2)] [] I J R n g
  refine w_aload_n ok dX11_rest_0 0 rfl ?_
  refine w_iload_n ok dX11_rest_1 1 rfl ?_
  refine w_iload_n ok dX11_rest_2 2 rfl ?_
  refine w_cV (As := [.int a0, .int a1]) ok dX11_rest_3 iX11_canBid (lX11_296 rfl) (rcv cls11 (congrArg Prod.fst s_0)) (ltK hnn (by decide)) (c_X11_canBid ro hnn a0 a1 ) (by decide) rfl (Nat.le_of_ble_eq_true rfl) ?_
  refine w_if_eq (tgt := 13) ok dX11_rest_6 (by decide) (fun c1 => ?_) (fun c1 => ?_)
  · skip
    refine w_iconst (v := (-1)) ok dX11_rest_13 (by decide) ?_
    exact w_iret ok fin dX11_rest_14 rfl (by unfold F_X11_rest; simp only [if_pos c1]; exact Pd.i)
  · skip
    refine w_iload_n ok dX11_rest_9 3 rfl ?_
    refine w_if_ge (tgt := 15) ok dX11_rest_10 (by decide) (fun c2 => ?_) (fun c2 => ?_)
    · skip
      refine w_iconst (v := 0) ok dX11_rest_15 (by decide) ?_
      refine w_istore ok dX11_rest_16 (by decide) rfl ?_
      refine w_iconst (v := 0) ok dX11_rest_18 (by decide) ?_
      refine w_istore ok dX11_rest_19 (by decide) rfl ?_
      refine w_loc [2, 3, 4, 5, 1, 0] rfl ?_
      refine loop_e (σ := Int32) (ρ := Int32) (fun (i21 : Nat) (s21 : Int32) => WK K 0 0 21 [(0, .ref 0), (1, .int a0), (2, .int a1), (3, .int a2), (4, .int s21), (5, .int (nI i21))] [] I J R n g) (B_X11_rest_l21 a0 a1 a2 I J) (25) (0) ?_ ?_
      · intro se21 he21
        have he21 : (F_X11_rest_l21 a0 a1 a2 I J 0) = .inl se21 := he21
        show WK K 0 0 21 [(0, .ref 0), (1, .int a0), (2, .int a1), (3, .int a2), (4, .int se21), (5, .int (nI 25))] [] I J R n g
        have e3 : (25 : Int32) ≤ (nI 25) := (show nI 25 ≤ nI 25 from nI_le (by omega) (by decide))
        refine w_iload ok dX11_rest_21 5 rfl ?_
        refine w_bipush (v := 25) ok dX11_rest_23 (by decide) ?_
        refine w_icmp_ge (tgt := 67) ok dX11_rest_25 (by decide) (fun _ => ?_) (fun h => absurd e3 h)
        refine w_bipush (v := (-2)) ok dX11_rest_67 (by decide) ?_
        exact w_iret ok fin dX11_rest_69 rfl (by unfold F_X11_rest; simp only [if_neg c1]; simp only [if_pos c2]; simp only [he21]; exact Pd.i)
      · intro i21 s21 hi21 hs21 k21 kr21
        show WK K 0 0 21 [(0, .ref 0), (1, .int a0), (2, .int a1), (3, .int a2), (4, .int s21), (5, .int (nI i21))] [] I J R n g
        have e4 : ¬ ((25 : Int32) ≤ (nI i21)) := (show ¬ (nI 25 ≤ nI i21) from nI_ge (by omega) (by decide))
        refine w_iload ok dX11_rest_21 5 rfl ?_
        refine w_bipush (v := 25) ok dX11_rest_23 (by decide) ?_
        refine w_icmp_ge (tgt := 67) ok dX11_rest_25 (by decide) (fun h => absurd h e4) (fun _ => ?_)
        refine w_aload_n ok dX11_rest_28 0 rfl ?_
        refine w_iload_n ok dX11_rest_29 1 rfl ?_
        refine w_iload_n ok dX11_rest_30 2 rfl ?_
        refine w_iload ok dX11_rest_31 5 rfl ?_
        refine w_cV (As := [.int a0, .int a1, .int (nI i21)]) ok dX11_rest_33 iX11_isRest (lX11_299 rfl) (rcv cls11 (congrArg Prod.fst s_0)) (ltK hnn (by decide)) (c_X11_isRest ro hnn a0 a1 (nI i21) ) (by decide) rfl (Nat.le_of_ble_eq_true rfl) ?_
        refine w_if_eq (tgt := 61) ok dX11_rest_36 (by decide) (fun c5 => ?_) (fun c5 => ?_)
        · skip
          refine w_iinc (v := (nI i21) + 1) ok dX11_rest_61 5 rfl rfl (by decide) rfl ?_
          refine w_goto (tgt := 21) ok dX11_rest_64 (by decide) ?_
          have eB : B_X11_rest_l21 a0 a1 a2 I J i21 s21 = .inl s21 := by
            unfold B_X11_rest_l21; exact (if_pos c5).trans (rfl)
          have kk := k21 _ eB
          refine w_loc [1, 2, 3, 4, 5, 0] rfl ?_
          rw [nI_1 i21]
          exact kk
        · skip
          refine w_iload ok dX11_rest_39 4 rfl ?_
          refine w_iload_n ok dX11_rest_41 3 rfl ?_
          refine w_icmp_ne (tgt := 58) ok dX11_rest_42 (by decide) (fun c6 => ?_) (fun c6 => ?_)
          · skip
            refine w_iinc (v := s21 + 1) ok dX11_rest_58 4 rfl rfl (by decide) rfl ?_
            refine w_iinc (v := (nI i21) + 1) ok dX11_rest_61 5 rfl rfl (by decide) rfl ?_
            refine w_goto (tgt := 21) ok dX11_rest_64 (by decide) ?_
            have eB : B_X11_rest_l21 a0 a1 a2 I J i21 s21 = .inl (s21 + 1) := by
              unfold B_X11_rest_l21; exact (if_neg c5).trans ((if_neg c6).trans (rfl))
            have kk := k21 _ eB
            refine w_loc [2, 3, 4, 5, 1, 0] rfl ?_
            rw [nI_1 i21]
            exact kk
          · skip
            refine w_iload ok dX11_rest_45 5 rfl ?_
            refine w_iconst (v := 5) ok dX11_rest_47 (by decide) ?_
            refine w_idiv ok dX11_rest_48 (by decide) ?_
            refine w_bipush (v := 10) ok dX11_rest_49 (by decide) ?_
            refine w_imul ok dX11_rest_51 ?_
            refine w_iload ok dX11_rest_52 5 rfl ?_
            refine w_iconst (v := 5) ok dX11_rest_54 (by decide) ?_
            refine w_irem ok dX11_rest_55 (by decide) ?_
            refine w_iadd ok dX11_rest_56 ?_
            have eB : B_X11_rest_l21 a0 a1 a2 I J i21 s21 = .inr ((((nI i21) / 5) * 10) + ((nI i21) - (nI i21) / 5 * 5)) := by
              unfold B_X11_rest_l21; exact (if_neg c5).trans ((if_pos c6).trans (rfl))
            have hr : (F_X11_rest_l21 a0 a1 a2 I J 0) = .inr ((((nI i21) / 5) * 10) + ((nI i21) - (nI i21) / 5 * 5)) := kr21 _ eB
            exact w_iret ok fin dX11_rest_57 rfl (by unfold F_X11_rest; simp only [if_neg c1]; simp only [if_pos c2]; simp only [hr]; exact Pd.i)
    · skip
      refine w_iconst (v := (-1)) ok dX11_rest_13 (by decide) ?_
      exact w_iret ok fin dX11_rest_14 rfl (by unfold F_X11_rest; simp only [if_neg c1]; simp only [if_neg c2]; exact Pd.i)
def S1_X0_noticeWorth (a0 : Int32) (a1 : Int32) (I : SI) (J : SJ) : SJ := FJ_X0_worthOf 29 (atF (I 114) 6 a1) (atF (I 111) 6 a1) (F_X0_isSaid a1 I J) (F_X5_filmedWith 105 a1 a0 I J) (atF (I 10) 8 a0) I J
def S2_X0_noticeWorth (a0 : Int32) (a1 : Int32) (I : SI) (J : SJ) : Int64 := F_X0_worthOf 29 (atF (I 114) 6 a1) (atF (I 111) 6 a1) (F_X0_isSaid a1 I J) (F_X5_filmedWith 105 a1 a0 I J) (atF (I 10) 8 a0) I J
def F_X0_noticeWorth (a0 : Int32) (a1 : Int32) (I : SI) (J : SJ) : Int64 := (S2_X0_noticeWorth a0 a1 I J)
def FJ_X0_noticeWorth (a0 : Int32) (a1 : Int32) (I : SI) (J : SJ) : SJ := (S1_X0_noticeWorth a0 a1 I J)
def H_X0_noticeWorth (a0 : Int32) (a1 : Int32) (I : SI) (J : SJ) : Prop := (H_X0_worthOf 29 (atF (I 114) 6 a1) (atF (I 111) 6 a1) (F_X0_isSaid a1 I J) (F_X5_filmedWith 105 a1 a0 I J) (atF (I 10) 8 a0) I J)
set_option maxHeartbeats 1000000 in
set_option maxRecDepth 40000 in
theorem c_X0_noticeWorth {I : SI} {J : SJ} {R : SR} {n g : Nat} (ro : RO R) (hnn : nK ≤ n) (a0 : Int32) (a1 : Int32)  (hp : H_X0_noticeWorth a0 a1 I J) : MM 3 0 0 mX0_noticeWorth [.ref 104, .int a0, .int a1] I J R n g (Pd (some (.long (F_X0_noticeWorth a0 a1 I J))) I (FJ_X0_noticeWorth a0 a1 I J) R n g) := by
  refine MM.of (by decide) (Nat.le_of_ble_eq_true rfl) fun K ok fin => ?_
  show WK K 0 0 0 [(0, .ref 104), (1, .int a0), (2, .int a1)] [] I J R n g
  have hp1 := hp
  refine w_aload_n ok dX0_noticeWorth_0 0 rfl ?_
  refine w_aload_n ok dX0_noticeWorth_1 0 rfl ?_
  refine w_getR ok dX0_noticeWorth_2 (fX0_40 rfl) (congrArg Prod.fst s_104) rfl (r_104_3 ro) (ltK hnn (by decide)) ?_
  refine w_getR ok dX0_noticeWorth_5 (fX0_206 rfl) (congrArg Prod.fst s_2) rfl (r_2_12 ro) (ltK hnn (by decide)) ?_
  refine w_aload_n ok dX0_noticeWorth_8 0 rfl ?_
  refine w_getR ok dX0_noticeWorth_9 (fX0_18 rfl) (congrArg Prod.fst s_104) rfl (r_104_1 ro) (ltK hnn (by decide)) ?_
  refine w_iload_n ok dX0_noticeWorth_12 2 rfl ?_
  refine w_cS (As := [.ref 114, .int a1]) ok dX0_noticeWorth_13 iX11_at (lX0_86 rfl) (c_at s_114 (ltK hnn (by decide)) a1) (by decide) rfl (Nat.le_of_ble_eq_true rfl) ?_
  show WK K 0 0 16 [(0, .ref 104), (1, .int a0), (2, .int a1)] [.int (atF (I 114) 6 a1), .ref 29, .ref 104] I J R n g
  refine w_aload_n ok dX0_noticeWorth_16 0 rfl ?_
  refine w_getR ok dX0_noticeWorth_17 (fX0_12 rfl) (congrArg Prod.fst s_104) rfl (r_104_0 ro) (ltK hnn (by decide)) ?_
  refine w_getR ok dX0_noticeWorth_20 (fX0_162 rfl) (congrArg Prod.fst s_105) rfl (r_105_12 ro) (ltK hnn (by decide)) ?_
  refine w_iload_n ok dX0_noticeWorth_23 2 rfl ?_
  refine w_cS (As := [.ref 111, .int a1]) ok dX0_noticeWorth_24 iX11_at (lX0_86 rfl) (c_at s_111 (ltK hnn (by decide)) a1) (by decide) rfl (Nat.le_of_ble_eq_true rfl) ?_
  show WK K 0 0 27 [(0, .ref 104), (1, .int a0), (2, .int a1)] [.int (atF (I 111) 6 a1), .int (atF (I 114) 6 a1), .ref 29, .ref 104] I J R n g
  refine w_aload_n ok dX0_noticeWorth_27 0 rfl ?_
  refine w_iload_n ok dX0_noticeWorth_28 2 rfl ?_
  refine w_cV (As := [.int a1]) ok dX0_noticeWorth_29 iX0_isSaid (lX0_210 rfl) (rcv cls0 (congrArg Prod.fst s_104)) (ltK hnn (by decide)) (c_X0_isSaid ro hnn a1 ) (by decide) rfl (Nat.le_of_ble_eq_true rfl) ?_
  show WK K 0 0 32 [(0, .ref 104), (1, .int a0), (2, .int a1)] [.int (F_X0_isSaid a1 I J), .int (atF (I 111) 6 a1), .int (atF (I 114) 6 a1), .ref 29, .ref 104] I J R n g
  refine w_aload_n ok dX0_noticeWorth_32 0 rfl ?_
  refine w_getR ok dX0_noticeWorth_33 (fX0_12 rfl) (congrArg Prod.fst s_104) rfl (r_104_0 ro) (ltK hnn (by decide)) ?_
  refine w_iload_n ok dX0_noticeWorth_36 2 rfl ?_
  refine w_iload_n ok dX0_noticeWorth_37 1 rfl ?_
  refine w_cV (As := [.int a1, .int a0]) ok dX0_noticeWorth_38 iX5_filmedWith (lX0_213 rfl) (rcv cls5 (congrArg Prod.fst s_105)) (ltK hnn (by decide)) (c_X5_filmedWith ro hnn a1 a0 isSc_105) (by decide) rfl (Nat.le_of_ble_eq_true rfl) ?_
  show WK K 0 0 41 [(0, .ref 104), (1, .int a0), (2, .int a1)] [.int (F_X5_filmedWith 105 a1 a0 I J), .int (F_X0_isSaid a1 I J), .int (atF (I 111) 6 a1), .int (atF (I 114) 6 a1), .ref 29, .ref 104] I J R n g
  refine w_aload_n ok dX0_noticeWorth_41 0 rfl ?_
  refine w_getR ok dX0_noticeWorth_42 (fX0_40 rfl) (congrArg Prod.fst s_104) rfl (r_104_3 ro) (ltK hnn (by decide)) ?_
  refine w_getR ok dX0_noticeWorth_45 (fX0_77 rfl) (congrArg Prod.fst s_2) rfl (r_2_1 ro) (ltK hnn (by decide)) ?_
  refine w_getR ok dX0_noticeWorth_48 (fX0_54 rfl) (congrArg Prod.fst s_8) rfl (r_8_3 ro) (ltK hnn (by decide)) ?_
  refine w_iload_n ok dX0_noticeWorth_51 1 rfl ?_
  refine w_cS (As := [.ref 10, .int a0]) ok dX0_noticeWorth_52 iX11_at (lX0_86 rfl) (c_at s_10 (ltK hnn (by decide)) a0) (by decide) rfl (Nat.le_of_ble_eq_true rfl) ?_
  show WK K 0 0 55 [(0, .ref 104), (1, .int a0), (2, .int a1)] [.int (atF (I 10) 8 a0), .int (F_X5_filmedWith 105 a1 a0 I J), .int (F_X0_isSaid a1 I J), .int (atF (I 111) 6 a1), .int (atF (I 114) 6 a1), .ref 29, .ref 104] I J R n g
  refine w_cV (As := [.ref 29, .int (atF (I 114) 6 a1), .int (atF (I 111) 6 a1), .int (F_X0_isSaid a1 I J), .int (F_X5_filmedWith 105 a1 a0 I J), .int (atF (I 10) 8 a0)]) ok dX0_noticeWorth_55 iX0_worthOf (lX0_216 rfl) (rcv cls0 (congrArg Prod.fst s_104)) (ltK hnn (by decide)) (c_X0_worthOf ro hnn (atF (I 114) 6 a1) (atF (I 111) 6 a1) (F_X0_isSaid a1 I J) (F_X5_filmedWith 105 a1 a0 I J) (atF (I 10) 8 a0) isLw_29 (hp1)) (by decide) rfl (Nat.le_of_ble_eq_true rfl) ?_
  show WK K 0 0 58 [(0, .ref 104), (1, .int a0), (2, .int a1)] [.long (S2_X0_noticeWorth a0 a1 I J)] I (S1_X0_noticeWorth a0 a1 I J) R n g
  exact w_lret ok fin dX0_noticeWorth_58 rfl (by unfold F_X0_noticeWorth FJ_X0_noticeWorth; exact Pd.i)
def S1_X0_yieldWorth (a0 : Int32) (a1 : Int32) (I : SI) (J : SJ) : SJ := FJ_X0_worthOf 33 (atF (I 114) 6 a0) a1 (F_X0_isSaid a0 I J) (F_X5_filmedWith 105 a0 (-1) I J) 0 I J
def S2_X0_yieldWorth (a0 : Int32) (a1 : Int32) (I : SI) (J : SJ) : Int64 := F_X0_worthOf 33 (atF (I 114) 6 a0) a1 (F_X0_isSaid a0 I J) (F_X5_filmedWith 105 a0 (-1) I J) 0 I J
def F_X0_yieldWorth (a0 : Int32) (a1 : Int32) (I : SI) (J : SJ) : Int64 := (S2_X0_yieldWorth a0 a1 I J)
def FJ_X0_yieldWorth (a0 : Int32) (a1 : Int32) (I : SI) (J : SJ) : SJ := (S1_X0_yieldWorth a0 a1 I J)
def H_X0_yieldWorth (a0 : Int32) (a1 : Int32) (I : SI) (J : SJ) : Prop := (H_X0_worthOf 33 (atF (I 114) 6 a0) a1 (F_X0_isSaid a0 I J) (F_X5_filmedWith 105 a0 (-1) I J) 0 I J)
set_option maxHeartbeats 1000000 in
set_option maxRecDepth 40000 in
theorem c_X0_yieldWorth {I : SI} {J : SJ} {R : SR} {n g : Nat} (ro : RO R) (hnn : nK ≤ n) (a0 : Int32) (a1 : Int32)  (hp : H_X0_yieldWorth a0 a1 I J) : MM 3 0 0 mX0_yieldWorth [.ref 104, .int a0, .int a1] I J R n g (Pd (some (.long (F_X0_yieldWorth a0 a1 I J))) I (FJ_X0_yieldWorth a0 a1 I J) R n g) := by
  refine MM.of (by decide) (Nat.le_of_ble_eq_true rfl) fun K ok fin => ?_
  show WK K 0 0 0 [(0, .ref 104), (1, .int a0), (2, .int a1)] [] I J R n g
  have hp1 := hp
  refine w_aload_n ok dX0_yieldWorth_0 0 rfl ?_
  refine w_aload_n ok dX0_yieldWorth_1 0 rfl ?_
  refine w_getR ok dX0_yieldWorth_2 (fX0_40 rfl) (congrArg Prod.fst s_104) rfl (r_104_3 ro) (ltK hnn (by decide)) ?_
  refine w_getR ok dX0_yieldWorth_5 (fX0_220 rfl) (congrArg Prod.fst s_2) rfl (r_2_13 ro) (ltK hnn (by decide)) ?_
  refine w_aload_n ok dX0_yieldWorth_8 0 rfl ?_
  refine w_getR ok dX0_yieldWorth_9 (fX0_18 rfl) (congrArg Prod.fst s_104) rfl (r_104_1 ro) (ltK hnn (by decide)) ?_
  refine w_iload_n ok dX0_yieldWorth_12 1 rfl ?_
  refine w_cS (As := [.ref 114, .int a0]) ok dX0_yieldWorth_13 iX11_at (lX0_86 rfl) (c_at s_114 (ltK hnn (by decide)) a0) (by decide) rfl (Nat.le_of_ble_eq_true rfl) ?_
  show WK K 0 0 16 [(0, .ref 104), (1, .int a0), (2, .int a1)] [.int (atF (I 114) 6 a0), .ref 33, .ref 104] I J R n g
  refine w_iload_n ok dX0_yieldWorth_16 2 rfl ?_
  refine w_aload_n ok dX0_yieldWorth_17 0 rfl ?_
  refine w_iload_n ok dX0_yieldWorth_18 1 rfl ?_
  refine w_cV (As := [.int a0]) ok dX0_yieldWorth_19 iX0_isSaid (lX0_210 rfl) (rcv cls0 (congrArg Prod.fst s_104)) (ltK hnn (by decide)) (c_X0_isSaid ro hnn a0 ) (by decide) rfl (Nat.le_of_ble_eq_true rfl) ?_
  show WK K 0 0 22 [(0, .ref 104), (1, .int a0), (2, .int a1)] [.int (F_X0_isSaid a0 I J), .int a1, .int (atF (I 114) 6 a0), .ref 33, .ref 104] I J R n g
  refine w_aload_n ok dX0_yieldWorth_22 0 rfl ?_
  refine w_getR ok dX0_yieldWorth_23 (fX0_12 rfl) (congrArg Prod.fst s_104) rfl (r_104_0 ro) (ltK hnn (by decide)) ?_
  refine w_iload_n ok dX0_yieldWorth_26 1 rfl ?_
  refine w_iconst (v := (-1)) ok dX0_yieldWorth_27 (by decide) ?_
  refine w_cV (As := [.int a0, .int (-1)]) ok dX0_yieldWorth_28 iX5_filmedWith (lX0_213 rfl) (rcv cls5 (congrArg Prod.fst s_105)) (ltK hnn (by decide)) (c_X5_filmedWith ro hnn a0 (-1) isSc_105) (by decide) rfl (Nat.le_of_ble_eq_true rfl) ?_
  show WK K 0 0 31 [(0, .ref 104), (1, .int a0), (2, .int a1)] [.int (F_X5_filmedWith 105 a0 (-1) I J), .int (F_X0_isSaid a0 I J), .int a1, .int (atF (I 114) 6 a0), .ref 33, .ref 104] I J R n g
  refine w_iconst (v := 0) ok dX0_yieldWorth_31 (by decide) ?_
  refine w_cV (As := [.ref 33, .int (atF (I 114) 6 a0), .int a1, .int (F_X0_isSaid a0 I J), .int (F_X5_filmedWith 105 a0 (-1) I J), .int 0]) ok dX0_yieldWorth_32 iX0_worthOf (lX0_216 rfl) (rcv cls0 (congrArg Prod.fst s_104)) (ltK hnn (by decide)) (c_X0_worthOf ro hnn (atF (I 114) 6 a0) a1 (F_X0_isSaid a0 I J) (F_X5_filmedWith 105 a0 (-1) I J) 0 isLw_33 (hp1)) (by decide) rfl (Nat.le_of_ble_eq_true rfl) ?_
  show WK K 0 0 35 [(0, .ref 104), (1, .int a0), (2, .int a1)] [.long (S2_X0_yieldWorth a0 a1 I J)] I (S1_X0_yieldWorth a0 a1 I J) R n g
  exact w_lret ok fin dX0_yieldWorth_35 rfl (by unfold F_X0_yieldWorth FJ_X0_yieldWorth; exact Pd.i)
