/-! printed by wip/whole/gen_c.py: contracts by program -/
def B_X2_costOf_w4 (a0 : Int32) (I : SI) (J : SJ) (s4 : Int32 × Int32) : (Int32 × Int32) ⊕ (Int32 × Int32) := if (8 : Int32) ≤ s4.2 then .inr (s4.1, s4.2) else (if (a0 >>> (s4.2 &&& 31)) = 0 then .inr (s4.1, s4.2) else (if ((a0 >>> (s4.2 &&& 31)) &&& 1) = 0 then .inl ((s4.1 + 0), (s4.2 + 1)) else .inl ((s4.1 + (atF (I 10) 8 s4.2)), (s4.2 + 1))))
def F_X2_costOf_w4 (a0 : Int32) (I : SI) (J : SJ) (s0 : Int32 × Int32) : Int32 × Int32 := (itW (B_X2_costOf_w4 a0 I J) 800 s0).getD s0
def F_X2_costOf (a0 : Int32) (I : SI) (J : SJ) : Int32 := (F_X2_costOf_w4 a0 I J (0, 0)).1
def H_X2_costOf (a0 : Int32) (I : SI) (J : SJ) : Prop := ((itW (B_X2_costOf_w4 a0 I J) 800 (0, 0)).isSome = true)
set_option maxHeartbeats 1000000 in
set_option maxRecDepth 40000 in
theorem c_X2_costOf {I : SI} {J : SJ} {R : SR} {n g : Nat} {f : Fr} (ro : RO R) (hnn : nK ≤ n) (hf : f.1 = true) (a0 : Int32)  (hp : H_X2_costOf a0 I J) : MM 1 0 0 mX2_costOf [.ref 124, .int a0] (eI f I) (eJ f J) R n g (Pd (some (.int (F_X2_costOf a0 I J))) (eI f I) (eJ f J) R n g) := by
  refine MM.of (by decide) (Nat.le_of_ble_eq_true rfl) fun K ok fin => ?_
  show WK K 0 0 0 [(0, .ref 124), (1, .int a0)] [] (eI f I) (eJ f J) R n g
  have hp1 := hp
  refine w_iconst (v := 0) ok dX2_costOf_0 (by decide) ?_
  refine w_istore_n ok dX2_costOf_1 rfl (by decide) rfl ?_
  refine w_iconst (v := 0) ok dX2_costOf_2 (by decide) ?_
  refine w_istore_n ok dX2_costOf_3 rfl (by decide) rfl ?_
  refine w_loc [2, 3, 1, 0] rfl ?_
  refine loop_w (fun (s4 : Int32 × Int32) => WK K 0 0 4 [(0, .ref 124), (1, .int a0), (2, .int s4.1), (3, .int s4.2)] [] (eI f I) (eJ f J) R n g) (fun (s4 : Int32 × Int32) => WK K 0 0 51 [(0, .ref 124), (1, .int a0), (2, .int s4.1), (3, .int s4.2)] [] (eI f I) (eJ f J) R n g) (B_X2_costOf_w4 a0 I J) 800 (0, 0) (F_X2_costOf_w4 a0 I J (0, 0)) (itW_some (hp1)) ?_ ?_
  · show WK K 0 0 51 [(0, .ref 124), (1, .int a0), (2, .int ((F_X2_costOf_w4 a0 I J (0, 0)).1)), (3, .int ((F_X2_costOf_w4 a0 I J (0, 0)).2))] [] (eI f I) (eJ f J) R n g
    refine w_iload_n ok dX2_costOf_51 2 rfl ?_
    exact w_iret ok fin dX2_costOf_52 rfl (by unfold F_X2_costOf; exact Pd.i)
  · intro n4 s4 hs4 kc4 kx4
    show WK K 0 0 4 [(0, .ref 124), (1, .int a0), (2, .int s4.1), (3, .int s4.2)] [] (eI f I) (eJ f J) R n g
    refine w_iload_n ok dX2_costOf_4 3 rfl ?_
    refine w_bipush (v := 8) ok dX2_costOf_5 (by decide) ?_
    refine w_icmp_ge (tgt := 51) ok dX2_costOf_7 (by decide) (fun c1 => ?_) (fun c1 => ?_)
    · skip
      have eB : B_X2_costOf_w4 a0 I J s4 = .inr (s4.1, s4.2) := by
        unfold B_X2_costOf_w4; exact (if_pos c1).trans (rfl)
      refine w_loc [0, 1, 2, 3] rfl ?_
      have kk := kx4 _ eB
      exact kk
    · skip
      refine w_iload_n ok dX2_costOf_10 1 rfl ?_
      refine w_iload_n ok dX2_costOf_11 3 rfl ?_
      refine w_ishr ok dX2_costOf_12 ?_
      refine w_if_eq (tgt := 51) ok dX2_costOf_13 (by decide) (fun c2 => ?_) (fun c2 => ?_)
      · skip
        have eB : B_X2_costOf_w4 a0 I J s4 = .inr (s4.1, s4.2) := by
          unfold B_X2_costOf_w4; exact (if_neg c1).trans ((if_pos c2).trans (rfl))
        refine w_loc [0, 1, 2, 3] rfl ?_
        have kk := kx4 _ eB
        exact kk
      · skip
        refine w_iload_n ok dX2_costOf_16 2 rfl ?_
        refine w_iload_n ok dX2_costOf_17 1 rfl ?_
        refine w_iload_n ok dX2_costOf_18 3 rfl ?_
        refine w_ishr ok dX2_costOf_19 ?_
        refine w_iconst (v := 1) ok dX2_costOf_20 (by decide) ?_
        refine w_iand ok dX2_costOf_21 ?_
        refine w_if_eq (tgt := 42) ok dX2_costOf_22 (by decide) (fun c3 => ?_) (fun c3 => ?_)
        · skip
          refine w_iconst (v := 0) ok dX2_costOf_42 (by decide) ?_
          refine w_iadd ok dX2_costOf_43 ?_
          refine w_istore_n ok dX2_costOf_44 rfl (by decide) rfl ?_
          refine w_iinc (v := s4.2 + 1) ok dX2_costOf_45 3 rfl rfl (by decide) rfl ?_
          refine w_goto (tgt := 4) ok dX2_costOf_48 (by decide) ?_
          have eB : B_X2_costOf_w4 a0 I J s4 = .inl ((s4.1 + 0), (s4.2 + 1)) := by
            unfold B_X2_costOf_w4; exact (if_neg c1).trans ((if_neg c2).trans ((if_pos c3).trans (rfl)))
          refine w_loc [2, 3, 1, 0] rfl ?_
          have kk := kc4 _ eB
          exact kk
        · skip
          refine w_aload_n ok dX2_costOf_25 0 rfl ?_
          refine w_getR ok dX2_costOf_26 (fX2_25 rfl) (congrArg Prod.fst s_124) rfl (r_124_2 ro) (ltK hnn (by decide)) ?_
          refine w_getR ok dX2_costOf_29 (fX2_85 rfl) (congrArg Prod.fst s_2) rfl (r_2_1 ro) (ltK hnn (by decide)) ?_
          refine w_getR ok dX2_costOf_32 (fX2_88 rfl) (congrArg Prod.fst s_8) rfl (r_8_3 ro) (ltK hnn (by decide)) ?_
          refine w_iload_n ok dX2_costOf_35 3 rfl ?_
          refine w_cS (As := [.ref 10, .int s4.2]) ok dX2_costOf_36 iX11_at (lX2_55 rfl) (c_at s_10 (ltK hnn (by decide)) (sdc hf (by decide)) s4.2) (by decide) rfl (Nat.le_of_ble_eq_true rfl) ?_
          show WK K 0 0 39 [(0, .ref 124), (1, .int a0), (2, .int s4.1), (3, .int s4.2)] [.int (atF (I 10) 8 s4.2), .int s4.1] (eI f I) (eJ f J) R n g
          refine w_goto (tgt := 43) ok dX2_costOf_39 (by decide) ?_
          refine w_iadd ok dX2_costOf_43 ?_
          refine w_istore_n ok dX2_costOf_44 rfl (by decide) rfl ?_
          refine w_iinc (v := s4.2 + 1) ok dX2_costOf_45 3 rfl rfl (by decide) rfl ?_
          refine w_goto (tgt := 4) ok dX2_costOf_48 (by decide) ?_
          have eB : B_X2_costOf_w4 a0 I J s4 = .inl ((s4.1 + (atF (I 10) 8 s4.2)), (s4.2 + 1)) := by
            unfold B_X2_costOf_w4; exact (if_neg c1).trans ((if_neg c2).trans ((if_neg c3).trans (rfl)))
          refine w_loc [2, 3, 1, 0] rfl ?_
          have kk := kc4 _ eB
          exact kk
def S1_X3_begin (a0 : Nat) (a1 : Int32) (I : SI) (J : SJ) (s17 : Int32 × SI) : SI := u2 (putF s17.2 129 4 (s17.2 128 2) s17.1) 128 2 (((putF s17.2 129 4 (s17.2 128 2) s17.1) 128 2) + 1)
def B_X3_begin_w17 (a0 : Nat) (a1 : Int32) (I : SI) (J : SJ) (s17 : Int32 × SI) : (Int32 × SI) ⊕ (Int32 × SI) := if a1 ≤ s17.1 then .inr (s17.1, s17.2) else (if (4 : Int32) ≤ (s17.2 128 2) then .inr (s17.1, s17.2) else (if (atF (s17.2 (a0 + 2)) 8 s17.1) = 0 then .inl ((s17.1 + 1), (S1_X3_begin a0 a1 I J s17)) else .inl ((s17.1 + 1), s17.2)))
def F_X3_begin_w17 (a0 : Nat) (a1 : Int32) (I : SI) (J : SJ) (s0 : Int32 × SI) : Int32 × SI := (itW (B_X3_begin_w17 a0 a1 I J) 800 s0).getD s0
def FI_X3_begin (a0 : Nat) (a1 : Int32) (I : SI) (J : SJ) : SI := (F_X3_begin_w17 a0 a1 I J (0, (u2 (u2 (u2 I 128 2 0) 128 1 (-1)) 128 0 0))).2
def H_X3_begin (a0 : Nat) (a1 : Int32) (I : SI) (J : SJ) : Prop := ((itW (B_X3_begin_w17 a0 a1 I J) 800 (0, (u2 (u2 (u2 I 128 2 0) 128 1 (-1)) 128 0 0))).isSome = true)
set_option maxHeartbeats 1000000 in
set_option maxRecDepth 40000 in
theorem c_X3_begin {I : SI} {J : SJ} {R : SR} {n g : Nat} {f : Fr} (ro : RO R) (hnn : nK ≤ n) (hf : f.1 = true) {a0 : Nat} (a1 : Int32) (ha0 : IsSc a0)  (hp : H_X3_begin a0 a1 I J) : MM 1 0 0 mX3_begin [.ref 128, .ref a0, .int a1] (eI f I) (eJ f J) R n g (Pd none (eI f (FI_X3_begin a0 a1 I J)) (eJ f J) R n g) := by
  refine MM.of (by decide) (Nat.le_of_ble_eq_true rfl) fun K ok fin => ?_
  show WK K 0 0 0 [(0, .ref 128), (1, .ref a0), (2, .int a1)] [] (eI f I) (eJ f J) R n g
  have hp1 := hp
  refine w_aload_n ok dX3_begin_0 0 rfl ?_
  refine w_iconst (v := 0) ok dX3_begin_1 (by decide) ?_
  refine y_putI ok dX3_begin_2 (fwX3_18 rfl) (congrArg Prod.fst s_128) rfl (ltK hnn (by decide)) (sdc hf (by decide)) ?_
  refine w_aload_n ok dX3_begin_5 0 rfl ?_
  refine w_iconst (v := (-1)) ok dX3_begin_6 (by decide) ?_
  refine y_putI ok dX3_begin_7 (fwX3_15 rfl) (congrArg Prod.fst s_128) rfl (ltK hnn (by decide)) (sdc hf (by decide)) ?_
  refine w_aload_n ok dX3_begin_10 0 rfl ?_
  refine w_iconst (v := 0) ok dX3_begin_11 (by decide) ?_
  refine y_putI ok dX3_begin_12 (fwX3_9 rfl) (congrArg Prod.fst s_128) rfl (ltK hnn (by decide)) (sdc hf (by decide)) ?_
  refine w_iconst (v := 0) ok dX3_begin_15 (by decide) ?_
  refine w_istore_n ok dX3_begin_16 rfl (by decide) rfl ?_
  refine w_loc [1, 2, 3, 0] rfl ?_
  refine loop_w (fun (s17 : Int32 × SI) => WK K 0 0 17 [(0, .ref 128), (1, .ref a0), (2, .int a1), (3, .int s17.1)] [] (eI f s17.2) (eJ f J) R n g) (fun (s17 : Int32 × SI) => WK K 0 0 69 [(0, .ref 128), (1, .ref a0), (2, .int a1), (3, .int s17.1)] [] (eI f s17.2) (eJ f J) R n g) (B_X3_begin_w17 a0 a1 I J) 800 (0, (u2 (u2 (u2 I 128 2 0) 128 1 (-1)) 128 0 0)) (F_X3_begin_w17 a0 a1 I J (0, (u2 (u2 (u2 I 128 2 0) 128 1 (-1)) 128 0 0))) (itW_some (hp1)) ?_ ?_
  · show WK K 0 0 69 [(0, .ref 128), (1, .ref a0), (2, .int a1), (3, .int ((F_X3_begin_w17 a0 a1 I J (0, (u2 (u2 (u2 I 128 2 0) 128 1 (-1)) 128 0 0))).1))] [] (eI f ((F_X3_begin_w17 a0 a1 I J (0, (u2 (u2 (u2 I 128 2 0) 128 1 (-1)) 128 0 0))).2)) (eJ f J) R n g
    exact w_vret ok fin dX3_begin_69 rfl (by unfold FI_X3_begin; exact Pd.i)
  · intro n17 s17 hs17 kc17 kx17
    show WK K 0 0 17 [(0, .ref 128), (1, .ref a0), (2, .int a1), (3, .int s17.1)] [] (eI f s17.2) (eJ f J) R n g
    refine w_iload_n ok dX3_begin_17 3 rfl ?_
    refine w_iload_n ok dX3_begin_18 2 rfl ?_
    refine w_icmp_ge (tgt := 69) ok dX3_begin_19 (by decide) (fun c1 => ?_) (fun c1 => ?_)
    · skip
      have eB : B_X3_begin_w17 a0 a1 I J s17 = .inr (s17.1, s17.2) := by
        unfold B_X3_begin_w17; exact (if_pos c1).trans (rfl)
      refine w_loc [0, 1, 2, 3] rfl ?_
      have kk := kx17 _ eB
      exact kk
    · skip
      refine w_aload_n ok dX3_begin_22 0 rfl ?_
      refine y_getI ok dX3_begin_23 (fX3_18 rfl) (congrArg Prod.fst s_128) rfl (ltK hnn (by decide)) (sdc hf (by decide)) ?_
      refine w_iconst (v := 4) ok dX3_begin_26 (by decide) ?_
      refine w_icmp_ge (tgt := 69) ok dX3_begin_27 (by decide) (fun c2 => ?_) (fun c2 => ?_)
      · skip
        have eB : B_X3_begin_w17 a0 a1 I J s17 = .inr (s17.1, s17.2) := by
          unfold B_X3_begin_w17; exact (if_neg c1).trans ((if_pos c2).trans (rfl))
        refine w_loc [0, 1, 2, 3] rfl ?_
        have kk := kx17 _ eB
        exact kk
      · skip
        refine w_aload_n ok dX3_begin_30 1 rfl ?_
        refine w_getR ok dX3_begin_31 (fX3_25 rfl) (congrArg Prod.fst (sSc ha0)) rfl (rSc_8 ha0 ro) (ltK hnn (nSc ha0)) ?_
        refine w_iload_n ok dX3_begin_34 3 rfl ?_
        refine w_cS (As := [.ref (a0 + 2), .int s17.1]) ok dX3_begin_35 iX11_at (lX3_30 rfl) (c_at (sSc_8 ha0) (ltK hnn (nSc_8 ha0)) (sdc hf (nSc_8 ha0)) s17.1) (by decide) rfl (Nat.le_of_ble_eq_true rfl) ?_
        refine w_if_ne (tgt := 63) ok dX3_begin_38 (by decide) (fun c3 => ?_) (fun c3 => ?_)
        · skip
          refine w_iinc (v := s17.1 + 1) ok dX3_begin_63 3 rfl rfl (by decide) rfl ?_
          refine w_goto (tgt := 17) ok dX3_begin_66 (by decide) ?_
          have eB : B_X3_begin_w17 a0 a1 I J s17 = .inl ((s17.1 + 1), s17.2) := by
            unfold B_X3_begin_w17; exact (if_neg c1).trans ((if_neg c2).trans ((if_neg c3).trans (rfl)))
          refine w_loc [1, 2, 3, 0] rfl ?_
          have kk := kc17 _ eB
          exact kk
        · skip
          refine w_aload_n ok dX3_begin_41 0 rfl ?_
          refine w_getR ok dX3_begin_42 (fX3_21 rfl) (congrArg Prod.fst s_128) rfl (r_128_3 ro) (ltK hnn (by decide)) ?_
          refine w_aload_n ok dX3_begin_45 0 rfl ?_
          refine y_getI ok dX3_begin_46 (fX3_18 rfl) (congrArg Prod.fst s_128) rfl (ltK hnn (by decide)) (sdc hf (by decide)) ?_
          refine w_iload_n ok dX3_begin_49 3 rfl ?_
          refine w_cS (As := [.ref 129, .int (s17.2 128 2), .int s17.1]) ok dX3_begin_50 iX11_put (lX3_34 rfl) (c_put s_129 (ltK hnn (by decide)) (sdc hf (by decide)) (s17.2 128 2) s17.1) (by decide) rfl (Nat.le_of_ble_eq_true rfl) ?_
          refine w_aload_n ok dX3_begin_53 0 rfl ?_
          refine w_dup ok dX3_begin_54 rfl ?_
          refine y_getI ok dX3_begin_55 (fX3_18 rfl) (congrArg Prod.fst s_128) rfl (ltK hnn (by decide)) (sdc hf (by decide)) ?_
          refine w_iconst (v := 1) ok dX3_begin_58 (by decide) ?_
          refine w_iadd ok dX3_begin_59 ?_
          refine y_putI ok dX3_begin_60 (fwX3_18 rfl) (congrArg Prod.fst s_128) rfl (ltK hnn (by decide)) (sdc hf (by decide)) ?_
          show WK K 0 0 63 [(0, .ref 128), (1, .ref a0), (2, .int a1), (3, .int s17.1)] [] (eI f (S1_X3_begin a0 a1 I J s17)) (eJ f J) R n g
          refine w_iinc (v := s17.1 + 1) ok dX3_begin_63 3 rfl rfl (by decide) rfl ?_
          refine w_goto (tgt := 17) ok dX3_begin_66 (by decide) ?_
          have eB : B_X3_begin_w17 a0 a1 I J s17 = .inl ((s17.1 + 1), (S1_X3_begin a0 a1 I J s17)) := by
            unfold B_X3_begin_w17; exact (if_neg c1).trans ((if_neg c2).trans ((if_pos c3).trans (rfl)))
          refine w_loc [1, 2, 3, 0] rfl ?_
          have kk := kc17 _ eB
          exact kk
def F_X3_pick (a0 : Int32) (a1 : Int32) (I : SI) (J : SJ) : Int32 := (a0 >>> (((2 : Int32) * ((3 : Int32) - a1)) &&& 31)) &&& 3
set_option maxHeartbeats 1000000 in
set_option maxRecDepth 40000 in
theorem c_X3_pick {I : SI} {J : SJ} {R : SR} {n g : Nat} {f : Fr} (ro : RO R) (hnn : nK ≤ n) (hf : f.1 = true) (a0 : Int32) (a1 : Int32)   : MM 0 0 0 mX3_pick [.int a0, .int a1] (eI f I) (eJ f J) R n g (Pd (some (.int (F_X3_pick a0 a1 I J))) (eI f I) (eJ f J) R n g) := by
  refine MM.of (by decide) (Nat.le_of_ble_eq_true rfl) fun K ok fin => ?_
  show WK K 0 0 0 [(0, .int a0), (1, .int a1)] [] (eI f I) (eJ f J) R n g
  refine w_iload_n ok dX3_pick_0 0 rfl ?_
  refine w_iconst (v := 2) ok dX3_pick_1 (by decide) ?_
  refine w_iconst (v := 3) ok dX3_pick_2 (by decide) ?_
  refine w_iload_n ok dX3_pick_3 1 rfl ?_
  refine w_isub ok dX3_pick_4 ?_
  refine w_imul ok dX3_pick_5 ?_
  refine w_ishr ok dX3_pick_6 ?_
  refine w_iconst (v := 3) ok dX3_pick_7 (by decide) ?_
  refine w_iand ok dX3_pick_8 ?_
  exact w_iret ok fin dX3_pick_9 rfl (by unfold F_X3_pick; exact Pd.i)
def B_X3_isRow_l4 (a0 : Int32) (I : SI) (J : SJ) (i4 : Nat) (s4 : Int32) : (Int32) ⊕ (Int32) := if ((s4 >>> ((F_X3_pick a0 (nI i4) I J) &&& 31)) &&& 1) = 0 then (if (nI i4) < (I 128 2) then .inl (s4 ||| ((1 : Int32) <<< ((F_X3_pick a0 (nI i4) I J) &&& 31))) else (if (F_X3_pick a0 (nI i4) I J) = (nI i4) then .inl (s4 ||| ((1 : Int32) <<< ((F_X3_pick a0 (nI i4) I J) &&& 31))) else .inr 0)) else .inr 0
def F_X3_isRow_l4 (a0 : Int32) (I : SI) (J : SJ) (s0 : Int32) : (Int32) ⊕ (Int32) := itE (B_X3_isRow_l4 a0 I J) (4) 0 s0
def F_X3_isRow (a0 : Int32) (I : SI) (J : SJ) : Int32 := (match (F_X3_isRow_l4 a0 I J 0) with | .inl se4 => 1 | .inr re4 => re4)
set_option maxHeartbeats 1000000 in
set_option maxRecDepth 40000 in
theorem c_X3_isRow {I : SI} {J : SJ} {R : SR} {n g : Nat} {f : Fr} (ro : RO R) (hnn : nK ≤ n) (hf : f.1 = true) (a0 : Int32)   : MM 1 0 0 mX3_isRow [.ref 128, .int a0] (eI f I) (eJ f J) R n g (Pd (some (.int (F_X3_isRow a0 I J))) (eI f I) (eJ f J) R n g) := by
  refine MM.of (by decide) (Nat.le_of_ble_eq_true rfl) fun K ok fin => ?_
  show WK K 0 0 0 [(0, .ref 128), (1, .int a0)] [] (eI f I) (eJ f J) R n g
  refine w_iconst (v := 0) ok dX3_isRow_0 (by decide) ?_
  refine w_istore_n ok dX3_isRow_1 rfl (by decide) rfl ?_
  refine w_iconst (v := 0) ok dX3_isRow_2 (by decide) ?_
  refine w_istore_n ok dX3_isRow_3 rfl (by decide) rfl ?_
  refine w_loc [2, 3, 1, 0] rfl ?_
  refine loop_e (σ := Int32) (ρ := Int32) (fun (i4 : Nat) (s4 : Int32) => WK K 0 0 4 [(0, .ref 128), (1, .int a0), (2, .int s4), (3, .int (nI i4))] [] (eI f I) (eJ f J) R n g) (B_X3_isRow_l4 a0 I J) (4) (0) ?_ ?_
  · intro se4 he4
    have he4 : (F_X3_isRow_l4 a0 I J 0) = .inl se4 := he4
    show WK K 0 0 4 [(0, .ref 128), (1, .int a0), (2, .int se4), (3, .int (nI 4))] [] (eI f I) (eJ f J) R n g
    have e1 : (4 : Int32) ≤ (nI 4) := (show nI 4 ≤ nI 4 from nI_le (by omega) (by decide))
    refine w_iload_n ok dX3_isRow_4 3 rfl ?_
    refine w_iconst (v := 4) ok dX3_isRow_5 (by decide) ?_
    refine w_icmp_ge (tgt := 54) ok dX3_isRow_6 (by decide) (fun _ => ?_) (fun h => absurd e1 h)
    refine w_iconst (v := 1) ok dX3_isRow_54 (by decide) ?_
    exact w_zret ok fin dX3_isRow_55 rfl (by decide) (by unfold F_X3_isRow; simp only [he4]; exact Pd.i)
  · intro i4 s4 hi4 hs4 k4 kr4
    show WK K 0 0 4 [(0, .ref 128), (1, .int a0), (2, .int s4), (3, .int (nI i4))] [] (eI f I) (eJ f J) R n g
    have e2 : ¬ ((4 : Int32) ≤ (nI i4)) := (show ¬ (nI 4 ≤ nI i4) from nI_ge (by omega) (by decide))
    refine w_iload_n ok dX3_isRow_4 3 rfl ?_
    refine w_iconst (v := 4) ok dX3_isRow_5 (by decide) ?_
    refine w_icmp_ge (tgt := 54) ok dX3_isRow_6 (by decide) (fun h => absurd h e2) (fun _ => ?_)
    refine w_iload_n ok dX3_isRow_9 1 rfl ?_
    refine w_iload_n ok dX3_isRow_10 3 rfl ?_
    refine w_cS (As := [.int a0, .int (nI i4)]) ok dX3_isRow_11 iX3_pick (lX3_38 rfl) (c_X3_pick ro hnn hf a0 (nI i4) ) (by decide) rfl (Nat.le_of_ble_eq_true rfl) ?_
    refine w_istore ok dX3_isRow_14 (by decide) rfl ?_
    refine w_iload_n ok dX3_isRow_16 3 rfl ?_
    refine w_iload ok dX3_isRow_17 0 rfl ?_
    refine w_ishr ok dX3_isRow_19 ?_
    refine w_iconst (v := 1) ok dX3_isRow_20 (by decide) ?_
    refine w_iand ok dX3_isRow_21 ?_
    refine w_if_ne (tgt := 39) ok dX3_isRow_22 (by decide) (fun c3 => ?_) (fun c3 => ?_)
    · skip
      refine w_iconst (v := 0) ok dX3_isRow_39 (by decide) ?_
      have eB : B_X3_isRow_l4 a0 I J i4 s4 = .inr 0 := by
        unfold B_X3_isRow_l4; exact (if_neg c3).trans (rfl)
      have hr : (F_X3_isRow_l4 a0 I J 0) = .inr 0 := kr4 _ eB
      exact w_zret ok fin dX3_isRow_40 rfl (by decide) (by unfold F_X3_isRow; simp only [hr]; exact Pd.i)
    · skip
      refine w_iload_n ok dX3_isRow_25 4 rfl ?_
      refine w_aload_n ok dX3_isRow_26 1 rfl ?_
      refine y_getI ok dX3_isRow_27 (fX3_18 rfl) (congrArg Prod.fst s_128) rfl (ltK hnn (by decide)) (sdc hf (by decide)) ?_
      refine w_icmp_lt (tgt := 41) ok dX3_isRow_30 (by decide) (fun c4 => ?_) (fun c4 => ?_)
      · skip
        refine w_iload_n ok dX3_isRow_41 3 rfl ?_
        refine w_iconst (v := 1) ok dX3_isRow_42 (by decide) ?_
        refine w_iload ok dX3_isRow_43 0 rfl ?_
        refine w_ishl ok dX3_isRow_45 ?_
        refine w_ior ok dX3_isRow_46 ?_
        refine w_istore_n ok dX3_isRow_47 rfl (by decide) rfl ?_
        refine w_iinc (v := (nI i4) + 1) ok dX3_isRow_48 4 rfl rfl (by decide) rfl ?_
        refine w_goto (tgt := 4) ok dX3_isRow_51 (by decide) ?_
        have eB : B_X3_isRow_l4 a0 I J i4 s4 = .inl (s4 ||| ((1 : Int32) <<< ((F_X3_pick a0 (nI i4) I J) &&& 31))) := by
          unfold B_X3_isRow_l4; exact (if_pos c3).trans ((if_pos c4).trans (rfl))
        have kk := k4 _ eB
        refine w_loc [3, 4, 1, 0] rfl ?_
        rw [nI_1 i4]
        exact kk
      · skip
        refine w_iload ok dX3_isRow_33 0 rfl ?_
        refine w_iload_n ok dX3_isRow_35 4 rfl ?_
        refine w_icmp_eq (tgt := 41) ok dX3_isRow_36 (by decide) (fun c5 => ?_) (fun c5 => ?_)
        · skip
          refine w_iload_n ok dX3_isRow_41 3 rfl ?_
          refine w_iconst (v := 1) ok dX3_isRow_42 (by decide) ?_
          refine w_iload ok dX3_isRow_43 0 rfl ?_
          refine w_ishl ok dX3_isRow_45 ?_
          refine w_ior ok dX3_isRow_46 ?_
          refine w_istore_n ok dX3_isRow_47 rfl (by decide) rfl ?_
          refine w_iinc (v := (nI i4) + 1) ok dX3_isRow_48 4 rfl rfl (by decide) rfl ?_
          refine w_goto (tgt := 4) ok dX3_isRow_51 (by decide) ?_
          have eB : B_X3_isRow_l4 a0 I J i4 s4 = .inl (s4 ||| ((1 : Int32) <<< ((F_X3_pick a0 (nI i4) I J) &&& 31))) := by
            unfold B_X3_isRow_l4; exact (if_pos c3).trans ((if_neg c4).trans ((if_pos c5).trans (rfl)))
          have kk := k4 _ eB
          refine w_loc [3, 4, 1, 0] rfl ?_
          rw [nI_1 i4]
          exact kk
        · skip
          refine w_iconst (v := 0) ok dX3_isRow_39 (by decide) ?_
          have eB : B_X3_isRow_l4 a0 I J i4 s4 = .inr 0 := by
            unfold B_X3_isRow_l4; exact (if_pos c3).trans ((if_neg c4).trans ((if_neg c5).trans (rfl)))
          have hr : (F_X3_isRow_l4 a0 I J 0) = .inr 0 := kr4 _ eB
          exact w_zret ok fin dX3_isRow_40 rfl (by decide) (by unfold F_X3_isRow; simp only [hr]; exact Pd.i)
def S1_X3_putDays (a0 : Int32) (a1 : Nat) (I : SI) (J : SJ) (s2 : Int32 × SI) : SI := putF s2.2 (a1 + 1) 8 (atF (s2.2 129) 4 (F_X3_pick a0 s2.1 s2.2 J)) ((s2.2 a1 0) + s2.1)
def B_X3_putDays_w2 (a0 : Int32) (a1 : Nat) (I : SI) (J : SJ) (s2 : Int32 × SI) : (Int32 × SI) ⊕ (Int32 × SI) := if (s2.2 128 2) ≤ s2.1 then .inr (s2.1, s2.2) else .inl ((s2.1 + 1), (S1_X3_putDays a0 a1 I J s2))
def F_X3_putDays_w2 (a0 : Int32) (a1 : Nat) (I : SI) (J : SJ) (s0 : Int32 × SI) : Int32 × SI := (itW (B_X3_putDays_w2 a0 a1 I J) 800 s0).getD s0
def FI_X3_putDays (a0 : Int32) (a1 : Nat) (I : SI) (J : SJ) : SI := (F_X3_putDays_w2 a0 a1 I J (0, I)).2
def H_X3_putDays (a0 : Int32) (a1 : Nat) (I : SI) (J : SJ) : Prop := ((itW (B_X3_putDays_w2 a0 a1 I J) 800 (0, I)).isSome = true)
set_option maxHeartbeats 1000000 in
set_option maxRecDepth 40000 in
theorem c_X3_putDays {I : SI} {J : SJ} {R : SR} {n g : Nat} {f : Fr} (ro : RO R) (hnn : nK ≤ n) (hf : f.1 = true) (a0 : Int32) {a1 : Nat} (ha1 : IsSc a1)  (hp : H_X3_putDays a0 a1 I J) : MM 1 0 0 mX3_putDays [.ref 128, .int a0, .ref a1] (eI f I) (eJ f J) R n g (Pd none (eI f (FI_X3_putDays a0 a1 I J)) (eJ f J) R n g) := by
  refine MM.of (by decide) (Nat.le_of_ble_eq_true rfl) fun K ok fin => ?_
  show WK K 0 0 0 [(0, .ref 128), (1, .int a0), (2, .ref a1)] [] (eI f I) (eJ f J) R n g
  have hp1 := hp
  refine w_iconst (v := 0) ok dX3_putDays_0 (by decide) ?_
  refine w_istore_n ok dX3_putDays_1 rfl (by decide) rfl ?_
  refine w_loc [1, 2, 3, 0] rfl ?_
  refine loop_w (fun (s2 : Int32 × SI) => WK K 0 0 2 [(0, .ref 128), (1, .int a0), (2, .ref a1), (3, .int s2.1)] [] (eI f s2.2) (eJ f J) R n g) (fun (s2 : Int32 × SI) => WK K 0 0 41 [(0, .ref 128), (1, .int a0), (2, .ref a1), (3, .int s2.1)] [] (eI f s2.2) (eJ f J) R n g) (B_X3_putDays_w2 a0 a1 I J) 800 (0, I) (F_X3_putDays_w2 a0 a1 I J (0, I)) (itW_some (hp1)) ?_ ?_
  · show WK K 0 0 41 [(0, .ref 128), (1, .int a0), (2, .ref a1), (3, .int ((F_X3_putDays_w2 a0 a1 I J (0, I)).1))] [] (eI f ((F_X3_putDays_w2 a0 a1 I J (0, I)).2)) (eJ f J) R n g
    exact w_vret ok fin dX3_putDays_41 rfl (by unfold FI_X3_putDays; exact Pd.i)
  · intro n2 s2 hs2 kc2 kx2
    show WK K 0 0 2 [(0, .ref 128), (1, .int a0), (2, .ref a1), (3, .int s2.1)] [] (eI f s2.2) (eJ f J) R n g
    refine w_iload_n ok dX3_putDays_2 3 rfl ?_
    refine w_aload_n ok dX3_putDays_3 0 rfl ?_
    refine y_getI ok dX3_putDays_4 (fX3_18 rfl) (congrArg Prod.fst s_128) rfl (ltK hnn (by decide)) (sdc hf (by decide)) ?_
    refine w_icmp_ge (tgt := 41) ok dX3_putDays_7 (by decide) (fun c1 => ?_) (fun c1 => ?_)
    · skip
      have eB : B_X3_putDays_w2 a0 a1 I J s2 = .inr (s2.1, s2.2) := by
        unfold B_X3_putDays_w2; exact (if_pos c1).trans (rfl)
      refine w_loc [0, 1, 2, 3] rfl ?_
      have kk := kx2 _ eB
      exact kk
    · skip
      refine w_aload_n ok dX3_putDays_10 2 rfl ?_
      refine w_getR ok dX3_putDays_11 (fX3_42 rfl) (congrArg Prod.fst (sSc ha1)) rfl (rSc_7 ha1 ro) (ltK hnn (nSc ha1)) ?_
      refine w_aload_n ok dX3_putDays_14 0 rfl ?_
      refine w_getR ok dX3_putDays_15 (fX3_21 rfl) (congrArg Prod.fst s_128) rfl (r_128_3 ro) (ltK hnn (by decide)) ?_
      refine w_iload_n ok dX3_putDays_18 1 rfl ?_
      refine w_iload_n ok dX3_putDays_19 3 rfl ?_
      refine w_cS (As := [.int a0, .int s2.1]) ok dX3_putDays_20 iX3_pick (lX3_38 rfl) (c_X3_pick ro hnn hf a0 s2.1 ) (by decide) rfl (Nat.le_of_ble_eq_true rfl) ?_
      show WK K 0 0 23 [(0, .ref 128), (1, .int a0), (2, .ref a1), (3, .int s2.1)] [.int (F_X3_pick a0 s2.1 s2.2 J), .ref 129, .ref (a1 + 1)] (eI f s2.2) (eJ f J) R n g
      refine w_cS (As := [.ref 129, .int (F_X3_pick a0 s2.1 s2.2 J)]) ok dX3_putDays_23 iX11_at (lX3_30 rfl) (c_at s_129 (ltK hnn (by decide)) (sdc hf (by decide)) (F_X3_pick a0 s2.1 s2.2 J)) (by decide) rfl (Nat.le_of_ble_eq_true rfl) ?_
      show WK K 0 0 26 [(0, .ref 128), (1, .int a0), (2, .ref a1), (3, .int s2.1)] [.int (atF (s2.2 129) 4 (F_X3_pick a0 s2.1 s2.2 J)), .ref (a1 + 1)] (eI f s2.2) (eJ f J) R n g
      refine w_aload_n ok dX3_putDays_26 2 rfl ?_
      refine y_getI ok dX3_putDays_27 (fX3_45 rfl) (congrArg Prod.fst (sSc ha1)) rfl (ltK hnn (nSc ha1)) (sdc hf (nSc ha1)) ?_
      refine w_iload_n ok dX3_putDays_30 3 rfl ?_
      refine w_iadd ok dX3_putDays_31 ?_
      refine w_cS (As := [.ref (a1 + 1), .int (atF (s2.2 129) 4 (F_X3_pick a0 s2.1 s2.2 J)), .int ((s2.2 a1 0) + s2.1)]) ok dX3_putDays_32 iX11_put (lX3_34 rfl) (c_put (sSc_7 ha1) (ltK hnn (nSc_7 ha1)) (sdc hf (nSc_7 ha1)) (atF (s2.2 129) 4 (F_X3_pick a0 s2.1 s2.2 J)) ((s2.2 a1 0) + s2.1)) (by decide) rfl (Nat.le_of_ble_eq_true rfl) ?_
      show WK K 0 0 35 [(0, .ref 128), (1, .int a0), (2, .ref a1), (3, .int s2.1)] [] (eI f (S1_X3_putDays a0 a1 I J s2)) (eJ f J) R n g
      refine w_iinc (v := s2.1 + 1) ok dX3_putDays_35 3 rfl rfl (by decide) rfl ?_
      refine w_goto (tgt := 2) ok dX3_putDays_38 (by decide) ?_
      have eB : B_X3_putDays_w2 a0 a1 I J s2 = .inl ((s2.1 + 1), (S1_X3_putDays a0 a1 I J s2)) := by
        unfold B_X3_putDays_w2; exact (if_neg c1).trans (rfl)
      refine w_loc [1, 2, 3, 0] rfl ?_
      have kk := kc2 _ eB
      exact kk
def FI_X3_weigh (a0 : Int32) (a1 : Int32) (I : SI) (J : SJ) : SI := if (I 128 1) < 0 then u2 (u2 I 128 1 a0) 128 0 a1 else (if (I 128 0) ≤ a1 then I else u2 (u2 I 128 1 a0) 128 0 a1)
set_option maxHeartbeats 1000000 in
set_option maxRecDepth 40000 in
theorem c_X3_weigh {I : SI} {J : SJ} {R : SR} {n g : Nat} {f : Fr} (ro : RO R) (hnn : nK ≤ n) (hf : f.1 = true) (a0 : Int32) (a1 : Int32)   : MM 0 0 0 mX3_weigh [.ref 128, .int a0, .int a1] (eI f I) (eJ f J) R n g (Pd none (eI f (FI_X3_weigh a0 a1 I J)) (eJ f J) R n g) := by
  refine MM.of (by decide) (Nat.le_of_ble_eq_true rfl) fun K ok fin => ?_
  show WK K 0 0 0 [(0, .ref 128), (1, .int a0), (2, .int a1)] [] (eI f I) (eJ f J) R n g
  refine w_aload_n ok dX3_weigh_0 0 rfl ?_
  refine y_getI ok dX3_weigh_1 (fX3_15 rfl) (congrArg Prod.fst s_128) rfl (ltK hnn (by decide)) (sdc hf (by decide)) ?_
  refine w_if_lt (tgt := 15) ok dX3_weigh_4 (by decide) (fun c1 => ?_) (fun c1 => ?_)
  · skip
    refine w_aload_n ok dX3_weigh_15 0 rfl ?_
    refine w_iload_n ok dX3_weigh_16 1 rfl ?_
    refine y_putI ok dX3_weigh_17 (fwX3_15 rfl) (congrArg Prod.fst s_128) rfl (ltK hnn (by decide)) (sdc hf (by decide)) ?_
    refine w_aload_n ok dX3_weigh_20 0 rfl ?_
    refine w_iload_n ok dX3_weigh_21 2 rfl ?_
    refine y_putI ok dX3_weigh_22 (fwX3_9 rfl) (congrArg Prod.fst s_128) rfl (ltK hnn (by decide)) (sdc hf (by decide)) ?_
    exact w_vret ok fin dX3_weigh_25 rfl (by unfold FI_X3_weigh; simp only [if_pos c1]; exact Pd.i)
  · skip
    refine w_iload_n ok dX3_weigh_7 2 rfl ?_
    refine w_aload_n ok dX3_weigh_8 0 rfl ?_
    refine y_getI ok dX3_weigh_9 (fX3_9 rfl) (congrArg Prod.fst s_128) rfl (ltK hnn (by decide)) (sdc hf (by decide)) ?_
    refine w_icmp_ge (tgt := 25) ok dX3_weigh_12 (by decide) (fun c2 => ?_) (fun c2 => ?_)
    · skip
      exact w_vret ok fin dX3_weigh_25 rfl (by unfold FI_X3_weigh; simp only [if_neg c1]; simp only [if_pos c2]; exact Pd.i)
    · skip
      refine w_aload_n ok dX3_weigh_15 0 rfl ?_
      refine w_iload_n ok dX3_weigh_16 1 rfl ?_
      refine y_putI ok dX3_weigh_17 (fwX3_15 rfl) (congrArg Prod.fst s_128) rfl (ltK hnn (by decide)) (sdc hf (by decide)) ?_
      refine w_aload_n ok dX3_weigh_20 0 rfl ?_
      refine w_iload_n ok dX3_weigh_21 2 rfl ?_
      refine y_putI ok dX3_weigh_22 (fwX3_9 rfl) (congrArg Prod.fst s_128) rfl (ltK hnn (by decide)) (sdc hf (by decide)) ?_
      exact w_vret ok fin dX3_weigh_25 rfl (by unfold FI_X3_weigh; simp only [if_neg c1]; simp only [if_neg c2]; exact Pd.i)
def F_X3_shotAt (a0 : Int32) (I : SI) (J : SJ) : Int32 := if (I 128 2) ≤ a0 then -2 else atF (I 129) 4 (F_X3_pick (I 128 1) a0 I J)
set_option maxHeartbeats 1000000 in
set_option maxRecDepth 40000 in
theorem c_X3_shotAt {I : SI} {J : SJ} {R : SR} {n g : Nat} {f : Fr} (ro : RO R) (hnn : nK ≤ n) (hf : f.1 = true) (a0 : Int32)   : MM 1 0 0 mX3_shotAt [.ref 128, .int a0] (eI f I) (eJ f J) R n g (Pd (some (.int (F_X3_shotAt a0 I J))) (eI f I) (eJ f J) R n g) := by
  refine MM.of (by decide) (Nat.le_of_ble_eq_true rfl) fun K ok fin => ?_
  show WK K 0 0 0 [(0, .ref 128), (1, .int a0)] [] (eI f I) (eJ f J) R n g
  refine w_iload_n ok dX3_shotAt_0 1 rfl ?_
  refine w_aload_n ok dX3_shotAt_1 0 rfl ?_
  refine y_getI ok dX3_shotAt_2 (fX3_18 rfl) (congrArg Prod.fst s_128) rfl (ltK hnn (by decide)) (sdc hf (by decide)) ?_
  refine w_icmp_ge (tgt := 26) ok dX3_shotAt_5 (by decide) (fun c1 => ?_) (fun c1 => ?_)
  · skip
    refine w_bipush (v := (-2)) ok dX3_shotAt_26 (by decide) ?_
    exact w_iret ok fin dX3_shotAt_28 rfl (by unfold F_X3_shotAt; simp only [if_pos c1]; exact Pd.i)
  · skip
    refine w_aload_n ok dX3_shotAt_8 0 rfl ?_
    refine w_getR ok dX3_shotAt_9 (fX3_21 rfl) (congrArg Prod.fst s_128) rfl (r_128_3 ro) (ltK hnn (by decide)) ?_
    refine w_aload_n ok dX3_shotAt_12 0 rfl ?_
    refine y_getI ok dX3_shotAt_13 (fX3_15 rfl) (congrArg Prod.fst s_128) rfl (ltK hnn (by decide)) (sdc hf (by decide)) ?_
    refine w_iload_n ok dX3_shotAt_16 1 rfl ?_
    refine w_cS (As := [.int (I 128 1), .int a0]) ok dX3_shotAt_17 iX3_pick (lX3_38 rfl) (c_X3_pick ro hnn hf (I 128 1) a0 ) (by decide) rfl (Nat.le_of_ble_eq_true rfl) ?_
    show WK K 0 0 20 [(0, .ref 128), (1, .int a0)] [.int (F_X3_pick (I 128 1) a0 I J), .ref 129] (eI f I) (eJ f J) R n g
    refine w_cS (As := [.ref 129, .int (F_X3_pick (I 128 1) a0 I J)]) ok dX3_shotAt_20 iX11_at (lX3_30 rfl) (c_at s_129 (ltK hnn (by decide)) (sdc hf (by decide)) (F_X3_pick (I 128 1) a0 I J)) (by decide) rfl (Nat.le_of_ble_eq_true rfl) ?_
    refine w_goto (tgt := 28) ok dX3_shotAt_23 (by decide) ?_
    exact w_iret ok fin dX3_shotAt_28 rfl (by unfold F_X3_shotAt; simp only [if_neg c1]; exact Pd.i)
def FI_X4_fail (a0 : Int32) (I : SI) (J : SJ) : SI := if (I 41 1) = 0 then u2 (u2 (u2 I 41 1 a0) 41 2 ((u2 I 41 1 a0) 81 7)) 81 4 1 else I
set_option maxHeartbeats 1000000 in
set_option maxRecDepth 40000 in
theorem c_X4_fail {I : SI} {J : SJ} {R : SR} {n g : Nat} {f : Fr} (ro : RO R) (hnn : nK ≤ n) (hf : f.1 = true) (a0 : Int32)   : MM 0 0 0 mX4_fail [.ref 41, .int a0] (eI f I) (eJ f J) R n g (Pd none (eI f (FI_X4_fail a0 I J)) (eJ f J) R n g) := by
  refine MM.of (by decide) (Nat.le_of_ble_eq_true rfl) fun K ok fin => ?_
  show WK K 0 0 0 [(0, .ref 41), (1, .int a0)] [] (eI f I) (eJ f J) R n g
  refine w_aload_n ok dX4_fail_0 0 rfl ?_
  refine y_getI ok dX4_fail_1 (fX4_18 rfl) (congrArg Prod.fst s_41) rfl (ltK hnn (by decide)) (sdc hf (by decide)) ?_
  refine w_if_ne (tgt := 31) ok dX4_fail_4 (by decide) (fun c1 => ?_) (fun c1 => ?_)
  · skip
    exact w_vret ok fin dX4_fail_31 rfl (by unfold FI_X4_fail; simp only [if_neg c1]; exact Pd.i)
  · skip
    refine w_aload_n ok dX4_fail_7 0 rfl ?_
    refine w_iload_n ok dX4_fail_8 1 rfl ?_
    refine y_putI ok dX4_fail_9 (fwX4_18 rfl) (congrArg Prod.fst s_41) rfl (ltK hnn (by decide)) (sdc hf (by decide)) ?_
    refine w_aload_n ok dX4_fail_12 0 rfl ?_
    refine w_aload_n ok dX4_fail_13 0 rfl ?_
    refine w_getR ok dX4_fail_14 (fX4_28 rfl) (congrArg Prod.fst s_41) rfl (r_41_3 ro) (ltK hnn (by decide)) ?_
    refine y_getI ok dX4_fail_17 (fX4_71 rfl) (congrArg Prod.fst s_81) rfl (ltK hnn (by decide)) (sdc hf (by decide)) ?_
    refine y_putI ok dX4_fail_20 (fwX4_22 rfl) (congrArg Prod.fst s_41) rfl (ltK hnn (by decide)) (sdc hf (by decide)) ?_
    refine w_aload_n ok dX4_fail_23 0 rfl ?_
    refine w_getR ok dX4_fail_24 (fX4_28 rfl) (congrArg Prod.fst s_41) rfl (r_41_3 ro) (ltK hnn (by decide)) ?_
    refine w_iconst (v := 1) ok dX4_fail_27 (by decide) ?_
    refine y_putZ ok dX4_fail_28 (fwX4_72 rfl) (congrArg Prod.fst s_81) rfl (by decide) (ltK hnn (by decide)) (sdc hf (by decide)) ?_
    exact w_vret ok fin dX4_fail_31 rfl (by unfold FI_X4_fail; simp only [if_pos c1]; exact Pd.i)
def FI_X4_knot  (I : SI) (J : SJ) : SI := if (I 42 11) < 64 then u2 I 42 11 ((I 42 11) + 1) else FI_X4_fail 2 I J
set_option maxHeartbeats 1000000 in
set_option maxRecDepth 40000 in
theorem c_X4_knot {I : SI} {J : SJ} {R : SR} {n g : Nat} {f : Fr} (ro : RO R) (hnn : nK ≤ n) (hf : f.1 = true)    : MM 1 0 0 mX4_knot [.ref 41] (eI f I) (eJ f J) R n g (Pd none (eI f (FI_X4_knot  I J)) (eJ f J) R n g) := by
  refine MM.of (by decide) (Nat.le_of_ble_eq_true rfl) fun K ok fin => ?_
  show WK K 0 0 0 [(0, .ref 41)] [] (eI f I) (eJ f J) R n g
  refine w_aload_n ok dX4_knot_0 0 rfl ?_
  refine w_getR ok dX4_knot_1 (fX4_12 rfl) (congrArg Prod.fst s_41) rfl (r_41_0 ro) (ltK hnn (by decide)) ?_
  refine y_getI ok dX4_knot_4 (fX4_219 rfl) (congrArg Prod.fst s_42) rfl (ltK hnn (by decide)) (sdc hf (by decide)) ?_
  refine w_bipush (v := 64) ok dX4_knot_7 (by decide) ?_
  refine w_icmp_lt (tgt := 20) ok dX4_knot_9 (by decide) (fun c1 => ?_) (fun c1 => ?_)
  · skip
    refine w_aload_n ok dX4_knot_20 0 rfl ?_
    refine w_getR ok dX4_knot_21 (fX4_12 rfl) (congrArg Prod.fst s_41) rfl (r_41_0 ro) (ltK hnn (by decide)) ?_
    refine w_dup ok dX4_knot_24 rfl ?_
    refine y_getI ok dX4_knot_25 (fX4_219 rfl) (congrArg Prod.fst s_42) rfl (ltK hnn (by decide)) (sdc hf (by decide)) ?_
    refine w_iconst (v := 1) ok dX4_knot_28 (by decide) ?_
    refine w_iadd ok dX4_knot_29 ?_
    refine y_putI ok dX4_knot_30 (fwX4_219 rfl) (congrArg Prod.fst s_42) rfl (ltK hnn (by decide)) (sdc hf (by decide)) ?_
    exact w_vret ok fin dX4_knot_33 rfl (by unfold FI_X4_knot; simp only [if_pos c1]; exact Pd.i)
  · skip
    refine w_aload_n ok dX4_knot_12 0 rfl ?_
    refine w_iconst (v := 2) ok dX4_knot_13 (by decide) ?_
    refine w_cV (As := [.int 2]) ok dX4_knot_14 iX4_fail (lX4_58 rfl) (rcv cls4 (congrArg Prod.fst s_41)) (ltK hnn (by decide)) (c_X4_fail ro hnn hf 2 ) (by decide) rfl (Nat.le_of_ble_eq_true rfl) ?_
    refine w_goto (tgt := 33) ok dX4_knot_17 (by decide) ?_
    exact w_vret ok fin dX4_knot_33 rfl (by unfold FI_X4_knot; simp only [if_neg c1]; exact Pd.i)
def F_X4_topRank  (I : SI) (J : SJ) : Int32 := if (I 41 6) ≤ 0 then 0 else (if (72 : Int32) < (I 41 6) then 0 else I 85 ((I 41 6) - 1).toNatClampNeg)
def H_X4_topRank  (I : SI) (J : SJ) : Prop := (¬ ((I 41 6) ≤ 0) → ¬ ((72 : Int32) < (I 41 6)) → inR ((I 41 6) - 1) 72)
set_option maxHeartbeats 1000000 in
set_option maxRecDepth 40000 in
theorem c_X4_topRank {I : SI} {J : SJ} {R : SR} {n g : Nat} {f : Fr} (ro : RO R) (hnn : nK ≤ n) (hf : f.1 = true)   (hp : H_X4_topRank  I J) : MM 0 0 0 mX4_topRank [.ref 41] (eI f I) (eJ f J) R n g (Pd (some (.int (F_X4_topRank  I J))) (eI f I) (eJ f J) R n g) := by
  refine MM.of (by decide) (Nat.le_of_ble_eq_true rfl) fun K ok fin => ?_
  show WK K 0 0 0 [(0, .ref 41)] [] (eI f I) (eJ f J) R n g
  have hp1 := hp
  refine w_aload_n ok dX4_topRank_0 0 rfl ?_
  refine y_getI ok dX4_topRank_1 (fX4_39 rfl) (congrArg Prod.fst s_41) rfl (ltK hnn (by decide)) (sdc hf (by decide)) ?_
  refine w_if_le (tgt := 33) ok dX4_topRank_4 (by decide) (fun c1 => ?_) (fun c1 => ?_)
  · skip
    refine w_iconst (v := 0) ok dX4_topRank_33 (by decide) ?_
    exact w_iret ok fin dX4_topRank_34 rfl (by unfold F_X4_topRank; simp only [if_pos c1]; exact Pd.i)
  · skip
    refine w_aload_n ok dX4_topRank_7 0 rfl ?_
    refine y_getI ok dX4_topRank_8 (fX4_39 rfl) (congrArg Prod.fst s_41) rfl (ltK hnn (by decide)) (sdc hf (by decide)) ?_
    refine w_aload_n ok dX4_topRank_11 0 rfl ?_
    refine w_getR ok dX4_topRank_12 (fX4_36 rfl) (congrArg Prod.fst s_41) rfl (r_41_5 ro) (ltK hnn (by decide)) ?_
    refine w_alen (v := 72) ok dX4_topRank_15 s_85 (by decide) (by decide) (ltK hnn (by decide)) ?_
    refine w_icmp_gt (tgt := 33) ok dX4_topRank_16 (by decide) (fun c2 => ?_) (fun c2 => ?_)
    · skip
      refine w_iconst (v := 0) ok dX4_topRank_33 (by decide) ?_
      exact w_iret ok fin dX4_topRank_34 rfl (by unfold F_X4_topRank; simp only [if_neg c1]; simp only [if_pos c2]; exact Pd.i)
    · skip
      refine w_aload_n ok dX4_topRank_19 0 rfl ?_
      refine w_getR ok dX4_topRank_20 (fX4_36 rfl) (congrArg Prod.fst s_41) rfl (r_41_5 ro) (ltK hnn (by decide)) ?_
      refine w_aload_n ok dX4_topRank_23 0 rfl ?_
      refine y_getI ok dX4_topRank_24 (fX4_39 rfl) (congrArg Prod.fst s_41) rfl (ltK hnn (by decide)) (sdc hf (by decide)) ?_
      refine w_iconst (v := 1) ok dX4_topRank_27 (by decide) ?_
      refine w_isub ok dX4_topRank_28 ?_
      refine y_iald (q := ((I 41 6) - 1).toNatClampNeg) ok dX4_topRank_29 s_85 (hp1 c1 c2) (by decide) (ltK hnn (by decide)) (sdc hf (by decide)) ?_
      refine w_goto (tgt := 34) ok dX4_topRank_30 (by decide) ?_
      exact w_iret ok fin dX4_topRank_34 rfl (by unfold F_X4_topRank; simp only [if_neg c1]; simp only [if_neg c2]; exact Pd.i)
def F_X4_rank (a0 : Int32) (I : SI) (J : SJ) : Int32 := if a0 = 7 then 5 else (if a0 = 8 then 5 else (if a0 = 9 then 6 else (if a0 = 10 then 6 else (if a0 = 11 then 4 else (if a0 = 12 then 4 else (if a0 = 13 then 4 else (if a0 = 14 then 4 else (if a0 = 15 then 4 else (if a0 = 16 then 4 else (if a0 = 17 then 0 else (if a0 = 18 then 0 else (if a0 = 19 then 0 else (if a0 = 20 then 0 else (if a0 = 21 then 0 else (if a0 = 22 then 0 else (if a0 = 23 then 0 else (if a0 = 24 then 0 else (if a0 = 25 then 0 else (if a0 = 26 then 0 else (if a0 = 27 then 0 else (if a0 = 28 then 0 else (if a0 = 29 then 0 else (if a0 = 30 then 0 else (if a0 = 31 then 0 else (if a0 = 32 then 0 else (if a0 = 33 then 1 else (if a0 = 34 then 2 else (if a0 = 35 then 3 else 0))))))))))))))))))))))))))))
set_option maxHeartbeats 2070000 in
set_option maxRecDepth 40000 in
theorem c_X4_rank {I : SI} {J : SJ} {R : SR} {n g : Nat} {f : Fr} (ro : RO R) (hnn : nK ≤ n) (hf : f.1 = true) (a0 : Int32)   : MM 0 0 0 mX4_rank [.int a0] (eI f I) (eJ f J) R n g (Pd (some (.int (F_X4_rank a0 I J))) (eI f I) (eJ f J) R n g) := by
  refine MM.of (by decide) (Nat.le_of_ble_eq_true rfl) fun K ok fin => ?_
  show WK K 0 0 0 [(0, .int a0)] [] (eI f I) (eJ f J) R n g
  refine w_iload_n ok dX4_rank_0 0 rfl ?_
  by_cases c1 : a0 = 7
  · skip
    refine w_tabIn (tgt := 140) (off := 139) ok dX4_rank_1 (by rw [c1]; decide) (by rw [c1]; decide) (by rw [c1]; rfl) (by decide) ?_
    refine w_iconst (v := 5) ok dX4_rank_140 (by decide) ?_
    exact w_iret ok fin dX4_rank_141 rfl (by unfold F_X4_rank; simp only [if_pos c1]; exact Pd.i)
  · skip
    by_cases c2 : a0 = 8
    · skip
      refine w_tabIn (tgt := 140) (off := 139) ok dX4_rank_1 (by rw [c2]; decide) (by rw [c2]; decide) (by rw [c2]; rfl) (by decide) ?_
      refine w_iconst (v := 5) ok dX4_rank_140 (by decide) ?_
      exact w_iret ok fin dX4_rank_141 rfl (by unfold F_X4_rank; simp only [if_neg c1]; simp only [if_pos c2]; exact Pd.i)
    · skip
      by_cases c3 : a0 = 9
      · skip
        refine w_tabIn (tgt := 142) (off := 141) ok dX4_rank_1 (by rw [c3]; decide) (by rw [c3]; decide) (by rw [c3]; rfl) (by decide) ?_
        refine w_bipush (v := 6) ok dX4_rank_142 (by decide) ?_
        exact w_iret ok fin dX4_rank_144 rfl (by unfold F_X4_rank; simp only [if_neg c1]; simp only [if_neg c2]; simp only [if_pos c3]; exact Pd.i)
      · skip
        by_cases c4 : a0 = 10
        · skip
          refine w_tabIn (tgt := 142) (off := 141) ok dX4_rank_1 (by rw [c4]; decide) (by rw [c4]; decide) (by rw [c4]; rfl) (by decide) ?_
          refine w_bipush (v := 6) ok dX4_rank_142 (by decide) ?_
          exact w_iret ok fin dX4_rank_144 rfl (by unfold F_X4_rank; simp only [if_neg c1]; simp only [if_neg c2]; simp only [if_neg c3]; simp only [if_pos c4]; exact Pd.i)
        · skip
          by_cases c5 : a0 = 11
          · skip
            refine w_tabIn (tgt := 138) (off := 137) ok dX4_rank_1 (by rw [c5]; decide) (by rw [c5]; decide) (by rw [c5]; rfl) (by decide) ?_
            refine w_iconst (v := 4) ok dX4_rank_138 (by decide) ?_
            exact w_iret ok fin dX4_rank_139 rfl (by unfold F_X4_rank; simp only [if_neg c1]; simp only [if_neg c2]; simp only [if_neg c3]; simp only [if_neg c4]; simp only [if_pos c5]; exact Pd.i)
          · skip
            by_cases c6 : a0 = 12
            · skip
              refine w_tabIn (tgt := 138) (off := 137) ok dX4_rank_1 (by rw [c6]; decide) (by rw [c6]; decide) (by rw [c6]; rfl) (by decide) ?_
              refine w_iconst (v := 4) ok dX4_rank_138 (by decide) ?_
              exact w_iret ok fin dX4_rank_139 rfl (by unfold F_X4_rank; simp only [if_neg c1]; simp only [if_neg c2]; simp only [if_neg c3]; simp only [if_neg c4]; simp only [if_neg c5]; simp only [if_pos c6]; exact Pd.i)
            · skip
              by_cases c7 : a0 = 13
              · skip
                refine w_tabIn (tgt := 138) (off := 137) ok dX4_rank_1 (by rw [c7]; decide) (by rw [c7]; decide) (by rw [c7]; rfl) (by decide) ?_
                refine w_iconst (v := 4) ok dX4_rank_138 (by decide) ?_
                exact w_iret ok fin dX4_rank_139 rfl (by unfold F_X4_rank; simp only [if_neg c1]; simp only [if_neg c2]; simp only [if_neg c3]; simp only [if_neg c4]; simp only [if_neg c5]; simp only [if_neg c6]; simp only [if_pos c7]; exact Pd.i)
              · skip
                by_cases c8 : a0 = 14
                · skip
                  refine w_tabIn (tgt := 138) (off := 137) ok dX4_rank_1 (by rw [c8]; decide) (by rw [c8]; decide) (by rw [c8]; rfl) (by decide) ?_
                  refine w_iconst (v := 4) ok dX4_rank_138 (by decide) ?_
                  exact w_iret ok fin dX4_rank_139 rfl (by unfold F_X4_rank; simp only [if_neg c1]; simp only [if_neg c2]; simp only [if_neg c3]; simp only [if_neg c4]; simp only [if_neg c5]; simp only [if_neg c6]; simp only [if_neg c7]; simp only [if_pos c8]; exact Pd.i)
                · skip
                  by_cases c9 : a0 = 15
                  · skip
                    refine w_tabIn (tgt := 138) (off := 137) ok dX4_rank_1 (by rw [c9]; decide) (by rw [c9]; decide) (by rw [c9]; rfl) (by decide) ?_
                    refine w_iconst (v := 4) ok dX4_rank_138 (by decide) ?_
                    exact w_iret ok fin dX4_rank_139 rfl (by unfold F_X4_rank; simp only [if_neg c1]; simp only [if_neg c2]; simp only [if_neg c3]; simp only [if_neg c4]; simp only [if_neg c5]; simp only [if_neg c6]; simp only [if_neg c7]; simp only [if_neg c8]; simp only [if_pos c9]; exact Pd.i)
                  · skip
                    by_cases c10 : a0 = 16
                    · skip
                      refine w_tabIn (tgt := 138) (off := 137) ok dX4_rank_1 (by rw [c10]; decide) (by rw [c10]; decide) (by rw [c10]; rfl) (by decide) ?_
                      refine w_iconst (v := 4) ok dX4_rank_138 (by decide) ?_
                      exact w_iret ok fin dX4_rank_139 rfl (by unfold F_X4_rank; simp only [if_neg c1]; simp only [if_neg c2]; simp only [if_neg c3]; simp only [if_neg c4]; simp only [if_neg c5]; simp only [if_neg c6]; simp only [if_neg c7]; simp only [if_neg c8]; simp only [if_neg c9]; simp only [if_pos c10]; exact Pd.i)
                    · skip
                      by_cases c11 : a0 = 17
                      · skip
                        refine w_tabIn (tgt := 145) (off := 144) ok dX4_rank_1 (by rw [c11]; decide) (by rw [c11]; decide) (by rw [c11]; rfl) (by decide) ?_
                        refine w_iconst (v := 0) ok dX4_rank_145 (by decide) ?_
                        exact w_iret ok fin dX4_rank_146 rfl (by unfold F_X4_rank; simp only [if_neg c1]; simp only [if_neg c2]; simp only [if_neg c3]; simp only [if_neg c4]; simp only [if_neg c5]; simp only [if_neg c6]; simp only [if_neg c7]; simp only [if_neg c8]; simp only [if_neg c9]; simp only [if_neg c10]; simp only [if_pos c11]; exact Pd.i)
                      · skip
                        by_cases c12 : a0 = 18
                        · skip
                          refine w_tabIn (tgt := 145) (off := 144) ok dX4_rank_1 (by rw [c12]; decide) (by rw [c12]; decide) (by rw [c12]; rfl) (by decide) ?_
                          refine w_iconst (v := 0) ok dX4_rank_145 (by decide) ?_
                          exact w_iret ok fin dX4_rank_146 rfl (by unfold F_X4_rank; simp only [if_neg c1]; simp only [if_neg c2]; simp only [if_neg c3]; simp only [if_neg c4]; simp only [if_neg c5]; simp only [if_neg c6]; simp only [if_neg c7]; simp only [if_neg c8]; simp only [if_neg c9]; simp only [if_neg c10]; simp only [if_neg c11]; simp only [if_pos c12]; exact Pd.i)
                        · skip
                          by_cases c13 : a0 = 19
                          · skip
                            refine w_tabIn (tgt := 145) (off := 144) ok dX4_rank_1 (by rw [c13]; decide) (by rw [c13]; decide) (by rw [c13]; rfl) (by decide) ?_
                            refine w_iconst (v := 0) ok dX4_rank_145 (by decide) ?_
                            exact w_iret ok fin dX4_rank_146 rfl (by unfold F_X4_rank; simp only [if_neg c1]; simp only [if_neg c2]; simp only [if_neg c3]; simp only [if_neg c4]; simp only [if_neg c5]; simp only [if_neg c6]; simp only [if_neg c7]; simp only [if_neg c8]; simp only [if_neg c9]; simp only [if_neg c10]; simp only [if_neg c11]; simp only [if_neg c12]; simp only [if_pos c13]; exact Pd.i)
                          · skip
                            by_cases c14 : a0 = 20
                            · skip
                              refine w_tabIn (tgt := 145) (off := 144) ok dX4_rank_1 (by rw [c14]; decide) (by rw [c14]; decide) (by rw [c14]; rfl) (by decide) ?_
                              refine w_iconst (v := 0) ok dX4_rank_145 (by decide) ?_
                              exact w_iret ok fin dX4_rank_146 rfl (by unfold F_X4_rank; simp only [if_neg c1]; simp only [if_neg c2]; simp only [if_neg c3]; simp only [if_neg c4]; simp only [if_neg c5]; simp only [if_neg c6]; simp only [if_neg c7]; simp only [if_neg c8]; simp only [if_neg c9]; simp only [if_neg c10]; simp only [if_neg c11]; simp only [if_neg c12]; simp only [if_neg c13]; simp only [if_pos c14]; exact Pd.i)
                            · skip
                              by_cases c15 : a0 = 21
                              · skip
                                refine w_tabIn (tgt := 145) (off := 144) ok dX4_rank_1 (by rw [c15]; decide) (by rw [c15]; decide) (by rw [c15]; rfl) (by decide) ?_
                                refine w_iconst (v := 0) ok dX4_rank_145 (by decide) ?_
                                exact w_iret ok fin dX4_rank_146 rfl (by unfold F_X4_rank; simp only [if_neg c1]; simp only [if_neg c2]; simp only [if_neg c3]; simp only [if_neg c4]; simp only [if_neg c5]; simp only [if_neg c6]; simp only [if_neg c7]; simp only [if_neg c8]; simp only [if_neg c9]; simp only [if_neg c10]; simp only [if_neg c11]; simp only [if_neg c12]; simp only [if_neg c13]; simp only [if_neg c14]; simp only [if_pos c15]; exact Pd.i)
                              · skip
                                by_cases c16 : a0 = 22
                                · skip
                                  refine w_tabIn (tgt := 145) (off := 144) ok dX4_rank_1 (by rw [c16]; decide) (by rw [c16]; decide) (by rw [c16]; rfl) (by decide) ?_
                                  refine w_iconst (v := 0) ok dX4_rank_145 (by decide) ?_
                                  exact w_iret ok fin dX4_rank_146 rfl (by unfold F_X4_rank; simp only [if_neg c1]; simp only [if_neg c2]; simp only [if_neg c3]; simp only [if_neg c4]; simp only [if_neg c5]; simp only [if_neg c6]; simp only [if_neg c7]; simp only [if_neg c8]; simp only [if_neg c9]; simp only [if_neg c10]; simp only [if_neg c11]; simp only [if_neg c12]; simp only [if_neg c13]; simp only [if_neg c14]; simp only [if_neg c15]; simp only [if_pos c16]; exact Pd.i)
                                · skip
                                  by_cases c17 : a0 = 23
                                  · skip
                                    refine w_tabIn (tgt := 145) (off := 144) ok dX4_rank_1 (by rw [c17]; decide) (by rw [c17]; decide) (by rw [c17]; rfl) (by decide) ?_
                                    refine w_iconst (v := 0) ok dX4_rank_145 (by decide) ?_
                                    exact w_iret ok fin dX4_rank_146 rfl (by unfold F_X4_rank; simp only [if_neg c1]; simp only [if_neg c2]; simp only [if_neg c3]; simp only [if_neg c4]; simp only [if_neg c5]; simp only [if_neg c6]; simp only [if_neg c7]; simp only [if_neg c8]; simp only [if_neg c9]; simp only [if_neg c10]; simp only [if_neg c11]; simp only [if_neg c12]; simp only [if_neg c13]; simp only [if_neg c14]; simp only [if_neg c15]; simp only [if_neg c16]; simp only [if_pos c17]; exact Pd.i)
                                  · skip
                                    by_cases c18 : a0 = 24
                                    · skip
                                      refine w_tabIn (tgt := 145) (off := 144) ok dX4_rank_1 (by rw [c18]; decide) (by rw [c18]; decide) (by rw [c18]; rfl) (by decide) ?_
                                      refine w_iconst (v := 0) ok dX4_rank_145 (by decide) ?_
                                      exact w_iret ok fin dX4_rank_146 rfl (by unfold F_X4_rank; simp only [if_neg c1]; simp only [if_neg c2]; simp only [if_neg c3]; simp only [if_neg c4]; simp only [if_neg c5]; simp only [if_neg c6]; simp only [if_neg c7]; simp only [if_neg c8]; simp only [if_neg c9]; simp only [if_neg c10]; simp only [if_neg c11]; simp only [if_neg c12]; simp only [if_neg c13]; simp only [if_neg c14]; simp only [if_neg c15]; simp only [if_neg c16]; simp only [if_neg c17]; simp only [if_pos c18]; exact Pd.i)
                                    · skip
                                      by_cases c19 : a0 = 25
                                      · skip
                                        refine w_tabIn (tgt := 145) (off := 144) ok dX4_rank_1 (by rw [c19]; decide) (by rw [c19]; decide) (by rw [c19]; rfl) (by decide) ?_
                                        refine w_iconst (v := 0) ok dX4_rank_145 (by decide) ?_
                                        exact w_iret ok fin dX4_rank_146 rfl (by unfold F_X4_rank; simp only [if_neg c1]; simp only [if_neg c2]; simp only [if_neg c3]; simp only [if_neg c4]; simp only [if_neg c5]; simp only [if_neg c6]; simp only [if_neg c7]; simp only [if_neg c8]; simp only [if_neg c9]; simp only [if_neg c10]; simp only [if_neg c11]; simp only [if_neg c12]; simp only [if_neg c13]; simp only [if_neg c14]; simp only [if_neg c15]; simp only [if_neg c16]; simp only [if_neg c17]; simp only [if_neg c18]; simp only [if_pos c19]; exact Pd.i)
                                      · skip
                                        by_cases c20 : a0 = 26
                                        · skip
                                          refine w_tabIn (tgt := 145) (off := 144) ok dX4_rank_1 (by rw [c20]; decide) (by rw [c20]; decide) (by rw [c20]; rfl) (by decide) ?_
                                          refine w_iconst (v := 0) ok dX4_rank_145 (by decide) ?_
                                          exact w_iret ok fin dX4_rank_146 rfl (by unfold F_X4_rank; simp only [if_neg c1]; simp only [if_neg c2]; simp only [if_neg c3]; simp only [if_neg c4]; simp only [if_neg c5]; simp only [if_neg c6]; simp only [if_neg c7]; simp only [if_neg c8]; simp only [if_neg c9]; simp only [if_neg c10]; simp only [if_neg c11]; simp only [if_neg c12]; simp only [if_neg c13]; simp only [if_neg c14]; simp only [if_neg c15]; simp only [if_neg c16]; simp only [if_neg c17]; simp only [if_neg c18]; simp only [if_neg c19]; simp only [if_pos c20]; exact Pd.i)
                                        · skip
                                          by_cases c21 : a0 = 27
                                          · skip
                                            refine w_tabIn (tgt := 145) (off := 144) ok dX4_rank_1 (by rw [c21]; decide) (by rw [c21]; decide) (by rw [c21]; rfl) (by decide) ?_
                                            refine w_iconst (v := 0) ok dX4_rank_145 (by decide) ?_
                                            exact w_iret ok fin dX4_rank_146 rfl (by unfold F_X4_rank; simp only [if_neg c1]; simp only [if_neg c2]; simp only [if_neg c3]; simp only [if_neg c4]; simp only [if_neg c5]; simp only [if_neg c6]; simp only [if_neg c7]; simp only [if_neg c8]; simp only [if_neg c9]; simp only [if_neg c10]; simp only [if_neg c11]; simp only [if_neg c12]; simp only [if_neg c13]; simp only [if_neg c14]; simp only [if_neg c15]; simp only [if_neg c16]; simp only [if_neg c17]; simp only [if_neg c18]; simp only [if_neg c19]; simp only [if_neg c20]; simp only [if_pos c21]; exact Pd.i)
                                          · skip
                                            by_cases c22 : a0 = 28
                                            · skip
                                              refine w_tabIn (tgt := 145) (off := 144) ok dX4_rank_1 (by rw [c22]; decide) (by rw [c22]; decide) (by rw [c22]; rfl) (by decide) ?_
                                              refine w_iconst (v := 0) ok dX4_rank_145 (by decide) ?_
                                              exact w_iret ok fin dX4_rank_146 rfl (by unfold F_X4_rank; simp only [if_neg c1]; simp only [if_neg c2]; simp only [if_neg c3]; simp only [if_neg c4]; simp only [if_neg c5]; simp only [if_neg c6]; simp only [if_neg c7]; simp only [if_neg c8]; simp only [if_neg c9]; simp only [if_neg c10]; simp only [if_neg c11]; simp only [if_neg c12]; simp only [if_neg c13]; simp only [if_neg c14]; simp only [if_neg c15]; simp only [if_neg c16]; simp only [if_neg c17]; simp only [if_neg c18]; simp only [if_neg c19]; simp only [if_neg c20]; simp only [if_neg c21]; simp only [if_pos c22]; exact Pd.i)
                                            · skip
                                              by_cases c23 : a0 = 29
                                              · skip
                                                refine w_tabIn (tgt := 145) (off := 144) ok dX4_rank_1 (by rw [c23]; decide) (by rw [c23]; decide) (by rw [c23]; rfl) (by decide) ?_
                                                refine w_iconst (v := 0) ok dX4_rank_145 (by decide) ?_
                                                exact w_iret ok fin dX4_rank_146 rfl (by unfold F_X4_rank; simp only [if_neg c1]; simp only [if_neg c2]; simp only [if_neg c3]; simp only [if_neg c4]; simp only [if_neg c5]; simp only [if_neg c6]; simp only [if_neg c7]; simp only [if_neg c8]; simp only [if_neg c9]; simp only [if_neg c10]; simp only [if_neg c11]; simp only [if_neg c12]; simp only [if_neg c13]; simp only [if_neg c14]; simp only [if_neg c15]; simp only [if_neg c16]; simp only [if_neg c17]; simp only [if_neg c18]; simp only [if_neg c19]; simp only [if_neg c20]; simp only [if_neg c21]; simp only [if_neg c22]; simp only [if_pos c23]; exact Pd.i)
                                              · skip
                                                by_cases c24 : a0 = 30
                                                · skip
                                                  refine w_tabIn (tgt := 145) (off := 144) ok dX4_rank_1 (by rw [c24]; decide) (by rw [c24]; decide) (by rw [c24]; rfl) (by decide) ?_
                                                  refine w_iconst (v := 0) ok dX4_rank_145 (by decide) ?_
                                                  exact w_iret ok fin dX4_rank_146 rfl (by unfold F_X4_rank; simp only [if_neg c1]; simp only [if_neg c2]; simp only [if_neg c3]; simp only [if_neg c4]; simp only [if_neg c5]; simp only [if_neg c6]; simp only [if_neg c7]; simp only [if_neg c8]; simp only [if_neg c9]; simp only [if_neg c10]; simp only [if_neg c11]; simp only [if_neg c12]; simp only [if_neg c13]; simp only [if_neg c14]; simp only [if_neg c15]; simp only [if_neg c16]; simp only [if_neg c17]; simp only [if_neg c18]; simp only [if_neg c19]; simp only [if_neg c20]; simp only [if_neg c21]; simp only [if_neg c22]; simp only [if_neg c23]; simp only [if_pos c24]; exact Pd.i)
                                                · skip
                                                  by_cases c25 : a0 = 31
                                                  · skip
                                                    refine w_tabIn (tgt := 145) (off := 144) ok dX4_rank_1 (by rw [c25]; decide) (by rw [c25]; decide) (by rw [c25]; rfl) (by decide) ?_
                                                    refine w_iconst (v := 0) ok dX4_rank_145 (by decide) ?_
                                                    exact w_iret ok fin dX4_rank_146 rfl (by unfold F_X4_rank; simp only [if_neg c1]; simp only [if_neg c2]; simp only [if_neg c3]; simp only [if_neg c4]; simp only [if_neg c5]; simp only [if_neg c6]; simp only [if_neg c7]; simp only [if_neg c8]; simp only [if_neg c9]; simp only [if_neg c10]; simp only [if_neg c11]; simp only [if_neg c12]; simp only [if_neg c13]; simp only [if_neg c14]; simp only [if_neg c15]; simp only [if_neg c16]; simp only [if_neg c17]; simp only [if_neg c18]; simp only [if_neg c19]; simp only [if_neg c20]; simp only [if_neg c21]; simp only [if_neg c22]; simp only [if_neg c23]; simp only [if_neg c24]; simp only [if_pos c25]; exact Pd.i)
                                                  · skip
                                                    by_cases c26 : a0 = 32
                                                    · skip
                                                      refine w_tabIn (tgt := 145) (off := 144) ok dX4_rank_1 (by rw [c26]; decide) (by rw [c26]; decide) (by rw [c26]; rfl) (by decide) ?_
                                                      refine w_iconst (v := 0) ok dX4_rank_145 (by decide) ?_
                                                      exact w_iret ok fin dX4_rank_146 rfl (by unfold F_X4_rank; simp only [if_neg c1]; simp only [if_neg c2]; simp only [if_neg c3]; simp only [if_neg c4]; simp only [if_neg c5]; simp only [if_neg c6]; simp only [if_neg c7]; simp only [if_neg c8]; simp only [if_neg c9]; simp only [if_neg c10]; simp only [if_neg c11]; simp only [if_neg c12]; simp only [if_neg c13]; simp only [if_neg c14]; simp only [if_neg c15]; simp only [if_neg c16]; simp only [if_neg c17]; simp only [if_neg c18]; simp only [if_neg c19]; simp only [if_neg c20]; simp only [if_neg c21]; simp only [if_neg c22]; simp only [if_neg c23]; simp only [if_neg c24]; simp only [if_neg c25]; simp only [if_pos c26]; exact Pd.i)
                                                    · skip
                                                      by_cases c27 : a0 = 33
                                                      · skip
                                                        refine w_tabIn (tgt := 132) (off := 131) ok dX4_rank_1 (by rw [c27]; decide) (by rw [c27]; decide) (by rw [c27]; rfl) (by decide) ?_
                                                        refine w_iconst (v := 1) ok dX4_rank_132 (by decide) ?_
                                                        exact w_iret ok fin dX4_rank_133 rfl (by unfold F_X4_rank; simp only [if_neg c1]; simp only [if_neg c2]; simp only [if_neg c3]; simp only [if_neg c4]; simp only [if_neg c5]; simp only [if_neg c6]; simp only [if_neg c7]; simp only [if_neg c8]; simp only [if_neg c9]; simp only [if_neg c10]; simp only [if_neg c11]; simp only [if_neg c12]; simp only [if_neg c13]; simp only [if_neg c14]; simp only [if_neg c15]; simp only [if_neg c16]; simp only [if_neg c17]; simp only [if_neg c18]; simp only [if_neg c19]; simp only [if_neg c20]; simp only [if_neg c21]; simp only [if_neg c22]; simp only [if_neg c23]; simp only [if_neg c24]; simp only [if_neg c25]; simp only [if_neg c26]; simp only [if_pos c27]; exact Pd.i)
                                                      · skip
                                                        by_cases c28 : a0 = 34
                                                        · skip
                                                          refine w_tabIn (tgt := 134) (off := 133) ok dX4_rank_1 (by rw [c28]; decide) (by rw [c28]; decide) (by rw [c28]; rfl) (by decide) ?_
                                                          refine w_iconst (v := 2) ok dX4_rank_134 (by decide) ?_
                                                          exact w_iret ok fin dX4_rank_135 rfl (by unfold F_X4_rank; simp only [if_neg c1]; simp only [if_neg c2]; simp only [if_neg c3]; simp only [if_neg c4]; simp only [if_neg c5]; simp only [if_neg c6]; simp only [if_neg c7]; simp only [if_neg c8]; simp only [if_neg c9]; simp only [if_neg c10]; simp only [if_neg c11]; simp only [if_neg c12]; simp only [if_neg c13]; simp only [if_neg c14]; simp only [if_neg c15]; simp only [if_neg c16]; simp only [if_neg c17]; simp only [if_neg c18]; simp only [if_neg c19]; simp only [if_neg c20]; simp only [if_neg c21]; simp only [if_neg c22]; simp only [if_neg c23]; simp only [if_neg c24]; simp only [if_neg c25]; simp only [if_neg c26]; simp only [if_neg c27]; simp only [if_pos c28]; exact Pd.i)
                                                        · skip
                                                          by_cases c29 : a0 = 35
                                                          · skip
                                                            refine w_tabIn (tgt := 136) (off := 135) ok dX4_rank_1 (by rw [c29]; decide) (by rw [c29]; decide) (by rw [c29]; rfl) (by decide) ?_
                                                            refine w_iconst (v := 3) ok dX4_rank_136 (by decide) ?_
                                                            exact w_iret ok fin dX4_rank_137 rfl (by unfold F_X4_rank; simp only [if_neg c1]; simp only [if_neg c2]; simp only [if_neg c3]; simp only [if_neg c4]; simp only [if_neg c5]; simp only [if_neg c6]; simp only [if_neg c7]; simp only [if_neg c8]; simp only [if_neg c9]; simp only [if_neg c10]; simp only [if_neg c11]; simp only [if_neg c12]; simp only [if_neg c13]; simp only [if_neg c14]; simp only [if_neg c15]; simp only [if_neg c16]; simp only [if_neg c17]; simp only [if_neg c18]; simp only [if_neg c19]; simp only [if_neg c20]; simp only [if_neg c21]; simp only [if_neg c22]; simp only [if_neg c23]; simp only [if_neg c24]; simp only [if_neg c25]; simp only [if_neg c26]; simp only [if_neg c27]; simp only [if_neg c28]; simp only [if_pos c29]; exact Pd.i)
                                                          · skip
                                                            have n30 : a0.toInt ≠ 7 := ne_toInt c1
                                                            have n31 : a0.toInt ≠ 8 := ne_toInt c2
                                                            have n32 : a0.toInt ≠ 9 := ne_toInt c3
                                                            have n33 : a0.toInt ≠ 10 := ne_toInt c4
                                                            have n34 : a0.toInt ≠ 11 := ne_toInt c5
                                                            have n35 : a0.toInt ≠ 12 := ne_toInt c6
                                                            have n36 : a0.toInt ≠ 13 := ne_toInt c7
                                                            have n37 : a0.toInt ≠ 14 := ne_toInt c8
                                                            have n38 : a0.toInt ≠ 15 := ne_toInt c9
                                                            have n39 : a0.toInt ≠ 16 := ne_toInt c10
                                                            have n40 : a0.toInt ≠ 17 := ne_toInt c11
                                                            have n41 : a0.toInt ≠ 18 := ne_toInt c12
                                                            have n42 : a0.toInt ≠ 19 := ne_toInt c13
                                                            have n43 : a0.toInt ≠ 20 := ne_toInt c14
                                                            have n44 : a0.toInt ≠ 21 := ne_toInt c15
                                                            have n45 : a0.toInt ≠ 22 := ne_toInt c16
                                                            have n46 : a0.toInt ≠ 23 := ne_toInt c17
                                                            have n47 : a0.toInt ≠ 24 := ne_toInt c18
                                                            have n48 : a0.toInt ≠ 25 := ne_toInt c19
                                                            have n49 : a0.toInt ≠ 26 := ne_toInt c20
                                                            have n50 : a0.toInt ≠ 27 := ne_toInt c21
                                                            have n51 : a0.toInt ≠ 28 := ne_toInt c22
                                                            have n52 : a0.toInt ≠ 29 := ne_toInt c23
                                                            have n53 : a0.toInt ≠ 30 := ne_toInt c24
                                                            have n54 : a0.toInt ≠ 31 := ne_toInt c25
                                                            have n55 : a0.toInt ≠ 32 := ne_toInt c26
                                                            have n56 : a0.toInt ≠ 33 := ne_toInt c27
                                                            have n57 : a0.toInt ≠ 34 := ne_toInt c28
                                                            have n58 : a0.toInt ≠ 35 := ne_toInt c29
                                                            refine w_tabOut (tgt := 145) ok dX4_rank_1 (by omega) (by decide) ?_
                                                            refine w_iconst (v := 0) ok dX4_rank_145 (by decide) ?_
                                                            exact w_iret ok fin dX4_rank_146 rfl (by unfold F_X4_rank; simp only [if_neg c1]; simp only [if_neg c2]; simp only [if_neg c3]; simp only [if_neg c4]; simp only [if_neg c5]; simp only [if_neg c6]; simp only [if_neg c7]; simp only [if_neg c8]; simp only [if_neg c9]; simp only [if_neg c10]; simp only [if_neg c11]; simp only [if_neg c12]; simp only [if_neg c13]; simp only [if_neg c14]; simp only [if_neg c15]; simp only [if_neg c16]; simp only [if_neg c17]; simp only [if_neg c18]; simp only [if_neg c19]; simp only [if_neg c20]; simp only [if_neg c21]; simp only [if_neg c22]; simp only [if_neg c23]; simp only [if_neg c24]; simp only [if_neg c25]; simp only [if_neg c26]; simp only [if_neg c27]; simp only [if_neg c28]; simp only [if_neg c29]; exact Pd.i)
def S1_X5_open (k : Nat) (a0 : Nat) (I : SI) (J : SJ) : SI := u2 (u2 (u2 (u2 (u2 I k 0 0) k 1 ((u2 I k 0 0) a0 8)) k 2 0) k 3 0) k 4 0
def S2_X5_open (k : Nat) (a0 : Nat) (I : SI) (J : SJ) : SI := fillF (cpF (u2 (S1_X5_open k a0 I J) k 5 0) (a0 + 6 + 3) (k + 1) 8) (k + 2) 0 8
def S3_X5_open (k : Nat) (a0 : Nat) (I : SI) (J : SJ) : SI := fillF (cpF (fillF (S2_X5_open k a0 I J) (k + 3) 0 8) (a0 + 26) (k + 4) 48) (k + 5) (-1) 6
def S4_X5_open (k : Nat) (a0 : Nat) (I : SI) (J : SJ) : SI := fillF (cpF (fillF (S3_X5_open k a0 I J) (k + 6) 0 6) (a0 + 11 + 4) (k + 7) 4) (k + 8) 0 4
def FI_X5_open (k : Nat) (a0 : Nat) (I : SI) (J : SJ) : SI := (S4_X5_open k a0 I J)
def FJ_X5_open (k : Nat) (a0 : Nat) (I : SI) (J : SJ) : SJ := u2 J k 6 (((u2 (S1_X5_open k a0 I J) k 5 0) a0 9).toInt64)
set_option maxHeartbeats 1000000 in
set_option maxRecDepth 40000 in
theorem c_X5_open {I : SI} {J : SJ} {R : SR} {n g : Nat} {f : Fr} (ro : RO R) (hnn : nK ≤ n) (hf : f.1 = true) {k : Nat} {a0 : Nat} (hk : IsSc k) (ha0 : IsTo a0)   : MM 2 0 0 mX5_open [.ref k, .ref a0] (eI f I) (eJ f J) R n g (Pd none (eI f (FI_X5_open k a0 I J)) (eJ f (FJ_X5_open k a0 I J)) R n g) := by
  refine MM.of (by decide) (Nat.le_of_ble_eq_true rfl) fun K ok fin => ?_
  show WK K 0 0 0 [(0, .ref k), (1, .ref a0)] [] (eI f I) (eJ f J) R n g
  refine w_aload_n ok dX5_open_0 0 rfl ?_
  refine w_iconst (v := 0) ok dX5_open_1 (by decide) ?_
  refine y_putI ok dX5_open_2 (fwX5_9 rfl) (congrArg Prod.fst (sSc hk)) rfl (ltK hnn (nSc hk)) (sdc hf (nSc hk)) ?_
  refine w_aload_n ok dX5_open_5 0 rfl ?_
  refine w_aload_n ok dX5_open_6 1 rfl ?_
  refine y_getI ok dX5_open_7 (fX5_59 rfl) (congrArg Prod.fst (sTo ha0)) rfl (ltK hnn (nTo ha0)) (sdc hf (nTo ha0)) ?_
  refine y_putI ok dX5_open_10 (fwX5_15 rfl) (congrArg Prod.fst (sSc hk)) rfl (ltK hnn (nSc hk)) (sdc hf (nSc hk)) ?_
  refine w_aload_n ok dX5_open_13 0 rfl ?_
  refine w_iconst (v := 0) ok dX5_open_14 (by decide) ?_
  refine y_putI ok dX5_open_15 (fwX5_18 rfl) (congrArg Prod.fst (sSc hk)) rfl (ltK hnn (nSc hk)) (sdc hf (nSc hk)) ?_
  refine w_aload_n ok dX5_open_18 0 rfl ?_
  refine w_iconst (v := 0) ok dX5_open_19 (by decide) ?_
  refine y_putI ok dX5_open_20 (fwX5_21 rfl) (congrArg Prod.fst (sSc hk)) rfl (ltK hnn (nSc hk)) (sdc hf (nSc hk)) ?_
  refine w_aload_n ok dX5_open_23 0 rfl ?_
  refine w_iconst (v := 0) ok dX5_open_24 (by decide) ?_
  refine y_putI ok dX5_open_25 (fwX5_24 rfl) (congrArg Prod.fst (sSc hk)) rfl (ltK hnn (nSc hk)) (sdc hf (nSc hk)) ?_
  show WK K 0 0 28 [(0, .ref k), (1, .ref a0)] [] (eI f (S1_X5_open k a0 I J)) (eJ f J) R n g
  refine w_aload_n ok dX5_open_28 0 rfl ?_
  refine w_iconst (v := 0) ok dX5_open_29 (by decide) ?_
  refine y_putI ok dX5_open_30 (fwX5_27 rfl) (congrArg Prod.fst (sSc hk)) rfl (ltK hnn (nSc hk)) (sdc hf (nSc hk)) ?_
  refine w_aload_n ok dX5_open_33 0 rfl ?_
  refine w_aload_n ok dX5_open_34 1 rfl ?_
  refine y_getI ok dX5_open_35 (fX5_62 rfl) (congrArg Prod.fst (sTo ha0)) rfl (ltK hnn (nTo ha0)) (sdc hf (nTo ha0)) ?_
  refine w_i2l ok dX5_open_38 ?_
  refine y_putJ ok dX5_open_39 (fwX5_30 rfl) (congrArg Prod.fst (sSc hk)) rfl (ltK hnn (nSc hk)) (sdc hf (nSc hk)) ?_
  refine w_aload_n ok dX5_open_42 1 rfl ?_
  refine w_getR ok dX5_open_43 (fX5_65 rfl) (congrArg Prod.fst (sTo ha0)) rfl (rTo_1 ha0 ro) (ltK hnn (nTo ha0)) ?_
  refine w_getR ok dX5_open_46 (fX5_69 rfl) (congrArg Prod.fst (sTb (iTo_1 ha0))) rfl (rTb_4 (iTo_1 ha0) ro) (ltK hnn (nTo_1 ha0)) ?_
  refine w_aload_n ok dX5_open_49 0 rfl ?_
  refine w_getR ok dX5_open_50 (fX5_34 rfl) (congrArg Prod.fst (sSc hk)) rfl (rSc_7 hk ro) (ltK hnn (nSc hk)) ?_
  refine w_cS (As := [.ref (a0 + 6 + 3), .ref (k + 1)]) ok dX5_open_53 iX11_copyRow (lX5_74 rfl) (c_copyRow (sTb_4 (iTo_1 ha0)) (sSc_7 hk) (ltK hnn (nTb_4 (iTo_1 ha0))) (ltK hnn (nSc_7 hk)) (sdc hf (nTb_4 (iTo_1 ha0))) (sdc hf (nSc_7 hk))) (by decide) rfl (Nat.le_of_ble_eq_true rfl) ?_
  refine w_aload_n ok dX5_open_56 0 rfl ?_
  refine w_getR ok dX5_open_57 (fX5_38 rfl) (congrArg Prod.fst (sSc hk)) rfl (rSc_8 hk ro) (ltK hnn (nSc hk)) ?_
  refine w_iconst (v := 0) ok dX5_open_60 (by decide) ?_
  refine w_cS (As := [.ref (k + 2), .int 0]) ok dX5_open_61 iX11_fill (lX5_78 rfl) (c_fill (sSc_8 hk) (ltK hnn (nSc_8 hk)) (sdc hf (nSc_8 hk)) 0) (by decide) rfl (Nat.le_of_ble_eq_true rfl) ?_
  show WK K 0 0 64 [(0, .ref k), (1, .ref a0)] [] (eI f (S2_X5_open k a0 I J)) (eJ f (u2 J k 6 (((u2 (S1_X5_open k a0 I J) k 5 0) a0 9).toInt64))) R n g
  refine w_aload_n ok dX5_open_64 0 rfl ?_
  refine w_getR ok dX5_open_65 (fX5_41 rfl) (congrArg Prod.fst (sSc hk)) rfl (rSc_9 hk ro) (ltK hnn (nSc hk)) ?_
  refine w_iconst (v := 0) ok dX5_open_68 (by decide) ?_
  refine w_cS (As := [.ref (k + 3), .int 0]) ok dX5_open_69 iX11_fill (lX5_78 rfl) (c_fill (sSc_9 hk) (ltK hnn (nSc_9 hk)) (sdc hf (nSc_9 hk)) 0) (by decide) rfl (Nat.le_of_ble_eq_true rfl) ?_
  refine w_aload_n ok dX5_open_72 1 rfl ?_
  refine w_getR ok dX5_open_73 (fX5_82 rfl) (congrArg Prod.fst (sTo ha0)) rfl (rTo_5 ha0 ro) (ltK hnn (nTo ha0)) ?_
  refine w_aload_n ok dX5_open_76 0 rfl ?_
  refine w_getR ok dX5_open_77 (fX5_44 rfl) (congrArg Prod.fst (sSc hk)) rfl (rSc_10 hk ro) (ltK hnn (nSc hk)) ?_
  refine w_cS (As := [.ref (a0 + 26), .ref (k + 4)]) ok dX5_open_80 iX11_copyRow (lX5_74 rfl) (c_copyRow (sTo_5 ha0) (sSc_10 hk) (ltK hnn (nTo_5 ha0)) (ltK hnn (nSc_10 hk)) (sdc hf (nTo_5 ha0)) (sdc hf (nSc_10 hk))) (by decide) rfl (Nat.le_of_ble_eq_true rfl) ?_
  refine w_aload_n ok dX5_open_83 0 rfl ?_
  refine w_getR ok dX5_open_84 (fX5_47 rfl) (congrArg Prod.fst (sSc hk)) rfl (rSc_11 hk ro) (ltK hnn (nSc hk)) ?_
  refine w_iconst (v := (-1)) ok dX5_open_87 (by decide) ?_
  refine w_cS (As := [.ref (k + 5), .int (-1)]) ok dX5_open_88 iX11_fill (lX5_78 rfl) (c_fill (sSc_11 hk) (ltK hnn (nSc_11 hk)) (sdc hf (nSc_11 hk)) (-1)) (by decide) rfl (Nat.le_of_ble_eq_true rfl) ?_
  show WK K 0 0 91 [(0, .ref k), (1, .ref a0)] [] (eI f (S3_X5_open k a0 I J)) (eJ f (u2 J k 6 (((u2 (S1_X5_open k a0 I J) k 5 0) a0 9).toInt64))) R n g
  refine w_aload_n ok dX5_open_91 0 rfl ?_
  refine w_getR ok dX5_open_92 (fX5_50 rfl) (congrArg Prod.fst (sSc hk)) rfl (rSc_12 hk ro) (ltK hnn (nSc hk)) ?_
  refine w_iconst (v := 0) ok dX5_open_95 (by decide) ?_
  refine w_cS (As := [.ref (k + 6), .int 0]) ok dX5_open_96 iX11_fill (lX5_78 rfl) (c_fill (sSc_12 hk) (ltK hnn (nSc_12 hk)) (sdc hf (nSc_12 hk)) 0) (by decide) rfl (Nat.le_of_ble_eq_true rfl) ?_
  refine w_aload_n ok dX5_open_99 1 rfl ?_
  refine w_getR ok dX5_open_100 (fX5_83 rfl) (congrArg Prod.fst (sTo ha0)) rfl (rTo_2 ha0 ro) (ltK hnn (nTo ha0)) ?_
  refine w_getR ok dX5_open_103 (fX5_86 rfl) (congrArg Prod.fst (sTb (iTo_2 ha0))) rfl (rTb_5 (iTo_2 ha0) ro) (ltK hnn (nTo_2 ha0)) ?_
  refine w_aload_n ok dX5_open_106 0 rfl ?_
  refine w_getR ok dX5_open_107 (fX5_53 rfl) (congrArg Prod.fst (sSc hk)) rfl (rSc_13 hk ro) (ltK hnn (nSc hk)) ?_
  refine w_cS (As := [.ref (a0 + 11 + 4), .ref (k + 7)]) ok dX5_open_110 iX11_copyRow (lX5_74 rfl) (c_copyRow (sTb_5 (iTo_2 ha0)) (sSc_13 hk) (ltK hnn (nTb_5 (iTo_2 ha0))) (ltK hnn (nSc_13 hk)) (sdc hf (nTb_5 (iTo_2 ha0))) (sdc hf (nSc_13 hk))) (by decide) rfl (Nat.le_of_ble_eq_true rfl) ?_
  refine w_aload_n ok dX5_open_113 0 rfl ?_
  refine w_getR ok dX5_open_114 (fX5_56 rfl) (congrArg Prod.fst (sSc hk)) rfl (rSc_14 hk ro) (ltK hnn (nSc hk)) ?_
  refine w_iconst (v := 0) ok dX5_open_117 (by decide) ?_
  refine w_cS (As := [.ref (k + 8), .int 0]) ok dX5_open_118 iX11_fill (lX5_78 rfl) (c_fill (sSc_14 hk) (ltK hnn (nSc_14 hk)) (sdc hf (nSc_14 hk)) 0) (by decide) rfl (Nat.le_of_ble_eq_true rfl) ?_
  show WK K 0 0 121 [(0, .ref k), (1, .ref a0)] [] (eI f (S4_X5_open k a0 I J)) (eJ f (u2 J k 6 (((u2 (S1_X5_open k a0 I J) k 5 0) a0 9).toInt64))) R n g
  exact w_vret ok fin dX5_open_121 rfl (by unfold FI_X5_open FJ_X5_open; exact Pd.i)
def S1_X5_copy (k : Nat) (a0 : Nat) (I : SI) (J : SJ) : SI := u2 (u2 (u2 I k 0 (I a0 0)) k 1 ((u2 I k 0 (I a0 0)) a0 1)) k 2 ((u2 (u2 I k 0 (I a0 0)) k 1 ((u2 I k 0 (I a0 0)) a0 1)) a0 2)
def S2_X5_copy (k : Nat) (a0 : Nat) (I : SI) (J : SJ) : SI := u2 (u2 (S1_X5_copy k a0 I J) k 3 (((S1_X5_copy k a0 I J)) a0 3)) k 4 ((u2 (S1_X5_copy k a0 I J) k 3 (((S1_X5_copy k a0 I J)) a0 3)) a0 4)
def S3_X5_copy (k : Nat) (a0 : Nat) (I : SI) (J : SJ) : SI := cpF (u2 (S2_X5_copy k a0 I J) k 5 (((S2_X5_copy k a0 I J)) a0 5)) (a0 + 1) (k + 1) 8
def S4_X5_copy (k : Nat) (a0 : Nat) (I : SI) (J : SJ) : SI := cpF (cpF (cpF (S3_X5_copy k a0 I J) (a0 + 2) (k + 2) 8) (a0 + 3) (k + 3) 8) (a0 + 4) (k + 4) 48
def S5_X5_copy (k : Nat) (a0 : Nat) (I : SI) (J : SJ) : SI := cpF (cpF (cpF (S4_X5_copy k a0 I J) (a0 + 5) (k + 5) 6) (a0 + 6) (k + 6) 6) (a0 + 7) (k + 7) 4
def FI_X5_copy (k : Nat) (a0 : Nat) (I : SI) (J : SJ) : SI := cpF (S5_X5_copy k a0 I J) (a0 + 8) (k + 8) 4
def FJ_X5_copy (k : Nat) (a0 : Nat) (I : SI) (J : SJ) : SJ := u2 J k 6 (J a0 6)
set_option maxHeartbeats 1000000 in
set_option maxRecDepth 40000 in
theorem c_X5_copy {I : SI} {J : SJ} {R : SR} {n g : Nat} {f : Fr} (ro : RO R) (hnn : nK ≤ n) (hf : f.1 = true) {k : Nat} {a0 : Nat} (hk : IsSc k) (ha0 : IsSc a0)   : MM 2 0 0 mX5_copy [.ref k, .ref a0] (eI f I) (eJ f J) R n g (Pd none (eI f (FI_X5_copy k a0 I J)) (eJ f (FJ_X5_copy k a0 I J)) R n g) := by
  refine MM.of (by decide) (Nat.le_of_ble_eq_true rfl) fun K ok fin => ?_
  show WK K 0 0 0 [(0, .ref k), (1, .ref a0)] [] (eI f I) (eJ f J) R n g
  refine w_aload_n ok dX5_copy_0 0 rfl ?_
  refine w_aload_n ok dX5_copy_1 1 rfl ?_
  refine y_getI ok dX5_copy_2 (fX5_9 rfl) (congrArg Prod.fst (sSc ha0)) rfl (ltK hnn (nSc ha0)) (sdc hf (nSc ha0)) ?_
  refine y_putI ok dX5_copy_5 (fwX5_9 rfl) (congrArg Prod.fst (sSc hk)) rfl (ltK hnn (nSc hk)) (sdc hf (nSc hk)) ?_
  refine w_aload_n ok dX5_copy_8 0 rfl ?_
  refine w_aload_n ok dX5_copy_9 1 rfl ?_
  refine y_getI ok dX5_copy_10 (fX5_15 rfl) (congrArg Prod.fst (sSc ha0)) rfl (ltK hnn (nSc ha0)) (sdc hf (nSc ha0)) ?_
  refine y_putI ok dX5_copy_13 (fwX5_15 rfl) (congrArg Prod.fst (sSc hk)) rfl (ltK hnn (nSc hk)) (sdc hf (nSc hk)) ?_
  refine w_aload_n ok dX5_copy_16 0 rfl ?_
  refine w_aload_n ok dX5_copy_17 1 rfl ?_
  refine y_getI ok dX5_copy_18 (fX5_18 rfl) (congrArg Prod.fst (sSc ha0)) rfl (ltK hnn (nSc ha0)) (sdc hf (nSc ha0)) ?_
  refine y_putI ok dX5_copy_21 (fwX5_18 rfl) (congrArg Prod.fst (sSc hk)) rfl (ltK hnn (nSc hk)) (sdc hf (nSc hk)) ?_
  show WK K 0 0 24 [(0, .ref k), (1, .ref a0)] [] (eI f (S1_X5_copy k a0 I J)) (eJ f J) R n g
  refine w_aload_n ok dX5_copy_24 0 rfl ?_
  refine w_aload_n ok dX5_copy_25 1 rfl ?_
  refine y_getI ok dX5_copy_26 (fX5_21 rfl) (congrArg Prod.fst (sSc ha0)) rfl (ltK hnn (nSc ha0)) (sdc hf (nSc ha0)) ?_
  refine y_putI ok dX5_copy_29 (fwX5_21 rfl) (congrArg Prod.fst (sSc hk)) rfl (ltK hnn (nSc hk)) (sdc hf (nSc hk)) ?_
  refine w_aload_n ok dX5_copy_32 0 rfl ?_
  refine w_aload_n ok dX5_copy_33 1 rfl ?_
  refine y_getI ok dX5_copy_34 (fX5_24 rfl) (congrArg Prod.fst (sSc ha0)) rfl (ltK hnn (nSc ha0)) (sdc hf (nSc ha0)) ?_
  refine y_putI ok dX5_copy_37 (fwX5_24 rfl) (congrArg Prod.fst (sSc hk)) rfl (ltK hnn (nSc hk)) (sdc hf (nSc hk)) ?_
  show WK K 0 0 40 [(0, .ref k), (1, .ref a0)] [] (eI f (S2_X5_copy k a0 I J)) (eJ f J) R n g
  refine w_aload_n ok dX5_copy_40 0 rfl ?_
  refine w_aload_n ok dX5_copy_41 1 rfl ?_
  refine y_getI ok dX5_copy_42 (fX5_27 rfl) (congrArg Prod.fst (sSc ha0)) rfl (ltK hnn (nSc ha0)) (sdc hf (nSc ha0)) ?_
  refine y_putI ok dX5_copy_45 (fwX5_27 rfl) (congrArg Prod.fst (sSc hk)) rfl (ltK hnn (nSc hk)) (sdc hf (nSc hk)) ?_
  refine w_aload_n ok dX5_copy_48 0 rfl ?_
  refine w_aload_n ok dX5_copy_49 1 rfl ?_
  refine y_getJ ok dX5_copy_50 (fX5_30 rfl) (congrArg Prod.fst (sSc ha0)) rfl (ltK hnn (nSc ha0)) (sdc hf (nSc ha0)) ?_
  refine y_putJ ok dX5_copy_53 (fwX5_30 rfl) (congrArg Prod.fst (sSc hk)) rfl (ltK hnn (nSc hk)) (sdc hf (nSc hk)) ?_
  refine w_aload_n ok dX5_copy_56 1 rfl ?_
  refine w_getR ok dX5_copy_57 (fX5_34 rfl) (congrArg Prod.fst (sSc ha0)) rfl (rSc_7 ha0 ro) (ltK hnn (nSc ha0)) ?_
  refine w_aload_n ok dX5_copy_60 0 rfl ?_
  refine w_getR ok dX5_copy_61 (fX5_34 rfl) (congrArg Prod.fst (sSc hk)) rfl (rSc_7 hk ro) (ltK hnn (nSc hk)) ?_
  refine w_cS (As := [.ref (a0 + 1), .ref (k + 1)]) ok dX5_copy_64 iX11_copyRow (lX5_74 rfl) (c_copyRow (sSc_7 ha0) (sSc_7 hk) (ltK hnn (nSc_7 ha0)) (ltK hnn (nSc_7 hk)) (sdc hf (nSc_7 ha0)) (sdc hf (nSc_7 hk))) (by decide) rfl (Nat.le_of_ble_eq_true rfl) ?_
  show WK K 0 0 67 [(0, .ref k), (1, .ref a0)] [] (eI f (S3_X5_copy k a0 I J)) (eJ f (u2 J k 6 (J a0 6))) R n g
  refine w_aload_n ok dX5_copy_67 1 rfl ?_
  refine w_getR ok dX5_copy_68 (fX5_38 rfl) (congrArg Prod.fst (sSc ha0)) rfl (rSc_8 ha0 ro) (ltK hnn (nSc ha0)) ?_
  refine w_aload_n ok dX5_copy_71 0 rfl ?_
  refine w_getR ok dX5_copy_72 (fX5_38 rfl) (congrArg Prod.fst (sSc hk)) rfl (rSc_8 hk ro) (ltK hnn (nSc hk)) ?_
  refine w_cS (As := [.ref (a0 + 2), .ref (k + 2)]) ok dX5_copy_75 iX11_copyRow (lX5_74 rfl) (c_copyRow (sSc_8 ha0) (sSc_8 hk) (ltK hnn (nSc_8 ha0)) (ltK hnn (nSc_8 hk)) (sdc hf (nSc_8 ha0)) (sdc hf (nSc_8 hk))) (by decide) rfl (Nat.le_of_ble_eq_true rfl) ?_
  refine w_aload_n ok dX5_copy_78 1 rfl ?_
  refine w_getR ok dX5_copy_79 (fX5_41 rfl) (congrArg Prod.fst (sSc ha0)) rfl (rSc_9 ha0 ro) (ltK hnn (nSc ha0)) ?_
  refine w_aload_n ok dX5_copy_82 0 rfl ?_
  refine w_getR ok dX5_copy_83 (fX5_41 rfl) (congrArg Prod.fst (sSc hk)) rfl (rSc_9 hk ro) (ltK hnn (nSc hk)) ?_
  refine w_cS (As := [.ref (a0 + 3), .ref (k + 3)]) ok dX5_copy_86 iX11_copyRow (lX5_74 rfl) (c_copyRow (sSc_9 ha0) (sSc_9 hk) (ltK hnn (nSc_9 ha0)) (ltK hnn (nSc_9 hk)) (sdc hf (nSc_9 ha0)) (sdc hf (nSc_9 hk))) (by decide) rfl (Nat.le_of_ble_eq_true rfl) ?_
  refine w_aload_n ok dX5_copy_89 1 rfl ?_
  refine w_getR ok dX5_copy_90 (fX5_44 rfl) (congrArg Prod.fst (sSc ha0)) rfl (rSc_10 ha0 ro) (ltK hnn (nSc ha0)) ?_
  refine w_aload_n ok dX5_copy_93 0 rfl ?_
  refine w_getR ok dX5_copy_94 (fX5_44 rfl) (congrArg Prod.fst (sSc hk)) rfl (rSc_10 hk ro) (ltK hnn (nSc hk)) ?_
  refine w_cS (As := [.ref (a0 + 4), .ref (k + 4)]) ok dX5_copy_97 iX11_copyRow (lX5_74 rfl) (c_copyRow (sSc_10 ha0) (sSc_10 hk) (ltK hnn (nSc_10 ha0)) (ltK hnn (nSc_10 hk)) (sdc hf (nSc_10 ha0)) (sdc hf (nSc_10 hk))) (by decide) rfl (Nat.le_of_ble_eq_true rfl) ?_
  show WK K 0 0 100 [(0, .ref k), (1, .ref a0)] [] (eI f (S4_X5_copy k a0 I J)) (eJ f (u2 J k 6 (J a0 6))) R n g
  refine w_aload_n ok dX5_copy_100 1 rfl ?_
  refine w_getR ok dX5_copy_101 (fX5_47 rfl) (congrArg Prod.fst (sSc ha0)) rfl (rSc_11 ha0 ro) (ltK hnn (nSc ha0)) ?_
  refine w_aload_n ok dX5_copy_104 0 rfl ?_
  refine w_getR ok dX5_copy_105 (fX5_47 rfl) (congrArg Prod.fst (sSc hk)) rfl (rSc_11 hk ro) (ltK hnn (nSc hk)) ?_
  refine w_cS (As := [.ref (a0 + 5), .ref (k + 5)]) ok dX5_copy_108 iX11_copyRow (lX5_74 rfl) (c_copyRow (sSc_11 ha0) (sSc_11 hk) (ltK hnn (nSc_11 ha0)) (ltK hnn (nSc_11 hk)) (sdc hf (nSc_11 ha0)) (sdc hf (nSc_11 hk))) (by decide) rfl (Nat.le_of_ble_eq_true rfl) ?_
  refine w_aload_n ok dX5_copy_111 1 rfl ?_
  refine w_getR ok dX5_copy_112 (fX5_50 rfl) (congrArg Prod.fst (sSc ha0)) rfl (rSc_12 ha0 ro) (ltK hnn (nSc ha0)) ?_
  refine w_aload_n ok dX5_copy_115 0 rfl ?_
  refine w_getR ok dX5_copy_116 (fX5_50 rfl) (congrArg Prod.fst (sSc hk)) rfl (rSc_12 hk ro) (ltK hnn (nSc hk)) ?_
  refine w_cS (As := [.ref (a0 + 6), .ref (k + 6)]) ok dX5_copy_119 iX11_copyRow (lX5_74 rfl) (c_copyRow (sSc_12 ha0) (sSc_12 hk) (ltK hnn (nSc_12 ha0)) (ltK hnn (nSc_12 hk)) (sdc hf (nSc_12 ha0)) (sdc hf (nSc_12 hk))) (by decide) rfl (Nat.le_of_ble_eq_true rfl) ?_
  refine w_aload_n ok dX5_copy_122 1 rfl ?_
  refine w_getR ok dX5_copy_123 (fX5_53 rfl) (congrArg Prod.fst (sSc ha0)) rfl (rSc_13 ha0 ro) (ltK hnn (nSc ha0)) ?_
  refine w_aload_n ok dX5_copy_126 0 rfl ?_
  refine w_getR ok dX5_copy_127 (fX5_53 rfl) (congrArg Prod.fst (sSc hk)) rfl (rSc_13 hk ro) (ltK hnn (nSc hk)) ?_
  refine w_cS (As := [.ref (a0 + 7), .ref (k + 7)]) ok dX5_copy_130 iX11_copyRow (lX5_74 rfl) (c_copyRow (sSc_13 ha0) (sSc_13 hk) (ltK hnn (nSc_13 ha0)) (ltK hnn (nSc_13 hk)) (sdc hf (nSc_13 ha0)) (sdc hf (nSc_13 hk))) (by decide) rfl (Nat.le_of_ble_eq_true rfl) ?_
  show WK K 0 0 133 [(0, .ref k), (1, .ref a0)] [] (eI f (S5_X5_copy k a0 I J)) (eJ f (u2 J k 6 (J a0 6))) R n g
  refine w_aload_n ok dX5_copy_133 1 rfl ?_
  refine w_getR ok dX5_copy_134 (fX5_56 rfl) (congrArg Prod.fst (sSc ha0)) rfl (rSc_14 ha0 ro) (ltK hnn (nSc ha0)) ?_
  refine w_aload_n ok dX5_copy_137 0 rfl ?_
  refine w_getR ok dX5_copy_138 (fX5_56 rfl) (congrArg Prod.fst (sSc hk)) rfl (rSc_14 hk ro) (ltK hnn (nSc hk)) ?_
  refine w_cS (As := [.ref (a0 + 8), .ref (k + 8)]) ok dX5_copy_141 iX11_copyRow (lX5_74 rfl) (c_copyRow (sSc_14 ha0) (sSc_14 hk) (ltK hnn (nSc_14 ha0)) (ltK hnn (nSc_14 hk)) (sdc hf (nSc_14 ha0)) (sdc hf (nSc_14 hk))) (by decide) rfl (Nat.le_of_ble_eq_true rfl) ?_
  exact w_vret ok fin dX5_copy_144 rfl (by unfold FI_X5_copy FJ_X5_copy; exact Pd.i)
def F_X5_wayIn (k : Nat) (a0 : Int32) (a1 : Int32) (I : SI) (J : SJ) : Int32 := atF (I (k + 4)) 48 ((a0 * 6) + a1)
set_option maxHeartbeats 1000000 in
set_option maxRecDepth 40000 in
theorem c_X5_wayIn {I : SI} {J : SJ} {R : SR} {n g : Nat} {f : Fr} (ro : RO R) (hnn : nK ≤ n) (hf : f.1 = true) {k : Nat} (a0 : Int32) (a1 : Int32) (hk : IsSc k)   : MM 1 0 0 mX5_wayIn [.ref k, .int a0, .int a1] (eI f I) (eJ f J) R n g (Pd (some (.int (F_X5_wayIn k a0 a1 I J))) (eI f I) (eJ f J) R n g) := by
  refine MM.of (by decide) (Nat.le_of_ble_eq_true rfl) fun K ok fin => ?_
  show WK K 0 0 0 [(0, .ref k), (1, .int a0), (2, .int a1)] [] (eI f I) (eJ f J) R n g
  refine w_aload_n ok dX5_wayIn_0 0 rfl ?_
  refine w_getR ok dX5_wayIn_1 (fX5_44 rfl) (congrArg Prod.fst (sSc hk)) rfl (rSc_10 hk ro) (ltK hnn (nSc hk)) ?_
  refine w_iload_n ok dX5_wayIn_4 1 rfl ?_
  refine w_bipush (v := 6) ok dX5_wayIn_5 (by decide) ?_
  refine w_imul ok dX5_wayIn_7 ?_
  refine w_iload_n ok dX5_wayIn_8 2 rfl ?_
  refine w_iadd ok dX5_wayIn_9 ?_
  refine w_cS (As := [.ref (k + 4), .int ((a0 * 6) + a1)]) ok dX5_wayIn_10 iX11_at (lX5_89 rfl) (c_at (sSc_10 hk) (ltK hnn (nSc_10 hk)) (sdc hf (nSc_10 hk)) ((a0 * 6) + a1)) (by decide) rfl (Nat.le_of_ble_eq_true rfl) ?_
  exact w_iret ok fin dX5_wayIn_13 rfl (by unfold F_X5_wayIn; exact Pd.i)
def B_X5_marksIn_l4 (k : Nat) (a0 : Int32) (I : SI) (J : SJ) (i4 : Nat) (s4 : Int32) : Int32 := if (F_X5_wayIn k a0 (nI i4) I J) < 0 then (s4 + 0) else (s4 + 1)
def F_X5_marksIn_l4 (k : Nat) (a0 : Int32) (I : SI) (J : SJ) (s0 : Int32) : Int32 := itN (B_X5_marksIn_l4 k a0 I J) (6) s0
def F_X5_marksIn (k : Nat) (a0 : Int32) (I : SI) (J : SJ) : Int32 := (F_X5_marksIn_l4 k a0 I J 0)
set_option maxHeartbeats 1000000 in
set_option maxRecDepth 40000 in
theorem c_X5_marksIn {I : SI} {J : SJ} {R : SR} {n g : Nat} {f : Fr} (ro : RO R) (hnn : nK ≤ n) (hf : f.1 = true) {k : Nat} (a0 : Int32) (hk : IsSc k)   : MM 2 0 0 mX5_marksIn [.ref k, .int a0] (eI f I) (eJ f J) R n g (Pd (some (.int (F_X5_marksIn k a0 I J))) (eI f I) (eJ f J) R n g) := by
  refine MM.of (by decide) (Nat.le_of_ble_eq_true rfl) fun K ok fin => ?_
  show WK K 0 0 0 [(0, .ref k), (1, .int a0)] [] (eI f I) (eJ f J) R n g
  refine w_iconst (v := 0) ok dX5_marksIn_0 (by decide) ?_
  refine w_istore_n ok dX5_marksIn_1 rfl (by decide) rfl ?_
  refine w_iconst (v := 0) ok dX5_marksIn_2 (by decide) ?_
  refine w_istore_n ok dX5_marksIn_3 rfl (by decide) rfl ?_
  refine w_loc [2, 3, 1, 0] rfl ?_
  refine loop_for (σ := Int32) (fun (i4 : Nat) (s4 : Int32) => WK K 0 0 4 [(0, .ref k), (1, .int a0), (2, .int s4), (3, .int (nI i4))] [] (eI f I) (eJ f J) R n g) (B_X5_marksIn_l4 k a0 I J) (6) (0) ?_ ?_
  · show WK K 0 0 4 [(0, .ref k), (1, .int a0), (2, .int (F_X5_marksIn_l4 k a0 I J 0)), (3, .int (nI 6))] [] (eI f I) (eJ f J) R n g
    have e1 : (6 : Int32) ≤ (nI 6) := (show nI 6 ≤ nI 6 from nI_le (by omega) (by decide))
    refine w_iload_n ok dX5_marksIn_4 3 rfl ?_
    refine w_bipush (v := 6) ok dX5_marksIn_5 (by decide) ?_
    refine w_icmp_ge (tgt := 33) ok dX5_marksIn_7 (by decide) (fun _ => ?_) (fun h => absurd e1 h)
    refine w_iload_n ok dX5_marksIn_33 2 rfl ?_
    exact w_iret ok fin dX5_marksIn_34 rfl (by unfold F_X5_marksIn; exact Pd.i)
  · intro i4 s4 hi4 hs4 k4
    show WK K 0 0 4 [(0, .ref k), (1, .int a0), (2, .int s4), (3, .int (nI i4))] [] (eI f I) (eJ f J) R n g
    have e2 : ¬ ((6 : Int32) ≤ (nI i4)) := (show ¬ (nI 6 ≤ nI i4) from nI_ge (by omega) (by decide))
    refine w_iload_n ok dX5_marksIn_4 3 rfl ?_
    refine w_bipush (v := 6) ok dX5_marksIn_5 (by decide) ?_
    refine w_icmp_ge (tgt := 33) ok dX5_marksIn_7 (by decide) (fun h => absurd h e2) (fun _ => ?_)
    refine w_iload_n ok dX5_marksIn_10 2 rfl ?_
    refine w_aload_n ok dX5_marksIn_11 0 rfl ?_
    refine w_iload_n ok dX5_marksIn_12 1 rfl ?_
    refine w_iload_n ok dX5_marksIn_13 3 rfl ?_
    refine w_cV (As := [.int a0, .int (nI i4)]) ok dX5_marksIn_14 iX5_wayIn (lX5_93 rfl) (rcv cls5 (congrArg Prod.fst (sSc hk))) (ltK hnn (nSc hk)) (c_X5_wayIn ro hnn hf a0 (nI i4) hk) (by decide) rfl (Nat.le_of_ble_eq_true rfl) ?_
    show WK K 0 0 17 [(0, .ref k), (1, .int a0), (2, .int s4), (3, .int (nI i4))] [.int (F_X5_wayIn k a0 (nI i4) I J), .int s4] (eI f I) (eJ f J) R n g
    refine w_if_lt (tgt := 24) ok dX5_marksIn_17 (by decide) (fun c3 => ?_) (fun c3 => ?_)
    · skip
      refine w_iconst (v := 0) ok dX5_marksIn_24 (by decide) ?_
      refine w_iadd ok dX5_marksIn_25 ?_
      refine w_istore_n ok dX5_marksIn_26 rfl (by decide) rfl ?_
      refine w_iinc (v := (nI i4) + 1) ok dX5_marksIn_27 3 rfl rfl (by decide) rfl ?_
      refine w_goto (tgt := 4) ok dX5_marksIn_30 (by decide) ?_
      have eB : B_X5_marksIn_l4 k a0 I J i4 s4 = (s4 + 0) := by
        unfold B_X5_marksIn_l4; exact (if_pos c3).trans (rfl)
      have kk := k4
      rw [eB] at kk
      refine w_loc [2, 3, 1, 0] rfl ?_
      rw [nI_1 i4]
      exact kk
    · skip
      refine w_iconst (v := 1) ok dX5_marksIn_20 (by decide) ?_
      refine w_goto (tgt := 25) ok dX5_marksIn_21 (by decide) ?_
      refine w_iadd ok dX5_marksIn_25 ?_
      refine w_istore_n ok dX5_marksIn_26 rfl (by decide) rfl ?_
      refine w_iinc (v := (nI i4) + 1) ok dX5_marksIn_27 3 rfl rfl (by decide) rfl ?_
      refine w_goto (tgt := 4) ok dX5_marksIn_30 (by decide) ?_
      have eB : B_X5_marksIn_l4 k a0 I J i4 s4 = (s4 + 1) := by
        unfold B_X5_marksIn_l4; exact (if_neg c3).trans (rfl)
      have kk := k4
      rw [eB] at kk
      refine w_loc [2, 3, 1, 0] rfl ?_
      rw [nI_1 i4]
      exact kk
def B_X5_clashing_l4 (k : Nat) (a0 : Int32) (I : SI) (J : SJ) (i4 : Nat) (s4 : Int32) : Int32 := if (F_X5_wayIn k a0 (nI i4) I J) < 0 then (s4 + 0) else (if (atF (I (k + 5)) 6 (nI i4)) < 0 then (s4 + 0) else (if (F_X5_wayIn k a0 (nI i4) I J) = (atF (I (k + 5)) 6 (nI i4)) then (s4 + 0) else (s4 + 1)))
def F_X5_clashing_l4 (k : Nat) (a0 : Int32) (I : SI) (J : SJ) (s0 : Int32) : Int32 := itN (B_X5_clashing_l4 k a0 I J) (6) s0
def F_X5_clashing (k : Nat) (a0 : Int32) (I : SI) (J : SJ) : Int32 := (F_X5_clashing_l4 k a0 I J 0)
set_option maxHeartbeats 1000000 in
set_option maxRecDepth 40000 in
theorem c_X5_clashing {I : SI} {J : SJ} {R : SR} {n g : Nat} {f : Fr} (ro : RO R) (hnn : nK ≤ n) (hf : f.1 = true) {k : Nat} (a0 : Int32) (hk : IsSc k)   : MM 2 0 0 mX5_clashing [.ref k, .int a0] (eI f I) (eJ f J) R n g (Pd (some (.int (F_X5_clashing k a0 I J))) (eI f I) (eJ f J) R n g) := by
  refine MM.of (by decide) (Nat.le_of_ble_eq_true rfl) fun K ok fin => ?_
  show WK K 0 0 0 [(0, .ref k), (1, .int a0)] [] (eI f I) (eJ f J) R n g
  refine w_iconst (v := 0) ok dX5_clashing_0 (by decide) ?_
  refine w_istore_n ok dX5_clashing_1 rfl (by decide) rfl ?_
  refine w_iconst (v := 0) ok dX5_clashing_2 (by decide) ?_
  refine w_istore_n ok dX5_clashing_3 rfl (by decide) rfl ?_
  refine w_loc [2, 3, 1, 0] rfl ?_
  refine loop_for (σ := Int32) (fun (i4 : Nat) (s4 : Int32) => WK K 0 0 4 [(0, .ref k), (1, .int a0), (2, .int s4), (3, .int (nI i4))] [] (eI f I) (eJ f J) R n g) (B_X5_clashing_l4 k a0 I J) (6) (0) ?_ ?_
  · show WK K 0 0 4 [(0, .ref k), (1, .int a0), (2, .int (F_X5_clashing_l4 k a0 I J 0)), (3, .int (nI 6))] [] (eI f I) (eJ f J) R n g
    have e1 : (6 : Int32) ≤ (nI 6) := (show nI 6 ≤ nI 6 from nI_le (by omega) (by decide))
    refine w_iload_n ok dX5_clashing_4 3 rfl ?_
    refine w_bipush (v := 6) ok dX5_clashing_5 (by decide) ?_
    refine w_icmp_ge (tgt := 59) ok dX5_clashing_7 (by decide) (fun _ => ?_) (fun h => absurd e1 h)
    refine w_iload_n ok dX5_clashing_59 2 rfl ?_
    exact w_iret ok fin dX5_clashing_60 rfl (by unfold F_X5_clashing; exact Pd.i)
  · intro i4 s4 hi4 hs4 k4
    show WK K 0 0 4 [(0, .ref k), (1, .int a0), (2, .int s4), (3, .int (nI i4))] [] (eI f I) (eJ f J) R n g
    have e2 : ¬ ((6 : Int32) ≤ (nI i4)) := (show ¬ (nI 6 ≤ nI i4) from nI_ge (by omega) (by decide))
    refine w_iload_n ok dX5_clashing_4 3 rfl ?_
    refine w_bipush (v := 6) ok dX5_clashing_5 (by decide) ?_
    refine w_icmp_ge (tgt := 59) ok dX5_clashing_7 (by decide) (fun h => absurd h e2) (fun _ => ?_)
    refine w_aload_n ok dX5_clashing_10 0 rfl ?_
    refine w_iload_n ok dX5_clashing_11 1 rfl ?_
    refine w_iload_n ok dX5_clashing_12 3 rfl ?_
    refine w_cV (As := [.int a0, .int (nI i4)]) ok dX5_clashing_13 iX5_wayIn (lX5_93 rfl) (rcv cls5 (congrArg Prod.fst (sSc hk))) (ltK hnn (nSc hk)) (c_X5_wayIn ro hnn hf a0 (nI i4) hk) (by decide) rfl (Nat.le_of_ble_eq_true rfl) ?_
    refine w_istore ok dX5_clashing_16 (by decide) rfl ?_
    refine w_aload_n ok dX5_clashing_18 1 rfl ?_
    refine w_getR ok dX5_clashing_19 (fX5_47 rfl) (congrArg Prod.fst (sSc hk)) rfl (rSc_11 hk ro) (ltK hnn (nSc hk)) ?_
    refine w_iload_n ok dX5_clashing_22 4 rfl ?_
    refine w_cS (As := [.ref (k + 5), .int (nI i4)]) ok dX5_clashing_23 iX11_at (lX5_89 rfl) (c_at (sSc_11 hk) (ltK hnn (nSc_11 hk)) (sdc hf (nSc_11 hk)) (nI i4)) (by decide) rfl (Nat.le_of_ble_eq_true rfl) ?_
    refine w_istore ok dX5_clashing_26 (by decide) rfl ?_
    refine w_iload_n ok dX5_clashing_28 4 rfl ?_
    refine w_iload ok dX5_clashing_29 1 rfl ?_
    refine w_if_lt (tgt := 50) ok dX5_clashing_31 (by decide) (fun c3 => ?_) (fun c3 => ?_)
    · skip
      refine w_iconst (v := 0) ok dX5_clashing_50 (by decide) ?_
      refine w_iadd ok dX5_clashing_51 ?_
      refine w_istore_n ok dX5_clashing_52 rfl (by decide) rfl ?_
      refine w_iinc (v := (nI i4) + 1) ok dX5_clashing_53 5 rfl rfl (by decide) rfl ?_
      refine w_goto (tgt := 4) ok dX5_clashing_56 (by decide) ?_
      have eB : B_X5_clashing_l4 k a0 I J i4 s4 = (s4 + 0) := by
        unfold B_X5_clashing_l4; exact (if_pos c3).trans (rfl)
      have kk := k4
      rw [eB] at kk
      refine w_loc [4, 5, 1, 0] rfl ?_
      rw [nI_1 i4]
      exact kk
    · skip
      refine w_iload ok dX5_clashing_34 0 rfl ?_
      refine w_if_lt (tgt := 50) ok dX5_clashing_36 (by decide) (fun c4 => ?_) (fun c4 => ?_)
      · skip
        refine w_iconst (v := 0) ok dX5_clashing_50 (by decide) ?_
        refine w_iadd ok dX5_clashing_51 ?_
        refine w_istore_n ok dX5_clashing_52 rfl (by decide) rfl ?_
        refine w_iinc (v := (nI i4) + 1) ok dX5_clashing_53 5 rfl rfl (by decide) rfl ?_
        refine w_goto (tgt := 4) ok dX5_clashing_56 (by decide) ?_
        have eB : B_X5_clashing_l4 k a0 I J i4 s4 = (s4 + 0) := by
          unfold B_X5_clashing_l4; exact (if_neg c3).trans ((if_pos c4).trans (rfl))
        have kk := k4
        rw [eB] at kk
        refine w_loc [4, 5, 1, 0] rfl ?_
        rw [nI_1 i4]
        exact kk
      · skip
        refine w_iload ok dX5_clashing_39 1 rfl ?_
        refine w_iload ok dX5_clashing_41 0 rfl ?_
        refine w_icmp_eq (tgt := 50) ok dX5_clashing_43 (by decide) (fun c5 => ?_) (fun c5 => ?_)
        · skip
          refine w_iconst (v := 0) ok dX5_clashing_50 (by decide) ?_
          refine w_iadd ok dX5_clashing_51 ?_
          refine w_istore_n ok dX5_clashing_52 rfl (by decide) rfl ?_
          refine w_iinc (v := (nI i4) + 1) ok dX5_clashing_53 5 rfl rfl (by decide) rfl ?_
          refine w_goto (tgt := 4) ok dX5_clashing_56 (by decide) ?_
          have eB : B_X5_clashing_l4 k a0 I J i4 s4 = (s4 + 0) := by
            unfold B_X5_clashing_l4; exact (if_neg c3).trans ((if_neg c4).trans ((if_pos c5).trans (rfl)))
          have kk := k4
          rw [eB] at kk
          refine w_loc [4, 5, 1, 0] rfl ?_
          rw [nI_1 i4]
          exact kk
        · skip
          refine w_iconst (v := 1) ok dX5_clashing_46 (by decide) ?_
          refine w_goto (tgt := 51) ok dX5_clashing_47 (by decide) ?_
          refine w_iadd ok dX5_clashing_51 ?_
          refine w_istore_n ok dX5_clashing_52 rfl (by decide) rfl ?_
          refine w_iinc (v := (nI i4) + 1) ok dX5_clashing_53 5 rfl rfl (by decide) rfl ?_
          refine w_goto (tgt := 4) ok dX5_clashing_56 (by decide) ?_
          have eB : B_X5_clashing_l4 k a0 I J i4 s4 = (s4 + 1) := by
            unfold B_X5_clashing_l4; exact (if_neg c3).trans ((if_neg c4).trans ((if_neg c5).trans (rfl)))
          have kk := k4
          rw [eB] at kk
          refine w_loc [4, 5, 1, 0] rfl ?_
          rw [nI_1 i4]
          exact kk
def B_X5_clashCount_l4 (k : Nat) (I : SI) (J : SJ) (i4 : Nat) (s4 : Int32) : Int32 := if (atF (I (k + 2)) 8 (nI i4)) = 0 then (s4 + 0) else (s4 + (F_X5_clashing k (nI i4) I J))
def F_X5_clashCount_l4 (k : Nat) (I : SI) (J : SJ) (s0 : Int32) : Int32 := itN (B_X5_clashCount_l4 k I J) (8) s0
def F_X5_clashCount (k : Nat) (I : SI) (J : SJ) : Int32 := (F_X5_clashCount_l4 k I J 0)
set_option maxHeartbeats 1000000 in
set_option maxRecDepth 40000 in
theorem c_X5_clashCount {I : SI} {J : SJ} {R : SR} {n g : Nat} {f : Fr} (ro : RO R) (hnn : nK ≤ n) (hf : f.1 = true) {k : Nat} (hk : IsSc k)   : MM 3 0 0 mX5_clashCount [.ref k] (eI f I) (eJ f J) R n g (Pd (some (.int (F_X5_clashCount k I J))) (eI f I) (eJ f J) R n g) := by
  refine MM.of (by decide) (Nat.le_of_ble_eq_true rfl) fun K ok fin => ?_
  show WK K 0 0 0 [(0, .ref k)] [] (eI f I) (eJ f J) R n g
  refine w_iconst (v := 0) ok dX5_clashCount_0 (by decide) ?_
  refine w_istore_n ok dX5_clashCount_1 rfl (by decide) rfl ?_
  refine w_iconst (v := 0) ok dX5_clashCount_2 (by decide) ?_
  refine w_istore_n ok dX5_clashCount_3 rfl (by decide) rfl ?_
  refine w_loc [2, 1, 0] rfl ?_
  refine loop_for (σ := Int32) (fun (i4 : Nat) (s4 : Int32) => WK K 0 0 4 [(0, .ref k), (1, .int s4), (2, .int (nI i4))] [] (eI f I) (eJ f J) R n g) (B_X5_clashCount_l4 k I J) (8) (0) ?_ ?_
  · show WK K 0 0 4 [(0, .ref k), (1, .int (F_X5_clashCount_l4 k I J 0)), (2, .int (nI 8))] [] (eI f I) (eJ f J) R n g
    have e1 : (8 : Int32) ≤ (nI 8) := (show nI 8 ≤ nI 8 from nI_le (by omega) (by decide))
    refine w_iload_n ok dX5_clashCount_4 2 rfl ?_
    refine w_bipush (v := 8) ok dX5_clashCount_5 (by decide) ?_
    refine w_icmp_ge (tgt := 39) ok dX5_clashCount_7 (by decide) (fun _ => ?_) (fun h => absurd e1 h)
    refine w_iload_n ok dX5_clashCount_39 1 rfl ?_
    exact w_iret ok fin dX5_clashCount_40 rfl (by unfold F_X5_clashCount; exact Pd.i)
  · intro i4 s4 hi4 hs4 k4
    show WK K 0 0 4 [(0, .ref k), (1, .int s4), (2, .int (nI i4))] [] (eI f I) (eJ f J) R n g
    have e2 : ¬ ((8 : Int32) ≤ (nI i4)) := (show ¬ (nI 8 ≤ nI i4) from nI_ge (by omega) (by decide))
    refine w_iload_n ok dX5_clashCount_4 2 rfl ?_
    refine w_bipush (v := 8) ok dX5_clashCount_5 (by decide) ?_
    refine w_icmp_ge (tgt := 39) ok dX5_clashCount_7 (by decide) (fun h => absurd h e2) (fun _ => ?_)
    refine w_iload_n ok dX5_clashCount_10 1 rfl ?_
    refine w_aload_n ok dX5_clashCount_11 0 rfl ?_
    refine w_getR ok dX5_clashCount_12 (fX5_38 rfl) (congrArg Prod.fst (sSc hk)) rfl (rSc_8 hk ro) (ltK hnn (nSc hk)) ?_
    refine w_iload_n ok dX5_clashCount_15 2 rfl ?_
    refine w_cS (As := [.ref (k + 2), .int (nI i4)]) ok dX5_clashCount_16 iX11_at (lX5_89 rfl) (c_at (sSc_8 hk) (ltK hnn (nSc_8 hk)) (sdc hf (nSc_8 hk)) (nI i4)) (by decide) rfl (Nat.le_of_ble_eq_true rfl) ?_
    show WK K 0 0 19 [(0, .ref k), (1, .int s4), (2, .int (nI i4))] [.int (atF (I (k + 2)) 8 (nI i4)), .int s4] (eI f I) (eJ f J) R n g
    refine w_if_eq (tgt := 30) ok dX5_clashCount_19 (by decide) (fun c3 => ?_) (fun c3 => ?_)
    · skip
      refine w_iconst (v := 0) ok dX5_clashCount_30 (by decide) ?_
      refine w_iadd ok dX5_clashCount_31 ?_
      refine w_istore_n ok dX5_clashCount_32 rfl (by decide) rfl ?_
      refine w_iinc (v := (nI i4) + 1) ok dX5_clashCount_33 2 rfl rfl (by decide) rfl ?_
      refine w_goto (tgt := 4) ok dX5_clashCount_36 (by decide) ?_
      have eB : B_X5_clashCount_l4 k I J i4 s4 = (s4 + 0) := by
        unfold B_X5_clashCount_l4; exact (if_pos c3).trans (rfl)
      have kk := k4
      rw [eB] at kk
      refine w_loc [2, 1, 0] rfl ?_
      rw [nI_1 i4]
      exact kk
    · skip
      refine w_aload_n ok dX5_clashCount_22 0 rfl ?_
      refine w_iload_n ok dX5_clashCount_23 2 rfl ?_
      refine w_cV (As := [.int (nI i4)]) ok dX5_clashCount_24 iX5_clashing (lX5_97 rfl) (rcv cls5 (congrArg Prod.fst (sSc hk))) (ltK hnn (nSc hk)) (c_X5_clashing ro hnn hf (nI i4) hk) (by decide) rfl (Nat.le_of_ble_eq_true rfl) ?_
      show WK K 0 0 27 [(0, .ref k), (1, .int s4), (2, .int (nI i4))] [.int (F_X5_clashing k (nI i4) I J), .int s4] (eI f I) (eJ f J) R n g
      refine w_goto (tgt := 31) ok dX5_clashCount_27 (by decide) ?_
      refine w_iadd ok dX5_clashCount_31 ?_
      refine w_istore_n ok dX5_clashCount_32 rfl (by decide) rfl ?_
      refine w_iinc (v := (nI i4) + 1) ok dX5_clashCount_33 2 rfl rfl (by decide) rfl ?_
      refine w_goto (tgt := 4) ok dX5_clashCount_36 (by decide) ?_
      have eB : B_X5_clashCount_l4 k I J i4 s4 = (s4 + (F_X5_clashing k (nI i4) I J)) := by
        unfold B_X5_clashCount_l4; exact (if_neg c3).trans (rfl)
      have kk := k4
      rw [eB] at kk
      refine w_loc [2, 1, 0] rfl ?_
      rw [nI_1 i4]
      exact kk
def B_X5_filmedCount_l4 (k : Nat) (I : SI) (J : SJ) (i4 : Nat) (s4 : Int32) : Int32 := (s4 + (atF (I (k + 2)) 8 (nI i4)))
def F_X5_filmedCount_l4 (k : Nat) (I : SI) (J : SJ) (s0 : Int32) : Int32 := itN (B_X5_filmedCount_l4 k I J) (8) s0
def F_X5_filmedCount (k : Nat) (I : SI) (J : SJ) : Int32 := (F_X5_filmedCount_l4 k I J 0)
set_option maxHeartbeats 1000000 in
set_option maxRecDepth 40000 in
theorem c_X5_filmedCount {I : SI} {J : SJ} {R : SR} {n g : Nat} {f : Fr} (ro : RO R) (hnn : nK ≤ n) (hf : f.1 = true) {k : Nat} (hk : IsSc k)   : MM 1 0 0 mX5_filmedCount [.ref k] (eI f I) (eJ f J) R n g (Pd (some (.int (F_X5_filmedCount k I J))) (eI f I) (eJ f J) R n g) := by
  refine MM.of (by decide) (Nat.le_of_ble_eq_true rfl) fun K ok fin => ?_
  show WK K 0 0 0 [(0, .ref k)] [] (eI f I) (eJ f J) R n g
  refine w_iconst (v := 0) ok dX5_filmedCount_0 (by decide) ?_
  refine w_istore_n ok dX5_filmedCount_1 rfl (by decide) rfl ?_
  refine w_iconst (v := 0) ok dX5_filmedCount_2 (by decide) ?_
  refine w_istore_n ok dX5_filmedCount_3 rfl (by decide) rfl ?_
  refine w_loc [2, 1, 0] rfl ?_
  refine loop_for (σ := Int32) (fun (i4 : Nat) (s4 : Int32) => WK K 0 0 4 [(0, .ref k), (1, .int s4), (2, .int (nI i4))] [] (eI f I) (eJ f J) R n g) (B_X5_filmedCount_l4 k I J) (8) (0) ?_ ?_
  · show WK K 0 0 4 [(0, .ref k), (1, .int (F_X5_filmedCount_l4 k I J 0)), (2, .int (nI 8))] [] (eI f I) (eJ f J) R n g
    have e1 : (8 : Int32) ≤ (nI 8) := (show nI 8 ≤ nI 8 from nI_le (by omega) (by decide))
    refine w_iload_n ok dX5_filmedCount_4 2 rfl ?_
    refine w_bipush (v := 8) ok dX5_filmedCount_5 (by decide) ?_
    refine w_icmp_ge (tgt := 27) ok dX5_filmedCount_7 (by decide) (fun _ => ?_) (fun h => absurd e1 h)
    refine w_iload_n ok dX5_filmedCount_27 1 rfl ?_
    exact w_iret ok fin dX5_filmedCount_28 rfl (by unfold F_X5_filmedCount; exact Pd.i)
  · intro i4 s4 hi4 hs4 k4
    show WK K 0 0 4 [(0, .ref k), (1, .int s4), (2, .int (nI i4))] [] (eI f I) (eJ f J) R n g
    have e2 : ¬ ((8 : Int32) ≤ (nI i4)) := (show ¬ (nI 8 ≤ nI i4) from nI_ge (by omega) (by decide))
    refine w_iload_n ok dX5_filmedCount_4 2 rfl ?_
    refine w_bipush (v := 8) ok dX5_filmedCount_5 (by decide) ?_
    refine w_icmp_ge (tgt := 27) ok dX5_filmedCount_7 (by decide) (fun h => absurd h e2) (fun _ => ?_)
    refine w_iload_n ok dX5_filmedCount_10 1 rfl ?_
    refine w_aload_n ok dX5_filmedCount_11 0 rfl ?_
    refine w_getR ok dX5_filmedCount_12 (fX5_38 rfl) (congrArg Prod.fst (sSc hk)) rfl (rSc_8 hk ro) (ltK hnn (nSc hk)) ?_
    refine w_iload_n ok dX5_filmedCount_15 2 rfl ?_
    refine w_cS (As := [.ref (k + 2), .int (nI i4)]) ok dX5_filmedCount_16 iX11_at (lX5_89 rfl) (c_at (sSc_8 hk) (ltK hnn (nSc_8 hk)) (sdc hf (nSc_8 hk)) (nI i4)) (by decide) rfl (Nat.le_of_ble_eq_true rfl) ?_
    show WK K 0 0 19 [(0, .ref k), (1, .int s4), (2, .int (nI i4))] [.int (atF (I (k + 2)) 8 (nI i4)), .int s4] (eI f I) (eJ f J) R n g
    refine w_iadd ok dX5_filmedCount_19 ?_
    refine w_istore_n ok dX5_filmedCount_20 rfl (by decide) rfl ?_
    refine w_iinc (v := (nI i4) + 1) ok dX5_filmedCount_21 2 rfl rfl (by decide) rfl ?_
    refine w_goto (tgt := 4) ok dX5_filmedCount_24 (by decide) ?_
    have eB : B_X5_filmedCount_l4 k I J i4 s4 = (s4 + (atF (I (k + 2)) 8 (nI i4))) := by
      unfold B_X5_filmedCount_l4; exact rfl
    have kk := k4
    rw [eB] at kk
    refine w_loc [2, 1, 0] rfl ?_
    rw [nI_1 i4]
    exact kk
def B_X5_filmedWith_l5 (k : Nat) (a0 : Int32) (a1 : Int32) (I : SI) (J : SJ) (i5 : Nat) (s5 : Int32) : Int32 := if (nI i5) = a1 then (s5 + 0) else (if (atF (I (k + 2)) 8 (nI i5)) = 0 then (s5 + 0) else (if (F_X5_wayIn k (nI i5) a0 I J) < 0 then (s5 + 0) else (s5 + 1)))
def F_X5_filmedWith_l5 (k : Nat) (a0 : Int32) (a1 : Int32) (I : SI) (J : SJ) (s0 : Int32) : Int32 := itN (B_X5_filmedWith_l5 k a0 a1 I J) (8) s0
def F_X5_filmedWith (k : Nat) (a0 : Int32) (a1 : Int32) (I : SI) (J : SJ) : Int32 := (F_X5_filmedWith_l5 k a0 a1 I J 0)
set_option maxHeartbeats 1000000 in
set_option maxRecDepth 40000 in
theorem c_X5_filmedWith {I : SI} {J : SJ} {R : SR} {n g : Nat} {f : Fr} (ro : RO R) (hnn : nK ≤ n) (hf : f.1 = true) {k : Nat} (a0 : Int32) (a1 : Int32) (hk : IsSc k)   : MM 2 0 0 mX5_filmedWith [.ref k, .int a0, .int a1] (eI f I) (eJ f J) R n g (Pd (some (.int (F_X5_filmedWith k a0 a1 I J))) (eI f I) (eJ f J) R n g) := by
  refine MM.of (by decide) (Nat.le_of_ble_eq_true rfl) fun K ok fin => ?_
  show WK K 0 0 0 [(0, .ref k), (1, .int a0), (2, .int a1)] [] (eI f I) (eJ f J) R n g
  refine w_iconst (v := 0) ok dX5_filmedWith_0 (by decide) ?_
  refine w_istore_n ok dX5_filmedWith_1 rfl (by decide) rfl ?_
  refine w_iconst (v := 0) ok dX5_filmedWith_2 (by decide) ?_
  refine w_istore ok dX5_filmedWith_3 (by decide) rfl ?_
  refine w_loc [2, 3, 4, 1, 0] rfl ?_
  refine loop_for (σ := Int32) (fun (i5 : Nat) (s5 : Int32) => WK K 0 0 5 [(0, .ref k), (1, .int a0), (2, .int a1), (3, .int s5), (4, .int (nI i5))] [] (eI f I) (eJ f J) R n g) (B_X5_filmedWith_l5 k a0 a1 I J) (8) (0) ?_ ?_
  · show WK K 0 0 5 [(0, .ref k), (1, .int a0), (2, .int a1), (3, .int (F_X5_filmedWith_l5 k a0 a1 I J 0)), (4, .int (nI 8))] [] (eI f I) (eJ f J) R n g
    have e1 : (8 : Int32) ≤ (nI 8) := (show nI 8 ≤ nI 8 from nI_le (by omega) (by decide))
    refine w_iload ok dX5_filmedWith_5 4 rfl ?_
    refine w_bipush (v := 8) ok dX5_filmedWith_7 (by decide) ?_
    refine w_icmp_ge (tgt := 54) ok dX5_filmedWith_9 (by decide) (fun _ => ?_) (fun h => absurd e1 h)
    refine w_iload_n ok dX5_filmedWith_54 3 rfl ?_
    exact w_iret ok fin dX5_filmedWith_55 rfl (by unfold F_X5_filmedWith; exact Pd.i)
  · intro i5 s5 hi5 hs5 k5
    show WK K 0 0 5 [(0, .ref k), (1, .int a0), (2, .int a1), (3, .int s5), (4, .int (nI i5))] [] (eI f I) (eJ f J) R n g
    have e2 : ¬ ((8 : Int32) ≤ (nI i5)) := (show ¬ (nI 8 ≤ nI i5) from nI_ge (by omega) (by decide))
    refine w_iload ok dX5_filmedWith_5 4 rfl ?_
    refine w_bipush (v := 8) ok dX5_filmedWith_7 (by decide) ?_
    refine w_icmp_ge (tgt := 54) ok dX5_filmedWith_9 (by decide) (fun h => absurd h e2) (fun _ => ?_)
    refine w_iload_n ok dX5_filmedWith_12 3 rfl ?_
    refine w_iload ok dX5_filmedWith_13 4 rfl ?_
    refine w_iload_n ok dX5_filmedWith_15 2 rfl ?_
    refine w_icmp_eq (tgt := 45) ok dX5_filmedWith_16 (by decide) (fun c3 => ?_) (fun c3 => ?_)
    · skip
      refine w_iconst (v := 0) ok dX5_filmedWith_45 (by decide) ?_
      refine w_iadd ok dX5_filmedWith_46 ?_
      refine w_istore_n ok dX5_filmedWith_47 rfl (by decide) rfl ?_
      refine w_iinc (v := (nI i5) + 1) ok dX5_filmedWith_48 4 rfl rfl (by decide) rfl ?_
      refine w_goto (tgt := 5) ok dX5_filmedWith_51 (by decide) ?_
      have eB : B_X5_filmedWith_l5 k a0 a1 I J i5 s5 = (s5 + 0) := by
        unfold B_X5_filmedWith_l5; exact (if_pos c3).trans (rfl)
      have kk := k5
      rw [eB] at kk
      refine w_loc [2, 3, 4, 1, 0] rfl ?_
      rw [nI_1 i5]
      exact kk
    · skip
      refine w_aload_n ok dX5_filmedWith_19 0 rfl ?_
      refine w_getR ok dX5_filmedWith_20 (fX5_38 rfl) (congrArg Prod.fst (sSc hk)) rfl (rSc_8 hk ro) (ltK hnn (nSc hk)) ?_
      refine w_iload ok dX5_filmedWith_23 4 rfl ?_
      refine w_cS (As := [.ref (k + 2), .int (nI i5)]) ok dX5_filmedWith_25 iX11_at (lX5_89 rfl) (c_at (sSc_8 hk) (ltK hnn (nSc_8 hk)) (sdc hf (nSc_8 hk)) (nI i5)) (by decide) rfl (Nat.le_of_ble_eq_true rfl) ?_
      show WK K 0 0 28 [(0, .ref k), (1, .int a0), (2, .int a1), (3, .int s5), (4, .int (nI i5))] [.int (atF (I (k + 2)) 8 (nI i5)), .int s5] (eI f I) (eJ f J) R n g
      refine w_if_eq (tgt := 45) ok dX5_filmedWith_28 (by decide) (fun c4 => ?_) (fun c4 => ?_)
      · skip
        refine w_iconst (v := 0) ok dX5_filmedWith_45 (by decide) ?_
        refine w_iadd ok dX5_filmedWith_46 ?_
        refine w_istore_n ok dX5_filmedWith_47 rfl (by decide) rfl ?_
        refine w_iinc (v := (nI i5) + 1) ok dX5_filmedWith_48 4 rfl rfl (by decide) rfl ?_
        refine w_goto (tgt := 5) ok dX5_filmedWith_51 (by decide) ?_
        have eB : B_X5_filmedWith_l5 k a0 a1 I J i5 s5 = (s5 + 0) := by
          unfold B_X5_filmedWith_l5; exact (if_neg c3).trans ((if_pos c4).trans (rfl))
        have kk := k5
        rw [eB] at kk
        refine w_loc [2, 3, 4, 1, 0] rfl ?_
        rw [nI_1 i5]
        exact kk
      · skip
        refine w_aload_n ok dX5_filmedWith_31 0 rfl ?_
        refine w_iload ok dX5_filmedWith_32 4 rfl ?_
        refine w_iload_n ok dX5_filmedWith_34 1 rfl ?_
        refine w_cV (As := [.int (nI i5), .int a0]) ok dX5_filmedWith_35 iX5_wayIn (lX5_93 rfl) (rcv cls5 (congrArg Prod.fst (sSc hk))) (ltK hnn (nSc hk)) (c_X5_wayIn ro hnn hf (nI i5) a0 hk) (by decide) rfl (Nat.le_of_ble_eq_true rfl) ?_
        show WK K 0 0 38 [(0, .ref k), (1, .int a0), (2, .int a1), (3, .int s5), (4, .int (nI i5))] [.int (F_X5_wayIn k (nI i5) a0 I J), .int s5] (eI f I) (eJ f J) R n g
        refine w_if_lt (tgt := 45) ok dX5_filmedWith_38 (by decide) (fun c5 => ?_) (fun c5 => ?_)
        · skip
          refine w_iconst (v := 0) ok dX5_filmedWith_45 (by decide) ?_
          refine w_iadd ok dX5_filmedWith_46 ?_
          refine w_istore_n ok dX5_filmedWith_47 rfl (by decide) rfl ?_
          refine w_iinc (v := (nI i5) + 1) ok dX5_filmedWith_48 4 rfl rfl (by decide) rfl ?_
          refine w_goto (tgt := 5) ok dX5_filmedWith_51 (by decide) ?_
          have eB : B_X5_filmedWith_l5 k a0 a1 I J i5 s5 = (s5 + 0) := by
            unfold B_X5_filmedWith_l5; exact (if_neg c3).trans ((if_neg c4).trans ((if_pos c5).trans (rfl)))
          have kk := k5
          rw [eB] at kk
          refine w_loc [2, 3, 4, 1, 0] rfl ?_
          rw [nI_1 i5]
          exact kk
        · skip
          refine w_iconst (v := 1) ok dX5_filmedWith_41 (by decide) ?_
          refine w_goto (tgt := 46) ok dX5_filmedWith_42 (by decide) ?_
          refine w_iadd ok dX5_filmedWith_46 ?_
          refine w_istore_n ok dX5_filmedWith_47 rfl (by decide) rfl ?_
          refine w_iinc (v := (nI i5) + 1) ok dX5_filmedWith_48 4 rfl rfl (by decide) rfl ?_
          refine w_goto (tgt := 5) ok dX5_filmedWith_51 (by decide) ?_
          have eB : B_X5_filmedWith_l5 k a0 a1 I J i5 s5 = (s5 + 1) := by
            unfold B_X5_filmedWith_l5; exact (if_neg c3).trans ((if_neg c4).trans ((if_neg c5).trans (rfl)))
          have kk := k5
          rw [eB] at kk
          refine w_loc [2, 3, 4, 1, 0] rfl ?_
          rw [nI_1 i5]
          exact kk
def B_X5_givenCount_l4 (k : Nat) (I : SI) (J : SJ) (i4 : Nat) (s4 : Int32) : Int32 := (s4 + (atF (I (k + 6)) 6 (nI i4)))
def F_X5_givenCount_l4 (k : Nat) (I : SI) (J : SJ) (s0 : Int32) : Int32 := itN (B_X5_givenCount_l4 k I J) (6) s0
def F_X5_givenCount (k : Nat) (I : SI) (J : SJ) : Int32 := (F_X5_givenCount_l4 k I J 0)
set_option maxHeartbeats 1000000 in
set_option maxRecDepth 40000 in
theorem c_X5_givenCount {I : SI} {J : SJ} {R : SR} {n g : Nat} {f : Fr} (ro : RO R) (hnn : nK ≤ n) (hf : f.1 = true) {k : Nat} (hk : IsSc k)   : MM 1 0 0 mX5_givenCount [.ref k] (eI f I) (eJ f J) R n g (Pd (some (.int (F_X5_givenCount k I J))) (eI f I) (eJ f J) R n g) := by
  refine MM.of (by decide) (Nat.le_of_ble_eq_true rfl) fun K ok fin => ?_
  show WK K 0 0 0 [(0, .ref k)] [] (eI f I) (eJ f J) R n g
  refine w_iconst (v := 0) ok dX5_givenCount_0 (by decide) ?_
  refine w_istore_n ok dX5_givenCount_1 rfl (by decide) rfl ?_
  refine w_iconst (v := 0) ok dX5_givenCount_2 (by decide) ?_
  refine w_istore_n ok dX5_givenCount_3 rfl (by decide) rfl ?_
  refine w_loc [2, 1, 0] rfl ?_
  refine loop_for (σ := Int32) (fun (i4 : Nat) (s4 : Int32) => WK K 0 0 4 [(0, .ref k), (1, .int s4), (2, .int (nI i4))] [] (eI f I) (eJ f J) R n g) (B_X5_givenCount_l4 k I J) (6) (0) ?_ ?_
  · show WK K 0 0 4 [(0, .ref k), (1, .int (F_X5_givenCount_l4 k I J 0)), (2, .int (nI 6))] [] (eI f I) (eJ f J) R n g
    have e1 : (6 : Int32) ≤ (nI 6) := (show nI 6 ≤ nI 6 from nI_le (by omega) (by decide))
    refine w_iload_n ok dX5_givenCount_4 2 rfl ?_
    refine w_bipush (v := 6) ok dX5_givenCount_5 (by decide) ?_
    refine w_icmp_ge (tgt := 27) ok dX5_givenCount_7 (by decide) (fun _ => ?_) (fun h => absurd e1 h)
    refine w_iload_n ok dX5_givenCount_27 1 rfl ?_
    exact w_iret ok fin dX5_givenCount_28 rfl (by unfold F_X5_givenCount; exact Pd.i)
  · intro i4 s4 hi4 hs4 k4
    show WK K 0 0 4 [(0, .ref k), (1, .int s4), (2, .int (nI i4))] [] (eI f I) (eJ f J) R n g
    have e2 : ¬ ((6 : Int32) ≤ (nI i4)) := (show ¬ (nI 6 ≤ nI i4) from nI_ge (by omega) (by decide))
    refine w_iload_n ok dX5_givenCount_4 2 rfl ?_
    refine w_bipush (v := 6) ok dX5_givenCount_5 (by decide) ?_
    refine w_icmp_ge (tgt := 27) ok dX5_givenCount_7 (by decide) (fun h => absurd h e2) (fun _ => ?_)
    refine w_iload_n ok dX5_givenCount_10 1 rfl ?_
    refine w_aload_n ok dX5_givenCount_11 0 rfl ?_
    refine w_getR ok dX5_givenCount_12 (fX5_50 rfl) (congrArg Prod.fst (sSc hk)) rfl (rSc_12 hk ro) (ltK hnn (nSc hk)) ?_
    refine w_iload_n ok dX5_givenCount_15 2 rfl ?_
    refine w_cS (As := [.ref (k + 6), .int (nI i4)]) ok dX5_givenCount_16 iX11_at (lX5_89 rfl) (c_at (sSc_12 hk) (ltK hnn (nSc_12 hk)) (sdc hf (nSc_12 hk)) (nI i4)) (by decide) rfl (Nat.le_of_ble_eq_true rfl) ?_
    show WK K 0 0 19 [(0, .ref k), (1, .int s4), (2, .int (nI i4))] [.int (atF (I (k + 6)) 6 (nI i4)), .int s4] (eI f I) (eJ f J) R n g
    refine w_iadd ok dX5_givenCount_19 ?_
    refine w_istore_n ok dX5_givenCount_20 rfl (by decide) rfl ?_
    refine w_iinc (v := (nI i4) + 1) ok dX5_givenCount_21 2 rfl rfl (by decide) rfl ?_
    refine w_goto (tgt := 4) ok dX5_givenCount_24 (by decide) ?_
    have eB : B_X5_givenCount_l4 k I J i4 s4 = (s4 + (atF (I (k + 6)) 6 (nI i4))) := by
      unfold B_X5_givenCount_l4; exact rfl
    have kk := k4
    rw [eB] at kk
    refine w_loc [2, 1, 0] rfl ?_
    rw [nI_1 i4]
    exact kk
def B_X5_breaksBehind_l28 (k : Nat) (a0 : Int32) (I : SI) (J : SJ) (i28 : Nat) (s28 : Int32) : Int32 := if (F_X5_wayIn k a0 (nI i28) I J) < 0 then (s28 + 0) else (if (F_X5_wayIn k (a0 + 1) (nI i28) I J) < 0 then (s28 + 0) else (if (F_X5_wayIn k a0 (nI i28) I J) = (F_X5_wayIn k (a0 + 1) (nI i28) I J) then (s28 + 0) else (s28 + 1)))
def F_X5_breaksBehind_l28 (k : Nat) (a0 : Int32) (I : SI) (J : SJ) (s0 : Int32) : Int32 := itN (B_X5_breaksBehind_l28 k a0 I J) (6) s0
def F_X5_breaksBehind (k : Nat) (a0 : Int32) (I : SI) (J : SJ) : Int32 := if (atF (I (k + 2)) 8 a0) = 0 then 0 else (if (atF (I (k + 2)) 8 (a0 + 1)) = 0 then 0 else (F_X5_breaksBehind_l28 k a0 I J 0))
set_option maxHeartbeats 1140000 in
set_option maxRecDepth 40000 in
theorem c_X5_breaksBehind {I : SI} {J : SJ} {R : SR} {n g : Nat} {f : Fr} (ro : RO R) (hnn : nK ≤ n) (hf : f.1 = true) {k : Nat} (a0 : Int32) (hk : IsSc k)   : MM 2 0 0 mX5_breaksBehind [.ref k, .int a0] (eI f I) (eJ f J) R n g (Pd (some (.int (F_X5_breaksBehind k a0 I J))) (eI f I) (eJ f J) R n g) := by
  refine MM.of (by decide) (Nat.le_of_ble_eq_true rfl) fun K ok fin => ?_
  show WK K 0 0 0 [(0, .ref k), (1, .int a0)] [] (eI f I) (eJ f J) R n g
  refine w_iconst (v := 0) ok dX5_breaksBehind_0 (by decide) ?_
  refine w_istore_n ok dX5_breaksBehind_1 rfl (by decide) rfl ?_
  refine w_aload_n ok dX5_breaksBehind_2 1 rfl ?_
  refine w_getR ok dX5_breaksBehind_3 (fX5_38 rfl) (congrArg Prod.fst (sSc hk)) rfl (rSc_8 hk ro) (ltK hnn (nSc hk)) ?_
  refine w_iload_n ok dX5_breaksBehind_6 2 rfl ?_
  refine w_cS (As := [.ref (k + 2), .int a0]) ok dX5_breaksBehind_7 iX11_at (lX5_89 rfl) (c_at (sSc_8 hk) (ltK hnn (nSc_8 hk)) (sdc hf (nSc_8 hk)) a0) (by decide) rfl (Nat.le_of_ble_eq_true rfl) ?_
  refine w_if_eq (tgt := 83) ok dX5_breaksBehind_10 (by decide) (fun c1 => ?_) (fun c1 => ?_)
  · skip
    refine w_iload_n ok dX5_breaksBehind_83 0 rfl ?_
    exact w_iret ok fin dX5_breaksBehind_84 rfl (by unfold F_X5_breaksBehind; simp only [if_pos c1]; exact Pd.i)
  · skip
    refine w_aload_n ok dX5_breaksBehind_13 1 rfl ?_
    refine w_getR ok dX5_breaksBehind_14 (fX5_38 rfl) (congrArg Prod.fst (sSc hk)) rfl (rSc_8 hk ro) (ltK hnn (nSc hk)) ?_
    refine w_iload_n ok dX5_breaksBehind_17 2 rfl ?_
    refine w_iconst (v := 1) ok dX5_breaksBehind_18 (by decide) ?_
    refine w_iadd ok dX5_breaksBehind_19 ?_
    refine w_cS (As := [.ref (k + 2), .int (a0 + 1)]) ok dX5_breaksBehind_20 iX11_at (lX5_89 rfl) (c_at (sSc_8 hk) (ltK hnn (nSc_8 hk)) (sdc hf (nSc_8 hk)) (a0 + 1)) (by decide) rfl (Nat.le_of_ble_eq_true rfl) ?_
    refine w_if_eq (tgt := 83) ok dX5_breaksBehind_23 (by decide) (fun c2 => ?_) (fun c2 => ?_)
    · skip
      refine w_iload_n ok dX5_breaksBehind_83 0 rfl ?_
      exact w_iret ok fin dX5_breaksBehind_84 rfl (by unfold F_X5_breaksBehind; simp only [if_neg c1]; simp only [if_pos c2]; exact Pd.i)
    · skip
      refine w_iconst (v := 0) ok dX5_breaksBehind_26 (by decide) ?_
      refine w_istore_n ok dX5_breaksBehind_27 rfl (by decide) rfl ?_
      refine w_loc [2, 3, 1, 0] rfl ?_
      refine loop_for (σ := Int32) (fun (i28 : Nat) (s28 : Int32) => WK K 0 0 28 [(0, .ref k), (1, .int a0), (2, .int s28), (3, .int (nI i28))] [] (eI f I) (eJ f J) R n g) (B_X5_breaksBehind_l28 k a0 I J) (6) (0) ?_ ?_
      · show WK K 0 0 28 [(0, .ref k), (1, .int a0), (2, .int (F_X5_breaksBehind_l28 k a0 I J 0)), (3, .int (nI 6))] [] (eI f I) (eJ f J) R n g
        have e3 : (6 : Int32) ≤ (nI 6) := (show nI 6 ≤ nI 6 from nI_le (by omega) (by decide))
        refine w_iload_n ok dX5_breaksBehind_28 3 rfl ?_
        refine w_bipush (v := 6) ok dX5_breaksBehind_29 (by decide) ?_
        refine w_icmp_ge (tgt := 83) ok dX5_breaksBehind_31 (by decide) (fun _ => ?_) (fun h => absurd e3 h)
        refine w_iload_n ok dX5_breaksBehind_83 2 rfl ?_
        exact w_iret ok fin dX5_breaksBehind_84 rfl (by unfold F_X5_breaksBehind; simp only [if_neg c1]; simp only [if_neg c2]; exact Pd.i)
      · intro i28 s28 hi28 hs28 k28
        show WK K 0 0 28 [(0, .ref k), (1, .int a0), (2, .int s28), (3, .int (nI i28))] [] (eI f I) (eJ f J) R n g
        have e4 : ¬ ((6 : Int32) ≤ (nI i28)) := (show ¬ (nI 6 ≤ nI i28) from nI_ge (by omega) (by decide))
        refine w_iload_n ok dX5_breaksBehind_28 3 rfl ?_
        refine w_bipush (v := 6) ok dX5_breaksBehind_29 (by decide) ?_
        refine w_icmp_ge (tgt := 83) ok dX5_breaksBehind_31 (by decide) (fun h => absurd h e4) (fun _ => ?_)
        refine w_aload_n ok dX5_breaksBehind_34 0 rfl ?_
        refine w_iload_n ok dX5_breaksBehind_35 1 rfl ?_
        refine w_iload_n ok dX5_breaksBehind_36 3 rfl ?_
        refine w_cV (As := [.int a0, .int (nI i28)]) ok dX5_breaksBehind_37 iX5_wayIn (lX5_93 rfl) (rcv cls5 (congrArg Prod.fst (sSc hk))) (ltK hnn (nSc hk)) (c_X5_wayIn ro hnn hf a0 (nI i28) hk) (by decide) rfl (Nat.le_of_ble_eq_true rfl) ?_
        refine w_istore ok dX5_breaksBehind_40 (by decide) rfl ?_
        refine w_aload_n ok dX5_breaksBehind_42 1 rfl ?_
        refine w_iload_n ok dX5_breaksBehind_43 2 rfl ?_
        refine w_iconst (v := 1) ok dX5_breaksBehind_44 (by decide) ?_
        refine w_iadd ok dX5_breaksBehind_45 ?_
        refine w_iload_n ok dX5_breaksBehind_46 4 rfl ?_
        refine w_cV (As := [.int (a0 + 1), .int (nI i28)]) ok dX5_breaksBehind_47 iX5_wayIn (lX5_93 rfl) (rcv cls5 (congrArg Prod.fst (sSc hk))) (ltK hnn (nSc hk)) (c_X5_wayIn ro hnn hf (a0 + 1) (nI i28) hk) (by decide) rfl (Nat.le_of_ble_eq_true rfl) ?_
        refine w_istore ok dX5_breaksBehind_50 (by decide) rfl ?_
        refine w_iload_n ok dX5_breaksBehind_52 4 rfl ?_
        refine w_iload ok dX5_breaksBehind_53 1 rfl ?_
        refine w_if_lt (tgt := 74) ok dX5_breaksBehind_55 (by decide) (fun c5 => ?_) (fun c5 => ?_)
        · skip
          refine w_iconst (v := 0) ok dX5_breaksBehind_74 (by decide) ?_
          refine w_iadd ok dX5_breaksBehind_75 ?_
          refine w_istore_n ok dX5_breaksBehind_76 rfl (by decide) rfl ?_
          refine w_iinc (v := (nI i28) + 1) ok dX5_breaksBehind_77 5 rfl rfl (by decide) rfl ?_
          refine w_goto (tgt := 28) ok dX5_breaksBehind_80 (by decide) ?_
          have eB : B_X5_breaksBehind_l28 k a0 I J i28 s28 = (s28 + 0) := by
            unfold B_X5_breaksBehind_l28; exact (if_pos c5).trans (rfl)
          have kk := k28
          rw [eB] at kk
          refine w_loc [4, 5, 1, 0] rfl ?_
          rw [nI_1 i28]
          exact kk
        · skip
          refine w_iload ok dX5_breaksBehind_58 0 rfl ?_
          refine w_if_lt (tgt := 74) ok dX5_breaksBehind_60 (by decide) (fun c6 => ?_) (fun c6 => ?_)
          · skip
            refine w_iconst (v := 0) ok dX5_breaksBehind_74 (by decide) ?_
            refine w_iadd ok dX5_breaksBehind_75 ?_
            refine w_istore_n ok dX5_breaksBehind_76 rfl (by decide) rfl ?_
            refine w_iinc (v := (nI i28) + 1) ok dX5_breaksBehind_77 5 rfl rfl (by decide) rfl ?_
            refine w_goto (tgt := 28) ok dX5_breaksBehind_80 (by decide) ?_
            have eB : B_X5_breaksBehind_l28 k a0 I J i28 s28 = (s28 + 0) := by
              unfold B_X5_breaksBehind_l28; exact (if_neg c5).trans ((if_pos c6).trans (rfl))
            have kk := k28
            rw [eB] at kk
            refine w_loc [4, 5, 1, 0] rfl ?_
            rw [nI_1 i28]
            exact kk
          · skip
            refine w_iload ok dX5_breaksBehind_63 1 rfl ?_
            refine w_iload ok dX5_breaksBehind_65 0 rfl ?_
            refine w_icmp_eq (tgt := 74) ok dX5_breaksBehind_67 (by decide) (fun c7 => ?_) (fun c7 => ?_)
            · skip
              refine w_iconst (v := 0) ok dX5_breaksBehind_74 (by decide) ?_
              refine w_iadd ok dX5_breaksBehind_75 ?_
              refine w_istore_n ok dX5_breaksBehind_76 rfl (by decide) rfl ?_
              refine w_iinc (v := (nI i28) + 1) ok dX5_breaksBehind_77 5 rfl rfl (by decide) rfl ?_
              refine w_goto (tgt := 28) ok dX5_breaksBehind_80 (by decide) ?_
              have eB : B_X5_breaksBehind_l28 k a0 I J i28 s28 = (s28 + 0) := by
                unfold B_X5_breaksBehind_l28; exact (if_neg c5).trans ((if_neg c6).trans ((if_pos c7).trans (rfl)))
              have kk := k28
              rw [eB] at kk
              refine w_loc [4, 5, 1, 0] rfl ?_
              rw [nI_1 i28]
              exact kk
            · skip
              refine w_iconst (v := 1) ok dX5_breaksBehind_70 (by decide) ?_
              refine w_goto (tgt := 75) ok dX5_breaksBehind_71 (by decide) ?_
              refine w_iadd ok dX5_breaksBehind_75 ?_
              refine w_istore_n ok dX5_breaksBehind_76 rfl (by decide) rfl ?_
              refine w_iinc (v := (nI i28) + 1) ok dX5_breaksBehind_77 5 rfl rfl (by decide) rfl ?_
              refine w_goto (tgt := 28) ok dX5_breaksBehind_80 (by decide) ?_
              have eB : B_X5_breaksBehind_l28 k a0 I J i28 s28 = (s28 + 1) := by
                unfold B_X5_breaksBehind_l28; exact (if_neg c5).trans ((if_neg c6).trans ((if_neg c7).trans (rfl)))
              have kk := k28
              rw [eB] at kk
              refine w_loc [4, 5, 1, 0] rfl ?_
              rw [nI_1 i28]
              exact kk
def B_X5_breakCount_l4 (k : Nat) (I : SI) (J : SJ) (i4 : Nat) (s4 : Int32) : Int32 := (s4 + (F_X5_breaksBehind k (nI i4) I J))
def F_X5_breakCount_l4 (k : Nat) (I : SI) (J : SJ) (s0 : Int32) : Int32 := itN (B_X5_breakCount_l4 k I J) (7) s0
def F_X5_breakCount (k : Nat) (I : SI) (J : SJ) : Int32 := (F_X5_breakCount_l4 k I J 0)
set_option maxHeartbeats 1000000 in
set_option maxRecDepth 40000 in
theorem c_X5_breakCount {I : SI} {J : SJ} {R : SR} {n g : Nat} {f : Fr} (ro : RO R) (hnn : nK ≤ n) (hf : f.1 = true) {k : Nat} (hk : IsSc k)   : MM 3 0 0 mX5_breakCount [.ref k] (eI f I) (eJ f J) R n g (Pd (some (.int (F_X5_breakCount k I J))) (eI f I) (eJ f J) R n g) := by
  refine MM.of (by decide) (Nat.le_of_ble_eq_true rfl) fun K ok fin => ?_
  show WK K 0 0 0 [(0, .ref k)] [] (eI f I) (eJ f J) R n g
  refine w_iconst (v := 0) ok dX5_breakCount_0 (by decide) ?_
  refine w_istore_n ok dX5_breakCount_1 rfl (by decide) rfl ?_
  refine w_iconst (v := 0) ok dX5_breakCount_2 (by decide) ?_
  refine w_istore_n ok dX5_breakCount_3 rfl (by decide) rfl ?_
  refine w_loc [2, 1, 0] rfl ?_
  refine loop_for (σ := Int32) (fun (i4 : Nat) (s4 : Int32) => WK K 0 0 4 [(0, .ref k), (1, .int s4), (2, .int (nI i4))] [] (eI f I) (eJ f J) R n g) (B_X5_breakCount_l4 k I J) (7) (0) ?_ ?_
  · show WK K 0 0 4 [(0, .ref k), (1, .int (F_X5_breakCount_l4 k I J 0)), (2, .int (nI 7))] [] (eI f I) (eJ f J) R n g
    have e1 : (7 : Int32) ≤ (nI 7) := (show nI 7 ≤ nI 7 from nI_le (by omega) (by decide))
    refine w_iload_n ok dX5_breakCount_4 2 rfl ?_
    refine w_bipush (v := 7) ok dX5_breakCount_5 (by decide) ?_
    refine w_icmp_ge (tgt := 24) ok dX5_breakCount_7 (by decide) (fun _ => ?_) (fun h => absurd e1 h)
    refine w_iload_n ok dX5_breakCount_24 1 rfl ?_
    exact w_iret ok fin dX5_breakCount_25 rfl (by unfold F_X5_breakCount; exact Pd.i)
  · intro i4 s4 hi4 hs4 k4
    show WK K 0 0 4 [(0, .ref k), (1, .int s4), (2, .int (nI i4))] [] (eI f I) (eJ f J) R n g
    have e2 : ¬ ((7 : Int32) ≤ (nI i4)) := (show ¬ (nI 7 ≤ nI i4) from nI_ge (by omega) (by decide))
    refine w_iload_n ok dX5_breakCount_4 2 rfl ?_
    refine w_bipush (v := 7) ok dX5_breakCount_5 (by decide) ?_
    refine w_icmp_ge (tgt := 24) ok dX5_breakCount_7 (by decide) (fun h => absurd h e2) (fun _ => ?_)
    refine w_iload_n ok dX5_breakCount_10 1 rfl ?_
    refine w_aload_n ok dX5_breakCount_11 0 rfl ?_
    refine w_iload_n ok dX5_breakCount_12 2 rfl ?_
    refine w_cV (As := [.int (nI i4)]) ok dX5_breakCount_13 iX5_breaksBehind (lX5_101 rfl) (rcv cls5 (congrArg Prod.fst (sSc hk))) (ltK hnn (nSc hk)) (c_X5_breaksBehind ro hnn hf (nI i4) hk) (by decide) rfl (Nat.le_of_ble_eq_true rfl) ?_
    show WK K 0 0 16 [(0, .ref k), (1, .int s4), (2, .int (nI i4))] [.int (F_X5_breaksBehind k (nI i4) I J), .int s4] (eI f I) (eJ f J) R n g
    refine w_iadd ok dX5_breakCount_16 ?_
    refine w_istore_n ok dX5_breakCount_17 rfl (by decide) rfl ?_
    refine w_iinc (v := (nI i4) + 1) ok dX5_breakCount_18 2 rfl rfl (by decide) rfl ?_
    refine w_goto (tgt := 4) ok dX5_breakCount_21 (by decide) ?_
    have eB : B_X5_breakCount_l4 k I J i4 s4 = (s4 + (F_X5_breaksBehind k (nI i4) I J)) := by
      unfold B_X5_breakCount_l4; exact rfl
    have kk := k4
    rw [eB] at kk
    refine w_loc [2, 1, 0] rfl ?_
    rw [nI_1 i4]
    exact kk
def FI_X6_clear  (I : SI) (J : SJ) : SI := u2 (u2 I 116 0 0) 116 1 (-1)
set_option maxHeartbeats 1000000 in
set_option maxRecDepth 40000 in
theorem c_X6_clear {I : SI} {J : SJ} {R : SR} {n g : Nat} {f : Fr} (ro : RO R) (hnn : nK ≤ n) (hf : f.1 = true)    : MM 0 0 0 mX6_clear [.ref 116] (eI f I) (eJ f J) R n g (Pd none (eI f (FI_X6_clear  I J)) (eJ f J) R n g) := by
  refine MM.of (by decide) (Nat.le_of_ble_eq_true rfl) fun K ok fin => ?_
  show WK K 0 0 0 [(0, .ref 116)] [] (eI f I) (eJ f J) R n g
  refine w_aload_n ok dX6_clear_0 0 rfl ?_
  refine w_iconst (v := 0) ok dX6_clear_1 (by decide) ?_
  refine y_putI ok dX6_clear_2 (fwX6_9 rfl) (congrArg Prod.fst s_116) rfl (ltK hnn (by decide)) (sdc hf (by decide)) ?_
  refine w_aload_n ok dX6_clear_5 0 rfl ?_
  refine w_iconst (v := (-1)) ok dX6_clear_6 (by decide) ?_
  refine y_putI ok dX6_clear_7 (fwX6_15 rfl) (congrArg Prod.fst s_116) rfl (ltK hnn (by decide)) (sdc hf (by decide)) ?_
  exact w_vret ok fin dX6_clear_10 rfl (by unfold FI_X6_clear; exact Pd.i)
def S1_X6_add (a0 : Int32) (a1 : Int32) (a2 : Int32) (I : SI) (J : SJ) : SI := putF (putF I 117 24 (I 116 0) a0) 118 24 ((putF I 117 24 (I 116 0) a0) 116 0) a1
def S2_X6_add (a0 : Int32) (a1 : Int32) (a2 : Int32) (I : SI) (J : SJ) : SI := putF (S1_X6_add a0 a1 a2 I J) 119 24 (((S1_X6_add a0 a1 a2 I J)) 116 0) a2
def S3_X6_add (a0 : Int32) (a1 : Int32) (a2 : Int32) (I : SI) (J : SJ) : SI := u2 (S2_X6_add a0 a1 a2 I J) 116 0 ((((S2_X6_add a0 a1 a2 I J)) 116 0) + 1)
def F_X6_add (a0 : Int32) (a1 : Int32) (a2 : Int32) (I : SI) (J : SJ) : Int32 := if (I 116 0) < 24 then (((S3_X6_add a0 a1 a2 I J)) 116 0) - 1 else -1
def FI_X6_add (a0 : Int32) (a1 : Int32) (a2 : Int32) (I : SI) (J : SJ) : SI := if (I 116 0) < 24 then (S3_X6_add a0 a1 a2 I J) else I
set_option maxHeartbeats 1000000 in
set_option maxRecDepth 40000 in
theorem c_X6_add {I : SI} {J : SJ} {R : SR} {n g : Nat} {f : Fr} (ro : RO R) (hnn : nK ≤ n) (hf : f.1 = true) (a0 : Int32) (a1 : Int32) (a2 : Int32)   : MM 1 0 0 mX6_add [.ref 116, .int a0, .int a1, .int a2] (eI f I) (eJ f J) R n g (Pd (some (.int (F_X6_add a0 a1 a2 I J))) (eI f (FI_X6_add a0 a1 a2 I J)) (eJ f J) R n g) := by
  refine MM.of (by decide) (Nat.le_of_ble_eq_true rfl) fun K ok fin => ?_
  show WK K 0 0 0 [(0, .ref 116), (1, .int a0), (2, .int a1), (3, .int a2)] [] (eI f I) (eJ f J) R n g
  refine w_aload_n ok dX6_add_0 0 rfl ?_
  refine y_getI ok dX6_add_1 (fX6_9 rfl) (congrArg Prod.fst s_116) rfl (ltK hnn (by decide)) (sdc hf (by decide)) ?_
  refine w_bipush (v := 24) ok dX6_add_4 (by decide) ?_
  refine w_icmp_lt (tgt := 11) ok dX6_add_6 (by decide) (fun c1 => ?_) (fun c1 => ?_)
  · skip
    refine w_aload_n ok dX6_add_11 0 rfl ?_
    refine w_getR ok dX6_add_12 (fX6_18 rfl) (congrArg Prod.fst s_116) rfl (r_116_2 ro) (ltK hnn (by decide)) ?_
    refine w_aload_n ok dX6_add_15 0 rfl ?_
    refine y_getI ok dX6_add_16 (fX6_9 rfl) (congrArg Prod.fst s_116) rfl (ltK hnn (by decide)) (sdc hf (by decide)) ?_
    refine w_iload_n ok dX6_add_19 1 rfl ?_
    refine w_cS (As := [.ref 117, .int (I 116 0), .int a0]) ok dX6_add_20 iX11_put (lX6_28 rfl) (c_put s_117 (ltK hnn (by decide)) (sdc hf (by decide)) (I 116 0) a0) (by decide) rfl (Nat.le_of_ble_eq_true rfl) ?_
    refine w_aload_n ok dX6_add_23 0 rfl ?_
    refine w_getR ok dX6_add_24 (fX6_22 rfl) (congrArg Prod.fst s_116) rfl (r_116_3 ro) (ltK hnn (by decide)) ?_
    refine w_aload_n ok dX6_add_27 0 rfl ?_
    refine y_getI ok dX6_add_28 (fX6_9 rfl) (congrArg Prod.fst s_116) rfl (ltK hnn (by decide)) (sdc hf (by decide)) ?_
    refine w_iload_n ok dX6_add_31 2 rfl ?_
    refine w_cS (As := [.ref 118, .int ((putF I 117 24 (I 116 0) a0) 116 0), .int a1]) ok dX6_add_32 iX11_put (lX6_28 rfl) (c_put s_118 (ltK hnn (by decide)) (sdc hf (by decide)) ((putF I 117 24 (I 116 0) a0) 116 0) a1) (by decide) rfl (Nat.le_of_ble_eq_true rfl) ?_
    show WK K 0 0 35 [(0, .ref 116), (1, .int a0), (2, .int a1), (3, .int a2)] [] (eI f (S1_X6_add a0 a1 a2 I J)) (eJ f J) R n g
    refine w_aload_n ok dX6_add_35 0 rfl ?_
    refine w_getR ok dX6_add_36 (fX6_25 rfl) (congrArg Prod.fst s_116) rfl (r_116_4 ro) (ltK hnn (by decide)) ?_
    refine w_aload_n ok dX6_add_39 0 rfl ?_
    refine y_getI ok dX6_add_40 (fX6_9 rfl) (congrArg Prod.fst s_116) rfl (ltK hnn (by decide)) (sdc hf (by decide)) ?_
    refine w_iload_n ok dX6_add_43 3 rfl ?_
    refine w_cS (As := [.ref 119, .int (((S1_X6_add a0 a1 a2 I J)) 116 0), .int a2]) ok dX6_add_44 iX11_put (lX6_28 rfl) (c_put s_119 (ltK hnn (by decide)) (sdc hf (by decide)) (((S1_X6_add a0 a1 a2 I J)) 116 0) a2) (by decide) rfl (Nat.le_of_ble_eq_true rfl) ?_
    show WK K 0 0 47 [(0, .ref 116), (1, .int a0), (2, .int a1), (3, .int a2)] [] (eI f (S2_X6_add a0 a1 a2 I J)) (eJ f J) R n g
    refine w_aload_n ok dX6_add_47 0 rfl ?_
    refine w_dup ok dX6_add_48 rfl ?_
    refine y_getI ok dX6_add_49 (fX6_9 rfl) (congrArg Prod.fst s_116) rfl (ltK hnn (by decide)) (sdc hf (by decide)) ?_
    refine w_iconst (v := 1) ok dX6_add_52 (by decide) ?_
    refine w_iadd ok dX6_add_53 ?_
    refine y_putI ok dX6_add_54 (fwX6_9 rfl) (congrArg Prod.fst s_116) rfl (ltK hnn (by decide)) (sdc hf (by decide)) ?_
    show WK K 0 0 57 [(0, .ref 116), (1, .int a0), (2, .int a1), (3, .int a2)] [] (eI f (S3_X6_add a0 a1 a2 I J)) (eJ f J) R n g
    refine w_aload_n ok dX6_add_57 0 rfl ?_
    refine y_getI ok dX6_add_58 (fX6_9 rfl) (congrArg Prod.fst s_116) rfl (ltK hnn (by decide)) (sdc hf (by decide)) ?_
    refine w_iconst (v := 1) ok dX6_add_61 (by decide) ?_
    refine w_isub ok dX6_add_62 ?_
    exact w_iret ok fin dX6_add_63 rfl (by unfold F_X6_add FI_X6_add; simp only [if_pos c1]; exact Pd.i)
  · skip
    refine w_iconst (v := (-1)) ok dX6_add_9 (by decide) ?_
    exact w_iret ok fin dX6_add_10 rfl (by unfold F_X6_add FI_X6_add; simp only [if_neg c1]; exact Pd.i)
def F_X6_knownCount  (I : SI) (J : SJ) : Int32 := if (0 : Int32) ≤ (I 116 1) then I 116 1 else I 116 0
set_option maxHeartbeats 1000000 in
set_option maxRecDepth 40000 in
theorem c_X6_knownCount {I : SI} {J : SJ} {R : SR} {n g : Nat} {f : Fr} (ro : RO R) (hnn : nK ≤ n) (hf : f.1 = true)    : MM 0 0 0 mX6_knownCount [.ref 116] (eI f I) (eJ f J) R n g (Pd (some (.int (F_X6_knownCount  I J))) (eI f I) (eJ f J) R n g) := by
  refine MM.of (by decide) (Nat.le_of_ble_eq_true rfl) fun K ok fin => ?_
  show WK K 0 0 0 [(0, .ref 116)] [] (eI f I) (eJ f J) R n g
  refine w_aload_n ok dX6_knownCount_0 0 rfl ?_
  refine y_getI ok dX6_knownCount_1 (fX6_15 rfl) (congrArg Prod.fst s_116) rfl (ltK hnn (by decide)) (sdc hf (by decide)) ?_
  refine w_if_ge (tgt := 14) ok dX6_knownCount_4 (by decide) (fun c1 => ?_) (fun c1 => ?_)
  · skip
    refine w_aload_n ok dX6_knownCount_14 0 rfl ?_
    refine y_getI ok dX6_knownCount_15 (fX6_15 rfl) (congrArg Prod.fst s_116) rfl (ltK hnn (by decide)) (sdc hf (by decide)) ?_
    exact w_iret ok fin dX6_knownCount_18 rfl (by unfold F_X6_knownCount; simp only [if_pos c1]; exact Pd.i)
  · skip
    refine w_aload_n ok dX6_knownCount_7 0 rfl ?_
    refine y_getI ok dX6_knownCount_8 (fX6_9 rfl) (congrArg Prod.fst s_116) rfl (ltK hnn (by decide)) (sdc hf (by decide)) ?_
    refine w_goto (tgt := 18) ok dX6_knownCount_11 (by decide) ?_
    exact w_iret ok fin dX6_knownCount_18 rfl (by unfold F_X6_knownCount; simp only [if_neg c1]; exact Pd.i)
def T_X6_knownOnes_j28 (I : SI) (J : SJ) (s11 : Int32 × Int32 × Int32) : Int32 := if ((s11.1 >>> (s11.2.2 &&& 31)) &&& 1) = 0 then 1 else 0
def B_X6_knownOnes_w11 (I : SI) (J : SJ) (s11 : Int32 × Int32 × Int32) : (Int32 × Int32 × Int32) ⊕ (Int32 × Int32 × Int32) := if s11.2.2 < 0 then .inr (s11.1, s11.2.1, s11.2.2) else (if (T_X6_knownOnes_j28 I J s11) = 0 then .inl (s11.1, s11.2.1, (s11.2.2 + (-1))) else (if (atF (I 117) 24 s11.2.2) = 0 then .inl ((s11.1 ||| ((1 : Int32) <<< ((atF (I 118) 24 s11.2.2) &&& 31))), s11.2.1, (s11.2.2 + (-1))) else .inl (s11.1, (s11.2.1 ||| ((1 : Int32) <<< (s11.2.2 &&& 31))), (s11.2.2 + (-1)))))
def F_X6_knownOnes_w11 (I : SI) (J : SJ) (s0 : Int32 × Int32 × Int32) : Int32 × Int32 × Int32 := (itW (B_X6_knownOnes_w11 I J) 800 s0).getD s0
def F_X6_knownOnes  (I : SI) (J : SJ) : Int32 := (F_X6_knownOnes_w11 I J (0, 0, ((F_X6_knownCount  I J) - 1))).2.1
def H_X6_knownOnes  (I : SI) (J : SJ) : Prop := ((itW (B_X6_knownOnes_w11 I J) 800 (0, 0, ((F_X6_knownCount  I J) - 1))).isSome = true)
set_option maxHeartbeats 1140000 in
set_option maxRecDepth 40000 in
theorem c_X6_knownOnes {I : SI} {J : SJ} {R : SR} {n g : Nat} {f : Fr} (ro : RO R) (hnn : nK ≤ n) (hf : f.1 = true)   (hp : H_X6_knownOnes  I J) : MM 1 0 0 mX6_knownOnes [.ref 116] (eI f I) (eJ f J) R n g (Pd (some (.int (F_X6_knownOnes  I J))) (eI f I) (eJ f J) R n g) := by
  refine MM.of (by decide) (Nat.le_of_ble_eq_true rfl) fun K ok fin => ?_
  show WK K 0 0 0 [(0, .ref 116)] [] (eI f I) (eJ f J) R n g
  have hp1 := hp
  refine w_iconst (v := 0) ok dX6_knownOnes_0 (by decide) ?_
  refine w_istore_n ok dX6_knownOnes_1 rfl (by decide) rfl ?_
  refine w_iconst (v := 0) ok dX6_knownOnes_2 (by decide) ?_
  refine w_istore_n ok dX6_knownOnes_3 rfl (by decide) rfl ?_
  refine w_aload_n ok dX6_knownOnes_4 2 rfl ?_
  refine w_cV (As := []) ok dX6_knownOnes_5 iX6_knownCount (lX6_32 rfl) (rcv cls6 (congrArg Prod.fst s_116)) (ltK hnn (by decide)) (c_X6_knownCount ro hnn hf  ) (by decide) rfl (Nat.le_of_ble_eq_true rfl) ?_
  refine w_iconst (v := 1) ok dX6_knownOnes_8 (by decide) ?_
  refine w_isub ok dX6_knownOnes_9 ?_
  refine w_istore_n ok dX6_knownOnes_10 rfl (by decide) rfl ?_
  refine w_loc [3, 2, 1, 0] rfl ?_
  refine loop_w (fun (s11 : Int32 × Int32 × Int32) => WK K 0 0 11 [(0, .ref 116), (1, .int s11.1), (2, .int s11.2.1), (3, .int s11.2.2)] [] (eI f I) (eJ f J) R n g) (fun (s11 : Int32 × Int32 × Int32) => WK K 0 0 79 [(0, .ref 116), (1, .int s11.1), (2, .int s11.2.1), (3, .int s11.2.2)] [] (eI f I) (eJ f J) R n g) (B_X6_knownOnes_w11 I J) 800 (0, 0, ((F_X6_knownCount  I J) - 1)) (F_X6_knownOnes_w11 I J (0, 0, ((F_X6_knownCount  I J) - 1))) (itW_some (hp1)) ?_ ?_
  · show WK K 0 0 79 [(0, .ref 116), (1, .int ((F_X6_knownOnes_w11 I J (0, 0, ((F_X6_knownCount  I J) - 1))).1)), (2, .int ((F_X6_knownOnes_w11 I J (0, 0, ((F_X6_knownCount  I J) - 1))).2.1)), (3, .int ((F_X6_knownOnes_w11 I J (0, 0, ((F_X6_knownCount  I J) - 1))).2.2))] [] (eI f I) (eJ f J) R n g
    refine w_iload_n ok dX6_knownOnes_79 2 rfl ?_
    exact w_iret ok fin dX6_knownOnes_80 rfl (by unfold F_X6_knownOnes; exact Pd.i)
  · intro n11 s11 hs11 kc11 kx11
    show WK K 0 0 11 [(0, .ref 116), (1, .int s11.1), (2, .int s11.2.1), (3, .int s11.2.2)] [] (eI f I) (eJ f J) R n g
    refine w_iload_n ok dX6_knownOnes_11 3 rfl ?_
    refine w_if_lt (tgt := 79) ok dX6_knownOnes_12 (by decide) (fun c1 => ?_) (fun c1 => ?_)
    · skip
      have eB : B_X6_knownOnes_w11 I J s11 = .inr (s11.1, s11.2.1, s11.2.2) := by
        unfold B_X6_knownOnes_w11; exact (if_pos c1).trans (rfl)
      refine w_loc [0, 1, 2, 3] rfl ?_
      have kk := kx11 _ eB
      exact pr3 (P := fun (y0 : Int32) (y1 : Int32) (y2 : Int32) => WK K 0 0 79 [(0, .ref 116), (1, .int y0), (2, .int y1), (3, .int y2)] [] (eI f I) (eJ f J) R n g) kk
    · skip
      refine w_iload_n ok dX6_knownOnes_15 1 rfl ?_
      refine w_iload_n ok dX6_knownOnes_16 3 rfl ?_
      refine w_ishr ok dX6_knownOnes_17 ?_
      refine w_iconst (v := 1) ok dX6_knownOnes_18 (by decide) ?_
      refine w_iand ok dX6_knownOnes_19 ?_
      have jn2 : WK K 0 0 28 [(0, .ref 116), (1, .int s11.1), (2, .int s11.2.1), (3, .int s11.2.2)] [.int (T_X6_knownOnes_j28 I J s11)] (eI f I) (eJ f J) R n g := by
        refine w_istore ok dX6_knownOnes_28 (by decide) rfl ?_
        refine w_iload ok dX6_knownOnes_30 0 rfl ?_
        refine w_if_eq (tgt := 62) ok dX6_knownOnes_32 (by decide) (fun c3 => ?_) (fun c3 => ?_)
        · skip
          refine w_iload ok dX6_knownOnes_62 0 rfl ?_
          refine w_if_eq (tgt := 73) ok dX6_knownOnes_64 (by decide) (fun _ => ?_) (fun h => absurd c3 h)
          refine w_iinc (v := s11.2.2 + (-1)) ok dX6_knownOnes_73 4 rfl rfl (by decide) rfl ?_
          refine w_goto (tgt := 11) ok dX6_knownOnes_76 (by decide) ?_
          generalize hX4 : (s11.2.2 + (-1)) = X4
          have eB : B_X6_knownOnes_w11 I J s11 = .inl (s11.1, s11.2.1, X4) := by
            rw [← hX4]
            unfold B_X6_knownOnes_w11; exact (if_neg c1).trans ((if_pos c3).trans (rfl))
          refine w_loc [2, 3, 4, 0] rfl ?_
          have kk := kc11 _ eB
          exact pr3 (P := fun (y0 : Int32) (y1 : Int32) (y2 : Int32) => WK K 0 0 11 [(0, .ref 116), (1, .int y0), (2, .int y1), (3, .int y2)] [] (eI f I) (eJ f J) R n g) kk
        · skip
          refine w_aload_n ok dX6_knownOnes_35 1 rfl ?_
          refine w_getR ok dX6_knownOnes_36 (fX6_18 rfl) (congrArg Prod.fst s_116) rfl (r_116_2 ro) (ltK hnn (by decide)) ?_
          refine w_iload_n ok dX6_knownOnes_39 4 rfl ?_
          refine w_cS (As := [.ref 117, .int s11.2.2]) ok dX6_knownOnes_40 iX11_at (lX6_36 rfl) (c_at s_117 (ltK hnn (by decide)) (sdc hf (by decide)) s11.2.2) (by decide) rfl (Nat.le_of_ble_eq_true rfl) ?_
          refine w_if_ne (tgt := 62) ok dX6_knownOnes_43 (by decide) (fun c5 => ?_) (fun c5 => ?_)
          · skip
            refine w_iload ok dX6_knownOnes_62 0 rfl ?_
            refine w_if_eq (tgt := 73) ok dX6_knownOnes_64 (by decide) (fun h => absurd h c3) (fun _ => ?_)
            refine w_iload_n ok dX6_knownOnes_67 3 rfl ?_
            refine w_iconst (v := 1) ok dX6_knownOnes_68 (by decide) ?_
            refine w_iload_n ok dX6_knownOnes_69 4 rfl ?_
            refine w_ishl ok dX6_knownOnes_70 ?_
            refine w_ior ok dX6_knownOnes_71 ?_
            refine w_istore_n ok dX6_knownOnes_72 rfl (by decide) rfl ?_
            refine w_iinc (v := s11.2.2 + (-1)) ok dX6_knownOnes_73 4 rfl rfl (by decide) rfl ?_
            refine w_goto (tgt := 11) ok dX6_knownOnes_76 (by decide) ?_
            generalize hX6 : (s11.2.1 ||| ((1 : Int32) <<< (s11.2.2 &&& 31))) = X6
            generalize hX7 : (s11.2.2 + (-1)) = X7
            have eB : B_X6_knownOnes_w11 I J s11 = .inl (s11.1, X6, X7) := by
              rw [← hX6]
              rw [← hX7]
              unfold B_X6_knownOnes_w11; exact (if_neg c1).trans ((if_neg c3).trans ((if_neg c5).trans (rfl)))
            refine w_loc [3, 4, 1, 0] rfl ?_
            have kk := kc11 _ eB
            exact pr3 (P := fun (y0 : Int32) (y1 : Int32) (y2 : Int32) => WK K 0 0 11 [(0, .ref 116), (1, .int y0), (2, .int y1), (3, .int y2)] [] (eI f I) (eJ f J) R n g) kk
          · skip
            refine w_iload_n ok dX6_knownOnes_46 2 rfl ?_
            refine w_iconst (v := 1) ok dX6_knownOnes_47 (by decide) ?_
            refine w_aload_n ok dX6_knownOnes_48 1 rfl ?_
            refine w_getR ok dX6_knownOnes_49 (fX6_22 rfl) (congrArg Prod.fst s_116) rfl (r_116_3 ro) (ltK hnn (by decide)) ?_
            refine w_iload_n ok dX6_knownOnes_52 4 rfl ?_
            refine w_cS (As := [.ref 118, .int s11.2.2]) ok dX6_knownOnes_53 iX11_at (lX6_36 rfl) (c_at s_118 (ltK hnn (by decide)) (sdc hf (by decide)) s11.2.2) (by decide) rfl (Nat.le_of_ble_eq_true rfl) ?_
            show WK K 0 0 56 [(4, .int (T_X6_knownOnes_j28 I J s11)), (0, .ref 116), (1, .int s11.1), (2, .int s11.2.1), (3, .int s11.2.2)] [.int (atF (I 118) 24 s11.2.2), .int 1, .int s11.1] (eI f I) (eJ f J) R n g
            refine w_ishl ok dX6_knownOnes_56 ?_
            refine w_ior ok dX6_knownOnes_57 ?_
            refine w_istore_n ok dX6_knownOnes_58 rfl (by decide) rfl ?_
            refine w_goto (tgt := 73) ok dX6_knownOnes_59 (by decide) ?_
            refine w_iinc (v := s11.2.2 + (-1)) ok dX6_knownOnes_73 4 rfl rfl (by decide) rfl ?_
            refine w_goto (tgt := 11) ok dX6_knownOnes_76 (by decide) ?_
            generalize hX8 : (s11.1 ||| ((1 : Int32) <<< ((atF (I 118) 24 s11.2.2) &&& 31))) = X8
            generalize hX9 : (s11.2.2 + (-1)) = X9
            have eB : B_X6_knownOnes_w11 I J s11 = .inl (X8, s11.2.1, X9) := by
              rw [← hX8]
              rw [← hX9]
              unfold B_X6_knownOnes_w11; exact (if_neg c1).trans ((if_neg c3).trans ((if_pos c5).trans (rfl)))
            refine w_loc [3, 1, 4, 0] rfl ?_
            have kk := kc11 _ eB
            exact pr3 (P := fun (y0 : Int32) (y1 : Int32) (y2 : Int32) => WK K 0 0 11 [(0, .ref 116), (1, .int y0), (2, .int y1), (3, .int y2)] [] (eI f I) (eJ f J) R n g) kk
      refine w_if_ne (tgt := 27) ok dX6_knownOnes_20 (by decide) (fun c10 => ?_) (fun c10 => ?_)
      · skip
        refine w_iconst (v := 0) ok dX6_knownOnes_27 (by decide) ?_
        have eT : (T_X6_knownOnes_j28 I J s11) = 0 := by
          unfold T_X6_knownOnes_j28; exact (if_neg c10).trans (rfl)
        refine w_loc [0, 1, 2, 3] rfl ?_
        have jj := jn2
        rw [eT] at jj
        exact jj
      · skip
        refine w_iconst (v := 1) ok dX6_knownOnes_23 (by decide) ?_
        refine w_goto (tgt := 28) ok dX6_knownOnes_24 (by decide) ?_
        have eT : (T_X6_knownOnes_j28 I J s11) = 1 := by
          unfold T_X6_knownOnes_j28; exact (if_pos c10).trans (rfl)
        refine w_loc [0, 1, 2, 3] rfl ?_
        have jj := jn2
        rw [eT] at jj
        exact jj
def B_X6_lastDay_l4 (a0 : Int32) (I : SI) (J : SJ) (i4 : Nat) (s4 : Int32) : Int32 := if ((a0 >>> ((nI i4) &&& 31)) &&& 1) = 0 then s4 else (maxI s4 (atF (I 117) 24 (nI i4)))
def F_X6_lastDay_l4 (a0 : Int32) (I : SI) (J : SJ) (s0 : Int32) : Int32 := itN (B_X6_lastDay_l4 a0 I J) ((I 116 0).toNatClampNeg) s0
def F_X6_lastDay (a0 : Int32) (I : SI) (J : SJ) : Int32 := (F_X6_lastDay_l4 a0 I J 0)
set_option maxHeartbeats 1000000 in
set_option maxRecDepth 40000 in
theorem c_X6_lastDay {I : SI} {J : SJ} {R : SR} {n g : Nat} {f : Fr} (ro : RO R) (hnn : nK ≤ n) (hf : f.1 = true) (a0 : Int32)   : MM 1 0 0 mX6_lastDay [.ref 116, .int a0] (eI f I) (eJ f J) R n g (Pd (some (.int (F_X6_lastDay a0 I J))) (eI f I) (eJ f J) R n g) := by
  refine MM.of (by decide) (Nat.le_of_ble_eq_true rfl) fun K ok fin => ?_
  show WK K 0 0 0 [(0, .ref 116), (1, .int a0)] [] (eI f I) (eJ f J) R n g
  refine w_iconst (v := 0) ok dX6_lastDay_0 (by decide) ?_
  refine w_istore_n ok dX6_lastDay_1 rfl (by decide) rfl ?_
  refine w_iconst (v := 0) ok dX6_lastDay_2 (by decide) ?_
  refine w_istore_n ok dX6_lastDay_3 rfl (by decide) rfl ?_
  refine w_loc [2, 3, 1, 0] rfl ?_
  refine loop_for (σ := Int32) (fun (i4 : Nat) (s4 : Int32) => WK K 0 0 4 [(0, .ref 116), (1, .int a0), (2, .int s4), (3, .int (nI i4))] [] (eI f I) (eJ f J) R n g) (B_X6_lastDay_l4 a0 I J) ((I 116 0).toNatClampNeg) (0) ?_ ?_
  · show WK K 0 0 4 [(0, .ref 116), (1, .int a0), (2, .int (F_X6_lastDay_l4 a0 I J 0)), (3, .int (nI ((I 116 0).toNatClampNeg)))] [] (eI f I) (eJ f J) R n g
    have e1 : (I 116 0) ≤ (nI ((I 116 0).toNatClampNeg)) := cnt_ge _
    refine w_iload_n ok dX6_lastDay_4 3 rfl ?_
    refine w_aload_n ok dX6_lastDay_5 0 rfl ?_
    refine y_getI ok dX6_lastDay_6 (fX6_9 rfl) (congrArg Prod.fst s_116) rfl (ltK hnn (by decide)) (sdc hf (by decide)) ?_
    refine w_icmp_ge (tgt := 43) ok dX6_lastDay_9 (by decide) (fun _ => ?_) (fun h => absurd e1 h)
    refine w_iload_n ok dX6_lastDay_43 2 rfl ?_
    exact w_iret ok fin dX6_lastDay_44 rfl (by unfold F_X6_lastDay; exact Pd.i)
  · intro i4 s4 hi4 hs4 k4
    show WK K 0 0 4 [(0, .ref 116), (1, .int a0), (2, .int s4), (3, .int (nI i4))] [] (eI f I) (eJ f J) R n g
    have e2 : ¬ ((I 116 0) ≤ (nI i4)) := cnt_lt hi4
    refine w_iload_n ok dX6_lastDay_4 3 rfl ?_
    refine w_aload_n ok dX6_lastDay_5 0 rfl ?_
    refine y_getI ok dX6_lastDay_6 (fX6_9 rfl) (congrArg Prod.fst s_116) rfl (ltK hnn (by decide)) (sdc hf (by decide)) ?_
    refine w_icmp_ge (tgt := 43) ok dX6_lastDay_9 (by decide) (fun h => absurd h e2) (fun _ => ?_)
    refine w_iload_n ok dX6_lastDay_12 1 rfl ?_
    refine w_iload_n ok dX6_lastDay_13 3 rfl ?_
    refine w_ishr ok dX6_lastDay_14 ?_
    refine w_iconst (v := 1) ok dX6_lastDay_15 (by decide) ?_
    refine w_iand ok dX6_lastDay_16 ?_
    refine w_if_eq (tgt := 35) ok dX6_lastDay_17 (by decide) (fun c3 => ?_) (fun c3 => ?_)
    · skip
      refine w_iload_n ok dX6_lastDay_35 2 rfl ?_
      refine w_istore_n ok dX6_lastDay_36 rfl (by decide) rfl ?_
      refine w_iinc (v := (nI i4) + 1) ok dX6_lastDay_37 3 rfl rfl (by decide) rfl ?_
      refine w_goto (tgt := 4) ok dX6_lastDay_40 (by decide) ?_
      have eB : B_X6_lastDay_l4 a0 I J i4 s4 = s4 := by
        unfold B_X6_lastDay_l4; exact (if_pos c3).trans (rfl)
      have kk := k4
      rw [eB] at kk
      refine w_loc [2, 3, 1, 0] rfl ?_
      rw [nI_1 i4]
      exact kk
    · skip
      refine w_iload_n ok dX6_lastDay_20 2 rfl ?_
      refine w_aload_n ok dX6_lastDay_21 0 rfl ?_
      refine w_getR ok dX6_lastDay_22 (fX6_18 rfl) (congrArg Prod.fst s_116) rfl (r_116_2 ro) (ltK hnn (by decide)) ?_
      refine w_iload_n ok dX6_lastDay_25 3 rfl ?_
      refine w_cS (As := [.ref 117, .int (nI i4)]) ok dX6_lastDay_26 iX11_at (lX6_36 rfl) (c_at s_117 (ltK hnn (by decide)) (sdc hf (by decide)) (nI i4)) (by decide) rfl (Nat.le_of_ble_eq_true rfl) ?_
      show WK K 0 0 29 [(0, .ref 116), (1, .int a0), (2, .int s4), (3, .int (nI i4))] [.int (atF (I 117) 24 (nI i4)), .int s4] (eI f I) (eJ f J) R n g
      refine w_maxI ok dX6_lastDay_29 (iT_5 202 (by decide +kernel) (by decide +kernel)) (Nat.le_of_ble_eq_true rfl) ?_
      refine w_goto (tgt := 36) ok dX6_lastDay_32 (by decide) ?_
      refine w_istore_n ok dX6_lastDay_36 rfl (by decide) rfl ?_
      refine w_iinc (v := (nI i4) + 1) ok dX6_lastDay_37 3 rfl rfl (by decide) rfl ?_
      refine w_goto (tgt := 4) ok dX6_lastDay_40 (by decide) ?_
      have eB : B_X6_lastDay_l4 a0 I J i4 s4 = (maxI s4 (atF (I 117) 24 (nI i4))) := by
        unfold B_X6_lastDay_l4; exact (if_neg c3).trans (rfl)
      have kk := k4
      rw [eB] at kk
      refine w_loc [2, 3, 1, 0] rfl ?_
      rw [nI_1 i4]
      exact kk
def T_X6_fits_j39 (a0 : Int32) (a1 : Int32) (a2 : Nat) (la2 : Nat) (I : SI) (J : SJ) (i3 : Nat) (s3 : Unit) : Int32 := if ((a0 >>> ((nI i3) &&& 31)) &&& 1) = 0 then 0 else (if (atF (I 117) 24 (nI i3)) = a1 then 1 else 0)
def T_X6_fits_j62 (a0 : Int32) (a1 : Int32) (a2 : Nat) (la2 : Nat) (I : SI) (J : SJ) (i3 : Nat) (s3 : Unit) : Int32 := if (atF (I a2) la2 (atF (I 118) 24 (nI i3))) < 0 then 0 else 1
def B_X6_fits_l3 (a0 : Int32) (a1 : Int32) (a2 : Nat) (la2 : Nat) (I : SI) (J : SJ) (i3 : Nat) (s3 : Unit) : (Unit) ⊕ (Int32) := if (T_X6_fits_j39 a0 a1 a2 la2 I J i3 s3) = 0 then .inl () else (if (T_X6_fits_j62 a0 a1 a2 la2 I J i3 s3) = (atF (I 119) 24 (nI i3)) then .inl () else .inr 0)
def F_X6_fits_l3 (a0 : Int32) (a1 : Int32) (a2 : Nat) (la2 : Nat) (I : SI) (J : SJ) (s0 : Unit) : (Unit) ⊕ (Int32) := itE (B_X6_fits_l3 a0 a1 a2 la2 I J) ((I 116 0).toNatClampNeg) 0 s0
def F_X6_fits (a0 : Int32) (a1 : Int32) (a2 : Nat) (la2 : Nat) (I : SI) (J : SJ) : Int32 := (match (F_X6_fits_l3 a0 a1 a2 la2 I J ()) with | .inl se3 => 1 | .inr re3 => re3)
set_option maxHeartbeats 1220000 in
set_option maxRecDepth 40000 in
theorem c_X6_fits {I : SI} {J : SJ} {R : SR} {n g : Nat} {f : Fr} (ro : RO R) (hnn : nK ≤ n) (hf : f.1 = true) (a0 : Int32) (a1 : Int32) {a2 : Nat} {la2 : Nat} (hsa2 : SH a2 = (14, la2)) (hka2 : a2 < n) (hda2 : sd f a2) (hlen : la2 < 2 ^ 31)   : MM 1 0 0 mX6_fits [.ref 116, .int a0, .int a1, .ref a2] (eI f I) (eJ f J) R n g (Pd (some (.int (F_X6_fits a0 a1 a2 la2 I J))) (eI f I) (eJ f J) R n g) := by
  refine MM.of (by decide) (Nat.le_of_ble_eq_true rfl) fun K ok fin => ?_
  show WK K 0 0 0 [(0, .ref 116), (1, .int a0), (2, .int a1), (3, .ref a2)] [] (eI f I) (eJ f J) R n g
  refine w_iconst (v := 0) ok dX6_fits_0 (by decide) ?_
  refine w_istore ok dX6_fits_1 (by decide) rfl ?_
  refine w_loc [1, 2, 3, 4, 0] rfl ?_
  refine loop_e (σ := Unit) (ρ := Int32) (fun (i3 : Nat) (s3 : Unit) => WK K 0 0 3 [(0, .ref 116), (1, .int a0), (2, .int a1), (3, .ref a2), (4, .int (nI i3))] [] (eI f I) (eJ f J) R n g) (B_X6_fits_l3 a0 a1 a2 la2 I J) ((I 116 0).toNatClampNeg) (()) ?_ ?_
  · intro se3 he3
    have he3 : (F_X6_fits_l3 a0 a1 a2 la2 I J ()) = .inl se3 := he3
    show WK K 0 0 3 [(0, .ref 116), (1, .int a0), (2, .int a1), (3, .ref a2), (4, .int (nI ((I 116 0).toNatClampNeg)))] [] (eI f I) (eJ f J) R n g
    have e1 : (I 116 0) ≤ (nI ((I 116 0).toNatClampNeg)) := cnt_ge _
    refine w_iload ok dX6_fits_3 4 rfl ?_
    refine w_aload_n ok dX6_fits_5 0 rfl ?_
    refine y_getI ok dX6_fits_6 (fX6_9 rfl) (congrArg Prod.fst s_116) rfl (ltK hnn (by decide)) (sdc hf (by decide)) ?_
    refine w_icmp_ge (tgt := 91) ok dX6_fits_9 (by decide) (fun _ => ?_) (fun h => absurd e1 h)
    refine w_iconst (v := 1) ok dX6_fits_91 (by decide) ?_
    exact w_zret ok fin dX6_fits_92 rfl (by decide) (by unfold F_X6_fits; simp only [he3]; exact Pd.i)
  · intro i3 s3 hi3 hs3 k3 kr3
    show WK K 0 0 3 [(0, .ref 116), (1, .int a0), (2, .int a1), (3, .ref a2), (4, .int (nI i3))] [] (eI f I) (eJ f J) R n g
    have e2 : ¬ ((I 116 0) ≤ (nI i3)) := cnt_lt hi3
    refine w_iload ok dX6_fits_3 4 rfl ?_
    refine w_aload_n ok dX6_fits_5 0 rfl ?_
    refine y_getI ok dX6_fits_6 (fX6_9 rfl) (congrArg Prod.fst s_116) rfl (ltK hnn (by decide)) (sdc hf (by decide)) ?_
    refine w_icmp_ge (tgt := 91) ok dX6_fits_9 (by decide) (fun h => absurd h e2) (fun _ => ?_)
    refine w_iload_n ok dX6_fits_12 1 rfl ?_
    refine w_iload ok dX6_fits_13 4 rfl ?_
    refine w_ishr ok dX6_fits_15 ?_
    refine w_iconst (v := 1) ok dX6_fits_16 (by decide) ?_
    refine w_iand ok dX6_fits_17 ?_
    have jn3 : WK K 0 0 39 [(0, .ref 116), (1, .int a0), (2, .int a1), (3, .ref a2), (4, .int (nI i3))] [.int (T_X6_fits_j39 a0 a1 a2 la2 I J i3 s3)] (eI f I) (eJ f J) R n g := by
      refine w_istore ok dX6_fits_39 (by decide) rfl ?_
      refine w_aload_n ok dX6_fits_41 4 rfl ?_
      refine w_aload_n ok dX6_fits_42 1 rfl ?_
      refine w_getR ok dX6_fits_43 (fX6_22 rfl) (congrArg Prod.fst s_116) rfl (r_116_3 ro) (ltK hnn (by decide)) ?_
      refine w_iload ok dX6_fits_46 5 rfl ?_
      refine w_cS (As := [.ref 118, .int (nI i3)]) ok dX6_fits_48 iX11_at (lX6_36 rfl) (c_at s_118 (ltK hnn (by decide)) (sdc hf (by decide)) (nI i3)) (by decide) rfl (Nat.le_of_ble_eq_true rfl) ?_
      show WK K 0 0 51 [(5, .int (T_X6_fits_j39 a0 a1 a2 la2 I J i3 s3)), (0, .ref 116), (1, .int a0), (2, .int a1), (3, .ref a2), (4, .int (nI i3))] [.int (atF (I 118) 24 (nI i3)), .ref a2] (eI f I) (eJ f J) R n g
      refine w_cS (As := [.ref a2, .int (atF (I 118) 24 (nI i3))]) ok dX6_fits_51 iX11_at (lX6_36 rfl) (c_at hsa2 hka2 hda2 (atF (I 118) 24 (nI i3))) (by decide) rfl (Nat.le_of_ble_eq_true rfl) ?_
      have jn4 : WK K 0 0 62 [(0, .ref 116), (1, .int a0), (2, .int a1), (3, .ref a2), (4, .int (nI i3)), (5, .int (T_X6_fits_j39 a0 a1 a2 la2 I J i3 s3))] [.int (T_X6_fits_j62 a0 a1 a2 la2 I J i3 s3)] (eI f I) (eJ f J) R n g := by
        refine w_istore ok dX6_fits_62 (by decide) rfl ?_
        refine w_iload ok dX6_fits_64 6 rfl ?_
        refine w_if_eq (tgt := 85) ok dX6_fits_66 (by decide) (fun c5 => ?_) (fun c5 => ?_)
        · skip
          refine w_iinc (v := (nI i3) + 1) ok dX6_fits_85 5 rfl rfl (by decide) rfl ?_
          refine w_goto (tgt := 3) ok dX6_fits_88 (by decide) ?_
          have eB : B_X6_fits_l3 a0 a1 a2 la2 I J i3 s3 = .inl () := by
            unfold B_X6_fits_l3; exact (if_pos c5).trans (rfl)
          have kk := k3 _ eB
          refine w_loc [2, 3, 4, 5, 0] rfl ?_
          rw [nI_1 i3]
          exact kk
        · skip
          refine w_iload ok dX6_fits_69 0 rfl ?_
          refine w_aload_n ok dX6_fits_71 1 rfl ?_
          refine w_getR ok dX6_fits_72 (fX6_25 rfl) (congrArg Prod.fst s_116) rfl (r_116_4 ro) (ltK hnn (by decide)) ?_
          refine w_iload ok dX6_fits_75 5 rfl ?_
          refine w_cS (As := [.ref 119, .int (nI i3)]) ok dX6_fits_77 iX11_at (lX6_36 rfl) (c_at s_119 (ltK hnn (by decide)) (sdc hf (by decide)) (nI i3)) (by decide) rfl (Nat.le_of_ble_eq_true rfl) ?_
          show WK K 0 0 80 [(6, .int (T_X6_fits_j62 a0 a1 a2 la2 I J i3 s3)), (0, .ref 116), (1, .int a0), (2, .int a1), (3, .ref a2), (4, .int (nI i3)), (5, .int (T_X6_fits_j39 a0 a1 a2 la2 I J i3 s3))] [.int (atF (I 119) 24 (nI i3)), .int (T_X6_fits_j62 a0 a1 a2 la2 I J i3 s3)] (eI f I) (eJ f J) R n g
          refine w_icmp_eq (tgt := 85) ok dX6_fits_80 (by decide) (fun c6 => ?_) (fun c6 => ?_)
          · skip
            refine w_iinc (v := (nI i3) + 1) ok dX6_fits_85 5 rfl rfl (by decide) rfl ?_
            refine w_goto (tgt := 3) ok dX6_fits_88 (by decide) ?_
            have eB : B_X6_fits_l3 a0 a1 a2 la2 I J i3 s3 = .inl () := by
              unfold B_X6_fits_l3; exact (if_neg c5).trans ((if_pos c6).trans (rfl))
            have kk := k3 _ eB
            refine w_loc [2, 3, 4, 5, 0] rfl ?_
            rw [nI_1 i3]
            exact kk
          · skip
            refine w_iconst (v := 0) ok dX6_fits_83 (by decide) ?_
            have eB : B_X6_fits_l3 a0 a1 a2 la2 I J i3 s3 = .inr 0 := by
              unfold B_X6_fits_l3; exact (if_neg c5).trans ((if_neg c6).trans (rfl))
            have hr : (F_X6_fits_l3 a0 a1 a2 la2 I J ()) = .inr 0 := kr3 _ eB
            exact w_zret ok fin dX6_fits_84 rfl (by decide) (by unfold F_X6_fits; simp only [hr]; exact Pd.i)
      refine w_if_lt (tgt := 61) ok dX6_fits_54 (by decide) (fun c7 => ?_) (fun c7 => ?_)
      · skip
        refine w_iconst (v := 0) ok dX6_fits_61 (by decide) ?_
        have eT : (T_X6_fits_j62 a0 a1 a2 la2 I J i3 s3) = 0 := by
          unfold T_X6_fits_j62; exact (if_pos c7).trans (rfl)
        refine w_loc [1, 2, 3, 4, 5, 0] rfl ?_
        have jj := jn4
        rw [eT] at jj
        exact jj
      · skip
        refine w_iconst (v := 1) ok dX6_fits_57 (by decide) ?_
        refine w_goto (tgt := 62) ok dX6_fits_58 (by decide) ?_
        have eT : (T_X6_fits_j62 a0 a1 a2 la2 I J i3 s3) = 1 := by
          unfold T_X6_fits_j62; exact (if_neg c7).trans (rfl)
        refine w_loc [1, 2, 3, 4, 5, 0] rfl ?_
        have jj := jn4
        rw [eT] at jj
        exact jj
    refine w_if_eq (tgt := 38) ok dX6_fits_18 (by decide) (fun c8 => ?_) (fun c8 => ?_)
    · skip
      refine w_iconst (v := 0) ok dX6_fits_38 (by decide) ?_
      have eT : (T_X6_fits_j39 a0 a1 a2 la2 I J i3 s3) = 0 := by
        unfold T_X6_fits_j39; exact (if_pos c8).trans (rfl)
      refine w_loc [0, 1, 2, 3, 4] rfl ?_
      have jj := jn3
      rw [eT] at jj
      exact jj
    · skip
      refine w_aload_n ok dX6_fits_21 0 rfl ?_
      refine w_getR ok dX6_fits_22 (fX6_18 rfl) (congrArg Prod.fst s_116) rfl (r_116_2 ro) (ltK hnn (by decide)) ?_
      refine w_iload ok dX6_fits_25 4 rfl ?_
      refine w_cS (As := [.ref 117, .int (nI i3)]) ok dX6_fits_27 iX11_at (lX6_36 rfl) (c_at s_117 (ltK hnn (by decide)) (sdc hf (by decide)) (nI i3)) (by decide) rfl (Nat.le_of_ble_eq_true rfl) ?_
      refine w_iload_n ok dX6_fits_30 2 rfl ?_
      refine w_icmp_ne (tgt := 38) ok dX6_fits_31 (by decide) (fun c9 => ?_) (fun c9 => ?_)
      · skip
        refine w_iconst (v := 0) ok dX6_fits_38 (by decide) ?_
        have eT : (T_X6_fits_j39 a0 a1 a2 la2 I J i3 s3) = 0 := by
          unfold T_X6_fits_j39; exact (if_neg c8).trans ((if_neg c9).trans (rfl))
        refine w_loc [0, 1, 2, 3, 4] rfl ?_
        have jj := jn3
        rw [eT] at jj
        exact jj
      · skip
        refine w_iconst (v := 1) ok dX6_fits_34 (by decide) ?_
        refine w_goto (tgt := 39) ok dX6_fits_35 (by decide) ?_
        have eT : (T_X6_fits_j39 a0 a1 a2 la2 I J i3 s3) = 1 := by
          unfold T_X6_fits_j39; exact (if_neg c8).trans ((if_pos c9).trans (rfl))
        refine w_loc [0, 1, 2, 3, 4] rfl ?_
        have jj := jn3
        rw [eT] at jj
        exact jj
def S1_X7_clear (k : Nat) (I : SI) (J : SJ) : SI := fillF (fillF (fillF (fillF (u2 I k 1 0) (k + 1) 0 8) (k + 2) 0 8) (k + 3) 0 8) (k + 4) 0 8
def FI_X7_clear (k : Nat) (I : SI) (J : SJ) : SI := (S1_X7_clear k I J)
set_option maxHeartbeats 1000000 in
set_option maxRecDepth 40000 in
theorem c_X7_clear {I : SI} {J : SJ} {R : SR} {n g : Nat} {f : Fr} (ro : RO R) (hnn : nK ≤ n) (hf : f.1 = true) {k : Nat} (hk : IsTb k)   : MM 1 0 0 mX7_clear [.ref k] (eI f I) (eJ f J) R n g (Pd none (eI f (FI_X7_clear k I J)) (eJ f J) R n g) := by
  refine MM.of (by decide) (Nat.le_of_ble_eq_true rfl) fun K ok fin => ?_
  show WK K 0 0 0 [(0, .ref k)] [] (eI f I) (eJ f J) R n g
  refine w_aload_n ok dX7_clear_0 0 rfl ?_
  refine w_iconst (v := 0) ok dX7_clear_1 (by decide) ?_
  refine y_putI ok dX7_clear_2 (fwX7_9 rfl) (congrArg Prod.fst (sTb hk)) rfl (ltK hnn (nTb hk)) (sdc hf (nTb hk)) ?_
  refine w_aload_n ok dX7_clear_5 0 rfl ?_
  refine w_getR ok dX7_clear_6 (fX7_15 rfl) (congrArg Prod.fst (sTb hk)) rfl (rTb_2 hk ro) (ltK hnn (nTb hk)) ?_
  refine w_iconst (v := 0) ok dX7_clear_9 (by decide) ?_
  refine w_cS (As := [.ref (k + 1), .int 0]) ok dX7_clear_10 iX11_fill (lX7_37 rfl) (c_fill (sTb_2 hk) (ltK hnn (nTb_2 hk)) (sdc hf (nTb_2 hk)) 0) (by decide) rfl (Nat.le_of_ble_eq_true rfl) ?_
  refine w_aload_n ok dX7_clear_13 0 rfl ?_
  refine w_getR ok dX7_clear_14 (fX7_19 rfl) (congrArg Prod.fst (sTb hk)) rfl (rTb_3 hk ro) (ltK hnn (nTb hk)) ?_
  refine w_iconst (v := 0) ok dX7_clear_17 (by decide) ?_
  refine w_cS (As := [.ref (k + 2), .int 0]) ok dX7_clear_18 iX11_fill (lX7_37 rfl) (c_fill (sTb_3 hk) (ltK hnn (nTb_3 hk)) (sdc hf (nTb_3 hk)) 0) (by decide) rfl (Nat.le_of_ble_eq_true rfl) ?_
  refine w_aload_n ok dX7_clear_21 0 rfl ?_
  refine w_getR ok dX7_clear_22 (fX7_22 rfl) (congrArg Prod.fst (sTb hk)) rfl (rTb_4 hk ro) (ltK hnn (nTb hk)) ?_
  refine w_iconst (v := 0) ok dX7_clear_25 (by decide) ?_
  refine w_cS (As := [.ref (k + 3), .int 0]) ok dX7_clear_26 iX11_fill (lX7_37 rfl) (c_fill (sTb_4 hk) (ltK hnn (nTb_4 hk)) (sdc hf (nTb_4 hk)) 0) (by decide) rfl (Nat.le_of_ble_eq_true rfl) ?_
  refine w_aload_n ok dX7_clear_29 0 rfl ?_
  refine w_getR ok dX7_clear_30 (fX7_25 rfl) (congrArg Prod.fst (sTb hk)) rfl (rTb_5 hk ro) (ltK hnn (nTb hk)) ?_
  refine w_iconst (v := 0) ok dX7_clear_33 (by decide) ?_
  refine w_cS (As := [.ref (k + 4), .int 0]) ok dX7_clear_34 iX11_fill (lX7_37 rfl) (c_fill (sTb_5 hk) (ltK hnn (nTb_5 hk)) (sdc hf (nTb_5 hk)) 0) (by decide) rfl (Nat.le_of_ble_eq_true rfl) ?_
  show WK K 0 0 37 [(0, .ref k)] [] (eI f (S1_X7_clear k I J)) (eJ f J) R n g
  exact w_vret ok fin dX7_clear_37 rfl (by unfold FI_X7_clear; exact Pd.i)
def S1_X7_copy (k : Nat) (a0 : Nat) (I : SI) (J : SJ) : SI := cpF (cpF (cpF (u2 I k 1 (I a0 1)) (a0 + 1) (k + 1) 8) (a0 + 2) (k + 2) 8) (a0 + 3) (k + 3) 8
def FI_X7_copy (k : Nat) (a0 : Nat) (I : SI) (J : SJ) : SI := cpF (S1_X7_copy k a0 I J) (a0 + 4) (k + 4) 8
set_option maxHeartbeats 1000000 in
set_option maxRecDepth 40000 in
theorem c_X7_copy {I : SI} {J : SJ} {R : SR} {n g : Nat} {f : Fr} (ro : RO R) (hnn : nK ≤ n) (hf : f.1 = true) {k : Nat} {a0 : Nat} (hk : IsTb k) (ha0 : IsTb a0)   : MM 2 0 0 mX7_copy [.ref k, .ref a0] (eI f I) (eJ f J) R n g (Pd none (eI f (FI_X7_copy k a0 I J)) (eJ f J) R n g) := by
  refine MM.of (by decide) (Nat.le_of_ble_eq_true rfl) fun K ok fin => ?_
  show WK K 0 0 0 [(0, .ref k), (1, .ref a0)] [] (eI f I) (eJ f J) R n g
  refine w_aload_n ok dX7_copy_0 0 rfl ?_
  refine w_aload_n ok dX7_copy_1 1 rfl ?_
  refine y_getI ok dX7_copy_2 (fX7_9 rfl) (congrArg Prod.fst (sTb ha0)) rfl (ltK hnn (nTb ha0)) (sdc hf (nTb ha0)) ?_
  refine y_putI ok dX7_copy_5 (fwX7_9 rfl) (congrArg Prod.fst (sTb hk)) rfl (ltK hnn (nTb hk)) (sdc hf (nTb hk)) ?_
  refine w_aload_n ok dX7_copy_8 1 rfl ?_
  refine w_getR ok dX7_copy_9 (fX7_15 rfl) (congrArg Prod.fst (sTb ha0)) rfl (rTb_2 ha0 ro) (ltK hnn (nTb ha0)) ?_
  refine w_aload_n ok dX7_copy_12 0 rfl ?_
  refine w_getR ok dX7_copy_13 (fX7_15 rfl) (congrArg Prod.fst (sTb hk)) rfl (rTb_2 hk ro) (ltK hnn (nTb hk)) ?_
  refine w_cS (As := [.ref (a0 + 1), .ref (k + 1)]) ok dX7_copy_16 iX11_copyRow (lX7_41 rfl) (c_copyRow (sTb_2 ha0) (sTb_2 hk) (ltK hnn (nTb_2 ha0)) (ltK hnn (nTb_2 hk)) (sdc hf (nTb_2 ha0)) (sdc hf (nTb_2 hk))) (by decide) rfl (Nat.le_of_ble_eq_true rfl) ?_
  refine w_aload_n ok dX7_copy_19 1 rfl ?_
  refine w_getR ok dX7_copy_20 (fX7_19 rfl) (congrArg Prod.fst (sTb ha0)) rfl (rTb_3 ha0 ro) (ltK hnn (nTb ha0)) ?_
  refine w_aload_n ok dX7_copy_23 0 rfl ?_
  refine w_getR ok dX7_copy_24 (fX7_19 rfl) (congrArg Prod.fst (sTb hk)) rfl (rTb_3 hk ro) (ltK hnn (nTb hk)) ?_
  refine w_cS (As := [.ref (a0 + 2), .ref (k + 2)]) ok dX7_copy_27 iX11_copyRow (lX7_41 rfl) (c_copyRow (sTb_3 ha0) (sTb_3 hk) (ltK hnn (nTb_3 ha0)) (ltK hnn (nTb_3 hk)) (sdc hf (nTb_3 ha0)) (sdc hf (nTb_3 hk))) (by decide) rfl (Nat.le_of_ble_eq_true rfl) ?_
  refine w_aload_n ok dX7_copy_30 1 rfl ?_
  refine w_getR ok dX7_copy_31 (fX7_22 rfl) (congrArg Prod.fst (sTb ha0)) rfl (rTb_4 ha0 ro) (ltK hnn (nTb ha0)) ?_
  refine w_aload_n ok dX7_copy_34 0 rfl ?_
  refine w_getR ok dX7_copy_35 (fX7_22 rfl) (congrArg Prod.fst (sTb hk)) rfl (rTb_4 hk ro) (ltK hnn (nTb hk)) ?_
  refine w_cS (As := [.ref (a0 + 3), .ref (k + 3)]) ok dX7_copy_38 iX11_copyRow (lX7_41 rfl) (c_copyRow (sTb_4 ha0) (sTb_4 hk) (ltK hnn (nTb_4 ha0)) (ltK hnn (nTb_4 hk)) (sdc hf (nTb_4 ha0)) (sdc hf (nTb_4 hk))) (by decide) rfl (Nat.le_of_ble_eq_true rfl) ?_
  show WK K 0 0 41 [(0, .ref k), (1, .ref a0)] [] (eI f (S1_X7_copy k a0 I J)) (eJ f J) R n g
  refine w_aload_n ok dX7_copy_41 1 rfl ?_
  refine w_getR ok dX7_copy_42 (fX7_25 rfl) (congrArg Prod.fst (sTb ha0)) rfl (rTb_5 ha0 ro) (ltK hnn (nTb ha0)) ?_
  refine w_aload_n ok dX7_copy_45 0 rfl ?_
  refine w_getR ok dX7_copy_46 (fX7_25 rfl) (congrArg Prod.fst (sTb hk)) rfl (rTb_5 hk ro) (ltK hnn (nTb hk)) ?_
  refine w_cS (As := [.ref (a0 + 4), .ref (k + 4)]) ok dX7_copy_49 iX11_copyRow (lX7_41 rfl) (c_copyRow (sTb_5 ha0) (sTb_5 hk) (ltK hnn (nTb_5 ha0)) (ltK hnn (nTb_5 hk)) (sdc hf (nTb_5 ha0)) (sdc hf (nTb_5 hk))) (by decide) rfl (Nat.le_of_ble_eq_true rfl) ?_
  exact w_vret ok fin dX7_copy_52 rfl (by unfold FI_X7_copy; exact Pd.i)
def F_X7_holds (k : Nat) (a0 : Int32) (I : SI) (J : SJ) : Int32 := if a0 < 0 then 0 else (if (I k 1) ≤ a0 then 0 else 1)
set_option maxHeartbeats 1000000 in
set_option maxRecDepth 40000 in
theorem c_X7_holds {I : SI} {J : SJ} {R : SR} {n g : Nat} {f : Fr} (ro : RO R) (hnn : nK ≤ n) (hf : f.1 = true) {k : Nat} (a0 : Int32) (hk : IsTb k)   : MM 0 0 0 mX7_holds [.ref k, .int a0] (eI f I) (eJ f J) R n g (Pd (some (.int (F_X7_holds k a0 I J))) (eI f I) (eJ f J) R n g) := by
  refine MM.of (by decide) (Nat.le_of_ble_eq_true rfl) fun K ok fin => ?_
  show WK K 0 0 0 [(0, .ref k), (1, .int a0)] [] (eI f I) (eJ f J) R n g
  refine w_iload_n ok dX7_holds_0 1 rfl ?_
  refine w_if_lt (tgt := 16) ok dX7_holds_1 (by decide) (fun c1 => ?_) (fun c1 => ?_)
  · skip
    refine w_iconst (v := 0) ok dX7_holds_16 (by decide) ?_
    exact w_zret ok fin dX7_holds_17 rfl (by decide) (by unfold F_X7_holds; simp only [if_pos c1]; exact Pd.i)
  · skip
    refine w_iload_n ok dX7_holds_4 1 rfl ?_
    refine w_aload_n ok dX7_holds_5 0 rfl ?_
    refine y_getI ok dX7_holds_6 (fX7_9 rfl) (congrArg Prod.fst (sTb hk)) rfl (ltK hnn (nTb hk)) (sdc hf (nTb hk)) ?_
    refine w_icmp_ge (tgt := 16) ok dX7_holds_9 (by decide) (fun c2 => ?_) (fun c2 => ?_)
    · skip
      refine w_iconst (v := 0) ok dX7_holds_16 (by decide) ?_
      exact w_zret ok fin dX7_holds_17 rfl (by decide) (by unfold F_X7_holds; simp only [if_neg c1]; simp only [if_pos c2]; exact Pd.i)
    · skip
      refine w_iconst (v := 1) ok dX7_holds_12 (by decide) ?_
      refine w_goto (tgt := 17) ok dX7_holds_13 (by decide) ?_
      exact w_zret ok fin dX7_holds_17 rfl (by decide) (by unfold F_X7_holds; simp only [if_neg c1]; simp only [if_neg c2]; exact Pd.i)
def F_X7_isFull (k : Nat) (I : SI) (J : SJ) : Int32 := if (I k 1) < (I k 0) then 0 else 1
set_option maxHeartbeats 1000000 in
set_option maxRecDepth 40000 in
theorem c_X7_isFull {I : SI} {J : SJ} {R : SR} {n g : Nat} {f : Fr} (ro : RO R) (hnn : nK ≤ n) (hf : f.1 = true) {k : Nat} (hk : IsTb k)   : MM 0 0 0 mX7_isFull [.ref k] (eI f I) (eJ f J) R n g (Pd (some (.int (F_X7_isFull k I J))) (eI f I) (eJ f J) R n g) := by
  refine MM.of (by decide) (Nat.le_of_ble_eq_true rfl) fun K ok fin => ?_
  show WK K 0 0 0 [(0, .ref k)] [] (eI f I) (eJ f J) R n g
  refine w_aload_n ok dX7_isFull_0 0 rfl ?_
  refine y_getI ok dX7_isFull_1 (fX7_9 rfl) (congrArg Prod.fst (sTb hk)) rfl (ltK hnn (nTb hk)) (sdc hf (nTb hk)) ?_
  refine w_aload_n ok dX7_isFull_4 0 rfl ?_
  refine y_getI ok dX7_isFull_5 (fX7_34 rfl) (congrArg Prod.fst (sTb hk)) rfl (ltK hnn (nTb hk)) (sdc hf (nTb hk)) ?_
  refine w_icmp_lt (tgt := 15) ok dX7_isFull_8 (by decide) (fun c1 => ?_) (fun c1 => ?_)
  · skip
    refine w_iconst (v := 0) ok dX7_isFull_15 (by decide) ?_
    exact w_zret ok fin dX7_isFull_16 rfl (by decide) (by unfold F_X7_isFull; simp only [if_pos c1]; exact Pd.i)
  · skip
    refine w_iconst (v := 1) ok dX7_isFull_11 (by decide) ?_
    refine w_goto (tgt := 16) ok dX7_isFull_12 (by decide) ?_
    exact w_zret ok fin dX7_isFull_16 rfl (by decide) (by unfold F_X7_isFull; simp only [if_neg c1]; exact Pd.i)
def B_X7_find_l2 (k : Nat) (a0 : Int32) (I : SI) (J : SJ) (i2 : Nat) (s2 : Unit) : (Unit) ⊕ (Int32) := if (atF (I (k + 1)) 8 (nI i2)) = a0 then .inr (nI i2) else .inl ()
def F_X7_find_l2 (k : Nat) (a0 : Int32) (I : SI) (J : SJ) (s0 : Unit) : (Unit) ⊕ (Int32) := itE (B_X7_find_l2 k a0 I J) ((I k 1).toNatClampNeg) 0 s0
def F_X7_find (k : Nat) (a0 : Int32) (I : SI) (J : SJ) : Int32 := (match (F_X7_find_l2 k a0 I J ()) with | .inl se2 => -1 | .inr re2 => re2)
set_option maxHeartbeats 1000000 in
set_option maxRecDepth 40000 in
theorem c_X7_find {I : SI} {J : SJ} {R : SR} {n g : Nat} {f : Fr} (ro : RO R) (hnn : nK ≤ n) (hf : f.1 = true) {k : Nat} (a0 : Int32) (hk : IsTb k)   : MM 1 0 0 mX7_find [.ref k, .int a0] (eI f I) (eJ f J) R n g (Pd (some (.int (F_X7_find k a0 I J))) (eI f I) (eJ f J) R n g) := by
  refine MM.of (by decide) (Nat.le_of_ble_eq_true rfl) fun K ok fin => ?_
  show WK K 0 0 0 [(0, .ref k), (1, .int a0)] [] (eI f I) (eJ f J) R n g
  refine w_iconst (v := 0) ok dX7_find_0 (by decide) ?_
  refine w_istore_n ok dX7_find_1 rfl (by decide) rfl ?_
  refine w_loc [1, 2, 0] rfl ?_
  refine loop_e (σ := Unit) (ρ := Int32) (fun (i2 : Nat) (s2 : Unit) => WK K 0 0 2 [(0, .ref k), (1, .int a0), (2, .int (nI i2))] [] (eI f I) (eJ f J) R n g) (B_X7_find_l2 k a0 I J) ((I k 1).toNatClampNeg) (()) ?_ ?_
  · intro se2 he2
    have he2 : (F_X7_find_l2 k a0 I J ()) = .inl se2 := he2
    show WK K 0 0 2 [(0, .ref k), (1, .int a0), (2, .int (nI ((I k 1).toNatClampNeg)))] [] (eI f I) (eJ f J) R n g
    have e1 : (I k 1) ≤ (nI ((I k 1).toNatClampNeg)) := cnt_ge _
    refine w_iload_n ok dX7_find_2 2 rfl ?_
    refine w_aload_n ok dX7_find_3 0 rfl ?_
    refine y_getI ok dX7_find_4 (fX7_9 rfl) (congrArg Prod.fst (sTb hk)) rfl (ltK hnn (nTb hk)) (sdc hf (nTb hk)) ?_
    refine w_icmp_ge (tgt := 30) ok dX7_find_7 (by decide) (fun _ => ?_) (fun h => absurd e1 h)
    refine w_iconst (v := (-1)) ok dX7_find_30 (by decide) ?_
    exact w_iret ok fin dX7_find_31 rfl (by unfold F_X7_find; simp only [he2]; exact Pd.i)
  · intro i2 s2 hi2 hs2 k2 kr2
    show WK K 0 0 2 [(0, .ref k), (1, .int a0), (2, .int (nI i2))] [] (eI f I) (eJ f J) R n g
    have e2 : ¬ ((I k 1) ≤ (nI i2)) := cnt_lt hi2
    refine w_iload_n ok dX7_find_2 2 rfl ?_
    refine w_aload_n ok dX7_find_3 0 rfl ?_
    refine y_getI ok dX7_find_4 (fX7_9 rfl) (congrArg Prod.fst (sTb hk)) rfl (ltK hnn (nTb hk)) (sdc hf (nTb hk)) ?_
    refine w_icmp_ge (tgt := 30) ok dX7_find_7 (by decide) (fun h => absurd h e2) (fun _ => ?_)
    refine w_aload_n ok dX7_find_10 0 rfl ?_
    refine w_getR ok dX7_find_11 (fX7_15 rfl) (congrArg Prod.fst (sTb hk)) rfl (rTb_2 hk ro) (ltK hnn (nTb hk)) ?_
    refine w_iload_n ok dX7_find_14 2 rfl ?_
    refine w_cS (As := [.ref (k + 1), .int (nI i2)]) ok dX7_find_15 iX11_at (lX7_45 rfl) (c_at (sTb_2 hk) (ltK hnn (nTb_2 hk)) (sdc hf (nTb_2 hk)) (nI i2)) (by decide) rfl (Nat.le_of_ble_eq_true rfl) ?_
    refine w_iload_n ok dX7_find_18 1 rfl ?_
    refine w_icmp_ne (tgt := 24) ok dX7_find_19 (by decide) (fun c3 => ?_) (fun c3 => ?_)
    · skip
      refine w_iinc (v := (nI i2) + 1) ok dX7_find_24 2 rfl rfl (by decide) rfl ?_
      refine w_goto (tgt := 2) ok dX7_find_27 (by decide) ?_
      have eB : B_X7_find_l2 k a0 I J i2 s2 = .inl () := by
        unfold B_X7_find_l2; exact (if_neg c3).trans (rfl)
      have kk := k2 _ eB
      refine w_loc [1, 2, 0] rfl ?_
      rw [nI_1 i2]
      exact kk
    · skip
      refine w_iload_n ok dX7_find_22 2 rfl ?_
      have eB : B_X7_find_l2 k a0 I J i2 s2 = .inr (nI i2) := by
        unfold B_X7_find_l2; exact (if_pos c3).trans (rfl)
      have hr : (F_X7_find_l2 k a0 I J ()) = .inr (nI i2) := kr2 _ eB
      exact w_iret ok fin dX7_find_23 rfl (by unfold F_X7_find; simp only [hr]; exact Pd.i)
def S1_X7_add (k : Nat) (a0 : Int32) (a1 : Int32) (a2 : Int32) (a3 : Int32) (I : SI) (J : SJ) : SI := putF (putF I (k + 1) 8 (I k 1) a0) (k + 2) 8 ((putF I (k + 1) 8 (I k 1) a0) k 1) a1
def S2_X7_add (k : Nat) (a0 : Int32) (a1 : Int32) (a2 : Int32) (a3 : Int32) (I : SI) (J : SJ) : SI := putF (S1_X7_add k a0 a1 a2 a3 I J) (k + 3) 8 (((S1_X7_add k a0 a1 a2 a3 I J)) k 1) a2
def S3_X7_add (k : Nat) (a0 : Int32) (a1 : Int32) (a2 : Int32) (a3 : Int32) (I : SI) (J : SJ) : SI := putF (S2_X7_add k a0 a1 a2 a3 I J) (k + 4) 8 (((S2_X7_add k a0 a1 a2 a3 I J)) k 1) a3
def S4_X7_add (k : Nat) (a0 : Int32) (a1 : Int32) (a2 : Int32) (a3 : Int32) (I : SI) (J : SJ) : SI := u2 (S3_X7_add k a0 a1 a2 a3 I J) k 1 ((((S3_X7_add k a0 a1 a2 a3 I J)) k 1) + 1)
def FI_X7_add (k : Nat) (a0 : Int32) (a1 : Int32) (a2 : Int32) (a3 : Int32) (I : SI) (J : SJ) : SI := if (I k 0) ≤ (I k 1) then I else (S4_X7_add k a0 a1 a2 a3 I J)
set_option maxHeartbeats 1000000 in
set_option maxRecDepth 40000 in
theorem c_X7_add {I : SI} {J : SJ} {R : SR} {n g : Nat} {f : Fr} (ro : RO R) (hnn : nK ≤ n) (hf : f.1 = true) {k : Nat} (a0 : Int32) (a1 : Int32) (a2 : Int32) (a3 : Int32) (hk : IsTb k)   : MM 1 0 0 mX7_add [.ref k, .int a0, .int a1, .int a2, .int a3] (eI f I) (eJ f J) R n g (Pd none (eI f (FI_X7_add k a0 a1 a2 a3 I J)) (eJ f J) R n g) := by
  refine MM.of (by decide) (Nat.le_of_ble_eq_true rfl) fun K ok fin => ?_
  show WK K 0 0 0 [(0, .ref k), (1, .int a0), (2, .int a1), (3, .int a2), (4, .int a3)] [] (eI f I) (eJ f J) R n g
  refine w_aload_n ok dX7_add_0 0 rfl ?_
  refine y_getI ok dX7_add_1 (fX7_9 rfl) (congrArg Prod.fst (sTb hk)) rfl (ltK hnn (nTb hk)) (sdc hf (nTb hk)) ?_
  refine w_aload_n ok dX7_add_4 0 rfl ?_
  refine y_getI ok dX7_add_5 (fX7_34 rfl) (congrArg Prod.fst (sTb hk)) rfl (ltK hnn (nTb hk)) (sdc hf (nTb hk)) ?_
  refine w_icmp_ge (tgt := 70) ok dX7_add_8 (by decide) (fun c1 => ?_) (fun c1 => ?_)
  · skip
    exact w_vret ok fin dX7_add_70 rfl (by unfold FI_X7_add; simp only [if_pos c1]; exact Pd.i)
  · skip
    refine w_aload_n ok dX7_add_11 0 rfl ?_
    refine w_getR ok dX7_add_12 (fX7_15 rfl) (congrArg Prod.fst (sTb hk)) rfl (rTb_2 hk ro) (ltK hnn (nTb hk)) ?_
    refine w_aload_n ok dX7_add_15 0 rfl ?_
    refine y_getI ok dX7_add_16 (fX7_9 rfl) (congrArg Prod.fst (sTb hk)) rfl (ltK hnn (nTb hk)) (sdc hf (nTb hk)) ?_
    refine w_iload_n ok dX7_add_19 1 rfl ?_
    refine w_cS (As := [.ref (k + 1), .int (I k 1), .int a0]) ok dX7_add_20 iX11_put (lX7_49 rfl) (c_put (sTb_2 hk) (ltK hnn (nTb_2 hk)) (sdc hf (nTb_2 hk)) (I k 1) a0) (by decide) rfl (Nat.le_of_ble_eq_true rfl) ?_
    refine w_aload_n ok dX7_add_23 0 rfl ?_
    refine w_getR ok dX7_add_24 (fX7_19 rfl) (congrArg Prod.fst (sTb hk)) rfl (rTb_3 hk ro) (ltK hnn (nTb hk)) ?_
    refine w_aload_n ok dX7_add_27 0 rfl ?_
    refine y_getI ok dX7_add_28 (fX7_9 rfl) (congrArg Prod.fst (sTb hk)) rfl (ltK hnn (nTb hk)) (sdc hf (nTb hk)) ?_
    refine w_iload_n ok dX7_add_31 2 rfl ?_
    refine w_cS (As := [.ref (k + 2), .int ((putF I (k + 1) 8 (I k 1) a0) k 1), .int a1]) ok dX7_add_32 iX11_put (lX7_49 rfl) (c_put (sTb_3 hk) (ltK hnn (nTb_3 hk)) (sdc hf (nTb_3 hk)) ((putF I (k + 1) 8 (I k 1) a0) k 1) a1) (by decide) rfl (Nat.le_of_ble_eq_true rfl) ?_
    show WK K 0 0 35 [(0, .ref k), (1, .int a0), (2, .int a1), (3, .int a2), (4, .int a3)] [] (eI f (S1_X7_add k a0 a1 a2 a3 I J)) (eJ f J) R n g
    refine w_aload_n ok dX7_add_35 0 rfl ?_
    refine w_getR ok dX7_add_36 (fX7_22 rfl) (congrArg Prod.fst (sTb hk)) rfl (rTb_4 hk ro) (ltK hnn (nTb hk)) ?_
    refine w_aload_n ok dX7_add_39 0 rfl ?_
    refine y_getI ok dX7_add_40 (fX7_9 rfl) (congrArg Prod.fst (sTb hk)) rfl (ltK hnn (nTb hk)) (sdc hf (nTb hk)) ?_
    refine w_iload_n ok dX7_add_43 3 rfl ?_
    refine w_cS (As := [.ref (k + 3), .int (((S1_X7_add k a0 a1 a2 a3 I J)) k 1), .int a2]) ok dX7_add_44 iX11_put (lX7_49 rfl) (c_put (sTb_4 hk) (ltK hnn (nTb_4 hk)) (sdc hf (nTb_4 hk)) (((S1_X7_add k a0 a1 a2 a3 I J)) k 1) a2) (by decide) rfl (Nat.le_of_ble_eq_true rfl) ?_
    show WK K 0 0 47 [(0, .ref k), (1, .int a0), (2, .int a1), (3, .int a2), (4, .int a3)] [] (eI f (S2_X7_add k a0 a1 a2 a3 I J)) (eJ f J) R n g
    refine w_aload_n ok dX7_add_47 0 rfl ?_
    refine w_getR ok dX7_add_48 (fX7_25 rfl) (congrArg Prod.fst (sTb hk)) rfl (rTb_5 hk ro) (ltK hnn (nTb hk)) ?_
    refine w_aload_n ok dX7_add_51 0 rfl ?_
    refine y_getI ok dX7_add_52 (fX7_9 rfl) (congrArg Prod.fst (sTb hk)) rfl (ltK hnn (nTb hk)) (sdc hf (nTb hk)) ?_
    refine w_iload ok dX7_add_55 4 rfl ?_
    refine w_cS (As := [.ref (k + 4), .int (((S2_X7_add k a0 a1 a2 a3 I J)) k 1), .int a3]) ok dX7_add_57 iX11_put (lX7_49 rfl) (c_put (sTb_5 hk) (ltK hnn (nTb_5 hk)) (sdc hf (nTb_5 hk)) (((S2_X7_add k a0 a1 a2 a3 I J)) k 1) a3) (by decide) rfl (Nat.le_of_ble_eq_true rfl) ?_
    show WK K 0 0 60 [(0, .ref k), (1, .int a0), (2, .int a1), (3, .int a2), (4, .int a3)] [] (eI f (S3_X7_add k a0 a1 a2 a3 I J)) (eJ f J) R n g
    refine w_aload_n ok dX7_add_60 0 rfl ?_
    refine w_dup ok dX7_add_61 rfl ?_
    refine y_getI ok dX7_add_62 (fX7_9 rfl) (congrArg Prod.fst (sTb hk)) rfl (ltK hnn (nTb hk)) (sdc hf (nTb hk)) ?_
    refine w_iconst (v := 1) ok dX7_add_65 (by decide) ?_
    refine w_iadd ok dX7_add_66 ?_
    refine y_putI ok dX7_add_67 (fwX7_9 rfl) (congrArg Prod.fst (sTb hk)) rfl (ltK hnn (nTb hk)) (sdc hf (nTb hk)) ?_
    show WK K 0 0 70 [(0, .ref k), (1, .int a0), (2, .int a1), (3, .int a2), (4, .int a3)] [] (eI f (S4_X7_add k a0 a1 a2 a3 I J)) (eJ f J) R n g
    exact w_vret ok fin dX7_add_70 rfl (by unfold FI_X7_add; simp only [if_neg c1]; exact Pd.i)
def F_X8_packed (a0 : Int32) (a1 : Int32) (I : SI) (J : SJ) : Int32 := if (6 : Int32) ≤ a1 then 0 else ((a0 - 97) + 1) <<< (((5 : Int32) * ((5 : Int32) - a1)) &&& 31)
set_option maxHeartbeats 1000000 in
set_option maxRecDepth 40000 in
theorem c_X8_packed {I : SI} {J : SJ} {R : SR} {n g : Nat} {f : Fr} (ro : RO R) (hnn : nK ≤ n) (hf : f.1 = true) (a0 : Int32) (a1 : Int32)   : MM 0 0 0 mX8_packed [.int a0, .int a1] (eI f I) (eJ f J) R n g (Pd (some (.int (F_X8_packed a0 a1 I J))) (eI f I) (eJ f J) R n g) := by
  refine MM.of (by decide) (Nat.le_of_ble_eq_true rfl) fun K ok fin => ?_
  show WK K 0 0 0 [(0, .int a0), (1, .int a1)] [] (eI f I) (eJ f J) R n g
  refine w_iload_n ok dX8_packed_0 1 rfl ?_
  refine w_bipush (v := 6) ok dX8_packed_1 (by decide) ?_
  refine w_icmp_ge (tgt := 21) ok dX8_packed_3 (by decide) (fun c1 => ?_) (fun c1 => ?_)
  · skip
    refine w_iconst (v := 0) ok dX8_packed_21 (by decide) ?_
    exact w_iret ok fin dX8_packed_22 rfl (by unfold F_X8_packed; simp only [if_pos c1]; exact Pd.i)
  · skip
    refine w_iload_n ok dX8_packed_6 0 rfl ?_
    refine w_bipush (v := 97) ok dX8_packed_7 (by decide) ?_
    refine w_isub ok dX8_packed_9 ?_
    refine w_iconst (v := 1) ok dX8_packed_10 (by decide) ?_
    refine w_iadd ok dX8_packed_11 ?_
    refine w_iconst (v := 5) ok dX8_packed_12 (by decide) ?_
    refine w_iconst (v := 5) ok dX8_packed_13 (by decide) ?_
    refine w_iload_n ok dX8_packed_14 1 rfl ?_
    refine w_isub ok dX8_packed_15 ?_
    refine w_imul ok dX8_packed_16 ?_
    refine w_ishl ok dX8_packed_17 ?_
    refine w_goto (tgt := 22) ok dX8_packed_18 (by decide) ?_
    exact w_iret ok fin dX8_packed_22 rfl (by unfold F_X8_packed; simp only [if_neg c1]; exact Pd.i)
def F_X8_isLetter (a0 : Int32) (I : SI) (J : SJ) : Int32 := if a0 < 97 then 0 else (if (122 : Int32) < a0 then 0 else 1)
set_option maxHeartbeats 1000000 in
set_option maxRecDepth 40000 in
theorem c_X8_isLetter {I : SI} {J : SJ} {R : SR} {n g : Nat} {f : Fr} (ro : RO R) (hnn : nK ≤ n) (hf : f.1 = true) (a0 : Int32)   : MM 0 0 0 mX8_isLetter [.int a0] (eI f I) (eJ f J) R n g (Pd (some (.int (F_X8_isLetter a0 I J))) (eI f I) (eJ f J) R n g) := by
  refine MM.of (by decide) (Nat.le_of_ble_eq_true rfl) fun K ok fin => ?_
  show WK K 0 0 0 [(0, .int a0)] [] (eI f I) (eJ f J) R n g
  refine w_iload_n ok dX8_isLetter_0 0 rfl ?_
  refine w_bipush (v := 97) ok dX8_isLetter_1 (by decide) ?_
  refine w_icmp_lt (tgt := 16) ok dX8_isLetter_3 (by decide) (fun c1 => ?_) (fun c1 => ?_)
  · skip
    refine w_iconst (v := 0) ok dX8_isLetter_16 (by decide) ?_
    exact w_zret ok fin dX8_isLetter_17 rfl (by decide) (by unfold F_X8_isLetter; simp only [if_pos c1]; exact Pd.i)
  · skip
    refine w_iload_n ok dX8_isLetter_6 0 rfl ?_
    refine w_bipush (v := 122) ok dX8_isLetter_7 (by decide) ?_
    refine w_icmp_gt (tgt := 16) ok dX8_isLetter_9 (by decide) (fun c2 => ?_) (fun c2 => ?_)
    · skip
      refine w_iconst (v := 0) ok dX8_isLetter_16 (by decide) ?_
      exact w_zret ok fin dX8_isLetter_17 rfl (by decide) (by unfold F_X8_isLetter; simp only [if_neg c1]; simp only [if_pos c2]; exact Pd.i)
    · skip
      refine w_iconst (v := 1) ok dX8_isLetter_12 (by decide) ?_
      refine w_goto (tgt := 17) ok dX8_isLetter_13 (by decide) ?_
      exact w_zret ok fin dX8_isLetter_17 rfl (by decide) (by unfold F_X8_isLetter; simp only [if_neg c1]; simp only [if_neg c2]; exact Pd.i)
def F_X8_isDigit (a0 : Int32) (I : SI) (J : SJ) : Int32 := if a0 < 48 then 0 else (if (57 : Int32) < a0 then 0 else 1)
set_option maxHeartbeats 1000000 in
set_option maxRecDepth 40000 in
theorem c_X8_isDigit {I : SI} {J : SJ} {R : SR} {n g : Nat} {f : Fr} (ro : RO R) (hnn : nK ≤ n) (hf : f.1 = true) (a0 : Int32)   : MM 0 0 0 mX8_isDigit [.int a0] (eI f I) (eJ f J) R n g (Pd (some (.int (F_X8_isDigit a0 I J))) (eI f I) (eJ f J) R n g) := by
  refine MM.of (by decide) (Nat.le_of_ble_eq_true rfl) fun K ok fin => ?_
  show WK K 0 0 0 [(0, .int a0)] [] (eI f I) (eJ f J) R n g
  refine w_iload_n ok dX8_isDigit_0 0 rfl ?_
  refine w_bipush (v := 48) ok dX8_isDigit_1 (by decide) ?_
  refine w_icmp_lt (tgt := 16) ok dX8_isDigit_3 (by decide) (fun c1 => ?_) (fun c1 => ?_)
  · skip
    refine w_iconst (v := 0) ok dX8_isDigit_16 (by decide) ?_
    exact w_zret ok fin dX8_isDigit_17 rfl (by decide) (by unfold F_X8_isDigit; simp only [if_pos c1]; exact Pd.i)
  · skip
    refine w_iload_n ok dX8_isDigit_6 0 rfl ?_
    refine w_bipush (v := 57) ok dX8_isDigit_7 (by decide) ?_
    refine w_icmp_gt (tgt := 16) ok dX8_isDigit_9 (by decide) (fun c2 => ?_) (fun c2 => ?_)
    · skip
      refine w_iconst (v := 0) ok dX8_isDigit_16 (by decide) ?_
      exact w_zret ok fin dX8_isDigit_17 rfl (by decide) (by unfold F_X8_isDigit; simp only [if_neg c1]; simp only [if_pos c2]; exact Pd.i)
    · skip
      refine w_iconst (v := 1) ok dX8_isDigit_12 (by decide) ?_
      refine w_goto (tgt := 17) ok dX8_isDigit_13 (by decide) ?_
      exact w_zret ok fin dX8_isDigit_17 rfl (by decide) (by unfold F_X8_isDigit; simp only [if_neg c1]; simp only [if_neg c2]; exact Pd.i)
