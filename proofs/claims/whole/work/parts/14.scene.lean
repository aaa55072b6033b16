/-! by program: Scene, Table, Order, Seen and such-/
def F_X5_wayIn (k : Nat) (shot : Int32) (mark : Int32) (I : SI) (J : SJ) : Int32 := atF (I (k + 4)) 48 ((shot * 6) + mark)
set_option maxHeartbeats 8000000 in
set_option maxRecDepth 40000 in
theorem c_X5_wayIn {I : SI} {J : SJ} {R : SR} {g : Nat} (ro : RO R) {k : Nat} (shot : Int32) (mark : Int32) (hk : IsSc k)  : MM 1 0 0 mX5_wayIn [.ref k, .int shot, .int mark] I J R nC g (Pd (some (.int (F_X5_wayIn k shot mark I J))) I J R nC g) := by
  refine MM.of (by decide) (Nat.le_of_ble_eq_true rfl) fun K ok fin => ?_
  show WK K 0 0 0 [(0, .ref k), (1, .int shot), (2, .int mark)] [] I J R nC g
  refine w_aload_n ok dX5_wayIn_0 0 rfl ?_
  refine w_getR ok dX5_wayIn_1 (fX5_44 rfl) (congrArg Prod.fst (sSc hk)) rfl (rSc_10 hk ro) (nSc hk) ?_
  refine w_iload_n ok dX5_wayIn_4 1 rfl ?_
  refine w_bipush (v := 6) ok dX5_wayIn_5 (by decide) ?_
  refine w_imul ok dX5_wayIn_7 ?_
  refine w_iload_n ok dX5_wayIn_8 2 rfl ?_
  refine w_iadd ok dX5_wayIn_9 ?_
  refine w_cS (As := [.ref (k + 4), .int ((shot * 6) + mark)]) ok dX5_wayIn_10 iX11_at (lX5_89 rfl) (c_at ro (sSc_10 hk) (nSc_10 hk) ((shot * 6) + mark)) (by decide) rfl (Nat.le_of_ble_eq_true rfl) ?_
  exact w_iret ok fin dX5_wayIn_13 rfl (by unfold F_X5_wayIn; exact Pd.i)
def B_X5_marksIn_l4 (k : Nat) (y1 : Int32) (I : SI) (J : SJ) (i4 : Nat) (s4 : Int32) : Int32 := if (F_X5_wayIn k y1 (nI i4) I J) < 0 then (s4 + 0) else (s4 + 1)
def F_X5_marksIn_l4 (k : Nat) (y1 : Int32) (I : SI) (J : SJ) (s0 : Int32) : Int32 := itN (B_X5_marksIn_l4 k y1 I J) (6) s0
def F_X5_marksIn (k : Nat) (shot : Int32) (I : SI) (J : SJ) : Int32 := (F_X5_marksIn_l4 k shot I J 0)
set_option maxHeartbeats 8000000 in
set_option maxRecDepth 40000 in
theorem c_X5_marksIn {I : SI} {J : SJ} {R : SR} {g : Nat} (ro : RO R) {k : Nat} (shot : Int32) (hk : IsSc k)  : MM 2 0 0 mX5_marksIn [.ref k, .int shot] I J R nC g (Pd (some (.int (F_X5_marksIn k shot I J))) I J R nC g) := by
  refine MM.of (by decide) (Nat.le_of_ble_eq_true rfl) fun K ok fin => ?_
  show WK K 0 0 0 [(0, .ref k), (1, .int shot)] [] I J R nC g
  refine w_iconst (v := 0) ok dX5_marksIn_0 (by decide) ?_
  refine w_istore_n ok dX5_marksIn_1 rfl (by decide) rfl ?_
  refine w_iconst (v := 0) ok dX5_marksIn_2 (by decide) ?_
  refine w_istore_n ok dX5_marksIn_3 rfl (by decide) rfl ?_
  refine w_loc [2, 3, 1, 0] rfl ?_
  refine loop_for (σ := Int32) (fun (i4 : Nat) (s4 : Int32) => WK K 0 0 4 [(0, .ref k), (1, .int shot), (2, .int s4), (3, .int (nI i4))] [] I J R nC g) (B_X5_marksIn_l4 k shot I J) (6) (0) ?_ ?_
  · show WK K 0 0 4 [(0, .ref k), (1, .int shot), (2, .int ((F_X5_marksIn_l4 k shot I J 0))), (3, .int (nI 6))] [] I J R nC g
    have e1 : (6 : Int32) ≤ (nI 6) := (show nI 6 ≤ nI 6 from nI_le (by omega) (by decide))
    refine w_iload_n ok dX5_marksIn_4 3 rfl ?_
    refine w_bipush (v := 6) ok dX5_marksIn_5 (by decide) ?_
    refine w_icmp_ge (tgt := 33) ok dX5_marksIn_7 (by decide) (fun _ => ?_) (fun h => absurd e1 h)
    refine w_iload_n ok dX5_marksIn_33 2 rfl ?_
    exact w_iret ok fin dX5_marksIn_34 rfl (by unfold F_X5_marksIn; exact Pd.i)
  · intro i4 s4 hi4 k4
    show WK K 0 0 4 [(0, .ref k), (1, .int shot), (2, .int s4), (3, .int (nI i4))] [] I J R nC g
    have e2 : ¬ ((6 : Int32) ≤ (nI i4)) := (show ¬ (nI 6 ≤ nI i4) from nI_ge (by omega) (by decide))
    refine w_iload_n ok dX5_marksIn_4 3 rfl ?_
    refine w_bipush (v := 6) ok dX5_marksIn_5 (by decide) ?_
    refine w_icmp_ge (tgt := 33) ok dX5_marksIn_7 (by decide) (fun h => absurd h e2) (fun _ => ?_)
    refine w_iload_n ok dX5_marksIn_10 2 rfl ?_
    refine w_aload_n ok dX5_marksIn_11 0 rfl ?_
    refine w_iload_n ok dX5_marksIn_12 1 rfl ?_
    refine w_iload_n ok dX5_marksIn_13 3 rfl ?_
    refine w_cV (As := [.int shot, .int (nI i4)]) ok dX5_marksIn_14 iX5_wayIn (lX5_93 rfl) (rcv cls5 (congrArg Prod.fst (sSc hk))) (nSc hk) (c_X5_wayIn ro shot (nI i4) hk) (by decide) rfl (Nat.le_of_ble_eq_true rfl) ?_
    refine w_if_lt (tgt := 24) ok dX5_marksIn_17 (by decide) (fun c3 => ?_) (fun c3 => ?_)
    · skip
      refine w_iconst (v := 0) ok dX5_marksIn_24 (by decide) ?_
      refine w_iadd ok dX5_marksIn_25 ?_
      refine w_istore_n ok dX5_marksIn_26 rfl (by decide) rfl ?_
      refine w_iinc (v := (nI i4) + 1) ok dX5_marksIn_27 3 rfl rfl (by decide) rfl ?_
      refine w_goto (tgt := 4) ok dX5_marksIn_30 (by decide) ?_
      have eB : B_X5_marksIn_l4 k shot I J i4 s4 = (s4 + 0) := by
        unfold B_X5_marksIn_l4; exact (if_pos c3).trans (rfl)
      have kk := k4
      rw [eB] at kk
      refine w_loc [2, 3, 1, 0] rfl ?_
      rw [nI_1 i4]
      exact kk
    · skip
      refine w_iconst (v := 1) ok dX5_marksIn_20 (by decide) ?_
      refine w_goto (tgt := 25) ok dX5_marksIn_21 (by decide) ?_
      refine w_iadd ok dX5_marksIn_25 ?_
      refine w_istore_n ok dX5_marksIn_26 rfl (by decide) rfl ?_
      refine w_iinc (v := (nI i4) + 1) ok dX5_marksIn_27 3 rfl rfl (by decide) rfl ?_
      refine w_goto (tgt := 4) ok dX5_marksIn_30 (by decide) ?_
      have eB : B_X5_marksIn_l4 k shot I J i4 s4 = (s4 + 1) := by
        unfold B_X5_marksIn_l4; exact (if_neg c3).trans (rfl)
      have kk := k4
      rw [eB] at kk
      refine w_loc [2, 3, 1, 0] rfl ?_
      rw [nI_1 i4]
      exact kk
def B_X5_clashing_l4 (k : Nat) (y1 : Int32) (I : SI) (J : SJ) (i4 : Nat) (s4 : Int32) : Int32 := if (F_X5_wayIn k y1 (nI i4) I J) < 0 then (s4 + 0) else (if (atF (I (k + 5)) 6 (nI i4)) < 0 then (s4 + 0) else (if (F_X5_wayIn k y1 (nI i4) I J) = (atF (I (k + 5)) 6 (nI i4)) then (s4 + 0) else (s4 + 1)))
def F_X5_clashing_l4 (k : Nat) (y1 : Int32) (I : SI) (J : SJ) (s0 : Int32) : Int32 := itN (B_X5_clashing_l4 k y1 I J) (6) s0
def F_X5_clashing (k : Nat) (shot : Int32) (I : SI) (J : SJ) : Int32 := (F_X5_clashing_l4 k shot I J 0)
set_option maxHeartbeats 8000000 in
set_option maxRecDepth 40000 in
theorem c_X5_clashing {I : SI} {J : SJ} {R : SR} {g : Nat} (ro : RO R) {k : Nat} (shot : Int32) (hk : IsSc k)  : MM 2 0 0 mX5_clashing [.ref k, .int shot] I J R nC g (Pd (some (.int (F_X5_clashing k shot I J))) I J R nC g) := by
  refine MM.of (by decide) (Nat.le_of_ble_eq_true rfl) fun K ok fin => ?_
  show WK K 0 0 0 [(0, .ref k), (1, .int shot)] [] I J R nC g
  refine w_iconst (v := 0) ok dX5_clashing_0 (by decide) ?_
  refine w_istore_n ok dX5_clashing_1 rfl (by decide) rfl ?_
  refine w_iconst (v := 0) ok dX5_clashing_2 (by decide) ?_
  refine w_istore_n ok dX5_clashing_3 rfl (by decide) rfl ?_
  refine w_loc [2, 3, 1, 0] rfl ?_
  refine loop_for (σ := Int32) (fun (i4 : Nat) (s4 : Int32) => WK K 0 0 4 [(0, .ref k), (1, .int shot), (2, .int s4), (3, .int (nI i4))] [] I J R nC g) (B_X5_clashing_l4 k shot I J) (6) (0) ?_ ?_
  · show WK K 0 0 4 [(0, .ref k), (1, .int shot), (2, .int ((F_X5_clashing_l4 k shot I J 0))), (3, .int (nI 6))] [] I J R nC g
    have e1 : (6 : Int32) ≤ (nI 6) := (show nI 6 ≤ nI 6 from nI_le (by omega) (by decide))
    refine w_iload_n ok dX5_clashing_4 3 rfl ?_
    refine w_bipush (v := 6) ok dX5_clashing_5 (by decide) ?_
    refine w_icmp_ge (tgt := 59) ok dX5_clashing_7 (by decide) (fun _ => ?_) (fun h => absurd e1 h)
    refine w_iload_n ok dX5_clashing_59 2 rfl ?_
    exact w_iret ok fin dX5_clashing_60 rfl (by unfold F_X5_clashing; exact Pd.i)
  · intro i4 s4 hi4 k4
    show WK K 0 0 4 [(0, .ref k), (1, .int shot), (2, .int s4), (3, .int (nI i4))] [] I J R nC g
    have e2 : ¬ ((6 : Int32) ≤ (nI i4)) := (show ¬ (nI 6 ≤ nI i4) from nI_ge (by omega) (by decide))
    refine w_iload_n ok dX5_clashing_4 3 rfl ?_
    refine w_bipush (v := 6) ok dX5_clashing_5 (by decide) ?_
    refine w_icmp_ge (tgt := 59) ok dX5_clashing_7 (by decide) (fun h => absurd h e2) (fun _ => ?_)
    refine w_aload_n ok dX5_clashing_10 0 rfl ?_
    refine w_iload_n ok dX5_clashing_11 1 rfl ?_
    refine w_iload_n ok dX5_clashing_12 3 rfl ?_
    refine w_cV (As := [.int shot, .int (nI i4)]) ok dX5_clashing_13 iX5_wayIn (lX5_93 rfl) (rcv cls5 (congrArg Prod.fst (sSc hk))) (nSc hk) (c_X5_wayIn ro shot (nI i4) hk) (by decide) rfl (Nat.le_of_ble_eq_true rfl) ?_
    refine w_istore ok dX5_clashing_16 (by decide) rfl ?_
    refine w_aload_n ok dX5_clashing_18 1 rfl ?_
    refine w_getR ok dX5_clashing_19 (fX5_47 rfl) (congrArg Prod.fst (sSc hk)) rfl (rSc_11 hk ro) (nSc hk) ?_
    refine w_iload_n ok dX5_clashing_22 4 rfl ?_
    refine w_cS (As := [.ref (k + 5), .int (nI i4)]) ok dX5_clashing_23 iX11_at (lX5_89 rfl) (c_at ro (sSc_11 hk) (nSc_11 hk) (nI i4)) (by decide) rfl (Nat.le_of_ble_eq_true rfl) ?_
    refine w_istore ok dX5_clashing_26 (by decide) rfl ?_
    refine w_iload_n ok dX5_clashing_28 4 rfl ?_
    refine w_iload ok dX5_clashing_29 1 rfl ?_
    refine w_if_lt (tgt := 50) ok dX5_clashing_31 (by decide) (fun c3 => ?_) (fun c3 => ?_)
    · skip
      refine w_iconst (v := 0) ok dX5_clashing_50 (by decide) ?_
      refine w_iadd ok dX5_clashing_51 ?_
      refine w_istore_n ok dX5_clashing_52 rfl (by decide) rfl ?_
      refine w_iinc (v := (nI i4) + 1) ok dX5_clashing_53 5 rfl rfl (by decide) rfl ?_
      refine w_goto (tgt := 4) ok dX5_clashing_56 (by decide) ?_
      have eB : B_X5_clashing_l4 k shot I J i4 s4 = (s4 + 0) := by
        unfold B_X5_clashing_l4; exact (if_pos c3).trans (rfl)
      have kk := k4
      rw [eB] at kk
      refine w_loc [4, 5, 1, 0] rfl ?_
      rw [nI_1 i4]
      exact kk
    · skip
      refine w_iload ok dX5_clashing_34 0 rfl ?_
      refine w_if_lt (tgt := 50) ok dX5_clashing_36 (by decide) (fun c4 => ?_) (fun c4 => ?_)
      · skip
        refine w_iconst (v := 0) ok dX5_clashing_50 (by decide) ?_
        refine w_iadd ok dX5_clashing_51 ?_
        refine w_istore_n ok dX5_clashing_52 rfl (by decide) rfl ?_
        refine w_iinc (v := (nI i4) + 1) ok dX5_clashing_53 5 rfl rfl (by decide) rfl ?_
        refine w_goto (tgt := 4) ok dX5_clashing_56 (by decide) ?_
        have eB : B_X5_clashing_l4 k shot I J i4 s4 = (s4 + 0) := by
          unfold B_X5_clashing_l4; exact (if_neg c3).trans ((if_pos c4).trans (rfl))
        have kk := k4
        rw [eB] at kk
        refine w_loc [4, 5, 1, 0] rfl ?_
        rw [nI_1 i4]
        exact kk
      · skip
        refine w_iload ok dX5_clashing_39 1 rfl ?_
        refine w_iload ok dX5_clashing_41 0 rfl ?_
        refine w_icmp_eq (tgt := 50) ok dX5_clashing_43 (by decide) (fun c5 => ?_) (fun c5 => ?_)
        · skip
          refine w_iconst (v := 0) ok dX5_clashing_50 (by decide) ?_
          refine w_iadd ok dX5_clashing_51 ?_
          refine w_istore_n ok dX5_clashing_52 rfl (by decide) rfl ?_
          refine w_iinc (v := (nI i4) + 1) ok dX5_clashing_53 5 rfl rfl (by decide) rfl ?_
          refine w_goto (tgt := 4) ok dX5_clashing_56 (by decide) ?_
          have eB : B_X5_clashing_l4 k shot I J i4 s4 = (s4 + 0) := by
            unfold B_X5_clashing_l4; exact (if_neg c3).trans ((if_neg c4).trans ((if_pos c5).trans (rfl)))
          have kk := k4
          rw [eB] at kk
          refine w_loc [4, 5, 1, 0] rfl ?_
          rw [nI_1 i4]
          exact kk
        · skip
          refine w_iconst (v := 1) ok dX5_clashing_46 (by decide) ?_
          refine w_goto (tgt := 51) ok dX5_clashing_47 (by decide) ?_
          refine w_iadd ok dX5_clashing_51 ?_
          refine w_istore_n ok dX5_clashing_52 rfl (by decide) rfl ?_
          refine w_iinc (v := (nI i4) + 1) ok dX5_clashing_53 5 rfl rfl (by decide) rfl ?_
          refine w_goto (tgt := 4) ok dX5_clashing_56 (by decide) ?_
          have eB : B_X5_clashing_l4 k shot I J i4 s4 = (s4 + 1) := by
            unfold B_X5_clashing_l4; exact (if_neg c3).trans ((if_neg c4).trans ((if_neg c5).trans (rfl)))
          have kk := k4
          rw [eB] at kk
          refine w_loc [4, 5, 1, 0] rfl ?_
          rw [nI_1 i4]
          exact kk
def B_X5_clashCount_l4 (k : Nat) (I : SI) (J : SJ) (i4 : Nat) (s4 : Int32) : Int32 := if (atF (I (k + 2)) 8 (nI i4)) = 0 then (s4 + 0) else (s4 + (F_X5_clashing k (nI i4) I J))
def F_X5_clashCount_l4 (k : Nat) (I : SI) (J : SJ) (s0 : Int32) : Int32 := itN (B_X5_clashCount_l4 k I J) (8) s0
def F_X5_clashCount (k : Nat) (I : SI) (J : SJ) : Int32 := (F_X5_clashCount_l4 k I J 0)
set_option maxHeartbeats 8000000 in
set_option maxRecDepth 40000 in
theorem c_X5_clashCount {I : SI} {J : SJ} {R : SR} {g : Nat} (ro : RO R) {k : Nat} (hk : IsSc k)  : MM 3 0 0 mX5_clashCount [.ref k] I J R nC g (Pd (some (.int (F_X5_clashCount k I J))) I J R nC g) := by
  refine MM.of (by decide) (Nat.le_of_ble_eq_true rfl) fun K ok fin => ?_
  show WK K 0 0 0 [(0, .ref k)] [] I J R nC g
  refine w_iconst (v := 0) ok dX5_clashCount_0 (by decide) ?_
  refine w_istore_n ok dX5_clashCount_1 rfl (by decide) rfl ?_
  refine w_iconst (v := 0) ok dX5_clashCount_2 (by decide) ?_
  refine w_istore_n ok dX5_clashCount_3 rfl (by decide) rfl ?_
  refine w_loc [2, 1, 0] rfl ?_
  refine loop_for (σ := Int32) (fun (i4 : Nat) (s4 : Int32) => WK K 0 0 4 [(0, .ref k), (1, .int s4), (2, .int (nI i4))] [] I J R nC g) (B_X5_clashCount_l4 k I J) (8) (0) ?_ ?_
  · show WK K 0 0 4 [(0, .ref k), (1, .int ((F_X5_clashCount_l4 k I J 0))), (2, .int (nI 8))] [] I J R nC g
    have e1 : (8 : Int32) ≤ (nI 8) := (show nI 8 ≤ nI 8 from nI_le (by omega) (by decide))
    refine w_iload_n ok dX5_clashCount_4 2 rfl ?_
    refine w_bipush (v := 8) ok dX5_clashCount_5 (by decide) ?_
    refine w_icmp_ge (tgt := 39) ok dX5_clashCount_7 (by decide) (fun _ => ?_) (fun h => absurd e1 h)
    refine w_iload_n ok dX5_clashCount_39 1 rfl ?_
    exact w_iret ok fin dX5_clashCount_40 rfl (by unfold F_X5_clashCount; exact Pd.i)
  · intro i4 s4 hi4 k4
    show WK K 0 0 4 [(0, .ref k), (1, .int s4), (2, .int (nI i4))] [] I J R nC g
    have e2 : ¬ ((8 : Int32) ≤ (nI i4)) := (show ¬ (nI 8 ≤ nI i4) from nI_ge (by omega) (by decide))
    refine w_iload_n ok dX5_clashCount_4 2 rfl ?_
    refine w_bipush (v := 8) ok dX5_clashCount_5 (by decide) ?_
    refine w_icmp_ge (tgt := 39) ok dX5_clashCount_7 (by decide) (fun h => absurd h e2) (fun _ => ?_)
    refine w_iload_n ok dX5_clashCount_10 1 rfl ?_
    refine w_aload_n ok dX5_clashCount_11 0 rfl ?_
    refine w_getR ok dX5_clashCount_12 (fX5_38 rfl) (congrArg Prod.fst (sSc hk)) rfl (rSc_8 hk ro) (nSc hk) ?_
    refine w_iload_n ok dX5_clashCount_15 2 rfl ?_
    refine w_cS (As := [.ref (k + 2), .int (nI i4)]) ok dX5_clashCount_16 iX11_at (lX5_89 rfl) (c_at ro (sSc_8 hk) (nSc_8 hk) (nI i4)) (by decide) rfl (Nat.le_of_ble_eq_true rfl) ?_
    refine w_if_eq (tgt := 30) ok dX5_clashCount_19 (by decide) (fun c3 => ?_) (fun c3 => ?_)
    · skip
      refine w_iconst (v := 0) ok dX5_clashCount_30 (by decide) ?_
      refine w_iadd ok dX5_clashCount_31 ?_
      refine w_istore_n ok dX5_clashCount_32 rfl (by decide) rfl ?_
      refine w_iinc (v := (nI i4) + 1) ok dX5_clashCount_33 2 rfl rfl (by decide) rfl ?_
      refine w_goto (tgt := 4) ok dX5_clashCount_36 (by decide) ?_
      have eB : B_X5_clashCount_l4 k I J i4 s4 = (s4 + 0) := by
        unfold B_X5_clashCount_l4; exact (if_pos c3).trans (rfl)
      have kk := k4
      rw [eB] at kk
      refine w_loc [2, 1, 0] rfl ?_
      rw [nI_1 i4]
      exact kk
    · skip
      refine w_aload_n ok dX5_clashCount_22 0 rfl ?_
      refine w_iload_n ok dX5_clashCount_23 2 rfl ?_
      refine w_cV (As := [.int (nI i4)]) ok dX5_clashCount_24 iX5_clashing (lX5_97 rfl) (rcv cls5 (congrArg Prod.fst (sSc hk))) (nSc hk) (c_X5_clashing ro (nI i4) hk) (by decide) rfl (Nat.le_of_ble_eq_true rfl) ?_
      refine w_goto (tgt := 31) ok dX5_clashCount_27 (by decide) ?_
      refine w_iadd ok dX5_clashCount_31 ?_
      refine w_istore_n ok dX5_clashCount_32 rfl (by decide) rfl ?_
      refine w_iinc (v := (nI i4) + 1) ok dX5_clashCount_33 2 rfl rfl (by decide) rfl ?_
      refine w_goto (tgt := 4) ok dX5_clashCount_36 (by decide) ?_
      have eB : B_X5_clashCount_l4 k I J i4 s4 = (s4 + (F_X5_clashing k (nI i4) I J)) := by
        unfold B_X5_clashCount_l4; exact (if_neg c3).trans (rfl)
      have kk := k4
      rw [eB] at kk
      refine w_loc [2, 1, 0] rfl ?_
      rw [nI_1 i4]
      exact kk
def B_X5_filmedCount_l4 (k : Nat) (I : SI) (J : SJ) (i4 : Nat) (s4 : Int32) : Int32 := (s4 + (atF (I (k + 2)) 8 (nI i4)))
def F_X5_filmedCount_l4 (k : Nat) (I : SI) (J : SJ) (s0 : Int32) : Int32 := itN (B_X5_filmedCount_l4 k I J) (8) s0
def F_X5_filmedCount (k : Nat) (I : SI) (J : SJ) : Int32 := (F_X5_filmedCount_l4 k I J 0)
set_option maxHeartbeats 8000000 in
set_option maxRecDepth 40000 in
theorem c_X5_filmedCount {I : SI} {J : SJ} {R : SR} {g : Nat} (ro : RO R) {k : Nat} (hk : IsSc k)  : MM 1 0 0 mX5_filmedCount [.ref k] I J R nC g (Pd (some (.int (F_X5_filmedCount k I J))) I J R nC g) := by
  refine MM.of (by decide) (Nat.le_of_ble_eq_true rfl) fun K ok fin => ?_
  show WK K 0 0 0 [(0, .ref k)] [] I J R nC g
  refine w_iconst (v := 0) ok dX5_filmedCount_0 (by decide) ?_
  refine w_istore_n ok dX5_filmedCount_1 rfl (by decide) rfl ?_
  refine w_iconst (v := 0) ok dX5_filmedCount_2 (by decide) ?_
  refine w_istore_n ok dX5_filmedCount_3 rfl (by decide) rfl ?_
  refine w_loc [2, 1, 0] rfl ?_
  refine loop_for (σ := Int32) (fun (i4 : Nat) (s4 : Int32) => WK K 0 0 4 [(0, .ref k), (1, .int s4), (2, .int (nI i4))] [] I J R nC g) (B_X5_filmedCount_l4 k I J) (8) (0) ?_ ?_
  · show WK K 0 0 4 [(0, .ref k), (1, .int ((F_X5_filmedCount_l4 k I J 0))), (2, .int (nI 8))] [] I J R nC g
    have e1 : (8 : Int32) ≤ (nI 8) := (show nI 8 ≤ nI 8 from nI_le (by omega) (by decide))
    refine w_iload_n ok dX5_filmedCount_4 2 rfl ?_
    refine w_bipush (v := 8) ok dX5_filmedCount_5 (by decide) ?_
    refine w_icmp_ge (tgt := 27) ok dX5_filmedCount_7 (by decide) (fun _ => ?_) (fun h => absurd e1 h)
    refine w_iload_n ok dX5_filmedCount_27 1 rfl ?_
    exact w_iret ok fin dX5_filmedCount_28 rfl (by unfold F_X5_filmedCount; exact Pd.i)
  · intro i4 s4 hi4 k4
    show WK K 0 0 4 [(0, .ref k), (1, .int s4), (2, .int (nI i4))] [] I J R nC g
    have e2 : ¬ ((8 : Int32) ≤ (nI i4)) := (show ¬ (nI 8 ≤ nI i4) from nI_ge (by omega) (by decide))
    refine w_iload_n ok dX5_filmedCount_4 2 rfl ?_
    refine w_bipush (v := 8) ok dX5_filmedCount_5 (by decide) ?_
    refine w_icmp_ge (tgt := 27) ok dX5_filmedCount_7 (by decide) (fun h => absurd h e2) (fun _ => ?_)
    refine w_iload_n ok dX5_filmedCount_10 1 rfl ?_
    refine w_aload_n ok dX5_filmedCount_11 0 rfl ?_
    refine w_getR ok dX5_filmedCount_12 (fX5_38 rfl) (congrArg Prod.fst (sSc hk)) rfl (rSc_8 hk ro) (nSc hk) ?_
    refine w_iload_n ok dX5_filmedCount_15 2 rfl ?_
    refine w_cS (As := [.ref (k + 2), .int (nI i4)]) ok dX5_filmedCount_16 iX11_at (lX5_89 rfl) (c_at ro (sSc_8 hk) (nSc_8 hk) (nI i4)) (by decide) rfl (Nat.le_of_ble_eq_true rfl) ?_
    refine w_iadd ok dX5_filmedCount_19 ?_
    refine w_istore_n ok dX5_filmedCount_20 rfl (by decide) rfl ?_
    refine w_iinc (v := (nI i4) + 1) ok dX5_filmedCount_21 2 rfl rfl (by decide) rfl ?_
    refine w_goto (tgt := 4) ok dX5_filmedCount_24 (by decide) ?_
    have eB : B_X5_filmedCount_l4 k I J i4 s4 = (s4 + (atF (I (k + 2)) 8 (nI i4))) := by
      unfold B_X5_filmedCount_l4; exact rfl
    have kk := k4
    rw [eB] at kk
    refine w_loc [2, 1, 0] rfl ?_
    rw [nI_1 i4]
    exact kk
def B_X5_filmedWith_l5 (k : Nat) (y1 : Int32) (y2 : Int32) (I : SI) (J : SJ) (i5 : Nat) (s5 : Int32) : Int32 := if (nI i5) = y2 then (s5 + 0) else (if (atF (I (k + 2)) 8 (nI i5)) = 0 then (s5 + 0) else (if (F_X5_wayIn k (nI i5) y1 I J) < 0 then (s5 + 0) else (s5 + 1)))
def F_X5_filmedWith_l5 (k : Nat) (y1 : Int32) (y2 : Int32) (I : SI) (J : SJ) (s0 : Int32) : Int32 := itN (B_X5_filmedWith_l5 k y1 y2 I J) (8) s0
def F_X5_filmedWith (k : Nat) (mark : Int32) (aside : Int32) (I : SI) (J : SJ) : Int32 := (F_X5_filmedWith_l5 k mark aside I J 0)
set_option maxHeartbeats 8000000 in
set_option maxRecDepth 40000 in
theorem c_X5_filmedWith {I : SI} {J : SJ} {R : SR} {g : Nat} (ro : RO R) {k : Nat} (mark : Int32) (aside : Int32) (hk : IsSc k)  : MM 2 0 0 mX5_filmedWith [.ref k, .int mark, .int aside] I J R nC g (Pd (some (.int (F_X5_filmedWith k mark aside I J))) I J R nC g) := by
  refine MM.of (by decide) (Nat.le_of_ble_eq_true rfl) fun K ok fin => ?_
  show WK K 0 0 0 [(0, .ref k), (1, .int mark), (2, .int aside)] [] I J R nC g
  refine w_iconst (v := 0) ok dX5_filmedWith_0 (by decide) ?_
  refine w_istore_n ok dX5_filmedWith_1 rfl (by decide) rfl ?_
  refine w_iconst (v := 0) ok dX5_filmedWith_2 (by decide) ?_
  refine w_istore ok dX5_filmedWith_3 (by decide) rfl ?_
  refine w_loc [2, 3, 4, 1, 0] rfl ?_
  refine loop_for (σ := Int32) (fun (i5 : Nat) (s5 : Int32) => WK K 0 0 5 [(0, .ref k), (1, .int mark), (2, .int aside), (3, .int s5), (4, .int (nI i5))] [] I J R nC g) (B_X5_filmedWith_l5 k mark aside I J) (8) (0) ?_ ?_
  · show WK K 0 0 5 [(0, .ref k), (1, .int mark), (2, .int aside), (3, .int ((F_X5_filmedWith_l5 k mark aside I J 0))), (4, .int (nI 8))] [] I J R nC g
    have e1 : (8 : Int32) ≤ (nI 8) := (show nI 8 ≤ nI 8 from nI_le (by omega) (by decide))
    refine w_iload ok dX5_filmedWith_5 4 rfl ?_
    refine w_bipush (v := 8) ok dX5_filmedWith_7 (by decide) ?_
    refine w_icmp_ge (tgt := 54) ok dX5_filmedWith_9 (by decide) (fun _ => ?_) (fun h => absurd e1 h)
    refine w_iload_n ok dX5_filmedWith_54 3 rfl ?_
    exact w_iret ok fin dX5_filmedWith_55 rfl (by unfold F_X5_filmedWith; exact Pd.i)
  · intro i5 s5 hi5 k5
    show WK K 0 0 5 [(0, .ref k), (1, .int mark), (2, .int aside), (3, .int s5), (4, .int (nI i5))] [] I J R nC g
    have e2 : ¬ ((8 : Int32) ≤ (nI i5)) := (show ¬ (nI 8 ≤ nI i5) from nI_ge (by omega) (by decide))
    refine w_iload ok dX5_filmedWith_5 4 rfl ?_
    refine w_bipush (v := 8) ok dX5_filmedWith_7 (by decide) ?_
    refine w_icmp_ge (tgt := 54) ok dX5_filmedWith_9 (by decide) (fun h => absurd h e2) (fun _ => ?_)
    refine w_iload_n ok dX5_filmedWith_12 3 rfl ?_
    refine w_iload ok dX5_filmedWith_13 4 rfl ?_
    refine w_iload_n ok dX5_filmedWith_15 2 rfl ?_
    refine w_icmp_eq (tgt := 45) ok dX5_filmedWith_16 (by decide) (fun c3 => ?_) (fun c3 => ?_)
    · skip
      refine w_iconst (v := 0) ok dX5_filmedWith_45 (by decide) ?_
      refine w_iadd ok dX5_filmedWith_46 ?_
      refine w_istore_n ok dX5_filmedWith_47 rfl (by decide) rfl ?_
      refine w_iinc (v := (nI i5) + 1) ok dX5_filmedWith_48 4 rfl rfl (by decide) rfl ?_
      refine w_goto (tgt := 5) ok dX5_filmedWith_51 (by decide) ?_
      have eB : B_X5_filmedWith_l5 k mark aside I J i5 s5 = (s5 + 0) := by
        unfold B_X5_filmedWith_l5; exact (if_pos c3).trans (rfl)
      have kk := k5
      rw [eB] at kk
      refine w_loc [2, 3, 4, 1, 0] rfl ?_
      rw [nI_1 i5]
      exact kk
    · skip
      refine w_aload_n ok dX5_filmedWith_19 0 rfl ?_
      refine w_getR ok dX5_filmedWith_20 (fX5_38 rfl) (congrArg Prod.fst (sSc hk)) rfl (rSc_8 hk ro) (nSc hk) ?_
      refine w_iload ok dX5_filmedWith_23 4 rfl ?_
      refine w_cS (As := [.ref (k + 2), .int (nI i5)]) ok dX5_filmedWith_25 iX11_at (lX5_89 rfl) (c_at ro (sSc_8 hk) (nSc_8 hk) (nI i5)) (by decide) rfl (Nat.le_of_ble_eq_true rfl) ?_
      refine w_if_eq (tgt := 45) ok dX5_filmedWith_28 (by decide) (fun c4 => ?_) (fun c4 => ?_)
      · skip
        refine w_iconst (v := 0) ok dX5_filmedWith_45 (by decide) ?_
        refine w_iadd ok dX5_filmedWith_46 ?_
        refine w_istore_n ok dX5_filmedWith_47 rfl (by decide) rfl ?_
        refine w_iinc (v := (nI i5) + 1) ok dX5_filmedWith_48 4 rfl rfl (by decide) rfl ?_
        refine w_goto (tgt := 5) ok dX5_filmedWith_51 (by decide) ?_
        have eB : B_X5_filmedWith_l5 k mark aside I J i5 s5 = (s5 + 0) := by
          unfold B_X5_filmedWith_l5; exact (if_neg c3).trans ((if_pos c4).trans (rfl))
        have kk := k5
        rw [eB] at kk
        refine w_loc [2, 3, 4, 1, 0] rfl ?_
        rw [nI_1 i5]
        exact kk
      · skip
        refine w_aload_n ok dX5_filmedWith_31 0 rfl ?_
        refine w_iload ok dX5_filmedWith_32 4 rfl ?_
        refine w_iload_n ok dX5_filmedWith_34 1 rfl ?_
        refine w_cV (As := [.int (nI i5), .int mark]) ok dX5_filmedWith_35 iX5_wayIn (lX5_93 rfl) (rcv cls5 (congrArg Prod.fst (sSc hk))) (nSc hk) (c_X5_wayIn ro (nI i5) mark hk) (by decide) rfl (Nat.le_of_ble_eq_true rfl) ?_
        refine w_if_lt (tgt := 45) ok dX5_filmedWith_38 (by decide) (fun c5 => ?_) (fun c5 => ?_)
        · skip
          refine w_iconst (v := 0) ok dX5_filmedWith_45 (by decide) ?_
          refine w_iadd ok dX5_filmedWith_46 ?_
          refine w_istore_n ok dX5_filmedWith_47 rfl (by decide) rfl ?_
          refine w_iinc (v := (nI i5) + 1) ok dX5_filmedWith_48 4 rfl rfl (by decide) rfl ?_
          refine w_goto (tgt := 5) ok dX5_filmedWith_51 (by decide) ?_
          have eB : B_X5_filmedWith_l5 k mark aside I J i5 s5 = (s5 + 0) := by
            unfold B_X5_filmedWith_l5; exact (if_neg c3).trans ((if_neg c4).trans ((if_pos c5).trans (rfl)))
          have kk := k5
          rw [eB] at kk
          refine w_loc [2, 3, 4, 1, 0] rfl ?_
          rw [nI_1 i5]
          exact kk
        · skip
          refine w_iconst (v := 1) ok dX5_filmedWith_41 (by decide) ?_
          refine w_goto (tgt := 46) ok dX5_filmedWith_42 (by decide) ?_
          refine w_iadd ok dX5_filmedWith_46 ?_
          refine w_istore_n ok dX5_filmedWith_47 rfl (by decide) rfl ?_
          refine w_iinc (v := (nI i5) + 1) ok dX5_filmedWith_48 4 rfl rfl (by decide) rfl ?_
          refine w_goto (tgt := 5) ok dX5_filmedWith_51 (by decide) ?_
          have eB : B_X5_filmedWith_l5 k mark aside I J i5 s5 = (s5 + 1) := by
            unfold B_X5_filmedWith_l5; exact (if_neg c3).trans ((if_neg c4).trans ((if_neg c5).trans (rfl)))
          have kk := k5
          rw [eB] at kk
          refine w_loc [2, 3, 4, 1, 0] rfl ?_
          rw [nI_1 i5]
          exact kk
def B_X5_givenCount_l4 (k : Nat) (I : SI) (J : SJ) (i4 : Nat) (s4 : Int32) : Int32 := (s4 + (atF (I (k + 6)) 6 (nI i4)))
def F_X5_givenCount_l4 (k : Nat) (I : SI) (J : SJ) (s0 : Int32) : Int32 := itN (B_X5_givenCount_l4 k I J) (6) s0
def F_X5_givenCount (k : Nat) (I : SI) (J : SJ) : Int32 := (F_X5_givenCount_l4 k I J 0)
set_option maxHeartbeats 8000000 in
set_option maxRecDepth 40000 in
theorem c_X5_givenCount {I : SI} {J : SJ} {R : SR} {g : Nat} (ro : RO R) {k : Nat} (hk : IsSc k)  : MM 1 0 0 mX5_givenCount [.ref k] I J R nC g (Pd (some (.int (F_X5_givenCount k I J))) I J R nC g) := by
  refine MM.of (by decide) (Nat.le_of_ble_eq_true rfl) fun K ok fin => ?_
  show WK K 0 0 0 [(0, .ref k)] [] I J R nC g
  refine w_iconst (v := 0) ok dX5_givenCount_0 (by decide) ?_
  refine w_istore_n ok dX5_givenCount_1 rfl (by decide) rfl ?_
  refine w_iconst (v := 0) ok dX5_givenCount_2 (by decide) ?_
  refine w_istore_n ok dX5_givenCount_3 rfl (by decide) rfl ?_
  refine w_loc [2, 1, 0] rfl ?_
  refine loop_for (σ := Int32) (fun (i4 : Nat) (s4 : Int32) => WK K 0 0 4 [(0, .ref k), (1, .int s4), (2, .int (nI i4))] [] I J R nC g) (B_X5_givenCount_l4 k I J) (6) (0) ?_ ?_
  · show WK K 0 0 4 [(0, .ref k), (1, .int ((F_X5_givenCount_l4 k I J 0))), (2, .int (nI 6))] [] I J R nC g
    have e1 : (6 : Int32) ≤ (nI 6) := (show nI 6 ≤ nI 6 from nI_le (by omega) (by decide))
    refine w_iload_n ok dX5_givenCount_4 2 rfl ?_
    refine w_bipush (v := 6) ok dX5_givenCount_5 (by decide) ?_
    refine w_icmp_ge (tgt := 27) ok dX5_givenCount_7 (by decide) (fun _ => ?_) (fun h => absurd e1 h)
    refine w_iload_n ok dX5_givenCount_27 1 rfl ?_
    exact w_iret ok fin dX5_givenCount_28 rfl (by unfold F_X5_givenCount; exact Pd.i)
  · intro i4 s4 hi4 k4
    show WK K 0 0 4 [(0, .ref k), (1, .int s4), (2, .int (nI i4))] [] I J R nC g
    have e2 : ¬ ((6 : Int32) ≤ (nI i4)) := (show ¬ (nI 6 ≤ nI i4) from nI_ge (by omega) (by decide))
    refine w_iload_n ok dX5_givenCount_4 2 rfl ?_
    refine w_bipush (v := 6) ok dX5_givenCount_5 (by decide) ?_
    refine w_icmp_ge (tgt := 27) ok dX5_givenCount_7 (by decide) (fun h => absurd h e2) (fun _ => ?_)
    refine w_iload_n ok dX5_givenCount_10 1 rfl ?_
    refine w_aload_n ok dX5_givenCount_11 0 rfl ?_
    refine w_getR ok dX5_givenCount_12 (fX5_50 rfl) (congrArg Prod.fst (sSc hk)) rfl (rSc_12 hk ro) (nSc hk) ?_
    refine w_iload_n ok dX5_givenCount_15 2 rfl ?_
    refine w_cS (As := [.ref (k + 6), .int (nI i4)]) ok dX5_givenCount_16 iX11_at (lX5_89 rfl) (c_at ro (sSc_12 hk) (nSc_12 hk) (nI i4)) (by decide) rfl (Nat.le_of_ble_eq_true rfl) ?_
    refine w_iadd ok dX5_givenCount_19 ?_
    refine w_istore_n ok dX5_givenCount_20 rfl (by decide) rfl ?_
    refine w_iinc (v := (nI i4) + 1) ok dX5_givenCount_21 2 rfl rfl (by decide) rfl ?_
    refine w_goto (tgt := 4) ok dX5_givenCount_24 (by decide) ?_
    have eB : B_X5_givenCount_l4 k I J i4 s4 = (s4 + (atF (I (k + 6)) 6 (nI i4))) := by
      unfold B_X5_givenCount_l4; exact rfl
    have kk := k4
    rw [eB] at kk
    refine w_loc [2, 1, 0] rfl ?_
    rw [nI_1 i4]
    exact kk
def B_X5_breaksBehind_l28 (k : Nat) (y1 : Int32) (I : SI) (J : SJ) (i28 : Nat) (s28 : Int32) : Int32 := if (F_X5_wayIn k y1 (nI i28) I J) < 0 then (s28 + 0) else (if (F_X5_wayIn k (y1 + 1) (nI i28) I J) < 0 then (s28 + 0) else (if (F_X5_wayIn k y1 (nI i28) I J) = (F_X5_wayIn k (y1 + 1) (nI i28) I J) then (s28 + 0) else (s28 + 1)))
def F_X5_breaksBehind_l28 (k : Nat) (y1 : Int32) (I : SI) (J : SJ) (s0 : Int32) : Int32 := itN (B_X5_breaksBehind_l28 k y1 I J) (6) s0
def F_X5_breaksBehind (k : Nat) (shot : Int32) (I : SI) (J : SJ) : Int32 := if (atF (I (k + 2)) 8 shot) = 0 then 0 else (if (atF (I (k + 2)) 8 (shot + 1)) = 0 then 0 else (F_X5_breaksBehind_l28 k shot I J 0))
set_option maxHeartbeats 8000000 in
set_option maxRecDepth 40000 in
theorem c_X5_breaksBehind {I : SI} {J : SJ} {R : SR} {g : Nat} (ro : RO R) {k : Nat} (shot : Int32) (hk : IsSc k)  : MM 2 0 0 mX5_breaksBehind [.ref k, .int shot] I J R nC g (Pd (some (.int (F_X5_breaksBehind k shot I J))) I J R nC g) := by
  refine MM.of (by decide) (Nat.le_of_ble_eq_true rfl) fun K ok fin => ?_
  show WK K 0 0 0 [(0, .ref k), (1, .int shot)] [] I J R nC g
  refine w_iconst (v := 0) ok dX5_breaksBehind_0 (by decide) ?_
  refine w_istore_n ok dX5_breaksBehind_1 rfl (by decide) rfl ?_
  refine w_aload_n ok dX5_breaksBehind_2 1 rfl ?_
  refine w_getR ok dX5_breaksBehind_3 (fX5_38 rfl) (congrArg Prod.fst (sSc hk)) rfl (rSc_8 hk ro) (nSc hk) ?_
  refine w_iload_n ok dX5_breaksBehind_6 2 rfl ?_
  refine w_cS (As := [.ref (k + 2), .int shot]) ok dX5_breaksBehind_7 iX11_at (lX5_89 rfl) (c_at ro (sSc_8 hk) (nSc_8 hk) shot) (by decide) rfl (Nat.le_of_ble_eq_true rfl) ?_
  refine w_if_eq (tgt := 83) ok dX5_breaksBehind_10 (by decide) (fun c1 => ?_) (fun c1 => ?_)
  · skip
    refine w_iload_n ok dX5_breaksBehind_83 0 rfl ?_
    exact w_iret ok fin dX5_breaksBehind_84 rfl (by unfold F_X5_breaksBehind; simp only [if_pos c1]; exact Pd.i)
  · skip
    refine w_aload_n ok dX5_breaksBehind_13 1 rfl ?_
    refine w_getR ok dX5_breaksBehind_14 (fX5_38 rfl) (congrArg Prod.fst (sSc hk)) rfl (rSc_8 hk ro) (nSc hk) ?_
    refine w_iload_n ok dX5_breaksBehind_17 2 rfl ?_
    refine w_iconst (v := 1) ok dX5_breaksBehind_18 (by decide) ?_
    refine w_iadd ok dX5_breaksBehind_19 ?_
    refine w_cS (As := [.ref (k + 2), .int (shot + 1)]) ok dX5_breaksBehind_20 iX11_at (lX5_89 rfl) (c_at ro (sSc_8 hk) (nSc_8 hk) (shot + 1)) (by decide) rfl (Nat.le_of_ble_eq_true rfl) ?_
    refine w_if_eq (tgt := 83) ok dX5_breaksBehind_23 (by decide) (fun c2 => ?_) (fun c2 => ?_)
    · skip
      refine w_iload_n ok dX5_breaksBehind_83 0 rfl ?_
      exact w_iret ok fin dX5_breaksBehind_84 rfl (by unfold F_X5_breaksBehind; simp only [if_neg c1]; simp only [if_pos c2]; exact Pd.i)
    · skip
      refine w_iconst (v := 0) ok dX5_breaksBehind_26 (by decide) ?_
      refine w_istore_n ok dX5_breaksBehind_27 rfl (by decide) rfl ?_
      refine w_loc [2, 3, 1, 0] rfl ?_
      refine loop_for (σ := Int32) (fun (i28 : Nat) (s28 : Int32) => WK K 0 0 28 [(0, .ref k), (1, .int shot), (2, .int s28), (3, .int (nI i28))] [] I J R nC g) (B_X5_breaksBehind_l28 k shot I J) (6) (0) ?_ ?_
      · show WK K 0 0 28 [(0, .ref k), (1, .int shot), (2, .int ((F_X5_breaksBehind_l28 k shot I J 0))), (3, .int (nI 6))] [] I J R nC g
        have e3 : (6 : Int32) ≤ (nI 6) := (show nI 6 ≤ nI 6 from nI_le (by omega) (by decide))
        refine w_iload_n ok dX5_breaksBehind_28 3 rfl ?_
        refine w_bipush (v := 6) ok dX5_breaksBehind_29 (by decide) ?_
        refine w_icmp_ge (tgt := 83) ok dX5_breaksBehind_31 (by decide) (fun _ => ?_) (fun h => absurd e3 h)
        refine w_iload_n ok dX5_breaksBehind_83 2 rfl ?_
        exact w_iret ok fin dX5_breaksBehind_84 rfl (by unfold F_X5_breaksBehind; simp only [if_neg c1]; simp only [if_neg c2]; exact Pd.i)
      · intro i28 s28 hi28 k28
        show WK K 0 0 28 [(0, .ref k), (1, .int shot), (2, .int s28), (3, .int (nI i28))] [] I J R nC g
        have e4 : ¬ ((6 : Int32) ≤ (nI i28)) := (show ¬ (nI 6 ≤ nI i28) from nI_ge (by omega) (by decide))
        refine w_iload_n ok dX5_breaksBehind_28 3 rfl ?_
        refine w_bipush (v := 6) ok dX5_breaksBehind_29 (by decide) ?_
        refine w_icmp_ge (tgt := 83) ok dX5_breaksBehind_31 (by decide) (fun h => absurd h e4) (fun _ => ?_)
        refine w_aload_n ok dX5_breaksBehind_34 0 rfl ?_
        refine w_iload_n ok dX5_breaksBehind_35 1 rfl ?_
        refine w_iload_n ok dX5_breaksBehind_36 3 rfl ?_
        refine w_cV (As := [.int shot, .int (nI i28)]) ok dX5_breaksBehind_37 iX5_wayIn (lX5_93 rfl) (rcv cls5 (congrArg Prod.fst (sSc hk))) (nSc hk) (c_X5_wayIn ro shot (nI i28) hk) (by decide) rfl (Nat.le_of_ble_eq_true rfl) ?_
        refine w_istore ok dX5_breaksBehind_40 (by decide) rfl ?_
        refine w_aload_n ok dX5_breaksBehind_42 1 rfl ?_
        refine w_iload_n ok dX5_breaksBehind_43 2 rfl ?_
        refine w_iconst (v := 1) ok dX5_breaksBehind_44 (by decide) ?_
        refine w_iadd ok dX5_breaksBehind_45 ?_
        refine w_iload_n ok dX5_breaksBehind_46 4 rfl ?_
        refine w_cV (As := [.int (shot + 1), .int (nI i28)]) ok dX5_breaksBehind_47 iX5_wayIn (lX5_93 rfl) (rcv cls5 (congrArg Prod.fst (sSc hk))) (nSc hk) (c_X5_wayIn ro (shot + 1) (nI i28) hk) (by decide) rfl (Nat.le_of_ble_eq_true rfl) ?_
        refine w_istore ok dX5_breaksBehind_50 (by decide) rfl ?_
        refine w_iload_n ok dX5_breaksBehind_52 4 rfl ?_
        refine w_iload ok dX5_breaksBehind_53 1 rfl ?_
        refine w_if_lt (tgt := 74) ok dX5_breaksBehind_55 (by decide) (fun c5 => ?_) (fun c5 => ?_)
        · skip
          refine w_iconst (v := 0) ok dX5_breaksBehind_74 (by decide) ?_
          refine w_iadd ok dX5_breaksBehind_75 ?_
          refine w_istore_n ok dX5_breaksBehind_76 rfl (by decide) rfl ?_
          refine w_iinc (v := (nI i28) + 1) ok dX5_breaksBehind_77 5 rfl rfl (by decide) rfl ?_
          refine w_goto (tgt := 28) ok dX5_breaksBehind_80 (by decide) ?_
          have eB : B_X5_breaksBehind_l28 k shot I J i28 s28 = (s28 + 0) := by
            unfold B_X5_breaksBehind_l28; exact (if_pos c5).trans (rfl)
          have kk := k28
          rw [eB] at kk
          refine w_loc [4, 5, 1, 0] rfl ?_
          rw [nI_1 i28]
          exact kk
        · skip
          refine w_iload ok dX5_breaksBehind_58 0 rfl ?_
          refine w_if_lt (tgt := 74) ok dX5_breaksBehind_60 (by decide) (fun c6 => ?_) (fun c6 => ?_)
          · skip
            refine w_iconst (v := 0) ok dX5_breaksBehind_74 (by decide) ?_
            refine w_iadd ok dX5_breaksBehind_75 ?_
            refine w_istore_n ok dX5_breaksBehind_76 rfl (by decide) rfl ?_
            refine w_iinc (v := (nI i28) + 1) ok dX5_breaksBehind_77 5 rfl rfl (by decide) rfl ?_
            refine w_goto (tgt := 28) ok dX5_breaksBehind_80 (by decide) ?_
            have eB : B_X5_breaksBehind_l28 k shot I J i28 s28 = (s28 + 0) := by
              unfold B_X5_breaksBehind_l28; exact (if_neg c5).trans ((if_pos c6).trans (rfl))
            have kk := k28
            rw [eB] at kk
            refine w_loc [4, 5, 1, 0] rfl ?_
            rw [nI_1 i28]
            exact kk
          · skip
            refine w_iload ok dX5_breaksBehind_63 1 rfl ?_
            refine w_iload ok dX5_breaksBehind_65 0 rfl ?_
            refine w_icmp_eq (tgt := 74) ok dX5_breaksBehind_67 (by decide) (fun c7 => ?_) (fun c7 => ?_)
            · skip
              refine w_iconst (v := 0) ok dX5_breaksBehind_74 (by decide) ?_
              refine w_iadd ok dX5_breaksBehind_75 ?_
              refine w_istore_n ok dX5_breaksBehind_76 rfl (by decide) rfl ?_
              refine w_iinc (v := (nI i28) + 1) ok dX5_breaksBehind_77 5 rfl rfl (by decide) rfl ?_
              refine w_goto (tgt := 28) ok dX5_breaksBehind_80 (by decide) ?_
              have eB : B_X5_breaksBehind_l28 k shot I J i28 s28 = (s28 + 0) := by
                unfold B_X5_breaksBehind_l28; exact (if_neg c5).trans ((if_neg c6).trans ((if_pos c7).trans (rfl)))
              have kk := k28
              rw [eB] at kk
              refine w_loc [4, 5, 1, 0] rfl ?_
              rw [nI_1 i28]
              exact kk
            · skip
              refine w_iconst (v := 1) ok dX5_breaksBehind_70 (by decide) ?_
              refine w_goto (tgt := 75) ok dX5_breaksBehind_71 (by decide) ?_
              refine w_iadd ok dX5_breaksBehind_75 ?_
              refine w_istore_n ok dX5_breaksBehind_76 rfl (by decide) rfl ?_
              refine w_iinc (v := (nI i28) + 1) ok dX5_breaksBehind_77 5 rfl rfl (by decide) rfl ?_
              refine w_goto (tgt := 28) ok dX5_breaksBehind_80 (by decide) ?_
              have eB : B_X5_breaksBehind_l28 k shot I J i28 s28 = (s28 + 1) := by
                unfold B_X5_breaksBehind_l28; exact (if_neg c5).trans ((if_neg c6).trans ((if_neg c7).trans (rfl)))
              have kk := k28
              rw [eB] at kk
              refine w_loc [4, 5, 1, 0] rfl ?_
              rw [nI_1 i28]
              exact kk
def B_X5_breakCount_l4 (k : Nat) (I : SI) (J : SJ) (i4 : Nat) (s4 : Int32) : Int32 := (s4 + (F_X5_breaksBehind k (nI i4) I J))
def F_X5_breakCount_l4 (k : Nat) (I : SI) (J : SJ) (s0 : Int32) : Int32 := itN (B_X5_breakCount_l4 k I J) (7) s0
def F_X5_breakCount (k : Nat) (I : SI) (J : SJ) : Int32 := (F_X5_breakCount_l4 k I J 0)
set_option maxHeartbeats 8000000 in
set_option maxRecDepth 40000 in
theorem c_X5_breakCount {I : SI} {J : SJ} {R : SR} {g : Nat} (ro : RO R) {k : Nat} (hk : IsSc k)  : MM 3 0 0 mX5_breakCount [.ref k] I J R nC g (Pd (some (.int (F_X5_breakCount k I J))) I J R nC g) := by
  refine MM.of (by decide) (Nat.le_of_ble_eq_true rfl) fun K ok fin => ?_
  show WK K 0 0 0 [(0, .ref k)] [] I J R nC g
  refine w_iconst (v := 0) ok dX5_breakCount_0 (by decide) ?_
  refine w_istore_n ok dX5_breakCount_1 rfl (by decide) rfl ?_
  refine w_iconst (v := 0) ok dX5_breakCount_2 (by decide) ?_
  refine w_istore_n ok dX5_breakCount_3 rfl (by decide) rfl ?_
  refine w_loc [2, 1, 0] rfl ?_
  refine loop_for (σ := Int32) (fun (i4 : Nat) (s4 : Int32) => WK K 0 0 4 [(0, .ref k), (1, .int s4), (2, .int (nI i4))] [] I J R nC g) (B_X5_breakCount_l4 k I J) (7) (0) ?_ ?_
  · show WK K 0 0 4 [(0, .ref k), (1, .int ((F_X5_breakCount_l4 k I J 0))), (2, .int (nI 7))] [] I J R nC g
    have e1 : (7 : Int32) ≤ (nI 7) := (show nI 7 ≤ nI 7 from nI_le (by omega) (by decide))
    refine w_iload_n ok dX5_breakCount_4 2 rfl ?_
    refine w_bipush (v := 7) ok dX5_breakCount_5 (by decide) ?_
    refine w_icmp_ge (tgt := 24) ok dX5_breakCount_7 (by decide) (fun _ => ?_) (fun h => absurd e1 h)
    refine w_iload_n ok dX5_breakCount_24 1 rfl ?_
    exact w_iret ok fin dX5_breakCount_25 rfl (by unfold F_X5_breakCount; exact Pd.i)
  · intro i4 s4 hi4 k4
    show WK K 0 0 4 [(0, .ref k), (1, .int s4), (2, .int (nI i4))] [] I J R nC g
    have e2 : ¬ ((7 : Int32) ≤ (nI i4)) := (show ¬ (nI 7 ≤ nI i4) from nI_ge (by omega) (by decide))
    refine w_iload_n ok dX5_breakCount_4 2 rfl ?_
    refine w_bipush (v := 7) ok dX5_breakCount_5 (by decide) ?_
    refine w_icmp_ge (tgt := 24) ok dX5_breakCount_7 (by decide) (fun h => absurd h e2) (fun _ => ?_)
    refine w_iload_n ok dX5_breakCount_10 1 rfl ?_
    refine w_aload_n ok dX5_breakCount_11 0 rfl ?_
    refine w_iload_n ok dX5_breakCount_12 2 rfl ?_
    refine w_cV (As := [.int (nI i4)]) ok dX5_breakCount_13 iX5_breaksBehind (lX5_101 rfl) (rcv cls5 (congrArg Prod.fst (sSc hk))) (nSc hk) (c_X5_breaksBehind ro (nI i4) hk) (by decide) rfl (Nat.le_of_ble_eq_true rfl) ?_
    refine w_iadd ok dX5_breakCount_16 ?_
    refine w_istore_n ok dX5_breakCount_17 rfl (by decide) rfl ?_
    refine w_iinc (v := (nI i4) + 1) ok dX5_breakCount_18 2 rfl rfl (by decide) rfl ?_
    refine w_goto (tgt := 4) ok dX5_breakCount_21 (by decide) ?_
    have eB : B_X5_breakCount_l4 k I J i4 s4 = (s4 + (F_X5_breaksBehind k (nI i4) I J)) := by
      unfold B_X5_breakCount_l4; exact rfl
    have kk := k4
    rw [eB] at kk
    refine w_loc [2, 1, 0] rfl ?_
    rw [nI_1 i4]
    exact kk
def FI_X5_copy (k : Nat) (k2 : Nat) (I : SI) (J : SJ) : SI := cpF (cpF (cpF (cpF (cpF (cpF (cpF (cpF (u2 (u2 (u2 (u2 (u2 (u2 I k 0 (I k2 0)) k 1 ((u2 I k 0 (I k2 0)) k2 1)) k 2 ((u2 (u2 I k 0 (I k2 0)) k 1 ((u2 I k 0 (I k2 0)) k2 1)) k2 2)) k 3 ((u2 (u2 (u2 I k 0 (I k2 0)) k 1 ((u2 I k 0 (I k2 0)) k2 1)) k 2 ((u2 (u2 I k 0 (I k2 0)) k 1 ((u2 I k 0 (I k2 0)) k2 1)) k2 2)) k2 3)) k 4 ((u2 (u2 (u2 (u2 I k 0 (I k2 0)) k 1 ((u2 I k 0 (I k2 0)) k2 1)) k 2 ((u2 (u2 I k 0 (I k2 0)) k 1 ((u2 I k 0 (I k2 0)) k2 1)) k2 2)) k 3 ((u2 (u2 (u2 I k 0 (I k2 0)) k 1 ((u2 I k 0 (I k2 0)) k2 1)) k 2 ((u2 (u2 I k 0 (I k2 0)) k 1 ((u2 I k 0 (I k2 0)) k2 1)) k2 2)) k2 3)) k2 4)) k 5 ((u2 (u2 (u2 (u2 (u2 I k 0 (I k2 0)) k 1 ((u2 I k 0 (I k2 0)) k2 1)) k 2 ((u2 (u2 I k 0 (I k2 0)) k 1 ((u2 I k 0 (I k2 0)) k2 1)) k2 2)) k 3 ((u2 (u2 (u2 I k 0 (I k2 0)) k 1 ((u2 I k 0 (I k2 0)) k2 1)) k 2 ((u2 (u2 I k 0 (I k2 0)) k 1 ((u2 I k 0 (I k2 0)) k2 1)) k2 2)) k2 3)) k 4 ((u2 (u2 (u2 (u2 I k 0 (I k2 0)) k 1 ((u2 I k 0 (I k2 0)) k2 1)) k 2 ((u2 (u2 I k 0 (I k2 0)) k 1 ((u2 I k 0 (I k2 0)) k2 1)) k2 2)) k 3 ((u2 (u2 (u2 I k 0 (I k2 0)) k 1 ((u2 I k 0 (I k2 0)) k2 1)) k 2 ((u2 (u2 I k 0 (I k2 0)) k 1 ((u2 I k 0 (I k2 0)) k2 1)) k2 2)) k2 3)) k2 4)) k2 5)) (k2 + 1) (k + 1) 8) (k2 + 2) (k + 2) 8) (k2 + 3) (k + 3) 8) (k2 + 4) (k + 4) 48) (k2 + 5) (k + 5) 6) (k2 + 6) (k + 6) 6) (k2 + 7) (k + 7) 4) (k2 + 8) (k + 8) 4
def FJ_X5_copy (k : Nat) (k2 : Nat) (I : SI) (J : SJ) : SJ := u2 J k 6 (J k2 6)
set_option maxHeartbeats 8000000 in
set_option maxRecDepth 40000 in
theorem c_X5_copy {I : SI} {J : SJ} {R : SR} {g : Nat} (ro : RO R) {k : Nat} {k2 : Nat} (hk : IsSc k) (hk2 : IsSc k2)  : MM 2 0 0 mX5_copy [.ref k, .ref k2] I J R nC g (Pd none (FI_X5_copy k k2 I J) (FJ_X5_copy k k2 I J) R nC g) := by
  refine MM.of (by decide) (Nat.le_of_ble_eq_true rfl) fun K ok fin => ?_
  show WK K 0 0 0 [(0, .ref k), (1, .ref k2)] [] I J R nC g
  refine w_aload_n ok dX5_copy_0 0 rfl ?_
  refine w_aload_n ok dX5_copy_1 1 rfl ?_
  refine w_getI ok dX5_copy_2 (fX5_9 rfl) (congrArg Prod.fst (sSc hk2)) rfl (nSc hk2) ?_
  refine w_putI ok dX5_copy_5 (fwX5_9 rfl) (congrArg Prod.fst (sSc hk)) rfl (nSc hk) ?_
  refine w_aload_n ok dX5_copy_8 0 rfl ?_
  refine w_aload_n ok dX5_copy_9 1 rfl ?_
  refine w_getI ok dX5_copy_10 (fX5_15 rfl) (congrArg Prod.fst (sSc hk2)) rfl (nSc hk2) ?_
  refine w_putI ok dX5_copy_13 (fwX5_15 rfl) (congrArg Prod.fst (sSc hk)) rfl (nSc hk) ?_
  refine w_aload_n ok dX5_copy_16 0 rfl ?_
  refine w_aload_n ok dX5_copy_17 1 rfl ?_
  refine w_getI ok dX5_copy_18 (fX5_18 rfl) (congrArg Prod.fst (sSc hk2)) rfl (nSc hk2) ?_
  refine w_putI ok dX5_copy_21 (fwX5_18 rfl) (congrArg Prod.fst (sSc hk)) rfl (nSc hk) ?_
  refine w_aload_n ok dX5_copy_24 0 rfl ?_
  refine w_aload_n ok dX5_copy_25 1 rfl ?_
  refine w_getI ok dX5_copy_26 (fX5_21 rfl) (congrArg Prod.fst (sSc hk2)) rfl (nSc hk2) ?_
  refine w_putI ok dX5_copy_29 (fwX5_21 rfl) (congrArg Prod.fst (sSc hk)) rfl (nSc hk) ?_
  refine w_aload_n ok dX5_copy_32 0 rfl ?_
  refine w_aload_n ok dX5_copy_33 1 rfl ?_
  refine w_getI ok dX5_copy_34 (fX5_24 rfl) (congrArg Prod.fst (sSc hk2)) rfl (nSc hk2) ?_
  refine w_putI ok dX5_copy_37 (fwX5_24 rfl) (congrArg Prod.fst (sSc hk)) rfl (nSc hk) ?_
  refine w_aload_n ok dX5_copy_40 0 rfl ?_
  refine w_aload_n ok dX5_copy_41 1 rfl ?_
  refine w_getI ok dX5_copy_42 (fX5_27 rfl) (congrArg Prod.fst (sSc hk2)) rfl (nSc hk2) ?_
  refine w_putI ok dX5_copy_45 (fwX5_27 rfl) (congrArg Prod.fst (sSc hk)) rfl (nSc hk) ?_
  refine w_aload_n ok dX5_copy_48 0 rfl ?_
  refine w_aload_n ok dX5_copy_49 1 rfl ?_
  refine w_getJ ok dX5_copy_50 (fX5_30 rfl) (congrArg Prod.fst (sSc hk2)) rfl (nSc hk2) ?_
  refine w_putJ ok dX5_copy_53 (fwX5_30 rfl) (congrArg Prod.fst (sSc hk)) rfl (nSc hk) ?_
  refine w_aload_n ok dX5_copy_56 1 rfl ?_
  refine w_getR ok dX5_copy_57 (fX5_34 rfl) (congrArg Prod.fst (sSc hk2)) rfl (rSc_7 hk2 ro) (nSc hk2) ?_
  refine w_aload_n ok dX5_copy_60 0 rfl ?_
  refine w_getR ok dX5_copy_61 (fX5_34 rfl) (congrArg Prod.fst (sSc hk)) rfl (rSc_7 hk ro) (nSc hk) ?_
  refine w_cS (As := [.ref (k2 + 1), .ref (k + 1)]) ok dX5_copy_64 iX11_copyRow (lX5_74 rfl) (c_copyRow ro (sSc_7 hk2) (sSc_7 hk) (nSc_7 hk2) (nSc_7 hk)) (by decide) rfl (Nat.le_of_ble_eq_true rfl) ?_
  refine w_aload_n ok dX5_copy_67 1 rfl ?_
  refine w_getR ok dX5_copy_68 (fX5_38 rfl) (congrArg Prod.fst (sSc hk2)) rfl (rSc_8 hk2 ro) (nSc hk2) ?_
  refine w_aload_n ok dX5_copy_71 0 rfl ?_
  refine w_getR ok dX5_copy_72 (fX5_38 rfl) (congrArg Prod.fst (sSc hk)) rfl (rSc_8 hk ro) (nSc hk) ?_
  refine w_cS (As := [.ref (k2 + 2), .ref (k + 2)]) ok dX5_copy_75 iX11_copyRow (lX5_74 rfl) (c_copyRow ro (sSc_8 hk2) (sSc_8 hk) (nSc_8 hk2) (nSc_8 hk)) (by decide) rfl (Nat.le_of_ble_eq_true rfl) ?_
  refine w_aload_n ok dX5_copy_78 1 rfl ?_
  refine w_getR ok dX5_copy_79 (fX5_41 rfl) (congrArg Prod.fst (sSc hk2)) rfl (rSc_9 hk2 ro) (nSc hk2) ?_
  refine w_aload_n ok dX5_copy_82 0 rfl ?_
  refine w_getR ok dX5_copy_83 (fX5_41 rfl) (congrArg Prod.fst (sSc hk)) rfl (rSc_9 hk ro) (nSc hk) ?_
  refine w_cS (As := [.ref (k2 + 3), .ref (k + 3)]) ok dX5_copy_86 iX11_copyRow (lX5_74 rfl) (c_copyRow ro (sSc_9 hk2) (sSc_9 hk) (nSc_9 hk2) (nSc_9 hk)) (by decide) rfl (Nat.le_of_ble_eq_true rfl) ?_
  refine w_aload_n ok dX5_copy_89 1 rfl ?_
  refine w_getR ok dX5_copy_90 (fX5_44 rfl) (congrArg Prod.fst (sSc hk2)) rfl (rSc_10 hk2 ro) (nSc hk2) ?_
  refine w_aload_n ok dX5_copy_93 0 rfl ?_
  refine w_getR ok dX5_copy_94 (fX5_44 rfl) (congrArg Prod.fst (sSc hk)) rfl (rSc_10 hk ro) (nSc hk) ?_
  refine w_cS (As := [.ref (k2 + 4), .ref (k + 4)]) ok dX5_copy_97 iX11_copyRow (lX5_74 rfl) (c_copyRow ro (sSc_10 hk2) (sSc_10 hk) (nSc_10 hk2) (nSc_10 hk)) (by decide) rfl (Nat.le_of_ble_eq_true rfl) ?_
  refine w_aload_n ok dX5_copy_100 1 rfl ?_
  refine w_getR ok dX5_copy_101 (fX5_47 rfl) (congrArg Prod.fst (sSc hk2)) rfl (rSc_11 hk2 ro) (nSc hk2) ?_
  refine w_aload_n ok dX5_copy_104 0 rfl ?_
  refine w_getR ok dX5_copy_105 (fX5_47 rfl) (congrArg Prod.fst (sSc hk)) rfl (rSc_11 hk ro) (nSc hk) ?_
  refine w_cS (As := [.ref (k2 + 5), .ref (k + 5)]) ok dX5_copy_108 iX11_copyRow (lX5_74 rfl) (c_copyRow ro (sSc_11 hk2) (sSc_11 hk) (nSc_11 hk2) (nSc_11 hk)) (by decide) rfl (Nat.le_of_ble_eq_true rfl) ?_
  refine w_aload_n ok dX5_copy_111 1 rfl ?_
  refine w_getR ok dX5_copy_112 (fX5_50 rfl) (congrArg Prod.fst (sSc hk2)) rfl (rSc_12 hk2 ro) (nSc hk2) ?_
  refine w_aload_n ok dX5_copy_115 0 rfl ?_
  refine w_getR ok dX5_copy_116 (fX5_50 rfl) (congrArg Prod.fst (sSc hk)) rfl (rSc_12 hk ro) (nSc hk) ?_
  refine w_cS (As := [.ref (k2 + 6), .ref (k + 6)]) ok dX5_copy_119 iX11_copyRow (lX5_74 rfl) (c_copyRow ro (sSc_12 hk2) (sSc_12 hk) (nSc_12 hk2) (nSc_12 hk)) (by decide) rfl (Nat.le_of_ble_eq_true rfl) ?_
  refine w_aload_n ok dX5_copy_122 1 rfl ?_
  refine w_getR ok dX5_copy_123 (fX5_53 rfl) (congrArg Prod.fst (sSc hk2)) rfl (rSc_13 hk2 ro) (nSc hk2) ?_
  refine w_aload_n ok dX5_copy_126 0 rfl ?_
  refine w_getR ok dX5_copy_127 (fX5_53 rfl) (congrArg Prod.fst (sSc hk)) rfl (rSc_13 hk ro) (nSc hk) ?_
  refine w_cS (As := [.ref (k2 + 7), .ref (k + 7)]) ok dX5_copy_130 iX11_copyRow (lX5_74 rfl) (c_copyRow ro (sSc_13 hk2) (sSc_13 hk) (nSc_13 hk2) (nSc_13 hk)) (by decide) rfl (Nat.le_of_ble_eq_true rfl) ?_
  refine w_aload_n ok dX5_copy_133 1 rfl ?_
  refine w_getR ok dX5_copy_134 (fX5_56 rfl) (congrArg Prod.fst (sSc hk2)) rfl (rSc_14 hk2 ro) (nSc hk2) ?_
  refine w_aload_n ok dX5_copy_137 0 rfl ?_
  refine w_getR ok dX5_copy_138 (fX5_56 rfl) (congrArg Prod.fst (sSc hk)) rfl (rSc_14 hk ro) (nSc hk) ?_
  refine w_cS (As := [.ref (k2 + 8), .ref (k + 8)]) ok dX5_copy_141 iX11_copyRow (lX5_74 rfl) (c_copyRow ro (sSc_14 hk2) (sSc_14 hk) (nSc_14 hk2) (nSc_14 hk)) (by decide) rfl (Nat.le_of_ble_eq_true rfl) ?_
  exact w_vret ok fin dX5_copy_144 rfl (by unfold FI_X5_copy FJ_X5_copy; exact Pd.i)
def FI_X5_open (k : Nat) (t : Nat) (I : SI) (J : SJ) : SI := fillF (cpF (fillF (fillF (cpF (fillF (fillF (cpF (u2 (u2 (u2 (u2 (u2 (u2 I k 0 0) k 1 ((u2 I k 0 0) t 8)) k 2 0) k 3 0) k 4 0) k 5 0) (t + 6 + 3) (k + 1) 8) (k + 2) 0 8) (k + 3) 0 8) (t + 26) (k + 4) 48) (k + 5) (-1) 6) (k + 6) 0 6) (t + 11 + 4) (k + 7) 4) (k + 8) 0 4
def FJ_X5_open (k : Nat) (t : Nat) (I : SI) (J : SJ) : SJ := u2 J k 6 (((u2 (u2 (u2 (u2 (u2 (u2 I k 0 0) k 1 ((u2 I k 0 0) t 8)) k 2 0) k 3 0) k 4 0) k 5 0) t 9).toInt64)
set_option maxHeartbeats 8000000 in
set_option maxRecDepth 40000 in
theorem c_X5_open {I : SI} {J : SJ} {R : SR} {g : Nat} (ro : RO R) {k : Nat} {t : Nat} (hk : IsSc k) (ht : IsTo t)  : MM 2 0 0 mX5_open [.ref k, .ref t] I J R nC g (Pd none (FI_X5_open k t I J) (FJ_X5_open k t I J) R nC g) := by
  refine MM.of (by decide) (Nat.le_of_ble_eq_true rfl) fun K ok fin => ?_
  show WK K 0 0 0 [(0, .ref k), (1, .ref t)] [] I J R nC g
  refine w_aload_n ok dX5_open_0 0 rfl ?_
  refine w_iconst (v := 0) ok dX5_open_1 (by decide) ?_
  refine w_putI ok dX5_open_2 (fwX5_9 rfl) (congrArg Prod.fst (sSc hk)) rfl (nSc hk) ?_
  refine w_aload_n ok dX5_open_5 0 rfl ?_
  refine w_aload_n ok dX5_open_6 1 rfl ?_
  refine w_getI ok dX5_open_7 (fX5_59 rfl) (congrArg Prod.fst (sTo ht)) rfl (nTo ht) ?_
  refine w_putI ok dX5_open_10 (fwX5_15 rfl) (congrArg Prod.fst (sSc hk)) rfl (nSc hk) ?_
  refine w_aload_n ok dX5_open_13 0 rfl ?_
  refine w_iconst (v := 0) ok dX5_open_14 (by decide) ?_
  refine w_putI ok dX5_open_15 (fwX5_18 rfl) (congrArg Prod.fst (sSc hk)) rfl (nSc hk) ?_
  refine w_aload_n ok dX5_open_18 0 rfl ?_
  refine w_iconst (v := 0) ok dX5_open_19 (by decide) ?_
  refine w_putI ok dX5_open_20 (fwX5_21 rfl) (congrArg Prod.fst (sSc hk)) rfl (nSc hk) ?_
  refine w_aload_n ok dX5_open_23 0 rfl ?_
  refine w_iconst (v := 0) ok dX5_open_24 (by decide) ?_
  refine w_putI ok dX5_open_25 (fwX5_24 rfl) (congrArg Prod.fst (sSc hk)) rfl (nSc hk) ?_
  refine w_aload_n ok dX5_open_28 0 rfl ?_
  refine w_iconst (v := 0) ok dX5_open_29 (by decide) ?_
  refine w_putI ok dX5_open_30 (fwX5_27 rfl) (congrArg Prod.fst (sSc hk)) rfl (nSc hk) ?_
  refine w_aload_n ok dX5_open_33 0 rfl ?_
  refine w_aload_n ok dX5_open_34 1 rfl ?_
  refine w_getI ok dX5_open_35 (fX5_62 rfl) (congrArg Prod.fst (sTo ht)) rfl (nTo ht) ?_
  refine w_i2l ok dX5_open_38 ?_
  refine w_putJ ok dX5_open_39 (fwX5_30 rfl) (congrArg Prod.fst (sSc hk)) rfl (nSc hk) ?_
  refine w_aload_n ok dX5_open_42 1 rfl ?_
  refine w_getR ok dX5_open_43 (fX5_65 rfl) (congrArg Prod.fst (sTo ht)) rfl (rTo_1 ht ro) (nTo ht) ?_
  refine w_getR ok dX5_open_46 (fX5_69 rfl) (congrArg Prod.fst (sTb (iTo_1 ht))) rfl (rTb_4 (iTo_1 ht) ro) (nTo_1 ht) ?_
  refine w_aload_n ok dX5_open_49 0 rfl ?_
  refine w_getR ok dX5_open_50 (fX5_34 rfl) (congrArg Prod.fst (sSc hk)) rfl (rSc_7 hk ro) (nSc hk) ?_
  refine w_cS (As := [.ref (t + 6 + 3), .ref (k + 1)]) ok dX5_open_53 iX11_copyRow (lX5_74 rfl) (c_copyRow ro (sTb_4 (iTo_1 ht)) (sSc_7 hk) (nTb_4 (iTo_1 ht)) (nSc_7 hk)) (by decide) rfl (Nat.le_of_ble_eq_true rfl) ?_
  refine w_aload_n ok dX5_open_56 0 rfl ?_
  refine w_getR ok dX5_open_57 (fX5_38 rfl) (congrArg Prod.fst (sSc hk)) rfl (rSc_8 hk ro) (nSc hk) ?_
  refine w_iconst (v := 0) ok dX5_open_60 (by decide) ?_
  refine w_cS (As := [.ref (k + 2), .int 0]) ok dX5_open_61 iX11_fill (lX5_78 rfl) (c_fill ro (sSc_8 hk) (nSc_8 hk) 0) (by decide) rfl (Nat.le_of_ble_eq_true rfl) ?_
  refine w_aload_n ok dX5_open_64 0 rfl ?_
  refine w_getR ok dX5_open_65 (fX5_41 rfl) (congrArg Prod.fst (sSc hk)) rfl (rSc_9 hk ro) (nSc hk) ?_
  refine w_iconst (v := 0) ok dX5_open_68 (by decide) ?_
  refine w_cS (As := [.ref (k + 3), .int 0]) ok dX5_open_69 iX11_fill (lX5_78 rfl) (c_fill ro (sSc_9 hk) (nSc_9 hk) 0) (by decide) rfl (Nat.le_of_ble_eq_true rfl) ?_
  refine w_aload_n ok dX5_open_72 1 rfl ?_
  refine w_getR ok dX5_open_73 (fX5_82 rfl) (congrArg Prod.fst (sTo ht)) rfl (rTo_5 ht ro) (nTo ht) ?_
  refine w_aload_n ok dX5_open_76 0 rfl ?_
  refine w_getR ok dX5_open_77 (fX5_44 rfl) (congrArg Prod.fst (sSc hk)) rfl (rSc_10 hk ro) (nSc hk) ?_
  refine w_cS (As := [.ref (t + 26), .ref (k + 4)]) ok dX5_open_80 iX11_copyRow (lX5_74 rfl) (c_copyRow ro (sTo_5 ht) (sSc_10 hk) (nTo_5 ht) (nSc_10 hk)) (by decide) rfl (Nat.le_of_ble_eq_true rfl) ?_
  refine w_aload_n ok dX5_open_83 0 rfl ?_
  refine w_getR ok dX5_open_84 (fX5_47 rfl) (congrArg Prod.fst (sSc hk)) rfl (rSc_11 hk ro) (nSc hk) ?_
  refine w_iconst (v := (-1)) ok dX5_open_87 (by decide) ?_
  refine w_cS (As := [.ref (k + 5), .int (-1)]) ok dX5_open_88 iX11_fill (lX5_78 rfl) (c_fill ro (sSc_11 hk) (nSc_11 hk) (-1)) (by decide) rfl (Nat.le_of_ble_eq_true rfl) ?_
  refine w_aload_n ok dX5_open_91 0 rfl ?_
  refine w_getR ok dX5_open_92 (fX5_50 rfl) (congrArg Prod.fst (sSc hk)) rfl (rSc_12 hk ro) (nSc hk) ?_
  refine w_iconst (v := 0) ok dX5_open_95 (by decide) ?_
  refine w_cS (As := [.ref (k + 6), .int 0]) ok dX5_open_96 iX11_fill (lX5_78 rfl) (c_fill ro (sSc_12 hk) (nSc_12 hk) 0) (by decide) rfl (Nat.le_of_ble_eq_true rfl) ?_
  refine w_aload_n ok dX5_open_99 1 rfl ?_
  refine w_getR ok dX5_open_100 (fX5_83 rfl) (congrArg Prod.fst (sTo ht)) rfl (rTo_2 ht ro) (nTo ht) ?_
  refine w_getR ok dX5_open_103 (fX5_86 rfl) (congrArg Prod.fst (sTb (iTo_2 ht))) rfl (rTb_5 (iTo_2 ht) ro) (nTo_2 ht) ?_
  refine w_aload_n ok dX5_open_106 0 rfl ?_
  refine w_getR ok dX5_open_107 (fX5_53 rfl) (congrArg Prod.fst (sSc hk)) rfl (rSc_13 hk ro) (nSc hk) ?_
  refine w_cS (As := [.ref (t + 11 + 4), .ref (k + 7)]) ok dX5_open_110 iX11_copyRow (lX5_74 rfl) (c_copyRow ro (sTb_5 (iTo_2 ht)) (sSc_13 hk) (nTb_5 (iTo_2 ht)) (nSc_13 hk)) (by decide) rfl (Nat.le_of_ble_eq_true rfl) ?_
  refine w_aload_n ok dX5_open_113 0 rfl ?_
  refine w_getR ok dX5_open_114 (fX5_56 rfl) (congrArg Prod.fst (sSc hk)) rfl (rSc_14 hk ro) (nSc hk) ?_
  refine w_iconst (v := 0) ok dX5_open_117 (by decide) ?_
  refine w_cS (As := [.ref (k + 8), .int 0]) ok dX5_open_118 iX11_fill (lX5_78 rfl) (c_fill ro (sSc_14 hk) (nSc_14 hk) 0) (by decide) rfl (Nat.le_of_ble_eq_true rfl) ?_
  exact w_vret ok fin dX5_open_121 rfl (by unfold FI_X5_open FJ_X5_open; exact Pd.i)
def FI_X7_clear (k : Nat) (I : SI) (J : SJ) : SI := fillF (fillF (fillF (fillF (u2 I k 1 0) (k + 1) 0 8) (k + 2) 0 8) (k + 3) 0 8) (k + 4) 0 8
set_option maxHeartbeats 8000000 in
set_option maxRecDepth 40000 in
theorem c_X7_clear {I : SI} {J : SJ} {R : SR} {g : Nat} (ro : RO R) {k : Nat} (hk : IsTb k)  : MM 1 0 0 mX7_clear [.ref k] I J R nC g (Pd none (FI_X7_clear k I J) J R nC g) := by
  refine MM.of (by decide) (Nat.le_of_ble_eq_true rfl) fun K ok fin => ?_
  show WK K 0 0 0 [(0, .ref k)] [] I J R nC g
  refine w_aload_n ok dX7_clear_0 0 rfl ?_
  refine w_iconst (v := 0) ok dX7_clear_1 (by decide) ?_
  refine w_putI ok dX7_clear_2 (fwX7_9 rfl) (congrArg Prod.fst (sTb hk)) rfl (nTb hk) ?_
  refine w_aload_n ok dX7_clear_5 0 rfl ?_
  refine w_getR ok dX7_clear_6 (fX7_15 rfl) (congrArg Prod.fst (sTb hk)) rfl (rTb_2 hk ro) (nTb hk) ?_
  refine w_iconst (v := 0) ok dX7_clear_9 (by decide) ?_
  refine w_cS (As := [.ref (k + 1), .int 0]) ok dX7_clear_10 iX11_fill (lX7_37 rfl) (c_fill ro (sTb_2 hk) (nTb_2 hk) 0) (by decide) rfl (Nat.le_of_ble_eq_true rfl) ?_
  refine w_aload_n ok dX7_clear_13 0 rfl ?_
  refine w_getR ok dX7_clear_14 (fX7_19 rfl) (congrArg Prod.fst (sTb hk)) rfl (rTb_3 hk ro) (nTb hk) ?_
  refine w_iconst (v := 0) ok dX7_clear_17 (by decide) ?_
  refine w_cS (As := [.ref (k + 2), .int 0]) ok dX7_clear_18 iX11_fill (lX7_37 rfl) (c_fill ro (sTb_3 hk) (nTb_3 hk) 0) (by decide) rfl (Nat.le_of_ble_eq_true rfl) ?_
  refine w_aload_n ok dX7_clear_21 0 rfl ?_
  refine w_getR ok dX7_clear_22 (fX7_22 rfl) (congrArg Prod.fst (sTb hk)) rfl (rTb_4 hk ro) (nTb hk) ?_
  refine w_iconst (v := 0) ok dX7_clear_25 (by decide) ?_
  refine w_cS (As := [.ref (k + 3), .int 0]) ok dX7_clear_26 iX11_fill (lX7_37 rfl) (c_fill ro (sTb_4 hk) (nTb_4 hk) 0) (by decide) rfl (Nat.le_of_ble_eq_true rfl) ?_
  refine w_aload_n ok dX7_clear_29 0 rfl ?_
  refine w_getR ok dX7_clear_30 (fX7_25 rfl) (congrArg Prod.fst (sTb hk)) rfl (rTb_5 hk ro) (nTb hk) ?_
  refine w_iconst (v := 0) ok dX7_clear_33 (by decide) ?_
  refine w_cS (As := [.ref (k + 4), .int 0]) ok dX7_clear_34 iX11_fill (lX7_37 rfl) (c_fill ro (sTb_5 hk) (nTb_5 hk) 0) (by decide) rfl (Nat.le_of_ble_eq_true rfl) ?_
  exact w_vret ok fin dX7_clear_37 rfl (by unfold FI_X7_clear; exact Pd.i)
def FI_X7_copy (k : Nat) (k2 : Nat) (I : SI) (J : SJ) : SI := cpF (cpF (cpF (cpF (u2 I k 1 (I k2 1)) (k2 + 1) (k + 1) 8) (k2 + 2) (k + 2) 8) (k2 + 3) (k + 3) 8) (k2 + 4) (k + 4) 8
set_option maxHeartbeats 8000000 in
set_option maxRecDepth 40000 in
theorem c_X7_copy {I : SI} {J : SJ} {R : SR} {g : Nat} (ro : RO R) {k : Nat} {k2 : Nat} (hk : IsTb k) (hk2 : IsTb k2)  : MM 2 0 0 mX7_copy [.ref k, .ref k2] I J R nC g (Pd none (FI_X7_copy k k2 I J) J R nC g) := by
  refine MM.of (by decide) (Nat.le_of_ble_eq_true rfl) fun K ok fin => ?_
  show WK K 0 0 0 [(0, .ref k), (1, .ref k2)] [] I J R nC g
  refine w_aload_n ok dX7_copy_0 0 rfl ?_
  refine w_aload_n ok dX7_copy_1 1 rfl ?_
  refine w_getI ok dX7_copy_2 (fX7_9 rfl) (congrArg Prod.fst (sTb hk2)) rfl (nTb hk2) ?_
  refine w_putI ok dX7_copy_5 (fwX7_9 rfl) (congrArg Prod.fst (sTb hk)) rfl (nTb hk) ?_
  refine w_aload_n ok dX7_copy_8 1 rfl ?_
  refine w_getR ok dX7_copy_9 (fX7_15 rfl) (congrArg Prod.fst (sTb hk2)) rfl (rTb_2 hk2 ro) (nTb hk2) ?_
  refine w_aload_n ok dX7_copy_12 0 rfl ?_
  refine w_getR ok dX7_copy_13 (fX7_15 rfl) (congrArg Prod.fst (sTb hk)) rfl (rTb_2 hk ro) (nTb hk) ?_
  refine w_cS (As := [.ref (k2 + 1), .ref (k + 1)]) ok dX7_copy_16 iX11_copyRow (lX7_41 rfl) (c_copyRow ro (sTb_2 hk2) (sTb_2 hk) (nTb_2 hk2) (nTb_2 hk)) (by decide) rfl (Nat.le_of_ble_eq_true rfl) ?_
  refine w_aload_n ok dX7_copy_19 1 rfl ?_
  refine w_getR ok dX7_copy_20 (fX7_19 rfl) (congrArg Prod.fst (sTb hk2)) rfl (rTb_3 hk2 ro) (nTb hk2) ?_
  refine w_aload_n ok dX7_copy_23 0 rfl ?_
  refine w_getR ok dX7_copy_24 (fX7_19 rfl) (congrArg Prod.fst (sTb hk)) rfl (rTb_3 hk ro) (nTb hk) ?_
  refine w_cS (As := [.ref (k2 + 2), .ref (k + 2)]) ok dX7_copy_27 iX11_copyRow (lX7_41 rfl) (c_copyRow ro (sTb_3 hk2) (sTb_3 hk) (nTb_3 hk2) (nTb_3 hk)) (by decide) rfl (Nat.le_of_ble_eq_true rfl) ?_
  refine w_aload_n ok dX7_copy_30 1 rfl ?_
  refine w_getR ok dX7_copy_31 (fX7_22 rfl) (congrArg Prod.fst (sTb hk2)) rfl (rTb_4 hk2 ro) (nTb hk2) ?_
  refine w_aload_n ok dX7_copy_34 0 rfl ?_
  refine w_getR ok dX7_copy_35 (fX7_22 rfl) (congrArg Prod.fst (sTb hk)) rfl (rTb_4 hk ro) (nTb hk) ?_
  refine w_cS (As := [.ref (k2 + 3), .ref (k + 3)]) ok dX7_copy_38 iX11_copyRow (lX7_41 rfl) (c_copyRow ro (sTb_4 hk2) (sTb_4 hk) (nTb_4 hk2) (nTb_4 hk)) (by decide) rfl (Nat.le_of_ble_eq_true rfl) ?_
  refine w_aload_n ok dX7_copy_41 1 rfl ?_
  refine w_getR ok dX7_copy_42 (fX7_25 rfl) (congrArg Prod.fst (sTb hk2)) rfl (rTb_5 hk2 ro) (nTb hk2) ?_
  refine w_aload_n ok dX7_copy_45 0 rfl ?_
  refine w_getR ok dX7_copy_46 (fX7_25 rfl) (congrArg Prod.fst (sTb hk)) rfl (rTb_5 hk ro) (nTb hk) ?_
  refine w_cS (As := [.ref (k2 + 4), .ref (k + 4)]) ok dX7_copy_49 iX11_copyRow (lX7_41 rfl) (c_copyRow ro (sTb_5 hk2) (sTb_5 hk) (nTb_5 hk2) (nTb_5 hk)) (by decide) rfl (Nat.le_of_ble_eq_true rfl) ?_
  exact w_vret ok fin dX7_copy_52 rfl (by unfold FI_X7_copy; exact Pd.i)
def F_X7_holds (k : Nat) (i : Int32) (I : SI) (J : SJ) : Int32 := if i < 0 then 0 else (if (I k 1) ≤ i then 0 else 1)
set_option maxHeartbeats 8000000 in
set_option maxRecDepth 40000 in
theorem c_X7_holds {I : SI} {J : SJ} {R : SR} {g : Nat} (ro : RO R) {k : Nat} (i : Int32) (hk : IsTb k)  : MM 0 0 0 mX7_holds [.ref k, .int i] I J R nC g (Pd (some (.int (F_X7_holds k i I J))) I J R nC g) := by
  refine MM.of (by decide) (Nat.le_of_ble_eq_true rfl) fun K ok fin => ?_
  show WK K 0 0 0 [(0, .ref k), (1, .int i)] [] I J R nC g
  refine w_iload_n ok dX7_holds_0 1 rfl ?_
  refine w_if_lt (tgt := 16) ok dX7_holds_1 (by decide) (fun c1 => ?_) (fun c1 => ?_)
  · skip
    refine w_iconst (v := 0) ok dX7_holds_16 (by decide) ?_
    exact w_zret ok fin dX7_holds_17 rfl (by decide) (by unfold F_X7_holds; simp only [if_pos c1]; exact Pd.i)
  · skip
    refine w_iload_n ok dX7_holds_4 1 rfl ?_
    refine w_aload_n ok dX7_holds_5 0 rfl ?_
    refine w_getI ok dX7_holds_6 (fX7_9 rfl) (congrArg Prod.fst (sTb hk)) rfl (nTb hk) ?_
    refine w_icmp_ge (tgt := 16) ok dX7_holds_9 (by decide) (fun c2 => ?_) (fun c2 => ?_)
    · skip
      refine w_iconst (v := 0) ok dX7_holds_16 (by decide) ?_
      exact w_zret ok fin dX7_holds_17 rfl (by decide) (by unfold F_X7_holds; simp only [if_neg c1]; simp only [if_pos c2]; exact Pd.i)
    · skip
      refine w_iconst (v := 1) ok dX7_holds_12 (by decide) ?_
      refine w_goto (tgt := 17) ok dX7_holds_13 (by decide) ?_
      exact w_zret ok fin dX7_holds_17 rfl (by decide) (by unfold F_X7_holds; simp only [if_neg c1]; simp only [if_neg c2]; exact Pd.i)
def F_X7_isFull (k : Nat) (I : SI) (J : SJ) : Int32 := if (I k 1) < (I k 0) then 0 else 1
set_option maxHeartbeats 8000000 in
set_option maxRecDepth 40000 in
theorem c_X7_isFull {I : SI} {J : SJ} {R : SR} {g : Nat} (ro : RO R) {k : Nat} (hk : IsTb k)  : MM 0 0 0 mX7_isFull [.ref k] I J R nC g (Pd (some (.int (F_X7_isFull k I J))) I J R nC g) := by
  refine MM.of (by decide) (Nat.le_of_ble_eq_true rfl) fun K ok fin => ?_
  show WK K 0 0 0 [(0, .ref k)] [] I J R nC g
  refine w_aload_n ok dX7_isFull_0 0 rfl ?_
  refine w_getI ok dX7_isFull_1 (fX7_9 rfl) (congrArg Prod.fst (sTb hk)) rfl (nTb hk) ?_
  refine w_aload_n ok dX7_isFull_4 0 rfl ?_
  refine w_getI ok dX7_isFull_5 (fX7_34 rfl) (congrArg Prod.fst (sTb hk)) rfl (nTb hk) ?_
  refine w_icmp_lt (tgt := 15) ok dX7_isFull_8 (by decide) (fun c1 => ?_) (fun c1 => ?_)
  · skip
    refine w_iconst (v := 0) ok dX7_isFull_15 (by decide) ?_
    exact w_zret ok fin dX7_isFull_16 rfl (by decide) (by unfold F_X7_isFull; simp only [if_pos c1]; exact Pd.i)
  · skip
    refine w_iconst (v := 1) ok dX7_isFull_11 (by decide) ?_
    refine w_goto (tgt := 16) ok dX7_isFull_12 (by decide) ?_
    exact w_zret ok fin dX7_isFull_16 rfl (by decide) (by unfold F_X7_isFull; simp only [if_neg c1]; exact Pd.i)
def FI_X7_add (k : Nat) (name : Int32) (one : Int32) (two : Int32) (three : Int32) (I : SI) (J : SJ) : SI := if (I k 0) ≤ (I k 1) then I else u2 (putF (putF (putF (putF I (k + 1) 8 (I k 1) name) (k + 2) 8 ((putF I (k + 1) 8 (I k 1) name) k 1) one) (k + 3) 8 ((putF (putF I (k + 1) 8 (I k 1) name) (k + 2) 8 ((putF I (k + 1) 8 (I k 1) name) k 1) one) k 1) two) (k + 4) 8 ((putF (putF (putF I (k + 1) 8 (I k 1) name) (k + 2) 8 ((putF I (k + 1) 8 (I k 1) name) k 1) one) (k + 3) 8 ((putF (putF I (k + 1) 8 (I k 1) name) (k + 2) 8 ((putF I (k + 1) 8 (I k 1) name) k 1) one) k 1) two) k 1) three) k 1 (((putF (putF (putF (putF I (k + 1) 8 (I k 1) name) (k + 2) 8 ((putF I (k + 1) 8 (I k 1) name) k 1) one) (k + 3) 8 ((putF (putF I (k + 1) 8 (I k 1) name) (k + 2) 8 ((putF I (k + 1) 8 (I k 1) name) k 1) one) k 1) two) (k + 4) 8 ((putF (putF (putF I (k + 1) 8 (I k 1) name) (k + 2) 8 ((putF I (k + 1) 8 (I k 1) name) k 1) one) (k + 3) 8 ((putF (putF I (k + 1) 8 (I k 1) name) (k + 2) 8 ((putF I (k + 1) 8 (I k 1) name) k 1) one) k 1) two) k 1) three) k 1) + 1)
set_option maxHeartbeats 8000000 in
set_option maxRecDepth 40000 in
theorem c_X7_add {I : SI} {J : SJ} {R : SR} {g : Nat} (ro : RO R) {k : Nat} (name : Int32) (one : Int32) (two : Int32) (three : Int32) (hk : IsTb k)  : MM 1 0 0 mX7_add [.ref k, .int name, .int one, .int two, .int three] I J R nC g (Pd none (FI_X7_add k name one two three I J) J R nC g) := by
  refine MM.of (by decide) (Nat.le_of_ble_eq_true rfl) fun K ok fin => ?_
  show WK K 0 0 0 [(0, .ref k), (1, .int name), (2, .int one), (3, .int two), (4, .int three)] [] I J R nC g
  refine w_aload_n ok dX7_add_0 0 rfl ?_
  refine w_getI ok dX7_add_1 (fX7_9 rfl) (congrArg Prod.fst (sTb hk)) rfl (nTb hk) ?_
  refine w_aload_n ok dX7_add_4 0 rfl ?_
  refine w_getI ok dX7_add_5 (fX7_34 rfl) (congrArg Prod.fst (sTb hk)) rfl (nTb hk) ?_
  refine w_icmp_ge (tgt := 70) ok dX7_add_8 (by decide) (fun c1 => ?_) (fun c1 => ?_)
  · skip
    exact w_vret ok fin dX7_add_70 rfl (by unfold FI_X7_add; simp only [if_pos c1]; exact Pd.i)
  · skip
    refine w_aload_n ok dX7_add_11 0 rfl ?_
    refine w_getR ok dX7_add_12 (fX7_15 rfl) (congrArg Prod.fst (sTb hk)) rfl (rTb_2 hk ro) (nTb hk) ?_
    refine w_aload_n ok dX7_add_15 0 rfl ?_
    refine w_getI ok dX7_add_16 (fX7_9 rfl) (congrArg Prod.fst (sTb hk)) rfl (nTb hk) ?_
    refine w_iload_n ok dX7_add_19 1 rfl ?_
    refine w_cS (As := [.ref (k + 1), .int (I k 1), .int name]) ok dX7_add_20 iX11_put (lX7_49 rfl) (c_put ro (sTb_2 hk) (nTb_2 hk) (I k 1) name) (by decide) rfl (Nat.le_of_ble_eq_true rfl) ?_
    refine w_aload_n ok dX7_add_23 0 rfl ?_
    refine w_getR ok dX7_add_24 (fX7_19 rfl) (congrArg Prod.fst (sTb hk)) rfl (rTb_3 hk ro) (nTb hk) ?_
    refine w_aload_n ok dX7_add_27 0 rfl ?_
    refine w_getI ok dX7_add_28 (fX7_9 rfl) (congrArg Prod.fst (sTb hk)) rfl (nTb hk) ?_
    refine w_iload_n ok dX7_add_31 2 rfl ?_
    refine w_cS (As := [.ref (k + 2), .int ((putF I (k + 1) 8 (I k 1) name) k 1), .int one]) ok dX7_add_32 iX11_put (lX7_49 rfl) (c_put ro (sTb_3 hk) (nTb_3 hk) ((putF I (k + 1) 8 (I k 1) name) k 1) one) (by decide) rfl (Nat.le_of_ble_eq_true rfl) ?_
    refine w_aload_n ok dX7_add_35 0 rfl ?_
    refine w_getR ok dX7_add_36 (fX7_22 rfl) (congrArg Prod.fst (sTb hk)) rfl (rTb_4 hk ro) (nTb hk) ?_
    refine w_aload_n ok dX7_add_39 0 rfl ?_
    refine w_getI ok dX7_add_40 (fX7_9 rfl) (congrArg Prod.fst (sTb hk)) rfl (nTb hk) ?_
    refine w_iload_n ok dX7_add_43 3 rfl ?_
    refine w_cS (As := [.ref (k + 3), .int ((putF (putF I (k + 1) 8 (I k 1) name) (k + 2) 8 ((putF I (k + 1) 8 (I k 1) name) k 1) one) k 1), .int two]) ok dX7_add_44 iX11_put (lX7_49 rfl) (c_put ro (sTb_4 hk) (nTb_4 hk) ((putF (putF I (k + 1) 8 (I k 1) name) (k + 2) 8 ((putF I (k + 1) 8 (I k 1) name) k 1) one) k 1) two) (by decide) rfl (Nat.le_of_ble_eq_true rfl) ?_
    refine w_aload_n ok dX7_add_47 0 rfl ?_
    refine w_getR ok dX7_add_48 (fX7_25 rfl) (congrArg Prod.fst (sTb hk)) rfl (rTb_5 hk ro) (nTb hk) ?_
    refine w_aload_n ok dX7_add_51 0 rfl ?_
    refine w_getI ok dX7_add_52 (fX7_9 rfl) (congrArg Prod.fst (sTb hk)) rfl (nTb hk) ?_
    refine w_iload ok dX7_add_55 4 rfl ?_
    refine w_cS (As := [.ref (k + 4), .int ((putF (putF (putF I (k + 1) 8 (I k 1) name) (k + 2) 8 ((putF I (k + 1) 8 (I k 1) name) k 1) one) (k + 3) 8 ((putF (putF I (k + 1) 8 (I k 1) name) (k + 2) 8 ((putF I (k + 1) 8 (I k 1) name) k 1) one) k 1) two) k 1), .int three]) ok dX7_add_57 iX11_put (lX7_49 rfl) (c_put ro (sTb_5 hk) (nTb_5 hk) ((putF (putF (putF I (k + 1) 8 (I k 1) name) (k + 2) 8 ((putF I (k + 1) 8 (I k 1) name) k 1) one) (k + 3) 8 ((putF (putF I (k + 1) 8 (I k 1) name) (k + 2) 8 ((putF I (k + 1) 8 (I k 1) name) k 1) one) k 1) two) k 1) three) (by decide) rfl (Nat.le_of_ble_eq_true rfl) ?_
    refine w_aload_n ok dX7_add_60 0 rfl ?_
    refine w_dup ok dX7_add_61 rfl ?_
    refine w_getI ok dX7_add_62 (fX7_9 rfl) (congrArg Prod.fst (sTb hk)) rfl (nTb hk) ?_
    refine w_iconst (v := 1) ok dX7_add_65 (by decide) ?_
    refine w_iadd ok dX7_add_66 ?_
    refine w_putI ok dX7_add_67 (fwX7_9 rfl) (congrArg Prod.fst (sTb hk)) rfl (nTb hk) ?_
    exact w_vret ok fin dX7_add_70 rfl (by unfold FI_X7_add; simp only [if_neg c1]; exact Pd.i)
