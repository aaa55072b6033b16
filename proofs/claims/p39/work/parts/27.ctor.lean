/-! constructors, by program -/
def S1_X1_init (k : Nat) (I : SI) (J : SJ) (R : SR) : SR := u2 (u2 (u2 R k 2 (some (k + 1))) k 3 (some (k + 2))) k 4 (some (k + 3))
def KI_X1_init (k : Nat) (I : SI) (J : SJ) (R : SR) : SI := u2 (u2 I k 0 0) k 1 0
def KJ_X1_init (k : Nat) (I : SI) (J : SJ) (R : SR) : SJ := J
def KR_X1_init (k : Nat) (I : SI) (J : SJ) (R : SR) : SR := (S1_X1_init k I J R)
set_option maxHeartbeats 1000000 in
set_option maxRecDepth 40000 in
theorem k_X1_init {k : Nat} {I : SI} {J : SJ} {R : SR} (hk : IsLw k) (hZ : Zr I J R (k + 1)) : MM 1 3 192 mX1_init [.ref k] I J R (k + 1) 0 (Pd none (KI_X1_init k I J R) (KJ_X1_init k I J R) (KR_X1_init k I J R) (k + 4) 0) := by
  refine MM.of (by decide) (Nat.le_of_ble_eq_true rfl) fun K ok fin => ?_
  show WK K 0 0 0 [(0, .ref k)] [] I J R (k + 1) 0
  refine w_aload_n ok dX1_init_0 0 rfl ?_
  refine w_obj ok dX1_init_1 (iT_1 90 (by decide +kernel) (by decide +kernel)) (iT_1 32 (by decide +kernel) (by decide +kernel)) (iT_1 33 (by decide +kernel) (by decide +kernel)) (Nat.le_of_ble_eq_true rfl) ?_
  refine w_aload_n ok dX1_init_4 0 rfl ?_
  refine w_iconst (v := 0) ok dX1_init_5 (by decide) ?_
  refine w_putZ ok dX1_init_6 (fwX1_9 rfl) (congrArg Prod.fst (sLw hk)) rfl (by decide) (by omega) ?_
  have hZ1 : Zr (u2 I k 0 0) J R (k + 1) := Zr.putI hZ (by omega)
  refine w_aload_n ok dX1_init_9 0 rfl ?_
  refine w_iconst (v := 0) ok dX1_init_10 (by decide) ?_
  refine w_putI ok dX1_init_11 (fwX1_15 rfl) (congrArg Prod.fst (sLw hk)) rfl (by omega) ?_
  have hZ2 : Zr (u2 (u2 I k 0 0) k 1 0) J R (k + 1) := Zr.putI hZ1 (by omega)
  refine w_aload_n ok dX1_init_14 0 rfl ?_
  refine w_bipush (v := 64) ok dX1_init_15 (by decide) ?_
  refine w_newI (len := 64) ok dX1_init_17 rfl (sLw_2 hk) (by decide) (by decide) (by decide) (iT_1 84 (by decide +kernel) (by decide +kernel)) hZ2 (cap_of fin (by decide) (by decide)) ?_
  have hZ3 : Zr (u2 (u2 I k 0 0) k 1 0) J R (k + 2) := Zr.up hZ2
  refine w_putRF ok dX1_init_19 (ffX1_19 rfl rfl) (congrArg Prod.fst (sLw hk)) rfl (by omega) ?_
  have hZ4 : Zr (u2 (u2 I k 0 0) k 1 0) J (u2 R k 2 (some (k + 1))) (k + 2) := Zr.putR hZ3 (by omega)
  refine w_aload_n ok dX1_init_22 0 rfl ?_
  refine w_bipush (v := 64) ok dX1_init_23 (by decide) ?_
  refine w_newI (len := 64) ok dX1_init_25 rfl (sLw_3 hk) (by decide) (by decide) (by decide) (iT_1 84 (by decide +kernel) (by decide +kernel)) hZ4 (cap_of fin (by decide) (by decide)) ?_
  have hZ5 : Zr (u2 (u2 I k 0 0) k 1 0) J (u2 R k 2 (some (k + 1))) (k + 3) := Zr.up hZ4
  refine w_putRF ok dX1_init_27 (ffX1_23 rfl rfl) (congrArg Prod.fst (sLw hk)) rfl (by omega) ?_
  have hZ6 : Zr (u2 (u2 I k 0 0) k 1 0) J (u2 (u2 R k 2 (some (k + 1))) k 3 (some (k + 2))) (k + 3) := Zr.putR hZ5 (by omega)
  refine w_aload_n ok dX1_init_30 0 rfl ?_
  refine w_bipush (v := 64) ok dX1_init_31 (by decide) ?_
  refine w_newL (len := 64) ok dX1_init_33 rfl (sLw_4 hk) (by decide) (by decide) (by decide) (iT_1 109 (by decide +kernel) (by decide +kernel)) hZ6 (cap_of fin (by decide) (by decide)) ?_
  have hZ7 : Zr (u2 (u2 I k 0 0) k 1 0) J (u2 (u2 R k 2 (some (k + 1))) k 3 (some (k + 2))) (k + 4) := Zr.up hZ6
  refine w_putRF ok dX1_init_35 (ffX1_26 rfl rfl) (congrArg Prod.fst (sLw hk)) rfl (by omega) ?_
  have hZ8 : Zr (u2 (u2 I k 0 0) k 1 0) J (u2 (u2 (u2 R k 2 (some (k + 1))) k 3 (some (k + 2))) k 4 (some (k + 3))) (k + 4) := Zr.putR hZ7 (by omega)
  show WK K 3 192 38 [(0, .ref k)] [] (u2 (u2 I k 0 0) k 1 0) J (S1_X1_init k I J R) (k + 4) 0
  exact w_vret ok fin dX1_init_38 rfl Pd.i
set_option maxHeartbeats 1000000 in
set_option maxRecDepth 40000 in
theorem z_X1_init {k : Nat} {I : SI} {J : SJ} {R : SR} (hk : IsLw k) (hZ : Zr I J R (k + 1)) : Zr (KI_X1_init k I J R) (KJ_X1_init k I J R) (KR_X1_init k I J R) (k + 4) := by
  have hZ1 : Zr (u2 I k 0 0) J R (k + 1) := Zr.putI hZ (by omega)
  have hZ2 : Zr (u2 (u2 I k 0 0) k 1 0) J R (k + 1) := Zr.putI hZ1 (by omega)
  have hZ3 : Zr (u2 (u2 I k 0 0) k 1 0) J R (k + 2) := Zr.up hZ2
  have hZ4 : Zr (u2 (u2 I k 0 0) k 1 0) J (u2 R k 2 (some (k + 1))) (k + 2) := Zr.putR hZ3 (by omega)
  have hZ5 : Zr (u2 (u2 I k 0 0) k 1 0) J (u2 R k 2 (some (k + 1))) (k + 3) := Zr.up hZ4
  have hZ6 : Zr (u2 (u2 I k 0 0) k 1 0) J (u2 (u2 R k 2 (some (k + 1))) k 3 (some (k + 2))) (k + 3) := Zr.putR hZ5 (by omega)
  have hZ7 : Zr (u2 (u2 I k 0 0) k 1 0) J (u2 (u2 R k 2 (some (k + 1))) k 3 (some (k + 2))) (k + 4) := Zr.up hZ6
  have hZ8 : Zr (u2 (u2 I k 0 0) k 1 0) J (u2 (u2 (u2 R k 2 (some (k + 1))) k 3 (some (k + 2))) k 4 (some (k + 3))) (k + 4) := Zr.putR hZ7 (by omega)
  exact hZ8
set_option maxHeartbeats 1000000 in
set_option maxRecDepth 40000 in
theorem kr_X1_init {k : Nat} {I : SI} {J : SJ} {R : SR} {a b : Nat} (ha : a < k) : KR_X1_init k I J R a b = R a b := by
  unfold KR_X1_init
  have h1 : a ≠ k := by omega
  simp (disch := omega) [u2, h1, S1_X1_init]
def S1_X7_init (k : Nat) (a0 : Int32) (I : SI) (J : SJ) (R : SR) : SR := u2 (u2 (u2 R k 2 (some (k + 1))) k 3 (some (k + 2))) k 4 (some (k + 3))
def KI_X7_init (k : Nat) (a0 : Int32) (I : SI) (J : SJ) (R : SR) : SI := u2 (u2 I k 1 0) k 0 (minI a0 8)
def KJ_X7_init (k : Nat) (a0 : Int32) (I : SI) (J : SJ) (R : SR) : SJ := J
def KR_X7_init (k : Nat) (a0 : Int32) (I : SI) (J : SJ) (R : SR) : SR := u2 (S1_X7_init k a0 I J R) k 5 (some (k + 4))
set_option maxHeartbeats 1000000 in
set_option maxRecDepth 40000 in
theorem k_X7_init {k : Nat} (a0 : Int32) {I : SI} {J : SJ} {R : SR} (hk : IsTb k) (hZ : Zr I J R (k + 1)) : MM 1 4 32 mX7_init [.ref k, .int a0] I J R (k + 1) 0 (Pd none (KI_X7_init k a0 I J R) (KJ_X7_init k a0 I J R) (KR_X7_init k a0 I J R) (k + 5) 0) := by
  refine MM.of (by decide) (Nat.le_of_ble_eq_true rfl) fun K ok fin => ?_
  show WK K 0 0 0 [(0, .ref k), (1, .int a0)] [] I J R (k + 1) 0
  refine w_aload_n ok dX7_init_0 0 rfl ?_
  refine w_obj ok dX7_init_1 (iT_1 45 (by decide +kernel) (by decide +kernel)) (iT_1 32 (by decide +kernel) (by decide +kernel)) (iT_1 33 (by decide +kernel) (by decide +kernel)) (Nat.le_of_ble_eq_true rfl) ?_
  refine w_aload_n ok dX7_init_4 0 rfl ?_
  refine w_iconst (v := 0) ok dX7_init_5 (by decide) ?_
  refine w_putI ok dX7_init_6 (fwX7_9 rfl) (congrArg Prod.fst (sTb hk)) rfl (by omega) ?_
  have hZ1 : Zr (u2 I k 1 0) J R (k + 1) := Zr.putI hZ (by omega)
  refine w_aload_n ok dX7_init_9 0 rfl ?_
  refine w_bipush (v := 8) ok dX7_init_10 (by decide) ?_
  refine w_newI (len := 8) ok dX7_init_12 rfl (sTb_2 hk) (by decide) (by decide) (by decide) (iT_1 84 (by decide +kernel) (by decide +kernel)) hZ1 (cap_of fin (by decide) (by decide)) ?_
  have hZ2 : Zr (u2 I k 1 0) J R (k + 2) := Zr.up hZ1
  refine w_putRF ok dX7_init_14 (ffX7_15 rfl rfl) (congrArg Prod.fst (sTb hk)) rfl (by omega) ?_
  have hZ3 : Zr (u2 I k 1 0) J (u2 R k 2 (some (k + 1))) (k + 2) := Zr.putR hZ2 (by omega)
  refine w_aload_n ok dX7_init_17 0 rfl ?_
  refine w_bipush (v := 8) ok dX7_init_18 (by decide) ?_
  refine w_newI (len := 8) ok dX7_init_20 rfl (sTb_3 hk) (by decide) (by decide) (by decide) (iT_1 84 (by decide +kernel) (by decide +kernel)) hZ3 (cap_of fin (by decide) (by decide)) ?_
  have hZ4 : Zr (u2 I k 1 0) J (u2 R k 2 (some (k + 1))) (k + 3) := Zr.up hZ3
  refine w_putRF ok dX7_init_22 (ffX7_19 rfl rfl) (congrArg Prod.fst (sTb hk)) rfl (by omega) ?_
  have hZ5 : Zr (u2 I k 1 0) J (u2 (u2 R k 2 (some (k + 1))) k 3 (some (k + 2))) (k + 3) := Zr.putR hZ4 (by omega)
  refine w_aload_n ok dX7_init_25 0 rfl ?_
  refine w_bipush (v := 8) ok dX7_init_26 (by decide) ?_
  refine w_newI (len := 8) ok dX7_init_28 rfl (sTb_4 hk) (by decide) (by decide) (by decide) (iT_1 84 (by decide +kernel) (by decide +kernel)) hZ5 (cap_of fin (by decide) (by decide)) ?_
  have hZ6 : Zr (u2 I k 1 0) J (u2 (u2 R k 2 (some (k + 1))) k 3 (some (k + 2))) (k + 4) := Zr.up hZ5
  refine w_putRF ok dX7_init_30 (ffX7_22 rfl rfl) (congrArg Prod.fst (sTb hk)) rfl (by omega) ?_
  have hZ7 : Zr (u2 I k 1 0) J (u2 (u2 (u2 R k 2 (some (k + 1))) k 3 (some (k + 2))) k 4 (some (k + 3))) (k + 4) := Zr.putR hZ6 (by omega)
  show WK K 3 24 33 [(0, .ref k), (1, .int a0)] [] (u2 I k 1 0) J (S1_X7_init k a0 I J R) (k + 4) 0
  refine w_aload_n ok dX7_init_33 0 rfl ?_
  refine w_bipush (v := 8) ok dX7_init_34 (by decide) ?_
  refine w_newI (len := 8) ok dX7_init_36 rfl (sTb_5 hk) (by decide) (by decide) (by decide) (iT_1 84 (by decide +kernel) (by decide +kernel)) hZ7 (cap_of fin (by decide) (by decide)) ?_
  have hZ8 : Zr (u2 I k 1 0) J (S1_X7_init k a0 I J R) (k + 5) := Zr.up hZ7
  refine w_putRF ok dX7_init_38 (ffX7_25 rfl rfl) (congrArg Prod.fst (sTb hk)) rfl (by omega) ?_
  have hZ9 : Zr (u2 I k 1 0) J (u2 (S1_X7_init k a0 I J R) k 5 (some (k + 4))) (k + 5) := Zr.putR hZ8 (by omega)
  refine w_aload_n ok dX7_init_41 0 rfl ?_
  refine w_iload_n ok dX7_init_42 1 rfl ?_
  refine w_bipush (v := 8) ok dX7_init_43 (by decide) ?_
  refine w_minI ok dX7_init_45 (iT_1 46 (by decide +kernel) (by decide +kernel)) (Nat.le_of_ble_eq_true rfl) ?_
  refine w_putIF ok dX7_init_48 (ffX7_34 rfl rfl) (congrArg Prod.fst (sTb hk)) rfl (by omega) ?_
  have hZ10 : Zr (u2 (u2 I k 1 0) k 0 (minI a0 8)) J (u2 (S1_X7_init k a0 I J R) k 5 (some (k + 4))) (k + 5) := Zr.putI hZ9 (by omega)
  exact w_vret ok fin dX7_init_51 rfl Pd.i
set_option maxHeartbeats 1000000 in
set_option maxRecDepth 40000 in
theorem z_X7_init {k : Nat} (a0 : Int32) {I : SI} {J : SJ} {R : SR} (hk : IsTb k) (hZ : Zr I J R (k + 1)) : Zr (KI_X7_init k a0 I J R) (KJ_X7_init k a0 I J R) (KR_X7_init k a0 I J R) (k + 5) := by
  have hZ1 : Zr (u2 I k 1 0) J R (k + 1) := Zr.putI hZ (by omega)
  have hZ2 : Zr (u2 I k 1 0) J R (k + 2) := Zr.up hZ1
  have hZ3 : Zr (u2 I k 1 0) J (u2 R k 2 (some (k + 1))) (k + 2) := Zr.putR hZ2 (by omega)
  have hZ4 : Zr (u2 I k 1 0) J (u2 R k 2 (some (k + 1))) (k + 3) := Zr.up hZ3
  have hZ5 : Zr (u2 I k 1 0) J (u2 (u2 R k 2 (some (k + 1))) k 3 (some (k + 2))) (k + 3) := Zr.putR hZ4 (by omega)
  have hZ6 : Zr (u2 I k 1 0) J (u2 (u2 R k 2 (some (k + 1))) k 3 (some (k + 2))) (k + 4) := Zr.up hZ5
  have hZ7 : Zr (u2 I k 1 0) J (u2 (u2 (u2 R k 2 (some (k + 1))) k 3 (some (k + 2))) k 4 (some (k + 3))) (k + 4) := Zr.putR hZ6 (by omega)
  have hZ8 : Zr (u2 I k 1 0) J (S1_X7_init k a0 I J R) (k + 5) := Zr.up hZ7
  have hZ9 : Zr (u2 I k 1 0) J (u2 (S1_X7_init k a0 I J R) k 5 (some (k + 4))) (k + 5) := Zr.putR hZ8 (by omega)
  have hZ10 : Zr (u2 (u2 I k 1 0) k 0 (minI a0 8)) J (u2 (S1_X7_init k a0 I J R) k 5 (some (k + 4))) (k + 5) := Zr.putI hZ9 (by omega)
  exact hZ10
set_option maxHeartbeats 1000000 in
set_option maxRecDepth 40000 in
theorem kr_X7_init {k : Nat} {a0 : Int32} {I : SI} {J : SJ} {R : SR} {a b : Nat} (ha : a < k) : KR_X7_init k a0 I J R a b = R a b := by
  unfold KR_X7_init
  have h1 : a ≠ k := by omega
  simp (disch := omega) [u2, h1, S1_X7_init]
def S1_X5_init (k : Nat) (I : SI) (J : SJ) (R : SR) : SR := u2 (u2 (u2 R k 7 (some (k + 1))) k 8 (some (k + 2))) k 9 (some (k + 3))
def S2_X5_init (k : Nat) (I : SI) (J : SJ) (R : SR) : SR := u2 (u2 (u2 (S1_X5_init k I J R) k 10 (some (k + 4))) k 11 (some (k + 5))) k 12 (some (k + 6))
def KI_X5_init (k : Nat) (I : SI) (J : SJ) (R : SR) : SI := u2 (u2 (u2 (u2 (u2 (u2 I k 0 0) k 1 0) k 2 0) k 3 0) k 4 0) k 5 0
def KJ_X5_init (k : Nat) (I : SI) (J : SJ) (R : SR) : SJ := u2 J k 6 0
def KR_X5_init (k : Nat) (I : SI) (J : SJ) (R : SR) : SR := u2 (u2 (S2_X5_init k I J R) k 13 (some (k + 7))) k 14 (some (k + 8))
set_option maxHeartbeats 1000000 in
set_option maxRecDepth 40000 in
theorem k_X5_init {k : Nat} {I : SI} {J : SJ} {R : SR} (hk : IsSc k) (hZ : Zr I J R (k + 1)) : MM 1 8 92 mX5_init [.ref k] I J R (k + 1) 0 (Pd none (KI_X5_init k I J R) (KJ_X5_init k I J R) (KR_X5_init k I J R) (k + 9) 0) := by
  refine MM.of (by decide) (Nat.le_of_ble_eq_true rfl) fun K ok fin => ?_
  show WK K 0 0 0 [(0, .ref k)] [] I J R (k + 1) 0
  refine w_aload_n ok dX5_init_0 0 rfl ?_
  refine w_obj ok dX5_init_1 (iT_2 89 (by decide +kernel) (by decide +kernel)) (iT_1 32 (by decide +kernel) (by decide +kernel)) (iT_1 33 (by decide +kernel) (by decide +kernel)) (Nat.le_of_ble_eq_true rfl) ?_
  refine w_aload_n ok dX5_init_4 0 rfl ?_
  refine w_iconst (v := 0) ok dX5_init_5 (by decide) ?_
  refine w_putI ok dX5_init_6 (fwX5_9 rfl) (congrArg Prod.fst (sSc hk)) rfl (by omega) ?_
  have hZ1 : Zr (u2 I k 0 0) J R (k + 1) := Zr.putI hZ (by omega)
  refine w_aload_n ok dX5_init_9 0 rfl ?_
  refine w_iconst (v := 0) ok dX5_init_10 (by decide) ?_
  refine w_putI ok dX5_init_11 (fwX5_15 rfl) (congrArg Prod.fst (sSc hk)) rfl (by omega) ?_
  have hZ2 : Zr (u2 (u2 I k 0 0) k 1 0) J R (k + 1) := Zr.putI hZ1 (by omega)
  refine w_aload_n ok dX5_init_14 0 rfl ?_
  refine w_iconst (v := 0) ok dX5_init_15 (by decide) ?_
  refine w_putI ok dX5_init_16 (fwX5_18 rfl) (congrArg Prod.fst (sSc hk)) rfl (by omega) ?_
  have hZ3 : Zr (u2 (u2 (u2 I k 0 0) k 1 0) k 2 0) J R (k + 1) := Zr.putI hZ2 (by omega)
  refine w_aload_n ok dX5_init_19 0 rfl ?_
  refine w_iconst (v := 0) ok dX5_init_20 (by decide) ?_
  refine w_putI ok dX5_init_21 (fwX5_21 rfl) (congrArg Prod.fst (sSc hk)) rfl (by omega) ?_
  have hZ4 : Zr (u2 (u2 (u2 (u2 I k 0 0) k 1 0) k 2 0) k 3 0) J R (k + 1) := Zr.putI hZ3 (by omega)
  refine w_aload_n ok dX5_init_24 0 rfl ?_
  refine w_iconst (v := 0) ok dX5_init_25 (by decide) ?_
  refine w_putI ok dX5_init_26 (fwX5_24 rfl) (congrArg Prod.fst (sSc hk)) rfl (by omega) ?_
  have hZ5 : Zr (u2 (u2 (u2 (u2 (u2 I k 0 0) k 1 0) k 2 0) k 3 0) k 4 0) J R (k + 1) := Zr.putI hZ4 (by omega)
  refine w_aload_n ok dX5_init_29 0 rfl ?_
  refine w_iconst (v := 0) ok dX5_init_30 (by decide) ?_
  refine w_putI ok dX5_init_31 (fwX5_27 rfl) (congrArg Prod.fst (sSc hk)) rfl (by omega) ?_
  have hZ6 : Zr (u2 (u2 (u2 (u2 (u2 (u2 I k 0 0) k 1 0) k 2 0) k 3 0) k 4 0) k 5 0) J R (k + 1) := Zr.putI hZ5 (by omega)
  refine w_aload_n ok dX5_init_34 0 rfl ?_
  refine w_lconst (v := 0) ok dX5_init_35 (by decide) ?_
  refine w_putJ ok dX5_init_36 (fwX5_30 rfl) (congrArg Prod.fst (sSc hk)) rfl (by omega) ?_
  have hZ7 : Zr (u2 (u2 (u2 (u2 (u2 (u2 I k 0 0) k 1 0) k 2 0) k 3 0) k 4 0) k 5 0) (u2 J k 6 0) R (k + 1) := Zr.putJ hZ6 (by omega)
  refine w_aload_n ok dX5_init_39 0 rfl ?_
  refine w_bipush (v := 8) ok dX5_init_40 (by decide) ?_
  refine w_newI (len := 8) ok dX5_init_42 rfl (sSc_7 hk) (by decide) (by decide) (by decide) (iT_1 84 (by decide +kernel) (by decide +kernel)) hZ7 (cap_of fin (by decide) (by decide)) ?_
  have hZ8 : Zr (u2 (u2 (u2 (u2 (u2 (u2 I k 0 0) k 1 0) k 2 0) k 3 0) k 4 0) k 5 0) (u2 J k 6 0) R (k + 2) := Zr.up hZ7
  refine w_putRF ok dX5_init_44 (ffX5_34 rfl rfl) (congrArg Prod.fst (sSc hk)) rfl (by omega) ?_
  have hZ9 : Zr (u2 (u2 (u2 (u2 (u2 (u2 I k 0 0) k 1 0) k 2 0) k 3 0) k 4 0) k 5 0) (u2 J k 6 0) (u2 R k 7 (some (k + 1))) (k + 2) := Zr.putR hZ8 (by omega)
  refine w_aload_n ok dX5_init_47 0 rfl ?_
  refine w_bipush (v := 8) ok dX5_init_48 (by decide) ?_
  refine w_newI (len := 8) ok dX5_init_50 rfl (sSc_8 hk) (by decide) (by decide) (by decide) (iT_1 84 (by decide +kernel) (by decide +kernel)) hZ9 (cap_of fin (by decide) (by decide)) ?_
  have hZ10 : Zr (u2 (u2 (u2 (u2 (u2 (u2 I k 0 0) k 1 0) k 2 0) k 3 0) k 4 0) k 5 0) (u2 J k 6 0) (u2 R k 7 (some (k + 1))) (k + 3) := Zr.up hZ9
  refine w_putRF ok dX5_init_52 (ffX5_38 rfl rfl) (congrArg Prod.fst (sSc hk)) rfl (by omega) ?_
  have hZ11 : Zr (u2 (u2 (u2 (u2 (u2 (u2 I k 0 0) k 1 0) k 2 0) k 3 0) k 4 0) k 5 0) (u2 J k 6 0) (u2 (u2 R k 7 (some (k + 1))) k 8 (some (k + 2))) (k + 3) := Zr.putR hZ10 (by omega)
  refine w_aload_n ok dX5_init_55 0 rfl ?_
  refine w_bipush (v := 8) ok dX5_init_56 (by decide) ?_
  refine w_newI (len := 8) ok dX5_init_58 rfl (sSc_9 hk) (by decide) (by decide) (by decide) (iT_1 84 (by decide +kernel) (by decide +kernel)) hZ11 (cap_of fin (by decide) (by decide)) ?_
  have hZ12 : Zr (u2 (u2 (u2 (u2 (u2 (u2 I k 0 0) k 1 0) k 2 0) k 3 0) k 4 0) k 5 0) (u2 J k 6 0) (u2 (u2 R k 7 (some (k + 1))) k 8 (some (k + 2))) (k + 4) := Zr.up hZ11
  refine w_putRF ok dX5_init_60 (ffX5_41 rfl rfl) (congrArg Prod.fst (sSc hk)) rfl (by omega) ?_
  have hZ13 : Zr (u2 (u2 (u2 (u2 (u2 (u2 I k 0 0) k 1 0) k 2 0) k 3 0) k 4 0) k 5 0) (u2 J k 6 0) (u2 (u2 (u2 R k 7 (some (k + 1))) k 8 (some (k + 2))) k 9 (some (k + 3))) (k + 4) := Zr.putR hZ12 (by omega)
  show WK K 3 24 63 [(0, .ref k)] [] (u2 (u2 (u2 (u2 (u2 (u2 I k 0 0) k 1 0) k 2 0) k 3 0) k 4 0) k 5 0) (u2 J k 6 0) (S1_X5_init k I J R) (k + 4) 0
  refine w_aload_n ok dX5_init_63 0 rfl ?_
  refine w_bipush (v := 48) ok dX5_init_64 (by decide) ?_
  refine w_newI (len := 48) ok dX5_init_66 rfl (sSc_10 hk) (by decide) (by decide) (by decide) (iT_1 84 (by decide +kernel) (by decide +kernel)) hZ13 (cap_of fin (by decide) (by decide)) ?_
  have hZ14 : Zr (u2 (u2 (u2 (u2 (u2 (u2 I k 0 0) k 1 0) k 2 0) k 3 0) k 4 0) k 5 0) (u2 J k 6 0) (S1_X5_init k I J R) (k + 5) := Zr.up hZ13
  refine w_putRF ok dX5_init_68 (ffX5_44 rfl rfl) (congrArg Prod.fst (sSc hk)) rfl (by omega) ?_
  have hZ15 : Zr (u2 (u2 (u2 (u2 (u2 (u2 I k 0 0) k 1 0) k 2 0) k 3 0) k 4 0) k 5 0) (u2 J k 6 0) (u2 (S1_X5_init k I J R) k 10 (some (k + 4))) (k + 5) := Zr.putR hZ14 (by omega)
  refine w_aload_n ok dX5_init_71 0 rfl ?_
  refine w_bipush (v := 6) ok dX5_init_72 (by decide) ?_
  refine w_newI (len := 6) ok dX5_init_74 rfl (sSc_11 hk) (by decide) (by decide) (by decide) (iT_1 84 (by decide +kernel) (by decide +kernel)) hZ15 (cap_of fin (by decide) (by decide)) ?_
  have hZ16 : Zr (u2 (u2 (u2 (u2 (u2 (u2 I k 0 0) k 1 0) k 2 0) k 3 0) k 4 0) k 5 0) (u2 J k 6 0) (u2 (S1_X5_init k I J R) k 10 (some (k + 4))) (k + 6) := Zr.up hZ15
  refine w_putRF ok dX5_init_76 (ffX5_47 rfl rfl) (congrArg Prod.fst (sSc hk)) rfl (by omega) ?_
  have hZ17 : Zr (u2 (u2 (u2 (u2 (u2 (u2 I k 0 0) k 1 0) k 2 0) k 3 0) k 4 0) k 5 0) (u2 J k 6 0) (u2 (u2 (S1_X5_init k I J R) k 10 (some (k + 4))) k 11 (some (k + 5))) (k + 6) := Zr.putR hZ16 (by omega)
  refine w_aload_n ok dX5_init_79 0 rfl ?_
  refine w_bipush (v := 6) ok dX5_init_80 (by decide) ?_
  refine w_newI (len := 6) ok dX5_init_82 rfl (sSc_12 hk) (by decide) (by decide) (by decide) (iT_1 84 (by decide +kernel) (by decide +kernel)) hZ17 (cap_of fin (by decide) (by decide)) ?_
  have hZ18 : Zr (u2 (u2 (u2 (u2 (u2 (u2 I k 0 0) k 1 0) k 2 0) k 3 0) k 4 0) k 5 0) (u2 J k 6 0) (u2 (u2 (S1_X5_init k I J R) k 10 (some (k + 4))) k 11 (some (k + 5))) (k + 7) := Zr.up hZ17
  refine w_putRF ok dX5_init_84 (ffX5_50 rfl rfl) (congrArg Prod.fst (sSc hk)) rfl (by omega) ?_
  have hZ19 : Zr (u2 (u2 (u2 (u2 (u2 (u2 I k 0 0) k 1 0) k 2 0) k 3 0) k 4 0) k 5 0) (u2 J k 6 0) (u2 (u2 (u2 (S1_X5_init k I J R) k 10 (some (k + 4))) k 11 (some (k + 5))) k 12 (some (k + 6))) (k + 7) := Zr.putR hZ18 (by omega)
  show WK K 6 84 87 [(0, .ref k)] [] (u2 (u2 (u2 (u2 (u2 (u2 I k 0 0) k 1 0) k 2 0) k 3 0) k 4 0) k 5 0) (u2 J k 6 0) (S2_X5_init k I J R) (k + 7) 0
  refine w_aload_n ok dX5_init_87 0 rfl ?_
  refine w_iconst (v := 4) ok dX5_init_88 (by decide) ?_
  refine w_newI (len := 4) ok dX5_init_89 rfl (sSc_13 hk) (by decide) (by decide) (by decide) (iT_1 84 (by decide +kernel) (by decide +kernel)) hZ19 (cap_of fin (by decide) (by decide)) ?_
  have hZ20 : Zr (u2 (u2 (u2 (u2 (u2 (u2 I k 0 0) k 1 0) k 2 0) k 3 0) k 4 0) k 5 0) (u2 J k 6 0) (S2_X5_init k I J R) (k + 8) := Zr.up hZ19
  refine w_putRF ok dX5_init_91 (ffX5_53 rfl rfl) (congrArg Prod.fst (sSc hk)) rfl (by omega) ?_
  have hZ21 : Zr (u2 (u2 (u2 (u2 (u2 (u2 I k 0 0) k 1 0) k 2 0) k 3 0) k 4 0) k 5 0) (u2 J k 6 0) (u2 (S2_X5_init k I J R) k 13 (some (k + 7))) (k + 8) := Zr.putR hZ20 (by omega)
  refine w_aload_n ok dX5_init_94 0 rfl ?_
  refine w_iconst (v := 4) ok dX5_init_95 (by decide) ?_
  refine w_newI (len := 4) ok dX5_init_96 rfl (sSc_14 hk) (by decide) (by decide) (by decide) (iT_1 84 (by decide +kernel) (by decide +kernel)) hZ21 (cap_of fin (by decide) (by decide)) ?_
  have hZ22 : Zr (u2 (u2 (u2 (u2 (u2 (u2 I k 0 0) k 1 0) k 2 0) k 3 0) k 4 0) k 5 0) (u2 J k 6 0) (u2 (S2_X5_init k I J R) k 13 (some (k + 7))) (k + 9) := Zr.up hZ21
  refine w_putRF ok dX5_init_98 (ffX5_56 rfl rfl) (congrArg Prod.fst (sSc hk)) rfl (by omega) ?_
  have hZ23 : Zr (u2 (u2 (u2 (u2 (u2 (u2 I k 0 0) k 1 0) k 2 0) k 3 0) k 4 0) k 5 0) (u2 J k 6 0) (u2 (u2 (S2_X5_init k I J R) k 13 (some (k + 7))) k 14 (some (k + 8))) (k + 9) := Zr.putR hZ22 (by omega)
  exact w_vret ok fin dX5_init_101 rfl Pd.i
set_option maxHeartbeats 1000000 in
set_option maxRecDepth 40000 in
theorem z_X5_init {k : Nat} {I : SI} {J : SJ} {R : SR} (hk : IsSc k) (hZ : Zr I J R (k + 1)) : Zr (KI_X5_init k I J R) (KJ_X5_init k I J R) (KR_X5_init k I J R) (k + 9) := by
  have hZ1 : Zr (u2 I k 0 0) J R (k + 1) := Zr.putI hZ (by omega)
  have hZ2 : Zr (u2 (u2 I k 0 0) k 1 0) J R (k + 1) := Zr.putI hZ1 (by omega)
  have hZ3 : Zr (u2 (u2 (u2 I k 0 0) k 1 0) k 2 0) J R (k + 1) := Zr.putI hZ2 (by omega)
  have hZ4 : Zr (u2 (u2 (u2 (u2 I k 0 0) k 1 0) k 2 0) k 3 0) J R (k + 1) := Zr.putI hZ3 (by omega)
  have hZ5 : Zr (u2 (u2 (u2 (u2 (u2 I k 0 0) k 1 0) k 2 0) k 3 0) k 4 0) J R (k + 1) := Zr.putI hZ4 (by omega)
  have hZ6 : Zr (u2 (u2 (u2 (u2 (u2 (u2 I k 0 0) k 1 0) k 2 0) k 3 0) k 4 0) k 5 0) J R (k + 1) := Zr.putI hZ5 (by omega)
  have hZ7 : Zr (u2 (u2 (u2 (u2 (u2 (u2 I k 0 0) k 1 0) k 2 0) k 3 0) k 4 0) k 5 0) (u2 J k 6 0) R (k + 1) := Zr.putJ hZ6 (by omega)
  have hZ8 : Zr (u2 (u2 (u2 (u2 (u2 (u2 I k 0 0) k 1 0) k 2 0) k 3 0) k 4 0) k 5 0) (u2 J k 6 0) R (k + 2) := Zr.up hZ7
  have hZ9 : Zr (u2 (u2 (u2 (u2 (u2 (u2 I k 0 0) k 1 0) k 2 0) k 3 0) k 4 0) k 5 0) (u2 J k 6 0) (u2 R k 7 (some (k + 1))) (k + 2) := Zr.putR hZ8 (by omega)
  have hZ10 : Zr (u2 (u2 (u2 (u2 (u2 (u2 I k 0 0) k 1 0) k 2 0) k 3 0) k 4 0) k 5 0) (u2 J k 6 0) (u2 R k 7 (some (k + 1))) (k + 3) := Zr.up hZ9
  have hZ11 : Zr (u2 (u2 (u2 (u2 (u2 (u2 I k 0 0) k 1 0) k 2 0) k 3 0) k 4 0) k 5 0) (u2 J k 6 0) (u2 (u2 R k 7 (some (k + 1))) k 8 (some (k + 2))) (k + 3) := Zr.putR hZ10 (by omega)
  have hZ12 : Zr (u2 (u2 (u2 (u2 (u2 (u2 I k 0 0) k 1 0) k 2 0) k 3 0) k 4 0) k 5 0) (u2 J k 6 0) (u2 (u2 R k 7 (some (k + 1))) k 8 (some (k + 2))) (k + 4) := Zr.up hZ11
  have hZ13 : Zr (u2 (u2 (u2 (u2 (u2 (u2 I k 0 0) k 1 0) k 2 0) k 3 0) k 4 0) k 5 0) (u2 J k 6 0) (u2 (u2 (u2 R k 7 (some (k + 1))) k 8 (some (k + 2))) k 9 (some (k + 3))) (k + 4) := Zr.putR hZ12 (by omega)
  have hZ14 : Zr (u2 (u2 (u2 (u2 (u2 (u2 I k 0 0) k 1 0) k 2 0) k 3 0) k 4 0) k 5 0) (u2 J k 6 0) (S1_X5_init k I J R) (k + 5) := Zr.up hZ13
  have hZ15 : Zr (u2 (u2 (u2 (u2 (u2 (u2 I k 0 0) k 1 0) k 2 0) k 3 0) k 4 0) k 5 0) (u2 J k 6 0) (u2 (S1_X5_init k I J R) k 10 (some (k + 4))) (k + 5) := Zr.putR hZ14 (by omega)
  have hZ16 : Zr (u2 (u2 (u2 (u2 (u2 (u2 I k 0 0) k 1 0) k 2 0) k 3 0) k 4 0) k 5 0) (u2 J k 6 0) (u2 (S1_X5_init k I J R) k 10 (some (k + 4))) (k + 6) := Zr.up hZ15
  have hZ17 : Zr (u2 (u2 (u2 (u2 (u2 (u2 I k 0 0) k 1 0) k 2 0) k 3 0) k 4 0) k 5 0) (u2 J k 6 0) (u2 (u2 (S1_X5_init k I J R) k 10 (some (k + 4))) k 11 (some (k + 5))) (k + 6) := Zr.putR hZ16 (by omega)
  have hZ18 : Zr (u2 (u2 (u2 (u2 (u2 (u2 I k 0 0) k 1 0) k 2 0) k 3 0) k 4 0) k 5 0) (u2 J k 6 0) (u2 (u2 (S1_X5_init k I J R) k 10 (some (k + 4))) k 11 (some (k + 5))) (k + 7) := Zr.up hZ17
  have hZ19 : Zr (u2 (u2 (u2 (u2 (u2 (u2 I k 0 0) k 1 0) k 2 0) k 3 0) k 4 0) k 5 0) (u2 J k 6 0) (u2 (u2 (u2 (S1_X5_init k I J R) k 10 (some (k + 4))) k 11 (some (k + 5))) k 12 (some (k + 6))) (k + 7) := Zr.putR hZ18 (by omega)
  have hZ20 : Zr (u2 (u2 (u2 (u2 (u2 (u2 I k 0 0) k 1 0) k 2 0) k 3 0) k 4 0) k 5 0) (u2 J k 6 0) (S2_X5_init k I J R) (k + 8) := Zr.up hZ19
  have hZ21 : Zr (u2 (u2 (u2 (u2 (u2 (u2 I k 0 0) k 1 0) k 2 0) k 3 0) k 4 0) k 5 0) (u2 J k 6 0) (u2 (S2_X5_init k I J R) k 13 (some (k + 7))) (k + 8) := Zr.putR hZ20 (by omega)
  have hZ22 : Zr (u2 (u2 (u2 (u2 (u2 (u2 I k 0 0) k 1 0) k 2 0) k 3 0) k 4 0) k 5 0) (u2 J k 6 0) (u2 (S2_X5_init k I J R) k 13 (some (k + 7))) (k + 9) := Zr.up hZ21
  have hZ23 : Zr (u2 (u2 (u2 (u2 (u2 (u2 I k 0 0) k 1 0) k 2 0) k 3 0) k 4 0) k 5 0) (u2 J k 6 0) (u2 (u2 (S2_X5_init k I J R) k 13 (some (k + 7))) k 14 (some (k + 8))) (k + 9) := Zr.putR hZ22 (by omega)
  exact hZ23
set_option maxHeartbeats 1000000 in
set_option maxRecDepth 40000 in
theorem kr_X5_init {k : Nat} {I : SI} {J : SJ} {R : SR} {a b : Nat} (ha : a < k) : KR_X5_init k I J R a b = R a b := by
  unfold KR_X5_init
  have h1 : a ≠ k := by omega
  simp (disch := omega) [u2, h1, S1_X5_init, S2_X5_init]
def S1_X9_init (k : Nat) (I : SI) (J : SJ) (R : SR) : SI := (KI_X7_init (k + 6) 8 ((KI_X7_init (k + 1) 6 I J R)) ((KJ_X7_init (k + 1) 6 I J R)) (u2 ((KR_X7_init (k + 1) 6 I J R)) k 0 (some (k + 1))))
def S2_X9_init (k : Nat) (I : SI) (J : SJ) (R : SR) : SJ := (KJ_X7_init (k + 6) 8 ((KI_X7_init (k + 1) 6 I J R)) ((KJ_X7_init (k + 1) 6 I J R)) (u2 ((KR_X7_init (k + 1) 6 I J R)) k 0 (some (k + 1))))
def S3_X9_init (k : Nat) (I : SI) (J : SJ) (R : SR) : SR := (KR_X7_init (k + 6) 8 ((KI_X7_init (k + 1) 6 I J R)) ((KJ_X7_init (k + 1) 6 I J R)) (u2 ((KR_X7_init (k + 1) 6 I J R)) k 0 (some (k + 1))))
def S4_X9_init (k : Nat) (I : SI) (J : SJ) (R : SR) : SI := (KI_X7_init (k + 11) 4 (S1_X9_init k I J R) (S2_X9_init k I J R) (u2 (S3_X9_init k I J R) k 1 (some (k + 6))))
def S5_X9_init (k : Nat) (I : SI) (J : SJ) (R : SR) : SJ := (KJ_X7_init (k + 11) 4 (S1_X9_init k I J R) (S2_X9_init k I J R) (u2 (S3_X9_init k I J R) k 1 (some (k + 6))))
def S6_X9_init (k : Nat) (I : SI) (J : SJ) (R : SR) : SR := (KR_X7_init (k + 11) 4 (S1_X9_init k I J R) (S2_X9_init k I J R) (u2 (S3_X9_init k I J R) k 1 (some (k + 6))))
def S7_X9_init (k : Nat) (I : SI) (J : SJ) (R : SR) : SI := (KI_X7_init (k + 16) 4 (S4_X9_init k I J R) (S5_X9_init k I J R) (u2 (S6_X9_init k I J R) k 2 (some (k + 11))))
def S8_X9_init (k : Nat) (I : SI) (J : SJ) (R : SR) : SJ := (KJ_X7_init (k + 16) 4 (S4_X9_init k I J R) (S5_X9_init k I J R) (u2 (S6_X9_init k I J R) k 2 (some (k + 11))))
def S9_X9_init (k : Nat) (I : SI) (J : SJ) (R : SR) : SR := (KR_X7_init (k + 16) 4 (S4_X9_init k I J R) (S5_X9_init k I J R) (u2 (S6_X9_init k I J R) k 2 (some (k + 11))))
def S10_X9_init (k : Nat) (I : SI) (J : SJ) (R : SR) : SI := (KI_X7_init (k + 21) 3 (S7_X9_init k I J R) (S8_X9_init k I J R) (u2 (S9_X9_init k I J R) k 3 (some (k + 16))))
def S11_X9_init (k : Nat) (I : SI) (J : SJ) (R : SR) : SJ := (KJ_X7_init (k + 21) 3 (S7_X9_init k I J R) (S8_X9_init k I J R) (u2 (S9_X9_init k I J R) k 3 (some (k + 16))))
def S12_X9_init (k : Nat) (I : SI) (J : SJ) (R : SR) : SR := (KR_X7_init (k + 21) 3 (S7_X9_init k I J R) (S8_X9_init k I J R) (u2 (S9_X9_init k I J R) k 3 (some (k + 16))))
def S13_X9_init (k : Nat) (I : SI) (J : SJ) (R : SR) : SI := u2 (u2 (u2 (u2 (u2 (S10_X9_init k I J R) k 6 0) k 7 0) k 8 99) k 9 0) k 10 0
def S14_X9_init (k : Nat) (I : SI) (J : SJ) (R : SR) : SI := (KI_X1_init (k + 27) (u2 (S13_X9_init k I J R) k 11 0) (S11_X9_init k I J R) (u2 (u2 (S12_X9_init k I J R) k 4 (some (k + 21))) k 5 (some (k + 26))))
def S15_X9_init (k : Nat) (I : SI) (J : SJ) (R : SR) : SJ := (KJ_X1_init (k + 27) (u2 (S13_X9_init k I J R) k 11 0) (S11_X9_init k I J R) (u2 (u2 (S12_X9_init k I J R) k 4 (some (k + 21))) k 5 (some (k + 26))))
def S16_X9_init (k : Nat) (I : SI) (J : SJ) (R : SR) : SR := (KR_X1_init (k + 27) (u2 (S13_X9_init k I J R) k 11 0) (S11_X9_init k I J R) (u2 (u2 (S12_X9_init k I J R) k 4 (some (k + 21))) k 5 (some (k + 26))))
def S17_X9_init (k : Nat) (I : SI) (J : SJ) (R : SR) : SI := (KI_X1_init (k + 31) (S14_X9_init k I J R) (S15_X9_init k I J R) (u2 (S16_X9_init k I J R) k 12 (some (k + 27))))
def S18_X9_init (k : Nat) (I : SI) (J : SJ) (R : SR) : SJ := (KJ_X1_init (k + 31) (S14_X9_init k I J R) (S15_X9_init k I J R) (u2 (S16_X9_init k I J R) k 12 (some (k + 27))))
def S19_X9_init (k : Nat) (I : SI) (J : SJ) (R : SR) : SR := (KR_X1_init (k + 31) (S14_X9_init k I J R) (S15_X9_init k I J R) (u2 (S16_X9_init k I J R) k 12 (some (k + 27))))
def S20_X9_init (k : Nat) (I : SI) (J : SJ) (R : SR) : SI := (KI_X1_init (k + 35) (S17_X9_init k I J R) (S18_X9_init k I J R) (u2 (S19_X9_init k I J R) k 13 (some (k + 31))))
def S21_X9_init (k : Nat) (I : SI) (J : SJ) (R : SR) : SJ := (KJ_X1_init (k + 35) (S17_X9_init k I J R) (S18_X9_init k I J R) (u2 (S19_X9_init k I J R) k 13 (some (k + 31))))
def S22_X9_init (k : Nat) (I : SI) (J : SJ) (R : SR) : SR := (KR_X1_init (k + 35) (S17_X9_init k I J R) (S18_X9_init k I J R) (u2 (S19_X9_init k I J R) k 13 (some (k + 31))))
def KI_X9_init (k : Nat) (I : SI) (J : SJ) (R : SR) : SI := fillF (S20_X9_init k I J R) (k + 26) (-1) 48
def KJ_X9_init (k : Nat) (I : SI) (J : SJ) (R : SR) : SJ := (S21_X9_init k I J R)
def KR_X9_init (k : Nat) (I : SI) (J : SJ) (R : SR) : SR := u2 (S22_X9_init k I J R) k 14 (some (k + 35))
set_option maxHeartbeats 1000000 in
set_option maxRecDepth 40000 in
theorem k_X9_init {k : Nat} {I : SI} {J : SJ} {R : SR} (hk : IsTo k) (hZ : Zr I J R (k + 1)) : MM 2 38 829 mX9_init [.ref k] I J R (k + 1) 0 (Pd none (KI_X9_init k I J R) (KJ_X9_init k I J R) (KR_X9_init k I J R) (k + 39) 0) := by
  refine MM.of (by decide) (Nat.le_of_ble_eq_true rfl) fun K ok fin => ?_
  show WK K 0 0 0 [(0, .ref k)] [] I J R (k + 1) 0
  refine w_aload_n ok dX9_init_0 0 rfl ?_
  refine w_obj ok dX9_init_1 (iT_1 39 (by decide +kernel) (by decide +kernel)) (iT_1 32 (by decide +kernel) (by decide +kernel)) (iT_1 33 (by decide +kernel) (by decide +kernel)) (Nat.le_of_ble_eq_true rfl) ?_
  refine w_aload_n ok dX9_init_4 0 rfl ?_
  refine w_new (ci := 7) (N := 6) ok dX9_init_5 rfl cls7 (sTb (iTo_0 hk)) (by decide) (iT_1 40 (by decide +kernel) (by decide +kernel)) (iT_1 41 (by decide +kernel) (by decide +kernel)) (iT_1 3 (by decide +kernel) (by decide +kernel)) hZ (cap_of fin (by decide) (by decide)) ?_
  have hZ1 : Zr I J R (k + 2) := Zr.up hZ
  refine w_dup ok dX9_init_8 rfl ?_
  refine w_bipush (v := 6) ok dX9_init_9 (by decide) ?_
  refine w_cI (As := [.int 6]) (mc := 4) (ms := 32) ok dX9_init_11 iX7_init (lX9_11 rfl) (k_X7_init (k := k + 1) 6 (iTo_0 hk) hZ1) (by decide) rfl (Nat.le_of_ble_eq_true rfl) (cap_of fin (by decide) (by decide)) ?_
  have hZ2 : Zr ((KI_X7_init (k + 1) 6 I J R)) ((KJ_X7_init (k + 1) 6 I J R)) ((KR_X7_init (k + 1) 6 I J R)) (k + 6) := z_X7_init (k := k + 1) 6 (iTo_0 hk) hZ1
  refine w_putRF ok dX9_init_14 (ffX9_14 rfl rfl) (congrArg Prod.fst (sTo hk)) rfl (by omega) ?_
  have hZ3 : Zr ((KI_X7_init (k + 1) 6 I J R)) ((KJ_X7_init (k + 1) 6 I J R)) (u2 ((KR_X7_init (k + 1) 6 I J R)) k 0 (some (k + 1))) (k + 6) := Zr.putR hZ2 (by omega)
  refine w_aload_n ok dX9_init_17 0 rfl ?_
  refine w_new (ci := 7) (N := 6) ok dX9_init_18 rfl cls7 (sTb (iTo_1 hk)) (by decide) (iT_1 40 (by decide +kernel) (by decide +kernel)) (iT_1 41 (by decide +kernel) (by decide +kernel)) (iT_1 3 (by decide +kernel) (by decide +kernel)) hZ3 (cap_of fin (by decide) (by decide)) ?_
  have hZ4 : Zr ((KI_X7_init (k + 1) 6 I J R)) ((KJ_X7_init (k + 1) 6 I J R)) (u2 ((KR_X7_init (k + 1) 6 I J R)) k 0 (some (k + 1))) (k + 7) := Zr.up hZ3
  refine w_dup ok dX9_init_21 rfl ?_
  refine w_bipush (v := 8) ok dX9_init_22 (by decide) ?_
  refine w_cI (As := [.int 8]) (mc := 4) (ms := 32) ok dX9_init_24 iX7_init (lX9_11 rfl) (k_X7_init (k := k + 6) 8 (iTo_1 hk) hZ4) (by decide) rfl (Nat.le_of_ble_eq_true rfl) (cap_of fin (by decide) (by decide)) ?_
  have hZ5 : Zr ((KI_X7_init (k + 6) 8 ((KI_X7_init (k + 1) 6 I J R)) ((KJ_X7_init (k + 1) 6 I J R)) (u2 ((KR_X7_init (k + 1) 6 I J R)) k 0 (some (k + 1))))) ((KJ_X7_init (k + 6) 8 ((KI_X7_init (k + 1) 6 I J R)) ((KJ_X7_init (k + 1) 6 I J R)) (u2 ((KR_X7_init (k + 1) 6 I J R)) k 0 (some (k + 1))))) ((KR_X7_init (k + 6) 8 ((KI_X7_init (k + 1) 6 I J R)) ((KJ_X7_init (k + 1) 6 I J R)) (u2 ((KR_X7_init (k + 1) 6 I J R)) k 0 (some (k + 1))))) (k + 11) := z_X7_init (k := k + 6) 8 (iTo_1 hk) hZ4
  show WK K 10 76 27 [(0, .ref k)] [.ref (k + 6), .ref k] (S1_X9_init k I J R) (S2_X9_init k I J R) (S3_X9_init k I J R) (k + 11) 0
  refine w_putRF ok dX9_init_27 (ffX9_20 rfl rfl) (congrArg Prod.fst (sTo hk)) rfl (by omega) ?_
  have hZ6 : Zr (S1_X9_init k I J R) (S2_X9_init k I J R) (u2 (S3_X9_init k I J R) k 1 (some (k + 6))) (k + 11) := Zr.putR hZ5 (by omega)
  refine w_aload_n ok dX9_init_30 0 rfl ?_
  refine w_new (ci := 7) (N := 6) ok dX9_init_31 rfl cls7 (sTb (iTo_2 hk)) (by decide) (iT_1 40 (by decide +kernel) (by decide +kernel)) (iT_1 41 (by decide +kernel) (by decide +kernel)) (iT_1 3 (by decide +kernel) (by decide +kernel)) hZ6 (cap_of fin (by decide) (by decide)) ?_
  have hZ7 : Zr (S1_X9_init k I J R) (S2_X9_init k I J R) (u2 (S3_X9_init k I J R) k 1 (some (k + 6))) (k + 12) := Zr.up hZ6
  refine w_dup ok dX9_init_34 rfl ?_
  refine w_iconst (v := 4) ok dX9_init_35 (by decide) ?_
  refine w_cI (As := [.int 4]) (mc := 4) (ms := 32) ok dX9_init_36 iX7_init (lX9_11 rfl) (k_X7_init (k := k + 11) 4 (iTo_2 hk) hZ7) (by decide) rfl (Nat.le_of_ble_eq_true rfl) (cap_of fin (by decide) (by decide)) ?_
  have hZ8 : Zr ((KI_X7_init (k + 11) 4 (S1_X9_init k I J R) (S2_X9_init k I J R) (u2 (S3_X9_init k I J R) k 1 (some (k + 6))))) ((KJ_X7_init (k + 11) 4 (S1_X9_init k I J R) (S2_X9_init k I J R) (u2 (S3_X9_init k I J R) k 1 (some (k + 6))))) ((KR_X7_init (k + 11) 4 (S1_X9_init k I J R) (S2_X9_init k I J R) (u2 (S3_X9_init k I J R) k 1 (some (k + 6))))) (k + 16) := z_X7_init (k := k + 11) 4 (iTo_2 hk) hZ7
  show WK K 15 114 39 [(0, .ref k)] [.ref (k + 11), .ref k] (S4_X9_init k I J R) (S5_X9_init k I J R) (S6_X9_init k I J R) (k + 16) 0
  refine w_putRF ok dX9_init_39 (ffX9_23 rfl rfl) (congrArg Prod.fst (sTo hk)) rfl (by omega) ?_
  have hZ9 : Zr (S4_X9_init k I J R) (S5_X9_init k I J R) (u2 (S6_X9_init k I J R) k 2 (some (k + 11))) (k + 16) := Zr.putR hZ8 (by omega)
  refine w_aload_n ok dX9_init_42 0 rfl ?_
  refine w_new (ci := 7) (N := 6) ok dX9_init_43 rfl cls7 (sTb (iTo_3 hk)) (by decide) (iT_1 40 (by decide +kernel) (by decide +kernel)) (iT_1 41 (by decide +kernel) (by decide +kernel)) (iT_1 3 (by decide +kernel) (by decide +kernel)) hZ9 (cap_of fin (by decide) (by decide)) ?_
  have hZ10 : Zr (S4_X9_init k I J R) (S5_X9_init k I J R) (u2 (S6_X9_init k I J R) k 2 (some (k + 11))) (k + 17) := Zr.up hZ9
  refine w_dup ok dX9_init_46 rfl ?_
  refine w_iconst (v := 4) ok dX9_init_47 (by decide) ?_
  refine w_cI (As := [.int 4]) (mc := 4) (ms := 32) ok dX9_init_48 iX7_init (lX9_11 rfl) (k_X7_init (k := k + 16) 4 (iTo_3 hk) hZ10) (by decide) rfl (Nat.le_of_ble_eq_true rfl) (cap_of fin (by decide) (by decide)) ?_
  have hZ11 : Zr ((KI_X7_init (k + 16) 4 (S4_X9_init k I J R) (S5_X9_init k I J R) (u2 (S6_X9_init k I J R) k 2 (some (k + 11))))) ((KJ_X7_init (k + 16) 4 (S4_X9_init k I J R) (S5_X9_init k I J R) (u2 (S6_X9_init k I J R) k 2 (some (k + 11))))) ((KR_X7_init (k + 16) 4 (S4_X9_init k I J R) (S5_X9_init k I J R) (u2 (S6_X9_init k I J R) k 2 (some (k + 11))))) (k + 21) := z_X7_init (k := k + 16) 4 (iTo_3 hk) hZ10
  show WK K 20 152 51 [(0, .ref k)] [.ref (k + 16), .ref k] (S7_X9_init k I J R) (S8_X9_init k I J R) (S9_X9_init k I J R) (k + 21) 0
  refine w_putRF ok dX9_init_51 (ffX9_26 rfl rfl) (congrArg Prod.fst (sTo hk)) rfl (by omega) ?_
  have hZ12 : Zr (S7_X9_init k I J R) (S8_X9_init k I J R) (u2 (S9_X9_init k I J R) k 3 (some (k + 16))) (k + 21) := Zr.putR hZ11 (by omega)
  refine w_aload_n ok dX9_init_54 0 rfl ?_
  refine w_new (ci := 7) (N := 6) ok dX9_init_55 rfl cls7 (sTb (iTo_4 hk)) (by decide) (iT_1 40 (by decide +kernel) (by decide +kernel)) (iT_1 41 (by decide +kernel) (by decide +kernel)) (iT_1 3 (by decide +kernel) (by decide +kernel)) hZ12 (cap_of fin (by decide) (by decide)) ?_
  have hZ13 : Zr (S7_X9_init k I J R) (S8_X9_init k I J R) (u2 (S9_X9_init k I J R) k 3 (some (k + 16))) (k + 22) := Zr.up hZ12
  refine w_dup ok dX9_init_58 rfl ?_
  refine w_iconst (v := 3) ok dX9_init_59 (by decide) ?_
  refine w_cI (As := [.int 3]) (mc := 4) (ms := 32) ok dX9_init_60 iX7_init (lX9_11 rfl) (k_X7_init (k := k + 21) 3 (iTo_4 hk) hZ13) (by decide) rfl (Nat.le_of_ble_eq_true rfl) (cap_of fin (by decide) (by decide)) ?_
  have hZ14 : Zr ((KI_X7_init (k + 21) 3 (S7_X9_init k I J R) (S8_X9_init k I J R) (u2 (S9_X9_init k I J R) k 3 (some (k + 16))))) ((KJ_X7_init (k + 21) 3 (S7_X9_init k I J R) (S8_X9_init k I J R) (u2 (S9_X9_init k I J R) k 3 (some (k + 16))))) ((KR_X7_init (k + 21) 3 (S7_X9_init k I J R) (S8_X9_init k I J R) (u2 (S9_X9_init k I J R) k 3 (some (k + 16))))) (k + 26) := z_X7_init (k := k + 21) 3 (iTo_4 hk) hZ13
  show WK K 25 190 63 [(0, .ref k)] [.ref (k + 21), .ref k] (S10_X9_init k I J R) (S11_X9_init k I J R) (S12_X9_init k I J R) (k + 26) 0
  refine w_putRF ok dX9_init_63 (ffX9_29 rfl rfl) (congrArg Prod.fst (sTo hk)) rfl (by omega) ?_
  have hZ15 : Zr (S10_X9_init k I J R) (S11_X9_init k I J R) (u2 (S12_X9_init k I J R) k 4 (some (k + 21))) (k + 26) := Zr.putR hZ14 (by omega)
  refine w_aload_n ok dX9_init_66 0 rfl ?_
  refine w_bipush (v := 48) ok dX9_init_67 (by decide) ?_
  refine w_newI (len := 48) ok dX9_init_69 rfl (sTo_5 hk) (by decide) (by decide) (by decide) (iT_1 84 (by decide +kernel) (by decide +kernel)) hZ15 (cap_of fin (by decide) (by decide)) ?_
  have hZ16 : Zr (S10_X9_init k I J R) (S11_X9_init k I J R) (u2 (S12_X9_init k I J R) k 4 (some (k + 21))) (k + 27) := Zr.up hZ15
  refine w_putRF ok dX9_init_71 (ffX9_32 rfl rfl) (congrArg Prod.fst (sTo hk)) rfl (by omega) ?_
  have hZ17 : Zr (S10_X9_init k I J R) (S11_X9_init k I J R) (u2 (u2 (S12_X9_init k I J R) k 4 (some (k + 21))) k 5 (some (k + 26))) (k + 27) := Zr.putR hZ16 (by omega)
  refine w_aload_n ok dX9_init_74 0 rfl ?_
  refine w_iconst (v := 0) ok dX9_init_75 (by decide) ?_
  refine w_putI ok dX9_init_76 (fwX9_36 rfl) (congrArg Prod.fst (sTo hk)) rfl (by omega) ?_
  have hZ18 : Zr (u2 (S10_X9_init k I J R) k 6 0) (S11_X9_init k I J R) (u2 (u2 (S12_X9_init k I J R) k 4 (some (k + 21))) k 5 (some (k + 26))) (k + 27) := Zr.putI hZ17 (by omega)
  refine w_aload_n ok dX9_init_79 0 rfl ?_
  refine w_iconst (v := 0) ok dX9_init_80 (by decide) ?_
  refine w_putI ok dX9_init_81 (fwX9_40 rfl) (congrArg Prod.fst (sTo hk)) rfl (by omega) ?_
  have hZ19 : Zr (u2 (u2 (S10_X9_init k I J R) k 6 0) k 7 0) (S11_X9_init k I J R) (u2 (u2 (S12_X9_init k I J R) k 4 (some (k + 21))) k 5 (some (k + 26))) (k + 27) := Zr.putI hZ18 (by omega)
  refine w_aload_n ok dX9_init_84 0 rfl ?_
  refine w_bipush (v := 99) ok dX9_init_85 (by decide) ?_
  refine w_putI ok dX9_init_87 (fwX9_43 rfl) (congrArg Prod.fst (sTo hk)) rfl (by omega) ?_
  have hZ20 : Zr (u2 (u2 (u2 (S10_X9_init k I J R) k 6 0) k 7 0) k 8 99) (S11_X9_init k I J R) (u2 (u2 (S12_X9_init k I J R) k 4 (some (k + 21))) k 5 (some (k + 26))) (k + 27) := Zr.putI hZ19 (by omega)
  refine w_aload_n ok dX9_init_90 0 rfl ?_
  refine w_iconst (v := 0) ok dX9_init_91 (by decide) ?_
  refine w_putI ok dX9_init_92 (fwX9_46 rfl) (congrArg Prod.fst (sTo hk)) rfl (by omega) ?_
  have hZ21 : Zr (u2 (u2 (u2 (u2 (S10_X9_init k I J R) k 6 0) k 7 0) k 8 99) k 9 0) (S11_X9_init k I J R) (u2 (u2 (S12_X9_init k I J R) k 4 (some (k + 21))) k 5 (some (k + 26))) (k + 27) := Zr.putI hZ20 (by omega)
  refine w_aload_n ok dX9_init_95 0 rfl ?_
  refine w_iconst (v := 0) ok dX9_init_96 (by decide) ?_
  refine w_putI ok dX9_init_97 (fwX9_49 rfl) (congrArg Prod.fst (sTo hk)) rfl (by omega) ?_
  have hZ22 : Zr (u2 (u2 (u2 (u2 (u2 (S10_X9_init k I J R) k 6 0) k 7 0) k 8 99) k 9 0) k 10 0) (S11_X9_init k I J R) (u2 (u2 (S12_X9_init k I J R) k 4 (some (k + 21))) k 5 (some (k + 26))) (k + 27) := Zr.putI hZ21 (by omega)
  show WK K 26 238 100 [(0, .ref k)] [] (S13_X9_init k I J R) (S11_X9_init k I J R) (u2 (u2 (S12_X9_init k I J R) k 4 (some (k + 21))) k 5 (some (k + 26))) (k + 27) 0
  refine w_aload_n ok dX9_init_100 0 rfl ?_
  refine w_iconst (v := 0) ok dX9_init_101 (by decide) ?_
  refine w_putI ok dX9_init_102 (fwX9_52 rfl) (congrArg Prod.fst (sTo hk)) rfl (by omega) ?_
  have hZ23 : Zr (u2 (S13_X9_init k I J R) k 11 0) (S11_X9_init k I J R) (u2 (u2 (S12_X9_init k I J R) k 4 (some (k + 21))) k 5 (some (k + 26))) (k + 27) := Zr.putI hZ22 (by omega)
  refine w_aload_n ok dX9_init_105 0 rfl ?_
  refine w_new (ci := 1) (N := 5) ok dX9_init_106 rfl cls1 (sLw (iTo_12 hk)) (by decide) (iT_1 85 (by decide +kernel) (by decide +kernel)) (iT_1 86 (by decide +kernel) (by decide +kernel)) (iT_1 5 (by decide +kernel) (by decide +kernel)) hZ23 (cap_of fin (by decide) (by decide)) ?_
  have hZ24 : Zr (u2 (S13_X9_init k I J R) k 11 0) (S11_X9_init k I J R) (u2 (u2 (S12_X9_init k I J R) k 4 (some (k + 21))) k 5 (some (k + 26))) (k + 28) := Zr.up hZ23
  refine w_dup ok dX9_init_109 rfl ?_
  refine w_cI (As := []) (mc := 3) (ms := 192) ok dX9_init_110 iX1_init (lX9_57 rfl) (k_X1_init (k := k + 27)  (iTo_12 hk) hZ24) (by decide) rfl (Nat.le_of_ble_eq_true rfl) (cap_of fin (by decide) (by decide)) ?_
  have hZ25 : Zr ((KI_X1_init (k + 27) (u2 (S13_X9_init k I J R) k 11 0) (S11_X9_init k I J R) (u2 (u2 (S12_X9_init k I J R) k 4 (some (k + 21))) k 5 (some (k + 26))))) ((KJ_X1_init (k + 27) (u2 (S13_X9_init k I J R) k 11 0) (S11_X9_init k I J R) (u2 (u2 (S12_X9_init k I J R) k 4 (some (k + 21))) k 5 (some (k + 26))))) ((KR_X1_init (k + 27) (u2 (S13_X9_init k I J R) k 11 0) (S11_X9_init k I J R) (u2 (u2 (S12_X9_init k I J R) k 4 (some (k + 21))) k 5 (some (k + 26))))) (k + 31) := z_X1_init (k := k + 27)  (iTo_12 hk) hZ24
  show WK K 30 435 113 [(0, .ref k)] [.ref (k + 27), .ref k] (S14_X9_init k I J R) (S15_X9_init k I J R) (S16_X9_init k I J R) (k + 31) 0
  refine w_putRF ok dX9_init_113 (ffX9_58 rfl rfl) (congrArg Prod.fst (sTo hk)) rfl (by omega) ?_
  have hZ26 : Zr (S14_X9_init k I J R) (S15_X9_init k I J R) (u2 (S16_X9_init k I J R) k 12 (some (k + 27))) (k + 31) := Zr.putR hZ25 (by omega)
  refine w_aload_n ok dX9_init_116 0 rfl ?_
  refine w_new (ci := 1) (N := 5) ok dX9_init_117 rfl cls1 (sLw (iTo_13 hk)) (by decide) (iT_1 85 (by decide +kernel) (by decide +kernel)) (iT_1 86 (by decide +kernel) (by decide +kernel)) (iT_1 5 (by decide +kernel) (by decide +kernel)) hZ26 (cap_of fin (by decide) (by decide)) ?_
  have hZ27 : Zr (S14_X9_init k I J R) (S15_X9_init k I J R) (u2 (S16_X9_init k I J R) k 12 (some (k + 27))) (k + 32) := Zr.up hZ26
  refine w_dup ok dX9_init_120 rfl ?_
  refine w_cI (As := []) (mc := 3) (ms := 192) ok dX9_init_121 iX1_init (lX9_57 rfl) (k_X1_init (k := k + 31)  (iTo_13 hk) hZ27) (by decide) rfl (Nat.le_of_ble_eq_true rfl) (cap_of fin (by decide) (by decide)) ?_
  have hZ28 : Zr ((KI_X1_init (k + 31) (S14_X9_init k I J R) (S15_X9_init k I J R) (u2 (S16_X9_init k I J R) k 12 (some (k + 27))))) ((KJ_X1_init (k + 31) (S14_X9_init k I J R) (S15_X9_init k I J R) (u2 (S16_X9_init k I J R) k 12 (some (k + 27))))) ((KR_X1_init (k + 31) (S14_X9_init k I J R) (S15_X9_init k I J R) (u2 (S16_X9_init k I J R) k 12 (some (k + 27))))) (k + 35) := z_X1_init (k := k + 31)  (iTo_13 hk) hZ27
  show WK K 34 632 124 [(0, .ref k)] [.ref (k + 31), .ref k] (S17_X9_init k I J R) (S18_X9_init k I J R) (S19_X9_init k I J R) (k + 35) 0
  refine w_putRF ok dX9_init_124 (ffX9_62 rfl rfl) (congrArg Prod.fst (sTo hk)) rfl (by omega) ?_
  have hZ29 : Zr (S17_X9_init k I J R) (S18_X9_init k I J R) (u2 (S19_X9_init k I J R) k 13 (some (k + 31))) (k + 35) := Zr.putR hZ28 (by omega)
  refine w_aload_n ok dX9_init_127 0 rfl ?_
  refine w_new (ci := 1) (N := 5) ok dX9_init_128 rfl cls1 (sLw (iTo_14 hk)) (by decide) (iT_1 85 (by decide +kernel) (by decide +kernel)) (iT_1 86 (by decide +kernel) (by decide +kernel)) (iT_1 5 (by decide +kernel) (by decide +kernel)) hZ29 (cap_of fin (by decide) (by decide)) ?_
  have hZ30 : Zr (S17_X9_init k I J R) (S18_X9_init k I J R) (u2 (S19_X9_init k I J R) k 13 (some (k + 31))) (k + 36) := Zr.up hZ29
  refine w_dup ok dX9_init_131 rfl ?_
  refine w_cI (As := []) (mc := 3) (ms := 192) ok dX9_init_132 iX1_init (lX9_57 rfl) (k_X1_init (k := k + 35)  (iTo_14 hk) hZ30) (by decide) rfl (Nat.le_of_ble_eq_true rfl) (cap_of fin (by decide) (by decide)) ?_
  have hZ31 : Zr ((KI_X1_init (k + 35) (S17_X9_init k I J R) (S18_X9_init k I J R) (u2 (S19_X9_init k I J R) k 13 (some (k + 31))))) ((KJ_X1_init (k + 35) (S17_X9_init k I J R) (S18_X9_init k I J R) (u2 (S19_X9_init k I J R) k 13 (some (k + 31))))) ((KR_X1_init (k + 35) (S17_X9_init k I J R) (S18_X9_init k I J R) (u2 (S19_X9_init k I J R) k 13 (some (k + 31))))) (k + 39) := z_X1_init (k := k + 35)  (iTo_14 hk) hZ30
  show WK K 38 829 135 [(0, .ref k)] [.ref (k + 35), .ref k] (S20_X9_init k I J R) (S21_X9_init k I J R) (S22_X9_init k I J R) (k + 39) 0
  refine w_putRF ok dX9_init_135 (ffX9_65 rfl rfl) (congrArg Prod.fst (sTo hk)) rfl (by omega) ?_
  have hZ32 : Zr (S20_X9_init k I J R) (S21_X9_init k I J R) (u2 (S22_X9_init k I J R) k 14 (some (k + 35))) (k + 39) := Zr.putR hZ31 (by omega)
  refine w_aload_n ok dX9_init_138 0 rfl ?_
  refine w_getR (r := k + 26) ok dX9_init_139 (fX9_32 rfl) (congrArg Prod.fst (sTo hk)) rfl (by simp (disch := omega) [u2, S11_X9_init, S12_X9_init, S13_X9_init, S14_X9_init, S15_X9_init, S16_X9_init, S17_X9_init, S18_X9_init, S19_X9_init, S1_X9_init, S22_X9_init, S2_X9_init, S3_X9_init, S4_X9_init, S5_X9_init, S6_X9_init, S7_X9_init, S8_X9_init, S9_X9_init, kr_X1_init, kr_X7_init]) (by omega) ?_
  refine w_iconst (v := (-1)) ok dX9_init_142 (by decide) ?_
  refine w_cS (As := [.ref (k + 26), .int (-1)]) ok dX9_init_143 iX11_fill (lX9_68 rfl) (c_fill0 (sTo_5 hk) (by omega) (-1)) (by decide) rfl (Nat.le_of_ble_eq_true rfl) ?_
  have hZ33 : Zr (fillF (S20_X9_init k I J R) (k + 26) (-1) 48) (S21_X9_init k I J R) (u2 (S22_X9_init k I J R) k 14 (some (k + 35))) (k + 39) := Zr.fill hZ32 (by omega)
  exact w_vret ok fin dX9_init_146 rfl Pd.i
set_option maxHeartbeats 1000000 in
set_option maxRecDepth 40000 in
theorem z_X9_init {k : Nat} {I : SI} {J : SJ} {R : SR} (hk : IsTo k) (hZ : Zr I J R (k + 1)) : Zr (KI_X9_init k I J R) (KJ_X9_init k I J R) (KR_X9_init k I J R) (k + 39) := by
  have hZ1 : Zr I J R (k + 2) := Zr.up hZ
  have hZ2 : Zr ((KI_X7_init (k + 1) 6 I J R)) ((KJ_X7_init (k + 1) 6 I J R)) ((KR_X7_init (k + 1) 6 I J R)) (k + 6) := z_X7_init (k := k + 1) 6 (iTo_0 hk) hZ1
  have hZ3 : Zr ((KI_X7_init (k + 1) 6 I J R)) ((KJ_X7_init (k + 1) 6 I J R)) (u2 ((KR_X7_init (k + 1) 6 I J R)) k 0 (some (k + 1))) (k + 6) := Zr.putR hZ2 (by omega)
  have hZ4 : Zr ((KI_X7_init (k + 1) 6 I J R)) ((KJ_X7_init (k + 1) 6 I J R)) (u2 ((KR_X7_init (k + 1) 6 I J R)) k 0 (some (k + 1))) (k + 7) := Zr.up hZ3
  have hZ5 : Zr ((KI_X7_init (k + 6) 8 ((KI_X7_init (k + 1) 6 I J R)) ((KJ_X7_init (k + 1) 6 I J R)) (u2 ((KR_X7_init (k + 1) 6 I J R)) k 0 (some (k + 1))))) ((KJ_X7_init (k + 6) 8 ((KI_X7_init (k + 1) 6 I J R)) ((KJ_X7_init (k + 1) 6 I J R)) (u2 ((KR_X7_init (k + 1) 6 I J R)) k 0 (some (k + 1))))) ((KR_X7_init (k + 6) 8 ((KI_X7_init (k + 1) 6 I J R)) ((KJ_X7_init (k + 1) 6 I J R)) (u2 ((KR_X7_init (k + 1) 6 I J R)) k 0 (some (k + 1))))) (k + 11) := z_X7_init (k := k + 6) 8 (iTo_1 hk) hZ4
  have hZ6 : Zr (S1_X9_init k I J R) (S2_X9_init k I J R) (u2 (S3_X9_init k I J R) k 1 (some (k + 6))) (k + 11) := Zr.putR hZ5 (by omega)
  have hZ7 : Zr (S1_X9_init k I J R) (S2_X9_init k I J R) (u2 (S3_X9_init k I J R) k 1 (some (k + 6))) (k + 12) := Zr.up hZ6
  have hZ8 : Zr ((KI_X7_init (k + 11) 4 (S1_X9_init k I J R) (S2_X9_init k I J R) (u2 (S3_X9_init k I J R) k 1 (some (k + 6))))) ((KJ_X7_init (k + 11) 4 (S1_X9_init k I J R) (S2_X9_init k I J R) (u2 (S3_X9_init k I J R) k 1 (some (k + 6))))) ((KR_X7_init (k + 11) 4 (S1_X9_init k I J R) (S2_X9_init k I J R) (u2 (S3_X9_init k I J R) k 1 (some (k + 6))))) (k + 16) := z_X7_init (k := k + 11) 4 (iTo_2 hk) hZ7
  have hZ9 : Zr (S4_X9_init k I J R) (S5_X9_init k I J R) (u2 (S6_X9_init k I J R) k 2 (some (k + 11))) (k + 16) := Zr.putR hZ8 (by omega)
  have hZ10 : Zr (S4_X9_init k I J R) (S5_X9_init k I J R) (u2 (S6_X9_init k I J R) k 2 (some (k + 11))) (k + 17) := Zr.up hZ9
  have hZ11 : Zr ((KI_X7_init (k + 16) 4 (S4_X9_init k I J R) (S5_X9_init k I J R) (u2 (S6_X9_init k I J R) k 2 (some (k + 11))))) ((KJ_X7_init (k + 16) 4 (S4_X9_init k I J R) (S5_X9_init k I J R) (u2 (S6_X9_init k I J R) k 2 (some (k + 11))))) ((KR_X7_init (k + 16) 4 (S4_X9_init k I J R) (S5_X9_init k I J R) (u2 (S6_X9_init k I J R) k 2 (some (k + 11))))) (k + 21) := z_X7_init (k := k + 16) 4 (iTo_3 hk) hZ10
  have hZ12 : Zr (S7_X9_init k I J R) (S8_X9_init k I J R) (u2 (S9_X9_init k I J R) k 3 (some (k + 16))) (k + 21) := Zr.putR hZ11 (by omega)
  have hZ13 : Zr (S7_X9_init k I J R) (S8_X9_init k I J R) (u2 (S9_X9_init k I J R) k 3 (some (k + 16))) (k + 22) := Zr.up hZ12
  have hZ14 : Zr ((KI_X7_init (k + 21) 3 (S7_X9_init k I J R) (S8_X9_init k I J R) (u2 (S9_X9_init k I J R) k 3 (some (k + 16))))) ((KJ_X7_init (k + 21) 3 (S7_X9_init k I J R) (S8_X9_init k I J R) (u2 (S9_X9_init k I J R) k 3 (some (k + 16))))) ((KR_X7_init (k + 21) 3 (S7_X9_init k I J R) (S8_X9_init k I J R) (u2 (S9_X9_init k I J R) k 3 (some (k + 16))))) (k + 26) := z_X7_init (k := k + 21) 3 (iTo_4 hk) hZ13
  have hZ15 : Zr (S10_X9_init k I J R) (S11_X9_init k I J R) (u2 (S12_X9_init k I J R) k 4 (some (k + 21))) (k + 26) := Zr.putR hZ14 (by omega)
  have hZ16 : Zr (S10_X9_init k I J R) (S11_X9_init k I J R) (u2 (S12_X9_init k I J R) k 4 (some (k + 21))) (k + 27) := Zr.up hZ15
  have hZ17 : Zr (S10_X9_init k I J R) (S11_X9_init k I J R) (u2 (u2 (S12_X9_init k I J R) k 4 (some (k + 21))) k 5 (some (k + 26))) (k + 27) := Zr.putR hZ16 (by omega)
  have hZ18 : Zr (u2 (S10_X9_init k I J R) k 6 0) (S11_X9_init k I J R) (u2 (u2 (S12_X9_init k I J R) k 4 (some (k + 21))) k 5 (some (k + 26))) (k + 27) := Zr.putI hZ17 (by omega)
  have hZ19 : Zr (u2 (u2 (S10_X9_init k I J R) k 6 0) k 7 0) (S11_X9_init k I J R) (u2 (u2 (S12_X9_init k I J R) k 4 (some (k + 21))) k 5 (some (k + 26))) (k + 27) := Zr.putI hZ18 (by omega)
  have hZ20 : Zr (u2 (u2 (u2 (S10_X9_init k I J R) k 6 0) k 7 0) k 8 99) (S11_X9_init k I J R) (u2 (u2 (S12_X9_init k I J R) k 4 (some (k + 21))) k 5 (some (k + 26))) (k + 27) := Zr.putI hZ19 (by omega)
  have hZ21 : Zr (u2 (u2 (u2 (u2 (S10_X9_init k I J R) k 6 0) k 7 0) k 8 99) k 9 0) (S11_X9_init k I J R) (u2 (u2 (S12_X9_init k I J R) k 4 (some (k + 21))) k 5 (some (k + 26))) (k + 27) := Zr.putI hZ20 (by omega)
  have hZ22 : Zr (u2 (u2 (u2 (u2 (u2 (S10_X9_init k I J R) k 6 0) k 7 0) k 8 99) k 9 0) k 10 0) (S11_X9_init k I J R) (u2 (u2 (S12_X9_init k I J R) k 4 (some (k + 21))) k 5 (some (k + 26))) (k + 27) := Zr.putI hZ21 (by omega)
  have hZ23 : Zr (u2 (S13_X9_init k I J R) k 11 0) (S11_X9_init k I J R) (u2 (u2 (S12_X9_init k I J R) k 4 (some (k + 21))) k 5 (some (k + 26))) (k + 27) := Zr.putI hZ22 (by omega)
  have hZ24 : Zr (u2 (S13_X9_init k I J R) k 11 0) (S11_X9_init k I J R) (u2 (u2 (S12_X9_init k I J R) k 4 (some (k + 21))) k 5 (some (k + 26))) (k + 28) := Zr.up hZ23
  have hZ25 : Zr ((KI_X1_init (k + 27) (u2 (S13_X9_init k I J R) k 11 0) (S11_X9_init k I J R) (u2 (u2 (S12_X9_init k I J R) k 4 (some (k + 21))) k 5 (some (k + 26))))) ((KJ_X1_init (k + 27) (u2 (S13_X9_init k I J R) k 11 0) (S11_X9_init k I J R) (u2 (u2 (S12_X9_init k I J R) k 4 (some (k + 21))) k 5 (some (k + 26))))) ((KR_X1_init (k + 27) (u2 (S13_X9_init k I J R) k 11 0) (S11_X9_init k I J R) (u2 (u2 (S12_X9_init k I J R) k 4 (some (k + 21))) k 5 (some (k + 26))))) (k + 31) := z_X1_init (k := k + 27)  (iTo_12 hk) hZ24
  have hZ26 : Zr (S14_X9_init k I J R) (S15_X9_init k I J R) (u2 (S16_X9_init k I J R) k 12 (some (k + 27))) (k + 31) := Zr.putR hZ25 (by omega)
  have hZ27 : Zr (S14_X9_init k I J R) (S15_X9_init k I J R) (u2 (S16_X9_init k I J R) k 12 (some (k + 27))) (k + 32) := Zr.up hZ26
  have hZ28 : Zr ((KI_X1_init (k + 31) (S14_X9_init k I J R) (S15_X9_init k I J R) (u2 (S16_X9_init k I J R) k 12 (some (k + 27))))) ((KJ_X1_init (k + 31) (S14_X9_init k I J R) (S15_X9_init k I J R) (u2 (S16_X9_init k I J R) k 12 (some (k + 27))))) ((KR_X1_init (k + 31) (S14_X9_init k I J R) (S15_X9_init k I J R) (u2 (S16_X9_init k I J R) k 12 (some (k + 27))))) (k + 35) := z_X1_init (k := k + 31)  (iTo_13 hk) hZ27
  have hZ29 : Zr (S17_X9_init k I J R) (S18_X9_init k I J R) (u2 (S19_X9_init k I J R) k 13 (some (k + 31))) (k + 35) := Zr.putR hZ28 (by omega)
  have hZ30 : Zr (S17_X9_init k I J R) (S18_X9_init k I J R) (u2 (S19_X9_init k I J R) k 13 (some (k + 31))) (k + 36) := Zr.up hZ29
  have hZ31 : Zr ((KI_X1_init (k + 35) (S17_X9_init k I J R) (S18_X9_init k I J R) (u2 (S19_X9_init k I J R) k 13 (some (k + 31))))) ((KJ_X1_init (k + 35) (S17_X9_init k I J R) (S18_X9_init k I J R) (u2 (S19_X9_init k I J R) k 13 (some (k + 31))))) ((KR_X1_init (k + 35) (S17_X9_init k I J R) (S18_X9_init k I J R) (u2 (S19_X9_init k I J R) k 13 (some (k + 31))))) (k + 39) := z_X1_init (k := k + 35)  (iTo_14 hk) hZ30
  have hZ32 : Zr (S20_X9_init k I J R) (S21_X9_init k I J R) (u2 (S22_X9_init k I J R) k 14 (some (k + 35))) (k + 39) := Zr.putR hZ31 (by omega)
  have hZ33 : Zr (fillF (S20_X9_init k I J R) (k + 26) (-1) 48) (S21_X9_init k I J R) (u2 (S22_X9_init k I J R) k 14 (some (k + 35))) (k + 39) := Zr.fill hZ32 (by omega)
  exact hZ33
set_option maxHeartbeats 1000000 in
set_option maxRecDepth 40000 in
theorem kr_X9_init {k : Nat} {I : SI} {J : SJ} {R : SR} {a b : Nat} (ha : a < k) : KR_X9_init k I J R a b = R a b := by
  unfold KR_X9_init
  have h1 : a ≠ k := by omega
  simp (disch := omega) [u2, h1, S12_X9_init, S16_X9_init, S19_X9_init, S22_X9_init, S3_X9_init, S6_X9_init, S9_X9_init, kr_X1_init, kr_X7_init]
def KI_X6_init (I : SI) (J : SJ) (R : SR) : SI := u2 (u2 I 116 0 0) 116 1 (-1)
def KJ_X6_init (I : SI) (J : SJ) (R : SR) : SJ := J
def KR_X6_init (I : SI) (J : SJ) (R : SR) : SR := u2 (u2 (u2 R 116 2 (some 117)) 116 3 (some 118)) 116 4 (some 119)
set_option maxHeartbeats 1000000 in
set_option maxRecDepth 40000 in
theorem k_X6_init  {I : SI} {J : SJ} {R : SR}  (hZ : Zr I J R (117)) : MM 1 3 72 mX6_init [.ref 116] I J R (117) 0 (Pd none (KI_X6_init I J R) (KJ_X6_init I J R) (KR_X6_init I J R) (120) 0) := by
  refine MM.of (by decide) (Nat.le_of_ble_eq_true rfl) fun K ok fin => ?_
  show WK K 0 0 0 [(0, .ref 116)] [] I J R (117) 0
  refine w_aload_n ok dX6_init_0 0 rfl ?_
  refine w_obj ok dX6_init_1 (iT_2 212 (by decide +kernel) (by decide +kernel)) (iT_1 32 (by decide +kernel) (by decide +kernel)) (iT_1 33 (by decide +kernel) (by decide +kernel)) (Nat.le_of_ble_eq_true rfl) ?_
  refine w_aload_n ok dX6_init_4 0 rfl ?_
  refine w_iconst (v := 0) ok dX6_init_5 (by decide) ?_
  refine w_putI ok dX6_init_6 (fwX6_9 rfl) (congrArg Prod.fst s_116) rfl (by decide) ?_
  have hZ1 : Zr (u2 I 116 0 0) J R (117) := Zr.putI hZ (by decide)
  refine w_aload_n ok dX6_init_9 0 rfl ?_
  refine w_iconst (v := (-1)) ok dX6_init_10 (by decide) ?_
  refine w_putI ok dX6_init_11 (fwX6_15 rfl) (congrArg Prod.fst s_116) rfl (by decide) ?_
  have hZ2 : Zr (u2 (u2 I 116 0 0) 116 1 (-1)) J R (117) := Zr.putI hZ1 (by decide)
  refine w_aload_n ok dX6_init_14 0 rfl ?_
  refine w_bipush (v := 24) ok dX6_init_15 (by decide) ?_
  refine w_newI (len := 24) ok dX6_init_17 rfl s_117 (by decide) (by decide) (by decide) (iT_1 84 (by decide +kernel) (by decide +kernel)) hZ2 (cap_of fin (by decide) (by decide)) ?_
  have hZ3 : Zr (u2 (u2 I 116 0 0) 116 1 (-1)) J R (118) := Zr.up hZ2
  refine w_putRF ok dX6_init_19 (ffX6_18 rfl rfl) (congrArg Prod.fst s_116) rfl (by decide) ?_
  have hZ4 : Zr (u2 (u2 I 116 0 0) 116 1 (-1)) J (u2 R 116 2 (some 117)) (118) := Zr.putR hZ3 (by decide)
  refine w_aload_n ok dX6_init_22 0 rfl ?_
  refine w_bipush (v := 24) ok dX6_init_23 (by decide) ?_
  refine w_newI (len := 24) ok dX6_init_25 rfl s_118 (by decide) (by decide) (by decide) (iT_1 84 (by decide +kernel) (by decide +kernel)) hZ4 (cap_of fin (by decide) (by decide)) ?_
  have hZ5 : Zr (u2 (u2 I 116 0 0) 116 1 (-1)) J (u2 R 116 2 (some 117)) (119) := Zr.up hZ4
  refine w_putRF ok dX6_init_27 (ffX6_22 rfl rfl) (congrArg Prod.fst s_116) rfl (by decide) ?_
  have hZ6 : Zr (u2 (u2 I 116 0 0) 116 1 (-1)) J (u2 (u2 R 116 2 (some 117)) 116 3 (some 118)) (119) := Zr.putR hZ5 (by decide)
  refine w_aload_n ok dX6_init_30 0 rfl ?_
  refine w_bipush (v := 24) ok dX6_init_31 (by decide) ?_
  refine w_newI (len := 24) ok dX6_init_33 rfl s_119 (by decide) (by decide) (by decide) (iT_1 84 (by decide +kernel) (by decide +kernel)) hZ6 (cap_of fin (by decide) (by decide)) ?_
  have hZ7 : Zr (u2 (u2 I 116 0 0) 116 1 (-1)) J (u2 (u2 R 116 2 (some 117)) 116 3 (some 118)) (120) := Zr.up hZ6
  refine w_putRF ok dX6_init_35 (ffX6_25 rfl rfl) (congrArg Prod.fst s_116) rfl (by decide) ?_
  have hZ8 : Zr (u2 (u2 I 116 0 0) 116 1 (-1)) J (u2 (u2 (u2 R 116 2 (some 117)) 116 3 (some 118)) 116 4 (some 119)) (120) := Zr.putR hZ7 (by decide)
  exact w_vret ok fin dX6_init_38 rfl Pd.i
set_option maxHeartbeats 1000000 in
set_option maxRecDepth 40000 in
theorem z_X6_init  {I : SI} {J : SJ} {R : SR}  (hZ : Zr I J R (117)) : Zr (KI_X6_init I J R) (KJ_X6_init I J R) (KR_X6_init I J R) (120) := by
  have hZ1 : Zr (u2 I 116 0 0) J R (117) := Zr.putI hZ (by decide)
  have hZ2 : Zr (u2 (u2 I 116 0 0) 116 1 (-1)) J R (117) := Zr.putI hZ1 (by decide)
  have hZ3 : Zr (u2 (u2 I 116 0 0) 116 1 (-1)) J R (118) := Zr.up hZ2
  have hZ4 : Zr (u2 (u2 I 116 0 0) 116 1 (-1)) J (u2 R 116 2 (some 117)) (118) := Zr.putR hZ3 (by decide)
  have hZ5 : Zr (u2 (u2 I 116 0 0) 116 1 (-1)) J (u2 R 116 2 (some 117)) (119) := Zr.up hZ4
  have hZ6 : Zr (u2 (u2 I 116 0 0) 116 1 (-1)) J (u2 (u2 R 116 2 (some 117)) 116 3 (some 118)) (119) := Zr.putR hZ5 (by decide)
  have hZ7 : Zr (u2 (u2 I 116 0 0) 116 1 (-1)) J (u2 (u2 R 116 2 (some 117)) 116 3 (some 118)) (120) := Zr.up hZ6
  have hZ8 : Zr (u2 (u2 I 116 0 0) 116 1 (-1)) J (u2 (u2 (u2 R 116 2 (some 117)) 116 3 (some 118)) 116 4 (some 119)) (120) := Zr.putR hZ7 (by decide)
  exact hZ8
set_option maxHeartbeats 1000000 in
set_option maxRecDepth 40000 in
theorem kr_X6_init  {I : SI} {J : SJ} {R : SR} {a b : Nat} (ha : a < 116) : KR_X6_init I J R a b = R a b := by
  unfold KR_X6_init
  have h1 : a ≠ 116 := by omega
  simp (disch := omega) [u2, h1]
def KI_X10_init (I : SI) (J : SJ) (R : SR) : SI := u2 I 120 0 0
def KJ_X10_init (I : SI) (J : SJ) (R : SR) : SJ := J
def KR_X10_init (I : SI) (J : SJ) (R : SR) : SR := u2 (u2 (u2 R 120 1 (some 121)) 120 2 (some 122)) 120 3 (some 123)
set_option maxHeartbeats 1000000 in
set_option maxRecDepth 40000 in
theorem k_X10_init  {I : SI} {J : SJ} {R : SR}  (hZ : Zr I J R (121)) : MM 1 3 60 mX10_init [.ref 120] I J R (121) 0 (Pd none (KI_X10_init I J R) (KJ_X10_init I J R) (KR_X10_init I J R) (124) 0) := by
  refine MM.of (by decide) (Nat.le_of_ble_eq_true rfl) fun K ok fin => ?_
  show WK K 0 0 0 [(0, .ref 120)] [] I J R (121) 0
  refine w_aload_n ok dX10_init_0 0 rfl ?_
  refine w_obj ok dX10_init_1 (iT_2 236 (by decide +kernel) (by decide +kernel)) (iT_1 32 (by decide +kernel) (by decide +kernel)) (iT_1 33 (by decide +kernel) (by decide +kernel)) (Nat.le_of_ble_eq_true rfl) ?_
  refine w_aload_n ok dX10_init_4 0 rfl ?_
  refine w_iconst (v := 0) ok dX10_init_5 (by decide) ?_
  refine w_putI ok dX10_init_6 (fwX10_7 rfl) (congrArg Prod.fst s_120) rfl (by decide) ?_
  have hZ1 : Zr (u2 I 120 0 0) J R (121) := Zr.putI hZ (by decide)
  refine w_aload_n ok dX10_init_9 0 rfl ?_
  refine w_bipush (v := 20) ok dX10_init_10 (by decide) ?_
  refine w_newI (len := 20) ok dX10_init_12 rfl s_121 (by decide) (by decide) (by decide) (iT_1 84 (by decide +kernel) (by decide +kernel)) hZ1 (cap_of fin (by decide) (by decide)) ?_
  have hZ2 : Zr (u2 I 120 0 0) J R (122) := Zr.up hZ1
  refine w_putRF ok dX10_init_14 (ffX10_13 rfl rfl) (congrArg Prod.fst s_120) rfl (by decide) ?_
  have hZ3 : Zr (u2 I 120 0 0) J (u2 R 120 1 (some 121)) (122) := Zr.putR hZ2 (by decide)
  refine w_aload_n ok dX10_init_17 0 rfl ?_
  refine w_bipush (v := 20) ok dX10_init_18 (by decide) ?_
  refine w_newI (len := 20) ok dX10_init_20 rfl s_122 (by decide) (by decide) (by decide) (iT_1 84 (by decide +kernel) (by decide +kernel)) hZ3 (cap_of fin (by decide) (by decide)) ?_
  have hZ4 : Zr (u2 I 120 0 0) J (u2 R 120 1 (some 121)) (123) := Zr.up hZ3
  refine w_putRF ok dX10_init_22 (ffX10_17 rfl rfl) (congrArg Prod.fst s_120) rfl (by decide) ?_
  have hZ5 : Zr (u2 I 120 0 0) J (u2 (u2 R 120 1 (some 121)) 120 2 (some 122)) (123) := Zr.putR hZ4 (by decide)
  refine w_aload_n ok dX10_init_25 0 rfl ?_
  refine w_bipush (v := 20) ok dX10_init_26 (by decide) ?_
  refine w_newI (len := 20) ok dX10_init_28 rfl s_123 (by decide) (by decide) (by decide) (iT_1 84 (by decide +kernel) (by decide +kernel)) hZ5 (cap_of fin (by decide) (by decide)) ?_
  have hZ6 : Zr (u2 I 120 0 0) J (u2 (u2 R 120 1 (some 121)) 120 2 (some 122)) (124) := Zr.up hZ5
  refine w_putRF ok dX10_init_30 (ffX10_20 rfl rfl) (congrArg Prod.fst s_120) rfl (by decide) ?_
  have hZ7 : Zr (u2 I 120 0 0) J (u2 (u2 (u2 R 120 1 (some 121)) 120 2 (some 122)) 120 3 (some 123)) (124) := Zr.putR hZ6 (by decide)
  exact w_vret ok fin dX10_init_33 rfl Pd.i
set_option maxHeartbeats 1000000 in
set_option maxRecDepth 40000 in
theorem z_X10_init  {I : SI} {J : SJ} {R : SR}  (hZ : Zr I J R (121)) : Zr (KI_X10_init I J R) (KJ_X10_init I J R) (KR_X10_init I J R) (124) := by
  have hZ1 : Zr (u2 I 120 0 0) J R (121) := Zr.putI hZ (by decide)
  have hZ2 : Zr (u2 I 120 0 0) J R (122) := Zr.up hZ1
  have hZ3 : Zr (u2 I 120 0 0) J (u2 R 120 1 (some 121)) (122) := Zr.putR hZ2 (by decide)
  have hZ4 : Zr (u2 I 120 0 0) J (u2 R 120 1 (some 121)) (123) := Zr.up hZ3
  have hZ5 : Zr (u2 I 120 0 0) J (u2 (u2 R 120 1 (some 121)) 120 2 (some 122)) (123) := Zr.putR hZ4 (by decide)
  have hZ6 : Zr (u2 I 120 0 0) J (u2 (u2 R 120 1 (some 121)) 120 2 (some 122)) (124) := Zr.up hZ5
  have hZ7 : Zr (u2 I 120 0 0) J (u2 (u2 (u2 R 120 1 (some 121)) 120 2 (some 122)) 120 3 (some 123)) (124) := Zr.putR hZ6 (by decide)
  exact hZ7
set_option maxHeartbeats 1000000 in
set_option maxRecDepth 40000 in
theorem kr_X10_init  {I : SI} {J : SJ} {R : SR} {a b : Nat} (ha : a < 120) : KR_X10_init I J R a b = R a b := by
  unfold KR_X10_init
  have h1 : a ≠ 120 := by omega
  simp (disch := omega) [u2, h1]
def KI_X3_init (I : SI) (J : SJ) (R : SR) : SI := u2 (u2 (u2 I 128 0 0) 128 1 (-1)) 128 2 0
def KJ_X3_init (I : SI) (J : SJ) (R : SR) : SJ := J
def KR_X3_init (I : SI) (J : SJ) (R : SR) : SR := u2 R 128 3 (some 129)
set_option maxHeartbeats 1000000 in
set_option maxRecDepth 40000 in
theorem k_X3_init  {I : SI} {J : SJ} {R : SR}  (hZ : Zr I J R (129)) : MM 1 1 4 mX3_init [.ref 128] I J R (129) 0 (Pd none (KI_X3_init I J R) (KJ_X3_init I J R) (KR_X3_init I J R) (130) 0) := by
  refine MM.of (by decide) (Nat.le_of_ble_eq_true rfl) fun K ok fin => ?_
  show WK K 0 0 0 [(0, .ref 128)] [] I J R (129) 0
  refine w_aload_n ok dX3_init_0 0 rfl ?_
  refine w_obj ok dX3_init_1 (iT_3 40 (by decide +kernel) (by decide +kernel)) (iT_1 32 (by decide +kernel) (by decide +kernel)) (iT_1 33 (by decide +kernel) (by decide +kernel)) (Nat.le_of_ble_eq_true rfl) ?_
  refine w_aload_n ok dX3_init_4 0 rfl ?_
  refine w_iconst (v := 0) ok dX3_init_5 (by decide) ?_
  refine w_putI ok dX3_init_6 (fwX3_9 rfl) (congrArg Prod.fst s_128) rfl (by decide) ?_
  have hZ1 : Zr (u2 I 128 0 0) J R (129) := Zr.putI hZ (by decide)
  refine w_aload_n ok dX3_init_9 0 rfl ?_
  refine w_iconst (v := (-1)) ok dX3_init_10 (by decide) ?_
  refine w_putI ok dX3_init_11 (fwX3_15 rfl) (congrArg Prod.fst s_128) rfl (by decide) ?_
  have hZ2 : Zr (u2 (u2 I 128 0 0) 128 1 (-1)) J R (129) := Zr.putI hZ1 (by decide)
  refine w_aload_n ok dX3_init_14 0 rfl ?_
  refine w_iconst (v := 0) ok dX3_init_15 (by decide) ?_
  refine w_putI ok dX3_init_16 (fwX3_18 rfl) (congrArg Prod.fst s_128) rfl (by decide) ?_
  have hZ3 : Zr (u2 (u2 (u2 I 128 0 0) 128 1 (-1)) 128 2 0) J R (129) := Zr.putI hZ2 (by decide)
  refine w_aload_n ok dX3_init_19 0 rfl ?_
  refine w_iconst (v := 4) ok dX3_init_20 (by decide) ?_
  refine w_newI (len := 4) ok dX3_init_21 rfl s_129 (by decide) (by decide) (by decide) (iT_1 84 (by decide +kernel) (by decide +kernel)) hZ3 (cap_of fin (by decide) (by decide)) ?_
  have hZ4 : Zr (u2 (u2 (u2 I 128 0 0) 128 1 (-1)) 128 2 0) J R (130) := Zr.up hZ3
  refine w_putRF ok dX3_init_23 (ffX3_21 rfl rfl) (congrArg Prod.fst s_128) rfl (by decide) ?_
  have hZ5 : Zr (u2 (u2 (u2 I 128 0 0) 128 1 (-1)) 128 2 0) J (u2 R 128 3 (some 129)) (130) := Zr.putR hZ4 (by decide)
  exact w_vret ok fin dX3_init_26 rfl Pd.i
set_option maxHeartbeats 1000000 in
set_option maxRecDepth 40000 in
theorem z_X3_init  {I : SI} {J : SJ} {R : SR}  (hZ : Zr I J R (129)) : Zr (KI_X3_init I J R) (KJ_X3_init I J R) (KR_X3_init I J R) (130) := by
  have hZ1 : Zr (u2 I 128 0 0) J R (129) := Zr.putI hZ (by decide)
  have hZ2 : Zr (u2 (u2 I 128 0 0) 128 1 (-1)) J R (129) := Zr.putI hZ1 (by decide)
  have hZ3 : Zr (u2 (u2 (u2 I 128 0 0) 128 1 (-1)) 128 2 0) J R (129) := Zr.putI hZ2 (by decide)
  have hZ4 : Zr (u2 (u2 (u2 I 128 0 0) 128 1 (-1)) 128 2 0) J R (130) := Zr.up hZ3
  have hZ5 : Zr (u2 (u2 (u2 I 128 0 0) 128 1 (-1)) 128 2 0) J (u2 R 128 3 (some 129)) (130) := Zr.putR hZ4 (by decide)
  exact hZ5
set_option maxHeartbeats 1000000 in
set_option maxRecDepth 40000 in
theorem kr_X3_init  {I : SI} {J : SJ} {R : SR} {a b : Nat} (ha : a < 128) : KR_X3_init I J R a b = R a b := by
  unfold KR_X3_init
  have h1 : a ≠ 128 := by omega
  simp (disch := omega) [u2, h1]
def S1_X0_init (I : SI) (J : SJ) (R : SR) : SR := u2 (u2 (u2 (KR_X5_init 105 I J R) 104 0 (some 105)) 104 1 (some 114)) 104 4 (some 115)
def S2_X0_init (I : SI) (J : SJ) (R : SR) : SI := u2 (u2 (u2 (u2 (KI_X5_init 105 I J R) 104 2 0) 104 5 (-1)) 104 6 1) 104 7 1
def KI_X0_init (I : SI) (J : SJ) (R : SR) : SI := (S2_X0_init I J R)
def KJ_X0_init (I : SI) (J : SJ) (R : SR) : SJ := (KJ_X5_init 105 I J R)
def KR_X0_init (I : SI) (J : SJ) (R : SR) : SR := u2 (S1_X0_init I J R) 104 3 (some 2)
set_option maxHeartbeats 1000000 in
set_option maxRecDepth 40000 in
theorem k_X0_init  {I : SI} {J : SJ} {R : SR}  (hZ : Zr I J R (105)) : MM 2 11 120 mX0_init [.ref 104, .ref 2] I J R (105) 0 (Pd none (KI_X0_init I J R) (KJ_X0_init I J R) (KR_X0_init I J R) (116) 0) := by
  refine MM.of (by decide) (Nat.le_of_ble_eq_true rfl) fun K ok fin => ?_
  show WK K 0 0 0 [(0, .ref 104), (1, .ref 2)] [] I J R (105) 0
  refine w_aload_n ok dX0_init_0 0 rfl ?_
  refine w_obj ok dX0_init_1 (iT_2 176 (by decide +kernel) (by decide +kernel)) (iT_1 32 (by decide +kernel) (by decide +kernel)) (iT_1 33 (by decide +kernel) (by decide +kernel)) (Nat.le_of_ble_eq_true rfl) ?_
  refine w_aload_n ok dX0_init_4 0 rfl ?_
  refine w_new (ci := 5) (N := 15) ok dX0_init_5 rfl cls5 s_105 (by decide) (iT_2 177 (by decide +kernel) (by decide +kernel)) (iT_2 85 (by decide +kernel) (by decide +kernel)) (iT_1 12 (by decide +kernel) (by decide +kernel)) hZ (cap_of fin (by decide) (by decide)) ?_
  have hZ1 : Zr I J R (106) := Zr.up hZ
  refine w_dup ok dX0_init_8 rfl ?_
  refine w_cI (As := []) (mc := 8) (ms := 92) ok dX0_init_9 iX5_init (lX0_11 rfl) (k_X5_init (k := 105)  isSc_105 hZ1) (by decide) rfl (Nat.le_of_ble_eq_true rfl) (cap_of fin (by decide) (by decide)) ?_
  have hZ2 : Zr (KI_X5_init 105 I J R) (KJ_X5_init 105 I J R) (KR_X5_init 105 I J R) (114) := z_X5_init (k := 105)  isSc_105 hZ1
  refine w_putRF ok dX0_init_12 (ffX0_12 rfl rfl) (congrArg Prod.fst s_104) rfl (by decide) ?_
  have hZ3 : Zr (KI_X5_init 105 I J R) (KJ_X5_init 105 I J R) (u2 (KR_X5_init 105 I J R) 104 0 (some 105)) (114) := Zr.putR hZ2 (by decide)
  refine w_aload_n ok dX0_init_15 0 rfl ?_
  refine w_bipush (v := 6) ok dX0_init_16 (by decide) ?_
  refine w_newI (len := 6) ok dX0_init_18 rfl s_114 (by decide) (by decide) (by decide) (iT_1 84 (by decide +kernel) (by decide +kernel)) hZ3 (cap_of fin (by decide) (by decide)) ?_
  have hZ4 : Zr (KI_X5_init 105 I J R) (KJ_X5_init 105 I J R) (u2 (KR_X5_init 105 I J R) 104 0 (some 105)) (115) := Zr.up hZ3
  refine w_putRF ok dX0_init_20 (ffX0_18 rfl rfl) (congrArg Prod.fst s_104) rfl (by decide) ?_
  have hZ5 : Zr (KI_X5_init 105 I J R) (KJ_X5_init 105 I J R) (u2 (u2 (KR_X5_init 105 I J R) 104 0 (some 105)) 104 1 (some 114)) (115) := Zr.putR hZ4 (by decide)
  refine w_aload_n ok dX0_init_23 0 rfl ?_
  refine w_iconst (v := 0) ok dX0_init_24 (by decide) ?_
  refine w_putI ok dX0_init_25 (fwX0_22 rfl) (congrArg Prod.fst s_104) rfl (by decide) ?_
  have hZ6 : Zr (u2 (KI_X5_init 105 I J R) 104 2 0) (KJ_X5_init 105 I J R) (u2 (u2 (KR_X5_init 105 I J R) 104 0 (some 105)) 104 1 (some 114)) (115) := Zr.putI hZ5 (by decide)
  refine w_aload_n ok dX0_init_28 0 rfl ?_
  refine w_bipush (v := 7) ok dX0_init_29 (by decide) ?_
  refine w_newL (len := 7) ok dX0_init_31 rfl s_115 (by decide) (by decide) (by decide) (iT_1 109 (by decide +kernel) (by decide +kernel)) hZ6 (cap_of fin (by decide) (by decide)) ?_
  have hZ7 : Zr (u2 (KI_X5_init 105 I J R) 104 2 0) (KJ_X5_init 105 I J R) (u2 (u2 (KR_X5_init 105 I J R) 104 0 (some 105)) 104 1 (some 114)) (116) := Zr.up hZ6
  refine w_putRF ok dX0_init_33 (ffX0_26 rfl rfl) (congrArg Prod.fst s_104) rfl (by decide) ?_
  have hZ8 : Zr (u2 (KI_X5_init 105 I J R) 104 2 0) (KJ_X5_init 105 I J R) (u2 (u2 (u2 (KR_X5_init 105 I J R) 104 0 (some 105)) 104 1 (some 114)) 104 4 (some 115)) (116) := Zr.putR hZ7 (by decide)
  show WK K 11 120 36 [(0, .ref 104), (1, .ref 2)] [] (u2 (KI_X5_init 105 I J R) 104 2 0) (KJ_X5_init 105 I J R) (S1_X0_init I J R) (116) 0
  refine w_aload_n ok dX0_init_36 0 rfl ?_
  refine w_iconst (v := (-1)) ok dX0_init_37 (by decide) ?_
  refine w_putI ok dX0_init_38 (fwX0_30 rfl) (congrArg Prod.fst s_104) rfl (by decide) ?_
  have hZ9 : Zr (u2 (u2 (KI_X5_init 105 I J R) 104 2 0) 104 5 (-1)) (KJ_X5_init 105 I J R) (S1_X0_init I J R) (116) := Zr.putI hZ8 (by decide)
  refine w_aload_n ok dX0_init_41 0 rfl ?_
  refine w_iconst (v := 1) ok dX0_init_42 (by decide) ?_
  refine w_putZ ok dX0_init_43 (fwX0_33 rfl) (congrArg Prod.fst s_104) rfl (by decide) (by decide) ?_
  have hZ10 : Zr (u2 (u2 (u2 (KI_X5_init 105 I J R) 104 2 0) 104 5 (-1)) 104 6 1) (KJ_X5_init 105 I J R) (S1_X0_init I J R) (116) := Zr.putI hZ9 (by decide)
  refine w_aload_n ok dX0_init_46 0 rfl ?_
  refine w_iconst (v := 1) ok dX0_init_47 (by decide) ?_
  refine w_putZ ok dX0_init_48 (fwX0_37 rfl) (congrArg Prod.fst s_104) rfl (by decide) (by decide) ?_
  have hZ11 : Zr (u2 (u2 (u2 (u2 (KI_X5_init 105 I J R) 104 2 0) 104 5 (-1)) 104 6 1) 104 7 1) (KJ_X5_init 105 I J R) (S1_X0_init I J R) (116) := Zr.putI hZ10 (by decide)
  show WK K 11 120 51 [(0, .ref 104), (1, .ref 2)] [] (S2_X0_init I J R) (KJ_X5_init 105 I J R) (S1_X0_init I J R) (116) 0
  refine w_aload_n ok dX0_init_51 0 rfl ?_
  refine w_aload_n ok dX0_init_52 1 rfl ?_
  refine w_putRF ok dX0_init_53 (ffX0_40 rfl rfl) (congrArg Prod.fst s_104) rfl (by decide) ?_
  have hZ12 : Zr (S2_X0_init I J R) (KJ_X5_init 105 I J R) (u2 (S1_X0_init I J R) 104 3 (some 2)) (116) := Zr.putR hZ11 (by decide)
  exact w_vret ok fin dX0_init_56 rfl Pd.i
set_option maxHeartbeats 1000000 in
set_option maxRecDepth 40000 in
theorem z_X0_init  {I : SI} {J : SJ} {R : SR}  (hZ : Zr I J R (105)) : Zr (KI_X0_init I J R) (KJ_X0_init I J R) (KR_X0_init I J R) (116) := by
  have hZ1 : Zr I J R (106) := Zr.up hZ
  have hZ2 : Zr (KI_X5_init 105 I J R) (KJ_X5_init 105 I J R) (KR_X5_init 105 I J R) (114) := z_X5_init (k := 105)  isSc_105 hZ1
  have hZ3 : Zr (KI_X5_init 105 I J R) (KJ_X5_init 105 I J R) (u2 (KR_X5_init 105 I J R) 104 0 (some 105)) (114) := Zr.putR hZ2 (by decide)
  have hZ4 : Zr (KI_X5_init 105 I J R) (KJ_X5_init 105 I J R) (u2 (KR_X5_init 105 I J R) 104 0 (some 105)) (115) := Zr.up hZ3
  have hZ5 : Zr (KI_X5_init 105 I J R) (KJ_X5_init 105 I J R) (u2 (u2 (KR_X5_init 105 I J R) 104 0 (some 105)) 104 1 (some 114)) (115) := Zr.putR hZ4 (by decide)
  have hZ6 : Zr (u2 (KI_X5_init 105 I J R) 104 2 0) (KJ_X5_init 105 I J R) (u2 (u2 (KR_X5_init 105 I J R) 104 0 (some 105)) 104 1 (some 114)) (115) := Zr.putI hZ5 (by decide)
  have hZ7 : Zr (u2 (KI_X5_init 105 I J R) 104 2 0) (KJ_X5_init 105 I J R) (u2 (u2 (KR_X5_init 105 I J R) 104 0 (some 105)) 104 1 (some 114)) (116) := Zr.up hZ6
  have hZ8 : Zr (u2 (KI_X5_init 105 I J R) 104 2 0) (KJ_X5_init 105 I J R) (u2 (u2 (u2 (KR_X5_init 105 I J R) 104 0 (some 105)) 104 1 (some 114)) 104 4 (some 115)) (116) := Zr.putR hZ7 (by decide)
  have hZ9 : Zr (u2 (u2 (KI_X5_init 105 I J R) 104 2 0) 104 5 (-1)) (KJ_X5_init 105 I J R) (S1_X0_init I J R) (116) := Zr.putI hZ8 (by decide)
  have hZ10 : Zr (u2 (u2 (u2 (KI_X5_init 105 I J R) 104 2 0) 104 5 (-1)) 104 6 1) (KJ_X5_init 105 I J R) (S1_X0_init I J R) (116) := Zr.putI hZ9 (by decide)
  have hZ11 : Zr (u2 (u2 (u2 (u2 (KI_X5_init 105 I J R) 104 2 0) 104 5 (-1)) 104 6 1) 104 7 1) (KJ_X5_init 105 I J R) (S1_X0_init I J R) (116) := Zr.putI hZ10 (by decide)
  have hZ12 : Zr (S2_X0_init I J R) (KJ_X5_init 105 I J R) (u2 (S1_X0_init I J R) 104 3 (some 2)) (116) := Zr.putR hZ11 (by decide)
  exact hZ12
set_option maxHeartbeats 1000000 in
set_option maxRecDepth 40000 in
theorem kr_X0_init  {I : SI} {J : SJ} {R : SR} {a b : Nat} (ha : a < 104) : KR_X0_init I J R a b = R a b := by
  unfold KR_X0_init
  have h1 : a ≠ 104 := by omega
  simp (disch := omega) [u2, h1, S1_X0_init, kr_X5_init]
def S1_X2_init (I : SI) (J : SJ) (R : SR) : SR := u2 (u2 (u2 (u2 R 124 0 (some 125)) 124 3 (some 126)) 124 4 (some 127)) 124 2 (some 2)
def KI_X2_init (I : SI) (J : SJ) (R : SR) : SI := u2 I 124 1 0
def KJ_X2_init (I : SI) (J : SJ) (R : SR) : SJ := J
def KR_X2_init (I : SI) (J : SJ) (R : SR) : SR := (S1_X2_init I J R)
set_option maxHeartbeats 1000000 in
set_option maxRecDepth 40000 in
theorem k_X2_init  {I : SI} {J : SJ} {R : SR}  (hZ : Zr I J R (125)) : MM 1 3 48 mX2_init [.ref 124, .ref 2] I J R (125) 0 (Pd none (KI_X2_init I J R) (KJ_X2_init I J R) (KR_X2_init I J R) (128) 0) := by
  refine MM.of (by decide) (Nat.le_of_ble_eq_true rfl) fun K ok fin => ?_
  show WK K 0 0 0 [(0, .ref 124), (1, .ref 2)] [] I J R (125) 0
  refine w_aload_n ok dX2_init_0 0 rfl ?_
  refine w_obj ok dX2_init_1 (iT_3 16 (by decide +kernel) (by decide +kernel)) (iT_1 32 (by decide +kernel) (by decide +kernel)) (iT_1 33 (by decide +kernel) (by decide +kernel)) (Nat.le_of_ble_eq_true rfl) ?_
  refine w_aload_n ok dX2_init_4 0 rfl ?_
  refine w_bipush (v := 6) ok dX2_init_5 (by decide) ?_
  refine w_newI (len := 6) ok dX2_init_7 rfl s_125 (by decide) (by decide) (by decide) (iT_1 84 (by decide +kernel) (by decide +kernel)) hZ (cap_of fin (by decide) (by decide)) ?_
  have hZ1 : Zr I J R (126) := Zr.up hZ
  refine w_putRF ok dX2_init_9 (ffX2_9 rfl rfl) (congrArg Prod.fst s_124) rfl (by decide) ?_
  have hZ2 : Zr I J (u2 R 124 0 (some 125)) (126) := Zr.putR hZ1 (by decide)
  refine w_aload_n ok dX2_init_12 0 rfl ?_
  refine w_iconst (v := 0) ok dX2_init_13 (by decide) ?_
  refine w_putI ok dX2_init_14 (fwX2_15 rfl) (congrArg Prod.fst s_124) rfl (by decide) ?_
  have hZ3 : Zr (u2 I 124 1 0) J (u2 R 124 0 (some 125)) (126) := Zr.putI hZ2 (by decide)
  refine w_aload_n ok dX2_init_17 0 rfl ?_
  refine w_bipush (v := 6) ok dX2_init_18 (by decide) ?_
  refine w_newI (len := 6) ok dX2_init_20 rfl s_126 (by decide) (by decide) (by decide) (iT_1 84 (by decide +kernel) (by decide +kernel)) hZ3 (cap_of fin (by decide) (by decide)) ?_
  have hZ4 : Zr (u2 I 124 1 0) J (u2 R 124 0 (some 125)) (127) := Zr.up hZ3
  refine w_putRF ok dX2_init_22 (ffX2_19 rfl rfl) (congrArg Prod.fst s_124) rfl (by decide) ?_
  have hZ5 : Zr (u2 I 124 1 0) J (u2 (u2 R 124 0 (some 125)) 124 3 (some 126)) (127) := Zr.putR hZ4 (by decide)
  refine w_aload_n ok dX2_init_25 0 rfl ?_
  refine w_bipush (v := 36) ok dX2_init_26 (by decide) ?_
  refine w_newI (len := 36) ok dX2_init_28 rfl s_127 (by decide) (by decide) (by decide) (iT_1 84 (by decide +kernel) (by decide +kernel)) hZ5 (cap_of fin (by decide) (by decide)) ?_
  have hZ6 : Zr (u2 I 124 1 0) J (u2 (u2 R 124 0 (some 125)) 124 3 (some 126)) (128) := Zr.up hZ5
  refine w_putRF ok dX2_init_30 (ffX2_22 rfl rfl) (congrArg Prod.fst s_124) rfl (by decide) ?_
  have hZ7 : Zr (u2 I 124 1 0) J (u2 (u2 (u2 R 124 0 (some 125)) 124 3 (some 126)) 124 4 (some 127)) (128) := Zr.putR hZ6 (by decide)
  refine w_aload_n ok dX2_init_33 0 rfl ?_
  refine w_aload_n ok dX2_init_34 1 rfl ?_
  refine w_putRF ok dX2_init_35 (ffX2_25 rfl rfl) (congrArg Prod.fst s_124) rfl (by decide) ?_
  have hZ8 : Zr (u2 I 124 1 0) J (u2 (u2 (u2 (u2 R 124 0 (some 125)) 124 3 (some 126)) 124 4 (some 127)) 124 2 (some 2)) (128) := Zr.putR hZ7 (by decide)
  show WK K 3 48 38 [(0, .ref 124), (1, .ref 2)] [] (u2 I 124 1 0) J (S1_X2_init I J R) (128) 0
  exact w_vret ok fin dX2_init_38 rfl Pd.i
set_option maxHeartbeats 1000000 in
set_option maxRecDepth 40000 in
theorem z_X2_init  {I : SI} {J : SJ} {R : SR}  (hZ : Zr I J R (125)) : Zr (KI_X2_init I J R) (KJ_X2_init I J R) (KR_X2_init I J R) (128) := by
  have hZ1 : Zr I J R (126) := Zr.up hZ
  have hZ2 : Zr I J (u2 R 124 0 (some 125)) (126) := Zr.putR hZ1 (by decide)
  have hZ3 : Zr (u2 I 124 1 0) J (u2 R 124 0 (some 125)) (126) := Zr.putI hZ2 (by decide)
  have hZ4 : Zr (u2 I 124 1 0) J (u2 R 124 0 (some 125)) (127) := Zr.up hZ3
  have hZ5 : Zr (u2 I 124 1 0) J (u2 (u2 R 124 0 (some 125)) 124 3 (some 126)) (127) := Zr.putR hZ4 (by decide)
  have hZ6 : Zr (u2 I 124 1 0) J (u2 (u2 R 124 0 (some 125)) 124 3 (some 126)) (128) := Zr.up hZ5
  have hZ7 : Zr (u2 I 124 1 0) J (u2 (u2 (u2 R 124 0 (some 125)) 124 3 (some 126)) 124 4 (some 127)) (128) := Zr.putR hZ6 (by decide)
  have hZ8 : Zr (u2 I 124 1 0) J (u2 (u2 (u2 (u2 R 124 0 (some 125)) 124 3 (some 126)) 124 4 (some 127)) 124 2 (some 2)) (128) := Zr.putR hZ7 (by decide)
  exact hZ8
set_option maxHeartbeats 1000000 in
set_option maxRecDepth 40000 in
theorem kr_X2_init  {I : SI} {J : SJ} {R : SR} {a b : Nat} (ha : a < 124) : KR_X2_init I J R a b = R a b := by
  unfold KR_X2_init
  have h1 : a ≠ 124 := by omega
  simp (disch := omega) [u2, h1, S1_X2_init]
set_option maxHeartbeats 1000000 in
set_option maxRecDepth 40000 in
theorem c0_X8_packed {I : SI} {J : SJ} {R : SR} {n g : Nat} {f : Fr} (a0 : Int32) (a1 : Int32)   : MM 0 0 0 mX8_packed [.int a0, .int a1] (eI f I) (eJ f J) R n g (Pd (some (.int (F_X8_packed a0 a1 I J))) (eI f I) (eJ f J) R n g) := by
  refine MM.of (by decide) (Nat.le_of_ble_eq_true rfl) fun K ok fin => ?_
  show WK K 0 0 0 [(0, .int a0), (1, .int a1)] [] (eI f I) (eJ f J) R n g
  refine w_iload_n ok dX8_packed_0 1 rfl ?_
  refine w_bipush (v := 6) ok dX8_packed_1 (by decide) ?_
  refine w_icmp_ge (tgt := 21) ok dX8_packed_3 (by decide) (fun c1 => ?_) (fun c1 => ?_)
  · skip
    refine w_iconst (v := 0) ok dX8_packed_21 (by decide) ?_
    exact w_iret ok fin dX8_packed_22 rfl (by unfold F_X8_packed; simp only [if_pos c1]; exact Pd.i)
  · skip
    refine w_iload_n ok dX8_packed_6 0 rfl ?_
    refine w_bipush (v := 97) ok dX8_packed_7 (by decide) ?_
    refine w_isub ok dX8_packed_9 ?_
    refine w_iconst (v := 1) ok dX8_packed_10 (by decide) ?_
    refine w_iadd ok dX8_packed_11 ?_
    refine w_iconst (v := 5) ok dX8_packed_12 (by decide) ?_
    refine w_iconst (v := 5) ok dX8_packed_13 (by decide) ?_
    refine w_iload_n ok dX8_packed_14 1 rfl ?_
    refine w_isub ok dX8_packed_15 ?_
    refine w_imul ok dX8_packed_16 ?_
    refine w_ishl ok dX8_packed_17 ?_
    refine w_goto (tgt := 22) ok dX8_packed_18 (by decide) ?_
    exact w_iret ok fin dX8_packed_22 rfl (by unfold F_X8_packed; simp only [if_neg c1]; exact Pd.i)
def Sw1_X8_init (I : SI) (J : SJ) (i51 : Nat) (s51 : SI) : Int32 := (atF (s51 82) 23 ((nI i51) / 6)) ||| (F_X8_packed (chS 0 (nI i51).toNatClampNeg) ((nI i51) - (nI i51) / 6 * 6) s51 J)
def B_X8_init_l51 (I : SI) (J : SJ) (i51 : Nat) (s51 : SI) : SI := if (chS 0 (nI i51).toNatClampNeg) = 32 then (putF s51 82 23 ((nI i51) / 6) (atF (s51 82) 23 ((nI i51) / 6))) else (putF s51 82 23 ((nI i51) / 6) (Sw1_X8_init I J i51 s51))
def F_X8_init_l51 (I : SI) (J : SJ) (s0 : SI) : SI := itN (B_X8_init_l51 I J) ((STL.getD 0 0)) s0
def FI_X8_init  (I : SI) (J : SJ) : SI := (F_X8_init_l51 I J I)
def H_X8_init  (I : SI) (J : SJ) : Prop := (∀ (i51 : Nat) (s51 : SI), i51 < (STL.getD 0 0) → s51 = itN (B_X8_init_l51 I J) i51 I → inR (nI i51) 138)
set_option maxHeartbeats 2000000 in
set_option maxRecDepth 40000 in
theorem g_X8w {K : KT} {P : PT} {I : SI} {J : SJ} {R : SR} {n g d : Nat} {f : Fr} (ok : OK K mX8_init d) (fin : Fnl K mX8_init P 2 24) (h81 : 81 < n) (h82 : 82 < n) (hf : f.1 = true) (hd : 3 < d) (hw : R 81 0 = some 82) (hp : H_X8_init I J) (hPP : P none (eI f (FI_X8_init I J)) (eJ f J) R n g) : WK K 2 24 49 [(0, .ref 81)] [] (eI f I) (eJ f J) R n g := by
  have hlen : STL.getD 0 0 < 2 ^ 31 := by decide
  have hp1 := hp
  have hp1 := hp
  refine w_iconst (v := 0) ok dX8_init_49 (by decide) ?_
  refine w_istore_n ok dX8_init_50 rfl (by decide) rfl ?_
  refine w_loc [1, 0] rfl ?_
  refine loop_for (σ := SI) (fun (i51 : Nat) (s51 : SI) => WK K 2 24 51 [(0, .ref 81), (1, .int (nI i51))] [] (eI f s51) (eJ f J) R n g) (B_X8_init_l51 I J) ((STL.getD 0 0)) (I) ?_ ?_
  · show WK K 2 24 51 [(0, .ref 81), (1, .int (nI ((STL.getD 0 0))))] [] (eI f (F_X8_init_l51 I J I)) (eJ f J) R n g
    have e1 : (nI (STL.getD 0 0)) ≤ (nI (STL.getD 0 0)) := Int32.le_refl _
    refine w_iload_n ok dX8_init_51 1 rfl ?_
    refine w_ldcLen ok (by decide) rfl (show STR[0]? = some _ from rfl) dX8_init_52 dX8_init_54 (lX8_41 rfl) (by omega) (Nat.le_of_ble_eq_true rfl) ?_
    refine w_icmp_ge (tgt := 116) ok dX8_init_57 (by decide) (fun _ => ?_) (fun h => absurd e1 h)
    exact w_vret ok fin dX8_init_116 rfl hPP
  · intro i51 s51 hi51 hs51 k51
    show WK K 2 24 51 [(0, .ref 81), (1, .int (nI i51))] [] (eI f s51) (eJ f J) R n g
    have e2 : ¬ ((nI (STL.getD 0 0)) ≤ (nI i51)) := nI_ge hi51 hlen
    refine w_iload_n ok dX8_init_51 1 rfl ?_
    refine w_ldcLen ok (by decide) rfl (show STR[0]? = some _ from rfl) dX8_init_52 dX8_init_54 (lX8_41 rfl) (by omega) (Nat.le_of_ble_eq_true rfl) ?_
    refine w_icmp_ge (tgt := 116) ok dX8_init_57 (by decide) (fun h => absurd h e2) (fun _ => ?_)
    refine w_ldcCh ok (by decide) rfl (show STR[0]? = some _ from rfl) dX8_init_60 dX8_init_62 dX8_init_63 (lX8_47 rfl) (by omega) (Nat.le_of_ble_eq_true rfl) 1 rfl (hp1 i51 s51 hi51 hs51).1 (hp1 i51 s51 hi51 hs51).2 ?_
    refine w_istore_n ok dX8_init_66 rfl (by decide) rfl ?_
    refine w_aload_n ok dX8_init_67 1 rfl ?_
    refine w_getR ok dX8_init_68 (fX8_11 rfl) (congrArg Prod.fst s_81) rfl hw h81 ?_
    refine w_iload_n ok dX8_init_71 2 rfl ?_
    refine w_bipush (v := 6) ok dX8_init_72 (by decide) ?_
    refine w_idiv ok dX8_init_74 (by decide) ?_
    refine w_cS (As := [.ref 82, .int ((nI i51) / 6)]) ok dX8_init_75 iX11_at (lX8_51 rfl) (c_at s_82 h82 (sdc hf (by decide)) ((nI i51) / 6)) (by omega) rfl (Nat.le_of_ble_eq_true rfl) ?_
    refine w_istore_n ok dX8_init_78 rfl (by decide) rfl ?_
    refine w_aload_n ok dX8_init_79 2 rfl ?_
    refine w_getR ok dX8_init_80 (fX8_11 rfl) (congrArg Prod.fst s_81) rfl hw h81 ?_
    refine w_iload_n ok dX8_init_83 3 rfl ?_
    refine w_bipush (v := 6) ok dX8_init_84 (by decide) ?_
    refine w_idiv ok dX8_init_86 (by decide) ?_
    refine w_iload_n ok dX8_init_87 1 rfl ?_
    refine w_bipush (v := 32) ok dX8_init_88 (by decide) ?_
    refine w_icmp_ne (tgt := 97) ok dX8_init_90 (by decide) (fun c3 => ?_) (fun c3 => ?_)
    · skip
      refine w_iload_n ok dX8_init_97 0 rfl ?_
      refine w_iload_n ok dX8_init_98 1 rfl ?_
      refine w_iload_n ok dX8_init_99 3 rfl ?_
      refine w_bipush (v := 6) ok dX8_init_100 (by decide) ?_
      refine w_irem ok dX8_init_102 (by decide) ?_
      refine w_cS (As := [.int (chS 0 (nI i51).toNatClampNeg), .int ((nI i51) - (nI i51) / 6 * 6)]) ok dX8_init_103 iX8_packed (lX8_55 rfl) (c0_X8_packed (chS 0 (nI i51).toNatClampNeg) ((nI i51) - (nI i51) / 6 * 6) ) (by omega) rfl (Nat.le_of_ble_eq_true rfl) ?_
      show WK K 2 24 106 [(3, .int (atF (s51 82) 23 ((nI i51) / 6))), (2, .int (chS 0 (nI i51).toNatClampNeg)), (0, .ref 81), (1, .int (nI i51))] [.int (F_X8_packed (chS 0 (nI i51).toNatClampNeg) ((nI i51) - (nI i51) / 6 * 6) s51 J), .int (atF (s51 82) 23 ((nI i51) / 6)), .int ((nI i51) / 6), .ref 82] (eI f s51) (eJ f J) R n g
      refine w_ior ok dX8_init_106 ?_
      show WK K 2 24 107 [(3, .int (atF (s51 82) 23 ((nI i51) / 6))), (2, .int (chS 0 (nI i51).toNatClampNeg)), (0, .ref 81), (1, .int (nI i51))] [.int (Sw1_X8_init I J i51 s51), .int ((nI i51) / 6), .ref 82] (eI f s51) (eJ f J) R n g
      refine w_cS (As := [.ref 82, .int ((nI i51) / 6), .int (Sw1_X8_init I J i51 s51)]) ok dX8_init_107 iX11_put (lX8_59 rfl) (c_put s_82 h82 (sdc hf (by decide)) ((nI i51) / 6) (Sw1_X8_init I J i51 s51)) (by omega) rfl (Nat.le_of_ble_eq_true rfl) ?_
      refine w_iinc (v := (nI i51) + 1) ok dX8_init_110 3 rfl rfl (by decide) rfl ?_
      refine w_goto (tgt := 51) ok dX8_init_113 (by decide) ?_
      have eB : B_X8_init_l51 I J i51 s51 = (putF s51 82 23 ((nI i51) / 6) (Sw1_X8_init I J i51 s51)) := by
        unfold B_X8_init_l51; exact (if_neg c3).trans (rfl)
      have kk := k51
      rw [eB] at kk
      refine w_loc [3, 0] rfl ?_
      rw [nI_1 i51]
      exact kk
    · skip
      refine w_iload_n ok dX8_init_93 0 rfl ?_
      refine w_goto (tgt := 107) ok dX8_init_94 (by decide) ?_
      refine w_cS (As := [.ref 82, .int ((nI i51) / 6), .int (atF (s51 82) 23 ((nI i51) / 6))]) ok dX8_init_107 iX11_put (lX8_59 rfl) (c_put s_82 h82 (sdc hf (by decide)) ((nI i51) / 6) (atF (s51 82) 23 ((nI i51) / 6))) (by omega) rfl (Nat.le_of_ble_eq_true rfl) ?_
      refine w_iinc (v := (nI i51) + 1) ok dX8_init_110 3 rfl rfl (by decide) rfl ?_
      refine w_goto (tgt := 51) ok dX8_init_113 (by decide) ?_
      have eB : B_X8_init_l51 I J i51 s51 = (putF s51 82 23 ((nI i51) / 6) (atF (s51 82) 23 ((nI i51) / 6))) := by
        unfold B_X8_init_l51; exact (if_pos c3).trans (rfl)
      have kk := k51
      rw [eB] at kk
      refine w_loc [3, 0] rfl ?_
      rw [nI_1 i51]
      exact kk
theorem h_X8w (I : SI) (J : SJ) : H_X8_init I J := by
  intro i s hi _
  exact ⟨by rw [nI_clamp (Nat.lt_trans hi (by decide))], by rw [nI_clamp (Nat.lt_trans hi (by decide))]; exact hi⟩
theorem itN_inv {σ : Type} {f : Nat → σ → σ} {N : Nat} {s0 : σ} (P : σ → Prop) (h0 : P s0) (hs : ∀ i s, i < N → P s → P (f i s)) : P (itN f N s0) := by
  have key : ∀ k, k ≤ N → P (itN f k s0) := by
    intro k
    induction k with
    | zero => intro _; rw [itN_0]; exact h0
    | succ k ih => intro hk; rw [itN_s]; exact hs k _ (by omega) (ih (by omega))
  exact key N (Nat.le_refl _)
theorem putF_ne {I : SI} {r len a : Nat} {i x : Int32} (h : a ≠ r) : putF I r len i x a = I a := by
  unfold putF
  split
  · rfl
  · split
    · rfl
    · exact u2_k _ _ h
theorem x8_loc (I : SI) (J : SJ) {a : Nat} (h : a ≠ 82) : FI_X8_init I J a = I a := by
  unfold FI_X8_init F_X8_init_l51
  refine itN_inv (fun (s : SI) => s a = I a) rfl fun i s _ hs => ?_
  show B_X8_init_l51 I J i s a = I a
  unfold B_X8_init_l51
  split <;> (rw [putF_ne h]; exact hs)
theorem x8_emb (I : SI) (J : SJ) : eI (true, I, J) (FI_X8_init I J) = FI_X8_init I J := by
  funext a
  unfold eI
  split
  · rfl
  · next h => exact (x8_loc I J (fun e => h (by rw [e]; exact decide_eq_true (show 82 < nK by decide)))).symm
theorem Zr.x8 {I : SI} {J : SJ} {R : SR} {n : Nat} (h : Zr I J R n) (hn : 82 < n) : Zr (FI_X8_init I J) J R n := fun a j ha => ⟨by rw [x8_loc I J (by omega)]; exact (h a j ha).1, (h a j ha).2⟩
def S1_X8_init (I : SI) (J : SJ) (R : SR) : SI := u2 (u2 (u2 (u2 (u2 (u2 I 81 2 0) 81 3 0) 81 4 0) 81 5 0) 81 6 0) 81 7 0
def KI_X8_init (I : SI) (J : SJ) (R : SR) : SI := (FI_X8_init (S1_X8_init I J R) J)
def KJ_X8_init (I : SI) (J : SJ) (R : SR) : SJ := J
def KR_X8_init (I : SI) (J : SJ) (R : SR) : SR := u2 (u2 R 81 0 (some 82)) 81 1 (some 83)
set_option maxHeartbeats 1000000 in
set_option maxRecDepth 40000 in
theorem k_X8_init  {I : SI} {J : SJ} {R : SR}  (hZ : Zr I J R (82)) : MM 4 2 24 mX8_init [.ref 81] I J R (82) 0 (Pd none (KI_X8_init I J R) (KJ_X8_init I J R) (KR_X8_init I J R) (84) 0) := by
  refine MM.of (by decide) (Nat.le_of_ble_eq_true rfl) fun K ok fin => ?_
  show WK K 0 0 0 [(0, .ref 81)] [] I J R (82) 0
  refine w_aload_n ok dX8_init_0 0 rfl ?_
  refine w_obj ok dX8_init_1 (iT_1 208 (by decide +kernel) (by decide +kernel)) (iT_1 32 (by decide +kernel) (by decide +kernel)) (iT_1 33 (by decide +kernel) (by decide +kernel)) (Nat.le_of_ble_eq_true rfl) ?_
  refine w_aload_n ok dX8_init_4 0 rfl ?_
  refine w_bipush (v := 23) ok dX8_init_5 (by decide) ?_
  refine w_newI (len := 23) ok dX8_init_7 rfl s_82 (by decide) (by decide) (by decide) (iT_1 84 (by decide +kernel) (by decide +kernel)) hZ (cap_of fin (by decide) (by decide)) ?_
  have hZ1 : Zr I J R (83) := Zr.up hZ
  refine w_putRF ok dX8_init_9 (ffX8_11 rfl rfl) (congrArg Prod.fst s_81) rfl (by decide) ?_
  have hZ2 : Zr I J (u2 R 81 0 (some 82)) (83) := Zr.putR hZ1 (by decide)
  refine w_aload_n ok dX8_init_12 0 rfl ?_
  refine w_iconst (v := 1) ok dX8_init_13 (by decide) ?_
  refine w_newB (len := 1) ok dX8_init_14 rfl s_83 (by decide) (by decide) (by decide) (iT_1 83 (by decide +kernel) (by decide +kernel)) hZ2 (cap_of fin (by decide) (by decide)) ?_
  have hZ3 : Zr I J (u2 R 81 0 (some 82)) (84) := Zr.up hZ2
  refine w_putR ok dX8_init_16 (fwX8_15 rfl) (congrArg Prod.fst s_81) rfl (by decide) ?_
  have hZ4 : Zr I J (u2 (u2 R 81 0 (some 82)) 81 1 (some 83)) (84) := Zr.putR hZ3 (by decide)
  refine w_aload_n ok dX8_init_19 0 rfl ?_
  refine w_iconst (v := 0) ok dX8_init_20 (by decide) ?_
  refine w_putI ok dX8_init_21 (fwX8_19 rfl) (congrArg Prod.fst s_81) rfl (by decide) ?_
  have hZ5 : Zr (u2 I 81 2 0) J (u2 (u2 R 81 0 (some 82)) 81 1 (some 83)) (84) := Zr.putI hZ4 (by decide)
  refine w_aload_n ok dX8_init_24 0 rfl ?_
  refine w_iconst (v := 0) ok dX8_init_25 (by decide) ?_
  refine w_putI ok dX8_init_26 (fwX8_23 rfl) (congrArg Prod.fst s_81) rfl (by decide) ?_
  have hZ6 : Zr (u2 (u2 I 81 2 0) 81 3 0) J (u2 (u2 R 81 0 (some 82)) 81 1 (some 83)) (84) := Zr.putI hZ5 (by decide)
  refine w_aload_n ok dX8_init_29 0 rfl ?_
  refine w_iconst (v := 0) ok dX8_init_30 (by decide) ?_
  refine w_putZ ok dX8_init_31 (fwX8_26 rfl) (congrArg Prod.fst s_81) rfl (by decide) (by decide) ?_
  have hZ7 : Zr (u2 (u2 (u2 I 81 2 0) 81 3 0) 81 4 0) J (u2 (u2 R 81 0 (some 82)) 81 1 (some 83)) (84) := Zr.putI hZ6 (by decide)
  refine w_aload_n ok dX8_init_34 0 rfl ?_
  refine w_iconst (v := 0) ok dX8_init_35 (by decide) ?_
  refine w_putI ok dX8_init_36 (fwX8_30 rfl) (congrArg Prod.fst s_81) rfl (by decide) ?_
  have hZ8 : Zr (u2 (u2 (u2 (u2 I 81 2 0) 81 3 0) 81 4 0) 81 5 0) J (u2 (u2 R 81 0 (some 82)) 81 1 (some 83)) (84) := Zr.putI hZ7 (by decide)
  refine w_aload_n ok dX8_init_39 0 rfl ?_
  refine w_iconst (v := 0) ok dX8_init_40 (by decide) ?_
  refine w_putI ok dX8_init_41 (fwX8_33 rfl) (congrArg Prod.fst s_81) rfl (by decide) ?_
  have hZ9 : Zr (u2 (u2 (u2 (u2 (u2 I 81 2 0) 81 3 0) 81 4 0) 81 5 0) 81 6 0) J (u2 (u2 R 81 0 (some 82)) 81 1 (some 83)) (84) := Zr.putI hZ8 (by decide)
  refine w_aload_n ok dX8_init_44 0 rfl ?_
  refine w_iconst (v := 0) ok dX8_init_45 (by decide) ?_
  refine w_putI ok dX8_init_46 (fwX8_36 rfl) (congrArg Prod.fst s_81) rfl (by decide) ?_
  have hZ10 : Zr (u2 (u2 (u2 (u2 (u2 (u2 I 81 2 0) 81 3 0) 81 4 0) 81 5 0) 81 6 0) 81 7 0) J (u2 (u2 R 81 0 (some 82)) 81 1 (some 83)) (84) := Zr.putI hZ9 (by decide)
  show WK K 2 24 49 [(0, .ref 81)] [] (S1_X8_init I J R) J (u2 (u2 R 81 0 (some 82)) 81 1 (some 83)) (84) 0
  have hZ11 : Zr ((FI_X8_init (S1_X8_init I J R) J)) J (u2 (u2 R 81 0 (some 82)) 81 1 (some 83)) (84) := Zr.x8 hZ10 (by decide)
  refine wk_in true ?_
  exact g_X8w ok fin (by decide) (by decide) rfl (by decide) (by simp (disch := omega) [u2]) (h_X8w _ _) (by rw [x8_emb, eJ_self]; exact Pd.i)
set_option maxHeartbeats 1000000 in
set_option maxRecDepth 40000 in
theorem z_X8_init  {I : SI} {J : SJ} {R : SR}  (hZ : Zr I J R (82)) : Zr (KI_X8_init I J R) (KJ_X8_init I J R) (KR_X8_init I J R) (84) := by
  have hZ1 : Zr I J R (83) := Zr.up hZ
  have hZ2 : Zr I J (u2 R 81 0 (some 82)) (83) := Zr.putR hZ1 (by decide)
  have hZ3 : Zr I J (u2 R 81 0 (some 82)) (84) := Zr.up hZ2
  have hZ4 : Zr I J (u2 (u2 R 81 0 (some 82)) 81 1 (some 83)) (84) := Zr.putR hZ3 (by decide)
  have hZ5 : Zr (u2 I 81 2 0) J (u2 (u2 R 81 0 (some 82)) 81 1 (some 83)) (84) := Zr.putI hZ4 (by decide)
  have hZ6 : Zr (u2 (u2 I 81 2 0) 81 3 0) J (u2 (u2 R 81 0 (some 82)) 81 1 (some 83)) (84) := Zr.putI hZ5 (by decide)
  have hZ7 : Zr (u2 (u2 (u2 I 81 2 0) 81 3 0) 81 4 0) J (u2 (u2 R 81 0 (some 82)) 81 1 (some 83)) (84) := Zr.putI hZ6 (by decide)
  have hZ8 : Zr (u2 (u2 (u2 (u2 I 81 2 0) 81 3 0) 81 4 0) 81 5 0) J (u2 (u2 R 81 0 (some 82)) 81 1 (some 83)) (84) := Zr.putI hZ7 (by decide)
  have hZ9 : Zr (u2 (u2 (u2 (u2 (u2 I 81 2 0) 81 3 0) 81 4 0) 81 5 0) 81 6 0) J (u2 (u2 R 81 0 (some 82)) 81 1 (some 83)) (84) := Zr.putI hZ8 (by decide)
  have hZ10 : Zr (u2 (u2 (u2 (u2 (u2 (u2 I 81 2 0) 81 3 0) 81 4 0) 81 5 0) 81 6 0) 81 7 0) J (u2 (u2 R 81 0 (some 82)) 81 1 (some 83)) (84) := Zr.putI hZ9 (by decide)
  have hZ11 : Zr ((FI_X8_init (S1_X8_init I J R) J)) J (u2 (u2 R 81 0 (some 82)) 81 1 (some 83)) (84) := Zr.x8 hZ10 (by decide)
  exact hZ11
set_option maxHeartbeats 1000000 in
set_option maxRecDepth 40000 in
theorem kr_X8_init  {I : SI} {J : SJ} {R : SR} {a b : Nat} (ha : a < 81) : KR_X8_init I J R a b = R a b := by
  unfold KR_X8_init
  have h1 : a ≠ 81 := by omega
  simp (disch := omega) [u2, h1]
def S1_X4_init (I : SI) (J : SJ) (R : SR) : SI := (KI_X8_init (u2 (u2 (KI_X9_init 42 I J R) 41 1 0) 41 2 (-1)) (KJ_X9_init 42 I J R) (u2 (KR_X9_init 42 I J R) 41 0 (some 42)))
def S2_X4_init (I : SI) (J : SJ) (R : SR) : SJ := (KJ_X8_init (u2 (u2 (KI_X9_init 42 I J R) 41 1 0) 41 2 (-1)) (KJ_X9_init 42 I J R) (u2 (KR_X9_init 42 I J R) 41 0 (some 42)))
def S3_X4_init (I : SI) (J : SJ) (R : SR) : SR := (KR_X8_init (u2 (u2 (KI_X9_init 42 I J R) 41 1 0) 41 2 (-1)) (KJ_X9_init 42 I J R) (u2 (KR_X9_init 42 I J R) 41 0 (some 42)))
def S4_X4_init (I : SI) (J : SJ) (R : SR) : SR := u2 (u2 (u2 (S3_X4_init I J R) 41 3 (some 81)) 41 4 (some 84)) 41 5 (some 85)
def KI_X4_init (I : SI) (J : SJ) (R : SR) : SI := u2 (u2 (S1_X4_init I J R) 41 6 0) 41 7 0
def KJ_X4_init (I : SI) (J : SJ) (R : SR) : SJ := (S2_X4_init I J R)
def KR_X4_init (I : SI) (J : SJ) (R : SR) : SR := (S4_X4_init I J R)
set_option maxHeartbeats 1000000 in
set_option maxRecDepth 40000 in
theorem k_X4_init  {I : SI} {J : SJ} {R : SR}  (hZ : Zr I J R (42)) : MM 5 44 1020 mX4_init [.ref 41] I J R (42) 0 (Pd none (KI_X4_init I J R) (KJ_X4_init I J R) (KR_X4_init I J R) (86) 0) := by
  refine MM.of (by decide) (Nat.le_of_ble_eq_true rfl) fun K ok fin => ?_
  show WK K 0 0 0 [(0, .ref 41)] [] I J R (42) 0
  refine w_aload_n ok dX4_init_0 0 rfl ?_
  refine w_obj ok dX4_init_1 (iT_1 200 (by decide +kernel) (by decide +kernel)) (iT_1 32 (by decide +kernel) (by decide +kernel)) (iT_1 33 (by decide +kernel) (by decide +kernel)) (Nat.le_of_ble_eq_true rfl) ?_
  refine w_aload_n ok dX4_init_4 0 rfl ?_
  refine w_new (ci := 9) (N := 15) ok dX4_init_5 rfl cls9 s_42 (by decide) (iT_1 201 (by decide +kernel) (by decide +kernel)) (iT_1 35 (by decide +kernel) (by decide +kernel)) (iT_1 2 (by decide +kernel) (by decide +kernel)) hZ (cap_of fin (by decide) (by decide)) ?_
  have hZ1 : Zr I J R (43) := Zr.up hZ
  refine w_dup ok dX4_init_8 rfl ?_
  refine w_cI (As := []) (mc := 38) (ms := 829) ok dX4_init_9 iX9_init (lX4_11 rfl) (k_X9_init (k := 42)  isTo_42 hZ1) (by decide) rfl (Nat.le_of_ble_eq_true rfl) (cap_of fin (by decide) (by decide)) ?_
  have hZ2 : Zr (KI_X9_init 42 I J R) (KJ_X9_init 42 I J R) (KR_X9_init 42 I J R) (81) := z_X9_init (k := 42)  isTo_42 hZ1
  refine w_putRF ok dX4_init_12 (ffX4_12 rfl rfl) (congrArg Prod.fst s_41) rfl (by decide) ?_
  have hZ3 : Zr (KI_X9_init 42 I J R) (KJ_X9_init 42 I J R) (u2 (KR_X9_init 42 I J R) 41 0 (some 42)) (81) := Zr.putR hZ2 (by decide)
  refine w_aload_n ok dX4_init_15 0 rfl ?_
  refine w_iconst (v := 0) ok dX4_init_16 (by decide) ?_
  refine w_putI ok dX4_init_17 (fwX4_18 rfl) (congrArg Prod.fst s_41) rfl (by decide) ?_
  have hZ4 : Zr (u2 (KI_X9_init 42 I J R) 41 1 0) (KJ_X9_init 42 I J R) (u2 (KR_X9_init 42 I J R) 41 0 (some 42)) (81) := Zr.putI hZ3 (by decide)
  refine w_aload_n ok dX4_init_20 0 rfl ?_
  refine w_iconst (v := (-1)) ok dX4_init_21 (by decide) ?_
  refine w_putI ok dX4_init_22 (fwX4_22 rfl) (congrArg Prod.fst s_41) rfl (by decide) ?_
  have hZ5 : Zr (u2 (u2 (KI_X9_init 42 I J R) 41 1 0) 41 2 (-1)) (KJ_X9_init 42 I J R) (u2 (KR_X9_init 42 I J R) 41 0 (some 42)) (81) := Zr.putI hZ4 (by decide)
  refine w_aload_n ok dX4_init_25 0 rfl ?_
  refine w_new (ci := 8) (N := 8) ok dX4_init_26 rfl cls8 s_81 (by decide) (iT_1 203 (by decide +kernel) (by decide +kernel)) (iT_1 204 (by decide +kernel) (by decide +kernel)) (iT_1 7 (by decide +kernel) (by decide +kernel)) hZ5 (cap_of fin (by decide) (by decide)) ?_
  have hZ6 : Zr (u2 (u2 (KI_X9_init 42 I J R) 41 1 0) 41 2 (-1)) (KJ_X9_init 42 I J R) (u2 (KR_X9_init 42 I J R) 41 0 (some 42)) (82) := Zr.up hZ5
  refine w_dup ok dX4_init_29 rfl ?_
  refine w_cI (As := []) (mc := 2) (ms := 24) ok dX4_init_30 iX8_init (lX4_27 rfl) (k_X8_init hZ6) (by decide) rfl (Nat.le_of_ble_eq_true rfl) (cap_of fin (by decide) (by decide)) ?_
  have hZ7 : Zr ((KI_X8_init (u2 (u2 (KI_X9_init 42 I J R) 41 1 0) 41 2 (-1)) (KJ_X9_init 42 I J R) (u2 (KR_X9_init 42 I J R) 41 0 (some 42)))) ((KJ_X8_init (u2 (u2 (KI_X9_init 42 I J R) 41 1 0) 41 2 (-1)) (KJ_X9_init 42 I J R) (u2 (KR_X9_init 42 I J R) 41 0 (some 42)))) ((KR_X8_init (u2 (u2 (KI_X9_init 42 I J R) 41 1 0) 41 2 (-1)) (KJ_X9_init 42 I J R) (u2 (KR_X9_init 42 I J R) 41 0 (some 42)))) (84) := z_X8_init hZ6
  show WK K 42 876 33 [(0, .ref 41)] [.ref 81, .ref 41] (S1_X4_init I J R) (S2_X4_init I J R) (S3_X4_init I J R) (84) 0
  refine w_putRF ok dX4_init_33 (ffX4_28 rfl rfl) (congrArg Prod.fst s_41) rfl (by decide) ?_
  have hZ8 : Zr (S1_X4_init I J R) (S2_X4_init I J R) (u2 (S3_X4_init I J R) 41 3 (some 81)) (84) := Zr.putR hZ7 (by decide)
  refine w_aload_n ok dX4_init_36 0 rfl ?_
  refine w_bipush (v := 72) ok dX4_init_37 (by decide) ?_
  refine w_newI (len := 72) ok dX4_init_39 rfl s_84 (by decide) (by decide) (by decide) (iT_1 84 (by decide +kernel) (by decide +kernel)) hZ8 (cap_of fin (by decide) (by decide)) ?_
  have hZ9 : Zr (S1_X4_init I J R) (S2_X4_init I J R) (u2 (S3_X4_init I J R) 41 3 (some 81)) (85) := Zr.up hZ8
  refine w_putRF ok dX4_init_41 (ffX4_32 rfl rfl) (congrArg Prod.fst s_41) rfl (by decide) ?_
  have hZ10 : Zr (S1_X4_init I J R) (S2_X4_init I J R) (u2 (u2 (S3_X4_init I J R) 41 3 (some 81)) 41 4 (some 84)) (85) := Zr.putR hZ9 (by decide)
  refine w_aload_n ok dX4_init_44 0 rfl ?_
  refine w_bipush (v := 72) ok dX4_init_45 (by decide) ?_
  refine w_newI (len := 72) ok dX4_init_47 rfl s_85 (by decide) (by decide) (by decide) (iT_1 84 (by decide +kernel) (by decide +kernel)) hZ10 (cap_of fin (by decide) (by decide)) ?_
  have hZ11 : Zr (S1_X4_init I J R) (S2_X4_init I J R) (u2 (u2 (S3_X4_init I J R) 41 3 (some 81)) 41 4 (some 84)) (86) := Zr.up hZ10
  refine w_putRF ok dX4_init_49 (ffX4_36 rfl rfl) (congrArg Prod.fst s_41) rfl (by decide) ?_
  have hZ12 : Zr (S1_X4_init I J R) (S2_X4_init I J R) (u2 (u2 (u2 (S3_X4_init I J R) 41 3 (some 81)) 41 4 (some 84)) 41 5 (some 85)) (86) := Zr.putR hZ11 (by decide)
  show WK K 44 1020 52 [(0, .ref 41)] [] (S1_X4_init I J R) (S2_X4_init I J R) (S4_X4_init I J R) (86) 0
  refine w_aload_n ok dX4_init_52 0 rfl ?_
  refine w_iconst (v := 0) ok dX4_init_53 (by decide) ?_
  refine w_putI ok dX4_init_54 (fwX4_39 rfl) (congrArg Prod.fst s_41) rfl (by decide) ?_
  have hZ13 : Zr (u2 (S1_X4_init I J R) 41 6 0) (S2_X4_init I J R) (S4_X4_init I J R) (86) := Zr.putI hZ12 (by decide)
  refine w_aload_n ok dX4_init_57 0 rfl ?_
  refine w_iconst (v := 0) ok dX4_init_58 (by decide) ?_
  refine w_putI ok dX4_init_59 (fwX4_42 rfl) (congrArg Prod.fst s_41) rfl (by decide) ?_
  have hZ14 : Zr (u2 (u2 (S1_X4_init I J R) 41 6 0) 41 7 0) (S2_X4_init I J R) (S4_X4_init I J R) (86) := Zr.putI hZ13 (by decide)
  exact w_vret ok fin dX4_init_62 rfl Pd.i
set_option maxHeartbeats 1000000 in
set_option maxRecDepth 40000 in
theorem z_X4_init  {I : SI} {J : SJ} {R : SR}  (hZ : Zr I J R (42)) : Zr (KI_X4_init I J R) (KJ_X4_init I J R) (KR_X4_init I J R) (86) := by
  have hZ1 : Zr I J R (43) := Zr.up hZ
  have hZ2 : Zr (KI_X9_init 42 I J R) (KJ_X9_init 42 I J R) (KR_X9_init 42 I J R) (81) := z_X9_init (k := 42)  isTo_42 hZ1
  have hZ3 : Zr (KI_X9_init 42 I J R) (KJ_X9_init 42 I J R) (u2 (KR_X9_init 42 I J R) 41 0 (some 42)) (81) := Zr.putR hZ2 (by decide)
  have hZ4 : Zr (u2 (KI_X9_init 42 I J R) 41 1 0) (KJ_X9_init 42 I J R) (u2 (KR_X9_init 42 I J R) 41 0 (some 42)) (81) := Zr.putI hZ3 (by decide)
  have hZ5 : Zr (u2 (u2 (KI_X9_init 42 I J R) 41 1 0) 41 2 (-1)) (KJ_X9_init 42 I J R) (u2 (KR_X9_init 42 I J R) 41 0 (some 42)) (81) := Zr.putI hZ4 (by decide)
  have hZ6 : Zr (u2 (u2 (KI_X9_init 42 I J R) 41 1 0) 41 2 (-1)) (KJ_X9_init 42 I J R) (u2 (KR_X9_init 42 I J R) 41 0 (some 42)) (82) := Zr.up hZ5
  have hZ7 : Zr ((KI_X8_init (u2 (u2 (KI_X9_init 42 I J R) 41 1 0) 41 2 (-1)) (KJ_X9_init 42 I J R) (u2 (KR_X9_init 42 I J R) 41 0 (some 42)))) ((KJ_X8_init (u2 (u2 (KI_X9_init 42 I J R) 41 1 0) 41 2 (-1)) (KJ_X9_init 42 I J R) (u2 (KR_X9_init 42 I J R) 41 0 (some 42)))) ((KR_X8_init (u2 (u2 (KI_X9_init 42 I J R) 41 1 0) 41 2 (-1)) (KJ_X9_init 42 I J R) (u2 (KR_X9_init 42 I J R) 41 0 (some 42)))) (84) := z_X8_init hZ6
  have hZ8 : Zr (S1_X4_init I J R) (S2_X4_init I J R) (u2 (S3_X4_init I J R) 41 3 (some 81)) (84) := Zr.putR hZ7 (by decide)
  have hZ9 : Zr (S1_X4_init I J R) (S2_X4_init I J R) (u2 (S3_X4_init I J R) 41 3 (some 81)) (85) := Zr.up hZ8
  have hZ10 : Zr (S1_X4_init I J R) (S2_X4_init I J R) (u2 (u2 (S3_X4_init I J R) 41 3 (some 81)) 41 4 (some 84)) (85) := Zr.putR hZ9 (by decide)
  have hZ11 : Zr (S1_X4_init I J R) (S2_X4_init I J R) (u2 (u2 (S3_X4_init I J R) 41 3 (some 81)) 41 4 (some 84)) (86) := Zr.up hZ10
  have hZ12 : Zr (S1_X4_init I J R) (S2_X4_init I J R) (u2 (u2 (u2 (S3_X4_init I J R) 41 3 (some 81)) 41 4 (some 84)) 41 5 (some 85)) (86) := Zr.putR hZ11 (by decide)
  have hZ13 : Zr (u2 (S1_X4_init I J R) 41 6 0) (S2_X4_init I J R) (S4_X4_init I J R) (86) := Zr.putI hZ12 (by decide)
  have hZ14 : Zr (u2 (u2 (S1_X4_init I J R) 41 6 0) 41 7 0) (S2_X4_init I J R) (S4_X4_init I J R) (86) := Zr.putI hZ13 (by decide)
  exact hZ14
set_option maxHeartbeats 1000000 in
set_option maxRecDepth 40000 in
theorem kr_X4_init  {I : SI} {J : SJ} {R : SR} {a b : Nat} (ha : a < 41) : KR_X4_init I J R a b = R a b := by
  unfold KR_X4_init
  have h1 : a ≠ 41 := by omega
  simp (disch := omega) [u2, h1, S3_X4_init, S4_X4_init, kr_X8_init, kr_X9_init]
def S1_X11_init (I : SI) (J : SJ) (R : SR) : SI := (KI_X4_init ((KI_X9_init 2 (u2 I 0 1 0) J (u2 R 0 0 (some 1)))) ((KJ_X9_init 2 (u2 I 0 1 0) J (u2 R 0 0 (some 1)))) (u2 ((KR_X9_init 2 (u2 I 0 1 0) J (u2 R 0 0 (some 1)))) 0 2 (some 2)))
def S2_X11_init (I : SI) (J : SJ) (R : SR) : SJ := (KJ_X4_init ((KI_X9_init 2 (u2 I 0 1 0) J (u2 R 0 0 (some 1)))) ((KJ_X9_init 2 (u2 I 0 1 0) J (u2 R 0 0 (some 1)))) (u2 ((KR_X9_init 2 (u2 I 0 1 0) J (u2 R 0 0 (some 1)))) 0 2 (some 2)))
def S3_X11_init (I : SI) (J : SJ) (R : SR) : SR := (KR_X4_init ((KI_X9_init 2 (u2 I 0 1 0) J (u2 R 0 0 (some 1)))) ((KJ_X9_init 2 (u2 I 0 1 0) J (u2 R 0 0 (some 1)))) (u2 ((KR_X9_init 2 (u2 I 0 1 0) J (u2 R 0 0 (some 1)))) 0 2 (some 2)))
def S4_X11_init (I : SI) (J : SJ) (R : SR) : SI := (KI_X5_init 86 (S1_X11_init I J R) (S2_X11_init I J R) (u2 (S3_X11_init I J R) 0 3 (some 41)))
def S5_X11_init (I : SI) (J : SJ) (R : SR) : SJ := (KJ_X5_init 86 (S1_X11_init I J R) (S2_X11_init I J R) (u2 (S3_X11_init I J R) 0 3 (some 41)))
def S6_X11_init (I : SI) (J : SJ) (R : SR) : SR := (KR_X5_init 86 (S1_X11_init I J R) (S2_X11_init I J R) (u2 (S3_X11_init I J R) 0 3 (some 41)))
def S7_X11_init (I : SI) (J : SJ) (R : SR) : SI := (KI_X5_init 95 (S4_X11_init I J R) (S5_X11_init I J R) (u2 (S6_X11_init I J R) 0 4 (some 86)))
def S8_X11_init (I : SI) (J : SJ) (R : SR) : SJ := (KJ_X5_init 95 (S4_X11_init I J R) (S5_X11_init I J R) (u2 (S6_X11_init I J R) 0 4 (some 86)))
def S9_X11_init (I : SI) (J : SJ) (R : SR) : SR := (KR_X5_init 95 (S4_X11_init I J R) (S5_X11_init I J R) (u2 (S6_X11_init I J R) 0 4 (some 86)))
def S10_X11_init (I : SI) (J : SJ) (R : SR) : SI := (KI_X0_init (u2 (S7_X11_init I J R) 0 6 0) (S8_X11_init I J R) (u2 (S9_X11_init I J R) 0 5 (some 95)))
def S11_X11_init (I : SI) (J : SJ) (R : SR) : SJ := (KJ_X0_init (u2 (S7_X11_init I J R) 0 6 0) (S8_X11_init I J R) (u2 (S9_X11_init I J R) 0 5 (some 95)))
def S12_X11_init (I : SI) (J : SJ) (R : SR) : SR := (KR_X0_init (u2 (S7_X11_init I J R) 0 6 0) (S8_X11_init I J R) (u2 (S9_X11_init I J R) 0 5 (some 95)))
def S13_X11_init (I : SI) (J : SJ) (R : SR) : SI := (KI_X6_init (S10_X11_init I J R) (S11_X11_init I J R) (u2 (S12_X11_init I J R) 0 7 (some 104)))
def S14_X11_init (I : SI) (J : SJ) (R : SR) : SJ := (KJ_X6_init (S10_X11_init I J R) (S11_X11_init I J R) (u2 (S12_X11_init I J R) 0 7 (some 104)))
def S15_X11_init (I : SI) (J : SJ) (R : SR) : SR := (KR_X6_init (S10_X11_init I J R) (S11_X11_init I J R) (u2 (S12_X11_init I J R) 0 7 (some 104)))
def S16_X11_init (I : SI) (J : SJ) (R : SR) : SI := (KI_X10_init (S13_X11_init I J R) (S14_X11_init I J R) (u2 (S15_X11_init I J R) 0 8 (some 116)))
def S17_X11_init (I : SI) (J : SJ) (R : SR) : SJ := (KJ_X10_init (S13_X11_init I J R) (S14_X11_init I J R) (u2 (S15_X11_init I J R) 0 8 (some 116)))
def S18_X11_init (I : SI) (J : SJ) (R : SR) : SR := (KR_X10_init (S13_X11_init I J R) (S14_X11_init I J R) (u2 (S15_X11_init I J R) 0 8 (some 116)))
def S19_X11_init (I : SI) (J : SJ) (R : SR) : SI := (KI_X2_init (S16_X11_init I J R) (S17_X11_init I J R) (u2 (S18_X11_init I J R) 0 9 (some 120)))
def S20_X11_init (I : SI) (J : SJ) (R : SR) : SJ := (KJ_X2_init (S16_X11_init I J R) (S17_X11_init I J R) (u2 (S18_X11_init I J R) 0 9 (some 120)))
def S21_X11_init (I : SI) (J : SJ) (R : SR) : SR := (KR_X2_init (S16_X11_init I J R) (S17_X11_init I J R) (u2 (S18_X11_init I J R) 0 9 (some 120)))
def S22_X11_init (I : SI) (J : SJ) (R : SR) : SI := (KI_X3_init (S19_X11_init I J R) (S20_X11_init I J R) (u2 (S21_X11_init I J R) 0 10 (some 124)))
def S23_X11_init (I : SI) (J : SJ) (R : SR) : SJ := (KJ_X3_init (S19_X11_init I J R) (S20_X11_init I J R) (u2 (S21_X11_init I J R) 0 10 (some 124)))
def S24_X11_init (I : SI) (J : SJ) (R : SR) : SR := (KR_X3_init (S19_X11_init I J R) (S20_X11_init I J R) (u2 (S21_X11_init I J R) 0 10 (some 124)))
def S25_X11_init (I : SI) (J : SJ) (R : SR) : SI := (eI (true, (S22_X11_init I J R), (S23_X11_init I J R)) (FI_X5_open 86 2 (S22_X11_init I J R) (S23_X11_init I J R)))
def S26_X11_init (I : SI) (J : SJ) (R : SR) : SJ := (eJ (true, (S22_X11_init I J R), (S23_X11_init I J R)) (FJ_X5_open 86 2 (S22_X11_init I J R) (S23_X11_init I J R)))
def KI_X11_init (I : SI) (J : SJ) (R : SR) : SI := (S25_X11_init I J R)
def KJ_X11_init (I : SI) (J : SJ) (R : SR) : SJ := (S26_X11_init I J R)
def KR_X11_init (I : SI) (J : SJ) (R : SR) : SR := u2 (S24_X11_init I J R) 0 11 (some 128)
set_option maxHeartbeats 1000000 in
set_option maxRecDepth 40000 in
theorem k_X11_init  {I : SI} {J : SJ} {R : SR} (hro : RO (u2 (S24_X11_init I J R) 0 11 (some 128)))  (hZ : Zr I J R (1)) : MM 6 129 3116 mX11_init [.ref 0] I J R (1) 0 (Pd none (KI_X11_init I J R) (KJ_X11_init I J R) (KR_X11_init I J R) (130) 0) := by
  refine MM.of (by decide) (Nat.le_of_ble_eq_true rfl) fun K ok fin => ?_
  show WK K 0 0 0 [(0, .ref 0)] [] I J R (1) 0
  refine w_aload_n ok dX11_init_0 0 rfl ?_
  refine w_obj ok dX11_init_1 (iT_1 31 (by decide +kernel) (by decide +kernel)) (iT_1 32 (by decide +kernel) (by decide +kernel)) (iT_1 33 (by decide +kernel) (by decide +kernel)) (Nat.le_of_ble_eq_true rfl) ?_
  refine w_aload_n ok dX11_init_4 0 rfl ?_
  refine w_sipush (v := 700) ok dX11_init_5 (by decide) ?_
  refine w_newB (len := 700) ok dX11_init_8 rfl s_1 (by decide) (by decide) (by decide) (iT_1 83 (by decide +kernel) (by decide +kernel)) hZ (cap_of fin (by decide) (by decide)) ?_
  have hZ1 : Zr I J R (2) := Zr.up hZ
  refine w_putRF ok dX11_init_10 (ffX11_9 rfl rfl) (congrArg Prod.fst s_0) rfl (by decide) ?_
  have hZ2 : Zr I J (u2 R 0 0 (some 1)) (2) := Zr.putR hZ1 (by decide)
  refine w_aload_n ok dX11_init_13 0 rfl ?_
  refine w_iconst (v := 0) ok dX11_init_14 (by decide) ?_
  refine w_putI ok dX11_init_15 (fwX11_13 rfl) (congrArg Prod.fst s_0) rfl (by decide) ?_
  have hZ3 : Zr (u2 I 0 1 0) J (u2 R 0 0 (some 1)) (2) := Zr.putI hZ2 (by decide)
  refine w_aload_n ok dX11_init_18 0 rfl ?_
  refine w_new (ci := 9) (N := 15) ok dX11_init_19 rfl cls9 s_2 (by decide) (iT_1 34 (by decide +kernel) (by decide +kernel)) (iT_1 35 (by decide +kernel) (by decide +kernel)) (iT_1 2 (by decide +kernel) (by decide +kernel)) hZ3 (cap_of fin (by decide) (by decide)) ?_
  have hZ4 : Zr (u2 I 0 1 0) J (u2 R 0 0 (some 1)) (3) := Zr.up hZ3
  refine w_dup ok dX11_init_22 rfl ?_
  refine w_cI (As := []) (mc := 38) (ms := 829) ok dX11_init_23 iX9_init (lX11_19 rfl) (k_X9_init (k := 2)  isTo_2 hZ4) (by decide) rfl (Nat.le_of_ble_eq_true rfl) (cap_of fin (by decide) (by decide)) ?_
  have hZ5 : Zr ((KI_X9_init 2 (u2 I 0 1 0) J (u2 R 0 0 (some 1)))) ((KJ_X9_init 2 (u2 I 0 1 0) J (u2 R 0 0 (some 1)))) ((KR_X9_init 2 (u2 I 0 1 0) J (u2 R 0 0 (some 1)))) (41) := z_X9_init (k := 2)  isTo_2 hZ4
  refine w_putRF ok dX11_init_26 (ffX11_20 rfl rfl) (congrArg Prod.fst s_0) rfl (by decide) ?_
  have hZ6 : Zr ((KI_X9_init 2 (u2 I 0 1 0) J (u2 R 0 0 (some 1)))) ((KJ_X9_init 2 (u2 I 0 1 0) J (u2 R 0 0 (some 1)))) (u2 ((KR_X9_init 2 (u2 I 0 1 0) J (u2 R 0 0 (some 1)))) 0 2 (some 2)) (41) := Zr.putR hZ5 (by decide)
  refine w_aload_n ok dX11_init_29 0 rfl ?_
  refine w_new (ci := 4) (N := 8) ok dX11_init_30 rfl cls4 s_41 (by decide) (iT_1 195 (by decide +kernel) (by decide +kernel)) (iT_1 196 (by decide +kernel) (by decide +kernel)) (iT_1 6 (by decide +kernel) (by decide +kernel)) hZ6 (cap_of fin (by decide) (by decide)) ?_
  have hZ7 : Zr ((KI_X9_init 2 (u2 I 0 1 0) J (u2 R 0 0 (some 1)))) ((KJ_X9_init 2 (u2 I 0 1 0) J (u2 R 0 0 (some 1)))) (u2 ((KR_X9_init 2 (u2 I 0 1 0) J (u2 R 0 0 (some 1)))) 0 2 (some 2)) (42) := Zr.up hZ6
  refine w_dup ok dX11_init_33 rfl ?_
  refine w_cI (As := []) (mc := 44) (ms := 1020) ok dX11_init_34 iX4_init (lX11_26 rfl) (k_X4_init hZ7) (by decide) rfl (Nat.le_of_ble_eq_true rfl) (cap_of fin (by decide) (by decide)) ?_
  have hZ8 : Zr ((KI_X4_init ((KI_X9_init 2 (u2 I 0 1 0) J (u2 R 0 0 (some 1)))) ((KJ_X9_init 2 (u2 I 0 1 0) J (u2 R 0 0 (some 1)))) (u2 ((KR_X9_init 2 (u2 I 0 1 0) J (u2 R 0 0 (some 1)))) 0 2 (some 2)))) ((KJ_X4_init ((KI_X9_init 2 (u2 I 0 1 0) J (u2 R 0 0 (some 1)))) ((KJ_X9_init 2 (u2 I 0 1 0) J (u2 R 0 0 (some 1)))) (u2 ((KR_X9_init 2 (u2 I 0 1 0) J (u2 R 0 0 (some 1)))) 0 2 (some 2)))) ((KR_X4_init ((KI_X9_init 2 (u2 I 0 1 0) J (u2 R 0 0 (some 1)))) ((KJ_X9_init 2 (u2 I 0 1 0) J (u2 R 0 0 (some 1)))) (u2 ((KR_X9_init 2 (u2 I 0 1 0) J (u2 R 0 0 (some 1)))) 0 2 (some 2)))) (86) := z_X4_init hZ7
  show WK K 85 2572 37 [(0, .ref 0)] [.ref 41, .ref 0] (S1_X11_init I J R) (S2_X11_init I J R) (S3_X11_init I J R) (86) 0
  refine w_putRF ok dX11_init_37 (ffX11_27 rfl rfl) (congrArg Prod.fst s_0) rfl (by decide) ?_
  have hZ9 : Zr (S1_X11_init I J R) (S2_X11_init I J R) (u2 (S3_X11_init I J R) 0 3 (some 41)) (86) := Zr.putR hZ8 (by decide)
  refine w_aload_n ok dX11_init_40 0 rfl ?_
  refine w_new (ci := 5) (N := 15) ok dX11_init_41 rfl cls5 s_86 (by decide) (iT_2 84 (by decide +kernel) (by decide +kernel)) (iT_2 85 (by decide +kernel) (by decide +kernel)) (iT_1 12 (by decide +kernel) (by decide +kernel)) hZ9 (cap_of fin (by decide) (by decide)) ?_
  have hZ10 : Zr (S1_X11_init I J R) (S2_X11_init I J R) (u2 (S3_X11_init I J R) 0 3 (some 41)) (87) := Zr.up hZ9
  refine w_dup ok dX11_init_44 rfl ?_
  refine w_cI (As := []) (mc := 8) (ms := 92) ok dX11_init_45 iX5_init (lX11_33 rfl) (k_X5_init (k := 86)  isSc_86 hZ10) (by decide) rfl (Nat.le_of_ble_eq_true rfl) (cap_of fin (by decide) (by decide)) ?_
  have hZ11 : Zr ((KI_X5_init 86 (S1_X11_init I J R) (S2_X11_init I J R) (u2 (S3_X11_init I J R) 0 3 (some 41)))) ((KJ_X5_init 86 (S1_X11_init I J R) (S2_X11_init I J R) (u2 (S3_X11_init I J R) 0 3 (some 41)))) ((KR_X5_init 86 (S1_X11_init I J R) (S2_X11_init I J R) (u2 (S3_X11_init I J R) 0 3 (some 41)))) (95) := z_X5_init (k := 86)  isSc_86 hZ10
  show WK K 94 2679 48 [(0, .ref 0)] [.ref 86, .ref 0] (S4_X11_init I J R) (S5_X11_init I J R) (S6_X11_init I J R) (95) 0
  refine w_putRF ok dX11_init_48 (ffX11_34 rfl rfl) (congrArg Prod.fst s_0) rfl (by decide) ?_
  have hZ12 : Zr (S4_X11_init I J R) (S5_X11_init I J R) (u2 (S6_X11_init I J R) 0 4 (some 86)) (95) := Zr.putR hZ11 (by decide)
  refine w_aload_n ok dX11_init_51 0 rfl ?_
  refine w_new (ci := 5) (N := 15) ok dX11_init_52 rfl cls5 s_95 (by decide) (iT_2 84 (by decide +kernel) (by decide +kernel)) (iT_2 85 (by decide +kernel) (by decide +kernel)) (iT_1 12 (by decide +kernel) (by decide +kernel)) hZ12 (cap_of fin (by decide) (by decide)) ?_
  have hZ13 : Zr (S4_X11_init I J R) (S5_X11_init I J R) (u2 (S6_X11_init I J R) 0 4 (some 86)) (96) := Zr.up hZ12
  refine w_dup ok dX11_init_55 rfl ?_
  refine w_cI (As := []) (mc := 8) (ms := 92) ok dX11_init_56 iX5_init (lX11_33 rfl) (k_X5_init (k := 95)  isSc_95 hZ13) (by decide) rfl (Nat.le_of_ble_eq_true rfl) (cap_of fin (by decide) (by decide)) ?_
  have hZ14 : Zr ((KI_X5_init 95 (S4_X11_init I J R) (S5_X11_init I J R) (u2 (S6_X11_init I J R) 0 4 (some 86)))) ((KJ_X5_init 95 (S4_X11_init I J R) (S5_X11_init I J R) (u2 (S6_X11_init I J R) 0 4 (some 86)))) ((KR_X5_init 95 (S4_X11_init I J R) (S5_X11_init I J R) (u2 (S6_X11_init I J R) 0 4 (some 86)))) (104) := z_X5_init (k := 95)  isSc_95 hZ13
  show WK K 103 2786 59 [(0, .ref 0)] [.ref 95, .ref 0] (S7_X11_init I J R) (S8_X11_init I J R) (S9_X11_init I J R) (104) 0
  refine w_putRF ok dX11_init_59 (ffX11_38 rfl rfl) (congrArg Prod.fst s_0) rfl (by decide) ?_
  have hZ15 : Zr (S7_X11_init I J R) (S8_X11_init I J R) (u2 (S9_X11_init I J R) 0 5 (some 95)) (104) := Zr.putR hZ14 (by decide)
  refine w_aload_n ok dX11_init_62 0 rfl ?_
  refine w_iconst (v := 0) ok dX11_init_63 (by decide) ?_
  refine w_putZ ok dX11_init_64 (fwX11_41 rfl) (congrArg Prod.fst s_0) rfl (by decide) (by decide) ?_
  have hZ16 : Zr (u2 (S7_X11_init I J R) 0 6 0) (S8_X11_init I J R) (u2 (S9_X11_init I J R) 0 5 (some 95)) (104) := Zr.putI hZ15 (by decide)
  refine w_aload_n ok dX11_init_67 0 rfl ?_
  refine w_new (ci := 0) (N := 8) ok dX11_init_68 rfl cls0 s_104 (by decide) (iT_2 171 (by decide +kernel) (by decide +kernel)) (iT_2 172 (by decide +kernel) (by decide +kernel)) (iT_1 13 (by decide +kernel) (by decide +kernel)) hZ16 (cap_of fin (by decide) (by decide)) ?_
  have hZ17 : Zr (u2 (S7_X11_init I J R) 0 6 0) (S8_X11_init I J R) (u2 (S9_X11_init I J R) 0 5 (some 95)) (105) := Zr.up hZ16
  refine w_dup ok dX11_init_71 rfl ?_
  refine w_aload_n ok dX11_init_72 0 rfl ?_
  refine w_getR (r := 2) ok dX11_init_73 (fX11_20 rfl) (congrArg Prod.fst s_0) rfl (by simp (disch := omega) [u2, S1_X11_init, S2_X11_init, S3_X11_init, S4_X11_init, S5_X11_init, S6_X11_init, S9_X11_init, kr_X4_init, kr_X5_init, kr_X9_init]) (by decide) ?_
  refine w_cI (As := [.ref 2]) (mc := 11) (ms := 120) ok dX11_init_76 iX0_init (lX11_47 rfl) (k_X0_init hZ17) (by decide) rfl (Nat.le_of_ble_eq_true rfl) (cap_of fin (by decide) (by decide)) ?_
  have hZ18 : Zr ((KI_X0_init (u2 (S7_X11_init I J R) 0 6 0) (S8_X11_init I J R) (u2 (S9_X11_init I J R) 0 5 (some 95)))) ((KJ_X0_init (u2 (S7_X11_init I J R) 0 6 0) (S8_X11_init I J R) (u2 (S9_X11_init I J R) 0 5 (some 95)))) ((KR_X0_init (u2 (S7_X11_init I J R) 0 6 0) (S8_X11_init I J R) (u2 (S9_X11_init I J R) 0 5 (some 95)))) (116) := z_X0_init hZ17
  show WK K 115 2914 79 [(0, .ref 0)] [.ref 104, .ref 0] (S10_X11_init I J R) (S11_X11_init I J R) (S12_X11_init I J R) (116) 0
  refine w_putRF ok dX11_init_79 (ffX11_50 rfl rfl) (congrArg Prod.fst s_0) rfl (by decide) ?_
  have hZ19 : Zr (S10_X11_init I J R) (S11_X11_init I J R) (u2 (S12_X11_init I J R) 0 7 (some 104)) (116) := Zr.putR hZ18 (by decide)
  refine w_aload_n ok dX11_init_82 0 rfl ?_
  refine w_new (ci := 6) (N := 5) ok dX11_init_83 rfl cls6 s_116 (by decide) (iT_2 207 (by decide +kernel) (by decide +kernel)) (iT_2 208 (by decide +kernel) (by decide +kernel)) (iT_1 14 (by decide +kernel) (by decide +kernel)) hZ19 (cap_of fin (by decide) (by decide)) ?_
  have hZ20 : Zr (S10_X11_init I J R) (S11_X11_init I J R) (u2 (S12_X11_init I J R) 0 7 (some 104)) (117) := Zr.up hZ19
  refine w_dup ok dX11_init_86 rfl ?_
  refine w_cI (As := []) (mc := 3) (ms := 72) ok dX11_init_87 iX6_init (lX11_56 rfl) (k_X6_init hZ20) (by decide) rfl (Nat.le_of_ble_eq_true rfl) (cap_of fin (by decide) (by decide)) ?_
  have hZ21 : Zr ((KI_X6_init (S10_X11_init I J R) (S11_X11_init I J R) (u2 (S12_X11_init I J R) 0 7 (some 104)))) ((KJ_X6_init (S10_X11_init I J R) (S11_X11_init I J R) (u2 (S12_X11_init I J R) 0 7 (some 104)))) ((KR_X6_init (S10_X11_init I J R) (S11_X11_init I J R) (u2 (S12_X11_init I J R) 0 7 (some 104)))) (120) := z_X6_init hZ20
  show WK K 119 2991 90 [(0, .ref 0)] [.ref 116, .ref 0] (S13_X11_init I J R) (S14_X11_init I J R) (S15_X11_init I J R) (120) 0
  refine w_putRF ok dX11_init_90 (ffX11_57 rfl rfl) (congrArg Prod.fst s_0) rfl (by decide) ?_
  have hZ22 : Zr (S13_X11_init I J R) (S14_X11_init I J R) (u2 (S15_X11_init I J R) 0 8 (some 116)) (120) := Zr.putR hZ21 (by decide)
  refine w_aload_n ok dX11_init_93 0 rfl ?_
  refine w_new (ci := 10) (N := 4) ok dX11_init_94 rfl cls10 s_120 (by decide) (iT_2 231 (by decide +kernel) (by decide +kernel)) (iT_2 232 (by decide +kernel) (by decide +kernel)) (iT_1 15 (by decide +kernel) (by decide +kernel)) hZ22 (cap_of fin (by decide) (by decide)) ?_
  have hZ23 : Zr (S13_X11_init I J R) (S14_X11_init I J R) (u2 (S15_X11_init I J R) 0 8 (some 116)) (121) := Zr.up hZ22
  refine w_dup ok dX11_init_97 rfl ?_
  refine w_cI (As := []) (mc := 3) (ms := 60) ok dX11_init_98 iX10_init (lX11_63 rfl) (k_X10_init hZ23) (by decide) rfl (Nat.le_of_ble_eq_true rfl) (cap_of fin (by decide) (by decide)) ?_
  have hZ24 : Zr ((KI_X10_init (S13_X11_init I J R) (S14_X11_init I J R) (u2 (S15_X11_init I J R) 0 8 (some 116)))) ((KJ_X10_init (S13_X11_init I J R) (S14_X11_init I J R) (u2 (S15_X11_init I J R) 0 8 (some 116)))) ((KR_X10_init (S13_X11_init I J R) (S14_X11_init I J R) (u2 (S15_X11_init I J R) 0 8 (some 116)))) (124) := z_X10_init hZ23
  show WK K 123 3055 101 [(0, .ref 0)] [.ref 120, .ref 0] (S16_X11_init I J R) (S17_X11_init I J R) (S18_X11_init I J R) (124) 0
  refine w_putRF ok dX11_init_101 (ffX11_64 rfl rfl) (congrArg Prod.fst s_0) rfl (by decide) ?_
  have hZ25 : Zr (S16_X11_init I J R) (S17_X11_init I J R) (u2 (S18_X11_init I J R) 0 9 (some 120)) (124) := Zr.putR hZ24 (by decide)
  refine w_aload_n ok dX11_init_104 0 rfl ?_
  refine w_new (ci := 2) (N := 5) ok dX11_init_105 rfl cls2 s_124 (by decide) (iT_3 11 (by decide +kernel) (by decide +kernel)) (iT_3 12 (by decide +kernel) (by decide +kernel)) (iT_1 16 (by decide +kernel) (by decide +kernel)) hZ25 (cap_of fin (by decide) (by decide)) ?_
  have hZ26 : Zr (S16_X11_init I J R) (S17_X11_init I J R) (u2 (S18_X11_init I J R) 0 9 (some 120)) (125) := Zr.up hZ25
  refine w_dup ok dX11_init_108 rfl ?_
  refine w_aload_n ok dX11_init_109 0 rfl ?_
  refine w_getR (r := 2) ok dX11_init_110 (fX11_20 rfl) (congrArg Prod.fst s_0) rfl (by simp (disch := omega) [u2, S10_X11_init, S11_X11_init, S12_X11_init, S13_X11_init, S14_X11_init, S15_X11_init, S18_X11_init, S1_X11_init, S2_X11_init, S3_X11_init, S4_X11_init, S5_X11_init, S6_X11_init, S7_X11_init, S8_X11_init, S9_X11_init, kr_X0_init, kr_X10_init, kr_X4_init, kr_X5_init, kr_X6_init, kr_X9_init]) (by decide) ?_
  refine w_cI (As := [.ref 2]) (mc := 3) (ms := 48) ok dX11_init_113 iX2_init (lX11_70 rfl) (k_X2_init hZ26) (by decide) rfl (Nat.le_of_ble_eq_true rfl) (cap_of fin (by decide) (by decide)) ?_
  have hZ27 : Zr ((KI_X2_init (S16_X11_init I J R) (S17_X11_init I J R) (u2 (S18_X11_init I J R) 0 9 (some 120)))) ((KJ_X2_init (S16_X11_init I J R) (S17_X11_init I J R) (u2 (S18_X11_init I J R) 0 9 (some 120)))) ((KR_X2_init (S16_X11_init I J R) (S17_X11_init I J R) (u2 (S18_X11_init I J R) 0 9 (some 120)))) (128) := z_X2_init hZ26
  show WK K 127 3108 116 [(0, .ref 0)] [.ref 124, .ref 0] (S19_X11_init I J R) (S20_X11_init I J R) (S21_X11_init I J R) (128) 0
  refine w_putRF ok dX11_init_116 (ffX11_71 rfl rfl) (congrArg Prod.fst s_0) rfl (by decide) ?_
  have hZ28 : Zr (S19_X11_init I J R) (S20_X11_init I J R) (u2 (S21_X11_init I J R) 0 10 (some 124)) (128) := Zr.putR hZ27 (by decide)
  refine w_aload_n ok dX11_init_119 0 rfl ?_
  refine w_new (ci := 3) (N := 4) ok dX11_init_120 rfl cls3 s_128 (by decide) (iT_3 35 (by decide +kernel) (by decide +kernel)) (iT_3 36 (by decide +kernel) (by decide +kernel)) (iT_1 17 (by decide +kernel) (by decide +kernel)) hZ28 (cap_of fin (by decide) (by decide)) ?_
  have hZ29 : Zr (S19_X11_init I J R) (S20_X11_init I J R) (u2 (S21_X11_init I J R) 0 10 (some 124)) (129) := Zr.up hZ28
  refine w_dup ok dX11_init_123 rfl ?_
  refine w_cI (As := []) (mc := 1) (ms := 4) ok dX11_init_124 iX3_init (lX11_77 rfl) (k_X3_init hZ29) (by decide) rfl (Nat.le_of_ble_eq_true rfl) (cap_of fin (by decide) (by decide)) ?_
  have hZ30 : Zr ((KI_X3_init (S19_X11_init I J R) (S20_X11_init I J R) (u2 (S21_X11_init I J R) 0 10 (some 124)))) ((KJ_X3_init (S19_X11_init I J R) (S20_X11_init I J R) (u2 (S21_X11_init I J R) 0 10 (some 124)))) ((KR_X3_init (S19_X11_init I J R) (S20_X11_init I J R) (u2 (S21_X11_init I J R) 0 10 (some 124)))) (130) := z_X3_init hZ29
  show WK K 129 3116 127 [(0, .ref 0)] [.ref 128, .ref 0] (S22_X11_init I J R) (S23_X11_init I J R) (S24_X11_init I J R) (130) 0
  refine w_putRF ok dX11_init_127 (ffX11_78 rfl rfl) (congrArg Prod.fst s_0) rfl (by decide) ?_
  have hZ31 : Zr (S22_X11_init I J R) (S23_X11_init I J R) (u2 (S24_X11_init I J R) 0 11 (some 128)) (130) := Zr.putR hZ30 (by decide)
  refine w_aload_n ok dX11_init_130 0 rfl ?_
  refine w_getR (r := 86) ok dX11_init_131 (fX11_34 rfl) (congrArg Prod.fst s_0) rfl (by simp (disch := omega) [u2, S10_X11_init, S11_X11_init, S12_X11_init, S13_X11_init, S14_X11_init, S15_X11_init, S16_X11_init, S17_X11_init, S18_X11_init, S19_X11_init, S1_X11_init, S20_X11_init, S21_X11_init, S24_X11_init, S2_X11_init, S3_X11_init, S4_X11_init, S5_X11_init, S6_X11_init, S7_X11_init, S8_X11_init, S9_X11_init, kr_X0_init, kr_X10_init, kr_X2_init, kr_X3_init, kr_X4_init, kr_X5_init, kr_X6_init, kr_X9_init]) (by decide) ?_
  refine w_aload_n ok dX11_init_134 0 rfl ?_
  refine w_getR (r := 2) ok dX11_init_135 (fX11_20 rfl) (congrArg Prod.fst s_0) rfl (by simp (disch := omega) [u2, S10_X11_init, S11_X11_init, S12_X11_init, S13_X11_init, S14_X11_init, S15_X11_init, S16_X11_init, S17_X11_init, S18_X11_init, S19_X11_init, S1_X11_init, S20_X11_init, S21_X11_init, S24_X11_init, S2_X11_init, S3_X11_init, S4_X11_init, S5_X11_init, S6_X11_init, S7_X11_init, S8_X11_init, S9_X11_init, kr_X0_init, kr_X10_init, kr_X2_init, kr_X3_init, kr_X4_init, kr_X5_init, kr_X6_init, kr_X9_init]) (by decide) ?_
  refine wk_in true ?_
  refine w_cV (As := [.ref 2]) ok dX11_init_138 iX5_open (lX11_82 rfl) (rcv cls5 (congrArg Prod.fst s_86)) (by decide) (c_X5_open hro (by decide) rfl  isSc_86 isTo_2) (by decide) rfl (Nat.le_of_ble_eq_true rfl) ?_
  have hZ32 : Zr ((eI (true, (S22_X11_init I J R), (S23_X11_init I J R)) (FI_X5_open 86 2 (S22_X11_init I J R) (S23_X11_init I J R)))) ((eJ (true, (S22_X11_init I J R), (S23_X11_init I J R)) (FJ_X5_open 86 2 (S22_X11_init I J R) (S23_X11_init I J R)))) (u2 (S24_X11_init I J R) 0 11 (some 128)) (130) := Zr.emb hZ31 (by decide)
  show WK K 129 3116 141 [(0, .ref 0)] [] (S25_X11_init I J R) (S26_X11_init I J R) (u2 (S24_X11_init I J R) 0 11 (some 128)) (130) 0
  exact w_vret ok fin dX11_init_141 rfl Pd.i
set_option maxHeartbeats 1000000 in
set_option maxRecDepth 40000 in
theorem z_X11_init  {I : SI} {J : SJ} {R : SR} (hro : RO (u2 (S24_X11_init I J R) 0 11 (some 128)))  (hZ : Zr I J R (1)) : Zr (KI_X11_init I J R) (KJ_X11_init I J R) (KR_X11_init I J R) (130) := by
  have hZ1 : Zr I J R (2) := Zr.up hZ
  have hZ2 : Zr I J (u2 R 0 0 (some 1)) (2) := Zr.putR hZ1 (by decide)
  have hZ3 : Zr (u2 I 0 1 0) J (u2 R 0 0 (some 1)) (2) := Zr.putI hZ2 (by decide)
  have hZ4 : Zr (u2 I 0 1 0) J (u2 R 0 0 (some 1)) (3) := Zr.up hZ3
  have hZ5 : Zr ((KI_X9_init 2 (u2 I 0 1 0) J (u2 R 0 0 (some 1)))) ((KJ_X9_init 2 (u2 I 0 1 0) J (u2 R 0 0 (some 1)))) ((KR_X9_init 2 (u2 I 0 1 0) J (u2 R 0 0 (some 1)))) (41) := z_X9_init (k := 2)  isTo_2 hZ4
  have hZ6 : Zr ((KI_X9_init 2 (u2 I 0 1 0) J (u2 R 0 0 (some 1)))) ((KJ_X9_init 2 (u2 I 0 1 0) J (u2 R 0 0 (some 1)))) (u2 ((KR_X9_init 2 (u2 I 0 1 0) J (u2 R 0 0 (some 1)))) 0 2 (some 2)) (41) := Zr.putR hZ5 (by decide)
  have hZ7 : Zr ((KI_X9_init 2 (u2 I 0 1 0) J (u2 R 0 0 (some 1)))) ((KJ_X9_init 2 (u2 I 0 1 0) J (u2 R 0 0 (some 1)))) (u2 ((KR_X9_init 2 (u2 I 0 1 0) J (u2 R 0 0 (some 1)))) 0 2 (some 2)) (42) := Zr.up hZ6
  have hZ8 : Zr ((KI_X4_init ((KI_X9_init 2 (u2 I 0 1 0) J (u2 R 0 0 (some 1)))) ((KJ_X9_init 2 (u2 I 0 1 0) J (u2 R 0 0 (some 1)))) (u2 ((KR_X9_init 2 (u2 I 0 1 0) J (u2 R 0 0 (some 1)))) 0 2 (some 2)))) ((KJ_X4_init ((KI_X9_init 2 (u2 I 0 1 0) J (u2 R 0 0 (some 1)))) ((KJ_X9_init 2 (u2 I 0 1 0) J (u2 R 0 0 (some 1)))) (u2 ((KR_X9_init 2 (u2 I 0 1 0) J (u2 R 0 0 (some 1)))) 0 2 (some 2)))) ((KR_X4_init ((KI_X9_init 2 (u2 I 0 1 0) J (u2 R 0 0 (some 1)))) ((KJ_X9_init 2 (u2 I 0 1 0) J (u2 R 0 0 (some 1)))) (u2 ((KR_X9_init 2 (u2 I 0 1 0) J (u2 R 0 0 (some 1)))) 0 2 (some 2)))) (86) := z_X4_init hZ7
  have hZ9 : Zr (S1_X11_init I J R) (S2_X11_init I J R) (u2 (S3_X11_init I J R) 0 3 (some 41)) (86) := Zr.putR hZ8 (by decide)
  have hZ10 : Zr (S1_X11_init I J R) (S2_X11_init I J R) (u2 (S3_X11_init I J R) 0 3 (some 41)) (87) := Zr.up hZ9
  have hZ11 : Zr ((KI_X5_init 86 (S1_X11_init I J R) (S2_X11_init I J R) (u2 (S3_X11_init I J R) 0 3 (some 41)))) ((KJ_X5_init 86 (S1_X11_init I J R) (S2_X11_init I J R) (u2 (S3_X11_init I J R) 0 3 (some 41)))) ((KR_X5_init 86 (S1_X11_init I J R) (S2_X11_init I J R) (u2 (S3_X11_init I J R) 0 3 (some 41)))) (95) := z_X5_init (k := 86)  isSc_86 hZ10
  have hZ12 : Zr (S4_X11_init I J R) (S5_X11_init I J R) (u2 (S6_X11_init I J R) 0 4 (some 86)) (95) := Zr.putR hZ11 (by decide)
  have hZ13 : Zr (S4_X11_init I J R) (S5_X11_init I J R) (u2 (S6_X11_init I J R) 0 4 (some 86)) (96) := Zr.up hZ12
  have hZ14 : Zr ((KI_X5_init 95 (S4_X11_init I J R) (S5_X11_init I J R) (u2 (S6_X11_init I J R) 0 4 (some 86)))) ((KJ_X5_init 95 (S4_X11_init I J R) (S5_X11_init I J R) (u2 (S6_X11_init I J R) 0 4 (some 86)))) ((KR_X5_init 95 (S4_X11_init I J R) (S5_X11_init I J R) (u2 (S6_X11_init I J R) 0 4 (some 86)))) (104) := z_X5_init (k := 95)  isSc_95 hZ13
  have hZ15 : Zr (S7_X11_init I J R) (S8_X11_init I J R) (u2 (S9_X11_init I J R) 0 5 (some 95)) (104) := Zr.putR hZ14 (by decide)
  have hZ16 : Zr (u2 (S7_X11_init I J R) 0 6 0) (S8_X11_init I J R) (u2 (S9_X11_init I J R) 0 5 (some 95)) (104) := Zr.putI hZ15 (by decide)
  have hZ17 : Zr (u2 (S7_X11_init I J R) 0 6 0) (S8_X11_init I J R) (u2 (S9_X11_init I J R) 0 5 (some 95)) (105) := Zr.up hZ16
  have hZ18 : Zr ((KI_X0_init (u2 (S7_X11_init I J R) 0 6 0) (S8_X11_init I J R) (u2 (S9_X11_init I J R) 0 5 (some 95)))) ((KJ_X0_init (u2 (S7_X11_init I J R) 0 6 0) (S8_X11_init I J R) (u2 (S9_X11_init I J R) 0 5 (some 95)))) ((KR_X0_init (u2 (S7_X11_init I J R) 0 6 0) (S8_X11_init I J R) (u2 (S9_X11_init I J R) 0 5 (some 95)))) (116) := z_X0_init hZ17
  have hZ19 : Zr (S10_X11_init I J R) (S11_X11_init I J R) (u2 (S12_X11_init I J R) 0 7 (some 104)) (116) := Zr.putR hZ18 (by decide)
  have hZ20 : Zr (S10_X11_init I J R) (S11_X11_init I J R) (u2 (S12_X11_init I J R) 0 7 (some 104)) (117) := Zr.up hZ19
  have hZ21 : Zr ((KI_X6_init (S10_X11_init I J R) (S11_X11_init I J R) (u2 (S12_X11_init I J R) 0 7 (some 104)))) ((KJ_X6_init (S10_X11_init I J R) (S11_X11_init I J R) (u2 (S12_X11_init I J R) 0 7 (some 104)))) ((KR_X6_init (S10_X11_init I J R) (S11_X11_init I J R) (u2 (S12_X11_init I J R) 0 7 (some 104)))) (120) := z_X6_init hZ20
  have hZ22 : Zr (S13_X11_init I J R) (S14_X11_init I J R) (u2 (S15_X11_init I J R) 0 8 (some 116)) (120) := Zr.putR hZ21 (by decide)
  have hZ23 : Zr (S13_X11_init I J R) (S14_X11_init I J R) (u2 (S15_X11_init I J R) 0 8 (some 116)) (121) := Zr.up hZ22
  have hZ24 : Zr ((KI_X10_init (S13_X11_init I J R) (S14_X11_init I J R) (u2 (S15_X11_init I J R) 0 8 (some 116)))) ((KJ_X10_init (S13_X11_init I J R) (S14_X11_init I J R) (u2 (S15_X11_init I J R) 0 8 (some 116)))) ((KR_X10_init (S13_X11_init I J R) (S14_X11_init I J R) (u2 (S15_X11_init I J R) 0 8 (some 116)))) (124) := z_X10_init hZ23
  have hZ25 : Zr (S16_X11_init I J R) (S17_X11_init I J R) (u2 (S18_X11_init I J R) 0 9 (some 120)) (124) := Zr.putR hZ24 (by decide)
  have hZ26 : Zr (S16_X11_init I J R) (S17_X11_init I J R) (u2 (S18_X11_init I J R) 0 9 (some 120)) (125) := Zr.up hZ25
  have hZ27 : Zr ((KI_X2_init (S16_X11_init I J R) (S17_X11_init I J R) (u2 (S18_X11_init I J R) 0 9 (some 120)))) ((KJ_X2_init (S16_X11_init I J R) (S17_X11_init I J R) (u2 (S18_X11_init I J R) 0 9 (some 120)))) ((KR_X2_init (S16_X11_init I J R) (S17_X11_init I J R) (u2 (S18_X11_init I J R) 0 9 (some 120)))) (128) := z_X2_init hZ26
  have hZ28 : Zr (S19_X11_init I J R) (S20_X11_init I J R) (u2 (S21_X11_init I J R) 0 10 (some 124)) (128) := Zr.putR hZ27 (by decide)
  have hZ29 : Zr (S19_X11_init I J R) (S20_X11_init I J R) (u2 (S21_X11_init I J R) 0 10 (some 124)) (129) := Zr.up hZ28
  have hZ30 : Zr ((KI_X3_init (S19_X11_init I J R) (S20_X11_init I J R) (u2 (S21_X11_init I J R) 0 10 (some 124)))) ((KJ_X3_init (S19_X11_init I J R) (S20_X11_init I J R) (u2 (S21_X11_init I J R) 0 10 (some 124)))) ((KR_X3_init (S19_X11_init I J R) (S20_X11_init I J R) (u2 (S21_X11_init I J R) 0 10 (some 124)))) (130) := z_X3_init hZ29
  have hZ31 : Zr (S22_X11_init I J R) (S23_X11_init I J R) (u2 (S24_X11_init I J R) 0 11 (some 128)) (130) := Zr.putR hZ30 (by decide)
  have hZ32 : Zr ((eI (true, (S22_X11_init I J R), (S23_X11_init I J R)) (FI_X5_open 86 2 (S22_X11_init I J R) (S23_X11_init I J R)))) ((eJ (true, (S22_X11_init I J R), (S23_X11_init I J R)) (FJ_X5_open 86 2 (S22_X11_init I J R) (S23_X11_init I J R)))) (u2 (S24_X11_init I J R) 0 11 (some 128)) (130) := Zr.emb hZ31 (by decide)
  exact hZ32
set_option maxHeartbeats 1000000 in
set_option maxRecDepth 40000 in
theorem kr_X11_init  {I : SI} {J : SJ} {R : SR} {a b : Nat} (ha : a < 0) : KR_X11_init I J R a b = R a b := by
  unfold KR_X11_init
  have h1 : a ≠ 0 := by omega
  simp (disch := omega) [u2, h1, S12_X11_init, S15_X11_init, S18_X11_init, S21_X11_init, S24_X11_init, S3_X11_init, S6_X11_init, S9_X11_init, kr_X0_init, kr_X10_init, kr_X2_init, kr_X3_init, kr_X4_init, kr_X5_init, kr_X6_init, kr_X9_init]
