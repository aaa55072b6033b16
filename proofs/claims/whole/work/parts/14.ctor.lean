/-! constructors, by program -/
def S1_X1_init (k : Nat) (I : SI) (J : SJ) (R : SR) : SR := u2 (u2 (u2 R k 2 (some (k + 1))) k 3 (some (k + 2))) k 4 (some (k + 3))
def KI_X1_init (k : Nat) (I : SI) (J : SJ) (R : SR) : SI := u2 (u2 I k 0 0) k 1 0
def KJ_X1_init (k : Nat) (I : SI) (J : SJ) (R : SR) : SJ := J
def KR_X1_init (k : Nat) (I : SI) (J : SJ) (R : SR) : SR := (S1_X1_init k I J R)
set_option maxHeartbeats 1000000 in
set_option maxRecDepth 40000 in
theorem k_X1_init {k : Nat} {I : SI} {J : SJ} {R : SR} (hk : IsLw k) (hZ : Zr I J R (k + 1)) : MM 1 3 192 mX1_init [.ref k] I J R (k + 1) 0 (Pd none (KI_X1_init k I J R) (KJ_X1_init k I J R) (KR_X1_init k I J R) (k + 4) 0) := by
  refine MM.of (by decide) (Nat.le_of_ble_eq_true rfl) fun K ok fin => ?_
  show WK K 0 0 0 [(0, .ref k)] [] I J R (k + 1) 0
  refine w_aload_n ok dX1_init_0 0 rfl ?_
  refine w_obj ok dX1_init_1 (iT_1 90 (by decide +kernel) (by decide +kernel)) (iT_1 32 (by decide +kernel) (by decide +kernel)) (iT_1 33 (by decide +kernel) (by decide +kernel)) (Nat.le_of_ble_eq_true rfl) ?_
  refine w_aload_n ok dX1_init_4 0 rfl ?_
  refine w_iconst (v := 0) ok dX1_init_5 (by decide) ?_
  refine w_putZ ok dX1_init_6 (fwX1_9 rfl) (congrArg Prod.fst (sLw hk)) rfl (by decide) (by omega) ?_
  have hZ1 : Zr (u2 I k 0 0) J R (k + 1) := Zr.putI hZ (by omega)
  refine w_aload_n ok dX1_init_9 0 rfl ?_
  refine w_iconst (v := 0) ok dX1_init_10 (by decide) ?_
  refine w_putI ok dX1_init_11 (fwX1_15 rfl) (congrArg Prod.fst (sLw hk)) rfl (by omega) ?_
  have hZ2 : Zr (u2 (u2 I k 0 0) k 1 0) J R (k + 1) := Zr.putI hZ1 (by omega)
  refine w_aload_n ok dX1_init_14 0 rfl ?_
  refine w_bipush (v := 64) ok dX1_init_15 (by decide) ?_
  refine w_newI (len := 64) ok dX1_init_17 rfl (sLw_2 hk) (by decide) (by decide) (by decide) (iT_1 84 (by decide +kernel) (by decide +kernel)) hZ2 (cap_of fin (by decide) (by decide)) ?_
  have hZ3 : Zr (u2 (u2 I k 0 0) k 1 0) J R (k + 2) := Zr.up hZ2
  refine w_putRF ok dX1_init_19 (ffX1_19 rfl rfl) (congrArg Prod.fst (sLw hk)) rfl (by omega) ?_
  have hZ4 : Zr (u2 (u2 I k 0 0) k 1 0) J (u2 R k 2 (some (k + 1))) (k + 2) := Zr.putR hZ3 (by omega)
  refine w_aload_n ok dX1_init_22 0 rfl ?_
  refine w_bipush (v := 64) ok dX1_init_23 (by decide) ?_
  refine w_newI (len := 64) ok dX1_init_25 rfl (sLw_3 hk) (by decide) (by decide) (by decide) (iT_1 84 (by decide +kernel) (by decide +kernel)) hZ4 (cap_of fin (by decide) (by decide)) ?_
  have hZ5 : Zr (u2 (u2 I k 0 0) k 1 0) J (u2 R k 2 (some (k + 1))) (k + 3) := Zr.up hZ4
  refine w_putRF ok dX1_init_27 (ffX1_23 rfl rfl) (congrArg Prod.fst (sLw hk)) rfl (by omega) ?_
  have hZ6 : Zr (u2 (u2 I k 0 0) k 1 0) J (u2 (u2 R k 2 (some (k + 1))) k 3 (some (k + 2))) (k + 3) := Zr.putR hZ5 (by omega)
  refine w_aload_n ok dX1_init_30 0 rfl ?_
  refine w_bipush (v := 64) ok dX1_init_31 (by decide) ?_
  refine w_newL (len := 64) ok dX1_init_33 rfl (sLw_4 hk) (by decide) (by decide) (by decide) (iT_1 109 (by decide +kernel) (by decide +kernel)) hZ6 (cap_of fin (by decide) (by decide)) ?_
  have hZ7 : Zr (u2 (u2 I k 0 0) k 1 0) J (u2 (u2 R k 2 (some (k + 1))) k 3 (some (k + 2))) (k + 4) := Zr.up hZ6
  refine w_putRF ok dX1_init_35 (ffX1_26 rfl rfl) (congrArg Prod.fst (sLw hk)) rfl (by omega) ?_
  have hZ8 : Zr (u2 (u2 I k 0 0) k 1 0) J (u2 (u2 (u2 R k 2 (some (k + 1))) k 3 (some (k + 2))) k 4 (some (k + 3))) (k + 4) := Zr.putR hZ7 (by omega)
  show WK K 3 192 38 [(0, .ref k)] [] (u2 (u2 I k 0 0) k 1 0) J (S1_X1_init k I J R) (k + 4) 0
  exact w_vret ok fin dX1_init_38 rfl Pd.i
set_option maxHeartbeats 1000000 in
set_option maxRecDepth 40000 in
theorem z_X1_init {k : Nat} {I : SI} {J : SJ} {R : SR} (hk : IsLw k) (hZ : Zr I J R (k + 1)) : Zr (KI_X1_init k I J R) (KJ_X1_init k I J R) (KR_X1_init k I J R) (k + 4) := by
  have hZ1 : Zr (u2 I k 0 0) J R (k + 1) := Zr.putI hZ (by omega)
  have hZ2 : Zr (u2 (u2 I k 0 0) k 1 0) J R (k + 1) := Zr.putI hZ1 (by omega)
  have hZ3 : Zr (u2 (u2 I k 0 0) k 1 0) J R (k + 2) := Zr.up hZ2
  have hZ4 : Zr (u2 (u2 I k 0 0) k 1 0) J (u2 R k 2 (some (k + 1))) (k + 2) := Zr.putR hZ3 (by omega)
  have hZ5 : Zr (u2 (u2 I k 0 0) k 1 0) J (u2 R k 2 (some (k + 1))) (k + 3) := Zr.up hZ4
  have hZ6 : Zr (u2 (u2 I k 0 0) k 1 0) J (u2 (u2 R k 2 (some (k + 1))) k 3 (some (k + 2))) (k + 3) := Zr.putR hZ5 (by omega)
  have hZ7 : Zr (u2 (u2 I k 0 0) k 1 0) J (u2 (u2 R k 2 (some (k + 1))) k 3 (some (k + 2))) (k + 4) := Zr.up hZ6
  have hZ8 : Zr (u2 (u2 I k 0 0) k 1 0) J (u2 (u2 (u2 R k 2 (some (k + 1))) k 3 (some (k + 2))) k 4 (some (k + 3))) (k + 4) := Zr.putR hZ7 (by omega)
  exact hZ8
set_option maxHeartbeats 1000000 in
set_option maxRecDepth 40000 in
theorem kr_X1_init {k : Nat} {I : SI} {J : SJ} {R : SR} {a b : Nat} (ha : a < k) : KR_X1_init k I J R a b = R a b := by
  unfold KR_X1_init
  have h1 : a ≠ k := by omega
  simp (disch := omega) [u2, h1, S1_X1_init]
def S1_X7_init (k : Nat) (a0 : Int32) (I : SI) (J : SJ) (R : SR) : SR := u2 (u2 (u2 R k 2 (some (k + 1))) k 3 (some (k + 2))) k 4 (some (k + 3))
def KI_X7_init (k : Nat) (a0 : Int32) (I : SI) (J : SJ) (R : SR) : SI := u2 (u2 I k 1 0) k 0 (minI a0 8)
def KJ_X7_init (k : Nat) (a0 : Int32) (I : SI) (J : SJ) (R : SR) : SJ := J
def KR_X7_init (k : Nat) (a0 : Int32) (I : SI) (J : SJ) (R : SR) : SR := u2 (S1_X7_init k a0 I J R) k 5 (some (k + 4))
set_option maxHeartbeats 1000000 in
set_option maxRecDepth 40000 in
theorem k_X7_init {k : Nat} (a0 : Int32) {I : SI} {J : SJ} {R : SR} (hk : IsTb k) (hZ : Zr I J R (k + 1)) : MM 1 4 32 mX7_init [.ref k, .int a0] I J R (k + 1) 0 (Pd none (KI_X7_init k a0 I J R) (KJ_X7_init k a0 I J R) (KR_X7_init k a0 I J R) (k + 5) 0) := by
  refine MM.of (by decide) (Nat.le_of_ble_eq_true rfl) fun K ok fin => ?_
  show WK K 0 0 0 [(0, .ref k), (1, .int a0)] [] I J R (k + 1) 0
  refine w_aload_n ok dX7_init_0 0 rfl ?_
  refine w_obj ok dX7_init_1 (iT_1 45 (by decide +kernel) (by decide +kernel)) (iT_1 32 (by decide +kernel) (by decide +kernel)) (iT_1 33 (by decide +kernel) (by decide +kernel)) (Nat.le_of_ble_eq_true rfl) ?_
  refine w_aload_n ok dX7_init_4 0 rfl ?_
  refine w_iconst (v := 0) ok dX7_init_5 (by decide) ?_
  refine w_putI ok dX7_init_6 (fwX7_9 rfl) (congrArg Prod.fst (sTb hk)) rfl (by omega) ?_
  have hZ1 : Zr (u2 I k 1 0) J R (k + 1) := Zr.putI hZ (by omega)
  refine w_aload_n ok dX7_init_9 0 rfl ?_
  refine w_bipush (v := 8) ok dX7_init_10 (by decide) ?_
  refine w_newI (len := 8) ok dX7_init_12 rfl (sTb_2 hk) (by decide) (by decide) (by decide) (iT_1 84 (by decide +kernel) (by decide +kernel)) hZ1 (cap_of fin (by decide) (by decide)) ?_
  have hZ2 : Zr (u2 I k 1 0) J R (k + 2) := Zr.up hZ1
  refine w_putRF ok dX7_init_14 (ffX7_15 rfl rfl) (congrArg Prod.fst (sTb hk)) rfl (by omega) ?_
  have hZ3 : Zr (u2 I k 1 0) J (u2 R k 2 (some (k + 1))) (k + 2) := Zr.putR hZ2 (by omega)
  refine w_aload_n ok dX7_init_17 0 rfl ?_
  refine w_bipush (v := 8) ok dX7_init_18 (by decide) ?_
  refine w_newI (len := 8) ok dX7_init_20 rfl (sTb_3 hk) (by decide) (by decide) (by decide) (iT_1 84 (by decide +kernel) (by decide +kernel)) hZ3 (cap_of fin (by decide) (by decide)) ?_
  have hZ4 : Zr (u2 I k 1 0) J (u2 R k 2 (some (k + 1))) (k + 3) := Zr.up hZ3
  refine w_putRF ok dX7_init_22 (ffX7_19 rfl rfl) (congrArg Prod.fst (sTb hk)) rfl (by omega) ?_
  have hZ5 : Zr (u2 I k 1 0) J (u2 (u2 R k 2 (some (k + 1))) k 3 (some (k + 2))) (k + 3) := Zr.putR hZ4 (by omega)
  refine w_aload_n ok dX7_init_25 0 rfl ?_
  refine w_bipush (v := 8) ok dX7_init_26 (by decide) ?_
  refine w_newI (len := 8) ok dX7_init_28 rfl (sTb_4 hk) (by decide) (by decide) (by decide) (iT_1 84 (by decide +kernel) (by decide +kernel)) hZ5 (cap_of fin (by decide) (by decide)) ?_
  have hZ6 : Zr (u2 I k 1 0) J (u2 (u2 R k 2 (some (k + 1))) k 3 (some (k + 2))) (k + 4) := Zr.up hZ5
  refine w_putRF ok dX7_init_30 (ffX7_22 rfl rfl) (congrArg Prod.fst (sTb hk)) rfl (by omega) ?_
  have hZ7 : Zr (u2 I k 1 0) J (u2 (u2 (u2 R k 2 (some (k + 1))) k 3 (some (k + 2))) k 4 (some (k + 3))) (k + 4) := Zr.putR hZ6 (by omega)
  show WK K 3 24 33 [(0, .ref k), (1, .int a0)] [] (u2 I k 1 0) J (S1_X7_init k a0 I J R) (k + 4) 0
  refine w_aload_n ok dX7_init_33 0 rfl ?_
  refine w_bipush (v := 8) ok dX7_init_34 (by decide) ?_
  refine w_newI (len := 8) ok dX7_init_36 rfl (sTb_5 hk) (by decide) (by decide) (by decide) (iT_1 84 (by decide +kernel) (by decide +kernel)) hZ7 (cap_of fin (by decide) (by decide)) ?_
  have hZ8 : Zr (u2 I k 1 0) J (S1_X7_init k a0 I J R) (k + 5) := Zr.up hZ7
  refine w_putRF ok dX7_init_38 (ffX7_25 rfl rfl) (congrArg Prod.fst (sTb hk)) rfl (by omega) ?_
  have hZ9 : Zr (u2 I k 1 0) J (u2 (S1_X7_init k a0 I J R) k 5 (some (k + 4))) (k + 5) := Zr.putR hZ8 (by omega)
  refine w_aload_n ok dX7_init_41 0 rfl ?_
  refine w_iload_n ok dX7_init_42 1 rfl ?_
  refine w_bipush (v := 8) ok dX7_init_43 (by decide) ?_
  refine w_minI ok dX7_init_45 (iT_1 46 (by decide +kernel) (by decide +kernel)) (Nat.le_of_ble_eq_true rfl) ?_
  refine w_putIF ok dX7_init_48 (ffX7_34 rfl rfl) (congrArg Prod.fst (sTb hk)) rfl (by omega) ?_
  have hZ10 : Zr (u2 (u2 I k 1 0) k 0 (minI a0 8)) J (u2 (S1_X7_init k a0 I J R) k 5 (some (k + 4))) (k + 5) := Zr.putI hZ9 (by omega)
  exact w_vret ok fin dX7_init_51 rfl Pd.i
set_option maxHeartbeats 1000000 in
set_option maxRecDepth 40000 in
theorem z_X7_init {k : Nat} (a0 : Int32) {I : SI} {J : SJ} {R : SR} (hk : IsTb k) (hZ : Zr I J R (k + 1)) : Zr (KI_X7_init k a0 I J R) (KJ_X7_init k a0 I J R) (KR_X7_init k a0 I J R) (k + 5) := by
  have hZ1 : Zr (u2 I k 1 0) J R (k + 1) := Zr.putI hZ (by omega)
  have hZ2 : Zr (u2 I k 1 0) J R (k + 2) := Zr.up hZ1
  have hZ3 : Zr (u2 I k 1 0) J (u2 R k 2 (some (k + 1))) (k + 2) := Zr.putR hZ2 (by omega)
  have hZ4 : Zr (u2 I k 1 0) J (u2 R k 2 (some (k + 1))) (k + 3) := Zr.up hZ3
  have hZ5 : Zr (u2 I k 1 0) J (u2 (u2 R k 2 (some (k + 1))) k 3 (some (k + 2))) (k + 3) := Zr.putR hZ4 (by omega)
  have hZ6 : Zr (u2 I k 1 0) J (u2 (u2 R k 2 (some (k + 1))) k 3 (some (k + 2))) (k + 4) := Zr.up hZ5
  have hZ7 : Zr (u2 I k 1 0) J (u2 (u2 (u2 R k 2 (some (k + 1))) k 3 (some (k + 2))) k 4 (some (k + 3))) (k + 4) := Zr.putR hZ6 (by omega)
  have hZ8 : Zr (u2 I k 1 0) J (S1_X7_init k a0 I J R) (k + 5) := Zr.up hZ7
  have hZ9 : Zr (u2 I k 1 0) J (u2 (S1_X7_init k a0 I J R) k 5 (some (k + 4))) (k + 5) := Zr.putR hZ8 (by omega)
  have hZ10 : Zr (u2 (u2 I k 1 0) k 0 (minI a0 8)) J (u2 (S1_X7_init k a0 I J R) k 5 (some (k + 4))) (k + 5) := Zr.putI hZ9 (by omega)
  exact hZ10
set_option maxHeartbeats 1000000 in
set_option maxRecDepth 40000 in
theorem kr_X7_init {k : Nat} {a0 : Int32} {I : SI} {J : SJ} {R : SR} {a b : Nat} (ha : a < k) : KR_X7_init k a0 I J R a b = R a b := by
  unfold KR_X7_init
  have h1 : a ≠ k := by omega
  simp (disch := omega) [u2, h1, S1_X7_init]
def S1_X5_init (k : Nat) (I : SI) (J : SJ) (R : SR) : SR := u2 (u2 (u2 R k 7 (some (k + 1))) k 8 (some (k + 2))) k 9 (some (k + 3))
def S2_X5_init (k : Nat) (I : SI) (J : SJ) (R : SR) : SR := u2 (u2 (u2 (S1_X5_init k I J R) k 10 (some (k + 4))) k 11 (some (k + 5))) k 12 (some (k + 6))
def KI_X5_init (k : Nat) (I : SI) (J : SJ) (R : SR) : SI := u2 (u2 (u2 (u2 (u2 (u2 I k 0 0) k 1 0) k 2 0) k 3 0) k 4 0) k 5 0
def KJ_X5_init (k : Nat) (I : SI) (J : SJ) (R : SR) : SJ := u2 J k 6 0
def KR_X5_init (k : Nat) (I : SI) (J : SJ) (R : SR) : SR := u2 (u2 (S2_X5_init k I J R) k 13 (some (k + 7))) k 14 (some (k + 8))
set_option maxHeartbeats 1000000 in
set_option maxRecDepth 40000 in
theorem k_X5_init {k : Nat} {I : SI} {J : SJ} {R : SR} (hk : IsSc k) (hZ : Zr I J R (k + 1)) : MM 1 8 92 mX5_init [.ref k] I J R (k + 1) 0 (Pd none (KI_X5_init k I J R) (KJ_X5_init k I J R) (KR_X5_init k I J R) (k + 9) 0) := by
  refine MM.of (by decide) (Nat.le_of_ble_eq_true rfl) fun K ok fin => ?_
  show WK K 0 0 0 [(0, .ref k)] [] I J R (k + 1) 0
  refine w_aload_n ok dX5_init_0 0 rfl ?_
  refine w_obj ok dX5_init_1 (iT_2 89 (by decide +kernel) (by decide +kernel)) (iT_1 32 (by decide +kernel) (by decide +kernel)) (iT_1 33 (by decide +kernel) (by decide +kernel)) (Nat.le_of_ble_eq_true rfl) ?_
  refine w_aload_n ok dX5_init_4 0 rfl ?_
  refine w_iconst (v := 0) ok dX5_init_5 (by decide) ?_
  refine w_putI ok dX5_init_6 (fwX5_9 rfl) (congrArg Prod.fst (sSc hk)) rfl (by omega) ?_
  have hZ1 : Zr (u2 I k 0 0) J R (k + 1) := Zr.putI hZ (by omega)
  refine w_aload_n ok dX5_init_9 0 rfl ?_
  refine w_iconst (v := 0) ok dX5_init_10 (by decide) ?_
  refine w_putI ok dX5_init_11 (fwX5_15 rfl) (congrArg Prod.fst (sSc hk)) rfl (by omega) ?_
  have hZ2 : Zr (u2 (u2 I k 0 0) k 1 0) J R (k + 1) := Zr.putI hZ1 (by omega)
  refine w_aload_n ok dX5_init_14 0 rfl ?_
  refine w_iconst (v := 0) ok dX5_init_15 (by decide) ?_
  refine w_putI ok dX5_init_16 (fwX5_18 rfl) (congrArg Prod.fst (sSc hk)) rfl (by omega) ?_
  have hZ3 : Zr (u2 (u2 (u2 I k 0 0) k 1 0) k 2 0) J R (k + 1) := Zr.putI hZ2 (by omega)
  refine w_aload_n ok dX5_init_19 0 rfl ?_
  refine w_iconst (v := 0) ok dX5_init_20 (by decide) ?_
  refine w_putI ok dX5_init_21 (fwX5_21 rfl) (congrArg Prod.fst (sSc hk)) rfl (by omega) ?_
  have hZ4 : Zr (u2 (u2 (u2 (u2 I k 0 0) k 1 0) k 2 0) k 3 0) J R (k + 1) := Zr.putI hZ3 (by omega)
  refine w_aload_n ok dX5_init_24 0 rfl ?_
  refine w_iconst (v := 0) ok dX5_init_25 (by decide) ?_
  refine w_putI ok dX5_init_26 (fwX5_24 rfl) (congrArg Prod.fst (sSc hk)) rfl (by omega) ?_
  have hZ5 : Zr (u2 (u2 (u2 (u2 (u2 I k 0 0) k 1 0) k 2 0) k 3 0) k 4 0) J R (k + 1) := Zr.putI hZ4 (by omega)
  refine w_aload_n ok dX5_init_29 0 rfl ?_
  refine w_iconst (v := 0) ok dX5_init_30 (by decide) ?_
  refine w_putI ok dX5_init_31 (fwX5_27 rfl) (congrArg Prod.fst (sSc hk)) rfl (by omega) ?_
  have hZ6 : Zr (u2 (u2 (u2 (u2 (u2 (u2 I k 0 0) k 1 0) k 2 0) k 3 0) k 4 0) k 5 0) J R (k + 1) := Zr.putI hZ5 (by omega)
  refine w_aload_n ok dX5_init_34 0 rfl ?_
  refine w_lconst (v := 0) ok dX5_init_35 (by decide) ?_
  refine w_putJ ok dX5_init_36 (fwX5_30 rfl) (congrArg Prod.fst (sSc hk)) rfl (by omega) ?_
  have hZ7 : Zr (u2 (u2 (u2 (u2 (u2 (u2 I k 0 0) k 1 0) k 2 0) k 3 0) k 4 0) k 5 0) (u2 J k 6 0) R (k + 1) := Zr.putJ hZ6 (by omega)
  refine w_aload_n ok dX5_init_39 0 rfl ?_
  refine w_bipush (v := 8) ok dX5_init_40 (by decide) ?_
  refine w_newI (len := 8) ok dX5_init_42 rfl (sSc_7 hk) (by decide) (by decide) (by decide) (iT_1 84 (by decide +kernel) (by decide +kernel)) hZ7 (cap_of fin (by decide) (by decide)) ?_
  have hZ8 : Zr (u2 (u2 (u2 (u2 (u2 (u2 I k 0 0) k 1 0) k 2 0) k 3 0) k 4 0) k 5 0) (u2 J k 6 0) R (k + 2) := Zr.up hZ7
  refine w_putRF ok dX5_init_44 (ffX5_34 rfl rfl) (congrArg Prod.fst (sSc hk)) rfl (by omega) ?_
  have hZ9 : Zr (u2 (u2 (u2 (u2 (u2 (u2 I k 0 0) k 1 0) k 2 0) k 3 0) k 4 0) k 5 0) (u2 J k 6 0) (u2 R k 7 (some (k + 1))) (k + 2) := Zr.putR hZ8 (by omega)
  refine w_aload_n ok dX5_init_47 0 rfl ?_
  refine w_bipush (v := 8) ok dX5_init_48 (by decide) ?_
  refine w_newI (len := 8) ok dX5_init_50 rfl (sSc_8 hk) (by decide) (by decide) (by decide) (iT_1 84 (by decide +kernel) (by decide +kernel)) hZ9 (cap_of fin (by decide) (by decide)) ?_
  have hZ10 : Zr (u2 (u2 (u2 (u2 (u2 (u2 I k 0 0) k 1 0) k 2 0) k 3 0) k 4 0) k 5 0) (u2 J k 6 0) (u2 R k 7 (some (k + 1))) (k + 3) := Zr.up hZ9
  refine w_putRF ok dX5_init_52 (ffX5_38 rfl rfl) (congrArg Prod.fst (sSc hk)) rfl (by omega) ?_
  have hZ11 : Zr (u2 (u2 (u2 (u2 (u2 (u2 I k 0 0) k 1 0) k 2 0) k 3 0) k 4 0) k 5 0) (u2 J k 6 0) (u2 (u2 R k 7 (some (k + 1))) k 8 (some (k + 2))) (k + 3) := Zr.putR hZ10 (by omega)
  refine w_aload_n ok dX5_init_55 0 rfl ?_
  refine w_bipush (v := 8) ok dX5_init_56 (by decide) ?_
  refine w_newI (len := 8) ok dX5_init_58 rfl (sSc_9 hk) (by decide) (by decide) (by decide) (iT_1 84 (by decide +kernel) (by decide +kernel)) hZ11 (cap_of fin (by decide) (by decide)) ?_
  have hZ12 : Zr (u2 (u2 (u2 (u2 (u2 (u2 I k 0 0) k 1 0) k 2 0) k 3 0) k 4 0) k 5 0) (u2 J k 6 0) (u2 (u2 R k 7 (some (k + 1))) k 8 (some (k + 2))) (k + 4) := Zr.up hZ11
  refine w_putRF ok dX5_init_60 (ffX5_41 rfl rfl) (congrArg Prod.fst (sSc hk)) rfl (by omega) ?_
  have hZ13 : Zr (u2 (u2 (u2 (u2 (u2 (u2 I k 0 0) k 1 0) k 2 0) k 3 0) k 4 0) k 5 0) (u2 J k 6 0) (u2 (u2 (u2 R k 7 (some (k + 1))) k 8 (some (k + 2))) k 9 (some (k + 3))) (k + 4) := Zr.putR hZ12 (by omega)
  show WK K 3 24 63 [(0, .ref k)] [] (u2 (u2 (u2 (u2 (u2 (u2 I k 0 0) k 1 0) k 2 0) k 3 0) k 4 0) k 5 0) (u2 J k 6 0) (S1_X5_init k I J R) (k + 4) 0
  refine w_aload_n ok dX5_init_63 0 rfl ?_
  refine w_bipush (v := 48) ok dX5_init_64 (by decide) ?_
  refine w_newI (len := 48) ok dX5_init_66 rfl (sSc_10 hk) (by decide) (by decide) (by decide) (iT_1 84 (by decide +kernel) (by decide +kernel)) hZ13 (cap_of fin (by decide) (by decide)) ?_
  have hZ14 : Zr (u2 (u2 (u2 (u2 (u2 (u2 I k 0 0) k 1 0) k 2 0) k 3 0) k 4 0) k 5 0) (u2 J k 6 0) (S1_X5_init k I J R) (k + 5) := Zr.up hZ13
  refine w_putRF ok dX5_init_68 (ffX5_44 rfl rfl) (congrArg Prod.fst (sSc hk)) rfl (by omega) ?_
  have hZ15 : Zr (u2 (u2 (u2 (u2 (u2 (u2 I k 0 0) k 1 0) k 2 0) k 3 0) k 4 0) k 5 0) (u2 J k 6 0) (u2 (S1_X5_init k I J R) k 10 (some (k + 4))) (k + 5) := Zr.putR hZ14 (by omega)
  refine w_aload_n ok dX5_init_71 0 rfl ?_
  refine w_bipush (v := 6) ok dX5_init_72 (by decide) ?_
  refine w_newI (len := 6) ok dX5_init_74 rfl (sSc_11 hk) (by decide) (by decide) (by decide) (iT_1 84 (by decide +kernel) (by decide +kernel)) hZ15 (cap_of fin (by decide) (by decide)) ?_
  have hZ16 : Zr (u2 (u2 (u2 (u2 (u2 (u2 I k 0 0) k 1 0) k 2 0) k 3 0) k 4 0) k 5 0) (u2 J k 6 0) (u2 (S1_X5_init k I J R) k 10 (some (k + 4))) (k + 6) := Zr.up hZ15
  refine w_putRF ok dX5_init_76 (ffX5_47 rfl rfl) (congrArg Prod.fst (sSc hk)) rfl (by omega) ?_
  have hZ17 : Zr (u2 (u2 (u2 (u2 (u2 (u2 I k 0 0) k 1 0) k 2 0) k 3 0) k 4 0) k 5 0) (u2 J k 6 0) (u2 (u2 (S1_X5_init k I J R) k 10 (some (k + 4))) k 11 (some (k + 5))) (k + 6) := Zr.putR hZ16 (by omega)
  refine w_aload_n ok dX5_init_79 0 rfl ?_
  refine w_bipush (v := 6) ok dX5_init_80 (by decide) ?_
  refine w_newI (len := 6) ok dX5_init_82 rfl (sSc_12 hk) (by decide) (by decide) (by decide) (iT_1 84 (by decide +kernel) (by decide +kernel)) hZ17 (cap_of fin (by decide) (by decide)) ?_
  have hZ18 : Zr (u2 (u2 (u2 (u2 (u2 (u2 I k 0 0) k 1 0) k 2 0) k 3 0) k 4 0) k 5 0) (u2 J k 6 0) (u2 (u2 (S1_X5_init k I J R) k 10 (some (k + 4))) k 11 (some (k + 5))) (k + 7) := Zr.up hZ17
  refine w_putRF ok dX5_init_84 (ffX5_50 rfl rfl) (congrArg Prod.fst (sSc hk)) rfl (by omega) ?_
  have hZ19 : Zr (u2 (u2 (u2 (u2 (u2 (u2 I k 0 0) k 1 0) k 2 0) k 3 0) k 4 0) k 5 0) (u2 J k 6 0) (u2 (u2 (u2 (S1_X5_init k I J R) k 10 (some (k + 4))) k 11 (some (k + 5))) k 12 (some (k + 6))) (k + 7) := Zr.putR hZ18 (by omega)
  show WK K 6 84 87 [(0, .ref k)] [] (u2 (u2 (u2 (u2 (u2 (u2 I k 0 0) k 1 0) k 2 0) k 3 0) k 4 0) k 5 0) (u2 J k 6 0) (S2_X5_init k I J R) (k + 7) 0
  refine w_aload_n ok dX5_init_87 0 rfl ?_
  refine w_iconst (v := 4) ok dX5_init_88 (by decide) ?_
  refine w_newI (len := 4) ok dX5_init_89 rfl (sSc_13 hk) (by decide) (by decide) (by decide) (iT_1 84 (by decide +kernel) (by decide +kernel)) hZ19 (cap_of fin (by decide) (by decide)) ?_
  have hZ20 : Zr (u2 (u2 (u2 (u2 (u2 (u2 I k 0 0) k 1 0) k 2 0) k 3 0) k 4 0) k 5 0) (u2 J k 6 0) (S2_X5_init k I J R) (k + 8) := Zr.up hZ19
  refine w_putRF ok dX5_init_91 (ffX5_53 rfl rfl) (congrArg Prod.fst (sSc hk)) rfl (by omega) ?_
  have hZ21 : Zr (u2 (u2 (u2 (u2 (u2 (u2 I k 0 0) k 1 0) k 2 0) k 3 0) k 4 0) k 5 0) (u2 J k 6 0) (u2 (S2_X5_init k I J R) k 13 (some (k + 7))) (k + 8) := Zr.putR hZ20 (by omega)
  refine w_aload_n ok dX5_init_94 0 rfl ?_
  refine w_iconst (v := 4) ok dX5_init_95 (by decide) ?_
  refine w_newI (len := 4) ok dX5_init_96 rfl (sSc_14 hk) (by decide) (by decide) (by decide) (iT_1 84 (by decide +kernel) (by decide +kernel)) hZ21 (cap_of fin (by decide) (by decide)) ?_
  have hZ22 : Zr (u2 (u2 (u2 (u2 (u2 (u2 I k 0 0) k 1 0) k 2 0) k 3 0) k 4 0) k 5 0) (u2 J k 6 0) (u2 (S2_X5_init k I J R) k 13 (some (k + 7))) (k + 9) := Zr.up hZ21
  refine w_putRF ok dX5_init_98 (ffX5_56 rfl rfl) (congrArg Prod.fst (sSc hk)) rfl (by omega) ?_
  have hZ23 : Zr (u2 (u2 (u2 (u2 (u2 (u2 I k 0 0) k 1 0) k 2 0) k 3 0) k 4 0) k 5 0) (u2 J k 6 0) (u2 (u2 (S2_X5_init k I J R) k 13 (some (k + 7))) k 14 (some (k + 8))) (k + 9) := Zr.putR hZ22 (by omega)
  exact w_vret ok fin dX5_init_101 rfl Pd.i
set_option maxHeartbeats 1000000 in
set_option maxRecDepth 40000 in
theorem z_X5_init {k : Nat} {I : SI} {J : SJ} {R : SR} (hk : IsSc k) (hZ : Zr I J R (k + 1)) : Zr (KI_X5_init k I J R) (KJ_X5_init k I J R) (KR_X5_init k I J R) (k + 9) := by
  have hZ1 : Zr (u2 I k 0 0) J R (k + 1) := Zr.putI hZ (by omega)
  have hZ2 : Zr (u2 (u2 I k 0 0) k 1 0) J R (k + 1) := Zr.putI hZ1 (by omega)
  have hZ3 : Zr (u2 (u2 (u2 I k 0 0) k 1 0) k 2 0) J R (k + 1) := Zr.putI hZ2 (by omega)
  have hZ4 : Zr (u2 (u2 (u2 (u2 I k 0 0) k 1 0) k 2 0) k 3 0) J R (k + 1) := Zr.putI hZ3 (by omega)
  have hZ5 : Zr (u2 (u2 (u2 (u2 (u2 I k 0 0) k 1 0) k 2 0) k 3 0) k 4 0) J R (k + 1) := Zr.putI hZ4 (by omega)
  have hZ6 : Zr (u2 (u2 (u2 (u2 (u2 (u2 I k 0 0) k 1 0) k 2 0) k 3 0) k 4 0) k 5 0) J R (k + 1) := Zr.putI hZ5 (by omega)
  have hZ7 : Zr (u2 (u2 (u2 (u2 (u2 (u2 I k 0 0) k 1 0) k 2 0) k 3 0) k 4 0) k 5 0) (u2 J k 6 0) R (k + 1) := Zr.putJ hZ6 (by omega)
  have hZ8 : Zr (u2 (u2 (u2 (u2 (u2 (u2 I k 0 0) k 1 0) k 2 0) k 3 0) k 4 0) k 5 0) (u2 J k 6 0) R (k + 2) := Zr.up hZ7
  have hZ9 : Zr (u2 (u2 (u2 (u2 (u2 (u2 I k 0 0) k 1 0) k 2 0) k 3 0) k 4 0) k 5 0) (u2 J k 6 0) (u2 R k 7 (some (k + 1))) (k + 2) := Zr.putR hZ8 (by omega)
  have hZ10 : Zr (u2 (u2 (u2 (u2 (u2 (u2 I k 0 0) k 1 0) k 2 0) k 3 0) k 4 0) k 5 0) (u2 J k 6 0) (u2 R k 7 (some (k + 1))) (k + 3) := Zr.up hZ9
  have hZ11 : Zr (u2 (u2 (u2 (u2 (u2 (u2 I k 0 0) k 1 0) k 2 0) k 3 0) k 4 0) k 5 0) (u2 J k 6 0) (u2 (u2 R k 7 (some (k + 1))) k 8 (some (k + 2))) (k + 3) := Zr.putR hZ10 (by omega)
  have hZ12 : Zr (u2 (u2 (u2 (u2 (u2 (u2 I k 0 0) k 1 0) k 2 0) k 3 0) k 4 0) k 5 0) (u2 J k 6 0) (u2 (u2 R k 7 (some (k + 1))) k 8 (some (k + 2))) (k + 4) := Zr.up hZ11
  have hZ13 : Zr (u2 (u2 (u2 (u2 (u2 (u2 I k 0 0) k 1 0) k 2 0) k 3 0) k 4 0) k 5 0) (u2 J k 6 0) (u2 (u2 (u2 R k 7 (some (k + 1))) k 8 (some (k + 2))) k 9 (some (k + 3))) (k + 4) := Zr.putR hZ12 (by omega)
  have hZ14 : Zr (u2 (u2 (u2 (u2 (u2 (u2 I k 0 0) k 1 0) k 2 0) k 3 0) k 4 0) k 5 0) (u2 J k 6 0) (S1_X5_init k I J R) (k + 5) := Zr.up hZ13
  have hZ15 : Zr (u2 (u2 (u2 (u2 (u2 (u2 I k 0 0) k 1 0) k 2 0) k 3 0) k 4 0) k 5 0) (u2 J k 6 0) (u2 (S1_X5_init k I J R) k 10 (some (k + 4))) (k + 5) := Zr.putR hZ14 (by omega)
  have hZ16 : Zr (u2 (u2 (u2 (u2 (u2 (u2 I k 0 0) k 1 0) k 2 0) k 3 0) k 4 0) k 5 0) (u2 J k 6 0) (u2 (S1_X5_init k I J R) k 10 (some (k + 4))) (k + 6) := Zr.up hZ15
  have hZ17 : Zr (u2 (u2 (u2 (u2 (u2 (u2 I k 0 0) k 1 0) k 2 0) k 3 0) k 4 0) k 5 0) (u2 J k 6 0) (u2 (u2 (S1_X5_init k I J R) k 10 (some (k + 4))) k 11 (some (k + 5))) (k + 6) := Zr.putR hZ16 (by omega)
  have hZ18 : Zr (u2 (u2 (u2 (u2 (u2 (u2 I k 0 0) k 1 0) k 2 0) k 3 0) k 4 0) k 5 0) (u2 J k 6 0) (u2 (u2 (S1_X5_init k I J R) k 10 (some (k + 4))) k 11 (some (k + 5))) (k + 7) := Zr.up hZ17
  have hZ19 : Zr (u2 (u2 (u2 (u2 (u2 (u2 I k 0 0) k 1 0) k 2 0) k 3 0) k 4 0) k 5 0) (u2 J k 6 0) (u2 (u2 (u2 (S1_X5_init k I J R) k 10 (some (k + 4))) k 11 (some (k + 5))) k 12 (some (k + 6))) (k + 7) := Zr.putR hZ18 (by omega)
  have hZ20 : Zr (u2 (u2 (u2 (u2 (u2 (u2 I k 0 0) k 1 0) k 2 0) k 3 0) k 4 0) k 5 0) (u2 J k 6 0) (S2_X5_init k I J R) (k + 8) := Zr.up hZ19
  have hZ21 : Zr (u2 (u2 (u2 (u2 (u2 (u2 I k 0 0) k 1 0) k 2 0) k 3 0) k 4 0) k 5 0) (u2 J k 6 0) (u2 (S2_X5_init k I J R) k 13 (some (k + 7))) (k + 8) := Zr.putR hZ20 (by omega)
  have hZ22 : Zr (u2 (u2 (u2 (u2 (u2 (u2 I k 0 0) k 1 0) k 2 0) k 3 0) k 4 0) k 5 0) (u2 J k 6 0) (u2 (S2_X5_init k I J R) k 13 (some (k + 7))) (k + 9) := Zr.up hZ21
  have hZ23 : Zr (u2 (u2 (u2 (u2 (u2 (u2 I k 0 0) k 1 0) k 2 0) k 3 0) k 4 0) k 5 0) (u2 J k 6 0) (u2 (u2 (S2_X5_init k I J R) k 13 (some (k + 7))) k 14 (some (k + 8))) (k + 9) := Zr.putR hZ22 (by omega)
  exact hZ23
set_option maxHeartbeats 1000000 in
set_option maxRecDepth 40000 in
theorem kr_X5_init {k : Nat} {I : SI} {J : SJ} {R : SR} {a b : Nat} (ha : a < k) : KR_X5_init k I J R a b = R a b := by
  unfold KR_X5_init
  have h1 : a ≠ k := by omega
  simp (disch := omega) [u2, h1, S1_X5_init, S2_X5_init]
def S1_X9_init (k : Nat) (I : SI) (J : SJ) (R : SR) : SI := (KI_X7_init (k + 6) 8 ((KI_X7_init (k + 1) 6 I J R)) ((KJ_X7_init (k + 1) 6 I J R)) (u2 ((KR_X7_init (k + 1) 6 I J R)) k 0 (some (k + 1))))
def S2_X9_init (k : Nat) (I : SI) (J : SJ) (R : SR) : SJ := (KJ_X7_init (k + 6) 8 ((KI_X7_init (k + 1) 6 I J R)) ((KJ_X7_init (k + 1) 6 I J R)) (u2 ((KR_X7_init (k + 1) 6 I J R)) k 0 (some (k + 1))))
def S3_X9_init (k : Nat) (I : SI) (J : SJ) (R : SR) : SR := (KR_X7_init (k + 6) 8 ((KI_X7_init (k + 1) 6 I J R)) ((KJ_X7_init (k + 1) 6 I J R)) (u2 ((KR_X7_init (k + 1) 6 I J R)) k 0 (some (k + 1))))
def S4_X9_init (k : Nat) (I : SI) (J : SJ) (R : SR) : SI := (KI_X7_init (k + 11) 4 (S1_X9_init k I J R) (S2_X9_init k I J R) (u2 (S3_X9_init k I J R) k 1 (some (k + 6))))
def S5_X9_init (k : Nat) (I : SI) (J : SJ) (R : SR) : SJ := (KJ_X7_init (k + 11) 4 (S1_X9_init k I J R) (S2_X9_init k I J R) (u2 (S3_X9_init k I J R) k 1 (some (k + 6))))
def S6_X9_init (k : Nat) (I : SI) (J : SJ) (R : SR) : SR := (KR_X7_init (k + 11) 4 (S1_X9_init k I J R) (S2_X9_init k I J R) (u2 (S3_X9_init k I J R) k 1 (some (k + 6))))
def S7_X9_init (k : Nat) (I : SI) (J : SJ) (R : SR) : SI := (KI_X7_init (k + 16) 4 (S4_X9_init k I J R) (S5_X9_init k I J R) (u2 (S6_X9_init k I J R) k 2 (some (k + 11))))
def S8_X9_init (k : Nat) (I : SI) (J : SJ) (R : SR) : SJ := (KJ_X7_init (k + 16) 4 (S4_X9_init k I J R) (S5_X9_init k I J R) (u2 (S6_X9_init k I J R) k 2 (some (k + 11))))
def S9_X9_init (k : Nat) (I : SI) (J : SJ) (R : SR) : SR := (KR_X7_init (k + 16) 4 (S4_X9_init k I J R) (S5_X9_init k I J R) (u2 (S6_X9_init k I J R) k 2 (some (k + 11))))
def S10_X9_init (k : Nat) (I : SI) (J : SJ) (R : SR) : SI := (KI_X7_init (k + 21) 3 (S7_X9_init k I J R) (S8_X9_init k I J R) (u2 (S9_X9_init k I J R) k 3 (some (k + 16))))
def S11_X9_init (k : Nat) (I : SI) (J : SJ) (R : SR) : SJ := (KJ_X7_init (k + 21) 3 (S7_X9_init k I J R) (S8_X9_init k I J R) (u2 (S9_X9_init k I J R) k 3 (some (k + 16))))
def S12_X9_init (k : Nat) (I : SI) (J : SJ) (R : SR) : SR := (KR_X7_init (k + 21) 3 (S7_X9_init k I J R) (S8_X9_init k I J R) (u2 (S9_X9_init k I J R) k 3 (some (k + 16))))
def S13_X9_init (k : Nat) (I : SI) (J : SJ) (R : SR) : SI := u2 (u2 (u2 (u2 (u2 (S10_X9_init k I J R) k 6 0) k 7 0) k 8 99) k 9 0) k 10 0
def S14_X9_init (k : Nat) (I : SI) (J : SJ) (R : SR) : SI := (KI_X1_init (k + 27) (u2 (S13_X9_init k I J R) k 11 0) (S11_X9_init k I J R) (u2 (u2 (S12_X9_init k I J R) k 4 (some (k + 21))) k 5 (some (k + 26))))
def S15_X9_init (k : Nat) (I : SI) (J : SJ) (R : SR) : SJ := (KJ_X1_init (k + 27) (u2 (S13_X9_init k I J R) k 11 0) (S11_X9_init k I J R) (u2 (u2 (S12_X9_init k I J R) k 4 (some (k + 21))) k 5 (some (k + 26))))
def S16_X9_init (k : Nat) (I : SI) (J : SJ) (R : SR) : SR := (KR_X1_init (k + 27) (u2 (S13_X9_init k I J R) k 11 0) (S11_X9_init k I J R) (u2 (u2 (S12_X9_init k I J R) k 4 (some (k + 21))) k 5 (some (k + 26))))
def S17_X9_init (k : Nat) (I : SI) (J : SJ) (R : SR) : SI := (KI_X1_init (k + 31) (S14_X9_init k I J R) (S15_X9_init k I J R) (u2 (S16_X9_init k I J R) k 12 (some (k + 27))))
def S18_X9_init (k : Nat) (I : SI) (J : SJ) (R : SR) : SJ := (KJ_X1_init (k + 31) (S14_X9_init k I J R) (S15_X9_init k I J R) (u2 (S16_X9_init k I J R) k 12 (some (k + 27))))
def S19_X9_init (k : Nat) (I : SI) (J : SJ) (R : SR) : SR := (KR_X1_init (k + 31) (S14_X9_init k I J R) (S15_X9_init k I J R) (u2 (S16_X9_init k I J R) k 12 (some (k + 27))))
def S20_X9_init (k : Nat) (I : SI) (J : SJ) (R : SR) : SI := (KI_X1_init (k + 35) (S17_X9_init k I J R) (S18_X9_init k I J R) (u2 (S19_X9_init k I J R) k 13 (some (k + 31))))
def S21_X9_init (k : Nat) (I : SI) (J : SJ) (R : SR) : SJ := (KJ_X1_init (k + 35) (S17_X9_init k I J R) (S18_X9_init k I J R) (u2 (S19_X9_init k I J R) k 13 (some (k + 31))))
def S22_X9_init (k : Nat) (I : SI) (J : SJ) (R : SR) : SR := (KR_X1_init (k + 35) (S17_X9_init k I J R) (S18_X9_init k I J R) (u2 (S19_X9_init k I J R) k 13 (some (k + 31))))
def KI_X9_init (k : Nat) (I : SI) (J : SJ) (R : SR) : SI := fillF (S20_X9_init k I J R) (k + 26) (-1) 48
def KJ_X9_init (k : Nat) (I : SI) (J : SJ) (R : SR) : SJ := (S21_X9_init k I J R)
def KR_X9_init (k : Nat) (I : SI) (J : SJ) (R : SR) : SR := u2 (S22_X9_init k I J R) k 14 (some (k + 35))
set_option maxHeartbeats 1000000 in
set_option maxRecDepth 40000 in
theorem k_X9_init {k : Nat} {I : SI} {J : SJ} {R : SR} (hk : IsTo k) (hZ : Zr I J R (k + 1)) : MM 2 38 829 mX9_init [.ref k] I J R (k + 1) 0 (Pd none (KI_X9_init k I J R) (KJ_X9_init k I J R) (KR_X9_init k I J R) (k + 39) 0) := by
  refine MM.of (by decide) (Nat.le_of_ble_eq_true rfl) fun K ok fin => ?_
  show WK K 0 0 0 [(0, .ref k)] [] I J R (k + 1) 0
  refine w_aload_n ok dX9_init_0 0 rfl ?_
  refine w_obj ok dX9_init_1 (iT_1 39 (by decide +kernel) (by decide +kernel)) (iT_1 32 (by decide +kernel) (by decide +kernel)) (iT_1 33 (by decide +kernel) (by decide +kernel)) (Nat.le_of_ble_eq_true rfl) ?_
  refine w_aload_n ok dX9_init_4 0 rfl ?_
  refine w_new (ci := 7) (N := 6) ok dX9_init_5 rfl cls7 (sTb (iTo_0 hk)) (by decide) (iT_1 40 (by decide +kernel) (by decide +kernel)) (iT_1 41 (by decide +kernel) (by decide +kernel)) (iT_1 3 (by decide +kernel) (by decide +kernel)) hZ (cap_of fin (by decide) (by decide)) ?_
  have hZ1 : Zr I J R (k + 2) := Zr.up hZ
  refine w_dup ok dX9_init_8 rfl ?_
  refine w_bipush (v := 6) ok dX9_init_9 (by decide) ?_
  refine w_cI (As := [.int 6]) (mc := 4) (ms := 32) ok dX9_init_11 iX7_init (lX9_11 rfl) (k_X7_init (k := k + 1) 6 (iTo_0 hk) hZ1) (by decide) rfl (Nat.le_of_ble_eq_true rfl) (cap_of fin (by decide) (by decide)) ?_
  have hZ2 : Zr ((KI_X7_init (k + 1) 6 I J R)) ((KJ_X7_init (k + 1) 6 I J R)) ((KR_X7_init (k + 1) 6 I J R)) (k + 6) := z_X7_init (k := k + 1) 6 (iTo_0 hk) hZ1
  refine w_putRF ok dX9_init_14 (ffX9_14 rfl rfl) (congrArg Prod.fst (sTo hk)) rfl (by omega) ?_
  have hZ3 : Zr ((KI_X7_init (k + 1) 6 I J R)) ((KJ_X7_init (k + 1) 6 I J R)) (u2 ((KR_X7_init (k + 1) 6 I J R)) k 0 (some (k + 1))) (k + 6) := Zr.putR hZ2 (by omega)
  refine w_aload_n ok dX9_init_17 0 rfl ?_
  refine w_new (ci := 7) (N := 6) ok dX9_init_18 rfl cls7 (sTb (iTo_1 hk)) (by decide) (iT_1 40 (by decide +kernel) (by decide +kernel)) (iT_1 41 (by decide +kernel) (by decide +kernel)) (iT_1 3 (by decide +kernel) (by decide +kernel)) hZ3 (cap_of fin (by decide) (by decide)) ?_
  have hZ4 : Zr ((KI_X7_init (k + 1) 6 I J R)) ((KJ_X7_init (k + 1) 6 I J R)) (u2 ((KR_X7_init (k + 1) 6 I J R)) k 0 (some (k + 1))) (k + 7) := Zr.up hZ3
  refine w_dup ok dX9_init_21 rfl ?_
  refine w_bipush (v := 8) ok dX9_init_22 (by decide) ?_
  refine w_cI (As := [.int 8]) (mc := 4) (ms := 32) ok dX9_init_24 iX7_init (lX9_11 rfl) (k_X7_init (k := k + 6) 8 (iTo_1 hk) hZ4) (by decide) rfl (Nat.le_of_ble_eq_true rfl) (cap_of fin (by decide) (by decide)) ?_
  have hZ5 : Zr ((KI_X7_init (k + 6) 8 ((KI_X7_init (k + 1) 6 I J R)) ((KJ_X7_init (k + 1) 6 I J R)) (u2 ((KR_X7_init (k + 1) 6 I J R)) k 0 (some (k + 1))))) ((KJ_X7_init (k + 6) 8 ((KI_X7_init (k + 1) 6 I J R)) ((KJ_X7_init (k + 1) 6 I J R)) (u2 ((KR_X7_init (k + 1) 6 I J R)) k 0 (some (k + 1))))) ((KR_X7_init (k + 6) 8 ((KI_X7_init (k + 1) 6 I J R)) ((KJ_X7_init (k + 1) 6 I J R)) (u2 ((KR_X7_init (k + 1) 6 I J R)) k 0 (some (k + 1))))) (k + 11) := z_X7_init (k := k + 6) 8 (iTo_1 hk) hZ4
  show WK K 10 76 27 [(0, .ref k)] [.ref (k + 6), .ref k] (S1_X9_init k I J R) (S2_X9_init k I J R) (S3_X9_init k I J R) (k + 11) 0
  refine w_putRF ok dX9_init_27 (ffX9_20 rfl rfl) (congrArg Prod.fst (sTo hk)) rfl (by omega) ?_
  have hZ6 : Zr (S1_X9_init k I J R) (S2_X9_init k I J R) (u2 (S3_X9_init k I J R) k 1 (some (k + 6))) (k + 11) := Zr.putR hZ5 (by omega)
  refine w_aload_n ok dX9_init_30 0 rfl ?_
  refine w_new (ci := 7) (N := 6) ok dX9_init_31 rfl cls7 (sTb (iTo_2 hk)) (by decide) (iT_1 40 (by decide +kernel) (by decide +kernel)) (iT_1 41 (by decide +kernel) (by decide +kernel)) (iT_1 3 (by decide +kernel) (by decide +kernel)) hZ6 (cap_of fin (by decide) (by decide)) ?_
  have hZ7 : Zr (S1_X9_init k I J R) (S2_X9_init k I J R) (u2 (S3_X9_init k I J R) k 1 (some (k + 6))) (k + 12) := Zr.up hZ6
  refine w_dup ok dX9_init_34 rfl ?_
  refine w_iconst (v := 4) ok dX9_init_35 (by decide) ?_
  refine w_cI (As := [.int 4]) (mc := 4) (ms := 32) ok dX9_init_36 iX7_init (lX9_11 rfl) (k_X7_init (k := k + 11) 4 (iTo_2 hk) hZ7) (by decide) rfl (Nat.le_of_ble_eq_true rfl) (cap_of fin (by decide) (by decide)) ?_
  have hZ8 : Zr ((KI_X7_init (k + 11) 4 (S1_X9_init k I J R) (S2_X9_init k I J R) (u2 (S3_X9_init k I J R) k 1 (some (k + 6))))) ((KJ_X7_init (k + 11) 4 (S1_X9_init k I J R) (S2_X9_init k I J R) (u2 (S3_X9_init k I J R) k 1 (some (k + 6))))) ((KR_X7_init (k + 11) 4 (S1_X9_init k I J R) (S2_X9_init k I J R) (u2 (S3_X9_init k I J R) k 1 (some (k + 6))))) (k + 16) := z_X7_init (k := k + 11) 4 (iTo_2 hk) hZ7
  show WK K 15 114 39 [(0, .ref k)] [.ref (k + 11), .ref k] (S4_X9_init k I J R) (S5_X9_init k I J R) (S6_X9_init k I J R) (k + 16) 0
  refine w_putRF ok dX9_init_39 (ffX9_23 rfl rfl) (congrArg Prod.fst (sTo hk)) rfl (by omega) ?_
  have hZ9 : Zr (S4_X9_init k I J R) (S5_X9_init k I J R) (u2 (S6_X9_init k I J R) k 2 (some (k + 11))) (k + 16) := Zr.putR hZ8 (by omega)
  refine w_aload_n ok dX9_init_42 0 rfl ?_
  refine w_new (ci := 7) (N := 6) ok dX9_init_43 rfl cls7 (sTb (iTo_3 hk)) (by decide) (iT_1 40 (by decide +kernel) (by decide +kernel)) (iT_1 41 (by decide +kernel) (by decide +kernel)) (iT_1 3 (by decide +kernel) (by decide +kernel)) hZ9 (cap_of fin (by decide) (by decide)) ?_
  have hZ10 : Zr (S4_X9_init k I J R) (S5_X9_init k I J R) (u2 (S6_X9_init k I J R) k 2 (some (k + 11))) (k + 17) := Zr.up hZ9
  refine w_dup ok dX9_init_46 rfl ?_
  refine w_iconst (v := 4) ok dX9_init_47 (by decide) ?_
  refine w_cI (As := [.int 4]) (mc := 4) (ms := 32) ok dX9_init_48 iX7_init (lX9_11 rfl) (k_X7_init (k := k + 16) 4 (iTo_3 hk) hZ10) (by decide) rfl (Nat.le_of_ble_eq_true rfl) (cap_of fin (by decide) (by decide)) ?_
  have hZ11 : Zr ((KI_X7_init (k + 16) 4 (S4_X9_init k I J R) (S5_X9_init k I J R) (u2 (S6_X9_init k I J R) k 2 (some (k + 11))))) ((KJ_X7_init (k + 16) 4 (S4_X9_init k I J R) (S5_X9_init k I J R) (u2 (S6_X9_init k I J R) k 2 (some (k + 11))))) ((KR_X7_init (k + 16) 4 (S4_X9_init k I J R) (S5_X9_init k I J R) (u2 (S6_X9_init k I J R) k 2 (some (k + 11))))) (k + 21) := z_X7_init (k := k + 16) 4 (iTo_3 hk) hZ10
  show WK K 20 152 51 [(0, .ref k)] [.ref (k + 16), .ref k] (S7_X9_init k I J R) (S8_X9_init k I J R) (S9_X9_init k I J R) (k + 21) 0
  refine w_putRF ok dX9_init_51 (ffX9_26 rfl rfl) (congrArg Prod.fst (sTo hk)) rfl (by omega) ?_
  have hZ12 : Zr (S7_X9_init k I J R) (S8_X9_init k I J R) (u2 (S9_X9_init k I J R) k 3 (some (k + 16))) (k + 21) := Zr.putR hZ11 (by omega)
  refine w_aload_n ok dX9_init_54 0 rfl ?_
  refine w_new (ci := 7) (N := 6) ok dX9_init_55 rfl cls7 (sTb (iTo_4 hk)) (by decide) (iT_1 40 (by decide +kernel) (by decide +kernel)) (iT_1 41 (by decide +kernel) (by decide +kernel)) (iT_1 3 (by decide +kernel) (by decide +kernel)) hZ12 (cap_of fin (by decide) (by decide)) ?_
  have hZ13 : Zr (S7_X9_init k I J R) (S8_X9_init k I J R) (u2 (S9_X9_init k I J R) k 3 (some (k + 16))) (k + 22) := Zr.up hZ12
  refine w_dup ok dX9_init_58 rfl ?_
  refine w_iconst (v := 3) ok dX9_init_59 (by decide) ?_
  refine w_cI (As := [.int 3]) (mc := 4) (ms := 32) ok dX9_init_60 iX7_init (lX9_11 rfl) (k_X7_init (k := k + 21) 3 (iTo_4 hk) hZ13) (by decide) rfl (Nat.le_of_ble_eq_true rfl) (cap_of fin (by decide) (by decide)) ?_
  have hZ14 : Zr ((KI_X7_init (k + 21) 3 (S7_X9_init k I J R) (S8_X9_init k I J R) (u2 (S9_X9_init k I J R) k 3 (some (k + 16))))) ((KJ_X7_init (k + 21) 3 (S7_X9_init k I J R) (S8_X9_init k I J R) (u2 (S9_X9_init k I J R) k 3 (some (k + 16))))) ((KR_X7_init (k + 21) 3 (S7_X9_init k I J R) (S8_X9_init k I J R) (u2 (S9_X9_init k I J R) k 3 (some (k + 16))))) (k + 26) := z_X7_init (k := k + 21) 3 (iTo_4 hk) hZ13
  show WK K 25 190 63 [(0, .ref k)] [.ref (k + 21), .ref k] (S10_X9_init k I J R) (S11_X9_init k I J R) (S12_X9_init k I J R) (k + 26) 0
  refine w_putRF ok dX9_init_63 (ffX9_29 rfl rfl) (congrArg Prod.fst (sTo hk)) rfl (by omega) ?_
  have hZ15 : Zr (S10_X9_init k I J R) (S11_X9_init k I J R) (u2 (S12_X9_init k I J R) k 4 (some (k + 21))) (k + 26) := Zr.putR hZ14 (by omega)
  refine w_aload_n ok dX9_init_66 0 rfl ?_
  refine w_bipush (v := 48) ok dX9_init_67 (by decide) ?_
  refine w_newI (len := 48) ok dX9_init_69 rfl (sTo_5 hk) (by decide) (by decide) (by decide) (iT_1 84 (by decide +kernel) (by decide +kernel)) hZ15 (cap_of fin (by decide) (by decide)) ?_
  have hZ16 : Zr (S10_X9_init k I J R) (S11_X9_init k I J R) (u2 (S12_X9_init k I J R) k 4 (some (k + 21))) (k + 27) := Zr.up hZ15
  refine w_putRF ok dX9_init_71 (ffX9_32 rfl rfl) (congrArg Prod.fst (sTo hk)) rfl (by omega) ?_
  have hZ17 : Zr (S10_X9_init k I J R) (S11_X9_init k I J R) (u2 (u2 (S12_X9_init k I J R) k 4 (some (k + 21))) k 5 (some (k + 26))) (k + 27) := Zr.putR hZ16 (by omega)
  refine w_aload_n ok dX9_init_74 0 rfl ?_
  refine w_iconst (v := 0) ok dX9_init_75 (by decide) ?_
  refine w_putI ok dX9_init_76 (fwX9_36 rfl) (congrArg Prod.fst (sTo hk)) rfl (by omega) ?_
  have hZ18 : Zr (u2 (S10_X9_init k I J R) k 6 0) (S11_X9_init k I J R) (u2 (u2 (S12_X9_init k I J R) k 4 (some (k + 21))) k 5 (some (k + 26))) (k + 27) := Zr.putI hZ17 (by omega)
  refine w_aload_n ok dX9_init_79 0 rfl ?_
  refine w_iconst (v := 0) ok dX9_init_80 (by decide) ?_
  refine w_putI ok dX9_init_81 (fwX9_40 rfl) (congrArg Prod.fst (sTo hk)) rfl (by omega) ?_
  have hZ19 : Zr (u2 (u2 (S10_X9_init k I J R) k 6 0) k 7 0) (S11_X9_init k I J R) (u2 (u2 (S12_X9_init k I J R) k 4 (some (k + 21))) k 5 (some (k + 26))) (k + 27) := Zr.putI hZ18 (by omega)
  refine w_aload_n ok dX9_init_84 0 rfl ?_
  refine w_bipush (v := 99) ok dX9_init_85 (by decide) ?_
  refine w_putI ok dX9_init_87 (fwX9_43 rfl) (congrArg Prod.fst (sTo hk)) rfl (by omega) ?_
  have hZ20 : Zr (u2 (u2 (u2 (S10_X9_init k I J R) k 6 0) k 7 0) k 8 99) (S11_X9_init k I J R) (u2 (u2 (S12_X9_init k I J R) k 4 (some (k + 21))) k 5 (some (k + 26))) (k + 27) := Zr.putI hZ19 (by omega)
  refine w_aload_n ok dX9_init_90 0 rfl ?_
  refine w_iconst (v := 0) ok dX9_init_91 (by decide) ?_
  refine w_putI ok dX9_init_92 (fwX9_46 rfl) (congrArg Prod.fst (sTo hk)) rfl (by omega) ?_
  have hZ21 : Zr (u2 (u2 (u2 (u2 (S10_X9_init k I J R) k 6 0) k 7 0) k 8 99) k 9 0) (S11_X9_init k I J R) (u2 (u2 (S12_X9_init k I J R) k 4 (some (k + 21))) k 5 (some (k + 26))) (k + 27) := Zr.putI hZ20 (by omega)
  refine w_aload_n ok dX9_init_95 0 rfl ?_
  refine w_iconst (v := 0) ok dX9_init_96 (by decide) ?_
  refine w_putI ok dX9_init_97 (fwX9_49 rfl) (congrArg Prod.fst (sTo hk)) rfl (by omega) ?_
  have hZ22 : Zr (u2 (u2 (u2 (u2 (u2 (S10_X9_init k I J R) k 6 0) k 7 0) k 8 99) k 9 0) k 10 0) (S11_X9_init k I J R) (u2 (u2 (S12_X9_init k I J R) k 4 (some (k + 21))) k 5 (some (k + 26))) (k + 27) := Zr.putI hZ21 (by omega)
  show WK K 26 238 100 [(0, .ref k)] [] (S13_X9_init k I J R) (S11_X9_init k I J R) (u2 (u2 (S12_X9_init k I J R) k 4 (some (k + 21))) k 5 (some (k + 26))) (k + 27) 0
  refine w_aload_n ok dX9_init_100 0 rfl ?_
  refine w_iconst (v := 0) ok dX9_init_101 (by decide) ?_
  refine w_putI ok dX9_init_102 (fwX9_52 rfl) (congrArg Prod.fst (sTo hk)) rfl (by omega) ?_
  have hZ23 : Zr (u2 (S13_X9_init k I J R) k 11 0) (S11_X9_init k I J R) (u2 (u2 (S12_X9_init k I J R) k 4 (some (k + 21))) k 5 (some (k + 26))) (k + 27) := Zr.putI hZ22 (by omega)
  refine w_aload_n ok dX9_init_105 0 rfl ?_
  refine w_new (ci := 1) (N := 5) ok dX9_init_106 rfl cls1 (sLw (iTo_12 hk)) (by decide) (iT_1 85 (by decide +kernel) (by decide +kernel)) (iT_1 86 (by decide +kernel) (by decide +kernel)) (iT_1 5 (by decide +kernel) (by decide +kernel)) hZ23 (cap_of fin (by decide) (by decide)) ?_
  have hZ24 : Zr (u2 (S13_X9_init k I J R) k 11 0) (S11_X9_init k I J R) (u2 (u2 (S12_X9_init k I J R) k 4 (some (k + 21))) k 5 (some (k + 26))) (k + 28) := Zr.up hZ23
  refine w_dup ok dX9_init_109 rfl ?_
  refine w_cI (As := []) (mc := 3) (ms := 192) ok dX9_init_110 iX1_init (lX9_57 rfl) (k_X1_init (k := k + 27)  (iTo_12 hk) hZ24) (by decide) rfl (Nat.le_of_ble_eq_true rfl) (cap_of fin (by decide) (by decide)) ?_
  have hZ25 : Zr ((KI_X1_init (k + 27) (u2 (S13_X9_init k I J R) k 11 0) (S11_X9_init k I J R) (u2 (u2 (S12_X9_init k I J R) k 4 (some (k + 21))) k 5 (some (k + 26))))) ((KJ_X1_init (k + 27) (u2 (S13_X9_init k I J R) k 11 0) (S11_X9_init k I J R) (u2 (u2 (S12_X9_init k I J R) k 4 (some (k + 21))) k 5 (some (k + 26))))) ((KR_X1_init (k + 27) (u2 (S13_X9_init k I J R) k 11 0) (S11_X9_init k I J R) (u2 (u2 (S12_X9_init k I J R) k 4 (some (k + 21))) k 5 (some (k + 26))))) (k + 31) := z_X1_init (k := k + 27)  (iTo_12 hk) hZ24
  show WK K 30 435 113 [(0, .ref k)] [.ref (k + 27), .ref k] (S14_X9_init k I J R) (S15_X9_init k I J R) (S16_X9_init k I J R) (k + 31) 0
  refine w_putRF ok dX9_init_113 (ffX9_58 rfl rfl) (congrArg Prod.fst (sTo hk)) rfl (by omega) ?_
  have hZ26 : Zr (S14_X9_init k I J R) (S15_X9_init k I J R) (u2 (S16_X9_init k I J R) k 12 (some (k + 27))) (k + 31) := Zr.putR hZ25 (by omega)
  refine w_aload_n ok dX9_init_116 0 rfl ?_
  refine w_new (ci := 1) (N := 5) ok dX9_init_117 rfl cls1 (sLw (iTo_13 hk)) (by decide) (iT_1 85 (by decide +kernel) (by decide +kernel)) (iT_1 86 (by decide +kernel) (by decide +kernel)) (iT_1 5 (by decide +kernel) (by decide +kernel)) hZ26 (cap_of fin (by decide) (by decide)) ?_
  have hZ27 : Zr (S14_X9_init k I J R) (S15_X9_init k I J R) (u2 (S16_X9_init k I J R) k 12 (some (k + 27))) (k + 32) := Zr.up hZ26
  refine w_dup ok dX9_init_120 rfl ?_
  refine w_cI (As := []) (mc := 3) (ms := 192) ok dX9_init_121 iX1_init (lX9_57 rfl) (k_X1_init (k := k + 31)  (iTo_13 hk) hZ27) (by decide) rfl (Nat.le_of_ble_eq_true rfl) (cap_of fin (by decide) (by decide)) ?_
  have hZ28 : Zr ((KI_X1_init (k + 31) (S14_X9_init k I J R) (S15_X9_init k I J R) (u2 (S16_X9_init k I J R) k 12 (some (k + 27))))) ((KJ_X1_init (k + 31) (S14_X9_init k I J R) (S15_X9_init k I J R) (u2 (S16_X9_init k I J R) k 12 (some (k + 27))))) ((KR_X1_init (k + 31) (S14_X9_init k I J R) (S15_X9_init k I J R) (u2 (S16_X9_init k I J R) k 12 (some (k + 27))))) (k + 35) := z_X1_init (k := k + 31)  (iTo_13 hk) hZ27
  show WK K 34 632 124 [(0, .ref k)] [.ref (k + 31), .ref k] (S17_X9_init k I J R) (S18_X9_init k I J R) (S19_X9_init k I J R) (k + 35) 0
  refine w_putRF ok dX9_init_124 (ffX9_62 rfl rfl) (congrArg Prod.fst (sTo hk)) rfl (by omega) ?_
  have hZ29 : Zr (S17_X9_init k I J R) (S18_X9_init k I J R) (u2 (S19_X9_init k I J R) k 13 (some (k + 31))) (k + 35) := Zr.putR hZ28 (by omega)
  refine w_aload_n ok dX9_init_127 0 rfl ?_
  refine w_new (ci := 1) (N := 5) ok dX9_init_128 rfl cls1 (sLw (iTo_14 hk)) (by decide) (iT_1 85 (by decide +kernel) (by decide +kernel)) (iT_1 86 (by decide +kernel) (by decide +kernel)) (iT_1 5 (by decide +kernel) (by decide +kernel)) hZ29 (cap_of fin (by decide) (by decide)) ?_
  have hZ30 : Zr (S17_X9_init k I J R) (S18_X9_init k I J R) (u2 (S19_X9_init k I J R) k 13 (some (k + 31))) (k + 36) := Zr.up hZ29
  refine w_dup ok dX9_init_131 rfl ?_
  refine w_cI (As := []) (mc := 3) (ms := 192) ok dX9_init_132 iX1_init (lX9_57 rfl) (k_X1_init (k := k + 35)  (iTo_14 hk) hZ30) (by decide) rfl (Nat.le_of_ble_eq_true rfl) (cap_of fin (by decide) (by decide)) ?_
  have hZ31 : Zr ((KI_X1_init (k + 35) (S17_X9_init k I J R) (S18_X9_init k I J R) (u2 (S19_X9_init k I J R) k 13 (some (k + 31))))) ((KJ_X1_init (k + 35) (S17_X9_init k I J R) (S18_X9_init k I J R) (u2 (S19_X9_init k I J R) k 13 (some (k + 31))))) ((KR_X1_init (k + 35) (S17_X9_init k I J R) (S18_X9_init k I J R) (u2 (S19_X9_init k I J R) k 13 (some (k + 31))))) (k + 39) := z_X1_init (k := k + 35)  (iTo_14 hk) hZ30
  show WK K 38 829 135 [(0, .ref k)] [.ref (k + 35), .ref k] (S20_X9_init k I J R) (S21_X9_init k I J R) (S22_X9_init k I J R) (k + 39) 0
  refine w_putRF ok dX9_init_135 (ffX9_65 rfl rfl) (congrArg Prod.fst (sTo hk)) rfl (by omega) ?_
  have hZ32 : Zr (S20_X9_init k I J R) (S21_X9_init k I J R) (u2 (S22_X9_init k I J R) k 14 (some (k + 35))) (k + 39) := Zr.putR hZ31 (by omega)
  refine w_aload_n ok dX9_init_138 0 rfl ?_
  refine w_getR (r := k + 26) ok dX9_init_139 (fX9_32 rfl) (congrArg Prod.fst (sTo hk)) rfl (by simp (disch := omega) [u2, S11_X9_init, S12_X9_init, S13_X9_init, S14_X9_init, S15_X9_init, S16_X9_init, S17_X9_init, S18_X9_init, S19_X9_init, S1_X9_init, S22_X9_init, S2_X9_init, S3_X9_init, S4_X9_init, S5_X9_init, S6_X9_init, S7_X9_init, S8_X9_init, S9_X9_init, kr_X1_init, kr_X7_init]) (by omega) ?_
  refine w_iconst (v := (-1)) ok dX9_init_142 (by decide) ?_
  refine w_cS (As := [.ref (k + 26), .int (-1)]) ok dX9_init_143 iX11_fill (lX9_68 rfl) (c_fill (sTo_5 hk) (by omega) (-1)) (by decide) rfl (Nat.le_of_ble_eq_true rfl) ?_
  have hZ33 : Zr (fillF (S20_X9_init k I J R) (k + 26) (-1) 48) (S21_X9_init k I J R) (u2 (S22_X9_init k I J R) k 14 (some (k + 35))) (k + 39) := Zr.fill hZ32 (by omega)
  exact w_vret ok fin dX9_init_146 rfl Pd.i
set_option maxHeartbeats 1000000 in
set_option maxRecDepth 40000 in
theorem z_X9_init {k : Nat} {I : SI} {J : SJ} {R : SR} (hk : IsTo k) (hZ : Zr I J R (k + 1)) : Zr (KI_X9_init k I J R) (KJ_X9_init k I J R) (KR_X9_init k I J R) (k + 39) := by
  have hZ1 : Zr I J R (k + 2) := Zr.up hZ
  have hZ2 : Zr ((KI_X7_init (k + 1) 6 I J R)) ((KJ_X7_init (k + 1) 6 I J R)) ((KR_X7_init (k + 1) 6 I J R)) (k + 6) := z_X7_init (k := k + 1) 6 (iTo_0 hk) hZ1
  have hZ3 : Zr ((KI_X7_init (k + 1) 6 I J R)) ((KJ_X7_init (k + 1) 6 I J R)) (u2 ((KR_X7_init (k + 1) 6 I J R)) k 0 (some (k + 1))) (k + 6) := Zr.putR hZ2 (by omega)
  have hZ4 : Zr ((KI_X7_init (k + 1) 6 I J R)) ((KJ_X7_init (k + 1) 6 I J R)) (u2 ((KR_X7_init (k + 1) 6 I J R)) k 0 (some (k + 1))) (k + 7) := Zr.up hZ3
  have hZ5 : Zr ((KI_X7_init (k + 6) 8 ((KI_X7_init (k + 1) 6 I J R)) ((KJ_X7_init (k + 1) 6 I J R)) (u2 ((KR_X7_init (k + 1) 6 I J R)) k 0 (some (k + 1))))) ((KJ_X7_init (k + 6) 8 ((KI_X7_init (k + 1) 6 I J R)) ((KJ_X7_init (k + 1) 6 I J R)) (u2 ((KR_X7_init (k + 1) 6 I J R)) k 0 (some (k + 1))))) ((KR_X7_init (k + 6) 8 ((KI_X7_init (k + 1) 6 I J R)) ((KJ_X7_init (k + 1) 6 I J R)) (u2 ((KR_X7_init (k + 1) 6 I J R)) k 0 (some (k + 1))))) (k + 11) := z_X7_init (k := k + 6) 8 (iTo_1 hk) hZ4
  have hZ6 : Zr (S1_X9_init k I J R) (S2_X9_init k I J R) (u2 (S3_X9_init k I J R) k 1 (some (k + 6))) (k + 11) := Zr.putR hZ5 (by omega)
  have hZ7 : Zr (S1_X9_init k I J R) (S2_X9_init k I J R) (u2 (S3_X9_init k I J R) k 1 (some (k + 6))) (k + 12) := Zr.up hZ6
  have hZ8 : Zr ((KI_X7_init (k + 11) 4 (S1_X9_init k I J R) (S2_X9_init k I J R) (u2 (S3_X9_init k I J R) k 1 (some (k + 6))))) ((KJ_X7_init (k + 11) 4 (S1_X9_init k I J R) (S2_X9_init k I J R) (u2 (S3_X9_init k I J R) k 1 (some (k + 6))))) ((KR_X7_init (k + 11) 4 (S1_X9_init k I J R) (S2_X9_init k I J R) (u2 (S3_X9_init k I J R) k 1 (some (k + 6))))) (k + 16) := z_X7_init (k := k + 11) 4 (iTo_2 hk) hZ7
  have hZ9 : Zr (S4_X9_init k I J R) (S5_X9_init k I J R) (u2 (S6_X9_init k I J R) k 2 (some (k + 11))) (k + 16) := Zr.putR hZ8 (by omega)
  have hZ10 : Zr (S4_X9_init k I J R) (S5_X9_init k I J R) (u2 (S6_X9_init k I J R) k 2 (some (k + 11))) (k + 17) := Zr.up hZ9
  have hZ11 : Zr ((KI_X7_init (k + 16) 4 (S4_X9_init k I J R) (S5_X9_init k I J R) (u2 (S6_X9_init k I J R) k 2 (some (k + 11))))) ((KJ_X7_init (k + 16) 4 (S4_X9_init k I J R) (S5_X9_init k I J R) (u2 (S6_X9_init k I J R) k 2 (some (k + 11))))) ((KR_X7_init (k + 16) 4 (S4_X9_init k I J R) (S5_X9_init k I J R) (u2 (S6_X9_init k I J R) k 2 (some (k + 11))))) (k + 21) := z_X7_init (k := k + 16) 4 (iTo_3 hk) hZ10
  have hZ12 : Zr (S7_X9_init k I J R) (S8_X9_init k I J R) (u2 (S9_X9_init k I J R) k 3 (some (k + 16))) (k + 21) := Zr.putR hZ11 (by omega)
  have hZ13 : Zr (S7_X9_init k I J R) (S8_X9_init k I J R) (u2 (S9_X9_init k I J R) k 3 (some (k + 16))) (k + 22) := Zr.up hZ12
  have hZ14 : Zr ((KI_X7_init (k + 21) 3 (S7_X9_init k I J R) (S8_X9_init k I J R) (u2 (S9_X9_init k I J R) k 3 (some (k + 16))))) ((KJ_X7_init (k + 21) 3 (S7_X9_init k I J R) (S8_X9_init k I J R) (u2 (S9_X9_init k I J R) k 3 (some (k + 16))))) ((KR_X7_init (k + 21) 3 (S7_X9_init k I J R) (S8_X9_init k I J R) (u2 (S9_X9_init k I J R) k 3 (some (k + 16))))) (k + 26) := z_X7_init (k := k + 21) 3 (iTo_4 hk) hZ13
  have hZ15 : Zr (S10_X9_init k I J R) (S11_X9_init k I J R) (u2 (S12_X9_init k I J R) k 4 (some (k + 21))) (k + 26) := Zr.putR hZ14 (by omega)
  have hZ16 : Zr (S10_X9_init k I J R) (S11_X9_init k I J R) (u2 (S12_X9_init k I J R) k 4 (some (k + 21))) (k + 27) := Zr.up hZ15
  have hZ17 : Zr (S10_X9_init k I J R) (S11_X9_init k I J R) (u2 (u2 (S12_X9_init k I J R) k 4 (some (k + 21))) k 5 (some (k + 26))) (k + 27) := Zr.putR hZ16 (by omega)
  have hZ18 : Zr (u2 (S10_X9_init k I J R) k 6 0) (S11_X9_init k I J R) (u2 (u2 (S12_X9_init k I J R) k 4 (some (k + 21))) k 5 (some (k + 26))) (k + 27) := Zr.putI hZ17 (by omega)
  have hZ19 : Zr (u2 (u2 (S10_X9_init k I J R) k 6 0) k 7 0) (S11_X9_init k I J R) (u2 (u2 (S12_X9_init k I J R) k 4 (some (k + 21))) k 5 (some (k + 26))) (k + 27) := Zr.putI hZ18 (by omega)
  have hZ20 : Zr (u2 (u2 (u2 (S10_X9_init k I J R) k 6 0) k 7 0) k 8 99) (S11_X9_init k I J R) (u2 (u2 (S12_X9_init k I J R) k 4 (some (k + 21))) k 5 (some (k + 26))) (k + 27) := Zr.putI hZ19 (by omega)
  have hZ21 : Zr (u2 (u2 (u2 (u2 (S10_X9_init k I J R) k 6 0) k 7 0) k 8 99) k 9 0) (S11_X9_init k I J R) (u2 (u2 (S12_X9_init k I J R) k 4 (some (k + 21))) k 5 (some (k + 26))) (k + 27) := Zr.putI hZ20 (by omega)
  have hZ22 : Zr (u2 (u2 (u2 (u2 (u2 (S10_X9_init k I J R) k 6 0) k 7 0) k 8 99) k 9 0) k 10 0) (S11_X9_init k I J R) (u2 (u2 (S12_X9_init k I J R) k 4 (some (k + 21))) k 5 (some (k + 26))) (k + 27) := Zr.putI hZ21 (by omega)
  have hZ23 : Zr (u2 (S13_X9_init k I J R) k 11 0) (S11_X9_init k I J R) (u2 (u2 (S12_X9_init k I J R) k 4 (some (k + 21))) k 5 (some (k + 26))) (k + 27) := Zr.putI hZ22 (by omega)
  have hZ24 : Zr (u2 (S13_X9_init k I J R) k 11 0) (S11_X9_init k I J R) (u2 (u2 (S12_X9_init k I J R) k 4 (some (k + 21))) k 5 (some (k + 26))) (k + 28) := Zr.up hZ23
  have hZ25 : Zr ((KI_X1_init (k + 27) (u2 (S13_X9_init k I J R) k 11 0) (S11_X9_init k I J R) (u2 (u2 (S12_X9_init k I J R) k 4 (some (k + 21))) k 5 (some (k + 26))))) ((KJ_X1_init (k + 27) (u2 (S13_X9_init k I J R) k 11 0) (S11_X9_init k I J R) (u2 (u2 (S12_X9_init k I J R) k 4 (some (k + 21))) k 5 (some (k + 26))))) ((KR_X1_init (k + 27) (u2 (S13_X9_init k I J R) k 11 0) (S11_X9_init k I J R) (u2 (u2 (S12_X9_init k I J R) k 4 (some (k + 21))) k 5 (some (k + 26))))) (k + 31) := z_X1_init (k := k + 27)  (iTo_12 hk) hZ24
  have hZ26 : Zr (S14_X9_init k I J R) (S15_X9_init k I J R) (u2 (S16_X9_init k I J R) k 12 (some (k + 27))) (k + 31) := Zr.putR hZ25 (by omega)
  have hZ27 : Zr (S14_X9_init k I J R) (S15_X9_init k I J R) (u2 (S16_X9_init k I J R) k 12 (some (k + 27))) (k + 32) := Zr.up hZ26
  have hZ28 : Zr ((KI_X1_init (k + 31) (S14_X9_init k I J R) (S15_X9_init k I J R) (u2 (S16_X9_init k I J R) k 12 (some (k + 27))))) ((KJ_X1_init (k + 31) (S14_X9_init k I J R) (S15_X9_init k I J R) (u2 (S16_X9_init k I J R) k 12 (some (k + 27))))) ((KR_X1_init (k + 31) (S14_X9_init k I J R) (S15_X9_init k I J R) (u2 (S16_X9_init k I J R) k 12 (some (k + 27))))) (k + 35) := z_X1_init (k := k + 31)  (iTo_13 hk) hZ27
  have hZ29 : Zr (S17_X9_init k I J R) (S18_X9_init k I J R) (u2 (S19_X9_init k I J R) k 13 (some (k + 31))) (k + 35) := Zr.putR hZ28 (by omega)
  have hZ30 : Zr (S17_X9_init k I J R) (S18_X9_init k I J R) (u2 (S19_X9_init k I J R) k 13 (some (k + 31))) (k + 36) := Zr.up hZ29
  have hZ31 : Zr ((KI_X1_init (k + 35) (S17_X9_init k I J R) (S18_X9_init k I J R) (u2 (S19_X9_init k I J R) k 13 (some (k + 31))))) ((KJ_X1_init (k + 35) (S17_X9_init k I J R) (S18_X9_init k I J R) (u2 (S19_X9_init k I J R) k 13 (some (k + 31))))) ((KR_X1_init (k + 35) (S17_X9_init k I J R) (S18_X9_init k I J R) (u2 (S19_X9_init k I J R) k 13 (some (k + 31))))) (k + 39) := z_X1_init (k := k + 35)  (iTo_14 hk) hZ30
  have hZ32 : Zr (S20_X9_init k I J R) (S21_X9_init k I J R) (u2 (S22_X9_init k I J R) k 14 (some (k + 35))) (k + 39) := Zr.putR hZ31 (by omega)
  have hZ33 : Zr (fillF (S20_X9_init k I J R) (k + 26) (-1) 48) (S21_X9_init k I J R) (u2 (S22_X9_init k I J R) k 14 (some (k + 35))) (k + 39) := Zr.fill hZ32 (by omega)
  exact hZ33
set_option maxHeartbeats 1000000 in
set_option maxRecDepth 40000 in
theorem kr_X9_init {k : Nat} {I : SI} {J : SJ} {R : SR} {a b : Nat} (ha : a < k) : KR_X9_init k I J R a b = R a b := by
  unfold KR_X9_init
  have h1 : a ≠ k := by omega
  simp (disch := omega) [u2, h1, S12_X9_init, S16_X9_init, S19_X9_init, S22_X9_init, S3_X9_init, S6_X9_init, S9_X9_init, kr_X1_init, kr_X7_init]
def KI_X6_init (I : SI) (J : SJ) (R : SR) : SI := u2 (u2 I 116 0 0) 116 1 (-1)
def KJ_X6_init (I : SI) (J : SJ) (R : SR) : SJ := J
def KR_X6_init (I : SI) (J : SJ) (R : SR) : SR := u2 (u2 (u2 R 116 2 (some 117)) 116 3 (some 118)) 116 4 (some 119)
set_option maxHeartbeats 1000000 in
set_option maxRecDepth 40000 in
theorem k_X6_init  {I : SI} {J : SJ} {R : SR}  (hZ : Zr I J R (117)) : MM 1 3 72 mX6_init [.ref 116] I J R (117) 0 (Pd none (KI_X6_init I J R) (KJ_X6_init I J R) (KR_X6_init I J R) (120) 0) := by
  refine MM.of (by decide) (Nat.le_of_ble_eq_true rfl) fun K ok fin => ?_
  show WK K 0 0 0 [(0, .ref 116)] [] I J R (117) 0
  refine w_aload_n ok dX6_init_0 0 rfl ?_
  refine w_obj ok dX6_init_1 (iT_2 212 (by decide +kernel) (by decide +kernel)) (iT_1 32 (by decide +kernel) (by decide +kernel)) (iT_1 33 (by decide +kernel) (by decide +kernel)) (Nat.le_of_ble_eq_true rfl) ?_
  refine w_aload_n ok dX6_init_4 0 rfl ?_
  refine w_iconst (v := 0) ok dX6_init_5 (by decide) ?_
  refine w_putI ok dX6_init_6 (fwX6_9 rfl) (congrArg Prod.fst s_116) rfl (by decide) ?_
  have hZ1 : Zr (u2 I 116 0 0) J R (117) := Zr.putI hZ (by decide)
  refine w_aload_n ok dX6_init_9 0 rfl ?_
  refine w_iconst (v := (-1)) ok dX6_init_10 (by decide) ?_
  refine w_putI ok dX6_init_11 (fwX6_15 rfl) (congrArg Prod.fst s_116) rfl (by decide) ?_
  have hZ2 : Zr (u2 (u2 I 116 0 0) 116 1 (-1)) J R (117) := Zr.putI hZ1 (by decide)
  refine w_aload_n ok dX6_init_14 0 rfl ?_
  refine w_bipush (v := 24) ok dX6_init_15 (by decide) ?_
  refine w_newI (len := 24) ok dX6_init_17 rfl s_117 (by decide) (by decide) (by decide) (iT_1 84 (by decide +kernel) (by decide +kernel)) hZ2 (cap_of fin (by decide) (by decide)) ?_
  have hZ3 : Zr (u2 (u2 I 116 0 0) 116 1 (-1)) J R (118) := Zr.up hZ2
  refine w_putRF ok dX6_init_19 (ffX6_18 rfl rfl) (congrArg Prod.fst s_116) rfl (by decide) ?_
  have hZ4 : Zr (u2 (u2 I 116 0 0) 116 1 (-1)) J (u2 R 116 2 (some 117)) (118) := Zr.putR hZ3 (by decide)
  refine w_aload_n ok dX6_init_22 0 rfl ?_
  refine w_bipush (v := 24) ok dX6_init_23 (by decide) ?_
  refine w_newI (len := 24) ok dX6_init_25 rfl s_118 (by decide) (by decide) (by decide) (iT_1 84 (by decide +kernel) (by decide +kernel)) hZ4 (cap_of fin (by decide) (by decide)) ?_
  have hZ5 : Zr (u2 (u2 I 116 0 0) 116 1 (-1)) J (u2 R 116 2 (some 117)) (119) := Zr.up hZ4
  refine w_putRF ok dX6_init_27 (ffX6_22 rfl rfl) (congrArg Prod.fst s_116) rfl (by decide) ?_
  have hZ6 : Zr (u2 (u2 I 116 0 0) 116 1 (-1)) J (u2 (u2 R 116 2 (some 117)) 116 3 (some 118)) (119) := Zr.putR hZ5 (by decide)
  refine w_aload_n ok dX6_init_30 0 rfl ?_
  refine w_bipush (v := 24) ok dX6_init_31 (by decide) ?_
  refine w_newI (len := 24) ok dX6_init_33 rfl s_119 (by decide) (by decide) (by decide) (iT_1 84 (by decide +kernel) (by decide +kernel)) hZ6 (cap_of fin (by decide) (by decide)) ?_
  have hZ7 : Zr (u2 (u2 I 116 0 0) 116 1 (-1)) J (u2 (u2 R 116 2 (some 117)) 116 3 (some 118)) (120) := Zr.up hZ6
  refine w_putRF ok dX6_init_35 (ffX6_25 rfl rfl) (congrArg Prod.fst s_116) rfl (by decide) ?_
  have hZ8 : Zr (u2 (u2 I 116 0 0) 116 1 (-1)) J (u2 (u2 (u2 R 116 2 (some 117)) 116 3 (some 118)) 116 4 (some 119)) (120) := Zr.putR hZ7 (by decide)
  exact w_vret ok fin dX6_init_38 rfl Pd.i
set_option maxHeartbeats 1000000 in
set_option maxRecDepth 40000 in
theorem z_X6_init  {I : SI} {J : SJ} {R : SR}  (hZ : Zr I J R (117)) : Zr (KI_X6_init I J R) (KJ_X6_init I J R) (KR_X6_init I J R) (120) := by
  have hZ1 : Zr (u2 I 116 0 0) J R (117) := Zr.putI hZ (by decide)
  have hZ2 : Zr (u2 (u2 I 116 0 0) 116 1 (-1)) J R (117) := Zr.putI hZ1 (by decide)
  have hZ3 : Zr (u2 (u2 I 116 0 0) 116 1 (-1)) J R (118) := Zr.up hZ2
  have hZ4 : Zr (u2 (u2 I 116 0 0) 116 1 (-1)) J (u2 R 116 2 (some 117)) (118) := Zr.putR hZ3 (by decide)
  have hZ5 : Zr (u2 (u2 I 116 0 0) 116 1 (-1)) J (u2 R 116 2 (some 117)) (119) := Zr.up hZ4
  have hZ6 : Zr (u2 (u2 I 116 0 0) 116 1 (-1)) J (u2 (u2 R 116 2 (some 117)) 116 3 (some 118)) (119) := Zr.putR hZ5 (by decide)
  have hZ7 : Zr (u2 (u2 I 116 0 0) 116 1 (-1)) J (u2 (u2 R 116 2 (some 117)) 116 3 (some 118)) (120) := Zr.up hZ6
  have hZ8 : Zr (u2 (u2 I 116 0 0) 116 1 (-1)) J (u2 (u2 (u2 R 116 2 (some 117)) 116 3 (some 118)) 116 4 (some 119)) (120) := Zr.putR hZ7 (by decide)
  exact hZ8
set_option maxHeartbeats 1000000 in
set_option maxRecDepth 40000 in
theorem kr_X6_init  {I : SI} {J : SJ} {R : SR} {a b : Nat} (ha : a < 116) : KR_X6_init I J R a b = R a b := by
  unfold KR_X6_init
  have h1 : a ≠ 116 := by omega
  simp (disch := omega) [u2, h1]
def KI_X10_init (I : SI) (J : SJ) (R : SR) : SI := u2 I 120 0 0
def KJ_X10_init (I : SI) (J : SJ) (R : SR) : SJ := J
def KR_X10_init (I : SI) (J : SJ) (R : SR) : SR := u2 (u2 (u2 R 120 1 (some 121)) 120 2 (some 122)) 120 3 (some 123)
set_option maxHeartbeats 1000000 in
set_option maxRecDepth 40000 in
theorem k_X10_init  {I : SI} {J : SJ} {R : SR}  (hZ : Zr I J R (121)) : MM 1 3 60 mX10_init [.ref 120] I J R (121) 0 (Pd none (KI_X10_init I J R) (KJ_X10_init I J R) (KR_X10_init I J R) (124) 0) := by
  refine MM.of (by decide) (Nat.le_of_ble_eq_true rfl) fun K ok fin => ?_
  show WK K 0 0 0 [(0, .ref 120)] [] I J R (121) 0
  refine w_aload_n ok dX10_init_0 0 rfl ?_
  refine w_obj ok dX10_init_1 (iT_2 236 (by decide +kernel) (by decide +kernel)) (iT_1 32 (by decide +kernel) (by decide +kernel)) (iT_1 33 (by decide +kernel) (by decide +kernel)) (Nat.le_of_ble_eq_true rfl) ?_
  refine w_aload_n ok dX10_init_4 0 rfl ?_
  refine w_iconst (v := 0) ok dX10_init_5 (by decide) ?_
  refine w_putI ok dX10_init_6 (fwX10_7 rfl) (congrArg Prod.fst s_120) rfl (by decide) ?_
  have hZ1 : Zr (u2 I 120 0 0) J R (121) := Zr.putI hZ (by decide)
  refine w_aload_n ok dX10_init_9 0 rfl ?_
  refine w_bipush (v := 20) ok dX10_init_10 (by decide) ?_
  refine w_newI (len := 20) ok dX10_init_12 rfl s_121 (by decide) (by decide) (by decide) (iT_1 84 (by decide +kernel) (by decide +kernel)) hZ1 (cap_of fin (by decide) (by decide)) ?_
  have hZ2 : Zr (u2 I 120 0 0) J R (122) := Zr.up hZ1
  refine w_putRF ok dX10_init_14 (ffX10_13 rfl rfl) (congrArg Prod.fst s_120) rfl (by decide) ?_
  have hZ3 : Zr (u2 I 120 0 0) J (u2 R 120 1 (some 121)) (122) := Zr.putR hZ2 (by decide)
  refine w_aload_n ok dX10_init_17 0 rfl ?_
  refine w_bipush (v := 20) ok dX10_init_18 (by decide) ?_
  refine w_newI (len := 20) ok dX10_init_20 rfl s_122 (by decide) (by decide) (by decide) (iT_1 84 (by decide +kernel) (by decide +kernel)) hZ3 (cap_of fin (by decide) (by decide)) ?_
  have hZ4 : Zr (u2 I 120 0 0) J (u2 R 120 1 (some 121)) (123) := Zr.up hZ3
  refine w_putRF ok dX10_init_22 (ffX10_17 rfl rfl) (congrArg Prod.fst s_120) rfl (by decide) ?_
  have hZ5 : Zr (u2 I 120 0 0) J (u2 (u2 R 120 1 (some 121)) 120 2 (some 122)) (123) := Zr.putR hZ4 (by decide)
  refine w_aload_n ok dX10_init_25 0 rfl ?_
  refine w_bipush (v := 20) ok dX10_init_26 (by decide) ?_
  refine w_newI (len := 20) ok dX10_init_28 rfl s_123 (by decide) (by decide) (by decide) (iT_1 84 (by decide +kernel) (by decide +kernel)) hZ5 (cap_of fin (by decide) (by decide)) ?_
  have hZ6 : Zr (u2 I 120 0 0) J (u2 (u2 R 120 1 (some 121)) 120 2 (some 122)) (124) := Zr.up hZ5
  refine w_putRF ok dX10_init_30 (ffX10_20 rfl rfl) (congrArg Prod.fst s_120) rfl (by decide) ?_
  have hZ7 : Zr (u2 I 120 0 0) J (u2 (u2 (u2 R 120 1 (some 121)) 120 2 (some 122)) 120 3 (some 123)) (124) := Zr.putR hZ6 (by decide)
  exact w_vret ok fin dX10_init_33 rfl Pd.i
set_option maxHeartbeats 1000000 in
set_option maxRecDepth 40000 in
theorem z_X10_init  {I : SI} {J : SJ} {R : SR}  (hZ : Zr I J R (121)) : Zr (KI_X10_init I J R) (KJ_X10_init I J R) (KR_X10_init I J R) (124) := by
  have hZ1 : Zr (u2 I 120 0 0) J R (121) := Zr.putI hZ (by decide)
  have hZ2 : Zr (u2 I 120 0 0) J R (122) := Zr.up hZ1
  have hZ3 : Zr (u2 I 120 0 0) J (u2 R 120 1 (some 121)) (122) := Zr.putR hZ2 (by decide)
  have hZ4 : Zr (u2 I 120 0 0) J (u2 R 120 1 (some 121)) (123) := Zr.up hZ3
  have hZ5 : Zr (u2 I 120 0 0) J (u2 (u2 R 120 1 (some 121)) 120 2 (some 122)) (123) := Zr.putR hZ4 (by decide)
  have hZ6 : Zr (u2 I 120 0 0) J (u2 (u2 R 120 1 (some 121)) 120 2 (some 122)) (124) := Zr.up hZ5
  have hZ7 : Zr (u2 I 120 0 0) J (u2 (u2 (u2 R 120 1 (some 121)) 120 2 (some 122)) 120 3 (some 123)) (124) := Zr.putR hZ6 (by decide)
  exact hZ7
set_option maxHeartbeats 1000000 in
set_option maxRecDepth 40000 in
theorem kr_X10_init  {I : SI} {J : SJ} {R : SR} {a b : Nat} (ha : a < 120) : KR_X10_init I J R a b = R a b := by
  unfold KR_X10_init
  have h1 : a ≠ 120 := by omega
  simp (disch := omega) [u2, h1]
def KI_X3_init (I : SI) (J : SJ) (R : SR) : SI := u2 (u2 (u2 I 128 0 0) 128 1 (-1)) 128 2 0
def KJ_X3_init (I : SI) (J : SJ) (R : SR) : SJ := J
def KR_X3_init (I : SI) (J : SJ) (R : SR) : SR := u2 R 128 3 (some 129)
set_option maxHeartbeats 1000000 in
set_option maxRecDepth 40000 in
theorem k_X3_init  {I : SI} {J : SJ} {R : SR}  (hZ : Zr I J R (129)) : MM 1 1 4 mX3_init [.ref 128] I J R (129) 0 (Pd none (KI_X3_init I J R) (KJ_X3_init I J R) (KR_X3_init I J R) (130) 0) := by
  refine MM.of (by decide) (Nat.le_of_ble_eq_true rfl) fun K ok fin => ?_
  show WK K 0 0 0 [(0, .ref 128)] [] I J R (129) 0
  refine w_aload_n ok dX3_init_0 0 rfl ?_
  refine w_obj ok dX3_init_1 (iT_3 40 (by decide +kernel) (by decide +kernel)) (iT_1 32 (by decide +kernel) (by decide +kernel)) (iT_1 33 (by decide +kernel) (by decide +kernel)) (Nat.le_of_ble_eq_true rfl) ?_
  refine w_aload_n ok dX3_init_4 0 rfl ?_
  refine w_iconst (v := 0) ok dX3_init_5 (by decide) ?_
  refine w_putI ok dX3_init_6 (fwX3_9 rfl) (congrArg Prod.fst s_128) rfl (by decide) ?_
  have hZ1 : Zr (u2 I 128 0 0) J R (129) := Zr.putI hZ (by decide)
  refine w_aload_n ok dX3_init_9 0 rfl ?_
  refine w_iconst (v := (-1)) ok dX3_init_10 (by decide) ?_
  refine w_putI ok dX3_init_11 (fwX3_15 rfl) (congrArg Prod.fst s_128) rfl (by decide) ?_
  have hZ2 : Zr (u2 (u2 I 128 0 0) 128 1 (-1)) J R (129) := Zr.putI hZ1 (by decide)
  refine w_aload_n ok dX3_init_14 0 rfl ?_
  refine w_iconst (v := 0) ok dX3_init_15 (by decide) ?_
  refine w_putI ok dX3_init_16 (fwX3_18 rfl) (congrArg Prod.fst s_128) rfl (by decide) ?_
  have hZ3 : Zr (u2 (u2 (u2 I 128 0 0) 128 1 (-1)) 128 2 0) J R (129) := Zr.putI hZ2 (by decide)
  refine w_aload_n ok dX3_init_19 0 rfl ?_
  refine w_iconst (v := 4) ok dX3_init_20 (by decide) ?_
  refine w_newI (len := 4) ok dX3_init_21 rfl s_129 (by decide) (by decide) (by decide) (iT_1 84 (by decide +kernel) (by decide +kernel)) hZ3 (cap_of fin (by decide) (by decide)) ?_
  have hZ4 : Zr (u2 (u2 (u2 I 128 0 0) 128 1 (-1)) 128 2 0) J R (130) := Zr.up hZ3
  refine w_putRF ok dX3_init_23 (ffX3_21 rfl rfl) (congrArg Prod.fst s_128) rfl (by decide) ?_
  have hZ5 : Zr (u2 (u2 (u2 I 128 0 0) 128 1 (-1)) 128 2 0) J (u2 R 128 3 (some 129)) (130) := Zr.putR hZ4 (by decide)
  exact w_vret ok fin dX3_init_26 rfl Pd.i
set_option maxHeartbeats 1000000 in
set_option maxRecDepth 40000 in
theorem z_X3_init  {I : SI} {J : SJ} {R : SR}  (hZ : Zr I J R (129)) : Zr (KI_X3_init I J R) (KJ_X3_init I J R) (KR_X3_init I J R) (130) := by
  have hZ1 : Zr (u2 I 128 0 0) J R (129) := Zr.putI hZ (by decide)
  have hZ2 : Zr (u2 (u2 I 128 0 0) 128 1 (-1)) J R (129) := Zr.putI hZ1 (by decide)
  have hZ3 : Zr (u2 (u2 (u2 I 128 0 0) 128 1 (-1)) 128 2 0) J R (129) := Zr.putI hZ2 (by decide)
  have hZ4 : Zr (u2 (u2 (u2 I 128 0 0) 128 1 (-1)) 128 2 0) J R (130) := Zr.up hZ3
  have hZ5 : Zr (u2 (u2 (u2 I 128 0 0) 128 1 (-1)) 128 2 0) J (u2 R 128 3 (some 129)) (130) := Zr.putR hZ4 (by decide)
  exact hZ5
set_option maxHeartbeats 1000000 in
set_option maxRecDepth 40000 in
theorem kr_X3_init  {I : SI} {J : SJ} {R : SR} {a b : Nat} (ha : a < 128) : KR_X3_init I J R a b = R a b := by
  unfold KR_X3_init
  have h1 : a ≠ 128 := by omega
  simp (disch := omega) [u2, h1]
def S1_X0_init (I : SI) (J : SJ) (R : SR) : SR := u2 (u2 (u2 (KR_X5_init 105 I J R) 104 0 (some 105)) 104 1 (some 114)) 104 4 (some 115)
def S2_X0_init (I : SI) (J : SJ) (R : SR) : SI := u2 (u2 (u2 (u2 (KI_X5_init 105 I J R) 104 2 0) 104 5 (-1)) 104 6 1) 104 7 1
def KI_X0_init (I : SI) (J : SJ) (R : SR) : SI := (S2_X0_init I J R)
def KJ_X0_init (I : SI) (J : SJ) (R : SR) : SJ := (KJ_X5_init 105 I J R)
def KR_X0_init (I : SI) (J : SJ) (R : SR) : SR := u2 (S1_X0_init I J R) 104 3 (some 2)
set_option maxHeartbeats 1000000 in
set_option maxRecDepth 40000 in
theorem k_X0_init  {I : SI} {J : SJ} {R : SR}  (hZ : Zr I J R (105)) : MM 2 11 120 mX0_init [.ref 104, .ref 2] I J R (105) 0 (Pd none (KI_X0_init I J R) (KJ_X0_init I J R) (KR_X0_init I J R) (116) 0) := by
  refine MM.of (by decide) (Nat.le_of_ble_eq_true rfl) fun K ok fin => ?_
  show WK K 0 0 0 [(0, .ref 104), (1, .ref 2)] [] I J R (105) 0
  refine w_aload_n ok dX0_init_0 0 rfl ?_
  refine w_obj ok dX0_init_1 (iT_2 176 (by decide +kernel) (by decide +kernel)) (iT_1 32 (by decide +kernel) (by decide +kernel)) (iT_1 33 (by decide +kernel) (by decide +kernel)) (Nat.le_of_ble_eq_true rfl) ?_
  refine w_aload_n ok dX0_init_4 0 rfl ?_
  refine w_new (ci := 5) (N := 15) ok dX0_init_5 rfl cls5 s_105 (by decide) (iT_2 177 (by decide +kernel) (by decide +kernel)) (iT_2 85 (by decide +kernel) (by decide +kernel)) (iT_1 12 (by decide +kernel) (by decide +kernel)) hZ (cap_of fin (by decide) (by decide)) ?_
  have hZ1 : Zr I J R (106) := Zr.up hZ
  refine w_dup ok dX0_init_8 rfl ?_
  refine w_cI (As := []) (mc := 8) (ms := 92) ok dX0_init_9 iX5_init (lX0_11 rfl) (k_X5_init (k := 105)  isSc_105 hZ1) (by decide) rfl (Nat.le_of_ble_eq_true rfl) (cap_of fin (by decide) (by decide)) ?_
  have hZ2 : Zr (KI_X5_init 105 I J R) (KJ_X5_init 105 I J R) (KR_X5_init 105 I J R) (114) := z_X5_init (k := 105)  isSc_105 hZ1
  refine w_putRF ok dX0_init_12 (ffX0_12 rfl rfl) (congrArg Prod.fst s_104) rfl (by decide) ?_
  have hZ3 : Zr (KI_X5_init 105 I J R) (KJ_X5_init 105 I J R) (u2 (KR_X5_init 105 I J R) 104 0 (some 105)) (114) := Zr.putR hZ2 (by decide)
  refine w_aload_n ok dX0_init_15 0 rfl ?_
  refine w_bipush (v := 6) ok dX0_init_16 (by decide) ?_
  refine w_newI (len := 6) ok dX0_init_18 rfl s_114 (by decide) (by decide) (by decide) (iT_1 84 (by decide +kernel) (by decide +kernel)) hZ3 (cap_of fin (by decide) (by decide)) ?_
  have hZ4 : Zr (KI_X5_init 105 I J R) (KJ_X5_init 105 I J R) (u2 (KR_X5_init 105 I J R) 104 0 (some 105)) (115) := Zr.up hZ3
  refine w_putRF ok dX0_init_20 (ffX0_18 rfl rfl) (congrArg Prod.fst s_104) rfl (by decide) ?_
  have hZ5 : Zr (KI_X5_init 105 I J R) (KJ_X5_init 105 I J R) (u2 (u2 (KR_X5_init 105 I J R) 104 0 (some 105)) 104 1 (some 114)) (115) := Zr.putR hZ4 (by decide)
  refine w_aload_n ok dX0_init_23 0 rfl ?_
  refine w_iconst (v := 0) ok dX0_init_24 (by decide) ?_
  refine w_putI ok dX0_init_25 (fwX0_22 rfl) (congrArg Prod.fst s_104) rfl (by decide) ?_
  have hZ6 : Zr (u2 (KI_X5_init 105 I J R) 104 2 0) (KJ_X5_init 105 I J R) (u2 (u2 (KR_X5_init 105 I J R) 104 0 (some 105)) 104 1 (some 114)) (115) := Zr.putI hZ5 (by decide)
  refine w_aload_n ok dX0_init_28 0 rfl ?_
  refine w_bipush (v := 7) ok dX0_init_29 (by decide) ?_
  refine w_newL (len := 7) ok dX0_init_31 rfl s_115 (by decide) (by decide) (by decide) (iT_1 109 (by decide +kernel) (by decide +kernel)) hZ6 (cap_of fin (by decide) (by decide)) ?_
  have hZ7 : Zr (u2 (KI_X5_init 105 I J R) 104 2 0) (KJ_X5_init 105 I J R) (u2 (u2 (KR_X5_init 105 I J R) 104 0 (some 105)) 104 1 (some 114)) (116) := Zr.up hZ6
  refine w_putRF ok dX0_init_33 (ffX0_26 rfl rfl) (congrArg Prod.fst s_104) rfl (by decide) ?_
  have hZ8 : Zr (u2 (KI_X5_init 105 I J R) 104 2 0) (KJ_X5_init 105 I J R) (u2 (u2 (u2 (KR_X5_init 105 I J R) 104 0 (some 105)) 104 1 (some 114)) 104 4 (some 115)) (116) := Zr.putR hZ7 (by decide)
  show WK K 11 120 36 [(0, .ref 104), (1, .ref 2)] [] (u2 (KI_X5_init 105 I J R) 104 2 0) (KJ_X5_init 105 I J R) (S1_X0_init I J R) (116) 0
  refine w_aload_n ok dX0_init_36 0 rfl ?_
  refine w_iconst (v := (-1)) ok dX0_init_37 (by decide) ?_
  refine w_putI ok dX0_init_38 (fwX0_30 rfl) (congrArg Prod.fst s_104) rfl (by decide) ?_
  have hZ9 : Zr (u2 (u2 (KI_X5_init 105 I J R) 104 2 0) 104 5 (-1)) (KJ_X5_init 105 I J R) (S1_X0_init I J R) (116) := Zr.putI hZ8 (by decide)
  refine w_aload_n ok dX0_init_41 0 rfl ?_
  refine w_iconst (v := 1) ok dX0_init_42 (by decide) ?_
  refine w_putZ ok dX0_init_43 (fwX0_33 rfl) (congrArg Prod.fst s_104) rfl (by decide) (by decide) ?_
  have hZ10 : Zr (u2 (u2 (u2 (KI_X5_init 105 I J R) 104 2 0) 104 5 (-1)) 104 6 1) (KJ_X5_init 105 I J R) (S1_X0_init I J R) (116) := Zr.putI hZ9 (by decide)
  refine w_aload_n ok dX0_init_46 0 rfl ?_
  refine w_iconst (v := 1) ok dX0_init_47 (by decide) ?_
  refine w_putZ ok dX0_init_48 (fwX0_37 rfl) (congrArg Prod.fst s_104) rfl (by decide) (by decide) ?_
  have hZ11 : Zr (u2 (u2 (u2 (u2 (KI_X5_init 105 I J R) 104 2 0) 104 5 (-1)) 104 6 1) 104 7 1) (KJ_X5_init 105 I J R) (S1_X0_init I J R) (116) := Zr.putI hZ10 (by decide)
  show WK K 11 120 51 [(0, .ref 104), (1, .ref 2)] [] (S2_X0_init I J R) (KJ_X5_init 105 I J R) (S1_X0_init I J R) (116) 0
  refine w_aload_n ok dX0_init_51 0 rfl ?_
  refine w_aload_n ok dX0_init_52 1 rfl ?_
  refine w_putRF ok dX0_init_53 (ffX0_40 rfl rfl) (congrArg Prod.fst s_104) rfl (by decide) ?_
  have hZ12 : Zr (S2_X0_init I J R) (KJ_X5_init 105 I J R) (u2 (S1_X0_init I J R) 104 3 (some 2)) (116) := Zr.putR hZ11 (by decide)
  exact w_vret ok fin dX0_init_56 rfl Pd.i
set_option maxHeartbeats 1000000 in
set_option maxRecDepth 40000 in
theorem z_X0_init  {I : SI} {J : SJ} {R : SR}  (hZ : Zr I J R (105)) : Zr (KI_X0_init I J R) (KJ_X0_init I J R) (KR_X0_init I J R) (116) := by
  have hZ1 : Zr I J R (106) := Zr.up hZ
  have hZ2 : Zr (KI_X5_init 105 I J R) (KJ_X5_init 105 I J R) (KR_X5_init 105 I J R) (114) := z_X5_init (k := 105)  isSc_105 hZ1
  have hZ3 : Zr (KI_X5_init 105 I J R) (KJ_X5_init 105 I J R) (u2 (KR_X5_init 105 I J R) 104 0 (some 105)) (114) := Zr.putR hZ2 (by decide)
  have hZ4 : Zr (KI_X5_init 105 I J R) (KJ_X5_init 105 I J R) (u2 (KR_X5_init 105 I J R) 104 0 (some 105)) (115) := Zr.up hZ3
  have hZ5 : Zr (KI_X5_init 105 I J R) (KJ_X5_init 105 I J R) (u2 (u2 (KR_X5_init 105 I J R) 104 0 (some 105)) 104 1 (some 114)) (115) := Zr.putR hZ4 (by decide)
  have hZ6 : Zr (u2 (KI_X5_init 105 I J R) 104 2 0) (KJ_X5_init 105 I J R) (u2 (u2 (KR_X5_init 105 I J R) 104 0 (some 105)) 104 1 (some 114)) (115) := Zr.putI hZ5 (by decide)
  have hZ7 : Zr (u2 (KI_X5_init 105 I J R) 104 2 0) (KJ_X5_init 105 I J R) (u2 (u2 (KR_X5_init 105 I J R) 104 0 (some 105)) 104 1 (some 114)) (116) := Zr.up hZ6
  have hZ8 : Zr (u2 (KI_X5_init 105 I J R) 104 2 0) (KJ_X5_init 105 I J R) (u2 (u2 (u2 (KR_X5_init 105 I J R) 104 0 (some 105)) 104 1 (some 114)) 104 4 (some 115)) (116) := Zr.putR hZ7 (by decide)
  have hZ9 : Zr (u2 (u2 (KI_X5_init 105 I J R) 104 2 0) 104 5 (-1)) (KJ_X5_init 105 I J R) (S1_X0_init I J R) (116) := Zr.putI hZ8 (by decide)
  have hZ10 : Zr (u2 (u2 (u2 (KI_X5_init 105 I J R) 104 2 0) 104 5 (-1)) 104 6 1) (KJ_X5_init 105 I J R) (S1_X0_init I J R) (116) := Zr.putI hZ9 (by decide)
  have hZ11 : Zr (u2 (u2 (u2 (u2 (KI_X5_init 105 I J R) 104 2 0) 104 5 (-1)) 104 6 1) 104 7 1) (KJ_X5_init 105 I J R) (S1_X0_init I J R) (116) := Zr.putI hZ10 (by decide)
  have hZ12 : Zr (S2_X0_init I J R) (KJ_X5_init 105 I J R) (u2 (S1_X0_init I J R) 104 3 (some 2)) (116) := Zr.putR hZ11 (by decide)
  exact hZ12
set_option maxHeartbeats 1000000 in
set_option maxRecDepth 40000 in
theorem kr_X0_init  {I : SI} {J : SJ} {R : SR} {a b : Nat} (ha : a < 104) : KR_X0_init I J R a b = R a b := by
  unfold KR_X0_init
  have h1 : a ≠ 104 := by omega
  simp (disch := omega) [u2, h1, S1_X0_init, kr_X5_init]
def S1_X2_init (I : SI) (J : SJ) (R : SR) : SR := u2 (u2 (u2 (u2 R 124 0 (some 125)) 124 3 (some 126)) 124 4 (some 127)) 124 2 (some 2)
def KI_X2_init (I : SI) (J : SJ) (R : SR) : SI := u2 I 124 1 0
def KJ_X2_init (I : SI) (J : SJ) (R : SR) : SJ := J
def KR_X2_init (I : SI) (J : SJ) (R : SR) : SR := (S1_X2_init I J R)
set_option maxHeartbeats 1000000 in
set_option maxRecDepth 40000 in
theorem k_X2_init  {I : SI} {J : SJ} {R : SR}  (hZ : Zr I J R (125)) : MM 1 3 48 mX2_init [.ref 124, .ref 2] I J R (125) 0 (Pd none (KI_X2_init I J R) (KJ_X2_init I J R) (KR_X2_init I J R) (128) 0) := by
  refine MM.of (by decide) (Nat.le_of_ble_eq_true rfl) fun K ok fin => ?_
  show WK K 0 0 0 [(0, .ref 124), (1, .ref 2)] [] I J R (125) 0
  refine w_aload_n ok dX2_init_0 0 rfl ?_
  refine w_obj ok dX2_init_1 (iT_3 16 (by decide +kernel) (by decide +kernel)) (iT_1 32 (by decide +kernel) (by decide +kernel)) (iT_1 33 (by decide +kernel) (by decide +kernel)) (Nat.le_of_ble_eq_true rfl) ?_
  refine w_aload_n ok dX2_init_4 0 rfl ?_
  refine w_bipush (v := 6) ok dX2_init_5 (by decide) ?_
  refine w_newI (len := 6) ok dX2_init_7 rfl s_125 (by decide) (by decide) (by decide) (iT_1 84 (by decide +kernel) (by decide +kernel)) hZ (cap_of fin (by decide) (by decide)) ?_
  have hZ1 : Zr I J R (126) := Zr.up hZ
  refine w_putRF ok dX2_init_9 (ffX2_9 rfl rfl) (congrArg Prod.fst s_124) rfl (by decide) ?_
  have hZ2 : Zr I J (u2 R 124 0 (some 125)) (126) := Zr.putR hZ1 (by decide)
  refine w_aload_n ok dX2_init_12 0 rfl ?_
  refine w_iconst (v := 0) ok dX2_init_13 (by decide) ?_
  refine w_putI ok dX2_init_14 (fwX2_15 rfl) (congrArg Prod.fst s_124) rfl (by decide) ?_
  have hZ3 : Zr (u2 I 124 1 0) J (u2 R 124 0 (some 125)) (126) := Zr.putI hZ2 (by decide)
  refine w_aload_n ok dX2_init_17 0 rfl ?_
  refine w_bipush (v := 6) ok dX2_init_18 (by decide) ?_
  refine w_newI (len := 6) ok dX2_init_20 rfl s_126 (by decide) (by decide) (by decide) (iT_1 84 (by decide +kernel) (by decide +kernel)) hZ3 (cap_of fin (by decide) (by decide)) ?_
  have hZ4 : Zr (u2 I 124 1 0) J (u2 R 124 0 (some 125)) (127) := Zr.up hZ3
  refine w_putRF ok dX2_init_22 (ffX2_19 rfl rfl) (congrArg Prod.fst s_124) rfl (by decide) ?_
  have hZ5 : Zr (u2 I 124 1 0) J (u2 (u2 R 124 0 (some 125)) 124 3 (some 126)) (127) := Zr.putR hZ4 (by decide)
  refine w_aload_n ok dX2_init_25 0 rfl ?_
  refine w_bipush (v := 36) ok dX2_init_26 (by decide) ?_
  refine w_newI (len := 36) ok dX2_init_28 rfl s_127 (by decide) (by decide) (by decide) (iT_1 84 (by decide +kernel) (by decide +kernel)) hZ5 (cap_of fin (by decide) (by decide)) ?_
  have hZ6 : Zr (u2 I 124 1 0) J (u2 (u2 R 124 0 (some 125)) 124 3 (some 126)) (128) := Zr.up hZ5
  refine w_putRF ok dX2_init_30 (ffX2_22 rfl rfl) (congrArg Prod.fst s_124) rfl (by decide) ?_
  have hZ7 : Zr (u2 I 124 1 0) J (u2 (u2 (u2 R 124 0 (some 125)) 124 3 (some 126)) 124 4 (some 127)) (128) := Zr.putR hZ6 (by decide)
  refine w_aload_n ok dX2_init_33 0 rfl ?_
  refine w_aload_n ok dX2_init_34 1 rfl ?_
  refine w_putRF ok dX2_init_35 (ffX2_25 rfl rfl) (congrArg Prod.fst s_124) rfl (by decide) ?_
  have hZ8 : Zr (u2 I 124 1 0) J (u2 (u2 (u2 (u2 R 124 0 (some 125)) 124 3 (some 126)) 124 4 (some 127)) 124 2 (some 2)) (128) := Zr.putR hZ7 (by decide)
  show WK K 3 48 38 [(0, .ref 124), (1, .ref 2)] [] (u2 I 124 1 0) J (S1_X2_init I J R) (128) 0
  exact w_vret ok fin dX2_init_38 rfl Pd.i
set_option maxHeartbeats 1000000 in
set_option maxRecDepth 40000 in
theorem z_X2_init  {I : SI} {J : SJ} {R : SR}  (hZ : Zr I J R (125)) : Zr (KI_X2_init I J R) (KJ_X2_init I J R) (KR_X2_init I J R) (128) := by
  have hZ1 : Zr I J R (126) := Zr.up hZ
  have hZ2 : Zr I J (u2 R 124 0 (some 125)) (126) := Zr.putR hZ1 (by decide)
  have hZ3 : Zr (u2 I 124 1 0) J (u2 R 124 0 (some 125)) (126) := Zr.putI hZ2 (by decide)
  have hZ4 : Zr (u2 I 124 1 0) J (u2 R 124 0 (some 125)) (127) := Zr.up hZ3
  have hZ5 : Zr (u2 I 124 1 0) J (u2 (u2 R 124 0 (some 125)) 124 3 (some 126)) (127) := Zr.putR hZ4 (by decide)
  have hZ6 : Zr (u2 I 124 1 0) J (u2 (u2 R 124 0 (some 125)) 124 3 (some 126)) (128) := Zr.up hZ5
  have hZ7 : Zr (u2 I 124 1 0) J (u2 (u2 (u2 R 124 0 (some 125)) 124 3 (some 126)) 124 4 (some 127)) (128) := Zr.putR hZ6 (by decide)
  have hZ8 : Zr (u2 I 124 1 0) J (u2 (u2 (u2 (u2 R 124 0 (some 125)) 124 3 (some 126)) 124 4 (some 127)) 124 2 (some 2)) (128) := Zr.putR hZ7 (by decide)
  exact hZ8
set_option maxHeartbeats 1000000 in
set_option maxRecDepth 40000 in
theorem kr_X2_init  {I : SI} {J : SJ} {R : SR} {a b : Nat} (ha : a < 124) : KR_X2_init I J R a b = R a b := by
  unfold KR_X2_init
  have h1 : a ≠ 124 := by omega
  simp (disch := omega) [u2, h1, S1_X2_init]
