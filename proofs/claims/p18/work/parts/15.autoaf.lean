def S2_X12_puts (a0 : Int32) (a1 : Int32) (I : SI) (J : SJ) : SI := u2 (u2 I 150 ((64 : Int32) + (F_X12_fresher 9 I J)).toNatClampNeg a0) 151 (S1_X12_puts a0 a1 I J).toNatClampNeg a1
def S3_X12_puts (a0 : Int32) (a1 : Int32) (I : SI) (J : SJ) : SI := FI_X12_reads 9 ((F_X12_fresher 9 (S2_X12_puts a0 a1 I J) J) + 1) (S2_X12_puts a0 a1 I J) J
def FI_X12_puts (a0 : Int32) (a1 : Int32) (I : SI) (J : SJ) : SI := if (I 130 30) = 0 then (S3_X12_puts a0 a1 I J) else I
def H_X12_puts (a0 : Int32) (a1 : Int32) (I : SI) (J : SJ) : Prop := ((I 130 30) = 0 → H_X12_fresher 9 I J) ∧ ((I 130 30) = 0 → inR ((64 : Int32) + (F_X12_fresher 9 I J)) 128) ∧ ((I 130 30) = 0 → H_X12_fresher 9 (u2 I 150 ((64 : Int32) + (F_X12_fresher 9 I J)).toNatClampNeg a0) J) ∧ ((I 130 30) = 0 → inR (S1_X12_puts a0 a1 I J) 128) ∧ ((I 130 30) = 0 → H_X12_fresher 9 (S2_X12_puts a0 a1 I J) J) ∧ ((I 130 30) = 0 → H_X12_reads 9 ((F_X12_fresher 9 (S2_X12_puts a0 a1 I J) J) + 1) (S2_X12_puts a0 a1 I J) J)
set_option maxHeartbeats 1000000 in
set_option maxRecDepth 40000 in
theorem c_X12_puts {I : SI} {J : SJ} {R : SR} {n g : Nat} {f : Fr} (ro : RM R) (hnn : nM ≤ n) (hf : f.1 = false) (a0 : Int32) (a1 : Int32)  (hp : H_X12_puts a0 a1 I J) : MM 1 0 0 mX12_puts [.ref 130, .int a0, .int a1] (eI f I) (eJ f J) R n g (Pd none (eI f (FI_X12_puts a0 a1 I J)) (eJ f J) R n g) := by
  refine MM.of (by decide) (Nat.le_of_ble_eq_true rfl) fun K ok fin => ?_
  show WK K 0 0 0 [(0, .ref 130), (1, .int a0), (2, .int a1)] [] (eI f I) (eJ f J) R n g
  obtain ⟨hp1, hp2, hp3, hp4, hp5, hp6⟩ := hp
  refine w_aload_n ok dX12_puts_0 0 rfl ?_
  refine y_getI ok dX12_puts_1 (fX12_223 rfl) (congrArg Prod.fst s_130) rfl (ltM hnn (by decide)) (sdm hf (by decide)) ?_
  refine w_if_eq (tgt := 8) ok dX12_puts_4 (by decide) (fun c1 => ?_) (fun c1 => ?_)
  · skip
    refine w_aload_n ok dX12_puts_8 0 rfl ?_
    refine w_getR ok dX12_puts_9 (fX12_67 rfl) (congrArg Prod.fst s_130) rfl (r_130_21 ro) (ltM hnn (by decide)) ?_
    refine w_bipush (v := 64) ok dX12_puts_12 (by decide) ?_
    refine w_aload_n ok dX12_puts_14 0 rfl ?_
    refine w_bipush (v := 9) ok dX12_puts_15 (by decide) ?_
    refine w_cV (As := [.int 9]) ok dX12_puts_17 iX12_fresher (lX12_239 rfl) (rcv cls12 (congrArg Prod.fst s_130)) (ltM hnn (by decide)) (c_X12_fresher ro hnn hf 9  (hp1 c1)) (by decide) rfl (Nat.le_of_ble_eq_true rfl) ?_
    show WK K 0 0 20 [(0, .ref 130), (1, .int a0), (2, .int a1)] [.int (F_X12_fresher 9 I J), .int 64, .ref 150] (eI f I) (eJ f J) R n g
    refine w_iadd ok dX12_puts_20 ?_
    refine w_iload_n ok dX12_puts_21 1 rfl ?_
    refine y_iast (q := ((64 : Int32) + (F_X12_fresher 9 I J)).toNatClampNeg) ok dX12_puts_22 s_150 (hp2 c1) (by decide) (ltM hnn (by decide)) (sdm hf (by decide)) ?_
    refine w_aload_n ok dX12_puts_23 0 rfl ?_
    refine w_getR ok dX12_puts_24 (fX12_70 rfl) (congrArg Prod.fst s_130) rfl (r_130_22 ro) (ltM hnn (by decide)) ?_
    refine w_bipush (v := 64) ok dX12_puts_27 (by decide) ?_
    refine w_aload_n ok dX12_puts_29 0 rfl ?_
    refine w_bipush (v := 9) ok dX12_puts_30 (by decide) ?_
    refine w_cV (As := [.int 9]) ok dX12_puts_32 iX12_fresher (lX12_239 rfl) (rcv cls12 (congrArg Prod.fst s_130)) (ltM hnn (by decide)) (c_X12_fresher ro hnn hf 9  (hp3 c1)) (by decide) rfl (Nat.le_of_ble_eq_true rfl) ?_
    show WK K 0 0 35 [(0, .ref 130), (1, .int a0), (2, .int a1)] [.int (F_X12_fresher 9 (u2 I 150 ((64 : Int32) + (F_X12_fresher 9 I J)).toNatClampNeg a0) J), .int 64, .ref 151] (eI f (u2 I 150 ((64 : Int32) + (F_X12_fresher 9 I J)).toNatClampNeg a0)) (eJ f J) R n g
    refine w_iadd ok dX12_puts_35 ?_
    show WK K 0 0 36 [(0, .ref 130), (1, .int a0), (2, .int a1)] [.int (S1_X12_puts a0 a1 I J), .ref 151] (eI f (u2 I 150 ((64 : Int32) + (F_X12_fresher 9 I J)).toNatClampNeg a0)) (eJ f J) R n g
    refine w_iload_n ok dX12_puts_36 2 rfl ?_
    refine y_iast (q := (S1_X12_puts a0 a1 I J).toNatClampNeg) ok dX12_puts_37 s_151 (hp4 c1) (by decide) (ltM hnn (by decide)) (sdm hf (by decide)) ?_
    show WK K 0 0 38 [(0, .ref 130), (1, .int a0), (2, .int a1)] [] (eI f (S2_X12_puts a0 a1 I J)) (eJ f J) R n g
    refine w_aload_n ok dX12_puts_38 0 rfl ?_
    refine w_bipush (v := 9) ok dX12_puts_39 (by decide) ?_
    refine w_aload_n ok dX12_puts_41 0 rfl ?_
    refine w_bipush (v := 9) ok dX12_puts_42 (by decide) ?_
    refine w_cV (As := [.int 9]) ok dX12_puts_44 iX12_fresher (lX12_239 rfl) (rcv cls12 (congrArg Prod.fst s_130)) (ltM hnn (by decide)) (c_X12_fresher ro hnn hf 9  (hp5 c1)) (by decide) rfl (Nat.le_of_ble_eq_true rfl) ?_
    show WK K 0 0 47 [(0, .ref 130), (1, .int a0), (2, .int a1)] [.int (F_X12_fresher 9 (S2_X12_puts a0 a1 I J) J), .int 9, .ref 130] (eI f (S2_X12_puts a0 a1 I J)) (eJ f J) R n g
    refine w_iconst (v := 1) ok dX12_puts_47 (by decide) ?_
    refine w_iadd ok dX12_puts_48 ?_
    refine w_cV (As := [.int 9, .int ((F_X12_fresher 9 (S2_X12_puts a0 a1 I J) J) + 1)]) ok dX12_puts_49 iX12_reads (lX12_260 rfl) (rcv cls12 (congrArg Prod.fst s_130)) (ltM hnn (by decide)) (c_X12_reads ro hnn hf 9 ((F_X12_fresher 9 (S2_X12_puts a0 a1 I J) J) + 1)  (hp6 c1)) (by decide) rfl (Nat.le_of_ble_eq_true rfl) ?_
    show WK K 0 0 52 [(0, .ref 130), (1, .int a0), (2, .int a1)] [] (eI f (S3_X12_puts a0 a1 I J)) (eJ f J) R n g
    exact w_vret ok fin dX12_puts_52 rfl (by unfold FI_X12_puts; simp only [if_pos c1]; exact Pd.i)
  · skip
    exact w_vret ok fin dX12_puts_7 rfl (by unfold FI_X12_puts; simp only [if_neg c1]; exact Pd.i)
def FI_X12_knot  (I : SI) (J : SJ) : SI := if (I 130 30) = 0 then (if (I 130 35) = 64 then FI_X12_wrong 2 I J else u2 I 130 35 ((I 130 35) + 1)) else I
set_option maxHeartbeats 1000000 in
set_option maxRecDepth 40000 in
theorem c_X12_knot {I : SI} {J : SJ} {R : SR} {n g : Nat} {f : Fr} (ro : RM R) (hnn : nM ≤ n) (hf : f.1 = false)    : MM 1 0 0 mX12_knot [.ref 130] (eI f I) (eJ f J) R n g (Pd none (eI f (FI_X12_knot  I J)) (eJ f J) R n g) := by
  refine MM.of (by decide) (Nat.le_of_ble_eq_true rfl) fun K ok fin => ?_
  show WK K 0 0 0 [(0, .ref 130)] [] (eI f I) (eJ f J) R n g
  refine w_aload_n ok dX12_knot_0 0 rfl ?_
  refine y_getI ok dX12_knot_1 (fX12_223 rfl) (congrArg Prod.fst s_130) rfl (ltM hnn (by decide)) (sdm hf (by decide)) ?_
  refine w_if_eq (tgt := 8) ok dX12_knot_4 (by decide) (fun c1 => ?_) (fun c1 => ?_)
  · skip
    refine w_aload_n ok dX12_knot_8 0 rfl ?_
    refine y_getI ok dX12_knot_9 (fX12_288 rfl) (congrArg Prod.fst s_130) rfl (ltM hnn (by decide)) (sdm hf (by decide)) ?_
    refine w_bipush (v := 64) ok dX12_knot_12 (by decide) ?_
    refine w_icmp_ne (tgt := 25) ok dX12_knot_14 (by decide) (fun c2 => ?_) (fun c2 => ?_)
    · skip
      refine w_aload_n ok dX12_knot_25 0 rfl ?_
      refine w_dup ok dX12_knot_26 rfl ?_
      refine y_getI ok dX12_knot_27 (fX12_288 rfl) (congrArg Prod.fst s_130) rfl (ltM hnn (by decide)) (sdm hf (by decide)) ?_
      refine w_iconst (v := 1) ok dX12_knot_30 (by decide) ?_
      refine w_iadd ok dX12_knot_31 ?_
      refine y_putI ok dX12_knot_32 (fwX12_288 rfl) (congrArg Prod.fst s_130) rfl (ltM hnn (by decide)) (sdm hf (by decide)) ?_
      exact w_vret ok fin dX12_knot_35 rfl (by unfold FI_X12_knot; simp only [if_pos c1]; simp only [if_neg c2]; exact Pd.i)
    · skip
      refine w_aload_n ok dX12_knot_17 0 rfl ?_
      refine w_iconst (v := 2) ok dX12_knot_18 (by decide) ?_
      refine w_cV (As := [.int 2]) ok dX12_knot_19 iX12_wrong (lX12_232 rfl) (rcv cls12 (congrArg Prod.fst s_130)) (ltM hnn (by decide)) (c_X12_wrong ro hnn hf 2 ) (by decide) rfl (Nat.le_of_ble_eq_true rfl) ?_
      refine w_goto (tgt := 35) ok dX12_knot_22 (by decide) ?_
      exact w_vret ok fin dX12_knot_35 rfl (by unfold FI_X12_knot; simp only [if_pos c1]; simp only [if_pos c2]; exact Pd.i)
  · skip
    exact w_vret ok fin dX12_knot_7 rfl (by unfold FI_X12_knot; simp only [if_neg c1]; exact Pd.i)
def S1_X12_half (a0 : Nat) (la0 : Nat) (I : SI) (J : SJ) (i7 : Nat) (s7 : SI) : SI := u2 s7 a0 (nI i7).toNatClampNeg (s7 a0 (((nI la0) / 2) + (nI i7)).toNatClampNeg)
def B_X12_half_l7 (a0 : Nat) (la0 : Nat) (I : SI) (J : SJ) (i7 : Nat) (s7 : SI) : SI := (S1_X12_half a0 la0 I J i7 s7)
def F_X12_half_l7 (a0 : Nat) (la0 : Nat) (I : SI) (J : SJ) (s0 : SI) : SI := itN (B_X12_half_l7 a0 la0 I J) (((nI la0) / 2).toNatClampNeg) s0
def FI_X12_half (a0 : Nat) (la0 : Nat) (I : SI) (J : SJ) : SI := (F_X12_half_l7 a0 la0 I J I)
def H_X12_half (a0 : Nat) (la0 : Nat) (I : SI) (J : SJ) : Prop := (∀ (i7 : Nat) (s7 : SI), i7 < ((nI la0) / 2).toNatClampNeg → s7 = itN (B_X12_half_l7 a0 la0 I J) i7 I → inR (((nI la0) / 2) + (nI i7)) la0) ∧ (∀ (i7 : Nat) (s7 : SI), i7 < ((nI la0) / 2).toNatClampNeg → s7 = itN (B_X12_half_l7 a0 la0 I J) i7 I → inR (nI i7) la0)
set_option maxHeartbeats 1000000 in
set_option maxRecDepth 40000 in
theorem c_X12_half {I : SI} {J : SJ} {R : SR} {n g : Nat} {f : Fr} (ro : RM R) (hnn : nM ≤ n) (hf : f.1 = false) {a0 : Nat} {la0 : Nat} (hsa0 : SH a0 = (14, la0)) (hka0 : a0 < n) (hda0 : sd f a0) (hlen : la0 < 2 ^ 31)  (hp : H_X12_half a0 la0 I J) : MM 0 0 0 mX12_half [.ref a0] (eI f I) (eJ f J) R n g (Pd none (eI f (FI_X12_half a0 la0 I J)) (eJ f J) R n g) := by
  refine MM.of (by decide) (Nat.le_of_ble_eq_true rfl) fun K ok fin => ?_
  show WK K 0 0 0 [(0, .ref a0)] [] (eI f I) (eJ f J) R n g
  obtain ⟨hp1, hp2⟩ := hp
  refine w_aload_n ok dX12_half_0 0 rfl ?_
  refine w_alen (v := nI la0) ok dX12_half_1 hsa0 (by decide) rfl hka0 ?_
  refine w_iconst (v := 2) ok dX12_half_2 (by decide) ?_
  refine w_idiv ok dX12_half_3 (by decide) ?_
  refine w_istore_n ok dX12_half_4 rfl (by decide) rfl ?_
  refine w_iconst (v := 0) ok dX12_half_5 (by decide) ?_
  refine w_istore_n ok dX12_half_6 rfl (by decide) rfl ?_
  refine w_loc [2, 1, 0] rfl ?_
  refine loop_for (σ := SI) (fun (i7 : Nat) (s7 : SI) => WK K 0 0 7 [(0, .ref a0), (1, .int ((nI la0) / 2)), (2, .int (nI i7))] [] (eI f s7) (eJ f J) R n g) (B_X12_half_l7 a0 la0 I J) (((nI la0) / 2).toNatClampNeg) (I) ?_ ?_
  · show WK K 0 0 7 [(0, .ref a0), (1, .int ((nI la0) / 2)), (2, .int (nI (((nI la0) / 2).toNatClampNeg)))] [] (eI f (F_X12_half_l7 a0 la0 I J I)) (eJ f J) R n g
    have e1 : ((nI la0) / 2) ≤ (nI (((nI la0) / 2).toNatClampNeg)) := cnt_ge _
    refine w_iload_n ok dX12_half_7 2 rfl ?_
    refine w_iload_n ok dX12_half_8 1 rfl ?_
    refine w_icmp_ge (tgt := 26) ok dX12_half_9 (by decide) (fun _ => ?_) (fun h => absurd e1 h)
    exact w_vret ok fin dX12_half_26 rfl (by unfold FI_X12_half; exact Pd.i)
  · intro i7 s7 hi7 hs7 k7
    show WK K 0 0 7 [(0, .ref a0), (1, .int ((nI la0) / 2)), (2, .int (nI i7))] [] (eI f s7) (eJ f J) R n g
    have e2 : ¬ (((nI la0) / 2) ≤ (nI i7)) := cnt_lt hi7
    refine w_iload_n ok dX12_half_7 2 rfl ?_
    refine w_iload_n ok dX12_half_8 1 rfl ?_
    refine w_icmp_ge (tgt := 26) ok dX12_half_9 (by decide) (fun h => absurd h e2) (fun _ => ?_)
    refine w_aload_n ok dX12_half_12 0 rfl ?_
    refine w_iload_n ok dX12_half_13 2 rfl ?_
    refine w_aload_n ok dX12_half_14 0 rfl ?_
    refine w_iload_n ok dX12_half_15 1 rfl ?_
    refine w_iload_n ok dX12_half_16 2 rfl ?_
    refine w_iadd ok dX12_half_17 ?_
    refine y_iald (q := (((nI la0) / 2) + (nI i7)).toNatClampNeg) ok dX12_half_18 hsa0 (hp1 i7 s7 hi7 hs7) hlen hka0 hda0 ?_
    refine y_iast (q := (nI i7).toNatClampNeg) ok dX12_half_19 hsa0 (hp2 i7 s7 hi7 hs7) hlen hka0 hda0 ?_
    show WK K 0 0 20 [(0, .ref a0), (1, .int ((nI la0) / 2)), (2, .int (nI i7))] [] (eI f (S1_X12_half a0 la0 I J i7 s7)) (eJ f J) R n g
    refine w_iinc (v := (nI i7) + 1) ok dX12_half_20 2 rfl rfl (by decide) rfl ?_
    refine w_goto (tgt := 7) ok dX12_half_23 (by decide) ?_
    have eB : B_X12_half_l7 a0 la0 I J i7 s7 = (S1_X12_half a0 la0 I J i7 s7) := by
      unfold B_X12_half_l7; exact rfl
    have kk := k7
    rw [eB] at kk
    refine w_loc [1, 2, 0] rfl ?_
    rw [nI_1 i7]
    exact kk
def F_X12_fault (a0 : Int32) (I : SI) (J : SJ) : Int32 := if a0 = 0 then (u2 I 130 0 0) 130 32 else (if a0 = 1 then (u2 I 130 0 0) 130 33 else -1)
def FI_X12_fault (a0 : Int32) (I : SI) (J : SJ) : SI := if a0 = 0 then u2 I 130 0 0 else (if a0 = 1 then u2 I 130 0 0 else u2 I 130 0 0)
set_option maxHeartbeats 1000000 in
set_option maxRecDepth 40000 in
theorem c_X12_fault {I : SI} {J : SJ} {R : SR} {n g : Nat} {f : Fr} (ro : RM R) (hnn : nM ≤ n) (hf : f.1 = false) (a0 : Int32)   : MM 0 0 0 mX12_fault [.ref 130, .int a0] (eI f I) (eJ f J) R n g (Pd (some (.int (F_X12_fault a0 I J))) (eI f (FI_X12_fault a0 I J)) (eJ f J) R n g) := by
  refine MM.of (by decide) (Nat.le_of_ble_eq_true rfl) fun K ok fin => ?_
  show WK K 0 0 0 [(0, .ref 130), (1, .int a0)] [] (eI f I) (eJ f J) R n g
  refine w_aload_n ok dX12_fault_0 0 rfl ?_
  refine w_iconst (v := 0) ok dX12_fault_1 (by decide) ?_
  refine y_putI ok dX12_fault_2 (fwX12_169 rfl) (congrArg Prod.fst s_130) rfl (ltM hnn (by decide)) (sdm hf (by decide)) ?_
  refine w_iload_n ok dX12_fault_5 1 rfl ?_
  refine w_if_ne (tgt := 16) ok dX12_fault_6 (by decide) (fun c1 => ?_) (fun c1 => ?_)
  · skip
    refine w_iload_n ok dX12_fault_16 1 rfl ?_
    refine w_iconst (v := 1) ok dX12_fault_17 (by decide) ?_
    refine w_icmp_ne (tgt := 28) ok dX12_fault_18 (by decide) (fun c2 => ?_) (fun c2 => ?_)
    · skip
      refine w_iconst (v := (-1)) ok dX12_fault_28 (by decide) ?_
      exact w_iret ok fin dX12_fault_29 rfl (by unfold F_X12_fault FI_X12_fault; simp only [if_neg c1]; simp only [if_neg c2]; exact Pd.i)
    · skip
      refine w_aload_n ok dX12_fault_21 0 rfl ?_
      refine y_getI ok dX12_fault_22 (fX12_73 rfl) (congrArg Prod.fst s_130) rfl (ltM hnn (by decide)) (sdm hf (by decide)) ?_
      refine w_goto (tgt := 29) ok dX12_fault_25 (by decide) ?_
      exact w_iret ok fin dX12_fault_29 rfl (by unfold F_X12_fault FI_X12_fault; simp only [if_neg c1]; simp only [if_pos c2]; exact Pd.i)
  · skip
    refine w_aload_n ok dX12_fault_9 0 rfl ?_
    refine y_getI ok dX12_fault_10 (fX12_321 rfl) (congrArg Prod.fst s_130) rfl (ltM hnn (by decide)) (sdm hf (by decide)) ?_
    refine w_goto (tgt := 29) ok dX12_fault_13 (by decide) ?_
    exact w_iret ok fin dX12_fault_29 rfl (by unfold F_X12_fault FI_X12_fault; simp only [if_pos c1]; exact Pd.i)
def F_X12_named (a0 : Int32) (a1 : Int32) (I : SI) (J : SJ) : Int32 := if a0 = 0 then F_X12_found 133 12 0 ((u2 I 130 0 0) 132 0) a1 (u2 I 130 0 0) J else (if a0 = 1 then F_X12_found 136 16 0 ((u2 I 130 0 0) 132 1) a1 (u2 I 130 0 0) J else (if a0 = 2 then F_X12_found 140 8 0 ((u2 I 130 0 0) 132 3) a1 (u2 I 130 0 0) J else (if a0 = 3 then F_X12_found 144 8 0 ((u2 I 130 0 0) 132 4) a1 (u2 I 130 0 0) J else -1)))
def FI_X12_named (a0 : Int32) (a1 : Int32) (I : SI) (J : SJ) : SI := if a0 = 0 then u2 I 130 0 0 else (if a0 = 1 then u2 I 130 0 0 else (if a0 = 2 then u2 I 130 0 0 else (if a0 = 3 then u2 I 130 0 0 else u2 I 130 0 0)))
def H_X12_named (a0 : Int32) (a1 : Int32) (I : SI) (J : SJ) : Prop := (a0 = 0 → H_X12_found 133 12 0 ((u2 I 130 0 0) 132 0) a1 (u2 I 130 0 0) J) ∧ (¬ (a0 = 0) → a0 = 1 → H_X12_found 136 16 0 ((u2 I 130 0 0) 132 1) a1 (u2 I 130 0 0) J) ∧ (¬ (a0 = 0) → ¬ (a0 = 1) → a0 = 2 → H_X12_found 140 8 0 ((u2 I 130 0 0) 132 3) a1 (u2 I 130 0 0) J) ∧ (¬ (a0 = 0) → ¬ (a0 = 1) → ¬ (a0 = 2) → a0 = 3 → H_X12_found 144 8 0 ((u2 I 130 0 0) 132 4) a1 (u2 I 130 0 0) J)
set_option maxHeartbeats 1000000 in
set_option maxRecDepth 40000 in
theorem c_X12_named {I : SI} {J : SJ} {R : SR} {n g : Nat} {f : Fr} (ro : RM R) (hnn : nM ≤ n) (hf : f.1 = false) (a0 : Int32) (a1 : Int32)  (hp : H_X12_named a0 a1 I J) : MM 1 0 0 mX12_named [.ref 130, .int a0, .int a1] (eI f I) (eJ f J) R n g (Pd (some (.int (F_X12_named a0 a1 I J))) (eI f (FI_X12_named a0 a1 I J)) (eJ f J) R n g) := by
  refine MM.of (by decide) (Nat.le_of_ble_eq_true rfl) fun K ok fin => ?_
  show WK K 0 0 0 [(0, .ref 130), (1, .int a0), (2, .int a1)] [] (eI f I) (eJ f J) R n g
  obtain ⟨hp1, hp2, hp3, hp4⟩ := hp
  refine w_aload_n ok dX12_named_0 0 rfl ?_
  refine w_iconst (v := 0) ok dX12_named_1 (by decide) ?_
  refine y_putI ok dX12_named_2 (fwX12_169 rfl) (congrArg Prod.fst s_130) rfl (ltM hnn (by decide)) (sdm hf (by decide)) ?_
  refine w_iload_n ok dX12_named_5 1 rfl ?_
  by_cases c1 : a0 = 0
  · skip
    refine w_tabIn (tgt := 36) (off := 30) ok dX12_named_6 (by rw [c1]; decide) (by rw [c1]; decide) (by rw [c1]; rfl) (by decide) ?_
    refine w_aload_n ok dX12_named_36 0 rfl ?_
    refine w_getR ok dX12_named_37 (fX12_16 rfl) (congrArg Prod.fst s_130) rfl (r_130_4 ro) (ltM hnn (by decide)) ?_
    refine w_iconst (v := 0) ok dX12_named_40 (by decide) ?_
    refine w_aload_n ok dX12_named_41 0 rfl ?_
    refine w_getR ok dX12_named_42 (fX12_13 rfl) (congrArg Prod.fst s_130) rfl (r_130_3 ro) (ltM hnn (by decide)) ?_
    refine w_iconst (v := 0) ok dX12_named_45 (by decide) ?_
    refine y_iald (q := 0) ok dX12_named_46 s_132 (by decide) (by decide) (ltM hnn (by decide)) (sdm hf (by decide)) ?_
    refine w_iload_n ok dX12_named_47 2 rfl ?_
    refine w_cS (As := [.ref 133, .int 0, .int ((u2 I 130 0 0) 132 0), .int a1]) ok dX12_named_48 iX12_found (lX12_235 rfl) (c_X12_found ro hnn hf 0 ((u2 I 130 0 0) 132 0) a1 s_133 (ltM hnn (by decide)) (sdm hf (by decide)) (sh_len s_133) (hp1 c1)) (by decide) rfl (Nat.le_of_ble_eq_true rfl) ?_
    exact w_iret ok fin dX12_named_51 rfl (by unfold F_X12_named FI_X12_named; simp only [if_pos c1]; exact Pd.i)
  · skip
    by_cases c2 : a0 = 1
    · skip
      refine w_tabIn (tgt := 52) (off := 46) ok dX12_named_6 (by rw [c2]; decide) (by rw [c2]; decide) (by rw [c2]; rfl) (by decide) ?_
      refine w_aload_n ok dX12_named_52 0 rfl ?_
      refine w_getR ok dX12_named_53 (fX12_25 rfl) (congrArg Prod.fst s_130) rfl (r_130_7 ro) (ltM hnn (by decide)) ?_
      refine w_iconst (v := 0) ok dX12_named_56 (by decide) ?_
      refine w_aload_n ok dX12_named_57 0 rfl ?_
      refine w_getR ok dX12_named_58 (fX12_13 rfl) (congrArg Prod.fst s_130) rfl (r_130_3 ro) (ltM hnn (by decide)) ?_
      refine w_iconst (v := 1) ok dX12_named_61 (by decide) ?_
      refine y_iald (q := 1) ok dX12_named_62 s_132 (by decide) (by decide) (ltM hnn (by decide)) (sdm hf (by decide)) ?_
      refine w_iload_n ok dX12_named_63 2 rfl ?_
      refine w_cS (As := [.ref 136, .int 0, .int ((u2 I 130 0 0) 132 1), .int a1]) ok dX12_named_64 iX12_found (lX12_235 rfl) (c_X12_found ro hnn hf 0 ((u2 I 130 0 0) 132 1) a1 s_136 (ltM hnn (by decide)) (sdm hf (by decide)) (sh_len s_136) (hp2 c1 c2)) (by decide) rfl (Nat.le_of_ble_eq_true rfl) ?_
      exact w_iret ok fin dX12_named_67 rfl (by unfold F_X12_named FI_X12_named; simp only [if_neg c1]; simp only [if_pos c2]; exact Pd.i)
    · skip
      by_cases c3 : a0 = 2
      · skip
        refine w_tabIn (tgt := 68) (off := 62) ok dX12_named_6 (by rw [c3]; decide) (by rw [c3]; decide) (by rw [c3]; rfl) (by decide) ?_
        refine w_aload_n ok dX12_named_68 0 rfl ?_
        refine w_getR ok dX12_named_69 (fX12_37 rfl) (congrArg Prod.fst s_130) rfl (r_130_11 ro) (ltM hnn (by decide)) ?_
        refine w_iconst (v := 0) ok dX12_named_72 (by decide) ?_
        refine w_aload_n ok dX12_named_73 0 rfl ?_
        refine w_getR ok dX12_named_74 (fX12_13 rfl) (congrArg Prod.fst s_130) rfl (r_130_3 ro) (ltM hnn (by decide)) ?_
        refine w_iconst (v := 3) ok dX12_named_77 (by decide) ?_
        refine y_iald (q := 3) ok dX12_named_78 s_132 (by decide) (by decide) (ltM hnn (by decide)) (sdm hf (by decide)) ?_
        refine w_iload_n ok dX12_named_79 2 rfl ?_
        refine w_cS (As := [.ref 140, .int 0, .int ((u2 I 130 0 0) 132 3), .int a1]) ok dX12_named_80 iX12_found (lX12_235 rfl) (c_X12_found ro hnn hf 0 ((u2 I 130 0 0) 132 3) a1 s_140 (ltM hnn (by decide)) (sdm hf (by decide)) (sh_len s_140) (hp3 c1 c2 c3)) (by decide) rfl (Nat.le_of_ble_eq_true rfl) ?_
        exact w_iret ok fin dX12_named_83 rfl (by unfold F_X12_named FI_X12_named; simp only [if_neg c1]; simp only [if_neg c2]; simp only [if_pos c3]; exact Pd.i)
      · skip
        by_cases c4 : a0 = 3
        · skip
          refine w_tabIn (tgt := 84) (off := 78) ok dX12_named_6 (by rw [c4]; decide) (by rw [c4]; decide) (by rw [c4]; rfl) (by decide) ?_
          refine w_aload_n ok dX12_named_84 0 rfl ?_
          refine w_getR ok dX12_named_85 (fX12_49 rfl) (congrArg Prod.fst s_130) rfl (r_130_15 ro) (ltM hnn (by decide)) ?_
          refine w_iconst (v := 0) ok dX12_named_88 (by decide) ?_
          refine w_aload_n ok dX12_named_89 0 rfl ?_
          refine w_getR ok dX12_named_90 (fX12_13 rfl) (congrArg Prod.fst s_130) rfl (r_130_3 ro) (ltM hnn (by decide)) ?_
          refine w_iconst (v := 4) ok dX12_named_93 (by decide) ?_
          refine y_iald (q := 4) ok dX12_named_94 s_132 (by decide) (by decide) (ltM hnn (by decide)) (sdm hf (by decide)) ?_
          refine w_iload_n ok dX12_named_95 2 rfl ?_
          refine w_cS (As := [.ref 144, .int 0, .int ((u2 I 130 0 0) 132 4), .int a1]) ok dX12_named_96 iX12_found (lX12_235 rfl) (c_X12_found ro hnn hf 0 ((u2 I 130 0 0) 132 4) a1 s_144 (ltM hnn (by decide)) (sdm hf (by decide)) (sh_len s_144) (hp4 c1 c2 c3 c4)) (by decide) rfl (Nat.le_of_ble_eq_true rfl) ?_
          exact w_iret ok fin dX12_named_99 rfl (by unfold F_X12_named FI_X12_named; simp only [if_neg c1]; simp only [if_neg c2]; simp only [if_neg c3]; simp only [if_pos c4]; exact Pd.i)
        · skip
          have n5 : a0.toInt ≠ 0 := ne_toInt c1
          have n6 : a0.toInt ≠ 1 := ne_toInt c2
          have n7 : a0.toInt ≠ 2 := ne_toInt c3
          have n8 : a0.toInt ≠ 3 := ne_toInt c4
          refine w_tabOut (tgt := 100) ok dX12_named_6 (by omega) (by decide) ?_
          refine w_iconst (v := (-1)) ok dX12_named_100 (by decide) ?_
          exact w_iret ok fin dX12_named_101 rfl (by unfold F_X12_named FI_X12_named; simp only [if_neg c1]; simp only [if_neg c2]; simp only [if_neg c3]; simp only [if_neg c4]; exact Pd.i)
def F_X12_is (a0 : Int32) (I : SI) (J : SJ) : Int64 := if a0 = 0 then 0 else 1
set_option maxHeartbeats 1000000 in
set_option maxRecDepth 40000 in
theorem c_X12_is {I : SI} {J : SJ} {R : SR} {n g : Nat} {f : Fr} (ro : RM R) (hnn : nM ≤ n) (hf : f.1 = false) (a0 : Int32)   : MM 0 0 0 mX12_is [.int a0] (eI f I) (eJ f J) R n g (Pd (some (.long (F_X12_is a0 I J))) (eI f I) (eJ f J) R n g) := by
  refine MM.of (by decide) (Nat.le_of_ble_eq_true rfl) fun K ok fin => ?_
  show WK K 0 0 0 [(0, .int a0)] [] (eI f I) (eJ f J) R n g
  refine w_iload_n ok dX12_is_0 0 rfl ?_
  refine w_if_eq (tgt := 8) ok dX12_is_1 (by decide) (fun c1 => ?_) (fun c1 => ?_)
  · skip
    refine w_lconst (v := 0) ok dX12_is_8 (by decide) ?_
    exact w_lret ok fin dX12_is_9 rfl (by unfold F_X12_is; simp only [if_pos c1]; exact Pd.i)
  · skip
    refine w_lconst (v := 1) ok dX12_is_4 (by decide) ?_
    refine w_goto (tgt := 9) ok dX12_is_5 (by decide) ?_
    exact w_lret ok fin dX12_is_9 rfl (by unfold F_X12_is; simp only [if_neg c1]; exact Pd.i)
