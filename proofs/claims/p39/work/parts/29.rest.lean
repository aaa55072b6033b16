/-! what stands on the recursions, by program -/
def T_X12_lawLine_j30 (I : SI) (J : SJ) : SI := if (I 130 28) = 0 then (if (I 130 29) < 10 then (FI_X12_wrong 1 I J) else (if (I 130 29) ≤ 12 then I else (FI_X12_wrong 1 I J))) else (FI_X12_wrong 1 I J)
def S6_X12_lawLine (I : SI) (J : SJ) : Int32 := (((T_X12_lawLine_j30 I J)) 130 23) >>> (((16 : Int32) + ((((T_X12_lawLine_j30 I J)) 130 29) - 10)) &&& 31)
def T_X12_lawLine_j65 (I : SI) (J : SJ) : SI := if (((T_X12_lawLine_j30 I J)) 130 30) = 0 then (if ((S6_X12_lawLine I J) &&& 1) = 1 then (FI_X12_wrong 3 (T_X12_lawLine_j30 I J) J) else (T_X12_lawLine_j30 I J)) else (T_X12_lawLine_j30 I J)
def S1_X12_lawLine (I : SI) (J : SJ) : Int32 := (((T_X12_lawLine_j65 I J)) 130 23) ||| ((1 : Int32) <<< (((16 : Int32) + ((((T_X12_lawLine_j30 I J)) 130 29) - 10)) &&& 31))
def S2_X12_lawLine (I : SI) (J : SJ) : SI := FI_X12_token  (u2 (T_X12_lawLine_j65 I J) 130 23 (S1_X12_lawLine I J)) J
def S3_X12_lawLine (I : SI) (J : SJ) : SI := u2 (S2_X12_lawLine I J) 148 ((3 : Int32) + ((((T_X12_lawLine_j30 I J)) 130 29) - 10)).toNatClampNeg (F_X12_fresher 9 (S2_X12_lawLine I J) J)
def S4_X12_lawLine (I : SI) (J : SJ) : Int32 := F_X12_fresher 9 ((RG_expr 140 0 (S3_X12_lawLine I J) J).1) ((RG_expr 140 0 (S3_X12_lawLine I J) J).2)
def S5_X12_lawLine (I : SI) (J : SJ) : SI := u2 ((RG_expr 140 0 (S3_X12_lawLine I J) J).1) 149 ((3 : Int32) + ((((T_X12_lawLine_j30 I J)) 130 29) - 10)).toNatClampNeg (S4_X12_lawLine I J)
def FI_X12_lawLine  (I : SI) (J : SJ) : SI := if (((T_X12_lawLine_j65 I J)) 130 30) = 0 then (S5_X12_lawLine I J) else (T_X12_lawLine_j65 I J)
def FJ_X12_lawLine  (I : SI) (J : SJ) : SJ := if (((T_X12_lawLine_j65 I J)) 130 30) = 0 then (RG_expr 140 0 (S3_X12_lawLine I J) J).2 else J
def H_X12_lawLine  (I : SI) (J : SJ) : Prop := ((((T_X12_lawLine_j65 I J)) 130 30) = 0 → H_X12_token  (u2 (T_X12_lawLine_j65 I J) 130 23 (S1_X12_lawLine I J)) J) ∧ ((((T_X12_lawLine_j65 I J)) 130 30) = 0 → H_X12_fresher 9 (S2_X12_lawLine I J) J) ∧ ((((T_X12_lawLine_j65 I J)) 130 30) = 0 → inR ((3 : Int32) + ((((T_X12_lawLine_j30 I J)) 130 29) - 10)) 6) ∧ ((((T_X12_lawLine_j65 I J)) 130 30) = 0 → HG_expr 140 0 (S3_X12_lawLine I J) J) ∧ ((((T_X12_lawLine_j65 I J)) 130 30) = 0 → H_X12_fresher 9 ((RG_expr 140 0 (S3_X12_lawLine I J) J).1) ((RG_expr 140 0 (S3_X12_lawLine I J) J).2))
set_option maxHeartbeats 1420000 in
set_option maxRecDepth 40000 in
theorem c_X12_lawLine {I : SI} {J : SJ} {R : SR} {n g : Nat} {f : Fr} (ro : RM R) (hnn : nM ≤ n) (hf : f.1 = false)   (hp : H_X12_lawLine  I J) : MM 148 0 0 mX12_lawLine [.ref 130] (eI f I) (eJ f J) R n g (Pd none (eI f (FI_X12_lawLine  I J)) (eJ f (FJ_X12_lawLine  I J)) R n g) := by
  refine MM.of (by decide) (Nat.le_of_ble_eq_true rfl) fun K ok fin => ?_
  show WK K 0 0 0 [(0, .ref 130)] [] (eI f I) (eJ f J) R n g
  obtain ⟨hp1, hp2, hp3, hp4, hp5⟩ := hp
  refine w_aload_n ok dX12_lawLine_0 0 rfl ?_
  refine y_getI ok dX12_lawLine_1 (fX12_188 rfl) (congrArg Prod.fst s_130) rfl (ltM hnn (by decide)) (sdm hf (by decide)) ?_
  have jn1 : WK K 0 0 30 [(0, .ref 130)] [] (eI f (T_X12_lawLine_j30 I J)) (eJ f J) R n g := by
    refine w_aload_n ok dX12_lawLine_30 0 rfl ?_
    refine y_getI ok dX12_lawLine_31 (fX12_198 rfl) (congrArg Prod.fst s_130) rfl (ltM hnn (by decide)) (sdm hf (by decide)) ?_
    refine w_bipush (v := 10) ok dX12_lawLine_34 (by decide) ?_
    refine w_isub ok dX12_lawLine_36 ?_
    refine w_istore_n ok dX12_lawLine_37 rfl (by decide) rfl ?_
    refine w_aload_n ok dX12_lawLine_38 1 rfl ?_
    refine y_getI ok dX12_lawLine_39 (fX12_223 rfl) (congrArg Prod.fst s_130) rfl (ltM hnn (by decide)) (sdm hf (by decide)) ?_
    have jn2 : WK K 0 0 65 [(0, .ref 130), (1, .int ((((T_X12_lawLine_j30 I J)) 130 29) - 10))] [] (eI f (T_X12_lawLine_j65 I J)) (eJ f J) R n g := by
      refine w_aload_n ok dX12_lawLine_65 0 rfl ?_
      refine y_getI ok dX12_lawLine_66 (fX12_223 rfl) (congrArg Prod.fst s_130) rfl (ltM hnn (by decide)) (sdm hf (by decide)) ?_
      refine w_if_eq (tgt := 73) ok dX12_lawLine_69 (by decide) (fun c3 => ?_) (fun c3 => ?_)
      · skip
        refine w_aload_n ok dX12_lawLine_73 0 rfl ?_
        refine w_dup ok dX12_lawLine_74 rfl ?_
        refine y_getI ok dX12_lawLine_75 (fX12_250 rfl) (congrArg Prod.fst s_130) rfl (ltM hnn (by decide)) (sdm hf (by decide)) ?_
        refine w_iconst (v := 1) ok dX12_lawLine_78 (by decide) ?_
        refine w_bipush (v := 16) ok dX12_lawLine_79 (by decide) ?_
        refine w_iload_n ok dX12_lawLine_81 1 rfl ?_
        refine w_iadd ok dX12_lawLine_82 ?_
        refine w_ishl ok dX12_lawLine_83 ?_
        refine w_ior ok dX12_lawLine_84 ?_
        show WK K 0 0 85 [(0, .ref 130), (1, .int ((((T_X12_lawLine_j30 I J)) 130 29) - 10))] [.int (S1_X12_lawLine I J), .ref 130] (eI f (T_X12_lawLine_j65 I J)) (eJ f J) R n g
        refine y_putI ok dX12_lawLine_85 (fwX12_250 rfl) (congrArg Prod.fst s_130) rfl (ltM hnn (by decide)) (sdm hf (by decide)) ?_
        refine w_aload_n ok dX12_lawLine_88 0 rfl ?_
        refine w_cV (As := []) ok dX12_lawLine_89 iX12_token (lX12_229 rfl) (rcv cls12 (congrArg Prod.fst s_130)) (ltM hnn (by decide)) (c_X12_token ro hnn hf   (hp1 c3)) (by decide) rfl (Nat.le_of_ble_eq_true rfl) ?_
        show WK K 0 0 92 [(0, .ref 130), (1, .int ((((T_X12_lawLine_j30 I J)) 130 29) - 10))] [] (eI f (S2_X12_lawLine I J)) (eJ f J) R n g
        refine w_aload_n ok dX12_lawLine_92 0 rfl ?_
        refine w_getR ok dX12_lawLine_93 (fX12_61 rfl) (congrArg Prod.fst s_130) rfl (r_130_19 ro) (ltM hnn (by decide)) ?_
        refine w_iconst (v := 3) ok dX12_lawLine_96 (by decide) ?_
        refine w_iload_n ok dX12_lawLine_97 1 rfl ?_
        refine w_iadd ok dX12_lawLine_98 ?_
        refine w_aload_n ok dX12_lawLine_99 0 rfl ?_
        refine w_bipush (v := 9) ok dX12_lawLine_100 (by decide) ?_
        refine w_cV (As := [.int 9]) ok dX12_lawLine_102 iX12_fresher (lX12_239 rfl) (rcv cls12 (congrArg Prod.fst s_130)) (ltM hnn (by decide)) (c_X12_fresher ro hnn hf 9  (hp2 c3)) (by decide) rfl (Nat.le_of_ble_eq_true rfl) ?_
        show WK K 0 0 105 [(0, .ref 130), (1, .int ((((T_X12_lawLine_j30 I J)) 130 29) - 10))] [.int (F_X12_fresher 9 (S2_X12_lawLine I J) J), .int ((3 : Int32) + ((((T_X12_lawLine_j30 I J)) 130 29) - 10)), .ref 148] (eI f (S2_X12_lawLine I J)) (eJ f J) R n g
        refine y_iast (q := ((3 : Int32) + ((((T_X12_lawLine_j30 I J)) 130 29) - 10)).toNatClampNeg) ok dX12_lawLine_105 s_148 (hp3 c3) (by decide) (ltM hnn (by decide)) (sdm hf (by decide)) ?_
        show WK K 0 0 106 [(0, .ref 130), (1, .int ((((T_X12_lawLine_j30 I J)) 130 29) - 10))] [] (eI f (S3_X12_lawLine I J)) (eJ f J) R n g
        refine w_aload_n ok dX12_lawLine_106 0 rfl ?_
        refine w_cV (As := []) ok dX12_lawLine_107 iX12_expression (lX12_285 rfl) (rcv cls12 (congrArg Prod.fst s_130)) (ltM hnn (by decide)) (((cr_expr ro hnn hf (dd := 7) (by decide) 140).1) (S3_X12_lawLine I J) J (hp4 c3)) (by decide) rfl (Nat.le_of_ble_eq_true rfl) ?_
        refine w_aload_n ok dX12_lawLine_110 0 rfl ?_
        refine w_getR ok dX12_lawLine_111 (fX12_64 rfl) (congrArg Prod.fst s_130) rfl (r_130_20 ro) (ltM hnn (by decide)) ?_
        refine w_iconst (v := 3) ok dX12_lawLine_114 (by decide) ?_
        refine w_iload_n ok dX12_lawLine_115 1 rfl ?_
        refine w_iadd ok dX12_lawLine_116 ?_
        refine w_aload_n ok dX12_lawLine_117 0 rfl ?_
        refine w_bipush (v := 9) ok dX12_lawLine_118 (by decide) ?_
        refine w_cV (As := [.int 9]) ok dX12_lawLine_120 iX12_fresher (lX12_239 rfl) (rcv cls12 (congrArg Prod.fst s_130)) (ltM hnn (by decide)) (c_X12_fresher ro hnn hf 9  (hp5 c3)) (by decide) rfl (Nat.le_of_ble_eq_true rfl) ?_
        show WK K 0 0 123 [(0, .ref 130), (1, .int ((((T_X12_lawLine_j30 I J)) 130 29) - 10))] [.int (S4_X12_lawLine I J), .int ((3 : Int32) + ((((T_X12_lawLine_j30 I J)) 130 29) - 10)), .ref 149] (eI f ((RG_expr 140 0 (S3_X12_lawLine I J) J).1)) (eJ f ((RG_expr 140 0 (S3_X12_lawLine I J) J).2)) R n g
        refine y_iast (q := ((3 : Int32) + ((((T_X12_lawLine_j30 I J)) 130 29) - 10)).toNatClampNeg) ok dX12_lawLine_123 s_149 (hp3 c3) (by decide) (ltM hnn (by decide)) (sdm hf (by decide)) ?_
        show WK K 0 0 124 [(0, .ref 130), (1, .int ((((T_X12_lawLine_j30 I J)) 130 29) - 10))] [] (eI f (S5_X12_lawLine I J)) (eJ f ((RG_expr 140 0 (S3_X12_lawLine I J) J).2)) R n g
        exact w_vret ok fin dX12_lawLine_124 rfl (by unfold FI_X12_lawLine FJ_X12_lawLine; simp only [if_pos c3]; exact Pd.i)
      · skip
        exact w_vret ok fin dX12_lawLine_72 rfl (by unfold FI_X12_lawLine FJ_X12_lawLine; simp only [if_neg c3]; exact Pd.i)
    refine w_if_ne (tgt := 65) ok dX12_lawLine_42 (by decide) (fun c4 => ?_) (fun c4 => ?_)
    · skip
      have eT : (T_X12_lawLine_j65 I J) = (T_X12_lawLine_j30 I J) := by
        unfold T_X12_lawLine_j65; exact (if_neg c4).trans (rfl)
      refine w_loc [1, 0] rfl ?_
      have jj := jn2
      rw [eT] at jj
      exact jj
    · skip
      refine w_aload_n ok dX12_lawLine_45 1 rfl ?_
      refine y_getI ok dX12_lawLine_46 (fX12_250 rfl) (congrArg Prod.fst s_130) rfl (ltM hnn (by decide)) (sdm hf (by decide)) ?_
      refine w_bipush (v := 16) ok dX12_lawLine_49 (by decide) ?_
      refine w_iload_n ok dX12_lawLine_51 0 rfl ?_
      refine w_iadd ok dX12_lawLine_52 ?_
      refine w_ishr ok dX12_lawLine_53 ?_
      show WK K 0 0 54 [(1, .int ((((T_X12_lawLine_j30 I J)) 130 29) - 10)), (0, .ref 130)] [.int (S6_X12_lawLine I J)] (eI f (T_X12_lawLine_j30 I J)) (eJ f J) R n g
      refine w_iconst (v := 1) ok dX12_lawLine_54 (by decide) ?_
      refine w_iand ok dX12_lawLine_55 ?_
      refine w_iconst (v := 1) ok dX12_lawLine_56 (by decide) ?_
      refine w_icmp_ne (tgt := 65) ok dX12_lawLine_57 (by decide) (fun c5 => ?_) (fun c5 => ?_)
      · skip
        have eT : (T_X12_lawLine_j65 I J) = (T_X12_lawLine_j30 I J) := by
          unfold T_X12_lawLine_j65; exact (if_pos c4).trans ((if_neg c5).trans (rfl))
        refine w_loc [1, 0] rfl ?_
        have jj := jn2
        rw [eT] at jj
        exact jj
      · skip
        refine w_aload_n ok dX12_lawLine_60 1 rfl ?_
        refine w_iconst (v := 3) ok dX12_lawLine_61 (by decide) ?_
        refine w_cV (As := [.int 3]) ok dX12_lawLine_62 iX12_wrong (lX12_232 rfl) (rcv cls12 (congrArg Prod.fst s_130)) (ltM hnn (by decide)) (c_X12_wrong ro hnn hf 3 ) (by decide) rfl (Nat.le_of_ble_eq_true rfl) ?_
        have eT : (T_X12_lawLine_j65 I J) = (FI_X12_wrong 3 (T_X12_lawLine_j30 I J) J) := by
          unfold T_X12_lawLine_j65; exact (if_pos c4).trans ((if_pos c5).trans (rfl))
        refine w_loc [1, 0] rfl ?_
        have jj := jn2
        rw [eT] at jj
        exact jj
  refine w_if_ne (tgt := 25) ok dX12_lawLine_4 (by decide) (fun c6 => ?_) (fun c6 => ?_)
  · skip
    refine w_aload_n ok dX12_lawLine_25 0 rfl ?_
    refine w_iconst (v := 1) ok dX12_lawLine_26 (by decide) ?_
    refine w_cV (As := [.int 1]) ok dX12_lawLine_27 iX12_wrong (lX12_232 rfl) (rcv cls12 (congrArg Prod.fst s_130)) (ltM hnn (by decide)) (c_X12_wrong ro hnn hf 1 ) (by decide) rfl (Nat.le_of_ble_eq_true rfl) ?_
    have eT : (T_X12_lawLine_j30 I J) = (FI_X12_wrong 1 I J) := by
      unfold T_X12_lawLine_j30; exact (if_neg c6).trans (rfl)
    refine w_loc [0] rfl ?_
    have jj := jn1
    rw [eT] at jj
    exact jj
  · skip
    refine w_aload_n ok dX12_lawLine_7 0 rfl ?_
    refine y_getI ok dX12_lawLine_8 (fX12_198 rfl) (congrArg Prod.fst s_130) rfl (ltM hnn (by decide)) (sdm hf (by decide)) ?_
    refine w_bipush (v := 10) ok dX12_lawLine_11 (by decide) ?_
    refine w_icmp_lt (tgt := 25) ok dX12_lawLine_13 (by decide) (fun c7 => ?_) (fun c7 => ?_)
    · skip
      refine w_aload_n ok dX12_lawLine_25 0 rfl ?_
      refine w_iconst (v := 1) ok dX12_lawLine_26 (by decide) ?_
      refine w_cV (As := [.int 1]) ok dX12_lawLine_27 iX12_wrong (lX12_232 rfl) (rcv cls12 (congrArg Prod.fst s_130)) (ltM hnn (by decide)) (c_X12_wrong ro hnn hf 1 ) (by decide) rfl (Nat.le_of_ble_eq_true rfl) ?_
      have eT : (T_X12_lawLine_j30 I J) = (FI_X12_wrong 1 I J) := by
        unfold T_X12_lawLine_j30; exact (if_pos c6).trans ((if_pos c7).trans (rfl))
      refine w_loc [0] rfl ?_
      have jj := jn1
      rw [eT] at jj
      exact jj
    · skip
      refine w_aload_n ok dX12_lawLine_16 0 rfl ?_
      refine y_getI ok dX12_lawLine_17 (fX12_198 rfl) (congrArg Prod.fst s_130) rfl (ltM hnn (by decide)) (sdm hf (by decide)) ?_
      refine w_bipush (v := 12) ok dX12_lawLine_20 (by decide) ?_
      refine w_icmp_le (tgt := 30) ok dX12_lawLine_22 (by decide) (fun c8 => ?_) (fun c8 => ?_)
      · skip
        have eT : (T_X12_lawLine_j30 I J) = I := by
          unfold T_X12_lawLine_j30; exact (if_pos c6).trans ((if_neg c7).trans ((if_pos c8).trans (rfl)))
        refine w_loc [0] rfl ?_
        have jj := jn1
        rw [eT] at jj
        exact jj
      · skip
        refine w_aload_n ok dX12_lawLine_25 0 rfl ?_
        refine w_iconst (v := 1) ok dX12_lawLine_26 (by decide) ?_
        refine w_cV (As := [.int 1]) ok dX12_lawLine_27 iX12_wrong (lX12_232 rfl) (rcv cls12 (congrArg Prod.fst s_130)) (ltM hnn (by decide)) (c_X12_wrong ro hnn hf 1 ) (by decide) rfl (Nat.le_of_ble_eq_true rfl) ?_
        have eT : (T_X12_lawLine_j30 I J) = (FI_X12_wrong 1 I J) := by
          unfold T_X12_lawLine_j30; exact (if_pos c6).trans ((if_neg c7).trans ((if_neg c8).trans (rfl)))
        refine w_loc [0] rfl ?_
        have jj := jn1
        rw [eT] at jj
        exact jj
def F_X12_least (a0 : Int32) (I : SI) (J : SJ) : Int32 := if a0 < 0 then -1 else (if a0 ≤ 6 then (if a0 = 6 then ((RG_sayings 8 0 (0 : Int32) (u2 (u2 I 130 0 0) 130 62 (-1)) J).1) 130 62 else (if (((RG_sayings 8 0 (0 : Int32) (u2 (u2 I 130 0 0) 130 62 (-1)) J).1) 132 0) ≤ a0 then -2 else ((RG_sayings 8 0 (0 : Int32) (u2 (u2 I 130 0 0) 130 62 (-1)) J).1) 169 a0.toNatClampNeg)) else -1)
def FI_X12_least (a0 : Int32) (I : SI) (J : SJ) : SI := if a0 < 0 then u2 I 130 0 0 else (if a0 ≤ 6 then (if a0 = 6 then (RG_sayings 8 0 (0 : Int32) (u2 (u2 I 130 0 0) 130 62 (-1)) J).1 else (if (((RG_sayings 8 0 (0 : Int32) (u2 (u2 I 130 0 0) 130 62 (-1)) J).1) 132 0) ≤ a0 then (RG_sayings 8 0 (0 : Int32) (u2 (u2 I 130 0 0) 130 62 (-1)) J).1 else (RG_sayings 8 0 (0 : Int32) (u2 (u2 I 130 0 0) 130 62 (-1)) J).1)) else u2 I 130 0 0)
def FJ_X12_least (a0 : Int32) (I : SI) (J : SJ) : SJ := if a0 < 0 then J else (if a0 ≤ 6 then (if a0 = 6 then (RG_sayings 8 0 (0 : Int32) (u2 (u2 I 130 0 0) 130 62 (-1)) J).2 else (if (((RG_sayings 8 0 (0 : Int32) (u2 (u2 I 130 0 0) 130 62 (-1)) J).1) 132 0) ≤ a0 then (RG_sayings 8 0 (0 : Int32) (u2 (u2 I 130 0 0) 130 62 (-1)) J).2 else (RG_sayings 8 0 (0 : Int32) (u2 (u2 I 130 0 0) 130 62 (-1)) J).2)) else J)
def H_X12_least (a0 : Int32) (I : SI) (J : SJ) : Prop := (¬ (a0 < 0) → a0 ≤ 6 → HG_sayings 8 0 (0 : Int32) (u2 (u2 I 130 0 0) 130 62 (-1)) J) ∧ (¬ (a0 < 0) → a0 ≤ 6 → ¬ (a0 = 6) → ¬ ((((RG_sayings 8 0 (0 : Int32) (u2 (u2 I 130 0 0) 130 62 (-1)) J).1) 132 0) ≤ a0) → inR a0 6)
set_option maxHeartbeats 1000000 in
set_option maxRecDepth 40000 in
theorem c_X12_least {I : SI} {J : SJ} {R : SR} {n g : Nat} {f : Fr} (ro : RM R) (hnn : nM ≤ n) (hf : f.1 = false) (a0 : Int32)  (hp : H_X12_least a0 I J) : MM 11 0 0 mX12_least [.ref 130, .int a0] (eI f I) (eJ f J) R n g (Pd (some (.int (F_X12_least a0 I J))) (eI f (FI_X12_least a0 I J)) (eJ f (FJ_X12_least a0 I J)) R n g) := by
  refine MM.of (by decide) (Nat.le_of_ble_eq_true rfl) fun K ok fin => ?_
  show WK K 0 0 0 [(0, .ref 130), (1, .int a0)] [] (eI f I) (eJ f J) R n g
  obtain ⟨hp1, hp2⟩ := hp
  refine w_aload_n ok dX12_least_0 0 rfl ?_
  refine w_iconst (v := 0) ok dX12_least_1 (by decide) ?_
  refine y_putI ok dX12_least_2 (fwX12_169 rfl) (congrArg Prod.fst s_130) rfl (ltM hnn (by decide)) (sdm hf (by decide)) ?_
  refine w_iload_n ok dX12_least_5 1 rfl ?_
  refine w_if_lt (tgt := 15) ok dX12_least_6 (by decide) (fun c1 => ?_) (fun c1 => ?_)
  · skip
    refine w_iconst (v := (-1)) ok dX12_least_15 (by decide) ?_
    exact w_iret ok fin dX12_least_16 rfl (by unfold F_X12_least FI_X12_least FJ_X12_least; simp only [if_pos c1]; exact Pd.i)
  · skip
    refine w_iload_n ok dX12_least_9 1 rfl ?_
    refine w_bipush (v := 6) ok dX12_least_10 (by decide) ?_
    refine w_icmp_le (tgt := 17) ok dX12_least_12 (by decide) (fun c2 => ?_) (fun c2 => ?_)
    · skip
      refine w_aload_n ok dX12_least_17 0 rfl ?_
      refine w_iconst (v := (-1)) ok dX12_least_18 (by decide) ?_
      refine y_putI ok dX12_least_19 (fwX12_488 rfl) (congrArg Prod.fst s_130) rfl (ltM hnn (by decide)) (sdm hf (by decide)) ?_
      refine w_aload_n ok dX12_least_22 0 rfl ?_
      refine w_iconst (v := 0) ok dX12_least_23 (by decide) ?_
      refine w_cV (As := [.int 0]) ok dX12_least_24 iX12_sayings (lX12_482 rfl) (rcv cls12 (congrArg Prod.fst s_130)) (ltM hnn (by decide)) ((cr_sayings ro hnn hf (dd := 2) (by decide) 8) (0 : Int32) (u2 (u2 I 130 0 0) 130 62 (-1)) J (hp1 c1 c2)) (by decide) rfl (Nat.le_of_ble_eq_true rfl) ?_
      refine w_iload_n ok dX12_least_27 1 rfl ?_
      refine w_bipush (v := 6) ok dX12_least_28 (by decide) ?_
      refine w_icmp_ne (tgt := 40) ok dX12_least_30 (by decide) (fun c3 => ?_) (fun c3 => ?_)
      · skip
        refine w_iload_n ok dX12_least_40 1 rfl ?_
        refine w_aload_n ok dX12_least_41 0 rfl ?_
        refine w_getR ok dX12_least_42 (fX12_13 rfl) (congrArg Prod.fst s_130) rfl (r_130_3 ro) (ltM hnn (by decide)) ?_
        refine w_iconst (v := 0) ok dX12_least_45 (by decide) ?_
        refine y_iald (q := 0) ok dX12_least_46 s_132 (by decide) (by decide) (ltM hnn (by decide)) (sdm hf (by decide)) ?_
        refine w_icmp_ge (tgt := 59) ok dX12_least_47 (by decide) (fun c4 => ?_) (fun c4 => ?_)
        · skip
          refine w_bipush (v := (-2)) ok dX12_least_59 (by decide) ?_
          exact w_iret ok fin dX12_least_61 rfl (by unfold F_X12_least FI_X12_least FJ_X12_least; simp only [if_neg c1]; simp only [if_pos c2]; simp only [if_neg c3]; simp only [if_pos c4]; exact Pd.i)
        · skip
          refine w_aload_n ok dX12_least_50 0 rfl ?_
          refine w_getR ok dX12_least_51 (fX12_135 rfl) (congrArg Prod.fst s_130) rfl (r_130_61 ro) (ltM hnn (by decide)) ?_
          refine w_iload_n ok dX12_least_54 1 rfl ?_
          refine y_iald (q := a0.toNatClampNeg) ok dX12_least_55 s_169 (hp2 c1 c2 c3 c4) (by decide) (ltM hnn (by decide)) (sdm hf (by decide)) ?_
          refine w_goto (tgt := 61) ok dX12_least_56 (by decide) ?_
          exact w_iret ok fin dX12_least_61 rfl (by unfold F_X12_least FI_X12_least FJ_X12_least; simp only [if_neg c1]; simp only [if_pos c2]; simp only [if_neg c3]; simp only [if_neg c4]; exact Pd.i)
      · skip
        refine w_aload_n ok dX12_least_33 0 rfl ?_
        refine y_getI ok dX12_least_34 (fX12_488 rfl) (congrArg Prod.fst s_130) rfl (ltM hnn (by decide)) (sdm hf (by decide)) ?_
        refine w_goto (tgt := 61) ok dX12_least_37 (by decide) ?_
        exact w_iret ok fin dX12_least_61 rfl (by unfold F_X12_least FI_X12_least FJ_X12_least; simp only [if_neg c1]; simp only [if_pos c2]; simp only [if_pos c3]; exact Pd.i)
    · skip
      refine w_iconst (v := (-1)) ok dX12_least_15 (by decide) ?_
      exact w_iret ok fin dX12_least_16 rfl (by unfold F_X12_least FI_X12_least FJ_X12_least; simp only [if_neg c1]; simp only [if_neg c2]; exact Pd.i)
def S2_X12_order (a0 : Int32) (I : SI) (J : SJ) (s23 : Int32 × SI) : SI := u2 (u2 s23.2 170 (s23.2 130 66).toNatClampNeg s23.1) 130 66 (((u2 s23.2 170 (s23.2 130 66).toNatClampNeg s23.1) 130 66) + 1)
def B_X12_order_w23 (a0 : Int32) (I : SI) (J : SJ) (s23 : Int32 × SI) : (Int32 × SI) ⊕ (Int32 × SI) := if (s23.2 132 1) ≤ s23.1 then .inr (s23.1, s23.2) else (if (4 : Int32) ≤ (s23.2 130 66) then .inr (s23.1, s23.2) else (if (F_X12_isDone 0 s23.1 s23.2 J) = 0 then .inl ((s23.1 + 1), (S2_X12_order a0 I J s23)) else .inl ((s23.1 + 1), s23.2)))
def F_X12_order_w23 (a0 : Int32) (I : SI) (J : SJ) (s0 : Int32 × SI) : Int32 × SI := (itW (B_X12_order_w23 a0 I J) 800 s0).getD s0
def S1_X12_order (a0 : Int32) (I : SI) (J : SJ) : SI := u2 ((F_X12_order_w23 a0 I J (0, (u2 (u2 I 130 0 0) 130 66 0))).2) 130 67 (-1)
def F_X12_order (a0 : Int32) (I : SI) (J : SJ) : Int32 := if a0 < 0 then -1 else (if a0 ≤ 4 then (if a0 = 4 then ((RG_rows 6 0 (0 : Int32) (0 : Int32) (S1_X12_order a0 I J) J).1) 130 67 else (if (((RG_rows 6 0 (0 : Int32) (0 : Int32) (S1_X12_order a0 I J) J).1) 130 66) ≤ a0 then -2 else ((RG_rows 6 0 (0 : Int32) (0 : Int32) (S1_X12_order a0 I J) J).1) 172 a0.toNatClampNeg)) else -1)
def FI_X12_order (a0 : Int32) (I : SI) (J : SJ) : SI := if a0 < 0 then u2 I 130 0 0 else (if a0 ≤ 4 then (if a0 = 4 then (RG_rows 6 0 (0 : Int32) (0 : Int32) (S1_X12_order a0 I J) J).1 else (if (((RG_rows 6 0 (0 : Int32) (0 : Int32) (S1_X12_order a0 I J) J).1) 130 66) ≤ a0 then (RG_rows 6 0 (0 : Int32) (0 : Int32) (S1_X12_order a0 I J) J).1 else (RG_rows 6 0 (0 : Int32) (0 : Int32) (S1_X12_order a0 I J) J).1)) else u2 I 130 0 0)
def FJ_X12_order (a0 : Int32) (I : SI) (J : SJ) : SJ := if a0 < 0 then J else (if a0 ≤ 4 then (if a0 = 4 then (RG_rows 6 0 (0 : Int32) (0 : Int32) (S1_X12_order a0 I J) J).2 else (if (((RG_rows 6 0 (0 : Int32) (0 : Int32) (S1_X12_order a0 I J) J).1) 130 66) ≤ a0 then (RG_rows 6 0 (0 : Int32) (0 : Int32) (S1_X12_order a0 I J) J).2 else (RG_rows 6 0 (0 : Int32) (0 : Int32) (S1_X12_order a0 I J) J).2)) else J)
def H_X12_order (a0 : Int32) (I : SI) (J : SJ) : Prop := (¬ (a0 < 0) → a0 ≤ 4 → (itW (B_X12_order_w23 a0 I J) 800 (0, (u2 (u2 I 130 0 0) 130 66 0))).isSome = true) ∧ (¬ (a0 < 0) → a0 ≤ 4 → HG_rows 6 0 (0 : Int32) (0 : Int32) (S1_X12_order a0 I J) J) ∧ (¬ (a0 < 0) → a0 ≤ 4 → ¬ (a0 = 4) → ¬ ((((RG_rows 6 0 (0 : Int32) (0 : Int32) (S1_X12_order a0 I J) J).1) 130 66) ≤ a0) → inR a0 4) ∧ (¬ (a0 < 0) → a0 ≤ 4 → ∀ (n23 : Nat) (s23 : Int32 × SI), wN (B_X12_order_w23 a0 I J) n23 (0, (u2 (u2 I 130 0 0) 130 66 0)) = some s23 → ¬ ((s23.2 132 1) ≤ s23.1) → ¬ ((4 : Int32) ≤ (s23.2 130 66)) → H_X12_isDone 0 s23.1 s23.2 J) ∧ (¬ (a0 < 0) → a0 ≤ 4 → ∀ (n23 : Nat) (s23 : Int32 × SI), wN (B_X12_order_w23 a0 I J) n23 (0, (u2 (u2 I 130 0 0) 130 66 0)) = some s23 → ¬ ((s23.2 132 1) ≤ s23.1) → ¬ ((4 : Int32) ≤ (s23.2 130 66)) → (F_X12_isDone 0 s23.1 s23.2 J) = 0 → inR (s23.2 130 66) 4)
set_option maxHeartbeats 1170000 in
set_option maxRecDepth 40000 in
theorem c_X12_order {I : SI} {J : SJ} {R : SR} {n g : Nat} {f : Fr} (ro : RM R) (hnn : nM ≤ n) (hf : f.1 = false) (a0 : Int32)  (hp : H_X12_order a0 I J) : MM 15 0 0 mX12_order [.ref 130, .int a0] (eI f I) (eJ f J) R n g (Pd (some (.int (F_X12_order a0 I J))) (eI f (FI_X12_order a0 I J)) (eJ f (FJ_X12_order a0 I J)) R n g) := by
  refine MM.of (by decide) (Nat.le_of_ble_eq_true rfl) fun K ok fin => ?_
  show WK K 0 0 0 [(0, .ref 130), (1, .int a0)] [] (eI f I) (eJ f J) R n g
  obtain ⟨hp1, hp2, hp3, hp4, hp5⟩ := hp
  refine w_aload_n ok dX12_order_0 0 rfl ?_
  refine w_iconst (v := 0) ok dX12_order_1 (by decide) ?_
  refine y_putI ok dX12_order_2 (fwX12_169 rfl) (congrArg Prod.fst s_130) rfl (ltM hnn (by decide)) (sdm hf (by decide)) ?_
  refine w_iload_n ok dX12_order_5 1 rfl ?_
  refine w_if_lt (tgt := 14) ok dX12_order_6 (by decide) (fun c1 => ?_) (fun c1 => ?_)
  · skip
    refine w_iconst (v := (-1)) ok dX12_order_14 (by decide) ?_
    exact w_iret ok fin dX12_order_15 rfl (by unfold F_X12_order FI_X12_order FJ_X12_order; simp only [if_pos c1]; exact Pd.i)
  · skip
    refine w_iload_n ok dX12_order_9 1 rfl ?_
    refine w_iconst (v := 4) ok dX12_order_10 (by decide) ?_
    refine w_icmp_le (tgt := 16) ok dX12_order_11 (by decide) (fun c2 => ?_) (fun c2 => ?_)
    · skip
      refine w_aload_n ok dX12_order_16 0 rfl ?_
      refine w_iconst (v := 0) ok dX12_order_17 (by decide) ?_
      refine y_putI ok dX12_order_18 (fwX12_491 rfl) (congrArg Prod.fst s_130) rfl (ltM hnn (by decide)) (sdm hf (by decide)) ?_
      refine w_iconst (v := 0) ok dX12_order_21 (by decide) ?_
      refine w_istore_n ok dX12_order_22 rfl (by decide) rfl ?_
      refine w_loc [1, 2, 0] rfl ?_
      refine loop_w (fun (s23 : Int32 × SI) => WK K 0 0 23 [(0, .ref 130), (1, .int a0), (2, .int s23.1)] [] (eI f s23.2) (eJ f J) R n g) (fun (s23 : Int32 × SI) => WK K 0 0 79 [(0, .ref 130), (1, .int a0), (2, .int s23.1)] [] (eI f s23.2) (eJ f J) R n g) (B_X12_order_w23 a0 I J) 800 (0, (u2 (u2 I 130 0 0) 130 66 0)) (F_X12_order_w23 a0 I J (0, (u2 (u2 I 130 0 0) 130 66 0))) (itW_some (hp1 c1 c2)) ?_ ?_
      · show WK K 0 0 79 [(0, .ref 130), (1, .int a0), (2, .int ((F_X12_order_w23 a0 I J (0, (u2 (u2 I 130 0 0) 130 66 0))).1))] [] (eI f ((F_X12_order_w23 a0 I J (0, (u2 (u2 I 130 0 0) 130 66 0))).2)) (eJ f J) R n g
        refine w_aload_n ok dX12_order_79 0 rfl ?_
        refine w_iconst (v := (-1)) ok dX12_order_80 (by decide) ?_
        refine y_putI ok dX12_order_81 (fwX12_500 rfl) (congrArg Prod.fst s_130) rfl (ltM hnn (by decide)) (sdm hf (by decide)) ?_
        show WK K 0 0 84 [(0, .ref 130), (1, .int a0), (2, .int ((F_X12_order_w23 a0 I J (0, (u2 (u2 I 130 0 0) 130 66 0))).1))] [] (eI f (S1_X12_order a0 I J)) (eJ f J) R n g
        refine w_aload_n ok dX12_order_84 0 rfl ?_
        refine w_iconst (v := 0) ok dX12_order_85 (by decide) ?_
        refine w_iconst (v := 0) ok dX12_order_86 (by decide) ?_
        refine w_cV (As := [.int 0, .int 0]) ok dX12_order_87 iX12_rows (lX12_494 rfl) (rcv cls12 (congrArg Prod.fst s_130)) (ltM hnn (by decide)) ((cr_rows ro hnn hf (dd := 8) (by decide) 6) (0 : Int32) (0 : Int32) (S1_X12_order a0 I J) J (hp2 c1 c2)) (by decide) rfl (Nat.le_of_ble_eq_true rfl) ?_
        refine w_iload_n ok dX12_order_90 1 rfl ?_
        refine w_iconst (v := 4) ok dX12_order_91 (by decide) ?_
        refine w_icmp_ne (tgt := 102) ok dX12_order_92 (by decide) (fun c3 => ?_) (fun c3 => ?_)
        · skip
          refine w_iload_n ok dX12_order_102 1 rfl ?_
          refine w_aload_n ok dX12_order_103 0 rfl ?_
          refine y_getI ok dX12_order_104 (fX12_491 rfl) (congrArg Prod.fst s_130) rfl (ltM hnn (by decide)) (sdm hf (by decide)) ?_
          refine w_icmp_ge (tgt := 119) ok dX12_order_107 (by decide) (fun c4 => ?_) (fun c4 => ?_)
          · skip
            refine w_bipush (v := (-2)) ok dX12_order_119 (by decide) ?_
            exact w_iret ok fin dX12_order_121 rfl (by unfold F_X12_order FI_X12_order FJ_X12_order; simp only [if_neg c1]; simp only [if_pos c2]; simp only [if_neg c3]; simp only [if_pos c4]; exact Pd.i)
          · skip
            refine w_aload_n ok dX12_order_110 0 rfl ?_
            refine w_getR ok dX12_order_111 (fX12_144 rfl) (congrArg Prod.fst s_130) rfl (r_130_65 ro) (ltM hnn (by decide)) ?_
            refine w_iload_n ok dX12_order_114 1 rfl ?_
            refine y_iald (q := a0.toNatClampNeg) ok dX12_order_115 s_172 (hp3 c1 c2 c3 c4) (by decide) (ltM hnn (by decide)) (sdm hf (by decide)) ?_
            refine w_goto (tgt := 121) ok dX12_order_116 (by decide) ?_
            exact w_iret ok fin dX12_order_121 rfl (by unfold F_X12_order FI_X12_order FJ_X12_order; simp only [if_neg c1]; simp only [if_pos c2]; simp only [if_neg c3]; simp only [if_neg c4]; exact Pd.i)
        · skip
          refine w_aload_n ok dX12_order_95 0 rfl ?_
          refine y_getI ok dX12_order_96 (fX12_500 rfl) (congrArg Prod.fst s_130) rfl (ltM hnn (by decide)) (sdm hf (by decide)) ?_
          refine w_goto (tgt := 121) ok dX12_order_99 (by decide) ?_
          exact w_iret ok fin dX12_order_121 rfl (by unfold F_X12_order FI_X12_order FJ_X12_order; simp only [if_neg c1]; simp only [if_pos c2]; simp only [if_pos c3]; exact Pd.i)
      · intro n23 s23 hs23 kc23 kx23
        show WK K 0 0 23 [(0, .ref 130), (1, .int a0), (2, .int s23.1)] [] (eI f s23.2) (eJ f J) R n g
        refine w_iload_n ok dX12_order_23 2 rfl ?_
        refine w_aload_n ok dX12_order_24 0 rfl ?_
        refine w_getR ok dX12_order_25 (fX12_13 rfl) (congrArg Prod.fst s_130) rfl (r_130_3 ro) (ltM hnn (by decide)) ?_
        refine w_iconst (v := 1) ok dX12_order_28 (by decide) ?_
        refine y_iald (q := 1) ok dX12_order_29 s_132 (by decide) (by decide) (ltM hnn (by decide)) (sdm hf (by decide)) ?_
        refine w_icmp_ge (tgt := 79) ok dX12_order_30 (by decide) (fun c5 => ?_) (fun c5 => ?_)
        · skip
          have eB : B_X12_order_w23 a0 I J s23 = .inr (s23.1, s23.2) := by
            unfold B_X12_order_w23; exact (if_pos c5).trans (rfl)
          refine w_loc [0, 1, 2] rfl ?_
          have kk := kx23 _ eB
          exact kk
        · skip
          refine w_aload_n ok dX12_order_33 0 rfl ?_
          refine y_getI ok dX12_order_34 (fX12_491 rfl) (congrArg Prod.fst s_130) rfl (ltM hnn (by decide)) (sdm hf (by decide)) ?_
          refine w_iconst (v := 4) ok dX12_order_37 (by decide) ?_
          refine w_icmp_ge (tgt := 79) ok dX12_order_38 (by decide) (fun c6 => ?_) (fun c6 => ?_)
          · skip
            have eB : B_X12_order_w23 a0 I J s23 = .inr (s23.1, s23.2) := by
              unfold B_X12_order_w23; exact (if_neg c5).trans ((if_pos c6).trans (rfl))
            refine w_loc [0, 1, 2] rfl ?_
            have kk := kx23 _ eB
            exact kk
          · skip
            refine w_aload_n ok dX12_order_41 0 rfl ?_
            refine w_iconst (v := 0) ok dX12_order_42 (by decide) ?_
            refine w_iload_n ok dX12_order_43 2 rfl ?_
            refine w_cV (As := [.int 0, .int s23.1]) ok dX12_order_44 iX12_isDone (lX12_367 rfl) (rcv cls12 (congrArg Prod.fst s_130)) (ltM hnn (by decide)) (c_X12_isDone ro hnn hf 0 s23.1  (hp4 c1 c2 n23 s23 hs23 c5 c6)) (by decide) rfl (Nat.le_of_ble_eq_true rfl) ?_
            refine w_if_eq (tgt := 53) ok dX12_order_47 (by decide) (fun c7 => ?_) (fun c7 => ?_)
            · skip
              refine w_aload_n ok dX12_order_53 0 rfl ?_
              refine w_getR ok dX12_order_54 (fX12_138 rfl) (congrArg Prod.fst s_130) rfl (r_130_63 ro) (ltM hnn (by decide)) ?_
              refine w_aload_n ok dX12_order_57 0 rfl ?_
              refine y_getI ok dX12_order_58 (fX12_491 rfl) (congrArg Prod.fst s_130) rfl (ltM hnn (by decide)) (sdm hf (by decide)) ?_
              refine w_iload_n ok dX12_order_61 2 rfl ?_
              refine y_iast (q := (s23.2 130 66).toNatClampNeg) ok dX12_order_62 s_170 (hp5 c1 c2 n23 s23 hs23 c5 c6 c7) (by decide) (ltM hnn (by decide)) (sdm hf (by decide)) ?_
              refine w_aload_n ok dX12_order_63 0 rfl ?_
              refine w_dup ok dX12_order_64 rfl ?_
              refine y_getI ok dX12_order_65 (fX12_491 rfl) (congrArg Prod.fst s_130) rfl (ltM hnn (by decide)) (sdm hf (by decide)) ?_
              refine w_iconst (v := 1) ok dX12_order_68 (by decide) ?_
              refine w_iadd ok dX12_order_69 ?_
              refine y_putI ok dX12_order_70 (fwX12_491 rfl) (congrArg Prod.fst s_130) rfl (ltM hnn (by decide)) (sdm hf (by decide)) ?_
              show WK K 0 0 73 [(0, .ref 130), (1, .int a0), (2, .int s23.1)] [] (eI f (S2_X12_order a0 I J s23)) (eJ f J) R n g
              refine w_iinc (v := s23.1 + 1) ok dX12_order_73 2 rfl rfl (by decide) rfl ?_
              refine w_goto (tgt := 23) ok dX12_order_76 (by decide) ?_
              have eB : B_X12_order_w23 a0 I J s23 = .inl ((s23.1 + 1), (S2_X12_order a0 I J s23)) := by
                unfold B_X12_order_w23; exact (if_neg c5).trans ((if_neg c6).trans ((if_pos c7).trans (rfl)))
              refine w_loc [1, 2, 0] rfl ?_
              have kk := kc23 _ eB
              exact kk
            · skip
              refine w_goto (tgt := 73) ok dX12_order_50 (by decide) ?_
              refine w_iinc (v := s23.1 + 1) ok dX12_order_73 2 rfl rfl (by decide) rfl ?_
              refine w_goto (tgt := 23) ok dX12_order_76 (by decide) ?_
              have eB : B_X12_order_w23 a0 I J s23 = .inl ((s23.1 + 1), s23.2) := by
                unfold B_X12_order_w23; exact (if_neg c5).trans ((if_neg c6).trans ((if_neg c7).trans (rfl)))
              refine w_loc [1, 2, 0] rfl ?_
              have kk := kc23 _ eB
              exact kk
    · skip
      refine w_iconst (v := (-1)) ok dX12_order_14 (by decide) ?_
      exact w_iret ok fin dX12_order_15 rfl (by unfold F_X12_order FI_X12_order FJ_X12_order; simp only [if_neg c1]; simp only [if_neg c2]; exact Pd.i)
def S3_X2_work (a0 : Nat) (I : SI) (J : SJ) (i2 : Nat) (s2 : SI) (i10 : Nat) (s10 : SI) : SI := putF s10 127 36 (((nI i2) * 6) + (nI i10)) (F_X2_clashesBy a0 (nI i2) (nI i10) s10 J)
def B_X2_work_l10 (a0 : Nat) (I : SI) (J : SJ) (i2 : Nat) (s2 : SI) (i10 : Nat) (s10 : SI) : SI := (S3_X2_work a0 I J i2 s2 i10 s10)
def F_X2_work_l10 (a0 : Nat) (I : SI) (J : SJ) (i2 : Nat) (s2 : SI) (s0 : SI) : SI := itN (B_X2_work_l10 a0 I J i2 s2) (6) s0
def B_X2_work_l2 (a0 : Nat) (I : SI) (J : SJ) (i2 : Nat) (s2 : SI) : SI := (F_X2_work_l10 a0 I J i2 s2 s2)
def F_X2_work_l2 (a0 : Nat) (I : SI) (J : SJ) (s0 : SI) : SI := itN (B_X2_work_l2 a0 I J) (6) s0
def S1_X2_work (a0 : Nat) (I : SI) (J : SJ) : SI := (RG_choose 8 0 (0 : Int32) (0 : Int32) (0 : Int32) (u2 (fillF (F_X2_work_l2 a0 I J I) 125 0 6) 124 1 1000000) J).1
def S2_X2_work (a0 : Nat) (I : SI) (J : SJ) : SJ := (RG_choose 8 0 (0 : Int32) (0 : Int32) (0 : Int32) (u2 (fillF (F_X2_work_l2 a0 I J I) 125 0 6) 124 1 1000000) J).2
def FI_X2_work (a0 : Nat) (I : SI) (J : SJ) : SI := (S1_X2_work a0 I J)
def FJ_X2_work (a0 : Nat) (I : SI) (J : SJ) : SJ := (S2_X2_work a0 I J)
def H_X2_work (a0 : Nat) (I : SI) (J : SJ) : Prop := (HG_choose 8 0 (0 : Int32) (0 : Int32) (0 : Int32) (u2 (fillF (F_X2_work_l2 a0 I J I) 125 0 6) 124 1 1000000) J)
set_option maxHeartbeats 1000000 in
set_option maxRecDepth 40000 in
theorem c_X2_work {I : SI} {J : SJ} {R : SR} {n g : Nat} {f : Fr} (ro : RO R) (hnn : nK ≤ n) (hf : f.1 = true) {a0 : Nat} (ha0 : IsSc a0)  (hp : H_X2_work a0 I J) : MM 11 0 0 mX2_work [.ref 124, .ref a0] (eI f I) (eJ f J) R n g (Pd none (eI f (FI_X2_work a0 I J)) (eJ f (FJ_X2_work a0 I J)) R n g) := by
  refine MM.of (by decide) (Nat.le_of_ble_eq_true rfl) fun K ok fin => ?_
  show WK K 0 0 0 [(0, .ref 124), (1, .ref a0)] [] (eI f I) (eJ f J) R n g
  have hp1 := hp
  refine w_iconst (v := 0) ok dX2_work_0 (by decide) ?_
  refine w_istore_n ok dX2_work_1 rfl (by decide) rfl ?_
  refine w_loc [1, 2, 0] rfl ?_
  refine loop_for (σ := SI) (fun (i2 : Nat) (s2 : SI) => WK K 0 0 2 [(0, .ref 124), (1, .ref a0), (2, .int (nI i2))] [] (eI f s2) (eJ f J) R n g) (B_X2_work_l2 a0 I J) (6) (I) ?_ ?_
  · show WK K 0 0 2 [(0, .ref 124), (1, .ref a0), (2, .int (nI 6))] [] (eI f (F_X2_work_l2 a0 I J I)) (eJ f J) R n g
    have e1 : (6 : Int32) ≤ (nI 6) := (show nI 6 ≤ nI 6 from nI_le (by omega) (by decide))
    refine w_iload_n ok dX2_work_2 2 rfl ?_
    refine w_bipush (v := 6) ok dX2_work_3 (by decide) ?_
    refine w_icmp_ge (tgt := 47) ok dX2_work_5 (by decide) (fun _ => ?_) (fun h => absurd e1 h)
    refine w_aload_n ok dX2_work_47 0 rfl ?_
    refine w_getR ok dX2_work_48 (fX2_9 rfl) (congrArg Prod.fst s_124) rfl (r_124_0 ro) (ltK hnn (by decide)) ?_
    refine w_iconst (v := 0) ok dX2_work_51 (by decide) ?_
    refine w_cS (As := [.ref 125, .int 0]) ok dX2_work_52 iX11_fill (lX2_37 rfl) (c_fill s_125 (ltK hnn (by decide)) (sdc hf (by decide)) 0) (by decide) rfl (Nat.le_of_ble_eq_true rfl) ?_
    refine w_aload_n ok dX2_work_55 0 rfl ?_
    refine w_ldc ok dX2_work_56 kX2_41 ?_
    refine y_putI ok dX2_work_58 (fwX2_15 rfl) (congrArg Prod.fst s_124) rfl (ltK hnn (by decide)) (sdc hf (by decide)) ?_
    refine w_aload_n ok dX2_work_61 0 rfl ?_
    refine w_iconst (v := 0) ok dX2_work_62 (by decide) ?_
    refine w_iconst (v := 0) ok dX2_work_63 (by decide) ?_
    refine w_iconst (v := 0) ok dX2_work_64 (by decide) ?_
    refine w_cS (As := [.ref 124, .int 0, .int 0, .int 0]) ok dX2_work_65 iX2_choose (lX2_42 rfl) ((cr_choose ro hnn hf (dd := 2) (by decide) 8) (0 : Int32) (0 : Int32) (0 : Int32) (u2 (fillF (F_X2_work_l2 a0 I J I) 125 0 6) 124 1 1000000) J (hp1)) (by decide) rfl (Nat.le_of_ble_eq_true rfl) ?_
    show WK K 0 0 68 [(0, .ref 124), (1, .ref a0), (2, .int (nI 6))] [] (eI f (S1_X2_work a0 I J)) (eJ f (S2_X2_work a0 I J)) R n g
    exact w_vret ok fin dX2_work_68 rfl (by unfold FI_X2_work FJ_X2_work; exact Pd.i)
  · intro i2 s2 hi2 hs2 k2
    show WK K 0 0 2 [(0, .ref 124), (1, .ref a0), (2, .int (nI i2))] [] (eI f s2) (eJ f J) R n g
    have e2 : ¬ ((6 : Int32) ≤ (nI i2)) := (show ¬ (nI 6 ≤ nI i2) from nI_ge (by omega) (by decide))
    refine w_iload_n ok dX2_work_2 2 rfl ?_
    refine w_bipush (v := 6) ok dX2_work_3 (by decide) ?_
    refine w_icmp_ge (tgt := 47) ok dX2_work_5 (by decide) (fun h => absurd h e2) (fun _ => ?_)
    refine w_iconst (v := 0) ok dX2_work_8 (by decide) ?_
    refine w_istore_n ok dX2_work_9 rfl (by decide) rfl ?_
    refine w_loc [1, 2, 3, 0] rfl ?_
    refine loop_for (σ := SI) (fun (i10 : Nat) (s10 : SI) => WK K 0 0 10 [(0, .ref 124), (1, .ref a0), (2, .int (nI i2)), (3, .int (nI i10))] [] (eI f s10) (eJ f J) R n g) (B_X2_work_l10 a0 I J i2 s2) (6) (s2) ?_ ?_
    · show WK K 0 0 10 [(0, .ref 124), (1, .ref a0), (2, .int (nI i2)), (3, .int (nI 6))] [] (eI f (F_X2_work_l10 a0 I J i2 s2 s2)) (eJ f J) R n g
      have e3 : (6 : Int32) ≤ (nI 6) := (show nI 6 ≤ nI 6 from nI_le (by omega) (by decide))
      refine w_iload_n ok dX2_work_10 3 rfl ?_
      refine w_bipush (v := 6) ok dX2_work_11 (by decide) ?_
      refine w_icmp_ge (tgt := 41) ok dX2_work_13 (by decide) (fun _ => ?_) (fun h => absurd e3 h)
      refine w_iinc (v := (nI i2) + 1) ok dX2_work_41 2 rfl rfl (by decide) rfl ?_
      refine w_goto (tgt := 2) ok dX2_work_44 (by decide) ?_
      have eB : B_X2_work_l2 a0 I J i2 s2 = (F_X2_work_l10 a0 I J i2 s2 s2) := by
        unfold B_X2_work_l2; exact rfl
      have kk := k2
      rw [eB] at kk
      refine w_loc [1, 2, 0] rfl ?_
      rw [nI_1 i2]
      exact kk
    · intro i10 s10 hi10 hs10 k10
      show WK K 0 0 10 [(0, .ref 124), (1, .ref a0), (2, .int (nI i2)), (3, .int (nI i10))] [] (eI f s10) (eJ f J) R n g
      have e4 : ¬ ((6 : Int32) ≤ (nI i10)) := (show ¬ (nI 6 ≤ nI i10) from nI_ge (by omega) (by decide))
      refine w_iload_n ok dX2_work_10 3 rfl ?_
      refine w_bipush (v := 6) ok dX2_work_11 (by decide) ?_
      refine w_icmp_ge (tgt := 41) ok dX2_work_13 (by decide) (fun h => absurd h e4) (fun _ => ?_)
      refine w_aload_n ok dX2_work_16 0 rfl ?_
      refine w_getR ok dX2_work_17 (fX2_22 rfl) (congrArg Prod.fst s_124) rfl (r_124_4 ro) (ltK hnn (by decide)) ?_
      refine w_iload_n ok dX2_work_20 2 rfl ?_
      refine w_bipush (v := 6) ok dX2_work_21 (by decide) ?_
      refine w_imul ok dX2_work_23 ?_
      refine w_iload_n ok dX2_work_24 3 rfl ?_
      refine w_iadd ok dX2_work_25 ?_
      refine w_aload_n ok dX2_work_26 1 rfl ?_
      refine w_iload_n ok dX2_work_27 2 rfl ?_
      refine w_iload_n ok dX2_work_28 3 rfl ?_
      refine w_cS (As := [.ref a0, .int (nI i2), .int (nI i10)]) ok dX2_work_29 iX2_clashesBy (lX2_29 rfl) (c_X2_clashesBy ro hnn hf (nI i2) (nI i10) ha0) (by decide) rfl (Nat.le_of_ble_eq_true rfl) ?_
      show WK K 0 0 32 [(0, .ref 124), (1, .ref a0), (2, .int (nI i2)), (3, .int (nI i10))] [.int (F_X2_clashesBy a0 (nI i2) (nI i10) s10 J), .int (((nI i2) * 6) + (nI i10)), .ref 127] (eI f s10) (eJ f J) R n g
      refine w_cS (As := [.ref 127, .int (((nI i2) * 6) + (nI i10)), .int (F_X2_clashesBy a0 (nI i2) (nI i10) s10 J)]) ok dX2_work_32 iX11_put (lX2_33 rfl) (c_put s_127 (ltK hnn (by decide)) (sdc hf (by decide)) (((nI i2) * 6) + (nI i10)) (F_X2_clashesBy a0 (nI i2) (nI i10) s10 J)) (by decide) rfl (Nat.le_of_ble_eq_true rfl) ?_
      show WK K 0 0 35 [(0, .ref 124), (1, .ref a0), (2, .int (nI i2)), (3, .int (nI i10))] [] (eI f (S3_X2_work a0 I J i2 s2 i10 s10)) (eJ f J) R n g
      refine w_iinc (v := (nI i10) + 1) ok dX2_work_35 3 rfl rfl (by decide) rfl ?_
      refine w_goto (tgt := 10) ok dX2_work_38 (by decide) ?_
      have eB : B_X2_work_l10 a0 I J i2 s2 i10 s10 = (S3_X2_work a0 I J i2 s2 i10 s10) := by
        unfold B_X2_work_l10; exact rfl
      have kk := k10
      rw [eB] at kk
      refine w_loc [1, 2, 3, 0] rfl ?_
      rw [nI_1 i10]
      exact kk
def F_X11_least (a0 : Int32) (I : SI) (J : SJ) : Int32 := if a0 < 0 then -1 else (if a0 ≤ 6 then (if (6 : Int32) ≤ a0 then (if a0 = 6 then (FI_X2_work 86 I J) 124 1 else atF ((FI_X2_work 86 I J) 125) 6 a0) else (if a0 < (I 3 1) then (if a0 = 6 then (FI_X2_work 86 I J) 124 1 else atF ((FI_X2_work 86 I J) 125) 6 a0) else -2)) else -1)
def FI_X11_least (a0 : Int32) (I : SI) (J : SJ) : SI := if a0 < 0 then I else (if a0 ≤ 6 then (if (6 : Int32) ≤ a0 then (if a0 = 6 then FI_X2_work 86 I J else FI_X2_work 86 I J) else (if a0 < (I 3 1) then (if a0 = 6 then FI_X2_work 86 I J else FI_X2_work 86 I J) else I)) else I)
def FJ_X11_least (a0 : Int32) (I : SI) (J : SJ) : SJ := if a0 < 0 then J else (if a0 ≤ 6 then (if (6 : Int32) ≤ a0 then (if a0 = 6 then FJ_X2_work 86 I J else FJ_X2_work 86 I J) else (if a0 < (I 3 1) then (if a0 = 6 then FJ_X2_work 86 I J else FJ_X2_work 86 I J) else J)) else J)
def H_X11_least (a0 : Int32) (I : SI) (J : SJ) : Prop := (¬ (a0 < 0) → a0 ≤ 6 → (6 : Int32) ≤ a0 → H_X2_work 86 I J) ∧ (¬ (a0 < 0) → a0 ≤ 6 → ¬ ((6 : Int32) ≤ a0) → a0 < (I 3 1) → H_X2_work 86 I J)
set_option maxHeartbeats 1000000 in
set_option maxRecDepth 40000 in
theorem c_X11_least {I : SI} {J : SJ} {R : SR} {n g : Nat} {f : Fr} (ro : RO R) (hnn : nK ≤ n) (hf : f.1 = true) (a0 : Int32)  (hp : H_X11_least a0 I J) : MM 12 0 0 mX11_least [.ref 0, .int a0] (eI f I) (eJ f J) R n g (Pd (some (.int (F_X11_least a0 I J))) (eI f (FI_X11_least a0 I J)) (eJ f (FJ_X11_least a0 I J)) R n g) := by
  refine MM.of (by decide) (Nat.le_of_ble_eq_true rfl) fun K ok fin => ?_
  show WK K 0 0 0 [(0, .ref 0), (1, .int a0)] [] (eI f I) (eJ f J) R n g
  obtain ⟨hp1, hp2⟩ := hp
  refine w_iload_n ok dX11_least_0 1 rfl ?_
  refine w_if_lt (tgt := 10) ok dX11_least_1 (by decide) (fun c1 => ?_) (fun c1 => ?_)
  · skip
    refine w_iconst (v := (-1)) ok dX11_least_10 (by decide) ?_
    exact w_iret ok fin dX11_least_11 rfl (by unfold F_X11_least FI_X11_least FJ_X11_least; simp only [if_pos c1]; exact Pd.i)
  · skip
    refine w_iload_n ok dX11_least_4 1 rfl ?_
    refine w_bipush (v := 6) ok dX11_least_5 (by decide) ?_
    refine w_icmp_le (tgt := 12) ok dX11_least_7 (by decide) (fun c2 => ?_) (fun c2 => ?_)
    · skip
      refine w_iload_n ok dX11_least_12 1 rfl ?_
      refine w_bipush (v := 6) ok dX11_least_13 (by decide) ?_
      refine w_icmp_ge (tgt := 35) ok dX11_least_15 (by decide) (fun c3 => ?_) (fun c3 => ?_)
      · skip
        refine w_aload_n ok dX11_least_35 0 rfl ?_
        refine w_getR ok dX11_least_36 (fX11_71 rfl) (congrArg Prod.fst s_0) rfl (r_0_10 ro) (ltK hnn (by decide)) ?_
        refine w_aload_n ok dX11_least_39 0 rfl ?_
        refine w_getR ok dX11_least_40 (fX11_34 rfl) (congrArg Prod.fst s_0) rfl (r_0_4 ro) (ltK hnn (by decide)) ?_
        refine w_cV (As := [.ref 86]) ok dX11_least_43 iX2_work (lX11_259 rfl) (rcv cls2 (congrArg Prod.fst s_124)) (ltK hnn (by decide)) (c_X2_work ro hnn hf  isSc_86 (hp1 c1 c2 c3)) (by decide) rfl (Nat.le_of_ble_eq_true rfl) ?_
        refine w_iload_n ok dX11_least_46 1 rfl ?_
        refine w_bipush (v := 6) ok dX11_least_47 (by decide) ?_
        refine w_icmp_ne (tgt := 62) ok dX11_least_49 (by decide) (fun c4 => ?_) (fun c4 => ?_)
        · skip
          refine w_aload_n ok dX11_least_62 0 rfl ?_
          refine w_getR ok dX11_least_63 (fX11_71 rfl) (congrArg Prod.fst s_0) rfl (r_0_10 ro) (ltK hnn (by decide)) ?_
          refine w_getR ok dX11_least_66 (fX11_265 rfl) (congrArg Prod.fst s_124) rfl (r_124_0 ro) (ltK hnn (by decide)) ?_
          refine w_iload_n ok dX11_least_69 1 rfl ?_
          refine w_cS (As := [.ref 125, .int a0]) ok dX11_least_70 iX11_at (lX11_146 rfl) (c_at s_125 (ltK hnn (by decide)) (sdc hf (by decide)) a0) (by decide) rfl (Nat.le_of_ble_eq_true rfl) ?_
          exact w_iret ok fin dX11_least_73 rfl (by unfold F_X11_least FI_X11_least FJ_X11_least; simp only [if_neg c1]; simp only [if_pos c2]; simp only [if_pos c3]; simp only [if_neg c4]; exact Pd.i)
        · skip
          refine w_aload_n ok dX11_least_52 0 rfl ?_
          refine w_getR ok dX11_least_53 (fX11_71 rfl) (congrArg Prod.fst s_0) rfl (r_0_10 ro) (ltK hnn (by decide)) ?_
          refine y_getI ok dX11_least_56 (fX11_262 rfl) (congrArg Prod.fst s_124) rfl (ltK hnn (by decide)) (sdc hf (by decide)) ?_
          refine w_goto (tgt := 73) ok dX11_least_59 (by decide) ?_
          exact w_iret ok fin dX11_least_73 rfl (by unfold F_X11_least FI_X11_least FJ_X11_least; simp only [if_neg c1]; simp only [if_pos c2]; simp only [if_pos c3]; simp only [if_pos c4]; exact Pd.i)
      · skip
        refine w_iload_n ok dX11_least_18 1 rfl ?_
        refine w_aload_n ok dX11_least_19 0 rfl ?_
        refine w_getR ok dX11_least_20 (fX11_20 rfl) (congrArg Prod.fst s_0) rfl (r_0_2 ro) (ltK hnn (by decide)) ?_
        refine w_getR ok dX11_least_23 (fX11_112 rfl) (congrArg Prod.fst s_2) rfl (r_2_0 ro) (ltK hnn (by decide)) ?_
        refine y_getI ok dX11_least_26 (fX11_256 rfl) (congrArg Prod.fst s_3) rfl (ltK hnn (by decide)) (sdc hf (by decide)) ?_
        refine w_icmp_lt (tgt := 35) ok dX11_least_29 (by decide) (fun c5 => ?_) (fun c5 => ?_)
        · skip
          refine w_aload_n ok dX11_least_35 0 rfl ?_
          refine w_getR ok dX11_least_36 (fX11_71 rfl) (congrArg Prod.fst s_0) rfl (r_0_10 ro) (ltK hnn (by decide)) ?_
          refine w_aload_n ok dX11_least_39 0 rfl ?_
          refine w_getR ok dX11_least_40 (fX11_34 rfl) (congrArg Prod.fst s_0) rfl (r_0_4 ro) (ltK hnn (by decide)) ?_
          refine w_cV (As := [.ref 86]) ok dX11_least_43 iX2_work (lX11_259 rfl) (rcv cls2 (congrArg Prod.fst s_124)) (ltK hnn (by decide)) (c_X2_work ro hnn hf  isSc_86 (hp2 c1 c2 c3 c5)) (by decide) rfl (Nat.le_of_ble_eq_true rfl) ?_
          refine w_iload_n ok dX11_least_46 1 rfl ?_
          refine w_bipush (v := 6) ok dX11_least_47 (by decide) ?_
          refine w_icmp_ne (tgt := 62) ok dX11_least_49 (by decide) (fun c6 => ?_) (fun c6 => ?_)
          · skip
            refine w_aload_n ok dX11_least_62 0 rfl ?_
            refine w_getR ok dX11_least_63 (fX11_71 rfl) (congrArg Prod.fst s_0) rfl (r_0_10 ro) (ltK hnn (by decide)) ?_
            refine w_getR ok dX11_least_66 (fX11_265 rfl) (congrArg Prod.fst s_124) rfl (r_124_0 ro) (ltK hnn (by decide)) ?_
            refine w_iload_n ok dX11_least_69 1 rfl ?_
            refine w_cS (As := [.ref 125, .int a0]) ok dX11_least_70 iX11_at (lX11_146 rfl) (c_at s_125 (ltK hnn (by decide)) (sdc hf (by decide)) a0) (by decide) rfl (Nat.le_of_ble_eq_true rfl) ?_
            exact w_iret ok fin dX11_least_73 rfl (by unfold F_X11_least FI_X11_least FJ_X11_least; simp only [if_neg c1]; simp only [if_pos c2]; simp only [if_neg c3]; simp only [if_pos c5]; simp only [if_neg c6]; exact Pd.i)
          · skip
            refine w_aload_n ok dX11_least_52 0 rfl ?_
            refine w_getR ok dX11_least_53 (fX11_71 rfl) (congrArg Prod.fst s_0) rfl (r_0_10 ro) (ltK hnn (by decide)) ?_
            refine y_getI ok dX11_least_56 (fX11_262 rfl) (congrArg Prod.fst s_124) rfl (ltK hnn (by decide)) (sdc hf (by decide)) ?_
            refine w_goto (tgt := 73) ok dX11_least_59 (by decide) ?_
            exact w_iret ok fin dX11_least_73 rfl (by unfold F_X11_least FI_X11_least FJ_X11_least; simp only [if_neg c1]; simp only [if_pos c2]; simp only [if_neg c3]; simp only [if_pos c5]; simp only [if_pos c6]; exact Pd.i)
        · skip
          refine w_bipush (v := (-2)) ok dX11_least_32 (by decide) ?_
          exact w_iret ok fin dX11_least_34 rfl (by unfold F_X11_least FI_X11_least FJ_X11_least; simp only [if_neg c1]; simp only [if_pos c2]; simp only [if_neg c3]; simp only [if_neg c5]; exact Pd.i)
    · skip
      refine w_iconst (v := (-1)) ok dX11_least_10 (by decide) ?_
      exact w_iret ok fin dX11_least_11 rfl (by unfold F_X11_least FI_X11_least FJ_X11_least; simp only [if_neg c1]; simp only [if_neg c2]; exact Pd.i)
def T_X12_line_j72 (I : SI) (J : SJ) : SI := if (F_X12_isFull (I 130 29) I J) = 0 then (if (I 130 29) < 6 then I else (if (8 : Int32) < (I 130 29) then I else (if (((I 130 23) >>> ((I 130 29) &&& 31)) &&& 1) = 1 then (FI_X12_wrong 3 I J) else I))) else (FI_X12_wrong 2 I J)
def S1_X12_line (I : SI) (J : SJ) : SI := u2 (T_X12_line_j72 I J) 130 23 ((((T_X12_line_j72 I J)) 130 23) ||| ((1 : Int32) <<< ((I 130 29) &&& 31)))
def S4_X12_line (I : SI) (J : SJ) : SI := FI_X12_fresh 133 12 6 (F_X12_fresher 0 (FI_X12_token  (S1_X12_line I J) J) J) (FI_X12_token  (S1_X12_line I J) J) J
def S5_X12_line (I : SI) (J : SJ) : Int32 := F_X12_fresh 133 12 6 (F_X12_fresher 0 (FI_X12_token  (S1_X12_line I J) J) J) (FI_X12_token  (S1_X12_line I J) J) J
def S6_X12_line (I : SI) (J : SJ) : SI := u2 (S4_X12_line I J) 133 ((6 : Int32) + (F_X12_fresher 0 (FI_X12_token  (S1_X12_line I J) J) J)).toNatClampNeg (S5_X12_line I J)
def S7_X12_line (I : SI) (J : SJ) : SI := u2 (FI_X12_numeral 0 99 (S6_X12_line I J) J) 134 ((6 : Int32) + (F_X12_fresher 0 (FI_X12_token  (S1_X12_line I J) J) J)).toNatClampNeg (F_X12_numeral 0 99 (S6_X12_line I J) J)
def S8_X12_line (I : SI) (J : SJ) : SI := u2 (FI_X12_numeral 2 6 (S7_X12_line I J) J) 135 ((6 : Int32) + (F_X12_fresher 0 (FI_X12_token  (S1_X12_line I J) J) J)).toNatClampNeg (F_X12_numeral 2 6 (S7_X12_line I J) J)
def S9_X12_line (I : SI) (J : SJ) : SI := FI_X12_reads 0 ((F_X12_fresher 0 (S8_X12_line I J) J) + 1) (S8_X12_line I J) J
def S10_X12_line (I : SI) (J : SJ) : SI := FI_X12_fresh 136 16 8 (F_X12_fresher 1 (FI_X12_token  (S1_X12_line I J) J) J) (FI_X12_token  (S1_X12_line I J) J) J
def S11_X12_line (I : SI) (J : SJ) : Int32 := F_X12_fresh 136 16 8 (F_X12_fresher 1 (FI_X12_token  (S1_X12_line I J) J) J) (FI_X12_token  (S1_X12_line I J) J) J
def S12_X12_line (I : SI) (J : SJ) : SI := u2 (S10_X12_line I J) 136 ((8 : Int32) + (F_X12_fresher 1 (FI_X12_token  (S1_X12_line I J) J) J)).toNatClampNeg (S11_X12_line I J)
def S13_X12_line (I : SI) (J : SJ) : SI := u2 (FI_X12_numeral 1 99 (S12_X12_line I J) J) 137 ((8 : Int32) + (F_X12_fresher 1 (FI_X12_token  (S1_X12_line I J) J) J)).toNatClampNeg (F_X12_numeral 1 99 (S12_X12_line I J) J)
def S14_X12_line (I : SI) (J : SJ) : SI := u2 (FI_X12_numeral 0 99 (S13_X12_line I J) J) 138 ((8 : Int32) + (F_X12_fresher 1 (FI_X12_token  (S1_X12_line I J) J) J)).toNatClampNeg (F_X12_numeral 0 99 (S13_X12_line I J) J)
def S15_X12_line (I : SI) (J : SJ) : SI := FI_X12_reads 1 ((F_X12_fresher 1 (S14_X12_line I J) J) + 1) (S14_X12_line I J) J
def S16_X12_line (I : SI) (J : SJ) : SI := FI_X12_partyLine ((4 : Int32) + (F_X12_fresher 3 (FI_X12_token  (S1_X12_line I J) J) J)) (FI_X12_token  (S1_X12_line I J) J) J
def S17_X12_line (I : SI) (J : SJ) : SI := FI_X12_fresh 144 8 4 (F_X12_fresher 4 (FI_X12_token  (S1_X12_line I J) J) J) (FI_X12_token  (S1_X12_line I J) J) J
def S18_X12_line (I : SI) (J : SJ) : Int32 := F_X12_fresh 144 8 4 (F_X12_fresher 4 (FI_X12_token  (S1_X12_line I J) J) J) (FI_X12_token  (S1_X12_line I J) J) J
def S19_X12_line (I : SI) (J : SJ) : SI := u2 (S17_X12_line I J) 144 ((4 : Int32) + (F_X12_fresher 4 (FI_X12_token  (S1_X12_line I J) J) J)).toNatClampNeg (S18_X12_line I J)
def S20_X12_line (I : SI) (J : SJ) : SI := u2 (FI_X12_numeral 0 63 (S19_X12_line I J) J) 145 ((4 : Int32) + (F_X12_fresher 4 (FI_X12_token  (S1_X12_line I J) J) J)).toNatClampNeg (F_X12_numeral 0 63 (S19_X12_line I J) J)
def S21_X12_line (I : SI) (J : SJ) : SI := FI_X12_reads 4 ((F_X12_fresher 4 (S20_X12_line I J) J) + 1) (S20_X12_line I J) J
def S22_X12_line (I : SI) (J : SJ) : SI := u2 (FI_X12_numeral 0 99 (FI_X12_token  (S1_X12_line I J) J) J) 146 ((3 : Int32) + (F_X12_fresher 5 (FI_X12_token  (S1_X12_line I J) J) J)).toNatClampNeg (F_X12_numeral 0 99 (FI_X12_token  (S1_X12_line I J) J) J)
def S25_X12_line (I : SI) (J : SJ) : Int32 := (S22_X12_line I J) 146 ((3 : Int32) + (F_X12_fresher 5 (FI_X12_token  (S1_X12_line I J) J) J)).toNatClampNeg
def T_X12_line_j418 (I : SI) (J : SJ) : Int32 := if (((S22_X12_line I J)) 130 30) = 0 then (S25_X12_line I J) else 0
def S23_X12_line (I : SI) (J : SJ) : SI := u2 (FI_X12_numeral (T_X12_line_j418 I J) 99 (S22_X12_line I J) J) 147 ((3 : Int32) + (F_X12_fresher 5 (FI_X12_token  (S1_X12_line I J) J) J)).toNatClampNeg (F_X12_numeral (T_X12_line_j418 I J) 99 (S22_X12_line I J) J)
def S24_X12_line (I : SI) (J : SJ) : SI := FI_X12_reads 5 ((F_X12_fresher 5 (S23_X12_line I J) J) + 1) (S23_X12_line I J) J
def S26_X12_line (I : SI) (J : SJ) : SI := FI_X12_reads 6 (F_X12_numeral 0 100 (FI_X12_token  (S1_X12_line I J) J) J) (FI_X12_numeral 0 100 (FI_X12_token  (S1_X12_line I J) J) J) J
def S27_X12_line (I : SI) (J : SJ) : SI := FI_X12_reads 7 (F_X12_numeral 0 999 (FI_X12_token  (S1_X12_line I J) J) J) (FI_X12_numeral 0 999 (FI_X12_token  (S1_X12_line I J) J) J) J
def S28_X12_line (I : SI) (J : SJ) : SI := FI_X12_reads 8 (F_X12_numeral 0 99999 (FI_X12_token  (S1_X12_line I J) J) J) (FI_X12_numeral 0 99999 (FI_X12_token  (S1_X12_line I J) J) J) J
def T_X12_line_j492 (I : SI) (J : SJ) : SI × SJ := if (I 130 29) = 0 then ((S9_X12_line I J), J) else (if (I 130 29) = 1 then ((S15_X12_line I J), J) else (if (I 130 29) = 2 then ((FI_X12_hasLine  (FI_X12_token  (S1_X12_line I J) J) J), J) else (if (I 130 29) = 3 then ((S16_X12_line I J), J) else (if (I 130 29) = 4 then ((S21_X12_line I J), J) else (if (I 130 29) = 5 then ((S24_X12_line I J), J) else (if (I 130 29) = 6 then ((S26_X12_line I J), J) else (if (I 130 29) = 7 then ((S27_X12_line I J), J) else (if (I 130 29) = 8 then ((S28_X12_line I J), J) else ((FI_X12_lawLine  (FI_X12_token  (S1_X12_line I J) J) J), (FJ_X12_lawLine  (FI_X12_token  (S1_X12_line I J) J) J))))))))))
def S2_X12_line (I : SI) (J : SJ) : SI := u2 (FI_X12_token  ((T_X12_line_j492 I J).1) ((T_X12_line_j492 I J).2)) 130 24 (((FI_X12_token  ((T_X12_line_j492 I J).1) ((T_X12_line_j492 I J).2)) 130 24) + 1)
def S3_X12_line (I : SI) (J : SJ) : SI := u2 (FI_X12_wrong 1 ((T_X12_line_j492 I J).1) ((T_X12_line_j492 I J).2)) 130 24 (((FI_X12_wrong 1 ((T_X12_line_j492 I J).1) ((T_X12_line_j492 I J).2)) 130 24) + 1)
def FI_X12_line  (I : SI) (J : SJ) : SI := if (I 130 28) = 0 then (if (I 130 29) ≤ 9 then (if (((T_X12_line_j72 I J)) 130 30) = 0 then (if (((T_X12_line_j492 I J).1) 130 30) = 0 then (if (F_X12_isSign 59 ((T_X12_line_j492 I J).1) ((T_X12_line_j492 I J).2)) = 0 then (S3_X12_line I J) else (S2_X12_line I J)) else (T_X12_line_j492 I J).1) else (T_X12_line_j72 I J)) else FI_X12_wrong 1 I J) else FI_X12_wrong 1 I J
def FJ_X12_line  (I : SI) (J : SJ) : SJ := if (I 130 28) = 0 then (if (I 130 29) ≤ 9 then (if (((T_X12_line_j72 I J)) 130 30) = 0 then (if (((T_X12_line_j492 I J).1) 130 30) = 0 then (if (F_X12_isSign 59 ((T_X12_line_j492 I J).1) ((T_X12_line_j492 I J).2)) = 0 then (T_X12_line_j492 I J).2 else (T_X12_line_j492 I J).2) else (T_X12_line_j492 I J).2) else J) else J) else J
def H_X12_line  (I : SI) (J : SJ) : Prop := ((I 130 28) = 0 → (I 130 29) ≤ 9 → H_X12_isFull (I 130 29) I J) ∧ ((I 130 28) = 0 → (I 130 29) ≤ 9 → (((T_X12_line_j72 I J)) 130 30) = 0 → H_X12_token  (S1_X12_line I J) J) ∧ ((I 130 28) = 0 → (I 130 29) ≤ 9 → (((T_X12_line_j72 I J)) 130 30) = 0 → (((T_X12_line_j492 I J).1) 130 30) = 0 → ¬ ((F_X12_isSign 59 ((T_X12_line_j492 I J).1) ((T_X12_line_j492 I J).2)) = 0) → H_X12_token  ((T_X12_line_j492 I J).1) ((T_X12_line_j492 I J).2)) ∧ ((I 130 28) = 0 → (I 130 29) ≤ 9 → (((T_X12_line_j72 I J)) 130 30) = 0 → (I 130 29) = 0 → H_X12_fresher 0 (FI_X12_token  (S1_X12_line I J) J) J) ∧ ((I 130 28) = 0 → (I 130 29) ≤ 9 → (((T_X12_line_j72 I J)) 130 30) = 0 → (I 130 29) = 0 → H_X12_fresh 133 12 6 (F_X12_fresher 0 (FI_X12_token  (S1_X12_line I J) J) J) (FI_X12_token  (S1_X12_line I J) J) J) ∧ ((I 130 28) = 0 → (I 130 29) ≤ 9 → (((T_X12_line_j72 I J)) 130 30) = 0 → (I 130 29) = 0 → inR ((6 : Int32) + (F_X12_fresher 0 (FI_X12_token  (S1_X12_line I J) J) J)) 12) ∧ ((I 130 28) = 0 → (I 130 29) ≤ 9 → (((T_X12_line_j72 I J)) 130 30) = 0 → (I 130 29) = 0 → H_X12_numeral 0 99 (S6_X12_line I J) J) ∧ ((I 130 28) = 0 → (I 130 29) ≤ 9 → (((T_X12_line_j72 I J)) 130 30) = 0 → (I 130 29) = 0 → H_X12_numeral 2 6 (S7_X12_line I J) J) ∧ ((I 130 28) = 0 → (I 130 29) ≤ 9 → (((T_X12_line_j72 I J)) 130 30) = 0 → (I 130 29) = 0 → H_X12_fresher 0 (S8_X12_line I J) J) ∧ ((I 130 28) = 0 → (I 130 29) ≤ 9 → (((T_X12_line_j72 I J)) 130 30) = 0 → (I 130 29) = 0 → H_X12_reads 0 ((F_X12_fresher 0 (S8_X12_line I J) J) + 1) (S8_X12_line I J) J) ∧ ((I 130 28) = 0 → (I 130 29) ≤ 9 → (((T_X12_line_j72 I J)) 130 30) = 0 → ¬ ((I 130 29) = 0) → (I 130 29) = 1 → H_X12_fresher 1 (FI_X12_token  (S1_X12_line I J) J) J) ∧ ((I 130 28) = 0 → (I 130 29) ≤ 9 → (((T_X12_line_j72 I J)) 130 30) = 0 → ¬ ((I 130 29) = 0) → (I 130 29) = 1 → H_X12_fresh 136 16 8 (F_X12_fresher 1 (FI_X12_token  (S1_X12_line I J) J) J) (FI_X12_token  (S1_X12_line I J) J) J) ∧ ((I 130 28) = 0 → (I 130 29) ≤ 9 → (((T_X12_line_j72 I J)) 130 30) = 0 → ¬ ((I 130 29) = 0) → (I 130 29) = 1 → inR ((8 : Int32) + (F_X12_fresher 1 (FI_X12_token  (S1_X12_line I J) J) J)) 16) ∧ ((I 130 28) = 0 → (I 130 29) ≤ 9 → (((T_X12_line_j72 I J)) 130 30) = 0 → ¬ ((I 130 29) = 0) → (I 130 29) = 1 → H_X12_numeral 1 99 (S12_X12_line I J) J) ∧ ((I 130 28) = 0 → (I 130 29) ≤ 9 → (((T_X12_line_j72 I J)) 130 30) = 0 → ¬ ((I 130 29) = 0) → (I 130 29) = 1 → H_X12_numeral 0 99 (S13_X12_line I J) J) ∧ ((I 130 28) = 0 → (I 130 29) ≤ 9 → (((T_X12_line_j72 I J)) 130 30) = 0 → ¬ ((I 130 29) = 0) → (I 130 29) = 1 → H_X12_fresher 1 (S14_X12_line I J) J) ∧ ((I 130 28) = 0 → (I 130 29) ≤ 9 → (((T_X12_line_j72 I J)) 130 30) = 0 → ¬ ((I 130 29) = 0) → (I 130 29) = 1 → H_X12_reads 1 ((F_X12_fresher 1 (S14_X12_line I J) J) + 1) (S14_X12_line I J) J) ∧ ((I 130 28) = 0 → (I 130 29) ≤ 9 → (((T_X12_line_j72 I J)) 130 30) = 0 → ¬ ((I 130 29) = 0) → ¬ ((I 130 29) = 1) → (I 130 29) = 2 → H_X12_hasLine  (FI_X12_token  (S1_X12_line I J) J) J) ∧ ((I 130 28) = 0 → (I 130 29) ≤ 9 → (((T_X12_line_j72 I J)) 130 30) = 0 → ¬ ((I 130 29) = 0) → ¬ ((I 130 29) = 1) → ¬ ((I 130 29) = 2) → (I 130 29) = 3 → H_X12_fresher 3 (FI_X12_token  (S1_X12_line I J) J) J) ∧ ((I 130 28) = 0 → (I 130 29) ≤ 9 → (((T_X12_line_j72 I J)) 130 30) = 0 → ¬ ((I 130 29) = 0) → ¬ ((I 130 29) = 1) → ¬ ((I 130 29) = 2) → (I 130 29) = 3 → H_X12_partyLine ((4 : Int32) + (F_X12_fresher 3 (FI_X12_token  (S1_X12_line I J) J) J)) (FI_X12_token  (S1_X12_line I J) J) J) ∧ ((I 130 28) = 0 → (I 130 29) ≤ 9 → (((T_X12_line_j72 I J)) 130 30) = 0 → ¬ ((I 130 29) = 0) → ¬ ((I 130 29) = 1) → ¬ ((I 130 29) = 2) → ¬ ((I 130 29) = 3) → (I 130 29) = 4 → H_X12_fresher 4 (FI_X12_token  (S1_X12_line I J) J) J) ∧ ((I 130 28) = 0 → (I 130 29) ≤ 9 → (((T_X12_line_j72 I J)) 130 30) = 0 → ¬ ((I 130 29) = 0) → ¬ ((I 130 29) = 1) → ¬ ((I 130 29) = 2) → ¬ ((I 130 29) = 3) → (I 130 29) = 4 → H_X12_fresh 144 8 4 (F_X12_fresher 4 (FI_X12_token  (S1_X12_line I J) J) J) (FI_X12_token  (S1_X12_line I J) J) J) ∧ ((I 130 28) = 0 → (I 130 29) ≤ 9 → (((T_X12_line_j72 I J)) 130 30) = 0 → ¬ ((I 130 29) = 0) → ¬ ((I 130 29) = 1) → ¬ ((I 130 29) = 2) → ¬ ((I 130 29) = 3) → (I 130 29) = 4 → inR ((4 : Int32) + (F_X12_fresher 4 (FI_X12_token  (S1_X12_line I J) J) J)) 8) ∧ ((I 130 28) = 0 → (I 130 29) ≤ 9 → (((T_X12_line_j72 I J)) 130 30) = 0 → ¬ ((I 130 29) = 0) → ¬ ((I 130 29) = 1) → ¬ ((I 130 29) = 2) → ¬ ((I 130 29) = 3) → (I 130 29) = 4 → H_X12_numeral 0 63 (S19_X12_line I J) J) ∧ ((I 130 28) = 0 → (I 130 29) ≤ 9 → (((T_X12_line_j72 I J)) 130 30) = 0 → ¬ ((I 130 29) = 0) → ¬ ((I 130 29) = 1) → ¬ ((I 130 29) = 2) → ¬ ((I 130 29) = 3) → (I 130 29) = 4 → H_X12_fresher 4 (S20_X12_line I J) J) ∧ ((I 130 28) = 0 → (I 130 29) ≤ 9 → (((T_X12_line_j72 I J)) 130 30) = 0 → ¬ ((I 130 29) = 0) → ¬ ((I 130 29) = 1) → ¬ ((I 130 29) = 2) → ¬ ((I 130 29) = 3) → (I 130 29) = 4 → H_X12_reads 4 ((F_X12_fresher 4 (S20_X12_line I J) J) + 1) (S20_X12_line I J) J) ∧ ((I 130 28) = 0 → (I 130 29) ≤ 9 → (((T_X12_line_j72 I J)) 130 30) = 0 → ¬ ((I 130 29) = 0) → ¬ ((I 130 29) = 1) → ¬ ((I 130 29) = 2) → ¬ ((I 130 29) = 3) → ¬ ((I 130 29) = 4) → (I 130 29) = 5 → H_X12_fresher 5 (FI_X12_token  (S1_X12_line I J) J) J) ∧ ((I 130 28) = 0 → (I 130 29) ≤ 9 → (((T_X12_line_j72 I J)) 130 30) = 0 → ¬ ((I 130 29) = 0) → ¬ ((I 130 29) = 1) → ¬ ((I 130 29) = 2) → ¬ ((I 130 29) = 3) → ¬ ((I 130 29) = 4) → (I 130 29) = 5 → H_X12_numeral 0 99 (FI_X12_token  (S1_X12_line I J) J) J) ∧ ((I 130 28) = 0 → (I 130 29) ≤ 9 → (((T_X12_line_j72 I J)) 130 30) = 0 → ¬ ((I 130 29) = 0) → ¬ ((I 130 29) = 1) → ¬ ((I 130 29) = 2) → ¬ ((I 130 29) = 3) → ¬ ((I 130 29) = 4) → (I 130 29) = 5 → inR ((3 : Int32) + (F_X12_fresher 5 (FI_X12_token  (S1_X12_line I J) J) J)) 6) ∧ ((I 130 28) = 0 → (I 130 29) ≤ 9 → (((T_X12_line_j72 I J)) 130 30) = 0 → ¬ ((I 130 29) = 0) → ¬ ((I 130 29) = 1) → ¬ ((I 130 29) = 2) → ¬ ((I 130 29) = 3) → ¬ ((I 130 29) = 4) → (I 130 29) = 5 → H_X12_numeral (T_X12_line_j418 I J) 99 (S22_X12_line I J) J) ∧ ((I 130 28) = 0 → (I 130 29) ≤ 9 → (((T_X12_line_j72 I J)) 130 30) = 0 → ¬ ((I 130 29) = 0) → ¬ ((I 130 29) = 1) → ¬ ((I 130 29) = 2) → ¬ ((I 130 29) = 3) → ¬ ((I 130 29) = 4) → (I 130 29) = 5 → H_X12_fresher 5 (S23_X12_line I J) J) ∧ ((I 130 28) = 0 → (I 130 29) ≤ 9 → (((T_X12_line_j72 I J)) 130 30) = 0 → ¬ ((I 130 29) = 0) → ¬ ((I 130 29) = 1) → ¬ ((I 130 29) = 2) → ¬ ((I 130 29) = 3) → ¬ ((I 130 29) = 4) → (I 130 29) = 5 → H_X12_reads 5 ((F_X12_fresher 5 (S23_X12_line I J) J) + 1) (S23_X12_line I J) J) ∧ ((I 130 28) = 0 → (I 130 29) ≤ 9 → (((T_X12_line_j72 I J)) 130 30) = 0 → ¬ ((I 130 29) = 0) → ¬ ((I 130 29) = 1) → ¬ ((I 130 29) = 2) → ¬ ((I 130 29) = 3) → ¬ ((I 130 29) = 4) → (I 130 29) = 5 → (((S22_X12_line I J)) 130 30) = 0 → inR ((3 : Int32) + (F_X12_fresher 5 (FI_X12_token  (S1_X12_line I J) J) J)) 6) ∧ ((I 130 28) = 0 → (I 130 29) ≤ 9 → (((T_X12_line_j72 I J)) 130 30) = 0 → ¬ ((I 130 29) = 0) → ¬ ((I 130 29) = 1) → ¬ ((I 130 29) = 2) → ¬ ((I 130 29) = 3) → ¬ ((I 130 29) = 4) → ¬ ((I 130 29) = 5) → (I 130 29) = 6 → H_X12_numeral 0 100 (FI_X12_token  (S1_X12_line I J) J) J) ∧ ((I 130 28) = 0 → (I 130 29) ≤ 9 → (((T_X12_line_j72 I J)) 130 30) = 0 → ¬ ((I 130 29) = 0) → ¬ ((I 130 29) = 1) → ¬ ((I 130 29) = 2) → ¬ ((I 130 29) = 3) → ¬ ((I 130 29) = 4) → ¬ ((I 130 29) = 5) → (I 130 29) = 6 → H_X12_reads 6 (F_X12_numeral 0 100 (FI_X12_token  (S1_X12_line I J) J) J) (FI_X12_numeral 0 100 (FI_X12_token  (S1_X12_line I J) J) J) J) ∧ ((I 130 28) = 0 → (I 130 29) ≤ 9 → (((T_X12_line_j72 I J)) 130 30) = 0 → ¬ ((I 130 29) = 0) → ¬ ((I 130 29) = 1) → ¬ ((I 130 29) = 2) → ¬ ((I 130 29) = 3) → ¬ ((I 130 29) = 4) → ¬ ((I 130 29) = 5) → ¬ ((I 130 29) = 6) → (I 130 29) = 7 → H_X12_numeral 0 999 (FI_X12_token  (S1_X12_line I J) J) J) ∧ ((I 130 28) = 0 → (I 130 29) ≤ 9 → (((T_X12_line_j72 I J)) 130 30) = 0 → ¬ ((I 130 29) = 0) → ¬ ((I 130 29) = 1) → ¬ ((I 130 29) = 2) → ¬ ((I 130 29) = 3) → ¬ ((I 130 29) = 4) → ¬ ((I 130 29) = 5) → ¬ ((I 130 29) = 6) → (I 130 29) = 7 → H_X12_reads 7 (F_X12_numeral 0 999 (FI_X12_token  (S1_X12_line I J) J) J) (FI_X12_numeral 0 999 (FI_X12_token  (S1_X12_line I J) J) J) J) ∧ ((I 130 28) = 0 → (I 130 29) ≤ 9 → (((T_X12_line_j72 I J)) 130 30) = 0 → ¬ ((I 130 29) = 0) → ¬ ((I 130 29) = 1) → ¬ ((I 130 29) = 2) → ¬ ((I 130 29) = 3) → ¬ ((I 130 29) = 4) → ¬ ((I 130 29) = 5) → ¬ ((I 130 29) = 6) → ¬ ((I 130 29) = 7) → (I 130 29) = 8 → H_X12_numeral 0 99999 (FI_X12_token  (S1_X12_line I J) J) J) ∧ ((I 130 28) = 0 → (I 130 29) ≤ 9 → (((T_X12_line_j72 I J)) 130 30) = 0 → ¬ ((I 130 29) = 0) → ¬ ((I 130 29) = 1) → ¬ ((I 130 29) = 2) → ¬ ((I 130 29) = 3) → ¬ ((I 130 29) = 4) → ¬ ((I 130 29) = 5) → ¬ ((I 130 29) = 6) → ¬ ((I 130 29) = 7) → (I 130 29) = 8 → H_X12_reads 8 (F_X12_numeral 0 99999 (FI_X12_token  (S1_X12_line I J) J) J) (FI_X12_numeral 0 99999 (FI_X12_token  (S1_X12_line I J) J) J) J) ∧ ((I 130 28) = 0 → (I 130 29) ≤ 9 → (((T_X12_line_j72 I J)) 130 30) = 0 → ¬ ((I 130 29) = 0) → ¬ ((I 130 29) = 1) → ¬ ((I 130 29) = 2) → ¬ ((I 130 29) = 3) → ¬ ((I 130 29) = 4) → ¬ ((I 130 29) = 5) → ¬ ((I 130 29) = 6) → ¬ ((I 130 29) = 7) → ¬ ((I 130 29) = 8) → H_X12_lawLine  (FI_X12_token  (S1_X12_line I J) J) J)
set_option maxHeartbeats 5020000 in
set_option maxRecDepth 40000 in
theorem c_X12_line {I : SI} {J : SJ} {R : SR} {n g : Nat} {f : Fr} (ro : RM R) (hnn : nM ≤ n) (hf : f.1 = false)   (hp : H_X12_line  I J) : MM 149 0 0 mX12_line [.ref 130] (eI f I) (eJ f J) R n g (Pd none (eI f (FI_X12_line  I J)) (eJ f (FJ_X12_line  I J)) R n g) := by
  refine MM.of (by decide) (Nat.le_of_ble_eq_true rfl) fun K ok fin => ?_
  show WK K 0 0 0 [(0, .ref 130)] [] (eI f I) (eJ f J) R n g
  obtain ⟨hp1, hp2, hp3, hp4, hp5, hp6, hp7, hp8, hp9, hp10, hp11, hp12, hp13, hp14, hp15, hp16, hp17, hp18, hp19, hp20, hp21, hp22, hp23, hp24, hp25, hp26, hp27, hp28, hp29, hp30, hp31, hp32, hp33, hp34, hp35, hp36, hp37, hp38, hp39, hp40⟩ := hp
  refine w_aload_n ok dX12_line_0 0 rfl ?_
  refine y_getI ok dX12_line_1 (fX12_188 rfl) (congrArg Prod.fst s_130) rfl (ltM hnn (by decide)) (sdm hf (by decide)) ?_
  refine w_if_ne (tgt := 16) ok dX12_line_4 (by decide) (fun c1 => ?_) (fun c1 => ?_)
  · skip
    refine w_aload_n ok dX12_line_16 0 rfl ?_
    refine w_iconst (v := 1) ok dX12_line_17 (by decide) ?_
    refine w_cV (As := [.int 1]) ok dX12_line_18 iX12_wrong (lX12_232 rfl) (rcv cls12 (congrArg Prod.fst s_130)) (ltM hnn (by decide)) (c_X12_wrong ro hnn hf 1 ) (by decide) rfl (Nat.le_of_ble_eq_true rfl) ?_
    exact w_vret ok fin dX12_line_21 rfl (by unfold FI_X12_line FJ_X12_line; simp only [if_neg c1]; exact Pd.i)
  · skip
    refine w_aload_n ok dX12_line_7 0 rfl ?_
    refine y_getI ok dX12_line_8 (fX12_198 rfl) (congrArg Prod.fst s_130) rfl (ltM hnn (by decide)) (sdm hf (by decide)) ?_
    refine w_bipush (v := 9) ok dX12_line_11 (by decide) ?_
    refine w_icmp_le (tgt := 22) ok dX12_line_13 (by decide) (fun c2 => ?_) (fun c2 => ?_)
    · skip
      refine w_aload_n ok dX12_line_22 0 rfl ?_
      refine y_getI ok dX12_line_23 (fX12_198 rfl) (congrArg Prod.fst s_130) rfl (ltM hnn (by decide)) (sdm hf (by decide)) ?_
      refine w_istore_n ok dX12_line_26 rfl (by decide) rfl ?_
      refine w_aload_n ok dX12_line_27 1 rfl ?_
      refine w_iload_n ok dX12_line_28 0 rfl ?_
      refine w_cV (As := [.int (I 130 29)]) ok dX12_line_29 iX12_isFull (lX12_247 rfl) (rcv cls12 (congrArg Prod.fst s_130)) (ltM hnn (by decide)) (c_X12_isFull ro hnn hf (I 130 29)  (hp1 c1 c2)) (by decide) rfl (Nat.le_of_ble_eq_true rfl) ?_
      have jn3 : WK K 0 0 72 [(0, .ref 130), (1, .int (I 130 29))] [] (eI f (T_X12_line_j72 I J)) (eJ f J) R n g := by
        refine w_aload_n ok dX12_line_72 0 rfl ?_
        refine y_getI ok dX12_line_73 (fX12_223 rfl) (congrArg Prod.fst s_130) rfl (ltM hnn (by decide)) (sdm hf (by decide)) ?_
        refine w_if_eq (tgt := 80) ok dX12_line_76 (by decide) (fun c4 => ?_) (fun c4 => ?_)
        · skip
          refine w_aload_n ok dX12_line_80 0 rfl ?_
          refine w_dup ok dX12_line_81 rfl ?_
          refine y_getI ok dX12_line_82 (fX12_250 rfl) (congrArg Prod.fst s_130) rfl (ltM hnn (by decide)) (sdm hf (by decide)) ?_
          refine w_iconst (v := 1) ok dX12_line_85 (by decide) ?_
          refine w_iload_n ok dX12_line_86 1 rfl ?_
          refine w_ishl ok dX12_line_87 ?_
          refine w_ior ok dX12_line_88 ?_
          refine y_putI ok dX12_line_89 (fwX12_250 rfl) (congrArg Prod.fst s_130) rfl (ltM hnn (by decide)) (sdm hf (by decide)) ?_
          show WK K 0 0 92 [(0, .ref 130), (1, .int (I 130 29))] [] (eI f (S1_X12_line I J)) (eJ f J) R n g
          refine w_aload_n ok dX12_line_92 0 rfl ?_
          refine w_cV (As := []) ok dX12_line_93 iX12_token (lX12_229 rfl) (rcv cls12 (congrArg Prod.fst s_130)) (ltM hnn (by decide)) (c_X12_token ro hnn hf   (hp2 c1 c2 c4)) (by decide) rfl (Nat.le_of_ble_eq_true rfl) ?_
          refine w_iload_n ok dX12_line_96 1 rfl ?_
          have jn5 : WK K 0 0 492 [(0, .ref 130), (1, .int (I 130 29))] [] (eI f ((T_X12_line_j492 I J).1)) (eJ f ((T_X12_line_j492 I J).2)) R n g := by
            refine w_aload_n ok dX12_line_492 0 rfl ?_
            refine y_getI ok dX12_line_493 (fX12_223 rfl) (congrArg Prod.fst s_130) rfl (ltM hnn (by decide)) (sdm hf (by decide)) ?_
            refine w_if_eq (tgt := 500) ok dX12_line_496 (by decide) (fun c6 => ?_) (fun c6 => ?_)
            · skip
              refine w_aload_n ok dX12_line_500 0 rfl ?_
              refine w_bipush (v := 59) ok dX12_line_501 (by decide) ?_
              refine w_cV (As := [.int 59]) ok dX12_line_503 iX12_isSign (lX12_273 rfl) (rcv cls12 (congrArg Prod.fst s_130)) (ltM hnn (by decide)) (c_X12_isSign ro hnn hf 59 ) (by decide) rfl (Nat.le_of_ble_eq_true rfl) ?_
              refine w_if_ne (tgt := 517) ok dX12_line_506 (by decide) (fun c7 => ?_) (fun c7 => ?_)
              · skip
                refine w_aload_n ok dX12_line_517 0 rfl ?_
                refine w_cV (As := []) ok dX12_line_518 iX12_token (lX12_229 rfl) (rcv cls12 (congrArg Prod.fst s_130)) (ltM hnn (by decide)) (c_X12_token ro hnn hf   (hp3 c1 c2 c4 c6 c7)) (by decide) rfl (Nat.le_of_ble_eq_true rfl) ?_
                refine w_aload_n ok dX12_line_521 0 rfl ?_
                refine w_dup ok dX12_line_522 rfl ?_
                refine y_getI ok dX12_line_523 (fX12_276 rfl) (congrArg Prod.fst s_130) rfl (ltM hnn (by decide)) (sdm hf (by decide)) ?_
                refine w_iconst (v := 1) ok dX12_line_526 (by decide) ?_
                refine w_iadd ok dX12_line_527 ?_
                refine y_putI ok dX12_line_528 (fwX12_276 rfl) (congrArg Prod.fst s_130) rfl (ltM hnn (by decide)) (sdm hf (by decide)) ?_
                show WK K 0 0 531 [(0, .ref 130), (1, .int (I 130 29))] [] (eI f (S2_X12_line I J)) (eJ f ((T_X12_line_j492 I J).2)) R n g
                exact w_vret ok fin dX12_line_531 rfl (by unfold FI_X12_line FJ_X12_line; simp only [if_pos c1]; simp only [if_pos c2]; simp only [if_pos c4]; simp only [if_pos c6]; simp only [if_neg c7]; exact Pd.i)
              · skip
                refine w_aload_n ok dX12_line_509 0 rfl ?_
                refine w_iconst (v := 1) ok dX12_line_510 (by decide) ?_
                refine w_cV (As := [.int 1]) ok dX12_line_511 iX12_wrong (lX12_232 rfl) (rcv cls12 (congrArg Prod.fst s_130)) (ltM hnn (by decide)) (c_X12_wrong ro hnn hf 1 ) (by decide) rfl (Nat.le_of_ble_eq_true rfl) ?_
                refine w_goto (tgt := 521) ok dX12_line_514 (by decide) ?_
                refine w_aload_n ok dX12_line_521 0 rfl ?_
                refine w_dup ok dX12_line_522 rfl ?_
                refine y_getI ok dX12_line_523 (fX12_276 rfl) (congrArg Prod.fst s_130) rfl (ltM hnn (by decide)) (sdm hf (by decide)) ?_
                refine w_iconst (v := 1) ok dX12_line_526 (by decide) ?_
                refine w_iadd ok dX12_line_527 ?_
                refine y_putI ok dX12_line_528 (fwX12_276 rfl) (congrArg Prod.fst s_130) rfl (ltM hnn (by decide)) (sdm hf (by decide)) ?_
                show WK K 0 0 531 [(0, .ref 130), (1, .int (I 130 29))] [] (eI f (S3_X12_line I J)) (eJ f ((T_X12_line_j492 I J).2)) R n g
                exact w_vret ok fin dX12_line_531 rfl (by unfold FI_X12_line FJ_X12_line; simp only [if_pos c1]; simp only [if_pos c2]; simp only [if_pos c4]; simp only [if_pos c6]; simp only [if_pos c7]; exact Pd.i)
            · skip
              exact w_vret ok fin dX12_line_499 rfl (by unfold FI_X12_line FJ_X12_line; simp only [if_pos c1]; simp only [if_pos c2]; simp only [if_pos c4]; simp only [if_neg c6]; exact Pd.i)
          by_cases c8 : (I 130 29) = 0
          · skip
            refine w_tabIn (tgt := 148) (off := 51) ok dX12_line_97 (by rw [c8]; decide) (by rw [c8]; decide) (by rw [c8]; rfl) (by decide) ?_
            refine w_bipush (v := 6) ok dX12_line_148 (by decide) ?_
            refine w_aload_n ok dX12_line_150 0 rfl ?_
            refine w_iconst (v := 0) ok dX12_line_151 (by decide) ?_
            refine w_cV (As := [.int 0]) ok dX12_line_152 iX12_fresher (lX12_239 rfl) (rcv cls12 (congrArg Prod.fst s_130)) (ltM hnn (by decide)) (c_X12_fresher ro hnn hf 0  (hp4 c1 c2 c4 c8)) (by decide) rfl (Nat.le_of_ble_eq_true rfl) ?_
            show WK K 0 0 155 [(0, .ref 130), (1, .int (I 130 29))] [.int (F_X12_fresher 0 (FI_X12_token  (S1_X12_line I J) J) J), .int 6] (eI f (FI_X12_token  (S1_X12_line I J) J)) (eJ f J) R n g
            refine w_iadd ok dX12_line_155 ?_
            refine w_istore_n ok dX12_line_156 rfl (by decide) rfl ?_
            refine w_aload_n ok dX12_line_157 1 rfl ?_
            refine w_getR ok dX12_line_158 (fX12_16 rfl) (congrArg Prod.fst s_130) rfl (r_130_4 ro) (ltM hnn (by decide)) ?_
            refine w_iload_n ok dX12_line_161 0 rfl ?_
            refine w_aload_n ok dX12_line_162 1 rfl ?_
            refine w_aload_n ok dX12_line_163 1 rfl ?_
            refine w_getR ok dX12_line_164 (fX12_16 rfl) (congrArg Prod.fst s_130) rfl (r_130_4 ro) (ltM hnn (by decide)) ?_
            refine w_bipush (v := 6) ok dX12_line_167 (by decide) ?_
            refine w_aload_n ok dX12_line_169 1 rfl ?_
            refine w_iconst (v := 0) ok dX12_line_170 (by decide) ?_
            refine w_cV (As := [.int 0]) ok dX12_line_171 iX12_fresher (lX12_239 rfl) (rcv cls12 (congrArg Prod.fst s_130)) (ltM hnn (by decide)) (c_X12_fresher ro hnn hf 0  (hp4 c1 c2 c4 c8)) (by decide) rfl (Nat.le_of_ble_eq_true rfl) ?_
            show WK K 0 0 174 [(2, .int ((6 : Int32) + (F_X12_fresher 0 (FI_X12_token  (S1_X12_line I J) J) J))), (0, .ref 130), (1, .int (I 130 29))] [.int (F_X12_fresher 0 (FI_X12_token  (S1_X12_line I J) J) J), .int 6, .ref 133, .ref 130, .int ((6 : Int32) + (F_X12_fresher 0 (FI_X12_token  (S1_X12_line I J) J) J)), .ref 133] (eI f (FI_X12_token  (S1_X12_line I J) J)) (eJ f J) R n g
            refine w_cV (As := [.ref 133, .int 6, .int (F_X12_fresher 0 (FI_X12_token  (S1_X12_line I J) J) J)]) ok dX12_line_174 iX12_fresh (lX12_253 rfl) (rcv cls12 (congrArg Prod.fst s_130)) (ltM hnn (by decide)) (c_X12_fresh ro hnn hf 6 (F_X12_fresher 0 (FI_X12_token  (S1_X12_line I J) J) J) s_133 (ltM hnn (by decide)) (sdm hf (by decide)) (sh_len s_133) (hp5 c1 c2 c4 c8)) (by decide) rfl (Nat.le_of_ble_eq_true rfl) ?_
            show WK K 0 0 177 [(2, .int ((6 : Int32) + (F_X12_fresher 0 (FI_X12_token  (S1_X12_line I J) J) J))), (0, .ref 130), (1, .int (I 130 29))] [.int (S5_X12_line I J), .int ((6 : Int32) + (F_X12_fresher 0 (FI_X12_token  (S1_X12_line I J) J) J)), .ref 133] (eI f (S4_X12_line I J)) (eJ f J) R n g
            refine y_iast (q := ((6 : Int32) + (F_X12_fresher 0 (FI_X12_token  (S1_X12_line I J) J) J)).toNatClampNeg) ok dX12_line_177 s_133 (hp6 c1 c2 c4 c8) (by decide) (ltM hnn (by decide)) (sdm hf (by decide)) ?_
            show WK K 0 0 178 [(2, .int ((6 : Int32) + (F_X12_fresher 0 (FI_X12_token  (S1_X12_line I J) J) J))), (0, .ref 130), (1, .int (I 130 29))] [] (eI f (S6_X12_line I J)) (eJ f J) R n g
            refine w_aload_n ok dX12_line_178 1 rfl ?_
            refine w_getR ok dX12_line_179 (fX12_19 rfl) (congrArg Prod.fst s_130) rfl (r_130_5 ro) (ltM hnn (by decide)) ?_
            refine w_iload_n ok dX12_line_182 0 rfl ?_
            refine w_aload_n ok dX12_line_183 1 rfl ?_
            refine w_iconst (v := 0) ok dX12_line_184 (by decide) ?_
            refine w_bipush (v := 99) ok dX12_line_185 (by decide) ?_
            refine w_cV (As := [.int 0, .int 99]) ok dX12_line_187 iX12_numeral (lX12_256 rfl) (rcv cls12 (congrArg Prod.fst s_130)) (ltM hnn (by decide)) (c_X12_numeral ro hnn hf 0 99  (hp7 c1 c2 c4 c8)) (by decide) rfl (Nat.le_of_ble_eq_true rfl) ?_
            show WK K 0 0 190 [(2, .int ((6 : Int32) + (F_X12_fresher 0 (FI_X12_token  (S1_X12_line I J) J) J))), (0, .ref 130), (1, .int (I 130 29))] [.int (F_X12_numeral 0 99 (S6_X12_line I J) J), .int ((6 : Int32) + (F_X12_fresher 0 (FI_X12_token  (S1_X12_line I J) J) J)), .ref 134] (eI f (FI_X12_numeral 0 99 (S6_X12_line I J) J)) (eJ f J) R n g
            refine y_iast (q := ((6 : Int32) + (F_X12_fresher 0 (FI_X12_token  (S1_X12_line I J) J) J)).toNatClampNeg) ok dX12_line_190 s_134 (hp6 c1 c2 c4 c8) (by decide) (ltM hnn (by decide)) (sdm hf (by decide)) ?_
            show WK K 0 0 191 [(2, .int ((6 : Int32) + (F_X12_fresher 0 (FI_X12_token  (S1_X12_line I J) J) J))), (0, .ref 130), (1, .int (I 130 29))] [] (eI f (S7_X12_line I J)) (eJ f J) R n g
            refine w_aload_n ok dX12_line_191 1 rfl ?_
            refine w_getR ok dX12_line_192 (fX12_22 rfl) (congrArg Prod.fst s_130) rfl (r_130_6 ro) (ltM hnn (by decide)) ?_
            refine w_iload_n ok dX12_line_195 0 rfl ?_
            refine w_aload_n ok dX12_line_196 1 rfl ?_
            refine w_iconst (v := 2) ok dX12_line_197 (by decide) ?_
            refine w_bipush (v := 6) ok dX12_line_198 (by decide) ?_
            refine w_cV (As := [.int 2, .int 6]) ok dX12_line_200 iX12_numeral (lX12_256 rfl) (rcv cls12 (congrArg Prod.fst s_130)) (ltM hnn (by decide)) (c_X12_numeral ro hnn hf 2 6  (hp8 c1 c2 c4 c8)) (by decide) rfl (Nat.le_of_ble_eq_true rfl) ?_
            show WK K 0 0 203 [(2, .int ((6 : Int32) + (F_X12_fresher 0 (FI_X12_token  (S1_X12_line I J) J) J))), (0, .ref 130), (1, .int (I 130 29))] [.int (F_X12_numeral 2 6 (S7_X12_line I J) J), .int ((6 : Int32) + (F_X12_fresher 0 (FI_X12_token  (S1_X12_line I J) J) J)), .ref 135] (eI f (FI_X12_numeral 2 6 (S7_X12_line I J) J)) (eJ f J) R n g
            refine y_iast (q := ((6 : Int32) + (F_X12_fresher 0 (FI_X12_token  (S1_X12_line I J) J) J)).toNatClampNeg) ok dX12_line_203 s_135 (hp6 c1 c2 c4 c8) (by decide) (ltM hnn (by decide)) (sdm hf (by decide)) ?_
            show WK K 0 0 204 [(2, .int ((6 : Int32) + (F_X12_fresher 0 (FI_X12_token  (S1_X12_line I J) J) J))), (0, .ref 130), (1, .int (I 130 29))] [] (eI f (S8_X12_line I J)) (eJ f J) R n g
            refine w_aload_n ok dX12_line_204 1 rfl ?_
            refine w_iconst (v := 0) ok dX12_line_205 (by decide) ?_
            refine w_aload_n ok dX12_line_206 1 rfl ?_
            refine w_iconst (v := 0) ok dX12_line_207 (by decide) ?_
            refine w_cV (As := [.int 0]) ok dX12_line_208 iX12_fresher (lX12_239 rfl) (rcv cls12 (congrArg Prod.fst s_130)) (ltM hnn (by decide)) (c_X12_fresher ro hnn hf 0  (hp9 c1 c2 c4 c8)) (by decide) rfl (Nat.le_of_ble_eq_true rfl) ?_
            show WK K 0 0 211 [(2, .int ((6 : Int32) + (F_X12_fresher 0 (FI_X12_token  (S1_X12_line I J) J) J))), (0, .ref 130), (1, .int (I 130 29))] [.int (F_X12_fresher 0 (S8_X12_line I J) J), .int 0, .ref 130] (eI f (S8_X12_line I J)) (eJ f J) R n g
            refine w_iconst (v := 1) ok dX12_line_211 (by decide) ?_
            refine w_iadd ok dX12_line_212 ?_
            refine w_cV (As := [.int 0, .int ((F_X12_fresher 0 (S8_X12_line I J) J) + 1)]) ok dX12_line_213 iX12_reads (lX12_260 rfl) (rcv cls12 (congrArg Prod.fst s_130)) (ltM hnn (by decide)) (c_X12_reads ro hnn hf 0 ((F_X12_fresher 0 (S8_X12_line I J) J) + 1)  (hp10 c1 c2 c4 c8)) (by decide) rfl (Nat.le_of_ble_eq_true rfl) ?_
            show WK K 0 0 216 [(2, .int ((6 : Int32) + (F_X12_fresher 0 (FI_X12_token  (S1_X12_line I J) J) J))), (0, .ref 130), (1, .int (I 130 29))] [] (eI f (S9_X12_line I J)) (eJ f J) R n g
            refine w_goto (tgt := 492) ok dX12_line_216 (by decide) ?_
            have eT : (T_X12_line_j492 I J) = ((S9_X12_line I J), J) := by
              unfold T_X12_line_j492; exact (if_pos c8).trans (rfl)
            refine w_loc [1, 2] rfl ?_
            have jj := jn5
            rw [eT] at jj
            exact pr2 (P := fun (y0 : SI) (y1 : SJ) => WK K 0 0 492 [(0, .ref 130), (1, .int (I 130 29))] [] (eI f y0) (eJ f y1) R n g) jj
          · skip
            by_cases c9 : (I 130 29) = 1
            · skip
              refine w_tabIn (tgt := 219) (off := 122) ok dX12_line_97 (by rw [c9]; decide) (by rw [c9]; decide) (by rw [c9]; rfl) (by decide) ?_
              refine w_bipush (v := 8) ok dX12_line_219 (by decide) ?_
              refine w_aload_n ok dX12_line_221 0 rfl ?_
              refine w_iconst (v := 1) ok dX12_line_222 (by decide) ?_
              refine w_cV (As := [.int 1]) ok dX12_line_223 iX12_fresher (lX12_239 rfl) (rcv cls12 (congrArg Prod.fst s_130)) (ltM hnn (by decide)) (c_X12_fresher ro hnn hf 1  (hp11 c1 c2 c4 c8 c9)) (by decide) rfl (Nat.le_of_ble_eq_true rfl) ?_
              show WK K 0 0 226 [(0, .ref 130), (1, .int (I 130 29))] [.int (F_X12_fresher 1 (FI_X12_token  (S1_X12_line I J) J) J), .int 8] (eI f (FI_X12_token  (S1_X12_line I J) J)) (eJ f J) R n g
              refine w_iadd ok dX12_line_226 ?_
              refine w_istore_n ok dX12_line_227 rfl (by decide) rfl ?_
              refine w_aload_n ok dX12_line_228 1 rfl ?_
              refine w_getR ok dX12_line_229 (fX12_25 rfl) (congrArg Prod.fst s_130) rfl (r_130_7 ro) (ltM hnn (by decide)) ?_
              refine w_iload_n ok dX12_line_232 0 rfl ?_
              refine w_aload_n ok dX12_line_233 1 rfl ?_
              refine w_aload_n ok dX12_line_234 1 rfl ?_
              refine w_getR ok dX12_line_235 (fX12_25 rfl) (congrArg Prod.fst s_130) rfl (r_130_7 ro) (ltM hnn (by decide)) ?_
              refine w_bipush (v := 8) ok dX12_line_238 (by decide) ?_
              refine w_aload_n ok dX12_line_240 1 rfl ?_
              refine w_iconst (v := 1) ok dX12_line_241 (by decide) ?_
              refine w_cV (As := [.int 1]) ok dX12_line_242 iX12_fresher (lX12_239 rfl) (rcv cls12 (congrArg Prod.fst s_130)) (ltM hnn (by decide)) (c_X12_fresher ro hnn hf 1  (hp11 c1 c2 c4 c8 c9)) (by decide) rfl (Nat.le_of_ble_eq_true rfl) ?_
              show WK K 0 0 245 [(3, .int ((8 : Int32) + (F_X12_fresher 1 (FI_X12_token  (S1_X12_line I J) J) J))), (0, .ref 130), (1, .int (I 130 29))] [.int (F_X12_fresher 1 (FI_X12_token  (S1_X12_line I J) J) J), .int 8, .ref 136, .ref 130, .int ((8 : Int32) + (F_X12_fresher 1 (FI_X12_token  (S1_X12_line I J) J) J)), .ref 136] (eI f (FI_X12_token  (S1_X12_line I J) J)) (eJ f J) R n g
              refine w_cV (As := [.ref 136, .int 8, .int (F_X12_fresher 1 (FI_X12_token  (S1_X12_line I J) J) J)]) ok dX12_line_245 iX12_fresh (lX12_253 rfl) (rcv cls12 (congrArg Prod.fst s_130)) (ltM hnn (by decide)) (c_X12_fresh ro hnn hf 8 (F_X12_fresher 1 (FI_X12_token  (S1_X12_line I J) J) J) s_136 (ltM hnn (by decide)) (sdm hf (by decide)) (sh_len s_136) (hp12 c1 c2 c4 c8 c9)) (by decide) rfl (Nat.le_of_ble_eq_true rfl) ?_
              show WK K 0 0 248 [(3, .int ((8 : Int32) + (F_X12_fresher 1 (FI_X12_token  (S1_X12_line I J) J) J))), (0, .ref 130), (1, .int (I 130 29))] [.int (S11_X12_line I J), .int ((8 : Int32) + (F_X12_fresher 1 (FI_X12_token  (S1_X12_line I J) J) J)), .ref 136] (eI f (S10_X12_line I J)) (eJ f J) R n g
              refine y_iast (q := ((8 : Int32) + (F_X12_fresher 1 (FI_X12_token  (S1_X12_line I J) J) J)).toNatClampNeg) ok dX12_line_248 s_136 (hp13 c1 c2 c4 c8 c9) (by decide) (ltM hnn (by decide)) (sdm hf (by decide)) ?_
              show WK K 0 0 249 [(3, .int ((8 : Int32) + (F_X12_fresher 1 (FI_X12_token  (S1_X12_line I J) J) J))), (0, .ref 130), (1, .int (I 130 29))] [] (eI f (S12_X12_line I J)) (eJ f J) R n g
              refine w_aload_n ok dX12_line_249 1 rfl ?_
              refine w_getR ok dX12_line_250 (fX12_28 rfl) (congrArg Prod.fst s_130) rfl (r_130_8 ro) (ltM hnn (by decide)) ?_
              refine w_iload_n ok dX12_line_253 0 rfl ?_
              refine w_aload_n ok dX12_line_254 1 rfl ?_
              refine w_iconst (v := 1) ok dX12_line_255 (by decide) ?_
              refine w_bipush (v := 99) ok dX12_line_256 (by decide) ?_
              refine w_cV (As := [.int 1, .int 99]) ok dX12_line_258 iX12_numeral (lX12_256 rfl) (rcv cls12 (congrArg Prod.fst s_130)) (ltM hnn (by decide)) (c_X12_numeral ro hnn hf 1 99  (hp14 c1 c2 c4 c8 c9)) (by decide) rfl (Nat.le_of_ble_eq_true rfl) ?_
              show WK K 0 0 261 [(3, .int ((8 : Int32) + (F_X12_fresher 1 (FI_X12_token  (S1_X12_line I J) J) J))), (0, .ref 130), (1, .int (I 130 29))] [.int (F_X12_numeral 1 99 (S12_X12_line I J) J), .int ((8 : Int32) + (F_X12_fresher 1 (FI_X12_token  (S1_X12_line I J) J) J)), .ref 137] (eI f (FI_X12_numeral 1 99 (S12_X12_line I J) J)) (eJ f J) R n g
              refine y_iast (q := ((8 : Int32) + (F_X12_fresher 1 (FI_X12_token  (S1_X12_line I J) J) J)).toNatClampNeg) ok dX12_line_261 s_137 (hp13 c1 c2 c4 c8 c9) (by decide) (ltM hnn (by decide)) (sdm hf (by decide)) ?_
              show WK K 0 0 262 [(3, .int ((8 : Int32) + (F_X12_fresher 1 (FI_X12_token  (S1_X12_line I J) J) J))), (0, .ref 130), (1, .int (I 130 29))] [] (eI f (S13_X12_line I J)) (eJ f J) R n g
              refine w_aload_n ok dX12_line_262 1 rfl ?_
              refine w_getR ok dX12_line_263 (fX12_31 rfl) (congrArg Prod.fst s_130) rfl (r_130_9 ro) (ltM hnn (by decide)) ?_
              refine w_iload_n ok dX12_line_266 0 rfl ?_
              refine w_aload_n ok dX12_line_267 1 rfl ?_
              refine w_iconst (v := 0) ok dX12_line_268 (by decide) ?_
              refine w_bipush (v := 99) ok dX12_line_269 (by decide) ?_
              refine w_cV (As := [.int 0, .int 99]) ok dX12_line_271 iX12_numeral (lX12_256 rfl) (rcv cls12 (congrArg Prod.fst s_130)) (ltM hnn (by decide)) (c_X12_numeral ro hnn hf 0 99  (hp15 c1 c2 c4 c8 c9)) (by decide) rfl (Nat.le_of_ble_eq_true rfl) ?_
              show WK K 0 0 274 [(3, .int ((8 : Int32) + (F_X12_fresher 1 (FI_X12_token  (S1_X12_line I J) J) J))), (0, .ref 130), (1, .int (I 130 29))] [.int (F_X12_numeral 0 99 (S13_X12_line I J) J), .int ((8 : Int32) + (F_X12_fresher 1 (FI_X12_token  (S1_X12_line I J) J) J)), .ref 138] (eI f (FI_X12_numeral 0 99 (S13_X12_line I J) J)) (eJ f J) R n g
              refine y_iast (q := ((8 : Int32) + (F_X12_fresher 1 (FI_X12_token  (S1_X12_line I J) J) J)).toNatClampNeg) ok dX12_line_274 s_138 (hp13 c1 c2 c4 c8 c9) (by decide) (ltM hnn (by decide)) (sdm hf (by decide)) ?_
              show WK K 0 0 275 [(3, .int ((8 : Int32) + (F_X12_fresher 1 (FI_X12_token  (S1_X12_line I J) J) J))), (0, .ref 130), (1, .int (I 130 29))] [] (eI f (S14_X12_line I J)) (eJ f J) R n g
              refine w_aload_n ok dX12_line_275 1 rfl ?_
              refine w_iconst (v := 1) ok dX12_line_276 (by decide) ?_
              refine w_aload_n ok dX12_line_277 1 rfl ?_
              refine w_iconst (v := 1) ok dX12_line_278 (by decide) ?_
              refine w_cV (As := [.int 1]) ok dX12_line_279 iX12_fresher (lX12_239 rfl) (rcv cls12 (congrArg Prod.fst s_130)) (ltM hnn (by decide)) (c_X12_fresher ro hnn hf 1  (hp16 c1 c2 c4 c8 c9)) (by decide) rfl (Nat.le_of_ble_eq_true rfl) ?_
              show WK K 0 0 282 [(3, .int ((8 : Int32) + (F_X12_fresher 1 (FI_X12_token  (S1_X12_line I J) J) J))), (0, .ref 130), (1, .int (I 130 29))] [.int (F_X12_fresher 1 (S14_X12_line I J) J), .int 1, .ref 130] (eI f (S14_X12_line I J)) (eJ f J) R n g
              refine w_iconst (v := 1) ok dX12_line_282 (by decide) ?_
              refine w_iadd ok dX12_line_283 ?_
              refine w_cV (As := [.int 1, .int ((F_X12_fresher 1 (S14_X12_line I J) J) + 1)]) ok dX12_line_284 iX12_reads (lX12_260 rfl) (rcv cls12 (congrArg Prod.fst s_130)) (ltM hnn (by decide)) (c_X12_reads ro hnn hf 1 ((F_X12_fresher 1 (S14_X12_line I J) J) + 1)  (hp17 c1 c2 c4 c8 c9)) (by decide) rfl (Nat.le_of_ble_eq_true rfl) ?_
              show WK K 0 0 287 [(3, .int ((8 : Int32) + (F_X12_fresher 1 (FI_X12_token  (S1_X12_line I J) J) J))), (0, .ref 130), (1, .int (I 130 29))] [] (eI f (S15_X12_line I J)) (eJ f J) R n g
              refine w_goto (tgt := 492) ok dX12_line_287 (by decide) ?_
              have eT : (T_X12_line_j492 I J) = ((S15_X12_line I J), J) := by
                unfold T_X12_line_j492; exact (if_neg c8).trans ((if_pos c9).trans (rfl))
              refine w_loc [1, 2] rfl ?_
              have jj := jn5
              rw [eT] at jj
              exact pr2 (P := fun (y0 : SI) (y1 : SJ) => WK K 0 0 492 [(0, .ref 130), (1, .int (I 130 29))] [] (eI f y0) (eJ f y1) R n g) jj
            · skip
              by_cases c10 : (I 130 29) = 2
              · skip
                refine w_tabIn (tgt := 290) (off := 193) ok dX12_line_97 (by rw [c10]; decide) (by rw [c10]; decide) (by rw [c10]; rfl) (by decide) ?_
                refine w_aload_n ok dX12_line_290 0 rfl ?_
                refine w_cV (As := []) ok dX12_line_291 iX12_hasLine (lX12_264 rfl) (rcv cls12 (congrArg Prod.fst s_130)) (ltM hnn (by decide)) (c_X12_hasLine ro hnn hf   (hp18 c1 c2 c4 c8 c9 c10)) (by decide) rfl (Nat.le_of_ble_eq_true rfl) ?_
                refine w_goto (tgt := 492) ok dX12_line_294 (by decide) ?_
                have eT : (T_X12_line_j492 I J) = ((FI_X12_hasLine  (FI_X12_token  (S1_X12_line I J) J) J), J) := by
                  unfold T_X12_line_j492; exact (if_neg c8).trans ((if_neg c9).trans ((if_pos c10).trans (rfl)))
                refine w_loc [0, 1] rfl ?_
                have jj := jn5
                rw [eT] at jj
                exact pr2 (P := fun (y0 : SI) (y1 : SJ) => WK K 0 0 492 [(0, .ref 130), (1, .int (I 130 29))] [] (eI f y0) (eJ f y1) R n g) jj
              · skip
                by_cases c11 : (I 130 29) = 3
                · skip
                  refine w_tabIn (tgt := 297) (off := 200) ok dX12_line_97 (by rw [c11]; decide) (by rw [c11]; decide) (by rw [c11]; rfl) (by decide) ?_
                  refine w_aload_n ok dX12_line_297 0 rfl ?_
                  refine w_iconst (v := 4) ok dX12_line_298 (by decide) ?_
                  refine w_aload_n ok dX12_line_299 0 rfl ?_
                  refine w_iconst (v := 3) ok dX12_line_300 (by decide) ?_
                  refine w_cV (As := [.int 3]) ok dX12_line_301 iX12_fresher (lX12_239 rfl) (rcv cls12 (congrArg Prod.fst s_130)) (ltM hnn (by decide)) (c_X12_fresher ro hnn hf 3  (hp19 c1 c2 c4 c8 c9 c10 c11)) (by decide) rfl (Nat.le_of_ble_eq_true rfl) ?_
                  show WK K 0 0 304 [(0, .ref 130), (1, .int (I 130 29))] [.int (F_X12_fresher 3 (FI_X12_token  (S1_X12_line I J) J) J), .int 4, .ref 130] (eI f (FI_X12_token  (S1_X12_line I J) J)) (eJ f J) R n g
                  refine w_iadd ok dX12_line_304 ?_
                  refine w_cV (As := [.int ((4 : Int32) + (F_X12_fresher 3 (FI_X12_token  (S1_X12_line I J) J) J))]) ok dX12_line_305 iX12_partyLine (lX12_267 rfl) (rcv cls12 (congrArg Prod.fst s_130)) (ltM hnn (by decide)) (c_X12_partyLine ro hnn hf ((4 : Int32) + (F_X12_fresher 3 (FI_X12_token  (S1_X12_line I J) J) J))  (hp20 c1 c2 c4 c8 c9 c10 c11)) (by decide) rfl (Nat.le_of_ble_eq_true rfl) ?_
                  show WK K 0 0 308 [(0, .ref 130), (1, .int (I 130 29))] [] (eI f (S16_X12_line I J)) (eJ f J) R n g
                  refine w_goto (tgt := 492) ok dX12_line_308 (by decide) ?_
                  have eT : (T_X12_line_j492 I J) = ((S16_X12_line I J), J) := by
                    unfold T_X12_line_j492; exact (if_neg c8).trans ((if_neg c9).trans ((if_neg c10).trans ((if_pos c11).trans (rfl))))
                  refine w_loc [0, 1] rfl ?_
                  have jj := jn5
                  rw [eT] at jj
                  exact pr2 (P := fun (y0 : SI) (y1 : SJ) => WK K 0 0 492 [(0, .ref 130), (1, .int (I 130 29))] [] (eI f y0) (eJ f y1) R n g) jj
                · skip
                  by_cases c12 : (I 130 29) = 4
                  · skip
                    refine w_tabIn (tgt := 311) (off := 214) ok dX12_line_97 (by rw [c12]; decide) (by rw [c12]; decide) (by rw [c12]; rfl) (by decide) ?_
                    refine w_iconst (v := 4) ok dX12_line_311 (by decide) ?_
                    refine w_aload_n ok dX12_line_312 0 rfl ?_
                    refine w_iconst (v := 4) ok dX12_line_313 (by decide) ?_
                    refine w_cV (As := [.int 4]) ok dX12_line_314 iX12_fresher (lX12_239 rfl) (rcv cls12 (congrArg Prod.fst s_130)) (ltM hnn (by decide)) (c_X12_fresher ro hnn hf 4  (hp21 c1 c2 c4 c8 c9 c10 c11 c12)) (by decide) rfl (Nat.le_of_ble_eq_true rfl) ?_
                    show WK K 0 0 317 [(0, .ref 130), (1, .int (I 130 29))] [.int (F_X12_fresher 4 (FI_X12_token  (S1_X12_line I J) J) J), .int 4] (eI f (FI_X12_token  (S1_X12_line I J) J)) (eJ f J) R n g
                    refine w_iadd ok dX12_line_317 ?_
                    refine w_istore ok dX12_line_318 (by decide) rfl ?_
                    refine w_aload_n ok dX12_line_320 1 rfl ?_
                    refine w_getR ok dX12_line_321 (fX12_49 rfl) (congrArg Prod.fst s_130) rfl (r_130_15 ro) (ltM hnn (by decide)) ?_
                    refine w_iload ok dX12_line_324 0 rfl ?_
                    refine w_aload_n ok dX12_line_326 1 rfl ?_
                    refine w_aload_n ok dX12_line_327 1 rfl ?_
                    refine w_getR ok dX12_line_328 (fX12_49 rfl) (congrArg Prod.fst s_130) rfl (r_130_15 ro) (ltM hnn (by decide)) ?_
                    refine w_iconst (v := 4) ok dX12_line_331 (by decide) ?_
                    refine w_aload_n ok dX12_line_332 1 rfl ?_
                    refine w_iconst (v := 4) ok dX12_line_333 (by decide) ?_
                    refine w_cV (As := [.int 4]) ok dX12_line_334 iX12_fresher (lX12_239 rfl) (rcv cls12 (congrArg Prod.fst s_130)) (ltM hnn (by decide)) (c_X12_fresher ro hnn hf 4  (hp21 c1 c2 c4 c8 c9 c10 c11 c12)) (by decide) rfl (Nat.le_of_ble_eq_true rfl) ?_
                    show WK K 0 0 337 [(4, .int ((4 : Int32) + (F_X12_fresher 4 (FI_X12_token  (S1_X12_line I J) J) J))), (0, .ref 130), (1, .int (I 130 29))] [.int (F_X12_fresher 4 (FI_X12_token  (S1_X12_line I J) J) J), .int 4, .ref 144, .ref 130, .int ((4 : Int32) + (F_X12_fresher 4 (FI_X12_token  (S1_X12_line I J) J) J)), .ref 144] (eI f (FI_X12_token  (S1_X12_line I J) J)) (eJ f J) R n g
                    refine w_cV (As := [.ref 144, .int 4, .int (F_X12_fresher 4 (FI_X12_token  (S1_X12_line I J) J) J)]) ok dX12_line_337 iX12_fresh (lX12_253 rfl) (rcv cls12 (congrArg Prod.fst s_130)) (ltM hnn (by decide)) (c_X12_fresh ro hnn hf 4 (F_X12_fresher 4 (FI_X12_token  (S1_X12_line I J) J) J) s_144 (ltM hnn (by decide)) (sdm hf (by decide)) (sh_len s_144) (hp22 c1 c2 c4 c8 c9 c10 c11 c12)) (by decide) rfl (Nat.le_of_ble_eq_true rfl) ?_
                    show WK K 0 0 340 [(4, .int ((4 : Int32) + (F_X12_fresher 4 (FI_X12_token  (S1_X12_line I J) J) J))), (0, .ref 130), (1, .int (I 130 29))] [.int (S18_X12_line I J), .int ((4 : Int32) + (F_X12_fresher 4 (FI_X12_token  (S1_X12_line I J) J) J)), .ref 144] (eI f (S17_X12_line I J)) (eJ f J) R n g
                    refine y_iast (q := ((4 : Int32) + (F_X12_fresher 4 (FI_X12_token  (S1_X12_line I J) J) J)).toNatClampNeg) ok dX12_line_340 s_144 (hp23 c1 c2 c4 c8 c9 c10 c11 c12) (by decide) (ltM hnn (by decide)) (sdm hf (by decide)) ?_
                    show WK K 0 0 341 [(4, .int ((4 : Int32) + (F_X12_fresher 4 (FI_X12_token  (S1_X12_line I J) J) J))), (0, .ref 130), (1, .int (I 130 29))] [] (eI f (S19_X12_line I J)) (eJ f J) R n g
                    refine w_aload_n ok dX12_line_341 1 rfl ?_
                    refine w_getR ok dX12_line_342 (fX12_52 rfl) (congrArg Prod.fst s_130) rfl (r_130_16 ro) (ltM hnn (by decide)) ?_
                    refine w_iload ok dX12_line_345 0 rfl ?_
                    refine w_aload_n ok dX12_line_347 1 rfl ?_
                    refine w_iconst (v := 0) ok dX12_line_348 (by decide) ?_
                    refine w_bipush (v := 63) ok dX12_line_349 (by decide) ?_
                    refine w_cV (As := [.int 0, .int 63]) ok dX12_line_351 iX12_numeral (lX12_256 rfl) (rcv cls12 (congrArg Prod.fst s_130)) (ltM hnn (by decide)) (c_X12_numeral ro hnn hf 0 63  (hp24 c1 c2 c4 c8 c9 c10 c11 c12)) (by decide) rfl (Nat.le_of_ble_eq_true rfl) ?_
                    show WK K 0 0 354 [(4, .int ((4 : Int32) + (F_X12_fresher 4 (FI_X12_token  (S1_X12_line I J) J) J))), (0, .ref 130), (1, .int (I 130 29))] [.int (F_X12_numeral 0 63 (S19_X12_line I J) J), .int ((4 : Int32) + (F_X12_fresher 4 (FI_X12_token  (S1_X12_line I J) J) J)), .ref 145] (eI f (FI_X12_numeral 0 63 (S19_X12_line I J) J)) (eJ f J) R n g
                    refine y_iast (q := ((4 : Int32) + (F_X12_fresher 4 (FI_X12_token  (S1_X12_line I J) J) J)).toNatClampNeg) ok dX12_line_354 s_145 (hp23 c1 c2 c4 c8 c9 c10 c11 c12) (by decide) (ltM hnn (by decide)) (sdm hf (by decide)) ?_
                    show WK K 0 0 355 [(4, .int ((4 : Int32) + (F_X12_fresher 4 (FI_X12_token  (S1_X12_line I J) J) J))), (0, .ref 130), (1, .int (I 130 29))] [] (eI f (S20_X12_line I J)) (eJ f J) R n g
                    refine w_aload_n ok dX12_line_355 1 rfl ?_
                    refine w_iconst (v := 4) ok dX12_line_356 (by decide) ?_
                    refine w_aload_n ok dX12_line_357 1 rfl ?_
                    refine w_iconst (v := 4) ok dX12_line_358 (by decide) ?_
                    refine w_cV (As := [.int 4]) ok dX12_line_359 iX12_fresher (lX12_239 rfl) (rcv cls12 (congrArg Prod.fst s_130)) (ltM hnn (by decide)) (c_X12_fresher ro hnn hf 4  (hp25 c1 c2 c4 c8 c9 c10 c11 c12)) (by decide) rfl (Nat.le_of_ble_eq_true rfl) ?_
                    show WK K 0 0 362 [(4, .int ((4 : Int32) + (F_X12_fresher 4 (FI_X12_token  (S1_X12_line I J) J) J))), (0, .ref 130), (1, .int (I 130 29))] [.int (F_X12_fresher 4 (S20_X12_line I J) J), .int 4, .ref 130] (eI f (S20_X12_line I J)) (eJ f J) R n g
                    refine w_iconst (v := 1) ok dX12_line_362 (by decide) ?_
                    refine w_iadd ok dX12_line_363 ?_
                    refine w_cV (As := [.int 4, .int ((F_X12_fresher 4 (S20_X12_line I J) J) + 1)]) ok dX12_line_364 iX12_reads (lX12_260 rfl) (rcv cls12 (congrArg Prod.fst s_130)) (ltM hnn (by decide)) (c_X12_reads ro hnn hf 4 ((F_X12_fresher 4 (S20_X12_line I J) J) + 1)  (hp26 c1 c2 c4 c8 c9 c10 c11 c12)) (by decide) rfl (Nat.le_of_ble_eq_true rfl) ?_
                    show WK K 0 0 367 [(4, .int ((4 : Int32) + (F_X12_fresher 4 (FI_X12_token  (S1_X12_line I J) J) J))), (0, .ref 130), (1, .int (I 130 29))] [] (eI f (S21_X12_line I J)) (eJ f J) R n g
                    refine w_goto (tgt := 492) ok dX12_line_367 (by decide) ?_
                    have eT : (T_X12_line_j492 I J) = ((S21_X12_line I J), J) := by
                      unfold T_X12_line_j492; exact (if_neg c8).trans ((if_neg c9).trans ((if_neg c10).trans ((if_neg c11).trans ((if_pos c12).trans (rfl)))))
                    refine w_loc [1, 2] rfl ?_
                    have jj := jn5
                    rw [eT] at jj
                    exact pr2 (P := fun (y0 : SI) (y1 : SJ) => WK K 0 0 492 [(0, .ref 130), (1, .int (I 130 29))] [] (eI f y0) (eJ f y1) R n g) jj
                  · skip
                    by_cases c13 : (I 130 29) = 5
                    · skip
                      refine w_tabIn (tgt := 370) (off := 273) ok dX12_line_97 (by rw [c13]; decide) (by rw [c13]; decide) (by rw [c13]; rfl) (by decide) ?_
                      refine w_iconst (v := 3) ok dX12_line_370 (by decide) ?_
                      refine w_aload_n ok dX12_line_371 0 rfl ?_
                      refine w_iconst (v := 5) ok dX12_line_372 (by decide) ?_
                      refine w_cV (As := [.int 5]) ok dX12_line_373 iX12_fresher (lX12_239 rfl) (rcv cls12 (congrArg Prod.fst s_130)) (ltM hnn (by decide)) (c_X12_fresher ro hnn hf 5  (hp27 c1 c2 c4 c8 c9 c10 c11 c12 c13)) (by decide) rfl (Nat.le_of_ble_eq_true rfl) ?_
                      show WK K 0 0 376 [(0, .ref 130), (1, .int (I 130 29))] [.int (F_X12_fresher 5 (FI_X12_token  (S1_X12_line I J) J) J), .int 3] (eI f (FI_X12_token  (S1_X12_line I J) J)) (eJ f J) R n g
                      refine w_iadd ok dX12_line_376 ?_
                      refine w_istore ok dX12_line_377 (by decide) rfl ?_
                      refine w_aload_n ok dX12_line_379 1 rfl ?_
                      refine w_getR ok dX12_line_380 (fX12_55 rfl) (congrArg Prod.fst s_130) rfl (r_130_17 ro) (ltM hnn (by decide)) ?_
                      refine w_iload ok dX12_line_383 0 rfl ?_
                      refine w_aload_n ok dX12_line_385 1 rfl ?_
                      refine w_iconst (v := 0) ok dX12_line_386 (by decide) ?_
                      refine w_bipush (v := 99) ok dX12_line_387 (by decide) ?_
                      refine w_cV (As := [.int 0, .int 99]) ok dX12_line_389 iX12_numeral (lX12_256 rfl) (rcv cls12 (congrArg Prod.fst s_130)) (ltM hnn (by decide)) (c_X12_numeral ro hnn hf 0 99  (hp28 c1 c2 c4 c8 c9 c10 c11 c12 c13)) (by decide) rfl (Nat.le_of_ble_eq_true rfl) ?_
                      show WK K 0 0 392 [(5, .int ((3 : Int32) + (F_X12_fresher 5 (FI_X12_token  (S1_X12_line I J) J) J))), (0, .ref 130), (1, .int (I 130 29))] [.int (F_X12_numeral 0 99 (FI_X12_token  (S1_X12_line I J) J) J), .int ((3 : Int32) + (F_X12_fresher 5 (FI_X12_token  (S1_X12_line I J) J) J)), .ref 146] (eI f (FI_X12_numeral 0 99 (FI_X12_token  (S1_X12_line I J) J) J)) (eJ f J) R n g
                      refine y_iast (q := ((3 : Int32) + (F_X12_fresher 5 (FI_X12_token  (S1_X12_line I J) J) J)).toNatClampNeg) ok dX12_line_392 s_146 (hp29 c1 c2 c4 c8 c9 c10 c11 c12 c13) (by decide) (ltM hnn (by decide)) (sdm hf (by decide)) ?_
                      show WK K 0 0 393 [(5, .int ((3 : Int32) + (F_X12_fresher 5 (FI_X12_token  (S1_X12_line I J) J) J))), (0, .ref 130), (1, .int (I 130 29))] [] (eI f (S22_X12_line I J)) (eJ f J) R n g
                      refine w_aload_n ok dX12_line_393 1 rfl ?_
                      refine w_getR ok dX12_line_394 (fX12_58 rfl) (congrArg Prod.fst s_130) rfl (r_130_18 ro) (ltM hnn (by decide)) ?_
                      refine w_iload ok dX12_line_397 0 rfl ?_
                      refine w_aload_n ok dX12_line_399 1 rfl ?_
                      refine w_aload_n ok dX12_line_400 1 rfl ?_
                      refine y_getI ok dX12_line_401 (fX12_223 rfl) (congrArg Prod.fst s_130) rfl (ltM hnn (by decide)) (sdm hf (by decide)) ?_
                      have jn14 : WK K 0 0 418 [(0, .ref 130), (1, .int (I 130 29)), (5, .int ((3 : Int32) + (F_X12_fresher 5 (FI_X12_token  (S1_X12_line I J) J) J)))] [.int (T_X12_line_j418 I J), .ref 130, .int ((3 : Int32) + (F_X12_fresher 5 (FI_X12_token  (S1_X12_line I J) J) J)), .ref 147] (eI f (S22_X12_line I J)) (eJ f J) R n g := by
                        refine w_bipush (v := 99) ok dX12_line_418 (by decide) ?_
                        refine w_cV (As := [.int (T_X12_line_j418 I J), .int 99]) ok dX12_line_420 iX12_numeral (lX12_256 rfl) (rcv cls12 (congrArg Prod.fst s_130)) (ltM hnn (by decide)) (c_X12_numeral ro hnn hf (T_X12_line_j418 I J) 99  (hp30 c1 c2 c4 c8 c9 c10 c11 c12 c13)) (by decide) rfl (Nat.le_of_ble_eq_true rfl) ?_
                        show WK K 0 0 423 [(0, .ref 130), (1, .int (I 130 29)), (5, .int ((3 : Int32) + (F_X12_fresher 5 (FI_X12_token  (S1_X12_line I J) J) J)))] [.int (F_X12_numeral (T_X12_line_j418 I J) 99 (S22_X12_line I J) J), .int ((3 : Int32) + (F_X12_fresher 5 (FI_X12_token  (S1_X12_line I J) J) J)), .ref 147] (eI f (FI_X12_numeral (T_X12_line_j418 I J) 99 (S22_X12_line I J) J)) (eJ f J) R n g
                        refine y_iast (q := ((3 : Int32) + (F_X12_fresher 5 (FI_X12_token  (S1_X12_line I J) J) J)).toNatClampNeg) ok dX12_line_423 s_147 (hp29 c1 c2 c4 c8 c9 c10 c11 c12 c13) (by decide) (ltM hnn (by decide)) (sdm hf (by decide)) ?_
                        show WK K 0 0 424 [(0, .ref 130), (1, .int (I 130 29)), (5, .int ((3 : Int32) + (F_X12_fresher 5 (FI_X12_token  (S1_X12_line I J) J) J)))] [] (eI f (S23_X12_line I J)) (eJ f J) R n g
                        refine w_aload_n ok dX12_line_424 0 rfl ?_
                        refine w_iconst (v := 5) ok dX12_line_425 (by decide) ?_
                        refine w_aload_n ok dX12_line_426 0 rfl ?_
                        refine w_iconst (v := 5) ok dX12_line_427 (by decide) ?_
                        refine w_cV (As := [.int 5]) ok dX12_line_428 iX12_fresher (lX12_239 rfl) (rcv cls12 (congrArg Prod.fst s_130)) (ltM hnn (by decide)) (c_X12_fresher ro hnn hf 5  (hp31 c1 c2 c4 c8 c9 c10 c11 c12 c13)) (by decide) rfl (Nat.le_of_ble_eq_true rfl) ?_
                        show WK K 0 0 431 [(0, .ref 130), (1, .int (I 130 29)), (5, .int ((3 : Int32) + (F_X12_fresher 5 (FI_X12_token  (S1_X12_line I J) J) J)))] [.int (F_X12_fresher 5 (S23_X12_line I J) J), .int 5, .ref 130] (eI f (S23_X12_line I J)) (eJ f J) R n g
                        refine w_iconst (v := 1) ok dX12_line_431 (by decide) ?_
                        refine w_iadd ok dX12_line_432 ?_
                        refine w_cV (As := [.int 5, .int ((F_X12_fresher 5 (S23_X12_line I J) J) + 1)]) ok dX12_line_433 iX12_reads (lX12_260 rfl) (rcv cls12 (congrArg Prod.fst s_130)) (ltM hnn (by decide)) (c_X12_reads ro hnn hf 5 ((F_X12_fresher 5 (S23_X12_line I J) J) + 1)  (hp32 c1 c2 c4 c8 c9 c10 c11 c12 c13)) (by decide) rfl (Nat.le_of_ble_eq_true rfl) ?_
                        show WK K 0 0 436 [(0, .ref 130), (1, .int (I 130 29)), (5, .int ((3 : Int32) + (F_X12_fresher 5 (FI_X12_token  (S1_X12_line I J) J) J)))] [] (eI f (S24_X12_line I J)) (eJ f J) R n g
                        refine w_goto (tgt := 492) ok dX12_line_436 (by decide) ?_
                        have eT : (T_X12_line_j492 I J) = ((S24_X12_line I J), J) := by
                          unfold T_X12_line_j492; exact (if_neg c8).trans ((if_neg c9).trans ((if_neg c10).trans ((if_neg c11).trans ((if_neg c12).trans ((if_pos c13).trans (rfl))))))
                        refine w_loc [0, 1] rfl ?_
                        have jj := jn5
                        rw [eT] at jj
                        exact pr2 (P := fun (y0 : SI) (y1 : SJ) => WK K 0 0 492 [(0, .ref 130), (1, .int (I 130 29))] [] (eI f y0) (eJ f y1) R n g) jj
                      refine w_if_ne (tgt := 417) ok dX12_line_404 (by decide) (fun c15 => ?_) (fun c15 => ?_)
                      · skip
                        refine w_iconst (v := 0) ok dX12_line_417 (by decide) ?_
                        have eT : (T_X12_line_j418 I J) = 0 := by
                          unfold T_X12_line_j418; exact (if_neg c15).trans (rfl)
                        refine w_loc [1, 2, 0] rfl ?_
                        have jj := jn14
                        rw [eT] at jj
                        exact jj
                      · skip
                        refine w_aload_n ok dX12_line_407 1 rfl ?_
                        refine w_getR ok dX12_line_408 (fX12_55 rfl) (congrArg Prod.fst s_130) rfl (r_130_17 ro) (ltM hnn (by decide)) ?_
                        refine w_iload ok dX12_line_411 0 rfl ?_
                        refine y_iald (q := ((3 : Int32) + (F_X12_fresher 5 (FI_X12_token  (S1_X12_line I J) J) J)).toNatClampNeg) ok dX12_line_413 s_146 (hp33 c1 c2 c4 c8 c9 c10 c11 c12 c13 c15) (by decide) (ltM hnn (by decide)) (sdm hf (by decide)) ?_
                        show WK K 0 0 414 [(5, .int ((3 : Int32) + (F_X12_fresher 5 (FI_X12_token  (S1_X12_line I J) J) J))), (0, .ref 130), (1, .int (I 130 29))] [.int (S25_X12_line I J), .ref 130, .int ((3 : Int32) + (F_X12_fresher 5 (FI_X12_token  (S1_X12_line I J) J) J)), .ref 147] (eI f (S22_X12_line I J)) (eJ f J) R n g
                        refine w_goto (tgt := 418) ok dX12_line_414 (by decide) ?_
                        have eT : (T_X12_line_j418 I J) = (S25_X12_line I J) := by
                          unfold T_X12_line_j418; exact (if_pos c15).trans (rfl)
                        refine w_loc [1, 2, 0] rfl ?_
                        have jj := jn14
                        rw [eT] at jj
                        exact jj
                    · skip
                      by_cases c16 : (I 130 29) = 6
                      · skip
                        refine w_tabIn (tgt := 439) (off := 342) ok dX12_line_97 (by rw [c16]; decide) (by rw [c16]; decide) (by rw [c16]; rfl) (by decide) ?_
                        refine w_aload_n ok dX12_line_439 0 rfl ?_
                        refine w_bipush (v := 6) ok dX12_line_440 (by decide) ?_
                        refine w_aload_n ok dX12_line_442 0 rfl ?_
                        refine w_iconst (v := 0) ok dX12_line_443 (by decide) ?_
                        refine w_bipush (v := 100) ok dX12_line_444 (by decide) ?_
                        refine w_cV (As := [.int 0, .int 100]) ok dX12_line_446 iX12_numeral (lX12_256 rfl) (rcv cls12 (congrArg Prod.fst s_130)) (ltM hnn (by decide)) (c_X12_numeral ro hnn hf 0 100  (hp34 c1 c2 c4 c8 c9 c10 c11 c12 c13 c16)) (by decide) rfl (Nat.le_of_ble_eq_true rfl) ?_
                        show WK K 0 0 449 [(0, .ref 130), (1, .int (I 130 29))] [.int (F_X12_numeral 0 100 (FI_X12_token  (S1_X12_line I J) J) J), .int 6, .ref 130] (eI f (FI_X12_numeral 0 100 (FI_X12_token  (S1_X12_line I J) J) J)) (eJ f J) R n g
                        refine w_cV (As := [.int 6, .int (F_X12_numeral 0 100 (FI_X12_token  (S1_X12_line I J) J) J)]) ok dX12_line_449 iX12_reads (lX12_260 rfl) (rcv cls12 (congrArg Prod.fst s_130)) (ltM hnn (by decide)) (c_X12_reads ro hnn hf 6 (F_X12_numeral 0 100 (FI_X12_token  (S1_X12_line I J) J) J)  (hp35 c1 c2 c4 c8 c9 c10 c11 c12 c13 c16)) (by decide) rfl (Nat.le_of_ble_eq_true rfl) ?_
                        show WK K 0 0 452 [(0, .ref 130), (1, .int (I 130 29))] [] (eI f (S26_X12_line I J)) (eJ f J) R n g
                        refine w_goto (tgt := 492) ok dX12_line_452 (by decide) ?_
                        have eT : (T_X12_line_j492 I J) = ((S26_X12_line I J), J) := by
                          unfold T_X12_line_j492; exact (if_neg c8).trans ((if_neg c9).trans ((if_neg c10).trans ((if_neg c11).trans ((if_neg c12).trans ((if_neg c13).trans ((if_pos c16).trans (rfl)))))))
                        refine w_loc [0, 1] rfl ?_
                        have jj := jn5
                        rw [eT] at jj
                        exact pr2 (P := fun (y0 : SI) (y1 : SJ) => WK K 0 0 492 [(0, .ref 130), (1, .int (I 130 29))] [] (eI f y0) (eJ f y1) R n g) jj
                      · skip
                        by_cases c17 : (I 130 29) = 7
                        · skip
                          refine w_tabIn (tgt := 455) (off := 358) ok dX12_line_97 (by rw [c17]; decide) (by rw [c17]; decide) (by rw [c17]; rfl) (by decide) ?_
                          refine w_aload_n ok dX12_line_455 0 rfl ?_
                          refine w_bipush (v := 7) ok dX12_line_456 (by decide) ?_
                          refine w_aload_n ok dX12_line_458 0 rfl ?_
                          refine w_iconst (v := 0) ok dX12_line_459 (by decide) ?_
                          refine w_sipush (v := 999) ok dX12_line_460 (by decide) ?_
                          refine w_cV (As := [.int 0, .int 999]) ok dX12_line_463 iX12_numeral (lX12_256 rfl) (rcv cls12 (congrArg Prod.fst s_130)) (ltM hnn (by decide)) (c_X12_numeral ro hnn hf 0 999  (hp36 c1 c2 c4 c8 c9 c10 c11 c12 c13 c16 c17)) (by decide) rfl (Nat.le_of_ble_eq_true rfl) ?_
                          show WK K 0 0 466 [(0, .ref 130), (1, .int (I 130 29))] [.int (F_X12_numeral 0 999 (FI_X12_token  (S1_X12_line I J) J) J), .int 7, .ref 130] (eI f (FI_X12_numeral 0 999 (FI_X12_token  (S1_X12_line I J) J) J)) (eJ f J) R n g
                          refine w_cV (As := [.int 7, .int (F_X12_numeral 0 999 (FI_X12_token  (S1_X12_line I J) J) J)]) ok dX12_line_466 iX12_reads (lX12_260 rfl) (rcv cls12 (congrArg Prod.fst s_130)) (ltM hnn (by decide)) (c_X12_reads ro hnn hf 7 (F_X12_numeral 0 999 (FI_X12_token  (S1_X12_line I J) J) J)  (hp37 c1 c2 c4 c8 c9 c10 c11 c12 c13 c16 c17)) (by decide) rfl (Nat.le_of_ble_eq_true rfl) ?_
                          show WK K 0 0 469 [(0, .ref 130), (1, .int (I 130 29))] [] (eI f (S27_X12_line I J)) (eJ f J) R n g
                          refine w_goto (tgt := 492) ok dX12_line_469 (by decide) ?_
                          have eT : (T_X12_line_j492 I J) = ((S27_X12_line I J), J) := by
                            unfold T_X12_line_j492; exact (if_neg c8).trans ((if_neg c9).trans ((if_neg c10).trans ((if_neg c11).trans ((if_neg c12).trans ((if_neg c13).trans ((if_neg c16).trans ((if_pos c17).trans (rfl))))))))
                          refine w_loc [0, 1] rfl ?_
                          have jj := jn5
                          rw [eT] at jj
                          exact pr2 (P := fun (y0 : SI) (y1 : SJ) => WK K 0 0 492 [(0, .ref 130), (1, .int (I 130 29))] [] (eI f y0) (eJ f y1) R n g) jj
                        · skip
                          by_cases c18 : (I 130 29) = 8
                          · skip
                            refine w_tabIn (tgt := 472) (off := 375) ok dX12_line_97 (by rw [c18]; decide) (by rw [c18]; decide) (by rw [c18]; rfl) (by decide) ?_
                            refine w_aload_n ok dX12_line_472 0 rfl ?_
                            refine w_bipush (v := 8) ok dX12_line_473 (by decide) ?_
                            refine w_aload_n ok dX12_line_475 0 rfl ?_
                            refine w_iconst (v := 0) ok dX12_line_476 (by decide) ?_
                            refine w_ldc ok dX12_line_477 kX12_207 ?_
                            refine w_cV (As := [.int 0, .int 99999]) ok dX12_line_479 iX12_numeral (lX12_256 rfl) (rcv cls12 (congrArg Prod.fst s_130)) (ltM hnn (by decide)) (c_X12_numeral ro hnn hf 0 99999  (hp38 c1 c2 c4 c8 c9 c10 c11 c12 c13 c16 c17 c18)) (by decide) rfl (Nat.le_of_ble_eq_true rfl) ?_
                            show WK K 0 0 482 [(0, .ref 130), (1, .int (I 130 29))] [.int (F_X12_numeral 0 99999 (FI_X12_token  (S1_X12_line I J) J) J), .int 8, .ref 130] (eI f (FI_X12_numeral 0 99999 (FI_X12_token  (S1_X12_line I J) J) J)) (eJ f J) R n g
                            refine w_cV (As := [.int 8, .int (F_X12_numeral 0 99999 (FI_X12_token  (S1_X12_line I J) J) J)]) ok dX12_line_482 iX12_reads (lX12_260 rfl) (rcv cls12 (congrArg Prod.fst s_130)) (ltM hnn (by decide)) (c_X12_reads ro hnn hf 8 (F_X12_numeral 0 99999 (FI_X12_token  (S1_X12_line I J) J) J)  (hp39 c1 c2 c4 c8 c9 c10 c11 c12 c13 c16 c17 c18)) (by decide) rfl (Nat.le_of_ble_eq_true rfl) ?_
                            show WK K 0 0 485 [(0, .ref 130), (1, .int (I 130 29))] [] (eI f (S28_X12_line I J)) (eJ f J) R n g
                            refine w_goto (tgt := 492) ok dX12_line_485 (by decide) ?_
                            have eT : (T_X12_line_j492 I J) = ((S28_X12_line I J), J) := by
                              unfold T_X12_line_j492; exact (if_neg c8).trans ((if_neg c9).trans ((if_neg c10).trans ((if_neg c11).trans ((if_neg c12).trans ((if_neg c13).trans ((if_neg c16).trans ((if_neg c17).trans ((if_pos c18).trans (rfl)))))))))
                            refine w_loc [0, 1] rfl ?_
                            have jj := jn5
                            rw [eT] at jj
                            exact pr2 (P := fun (y0 : SI) (y1 : SJ) => WK K 0 0 492 [(0, .ref 130), (1, .int (I 130 29))] [] (eI f y0) (eJ f y1) R n g) jj
                          · skip
                            have n19 : (I 130 29).toInt ≠ 0 := ne_toInt c8
                            have n20 : (I 130 29).toInt ≠ 1 := ne_toInt c9
                            have n21 : (I 130 29).toInt ≠ 2 := ne_toInt c10
                            have n22 : (I 130 29).toInt ≠ 3 := ne_toInt c11
                            have n23 : (I 130 29).toInt ≠ 4 := ne_toInt c12
                            have n24 : (I 130 29).toInt ≠ 5 := ne_toInt c13
                            have n25 : (I 130 29).toInt ≠ 6 := ne_toInt c16
                            have n26 : (I 130 29).toInt ≠ 7 := ne_toInt c17
                            have n27 : (I 130 29).toInt ≠ 8 := ne_toInt c18
                            refine w_tabOut (tgt := 488) ok dX12_line_97 (by omega) (by decide) ?_
                            refine w_aload_n ok dX12_line_488 0 rfl ?_
                            refine w_cV (As := []) ok dX12_line_489 iX12_lawLine (lX12_270 rfl) (rcv cls12 (congrArg Prod.fst s_130)) (ltM hnn (by decide)) (c_X12_lawLine ro hnn hf   (hp40 c1 c2 c4 c8 c9 c10 c11 c12 c13 c16 c17 c18)) (by decide) rfl (Nat.le_of_ble_eq_true rfl) ?_
                            have eT : (T_X12_line_j492 I J) = ((FI_X12_lawLine  (FI_X12_token  (S1_X12_line I J) J) J), (FJ_X12_lawLine  (FI_X12_token  (S1_X12_line I J) J) J)) := by
                              unfold T_X12_line_j492; exact (if_neg c8).trans ((if_neg c9).trans ((if_neg c10).trans ((if_neg c11).trans ((if_neg c12).trans ((if_neg c13).trans ((if_neg c16).trans ((if_neg c17).trans ((if_neg c18).trans (rfl)))))))))
                            refine w_loc [0, 1] rfl ?_
                            have jj := jn5
                            rw [eT] at jj
                            exact pr2 (P := fun (y0 : SI) (y1 : SJ) => WK K 0 0 492 [(0, .ref 130), (1, .int (I 130 29))] [] (eI f y0) (eJ f y1) R n g) jj
        · skip
          exact w_vret ok fin dX12_line_79 rfl (by unfold FI_X12_line FJ_X12_line; simp only [if_pos c1]; simp only [if_pos c2]; simp only [if_neg c4]; exact Pd.i)
      refine w_if_eq (tgt := 43) ok dX12_line_32 (by decide) (fun c28 => ?_) (fun c28 => ?_)
      · skip
        refine w_iload_n ok dX12_line_43 0 rfl ?_
        refine w_bipush (v := 6) ok dX12_line_44 (by decide) ?_
        refine w_icmp_lt (tgt := 72) ok dX12_line_46 (by decide) (fun c29 => ?_) (fun c29 => ?_)
        · skip
          have eT : (T_X12_line_j72 I J) = I := by
            unfold T_X12_line_j72; exact (if_pos c28).trans ((if_pos c29).trans (rfl))
          refine w_loc [1, 0] rfl ?_
          have jj := jn3
          rw [eT] at jj
          exact jj
        · skip
          refine w_iload_n ok dX12_line_49 0 rfl ?_
          refine w_bipush (v := 8) ok dX12_line_50 (by decide) ?_
          refine w_icmp_gt (tgt := 72) ok dX12_line_52 (by decide) (fun c30 => ?_) (fun c30 => ?_)
          · skip
            have eT : (T_X12_line_j72 I J) = I := by
              unfold T_X12_line_j72; exact (if_pos c28).trans ((if_neg c29).trans ((if_pos c30).trans (rfl)))
            refine w_loc [1, 0] rfl ?_
            have jj := jn3
            rw [eT] at jj
            exact jj
          · skip
            refine w_aload_n ok dX12_line_55 1 rfl ?_
            refine y_getI ok dX12_line_56 (fX12_250 rfl) (congrArg Prod.fst s_130) rfl (ltM hnn (by decide)) (sdm hf (by decide)) ?_
            refine w_iload_n ok dX12_line_59 0 rfl ?_
            refine w_ishr ok dX12_line_60 ?_
            refine w_iconst (v := 1) ok dX12_line_61 (by decide) ?_
            refine w_iand ok dX12_line_62 ?_
            refine w_iconst (v := 1) ok dX12_line_63 (by decide) ?_
            refine w_icmp_ne (tgt := 72) ok dX12_line_64 (by decide) (fun c31 => ?_) (fun c31 => ?_)
            · skip
              have eT : (T_X12_line_j72 I J) = I := by
                unfold T_X12_line_j72; exact (if_pos c28).trans ((if_neg c29).trans ((if_neg c30).trans ((if_neg c31).trans (rfl))))
              refine w_loc [1, 0] rfl ?_
              have jj := jn3
              rw [eT] at jj
              exact jj
            · skip
              refine w_aload_n ok dX12_line_67 1 rfl ?_
              refine w_iconst (v := 3) ok dX12_line_68 (by decide) ?_
              refine w_cV (As := [.int 3]) ok dX12_line_69 iX12_wrong (lX12_232 rfl) (rcv cls12 (congrArg Prod.fst s_130)) (ltM hnn (by decide)) (c_X12_wrong ro hnn hf 3 ) (by decide) rfl (Nat.le_of_ble_eq_true rfl) ?_
              have eT : (T_X12_line_j72 I J) = (FI_X12_wrong 3 I J) := by
                unfold T_X12_line_j72; exact (if_pos c28).trans ((if_neg c29).trans ((if_neg c30).trans ((if_pos c31).trans (rfl))))
              refine w_loc [1, 0] rfl ?_
              have jj := jn3
              rw [eT] at jj
              exact jj
      · skip
        refine w_aload_n ok dX12_line_35 1 rfl ?_
        refine w_iconst (v := 2) ok dX12_line_36 (by decide) ?_
        refine w_cV (As := [.int 2]) ok dX12_line_37 iX12_wrong (lX12_232 rfl) (rcv cls12 (congrArg Prod.fst s_130)) (ltM hnn (by decide)) (c_X12_wrong ro hnn hf 2 ) (by decide) rfl (Nat.le_of_ble_eq_true rfl) ?_
        refine w_goto (tgt := 72) ok dX12_line_40 (by decide) ?_
        have eT : (T_X12_line_j72 I J) = (FI_X12_wrong 2 I J) := by
          unfold T_X12_line_j72; exact (if_neg c28).trans (rfl)
        refine w_loc [1, 0] rfl ?_
        have jj := jn3
        rw [eT] at jj
        exact jj
    · skip
      refine w_aload_n ok dX12_line_16 0 rfl ?_
      refine w_iconst (v := 1) ok dX12_line_17 (by decide) ?_
      refine w_cV (As := [.int 1]) ok dX12_line_18 iX12_wrong (lX12_232 rfl) (rcv cls12 (congrArg Prod.fst s_130)) (ltM hnn (by decide)) (c_X12_wrong ro hnn hf 1 ) (by decide) rfl (Nat.le_of_ble_eq_true rfl) ?_
      exact w_vret ok fin dX12_line_21 rfl (by unfold FI_X12_line FJ_X12_line; simp only [if_pos c1]; simp only [if_neg c2]; exact Pd.i)
def S1_X12_text (a0 : Int32) (I : SI) (J : SJ) : SI := u2 (u2 (u2 (u2 (u2 (u2 I 130 0 0) 130 25 a0) 130 2 0) 130 26 0) 130 30 0) 130 31 (-1)
def B_X12_text_l47 (a0 : Int32) (I : SI) (J : SJ) (i47 : Nat) (s47 : SI) : SI := if (nI i47) = 7 then (FI_X12_reads (nI i47) 99 s47 J) else (FI_X12_reads (nI i47) 0 s47 J)
def F_X12_text_l47 (a0 : Int32) (I : SI) (J : SJ) (s0 : SI) : SI := itN (B_X12_text_l47 a0 I J) (10) s0
def B_X12_text_l79 (a0 : Int32) (I : SI) (J : SJ) (i79 : Nat) (s79 : SI) : SI := (u2 s79 139 (nI (48 + i79)).toNatClampNeg (-1))
def F_X12_text_l79 (a0 : Int32) (I : SI) (J : SJ) (s0 : SI) : SI := itN (B_X12_text_l79 a0 I J) (48) s0
def S27_X12_text (a0 : Int32) (I : SI) (J : SJ) (i100 : Nat) (s100 : SI) : SI := u2 (u2 s100 148 (nI (3 + i100)).toNatClampNeg 0) 149 (nI (3 + i100)).toNatClampNeg 0
def B_X12_text_l100 (a0 : Int32) (I : SI) (J : SJ) (i100 : Nat) (s100 : SI) : SI := (S27_X12_text a0 I J i100 s100)
def F_X12_text_l100 (a0 : Int32) (I : SI) (J : SJ) (s0 : SI) : SI := itN (B_X12_text_l100 a0 I J) (3) s0
def S2_X12_text (a0 : Int32) (I : SI) (J : SJ) : SI := (F_X12_text_l100 a0 I J ((F_X12_text_l79 a0 I J ((F_X12_text_l47 a0 I J (S1_X12_text a0 I J))))))
def S3_X12_text (a0 : Int32) (I : SI) (J : SJ) : SI := u2 (u2 (u2 (u2 (S2_X12_text a0 I J) 130 23 0) 130 24 0) 130 34 0) 130 35 0
def B_X12_text_w150 (a0 : Int32) (I : SI) (J : SJ) (s150 : SI × SJ) : (SI × SJ) ⊕ (SI × SJ) := if (s150.1 130 30) = 0 then (if (s150.1 130 28) = 4 then .inr (s150.1, s150.2) else .inl ((FI_X12_line  s150.1 s150.2), (FJ_X12_line  s150.1 s150.2))) else .inr (s150.1, s150.2)
def F_X12_text_w150 (a0 : Int32) (I : SI) (J : SJ) (s0 : SI × SJ) : SI × SJ := (itW (B_X12_text_w150 a0 I J) 800 s0).getD s0
def S4_X12_text (a0 : Int32) (I : SI) (J : SJ) : SI := u2 ((F_X12_text_w150 a0 I J ((FI_X12_token  (S3_X12_text a0 I J) J), J)).1) 130 32 (((F_X12_text_w150 a0 I J ((FI_X12_token  (S3_X12_text a0 I J) J), J)).1) 130 30)
def S5_X12_text (a0 : Int32) (I : SI) (J : SJ) : SI := FI_X12_half 132 20 (u2 (S4_X12_text a0 I J) 130 33 (((S4_X12_text a0 I J)) 130 31)) ((F_X12_text_w150 a0 I J ((FI_X12_token  (S3_X12_text a0 I J) J), J)).2)
def S6_X12_text (a0 : Int32) (I : SI) (J : SJ) : SI := FI_X12_half 133 12 (S5_X12_text a0 I J) ((F_X12_text_w150 a0 I J ((FI_X12_token  (S3_X12_text a0 I J) J), J)).2)
def S7_X12_text (a0 : Int32) (I : SI) (J : SJ) : SI := FI_X12_half 134 12 (S6_X12_text a0 I J) ((F_X12_text_w150 a0 I J ((FI_X12_token  (S3_X12_text a0 I J) J), J)).2)
def S8_X12_text (a0 : Int32) (I : SI) (J : SJ) : SI := FI_X12_half 135 12 (S7_X12_text a0 I J) ((F_X12_text_w150 a0 I J ((FI_X12_token  (S3_X12_text a0 I J) J), J)).2)
def S9_X12_text (a0 : Int32) (I : SI) (J : SJ) : SI := FI_X12_half 136 16 (S8_X12_text a0 I J) ((F_X12_text_w150 a0 I J ((FI_X12_token  (S3_X12_text a0 I J) J), J)).2)
def S10_X12_text (a0 : Int32) (I : SI) (J : SJ) : SI := FI_X12_half 137 16 (S9_X12_text a0 I J) ((F_X12_text_w150 a0 I J ((FI_X12_token  (S3_X12_text a0 I J) J), J)).2)
def S11_X12_text (a0 : Int32) (I : SI) (J : SJ) : SI := FI_X12_half 138 16 (S10_X12_text a0 I J) ((F_X12_text_w150 a0 I J ((FI_X12_token  (S3_X12_text a0 I J) J), J)).2)
def S12_X12_text (a0 : Int32) (I : SI) (J : SJ) : SI := FI_X12_half 139 96 (S11_X12_text a0 I J) ((F_X12_text_w150 a0 I J ((FI_X12_token  (S3_X12_text a0 I J) J), J)).2)
def S13_X12_text (a0 : Int32) (I : SI) (J : SJ) : SI := FI_X12_half 140 8 (S12_X12_text a0 I J) ((F_X12_text_w150 a0 I J ((FI_X12_token  (S3_X12_text a0 I J) J), J)).2)
def S14_X12_text (a0 : Int32) (I : SI) (J : SJ) : SI := FI_X12_half 141 8 (S13_X12_text a0 I J) ((F_X12_text_w150 a0 I J ((FI_X12_token  (S3_X12_text a0 I J) J), J)).2)
def S15_X12_text (a0 : Int32) (I : SI) (J : SJ) : SI := FI_X12_half 142 8 (S14_X12_text a0 I J) ((F_X12_text_w150 a0 I J ((FI_X12_token  (S3_X12_text a0 I J) J), J)).2)
def S16_X12_text (a0 : Int32) (I : SI) (J : SJ) : SI := FI_X12_half 143 8 (S15_X12_text a0 I J) ((F_X12_text_w150 a0 I J ((FI_X12_token  (S3_X12_text a0 I J) J), J)).2)
def S17_X12_text (a0 : Int32) (I : SI) (J : SJ) : SI := FI_X12_half 144 8 (S16_X12_text a0 I J) ((F_X12_text_w150 a0 I J ((FI_X12_token  (S3_X12_text a0 I J) J), J)).2)
def S18_X12_text (a0 : Int32) (I : SI) (J : SJ) : SI := FI_X12_half 145 8 (S17_X12_text a0 I J) ((F_X12_text_w150 a0 I J ((FI_X12_token  (S3_X12_text a0 I J) J), J)).2)
def S19_X12_text (a0 : Int32) (I : SI) (J : SJ) : SI := FI_X12_half 146 6 (S18_X12_text a0 I J) ((F_X12_text_w150 a0 I J ((FI_X12_token  (S3_X12_text a0 I J) J), J)).2)
def S20_X12_text (a0 : Int32) (I : SI) (J : SJ) : SI := FI_X12_half 147 6 (S19_X12_text a0 I J) ((F_X12_text_w150 a0 I J ((FI_X12_token  (S3_X12_text a0 I J) J), J)).2)
def S21_X12_text (a0 : Int32) (I : SI) (J : SJ) : SI := FI_X12_half 148 6 (S20_X12_text a0 I J) ((F_X12_text_w150 a0 I J ((FI_X12_token  (S3_X12_text a0 I J) J), J)).2)
def S22_X12_text (a0 : Int32) (I : SI) (J : SJ) : SI := FI_X12_half 149 6 (S21_X12_text a0 I J) ((F_X12_text_w150 a0 I J ((FI_X12_token  (S3_X12_text a0 I J) J), J)).2)
def S23_X12_text (a0 : Int32) (I : SI) (J : SJ) : SI := FI_X12_half 150 128 (S22_X12_text a0 I J) ((F_X12_text_w150 a0 I J ((FI_X12_token  (S3_X12_text a0 I J) J), J)).2)
def S24_X12_text (a0 : Int32) (I : SI) (J : SJ) : SI := FI_X12_half 151 128 (S23_X12_text a0 I J) ((F_X12_text_w150 a0 I J ((FI_X12_token  (S3_X12_text a0 I J) J), J)).2)
def S25_X12_text (a0 : Int32) (I : SI) (J : SJ) : SI := u2 (u2 (u2 (u2 (S24_X12_text a0 I J) 130 68 0) 130 69 (-1)) 130 53 0) 130 54 0
def S26_X12_text (a0 : Int32) (I : SI) (J : SJ) : SI := FI_X12_begins  (S25_X12_text a0 I J) ((F_X12_text_w150 a0 I J ((FI_X12_token  (S3_X12_text a0 I J) J), J)).2)
def F_X12_text (a0 : Int32) (I : SI) (J : SJ) : Int32 := if a0 < 0 then -2 else (if a0 ≤ ((u2 I 130 0 0) 130 2) then (if ((u2 (S4_X12_text a0 I J) 130 33 (((S4_X12_text a0 I J)) 130 31)) 130 30) = 0 then ((S26_X12_text a0 I J)) 130 24 else -1) else -2)
def FI_X12_text (a0 : Int32) (I : SI) (J : SJ) : SI := if a0 < 0 then u2 I 130 0 0 else (if a0 ≤ ((u2 I 130 0 0) 130 2) then (if ((u2 (S4_X12_text a0 I J) 130 33 (((S4_X12_text a0 I J)) 130 31)) 130 30) = 0 then (S26_X12_text a0 I J) else u2 (S4_X12_text a0 I J) 130 33 (((S4_X12_text a0 I J)) 130 31)) else u2 I 130 0 0)
def FJ_X12_text (a0 : Int32) (I : SI) (J : SJ) : SJ := if a0 < 0 then J else (if a0 ≤ ((u2 I 130 0 0) 130 2) then (if ((u2 (S4_X12_text a0 I J) 130 33 (((S4_X12_text a0 I J)) 130 31)) 130 30) = 0 then (F_X12_text_w150 a0 I J ((FI_X12_token  (S3_X12_text a0 I J) J), J)).2 else (F_X12_text_w150 a0 I J ((FI_X12_token  (S3_X12_text a0 I J) J), J)).2) else J)
def H_X12_text (a0 : Int32) (I : SI) (J : SJ) : Prop := (¬ (a0 < 0) → a0 ≤ ((u2 I 130 0 0) 130 2) → H_X12_token  (S3_X12_text a0 I J) J) ∧ (¬ (a0 < 0) → a0 ≤ ((u2 I 130 0 0) 130 2) → (itW (B_X12_text_w150 a0 I J) 800 ((FI_X12_token  (S3_X12_text a0 I J) J), J)).isSome = true) ∧ (¬ (a0 < 0) → a0 ≤ ((u2 I 130 0 0) 130 2) → ((u2 (S4_X12_text a0 I J) 130 33 (((S4_X12_text a0 I J)) 130 31)) 130 30) = 0 → H_X12_half 132 20 (u2 (S4_X12_text a0 I J) 130 33 (((S4_X12_text a0 I J)) 130 31)) ((F_X12_text_w150 a0 I J ((FI_X12_token  (S3_X12_text a0 I J) J), J)).2)) ∧ (¬ (a0 < 0) → a0 ≤ ((u2 I 130 0 0) 130 2) → ((u2 (S4_X12_text a0 I J) 130 33 (((S4_X12_text a0 I J)) 130 31)) 130 30) = 0 → H_X12_half 133 12 (S5_X12_text a0 I J) ((F_X12_text_w150 a0 I J ((FI_X12_token  (S3_X12_text a0 I J) J), J)).2)) ∧ (¬ (a0 < 0) → a0 ≤ ((u2 I 130 0 0) 130 2) → ((u2 (S4_X12_text a0 I J) 130 33 (((S4_X12_text a0 I J)) 130 31)) 130 30) = 0 → H_X12_half 134 12 (S6_X12_text a0 I J) ((F_X12_text_w150 a0 I J ((FI_X12_token  (S3_X12_text a0 I J) J), J)).2)) ∧ (¬ (a0 < 0) → a0 ≤ ((u2 I 130 0 0) 130 2) → ((u2 (S4_X12_text a0 I J) 130 33 (((S4_X12_text a0 I J)) 130 31)) 130 30) = 0 → H_X12_half 135 12 (S7_X12_text a0 I J) ((F_X12_text_w150 a0 I J ((FI_X12_token  (S3_X12_text a0 I J) J), J)).2)) ∧ (¬ (a0 < 0) → a0 ≤ ((u2 I 130 0 0) 130 2) → ((u2 (S4_X12_text a0 I J) 130 33 (((S4_X12_text a0 I J)) 130 31)) 130 30) = 0 → H_X12_half 136 16 (S8_X12_text a0 I J) ((F_X12_text_w150 a0 I J ((FI_X12_token  (S3_X12_text a0 I J) J), J)).2)) ∧ (¬ (a0 < 0) → a0 ≤ ((u2 I 130 0 0) 130 2) → ((u2 (S4_X12_text a0 I J) 130 33 (((S4_X12_text a0 I J)) 130 31)) 130 30) = 0 → H_X12_half 137 16 (S9_X12_text a0 I J) ((F_X12_text_w150 a0 I J ((FI_X12_token  (S3_X12_text a0 I J) J), J)).2)) ∧ (¬ (a0 < 0) → a0 ≤ ((u2 I 130 0 0) 130 2) → ((u2 (S4_X12_text a0 I J) 130 33 (((S4_X12_text a0 I J)) 130 31)) 130 30) = 0 → H_X12_half 138 16 (S10_X12_text a0 I J) ((F_X12_text_w150 a0 I J ((FI_X12_token  (S3_X12_text a0 I J) J), J)).2)) ∧ (¬ (a0 < 0) → a0 ≤ ((u2 I 130 0 0) 130 2) → ((u2 (S4_X12_text a0 I J) 130 33 (((S4_X12_text a0 I J)) 130 31)) 130 30) = 0 → H_X12_half 139 96 (S11_X12_text a0 I J) ((F_X12_text_w150 a0 I J ((FI_X12_token  (S3_X12_text a0 I J) J), J)).2)) ∧ (¬ (a0 < 0) → a0 ≤ ((u2 I 130 0 0) 130 2) → ((u2 (S4_X12_text a0 I J) 130 33 (((S4_X12_text a0 I J)) 130 31)) 130 30) = 0 → H_X12_half 140 8 (S12_X12_text a0 I J) ((F_X12_text_w150 a0 I J ((FI_X12_token  (S3_X12_text a0 I J) J), J)).2)) ∧ (¬ (a0 < 0) → a0 ≤ ((u2 I 130 0 0) 130 2) → ((u2 (S4_X12_text a0 I J) 130 33 (((S4_X12_text a0 I J)) 130 31)) 130 30) = 0 → H_X12_half 141 8 (S13_X12_text a0 I J) ((F_X12_text_w150 a0 I J ((FI_X12_token  (S3_X12_text a0 I J) J), J)).2)) ∧ (¬ (a0 < 0) → a0 ≤ ((u2 I 130 0 0) 130 2) → ((u2 (S4_X12_text a0 I J) 130 33 (((S4_X12_text a0 I J)) 130 31)) 130 30) = 0 → H_X12_half 142 8 (S14_X12_text a0 I J) ((F_X12_text_w150 a0 I J ((FI_X12_token  (S3_X12_text a0 I J) J), J)).2)) ∧ (¬ (a0 < 0) → a0 ≤ ((u2 I 130 0 0) 130 2) → ((u2 (S4_X12_text a0 I J) 130 33 (((S4_X12_text a0 I J)) 130 31)) 130 30) = 0 → H_X12_half 143 8 (S15_X12_text a0 I J) ((F_X12_text_w150 a0 I J ((FI_X12_token  (S3_X12_text a0 I J) J), J)).2)) ∧ (¬ (a0 < 0) → a0 ≤ ((u2 I 130 0 0) 130 2) → ((u2 (S4_X12_text a0 I J) 130 33 (((S4_X12_text a0 I J)) 130 31)) 130 30) = 0 → H_X12_half 144 8 (S16_X12_text a0 I J) ((F_X12_text_w150 a0 I J ((FI_X12_token  (S3_X12_text a0 I J) J), J)).2)) ∧ (¬ (a0 < 0) → a0 ≤ ((u2 I 130 0 0) 130 2) → ((u2 (S4_X12_text a0 I J) 130 33 (((S4_X12_text a0 I J)) 130 31)) 130 30) = 0 → H_X12_half 145 8 (S17_X12_text a0 I J) ((F_X12_text_w150 a0 I J ((FI_X12_token  (S3_X12_text a0 I J) J), J)).2)) ∧ (¬ (a0 < 0) → a0 ≤ ((u2 I 130 0 0) 130 2) → ((u2 (S4_X12_text a0 I J) 130 33 (((S4_X12_text a0 I J)) 130 31)) 130 30) = 0 → H_X12_half 146 6 (S18_X12_text a0 I J) ((F_X12_text_w150 a0 I J ((FI_X12_token  (S3_X12_text a0 I J) J), J)).2)) ∧ (¬ (a0 < 0) → a0 ≤ ((u2 I 130 0 0) 130 2) → ((u2 (S4_X12_text a0 I J) 130 33 (((S4_X12_text a0 I J)) 130 31)) 130 30) = 0 → H_X12_half 147 6 (S19_X12_text a0 I J) ((F_X12_text_w150 a0 I J ((FI_X12_token  (S3_X12_text a0 I J) J), J)).2)) ∧ (¬ (a0 < 0) → a0 ≤ ((u2 I 130 0 0) 130 2) → ((u2 (S4_X12_text a0 I J) 130 33 (((S4_X12_text a0 I J)) 130 31)) 130 30) = 0 → H_X12_half 148 6 (S20_X12_text a0 I J) ((F_X12_text_w150 a0 I J ((FI_X12_token  (S3_X12_text a0 I J) J), J)).2)) ∧ (¬ (a0 < 0) → a0 ≤ ((u2 I 130 0 0) 130 2) → ((u2 (S4_X12_text a0 I J) 130 33 (((S4_X12_text a0 I J)) 130 31)) 130 30) = 0 → H_X12_half 149 6 (S21_X12_text a0 I J) ((F_X12_text_w150 a0 I J ((FI_X12_token  (S3_X12_text a0 I J) J), J)).2)) ∧ (¬ (a0 < 0) → a0 ≤ ((u2 I 130 0 0) 130 2) → ((u2 (S4_X12_text a0 I J) 130 33 (((S4_X12_text a0 I J)) 130 31)) 130 30) = 0 → H_X12_half 150 128 (S22_X12_text a0 I J) ((F_X12_text_w150 a0 I J ((FI_X12_token  (S3_X12_text a0 I J) J), J)).2)) ∧ (¬ (a0 < 0) → a0 ≤ ((u2 I 130 0 0) 130 2) → ((u2 (S4_X12_text a0 I J) 130 33 (((S4_X12_text a0 I J)) 130 31)) 130 30) = 0 → H_X12_half 151 128 (S23_X12_text a0 I J) ((F_X12_text_w150 a0 I J ((FI_X12_token  (S3_X12_text a0 I J) J), J)).2)) ∧ (¬ (a0 < 0) → a0 ≤ ((u2 I 130 0 0) 130 2) → ((u2 (S4_X12_text a0 I J) 130 33 (((S4_X12_text a0 I J)) 130 31)) 130 30) = 0 → H_X12_begins  (S25_X12_text a0 I J) ((F_X12_text_w150 a0 I J ((FI_X12_token  (S3_X12_text a0 I J) J), J)).2)) ∧ (¬ (a0 < 0) → a0 ≤ ((u2 I 130 0 0) 130 2) → ∀ (n150 : Nat) (s150 : SI × SJ), wN (B_X12_text_w150 a0 I J) n150 ((FI_X12_token  (S3_X12_text a0 I J) J), J) = some s150 → (s150.1 130 30) = 0 → ¬ ((s150.1 130 28) = 4) → H_X12_line  s150.1 s150.2) ∧ (¬ (a0 < 0) → a0 ≤ ((u2 I 130 0 0) 130 2) → ∀ (i100 : Nat) (s100 : SI), i100 < 3 → s100 = itN (B_X12_text_l100 a0 I J) i100 ((F_X12_text_l79 a0 I J ((F_X12_text_l47 a0 I J (S1_X12_text a0 I J))))) → inR (nI (3 + i100)) 6) ∧ (¬ (a0 < 0) → a0 ≤ ((u2 I 130 0 0) 130 2) → ∀ (i79 : Nat) (s79 : SI), i79 < 48 → s79 = itN (B_X12_text_l79 a0 I J) i79 ((F_X12_text_l47 a0 I J (S1_X12_text a0 I J))) → inR (nI (48 + i79)) 96) ∧ (¬ (a0 < 0) → a0 ≤ ((u2 I 130 0 0) 130 2) → ∀ (i47 : Nat) (s47 : SI), i47 < 10 → s47 = itN (B_X12_text_l47 a0 I J) i47 (S1_X12_text a0 I J) → ¬ ((nI i47) = 7) → H_X12_reads (nI i47) 0 s47 J) ∧ (¬ (a0 < 0) → a0 ≤ ((u2 I 130 0 0) 130 2) → ∀ (i47 : Nat) (s47 : SI), i47 < 10 → s47 = itN (B_X12_text_l47 a0 I J) i47 (S1_X12_text a0 I J) → (nI i47) = 7 → H_X12_reads (nI i47) 99 s47 J)
set_option maxHeartbeats 3070000 in
set_option maxRecDepth 40000 in
theorem c_X12_text {I : SI} {J : SJ} {R : SR} {n g : Nat} {f : Fr} (ro : RM R) (hnn : nM ≤ n) (hf : f.1 = false) (a0 : Int32)  (hp : H_X12_text a0 I J) : MM 150 0 0 mX12_text [.ref 130, .int a0] (eI f I) (eJ f J) R n g (Pd (some (.int (F_X12_text a0 I J))) (eI f (FI_X12_text a0 I J)) (eJ f (FJ_X12_text a0 I J)) R n g) := by
  refine MM.of (by decide) (Nat.le_of_ble_eq_true rfl) fun K ok fin => ?_
  show WK K 0 0 0 [(0, .ref 130), (1, .int a0)] [] (eI f I) (eJ f J) R n g
  obtain ⟨hp1, hp2, hp3, hp4, hp5, hp6, hp7, hp8, hp9, hp10, hp11, hp12, hp13, hp14, hp15, hp16, hp17, hp18, hp19, hp20, hp21, hp22, hp23, hp24, hp25, hp26, hp27, hp28⟩ := hp
  refine w_aload_n ok dX12_text_0 0 rfl ?_
  refine w_iconst (v := 0) ok dX12_text_1 (by decide) ?_
  refine y_putI ok dX12_text_2 (fwX12_169 rfl) (congrArg Prod.fst s_130) rfl (ltM hnn (by decide)) (sdm hf (by decide)) ?_
  refine w_iload_n ok dX12_text_5 1 rfl ?_
  refine w_if_lt (tgt := 17) ok dX12_text_6 (by decide) (fun c1 => ?_) (fun c1 => ?_)
  · skip
    refine w_bipush (v := (-2)) ok dX12_text_17 (by decide) ?_
    exact w_iret ok fin dX12_text_19 rfl (by unfold F_X12_text FI_X12_text FJ_X12_text; simp only [if_pos c1]; exact Pd.i)
  · skip
    refine w_iload_n ok dX12_text_9 1 rfl ?_
    refine w_aload_n ok dX12_text_10 0 rfl ?_
    refine y_getI ok dX12_text_11 (fX12_172 rfl) (congrArg Prod.fst s_130) rfl (ltM hnn (by decide)) (sdm hf (by decide)) ?_
    refine w_icmp_le (tgt := 20) ok dX12_text_14 (by decide) (fun c2 => ?_) (fun c2 => ?_)
    · skip
      refine w_aload_n ok dX12_text_20 0 rfl ?_
      refine w_iload_n ok dX12_text_21 1 rfl ?_
      refine y_putI ok dX12_text_22 (fwX12_178 rfl) (congrArg Prod.fst s_130) rfl (ltM hnn (by decide)) (sdm hf (by decide)) ?_
      refine w_aload_n ok dX12_text_25 0 rfl ?_
      refine w_iconst (v := 0) ok dX12_text_26 (by decide) ?_
      refine y_putI ok dX12_text_27 (fwX12_172 rfl) (congrArg Prod.fst s_130) rfl (ltM hnn (by decide)) (sdm hf (by decide)) ?_
      refine w_aload_n ok dX12_text_30 0 rfl ?_
      refine w_iconst (v := 0) ok dX12_text_31 (by decide) ?_
      refine y_putI ok dX12_text_32 (fwX12_175 rfl) (congrArg Prod.fst s_130) rfl (ltM hnn (by decide)) (sdm hf (by decide)) ?_
      refine w_aload_n ok dX12_text_35 0 rfl ?_
      refine w_iconst (v := 0) ok dX12_text_36 (by decide) ?_
      refine y_putI ok dX12_text_37 (fwX12_223 rfl) (congrArg Prod.fst s_130) rfl (ltM hnn (by decide)) (sdm hf (by decide)) ?_
      refine w_aload_n ok dX12_text_40 0 rfl ?_
      refine w_iconst (v := (-1)) ok dX12_text_41 (by decide) ?_
      refine y_putI ok dX12_text_42 (fwX12_226 rfl) (congrArg Prod.fst s_130) rfl (ltM hnn (by decide)) (sdm hf (by decide)) ?_
      show WK K 0 0 45 [(0, .ref 130), (1, .int a0)] [] (eI f (S1_X12_text a0 I J)) (eJ f J) R n g
      refine w_iconst (v := 0) ok dX12_text_45 (by decide) ?_
      refine w_istore_n ok dX12_text_46 rfl (by decide) rfl ?_
      refine w_loc [1, 2, 0] rfl ?_
      refine loop_for (σ := SI) (fun (i47 : Nat) (s47 : SI) => WK K 0 0 47 [(0, .ref 130), (1, .int a0), (2, .int (nI i47))] [] (eI f s47) (eJ f J) R n g) (B_X12_text_l47 a0 I J) (10) ((S1_X12_text a0 I J)) ?_ ?_
      · show WK K 0 0 47 [(0, .ref 130), (1, .int a0), (2, .int (nI 10))] [] (eI f ((F_X12_text_l47 a0 I J (S1_X12_text a0 I J)))) (eJ f J) R n g
        have e3 : (10 : Int32) ≤ (nI 10) := (show nI 10 ≤ nI 10 from nI_le (by omega) (by decide))
        refine w_iload_n ok dX12_text_47 2 rfl ?_
        refine w_bipush (v := 10) ok dX12_text_48 (by decide) ?_
        refine w_icmp_ge (tgt := 76) ok dX12_text_50 (by decide) (fun _ => ?_) (fun h => absurd e3 h)
        refine w_bipush (v := 48) ok dX12_text_76 (by decide) ?_
        refine w_istore_n ok dX12_text_78 rfl (by decide) rfl ?_
        refine w_loc [1, 2, 0] rfl ?_
        refine loop_for (σ := SI) (fun (i79 : Nat) (s79 : SI) => WK K 0 0 79 [(0, .ref 130), (1, .int a0), (2, .int (nI (48 + i79)))] [] (eI f s79) (eJ f J) R n g) (B_X12_text_l79 a0 I J) (48) (((F_X12_text_l47 a0 I J (S1_X12_text a0 I J)))) ?_ ?_
        · show WK K 0 0 79 [(0, .ref 130), (1, .int a0), (2, .int (nI (48 + 48)))] [] (eI f ((F_X12_text_l79 a0 I J ((F_X12_text_l47 a0 I J (S1_X12_text a0 I J)))))) (eJ f J) R n g
          have e4 : (96 : Int32) ≤ (nI (48 + 48)) := (show nI 96 ≤ nI (48 + 48) from nI_le (by omega) (by decide))
          refine w_iload_n ok dX12_text_79 2 rfl ?_
          refine w_bipush (v := 96) ok dX12_text_80 (by decide) ?_
          refine w_icmp_ge (tgt := 98) ok dX12_text_82 (by decide) (fun _ => ?_) (fun h => absurd e4 h)
          refine w_iconst (v := 3) ok dX12_text_98 (by decide) ?_
          refine w_istore_n ok dX12_text_99 rfl (by decide) rfl ?_
          refine w_loc [1, 2, 0] rfl ?_
          refine loop_for (σ := SI) (fun (i100 : Nat) (s100 : SI) => WK K 0 0 100 [(0, .ref 130), (1, .int a0), (2, .int (nI (3 + i100)))] [] (eI f s100) (eJ f J) R n g) (B_X12_text_l100 a0 I J) (3) (((F_X12_text_l79 a0 I J ((F_X12_text_l47 a0 I J (S1_X12_text a0 I J)))))) ?_ ?_
          · show WK K 0 0 100 [(0, .ref 130), (1, .int a0), (2, .int (nI (3 + 3)))] [] (eI f ((F_X12_text_l100 a0 I J ((F_X12_text_l79 a0 I J ((F_X12_text_l47 a0 I J (S1_X12_text a0 I J)))))))) (eJ f J) R n g
            have e5 : (6 : Int32) ≤ (nI (3 + 3)) := (show nI 6 ≤ nI (3 + 3) from nI_le (by omega) (by decide))
            refine w_iload_n ok dX12_text_100 2 rfl ?_
            show WK K 0 0 101 [(0, .ref 130), (1, .int a0), (2, .int (nI (3 + 3)))] [.int (nI (3 + 3))] (eI f (S2_X12_text a0 I J)) (eJ f J) R n g
            refine w_bipush (v := 6) ok dX12_text_101 (by decide) ?_
            refine w_icmp_ge (tgt := 126) ok dX12_text_103 (by decide) (fun _ => ?_) (fun h => absurd e5 h)
            refine w_aload_n ok dX12_text_126 0 rfl ?_
            refine w_iconst (v := 0) ok dX12_text_127 (by decide) ?_
            refine y_putI ok dX12_text_128 (fwX12_250 rfl) (congrArg Prod.fst s_130) rfl (ltM hnn (by decide)) (sdm hf (by decide)) ?_
            refine w_aload_n ok dX12_text_131 0 rfl ?_
            refine w_iconst (v := 0) ok dX12_text_132 (by decide) ?_
            refine y_putI ok dX12_text_133 (fwX12_276 rfl) (congrArg Prod.fst s_130) rfl (ltM hnn (by decide)) (sdm hf (by decide)) ?_
            refine w_aload_n ok dX12_text_136 0 rfl ?_
            refine w_iconst (v := 0) ok dX12_text_137 (by decide) ?_
            refine y_putI ok dX12_text_138 (fwX12_315 rfl) (congrArg Prod.fst s_130) rfl (ltM hnn (by decide)) (sdm hf (by decide)) ?_
            refine w_aload_n ok dX12_text_141 0 rfl ?_
            refine w_iconst (v := 0) ok dX12_text_142 (by decide) ?_
            refine y_putI ok dX12_text_143 (fwX12_288 rfl) (congrArg Prod.fst s_130) rfl (ltM hnn (by decide)) (sdm hf (by decide)) ?_
            show WK K 0 0 146 [(0, .ref 130), (1, .int a0), (2, .int (nI (3 + 3)))] [] (eI f (S3_X12_text a0 I J)) (eJ f J) R n g
            refine w_aload_n ok dX12_text_146 0 rfl ?_
            refine w_cV (As := []) ok dX12_text_147 iX12_token (lX12_229 rfl) (rcv cls12 (congrArg Prod.fst s_130)) (ltM hnn (by decide)) (c_X12_token ro hnn hf   (hp1 c1 c2)) (by decide) rfl (Nat.le_of_ble_eq_true rfl) ?_
            refine loop_w (fun (s150 : SI × SJ) => WK K 0 0 150 [(0, .ref 130), (1, .int a0), (2, .int (nI (3 + 3)))] [] (eI f s150.1) (eJ f s150.2) R n g) (fun (s150 : SI × SJ) => WK K 0 0 172 [(0, .ref 130), (1, .int a0), (2, .int (nI (3 + 3)))] [] (eI f s150.1) (eJ f s150.2) R n g) (B_X12_text_w150 a0 I J) 800 ((FI_X12_token  (S3_X12_text a0 I J) J), J) (F_X12_text_w150 a0 I J ((FI_X12_token  (S3_X12_text a0 I J) J), J)) (itW_some (hp2 c1 c2)) ?_ ?_
            · show WK K 0 0 172 [(0, .ref 130), (1, .int a0), (2, .int (nI (3 + 3)))] [] (eI f ((F_X12_text_w150 a0 I J ((FI_X12_token  (S3_X12_text a0 I J) J), J)).1)) (eJ f ((F_X12_text_w150 a0 I J ((FI_X12_token  (S3_X12_text a0 I J) J), J)).2)) R n g
              refine w_aload_n ok dX12_text_172 0 rfl ?_
              refine w_aload_n ok dX12_text_173 0 rfl ?_
              refine y_getI ok dX12_text_174 (fX12_223 rfl) (congrArg Prod.fst s_130) rfl (ltM hnn (by decide)) (sdm hf (by decide)) ?_
              refine y_putI ok dX12_text_177 (fwX12_321 rfl) (congrArg Prod.fst s_130) rfl (ltM hnn (by decide)) (sdm hf (by decide)) ?_
              show WK K 0 0 180 [(0, .ref 130), (1, .int a0), (2, .int (nI (3 + 3)))] [] (eI f (S4_X12_text a0 I J)) (eJ f ((F_X12_text_w150 a0 I J ((FI_X12_token  (S3_X12_text a0 I J) J), J)).2)) R n g
              refine w_aload_n ok dX12_text_180 0 rfl ?_
              refine w_aload_n ok dX12_text_181 0 rfl ?_
              refine y_getI ok dX12_text_182 (fX12_226 rfl) (congrArg Prod.fst s_130) rfl (ltM hnn (by decide)) (sdm hf (by decide)) ?_
              refine y_putI ok dX12_text_185 (fwX12_73 rfl) (congrArg Prod.fst s_130) rfl (ltM hnn (by decide)) (sdm hf (by decide)) ?_
              refine w_aload_n ok dX12_text_188 0 rfl ?_
              refine y_getI ok dX12_text_189 (fX12_223 rfl) (congrArg Prod.fst s_130) rfl (ltM hnn (by decide)) (sdm hf (by decide)) ?_
              refine w_if_eq (tgt := 197) ok dX12_text_192 (by decide) (fun c6 => ?_) (fun c6 => ?_)
              · skip
                refine w_aload_n ok dX12_text_197 0 rfl ?_
                refine w_getR ok dX12_text_198 (fX12_13 rfl) (congrArg Prod.fst s_130) rfl (r_130_3 ro) (ltM hnn (by decide)) ?_
                refine w_cS (As := [.ref 132]) ok dX12_text_201 iX12_half (lX12_324 rfl) (c_X12_half ro hnn hf  s_132 (ltM hnn (by decide)) (sdm hf (by decide)) (sh_len s_132) (hp3 c1 c2 c6)) (by decide) rfl (Nat.le_of_ble_eq_true rfl) ?_
                show WK K 0 0 204 [(0, .ref 130), (1, .int a0), (2, .int (nI (3 + 3)))] [] (eI f (S5_X12_text a0 I J)) (eJ f ((F_X12_text_w150 a0 I J ((FI_X12_token  (S3_X12_text a0 I J) J), J)).2)) R n g
                refine w_aload_n ok dX12_text_204 0 rfl ?_
                refine w_getR ok dX12_text_205 (fX12_16 rfl) (congrArg Prod.fst s_130) rfl (r_130_4 ro) (ltM hnn (by decide)) ?_
                refine w_cS (As := [.ref 133]) ok dX12_text_208 iX12_half (lX12_324 rfl) (c_X12_half ro hnn hf  s_133 (ltM hnn (by decide)) (sdm hf (by decide)) (sh_len s_133) (hp4 c1 c2 c6)) (by decide) rfl (Nat.le_of_ble_eq_true rfl) ?_
                show WK K 0 0 211 [(0, .ref 130), (1, .int a0), (2, .int (nI (3 + 3)))] [] (eI f (S6_X12_text a0 I J)) (eJ f ((F_X12_text_w150 a0 I J ((FI_X12_token  (S3_X12_text a0 I J) J), J)).2)) R n g
                refine w_aload_n ok dX12_text_211 0 rfl ?_
                refine w_getR ok dX12_text_212 (fX12_19 rfl) (congrArg Prod.fst s_130) rfl (r_130_5 ro) (ltM hnn (by decide)) ?_
                refine w_cS (As := [.ref 134]) ok dX12_text_215 iX12_half (lX12_324 rfl) (c_X12_half ro hnn hf  s_134 (ltM hnn (by decide)) (sdm hf (by decide)) (sh_len s_134) (hp5 c1 c2 c6)) (by decide) rfl (Nat.le_of_ble_eq_true rfl) ?_
                show WK K 0 0 218 [(0, .ref 130), (1, .int a0), (2, .int (nI (3 + 3)))] [] (eI f (S7_X12_text a0 I J)) (eJ f ((F_X12_text_w150 a0 I J ((FI_X12_token  (S3_X12_text a0 I J) J), J)).2)) R n g
                refine w_aload_n ok dX12_text_218 0 rfl ?_
                refine w_getR ok dX12_text_219 (fX12_22 rfl) (congrArg Prod.fst s_130) rfl (r_130_6 ro) (ltM hnn (by decide)) ?_
                refine w_cS (As := [.ref 135]) ok dX12_text_222 iX12_half (lX12_324 rfl) (c_X12_half ro hnn hf  s_135 (ltM hnn (by decide)) (sdm hf (by decide)) (sh_len s_135) (hp6 c1 c2 c6)) (by decide) rfl (Nat.le_of_ble_eq_true rfl) ?_
                show WK K 0 0 225 [(0, .ref 130), (1, .int a0), (2, .int (nI (3 + 3)))] [] (eI f (S8_X12_text a0 I J)) (eJ f ((F_X12_text_w150 a0 I J ((FI_X12_token  (S3_X12_text a0 I J) J), J)).2)) R n g
                refine w_aload_n ok dX12_text_225 0 rfl ?_
                refine w_getR ok dX12_text_226 (fX12_25 rfl) (congrArg Prod.fst s_130) rfl (r_130_7 ro) (ltM hnn (by decide)) ?_
                refine w_cS (As := [.ref 136]) ok dX12_text_229 iX12_half (lX12_324 rfl) (c_X12_half ro hnn hf  s_136 (ltM hnn (by decide)) (sdm hf (by decide)) (sh_len s_136) (hp7 c1 c2 c6)) (by decide) rfl (Nat.le_of_ble_eq_true rfl) ?_
                show WK K 0 0 232 [(0, .ref 130), (1, .int a0), (2, .int (nI (3 + 3)))] [] (eI f (S9_X12_text a0 I J)) (eJ f ((F_X12_text_w150 a0 I J ((FI_X12_token  (S3_X12_text a0 I J) J), J)).2)) R n g
                refine w_aload_n ok dX12_text_232 0 rfl ?_
                refine w_getR ok dX12_text_233 (fX12_28 rfl) (congrArg Prod.fst s_130) rfl (r_130_8 ro) (ltM hnn (by decide)) ?_
                refine w_cS (As := [.ref 137]) ok dX12_text_236 iX12_half (lX12_324 rfl) (c_X12_half ro hnn hf  s_137 (ltM hnn (by decide)) (sdm hf (by decide)) (sh_len s_137) (hp8 c1 c2 c6)) (by decide) rfl (Nat.le_of_ble_eq_true rfl) ?_
                show WK K 0 0 239 [(0, .ref 130), (1, .int a0), (2, .int (nI (3 + 3)))] [] (eI f (S10_X12_text a0 I J)) (eJ f ((F_X12_text_w150 a0 I J ((FI_X12_token  (S3_X12_text a0 I J) J), J)).2)) R n g
                refine w_aload_n ok dX12_text_239 0 rfl ?_
                refine w_getR ok dX12_text_240 (fX12_31 rfl) (congrArg Prod.fst s_130) rfl (r_130_9 ro) (ltM hnn (by decide)) ?_
                refine w_cS (As := [.ref 138]) ok dX12_text_243 iX12_half (lX12_324 rfl) (c_X12_half ro hnn hf  s_138 (ltM hnn (by decide)) (sdm hf (by decide)) (sh_len s_138) (hp9 c1 c2 c6)) (by decide) rfl (Nat.le_of_ble_eq_true rfl) ?_
                show WK K 0 0 246 [(0, .ref 130), (1, .int a0), (2, .int (nI (3 + 3)))] [] (eI f (S11_X12_text a0 I J)) (eJ f ((F_X12_text_w150 a0 I J ((FI_X12_token  (S3_X12_text a0 I J) J), J)).2)) R n g
                refine w_aload_n ok dX12_text_246 0 rfl ?_
                refine w_getR ok dX12_text_247 (fX12_34 rfl) (congrArg Prod.fst s_130) rfl (r_130_10 ro) (ltM hnn (by decide)) ?_
                refine w_cS (As := [.ref 139]) ok dX12_text_250 iX12_half (lX12_324 rfl) (c_X12_half ro hnn hf  s_139 (ltM hnn (by decide)) (sdm hf (by decide)) (sh_len s_139) (hp10 c1 c2 c6)) (by decide) rfl (Nat.le_of_ble_eq_true rfl) ?_
                show WK K 0 0 253 [(0, .ref 130), (1, .int a0), (2, .int (nI (3 + 3)))] [] (eI f (S12_X12_text a0 I J)) (eJ f ((F_X12_text_w150 a0 I J ((FI_X12_token  (S3_X12_text a0 I J) J), J)).2)) R n g
                refine w_aload_n ok dX12_text_253 0 rfl ?_
                refine w_getR ok dX12_text_254 (fX12_37 rfl) (congrArg Prod.fst s_130) rfl (r_130_11 ro) (ltM hnn (by decide)) ?_
                refine w_cS (As := [.ref 140]) ok dX12_text_257 iX12_half (lX12_324 rfl) (c_X12_half ro hnn hf  s_140 (ltM hnn (by decide)) (sdm hf (by decide)) (sh_len s_140) (hp11 c1 c2 c6)) (by decide) rfl (Nat.le_of_ble_eq_true rfl) ?_
                show WK K 0 0 260 [(0, .ref 130), (1, .int a0), (2, .int (nI (3 + 3)))] [] (eI f (S13_X12_text a0 I J)) (eJ f ((F_X12_text_w150 a0 I J ((FI_X12_token  (S3_X12_text a0 I J) J), J)).2)) R n g
                refine w_aload_n ok dX12_text_260 0 rfl ?_
                refine w_getR ok dX12_text_261 (fX12_40 rfl) (congrArg Prod.fst s_130) rfl (r_130_12 ro) (ltM hnn (by decide)) ?_
                refine w_cS (As := [.ref 141]) ok dX12_text_264 iX12_half (lX12_324 rfl) (c_X12_half ro hnn hf  s_141 (ltM hnn (by decide)) (sdm hf (by decide)) (sh_len s_141) (hp12 c1 c2 c6)) (by decide) rfl (Nat.le_of_ble_eq_true rfl) ?_
                show WK K 0 0 267 [(0, .ref 130), (1, .int a0), (2, .int (nI (3 + 3)))] [] (eI f (S14_X12_text a0 I J)) (eJ f ((F_X12_text_w150 a0 I J ((FI_X12_token  (S3_X12_text a0 I J) J), J)).2)) R n g
                refine w_aload_n ok dX12_text_267 0 rfl ?_
                refine w_getR ok dX12_text_268 (fX12_43 rfl) (congrArg Prod.fst s_130) rfl (r_130_13 ro) (ltM hnn (by decide)) ?_
                refine w_cS (As := [.ref 142]) ok dX12_text_271 iX12_half (lX12_324 rfl) (c_X12_half ro hnn hf  s_142 (ltM hnn (by decide)) (sdm hf (by decide)) (sh_len s_142) (hp13 c1 c2 c6)) (by decide) rfl (Nat.le_of_ble_eq_true rfl) ?_
                show WK K 0 0 274 [(0, .ref 130), (1, .int a0), (2, .int (nI (3 + 3)))] [] (eI f (S15_X12_text a0 I J)) (eJ f ((F_X12_text_w150 a0 I J ((FI_X12_token  (S3_X12_text a0 I J) J), J)).2)) R n g
                refine w_aload_n ok dX12_text_274 0 rfl ?_
                refine w_getR ok dX12_text_275 (fX12_46 rfl) (congrArg Prod.fst s_130) rfl (r_130_14 ro) (ltM hnn (by decide)) ?_
                refine w_cS (As := [.ref 143]) ok dX12_text_278 iX12_half (lX12_324 rfl) (c_X12_half ro hnn hf  s_143 (ltM hnn (by decide)) (sdm hf (by decide)) (sh_len s_143) (hp14 c1 c2 c6)) (by decide) rfl (Nat.le_of_ble_eq_true rfl) ?_
                show WK K 0 0 281 [(0, .ref 130), (1, .int a0), (2, .int (nI (3 + 3)))] [] (eI f (S16_X12_text a0 I J)) (eJ f ((F_X12_text_w150 a0 I J ((FI_X12_token  (S3_X12_text a0 I J) J), J)).2)) R n g
                refine w_aload_n ok dX12_text_281 0 rfl ?_
                refine w_getR ok dX12_text_282 (fX12_49 rfl) (congrArg Prod.fst s_130) rfl (r_130_15 ro) (ltM hnn (by decide)) ?_
                refine w_cS (As := [.ref 144]) ok dX12_text_285 iX12_half (lX12_324 rfl) (c_X12_half ro hnn hf  s_144 (ltM hnn (by decide)) (sdm hf (by decide)) (sh_len s_144) (hp15 c1 c2 c6)) (by decide) rfl (Nat.le_of_ble_eq_true rfl) ?_
                show WK K 0 0 288 [(0, .ref 130), (1, .int a0), (2, .int (nI (3 + 3)))] [] (eI f (S17_X12_text a0 I J)) (eJ f ((F_X12_text_w150 a0 I J ((FI_X12_token  (S3_X12_text a0 I J) J), J)).2)) R n g
                refine w_aload_n ok dX12_text_288 0 rfl ?_
                refine w_getR ok dX12_text_289 (fX12_52 rfl) (congrArg Prod.fst s_130) rfl (r_130_16 ro) (ltM hnn (by decide)) ?_
                refine w_cS (As := [.ref 145]) ok dX12_text_292 iX12_half (lX12_324 rfl) (c_X12_half ro hnn hf  s_145 (ltM hnn (by decide)) (sdm hf (by decide)) (sh_len s_145) (hp16 c1 c2 c6)) (by decide) rfl (Nat.le_of_ble_eq_true rfl) ?_
                show WK K 0 0 295 [(0, .ref 130), (1, .int a0), (2, .int (nI (3 + 3)))] [] (eI f (S18_X12_text a0 I J)) (eJ f ((F_X12_text_w150 a0 I J ((FI_X12_token  (S3_X12_text a0 I J) J), J)).2)) R n g
                refine w_aload_n ok dX12_text_295 0 rfl ?_
                refine w_getR ok dX12_text_296 (fX12_55 rfl) (congrArg Prod.fst s_130) rfl (r_130_17 ro) (ltM hnn (by decide)) ?_
                refine w_cS (As := [.ref 146]) ok dX12_text_299 iX12_half (lX12_324 rfl) (c_X12_half ro hnn hf  s_146 (ltM hnn (by decide)) (sdm hf (by decide)) (sh_len s_146) (hp17 c1 c2 c6)) (by decide) rfl (Nat.le_of_ble_eq_true rfl) ?_
                show WK K 0 0 302 [(0, .ref 130), (1, .int a0), (2, .int (nI (3 + 3)))] [] (eI f (S19_X12_text a0 I J)) (eJ f ((F_X12_text_w150 a0 I J ((FI_X12_token  (S3_X12_text a0 I J) J), J)).2)) R n g
                refine w_aload_n ok dX12_text_302 0 rfl ?_
                refine w_getR ok dX12_text_303 (fX12_58 rfl) (congrArg Prod.fst s_130) rfl (r_130_18 ro) (ltM hnn (by decide)) ?_
                refine w_cS (As := [.ref 147]) ok dX12_text_306 iX12_half (lX12_324 rfl) (c_X12_half ro hnn hf  s_147 (ltM hnn (by decide)) (sdm hf (by decide)) (sh_len s_147) (hp18 c1 c2 c6)) (by decide) rfl (Nat.le_of_ble_eq_true rfl) ?_
                show WK K 0 0 309 [(0, .ref 130), (1, .int a0), (2, .int (nI (3 + 3)))] [] (eI f (S20_X12_text a0 I J)) (eJ f ((F_X12_text_w150 a0 I J ((FI_X12_token  (S3_X12_text a0 I J) J), J)).2)) R n g
                refine w_aload_n ok dX12_text_309 0 rfl ?_
                refine w_getR ok dX12_text_310 (fX12_61 rfl) (congrArg Prod.fst s_130) rfl (r_130_19 ro) (ltM hnn (by decide)) ?_
                refine w_cS (As := [.ref 148]) ok dX12_text_313 iX12_half (lX12_324 rfl) (c_X12_half ro hnn hf  s_148 (ltM hnn (by decide)) (sdm hf (by decide)) (sh_len s_148) (hp19 c1 c2 c6)) (by decide) rfl (Nat.le_of_ble_eq_true rfl) ?_
                show WK K 0 0 316 [(0, .ref 130), (1, .int a0), (2, .int (nI (3 + 3)))] [] (eI f (S21_X12_text a0 I J)) (eJ f ((F_X12_text_w150 a0 I J ((FI_X12_token  (S3_X12_text a0 I J) J), J)).2)) R n g
                refine w_aload_n ok dX12_text_316 0 rfl ?_
                refine w_getR ok dX12_text_317 (fX12_64 rfl) (congrArg Prod.fst s_130) rfl (r_130_20 ro) (ltM hnn (by decide)) ?_
                refine w_cS (As := [.ref 149]) ok dX12_text_320 iX12_half (lX12_324 rfl) (c_X12_half ro hnn hf  s_149 (ltM hnn (by decide)) (sdm hf (by decide)) (sh_len s_149) (hp20 c1 c2 c6)) (by decide) rfl (Nat.le_of_ble_eq_true rfl) ?_
                show WK K 0 0 323 [(0, .ref 130), (1, .int a0), (2, .int (nI (3 + 3)))] [] (eI f (S22_X12_text a0 I J)) (eJ f ((F_X12_text_w150 a0 I J ((FI_X12_token  (S3_X12_text a0 I J) J), J)).2)) R n g
                refine w_aload_n ok dX12_text_323 0 rfl ?_
                refine w_getR ok dX12_text_324 (fX12_67 rfl) (congrArg Prod.fst s_130) rfl (r_130_21 ro) (ltM hnn (by decide)) ?_
                refine w_cS (As := [.ref 150]) ok dX12_text_327 iX12_half (lX12_324 rfl) (c_X12_half ro hnn hf  s_150 (ltM hnn (by decide)) (sdm hf (by decide)) (sh_len s_150) (hp21 c1 c2 c6)) (by decide) rfl (Nat.le_of_ble_eq_true rfl) ?_
                show WK K 0 0 330 [(0, .ref 130), (1, .int a0), (2, .int (nI (3 + 3)))] [] (eI f (S23_X12_text a0 I J)) (eJ f ((F_X12_text_w150 a0 I J ((FI_X12_token  (S3_X12_text a0 I J) J), J)).2)) R n g
                refine w_aload_n ok dX12_text_330 0 rfl ?_
                refine w_getR ok dX12_text_331 (fX12_70 rfl) (congrArg Prod.fst s_130) rfl (r_130_22 ro) (ltM hnn (by decide)) ?_
                refine w_cS (As := [.ref 151]) ok dX12_text_334 iX12_half (lX12_324 rfl) (c_X12_half ro hnn hf  s_151 (ltM hnn (by decide)) (sdm hf (by decide)) (sh_len s_151) (hp22 c1 c2 c6)) (by decide) rfl (Nat.le_of_ble_eq_true rfl) ?_
                show WK K 0 0 337 [(0, .ref 130), (1, .int a0), (2, .int (nI (3 + 3)))] [] (eI f (S24_X12_text a0 I J)) (eJ f ((F_X12_text_w150 a0 I J ((FI_X12_token  (S3_X12_text a0 I J) J), J)).2)) R n g
                refine w_aload_n ok dX12_text_337 0 rfl ?_
                refine w_iconst (v := 0) ok dX12_text_338 (by decide) ?_
                refine y_putI ok dX12_text_339 (fwX12_328 rfl) (congrArg Prod.fst s_130) rfl (ltM hnn (by decide)) (sdm hf (by decide)) ?_
                refine w_aload_n ok dX12_text_342 0 rfl ?_
                refine w_iconst (v := (-1)) ok dX12_text_343 (by decide) ?_
                refine y_putI ok dX12_text_344 (fwX12_147 rfl) (congrArg Prod.fst s_130) rfl (ltM hnn (by decide)) (sdm hf (by decide)) ?_
                refine w_aload_n ok dX12_text_347 0 rfl ?_
                refine w_iconst (v := 0) ok dX12_text_348 (by decide) ?_
                refine y_putZ ok dX12_text_349 (fwX12_331 rfl) (congrArg Prod.fst s_130) rfl (by decide) (ltM hnn (by decide)) (sdm hf (by decide)) ?_
                refine w_aload_n ok dX12_text_352 0 rfl ?_
                refine w_iconst (v := 0) ok dX12_text_353 (by decide) ?_
                refine y_putI ok dX12_text_354 (fwX12_335 rfl) (congrArg Prod.fst s_130) rfl (ltM hnn (by decide)) (sdm hf (by decide)) ?_
                show WK K 0 0 357 [(0, .ref 130), (1, .int a0), (2, .int (nI (3 + 3)))] [] (eI f (S25_X12_text a0 I J)) (eJ f ((F_X12_text_w150 a0 I J ((FI_X12_token  (S3_X12_text a0 I J) J), J)).2)) R n g
                refine w_aload_n ok dX12_text_357 0 rfl ?_
                refine w_cV (As := []) ok dX12_text_358 iX12_begins (lX12_166 rfl) (rcv cls12 (congrArg Prod.fst s_130)) (ltM hnn (by decide)) (c_X12_begins ro hnn hf   (hp23 c1 c2 c6)) (by decide) rfl (Nat.le_of_ble_eq_true rfl) ?_
                show WK K 0 0 361 [(0, .ref 130), (1, .int a0), (2, .int (nI (3 + 3)))] [] (eI f (S26_X12_text a0 I J)) (eJ f ((F_X12_text_w150 a0 I J ((FI_X12_token  (S3_X12_text a0 I J) J), J)).2)) R n g
                refine w_aload_n ok dX12_text_361 0 rfl ?_
                refine y_getI ok dX12_text_362 (fX12_276 rfl) (congrArg Prod.fst s_130) rfl (ltM hnn (by decide)) (sdm hf (by decide)) ?_
                exact w_iret ok fin dX12_text_365 rfl (by unfold F_X12_text FI_X12_text FJ_X12_text; simp only [if_neg c1]; simp only [if_pos c2]; simp only [if_pos c6]; exact Pd.i)
              · skip
                refine w_iconst (v := (-1)) ok dX12_text_195 (by decide) ?_
                exact w_iret ok fin dX12_text_196 rfl (by unfold F_X12_text FI_X12_text FJ_X12_text; simp only [if_neg c1]; simp only [if_pos c2]; simp only [if_neg c6]; exact Pd.i)
            · intro n150 s150 hs150 kc150 kx150
              show WK K 0 0 150 [(0, .ref 130), (1, .int a0), (2, .int (nI (3 + 3)))] [] (eI f s150.1) (eJ f s150.2) R n g
              refine w_aload_n ok dX12_text_150 0 rfl ?_
              refine y_getI ok dX12_text_151 (fX12_223 rfl) (congrArg Prod.fst s_130) rfl (ltM hnn (by decide)) (sdm hf (by decide)) ?_
              refine w_if_ne (tgt := 172) ok dX12_text_154 (by decide) (fun c7 => ?_) (fun c7 => ?_)
              · skip
                have eB : B_X12_text_w150 a0 I J s150 = .inr (s150.1, s150.2) := by
                  unfold B_X12_text_w150; exact (if_neg c7).trans (rfl)
                refine w_loc [0, 1, 2] rfl ?_
                have kk := kx150 _ eB
                exact kk
              · skip
                refine w_aload_n ok dX12_text_157 0 rfl ?_
                refine y_getI ok dX12_text_158 (fX12_188 rfl) (congrArg Prod.fst s_130) rfl (ltM hnn (by decide)) (sdm hf (by decide)) ?_
                refine w_iconst (v := 4) ok dX12_text_161 (by decide) ?_
                refine w_icmp_eq (tgt := 172) ok dX12_text_162 (by decide) (fun c8 => ?_) (fun c8 => ?_)
                · skip
                  have eB : B_X12_text_w150 a0 I J s150 = .inr (s150.1, s150.2) := by
                    unfold B_X12_text_w150; exact (if_pos c7).trans ((if_pos c8).trans (rfl))
                  refine w_loc [0, 1, 2] rfl ?_
                  have kk := kx150 _ eB
                  exact kk
                · skip
                  refine w_aload_n ok dX12_text_165 0 rfl ?_
                  refine w_cV (As := []) ok dX12_text_166 iX12_line (lX12_318 rfl) (rcv cls12 (congrArg Prod.fst s_130)) (ltM hnn (by decide)) (c_X12_line ro hnn hf   (hp24 c1 c2 n150 s150 hs150 c7 c8)) (by decide) rfl (Nat.le_of_ble_eq_true rfl) ?_
                  refine w_goto (tgt := 150) ok dX12_text_169 (by decide) ?_
                  have eB : B_X12_text_w150 a0 I J s150 = .inl ((FI_X12_line  s150.1 s150.2), (FJ_X12_line  s150.1 s150.2)) := by
                    unfold B_X12_text_w150; exact (if_pos c7).trans ((if_neg c8).trans (rfl))
                  refine w_loc [0, 1, 2] rfl ?_
                  have kk := kc150 _ eB
                  exact kk
          · intro i100 s100 hi100 hs100 k100
            show WK K 0 0 100 [(0, .ref 130), (1, .int a0), (2, .int (nI (3 + i100)))] [] (eI f s100) (eJ f J) R n g
            have e9 : ¬ ((6 : Int32) ≤ (nI (3 + i100))) := (show ¬ (nI 6 ≤ nI (3 + i100)) from nI_ge (by omega) (by decide))
            refine w_iload_n ok dX12_text_100 2 rfl ?_
            refine w_bipush (v := 6) ok dX12_text_101 (by decide) ?_
            refine w_icmp_ge (tgt := 126) ok dX12_text_103 (by decide) (fun h => absurd h e9) (fun _ => ?_)
            refine w_aload_n ok dX12_text_106 0 rfl ?_
            refine w_getR ok dX12_text_107 (fX12_61 rfl) (congrArg Prod.fst s_130) rfl (r_130_19 ro) (ltM hnn (by decide)) ?_
            refine w_iload_n ok dX12_text_110 2 rfl ?_
            refine w_iconst (v := 0) ok dX12_text_111 (by decide) ?_
            refine y_iast (q := (nI (3 + i100)).toNatClampNeg) ok dX12_text_112 s_148 (hp25 c1 c2 i100 s100 hi100 hs100) (by decide) (ltM hnn (by decide)) (sdm hf (by decide)) ?_
            refine w_aload_n ok dX12_text_113 0 rfl ?_
            refine w_getR ok dX12_text_114 (fX12_64 rfl) (congrArg Prod.fst s_130) rfl (r_130_20 ro) (ltM hnn (by decide)) ?_
            refine w_iload_n ok dX12_text_117 2 rfl ?_
            refine w_iconst (v := 0) ok dX12_text_118 (by decide) ?_
            refine y_iast (q := (nI (3 + i100)).toNatClampNeg) ok dX12_text_119 s_149 (hp25 c1 c2 i100 s100 hi100 hs100) (by decide) (ltM hnn (by decide)) (sdm hf (by decide)) ?_
            show WK K 0 0 120 [(0, .ref 130), (1, .int a0), (2, .int (nI (3 + i100)))] [] (eI f (S27_X12_text a0 I J i100 s100)) (eJ f J) R n g
            refine w_iinc (v := (nI (3 + i100)) + 1) ok dX12_text_120 2 rfl rfl (by decide) rfl ?_
            refine w_goto (tgt := 100) ok dX12_text_123 (by decide) ?_
            have eB : B_X12_text_l100 a0 I J i100 s100 = (S27_X12_text a0 I J i100 s100) := by
              unfold B_X12_text_l100; exact rfl
            have kk := k100
            rw [eB] at kk
            refine w_loc [1, 2, 0] rfl ?_
            rw [show nI (3 + i100) + 1 = nI (3 + (i100 + 1)) from nI_1 _]
            exact kk
        · intro i79 s79 hi79 hs79 k79
          show WK K 0 0 79 [(0, .ref 130), (1, .int a0), (2, .int (nI (48 + i79)))] [] (eI f s79) (eJ f J) R n g
          have e10 : ¬ ((96 : Int32) ≤ (nI (48 + i79))) := (show ¬ (nI 96 ≤ nI (48 + i79)) from nI_ge (by omega) (by decide))
          refine w_iload_n ok dX12_text_79 2 rfl ?_
          refine w_bipush (v := 96) ok dX12_text_80 (by decide) ?_
          refine w_icmp_ge (tgt := 98) ok dX12_text_82 (by decide) (fun h => absurd h e10) (fun _ => ?_)
          refine w_aload_n ok dX12_text_85 0 rfl ?_
          refine w_getR ok dX12_text_86 (fX12_34 rfl) (congrArg Prod.fst s_130) rfl (r_130_10 ro) (ltM hnn (by decide)) ?_
          refine w_iload_n ok dX12_text_89 2 rfl ?_
          refine w_iconst (v := (-1)) ok dX12_text_90 (by decide) ?_
          refine y_iast (q := (nI (48 + i79)).toNatClampNeg) ok dX12_text_91 s_139 (hp26 c1 c2 i79 s79 hi79 hs79) (by decide) (ltM hnn (by decide)) (sdm hf (by decide)) ?_
          refine w_iinc (v := (nI (48 + i79)) + 1) ok dX12_text_92 2 rfl rfl (by decide) rfl ?_
          refine w_goto (tgt := 79) ok dX12_text_95 (by decide) ?_
          have eB : B_X12_text_l79 a0 I J i79 s79 = (u2 s79 139 (nI (48 + i79)).toNatClampNeg (-1)) := by
            unfold B_X12_text_l79; exact rfl
          have kk := k79
          rw [eB] at kk
          refine w_loc [1, 2, 0] rfl ?_
          rw [show nI (48 + i79) + 1 = nI (48 + (i79 + 1)) from nI_1 _]
          exact kk
      · intro i47 s47 hi47 hs47 k47
        show WK K 0 0 47 [(0, .ref 130), (1, .int a0), (2, .int (nI i47))] [] (eI f s47) (eJ f J) R n g
        have e11 : ¬ ((10 : Int32) ≤ (nI i47)) := (show ¬ (nI 10 ≤ nI i47) from nI_ge (by omega) (by decide))
        refine w_iload_n ok dX12_text_47 2 rfl ?_
        refine w_bipush (v := 10) ok dX12_text_48 (by decide) ?_
        refine w_icmp_ge (tgt := 76) ok dX12_text_50 (by decide) (fun h => absurd h e11) (fun _ => ?_)
        refine w_aload_n ok dX12_text_53 0 rfl ?_
        refine w_iload_n ok dX12_text_54 2 rfl ?_
        refine w_iload_n ok dX12_text_55 2 rfl ?_
        refine w_bipush (v := 7) ok dX12_text_56 (by decide) ?_
        refine w_icmp_ne (tgt := 66) ok dX12_text_58 (by decide) (fun c12 => ?_) (fun c12 => ?_)
        · skip
          refine w_iconst (v := 0) ok dX12_text_66 (by decide) ?_
          refine w_cV (As := [.int (nI i47), .int 0]) ok dX12_text_67 iX12_reads (lX12_260 rfl) (rcv cls12 (congrArg Prod.fst s_130)) (ltM hnn (by decide)) (c_X12_reads ro hnn hf (nI i47) 0  (hp27 c1 c2 i47 s47 hi47 hs47 c12)) (by decide) rfl (Nat.le_of_ble_eq_true rfl) ?_
          refine w_iinc (v := (nI i47) + 1) ok dX12_text_70 2 rfl rfl (by decide) rfl ?_
          refine w_goto (tgt := 47) ok dX12_text_73 (by decide) ?_
          have eB : B_X12_text_l47 a0 I J i47 s47 = (FI_X12_reads (nI i47) 0 s47 J) := by
            unfold B_X12_text_l47; exact (if_neg c12).trans (rfl)
          have kk := k47
          rw [eB] at kk
          refine w_loc [1, 2, 0] rfl ?_
          rw [nI_1 i47]
          exact kk
        · skip
          refine w_bipush (v := 99) ok dX12_text_61 (by decide) ?_
          refine w_goto (tgt := 67) ok dX12_text_63 (by decide) ?_
          refine w_cV (As := [.int (nI i47), .int 99]) ok dX12_text_67 iX12_reads (lX12_260 rfl) (rcv cls12 (congrArg Prod.fst s_130)) (ltM hnn (by decide)) (c_X12_reads ro hnn hf (nI i47) 99  (hp28 c1 c2 i47 s47 hi47 hs47 c12)) (by decide) rfl (Nat.le_of_ble_eq_true rfl) ?_
          refine w_iinc (v := (nI i47) + 1) ok dX12_text_70 2 rfl rfl (by decide) rfl ?_
          refine w_goto (tgt := 47) ok dX12_text_73 (by decide) ?_
          have eB : B_X12_text_l47 a0 I J i47 s47 = (FI_X12_reads (nI i47) 99 s47 J) := by
            unfold B_X12_text_l47; exact (if_pos c12).trans (rfl)
          have kk := k47
          rw [eB] at kk
          refine w_loc [1, 2, 0] rfl ?_
          rw [nI_1 i47]
          exact kk
    · skip
      refine w_bipush (v := (-2)) ok dX12_text_17 (by decide) ?_
      exact w_iret ok fin dX12_text_19 rfl (by unfold F_X12_text FI_X12_text FJ_X12_text; simp only [if_neg c1]; simp only [if_neg c2]; exact Pd.i)
