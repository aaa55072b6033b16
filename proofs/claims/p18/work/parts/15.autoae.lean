def H_X12_found (a0 : Nat) (la0 : Nat) (a1 : Int32) (a2 : Int32) (a3 : Int32) (I : SI) (J : SJ) : Prop := (∀ (i3 : Nat) (s3 : Unit), i3 < a2.toNatClampNeg → itE (B_X12_found_l3 a0 la0 a1 a2 a3 I J) i3 0 () = .inl s3 → inR (a1 + (nI i3)) la0)
set_option maxHeartbeats 1000000 in
set_option maxRecDepth 40000 in
theorem c_X12_found {I : SI} {J : SJ} {R : SR} {n g : Nat} {f : Fr} (ro : RM R) (hnn : nM ≤ n) (hf : f.1 = false) {a0 : Nat} {la0 : Nat} (a1 : Int32) (a2 : Int32) (a3 : Int32) (hsa0 : SH a0 = (14, la0)) (hka0 : a0 < n) (hda0 : sd f a0) (hlen : la0 < 2 ^ 31)  (hp : H_X12_found a0 la0 a1 a2 a3 I J) : MM 0 0 0 mX12_found [.ref a0, .int a1, .int a2, .int a3] (eI f I) (eJ f J) R n g (Pd (some (.int (F_X12_found a0 la0 a1 a2 a3 I J))) (eI f I) (eJ f J) R n g) := by
  refine MM.of (by decide) (Nat.le_of_ble_eq_true rfl) fun K ok fin => ?_
  show WK K 0 0 0 [(0, .ref a0), (1, .int a1), (2, .int a2), (3, .int a3)] [] (eI f I) (eJ f J) R n g
  have hp1 := hp
  refine w_iconst (v := 0) ok dX12_found_0 (by decide) ?_
  refine w_istore ok dX12_found_1 (by decide) rfl ?_
  refine w_loc [1, 2, 3, 4, 0] rfl ?_
  refine loop_e (σ := Unit) (ρ := Int32) (fun (i3 : Nat) (s3 : Unit) => WK K 0 0 3 [(0, .ref a0), (1, .int a1), (2, .int a2), (3, .int a3), (4, .int (nI i3))] [] (eI f I) (eJ f J) R n g) (B_X12_found_l3 a0 la0 a1 a2 a3 I J) (a2.toNatClampNeg) (()) ?_ ?_
  · intro se3 he3
    have he3 : (F_X12_found_l3 a0 la0 a1 a2 a3 I J ()) = .inl se3 := he3
    show WK K 0 0 3 [(0, .ref a0), (1, .int a1), (2, .int a2), (3, .int a3), (4, .int (nI a2.toNatClampNeg))] [] (eI f I) (eJ f J) R n g
    have e1 : a2 ≤ (nI a2.toNatClampNeg) := cnt_ge _
    refine w_iload ok dX12_found_3 4 rfl ?_
    refine w_iload_n ok dX12_found_5 2 rfl ?_
    refine w_icmp_ge (tgt := 28) ok dX12_found_6 (by decide) (fun _ => ?_) (fun h => absurd e1 h)
    refine w_iconst (v := (-1)) ok dX12_found_28 (by decide) ?_
    exact w_iret ok fin dX12_found_29 rfl (by unfold F_X12_found; simp only [he3]; exact Pd.i)
  · intro i3 s3 hi3 hs3 k3 kr3
    show WK K 0 0 3 [(0, .ref a0), (1, .int a1), (2, .int a2), (3, .int a3), (4, .int (nI i3))] [] (eI f I) (eJ f J) R n g
    have e2 : ¬ (a2 ≤ (nI i3)) := cnt_lt hi3
    refine w_iload ok dX12_found_3 4 rfl ?_
    refine w_iload_n ok dX12_found_5 2 rfl ?_
    refine w_icmp_ge (tgt := 28) ok dX12_found_6 (by decide) (fun h => absurd h e2) (fun _ => ?_)
    refine w_aload_n ok dX12_found_9 0 rfl ?_
    refine w_iload_n ok dX12_found_10 1 rfl ?_
    refine w_iload ok dX12_found_11 4 rfl ?_
    refine w_iadd ok dX12_found_13 ?_
    refine y_iald (q := (a1 + (nI i3)).toNatClampNeg) ok dX12_found_14 hsa0 (hp1 i3 s3 hi3 hs3) hlen hka0 hda0 ?_
    refine w_iload_n ok dX12_found_15 3 rfl ?_
    refine w_icmp_ne (tgt := 22) ok dX12_found_16 (by decide) (fun c3 => ?_) (fun c3 => ?_)
    · skip
      refine w_iinc (v := (nI i3) + 1) ok dX12_found_22 4 rfl rfl (by decide) rfl ?_
      refine w_goto (tgt := 3) ok dX12_found_25 (by decide) ?_
      have eB : B_X12_found_l3 a0 la0 a1 a2 a3 I J i3 s3 = .inl () := by
        unfold B_X12_found_l3; exact (if_neg c3).trans (rfl)
      have kk := k3 _ eB
      refine w_loc [1, 2, 3, 4, 0] rfl ?_
      rw [nI_1 i3]
      exact kk
    · skip
      refine w_iload ok dX12_found_19 4 rfl ?_
      have eB : B_X12_found_l3 a0 la0 a1 a2 a3 I J i3 s3 = .inr (nI i3) := by
        unfold B_X12_found_l3; exact (if_pos c3).trans (rfl)
      have hr : (F_X12_found_l3 a0 la0 a1 a2 a3 I J ()) = .inr (nI i3) := kr3 _ eB
      exact w_iret ok fin dX12_found_21 rfl (by unfold F_X12_found; simp only [hr]; exact Pd.i)
def F_X12_fresher (a0 : Int32) (I : SI) (J : SJ) : Int32 := I 132 ((10 : Int32) + a0).toNatClampNeg
def H_X12_fresher (a0 : Int32) (I : SI) (J : SJ) : Prop := (inR ((10 : Int32) + a0) 20)
set_option maxHeartbeats 1000000 in
set_option maxRecDepth 40000 in
theorem c_X12_fresher {I : SI} {J : SJ} {R : SR} {n g : Nat} {f : Fr} (ro : RM R) (hnn : nM ≤ n) (hf : f.1 = false) (a0 : Int32)  (hp : H_X12_fresher a0 I J) : MM 0 0 0 mX12_fresher [.ref 130, .int a0] (eI f I) (eJ f J) R n g (Pd (some (.int (F_X12_fresher a0 I J))) (eI f I) (eJ f J) R n g) := by
  refine MM.of (by decide) (Nat.le_of_ble_eq_true rfl) fun K ok fin => ?_
  show WK K 0 0 0 [(0, .ref 130), (1, .int a0)] [] (eI f I) (eJ f J) R n g
  have hp1 := hp
  refine w_aload_n ok dX12_fresher_0 0 rfl ?_
  refine w_getR ok dX12_fresher_1 (fX12_13 rfl) (congrArg Prod.fst s_130) rfl (r_130_3 ro) (ltM hnn (by decide)) ?_
  refine w_bipush (v := 10) ok dX12_fresher_4 (by decide) ?_
  refine w_iload_n ok dX12_fresher_6 1 rfl ?_
  refine w_iadd ok dX12_fresher_7 ?_
  refine y_iald (q := ((10 : Int32) + a0).toNatClampNeg) ok dX12_fresher_8 s_132 (hp1) (by decide) (ltM hnn (by decide)) (sdm hf (by decide)) ?_
  exact w_iret ok fin dX12_fresher_9 rfl (by unfold F_X12_fresher; exact Pd.i)
def FI_X12_reads (a0 : Int32) (a1 : Int32) (I : SI) (J : SJ) : SI := u2 I 132 ((10 : Int32) + a0).toNatClampNeg a1
def H_X12_reads (a0 : Int32) (a1 : Int32) (I : SI) (J : SJ) : Prop := (inR ((10 : Int32) + a0) 20)
set_option maxHeartbeats 1000000 in
set_option maxRecDepth 40000 in
theorem c_X12_reads {I : SI} {J : SJ} {R : SR} {n g : Nat} {f : Fr} (ro : RM R) (hnn : nM ≤ n) (hf : f.1 = false) (a0 : Int32) (a1 : Int32)  (hp : H_X12_reads a0 a1 I J) : MM 0 0 0 mX12_reads [.ref 130, .int a0, .int a1] (eI f I) (eJ f J) R n g (Pd none (eI f (FI_X12_reads a0 a1 I J)) (eJ f J) R n g) := by
  refine MM.of (by decide) (Nat.le_of_ble_eq_true rfl) fun K ok fin => ?_
  show WK K 0 0 0 [(0, .ref 130), (1, .int a0), (2, .int a1)] [] (eI f I) (eJ f J) R n g
  have hp1 := hp
  refine w_aload_n ok dX12_reads_0 0 rfl ?_
  refine w_getR ok dX12_reads_1 (fX12_13 rfl) (congrArg Prod.fst s_130) rfl (r_130_3 ro) (ltM hnn (by decide)) ?_
  refine w_bipush (v := 10) ok dX12_reads_4 (by decide) ?_
  refine w_iload_n ok dX12_reads_6 1 rfl ?_
  refine w_iadd ok dX12_reads_7 ?_
  refine w_iload_n ok dX12_reads_8 2 rfl ?_
  refine y_iast (q := ((10 : Int32) + a0).toNatClampNeg) ok dX12_reads_9 s_132 (hp1) (by decide) (ltM hnn (by decide)) (sdm hf (by decide)) ?_
  exact w_vret ok fin dX12_reads_10 rfl (by unfold FI_X12_reads; exact Pd.i)
def T_X12_atHand_j44 (a0 : Nat) (la0 : Nat) (a1 : Int32) (a2 : Int32) (I : SI) (J : SJ) : SI := if (I 130 28) = 1 then (if (F_X12_found a0 la0 a1 a2 (I 130 29) I J) = (-1) then (FI_X12_wrong 4 I J) else I) else (FI_X12_wrong 1 I J)
def S1_X12_atHand (a0 : Nat) (la0 : Nat) (a1 : Int32) (a2 : Int32) (I : SI) (J : SJ) : Int32 := F_X12_found a0 la0 a1 a2 (((T_X12_atHand_j44 a0 la0 a1 a2 I J)) 130 29) (T_X12_atHand_j44 a0 la0 a1 a2 I J) J
def F_X12_atHand (a0 : Nat) (la0 : Nat) (a1 : Int32) (a2 : Int32) (I : SI) (J : SJ) : Int32 := if (I 130 30) = 0 then (if (((T_X12_atHand_j44 a0 la0 a1 a2 I J)) 130 30) = 0 then (S1_X12_atHand a0 la0 a1 a2 I J) else 0) else 0
def FI_X12_atHand (a0 : Nat) (la0 : Nat) (a1 : Int32) (a2 : Int32) (I : SI) (J : SJ) : SI := if (I 130 30) = 0 then (if (((T_X12_atHand_j44 a0 la0 a1 a2 I J)) 130 30) = 0 then (T_X12_atHand_j44 a0 la0 a1 a2 I J) else (T_X12_atHand_j44 a0 la0 a1 a2 I J)) else I
def H_X12_atHand (a0 : Nat) (la0 : Nat) (a1 : Int32) (a2 : Int32) (I : SI) (J : SJ) : Prop := ((I 130 30) = 0 → (((T_X12_atHand_j44 a0 la0 a1 a2 I J)) 130 30) = 0 → H_X12_found a0 la0 a1 a2 (((T_X12_atHand_j44 a0 la0 a1 a2 I J)) 130 29) (T_X12_atHand_j44 a0 la0 a1 a2 I J) J) ∧ ((I 130 30) = 0 → (I 130 28) = 1 → H_X12_found a0 la0 a1 a2 (I 130 29) I J)
set_option maxHeartbeats 1000000 in
set_option maxRecDepth 40000 in
theorem c_X12_atHand {I : SI} {J : SJ} {R : SR} {n g : Nat} {f : Fr} (ro : RM R) (hnn : nM ≤ n) (hf : f.1 = false) {a0 : Nat} {la0 : Nat} (a1 : Int32) (a2 : Int32) (hsa0 : SH a0 = (14, la0)) (hka0 : a0 < n) (hda0 : sd f a0) (hlen : la0 < 2 ^ 31)  (hp : H_X12_atHand a0 la0 a1 a2 I J) : MM 1 0 0 mX12_atHand [.ref 130, .ref a0, .int a1, .int a2] (eI f I) (eJ f J) R n g (Pd (some (.int (F_X12_atHand a0 la0 a1 a2 I J))) (eI f (FI_X12_atHand a0 la0 a1 a2 I J)) (eJ f J) R n g) := by
  refine MM.of (by decide) (Nat.le_of_ble_eq_true rfl) fun K ok fin => ?_
  show WK K 0 0 0 [(0, .ref 130), (1, .ref a0), (2, .int a1), (3, .int a2)] [] (eI f I) (eJ f J) R n g
  obtain ⟨hp1, hp2⟩ := hp
  refine w_aload_n ok dX12_atHand_0 0 rfl ?_
  refine y_getI ok dX12_atHand_1 (fX12_223 rfl) (congrArg Prod.fst s_130) rfl (ltM hnn (by decide)) (sdm hf (by decide)) ?_
  refine w_if_eq (tgt := 9) ok dX12_atHand_4 (by decide) (fun c1 => ?_) (fun c1 => ?_)
  · skip
    refine w_aload_n ok dX12_atHand_9 0 rfl ?_
    refine y_getI ok dX12_atHand_10 (fX12_188 rfl) (congrArg Prod.fst s_130) rfl (ltM hnn (by decide)) (sdm hf (by decide)) ?_
    refine w_iconst (v := 1) ok dX12_atHand_13 (by decide) ?_
    have jn2 : WK K 0 0 44 [(0, .ref 130), (1, .ref a0), (2, .int a1), (3, .int a2)] [] (eI f (T_X12_atHand_j44 a0 la0 a1 a2 I J)) (eJ f J) R n g := by
      refine w_aload_n ok dX12_atHand_44 0 rfl ?_
      refine y_getI ok dX12_atHand_45 (fX12_223 rfl) (congrArg Prod.fst s_130) rfl (ltM hnn (by decide)) (sdm hf (by decide)) ?_
      refine w_if_eq (tgt := 55) ok dX12_atHand_48 (by decide) (fun c3 => ?_) (fun c3 => ?_)
      · skip
        refine w_aload_n ok dX12_atHand_55 1 rfl ?_
        refine w_iload_n ok dX12_atHand_56 2 rfl ?_
        refine w_iload_n ok dX12_atHand_57 3 rfl ?_
        refine w_aload_n ok dX12_atHand_58 0 rfl ?_
        refine y_getI ok dX12_atHand_59 (fX12_198 rfl) (congrArg Prod.fst s_130) rfl (ltM hnn (by decide)) (sdm hf (by decide)) ?_
        refine w_cS (As := [.ref a0, .int a1, .int a2, .int (((T_X12_atHand_j44 a0 la0 a1 a2 I J)) 130 29)]) ok dX12_atHand_62 iX12_found (lX12_235 rfl) (c_X12_found ro hnn hf a1 a2 (((T_X12_atHand_j44 a0 la0 a1 a2 I J)) 130 29) hsa0 hka0 hda0 (sh_len hsa0) (hp1 c1 c3)) (by decide) rfl (Nat.le_of_ble_eq_true rfl) ?_
        show WK K 0 0 65 [(0, .ref 130), (1, .ref a0), (2, .int a1), (3, .int a2)] [.int (S1_X12_atHand a0 la0 a1 a2 I J)] (eI f (T_X12_atHand_j44 a0 la0 a1 a2 I J)) (eJ f J) R n g
        exact w_iret ok fin dX12_atHand_65 rfl (by unfold F_X12_atHand FI_X12_atHand; simp only [if_pos c1]; simp only [if_pos c3]; exact Pd.i)
      · skip
        refine w_iconst (v := 0) ok dX12_atHand_51 (by decide) ?_
        refine w_goto (tgt := 65) ok dX12_atHand_52 (by decide) ?_
        exact w_iret ok fin dX12_atHand_65 rfl (by unfold F_X12_atHand FI_X12_atHand; simp only [if_pos c1]; simp only [if_neg c3]; exact Pd.i)
    refine w_icmp_eq (tgt := 25) ok dX12_atHand_14 (by decide) (fun c4 => ?_) (fun c4 => ?_)
    · skip
      refine w_aload_n ok dX12_atHand_25 1 rfl ?_
      refine w_iload_n ok dX12_atHand_26 2 rfl ?_
      refine w_iload_n ok dX12_atHand_27 3 rfl ?_
      refine w_aload_n ok dX12_atHand_28 0 rfl ?_
      refine y_getI ok dX12_atHand_29 (fX12_198 rfl) (congrArg Prod.fst s_130) rfl (ltM hnn (by decide)) (sdm hf (by decide)) ?_
      refine w_cS (As := [.ref a0, .int a1, .int a2, .int (I 130 29)]) ok dX12_atHand_32 iX12_found (lX12_235 rfl) (c_X12_found ro hnn hf a1 a2 (I 130 29) hsa0 hka0 hda0 (sh_len hsa0) (hp2 c1 c4)) (by decide) rfl (Nat.le_of_ble_eq_true rfl) ?_
      refine w_iconst (v := (-1)) ok dX12_atHand_35 (by decide) ?_
      refine w_icmp_ne (tgt := 44) ok dX12_atHand_36 (by decide) (fun c5 => ?_) (fun c5 => ?_)
      · skip
        have eT : (T_X12_atHand_j44 a0 la0 a1 a2 I J) = I := by
          unfold T_X12_atHand_j44; exact (if_pos c4).trans ((if_neg c5).trans (rfl))
        refine w_loc [0, 1, 2, 3] rfl ?_
        have jj := jn2
        rw [eT] at jj
        exact jj
      · skip
        refine w_aload_n ok dX12_atHand_39 0 rfl ?_
        refine w_iconst (v := 4) ok dX12_atHand_40 (by decide) ?_
        refine w_cV (As := [.int 4]) ok dX12_atHand_41 iX12_wrong (lX12_232 rfl) (rcv cls12 (congrArg Prod.fst s_130)) (ltM hnn (by decide)) (c_X12_wrong ro hnn hf 4 ) (by decide) rfl (Nat.le_of_ble_eq_true rfl) ?_
        have eT : (T_X12_atHand_j44 a0 la0 a1 a2 I J) = (FI_X12_wrong 4 I J) := by
          unfold T_X12_atHand_j44; exact (if_pos c4).trans ((if_pos c5).trans (rfl))
        refine w_loc [0, 1, 2, 3] rfl ?_
        have jj := jn2
        rw [eT] at jj
        exact jj
    · skip
      refine w_aload_n ok dX12_atHand_17 0 rfl ?_
      refine w_iconst (v := 1) ok dX12_atHand_18 (by decide) ?_
      refine w_cV (As := [.int 1]) ok dX12_atHand_19 iX12_wrong (lX12_232 rfl) (rcv cls12 (congrArg Prod.fst s_130)) (ltM hnn (by decide)) (c_X12_wrong ro hnn hf 1 ) (by decide) rfl (Nat.le_of_ble_eq_true rfl) ?_
      refine w_goto (tgt := 44) ok dX12_atHand_22 (by decide) ?_
      have eT : (T_X12_atHand_j44 a0 la0 a1 a2 I J) = (FI_X12_wrong 1 I J) := by
        unfold T_X12_atHand_j44; exact (if_neg c4).trans (rfl)
      refine w_loc [0, 1, 2, 3] rfl ?_
      have jj := jn2
      rw [eT] at jj
      exact jj
  · skip
    refine w_iconst (v := 0) ok dX12_atHand_7 (by decide) ?_
    exact w_iret ok fin dX12_atHand_8 rfl (by unfold F_X12_atHand FI_X12_atHand; simp only [if_neg c1]; exact Pd.i)
def F_X12_markAtHand  (I : SI) (J : SJ) : Int32 := F_X12_atHand 133 12 6 (F_X12_fresher 0 I J) I J
def FI_X12_markAtHand  (I : SI) (J : SJ) : SI := FI_X12_atHand 133 12 6 (F_X12_fresher 0 I J) I J
def H_X12_markAtHand  (I : SI) (J : SJ) : Prop := (H_X12_fresher 0 I J) ∧ (H_X12_atHand 133 12 6 (F_X12_fresher 0 I J) I J)
set_option maxHeartbeats 1000000 in
set_option maxRecDepth 40000 in
theorem c_X12_markAtHand {I : SI} {J : SJ} {R : SR} {n g : Nat} {f : Fr} (ro : RM R) (hnn : nM ≤ n) (hf : f.1 = false)   (hp : H_X12_markAtHand  I J) : MM 2 0 0 mX12_markAtHand [.ref 130] (eI f I) (eJ f J) R n g (Pd (some (.int (F_X12_markAtHand  I J))) (eI f (FI_X12_markAtHand  I J)) (eJ f J) R n g) := by
  refine MM.of (by decide) (Nat.le_of_ble_eq_true rfl) fun K ok fin => ?_
  show WK K 0 0 0 [(0, .ref 130)] [] (eI f I) (eJ f J) R n g
  obtain ⟨hp1, hp2⟩ := hp
  refine w_aload_n ok dX12_markAtHand_0 0 rfl ?_
  refine w_aload_n ok dX12_markAtHand_1 0 rfl ?_
  refine w_getR ok dX12_markAtHand_2 (fX12_16 rfl) (congrArg Prod.fst s_130) rfl (r_130_4 ro) (ltM hnn (by decide)) ?_
  refine w_bipush (v := 6) ok dX12_markAtHand_5 (by decide) ?_
  refine w_aload_n ok dX12_markAtHand_7 0 rfl ?_
  refine w_iconst (v := 0) ok dX12_markAtHand_8 (by decide) ?_
  refine w_cV (As := [.int 0]) ok dX12_markAtHand_9 iX12_fresher (lX12_239 rfl) (rcv cls12 (congrArg Prod.fst s_130)) (ltM hnn (by decide)) (c_X12_fresher ro hnn hf 0  (hp1)) (by decide) rfl (Nat.le_of_ble_eq_true rfl) ?_
  show WK K 0 0 12 [(0, .ref 130)] [.int (F_X12_fresher 0 I J), .int 6, .ref 133, .ref 130] (eI f I) (eJ f J) R n g
  refine w_cV (As := [.ref 133, .int 6, .int (F_X12_fresher 0 I J)]) ok dX12_markAtHand_12 iX12_atHand (lX12_243 rfl) (rcv cls12 (congrArg Prod.fst s_130)) (ltM hnn (by decide)) (c_X12_atHand ro hnn hf 6 (F_X12_fresher 0 I J) s_133 (ltM hnn (by decide)) (sdm hf (by decide)) (sh_len s_133) (hp2)) (by decide) rfl (Nat.le_of_ble_eq_true rfl) ?_
  exact w_iret ok fin dX12_markAtHand_15 rfl (by unfold F_X12_markAtHand FI_X12_markAtHand; exact Pd.i)
def F_X12_isFull (a0 : Int32) (I : SI) (J : SJ) : Int32 := if a0 = 0 then (if (F_X12_fresher 0 I J) = 6 then 1 else 0) else (if a0 = 1 then (if (F_X12_fresher 1 I J) = 8 then 1 else 0) else (if a0 = 2 then (if (F_X12_fresher 2 I J) = 20 then 1 else 0) else (if a0 = 3 then (if (F_X12_fresher 3 I J) = 4 then 1 else 0) else (if a0 = 4 then (if (F_X12_fresher 4 I J) = 4 then 1 else 0) else (if a0 = 5 then (if (F_X12_fresher 5 I J) = 3 then 1 else 0) else 0)))))
def H_X12_isFull (a0 : Int32) (I : SI) (J : SJ) : Prop := (a0 = 0 → H_X12_fresher 0 I J) ∧ (¬ (a0 = 0) → a0 = 1 → H_X12_fresher 1 I J) ∧ (¬ (a0 = 0) → ¬ (a0 = 1) → a0 = 2 → H_X12_fresher 2 I J) ∧ (¬ (a0 = 0) → ¬ (a0 = 1) → ¬ (a0 = 2) → a0 = 3 → H_X12_fresher 3 I J) ∧ (¬ (a0 = 0) → ¬ (a0 = 1) → ¬ (a0 = 2) → ¬ (a0 = 3) → a0 = 4 → H_X12_fresher 4 I J) ∧ (¬ (a0 = 0) → ¬ (a0 = 1) → ¬ (a0 = 2) → ¬ (a0 = 3) → ¬ (a0 = 4) → a0 = 5 → H_X12_fresher 5 I J)
set_option maxHeartbeats 1070000 in
set_option maxRecDepth 40000 in
theorem c_X12_isFull {I : SI} {J : SJ} {R : SR} {n g : Nat} {f : Fr} (ro : RM R) (hnn : nM ≤ n) (hf : f.1 = false) (a0 : Int32)  (hp : H_X12_isFull a0 I J) : MM 1 0 0 mX12_isFull [.ref 130, .int a0] (eI f I) (eJ f J) R n g (Pd (some (.int (F_X12_isFull a0 I J))) (eI f I) (eJ f J) R n g) := by
  refine MM.of (by decide) (Nat.le_of_ble_eq_true rfl) fun K ok fin => ?_
  show WK K 0 0 0 [(0, .ref 130), (1, .int a0)] [] (eI f I) (eJ f J) R n g
  obtain ⟨hp1, hp2, hp3, hp4, hp5, hp6⟩ := hp
  refine w_iload_n ok dX12_isFull_0 1 rfl ?_
  by_cases c1 : a0 = 0
  · skip
    refine w_tabIn (tgt := 40) (off := 39) ok dX12_isFull_1 (by rw [c1]; decide) (by rw [c1]; decide) (by rw [c1]; rfl) (by decide) ?_
    refine w_aload_n ok dX12_isFull_40 0 rfl ?_
    refine w_iconst (v := 0) ok dX12_isFull_41 (by decide) ?_
    refine w_cV (As := [.int 0]) ok dX12_isFull_42 iX12_fresher (lX12_239 rfl) (rcv cls12 (congrArg Prod.fst s_130)) (ltM hnn (by decide)) (c_X12_fresher ro hnn hf 0  (hp1 c1)) (by decide) rfl (Nat.le_of_ble_eq_true rfl) ?_
    refine w_bipush (v := 6) ok dX12_isFull_45 (by decide) ?_
    refine w_icmp_ne (tgt := 54) ok dX12_isFull_47 (by decide) (fun c2 => ?_) (fun c2 => ?_)
    · skip
      refine w_iconst (v := 0) ok dX12_isFull_54 (by decide) ?_
      exact w_zret ok fin dX12_isFull_55 rfl (by decide) (by unfold F_X12_isFull; simp only [if_pos c1]; simp only [if_neg c2]; exact Pd.i)
    · skip
      refine w_iconst (v := 1) ok dX12_isFull_50 (by decide) ?_
      refine w_goto (tgt := 55) ok dX12_isFull_51 (by decide) ?_
      exact w_zret ok fin dX12_isFull_55 rfl (by decide) (by unfold F_X12_isFull; simp only [if_pos c1]; simp only [if_pos c2]; exact Pd.i)
  · skip
    by_cases c3 : a0 = 1
    · skip
      refine w_tabIn (tgt := 56) (off := 55) ok dX12_isFull_1 (by rw [c3]; decide) (by rw [c3]; decide) (by rw [c3]; rfl) (by decide) ?_
      refine w_aload_n ok dX12_isFull_56 0 rfl ?_
      refine w_iconst (v := 1) ok dX12_isFull_57 (by decide) ?_
      refine w_cV (As := [.int 1]) ok dX12_isFull_58 iX12_fresher (lX12_239 rfl) (rcv cls12 (congrArg Prod.fst s_130)) (ltM hnn (by decide)) (c_X12_fresher ro hnn hf 1  (hp2 c1 c3)) (by decide) rfl (Nat.le_of_ble_eq_true rfl) ?_
      refine w_bipush (v := 8) ok dX12_isFull_61 (by decide) ?_
      refine w_icmp_ne (tgt := 70) ok dX12_isFull_63 (by decide) (fun c4 => ?_) (fun c4 => ?_)
      · skip
        refine w_iconst (v := 0) ok dX12_isFull_70 (by decide) ?_
        exact w_zret ok fin dX12_isFull_71 rfl (by decide) (by unfold F_X12_isFull; simp only [if_neg c1]; simp only [if_pos c3]; simp only [if_neg c4]; exact Pd.i)
      · skip
        refine w_iconst (v := 1) ok dX12_isFull_66 (by decide) ?_
        refine w_goto (tgt := 71) ok dX12_isFull_67 (by decide) ?_
        exact w_zret ok fin dX12_isFull_71 rfl (by decide) (by unfold F_X12_isFull; simp only [if_neg c1]; simp only [if_pos c3]; simp only [if_pos c4]; exact Pd.i)
    · skip
      by_cases c5 : a0 = 2
      · skip
        refine w_tabIn (tgt := 72) (off := 71) ok dX12_isFull_1 (by rw [c5]; decide) (by rw [c5]; decide) (by rw [c5]; rfl) (by decide) ?_
        refine w_aload_n ok dX12_isFull_72 0 rfl ?_
        refine w_iconst (v := 2) ok dX12_isFull_73 (by decide) ?_
        refine w_cV (As := [.int 2]) ok dX12_isFull_74 iX12_fresher (lX12_239 rfl) (rcv cls12 (congrArg Prod.fst s_130)) (ltM hnn (by decide)) (c_X12_fresher ro hnn hf 2  (hp3 c1 c3 c5)) (by decide) rfl (Nat.le_of_ble_eq_true rfl) ?_
        refine w_bipush (v := 20) ok dX12_isFull_77 (by decide) ?_
        refine w_icmp_ne (tgt := 86) ok dX12_isFull_79 (by decide) (fun c6 => ?_) (fun c6 => ?_)
        · skip
          refine w_iconst (v := 0) ok dX12_isFull_86 (by decide) ?_
          exact w_zret ok fin dX12_isFull_87 rfl (by decide) (by unfold F_X12_isFull; simp only [if_neg c1]; simp only [if_neg c3]; simp only [if_pos c5]; simp only [if_neg c6]; exact Pd.i)
        · skip
          refine w_iconst (v := 1) ok dX12_isFull_82 (by decide) ?_
          refine w_goto (tgt := 87) ok dX12_isFull_83 (by decide) ?_
          exact w_zret ok fin dX12_isFull_87 rfl (by decide) (by unfold F_X12_isFull; simp only [if_neg c1]; simp only [if_neg c3]; simp only [if_pos c5]; simp only [if_pos c6]; exact Pd.i)
      · skip
        by_cases c7 : a0 = 3
        · skip
          refine w_tabIn (tgt := 88) (off := 87) ok dX12_isFull_1 (by rw [c7]; decide) (by rw [c7]; decide) (by rw [c7]; rfl) (by decide) ?_
          refine w_aload_n ok dX12_isFull_88 0 rfl ?_
          refine w_iconst (v := 3) ok dX12_isFull_89 (by decide) ?_
          refine w_cV (As := [.int 3]) ok dX12_isFull_90 iX12_fresher (lX12_239 rfl) (rcv cls12 (congrArg Prod.fst s_130)) (ltM hnn (by decide)) (c_X12_fresher ro hnn hf 3  (hp4 c1 c3 c5 c7)) (by decide) rfl (Nat.le_of_ble_eq_true rfl) ?_
          refine w_iconst (v := 4) ok dX12_isFull_93 (by decide) ?_
          refine w_icmp_ne (tgt := 101) ok dX12_isFull_94 (by decide) (fun c8 => ?_) (fun c8 => ?_)
          · skip
            refine w_iconst (v := 0) ok dX12_isFull_101 (by decide) ?_
            exact w_zret ok fin dX12_isFull_102 rfl (by decide) (by unfold F_X12_isFull; simp only [if_neg c1]; simp only [if_neg c3]; simp only [if_neg c5]; simp only [if_pos c7]; simp only [if_neg c8]; exact Pd.i)
          · skip
            refine w_iconst (v := 1) ok dX12_isFull_97 (by decide) ?_
            refine w_goto (tgt := 102) ok dX12_isFull_98 (by decide) ?_
            exact w_zret ok fin dX12_isFull_102 rfl (by decide) (by unfold F_X12_isFull; simp only [if_neg c1]; simp only [if_neg c3]; simp only [if_neg c5]; simp only [if_pos c7]; simp only [if_pos c8]; exact Pd.i)
        · skip
          by_cases c9 : a0 = 4
          · skip
            refine w_tabIn (tgt := 103) (off := 102) ok dX12_isFull_1 (by rw [c9]; decide) (by rw [c9]; decide) (by rw [c9]; rfl) (by decide) ?_
            refine w_aload_n ok dX12_isFull_103 0 rfl ?_
            refine w_iconst (v := 4) ok dX12_isFull_104 (by decide) ?_
            refine w_cV (As := [.int 4]) ok dX12_isFull_105 iX12_fresher (lX12_239 rfl) (rcv cls12 (congrArg Prod.fst s_130)) (ltM hnn (by decide)) (c_X12_fresher ro hnn hf 4  (hp5 c1 c3 c5 c7 c9)) (by decide) rfl (Nat.le_of_ble_eq_true rfl) ?_
            refine w_iconst (v := 4) ok dX12_isFull_108 (by decide) ?_
            refine w_icmp_ne (tgt := 116) ok dX12_isFull_109 (by decide) (fun c10 => ?_) (fun c10 => ?_)
            · skip
              refine w_iconst (v := 0) ok dX12_isFull_116 (by decide) ?_
              exact w_zret ok fin dX12_isFull_117 rfl (by decide) (by unfold F_X12_isFull; simp only [if_neg c1]; simp only [if_neg c3]; simp only [if_neg c5]; simp only [if_neg c7]; simp only [if_pos c9]; simp only [if_neg c10]; exact Pd.i)
            · skip
              refine w_iconst (v := 1) ok dX12_isFull_112 (by decide) ?_
              refine w_goto (tgt := 117) ok dX12_isFull_113 (by decide) ?_
              exact w_zret ok fin dX12_isFull_117 rfl (by decide) (by unfold F_X12_isFull; simp only [if_neg c1]; simp only [if_neg c3]; simp only [if_neg c5]; simp only [if_neg c7]; simp only [if_pos c9]; simp only [if_pos c10]; exact Pd.i)
          · skip
            by_cases c11 : a0 = 5
            · skip
              refine w_tabIn (tgt := 118) (off := 117) ok dX12_isFull_1 (by rw [c11]; decide) (by rw [c11]; decide) (by rw [c11]; rfl) (by decide) ?_
              refine w_aload_n ok dX12_isFull_118 0 rfl ?_
              refine w_iconst (v := 5) ok dX12_isFull_119 (by decide) ?_
              refine w_cV (As := [.int 5]) ok dX12_isFull_120 iX12_fresher (lX12_239 rfl) (rcv cls12 (congrArg Prod.fst s_130)) (ltM hnn (by decide)) (c_X12_fresher ro hnn hf 5  (hp6 c1 c3 c5 c7 c9 c11)) (by decide) rfl (Nat.le_of_ble_eq_true rfl) ?_
              refine w_iconst (v := 3) ok dX12_isFull_123 (by decide) ?_
              refine w_icmp_ne (tgt := 131) ok dX12_isFull_124 (by decide) (fun c12 => ?_) (fun c12 => ?_)
              · skip
                refine w_iconst (v := 0) ok dX12_isFull_131 (by decide) ?_
                exact w_zret ok fin dX12_isFull_132 rfl (by decide) (by unfold F_X12_isFull; simp only [if_neg c1]; simp only [if_neg c3]; simp only [if_neg c5]; simp only [if_neg c7]; simp only [if_neg c9]; simp only [if_pos c11]; simp only [if_neg c12]; exact Pd.i)
              · skip
                refine w_iconst (v := 1) ok dX12_isFull_127 (by decide) ?_
                refine w_goto (tgt := 132) ok dX12_isFull_128 (by decide) ?_
                exact w_zret ok fin dX12_isFull_132 rfl (by decide) (by unfold F_X12_isFull; simp only [if_neg c1]; simp only [if_neg c3]; simp only [if_neg c5]; simp only [if_neg c7]; simp only [if_neg c9]; simp only [if_pos c11]; simp only [if_pos c12]; exact Pd.i)
            · skip
              have n13 : a0.toInt ≠ 0 := ne_toInt c1
              have n14 : a0.toInt ≠ 1 := ne_toInt c3
              have n15 : a0.toInt ≠ 2 := ne_toInt c5
              have n16 : a0.toInt ≠ 3 := ne_toInt c7
              have n17 : a0.toInt ≠ 4 := ne_toInt c9
              have n18 : a0.toInt ≠ 5 := ne_toInt c11
              refine w_tabOut (tgt := 133) ok dX12_isFull_1 (by omega) (by decide) ?_
              refine w_iconst (v := 0) ok dX12_isFull_133 (by decide) ?_
              exact w_zret ok fin dX12_isFull_134 rfl (by decide) (by unfold F_X12_isFull; simp only [if_neg c1]; simp only [if_neg c3]; simp only [if_neg c5]; simp only [if_neg c7]; simp only [if_neg c9]; simp only [if_neg c11]; exact Pd.i)
def S1_X12_puts (a0 : Int32) (a1 : Int32) (I : SI) (J : SJ) : Int32 := (64 : Int32) + (F_X12_fresher 9 (u2 I 150 ((64 : Int32) + (F_X12_fresher 9 I J)).toNatClampNeg a0) J)
