/-! printed by wip/whole/gen_c.py: contracts by program -/
def S1_X12_name (I : SI) (J : SJ) (i7 : Nat) (s7 : SI) : Int32 := ((s7 130 29) <<< (5 &&& 31)) ||| (((s7 131 ((s7 130 27) + (nI i7)).toNatClampNeg) - 97) + 1)
def B_X12_name_l7 (I : SI) (J : SJ) (i7 : Nat) (s7 : SI) : SI := if (s7 130 26) ≤ ((s7 130 27) + (nI i7)) then (u2 s7 130 29 (((s7 130 29) <<< (5 &&& 31)) ||| 0)) else (u2 s7 130 29 (S1_X12_name I J i7 s7))
def F_X12_name_l7 (I : SI) (J : SJ) (s0 : SI) : SI := itN (B_X12_name_l7 I J) (6) s0
def FI_X12_name  (I : SI) (J : SJ) : SI := (F_X12_name_l7 I J (u2 I 130 29 0))
def H_X12_name  (I : SI) (J : SJ) : Prop := (∀ (i7 : Nat) (s7 : SI), i7 < 6 → s7 = itN (B_X12_name_l7 I J) i7 (u2 I 130 29 0) → ¬ ((s7 130 26) ≤ ((s7 130 27) + (nI i7))) → inR ((s7 130 27) + (nI i7)) 700)
set_option maxHeartbeats 1000000 in
set_option maxRecDepth 40000 in
theorem c_X12_name {I : SI} {J : SJ} {R : SR} {n g : Nat} (ro : RM R) (hnn : nM ≤ n)   (hp : H_X12_name  I J) : MM 0 0 0 mX12_name [.ref 130] I J R n g (Pd none (FI_X12_name  I J) J R n g) := by
  refine MM.of (by decide) (Nat.le_of_ble_eq_true rfl) fun K ok fin => ?_
  show WK K 0 0 0 [(0, .ref 130)] [] I J R n g
  have hp1 := hp
  refine w_aload_n ok dX12_name_0 0 rfl ?_
  refine w_iconst (v := 0) ok dX12_name_1 (by decide) ?_
  refine w_putI ok dX12_name_2 (fwX12_198 rfl) (congrArg Prod.fst s_130) rfl (ltM hnn (by decide)) ?_
  refine w_iconst (v := 0) ok dX12_name_5 (by decide) ?_
  refine w_istore_n ok dX12_name_6 rfl (by decide) rfl ?_
  refine w_loc [1, 0] rfl ?_
  refine loop_for (σ := SI) (fun (i7 : Nat) (s7 : SI) => WK K 0 0 7 [(0, .ref 130), (1, .int (nI i7))] [] s7 J R n g) (B_X12_name_l7 I J) (6) ((u2 I 130 29 0)) ?_ ?_
  · show WK K 0 0 7 [(0, .ref 130), (1, .int (nI 6))] [] ((F_X12_name_l7 I J (u2 I 130 29 0))) J R n g
    have e1 : (6 : Int32) ≤ (nI 6) := (show nI 6 ≤ nI 6 from nI_le (by omega) (by decide))
    refine w_iload_n ok dX12_name_7 1 rfl ?_
    refine w_bipush (v := 6) ok dX12_name_8 (by decide) ?_
    refine w_icmp_ge (tgt := 63) ok dX12_name_10 (by decide) (fun _ => ?_) (fun h => absurd e1 h)
    exact w_vret ok fin dX12_name_63 rfl (by unfold FI_X12_name; exact Pd.i)
  · intro i7 s7 hi7 hs7 k7
    show WK K 0 0 7 [(0, .ref 130), (1, .int (nI i7))] [] s7 J R n g
    have e2 : ¬ ((6 : Int32) ≤ (nI i7)) := (show ¬ (nI 6 ≤ nI i7) from nI_ge (by omega) (by decide))
    refine w_iload_n ok dX12_name_7 1 rfl ?_
    refine w_bipush (v := 6) ok dX12_name_8 (by decide) ?_
    refine w_icmp_ge (tgt := 63) ok dX12_name_10 (by decide) (fun h => absurd h e2) (fun _ => ?_)
    refine w_aload_n ok dX12_name_13 0 rfl ?_
    refine w_aload_n ok dX12_name_14 0 rfl ?_
    refine w_getI ok dX12_name_15 (fX12_198 rfl) (congrArg Prod.fst s_130) rfl (ltM hnn (by decide)) ?_
    refine w_iconst (v := 5) ok dX12_name_18 (by decide) ?_
    refine w_ishl ok dX12_name_19 ?_
    refine w_aload_n ok dX12_name_20 0 rfl ?_
    refine w_getI ok dX12_name_21 (fX12_185 rfl) (congrArg Prod.fst s_130) rfl (ltM hnn (by decide)) ?_
    refine w_iload_n ok dX12_name_24 1 rfl ?_
    refine w_iadd ok dX12_name_25 ?_
    refine w_aload_n ok dX12_name_26 0 rfl ?_
    refine w_getI ok dX12_name_27 (fX12_175 rfl) (congrArg Prod.fst s_130) rfl (ltM hnn (by decide)) ?_
    refine w_icmp_ge (tgt := 52) ok dX12_name_30 (by decide) (fun c3 => ?_) (fun c3 => ?_)
    · skip
      refine w_iconst (v := 0) ok dX12_name_52 (by decide) ?_
      refine w_ior ok dX12_name_53 ?_
      refine w_putI ok dX12_name_54 (fwX12_198 rfl) (congrArg Prod.fst s_130) rfl (ltM hnn (by decide)) ?_
      refine w_iinc (v := (nI i7) + 1) ok dX12_name_57 1 rfl rfl (by decide) rfl ?_
      refine w_goto (tgt := 7) ok dX12_name_60 (by decide) ?_
      have eB : B_X12_name_l7 I J i7 s7 = (u2 s7 130 29 (((s7 130 29) <<< (5 &&& 31)) ||| 0)) := by
        unfold B_X12_name_l7; exact (if_pos c3).trans (rfl)
      have kk := k7
      rw [eB] at kk
      refine w_loc [1, 0] rfl ?_
      rw [nI_1 i7]
      exact kk
    · skip
      refine w_aload_n ok dX12_name_33 0 rfl ?_
      refine w_getR ok dX12_name_34 (fX12_7 rfl) (congrArg Prod.fst s_130) rfl (r_130_1 ro) (ltM hnn (by decide)) ?_
      refine w_aload_n ok dX12_name_37 0 rfl ?_
      refine w_getI ok dX12_name_38 (fX12_185 rfl) (congrArg Prod.fst s_130) rfl (ltM hnn (by decide)) ?_
      refine w_iload_n ok dX12_name_41 1 rfl ?_
      refine w_iadd ok dX12_name_42 ?_
      refine x_iald (q := ((s7 130 27) + (nI i7)).toNatClampNeg) ok dX12_name_43 s_131 (hp1 i7 s7 hi7 hs7 c3) (by decide) (ltM hnn (by decide)) ?_
      refine w_bipush (v := 97) ok dX12_name_44 (by decide) ?_
      refine w_isub ok dX12_name_46 ?_
      refine w_iconst (v := 1) ok dX12_name_47 (by decide) ?_
      refine w_iadd ok dX12_name_48 ?_
      refine w_goto (tgt := 53) ok dX12_name_49 (by decide) ?_
      refine w_ior ok dX12_name_53 ?_
      show WK K 0 0 54 [(0, .ref 130), (1, .int (nI i7))] [.int (S1_X12_name I J i7 s7), .ref 130] s7 J R n g
      refine w_putI ok dX12_name_54 (fwX12_198 rfl) (congrArg Prod.fst s_130) rfl (ltM hnn (by decide)) ?_
      refine w_iinc (v := (nI i7) + 1) ok dX12_name_57 1 rfl rfl (by decide) rfl ?_
      refine w_goto (tgt := 7) ok dX12_name_60 (by decide) ?_
      have eB : B_X12_name_l7 I J i7 s7 = (u2 s7 130 29 (S1_X12_name I J i7 s7)) := by
        unfold B_X12_name_l7; exact (if_neg c3).trans (rfl)
      have kk := k7
      rw [eB] at kk
      refine w_loc [1, 0] rfl ?_
      rw [nI_1 i7]
      exact kk
def FI_X12_wrong (a0 : Int32) (I : SI) (J : SJ) : SI := if (I 130 30) = 0 then u2 (u2 I 130 30 a0) 130 31 ((u2 I 130 30 a0) 130 27) else I
set_option maxHeartbeats 1000000 in
set_option maxRecDepth 40000 in
theorem c_X12_wrong {I : SI} {J : SJ} {R : SR} {n g : Nat} (ro : RM R) (hnn : nM ≤ n) (a0 : Int32)   : MM 0 0 0 mX12_wrong [.ref 130, .int a0] I J R n g (Pd none (FI_X12_wrong a0 I J) J R n g) := by
  refine MM.of (by decide) (Nat.le_of_ble_eq_true rfl) fun K ok fin => ?_
  show WK K 0 0 0 [(0, .ref 130), (1, .int a0)] [] I J R n g
  refine w_aload_n ok dX12_wrong_0 0 rfl ?_
  refine w_getI ok dX12_wrong_1 (fX12_223 rfl) (congrArg Prod.fst s_130) rfl (ltM hnn (by decide)) ?_
  refine w_if_eq (tgt := 8) ok dX12_wrong_4 (by decide) (fun c1 => ?_) (fun c1 => ?_)
  · skip
    refine w_aload_n ok dX12_wrong_8 0 rfl ?_
    refine w_iload_n ok dX12_wrong_9 1 rfl ?_
    refine w_putI ok dX12_wrong_10 (fwX12_223 rfl) (congrArg Prod.fst s_130) rfl (ltM hnn (by decide)) ?_
    refine w_aload_n ok dX12_wrong_13 0 rfl ?_
    refine w_aload_n ok dX12_wrong_14 0 rfl ?_
    refine w_getI ok dX12_wrong_15 (fX12_185 rfl) (congrArg Prod.fst s_130) rfl (ltM hnn (by decide)) ?_
    refine w_putI ok dX12_wrong_18 (fwX12_226 rfl) (congrArg Prod.fst s_130) rfl (ltM hnn (by decide)) ?_
    exact w_vret ok fin dX12_wrong_21 rfl (by unfold FI_X12_wrong; simp only [if_pos c1]; exact Pd.i)
  · skip
    exact w_vret ok fin dX12_wrong_7 rfl (by unfold FI_X12_wrong; simp only [if_neg c1]; exact Pd.i)
def F_X12_isWord (a0 : Int32) (I : SI) (J : SJ) : Int32 := if (I 130 30) = 0 then (if (I 130 28) = 0 then (if (I 130 29) = a0 then 1 else 0) else 0) else 0
set_option maxHeartbeats 1000000 in
set_option maxRecDepth 40000 in
theorem c_X12_isWord {I : SI} {J : SJ} {R : SR} {n g : Nat} (ro : RM R) (hnn : nM ≤ n) (a0 : Int32)   : MM 0 0 0 mX12_isWord [.ref 130, .int a0] I J R n g (Pd (some (.int (F_X12_isWord a0 I J))) I J R n g) := by
  refine MM.of (by decide) (Nat.le_of_ble_eq_true rfl) fun K ok fin => ?_
  show WK K 0 0 0 [(0, .ref 130), (1, .int a0)] [] I J R n g
  refine w_aload_n ok dX12_isWord_0 0 rfl ?_
  refine w_getI ok dX12_isWord_1 (fX12_223 rfl) (congrArg Prod.fst s_130) rfl (ltM hnn (by decide)) ?_
  refine w_if_ne (tgt := 26) ok dX12_isWord_4 (by decide) (fun c1 => ?_) (fun c1 => ?_)
  · skip
    refine w_iconst (v := 0) ok dX12_isWord_26 (by decide) ?_
    exact w_zret ok fin dX12_isWord_27 rfl (by decide) (by unfold F_X12_isWord; simp only [if_neg c1]; exact Pd.i)
  · skip
    refine w_aload_n ok dX12_isWord_7 0 rfl ?_
    refine w_getI ok dX12_isWord_8 (fX12_188 rfl) (congrArg Prod.fst s_130) rfl (ltM hnn (by decide)) ?_
    refine w_if_ne (tgt := 26) ok dX12_isWord_11 (by decide) (fun c2 => ?_) (fun c2 => ?_)
    · skip
      refine w_iconst (v := 0) ok dX12_isWord_26 (by decide) ?_
      exact w_zret ok fin dX12_isWord_27 rfl (by decide) (by unfold F_X12_isWord; simp only [if_pos c1]; simp only [if_neg c2]; exact Pd.i)
    · skip
      refine w_aload_n ok dX12_isWord_14 0 rfl ?_
      refine w_getI ok dX12_isWord_15 (fX12_198 rfl) (congrArg Prod.fst s_130) rfl (ltM hnn (by decide)) ?_
      refine w_iload_n ok dX12_isWord_18 1 rfl ?_
      refine w_icmp_ne (tgt := 26) ok dX12_isWord_19 (by decide) (fun c3 => ?_) (fun c3 => ?_)
      · skip
        refine w_iconst (v := 0) ok dX12_isWord_26 (by decide) ?_
        exact w_zret ok fin dX12_isWord_27 rfl (by decide) (by unfold F_X12_isWord; simp only [if_pos c1]; simp only [if_pos c2]; simp only [if_neg c3]; exact Pd.i)
      · skip
        refine w_iconst (v := 1) ok dX12_isWord_22 (by decide) ?_
        refine w_goto (tgt := 27) ok dX12_isWord_23 (by decide) ?_
        exact w_zret ok fin dX12_isWord_27 rfl (by decide) (by unfold F_X12_isWord; simp only [if_pos c1]; simp only [if_pos c2]; simp only [if_pos c3]; exact Pd.i)
def F_X12_isSign (a0 : Int32) (I : SI) (J : SJ) : Int32 := if (I 130 30) = 0 then (if (I 130 28) = 3 then (if (I 130 29) = a0 then 1 else 0) else 0) else 0
set_option maxHeartbeats 1000000 in
set_option maxRecDepth 40000 in
theorem c_X12_isSign {I : SI} {J : SJ} {R : SR} {n g : Nat} (ro : RM R) (hnn : nM ≤ n) (a0 : Int32)   : MM 0 0 0 mX12_isSign [.ref 130, .int a0] I J R n g (Pd (some (.int (F_X12_isSign a0 I J))) I J R n g) := by
  refine MM.of (by decide) (Nat.le_of_ble_eq_true rfl) fun K ok fin => ?_
  show WK K 0 0 0 [(0, .ref 130), (1, .int a0)] [] I J R n g
  refine w_aload_n ok dX12_isSign_0 0 rfl ?_
  refine w_getI ok dX12_isSign_1 (fX12_223 rfl) (congrArg Prod.fst s_130) rfl (ltM hnn (by decide)) ?_
  refine w_if_ne (tgt := 27) ok dX12_isSign_4 (by decide) (fun c1 => ?_) (fun c1 => ?_)
  · skip
    refine w_iconst (v := 0) ok dX12_isSign_27 (by decide) ?_
    exact w_zret ok fin dX12_isSign_28 rfl (by decide) (by unfold F_X12_isSign; simp only [if_neg c1]; exact Pd.i)
  · skip
    refine w_aload_n ok dX12_isSign_7 0 rfl ?_
    refine w_getI ok dX12_isSign_8 (fX12_188 rfl) (congrArg Prod.fst s_130) rfl (ltM hnn (by decide)) ?_
    refine w_iconst (v := 3) ok dX12_isSign_11 (by decide) ?_
    refine w_icmp_ne (tgt := 27) ok dX12_isSign_12 (by decide) (fun c2 => ?_) (fun c2 => ?_)
    · skip
      refine w_iconst (v := 0) ok dX12_isSign_27 (by decide) ?_
      exact w_zret ok fin dX12_isSign_28 rfl (by decide) (by unfold F_X12_isSign; simp only [if_pos c1]; simp only [if_neg c2]; exact Pd.i)
    · skip
      refine w_aload_n ok dX12_isSign_15 0 rfl ?_
      refine w_getI ok dX12_isSign_16 (fX12_198 rfl) (congrArg Prod.fst s_130) rfl (ltM hnn (by decide)) ?_
      refine w_iload_n ok dX12_isSign_19 1 rfl ?_
      refine w_icmp_ne (tgt := 27) ok dX12_isSign_20 (by decide) (fun c3 => ?_) (fun c3 => ?_)
      · skip
        refine w_iconst (v := 0) ok dX12_isSign_27 (by decide) ?_
        exact w_zret ok fin dX12_isSign_28 rfl (by decide) (by unfold F_X12_isSign; simp only [if_pos c1]; simp only [if_pos c2]; simp only [if_neg c3]; exact Pd.i)
      · skip
        refine w_iconst (v := 1) ok dX12_isSign_23 (by decide) ?_
        refine w_goto (tgt := 28) ok dX12_isSign_24 (by decide) ?_
        exact w_zret ok fin dX12_isSign_28 rfl (by decide) (by unfold F_X12_isSign; simp only [if_pos c1]; simp only [if_pos c2]; simp only [if_pos c3]; exact Pd.i)
def B_X12_found_l3 (a0 : Nat) (la0 : Nat) (a1 : Int32) (a2 : Int32) (a3 : Int32) (I : SI) (J : SJ) (i3 : Nat) (s3 : Unit) : (Unit) ⊕ (Int32) := if (I a0 (a1 + (nI i3)).toNatClampNeg) = a3 then .inr (nI i3) else .inl ()
def F_X12_found_l3 (a0 : Nat) (la0 : Nat) (a1 : Int32) (a2 : Int32) (a3 : Int32) (I : SI) (J : SJ) (s0 : Unit) : (Unit) ⊕ (Int32) := itE (B_X12_found_l3 a0 la0 a1 a2 a3 I J) (a2.toNatClampNeg) 0 s0
def F_X12_found (a0 : Nat) (la0 : Nat) (a1 : Int32) (a2 : Int32) (a3 : Int32) (I : SI) (J : SJ) : Int32 := (match (F_X12_found_l3 a0 la0 a1 a2 a3 I J ()) with | .inl se3 => -1 | .inr re3 => re3)
def H_X12_found (a0 : Nat) (la0 : Nat) (a1 : Int32) (a2 : Int32) (a3 : Int32) (I : SI) (J : SJ) : Prop := (∀ (i3 : Nat) (s3 : Unit), i3 < a2.toNatClampNeg → itE (B_X12_found_l3 a0 la0 a1 a2 a3 I J) i3 0 () = .inl s3 → inR (a1 + (nI i3)) la0)
set_option maxHeartbeats 1000000 in
set_option maxRecDepth 40000 in
theorem c_X12_found {I : SI} {J : SJ} {R : SR} {n g : Nat} (ro : RM R) (hnn : nM ≤ n) {a0 : Nat} {la0 : Nat} (a1 : Int32) (a2 : Int32) (a3 : Int32) (hsa0 : SH a0 = (14, la0)) (hka0 : a0 < n) (hlen : la0 < 2 ^ 31)  (hp : H_X12_found a0 la0 a1 a2 a3 I J) : MM 0 0 0 mX12_found [.ref a0, .int a1, .int a2, .int a3] I J R n g (Pd (some (.int (F_X12_found a0 la0 a1 a2 a3 I J))) I J R n g) := by
  refine MM.of (by decide) (Nat.le_of_ble_eq_true rfl) fun K ok fin => ?_
  show WK K 0 0 0 [(0, .ref a0), (1, .int a1), (2, .int a2), (3, .int a3)] [] I J R n g
  have hp1 := hp
  refine w_iconst (v := 0) ok dX12_found_0 (by decide) ?_
  refine w_istore ok dX12_found_1 (by decide) rfl ?_
  refine w_loc [1, 2, 3, 4, 0] rfl ?_
  refine loop_e (σ := Unit) (ρ := Int32) (fun (i3 : Nat) (s3 : Unit) => WK K 0 0 3 [(0, .ref a0), (1, .int a1), (2, .int a2), (3, .int a3), (4, .int (nI i3))] [] I J R n g) (B_X12_found_l3 a0 la0 a1 a2 a3 I J) (a2.toNatClampNeg) (()) ?_ ?_
  · intro se3 he3
    have he3 : (F_X12_found_l3 a0 la0 a1 a2 a3 I J ()) = .inl se3 := he3
    show WK K 0 0 3 [(0, .ref a0), (1, .int a1), (2, .int a2), (3, .int a3), (4, .int (nI a2.toNatClampNeg))] [] I J R n g
    have e1 : a2 ≤ (nI a2.toNatClampNeg) := cnt_ge _
    refine w_iload ok dX12_found_3 4 rfl ?_
    refine w_iload_n ok dX12_found_5 2 rfl ?_
    refine w_icmp_ge (tgt := 28) ok dX12_found_6 (by decide) (fun _ => ?_) (fun h => absurd e1 h)
    refine w_iconst (v := (-1)) ok dX12_found_28 (by decide) ?_
    exact w_iret ok fin dX12_found_29 rfl (by unfold F_X12_found; simp only [he3]; exact Pd.i)
  · intro i3 s3 hi3 hs3 k3 kr3
    show WK K 0 0 3 [(0, .ref a0), (1, .int a1), (2, .int a2), (3, .int a3), (4, .int (nI i3))] [] I J R n g
    have e2 : ¬ (a2 ≤ (nI i3)) := cnt_lt hi3
    refine w_iload ok dX12_found_3 4 rfl ?_
    refine w_iload_n ok dX12_found_5 2 rfl ?_
    refine w_icmp_ge (tgt := 28) ok dX12_found_6 (by decide) (fun h => absurd h e2) (fun _ => ?_)
    refine w_aload_n ok dX12_found_9 0 rfl ?_
    refine w_iload_n ok dX12_found_10 1 rfl ?_
    refine w_iload ok dX12_found_11 4 rfl ?_
    refine w_iadd ok dX12_found_13 ?_
    refine x_iald (q := (a1 + (nI i3)).toNatClampNeg) ok dX12_found_14 hsa0 (hp1 i3 s3 hi3 hs3) hlen hka0 ?_
    refine w_iload_n ok dX12_found_15 3 rfl ?_
    refine w_icmp_ne (tgt := 22) ok dX12_found_16 (by decide) (fun c3 => ?_) (fun c3 => ?_)
    · skip
      refine w_iinc (v := (nI i3) + 1) ok dX12_found_22 4 rfl rfl (by decide) rfl ?_
      refine w_goto (tgt := 3) ok dX12_found_25 (by decide) ?_
      have eB : B_X12_found_l3 a0 la0 a1 a2 a3 I J i3 s3 = .inl () := by
        unfold B_X12_found_l3; exact (if_neg c3).trans (rfl)
      have kk := k3 _ eB
      refine w_loc [1, 2, 3, 4, 0] rfl ?_
      rw [nI_1 i3]
      exact kk
    · skip
      refine w_iload ok dX12_found_19 4 rfl ?_
      have eB : B_X12_found_l3 a0 la0 a1 a2 a3 I J i3 s3 = .inr (nI i3) := by
        unfold B_X12_found_l3; exact (if_pos c3).trans (rfl)
      have hr : (F_X12_found_l3 a0 la0 a1 a2 a3 I J ()) = .inr (nI i3) := kr3 _ eB
      exact w_iret ok fin dX12_found_21 rfl (by unfold F_X12_found; simp only [hr]; exact Pd.i)
def F_X12_fresher (a0 : Int32) (I : SI) (J : SJ) : Int32 := I 132 ((10 : Int32) + a0).toNatClampNeg
def H_X12_fresher (a0 : Int32) (I : SI) (J : SJ) : Prop := (inR ((10 : Int32) + a0) 20)
set_option maxHeartbeats 1000000 in
set_option maxRecDepth 40000 in
theorem c_X12_fresher {I : SI} {J : SJ} {R : SR} {n g : Nat} (ro : RM R) (hnn : nM ≤ n) (a0 : Int32)  (hp : H_X12_fresher a0 I J) : MM 0 0 0 mX12_fresher [.ref 130, .int a0] I J R n g (Pd (some (.int (F_X12_fresher a0 I J))) I J R n g) := by
  refine MM.of (by decide) (Nat.le_of_ble_eq_true rfl) fun K ok fin => ?_
  show WK K 0 0 0 [(0, .ref 130), (1, .int a0)] [] I J R n g
  have hp1 := hp
  refine w_aload_n ok dX12_fresher_0 0 rfl ?_
  refine w_getR ok dX12_fresher_1 (fX12_13 rfl) (congrArg Prod.fst s_130) rfl (r_130_3 ro) (ltM hnn (by decide)) ?_
  refine w_bipush (v := 10) ok dX12_fresher_4 (by decide) ?_
  refine w_iload_n ok dX12_fresher_6 1 rfl ?_
  refine w_iadd ok dX12_fresher_7 ?_
  refine x_iald (q := ((10 : Int32) + a0).toNatClampNeg) ok dX12_fresher_8 s_132 (hp1) (by decide) (ltM hnn (by decide)) ?_
  exact w_iret ok fin dX12_fresher_9 rfl (by unfold F_X12_fresher; exact Pd.i)
def FI_X12_reads (a0 : Int32) (a1 : Int32) (I : SI) (J : SJ) : SI := u2 I 132 ((10 : Int32) + a0).toNatClampNeg a1
def H_X12_reads (a0 : Int32) (a1 : Int32) (I : SI) (J : SJ) : Prop := (inR ((10 : Int32) + a0) 20)
set_option maxHeartbeats 1000000 in
set_option maxRecDepth 40000 in
theorem c_X12_reads {I : SI} {J : SJ} {R : SR} {n g : Nat} (ro : RM R) (hnn : nM ≤ n) (a0 : Int32) (a1 : Int32)  (hp : H_X12_reads a0 a1 I J) : MM 0 0 0 mX12_reads [.ref 130, .int a0, .int a1] I J R n g (Pd none (FI_X12_reads a0 a1 I J) J R n g) := by
  refine MM.of (by decide) (Nat.le_of_ble_eq_true rfl) fun K ok fin => ?_
  show WK K 0 0 0 [(0, .ref 130), (1, .int a0), (2, .int a1)] [] I J R n g
  have hp1 := hp
  refine w_aload_n ok dX12_reads_0 0 rfl ?_
  refine w_getR ok dX12_reads_1 (fX12_13 rfl) (congrArg Prod.fst s_130) rfl (r_130_3 ro) (ltM hnn (by decide)) ?_
  refine w_bipush (v := 10) ok dX12_reads_4 (by decide) ?_
  refine w_iload_n ok dX12_reads_6 1 rfl ?_
  refine w_iadd ok dX12_reads_7 ?_
  refine w_iload_n ok dX12_reads_8 2 rfl ?_
  refine x_iast (q := ((10 : Int32) + a0).toNatClampNeg) ok dX12_reads_9 s_132 (hp1) (by decide) (ltM hnn (by decide)) ?_
  exact w_vret ok fin dX12_reads_10 rfl (by unfold FI_X12_reads; exact Pd.i)
def F_X12_atHand (a0 : Nat) (la0 : Nat) (a1 : Int32) (a2 : Int32) (I : SI) (J : SJ) : Int32 := if (I 130 30) = 0 then (if (I 130 28) = 1 then (if (F_X12_found a0 la0 a1 a2 (I 130 29) I J) = (-1) then (if ((FI_X12_wrong 4 I J) 130 30) = 0 then F_X12_found a0 la0 a1 a2 ((FI_X12_wrong 4 I J) 130 29) (FI_X12_wrong 4 I J) J else 0) else F_X12_found a0 la0 a1 a2 (I 130 29) I J) else (if ((FI_X12_wrong 1 I J) 130 30) = 0 then F_X12_found a0 la0 a1 a2 ((FI_X12_wrong 1 I J) 130 29) (FI_X12_wrong 1 I J) J else 0)) else 0
def FI_X12_atHand (a0 : Nat) (la0 : Nat) (a1 : Int32) (a2 : Int32) (I : SI) (J : SJ) : SI := if (I 130 30) = 0 then (if (I 130 28) = 1 then (if (F_X12_found a0 la0 a1 a2 (I 130 29) I J) = (-1) then (if ((FI_X12_wrong 4 I J) 130 30) = 0 then FI_X12_wrong 4 I J else FI_X12_wrong 4 I J) else I) else (if ((FI_X12_wrong 1 I J) 130 30) = 0 then FI_X12_wrong 1 I J else FI_X12_wrong 1 I J)) else I
def H_X12_atHand (a0 : Nat) (la0 : Nat) (a1 : Int32) (a2 : Int32) (I : SI) (J : SJ) : Prop := ((I 130 30) = 0 → (I 130 28) = 1 → H_X12_found a0 la0 a1 a2 (I 130 29) I J) ∧ ((I 130 30) = 0 → (I 130 28) = 1 → ¬ ((F_X12_found a0 la0 a1 a2 (I 130 29) I J) = (-1)) → H_X12_found a0 la0 a1 a2 (I 130 29) I J) ∧ ((I 130 30) = 0 → (I 130 28) = 1 → (F_X12_found a0 la0 a1 a2 (I 130 29) I J) = (-1) → ((FI_X12_wrong 4 I J) 130 30) = 0 → H_X12_found a0 la0 a1 a2 ((FI_X12_wrong 4 I J) 130 29) (FI_X12_wrong 4 I J) J) ∧ ((I 130 30) = 0 → ¬ ((I 130 28) = 1) → ((FI_X12_wrong 1 I J) 130 30) = 0 → H_X12_found a0 la0 a1 a2 ((FI_X12_wrong 1 I J) 130 29) (FI_X12_wrong 1 I J) J)
set_option maxHeartbeats 1000000 in
set_option maxRecDepth 40000 in
theorem c_X12_atHand {I : SI} {J : SJ} {R : SR} {n g : Nat} (ro : RM R) (hnn : nM ≤ n) {a0 : Nat} {la0 : Nat} (a1 : Int32) (a2 : Int32) (hsa0 : SH a0 = (14, la0)) (hka0 : a0 < n) (hlen : la0 < 2 ^ 31)  (hp : H_X12_atHand a0 la0 a1 a2 I J) : MM 1 0 0 mX12_atHand [.ref 130, .ref a0, .int a1, .int a2] I J R n g (Pd (some (.int (F_X12_atHand a0 la0 a1 a2 I J))) (FI_X12_atHand a0 la0 a1 a2 I J) J R n g) := by
  refine MM.of (by decide) (Nat.le_of_ble_eq_true rfl) fun K ok fin => ?_
  show WK K 0 0 0 [(0, .ref 130), (1, .ref a0), (2, .int a1), (3, .int a2)] [] I J R n g
  obtain ⟨hp1, hp2, hp3, hp4⟩ := hp
  refine w_aload_n ok dX12_atHand_0 0 rfl ?_
  refine w_getI ok dX12_atHand_1 (fX12_223 rfl) (congrArg Prod.fst s_130) rfl (ltM hnn (by decide)) ?_
  refine w_if_eq (tgt := 9) ok dX12_atHand_4 (by decide) (fun c1 => ?_) (fun c1 => ?_)
  · skip
    refine w_aload_n ok dX12_atHand_9 0 rfl ?_
    refine w_getI ok dX12_atHand_10 (fX12_188 rfl) (congrArg Prod.fst s_130) rfl (ltM hnn (by decide)) ?_
    refine w_iconst (v := 1) ok dX12_atHand_13 (by decide) ?_
    refine w_icmp_eq (tgt := 25) ok dX12_atHand_14 (by decide) (fun c2 => ?_) (fun c2 => ?_)
    · skip
      refine w_aload_n ok dX12_atHand_25 1 rfl ?_
      refine w_iload_n ok dX12_atHand_26 2 rfl ?_
      refine w_iload_n ok dX12_atHand_27 3 rfl ?_
      refine w_aload_n ok dX12_atHand_28 0 rfl ?_
      refine w_getI ok dX12_atHand_29 (fX12_198 rfl) (congrArg Prod.fst s_130) rfl (ltM hnn (by decide)) ?_
      refine w_cS (As := [.ref a0, .int a1, .int a2, .int (I 130 29)]) ok dX12_atHand_32 iX12_found (lX12_235 rfl) (c_X12_found ro hnn a1 a2 (I 130 29) hsa0 hka0 (sh_len hsa0) (hp1 c1 c2)) (by decide) rfl (Nat.le_of_ble_eq_true rfl) ?_
      refine w_iconst (v := (-1)) ok dX12_atHand_35 (by decide) ?_
      refine w_icmp_ne (tgt := 44) ok dX12_atHand_36 (by decide) (fun c3 => ?_) (fun c3 => ?_)
      · skip
        refine w_aload_n ok dX12_atHand_44 0 rfl ?_
        refine w_getI ok dX12_atHand_45 (fX12_223 rfl) (congrArg Prod.fst s_130) rfl (ltM hnn (by decide)) ?_
        refine w_if_eq (tgt := 55) ok dX12_atHand_48 (by decide) (fun _ => ?_) (fun h => absurd c1 h)
        refine w_aload_n ok dX12_atHand_55 1 rfl ?_
        refine w_iload_n ok dX12_atHand_56 2 rfl ?_
        refine w_iload_n ok dX12_atHand_57 3 rfl ?_
        refine w_aload_n ok dX12_atHand_58 0 rfl ?_
        refine w_getI ok dX12_atHand_59 (fX12_198 rfl) (congrArg Prod.fst s_130) rfl (ltM hnn (by decide)) ?_
        refine w_cS (As := [.ref a0, .int a1, .int a2, .int (I 130 29)]) ok dX12_atHand_62 iX12_found (lX12_235 rfl) (c_X12_found ro hnn a1 a2 (I 130 29) hsa0 hka0 (sh_len hsa0) (hp2 c1 c2 c3)) (by decide) rfl (Nat.le_of_ble_eq_true rfl) ?_
        exact w_iret ok fin dX12_atHand_65 rfl (by unfold F_X12_atHand FI_X12_atHand; simp only [if_pos c1]; simp only [if_pos c2]; simp only [if_neg c3]; exact Pd.i)
      · skip
        refine w_aload_n ok dX12_atHand_39 0 rfl ?_
        refine w_iconst (v := 4) ok dX12_atHand_40 (by decide) ?_
        refine w_cV (As := [.int 4]) ok dX12_atHand_41 iX12_wrong (lX12_232 rfl) (rcv cls12 (congrArg Prod.fst s_130)) (ltM hnn (by decide)) (c_X12_wrong ro hnn 4 ) (by decide) rfl (Nat.le_of_ble_eq_true rfl) ?_
        refine w_aload_n ok dX12_atHand_44 0 rfl ?_
        refine w_getI ok dX12_atHand_45 (fX12_223 rfl) (congrArg Prod.fst s_130) rfl (ltM hnn (by decide)) ?_
        refine w_if_eq (tgt := 55) ok dX12_atHand_48 (by decide) (fun c4 => ?_) (fun c4 => ?_)
        · skip
          refine w_aload_n ok dX12_atHand_55 1 rfl ?_
          refine w_iload_n ok dX12_atHand_56 2 rfl ?_
          refine w_iload_n ok dX12_atHand_57 3 rfl ?_
          refine w_aload_n ok dX12_atHand_58 0 rfl ?_
          refine w_getI ok dX12_atHand_59 (fX12_198 rfl) (congrArg Prod.fst s_130) rfl (ltM hnn (by decide)) ?_
          refine w_cS (As := [.ref a0, .int a1, .int a2, .int ((FI_X12_wrong 4 I J) 130 29)]) ok dX12_atHand_62 iX12_found (lX12_235 rfl) (c_X12_found ro hnn a1 a2 ((FI_X12_wrong 4 I J) 130 29) hsa0 hka0 (sh_len hsa0) (hp3 c1 c2 c3 c4)) (by decide) rfl (Nat.le_of_ble_eq_true rfl) ?_
          exact w_iret ok fin dX12_atHand_65 rfl (by unfold F_X12_atHand FI_X12_atHand; simp only [if_pos c1]; simp only [if_pos c2]; simp only [if_pos c3]; simp only [if_pos c4]; exact Pd.i)
        · skip
          refine w_iconst (v := 0) ok dX12_atHand_51 (by decide) ?_
          refine w_goto (tgt := 65) ok dX12_atHand_52 (by decide) ?_
          exact w_iret ok fin dX12_atHand_65 rfl (by unfold F_X12_atHand FI_X12_atHand; simp only [if_pos c1]; simp only [if_pos c2]; simp only [if_pos c3]; simp only [if_neg c4]; exact Pd.i)
    · skip
      refine w_aload_n ok dX12_atHand_17 0 rfl ?_
      refine w_iconst (v := 1) ok dX12_atHand_18 (by decide) ?_
      refine w_cV (As := [.int 1]) ok dX12_atHand_19 iX12_wrong (lX12_232 rfl) (rcv cls12 (congrArg Prod.fst s_130)) (ltM hnn (by decide)) (c_X12_wrong ro hnn 1 ) (by decide) rfl (Nat.le_of_ble_eq_true rfl) ?_
      refine w_goto (tgt := 44) ok dX12_atHand_22 (by decide) ?_
      refine w_aload_n ok dX12_atHand_44 0 rfl ?_
      refine w_getI ok dX12_atHand_45 (fX12_223 rfl) (congrArg Prod.fst s_130) rfl (ltM hnn (by decide)) ?_
      refine w_if_eq (tgt := 55) ok dX12_atHand_48 (by decide) (fun c5 => ?_) (fun c5 => ?_)
      · skip
        refine w_aload_n ok dX12_atHand_55 1 rfl ?_
        refine w_iload_n ok dX12_atHand_56 2 rfl ?_
        refine w_iload_n ok dX12_atHand_57 3 rfl ?_
        refine w_aload_n ok dX12_atHand_58 0 rfl ?_
        refine w_getI ok dX12_atHand_59 (fX12_198 rfl) (congrArg Prod.fst s_130) rfl (ltM hnn (by decide)) ?_
        refine w_cS (As := [.ref a0, .int a1, .int a2, .int ((FI_X12_wrong 1 I J) 130 29)]) ok dX12_atHand_62 iX12_found (lX12_235 rfl) (c_X12_found ro hnn a1 a2 ((FI_X12_wrong 1 I J) 130 29) hsa0 hka0 (sh_len hsa0) (hp4 c1 c2 c5)) (by decide) rfl (Nat.le_of_ble_eq_true rfl) ?_
        exact w_iret ok fin dX12_atHand_65 rfl (by unfold F_X12_atHand FI_X12_atHand; simp only [if_pos c1]; simp only [if_neg c2]; simp only [if_pos c5]; exact Pd.i)
      · skip
        refine w_iconst (v := 0) ok dX12_atHand_51 (by decide) ?_
        refine w_goto (tgt := 65) ok dX12_atHand_52 (by decide) ?_
        exact w_iret ok fin dX12_atHand_65 rfl (by unfold F_X12_atHand FI_X12_atHand; simp only [if_pos c1]; simp only [if_neg c2]; simp only [if_neg c5]; exact Pd.i)
  · skip
    refine w_iconst (v := 0) ok dX12_atHand_7 (by decide) ?_
    exact w_iret ok fin dX12_atHand_8 rfl (by unfold F_X12_atHand FI_X12_atHand; simp only [if_neg c1]; exact Pd.i)
def F_X12_markAtHand  (I : SI) (J : SJ) : Int32 := F_X12_atHand 133 12 6 (F_X12_fresher 0 I J) I J
def FI_X12_markAtHand  (I : SI) (J : SJ) : SI := FI_X12_atHand 133 12 6 (F_X12_fresher 0 I J) I J
def H_X12_markAtHand  (I : SI) (J : SJ) : Prop := (H_X12_fresher 0 I J) ∧ (H_X12_atHand 133 12 6 (F_X12_fresher 0 I J) I J)
set_option maxHeartbeats 1000000 in
set_option maxRecDepth 40000 in
theorem c_X12_markAtHand {I : SI} {J : SJ} {R : SR} {n g : Nat} (ro : RM R) (hnn : nM ≤ n)   (hp : H_X12_markAtHand  I J) : MM 2 0 0 mX12_markAtHand [.ref 130] I J R n g (Pd (some (.int (F_X12_markAtHand  I J))) (FI_X12_markAtHand  I J) J R n g) := by
  refine MM.of (by decide) (Nat.le_of_ble_eq_true rfl) fun K ok fin => ?_
  show WK K 0 0 0 [(0, .ref 130)] [] I J R n g
  obtain ⟨hp1, hp2⟩ := hp
  refine w_aload_n ok dX12_markAtHand_0 0 rfl ?_
  refine w_aload_n ok dX12_markAtHand_1 0 rfl ?_
  refine w_getR ok dX12_markAtHand_2 (fX12_16 rfl) (congrArg Prod.fst s_130) rfl (r_130_4 ro) (ltM hnn (by decide)) ?_
  refine w_bipush (v := 6) ok dX12_markAtHand_5 (by decide) ?_
  refine w_aload_n ok dX12_markAtHand_7 0 rfl ?_
  refine w_iconst (v := 0) ok dX12_markAtHand_8 (by decide) ?_
  refine w_cV (As := [.int 0]) ok dX12_markAtHand_9 iX12_fresher (lX12_239 rfl) (rcv cls12 (congrArg Prod.fst s_130)) (ltM hnn (by decide)) (c_X12_fresher ro hnn 0  (hp1)) (by decide) rfl (Nat.le_of_ble_eq_true rfl) ?_
  show WK K 0 0 12 [(0, .ref 130)] [.int (F_X12_fresher 0 I J), .int 6, .ref 133, .ref 130] I J R n g
  refine w_cV (As := [.ref 133, .int 6, .int (F_X12_fresher 0 I J)]) ok dX12_markAtHand_12 iX12_atHand (lX12_243 rfl) (rcv cls12 (congrArg Prod.fst s_130)) (ltM hnn (by decide)) (c_X12_atHand ro hnn 6 (F_X12_fresher 0 I J) s_133 (ltM hnn (by decide)) (sh_len s_133) (hp2)) (by decide) rfl (Nat.le_of_ble_eq_true rfl) ?_
  exact w_iret ok fin dX12_markAtHand_15 rfl (by unfold F_X12_markAtHand FI_X12_markAtHand; exact Pd.i)
def F_X12_isFull (a0 : Int32) (I : SI) (J : SJ) : Int32 := if a0 = 0 then (if (F_X12_fresher 0 I J) = 6 then 1 else 0) else (if a0 = 1 then (if (F_X12_fresher 1 I J) = 8 then 1 else 0) else (if a0 = 2 then (if (F_X12_fresher 2 I J) = 20 then 1 else 0) else (if a0 = 3 then (if (F_X12_fresher 3 I J) = 4 then 1 else 0) else (if a0 = 4 then (if (F_X12_fresher 4 I J) = 4 then 1 else 0) else (if a0 = 5 then (if (F_X12_fresher 5 I J) = 3 then 1 else 0) else 0)))))
def H_X12_isFull (a0 : Int32) (I : SI) (J : SJ) : Prop := (a0 = 0 → H_X12_fresher 0 I J) ∧ (¬ (a0 = 0) → a0 = 1 → H_X12_fresher 1 I J) ∧ (¬ (a0 = 0) → ¬ (a0 = 1) → a0 = 2 → H_X12_fresher 2 I J) ∧ (¬ (a0 = 0) → ¬ (a0 = 1) → ¬ (a0 = 2) → a0 = 3 → H_X12_fresher 3 I J) ∧ (¬ (a0 = 0) → ¬ (a0 = 1) → ¬ (a0 = 2) → ¬ (a0 = 3) → a0 = 4 → H_X12_fresher 4 I J) ∧ (¬ (a0 = 0) → ¬ (a0 = 1) → ¬ (a0 = 2) → ¬ (a0 = 3) → ¬ (a0 = 4) → a0 = 5 → H_X12_fresher 5 I J)
set_option maxHeartbeats 1070000 in
set_option maxRecDepth 40000 in
theorem c_X12_isFull {I : SI} {J : SJ} {R : SR} {n g : Nat} (ro : RM R) (hnn : nM ≤ n) (a0 : Int32)  (hp : H_X12_isFull a0 I J) : MM 1 0 0 mX12_isFull [.ref 130, .int a0] I J R n g (Pd (some (.int (F_X12_isFull a0 I J))) I J R n g) := by
  refine MM.of (by decide) (Nat.le_of_ble_eq_true rfl) fun K ok fin => ?_
  show WK K 0 0 0 [(0, .ref 130), (1, .int a0)] [] I J R n g
  obtain ⟨hp1, hp2, hp3, hp4, hp5, hp6⟩ := hp
  refine w_iload_n ok dX12_isFull_0 1 rfl ?_
  by_cases c1 : a0 = 0
  · skip
    refine w_tabIn (tgt := 40) (off := 39) ok dX12_isFull_1 (by rw [c1]; decide) (by rw [c1]; decide) (by rw [c1]; rfl) (by decide) ?_
    refine w_aload_n ok dX12_isFull_40 0 rfl ?_
    refine w_iconst (v := 0) ok dX12_isFull_41 (by decide) ?_
    refine w_cV (As := [.int 0]) ok dX12_isFull_42 iX12_fresher (lX12_239 rfl) (rcv cls12 (congrArg Prod.fst s_130)) (ltM hnn (by decide)) (c_X12_fresher ro hnn 0  (hp1 c1)) (by decide) rfl (Nat.le_of_ble_eq_true rfl) ?_
    refine w_bipush (v := 6) ok dX12_isFull_45 (by decide) ?_
    refine w_icmp_ne (tgt := 54) ok dX12_isFull_47 (by decide) (fun c2 => ?_) (fun c2 => ?_)
    · skip
      refine w_iconst (v := 0) ok dX12_isFull_54 (by decide) ?_
      exact w_zret ok fin dX12_isFull_55 rfl (by decide) (by unfold F_X12_isFull; simp only [if_pos c1]; simp only [if_neg c2]; exact Pd.i)
    · skip
      refine w_iconst (v := 1) ok dX12_isFull_50 (by decide) ?_
      refine w_goto (tgt := 55) ok dX12_isFull_51 (by decide) ?_
      exact w_zret ok fin dX12_isFull_55 rfl (by decide) (by unfold F_X12_isFull; simp only [if_pos c1]; simp only [if_pos c2]; exact Pd.i)
  · skip
    by_cases c3 : a0 = 1
    · skip
      refine w_tabIn (tgt := 56) (off := 55) ok dX12_isFull_1 (by rw [c3]; decide) (by rw [c3]; decide) (by rw [c3]; rfl) (by decide) ?_
      refine w_aload_n ok dX12_isFull_56 0 rfl ?_
      refine w_iconst (v := 1) ok dX12_isFull_57 (by decide) ?_
      refine w_cV (As := [.int 1]) ok dX12_isFull_58 iX12_fresher (lX12_239 rfl) (rcv cls12 (congrArg Prod.fst s_130)) (ltM hnn (by decide)) (c_X12_fresher ro hnn 1  (hp2 c1 c3)) (by decide) rfl (Nat.le_of_ble_eq_true rfl) ?_
      refine w_bipush (v := 8) ok dX12_isFull_61 (by decide) ?_
      refine w_icmp_ne (tgt := 70) ok dX12_isFull_63 (by decide) (fun c4 => ?_) (fun c4 => ?_)
      · skip
        refine w_iconst (v := 0) ok dX12_isFull_70 (by decide) ?_
        exact w_zret ok fin dX12_isFull_71 rfl (by decide) (by unfold F_X12_isFull; simp only [if_neg c1]; simp only [if_pos c3]; simp only [if_neg c4]; exact Pd.i)
      · skip
        refine w_iconst (v := 1) ok dX12_isFull_66 (by decide) ?_
        refine w_goto (tgt := 71) ok dX12_isFull_67 (by decide) ?_
        exact w_zret ok fin dX12_isFull_71 rfl (by decide) (by unfold F_X12_isFull; simp only [if_neg c1]; simp only [if_pos c3]; simp only [if_pos c4]; exact Pd.i)
    · skip
      by_cases c5 : a0 = 2
      · skip
        refine w_tabIn (tgt := 72) (off := 71) ok dX12_isFull_1 (by rw [c5]; decide) (by rw [c5]; decide) (by rw [c5]; rfl) (by decide) ?_
        refine w_aload_n ok dX12_isFull_72 0 rfl ?_
        refine w_iconst (v := 2) ok dX12_isFull_73 (by decide) ?_
        refine w_cV (As := [.int 2]) ok dX12_isFull_74 iX12_fresher (lX12_239 rfl) (rcv cls12 (congrArg Prod.fst s_130)) (ltM hnn (by decide)) (c_X12_fresher ro hnn 2  (hp3 c1 c3 c5)) (by decide) rfl (Nat.le_of_ble_eq_true rfl) ?_
        refine w_bipush (v := 20) ok dX12_isFull_77 (by decide) ?_
        refine w_icmp_ne (tgt := 86) ok dX12_isFull_79 (by decide) (fun c6 => ?_) (fun c6 => ?_)
        · skip
          refine w_iconst (v := 0) ok dX12_isFull_86 (by decide) ?_
          exact w_zret ok fin dX12_isFull_87 rfl (by decide) (by unfold F_X12_isFull; simp only [if_neg c1]; simp only [if_neg c3]; simp only [if_pos c5]; simp only [if_neg c6]; exact Pd.i)
        · skip
          refine w_iconst (v := 1) ok dX12_isFull_82 (by decide) ?_
          refine w_goto (tgt := 87) ok dX12_isFull_83 (by decide) ?_
          exact w_zret ok fin dX12_isFull_87 rfl (by decide) (by unfold F_X12_isFull; simp only [if_neg c1]; simp only [if_neg c3]; simp only [if_pos c5]; simp only [if_pos c6]; exact Pd.i)
      · skip
        by_cases c7 : a0 = 3
        · skip
          refine w_tabIn (tgt := 88) (off := 87) ok dX12_isFull_1 (by rw [c7]; decide) (by rw [c7]; decide) (by rw [c7]; rfl) (by decide) ?_
          refine w_aload_n ok dX12_isFull_88 0 rfl ?_
          refine w_iconst (v := 3) ok dX12_isFull_89 (by decide) ?_
          refine w_cV (As := [.int 3]) ok dX12_isFull_90 iX12_fresher (lX12_239 rfl) (rcv cls12 (congrArg Prod.fst s_130)) (ltM hnn (by decide)) (c_X12_fresher ro hnn 3  (hp4 c1 c3 c5 c7)) (by decide) rfl (Nat.le_of_ble_eq_true rfl) ?_
          refine w_iconst (v := 4) ok dX12_isFull_93 (by decide) ?_
          refine w_icmp_ne (tgt := 101) ok dX12_isFull_94 (by decide) (fun c8 => ?_) (fun c8 => ?_)
          · skip
            refine w_iconst (v := 0) ok dX12_isFull_101 (by decide) ?_
            exact w_zret ok fin dX12_isFull_102 rfl (by decide) (by unfold F_X12_isFull; simp only [if_neg c1]; simp only [if_neg c3]; simp only [if_neg c5]; simp only [if_pos c7]; simp only [if_neg c8]; exact Pd.i)
          · skip
            refine w_iconst (v := 1) ok dX12_isFull_97 (by decide) ?_
            refine w_goto (tgt := 102) ok dX12_isFull_98 (by decide) ?_
            exact w_zret ok fin dX12_isFull_102 rfl (by decide) (by unfold F_X12_isFull; simp only [if_neg c1]; simp only [if_neg c3]; simp only [if_neg c5]; simp only [if_pos c7]; simp only [if_pos c8]; exact Pd.i)
        · skip
          by_cases c9 : a0 = 4
          · skip
            refine w_tabIn (tgt := 103) (off := 102) ok dX12_isFull_1 (by rw [c9]; decide) (by rw [c9]; decide) (by rw [c9]; rfl) (by decide) ?_
            refine w_aload_n ok dX12_isFull_103 0 rfl ?_
            refine w_iconst (v := 4) ok dX12_isFull_104 (by decide) ?_
            refine w_cV (As := [.int 4]) ok dX12_isFull_105 iX12_fresher (lX12_239 rfl) (rcv cls12 (congrArg Prod.fst s_130)) (ltM hnn (by decide)) (c_X12_fresher ro hnn 4  (hp5 c1 c3 c5 c7 c9)) (by decide) rfl (Nat.le_of_ble_eq_true rfl) ?_
            refine w_iconst (v := 4) ok dX12_isFull_108 (by decide) ?_
            refine w_icmp_ne (tgt := 116) ok dX12_isFull_109 (by decide) (fun c10 => ?_) (fun c10 => ?_)
            · skip
              refine w_iconst (v := 0) ok dX12_isFull_116 (by decide) ?_
              exact w_zret ok fin dX12_isFull_117 rfl (by decide) (by unfold F_X12_isFull; simp only [if_neg c1]; simp only [if_neg c3]; simp only [if_neg c5]; simp only [if_neg c7]; simp only [if_pos c9]; simp only [if_neg c10]; exact Pd.i)
            · skip
              refine w_iconst (v := 1) ok dX12_isFull_112 (by decide) ?_
              refine w_goto (tgt := 117) ok dX12_isFull_113 (by decide) ?_
              exact w_zret ok fin dX12_isFull_117 rfl (by decide) (by unfold F_X12_isFull; simp only [if_neg c1]; simp only [if_neg c3]; simp only [if_neg c5]; simp only [if_neg c7]; simp only [if_pos c9]; simp only [if_pos c10]; exact Pd.i)
          · skip
            by_cases c11 : a0 = 5
            · skip
              refine w_tabIn (tgt := 118) (off := 117) ok dX12_isFull_1 (by rw [c11]; decide) (by rw [c11]; decide) (by rw [c11]; rfl) (by decide) ?_
              refine w_aload_n ok dX12_isFull_118 0 rfl ?_
              refine w_iconst (v := 5) ok dX12_isFull_119 (by decide) ?_
              refine w_cV (As := [.int 5]) ok dX12_isFull_120 iX12_fresher (lX12_239 rfl) (rcv cls12 (congrArg Prod.fst s_130)) (ltM hnn (by decide)) (c_X12_fresher ro hnn 5  (hp6 c1 c3 c5 c7 c9 c11)) (by decide) rfl (Nat.le_of_ble_eq_true rfl) ?_
              refine w_iconst (v := 3) ok dX12_isFull_123 (by decide) ?_
              refine w_icmp_ne (tgt := 131) ok dX12_isFull_124 (by decide) (fun c12 => ?_) (fun c12 => ?_)
              · skip
                refine w_iconst (v := 0) ok dX12_isFull_131 (by decide) ?_
                exact w_zret ok fin dX12_isFull_132 rfl (by decide) (by unfold F_X12_isFull; simp only [if_neg c1]; simp only [if_neg c3]; simp only [if_neg c5]; simp only [if_neg c7]; simp only [if_neg c9]; simp only [if_pos c11]; simp only [if_neg c12]; exact Pd.i)
              · skip
                refine w_iconst (v := 1) ok dX12_isFull_127 (by decide) ?_
                refine w_goto (tgt := 132) ok dX12_isFull_128 (by decide) ?_
                exact w_zret ok fin dX12_isFull_132 rfl (by decide) (by unfold F_X12_isFull; simp only [if_neg c1]; simp only [if_neg c3]; simp only [if_neg c5]; simp only [if_neg c7]; simp only [if_neg c9]; simp only [if_pos c11]; simp only [if_pos c12]; exact Pd.i)
            · skip
              have n13 : a0.toInt ≠ 0 := ne_toInt c1
              have n14 : a0.toInt ≠ 1 := ne_toInt c3
              have n15 : a0.toInt ≠ 2 := ne_toInt c5
              have n16 : a0.toInt ≠ 3 := ne_toInt c7
              have n17 : a0.toInt ≠ 4 := ne_toInt c9
              have n18 : a0.toInt ≠ 5 := ne_toInt c11
              refine w_tabOut (tgt := 133) ok dX12_isFull_1 (by omega) (by decide) ?_
              refine w_iconst (v := 0) ok dX12_isFull_133 (by decide) ?_
              exact w_zret ok fin dX12_isFull_134 rfl (by decide) (by unfold F_X12_isFull; simp only [if_neg c1]; simp only [if_neg c3]; simp only [if_neg c5]; simp only [if_neg c7]; simp only [if_neg c9]; simp only [if_neg c11]; exact Pd.i)
def S1_X12_puts (a0 : Int32) (a1 : Int32) (I : SI) (J : SJ) : Int32 := (64 : Int32) + (F_X12_fresher 9 (u2 I 150 ((64 : Int32) + (F_X12_fresher 9 I J)).toNatClampNeg a0) J)
def S2_X12_puts (a0 : Int32) (a1 : Int32) (I : SI) (J : SJ) : SI := u2 (u2 I 150 ((64 : Int32) + (F_X12_fresher 9 I J)).toNatClampNeg a0) 151 (S1_X12_puts a0 a1 I J).toNatClampNeg a1
def S3_X12_puts (a0 : Int32) (a1 : Int32) (I : SI) (J : SJ) : SI := FI_X12_reads 9 ((F_X12_fresher 9 (S2_X12_puts a0 a1 I J) J) + 1) (S2_X12_puts a0 a1 I J) J
def FI_X12_puts (a0 : Int32) (a1 : Int32) (I : SI) (J : SJ) : SI := if (I 130 30) = 0 then (S3_X12_puts a0 a1 I J) else I
def H_X12_puts (a0 : Int32) (a1 : Int32) (I : SI) (J : SJ) : Prop := ((I 130 30) = 0 → H_X12_fresher 9 I J) ∧ ((I 130 30) = 0 → inR ((64 : Int32) + (F_X12_fresher 9 I J)) 128) ∧ ((I 130 30) = 0 → H_X12_fresher 9 (u2 I 150 ((64 : Int32) + (F_X12_fresher 9 I J)).toNatClampNeg a0) J) ∧ ((I 130 30) = 0 → inR (S1_X12_puts a0 a1 I J) 128) ∧ ((I 130 30) = 0 → H_X12_fresher 9 (S2_X12_puts a0 a1 I J) J) ∧ ((I 130 30) = 0 → H_X12_reads 9 ((F_X12_fresher 9 (S2_X12_puts a0 a1 I J) J) + 1) (S2_X12_puts a0 a1 I J) J)
set_option maxHeartbeats 1000000 in
set_option maxRecDepth 40000 in
theorem c_X12_puts {I : SI} {J : SJ} {R : SR} {n g : Nat} (ro : RM R) (hnn : nM ≤ n) (a0 : Int32) (a1 : Int32)  (hp : H_X12_puts a0 a1 I J) : MM 1 0 0 mX12_puts [.ref 130, .int a0, .int a1] I J R n g (Pd none (FI_X12_puts a0 a1 I J) J R n g) := by
  refine MM.of (by decide) (Nat.le_of_ble_eq_true rfl) fun K ok fin => ?_
  show WK K 0 0 0 [(0, .ref 130), (1, .int a0), (2, .int a1)] [] I J R n g
  obtain ⟨hp1, hp2, hp3, hp4, hp5, hp6⟩ := hp
  refine w_aload_n ok dX12_puts_0 0 rfl ?_
  refine w_getI ok dX12_puts_1 (fX12_223 rfl) (congrArg Prod.fst s_130) rfl (ltM hnn (by decide)) ?_
  refine w_if_eq (tgt := 8) ok dX12_puts_4 (by decide) (fun c1 => ?_) (fun c1 => ?_)
  · skip
    refine w_aload_n ok dX12_puts_8 0 rfl ?_
    refine w_getR ok dX12_puts_9 (fX12_67 rfl) (congrArg Prod.fst s_130) rfl (r_130_21 ro) (ltM hnn (by decide)) ?_
    refine w_bipush (v := 64) ok dX12_puts_12 (by decide) ?_
    refine w_aload_n ok dX12_puts_14 0 rfl ?_
    refine w_bipush (v := 9) ok dX12_puts_15 (by decide) ?_
    refine w_cV (As := [.int 9]) ok dX12_puts_17 iX12_fresher (lX12_239 rfl) (rcv cls12 (congrArg Prod.fst s_130)) (ltM hnn (by decide)) (c_X12_fresher ro hnn 9  (hp1 c1)) (by decide) rfl (Nat.le_of_ble_eq_true rfl) ?_
    show WK K 0 0 20 [(0, .ref 130), (1, .int a0), (2, .int a1)] [.int (F_X12_fresher 9 I J), .int 64, .ref 150] I J R n g
    refine w_iadd ok dX12_puts_20 ?_
    refine w_iload_n ok dX12_puts_21 1 rfl ?_
    refine x_iast (q := ((64 : Int32) + (F_X12_fresher 9 I J)).toNatClampNeg) ok dX12_puts_22 s_150 (hp2 c1) (by decide) (ltM hnn (by decide)) ?_
    refine w_aload_n ok dX12_puts_23 0 rfl ?_
    refine w_getR ok dX12_puts_24 (fX12_70 rfl) (congrArg Prod.fst s_130) rfl (r_130_22 ro) (ltM hnn (by decide)) ?_
    refine w_bipush (v := 64) ok dX12_puts_27 (by decide) ?_
    refine w_aload_n ok dX12_puts_29 0 rfl ?_
    refine w_bipush (v := 9) ok dX12_puts_30 (by decide) ?_
    refine w_cV (As := [.int 9]) ok dX12_puts_32 iX12_fresher (lX12_239 rfl) (rcv cls12 (congrArg Prod.fst s_130)) (ltM hnn (by decide)) (c_X12_fresher ro hnn 9  (hp3 c1)) (by decide) rfl (Nat.le_of_ble_eq_true rfl) ?_
    show WK K 0 0 35 [(0, .ref 130), (1, .int a0), (2, .int a1)] [.int (F_X12_fresher 9 (u2 I 150 ((64 : Int32) + (F_X12_fresher 9 I J)).toNatClampNeg a0) J), .int 64, .ref 151] (u2 I 150 ((64 : Int32) + (F_X12_fresher 9 I J)).toNatClampNeg a0) J R n g
    refine w_iadd ok dX12_puts_35 ?_
    show WK K 0 0 36 [(0, .ref 130), (1, .int a0), (2, .int a1)] [.int (S1_X12_puts a0 a1 I J), .ref 151] (u2 I 150 ((64 : Int32) + (F_X12_fresher 9 I J)).toNatClampNeg a0) J R n g
    refine w_iload_n ok dX12_puts_36 2 rfl ?_
    refine x_iast (q := (S1_X12_puts a0 a1 I J).toNatClampNeg) ok dX12_puts_37 s_151 (hp4 c1) (by decide) (ltM hnn (by decide)) ?_
    show WK K 0 0 38 [(0, .ref 130), (1, .int a0), (2, .int a1)] [] (S2_X12_puts a0 a1 I J) J R n g
    refine w_aload_n ok dX12_puts_38 0 rfl ?_
    refine w_bipush (v := 9) ok dX12_puts_39 (by decide) ?_
    refine w_aload_n ok dX12_puts_41 0 rfl ?_
    refine w_bipush (v := 9) ok dX12_puts_42 (by decide) ?_
    refine w_cV (As := [.int 9]) ok dX12_puts_44 iX12_fresher (lX12_239 rfl) (rcv cls12 (congrArg Prod.fst s_130)) (ltM hnn (by decide)) (c_X12_fresher ro hnn 9  (hp5 c1)) (by decide) rfl (Nat.le_of_ble_eq_true rfl) ?_
    show WK K 0 0 47 [(0, .ref 130), (1, .int a0), (2, .int a1)] [.int (F_X12_fresher 9 (S2_X12_puts a0 a1 I J) J), .int 9, .ref 130] (S2_X12_puts a0 a1 I J) J R n g
    refine w_iconst (v := 1) ok dX12_puts_47 (by decide) ?_
    refine w_iadd ok dX12_puts_48 ?_
    refine w_cV (As := [.int 9, .int ((F_X12_fresher 9 (S2_X12_puts a0 a1 I J) J) + 1)]) ok dX12_puts_49 iX12_reads (lX12_260 rfl) (rcv cls12 (congrArg Prod.fst s_130)) (ltM hnn (by decide)) (c_X12_reads ro hnn 9 ((F_X12_fresher 9 (S2_X12_puts a0 a1 I J) J) + 1)  (hp6 c1)) (by decide) rfl (Nat.le_of_ble_eq_true rfl) ?_
    show WK K 0 0 52 [(0, .ref 130), (1, .int a0), (2, .int a1)] [] (S3_X12_puts a0 a1 I J) J R n g
    exact w_vret ok fin dX12_puts_52 rfl (by unfold FI_X12_puts; simp only [if_pos c1]; exact Pd.i)
  · skip
    exact w_vret ok fin dX12_puts_7 rfl (by unfold FI_X12_puts; simp only [if_neg c1]; exact Pd.i)
def FI_X12_knot  (I : SI) (J : SJ) : SI := if (I 130 30) = 0 then (if (I 130 35) = 64 then FI_X12_wrong 2 I J else u2 I 130 35 ((I 130 35) + 1)) else I
set_option maxHeartbeats 1000000 in
set_option maxRecDepth 40000 in
theorem c_X12_knot {I : SI} {J : SJ} {R : SR} {n g : Nat} (ro : RM R) (hnn : nM ≤ n)    : MM 1 0 0 mX12_knot [.ref 130] I J R n g (Pd none (FI_X12_knot  I J) J R n g) := by
  refine MM.of (by decide) (Nat.le_of_ble_eq_true rfl) fun K ok fin => ?_
  show WK K 0 0 0 [(0, .ref 130)] [] I J R n g
  refine w_aload_n ok dX12_knot_0 0 rfl ?_
  refine w_getI ok dX12_knot_1 (fX12_223 rfl) (congrArg Prod.fst s_130) rfl (ltM hnn (by decide)) ?_
  refine w_if_eq (tgt := 8) ok dX12_knot_4 (by decide) (fun c1 => ?_) (fun c1 => ?_)
  · skip
    refine w_aload_n ok dX12_knot_8 0 rfl ?_
    refine w_getI ok dX12_knot_9 (fX12_288 rfl) (congrArg Prod.fst s_130) rfl (ltM hnn (by decide)) ?_
    refine w_bipush (v := 64) ok dX12_knot_12 (by decide) ?_
    refine w_icmp_ne (tgt := 25) ok dX12_knot_14 (by decide) (fun c2 => ?_) (fun c2 => ?_)
    · skip
      refine w_aload_n ok dX12_knot_25 0 rfl ?_
      refine w_dup ok dX12_knot_26 rfl ?_
      refine w_getI ok dX12_knot_27 (fX12_288 rfl) (congrArg Prod.fst s_130) rfl (ltM hnn (by decide)) ?_
      refine w_iconst (v := 1) ok dX12_knot_30 (by decide) ?_
      refine w_iadd ok dX12_knot_31 ?_
      refine w_putI ok dX12_knot_32 (fwX12_288 rfl) (congrArg Prod.fst s_130) rfl (ltM hnn (by decide)) ?_
      exact w_vret ok fin dX12_knot_35 rfl (by unfold FI_X12_knot; simp only [if_pos c1]; simp only [if_neg c2]; exact Pd.i)
    · skip
      refine w_aload_n ok dX12_knot_17 0 rfl ?_
      refine w_iconst (v := 2) ok dX12_knot_18 (by decide) ?_
      refine w_cV (As := [.int 2]) ok dX12_knot_19 iX12_wrong (lX12_232 rfl) (rcv cls12 (congrArg Prod.fst s_130)) (ltM hnn (by decide)) (c_X12_wrong ro hnn 2 ) (by decide) rfl (Nat.le_of_ble_eq_true rfl) ?_
      refine w_goto (tgt := 35) ok dX12_knot_22 (by decide) ?_
      exact w_vret ok fin dX12_knot_35 rfl (by unfold FI_X12_knot; simp only [if_pos c1]; simp only [if_pos c2]; exact Pd.i)
  · skip
    exact w_vret ok fin dX12_knot_7 rfl (by unfold FI_X12_knot; simp only [if_neg c1]; exact Pd.i)
def S1_X12_half (a0 : Nat) (la0 : Nat) (I : SI) (J : SJ) (i7 : Nat) (s7 : SI) : SI := u2 s7 a0 (nI i7).toNatClampNeg (s7 a0 (((nI la0) / 2) + (nI i7)).toNatClampNeg)
def B_X12_half_l7 (a0 : Nat) (la0 : Nat) (I : SI) (J : SJ) (i7 : Nat) (s7 : SI) : SI := (S1_X12_half a0 la0 I J i7 s7)
def F_X12_half_l7 (a0 : Nat) (la0 : Nat) (I : SI) (J : SJ) (s0 : SI) : SI := itN (B_X12_half_l7 a0 la0 I J) (((nI la0) / 2).toNatClampNeg) s0
def FI_X12_half (a0 : Nat) (la0 : Nat) (I : SI) (J : SJ) : SI := (F_X12_half_l7 a0 la0 I J I)
def H_X12_half (a0 : Nat) (la0 : Nat) (I : SI) (J : SJ) : Prop := (∀ (i7 : Nat) (s7 : SI), i7 < ((nI la0) / 2).toNatClampNeg → s7 = itN (B_X12_half_l7 a0 la0 I J) i7 I → inR (((nI la0) / 2) + (nI i7)) la0) ∧ (∀ (i7 : Nat) (s7 : SI), i7 < ((nI la0) / 2).toNatClampNeg → s7 = itN (B_X12_half_l7 a0 la0 I J) i7 I → inR (nI i7) la0)
set_option maxHeartbeats 1000000 in
set_option maxRecDepth 40000 in
theorem c_X12_half {I : SI} {J : SJ} {R : SR} {n g : Nat} (ro : RM R) (hnn : nM ≤ n) {a0 : Nat} {la0 : Nat} (hsa0 : SH a0 = (14, la0)) (hka0 : a0 < n) (hlen : la0 < 2 ^ 31)  (hp : H_X12_half a0 la0 I J) : MM 0 0 0 mX12_half [.ref a0] I J R n g (Pd none (FI_X12_half a0 la0 I J) J R n g) := by
  refine MM.of (by decide) (Nat.le_of_ble_eq_true rfl) fun K ok fin => ?_
  show WK K 0 0 0 [(0, .ref a0)] [] I J R n g
  obtain ⟨hp1, hp2⟩ := hp
  refine w_aload_n ok dX12_half_0 0 rfl ?_
  refine w_alen (v := nI la0) ok dX12_half_1 hsa0 (by decide) rfl hka0 ?_
  refine w_iconst (v := 2) ok dX12_half_2 (by decide) ?_
  refine w_idiv ok dX12_half_3 (by decide) ?_
  refine w_istore_n ok dX12_half_4 rfl (by decide) rfl ?_
  refine w_iconst (v := 0) ok dX12_half_5 (by decide) ?_
  refine w_istore_n ok dX12_half_6 rfl (by decide) rfl ?_
  refine w_loc [2, 1, 0] rfl ?_
  refine loop_for (σ := SI) (fun (i7 : Nat) (s7 : SI) => WK K 0 0 7 [(0, .ref a0), (1, .int ((nI la0) / 2)), (2, .int (nI i7))] [] s7 J R n g) (B_X12_half_l7 a0 la0 I J) (((nI la0) / 2).toNatClampNeg) (I) ?_ ?_
  · show WK K 0 0 7 [(0, .ref a0), (1, .int ((nI la0) / 2)), (2, .int (nI (((nI la0) / 2).toNatClampNeg)))] [] (F_X12_half_l7 a0 la0 I J I) J R n g
    have e1 : ((nI la0) / 2) ≤ (nI (((nI la0) / 2).toNatClampNeg)) := cnt_ge _
    refine w_iload_n ok dX12_half_7 2 rfl ?_
    refine w_iload_n ok dX12_half_8 1 rfl ?_
    refine w_icmp_ge (tgt := 26) ok dX12_half_9 (by decide) (fun _ => ?_) (fun h => absurd e1 h)
    exact w_vret ok fin dX12_half_26 rfl (by unfold FI_X12_half; exact Pd.i)
  · intro i7 s7 hi7 hs7 k7
    show WK K 0 0 7 [(0, .ref a0), (1, .int ((nI la0) / 2)), (2, .int (nI i7))] [] s7 J R n g
    have e2 : ¬ (((nI la0) / 2) ≤ (nI i7)) := cnt_lt hi7
    refine w_iload_n ok dX12_half_7 2 rfl ?_
    refine w_iload_n ok dX12_half_8 1 rfl ?_
    refine w_icmp_ge (tgt := 26) ok dX12_half_9 (by decide) (fun h => absurd h e2) (fun _ => ?_)
    refine w_aload_n ok dX12_half_12 0 rfl ?_
    refine w_iload_n ok dX12_half_13 2 rfl ?_
    refine w_aload_n ok dX12_half_14 0 rfl ?_
    refine w_iload_n ok dX12_half_15 1 rfl ?_
    refine w_iload_n ok dX12_half_16 2 rfl ?_
    refine w_iadd ok dX12_half_17 ?_
    refine x_iald (q := (((nI la0) / 2) + (nI i7)).toNatClampNeg) ok dX12_half_18 hsa0 (hp1 i7 s7 hi7 hs7) hlen hka0 ?_
    refine x_iast (q := (nI i7).toNatClampNeg) ok dX12_half_19 hsa0 (hp2 i7 s7 hi7 hs7) hlen hka0 ?_
    show WK K 0 0 20 [(0, .ref a0), (1, .int ((nI la0) / 2)), (2, .int (nI i7))] [] (S1_X12_half a0 la0 I J i7 s7) J R n g
    refine w_iinc (v := (nI i7) + 1) ok dX12_half_20 2 rfl rfl (by decide) rfl ?_
    refine w_goto (tgt := 7) ok dX12_half_23 (by decide) ?_
    have eB : B_X12_half_l7 a0 la0 I J i7 s7 = (S1_X12_half a0 la0 I J i7 s7) := by
      unfold B_X12_half_l7; exact rfl
    have kk := k7
    rw [eB] at kk
    refine w_loc [1, 2, 0] rfl ?_
    rw [nI_1 i7]
    exact kk
def F_X12_fault (a0 : Int32) (I : SI) (J : SJ) : Int32 := if a0 = 0 then (u2 I 130 0 0) 130 32 else (if a0 = 1 then (u2 I 130 0 0) 130 33 else -1)
def FI_X12_fault (a0 : Int32) (I : SI) (J : SJ) : SI := if a0 = 0 then u2 I 130 0 0 else (if a0 = 1 then u2 I 130 0 0 else u2 I 130 0 0)
set_option maxHeartbeats 1000000 in
set_option maxRecDepth 40000 in
theorem c_X12_fault {I : SI} {J : SJ} {R : SR} {n g : Nat} (ro : RM R) (hnn : nM ≤ n) (a0 : Int32)   : MM 0 0 0 mX12_fault [.ref 130, .int a0] I J R n g (Pd (some (.int (F_X12_fault a0 I J))) (FI_X12_fault a0 I J) J R n g) := by
  refine MM.of (by decide) (Nat.le_of_ble_eq_true rfl) fun K ok fin => ?_
  show WK K 0 0 0 [(0, .ref 130), (1, .int a0)] [] I J R n g
  refine w_aload_n ok dX12_fault_0 0 rfl ?_
  refine w_iconst (v := 0) ok dX12_fault_1 (by decide) ?_
  refine w_putI ok dX12_fault_2 (fwX12_169 rfl) (congrArg Prod.fst s_130) rfl (ltM hnn (by decide)) ?_
  refine w_iload_n ok dX12_fault_5 1 rfl ?_
  refine w_if_ne (tgt := 16) ok dX12_fault_6 (by decide) (fun c1 => ?_) (fun c1 => ?_)
  · skip
    refine w_iload_n ok dX12_fault_16 1 rfl ?_
    refine w_iconst (v := 1) ok dX12_fault_17 (by decide) ?_
    refine w_icmp_ne (tgt := 28) ok dX12_fault_18 (by decide) (fun c2 => ?_) (fun c2 => ?_)
    · skip
      refine w_iconst (v := (-1)) ok dX12_fault_28 (by decide) ?_
      exact w_iret ok fin dX12_fault_29 rfl (by unfold F_X12_fault FI_X12_fault; simp only [if_neg c1]; simp only [if_neg c2]; exact Pd.i)
    · skip
      refine w_aload_n ok dX12_fault_21 0 rfl ?_
      refine w_getI ok dX12_fault_22 (fX12_73 rfl) (congrArg Prod.fst s_130) rfl (ltM hnn (by decide)) ?_
      refine w_goto (tgt := 29) ok dX12_fault_25 (by decide) ?_
      exact w_iret ok fin dX12_fault_29 rfl (by unfold F_X12_fault FI_X12_fault; simp only [if_neg c1]; simp only [if_pos c2]; exact Pd.i)
  · skip
    refine w_aload_n ok dX12_fault_9 0 rfl ?_
    refine w_getI ok dX12_fault_10 (fX12_321 rfl) (congrArg Prod.fst s_130) rfl (ltM hnn (by decide)) ?_
    refine w_goto (tgt := 29) ok dX12_fault_13 (by decide) ?_
    exact w_iret ok fin dX12_fault_29 rfl (by unfold F_X12_fault FI_X12_fault; simp only [if_pos c1]; exact Pd.i)
def F_X12_named (a0 : Int32) (a1 : Int32) (I : SI) (J : SJ) : Int32 := if a0 = 0 then F_X12_found 133 12 0 ((u2 I 130 0 0) 132 0) a1 (u2 I 130 0 0) J else (if a0 = 1 then F_X12_found 136 16 0 ((u2 I 130 0 0) 132 1) a1 (u2 I 130 0 0) J else (if a0 = 2 then F_X12_found 140 8 0 ((u2 I 130 0 0) 132 3) a1 (u2 I 130 0 0) J else (if a0 = 3 then F_X12_found 144 8 0 ((u2 I 130 0 0) 132 4) a1 (u2 I 130 0 0) J else -1)))
def FI_X12_named (a0 : Int32) (a1 : Int32) (I : SI) (J : SJ) : SI := if a0 = 0 then u2 I 130 0 0 else (if a0 = 1 then u2 I 130 0 0 else (if a0 = 2 then u2 I 130 0 0 else (if a0 = 3 then u2 I 130 0 0 else u2 I 130 0 0)))
def H_X12_named (a0 : Int32) (a1 : Int32) (I : SI) (J : SJ) : Prop := (a0 = 0 → H_X12_found 133 12 0 ((u2 I 130 0 0) 132 0) a1 (u2 I 130 0 0) J) ∧ (¬ (a0 = 0) → a0 = 1 → H_X12_found 136 16 0 ((u2 I 130 0 0) 132 1) a1 (u2 I 130 0 0) J) ∧ (¬ (a0 = 0) → ¬ (a0 = 1) → a0 = 2 → H_X12_found 140 8 0 ((u2 I 130 0 0) 132 3) a1 (u2 I 130 0 0) J) ∧ (¬ (a0 = 0) → ¬ (a0 = 1) → ¬ (a0 = 2) → a0 = 3 → H_X12_found 144 8 0 ((u2 I 130 0 0) 132 4) a1 (u2 I 130 0 0) J)
set_option maxHeartbeats 1000000 in
set_option maxRecDepth 40000 in
theorem c_X12_named {I : SI} {J : SJ} {R : SR} {n g : Nat} (ro : RM R) (hnn : nM ≤ n) (a0 : Int32) (a1 : Int32)  (hp : H_X12_named a0 a1 I J) : MM 1 0 0 mX12_named [.ref 130, .int a0, .int a1] I J R n g (Pd (some (.int (F_X12_named a0 a1 I J))) (FI_X12_named a0 a1 I J) J R n g) := by
  refine MM.of (by decide) (Nat.le_of_ble_eq_true rfl) fun K ok fin => ?_
  show WK K 0 0 0 [(0, .ref 130), (1, .int a0), (2, .int a1)] [] I J R n g
  obtain ⟨hp1, hp2, hp3, hp4⟩ := hp
  refine w_aload_n ok dX12_named_0 0 rfl ?_
  refine w_iconst (v := 0) ok dX12_named_1 (by decide) ?_
  refine w_putI ok dX12_named_2 (fwX12_169 rfl) (congrArg Prod.fst s_130) rfl (ltM hnn (by decide)) ?_
  refine w_iload_n ok dX12_named_5 1 rfl ?_
  by_cases c1 : a0 = 0
  · skip
    refine w_tabIn (tgt := 36) (off := 30) ok dX12_named_6 (by rw [c1]; decide) (by rw [c1]; decide) (by rw [c1]; rfl) (by decide) ?_
    refine w_aload_n ok dX12_named_36 0 rfl ?_
    refine w_getR ok dX12_named_37 (fX12_16 rfl) (congrArg Prod.fst s_130) rfl (r_130_4 ro) (ltM hnn (by decide)) ?_
    refine w_iconst (v := 0) ok dX12_named_40 (by decide) ?_
    refine w_aload_n ok dX12_named_41 0 rfl ?_
    refine w_getR ok dX12_named_42 (fX12_13 rfl) (congrArg Prod.fst s_130) rfl (r_130_3 ro) (ltM hnn (by decide)) ?_
    refine w_iconst (v := 0) ok dX12_named_45 (by decide) ?_
    refine x_iald (q := 0) ok dX12_named_46 s_132 (by decide) (by decide) (ltM hnn (by decide)) ?_
    refine w_iload_n ok dX12_named_47 2 rfl ?_
    refine w_cS (As := [.ref 133, .int 0, .int ((u2 I 130 0 0) 132 0), .int a1]) ok dX12_named_48 iX12_found (lX12_235 rfl) (c_X12_found ro hnn 0 ((u2 I 130 0 0) 132 0) a1 s_133 (ltM hnn (by decide)) (sh_len s_133) (hp1 c1)) (by decide) rfl (Nat.le_of_ble_eq_true rfl) ?_
    exact w_iret ok fin dX12_named_51 rfl (by unfold F_X12_named FI_X12_named; simp only [if_pos c1]; exact Pd.i)
  · skip
    by_cases c2 : a0 = 1
    · skip
      refine w_tabIn (tgt := 52) (off := 46) ok dX12_named_6 (by rw [c2]; decide) (by rw [c2]; decide) (by rw [c2]; rfl) (by decide) ?_
      refine w_aload_n ok dX12_named_52 0 rfl ?_
      refine w_getR ok dX12_named_53 (fX12_25 rfl) (congrArg Prod.fst s_130) rfl (r_130_7 ro) (ltM hnn (by decide)) ?_
      refine w_iconst (v := 0) ok dX12_named_56 (by decide) ?_
      refine w_aload_n ok dX12_named_57 0 rfl ?_
      refine w_getR ok dX12_named_58 (fX12_13 rfl) (congrArg Prod.fst s_130) rfl (r_130_3 ro) (ltM hnn (by decide)) ?_
      refine w_iconst (v := 1) ok dX12_named_61 (by decide) ?_
      refine x_iald (q := 1) ok dX12_named_62 s_132 (by decide) (by decide) (ltM hnn (by decide)) ?_
      refine w_iload_n ok dX12_named_63 2 rfl ?_
      refine w_cS (As := [.ref 136, .int 0, .int ((u2 I 130 0 0) 132 1), .int a1]) ok dX12_named_64 iX12_found (lX12_235 rfl) (c_X12_found ro hnn 0 ((u2 I 130 0 0) 132 1) a1 s_136 (ltM hnn (by decide)) (sh_len s_136) (hp2 c1 c2)) (by decide) rfl (Nat.le_of_ble_eq_true rfl) ?_
      exact w_iret ok fin dX12_named_67 rfl (by unfold F_X12_named FI_X12_named; simp only [if_neg c1]; simp only [if_pos c2]; exact Pd.i)
    · skip
      by_cases c3 : a0 = 2
      · skip
        refine w_tabIn (tgt := 68) (off := 62) ok dX12_named_6 (by rw [c3]; decide) (by rw [c3]; decide) (by rw [c3]; rfl) (by decide) ?_
        refine w_aload_n ok dX12_named_68 0 rfl ?_
        refine w_getR ok dX12_named_69 (fX12_37 rfl) (congrArg Prod.fst s_130) rfl (r_130_11 ro) (ltM hnn (by decide)) ?_
        refine w_iconst (v := 0) ok dX12_named_72 (by decide) ?_
        refine w_aload_n ok dX12_named_73 0 rfl ?_
        refine w_getR ok dX12_named_74 (fX12_13 rfl) (congrArg Prod.fst s_130) rfl (r_130_3 ro) (ltM hnn (by decide)) ?_
        refine w_iconst (v := 3) ok dX12_named_77 (by decide) ?_
        refine x_iald (q := 3) ok dX12_named_78 s_132 (by decide) (by decide) (ltM hnn (by decide)) ?_
        refine w_iload_n ok dX12_named_79 2 rfl ?_
        refine w_cS (As := [.ref 140, .int 0, .int ((u2 I 130 0 0) 132 3), .int a1]) ok dX12_named_80 iX12_found (lX12_235 rfl) (c_X12_found ro hnn 0 ((u2 I 130 0 0) 132 3) a1 s_140 (ltM hnn (by decide)) (sh_len s_140) (hp3 c1 c2 c3)) (by decide) rfl (Nat.le_of_ble_eq_true rfl) ?_
        exact w_iret ok fin dX12_named_83 rfl (by unfold F_X12_named FI_X12_named; simp only [if_neg c1]; simp only [if_neg c2]; simp only [if_pos c3]; exact Pd.i)
      · skip
        by_cases c4 : a0 = 3
        · skip
          refine w_tabIn (tgt := 84) (off := 78) ok dX12_named_6 (by rw [c4]; decide) (by rw [c4]; decide) (by rw [c4]; rfl) (by decide) ?_
          refine w_aload_n ok dX12_named_84 0 rfl ?_
          refine w_getR ok dX12_named_85 (fX12_49 rfl) (congrArg Prod.fst s_130) rfl (r_130_15 ro) (ltM hnn (by decide)) ?_
          refine w_iconst (v := 0) ok dX12_named_88 (by decide) ?_
          refine w_aload_n ok dX12_named_89 0 rfl ?_
          refine w_getR ok dX12_named_90 (fX12_13 rfl) (congrArg Prod.fst s_130) rfl (r_130_3 ro) (ltM hnn (by decide)) ?_
          refine w_iconst (v := 4) ok dX12_named_93 (by decide) ?_
          refine x_iald (q := 4) ok dX12_named_94 s_132 (by decide) (by decide) (ltM hnn (by decide)) ?_
          refine w_iload_n ok dX12_named_95 2 rfl ?_
          refine w_cS (As := [.ref 144, .int 0, .int ((u2 I 130 0 0) 132 4), .int a1]) ok dX12_named_96 iX12_found (lX12_235 rfl) (c_X12_found ro hnn 0 ((u2 I 130 0 0) 132 4) a1 s_144 (ltM hnn (by decide)) (sh_len s_144) (hp4 c1 c2 c3 c4)) (by decide) rfl (Nat.le_of_ble_eq_true rfl) ?_
          exact w_iret ok fin dX12_named_99 rfl (by unfold F_X12_named FI_X12_named; simp only [if_neg c1]; simp only [if_neg c2]; simp only [if_neg c3]; simp only [if_pos c4]; exact Pd.i)
        · skip
          have n5 : a0.toInt ≠ 0 := ne_toInt c1
          have n6 : a0.toInt ≠ 1 := ne_toInt c2
          have n7 : a0.toInt ≠ 2 := ne_toInt c3
          have n8 : a0.toInt ≠ 3 := ne_toInt c4
          refine w_tabOut (tgt := 100) ok dX12_named_6 (by omega) (by decide) ?_
          refine w_iconst (v := (-1)) ok dX12_named_100 (by decide) ?_
          exact w_iret ok fin dX12_named_101 rfl (by unfold F_X12_named FI_X12_named; simp only [if_neg c1]; simp only [if_neg c2]; simp only [if_neg c3]; simp only [if_neg c4]; exact Pd.i)
def F_X12_is (a0 : Int32) (I : SI) (J : SJ) : Int64 := if a0 = 0 then 0 else 1
set_option maxHeartbeats 1000000 in
set_option maxRecDepth 40000 in
theorem c_X12_is {I : SI} {J : SJ} {R : SR} {n g : Nat} (ro : RM R) (hnn : nM ≤ n) (a0 : Int32)   : MM 0 0 0 mX12_is [.int a0] I J R n g (Pd (some (.long (F_X12_is a0 I J))) I J R n g) := by
  refine MM.of (by decide) (Nat.le_of_ble_eq_true rfl) fun K ok fin => ?_
  show WK K 0 0 0 [(0, .int a0)] [] I J R n g
  refine w_iload_n ok dX12_is_0 0 rfl ?_
  refine w_if_eq (tgt := 8) ok dX12_is_1 (by decide) (fun c1 => ?_) (fun c1 => ?_)
  · skip
    refine w_lconst (v := 0) ok dX12_is_8 (by decide) ?_
    exact w_lret ok fin dX12_is_9 rfl (by unfold F_X12_is; simp only [if_pos c1]; exact Pd.i)
  · skip
    refine w_lconst (v := 1) ok dX12_is_4 (by decide) ?_
    refine w_goto (tgt := 9) ok dX12_is_5 (by decide) ?_
    exact w_lret ok fin dX12_is_9 rfl (by unfold F_X12_is; simp only [if_neg c1]; exact Pd.i)
def S1_X12_works (a0 : Int32) (I : SI) (J : SJ) : SJ := u2 J 153 (((u2 I 130 38 ((I 130 38) - 1)) 130 38) - 1).toNatClampNeg ((J 153 ((I 130 38) - 2).toNatClampNeg) * (J 153 ((I 130 38) - 1).toNatClampNeg))
def S2_X12_works (a0 : Int32) (I : SI) (J : SJ) : Int32 := lg_cmp ((J 153 ((I 130 38) - 2).toNatClampNeg) * (J 153 ((I 130 38) - 1).toNatClampNeg)) 1000000000000
def S3_X12_works (a0 : Int32) (I : SI) (J : SJ) : Int32 := lg_cmp ((J 153 ((I 130 38) - 2).toNatClampNeg) * (J 153 ((I 130 38) - 1).toNatClampNeg)) (-1000000000000)
def S4_X12_works (a0 : Int32) (I : SI) (J : SJ) : Int32 := lg_cmp (absL (J 153 ((I 130 38) - 1).toNatClampNeg)) (1000000000000 / (absL (J 153 ((I 130 38) - 2).toNatClampNeg)))
def S5_X12_works (a0 : Int32) (I : SI) (J : SJ) : SJ := u2 J 153 (((u2 I 130 38 ((I 130 38) - 1)) 130 38) - 1).toNatClampNeg ((J 153 ((I 130 38) - 2).toNatClampNeg) * (J 153 ((I 130 38) - 1).toNatClampNeg))
def S6_X12_works (a0 : Int32) (I : SI) (J : SJ) : Int32 := lg_cmp ((J 153 ((I 130 38) - 2).toNatClampNeg) * (J 153 ((I 130 38) - 1).toNatClampNeg)) 1000000000000
def S7_X12_works (a0 : Int32) (I : SI) (J : SJ) : Int32 := lg_cmp ((J 153 ((I 130 38) - 2).toNatClampNeg) * (J 153 ((I 130 38) - 1).toNatClampNeg)) (-1000000000000)
def S8_X12_works (a0 : Int32) (I : SI) (J : SJ) : SJ := u2 J 153 (((u2 I 130 38 ((I 130 38) - 1)) 130 38) - 1).toNatClampNeg ((J 153 ((I 130 38) - 2).toNatClampNeg) + (J 153 ((I 130 38) - 1).toNatClampNeg))
def S9_X12_works (a0 : Int32) (I : SI) (J : SJ) : Int32 := lg_cmp ((J 153 ((I 130 38) - 2).toNatClampNeg) + (J 153 ((I 130 38) - 1).toNatClampNeg)) 1000000000000
def S10_X12_works (a0 : Int32) (I : SI) (J : SJ) : Int32 := lg_cmp ((J 153 ((I 130 38) - 2).toNatClampNeg) + (J 153 ((I 130 38) - 1).toNatClampNeg)) (-1000000000000)
def S11_X12_works (a0 : Int32) (I : SI) (J : SJ) : SJ := u2 J 153 (((u2 I 130 38 ((I 130 38) - 1)) 130 38) - 1).toNatClampNeg ((J 153 ((I 130 38) - 2).toNatClampNeg) - (J 153 ((I 130 38) - 1).toNatClampNeg))
def S12_X12_works (a0 : Int32) (I : SI) (J : SJ) : Int32 := lg_cmp ((J 153 ((I 130 38) - 2).toNatClampNeg) - (J 153 ((I 130 38) - 1).toNatClampNeg)) 1000000000000
def S13_X12_works (a0 : Int32) (I : SI) (J : SJ) : Int32 := lg_cmp ((J 153 ((I 130 38) - 2).toNatClampNeg) - (J 153 ((I 130 38) - 1).toNatClampNeg)) (-1000000000000)
def S14_X12_works (a0 : Int32) (I : SI) (J : SJ) : SJ := u2 J 153 (((u2 I 130 38 ((I 130 38) - 1)) 130 38) - 1).toNatClampNeg ((J 153 ((I 130 38) - 2).toNatClampNeg) / (J 153 ((I 130 38) - 1).toNatClampNeg))
def S15_X12_works (a0 : Int32) (I : SI) (J : SJ) : Int32 := lg_cmp ((J 153 ((I 130 38) - 2).toNatClampNeg) / (J 153 ((I 130 38) - 1).toNatClampNeg)) 1000000000000
def S16_X12_works (a0 : Int32) (I : SI) (J : SJ) : Int32 := lg_cmp ((J 153 ((I 130 38) - 2).toNatClampNeg) / (J 153 ((I 130 38) - 1).toNatClampNeg)) (-1000000000000)
def S17_X12_works (a0 : Int32) (I : SI) (J : SJ) : SJ := u2 J 153 (((u2 I 130 38 ((I 130 38) - 1)) 130 38) - 1).toNatClampNeg (F_X12_is 0 (u2 I 130 38 ((I 130 38) - 1)) J)
def S18_X12_works (a0 : Int32) (I : SI) (J : SJ) : SJ := u2 J 153 (((u2 I 130 38 ((I 130 38) - 1)) 130 38) - 1).toNatClampNeg (F_X12_is 1 (u2 I 130 38 ((I 130 38) - 1)) J)
def S19_X12_works (a0 : Int32) (I : SI) (J : SJ) : SJ := u2 J 153 (((u2 I 130 38 ((I 130 38) - 1)) 130 38) - 1).toNatClampNeg (F_X12_is 0 (u2 I 130 38 ((I 130 38) - 1)) J)
def S20_X12_works (a0 : Int32) (I : SI) (J : SJ) : SJ := u2 J 153 (((u2 I 130 38 ((I 130 38) - 1)) 130 38) - 1).toNatClampNeg (F_X12_is 1 (u2 I 130 38 ((I 130 38) - 1)) J)
def S21_X12_works (a0 : Int32) (I : SI) (J : SJ) : SJ := u2 J 153 (((u2 I 130 38 ((I 130 38) - 1)) 130 38) - 1).toNatClampNeg (F_X12_is 0 (u2 I 130 38 ((I 130 38) - 1)) J)
def S22_X12_works (a0 : Int32) (I : SI) (J : SJ) : SJ := u2 J 153 (((u2 I 130 38 ((I 130 38) - 1)) 130 38) - 1).toNatClampNeg (F_X12_is 1 (u2 I 130 38 ((I 130 38) - 1)) J)
def S23_X12_works (a0 : Int32) (I : SI) (J : SJ) : SJ := u2 J 153 (((u2 I 130 38 ((I 130 38) - 1)) 130 38) - 1).toNatClampNeg (F_X12_is 0 (u2 I 130 38 ((I 130 38) - 1)) J)
def S24_X12_works (a0 : Int32) (I : SI) (J : SJ) : SJ := u2 J 153 (((u2 I 130 38 ((I 130 38) - 1)) 130 38) - 1).toNatClampNeg (F_X12_is 1 (u2 I 130 38 ((I 130 38) - 1)) J)
def S25_X12_works (a0 : Int32) (I : SI) (J : SJ) : SJ := u2 J 153 (((u2 I 130 38 ((I 130 38) - 1)) 130 38) - 1).toNatClampNeg (F_X12_is 0 (u2 I 130 38 ((I 130 38) - 1)) J)
def S26_X12_works (a0 : Int32) (I : SI) (J : SJ) : SJ := u2 J 153 (((u2 I 130 38 ((I 130 38) - 1)) 130 38) - 1).toNatClampNeg (F_X12_is 1 (u2 I 130 38 ((I 130 38) - 1)) J)
def S27_X12_works (a0 : Int32) (I : SI) (J : SJ) : SJ := u2 J 153 (((u2 I 130 38 ((I 130 38) - 1)) 130 38) - 1).toNatClampNeg (F_X12_is 0 (u2 I 130 38 ((I 130 38) - 1)) J)
def S28_X12_works (a0 : Int32) (I : SI) (J : SJ) : SJ := u2 J 153 (((u2 I 130 38 ((I 130 38) - 1)) 130 38) - 1).toNatClampNeg (F_X12_is 1 (u2 I 130 38 ((I 130 38) - 1)) J)
def S29_X12_works (a0 : Int32) (I : SI) (J : SJ) : SJ := u2 J 153 (((u2 I 130 38 ((I 130 38) - 1)) 130 38) - 1).toNatClampNeg (F_X12_is 0 (u2 I 130 38 ((I 130 38) - 1)) J)
def S30_X12_works (a0 : Int32) (I : SI) (J : SJ) : SJ := u2 J 153 (((u2 I 130 38 ((I 130 38) - 1)) 130 38) - 1).toNatClampNeg (F_X12_is 0 (u2 I 130 38 ((I 130 38) - 1)) J)
def S31_X12_works (a0 : Int32) (I : SI) (J : SJ) : SJ := u2 J 153 (((u2 I 130 38 ((I 130 38) - 1)) 130 38) - 1).toNatClampNeg (F_X12_is 1 (u2 I 130 38 ((I 130 38) - 1)) J)
def S32_X12_works (a0 : Int32) (I : SI) (J : SJ) : SJ := u2 J 153 (((u2 I 130 38 ((I 130 38) - 1)) 130 38) - 1).toNatClampNeg (F_X12_is 1 (u2 I 130 38 ((I 130 38) - 1)) J)
def S33_X12_works (a0 : Int32) (I : SI) (J : SJ) : SJ := u2 J 153 (((u2 I 130 38 ((I 130 38) - 1)) 130 38) - 1).toNatClampNeg (F_X12_is 0 (u2 I 130 38 ((I 130 38) - 1)) J)
def S34_X12_works (a0 : Int32) (I : SI) (J : SJ) : SJ := u2 J 153 (((u2 I 130 38 ((I 130 38) - 1)) 130 38) - 1).toNatClampNeg (F_X12_is 1 (u2 I 130 38 ((I 130 38) - 1)) J)
def F_X12_works (a0 : Int32) (I : SI) (J : SJ) : Int32 := if a0 = 260 then (if (lg_cmp (J 153 ((I 130 38) - 1).toNatClampNeg) 0) = 0 then 1 else 1) else (if a0 = 42 then (if (lg_cmp (J 153 ((I 130 38) - 2).toNatClampNeg) 0) = 0 then (if (0 : Int32) < (S2_X12_works a0 I J) then 0 else (if (S3_X12_works a0 I J) < 0 then 0 else 1)) else (if (S4_X12_works a0 I J) ≤ 0 then (if (0 : Int32) < (S6_X12_works a0 I J) then 0 else (if (S7_X12_works a0 I J) < 0 then 0 else 1)) else 0)) else (if a0 = 43 then (if (0 : Int32) < (S9_X12_works a0 I J) then 0 else (if (S10_X12_works a0 I J) < 0 then 0 else 1)) else (if a0 = 45 then (if (0 : Int32) < (S12_X12_works a0 I J) then 0 else (if (S13_X12_works a0 I J) < 0 then 0 else 1)) else (if a0 = 47 then (if (lg_cmp (J 153 ((I 130 38) - 1).toNatClampNeg) 0) = 0 then 0 else (if (0 : Int32) < (S15_X12_works a0 I J) then 0 else (if (S16_X12_works a0 I J) < 0 then 0 else 1))) else (if a0 = 60 then (if (0 : Int32) ≤ (lg_cmp (J 153 ((I 130 38) - 2).toNatClampNeg) (J 153 ((I 130 38) - 1).toNatClampNeg)) then (if (0 : Int32) < (lg_cmp (F_X12_is 0 (u2 I 130 38 ((I 130 38) - 1)) J) 1000000000000) then 0 else (if (lg_cmp (F_X12_is 0 (u2 I 130 38 ((I 130 38) - 1)) J) (-1000000000000)) < 0 then 0 else 1)) else (if (0 : Int32) < (lg_cmp (F_X12_is 1 (u2 I 130 38 ((I 130 38) - 1)) J) 1000000000000) then 0 else (if (lg_cmp (F_X12_is 1 (u2 I 130 38 ((I 130 38) - 1)) J) (-1000000000000)) < 0 then 0 else 1))) else (if a0 = 61 then (if (lg_cmp (J 153 ((I 130 38) - 2).toNatClampNeg) (J 153 ((I 130 38) - 1).toNatClampNeg)) = 0 then (if (0 : Int32) < (lg_cmp (F_X12_is 1 (u2 I 130 38 ((I 130 38) - 1)) J) 1000000000000) then 0 else (if (lg_cmp (F_X12_is 1 (u2 I 130 38 ((I 130 38) - 1)) J) (-1000000000000)) < 0 then 0 else 1)) else (if (0 : Int32) < (lg_cmp (F_X12_is 0 (u2 I 130 38 ((I 130 38) - 1)) J) 1000000000000) then 0 else (if (lg_cmp (F_X12_is 0 (u2 I 130 38 ((I 130 38) - 1)) J) (-1000000000000)) < 0 then 0 else 1))) else (if a0 = 62 then (if (lg_cmp (J 153 ((I 130 38) - 2).toNatClampNeg) (J 153 ((I 130 38) - 1).toNatClampNeg)) ≤ 0 then (if (0 : Int32) < (lg_cmp (F_X12_is 0 (u2 I 130 38 ((I 130 38) - 1)) J) 1000000000000) then 0 else (if (lg_cmp (F_X12_is 0 (u2 I 130 38 ((I 130 38) - 1)) J) (-1000000000000)) < 0 then 0 else 1)) else (if (0 : Int32) < (lg_cmp (F_X12_is 1 (u2 I 130 38 ((I 130 38) - 1)) J) 1000000000000) then 0 else (if (lg_cmp (F_X12_is 1 (u2 I 130 38 ((I 130 38) - 1)) J) (-1000000000000)) < 0 then 0 else 1))) else (if a0 = 256 then (if (0 : Int32) < (lg_cmp (J 153 ((I 130 38) - 2).toNatClampNeg) (J 153 ((I 130 38) - 1).toNatClampNeg)) then (if (0 : Int32) < (lg_cmp (F_X12_is 0 (u2 I 130 38 ((I 130 38) - 1)) J) 1000000000000) then 0 else (if (lg_cmp (F_X12_is 0 (u2 I 130 38 ((I 130 38) - 1)) J) (-1000000000000)) < 0 then 0 else 1)) else (if (0 : Int32) < (lg_cmp (F_X12_is 1 (u2 I 130 38 ((I 130 38) - 1)) J) 1000000000000) then 0 else (if (lg_cmp (F_X12_is 1 (u2 I 130 38 ((I 130 38) - 1)) J) (-1000000000000)) < 0 then 0 else 1))) else (if a0 = 257 then (if (lg_cmp (J 153 ((I 130 38) - 2).toNatClampNeg) (J 153 ((I 130 38) - 1).toNatClampNeg)) = 0 then (if (0 : Int32) < (lg_cmp (F_X12_is 0 (u2 I 130 38 ((I 130 38) - 1)) J) 1000000000000) then 0 else (if (lg_cmp (F_X12_is 0 (u2 I 130 38 ((I 130 38) - 1)) J) (-1000000000000)) < 0 then 0 else 1)) else (if (0 : Int32) < (lg_cmp (F_X12_is 1 (u2 I 130 38 ((I 130 38) - 1)) J) 1000000000000) then 0 else (if (lg_cmp (F_X12_is 1 (u2 I 130 38 ((I 130 38) - 1)) J) (-1000000000000)) < 0 then 0 else 1))) else (if a0 = 258 then (if (lg_cmp (J 153 ((I 130 38) - 2).toNatClampNeg) (J 153 ((I 130 38) - 1).toNatClampNeg)) < 0 then (if (0 : Int32) < (lg_cmp (F_X12_is 0 (u2 I 130 38 ((I 130 38) - 1)) J) 1000000000000) then 0 else (if (lg_cmp (F_X12_is 0 (u2 I 130 38 ((I 130 38) - 1)) J) (-1000000000000)) < 0 then 0 else 1)) else (if (0 : Int32) < (lg_cmp (F_X12_is 1 (u2 I 130 38 ((I 130 38) - 1)) J) 1000000000000) then 0 else (if (lg_cmp (F_X12_is 1 (u2 I 130 38 ((I 130 38) - 1)) J) (-1000000000000)) < 0 then 0 else 1))) else (if a0 = 261 then (if (lg_cmp (J 153 ((I 130 38) - 2).toNatClampNeg) 0) = 0 then (if (0 : Int32) < (lg_cmp (F_X12_is 0 (u2 I 130 38 ((I 130 38) - 1)) J) 1000000000000) then 0 else (if (lg_cmp (F_X12_is 0 (u2 I 130 38 ((I 130 38) - 1)) J) (-1000000000000)) < 0 then 0 else 1)) else (if (lg_cmp (J 153 ((I 130 38) - 1).toNatClampNeg) 0) = 0 then (if (0 : Int32) < (lg_cmp (F_X12_is 0 (u2 I 130 38 ((I 130 38) - 1)) J) 1000000000000) then 0 else (if (lg_cmp (F_X12_is 0 (u2 I 130 38 ((I 130 38) - 1)) J) (-1000000000000)) < 0 then 0 else 1)) else (if (0 : Int32) < (lg_cmp (F_X12_is 1 (u2 I 130 38 ((I 130 38) - 1)) J) 1000000000000) then 0 else (if (lg_cmp (F_X12_is 1 (u2 I 130 38 ((I 130 38) - 1)) J) (-1000000000000)) < 0 then 0 else 1)))) else (if (lg_cmp (J 153 ((I 130 38) - 2).toNatClampNeg) 0) = 0 then (if (lg_cmp (J 153 ((I 130 38) - 1).toNatClampNeg) 0) = 0 then (if (0 : Int32) < (lg_cmp (F_X12_is 0 (u2 I 130 38 ((I 130 38) - 1)) J) 1000000000000) then 0 else (if (lg_cmp (F_X12_is 0 (u2 I 130 38 ((I 130 38) - 1)) J) (-1000000000000)) < 0 then 0 else 1)) else (if (0 : Int32) < (lg_cmp (F_X12_is 1 (u2 I 130 38 ((I 130 38) - 1)) J) 1000000000000) then 0 else (if (lg_cmp (F_X12_is 1 (u2 I 130 38 ((I 130 38) - 1)) J) (-1000000000000)) < 0 then 0 else 1))) else (if (0 : Int32) < (lg_cmp (F_X12_is 1 (u2 I 130 38 ((I 130 38) - 1)) J) 1000000000000) then 0 else (if (lg_cmp (F_X12_is 1 (u2 I 130 38 ((I 130 38) - 1)) J) (-1000000000000)) < 0 then 0 else 1))))))))))))))
def FI_X12_works (a0 : Int32) (I : SI) (J : SJ) : SI := if a0 = 260 then (if (lg_cmp (J 153 ((I 130 38) - 1).toNatClampNeg) 0) = 0 then I else I) else (if a0 = 42 then (if (lg_cmp (J 153 ((I 130 38) - 2).toNatClampNeg) 0) = 0 then (if (0 : Int32) < (S2_X12_works a0 I J) then u2 I 130 38 ((I 130 38) - 1) else (if (S3_X12_works a0 I J) < 0 then u2 I 130 38 ((I 130 38) - 1) else u2 I 130 38 ((I 130 38) - 1))) else (if (S4_X12_works a0 I J) ≤ 0 then (if (0 : Int32) < (S6_X12_works a0 I J) then u2 I 130 38 ((I 130 38) - 1) else (if (S7_X12_works a0 I J) < 0 then u2 I 130 38 ((I 130 38) - 1) else u2 I 130 38 ((I 130 38) - 1))) else u2 I 130 38 ((I 130 38) - 1))) else (if a0 = 43 then (if (0 : Int32) < (S9_X12_works a0 I J) then u2 I 130 38 ((I 130 38) - 1) else (if (S10_X12_works a0 I J) < 0 then u2 I 130 38 ((I 130 38) - 1) else u2 I 130 38 ((I 130 38) - 1))) else (if a0 = 45 then (if (0 : Int32) < (S12_X12_works a0 I J) then u2 I 130 38 ((I 130 38) - 1) else (if (S13_X12_works a0 I J) < 0 then u2 I 130 38 ((I 130 38) - 1) else u2 I 130 38 ((I 130 38) - 1))) else (if a0 = 47 then (if (lg_cmp (J 153 ((I 130 38) - 1).toNatClampNeg) 0) = 0 then u2 I 130 38 ((I 130 38) - 1) else (if (0 : Int32) < (S15_X12_works a0 I J) then u2 I 130 38 ((I 130 38) - 1) else (if (S16_X12_works a0 I J) < 0 then u2 I 130 38 ((I 130 38) - 1) else u2 I 130 38 ((I 130 38) - 1)))) else (if a0 = 60 then (if (0 : Int32) ≤ (lg_cmp (J 153 ((I 130 38) - 2).toNatClampNeg) (J 153 ((I 130 38) - 1).toNatClampNeg)) then (if (0 : Int32) < (lg_cmp (F_X12_is 0 (u2 I 130 38 ((I 130 38) - 1)) J) 1000000000000) then u2 I 130 38 ((I 130 38) - 1) else (if (lg_cmp (F_X12_is 0 (u2 I 130 38 ((I 130 38) - 1)) J) (-1000000000000)) < 0 then u2 I 130 38 ((I 130 38) - 1) else u2 I 130 38 ((I 130 38) - 1))) else (if (0 : Int32) < (lg_cmp (F_X12_is 1 (u2 I 130 38 ((I 130 38) - 1)) J) 1000000000000) then u2 I 130 38 ((I 130 38) - 1) else (if (lg_cmp (F_X12_is 1 (u2 I 130 38 ((I 130 38) - 1)) J) (-1000000000000)) < 0 then u2 I 130 38 ((I 130 38) - 1) else u2 I 130 38 ((I 130 38) - 1)))) else (if a0 = 61 then (if (lg_cmp (J 153 ((I 130 38) - 2).toNatClampNeg) (J 153 ((I 130 38) - 1).toNatClampNeg)) = 0 then (if (0 : Int32) < (lg_cmp (F_X12_is 1 (u2 I 130 38 ((I 130 38) - 1)) J) 1000000000000) then u2 I 130 38 ((I 130 38) - 1) else (if (lg_cmp (F_X12_is 1 (u2 I 130 38 ((I 130 38) - 1)) J) (-1000000000000)) < 0 then u2 I 130 38 ((I 130 38) - 1) else u2 I 130 38 ((I 130 38) - 1))) else (if (0 : Int32) < (lg_cmp (F_X12_is 0 (u2 I 130 38 ((I 130 38) - 1)) J) 1000000000000) then u2 I 130 38 ((I 130 38) - 1) else (if (lg_cmp (F_X12_is 0 (u2 I 130 38 ((I 130 38) - 1)) J) (-1000000000000)) < 0 then u2 I 130 38 ((I 130 38) - 1) else u2 I 130 38 ((I 130 38) - 1)))) else (if a0 = 62 then (if (lg_cmp (J 153 ((I 130 38) - 2).toNatClampNeg) (J 153 ((I 130 38) - 1).toNatClampNeg)) ≤ 0 then (if (0 : Int32) < (lg_cmp (F_X12_is 0 (u2 I 130 38 ((I 130 38) - 1)) J) 1000000000000) then u2 I 130 38 ((I 130 38) - 1) else (if (lg_cmp (F_X12_is 0 (u2 I 130 38 ((I 130 38) - 1)) J) (-1000000000000)) < 0 then u2 I 130 38 ((I 130 38) - 1) else u2 I 130 38 ((I 130 38) - 1))) else (if (0 : Int32) < (lg_cmp (F_X12_is 1 (u2 I 130 38 ((I 130 38) - 1)) J) 1000000000000) then u2 I 130 38 ((I 130 38) - 1) else (if (lg_cmp (F_X12_is 1 (u2 I 130 38 ((I 130 38) - 1)) J) (-1000000000000)) < 0 then u2 I 130 38 ((I 130 38) - 1) else u2 I 130 38 ((I 130 38) - 1)))) else (if a0 = 256 then (if (0 : Int32) < (lg_cmp (J 153 ((I 130 38) - 2).toNatClampNeg) (J 153 ((I 130 38) - 1).toNatClampNeg)) then (if (0 : Int32) < (lg_cmp (F_X12_is 0 (u2 I 130 38 ((I 130 38) - 1)) J) 1000000000000) then u2 I 130 38 ((I 130 38) - 1) else (if (lg_cmp (F_X12_is 0 (u2 I 130 38 ((I 130 38) - 1)) J) (-1000000000000)) < 0 then u2 I 130 38 ((I 130 38) - 1) else u2 I 130 38 ((I 130 38) - 1))) else (if (0 : Int32) < (lg_cmp (F_X12_is 1 (u2 I 130 38 ((I 130 38) - 1)) J) 1000000000000) then u2 I 130 38 ((I 130 38) - 1) else (if (lg_cmp (F_X12_is 1 (u2 I 130 38 ((I 130 38) - 1)) J) (-1000000000000)) < 0 then u2 I 130 38 ((I 130 38) - 1) else u2 I 130 38 ((I 130 38) - 1)))) else (if a0 = 257 then (if (lg_cmp (J 153 ((I 130 38) - 2).toNatClampNeg) (J 153 ((I 130 38) - 1).toNatClampNeg)) = 0 then (if (0 : Int32) < (lg_cmp (F_X12_is 0 (u2 I 130 38 ((I 130 38) - 1)) J) 1000000000000) then u2 I 130 38 ((I 130 38) - 1) else (if (lg_cmp (F_X12_is 0 (u2 I 130 38 ((I 130 38) - 1)) J) (-1000000000000)) < 0 then u2 I 130 38 ((I 130 38) - 1) else u2 I 130 38 ((I 130 38) - 1))) else (if (0 : Int32) < (lg_cmp (F_X12_is 1 (u2 I 130 38 ((I 130 38) - 1)) J) 1000000000000) then u2 I 130 38 ((I 130 38) - 1) else (if (lg_cmp (F_X12_is 1 (u2 I 130 38 ((I 130 38) - 1)) J) (-1000000000000)) < 0 then u2 I 130 38 ((I 130 38) - 1) else u2 I 130 38 ((I 130 38) - 1)))) else (if a0 = 258 then (if (lg_cmp (J 153 ((I 130 38) - 2).toNatClampNeg) (J 153 ((I 130 38) - 1).toNatClampNeg)) < 0 then (if (0 : Int32) < (lg_cmp (F_X12_is 0 (u2 I 130 38 ((I 130 38) - 1)) J) 1000000000000) then u2 I 130 38 ((I 130 38) - 1) else (if (lg_cmp (F_X12_is 0 (u2 I 130 38 ((I 130 38) - 1)) J) (-1000000000000)) < 0 then u2 I 130 38 ((I 130 38) - 1) else u2 I 130 38 ((I 130 38) - 1))) else (if (0 : Int32) < (lg_cmp (F_X12_is 1 (u2 I 130 38 ((I 130 38) - 1)) J) 1000000000000) then u2 I 130 38 ((I 130 38) - 1) else (if (lg_cmp (F_X12_is 1 (u2 I 130 38 ((I 130 38) - 1)) J) (-1000000000000)) < 0 then u2 I 130 38 ((I 130 38) - 1) else u2 I 130 38 ((I 130 38) - 1)))) else (if a0 = 261 then (if (lg_cmp (J 153 ((I 130 38) - 2).toNatClampNeg) 0) = 0 then (if (0 : Int32) < (lg_cmp (F_X12_is 0 (u2 I 130 38 ((I 130 38) - 1)) J) 1000000000000) then u2 I 130 38 ((I 130 38) - 1) else (if (lg_cmp (F_X12_is 0 (u2 I 130 38 ((I 130 38) - 1)) J) (-1000000000000)) < 0 then u2 I 130 38 ((I 130 38) - 1) else u2 I 130 38 ((I 130 38) - 1))) else (if (lg_cmp (J 153 ((I 130 38) - 1).toNatClampNeg) 0) = 0 then (if (0 : Int32) < (lg_cmp (F_X12_is 0 (u2 I 130 38 ((I 130 38) - 1)) J) 1000000000000) then u2 I 130 38 ((I 130 38) - 1) else (if (lg_cmp (F_X12_is 0 (u2 I 130 38 ((I 130 38) - 1)) J) (-1000000000000)) < 0 then u2 I 130 38 ((I 130 38) - 1) else u2 I 130 38 ((I 130 38) - 1))) else (if (0 : Int32) < (lg_cmp (F_X12_is 1 (u2 I 130 38 ((I 130 38) - 1)) J) 1000000000000) then u2 I 130 38 ((I 130 38) - 1) else (if (lg_cmp (F_X12_is 1 (u2 I 130 38 ((I 130 38) - 1)) J) (-1000000000000)) < 0 then u2 I 130 38 ((I 130 38) - 1) else u2 I 130 38 ((I 130 38) - 1))))) else (if (lg_cmp (J 153 ((I 130 38) - 2).toNatClampNeg) 0) = 0 then (if (lg_cmp (J 153 ((I 130 38) - 1).toNatClampNeg) 0) = 0 then (if (0 : Int32) < (lg_cmp (F_X12_is 0 (u2 I 130 38 ((I 130 38) - 1)) J) 1000000000000) then u2 I 130 38 ((I 130 38) - 1) else (if (lg_cmp (F_X12_is 0 (u2 I 130 38 ((I 130 38) - 1)) J) (-1000000000000)) < 0 then u2 I 130 38 ((I 130 38) - 1) else u2 I 130 38 ((I 130 38) - 1))) else (if (0 : Int32) < (lg_cmp (F_X12_is 1 (u2 I 130 38 ((I 130 38) - 1)) J) 1000000000000) then u2 I 130 38 ((I 130 38) - 1) else (if (lg_cmp (F_X12_is 1 (u2 I 130 38 ((I 130 38) - 1)) J) (-1000000000000)) < 0 then u2 I 130 38 ((I 130 38) - 1) else u2 I 130 38 ((I 130 38) - 1)))) else (if (0 : Int32) < (lg_cmp (F_X12_is 1 (u2 I 130 38 ((I 130 38) - 1)) J) 1000000000000) then u2 I 130 38 ((I 130 38) - 1) else (if (lg_cmp (F_X12_is 1 (u2 I 130 38 ((I 130 38) - 1)) J) (-1000000000000)) < 0 then u2 I 130 38 ((I 130 38) - 1) else u2 I 130 38 ((I 130 38) - 1)))))))))))))))
def FJ_X12_works (a0 : Int32) (I : SI) (J : SJ) : SJ := if a0 = 260 then (if (lg_cmp (J 153 ((I 130 38) - 1).toNatClampNeg) 0) = 0 then u2 J 153 ((I 130 38) - 1).toNatClampNeg (F_X12_is 1 I J) else u2 J 153 ((I 130 38) - 1).toNatClampNeg (F_X12_is 0 I J)) else (if a0 = 42 then (if (lg_cmp (J 153 ((I 130 38) - 2).toNatClampNeg) 0) = 0 then (if (0 : Int32) < (S2_X12_works a0 I J) then (S1_X12_works a0 I J) else (if (S3_X12_works a0 I J) < 0 then (S1_X12_works a0 I J) else (S1_X12_works a0 I J))) else (if (S4_X12_works a0 I J) ≤ 0 then (if (0 : Int32) < (S6_X12_works a0 I J) then (S5_X12_works a0 I J) else (if (S7_X12_works a0 I J) < 0 then (S5_X12_works a0 I J) else (S5_X12_works a0 I J))) else J)) else (if a0 = 43 then (if (0 : Int32) < (S9_X12_works a0 I J) then (S8_X12_works a0 I J) else (if (S10_X12_works a0 I J) < 0 then (S8_X12_works a0 I J) else (S8_X12_works a0 I J))) else (if a0 = 45 then (if (0 : Int32) < (S12_X12_works a0 I J) then (S11_X12_works a0 I J) else (if (S13_X12_works a0 I J) < 0 then (S11_X12_works a0 I J) else (S11_X12_works a0 I J))) else (if a0 = 47 then (if (lg_cmp (J 153 ((I 130 38) - 1).toNatClampNeg) 0) = 0 then J else (if (0 : Int32) < (S15_X12_works a0 I J) then (S14_X12_works a0 I J) else (if (S16_X12_works a0 I J) < 0 then (S14_X12_works a0 I J) else (S14_X12_works a0 I J)))) else (if a0 = 60 then (if (0 : Int32) ≤ (lg_cmp (J 153 ((I 130 38) - 2).toNatClampNeg) (J 153 ((I 130 38) - 1).toNatClampNeg)) then (if (0 : Int32) < (lg_cmp (F_X12_is 0 (u2 I 130 38 ((I 130 38) - 1)) J) 1000000000000) then (S17_X12_works a0 I J) else (if (lg_cmp (F_X12_is 0 (u2 I 130 38 ((I 130 38) - 1)) J) (-1000000000000)) < 0 then (S17_X12_works a0 I J) else (S17_X12_works a0 I J))) else (if (0 : Int32) < (lg_cmp (F_X12_is 1 (u2 I 130 38 ((I 130 38) - 1)) J) 1000000000000) then (S18_X12_works a0 I J) else (if (lg_cmp (F_X12_is 1 (u2 I 130 38 ((I 130 38) - 1)) J) (-1000000000000)) < 0 then (S18_X12_works a0 I J) else (S18_X12_works a0 I J)))) else (if a0 = 61 then (if (lg_cmp (J 153 ((I 130 38) - 2).toNatClampNeg) (J 153 ((I 130 38) - 1).toNatClampNeg)) = 0 then (if (0 : Int32) < (lg_cmp (F_X12_is 1 (u2 I 130 38 ((I 130 38) - 1)) J) 1000000000000) then (S20_X12_works a0 I J) else (if (lg_cmp (F_X12_is 1 (u2 I 130 38 ((I 130 38) - 1)) J) (-1000000000000)) < 0 then (S20_X12_works a0 I J) else (S20_X12_works a0 I J))) else (if (0 : Int32) < (lg_cmp (F_X12_is 0 (u2 I 130 38 ((I 130 38) - 1)) J) 1000000000000) then (S19_X12_works a0 I J) else (if (lg_cmp (F_X12_is 0 (u2 I 130 38 ((I 130 38) - 1)) J) (-1000000000000)) < 0 then (S19_X12_works a0 I J) else (S19_X12_works a0 I J)))) else (if a0 = 62 then (if (lg_cmp (J 153 ((I 130 38) - 2).toNatClampNeg) (J 153 ((I 130 38) - 1).toNatClampNeg)) ≤ 0 then (if (0 : Int32) < (lg_cmp (F_X12_is 0 (u2 I 130 38 ((I 130 38) - 1)) J) 1000000000000) then (S21_X12_works a0 I J) else (if (lg_cmp (F_X12_is 0 (u2 I 130 38 ((I 130 38) - 1)) J) (-1000000000000)) < 0 then (S21_X12_works a0 I J) else (S21_X12_works a0 I J))) else (if (0 : Int32) < (lg_cmp (F_X12_is 1 (u2 I 130 38 ((I 130 38) - 1)) J) 1000000000000) then (S22_X12_works a0 I J) else (if (lg_cmp (F_X12_is 1 (u2 I 130 38 ((I 130 38) - 1)) J) (-1000000000000)) < 0 then (S22_X12_works a0 I J) else (S22_X12_works a0 I J)))) else (if a0 = 256 then (if (0 : Int32) < (lg_cmp (J 153 ((I 130 38) - 2).toNatClampNeg) (J 153 ((I 130 38) - 1).toNatClampNeg)) then (if (0 : Int32) < (lg_cmp (F_X12_is 0 (u2 I 130 38 ((I 130 38) - 1)) J) 1000000000000) then (S23_X12_works a0 I J) else (if (lg_cmp (F_X12_is 0 (u2 I 130 38 ((I 130 38) - 1)) J) (-1000000000000)) < 0 then (S23_X12_works a0 I J) else (S23_X12_works a0 I J))) else (if (0 : Int32) < (lg_cmp (F_X12_is 1 (u2 I 130 38 ((I 130 38) - 1)) J) 1000000000000) then (S24_X12_works a0 I J) else (if (lg_cmp (F_X12_is 1 (u2 I 130 38 ((I 130 38) - 1)) J) (-1000000000000)) < 0 then (S24_X12_works a0 I J) else (S24_X12_works a0 I J)))) else (if a0 = 257 then (if (lg_cmp (J 153 ((I 130 38) - 2).toNatClampNeg) (J 153 ((I 130 38) - 1).toNatClampNeg)) = 0 then (if (0 : Int32) < (lg_cmp (F_X12_is 0 (u2 I 130 38 ((I 130 38) - 1)) J) 1000000000000) then (S25_X12_works a0 I J) else (if (lg_cmp (F_X12_is 0 (u2 I 130 38 ((I 130 38) - 1)) J) (-1000000000000)) < 0 then (S25_X12_works a0 I J) else (S25_X12_works a0 I J))) else (if (0 : Int32) < (lg_cmp (F_X12_is 1 (u2 I 130 38 ((I 130 38) - 1)) J) 1000000000000) then (S26_X12_works a0 I J) else (if (lg_cmp (F_X12_is 1 (u2 I 130 38 ((I 130 38) - 1)) J) (-1000000000000)) < 0 then (S26_X12_works a0 I J) else (S26_X12_works a0 I J)))) else (if a0 = 258 then (if (lg_cmp (J 153 ((I 130 38) - 2).toNatClampNeg) (J 153 ((I 130 38) - 1).toNatClampNeg)) < 0 then (if (0 : Int32) < (lg_cmp (F_X12_is 0 (u2 I 130 38 ((I 130 38) - 1)) J) 1000000000000) then (S27_X12_works a0 I J) else (if (lg_cmp (F_X12_is 0 (u2 I 130 38 ((I 130 38) - 1)) J) (-1000000000000)) < 0 then (S27_X12_works a0 I J) else (S27_X12_works a0 I J))) else (if (0 : Int32) < (lg_cmp (F_X12_is 1 (u2 I 130 38 ((I 130 38) - 1)) J) 1000000000000) then (S28_X12_works a0 I J) else (if (lg_cmp (F_X12_is 1 (u2 I 130 38 ((I 130 38) - 1)) J) (-1000000000000)) < 0 then (S28_X12_works a0 I J) else (S28_X12_works a0 I J)))) else (if a0 = 261 then (if (lg_cmp (J 153 ((I 130 38) - 2).toNatClampNeg) 0) = 0 then (if (0 : Int32) < (lg_cmp (F_X12_is 0 (u2 I 130 38 ((I 130 38) - 1)) J) 1000000000000) then (S29_X12_works a0 I J) else (if (lg_cmp (F_X12_is 0 (u2 I 130 38 ((I 130 38) - 1)) J) (-1000000000000)) < 0 then (S29_X12_works a0 I J) else (S29_X12_works a0 I J))) else (if (lg_cmp (J 153 ((I 130 38) - 1).toNatClampNeg) 0) = 0 then (if (0 : Int32) < (lg_cmp (F_X12_is 0 (u2 I 130 38 ((I 130 38) - 1)) J) 1000000000000) then (S30_X12_works a0 I J) else (if (lg_cmp (F_X12_is 0 (u2 I 130 38 ((I 130 38) - 1)) J) (-1000000000000)) < 0 then (S30_X12_works a0 I J) else (S30_X12_works a0 I J))) else (if (0 : Int32) < (lg_cmp (F_X12_is 1 (u2 I 130 38 ((I 130 38) - 1)) J) 1000000000000) then (S31_X12_works a0 I J) else (if (lg_cmp (F_X12_is 1 (u2 I 130 38 ((I 130 38) - 1)) J) (-1000000000000)) < 0 then (S31_X12_works a0 I J) else (S31_X12_works a0 I J))))) else (if (lg_cmp (J 153 ((I 130 38) - 2).toNatClampNeg) 0) = 0 then (if (lg_cmp (J 153 ((I 130 38) - 1).toNatClampNeg) 0) = 0 then (if (0 : Int32) < (lg_cmp (F_X12_is 0 (u2 I 130 38 ((I 130 38) - 1)) J) 1000000000000) then (S33_X12_works a0 I J) else (if (lg_cmp (F_X12_is 0 (u2 I 130 38 ((I 130 38) - 1)) J) (-1000000000000)) < 0 then (S33_X12_works a0 I J) else (S33_X12_works a0 I J))) else (if (0 : Int32) < (lg_cmp (F_X12_is 1 (u2 I 130 38 ((I 130 38) - 1)) J) 1000000000000) then (S34_X12_works a0 I J) else (if (lg_cmp (F_X12_is 1 (u2 I 130 38 ((I 130 38) - 1)) J) (-1000000000000)) < 0 then (S34_X12_works a0 I J) else (S34_X12_works a0 I J)))) else (if (0 : Int32) < (lg_cmp (F_X12_is 1 (u2 I 130 38 ((I 130 38) - 1)) J) 1000000000000) then (S32_X12_works a0 I J) else (if (lg_cmp (F_X12_is 1 (u2 I 130 38 ((I 130 38) - 1)) J) (-1000000000000)) < 0 then (S32_X12_works a0 I J) else (S32_X12_works a0 I J)))))))))))))))
def H_X12_works (a0 : Int32) (I : SI) (J : SJ) : Prop := (inR ((I 130 38) - 1) 64) ∧ (¬ (a0 = 260) → inR ((I 130 38) - 2) 64) ∧ (¬ (a0 = 260) → a0 = 42 → (lg_cmp (J 153 ((I 130 38) - 2).toNatClampNeg) 0) = 0 → inR (((u2 I 130 38 ((I 130 38) - 1)) 130 38) - 1) 64) ∧ (¬ (a0 = 260) → a0 = 42 → ¬ ((lg_cmp (J 153 ((I 130 38) - 2).toNatClampNeg) 0) = 0) → ¬ (absL (J 153 ((I 130 38) - 2).toNatClampNeg)) = 0) ∧ (¬ (a0 = 260) → a0 = 42 → ¬ ((lg_cmp (J 153 ((I 130 38) - 2).toNatClampNeg) 0) = 0) → (S4_X12_works a0 I J) ≤ 0 → inR (((u2 I 130 38 ((I 130 38) - 1)) 130 38) - 1) 64) ∧ (¬ (a0 = 260) → ¬ (a0 = 42) → a0 = 43 → inR (((u2 I 130 38 ((I 130 38) - 1)) 130 38) - 1) 64) ∧ (¬ (a0 = 260) → ¬ (a0 = 42) → ¬ (a0 = 43) → a0 = 45 → inR (((u2 I 130 38 ((I 130 38) - 1)) 130 38) - 1) 64) ∧ (¬ (a0 = 260) → ¬ (a0 = 42) → ¬ (a0 = 43) → ¬ (a0 = 45) → a0 = 47 → ¬ ((lg_cmp (J 153 ((I 130 38) - 1).toNatClampNeg) 0) = 0) → ¬ (J 153 ((I 130 38) - 1).toNatClampNeg) = 0) ∧ (¬ (a0 = 260) → ¬ (a0 = 42) → ¬ (a0 = 43) → ¬ (a0 = 45) → a0 = 47 → ¬ ((lg_cmp (J 153 ((I 130 38) - 1).toNatClampNeg) 0) = 0) → inR (((u2 I 130 38 ((I 130 38) - 1)) 130 38) - 1) 64) ∧ (¬ (a0 = 260) → ¬ (a0 = 42) → ¬ (a0 = 43) → ¬ (a0 = 45) → ¬ (a0 = 47) → a0 = 60 → (0 : Int32) ≤ (lg_cmp (J 153 ((I 130 38) - 2).toNatClampNeg) (J 153 ((I 130 38) - 1).toNatClampNeg)) → inR (((u2 I 130 38 ((I 130 38) - 1)) 130 38) - 1) 64) ∧ (¬ (a0 = 260) → ¬ (a0 = 42) → ¬ (a0 = 43) → ¬ (a0 = 45) → ¬ (a0 = 47) → a0 = 60 → ¬ ((0 : Int32) ≤ (lg_cmp (J 153 ((I 130 38) - 2).toNatClampNeg) (J 153 ((I 130 38) - 1).toNatClampNeg))) → inR (((u2 I 130 38 ((I 130 38) - 1)) 130 38) - 1) 64) ∧ (¬ (a0 = 260) → ¬ (a0 = 42) → ¬ (a0 = 43) → ¬ (a0 = 45) → ¬ (a0 = 47) → ¬ (a0 = 60) → a0 = 61 → ¬ ((lg_cmp (J 153 ((I 130 38) - 2).toNatClampNeg) (J 153 ((I 130 38) - 1).toNatClampNeg)) = 0) → inR (((u2 I 130 38 ((I 130 38) - 1)) 130 38) - 1) 64) ∧ (¬ (a0 = 260) → ¬ (a0 = 42) → ¬ (a0 = 43) → ¬ (a0 = 45) → ¬ (a0 = 47) → ¬ (a0 = 60) → a0 = 61 → (lg_cmp (J 153 ((I 130 38) - 2).toNatClampNeg) (J 153 ((I 130 38) - 1).toNatClampNeg)) = 0 → inR (((u2 I 130 38 ((I 130 38) - 1)) 130 38) - 1) 64) ∧ (¬ (a0 = 260) → ¬ (a0 = 42) → ¬ (a0 = 43) → ¬ (a0 = 45) → ¬ (a0 = 47) → ¬ (a0 = 60) → ¬ (a0 = 61) → a0 = 62 → (lg_cmp (J 153 ((I 130 38) - 2).toNatClampNeg) (J 153 ((I 130 38) - 1).toNatClampNeg)) ≤ 0 → inR (((u2 I 130 38 ((I 130 38) - 1)) 130 38) - 1) 64) ∧ (¬ (a0 = 260) → ¬ (a0 = 42) → ¬ (a0 = 43) → ¬ (a0 = 45) → ¬ (a0 = 47) → ¬ (a0 = 60) → ¬ (a0 = 61) → a0 = 62 → ¬ ((lg_cmp (J 153 ((I 130 38) - 2).toNatClampNeg) (J 153 ((I 130 38) - 1).toNatClampNeg)) ≤ 0) → inR (((u2 I 130 38 ((I 130 38) - 1)) 130 38) - 1) 64) ∧ (¬ (a0 = 260) → ¬ (a0 = 42) → ¬ (a0 = 43) → ¬ (a0 = 45) → ¬ (a0 = 47) → ¬ (a0 = 60) → ¬ (a0 = 61) → ¬ (a0 = 62) → a0 = 256 → (0 : Int32) < (lg_cmp (J 153 ((I 130 38) - 2).toNatClampNeg) (J 153 ((I 130 38) - 1).toNatClampNeg)) → inR (((u2 I 130 38 ((I 130 38) - 1)) 130 38) - 1) 64) ∧ (¬ (a0 = 260) → ¬ (a0 = 42) → ¬ (a0 = 43) → ¬ (a0 = 45) → ¬ (a0 = 47) → ¬ (a0 = 60) → ¬ (a0 = 61) → ¬ (a0 = 62) → a0 = 256 → ¬ ((0 : Int32) < (lg_cmp (J 153 ((I 130 38) - 2).toNatClampNeg) (J 153 ((I 130 38) - 1).toNatClampNeg))) → inR (((u2 I 130 38 ((I 130 38) - 1)) 130 38) - 1) 64) ∧ (¬ (a0 = 260) → ¬ (a0 = 42) → ¬ (a0 = 43) → ¬ (a0 = 45) → ¬ (a0 = 47) → ¬ (a0 = 60) → ¬ (a0 = 61) → ¬ (a0 = 62) → ¬ (a0 = 256) → a0 = 257 → (lg_cmp (J 153 ((I 130 38) - 2).toNatClampNeg) (J 153 ((I 130 38) - 1).toNatClampNeg)) = 0 → inR (((u2 I 130 38 ((I 130 38) - 1)) 130 38) - 1) 64) ∧ (¬ (a0 = 260) → ¬ (a0 = 42) → ¬ (a0 = 43) → ¬ (a0 = 45) → ¬ (a0 = 47) → ¬ (a0 = 60) → ¬ (a0 = 61) → ¬ (a0 = 62) → ¬ (a0 = 256) → a0 = 257 → ¬ ((lg_cmp (J 153 ((I 130 38) - 2).toNatClampNeg) (J 153 ((I 130 38) - 1).toNatClampNeg)) = 0) → inR (((u2 I 130 38 ((I 130 38) - 1)) 130 38) - 1) 64) ∧ (¬ (a0 = 260) → ¬ (a0 = 42) → ¬ (a0 = 43) → ¬ (a0 = 45) → ¬ (a0 = 47) → ¬ (a0 = 60) → ¬ (a0 = 61) → ¬ (a0 = 62) → ¬ (a0 = 256) → ¬ (a0 = 257) → a0 = 258 → (lg_cmp (J 153 ((I 130 38) - 2).toNatClampNeg) (J 153 ((I 130 38) - 1).toNatClampNeg)) < 0 → inR (((u2 I 130 38 ((I 130 38) - 1)) 130 38) - 1) 64) ∧ (¬ (a0 = 260) → ¬ (a0 = 42) → ¬ (a0 = 43) → ¬ (a0 = 45) → ¬ (a0 = 47) → ¬ (a0 = 60) → ¬ (a0 = 61) → ¬ (a0 = 62) → ¬ (a0 = 256) → ¬ (a0 = 257) → a0 = 258 → ¬ ((lg_cmp (J 153 ((I 130 38) - 2).toNatClampNeg) (J 153 ((I 130 38) - 1).toNatClampNeg)) < 0) → inR (((u2 I 130 38 ((I 130 38) - 1)) 130 38) - 1) 64) ∧ (¬ (a0 = 260) → ¬ (a0 = 42) → ¬ (a0 = 43) → ¬ (a0 = 45) → ¬ (a0 = 47) → ¬ (a0 = 60) → ¬ (a0 = 61) → ¬ (a0 = 62) → ¬ (a0 = 256) → ¬ (a0 = 257) → ¬ (a0 = 258) → a0 = 261 → (lg_cmp (J 153 ((I 130 38) - 2).toNatClampNeg) 0) = 0 → inR (((u2 I 130 38 ((I 130 38) - 1)) 130 38) - 1) 64) ∧ (¬ (a0 = 260) → ¬ (a0 = 42) → ¬ (a0 = 43) → ¬ (a0 = 45) → ¬ (a0 = 47) → ¬ (a0 = 60) → ¬ (a0 = 61) → ¬ (a0 = 62) → ¬ (a0 = 256) → ¬ (a0 = 257) → ¬ (a0 = 258) → a0 = 261 → ¬ ((lg_cmp (J 153 ((I 130 38) - 2).toNatClampNeg) 0) = 0) → (lg_cmp (J 153 ((I 130 38) - 1).toNatClampNeg) 0) = 0 → inR (((u2 I 130 38 ((I 130 38) - 1)) 130 38) - 1) 64) ∧ (¬ (a0 = 260) → ¬ (a0 = 42) → ¬ (a0 = 43) → ¬ (a0 = 45) → ¬ (a0 = 47) → ¬ (a0 = 60) → ¬ (a0 = 61) → ¬ (a0 = 62) → ¬ (a0 = 256) → ¬ (a0 = 257) → ¬ (a0 = 258) → a0 = 261 → ¬ ((lg_cmp (J 153 ((I 130 38) - 2).toNatClampNeg) 0) = 0) → ¬ ((lg_cmp (J 153 ((I 130 38) - 1).toNatClampNeg) 0) = 0) → inR (((u2 I 130 38 ((I 130 38) - 1)) 130 38) - 1) 64) ∧ (¬ (a0 = 260) → ¬ (a0 = 42) → ¬ (a0 = 43) → ¬ (a0 = 45) → ¬ (a0 = 47) → ¬ (a0 = 60) → ¬ (a0 = 61) → ¬ (a0 = 62) → ¬ (a0 = 256) → ¬ (a0 = 257) → ¬ (a0 = 258) → ¬ (a0 = 261) → ¬ ((lg_cmp (J 153 ((I 130 38) - 2).toNatClampNeg) 0) = 0) → inR (((u2 I 130 38 ((I 130 38) - 1)) 130 38) - 1) 64) ∧ (¬ (a0 = 260) → ¬ (a0 = 42) → ¬ (a0 = 43) → ¬ (a0 = 45) → ¬ (a0 = 47) → ¬ (a0 = 60) → ¬ (a0 = 61) → ¬ (a0 = 62) → ¬ (a0 = 256) → ¬ (a0 = 257) → ¬ (a0 = 258) → ¬ (a0 = 261) → (lg_cmp (J 153 ((I 130 38) - 2).toNatClampNeg) 0) = 0 → (lg_cmp (J 153 ((I 130 38) - 1).toNatClampNeg) 0) = 0 → inR (((u2 I 130 38 ((I 130 38) - 1)) 130 38) - 1) 64) ∧ (¬ (a0 = 260) → ¬ (a0 = 42) → ¬ (a0 = 43) → ¬ (a0 = 45) → ¬ (a0 = 47) → ¬ (a0 = 60) → ¬ (a0 = 61) → ¬ (a0 = 62) → ¬ (a0 = 256) → ¬ (a0 = 257) → ¬ (a0 = 258) → ¬ (a0 = 261) → (lg_cmp (J 153 ((I 130 38) - 2).toNatClampNeg) 0) = 0 → ¬ ((lg_cmp (J 153 ((I 130 38) - 1).toNatClampNeg) 0) = 0) → inR (((u2 I 130 38 ((I 130 38) - 1)) 130 38) - 1) 64) ∧ (a0 = 260 → ¬ ((lg_cmp (J 153 ((I 130 38) - 1).toNatClampNeg) 0) = 0) → inR ((I 130 38) - 1) 64) ∧ (a0 = 260 → (lg_cmp (J 153 ((I 130 38) - 1).toNatClampNeg) 0) = 0 → inR ((I 130 38) - 1) 64)
set_option maxHeartbeats 9550000 in
set_option maxRecDepth 40000 in
theorem c_X12_works {I : SI} {J : SJ} {R : SR} {n g : Nat} (ro : RM R) (hnn : nM ≤ n) (a0 : Int32)  (hp : H_X12_works a0 I J) : MM 1 0 0 mX12_works [.ref 130, .int a0] I J R n g (Pd (some (.int (F_X12_works a0 I J))) (FI_X12_works a0 I J) (FJ_X12_works a0 I J) R n g) := by
  refine MM.of (by decide) (Nat.le_of_ble_eq_true rfl) fun K ok fin => ?_
  show WK K 0 0 0 [(0, .ref 130), (1, .int a0)] [] I J R n g
  obtain ⟨hp1, hp2, hp3, hp4, hp5, hp6, hp7, hp8, hp9, hp10, hp11, hp12, hp13, hp14, hp15, hp16, hp17, hp18, hp19, hp20, hp21, hp22, hp23, hp24, hp25, hp26, hp27, hp28, hp29⟩ := hp
  refine w_aload_n ok dX12_works_0 0 rfl ?_
  refine w_getR ok dX12_works_1 (fX12_81 rfl) (congrArg Prod.fst s_130) rfl (r_130_37 ro) (ltM hnn (by decide)) ?_
  refine w_aload_n ok dX12_works_4 0 rfl ?_
  refine w_getI ok dX12_works_5 (fX12_338 rfl) (congrArg Prod.fst s_130) rfl (ltM hnn (by decide)) ?_
  refine w_iconst (v := 1) ok dX12_works_8 (by decide) ?_
  refine w_isub ok dX12_works_9 ?_
  refine x_lald (q := ((I 130 38) - 1).toNatClampNeg) ok dX12_works_10 s_153 (hp1) (by decide) (ltM hnn (by decide)) ?_
  refine w_lstore_n ok dX12_works_11 rfl (by decide) rfl ?_
  refine w_iload_n ok dX12_works_12 2 rfl ?_
  refine w_sipush (v := 260) ok dX12_works_13 (by decide) ?_
  refine w_icmp_ne (tgt := 46) ok dX12_works_16 (by decide) (fun c1 => ?_) (fun c1 => ?_)
  · skip
    refine w_aload_n ok dX12_works_46 1 rfl ?_
    refine w_getR ok dX12_works_47 (fX12_81 rfl) (congrArg Prod.fst s_130) rfl (r_130_37 ro) (ltM hnn (by decide)) ?_
    refine w_aload_n ok dX12_works_50 1 rfl ?_
    refine w_getI ok dX12_works_51 (fX12_338 rfl) (congrArg Prod.fst s_130) rfl (ltM hnn (by decide)) ?_
    refine w_iconst (v := 2) ok dX12_works_54 (by decide) ?_
    refine w_isub ok dX12_works_55 ?_
    refine x_lald (q := ((I 130 38) - 2).toNatClampNeg) ok dX12_works_56 s_153 (hp2 c1) (by decide) (ltM hnn (by decide)) ?_
    refine w_lstore ok dX12_works_57 (by decide) rfl ?_
    refine w_aload_n ok dX12_works_59 2 rfl ?_
    refine w_dup ok dX12_works_60 rfl ?_
    refine w_getI ok dX12_works_61 (fX12_338 rfl) (congrArg Prod.fst s_130) rfl (ltM hnn (by decide)) ?_
    refine w_iconst (v := 1) ok dX12_works_64 (by decide) ?_
    refine w_isub ok dX12_works_65 ?_
    refine w_putI ok dX12_works_66 (fwX12_338 rfl) (congrArg Prod.fst s_130) rfl (ltM hnn (by decide)) ?_
    refine w_iload_n ok dX12_works_69 3 rfl ?_
    by_cases c2 : a0 = 42
    · skip
      refine w_lkp (tgt := 186) (off := 116) ok dX12_works_70 (by decide) (by rw [c2]; rfl) (by decide) ?_
      refine w_lload ok dX12_works_186 0 rfl ?_
      refine w_lconst (v := 0) ok dX12_works_188 (by decide) ?_
      refine w_lcmp ok dX12_works_189 ?_
      refine w_if_eq (tgt := 212) ok dX12_works_190 (by decide) (fun c3 => ?_) (fun c3 => ?_)
      · skip
        refine w_lload ok dX12_works_212 0 rfl ?_
        refine w_lload_n ok dX12_works_214 1 rfl ?_
        refine w_lmul ok dX12_works_215 ?_
        refine w_lstore ok dX12_works_216 (by decide) rfl ?_
        refine w_goto (tgt := 407) ok dX12_works_218 (by decide) ?_
        refine w_aload_n ok dX12_works_407 3 rfl ?_
        refine w_getR ok dX12_works_408 (fX12_81 rfl) (congrArg Prod.fst s_130) rfl (r_130_37 ro) (ltM hnn (by decide)) ?_
        refine w_aload_n ok dX12_works_411 3 rfl ?_
        refine w_getI ok dX12_works_412 (fX12_338 rfl) (congrArg Prod.fst s_130) rfl (ltM hnn (by decide)) ?_
        refine w_iconst (v := 1) ok dX12_works_415 (by decide) ?_
        refine w_isub ok dX12_works_416 ?_
        refine w_lload ok dX12_works_417 0 rfl ?_
        refine x_last (q := (((u2 I 130 38 ((I 130 38) - 1)) 130 38) - 1).toNatClampNeg) ok dX12_works_419 s_153 (hp3 c1 c2 c3) (by decide) (ltM hnn (by decide)) ?_
        show WK K 0 0 420 [(6, .long ((J 153 ((I 130 38) - 2).toNatClampNeg) * (J 153 ((I 130 38) - 1).toNatClampNeg))), (4, .long (J 153 ((I 130 38) - 2).toNatClampNeg)), (2, .long (J 153 ((I 130 38) - 1).toNatClampNeg)), (0, .ref 130), (1, .int a0)] [] (u2 I 130 38 ((I 130 38) - 1)) (S1_X12_works a0 I J) R n g
        refine w_lload ok dX12_works_420 0 rfl ?_
        refine w_ldc2 ok dX12_works_422 kX12_351 ?_
        refine w_lcmp ok dX12_works_425 ?_
        show WK K 0 0 426 [(6, .long ((J 153 ((I 130 38) - 2).toNatClampNeg) * (J 153 ((I 130 38) - 1).toNatClampNeg))), (4, .long (J 153 ((I 130 38) - 2).toNatClampNeg)), (2, .long (J 153 ((I 130 38) - 1).toNatClampNeg)), (0, .ref 130), (1, .int a0)] [.int (S2_X12_works a0 I J)] (u2 I 130 38 ((I 130 38) - 1)) (S1_X12_works a0 I J) R n g
        refine w_if_gt (tgt := 442) ok dX12_works_426 (by decide) (fun c4 => ?_) (fun c4 => ?_)
        · skip
          refine w_iconst (v := 0) ok dX12_works_442 (by decide) ?_
          exact w_zret ok fin dX12_works_443 rfl (by decide) (by unfold F_X12_works FI_X12_works FJ_X12_works; simp only [if_neg c1]; simp only [if_pos c2]; simp only [if_pos c3]; simp only [if_pos c4]; exact Pd.i)
        · skip
          refine w_lload ok dX12_works_429 0 rfl ?_
          refine w_ldc2 ok dX12_works_431 kX12_353 ?_
          refine w_lcmp ok dX12_works_434 ?_
          show WK K 0 0 435 [(6, .long ((J 153 ((I 130 38) - 2).toNatClampNeg) * (J 153 ((I 130 38) - 1).toNatClampNeg))), (4, .long (J 153 ((I 130 38) - 2).toNatClampNeg)), (2, .long (J 153 ((I 130 38) - 1).toNatClampNeg)), (0, .ref 130), (1, .int a0)] [.int (S3_X12_works a0 I J)] (u2 I 130 38 ((I 130 38) - 1)) (S1_X12_works a0 I J) R n g
          refine w_if_lt (tgt := 442) ok dX12_works_435 (by decide) (fun c5 => ?_) (fun c5 => ?_)
          · skip
            refine w_iconst (v := 0) ok dX12_works_442 (by decide) ?_
            exact w_zret ok fin dX12_works_443 rfl (by decide) (by unfold F_X12_works FI_X12_works FJ_X12_works; simp only [if_neg c1]; simp only [if_pos c2]; simp only [if_pos c3]; simp only [if_neg c4]; simp only [if_pos c5]; exact Pd.i)
          · skip
            refine w_iconst (v := 1) ok dX12_works_438 (by decide) ?_
            refine w_goto (tgt := 443) ok dX12_works_439 (by decide) ?_
            exact w_zret ok fin dX12_works_443 rfl (by decide) (by unfold F_X12_works FI_X12_works FJ_X12_works; simp only [if_neg c1]; simp only [if_pos c2]; simp only [if_pos c3]; simp only [if_neg c4]; simp only [if_neg c5]; exact Pd.i)
      · skip
        refine w_lload_n ok dX12_works_193 1 rfl ?_
        refine w_absL ok dX12_works_194 (iT_8 84 (by decide +kernel) (by decide +kernel)) (Nat.le_of_ble_eq_true rfl) ?_
        refine w_ldc2 ok dX12_works_197 kX12_351 ?_
        refine w_lload ok dX12_works_200 0 rfl ?_
        refine w_absL ok dX12_works_202 (iT_8 84 (by decide +kernel) (by decide +kernel)) (Nat.le_of_ble_eq_true rfl) ?_
        show WK K 0 0 205 [(4, .long (J 153 ((I 130 38) - 2).toNatClampNeg)), (2, .long (J 153 ((I 130 38) - 1).toNatClampNeg)), (0, .ref 130), (1, .int a0)] [.long (absL (J 153 ((I 130 38) - 2).toNatClampNeg)), .long 1000000000000, .long (absL (J 153 ((I 130 38) - 1).toNatClampNeg))] (u2 I 130 38 ((I 130 38) - 1)) J R n g
        refine w_ldiv ok dX12_works_205 (hp4 c1 c2 c3) ?_
        refine w_lcmp ok dX12_works_206 ?_
        show WK K 0 0 207 [(4, .long (J 153 ((I 130 38) - 2).toNatClampNeg)), (2, .long (J 153 ((I 130 38) - 1).toNatClampNeg)), (0, .ref 130), (1, .int a0)] [.int (S4_X12_works a0 I J)] (u2 I 130 38 ((I 130 38) - 1)) J R n g
        refine w_if_le (tgt := 212) ok dX12_works_207 (by decide) (fun c6 => ?_) (fun c6 => ?_)
        · skip
          refine w_lload ok dX12_works_212 0 rfl ?_
          refine w_lload_n ok dX12_works_214 1 rfl ?_
          refine w_lmul ok dX12_works_215 ?_
          refine w_lstore ok dX12_works_216 (by decide) rfl ?_
          refine w_goto (tgt := 407) ok dX12_works_218 (by decide) ?_
          refine w_aload_n ok dX12_works_407 3 rfl ?_
          refine w_getR ok dX12_works_408 (fX12_81 rfl) (congrArg Prod.fst s_130) rfl (r_130_37 ro) (ltM hnn (by decide)) ?_
          refine w_aload_n ok dX12_works_411 3 rfl ?_
          refine w_getI ok dX12_works_412 (fX12_338 rfl) (congrArg Prod.fst s_130) rfl (ltM hnn (by decide)) ?_
          refine w_iconst (v := 1) ok dX12_works_415 (by decide) ?_
          refine w_isub ok dX12_works_416 ?_
          refine w_lload ok dX12_works_417 0 rfl ?_
          refine x_last (q := (((u2 I 130 38 ((I 130 38) - 1)) 130 38) - 1).toNatClampNeg) ok dX12_works_419 s_153 (hp5 c1 c2 c3 c6) (by decide) (ltM hnn (by decide)) ?_
          show WK K 0 0 420 [(6, .long ((J 153 ((I 130 38) - 2).toNatClampNeg) * (J 153 ((I 130 38) - 1).toNatClampNeg))), (4, .long (J 153 ((I 130 38) - 2).toNatClampNeg)), (2, .long (J 153 ((I 130 38) - 1).toNatClampNeg)), (0, .ref 130), (1, .int a0)] [] (u2 I 130 38 ((I 130 38) - 1)) (S5_X12_works a0 I J) R n g
          refine w_lload ok dX12_works_420 0 rfl ?_
          refine w_ldc2 ok dX12_works_422 kX12_351 ?_
          refine w_lcmp ok dX12_works_425 ?_
          show WK K 0 0 426 [(6, .long ((J 153 ((I 130 38) - 2).toNatClampNeg) * (J 153 ((I 130 38) - 1).toNatClampNeg))), (4, .long (J 153 ((I 130 38) - 2).toNatClampNeg)), (2, .long (J 153 ((I 130 38) - 1).toNatClampNeg)), (0, .ref 130), (1, .int a0)] [.int (S6_X12_works a0 I J)] (u2 I 130 38 ((I 130 38) - 1)) (S5_X12_works a0 I J) R n g
          refine w_if_gt (tgt := 442) ok dX12_works_426 (by decide) (fun c7 => ?_) (fun c7 => ?_)
          · skip
            refine w_iconst (v := 0) ok dX12_works_442 (by decide) ?_
            exact w_zret ok fin dX12_works_443 rfl (by decide) (by unfold F_X12_works FI_X12_works FJ_X12_works; simp only [if_neg c1]; simp only [if_pos c2]; simp only [if_neg c3]; simp only [if_pos c6]; simp only [if_pos c7]; exact Pd.i)
          · skip
            refine w_lload ok dX12_works_429 0 rfl ?_
            refine w_ldc2 ok dX12_works_431 kX12_353 ?_
            refine w_lcmp ok dX12_works_434 ?_
            show WK K 0 0 435 [(6, .long ((J 153 ((I 130 38) - 2).toNatClampNeg) * (J 153 ((I 130 38) - 1).toNatClampNeg))), (4, .long (J 153 ((I 130 38) - 2).toNatClampNeg)), (2, .long (J 153 ((I 130 38) - 1).toNatClampNeg)), (0, .ref 130), (1, .int a0)] [.int (S7_X12_works a0 I J)] (u2 I 130 38 ((I 130 38) - 1)) (S5_X12_works a0 I J) R n g
            refine w_if_lt (tgt := 442) ok dX12_works_435 (by decide) (fun c8 => ?_) (fun c8 => ?_)
            · skip
              refine w_iconst (v := 0) ok dX12_works_442 (by decide) ?_
              exact w_zret ok fin dX12_works_443 rfl (by decide) (by unfold F_X12_works FI_X12_works FJ_X12_works; simp only [if_neg c1]; simp only [if_pos c2]; simp only [if_neg c3]; simp only [if_pos c6]; simp only [if_neg c7]; simp only [if_pos c8]; exact Pd.i)
            · skip
              refine w_iconst (v := 1) ok dX12_works_438 (by decide) ?_
              refine w_goto (tgt := 443) ok dX12_works_439 (by decide) ?_
              exact w_zret ok fin dX12_works_443 rfl (by decide) (by unfold F_X12_works FI_X12_works FJ_X12_works; simp only [if_neg c1]; simp only [if_pos c2]; simp only [if_neg c3]; simp only [if_pos c6]; simp only [if_neg c7]; simp only [if_neg c8]; exact Pd.i)
        · skip
          refine w_iconst (v := 0) ok dX12_works_210 (by decide) ?_
          exact w_zret ok fin dX12_works_211 rfl (by decide) (by unfold F_X12_works FI_X12_works FJ_X12_works; simp only [if_neg c1]; simp only [if_pos c2]; simp only [if_neg c3]; simp only [if_neg c6]; exact Pd.i)
    · skip
      by_cases c9 : a0 = 43
      · skip
        refine w_lkp (tgt := 168) (off := 98) ok dX12_works_70 (by decide) (by rw [c9]; rfl) (by decide) ?_
        refine w_lload ok dX12_works_168 0 rfl ?_
        refine w_lload_n ok dX12_works_170 1 rfl ?_
        refine w_ladd ok dX12_works_171 ?_
        refine w_lstore ok dX12_works_172 (by decide) rfl ?_
        refine w_goto (tgt := 407) ok dX12_works_174 (by decide) ?_
        refine w_aload_n ok dX12_works_407 3 rfl ?_
        refine w_getR ok dX12_works_408 (fX12_81 rfl) (congrArg Prod.fst s_130) rfl (r_130_37 ro) (ltM hnn (by decide)) ?_
        refine w_aload_n ok dX12_works_411 3 rfl ?_
        refine w_getI ok dX12_works_412 (fX12_338 rfl) (congrArg Prod.fst s_130) rfl (ltM hnn (by decide)) ?_
        refine w_iconst (v := 1) ok dX12_works_415 (by decide) ?_
        refine w_isub ok dX12_works_416 ?_
        refine w_lload ok dX12_works_417 0 rfl ?_
        refine x_last (q := (((u2 I 130 38 ((I 130 38) - 1)) 130 38) - 1).toNatClampNeg) ok dX12_works_419 s_153 (hp6 c1 c2 c9) (by decide) (ltM hnn (by decide)) ?_
        show WK K 0 0 420 [(6, .long ((J 153 ((I 130 38) - 2).toNatClampNeg) + (J 153 ((I 130 38) - 1).toNatClampNeg))), (4, .long (J 153 ((I 130 38) - 2).toNatClampNeg)), (2, .long (J 153 ((I 130 38) - 1).toNatClampNeg)), (0, .ref 130), (1, .int a0)] [] (u2 I 130 38 ((I 130 38) - 1)) (S8_X12_works a0 I J) R n g
        refine w_lload ok dX12_works_420 0 rfl ?_
        refine w_ldc2 ok dX12_works_422 kX12_351 ?_
        refine w_lcmp ok dX12_works_425 ?_
        show WK K 0 0 426 [(6, .long ((J 153 ((I 130 38) - 2).toNatClampNeg) + (J 153 ((I 130 38) - 1).toNatClampNeg))), (4, .long (J 153 ((I 130 38) - 2).toNatClampNeg)), (2, .long (J 153 ((I 130 38) - 1).toNatClampNeg)), (0, .ref 130), (1, .int a0)] [.int (S9_X12_works a0 I J)] (u2 I 130 38 ((I 130 38) - 1)) (S8_X12_works a0 I J) R n g
        refine w_if_gt (tgt := 442) ok dX12_works_426 (by decide) (fun c10 => ?_) (fun c10 => ?_)
        · skip
          refine w_iconst (v := 0) ok dX12_works_442 (by decide) ?_
          exact w_zret ok fin dX12_works_443 rfl (by decide) (by unfold F_X12_works FI_X12_works FJ_X12_works; simp only [if_neg c1]; simp only [if_neg c2]; simp only [if_pos c9]; simp only [if_pos c10]; exact Pd.i)
        · skip
          refine w_lload ok dX12_works_429 0 rfl ?_
          refine w_ldc2 ok dX12_works_431 kX12_353 ?_
          refine w_lcmp ok dX12_works_434 ?_
          show WK K 0 0 435 [(6, .long ((J 153 ((I 130 38) - 2).toNatClampNeg) + (J 153 ((I 130 38) - 1).toNatClampNeg))), (4, .long (J 153 ((I 130 38) - 2).toNatClampNeg)), (2, .long (J 153 ((I 130 38) - 1).toNatClampNeg)), (0, .ref 130), (1, .int a0)] [.int (S10_X12_works a0 I J)] (u2 I 130 38 ((I 130 38) - 1)) (S8_X12_works a0 I J) R n g
          refine w_if_lt (tgt := 442) ok dX12_works_435 (by decide) (fun c11 => ?_) (fun c11 => ?_)
          · skip
            refine w_iconst (v := 0) ok dX12_works_442 (by decide) ?_
            exact w_zret ok fin dX12_works_443 rfl (by decide) (by unfold F_X12_works FI_X12_works FJ_X12_works; simp only [if_neg c1]; simp only [if_neg c2]; simp only [if_pos c9]; simp only [if_neg c10]; simp only [if_pos c11]; exact Pd.i)
          · skip
            refine w_iconst (v := 1) ok dX12_works_438 (by decide) ?_
            refine w_goto (tgt := 443) ok dX12_works_439 (by decide) ?_
            exact w_zret ok fin dX12_works_443 rfl (by decide) (by unfold F_X12_works FI_X12_works FJ_X12_works; simp only [if_neg c1]; simp only [if_neg c2]; simp only [if_pos c9]; simp only [if_neg c10]; simp only [if_neg c11]; exact Pd.i)
      · skip
        by_cases c12 : a0 = 45
        · skip
          refine w_lkp (tgt := 177) (off := 107) ok dX12_works_70 (by decide) (by rw [c12]; rfl) (by decide) ?_
          refine w_lload ok dX12_works_177 0 rfl ?_
          refine w_lload_n ok dX12_works_179 1 rfl ?_
          refine w_lsub ok dX12_works_180 ?_
          refine w_lstore ok dX12_works_181 (by decide) rfl ?_
          refine w_goto (tgt := 407) ok dX12_works_183 (by decide) ?_
          refine w_aload_n ok dX12_works_407 3 rfl ?_
          refine w_getR ok dX12_works_408 (fX12_81 rfl) (congrArg Prod.fst s_130) rfl (r_130_37 ro) (ltM hnn (by decide)) ?_
          refine w_aload_n ok dX12_works_411 3 rfl ?_
          refine w_getI ok dX12_works_412 (fX12_338 rfl) (congrArg Prod.fst s_130) rfl (ltM hnn (by decide)) ?_
          refine w_iconst (v := 1) ok dX12_works_415 (by decide) ?_
          refine w_isub ok dX12_works_416 ?_
          refine w_lload ok dX12_works_417 0 rfl ?_
          refine x_last (q := (((u2 I 130 38 ((I 130 38) - 1)) 130 38) - 1).toNatClampNeg) ok dX12_works_419 s_153 (hp7 c1 c2 c9 c12) (by decide) (ltM hnn (by decide)) ?_
          show WK K 0 0 420 [(6, .long ((J 153 ((I 130 38) - 2).toNatClampNeg) - (J 153 ((I 130 38) - 1).toNatClampNeg))), (4, .long (J 153 ((I 130 38) - 2).toNatClampNeg)), (2, .long (J 153 ((I 130 38) - 1).toNatClampNeg)), (0, .ref 130), (1, .int a0)] [] (u2 I 130 38 ((I 130 38) - 1)) (S11_X12_works a0 I J) R n g
          refine w_lload ok dX12_works_420 0 rfl ?_
          refine w_ldc2 ok dX12_works_422 kX12_351 ?_
          refine w_lcmp ok dX12_works_425 ?_
          show WK K 0 0 426 [(6, .long ((J 153 ((I 130 38) - 2).toNatClampNeg) - (J 153 ((I 130 38) - 1).toNatClampNeg))), (4, .long (J 153 ((I 130 38) - 2).toNatClampNeg)), (2, .long (J 153 ((I 130 38) - 1).toNatClampNeg)), (0, .ref 130), (1, .int a0)] [.int (S12_X12_works a0 I J)] (u2 I 130 38 ((I 130 38) - 1)) (S11_X12_works a0 I J) R n g
          refine w_if_gt (tgt := 442) ok dX12_works_426 (by decide) (fun c13 => ?_) (fun c13 => ?_)
          · skip
            refine w_iconst (v := 0) ok dX12_works_442 (by decide) ?_
            exact w_zret ok fin dX12_works_443 rfl (by decide) (by unfold F_X12_works FI_X12_works FJ_X12_works; simp only [if_neg c1]; simp only [if_neg c2]; simp only [if_neg c9]; simp only [if_pos c12]; simp only [if_pos c13]; exact Pd.i)
          · skip
            refine w_lload ok dX12_works_429 0 rfl ?_
            refine w_ldc2 ok dX12_works_431 kX12_353 ?_
            refine w_lcmp ok dX12_works_434 ?_
            show WK K 0 0 435 [(6, .long ((J 153 ((I 130 38) - 2).toNatClampNeg) - (J 153 ((I 130 38) - 1).toNatClampNeg))), (4, .long (J 153 ((I 130 38) - 2).toNatClampNeg)), (2, .long (J 153 ((I 130 38) - 1).toNatClampNeg)), (0, .ref 130), (1, .int a0)] [.int (S13_X12_works a0 I J)] (u2 I 130 38 ((I 130 38) - 1)) (S11_X12_works a0 I J) R n g
            refine w_if_lt (tgt := 442) ok dX12_works_435 (by decide) (fun c14 => ?_) (fun c14 => ?_)
            · skip
              refine w_iconst (v := 0) ok dX12_works_442 (by decide) ?_
              exact w_zret ok fin dX12_works_443 rfl (by decide) (by unfold F_X12_works FI_X12_works FJ_X12_works; simp only [if_neg c1]; simp only [if_neg c2]; simp only [if_neg c9]; simp only [if_pos c12]; simp only [if_neg c13]; simp only [if_pos c14]; exact Pd.i)
            · skip
              refine w_iconst (v := 1) ok dX12_works_438 (by decide) ?_
              refine w_goto (tgt := 443) ok dX12_works_439 (by decide) ?_
              exact w_zret ok fin dX12_works_443 rfl (by decide) (by unfold F_X12_works FI_X12_works FJ_X12_works; simp only [if_neg c1]; simp only [if_neg c2]; simp only [if_neg c9]; simp only [if_pos c12]; simp only [if_neg c13]; simp only [if_neg c14]; exact Pd.i)
        · skip
          by_cases c15 : a0 = 47
          · skip
            refine w_lkp (tgt := 221) (off := 151) ok dX12_works_70 (by decide) (by rw [c15]; rfl) (by decide) ?_
            refine w_lload_n ok dX12_works_221 1 rfl ?_
            refine w_lconst (v := 0) ok dX12_works_222 (by decide) ?_
            refine w_lcmp ok dX12_works_223 ?_
            refine w_if_ne (tgt := 229) ok dX12_works_224 (by decide) (fun c16 => ?_) (fun c16 => ?_)
            · skip
              refine w_lload ok dX12_works_229 0 rfl ?_
              refine w_lload_n ok dX12_works_231 1 rfl ?_
              refine w_ldiv ok dX12_works_232 (hp8 c1 c2 c9 c12 c15 c16) ?_
              refine w_lstore ok dX12_works_233 (by decide) rfl ?_
              refine w_goto (tgt := 407) ok dX12_works_235 (by decide) ?_
              refine w_aload_n ok dX12_works_407 3 rfl ?_
              refine w_getR ok dX12_works_408 (fX12_81 rfl) (congrArg Prod.fst s_130) rfl (r_130_37 ro) (ltM hnn (by decide)) ?_
              refine w_aload_n ok dX12_works_411 3 rfl ?_
              refine w_getI ok dX12_works_412 (fX12_338 rfl) (congrArg Prod.fst s_130) rfl (ltM hnn (by decide)) ?_
              refine w_iconst (v := 1) ok dX12_works_415 (by decide) ?_
              refine w_isub ok dX12_works_416 ?_
              refine w_lload ok dX12_works_417 0 rfl ?_
              refine x_last (q := (((u2 I 130 38 ((I 130 38) - 1)) 130 38) - 1).toNatClampNeg) ok dX12_works_419 s_153 (hp9 c1 c2 c9 c12 c15 c16) (by decide) (ltM hnn (by decide)) ?_
              show WK K 0 0 420 [(6, .long ((J 153 ((I 130 38) - 2).toNatClampNeg) / (J 153 ((I 130 38) - 1).toNatClampNeg))), (4, .long (J 153 ((I 130 38) - 2).toNatClampNeg)), (2, .long (J 153 ((I 130 38) - 1).toNatClampNeg)), (0, .ref 130), (1, .int a0)] [] (u2 I 130 38 ((I 130 38) - 1)) (S14_X12_works a0 I J) R n g
              refine w_lload ok dX12_works_420 0 rfl ?_
              refine w_ldc2 ok dX12_works_422 kX12_351 ?_
              refine w_lcmp ok dX12_works_425 ?_
              show WK K 0 0 426 [(6, .long ((J 153 ((I 130 38) - 2).toNatClampNeg) / (J 153 ((I 130 38) - 1).toNatClampNeg))), (4, .long (J 153 ((I 130 38) - 2).toNatClampNeg)), (2, .long (J 153 ((I 130 38) - 1).toNatClampNeg)), (0, .ref 130), (1, .int a0)] [.int (S15_X12_works a0 I J)] (u2 I 130 38 ((I 130 38) - 1)) (S14_X12_works a0 I J) R n g
              refine w_if_gt (tgt := 442) ok dX12_works_426 (by decide) (fun c17 => ?_) (fun c17 => ?_)
              · skip
                refine w_iconst (v := 0) ok dX12_works_442 (by decide) ?_
                exact w_zret ok fin dX12_works_443 rfl (by decide) (by unfold F_X12_works FI_X12_works FJ_X12_works; simp only [if_neg c1]; simp only [if_neg c2]; simp only [if_neg c9]; simp only [if_neg c12]; simp only [if_pos c15]; simp only [if_neg c16]; simp only [if_pos c17]; exact Pd.i)
              · skip
                refine w_lload ok dX12_works_429 0 rfl ?_
                refine w_ldc2 ok dX12_works_431 kX12_353 ?_
                refine w_lcmp ok dX12_works_434 ?_
                show WK K 0 0 435 [(6, .long ((J 153 ((I 130 38) - 2).toNatClampNeg) / (J 153 ((I 130 38) - 1).toNatClampNeg))), (4, .long (J 153 ((I 130 38) - 2).toNatClampNeg)), (2, .long (J 153 ((I 130 38) - 1).toNatClampNeg)), (0, .ref 130), (1, .int a0)] [.int (S16_X12_works a0 I J)] (u2 I 130 38 ((I 130 38) - 1)) (S14_X12_works a0 I J) R n g
                refine w_if_lt (tgt := 442) ok dX12_works_435 (by decide) (fun c18 => ?_) (fun c18 => ?_)
                · skip
                  refine w_iconst (v := 0) ok dX12_works_442 (by decide) ?_
                  exact w_zret ok fin dX12_works_443 rfl (by decide) (by unfold F_X12_works FI_X12_works FJ_X12_works; simp only [if_neg c1]; simp only [if_neg c2]; simp only [if_neg c9]; simp only [if_neg c12]; simp only [if_pos c15]; simp only [if_neg c16]; simp only [if_neg c17]; simp only [if_pos c18]; exact Pd.i)
                · skip
                  refine w_iconst (v := 1) ok dX12_works_438 (by decide) ?_
                  refine w_goto (tgt := 443) ok dX12_works_439 (by decide) ?_
                  exact w_zret ok fin dX12_works_443 rfl (by decide) (by unfold F_X12_works FI_X12_works FJ_X12_works; simp only [if_neg c1]; simp only [if_neg c2]; simp only [if_neg c9]; simp only [if_neg c12]; simp only [if_pos c15]; simp only [if_neg c16]; simp only [if_neg c17]; simp only [if_neg c18]; exact Pd.i)
            · skip
              refine w_iconst (v := 0) ok dX12_works_227 (by decide) ?_
              exact w_zret ok fin dX12_works_228 rfl (by decide) (by unfold F_X12_works FI_X12_works FJ_X12_works; simp only [if_neg c1]; simp only [if_neg c2]; simp only [if_neg c9]; simp only [if_neg c12]; simp only [if_pos c15]; simp only [if_pos c16]; exact Pd.i)
          · skip
            by_cases c19 : a0 = 60
            · skip
              refine w_lkp (tgt := 238) (off := 168) ok dX12_works_70 (by decide) (by rw [c19]; rfl) (by decide) ?_
              refine w_lload ok dX12_works_238 0 rfl ?_
              refine w_lload_n ok dX12_works_240 1 rfl ?_
              refine w_lcmp ok dX12_works_241 ?_
              refine w_if_ge (tgt := 249) ok dX12_works_242 (by decide) (fun c20 => ?_) (fun c20 => ?_)
              · skip
                refine w_iconst (v := 0) ok dX12_works_249 (by decide) ?_
                refine w_cS (As := [.int 0]) ok dX12_works_250 iX12_is (lX12_341 rfl) (c_X12_is ro hnn 0 ) (by decide) rfl (Nat.le_of_ble_eq_true rfl) ?_
                refine w_lstore ok dX12_works_253 (by decide) rfl ?_
                refine w_goto (tgt := 407) ok dX12_works_255 (by decide) ?_
                refine w_aload_n ok dX12_works_407 3 rfl ?_
                refine w_getR ok dX12_works_408 (fX12_81 rfl) (congrArg Prod.fst s_130) rfl (r_130_37 ro) (ltM hnn (by decide)) ?_
                refine w_aload_n ok dX12_works_411 3 rfl ?_
                refine w_getI ok dX12_works_412 (fX12_338 rfl) (congrArg Prod.fst s_130) rfl (ltM hnn (by decide)) ?_
                refine w_iconst (v := 1) ok dX12_works_415 (by decide) ?_
                refine w_isub ok dX12_works_416 ?_
                refine w_lload ok dX12_works_417 0 rfl ?_
                refine x_last (q := (((u2 I 130 38 ((I 130 38) - 1)) 130 38) - 1).toNatClampNeg) ok dX12_works_419 s_153 (hp10 c1 c2 c9 c12 c15 c19 c20) (by decide) (ltM hnn (by decide)) ?_
                show WK K 0 0 420 [(6, .long (F_X12_is 0 (u2 I 130 38 ((I 130 38) - 1)) J)), (4, .long (J 153 ((I 130 38) - 2).toNatClampNeg)), (2, .long (J 153 ((I 130 38) - 1).toNatClampNeg)), (0, .ref 130), (1, .int a0)] [] (u2 I 130 38 ((I 130 38) - 1)) (S17_X12_works a0 I J) R n g
                refine w_lload ok dX12_works_420 0 rfl ?_
                refine w_ldc2 ok dX12_works_422 kX12_351 ?_
                refine w_lcmp ok dX12_works_425 ?_
                refine w_if_gt (tgt := 442) ok dX12_works_426 (by decide) (fun c21 => ?_) (fun c21 => ?_)
                · skip
                  refine w_iconst (v := 0) ok dX12_works_442 (by decide) ?_
                  exact w_zret ok fin dX12_works_443 rfl (by decide) (by unfold F_X12_works FI_X12_works FJ_X12_works; simp only [if_neg c1]; simp only [if_neg c2]; simp only [if_neg c9]; simp only [if_neg c12]; simp only [if_neg c15]; simp only [if_pos c19]; simp only [if_pos c20]; simp only [if_pos c21]; exact Pd.i)
                · skip
                  refine w_lload ok dX12_works_429 0 rfl ?_
                  refine w_ldc2 ok dX12_works_431 kX12_353 ?_
                  refine w_lcmp ok dX12_works_434 ?_
                  refine w_if_lt (tgt := 442) ok dX12_works_435 (by decide) (fun c22 => ?_) (fun c22 => ?_)
                  · skip
                    refine w_iconst (v := 0) ok dX12_works_442 (by decide) ?_
                    exact w_zret ok fin dX12_works_443 rfl (by decide) (by unfold F_X12_works FI_X12_works FJ_X12_works; simp only [if_neg c1]; simp only [if_neg c2]; simp only [if_neg c9]; simp only [if_neg c12]; simp only [if_neg c15]; simp only [if_pos c19]; simp only [if_pos c20]; simp only [if_neg c21]; simp only [if_pos c22]; exact Pd.i)
                  · skip
                    refine w_iconst (v := 1) ok dX12_works_438 (by decide) ?_
                    refine w_goto (tgt := 443) ok dX12_works_439 (by decide) ?_
                    exact w_zret ok fin dX12_works_443 rfl (by decide) (by unfold F_X12_works FI_X12_works FJ_X12_works; simp only [if_neg c1]; simp only [if_neg c2]; simp only [if_neg c9]; simp only [if_neg c12]; simp only [if_neg c15]; simp only [if_pos c19]; simp only [if_pos c20]; simp only [if_neg c21]; simp only [if_neg c22]; exact Pd.i)
              · skip
                refine w_iconst (v := 1) ok dX12_works_245 (by decide) ?_
                refine w_goto (tgt := 250) ok dX12_works_246 (by decide) ?_
                refine w_cS (As := [.int 1]) ok dX12_works_250 iX12_is (lX12_341 rfl) (c_X12_is ro hnn 1 ) (by decide) rfl (Nat.le_of_ble_eq_true rfl) ?_
                refine w_lstore ok dX12_works_253 (by decide) rfl ?_
                refine w_goto (tgt := 407) ok dX12_works_255 (by decide) ?_
                refine w_aload_n ok dX12_works_407 3 rfl ?_
                refine w_getR ok dX12_works_408 (fX12_81 rfl) (congrArg Prod.fst s_130) rfl (r_130_37 ro) (ltM hnn (by decide)) ?_
                refine w_aload_n ok dX12_works_411 3 rfl ?_
                refine w_getI ok dX12_works_412 (fX12_338 rfl) (congrArg Prod.fst s_130) rfl (ltM hnn (by decide)) ?_
                refine w_iconst (v := 1) ok dX12_works_415 (by decide) ?_
                refine w_isub ok dX12_works_416 ?_
                refine w_lload ok dX12_works_417 0 rfl ?_
                refine x_last (q := (((u2 I 130 38 ((I 130 38) - 1)) 130 38) - 1).toNatClampNeg) ok dX12_works_419 s_153 (hp11 c1 c2 c9 c12 c15 c19 c20) (by decide) (ltM hnn (by decide)) ?_
                show WK K 0 0 420 [(6, .long (F_X12_is 1 (u2 I 130 38 ((I 130 38) - 1)) J)), (4, .long (J 153 ((I 130 38) - 2).toNatClampNeg)), (2, .long (J 153 ((I 130 38) - 1).toNatClampNeg)), (0, .ref 130), (1, .int a0)] [] (u2 I 130 38 ((I 130 38) - 1)) (S18_X12_works a0 I J) R n g
                refine w_lload ok dX12_works_420 0 rfl ?_
                refine w_ldc2 ok dX12_works_422 kX12_351 ?_
                refine w_lcmp ok dX12_works_425 ?_
                refine w_if_gt (tgt := 442) ok dX12_works_426 (by decide) (fun c23 => ?_) (fun c23 => ?_)
                · skip
                  refine w_iconst (v := 0) ok dX12_works_442 (by decide) ?_
                  exact w_zret ok fin dX12_works_443 rfl (by decide) (by unfold F_X12_works FI_X12_works FJ_X12_works; simp only [if_neg c1]; simp only [if_neg c2]; simp only [if_neg c9]; simp only [if_neg c12]; simp only [if_neg c15]; simp only [if_pos c19]; simp only [if_neg c20]; simp only [if_pos c23]; exact Pd.i)
                · skip
                  refine w_lload ok dX12_works_429 0 rfl ?_
                  refine w_ldc2 ok dX12_works_431 kX12_353 ?_
                  refine w_lcmp ok dX12_works_434 ?_
                  refine w_if_lt (tgt := 442) ok dX12_works_435 (by decide) (fun c24 => ?_) (fun c24 => ?_)
                  · skip
                    refine w_iconst (v := 0) ok dX12_works_442 (by decide) ?_
                    exact w_zret ok fin dX12_works_443 rfl (by decide) (by unfold F_X12_works FI_X12_works FJ_X12_works; simp only [if_neg c1]; simp only [if_neg c2]; simp only [if_neg c9]; simp only [if_neg c12]; simp only [if_neg c15]; simp only [if_pos c19]; simp only [if_neg c20]; simp only [if_neg c23]; simp only [if_pos c24]; exact Pd.i)
                  · skip
                    refine w_iconst (v := 1) ok dX12_works_438 (by decide) ?_
                    refine w_goto (tgt := 443) ok dX12_works_439 (by decide) ?_
                    exact w_zret ok fin dX12_works_443 rfl (by decide) (by unfold F_X12_works FI_X12_works FJ_X12_works; simp only [if_neg c1]; simp only [if_neg c2]; simp only [if_neg c9]; simp only [if_neg c12]; simp only [if_neg c15]; simp only [if_pos c19]; simp only [if_neg c20]; simp only [if_neg c23]; simp only [if_neg c24]; exact Pd.i)
            · skip
              by_cases c25 : a0 = 61
              · skip
                refine w_lkp (tgt := 278) (off := 208) ok dX12_works_70 (by decide) (by rw [c25]; rfl) (by decide) ?_
                refine w_lload ok dX12_works_278 0 rfl ?_
                refine w_lload_n ok dX12_works_280 1 rfl ?_
                refine w_lcmp ok dX12_works_281 ?_
                refine w_if_ne (tgt := 289) ok dX12_works_282 (by decide) (fun c26 => ?_) (fun c26 => ?_)
                · skip
                  refine w_iconst (v := 0) ok dX12_works_289 (by decide) ?_
                  refine w_cS (As := [.int 0]) ok dX12_works_290 iX12_is (lX12_341 rfl) (c_X12_is ro hnn 0 ) (by decide) rfl (Nat.le_of_ble_eq_true rfl) ?_
                  refine w_lstore ok dX12_works_293 (by decide) rfl ?_
                  refine w_goto (tgt := 407) ok dX12_works_295 (by decide) ?_
                  refine w_aload_n ok dX12_works_407 3 rfl ?_
                  refine w_getR ok dX12_works_408 (fX12_81 rfl) (congrArg Prod.fst s_130) rfl (r_130_37 ro) (ltM hnn (by decide)) ?_
                  refine w_aload_n ok dX12_works_411 3 rfl ?_
                  refine w_getI ok dX12_works_412 (fX12_338 rfl) (congrArg Prod.fst s_130) rfl (ltM hnn (by decide)) ?_
                  refine w_iconst (v := 1) ok dX12_works_415 (by decide) ?_
                  refine w_isub ok dX12_works_416 ?_
                  refine w_lload ok dX12_works_417 0 rfl ?_
                  refine x_last (q := (((u2 I 130 38 ((I 130 38) - 1)) 130 38) - 1).toNatClampNeg) ok dX12_works_419 s_153 (hp12 c1 c2 c9 c12 c15 c19 c25 c26) (by decide) (ltM hnn (by decide)) ?_
                  show WK K 0 0 420 [(6, .long (F_X12_is 0 (u2 I 130 38 ((I 130 38) - 1)) J)), (4, .long (J 153 ((I 130 38) - 2).toNatClampNeg)), (2, .long (J 153 ((I 130 38) - 1).toNatClampNeg)), (0, .ref 130), (1, .int a0)] [] (u2 I 130 38 ((I 130 38) - 1)) (S19_X12_works a0 I J) R n g
                  refine w_lload ok dX12_works_420 0 rfl ?_
                  refine w_ldc2 ok dX12_works_422 kX12_351 ?_
                  refine w_lcmp ok dX12_works_425 ?_
                  refine w_if_gt (tgt := 442) ok dX12_works_426 (by decide) (fun c27 => ?_) (fun c27 => ?_)
                  · skip
                    refine w_iconst (v := 0) ok dX12_works_442 (by decide) ?_
                    exact w_zret ok fin dX12_works_443 rfl (by decide) (by unfold F_X12_works FI_X12_works FJ_X12_works; simp only [if_neg c1]; simp only [if_neg c2]; simp only [if_neg c9]; simp only [if_neg c12]; simp only [if_neg c15]; simp only [if_neg c19]; simp only [if_pos c25]; simp only [if_neg c26]; simp only [if_pos c27]; exact Pd.i)
                  · skip
                    refine w_lload ok dX12_works_429 0 rfl ?_
                    refine w_ldc2 ok dX12_works_431 kX12_353 ?_
                    refine w_lcmp ok dX12_works_434 ?_
                    refine w_if_lt (tgt := 442) ok dX12_works_435 (by decide) (fun c28 => ?_) (fun c28 => ?_)
                    · skip
                      refine w_iconst (v := 0) ok dX12_works_442 (by decide) ?_
                      exact w_zret ok fin dX12_works_443 rfl (by decide) (by unfold F_X12_works FI_X12_works FJ_X12_works; simp only [if_neg c1]; simp only [if_neg c2]; simp only [if_neg c9]; simp only [if_neg c12]; simp only [if_neg c15]; simp only [if_neg c19]; simp only [if_pos c25]; simp only [if_neg c26]; simp only [if_neg c27]; simp only [if_pos c28]; exact Pd.i)
                    · skip
                      refine w_iconst (v := 1) ok dX12_works_438 (by decide) ?_
                      refine w_goto (tgt := 443) ok dX12_works_439 (by decide) ?_
                      exact w_zret ok fin dX12_works_443 rfl (by decide) (by unfold F_X12_works FI_X12_works FJ_X12_works; simp only [if_neg c1]; simp only [if_neg c2]; simp only [if_neg c9]; simp only [if_neg c12]; simp only [if_neg c15]; simp only [if_neg c19]; simp only [if_pos c25]; simp only [if_neg c26]; simp only [if_neg c27]; simp only [if_neg c28]; exact Pd.i)
                · skip
                  refine w_iconst (v := 1) ok dX12_works_285 (by decide) ?_
                  refine w_goto (tgt := 290) ok dX12_works_286 (by decide) ?_
                  refine w_cS (As := [.int 1]) ok dX12_works_290 iX12_is (lX12_341 rfl) (c_X12_is ro hnn 1 ) (by decide) rfl (Nat.le_of_ble_eq_true rfl) ?_
                  refine w_lstore ok dX12_works_293 (by decide) rfl ?_
                  refine w_goto (tgt := 407) ok dX12_works_295 (by decide) ?_
                  refine w_aload_n ok dX12_works_407 3 rfl ?_
                  refine w_getR ok dX12_works_408 (fX12_81 rfl) (congrArg Prod.fst s_130) rfl (r_130_37 ro) (ltM hnn (by decide)) ?_
                  refine w_aload_n ok dX12_works_411 3 rfl ?_
                  refine w_getI ok dX12_works_412 (fX12_338 rfl) (congrArg Prod.fst s_130) rfl (ltM hnn (by decide)) ?_
                  refine w_iconst (v := 1) ok dX12_works_415 (by decide) ?_
                  refine w_isub ok dX12_works_416 ?_
                  refine w_lload ok dX12_works_417 0 rfl ?_
                  refine x_last (q := (((u2 I 130 38 ((I 130 38) - 1)) 130 38) - 1).toNatClampNeg) ok dX12_works_419 s_153 (hp13 c1 c2 c9 c12 c15 c19 c25 c26) (by decide) (ltM hnn (by decide)) ?_
                  show WK K 0 0 420 [(6, .long (F_X12_is 1 (u2 I 130 38 ((I 130 38) - 1)) J)), (4, .long (J 153 ((I 130 38) - 2).toNatClampNeg)), (2, .long (J 153 ((I 130 38) - 1).toNatClampNeg)), (0, .ref 130), (1, .int a0)] [] (u2 I 130 38 ((I 130 38) - 1)) (S20_X12_works a0 I J) R n g
                  refine w_lload ok dX12_works_420 0 rfl ?_
                  refine w_ldc2 ok dX12_works_422 kX12_351 ?_
                  refine w_lcmp ok dX12_works_425 ?_
                  refine w_if_gt (tgt := 442) ok dX12_works_426 (by decide) (fun c29 => ?_) (fun c29 => ?_)
                  · skip
                    refine w_iconst (v := 0) ok dX12_works_442 (by decide) ?_
                    exact w_zret ok fin dX12_works_443 rfl (by decide) (by unfold F_X12_works FI_X12_works FJ_X12_works; simp only [if_neg c1]; simp only [if_neg c2]; simp only [if_neg c9]; simp only [if_neg c12]; simp only [if_neg c15]; simp only [if_neg c19]; simp only [if_pos c25]; simp only [if_pos c26]; simp only [if_pos c29]; exact Pd.i)
                  · skip
                    refine w_lload ok dX12_works_429 0 rfl ?_
                    refine w_ldc2 ok dX12_works_431 kX12_353 ?_
                    refine w_lcmp ok dX12_works_434 ?_
                    refine w_if_lt (tgt := 442) ok dX12_works_435 (by decide) (fun c30 => ?_) (fun c30 => ?_)
                    · skip
                      refine w_iconst (v := 0) ok dX12_works_442 (by decide) ?_
                      exact w_zret ok fin dX12_works_443 rfl (by decide) (by unfold F_X12_works FI_X12_works FJ_X12_works; simp only [if_neg c1]; simp only [if_neg c2]; simp only [if_neg c9]; simp only [if_neg c12]; simp only [if_neg c15]; simp only [if_neg c19]; simp only [if_pos c25]; simp only [if_pos c26]; simp only [if_neg c29]; simp only [if_pos c30]; exact Pd.i)
                    · skip
                      refine w_iconst (v := 1) ok dX12_works_438 (by decide) ?_
                      refine w_goto (tgt := 443) ok dX12_works_439 (by decide) ?_
                      exact w_zret ok fin dX12_works_443 rfl (by decide) (by unfold F_X12_works FI_X12_works FJ_X12_works; simp only [if_neg c1]; simp only [if_neg c2]; simp only [if_neg c9]; simp only [if_neg c12]; simp only [if_neg c15]; simp only [if_neg c19]; simp only [if_pos c25]; simp only [if_pos c26]; simp only [if_neg c29]; simp only [if_neg c30]; exact Pd.i)
              · skip
                by_cases c31 : a0 = 62
                · skip
                  refine w_lkp (tgt := 258) (off := 188) ok dX12_works_70 (by decide) (by rw [c31]; rfl) (by decide) ?_
                  refine w_lload ok dX12_works_258 0 rfl ?_
                  refine w_lload_n ok dX12_works_260 1 rfl ?_
                  refine w_lcmp ok dX12_works_261 ?_
                  refine w_if_le (tgt := 269) ok dX12_works_262 (by decide) (fun c32 => ?_) (fun c32 => ?_)
                  · skip
                    refine w_iconst (v := 0) ok dX12_works_269 (by decide) ?_
                    refine w_cS (As := [.int 0]) ok dX12_works_270 iX12_is (lX12_341 rfl) (c_X12_is ro hnn 0 ) (by decide) rfl (Nat.le_of_ble_eq_true rfl) ?_
                    refine w_lstore ok dX12_works_273 (by decide) rfl ?_
                    refine w_goto (tgt := 407) ok dX12_works_275 (by decide) ?_
                    refine w_aload_n ok dX12_works_407 3 rfl ?_
                    refine w_getR ok dX12_works_408 (fX12_81 rfl) (congrArg Prod.fst s_130) rfl (r_130_37 ro) (ltM hnn (by decide)) ?_
                    refine w_aload_n ok dX12_works_411 3 rfl ?_
                    refine w_getI ok dX12_works_412 (fX12_338 rfl) (congrArg Prod.fst s_130) rfl (ltM hnn (by decide)) ?_
                    refine w_iconst (v := 1) ok dX12_works_415 (by decide) ?_
                    refine w_isub ok dX12_works_416 ?_
                    refine w_lload ok dX12_works_417 0 rfl ?_
                    refine x_last (q := (((u2 I 130 38 ((I 130 38) - 1)) 130 38) - 1).toNatClampNeg) ok dX12_works_419 s_153 (hp14 c1 c2 c9 c12 c15 c19 c25 c31 c32) (by decide) (ltM hnn (by decide)) ?_
                    show WK K 0 0 420 [(6, .long (F_X12_is 0 (u2 I 130 38 ((I 130 38) - 1)) J)), (4, .long (J 153 ((I 130 38) - 2).toNatClampNeg)), (2, .long (J 153 ((I 130 38) - 1).toNatClampNeg)), (0, .ref 130), (1, .int a0)] [] (u2 I 130 38 ((I 130 38) - 1)) (S21_X12_works a0 I J) R n g
                    refine w_lload ok dX12_works_420 0 rfl ?_
                    refine w_ldc2 ok dX12_works_422 kX12_351 ?_
                    refine w_lcmp ok dX12_works_425 ?_
                    refine w_if_gt (tgt := 442) ok dX12_works_426 (by decide) (fun c33 => ?_) (fun c33 => ?_)
                    · skip
                      refine w_iconst (v := 0) ok dX12_works_442 (by decide) ?_
                      exact w_zret ok fin dX12_works_443 rfl (by decide) (by unfold F_X12_works FI_X12_works FJ_X12_works; simp only [if_neg c1]; simp only [if_neg c2]; simp only [if_neg c9]; simp only [if_neg c12]; simp only [if_neg c15]; simp only [if_neg c19]; simp only [if_neg c25]; simp only [if_pos c31]; simp only [if_pos c32]; simp only [if_pos c33]; exact Pd.i)
                    · skip
                      refine w_lload ok dX12_works_429 0 rfl ?_
                      refine w_ldc2 ok dX12_works_431 kX12_353 ?_
                      refine w_lcmp ok dX12_works_434 ?_
                      refine w_if_lt (tgt := 442) ok dX12_works_435 (by decide) (fun c34 => ?_) (fun c34 => ?_)
                      · skip
                        refine w_iconst (v := 0) ok dX12_works_442 (by decide) ?_
                        exact w_zret ok fin dX12_works_443 rfl (by decide) (by unfold F_X12_works FI_X12_works FJ_X12_works; simp only [if_neg c1]; simp only [if_neg c2]; simp only [if_neg c9]; simp only [if_neg c12]; simp only [if_neg c15]; simp only [if_neg c19]; simp only [if_neg c25]; simp only [if_pos c31]; simp only [if_pos c32]; simp only [if_neg c33]; simp only [if_pos c34]; exact Pd.i)
                      · skip
                        refine w_iconst (v := 1) ok dX12_works_438 (by decide) ?_
                        refine w_goto (tgt := 443) ok dX12_works_439 (by decide) ?_
                        exact w_zret ok fin dX12_works_443 rfl (by decide) (by unfold F_X12_works FI_X12_works FJ_X12_works; simp only [if_neg c1]; simp only [if_neg c2]; simp only [if_neg c9]; simp only [if_neg c12]; simp only [if_neg c15]; simp only [if_neg c19]; simp only [if_neg c25]; simp only [if_pos c31]; simp only [if_pos c32]; simp only [if_neg c33]; simp only [if_neg c34]; exact Pd.i)
                  · skip
                    refine w_iconst (v := 1) ok dX12_works_265 (by decide) ?_
                    refine w_goto (tgt := 270) ok dX12_works_266 (by decide) ?_
                    refine w_cS (As := [.int 1]) ok dX12_works_270 iX12_is (lX12_341 rfl) (c_X12_is ro hnn 1 ) (by decide) rfl (Nat.le_of_ble_eq_true rfl) ?_
                    refine w_lstore ok dX12_works_273 (by decide) rfl ?_
                    refine w_goto (tgt := 407) ok dX12_works_275 (by decide) ?_
                    refine w_aload_n ok dX12_works_407 3 rfl ?_
                    refine w_getR ok dX12_works_408 (fX12_81 rfl) (congrArg Prod.fst s_130) rfl (r_130_37 ro) (ltM hnn (by decide)) ?_
                    refine w_aload_n ok dX12_works_411 3 rfl ?_
                    refine w_getI ok dX12_works_412 (fX12_338 rfl) (congrArg Prod.fst s_130) rfl (ltM hnn (by decide)) ?_
                    refine w_iconst (v := 1) ok dX12_works_415 (by decide) ?_
                    refine w_isub ok dX12_works_416 ?_
                    refine w_lload ok dX12_works_417 0 rfl ?_
                    refine x_last (q := (((u2 I 130 38 ((I 130 38) - 1)) 130 38) - 1).toNatClampNeg) ok dX12_works_419 s_153 (hp15 c1 c2 c9 c12 c15 c19 c25 c31 c32) (by decide) (ltM hnn (by decide)) ?_
                    show WK K 0 0 420 [(6, .long (F_X12_is 1 (u2 I 130 38 ((I 130 38) - 1)) J)), (4, .long (J 153 ((I 130 38) - 2).toNatClampNeg)), (2, .long (J 153 ((I 130 38) - 1).toNatClampNeg)), (0, .ref 130), (1, .int a0)] [] (u2 I 130 38 ((I 130 38) - 1)) (S22_X12_works a0 I J) R n g
                    refine w_lload ok dX12_works_420 0 rfl ?_
                    refine w_ldc2 ok dX12_works_422 kX12_351 ?_
                    refine w_lcmp ok dX12_works_425 ?_
                    refine w_if_gt (tgt := 442) ok dX12_works_426 (by decide) (fun c35 => ?_) (fun c35 => ?_)
                    · skip
                      refine w_iconst (v := 0) ok dX12_works_442 (by decide) ?_
                      exact w_zret ok fin dX12_works_443 rfl (by decide) (by unfold F_X12_works FI_X12_works FJ_X12_works; simp only [if_neg c1]; simp only [if_neg c2]; simp only [if_neg c9]; simp only [if_neg c12]; simp only [if_neg c15]; simp only [if_neg c19]; simp only [if_neg c25]; simp only [if_pos c31]; simp only [if_neg c32]; simp only [if_pos c35]; exact Pd.i)
                    · skip
                      refine w_lload ok dX12_works_429 0 rfl ?_
                      refine w_ldc2 ok dX12_works_431 kX12_353 ?_
                      refine w_lcmp ok dX12_works_434 ?_
                      refine w_if_lt (tgt := 442) ok dX12_works_435 (by decide) (fun c36 => ?_) (fun c36 => ?_)
                      · skip
                        refine w_iconst (v := 0) ok dX12_works_442 (by decide) ?_
                        exact w_zret ok fin dX12_works_443 rfl (by decide) (by unfold F_X12_works FI_X12_works FJ_X12_works; simp only [if_neg c1]; simp only [if_neg c2]; simp only [if_neg c9]; simp only [if_neg c12]; simp only [if_neg c15]; simp only [if_neg c19]; simp only [if_neg c25]; simp only [if_pos c31]; simp only [if_neg c32]; simp only [if_neg c35]; simp only [if_pos c36]; exact Pd.i)
                      · skip
                        refine w_iconst (v := 1) ok dX12_works_438 (by decide) ?_
                        refine w_goto (tgt := 443) ok dX12_works_439 (by decide) ?_
                        exact w_zret ok fin dX12_works_443 rfl (by decide) (by unfold F_X12_works FI_X12_works FJ_X12_works; simp only [if_neg c1]; simp only [if_neg c2]; simp only [if_neg c9]; simp only [if_neg c12]; simp only [if_neg c15]; simp only [if_neg c19]; simp only [if_neg c25]; simp only [if_pos c31]; simp only [if_neg c32]; simp only [if_neg c35]; simp only [if_neg c36]; exact Pd.i)
                · skip
                  by_cases c37 : a0 = 256
                  · skip
                    refine w_lkp (tgt := 298) (off := 228) ok dX12_works_70 (by decide) (by rw [c37]; rfl) (by decide) ?_
                    refine w_lload ok dX12_works_298 0 rfl ?_
                    refine w_lload_n ok dX12_works_300 1 rfl ?_
                    refine w_lcmp ok dX12_works_301 ?_
                    refine w_if_gt (tgt := 309) ok dX12_works_302 (by decide) (fun c38 => ?_) (fun c38 => ?_)
                    · skip
                      refine w_iconst (v := 0) ok dX12_works_309 (by decide) ?_
                      refine w_cS (As := [.int 0]) ok dX12_works_310 iX12_is (lX12_341 rfl) (c_X12_is ro hnn 0 ) (by decide) rfl (Nat.le_of_ble_eq_true rfl) ?_
                      refine w_lstore ok dX12_works_313 (by decide) rfl ?_
                      refine w_goto (tgt := 407) ok dX12_works_315 (by decide) ?_
                      refine w_aload_n ok dX12_works_407 3 rfl ?_
                      refine w_getR ok dX12_works_408 (fX12_81 rfl) (congrArg Prod.fst s_130) rfl (r_130_37 ro) (ltM hnn (by decide)) ?_
                      refine w_aload_n ok dX12_works_411 3 rfl ?_
                      refine w_getI ok dX12_works_412 (fX12_338 rfl) (congrArg Prod.fst s_130) rfl (ltM hnn (by decide)) ?_
                      refine w_iconst (v := 1) ok dX12_works_415 (by decide) ?_
                      refine w_isub ok dX12_works_416 ?_
                      refine w_lload ok dX12_works_417 0 rfl ?_
                      refine x_last (q := (((u2 I 130 38 ((I 130 38) - 1)) 130 38) - 1).toNatClampNeg) ok dX12_works_419 s_153 (hp16 c1 c2 c9 c12 c15 c19 c25 c31 c37 c38) (by decide) (ltM hnn (by decide)) ?_
                      show WK K 0 0 420 [(6, .long (F_X12_is 0 (u2 I 130 38 ((I 130 38) - 1)) J)), (4, .long (J 153 ((I 130 38) - 2).toNatClampNeg)), (2, .long (J 153 ((I 130 38) - 1).toNatClampNeg)), (0, .ref 130), (1, .int a0)] [] (u2 I 130 38 ((I 130 38) - 1)) (S23_X12_works a0 I J) R n g
                      refine w_lload ok dX12_works_420 0 rfl ?_
                      refine w_ldc2 ok dX12_works_422 kX12_351 ?_
                      refine w_lcmp ok dX12_works_425 ?_
                      refine w_if_gt (tgt := 442) ok dX12_works_426 (by decide) (fun c39 => ?_) (fun c39 => ?_)
                      · skip
                        refine w_iconst (v := 0) ok dX12_works_442 (by decide) ?_
                        exact w_zret ok fin dX12_works_443 rfl (by decide) (by unfold F_X12_works FI_X12_works FJ_X12_works; simp only [if_neg c1]; simp only [if_neg c2]; simp only [if_neg c9]; simp only [if_neg c12]; simp only [if_neg c15]; simp only [if_neg c19]; simp only [if_neg c25]; simp only [if_neg c31]; simp only [if_pos c37]; simp only [if_pos c38]; simp only [if_pos c39]; exact Pd.i)
                      · skip
                        refine w_lload ok dX12_works_429 0 rfl ?_
                        refine w_ldc2 ok dX12_works_431 kX12_353 ?_
                        refine w_lcmp ok dX12_works_434 ?_
                        refine w_if_lt (tgt := 442) ok dX12_works_435 (by decide) (fun c40 => ?_) (fun c40 => ?_)
                        · skip
                          refine w_iconst (v := 0) ok dX12_works_442 (by decide) ?_
                          exact w_zret ok fin dX12_works_443 rfl (by decide) (by unfold F_X12_works FI_X12_works FJ_X12_works; simp only [if_neg c1]; simp only [if_neg c2]; simp only [if_neg c9]; simp only [if_neg c12]; simp only [if_neg c15]; simp only [if_neg c19]; simp only [if_neg c25]; simp only [if_neg c31]; simp only [if_pos c37]; simp only [if_pos c38]; simp only [if_neg c39]; simp only [if_pos c40]; exact Pd.i)
                        · skip
                          refine w_iconst (v := 1) ok dX12_works_438 (by decide) ?_
                          refine w_goto (tgt := 443) ok dX12_works_439 (by decide) ?_
                          exact w_zret ok fin dX12_works_443 rfl (by decide) (by unfold F_X12_works FI_X12_works FJ_X12_works; simp only [if_neg c1]; simp only [if_neg c2]; simp only [if_neg c9]; simp only [if_neg c12]; simp only [if_neg c15]; simp only [if_neg c19]; simp only [if_neg c25]; simp only [if_neg c31]; simp only [if_pos c37]; simp only [if_pos c38]; simp only [if_neg c39]; simp only [if_neg c40]; exact Pd.i)
                    · skip
                      refine w_iconst (v := 1) ok dX12_works_305 (by decide) ?_
                      refine w_goto (tgt := 310) ok dX12_works_306 (by decide) ?_
                      refine w_cS (As := [.int 1]) ok dX12_works_310 iX12_is (lX12_341 rfl) (c_X12_is ro hnn 1 ) (by decide) rfl (Nat.le_of_ble_eq_true rfl) ?_
                      refine w_lstore ok dX12_works_313 (by decide) rfl ?_
                      refine w_goto (tgt := 407) ok dX12_works_315 (by decide) ?_
                      refine w_aload_n ok dX12_works_407 3 rfl ?_
                      refine w_getR ok dX12_works_408 (fX12_81 rfl) (congrArg Prod.fst s_130) rfl (r_130_37 ro) (ltM hnn (by decide)) ?_
                      refine w_aload_n ok dX12_works_411 3 rfl ?_
                      refine w_getI ok dX12_works_412 (fX12_338 rfl) (congrArg Prod.fst s_130) rfl (ltM hnn (by decide)) ?_
                      refine w_iconst (v := 1) ok dX12_works_415 (by decide) ?_
                      refine w_isub ok dX12_works_416 ?_
                      refine w_lload ok dX12_works_417 0 rfl ?_
                      refine x_last (q := (((u2 I 130 38 ((I 130 38) - 1)) 130 38) - 1).toNatClampNeg) ok dX12_works_419 s_153 (hp17 c1 c2 c9 c12 c15 c19 c25 c31 c37 c38) (by decide) (ltM hnn (by decide)) ?_
                      show WK K 0 0 420 [(6, .long (F_X12_is 1 (u2 I 130 38 ((I 130 38) - 1)) J)), (4, .long (J 153 ((I 130 38) - 2).toNatClampNeg)), (2, .long (J 153 ((I 130 38) - 1).toNatClampNeg)), (0, .ref 130), (1, .int a0)] [] (u2 I 130 38 ((I 130 38) - 1)) (S24_X12_works a0 I J) R n g
                      refine w_lload ok dX12_works_420 0 rfl ?_
                      refine w_ldc2 ok dX12_works_422 kX12_351 ?_
                      refine w_lcmp ok dX12_works_425 ?_
                      refine w_if_gt (tgt := 442) ok dX12_works_426 (by decide) (fun c41 => ?_) (fun c41 => ?_)
                      · skip
                        refine w_iconst (v := 0) ok dX12_works_442 (by decide) ?_
                        exact w_zret ok fin dX12_works_443 rfl (by decide) (by unfold F_X12_works FI_X12_works FJ_X12_works; simp only [if_neg c1]; simp only [if_neg c2]; simp only [if_neg c9]; simp only [if_neg c12]; simp only [if_neg c15]; simp only [if_neg c19]; simp only [if_neg c25]; simp only [if_neg c31]; simp only [if_pos c37]; simp only [if_neg c38]; simp only [if_pos c41]; exact Pd.i)
                      · skip
                        refine w_lload ok dX12_works_429 0 rfl ?_
                        refine w_ldc2 ok dX12_works_431 kX12_353 ?_
                        refine w_lcmp ok dX12_works_434 ?_
                        refine w_if_lt (tgt := 442) ok dX12_works_435 (by decide) (fun c42 => ?_) (fun c42 => ?_)
                        · skip
                          refine w_iconst (v := 0) ok dX12_works_442 (by decide) ?_
                          exact w_zret ok fin dX12_works_443 rfl (by decide) (by unfold F_X12_works FI_X12_works FJ_X12_works; simp only [if_neg c1]; simp only [if_neg c2]; simp only [if_neg c9]; simp only [if_neg c12]; simp only [if_neg c15]; simp only [if_neg c19]; simp only [if_neg c25]; simp only [if_neg c31]; simp only [if_pos c37]; simp only [if_neg c38]; simp only [if_neg c41]; simp only [if_pos c42]; exact Pd.i)
                        · skip
                          refine w_iconst (v := 1) ok dX12_works_438 (by decide) ?_
                          refine w_goto (tgt := 443) ok dX12_works_439 (by decide) ?_
                          exact w_zret ok fin dX12_works_443 rfl (by decide) (by unfold F_X12_works FI_X12_works FJ_X12_works; simp only [if_neg c1]; simp only [if_neg c2]; simp only [if_neg c9]; simp only [if_neg c12]; simp only [if_neg c15]; simp only [if_neg c19]; simp only [if_neg c25]; simp only [if_neg c31]; simp only [if_pos c37]; simp only [if_neg c38]; simp only [if_neg c41]; simp only [if_neg c42]; exact Pd.i)
                  · skip
                    by_cases c43 : a0 = 257
                    · skip
                      refine w_lkp (tgt := 338) (off := 268) ok dX12_works_70 (by decide) (by rw [c43]; rfl) (by decide) ?_
                      refine w_lload ok dX12_works_338 0 rfl ?_
                      refine w_lload_n ok dX12_works_340 1 rfl ?_
                      refine w_lcmp ok dX12_works_341 ?_
                      refine w_if_eq (tgt := 349) ok dX12_works_342 (by decide) (fun c44 => ?_) (fun c44 => ?_)
                      · skip
                        refine w_iconst (v := 0) ok dX12_works_349 (by decide) ?_
                        refine w_cS (As := [.int 0]) ok dX12_works_350 iX12_is (lX12_341 rfl) (c_X12_is ro hnn 0 ) (by decide) rfl (Nat.le_of_ble_eq_true rfl) ?_
                        refine w_lstore ok dX12_works_353 (by decide) rfl ?_
                        refine w_goto (tgt := 407) ok dX12_works_355 (by decide) ?_
                        refine w_aload_n ok dX12_works_407 3 rfl ?_
                        refine w_getR ok dX12_works_408 (fX12_81 rfl) (congrArg Prod.fst s_130) rfl (r_130_37 ro) (ltM hnn (by decide)) ?_
                        refine w_aload_n ok dX12_works_411 3 rfl ?_
                        refine w_getI ok dX12_works_412 (fX12_338 rfl) (congrArg Prod.fst s_130) rfl (ltM hnn (by decide)) ?_
                        refine w_iconst (v := 1) ok dX12_works_415 (by decide) ?_
                        refine w_isub ok dX12_works_416 ?_
                        refine w_lload ok dX12_works_417 0 rfl ?_
                        refine x_last (q := (((u2 I 130 38 ((I 130 38) - 1)) 130 38) - 1).toNatClampNeg) ok dX12_works_419 s_153 (hp18 c1 c2 c9 c12 c15 c19 c25 c31 c37 c43 c44) (by decide) (ltM hnn (by decide)) ?_
                        show WK K 0 0 420 [(6, .long (F_X12_is 0 (u2 I 130 38 ((I 130 38) - 1)) J)), (4, .long (J 153 ((I 130 38) - 2).toNatClampNeg)), (2, .long (J 153 ((I 130 38) - 1).toNatClampNeg)), (0, .ref 130), (1, .int a0)] [] (u2 I 130 38 ((I 130 38) - 1)) (S25_X12_works a0 I J) R n g
                        refine w_lload ok dX12_works_420 0 rfl ?_
                        refine w_ldc2 ok dX12_works_422 kX12_351 ?_
                        refine w_lcmp ok dX12_works_425 ?_
                        refine w_if_gt (tgt := 442) ok dX12_works_426 (by decide) (fun c45 => ?_) (fun c45 => ?_)
                        · skip
                          refine w_iconst (v := 0) ok dX12_works_442 (by decide) ?_
                          exact w_zret ok fin dX12_works_443 rfl (by decide) (by unfold F_X12_works FI_X12_works FJ_X12_works; simp only [if_neg c1]; simp only [if_neg c2]; simp only [if_neg c9]; simp only [if_neg c12]; simp only [if_neg c15]; simp only [if_neg c19]; simp only [if_neg c25]; simp only [if_neg c31]; simp only [if_neg c37]; simp only [if_pos c43]; simp only [if_pos c44]; simp only [if_pos c45]; exact Pd.i)
                        · skip
                          refine w_lload ok dX12_works_429 0 rfl ?_
                          refine w_ldc2 ok dX12_works_431 kX12_353 ?_
                          refine w_lcmp ok dX12_works_434 ?_
                          refine w_if_lt (tgt := 442) ok dX12_works_435 (by decide) (fun c46 => ?_) (fun c46 => ?_)
                          · skip
                            refine w_iconst (v := 0) ok dX12_works_442 (by decide) ?_
                            exact w_zret ok fin dX12_works_443 rfl (by decide) (by unfold F_X12_works FI_X12_works FJ_X12_works; simp only [if_neg c1]; simp only [if_neg c2]; simp only [if_neg c9]; simp only [if_neg c12]; simp only [if_neg c15]; simp only [if_neg c19]; simp only [if_neg c25]; simp only [if_neg c31]; simp only [if_neg c37]; simp only [if_pos c43]; simp only [if_pos c44]; simp only [if_neg c45]; simp only [if_pos c46]; exact Pd.i)
                          · skip
                            refine w_iconst (v := 1) ok dX12_works_438 (by decide) ?_
                            refine w_goto (tgt := 443) ok dX12_works_439 (by decide) ?_
                            exact w_zret ok fin dX12_works_443 rfl (by decide) (by unfold F_X12_works FI_X12_works FJ_X12_works; simp only [if_neg c1]; simp only [if_neg c2]; simp only [if_neg c9]; simp only [if_neg c12]; simp only [if_neg c15]; simp only [if_neg c19]; simp only [if_neg c25]; simp only [if_neg c31]; simp only [if_neg c37]; simp only [if_pos c43]; simp only [if_pos c44]; simp only [if_neg c45]; simp only [if_neg c46]; exact Pd.i)
                      · skip
                        refine w_iconst (v := 1) ok dX12_works_345 (by decide) ?_
                        refine w_goto (tgt := 350) ok dX12_works_346 (by decide) ?_
                        refine w_cS (As := [.int 1]) ok dX12_works_350 iX12_is (lX12_341 rfl) (c_X12_is ro hnn 1 ) (by decide) rfl (Nat.le_of_ble_eq_true rfl) ?_
                        refine w_lstore ok dX12_works_353 (by decide) rfl ?_
                        refine w_goto (tgt := 407) ok dX12_works_355 (by decide) ?_
                        refine w_aload_n ok dX12_works_407 3 rfl ?_
                        refine w_getR ok dX12_works_408 (fX12_81 rfl) (congrArg Prod.fst s_130) rfl (r_130_37 ro) (ltM hnn (by decide)) ?_
                        refine w_aload_n ok dX12_works_411 3 rfl ?_
                        refine w_getI ok dX12_works_412 (fX12_338 rfl) (congrArg Prod.fst s_130) rfl (ltM hnn (by decide)) ?_
                        refine w_iconst (v := 1) ok dX12_works_415 (by decide) ?_
                        refine w_isub ok dX12_works_416 ?_
                        refine w_lload ok dX12_works_417 0 rfl ?_
                        refine x_last (q := (((u2 I 130 38 ((I 130 38) - 1)) 130 38) - 1).toNatClampNeg) ok dX12_works_419 s_153 (hp19 c1 c2 c9 c12 c15 c19 c25 c31 c37 c43 c44) (by decide) (ltM hnn (by decide)) ?_
                        show WK K 0 0 420 [(6, .long (F_X12_is 1 (u2 I 130 38 ((I 130 38) - 1)) J)), (4, .long (J 153 ((I 130 38) - 2).toNatClampNeg)), (2, .long (J 153 ((I 130 38) - 1).toNatClampNeg)), (0, .ref 130), (1, .int a0)] [] (u2 I 130 38 ((I 130 38) - 1)) (S26_X12_works a0 I J) R n g
                        refine w_lload ok dX12_works_420 0 rfl ?_
                        refine w_ldc2 ok dX12_works_422 kX12_351 ?_
                        refine w_lcmp ok dX12_works_425 ?_
                        refine w_if_gt (tgt := 442) ok dX12_works_426 (by decide) (fun c47 => ?_) (fun c47 => ?_)
                        · skip
                          refine w_iconst (v := 0) ok dX12_works_442 (by decide) ?_
                          exact w_zret ok fin dX12_works_443 rfl (by decide) (by unfold F_X12_works FI_X12_works FJ_X12_works; simp only [if_neg c1]; simp only [if_neg c2]; simp only [if_neg c9]; simp only [if_neg c12]; simp only [if_neg c15]; simp only [if_neg c19]; simp only [if_neg c25]; simp only [if_neg c31]; simp only [if_neg c37]; simp only [if_pos c43]; simp only [if_neg c44]; simp only [if_pos c47]; exact Pd.i)
                        · skip
                          refine w_lload ok dX12_works_429 0 rfl ?_
                          refine w_ldc2 ok dX12_works_431 kX12_353 ?_
                          refine w_lcmp ok dX12_works_434 ?_
                          refine w_if_lt (tgt := 442) ok dX12_works_435 (by decide) (fun c48 => ?_) (fun c48 => ?_)
                          · skip
                            refine w_iconst (v := 0) ok dX12_works_442 (by decide) ?_
                            exact w_zret ok fin dX12_works_443 rfl (by decide) (by unfold F_X12_works FI_X12_works FJ_X12_works; simp only [if_neg c1]; simp only [if_neg c2]; simp only [if_neg c9]; simp only [if_neg c12]; simp only [if_neg c15]; simp only [if_neg c19]; simp only [if_neg c25]; simp only [if_neg c31]; simp only [if_neg c37]; simp only [if_pos c43]; simp only [if_neg c44]; simp only [if_neg c47]; simp only [if_pos c48]; exact Pd.i)
                          · skip
                            refine w_iconst (v := 1) ok dX12_works_438 (by decide) ?_
                            refine w_goto (tgt := 443) ok dX12_works_439 (by decide) ?_
                            exact w_zret ok fin dX12_works_443 rfl (by decide) (by unfold F_X12_works FI_X12_works FJ_X12_works; simp only [if_neg c1]; simp only [if_neg c2]; simp only [if_neg c9]; simp only [if_neg c12]; simp only [if_neg c15]; simp only [if_neg c19]; simp only [if_neg c25]; simp only [if_neg c31]; simp only [if_neg c37]; simp only [if_pos c43]; simp only [if_neg c44]; simp only [if_neg c47]; simp only [if_neg c48]; exact Pd.i)
                    · skip
                      by_cases c49 : a0 = 258
                      · skip
                        refine w_lkp (tgt := 318) (off := 248) ok dX12_works_70 (by decide) (by rw [c49]; rfl) (by decide) ?_
                        refine w_lload ok dX12_works_318 0 rfl ?_
                        refine w_lload_n ok dX12_works_320 1 rfl ?_
                        refine w_lcmp ok dX12_works_321 ?_
                        refine w_if_lt (tgt := 329) ok dX12_works_322 (by decide) (fun c50 => ?_) (fun c50 => ?_)
                        · skip
                          refine w_iconst (v := 0) ok dX12_works_329 (by decide) ?_
                          refine w_cS (As := [.int 0]) ok dX12_works_330 iX12_is (lX12_341 rfl) (c_X12_is ro hnn 0 ) (by decide) rfl (Nat.le_of_ble_eq_true rfl) ?_
                          refine w_lstore ok dX12_works_333 (by decide) rfl ?_
                          refine w_goto (tgt := 407) ok dX12_works_335 (by decide) ?_
                          refine w_aload_n ok dX12_works_407 3 rfl ?_
                          refine w_getR ok dX12_works_408 (fX12_81 rfl) (congrArg Prod.fst s_130) rfl (r_130_37 ro) (ltM hnn (by decide)) ?_
                          refine w_aload_n ok dX12_works_411 3 rfl ?_
                          refine w_getI ok dX12_works_412 (fX12_338 rfl) (congrArg Prod.fst s_130) rfl (ltM hnn (by decide)) ?_
                          refine w_iconst (v := 1) ok dX12_works_415 (by decide) ?_
                          refine w_isub ok dX12_works_416 ?_
                          refine w_lload ok dX12_works_417 0 rfl ?_
                          refine x_last (q := (((u2 I 130 38 ((I 130 38) - 1)) 130 38) - 1).toNatClampNeg) ok dX12_works_419 s_153 (hp20 c1 c2 c9 c12 c15 c19 c25 c31 c37 c43 c49 c50) (by decide) (ltM hnn (by decide)) ?_
                          show WK K 0 0 420 [(6, .long (F_X12_is 0 (u2 I 130 38 ((I 130 38) - 1)) J)), (4, .long (J 153 ((I 130 38) - 2).toNatClampNeg)), (2, .long (J 153 ((I 130 38) - 1).toNatClampNeg)), (0, .ref 130), (1, .int a0)] [] (u2 I 130 38 ((I 130 38) - 1)) (S27_X12_works a0 I J) R n g
                          refine w_lload ok dX12_works_420 0 rfl ?_
                          refine w_ldc2 ok dX12_works_422 kX12_351 ?_
                          refine w_lcmp ok dX12_works_425 ?_
                          refine w_if_gt (tgt := 442) ok dX12_works_426 (by decide) (fun c51 => ?_) (fun c51 => ?_)
                          · skip
                            refine w_iconst (v := 0) ok dX12_works_442 (by decide) ?_
                            exact w_zret ok fin dX12_works_443 rfl (by decide) (by unfold F_X12_works FI_X12_works FJ_X12_works; simp only [if_neg c1]; simp only [if_neg c2]; simp only [if_neg c9]; simp only [if_neg c12]; simp only [if_neg c15]; simp only [if_neg c19]; simp only [if_neg c25]; simp only [if_neg c31]; simp only [if_neg c37]; simp only [if_neg c43]; simp only [if_pos c49]; simp only [if_pos c50]; simp only [if_pos c51]; exact Pd.i)
                          · skip
                            refine w_lload ok dX12_works_429 0 rfl ?_
                            refine w_ldc2 ok dX12_works_431 kX12_353 ?_
                            refine w_lcmp ok dX12_works_434 ?_
                            refine w_if_lt (tgt := 442) ok dX12_works_435 (by decide) (fun c52 => ?_) (fun c52 => ?_)
                            · skip
                              refine w_iconst (v := 0) ok dX12_works_442 (by decide) ?_
                              exact w_zret ok fin dX12_works_443 rfl (by decide) (by unfold F_X12_works FI_X12_works FJ_X12_works; simp only [if_neg c1]; simp only [if_neg c2]; simp only [if_neg c9]; simp only [if_neg c12]; simp only [if_neg c15]; simp only [if_neg c19]; simp only [if_neg c25]; simp only [if_neg c31]; simp only [if_neg c37]; simp only [if_neg c43]; simp only [if_pos c49]; simp only [if_pos c50]; simp only [if_neg c51]; simp only [if_pos c52]; exact Pd.i)
                            · skip
                              refine w_iconst (v := 1) ok dX12_works_438 (by decide) ?_
                              refine w_goto (tgt := 443) ok dX12_works_439 (by decide) ?_
                              exact w_zret ok fin dX12_works_443 rfl (by decide) (by unfold F_X12_works FI_X12_works FJ_X12_works; simp only [if_neg c1]; simp only [if_neg c2]; simp only [if_neg c9]; simp only [if_neg c12]; simp only [if_neg c15]; simp only [if_neg c19]; simp only [if_neg c25]; simp only [if_neg c31]; simp only [if_neg c37]; simp only [if_neg c43]; simp only [if_pos c49]; simp only [if_pos c50]; simp only [if_neg c51]; simp only [if_neg c52]; exact Pd.i)
                        · skip
                          refine w_iconst (v := 1) ok dX12_works_325 (by decide) ?_
                          refine w_goto (tgt := 330) ok dX12_works_326 (by decide) ?_
                          refine w_cS (As := [.int 1]) ok dX12_works_330 iX12_is (lX12_341 rfl) (c_X12_is ro hnn 1 ) (by decide) rfl (Nat.le_of_ble_eq_true rfl) ?_
                          refine w_lstore ok dX12_works_333 (by decide) rfl ?_
                          refine w_goto (tgt := 407) ok dX12_works_335 (by decide) ?_
                          refine w_aload_n ok dX12_works_407 3 rfl ?_
                          refine w_getR ok dX12_works_408 (fX12_81 rfl) (congrArg Prod.fst s_130) rfl (r_130_37 ro) (ltM hnn (by decide)) ?_
                          refine w_aload_n ok dX12_works_411 3 rfl ?_
                          refine w_getI ok dX12_works_412 (fX12_338 rfl) (congrArg Prod.fst s_130) rfl (ltM hnn (by decide)) ?_
                          refine w_iconst (v := 1) ok dX12_works_415 (by decide) ?_
                          refine w_isub ok dX12_works_416 ?_
                          refine w_lload ok dX12_works_417 0 rfl ?_
                          refine x_last (q := (((u2 I 130 38 ((I 130 38) - 1)) 130 38) - 1).toNatClampNeg) ok dX12_works_419 s_153 (hp21 c1 c2 c9 c12 c15 c19 c25 c31 c37 c43 c49 c50) (by decide) (ltM hnn (by decide)) ?_
                          show WK K 0 0 420 [(6, .long (F_X12_is 1 (u2 I 130 38 ((I 130 38) - 1)) J)), (4, .long (J 153 ((I 130 38) - 2).toNatClampNeg)), (2, .long (J 153 ((I 130 38) - 1).toNatClampNeg)), (0, .ref 130), (1, .int a0)] [] (u2 I 130 38 ((I 130 38) - 1)) (S28_X12_works a0 I J) R n g
                          refine w_lload ok dX12_works_420 0 rfl ?_
                          refine w_ldc2 ok dX12_works_422 kX12_351 ?_
                          refine w_lcmp ok dX12_works_425 ?_
                          refine w_if_gt (tgt := 442) ok dX12_works_426 (by decide) (fun c53 => ?_) (fun c53 => ?_)
                          · skip
                            refine w_iconst (v := 0) ok dX12_works_442 (by decide) ?_
                            exact w_zret ok fin dX12_works_443 rfl (by decide) (by unfold F_X12_works FI_X12_works FJ_X12_works; simp only [if_neg c1]; simp only [if_neg c2]; simp only [if_neg c9]; simp only [if_neg c12]; simp only [if_neg c15]; simp only [if_neg c19]; simp only [if_neg c25]; simp only [if_neg c31]; simp only [if_neg c37]; simp only [if_neg c43]; simp only [if_pos c49]; simp only [if_neg c50]; simp only [if_pos c53]; exact Pd.i)
                          · skip
                            refine w_lload ok dX12_works_429 0 rfl ?_
                            refine w_ldc2 ok dX12_works_431 kX12_353 ?_
                            refine w_lcmp ok dX12_works_434 ?_
                            refine w_if_lt (tgt := 442) ok dX12_works_435 (by decide) (fun c54 => ?_) (fun c54 => ?_)
                            · skip
                              refine w_iconst (v := 0) ok dX12_works_442 (by decide) ?_
                              exact w_zret ok fin dX12_works_443 rfl (by decide) (by unfold F_X12_works FI_X12_works FJ_X12_works; simp only [if_neg c1]; simp only [if_neg c2]; simp only [if_neg c9]; simp only [if_neg c12]; simp only [if_neg c15]; simp only [if_neg c19]; simp only [if_neg c25]; simp only [if_neg c31]; simp only [if_neg c37]; simp only [if_neg c43]; simp only [if_pos c49]; simp only [if_neg c50]; simp only [if_neg c53]; simp only [if_pos c54]; exact Pd.i)
                            · skip
                              refine w_iconst (v := 1) ok dX12_works_438 (by decide) ?_
                              refine w_goto (tgt := 443) ok dX12_works_439 (by decide) ?_
                              exact w_zret ok fin dX12_works_443 rfl (by decide) (by unfold F_X12_works FI_X12_works FJ_X12_works; simp only [if_neg c1]; simp only [if_neg c2]; simp only [if_neg c9]; simp only [if_neg c12]; simp only [if_neg c15]; simp only [if_neg c19]; simp only [if_neg c25]; simp only [if_neg c31]; simp only [if_neg c37]; simp only [if_neg c43]; simp only [if_pos c49]; simp only [if_neg c50]; simp only [if_neg c53]; simp only [if_neg c54]; exact Pd.i)
                      · skip
                        by_cases c55 : a0 = 261
                        · skip
                          refine w_lkp (tgt := 358) (off := 288) ok dX12_works_70 (by decide) (by rw [c55]; rfl) (by decide) ?_
                          refine w_lload ok dX12_works_358 0 rfl ?_
                          refine w_lconst (v := 0) ok dX12_works_360 (by decide) ?_
                          refine w_lcmp ok dX12_works_361 ?_
                          refine w_if_eq (tgt := 375) ok dX12_works_362 (by decide) (fun c56 => ?_) (fun c56 => ?_)
                          · skip
                            refine w_iconst (v := 0) ok dX12_works_375 (by decide) ?_
                            refine w_cS (As := [.int 0]) ok dX12_works_376 iX12_is (lX12_341 rfl) (c_X12_is ro hnn 0 ) (by decide) rfl (Nat.le_of_ble_eq_true rfl) ?_
                            refine w_lstore ok dX12_works_379 (by decide) rfl ?_
                            refine w_goto (tgt := 407) ok dX12_works_381 (by decide) ?_
                            refine w_aload_n ok dX12_works_407 3 rfl ?_
                            refine w_getR ok dX12_works_408 (fX12_81 rfl) (congrArg Prod.fst s_130) rfl (r_130_37 ro) (ltM hnn (by decide)) ?_
                            refine w_aload_n ok dX12_works_411 3 rfl ?_
                            refine w_getI ok dX12_works_412 (fX12_338 rfl) (congrArg Prod.fst s_130) rfl (ltM hnn (by decide)) ?_
                            refine w_iconst (v := 1) ok dX12_works_415 (by decide) ?_
                            refine w_isub ok dX12_works_416 ?_
                            refine w_lload ok dX12_works_417 0 rfl ?_
                            refine x_last (q := (((u2 I 130 38 ((I 130 38) - 1)) 130 38) - 1).toNatClampNeg) ok dX12_works_419 s_153 (hp22 c1 c2 c9 c12 c15 c19 c25 c31 c37 c43 c49 c55 c56) (by decide) (ltM hnn (by decide)) ?_
                            show WK K 0 0 420 [(6, .long (F_X12_is 0 (u2 I 130 38 ((I 130 38) - 1)) J)), (4, .long (J 153 ((I 130 38) - 2).toNatClampNeg)), (2, .long (J 153 ((I 130 38) - 1).toNatClampNeg)), (0, .ref 130), (1, .int a0)] [] (u2 I 130 38 ((I 130 38) - 1)) (S29_X12_works a0 I J) R n g
                            refine w_lload ok dX12_works_420 0 rfl ?_
                            refine w_ldc2 ok dX12_works_422 kX12_351 ?_
                            refine w_lcmp ok dX12_works_425 ?_
                            refine w_if_gt (tgt := 442) ok dX12_works_426 (by decide) (fun c57 => ?_) (fun c57 => ?_)
                            · skip
                              refine w_iconst (v := 0) ok dX12_works_442 (by decide) ?_
                              exact w_zret ok fin dX12_works_443 rfl (by decide) (by unfold F_X12_works FI_X12_works FJ_X12_works; simp only [if_neg c1]; simp only [if_neg c2]; simp only [if_neg c9]; simp only [if_neg c12]; simp only [if_neg c15]; simp only [if_neg c19]; simp only [if_neg c25]; simp only [if_neg c31]; simp only [if_neg c37]; simp only [if_neg c43]; simp only [if_neg c49]; simp only [if_pos c55]; simp only [if_pos c56]; simp only [if_pos c57]; exact Pd.i)
                            · skip
                              refine w_lload ok dX12_works_429 0 rfl ?_
                              refine w_ldc2 ok dX12_works_431 kX12_353 ?_
                              refine w_lcmp ok dX12_works_434 ?_
                              refine w_if_lt (tgt := 442) ok dX12_works_435 (by decide) (fun c58 => ?_) (fun c58 => ?_)
                              · skip
                                refine w_iconst (v := 0) ok dX12_works_442 (by decide) ?_
                                exact w_zret ok fin dX12_works_443 rfl (by decide) (by unfold F_X12_works FI_X12_works FJ_X12_works; simp only [if_neg c1]; simp only [if_neg c2]; simp only [if_neg c9]; simp only [if_neg c12]; simp only [if_neg c15]; simp only [if_neg c19]; simp only [if_neg c25]; simp only [if_neg c31]; simp only [if_neg c37]; simp only [if_neg c43]; simp only [if_neg c49]; simp only [if_pos c55]; simp only [if_pos c56]; simp only [if_neg c57]; simp only [if_pos c58]; exact Pd.i)
                              · skip
                                refine w_iconst (v := 1) ok dX12_works_438 (by decide) ?_
                                refine w_goto (tgt := 443) ok dX12_works_439 (by decide) ?_
                                exact w_zret ok fin dX12_works_443 rfl (by decide) (by unfold F_X12_works FI_X12_works FJ_X12_works; simp only [if_neg c1]; simp only [if_neg c2]; simp only [if_neg c9]; simp only [if_neg c12]; simp only [if_neg c15]; simp only [if_neg c19]; simp only [if_neg c25]; simp only [if_neg c31]; simp only [if_neg c37]; simp only [if_neg c43]; simp only [if_neg c49]; simp only [if_pos c55]; simp only [if_pos c56]; simp only [if_neg c57]; simp only [if_neg c58]; exact Pd.i)
                          · skip
                            refine w_lload_n ok dX12_works_365 1 rfl ?_
                            refine w_lconst (v := 0) ok dX12_works_366 (by decide) ?_
                            refine w_lcmp ok dX12_works_367 ?_
                            refine w_if_eq (tgt := 375) ok dX12_works_368 (by decide) (fun c59 => ?_) (fun c59 => ?_)
                            · skip
                              refine w_iconst (v := 0) ok dX12_works_375 (by decide) ?_
                              refine w_cS (As := [.int 0]) ok dX12_works_376 iX12_is (lX12_341 rfl) (c_X12_is ro hnn 0 ) (by decide) rfl (Nat.le_of_ble_eq_true rfl) ?_
                              refine w_lstore ok dX12_works_379 (by decide) rfl ?_
                              refine w_goto (tgt := 407) ok dX12_works_381 (by decide) ?_
                              refine w_aload_n ok dX12_works_407 3 rfl ?_
                              refine w_getR ok dX12_works_408 (fX12_81 rfl) (congrArg Prod.fst s_130) rfl (r_130_37 ro) (ltM hnn (by decide)) ?_
                              refine w_aload_n ok dX12_works_411 3 rfl ?_
                              refine w_getI ok dX12_works_412 (fX12_338 rfl) (congrArg Prod.fst s_130) rfl (ltM hnn (by decide)) ?_
                              refine w_iconst (v := 1) ok dX12_works_415 (by decide) ?_
                              refine w_isub ok dX12_works_416 ?_
                              refine w_lload ok dX12_works_417 0 rfl ?_
                              refine x_last (q := (((u2 I 130 38 ((I 130 38) - 1)) 130 38) - 1).toNatClampNeg) ok dX12_works_419 s_153 (hp23 c1 c2 c9 c12 c15 c19 c25 c31 c37 c43 c49 c55 c56 c59) (by decide) (ltM hnn (by decide)) ?_
                              show WK K 0 0 420 [(6, .long (F_X12_is 0 (u2 I 130 38 ((I 130 38) - 1)) J)), (4, .long (J 153 ((I 130 38) - 2).toNatClampNeg)), (2, .long (J 153 ((I 130 38) - 1).toNatClampNeg)), (0, .ref 130), (1, .int a0)] [] (u2 I 130 38 ((I 130 38) - 1)) (S30_X12_works a0 I J) R n g
                              refine w_lload ok dX12_works_420 0 rfl ?_
                              refine w_ldc2 ok dX12_works_422 kX12_351 ?_
                              refine w_lcmp ok dX12_works_425 ?_
                              refine w_if_gt (tgt := 442) ok dX12_works_426 (by decide) (fun c60 => ?_) (fun c60 => ?_)
                              · skip
                                refine w_iconst (v := 0) ok dX12_works_442 (by decide) ?_
                                exact w_zret ok fin dX12_works_443 rfl (by decide) (by unfold F_X12_works FI_X12_works FJ_X12_works; simp only [if_neg c1]; simp only [if_neg c2]; simp only [if_neg c9]; simp only [if_neg c12]; simp only [if_neg c15]; simp only [if_neg c19]; simp only [if_neg c25]; simp only [if_neg c31]; simp only [if_neg c37]; simp only [if_neg c43]; simp only [if_neg c49]; simp only [if_pos c55]; simp only [if_neg c56]; simp only [if_pos c59]; simp only [if_pos c60]; exact Pd.i)
                              · skip
                                refine w_lload ok dX12_works_429 0 rfl ?_
                                refine w_ldc2 ok dX12_works_431 kX12_353 ?_
                                refine w_lcmp ok dX12_works_434 ?_
                                refine w_if_lt (tgt := 442) ok dX12_works_435 (by decide) (fun c61 => ?_) (fun c61 => ?_)
                                · skip
                                  refine w_iconst (v := 0) ok dX12_works_442 (by decide) ?_
                                  exact w_zret ok fin dX12_works_443 rfl (by decide) (by unfold F_X12_works FI_X12_works FJ_X12_works; simp only [if_neg c1]; simp only [if_neg c2]; simp only [if_neg c9]; simp only [if_neg c12]; simp only [if_neg c15]; simp only [if_neg c19]; simp only [if_neg c25]; simp only [if_neg c31]; simp only [if_neg c37]; simp only [if_neg c43]; simp only [if_neg c49]; simp only [if_pos c55]; simp only [if_neg c56]; simp only [if_pos c59]; simp only [if_neg c60]; simp only [if_pos c61]; exact Pd.i)
                                · skip
                                  refine w_iconst (v := 1) ok dX12_works_438 (by decide) ?_
                                  refine w_goto (tgt := 443) ok dX12_works_439 (by decide) ?_
                                  exact w_zret ok fin dX12_works_443 rfl (by decide) (by unfold F_X12_works FI_X12_works FJ_X12_works; simp only [if_neg c1]; simp only [if_neg c2]; simp only [if_neg c9]; simp only [if_neg c12]; simp only [if_neg c15]; simp only [if_neg c19]; simp only [if_neg c25]; simp only [if_neg c31]; simp only [if_neg c37]; simp only [if_neg c43]; simp only [if_neg c49]; simp only [if_pos c55]; simp only [if_neg c56]; simp only [if_pos c59]; simp only [if_neg c60]; simp only [if_neg c61]; exact Pd.i)
                            · skip
                              refine w_iconst (v := 1) ok dX12_works_371 (by decide) ?_
                              refine w_goto (tgt := 376) ok dX12_works_372 (by decide) ?_
                              refine w_cS (As := [.int 1]) ok dX12_works_376 iX12_is (lX12_341 rfl) (c_X12_is ro hnn 1 ) (by decide) rfl (Nat.le_of_ble_eq_true rfl) ?_
                              refine w_lstore ok dX12_works_379 (by decide) rfl ?_
                              refine w_goto (tgt := 407) ok dX12_works_381 (by decide) ?_
                              refine w_aload_n ok dX12_works_407 3 rfl ?_
                              refine w_getR ok dX12_works_408 (fX12_81 rfl) (congrArg Prod.fst s_130) rfl (r_130_37 ro) (ltM hnn (by decide)) ?_
                              refine w_aload_n ok dX12_works_411 3 rfl ?_
                              refine w_getI ok dX12_works_412 (fX12_338 rfl) (congrArg Prod.fst s_130) rfl (ltM hnn (by decide)) ?_
                              refine w_iconst (v := 1) ok dX12_works_415 (by decide) ?_
                              refine w_isub ok dX12_works_416 ?_
                              refine w_lload ok dX12_works_417 0 rfl ?_
                              refine x_last (q := (((u2 I 130 38 ((I 130 38) - 1)) 130 38) - 1).toNatClampNeg) ok dX12_works_419 s_153 (hp24 c1 c2 c9 c12 c15 c19 c25 c31 c37 c43 c49 c55 c56 c59) (by decide) (ltM hnn (by decide)) ?_
                              show WK K 0 0 420 [(6, .long (F_X12_is 1 (u2 I 130 38 ((I 130 38) - 1)) J)), (4, .long (J 153 ((I 130 38) - 2).toNatClampNeg)), (2, .long (J 153 ((I 130 38) - 1).toNatClampNeg)), (0, .ref 130), (1, .int a0)] [] (u2 I 130 38 ((I 130 38) - 1)) (S31_X12_works a0 I J) R n g
                              refine w_lload ok dX12_works_420 0 rfl ?_
                              refine w_ldc2 ok dX12_works_422 kX12_351 ?_
                              refine w_lcmp ok dX12_works_425 ?_
                              refine w_if_gt (tgt := 442) ok dX12_works_426 (by decide) (fun c62 => ?_) (fun c62 => ?_)
                              · skip
                                refine w_iconst (v := 0) ok dX12_works_442 (by decide) ?_
                                exact w_zret ok fin dX12_works_443 rfl (by decide) (by unfold F_X12_works FI_X12_works FJ_X12_works; simp only [if_neg c1]; simp only [if_neg c2]; simp only [if_neg c9]; simp only [if_neg c12]; simp only [if_neg c15]; simp only [if_neg c19]; simp only [if_neg c25]; simp only [if_neg c31]; simp only [if_neg c37]; simp only [if_neg c43]; simp only [if_neg c49]; simp only [if_pos c55]; simp only [if_neg c56]; simp only [if_neg c59]; simp only [if_pos c62]; exact Pd.i)
                              · skip
                                refine w_lload ok dX12_works_429 0 rfl ?_
                                refine w_ldc2 ok dX12_works_431 kX12_353 ?_
                                refine w_lcmp ok dX12_works_434 ?_
                                refine w_if_lt (tgt := 442) ok dX12_works_435 (by decide) (fun c63 => ?_) (fun c63 => ?_)
                                · skip
                                  refine w_iconst (v := 0) ok dX12_works_442 (by decide) ?_
                                  exact w_zret ok fin dX12_works_443 rfl (by decide) (by unfold F_X12_works FI_X12_works FJ_X12_works; simp only [if_neg c1]; simp only [if_neg c2]; simp only [if_neg c9]; simp only [if_neg c12]; simp only [if_neg c15]; simp only [if_neg c19]; simp only [if_neg c25]; simp only [if_neg c31]; simp only [if_neg c37]; simp only [if_neg c43]; simp only [if_neg c49]; simp only [if_pos c55]; simp only [if_neg c56]; simp only [if_neg c59]; simp only [if_neg c62]; simp only [if_pos c63]; exact Pd.i)
                                · skip
                                  refine w_iconst (v := 1) ok dX12_works_438 (by decide) ?_
                                  refine w_goto (tgt := 443) ok dX12_works_439 (by decide) ?_
                                  exact w_zret ok fin dX12_works_443 rfl (by decide) (by unfold F_X12_works FI_X12_works FJ_X12_works; simp only [if_neg c1]; simp only [if_neg c2]; simp only [if_neg c9]; simp only [if_neg c12]; simp only [if_neg c15]; simp only [if_neg c19]; simp only [if_neg c25]; simp only [if_neg c31]; simp only [if_neg c37]; simp only [if_neg c43]; simp only [if_neg c49]; simp only [if_pos c55]; simp only [if_neg c56]; simp only [if_neg c59]; simp only [if_neg c62]; simp only [if_neg c63]; exact Pd.i)
                        · skip
                          have n64 : a0.toInt ≠ 42 := ne_toInt c2
                          have n65 : a0.toInt ≠ 43 := ne_toInt c9
                          have n66 : a0.toInt ≠ 45 := ne_toInt c12
                          have n67 : a0.toInt ≠ 47 := ne_toInt c15
                          have n68 : a0.toInt ≠ 60 := ne_toInt c19
                          have n69 : a0.toInt ≠ 61 := ne_toInt c25
                          have n70 : a0.toInt ≠ 62 := ne_toInt c31
                          have n71 : a0.toInt ≠ 256 := ne_toInt c37
                          have n72 : a0.toInt ≠ 257 := ne_toInt c43
                          have n73 : a0.toInt ≠ 258 := ne_toInt c49
                          have n74 : a0.toInt ≠ 261 := ne_toInt c55
                          refine w_lkp (tgt := 384) (off := 314) ok dX12_works_70 (by decide) (by simp [Op.lookupswitch.offset, n64, n65, n66, n67, n68, n69, n70, n71, n72, n73, n74, Ne.symm n64, Ne.symm n65, Ne.symm n66, Ne.symm n67, Ne.symm n68, Ne.symm n69, Ne.symm n70, Ne.symm n71, Ne.symm n72, Ne.symm n73, Ne.symm n74]) (by decide) ?_
                          refine w_lload ok dX12_works_384 0 rfl ?_
                          refine w_lconst (v := 0) ok dX12_works_386 (by decide) ?_
                          refine w_lcmp ok dX12_works_387 ?_
                          refine w_if_ne (tgt := 397) ok dX12_works_388 (by decide) (fun c75 => ?_) (fun c75 => ?_)
                          · skip
                            refine w_iconst (v := 1) ok dX12_works_397 (by decide) ?_
                            refine w_goto (tgt := 402) ok dX12_works_398 (by decide) ?_
                            refine w_cS (As := [.int 1]) ok dX12_works_402 iX12_is (lX12_341 rfl) (c_X12_is ro hnn 1 ) (by decide) rfl (Nat.le_of_ble_eq_true rfl) ?_
                            refine w_lstore ok dX12_works_405 (by decide) rfl ?_
                            refine w_aload_n ok dX12_works_407 3 rfl ?_
                            refine w_getR ok dX12_works_408 (fX12_81 rfl) (congrArg Prod.fst s_130) rfl (r_130_37 ro) (ltM hnn (by decide)) ?_
                            refine w_aload_n ok dX12_works_411 3 rfl ?_
                            refine w_getI ok dX12_works_412 (fX12_338 rfl) (congrArg Prod.fst s_130) rfl (ltM hnn (by decide)) ?_
                            refine w_iconst (v := 1) ok dX12_works_415 (by decide) ?_
                            refine w_isub ok dX12_works_416 ?_
                            refine w_lload ok dX12_works_417 0 rfl ?_
                            refine x_last (q := (((u2 I 130 38 ((I 130 38) - 1)) 130 38) - 1).toNatClampNeg) ok dX12_works_419 s_153 (hp25 c1 c2 c9 c12 c15 c19 c25 c31 c37 c43 c49 c55 c75) (by decide) (ltM hnn (by decide)) ?_
                            show WK K 0 0 420 [(6, .long (F_X12_is 1 (u2 I 130 38 ((I 130 38) - 1)) J)), (4, .long (J 153 ((I 130 38) - 2).toNatClampNeg)), (2, .long (J 153 ((I 130 38) - 1).toNatClampNeg)), (0, .ref 130), (1, .int a0)] [] (u2 I 130 38 ((I 130 38) - 1)) (S32_X12_works a0 I J) R n g
                            refine w_lload ok dX12_works_420 0 rfl ?_
                            refine w_ldc2 ok dX12_works_422 kX12_351 ?_
                            refine w_lcmp ok dX12_works_425 ?_
                            refine w_if_gt (tgt := 442) ok dX12_works_426 (by decide) (fun c76 => ?_) (fun c76 => ?_)
                            · skip
                              refine w_iconst (v := 0) ok dX12_works_442 (by decide) ?_
                              exact w_zret ok fin dX12_works_443 rfl (by decide) (by unfold F_X12_works FI_X12_works FJ_X12_works; simp only [if_neg c1]; simp only [if_neg c2]; simp only [if_neg c9]; simp only [if_neg c12]; simp only [if_neg c15]; simp only [if_neg c19]; simp only [if_neg c25]; simp only [if_neg c31]; simp only [if_neg c37]; simp only [if_neg c43]; simp only [if_neg c49]; simp only [if_neg c55]; simp only [if_neg c75]; simp only [if_pos c76]; exact Pd.i)
                            · skip
                              refine w_lload ok dX12_works_429 0 rfl ?_
                              refine w_ldc2 ok dX12_works_431 kX12_353 ?_
                              refine w_lcmp ok dX12_works_434 ?_
                              refine w_if_lt (tgt := 442) ok dX12_works_435 (by decide) (fun c77 => ?_) (fun c77 => ?_)
                              · skip
                                refine w_iconst (v := 0) ok dX12_works_442 (by decide) ?_
                                exact w_zret ok fin dX12_works_443 rfl (by decide) (by unfold F_X12_works FI_X12_works FJ_X12_works; simp only [if_neg c1]; simp only [if_neg c2]; simp only [if_neg c9]; simp only [if_neg c12]; simp only [if_neg c15]; simp only [if_neg c19]; simp only [if_neg c25]; simp only [if_neg c31]; simp only [if_neg c37]; simp only [if_neg c43]; simp only [if_neg c49]; simp only [if_neg c55]; simp only [if_neg c75]; simp only [if_neg c76]; simp only [if_pos c77]; exact Pd.i)
                              · skip
                                refine w_iconst (v := 1) ok dX12_works_438 (by decide) ?_
                                refine w_goto (tgt := 443) ok dX12_works_439 (by decide) ?_
                                exact w_zret ok fin dX12_works_443 rfl (by decide) (by unfold F_X12_works FI_X12_works FJ_X12_works; simp only [if_neg c1]; simp only [if_neg c2]; simp only [if_neg c9]; simp only [if_neg c12]; simp only [if_neg c15]; simp only [if_neg c19]; simp only [if_neg c25]; simp only [if_neg c31]; simp only [if_neg c37]; simp only [if_neg c43]; simp only [if_neg c49]; simp only [if_neg c55]; simp only [if_neg c75]; simp only [if_neg c76]; simp only [if_neg c77]; exact Pd.i)
                          · skip
                            refine w_lload_n ok dX12_works_391 1 rfl ?_
                            refine w_lconst (v := 0) ok dX12_works_392 (by decide) ?_
                            refine w_lcmp ok dX12_works_393 ?_
                            refine w_if_eq (tgt := 401) ok dX12_works_394 (by decide) (fun c78 => ?_) (fun c78 => ?_)
                            · skip
                              refine w_iconst (v := 0) ok dX12_works_401 (by decide) ?_
                              refine w_cS (As := [.int 0]) ok dX12_works_402 iX12_is (lX12_341 rfl) (c_X12_is ro hnn 0 ) (by decide) rfl (Nat.le_of_ble_eq_true rfl) ?_
                              refine w_lstore ok dX12_works_405 (by decide) rfl ?_
                              refine w_aload_n ok dX12_works_407 3 rfl ?_
                              refine w_getR ok dX12_works_408 (fX12_81 rfl) (congrArg Prod.fst s_130) rfl (r_130_37 ro) (ltM hnn (by decide)) ?_
                              refine w_aload_n ok dX12_works_411 3 rfl ?_
                              refine w_getI ok dX12_works_412 (fX12_338 rfl) (congrArg Prod.fst s_130) rfl (ltM hnn (by decide)) ?_
                              refine w_iconst (v := 1) ok dX12_works_415 (by decide) ?_
                              refine w_isub ok dX12_works_416 ?_
                              refine w_lload ok dX12_works_417 0 rfl ?_
                              refine x_last (q := (((u2 I 130 38 ((I 130 38) - 1)) 130 38) - 1).toNatClampNeg) ok dX12_works_419 s_153 (hp26 c1 c2 c9 c12 c15 c19 c25 c31 c37 c43 c49 c55 c75 c78) (by decide) (ltM hnn (by decide)) ?_
                              show WK K 0 0 420 [(6, .long (F_X12_is 0 (u2 I 130 38 ((I 130 38) - 1)) J)), (4, .long (J 153 ((I 130 38) - 2).toNatClampNeg)), (2, .long (J 153 ((I 130 38) - 1).toNatClampNeg)), (0, .ref 130), (1, .int a0)] [] (u2 I 130 38 ((I 130 38) - 1)) (S33_X12_works a0 I J) R n g
                              refine w_lload ok dX12_works_420 0 rfl ?_
                              refine w_ldc2 ok dX12_works_422 kX12_351 ?_
                              refine w_lcmp ok dX12_works_425 ?_
                              refine w_if_gt (tgt := 442) ok dX12_works_426 (by decide) (fun c79 => ?_) (fun c79 => ?_)
                              · skip
                                refine w_iconst (v := 0) ok dX12_works_442 (by decide) ?_
                                exact w_zret ok fin dX12_works_443 rfl (by decide) (by unfold F_X12_works FI_X12_works FJ_X12_works; simp only [if_neg c1]; simp only [if_neg c2]; simp only [if_neg c9]; simp only [if_neg c12]; simp only [if_neg c15]; simp only [if_neg c19]; simp only [if_neg c25]; simp only [if_neg c31]; simp only [if_neg c37]; simp only [if_neg c43]; simp only [if_neg c49]; simp only [if_neg c55]; simp only [if_pos c75]; simp only [if_pos c78]; simp only [if_pos c79]; exact Pd.i)
                              · skip
                                refine w_lload ok dX12_works_429 0 rfl ?_
                                refine w_ldc2 ok dX12_works_431 kX12_353 ?_
                                refine w_lcmp ok dX12_works_434 ?_
                                refine w_if_lt (tgt := 442) ok dX12_works_435 (by decide) (fun c80 => ?_) (fun c80 => ?_)
                                · skip
                                  refine w_iconst (v := 0) ok dX12_works_442 (by decide) ?_
                                  exact w_zret ok fin dX12_works_443 rfl (by decide) (by unfold F_X12_works FI_X12_works FJ_X12_works; simp only [if_neg c1]; simp only [if_neg c2]; simp only [if_neg c9]; simp only [if_neg c12]; simp only [if_neg c15]; simp only [if_neg c19]; simp only [if_neg c25]; simp only [if_neg c31]; simp only [if_neg c37]; simp only [if_neg c43]; simp only [if_neg c49]; simp only [if_neg c55]; simp only [if_pos c75]; simp only [if_pos c78]; simp only [if_neg c79]; simp only [if_pos c80]; exact Pd.i)
                                · skip
                                  refine w_iconst (v := 1) ok dX12_works_438 (by decide) ?_
                                  refine w_goto (tgt := 443) ok dX12_works_439 (by decide) ?_
                                  exact w_zret ok fin dX12_works_443 rfl (by decide) (by unfold F_X12_works FI_X12_works FJ_X12_works; simp only [if_neg c1]; simp only [if_neg c2]; simp only [if_neg c9]; simp only [if_neg c12]; simp only [if_neg c15]; simp only [if_neg c19]; simp only [if_neg c25]; simp only [if_neg c31]; simp only [if_neg c37]; simp only [if_neg c43]; simp only [if_neg c49]; simp only [if_neg c55]; simp only [if_pos c75]; simp only [if_pos c78]; simp only [if_neg c79]; simp only [if_neg c80]; exact Pd.i)
                            · skip
                              refine w_iconst (v := 1) ok dX12_works_397 (by decide) ?_
                              refine w_goto (tgt := 402) ok dX12_works_398 (by decide) ?_
                              refine w_cS (As := [.int 1]) ok dX12_works_402 iX12_is (lX12_341 rfl) (c_X12_is ro hnn 1 ) (by decide) rfl (Nat.le_of_ble_eq_true rfl) ?_
                              refine w_lstore ok dX12_works_405 (by decide) rfl ?_
                              refine w_aload_n ok dX12_works_407 3 rfl ?_
                              refine w_getR ok dX12_works_408 (fX12_81 rfl) (congrArg Prod.fst s_130) rfl (r_130_37 ro) (ltM hnn (by decide)) ?_
                              refine w_aload_n ok dX12_works_411 3 rfl ?_
                              refine w_getI ok dX12_works_412 (fX12_338 rfl) (congrArg Prod.fst s_130) rfl (ltM hnn (by decide)) ?_
                              refine w_iconst (v := 1) ok dX12_works_415 (by decide) ?_
                              refine w_isub ok dX12_works_416 ?_
                              refine w_lload ok dX12_works_417 0 rfl ?_
                              refine x_last (q := (((u2 I 130 38 ((I 130 38) - 1)) 130 38) - 1).toNatClampNeg) ok dX12_works_419 s_153 (hp27 c1 c2 c9 c12 c15 c19 c25 c31 c37 c43 c49 c55 c75 c78) (by decide) (ltM hnn (by decide)) ?_
                              show WK K 0 0 420 [(6, .long (F_X12_is 1 (u2 I 130 38 ((I 130 38) - 1)) J)), (4, .long (J 153 ((I 130 38) - 2).toNatClampNeg)), (2, .long (J 153 ((I 130 38) - 1).toNatClampNeg)), (0, .ref 130), (1, .int a0)] [] (u2 I 130 38 ((I 130 38) - 1)) (S34_X12_works a0 I J) R n g
                              refine w_lload ok dX12_works_420 0 rfl ?_
                              refine w_ldc2 ok dX12_works_422 kX12_351 ?_
                              refine w_lcmp ok dX12_works_425 ?_
                              refine w_if_gt (tgt := 442) ok dX12_works_426 (by decide) (fun c81 => ?_) (fun c81 => ?_)
                              · skip
                                refine w_iconst (v := 0) ok dX12_works_442 (by decide) ?_
                                exact w_zret ok fin dX12_works_443 rfl (by decide) (by unfold F_X12_works FI_X12_works FJ_X12_works; simp only [if_neg c1]; simp only [if_neg c2]; simp only [if_neg c9]; simp only [if_neg c12]; simp only [if_neg c15]; simp only [if_neg c19]; simp only [if_neg c25]; simp only [if_neg c31]; simp only [if_neg c37]; simp only [if_neg c43]; simp only [if_neg c49]; simp only [if_neg c55]; simp only [if_pos c75]; simp only [if_neg c78]; simp only [if_pos c81]; exact Pd.i)
                              · skip
                                refine w_lload ok dX12_works_429 0 rfl ?_
                                refine w_ldc2 ok dX12_works_431 kX12_353 ?_
                                refine w_lcmp ok dX12_works_434 ?_
                                refine w_if_lt (tgt := 442) ok dX12_works_435 (by decide) (fun c82 => ?_) (fun c82 => ?_)
                                · skip
                                  refine w_iconst (v := 0) ok dX12_works_442 (by decide) ?_
                                  exact w_zret ok fin dX12_works_443 rfl (by decide) (by unfold F_X12_works FI_X12_works FJ_X12_works; simp only [if_neg c1]; simp only [if_neg c2]; simp only [if_neg c9]; simp only [if_neg c12]; simp only [if_neg c15]; simp only [if_neg c19]; simp only [if_neg c25]; simp only [if_neg c31]; simp only [if_neg c37]; simp only [if_neg c43]; simp only [if_neg c49]; simp only [if_neg c55]; simp only [if_pos c75]; simp only [if_neg c78]; simp only [if_neg c81]; simp only [if_pos c82]; exact Pd.i)
                                · skip
                                  refine w_iconst (v := 1) ok dX12_works_438 (by decide) ?_
                                  refine w_goto (tgt := 443) ok dX12_works_439 (by decide) ?_
                                  exact w_zret ok fin dX12_works_443 rfl (by decide) (by unfold F_X12_works FI_X12_works FJ_X12_works; simp only [if_neg c1]; simp only [if_neg c2]; simp only [if_neg c9]; simp only [if_neg c12]; simp only [if_neg c15]; simp only [if_neg c19]; simp only [if_neg c25]; simp only [if_neg c31]; simp only [if_neg c37]; simp only [if_neg c43]; simp only [if_neg c49]; simp only [if_neg c55]; simp only [if_pos c75]; simp only [if_neg c78]; simp only [if_neg c81]; simp only [if_neg c82]; exact Pd.i)
  · skip
    refine w_aload_n ok dX12_works_19 1 rfl ?_
    refine w_getR ok dX12_works_20 (fX12_81 rfl) (congrArg Prod.fst s_130) rfl (r_130_37 ro) (ltM hnn (by decide)) ?_
    refine w_aload_n ok dX12_works_23 1 rfl ?_
    refine w_getI ok dX12_works_24 (fX12_338 rfl) (congrArg Prod.fst s_130) rfl (ltM hnn (by decide)) ?_
    refine w_iconst (v := 1) ok dX12_works_27 (by decide) ?_
    refine w_isub ok dX12_works_28 ?_
    refine w_lload_n ok dX12_works_29 0 rfl ?_
    refine w_lconst (v := 0) ok dX12_works_30 (by decide) ?_
    refine w_lcmp ok dX12_works_31 ?_
    refine w_if_ne (tgt := 39) ok dX12_works_32 (by decide) (fun c83 => ?_) (fun c83 => ?_)
    · skip
      refine w_iconst (v := 0) ok dX12_works_39 (by decide) ?_
      refine w_cS (As := [.int 0]) ok dX12_works_40 iX12_is (lX12_341 rfl) (c_X12_is ro hnn 0 ) (by decide) rfl (Nat.le_of_ble_eq_true rfl) ?_
      show WK K 0 0 43 [(2, .long (J 153 ((I 130 38) - 1).toNatClampNeg)), (0, .ref 130), (1, .int a0)] [.long (F_X12_is 0 I J), .int ((I 130 38) - 1), .ref 153] I J R n g
      refine x_last (q := ((I 130 38) - 1).toNatClampNeg) ok dX12_works_43 s_153 (hp28 c1 c83) (by decide) (ltM hnn (by decide)) ?_
      refine w_iconst (v := 1) ok dX12_works_44 (by decide) ?_
      exact w_zret ok fin dX12_works_45 rfl (by decide) (by unfold F_X12_works FI_X12_works FJ_X12_works; simp only [if_pos c1]; simp only [if_neg c83]; exact Pd.i)
    · skip
      refine w_iconst (v := 1) ok dX12_works_35 (by decide) ?_
      refine w_goto (tgt := 40) ok dX12_works_36 (by decide) ?_
      refine w_cS (As := [.int 1]) ok dX12_works_40 iX12_is (lX12_341 rfl) (c_X12_is ro hnn 1 ) (by decide) rfl (Nat.le_of_ble_eq_true rfl) ?_
      show WK K 0 0 43 [(2, .long (J 153 ((I 130 38) - 1).toNatClampNeg)), (0, .ref 130), (1, .int a0)] [.long (F_X12_is 1 I J), .int ((I 130 38) - 1), .ref 153] I J R n g
      refine x_last (q := ((I 130 38) - 1).toNatClampNeg) ok dX12_works_43 s_153 (hp29 c1 c83) (by decide) (ltM hnn (by decide)) ?_
      refine w_iconst (v := 1) ok dX12_works_44 (by decide) ?_
      exact w_zret ok fin dX12_works_45 rfl (by decide) (by unfold F_X12_works FI_X12_works FJ_X12_works; simp only [if_pos c1]; simp only [if_pos c83]; exact Pd.i)
