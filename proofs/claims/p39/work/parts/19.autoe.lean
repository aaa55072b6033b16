/-! printed by wip/whole/gen_c.py: contracts by program -/
def S1_X12_out (a0 : Int32) (I : SI) (J : SJ) : SI := u2 (u2 (u2 I 130 0 0) 176 ((u2 I 130 0 0) 130 68).toNatClampNeg a0) 130 68 (((u2 (u2 I 130 0 0) 176 ((u2 I 130 0 0) 130 68).toNatClampNeg a0) 130 68) + 1)
def F_X12_out (a0 : Int32) (I : SI) (J : SJ) : Int32 := if a0 < 0 then -1 else (if ((u2 I 130 0 0) 130 68) ≤ a0 then -1 else (if ((u2 I 130 0 0) 130 68) = 24 then -1 else (((S1_X12_out a0 I J)) 130 68) - 1))
def FI_X12_out (a0 : Int32) (I : SI) (J : SJ) : SI := if a0 < 0 then u2 I 130 0 0 else (if ((u2 I 130 0 0) 130 68) ≤ a0 then u2 I 130 0 0 else (if ((u2 I 130 0 0) 130 68) = 24 then u2 I 130 0 0 else (S1_X12_out a0 I J)))
def H_X12_out (a0 : Int32) (I : SI) (J : SJ) : Prop := (¬ (a0 < 0) → ¬ (((u2 I 130 0 0) 130 68) ≤ a0) → ¬ (((u2 I 130 0 0) 130 68) = 24) → inR ((u2 I 130 0 0) 130 68) 24)
set_option maxHeartbeats 1000000 in
set_option maxRecDepth 40000 in
theorem c_X12_out {I : SI} {J : SJ} {R : SR} {n g : Nat} {f : Fr} (ro : RM R) (hnn : nM ≤ n) (hf : f.1 = false) (a0 : Int32)  (hp : H_X12_out a0 I J) : MM 0 0 0 mX12_out [.ref 130, .int a0] (eI f I) (eJ f J) R n g (Pd (some (.int (F_X12_out a0 I J))) (eI f (FI_X12_out a0 I J)) (eJ f J) R n g) := by
  refine MM.of (by decide) (Nat.le_of_ble_eq_true rfl) fun K ok fin => ?_
  show WK K 0 0 0 [(0, .ref 130), (1, .int a0)] [] (eI f I) (eJ f J) R n g
  have hp1 := hp
  refine w_aload_n ok dX12_out_0 0 rfl ?_
  refine w_iconst (v := 0) ok dX12_out_1 (by decide) ?_
  refine y_putI ok dX12_out_2 (fwX12_169 rfl) (congrArg Prod.fst s_130) rfl (ltM hnn (by decide)) (sdm hf (by decide)) ?_
  refine w_iload_n ok dX12_out_5 1 rfl ?_
  refine w_if_lt (tgt := 26) ok dX12_out_6 (by decide) (fun c1 => ?_) (fun c1 => ?_)
  · skip
    refine w_iconst (v := (-1)) ok dX12_out_26 (by decide) ?_
    exact w_iret ok fin dX12_out_27 rfl (by unfold F_X12_out FI_X12_out; simp only [if_pos c1]; exact Pd.i)
  · skip
    refine w_iload_n ok dX12_out_9 1 rfl ?_
    refine w_aload_n ok dX12_out_10 0 rfl ?_
    refine y_getI ok dX12_out_11 (fX12_328 rfl) (congrArg Prod.fst s_130) rfl (ltM hnn (by decide)) (sdm hf (by decide)) ?_
    refine w_icmp_ge (tgt := 26) ok dX12_out_14 (by decide) (fun c2 => ?_) (fun c2 => ?_)
    · skip
      refine w_iconst (v := (-1)) ok dX12_out_26 (by decide) ?_
      exact w_iret ok fin dX12_out_27 rfl (by unfold F_X12_out FI_X12_out; simp only [if_neg c1]; simp only [if_pos c2]; exact Pd.i)
    · skip
      refine w_aload_n ok dX12_out_17 0 rfl ?_
      refine y_getI ok dX12_out_18 (fX12_328 rfl) (congrArg Prod.fst s_130) rfl (ltM hnn (by decide)) (sdm hf (by decide)) ?_
      refine w_bipush (v := 24) ok dX12_out_21 (by decide) ?_
      refine w_icmp_ne (tgt := 28) ok dX12_out_23 (by decide) (fun c3 => ?_) (fun c3 => ?_)
      · skip
        refine w_aload_n ok dX12_out_28 0 rfl ?_
        refine w_getR ok dX12_out_29 (fX12_160 rfl) (congrArg Prod.fst s_130) rfl (r_130_73 ro) (ltM hnn (by decide)) ?_
        refine w_aload_n ok dX12_out_32 0 rfl ?_
        refine y_getI ok dX12_out_33 (fX12_328 rfl) (congrArg Prod.fst s_130) rfl (ltM hnn (by decide)) (sdm hf (by decide)) ?_
        refine w_iload_n ok dX12_out_36 1 rfl ?_
        refine y_iast (q := ((u2 I 130 0 0) 130 68).toNatClampNeg) ok dX12_out_37 s_176 (hp1 c1 c2 c3) (by decide) (ltM hnn (by decide)) (sdm hf (by decide)) ?_
        refine w_aload_n ok dX12_out_38 0 rfl ?_
        refine w_dup ok dX12_out_39 rfl ?_
        refine y_getI ok dX12_out_40 (fX12_328 rfl) (congrArg Prod.fst s_130) rfl (ltM hnn (by decide)) (sdm hf (by decide)) ?_
        refine w_iconst (v := 1) ok dX12_out_43 (by decide) ?_
        refine w_iadd ok dX12_out_44 ?_
        refine y_putI ok dX12_out_45 (fwX12_328 rfl) (congrArg Prod.fst s_130) rfl (ltM hnn (by decide)) (sdm hf (by decide)) ?_
        show WK K 0 0 48 [(0, .ref 130), (1, .int a0)] [] (eI f (S1_X12_out a0 I J)) (eJ f J) R n g
        refine w_aload_n ok dX12_out_48 0 rfl ?_
        refine y_getI ok dX12_out_49 (fX12_328 rfl) (congrArg Prod.fst s_130) rfl (ltM hnn (by decide)) (sdm hf (by decide)) ?_
        refine w_iconst (v := 1) ok dX12_out_52 (by decide) ?_
        refine w_isub ok dX12_out_53 ?_
        exact w_iret ok fin dX12_out_54 rfl (by unfold F_X12_out FI_X12_out; simp only [if_neg c1]; simp only [if_neg c2]; simp only [if_neg c3]; exact Pd.i)
      · skip
        refine w_iconst (v := (-1)) ok dX12_out_26 (by decide) ?_
        exact w_iret ok fin dX12_out_27 rfl (by unfold F_X12_out FI_X12_out; simp only [if_neg c1]; simp only [if_neg c2]; simp only [if_pos c3]; exact Pd.i)
def F_X12_known (a0 : Int32) (I : SI) (J : SJ) : Int32 := if a0 < (-1) then 0 else (if a0 ≤ ((u2 I 130 0 0) 130 68) then 1 else 0)
def FI_X12_known (a0 : Int32) (I : SI) (J : SJ) : SI := if a0 < (-1) then u2 I 130 0 0 else (if a0 ≤ ((u2 I 130 0 0) 130 68) then u2 (u2 I 130 0 0) 130 69 a0 else u2 I 130 0 0)
set_option maxHeartbeats 1000000 in
set_option maxRecDepth 40000 in
theorem c_X12_known {I : SI} {J : SJ} {R : SR} {n g : Nat} {f : Fr} (ro : RM R) (hnn : nM ≤ n) (hf : f.1 = false) (a0 : Int32)   : MM 0 0 0 mX12_known [.ref 130, .int a0] (eI f I) (eJ f J) R n g (Pd (some (.int (F_X12_known a0 I J))) (eI f (FI_X12_known a0 I J)) (eJ f J) R n g) := by
  refine MM.of (by decide) (Nat.le_of_ble_eq_true rfl) fun K ok fin => ?_
  show WK K 0 0 0 [(0, .ref 130), (1, .int a0)] [] (eI f I) (eJ f J) R n g
  refine w_aload_n ok dX12_known_0 0 rfl ?_
  refine w_iconst (v := 0) ok dX12_known_1 (by decide) ?_
  refine y_putI ok dX12_known_2 (fwX12_169 rfl) (congrArg Prod.fst s_130) rfl (ltM hnn (by decide)) (sdm hf (by decide)) ?_
  refine w_iload_n ok dX12_known_5 1 rfl ?_
  refine w_iconst (v := (-1)) ok dX12_known_6 (by decide) ?_
  refine w_icmp_lt (tgt := 18) ok dX12_known_7 (by decide) (fun c1 => ?_) (fun c1 => ?_)
  · skip
    refine w_iconst (v := 0) ok dX12_known_18 (by decide) ?_
    exact w_zret ok fin dX12_known_19 rfl (by decide) (by unfold F_X12_known FI_X12_known; simp only [if_pos c1]; exact Pd.i)
  · skip
    refine w_iload_n ok dX12_known_10 1 rfl ?_
    refine w_aload_n ok dX12_known_11 0 rfl ?_
    refine y_getI ok dX12_known_12 (fX12_328 rfl) (congrArg Prod.fst s_130) rfl (ltM hnn (by decide)) (sdm hf (by decide)) ?_
    refine w_icmp_le (tgt := 20) ok dX12_known_15 (by decide) (fun c2 => ?_) (fun c2 => ?_)
    · skip
      refine w_aload_n ok dX12_known_20 0 rfl ?_
      refine w_iload_n ok dX12_known_21 1 rfl ?_
      refine y_putI ok dX12_known_22 (fwX12_147 rfl) (congrArg Prod.fst s_130) rfl (ltM hnn (by decide)) (sdm hf (by decide)) ?_
      refine w_iconst (v := 1) ok dX12_known_25 (by decide) ?_
      exact w_zret ok fin dX12_known_26 rfl (by decide) (by unfold F_X12_known FI_X12_known; simp only [if_neg c1]; simp only [if_pos c2]; exact Pd.i)
    · skip
      refine w_iconst (v := 0) ok dX12_known_18 (by decide) ?_
      exact w_zret ok fin dX12_known_19 rfl (by decide) (by unfold F_X12_known FI_X12_known; simp only [if_neg c1]; simp only [if_neg c2]; exact Pd.i)
def F_X12_knownMany  (I : SI) (J : SJ) : Int32 := if (I 130 69) = (-1) then I 130 68 else I 130 69
set_option maxHeartbeats 1000000 in
set_option maxRecDepth 40000 in
theorem c_X12_knownMany {I : SI} {J : SJ} {R : SR} {n g : Nat} {f : Fr} (ro : RM R) (hnn : nM ≤ n) (hf : f.1 = false)    : MM 0 0 0 mX12_knownMany [.ref 130] (eI f I) (eJ f J) R n g (Pd (some (.int (F_X12_knownMany  I J))) (eI f I) (eJ f J) R n g) := by
  refine MM.of (by decide) (Nat.le_of_ble_eq_true rfl) fun K ok fin => ?_
  show WK K 0 0 0 [(0, .ref 130)] [] (eI f I) (eJ f J) R n g
  refine w_aload_n ok dX12_knownMany_0 0 rfl ?_
  refine y_getI ok dX12_knownMany_1 (fX12_147 rfl) (congrArg Prod.fst s_130) rfl (ltM hnn (by decide)) (sdm hf (by decide)) ?_
  refine w_iconst (v := (-1)) ok dX12_knownMany_4 (by decide) ?_
  refine w_icmp_ne (tgt := 15) ok dX12_knownMany_5 (by decide) (fun c1 => ?_) (fun c1 => ?_)
  · skip
    refine w_aload_n ok dX12_knownMany_15 0 rfl ?_
    refine y_getI ok dX12_knownMany_16 (fX12_147 rfl) (congrArg Prod.fst s_130) rfl (ltM hnn (by decide)) (sdm hf (by decide)) ?_
    exact w_iret ok fin dX12_knownMany_19 rfl (by unfold F_X12_knownMany; simp only [if_neg c1]; exact Pd.i)
  · skip
    refine w_aload_n ok dX12_knownMany_8 0 rfl ?_
    refine y_getI ok dX12_knownMany_9 (fX12_328 rfl) (congrArg Prod.fst s_130) rfl (ltM hnn (by decide)) (sdm hf (by decide)) ?_
    refine w_goto (tgt := 19) ok dX12_knownMany_12 (by decide) ?_
    exact w_iret ok fin dX12_knownMany_19 rfl (by unfold F_X12_knownMany; simp only [if_pos c1]; exact Pd.i)
def T_X12_fits_j65 (a0 : Int32) (I : SI) (J : SJ) (i2 : Nat) (s2 : Unit) : Int32 := if (I 160 ((6 : Int32) + (I 174 (nI i2).toNatClampNeg)).toNatClampNeg) = (-1) then 0 else 1
def B_X12_fits_l2 (a0 : Int32) (I : SI) (J : SJ) (i2 : Nat) (s2 : Unit) : (Unit) ⊕ (Int32) := if (I 177 (nI i2).toNatClampNeg) = 0 then (if (I 176 (nI i2).toNatClampNeg) = (-1) then (if (I 173 (nI i2).toNatClampNeg) = a0 then (if (T_X12_fits_j65 a0 I J i2 s2) = (I 175 (nI i2).toNatClampNeg) then .inl () else .inr 0) else .inl ()) else .inl ()) else .inl ()
def F_X12_fits_l2 (a0 : Int32) (I : SI) (J : SJ) (s0 : Unit) : (Unit) ⊕ (Int32) := itE (B_X12_fits_l2 a0 I J) ((F_X12_knownMany  I J).toNatClampNeg) 0 s0
def F_X12_fits (a0 : Int32) (I : SI) (J : SJ) : Int32 := (match (F_X12_fits_l2 a0 I J ()) with | .inl se2 => 1 | .inr re2 => re2)
def H_X12_fits (a0 : Int32) (I : SI) (J : SJ) : Prop := (∀ (i2 : Nat) (s2 : Unit), i2 < (F_X12_knownMany  I J).toNatClampNeg → itE (B_X12_fits_l2 a0 I J) i2 0 () = .inl s2 → inR (nI i2) 24) ∧ (∀ (i2 : Nat) (s2 : Unit), i2 < (F_X12_knownMany  I J).toNatClampNeg → itE (B_X12_fits_l2 a0 I J) i2 0 () = .inl s2 → (I 177 (nI i2).toNatClampNeg) = 0 → inR (nI i2) 24) ∧ (∀ (i2 : Nat) (s2 : Unit), i2 < (F_X12_knownMany  I J).toNatClampNeg → itE (B_X12_fits_l2 a0 I J) i2 0 () = .inl s2 → (I 177 (nI i2).toNatClampNeg) = 0 → (I 176 (nI i2).toNatClampNeg) = (-1) → inR (nI i2) 24) ∧ (∀ (i2 : Nat) (s2 : Unit), i2 < (F_X12_knownMany  I J).toNatClampNeg → itE (B_X12_fits_l2 a0 I J) i2 0 () = .inl s2 → (I 177 (nI i2).toNatClampNeg) = 0 → (I 176 (nI i2).toNatClampNeg) = (-1) → (I 173 (nI i2).toNatClampNeg) = a0 → inR (nI i2) 24) ∧ (∀ (i2 : Nat) (s2 : Unit), i2 < (F_X12_knownMany  I J).toNatClampNeg → itE (B_X12_fits_l2 a0 I J) i2 0 () = .inl s2 → (I 177 (nI i2).toNatClampNeg) = 0 → (I 176 (nI i2).toNatClampNeg) = (-1) → (I 173 (nI i2).toNatClampNeg) = a0 → inR ((6 : Int32) + (I 174 (nI i2).toNatClampNeg)) 138)
set_option maxHeartbeats 1210000 in
set_option maxRecDepth 40000 in
theorem c_X12_fits {I : SI} {J : SJ} {R : SR} {n g : Nat} {f : Fr} (ro : RM R) (hnn : nM ≤ n) (hf : f.1 = false) (a0 : Int32)  (hp : H_X12_fits a0 I J) : MM 1 0 0 mX12_fits [.ref 130, .int a0] (eI f I) (eJ f J) R n g (Pd (some (.int (F_X12_fits a0 I J))) (eI f I) (eJ f J) R n g) := by
  refine MM.of (by decide) (Nat.le_of_ble_eq_true rfl) fun K ok fin => ?_
  show WK K 0 0 0 [(0, .ref 130), (1, .int a0)] [] (eI f I) (eJ f J) R n g
  obtain ⟨hp1, hp2, hp3, hp4, hp5⟩ := hp
  refine w_iconst (v := 0) ok dX12_fits_0 (by decide) ?_
  refine w_istore_n ok dX12_fits_1 rfl (by decide) rfl ?_
  refine w_loc [1, 2, 0] rfl ?_
  refine loop_e (σ := Unit) (ρ := Int32) (fun (i2 : Nat) (s2 : Unit) => WK K 0 0 2 [(0, .ref 130), (1, .int a0), (2, .int (nI i2))] [] (eI f I) (eJ f J) R n g) (B_X12_fits_l2 a0 I J) ((F_X12_knownMany  I J).toNatClampNeg) (()) ?_ ?_
  · intro se2 he2
    have he2 : (F_X12_fits_l2 a0 I J ()) = .inl se2 := he2
    show WK K 0 0 2 [(0, .ref 130), (1, .int a0), (2, .int (nI ((F_X12_knownMany  I J).toNatClampNeg)))] [] (eI f I) (eJ f J) R n g
    have e1 : (F_X12_knownMany  I J) ≤ (nI ((F_X12_knownMany  I J).toNatClampNeg)) := cnt_ge _
    refine w_iload_n ok dX12_fits_2 2 rfl ?_
    refine w_aload_n ok dX12_fits_3 0 rfl ?_
    refine w_cV (As := []) ok dX12_fits_4 iX12_knownMany (lX12_530 rfl) (rcv cls12 (congrArg Prod.fst s_130)) (ltM hnn (by decide)) (c_X12_knownMany ro hnn hf  ) (by decide) rfl (Nat.le_of_ble_eq_true rfl) ?_
    show WK K 0 0 7 [(0, .ref 130), (1, .int a0), (2, .int (nI ((F_X12_knownMany  I J).toNatClampNeg)))] [.int (F_X12_knownMany  I J), .int (nI ((F_X12_knownMany  I J).toNatClampNeg))] (eI f I) (eJ f J) R n g
    refine w_icmp_ge (tgt := 82) ok dX12_fits_7 (by decide) (fun _ => ?_) (fun h => absurd e1 h)
    refine w_iconst (v := 1) ok dX12_fits_82 (by decide) ?_
    exact w_zret ok fin dX12_fits_83 rfl (by decide) (by unfold F_X12_fits; simp only [he2]; exact Pd.i)
  · intro i2 s2 hi2 hs2 k2 kr2
    show WK K 0 0 2 [(0, .ref 130), (1, .int a0), (2, .int (nI i2))] [] (eI f I) (eJ f J) R n g
    have e2 : ¬ ((F_X12_knownMany  I J) ≤ (nI i2)) := cnt_lt hi2
    refine w_iload_n ok dX12_fits_2 2 rfl ?_
    refine w_aload_n ok dX12_fits_3 0 rfl ?_
    refine w_cV (As := []) ok dX12_fits_4 iX12_knownMany (lX12_530 rfl) (rcv cls12 (congrArg Prod.fst s_130)) (ltM hnn (by decide)) (c_X12_knownMany ro hnn hf  ) (by decide) rfl (Nat.le_of_ble_eq_true rfl) ?_
    show WK K 0 0 7 [(0, .ref 130), (1, .int a0), (2, .int (nI i2))] [.int (F_X12_knownMany  I J), .int (nI i2)] (eI f I) (eJ f J) R n g
    refine w_icmp_ge (tgt := 82) ok dX12_fits_7 (by decide) (fun h => absurd h e2) (fun _ => ?_)
    refine w_aload_n ok dX12_fits_10 0 rfl ?_
    refine w_getR ok dX12_fits_11 (fX12_163 rfl) (congrArg Prod.fst s_130) rfl (r_130_74 ro) (ltM hnn (by decide)) ?_
    refine w_iload_n ok dX12_fits_14 2 rfl ?_
    refine y_zald (q := (nI i2).toNatClampNeg) ok dX12_fits_15 s_177 (hp1 i2 s2 hi2 hs2) (by decide) (ltM hnn (by decide)) (sdm hf (by decide)) ?_
    refine w_if_ne (tgt := 76) ok dX12_fits_16 (by decide) (fun c3 => ?_) (fun c3 => ?_)
    · skip
      refine w_iinc (v := (nI i2) + 1) ok dX12_fits_76 2 rfl rfl (by decide) rfl ?_
      refine w_goto (tgt := 2) ok dX12_fits_79 (by decide) ?_
      have eB : B_X12_fits_l2 a0 I J i2 s2 = .inl () := by
        unfold B_X12_fits_l2; exact (if_neg c3).trans (rfl)
      have kk := k2 _ eB
      refine w_loc [1, 2, 0] rfl ?_
      rw [nI_1 i2]
      exact kk
    · skip
      refine w_aload_n ok dX12_fits_19 0 rfl ?_
      refine w_getR ok dX12_fits_20 (fX12_160 rfl) (congrArg Prod.fst s_130) rfl (r_130_73 ro) (ltM hnn (by decide)) ?_
      refine w_iload_n ok dX12_fits_23 2 rfl ?_
      refine y_iald (q := (nI i2).toNatClampNeg) ok dX12_fits_24 s_176 (hp2 i2 s2 hi2 hs2 c3) (by decide) (ltM hnn (by decide)) (sdm hf (by decide)) ?_
      refine w_iconst (v := (-1)) ok dX12_fits_25 (by decide) ?_
      refine w_icmp_ne (tgt := 76) ok dX12_fits_26 (by decide) (fun c4 => ?_) (fun c4 => ?_)
      · skip
        refine w_iinc (v := (nI i2) + 1) ok dX12_fits_76 2 rfl rfl (by decide) rfl ?_
        refine w_goto (tgt := 2) ok dX12_fits_79 (by decide) ?_
        have eB : B_X12_fits_l2 a0 I J i2 s2 = .inl () := by
          unfold B_X12_fits_l2; exact (if_pos c3).trans ((if_neg c4).trans (rfl))
        have kk := k2 _ eB
        refine w_loc [1, 2, 0] rfl ?_
        rw [nI_1 i2]
        exact kk
      · skip
        refine w_aload_n ok dX12_fits_29 0 rfl ?_
        refine w_getR ok dX12_fits_30 (fX12_150 rfl) (congrArg Prod.fst s_130) rfl (r_130_70 ro) (ltM hnn (by decide)) ?_
        refine w_iload_n ok dX12_fits_33 2 rfl ?_
        refine y_iald (q := (nI i2).toNatClampNeg) ok dX12_fits_34 s_173 (hp3 i2 s2 hi2 hs2 c3 c4) (by decide) (ltM hnn (by decide)) (sdm hf (by decide)) ?_
        refine w_iload_n ok dX12_fits_35 1 rfl ?_
        refine w_icmp_eq (tgt := 42) ok dX12_fits_36 (by decide) (fun c5 => ?_) (fun c5 => ?_)
        · skip
          refine w_aload_n ok dX12_fits_42 0 rfl ?_
          refine w_getR ok dX12_fits_43 (fX12_102 rfl) (congrArg Prod.fst s_130) rfl (r_130_45 ro) (ltM hnn (by decide)) ?_
          refine w_bipush (v := 6) ok dX12_fits_46 (by decide) ?_
          refine w_aload_n ok dX12_fits_48 0 rfl ?_
          refine w_getR ok dX12_fits_49 (fX12_153 rfl) (congrArg Prod.fst s_130) rfl (r_130_71 ro) (ltM hnn (by decide)) ?_
          refine w_iload_n ok dX12_fits_52 2 rfl ?_
          refine y_iald (q := (nI i2).toNatClampNeg) ok dX12_fits_53 s_174 (hp4 i2 s2 hi2 hs2 c3 c4 c5) (by decide) (ltM hnn (by decide)) (sdm hf (by decide)) ?_
          refine w_iadd ok dX12_fits_54 ?_
          refine y_iald (q := ((6 : Int32) + (I 174 (nI i2).toNatClampNeg)).toNatClampNeg) ok dX12_fits_55 s_160 (hp5 i2 s2 hi2 hs2 c3 c4 c5) (by decide) (ltM hnn (by decide)) (sdm hf (by decide)) ?_
          refine w_iconst (v := (-1)) ok dX12_fits_56 (by decide) ?_
          have jn6 : WK K 0 0 65 [(0, .ref 130), (1, .int a0), (2, .int (nI i2))] [.int (T_X12_fits_j65 a0 I J i2 s2)] (eI f I) (eJ f J) R n g := by
            refine w_aload_n ok dX12_fits_65 0 rfl ?_
            refine w_getR ok dX12_fits_66 (fX12_156 rfl) (congrArg Prod.fst s_130) rfl (r_130_72 ro) (ltM hnn (by decide)) ?_
            refine w_iload_n ok dX12_fits_69 2 rfl ?_
            refine y_zald (q := (nI i2).toNatClampNeg) ok dX12_fits_70 s_175 (hp4 i2 s2 hi2 hs2 c3 c4 c5) (by decide) (ltM hnn (by decide)) (sdm hf (by decide)) ?_
            refine w_icmp_eq (tgt := 76) ok dX12_fits_71 (by decide) (fun c7 => ?_) (fun c7 => ?_)
            · skip
              refine w_iinc (v := (nI i2) + 1) ok dX12_fits_76 2 rfl rfl (by decide) rfl ?_
              refine w_goto (tgt := 2) ok dX12_fits_79 (by decide) ?_
              have eB : B_X12_fits_l2 a0 I J i2 s2 = .inl () := by
                unfold B_X12_fits_l2; exact (if_pos c3).trans ((if_pos c4).trans ((if_pos c5).trans ((if_pos c7).trans (rfl))))
              have kk := k2 _ eB
              refine w_loc [1, 2, 0] rfl ?_
              rw [nI_1 i2]
              exact kk
            · skip
              refine w_iconst (v := 0) ok dX12_fits_74 (by decide) ?_
              have eB : B_X12_fits_l2 a0 I J i2 s2 = .inr 0 := by
                unfold B_X12_fits_l2; exact (if_pos c3).trans ((if_pos c4).trans ((if_pos c5).trans ((if_neg c7).trans (rfl))))
              have hr : (F_X12_fits_l2 a0 I J ()) = .inr 0 := kr2 _ eB
              exact w_zret ok fin dX12_fits_75 rfl (by decide) (by unfold F_X12_fits; simp only [hr]; exact Pd.i)
          refine w_icmp_eq (tgt := 64) ok dX12_fits_57 (by decide) (fun c8 => ?_) (fun c8 => ?_)
          · skip
            refine w_iconst (v := 0) ok dX12_fits_64 (by decide) ?_
            have eT : (T_X12_fits_j65 a0 I J i2 s2) = 0 := by
              unfold T_X12_fits_j65; exact (if_pos c8).trans (rfl)
            refine w_loc [0, 1, 2] rfl ?_
            have jj := jn6
            rw [eT] at jj
            exact jj
          · skip
            refine w_iconst (v := 1) ok dX12_fits_60 (by decide) ?_
            refine w_goto (tgt := 65) ok dX12_fits_61 (by decide) ?_
            have eT : (T_X12_fits_j65 a0 I J i2 s2) = 1 := by
              unfold T_X12_fits_j65; exact (if_neg c8).trans (rfl)
            refine w_loc [0, 1, 2] rfl ?_
            have jj := jn6
            rw [eT] at jj
            exact jj
        · skip
          refine w_goto (tgt := 76) ok dX12_fits_39 (by decide) ?_
          refine w_iinc (v := (nI i2) + 1) ok dX12_fits_76 2 rfl rfl (by decide) rfl ?_
          refine w_goto (tgt := 2) ok dX12_fits_79 (by decide) ?_
          have eB : B_X12_fits_l2 a0 I J i2 s2 = .inl () := by
            unfold B_X12_fits_l2; exact (if_pos c3).trans ((if_pos c4).trans ((if_neg c5).trans (rfl)))
          have kk := k2 _ eB
          refine w_loc [1, 2, 0] rfl ?_
          rw [nI_1 i2]
          exact kk
def B_X12_fitsStrike_w7 (a0 : Int32) (I : SI) (J : SJ) (s7 : Int32 × SI × SJ) : (Int32 × SI × SJ) ⊕ ((Int32 × SI × SJ) ⊕ (Int32 × SI × SJ)) := if a0 < s7.1 then .inr (.inl (s7.1, s7.2.1, s7.2.2)) else (if (F_X12_fits s7.1 (FI_X12_passes 1 0 s7.2.1 s7.2.2) (FJ_X12_passes 1 0 s7.2.1 s7.2.2)) = 0 then .inr (.inr (0, (FI_X12_passes 1 0 s7.2.1 s7.2.2), (FJ_X12_passes 1 0 s7.2.1 s7.2.2))) else .inl ((s7.1 + 1), (FI_X12_passes 1 0 s7.2.1 s7.2.2), (FJ_X12_passes 1 0 s7.2.1 s7.2.2)))
def F_X12_fitsStrike_w7 (a0 : Int32) (I : SI) (J : SJ) (s0 : Int32 × SI × SJ) : (Int32 × SI × SJ) ⊕ (Int32 × SI × SJ) := (itW (B_X12_fitsStrike_w7 a0 I J) 800 s0).getD (.inl s0)
def F_X12_fitsStrike (a0 : Int32) (I : SI) (J : SJ) : Int32 := (match (F_X12_fitsStrike_w7 a0 I J (1, (FI_X12_starts 1 I J), J)) with | .inl se7 => 1 | .inr re7 => re7.1)
def FI_X12_fitsStrike (a0 : Int32) (I : SI) (J : SJ) : SI := (match (F_X12_fitsStrike_w7 a0 I J (1, (FI_X12_starts 1 I J), J)) with | .inl se7 => se7.2.1 | .inr re7 => re7.2.1)
def FJ_X12_fitsStrike (a0 : Int32) (I : SI) (J : SJ) : SJ := (match (F_X12_fitsStrike_w7 a0 I J (1, (FI_X12_starts 1 I J), J)) with | .inl se7 => se7.2.2 | .inr re7 => re7.2.2)
def H_X12_fitsStrike (a0 : Int32) (I : SI) (J : SJ) : Prop := (H_X12_starts 1 I J) ∧ ((itW (B_X12_fitsStrike_w7 a0 I J) 800 (1, (FI_X12_starts 1 I J), J)).isSome = true) ∧ (∀ (n7 : Nat) (s7 : Int32 × SI × SJ), wN (B_X12_fitsStrike_w7 a0 I J) n7 (1, (FI_X12_starts 1 I J), J) = some s7 → ¬ (a0 < s7.1) → H_X12_passes 1 0 s7.2.1 s7.2.2) ∧ (∀ (n7 : Nat) (s7 : Int32 × SI × SJ), wN (B_X12_fitsStrike_w7 a0 I J) n7 (1, (FI_X12_starts 1 I J), J) = some s7 → ¬ (a0 < s7.1) → H_X12_fits s7.1 (FI_X12_passes 1 0 s7.2.1 s7.2.2) (FJ_X12_passes 1 0 s7.2.1 s7.2.2))
set_option maxHeartbeats 1000000 in
set_option maxRecDepth 40000 in
theorem c_X12_fitsStrike {I : SI} {J : SJ} {R : SR} {n g : Nat} {f : Fr} (ro : RM R) (hnn : nM ≤ n) (hf : f.1 = false) (a0 : Int32)  (hp : H_X12_fitsStrike a0 I J) : MM 7 0 0 mX12_fitsStrike [.ref 130, .int a0] (eI f I) (eJ f J) R n g (Pd (some (.int (F_X12_fitsStrike a0 I J))) (eI f (FI_X12_fitsStrike a0 I J)) (eJ f (FJ_X12_fitsStrike a0 I J)) R n g) := by
  refine MM.of (by decide) (Nat.le_of_ble_eq_true rfl) fun K ok fin => ?_
  show WK K 0 0 0 [(0, .ref 130), (1, .int a0)] [] (eI f I) (eJ f J) R n g
  obtain ⟨hp1, hp2, hp3, hp4⟩ := hp
  refine w_aload_n ok dX12_fitsStrike_0 0 rfl ?_
  refine w_iconst (v := 1) ok dX12_fitsStrike_1 (by decide) ?_
  refine w_cV (As := [.int 1]) ok dX12_fitsStrike_2 iX12_starts (lX12_358 rfl) (rcv cls12 (congrArg Prod.fst s_130)) (ltM hnn (by decide)) (c_X12_starts ro hnn hf 1  (hp1)) (by decide) rfl (Nat.le_of_ble_eq_true rfl) ?_
  refine w_iconst (v := 1) ok dX12_fitsStrike_5 (by decide) ?_
  refine w_istore_n ok dX12_fitsStrike_6 rfl (by decide) rfl ?_
  refine w_loc [1, 2, 0] rfl ?_
  refine loop_wr (σ := Int32 × SI × SJ) (ρ := Int32 × SI × SJ) (fun (s7 : Int32 × SI × SJ) => WK K 0 0 7 [(0, .ref 130), (1, .int a0), (2, .int s7.1)] [] (eI f s7.2.1) (eJ f s7.2.2) R n g) (B_X12_fitsStrike_w7 a0 I J) 800 (1, (FI_X12_starts 1 I J), J) (F_X12_fitsStrike_w7 a0 I J (1, (FI_X12_starts 1 I J), J)) (itW_some2 (hp2)) ?_
  · intro n7 s7 hs7 kc7 kr7
    have kx7 : ∀ se7 : Int32 × SI × SJ, B_X12_fitsStrike_w7 a0 I J s7 = .inr (.inl se7) → WK K 0 0 34 [(0, .ref 130), (1, .int a0), (2, .int se7.1)] [] (eI f se7.2.1) (eJ f se7.2.2) R n g := by
      intro se7 hb7
      have he7 : (F_X12_fitsStrike_w7 a0 I J (1, (FI_X12_starts 1 I J), J)) = .inl se7 := kr7 _ hb7
      refine w_iconst (v := 1) ok dX12_fitsStrike_34 (by decide) ?_
      exact w_zret ok fin dX12_fitsStrike_35 rfl (by decide) (by unfold F_X12_fitsStrike FI_X12_fitsStrike FJ_X12_fitsStrike; simp only [he7]; exact Pd.i)
    show WK K 0 0 7 [(0, .ref 130), (1, .int a0), (2, .int s7.1)] [] (eI f s7.2.1) (eJ f s7.2.2) R n g
    refine w_iload_n ok dX12_fitsStrike_7 2 rfl ?_
    refine w_iload_n ok dX12_fitsStrike_8 1 rfl ?_
    refine w_icmp_gt (tgt := 34) ok dX12_fitsStrike_9 (by decide) (fun c1 => ?_) (fun c1 => ?_)
    · skip
      have eB : B_X12_fitsStrike_w7 a0 I J s7 = .inr (.inl (s7.1, s7.2.1, s7.2.2)) := by
        unfold B_X12_fitsStrike_w7; exact (if_pos c1).trans (rfl)
      refine w_loc [0, 1, 2] rfl ?_
      have kk := kx7 _ eB
      exact kk
    · skip
      refine w_aload_n ok dX12_fitsStrike_12 0 rfl ?_
      refine w_iconst (v := 1) ok dX12_fitsStrike_13 (by decide) ?_
      refine w_iconst (v := 0) ok dX12_fitsStrike_14 (by decide) ?_
      refine w_cV (As := [.int 1, .int 0]) ok dX12_fitsStrike_15 iX12_passes (lX12_440 rfl) (rcv cls12 (congrArg Prod.fst s_130)) (ltM hnn (by decide)) (c_X12_passes ro hnn hf 1 0  (hp3 n7 s7 hs7 c1)) (by decide) rfl (Nat.le_of_ble_eq_true rfl) ?_
      refine w_aload_n ok dX12_fitsStrike_18 0 rfl ?_
      refine w_iload_n ok dX12_fitsStrike_19 2 rfl ?_
      refine w_cV (As := [.int s7.1]) ok dX12_fitsStrike_20 iX12_fits (lX12_533 rfl) (rcv cls12 (congrArg Prod.fst s_130)) (ltM hnn (by decide)) (c_X12_fits ro hnn hf s7.1  (hp4 n7 s7 hs7 c1)) (by decide) rfl (Nat.le_of_ble_eq_true rfl) ?_
      refine w_if_ne (tgt := 28) ok dX12_fitsStrike_23 (by decide) (fun c2 => ?_) (fun c2 => ?_)
      · skip
        refine w_iinc (v := s7.1 + 1) ok dX12_fitsStrike_28 2 rfl rfl (by decide) rfl ?_
        refine w_goto (tgt := 7) ok dX12_fitsStrike_31 (by decide) ?_
        have eB : B_X12_fitsStrike_w7 a0 I J s7 = .inl ((s7.1 + 1), (FI_X12_passes 1 0 s7.2.1 s7.2.2), (FJ_X12_passes 1 0 s7.2.1 s7.2.2)) := by
          unfold B_X12_fitsStrike_w7; exact (if_neg c1).trans ((if_neg c2).trans (rfl))
        refine w_loc [1, 2, 0] rfl ?_
        have kk := kc7 _ eB
        exact kk
      · skip
        refine w_iconst (v := 0) ok dX12_fitsStrike_26 (by decide) ?_
        have eB : B_X12_fitsStrike_w7 a0 I J s7 = .inr (.inr (0, (FI_X12_passes 1 0 s7.2.1 s7.2.2), (FJ_X12_passes 1 0 s7.2.1 s7.2.2))) := by
          unfold B_X12_fitsStrike_w7; exact (if_neg c1).trans ((if_pos c2).trans (rfl))
        have hr : (F_X12_fitsStrike_w7 a0 I J (1, (FI_X12_starts 1 I J), J)) = .inr (0, (FI_X12_passes 1 0 s7.2.1 s7.2.2), (FJ_X12_passes 1 0 s7.2.1 s7.2.2)) := kr7 _ eB
        exact w_zret ok fin dX12_fitsStrike_27 rfl (by decide) (by unfold F_X12_fitsStrike FI_X12_fitsStrike FJ_X12_fitsStrike; simp only [hr]; exact Pd.i)
def B_X12_struckHow_w19 (a0 : Int32) (I : SI) (J : SJ) (s19 : Int32 × SI) : (Int32 × SI) ⊕ (Int32 × SI) := if (F_X12_knownMany  s19.2 J) ≤ s19.1 then .inr (s19.1, s19.2) else .inl ((s19.1 + 1), (u2 s19.2 177 s19.1.toNatClampNeg (vp_nar .boolean 0)))
def F_X12_struckHow_w19 (a0 : Int32) (I : SI) (J : SJ) (s0 : Int32 × SI) : Int32 × SI := (itW (B_X12_struckHow_w19 a0 I J) 800 s0).getD s0
def S8_X12_struckHow (a0 : Int32) (I : SI) (J : SJ) (s47 : Int32 × SI) : SI := u2 s47.2 177 (s47.2 176 s47.1.toNatClampNeg).toNatClampNeg (vp_nar .boolean 1)
def B_X12_struckHow_w47 (a0 : Int32) (I : SI) (J : SJ) (s47 : Int32 × SI) : (Int32 × SI) ⊕ (Int32 × SI) := if s47.1 < 0 then .inr (s47.1, s47.2) else (if (s47.2 177 s47.1.toNatClampNeg) = 0 then (if (s47.2 176 s47.1.toNatClampNeg) = (-1) then .inl ((s47.1 + (-1)), s47.2) else .inl ((s47.1 + (-1)), (S8_X12_struckHow a0 I J s47))) else .inl ((s47.1 + (-1)), s47.2))
def F_X12_struckHow_w47 (a0 : Int32) (I : SI) (J : SJ) (s0 : Int32 × SI) : Int32 × SI := (itW (B_X12_struckHow_w47 a0 I J) 800 s0).getD s0
def S1_X12_struckHow (a0 : Int32) (I : SI) (J : SJ) : SI := (F_X12_struckHow_w47 a0 I J (((F_X12_knownMany  ((F_X12_struckHow_w19 a0 I J (0, (u2 I 130 0 0))).2) J) - 1), ((F_X12_struckHow_w19 a0 I J (0, (u2 I 130 0 0))).2))).2
def S2_X12_struckHow (a0 : Int32) (I : SI) (J : SJ) : Int32 := (F_X12_struckHow_w47 a0 I J (((F_X12_knownMany  ((F_X12_struckHow_w19 a0 I J (0, (u2 I 130 0 0))).2) J) - 1), ((F_X12_struckHow_w19 a0 I J (0, (u2 I 130 0 0))).2))).1
def B_X12_struckHow_l90 (a0 : Int32) (I : SI) (J : SJ) (i90 : Nat) (s90 : Int32) : Int32 := if ((S1_X12_struckHow a0 I J) 177 (nI i90).toNatClampNeg) = 0 then (if ((S1_X12_struckHow a0 I J) 176 (nI i90).toNatClampNeg) = (-1) then (maxI s90 ((S1_X12_struckHow a0 I J) 173 (nI i90).toNatClampNeg)) else s90) else s90
def F_X12_struckHow_l90 (a0 : Int32) (I : SI) (J : SJ) (s0 : Int32) : Int32 := itN (B_X12_struckHow_l90 a0 I J) ((F_X12_knownMany  (S1_X12_struckHow a0 I J) J).toNatClampNeg) s0
def S5_X12_struckHow (a0 : Int32) (I : SI) (J : SJ) (i144 : Nat) (s144 : Int32 × SI × SJ) : SI := FI_X12_fitsStrike (F_X12_struckHow_l90 a0 I J 0) (u2 s144.2.1 130 58 ((10 : Int32) * (nI i144))) s144.2.2
def S6_X12_struckHow (a0 : Int32) (I : SI) (J : SJ) (i144 : Nat) (s144 : Int32 × SI × SJ) : SJ := FJ_X12_fitsStrike (F_X12_struckHow_l90 a0 I J 0) (u2 s144.2.1 130 58 ((10 : Int32) * (nI i144))) s144.2.2
def S7_X12_struckHow (a0 : Int32) (I : SI) (J : SJ) (i144 : Nat) (s144 : Int32 × SI × SJ) : Int32 := F_X12_fitsStrike (F_X12_struckHow_l90 a0 I J 0) (u2 s144.2.1 130 58 ((10 : Int32) * (nI i144))) s144.2.2
def B_X12_struckHow_l144 (a0 : Int32) (I : SI) (J : SJ) (i144 : Nat) (s144 : Int32 × SI × SJ) : Int32 × SI × SJ := if (S7_X12_struckHow a0 I J i144 s144) = 0 then ((s144.1 ||| 0), (S5_X12_struckHow a0 I J i144 s144), (S6_X12_struckHow a0 I J i144 s144)) else ((s144.1 ||| ((1 : Int32) <<< ((nI i144) &&& 31))), (S5_X12_struckHow a0 I J i144 s144), (S6_X12_struckHow a0 I J i144 s144))
def F_X12_struckHow_l144 (a0 : Int32) (I : SI) (J : SJ) (s0 : Int32 × SI × SJ) : Int32 × SI × SJ := itN (B_X12_struckHow_l144 a0 I J) (10) s0
def S3_X12_struckHow (a0 : Int32) (I : SI) (J : SJ) : SI := (F_X12_struckHow_l144 a0 I J (0, (u2 (S1_X12_struckHow a0 I J) 130 57 a0), J)).2.1
def S4_X12_struckHow (a0 : Int32) (I : SI) (J : SJ) : SJ := (F_X12_struckHow_l144 a0 I J (0, (u2 (S1_X12_struckHow a0 I J) 130 57 a0), J)).2.2
def F_X12_struckHow (a0 : Int32) (I : SI) (J : SJ) : Int32 := if (F_X12_isMark a0 (u2 I 130 0 0) J) = 0 then -1 else (F_X12_struckHow_l144 a0 I J (0, (u2 (S1_X12_struckHow a0 I J) 130 57 a0), J)).1
def FI_X12_struckHow (a0 : Int32) (I : SI) (J : SJ) : SI := if (F_X12_isMark a0 (u2 I 130 0 0) J) = 0 then u2 I 130 0 0 else u2 (S3_X12_struckHow a0 I J) 130 57 (-1)
def FJ_X12_struckHow (a0 : Int32) (I : SI) (J : SJ) : SJ := if (F_X12_isMark a0 (u2 I 130 0 0) J) = 0 then J else (S4_X12_struckHow a0 I J)
def H_X12_struckHow (a0 : Int32) (I : SI) (J : SJ) : Prop := (¬ ((F_X12_isMark a0 (u2 I 130 0 0) J) = 0) → (itW (B_X12_struckHow_w19 a0 I J) 800 (0, (u2 I 130 0 0))).isSome = true) ∧ (¬ ((F_X12_isMark a0 (u2 I 130 0 0) J) = 0) → (itW (B_X12_struckHow_w47 a0 I J) 800 (((F_X12_knownMany  ((F_X12_struckHow_w19 a0 I J (0, (u2 I 130 0 0))).2) J) - 1), ((F_X12_struckHow_w19 a0 I J (0, (u2 I 130 0 0))).2))).isSome = true) ∧ (¬ ((F_X12_isMark a0 (u2 I 130 0 0) J) = 0) → ∀ (i144 : Nat) (s144 : Int32 × SI × SJ), i144 < 10 → s144 = itN (B_X12_struckHow_l144 a0 I J) i144 (0, (u2 (S1_X12_struckHow a0 I J) 130 57 a0), J) → H_X12_fitsStrike (F_X12_struckHow_l90 a0 I J 0) (u2 s144.2.1 130 58 ((10 : Int32) * (nI i144))) s144.2.2) ∧ (¬ ((F_X12_isMark a0 (u2 I 130 0 0) J) = 0) → ∀ (i90 : Nat) (s90 : Int32), i90 < (F_X12_knownMany  (S1_X12_struckHow a0 I J) J).toNatClampNeg → s90 = itN (B_X12_struckHow_l90 a0 I J) i90 0 → inR (nI i90) 24) ∧ (¬ ((F_X12_isMark a0 (u2 I 130 0 0) J) = 0) → ∀ (i90 : Nat) (s90 : Int32), i90 < (F_X12_knownMany  (S1_X12_struckHow a0 I J) J).toNatClampNeg → s90 = itN (B_X12_struckHow_l90 a0 I J) i90 0 → ((S1_X12_struckHow a0 I J) 177 (nI i90).toNatClampNeg) = 0 → inR (nI i90) 24) ∧ (¬ ((F_X12_isMark a0 (u2 I 130 0 0) J) = 0) → ∀ (i90 : Nat) (s90 : Int32), i90 < (F_X12_knownMany  (S1_X12_struckHow a0 I J) J).toNatClampNeg → s90 = itN (B_X12_struckHow_l90 a0 I J) i90 0 → ((S1_X12_struckHow a0 I J) 177 (nI i90).toNatClampNeg) = 0 → ((S1_X12_struckHow a0 I J) 176 (nI i90).toNatClampNeg) = (-1) → inR (nI i90) 24) ∧ (¬ ((F_X12_isMark a0 (u2 I 130 0 0) J) = 0) → ∀ (n47 : Nat) (s47 : Int32 × SI), wN (B_X12_struckHow_w47 a0 I J) n47 (((F_X12_knownMany  ((F_X12_struckHow_w19 a0 I J (0, (u2 I 130 0 0))).2) J) - 1), ((F_X12_struckHow_w19 a0 I J (0, (u2 I 130 0 0))).2)) = some s47 → ¬ (s47.1 < 0) → inR s47.1 24) ∧ (¬ ((F_X12_isMark a0 (u2 I 130 0 0) J) = 0) → ∀ (n47 : Nat) (s47 : Int32 × SI), wN (B_X12_struckHow_w47 a0 I J) n47 (((F_X12_knownMany  ((F_X12_struckHow_w19 a0 I J (0, (u2 I 130 0 0))).2) J) - 1), ((F_X12_struckHow_w19 a0 I J (0, (u2 I 130 0 0))).2)) = some s47 → ¬ (s47.1 < 0) → (s47.2 177 s47.1.toNatClampNeg) = 0 → inR s47.1 24) ∧ (¬ ((F_X12_isMark a0 (u2 I 130 0 0) J) = 0) → ∀ (n47 : Nat) (s47 : Int32 × SI), wN (B_X12_struckHow_w47 a0 I J) n47 (((F_X12_knownMany  ((F_X12_struckHow_w19 a0 I J (0, (u2 I 130 0 0))).2) J) - 1), ((F_X12_struckHow_w19 a0 I J (0, (u2 I 130 0 0))).2)) = some s47 → ¬ (s47.1 < 0) → (s47.2 177 s47.1.toNatClampNeg) = 0 → ¬ ((s47.2 176 s47.1.toNatClampNeg) = (-1)) → inR s47.1 24) ∧ (¬ ((F_X12_isMark a0 (u2 I 130 0 0) J) = 0) → ∀ (n47 : Nat) (s47 : Int32 × SI), wN (B_X12_struckHow_w47 a0 I J) n47 (((F_X12_knownMany  ((F_X12_struckHow_w19 a0 I J (0, (u2 I 130 0 0))).2) J) - 1), ((F_X12_struckHow_w19 a0 I J (0, (u2 I 130 0 0))).2)) = some s47 → ¬ (s47.1 < 0) → (s47.2 177 s47.1.toNatClampNeg) = 0 → ¬ ((s47.2 176 s47.1.toNatClampNeg) = (-1)) → inR (s47.2 176 s47.1.toNatClampNeg) 24) ∧ (¬ ((F_X12_isMark a0 (u2 I 130 0 0) J) = 0) → ∀ (n19 : Nat) (s19 : Int32 × SI), wN (B_X12_struckHow_w19 a0 I J) n19 (0, (u2 I 130 0 0)) = some s19 → ¬ ((F_X12_knownMany  s19.2 J) ≤ s19.1) → inR s19.1 24)
set_option maxHeartbeats 2440000 in
set_option maxRecDepth 40000 in
theorem c_X12_struckHow {I : SI} {J : SJ} {R : SR} {n g : Nat} {f : Fr} (ro : RM R) (hnn : nM ≤ n) (hf : f.1 = false) (a0 : Int32)  (hp : H_X12_struckHow a0 I J) : MM 8 0 0 mX12_struckHow [.ref 130, .int a0] (eI f I) (eJ f J) R n g (Pd (some (.int (F_X12_struckHow a0 I J))) (eI f (FI_X12_struckHow a0 I J)) (eJ f (FJ_X12_struckHow a0 I J)) R n g) := by
  refine MM.of (by decide) (Nat.le_of_ble_eq_true rfl) fun K ok fin => ?_
  show WK K 0 0 0 [(0, .ref 130), (1, .int a0)] [] (eI f I) (eJ f J) R n g
  obtain ⟨hp1, hp2, hp3, hp4, hp5, hp6, hp7, hp8, hp9, hp10, hp11⟩ := hp
  refine w_aload_n ok dX12_struckHow_0 0 rfl ?_
  refine w_iconst (v := 0) ok dX12_struckHow_1 (by decide) ?_
  refine y_putI ok dX12_struckHow_2 (fwX12_169 rfl) (congrArg Prod.fst s_130) rfl (ltM hnn (by decide)) (sdm hf (by decide)) ?_
  refine w_aload_n ok dX12_struckHow_5 0 rfl ?_
  refine w_iload_n ok dX12_struckHow_6 1 rfl ?_
  refine w_cV (As := [.int a0]) ok dX12_struckHow_7 iX12_isMark (lX12_450 rfl) (rcv cls12 (congrArg Prod.fst s_130)) (ltM hnn (by decide)) (c_X12_isMark ro hnn hf a0 ) (by decide) rfl (Nat.le_of_ble_eq_true rfl) ?_
  refine w_if_ne (tgt := 15) ok dX12_struckHow_10 (by decide) (fun c1 => ?_) (fun c1 => ?_)
  · skip
    refine w_iconst (v := 0) ok dX12_struckHow_15 (by decide) ?_
    refine w_istore_n ok dX12_struckHow_16 rfl (by decide) rfl ?_
    refine w_iconst (v := 0) ok dX12_struckHow_17 (by decide) ?_
    refine w_istore_n ok dX12_struckHow_18 rfl (by decide) rfl ?_
    refine w_loc [2, 3, 1, 0] rfl ?_
    refine loop_w (fun (s19 : Int32 × SI) => WK K 0 0 19 [(0, .ref 130), (1, .int a0), (2, .int 0), (3, .int s19.1)] [] (eI f s19.2) (eJ f J) R n g) (fun (s19 : Int32 × SI) => WK K 0 0 40 [(0, .ref 130), (1, .int a0), (2, .int 0), (3, .int s19.1)] [] (eI f s19.2) (eJ f J) R n g) (B_X12_struckHow_w19 a0 I J) 800 (0, (u2 I 130 0 0)) (F_X12_struckHow_w19 a0 I J (0, (u2 I 130 0 0))) (itW_some (hp1 c1)) ?_ ?_
    · show WK K 0 0 40 [(0, .ref 130), (1, .int a0), (2, .int 0), (3, .int ((F_X12_struckHow_w19 a0 I J (0, (u2 I 130 0 0))).1))] [] (eI f ((F_X12_struckHow_w19 a0 I J (0, (u2 I 130 0 0))).2)) (eJ f J) R n g
      refine w_aload_n ok dX12_struckHow_40 0 rfl ?_
      refine w_cV (As := []) ok dX12_struckHow_41 iX12_knownMany (lX12_530 rfl) (rcv cls12 (congrArg Prod.fst s_130)) (ltM hnn (by decide)) (c_X12_knownMany ro hnn hf  ) (by decide) rfl (Nat.le_of_ble_eq_true rfl) ?_
      refine w_iconst (v := 1) ok dX12_struckHow_44 (by decide) ?_
      refine w_isub ok dX12_struckHow_45 ?_
      refine w_istore_n ok dX12_struckHow_46 rfl (by decide) rfl ?_
      refine w_loc [1, 2, 3, 0] rfl ?_
      refine loop_w (fun (s47 : Int32 × SI) => WK K 0 0 47 [(0, .ref 130), (1, .int a0), (2, .int 0), (3, .int s47.1)] [] (eI f s47.2) (eJ f J) R n g) (fun (s47 : Int32 × SI) => WK K 0 0 88 [(0, .ref 130), (1, .int a0), (2, .int 0), (3, .int s47.1)] [] (eI f s47.2) (eJ f J) R n g) (B_X12_struckHow_w47 a0 I J) 800 (((F_X12_knownMany  ((F_X12_struckHow_w19 a0 I J (0, (u2 I 130 0 0))).2) J) - 1), ((F_X12_struckHow_w19 a0 I J (0, (u2 I 130 0 0))).2)) (F_X12_struckHow_w47 a0 I J (((F_X12_knownMany  ((F_X12_struckHow_w19 a0 I J (0, (u2 I 130 0 0))).2) J) - 1), ((F_X12_struckHow_w19 a0 I J (0, (u2 I 130 0 0))).2))) (itW_some (hp2 c1)) ?_ ?_
      · show WK K 0 0 88 [(0, .ref 130), (1, .int a0), (2, .int 0), (3, .int ((F_X12_struckHow_w47 a0 I J (((F_X12_knownMany  ((F_X12_struckHow_w19 a0 I J (0, (u2 I 130 0 0))).2) J) - 1), ((F_X12_struckHow_w19 a0 I J (0, (u2 I 130 0 0))).2))).1))] [] (eI f ((F_X12_struckHow_w47 a0 I J (((F_X12_knownMany  ((F_X12_struckHow_w19 a0 I J (0, (u2 I 130 0 0))).2) J) - 1), ((F_X12_struckHow_w19 a0 I J (0, (u2 I 130 0 0))).2))).2)) (eJ f J) R n g
        refine w_iconst (v := 0) ok dX12_struckHow_88 (by decide) ?_
        show WK K 0 0 89 [(0, .ref 130), (1, .int a0), (2, .int 0), (3, .int (S2_X12_struckHow a0 I J))] [.int 0] (eI f (S1_X12_struckHow a0 I J)) (eJ f J) R n g
        refine w_istore_n ok dX12_struckHow_89 rfl (by decide) rfl ?_
        refine w_loc [1, 2, 3, 0] rfl ?_
        refine loop_for (σ := Int32) (fun (i90 : Nat) (s90 : Int32) => WK K 0 0 90 [(0, .ref 130), (1, .int a0), (2, .int s90), (3, .int (nI i90))] [] (eI f (S1_X12_struckHow a0 I J)) (eJ f J) R n g) (B_X12_struckHow_l90 a0 I J) ((F_X12_knownMany  (S1_X12_struckHow a0 I J) J).toNatClampNeg) (0) ?_ ?_
        · show WK K 0 0 90 [(0, .ref 130), (1, .int a0), (2, .int (F_X12_struckHow_l90 a0 I J 0)), (3, .int (nI ((F_X12_knownMany  (S1_X12_struckHow a0 I J) J).toNatClampNeg)))] [] (eI f (S1_X12_struckHow a0 I J)) (eJ f J) R n g
          have e2 : (F_X12_knownMany  (S1_X12_struckHow a0 I J) J) ≤ (nI ((F_X12_knownMany  (S1_X12_struckHow a0 I J) J).toNatClampNeg)) := cnt_ge _
          refine w_iload_n ok dX12_struckHow_90 3 rfl ?_
          refine w_aload_n ok dX12_struckHow_91 0 rfl ?_
          refine w_cV (As := []) ok dX12_struckHow_92 iX12_knownMany (lX12_530 rfl) (rcv cls12 (congrArg Prod.fst s_130)) (ltM hnn (by decide)) (c_X12_knownMany ro hnn hf  ) (by decide) rfl (Nat.le_of_ble_eq_true rfl) ?_
          show WK K 0 0 95 [(0, .ref 130), (1, .int a0), (2, .int (F_X12_struckHow_l90 a0 I J 0)), (3, .int (nI ((F_X12_knownMany  (S1_X12_struckHow a0 I J) J).toNatClampNeg)))] [.int (F_X12_knownMany  (S1_X12_struckHow a0 I J) J), .int (nI ((F_X12_knownMany  (S1_X12_struckHow a0 I J) J).toNatClampNeg))] (eI f (S1_X12_struckHow a0 I J)) (eJ f J) R n g
          refine w_icmp_ge (tgt := 134) ok dX12_struckHow_95 (by decide) (fun _ => ?_) (fun h => absurd e2 h)
          refine w_iconst (v := 0) ok dX12_struckHow_134 (by decide) ?_
          refine w_istore_n ok dX12_struckHow_135 rfl (by decide) rfl ?_
          refine w_aload_n ok dX12_struckHow_136 1 rfl ?_
          refine w_iload_n ok dX12_struckHow_137 2 rfl ?_
          refine y_putI ok dX12_struckHow_138 (fwX12_129 rfl) (congrArg Prod.fst s_130) rfl (ltM hnn (by decide)) (sdm hf (by decide)) ?_
          refine w_iconst (v := 0) ok dX12_struckHow_141 (by decide) ?_
          refine w_istore ok dX12_struckHow_142 (by decide) rfl ?_
          refine w_loc [2, 3, 4, 1, 0] rfl ?_
          refine loop_for (σ := Int32 × SI × SJ) (fun (i144 : Nat) (s144 : Int32 × SI × SJ) => WK K 0 0 144 [(0, .ref 130), (1, .int a0), (2, .int (F_X12_struckHow_l90 a0 I J 0)), (3, .int s144.1), (4, .int (nI i144))] [] (eI f s144.2.1) (eJ f s144.2.2) R n g) (B_X12_struckHow_l144 a0 I J) (10) ((0, (u2 (S1_X12_struckHow a0 I J) 130 57 a0), J)) ?_ ?_
          · show WK K 0 0 144 [(0, .ref 130), (1, .int a0), (2, .int (F_X12_struckHow_l90 a0 I J 0)), (3, .int ((F_X12_struckHow_l144 a0 I J (0, (u2 (S1_X12_struckHow a0 I J) 130 57 a0), J)).1)), (4, .int (nI 10))] [] (eI f ((F_X12_struckHow_l144 a0 I J (0, (u2 (S1_X12_struckHow a0 I J) 130 57 a0), J)).2.1)) (eJ f ((F_X12_struckHow_l144 a0 I J (0, (u2 (S1_X12_struckHow a0 I J) 130 57 a0), J)).2.2)) R n g
            have e3 : (10 : Int32) ≤ (nI 10) := (show nI 10 ≤ nI 10 from nI_le (by omega) (by decide))
            refine w_iload ok dX12_struckHow_144 4 rfl ?_
            show WK K 0 0 146 [(0, .ref 130), (1, .int a0), (2, .int (F_X12_struckHow_l90 a0 I J 0)), (3, .int ((F_X12_struckHow_l144 a0 I J (0, (u2 (S1_X12_struckHow a0 I J) 130 57 a0), J)).1)), (4, .int (nI 10))] [.int (nI 10)] (eI f (S3_X12_struckHow a0 I J)) (eJ f (S4_X12_struckHow a0 I J)) R n g
            refine w_bipush (v := 10) ok dX12_struckHow_146 (by decide) ?_
            refine w_icmp_ge (tgt := 185) ok dX12_struckHow_148 (by decide) (fun _ => ?_) (fun h => absurd e3 h)
            refine w_aload_n ok dX12_struckHow_185 0 rfl ?_
            refine w_iconst (v := (-1)) ok dX12_struckHow_186 (by decide) ?_
            refine y_putI ok dX12_struckHow_187 (fwX12_129 rfl) (congrArg Prod.fst s_130) rfl (ltM hnn (by decide)) (sdm hf (by decide)) ?_
            refine w_iload_n ok dX12_struckHow_190 3 rfl ?_
            exact w_iret ok fin dX12_struckHow_191 rfl (by unfold F_X12_struckHow FI_X12_struckHow FJ_X12_struckHow; simp only [if_neg c1]; exact Pd.i)
          · intro i144 s144 hi144 hs144 k144
            show WK K 0 0 144 [(0, .ref 130), (1, .int a0), (2, .int (F_X12_struckHow_l90 a0 I J 0)), (3, .int s144.1), (4, .int (nI i144))] [] (eI f s144.2.1) (eJ f s144.2.2) R n g
            have e4 : ¬ ((10 : Int32) ≤ (nI i144)) := (show ¬ (nI 10 ≤ nI i144) from nI_ge (by omega) (by decide))
            refine w_iload ok dX12_struckHow_144 4 rfl ?_
            refine w_bipush (v := 10) ok dX12_struckHow_146 (by decide) ?_
            refine w_icmp_ge (tgt := 185) ok dX12_struckHow_148 (by decide) (fun h => absurd h e4) (fun _ => ?_)
            refine w_aload_n ok dX12_struckHow_151 0 rfl ?_
            refine w_bipush (v := 10) ok dX12_struckHow_152 (by decide) ?_
            refine w_iload ok dX12_struckHow_154 4 rfl ?_
            refine w_imul ok dX12_struckHow_156 ?_
            refine y_putI ok dX12_struckHow_157 (fwX12_364 rfl) (congrArg Prod.fst s_130) rfl (ltM hnn (by decide)) (sdm hf (by decide)) ?_
            refine w_iload_n ok dX12_struckHow_160 3 rfl ?_
            refine w_aload_n ok dX12_struckHow_161 0 rfl ?_
            refine w_iload_n ok dX12_struckHow_162 2 rfl ?_
            refine w_cV (As := [.int (F_X12_struckHow_l90 a0 I J 0)]) ok dX12_struckHow_163 iX12_fitsStrike (lX12_536 rfl) (rcv cls12 (congrArg Prod.fst s_130)) (ltM hnn (by decide)) (c_X12_fitsStrike ro hnn hf (F_X12_struckHow_l90 a0 I J 0)  (hp3 c1 i144 s144 hi144 hs144)) (by decide) rfl (Nat.le_of_ble_eq_true rfl) ?_
            show WK K 0 0 166 [(0, .ref 130), (1, .int a0), (2, .int (F_X12_struckHow_l90 a0 I J 0)), (3, .int s144.1), (4, .int (nI i144))] [.int (S7_X12_struckHow a0 I J i144 s144), .int s144.1] (eI f (S5_X12_struckHow a0 I J i144 s144)) (eJ f (S6_X12_struckHow a0 I J i144 s144)) R n g
            refine w_if_eq (tgt := 176) ok dX12_struckHow_166 (by decide) (fun c5 => ?_) (fun c5 => ?_)
            · skip
              refine w_iconst (v := 0) ok dX12_struckHow_176 (by decide) ?_
              refine w_ior ok dX12_struckHow_177 ?_
              refine w_istore_n ok dX12_struckHow_178 rfl (by decide) rfl ?_
              refine w_iinc (v := (nI i144) + 1) ok dX12_struckHow_179 4 rfl rfl (by decide) rfl ?_
              refine w_goto (tgt := 144) ok dX12_struckHow_182 (by decide) ?_
              have eB : B_X12_struckHow_l144 a0 I J i144 s144 = ((s144.1 ||| 0), (S5_X12_struckHow a0 I J i144 s144), (S6_X12_struckHow a0 I J i144 s144)) := by
                unfold B_X12_struckHow_l144; exact (if_pos c5).trans (rfl)
              have kk := k144
              rw [eB] at kk
              refine w_loc [2, 3, 4, 1, 0] rfl ?_
              rw [nI_1 i144]
              exact kk
            · skip
              refine w_iconst (v := 1) ok dX12_struckHow_169 (by decide) ?_
              refine w_iload ok dX12_struckHow_170 4 rfl ?_
              refine w_ishl ok dX12_struckHow_172 ?_
              refine w_goto (tgt := 177) ok dX12_struckHow_173 (by decide) ?_
              refine w_ior ok dX12_struckHow_177 ?_
              refine w_istore_n ok dX12_struckHow_178 rfl (by decide) rfl ?_
              refine w_iinc (v := (nI i144) + 1) ok dX12_struckHow_179 4 rfl rfl (by decide) rfl ?_
              refine w_goto (tgt := 144) ok dX12_struckHow_182 (by decide) ?_
              have eB : B_X12_struckHow_l144 a0 I J i144 s144 = ((s144.1 ||| ((1 : Int32) <<< ((nI i144) &&& 31))), (S5_X12_struckHow a0 I J i144 s144), (S6_X12_struckHow a0 I J i144 s144)) := by
                unfold B_X12_struckHow_l144; exact (if_neg c5).trans (rfl)
              have kk := k144
              rw [eB] at kk
              refine w_loc [2, 3, 4, 1, 0] rfl ?_
              rw [nI_1 i144]
              exact kk
        · intro i90 s90 hi90 hs90 k90
          show WK K 0 0 90 [(0, .ref 130), (1, .int a0), (2, .int s90), (3, .int (nI i90))] [] (eI f (S1_X12_struckHow a0 I J)) (eJ f J) R n g
          have e6 : ¬ ((F_X12_knownMany  (S1_X12_struckHow a0 I J) J) ≤ (nI i90)) := cnt_lt hi90
          refine w_iload_n ok dX12_struckHow_90 3 rfl ?_
          refine w_aload_n ok dX12_struckHow_91 0 rfl ?_
          refine w_cV (As := []) ok dX12_struckHow_92 iX12_knownMany (lX12_530 rfl) (rcv cls12 (congrArg Prod.fst s_130)) (ltM hnn (by decide)) (c_X12_knownMany ro hnn hf  ) (by decide) rfl (Nat.le_of_ble_eq_true rfl) ?_
          show WK K 0 0 95 [(0, .ref 130), (1, .int a0), (2, .int s90), (3, .int (nI i90))] [.int (F_X12_knownMany  (S1_X12_struckHow a0 I J) J), .int (nI i90)] (eI f (S1_X12_struckHow a0 I J)) (eJ f J) R n g
          refine w_icmp_ge (tgt := 134) ok dX12_struckHow_95 (by decide) (fun h => absurd h e6) (fun _ => ?_)
          refine w_aload_n ok dX12_struckHow_98 0 rfl ?_
          refine w_getR ok dX12_struckHow_99 (fX12_163 rfl) (congrArg Prod.fst s_130) rfl (r_130_74 ro) (ltM hnn (by decide)) ?_
          refine w_iload_n ok dX12_struckHow_102 3 rfl ?_
          refine y_zald (q := (nI i90).toNatClampNeg) ok dX12_struckHow_103 s_177 (hp4 c1 i90 s90 hi90 hs90) (by decide) (ltM hnn (by decide)) (sdm hf (by decide)) ?_
          refine w_if_ne (tgt := 128) ok dX12_struckHow_104 (by decide) (fun c7 => ?_) (fun c7 => ?_)
          · skip
            refine w_iinc (v := (nI i90) + 1) ok dX12_struckHow_128 3 rfl rfl (by decide) rfl ?_
            refine w_goto (tgt := 90) ok dX12_struckHow_131 (by decide) ?_
            have eB : B_X12_struckHow_l90 a0 I J i90 s90 = s90 := by
              unfold B_X12_struckHow_l90; exact (if_neg c7).trans (rfl)
            have kk := k90
            rw [eB] at kk
            refine w_loc [1, 2, 3, 0] rfl ?_
            rw [nI_1 i90]
            exact kk
          · skip
            refine w_aload_n ok dX12_struckHow_107 0 rfl ?_
            refine w_getR ok dX12_struckHow_108 (fX12_160 rfl) (congrArg Prod.fst s_130) rfl (r_130_73 ro) (ltM hnn (by decide)) ?_
            refine w_iload_n ok dX12_struckHow_111 3 rfl ?_
            refine y_iald (q := (nI i90).toNatClampNeg) ok dX12_struckHow_112 s_176 (hp5 c1 i90 s90 hi90 hs90 c7) (by decide) (ltM hnn (by decide)) (sdm hf (by decide)) ?_
            refine w_iconst (v := (-1)) ok dX12_struckHow_113 (by decide) ?_
            refine w_icmp_ne (tgt := 128) ok dX12_struckHow_114 (by decide) (fun c8 => ?_) (fun c8 => ?_)
            · skip
              refine w_iinc (v := (nI i90) + 1) ok dX12_struckHow_128 3 rfl rfl (by decide) rfl ?_
              refine w_goto (tgt := 90) ok dX12_struckHow_131 (by decide) ?_
              have eB : B_X12_struckHow_l90 a0 I J i90 s90 = s90 := by
                unfold B_X12_struckHow_l90; exact (if_pos c7).trans ((if_neg c8).trans (rfl))
              have kk := k90
              rw [eB] at kk
              refine w_loc [1, 2, 3, 0] rfl ?_
              rw [nI_1 i90]
              exact kk
            · skip
              refine w_iload_n ok dX12_struckHow_117 2 rfl ?_
              refine w_aload_n ok dX12_struckHow_118 0 rfl ?_
              refine w_getR ok dX12_struckHow_119 (fX12_150 rfl) (congrArg Prod.fst s_130) rfl (r_130_70 ro) (ltM hnn (by decide)) ?_
              refine w_iload_n ok dX12_struckHow_122 3 rfl ?_
              refine y_iald (q := (nI i90).toNatClampNeg) ok dX12_struckHow_123 s_173 (hp6 c1 i90 s90 hi90 hs90 c7 c8) (by decide) (ltM hnn (by decide)) (sdm hf (by decide)) ?_
              refine w_maxI ok dX12_struckHow_124 (iT_9 25 (by decide +kernel) (by decide +kernel)) (Nat.le_of_ble_eq_true rfl) ?_
              refine w_istore_n ok dX12_struckHow_127 rfl (by decide) rfl ?_
              refine w_iinc (v := (nI i90) + 1) ok dX12_struckHow_128 3 rfl rfl (by decide) rfl ?_
              refine w_goto (tgt := 90) ok dX12_struckHow_131 (by decide) ?_
              have eB : B_X12_struckHow_l90 a0 I J i90 s90 = (maxI s90 ((S1_X12_struckHow a0 I J) 173 (nI i90).toNatClampNeg)) := by
                unfold B_X12_struckHow_l90; exact (if_pos c7).trans ((if_pos c8).trans (rfl))
              have kk := k90
              rw [eB] at kk
              refine w_loc [2, 3, 1, 0] rfl ?_
              rw [nI_1 i90]
              exact kk
      · intro n47 s47 hs47 kc47 kx47
        show WK K 0 0 47 [(0, .ref 130), (1, .int a0), (2, .int 0), (3, .int s47.1)] [] (eI f s47.2) (eJ f J) R n g
        refine w_iload_n ok dX12_struckHow_47 3 rfl ?_
        refine w_if_lt (tgt := 88) ok dX12_struckHow_48 (by decide) (fun c9 => ?_) (fun c9 => ?_)
        · skip
          have eB : B_X12_struckHow_w47 a0 I J s47 = .inr (s47.1, s47.2) := by
            unfold B_X12_struckHow_w47; exact (if_pos c9).trans (rfl)
          refine w_loc [0, 1, 2, 3] rfl ?_
          have kk := kx47 _ eB
          exact kk
        · skip
          refine w_aload_n ok dX12_struckHow_51 0 rfl ?_
          refine w_getR ok dX12_struckHow_52 (fX12_163 rfl) (congrArg Prod.fst s_130) rfl (r_130_74 ro) (ltM hnn (by decide)) ?_
          refine w_iload_n ok dX12_struckHow_55 3 rfl ?_
          refine y_zald (q := s47.1.toNatClampNeg) ok dX12_struckHow_56 s_177 (hp7 c1 n47 s47 hs47 c9) (by decide) (ltM hnn (by decide)) (sdm hf (by decide)) ?_
          refine w_if_ne (tgt := 82) ok dX12_struckHow_57 (by decide) (fun c10 => ?_) (fun c10 => ?_)
          · skip
            refine w_iinc (v := s47.1 + (-1)) ok dX12_struckHow_82 3 rfl rfl (by decide) rfl ?_
            refine w_goto (tgt := 47) ok dX12_struckHow_85 (by decide) ?_
            have eB : B_X12_struckHow_w47 a0 I J s47 = .inl ((s47.1 + (-1)), s47.2) := by
              unfold B_X12_struckHow_w47; exact (if_neg c9).trans ((if_neg c10).trans (rfl))
            refine w_loc [1, 2, 3, 0] rfl ?_
            have kk := kc47 _ eB
            exact kk
          · skip
            refine w_aload_n ok dX12_struckHow_60 0 rfl ?_
            refine w_getR ok dX12_struckHow_61 (fX12_160 rfl) (congrArg Prod.fst s_130) rfl (r_130_73 ro) (ltM hnn (by decide)) ?_
            refine w_iload_n ok dX12_struckHow_64 3 rfl ?_
            refine y_iald (q := s47.1.toNatClampNeg) ok dX12_struckHow_65 s_176 (hp8 c1 n47 s47 hs47 c9 c10) (by decide) (ltM hnn (by decide)) (sdm hf (by decide)) ?_
            refine w_iconst (v := (-1)) ok dX12_struckHow_66 (by decide) ?_
            refine w_icmp_eq (tgt := 82) ok dX12_struckHow_67 (by decide) (fun c11 => ?_) (fun c11 => ?_)
            · skip
              refine w_iinc (v := s47.1 + (-1)) ok dX12_struckHow_82 3 rfl rfl (by decide) rfl ?_
              refine w_goto (tgt := 47) ok dX12_struckHow_85 (by decide) ?_
              have eB : B_X12_struckHow_w47 a0 I J s47 = .inl ((s47.1 + (-1)), s47.2) := by
                unfold B_X12_struckHow_w47; exact (if_neg c9).trans ((if_pos c10).trans ((if_pos c11).trans (rfl)))
              refine w_loc [1, 2, 3, 0] rfl ?_
              have kk := kc47 _ eB
              exact kk
            · skip
              refine w_aload_n ok dX12_struckHow_70 0 rfl ?_
              refine w_getR ok dX12_struckHow_71 (fX12_163 rfl) (congrArg Prod.fst s_130) rfl (r_130_74 ro) (ltM hnn (by decide)) ?_
              refine w_aload_n ok dX12_struckHow_74 0 rfl ?_
              refine w_getR ok dX12_struckHow_75 (fX12_160 rfl) (congrArg Prod.fst s_130) rfl (r_130_73 ro) (ltM hnn (by decide)) ?_
              refine w_iload_n ok dX12_struckHow_78 3 rfl ?_
              refine y_iald (q := s47.1.toNatClampNeg) ok dX12_struckHow_79 s_176 (hp9 c1 n47 s47 hs47 c9 c10 c11) (by decide) (ltM hnn (by decide)) (sdm hf (by decide)) ?_
              refine w_iconst (v := 1) ok dX12_struckHow_80 (by decide) ?_
              refine y_zast (q := (s47.2 176 s47.1.toNatClampNeg).toNatClampNeg) ok dX12_struckHow_81 s_177 (hp10 c1 n47 s47 hs47 c9 c10 c11) (by decide) (ltM hnn (by decide)) (sdm hf (by decide)) ?_
              show WK K 0 0 82 [(0, .ref 130), (1, .int a0), (2, .int 0), (3, .int s47.1)] [] (eI f (S8_X12_struckHow a0 I J s47)) (eJ f J) R n g
              refine w_iinc (v := s47.1 + (-1)) ok dX12_struckHow_82 3 rfl rfl (by decide) rfl ?_
              refine w_goto (tgt := 47) ok dX12_struckHow_85 (by decide) ?_
              have eB : B_X12_struckHow_w47 a0 I J s47 = .inl ((s47.1 + (-1)), (S8_X12_struckHow a0 I J s47)) := by
                unfold B_X12_struckHow_w47; exact (if_neg c9).trans ((if_pos c10).trans ((if_neg c11).trans (rfl)))
              refine w_loc [1, 2, 3, 0] rfl ?_
              have kk := kc47 _ eB
              exact kk
    · intro n19 s19 hs19 kc19 kx19
      show WK K 0 0 19 [(0, .ref 130), (1, .int a0), (2, .int 0), (3, .int s19.1)] [] (eI f s19.2) (eJ f J) R n g
      refine w_iload_n ok dX12_struckHow_19 3 rfl ?_
      refine w_aload_n ok dX12_struckHow_20 0 rfl ?_
      refine w_cV (As := []) ok dX12_struckHow_21 iX12_knownMany (lX12_530 rfl) (rcv cls12 (congrArg Prod.fst s_130)) (ltM hnn (by decide)) (c_X12_knownMany ro hnn hf  ) (by decide) rfl (Nat.le_of_ble_eq_true rfl) ?_
      show WK K 0 0 24 [(0, .ref 130), (1, .int a0), (2, .int 0), (3, .int s19.1)] [.int (F_X12_knownMany  s19.2 J), .int s19.1] (eI f s19.2) (eJ f J) R n g
      refine w_icmp_ge (tgt := 40) ok dX12_struckHow_24 (by decide) (fun c12 => ?_) (fun c12 => ?_)
      · skip
        have eB : B_X12_struckHow_w19 a0 I J s19 = .inr (s19.1, s19.2) := by
          unfold B_X12_struckHow_w19; exact (if_pos c12).trans (rfl)
        refine w_loc [0, 1, 2, 3] rfl ?_
        have kk := kx19 _ eB
        exact kk
      · skip
        refine w_aload_n ok dX12_struckHow_27 0 rfl ?_
        refine w_getR ok dX12_struckHow_28 (fX12_163 rfl) (congrArg Prod.fst s_130) rfl (r_130_74 ro) (ltM hnn (by decide)) ?_
        refine w_iload_n ok dX12_struckHow_31 3 rfl ?_
        refine w_iconst (v := 0) ok dX12_struckHow_32 (by decide) ?_
        refine y_zast (q := s19.1.toNatClampNeg) ok dX12_struckHow_33 s_177 (hp11 c1 n19 s19 hs19 c12) (by decide) (ltM hnn (by decide)) (sdm hf (by decide)) ?_
        refine w_iinc (v := s19.1 + 1) ok dX12_struckHow_34 3 rfl rfl (by decide) rfl ?_
        refine w_goto (tgt := 19) ok dX12_struckHow_37 (by decide) ?_
        have eB : B_X12_struckHow_w19 a0 I J s19 = .inl ((s19.1 + 1), (u2 s19.2 177 s19.1.toNatClampNeg (vp_nar .boolean 0))) := by
          unfold B_X12_struckHow_w19; exact (if_neg c12).trans (rfl)
        refine w_loc [1, 2, 3, 0] rfl ?_
        have kk := kc19 _ eB
        exact kk
  · skip
    refine w_iconst (v := (-1)) ok dX12_struckHow_13 (by decide) ?_
    exact w_iret ok fin dX12_struckHow_14 rfl (by unfold F_X12_struckHow FI_X12_struckHow FJ_X12_struckHow; simp only [if_pos c1]; exact Pd.i)
def B_X12_chance_l65 (a0 : Int32) (a1 : Int32) (a2 : Int32) (I : SI) (J : SJ) (i41 : Nat) (s41 : Int32 × Int32 × SI × SJ) (i65 : Nat) (s65 : SI × SJ) : SI × SJ := ((FI_X12_passes 1 1 s65.1 s65.2), (FJ_X12_passes 1 1 s65.1 s65.2))
def F_X12_chance_l65 (a0 : Int32) (a1 : Int32) (a2 : Int32) (I : SI) (J : SJ) (i41 : Nat) (s41 : Int32 × Int32 × SI × SJ) (s0 : SI × SJ) : SI × SJ := itN (B_X12_chance_l65 a0 a1 a2 I J i41 s41) (a1.toNatClampNeg) s0
def S1_X12_chance (a0 : Int32) (a1 : Int32) (a2 : Int32) (I : SI) (J : SJ) (i41 : Nat) (s41 : Int32 × Int32 × SI × SJ) : SI := (F_X12_chance_l65 a0 a1 a2 I J i41 s41 ((u2 (FI_X12_copies 1 0 s41.2.2.1 s41.2.2.2) 155 1 s41.1), s41.2.2.2)).1
def S2_X12_chance (a0 : Int32) (a1 : Int32) (a2 : Int32) (I : SI) (J : SJ) (i41 : Nat) (s41 : Int32 × Int32 × SI × SJ) : SJ := (F_X12_chance_l65 a0 a1 a2 I J i41 s41 ((u2 (FI_X12_copies 1 0 s41.2.2.1 s41.2.2.2) 155 1 s41.1), s41.2.2.2)).2
def S3_X12_chance (a0 : Int32) (a1 : Int32) (a2 : Int32) (I : SI) (J : SJ) (i41 : Nat) (s41 : Int32 × Int32 × SI × SJ) : Int32 := F_X12_clashesAll 1 (S1_X12_chance a0 a1 a2 I J i41 s41) (S2_X12_chance a0 a1 a2 I J i41 s41)
def B_X12_chance_l41 (a0 : Int32) (a1 : Int32) (a2 : Int32) (I : SI) (J : SJ) (i41 : Nat) (s41 : Int32 × Int32 × SI × SJ) : Int32 × Int32 × SI × SJ := if (S3_X12_chance a0 a1 a2 I J i41 s41) < a2 then (((S1_X12_chance a0 a1 a2 I J i41 s41) 155 1), (s41.2.1 + 0), (S1_X12_chance a0 a1 a2 I J i41 s41), (S2_X12_chance a0 a1 a2 I J i41 s41)) else (((S1_X12_chance a0 a1 a2 I J i41 s41) 155 1), (s41.2.1 + 1), (S1_X12_chance a0 a1 a2 I J i41 s41), (S2_X12_chance a0 a1 a2 I J i41 s41))
def F_X12_chance_l41 (a0 : Int32) (a1 : Int32) (a2 : Int32) (I : SI) (J : SJ) (s0 : Int32 × Int32 × SI × SJ) : Int32 × Int32 × SI × SJ := itN (B_X12_chance_l41 a0 a1 a2 I J) (10) s0
def F_X12_chance (a0 : Int32) (a1 : Int32) (a2 : Int32) (I : SI) (J : SJ) : Int32 := if a0 < 0 then -1 else (if a1 < 1 then -1 else (if (99 : Int32) < a1 then -1 else (if a2 < 0 then -1 else (if a2 ≤ 20 then (F_X12_chance_l41 a0 a1 a2 I J (a0, 0, (u2 I 130 0 0), J)).2.1 else -1))))
def FI_X12_chance (a0 : Int32) (a1 : Int32) (a2 : Int32) (I : SI) (J : SJ) : SI := if a0 < 0 then u2 I 130 0 0 else (if a1 < 1 then u2 I 130 0 0 else (if (99 : Int32) < a1 then u2 I 130 0 0 else (if a2 < 0 then u2 I 130 0 0 else (if a2 ≤ 20 then (F_X12_chance_l41 a0 a1 a2 I J (a0, 0, (u2 I 130 0 0), J)).2.2.1 else u2 I 130 0 0))))
def FJ_X12_chance (a0 : Int32) (a1 : Int32) (a2 : Int32) (I : SI) (J : SJ) : SJ := if a0 < 0 then J else (if a1 < 1 then J else (if (99 : Int32) < a1 then J else (if a2 < 0 then J else (if a2 ≤ 20 then (F_X12_chance_l41 a0 a1 a2 I J (a0, 0, (u2 I 130 0 0), J)).2.2.2 else J))))
def H_X12_chance (a0 : Int32) (a1 : Int32) (a2 : Int32) (I : SI) (J : SJ) : Prop := (¬ (a0 < 0) → ¬ (a1 < 1) → ¬ ((99 : Int32) < a1) → ¬ (a2 < 0) → a2 ≤ 20 → ∀ (i41 : Nat) (s41 : Int32 × Int32 × SI × SJ), i41 < 10 → s41 = itN (B_X12_chance_l41 a0 a1 a2 I J) i41 (a0, 0, (u2 I 130 0 0), J) → H_X12_copies 1 0 s41.2.2.1 s41.2.2.2) ∧ (¬ (a0 < 0) → ¬ (a1 < 1) → ¬ ((99 : Int32) < a1) → ¬ (a2 < 0) → a2 ≤ 20 → ∀ (i41 : Nat) (s41 : Int32 × Int32 × SI × SJ), i41 < 10 → s41 = itN (B_X12_chance_l41 a0 a1 a2 I J) i41 (a0, 0, (u2 I 130 0 0), J) → H_X12_clashesAll 1 (S1_X12_chance a0 a1 a2 I J i41 s41) (S2_X12_chance a0 a1 a2 I J i41 s41)) ∧ (¬ (a0 < 0) → ¬ (a1 < 1) → ¬ ((99 : Int32) < a1) → ¬ (a2 < 0) → a2 ≤ 20 → ∀ (i41 : Nat) (s41 : Int32 × Int32 × SI × SJ), i41 < 10 → s41 = itN (B_X12_chance_l41 a0 a1 a2 I J) i41 (a0, 0, (u2 I 130 0 0), J) → ∀ (i65 : Nat) (s65 : SI × SJ), i65 < a1.toNatClampNeg → s65 = itN (B_X12_chance_l65 a0 a1 a2 I J i41 s41) i65 ((u2 (FI_X12_copies 1 0 s41.2.2.1 s41.2.2.2) 155 1 s41.1), s41.2.2.2) → H_X12_passes 1 1 s65.1 s65.2)
set_option maxHeartbeats 1350000 in
set_option maxRecDepth 40000 in
theorem c_X12_chance {I : SI} {J : SJ} {R : SR} {n g : Nat} {f : Fr} (ro : RM R) (hnn : nM ≤ n) (hf : f.1 = false) (a0 : Int32) (a1 : Int32) (a2 : Int32)  (hp : H_X12_chance a0 a1 a2 I J) : MM 7 0 0 mX12_chance [.ref 130, .int a0, .int a1, .int a2] (eI f I) (eJ f J) R n g (Pd (some (.int (F_X12_chance a0 a1 a2 I J))) (eI f (FI_X12_chance a0 a1 a2 I J)) (eJ f (FJ_X12_chance a0 a1 a2 I J)) R n g) := by
  refine MM.of (by decide) (Nat.le_of_ble_eq_true rfl) fun K ok fin => ?_
  show WK K 0 0 0 [(0, .ref 130), (1, .int a0), (2, .int a1), (3, .int a2)] [] (eI f I) (eJ f J) R n g
  obtain ⟨hp1, hp2, hp3⟩ := hp
  refine w_aload_n ok dX12_chance_0 0 rfl ?_
  refine w_iconst (v := 0) ok dX12_chance_1 (by decide) ?_
  refine y_putI ok dX12_chance_2 (fwX12_169 rfl) (congrArg Prod.fst s_130) rfl (ltM hnn (by decide)) (sdm hf (by decide)) ?_
  refine w_iload_n ok dX12_chance_5 1 rfl ?_
  refine w_if_lt (tgt := 30) ok dX12_chance_6 (by decide) (fun c1 => ?_) (fun c1 => ?_)
  · skip
    refine w_iconst (v := (-1)) ok dX12_chance_30 (by decide) ?_
    exact w_iret ok fin dX12_chance_31 rfl (by unfold F_X12_chance FI_X12_chance FJ_X12_chance; simp only [if_pos c1]; exact Pd.i)
  · skip
    refine w_iload_n ok dX12_chance_9 2 rfl ?_
    refine w_iconst (v := 1) ok dX12_chance_10 (by decide) ?_
    refine w_icmp_lt (tgt := 30) ok dX12_chance_11 (by decide) (fun c2 => ?_) (fun c2 => ?_)
    · skip
      refine w_iconst (v := (-1)) ok dX12_chance_30 (by decide) ?_
      exact w_iret ok fin dX12_chance_31 rfl (by unfold F_X12_chance FI_X12_chance FJ_X12_chance; simp only [if_neg c1]; simp only [if_pos c2]; exact Pd.i)
    · skip
      refine w_iload_n ok dX12_chance_14 2 rfl ?_
      refine w_bipush (v := 99) ok dX12_chance_15 (by decide) ?_
      refine w_icmp_gt (tgt := 30) ok dX12_chance_17 (by decide) (fun c3 => ?_) (fun c3 => ?_)
      · skip
        refine w_iconst (v := (-1)) ok dX12_chance_30 (by decide) ?_
        exact w_iret ok fin dX12_chance_31 rfl (by unfold F_X12_chance FI_X12_chance FJ_X12_chance; simp only [if_neg c1]; simp only [if_neg c2]; simp only [if_pos c3]; exact Pd.i)
      · skip
        refine w_iload_n ok dX12_chance_20 3 rfl ?_
        refine w_if_lt (tgt := 30) ok dX12_chance_21 (by decide) (fun c4 => ?_) (fun c4 => ?_)
        · skip
          refine w_iconst (v := (-1)) ok dX12_chance_30 (by decide) ?_
          exact w_iret ok fin dX12_chance_31 rfl (by unfold F_X12_chance FI_X12_chance FJ_X12_chance; simp only [if_neg c1]; simp only [if_neg c2]; simp only [if_neg c3]; simp only [if_pos c4]; exact Pd.i)
        · skip
          refine w_iload_n ok dX12_chance_24 3 rfl ?_
          refine w_bipush (v := 20) ok dX12_chance_25 (by decide) ?_
          refine w_icmp_le (tgt := 32) ok dX12_chance_27 (by decide) (fun c5 => ?_) (fun c5 => ?_)
          · skip
            refine w_iload_n ok dX12_chance_32 1 rfl ?_
            refine w_istore ok dX12_chance_33 (by decide) rfl ?_
            refine w_iconst (v := 0) ok dX12_chance_35 (by decide) ?_
            refine w_istore ok dX12_chance_36 (by decide) rfl ?_
            refine w_iconst (v := 0) ok dX12_chance_38 (by decide) ?_
            refine w_istore ok dX12_chance_39 (by decide) rfl ?_
            refine w_loc [3, 4, 5, 6, 2, 1, 0] rfl ?_
            refine loop_for (σ := Int32 × Int32 × SI × SJ) (fun (i41 : Nat) (s41 : Int32 × Int32 × SI × SJ) => WK K 0 0 41 [(0, .ref 130), (1, .int a0), (2, .int a1), (3, .int a2), (4, .int s41.1), (5, .int s41.2.1), (6, .int (nI i41))] [] (eI f s41.2.2.1) (eJ f s41.2.2.2) R n g) (B_X12_chance_l41 a0 a1 a2 I J) (10) ((a0, 0, (u2 I 130 0 0), J)) ?_ ?_
            · show WK K 0 0 41 [(0, .ref 130), (1, .int a0), (2, .int a1), (3, .int a2), (4, .int ((F_X12_chance_l41 a0 a1 a2 I J (a0, 0, (u2 I 130 0 0), J)).1)), (5, .int ((F_X12_chance_l41 a0 a1 a2 I J (a0, 0, (u2 I 130 0 0), J)).2.1)), (6, .int (nI 10))] [] (eI f ((F_X12_chance_l41 a0 a1 a2 I J (a0, 0, (u2 I 130 0 0), J)).2.2.1)) (eJ f ((F_X12_chance_l41 a0 a1 a2 I J (a0, 0, (u2 I 130 0 0), J)).2.2.2)) R n g
              have e6 : (10 : Int32) ≤ (nI 10) := (show nI 10 ≤ nI 10 from nI_le (by omega) (by decide))
              refine w_iload ok dX12_chance_41 6 rfl ?_
              refine w_bipush (v := 10) ok dX12_chance_43 (by decide) ?_
              refine w_icmp_ge (tgt := 116) ok dX12_chance_45 (by decide) (fun _ => ?_) (fun h => absurd e6 h)
              refine w_iload ok dX12_chance_116 5 rfl ?_
              exact w_iret ok fin dX12_chance_118 rfl (by unfold F_X12_chance FI_X12_chance FJ_X12_chance; simp only [if_neg c1]; simp only [if_neg c2]; simp only [if_neg c3]; simp only [if_neg c4]; simp only [if_pos c5]; exact Pd.i)
            · intro i41 s41 hi41 hs41 k41
              show WK K 0 0 41 [(0, .ref 130), (1, .int a0), (2, .int a1), (3, .int a2), (4, .int s41.1), (5, .int s41.2.1), (6, .int (nI i41))] [] (eI f s41.2.2.1) (eJ f s41.2.2.2) R n g
              have e7 : ¬ ((10 : Int32) ≤ (nI i41)) := (show ¬ (nI 10 ≤ nI i41) from nI_ge (by omega) (by decide))
              refine w_iload ok dX12_chance_41 6 rfl ?_
              refine w_bipush (v := 10) ok dX12_chance_43 (by decide) ?_
              refine w_icmp_ge (tgt := 116) ok dX12_chance_45 (by decide) (fun h => absurd h e7) (fun _ => ?_)
              refine w_aload_n ok dX12_chance_48 0 rfl ?_
              refine w_iconst (v := 1) ok dX12_chance_49 (by decide) ?_
              refine w_iconst (v := 0) ok dX12_chance_50 (by decide) ?_
              refine w_cV (As := [.int 1, .int 0]) ok dX12_chance_51 iX12_copies (lX12_444 rfl) (rcv cls12 (congrArg Prod.fst s_130)) (ltM hnn (by decide)) (c_X12_copies ro hnn hf 1 0  (hp1 c1 c2 c3 c4 c5 i41 s41 hi41 hs41)) (by decide) rfl (Nat.le_of_ble_eq_true rfl) ?_
              refine w_aload_n ok dX12_chance_54 0 rfl ?_
              refine w_getR ok dX12_chance_55 (fX12_87 rfl) (congrArg Prod.fst s_130) rfl (r_130_40 ro) (ltM hnn (by decide)) ?_
              refine w_iconst (v := 1) ok dX12_chance_58 (by decide) ?_
              refine w_iload ok dX12_chance_59 4 rfl ?_
              refine y_iast (q := 1) ok dX12_chance_61 s_155 (by decide) (by decide) (ltM hnn (by decide)) (sdm hf (by decide)) ?_
              refine w_iconst (v := 0) ok dX12_chance_62 (by decide) ?_
              refine w_istore ok dX12_chance_63 (by decide) rfl ?_
              refine w_loc [1, 2, 3, 4, 5, 6, 7, 0] rfl ?_
              refine loop_for (σ := SI × SJ) (fun (i65 : Nat) (s65 : SI × SJ) => WK K 0 0 65 [(0, .ref 130), (1, .int a0), (2, .int a1), (3, .int a2), (4, .int s41.1), (5, .int s41.2.1), (6, .int (nI i41)), (7, .int (nI i65))] [] (eI f s65.1) (eJ f s65.2) R n g) (B_X12_chance_l65 a0 a1 a2 I J i41 s41) (a1.toNatClampNeg) (((u2 (FI_X12_copies 1 0 s41.2.2.1 s41.2.2.2) 155 1 s41.1), s41.2.2.2)) ?_ ?_
              · show WK K 0 0 65 [(0, .ref 130), (1, .int a0), (2, .int a1), (3, .int a2), (4, .int s41.1), (5, .int s41.2.1), (6, .int (nI i41)), (7, .int (nI a1.toNatClampNeg))] [] (eI f ((F_X12_chance_l65 a0 a1 a2 I J i41 s41 ((u2 (FI_X12_copies 1 0 s41.2.2.1 s41.2.2.2) 155 1 s41.1), s41.2.2.2)).1)) (eJ f ((F_X12_chance_l65 a0 a1 a2 I J i41 s41 ((u2 (FI_X12_copies 1 0 s41.2.2.1 s41.2.2.2) 155 1 s41.1), s41.2.2.2)).2)) R n g
                have e8 : a1 ≤ (nI a1.toNatClampNeg) := cnt_ge _
                refine w_iload ok dX12_chance_65 7 rfl ?_
                show WK K 0 0 67 [(0, .ref 130), (1, .int a0), (2, .int a1), (3, .int a2), (4, .int s41.1), (5, .int s41.2.1), (6, .int (nI i41)), (7, .int (nI a1.toNatClampNeg))] [.int (nI a1.toNatClampNeg)] (eI f (S1_X12_chance a0 a1 a2 I J i41 s41)) (eJ f (S2_X12_chance a0 a1 a2 I J i41 s41)) R n g
                refine w_iload_n ok dX12_chance_67 2 rfl ?_
                refine w_icmp_ge (tgt := 83) ok dX12_chance_68 (by decide) (fun _ => ?_) (fun h => absurd e8 h)
                refine w_aload_n ok dX12_chance_83 0 rfl ?_
                refine w_getR ok dX12_chance_84 (fX12_87 rfl) (congrArg Prod.fst s_130) rfl (r_130_40 ro) (ltM hnn (by decide)) ?_
                refine w_iconst (v := 1) ok dX12_chance_87 (by decide) ?_
                refine y_iald (q := 1) ok dX12_chance_88 s_155 (by decide) (by decide) (ltM hnn (by decide)) (sdm hf (by decide)) ?_
                refine w_istore ok dX12_chance_89 (by decide) rfl ?_
                refine w_iload ok dX12_chance_91 5 rfl ?_
                refine w_aload_n ok dX12_chance_93 1 rfl ?_
                refine w_iconst (v := 1) ok dX12_chance_94 (by decide) ?_
                refine w_cV (As := [.int 1]) ok dX12_chance_95 iX12_clashesAll (lX12_473 rfl) (rcv cls12 (congrArg Prod.fst s_130)) (ltM hnn (by decide)) (c_X12_clashesAll ro hnn hf 1  (hp2 c1 c2 c3 c4 c5 i41 s41 hi41 hs41)) (by decide) rfl (Nat.le_of_ble_eq_true rfl) ?_
                show WK K 0 0 98 [(4, .int ((S1_X12_chance a0 a1 a2 I J i41 s41) 155 1)), (0, .ref 130), (1, .int a0), (2, .int a1), (3, .int a2), (5, .int s41.2.1), (6, .int (nI i41)), (7, .int (nI a1.toNatClampNeg))] [.int (S3_X12_chance a0 a1 a2 I J i41 s41), .int s41.2.1] (eI f (S1_X12_chance a0 a1 a2 I J i41 s41)) (eJ f (S2_X12_chance a0 a1 a2 I J i41 s41)) R n g
                refine w_iload_n ok dX12_chance_98 4 rfl ?_
                refine w_icmp_lt (tgt := 106) ok dX12_chance_99 (by decide) (fun c9 => ?_) (fun c9 => ?_)
                · skip
                  refine w_iconst (v := 0) ok dX12_chance_106 (by decide) ?_
                  refine w_iadd ok dX12_chance_107 ?_
                  refine w_istore ok dX12_chance_108 (by decide) rfl ?_
                  refine w_iinc (v := (nI i41) + 1) ok dX12_chance_110 6 rfl rfl (by decide) rfl ?_
                  refine w_goto (tgt := 41) ok dX12_chance_113 (by decide) ?_
                  have eB : B_X12_chance_l41 a0 a1 a2 I J i41 s41 = (((S1_X12_chance a0 a1 a2 I J i41 s41) 155 1), (s41.2.1 + 0), (S1_X12_chance a0 a1 a2 I J i41 s41), (S2_X12_chance a0 a1 a2 I J i41 s41)) := by
                    unfold B_X12_chance_l41; exact (if_pos c9).trans (rfl)
                  have kk := k41
                  rw [eB] at kk
                  refine w_loc [3, 4, 5, 6, 2, 1, 0] rfl ?_
                  rw [nI_1 i41]
                  exact kk
                · skip
                  refine w_iconst (v := 1) ok dX12_chance_102 (by decide) ?_
                  refine w_goto (tgt := 107) ok dX12_chance_103 (by decide) ?_
                  refine w_iadd ok dX12_chance_107 ?_
                  refine w_istore ok dX12_chance_108 (by decide) rfl ?_
                  refine w_iinc (v := (nI i41) + 1) ok dX12_chance_110 6 rfl rfl (by decide) rfl ?_
                  refine w_goto (tgt := 41) ok dX12_chance_113 (by decide) ?_
                  have eB : B_X12_chance_l41 a0 a1 a2 I J i41 s41 = (((S1_X12_chance a0 a1 a2 I J i41 s41) 155 1), (s41.2.1 + 1), (S1_X12_chance a0 a1 a2 I J i41 s41), (S2_X12_chance a0 a1 a2 I J i41 s41)) := by
                    unfold B_X12_chance_l41; exact (if_neg c9).trans (rfl)
                  have kk := k41
                  rw [eB] at kk
                  refine w_loc [3, 4, 5, 6, 2, 1, 0] rfl ?_
                  rw [nI_1 i41]
                  exact kk
              · intro i65 s65 hi65 hs65 k65
                show WK K 0 0 65 [(0, .ref 130), (1, .int a0), (2, .int a1), (3, .int a2), (4, .int s41.1), (5, .int s41.2.1), (6, .int (nI i41)), (7, .int (nI i65))] [] (eI f s65.1) (eJ f s65.2) R n g
                have e10 : ¬ (a1 ≤ (nI i65)) := cnt_lt hi65
                refine w_iload ok dX12_chance_65 7 rfl ?_
                refine w_iload_n ok dX12_chance_67 2 rfl ?_
                refine w_icmp_ge (tgt := 83) ok dX12_chance_68 (by decide) (fun h => absurd h e10) (fun _ => ?_)
                refine w_aload_n ok dX12_chance_71 0 rfl ?_
                refine w_iconst (v := 1) ok dX12_chance_72 (by decide) ?_
                refine w_iconst (v := 1) ok dX12_chance_73 (by decide) ?_
                refine w_cV (As := [.int 1, .int 1]) ok dX12_chance_74 iX12_passes (lX12_440 rfl) (rcv cls12 (congrArg Prod.fst s_130)) (ltM hnn (by decide)) (c_X12_passes ro hnn hf 1 1  (hp3 c1 c2 c3 c4 c5 i41 s41 hi41 hs41 i65 s65 hi65 hs65)) (by decide) rfl (Nat.le_of_ble_eq_true rfl) ?_
                refine w_iinc (v := (nI i65) + 1) ok dX12_chance_77 7 rfl rfl (by decide) rfl ?_
                refine w_goto (tgt := 65) ok dX12_chance_80 (by decide) ?_
                have eB : B_X12_chance_l65 a0 a1 a2 I J i41 s41 i65 s65 = ((FI_X12_passes 1 1 s65.1 s65.2), (FJ_X12_passes 1 1 s65.1 s65.2)) := by
                  unfold B_X12_chance_l65; exact rfl
                have kk := k65
                rw [eB] at kk
                refine w_loc [1, 2, 3, 4, 5, 6, 7, 0] rfl ?_
                rw [nI_1 i65]
                exact kk
          · skip
            refine w_iconst (v := (-1)) ok dX12_chance_30 (by decide) ?_
            exact w_iret ok fin dX12_chance_31 rfl (by unfold F_X12_chance FI_X12_chance FJ_X12_chance; simp only [if_neg c1]; simp only [if_neg c2]; simp only [if_neg c3]; simp only [if_neg c4]; simp only [if_neg c5]; exact Pd.i)
def T_X12_tried_j36 (a0 : Int32) (a1 : Int32) (a2 : Int32) (I : SI) (J : SJ) : Int32 := if a0 = 2 then (F_X12_isParty a1 (u2 I 130 0 0) J) else (if a0 < 0 then 0 else (if (5 : Int32) < a0 then 0 else (if a1 = 0 then 1 else 0)))
def S1_X12_tried (a0 : Int32) (a1 : Int32) (a2 : Int32) (I : SI) (J : SJ) : SI := u2 (FI_X12_runs a2 (u2 (u2 (u2 I 130 0 0) 130 55 a0) 130 56 a1) J) 130 55 0
def S2_X12_tried (a0 : Int32) (a1 : Int32) (a2 : Int32) (I : SI) (J : SJ) : Int32 := F_X12_clashesAll 1 (u2 (S1_X12_tried a0 a1 a2 I J) 130 56 (-1)) (FJ_X12_runs a2 (u2 (u2 (u2 I 130 0 0) 130 55 a0) 130 56 a1) J)
def F_X12_tried (a0 : Int32) (a1 : Int32) (a2 : Int32) (I : SI) (J : SJ) : Int32 := if (T_X12_tried_j36 a0 a1 a2 I J) = 0 then -1 else (if a2 < 0 then -1 else (if a2 ≤ 99 then (S2_X12_tried a0 a1 a2 I J) else -1))
def FI_X12_tried (a0 : Int32) (a1 : Int32) (a2 : Int32) (I : SI) (J : SJ) : SI := if (T_X12_tried_j36 a0 a1 a2 I J) = 0 then u2 I 130 0 0 else (if a2 < 0 then u2 I 130 0 0 else (if a2 ≤ 99 then u2 (S1_X12_tried a0 a1 a2 I J) 130 56 (-1) else u2 I 130 0 0))
def FJ_X12_tried (a0 : Int32) (a1 : Int32) (a2 : Int32) (I : SI) (J : SJ) : SJ := if (T_X12_tried_j36 a0 a1 a2 I J) = 0 then J else (if a2 < 0 then J else (if a2 ≤ 99 then FJ_X12_runs a2 (u2 (u2 (u2 I 130 0 0) 130 55 a0) 130 56 a1) J else J))
def H_X12_tried (a0 : Int32) (a1 : Int32) (a2 : Int32) (I : SI) (J : SJ) : Prop := (¬ ((T_X12_tried_j36 a0 a1 a2 I J) = 0) → ¬ (a2 < 0) → a2 ≤ 99 → H_X12_runs a2 (u2 (u2 (u2 I 130 0 0) 130 55 a0) 130 56 a1) J) ∧ (¬ ((T_X12_tried_j36 a0 a1 a2 I J) = 0) → ¬ (a2 < 0) → a2 ≤ 99 → H_X12_clashesAll 1 (u2 (S1_X12_tried a0 a1 a2 I J) 130 56 (-1)) (FJ_X12_runs a2 (u2 (u2 (u2 I 130 0 0) 130 55 a0) 130 56 a1) J))
set_option maxHeartbeats 1030000 in
set_option maxRecDepth 40000 in
theorem c_X12_tried {I : SI} {J : SJ} {R : SR} {n g : Nat} {f : Fr} (ro : RM R) (hnn : nM ≤ n) (hf : f.1 = false) (a0 : Int32) (a1 : Int32) (a2 : Int32)  (hp : H_X12_tried a0 a1 a2 I J) : MM 9 0 0 mX12_tried [.ref 130, .int a0, .int a1, .int a2] (eI f I) (eJ f J) R n g (Pd (some (.int (F_X12_tried a0 a1 a2 I J))) (eI f (FI_X12_tried a0 a1 a2 I J)) (eJ f (FJ_X12_tried a0 a1 a2 I J)) R n g) := by
  refine MM.of (by decide) (Nat.le_of_ble_eq_true rfl) fun K ok fin => ?_
  show WK K 0 0 0 [(0, .ref 130), (1, .int a0), (2, .int a1), (3, .int a2)] [] (eI f I) (eJ f J) R n g
  obtain ⟨hp1, hp2⟩ := hp
  refine w_aload_n ok dX12_tried_0 0 rfl ?_
  refine w_iconst (v := 0) ok dX12_tried_1 (by decide) ?_
  refine y_putI ok dX12_tried_2 (fwX12_169 rfl) (congrArg Prod.fst s_130) rfl (ltM hnn (by decide)) (sdm hf (by decide)) ?_
  refine w_iload_n ok dX12_tried_5 1 rfl ?_
  refine w_iconst (v := 2) ok dX12_tried_6 (by decide) ?_
  have jn1 : WK K 0 0 36 [(0, .ref 130), (1, .int a0), (2, .int a1), (3, .int a2)] [.int (T_X12_tried_j36 a0 a1 a2 I J)] (eI f (u2 I 130 0 0)) (eJ f J) R n g := by
    refine w_istore ok dX12_tried_36 (by decide) rfl ?_
    refine w_iload ok dX12_tried_38 0 rfl ?_
    refine w_if_eq (tgt := 53) ok dX12_tried_40 (by decide) (fun c2 => ?_) (fun c2 => ?_)
    · skip
      refine w_iconst (v := (-1)) ok dX12_tried_53 (by decide) ?_
      exact w_iret ok fin dX12_tried_54 rfl (by unfold F_X12_tried FI_X12_tried FJ_X12_tried; simp only [if_pos c2]; exact Pd.i)
    · skip
      refine w_iload_n ok dX12_tried_43 4 rfl ?_
      refine w_if_lt (tgt := 53) ok dX12_tried_44 (by decide) (fun c3 => ?_) (fun c3 => ?_)
      · skip
        refine w_iconst (v := (-1)) ok dX12_tried_53 (by decide) ?_
        exact w_iret ok fin dX12_tried_54 rfl (by unfold F_X12_tried FI_X12_tried FJ_X12_tried; simp only [if_neg c2]; simp only [if_pos c3]; exact Pd.i)
      · skip
        refine w_iload_n ok dX12_tried_47 4 rfl ?_
        refine w_bipush (v := 99) ok dX12_tried_48 (by decide) ?_
        refine w_icmp_le (tgt := 55) ok dX12_tried_50 (by decide) (fun c4 => ?_) (fun c4 => ?_)
        · skip
          refine w_aload_n ok dX12_tried_55 1 rfl ?_
          refine w_iload_n ok dX12_tried_56 2 rfl ?_
          refine y_putI ok dX12_tried_57 (fwX12_361 rfl) (congrArg Prod.fst s_130) rfl (ltM hnn (by decide)) (sdm hf (by decide)) ?_
          refine w_aload_n ok dX12_tried_60 1 rfl ?_
          refine w_iload_n ok dX12_tried_61 3 rfl ?_
          refine y_putI ok dX12_tried_62 (fwX12_126 rfl) (congrArg Prod.fst s_130) rfl (ltM hnn (by decide)) (sdm hf (by decide)) ?_
          refine w_aload_n ok dX12_tried_65 1 rfl ?_
          refine w_iload_n ok dX12_tried_66 4 rfl ?_
          refine w_cV (As := [.int a2]) ok dX12_tried_67 iX12_runs (lX12_466 rfl) (rcv cls12 (congrArg Prod.fst s_130)) (ltM hnn (by decide)) (c_X12_runs ro hnn hf a2  (hp1 c2 c3 c4)) (by decide) rfl (Nat.le_of_ble_eq_true rfl) ?_
          refine w_aload_n ok dX12_tried_70 1 rfl ?_
          refine w_iconst (v := 0) ok dX12_tried_71 (by decide) ?_
          refine y_putI ok dX12_tried_72 (fwX12_361 rfl) (congrArg Prod.fst s_130) rfl (ltM hnn (by decide)) (sdm hf (by decide)) ?_
          show WK K 0 0 75 [(4, .int (T_X12_tried_j36 a0 a1 a2 I J)), (0, .ref 130), (1, .int a0), (2, .int a1), (3, .int a2)] [] (eI f (S1_X12_tried a0 a1 a2 I J)) (eJ f (FJ_X12_runs a2 (u2 (u2 (u2 I 130 0 0) 130 55 a0) 130 56 a1) J)) R n g
          refine w_aload_n ok dX12_tried_75 1 rfl ?_
          refine w_iconst (v := (-1)) ok dX12_tried_76 (by decide) ?_
          refine y_putI ok dX12_tried_77 (fwX12_126 rfl) (congrArg Prod.fst s_130) rfl (ltM hnn (by decide)) (sdm hf (by decide)) ?_
          refine w_aload_n ok dX12_tried_80 1 rfl ?_
          refine w_iconst (v := 1) ok dX12_tried_81 (by decide) ?_
          refine w_cV (As := [.int 1]) ok dX12_tried_82 iX12_clashesAll (lX12_473 rfl) (rcv cls12 (congrArg Prod.fst s_130)) (ltM hnn (by decide)) (c_X12_clashesAll ro hnn hf 1  (hp2 c2 c3 c4)) (by decide) rfl (Nat.le_of_ble_eq_true rfl) ?_
          show WK K 0 0 85 [(4, .int (T_X12_tried_j36 a0 a1 a2 I J)), (0, .ref 130), (1, .int a0), (2, .int a1), (3, .int a2)] [.int (S2_X12_tried a0 a1 a2 I J)] (eI f (u2 (S1_X12_tried a0 a1 a2 I J) 130 56 (-1))) (eJ f (FJ_X12_runs a2 (u2 (u2 (u2 I 130 0 0) 130 55 a0) 130 56 a1) J)) R n g
          exact w_iret ok fin dX12_tried_85 rfl (by unfold F_X12_tried FI_X12_tried FJ_X12_tried; simp only [if_neg c2]; simp only [if_neg c3]; simp only [if_pos c4]; exact Pd.i)
        · skip
          refine w_iconst (v := (-1)) ok dX12_tried_53 (by decide) ?_
          exact w_iret ok fin dX12_tried_54 rfl (by unfold F_X12_tried FI_X12_tried FJ_X12_tried; simp only [if_neg c2]; simp only [if_neg c3]; simp only [if_neg c4]; exact Pd.i)
  refine w_icmp_ne (tgt := 18) ok dX12_tried_7 (by decide) (fun c5 => ?_) (fun c5 => ?_)
  · skip
    refine w_iload_n ok dX12_tried_18 1 rfl ?_
    refine w_if_lt (tgt := 35) ok dX12_tried_19 (by decide) (fun c6 => ?_) (fun c6 => ?_)
    · skip
      refine w_iconst (v := 0) ok dX12_tried_35 (by decide) ?_
      have eT : (T_X12_tried_j36 a0 a1 a2 I J) = 0 := by
        unfold T_X12_tried_j36; exact (if_neg c5).trans ((if_pos c6).trans (rfl))
      refine w_loc [0, 1, 2, 3] rfl ?_
      have jj := jn1
      rw [eT] at jj
      exact jj
    · skip
      refine w_iload_n ok dX12_tried_22 1 rfl ?_
      refine w_iconst (v := 5) ok dX12_tried_23 (by decide) ?_
      refine w_icmp_gt (tgt := 35) ok dX12_tried_24 (by decide) (fun c7 => ?_) (fun c7 => ?_)
      · skip
        refine w_iconst (v := 0) ok dX12_tried_35 (by decide) ?_
        have eT : (T_X12_tried_j36 a0 a1 a2 I J) = 0 := by
          unfold T_X12_tried_j36; exact (if_neg c5).trans ((if_neg c6).trans ((if_pos c7).trans (rfl)))
        refine w_loc [0, 1, 2, 3] rfl ?_
        have jj := jn1
        rw [eT] at jj
        exact jj
      · skip
        refine w_iload_n ok dX12_tried_27 2 rfl ?_
        refine w_if_ne (tgt := 35) ok dX12_tried_28 (by decide) (fun c8 => ?_) (fun c8 => ?_)
        · skip
          refine w_iconst (v := 0) ok dX12_tried_35 (by decide) ?_
          have eT : (T_X12_tried_j36 a0 a1 a2 I J) = 0 := by
            unfold T_X12_tried_j36; exact (if_neg c5).trans ((if_neg c6).trans ((if_neg c7).trans ((if_neg c8).trans (rfl))))
          refine w_loc [0, 1, 2, 3] rfl ?_
          have jj := jn1
          rw [eT] at jj
          exact jj
        · skip
          refine w_iconst (v := 1) ok dX12_tried_31 (by decide) ?_
          refine w_goto (tgt := 36) ok dX12_tried_32 (by decide) ?_
          have eT : (T_X12_tried_j36 a0 a1 a2 I J) = 1 := by
            unfold T_X12_tried_j36; exact (if_neg c5).trans ((if_neg c6).trans ((if_neg c7).trans ((if_pos c8).trans (rfl))))
          refine w_loc [0, 1, 2, 3] rfl ?_
          have jj := jn1
          rw [eT] at jj
          exact jj
  · skip
    refine w_aload_n ok dX12_tried_10 0 rfl ?_
    refine w_iload_n ok dX12_tried_11 2 rfl ?_
    refine w_cV (As := [.int a1]) ok dX12_tried_12 iX12_isParty (lX12_456 rfl) (rcv cls12 (congrArg Prod.fst s_130)) (ltM hnn (by decide)) (c_X12_isParty ro hnn hf a1 ) (by decide) rfl (Nat.le_of_ble_eq_true rfl) ?_
    refine w_goto (tgt := 36) ok dX12_tried_15 (by decide) ?_
    have eT : (T_X12_tried_j36 a0 a1 a2 I J) = (F_X12_isParty a1 (u2 I 130 0 0) J) := by
      unfold T_X12_tried_j36; exact (if_pos c5).trans (rfl)
    refine w_loc [0, 1, 2, 3] rfl ?_
    have jj := jn1
    rw [eT] at jj
    exact jj
def S1_X12_undo (I : SI) (J : SJ) : SI := FI_X12_copies 0 ((3 : Int32) + ((u2 (u2 I 130 0 0) 130 54 (((u2 I 130 0 0) 130 54) - 1)) 130 54)) (u2 (u2 I 130 0 0) 130 54 (((u2 I 130 0 0) 130 54) - 1)) J
def F_X12_undo  (I : SI) (J : SJ) : Int32 := if ((u2 I 130 0 0) 130 54) = 0 then -1 else ((S1_X12_undo I J)) 130 54
def FI_X12_undo  (I : SI) (J : SJ) : SI := if ((u2 I 130 0 0) 130 54) = 0 then u2 I 130 0 0 else (S1_X12_undo I J)
def H_X12_undo  (I : SI) (J : SJ) : Prop := (¬ (((u2 I 130 0 0) 130 54) = 0) → H_X12_copies 0 ((3 : Int32) + ((u2 (u2 I 130 0 0) 130 54 (((u2 I 130 0 0) 130 54) - 1)) 130 54)) (u2 (u2 I 130 0 0) 130 54 (((u2 I 130 0 0) 130 54) - 1)) J)
set_option maxHeartbeats 1000000 in
set_option maxRecDepth 40000 in
theorem c_X12_undo {I : SI} {J : SJ} {R : SR} {n g : Nat} {f : Fr} (ro : RM R) (hnn : nM ≤ n) (hf : f.1 = false)   (hp : H_X12_undo  I J) : MM 1 0 0 mX12_undo [.ref 130] (eI f I) (eJ f J) R n g (Pd (some (.int (F_X12_undo  I J))) (eI f (FI_X12_undo  I J)) (eJ f J) R n g) := by
  refine MM.of (by decide) (Nat.le_of_ble_eq_true rfl) fun K ok fin => ?_
  show WK K 0 0 0 [(0, .ref 130)] [] (eI f I) (eJ f J) R n g
  have hp1 := hp
  refine w_aload_n ok dX12_undo_0 0 rfl ?_
  refine w_iconst (v := 0) ok dX12_undo_1 (by decide) ?_
  refine y_putI ok dX12_undo_2 (fwX12_169 rfl) (congrArg Prod.fst s_130) rfl (ltM hnn (by decide)) (sdm hf (by decide)) ?_
  refine w_aload_n ok dX12_undo_5 0 rfl ?_
  refine y_getI ok dX12_undo_6 (fX12_335 rfl) (congrArg Prod.fst s_130) rfl (ltM hnn (by decide)) (sdm hf (by decide)) ?_
  refine w_if_ne (tgt := 14) ok dX12_undo_9 (by decide) (fun c1 => ?_) (fun c1 => ?_)
  · skip
    refine w_aload_n ok dX12_undo_14 0 rfl ?_
    refine w_dup ok dX12_undo_15 rfl ?_
    refine y_getI ok dX12_undo_16 (fX12_335 rfl) (congrArg Prod.fst s_130) rfl (ltM hnn (by decide)) (sdm hf (by decide)) ?_
    refine w_iconst (v := 1) ok dX12_undo_19 (by decide) ?_
    refine w_isub ok dX12_undo_20 ?_
    refine y_putI ok dX12_undo_21 (fwX12_335 rfl) (congrArg Prod.fst s_130) rfl (ltM hnn (by decide)) (sdm hf (by decide)) ?_
    refine w_aload_n ok dX12_undo_24 0 rfl ?_
    refine w_iconst (v := 0) ok dX12_undo_25 (by decide) ?_
    refine w_iconst (v := 3) ok dX12_undo_26 (by decide) ?_
    refine w_aload_n ok dX12_undo_27 0 rfl ?_
    refine y_getI ok dX12_undo_28 (fX12_335 rfl) (congrArg Prod.fst s_130) rfl (ltM hnn (by decide)) (sdm hf (by decide)) ?_
    refine w_iadd ok dX12_undo_31 ?_
    refine w_cV (As := [.int 0, .int ((3 : Int32) + ((u2 (u2 I 130 0 0) 130 54 (((u2 I 130 0 0) 130 54) - 1)) 130 54))]) ok dX12_undo_32 iX12_copies (lX12_444 rfl) (rcv cls12 (congrArg Prod.fst s_130)) (ltM hnn (by decide)) (c_X12_copies ro hnn hf 0 ((3 : Int32) + ((u2 (u2 I 130 0 0) 130 54 (((u2 I 130 0 0) 130 54) - 1)) 130 54))  (hp1 c1)) (by decide) rfl (Nat.le_of_ble_eq_true rfl) ?_
    show WK K 0 0 35 [(0, .ref 130)] [] (eI f (S1_X12_undo I J)) (eJ f J) R n g
    refine w_aload_n ok dX12_undo_35 0 rfl ?_
    refine y_getI ok dX12_undo_36 (fX12_335 rfl) (congrArg Prod.fst s_130) rfl (ltM hnn (by decide)) (sdm hf (by decide)) ?_
    exact w_iret ok fin dX12_undo_39 rfl (by unfold F_X12_undo FI_X12_undo; simp only [if_neg c1]; exact Pd.i)
  · skip
    refine w_iconst (v := (-1)) ok dX12_undo_12 (by decide) ?_
    exact w_iret ok fin dX12_undo_13 rfl (by unfold F_X12_undo FI_X12_undo; simp only [if_pos c1]; exact Pd.i)
def F_X12_keep  (I : SI) (J : SJ) : Int32 := (u2 (FI_X12_copies 2 0 (u2 I 130 0 0) J) 130 53 1) 154 0
def FI_X12_keep  (I : SI) (J : SJ) : SI := u2 (FI_X12_copies 2 0 (u2 I 130 0 0) J) 130 53 1
def H_X12_keep  (I : SI) (J : SJ) : Prop := (H_X12_copies 2 0 (u2 I 130 0 0) J)
set_option maxHeartbeats 1000000 in
set_option maxRecDepth 40000 in
theorem c_X12_keep {I : SI} {J : SJ} {R : SR} {n g : Nat} {f : Fr} (ro : RM R) (hnn : nM ≤ n) (hf : f.1 = false)   (hp : H_X12_keep  I J) : MM 1 0 0 mX12_keep [.ref 130] (eI f I) (eJ f J) R n g (Pd (some (.int (F_X12_keep  I J))) (eI f (FI_X12_keep  I J)) (eJ f J) R n g) := by
  refine MM.of (by decide) (Nat.le_of_ble_eq_true rfl) fun K ok fin => ?_
  show WK K 0 0 0 [(0, .ref 130)] [] (eI f I) (eJ f J) R n g
  have hp1 := hp
  refine w_aload_n ok dX12_keep_0 0 rfl ?_
  refine w_iconst (v := 0) ok dX12_keep_1 (by decide) ?_
  refine y_putI ok dX12_keep_2 (fwX12_169 rfl) (congrArg Prod.fst s_130) rfl (ltM hnn (by decide)) (sdm hf (by decide)) ?_
  refine w_aload_n ok dX12_keep_5 0 rfl ?_
  refine w_iconst (v := 2) ok dX12_keep_6 (by decide) ?_
  refine w_iconst (v := 0) ok dX12_keep_7 (by decide) ?_
  refine w_cV (As := [.int 2, .int 0]) ok dX12_keep_8 iX12_copies (lX12_444 rfl) (rcv cls12 (congrArg Prod.fst s_130)) (ltM hnn (by decide)) (c_X12_copies ro hnn hf 2 0  (hp1)) (by decide) rfl (Nat.le_of_ble_eq_true rfl) ?_
  refine w_aload_n ok dX12_keep_11 0 rfl ?_
  refine w_iconst (v := 1) ok dX12_keep_12 (by decide) ?_
  refine y_putZ ok dX12_keep_13 (fwX12_331 rfl) (congrArg Prod.fst s_130) rfl (by decide) (ltM hnn (by decide)) (sdm hf (by decide)) ?_
  refine w_aload_n ok dX12_keep_16 0 rfl ?_
  refine w_getR ok dX12_keep_17 (fX12_84 rfl) (congrArg Prod.fst s_130) rfl (r_130_39 ro) (ltM hnn (by decide)) ?_
  refine w_iconst (v := 0) ok dX12_keep_20 (by decide) ?_
  refine y_iald (q := 0) ok dX12_keep_21 s_154 (by decide) (by decide) (ltM hnn (by decide)) (sdm hf (by decide)) ?_
  exact w_iret ok fin dX12_keep_22 rfl (by unfold F_X12_keep FI_X12_keep; exact Pd.i)
def F_X12_back  (I : SI) (J : SJ) : Int32 := if ((u2 I 130 0 0) 130 53) = 0 then -1 else (u2 (FI_X12_copies 0 2 (u2 I 130 0 0) J) 130 54 0) 154 0
def FI_X12_back  (I : SI) (J : SJ) : SI := if ((u2 I 130 0 0) 130 53) = 0 then u2 I 130 0 0 else u2 (FI_X12_copies 0 2 (u2 I 130 0 0) J) 130 54 0
def H_X12_back  (I : SI) (J : SJ) : Prop := (¬ (((u2 I 130 0 0) 130 53) = 0) → H_X12_copies 0 2 (u2 I 130 0 0) J)
set_option maxHeartbeats 1000000 in
set_option maxRecDepth 40000 in
theorem c_X12_back {I : SI} {J : SJ} {R : SR} {n g : Nat} {f : Fr} (ro : RM R) (hnn : nM ≤ n) (hf : f.1 = false)   (hp : H_X12_back  I J) : MM 1 0 0 mX12_back [.ref 130] (eI f I) (eJ f J) R n g (Pd (some (.int (F_X12_back  I J))) (eI f (FI_X12_back  I J)) (eJ f J) R n g) := by
  refine MM.of (by decide) (Nat.le_of_ble_eq_true rfl) fun K ok fin => ?_
  show WK K 0 0 0 [(0, .ref 130)] [] (eI f I) (eJ f J) R n g
  have hp1 := hp
  refine w_aload_n ok dX12_back_0 0 rfl ?_
  refine w_iconst (v := 0) ok dX12_back_1 (by decide) ?_
  refine y_putI ok dX12_back_2 (fwX12_169 rfl) (congrArg Prod.fst s_130) rfl (ltM hnn (by decide)) (sdm hf (by decide)) ?_
  refine w_aload_n ok dX12_back_5 0 rfl ?_
  refine y_getI ok dX12_back_6 (fX12_331 rfl) (congrArg Prod.fst s_130) rfl (ltM hnn (by decide)) (sdm hf (by decide)) ?_
  refine w_if_ne (tgt := 14) ok dX12_back_9 (by decide) (fun c1 => ?_) (fun c1 => ?_)
  · skip
    refine w_aload_n ok dX12_back_14 0 rfl ?_
    refine w_iconst (v := 0) ok dX12_back_15 (by decide) ?_
    refine w_iconst (v := 2) ok dX12_back_16 (by decide) ?_
    refine w_cV (As := [.int 0, .int 2]) ok dX12_back_17 iX12_copies (lX12_444 rfl) (rcv cls12 (congrArg Prod.fst s_130)) (ltM hnn (by decide)) (c_X12_copies ro hnn hf 0 2  (hp1 c1)) (by decide) rfl (Nat.le_of_ble_eq_true rfl) ?_
    refine w_aload_n ok dX12_back_20 0 rfl ?_
    refine w_iconst (v := 0) ok dX12_back_21 (by decide) ?_
    refine y_putI ok dX12_back_22 (fwX12_335 rfl) (congrArg Prod.fst s_130) rfl (ltM hnn (by decide)) (sdm hf (by decide)) ?_
    refine w_aload_n ok dX12_back_25 0 rfl ?_
    refine w_getR ok dX12_back_26 (fX12_84 rfl) (congrArg Prod.fst s_130) rfl (r_130_39 ro) (ltM hnn (by decide)) ?_
    refine w_iconst (v := 0) ok dX12_back_29 (by decide) ?_
    refine y_iald (q := 0) ok dX12_back_30 s_154 (by decide) (by decide) (ltM hnn (by decide)) (sdm hf (by decide)) ?_
    exact w_iret ok fin dX12_back_31 rfl (by unfold F_X12_back FI_X12_back; simp only [if_neg c1]; exact Pd.i)
  · skip
    refine w_iconst (v := (-1)) ok dX12_back_12 (by decide) ?_
    exact w_iret ok fin dX12_back_13 rfl (by unfold F_X12_back FI_X12_back; simp only [if_pos c1]; exact Pd.i)
def F_X12_count (a0 : Int32) (I : SI) (J : SJ) : Int32 := if a0 = 0 then (u2 I 130 0 0) 132 0 else (if a0 = 1 then (u2 I 130 0 0) 132 1 else (if a0 = 2 then (u2 I 130 0 0) 132 3 else (if a0 = 3 then (u2 I 130 0 0) 132 4 else (if a0 = 4 then (u2 I 130 0 0) 132 9 else (if a0 = 5 then (u2 I 130 0 0) 154 0 else (if a0 = 6 then F_X12_sumOf 163 184 0 (u2 I 130 0 0) J else (if a0 = 7 then (u2 I 130 0 0) 157 0 else (if a0 = 8 then F_X12_sumOf 164 184 0 (u2 I 130 0 0) J else (if a0 = 9 then (u2 I 130 0 0) 156 0 else (if a0 = 10 then F_X12_clashesAll 0 (u2 I 130 0 0) J else (if a0 = 11 then (u2 I 130 0 0) 159 0 else (if a0 = 12 then (u2 I 130 0 0) 130 68 else (if a0 = 13 then F_X12_knownMany  (u2 I 130 0 0) J else (if a0 = 14 then (u2 I 130 0 0) 130 54 else -1))))))))))))))
def FI_X12_count (a0 : Int32) (I : SI) (J : SJ) : SI := if a0 = 0 then u2 I 130 0 0 else (if a0 = 1 then u2 I 130 0 0 else (if a0 = 2 then u2 I 130 0 0 else (if a0 = 3 then u2 I 130 0 0 else (if a0 = 4 then u2 I 130 0 0 else (if a0 = 5 then u2 I 130 0 0 else (if a0 = 6 then u2 I 130 0 0 else (if a0 = 7 then u2 I 130 0 0 else (if a0 = 8 then u2 I 130 0 0 else (if a0 = 9 then u2 I 130 0 0 else (if a0 = 10 then u2 I 130 0 0 else (if a0 = 11 then u2 I 130 0 0 else (if a0 = 12 then u2 I 130 0 0 else (if a0 = 13 then u2 I 130 0 0 else (if a0 = 14 then u2 I 130 0 0 else u2 I 130 0 0))))))))))))))
def H_X12_count (a0 : Int32) (I : SI) (J : SJ) : Prop := (¬ (a0 = 0) → ¬ (a0 = 1) → ¬ (a0 = 2) → ¬ (a0 = 3) → ¬ (a0 = 4) → ¬ (a0 = 5) → a0 = 6 → H_X12_sumOf 163 184 0 (u2 I 130 0 0) J) ∧ (¬ (a0 = 0) → ¬ (a0 = 1) → ¬ (a0 = 2) → ¬ (a0 = 3) → ¬ (a0 = 4) → ¬ (a0 = 5) → ¬ (a0 = 6) → ¬ (a0 = 7) → a0 = 8 → H_X12_sumOf 164 184 0 (u2 I 130 0 0) J) ∧ (¬ (a0 = 0) → ¬ (a0 = 1) → ¬ (a0 = 2) → ¬ (a0 = 3) → ¬ (a0 = 4) → ¬ (a0 = 5) → ¬ (a0 = 6) → ¬ (a0 = 7) → ¬ (a0 = 8) → ¬ (a0 = 9) → a0 = 10 → H_X12_clashesAll 0 (u2 I 130 0 0) J)
set_option maxHeartbeats 1530000 in
set_option maxRecDepth 40000 in
theorem c_X12_count {I : SI} {J : SJ} {R : SR} {n g : Nat} {f : Fr} (ro : RM R) (hnn : nM ≤ n) (hf : f.1 = false) (a0 : Int32)  (hp : H_X12_count a0 I J) : MM 4 0 0 mX12_count [.ref 130, .int a0] (eI f I) (eJ f J) R n g (Pd (some (.int (F_X12_count a0 I J))) (eI f (FI_X12_count a0 I J)) (eJ f J) R n g) := by
  refine MM.of (by decide) (Nat.le_of_ble_eq_true rfl) fun K ok fin => ?_
  show WK K 0 0 0 [(0, .ref 130), (1, .int a0)] [] (eI f I) (eJ f J) R n g
  obtain ⟨hp1, hp2, hp3⟩ := hp
  refine w_aload_n ok dX12_count_0 0 rfl ?_
  refine w_iconst (v := 0) ok dX12_count_1 (by decide) ?_
  refine y_putI ok dX12_count_2 (fwX12_169 rfl) (congrArg Prod.fst s_130) rfl (ltM hnn (by decide)) (sdm hf (by decide)) ?_
  refine w_iload_n ok dX12_count_5 1 rfl ?_
  by_cases c1 : a0 = 0
  · skip
    refine w_tabIn (tgt := 80) (off := 74) ok dX12_count_6 (by rw [c1]; decide) (by rw [c1]; decide) (by rw [c1]; rfl) (by decide) ?_
    refine w_aload_n ok dX12_count_80 0 rfl ?_
    refine w_getR ok dX12_count_81 (fX12_13 rfl) (congrArg Prod.fst s_130) rfl (r_130_3 ro) (ltM hnn (by decide)) ?_
    refine w_iconst (v := 0) ok dX12_count_84 (by decide) ?_
    refine y_iald (q := 0) ok dX12_count_85 s_132 (by decide) (by decide) (ltM hnn (by decide)) (sdm hf (by decide)) ?_
    exact w_iret ok fin dX12_count_86 rfl (by unfold F_X12_count FI_X12_count; simp only [if_pos c1]; exact Pd.i)
  · skip
    by_cases c2 : a0 = 1
    · skip
      refine w_tabIn (tgt := 87) (off := 81) ok dX12_count_6 (by rw [c2]; decide) (by rw [c2]; decide) (by rw [c2]; rfl) (by decide) ?_
      refine w_aload_n ok dX12_count_87 0 rfl ?_
      refine w_getR ok dX12_count_88 (fX12_13 rfl) (congrArg Prod.fst s_130) rfl (r_130_3 ro) (ltM hnn (by decide)) ?_
      refine w_iconst (v := 1) ok dX12_count_91 (by decide) ?_
      refine y_iald (q := 1) ok dX12_count_92 s_132 (by decide) (by decide) (ltM hnn (by decide)) (sdm hf (by decide)) ?_
      exact w_iret ok fin dX12_count_93 rfl (by unfold F_X12_count FI_X12_count; simp only [if_neg c1]; simp only [if_pos c2]; exact Pd.i)
    · skip
      by_cases c3 : a0 = 2
      · skip
        refine w_tabIn (tgt := 94) (off := 88) ok dX12_count_6 (by rw [c3]; decide) (by rw [c3]; decide) (by rw [c3]; rfl) (by decide) ?_
        refine w_aload_n ok dX12_count_94 0 rfl ?_
        refine w_getR ok dX12_count_95 (fX12_13 rfl) (congrArg Prod.fst s_130) rfl (r_130_3 ro) (ltM hnn (by decide)) ?_
        refine w_iconst (v := 3) ok dX12_count_98 (by decide) ?_
        refine y_iald (q := 3) ok dX12_count_99 s_132 (by decide) (by decide) (ltM hnn (by decide)) (sdm hf (by decide)) ?_
        exact w_iret ok fin dX12_count_100 rfl (by unfold F_X12_count FI_X12_count; simp only [if_neg c1]; simp only [if_neg c2]; simp only [if_pos c3]; exact Pd.i)
      · skip
        by_cases c4 : a0 = 3
        · skip
          refine w_tabIn (tgt := 101) (off := 95) ok dX12_count_6 (by rw [c4]; decide) (by rw [c4]; decide) (by rw [c4]; rfl) (by decide) ?_
          refine w_aload_n ok dX12_count_101 0 rfl ?_
          refine w_getR ok dX12_count_102 (fX12_13 rfl) (congrArg Prod.fst s_130) rfl (r_130_3 ro) (ltM hnn (by decide)) ?_
          refine w_iconst (v := 4) ok dX12_count_105 (by decide) ?_
          refine y_iald (q := 4) ok dX12_count_106 s_132 (by decide) (by decide) (ltM hnn (by decide)) (sdm hf (by decide)) ?_
          exact w_iret ok fin dX12_count_107 rfl (by unfold F_X12_count FI_X12_count; simp only [if_neg c1]; simp only [if_neg c2]; simp only [if_neg c3]; simp only [if_pos c4]; exact Pd.i)
        · skip
          by_cases c5 : a0 = 4
          · skip
            refine w_tabIn (tgt := 108) (off := 102) ok dX12_count_6 (by rw [c5]; decide) (by rw [c5]; decide) (by rw [c5]; rfl) (by decide) ?_
            refine w_aload_n ok dX12_count_108 0 rfl ?_
            refine w_getR ok dX12_count_109 (fX12_13 rfl) (congrArg Prod.fst s_130) rfl (r_130_3 ro) (ltM hnn (by decide)) ?_
            refine w_bipush (v := 9) ok dX12_count_112 (by decide) ?_
            refine y_iald (q := 9) ok dX12_count_114 s_132 (by decide) (by decide) (ltM hnn (by decide)) (sdm hf (by decide)) ?_
            exact w_iret ok fin dX12_count_115 rfl (by unfold F_X12_count FI_X12_count; simp only [if_neg c1]; simp only [if_neg c2]; simp only [if_neg c3]; simp only [if_neg c4]; simp only [if_pos c5]; exact Pd.i)
          · skip
            by_cases c6 : a0 = 5
            · skip
              refine w_tabIn (tgt := 116) (off := 110) ok dX12_count_6 (by rw [c6]; decide) (by rw [c6]; decide) (by rw [c6]; rfl) (by decide) ?_
              refine w_aload_n ok dX12_count_116 0 rfl ?_
              refine w_getR ok dX12_count_117 (fX12_84 rfl) (congrArg Prod.fst s_130) rfl (r_130_39 ro) (ltM hnn (by decide)) ?_
              refine w_iconst (v := 0) ok dX12_count_120 (by decide) ?_
              refine y_iald (q := 0) ok dX12_count_121 s_154 (by decide) (by decide) (ltM hnn (by decide)) (sdm hf (by decide)) ?_
              exact w_iret ok fin dX12_count_122 rfl (by unfold F_X12_count FI_X12_count; simp only [if_neg c1]; simp only [if_neg c2]; simp only [if_neg c3]; simp only [if_neg c4]; simp only [if_neg c5]; simp only [if_pos c6]; exact Pd.i)
            · skip
              by_cases c7 : a0 = 6
              · skip
                refine w_tabIn (tgt := 123) (off := 117) ok dX12_count_6 (by rw [c7]; decide) (by rw [c7]; decide) (by rw [c7]; rfl) (by decide) ?_
                refine w_aload_n ok dX12_count_123 0 rfl ?_
                refine w_aload_n ok dX12_count_124 0 rfl ?_
                refine w_getR ok dX12_count_125 (fX12_111 rfl) (congrArg Prod.fst s_130) rfl (r_130_48 ro) (ltM hnn (by decide)) ?_
                refine w_iconst (v := 0) ok dX12_count_128 (by decide) ?_
                refine w_cV (As := [.ref 163, .int 0]) ok dX12_count_129 iX12_sumOf (lX12_469 rfl) (rcv cls12 (congrArg Prod.fst s_130)) (ltM hnn (by decide)) (c_X12_sumOf ro hnn hf 0 s_163 (ltM hnn (by decide)) (sdm hf (by decide)) (sh_len s_163) (hp1 c1 c2 c3 c4 c5 c6 c7)) (by decide) rfl (Nat.le_of_ble_eq_true rfl) ?_
                exact w_iret ok fin dX12_count_132 rfl (by unfold F_X12_count FI_X12_count; simp only [if_neg c1]; simp only [if_neg c2]; simp only [if_neg c3]; simp only [if_neg c4]; simp only [if_neg c5]; simp only [if_neg c6]; simp only [if_pos c7]; exact Pd.i)
              · skip
                by_cases c8 : a0 = 7
                · skip
                  refine w_tabIn (tgt := 133) (off := 127) ok dX12_count_6 (by rw [c8]; decide) (by rw [c8]; decide) (by rw [c8]; rfl) (by decide) ?_
                  refine w_aload_n ok dX12_count_133 0 rfl ?_
                  refine w_getR ok dX12_count_134 (fX12_93 rfl) (congrArg Prod.fst s_130) rfl (r_130_42 ro) (ltM hnn (by decide)) ?_
                  refine w_iconst (v := 0) ok dX12_count_137 (by decide) ?_
                  refine y_iald (q := 0) ok dX12_count_138 s_157 (by decide) (by decide) (ltM hnn (by decide)) (sdm hf (by decide)) ?_
                  exact w_iret ok fin dX12_count_139 rfl (by unfold F_X12_count FI_X12_count; simp only [if_neg c1]; simp only [if_neg c2]; simp only [if_neg c3]; simp only [if_neg c4]; simp only [if_neg c5]; simp only [if_neg c6]; simp only [if_neg c7]; simp only [if_pos c8]; exact Pd.i)
                · skip
                  by_cases c9 : a0 = 8
                  · skip
                    refine w_tabIn (tgt := 140) (off := 134) ok dX12_count_6 (by rw [c9]; decide) (by rw [c9]; decide) (by rw [c9]; rfl) (by decide) ?_
                    refine w_aload_n ok dX12_count_140 0 rfl ?_
                    refine w_aload_n ok dX12_count_141 0 rfl ?_
                    refine w_getR ok dX12_count_142 (fX12_114 rfl) (congrArg Prod.fst s_130) rfl (r_130_49 ro) (ltM hnn (by decide)) ?_
                    refine w_iconst (v := 0) ok dX12_count_145 (by decide) ?_
                    refine w_cV (As := [.ref 164, .int 0]) ok dX12_count_146 iX12_sumOf (lX12_469 rfl) (rcv cls12 (congrArg Prod.fst s_130)) (ltM hnn (by decide)) (c_X12_sumOf ro hnn hf 0 s_164 (ltM hnn (by decide)) (sdm hf (by decide)) (sh_len s_164) (hp2 c1 c2 c3 c4 c5 c6 c7 c8 c9)) (by decide) rfl (Nat.le_of_ble_eq_true rfl) ?_
                    exact w_iret ok fin dX12_count_149 rfl (by unfold F_X12_count FI_X12_count; simp only [if_neg c1]; simp only [if_neg c2]; simp only [if_neg c3]; simp only [if_neg c4]; simp only [if_neg c5]; simp only [if_neg c6]; simp only [if_neg c7]; simp only [if_neg c8]; simp only [if_pos c9]; exact Pd.i)
                  · skip
                    by_cases c10 : a0 = 9
                    · skip
                      refine w_tabIn (tgt := 150) (off := 144) ok dX12_count_6 (by rw [c10]; decide) (by rw [c10]; decide) (by rw [c10]; rfl) (by decide) ?_
                      refine w_aload_n ok dX12_count_150 0 rfl ?_
                      refine w_getR ok dX12_count_151 (fX12_90 rfl) (congrArg Prod.fst s_130) rfl (r_130_41 ro) (ltM hnn (by decide)) ?_
                      refine w_iconst (v := 0) ok dX12_count_154 (by decide) ?_
                      refine y_iald (q := 0) ok dX12_count_155 s_156 (by decide) (by decide) (ltM hnn (by decide)) (sdm hf (by decide)) ?_
                      exact w_iret ok fin dX12_count_156 rfl (by unfold F_X12_count FI_X12_count; simp only [if_neg c1]; simp only [if_neg c2]; simp only [if_neg c3]; simp only [if_neg c4]; simp only [if_neg c5]; simp only [if_neg c6]; simp only [if_neg c7]; simp only [if_neg c8]; simp only [if_neg c9]; simp only [if_pos c10]; exact Pd.i)
                    · skip
                      by_cases c11 : a0 = 10
                      · skip
                        refine w_tabIn (tgt := 157) (off := 151) ok dX12_count_6 (by rw [c11]; decide) (by rw [c11]; decide) (by rw [c11]; rfl) (by decide) ?_
                        refine w_aload_n ok dX12_count_157 0 rfl ?_
                        refine w_iconst (v := 0) ok dX12_count_158 (by decide) ?_
                        refine w_cV (As := [.int 0]) ok dX12_count_159 iX12_clashesAll (lX12_473 rfl) (rcv cls12 (congrArg Prod.fst s_130)) (ltM hnn (by decide)) (c_X12_clashesAll ro hnn hf 0  (hp3 c1 c2 c3 c4 c5 c6 c7 c8 c9 c10 c11)) (by decide) rfl (Nat.le_of_ble_eq_true rfl) ?_
                        exact w_iret ok fin dX12_count_162 rfl (by unfold F_X12_count FI_X12_count; simp only [if_neg c1]; simp only [if_neg c2]; simp only [if_neg c3]; simp only [if_neg c4]; simp only [if_neg c5]; simp only [if_neg c6]; simp only [if_neg c7]; simp only [if_neg c8]; simp only [if_neg c9]; simp only [if_neg c10]; simp only [if_pos c11]; exact Pd.i)
                      · skip
                        by_cases c12 : a0 = 11
                        · skip
                          refine w_tabIn (tgt := 163) (off := 157) ok dX12_count_6 (by rw [c12]; decide) (by rw [c12]; decide) (by rw [c12]; rfl) (by decide) ?_
                          refine w_aload_n ok dX12_count_163 0 rfl ?_
                          refine w_getR ok dX12_count_164 (fX12_99 rfl) (congrArg Prod.fst s_130) rfl (r_130_44 ro) (ltM hnn (by decide)) ?_
                          refine w_iconst (v := 0) ok dX12_count_167 (by decide) ?_
                          refine y_iald (q := 0) ok dX12_count_168 s_159 (by decide) (by decide) (ltM hnn (by decide)) (sdm hf (by decide)) ?_
                          exact w_iret ok fin dX12_count_169 rfl (by unfold F_X12_count FI_X12_count; simp only [if_neg c1]; simp only [if_neg c2]; simp only [if_neg c3]; simp only [if_neg c4]; simp only [if_neg c5]; simp only [if_neg c6]; simp only [if_neg c7]; simp only [if_neg c8]; simp only [if_neg c9]; simp only [if_neg c10]; simp only [if_neg c11]; simp only [if_pos c12]; exact Pd.i)
                        · skip
                          by_cases c13 : a0 = 12
                          · skip
                            refine w_tabIn (tgt := 170) (off := 164) ok dX12_count_6 (by rw [c13]; decide) (by rw [c13]; decide) (by rw [c13]; rfl) (by decide) ?_
                            refine w_aload_n ok dX12_count_170 0 rfl ?_
                            refine y_getI ok dX12_count_171 (fX12_328 rfl) (congrArg Prod.fst s_130) rfl (ltM hnn (by decide)) (sdm hf (by decide)) ?_
                            exact w_iret ok fin dX12_count_174 rfl (by unfold F_X12_count FI_X12_count; simp only [if_neg c1]; simp only [if_neg c2]; simp only [if_neg c3]; simp only [if_neg c4]; simp only [if_neg c5]; simp only [if_neg c6]; simp only [if_neg c7]; simp only [if_neg c8]; simp only [if_neg c9]; simp only [if_neg c10]; simp only [if_neg c11]; simp only [if_neg c12]; simp only [if_pos c13]; exact Pd.i)
                          · skip
                            by_cases c14 : a0 = 13
                            · skip
                              refine w_tabIn (tgt := 175) (off := 169) ok dX12_count_6 (by rw [c14]; decide) (by rw [c14]; decide) (by rw [c14]; rfl) (by decide) ?_
                              refine w_aload_n ok dX12_count_175 0 rfl ?_
                              refine w_cV (As := []) ok dX12_count_176 iX12_knownMany (lX12_530 rfl) (rcv cls12 (congrArg Prod.fst s_130)) (ltM hnn (by decide)) (c_X12_knownMany ro hnn hf  ) (by decide) rfl (Nat.le_of_ble_eq_true rfl) ?_
                              exact w_iret ok fin dX12_count_179 rfl (by unfold F_X12_count FI_X12_count; simp only [if_neg c1]; simp only [if_neg c2]; simp only [if_neg c3]; simp only [if_neg c4]; simp only [if_neg c5]; simp only [if_neg c6]; simp only [if_neg c7]; simp only [if_neg c8]; simp only [if_neg c9]; simp only [if_neg c10]; simp only [if_neg c11]; simp only [if_neg c12]; simp only [if_neg c13]; simp only [if_pos c14]; exact Pd.i)
                            · skip
                              by_cases c15 : a0 = 14
                              · skip
                                refine w_tabIn (tgt := 180) (off := 174) ok dX12_count_6 (by rw [c15]; decide) (by rw [c15]; decide) (by rw [c15]; rfl) (by decide) ?_
                                refine w_aload_n ok dX12_count_180 0 rfl ?_
                                refine y_getI ok dX12_count_181 (fX12_335 rfl) (congrArg Prod.fst s_130) rfl (ltM hnn (by decide)) (sdm hf (by decide)) ?_
                                exact w_iret ok fin dX12_count_184 rfl (by unfold F_X12_count FI_X12_count; simp only [if_neg c1]; simp only [if_neg c2]; simp only [if_neg c3]; simp only [if_neg c4]; simp only [if_neg c5]; simp only [if_neg c6]; simp only [if_neg c7]; simp only [if_neg c8]; simp only [if_neg c9]; simp only [if_neg c10]; simp only [if_neg c11]; simp only [if_neg c12]; simp only [if_neg c13]; simp only [if_neg c14]; simp only [if_pos c15]; exact Pd.i)
                              · skip
                                have n16 : a0.toInt ≠ 0 := ne_toInt c1
                                have n17 : a0.toInt ≠ 1 := ne_toInt c2
                                have n18 : a0.toInt ≠ 2 := ne_toInt c3
                                have n19 : a0.toInt ≠ 3 := ne_toInt c4
                                have n20 : a0.toInt ≠ 4 := ne_toInt c5
                                have n21 : a0.toInt ≠ 5 := ne_toInt c6
                                have n22 : a0.toInt ≠ 6 := ne_toInt c7
                                have n23 : a0.toInt ≠ 7 := ne_toInt c8
                                have n24 : a0.toInt ≠ 8 := ne_toInt c9
                                have n25 : a0.toInt ≠ 9 := ne_toInt c10
                                have n26 : a0.toInt ≠ 10 := ne_toInt c11
                                have n27 : a0.toInt ≠ 11 := ne_toInt c12
                                have n28 : a0.toInt ≠ 12 := ne_toInt c13
                                have n29 : a0.toInt ≠ 13 := ne_toInt c14
                                have n30 : a0.toInt ≠ 14 := ne_toInt c15
                                refine w_tabOut (tgt := 185) ok dX12_count_6 (by omega) (by decide) ?_
                                refine w_iconst (v := (-1)) ok dX12_count_185 (by decide) ?_
                                exact w_iret ok fin dX12_count_186 rfl (by unfold F_X12_count FI_X12_count; simp only [if_neg c1]; simp only [if_neg c2]; simp only [if_neg c3]; simp only [if_neg c4]; simp only [if_neg c5]; simp only [if_neg c6]; simp only [if_neg c7]; simp only [if_neg c8]; simp only [if_neg c9]; simp only [if_neg c10]; simp only [if_neg c11]; simp only [if_neg c12]; simp only [if_neg c13]; simp only [if_neg c14]; simp only [if_neg c15]; exact Pd.i)
def T_X0_otherwise_j11 (a0 : Int32) (a1 : Int32) (I : SI) (J : SJ) : Int32 := if a0 = 1 then 2 else 0
def T_X0_otherwise_j25 (a0 : Int32) (a1 : Int32) (I : SI) (J : SJ) : Int32 := if a0 = 2 then a1 else (-1)
def S1_X0_otherwise (a0 : Int32) (a1 : Int32) (I : SI) (J : SJ) : SI := u2 (u2 I 104 2 (T_X0_otherwise_j11 a0 a1 I J)) 104 5 (T_X0_otherwise_j25 a0 a1 I J)
def T_X0_otherwise_j39 (a0 : Int32) (a1 : Int32) (I : SI) (J : SJ) : Int32 := if a0 = 3 then 0 else 1
def T_X0_otherwise_j53 (a0 : Int32) (a1 : Int32) (I : SI) (J : SJ) : Int32 := if a0 = 4 then 0 else 1
def S2_X0_otherwise (a0 : Int32) (a1 : Int32) (I : SI) (J : SJ) : SI := u2 (u2 (S1_X0_otherwise a0 a1 I J) 104 6 (T_X0_otherwise_j39 a0 a1 I J)) 104 7 (T_X0_otherwise_j53 a0 a1 I J)
def FI_X0_otherwise (a0 : Int32) (a1 : Int32) (I : SI) (J : SJ) : SI := if a0 = 5 then fillF (S2_X0_otherwise a0 a1 I J) 114 99 6 else (S2_X0_otherwise a0 a1 I J)
def H_X0_otherwise (a0 : Int32) (a1 : Int32) (I : SI) (J : SJ) : Prop := ((T_X0_otherwise_j39 a0 a1 I J) = 0 ∨ (T_X0_otherwise_j39 a0 a1 I J) = 1) ∧ ((T_X0_otherwise_j53 a0 a1 I J) = 0 ∨ (T_X0_otherwise_j53 a0 a1 I J) = 1)
set_option maxHeartbeats 1060000 in
set_option maxRecDepth 40000 in
theorem c_X0_otherwise {I : SI} {J : SJ} {R : SR} {n g : Nat} {f : Fr} (ro : RO R) (hnn : nK ≤ n) (hf : f.1 = true) (a0 : Int32) (a1 : Int32)  (hp : H_X0_otherwise a0 a1 I J) : MM 1 0 0 mX0_otherwise [.ref 104, .int a0, .int a1] (eI f I) (eJ f J) R n g (Pd none (eI f (FI_X0_otherwise a0 a1 I J)) (eJ f J) R n g) := by
  refine MM.of (by decide) (Nat.le_of_ble_eq_true rfl) fun K ok fin => ?_
  show WK K 0 0 0 [(0, .ref 104), (1, .int a0), (2, .int a1)] [] (eI f I) (eJ f J) R n g
  obtain ⟨hp1, hp2⟩ := hp
  refine w_aload_n ok dX0_otherwise_0 0 rfl ?_
  refine w_iload_n ok dX0_otherwise_1 1 rfl ?_
  refine w_iconst (v := 1) ok dX0_otherwise_2 (by decide) ?_
  have jn1 : WK K 0 0 11 [(0, .ref 104), (1, .int a0), (2, .int a1)] [.int (T_X0_otherwise_j11 a0 a1 I J), .ref 104] (eI f I) (eJ f J) R n g := by
    refine y_putI ok dX0_otherwise_11 (fwX0_22 rfl) (congrArg Prod.fst s_104) rfl (ltK hnn (by decide)) (sdc hf (by decide)) ?_
    refine w_aload_n ok dX0_otherwise_14 0 rfl ?_
    refine w_iload_n ok dX0_otherwise_15 1 rfl ?_
    refine w_iconst (v := 2) ok dX0_otherwise_16 (by decide) ?_
    have jn2 : WK K 0 0 25 [(0, .ref 104), (1, .int a0), (2, .int a1)] [.int (T_X0_otherwise_j25 a0 a1 I J), .ref 104] (eI f (u2 I 104 2 (T_X0_otherwise_j11 a0 a1 I J))) (eJ f J) R n g := by
      refine y_putI ok dX0_otherwise_25 (fwX0_30 rfl) (congrArg Prod.fst s_104) rfl (ltK hnn (by decide)) (sdc hf (by decide)) ?_
      show WK K 0 0 28 [(0, .ref 104), (1, .int a0), (2, .int a1)] [] (eI f (S1_X0_otherwise a0 a1 I J)) (eJ f J) R n g
      refine w_aload_n ok dX0_otherwise_28 0 rfl ?_
      refine w_iload_n ok dX0_otherwise_29 1 rfl ?_
      refine w_iconst (v := 3) ok dX0_otherwise_30 (by decide) ?_
      have jn3 : WK K 0 0 39 [(0, .ref 104), (1, .int a0), (2, .int a1)] [.int (T_X0_otherwise_j39 a0 a1 I J), .ref 104] (eI f (S1_X0_otherwise a0 a1 I J)) (eJ f J) R n g := by
        refine y_putZ ok dX0_otherwise_39 (fwX0_33 rfl) (congrArg Prod.fst s_104) rfl (hp1) (ltK hnn (by decide)) (sdc hf (by decide)) ?_
        refine w_aload_n ok dX0_otherwise_42 0 rfl ?_
        refine w_iload_n ok dX0_otherwise_43 1 rfl ?_
        refine w_iconst (v := 4) ok dX0_otherwise_44 (by decide) ?_
        have jn4 : WK K 0 0 53 [(0, .ref 104), (1, .int a0), (2, .int a1)] [.int (T_X0_otherwise_j53 a0 a1 I J), .ref 104] (eI f (u2 (S1_X0_otherwise a0 a1 I J) 104 6 (T_X0_otherwise_j39 a0 a1 I J))) (eJ f J) R n g := by
          refine y_putZ ok dX0_otherwise_53 (fwX0_37 rfl) (congrArg Prod.fst s_104) rfl (hp2) (ltK hnn (by decide)) (sdc hf (by decide)) ?_
          show WK K 0 0 56 [(0, .ref 104), (1, .int a0), (2, .int a1)] [] (eI f (S2_X0_otherwise a0 a1 I J)) (eJ f J) R n g
          refine w_iload_n ok dX0_otherwise_56 1 rfl ?_
          refine w_iconst (v := 5) ok dX0_otherwise_57 (by decide) ?_
          refine w_icmp_ne (tgt := 70) ok dX0_otherwise_58 (by decide) (fun c5 => ?_) (fun c5 => ?_)
          · skip
            exact w_vret ok fin dX0_otherwise_70 rfl (by unfold FI_X0_otherwise; simp only [if_neg c5]; exact Pd.i)
          · skip
            refine w_aload_n ok dX0_otherwise_61 0 rfl ?_
            refine w_getR ok dX0_otherwise_62 (fX0_18 rfl) (congrArg Prod.fst s_104) rfl (r_104_1 ro) (ltK hnn (by decide)) ?_
            refine w_bipush (v := 99) ok dX0_otherwise_65 (by decide) ?_
            refine w_cS (As := [.ref 114, .int 99]) ok dX0_otherwise_67 iX11_fill (lX0_63 rfl) (c_fill s_114 (ltK hnn (by decide)) (sdc hf (by decide)) 99) (by decide) rfl (Nat.le_of_ble_eq_true rfl) ?_
            exact w_vret ok fin dX0_otherwise_70 rfl (by unfold FI_X0_otherwise; simp only [if_pos c5]; exact Pd.i)
        refine w_icmp_eq (tgt := 52) ok dX0_otherwise_45 (by decide) (fun c6 => ?_) (fun c6 => ?_)
        · skip
          refine w_iconst (v := 0) ok dX0_otherwise_52 (by decide) ?_
          have eT : (T_X0_otherwise_j53 a0 a1 I J) = 0 := by
            unfold T_X0_otherwise_j53; exact (if_pos c6).trans (rfl)
          refine w_loc [0, 1, 2] rfl ?_
          have jj := jn4
          rw [eT] at jj
          exact jj
        · skip
          refine w_iconst (v := 1) ok dX0_otherwise_48 (by decide) ?_
          refine w_goto (tgt := 53) ok dX0_otherwise_49 (by decide) ?_
          have eT : (T_X0_otherwise_j53 a0 a1 I J) = 1 := by
            unfold T_X0_otherwise_j53; exact (if_neg c6).trans (rfl)
          refine w_loc [0, 1, 2] rfl ?_
          have jj := jn4
          rw [eT] at jj
          exact jj
      refine w_icmp_eq (tgt := 38) ok dX0_otherwise_31 (by decide) (fun c7 => ?_) (fun c7 => ?_)
      · skip
        refine w_iconst (v := 0) ok dX0_otherwise_38 (by decide) ?_
        have eT : (T_X0_otherwise_j39 a0 a1 I J) = 0 := by
          unfold T_X0_otherwise_j39; exact (if_pos c7).trans (rfl)
        refine w_loc [0, 1, 2] rfl ?_
        have jj := jn3
        rw [eT] at jj
        exact jj
      · skip
        refine w_iconst (v := 1) ok dX0_otherwise_34 (by decide) ?_
        refine w_goto (tgt := 39) ok dX0_otherwise_35 (by decide) ?_
        have eT : (T_X0_otherwise_j39 a0 a1 I J) = 1 := by
          unfold T_X0_otherwise_j39; exact (if_neg c7).trans (rfl)
        refine w_loc [0, 1, 2] rfl ?_
        have jj := jn3
        rw [eT] at jj
        exact jj
    refine w_icmp_ne (tgt := 24) ok dX0_otherwise_17 (by decide) (fun c8 => ?_) (fun c8 => ?_)
    · skip
      refine w_iconst (v := (-1)) ok dX0_otherwise_24 (by decide) ?_
      have eT : (T_X0_otherwise_j25 a0 a1 I J) = (-1) := by
        unfold T_X0_otherwise_j25; exact (if_neg c8).trans (rfl)
      refine w_loc [0, 1, 2] rfl ?_
      have jj := jn2
      rw [eT] at jj
      exact jj
    · skip
      refine w_iload_n ok dX0_otherwise_20 2 rfl ?_
      refine w_goto (tgt := 25) ok dX0_otherwise_21 (by decide) ?_
      have eT : (T_X0_otherwise_j25 a0 a1 I J) = a1 := by
        unfold T_X0_otherwise_j25; exact (if_pos c8).trans (rfl)
      refine w_loc [0, 1, 2] rfl ?_
      have jj := jn2
      rw [eT] at jj
      exact jj
  refine w_icmp_ne (tgt := 10) ok dX0_otherwise_3 (by decide) (fun c9 => ?_) (fun c9 => ?_)
  · skip
    refine w_iconst (v := 0) ok dX0_otherwise_10 (by decide) ?_
    have eT : (T_X0_otherwise_j11 a0 a1 I J) = 0 := by
      unfold T_X0_otherwise_j11; exact (if_neg c9).trans (rfl)
    refine w_loc [0, 1, 2] rfl ?_
    have jj := jn1
    rw [eT] at jj
    exact jj
  · skip
    refine w_iconst (v := 2) ok dX0_otherwise_6 (by decide) ?_
    refine w_goto (tgt := 11) ok dX0_otherwise_7 (by decide) ?_
    have eT : (T_X0_otherwise_j11 a0 a1 I J) = 2 := by
      unfold T_X0_otherwise_j11; exact (if_pos c9).trans (rfl)
    refine w_loc [0, 1, 2] rfl ?_
    have jj := jn1
    rw [eT] at jj
    exact jj
def F_X0_isSo (a0 : Int64) (a1 : Int32) (I : SI) (J : SJ) : Int32 := if (lg_cmp a0 (-9223372036854775808)) = 0 then a1 else (if (lg_cmp a0 0) = 0 then 0 else 1)
def H_X0_isSo (a0 : Int64) (a1 : Int32) (I : SI) (J : SJ) : Prop := ((lg_cmp a0 (-9223372036854775808)) = 0 → a1 = 0 ∨ a1 = 1)
set_option maxHeartbeats 1000000 in
set_option maxRecDepth 40000 in
theorem c_X0_isSo {I : SI} {J : SJ} {R : SR} {n g : Nat} {f : Fr} (ro : RO R) (hnn : nK ≤ n) (hf : f.1 = true) (a0 : Int64) (a1 : Int32)  (hp : H_X0_isSo a0 a1 I J) : MM 0 0 0 mX0_isSo [.long a0, .int a1] (eI f I) (eJ f J) R n g (Pd (some (.int (F_X0_isSo a0 a1 I J))) (eI f I) (eJ f J) R n g) := by
  refine MM.of (by decide) (Nat.le_of_ble_eq_true rfl) fun K ok fin => ?_
  show WK K 0 0 0 [(0, .long a0), (2, .int a1)] [] (eI f I) (eJ f J) R n g
  have hp1 := hp
  refine w_lload_n ok dX0_isSo_0 0 rfl ?_
  refine w_ldc2 ok dX0_isSo_1 kX0_181 ?_
  refine w_lcmp ok dX0_isSo_4 ?_
  refine w_if_ne (tgt := 12) ok dX0_isSo_5 (by decide) (fun c1 => ?_) (fun c1 => ?_)
  · skip
    refine w_lload_n ok dX0_isSo_12 0 rfl ?_
    refine w_lconst (v := 0) ok dX0_isSo_13 (by decide) ?_
    refine w_lcmp ok dX0_isSo_14 ?_
    refine w_if_eq (tgt := 22) ok dX0_isSo_15 (by decide) (fun c2 => ?_) (fun c2 => ?_)
    · skip
      refine w_iconst (v := 0) ok dX0_isSo_22 (by decide) ?_
      exact w_zret ok fin dX0_isSo_23 rfl (by decide) (by unfold F_X0_isSo; simp only [if_neg c1]; simp only [if_pos c2]; exact Pd.i)
    · skip
      refine w_iconst (v := 1) ok dX0_isSo_18 (by decide) ?_
      refine w_goto (tgt := 23) ok dX0_isSo_19 (by decide) ?_
      exact w_zret ok fin dX0_isSo_23 rfl (by decide) (by unfold F_X0_isSo; simp only [if_neg c1]; simp only [if_neg c2]; exact Pd.i)
  · skip
    refine w_iload_n ok dX0_isSo_8 1 rfl ?_
    refine w_goto (tgt := 23) ok dX0_isSo_9 (by decide) ?_
    exact w_zret ok fin dX0_isSo_23 rfl (hp1 c1) (by unfold F_X0_isSo; simp only [if_pos c1]; exact Pd.i)
def F_X0_isSaid (a0 : Int32) (I : SI) (J : SJ) : Int32 := if (atF (I 110) 6 a0) < 0 then 0 else 1
set_option maxHeartbeats 1000000 in
set_option maxRecDepth 40000 in
theorem c_X0_isSaid {I : SI} {J : SJ} {R : SR} {n g : Nat} {f : Fr} (ro : RO R) (hnn : nK ≤ n) (hf : f.1 = true) (a0 : Int32)   : MM 1 0 0 mX0_isSaid [.ref 104, .int a0] (eI f I) (eJ f J) R n g (Pd (some (.int (F_X0_isSaid a0 I J))) (eI f I) (eJ f J) R n g) := by
  refine MM.of (by decide) (Nat.le_of_ble_eq_true rfl) fun K ok fin => ?_
  show WK K 0 0 0 [(0, .ref 104), (1, .int a0)] [] (eI f I) (eJ f J) R n g
  refine w_aload_n ok dX0_isSaid_0 0 rfl ?_
  refine w_getR ok dX0_isSaid_1 (fX0_12 rfl) (congrArg Prod.fst s_104) rfl (r_104_0 ro) (ltK hnn (by decide)) ?_
  refine w_getR ok dX0_isSaid_4 (fX0_139 rfl) (congrArg Prod.fst s_105) rfl (r_105_11 ro) (ltK hnn (by decide)) ?_
  refine w_iload_n ok dX0_isSaid_7 1 rfl ?_
  refine w_cS (As := [.ref 110, .int a0]) ok dX0_isSaid_8 iX11_at (lX0_86 rfl) (c_at s_110 (ltK hnn (by decide)) (sdc hf (by decide)) a0) (by decide) rfl (Nat.le_of_ble_eq_true rfl) ?_
  refine w_if_lt (tgt := 18) ok dX0_isSaid_11 (by decide) (fun c1 => ?_) (fun c1 => ?_)
  · skip
    refine w_iconst (v := 0) ok dX0_isSaid_18 (by decide) ?_
    exact w_iret ok fin dX0_isSaid_19 rfl (by unfold F_X0_isSaid; simp only [if_pos c1]; exact Pd.i)
  · skip
    refine w_iconst (v := 1) ok dX0_isSaid_14 (by decide) ?_
    refine w_goto (tgt := 19) ok dX0_isSaid_15 (by decide) ?_
    exact w_iret ok fin dX0_isSaid_19 rfl (by unfold F_X0_isSaid; simp only [if_neg c1]; exact Pd.i)
def FI_X1_clear (k : Nat) (I : SI) (J : SJ) : SI := u2 (u2 I k 0 0) k 1 0
set_option maxHeartbeats 1000000 in
set_option maxRecDepth 40000 in
theorem c_X1_clear {I : SI} {J : SJ} {R : SR} {n g : Nat} {f : Fr} (ro : RO R) (hnn : nK ≤ n) (hf : f.1 = true) {k : Nat} (hk : IsLw k)   : MM 0 0 0 mX1_clear [.ref k] (eI f I) (eJ f J) R n g (Pd none (eI f (FI_X1_clear k I J)) (eJ f J) R n g) := by
  refine MM.of (by decide) (Nat.le_of_ble_eq_true rfl) fun K ok fin => ?_
  show WK K 0 0 0 [(0, .ref k)] [] (eI f I) (eJ f J) R n g
  refine w_aload_n ok dX1_clear_0 0 rfl ?_
  refine w_iconst (v := 0) ok dX1_clear_1 (by decide) ?_
  refine y_putZ ok dX1_clear_2 (fwX1_9 rfl) (congrArg Prod.fst (sLw hk)) rfl (by decide) (ltK hnn (nLw hk)) (sdc hf (nLw hk)) ?_
  refine w_aload_n ok dX1_clear_5 0 rfl ?_
  refine w_iconst (v := 0) ok dX1_clear_6 (by decide) ?_
  refine y_putI ok dX1_clear_7 (fwX1_15 rfl) (congrArg Prod.fst (sLw hk)) rfl (ltK hnn (nLw hk)) (sdc hf (nLw hk)) ?_
  exact w_vret ok fin dX1_clear_10 rfl (by unfold FI_X1_clear; exact Pd.i)
def S1_X1_copy (k : Nat) (a0 : Nat) (I : SI) (J : SJ) : SI := cpF (u2 (u2 I k 0 (I a0 0)) k 1 ((u2 I k 0 (I a0 0)) a0 1)) (a0 + 1) (k + 1) 64
def FI_X1_copy (k : Nat) (a0 : Nat) (I : SI) (J : SJ) : SI := cpF (S1_X1_copy k a0 I J) (a0 + 2) (k + 2) 64
def H_X1_copy (k : Nat) (a0 : Nat) (I : SI) (J : SJ) : Prop := ((I a0 0) = 0 ∨ (I a0 0) = 1)
set_option maxHeartbeats 1000000 in
set_option maxRecDepth 40000 in
theorem c_X1_copy {I : SI} {J : SJ} {R : SR} {n g : Nat} {f : Fr} (ro : RO R) (hnn : nK ≤ n) (hf : f.1 = true) {k : Nat} {a0 : Nat} (hk : IsLw k) (ha0 : IsLw a0)  (hp : H_X1_copy k a0 I J) : MM 2 0 0 mX1_copy [.ref k, .ref a0] (eI f I) (eJ f J) R n g (Pd none (eI f (FI_X1_copy k a0 I J)) (eJ f J) R n g) := by
  refine MM.of (by decide) (Nat.le_of_ble_eq_true rfl) fun K ok fin => ?_
  show WK K 0 0 0 [(0, .ref k), (1, .ref a0)] [] (eI f I) (eJ f J) R n g
  have hp1 := hp
  refine w_aload_n ok dX1_copy_0 0 rfl ?_
  refine w_aload_n ok dX1_copy_1 1 rfl ?_
  refine y_getI ok dX1_copy_2 (fX1_9 rfl) (congrArg Prod.fst (sLw ha0)) rfl (ltK hnn (nLw ha0)) (sdc hf (nLw ha0)) ?_
  refine y_putZ ok dX1_copy_5 (fwX1_9 rfl) (congrArg Prod.fst (sLw hk)) rfl (hp1) (ltK hnn (nLw hk)) (sdc hf (nLw hk)) ?_
  refine w_aload_n ok dX1_copy_8 0 rfl ?_
  refine w_aload_n ok dX1_copy_9 1 rfl ?_
  refine y_getI ok dX1_copy_10 (fX1_15 rfl) (congrArg Prod.fst (sLw ha0)) rfl (ltK hnn (nLw ha0)) (sdc hf (nLw ha0)) ?_
  refine y_putI ok dX1_copy_13 (fwX1_15 rfl) (congrArg Prod.fst (sLw hk)) rfl (ltK hnn (nLw hk)) (sdc hf (nLw hk)) ?_
  refine w_aload_n ok dX1_copy_16 1 rfl ?_
  refine w_getR ok dX1_copy_17 (fX1_19 rfl) (congrArg Prod.fst (sLw ha0)) rfl (rLw_2 ha0 ro) (ltK hnn (nLw ha0)) ?_
  refine w_aload_n ok dX1_copy_20 0 rfl ?_
  refine w_getR ok dX1_copy_21 (fX1_19 rfl) (congrArg Prod.fst (sLw hk)) rfl (rLw_2 hk ro) (ltK hnn (nLw hk)) ?_
  refine w_cS (As := [.ref (a0 + 1), .ref (k + 1)]) ok dX1_copy_24 iX11_copyRow (lX1_30 rfl) (c_copyRow (sLw_2 ha0) (sLw_2 hk) (ltK hnn (nLw_2 ha0)) (ltK hnn (nLw_2 hk)) (sdc hf (nLw_2 ha0)) (sdc hf (nLw_2 hk))) (by decide) rfl (Nat.le_of_ble_eq_true rfl) ?_
  show WK K 0 0 27 [(0, .ref k), (1, .ref a0)] [] (eI f (S1_X1_copy k a0 I J)) (eJ f J) R n g
  refine w_aload_n ok dX1_copy_27 1 rfl ?_
  refine w_getR ok dX1_copy_28 (fX1_23 rfl) (congrArg Prod.fst (sLw ha0)) rfl (rLw_3 ha0 ro) (ltK hnn (nLw ha0)) ?_
  refine w_aload_n ok dX1_copy_31 0 rfl ?_
  refine w_getR ok dX1_copy_32 (fX1_23 rfl) (congrArg Prod.fst (sLw hk)) rfl (rLw_3 hk ro) (ltK hnn (nLw hk)) ?_
  refine w_cS (As := [.ref (a0 + 2), .ref (k + 2)]) ok dX1_copy_35 iX11_copyRow (lX1_30 rfl) (c_copyRow (sLw_3 ha0) (sLw_3 hk) (ltK hnn (nLw_3 ha0)) (ltK hnn (nLw_3 hk)) (sdc hf (nLw_3 ha0)) (sdc hf (nLw_3 hk))) (by decide) rfl (Nat.le_of_ble_eq_true rfl) ?_
  exact w_vret ok fin dX1_copy_38 rfl (by unfold FI_X1_copy; exact Pd.i)
def S1_X1_add (k : Nat) (a0 : Int32) (a1 : Int32) (I : SI) (J : SJ) : SI := u2 (u2 I (k + 1) (I k 1).toNatClampNeg a0) (k + 2) ((u2 I (k + 1) (I k 1).toNatClampNeg a0) k 1).toNatClampNeg a1
def FI_X1_add (k : Nat) (a0 : Int32) (a1 : Int32) (I : SI) (J : SJ) : SI := if (I k 1) < 0 then I else (if (64 : Int32) ≤ (I k 1) then I else u2 (S1_X1_add k a0 a1 I J) k 1 ((((S1_X1_add k a0 a1 I J)) k 1) + 1))
def H_X1_add (k : Nat) (a0 : Int32) (a1 : Int32) (I : SI) (J : SJ) : Prop := (¬ ((I k 1) < 0) → ¬ ((64 : Int32) ≤ (I k 1)) → inR ((u2 I (k + 1) (I k 1).toNatClampNeg a0) k 1) 64)
set_option maxHeartbeats 1000000 in
set_option maxRecDepth 40000 in
theorem c_X1_add {I : SI} {J : SJ} {R : SR} {n g : Nat} {f : Fr} (ro : RO R) (hnn : nK ≤ n) (hf : f.1 = true) {k : Nat} (a0 : Int32) (a1 : Int32) (hk : IsLw k)  (hp : H_X1_add k a0 a1 I J) : MM 0 0 0 mX1_add [.ref k, .int a0, .int a1] (eI f I) (eJ f J) R n g (Pd none (eI f (FI_X1_add k a0 a1 I J)) (eJ f J) R n g) := by
  refine MM.of (by decide) (Nat.le_of_ble_eq_true rfl) fun K ok fin => ?_
  show WK K 0 0 0 [(0, .ref k), (1, .int a0), (2, .int a1)] [] (eI f I) (eJ f J) R n g
  have hp1 := hp
  refine w_aload_n ok dX1_add_0 0 rfl ?_
  refine y_getI ok dX1_add_1 (fX1_15 rfl) (congrArg Prod.fst (sLw hk)) rfl (ltK hnn (nLw hk)) (sdc hf (nLw hk)) ?_
  refine w_if_lt (tgt := 61) ok dX1_add_4 (by decide) (fun c1 => ?_) (fun c1 => ?_)
  · skip
    exact w_vret ok fin dX1_add_61 rfl (by unfold FI_X1_add; simp only [if_pos c1]; exact Pd.i)
  · skip
    refine w_aload_n ok dX1_add_7 0 rfl ?_
    refine y_getI ok dX1_add_8 (fX1_15 rfl) (congrArg Prod.fst (sLw hk)) rfl (ltK hnn (nLw hk)) (sdc hf (nLw hk)) ?_
    refine w_aload_n ok dX1_add_11 0 rfl ?_
    refine w_getR ok dX1_add_12 (fX1_19 rfl) (congrArg Prod.fst (sLw hk)) rfl (rLw_2 hk ro) (ltK hnn (nLw hk)) ?_
    refine w_alen (v := 64) ok dX1_add_15 (sLw_2 hk) (by decide) (by decide) (ltK hnn (nLw_2 hk)) ?_
    refine w_icmp_ge (tgt := 61) ok dX1_add_16 (by decide) (fun c2 => ?_) (fun c2 => ?_)
    · skip
      exact w_vret ok fin dX1_add_61 rfl (by unfold FI_X1_add; simp only [if_neg c1]; simp only [if_pos c2]; exact Pd.i)
    · skip
      refine w_aload_n ok dX1_add_19 0 rfl ?_
      refine y_getI ok dX1_add_20 (fX1_15 rfl) (congrArg Prod.fst (sLw hk)) rfl (ltK hnn (nLw hk)) (sdc hf (nLw hk)) ?_
      refine w_aload_n ok dX1_add_23 0 rfl ?_
      refine w_getR ok dX1_add_24 (fX1_23 rfl) (congrArg Prod.fst (sLw hk)) rfl (rLw_3 hk ro) (ltK hnn (nLw hk)) ?_
      refine w_alen (v := 64) ok dX1_add_27 (sLw_3 hk) (by decide) (by decide) (ltK hnn (nLw_3 hk)) ?_
      refine w_icmp_ge (tgt := 61) ok dX1_add_28 (by decide) (fun h => absurd h c2) (fun _ => ?_)
      refine w_aload_n ok dX1_add_31 0 rfl ?_
      refine w_getR ok dX1_add_32 (fX1_19 rfl) (congrArg Prod.fst (sLw hk)) rfl (rLw_2 hk ro) (ltK hnn (nLw hk)) ?_
      refine w_aload_n ok dX1_add_35 0 rfl ?_
      refine y_getI ok dX1_add_36 (fX1_15 rfl) (congrArg Prod.fst (sLw hk)) rfl (ltK hnn (nLw hk)) (sdc hf (nLw hk)) ?_
      refine w_iload_n ok dX1_add_39 1 rfl ?_
      refine y_iast (q := (I k 1).toNatClampNeg) ok dX1_add_40 (sLw_2 hk) (in_of c1 (show ¬ (nI 64 ≤ _) from c2) (sh_len (sLw_2 hk))) (by decide) (ltK hnn (nLw_2 hk)) (sdc hf (nLw_2 hk)) ?_
      refine w_aload_n ok dX1_add_41 0 rfl ?_
      refine w_getR ok dX1_add_42 (fX1_23 rfl) (congrArg Prod.fst (sLw hk)) rfl (rLw_3 hk ro) (ltK hnn (nLw hk)) ?_
      refine w_aload_n ok dX1_add_45 0 rfl ?_
      refine y_getI ok dX1_add_46 (fX1_15 rfl) (congrArg Prod.fst (sLw hk)) rfl (ltK hnn (nLw hk)) (sdc hf (nLw hk)) ?_
      refine w_iload_n ok dX1_add_49 2 rfl ?_
      refine y_iast (q := ((u2 I (k + 1) (I k 1).toNatClampNeg a0) k 1).toNatClampNeg) ok dX1_add_50 (sLw_3 hk) (hp1 c1 c2) (by decide) (ltK hnn (nLw_3 hk)) (sdc hf (nLw_3 hk)) ?_
      show WK K 0 0 51 [(0, .ref k), (1, .int a0), (2, .int a1)] [] (eI f (S1_X1_add k a0 a1 I J)) (eJ f J) R n g
      refine w_aload_n ok dX1_add_51 0 rfl ?_
      refine w_dup ok dX1_add_52 rfl ?_
      refine y_getI ok dX1_add_53 (fX1_15 rfl) (congrArg Prod.fst (sLw hk)) rfl (ltK hnn (nLw hk)) (sdc hf (nLw hk)) ?_
      refine w_iconst (v := 1) ok dX1_add_56 (by decide) ?_
      refine w_iadd ok dX1_add_57 ?_
      refine y_putI ok dX1_add_58 (fwX1_15 rfl) (congrArg Prod.fst (sLw hk)) rfl (ltK hnn (nLw hk)) (sdc hf (nLw hk)) ?_
      exact w_vret ok fin dX1_add_61 rfl (by unfold FI_X1_add; simp only [if_neg c1]; simp only [if_neg c2]; exact Pd.i)
def F_X1_openAt (k : Nat) (a0 : Int32) (I : SI) (J : SJ) : Int64 := if a0 < 0 then 0 else (if (64 : Int32) ≤ a0 then 0 else J (k + 3) a0.toNatClampNeg)
set_option maxHeartbeats 1000000 in
set_option maxRecDepth 40000 in
theorem c_X1_openAt {I : SI} {J : SJ} {R : SR} {n g : Nat} {f : Fr} (ro : RO R) (hnn : nK ≤ n) (hf : f.1 = true) {k : Nat} (a0 : Int32) (hk : IsLw k)   : MM 0 0 0 mX1_openAt [.ref k, .int a0] (eI f I) (eJ f J) R n g (Pd (some (.long (F_X1_openAt k a0 I J))) (eI f I) (eJ f J) R n g) := by
  refine MM.of (by decide) (Nat.le_of_ble_eq_true rfl) fun K ok fin => ?_
  show WK K 0 0 0 [(0, .ref k), (1, .int a0)] [] (eI f I) (eJ f J) R n g
  refine w_iload_n ok dX1_openAt_0 1 rfl ?_
  refine w_if_lt (tgt := 22) ok dX1_openAt_1 (by decide) (fun c1 => ?_) (fun c1 => ?_)
  · skip
    refine w_lconst (v := 0) ok dX1_openAt_22 (by decide) ?_
    exact w_lret ok fin dX1_openAt_23 rfl (by unfold F_X1_openAt; simp only [if_pos c1]; exact Pd.i)
  · skip
    refine w_iload_n ok dX1_openAt_4 1 rfl ?_
    refine w_aload_n ok dX1_openAt_5 0 rfl ?_
    refine w_getR ok dX1_openAt_6 (fX1_26 rfl) (congrArg Prod.fst (sLw hk)) rfl (rLw_4 hk ro) (ltK hnn (nLw hk)) ?_
    refine w_alen (v := 64) ok dX1_openAt_9 (sLw_4 hk) (by decide) (by decide) (ltK hnn (nLw_4 hk)) ?_
    refine w_icmp_ge (tgt := 22) ok dX1_openAt_10 (by decide) (fun c2 => ?_) (fun c2 => ?_)
    · skip
      refine w_lconst (v := 0) ok dX1_openAt_22 (by decide) ?_
      exact w_lret ok fin dX1_openAt_23 rfl (by unfold F_X1_openAt; simp only [if_neg c1]; simp only [if_pos c2]; exact Pd.i)
    · skip
      refine w_aload_n ok dX1_openAt_13 0 rfl ?_
      refine w_getR ok dX1_openAt_14 (fX1_26 rfl) (congrArg Prod.fst (sLw hk)) rfl (rLw_4 hk ro) (ltK hnn (nLw hk)) ?_
      refine w_iload_n ok dX1_openAt_17 1 rfl ?_
      refine y_lald (q := a0.toNatClampNeg) ok dX1_openAt_18 (sLw_4 hk) (in_of c1 (show ¬ (nI 64 ≤ _) from c2) (sh_len (sLw_4 hk))) (by decide) (ltK hnn (nLw_4 hk)) (sdc hf (nLw_4 hk)) ?_
      refine w_goto (tgt := 23) ok dX1_openAt_19 (by decide) ?_
      exact w_lret ok fin dX1_openAt_23 rfl (by unfold F_X1_openAt; simp only [if_neg c1]; simp only [if_neg c2]; exact Pd.i)
def F_X1_partsOf (a0 : Int32) (I : SI) (J : SJ) : Int32 := if a0 = 2 then 0 else (if a0 < 36 then (if a0 = 35 then 1 else 2) else 0)
set_option maxHeartbeats 1000000 in
set_option maxRecDepth 40000 in
theorem c_X1_partsOf {I : SI} {J : SJ} {R : SR} {n g : Nat} {f : Fr} (ro : RO R) (hnn : nK ≤ n) (hf : f.1 = true) (a0 : Int32)   : MM 0 0 0 mX1_partsOf [.int a0] (eI f I) (eJ f J) R n g (Pd (some (.int (F_X1_partsOf a0 I J))) (eI f I) (eJ f J) R n g) := by
  refine MM.of (by decide) (Nat.le_of_ble_eq_true rfl) fun K ok fin => ?_
  show WK K 0 0 0 [(0, .int a0)] [] (eI f I) (eJ f J) R n g
  refine w_iload_n ok dX1_partsOf_0 0 rfl ?_
  refine w_iconst (v := 2) ok dX1_partsOf_1 (by decide) ?_
  refine w_icmp_eq (tgt := 11) ok dX1_partsOf_2 (by decide) (fun c1 => ?_) (fun c1 => ?_)
  · skip
    refine w_iconst (v := 0) ok dX1_partsOf_11 (by decide) ?_
    exact w_iret ok fin dX1_partsOf_12 rfl (by unfold F_X1_partsOf; simp only [if_pos c1]; exact Pd.i)
  · skip
    refine w_iload_n ok dX1_partsOf_5 0 rfl ?_
    refine w_bipush (v := 36) ok dX1_partsOf_6 (by decide) ?_
    refine w_icmp_lt (tgt := 13) ok dX1_partsOf_8 (by decide) (fun c2 => ?_) (fun c2 => ?_)
    · skip
      refine w_iload_n ok dX1_partsOf_13 0 rfl ?_
      refine w_bipush (v := 35) ok dX1_partsOf_14 (by decide) ?_
      refine w_icmp_ne (tgt := 23) ok dX1_partsOf_16 (by decide) (fun c3 => ?_) (fun c3 => ?_)
      · skip
        refine w_iconst (v := 2) ok dX1_partsOf_23 (by decide) ?_
        exact w_iret ok fin dX1_partsOf_24 rfl (by unfold F_X1_partsOf; simp only [if_neg c1]; simp only [if_pos c2]; simp only [if_neg c3]; exact Pd.i)
      · skip
        refine w_iconst (v := 1) ok dX1_partsOf_19 (by decide) ?_
        refine w_goto (tgt := 24) ok dX1_partsOf_20 (by decide) ?_
        exact w_iret ok fin dX1_partsOf_24 rfl (by unfold F_X1_partsOf; simp only [if_neg c1]; simp only [if_pos c2]; simp only [if_pos c3]; exact Pd.i)
    · skip
      refine w_iconst (v := 0) ok dX1_partsOf_11 (by decide) ?_
      exact w_iret ok fin dX1_partsOf_12 rfl (by unfold F_X1_partsOf; simp only [if_neg c1]; simp only [if_neg c2]; exact Pd.i)
def F_X1_leaf (a0 : Int32) (a1 : Int32) (a2 : Nat) (la2 : Nat) (I : SI) (J : SJ) : Int64 := if (a0 - 36) < 0 then a1.toInt64 else (if (nI la2) ≤ (a0 - 36) then a1.toInt64 else J a2 (a0 - 36).toNatClampNeg)
set_option maxHeartbeats 1000000 in
set_option maxRecDepth 40000 in
theorem c_X1_leaf {I : SI} {J : SJ} {R : SR} {n g : Nat} {f : Fr} (ro : RO R) (hnn : nK ≤ n) (hf : f.1 = true) (a0 : Int32) (a1 : Int32) {a2 : Nat} {la2 : Nat} (hsa2 : SH a2 = (15, la2)) (hka2 : a2 < n) (hda2 : sd f a2) (hlen : la2 < 2 ^ 31)   : MM 0 0 0 mX1_leaf [.int a0, .int a1, .ref a2] (eI f I) (eJ f J) R n g (Pd (some (.long (F_X1_leaf a0 a1 a2 la2 I J))) (eI f I) (eJ f J) R n g) := by
  refine MM.of (by decide) (Nat.le_of_ble_eq_true rfl) fun K ok fin => ?_
  show WK K 0 0 0 [(0, .int a0), (1, .int a1), (2, .ref a2)] [] (eI f I) (eJ f J) R n g
  refine w_iload_n ok dX1_leaf_0 0 rfl ?_
  refine w_bipush (v := 36) ok dX1_leaf_1 (by decide) ?_
  refine w_isub ok dX1_leaf_3 ?_
  refine w_istore_n ok dX1_leaf_4 rfl (by decide) rfl ?_
  refine w_iload_n ok dX1_leaf_5 0 rfl ?_
  refine w_if_lt (tgt := 21) ok dX1_leaf_6 (by decide) (fun c1 => ?_) (fun c1 => ?_)
  · skip
    refine w_iload_n ok dX1_leaf_21 2 rfl ?_
    refine w_i2l ok dX1_leaf_22 ?_
    exact w_lret ok fin dX1_leaf_23 rfl (by unfold F_X1_leaf; simp only [if_pos c1]; exact Pd.i)
  · skip
    refine w_iload_n ok dX1_leaf_9 0 rfl ?_
    refine w_aload_n ok dX1_leaf_10 3 rfl ?_
    refine w_alen (v := nI la2) ok dX1_leaf_11 hsa2 (by decide) rfl hka2 ?_
    refine w_icmp_ge (tgt := 21) ok dX1_leaf_12 (by decide) (fun c2 => ?_) (fun c2 => ?_)
    · skip
      refine w_iload_n ok dX1_leaf_21 2 rfl ?_
      refine w_i2l ok dX1_leaf_22 ?_
      exact w_lret ok fin dX1_leaf_23 rfl (by unfold F_X1_leaf; simp only [if_neg c1]; simp only [if_pos c2]; exact Pd.i)
    · skip
      refine w_aload_n ok dX1_leaf_15 3 rfl ?_
      refine w_iload_n ok dX1_leaf_16 0 rfl ?_
      refine y_lald (q := (a0 - 36).toNatClampNeg) ok dX1_leaf_17 hsa2 (in_of c1 (show ¬ (nI la2 ≤ _) from c2) (sh_len hsa2)) hlen hka2 hda2 ?_
      refine w_goto (tgt := 23) ok dX1_leaf_18 (by decide) ?_
      exact w_lret ok fin dX1_leaf_23 rfl (by unfold F_X1_leaf; simp only [if_neg c1]; simp only [if_neg c2]; exact Pd.i)
def T_X1_join_j148 (a0 : Int32) (a1 : Int64) (a2 : Int64) (I : SI) (J : SJ) : Int64 := if (0 : Int32) ≤ (lg_cmp a1 0) then a1 else (-a1)
def T_X1_join_j162 (a0 : Int32) (a1 : Int64) (a2 : Int64) (I : SI) (J : SJ) : Int64 := if (0 : Int32) ≤ (lg_cmp a2 0) then a2 else (-a2)
def F_X1_join (a0 : Int32) (a1 : Int64) (a2 : Int64) (I : SI) (J : SJ) : Int64 := if a0 = 7 then a1 + a2 else (if a0 = 8 then a1 - a2 else (if a0 = 9 then (if (lg_cmp (T_X1_join_j148 a0 a1 a2 I J) 0) = 0 then a1 * a2 else (if (lg_cmp (T_X1_join_j162 a0 a1 a2 I J) (1000000000000 / (T_X1_join_j148 a0 a1 a2 I J))) ≤ 0 then a1 * a2 else -9223372036854775808)) else (if a0 = 10 then (if (lg_cmp a2 0) = 0 then -9223372036854775808 else a1 / a2) else (if a0 = 11 then (if (0 : Int32) ≤ (lg_cmp a1 a2) then 0 else 1) else (if a0 = 12 then (if (0 : Int32) < (lg_cmp a1 a2) then 0 else 1) else (if a0 = 13 then (if (lg_cmp a1 a2) = 0 then 1 else 0) else (if a0 = 14 then (if (lg_cmp a1 a2) = 0 then 0 else 1) else (if a0 = 15 then (if (lg_cmp a1 a2) < 0 then 0 else 1) else (if a0 = 16 then (if (lg_cmp a1 a2) ≤ 0 then 0 else 1) else (if a0 = 17 then -9223372036854775808 else (if a0 = 18 then -9223372036854775808 else (if a0 = 19 then -9223372036854775808 else (if a0 = 20 then -9223372036854775808 else (if a0 = 21 then -9223372036854775808 else (if a0 = 22 then -9223372036854775808 else (if a0 = 23 then -9223372036854775808 else (if a0 = 24 then -9223372036854775808 else (if a0 = 25 then -9223372036854775808 else (if a0 = 26 then -9223372036854775808 else (if a0 = 27 then -9223372036854775808 else (if a0 = 28 then -9223372036854775808 else (if a0 = 29 then -9223372036854775808 else (if a0 = 30 then -9223372036854775808 else (if a0 = 31 then -9223372036854775808 else (if a0 = 32 then -9223372036854775808 else (if a0 = 33 then (if (lg_cmp a1 0) = 0 then (if (lg_cmp a2 0) = 0 then 0 else 1) else 1) else (if a0 = 34 then (if (lg_cmp a1 0) = 0 then 0 else (if (lg_cmp a2 0) = 0 then 0 else 1)) else -9223372036854775808)))))))))))))))))))))))))))
def H_X1_join (a0 : Int32) (a1 : Int64) (a2 : Int64) (I : SI) (J : SJ) : Prop := (¬ (a0 = 7) → ¬ (a0 = 8) → a0 = 9 → ¬ ((lg_cmp (T_X1_join_j148 a0 a1 a2 I J) 0) = 0) → ¬ (T_X1_join_j148 a0 a1 a2 I J) = 0) ∧ (¬ (a0 = 7) → ¬ (a0 = 8) → ¬ (a0 = 9) → a0 = 10 → ¬ ((lg_cmp a2 0) = 0) → ¬ a2 = 0)
set_option maxHeartbeats 3760000 in
set_option maxRecDepth 40000 in
theorem c_X1_join {I : SI} {J : SJ} {R : SR} {n g : Nat} {f : Fr} (ro : RO R) (hnn : nK ≤ n) (hf : f.1 = true) (a0 : Int32) (a1 : Int64) (a2 : Int64)  (hp : H_X1_join a0 a1 a2 I J) : MM 0 0 0 mX1_join [.int a0, .long a1, .long a2] (eI f I) (eJ f J) R n g (Pd (some (.long (F_X1_join a0 a1 a2 I J))) (eI f I) (eJ f J) R n g) := by
  refine MM.of (by decide) (Nat.le_of_ble_eq_true rfl) fun K ok fin => ?_
  show WK K 0 0 0 [(0, .int a0), (1, .long a1), (3, .long a2)] [] (eI f I) (eJ f J) R n g
  obtain ⟨hp1, hp2⟩ := hp
  refine w_iload_n ok dX1_join_0 0 rfl ?_
  by_cases c1 : a0 = 7
  · skip
    refine w_tabIn (tgt := 128) (off := 127) ok dX1_join_1 (by rw [c1]; decide) (by rw [c1]; decide) (by rw [c1]; rfl) (by decide) ?_
    refine w_lload_n ok dX1_join_128 1 rfl ?_
    refine w_lload_n ok dX1_join_129 2 rfl ?_
    refine w_ladd ok dX1_join_130 ?_
    exact w_lret ok fin dX1_join_131 rfl (by unfold F_X1_join; simp only [if_pos c1]; exact Pd.i)
  · skip
    by_cases c2 : a0 = 8
    · skip
      refine w_tabIn (tgt := 132) (off := 131) ok dX1_join_1 (by rw [c2]; decide) (by rw [c2]; decide) (by rw [c2]; rfl) (by decide) ?_
      refine w_lload_n ok dX1_join_132 1 rfl ?_
      refine w_lload_n ok dX1_join_133 2 rfl ?_
      refine w_lsub ok dX1_join_134 ?_
      exact w_lret ok fin dX1_join_135 rfl (by unfold F_X1_join; simp only [if_neg c1]; simp only [if_pos c2]; exact Pd.i)
    · skip
      by_cases c3 : a0 = 9
      · skip
        refine w_tabIn (tgt := 136) (off := 135) ok dX1_join_1 (by rw [c3]; decide) (by rw [c3]; decide) (by rw [c3]; rfl) (by decide) ?_
        refine w_lload_n ok dX1_join_136 1 rfl ?_
        refine w_lconst (v := 0) ok dX1_join_137 (by decide) ?_
        refine w_lcmp ok dX1_join_138 ?_
        have jn4 : WK K 0 0 148 [(0, .int a0), (1, .long a1), (3, .long a2)] [.long (T_X1_join_j148 a0 a1 a2 I J)] (eI f I) (eJ f J) R n g := by
          refine w_lstore ok dX1_join_148 (by decide) rfl ?_
          refine w_lload_n ok dX1_join_150 3 rfl ?_
          refine w_lconst (v := 0) ok dX1_join_151 (by decide) ?_
          refine w_lcmp ok dX1_join_152 ?_
          have jn5 : WK K 0 0 162 [(0, .int a0), (1, .long a1), (3, .long a2), (5, .long (T_X1_join_j148 a0 a1 a2 I J))] [.long (T_X1_join_j162 a0 a1 a2 I J)] (eI f I) (eJ f J) R n g := by
            refine w_lstore ok dX1_join_162 (by decide) rfl ?_
            refine w_lload ok dX1_join_164 4 rfl ?_
            refine w_lconst (v := 0) ok dX1_join_166 (by decide) ?_
            refine w_lcmp ok dX1_join_167 ?_
            refine w_if_eq (tgt := 189) ok dX1_join_168 (by decide) (fun c6 => ?_) (fun c6 => ?_)
            · skip
              refine w_lload_n ok dX1_join_189 2 rfl ?_
              refine w_lload_n ok dX1_join_190 3 rfl ?_
              refine w_lmul ok dX1_join_191 ?_
              exact w_lret ok fin dX1_join_192 rfl (by unfold F_X1_join; simp only [if_neg c1]; simp only [if_neg c2]; simp only [if_pos c3]; simp only [if_pos c6]; exact Pd.i)
            · skip
              refine w_lload ok dX1_join_171 0 rfl ?_
              refine w_ldc2 ok dX1_join_173 kX1_54 ?_
              refine w_lload ok dX1_join_176 4 rfl ?_
              refine w_ldiv ok dX1_join_178 (hp1 c1 c2 c3 c6) ?_
              refine w_lcmp ok dX1_join_179 ?_
              refine w_if_le (tgt := 189) ok dX1_join_180 (by decide) (fun c7 => ?_) (fun c7 => ?_)
              · skip
                refine w_lload_n ok dX1_join_189 2 rfl ?_
                refine w_lload_n ok dX1_join_190 3 rfl ?_
                refine w_lmul ok dX1_join_191 ?_
                exact w_lret ok fin dX1_join_192 rfl (by unfold F_X1_join; simp only [if_neg c1]; simp only [if_neg c2]; simp only [if_pos c3]; simp only [if_neg c6]; simp only [if_pos c7]; exact Pd.i)
              · skip
                refine w_ldc2 ok dX1_join_183 kX1_58 ?_
                refine w_goto (tgt := 192) ok dX1_join_186 (by decide) ?_
                exact w_lret ok fin dX1_join_192 rfl (by unfold F_X1_join; simp only [if_neg c1]; simp only [if_neg c2]; simp only [if_pos c3]; simp only [if_neg c6]; simp only [if_neg c7]; exact Pd.i)
          refine w_if_ge (tgt := 161) ok dX1_join_153 (by decide) (fun c8 => ?_) (fun c8 => ?_)
          · skip
            refine w_lload_n ok dX1_join_161 3 rfl ?_
            have eT : (T_X1_join_j162 a0 a1 a2 I J) = a2 := by
              unfold T_X1_join_j162; exact (if_pos c8).trans (rfl)
            refine w_loc [1, 2, 3, 0] rfl ?_
            have jj := jn5
            rw [eT] at jj
            exact jj
          · skip
            refine w_lload_n ok dX1_join_156 3 rfl ?_
            refine w_lneg ok dX1_join_157 ?_
            refine w_goto (tgt := 162) ok dX1_join_158 (by decide) ?_
            have eT : (T_X1_join_j162 a0 a1 a2 I J) = (-a2) := by
              unfold T_X1_join_j162; exact (if_neg c8).trans (rfl)
            refine w_loc [1, 2, 3, 0] rfl ?_
            have jj := jn5
            rw [eT] at jj
            exact jj
        refine w_if_ge (tgt := 147) ok dX1_join_139 (by decide) (fun c9 => ?_) (fun c9 => ?_)
        · skip
          refine w_lload_n ok dX1_join_147 1 rfl ?_
          have eT : (T_X1_join_j148 a0 a1 a2 I J) = a1 := by
            unfold T_X1_join_j148; exact (if_pos c9).trans (rfl)
          refine w_loc [0, 1, 2] rfl ?_
          have jj := jn4
          rw [eT] at jj
          exact jj
        · skip
          refine w_lload_n ok dX1_join_142 1 rfl ?_
          refine w_lneg ok dX1_join_143 ?_
          refine w_goto (tgt := 148) ok dX1_join_144 (by decide) ?_
          have eT : (T_X1_join_j148 a0 a1 a2 I J) = (-a1) := by
            unfold T_X1_join_j148; exact (if_neg c9).trans (rfl)
          refine w_loc [0, 1, 2] rfl ?_
          have jj := jn4
          rw [eT] at jj
          exact jj
      · skip
        by_cases c10 : a0 = 10
        · skip
          refine w_tabIn (tgt := 193) (off := 192) ok dX1_join_1 (by rw [c10]; decide) (by rw [c10]; decide) (by rw [c10]; rfl) (by decide) ?_
          refine w_lload_n ok dX1_join_193 2 rfl ?_
          refine w_lconst (v := 0) ok dX1_join_194 (by decide) ?_
          refine w_lcmp ok dX1_join_195 ?_
          refine w_if_ne (tgt := 205) ok dX1_join_196 (by decide) (fun c11 => ?_) (fun c11 => ?_)
          · skip
            refine w_lload_n ok dX1_join_205 1 rfl ?_
            refine w_lload_n ok dX1_join_206 2 rfl ?_
            refine w_ldiv ok dX1_join_207 (hp2 c1 c2 c3 c10 c11) ?_
            exact w_lret ok fin dX1_join_208 rfl (by unfold F_X1_join; simp only [if_neg c1]; simp only [if_neg c2]; simp only [if_neg c3]; simp only [if_pos c10]; simp only [if_neg c11]; exact Pd.i)
          · skip
            refine w_ldc2 ok dX1_join_199 kX1_58 ?_
            refine w_goto (tgt := 208) ok dX1_join_202 (by decide) ?_
            exact w_lret ok fin dX1_join_208 rfl (by unfold F_X1_join; simp only [if_neg c1]; simp only [if_neg c2]; simp only [if_neg c3]; simp only [if_pos c10]; simp only [if_pos c11]; exact Pd.i)
        · skip
          by_cases c12 : a0 = 11
          · skip
            refine w_tabIn (tgt := 209) (off := 208) ok dX1_join_1 (by rw [c12]; decide) (by rw [c12]; decide) (by rw [c12]; rfl) (by decide) ?_
            refine w_lload_n ok dX1_join_209 1 rfl ?_
            refine w_lload_n ok dX1_join_210 2 rfl ?_
            refine w_lcmp ok dX1_join_211 ?_
            refine w_if_ge (tgt := 219) ok dX1_join_212 (by decide) (fun c13 => ?_) (fun c13 => ?_)
            · skip
              refine w_lconst (v := 0) ok dX1_join_219 (by decide) ?_
              exact w_lret ok fin dX1_join_220 rfl (by unfold F_X1_join; simp only [if_neg c1]; simp only [if_neg c2]; simp only [if_neg c3]; simp only [if_neg c10]; simp only [if_pos c12]; simp only [if_pos c13]; exact Pd.i)
            · skip
              refine w_lconst (v := 1) ok dX1_join_215 (by decide) ?_
              refine w_goto (tgt := 220) ok dX1_join_216 (by decide) ?_
              exact w_lret ok fin dX1_join_220 rfl (by unfold F_X1_join; simp only [if_neg c1]; simp only [if_neg c2]; simp only [if_neg c3]; simp only [if_neg c10]; simp only [if_pos c12]; simp only [if_neg c13]; exact Pd.i)
          · skip
            by_cases c14 : a0 = 12
            · skip
              refine w_tabIn (tgt := 221) (off := 220) ok dX1_join_1 (by rw [c14]; decide) (by rw [c14]; decide) (by rw [c14]; rfl) (by decide) ?_
              refine w_lload_n ok dX1_join_221 1 rfl ?_
              refine w_lload_n ok dX1_join_222 2 rfl ?_
              refine w_lcmp ok dX1_join_223 ?_
              refine w_if_gt (tgt := 231) ok dX1_join_224 (by decide) (fun c15 => ?_) (fun c15 => ?_)
              · skip
                refine w_lconst (v := 0) ok dX1_join_231 (by decide) ?_
                exact w_lret ok fin dX1_join_232 rfl (by unfold F_X1_join; simp only [if_neg c1]; simp only [if_neg c2]; simp only [if_neg c3]; simp only [if_neg c10]; simp only [if_neg c12]; simp only [if_pos c14]; simp only [if_pos c15]; exact Pd.i)
              · skip
                refine w_lconst (v := 1) ok dX1_join_227 (by decide) ?_
                refine w_goto (tgt := 232) ok dX1_join_228 (by decide) ?_
                exact w_lret ok fin dX1_join_232 rfl (by unfold F_X1_join; simp only [if_neg c1]; simp only [if_neg c2]; simp only [if_neg c3]; simp only [if_neg c10]; simp only [if_neg c12]; simp only [if_pos c14]; simp only [if_neg c15]; exact Pd.i)
            · skip
              by_cases c16 : a0 = 13
              · skip
                refine w_tabIn (tgt := 233) (off := 232) ok dX1_join_1 (by rw [c16]; decide) (by rw [c16]; decide) (by rw [c16]; rfl) (by decide) ?_
                refine w_lload_n ok dX1_join_233 1 rfl ?_
                refine w_lload_n ok dX1_join_234 2 rfl ?_
                refine w_lcmp ok dX1_join_235 ?_
                refine w_if_ne (tgt := 243) ok dX1_join_236 (by decide) (fun c17 => ?_) (fun c17 => ?_)
                · skip
                  refine w_lconst (v := 0) ok dX1_join_243 (by decide) ?_
                  exact w_lret ok fin dX1_join_244 rfl (by unfold F_X1_join; simp only [if_neg c1]; simp only [if_neg c2]; simp only [if_neg c3]; simp only [if_neg c10]; simp only [if_neg c12]; simp only [if_neg c14]; simp only [if_pos c16]; simp only [if_neg c17]; exact Pd.i)
                · skip
                  refine w_lconst (v := 1) ok dX1_join_239 (by decide) ?_
                  refine w_goto (tgt := 244) ok dX1_join_240 (by decide) ?_
                  exact w_lret ok fin dX1_join_244 rfl (by unfold F_X1_join; simp only [if_neg c1]; simp only [if_neg c2]; simp only [if_neg c3]; simp only [if_neg c10]; simp only [if_neg c12]; simp only [if_neg c14]; simp only [if_pos c16]; simp only [if_pos c17]; exact Pd.i)
              · skip
                by_cases c18 : a0 = 14
                · skip
                  refine w_tabIn (tgt := 245) (off := 244) ok dX1_join_1 (by rw [c18]; decide) (by rw [c18]; decide) (by rw [c18]; rfl) (by decide) ?_
                  refine w_lload_n ok dX1_join_245 1 rfl ?_
                  refine w_lload_n ok dX1_join_246 2 rfl ?_
                  refine w_lcmp ok dX1_join_247 ?_
                  refine w_if_eq (tgt := 255) ok dX1_join_248 (by decide) (fun c19 => ?_) (fun c19 => ?_)
                  · skip
                    refine w_lconst (v := 0) ok dX1_join_255 (by decide) ?_
                    exact w_lret ok fin dX1_join_256 rfl (by unfold F_X1_join; simp only [if_neg c1]; simp only [if_neg c2]; simp only [if_neg c3]; simp only [if_neg c10]; simp only [if_neg c12]; simp only [if_neg c14]; simp only [if_neg c16]; simp only [if_pos c18]; simp only [if_pos c19]; exact Pd.i)
                  · skip
                    refine w_lconst (v := 1) ok dX1_join_251 (by decide) ?_
                    refine w_goto (tgt := 256) ok dX1_join_252 (by decide) ?_
                    exact w_lret ok fin dX1_join_256 rfl (by unfold F_X1_join; simp only [if_neg c1]; simp only [if_neg c2]; simp only [if_neg c3]; simp only [if_neg c10]; simp only [if_neg c12]; simp only [if_neg c14]; simp only [if_neg c16]; simp only [if_pos c18]; simp only [if_neg c19]; exact Pd.i)
                · skip
                  by_cases c20 : a0 = 15
                  · skip
                    refine w_tabIn (tgt := 257) (off := 256) ok dX1_join_1 (by rw [c20]; decide) (by rw [c20]; decide) (by rw [c20]; rfl) (by decide) ?_
                    refine w_lload_n ok dX1_join_257 1 rfl ?_
                    refine w_lload_n ok dX1_join_258 2 rfl ?_
                    refine w_lcmp ok dX1_join_259 ?_
                    refine w_if_lt (tgt := 267) ok dX1_join_260 (by decide) (fun c21 => ?_) (fun c21 => ?_)
                    · skip
                      refine w_lconst (v := 0) ok dX1_join_267 (by decide) ?_
                      exact w_lret ok fin dX1_join_268 rfl (by unfold F_X1_join; simp only [if_neg c1]; simp only [if_neg c2]; simp only [if_neg c3]; simp only [if_neg c10]; simp only [if_neg c12]; simp only [if_neg c14]; simp only [if_neg c16]; simp only [if_neg c18]; simp only [if_pos c20]; simp only [if_pos c21]; exact Pd.i)
                    · skip
                      refine w_lconst (v := 1) ok dX1_join_263 (by decide) ?_
                      refine w_goto (tgt := 268) ok dX1_join_264 (by decide) ?_
                      exact w_lret ok fin dX1_join_268 rfl (by unfold F_X1_join; simp only [if_neg c1]; simp only [if_neg c2]; simp only [if_neg c3]; simp only [if_neg c10]; simp only [if_neg c12]; simp only [if_neg c14]; simp only [if_neg c16]; simp only [if_neg c18]; simp only [if_pos c20]; simp only [if_neg c21]; exact Pd.i)
                  · skip
                    by_cases c22 : a0 = 16
                    · skip
                      refine w_tabIn (tgt := 269) (off := 268) ok dX1_join_1 (by rw [c22]; decide) (by rw [c22]; decide) (by rw [c22]; rfl) (by decide) ?_
                      refine w_lload_n ok dX1_join_269 1 rfl ?_
                      refine w_lload_n ok dX1_join_270 2 rfl ?_
                      refine w_lcmp ok dX1_join_271 ?_
                      refine w_if_le (tgt := 279) ok dX1_join_272 (by decide) (fun c23 => ?_) (fun c23 => ?_)
                      · skip
                        refine w_lconst (v := 0) ok dX1_join_279 (by decide) ?_
                        exact w_lret ok fin dX1_join_280 rfl (by unfold F_X1_join; simp only [if_neg c1]; simp only [if_neg c2]; simp only [if_neg c3]; simp only [if_neg c10]; simp only [if_neg c12]; simp only [if_neg c14]; simp only [if_neg c16]; simp only [if_neg c18]; simp only [if_neg c20]; simp only [if_pos c22]; simp only [if_pos c23]; exact Pd.i)
                      · skip
                        refine w_lconst (v := 1) ok dX1_join_275 (by decide) ?_
                        refine w_goto (tgt := 280) ok dX1_join_276 (by decide) ?_
                        exact w_lret ok fin dX1_join_280 rfl (by unfold F_X1_join; simp only [if_neg c1]; simp only [if_neg c2]; simp only [if_neg c3]; simp only [if_neg c10]; simp only [if_neg c12]; simp only [if_neg c14]; simp only [if_neg c16]; simp only [if_neg c18]; simp only [if_neg c20]; simp only [if_pos c22]; simp only [if_neg c23]; exact Pd.i)
                    · skip
                      by_cases c24 : a0 = 17
                      · skip
                        refine w_tabIn (tgt := 317) (off := 316) ok dX1_join_1 (by rw [c24]; decide) (by rw [c24]; decide) (by rw [c24]; rfl) (by decide) ?_
                        refine w_ldc2 ok dX1_join_317 kX1_58 ?_
                        exact w_lret ok fin dX1_join_320 rfl (by unfold F_X1_join; simp only [if_neg c1]; simp only [if_neg c2]; simp only [if_neg c3]; simp only [if_neg c10]; simp only [if_neg c12]; simp only [if_neg c14]; simp only [if_neg c16]; simp only [if_neg c18]; simp only [if_neg c20]; simp only [if_neg c22]; simp only [if_pos c24]; exact Pd.i)
                      · skip
                        by_cases c25 : a0 = 18
                        · skip
                          refine w_tabIn (tgt := 317) (off := 316) ok dX1_join_1 (by rw [c25]; decide) (by rw [c25]; decide) (by rw [c25]; rfl) (by decide) ?_
                          refine w_ldc2 ok dX1_join_317 kX1_58 ?_
                          exact w_lret ok fin dX1_join_320 rfl (by unfold F_X1_join; simp only [if_neg c1]; simp only [if_neg c2]; simp only [if_neg c3]; simp only [if_neg c10]; simp only [if_neg c12]; simp only [if_neg c14]; simp only [if_neg c16]; simp only [if_neg c18]; simp only [if_neg c20]; simp only [if_neg c22]; simp only [if_neg c24]; simp only [if_pos c25]; exact Pd.i)
                        · skip
                          by_cases c26 : a0 = 19
                          · skip
                            refine w_tabIn (tgt := 317) (off := 316) ok dX1_join_1 (by rw [c26]; decide) (by rw [c26]; decide) (by rw [c26]; rfl) (by decide) ?_
                            refine w_ldc2 ok dX1_join_317 kX1_58 ?_
                            exact w_lret ok fin dX1_join_320 rfl (by unfold F_X1_join; simp only [if_neg c1]; simp only [if_neg c2]; simp only [if_neg c3]; simp only [if_neg c10]; simp only [if_neg c12]; simp only [if_neg c14]; simp only [if_neg c16]; simp only [if_neg c18]; simp only [if_neg c20]; simp only [if_neg c22]; simp only [if_neg c24]; simp only [if_neg c25]; simp only [if_pos c26]; exact Pd.i)
                          · skip
                            by_cases c27 : a0 = 20
                            · skip
                              refine w_tabIn (tgt := 317) (off := 316) ok dX1_join_1 (by rw [c27]; decide) (by rw [c27]; decide) (by rw [c27]; rfl) (by decide) ?_
                              refine w_ldc2 ok dX1_join_317 kX1_58 ?_
                              exact w_lret ok fin dX1_join_320 rfl (by unfold F_X1_join; simp only [if_neg c1]; simp only [if_neg c2]; simp only [if_neg c3]; simp only [if_neg c10]; simp only [if_neg c12]; simp only [if_neg c14]; simp only [if_neg c16]; simp only [if_neg c18]; simp only [if_neg c20]; simp only [if_neg c22]; simp only [if_neg c24]; simp only [if_neg c25]; simp only [if_neg c26]; simp only [if_pos c27]; exact Pd.i)
                            · skip
                              by_cases c28 : a0 = 21
                              · skip
                                refine w_tabIn (tgt := 317) (off := 316) ok dX1_join_1 (by rw [c28]; decide) (by rw [c28]; decide) (by rw [c28]; rfl) (by decide) ?_
                                refine w_ldc2 ok dX1_join_317 kX1_58 ?_
                                exact w_lret ok fin dX1_join_320 rfl (by unfold F_X1_join; simp only [if_neg c1]; simp only [if_neg c2]; simp only [if_neg c3]; simp only [if_neg c10]; simp only [if_neg c12]; simp only [if_neg c14]; simp only [if_neg c16]; simp only [if_neg c18]; simp only [if_neg c20]; simp only [if_neg c22]; simp only [if_neg c24]; simp only [if_neg c25]; simp only [if_neg c26]; simp only [if_neg c27]; simp only [if_pos c28]; exact Pd.i)
                              · skip
                                by_cases c29 : a0 = 22
                                · skip
                                  refine w_tabIn (tgt := 317) (off := 316) ok dX1_join_1 (by rw [c29]; decide) (by rw [c29]; decide) (by rw [c29]; rfl) (by decide) ?_
                                  refine w_ldc2 ok dX1_join_317 kX1_58 ?_
                                  exact w_lret ok fin dX1_join_320 rfl (by unfold F_X1_join; simp only [if_neg c1]; simp only [if_neg c2]; simp only [if_neg c3]; simp only [if_neg c10]; simp only [if_neg c12]; simp only [if_neg c14]; simp only [if_neg c16]; simp only [if_neg c18]; simp only [if_neg c20]; simp only [if_neg c22]; simp only [if_neg c24]; simp only [if_neg c25]; simp only [if_neg c26]; simp only [if_neg c27]; simp only [if_neg c28]; simp only [if_pos c29]; exact Pd.i)
                                · skip
                                  by_cases c30 : a0 = 23
                                  · skip
                                    refine w_tabIn (tgt := 317) (off := 316) ok dX1_join_1 (by rw [c30]; decide) (by rw [c30]; decide) (by rw [c30]; rfl) (by decide) ?_
                                    refine w_ldc2 ok dX1_join_317 kX1_58 ?_
                                    exact w_lret ok fin dX1_join_320 rfl (by unfold F_X1_join; simp only [if_neg c1]; simp only [if_neg c2]; simp only [if_neg c3]; simp only [if_neg c10]; simp only [if_neg c12]; simp only [if_neg c14]; simp only [if_neg c16]; simp only [if_neg c18]; simp only [if_neg c20]; simp only [if_neg c22]; simp only [if_neg c24]; simp only [if_neg c25]; simp only [if_neg c26]; simp only [if_neg c27]; simp only [if_neg c28]; simp only [if_neg c29]; simp only [if_pos c30]; exact Pd.i)
                                  · skip
                                    by_cases c31 : a0 = 24
                                    · skip
                                      refine w_tabIn (tgt := 317) (off := 316) ok dX1_join_1 (by rw [c31]; decide) (by rw [c31]; decide) (by rw [c31]; rfl) (by decide) ?_
                                      refine w_ldc2 ok dX1_join_317 kX1_58 ?_
                                      exact w_lret ok fin dX1_join_320 rfl (by unfold F_X1_join; simp only [if_neg c1]; simp only [if_neg c2]; simp only [if_neg c3]; simp only [if_neg c10]; simp only [if_neg c12]; simp only [if_neg c14]; simp only [if_neg c16]; simp only [if_neg c18]; simp only [if_neg c20]; simp only [if_neg c22]; simp only [if_neg c24]; simp only [if_neg c25]; simp only [if_neg c26]; simp only [if_neg c27]; simp only [if_neg c28]; simp only [if_neg c29]; simp only [if_neg c30]; simp only [if_pos c31]; exact Pd.i)
                                    · skip
                                      by_cases c32 : a0 = 25
                                      · skip
                                        refine w_tabIn (tgt := 317) (off := 316) ok dX1_join_1 (by rw [c32]; decide) (by rw [c32]; decide) (by rw [c32]; rfl) (by decide) ?_
                                        refine w_ldc2 ok dX1_join_317 kX1_58 ?_
                                        exact w_lret ok fin dX1_join_320 rfl (by unfold F_X1_join; simp only [if_neg c1]; simp only [if_neg c2]; simp only [if_neg c3]; simp only [if_neg c10]; simp only [if_neg c12]; simp only [if_neg c14]; simp only [if_neg c16]; simp only [if_neg c18]; simp only [if_neg c20]; simp only [if_neg c22]; simp only [if_neg c24]; simp only [if_neg c25]; simp only [if_neg c26]; simp only [if_neg c27]; simp only [if_neg c28]; simp only [if_neg c29]; simp only [if_neg c30]; simp only [if_neg c31]; simp only [if_pos c32]; exact Pd.i)
                                      · skip
                                        by_cases c33 : a0 = 26
                                        · skip
                                          refine w_tabIn (tgt := 317) (off := 316) ok dX1_join_1 (by rw [c33]; decide) (by rw [c33]; decide) (by rw [c33]; rfl) (by decide) ?_
                                          refine w_ldc2 ok dX1_join_317 kX1_58 ?_
                                          exact w_lret ok fin dX1_join_320 rfl (by unfold F_X1_join; simp only [if_neg c1]; simp only [if_neg c2]; simp only [if_neg c3]; simp only [if_neg c10]; simp only [if_neg c12]; simp only [if_neg c14]; simp only [if_neg c16]; simp only [if_neg c18]; simp only [if_neg c20]; simp only [if_neg c22]; simp only [if_neg c24]; simp only [if_neg c25]; simp only [if_neg c26]; simp only [if_neg c27]; simp only [if_neg c28]; simp only [if_neg c29]; simp only [if_neg c30]; simp only [if_neg c31]; simp only [if_neg c32]; simp only [if_pos c33]; exact Pd.i)
                                        · skip
                                          by_cases c34 : a0 = 27
                                          · skip
                                            refine w_tabIn (tgt := 317) (off := 316) ok dX1_join_1 (by rw [c34]; decide) (by rw [c34]; decide) (by rw [c34]; rfl) (by decide) ?_
                                            refine w_ldc2 ok dX1_join_317 kX1_58 ?_
                                            exact w_lret ok fin dX1_join_320 rfl (by unfold F_X1_join; simp only [if_neg c1]; simp only [if_neg c2]; simp only [if_neg c3]; simp only [if_neg c10]; simp only [if_neg c12]; simp only [if_neg c14]; simp only [if_neg c16]; simp only [if_neg c18]; simp only [if_neg c20]; simp only [if_neg c22]; simp only [if_neg c24]; simp only [if_neg c25]; simp only [if_neg c26]; simp only [if_neg c27]; simp only [if_neg c28]; simp only [if_neg c29]; simp only [if_neg c30]; simp only [if_neg c31]; simp only [if_neg c32]; simp only [if_neg c33]; simp only [if_pos c34]; exact Pd.i)
                                          · skip
                                            by_cases c35 : a0 = 28
                                            · skip
                                              refine w_tabIn (tgt := 317) (off := 316) ok dX1_join_1 (by rw [c35]; decide) (by rw [c35]; decide) (by rw [c35]; rfl) (by decide) ?_
                                              refine w_ldc2 ok dX1_join_317 kX1_58 ?_
                                              exact w_lret ok fin dX1_join_320 rfl (by unfold F_X1_join; simp only [if_neg c1]; simp only [if_neg c2]; simp only [if_neg c3]; simp only [if_neg c10]; simp only [if_neg c12]; simp only [if_neg c14]; simp only [if_neg c16]; simp only [if_neg c18]; simp only [if_neg c20]; simp only [if_neg c22]; simp only [if_neg c24]; simp only [if_neg c25]; simp only [if_neg c26]; simp only [if_neg c27]; simp only [if_neg c28]; simp only [if_neg c29]; simp only [if_neg c30]; simp only [if_neg c31]; simp only [if_neg c32]; simp only [if_neg c33]; simp only [if_neg c34]; simp only [if_pos c35]; exact Pd.i)
                                            · skip
                                              by_cases c36 : a0 = 29
                                              · skip
                                                refine w_tabIn (tgt := 317) (off := 316) ok dX1_join_1 (by rw [c36]; decide) (by rw [c36]; decide) (by rw [c36]; rfl) (by decide) ?_
                                                refine w_ldc2 ok dX1_join_317 kX1_58 ?_
                                                exact w_lret ok fin dX1_join_320 rfl (by unfold F_X1_join; simp only [if_neg c1]; simp only [if_neg c2]; simp only [if_neg c3]; simp only [if_neg c10]; simp only [if_neg c12]; simp only [if_neg c14]; simp only [if_neg c16]; simp only [if_neg c18]; simp only [if_neg c20]; simp only [if_neg c22]; simp only [if_neg c24]; simp only [if_neg c25]; simp only [if_neg c26]; simp only [if_neg c27]; simp only [if_neg c28]; simp only [if_neg c29]; simp only [if_neg c30]; simp only [if_neg c31]; simp only [if_neg c32]; simp only [if_neg c33]; simp only [if_neg c34]; simp only [if_neg c35]; simp only [if_pos c36]; exact Pd.i)
                                              · skip
                                                by_cases c37 : a0 = 30
                                                · skip
                                                  refine w_tabIn (tgt := 317) (off := 316) ok dX1_join_1 (by rw [c37]; decide) (by rw [c37]; decide) (by rw [c37]; rfl) (by decide) ?_
                                                  refine w_ldc2 ok dX1_join_317 kX1_58 ?_
                                                  exact w_lret ok fin dX1_join_320 rfl (by unfold F_X1_join; simp only [if_neg c1]; simp only [if_neg c2]; simp only [if_neg c3]; simp only [if_neg c10]; simp only [if_neg c12]; simp only [if_neg c14]; simp only [if_neg c16]; simp only [if_neg c18]; simp only [if_neg c20]; simp only [if_neg c22]; simp only [if_neg c24]; simp only [if_neg c25]; simp only [if_neg c26]; simp only [if_neg c27]; simp only [if_neg c28]; simp only [if_neg c29]; simp only [if_neg c30]; simp only [if_neg c31]; simp only [if_neg c32]; simp only [if_neg c33]; simp only [if_neg c34]; simp only [if_neg c35]; simp only [if_neg c36]; simp only [if_pos c37]; exact Pd.i)
                                                · skip
                                                  by_cases c38 : a0 = 31
                                                  · skip
                                                    refine w_tabIn (tgt := 317) (off := 316) ok dX1_join_1 (by rw [c38]; decide) (by rw [c38]; decide) (by rw [c38]; rfl) (by decide) ?_
                                                    refine w_ldc2 ok dX1_join_317 kX1_58 ?_
                                                    exact w_lret ok fin dX1_join_320 rfl (by unfold F_X1_join; simp only [if_neg c1]; simp only [if_neg c2]; simp only [if_neg c3]; simp only [if_neg c10]; simp only [if_neg c12]; simp only [if_neg c14]; simp only [if_neg c16]; simp only [if_neg c18]; simp only [if_neg c20]; simp only [if_neg c22]; simp only [if_neg c24]; simp only [if_neg c25]; simp only [if_neg c26]; simp only [if_neg c27]; simp only [if_neg c28]; simp only [if_neg c29]; simp only [if_neg c30]; simp only [if_neg c31]; simp only [if_neg c32]; simp only [if_neg c33]; simp only [if_neg c34]; simp only [if_neg c35]; simp only [if_neg c36]; simp only [if_neg c37]; simp only [if_pos c38]; exact Pd.i)
                                                  · skip
                                                    by_cases c39 : a0 = 32
                                                    · skip
                                                      refine w_tabIn (tgt := 317) (off := 316) ok dX1_join_1 (by rw [c39]; decide) (by rw [c39]; decide) (by rw [c39]; rfl) (by decide) ?_
                                                      refine w_ldc2 ok dX1_join_317 kX1_58 ?_
                                                      exact w_lret ok fin dX1_join_320 rfl (by unfold F_X1_join; simp only [if_neg c1]; simp only [if_neg c2]; simp only [if_neg c3]; simp only [if_neg c10]; simp only [if_neg c12]; simp only [if_neg c14]; simp only [if_neg c16]; simp only [if_neg c18]; simp only [if_neg c20]; simp only [if_neg c22]; simp only [if_neg c24]; simp only [if_neg c25]; simp only [if_neg c26]; simp only [if_neg c27]; simp only [if_neg c28]; simp only [if_neg c29]; simp only [if_neg c30]; simp only [if_neg c31]; simp only [if_neg c32]; simp only [if_neg c33]; simp only [if_neg c34]; simp only [if_neg c35]; simp only [if_neg c36]; simp only [if_neg c37]; simp only [if_neg c38]; simp only [if_pos c39]; exact Pd.i)
                                                    · skip
                                                      by_cases c40 : a0 = 33
                                                      · skip
                                                        refine w_tabIn (tgt := 299) (off := 298) ok dX1_join_1 (by rw [c40]; decide) (by rw [c40]; decide) (by rw [c40]; rfl) (by decide) ?_
                                                        refine w_lload_n ok dX1_join_299 1 rfl ?_
                                                        refine w_lconst (v := 0) ok dX1_join_300 (by decide) ?_
                                                        refine w_lcmp ok dX1_join_301 ?_
                                                        refine w_if_ne (tgt := 311) ok dX1_join_302 (by decide) (fun c41 => ?_) (fun c41 => ?_)
                                                        · skip
                                                          refine w_lconst (v := 1) ok dX1_join_311 (by decide) ?_
                                                          refine w_goto (tgt := 316) ok dX1_join_312 (by decide) ?_
                                                          exact w_lret ok fin dX1_join_316 rfl (by unfold F_X1_join; simp only [if_neg c1]; simp only [if_neg c2]; simp only [if_neg c3]; simp only [if_neg c10]; simp only [if_neg c12]; simp only [if_neg c14]; simp only [if_neg c16]; simp only [if_neg c18]; simp only [if_neg c20]; simp only [if_neg c22]; simp only [if_neg c24]; simp only [if_neg c25]; simp only [if_neg c26]; simp only [if_neg c27]; simp only [if_neg c28]; simp only [if_neg c29]; simp only [if_neg c30]; simp only [if_neg c31]; simp only [if_neg c32]; simp only [if_neg c33]; simp only [if_neg c34]; simp only [if_neg c35]; simp only [if_neg c36]; simp only [if_neg c37]; simp only [if_neg c38]; simp only [if_neg c39]; simp only [if_pos c40]; simp only [if_neg c41]; exact Pd.i)
                                                        · skip
                                                          refine w_lload_n ok dX1_join_305 2 rfl ?_
                                                          refine w_lconst (v := 0) ok dX1_join_306 (by decide) ?_
                                                          refine w_lcmp ok dX1_join_307 ?_
                                                          refine w_if_eq (tgt := 315) ok dX1_join_308 (by decide) (fun c42 => ?_) (fun c42 => ?_)
                                                          · skip
                                                            refine w_lconst (v := 0) ok dX1_join_315 (by decide) ?_
                                                            exact w_lret ok fin dX1_join_316 rfl (by unfold F_X1_join; simp only [if_neg c1]; simp only [if_neg c2]; simp only [if_neg c3]; simp only [if_neg c10]; simp only [if_neg c12]; simp only [if_neg c14]; simp only [if_neg c16]; simp only [if_neg c18]; simp only [if_neg c20]; simp only [if_neg c22]; simp only [if_neg c24]; simp only [if_neg c25]; simp only [if_neg c26]; simp only [if_neg c27]; simp only [if_neg c28]; simp only [if_neg c29]; simp only [if_neg c30]; simp only [if_neg c31]; simp only [if_neg c32]; simp only [if_neg c33]; simp only [if_neg c34]; simp only [if_neg c35]; simp only [if_neg c36]; simp only [if_neg c37]; simp only [if_neg c38]; simp only [if_neg c39]; simp only [if_pos c40]; simp only [if_pos c41]; simp only [if_pos c42]; exact Pd.i)
                                                          · skip
                                                            refine w_lconst (v := 1) ok dX1_join_311 (by decide) ?_
                                                            refine w_goto (tgt := 316) ok dX1_join_312 (by decide) ?_
                                                            exact w_lret ok fin dX1_join_316 rfl (by unfold F_X1_join; simp only [if_neg c1]; simp only [if_neg c2]; simp only [if_neg c3]; simp only [if_neg c10]; simp only [if_neg c12]; simp only [if_neg c14]; simp only [if_neg c16]; simp only [if_neg c18]; simp only [if_neg c20]; simp only [if_neg c22]; simp only [if_neg c24]; simp only [if_neg c25]; simp only [if_neg c26]; simp only [if_neg c27]; simp only [if_neg c28]; simp only [if_neg c29]; simp only [if_neg c30]; simp only [if_neg c31]; simp only [if_neg c32]; simp only [if_neg c33]; simp only [if_neg c34]; simp only [if_neg c35]; simp only [if_neg c36]; simp only [if_neg c37]; simp only [if_neg c38]; simp only [if_neg c39]; simp only [if_pos c40]; simp only [if_pos c41]; simp only [if_neg c42]; exact Pd.i)
                                                      · skip
                                                        by_cases c43 : a0 = 34
                                                        · skip
                                                          refine w_tabIn (tgt := 281) (off := 280) ok dX1_join_1 (by rw [c43]; decide) (by rw [c43]; decide) (by rw [c43]; rfl) (by decide) ?_
                                                          refine w_lload_n ok dX1_join_281 1 rfl ?_
                                                          refine w_lconst (v := 0) ok dX1_join_282 (by decide) ?_
                                                          refine w_lcmp ok dX1_join_283 ?_
                                                          refine w_if_eq (tgt := 297) ok dX1_join_284 (by decide) (fun c44 => ?_) (fun c44 => ?_)
                                                          · skip
                                                            refine w_lconst (v := 0) ok dX1_join_297 (by decide) ?_
                                                            exact w_lret ok fin dX1_join_298 rfl (by unfold F_X1_join; simp only [if_neg c1]; simp only [if_neg c2]; simp only [if_neg c3]; simp only [if_neg c10]; simp only [if_neg c12]; simp only [if_neg c14]; simp only [if_neg c16]; simp only [if_neg c18]; simp only [if_neg c20]; simp only [if_neg c22]; simp only [if_neg c24]; simp only [if_neg c25]; simp only [if_neg c26]; simp only [if_neg c27]; simp only [if_neg c28]; simp only [if_neg c29]; simp only [if_neg c30]; simp only [if_neg c31]; simp only [if_neg c32]; simp only [if_neg c33]; simp only [if_neg c34]; simp only [if_neg c35]; simp only [if_neg c36]; simp only [if_neg c37]; simp only [if_neg c38]; simp only [if_neg c39]; simp only [if_neg c40]; simp only [if_pos c43]; simp only [if_pos c44]; exact Pd.i)
                                                          · skip
                                                            refine w_lload_n ok dX1_join_287 2 rfl ?_
                                                            refine w_lconst (v := 0) ok dX1_join_288 (by decide) ?_
                                                            refine w_lcmp ok dX1_join_289 ?_
                                                            refine w_if_eq (tgt := 297) ok dX1_join_290 (by decide) (fun c45 => ?_) (fun c45 => ?_)
                                                            · skip
                                                              refine w_lconst (v := 0) ok dX1_join_297 (by decide) ?_
                                                              exact w_lret ok fin dX1_join_298 rfl (by unfold F_X1_join; simp only [if_neg c1]; simp only [if_neg c2]; simp only [if_neg c3]; simp only [if_neg c10]; simp only [if_neg c12]; simp only [if_neg c14]; simp only [if_neg c16]; simp only [if_neg c18]; simp only [if_neg c20]; simp only [if_neg c22]; simp only [if_neg c24]; simp only [if_neg c25]; simp only [if_neg c26]; simp only [if_neg c27]; simp only [if_neg c28]; simp only [if_neg c29]; simp only [if_neg c30]; simp only [if_neg c31]; simp only [if_neg c32]; simp only [if_neg c33]; simp only [if_neg c34]; simp only [if_neg c35]; simp only [if_neg c36]; simp only [if_neg c37]; simp only [if_neg c38]; simp only [if_neg c39]; simp only [if_neg c40]; simp only [if_pos c43]; simp only [if_neg c44]; simp only [if_pos c45]; exact Pd.i)
                                                            · skip
                                                              refine w_lconst (v := 1) ok dX1_join_293 (by decide) ?_
                                                              refine w_goto (tgt := 298) ok dX1_join_294 (by decide) ?_
                                                              exact w_lret ok fin dX1_join_298 rfl (by unfold F_X1_join; simp only [if_neg c1]; simp only [if_neg c2]; simp only [if_neg c3]; simp only [if_neg c10]; simp only [if_neg c12]; simp only [if_neg c14]; simp only [if_neg c16]; simp only [if_neg c18]; simp only [if_neg c20]; simp only [if_neg c22]; simp only [if_neg c24]; simp only [if_neg c25]; simp only [if_neg c26]; simp only [if_neg c27]; simp only [if_neg c28]; simp only [if_neg c29]; simp only [if_neg c30]; simp only [if_neg c31]; simp only [if_neg c32]; simp only [if_neg c33]; simp only [if_neg c34]; simp only [if_neg c35]; simp only [if_neg c36]; simp only [if_neg c37]; simp only [if_neg c38]; simp only [if_neg c39]; simp only [if_neg c40]; simp only [if_pos c43]; simp only [if_neg c44]; simp only [if_neg c45]; exact Pd.i)
                                                        · skip
                                                          have n46 : a0.toInt ≠ 7 := ne_toInt c1
                                                          have n47 : a0.toInt ≠ 8 := ne_toInt c2
                                                          have n48 : a0.toInt ≠ 9 := ne_toInt c3
                                                          have n49 : a0.toInt ≠ 10 := ne_toInt c10
                                                          have n50 : a0.toInt ≠ 11 := ne_toInt c12
                                                          have n51 : a0.toInt ≠ 12 := ne_toInt c14
                                                          have n52 : a0.toInt ≠ 13 := ne_toInt c16
                                                          have n53 : a0.toInt ≠ 14 := ne_toInt c18
                                                          have n54 : a0.toInt ≠ 15 := ne_toInt c20
                                                          have n55 : a0.toInt ≠ 16 := ne_toInt c22
                                                          have n56 : a0.toInt ≠ 17 := ne_toInt c24
                                                          have n57 : a0.toInt ≠ 18 := ne_toInt c25
                                                          have n58 : a0.toInt ≠ 19 := ne_toInt c26
                                                          have n59 : a0.toInt ≠ 20 := ne_toInt c27
                                                          have n60 : a0.toInt ≠ 21 := ne_toInt c28
                                                          have n61 : a0.toInt ≠ 22 := ne_toInt c29
                                                          have n62 : a0.toInt ≠ 23 := ne_toInt c30
                                                          have n63 : a0.toInt ≠ 24 := ne_toInt c31
                                                          have n64 : a0.toInt ≠ 25 := ne_toInt c32
                                                          have n65 : a0.toInt ≠ 26 := ne_toInt c33
                                                          have n66 : a0.toInt ≠ 27 := ne_toInt c34
                                                          have n67 : a0.toInt ≠ 28 := ne_toInt c35
                                                          have n68 : a0.toInt ≠ 29 := ne_toInt c36
                                                          have n69 : a0.toInt ≠ 30 := ne_toInt c37
                                                          have n70 : a0.toInt ≠ 31 := ne_toInt c38
                                                          have n71 : a0.toInt ≠ 32 := ne_toInt c39
                                                          have n72 : a0.toInt ≠ 33 := ne_toInt c40
                                                          have n73 : a0.toInt ≠ 34 := ne_toInt c43
                                                          refine w_tabOut (tgt := 317) ok dX1_join_1 (by omega) (by decide) ?_
                                                          refine w_ldc2 ok dX1_join_317 kX1_58 ?_
                                                          exact w_lret ok fin dX1_join_320 rfl (by unfold F_X1_join; simp only [if_neg c1]; simp only [if_neg c2]; simp only [if_neg c3]; simp only [if_neg c10]; simp only [if_neg c12]; simp only [if_neg c14]; simp only [if_neg c16]; simp only [if_neg c18]; simp only [if_neg c20]; simp only [if_neg c22]; simp only [if_neg c24]; simp only [if_neg c25]; simp only [if_neg c26]; simp only [if_neg c27]; simp only [if_neg c28]; simp only [if_neg c29]; simp only [if_neg c30]; simp only [if_neg c31]; simp only [if_neg c32]; simp only [if_neg c33]; simp only [if_neg c34]; simp only [if_neg c35]; simp only [if_neg c36]; simp only [if_neg c37]; simp only [if_neg c38]; simp only [if_neg c39]; simp only [if_neg c40]; simp only [if_neg c43]; exact Pd.i)
def B_X2_isWorth_l17 (a0 : Int32) (a1 : Int32) (I : SI) (J : SJ) (i17 : Nat) (s17 : Unit) : (Unit) ⊕ (Int32) := if ((atF (I 127) 36 ((a0 * 6) + (nI i17))) &&& ((atF (I 127) 36 ((a0 * 6) + a1)) ^^^ (-1))) = 0 then .inr 0 else .inl ()
def F_X2_isWorth_l17 (a0 : Int32) (a1 : Int32) (I : SI) (J : SJ) (s0 : Unit) : (Unit) ⊕ (Int32) := itE (B_X2_isWorth_l17 a0 a1 I J) (a1.toNatClampNeg) 0 s0
def F_X2_isWorth (a0 : Int32) (a1 : Int32) (I : SI) (J : SJ) : Int32 := (match (F_X2_isWorth_l17 a0 a1 I J ()) with | .inl se17 => 1 | .inr re17 => re17)
set_option maxHeartbeats 1000000 in
set_option maxRecDepth 40000 in
theorem c_X2_isWorth {I : SI} {J : SJ} {R : SR} {n g : Nat} {f : Fr} (ro : RO R) (hnn : nK ≤ n) (hf : f.1 = true) (a0 : Int32) (a1 : Int32)   : MM 1 0 0 mX2_isWorth [.ref 124, .int a0, .int a1] (eI f I) (eJ f J) R n g (Pd (some (.int (F_X2_isWorth a0 a1 I J))) (eI f I) (eJ f J) R n g) := by
  refine MM.of (by decide) (Nat.le_of_ble_eq_true rfl) fun K ok fin => ?_
  show WK K 0 0 0 [(0, .ref 124), (1, .int a0), (2, .int a1)] [] (eI f I) (eJ f J) R n g
  refine w_aload_n ok dX2_isWorth_0 0 rfl ?_
  refine w_getR ok dX2_isWorth_1 (fX2_22 rfl) (congrArg Prod.fst s_124) rfl (r_124_4 ro) (ltK hnn (by decide)) ?_
  refine w_iload_n ok dX2_isWorth_4 1 rfl ?_
  refine w_bipush (v := 6) ok dX2_isWorth_5 (by decide) ?_
  refine w_imul ok dX2_isWorth_7 ?_
  refine w_iload_n ok dX2_isWorth_8 2 rfl ?_
  refine w_iadd ok dX2_isWorth_9 ?_
  refine w_cS (As := [.ref 127, .int ((a0 * 6) + a1)]) ok dX2_isWorth_10 iX11_at (lX2_55 rfl) (c_at s_127 (ltK hnn (by decide)) (sdc hf (by decide)) ((a0 * 6) + a1)) (by decide) rfl (Nat.le_of_ble_eq_true rfl) ?_
  refine w_istore_n ok dX2_isWorth_13 rfl (by decide) rfl ?_
  refine w_iconst (v := 0) ok dX2_isWorth_14 (by decide) ?_
  refine w_istore ok dX2_isWorth_15 (by decide) rfl ?_
  refine w_loc [2, 3, 4, 1, 0] rfl ?_
  refine loop_e (σ := Unit) (ρ := Int32) (fun (i17 : Nat) (s17 : Unit) => WK K 0 0 17 [(0, .ref 124), (1, .int a0), (2, .int a1), (3, .int (atF (I 127) 36 ((a0 * 6) + a1))), (4, .int (nI i17))] [] (eI f I) (eJ f J) R n g) (B_X2_isWorth_l17 a0 a1 I J) (a1.toNatClampNeg) (()) ?_ ?_
  · intro se17 he17
    have he17 : (F_X2_isWorth_l17 a0 a1 I J ()) = .inl se17 := he17
    show WK K 0 0 17 [(0, .ref 124), (1, .int a0), (2, .int a1), (3, .int (atF (I 127) 36 ((a0 * 6) + a1))), (4, .int (nI a1.toNatClampNeg))] [] (eI f I) (eJ f J) R n g
    have e1 : a1 ≤ (nI a1.toNatClampNeg) := cnt_ge _
    refine w_iload ok dX2_isWorth_17 4 rfl ?_
    refine w_iload_n ok dX2_isWorth_19 2 rfl ?_
    refine w_icmp_ge (tgt := 52) ok dX2_isWorth_20 (by decide) (fun _ => ?_) (fun h => absurd e1 h)
    refine w_iconst (v := 1) ok dX2_isWorth_52 (by decide) ?_
    exact w_zret ok fin dX2_isWorth_53 rfl (by decide) (by unfold F_X2_isWorth; simp only [he17]; exact Pd.i)
  · intro i17 s17 hi17 hs17 k17 kr17
    show WK K 0 0 17 [(0, .ref 124), (1, .int a0), (2, .int a1), (3, .int (atF (I 127) 36 ((a0 * 6) + a1))), (4, .int (nI i17))] [] (eI f I) (eJ f J) R n g
    have e2 : ¬ (a1 ≤ (nI i17)) := cnt_lt hi17
    refine w_iload ok dX2_isWorth_17 4 rfl ?_
    refine w_iload_n ok dX2_isWorth_19 2 rfl ?_
    refine w_icmp_ge (tgt := 52) ok dX2_isWorth_20 (by decide) (fun h => absurd h e2) (fun _ => ?_)
    refine w_aload_n ok dX2_isWorth_23 0 rfl ?_
    refine w_getR ok dX2_isWorth_24 (fX2_22 rfl) (congrArg Prod.fst s_124) rfl (r_124_4 ro) (ltK hnn (by decide)) ?_
    refine w_iload_n ok dX2_isWorth_27 1 rfl ?_
    refine w_bipush (v := 6) ok dX2_isWorth_28 (by decide) ?_
    refine w_imul ok dX2_isWorth_30 ?_
    refine w_iload ok dX2_isWorth_31 4 rfl ?_
    refine w_iadd ok dX2_isWorth_33 ?_
    refine w_cS (As := [.ref 127, .int ((a0 * 6) + (nI i17))]) ok dX2_isWorth_34 iX11_at (lX2_55 rfl) (c_at s_127 (ltK hnn (by decide)) (sdc hf (by decide)) ((a0 * 6) + (nI i17))) (by decide) rfl (Nat.le_of_ble_eq_true rfl) ?_
    refine w_iload_n ok dX2_isWorth_37 3 rfl ?_
    refine w_iconst (v := (-1)) ok dX2_isWorth_38 (by decide) ?_
    refine w_ixor ok dX2_isWorth_39 ?_
    refine w_iand ok dX2_isWorth_40 ?_
    refine w_if_ne (tgt := 46) ok dX2_isWorth_41 (by decide) (fun c3 => ?_) (fun c3 => ?_)
    · skip
      refine w_iinc (v := (nI i17) + 1) ok dX2_isWorth_46 4 rfl rfl (by decide) rfl ?_
      refine w_goto (tgt := 17) ok dX2_isWorth_49 (by decide) ?_
      have eB : B_X2_isWorth_l17 a0 a1 I J i17 s17 = .inl () := by
        unfold B_X2_isWorth_l17; exact (if_neg c3).trans (rfl)
      have kk := k17 _ eB
      refine w_loc [1, 2, 3, 4, 0] rfl ?_
      rw [nI_1 i17]
      exact kk
    · skip
      refine w_iconst (v := 0) ok dX2_isWorth_44 (by decide) ?_
      have eB : B_X2_isWorth_l17 a0 a1 I J i17 s17 = .inr 0 := by
        unfold B_X2_isWorth_l17; exact (if_pos c3).trans (rfl)
      have hr : (F_X2_isWorth_l17 a0 a1 I J ()) = .inr 0 := kr17 _ eB
      exact w_zret ok fin dX2_isWorth_45 rfl (by decide) (by unfold F_X2_isWorth; simp only [hr]; exact Pd.i)
