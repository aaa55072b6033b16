/-! printed by wip/whole/gen_c.py: contracts by program -/
def T_X12_goes_j85 (a0 : Int32) (I : SI) (J : SJ) (s12 : Int32 × SI × SJ) : Int64 := if (s12.2.1 150 s12.1.toNatClampNeg) = 0 then ((s12.2.1 151 s12.1.toNatClampNeg).toInt64) else (s12.2.2 152 (s12.2.1 151 s12.1.toNatClampNeg).toNatClampNeg)
def S1_X12_goes (a0 : Int32) (I : SI) (J : SJ) (s12 : Int32 × SI × SJ) : SJ := u2 s12.2.2 153 (s12.2.1 130 38).toNatClampNeg (T_X12_goes_j85 a0 I J s12)
def B_X12_goes_w12 (a0 : Int32) (I : SI) (J : SJ) (s12 : Int32 × SI × SJ) : (Int32 × SI × SJ) ⊕ ((Int32 × SI × SJ) ⊕ (Int32 × SI × SJ)) := if (s12.2.1 149 a0.toNatClampNeg) ≤ s12.1 then .inr (.inl (s12.1, s12.2.1, s12.2.2)) else (if (s12.2.1 150 s12.1.toNatClampNeg) = 2 then (if (F_X12_works (s12.2.1 151 s12.1.toNatClampNeg) s12.2.1 s12.2.2) = 0 then .inr (.inr (0, (FI_X12_works (s12.2.1 151 s12.1.toNatClampNeg) s12.2.1 s12.2.2), (FJ_X12_works (s12.2.1 151 s12.1.toNatClampNeg) s12.2.1 s12.2.2))) else .inl ((s12.1 + 1), (FI_X12_works (s12.2.1 151 s12.1.toNatClampNeg) s12.2.1 s12.2.2), (FJ_X12_works (s12.2.1 151 s12.1.toNatClampNeg) s12.2.1 s12.2.2))) else .inl ((s12.1 + 1), (u2 s12.2.1 130 38 ((s12.2.1 130 38) + 1)), (S1_X12_goes a0 I J s12)))
def F_X12_goes_w12 (a0 : Int32) (I : SI) (J : SJ) (s0 : Int32 × SI × SJ) : (Int32 × SI × SJ) ⊕ (Int32 × SI × SJ) := (itW (B_X12_goes_w12 a0 I J) 800 s0).getD (.inl s0)
def F_X12_goes (a0 : Int32) (I : SI) (J : SJ) : Int32 := (match (F_X12_goes_w12 a0 I J (((u2 I 130 38 0) 148 a0.toNatClampNeg), (u2 I 130 38 0), J)) with | .inl se12 => 1 | .inr re12 => re12.1)
def FI_X12_goes (a0 : Int32) (I : SI) (J : SJ) : SI := (match (F_X12_goes_w12 a0 I J (((u2 I 130 38 0) 148 a0.toNatClampNeg), (u2 I 130 38 0), J)) with | .inl se12 => se12.2.1 | .inr re12 => re12.2.1)
def FJ_X12_goes (a0 : Int32) (I : SI) (J : SJ) : SJ := (match (F_X12_goes_w12 a0 I J (((u2 I 130 38 0) 148 a0.toNatClampNeg), (u2 I 130 38 0), J)) with | .inl se12 => se12.2.2 | .inr re12 => re12.2.2)
def H_X12_goes (a0 : Int32) (I : SI) (J : SJ) : Prop := (inR a0 6) ∧ ((itW (B_X12_goes_w12 a0 I J) 800 (((u2 I 130 38 0) 148 a0.toNatClampNeg), (u2 I 130 38 0), J)).isSome = true) ∧ (∀ (n12 : Nat) (s12 : Int32 × SI × SJ), wN (B_X12_goes_w12 a0 I J) n12 (((u2 I 130 38 0) 148 a0.toNatClampNeg), (u2 I 130 38 0), J) = some s12 → inR a0 6) ∧ (∀ (n12 : Nat) (s12 : Int32 × SI × SJ), wN (B_X12_goes_w12 a0 I J) n12 (((u2 I 130 38 0) 148 a0.toNatClampNeg), (u2 I 130 38 0), J) = some s12 → ¬ ((s12.2.1 149 a0.toNatClampNeg) ≤ s12.1) → inR s12.1 128) ∧ (∀ (n12 : Nat) (s12 : Int32 × SI × SJ), wN (B_X12_goes_w12 a0 I J) n12 (((u2 I 130 38 0) 148 a0.toNatClampNeg), (u2 I 130 38 0), J) = some s12 → ¬ ((s12.2.1 149 a0.toNatClampNeg) ≤ s12.1) → ¬ ((s12.2.1 150 s12.1.toNatClampNeg) = 2) → inR s12.1 128) ∧ (∀ (n12 : Nat) (s12 : Int32 × SI × SJ), wN (B_X12_goes_w12 a0 I J) n12 (((u2 I 130 38 0) 148 a0.toNatClampNeg), (u2 I 130 38 0), J) = some s12 → ¬ ((s12.2.1 149 a0.toNatClampNeg) ≤ s12.1) → ¬ ((s12.2.1 150 s12.1.toNatClampNeg) = 2) → inR (s12.2.1 130 38) 64) ∧ (∀ (n12 : Nat) (s12 : Int32 × SI × SJ), wN (B_X12_goes_w12 a0 I J) n12 (((u2 I 130 38 0) 148 a0.toNatClampNeg), (u2 I 130 38 0), J) = some s12 → ¬ ((s12.2.1 149 a0.toNatClampNeg) ≤ s12.1) → ¬ ((s12.2.1 150 s12.1.toNatClampNeg) = 2) → ¬ ((s12.2.1 150 s12.1.toNatClampNeg) = 0) → inR s12.1 128) ∧ (∀ (n12 : Nat) (s12 : Int32 × SI × SJ), wN (B_X12_goes_w12 a0 I J) n12 (((u2 I 130 38 0) 148 a0.toNatClampNeg), (u2 I 130 38 0), J) = some s12 → ¬ ((s12.2.1 149 a0.toNatClampNeg) ≤ s12.1) → ¬ ((s12.2.1 150 s12.1.toNatClampNeg) = 2) → ¬ ((s12.2.1 150 s12.1.toNatClampNeg) = 0) → inR (s12.2.1 151 s12.1.toNatClampNeg) 7) ∧ (∀ (n12 : Nat) (s12 : Int32 × SI × SJ), wN (B_X12_goes_w12 a0 I J) n12 (((u2 I 130 38 0) 148 a0.toNatClampNeg), (u2 I 130 38 0), J) = some s12 → ¬ ((s12.2.1 149 a0.toNatClampNeg) ≤ s12.1) → ¬ ((s12.2.1 150 s12.1.toNatClampNeg) = 2) → (s12.2.1 150 s12.1.toNatClampNeg) = 0 → inR s12.1 128) ∧ (∀ (n12 : Nat) (s12 : Int32 × SI × SJ), wN (B_X12_goes_w12 a0 I J) n12 (((u2 I 130 38 0) 148 a0.toNatClampNeg), (u2 I 130 38 0), J) = some s12 → ¬ ((s12.2.1 149 a0.toNatClampNeg) ≤ s12.1) → (s12.2.1 150 s12.1.toNatClampNeg) = 2 → inR s12.1 128) ∧ (∀ (n12 : Nat) (s12 : Int32 × SI × SJ), wN (B_X12_goes_w12 a0 I J) n12 (((u2 I 130 38 0) 148 a0.toNatClampNeg), (u2 I 130 38 0), J) = some s12 → ¬ ((s12.2.1 149 a0.toNatClampNeg) ≤ s12.1) → (s12.2.1 150 s12.1.toNatClampNeg) = 2 → H_X12_works (s12.2.1 151 s12.1.toNatClampNeg) s12.2.1 s12.2.2)
set_option maxHeartbeats 1120000 in
set_option maxRecDepth 40000 in
theorem c_X12_goes {I : SI} {J : SJ} {R : SR} {n g : Nat} {f : Fr} (ro : RM R) (hnn : nM ≤ n) (hf : f.1 = false) (a0 : Int32)  (hp : H_X12_goes a0 I J) : MM 2 0 0 mX12_goes [.ref 130, .int a0] (eI f I) (eJ f J) R n g (Pd (some (.int (F_X12_goes a0 I J))) (eI f (FI_X12_goes a0 I J)) (eJ f (FJ_X12_goes a0 I J)) R n g) := by
  refine MM.of (by decide) (Nat.le_of_ble_eq_true rfl) fun K ok fin => ?_
  show WK K 0 0 0 [(0, .ref 130), (1, .int a0)] [] (eI f I) (eJ f J) R n g
  obtain ⟨hp1, hp2, hp3, hp4, hp5, hp6, hp7, hp8, hp9, hp10, hp11⟩ := hp
  refine w_aload_n ok dX12_goes_0 0 rfl ?_
  refine w_iconst (v := 0) ok dX12_goes_1 (by decide) ?_
  refine y_putI ok dX12_goes_2 (fwX12_338 rfl) (congrArg Prod.fst s_130) rfl (ltM hnn (by decide)) (sdm hf (by decide)) ?_
  refine w_aload_n ok dX12_goes_5 0 rfl ?_
  refine w_getR ok dX12_goes_6 (fX12_61 rfl) (congrArg Prod.fst s_130) rfl (r_130_19 ro) (ltM hnn (by decide)) ?_
  refine w_iload_n ok dX12_goes_9 1 rfl ?_
  refine y_iald (q := a0.toNatClampNeg) ok dX12_goes_10 s_148 (hp1) (by decide) (ltM hnn (by decide)) (sdm hf (by decide)) ?_
  refine w_istore_n ok dX12_goes_11 rfl (by decide) rfl ?_
  refine w_loc [1, 2, 0] rfl ?_
  refine loop_wr (σ := Int32 × SI × SJ) (ρ := Int32 × SI × SJ) (fun (s12 : Int32 × SI × SJ) => WK K 0 0 12 [(0, .ref 130), (1, .int a0), (2, .int s12.1)] [] (eI f s12.2.1) (eJ f s12.2.2) R n g) (B_X12_goes_w12 a0 I J) 800 (((u2 I 130 38 0) 148 a0.toNatClampNeg), (u2 I 130 38 0), J) (F_X12_goes_w12 a0 I J (((u2 I 130 38 0) 148 a0.toNatClampNeg), (u2 I 130 38 0), J)) (itW_some2 (hp2)) ?_
  · intro n12 s12 hs12 kc12 kr12
    have kx12 : ∀ se12 : Int32 × SI × SJ, B_X12_goes_w12 a0 I J s12 = .inr (.inl se12) → WK K 0 0 102 [(0, .ref 130), (1, .int a0), (2, .int se12.1)] [] (eI f se12.2.1) (eJ f se12.2.2) R n g := by
      intro se12 hb12
      have he12 : (F_X12_goes_w12 a0 I J (((u2 I 130 38 0) 148 a0.toNatClampNeg), (u2 I 130 38 0), J)) = .inl se12 := kr12 _ hb12
      refine w_iconst (v := 1) ok dX12_goes_102 (by decide) ?_
      exact w_zret ok fin dX12_goes_103 rfl (by decide) (by unfold F_X12_goes FI_X12_goes FJ_X12_goes; simp only [he12]; exact Pd.i)
    show WK K 0 0 12 [(0, .ref 130), (1, .int a0), (2, .int s12.1)] [] (eI f s12.2.1) (eJ f s12.2.2) R n g
    refine w_iload_n ok dX12_goes_12 2 rfl ?_
    refine w_aload_n ok dX12_goes_13 0 rfl ?_
    refine w_getR ok dX12_goes_14 (fX12_64 rfl) (congrArg Prod.fst s_130) rfl (r_130_20 ro) (ltM hnn (by decide)) ?_
    refine w_iload_n ok dX12_goes_17 1 rfl ?_
    refine y_iald (q := a0.toNatClampNeg) ok dX12_goes_18 s_149 (hp3 n12 s12 hs12) (by decide) (ltM hnn (by decide)) (sdm hf (by decide)) ?_
    refine w_icmp_ge (tgt := 102) ok dX12_goes_19 (by decide) (fun c1 => ?_) (fun c1 => ?_)
    · skip
      have eB : B_X12_goes_w12 a0 I J s12 = .inr (.inl (s12.1, s12.2.1, s12.2.2)) := by
        unfold B_X12_goes_w12; exact (if_pos c1).trans (rfl)
      refine w_loc [0, 1, 2] rfl ?_
      have kk := kx12 _ eB
      exact kk
    · skip
      refine w_aload_n ok dX12_goes_22 0 rfl ?_
      refine w_getR ok dX12_goes_23 (fX12_67 rfl) (congrArg Prod.fst s_130) rfl (r_130_21 ro) (ltM hnn (by decide)) ?_
      refine w_iload_n ok dX12_goes_26 2 rfl ?_
      refine y_iald (q := s12.1.toNatClampNeg) ok dX12_goes_27 s_150 (hp4 n12 s12 hs12 c1) (by decide) (ltM hnn (by decide)) (sdm hf (by decide)) ?_
      refine w_iconst (v := 2) ok dX12_goes_28 (by decide) ?_
      refine w_icmp_ne (tgt := 47) ok dX12_goes_29 (by decide) (fun c2 => ?_) (fun c2 => ?_)
      · skip
        refine w_aload_n ok dX12_goes_47 0 rfl ?_
        refine w_getR ok dX12_goes_48 (fX12_81 rfl) (congrArg Prod.fst s_130) rfl (r_130_37 ro) (ltM hnn (by decide)) ?_
        refine w_aload_n ok dX12_goes_51 0 rfl ?_
        refine y_getI ok dX12_goes_52 (fX12_338 rfl) (congrArg Prod.fst s_130) rfl (ltM hnn (by decide)) (sdm hf (by decide)) ?_
        refine w_aload_n ok dX12_goes_55 0 rfl ?_
        refine w_getR ok dX12_goes_56 (fX12_67 rfl) (congrArg Prod.fst s_130) rfl (r_130_21 ro) (ltM hnn (by decide)) ?_
        refine w_iload_n ok dX12_goes_59 2 rfl ?_
        refine y_iald (q := s12.1.toNatClampNeg) ok dX12_goes_60 s_150 (hp5 n12 s12 hs12 c1 c2) (by decide) (ltM hnn (by decide)) (sdm hf (by decide)) ?_
        have jn3 : WK K 0 0 85 [(0, .ref 130), (1, .int a0), (2, .int s12.1)] [.long (T_X12_goes_j85 a0 I J s12), .int (s12.2.1 130 38), .ref 153] (eI f s12.2.1) (eJ f s12.2.2) R n g := by
          refine y_last (q := (s12.2.1 130 38).toNatClampNeg) ok dX12_goes_85 s_153 (hp6 n12 s12 hs12 c1 c2) (by decide) (ltM hnn (by decide)) (sdm hf (by decide)) ?_
          show WK K 0 0 86 [(0, .ref 130), (1, .int a0), (2, .int s12.1)] [] (eI f s12.2.1) (eJ f (S1_X12_goes a0 I J s12)) R n g
          refine w_aload_n ok dX12_goes_86 0 rfl ?_
          refine w_dup ok dX12_goes_87 rfl ?_
          refine y_getI ok dX12_goes_88 (fX12_338 rfl) (congrArg Prod.fst s_130) rfl (ltM hnn (by decide)) (sdm hf (by decide)) ?_
          refine w_iconst (v := 1) ok dX12_goes_91 (by decide) ?_
          refine w_iadd ok dX12_goes_92 ?_
          refine y_putI ok dX12_goes_93 (fwX12_338 rfl) (congrArg Prod.fst s_130) rfl (ltM hnn (by decide)) (sdm hf (by decide)) ?_
          refine w_iinc (v := s12.1 + 1) ok dX12_goes_96 2 rfl rfl (by decide) rfl ?_
          refine w_goto (tgt := 12) ok dX12_goes_99 (by decide) ?_
          have eB : B_X12_goes_w12 a0 I J s12 = .inl ((s12.1 + 1), (u2 s12.2.1 130 38 ((s12.2.1 130 38) + 1)), (S1_X12_goes a0 I J s12)) := by
            unfold B_X12_goes_w12; exact (if_neg c1).trans ((if_neg c2).trans (rfl))
          refine w_loc [1, 2, 0] rfl ?_
          have kk := kc12 _ eB
          exact kk
        refine w_if_ne (tgt := 74) ok dX12_goes_61 (by decide) (fun c4 => ?_) (fun c4 => ?_)
        · skip
          refine w_aload_n ok dX12_goes_74 0 rfl ?_
          refine w_getR ok dX12_goes_75 (fX12_77 rfl) (congrArg Prod.fst s_130) rfl (r_130_36 ro) (ltM hnn (by decide)) ?_
          refine w_aload_n ok dX12_goes_78 0 rfl ?_
          refine w_getR ok dX12_goes_79 (fX12_70 rfl) (congrArg Prod.fst s_130) rfl (r_130_22 ro) (ltM hnn (by decide)) ?_
          refine w_iload_n ok dX12_goes_82 2 rfl ?_
          refine y_iald (q := s12.1.toNatClampNeg) ok dX12_goes_83 s_151 (hp7 n12 s12 hs12 c1 c2 c4) (by decide) (ltM hnn (by decide)) (sdm hf (by decide)) ?_
          refine y_lald (q := (s12.2.1 151 s12.1.toNatClampNeg).toNatClampNeg) ok dX12_goes_84 s_152 (hp8 n12 s12 hs12 c1 c2 c4) (by decide) (ltM hnn (by decide)) (sdm hf (by decide)) ?_
          have eT : (T_X12_goes_j85 a0 I J s12) = (s12.2.2 152 (s12.2.1 151 s12.1.toNatClampNeg).toNatClampNeg) := by
            unfold T_X12_goes_j85; exact (if_neg c4).trans (rfl)
          refine w_loc [0, 1, 2] rfl ?_
          have jj := jn3
          rw [eT] at jj
          exact jj
        · skip
          refine w_aload_n ok dX12_goes_64 0 rfl ?_
          refine w_getR ok dX12_goes_65 (fX12_70 rfl) (congrArg Prod.fst s_130) rfl (r_130_22 ro) (ltM hnn (by decide)) ?_
          refine w_iload_n ok dX12_goes_68 2 rfl ?_
          refine y_iald (q := s12.1.toNatClampNeg) ok dX12_goes_69 s_151 (hp9 n12 s12 hs12 c1 c2 c4) (by decide) (ltM hnn (by decide)) (sdm hf (by decide)) ?_
          refine w_i2l ok dX12_goes_70 ?_
          refine w_goto (tgt := 85) ok dX12_goes_71 (by decide) ?_
          have eT : (T_X12_goes_j85 a0 I J s12) = ((s12.2.1 151 s12.1.toNatClampNeg).toInt64) := by
            unfold T_X12_goes_j85; exact (if_pos c4).trans (rfl)
          refine w_loc [0, 1, 2] rfl ?_
          have jj := jn3
          rw [eT] at jj
          exact jj
      · skip
        refine w_aload_n ok dX12_goes_32 0 rfl ?_
        refine w_aload_n ok dX12_goes_33 0 rfl ?_
        refine w_getR ok dX12_goes_34 (fX12_70 rfl) (congrArg Prod.fst s_130) rfl (r_130_22 ro) (ltM hnn (by decide)) ?_
        refine w_iload_n ok dX12_goes_37 2 rfl ?_
        refine y_iald (q := s12.1.toNatClampNeg) ok dX12_goes_38 s_151 (hp10 n12 s12 hs12 c1 c2) (by decide) (ltM hnn (by decide)) (sdm hf (by decide)) ?_
        refine w_cV (As := [.int (s12.2.1 151 s12.1.toNatClampNeg)]) ok dX12_goes_39 iX12_works (lX12_355 rfl) (rcv cls12 (congrArg Prod.fst s_130)) (ltM hnn (by decide)) (c_X12_works ro hnn hf (s12.2.1 151 s12.1.toNatClampNeg)  (hp11 n12 s12 hs12 c1 c2)) (by decide) rfl (Nat.le_of_ble_eq_true rfl) ?_
        refine w_if_ne (tgt := 96) ok dX12_goes_42 (by decide) (fun c5 => ?_) (fun c5 => ?_)
        · skip
          refine w_iinc (v := s12.1 + 1) ok dX12_goes_96 2 rfl rfl (by decide) rfl ?_
          refine w_goto (tgt := 12) ok dX12_goes_99 (by decide) ?_
          have eB : B_X12_goes_w12 a0 I J s12 = .inl ((s12.1 + 1), (FI_X12_works (s12.2.1 151 s12.1.toNatClampNeg) s12.2.1 s12.2.2), (FJ_X12_works (s12.2.1 151 s12.1.toNatClampNeg) s12.2.1 s12.2.2)) := by
            unfold B_X12_goes_w12; exact (if_neg c1).trans ((if_pos c2).trans ((if_neg c5).trans (rfl)))
          refine w_loc [1, 2, 0] rfl ?_
          have kk := kc12 _ eB
          exact kk
        · skip
          refine w_iconst (v := 0) ok dX12_goes_45 (by decide) ?_
          have eB : B_X12_goes_w12 a0 I J s12 = .inr (.inr (0, (FI_X12_works (s12.2.1 151 s12.1.toNatClampNeg) s12.2.1 s12.2.2), (FJ_X12_works (s12.2.1 151 s12.1.toNatClampNeg) s12.2.1 s12.2.2))) := by
            unfold B_X12_goes_w12; exact (if_neg c1).trans ((if_pos c2).trans ((if_pos c5).trans (rfl)))
          have hr : (F_X12_goes_w12 a0 I J (((u2 I 130 38 0) 148 a0.toNatClampNeg), (u2 I 130 38 0), J)) = .inr (0, (FI_X12_works (s12.2.1 151 s12.1.toNatClampNeg) s12.2.1 s12.2.2), (FJ_X12_works (s12.2.1 151 s12.1.toNatClampNeg) s12.2.1 s12.2.2)) := kr12 _ eB
          exact w_zret ok fin dX12_goes_46 rfl (by decide) (by unfold F_X12_goes FI_X12_goes FJ_X12_goes; simp only [hr]; exact Pd.i)
def F_X12_hasLaw (a0 : Int32) (I : SI) (J : SJ) : Int32 := if (I 149 a0.toNatClampNeg) ≤ (I 148 a0.toNatClampNeg) then 0 else 1
def H_X12_hasLaw (a0 : Int32) (I : SI) (J : SJ) : Prop := (inR a0 6)
set_option maxHeartbeats 1000000 in
set_option maxRecDepth 40000 in
theorem c_X12_hasLaw {I : SI} {J : SJ} {R : SR} {n g : Nat} {f : Fr} (ro : RM R) (hnn : nM ≤ n) (hf : f.1 = false) (a0 : Int32)  (hp : H_X12_hasLaw a0 I J) : MM 0 0 0 mX12_hasLaw [.ref 130, .int a0] (eI f I) (eJ f J) R n g (Pd (some (.int (F_X12_hasLaw a0 I J))) (eI f I) (eJ f J) R n g) := by
  refine MM.of (by decide) (Nat.le_of_ble_eq_true rfl) fun K ok fin => ?_
  show WK K 0 0 0 [(0, .ref 130), (1, .int a0)] [] (eI f I) (eJ f J) R n g
  have hp1 := hp
  refine w_aload_n ok dX12_hasLaw_0 0 rfl ?_
  refine w_getR ok dX12_hasLaw_1 (fX12_64 rfl) (congrArg Prod.fst s_130) rfl (r_130_20 ro) (ltM hnn (by decide)) ?_
  refine w_iload_n ok dX12_hasLaw_4 1 rfl ?_
  refine y_iald (q := a0.toNatClampNeg) ok dX12_hasLaw_5 s_149 (hp1) (by decide) (ltM hnn (by decide)) (sdm hf (by decide)) ?_
  refine w_aload_n ok dX12_hasLaw_6 0 rfl ?_
  refine w_getR ok dX12_hasLaw_7 (fX12_61 rfl) (congrArg Prod.fst s_130) rfl (r_130_19 ro) (ltM hnn (by decide)) ?_
  refine w_iload_n ok dX12_hasLaw_10 1 rfl ?_
  refine y_iald (q := a0.toNatClampNeg) ok dX12_hasLaw_11 s_148 (hp1) (by decide) (ltM hnn (by decide)) (sdm hf (by decide)) ?_
  refine w_icmp_le (tgt := 19) ok dX12_hasLaw_12 (by decide) (fun c1 => ?_) (fun c1 => ?_)
  · skip
    refine w_iconst (v := 0) ok dX12_hasLaw_19 (by decide) ?_
    exact w_zret ok fin dX12_hasLaw_20 rfl (by decide) (by unfold F_X12_hasLaw; simp only [if_pos c1]; exact Pd.i)
  · skip
    refine w_iconst (v := 1) ok dX12_hasLaw_15 (by decide) ?_
    refine w_goto (tgt := 20) ok dX12_hasLaw_16 (by decide) ?_
    exact w_zret ok fin dX12_hasLaw_20 rfl (by decide) (by unfold F_X12_hasLaw; simp only [if_neg c1]; exact Pd.i)
def S1_X12_starts (a0 : Int32) (I : SI) (J : SJ) : SI := u2 (u2 I 154 a0.toNatClampNeg 0) 155 a0.toNatClampNeg ((u2 I 154 a0.toNatClampNeg 0) 132 8)
def S2_X12_starts (a0 : Int32) (I : SI) (J : SJ) : SI := u2 (S1_X12_starts a0 I J) 156 a0.toNatClampNeg ((S1_X12_starts a0 I J) 132 7)
def S3_X12_starts (a0 : Int32) (I : SI) (J : SJ) : SI := u2 (u2 (S2_X12_starts a0 I J) 157 a0.toNatClampNeg 0) 158 a0.toNatClampNeg 0
def S12_X12_starts (a0 : Int32) (I : SI) (J : SJ) (i56 : Nat) (s56 : SI) : SI := u2 (u2 s56 160 (((6 : Int32) * a0) + (nI i56)).toNatClampNeg (-1)) 161 (((6 : Int32) * a0) + (nI i56)).toNatClampNeg 0
def B_X12_starts_l56 (a0 : Int32) (I : SI) (J : SJ) (i56 : Nat) (s56 : SI) : SI := (S12_X12_starts a0 I J i56 s56)
def F_X12_starts_l56 (a0 : Int32) (I : SI) (J : SJ) (s0 : SI) : SI := itN (B_X12_starts_l56 a0 I J) (6) s0
def S4_X12_starts (a0 : Int32) (I : SI) (J : SJ) : SI := (F_X12_starts_l56 a0 I J (u2 (S3_X12_starts a0 I J) 159 a0.toNatClampNeg 0))
def T_X12_starts_j130 (a0 : Int32) (I : SI) (J : SJ) (i94 : Nat) (s94 : SI) : Int32 := if (s94 132 1) ≤ (nI i94) then 0 else (s94 138 (nI i94).toNatClampNeg)
def S9_X12_starts (a0 : Int32) (I : SI) (J : SJ) (i94 : Nat) (s94 : SI) : SI := u2 s94 162 (((8 : Int32) * a0) + (nI i94)).toNatClampNeg (T_X12_starts_j130 a0 I J i94 s94)
def S10_X12_starts (a0 : Int32) (I : SI) (J : SJ) (i94 : Nat) (s94 : SI) : SI := u2 (S9_X12_starts a0 I J i94 s94) 163 (((8 : Int32) * a0) + (nI i94)).toNatClampNeg 0
def S11_X12_starts (a0 : Int32) (I : SI) (J : SJ) (i94 : Nat) (s94 : SI) : SI := u2 (S10_X12_starts a0 I J i94 s94) 164 (((8 : Int32) * a0) + (nI i94)).toNatClampNeg 0
def B_X12_starts_l94 (a0 : Int32) (I : SI) (J : SJ) (i94 : Nat) (s94 : SI) : SI := (S11_X12_starts a0 I J i94 s94)
def F_X12_starts_l94 (a0 : Int32) (I : SI) (J : SJ) (s0 : SI) : SI := itN (B_X12_starts_l94 a0 I J) (8) s0
def S8_X12_starts (a0 : Int32) (I : SI) (J : SJ) (i163 : Nat) (s163 : SI) : SI := u2 s163 165 (((48 : Int32) * a0) + (nI i163)).toNatClampNeg (s163 139 (nI i163).toNatClampNeg)
def B_X12_starts_l163 (a0 : Int32) (I : SI) (J : SJ) (i163 : Nat) (s163 : SI) : SI := (S8_X12_starts a0 I J i163 s163)
def F_X12_starts_l163 (a0 : Int32) (I : SI) (J : SJ) (s0 : SI) : SI := itN (B_X12_starts_l163 a0 I J) (48) s0
def S5_X12_starts (a0 : Int32) (I : SI) (J : SJ) : SI := (F_X12_starts_l163 a0 I J ((F_X12_starts_l94 a0 I J (S4_X12_starts a0 I J))))
def T_X12_starts_j228 (a0 : Int32) (I : SI) (J : SJ) (i194 : Nat) (s194 : SI) : Int32 := if (s194 132 3) ≤ (nI i194) then 0 else (s194 143 (nI i194).toNatClampNeg)
def S6_X12_starts (a0 : Int32) (I : SI) (J : SJ) (i194 : Nat) (s194 : SI) : SI := u2 s194 166 (((4 : Int32) * a0) + (nI i194)).toNatClampNeg (T_X12_starts_j228 a0 I J i194 s194)
def S7_X12_starts (a0 : Int32) (I : SI) (J : SJ) (i194 : Nat) (s194 : SI) : SI := u2 (S6_X12_starts a0 I J i194 s194) 167 (((4 : Int32) * a0) + (nI i194)).toNatClampNeg 0
def B_X12_starts_l194 (a0 : Int32) (I : SI) (J : SJ) (i194 : Nat) (s194 : SI) : SI := (S7_X12_starts a0 I J i194 s194)
def F_X12_starts_l194 (a0 : Int32) (I : SI) (J : SJ) (s0 : SI) : SI := itN (B_X12_starts_l194 a0 I J) (4) s0
def FI_X12_starts (a0 : Int32) (I : SI) (J : SJ) : SI := (F_X12_starts_l194 a0 I J (S5_X12_starts a0 I J))
def H_X12_starts (a0 : Int32) (I : SI) (J : SJ) : Prop := (inR a0 23) ∧ (∀ (i194 : Nat) (s194 : SI), i194 < 4 → s194 = itN (B_X12_starts_l194 a0 I J) i194 (S5_X12_starts a0 I J) → inR (((4 : Int32) * a0) + (nI i194)) 92) ∧ (∀ (i194 : Nat) (s194 : SI), i194 < 4 → s194 = itN (B_X12_starts_l194 a0 I J) i194 (S5_X12_starts a0 I J) → ¬ ((s194 132 3) ≤ (nI i194)) → inR (nI i194) 8) ∧ (∀ (i163 : Nat) (s163 : SI), i163 < 48 → s163 = itN (B_X12_starts_l163 a0 I J) i163 ((F_X12_starts_l94 a0 I J (S4_X12_starts a0 I J))) → inR (nI i163) 96) ∧ (∀ (i163 : Nat) (s163 : SI), i163 < 48 → s163 = itN (B_X12_starts_l163 a0 I J) i163 ((F_X12_starts_l94 a0 I J (S4_X12_starts a0 I J))) → inR (((48 : Int32) * a0) + (nI i163)) 1104) ∧ (∀ (i94 : Nat) (s94 : SI), i94 < 8 → s94 = itN (B_X12_starts_l94 a0 I J) i94 (S4_X12_starts a0 I J) → inR (((8 : Int32) * a0) + (nI i94)) 184) ∧ (∀ (i94 : Nat) (s94 : SI), i94 < 8 → s94 = itN (B_X12_starts_l94 a0 I J) i94 (S4_X12_starts a0 I J) → ¬ ((s94 132 1) ≤ (nI i94)) → inR (nI i94) 16) ∧ (∀ (i56 : Nat) (s56 : SI), i56 < 6 → s56 = itN (B_X12_starts_l56 a0 I J) i56 (u2 (S3_X12_starts a0 I J) 159 a0.toNatClampNeg 0) → inR (((6 : Int32) * a0) + (nI i56)) 138)
set_option maxHeartbeats 2730000 in
set_option maxRecDepth 40000 in
theorem c_X12_starts {I : SI} {J : SJ} {R : SR} {n g : Nat} {f : Fr} (ro : RM R) (hnn : nM ≤ n) (hf : f.1 = false) (a0 : Int32)  (hp : H_X12_starts a0 I J) : MM 0 0 0 mX12_starts [.ref 130, .int a0] (eI f I) (eJ f J) R n g (Pd none (eI f (FI_X12_starts a0 I J)) (eJ f J) R n g) := by
  refine MM.of (by decide) (Nat.le_of_ble_eq_true rfl) fun K ok fin => ?_
  show WK K 0 0 0 [(0, .ref 130), (1, .int a0)] [] (eI f I) (eJ f J) R n g
  obtain ⟨hp1, hp2, hp3, hp4, hp5, hp6, hp7, hp8⟩ := hp
  refine w_aload_n ok dX12_starts_0 0 rfl ?_
  refine w_getR ok dX12_starts_1 (fX12_84 rfl) (congrArg Prod.fst s_130) rfl (r_130_39 ro) (ltM hnn (by decide)) ?_
  refine w_iload_n ok dX12_starts_4 1 rfl ?_
  refine w_iconst (v := 0) ok dX12_starts_5 (by decide) ?_
  refine y_iast (q := a0.toNatClampNeg) ok dX12_starts_6 s_154 (hp1) (by decide) (ltM hnn (by decide)) (sdm hf (by decide)) ?_
  refine w_aload_n ok dX12_starts_7 0 rfl ?_
  refine w_getR ok dX12_starts_8 (fX12_87 rfl) (congrArg Prod.fst s_130) rfl (r_130_40 ro) (ltM hnn (by decide)) ?_
  refine w_iload_n ok dX12_starts_11 1 rfl ?_
  refine w_aload_n ok dX12_starts_12 0 rfl ?_
  refine w_getR ok dX12_starts_13 (fX12_13 rfl) (congrArg Prod.fst s_130) rfl (r_130_3 ro) (ltM hnn (by decide)) ?_
  refine w_bipush (v := 8) ok dX12_starts_16 (by decide) ?_
  refine y_iald (q := 8) ok dX12_starts_18 s_132 (by decide) (by decide) (ltM hnn (by decide)) (sdm hf (by decide)) ?_
  refine y_iast (q := a0.toNatClampNeg) ok dX12_starts_19 s_155 (hp1) (by decide) (ltM hnn (by decide)) (sdm hf (by decide)) ?_
  show WK K 0 0 20 [(0, .ref 130), (1, .int a0)] [] (eI f (S1_X12_starts a0 I J)) (eJ f J) R n g
  refine w_aload_n ok dX12_starts_20 0 rfl ?_
  refine w_getR ok dX12_starts_21 (fX12_90 rfl) (congrArg Prod.fst s_130) rfl (r_130_41 ro) (ltM hnn (by decide)) ?_
  refine w_iload_n ok dX12_starts_24 1 rfl ?_
  refine w_aload_n ok dX12_starts_25 0 rfl ?_
  refine w_getR ok dX12_starts_26 (fX12_13 rfl) (congrArg Prod.fst s_130) rfl (r_130_3 ro) (ltM hnn (by decide)) ?_
  refine w_bipush (v := 7) ok dX12_starts_29 (by decide) ?_
  refine y_iald (q := 7) ok dX12_starts_31 s_132 (by decide) (by decide) (ltM hnn (by decide)) (sdm hf (by decide)) ?_
  refine y_iast (q := a0.toNatClampNeg) ok dX12_starts_32 s_156 (hp1) (by decide) (ltM hnn (by decide)) (sdm hf (by decide)) ?_
  show WK K 0 0 33 [(0, .ref 130), (1, .int a0)] [] (eI f (S2_X12_starts a0 I J)) (eJ f J) R n g
  refine w_aload_n ok dX12_starts_33 0 rfl ?_
  refine w_getR ok dX12_starts_34 (fX12_93 rfl) (congrArg Prod.fst s_130) rfl (r_130_42 ro) (ltM hnn (by decide)) ?_
  refine w_iload_n ok dX12_starts_37 1 rfl ?_
  refine w_iconst (v := 0) ok dX12_starts_38 (by decide) ?_
  refine y_iast (q := a0.toNatClampNeg) ok dX12_starts_39 s_157 (hp1) (by decide) (ltM hnn (by decide)) (sdm hf (by decide)) ?_
  refine w_aload_n ok dX12_starts_40 0 rfl ?_
  refine w_getR ok dX12_starts_41 (fX12_96 rfl) (congrArg Prod.fst s_130) rfl (r_130_43 ro) (ltM hnn (by decide)) ?_
  refine w_iload_n ok dX12_starts_44 1 rfl ?_
  refine w_iconst (v := 0) ok dX12_starts_45 (by decide) ?_
  refine y_iast (q := a0.toNatClampNeg) ok dX12_starts_46 s_158 (hp1) (by decide) (ltM hnn (by decide)) (sdm hf (by decide)) ?_
  show WK K 0 0 47 [(0, .ref 130), (1, .int a0)] [] (eI f (S3_X12_starts a0 I J)) (eJ f J) R n g
  refine w_aload_n ok dX12_starts_47 0 rfl ?_
  refine w_getR ok dX12_starts_48 (fX12_99 rfl) (congrArg Prod.fst s_130) rfl (r_130_44 ro) (ltM hnn (by decide)) ?_
  refine w_iload_n ok dX12_starts_51 1 rfl ?_
  refine w_iconst (v := 0) ok dX12_starts_52 (by decide) ?_
  refine y_iast (q := a0.toNatClampNeg) ok dX12_starts_53 s_159 (hp1) (by decide) (ltM hnn (by decide)) (sdm hf (by decide)) ?_
  refine w_iconst (v := 0) ok dX12_starts_54 (by decide) ?_
  refine w_istore_n ok dX12_starts_55 rfl (by decide) rfl ?_
  refine w_loc [1, 2, 0] rfl ?_
  refine loop_for (σ := SI) (fun (i56 : Nat) (s56 : SI) => WK K 0 0 56 [(0, .ref 130), (1, .int a0), (2, .int (nI i56))] [] (eI f s56) (eJ f J) R n g) (B_X12_starts_l56 a0 I J) (6) ((u2 (S3_X12_starts a0 I J) 159 a0.toNatClampNeg 0)) ?_ ?_
  · show WK K 0 0 56 [(0, .ref 130), (1, .int a0), (2, .int (nI 6))] [] (eI f ((F_X12_starts_l56 a0 I J (u2 (S3_X12_starts a0 I J) 159 a0.toNatClampNeg 0)))) (eJ f J) R n g
    have e1 : (6 : Int32) ≤ (nI 6) := (show nI 6 ≤ nI 6 from nI_le (by omega) (by decide))
    refine w_iload_n ok dX12_starts_56 2 rfl ?_
    show WK K 0 0 57 [(0, .ref 130), (1, .int a0), (2, .int (nI 6))] [.int (nI 6)] (eI f (S4_X12_starts a0 I J)) (eJ f J) R n g
    refine w_bipush (v := 6) ok dX12_starts_57 (by decide) ?_
    refine w_icmp_ge (tgt := 92) ok dX12_starts_59 (by decide) (fun _ => ?_) (fun h => absurd e1 h)
    refine w_iconst (v := 0) ok dX12_starts_92 (by decide) ?_
    refine w_istore_n ok dX12_starts_93 rfl (by decide) rfl ?_
    refine w_loc [1, 2, 0] rfl ?_
    refine loop_for (σ := SI) (fun (i94 : Nat) (s94 : SI) => WK K 0 0 94 [(0, .ref 130), (1, .int a0), (2, .int (nI i94))] [] (eI f s94) (eJ f J) R n g) (B_X12_starts_l94 a0 I J) (8) ((S4_X12_starts a0 I J)) ?_ ?_
    · show WK K 0 0 94 [(0, .ref 130), (1, .int a0), (2, .int (nI 8))] [] (eI f ((F_X12_starts_l94 a0 I J (S4_X12_starts a0 I J)))) (eJ f J) R n g
      have e2 : (8 : Int32) ≤ (nI 8) := (show nI 8 ≤ nI 8 from nI_le (by omega) (by decide))
      refine w_iload_n ok dX12_starts_94 2 rfl ?_
      refine w_bipush (v := 8) ok dX12_starts_95 (by decide) ?_
      refine w_icmp_ge (tgt := 161) ok dX12_starts_97 (by decide) (fun _ => ?_) (fun h => absurd e2 h)
      refine w_iconst (v := 0) ok dX12_starts_161 (by decide) ?_
      refine w_istore_n ok dX12_starts_162 rfl (by decide) rfl ?_
      refine w_loc [1, 2, 0] rfl ?_
      refine loop_for (σ := SI) (fun (i163 : Nat) (s163 : SI) => WK K 0 0 163 [(0, .ref 130), (1, .int a0), (2, .int (nI i163))] [] (eI f s163) (eJ f J) R n g) (B_X12_starts_l163 a0 I J) (48) (((F_X12_starts_l94 a0 I J (S4_X12_starts a0 I J)))) ?_ ?_
      · show WK K 0 0 163 [(0, .ref 130), (1, .int a0), (2, .int (nI 48))] [] (eI f ((F_X12_starts_l163 a0 I J ((F_X12_starts_l94 a0 I J (S4_X12_starts a0 I J)))))) (eJ f J) R n g
        have e3 : (48 : Int32) ≤ (nI 48) := (show nI 48 ≤ nI 48 from nI_le (by omega) (by decide))
        refine w_iload_n ok dX12_starts_163 2 rfl ?_
        show WK K 0 0 164 [(0, .ref 130), (1, .int a0), (2, .int (nI 48))] [.int (nI 48)] (eI f (S5_X12_starts a0 I J)) (eJ f J) R n g
        refine w_bipush (v := 48) ok dX12_starts_164 (by decide) ?_
        refine w_icmp_ge (tgt := 192) ok dX12_starts_166 (by decide) (fun _ => ?_) (fun h => absurd e3 h)
        refine w_iconst (v := 0) ok dX12_starts_192 (by decide) ?_
        refine w_istore_n ok dX12_starts_193 rfl (by decide) rfl ?_
        refine w_loc [1, 2, 0] rfl ?_
        refine loop_for (σ := SI) (fun (i194 : Nat) (s194 : SI) => WK K 0 0 194 [(0, .ref 130), (1, .int a0), (2, .int (nI i194))] [] (eI f s194) (eJ f J) R n g) (B_X12_starts_l194 a0 I J) (4) ((S5_X12_starts a0 I J)) ?_ ?_
        · show WK K 0 0 194 [(0, .ref 130), (1, .int a0), (2, .int (nI 4))] [] (eI f ((F_X12_starts_l194 a0 I J (S5_X12_starts a0 I J)))) (eJ f J) R n g
          have e4 : (4 : Int32) ≤ (nI 4) := (show nI 4 ≤ nI 4 from nI_le (by omega) (by decide))
          refine w_iload_n ok dX12_starts_194 2 rfl ?_
          refine w_iconst (v := 4) ok dX12_starts_195 (by decide) ?_
          refine w_icmp_ge (tgt := 246) ok dX12_starts_196 (by decide) (fun _ => ?_) (fun h => absurd e4 h)
          exact w_vret ok fin dX12_starts_246 rfl (by unfold FI_X12_starts; exact Pd.i)
        · intro i194 s194 hi194 hs194 k194
          show WK K 0 0 194 [(0, .ref 130), (1, .int a0), (2, .int (nI i194))] [] (eI f s194) (eJ f J) R n g
          have e5 : ¬ ((4 : Int32) ≤ (nI i194)) := (show ¬ (nI 4 ≤ nI i194) from nI_ge (by omega) (by decide))
          refine w_iload_n ok dX12_starts_194 2 rfl ?_
          refine w_iconst (v := 4) ok dX12_starts_195 (by decide) ?_
          refine w_icmp_ge (tgt := 246) ok dX12_starts_196 (by decide) (fun h => absurd h e5) (fun _ => ?_)
          refine w_aload_n ok dX12_starts_199 0 rfl ?_
          refine w_getR ok dX12_starts_200 (fX12_120 rfl) (congrArg Prod.fst s_130) rfl (r_130_51 ro) (ltM hnn (by decide)) ?_
          refine w_iconst (v := 4) ok dX12_starts_203 (by decide) ?_
          refine w_iload_n ok dX12_starts_204 1 rfl ?_
          refine w_imul ok dX12_starts_205 ?_
          refine w_iload_n ok dX12_starts_206 2 rfl ?_
          refine w_iadd ok dX12_starts_207 ?_
          refine w_iload_n ok dX12_starts_208 2 rfl ?_
          refine w_aload_n ok dX12_starts_209 0 rfl ?_
          refine w_getR ok dX12_starts_210 (fX12_13 rfl) (congrArg Prod.fst s_130) rfl (r_130_3 ro) (ltM hnn (by decide)) ?_
          refine w_iconst (v := 3) ok dX12_starts_213 (by decide) ?_
          refine y_iald (q := 3) ok dX12_starts_214 s_132 (by decide) (by decide) (ltM hnn (by decide)) (sdm hf (by decide)) ?_
          have jn6 : WK K 0 0 228 [(0, .ref 130), (1, .int a0), (2, .int (nI i194))] [.int (T_X12_starts_j228 a0 I J i194 s194), .int (((4 : Int32) * a0) + (nI i194)), .ref 166] (eI f s194) (eJ f J) R n g := by
            refine y_iast (q := (((4 : Int32) * a0) + (nI i194)).toNatClampNeg) ok dX12_starts_228 s_166 (hp2 i194 s194 hi194 hs194) (by decide) (ltM hnn (by decide)) (sdm hf (by decide)) ?_
            show WK K 0 0 229 [(0, .ref 130), (1, .int a0), (2, .int (nI i194))] [] (eI f (S6_X12_starts a0 I J i194 s194)) (eJ f J) R n g
            refine w_aload_n ok dX12_starts_229 0 rfl ?_
            refine w_getR ok dX12_starts_230 (fX12_123 rfl) (congrArg Prod.fst s_130) rfl (r_130_52 ro) (ltM hnn (by decide)) ?_
            refine w_iconst (v := 4) ok dX12_starts_233 (by decide) ?_
            refine w_iload_n ok dX12_starts_234 1 rfl ?_
            refine w_imul ok dX12_starts_235 ?_
            refine w_iload_n ok dX12_starts_236 2 rfl ?_
            refine w_iadd ok dX12_starts_237 ?_
            refine w_iconst (v := 0) ok dX12_starts_238 (by decide) ?_
            refine y_iast (q := (((4 : Int32) * a0) + (nI i194)).toNatClampNeg) ok dX12_starts_239 s_167 (hp2 i194 s194 hi194 hs194) (by decide) (ltM hnn (by decide)) (sdm hf (by decide)) ?_
            show WK K 0 0 240 [(0, .ref 130), (1, .int a0), (2, .int (nI i194))] [] (eI f (S7_X12_starts a0 I J i194 s194)) (eJ f J) R n g
            refine w_iinc (v := (nI i194) + 1) ok dX12_starts_240 2 rfl rfl (by decide) rfl ?_
            refine w_goto (tgt := 194) ok dX12_starts_243 (by decide) ?_
            have eB : B_X12_starts_l194 a0 I J i194 s194 = (S7_X12_starts a0 I J i194 s194) := by
              unfold B_X12_starts_l194; exact rfl
            have kk := k194
            rw [eB] at kk
            refine w_loc [1, 2, 0] rfl ?_
            rw [nI_1 i194]
            exact kk
          refine w_icmp_ge (tgt := 227) ok dX12_starts_215 (by decide) (fun c7 => ?_) (fun c7 => ?_)
          · skip
            refine w_iconst (v := 0) ok dX12_starts_227 (by decide) ?_
            have eT : (T_X12_starts_j228 a0 I J i194 s194) = 0 := by
              unfold T_X12_starts_j228; exact (if_pos c7).trans (rfl)
            refine w_loc [0, 1, 2] rfl ?_
            have jj := jn6
            rw [eT] at jj
            exact jj
          · skip
            refine w_aload_n ok dX12_starts_218 0 rfl ?_
            refine w_getR ok dX12_starts_219 (fX12_46 rfl) (congrArg Prod.fst s_130) rfl (r_130_14 ro) (ltM hnn (by decide)) ?_
            refine w_iload_n ok dX12_starts_222 2 rfl ?_
            refine y_iald (q := (nI i194).toNatClampNeg) ok dX12_starts_223 s_143 (hp3 i194 s194 hi194 hs194 c7) (by decide) (ltM hnn (by decide)) (sdm hf (by decide)) ?_
            refine w_goto (tgt := 228) ok dX12_starts_224 (by decide) ?_
            have eT : (T_X12_starts_j228 a0 I J i194 s194) = (s194 143 (nI i194).toNatClampNeg) := by
              unfold T_X12_starts_j228; exact (if_neg c7).trans (rfl)
            refine w_loc [0, 1, 2] rfl ?_
            have jj := jn6
            rw [eT] at jj
            exact jj
      · intro i163 s163 hi163 hs163 k163
        show WK K 0 0 163 [(0, .ref 130), (1, .int a0), (2, .int (nI i163))] [] (eI f s163) (eJ f J) R n g
        have e8 : ¬ ((48 : Int32) ≤ (nI i163)) := (show ¬ (nI 48 ≤ nI i163) from nI_ge (by omega) (by decide))
        refine w_iload_n ok dX12_starts_163 2 rfl ?_
        refine w_bipush (v := 48) ok dX12_starts_164 (by decide) ?_
        refine w_icmp_ge (tgt := 192) ok dX12_starts_166 (by decide) (fun h => absurd h e8) (fun _ => ?_)
        refine w_aload_n ok dX12_starts_169 0 rfl ?_
        refine w_getR ok dX12_starts_170 (fX12_117 rfl) (congrArg Prod.fst s_130) rfl (r_130_50 ro) (ltM hnn (by decide)) ?_
        refine w_bipush (v := 48) ok dX12_starts_173 (by decide) ?_
        refine w_iload_n ok dX12_starts_175 1 rfl ?_
        refine w_imul ok dX12_starts_176 ?_
        refine w_iload_n ok dX12_starts_177 2 rfl ?_
        refine w_iadd ok dX12_starts_178 ?_
        refine w_aload_n ok dX12_starts_179 0 rfl ?_
        refine w_getR ok dX12_starts_180 (fX12_34 rfl) (congrArg Prod.fst s_130) rfl (r_130_10 ro) (ltM hnn (by decide)) ?_
        refine w_iload_n ok dX12_starts_183 2 rfl ?_
        refine y_iald (q := (nI i163).toNatClampNeg) ok dX12_starts_184 s_139 (hp4 i163 s163 hi163 hs163) (by decide) (ltM hnn (by decide)) (sdm hf (by decide)) ?_
        refine y_iast (q := (((48 : Int32) * a0) + (nI i163)).toNatClampNeg) ok dX12_starts_185 s_165 (hp5 i163 s163 hi163 hs163) (by decide) (ltM hnn (by decide)) (sdm hf (by decide)) ?_
        show WK K 0 0 186 [(0, .ref 130), (1, .int a0), (2, .int (nI i163))] [] (eI f (S8_X12_starts a0 I J i163 s163)) (eJ f J) R n g
        refine w_iinc (v := (nI i163) + 1) ok dX12_starts_186 2 rfl rfl (by decide) rfl ?_
        refine w_goto (tgt := 163) ok dX12_starts_189 (by decide) ?_
        have eB : B_X12_starts_l163 a0 I J i163 s163 = (S8_X12_starts a0 I J i163 s163) := by
          unfold B_X12_starts_l163; exact rfl
        have kk := k163
        rw [eB] at kk
        refine w_loc [1, 2, 0] rfl ?_
        rw [nI_1 i163]
        exact kk
    · intro i94 s94 hi94 hs94 k94
      show WK K 0 0 94 [(0, .ref 130), (1, .int a0), (2, .int (nI i94))] [] (eI f s94) (eJ f J) R n g
      have e9 : ¬ ((8 : Int32) ≤ (nI i94)) := (show ¬ (nI 8 ≤ nI i94) from nI_ge (by omega) (by decide))
      refine w_iload_n ok dX12_starts_94 2 rfl ?_
      refine w_bipush (v := 8) ok dX12_starts_95 (by decide) ?_
      refine w_icmp_ge (tgt := 161) ok dX12_starts_97 (by decide) (fun h => absurd h e9) (fun _ => ?_)
      refine w_aload_n ok dX12_starts_100 0 rfl ?_
      refine w_getR ok dX12_starts_101 (fX12_108 rfl) (congrArg Prod.fst s_130) rfl (r_130_47 ro) (ltM hnn (by decide)) ?_
      refine w_bipush (v := 8) ok dX12_starts_104 (by decide) ?_
      refine w_iload_n ok dX12_starts_106 1 rfl ?_
      refine w_imul ok dX12_starts_107 ?_
      refine w_iload_n ok dX12_starts_108 2 rfl ?_
      refine w_iadd ok dX12_starts_109 ?_
      refine w_iload_n ok dX12_starts_110 2 rfl ?_
      refine w_aload_n ok dX12_starts_111 0 rfl ?_
      refine w_getR ok dX12_starts_112 (fX12_13 rfl) (congrArg Prod.fst s_130) rfl (r_130_3 ro) (ltM hnn (by decide)) ?_
      refine w_iconst (v := 1) ok dX12_starts_115 (by decide) ?_
      refine y_iald (q := 1) ok dX12_starts_116 s_132 (by decide) (by decide) (ltM hnn (by decide)) (sdm hf (by decide)) ?_
      have jn10 : WK K 0 0 130 [(0, .ref 130), (1, .int a0), (2, .int (nI i94))] [.int (T_X12_starts_j130 a0 I J i94 s94), .int (((8 : Int32) * a0) + (nI i94)), .ref 162] (eI f s94) (eJ f J) R n g := by
        refine y_iast (q := (((8 : Int32) * a0) + (nI i94)).toNatClampNeg) ok dX12_starts_130 s_162 (hp6 i94 s94 hi94 hs94) (by decide) (ltM hnn (by decide)) (sdm hf (by decide)) ?_
        show WK K 0 0 131 [(0, .ref 130), (1, .int a0), (2, .int (nI i94))] [] (eI f (S9_X12_starts a0 I J i94 s94)) (eJ f J) R n g
        refine w_aload_n ok dX12_starts_131 0 rfl ?_
        refine w_getR ok dX12_starts_132 (fX12_111 rfl) (congrArg Prod.fst s_130) rfl (r_130_48 ro) (ltM hnn (by decide)) ?_
        refine w_bipush (v := 8) ok dX12_starts_135 (by decide) ?_
        refine w_iload_n ok dX12_starts_137 1 rfl ?_
        refine w_imul ok dX12_starts_138 ?_
        refine w_iload_n ok dX12_starts_139 2 rfl ?_
        refine w_iadd ok dX12_starts_140 ?_
        refine w_iconst (v := 0) ok dX12_starts_141 (by decide) ?_
        refine y_iast (q := (((8 : Int32) * a0) + (nI i94)).toNatClampNeg) ok dX12_starts_142 s_163 (hp6 i94 s94 hi94 hs94) (by decide) (ltM hnn (by decide)) (sdm hf (by decide)) ?_
        show WK K 0 0 143 [(0, .ref 130), (1, .int a0), (2, .int (nI i94))] [] (eI f (S10_X12_starts a0 I J i94 s94)) (eJ f J) R n g
        refine w_aload_n ok dX12_starts_143 0 rfl ?_
        refine w_getR ok dX12_starts_144 (fX12_114 rfl) (congrArg Prod.fst s_130) rfl (r_130_49 ro) (ltM hnn (by decide)) ?_
        refine w_bipush (v := 8) ok dX12_starts_147 (by decide) ?_
        refine w_iload_n ok dX12_starts_149 1 rfl ?_
        refine w_imul ok dX12_starts_150 ?_
        refine w_iload_n ok dX12_starts_151 2 rfl ?_
        refine w_iadd ok dX12_starts_152 ?_
        refine w_iconst (v := 0) ok dX12_starts_153 (by decide) ?_
        refine y_iast (q := (((8 : Int32) * a0) + (nI i94)).toNatClampNeg) ok dX12_starts_154 s_164 (hp6 i94 s94 hi94 hs94) (by decide) (ltM hnn (by decide)) (sdm hf (by decide)) ?_
        show WK K 0 0 155 [(0, .ref 130), (1, .int a0), (2, .int (nI i94))] [] (eI f (S11_X12_starts a0 I J i94 s94)) (eJ f J) R n g
        refine w_iinc (v := (nI i94) + 1) ok dX12_starts_155 2 rfl rfl (by decide) rfl ?_
        refine w_goto (tgt := 94) ok dX12_starts_158 (by decide) ?_
        have eB : B_X12_starts_l94 a0 I J i94 s94 = (S11_X12_starts a0 I J i94 s94) := by
          unfold B_X12_starts_l94; exact rfl
        have kk := k94
        rw [eB] at kk
        refine w_loc [1, 2, 0] rfl ?_
        rw [nI_1 i94]
        exact kk
      refine w_icmp_ge (tgt := 129) ok dX12_starts_117 (by decide) (fun c11 => ?_) (fun c11 => ?_)
      · skip
        refine w_iconst (v := 0) ok dX12_starts_129 (by decide) ?_
        have eT : (T_X12_starts_j130 a0 I J i94 s94) = 0 := by
          unfold T_X12_starts_j130; exact (if_pos c11).trans (rfl)
        refine w_loc [0, 1, 2] rfl ?_
        have jj := jn10
        rw [eT] at jj
        exact jj
      · skip
        refine w_aload_n ok dX12_starts_120 0 rfl ?_
        refine w_getR ok dX12_starts_121 (fX12_31 rfl) (congrArg Prod.fst s_130) rfl (r_130_9 ro) (ltM hnn (by decide)) ?_
        refine w_iload_n ok dX12_starts_124 2 rfl ?_
        refine y_iald (q := (nI i94).toNatClampNeg) ok dX12_starts_125 s_138 (hp7 i94 s94 hi94 hs94 c11) (by decide) (ltM hnn (by decide)) (sdm hf (by decide)) ?_
        refine w_goto (tgt := 130) ok dX12_starts_126 (by decide) ?_
        have eT : (T_X12_starts_j130 a0 I J i94 s94) = (s94 138 (nI i94).toNatClampNeg) := by
          unfold T_X12_starts_j130; exact (if_neg c11).trans (rfl)
        refine w_loc [0, 1, 2] rfl ?_
        have jj := jn10
        rw [eT] at jj
        exact jj
  · intro i56 s56 hi56 hs56 k56
    show WK K 0 0 56 [(0, .ref 130), (1, .int a0), (2, .int (nI i56))] [] (eI f s56) (eJ f J) R n g
    have e12 : ¬ ((6 : Int32) ≤ (nI i56)) := (show ¬ (nI 6 ≤ nI i56) from nI_ge (by omega) (by decide))
    refine w_iload_n ok dX12_starts_56 2 rfl ?_
    refine w_bipush (v := 6) ok dX12_starts_57 (by decide) ?_
    refine w_icmp_ge (tgt := 92) ok dX12_starts_59 (by decide) (fun h => absurd h e12) (fun _ => ?_)
    refine w_aload_n ok dX12_starts_62 0 rfl ?_
    refine w_getR ok dX12_starts_63 (fX12_102 rfl) (congrArg Prod.fst s_130) rfl (r_130_45 ro) (ltM hnn (by decide)) ?_
    refine w_bipush (v := 6) ok dX12_starts_66 (by decide) ?_
    refine w_iload_n ok dX12_starts_68 1 rfl ?_
    refine w_imul ok dX12_starts_69 ?_
    refine w_iload_n ok dX12_starts_70 2 rfl ?_
    refine w_iadd ok dX12_starts_71 ?_
    refine w_iconst (v := (-1)) ok dX12_starts_72 (by decide) ?_
    refine y_iast (q := (((6 : Int32) * a0) + (nI i56)).toNatClampNeg) ok dX12_starts_73 s_160 (hp8 i56 s56 hi56 hs56) (by decide) (ltM hnn (by decide)) (sdm hf (by decide)) ?_
    refine w_aload_n ok dX12_starts_74 0 rfl ?_
    refine w_getR ok dX12_starts_75 (fX12_105 rfl) (congrArg Prod.fst s_130) rfl (r_130_46 ro) (ltM hnn (by decide)) ?_
    refine w_bipush (v := 6) ok dX12_starts_78 (by decide) ?_
    refine w_iload_n ok dX12_starts_80 1 rfl ?_
    refine w_imul ok dX12_starts_81 ?_
    refine w_iload_n ok dX12_starts_82 2 rfl ?_
    refine w_iadd ok dX12_starts_83 ?_
    refine w_iconst (v := 0) ok dX12_starts_84 (by decide) ?_
    refine y_iast (q := (((6 : Int32) * a0) + (nI i56)).toNatClampNeg) ok dX12_starts_85 s_161 (hp8 i56 s56 hi56 hs56) (by decide) (ltM hnn (by decide)) (sdm hf (by decide)) ?_
    show WK K 0 0 86 [(0, .ref 130), (1, .int a0), (2, .int (nI i56))] [] (eI f (S12_X12_starts a0 I J i56 s56)) (eJ f J) R n g
    refine w_iinc (v := (nI i56) + 1) ok dX12_starts_86 2 rfl rfl (by decide) rfl ?_
    refine w_goto (tgt := 56) ok dX12_starts_89 (by decide) ?_
    have eB : B_X12_starts_l56 a0 I J i56 s56 = (S12_X12_starts a0 I J i56 s56) := by
      unfold B_X12_starts_l56; exact rfl
    have kk := k56
    rw [eB] at kk
    refine w_loc [1, 2, 0] rfl ?_
    rw [nI_1 i56]
    exact kk
def FI_X12_begins  (I : SI) (J : SJ) : SI := FI_X12_starts 0 I J
def H_X12_begins  (I : SI) (J : SJ) : Prop := (H_X12_starts 0 I J)
set_option maxHeartbeats 1000000 in
set_option maxRecDepth 40000 in
theorem c_X12_begins {I : SI} {J : SJ} {R : SR} {n g : Nat} {f : Fr} (ro : RM R) (hnn : nM ≤ n) (hf : f.1 = false)   (hp : H_X12_begins  I J) : MM 1 0 0 mX12_begins [.ref 130] (eI f I) (eJ f J) R n g (Pd none (eI f (FI_X12_begins  I J)) (eJ f J) R n g) := by
  refine MM.of (by decide) (Nat.le_of_ble_eq_true rfl) fun K ok fin => ?_
  show WK K 0 0 0 [(0, .ref 130)] [] (eI f I) (eJ f J) R n g
  have hp1 := hp
  refine w_aload_n ok dX12_begins_0 0 rfl ?_
  refine w_iconst (v := 0) ok dX12_begins_1 (by decide) ?_
  refine w_cV (As := [.int 0]) ok dX12_begins_2 iX12_starts (lX12_358 rfl) (rcv cls12 (congrArg Prod.fst s_130)) (ltM hnn (by decide)) (c_X12_starts ro hnn hf 0  (hp1)) (by decide) rfl (Nat.le_of_ble_eq_true rfl) ?_
  exact w_vret ok fin dX12_begins_5 rfl (by unfold FI_X12_begins; exact Pd.i)
def S1_X12_copies (a0 : Int32) (a1 : Int32) (I : SI) (J : SJ) : SI := u2 (u2 I 154 a0.toNatClampNeg (I 154 a1.toNatClampNeg)) 155 a0.toNatClampNeg ((u2 I 154 a0.toNatClampNeg (I 154 a1.toNatClampNeg)) 155 a1.toNatClampNeg)
def S2_X12_copies (a0 : Int32) (a1 : Int32) (I : SI) (J : SJ) : SI := u2 (S1_X12_copies a0 a1 I J) 156 a0.toNatClampNeg ((S1_X12_copies a0 a1 I J) 156 a1.toNatClampNeg)
def S3_X12_copies (a0 : Int32) (a1 : Int32) (I : SI) (J : SJ) : SI := u2 (S2_X12_copies a0 a1 I J) 157 a0.toNatClampNeg ((S2_X12_copies a0 a1 I J) 157 a1.toNatClampNeg)
def S4_X12_copies (a0 : Int32) (a1 : Int32) (I : SI) (J : SJ) : SI := u2 (S3_X12_copies a0 a1 I J) 158 a0.toNatClampNeg ((S3_X12_copies a0 a1 I J) 158 a1.toNatClampNeg)
def S5_X12_copies (a0 : Int32) (a1 : Int32) (I : SI) (J : SJ) : SI := u2 (S4_X12_copies a0 a1 I J) 159 a0.toNatClampNeg ((S4_X12_copies a0 a1 I J) 159 a1.toNatClampNeg)
def S14_X12_copies (a0 : Int32) (a1 : Int32) (I : SI) (J : SJ) (i74 : Nat) (s74 : SI) : SI := u2 s74 160 (((6 : Int32) * a0) + (nI i74)).toNatClampNeg (s74 160 (((6 : Int32) * a1) + (nI i74)).toNatClampNeg)
def S15_X12_copies (a0 : Int32) (a1 : Int32) (I : SI) (J : SJ) (i74 : Nat) (s74 : SI) : SI := u2 (S14_X12_copies a0 a1 I J i74 s74) 161 (((6 : Int32) * a0) + (nI i74)).toNatClampNeg ((S14_X12_copies a0 a1 I J i74 s74) 161 (((6 : Int32) * a1) + (nI i74)).toNatClampNeg)
def B_X12_copies_l74 (a0 : Int32) (a1 : Int32) (I : SI) (J : SJ) (i74 : Nat) (s74 : SI) : SI := (S15_X12_copies a0 a1 I J i74 s74)
def F_X12_copies_l74 (a0 : Int32) (a1 : Int32) (I : SI) (J : SJ) (s0 : SI) : SI := itN (B_X12_copies_l74 a0 a1 I J) (6) s0
def S11_X12_copies (a0 : Int32) (a1 : Int32) (I : SI) (J : SJ) (i132 : Nat) (s132 : SI) : SI := u2 s132 162 (((8 : Int32) * a0) + (nI i132)).toNatClampNeg (s132 162 (((8 : Int32) * a1) + (nI i132)).toNatClampNeg)
def S12_X12_copies (a0 : Int32) (a1 : Int32) (I : SI) (J : SJ) (i132 : Nat) (s132 : SI) : SI := u2 (S11_X12_copies a0 a1 I J i132 s132) 163 (((8 : Int32) * a0) + (nI i132)).toNatClampNeg ((S11_X12_copies a0 a1 I J i132 s132) 163 (((8 : Int32) * a1) + (nI i132)).toNatClampNeg)
def S13_X12_copies (a0 : Int32) (a1 : Int32) (I : SI) (J : SJ) (i132 : Nat) (s132 : SI) : SI := u2 (S12_X12_copies a0 a1 I J i132 s132) 164 (((8 : Int32) * a0) + (nI i132)).toNatClampNeg ((S12_X12_copies a0 a1 I J i132 s132) 164 (((8 : Int32) * a1) + (nI i132)).toNatClampNeg)
def B_X12_copies_l132 (a0 : Int32) (a1 : Int32) (I : SI) (J : SJ) (i132 : Nat) (s132 : SI) : SI := (S13_X12_copies a0 a1 I J i132 s132)
def F_X12_copies_l132 (a0 : Int32) (a1 : Int32) (I : SI) (J : SJ) (s0 : SI) : SI := itN (B_X12_copies_l132 a0 a1 I J) (8) s0
def S6_X12_copies (a0 : Int32) (a1 : Int32) (I : SI) (J : SJ) : SI := (F_X12_copies_l132 a0 a1 I J ((F_X12_copies_l74 a0 a1 I J (S5_X12_copies a0 a1 I J))))
def S10_X12_copies (a0 : Int32) (a1 : Int32) (I : SI) (J : SJ) (i212 : Nat) (s212 : SI) : SI := u2 s212 165 (((48 : Int32) * a0) + (nI i212)).toNatClampNeg (s212 165 (((48 : Int32) * a1) + (nI i212)).toNatClampNeg)
def B_X12_copies_l212 (a0 : Int32) (a1 : Int32) (I : SI) (J : SJ) (i212 : Nat) (s212 : SI) : SI := (S10_X12_copies a0 a1 I J i212 s212)
def F_X12_copies_l212 (a0 : Int32) (a1 : Int32) (I : SI) (J : SJ) (s0 : SI) : SI := itN (B_X12_copies_l212 a0 a1 I J) (48) s0
def S8_X12_copies (a0 : Int32) (a1 : Int32) (I : SI) (J : SJ) (i248 : Nat) (s248 : SI) : SI := u2 s248 166 (((4 : Int32) * a0) + (nI i248)).toNatClampNeg (s248 166 (((4 : Int32) * a1) + (nI i248)).toNatClampNeg)
def S9_X12_copies (a0 : Int32) (a1 : Int32) (I : SI) (J : SJ) (i248 : Nat) (s248 : SI) : SI := u2 (S8_X12_copies a0 a1 I J i248 s248) 167 (((4 : Int32) * a0) + (nI i248)).toNatClampNeg ((S8_X12_copies a0 a1 I J i248 s248) 167 (((4 : Int32) * a1) + (nI i248)).toNatClampNeg)
def B_X12_copies_l248 (a0 : Int32) (a1 : Int32) (I : SI) (J : SJ) (i248 : Nat) (s248 : SI) : SI := (S9_X12_copies a0 a1 I J i248 s248)
def F_X12_copies_l248 (a0 : Int32) (a1 : Int32) (I : SI) (J : SJ) (s0 : SI) : SI := itN (B_X12_copies_l248 a0 a1 I J) (4) s0
def S7_X12_copies (a0 : Int32) (a1 : Int32) (I : SI) (J : SJ) : SI := (F_X12_copies_l248 a0 a1 I J ((F_X12_copies_l212 a0 a1 I J (S6_X12_copies a0 a1 I J))))
def FI_X12_copies (a0 : Int32) (a1 : Int32) (I : SI) (J : SJ) : SI := (S7_X12_copies a0 a1 I J)
def H_X12_copies (a0 : Int32) (a1 : Int32) (I : SI) (J : SJ) : Prop := (inR a1 23) ∧ (inR a0 23) ∧ (∀ (i248 : Nat) (s248 : SI), i248 < 4 → s248 = itN (B_X12_copies_l248 a0 a1 I J) i248 ((F_X12_copies_l212 a0 a1 I J (S6_X12_copies a0 a1 I J))) → inR (((4 : Int32) * a1) + (nI i248)) 92) ∧ (∀ (i248 : Nat) (s248 : SI), i248 < 4 → s248 = itN (B_X12_copies_l248 a0 a1 I J) i248 ((F_X12_copies_l212 a0 a1 I J (S6_X12_copies a0 a1 I J))) → inR (((4 : Int32) * a0) + (nI i248)) 92) ∧ (∀ (i212 : Nat) (s212 : SI), i212 < 48 → s212 = itN (B_X12_copies_l212 a0 a1 I J) i212 (S6_X12_copies a0 a1 I J) → inR (((48 : Int32) * a1) + (nI i212)) 1104) ∧ (∀ (i212 : Nat) (s212 : SI), i212 < 48 → s212 = itN (B_X12_copies_l212 a0 a1 I J) i212 (S6_X12_copies a0 a1 I J) → inR (((48 : Int32) * a0) + (nI i212)) 1104) ∧ (∀ (i132 : Nat) (s132 : SI), i132 < 8 → s132 = itN (B_X12_copies_l132 a0 a1 I J) i132 ((F_X12_copies_l74 a0 a1 I J (S5_X12_copies a0 a1 I J))) → inR (((8 : Int32) * a1) + (nI i132)) 184) ∧ (∀ (i132 : Nat) (s132 : SI), i132 < 8 → s132 = itN (B_X12_copies_l132 a0 a1 I J) i132 ((F_X12_copies_l74 a0 a1 I J (S5_X12_copies a0 a1 I J))) → inR (((8 : Int32) * a0) + (nI i132)) 184) ∧ (∀ (i74 : Nat) (s74 : SI), i74 < 6 → s74 = itN (B_X12_copies_l74 a0 a1 I J) i74 (S5_X12_copies a0 a1 I J) → inR (((6 : Int32) * a1) + (nI i74)) 138) ∧ (∀ (i74 : Nat) (s74 : SI), i74 < 6 → s74 = itN (B_X12_copies_l74 a0 a1 I J) i74 (S5_X12_copies a0 a1 I J) → inR (((6 : Int32) * a0) + (nI i74)) 138)
set_option maxHeartbeats 2890000 in
set_option maxRecDepth 40000 in
theorem c_X12_copies {I : SI} {J : SJ} {R : SR} {n g : Nat} {f : Fr} (ro : RM R) (hnn : nM ≤ n) (hf : f.1 = false) (a0 : Int32) (a1 : Int32)  (hp : H_X12_copies a0 a1 I J) : MM 0 0 0 mX12_copies [.ref 130, .int a0, .int a1] (eI f I) (eJ f J) R n g (Pd none (eI f (FI_X12_copies a0 a1 I J)) (eJ f J) R n g) := by
  refine MM.of (by decide) (Nat.le_of_ble_eq_true rfl) fun K ok fin => ?_
  show WK K 0 0 0 [(0, .ref 130), (1, .int a0), (2, .int a1)] [] (eI f I) (eJ f J) R n g
  obtain ⟨hp1, hp2, hp3, hp4, hp5, hp6, hp7, hp8, hp9, hp10⟩ := hp
  refine w_aload_n ok dX12_copies_0 0 rfl ?_
  refine w_getR ok dX12_copies_1 (fX12_84 rfl) (congrArg Prod.fst s_130) rfl (r_130_39 ro) (ltM hnn (by decide)) ?_
  refine w_iload_n ok dX12_copies_4 1 rfl ?_
  refine w_aload_n ok dX12_copies_5 0 rfl ?_
  refine w_getR ok dX12_copies_6 (fX12_84 rfl) (congrArg Prod.fst s_130) rfl (r_130_39 ro) (ltM hnn (by decide)) ?_
  refine w_iload_n ok dX12_copies_9 2 rfl ?_
  refine y_iald (q := a1.toNatClampNeg) ok dX12_copies_10 s_154 (hp1) (by decide) (ltM hnn (by decide)) (sdm hf (by decide)) ?_
  refine y_iast (q := a0.toNatClampNeg) ok dX12_copies_11 s_154 (hp2) (by decide) (ltM hnn (by decide)) (sdm hf (by decide)) ?_
  refine w_aload_n ok dX12_copies_12 0 rfl ?_
  refine w_getR ok dX12_copies_13 (fX12_87 rfl) (congrArg Prod.fst s_130) rfl (r_130_40 ro) (ltM hnn (by decide)) ?_
  refine w_iload_n ok dX12_copies_16 1 rfl ?_
  refine w_aload_n ok dX12_copies_17 0 rfl ?_
  refine w_getR ok dX12_copies_18 (fX12_87 rfl) (congrArg Prod.fst s_130) rfl (r_130_40 ro) (ltM hnn (by decide)) ?_
  refine w_iload_n ok dX12_copies_21 2 rfl ?_
  refine y_iald (q := a1.toNatClampNeg) ok dX12_copies_22 s_155 (hp1) (by decide) (ltM hnn (by decide)) (sdm hf (by decide)) ?_
  refine y_iast (q := a0.toNatClampNeg) ok dX12_copies_23 s_155 (hp2) (by decide) (ltM hnn (by decide)) (sdm hf (by decide)) ?_
  show WK K 0 0 24 [(0, .ref 130), (1, .int a0), (2, .int a1)] [] (eI f (S1_X12_copies a0 a1 I J)) (eJ f J) R n g
  refine w_aload_n ok dX12_copies_24 0 rfl ?_
  refine w_getR ok dX12_copies_25 (fX12_90 rfl) (congrArg Prod.fst s_130) rfl (r_130_41 ro) (ltM hnn (by decide)) ?_
  refine w_iload_n ok dX12_copies_28 1 rfl ?_
  refine w_aload_n ok dX12_copies_29 0 rfl ?_
  refine w_getR ok dX12_copies_30 (fX12_90 rfl) (congrArg Prod.fst s_130) rfl (r_130_41 ro) (ltM hnn (by decide)) ?_
  refine w_iload_n ok dX12_copies_33 2 rfl ?_
  refine y_iald (q := a1.toNatClampNeg) ok dX12_copies_34 s_156 (hp1) (by decide) (ltM hnn (by decide)) (sdm hf (by decide)) ?_
  refine y_iast (q := a0.toNatClampNeg) ok dX12_copies_35 s_156 (hp2) (by decide) (ltM hnn (by decide)) (sdm hf (by decide)) ?_
  show WK K 0 0 36 [(0, .ref 130), (1, .int a0), (2, .int a1)] [] (eI f (S2_X12_copies a0 a1 I J)) (eJ f J) R n g
  refine w_aload_n ok dX12_copies_36 0 rfl ?_
  refine w_getR ok dX12_copies_37 (fX12_93 rfl) (congrArg Prod.fst s_130) rfl (r_130_42 ro) (ltM hnn (by decide)) ?_
  refine w_iload_n ok dX12_copies_40 1 rfl ?_
  refine w_aload_n ok dX12_copies_41 0 rfl ?_
  refine w_getR ok dX12_copies_42 (fX12_93 rfl) (congrArg Prod.fst s_130) rfl (r_130_42 ro) (ltM hnn (by decide)) ?_
  refine w_iload_n ok dX12_copies_45 2 rfl ?_
  refine y_iald (q := a1.toNatClampNeg) ok dX12_copies_46 s_157 (hp1) (by decide) (ltM hnn (by decide)) (sdm hf (by decide)) ?_
  refine y_iast (q := a0.toNatClampNeg) ok dX12_copies_47 s_157 (hp2) (by decide) (ltM hnn (by decide)) (sdm hf (by decide)) ?_
  show WK K 0 0 48 [(0, .ref 130), (1, .int a0), (2, .int a1)] [] (eI f (S3_X12_copies a0 a1 I J)) (eJ f J) R n g
  refine w_aload_n ok dX12_copies_48 0 rfl ?_
  refine w_getR ok dX12_copies_49 (fX12_96 rfl) (congrArg Prod.fst s_130) rfl (r_130_43 ro) (ltM hnn (by decide)) ?_
  refine w_iload_n ok dX12_copies_52 1 rfl ?_
  refine w_aload_n ok dX12_copies_53 0 rfl ?_
  refine w_getR ok dX12_copies_54 (fX12_96 rfl) (congrArg Prod.fst s_130) rfl (r_130_43 ro) (ltM hnn (by decide)) ?_
  refine w_iload_n ok dX12_copies_57 2 rfl ?_
  refine y_iald (q := a1.toNatClampNeg) ok dX12_copies_58 s_158 (hp1) (by decide) (ltM hnn (by decide)) (sdm hf (by decide)) ?_
  refine y_iast (q := a0.toNatClampNeg) ok dX12_copies_59 s_158 (hp2) (by decide) (ltM hnn (by decide)) (sdm hf (by decide)) ?_
  show WK K 0 0 60 [(0, .ref 130), (1, .int a0), (2, .int a1)] [] (eI f (S4_X12_copies a0 a1 I J)) (eJ f J) R n g
  refine w_aload_n ok dX12_copies_60 0 rfl ?_
  refine w_getR ok dX12_copies_61 (fX12_99 rfl) (congrArg Prod.fst s_130) rfl (r_130_44 ro) (ltM hnn (by decide)) ?_
  refine w_iload_n ok dX12_copies_64 1 rfl ?_
  refine w_aload_n ok dX12_copies_65 0 rfl ?_
  refine w_getR ok dX12_copies_66 (fX12_99 rfl) (congrArg Prod.fst s_130) rfl (r_130_44 ro) (ltM hnn (by decide)) ?_
  refine w_iload_n ok dX12_copies_69 2 rfl ?_
  refine y_iald (q := a1.toNatClampNeg) ok dX12_copies_70 s_159 (hp1) (by decide) (ltM hnn (by decide)) (sdm hf (by decide)) ?_
  refine y_iast (q := a0.toNatClampNeg) ok dX12_copies_71 s_159 (hp2) (by decide) (ltM hnn (by decide)) (sdm hf (by decide)) ?_
  show WK K 0 0 72 [(0, .ref 130), (1, .int a0), (2, .int a1)] [] (eI f (S5_X12_copies a0 a1 I J)) (eJ f J) R n g
  refine w_iconst (v := 0) ok dX12_copies_72 (by decide) ?_
  refine w_istore_n ok dX12_copies_73 rfl (by decide) rfl ?_
  refine w_loc [1, 2, 3, 0] rfl ?_
  refine loop_for (σ := SI) (fun (i74 : Nat) (s74 : SI) => WK K 0 0 74 [(0, .ref 130), (1, .int a0), (2, .int a1), (3, .int (nI i74))] [] (eI f s74) (eJ f J) R n g) (B_X12_copies_l74 a0 a1 I J) (6) ((S5_X12_copies a0 a1 I J)) ?_ ?_
  · show WK K 0 0 74 [(0, .ref 130), (1, .int a0), (2, .int a1), (3, .int (nI 6))] [] (eI f ((F_X12_copies_l74 a0 a1 I J (S5_X12_copies a0 a1 I J)))) (eJ f J) R n g
    have e1 : (6 : Int32) ≤ (nI 6) := (show nI 6 ≤ nI 6 from nI_le (by omega) (by decide))
    refine w_iload_n ok dX12_copies_74 3 rfl ?_
    refine w_bipush (v := 6) ok dX12_copies_75 (by decide) ?_
    refine w_icmp_ge (tgt := 130) ok dX12_copies_77 (by decide) (fun _ => ?_) (fun h => absurd e1 h)
    refine w_iconst (v := 0) ok dX12_copies_130 (by decide) ?_
    refine w_istore_n ok dX12_copies_131 rfl (by decide) rfl ?_
    refine w_loc [1, 2, 3, 0] rfl ?_
    refine loop_for (σ := SI) (fun (i132 : Nat) (s132 : SI) => WK K 0 0 132 [(0, .ref 130), (1, .int a0), (2, .int a1), (3, .int (nI i132))] [] (eI f s132) (eJ f J) R n g) (B_X12_copies_l132 a0 a1 I J) (8) (((F_X12_copies_l74 a0 a1 I J (S5_X12_copies a0 a1 I J)))) ?_ ?_
    · show WK K 0 0 132 [(0, .ref 130), (1, .int a0), (2, .int a1), (3, .int (nI 8))] [] (eI f ((F_X12_copies_l132 a0 a1 I J ((F_X12_copies_l74 a0 a1 I J (S5_X12_copies a0 a1 I J)))))) (eJ f J) R n g
      have e2 : (8 : Int32) ≤ (nI 8) := (show nI 8 ≤ nI 8 from nI_le (by omega) (by decide))
      refine w_iload_n ok dX12_copies_132 3 rfl ?_
      show WK K 0 0 133 [(0, .ref 130), (1, .int a0), (2, .int a1), (3, .int (nI 8))] [.int (nI 8)] (eI f (S6_X12_copies a0 a1 I J)) (eJ f J) R n g
      refine w_bipush (v := 8) ok dX12_copies_133 (by decide) ?_
      refine w_icmp_ge (tgt := 210) ok dX12_copies_135 (by decide) (fun _ => ?_) (fun h => absurd e2 h)
      refine w_iconst (v := 0) ok dX12_copies_210 (by decide) ?_
      refine w_istore_n ok dX12_copies_211 rfl (by decide) rfl ?_
      refine w_loc [1, 2, 3, 0] rfl ?_
      refine loop_for (σ := SI) (fun (i212 : Nat) (s212 : SI) => WK K 0 0 212 [(0, .ref 130), (1, .int a0), (2, .int a1), (3, .int (nI i212))] [] (eI f s212) (eJ f J) R n g) (B_X12_copies_l212 a0 a1 I J) (48) ((S6_X12_copies a0 a1 I J)) ?_ ?_
      · show WK K 0 0 212 [(0, .ref 130), (1, .int a0), (2, .int a1), (3, .int (nI 48))] [] (eI f ((F_X12_copies_l212 a0 a1 I J (S6_X12_copies a0 a1 I J)))) (eJ f J) R n g
        have e3 : (48 : Int32) ≤ (nI 48) := (show nI 48 ≤ nI 48 from nI_le (by omega) (by decide))
        refine w_iload_n ok dX12_copies_212 3 rfl ?_
        refine w_bipush (v := 48) ok dX12_copies_213 (by decide) ?_
        refine w_icmp_ge (tgt := 246) ok dX12_copies_215 (by decide) (fun _ => ?_) (fun h => absurd e3 h)
        refine w_iconst (v := 0) ok dX12_copies_246 (by decide) ?_
        refine w_istore_n ok dX12_copies_247 rfl (by decide) rfl ?_
        refine w_loc [1, 2, 3, 0] rfl ?_
        refine loop_for (σ := SI) (fun (i248 : Nat) (s248 : SI) => WK K 0 0 248 [(0, .ref 130), (1, .int a0), (2, .int a1), (3, .int (nI i248))] [] (eI f s248) (eJ f J) R n g) (B_X12_copies_l248 a0 a1 I J) (4) (((F_X12_copies_l212 a0 a1 I J (S6_X12_copies a0 a1 I J)))) ?_ ?_
        · show WK K 0 0 248 [(0, .ref 130), (1, .int a0), (2, .int a1), (3, .int (nI 4))] [] (eI f ((F_X12_copies_l248 a0 a1 I J ((F_X12_copies_l212 a0 a1 I J (S6_X12_copies a0 a1 I J)))))) (eJ f J) R n g
          have e4 : (4 : Int32) ≤ (nI 4) := (show nI 4 ≤ nI 4 from nI_le (by omega) (by decide))
          refine w_iload_n ok dX12_copies_248 3 rfl ?_
          show WK K 0 0 249 [(0, .ref 130), (1, .int a0), (2, .int a1), (3, .int (nI 4))] [.int (nI 4)] (eI f (S7_X12_copies a0 a1 I J)) (eJ f J) R n g
          refine w_iconst (v := 4) ok dX12_copies_249 (by decide) ?_
          refine w_icmp_ge (tgt := 299) ok dX12_copies_250 (by decide) (fun _ => ?_) (fun h => absurd e4 h)
          exact w_vret ok fin dX12_copies_299 rfl (by unfold FI_X12_copies; exact Pd.i)
        · intro i248 s248 hi248 hs248 k248
          show WK K 0 0 248 [(0, .ref 130), (1, .int a0), (2, .int a1), (3, .int (nI i248))] [] (eI f s248) (eJ f J) R n g
          have e5 : ¬ ((4 : Int32) ≤ (nI i248)) := (show ¬ (nI 4 ≤ nI i248) from nI_ge (by omega) (by decide))
          refine w_iload_n ok dX12_copies_248 3 rfl ?_
          refine w_iconst (v := 4) ok dX12_copies_249 (by decide) ?_
          refine w_icmp_ge (tgt := 299) ok dX12_copies_250 (by decide) (fun h => absurd h e5) (fun _ => ?_)
          refine w_aload_n ok dX12_copies_253 0 rfl ?_
          refine w_getR ok dX12_copies_254 (fX12_120 rfl) (congrArg Prod.fst s_130) rfl (r_130_51 ro) (ltM hnn (by decide)) ?_
          refine w_iconst (v := 4) ok dX12_copies_257 (by decide) ?_
          refine w_iload_n ok dX12_copies_258 1 rfl ?_
          refine w_imul ok dX12_copies_259 ?_
          refine w_iload_n ok dX12_copies_260 3 rfl ?_
          refine w_iadd ok dX12_copies_261 ?_
          refine w_aload_n ok dX12_copies_262 0 rfl ?_
          refine w_getR ok dX12_copies_263 (fX12_120 rfl) (congrArg Prod.fst s_130) rfl (r_130_51 ro) (ltM hnn (by decide)) ?_
          refine w_iconst (v := 4) ok dX12_copies_266 (by decide) ?_
          refine w_iload_n ok dX12_copies_267 2 rfl ?_
          refine w_imul ok dX12_copies_268 ?_
          refine w_iload_n ok dX12_copies_269 3 rfl ?_
          refine w_iadd ok dX12_copies_270 ?_
          refine y_iald (q := (((4 : Int32) * a1) + (nI i248)).toNatClampNeg) ok dX12_copies_271 s_166 (hp3 i248 s248 hi248 hs248) (by decide) (ltM hnn (by decide)) (sdm hf (by decide)) ?_
          refine y_iast (q := (((4 : Int32) * a0) + (nI i248)).toNatClampNeg) ok dX12_copies_272 s_166 (hp4 i248 s248 hi248 hs248) (by decide) (ltM hnn (by decide)) (sdm hf (by decide)) ?_
          show WK K 0 0 273 [(0, .ref 130), (1, .int a0), (2, .int a1), (3, .int (nI i248))] [] (eI f (S8_X12_copies a0 a1 I J i248 s248)) (eJ f J) R n g
          refine w_aload_n ok dX12_copies_273 0 rfl ?_
          refine w_getR ok dX12_copies_274 (fX12_123 rfl) (congrArg Prod.fst s_130) rfl (r_130_52 ro) (ltM hnn (by decide)) ?_
          refine w_iconst (v := 4) ok dX12_copies_277 (by decide) ?_
          refine w_iload_n ok dX12_copies_278 1 rfl ?_
          refine w_imul ok dX12_copies_279 ?_
          refine w_iload_n ok dX12_copies_280 3 rfl ?_
          refine w_iadd ok dX12_copies_281 ?_
          refine w_aload_n ok dX12_copies_282 0 rfl ?_
          refine w_getR ok dX12_copies_283 (fX12_123 rfl) (congrArg Prod.fst s_130) rfl (r_130_52 ro) (ltM hnn (by decide)) ?_
          refine w_iconst (v := 4) ok dX12_copies_286 (by decide) ?_
          refine w_iload_n ok dX12_copies_287 2 rfl ?_
          refine w_imul ok dX12_copies_288 ?_
          refine w_iload_n ok dX12_copies_289 3 rfl ?_
          refine w_iadd ok dX12_copies_290 ?_
          refine y_iald (q := (((4 : Int32) * a1) + (nI i248)).toNatClampNeg) ok dX12_copies_291 s_167 (hp3 i248 s248 hi248 hs248) (by decide) (ltM hnn (by decide)) (sdm hf (by decide)) ?_
          refine y_iast (q := (((4 : Int32) * a0) + (nI i248)).toNatClampNeg) ok dX12_copies_292 s_167 (hp4 i248 s248 hi248 hs248) (by decide) (ltM hnn (by decide)) (sdm hf (by decide)) ?_
          show WK K 0 0 293 [(0, .ref 130), (1, .int a0), (2, .int a1), (3, .int (nI i248))] [] (eI f (S9_X12_copies a0 a1 I J i248 s248)) (eJ f J) R n g
          refine w_iinc (v := (nI i248) + 1) ok dX12_copies_293 3 rfl rfl (by decide) rfl ?_
          refine w_goto (tgt := 248) ok dX12_copies_296 (by decide) ?_
          have eB : B_X12_copies_l248 a0 a1 I J i248 s248 = (S9_X12_copies a0 a1 I J i248 s248) := by
            unfold B_X12_copies_l248; exact rfl
          have kk := k248
          rw [eB] at kk
          refine w_loc [1, 2, 3, 0] rfl ?_
          rw [nI_1 i248]
          exact kk
      · intro i212 s212 hi212 hs212 k212
        show WK K 0 0 212 [(0, .ref 130), (1, .int a0), (2, .int a1), (3, .int (nI i212))] [] (eI f s212) (eJ f J) R n g
        have e6 : ¬ ((48 : Int32) ≤ (nI i212)) := (show ¬ (nI 48 ≤ nI i212) from nI_ge (by omega) (by decide))
        refine w_iload_n ok dX12_copies_212 3 rfl ?_
        refine w_bipush (v := 48) ok dX12_copies_213 (by decide) ?_
        refine w_icmp_ge (tgt := 246) ok dX12_copies_215 (by decide) (fun h => absurd h e6) (fun _ => ?_)
        refine w_aload_n ok dX12_copies_218 0 rfl ?_
        refine w_getR ok dX12_copies_219 (fX12_117 rfl) (congrArg Prod.fst s_130) rfl (r_130_50 ro) (ltM hnn (by decide)) ?_
        refine w_bipush (v := 48) ok dX12_copies_222 (by decide) ?_
        refine w_iload_n ok dX12_copies_224 1 rfl ?_
        refine w_imul ok dX12_copies_225 ?_
        refine w_iload_n ok dX12_copies_226 3 rfl ?_
        refine w_iadd ok dX12_copies_227 ?_
        refine w_aload_n ok dX12_copies_228 0 rfl ?_
        refine w_getR ok dX12_copies_229 (fX12_117 rfl) (congrArg Prod.fst s_130) rfl (r_130_50 ro) (ltM hnn (by decide)) ?_
        refine w_bipush (v := 48) ok dX12_copies_232 (by decide) ?_
        refine w_iload_n ok dX12_copies_234 2 rfl ?_
        refine w_imul ok dX12_copies_235 ?_
        refine w_iload_n ok dX12_copies_236 3 rfl ?_
        refine w_iadd ok dX12_copies_237 ?_
        refine y_iald (q := (((48 : Int32) * a1) + (nI i212)).toNatClampNeg) ok dX12_copies_238 s_165 (hp5 i212 s212 hi212 hs212) (by decide) (ltM hnn (by decide)) (sdm hf (by decide)) ?_
        refine y_iast (q := (((48 : Int32) * a0) + (nI i212)).toNatClampNeg) ok dX12_copies_239 s_165 (hp6 i212 s212 hi212 hs212) (by decide) (ltM hnn (by decide)) (sdm hf (by decide)) ?_
        show WK K 0 0 240 [(0, .ref 130), (1, .int a0), (2, .int a1), (3, .int (nI i212))] [] (eI f (S10_X12_copies a0 a1 I J i212 s212)) (eJ f J) R n g
        refine w_iinc (v := (nI i212) + 1) ok dX12_copies_240 3 rfl rfl (by decide) rfl ?_
        refine w_goto (tgt := 212) ok dX12_copies_243 (by decide) ?_
        have eB : B_X12_copies_l212 a0 a1 I J i212 s212 = (S10_X12_copies a0 a1 I J i212 s212) := by
          unfold B_X12_copies_l212; exact rfl
        have kk := k212
        rw [eB] at kk
        refine w_loc [1, 2, 3, 0] rfl ?_
        rw [nI_1 i212]
        exact kk
    · intro i132 s132 hi132 hs132 k132
      show WK K 0 0 132 [(0, .ref 130), (1, .int a0), (2, .int a1), (3, .int (nI i132))] [] (eI f s132) (eJ f J) R n g
      have e7 : ¬ ((8 : Int32) ≤ (nI i132)) := (show ¬ (nI 8 ≤ nI i132) from nI_ge (by omega) (by decide))
      refine w_iload_n ok dX12_copies_132 3 rfl ?_
      refine w_bipush (v := 8) ok dX12_copies_133 (by decide) ?_
      refine w_icmp_ge (tgt := 210) ok dX12_copies_135 (by decide) (fun h => absurd h e7) (fun _ => ?_)
      refine w_aload_n ok dX12_copies_138 0 rfl ?_
      refine w_getR ok dX12_copies_139 (fX12_108 rfl) (congrArg Prod.fst s_130) rfl (r_130_47 ro) (ltM hnn (by decide)) ?_
      refine w_bipush (v := 8) ok dX12_copies_142 (by decide) ?_
      refine w_iload_n ok dX12_copies_144 1 rfl ?_
      refine w_imul ok dX12_copies_145 ?_
      refine w_iload_n ok dX12_copies_146 3 rfl ?_
      refine w_iadd ok dX12_copies_147 ?_
      refine w_aload_n ok dX12_copies_148 0 rfl ?_
      refine w_getR ok dX12_copies_149 (fX12_108 rfl) (congrArg Prod.fst s_130) rfl (r_130_47 ro) (ltM hnn (by decide)) ?_
      refine w_bipush (v := 8) ok dX12_copies_152 (by decide) ?_
      refine w_iload_n ok dX12_copies_154 2 rfl ?_
      refine w_imul ok dX12_copies_155 ?_
      refine w_iload_n ok dX12_copies_156 3 rfl ?_
      refine w_iadd ok dX12_copies_157 ?_
      refine y_iald (q := (((8 : Int32) * a1) + (nI i132)).toNatClampNeg) ok dX12_copies_158 s_162 (hp7 i132 s132 hi132 hs132) (by decide) (ltM hnn (by decide)) (sdm hf (by decide)) ?_
      refine y_iast (q := (((8 : Int32) * a0) + (nI i132)).toNatClampNeg) ok dX12_copies_159 s_162 (hp8 i132 s132 hi132 hs132) (by decide) (ltM hnn (by decide)) (sdm hf (by decide)) ?_
      show WK K 0 0 160 [(0, .ref 130), (1, .int a0), (2, .int a1), (3, .int (nI i132))] [] (eI f (S11_X12_copies a0 a1 I J i132 s132)) (eJ f J) R n g
      refine w_aload_n ok dX12_copies_160 0 rfl ?_
      refine w_getR ok dX12_copies_161 (fX12_111 rfl) (congrArg Prod.fst s_130) rfl (r_130_48 ro) (ltM hnn (by decide)) ?_
      refine w_bipush (v := 8) ok dX12_copies_164 (by decide) ?_
      refine w_iload_n ok dX12_copies_166 1 rfl ?_
      refine w_imul ok dX12_copies_167 ?_
      refine w_iload_n ok dX12_copies_168 3 rfl ?_
      refine w_iadd ok dX12_copies_169 ?_
      refine w_aload_n ok dX12_copies_170 0 rfl ?_
      refine w_getR ok dX12_copies_171 (fX12_111 rfl) (congrArg Prod.fst s_130) rfl (r_130_48 ro) (ltM hnn (by decide)) ?_
      refine w_bipush (v := 8) ok dX12_copies_174 (by decide) ?_
      refine w_iload_n ok dX12_copies_176 2 rfl ?_
      refine w_imul ok dX12_copies_177 ?_
      refine w_iload_n ok dX12_copies_178 3 rfl ?_
      refine w_iadd ok dX12_copies_179 ?_
      refine y_iald (q := (((8 : Int32) * a1) + (nI i132)).toNatClampNeg) ok dX12_copies_180 s_163 (hp7 i132 s132 hi132 hs132) (by decide) (ltM hnn (by decide)) (sdm hf (by decide)) ?_
      refine y_iast (q := (((8 : Int32) * a0) + (nI i132)).toNatClampNeg) ok dX12_copies_181 s_163 (hp8 i132 s132 hi132 hs132) (by decide) (ltM hnn (by decide)) (sdm hf (by decide)) ?_
      show WK K 0 0 182 [(0, .ref 130), (1, .int a0), (2, .int a1), (3, .int (nI i132))] [] (eI f (S12_X12_copies a0 a1 I J i132 s132)) (eJ f J) R n g
      refine w_aload_n ok dX12_copies_182 0 rfl ?_
      refine w_getR ok dX12_copies_183 (fX12_114 rfl) (congrArg Prod.fst s_130) rfl (r_130_49 ro) (ltM hnn (by decide)) ?_
      refine w_bipush (v := 8) ok dX12_copies_186 (by decide) ?_
      refine w_iload_n ok dX12_copies_188 1 rfl ?_
      refine w_imul ok dX12_copies_189 ?_
      refine w_iload_n ok dX12_copies_190 3 rfl ?_
      refine w_iadd ok dX12_copies_191 ?_
      refine w_aload_n ok dX12_copies_192 0 rfl ?_
      refine w_getR ok dX12_copies_193 (fX12_114 rfl) (congrArg Prod.fst s_130) rfl (r_130_49 ro) (ltM hnn (by decide)) ?_
      refine w_bipush (v := 8) ok dX12_copies_196 (by decide) ?_
      refine w_iload_n ok dX12_copies_198 2 rfl ?_
      refine w_imul ok dX12_copies_199 ?_
      refine w_iload_n ok dX12_copies_200 3 rfl ?_
      refine w_iadd ok dX12_copies_201 ?_
      refine y_iald (q := (((8 : Int32) * a1) + (nI i132)).toNatClampNeg) ok dX12_copies_202 s_164 (hp7 i132 s132 hi132 hs132) (by decide) (ltM hnn (by decide)) (sdm hf (by decide)) ?_
      refine y_iast (q := (((8 : Int32) * a0) + (nI i132)).toNatClampNeg) ok dX12_copies_203 s_164 (hp8 i132 s132 hi132 hs132) (by decide) (ltM hnn (by decide)) (sdm hf (by decide)) ?_
      show WK K 0 0 204 [(0, .ref 130), (1, .int a0), (2, .int a1), (3, .int (nI i132))] [] (eI f (S13_X12_copies a0 a1 I J i132 s132)) (eJ f J) R n g
      refine w_iinc (v := (nI i132) + 1) ok dX12_copies_204 3 rfl rfl (by decide) rfl ?_
      refine w_goto (tgt := 132) ok dX12_copies_207 (by decide) ?_
      have eB : B_X12_copies_l132 a0 a1 I J i132 s132 = (S13_X12_copies a0 a1 I J i132 s132) := by
        unfold B_X12_copies_l132; exact rfl
      have kk := k132
      rw [eB] at kk
      refine w_loc [1, 2, 3, 0] rfl ?_
      rw [nI_1 i132]
      exact kk
  · intro i74 s74 hi74 hs74 k74
    show WK K 0 0 74 [(0, .ref 130), (1, .int a0), (2, .int a1), (3, .int (nI i74))] [] (eI f s74) (eJ f J) R n g
    have e8 : ¬ ((6 : Int32) ≤ (nI i74)) := (show ¬ (nI 6 ≤ nI i74) from nI_ge (by omega) (by decide))
    refine w_iload_n ok dX12_copies_74 3 rfl ?_
    refine w_bipush (v := 6) ok dX12_copies_75 (by decide) ?_
    refine w_icmp_ge (tgt := 130) ok dX12_copies_77 (by decide) (fun h => absurd h e8) (fun _ => ?_)
    refine w_aload_n ok dX12_copies_80 0 rfl ?_
    refine w_getR ok dX12_copies_81 (fX12_102 rfl) (congrArg Prod.fst s_130) rfl (r_130_45 ro) (ltM hnn (by decide)) ?_
    refine w_bipush (v := 6) ok dX12_copies_84 (by decide) ?_
    refine w_iload_n ok dX12_copies_86 1 rfl ?_
    refine w_imul ok dX12_copies_87 ?_
    refine w_iload_n ok dX12_copies_88 3 rfl ?_
    refine w_iadd ok dX12_copies_89 ?_
    refine w_aload_n ok dX12_copies_90 0 rfl ?_
    refine w_getR ok dX12_copies_91 (fX12_102 rfl) (congrArg Prod.fst s_130) rfl (r_130_45 ro) (ltM hnn (by decide)) ?_
    refine w_bipush (v := 6) ok dX12_copies_94 (by decide) ?_
    refine w_iload_n ok dX12_copies_96 2 rfl ?_
    refine w_imul ok dX12_copies_97 ?_
    refine w_iload_n ok dX12_copies_98 3 rfl ?_
    refine w_iadd ok dX12_copies_99 ?_
    refine y_iald (q := (((6 : Int32) * a1) + (nI i74)).toNatClampNeg) ok dX12_copies_100 s_160 (hp9 i74 s74 hi74 hs74) (by decide) (ltM hnn (by decide)) (sdm hf (by decide)) ?_
    refine y_iast (q := (((6 : Int32) * a0) + (nI i74)).toNatClampNeg) ok dX12_copies_101 s_160 (hp10 i74 s74 hi74 hs74) (by decide) (ltM hnn (by decide)) (sdm hf (by decide)) ?_
    show WK K 0 0 102 [(0, .ref 130), (1, .int a0), (2, .int a1), (3, .int (nI i74))] [] (eI f (S14_X12_copies a0 a1 I J i74 s74)) (eJ f J) R n g
    refine w_aload_n ok dX12_copies_102 0 rfl ?_
    refine w_getR ok dX12_copies_103 (fX12_105 rfl) (congrArg Prod.fst s_130) rfl (r_130_46 ro) (ltM hnn (by decide)) ?_
    refine w_bipush (v := 6) ok dX12_copies_106 (by decide) ?_
    refine w_iload_n ok dX12_copies_108 1 rfl ?_
    refine w_imul ok dX12_copies_109 ?_
    refine w_iload_n ok dX12_copies_110 3 rfl ?_
    refine w_iadd ok dX12_copies_111 ?_
    refine w_aload_n ok dX12_copies_112 0 rfl ?_
    refine w_getR ok dX12_copies_113 (fX12_105 rfl) (congrArg Prod.fst s_130) rfl (r_130_46 ro) (ltM hnn (by decide)) ?_
    refine w_bipush (v := 6) ok dX12_copies_116 (by decide) ?_
    refine w_iload_n ok dX12_copies_118 2 rfl ?_
    refine w_imul ok dX12_copies_119 ?_
    refine w_iload_n ok dX12_copies_120 3 rfl ?_
    refine w_iadd ok dX12_copies_121 ?_
    refine y_iald (q := (((6 : Int32) * a1) + (nI i74)).toNatClampNeg) ok dX12_copies_122 s_161 (hp9 i74 s74 hi74 hs74) (by decide) (ltM hnn (by decide)) (sdm hf (by decide)) ?_
    refine y_iast (q := (((6 : Int32) * a0) + (nI i74)).toNatClampNeg) ok dX12_copies_123 s_161 (hp10 i74 s74 hi74 hs74) (by decide) (ltM hnn (by decide)) (sdm hf (by decide)) ?_
    show WK K 0 0 124 [(0, .ref 130), (1, .int a0), (2, .int a1), (3, .int (nI i74))] [] (eI f (S15_X12_copies a0 a1 I J i74 s74)) (eJ f J) R n g
    refine w_iinc (v := (nI i74) + 1) ok dX12_copies_124 3 rfl rfl (by decide) rfl ?_
    refine w_goto (tgt := 74) ok dX12_copies_127 (by decide) ?_
    have eB : B_X12_copies_l74 a0 a1 I J i74 s74 = (S15_X12_copies a0 a1 I J i74 s74) := by
      unfold B_X12_copies_l74; exact rfl
    have kk := k74
    rw [eB] at kk
    refine w_loc [1, 2, 3, 0] rfl ?_
    rw [nI_1 i74]
    exact kk
def F_X12_isMark (a0 : Int32) (I : SI) (J : SJ) : Int32 := if a0 < 0 then 0 else (if (I 132 0) ≤ a0 then 0 else 1)
set_option maxHeartbeats 1000000 in
set_option maxRecDepth 40000 in
theorem c_X12_isMark {I : SI} {J : SJ} {R : SR} {n g : Nat} {f : Fr} (ro : RM R) (hnn : nM ≤ n) (hf : f.1 = false) (a0 : Int32)   : MM 0 0 0 mX12_isMark [.ref 130, .int a0] (eI f I) (eJ f J) R n g (Pd (some (.int (F_X12_isMark a0 I J))) (eI f I) (eJ f J) R n g) := by
  refine MM.of (by decide) (Nat.le_of_ble_eq_true rfl) fun K ok fin => ?_
  show WK K 0 0 0 [(0, .ref 130), (1, .int a0)] [] (eI f I) (eJ f J) R n g
  refine w_iload_n ok dX12_isMark_0 1 rfl ?_
  refine w_if_lt (tgt := 18) ok dX12_isMark_1 (by decide) (fun c1 => ?_) (fun c1 => ?_)
  · skip
    refine w_iconst (v := 0) ok dX12_isMark_18 (by decide) ?_
    exact w_zret ok fin dX12_isMark_19 rfl (by decide) (by unfold F_X12_isMark; simp only [if_pos c1]; exact Pd.i)
  · skip
    refine w_iload_n ok dX12_isMark_4 1 rfl ?_
    refine w_aload_n ok dX12_isMark_5 0 rfl ?_
    refine w_getR ok dX12_isMark_6 (fX12_13 rfl) (congrArg Prod.fst s_130) rfl (r_130_3 ro) (ltM hnn (by decide)) ?_
    refine w_iconst (v := 0) ok dX12_isMark_9 (by decide) ?_
    refine y_iald (q := 0) ok dX12_isMark_10 s_132 (by decide) (by decide) (ltM hnn (by decide)) (sdm hf (by decide)) ?_
    refine w_icmp_ge (tgt := 18) ok dX12_isMark_11 (by decide) (fun c2 => ?_) (fun c2 => ?_)
    · skip
      refine w_iconst (v := 0) ok dX12_isMark_18 (by decide) ?_
      exact w_zret ok fin dX12_isMark_19 rfl (by decide) (by unfold F_X12_isMark; simp only [if_neg c1]; simp only [if_pos c2]; exact Pd.i)
    · skip
      refine w_iconst (v := 1) ok dX12_isMark_14 (by decide) ?_
      refine w_goto (tgt := 19) ok dX12_isMark_15 (by decide) ?_
      exact w_zret ok fin dX12_isMark_19 rfl (by decide) (by unfold F_X12_isMark; simp only [if_neg c1]; simp only [if_neg c2]; exact Pd.i)
def F_X12_isShot (a0 : Int32) (I : SI) (J : SJ) : Int32 := if a0 < 0 then 0 else (if (I 132 1) ≤ a0 then 0 else 1)
set_option maxHeartbeats 1000000 in
set_option maxRecDepth 40000 in
theorem c_X12_isShot {I : SI} {J : SJ} {R : SR} {n g : Nat} {f : Fr} (ro : RM R) (hnn : nM ≤ n) (hf : f.1 = false) (a0 : Int32)   : MM 0 0 0 mX12_isShot [.ref 130, .int a0] (eI f I) (eJ f J) R n g (Pd (some (.int (F_X12_isShot a0 I J))) (eI f I) (eJ f J) R n g) := by
  refine MM.of (by decide) (Nat.le_of_ble_eq_true rfl) fun K ok fin => ?_
  show WK K 0 0 0 [(0, .ref 130), (1, .int a0)] [] (eI f I) (eJ f J) R n g
  refine w_iload_n ok dX12_isShot_0 1 rfl ?_
  refine w_if_lt (tgt := 18) ok dX12_isShot_1 (by decide) (fun c1 => ?_) (fun c1 => ?_)
  · skip
    refine w_iconst (v := 0) ok dX12_isShot_18 (by decide) ?_
    exact w_zret ok fin dX12_isShot_19 rfl (by decide) (by unfold F_X12_isShot; simp only [if_pos c1]; exact Pd.i)
  · skip
    refine w_iload_n ok dX12_isShot_4 1 rfl ?_
    refine w_aload_n ok dX12_isShot_5 0 rfl ?_
    refine w_getR ok dX12_isShot_6 (fX12_13 rfl) (congrArg Prod.fst s_130) rfl (r_130_3 ro) (ltM hnn (by decide)) ?_
    refine w_iconst (v := 1) ok dX12_isShot_9 (by decide) ?_
    refine y_iald (q := 1) ok dX12_isShot_10 s_132 (by decide) (by decide) (ltM hnn (by decide)) (sdm hf (by decide)) ?_
    refine w_icmp_ge (tgt := 18) ok dX12_isShot_11 (by decide) (fun c2 => ?_) (fun c2 => ?_)
    · skip
      refine w_iconst (v := 0) ok dX12_isShot_18 (by decide) ?_
      exact w_zret ok fin dX12_isShot_19 rfl (by decide) (by unfold F_X12_isShot; simp only [if_neg c1]; simp only [if_pos c2]; exact Pd.i)
    · skip
      refine w_iconst (v := 1) ok dX12_isShot_14 (by decide) ?_
      refine w_goto (tgt := 19) ok dX12_isShot_15 (by decide) ?_
      exact w_zret ok fin dX12_isShot_19 rfl (by decide) (by unfold F_X12_isShot; simp only [if_neg c1]; simp only [if_neg c2]; exact Pd.i)
def F_X12_isParty (a0 : Int32) (I : SI) (J : SJ) : Int32 := if a0 < 0 then 0 else (if (I 132 3) ≤ a0 then 0 else 1)
set_option maxHeartbeats 1000000 in
set_option maxRecDepth 40000 in
theorem c_X12_isParty {I : SI} {J : SJ} {R : SR} {n g : Nat} {f : Fr} (ro : RM R) (hnn : nM ≤ n) (hf : f.1 = false) (a0 : Int32)   : MM 0 0 0 mX12_isParty [.ref 130, .int a0] (eI f I) (eJ f J) R n g (Pd (some (.int (F_X12_isParty a0 I J))) (eI f I) (eJ f J) R n g) := by
  refine MM.of (by decide) (Nat.le_of_ble_eq_true rfl) fun K ok fin => ?_
  show WK K 0 0 0 [(0, .ref 130), (1, .int a0)] [] (eI f I) (eJ f J) R n g
  refine w_iload_n ok dX12_isParty_0 1 rfl ?_
  refine w_if_lt (tgt := 18) ok dX12_isParty_1 (by decide) (fun c1 => ?_) (fun c1 => ?_)
  · skip
    refine w_iconst (v := 0) ok dX12_isParty_18 (by decide) ?_
    exact w_zret ok fin dX12_isParty_19 rfl (by decide) (by unfold F_X12_isParty; simp only [if_pos c1]; exact Pd.i)
  · skip
    refine w_iload_n ok dX12_isParty_4 1 rfl ?_
    refine w_aload_n ok dX12_isParty_5 0 rfl ?_
    refine w_getR ok dX12_isParty_6 (fX12_13 rfl) (congrArg Prod.fst s_130) rfl (r_130_3 ro) (ltM hnn (by decide)) ?_
    refine w_iconst (v := 3) ok dX12_isParty_9 (by decide) ?_
    refine y_iald (q := 3) ok dX12_isParty_10 s_132 (by decide) (by decide) (ltM hnn (by decide)) (sdm hf (by decide)) ?_
    refine w_icmp_ge (tgt := 18) ok dX12_isParty_11 (by decide) (fun c2 => ?_) (fun c2 => ?_)
    · skip
      refine w_iconst (v := 0) ok dX12_isParty_18 (by decide) ?_
      exact w_zret ok fin dX12_isParty_19 rfl (by decide) (by unfold F_X12_isParty; simp only [if_neg c1]; simp only [if_pos c2]; exact Pd.i)
    · skip
      refine w_iconst (v := 1) ok dX12_isParty_14 (by decide) ?_
      refine w_goto (tgt := 19) ok dX12_isParty_15 (by decide) ?_
      exact w_zret ok fin dX12_isParty_19 rfl (by decide) (by unfold F_X12_isParty; simp only [if_neg c1]; simp only [if_neg c2]; exact Pd.i)
def F_X12_isDone (a0 : Int32) (a1 : Int32) (I : SI) (J : SJ) : Int32 := if (I 163 (((8 : Int32) * a0) + a1).toNatClampNeg) = 1 then 1 else 0
def H_X12_isDone (a0 : Int32) (a1 : Int32) (I : SI) (J : SJ) : Prop := (inR (((8 : Int32) * a0) + a1) 184)
set_option maxHeartbeats 1000000 in
set_option maxRecDepth 40000 in
theorem c_X12_isDone {I : SI} {J : SJ} {R : SR} {n g : Nat} {f : Fr} (ro : RM R) (hnn : nM ≤ n) (hf : f.1 = false) (a0 : Int32) (a1 : Int32)  (hp : H_X12_isDone a0 a1 I J) : MM 0 0 0 mX12_isDone [.ref 130, .int a0, .int a1] (eI f I) (eJ f J) R n g (Pd (some (.int (F_X12_isDone a0 a1 I J))) (eI f I) (eJ f J) R n g) := by
  refine MM.of (by decide) (Nat.le_of_ble_eq_true rfl) fun K ok fin => ?_
  show WK K 0 0 0 [(0, .ref 130), (1, .int a0), (2, .int a1)] [] (eI f I) (eJ f J) R n g
  have hp1 := hp
  refine w_aload_n ok dX12_isDone_0 0 rfl ?_
  refine w_getR ok dX12_isDone_1 (fX12_111 rfl) (congrArg Prod.fst s_130) rfl (r_130_48 ro) (ltM hnn (by decide)) ?_
  refine w_bipush (v := 8) ok dX12_isDone_4 (by decide) ?_
  refine w_iload_n ok dX12_isDone_6 1 rfl ?_
  refine w_imul ok dX12_isDone_7 ?_
  refine w_iload_n ok dX12_isDone_8 2 rfl ?_
  refine w_iadd ok dX12_isDone_9 ?_
  refine y_iald (q := (((8 : Int32) * a0) + a1).toNatClampNeg) ok dX12_isDone_10 s_163 (hp1) (by decide) (ltM hnn (by decide)) (sdm hf (by decide)) ?_
  refine w_iconst (v := 1) ok dX12_isDone_11 (by decide) ?_
  refine w_icmp_ne (tgt := 19) ok dX12_isDone_12 (by decide) (fun c1 => ?_) (fun c1 => ?_)
  · skip
    refine w_iconst (v := 0) ok dX12_isDone_19 (by decide) ?_
    exact w_zret ok fin dX12_isDone_20 rfl (by decide) (by unfold F_X12_isDone; simp only [if_neg c1]; exact Pd.i)
  · skip
    refine w_iconst (v := 1) ok dX12_isDone_15 (by decide) ?_
    refine w_goto (tgt := 20) ok dX12_isDone_16 (by decide) ?_
    exact w_zret ok fin dX12_isDone_20 rfl (by decide) (by unfold F_X12_isDone; simp only [if_pos c1]; exact Pd.i)
def F_X12_wayIn (a0 : Int32) (a1 : Int32) (a2 : Int32) (I : SI) (J : SJ) : Int32 := I 165 ((((48 : Int32) * a0) + ((6 : Int32) * a1)) + a2).toNatClampNeg
def H_X12_wayIn (a0 : Int32) (a1 : Int32) (a2 : Int32) (I : SI) (J : SJ) : Prop := (inR ((((48 : Int32) * a0) + ((6 : Int32) * a1)) + a2) 1104)
set_option maxHeartbeats 1000000 in
set_option maxRecDepth 40000 in
theorem c_X12_wayIn {I : SI} {J : SJ} {R : SR} {n g : Nat} {f : Fr} (ro : RM R) (hnn : nM ≤ n) (hf : f.1 = false) (a0 : Int32) (a1 : Int32) (a2 : Int32)  (hp : H_X12_wayIn a0 a1 a2 I J) : MM 0 0 0 mX12_wayIn [.ref 130, .int a0, .int a1, .int a2] (eI f I) (eJ f J) R n g (Pd (some (.int (F_X12_wayIn a0 a1 a2 I J))) (eI f I) (eJ f J) R n g) := by
  refine MM.of (by decide) (Nat.le_of_ble_eq_true rfl) fun K ok fin => ?_
  show WK K 0 0 0 [(0, .ref 130), (1, .int a0), (2, .int a1), (3, .int a2)] [] (eI f I) (eJ f J) R n g
  have hp1 := hp
  refine w_aload_n ok dX12_wayIn_0 0 rfl ?_
  refine w_getR ok dX12_wayIn_1 (fX12_117 rfl) (congrArg Prod.fst s_130) rfl (r_130_50 ro) (ltM hnn (by decide)) ?_
  refine w_bipush (v := 48) ok dX12_wayIn_4 (by decide) ?_
  refine w_iload_n ok dX12_wayIn_6 1 rfl ?_
  refine w_imul ok dX12_wayIn_7 ?_
  refine w_bipush (v := 6) ok dX12_wayIn_8 (by decide) ?_
  refine w_iload_n ok dX12_wayIn_10 2 rfl ?_
  refine w_imul ok dX12_wayIn_11 ?_
  refine w_iadd ok dX12_wayIn_12 ?_
  refine w_iload_n ok dX12_wayIn_13 3 rfl ?_
  refine w_iadd ok dX12_wayIn_14 ?_
  refine y_iald (q := ((((48 : Int32) * a0) + ((6 : Int32) * a1)) + a2).toNatClampNeg) ok dX12_wayIn_15 s_165 (hp1) (by decide) (ltM hnn (by decide)) (sdm hf (by decide)) ?_
  exact w_iret ok fin dX12_wayIn_16 rfl (by unfold F_X12_wayIn; exact Pd.i)
def F_X12_strikeOf (a0 : Int32) (I : SI) (J : SJ) : Int32 := if (I 130 55) = 5 then 99 else (if a0 = (I 130 57) then I 130 58 else I 134 a0.toNatClampNeg)
def H_X12_strikeOf (a0 : Int32) (I : SI) (J : SJ) : Prop := (¬ ((I 130 55) = 5) → ¬ (a0 = (I 130 57)) → inR a0 12)
set_option maxHeartbeats 1000000 in
set_option maxRecDepth 40000 in
theorem c_X12_strikeOf {I : SI} {J : SJ} {R : SR} {n g : Nat} {f : Fr} (ro : RM R) (hnn : nM ≤ n) (hf : f.1 = false) (a0 : Int32)  (hp : H_X12_strikeOf a0 I J) : MM 0 0 0 mX12_strikeOf [.ref 130, .int a0] (eI f I) (eJ f J) R n g (Pd (some (.int (F_X12_strikeOf a0 I J))) (eI f I) (eJ f J) R n g) := by
  refine MM.of (by decide) (Nat.le_of_ble_eq_true rfl) fun K ok fin => ?_
  show WK K 0 0 0 [(0, .ref 130), (1, .int a0)] [] (eI f I) (eJ f J) R n g
  have hp1 := hp
  refine w_aload_n ok dX12_strikeOf_0 0 rfl ?_
  refine y_getI ok dX12_strikeOf_1 (fX12_361 rfl) (congrArg Prod.fst s_130) rfl (ltM hnn (by decide)) (sdm hf (by decide)) ?_
  refine w_iconst (v := 5) ok dX12_strikeOf_4 (by decide) ?_
  refine w_icmp_ne (tgt := 13) ok dX12_strikeOf_5 (by decide) (fun c1 => ?_) (fun c1 => ?_)
  · skip
    refine w_iload_n ok dX12_strikeOf_13 1 rfl ?_
    refine w_aload_n ok dX12_strikeOf_14 0 rfl ?_
    refine y_getI ok dX12_strikeOf_15 (fX12_129 rfl) (congrArg Prod.fst s_130) rfl (ltM hnn (by decide)) (sdm hf (by decide)) ?_
    refine w_icmp_ne (tgt := 28) ok dX12_strikeOf_18 (by decide) (fun c2 => ?_) (fun c2 => ?_)
    · skip
      refine w_aload_n ok dX12_strikeOf_28 0 rfl ?_
      refine w_getR ok dX12_strikeOf_29 (fX12_19 rfl) (congrArg Prod.fst s_130) rfl (r_130_5 ro) (ltM hnn (by decide)) ?_
      refine w_iload_n ok dX12_strikeOf_32 1 rfl ?_
      refine y_iald (q := a0.toNatClampNeg) ok dX12_strikeOf_33 s_134 (hp1 c1 c2) (by decide) (ltM hnn (by decide)) (sdm hf (by decide)) ?_
      exact w_iret ok fin dX12_strikeOf_34 rfl (by unfold F_X12_strikeOf; simp only [if_neg c1]; simp only [if_neg c2]; exact Pd.i)
    · skip
      refine w_aload_n ok dX12_strikeOf_21 0 rfl ?_
      refine y_getI ok dX12_strikeOf_22 (fX12_364 rfl) (congrArg Prod.fst s_130) rfl (ltM hnn (by decide)) (sdm hf (by decide)) ?_
      refine w_goto (tgt := 34) ok dX12_strikeOf_25 (by decide) ?_
      exact w_iret ok fin dX12_strikeOf_34 rfl (by unfold F_X12_strikeOf; simp only [if_neg c1]; simp only [if_pos c2]; exact Pd.i)
  · skip
    refine w_bipush (v := 99) ok dX12_strikeOf_8 (by decide) ?_
    refine w_goto (tgt := 34) ok dX12_strikeOf_10 (by decide) ?_
    exact w_iret ok fin dX12_strikeOf_34 rfl (by unfold F_X12_strikeOf; simp only [if_pos c1]; exact Pd.i)
def B_X12_timesOf_l6 (a0 : Int32) (a1 : Int32) (a2 : Int32) (I : SI) (J : SJ) (i6 : Nat) (s6 : Int32) : Int32 := if (nI i6) = a2 then (s6 + 0) else (if (F_X12_isDone a0 (nI i6) I J) = 0 then (s6 + 0) else (if (F_X12_wayIn a0 (nI i6) a1 I J) = (-1) then (s6 + 0) else (s6 + 1)))
def F_X12_timesOf_l6 (a0 : Int32) (a1 : Int32) (a2 : Int32) (I : SI) (J : SJ) (s0 : Int32) : Int32 := itN (B_X12_timesOf_l6 a0 a1 a2 I J) ((I 132 1).toNatClampNeg) s0
def F_X12_timesOf (a0 : Int32) (a1 : Int32) (a2 : Int32) (I : SI) (J : SJ) : Int32 := (F_X12_timesOf_l6 a0 a1 a2 I J 0)
def H_X12_timesOf (a0 : Int32) (a1 : Int32) (a2 : Int32) (I : SI) (J : SJ) : Prop := (∀ (i6 : Nat) (s6 : Int32), i6 < (I 132 1).toNatClampNeg → s6 = itN (B_X12_timesOf_l6 a0 a1 a2 I J) i6 0 → ¬ ((nI i6) = a2) → H_X12_isDone a0 (nI i6) I J) ∧ (∀ (i6 : Nat) (s6 : Int32), i6 < (I 132 1).toNatClampNeg → s6 = itN (B_X12_timesOf_l6 a0 a1 a2 I J) i6 0 → ¬ ((nI i6) = a2) → ¬ ((F_X12_isDone a0 (nI i6) I J) = 0) → H_X12_wayIn a0 (nI i6) a1 I J)
set_option maxHeartbeats 1000000 in
set_option maxRecDepth 40000 in
theorem c_X12_timesOf {I : SI} {J : SJ} {R : SR} {n g : Nat} {f : Fr} (ro : RM R) (hnn : nM ≤ n) (hf : f.1 = false) (a0 : Int32) (a1 : Int32) (a2 : Int32)  (hp : H_X12_timesOf a0 a1 a2 I J) : MM 1 0 0 mX12_timesOf [.ref 130, .int a0, .int a1, .int a2] (eI f I) (eJ f J) R n g (Pd (some (.int (F_X12_timesOf a0 a1 a2 I J))) (eI f I) (eJ f J) R n g) := by
  refine MM.of (by decide) (Nat.le_of_ble_eq_true rfl) fun K ok fin => ?_
  show WK K 0 0 0 [(0, .ref 130), (1, .int a0), (2, .int a1), (3, .int a2)] [] (eI f I) (eJ f J) R n g
  obtain ⟨hp1, hp2⟩ := hp
  refine w_iconst (v := 0) ok dX12_timesOf_0 (by decide) ?_
  refine w_istore ok dX12_timesOf_1 (by decide) rfl ?_
  refine w_iconst (v := 0) ok dX12_timesOf_3 (by decide) ?_
  refine w_istore ok dX12_timesOf_4 (by decide) rfl ?_
  refine w_loc [2, 3, 4, 5, 1, 0] rfl ?_
  refine loop_for (σ := Int32) (fun (i6 : Nat) (s6 : Int32) => WK K 0 0 6 [(0, .ref 130), (1, .int a0), (2, .int a1), (3, .int a2), (4, .int s6), (5, .int (nI i6))] [] (eI f I) (eJ f J) R n g) (B_X12_timesOf_l6 a0 a1 a2 I J) ((I 132 1).toNatClampNeg) (0) ?_ ?_
  · show WK K 0 0 6 [(0, .ref 130), (1, .int a0), (2, .int a1), (3, .int a2), (4, .int (F_X12_timesOf_l6 a0 a1 a2 I J 0)), (5, .int (nI ((I 132 1).toNatClampNeg)))] [] (eI f I) (eJ f J) R n g
    have e1 : (I 132 1) ≤ (nI ((I 132 1).toNatClampNeg)) := cnt_ge _
    refine w_iload ok dX12_timesOf_6 5 rfl ?_
    refine w_aload_n ok dX12_timesOf_8 0 rfl ?_
    refine w_getR ok dX12_timesOf_9 (fX12_13 rfl) (congrArg Prod.fst s_130) rfl (r_130_3 ro) (ltM hnn (by decide)) ?_
    refine w_iconst (v := 1) ok dX12_timesOf_12 (by decide) ?_
    refine y_iald (q := 1) ok dX12_timesOf_13 s_132 (by decide) (by decide) (ltM hnn (by decide)) (sdm hf (by decide)) ?_
    refine w_icmp_ge (tgt := 61) ok dX12_timesOf_14 (by decide) (fun _ => ?_) (fun h => absurd e1 h)
    refine w_iload ok dX12_timesOf_61 4 rfl ?_
    exact w_iret ok fin dX12_timesOf_63 rfl (by unfold F_X12_timesOf; exact Pd.i)
  · intro i6 s6 hi6 hs6 k6
    show WK K 0 0 6 [(0, .ref 130), (1, .int a0), (2, .int a1), (3, .int a2), (4, .int s6), (5, .int (nI i6))] [] (eI f I) (eJ f J) R n g
    have e2 : ¬ ((I 132 1) ≤ (nI i6)) := cnt_lt hi6
    refine w_iload ok dX12_timesOf_6 5 rfl ?_
    refine w_aload_n ok dX12_timesOf_8 0 rfl ?_
    refine w_getR ok dX12_timesOf_9 (fX12_13 rfl) (congrArg Prod.fst s_130) rfl (r_130_3 ro) (ltM hnn (by decide)) ?_
    refine w_iconst (v := 1) ok dX12_timesOf_12 (by decide) ?_
    refine y_iald (q := 1) ok dX12_timesOf_13 s_132 (by decide) (by decide) (ltM hnn (by decide)) (sdm hf (by decide)) ?_
    refine w_icmp_ge (tgt := 61) ok dX12_timesOf_14 (by decide) (fun h => absurd h e2) (fun _ => ?_)
    refine w_iload ok dX12_timesOf_17 4 rfl ?_
    refine w_iload ok dX12_timesOf_19 5 rfl ?_
    refine w_iload_n ok dX12_timesOf_21 3 rfl ?_
    refine w_icmp_eq (tgt := 51) ok dX12_timesOf_22 (by decide) (fun c3 => ?_) (fun c3 => ?_)
    · skip
      refine w_iconst (v := 0) ok dX12_timesOf_51 (by decide) ?_
      refine w_iadd ok dX12_timesOf_52 ?_
      refine w_istore ok dX12_timesOf_53 (by decide) rfl ?_
      refine w_iinc (v := (nI i6) + 1) ok dX12_timesOf_55 5 rfl rfl (by decide) rfl ?_
      refine w_goto (tgt := 6) ok dX12_timesOf_58 (by decide) ?_
      have eB : B_X12_timesOf_l6 a0 a1 a2 I J i6 s6 = (s6 + 0) := by
        unfold B_X12_timesOf_l6; exact (if_pos c3).trans (rfl)
      have kk := k6
      rw [eB] at kk
      refine w_loc [2, 3, 4, 5, 1, 0] rfl ?_
      rw [nI_1 i6]
      exact kk
    · skip
      refine w_aload_n ok dX12_timesOf_25 0 rfl ?_
      refine w_iload_n ok dX12_timesOf_26 1 rfl ?_
      refine w_iload ok dX12_timesOf_27 5 rfl ?_
      refine w_cV (As := [.int a0, .int (nI i6)]) ok dX12_timesOf_29 iX12_isDone (lX12_367 rfl) (rcv cls12 (congrArg Prod.fst s_130)) (ltM hnn (by decide)) (c_X12_isDone ro hnn hf a0 (nI i6)  (hp1 i6 s6 hi6 hs6 c3)) (by decide) rfl (Nat.le_of_ble_eq_true rfl) ?_
      show WK K 0 0 32 [(0, .ref 130), (1, .int a0), (2, .int a1), (3, .int a2), (4, .int s6), (5, .int (nI i6))] [.int (F_X12_isDone a0 (nI i6) I J), .int s6] (eI f I) (eJ f J) R n g
      refine w_if_eq (tgt := 51) ok dX12_timesOf_32 (by decide) (fun c4 => ?_) (fun c4 => ?_)
      · skip
        refine w_iconst (v := 0) ok dX12_timesOf_51 (by decide) ?_
        refine w_iadd ok dX12_timesOf_52 ?_
        refine w_istore ok dX12_timesOf_53 (by decide) rfl ?_
        refine w_iinc (v := (nI i6) + 1) ok dX12_timesOf_55 5 rfl rfl (by decide) rfl ?_
        refine w_goto (tgt := 6) ok dX12_timesOf_58 (by decide) ?_
        have eB : B_X12_timesOf_l6 a0 a1 a2 I J i6 s6 = (s6 + 0) := by
          unfold B_X12_timesOf_l6; exact (if_neg c3).trans ((if_pos c4).trans (rfl))
        have kk := k6
        rw [eB] at kk
        refine w_loc [2, 3, 4, 5, 1, 0] rfl ?_
        rw [nI_1 i6]
        exact kk
      · skip
        refine w_aload_n ok dX12_timesOf_35 0 rfl ?_
        refine w_iload_n ok dX12_timesOf_36 1 rfl ?_
        refine w_iload ok dX12_timesOf_37 5 rfl ?_
        refine w_iload_n ok dX12_timesOf_39 2 rfl ?_
        refine w_cV (As := [.int a0, .int (nI i6), .int a1]) ok dX12_timesOf_40 iX12_wayIn (lX12_371 rfl) (rcv cls12 (congrArg Prod.fst s_130)) (ltM hnn (by decide)) (c_X12_wayIn ro hnn hf a0 (nI i6) a1  (hp2 i6 s6 hi6 hs6 c3 c4)) (by decide) rfl (Nat.le_of_ble_eq_true rfl) ?_
        show WK K 0 0 43 [(0, .ref 130), (1, .int a0), (2, .int a1), (3, .int a2), (4, .int s6), (5, .int (nI i6))] [.int (F_X12_wayIn a0 (nI i6) a1 I J), .int s6] (eI f I) (eJ f J) R n g
        refine w_iconst (v := (-1)) ok dX12_timesOf_43 (by decide) ?_
        refine w_icmp_eq (tgt := 51) ok dX12_timesOf_44 (by decide) (fun c5 => ?_) (fun c5 => ?_)
        · skip
          refine w_iconst (v := 0) ok dX12_timesOf_51 (by decide) ?_
          refine w_iadd ok dX12_timesOf_52 ?_
          refine w_istore ok dX12_timesOf_53 (by decide) rfl ?_
          refine w_iinc (v := (nI i6) + 1) ok dX12_timesOf_55 5 rfl rfl (by decide) rfl ?_
          refine w_goto (tgt := 6) ok dX12_timesOf_58 (by decide) ?_
          have eB : B_X12_timesOf_l6 a0 a1 a2 I J i6 s6 = (s6 + 0) := by
            unfold B_X12_timesOf_l6; exact (if_neg c3).trans ((if_neg c4).trans ((if_pos c5).trans (rfl)))
          have kk := k6
          rw [eB] at kk
          refine w_loc [2, 3, 4, 5, 1, 0] rfl ?_
          rw [nI_1 i6]
          exact kk
        · skip
          refine w_iconst (v := 1) ok dX12_timesOf_47 (by decide) ?_
          refine w_goto (tgt := 52) ok dX12_timesOf_48 (by decide) ?_
          refine w_iadd ok dX12_timesOf_52 ?_
          refine w_istore ok dX12_timesOf_53 (by decide) rfl ?_
          refine w_iinc (v := (nI i6) + 1) ok dX12_timesOf_55 5 rfl rfl (by decide) rfl ?_
          refine w_goto (tgt := 6) ok dX12_timesOf_58 (by decide) ?_
          have eB : B_X12_timesOf_l6 a0 a1 a2 I J i6 s6 = (s6 + 1) := by
            unfold B_X12_timesOf_l6; exact (if_neg c3).trans ((if_neg c4).trans ((if_neg c5).trans (rfl)))
          have kk := k6
          rw [eB] at kk
          refine w_loc [2, 3, 4, 5, 1, 0] rfl ?_
          rw [nI_1 i6]
          exact kk
def S1_X12_callsMark (a0 : Int32) (a1 : Int32) (a2 : Int32) (a3 : Int32) (a4 : Int32) (I : SI) (J : SJ) : SJ := u2 (u2 J 152 0 ((F_X12_strikeOf a1 I J).toInt64)) 152 1 (((I 161 (((6 : Int32) * a0) + a1).toNatClampNeg) + a2).toInt64)
def T_X12_callsMark_j57 (a0 : Int32) (a1 : Int32) (a2 : Int32) (a3 : Int32) (a4 : Int32) (I : SI) (J : SJ) : Int64 := if (I 160 (((6 : Int32) * a0) + a1).toNatClampNeg) = (-1) then 0 else 1
def S2_X12_callsMark (a0 : Int32) (a1 : Int32) (a2 : Int32) (a3 : Int32) (a4 : Int32) (I : SI) (J : SJ) : SJ := u2 (S1_X12_callsMark a0 a1 a2 a3 a4 I J) 152 2 (T_X12_callsMark_j57 a0 a1 a2 a3 a4 I J)
def S3_X12_callsMark (a0 : Int32) (a1 : Int32) (a2 : Int32) (a3 : Int32) (a4 : Int32) (I : SI) (J : SJ) : SJ := u2 (S2_X12_callsMark a0 a1 a2 a3 a4 I J) 152 3 ((F_X12_timesOf a0 a1 a3 I (S2_X12_callsMark a0 a1 a2 a3 a4 I J)).toInt64)
def S4_X12_callsMark (a0 : Int32) (a1 : Int32) (a2 : Int32) (a3 : Int32) (a4 : Int32) (I : SI) (J : SJ) : SJ := u2 (u2 (S3_X12_callsMark a0 a1 a2 a3 a4 I J) 152 4 a4.toInt64) 152 5 ((I 154 a0.toNatClampNeg).toInt64)
def S5_X12_callsMark (a0 : Int32) (a1 : Int32) (a2 : Int32) (a3 : Int32) (a4 : Int32) (I : SI) (J : SJ) : SJ := u2 (S4_X12_callsMark a0 a1 a2 a3 a4 I J) 152 6 ((I 158 a0.toNatClampNeg).toInt64)
def FJ_X12_callsMark (a0 : Int32) (a1 : Int32) (a2 : Int32) (a3 : Int32) (a4 : Int32) (I : SI) (J : SJ) : SJ := (S5_X12_callsMark a0 a1 a2 a3 a4 I J)
def H_X12_callsMark (a0 : Int32) (a1 : Int32) (a2 : Int32) (a3 : Int32) (a4 : Int32) (I : SI) (J : SJ) : Prop := (H_X12_strikeOf a1 I J) ∧ (inR (((6 : Int32) * a0) + a1) 138) ∧ (H_X12_timesOf a0 a1 a3 I (S2_X12_callsMark a0 a1 a2 a3 a4 I J)) ∧ (inR a0 23)
set_option maxHeartbeats 1000000 in
set_option maxRecDepth 40000 in
theorem c_X12_callsMark {I : SI} {J : SJ} {R : SR} {n g : Nat} {f : Fr} (ro : RM R) (hnn : nM ≤ n) (hf : f.1 = false) (a0 : Int32) (a1 : Int32) (a2 : Int32) (a3 : Int32) (a4 : Int32)  (hp : H_X12_callsMark a0 a1 a2 a3 a4 I J) : MM 2 0 0 mX12_callsMark [.ref 130, .int a0, .int a1, .int a2, .int a3, .int a4] (eI f I) (eJ f J) R n g (Pd none (eI f I) (eJ f (FJ_X12_callsMark a0 a1 a2 a3 a4 I J)) R n g) := by
  refine MM.of (by decide) (Nat.le_of_ble_eq_true rfl) fun K ok fin => ?_
  show WK K 0 0 0 [(0, .ref 130), (1, .int a0), (2, .int a1), (3, .int a2), (4, .int a3), (5, .int a4)] [] (eI f I) (eJ f J) R n g
  obtain ⟨hp1, hp2, hp3, hp4⟩ := hp
  refine w_aload_n ok dX12_callsMark_0 0 rfl ?_
  refine w_getR ok dX12_callsMark_1 (fX12_77 rfl) (congrArg Prod.fst s_130) rfl (r_130_36 ro) (ltM hnn (by decide)) ?_
  refine w_iconst (v := 0) ok dX12_callsMark_4 (by decide) ?_
  refine w_aload_n ok dX12_callsMark_5 0 rfl ?_
  refine w_iload_n ok dX12_callsMark_6 2 rfl ?_
  refine w_cV (As := [.int a1]) ok dX12_callsMark_7 iX12_strikeOf (lX12_375 rfl) (rcv cls12 (congrArg Prod.fst s_130)) (ltM hnn (by decide)) (c_X12_strikeOf ro hnn hf a1  (hp1)) (by decide) rfl (Nat.le_of_ble_eq_true rfl) ?_
  show WK K 0 0 10 [(0, .ref 130), (1, .int a0), (2, .int a1), (3, .int a2), (4, .int a3), (5, .int a4)] [.int (F_X12_strikeOf a1 I J), .int 0, .ref 152] (eI f I) (eJ f J) R n g
  refine w_i2l ok dX12_callsMark_10 ?_
  refine y_last (q := 0) ok dX12_callsMark_11 s_152 (by decide) (by decide) (ltM hnn (by decide)) (sdm hf (by decide)) ?_
  refine w_aload_n ok dX12_callsMark_12 0 rfl ?_
  refine w_getR ok dX12_callsMark_13 (fX12_77 rfl) (congrArg Prod.fst s_130) rfl (r_130_36 ro) (ltM hnn (by decide)) ?_
  refine w_iconst (v := 1) ok dX12_callsMark_16 (by decide) ?_
  refine w_aload_n ok dX12_callsMark_17 0 rfl ?_
  refine w_getR ok dX12_callsMark_18 (fX12_105 rfl) (congrArg Prod.fst s_130) rfl (r_130_46 ro) (ltM hnn (by decide)) ?_
  refine w_bipush (v := 6) ok dX12_callsMark_21 (by decide) ?_
  refine w_iload_n ok dX12_callsMark_23 1 rfl ?_
  refine w_imul ok dX12_callsMark_24 ?_
  refine w_iload_n ok dX12_callsMark_25 2 rfl ?_
  refine w_iadd ok dX12_callsMark_26 ?_
  refine y_iald (q := (((6 : Int32) * a0) + a1).toNatClampNeg) ok dX12_callsMark_27 s_161 (hp2) (by decide) (ltM hnn (by decide)) (sdm hf (by decide)) ?_
  refine w_iload_n ok dX12_callsMark_28 3 rfl ?_
  refine w_iadd ok dX12_callsMark_29 ?_
  refine w_i2l ok dX12_callsMark_30 ?_
  refine y_last (q := 1) ok dX12_callsMark_31 s_152 (by decide) (by decide) (ltM hnn (by decide)) (sdm hf (by decide)) ?_
  show WK K 0 0 32 [(0, .ref 130), (1, .int a0), (2, .int a1), (3, .int a2), (4, .int a3), (5, .int a4)] [] (eI f I) (eJ f (S1_X12_callsMark a0 a1 a2 a3 a4 I J)) R n g
  refine w_aload_n ok dX12_callsMark_32 0 rfl ?_
  refine w_getR ok dX12_callsMark_33 (fX12_77 rfl) (congrArg Prod.fst s_130) rfl (r_130_36 ro) (ltM hnn (by decide)) ?_
  refine w_iconst (v := 2) ok dX12_callsMark_36 (by decide) ?_
  refine w_aload_n ok dX12_callsMark_37 0 rfl ?_
  refine w_getR ok dX12_callsMark_38 (fX12_102 rfl) (congrArg Prod.fst s_130) rfl (r_130_45 ro) (ltM hnn (by decide)) ?_
  refine w_bipush (v := 6) ok dX12_callsMark_41 (by decide) ?_
  refine w_iload_n ok dX12_callsMark_43 1 rfl ?_
  refine w_imul ok dX12_callsMark_44 ?_
  refine w_iload_n ok dX12_callsMark_45 2 rfl ?_
  refine w_iadd ok dX12_callsMark_46 ?_
  refine y_iald (q := (((6 : Int32) * a0) + a1).toNatClampNeg) ok dX12_callsMark_47 s_160 (hp2) (by decide) (ltM hnn (by decide)) (sdm hf (by decide)) ?_
  refine w_iconst (v := (-1)) ok dX12_callsMark_48 (by decide) ?_
  have jn1 : WK K 0 0 57 [(0, .ref 130), (1, .int a0), (2, .int a1), (3, .int a2), (4, .int a3), (5, .int a4)] [.long (T_X12_callsMark_j57 a0 a1 a2 a3 a4 I J), .int 2, .ref 152] (eI f I) (eJ f (S1_X12_callsMark a0 a1 a2 a3 a4 I J)) R n g := by
    refine y_last (q := 2) ok dX12_callsMark_57 s_152 (by decide) (by decide) (ltM hnn (by decide)) (sdm hf (by decide)) ?_
    show WK K 0 0 58 [(0, .ref 130), (1, .int a0), (2, .int a1), (3, .int a2), (4, .int a3), (5, .int a4)] [] (eI f I) (eJ f (S2_X12_callsMark a0 a1 a2 a3 a4 I J)) R n g
    refine w_aload_n ok dX12_callsMark_58 0 rfl ?_
    refine w_getR ok dX12_callsMark_59 (fX12_77 rfl) (congrArg Prod.fst s_130) rfl (r_130_36 ro) (ltM hnn (by decide)) ?_
    refine w_iconst (v := 3) ok dX12_callsMark_62 (by decide) ?_
    refine w_aload_n ok dX12_callsMark_63 0 rfl ?_
    refine w_iload_n ok dX12_callsMark_64 1 rfl ?_
    refine w_iload_n ok dX12_callsMark_65 2 rfl ?_
    refine w_iload ok dX12_callsMark_66 4 rfl ?_
    refine w_cV (As := [.int a0, .int a1, .int a3]) ok dX12_callsMark_68 iX12_timesOf (lX12_378 rfl) (rcv cls12 (congrArg Prod.fst s_130)) (ltM hnn (by decide)) (c_X12_timesOf ro hnn hf a0 a1 a3  (hp3)) (by decide) rfl (Nat.le_of_ble_eq_true rfl) ?_
    show WK K 0 0 71 [(0, .ref 130), (1, .int a0), (2, .int a1), (3, .int a2), (4, .int a3), (5, .int a4)] [.int (F_X12_timesOf a0 a1 a3 I (S2_X12_callsMark a0 a1 a2 a3 a4 I J)), .int 3, .ref 152] (eI f I) (eJ f (S2_X12_callsMark a0 a1 a2 a3 a4 I J)) R n g
    refine w_i2l ok dX12_callsMark_71 ?_
    refine y_last (q := 3) ok dX12_callsMark_72 s_152 (by decide) (by decide) (ltM hnn (by decide)) (sdm hf (by decide)) ?_
    show WK K 0 0 73 [(0, .ref 130), (1, .int a0), (2, .int a1), (3, .int a2), (4, .int a3), (5, .int a4)] [] (eI f I) (eJ f (S3_X12_callsMark a0 a1 a2 a3 a4 I J)) R n g
    refine w_aload_n ok dX12_callsMark_73 0 rfl ?_
    refine w_getR ok dX12_callsMark_74 (fX12_77 rfl) (congrArg Prod.fst s_130) rfl (r_130_36 ro) (ltM hnn (by decide)) ?_
    refine w_iconst (v := 4) ok dX12_callsMark_77 (by decide) ?_
    refine w_iload ok dX12_callsMark_78 5 rfl ?_
    refine w_i2l ok dX12_callsMark_80 ?_
    refine y_last (q := 4) ok dX12_callsMark_81 s_152 (by decide) (by decide) (ltM hnn (by decide)) (sdm hf (by decide)) ?_
    refine w_aload_n ok dX12_callsMark_82 0 rfl ?_
    refine w_getR ok dX12_callsMark_83 (fX12_77 rfl) (congrArg Prod.fst s_130) rfl (r_130_36 ro) (ltM hnn (by decide)) ?_
    refine w_iconst (v := 5) ok dX12_callsMark_86 (by decide) ?_
    refine w_aload_n ok dX12_callsMark_87 0 rfl ?_
    refine w_getR ok dX12_callsMark_88 (fX12_84 rfl) (congrArg Prod.fst s_130) rfl (r_130_39 ro) (ltM hnn (by decide)) ?_
    refine w_iload_n ok dX12_callsMark_91 1 rfl ?_
    refine y_iald (q := a0.toNatClampNeg) ok dX12_callsMark_92 s_154 (hp4) (by decide) (ltM hnn (by decide)) (sdm hf (by decide)) ?_
    refine w_i2l ok dX12_callsMark_93 ?_
    refine y_last (q := 5) ok dX12_callsMark_94 s_152 (by decide) (by decide) (ltM hnn (by decide)) (sdm hf (by decide)) ?_
    show WK K 0 0 95 [(0, .ref 130), (1, .int a0), (2, .int a1), (3, .int a2), (4, .int a3), (5, .int a4)] [] (eI f I) (eJ f (S4_X12_callsMark a0 a1 a2 a3 a4 I J)) R n g
    refine w_aload_n ok dX12_callsMark_95 0 rfl ?_
    refine w_getR ok dX12_callsMark_96 (fX12_77 rfl) (congrArg Prod.fst s_130) rfl (r_130_36 ro) (ltM hnn (by decide)) ?_
    refine w_bipush (v := 6) ok dX12_callsMark_99 (by decide) ?_
    refine w_aload_n ok dX12_callsMark_101 0 rfl ?_
    refine w_getR ok dX12_callsMark_102 (fX12_96 rfl) (congrArg Prod.fst s_130) rfl (r_130_43 ro) (ltM hnn (by decide)) ?_
    refine w_iload_n ok dX12_callsMark_105 1 rfl ?_
    refine y_iald (q := a0.toNatClampNeg) ok dX12_callsMark_106 s_158 (hp4) (by decide) (ltM hnn (by decide)) (sdm hf (by decide)) ?_
    refine w_i2l ok dX12_callsMark_107 ?_
    refine y_last (q := 6) ok dX12_callsMark_108 s_152 (by decide) (by decide) (ltM hnn (by decide)) (sdm hf (by decide)) ?_
    show WK K 0 0 109 [(0, .ref 130), (1, .int a0), (2, .int a1), (3, .int a2), (4, .int a3), (5, .int a4)] [] (eI f I) (eJ f (S5_X12_callsMark a0 a1 a2 a3 a4 I J)) R n g
    exact w_vret ok fin dX12_callsMark_109 rfl (by unfold FJ_X12_callsMark; exact Pd.i)
  refine w_icmp_eq (tgt := 56) ok dX12_callsMark_49 (by decide) (fun c2 => ?_) (fun c2 => ?_)
  · skip
    refine w_lconst (v := 0) ok dX12_callsMark_56 (by decide) ?_
    have eT : (T_X12_callsMark_j57 a0 a1 a2 a3 a4 I J) = 0 := by
      unfold T_X12_callsMark_j57; exact (if_pos c2).trans (rfl)
    refine w_loc [0, 1, 2, 3, 4, 5] rfl ?_
    have jj := jn1
    rw [eT] at jj
    exact jj
  · skip
    refine w_lconst (v := 1) ok dX12_callsMark_52 (by decide) ?_
    refine w_goto (tgt := 57) ok dX12_callsMark_53 (by decide) ?_
    have eT : (T_X12_callsMark_j57 a0 a1 a2 a3 a4 I J) = 1 := by
      unfold T_X12_callsMark_j57; exact (if_neg c2).trans (rfl)
    refine w_loc [0, 1, 2, 3, 4, 5] rfl ?_
    have jj := jn1
    rw [eT] at jj
    exact jj
def F_X12_doesClash (a0 : Int32) (a1 : Int32) (a2 : Int32) (I : SI) (J : SJ) : Int32 := if (F_X12_isDone a0 a1 I J) = 0 then 0 else (if (F_X12_wayIn a0 a1 a2 I J) = (-1) then 0 else (if (I 160 (((6 : Int32) * a0) + a2).toNatClampNeg) = (-1) then 0 else (if (I 160 (((6 : Int32) * a0) + a2).toNatClampNeg) = (F_X12_wayIn a0 a1 a2 I J) then 0 else 1)))
def H_X12_doesClash (a0 : Int32) (a1 : Int32) (a2 : Int32) (I : SI) (J : SJ) : Prop := (H_X12_wayIn a0 a1 a2 I J) ∧ (H_X12_isDone a0 a1 I J) ∧ (¬ ((F_X12_isDone a0 a1 I J) = 0) → ¬ ((F_X12_wayIn a0 a1 a2 I J) = (-1)) → inR (((6 : Int32) * a0) + a2) 138) ∧ (¬ ((F_X12_isDone a0 a1 I J) = 0) → ¬ ((F_X12_wayIn a0 a1 a2 I J) = (-1)) → ¬ ((I 160 (((6 : Int32) * a0) + a2).toNatClampNeg) = (-1)) → inR (((6 : Int32) * a0) + a2) 138)
set_option maxHeartbeats 1000000 in
set_option maxRecDepth 40000 in
theorem c_X12_doesClash {I : SI} {J : SJ} {R : SR} {n g : Nat} {f : Fr} (ro : RM R) (hnn : nM ≤ n) (hf : f.1 = false) (a0 : Int32) (a1 : Int32) (a2 : Int32)  (hp : H_X12_doesClash a0 a1 a2 I J) : MM 1 0 0 mX12_doesClash [.ref 130, .int a0, .int a1, .int a2] (eI f I) (eJ f J) R n g (Pd (some (.int (F_X12_doesClash a0 a1 a2 I J))) (eI f I) (eJ f J) R n g) := by
  refine MM.of (by decide) (Nat.le_of_ble_eq_true rfl) fun K ok fin => ?_
  show WK K 0 0 0 [(0, .ref 130), (1, .int a0), (2, .int a1), (3, .int a2)] [] (eI f I) (eJ f J) R n g
  obtain ⟨hp1, hp2, hp3, hp4⟩ := hp
  refine w_aload_n ok dX12_doesClash_0 0 rfl ?_
  refine w_iload_n ok dX12_doesClash_1 1 rfl ?_
  refine w_iload_n ok dX12_doesClash_2 2 rfl ?_
  refine w_iload_n ok dX12_doesClash_3 3 rfl ?_
  refine w_cV (As := [.int a0, .int a1, .int a2]) ok dX12_doesClash_4 iX12_wayIn (lX12_371 rfl) (rcv cls12 (congrArg Prod.fst s_130)) (ltM hnn (by decide)) (c_X12_wayIn ro hnn hf a0 a1 a2  (hp1)) (by decide) rfl (Nat.le_of_ble_eq_true rfl) ?_
  refine w_istore ok dX12_doesClash_7 (by decide) rfl ?_
  refine w_aload_n ok dX12_doesClash_9 1 rfl ?_
  refine w_iload_n ok dX12_doesClash_10 2 rfl ?_
  refine w_iload_n ok dX12_doesClash_11 3 rfl ?_
  refine w_cV (As := [.int a0, .int a1]) ok dX12_doesClash_12 iX12_isDone (lX12_367 rfl) (rcv cls12 (congrArg Prod.fst s_130)) (ltM hnn (by decide)) (c_X12_isDone ro hnn hf a0 a1  (hp2)) (by decide) rfl (Nat.le_of_ble_eq_true rfl) ?_
  refine w_if_eq (tgt := 59) ok dX12_doesClash_15 (by decide) (fun c1 => ?_) (fun c1 => ?_)
  · skip
    refine w_iconst (v := 0) ok dX12_doesClash_59 (by decide) ?_
    exact w_zret ok fin dX12_doesClash_60 rfl (by decide) (by unfold F_X12_doesClash; simp only [if_pos c1]; exact Pd.i)
  · skip
    refine w_iload ok dX12_doesClash_18 0 rfl ?_
    refine w_iconst (v := (-1)) ok dX12_doesClash_20 (by decide) ?_
    refine w_icmp_eq (tgt := 59) ok dX12_doesClash_21 (by decide) (fun c2 => ?_) (fun c2 => ?_)
    · skip
      refine w_iconst (v := 0) ok dX12_doesClash_59 (by decide) ?_
      exact w_zret ok fin dX12_doesClash_60 rfl (by decide) (by unfold F_X12_doesClash; simp only [if_neg c1]; simp only [if_pos c2]; exact Pd.i)
    · skip
      refine w_aload_n ok dX12_doesClash_24 1 rfl ?_
      refine w_getR ok dX12_doesClash_25 (fX12_102 rfl) (congrArg Prod.fst s_130) rfl (r_130_45 ro) (ltM hnn (by decide)) ?_
      refine w_bipush (v := 6) ok dX12_doesClash_28 (by decide) ?_
      refine w_iload_n ok dX12_doesClash_30 2 rfl ?_
      refine w_imul ok dX12_doesClash_31 ?_
      refine w_iload_n ok dX12_doesClash_32 4 rfl ?_
      refine w_iadd ok dX12_doesClash_33 ?_
      refine y_iald (q := (((6 : Int32) * a0) + a2).toNatClampNeg) ok dX12_doesClash_34 s_160 (hp3 c1 c2) (by decide) (ltM hnn (by decide)) (sdm hf (by decide)) ?_
      refine w_iconst (v := (-1)) ok dX12_doesClash_35 (by decide) ?_
      refine w_icmp_eq (tgt := 59) ok dX12_doesClash_36 (by decide) (fun c3 => ?_) (fun c3 => ?_)
      · skip
        refine w_iconst (v := 0) ok dX12_doesClash_59 (by decide) ?_
        exact w_zret ok fin dX12_doesClash_60 rfl (by decide) (by unfold F_X12_doesClash; simp only [if_neg c1]; simp only [if_neg c2]; simp only [if_pos c3]; exact Pd.i)
      · skip
        refine w_aload_n ok dX12_doesClash_39 1 rfl ?_
        refine w_getR ok dX12_doesClash_40 (fX12_102 rfl) (congrArg Prod.fst s_130) rfl (r_130_45 ro) (ltM hnn (by decide)) ?_
        refine w_bipush (v := 6) ok dX12_doesClash_43 (by decide) ?_
        refine w_iload_n ok dX12_doesClash_45 2 rfl ?_
        refine w_imul ok dX12_doesClash_46 ?_
        refine w_iload_n ok dX12_doesClash_47 4 rfl ?_
        refine w_iadd ok dX12_doesClash_48 ?_
        refine y_iald (q := (((6 : Int32) * a0) + a2).toNatClampNeg) ok dX12_doesClash_49 s_160 (hp4 c1 c2 c3) (by decide) (ltM hnn (by decide)) (sdm hf (by decide)) ?_
        refine w_iload ok dX12_doesClash_50 0 rfl ?_
        refine w_icmp_eq (tgt := 59) ok dX12_doesClash_52 (by decide) (fun c4 => ?_) (fun c4 => ?_)
        · skip
          refine w_iconst (v := 0) ok dX12_doesClash_59 (by decide) ?_
          exact w_zret ok fin dX12_doesClash_60 rfl (by decide) (by unfold F_X12_doesClash; simp only [if_neg c1]; simp only [if_neg c2]; simp only [if_neg c3]; simp only [if_pos c4]; exact Pd.i)
        · skip
          refine w_iconst (v := 1) ok dX12_doesClash_55 (by decide) ?_
          refine w_goto (tgt := 60) ok dX12_doesClash_56 (by decide) ?_
          exact w_zret ok fin dX12_doesClash_60 rfl (by decide) (by unfold F_X12_doesClash; simp only [if_neg c1]; simp only [if_neg c2]; simp only [if_neg c3]; simp only [if_neg c4]; exact Pd.i)
def B_X12_clashesOf_l5 (a0 : Int32) (a1 : Int32) (I : SI) (J : SJ) (i5 : Nat) (s5 : Int32) : Int32 := if (F_X12_doesClash a0 a1 (nI i5) I J) = 0 then (s5 + 0) else (s5 + 1)
def F_X12_clashesOf_l5 (a0 : Int32) (a1 : Int32) (I : SI) (J : SJ) (s0 : Int32) : Int32 := itN (B_X12_clashesOf_l5 a0 a1 I J) ((I 132 0).toNatClampNeg) s0
def F_X12_clashesOf (a0 : Int32) (a1 : Int32) (I : SI) (J : SJ) : Int32 := (F_X12_clashesOf_l5 a0 a1 I J 0)
def H_X12_clashesOf (a0 : Int32) (a1 : Int32) (I : SI) (J : SJ) : Prop := (∀ (i5 : Nat) (s5 : Int32), i5 < (I 132 0).toNatClampNeg → s5 = itN (B_X12_clashesOf_l5 a0 a1 I J) i5 0 → H_X12_doesClash a0 a1 (nI i5) I J)
set_option maxHeartbeats 1000000 in
set_option maxRecDepth 40000 in
theorem c_X12_clashesOf {I : SI} {J : SJ} {R : SR} {n g : Nat} {f : Fr} (ro : RM R) (hnn : nM ≤ n) (hf : f.1 = false) (a0 : Int32) (a1 : Int32)  (hp : H_X12_clashesOf a0 a1 I J) : MM 2 0 0 mX12_clashesOf [.ref 130, .int a0, .int a1] (eI f I) (eJ f J) R n g (Pd (some (.int (F_X12_clashesOf a0 a1 I J))) (eI f I) (eJ f J) R n g) := by
  refine MM.of (by decide) (Nat.le_of_ble_eq_true rfl) fun K ok fin => ?_
  show WK K 0 0 0 [(0, .ref 130), (1, .int a0), (2, .int a1)] [] (eI f I) (eJ f J) R n g
  have hp1 := hp
  refine w_iconst (v := 0) ok dX12_clashesOf_0 (by decide) ?_
  refine w_istore_n ok dX12_clashesOf_1 rfl (by decide) rfl ?_
  refine w_iconst (v := 0) ok dX12_clashesOf_2 (by decide) ?_
  refine w_istore ok dX12_clashesOf_3 (by decide) rfl ?_
  refine w_loc [2, 3, 4, 1, 0] rfl ?_
  refine loop_for (σ := Int32) (fun (i5 : Nat) (s5 : Int32) => WK K 0 0 5 [(0, .ref 130), (1, .int a0), (2, .int a1), (3, .int s5), (4, .int (nI i5))] [] (eI f I) (eJ f J) R n g) (B_X12_clashesOf_l5 a0 a1 I J) ((I 132 0).toNatClampNeg) (0) ?_ ?_
  · show WK K 0 0 5 [(0, .ref 130), (1, .int a0), (2, .int a1), (3, .int (F_X12_clashesOf_l5 a0 a1 I J 0)), (4, .int (nI ((I 132 0).toNatClampNeg)))] [] (eI f I) (eJ f J) R n g
    have e1 : (I 132 0) ≤ (nI ((I 132 0).toNatClampNeg)) := cnt_ge _
    refine w_iload ok dX12_clashesOf_5 4 rfl ?_
    refine w_aload_n ok dX12_clashesOf_7 0 rfl ?_
    refine w_getR ok dX12_clashesOf_8 (fX12_13 rfl) (congrArg Prod.fst s_130) rfl (r_130_3 ro) (ltM hnn (by decide)) ?_
    refine w_iconst (v := 0) ok dX12_clashesOf_11 (by decide) ?_
    refine y_iald (q := 0) ok dX12_clashesOf_12 s_132 (by decide) (by decide) (ltM hnn (by decide)) (sdm hf (by decide)) ?_
    refine w_icmp_ge (tgt := 41) ok dX12_clashesOf_13 (by decide) (fun _ => ?_) (fun h => absurd e1 h)
    refine w_iload_n ok dX12_clashesOf_41 3 rfl ?_
    exact w_iret ok fin dX12_clashesOf_42 rfl (by unfold F_X12_clashesOf; exact Pd.i)
  · intro i5 s5 hi5 hs5 k5
    show WK K 0 0 5 [(0, .ref 130), (1, .int a0), (2, .int a1), (3, .int s5), (4, .int (nI i5))] [] (eI f I) (eJ f J) R n g
    have e2 : ¬ ((I 132 0) ≤ (nI i5)) := cnt_lt hi5
    refine w_iload ok dX12_clashesOf_5 4 rfl ?_
    refine w_aload_n ok dX12_clashesOf_7 0 rfl ?_
    refine w_getR ok dX12_clashesOf_8 (fX12_13 rfl) (congrArg Prod.fst s_130) rfl (r_130_3 ro) (ltM hnn (by decide)) ?_
    refine w_iconst (v := 0) ok dX12_clashesOf_11 (by decide) ?_
    refine y_iald (q := 0) ok dX12_clashesOf_12 s_132 (by decide) (by decide) (ltM hnn (by decide)) (sdm hf (by decide)) ?_
    refine w_icmp_ge (tgt := 41) ok dX12_clashesOf_13 (by decide) (fun h => absurd h e2) (fun _ => ?_)
    refine w_iload_n ok dX12_clashesOf_16 3 rfl ?_
    refine w_aload_n ok dX12_clashesOf_17 0 rfl ?_
    refine w_iload_n ok dX12_clashesOf_18 1 rfl ?_
    refine w_iload_n ok dX12_clashesOf_19 2 rfl ?_
    refine w_iload ok dX12_clashesOf_20 4 rfl ?_
    refine w_cV (As := [.int a0, .int a1, .int (nI i5)]) ok dX12_clashesOf_22 iX12_doesClash (lX12_381 rfl) (rcv cls12 (congrArg Prod.fst s_130)) (ltM hnn (by decide)) (c_X12_doesClash ro hnn hf a0 a1 (nI i5)  (hp1 i5 s5 hi5 hs5)) (by decide) rfl (Nat.le_of_ble_eq_true rfl) ?_
    show WK K 0 0 25 [(0, .ref 130), (1, .int a0), (2, .int a1), (3, .int s5), (4, .int (nI i5))] [.int (F_X12_doesClash a0 a1 (nI i5) I J), .int s5] (eI f I) (eJ f J) R n g
    refine w_if_eq (tgt := 32) ok dX12_clashesOf_25 (by decide) (fun c3 => ?_) (fun c3 => ?_)
    · skip
      refine w_iconst (v := 0) ok dX12_clashesOf_32 (by decide) ?_
      refine w_iadd ok dX12_clashesOf_33 ?_
      refine w_istore_n ok dX12_clashesOf_34 rfl (by decide) rfl ?_
      refine w_iinc (v := (nI i5) + 1) ok dX12_clashesOf_35 4 rfl rfl (by decide) rfl ?_
      refine w_goto (tgt := 5) ok dX12_clashesOf_38 (by decide) ?_
      have eB : B_X12_clashesOf_l5 a0 a1 I J i5 s5 = (s5 + 0) := by
        unfold B_X12_clashesOf_l5; exact (if_pos c3).trans (rfl)
      have kk := k5
      rw [eB] at kk
      refine w_loc [2, 3, 4, 1, 0] rfl ?_
      rw [nI_1 i5]
      exact kk
    · skip
      refine w_iconst (v := 1) ok dX12_clashesOf_28 (by decide) ?_
      refine w_goto (tgt := 33) ok dX12_clashesOf_29 (by decide) ?_
      refine w_iadd ok dX12_clashesOf_33 ?_
      refine w_istore_n ok dX12_clashesOf_34 rfl (by decide) rfl ?_
      refine w_iinc (v := (nI i5) + 1) ok dX12_clashesOf_35 4 rfl rfl (by decide) rfl ?_
      refine w_goto (tgt := 5) ok dX12_clashesOf_38 (by decide) ?_
      have eB : B_X12_clashesOf_l5 a0 a1 I J i5 s5 = (s5 + 1) := by
        unfold B_X12_clashesOf_l5; exact (if_neg c3).trans (rfl)
      have kk := k5
      rw [eB] at kk
      refine w_loc [2, 3, 4, 1, 0] rfl ?_
      rw [nI_1 i5]
      exact kk
def B_X12_clashesAll_l4 (a0 : Int32) (I : SI) (J : SJ) (i4 : Nat) (s4 : Int32) : Int32 := (s4 + (F_X12_clashesOf a0 (nI i4) I J))
def F_X12_clashesAll_l4 (a0 : Int32) (I : SI) (J : SJ) (s0 : Int32) : Int32 := itN (B_X12_clashesAll_l4 a0 I J) ((I 132 1).toNatClampNeg) s0
def F_X12_clashesAll (a0 : Int32) (I : SI) (J : SJ) : Int32 := (F_X12_clashesAll_l4 a0 I J 0)
def H_X12_clashesAll (a0 : Int32) (I : SI) (J : SJ) : Prop := (∀ (i4 : Nat) (s4 : Int32), i4 < (I 132 1).toNatClampNeg → s4 = itN (B_X12_clashesAll_l4 a0 I J) i4 0 → H_X12_clashesOf a0 (nI i4) I J)
set_option maxHeartbeats 1000000 in
set_option maxRecDepth 40000 in
theorem c_X12_clashesAll {I : SI} {J : SJ} {R : SR} {n g : Nat} {f : Fr} (ro : RM R) (hnn : nM ≤ n) (hf : f.1 = false) (a0 : Int32)  (hp : H_X12_clashesAll a0 I J) : MM 3 0 0 mX12_clashesAll [.ref 130, .int a0] (eI f I) (eJ f J) R n g (Pd (some (.int (F_X12_clashesAll a0 I J))) (eI f I) (eJ f J) R n g) := by
  refine MM.of (by decide) (Nat.le_of_ble_eq_true rfl) fun K ok fin => ?_
  show WK K 0 0 0 [(0, .ref 130), (1, .int a0)] [] (eI f I) (eJ f J) R n g
  have hp1 := hp
  refine w_iconst (v := 0) ok dX12_clashesAll_0 (by decide) ?_
  refine w_istore_n ok dX12_clashesAll_1 rfl (by decide) rfl ?_
  refine w_iconst (v := 0) ok dX12_clashesAll_2 (by decide) ?_
  refine w_istore_n ok dX12_clashesAll_3 rfl (by decide) rfl ?_
  refine w_loc [2, 3, 1, 0] rfl ?_
  refine loop_for (σ := Int32) (fun (i4 : Nat) (s4 : Int32) => WK K 0 0 4 [(0, .ref 130), (1, .int a0), (2, .int s4), (3, .int (nI i4))] [] (eI f I) (eJ f J) R n g) (B_X12_clashesAll_l4 a0 I J) ((I 132 1).toNatClampNeg) (0) ?_ ?_
  · show WK K 0 0 4 [(0, .ref 130), (1, .int a0), (2, .int (F_X12_clashesAll_l4 a0 I J 0)), (3, .int (nI ((I 132 1).toNatClampNeg)))] [] (eI f I) (eJ f J) R n g
    have e1 : (I 132 1) ≤ (nI ((I 132 1).toNatClampNeg)) := cnt_ge _
    refine w_iload_n ok dX12_clashesAll_4 3 rfl ?_
    refine w_aload_n ok dX12_clashesAll_5 0 rfl ?_
    refine w_getR ok dX12_clashesAll_6 (fX12_13 rfl) (congrArg Prod.fst s_130) rfl (r_130_3 ro) (ltM hnn (by decide)) ?_
    refine w_iconst (v := 1) ok dX12_clashesAll_9 (by decide) ?_
    refine y_iald (q := 1) ok dX12_clashesAll_10 s_132 (by decide) (by decide) (ltM hnn (by decide)) (sdm hf (by decide)) ?_
    refine w_icmp_ge (tgt := 29) ok dX12_clashesAll_11 (by decide) (fun _ => ?_) (fun h => absurd e1 h)
    refine w_iload_n ok dX12_clashesAll_29 2 rfl ?_
    exact w_iret ok fin dX12_clashesAll_30 rfl (by unfold F_X12_clashesAll; exact Pd.i)
  · intro i4 s4 hi4 hs4 k4
    show WK K 0 0 4 [(0, .ref 130), (1, .int a0), (2, .int s4), (3, .int (nI i4))] [] (eI f I) (eJ f J) R n g
    have e2 : ¬ ((I 132 1) ≤ (nI i4)) := cnt_lt hi4
    refine w_iload_n ok dX12_clashesAll_4 3 rfl ?_
    refine w_aload_n ok dX12_clashesAll_5 0 rfl ?_
    refine w_getR ok dX12_clashesAll_6 (fX12_13 rfl) (congrArg Prod.fst s_130) rfl (r_130_3 ro) (ltM hnn (by decide)) ?_
    refine w_iconst (v := 1) ok dX12_clashesAll_9 (by decide) ?_
    refine y_iald (q := 1) ok dX12_clashesAll_10 s_132 (by decide) (by decide) (ltM hnn (by decide)) (sdm hf (by decide)) ?_
    refine w_icmp_ge (tgt := 29) ok dX12_clashesAll_11 (by decide) (fun h => absurd h e2) (fun _ => ?_)
    refine w_iload_n ok dX12_clashesAll_14 2 rfl ?_
    refine w_aload_n ok dX12_clashesAll_15 0 rfl ?_
    refine w_iload_n ok dX12_clashesAll_16 1 rfl ?_
    refine w_iload_n ok dX12_clashesAll_17 3 rfl ?_
    refine w_cV (As := [.int a0, .int (nI i4)]) ok dX12_clashesAll_18 iX12_clashesOf (lX12_385 rfl) (rcv cls12 (congrArg Prod.fst s_130)) (ltM hnn (by decide)) (c_X12_clashesOf ro hnn hf a0 (nI i4)  (hp1 i4 s4 hi4 hs4)) (by decide) rfl (Nat.le_of_ble_eq_true rfl) ?_
    show WK K 0 0 21 [(0, .ref 130), (1, .int a0), (2, .int s4), (3, .int (nI i4))] [.int (F_X12_clashesOf a0 (nI i4) I J), .int s4] (eI f I) (eJ f J) R n g
    refine w_iadd ok dX12_clashesAll_21 ?_
    refine w_istore_n ok dX12_clashesAll_22 rfl (by decide) rfl ?_
    refine w_iinc (v := (nI i4) + 1) ok dX12_clashesAll_23 3 rfl rfl (by decide) rfl ?_
    refine w_goto (tgt := 4) ok dX12_clashesAll_26 (by decide) ?_
    have eB : B_X12_clashesAll_l4 a0 I J i4 s4 = (s4 + (F_X12_clashesOf a0 (nI i4) I J)) := by
      unfold B_X12_clashesAll_l4; exact rfl
    have kk := k4
    rw [eB] at kk
    refine w_loc [2, 3, 1, 0] rfl ?_
    rw [nI_1 i4]
    exact kk
def B_X12_callsShot_l8 (a0 : Int32) (a1 : Int32) (I : SI) (J : SJ) (i8 : Nat) (s8 : Int32 × Int32) : Int32 × Int32 := if (F_X12_wayIn a0 a1 (nI i8) I J) = (-1) then ((s8.1 + (I 161 (((6 : Int32) * a0) + (nI i8)).toNatClampNeg)), (s8.2 + 0)) else ((s8.1 + (I 161 (((6 : Int32) * a0) + (nI i8)).toNatClampNeg)), (s8.2 + 1))
def F_X12_callsShot_l8 (a0 : Int32) (a1 : Int32) (I : SI) (J : SJ) (s0 : Int32 × Int32) : Int32 × Int32 := itN (B_X12_callsShot_l8 a0 a1 I J) ((I 132 0).toNatClampNeg) s0
def S1_X12_callsShot (a0 : Int32) (a1 : Int32) (I : SI) (J : SJ) : SJ := u2 (u2 J 152 0 0) 152 1 (((F_X12_callsShot_l8 a0 a1 I J (0, 0)).1).toInt64)
def S2_X12_callsShot (a0 : Int32) (a1 : Int32) (I : SI) (J : SJ) : SJ := u2 (S1_X12_callsShot a0 a1 I J) 152 2 ((F_X12_clashesOf a0 a1 I (S1_X12_callsShot a0 a1 I J)).toInt64)
def S3_X12_callsShot (a0 : Int32) (a1 : Int32) (I : SI) (J : SJ) : SJ := u2 (S2_X12_callsShot a0 a1 I J) 152 3 (((F_X12_callsShot_l8 a0 a1 I J (0, 0)).2).toInt64)
def S4_X12_callsShot (a0 : Int32) (a1 : Int32) (I : SI) (J : SJ) : SJ := u2 (S3_X12_callsShot a0 a1 I J) 152 4 ((I 137 a1.toNatClampNeg).toInt64)
def S5_X12_callsShot (a0 : Int32) (a1 : Int32) (I : SI) (J : SJ) : SJ := u2 (S4_X12_callsShot a0 a1 I J) 152 5 ((I 154 a0.toNatClampNeg).toInt64)
def S6_X12_callsShot (a0 : Int32) (a1 : Int32) (I : SI) (J : SJ) : SJ := u2 (S5_X12_callsShot a0 a1 I J) 152 6 ((I 158 a0.toNatClampNeg).toInt64)
def FJ_X12_callsShot (a0 : Int32) (a1 : Int32) (I : SI) (J : SJ) : SJ := (S6_X12_callsShot a0 a1 I J)
def H_X12_callsShot (a0 : Int32) (a1 : Int32) (I : SI) (J : SJ) : Prop := (H_X12_clashesOf a0 a1 I (S1_X12_callsShot a0 a1 I J)) ∧ (inR a1 16) ∧ (inR a0 23) ∧ (∀ (i8 : Nat) (s8 : Int32 × Int32), i8 < (I 132 0).toNatClampNeg → s8 = itN (B_X12_callsShot_l8 a0 a1 I J) i8 (0, 0) → inR (((6 : Int32) * a0) + (nI i8)) 138) ∧ (∀ (i8 : Nat) (s8 : Int32 × Int32), i8 < (I 132 0).toNatClampNeg → s8 = itN (B_X12_callsShot_l8 a0 a1 I J) i8 (0, 0) → H_X12_wayIn a0 a1 (nI i8) I J)
set_option maxHeartbeats 1340000 in
set_option maxRecDepth 40000 in
theorem c_X12_callsShot {I : SI} {J : SJ} {R : SR} {n g : Nat} {f : Fr} (ro : RM R) (hnn : nM ≤ n) (hf : f.1 = false) (a0 : Int32) (a1 : Int32)  (hp : H_X12_callsShot a0 a1 I J) : MM 3 0 0 mX12_callsShot [.ref 130, .int a0, .int a1] (eI f I) (eJ f J) R n g (Pd none (eI f I) (eJ f (FJ_X12_callsShot a0 a1 I J)) R n g) := by
  refine MM.of (by decide) (Nat.le_of_ble_eq_true rfl) fun K ok fin => ?_
  show WK K 0 0 0 [(0, .ref 130), (1, .int a0), (2, .int a1)] [] (eI f I) (eJ f J) R n g
  obtain ⟨hp1, hp2, hp3, hp4, hp5⟩ := hp
  refine w_iconst (v := 0) ok dX12_callsShot_0 (by decide) ?_
  refine w_istore_n ok dX12_callsShot_1 rfl (by decide) rfl ?_
  refine w_iconst (v := 0) ok dX12_callsShot_2 (by decide) ?_
  refine w_istore ok dX12_callsShot_3 (by decide) rfl ?_
  refine w_iconst (v := 0) ok dX12_callsShot_5 (by decide) ?_
  refine w_istore ok dX12_callsShot_6 (by decide) rfl ?_
  refine w_loc [3, 4, 5, 2, 1, 0] rfl ?_
  refine loop_for (σ := Int32 × Int32) (fun (i8 : Nat) (s8 : Int32 × Int32) => WK K 0 0 8 [(0, .ref 130), (1, .int a0), (2, .int a1), (3, .int s8.1), (4, .int s8.2), (5, .int (nI i8))] [] (eI f I) (eJ f J) R n g) (B_X12_callsShot_l8 a0 a1 I J) ((I 132 0).toNatClampNeg) ((0, 0)) ?_ ?_
  · show WK K 0 0 8 [(0, .ref 130), (1, .int a0), (2, .int a1), (3, .int ((F_X12_callsShot_l8 a0 a1 I J (0, 0)).1)), (4, .int ((F_X12_callsShot_l8 a0 a1 I J (0, 0)).2)), (5, .int (nI ((I 132 0).toNatClampNeg)))] [] (eI f I) (eJ f J) R n g
    have e1 : (I 132 0) ≤ (nI ((I 132 0).toNatClampNeg)) := cnt_ge _
    refine w_iload ok dX12_callsShot_8 5 rfl ?_
    refine w_aload_n ok dX12_callsShot_10 0 rfl ?_
    refine w_getR ok dX12_callsShot_11 (fX12_13 rfl) (congrArg Prod.fst s_130) rfl (r_130_3 ro) (ltM hnn (by decide)) ?_
    refine w_iconst (v := 0) ok dX12_callsShot_14 (by decide) ?_
    refine y_iald (q := 0) ok dX12_callsShot_15 s_132 (by decide) (by decide) (ltM hnn (by decide)) (sdm hf (by decide)) ?_
    refine w_icmp_ge (tgt := 62) ok dX12_callsShot_16 (by decide) (fun _ => ?_) (fun h => absurd e1 h)
    refine w_aload_n ok dX12_callsShot_62 0 rfl ?_
    refine w_getR ok dX12_callsShot_63 (fX12_77 rfl) (congrArg Prod.fst s_130) rfl (r_130_36 ro) (ltM hnn (by decide)) ?_
    refine w_iconst (v := 0) ok dX12_callsShot_66 (by decide) ?_
    refine w_lconst (v := 0) ok dX12_callsShot_67 (by decide) ?_
    refine y_last (q := 0) ok dX12_callsShot_68 s_152 (by decide) (by decide) (ltM hnn (by decide)) (sdm hf (by decide)) ?_
    refine w_aload_n ok dX12_callsShot_69 0 rfl ?_
    refine w_getR ok dX12_callsShot_70 (fX12_77 rfl) (congrArg Prod.fst s_130) rfl (r_130_36 ro) (ltM hnn (by decide)) ?_
    refine w_iconst (v := 1) ok dX12_callsShot_73 (by decide) ?_
    refine w_iload_n ok dX12_callsShot_74 3 rfl ?_
    refine w_i2l ok dX12_callsShot_75 ?_
    refine y_last (q := 1) ok dX12_callsShot_76 s_152 (by decide) (by decide) (ltM hnn (by decide)) (sdm hf (by decide)) ?_
    show WK K 0 0 77 [(0, .ref 130), (1, .int a0), (2, .int a1), (3, .int ((F_X12_callsShot_l8 a0 a1 I J (0, 0)).1)), (4, .int ((F_X12_callsShot_l8 a0 a1 I J (0, 0)).2)), (5, .int (nI ((I 132 0).toNatClampNeg)))] [] (eI f I) (eJ f (S1_X12_callsShot a0 a1 I J)) R n g
    refine w_aload_n ok dX12_callsShot_77 0 rfl ?_
    refine w_getR ok dX12_callsShot_78 (fX12_77 rfl) (congrArg Prod.fst s_130) rfl (r_130_36 ro) (ltM hnn (by decide)) ?_
    refine w_iconst (v := 2) ok dX12_callsShot_81 (by decide) ?_
    refine w_aload_n ok dX12_callsShot_82 0 rfl ?_
    refine w_iload_n ok dX12_callsShot_83 1 rfl ?_
    refine w_iload_n ok dX12_callsShot_84 2 rfl ?_
    refine w_cV (As := [.int a0, .int a1]) ok dX12_callsShot_85 iX12_clashesOf (lX12_385 rfl) (rcv cls12 (congrArg Prod.fst s_130)) (ltM hnn (by decide)) (c_X12_clashesOf ro hnn hf a0 a1  (hp1)) (by decide) rfl (Nat.le_of_ble_eq_true rfl) ?_
    show WK K 0 0 88 [(0, .ref 130), (1, .int a0), (2, .int a1), (3, .int ((F_X12_callsShot_l8 a0 a1 I J (0, 0)).1)), (4, .int ((F_X12_callsShot_l8 a0 a1 I J (0, 0)).2)), (5, .int (nI ((I 132 0).toNatClampNeg)))] [.int (F_X12_clashesOf a0 a1 I (S1_X12_callsShot a0 a1 I J)), .int 2, .ref 152] (eI f I) (eJ f (S1_X12_callsShot a0 a1 I J)) R n g
    refine w_i2l ok dX12_callsShot_88 ?_
    refine y_last (q := 2) ok dX12_callsShot_89 s_152 (by decide) (by decide) (ltM hnn (by decide)) (sdm hf (by decide)) ?_
    show WK K 0 0 90 [(0, .ref 130), (1, .int a0), (2, .int a1), (3, .int ((F_X12_callsShot_l8 a0 a1 I J (0, 0)).1)), (4, .int ((F_X12_callsShot_l8 a0 a1 I J (0, 0)).2)), (5, .int (nI ((I 132 0).toNatClampNeg)))] [] (eI f I) (eJ f (S2_X12_callsShot a0 a1 I J)) R n g
    refine w_aload_n ok dX12_callsShot_90 0 rfl ?_
    refine w_getR ok dX12_callsShot_91 (fX12_77 rfl) (congrArg Prod.fst s_130) rfl (r_130_36 ro) (ltM hnn (by decide)) ?_
    refine w_iconst (v := 3) ok dX12_callsShot_94 (by decide) ?_
    refine w_iload ok dX12_callsShot_95 4 rfl ?_
    refine w_i2l ok dX12_callsShot_97 ?_
    refine y_last (q := 3) ok dX12_callsShot_98 s_152 (by decide) (by decide) (ltM hnn (by decide)) (sdm hf (by decide)) ?_
    show WK K 0 0 99 [(0, .ref 130), (1, .int a0), (2, .int a1), (3, .int ((F_X12_callsShot_l8 a0 a1 I J (0, 0)).1)), (4, .int ((F_X12_callsShot_l8 a0 a1 I J (0, 0)).2)), (5, .int (nI ((I 132 0).toNatClampNeg)))] [] (eI f I) (eJ f (S3_X12_callsShot a0 a1 I J)) R n g
    refine w_aload_n ok dX12_callsShot_99 0 rfl ?_
    refine w_getR ok dX12_callsShot_100 (fX12_77 rfl) (congrArg Prod.fst s_130) rfl (r_130_36 ro) (ltM hnn (by decide)) ?_
    refine w_iconst (v := 4) ok dX12_callsShot_103 (by decide) ?_
    refine w_aload_n ok dX12_callsShot_104 0 rfl ?_
    refine w_getR ok dX12_callsShot_105 (fX12_28 rfl) (congrArg Prod.fst s_130) rfl (r_130_8 ro) (ltM hnn (by decide)) ?_
    refine w_iload_n ok dX12_callsShot_108 2 rfl ?_
    refine y_iald (q := a1.toNatClampNeg) ok dX12_callsShot_109 s_137 (hp2) (by decide) (ltM hnn (by decide)) (sdm hf (by decide)) ?_
    refine w_i2l ok dX12_callsShot_110 ?_
    refine y_last (q := 4) ok dX12_callsShot_111 s_152 (by decide) (by decide) (ltM hnn (by decide)) (sdm hf (by decide)) ?_
    show WK K 0 0 112 [(0, .ref 130), (1, .int a0), (2, .int a1), (3, .int ((F_X12_callsShot_l8 a0 a1 I J (0, 0)).1)), (4, .int ((F_X12_callsShot_l8 a0 a1 I J (0, 0)).2)), (5, .int (nI ((I 132 0).toNatClampNeg)))] [] (eI f I) (eJ f (S4_X12_callsShot a0 a1 I J)) R n g
    refine w_aload_n ok dX12_callsShot_112 0 rfl ?_
    refine w_getR ok dX12_callsShot_113 (fX12_77 rfl) (congrArg Prod.fst s_130) rfl (r_130_36 ro) (ltM hnn (by decide)) ?_
    refine w_iconst (v := 5) ok dX12_callsShot_116 (by decide) ?_
    refine w_aload_n ok dX12_callsShot_117 0 rfl ?_
    refine w_getR ok dX12_callsShot_118 (fX12_84 rfl) (congrArg Prod.fst s_130) rfl (r_130_39 ro) (ltM hnn (by decide)) ?_
    refine w_iload_n ok dX12_callsShot_121 1 rfl ?_
    refine y_iald (q := a0.toNatClampNeg) ok dX12_callsShot_122 s_154 (hp3) (by decide) (ltM hnn (by decide)) (sdm hf (by decide)) ?_
    refine w_i2l ok dX12_callsShot_123 ?_
    refine y_last (q := 5) ok dX12_callsShot_124 s_152 (by decide) (by decide) (ltM hnn (by decide)) (sdm hf (by decide)) ?_
    show WK K 0 0 125 [(0, .ref 130), (1, .int a0), (2, .int a1), (3, .int ((F_X12_callsShot_l8 a0 a1 I J (0, 0)).1)), (4, .int ((F_X12_callsShot_l8 a0 a1 I J (0, 0)).2)), (5, .int (nI ((I 132 0).toNatClampNeg)))] [] (eI f I) (eJ f (S5_X12_callsShot a0 a1 I J)) R n g
    refine w_aload_n ok dX12_callsShot_125 0 rfl ?_
    refine w_getR ok dX12_callsShot_126 (fX12_77 rfl) (congrArg Prod.fst s_130) rfl (r_130_36 ro) (ltM hnn (by decide)) ?_
    refine w_bipush (v := 6) ok dX12_callsShot_129 (by decide) ?_
    refine w_aload_n ok dX12_callsShot_131 0 rfl ?_
    refine w_getR ok dX12_callsShot_132 (fX12_96 rfl) (congrArg Prod.fst s_130) rfl (r_130_43 ro) (ltM hnn (by decide)) ?_
    refine w_iload_n ok dX12_callsShot_135 1 rfl ?_
    refine y_iald (q := a0.toNatClampNeg) ok dX12_callsShot_136 s_158 (hp3) (by decide) (ltM hnn (by decide)) (sdm hf (by decide)) ?_
    refine w_i2l ok dX12_callsShot_137 ?_
    refine y_last (q := 6) ok dX12_callsShot_138 s_152 (by decide) (by decide) (ltM hnn (by decide)) (sdm hf (by decide)) ?_
    show WK K 0 0 139 [(0, .ref 130), (1, .int a0), (2, .int a1), (3, .int ((F_X12_callsShot_l8 a0 a1 I J (0, 0)).1)), (4, .int ((F_X12_callsShot_l8 a0 a1 I J (0, 0)).2)), (5, .int (nI ((I 132 0).toNatClampNeg)))] [] (eI f I) (eJ f (S6_X12_callsShot a0 a1 I J)) R n g
    exact w_vret ok fin dX12_callsShot_139 rfl (by unfold FJ_X12_callsShot; exact Pd.i)
  · intro i8 s8 hi8 hs8 k8
    show WK K 0 0 8 [(0, .ref 130), (1, .int a0), (2, .int a1), (3, .int s8.1), (4, .int s8.2), (5, .int (nI i8))] [] (eI f I) (eJ f J) R n g
    have e2 : ¬ ((I 132 0) ≤ (nI i8)) := cnt_lt hi8
    refine w_iload ok dX12_callsShot_8 5 rfl ?_
    refine w_aload_n ok dX12_callsShot_10 0 rfl ?_
    refine w_getR ok dX12_callsShot_11 (fX12_13 rfl) (congrArg Prod.fst s_130) rfl (r_130_3 ro) (ltM hnn (by decide)) ?_
    refine w_iconst (v := 0) ok dX12_callsShot_14 (by decide) ?_
    refine y_iald (q := 0) ok dX12_callsShot_15 s_132 (by decide) (by decide) (ltM hnn (by decide)) (sdm hf (by decide)) ?_
    refine w_icmp_ge (tgt := 62) ok dX12_callsShot_16 (by decide) (fun h => absurd h e2) (fun _ => ?_)
    refine w_iload_n ok dX12_callsShot_19 3 rfl ?_
    refine w_aload_n ok dX12_callsShot_20 0 rfl ?_
    refine w_getR ok dX12_callsShot_21 (fX12_105 rfl) (congrArg Prod.fst s_130) rfl (r_130_46 ro) (ltM hnn (by decide)) ?_
    refine w_bipush (v := 6) ok dX12_callsShot_24 (by decide) ?_
    refine w_iload_n ok dX12_callsShot_26 1 rfl ?_
    refine w_imul ok dX12_callsShot_27 ?_
    refine w_iload ok dX12_callsShot_28 5 rfl ?_
    refine w_iadd ok dX12_callsShot_30 ?_
    refine y_iald (q := (((6 : Int32) * a0) + (nI i8)).toNatClampNeg) ok dX12_callsShot_31 s_161 (hp4 i8 s8 hi8 hs8) (by decide) (ltM hnn (by decide)) (sdm hf (by decide)) ?_
    refine w_iadd ok dX12_callsShot_32 ?_
    refine w_istore_n ok dX12_callsShot_33 rfl (by decide) rfl ?_
    refine w_iload ok dX12_callsShot_34 4 rfl ?_
    refine w_aload_n ok dX12_callsShot_36 1 rfl ?_
    refine w_iload_n ok dX12_callsShot_37 2 rfl ?_
    refine w_iload_n ok dX12_callsShot_38 3 rfl ?_
    refine w_iload ok dX12_callsShot_39 5 rfl ?_
    refine w_cV (As := [.int a0, .int a1, .int (nI i8)]) ok dX12_callsShot_41 iX12_wayIn (lX12_371 rfl) (rcv cls12 (congrArg Prod.fst s_130)) (ltM hnn (by decide)) (c_X12_wayIn ro hnn hf a0 a1 (nI i8)  (hp5 i8 s8 hi8 hs8)) (by decide) rfl (Nat.le_of_ble_eq_true rfl) ?_
    show WK K 0 0 44 [(3, .int (s8.1 + (I 161 (((6 : Int32) * a0) + (nI i8)).toNatClampNeg))), (0, .ref 130), (1, .int a0), (2, .int a1), (4, .int s8.2), (5, .int (nI i8))] [.int (F_X12_wayIn a0 a1 (nI i8) I J), .int s8.2] (eI f I) (eJ f J) R n g
    refine w_iconst (v := (-1)) ok dX12_callsShot_44 (by decide) ?_
    refine w_icmp_eq (tgt := 52) ok dX12_callsShot_45 (by decide) (fun c3 => ?_) (fun c3 => ?_)
    · skip
      refine w_iconst (v := 0) ok dX12_callsShot_52 (by decide) ?_
      refine w_iadd ok dX12_callsShot_53 ?_
      refine w_istore ok dX12_callsShot_54 (by decide) rfl ?_
      refine w_iinc (v := (nI i8) + 1) ok dX12_callsShot_56 5 rfl rfl (by decide) rfl ?_
      refine w_goto (tgt := 8) ok dX12_callsShot_59 (by decide) ?_
      have eB : B_X12_callsShot_l8 a0 a1 I J i8 s8 = ((s8.1 + (I 161 (((6 : Int32) * a0) + (nI i8)).toNatClampNeg)), (s8.2 + 0)) := by
        unfold B_X12_callsShot_l8; exact (if_pos c3).trans (rfl)
      have kk := k8
      rw [eB] at kk
      refine w_loc [3, 4, 5, 2, 1, 0] rfl ?_
      rw [nI_1 i8]
      exact kk
    · skip
      refine w_iconst (v := 1) ok dX12_callsShot_48 (by decide) ?_
      refine w_goto (tgt := 53) ok dX12_callsShot_49 (by decide) ?_
      refine w_iadd ok dX12_callsShot_53 ?_
      refine w_istore ok dX12_callsShot_54 (by decide) rfl ?_
      refine w_iinc (v := (nI i8) + 1) ok dX12_callsShot_56 5 rfl rfl (by decide) rfl ?_
      refine w_goto (tgt := 8) ok dX12_callsShot_59 (by decide) ?_
      have eB : B_X12_callsShot_l8 a0 a1 I J i8 s8 = ((s8.1 + (I 161 (((6 : Int32) * a0) + (nI i8)).toNatClampNeg)), (s8.2 + 1)) := by
        unfold B_X12_callsShot_l8; exact (if_neg c3).trans (rfl)
      have kk := k8
      rw [eB] at kk
      refine w_loc [3, 4, 5, 2, 1, 0] rfl ?_
      rw [nI_1 i8]
      exact kk
def F_X12_isSo (a0 : Int32) (a1 : Int32) (I : SI) (J : SJ) : Int32 := if (F_X12_hasLaw a0 I J) = 0 then a1 else (if (F_X12_goes a0 I J) = 0 then a1 else (if (lg_cmp ((FJ_X12_goes a0 I J) 153 0) 0) = 0 then 0 else 1))
def FI_X12_isSo (a0 : Int32) (a1 : Int32) (I : SI) (J : SJ) : SI := if (F_X12_hasLaw a0 I J) = 0 then I else (if (F_X12_goes a0 I J) = 0 then FI_X12_goes a0 I J else (if (lg_cmp ((FJ_X12_goes a0 I J) 153 0) 0) = 0 then FI_X12_goes a0 I J else FI_X12_goes a0 I J))
def FJ_X12_isSo (a0 : Int32) (a1 : Int32) (I : SI) (J : SJ) : SJ := if (F_X12_hasLaw a0 I J) = 0 then J else (if (F_X12_goes a0 I J) = 0 then FJ_X12_goes a0 I J else (if (lg_cmp ((FJ_X12_goes a0 I J) 153 0) 0) = 0 then FJ_X12_goes a0 I J else FJ_X12_goes a0 I J))
def H_X12_isSo (a0 : Int32) (a1 : Int32) (I : SI) (J : SJ) : Prop := (H_X12_hasLaw a0 I J) ∧ ((F_X12_hasLaw a0 I J) = 0 → a1 = 0 ∨ a1 = 1) ∧ (¬ ((F_X12_hasLaw a0 I J) = 0) → H_X12_goes a0 I J) ∧ (¬ ((F_X12_hasLaw a0 I J) = 0) → (F_X12_goes a0 I J) = 0 → a1 = 0 ∨ a1 = 1)
set_option maxHeartbeats 1000000 in
set_option maxRecDepth 40000 in
theorem c_X12_isSo {I : SI} {J : SJ} {R : SR} {n g : Nat} {f : Fr} (ro : RM R) (hnn : nM ≤ n) (hf : f.1 = false) (a0 : Int32) (a1 : Int32)  (hp : H_X12_isSo a0 a1 I J) : MM 3 0 0 mX12_isSo [.ref 130, .int a0, .int a1] (eI f I) (eJ f J) R n g (Pd (some (.int (F_X12_isSo a0 a1 I J))) (eI f (FI_X12_isSo a0 a1 I J)) (eJ f (FJ_X12_isSo a0 a1 I J)) R n g) := by
  refine MM.of (by decide) (Nat.le_of_ble_eq_true rfl) fun K ok fin => ?_
  show WK K 0 0 0 [(0, .ref 130), (1, .int a0), (2, .int a1)] [] (eI f I) (eJ f J) R n g
  obtain ⟨hp1, hp2, hp3, hp4⟩ := hp
  refine w_aload_n ok dX12_isSo_0 0 rfl ?_
  refine w_iload_n ok dX12_isSo_1 1 rfl ?_
  refine w_cV (As := [.int a0]) ok dX12_isSo_2 iX12_hasLaw (lX12_388 rfl) (rcv cls12 (congrArg Prod.fst s_130)) (ltM hnn (by decide)) (c_X12_hasLaw ro hnn hf a0  (hp1)) (by decide) rfl (Nat.le_of_ble_eq_true rfl) ?_
  refine w_if_eq (tgt := 35) ok dX12_isSo_5 (by decide) (fun c1 => ?_) (fun c1 => ?_)
  · skip
    refine w_iload_n ok dX12_isSo_35 2 rfl ?_
    exact w_zret ok fin dX12_isSo_36 rfl (hp2 c1) (by unfold F_X12_isSo FI_X12_isSo FJ_X12_isSo; simp only [if_pos c1]; exact Pd.i)
  · skip
    refine w_aload_n ok dX12_isSo_8 0 rfl ?_
    refine w_iload_n ok dX12_isSo_9 1 rfl ?_
    refine w_cV (As := [.int a0]) ok dX12_isSo_10 iX12_goes (lX12_391 rfl) (rcv cls12 (congrArg Prod.fst s_130)) (ltM hnn (by decide)) (c_X12_goes ro hnn hf a0  (hp3 c1)) (by decide) rfl (Nat.le_of_ble_eq_true rfl) ?_
    refine w_if_eq (tgt := 35) ok dX12_isSo_13 (by decide) (fun c2 => ?_) (fun c2 => ?_)
    · skip
      refine w_iload_n ok dX12_isSo_35 2 rfl ?_
      exact w_zret ok fin dX12_isSo_36 rfl (hp4 c1 c2) (by unfold F_X12_isSo FI_X12_isSo FJ_X12_isSo; simp only [if_neg c1]; simp only [if_pos c2]; exact Pd.i)
    · skip
      refine w_aload_n ok dX12_isSo_16 0 rfl ?_
      refine w_getR ok dX12_isSo_17 (fX12_81 rfl) (congrArg Prod.fst s_130) rfl (r_130_37 ro) (ltM hnn (by decide)) ?_
      refine w_iconst (v := 0) ok dX12_isSo_20 (by decide) ?_
      refine y_lald (q := 0) ok dX12_isSo_21 s_153 (by decide) (by decide) (ltM hnn (by decide)) (sdm hf (by decide)) ?_
      refine w_lconst (v := 0) ok dX12_isSo_22 (by decide) ?_
      refine w_lcmp ok dX12_isSo_23 ?_
      refine w_if_eq (tgt := 31) ok dX12_isSo_24 (by decide) (fun c3 => ?_) (fun c3 => ?_)
      · skip
        refine w_iconst (v := 0) ok dX12_isSo_31 (by decide) ?_
        refine w_goto (tgt := 36) ok dX12_isSo_32 (by decide) ?_
        exact w_zret ok fin dX12_isSo_36 rfl (by decide) (by unfold F_X12_isSo FI_X12_isSo FJ_X12_isSo; simp only [if_neg c1]; simp only [if_neg c2]; simp only [if_pos c3]; exact Pd.i)
      · skip
        refine w_iconst (v := 1) ok dX12_isSo_27 (by decide) ?_
        refine w_goto (tgt := 36) ok dX12_isSo_28 (by decide) ?_
        exact w_zret ok fin dX12_isSo_36 rfl (by decide) (by unfold F_X12_isSo FI_X12_isSo FJ_X12_isSo; simp only [if_neg c1]; simp only [if_neg c2]; simp only [if_neg c3]; exact Pd.i)
def B_X12_isCold_l2 (a0 : Int32) (I : SI) (J : SJ) (i2 : Nat) (s2 : Unit) : (Unit) ⊕ (Int32) := if a0 < (I 146 (nI i2).toNatClampNeg) then .inl () else (if (I 147 (nI i2).toNatClampNeg) < a0 then .inl () else .inr 1)
def F_X12_isCold_l2 (a0 : Int32) (I : SI) (J : SJ) (s0 : Unit) : (Unit) ⊕ (Int32) := itE (B_X12_isCold_l2 a0 I J) ((I 132 5).toNatClampNeg) 0 s0
def F_X12_isCold (a0 : Int32) (I : SI) (J : SJ) : Int32 := (match (F_X12_isCold_l2 a0 I J ()) with | .inl se2 => 0 | .inr re2 => re2)
def H_X12_isCold (a0 : Int32) (I : SI) (J : SJ) : Prop := (∀ (i2 : Nat) (s2 : Unit), i2 < (I 132 5).toNatClampNeg → itE (B_X12_isCold_l2 a0 I J) i2 0 () = .inl s2 → inR (nI i2) 6) ∧ (∀ (i2 : Nat) (s2 : Unit), i2 < (I 132 5).toNatClampNeg → itE (B_X12_isCold_l2 a0 I J) i2 0 () = .inl s2 → ¬ (a0 < (I 146 (nI i2).toNatClampNeg)) → inR (nI i2) 6)
set_option maxHeartbeats 1000000 in
set_option maxRecDepth 40000 in
theorem c_X12_isCold {I : SI} {J : SJ} {R : SR} {n g : Nat} {f : Fr} (ro : RM R) (hnn : nM ≤ n) (hf : f.1 = false) (a0 : Int32)  (hp : H_X12_isCold a0 I J) : MM 0 0 0 mX12_isCold [.ref 130, .int a0] (eI f I) (eJ f J) R n g (Pd (some (.int (F_X12_isCold a0 I J))) (eI f I) (eJ f J) R n g) := by
  refine MM.of (by decide) (Nat.le_of_ble_eq_true rfl) fun K ok fin => ?_
  show WK K 0 0 0 [(0, .ref 130), (1, .int a0)] [] (eI f I) (eJ f J) R n g
  obtain ⟨hp1, hp2⟩ := hp
  refine w_iconst (v := 0) ok dX12_isCold_0 (by decide) ?_
  refine w_istore_n ok dX12_isCold_1 rfl (by decide) rfl ?_
  refine w_loc [1, 2, 0] rfl ?_
  refine loop_e (σ := Unit) (ρ := Int32) (fun (i2 : Nat) (s2 : Unit) => WK K 0 0 2 [(0, .ref 130), (1, .int a0), (2, .int (nI i2))] [] (eI f I) (eJ f J) R n g) (B_X12_isCold_l2 a0 I J) ((I 132 5).toNatClampNeg) (()) ?_ ?_
  · intro se2 he2
    have he2 : (F_X12_isCold_l2 a0 I J ()) = .inl se2 := he2
    show WK K 0 0 2 [(0, .ref 130), (1, .int a0), (2, .int (nI ((I 132 5).toNatClampNeg)))] [] (eI f I) (eJ f J) R n g
    have e1 : (I 132 5) ≤ (nI ((I 132 5).toNatClampNeg)) := cnt_ge _
    refine w_iload_n ok dX12_isCold_2 2 rfl ?_
    refine w_aload_n ok dX12_isCold_3 0 rfl ?_
    refine w_getR ok dX12_isCold_4 (fX12_13 rfl) (congrArg Prod.fst s_130) rfl (r_130_3 ro) (ltM hnn (by decide)) ?_
    refine w_iconst (v := 5) ok dX12_isCold_7 (by decide) ?_
    refine y_iald (q := 5) ok dX12_isCold_8 s_132 (by decide) (by decide) (ltM hnn (by decide)) (sdm hf (by decide)) ?_
    refine w_icmp_ge (tgt := 40) ok dX12_isCold_9 (by decide) (fun _ => ?_) (fun h => absurd e1 h)
    refine w_iconst (v := 0) ok dX12_isCold_40 (by decide) ?_
    exact w_zret ok fin dX12_isCold_41 rfl (by decide) (by unfold F_X12_isCold; simp only [he2]; exact Pd.i)
  · intro i2 s2 hi2 hs2 k2 kr2
    show WK K 0 0 2 [(0, .ref 130), (1, .int a0), (2, .int (nI i2))] [] (eI f I) (eJ f J) R n g
    have e2 : ¬ ((I 132 5) ≤ (nI i2)) := cnt_lt hi2
    refine w_iload_n ok dX12_isCold_2 2 rfl ?_
    refine w_aload_n ok dX12_isCold_3 0 rfl ?_
    refine w_getR ok dX12_isCold_4 (fX12_13 rfl) (congrArg Prod.fst s_130) rfl (r_130_3 ro) (ltM hnn (by decide)) ?_
    refine w_iconst (v := 5) ok dX12_isCold_7 (by decide) ?_
    refine y_iald (q := 5) ok dX12_isCold_8 s_132 (by decide) (by decide) (ltM hnn (by decide)) (sdm hf (by decide)) ?_
    refine w_icmp_ge (tgt := 40) ok dX12_isCold_9 (by decide) (fun h => absurd h e2) (fun _ => ?_)
    refine w_iload_n ok dX12_isCold_12 1 rfl ?_
    refine w_aload_n ok dX12_isCold_13 0 rfl ?_
    refine w_getR ok dX12_isCold_14 (fX12_55 rfl) (congrArg Prod.fst s_130) rfl (r_130_17 ro) (ltM hnn (by decide)) ?_
    refine w_iload_n ok dX12_isCold_17 2 rfl ?_
    refine y_iald (q := (nI i2).toNatClampNeg) ok dX12_isCold_18 s_146 (hp1 i2 s2 hi2 hs2) (by decide) (ltM hnn (by decide)) (sdm hf (by decide)) ?_
    refine w_icmp_lt (tgt := 34) ok dX12_isCold_19 (by decide) (fun c3 => ?_) (fun c3 => ?_)
    · skip
      refine w_iinc (v := (nI i2) + 1) ok dX12_isCold_34 2 rfl rfl (by decide) rfl ?_
      refine w_goto (tgt := 2) ok dX12_isCold_37 (by decide) ?_
      have eB : B_X12_isCold_l2 a0 I J i2 s2 = .inl () := by
        unfold B_X12_isCold_l2; exact (if_pos c3).trans (rfl)
      have kk := k2 _ eB
      refine w_loc [1, 2, 0] rfl ?_
      rw [nI_1 i2]
      exact kk
    · skip
      refine w_iload_n ok dX12_isCold_22 1 rfl ?_
      refine w_aload_n ok dX12_isCold_23 0 rfl ?_
      refine w_getR ok dX12_isCold_24 (fX12_58 rfl) (congrArg Prod.fst s_130) rfl (r_130_18 ro) (ltM hnn (by decide)) ?_
      refine w_iload_n ok dX12_isCold_27 2 rfl ?_
      refine y_iald (q := (nI i2).toNatClampNeg) ok dX12_isCold_28 s_147 (hp2 i2 s2 hi2 hs2 c3) (by decide) (ltM hnn (by decide)) (sdm hf (by decide)) ?_
      refine w_icmp_gt (tgt := 34) ok dX12_isCold_29 (by decide) (fun c4 => ?_) (fun c4 => ?_)
      · skip
        refine w_iinc (v := (nI i2) + 1) ok dX12_isCold_34 2 rfl rfl (by decide) rfl ?_
        refine w_goto (tgt := 2) ok dX12_isCold_37 (by decide) ?_
        have eB : B_X12_isCold_l2 a0 I J i2 s2 = .inl () := by
          unfold B_X12_isCold_l2; exact (if_neg c3).trans ((if_pos c4).trans (rfl))
        have kk := k2 _ eB
        refine w_loc [1, 2, 0] rfl ?_
        rw [nI_1 i2]
        exact kk
      · skip
        refine w_iconst (v := 1) ok dX12_isCold_32 (by decide) ?_
        have eB : B_X12_isCold_l2 a0 I J i2 s2 = .inr 1 := by
          unfold B_X12_isCold_l2; exact (if_neg c3).trans ((if_neg c4).trans (rfl))
        have hr : (F_X12_isCold_l2 a0 I J ()) = .inr 1 := kr2 _ eB
        exact w_zret ok fin dX12_isCold_33 rfl (by decide) (by unfold F_X12_isCold; simp only [hr]; exact Pd.i)
def S1_X12_isAway (a0 : Int32) (a1 : Int32) (I : SI) (J : SJ) : SI := u2 I 155 a0.toNatClampNeg ((((I 155 a0.toNatClampNeg) * 1103515245) + 12345) &&& 2147483647)
def S2_X12_isAway (a0 : Int32) (a1 : Int32) (I : SI) (J : SJ) : Int32 := (((S1_X12_isAway a0 a1 I J) 155 a0.toNatClampNeg) >>> (16 &&& 31)) - (((S1_X12_isAway a0 a1 I J) 155 a0.toNatClampNeg) >>> (16 &&& 31)) / 100 * 100
def F_X12_isAway (a0 : Int32) (a1 : Int32) (I : SI) (J : SJ) : Int32 := if (I 130 59) = 0 then (if (I 130 55) = 1 then 0 else (if (F_X12_isCold (I 154 a0.toNatClampNeg) I J) = 0 then (if a1 = 0 then (if (I 132 6) < 50 then 0 else 1) else (if (I 132 6) = 0 then (if (I 132 6) < 50 then 0 else 1) else (if (I 132 6) = 100 then (if (I 132 6) < 50 then 0 else 1) else (if (I 132 6) ≤ (S2_X12_isAway a0 a1 I J) then 0 else 1)))) else 1)) else 1
def FI_X12_isAway (a0 : Int32) (a1 : Int32) (I : SI) (J : SJ) : SI := if (I 130 59) = 0 then (if (I 130 55) = 1 then I else (if (F_X12_isCold (I 154 a0.toNatClampNeg) I J) = 0 then (if a1 = 0 then (if (I 132 6) < 50 then I else I) else (if (I 132 6) = 0 then (if (I 132 6) < 50 then I else I) else (if (I 132 6) = 100 then (if (I 132 6) < 50 then I else I) else (if (I 132 6) ≤ (S2_X12_isAway a0 a1 I J) then (S1_X12_isAway a0 a1 I J) else (S1_X12_isAway a0 a1 I J))))) else I)) else I
def H_X12_isAway (a0 : Int32) (a1 : Int32) (I : SI) (J : SJ) : Prop := ((I 130 59) = 0 → ¬ ((I 130 55) = 1) → inR a0 23) ∧ ((I 130 59) = 0 → ¬ ((I 130 55) = 1) → H_X12_isCold (I 154 a0.toNatClampNeg) I J) ∧ ((I 130 59) = 0 → ¬ ((I 130 55) = 1) → (F_X12_isCold (I 154 a0.toNatClampNeg) I J) = 0 → ¬ (a1 = 0) → ¬ ((I 132 6) = 0) → ¬ ((I 132 6) = 100) → inR a0 23)
set_option maxHeartbeats 1080000 in
set_option maxRecDepth 40000 in
theorem c_X12_isAway {I : SI} {J : SJ} {R : SR} {n g : Nat} {f : Fr} (ro : RM R) (hnn : nM ≤ n) (hf : f.1 = false) (a0 : Int32) (a1 : Int32)  (hp : H_X12_isAway a0 a1 I J) : MM 1 0 0 mX12_isAway [.ref 130, .int a0, .int a1] (eI f I) (eJ f J) R n g (Pd (some (.int (F_X12_isAway a0 a1 I J))) (eI f (FI_X12_isAway a0 a1 I J)) (eJ f J) R n g) := by
  refine MM.of (by decide) (Nat.le_of_ble_eq_true rfl) fun K ok fin => ?_
  show WK K 0 0 0 [(0, .ref 130), (1, .int a0), (2, .int a1)] [] (eI f I) (eJ f J) R n g
  obtain ⟨hp1, hp2, hp3⟩ := hp
  refine w_aload_n ok dX12_isAway_0 0 rfl ?_
  refine y_getI ok dX12_isAway_1 (fX12_394 rfl) (congrArg Prod.fst s_130) rfl (ltM hnn (by decide)) (sdm hf (by decide)) ?_
  refine w_if_eq (tgt := 9) ok dX12_isAway_4 (by decide) (fun c1 => ?_) (fun c1 => ?_)
  · skip
    refine w_aload_n ok dX12_isAway_9 0 rfl ?_
    refine y_getI ok dX12_isAway_10 (fX12_361 rfl) (congrArg Prod.fst s_130) rfl (ltM hnn (by decide)) (sdm hf (by decide)) ?_
    refine w_iconst (v := 1) ok dX12_isAway_13 (by decide) ?_
    refine w_icmp_ne (tgt := 19) ok dX12_isAway_14 (by decide) (fun c2 => ?_) (fun c2 => ?_)
    · skip
      refine w_aload_n ok dX12_isAway_19 0 rfl ?_
      refine w_aload_n ok dX12_isAway_20 0 rfl ?_
      refine w_getR ok dX12_isAway_21 (fX12_84 rfl) (congrArg Prod.fst s_130) rfl (r_130_39 ro) (ltM hnn (by decide)) ?_
      refine w_iload_n ok dX12_isAway_24 1 rfl ?_
      refine y_iald (q := a0.toNatClampNeg) ok dX12_isAway_25 s_154 (hp1 c1 c2) (by decide) (ltM hnn (by decide)) (sdm hf (by decide)) ?_
      refine w_cV (As := [.int (I 154 a0.toNatClampNeg)]) ok dX12_isAway_26 iX12_isCold (lX12_397 rfl) (rcv cls12 (congrArg Prod.fst s_130)) (ltM hnn (by decide)) (c_X12_isCold ro hnn hf (I 154 a0.toNatClampNeg)  (hp2 c1 c2)) (by decide) rfl (Nat.le_of_ble_eq_true rfl) ?_
      refine w_if_eq (tgt := 34) ok dX12_isAway_29 (by decide) (fun c3 => ?_) (fun c3 => ?_)
      · skip
        refine w_aload_n ok dX12_isAway_34 0 rfl ?_
        refine w_getR ok dX12_isAway_35 (fX12_13 rfl) (congrArg Prod.fst s_130) rfl (r_130_3 ro) (ltM hnn (by decide)) ?_
        refine w_bipush (v := 6) ok dX12_isAway_38 (by decide) ?_
        refine y_iald (q := 6) ok dX12_isAway_40 s_132 (by decide) (by decide) (ltM hnn (by decide)) (sdm hf (by decide)) ?_
        refine w_istore_n ok dX12_isAway_41 rfl (by decide) rfl ?_
        refine w_iload_n ok dX12_isAway_42 3 rfl ?_
        refine w_if_eq (tgt := 56) ok dX12_isAway_43 (by decide) (fun c4 => ?_) (fun c4 => ?_)
        · skip
          refine w_iload_n ok dX12_isAway_56 0 rfl ?_
          refine w_bipush (v := 50) ok dX12_isAway_57 (by decide) ?_
          refine w_icmp_lt (tgt := 66) ok dX12_isAway_59 (by decide) (fun c5 => ?_) (fun c5 => ?_)
          · skip
            refine w_iconst (v := 0) ok dX12_isAway_66 (by decide) ?_
            exact w_zret ok fin dX12_isAway_67 rfl (by decide) (by unfold F_X12_isAway FI_X12_isAway; simp only [if_pos c1]; simp only [if_neg c2]; simp only [if_pos c3]; simp only [if_pos c4]; simp only [if_pos c5]; exact Pd.i)
          · skip
            refine w_iconst (v := 1) ok dX12_isAway_62 (by decide) ?_
            refine w_goto (tgt := 67) ok dX12_isAway_63 (by decide) ?_
            exact w_zret ok fin dX12_isAway_67 rfl (by decide) (by unfold F_X12_isAway FI_X12_isAway; simp only [if_pos c1]; simp only [if_neg c2]; simp only [if_pos c3]; simp only [if_pos c4]; simp only [if_neg c5]; exact Pd.i)
        · skip
          refine w_iload_n ok dX12_isAway_46 0 rfl ?_
          refine w_if_eq (tgt := 56) ok dX12_isAway_47 (by decide) (fun c6 => ?_) (fun c6 => ?_)
          · skip
            refine w_iload_n ok dX12_isAway_56 0 rfl ?_
            refine w_bipush (v := 50) ok dX12_isAway_57 (by decide) ?_
            refine w_icmp_lt (tgt := 66) ok dX12_isAway_59 (by decide) (fun c7 => ?_) (fun c7 => ?_)
            · skip
              refine w_iconst (v := 0) ok dX12_isAway_66 (by decide) ?_
              exact w_zret ok fin dX12_isAway_67 rfl (by decide) (by unfold F_X12_isAway FI_X12_isAway; simp only [if_pos c1]; simp only [if_neg c2]; simp only [if_pos c3]; simp only [if_neg c4]; simp only [if_pos c6]; simp only [if_pos c7]; exact Pd.i)
            · skip
              refine w_iconst (v := 1) ok dX12_isAway_62 (by decide) ?_
              refine w_goto (tgt := 67) ok dX12_isAway_63 (by decide) ?_
              exact w_zret ok fin dX12_isAway_67 rfl (by decide) (by unfold F_X12_isAway FI_X12_isAway; simp only [if_pos c1]; simp only [if_neg c2]; simp only [if_pos c3]; simp only [if_neg c4]; simp only [if_pos c6]; simp only [if_neg c7]; exact Pd.i)
          · skip
            refine w_iload_n ok dX12_isAway_50 0 rfl ?_
            refine w_bipush (v := 100) ok dX12_isAway_51 (by decide) ?_
            refine w_icmp_ne (tgt := 68) ok dX12_isAway_53 (by decide) (fun c8 => ?_) (fun c8 => ?_)
            · skip
              refine w_aload_n ok dX12_isAway_68 1 rfl ?_
              refine w_getR ok dX12_isAway_69 (fX12_87 rfl) (congrArg Prod.fst s_130) rfl (r_130_40 ro) (ltM hnn (by decide)) ?_
              refine w_iload_n ok dX12_isAway_72 2 rfl ?_
              refine w_aload_n ok dX12_isAway_73 1 rfl ?_
              refine w_getR ok dX12_isAway_74 (fX12_87 rfl) (congrArg Prod.fst s_130) rfl (r_130_40 ro) (ltM hnn (by decide)) ?_
              refine w_iload_n ok dX12_isAway_77 2 rfl ?_
              refine y_iald (q := a0.toNatClampNeg) ok dX12_isAway_78 s_155 (hp3 c1 c2 c3 c4 c6 c8) (by decide) (ltM hnn (by decide)) (sdm hf (by decide)) ?_
              refine w_ldcw ok dX12_isAway_79 kX12_400 ?_
              refine w_imul ok dX12_isAway_82 ?_
              refine w_sipush (v := 12345) ok dX12_isAway_83 (by decide) ?_
              refine w_iadd ok dX12_isAway_86 ?_
              refine w_ldcw ok dX12_isAway_87 kX12_403 ?_
              refine w_iand ok dX12_isAway_90 ?_
              refine y_iast (q := a0.toNatClampNeg) ok dX12_isAway_91 s_155 (hp3 c1 c2 c3 c4 c6 c8) (by decide) (ltM hnn (by decide)) (sdm hf (by decide)) ?_
              show WK K 0 0 92 [(3, .int (I 132 6)), (0, .ref 130), (1, .int a0), (2, .int a1)] [] (eI f (S1_X12_isAway a0 a1 I J)) (eJ f J) R n g
              refine w_aload_n ok dX12_isAway_92 1 rfl ?_
              refine w_getR ok dX12_isAway_93 (fX12_87 rfl) (congrArg Prod.fst s_130) rfl (r_130_40 ro) (ltM hnn (by decide)) ?_
              refine w_iload_n ok dX12_isAway_96 2 rfl ?_
              refine y_iald (q := a0.toNatClampNeg) ok dX12_isAway_97 s_155 (hp3 c1 c2 c3 c4 c6 c8) (by decide) (ltM hnn (by decide)) (sdm hf (by decide)) ?_
              refine w_bipush (v := 16) ok dX12_isAway_98 (by decide) ?_
              refine w_ishr ok dX12_isAway_100 ?_
              refine w_bipush (v := 100) ok dX12_isAway_101 (by decide) ?_
              refine w_irem ok dX12_isAway_103 (by decide) ?_
              show WK K 0 0 104 [(3, .int (I 132 6)), (0, .ref 130), (1, .int a0), (2, .int a1)] [.int (S2_X12_isAway a0 a1 I J)] (eI f (S1_X12_isAway a0 a1 I J)) (eJ f J) R n g
              refine w_iload_n ok dX12_isAway_104 0 rfl ?_
              refine w_icmp_ge (tgt := 112) ok dX12_isAway_105 (by decide) (fun c9 => ?_) (fun c9 => ?_)
              · skip
                refine w_iconst (v := 0) ok dX12_isAway_112 (by decide) ?_
                exact w_zret ok fin dX12_isAway_113 rfl (by decide) (by unfold F_X12_isAway FI_X12_isAway; simp only [if_pos c1]; simp only [if_neg c2]; simp only [if_pos c3]; simp only [if_neg c4]; simp only [if_neg c6]; simp only [if_neg c8]; simp only [if_pos c9]; exact Pd.i)
              · skip
                refine w_iconst (v := 1) ok dX12_isAway_108 (by decide) ?_
                refine w_goto (tgt := 113) ok dX12_isAway_109 (by decide) ?_
                exact w_zret ok fin dX12_isAway_113 rfl (by decide) (by unfold F_X12_isAway FI_X12_isAway; simp only [if_pos c1]; simp only [if_neg c2]; simp only [if_pos c3]; simp only [if_neg c4]; simp only [if_neg c6]; simp only [if_neg c8]; simp only [if_neg c9]; exact Pd.i)
            · skip
              refine w_iload_n ok dX12_isAway_56 0 rfl ?_
              refine w_bipush (v := 50) ok dX12_isAway_57 (by decide) ?_
              refine w_icmp_lt (tgt := 66) ok dX12_isAway_59 (by decide) (fun c10 => ?_) (fun c10 => ?_)
              · skip
                refine w_iconst (v := 0) ok dX12_isAway_66 (by decide) ?_
                exact w_zret ok fin dX12_isAway_67 rfl (by decide) (by unfold F_X12_isAway FI_X12_isAway; simp only [if_pos c1]; simp only [if_neg c2]; simp only [if_pos c3]; simp only [if_neg c4]; simp only [if_neg c6]; simp only [if_pos c8]; simp only [if_pos c10]; exact Pd.i)
              · skip
                refine w_iconst (v := 1) ok dX12_isAway_62 (by decide) ?_
                refine w_goto (tgt := 67) ok dX12_isAway_63 (by decide) ?_
                exact w_zret ok fin dX12_isAway_67 rfl (by decide) (by unfold F_X12_isAway FI_X12_isAway; simp only [if_pos c1]; simp only [if_neg c2]; simp only [if_pos c3]; simp only [if_neg c4]; simp only [if_neg c6]; simp only [if_pos c8]; simp only [if_neg c10]; exact Pd.i)
      · skip
        refine w_iconst (v := 1) ok dX12_isAway_32 (by decide) ?_
        exact w_zret ok fin dX12_isAway_33 rfl (by decide) (by unfold F_X12_isAway FI_X12_isAway; simp only [if_pos c1]; simp only [if_neg c2]; simp only [if_neg c3]; exact Pd.i)
    · skip
      refine w_iconst (v := 0) ok dX12_isAway_17 (by decide) ?_
      exact w_zret ok fin dX12_isAway_18 rfl (by decide) (by unfold F_X12_isAway FI_X12_isAway; simp only [if_pos c1]; simp only [if_pos c2]; exact Pd.i)
  · skip
    refine w_iconst (v := 1) ok dX12_isAway_7 (by decide) ?_
    exact w_zret ok fin dX12_isAway_8 rfl (by decide) (by unfold F_X12_isAway FI_X12_isAway; simp only [if_neg c1]; exact Pd.i)
def S1_X12_films (a0 : Int32) (a1 : Int32) (a2 : Int32) (I : SI) (J : SJ) (s15 : Int32 × SI × SJ) : SJ := FJ_X12_callsMark a0 s15.1 0 a1 (s15.2.1 137 a1.toNatClampNeg) s15.2.1 s15.2.2
def T_X12_films_j145 (a0 : Int32) (a1 : Int32) (a2 : Int32) (I : SI) (J : SJ) (s15 : Int32 × SI × SJ) : Int32 := if (F_X12_strikeOf s15.1 s15.2.1 (S1_X12_films a0 a1 a2 I J s15)) < 50 then 0 else 1
def S2_X12_films (a0 : Int32) (a1 : Int32) (a2 : Int32) (I : SI) (J : SJ) (s15 : Int32 × SI × SJ) : SI := FI_X12_isSo 0 (T_X12_films_j145 a0 a1 a2 I J s15) s15.2.1 (S1_X12_films a0 a1 a2 I J s15)
def S3_X12_films (a0 : Int32) (a1 : Int32) (a2 : Int32) (I : SI) (J : SJ) (s15 : Int32 × SI × SJ) : SJ := FJ_X12_isSo 0 (T_X12_films_j145 a0 a1 a2 I J s15) s15.2.1 (S1_X12_films a0 a1 a2 I J s15)
def S4_X12_films (a0 : Int32) (a1 : Int32) (a2 : Int32) (I : SI) (J : SJ) (s15 : Int32 × SI × SJ) : Int32 := (S2_X12_films a0 a1 a2 I J s15) 165 ((((48 : Int32) * a0) + ((6 : Int32) * a1)) + s15.1).toNatClampNeg
def S5_X12_films (a0 : Int32) (a1 : Int32) (a2 : Int32) (I : SI) (J : SJ) (s15 : Int32 × SI × SJ) : SI := u2 (S2_X12_films a0 a1 a2 I J s15) 160 (((6 : Int32) * a0) + s15.1).toNatClampNeg (S4_X12_films a0 a1 a2 I J s15)
def S6_X12_films (a0 : Int32) (a1 : Int32) (a2 : Int32) (I : SI) (J : SJ) (s15 : Int32 × SI × SJ) : SI := u2 s15.2.1 165 ((((48 : Int32) * a0) + ((6 : Int32) * a1)) + s15.1).toNatClampNeg (s15.2.1 160 (((6 : Int32) * a0) + s15.1).toNatClampNeg)
def S7_X12_films (a0 : Int32) (a1 : Int32) (a2 : Int32) (I : SI) (J : SJ) (s15 : Int32 × SI × SJ) : SI := u2 (S6_X12_films a0 a1 a2 I J s15) 157 a0.toNatClampNeg (((S6_X12_films a0 a1 a2 I J s15) 157 a0.toNatClampNeg) + 1)
def B_X12_films_w15 (a0 : Int32) (a1 : Int32) (a2 : Int32) (I : SI) (J : SJ) (s15 : Int32 × SI × SJ) : (Int32 × SI × SJ) ⊕ (Int32 × SI × SJ) := if (s15.2.1 132 0) ≤ s15.1 then .inr (s15.1, s15.2.1, s15.2.2) else (if a2 = 0 then (if (s15.2.1 165 ((((48 : Int32) * a0) + ((6 : Int32) * a1)) + s15.1).toNatClampNeg) = (-1) then .inl ((s15.1 + 1), s15.2.1, s15.2.2) else (if (s15.2.1 160 (((6 : Int32) * a0) + s15.1).toNatClampNeg) = (s15.2.1 165 ((((48 : Int32) * a0) + ((6 : Int32) * a1)) + s15.1).toNatClampNeg) then .inl ((s15.1 + 1), s15.2.1, s15.2.2) else (if (s15.2.1 160 (((6 : Int32) * a0) + s15.1).toNatClampNeg) = (-1) then (if (F_X12_isSo 0 (T_X12_films_j145 a0 a1 a2 I J s15) s15.2.1 (S1_X12_films a0 a1 a2 I J s15)) = 0 then .inl ((s15.1 + 1), (S2_X12_films a0 a1 a2 I J s15), (S3_X12_films a0 a1 a2 I J s15)) else .inl ((s15.1 + 1), (S5_X12_films a0 a1 a2 I J s15), (S3_X12_films a0 a1 a2 I J s15))) else .inl ((s15.1 + 1), (S7_X12_films a0 a1 a2 I J s15), s15.2.2)))) else .inr (s15.1, s15.2.1, s15.2.2))
def F_X12_films_w15 (a0 : Int32) (a1 : Int32) (a2 : Int32) (I : SI) (J : SJ) (s0 : Int32 × SI × SJ) : Int32 × SI × SJ := (itW (B_X12_films_w15 a0 a1 a2 I J) 800 s0).getD s0
def FI_X12_films (a0 : Int32) (a1 : Int32) (a2 : Int32) (I : SI) (J : SJ) : SI := (F_X12_films_w15 a0 a1 a2 I J (0, (u2 I 163 (((8 : Int32) * a0) + a1).toNatClampNeg 1), J)).2.1
def FJ_X12_films (a0 : Int32) (a1 : Int32) (a2 : Int32) (I : SI) (J : SJ) : SJ := (F_X12_films_w15 a0 a1 a2 I J (0, (u2 I 163 (((8 : Int32) * a0) + a1).toNatClampNeg 1), J)).2.2
def H_X12_films (a0 : Int32) (a1 : Int32) (a2 : Int32) (I : SI) (J : SJ) : Prop := (inR (((8 : Int32) * a0) + a1) 184) ∧ ((itW (B_X12_films_w15 a0 a1 a2 I J) 800 (0, (u2 I 163 (((8 : Int32) * a0) + a1).toNatClampNeg 1), J)).isSome = true) ∧ (∀ (n15 : Nat) (s15 : Int32 × SI × SJ), wN (B_X12_films_w15 a0 a1 a2 I J) n15 (0, (u2 I 163 (((8 : Int32) * a0) + a1).toNatClampNeg 1), J) = some s15 → ¬ ((s15.2.1 132 0) ≤ s15.1) → a2 = 0 → inR (((6 : Int32) * a0) + s15.1) 138) ∧ (∀ (n15 : Nat) (s15 : Int32 × SI × SJ), wN (B_X12_films_w15 a0 a1 a2 I J) n15 (0, (u2 I 163 (((8 : Int32) * a0) + a1).toNatClampNeg 1), J) = some s15 → ¬ ((s15.2.1 132 0) ≤ s15.1) → a2 = 0 → inR ((((48 : Int32) * a0) + ((6 : Int32) * a1)) + s15.1) 1104) ∧ (∀ (n15 : Nat) (s15 : Int32 × SI × SJ), wN (B_X12_films_w15 a0 a1 a2 I J) n15 (0, (u2 I 163 (((8 : Int32) * a0) + a1).toNatClampNeg 1), J) = some s15 → ¬ ((s15.2.1 132 0) ≤ s15.1) → a2 = 0 → ¬ ((s15.2.1 165 ((((48 : Int32) * a0) + ((6 : Int32) * a1)) + s15.1).toNatClampNeg) = (-1)) → inR ((((48 : Int32) * a0) + ((6 : Int32) * a1)) + s15.1) 1104) ∧ (∀ (n15 : Nat) (s15 : Int32 × SI × SJ), wN (B_X12_films_w15 a0 a1 a2 I J) n15 (0, (u2 I 163 (((8 : Int32) * a0) + a1).toNatClampNeg 1), J) = some s15 → ¬ ((s15.2.1 132 0) ≤ s15.1) → a2 = 0 → ¬ ((s15.2.1 165 ((((48 : Int32) * a0) + ((6 : Int32) * a1)) + s15.1).toNatClampNeg) = (-1)) → ¬ ((s15.2.1 160 (((6 : Int32) * a0) + s15.1).toNatClampNeg) = (s15.2.1 165 ((((48 : Int32) * a0) + ((6 : Int32) * a1)) + s15.1).toNatClampNeg)) → (s15.2.1 160 (((6 : Int32) * a0) + s15.1).toNatClampNeg) = (-1) → inR a1 16) ∧ (∀ (n15 : Nat) (s15 : Int32 × SI × SJ), wN (B_X12_films_w15 a0 a1 a2 I J) n15 (0, (u2 I 163 (((8 : Int32) * a0) + a1).toNatClampNeg 1), J) = some s15 → ¬ ((s15.2.1 132 0) ≤ s15.1) → a2 = 0 → ¬ ((s15.2.1 165 ((((48 : Int32) * a0) + ((6 : Int32) * a1)) + s15.1).toNatClampNeg) = (-1)) → ¬ ((s15.2.1 160 (((6 : Int32) * a0) + s15.1).toNatClampNeg) = (s15.2.1 165 ((((48 : Int32) * a0) + ((6 : Int32) * a1)) + s15.1).toNatClampNeg)) → (s15.2.1 160 (((6 : Int32) * a0) + s15.1).toNatClampNeg) = (-1) → H_X12_callsMark a0 s15.1 0 a1 (s15.2.1 137 a1.toNatClampNeg) s15.2.1 s15.2.2) ∧ (∀ (n15 : Nat) (s15 : Int32 × SI × SJ), wN (B_X12_films_w15 a0 a1 a2 I J) n15 (0, (u2 I 163 (((8 : Int32) * a0) + a1).toNatClampNeg 1), J) = some s15 → ¬ ((s15.2.1 132 0) ≤ s15.1) → a2 = 0 → ¬ ((s15.2.1 165 ((((48 : Int32) * a0) + ((6 : Int32) * a1)) + s15.1).toNatClampNeg) = (-1)) → ¬ ((s15.2.1 160 (((6 : Int32) * a0) + s15.1).toNatClampNeg) = (s15.2.1 165 ((((48 : Int32) * a0) + ((6 : Int32) * a1)) + s15.1).toNatClampNeg)) → (s15.2.1 160 (((6 : Int32) * a0) + s15.1).toNatClampNeg) = (-1) → H_X12_strikeOf s15.1 s15.2.1 (S1_X12_films a0 a1 a2 I J s15)) ∧ (∀ (n15 : Nat) (s15 : Int32 × SI × SJ), wN (B_X12_films_w15 a0 a1 a2 I J) n15 (0, (u2 I 163 (((8 : Int32) * a0) + a1).toNatClampNeg 1), J) = some s15 → ¬ ((s15.2.1 132 0) ≤ s15.1) → a2 = 0 → ¬ ((s15.2.1 165 ((((48 : Int32) * a0) + ((6 : Int32) * a1)) + s15.1).toNatClampNeg) = (-1)) → ¬ ((s15.2.1 160 (((6 : Int32) * a0) + s15.1).toNatClampNeg) = (s15.2.1 165 ((((48 : Int32) * a0) + ((6 : Int32) * a1)) + s15.1).toNatClampNeg)) → (s15.2.1 160 (((6 : Int32) * a0) + s15.1).toNatClampNeg) = (-1) → H_X12_isSo 0 (T_X12_films_j145 a0 a1 a2 I J s15) s15.2.1 (S1_X12_films a0 a1 a2 I J s15)) ∧ (∀ (n15 : Nat) (s15 : Int32 × SI × SJ), wN (B_X12_films_w15 a0 a1 a2 I J) n15 (0, (u2 I 163 (((8 : Int32) * a0) + a1).toNatClampNeg 1), J) = some s15 → ¬ ((s15.2.1 132 0) ≤ s15.1) → a2 = 0 → ¬ ((s15.2.1 165 ((((48 : Int32) * a0) + ((6 : Int32) * a1)) + s15.1).toNatClampNeg) = (-1)) → ¬ ((s15.2.1 160 (((6 : Int32) * a0) + s15.1).toNatClampNeg) = (s15.2.1 165 ((((48 : Int32) * a0) + ((6 : Int32) * a1)) + s15.1).toNatClampNeg)) → (s15.2.1 160 (((6 : Int32) * a0) + s15.1).toNatClampNeg) = (-1) → ¬ ((F_X12_isSo 0 (T_X12_films_j145 a0 a1 a2 I J s15) s15.2.1 (S1_X12_films a0 a1 a2 I J s15)) = 0) → inR ((((48 : Int32) * a0) + ((6 : Int32) * a1)) + s15.1) 1104) ∧ (∀ (n15 : Nat) (s15 : Int32 × SI × SJ), wN (B_X12_films_w15 a0 a1 a2 I J) n15 (0, (u2 I 163 (((8 : Int32) * a0) + a1).toNatClampNeg 1), J) = some s15 → ¬ ((s15.2.1 132 0) ≤ s15.1) → a2 = 0 → ¬ ((s15.2.1 165 ((((48 : Int32) * a0) + ((6 : Int32) * a1)) + s15.1).toNatClampNeg) = (-1)) → ¬ ((s15.2.1 160 (((6 : Int32) * a0) + s15.1).toNatClampNeg) = (s15.2.1 165 ((((48 : Int32) * a0) + ((6 : Int32) * a1)) + s15.1).toNatClampNeg)) → (s15.2.1 160 (((6 : Int32) * a0) + s15.1).toNatClampNeg) = (-1) → ¬ ((F_X12_isSo 0 (T_X12_films_j145 a0 a1 a2 I J s15) s15.2.1 (S1_X12_films a0 a1 a2 I J s15)) = 0) → inR (((6 : Int32) * a0) + s15.1) 138) ∧ (∀ (n15 : Nat) (s15 : Int32 × SI × SJ), wN (B_X12_films_w15 a0 a1 a2 I J) n15 (0, (u2 I 163 (((8 : Int32) * a0) + a1).toNatClampNeg 1), J) = some s15 → ¬ ((s15.2.1 132 0) ≤ s15.1) → a2 = 0 → ¬ ((s15.2.1 165 ((((48 : Int32) * a0) + ((6 : Int32) * a1)) + s15.1).toNatClampNeg) = (-1)) → ¬ ((s15.2.1 160 (((6 : Int32) * a0) + s15.1).toNatClampNeg) = (s15.2.1 165 ((((48 : Int32) * a0) + ((6 : Int32) * a1)) + s15.1).toNatClampNeg)) → ¬ ((s15.2.1 160 (((6 : Int32) * a0) + s15.1).toNatClampNeg) = (-1)) → inR ((((48 : Int32) * a0) + ((6 : Int32) * a1)) + s15.1) 1104) ∧ (∀ (n15 : Nat) (s15 : Int32 × SI × SJ), wN (B_X12_films_w15 a0 a1 a2 I J) n15 (0, (u2 I 163 (((8 : Int32) * a0) + a1).toNatClampNeg 1), J) = some s15 → ¬ ((s15.2.1 132 0) ≤ s15.1) → a2 = 0 → ¬ ((s15.2.1 165 ((((48 : Int32) * a0) + ((6 : Int32) * a1)) + s15.1).toNatClampNeg) = (-1)) → ¬ ((s15.2.1 160 (((6 : Int32) * a0) + s15.1).toNatClampNeg) = (s15.2.1 165 ((((48 : Int32) * a0) + ((6 : Int32) * a1)) + s15.1).toNatClampNeg)) → ¬ ((s15.2.1 160 (((6 : Int32) * a0) + s15.1).toNatClampNeg) = (-1)) → inR a0 23)
set_option maxHeartbeats 1880000 in
set_option maxRecDepth 40000 in
theorem c_X12_films {I : SI} {J : SJ} {R : SR} {n g : Nat} {f : Fr} (ro : RM R) (hnn : nM ≤ n) (hf : f.1 = false) (a0 : Int32) (a1 : Int32) (a2 : Int32)  (hp : H_X12_films a0 a1 a2 I J) : MM 4 0 0 mX12_films [.ref 130, .int a0, .int a1, .int a2] (eI f I) (eJ f J) R n g (Pd none (eI f (FI_X12_films a0 a1 a2 I J)) (eJ f (FJ_X12_films a0 a1 a2 I J)) R n g) := by
  refine MM.of (by decide) (Nat.le_of_ble_eq_true rfl) fun K ok fin => ?_
  show WK K 0 0 0 [(0, .ref 130), (1, .int a0), (2, .int a1), (3, .int a2)] [] (eI f I) (eJ f J) R n g
  obtain ⟨hp1, hp2, hp3, hp4, hp5, hp6, hp7, hp8, hp9, hp10, hp11, hp12, hp13⟩ := hp
  refine w_aload_n ok dX12_films_0 0 rfl ?_
  refine w_getR ok dX12_films_1 (fX12_111 rfl) (congrArg Prod.fst s_130) rfl (r_130_48 ro) (ltM hnn (by decide)) ?_
  refine w_bipush (v := 8) ok dX12_films_4 (by decide) ?_
  refine w_iload_n ok dX12_films_6 1 rfl ?_
  refine w_imul ok dX12_films_7 ?_
  refine w_iload_n ok dX12_films_8 2 rfl ?_
  refine w_iadd ok dX12_films_9 ?_
  refine w_iconst (v := 1) ok dX12_films_10 (by decide) ?_
  refine y_iast (q := (((8 : Int32) * a0) + a1).toNatClampNeg) ok dX12_films_11 s_163 (hp1) (by decide) (ltM hnn (by decide)) (sdm hf (by decide)) ?_
  refine w_iconst (v := 0) ok dX12_films_12 (by decide) ?_
  refine w_istore ok dX12_films_13 (by decide) rfl ?_
  refine w_loc [1, 2, 3, 4, 0] rfl ?_
  refine loop_w (fun (s15 : Int32 × SI × SJ) => WK K 0 0 15 [(0, .ref 130), (1, .int a0), (2, .int a1), (3, .int a2), (4, .int s15.1)] [] (eI f s15.2.1) (eJ f s15.2.2) R n g) (fun (s15 : Int32 × SI × SJ) => WK K 0 0 176 [(0, .ref 130), (1, .int a0), (2, .int a1), (3, .int a2), (4, .int s15.1)] [] (eI f s15.2.1) (eJ f s15.2.2) R n g) (B_X12_films_w15 a0 a1 a2 I J) 800 (0, (u2 I 163 (((8 : Int32) * a0) + a1).toNatClampNeg 1), J) (F_X12_films_w15 a0 a1 a2 I J (0, (u2 I 163 (((8 : Int32) * a0) + a1).toNatClampNeg 1), J)) (itW_some (hp2)) ?_ ?_
  · show WK K 0 0 176 [(0, .ref 130), (1, .int a0), (2, .int a1), (3, .int a2), (4, .int ((F_X12_films_w15 a0 a1 a2 I J (0, (u2 I 163 (((8 : Int32) * a0) + a1).toNatClampNeg 1), J)).1))] [] (eI f ((F_X12_films_w15 a0 a1 a2 I J (0, (u2 I 163 (((8 : Int32) * a0) + a1).toNatClampNeg 1), J)).2.1)) (eJ f ((F_X12_films_w15 a0 a1 a2 I J (0, (u2 I 163 (((8 : Int32) * a0) + a1).toNatClampNeg 1), J)).2.2)) R n g
    exact w_vret ok fin dX12_films_176 rfl (by unfold FI_X12_films FJ_X12_films; exact Pd.i)
  · intro n15 s15 hs15 kc15 kx15
    show WK K 0 0 15 [(0, .ref 130), (1, .int a0), (2, .int a1), (3, .int a2), (4, .int s15.1)] [] (eI f s15.2.1) (eJ f s15.2.2) R n g
    refine w_iload ok dX12_films_15 4 rfl ?_
    refine w_aload_n ok dX12_films_17 0 rfl ?_
    refine w_getR ok dX12_films_18 (fX12_13 rfl) (congrArg Prod.fst s_130) rfl (r_130_3 ro) (ltM hnn (by decide)) ?_
    refine w_iconst (v := 0) ok dX12_films_21 (by decide) ?_
    refine y_iald (q := 0) ok dX12_films_22 s_132 (by decide) (by decide) (ltM hnn (by decide)) (sdm hf (by decide)) ?_
    refine w_icmp_ge (tgt := 176) ok dX12_films_23 (by decide) (fun c1 => ?_) (fun c1 => ?_)
    · skip
      have eB : B_X12_films_w15 a0 a1 a2 I J s15 = .inr (s15.1, s15.2.1, s15.2.2) := by
        unfold B_X12_films_w15; exact (if_pos c1).trans (rfl)
      refine w_loc [0, 1, 2, 3, 4] rfl ?_
      have kk := kx15 _ eB
      exact kk
    · skip
      refine w_iload_n ok dX12_films_26 3 rfl ?_
      refine w_if_ne (tgt := 176) ok dX12_films_27 (by decide) (fun c2 => ?_) (fun c2 => ?_)
      · skip
        have eB : B_X12_films_w15 a0 a1 a2 I J s15 = .inr (s15.1, s15.2.1, s15.2.2) := by
          unfold B_X12_films_w15; exact (if_neg c1).trans ((if_neg c2).trans (rfl))
        refine w_loc [0, 1, 2, 3, 4] rfl ?_
        have kk := kx15 _ eB
        exact kk
      · skip
        refine w_bipush (v := 48) ok dX12_films_30 (by decide) ?_
        refine w_iload_n ok dX12_films_32 1 rfl ?_
        refine w_imul ok dX12_films_33 ?_
        refine w_bipush (v := 6) ok dX12_films_34 (by decide) ?_
        refine w_iload_n ok dX12_films_36 2 rfl ?_
        refine w_imul ok dX12_films_37 ?_
        refine w_iadd ok dX12_films_38 ?_
        refine w_iload ok dX12_films_39 4 rfl ?_
        refine w_iadd ok dX12_films_41 ?_
        refine w_istore ok dX12_films_42 (by decide) rfl ?_
        refine w_aload_n ok dX12_films_44 1 rfl ?_
        refine w_getR ok dX12_films_45 (fX12_102 rfl) (congrArg Prod.fst s_130) rfl (r_130_45 ro) (ltM hnn (by decide)) ?_
        refine w_bipush (v := 6) ok dX12_films_48 (by decide) ?_
        refine w_iload_n ok dX12_films_50 2 rfl ?_
        refine w_imul ok dX12_films_51 ?_
        refine w_iload ok dX12_films_52 5 rfl ?_
        refine w_iadd ok dX12_films_54 ?_
        refine y_iald (q := (((6 : Int32) * a0) + s15.1).toNatClampNeg) ok dX12_films_55 s_160 (hp3 n15 s15 hs15 c1 c2) (by decide) (ltM hnn (by decide)) (sdm hf (by decide)) ?_
        refine w_istore ok dX12_films_56 (by decide) rfl ?_
        refine w_aload_n ok dX12_films_58 2 rfl ?_
        refine w_getR ok dX12_films_59 (fX12_117 rfl) (congrArg Prod.fst s_130) rfl (r_130_50 ro) (ltM hnn (by decide)) ?_
        refine w_iload ok dX12_films_62 1 rfl ?_
        refine y_iald (q := ((((48 : Int32) * a0) + ((6 : Int32) * a1)) + s15.1).toNatClampNeg) ok dX12_films_64 s_165 (hp4 n15 s15 hs15 c1 c2) (by decide) (ltM hnn (by decide)) (sdm hf (by decide)) ?_
        refine w_iconst (v := (-1)) ok dX12_films_65 (by decide) ?_
        refine w_icmp_eq (tgt := 170) ok dX12_films_66 (by decide) (fun c3 => ?_) (fun c3 => ?_)
        · skip
          refine w_iinc (v := s15.1 + 1) ok dX12_films_170 6 rfl rfl (by decide) rfl ?_
          refine w_goto (tgt := 15) ok dX12_films_173 (by decide) ?_
          have eB : B_X12_films_w15 a0 a1 a2 I J s15 = .inl ((s15.1 + 1), s15.2.1, s15.2.2) := by
            unfold B_X12_films_w15; exact (if_neg c1).trans ((if_pos c2).trans ((if_pos c3).trans (rfl)))
          refine w_loc [3, 4, 5, 6, 0] rfl ?_
          have kk := kc15 _ eB
          exact kk
        · skip
          refine w_iload ok dX12_films_69 0 rfl ?_
          refine w_aload_n ok dX12_films_71 2 rfl ?_
          refine w_getR ok dX12_films_72 (fX12_117 rfl) (congrArg Prod.fst s_130) rfl (r_130_50 ro) (ltM hnn (by decide)) ?_
          refine w_iload ok dX12_films_75 1 rfl ?_
          refine y_iald (q := ((((48 : Int32) * a0) + ((6 : Int32) * a1)) + s15.1).toNatClampNeg) ok dX12_films_77 s_165 (hp5 n15 s15 hs15 c1 c2 c3) (by decide) (ltM hnn (by decide)) (sdm hf (by decide)) ?_
          refine w_icmp_ne (tgt := 84) ok dX12_films_78 (by decide) (fun c4 => ?_) (fun c4 => ?_)
          · skip
            refine w_iload ok dX12_films_84 0 rfl ?_
            refine w_iconst (v := (-1)) ok dX12_films_86 (by decide) ?_
            refine w_icmp_eq (tgt := 112) ok dX12_films_87 (by decide) (fun c5 => ?_) (fun c5 => ?_)
            · skip
              refine w_aload_n ok dX12_films_112 2 rfl ?_
              refine w_iload_n ok dX12_films_113 3 rfl ?_
              refine w_iload ok dX12_films_114 6 rfl ?_
              refine w_iconst (v := 0) ok dX12_films_116 (by decide) ?_
              refine w_iload_n ok dX12_films_117 4 rfl ?_
              refine w_aload_n ok dX12_films_118 2 rfl ?_
              refine w_getR ok dX12_films_119 (fX12_28 rfl) (congrArg Prod.fst s_130) rfl (r_130_8 ro) (ltM hnn (by decide)) ?_
              refine w_iload_n ok dX12_films_122 4 rfl ?_
              refine y_iald (q := a1.toNatClampNeg) ok dX12_films_123 s_137 (hp6 n15 s15 hs15 c1 c2 c3 c4 c5) (by decide) (ltM hnn (by decide)) (sdm hf (by decide)) ?_
              refine w_cV (As := [.int a0, .int s15.1, .int 0, .int a1, .int (s15.2.1 137 a1.toNatClampNeg)]) ok dX12_films_124 iX12_callsMark (lX12_404 rfl) (rcv cls12 (congrArg Prod.fst s_130)) (ltM hnn (by decide)) (c_X12_callsMark ro hnn hf a0 s15.1 0 a1 (s15.2.1 137 a1.toNatClampNeg)  (hp7 n15 s15 hs15 c1 c2 c3 c4 c5)) (by decide) rfl (Nat.le_of_ble_eq_true rfl) ?_
              show WK K 0 0 127 [(6, .int (s15.2.1 160 (((6 : Int32) * a0) + s15.1).toNatClampNeg)), (5, .int ((((48 : Int32) * a0) + ((6 : Int32) * a1)) + s15.1)), (0, .ref 130), (1, .int a0), (2, .int a1), (3, .int a2), (4, .int s15.1)] [] (eI f s15.2.1) (eJ f (S1_X12_films a0 a1 a2 I J s15)) R n g
              refine w_aload_n ok dX12_films_127 2 rfl ?_
              refine w_iconst (v := 0) ok dX12_films_128 (by decide) ?_
              refine w_aload_n ok dX12_films_129 2 rfl ?_
              refine w_iload ok dX12_films_130 6 rfl ?_
              refine w_cV (As := [.int s15.1]) ok dX12_films_132 iX12_strikeOf (lX12_375 rfl) (rcv cls12 (congrArg Prod.fst s_130)) (ltM hnn (by decide)) (c_X12_strikeOf ro hnn hf s15.1  (hp8 n15 s15 hs15 c1 c2 c3 c4 c5)) (by decide) rfl (Nat.le_of_ble_eq_true rfl) ?_
              show WK K 0 0 135 [(6, .int (s15.2.1 160 (((6 : Int32) * a0) + s15.1).toNatClampNeg)), (5, .int ((((48 : Int32) * a0) + ((6 : Int32) * a1)) + s15.1)), (0, .ref 130), (1, .int a0), (2, .int a1), (3, .int a2), (4, .int s15.1)] [.int (F_X12_strikeOf s15.1 s15.2.1 (S1_X12_films a0 a1 a2 I J s15)), .int 0, .ref 130] (eI f s15.2.1) (eJ f (S1_X12_films a0 a1 a2 I J s15)) R n g
              refine w_bipush (v := 50) ok dX12_films_135 (by decide) ?_
              have jn6 : WK K 0 0 145 [(0, .ref 130), (1, .int a0), (2, .int a1), (3, .int a2), (4, .int s15.1), (5, .int ((((48 : Int32) * a0) + ((6 : Int32) * a1)) + s15.1)), (6, .int (s15.2.1 160 (((6 : Int32) * a0) + s15.1).toNatClampNeg))] [.int (T_X12_films_j145 a0 a1 a2 I J s15), .int 0, .ref 130] (eI f s15.2.1) (eJ f (S1_X12_films a0 a1 a2 I J s15)) R n g := by
                refine w_cV (As := [.int 0, .int (T_X12_films_j145 a0 a1 a2 I J s15)]) ok dX12_films_145 iX12_isSo (lX12_408 rfl) (rcv cls12 (congrArg Prod.fst s_130)) (ltM hnn (by decide)) (c_X12_isSo ro hnn hf 0 (T_X12_films_j145 a0 a1 a2 I J s15)  (hp9 n15 s15 hs15 c1 c2 c3 c4 c5)) (by decide) rfl (Nat.le_of_ble_eq_true rfl) ?_
                show WK K 0 0 148 [(0, .ref 130), (1, .int a0), (2, .int a1), (3, .int a2), (4, .int s15.1), (5, .int ((((48 : Int32) * a0) + ((6 : Int32) * a1)) + s15.1)), (6, .int (s15.2.1 160 (((6 : Int32) * a0) + s15.1).toNatClampNeg))] [.int (F_X12_isSo 0 (T_X12_films_j145 a0 a1 a2 I J s15) s15.2.1 (S1_X12_films a0 a1 a2 I J s15))] (eI f (S2_X12_films a0 a1 a2 I J s15)) (eJ f (S3_X12_films a0 a1 a2 I J s15)) R n g
                refine w_if_eq (tgt := 170) ok dX12_films_148 (by decide) (fun c7 => ?_) (fun c7 => ?_)
                · skip
                  refine w_iinc (v := s15.1 + 1) ok dX12_films_170 4 rfl rfl (by decide) rfl ?_
                  refine w_goto (tgt := 15) ok dX12_films_173 (by decide) ?_
                  have eB : B_X12_films_w15 a0 a1 a2 I J s15 = .inl ((s15.1 + 1), (S2_X12_films a0 a1 a2 I J s15), (S3_X12_films a0 a1 a2 I J s15)) := by
                    unfold B_X12_films_w15; exact (if_neg c1).trans ((if_pos c2).trans ((if_neg c3).trans ((if_neg c4).trans ((if_pos c5).trans ((if_pos c7).trans (rfl))))))
                  refine w_loc [1, 2, 3, 4, 0] rfl ?_
                  have kk := kc15 _ eB
                  exact kk
                · skip
                  refine w_aload_n ok dX12_films_151 0 rfl ?_
                  refine w_getR ok dX12_films_152 (fX12_102 rfl) (congrArg Prod.fst s_130) rfl (r_130_45 ro) (ltM hnn (by decide)) ?_
                  refine w_bipush (v := 6) ok dX12_films_155 (by decide) ?_
                  refine w_iload_n ok dX12_films_157 1 rfl ?_
                  refine w_imul ok dX12_films_158 ?_
                  refine w_iload ok dX12_films_159 4 rfl ?_
                  refine w_iadd ok dX12_films_161 ?_
                  refine w_aload_n ok dX12_films_162 0 rfl ?_
                  refine w_getR ok dX12_films_163 (fX12_117 rfl) (congrArg Prod.fst s_130) rfl (r_130_50 ro) (ltM hnn (by decide)) ?_
                  refine w_iload ok dX12_films_166 5 rfl ?_
                  refine y_iald (q := ((((48 : Int32) * a0) + ((6 : Int32) * a1)) + s15.1).toNatClampNeg) ok dX12_films_168 s_165 (hp10 n15 s15 hs15 c1 c2 c3 c4 c5 c7) (by decide) (ltM hnn (by decide)) (sdm hf (by decide)) ?_
                  show WK K 0 0 169 [(0, .ref 130), (1, .int a0), (2, .int a1), (3, .int a2), (4, .int s15.1), (5, .int ((((48 : Int32) * a0) + ((6 : Int32) * a1)) + s15.1)), (6, .int (s15.2.1 160 (((6 : Int32) * a0) + s15.1).toNatClampNeg))] [.int (S4_X12_films a0 a1 a2 I J s15), .int (((6 : Int32) * a0) + s15.1), .ref 160] (eI f (S2_X12_films a0 a1 a2 I J s15)) (eJ f (S3_X12_films a0 a1 a2 I J s15)) R n g
                  refine y_iast (q := (((6 : Int32) * a0) + s15.1).toNatClampNeg) ok dX12_films_169 s_160 (hp11 n15 s15 hs15 c1 c2 c3 c4 c5 c7) (by decide) (ltM hnn (by decide)) (sdm hf (by decide)) ?_
                  show WK K 0 0 170 [(0, .ref 130), (1, .int a0), (2, .int a1), (3, .int a2), (4, .int s15.1), (5, .int ((((48 : Int32) * a0) + ((6 : Int32) * a1)) + s15.1)), (6, .int (s15.2.1 160 (((6 : Int32) * a0) + s15.1).toNatClampNeg))] [] (eI f (S5_X12_films a0 a1 a2 I J s15)) (eJ f (S3_X12_films a0 a1 a2 I J s15)) R n g
                  refine w_iinc (v := s15.1 + 1) ok dX12_films_170 4 rfl rfl (by decide) rfl ?_
                  refine w_goto (tgt := 15) ok dX12_films_173 (by decide) ?_
                  have eB : B_X12_films_w15 a0 a1 a2 I J s15 = .inl ((s15.1 + 1), (S5_X12_films a0 a1 a2 I J s15), (S3_X12_films a0 a1 a2 I J s15)) := by
                    unfold B_X12_films_w15; exact (if_neg c1).trans ((if_pos c2).trans ((if_neg c3).trans ((if_neg c4).trans ((if_pos c5).trans ((if_neg c7).trans (rfl))))))
                  refine w_loc [1, 2, 3, 4, 0] rfl ?_
                  have kk := kc15 _ eB
                  exact kk
              refine w_icmp_lt (tgt := 144) ok dX12_films_137 (by decide) (fun c8 => ?_) (fun c8 => ?_)
              · skip
                refine w_iconst (v := 0) ok dX12_films_144 (by decide) ?_
                have eT : (T_X12_films_j145 a0 a1 a2 I J s15) = 0 := by
                  unfold T_X12_films_j145; exact (if_pos c8).trans (rfl)
                refine w_loc [2, 3, 4, 5, 6, 1, 0] rfl ?_
                have jj := jn6
                rw [eT] at jj
                exact jj
              · skip
                refine w_iconst (v := 1) ok dX12_films_140 (by decide) ?_
                refine w_goto (tgt := 145) ok dX12_films_141 (by decide) ?_
                have eT : (T_X12_films_j145 a0 a1 a2 I J s15) = 1 := by
                  unfold T_X12_films_j145; exact (if_neg c8).trans (rfl)
                refine w_loc [2, 3, 4, 5, 6, 1, 0] rfl ?_
                have jj := jn6
                rw [eT] at jj
                exact jj
            · skip
              refine w_aload_n ok dX12_films_90 2 rfl ?_
              refine w_getR ok dX12_films_91 (fX12_117 rfl) (congrArg Prod.fst s_130) rfl (r_130_50 ro) (ltM hnn (by decide)) ?_
              refine w_iload ok dX12_films_94 1 rfl ?_
              refine w_iload ok dX12_films_96 0 rfl ?_
              refine y_iast (q := ((((48 : Int32) * a0) + ((6 : Int32) * a1)) + s15.1).toNatClampNeg) ok dX12_films_98 s_165 (hp12 n15 s15 hs15 c1 c2 c3 c4 c5) (by decide) (ltM hnn (by decide)) (sdm hf (by decide)) ?_
              show WK K 0 0 99 [(6, .int (s15.2.1 160 (((6 : Int32) * a0) + s15.1).toNatClampNeg)), (5, .int ((((48 : Int32) * a0) + ((6 : Int32) * a1)) + s15.1)), (0, .ref 130), (1, .int a0), (2, .int a1), (3, .int a2), (4, .int s15.1)] [] (eI f (S6_X12_films a0 a1 a2 I J s15)) (eJ f s15.2.2) R n g
              refine w_aload_n ok dX12_films_99 2 rfl ?_
              refine w_getR ok dX12_films_100 (fX12_93 rfl) (congrArg Prod.fst s_130) rfl (r_130_42 ro) (ltM hnn (by decide)) ?_
              refine w_iload_n ok dX12_films_103 3 rfl ?_
              refine w_dup2 ok dX12_films_104 rfl rfl ?_
              refine y_iald (q := a0.toNatClampNeg) ok dX12_films_105 s_157 (hp13 n15 s15 hs15 c1 c2 c3 c4 c5) (by decide) (ltM hnn (by decide)) (sdm hf (by decide)) ?_
              refine w_iconst (v := 1) ok dX12_films_106 (by decide) ?_
              refine w_iadd ok dX12_films_107 ?_
              refine y_iast (q := a0.toNatClampNeg) ok dX12_films_108 s_157 (hp13 n15 s15 hs15 c1 c2 c3 c4 c5) (by decide) (ltM hnn (by decide)) (sdm hf (by decide)) ?_
              show WK K 0 0 109 [(6, .int (s15.2.1 160 (((6 : Int32) * a0) + s15.1).toNatClampNeg)), (5, .int ((((48 : Int32) * a0) + ((6 : Int32) * a1)) + s15.1)), (0, .ref 130), (1, .int a0), (2, .int a1), (3, .int a2), (4, .int s15.1)] [] (eI f (S7_X12_films a0 a1 a2 I J s15)) (eJ f s15.2.2) R n g
              refine w_goto (tgt := 170) ok dX12_films_109 (by decide) ?_
              refine w_iinc (v := s15.1 + 1) ok dX12_films_170 6 rfl rfl (by decide) rfl ?_
              refine w_goto (tgt := 15) ok dX12_films_173 (by decide) ?_
              have eB : B_X12_films_w15 a0 a1 a2 I J s15 = .inl ((s15.1 + 1), (S7_X12_films a0 a1 a2 I J s15), s15.2.2) := by
                unfold B_X12_films_w15; exact (if_neg c1).trans ((if_pos c2).trans ((if_neg c3).trans ((if_neg c4).trans ((if_neg c5).trans (rfl)))))
              refine w_loc [3, 4, 5, 6, 0] rfl ?_
              have kk := kc15 _ eB
              exact kk
          · skip
            refine w_goto (tgt := 170) ok dX12_films_81 (by decide) ?_
            refine w_iinc (v := s15.1 + 1) ok dX12_films_170 6 rfl rfl (by decide) rfl ?_
            refine w_goto (tgt := 15) ok dX12_films_173 (by decide) ?_
            have eB : B_X12_films_w15 a0 a1 a2 I J s15 = .inl ((s15.1 + 1), s15.2.1, s15.2.2) := by
              unfold B_X12_films_w15; exact (if_neg c1).trans ((if_pos c2).trans ((if_neg c3).trans ((if_pos c4).trans (rfl))))
            refine w_loc [3, 4, 5, 6, 0] rfl ?_
            have kk := kc15 _ eB
            exact kk
