def H_X12_feed (a0 : Int32) (a1 : Int32) (a2 : Int32) (a3 : Int32) (a4 : Int32) (I : SI) (J : SJ) : Prop := (((u2 I 130 0 0) 130 2) ≤ 680 → ∀ (i20 : Nat) (s20 : SI), i20 < 20 → s20 = itN (B_X12_feed_l20 a0 a1 a2 a3 a4 I J) i20 (u2 I 130 0 0) → inR ((s20 130 2) + (nI i20)) 700)
set_option maxHeartbeats 1270000 in
set_option maxRecDepth 40000 in
theorem c_X12_feed {I : SI} {J : SJ} {R : SR} {n g : Nat} {f : Fr} (ro : RM R) (hnn : nM ≤ n) (hf : f.1 = false) (a0 : Int32) (a1 : Int32) (a2 : Int32) (a3 : Int32) (a4 : Int32)  (hp : H_X12_feed a0 a1 a2 a3 a4 I J) : MM 0 0 0 mX12_feed [.ref 130, .int a0, .int a1, .int a2, .int a3, .int a4] (eI f I) (eJ f J) R n g (Pd (some (.int (F_X12_feed a0 a1 a2 a3 a4 I J))) (eI f (FI_X12_feed a0 a1 a2 a3 a4 I J)) (eJ f J) R n g) := by
  refine MM.of (by decide) (Nat.le_of_ble_eq_true rfl) fun K ok fin => ?_
  show WK K 0 0 0 [(0, .ref 130), (1, .int a0), (2, .int a1), (3, .int a2), (4, .int a3), (5, .int a4)] [] (eI f I) (eJ f J) R n g
  have hp1 := hp
  refine w_aload_n ok dX12_feed_0 0 rfl ?_
  refine w_iconst (v := 0) ok dX12_feed_1 (by decide) ?_
  refine y_putI ok dX12_feed_2 (fwX12_169 rfl) (congrArg Prod.fst s_130) rfl (ltM hnn (by decide)) (sdm hf (by decide)) ?_
  refine w_aload_n ok dX12_feed_5 0 rfl ?_
  refine y_getI ok dX12_feed_6 (fX12_172 rfl) (congrArg Prod.fst s_130) rfl (ltM hnn (by decide)) (sdm hf (by decide)) ?_
  refine w_sipush (v := 680) ok dX12_feed_9 (by decide) ?_
  refine w_icmp_le (tgt := 17) ok dX12_feed_12 (by decide) (fun c1 => ?_) (fun c1 => ?_)
  · skip
    refine w_iconst (v := 0) ok dX12_feed_17 (by decide) ?_
    refine w_istore ok dX12_feed_18 (by decide) rfl ?_
    refine w_loc [1, 2, 3, 4, 5, 6, 0] rfl ?_
    refine loop_for (σ := SI) (fun (i20 : Nat) (s20 : SI) => WK K 0 0 20 [(0, .ref 130), (1, .int a0), (2, .int a1), (3, .int a2), (4, .int a3), (5, .int a4), (6, .int (nI i20))] [] (eI f s20) (eJ f J) R n g) (B_X12_feed_l20 a0 a1 a2 a3 a4 I J) (20) ((u2 I 130 0 0)) ?_ ?_
    · show WK K 0 0 20 [(0, .ref 130), (1, .int a0), (2, .int a1), (3, .int a2), (4, .int a3), (5, .int a4), (6, .int (nI 20))] [] (eI f ((F_X12_feed_l20 a0 a1 a2 a3 a4 I J (u2 I 130 0 0)))) (eJ f J) R n g
      have e2 : (20 : Int32) ≤ (nI 20) := (show nI 20 ≤ nI 20 from nI_le (by omega) (by decide))
      refine w_iload ok dX12_feed_20 6 rfl ?_
      refine w_bipush (v := 20) ok dX12_feed_22 (by decide) ?_
      refine w_icmp_ge (tgt := 110) ok dX12_feed_24 (by decide) (fun _ => ?_) (fun h => absurd e2 h)
      refine w_aload_n ok dX12_feed_110 0 rfl ?_
      refine w_dup ok dX12_feed_111 rfl ?_
      refine y_getI ok dX12_feed_112 (fX12_172 rfl) (congrArg Prod.fst s_130) rfl (ltM hnn (by decide)) (sdm hf (by decide)) ?_
      refine w_bipush (v := 20) ok dX12_feed_115 (by decide) ?_
      refine w_iadd ok dX12_feed_117 ?_
      refine y_putI ok dX12_feed_118 (fwX12_172 rfl) (congrArg Prod.fst s_130) rfl (ltM hnn (by decide)) (sdm hf (by decide)) ?_
      show WK K 0 0 121 [(0, .ref 130), (1, .int a0), (2, .int a1), (3, .int a2), (4, .int a3), (5, .int a4), (6, .int (nI 20))] [] (eI f (S1_X12_feed a0 a1 a2 a3 a4 I J)) (eJ f J) R n g
      refine w_aload_n ok dX12_feed_121 0 rfl ?_
      refine y_getI ok dX12_feed_122 (fX12_172 rfl) (congrArg Prod.fst s_130) rfl (ltM hnn (by decide)) (sdm hf (by decide)) ?_
      exact w_iret ok fin dX12_feed_125 rfl (by unfold F_X12_feed FI_X12_feed; simp only [if_pos c1]; exact Pd.i)
    · intro i20 s20 hi20 hs20 k20
      show WK K 0 0 20 [(0, .ref 130), (1, .int a0), (2, .int a1), (3, .int a2), (4, .int a3), (5, .int a4), (6, .int (nI i20))] [] (eI f s20) (eJ f J) R n g
      have e3 : ¬ ((20 : Int32) ≤ (nI i20)) := (show ¬ (nI 20 ≤ nI i20) from nI_ge (by omega) (by decide))
      refine w_iload ok dX12_feed_20 6 rfl ?_
      refine w_bipush (v := 20) ok dX12_feed_22 (by decide) ?_
      refine w_icmp_ge (tgt := 110) ok dX12_feed_24 (by decide) (fun h => absurd h e3) (fun _ => ?_)
      refine w_iload ok dX12_feed_27 6 rfl ?_
      refine w_iconst (v := 4) ok dX12_feed_29 (by decide) ?_
      have jn4 : WK K 0 0 73 [(0, .ref 130), (1, .int a0), (2, .int a1), (3, .int a2), (4, .int a3), (5, .int a4), (6, .int (nI i20))] [.int (T_X12_feed_j73 a0 a1 a2 a3 a4 I J i20 s20)] (eI f s20) (eJ f J) R n g := by
        refine w_istore ok dX12_feed_73 (by decide) rfl ?_
        refine w_aload_n ok dX12_feed_75 1 rfl ?_
        refine w_getR ok dX12_feed_76 (fX12_7 rfl) (congrArg Prod.fst s_130) rfl (r_130_1 ro) (ltM hnn (by decide)) ?_
        refine w_aload_n ok dX12_feed_79 1 rfl ?_
        refine y_getI ok dX12_feed_80 (fX12_172 rfl) (congrArg Prod.fst s_130) rfl (ltM hnn (by decide)) (sdm hf (by decide)) ?_
        refine w_iload ok dX12_feed_83 7 rfl ?_
        refine w_iadd ok dX12_feed_85 ?_
        refine w_iload ok dX12_feed_86 0 rfl ?_
        refine w_bipush (v := 24) ok dX12_feed_88 (by decide) ?_
        refine w_bipush (v := 8) ok dX12_feed_90 (by decide) ?_
        refine w_iload ok dX12_feed_92 7 rfl ?_
        refine w_iconst (v := 4) ok dX12_feed_94 (by decide) ?_
        refine w_irem ok dX12_feed_95 (by decide) ?_
        refine w_imul ok dX12_feed_96 ?_
        refine w_isub ok dX12_feed_97 ?_
        refine w_ishr ok dX12_feed_98 ?_
        show WK K 0 0 99 [(7, .int (T_X12_feed_j73 a0 a1 a2 a3 a4 I J i20 s20)), (0, .ref 130), (1, .int a0), (2, .int a1), (3, .int a2), (4, .int a3), (5, .int a4), (6, .int (nI i20))] [.int (S2_X12_feed a0 a1 a2 a3 a4 I J i20 s20), .int ((s20 130 2) + (nI i20)), .ref 131] (eI f s20) (eJ f J) R n g
        refine w_sipush (v := 255) ok dX12_feed_99 (by decide) ?_
        refine w_iand ok dX12_feed_102 ?_
        refine y_iast (q := ((s20 130 2) + (nI i20)).toNatClampNeg) ok dX12_feed_103 s_131 (hp1 c1 i20 s20 hi20 hs20) (by decide) (ltM hnn (by decide)) (sdm hf (by decide)) ?_
        show WK K 0 0 104 [(7, .int (T_X12_feed_j73 a0 a1 a2 a3 a4 I J i20 s20)), (0, .ref 130), (1, .int a0), (2, .int a1), (3, .int a2), (4, .int a3), (5, .int a4), (6, .int (nI i20))] [] (eI f (S3_X12_feed a0 a1 a2 a3 a4 I J i20 s20)) (eJ f J) R n g
        refine w_iinc (v := (nI i20) + 1) ok dX12_feed_104 7 rfl rfl (by decide) rfl ?_
        refine w_goto (tgt := 20) ok dX12_feed_107 (by decide) ?_
        have eB : B_X12_feed_l20 a0 a1 a2 a3 a4 I J i20 s20 = (S3_X12_feed a0 a1 a2 a3 a4 I J i20 s20) := by
          unfold B_X12_feed_l20; exact rfl
        have kk := k20
        rw [eB] at kk
        refine w_loc [2, 3, 4, 5, 6, 7, 0] rfl ?_
        rw [nI_1 i20]
        exact kk
      refine w_icmp_ge (tgt := 37) ok dX12_feed_30 (by decide) (fun c5 => ?_) (fun c5 => ?_)
      · skip
        refine w_iload ok dX12_feed_37 6 rfl ?_
        refine w_bipush (v := 8) ok dX12_feed_39 (by decide) ?_
        refine w_icmp_ge (tgt := 48) ok dX12_feed_41 (by decide) (fun c6 => ?_) (fun c6 => ?_)
        · skip
          refine w_iload ok dX12_feed_48 6 rfl ?_
          refine w_bipush (v := 12) ok dX12_feed_50 (by decide) ?_
          refine w_icmp_ge (tgt := 59) ok dX12_feed_52 (by decide) (fun c7 => ?_) (fun c7 => ?_)
          · skip
            refine w_iload ok dX12_feed_59 6 rfl ?_
            refine w_bipush (v := 16) ok dX12_feed_61 (by decide) ?_
            refine w_icmp_ge (tgt := 71) ok dX12_feed_63 (by decide) (fun c8 => ?_) (fun c8 => ?_)
            · skip
              refine w_iload ok dX12_feed_71 5 rfl ?_
              have eT : (T_X12_feed_j73 a0 a1 a2 a3 a4 I J i20 s20) = a4 := by
                unfold T_X12_feed_j73; exact (if_pos c5).trans ((if_pos c6).trans ((if_pos c7).trans ((if_pos c8).trans (rfl))))
              refine w_loc [0, 1, 2, 3, 4, 5, 6] rfl ?_
              have jj := jn4
              rw [eT] at jj
              exact jj
            · skip
              refine w_iload ok dX12_feed_66 4 rfl ?_
              refine w_goto (tgt := 73) ok dX12_feed_68 (by decide) ?_
              have eT : (T_X12_feed_j73 a0 a1 a2 a3 a4 I J i20 s20) = a3 := by
                unfold T_X12_feed_j73; exact (if_pos c5).trans ((if_pos c6).trans ((if_pos c7).trans ((if_neg c8).trans (rfl))))
              refine w_loc [0, 1, 2, 3, 4, 5, 6] rfl ?_
              have jj := jn4
              rw [eT] at jj
              exact jj
          · skip
            refine w_iload_n ok dX12_feed_55 3 rfl ?_
            refine w_goto (tgt := 73) ok dX12_feed_56 (by decide) ?_
            have eT : (T_X12_feed_j73 a0 a1 a2 a3 a4 I J i20 s20) = a2 := by
              unfold T_X12_feed_j73; exact (if_pos c5).trans ((if_pos c6).trans ((if_neg c7).trans (rfl)))
            refine w_loc [0, 1, 2, 3, 4, 5, 6] rfl ?_
            have jj := jn4
            rw [eT] at jj
            exact jj
        · skip
          refine w_iload_n ok dX12_feed_44 2 rfl ?_
          refine w_goto (tgt := 73) ok dX12_feed_45 (by decide) ?_
          have eT : (T_X12_feed_j73 a0 a1 a2 a3 a4 I J i20 s20) = a1 := by
            unfold T_X12_feed_j73; exact (if_pos c5).trans ((if_neg c6).trans (rfl))
          refine w_loc [0, 1, 2, 3, 4, 5, 6] rfl ?_
          have jj := jn4
          rw [eT] at jj
          exact jj
      · skip
        refine w_iload_n ok dX12_feed_33 1 rfl ?_
        refine w_goto (tgt := 73) ok dX12_feed_34 (by decide) ?_
        have eT : (T_X12_feed_j73 a0 a1 a2 a3 a4 I J i20 s20) = a0 := by
          unfold T_X12_feed_j73; exact (if_neg c5).trans (rfl)
        refine w_loc [0, 1, 2, 3, 4, 5, 6] rfl ?_
        have jj := jn4
        rw [eT] at jj
        exact jj
  · skip
    refine w_iconst (v := (-1)) ok dX12_feed_15 (by decide) ?_
    exact w_iret ok fin dX12_feed_16 rfl (by unfold F_X12_feed FI_X12_feed; simp only [if_neg c1]; exact Pd.i)
def F_X12_here  (I : SI) (J : SJ) : Int32 := if (I 130 25) ≤ (I 130 26) then -1 else I 131 (I 130 26).toNatClampNeg
def H_X12_here  (I : SI) (J : SJ) : Prop := (¬ ((I 130 25) ≤ (I 130 26)) → inR (I 130 26) 700)
set_option maxHeartbeats 1000000 in
set_option maxRecDepth 40000 in
theorem c_X12_here {I : SI} {J : SJ} {R : SR} {n g : Nat} {f : Fr} (ro : RM R) (hnn : nM ≤ n) (hf : f.1 = false)   (hp : H_X12_here  I J) : MM 0 0 0 mX12_here [.ref 130] (eI f I) (eJ f J) R n g (Pd (some (.int (F_X12_here  I J))) (eI f I) (eJ f J) R n g) := by
  refine MM.of (by decide) (Nat.le_of_ble_eq_true rfl) fun K ok fin => ?_
  show WK K 0 0 0 [(0, .ref 130)] [] (eI f I) (eJ f J) R n g
  have hp1 := hp
  refine w_aload_n ok dX12_here_0 0 rfl ?_
  refine y_getI ok dX12_here_1 (fX12_175 rfl) (congrArg Prod.fst s_130) rfl (ltM hnn (by decide)) (sdm hf (by decide)) ?_
  refine w_aload_n ok dX12_here_4 0 rfl ?_
  refine y_getI ok dX12_here_5 (fX12_178 rfl) (congrArg Prod.fst s_130) rfl (ltM hnn (by decide)) (sdm hf (by decide)) ?_
  refine w_icmp_ge (tgt := 23) ok dX12_here_8 (by decide) (fun c1 => ?_) (fun c1 => ?_)
  · skip
    refine w_iconst (v := (-1)) ok dX12_here_23 (by decide) ?_
    exact w_iret ok fin dX12_here_24 rfl (by unfold F_X12_here; simp only [if_pos c1]; exact Pd.i)
  · skip
    refine w_aload_n ok dX12_here_11 0 rfl ?_
    refine w_getR ok dX12_here_12 (fX12_7 rfl) (congrArg Prod.fst s_130) rfl (r_130_1 ro) (ltM hnn (by decide)) ?_
    refine w_aload_n ok dX12_here_15 0 rfl ?_
    refine y_getI ok dX12_here_16 (fX12_175 rfl) (congrArg Prod.fst s_130) rfl (ltM hnn (by decide)) (sdm hf (by decide)) ?_
    refine y_iald (q := (I 130 26).toNatClampNeg) ok dX12_here_19 s_131 (hp1 c1) (by decide) (ltM hnn (by decide)) (sdm hf (by decide)) ?_
    refine w_goto (tgt := 24) ok dX12_here_20 (by decide) ?_
    exact w_iret ok fin dX12_here_24 rfl (by unfold F_X12_here; simp only [if_neg c1]; exact Pd.i)
def F_X12_isSmall (a0 : Int32) (I : SI) (J : SJ) : Int32 := if a0 < 97 then 0 else (if (122 : Int32) < a0 then 0 else 1)
set_option maxHeartbeats 1000000 in
set_option maxRecDepth 40000 in
theorem c_X12_isSmall {I : SI} {J : SJ} {R : SR} {n g : Nat} {f : Fr} (ro : RM R) (hnn : nM ≤ n) (hf : f.1 = false) (a0 : Int32)   : MM 0 0 0 mX12_isSmall [.int a0] (eI f I) (eJ f J) R n g (Pd (some (.int (F_X12_isSmall a0 I J))) (eI f I) (eJ f J) R n g) := by
  refine MM.of (by decide) (Nat.le_of_ble_eq_true rfl) fun K ok fin => ?_
  show WK K 0 0 0 [(0, .int a0)] [] (eI f I) (eJ f J) R n g
  refine w_iload_n ok dX12_isSmall_0 0 rfl ?_
  refine w_bipush (v := 97) ok dX12_isSmall_1 (by decide) ?_
  refine w_icmp_lt (tgt := 16) ok dX12_isSmall_3 (by decide) (fun c1 => ?_) (fun c1 => ?_)
  · skip
    refine w_iconst (v := 0) ok dX12_isSmall_16 (by decide) ?_
    exact w_zret ok fin dX12_isSmall_17 rfl (by decide) (by unfold F_X12_isSmall; simp only [if_pos c1]; exact Pd.i)
  · skip
    refine w_iload_n ok dX12_isSmall_6 0 rfl ?_
    refine w_bipush (v := 122) ok dX12_isSmall_7 (by decide) ?_
    refine w_icmp_gt (tgt := 16) ok dX12_isSmall_9 (by decide) (fun c2 => ?_) (fun c2 => ?_)
    · skip
      refine w_iconst (v := 0) ok dX12_isSmall_16 (by decide) ?_
      exact w_zret ok fin dX12_isSmall_17 rfl (by decide) (by unfold F_X12_isSmall; simp only [if_neg c1]; simp only [if_pos c2]; exact Pd.i)
    · skip
      refine w_iconst (v := 1) ok dX12_isSmall_12 (by decide) ?_
      refine w_goto (tgt := 17) ok dX12_isSmall_13 (by decide) ?_
      exact w_zret ok fin dX12_isSmall_17 rfl (by decide) (by unfold F_X12_isSmall; simp only [if_neg c1]; simp only [if_neg c2]; exact Pd.i)
def F_X12_isDigit (a0 : Int32) (I : SI) (J : SJ) : Int32 := if a0 < 48 then 0 else (if (57 : Int32) < a0 then 0 else 1)
set_option maxHeartbeats 1000000 in
set_option maxRecDepth 40000 in
theorem c_X12_isDigit {I : SI} {J : SJ} {R : SR} {n g : Nat} {f : Fr} (ro : RM R) (hnn : nM ≤ n) (hf : f.1 = false) (a0 : Int32)   : MM 0 0 0 mX12_isDigit [.int a0] (eI f I) (eJ f J) R n g (Pd (some (.int (F_X12_isDigit a0 I J))) (eI f I) (eJ f J) R n g) := by
  refine MM.of (by decide) (Nat.le_of_ble_eq_true rfl) fun K ok fin => ?_
  show WK K 0 0 0 [(0, .int a0)] [] (eI f I) (eJ f J) R n g
  refine w_iload_n ok dX12_isDigit_0 0 rfl ?_
  refine w_bipush (v := 48) ok dX12_isDigit_1 (by decide) ?_
  refine w_icmp_lt (tgt := 16) ok dX12_isDigit_3 (by decide) (fun c1 => ?_) (fun c1 => ?_)
  · skip
    refine w_iconst (v := 0) ok dX12_isDigit_16 (by decide) ?_
    exact w_zret ok fin dX12_isDigit_17 rfl (by decide) (by unfold F_X12_isDigit; simp only [if_pos c1]; exact Pd.i)
  · skip
    refine w_iload_n ok dX12_isDigit_6 0 rfl ?_
    refine w_bipush (v := 57) ok dX12_isDigit_7 (by decide) ?_
    refine w_icmp_gt (tgt := 16) ok dX12_isDigit_9 (by decide) (fun c2 => ?_) (fun c2 => ?_)
    · skip
      refine w_iconst (v := 0) ok dX12_isDigit_16 (by decide) ?_
      exact w_zret ok fin dX12_isDigit_17 rfl (by decide) (by unfold F_X12_isDigit; simp only [if_neg c1]; simp only [if_pos c2]; exact Pd.i)
    · skip
      refine w_iconst (v := 1) ok dX12_isDigit_12 (by decide) ?_
      refine w_goto (tgt := 17) ok dX12_isDigit_13 (by decide) ?_
      exact w_zret ok fin dX12_isDigit_17 rfl (by decide) (by unfold F_X12_isDigit; simp only [if_neg c1]; simp only [if_neg c2]; exact Pd.i)
def T_X12_sign_j76 (a0 : Int32) (I : SI) (J : SJ) : Int32 := if a0 = 59 then 3 else (if a0 = 40 then 3 else (if a0 = 41 then 3 else (if a0 = 43 then 3 else (if a0 = 45 then 3 else (if a0 = 42 then 3 else (if a0 = 47 then 3 else (if a0 = 60 then 3 else (if a0 = 61 then 3 else (if a0 = 62 then 3 else 5)))))))))
def S1_X12_sign (a0 : Int32) (I : SI) (J : SJ) : SI := u2 (u2 (u2 I 130 26 ((I 130 26) + 1)) 130 28 (T_X12_sign_j76 a0 I J)) 130 29 a0
def T_X12_sign_j106 (a0 : Int32) (I : SI) (J : SJ) : SI := if a0 = 60 then (if (F_X12_here  (S1_X12_sign a0 I J) J) = 61 then (u2 (S1_X12_sign a0 I J) 130 29 256) else (S1_X12_sign a0 I J)) else (S1_X12_sign a0 I J)
def T_X12_sign_j128 (a0 : Int32) (I : SI) (J : SJ) : SI := if a0 = 60 then (if (F_X12_here  (T_X12_sign_j106 a0 I J) J) = 62 then (u2 (T_X12_sign_j106 a0 I J) 130 29 257) else (T_X12_sign_j106 a0 I J)) else (T_X12_sign_j106 a0 I J)
def T_X12_sign_j150 (a0 : Int32) (I : SI) (J : SJ) : SI := if a0 = 62 then (if (F_X12_here  (T_X12_sign_j128 a0 I J) J) = 61 then (u2 (T_X12_sign_j128 a0 I J) 130 29 258) else (T_X12_sign_j128 a0 I J)) else (T_X12_sign_j128 a0 I J)
def S2_X12_sign (a0 : Int32) (I : SI) (J : SJ) : SI := u2 (T_X12_sign_j150 a0 I J) 130 26 ((((T_X12_sign_j150 a0 I J)) 130 26) + 1)
def FI_X12_sign (a0 : Int32) (I : SI) (J : SJ) : SI := if (((T_X12_sign_j150 a0 I J)) 130 29) < 256 then (T_X12_sign_j150 a0 I J) else (S2_X12_sign a0 I J)
def H_X12_sign (a0 : Int32) (I : SI) (J : SJ) : Prop := (a0 = 62 → H_X12_here  (T_X12_sign_j128 a0 I J) J) ∧ (a0 = 60 → H_X12_here  (T_X12_sign_j106 a0 I J) J) ∧ (a0 = 60 → H_X12_here  (S1_X12_sign a0 I J) J)
set_option maxHeartbeats 2650000 in
set_option maxRecDepth 40000 in
theorem c_X12_sign {I : SI} {J : SJ} {R : SR} {n g : Nat} {f : Fr} (ro : RM R) (hnn : nM ≤ n) (hf : f.1 = false) (a0 : Int32)  (hp : H_X12_sign a0 I J) : MM 1 0 0 mX12_sign [.ref 130, .int a0] (eI f I) (eJ f J) R n g (Pd none (eI f (FI_X12_sign a0 I J)) (eJ f J) R n g) := by
  refine MM.of (by decide) (Nat.le_of_ble_eq_true rfl) fun K ok fin => ?_
  show WK K 0 0 0 [(0, .ref 130), (1, .int a0)] [] (eI f I) (eJ f J) R n g
  obtain ⟨hp1, hp2, hp3⟩ := hp
  refine w_aload_n ok dX12_sign_0 0 rfl ?_
  refine w_dup ok dX12_sign_1 rfl ?_
  refine y_getI ok dX12_sign_2 (fX12_175 rfl) (congrArg Prod.fst s_130) rfl (ltM hnn (by decide)) (sdm hf (by decide)) ?_
  refine w_iconst (v := 1) ok dX12_sign_5 (by decide) ?_
  refine w_iadd ok dX12_sign_6 ?_
  refine y_putI ok dX12_sign_7 (fwX12_175 rfl) (congrArg Prod.fst s_130) rfl (ltM hnn (by decide)) (sdm hf (by decide)) ?_
  refine w_aload_n ok dX12_sign_10 0 rfl ?_
  refine w_iload_n ok dX12_sign_11 1 rfl ?_
  refine w_bipush (v := 59) ok dX12_sign_12 (by decide) ?_
  have jn1 : WK K 0 0 76 [(0, .ref 130), (1, .int a0)] [.int (T_X12_sign_j76 a0 I J), .ref 130] (eI f (u2 I 130 26 ((I 130 26) + 1))) (eJ f J) R n g := by
    refine y_putI ok dX12_sign_76 (fwX12_188 rfl) (congrArg Prod.fst s_130) rfl (ltM hnn (by decide)) (sdm hf (by decide)) ?_
    refine w_aload_n ok dX12_sign_79 0 rfl ?_
    refine w_iload_n ok dX12_sign_80 1 rfl ?_
    refine y_putI ok dX12_sign_81 (fwX12_198 rfl) (congrArg Prod.fst s_130) rfl (ltM hnn (by decide)) (sdm hf (by decide)) ?_
    show WK K 0 0 84 [(0, .ref 130), (1, .int a0)] [] (eI f (S1_X12_sign a0 I J)) (eJ f J) R n g
    refine w_iload_n ok dX12_sign_84 1 rfl ?_
    refine w_bipush (v := 60) ok dX12_sign_85 (by decide) ?_
    have jn2 : WK K 0 0 106 [(0, .ref 130), (1, .int a0)] [] (eI f (T_X12_sign_j106 a0 I J)) (eJ f J) R n g := by
      refine w_iload_n ok dX12_sign_106 1 rfl ?_
      refine w_bipush (v := 60) ok dX12_sign_107 (by decide) ?_
      have jn3 : WK K 0 0 128 [(0, .ref 130), (1, .int a0)] [] (eI f (T_X12_sign_j128 a0 I J)) (eJ f J) R n g := by
        refine w_iload_n ok dX12_sign_128 1 rfl ?_
        refine w_bipush (v := 62) ok dX12_sign_129 (by decide) ?_
        have jn4 : WK K 0 0 150 [(0, .ref 130), (1, .int a0)] [] (eI f (T_X12_sign_j150 a0 I J)) (eJ f J) R n g := by
          refine w_aload_n ok dX12_sign_150 0 rfl ?_
          refine y_getI ok dX12_sign_151 (fX12_198 rfl) (congrArg Prod.fst s_130) rfl (ltM hnn (by decide)) (sdm hf (by decide)) ?_
          refine w_sipush (v := 256) ok dX12_sign_154 (by decide) ?_
          refine w_icmp_lt (tgt := 170) ok dX12_sign_157 (by decide) (fun c5 => ?_) (fun c5 => ?_)
          · skip
            exact w_vret ok fin dX12_sign_170 rfl (by unfold FI_X12_sign; simp only [if_pos c5]; exact Pd.i)
          · skip
            refine w_aload_n ok dX12_sign_160 0 rfl ?_
            refine w_dup ok dX12_sign_161 rfl ?_
            refine y_getI ok dX12_sign_162 (fX12_175 rfl) (congrArg Prod.fst s_130) rfl (ltM hnn (by decide)) (sdm hf (by decide)) ?_
            refine w_iconst (v := 1) ok dX12_sign_165 (by decide) ?_
            refine w_iadd ok dX12_sign_166 ?_
            refine y_putI ok dX12_sign_167 (fwX12_175 rfl) (congrArg Prod.fst s_130) rfl (ltM hnn (by decide)) (sdm hf (by decide)) ?_
            show WK K 0 0 170 [(0, .ref 130), (1, .int a0)] [] (eI f (S2_X12_sign a0 I J)) (eJ f J) R n g
            exact w_vret ok fin dX12_sign_170 rfl (by unfold FI_X12_sign; simp only [if_neg c5]; exact Pd.i)
        refine w_icmp_ne (tgt := 150) ok dX12_sign_131 (by decide) (fun c6 => ?_) (fun c6 => ?_)
        · skip
          have eT : (T_X12_sign_j150 a0 I J) = (T_X12_sign_j128 a0 I J) := by
            unfold T_X12_sign_j150; exact (if_neg c6).trans (rfl)
          refine w_loc [0, 1] rfl ?_
          have jj := jn4
          rw [eT] at jj
          exact jj
        · skip
          refine w_aload_n ok dX12_sign_134 0 rfl ?_
          refine w_cV (As := []) ok dX12_sign_135 iX12_here (lX12_181 rfl) (rcv cls12 (congrArg Prod.fst s_130)) (ltM hnn (by decide)) (c_X12_here ro hnn hf   (hp1 c6)) (by decide) rfl (Nat.le_of_ble_eq_true rfl) ?_
          refine w_bipush (v := 61) ok dX12_sign_138 (by decide) ?_
          refine w_icmp_ne (tgt := 150) ok dX12_sign_140 (by decide) (fun c7 => ?_) (fun c7 => ?_)
          · skip
            have eT : (T_X12_sign_j150 a0 I J) = (T_X12_sign_j128 a0 I J) := by
              unfold T_X12_sign_j150; exact (if_pos c6).trans ((if_neg c7).trans (rfl))
            refine w_loc [0, 1] rfl ?_
            have jj := jn4
            rw [eT] at jj
            exact jj
          · skip
            refine w_aload_n ok dX12_sign_143 0 rfl ?_
            refine w_sipush (v := 258) ok dX12_sign_144 (by decide) ?_
            refine y_putI ok dX12_sign_147 (fwX12_198 rfl) (congrArg Prod.fst s_130) rfl (ltM hnn (by decide)) (sdm hf (by decide)) ?_
            have eT : (T_X12_sign_j150 a0 I J) = (u2 (T_X12_sign_j128 a0 I J) 130 29 258) := by
              unfold T_X12_sign_j150; exact (if_pos c6).trans ((if_pos c7).trans (rfl))
            refine w_loc [0, 1] rfl ?_
            have jj := jn4
            rw [eT] at jj
            exact jj
      refine w_icmp_ne (tgt := 128) ok dX12_sign_109 (by decide) (fun c8 => ?_) (fun c8 => ?_)
      · skip
        have eT : (T_X12_sign_j128 a0 I J) = (T_X12_sign_j106 a0 I J) := by
          unfold T_X12_sign_j128; exact (if_neg c8).trans (rfl)
        refine w_loc [0, 1] rfl ?_
        have jj := jn3
        rw [eT] at jj
        exact jj
      · skip
        refine w_aload_n ok dX12_sign_112 0 rfl ?_
        refine w_cV (As := []) ok dX12_sign_113 iX12_here (lX12_181 rfl) (rcv cls12 (congrArg Prod.fst s_130)) (ltM hnn (by decide)) (c_X12_here ro hnn hf   (hp2 c8)) (by decide) rfl (Nat.le_of_ble_eq_true rfl) ?_
        refine w_bipush (v := 62) ok dX12_sign_116 (by decide) ?_
        refine w_icmp_ne (tgt := 128) ok dX12_sign_118 (by decide) (fun c9 => ?_) (fun c9 => ?_)
        · skip
          have eT : (T_X12_sign_j128 a0 I J) = (T_X12_sign_j106 a0 I J) := by
            unfold T_X12_sign_j128; exact (if_pos c8).trans ((if_neg c9).trans (rfl))
          refine w_loc [0, 1] rfl ?_
          have jj := jn3
          rw [eT] at jj
          exact jj
        · skip
          refine w_aload_n ok dX12_sign_121 0 rfl ?_
          refine w_sipush (v := 257) ok dX12_sign_122 (by decide) ?_
          refine y_putI ok dX12_sign_125 (fwX12_198 rfl) (congrArg Prod.fst s_130) rfl (ltM hnn (by decide)) (sdm hf (by decide)) ?_
          have eT : (T_X12_sign_j128 a0 I J) = (u2 (T_X12_sign_j106 a0 I J) 130 29 257) := by
            unfold T_X12_sign_j128; exact (if_pos c8).trans ((if_pos c9).trans (rfl))
          refine w_loc [0, 1] rfl ?_
          have jj := jn3
          rw [eT] at jj
          exact jj
    refine w_icmp_ne (tgt := 106) ok dX12_sign_87 (by decide) (fun c10 => ?_) (fun c10 => ?_)
    · skip
      have eT : (T_X12_sign_j106 a0 I J) = (S1_X12_sign a0 I J) := by
        unfold T_X12_sign_j106; exact (if_neg c10).trans (rfl)
      refine w_loc [0, 1] rfl ?_
      have jj := jn2
      rw [eT] at jj
      exact jj
    · skip
      refine w_aload_n ok dX12_sign_90 0 rfl ?_
      refine w_cV (As := []) ok dX12_sign_91 iX12_here (lX12_181 rfl) (rcv cls12 (congrArg Prod.fst s_130)) (ltM hnn (by decide)) (c_X12_here ro hnn hf   (hp3 c10)) (by decide) rfl (Nat.le_of_ble_eq_true rfl) ?_
      refine w_bipush (v := 61) ok dX12_sign_94 (by decide) ?_
      refine w_icmp_ne (tgt := 106) ok dX12_sign_96 (by decide) (fun c11 => ?_) (fun c11 => ?_)
      · skip
        have eT : (T_X12_sign_j106 a0 I J) = (S1_X12_sign a0 I J) := by
          unfold T_X12_sign_j106; exact (if_pos c10).trans ((if_neg c11).trans (rfl))
        refine w_loc [0, 1] rfl ?_
        have jj := jn2
        rw [eT] at jj
        exact jj
      · skip
        refine w_aload_n ok dX12_sign_99 0 rfl ?_
        refine w_sipush (v := 256) ok dX12_sign_100 (by decide) ?_
        refine y_putI ok dX12_sign_103 (fwX12_198 rfl) (congrArg Prod.fst s_130) rfl (ltM hnn (by decide)) (sdm hf (by decide)) ?_
        have eT : (T_X12_sign_j106 a0 I J) = (u2 (S1_X12_sign a0 I J) 130 29 256) := by
          unfold T_X12_sign_j106; exact (if_pos c10).trans ((if_pos c11).trans (rfl))
        refine w_loc [0, 1] rfl ?_
        have jj := jn2
        rw [eT] at jj
        exact jj
  refine w_icmp_eq (tgt := 71) ok dX12_sign_14 (by decide) (fun c12 => ?_) (fun c12 => ?_)
  · skip
    refine w_iconst (v := 3) ok dX12_sign_71 (by decide) ?_
    refine w_goto (tgt := 76) ok dX12_sign_72 (by decide) ?_
    have eT : (T_X12_sign_j76 a0 I J) = 3 := by
      unfold T_X12_sign_j76; exact (if_pos c12).trans (rfl)
    refine w_loc [0, 1] rfl ?_
    have jj := jn1
    rw [eT] at jj
    exact jj
  · skip
    refine w_iload_n ok dX12_sign_17 1 rfl ?_
    refine w_bipush (v := 40) ok dX12_sign_18 (by decide) ?_
    refine w_icmp_eq (tgt := 71) ok dX12_sign_20 (by decide) (fun c13 => ?_) (fun c13 => ?_)
    · skip
      refine w_iconst (v := 3) ok dX12_sign_71 (by decide) ?_
      refine w_goto (tgt := 76) ok dX12_sign_72 (by decide) ?_
      have eT : (T_X12_sign_j76 a0 I J) = 3 := by
        unfold T_X12_sign_j76; exact (if_neg c12).trans ((if_pos c13).trans (rfl))
      refine w_loc [0, 1] rfl ?_
      have jj := jn1
      rw [eT] at jj
      exact jj
    · skip
      refine w_iload_n ok dX12_sign_23 1 rfl ?_
      refine w_bipush (v := 41) ok dX12_sign_24 (by decide) ?_
      refine w_icmp_eq (tgt := 71) ok dX12_sign_26 (by decide) (fun c14 => ?_) (fun c14 => ?_)
      · skip
        refine w_iconst (v := 3) ok dX12_sign_71 (by decide) ?_
        refine w_goto (tgt := 76) ok dX12_sign_72 (by decide) ?_
        have eT : (T_X12_sign_j76 a0 I J) = 3 := by
          unfold T_X12_sign_j76; exact (if_neg c12).trans ((if_neg c13).trans ((if_pos c14).trans (rfl)))
        refine w_loc [0, 1] rfl ?_
        have jj := jn1
        rw [eT] at jj
        exact jj
      · skip
        refine w_iload_n ok dX12_sign_29 1 rfl ?_
        refine w_bipush (v := 43) ok dX12_sign_30 (by decide) ?_
        refine w_icmp_eq (tgt := 71) ok dX12_sign_32 (by decide) (fun c15 => ?_) (fun c15 => ?_)
        · skip
          refine w_iconst (v := 3) ok dX12_sign_71 (by decide) ?_
          refine w_goto (tgt := 76) ok dX12_sign_72 (by decide) ?_
          have eT : (T_X12_sign_j76 a0 I J) = 3 := by
            unfold T_X12_sign_j76; exact (if_neg c12).trans ((if_neg c13).trans ((if_neg c14).trans ((if_pos c15).trans (rfl))))
          refine w_loc [0, 1] rfl ?_
          have jj := jn1
          rw [eT] at jj
          exact jj
        · skip
          refine w_iload_n ok dX12_sign_35 1 rfl ?_
          refine w_bipush (v := 45) ok dX12_sign_36 (by decide) ?_
          refine w_icmp_eq (tgt := 71) ok dX12_sign_38 (by decide) (fun c16 => ?_) (fun c16 => ?_)
          · skip
            refine w_iconst (v := 3) ok dX12_sign_71 (by decide) ?_
            refine w_goto (tgt := 76) ok dX12_sign_72 (by decide) ?_
            have eT : (T_X12_sign_j76 a0 I J) = 3 := by
              unfold T_X12_sign_j76; exact (if_neg c12).trans ((if_neg c13).trans ((if_neg c14).trans ((if_neg c15).trans ((if_pos c16).trans (rfl)))))
            refine w_loc [0, 1] rfl ?_
            have jj := jn1
            rw [eT] at jj
            exact jj
          · skip
            refine w_iload_n ok dX12_sign_41 1 rfl ?_
            refine w_bipush (v := 42) ok dX12_sign_42 (by decide) ?_
            refine w_icmp_eq (tgt := 71) ok dX12_sign_44 (by decide) (fun c17 => ?_) (fun c17 => ?_)
            · skip
              refine w_iconst (v := 3) ok dX12_sign_71 (by decide) ?_
              refine w_goto (tgt := 76) ok dX12_sign_72 (by decide) ?_
              have eT : (T_X12_sign_j76 a0 I J) = 3 := by
                unfold T_X12_sign_j76; exact (if_neg c12).trans ((if_neg c13).trans ((if_neg c14).trans ((if_neg c15).trans ((if_neg c16).trans ((if_pos c17).trans (rfl))))))
              refine w_loc [0, 1] rfl ?_
              have jj := jn1
              rw [eT] at jj
              exact jj
            · skip
              refine w_iload_n ok dX12_sign_47 1 rfl ?_
              refine w_bipush (v := 47) ok dX12_sign_48 (by decide) ?_
              refine w_icmp_eq (tgt := 71) ok dX12_sign_50 (by decide) (fun c18 => ?_) (fun c18 => ?_)
              · skip
                refine w_iconst (v := 3) ok dX12_sign_71 (by decide) ?_
                refine w_goto (tgt := 76) ok dX12_sign_72 (by decide) ?_
                have eT : (T_X12_sign_j76 a0 I J) = 3 := by
                  unfold T_X12_sign_j76; exact (if_neg c12).trans ((if_neg c13).trans ((if_neg c14).trans ((if_neg c15).trans ((if_neg c16).trans ((if_neg c17).trans ((if_pos c18).trans (rfl)))))))
                refine w_loc [0, 1] rfl ?_
                have jj := jn1
                rw [eT] at jj
                exact jj
              · skip
                refine w_iload_n ok dX12_sign_53 1 rfl ?_
                refine w_bipush (v := 60) ok dX12_sign_54 (by decide) ?_
                refine w_icmp_eq (tgt := 71) ok dX12_sign_56 (by decide) (fun c19 => ?_) (fun c19 => ?_)
                · skip
                  refine w_iconst (v := 3) ok dX12_sign_71 (by decide) ?_
                  refine w_goto (tgt := 76) ok dX12_sign_72 (by decide) ?_
                  have eT : (T_X12_sign_j76 a0 I J) = 3 := by
                    unfold T_X12_sign_j76; exact (if_neg c12).trans ((if_neg c13).trans ((if_neg c14).trans ((if_neg c15).trans ((if_neg c16).trans ((if_neg c17).trans ((if_neg c18).trans ((if_pos c19).trans (rfl))))))))
                  refine w_loc [0, 1] rfl ?_
                  have jj := jn1
                  rw [eT] at jj
                  exact jj
                · skip
                  refine w_iload_n ok dX12_sign_59 1 rfl ?_
                  refine w_bipush (v := 61) ok dX12_sign_60 (by decide) ?_
                  refine w_icmp_eq (tgt := 71) ok dX12_sign_62 (by decide) (fun c20 => ?_) (fun c20 => ?_)
                  · skip
                    refine w_iconst (v := 3) ok dX12_sign_71 (by decide) ?_
                    refine w_goto (tgt := 76) ok dX12_sign_72 (by decide) ?_
                    have eT : (T_X12_sign_j76 a0 I J) = 3 := by
                      unfold T_X12_sign_j76; exact (if_neg c12).trans ((if_neg c13).trans ((if_neg c14).trans ((if_neg c15).trans ((if_neg c16).trans ((if_neg c17).trans ((if_neg c18).trans ((if_neg c19).trans ((if_pos c20).trans (rfl)))))))))
                    refine w_loc [0, 1] rfl ?_
                    have jj := jn1
                    rw [eT] at jj
                    exact jj
                  · skip
                    refine w_iload_n ok dX12_sign_65 1 rfl ?_
                    refine w_bipush (v := 62) ok dX12_sign_66 (by decide) ?_
                    refine w_icmp_ne (tgt := 75) ok dX12_sign_68 (by decide) (fun c21 => ?_) (fun c21 => ?_)
                    · skip
                      refine w_iconst (v := 5) ok dX12_sign_75 (by decide) ?_
                      have eT : (T_X12_sign_j76 a0 I J) = 5 := by
                        unfold T_X12_sign_j76; exact (if_neg c12).trans ((if_neg c13).trans ((if_neg c14).trans ((if_neg c15).trans ((if_neg c16).trans ((if_neg c17).trans ((if_neg c18).trans ((if_neg c19).trans ((if_neg c20).trans ((if_neg c21).trans (rfl))))))))))
                      refine w_loc [0, 1] rfl ?_
                      have jj := jn1
                      rw [eT] at jj
                      exact jj
                    · skip
                      refine w_iconst (v := 3) ok dX12_sign_71 (by decide) ?_
                      refine w_goto (tgt := 76) ok dX12_sign_72 (by decide) ?_
                      have eT : (T_X12_sign_j76 a0 I J) = 3 := by
                        unfold T_X12_sign_j76; exact (if_neg c12).trans ((if_neg c13).trans ((if_neg c14).trans ((if_neg c15).trans ((if_neg c16).trans ((if_neg c17).trans ((if_neg c18).trans ((if_neg c19).trans ((if_neg c20).trans ((if_pos c21).trans (rfl))))))))))
                      refine w_loc [0, 1] rfl ?_
                      have jj := jn1
                      rw [eT] at jj
                      exact jj
def B_X12_word_w15 (I : SI) (J : SJ) (s4 : Int32 × Int32) (s15 : Int32) : (Int32) ⊕ (Int32) := if (chS 3 (s4.2 + s15).toNatClampNeg) = 32 then .inr s15 else (if (I 130 26) ≤ ((I 130 27) + s15) then .inr s15 else (if (I 131 ((I 130 27) + s15).toNatClampNeg) = (chS 3 (s4.2 + s15).toNatClampNeg) then .inl (s15 + 1) else .inr s15))
def F_X12_word_w15 (I : SI) (J : SJ) (s4 : Int32 × Int32) (s0 : Int32) : Int32 := (itW (B_X12_word_w15 I J s4) 800 s0).getD s0
def B_X12_word_w97 (I : SI) (J : SJ) (s4 : Int32 × Int32) (s97 : Int32) : (Int32) ⊕ (Int32) := if (chS 3 s97.toNatClampNeg) = 32 then .inr s97 else .inl (s97 + 1)
def F_X12_word_w97 (I : SI) (J : SJ) (s4 : Int32 × Int32) (s0 : Int32) : Int32 := (itW (B_X12_word_w97 I J s4) 800 s0).getD s0
