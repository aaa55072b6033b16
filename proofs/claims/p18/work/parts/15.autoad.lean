def B_X12_word_w97_2 (I : SI) (J : SJ) (s4 : Int32 × Int32) (s97 : Int32) : (Int32) ⊕ (Int32) := if (chS 3 s97.toNatClampNeg) = 32 then .inr s97 else .inl (s97 + 1)
def F_X12_word_w97_2 (I : SI) (J : SJ) (s4 : Int32 × Int32) (s0 : Int32) : Int32 := (itW (B_X12_word_w97_2 I J s4) 800 s0).getD s0
def B_X12_word_w4 (I : SI) (J : SJ) (s4 : Int32 × Int32) : (Int32 × Int32) ⊕ ((Int32 × Int32) ⊕ (Int32)) := if (nI (STL.getD 3 0)) ≤ s4.2 then .inr (.inl (s4.1, s4.2)) else (if (chS 3 (s4.2 + (F_X12_word_w15 I J s4 0)).toNatClampNeg) = 32 then (if ((I 130 27) + (F_X12_word_w15 I J s4 0)) = (I 130 26) then .inr (.inr s4.1) else .inl ((s4.1 + 1), ((F_X12_word_w97_2 I J s4 s4.2) + 1))) else .inl ((s4.1 + 1), ((F_X12_word_w97 I J s4 s4.2) + 1)))
def F_X12_word_w4 (I : SI) (J : SJ) (s0 : Int32 × Int32) : (Int32 × Int32) ⊕ (Int32) := (itW (B_X12_word_w4 I J) 800 s0).getD (.inl s0)
def F_X12_word  (I : SI) (J : SJ) : Int32 := (match (F_X12_word_w4 I J (0, 0)) with | .inl se4 => -1 | .inr re4 => re4)
def H_X12_word  (I : SI) (J : SJ) : Prop := ((itW (B_X12_word_w4 I J) 800 (0, 0)).isSome = true) ∧ (∀ (n4 : Nat) (s4 : Int32 × Int32), wN (B_X12_word_w4 I J) n4 (0, 0) = some s4 → ¬ ((nI (STL.getD 3 0)) ≤ s4.2) → (itW (B_X12_word_w15 I J s4) 800 0).isSome = true) ∧ (∀ (n4 : Nat) (s4 : Int32 × Int32), wN (B_X12_word_w4 I J) n4 (0, 0) = some s4 → ¬ ((nI (STL.getD 3 0)) ≤ s4.2) → inR (s4.2 + (F_X12_word_w15 I J s4 0)) 118) ∧ (∀ (n4 : Nat) (s4 : Int32 × Int32), wN (B_X12_word_w4 I J) n4 (0, 0) = some s4 → ¬ ((nI (STL.getD 3 0)) ≤ s4.2) → ¬ ((chS 3 (s4.2 + (F_X12_word_w15 I J s4 0)).toNatClampNeg) = 32) → (itW (B_X12_word_w97 I J s4) 800 s4.2).isSome = true) ∧ (∀ (n4 : Nat) (s4 : Int32 × Int32), wN (B_X12_word_w4 I J) n4 (0, 0) = some s4 → ¬ ((nI (STL.getD 3 0)) ≤ s4.2) → ¬ ((chS 3 (s4.2 + (F_X12_word_w15 I J s4 0)).toNatClampNeg) = 32) → ∀ (n97 : Nat) (s97 : Int32), wN (B_X12_word_w97 I J s4) n97 s4.2 = some s97 → inR s97 118) ∧ (∀ (n4 : Nat) (s4 : Int32 × Int32), wN (B_X12_word_w4 I J) n4 (0, 0) = some s4 → ¬ ((nI (STL.getD 3 0)) ≤ s4.2) → (chS 3 (s4.2 + (F_X12_word_w15 I J s4 0)).toNatClampNeg) = 32 → ¬ (((I 130 27) + (F_X12_word_w15 I J s4 0)) = (I 130 26)) → (itW (B_X12_word_w97_2 I J s4) 800 s4.2).isSome = true) ∧ (∀ (n4 : Nat) (s4 : Int32 × Int32), wN (B_X12_word_w4 I J) n4 (0, 0) = some s4 → ¬ ((nI (STL.getD 3 0)) ≤ s4.2) → (chS 3 (s4.2 + (F_X12_word_w15 I J s4 0)).toNatClampNeg) = 32 → ¬ (((I 130 27) + (F_X12_word_w15 I J s4 0)) = (I 130 26)) → ∀ (n97 : Nat) (s97 : Int32), wN (B_X12_word_w97_2 I J s4) n97 s4.2 = some s97 → inR s97 118) ∧ (∀ (n4 : Nat) (s4 : Int32 × Int32), wN (B_X12_word_w4 I J) n4 (0, 0) = some s4 → ¬ ((nI (STL.getD 3 0)) ≤ s4.2) → ∀ (n15 : Nat) (s15 : Int32), wN (B_X12_word_w15 I J s4) n15 0 = some s15 → inR (s4.2 + s15) 118) ∧ (∀ (n4 : Nat) (s4 : Int32 × Int32), wN (B_X12_word_w4 I J) n4 (0, 0) = some s4 → ¬ ((nI (STL.getD 3 0)) ≤ s4.2) → ∀ (n15 : Nat) (s15 : Int32), wN (B_X12_word_w15 I J s4) n15 0 = some s15 → ¬ ((chS 3 (s4.2 + s15).toNatClampNeg) = 32) → ¬ ((I 130 26) ≤ ((I 130 27) + s15)) → inR ((I 130 27) + s15) 700) ∧ (∀ (n4 : Nat) (s4 : Int32 × Int32), wN (B_X12_word_w4 I J) n4 (0, 0) = some s4 → ¬ ((nI (STL.getD 3 0)) ≤ s4.2) → ∀ (n15 : Nat) (s15 : Int32), wN (B_X12_word_w15 I J s4) n15 0 = some s15 → ¬ ((chS 3 (s4.2 + s15).toNatClampNeg) = 32) → ¬ ((I 130 26) ≤ ((I 130 27) + s15)) → inR (s4.2 + s15) 118)
set_option maxHeartbeats 1550000 in
set_option maxRecDepth 40000 in
theorem c_X12_word {I : SI} {J : SJ} {R : SR} {n g : Nat} {f : Fr} (ro : RM R) (hnn : nM ≤ n) (hf : f.1 = false)   (hp : H_X12_word  I J) : MM 4 0 0 mX12_word [.ref 130] (eI f I) (eJ f J) R n g (Pd (some (.int (F_X12_word  I J))) (eI f I) (eJ f J) R n g) := by
  refine MM.of (by decide) (Nat.le_of_ble_eq_true rfl) fun K ok fin => ?_
  show WK K 0 0 0 [(0, .ref 130)] [] (eI f I) (eJ f J) R n g
  obtain ⟨hp1, hp2, hp3, hp4, hp5, hp6, hp7, hp8, hp9, hp10⟩ := hp
  refine w_iconst (v := 0) ok dX12_word_0 (by decide) ?_
  refine w_istore_n ok dX12_word_1 rfl (by decide) rfl ?_
  refine w_iconst (v := 0) ok dX12_word_2 (by decide) ?_
  refine w_istore_n ok dX12_word_3 rfl (by decide) rfl ?_
  refine w_loc [2, 1, 0] rfl ?_
  refine loop_wr (σ := Int32 × Int32) (ρ := Int32) (fun (s4 : Int32 × Int32) => WK K 0 0 4 [(0, .ref 130), (1, .int s4.1), (2, .int s4.2)] [] (eI f I) (eJ f J) R n g) (B_X12_word_w4 I J) 800 (0, 0) (F_X12_word_w4 I J (0, 0)) (itW_some2 (hp1)) ?_
  · intro n4 s4 hs4 kc4 kr4
    have kx4 : ∀ se4 : Int32 × Int32, B_X12_word_w4 I J s4 = .inr (.inl se4) → WK K 0 0 123 [(0, .ref 130), (1, .int se4.1), (2, .int se4.2)] [] (eI f I) (eJ f J) R n g := by
      intro se4 hb4
      have he4 : (F_X12_word_w4 I J (0, 0)) = .inl se4 := kr4 _ hb4
      refine w_iconst (v := (-1)) ok dX12_word_123 (by decide) ?_
      exact w_iret ok fin dX12_word_124 rfl (by unfold F_X12_word; simp only [he4]; exact Pd.i)
    show WK K 0 0 4 [(0, .ref 130), (1, .int s4.1), (2, .int s4.2)] [] (eI f I) (eJ f J) R n g
    refine w_iload_n ok dX12_word_4 2 rfl ?_
    refine w_ldcLen ok (by decide) rfl (show STR[3]? = some _ from rfl) dX12_word_5 dX12_word_7 (lX12_214 rfl) (by decide) (Nat.le_of_ble_eq_true rfl) ?_
    refine w_icmp_ge (tgt := 123) ok dX12_word_10 (by decide) (fun c1 => ?_) (fun c1 => ?_)
    · skip
      have eB : B_X12_word_w4 I J s4 = .inr (.inl (s4.1, s4.2)) := by
        unfold B_X12_word_w4; exact (if_pos c1).trans (rfl)
      refine w_loc [0, 1, 2] rfl ?_
      have kk := kx4 _ eB
      exact kk
    · skip
      refine w_iconst (v := 0) ok dX12_word_13 (by decide) ?_
      refine w_istore_n ok dX12_word_14 rfl (by decide) rfl ?_
      refine w_loc [1, 2, 3, 0] rfl ?_
      refine loop_w (fun (s15 : Int32) => WK K 0 0 15 [(0, .ref 130), (1, .int s4.1), (2, .int s4.2), (3, .int s15)] [] (eI f I) (eJ f J) R n g) (fun (s15 : Int32) => WK K 0 0 69 [(0, .ref 130), (1, .int s4.1), (2, .int s4.2), (3, .int s15)] [] (eI f I) (eJ f J) R n g) (B_X12_word_w15 I J s4) 800 0 (F_X12_word_w15 I J s4 0) (itW_some (hp2 n4 s4 hs4 c1)) ?_ ?_
      · show WK K 0 0 69 [(0, .ref 130), (1, .int s4.1), (2, .int s4.2), (3, .int (F_X12_word_w15 I J s4 0))] [] (eI f I) (eJ f J) R n g
        refine w_ldcCh2 ok (by decide) rfl (show STR[3]? = some _ from rfl) dX12_word_69 dX12_word_71 dX12_word_72 dX12_word_73 dX12_word_74 (lX12_219 rfl) (by decide) (Nat.le_of_ble_eq_true rfl) 2 3 rfl rfl (hp3 n4 s4 hs4 c1).1 (hp3 n4 s4 hs4 c1).2 ?_
        refine w_bipush (v := 32) ok dX12_word_77 (by decide) ?_
        refine w_icmp_ne (tgt := 97) ok dX12_word_79 (by decide) (fun c2 => ?_) (fun c2 => ?_)
        · skip
          refine loop_w (fun (s97 : Int32) => WK K 0 0 97 [(0, .ref 130), (1, .int s4.1), (2, .int s97), (3, .int (F_X12_word_w15 I J s4 0))] [] (eI f I) (eJ f J) R n g) (fun (s97 : Int32) => WK K 0 0 114 [(0, .ref 130), (1, .int s4.1), (2, .int s97), (3, .int (F_X12_word_w15 I J s4 0))] [] (eI f I) (eJ f J) R n g) (B_X12_word_w97 I J s4) 800 s4.2 (F_X12_word_w97 I J s4 s4.2) (itW_some (hp4 n4 s4 hs4 c1 c2)) ?_ ?_
          · show WK K 0 0 114 [(0, .ref 130), (1, .int s4.1), (2, .int (F_X12_word_w97 I J s4 s4.2)), (3, .int (F_X12_word_w15 I J s4 0))] [] (eI f I) (eJ f J) R n g
            refine w_iinc (v := (F_X12_word_w97 I J s4 s4.2) + 1) ok dX12_word_114 2 rfl rfl (by decide) rfl ?_
            refine w_iinc (v := s4.1 + 1) ok dX12_word_117 2 rfl rfl (by decide) rfl ?_
            refine w_goto (tgt := 4) ok dX12_word_120 (by decide) ?_
            have eB : B_X12_word_w4 I J s4 = .inl ((s4.1 + 1), ((F_X12_word_w97 I J s4 s4.2) + 1)) := by
              unfold B_X12_word_w4; exact (if_neg c1).trans ((if_neg c2).trans (rfl))
            refine w_loc [2, 0, 1] rfl ?_
            have kk := kc4 _ eB
            exact kk
          · intro n97 s97 hs97 kc97 kx97
            show WK K 0 0 97 [(0, .ref 130), (1, .int s4.1), (2, .int s97), (3, .int (F_X12_word_w15 I J s4 0))] [] (eI f I) (eJ f J) R n g
            refine w_ldcCh ok (by decide) rfl (show STR[3]? = some _ from rfl) dX12_word_97 dX12_word_99 dX12_word_100 (lX12_219 rfl) (by decide) (Nat.le_of_ble_eq_true rfl) 2 rfl (hp5 n4 s4 hs4 c1 c2 n97 s97 hs97).1 (hp5 n4 s4 hs4 c1 c2 n97 s97 hs97).2 ?_
            refine w_bipush (v := 32) ok dX12_word_103 (by decide) ?_
            refine w_icmp_eq (tgt := 114) ok dX12_word_105 (by decide) (fun c3 => ?_) (fun c3 => ?_)
            · skip
              have eB : B_X12_word_w97 I J s4 s97 = .inr s97 := by
                unfold B_X12_word_w97; exact (if_pos c3).trans (rfl)
              refine w_loc [0, 1, 2, 3] rfl ?_
              have kk := kx97 _ eB
              exact kk
            · skip
              refine w_iinc (v := s97 + 1) ok dX12_word_108 2 rfl rfl (by decide) rfl ?_
              refine w_goto (tgt := 97) ok dX12_word_111 (by decide) ?_
              have eB : B_X12_word_w97 I J s4 s97 = .inl (s97 + 1) := by
                unfold B_X12_word_w97; exact (if_neg c3).trans (rfl)
              refine w_loc [1, 2, 0, 3] rfl ?_
              have kk := kc97 _ eB
              exact kk
        · skip
          refine w_aload_n ok dX12_word_82 0 rfl ?_
          refine y_getI ok dX12_word_83 (fX12_185 rfl) (congrArg Prod.fst s_130) rfl (ltM hnn (by decide)) (sdm hf (by decide)) ?_
          refine w_iload_n ok dX12_word_86 3 rfl ?_
          refine w_iadd ok dX12_word_87 ?_
          refine w_aload_n ok dX12_word_88 0 rfl ?_
          refine y_getI ok dX12_word_89 (fX12_175 rfl) (congrArg Prod.fst s_130) rfl (ltM hnn (by decide)) (sdm hf (by decide)) ?_
          refine w_icmp_ne (tgt := 97) ok dX12_word_92 (by decide) (fun c4 => ?_) (fun c4 => ?_)
          · skip
            refine loop_w (fun (s97 : Int32) => WK K 0 0 97 [(0, .ref 130), (1, .int s4.1), (2, .int s97), (3, .int (F_X12_word_w15 I J s4 0))] [] (eI f I) (eJ f J) R n g) (fun (s97 : Int32) => WK K 0 0 114 [(0, .ref 130), (1, .int s4.1), (2, .int s97), (3, .int (F_X12_word_w15 I J s4 0))] [] (eI f I) (eJ f J) R n g) (B_X12_word_w97_2 I J s4) 800 s4.2 (F_X12_word_w97_2 I J s4 s4.2) (itW_some (hp6 n4 s4 hs4 c1 c2 c4)) ?_ ?_
            · show WK K 0 0 114 [(0, .ref 130), (1, .int s4.1), (2, .int (F_X12_word_w97_2 I J s4 s4.2)), (3, .int (F_X12_word_w15 I J s4 0))] [] (eI f I) (eJ f J) R n g
              refine w_iinc (v := (F_X12_word_w97_2 I J s4 s4.2) + 1) ok dX12_word_114 2 rfl rfl (by decide) rfl ?_
              refine w_iinc (v := s4.1 + 1) ok dX12_word_117 2 rfl rfl (by decide) rfl ?_
              refine w_goto (tgt := 4) ok dX12_word_120 (by decide) ?_
              have eB : B_X12_word_w4 I J s4 = .inl ((s4.1 + 1), ((F_X12_word_w97_2 I J s4 s4.2) + 1)) := by
                unfold B_X12_word_w4; exact (if_neg c1).trans ((if_pos c2).trans ((if_neg c4).trans (rfl)))
              refine w_loc [2, 0, 1] rfl ?_
              have kk := kc4 _ eB
              exact kk
            · intro n97 s97 hs97 kc97 kx97
              show WK K 0 0 97 [(0, .ref 130), (1, .int s4.1), (2, .int s97), (3, .int (F_X12_word_w15 I J s4 0))] [] (eI f I) (eJ f J) R n g
              refine w_ldcCh ok (by decide) rfl (show STR[3]? = some _ from rfl) dX12_word_97 dX12_word_99 dX12_word_100 (lX12_219 rfl) (by decide) (Nat.le_of_ble_eq_true rfl) 2 rfl (hp7 n4 s4 hs4 c1 c2 c4 n97 s97 hs97).1 (hp7 n4 s4 hs4 c1 c2 c4 n97 s97 hs97).2 ?_
              refine w_bipush (v := 32) ok dX12_word_103 (by decide) ?_
              refine w_icmp_eq (tgt := 114) ok dX12_word_105 (by decide) (fun c5 => ?_) (fun c5 => ?_)
              · skip
                have eB : B_X12_word_w97_2 I J s4 s97 = .inr s97 := by
                  unfold B_X12_word_w97_2; exact (if_pos c5).trans (rfl)
                refine w_loc [0, 1, 2, 3] rfl ?_
                have kk := kx97 _ eB
                exact kk
              · skip
                refine w_iinc (v := s97 + 1) ok dX12_word_108 2 rfl rfl (by decide) rfl ?_
                refine w_goto (tgt := 97) ok dX12_word_111 (by decide) ?_
                have eB : B_X12_word_w97_2 I J s4 s97 = .inl (s97 + 1) := by
                  unfold B_X12_word_w97_2; exact (if_neg c5).trans (rfl)
                refine w_loc [1, 2, 0, 3] rfl ?_
                have kk := kc97 _ eB
                exact kk
          · skip
            refine w_iload_n ok dX12_word_95 1 rfl ?_
            have eB : B_X12_word_w4 I J s4 = .inr (.inr s4.1) := by
              unfold B_X12_word_w4; exact (if_neg c1).trans ((if_pos c2).trans ((if_pos c4).trans (rfl)))
            have hr : (F_X12_word_w4 I J (0, 0)) = .inr s4.1 := kr4 _ eB
            exact w_iret ok fin dX12_word_96 rfl (by unfold F_X12_word; simp only [hr]; exact Pd.i)
      · intro n15 s15 hs15 kc15 kx15
        show WK K 0 0 15 [(0, .ref 130), (1, .int s4.1), (2, .int s4.2), (3, .int s15)] [] (eI f I) (eJ f J) R n g
        refine w_ldcCh2 ok (by decide) rfl (show STR[3]? = some _ from rfl) dX12_word_15 dX12_word_17 dX12_word_18 dX12_word_19 dX12_word_20 (lX12_219 rfl) (by decide) (Nat.le_of_ble_eq_true rfl) 2 3 rfl rfl (hp8 n4 s4 hs4 c1 n15 s15 hs15).1 (hp8 n4 s4 hs4 c1 n15 s15 hs15).2 ?_
        refine w_bipush (v := 32) ok dX12_word_23 (by decide) ?_
        refine w_icmp_eq (tgt := 69) ok dX12_word_25 (by decide) (fun c6 => ?_) (fun c6 => ?_)
        · skip
          have eB : B_X12_word_w15 I J s4 s15 = .inr s15 := by
            unfold B_X12_word_w15; exact (if_pos c6).trans (rfl)
          refine w_loc [0, 1, 2, 3] rfl ?_
          have kk := kx15 _ eB
          exact kk
        · skip
          refine w_aload_n ok dX12_word_28 0 rfl ?_
          refine y_getI ok dX12_word_29 (fX12_185 rfl) (congrArg Prod.fst s_130) rfl (ltM hnn (by decide)) (sdm hf (by decide)) ?_
          refine w_iload_n ok dX12_word_32 3 rfl ?_
          refine w_iadd ok dX12_word_33 ?_
          refine w_aload_n ok dX12_word_34 0 rfl ?_
          refine y_getI ok dX12_word_35 (fX12_175 rfl) (congrArg Prod.fst s_130) rfl (ltM hnn (by decide)) (sdm hf (by decide)) ?_
          refine w_icmp_ge (tgt := 69) ok dX12_word_38 (by decide) (fun c7 => ?_) (fun c7 => ?_)
          · skip
            have eB : B_X12_word_w15 I J s4 s15 = .inr s15 := by
              unfold B_X12_word_w15; exact (if_neg c6).trans ((if_pos c7).trans (rfl))
            refine w_loc [0, 1, 2, 3] rfl ?_
            have kk := kx15 _ eB
            exact kk
          · skip
            refine w_aload_n ok dX12_word_41 0 rfl ?_
            refine w_getR ok dX12_word_42 (fX12_7 rfl) (congrArg Prod.fst s_130) rfl (r_130_1 ro) (ltM hnn (by decide)) ?_
            refine w_aload_n ok dX12_word_45 0 rfl ?_
            refine y_getI ok dX12_word_46 (fX12_185 rfl) (congrArg Prod.fst s_130) rfl (ltM hnn (by decide)) (sdm hf (by decide)) ?_
            refine w_iload_n ok dX12_word_49 3 rfl ?_
            refine w_iadd ok dX12_word_50 ?_
            refine y_iald (q := ((I 130 27) + s15).toNatClampNeg) ok dX12_word_51 s_131 (hp9 n4 s4 hs4 c1 n15 s15 hs15 c6 c7) (by decide) (ltM hnn (by decide)) (sdm hf (by decide)) ?_
            refine w_ldcCh2 ok (by decide) rfl (show STR[3]? = some _ from rfl) dX12_word_52 dX12_word_54 dX12_word_55 dX12_word_56 dX12_word_57 (lX12_219 rfl) (by decide) (Nat.le_of_ble_eq_true rfl) 2 3 rfl rfl (hp10 n4 s4 hs4 c1 n15 s15 hs15 c6 c7).1 (hp10 n4 s4 hs4 c1 n15 s15 hs15 c6 c7).2 ?_
            refine w_icmp_ne (tgt := 69) ok dX12_word_60 (by decide) (fun c8 => ?_) (fun c8 => ?_)
            · skip
              have eB : B_X12_word_w15 I J s4 s15 = .inr s15 := by
                unfold B_X12_word_w15; exact (if_neg c6).trans ((if_neg c7).trans ((if_neg c8).trans (rfl)))
              refine w_loc [0, 1, 2, 3] rfl ?_
              have kk := kx15 _ eB
              exact kk
            · skip
              refine w_iinc (v := s15 + 1) ok dX12_word_63 3 rfl rfl (by decide) rfl ?_
              refine w_goto (tgt := 15) ok dX12_word_66 (by decide) ?_
              have eB : B_X12_word_w15 I J s4 s15 = .inl (s15 + 1) := by
                unfold B_X12_word_w15; exact (if_neg c6).trans ((if_neg c7).trans ((if_pos c8).trans (rfl)))
              refine w_loc [1, 2, 3, 0] rfl ?_
              have kk := kc15 _ eB
              exact kk
def S1_X12_name (I : SI) (J : SJ) (i7 : Nat) (s7 : SI) : Int32 := ((s7 130 29) <<< (5 &&& 31)) ||| (((s7 131 ((s7 130 27) + (nI i7)).toNatClampNeg) - 97) + 1)
def B_X12_name_l7 (I : SI) (J : SJ) (i7 : Nat) (s7 : SI) : SI := if (s7 130 26) ≤ ((s7 130 27) + (nI i7)) then (u2 s7 130 29 (((s7 130 29) <<< (5 &&& 31)) ||| 0)) else (u2 s7 130 29 (S1_X12_name I J i7 s7))
def F_X12_name_l7 (I : SI) (J : SJ) (s0 : SI) : SI := itN (B_X12_name_l7 I J) (6) s0
def FI_X12_name  (I : SI) (J : SJ) : SI := (F_X12_name_l7 I J (u2 I 130 29 0))
def H_X12_name  (I : SI) (J : SJ) : Prop := (∀ (i7 : Nat) (s7 : SI), i7 < 6 → s7 = itN (B_X12_name_l7 I J) i7 (u2 I 130 29 0) → ¬ ((s7 130 26) ≤ ((s7 130 27) + (nI i7))) → inR ((s7 130 27) + (nI i7)) 700)
set_option maxHeartbeats 1000000 in
set_option maxRecDepth 40000 in
theorem c_X12_name {I : SI} {J : SJ} {R : SR} {n g : Nat} {f : Fr} (ro : RM R) (hnn : nM ≤ n) (hf : f.1 = false)   (hp : H_X12_name  I J) : MM 0 0 0 mX12_name [.ref 130] (eI f I) (eJ f J) R n g (Pd none (eI f (FI_X12_name  I J)) (eJ f J) R n g) := by
  refine MM.of (by decide) (Nat.le_of_ble_eq_true rfl) fun K ok fin => ?_
  show WK K 0 0 0 [(0, .ref 130)] [] (eI f I) (eJ f J) R n g
  have hp1 := hp
  refine w_aload_n ok dX12_name_0 0 rfl ?_
  refine w_iconst (v := 0) ok dX12_name_1 (by decide) ?_
  refine y_putI ok dX12_name_2 (fwX12_198 rfl) (congrArg Prod.fst s_130) rfl (ltM hnn (by decide)) (sdm hf (by decide)) ?_
  refine w_iconst (v := 0) ok dX12_name_5 (by decide) ?_
  refine w_istore_n ok dX12_name_6 rfl (by decide) rfl ?_
  refine w_loc [1, 0] rfl ?_
  refine loop_for (σ := SI) (fun (i7 : Nat) (s7 : SI) => WK K 0 0 7 [(0, .ref 130), (1, .int (nI i7))] [] (eI f s7) (eJ f J) R n g) (B_X12_name_l7 I J) (6) ((u2 I 130 29 0)) ?_ ?_
  · show WK K 0 0 7 [(0, .ref 130), (1, .int (nI 6))] [] (eI f ((F_X12_name_l7 I J (u2 I 130 29 0)))) (eJ f J) R n g
    have e1 : (6 : Int32) ≤ (nI 6) := (show nI 6 ≤ nI 6 from nI_le (by omega) (by decide))
    refine w_iload_n ok dX12_name_7 1 rfl ?_
    refine w_bipush (v := 6) ok dX12_name_8 (by decide) ?_
    refine w_icmp_ge (tgt := 63) ok dX12_name_10 (by decide) (fun _ => ?_) (fun h => absurd e1 h)
    exact w_vret ok fin dX12_name_63 rfl (by unfold FI_X12_name; exact Pd.i)
  · intro i7 s7 hi7 hs7 k7
    show WK K 0 0 7 [(0, .ref 130), (1, .int (nI i7))] [] (eI f s7) (eJ f J) R n g
    have e2 : ¬ ((6 : Int32) ≤ (nI i7)) := (show ¬ (nI 6 ≤ nI i7) from nI_ge (by omega) (by decide))
    refine w_iload_n ok dX12_name_7 1 rfl ?_
    refine w_bipush (v := 6) ok dX12_name_8 (by decide) ?_
    refine w_icmp_ge (tgt := 63) ok dX12_name_10 (by decide) (fun h => absurd h e2) (fun _ => ?_)
    refine w_aload_n ok dX12_name_13 0 rfl ?_
    refine w_aload_n ok dX12_name_14 0 rfl ?_
    refine y_getI ok dX12_name_15 (fX12_198 rfl) (congrArg Prod.fst s_130) rfl (ltM hnn (by decide)) (sdm hf (by decide)) ?_
    refine w_iconst (v := 5) ok dX12_name_18 (by decide) ?_
    refine w_ishl ok dX12_name_19 ?_
    refine w_aload_n ok dX12_name_20 0 rfl ?_
    refine y_getI ok dX12_name_21 (fX12_185 rfl) (congrArg Prod.fst s_130) rfl (ltM hnn (by decide)) (sdm hf (by decide)) ?_
    refine w_iload_n ok dX12_name_24 1 rfl ?_
    refine w_iadd ok dX12_name_25 ?_
    refine w_aload_n ok dX12_name_26 0 rfl ?_
    refine y_getI ok dX12_name_27 (fX12_175 rfl) (congrArg Prod.fst s_130) rfl (ltM hnn (by decide)) (sdm hf (by decide)) ?_
    refine w_icmp_ge (tgt := 52) ok dX12_name_30 (by decide) (fun c3 => ?_) (fun c3 => ?_)
    · skip
      refine w_iconst (v := 0) ok dX12_name_52 (by decide) ?_
      refine w_ior ok dX12_name_53 ?_
      refine y_putI ok dX12_name_54 (fwX12_198 rfl) (congrArg Prod.fst s_130) rfl (ltM hnn (by decide)) (sdm hf (by decide)) ?_
      refine w_iinc (v := (nI i7) + 1) ok dX12_name_57 1 rfl rfl (by decide) rfl ?_
      refine w_goto (tgt := 7) ok dX12_name_60 (by decide) ?_
      have eB : B_X12_name_l7 I J i7 s7 = (u2 s7 130 29 (((s7 130 29) <<< (5 &&& 31)) ||| 0)) := by
        unfold B_X12_name_l7; exact (if_pos c3).trans (rfl)
      have kk := k7
      rw [eB] at kk
      refine w_loc [1, 0] rfl ?_
      rw [nI_1 i7]
      exact kk
    · skip
      refine w_aload_n ok dX12_name_33 0 rfl ?_
      refine w_getR ok dX12_name_34 (fX12_7 rfl) (congrArg Prod.fst s_130) rfl (r_130_1 ro) (ltM hnn (by decide)) ?_
      refine w_aload_n ok dX12_name_37 0 rfl ?_
      refine y_getI ok dX12_name_38 (fX12_185 rfl) (congrArg Prod.fst s_130) rfl (ltM hnn (by decide)) (sdm hf (by decide)) ?_
      refine w_iload_n ok dX12_name_41 1 rfl ?_
      refine w_iadd ok dX12_name_42 ?_
      refine y_iald (q := ((s7 130 27) + (nI i7)).toNatClampNeg) ok dX12_name_43 s_131 (hp1 i7 s7 hi7 hs7 c3) (by decide) (ltM hnn (by decide)) (sdm hf (by decide)) ?_
      refine w_bipush (v := 97) ok dX12_name_44 (by decide) ?_
      refine w_isub ok dX12_name_46 ?_
      refine w_iconst (v := 1) ok dX12_name_47 (by decide) ?_
      refine w_iadd ok dX12_name_48 ?_
      refine w_goto (tgt := 53) ok dX12_name_49 (by decide) ?_
      refine w_ior ok dX12_name_53 ?_
      show WK K 0 0 54 [(0, .ref 130), (1, .int (nI i7))] [.int (S1_X12_name I J i7 s7), .ref 130] (eI f s7) (eJ f J) R n g
      refine y_putI ok dX12_name_54 (fwX12_198 rfl) (congrArg Prod.fst s_130) rfl (ltM hnn (by decide)) (sdm hf (by decide)) ?_
      refine w_iinc (v := (nI i7) + 1) ok dX12_name_57 1 rfl rfl (by decide) rfl ?_
      refine w_goto (tgt := 7) ok dX12_name_60 (by decide) ?_
      have eB : B_X12_name_l7 I J i7 s7 = (u2 s7 130 29 (S1_X12_name I J i7 s7)) := by
        unfold B_X12_name_l7; exact (if_neg c3).trans (rfl)
      have kk := k7
      rw [eB] at kk
      refine w_loc [1, 0] rfl ?_
      rw [nI_1 i7]
      exact kk
def FI_X12_wrong (a0 : Int32) (I : SI) (J : SJ) : SI := if (I 130 30) = 0 then u2 (u2 I 130 30 a0) 130 31 ((u2 I 130 30 a0) 130 27) else I
set_option maxHeartbeats 1000000 in
set_option maxRecDepth 40000 in
theorem c_X12_wrong {I : SI} {J : SJ} {R : SR} {n g : Nat} {f : Fr} (ro : RM R) (hnn : nM ≤ n) (hf : f.1 = false) (a0 : Int32)   : MM 0 0 0 mX12_wrong [.ref 130, .int a0] (eI f I) (eJ f J) R n g (Pd none (eI f (FI_X12_wrong a0 I J)) (eJ f J) R n g) := by
  refine MM.of (by decide) (Nat.le_of_ble_eq_true rfl) fun K ok fin => ?_
  show WK K 0 0 0 [(0, .ref 130), (1, .int a0)] [] (eI f I) (eJ f J) R n g
  refine w_aload_n ok dX12_wrong_0 0 rfl ?_
  refine y_getI ok dX12_wrong_1 (fX12_223 rfl) (congrArg Prod.fst s_130) rfl (ltM hnn (by decide)) (sdm hf (by decide)) ?_
  refine w_if_eq (tgt := 8) ok dX12_wrong_4 (by decide) (fun c1 => ?_) (fun c1 => ?_)
  · skip
    refine w_aload_n ok dX12_wrong_8 0 rfl ?_
    refine w_iload_n ok dX12_wrong_9 1 rfl ?_
    refine y_putI ok dX12_wrong_10 (fwX12_223 rfl) (congrArg Prod.fst s_130) rfl (ltM hnn (by decide)) (sdm hf (by decide)) ?_
    refine w_aload_n ok dX12_wrong_13 0 rfl ?_
    refine w_aload_n ok dX12_wrong_14 0 rfl ?_
    refine y_getI ok dX12_wrong_15 (fX12_185 rfl) (congrArg Prod.fst s_130) rfl (ltM hnn (by decide)) (sdm hf (by decide)) ?_
    refine y_putI ok dX12_wrong_18 (fwX12_226 rfl) (congrArg Prod.fst s_130) rfl (ltM hnn (by decide)) (sdm hf (by decide)) ?_
    exact w_vret ok fin dX12_wrong_21 rfl (by unfold FI_X12_wrong; simp only [if_pos c1]; exact Pd.i)
  · skip
    exact w_vret ok fin dX12_wrong_7 rfl (by unfold FI_X12_wrong; simp only [if_neg c1]; exact Pd.i)
def F_X12_isWord (a0 : Int32) (I : SI) (J : SJ) : Int32 := if (I 130 30) = 0 then (if (I 130 28) = 0 then (if (I 130 29) = a0 then 1 else 0) else 0) else 0
set_option maxHeartbeats 1000000 in
set_option maxRecDepth 40000 in
theorem c_X12_isWord {I : SI} {J : SJ} {R : SR} {n g : Nat} {f : Fr} (ro : RM R) (hnn : nM ≤ n) (hf : f.1 = false) (a0 : Int32)   : MM 0 0 0 mX12_isWord [.ref 130, .int a0] (eI f I) (eJ f J) R n g (Pd (some (.int (F_X12_isWord a0 I J))) (eI f I) (eJ f J) R n g) := by
  refine MM.of (by decide) (Nat.le_of_ble_eq_true rfl) fun K ok fin => ?_
  show WK K 0 0 0 [(0, .ref 130), (1, .int a0)] [] (eI f I) (eJ f J) R n g
  refine w_aload_n ok dX12_isWord_0 0 rfl ?_
  refine y_getI ok dX12_isWord_1 (fX12_223 rfl) (congrArg Prod.fst s_130) rfl (ltM hnn (by decide)) (sdm hf (by decide)) ?_
  refine w_if_ne (tgt := 26) ok dX12_isWord_4 (by decide) (fun c1 => ?_) (fun c1 => ?_)
  · skip
    refine w_iconst (v := 0) ok dX12_isWord_26 (by decide) ?_
    exact w_zret ok fin dX12_isWord_27 rfl (by decide) (by unfold F_X12_isWord; simp only [if_neg c1]; exact Pd.i)
  · skip
    refine w_aload_n ok dX12_isWord_7 0 rfl ?_
    refine y_getI ok dX12_isWord_8 (fX12_188 rfl) (congrArg Prod.fst s_130) rfl (ltM hnn (by decide)) (sdm hf (by decide)) ?_
    refine w_if_ne (tgt := 26) ok dX12_isWord_11 (by decide) (fun c2 => ?_) (fun c2 => ?_)
    · skip
      refine w_iconst (v := 0) ok dX12_isWord_26 (by decide) ?_
      exact w_zret ok fin dX12_isWord_27 rfl (by decide) (by unfold F_X12_isWord; simp only [if_pos c1]; simp only [if_neg c2]; exact Pd.i)
    · skip
      refine w_aload_n ok dX12_isWord_14 0 rfl ?_
      refine y_getI ok dX12_isWord_15 (fX12_198 rfl) (congrArg Prod.fst s_130) rfl (ltM hnn (by decide)) (sdm hf (by decide)) ?_
      refine w_iload_n ok dX12_isWord_18 1 rfl ?_
      refine w_icmp_ne (tgt := 26) ok dX12_isWord_19 (by decide) (fun c3 => ?_) (fun c3 => ?_)
      · skip
        refine w_iconst (v := 0) ok dX12_isWord_26 (by decide) ?_
        exact w_zret ok fin dX12_isWord_27 rfl (by decide) (by unfold F_X12_isWord; simp only [if_pos c1]; simp only [if_pos c2]; simp only [if_neg c3]; exact Pd.i)
      · skip
        refine w_iconst (v := 1) ok dX12_isWord_22 (by decide) ?_
        refine w_goto (tgt := 27) ok dX12_isWord_23 (by decide) ?_
        exact w_zret ok fin dX12_isWord_27 rfl (by decide) (by unfold F_X12_isWord; simp only [if_pos c1]; simp only [if_pos c2]; simp only [if_pos c3]; exact Pd.i)
def F_X12_isSign (a0 : Int32) (I : SI) (J : SJ) : Int32 := if (I 130 30) = 0 then (if (I 130 28) = 3 then (if (I 130 29) = a0 then 1 else 0) else 0) else 0
set_option maxHeartbeats 1000000 in
set_option maxRecDepth 40000 in
theorem c_X12_isSign {I : SI} {J : SJ} {R : SR} {n g : Nat} {f : Fr} (ro : RM R) (hnn : nM ≤ n) (hf : f.1 = false) (a0 : Int32)   : MM 0 0 0 mX12_isSign [.ref 130, .int a0] (eI f I) (eJ f J) R n g (Pd (some (.int (F_X12_isSign a0 I J))) (eI f I) (eJ f J) R n g) := by
  refine MM.of (by decide) (Nat.le_of_ble_eq_true rfl) fun K ok fin => ?_
  show WK K 0 0 0 [(0, .ref 130), (1, .int a0)] [] (eI f I) (eJ f J) R n g
  refine w_aload_n ok dX12_isSign_0 0 rfl ?_
  refine y_getI ok dX12_isSign_1 (fX12_223 rfl) (congrArg Prod.fst s_130) rfl (ltM hnn (by decide)) (sdm hf (by decide)) ?_
  refine w_if_ne (tgt := 27) ok dX12_isSign_4 (by decide) (fun c1 => ?_) (fun c1 => ?_)
  · skip
    refine w_iconst (v := 0) ok dX12_isSign_27 (by decide) ?_
    exact w_zret ok fin dX12_isSign_28 rfl (by decide) (by unfold F_X12_isSign; simp only [if_neg c1]; exact Pd.i)
  · skip
    refine w_aload_n ok dX12_isSign_7 0 rfl ?_
    refine y_getI ok dX12_isSign_8 (fX12_188 rfl) (congrArg Prod.fst s_130) rfl (ltM hnn (by decide)) (sdm hf (by decide)) ?_
    refine w_iconst (v := 3) ok dX12_isSign_11 (by decide) ?_
    refine w_icmp_ne (tgt := 27) ok dX12_isSign_12 (by decide) (fun c2 => ?_) (fun c2 => ?_)
    · skip
      refine w_iconst (v := 0) ok dX12_isSign_27 (by decide) ?_
      exact w_zret ok fin dX12_isSign_28 rfl (by decide) (by unfold F_X12_isSign; simp only [if_pos c1]; simp only [if_neg c2]; exact Pd.i)
    · skip
      refine w_aload_n ok dX12_isSign_15 0 rfl ?_
      refine y_getI ok dX12_isSign_16 (fX12_198 rfl) (congrArg Prod.fst s_130) rfl (ltM hnn (by decide)) (sdm hf (by decide)) ?_
      refine w_iload_n ok dX12_isSign_19 1 rfl ?_
      refine w_icmp_ne (tgt := 27) ok dX12_isSign_20 (by decide) (fun c3 => ?_) (fun c3 => ?_)
      · skip
        refine w_iconst (v := 0) ok dX12_isSign_27 (by decide) ?_
        exact w_zret ok fin dX12_isSign_28 rfl (by decide) (by unfold F_X12_isSign; simp only [if_pos c1]; simp only [if_pos c2]; simp only [if_neg c3]; exact Pd.i)
      · skip
        refine w_iconst (v := 1) ok dX12_isSign_23 (by decide) ?_
        refine w_goto (tgt := 28) ok dX12_isSign_24 (by decide) ?_
        exact w_zret ok fin dX12_isSign_28 rfl (by decide) (by unfold F_X12_isSign; simp only [if_pos c1]; simp only [if_pos c2]; simp only [if_pos c3]; exact Pd.i)
def B_X12_found_l3 (a0 : Nat) (la0 : Nat) (a1 : Int32) (a2 : Int32) (a3 : Int32) (I : SI) (J : SJ) (i3 : Nat) (s3 : Unit) : (Unit) ⊕ (Int32) := if (I a0 (a1 + (nI i3)).toNatClampNeg) = a3 then .inr (nI i3) else .inl ()
def F_X12_found_l3 (a0 : Nat) (la0 : Nat) (a1 : Int32) (a2 : Int32) (a3 : Int32) (I : SI) (J : SJ) (s0 : Unit) : (Unit) ⊕ (Int32) := itE (B_X12_found_l3 a0 la0 a1 a2 a3 I J) (a2.toNatClampNeg) 0 s0
def F_X12_found (a0 : Nat) (la0 : Nat) (a1 : Int32) (a2 : Int32) (a3 : Int32) (I : SI) (J : SJ) : Int32 := (match (F_X12_found_l3 a0 la0 a1 a2 a3 I J ()) with | .inl se3 => -1 | .inr re3 => re3)
