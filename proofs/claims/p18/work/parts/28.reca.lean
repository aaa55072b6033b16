/-! recursion, by program -/
def S1_X12_expression (rec : Nat → SI → SJ → SI × SJ) (I : SI) (J : SJ) (s4 : SI × SJ) : SI := FI_X12_puts 2 262 ((rec 1 (FI_X12_goOn  (FI_X12_knot  s4.1 s4.2) s4.2) s4.2).1) ((rec 1 (FI_X12_goOn  (FI_X12_knot  s4.1 s4.2) s4.2) s4.2).2)
def B_X12_expression_w4 (rec : Nat → SI → SJ → SI × SJ) (I : SI) (J : SJ) (s4 : SI × SJ) : (SI × SJ) ⊕ (SI × SJ) := if (F_X12_isWord 13 s4.1 s4.2) = 0 then .inr (s4.1, s4.2) else .inl ((S1_X12_expression rec I J s4), ((rec 1 (FI_X12_goOn  (FI_X12_knot  s4.1 s4.2) s4.2) s4.2).2))
def F_X12_expression_w4 (rec : Nat → SI → SJ → SI × SJ) (I : SI) (J : SJ) (s0 : SI × SJ) : SI × SJ := (itW (B_X12_expression_w4 rec I J) 800 s0).getD s0
def FI_X12_expression (rec : Nat → SI → SJ → SI × SJ)  (I : SI) (J : SJ) : SI := (F_X12_expression_w4 rec I J (((rec 1 I J).1), ((rec 1 I J).2))).1
def FJ_X12_expression (rec : Nat → SI → SJ → SI × SJ)  (I : SI) (J : SJ) : SJ := (F_X12_expression_w4 rec I J (((rec 1 I J).1), ((rec 1 I J).2))).2
def H_X12_expression (hrec : Nat → SI → SJ → Prop) (rec : Nat → SI → SJ → SI × SJ)  (I : SI) (J : SJ) : Prop := (hrec 1 I J) ∧ ((itW (B_X12_expression_w4 rec I J) 800 (((rec 1 I J).1), ((rec 1 I J).2))).isSome = true) ∧ (∀ (n4 : Nat) (s4 : SI × SJ), wN (B_X12_expression_w4 rec I J) n4 (((rec 1 I J).1), ((rec 1 I J).2)) = some s4 → ¬ ((F_X12_isWord 13 s4.1 s4.2) = 0) → H_X12_goOn  (FI_X12_knot  s4.1 s4.2) s4.2) ∧ (∀ (n4 : Nat) (s4 : SI × SJ), wN (B_X12_expression_w4 rec I J) n4 (((rec 1 I J).1), ((rec 1 I J).2)) = some s4 → ¬ ((F_X12_isWord 13 s4.1 s4.2) = 0) → hrec 1 (FI_X12_goOn  (FI_X12_knot  s4.1 s4.2) s4.2) s4.2) ∧ (∀ (n4 : Nat) (s4 : SI × SJ), wN (B_X12_expression_w4 rec I J) n4 (((rec 1 I J).1), ((rec 1 I J).2)) = some s4 → ¬ ((F_X12_isWord 13 s4.1 s4.2) = 0) → H_X12_puts 2 262 ((rec 1 (FI_X12_goOn  (FI_X12_knot  s4.1 s4.2) s4.2) s4.2).1) ((rec 1 (FI_X12_goOn  (FI_X12_knot  s4.1 s4.2) s4.2) s4.2).2))
set_option maxHeartbeats 1000000 in
set_option maxRecDepth 40000 in
theorem cs_X12_expression {I : SI} {J : SJ} {R : SR} {n g : Nat} {f : Fr} (ro : RM R) (hnn : nM ≤ n) (hf : f.1 = false)   (rec : Nat → SI → SJ → SI × SJ) (hrec : Nat → SI → SJ → Prop) {dd : Nat} (hdd : 7 ≤ dd) (ih0 : ∀ (I : SI) (J : SJ), hrec 0 I J → MM dd 0 0 mX12_expression [.ref 130] (eI f I) (eJ f J) R n g (Pd none (eI f (rec 0 I J).1) (eJ f (rec 0 I J).2) R n g)) (ih1 : ∀ (I : SI) (J : SJ), hrec 1 I J → MM dd 0 0 mX12_conjunction [.ref 130] (eI f I) (eJ f J) R n g (Pd none (eI f (rec 1 I J).1) (eJ f (rec 1 I J).2) R n g)) (ih2 : ∀ (I : SI) (J : SJ), hrec 2 I J → MM dd 0 0 mX12_negation [.ref 130] (eI f I) (eJ f J) R n g (Pd none (eI f (rec 2 I J).1) (eJ f (rec 2 I J).2) R n g)) (ih3 : ∀ (I : SI) (J : SJ), hrec 3 I J → MM dd 0 0 mX12_sum [.ref 130] (eI f I) (eJ f J) R n g (Pd none (eI f (rec 3 I J).1) (eJ f (rec 3 I J).2) R n g)) (ih4 : ∀ (I : SI) (J : SJ), hrec 4 I J → MM dd 0 0 mX12_product [.ref 130] (eI f I) (eJ f J) R n g (Pd none (eI f (rec 4 I J).1) (eJ f (rec 4 I J).2) R n g)) (ih5 : ∀ (I : SI) (J : SJ), hrec 5 I J → MM dd 0 0 mX12_primary [.ref 130] (eI f I) (eJ f J) R n g (Pd none (eI f (rec 5 I J).1) (eJ f (rec 5 I J).2) R n g))  (hp : H_X12_expression hrec rec  I J) : MM (dd + 1) 0 0 mX12_expression [.ref 130] (eI f I) (eJ f J) R n g (Pd none (eI f (FI_X12_expression rec  I J)) (eJ f (FJ_X12_expression rec  I J)) R n g) := by
  refine MM.of (by decide) (Nat.le_of_ble_eq_true rfl) fun K ok fin => ?_
  show WK K 0 0 0 [(0, .ref 130)] [] (eI f I) (eJ f J) R n g
  obtain ⟨hp1, hp2, hp3, hp4, hp5⟩ := hp
  refine w_aload_n ok dX12_expression_0 0 rfl ?_
  refine w_cV (As := []) ok dX12_expression_1 iX12_conjunction (lX12_291 rfl) (rcv cls12 (congrArg Prod.fst s_130)) (ltM hnn (by decide)) (ih1 I J (hp1)) (by omega) rfl (Nat.le_of_ble_eq_true rfl) ?_
  refine loop_w (fun (s4 : SI × SJ) => WK K 0 0 4 [(0, .ref 130)] [] (eI f s4.1) (eJ f s4.2) R n g) (fun (s4 : SI × SJ) => WK K 0 0 36 [(0, .ref 130)] [] (eI f s4.1) (eJ f s4.2) R n g) (B_X12_expression_w4 rec I J) 800 (((rec 1 I J).1), ((rec 1 I J).2)) (F_X12_expression_w4 rec I J (((rec 1 I J).1), ((rec 1 I J).2))) (itW_some (hp2)) ?_ ?_
  · show WK K 0 0 36 [(0, .ref 130)] [] (eI f ((F_X12_expression_w4 rec I J (((rec 1 I J).1), ((rec 1 I J).2))).1)) (eJ f ((F_X12_expression_w4 rec I J (((rec 1 I J).1), ((rec 1 I J).2))).2)) R n g
    exact w_vret ok fin dX12_expression_36 rfl (by unfold FI_X12_expression FJ_X12_expression; exact Pd.i)
  · intro n4 s4 hs4 kc4 kx4
    show WK K 0 0 4 [(0, .ref 130)] [] (eI f s4.1) (eJ f s4.2) R n g
    refine w_aload_n ok dX12_expression_4 0 rfl ?_
    refine w_bipush (v := 13) ok dX12_expression_5 (by decide) ?_
    refine w_cV (As := [.int 13]) ok dX12_expression_7 iX12_isWord (lX12_294 rfl) (rcv cls12 (congrArg Prod.fst s_130)) (ltM hnn (by decide)) (c_X12_isWord ro hnn hf 13 ) (by omega) rfl (Nat.le_of_ble_eq_true rfl) ?_
    refine w_if_eq (tgt := 36) ok dX12_expression_10 (by decide) (fun c1 => ?_) (fun c1 => ?_)
    · skip
      have eB : B_X12_expression_w4 rec I J s4 = .inr (s4.1, s4.2) := by
        unfold B_X12_expression_w4; exact (if_pos c1).trans (rfl)
      refine w_loc [0] rfl ?_
      have kk := kx4 _ eB
      exact kk
    · skip
      refine w_aload_n ok dX12_expression_13 0 rfl ?_
      refine w_cV (As := []) ok dX12_expression_14 iX12_knot (lX12_297 rfl) (rcv cls12 (congrArg Prod.fst s_130)) (ltM hnn (by decide)) (c_X12_knot ro hnn hf  ) (by omega) rfl (Nat.le_of_ble_eq_true rfl) ?_
      refine w_aload_n ok dX12_expression_17 0 rfl ?_
      refine w_cV (As := []) ok dX12_expression_18 iX12_goOn (lX12_279 rfl) (rcv cls12 (congrArg Prod.fst s_130)) (ltM hnn (by decide)) (c_X12_goOn ro hnn hf   (hp3 n4 s4 hs4 c1)) (by omega) rfl (Nat.le_of_ble_eq_true rfl) ?_
      refine w_aload_n ok dX12_expression_21 0 rfl ?_
      refine w_cV (As := []) ok dX12_expression_22 iX12_conjunction (lX12_291 rfl) (rcv cls12 (congrArg Prod.fst s_130)) (ltM hnn (by decide)) (ih1 (FI_X12_goOn  (FI_X12_knot  s4.1 s4.2) s4.2) s4.2 (hp4 n4 s4 hs4 c1)) (by omega) rfl (Nat.le_of_ble_eq_true rfl) ?_
      refine w_aload_n ok dX12_expression_25 0 rfl ?_
      refine w_iconst (v := 2) ok dX12_expression_26 (by decide) ?_
      refine w_sipush (v := 262) ok dX12_expression_27 (by decide) ?_
      refine w_cV (As := [.int 2, .int 262]) ok dX12_expression_30 iX12_puts (lX12_300 rfl) (rcv cls12 (congrArg Prod.fst s_130)) (ltM hnn (by decide)) (c_X12_puts ro hnn hf 2 262  (hp5 n4 s4 hs4 c1)) (by omega) rfl (Nat.le_of_ble_eq_true rfl) ?_
      show WK K 0 0 33 [(0, .ref 130)] [] (eI f (S1_X12_expression rec I J s4)) (eJ f ((rec 1 (FI_X12_goOn  (FI_X12_knot  s4.1 s4.2) s4.2) s4.2).2)) R n g
      refine w_goto (tgt := 4) ok dX12_expression_33 (by decide) ?_
      have eB : B_X12_expression_w4 rec I J s4 = .inl ((S1_X12_expression rec I J s4), ((rec 1 (FI_X12_goOn  (FI_X12_knot  s4.1 s4.2) s4.2) s4.2).2)) := by
        unfold B_X12_expression_w4; exact (if_neg c1).trans (rfl)
      refine w_loc [0] rfl ?_
      have kk := kc4 _ eB
      exact kk
def S1_X12_conjunction (rec : Nat → SI → SJ → SI × SJ) (I : SI) (J : SJ) (s4 : SI × SJ) : SI := FI_X12_puts 2 261 ((rec 2 (FI_X12_goOn  (FI_X12_knot  s4.1 s4.2) s4.2) s4.2).1) ((rec 2 (FI_X12_goOn  (FI_X12_knot  s4.1 s4.2) s4.2) s4.2).2)
def B_X12_conjunction_w4 (rec : Nat → SI → SJ → SI × SJ) (I : SI) (J : SJ) (s4 : SI × SJ) : (SI × SJ) ⊕ (SI × SJ) := if (F_X12_isWord 14 s4.1 s4.2) = 0 then .inr (s4.1, s4.2) else .inl ((S1_X12_conjunction rec I J s4), ((rec 2 (FI_X12_goOn  (FI_X12_knot  s4.1 s4.2) s4.2) s4.2).2))
def F_X12_conjunction_w4 (rec : Nat → SI → SJ → SI × SJ) (I : SI) (J : SJ) (s0 : SI × SJ) : SI × SJ := (itW (B_X12_conjunction_w4 rec I J) 800 s0).getD s0
def FI_X12_conjunction (rec : Nat → SI → SJ → SI × SJ)  (I : SI) (J : SJ) : SI := (F_X12_conjunction_w4 rec I J (((rec 2 I J).1), ((rec 2 I J).2))).1
def FJ_X12_conjunction (rec : Nat → SI → SJ → SI × SJ)  (I : SI) (J : SJ) : SJ := (F_X12_conjunction_w4 rec I J (((rec 2 I J).1), ((rec 2 I J).2))).2
def H_X12_conjunction (hrec : Nat → SI → SJ → Prop) (rec : Nat → SI → SJ → SI × SJ)  (I : SI) (J : SJ) : Prop := (hrec 2 I J) ∧ ((itW (B_X12_conjunction_w4 rec I J) 800 (((rec 2 I J).1), ((rec 2 I J).2))).isSome = true) ∧ (∀ (n4 : Nat) (s4 : SI × SJ), wN (B_X12_conjunction_w4 rec I J) n4 (((rec 2 I J).1), ((rec 2 I J).2)) = some s4 → ¬ ((F_X12_isWord 14 s4.1 s4.2) = 0) → H_X12_goOn  (FI_X12_knot  s4.1 s4.2) s4.2) ∧ (∀ (n4 : Nat) (s4 : SI × SJ), wN (B_X12_conjunction_w4 rec I J) n4 (((rec 2 I J).1), ((rec 2 I J).2)) = some s4 → ¬ ((F_X12_isWord 14 s4.1 s4.2) = 0) → hrec 2 (FI_X12_goOn  (FI_X12_knot  s4.1 s4.2) s4.2) s4.2) ∧ (∀ (n4 : Nat) (s4 : SI × SJ), wN (B_X12_conjunction_w4 rec I J) n4 (((rec 2 I J).1), ((rec 2 I J).2)) = some s4 → ¬ ((F_X12_isWord 14 s4.1 s4.2) = 0) → H_X12_puts 2 261 ((rec 2 (FI_X12_goOn  (FI_X12_knot  s4.1 s4.2) s4.2) s4.2).1) ((rec 2 (FI_X12_goOn  (FI_X12_knot  s4.1 s4.2) s4.2) s4.2).2))
set_option maxHeartbeats 1000000 in
set_option maxRecDepth 40000 in
theorem cs_X12_conjunction {I : SI} {J : SJ} {R : SR} {n g : Nat} {f : Fr} (ro : RM R) (hnn : nM ≤ n) (hf : f.1 = false)   (rec : Nat → SI → SJ → SI × SJ) (hrec : Nat → SI → SJ → Prop) {dd : Nat} (hdd : 7 ≤ dd) (ih0 : ∀ (I : SI) (J : SJ), hrec 0 I J → MM dd 0 0 mX12_expression [.ref 130] (eI f I) (eJ f J) R n g (Pd none (eI f (rec 0 I J).1) (eJ f (rec 0 I J).2) R n g)) (ih1 : ∀ (I : SI) (J : SJ), hrec 1 I J → MM dd 0 0 mX12_conjunction [.ref 130] (eI f I) (eJ f J) R n g (Pd none (eI f (rec 1 I J).1) (eJ f (rec 1 I J).2) R n g)) (ih2 : ∀ (I : SI) (J : SJ), hrec 2 I J → MM dd 0 0 mX12_negation [.ref 130] (eI f I) (eJ f J) R n g (Pd none (eI f (rec 2 I J).1) (eJ f (rec 2 I J).2) R n g)) (ih3 : ∀ (I : SI) (J : SJ), hrec 3 I J → MM dd 0 0 mX12_sum [.ref 130] (eI f I) (eJ f J) R n g (Pd none (eI f (rec 3 I J).1) (eJ f (rec 3 I J).2) R n g)) (ih4 : ∀ (I : SI) (J : SJ), hrec 4 I J → MM dd 0 0 mX12_product [.ref 130] (eI f I) (eJ f J) R n g (Pd none (eI f (rec 4 I J).1) (eJ f (rec 4 I J).2) R n g)) (ih5 : ∀ (I : SI) (J : SJ), hrec 5 I J → MM dd 0 0 mX12_primary [.ref 130] (eI f I) (eJ f J) R n g (Pd none (eI f (rec 5 I J).1) (eJ f (rec 5 I J).2) R n g))  (hp : H_X12_conjunction hrec rec  I J) : MM (dd + 1) 0 0 mX12_conjunction [.ref 130] (eI f I) (eJ f J) R n g (Pd none (eI f (FI_X12_conjunction rec  I J)) (eJ f (FJ_X12_conjunction rec  I J)) R n g) := by
  refine MM.of (by decide) (Nat.le_of_ble_eq_true rfl) fun K ok fin => ?_
  show WK K 0 0 0 [(0, .ref 130)] [] (eI f I) (eJ f J) R n g
  obtain ⟨hp1, hp2, hp3, hp4, hp5⟩ := hp
  refine w_aload_n ok dX12_conjunction_0 0 rfl ?_
  refine w_cV (As := []) ok dX12_conjunction_1 iX12_negation (lX12_303 rfl) (rcv cls12 (congrArg Prod.fst s_130)) (ltM hnn (by decide)) (ih2 I J (hp1)) (by omega) rfl (Nat.le_of_ble_eq_true rfl) ?_
  refine loop_w (fun (s4 : SI × SJ) => WK K 0 0 4 [(0, .ref 130)] [] (eI f s4.1) (eJ f s4.2) R n g) (fun (s4 : SI × SJ) => WK K 0 0 36 [(0, .ref 130)] [] (eI f s4.1) (eJ f s4.2) R n g) (B_X12_conjunction_w4 rec I J) 800 (((rec 2 I J).1), ((rec 2 I J).2)) (F_X12_conjunction_w4 rec I J (((rec 2 I J).1), ((rec 2 I J).2))) (itW_some (hp2)) ?_ ?_
  · show WK K 0 0 36 [(0, .ref 130)] [] (eI f ((F_X12_conjunction_w4 rec I J (((rec 2 I J).1), ((rec 2 I J).2))).1)) (eJ f ((F_X12_conjunction_w4 rec I J (((rec 2 I J).1), ((rec 2 I J).2))).2)) R n g
    exact w_vret ok fin dX12_conjunction_36 rfl (by unfold FI_X12_conjunction FJ_X12_conjunction; exact Pd.i)
  · intro n4 s4 hs4 kc4 kx4
    show WK K 0 0 4 [(0, .ref 130)] [] (eI f s4.1) (eJ f s4.2) R n g
    refine w_aload_n ok dX12_conjunction_4 0 rfl ?_
    refine w_bipush (v := 14) ok dX12_conjunction_5 (by decide) ?_
    refine w_cV (As := [.int 14]) ok dX12_conjunction_7 iX12_isWord (lX12_294 rfl) (rcv cls12 (congrArg Prod.fst s_130)) (ltM hnn (by decide)) (c_X12_isWord ro hnn hf 14 ) (by omega) rfl (Nat.le_of_ble_eq_true rfl) ?_
    refine w_if_eq (tgt := 36) ok dX12_conjunction_10 (by decide) (fun c1 => ?_) (fun c1 => ?_)
    · skip
      have eB : B_X12_conjunction_w4 rec I J s4 = .inr (s4.1, s4.2) := by
        unfold B_X12_conjunction_w4; exact (if_pos c1).trans (rfl)
      refine w_loc [0] rfl ?_
      have kk := kx4 _ eB
      exact kk
    · skip
      refine w_aload_n ok dX12_conjunction_13 0 rfl ?_
      refine w_cV (As := []) ok dX12_conjunction_14 iX12_knot (lX12_297 rfl) (rcv cls12 (congrArg Prod.fst s_130)) (ltM hnn (by decide)) (c_X12_knot ro hnn hf  ) (by omega) rfl (Nat.le_of_ble_eq_true rfl) ?_
      refine w_aload_n ok dX12_conjunction_17 0 rfl ?_
      refine w_cV (As := []) ok dX12_conjunction_18 iX12_goOn (lX12_279 rfl) (rcv cls12 (congrArg Prod.fst s_130)) (ltM hnn (by decide)) (c_X12_goOn ro hnn hf   (hp3 n4 s4 hs4 c1)) (by omega) rfl (Nat.le_of_ble_eq_true rfl) ?_
      refine w_aload_n ok dX12_conjunction_21 0 rfl ?_
      refine w_cV (As := []) ok dX12_conjunction_22 iX12_negation (lX12_303 rfl) (rcv cls12 (congrArg Prod.fst s_130)) (ltM hnn (by decide)) (ih2 (FI_X12_goOn  (FI_X12_knot  s4.1 s4.2) s4.2) s4.2 (hp4 n4 s4 hs4 c1)) (by omega) rfl (Nat.le_of_ble_eq_true rfl) ?_
      refine w_aload_n ok dX12_conjunction_25 0 rfl ?_
      refine w_iconst (v := 2) ok dX12_conjunction_26 (by decide) ?_
      refine w_sipush (v := 261) ok dX12_conjunction_27 (by decide) ?_
      refine w_cV (As := [.int 2, .int 261]) ok dX12_conjunction_30 iX12_puts (lX12_300 rfl) (rcv cls12 (congrArg Prod.fst s_130)) (ltM hnn (by decide)) (c_X12_puts ro hnn hf 2 261  (hp5 n4 s4 hs4 c1)) (by omega) rfl (Nat.le_of_ble_eq_true rfl) ?_
      show WK K 0 0 33 [(0, .ref 130)] [] (eI f (S1_X12_conjunction rec I J s4)) (eJ f ((rec 2 (FI_X12_goOn  (FI_X12_knot  s4.1 s4.2) s4.2) s4.2).2)) R n g
      refine w_goto (tgt := 4) ok dX12_conjunction_33 (by decide) ?_
      have eB : B_X12_conjunction_w4 rec I J s4 = .inl ((S1_X12_conjunction rec I J s4), ((rec 2 (FI_X12_goOn  (FI_X12_knot  s4.1 s4.2) s4.2) s4.2).2)) := by
        unfold B_X12_conjunction_w4; exact (if_neg c1).trans (rfl)
      refine w_loc [0] rfl ?_
      have kk := kc4 _ eB
      exact kk
def S1_X12_negation (rec : Nat → SI → SJ → SI × SJ) (I : SI) (J : SJ) : SI := FI_X12_goOn  (FI_X12_knot  ((rec 3 I J).1) ((rec 3 I J).2)) ((rec 3 I J).2)
def S2_X12_negation (rec : Nat → SI → SJ → SI × SJ) (I : SI) (J : SJ) : SI := FI_X12_puts 2 (((rec 3 I J).1) 130 29) ((rec 3 (S1_X12_negation rec I J) ((rec 3 I J).2)).1) ((rec 3 (S1_X12_negation rec I J) ((rec 3 I J).2)).2)
def S3_X12_negation (rec : Nat → SI → SJ → SI × SJ) (I : SI) (J : SJ) : SI := FI_X12_goOn  (FI_X12_knot  ((rec 3 I J).1) ((rec 3 I J).2)) ((rec 3 I J).2)
def S4_X12_negation (rec : Nat → SI → SJ → SI × SJ) (I : SI) (J : SJ) : SI := FI_X12_puts 2 (((rec 3 I J).1) 130 29) ((rec 3 (S3_X12_negation rec I J) ((rec 3 I J).2)).1) ((rec 3 (S3_X12_negation rec I J) ((rec 3 I J).2)).2)
def S5_X12_negation (rec : Nat → SI → SJ → SI × SJ) (I : SI) (J : SJ) : SI := FI_X12_goOn  (FI_X12_knot  ((rec 3 I J).1) ((rec 3 I J).2)) ((rec 3 I J).2)
def S6_X12_negation (rec : Nat → SI → SJ → SI × SJ) (I : SI) (J : SJ) : SI := FI_X12_puts 2 (((rec 3 I J).1) 130 29) ((rec 3 (S5_X12_negation rec I J) ((rec 3 I J).2)).1) ((rec 3 (S5_X12_negation rec I J) ((rec 3 I J).2)).2)
def S7_X12_negation (rec : Nat → SI → SJ → SI × SJ) (I : SI) (J : SJ) : SI := FI_X12_goOn  (FI_X12_knot  ((rec 3 I J).1) ((rec 3 I J).2)) ((rec 3 I J).2)
def S8_X12_negation (rec : Nat → SI → SJ → SI × SJ) (I : SI) (J : SJ) : SI := FI_X12_puts 2 (((rec 3 I J).1) 130 29) ((rec 3 (S7_X12_negation rec I J) ((rec 3 I J).2)).1) ((rec 3 (S7_X12_negation rec I J) ((rec 3 I J).2)).2)
def S9_X12_negation (rec : Nat → SI → SJ → SI × SJ) (I : SI) (J : SJ) : SI := FI_X12_puts 2 260 ((rec 2 (FI_X12_goOn  (FI_X12_knot  I J) J) J).1) ((rec 2 (FI_X12_goOn  (FI_X12_knot  I J) J) J).2)
def FI_X12_negation (rec : Nat → SI → SJ → SI × SJ)  (I : SI) (J : SJ) : SI := if (F_X12_isWord 15 I J) = 0 then (if (((rec 3 I J).1) 130 30) = 0 then (if (((rec 3 I J).1) 130 28) = 3 then (if (((rec 3 I J).1) 130 29) = 60 then (S2_X12_negation rec I J) else (if (((rec 3 I J).1) 130 29) = 62 then (S4_X12_negation rec I J) else (if (((rec 3 I J).1) 130 29) = 61 then (S6_X12_negation rec I J) else (if (256 : Int32) ≤ (((rec 3 I J).1) 130 29) then (S8_X12_negation rec I J) else (rec 3 I J).1)))) else (rec 3 I J).1) else (rec 3 I J).1) else (S9_X12_negation rec I J)
def FJ_X12_negation (rec : Nat → SI → SJ → SI × SJ)  (I : SI) (J : SJ) : SJ := if (F_X12_isWord 15 I J) = 0 then (if (((rec 3 I J).1) 130 30) = 0 then (if (((rec 3 I J).1) 130 28) = 3 then (if (((rec 3 I J).1) 130 29) = 60 then (rec 3 (S1_X12_negation rec I J) ((rec 3 I J).2)).2 else (if (((rec 3 I J).1) 130 29) = 62 then (rec 3 (S3_X12_negation rec I J) ((rec 3 I J).2)).2 else (if (((rec 3 I J).1) 130 29) = 61 then (rec 3 (S5_X12_negation rec I J) ((rec 3 I J).2)).2 else (if (256 : Int32) ≤ (((rec 3 I J).1) 130 29) then (rec 3 (S7_X12_negation rec I J) ((rec 3 I J).2)).2 else (rec 3 I J).2)))) else (rec 3 I J).2) else (rec 3 I J).2) else (rec 2 (FI_X12_goOn  (FI_X12_knot  I J) J) J).2
def H_X12_negation (hrec : Nat → SI → SJ → Prop) (rec : Nat → SI → SJ → SI × SJ)  (I : SI) (J : SJ) : Prop := ((F_X12_isWord 15 I J) = 0 → hrec 3 I J) ∧ ((F_X12_isWord 15 I J) = 0 → (((rec 3 I J).1) 130 30) = 0 → (((rec 3 I J).1) 130 28) = 3 → (((rec 3 I J).1) 130 29) = 60 → H_X12_goOn  (FI_X12_knot  ((rec 3 I J).1) ((rec 3 I J).2)) ((rec 3 I J).2)) ∧ ((F_X12_isWord 15 I J) = 0 → (((rec 3 I J).1) 130 30) = 0 → (((rec 3 I J).1) 130 28) = 3 → (((rec 3 I J).1) 130 29) = 60 → hrec 3 (S1_X12_negation rec I J) ((rec 3 I J).2)) ∧ ((F_X12_isWord 15 I J) = 0 → (((rec 3 I J).1) 130 30) = 0 → (((rec 3 I J).1) 130 28) = 3 → (((rec 3 I J).1) 130 29) = 60 → H_X12_puts 2 (((rec 3 I J).1) 130 29) ((rec 3 (S1_X12_negation rec I J) ((rec 3 I J).2)).1) ((rec 3 (S1_X12_negation rec I J) ((rec 3 I J).2)).2)) ∧ ((F_X12_isWord 15 I J) = 0 → (((rec 3 I J).1) 130 30) = 0 → (((rec 3 I J).1) 130 28) = 3 → ¬ ((((rec 3 I J).1) 130 29) = 60) → (((rec 3 I J).1) 130 29) = 62 → H_X12_goOn  (FI_X12_knot  ((rec 3 I J).1) ((rec 3 I J).2)) ((rec 3 I J).2)) ∧ ((F_X12_isWord 15 I J) = 0 → (((rec 3 I J).1) 130 30) = 0 → (((rec 3 I J).1) 130 28) = 3 → ¬ ((((rec 3 I J).1) 130 29) = 60) → (((rec 3 I J).1) 130 29) = 62 → hrec 3 (S3_X12_negation rec I J) ((rec 3 I J).2)) ∧ ((F_X12_isWord 15 I J) = 0 → (((rec 3 I J).1) 130 30) = 0 → (((rec 3 I J).1) 130 28) = 3 → ¬ ((((rec 3 I J).1) 130 29) = 60) → (((rec 3 I J).1) 130 29) = 62 → H_X12_puts 2 (((rec 3 I J).1) 130 29) ((rec 3 (S3_X12_negation rec I J) ((rec 3 I J).2)).1) ((rec 3 (S3_X12_negation rec I J) ((rec 3 I J).2)).2)) ∧ ((F_X12_isWord 15 I J) = 0 → (((rec 3 I J).1) 130 30) = 0 → (((rec 3 I J).1) 130 28) = 3 → ¬ ((((rec 3 I J).1) 130 29) = 60) → ¬ ((((rec 3 I J).1) 130 29) = 62) → (((rec 3 I J).1) 130 29) = 61 → H_X12_goOn  (FI_X12_knot  ((rec 3 I J).1) ((rec 3 I J).2)) ((rec 3 I J).2)) ∧ ((F_X12_isWord 15 I J) = 0 → (((rec 3 I J).1) 130 30) = 0 → (((rec 3 I J).1) 130 28) = 3 → ¬ ((((rec 3 I J).1) 130 29) = 60) → ¬ ((((rec 3 I J).1) 130 29) = 62) → (((rec 3 I J).1) 130 29) = 61 → hrec 3 (S5_X12_negation rec I J) ((rec 3 I J).2)) ∧ ((F_X12_isWord 15 I J) = 0 → (((rec 3 I J).1) 130 30) = 0 → (((rec 3 I J).1) 130 28) = 3 → ¬ ((((rec 3 I J).1) 130 29) = 60) → ¬ ((((rec 3 I J).1) 130 29) = 62) → (((rec 3 I J).1) 130 29) = 61 → H_X12_puts 2 (((rec 3 I J).1) 130 29) ((rec 3 (S5_X12_negation rec I J) ((rec 3 I J).2)).1) ((rec 3 (S5_X12_negation rec I J) ((rec 3 I J).2)).2)) ∧ ((F_X12_isWord 15 I J) = 0 → (((rec 3 I J).1) 130 30) = 0 → (((rec 3 I J).1) 130 28) = 3 → ¬ ((((rec 3 I J).1) 130 29) = 60) → ¬ ((((rec 3 I J).1) 130 29) = 62) → ¬ ((((rec 3 I J).1) 130 29) = 61) → (256 : Int32) ≤ (((rec 3 I J).1) 130 29) → H_X12_goOn  (FI_X12_knot  ((rec 3 I J).1) ((rec 3 I J).2)) ((rec 3 I J).2)) ∧ ((F_X12_isWord 15 I J) = 0 → (((rec 3 I J).1) 130 30) = 0 → (((rec 3 I J).1) 130 28) = 3 → ¬ ((((rec 3 I J).1) 130 29) = 60) → ¬ ((((rec 3 I J).1) 130 29) = 62) → ¬ ((((rec 3 I J).1) 130 29) = 61) → (256 : Int32) ≤ (((rec 3 I J).1) 130 29) → hrec 3 (S7_X12_negation rec I J) ((rec 3 I J).2)) ∧ ((F_X12_isWord 15 I J) = 0 → (((rec 3 I J).1) 130 30) = 0 → (((rec 3 I J).1) 130 28) = 3 → ¬ ((((rec 3 I J).1) 130 29) = 60) → ¬ ((((rec 3 I J).1) 130 29) = 62) → ¬ ((((rec 3 I J).1) 130 29) = 61) → (256 : Int32) ≤ (((rec 3 I J).1) 130 29) → H_X12_puts 2 (((rec 3 I J).1) 130 29) ((rec 3 (S7_X12_negation rec I J) ((rec 3 I J).2)).1) ((rec 3 (S7_X12_negation rec I J) ((rec 3 I J).2)).2)) ∧ (¬ ((F_X12_isWord 15 I J) = 0) → H_X12_goOn  (FI_X12_knot  I J) J) ∧ (¬ ((F_X12_isWord 15 I J) = 0) → hrec 2 (FI_X12_goOn  (FI_X12_knot  I J) J) J) ∧ (¬ ((F_X12_isWord 15 I J) = 0) → H_X12_puts 2 260 ((rec 2 (FI_X12_goOn  (FI_X12_knot  I J) J) J).1) ((rec 2 (FI_X12_goOn  (FI_X12_knot  I J) J) J).2))
set_option maxHeartbeats 1230000 in
set_option maxRecDepth 40000 in
theorem cs_X12_negation {I : SI} {J : SJ} {R : SR} {n g : Nat} {f : Fr} (ro : RM R) (hnn : nM ≤ n) (hf : f.1 = false)   (rec : Nat → SI → SJ → SI × SJ) (hrec : Nat → SI → SJ → Prop) {dd : Nat} (hdd : 7 ≤ dd) (ih0 : ∀ (I : SI) (J : SJ), hrec 0 I J → MM dd 0 0 mX12_expression [.ref 130] (eI f I) (eJ f J) R n g (Pd none (eI f (rec 0 I J).1) (eJ f (rec 0 I J).2) R n g)) (ih1 : ∀ (I : SI) (J : SJ), hrec 1 I J → MM dd 0 0 mX12_conjunction [.ref 130] (eI f I) (eJ f J) R n g (Pd none (eI f (rec 1 I J).1) (eJ f (rec 1 I J).2) R n g)) (ih2 : ∀ (I : SI) (J : SJ), hrec 2 I J → MM dd 0 0 mX12_negation [.ref 130] (eI f I) (eJ f J) R n g (Pd none (eI f (rec 2 I J).1) (eJ f (rec 2 I J).2) R n g)) (ih3 : ∀ (I : SI) (J : SJ), hrec 3 I J → MM dd 0 0 mX12_sum [.ref 130] (eI f I) (eJ f J) R n g (Pd none (eI f (rec 3 I J).1) (eJ f (rec 3 I J).2) R n g)) (ih4 : ∀ (I : SI) (J : SJ), hrec 4 I J → MM dd 0 0 mX12_product [.ref 130] (eI f I) (eJ f J) R n g (Pd none (eI f (rec 4 I J).1) (eJ f (rec 4 I J).2) R n g)) (ih5 : ∀ (I : SI) (J : SJ), hrec 5 I J → MM dd 0 0 mX12_primary [.ref 130] (eI f I) (eJ f J) R n g (Pd none (eI f (rec 5 I J).1) (eJ f (rec 5 I J).2) R n g))  (hp : H_X12_negation hrec rec  I J) : MM (dd + 1) 0 0 mX12_negation [.ref 130] (eI f I) (eJ f J) R n g (Pd none (eI f (FI_X12_negation rec  I J)) (eJ f (FJ_X12_negation rec  I J)) R n g) := by
  refine MM.of (by decide) (Nat.le_of_ble_eq_true rfl) fun K ok fin => ?_
  show WK K 0 0 0 [(0, .ref 130)] [] (eI f I) (eJ f J) R n g
  obtain ⟨hp1, hp2, hp3, hp4, hp5, hp6, hp7, hp8, hp9, hp10, hp11, hp12, hp13, hp14, hp15, hp16⟩ := hp
  refine w_aload_n ok dX12_negation_0 0 rfl ?_
  refine w_bipush (v := 15) ok dX12_negation_1 (by decide) ?_
  refine w_cV (As := [.int 15]) ok dX12_negation_3 iX12_isWord (lX12_294 rfl) (rcv cls12 (congrArg Prod.fst s_130)) (ltM hnn (by decide)) (c_X12_isWord ro hnn hf 15 ) (by omega) rfl (Nat.le_of_ble_eq_true rfl) ?_
  refine w_if_eq (tgt := 30) ok dX12_negation_6 (by decide) (fun c1 => ?_) (fun c1 => ?_)
  · skip
    refine w_aload_n ok dX12_negation_30 0 rfl ?_
    refine w_cV (As := []) ok dX12_negation_31 iX12_sum (lX12_306 rfl) (rcv cls12 (congrArg Prod.fst s_130)) (ltM hnn (by decide)) (ih3 I J (hp1 c1)) (by omega) rfl (Nat.le_of_ble_eq_true rfl) ?_
    refine w_aload_n ok dX12_negation_34 0 rfl ?_
    refine y_getI ok dX12_negation_35 (fX12_223 rfl) (congrArg Prod.fst s_130) rfl (ltM hnn (by decide)) (sdm hf (by decide)) ?_
    refine w_if_ne (tgt := 86) ok dX12_negation_38 (by decide) (fun c2 => ?_) (fun c2 => ?_)
    · skip
      exact w_vret ok fin dX12_negation_86 rfl (by unfold FI_X12_negation FJ_X12_negation; simp only [if_pos c1]; simp only [if_neg c2]; exact Pd.i)
    · skip
      refine w_aload_n ok dX12_negation_41 0 rfl ?_
      refine y_getI ok dX12_negation_42 (fX12_188 rfl) (congrArg Prod.fst s_130) rfl (ltM hnn (by decide)) (sdm hf (by decide)) ?_
      refine w_iconst (v := 3) ok dX12_negation_45 (by decide) ?_
      refine w_icmp_ne (tgt := 86) ok dX12_negation_46 (by decide) (fun c3 => ?_) (fun c3 => ?_)
      · skip
        exact w_vret ok fin dX12_negation_86 rfl (by unfold FI_X12_negation FJ_X12_negation; simp only [if_pos c1]; simp only [if_pos c2]; simp only [if_neg c3]; exact Pd.i)
      · skip
        refine w_aload_n ok dX12_negation_49 0 rfl ?_
        refine y_getI ok dX12_negation_50 (fX12_198 rfl) (congrArg Prod.fst s_130) rfl (ltM hnn (by decide)) (sdm hf (by decide)) ?_
        refine w_bipush (v := 60) ok dX12_negation_53 (by decide) ?_
        refine w_icmp_eq (tgt := 87) ok dX12_negation_55 (by decide) (fun c4 => ?_) (fun c4 => ?_)
        · skip
          refine w_aload_n ok dX12_negation_87 0 rfl ?_
          refine y_getI ok dX12_negation_88 (fX12_198 rfl) (congrArg Prod.fst s_130) rfl (ltM hnn (by decide)) (sdm hf (by decide)) ?_
          refine w_istore_n ok dX12_negation_91 rfl (by decide) rfl ?_
          refine w_aload_n ok dX12_negation_92 1 rfl ?_
          refine w_cV (As := []) ok dX12_negation_93 iX12_knot (lX12_297 rfl) (rcv cls12 (congrArg Prod.fst s_130)) (ltM hnn (by decide)) (c_X12_knot ro hnn hf  ) (by omega) rfl (Nat.le_of_ble_eq_true rfl) ?_
          refine w_aload_n ok dX12_negation_96 1 rfl ?_
          refine w_cV (As := []) ok dX12_negation_97 iX12_goOn (lX12_279 rfl) (rcv cls12 (congrArg Prod.fst s_130)) (ltM hnn (by decide)) (c_X12_goOn ro hnn hf   (hp2 c1 c2 c3 c4)) (by omega) rfl (Nat.le_of_ble_eq_true rfl) ?_
          show WK K 0 0 100 [(1, .int (((rec 3 I J).1) 130 29)), (0, .ref 130)] [] (eI f (S1_X12_negation rec I J)) (eJ f ((rec 3 I J).2)) R n g
          refine w_aload_n ok dX12_negation_100 1 rfl ?_
          refine w_cV (As := []) ok dX12_negation_101 iX12_sum (lX12_306 rfl) (rcv cls12 (congrArg Prod.fst s_130)) (ltM hnn (by decide)) (ih3 (S1_X12_negation rec I J) ((rec 3 I J).2) (hp3 c1 c2 c3 c4)) (by omega) rfl (Nat.le_of_ble_eq_true rfl) ?_
          refine w_aload_n ok dX12_negation_104 1 rfl ?_
          refine w_iconst (v := 2) ok dX12_negation_105 (by decide) ?_
          refine w_iload_n ok dX12_negation_106 0 rfl ?_
          refine w_cV (As := [.int 2, .int (((rec 3 I J).1) 130 29)]) ok dX12_negation_107 iX12_puts (lX12_300 rfl) (rcv cls12 (congrArg Prod.fst s_130)) (ltM hnn (by decide)) (c_X12_puts ro hnn hf 2 (((rec 3 I J).1) 130 29)  (hp4 c1 c2 c3 c4)) (by omega) rfl (Nat.le_of_ble_eq_true rfl) ?_
          show WK K 0 0 110 [(1, .int (((rec 3 I J).1) 130 29)), (0, .ref 130)] [] (eI f (S2_X12_negation rec I J)) (eJ f ((rec 3 (S1_X12_negation rec I J) ((rec 3 I J).2)).2)) R n g
          exact w_vret ok fin dX12_negation_110 rfl (by unfold FI_X12_negation FJ_X12_negation; simp only [if_pos c1]; simp only [if_pos c2]; simp only [if_pos c3]; simp only [if_pos c4]; exact Pd.i)
        · skip
          refine w_aload_n ok dX12_negation_58 0 rfl ?_
          refine y_getI ok dX12_negation_59 (fX12_198 rfl) (congrArg Prod.fst s_130) rfl (ltM hnn (by decide)) (sdm hf (by decide)) ?_
          refine w_bipush (v := 62) ok dX12_negation_62 (by decide) ?_
          refine w_icmp_eq (tgt := 87) ok dX12_negation_64 (by decide) (fun c5 => ?_) (fun c5 => ?_)
          · skip
            refine w_aload_n ok dX12_negation_87 0 rfl ?_
            refine y_getI ok dX12_negation_88 (fX12_198 rfl) (congrArg Prod.fst s_130) rfl (ltM hnn (by decide)) (sdm hf (by decide)) ?_
            refine w_istore_n ok dX12_negation_91 rfl (by decide) rfl ?_
            refine w_aload_n ok dX12_negation_92 1 rfl ?_
            refine w_cV (As := []) ok dX12_negation_93 iX12_knot (lX12_297 rfl) (rcv cls12 (congrArg Prod.fst s_130)) (ltM hnn (by decide)) (c_X12_knot ro hnn hf  ) (by omega) rfl (Nat.le_of_ble_eq_true rfl) ?_
            refine w_aload_n ok dX12_negation_96 1 rfl ?_
            refine w_cV (As := []) ok dX12_negation_97 iX12_goOn (lX12_279 rfl) (rcv cls12 (congrArg Prod.fst s_130)) (ltM hnn (by decide)) (c_X12_goOn ro hnn hf   (hp5 c1 c2 c3 c4 c5)) (by omega) rfl (Nat.le_of_ble_eq_true rfl) ?_
            show WK K 0 0 100 [(1, .int (((rec 3 I J).1) 130 29)), (0, .ref 130)] [] (eI f (S3_X12_negation rec I J)) (eJ f ((rec 3 I J).2)) R n g
            refine w_aload_n ok dX12_negation_100 1 rfl ?_
            refine w_cV (As := []) ok dX12_negation_101 iX12_sum (lX12_306 rfl) (rcv cls12 (congrArg Prod.fst s_130)) (ltM hnn (by decide)) (ih3 (S3_X12_negation rec I J) ((rec 3 I J).2) (hp6 c1 c2 c3 c4 c5)) (by omega) rfl (Nat.le_of_ble_eq_true rfl) ?_
            refine w_aload_n ok dX12_negation_104 1 rfl ?_
            refine w_iconst (v := 2) ok dX12_negation_105 (by decide) ?_
            refine w_iload_n ok dX12_negation_106 0 rfl ?_
            refine w_cV (As := [.int 2, .int (((rec 3 I J).1) 130 29)]) ok dX12_negation_107 iX12_puts (lX12_300 rfl) (rcv cls12 (congrArg Prod.fst s_130)) (ltM hnn (by decide)) (c_X12_puts ro hnn hf 2 (((rec 3 I J).1) 130 29)  (hp7 c1 c2 c3 c4 c5)) (by omega) rfl (Nat.le_of_ble_eq_true rfl) ?_
            show WK K 0 0 110 [(1, .int (((rec 3 I J).1) 130 29)), (0, .ref 130)] [] (eI f (S4_X12_negation rec I J)) (eJ f ((rec 3 (S3_X12_negation rec I J) ((rec 3 I J).2)).2)) R n g
            exact w_vret ok fin dX12_negation_110 rfl (by unfold FI_X12_negation FJ_X12_negation; simp only [if_pos c1]; simp only [if_pos c2]; simp only [if_pos c3]; simp only [if_neg c4]; simp only [if_pos c5]; exact Pd.i)
          · skip
            refine w_aload_n ok dX12_negation_67 0 rfl ?_
            refine y_getI ok dX12_negation_68 (fX12_198 rfl) (congrArg Prod.fst s_130) rfl (ltM hnn (by decide)) (sdm hf (by decide)) ?_
            refine w_bipush (v := 61) ok dX12_negation_71 (by decide) ?_
            refine w_icmp_eq (tgt := 87) ok dX12_negation_73 (by decide) (fun c6 => ?_) (fun c6 => ?_)
            · skip
              refine w_aload_n ok dX12_negation_87 0 rfl ?_
              refine y_getI ok dX12_negation_88 (fX12_198 rfl) (congrArg Prod.fst s_130) rfl (ltM hnn (by decide)) (sdm hf (by decide)) ?_
              refine w_istore_n ok dX12_negation_91 rfl (by decide) rfl ?_
              refine w_aload_n ok dX12_negation_92 1 rfl ?_
              refine w_cV (As := []) ok dX12_negation_93 iX12_knot (lX12_297 rfl) (rcv cls12 (congrArg Prod.fst s_130)) (ltM hnn (by decide)) (c_X12_knot ro hnn hf  ) (by omega) rfl (Nat.le_of_ble_eq_true rfl) ?_
              refine w_aload_n ok dX12_negation_96 1 rfl ?_
              refine w_cV (As := []) ok dX12_negation_97 iX12_goOn (lX12_279 rfl) (rcv cls12 (congrArg Prod.fst s_130)) (ltM hnn (by decide)) (c_X12_goOn ro hnn hf   (hp8 c1 c2 c3 c4 c5 c6)) (by omega) rfl (Nat.le_of_ble_eq_true rfl) ?_
              show WK K 0 0 100 [(1, .int (((rec 3 I J).1) 130 29)), (0, .ref 130)] [] (eI f (S5_X12_negation rec I J)) (eJ f ((rec 3 I J).2)) R n g
              refine w_aload_n ok dX12_negation_100 1 rfl ?_
              refine w_cV (As := []) ok dX12_negation_101 iX12_sum (lX12_306 rfl) (rcv cls12 (congrArg Prod.fst s_130)) (ltM hnn (by decide)) (ih3 (S5_X12_negation rec I J) ((rec 3 I J).2) (hp9 c1 c2 c3 c4 c5 c6)) (by omega) rfl (Nat.le_of_ble_eq_true rfl) ?_
              refine w_aload_n ok dX12_negation_104 1 rfl ?_
              refine w_iconst (v := 2) ok dX12_negation_105 (by decide) ?_
              refine w_iload_n ok dX12_negation_106 0 rfl ?_
              refine w_cV (As := [.int 2, .int (((rec 3 I J).1) 130 29)]) ok dX12_negation_107 iX12_puts (lX12_300 rfl) (rcv cls12 (congrArg Prod.fst s_130)) (ltM hnn (by decide)) (c_X12_puts ro hnn hf 2 (((rec 3 I J).1) 130 29)  (hp10 c1 c2 c3 c4 c5 c6)) (by omega) rfl (Nat.le_of_ble_eq_true rfl) ?_
              show WK K 0 0 110 [(1, .int (((rec 3 I J).1) 130 29)), (0, .ref 130)] [] (eI f (S6_X12_negation rec I J)) (eJ f ((rec 3 (S5_X12_negation rec I J) ((rec 3 I J).2)).2)) R n g
              exact w_vret ok fin dX12_negation_110 rfl (by unfold FI_X12_negation FJ_X12_negation; simp only [if_pos c1]; simp only [if_pos c2]; simp only [if_pos c3]; simp only [if_neg c4]; simp only [if_neg c5]; simp only [if_pos c6]; exact Pd.i)
            · skip
              refine w_aload_n ok dX12_negation_76 0 rfl ?_
              refine y_getI ok dX12_negation_77 (fX12_198 rfl) (congrArg Prod.fst s_130) rfl (ltM hnn (by decide)) (sdm hf (by decide)) ?_
              refine w_sipush (v := 256) ok dX12_negation_80 (by decide) ?_
              refine w_icmp_ge (tgt := 87) ok dX12_negation_83 (by decide) (fun c7 => ?_) (fun c7 => ?_)
              · skip
                refine w_aload_n ok dX12_negation_87 0 rfl ?_
                refine y_getI ok dX12_negation_88 (fX12_198 rfl) (congrArg Prod.fst s_130) rfl (ltM hnn (by decide)) (sdm hf (by decide)) ?_
                refine w_istore_n ok dX12_negation_91 rfl (by decide) rfl ?_
                refine w_aload_n ok dX12_negation_92 1 rfl ?_
                refine w_cV (As := []) ok dX12_negation_93 iX12_knot (lX12_297 rfl) (rcv cls12 (congrArg Prod.fst s_130)) (ltM hnn (by decide)) (c_X12_knot ro hnn hf  ) (by omega) rfl (Nat.le_of_ble_eq_true rfl) ?_
                refine w_aload_n ok dX12_negation_96 1 rfl ?_
                refine w_cV (As := []) ok dX12_negation_97 iX12_goOn (lX12_279 rfl) (rcv cls12 (congrArg Prod.fst s_130)) (ltM hnn (by decide)) (c_X12_goOn ro hnn hf   (hp11 c1 c2 c3 c4 c5 c6 c7)) (by omega) rfl (Nat.le_of_ble_eq_true rfl) ?_
                show WK K 0 0 100 [(1, .int (((rec 3 I J).1) 130 29)), (0, .ref 130)] [] (eI f (S7_X12_negation rec I J)) (eJ f ((rec 3 I J).2)) R n g
                refine w_aload_n ok dX12_negation_100 1 rfl ?_
                refine w_cV (As := []) ok dX12_negation_101 iX12_sum (lX12_306 rfl) (rcv cls12 (congrArg Prod.fst s_130)) (ltM hnn (by decide)) (ih3 (S7_X12_negation rec I J) ((rec 3 I J).2) (hp12 c1 c2 c3 c4 c5 c6 c7)) (by omega) rfl (Nat.le_of_ble_eq_true rfl) ?_
                refine w_aload_n ok dX12_negation_104 1 rfl ?_
                refine w_iconst (v := 2) ok dX12_negation_105 (by decide) ?_
                refine w_iload_n ok dX12_negation_106 0 rfl ?_
                refine w_cV (As := [.int 2, .int (((rec 3 I J).1) 130 29)]) ok dX12_negation_107 iX12_puts (lX12_300 rfl) (rcv cls12 (congrArg Prod.fst s_130)) (ltM hnn (by decide)) (c_X12_puts ro hnn hf 2 (((rec 3 I J).1) 130 29)  (hp13 c1 c2 c3 c4 c5 c6 c7)) (by omega) rfl (Nat.le_of_ble_eq_true rfl) ?_
                show WK K 0 0 110 [(1, .int (((rec 3 I J).1) 130 29)), (0, .ref 130)] [] (eI f (S8_X12_negation rec I J)) (eJ f ((rec 3 (S7_X12_negation rec I J) ((rec 3 I J).2)).2)) R n g
                exact w_vret ok fin dX12_negation_110 rfl (by unfold FI_X12_negation FJ_X12_negation; simp only [if_pos c1]; simp only [if_pos c2]; simp only [if_pos c3]; simp only [if_neg c4]; simp only [if_neg c5]; simp only [if_neg c6]; simp only [if_pos c7]; exact Pd.i)
              · skip
                exact w_vret ok fin dX12_negation_86 rfl (by unfold FI_X12_negation FJ_X12_negation; simp only [if_pos c1]; simp only [if_pos c2]; simp only [if_pos c3]; simp only [if_neg c4]; simp only [if_neg c5]; simp only [if_neg c6]; simp only [if_neg c7]; exact Pd.i)
  · skip
    refine w_aload_n ok dX12_negation_9 0 rfl ?_
    refine w_cV (As := []) ok dX12_negation_10 iX12_knot (lX12_297 rfl) (rcv cls12 (congrArg Prod.fst s_130)) (ltM hnn (by decide)) (c_X12_knot ro hnn hf  ) (by omega) rfl (Nat.le_of_ble_eq_true rfl) ?_
    refine w_aload_n ok dX12_negation_13 0 rfl ?_
    refine w_cV (As := []) ok dX12_negation_14 iX12_goOn (lX12_279 rfl) (rcv cls12 (congrArg Prod.fst s_130)) (ltM hnn (by decide)) (c_X12_goOn ro hnn hf   (hp14 c1)) (by omega) rfl (Nat.le_of_ble_eq_true rfl) ?_
    refine w_aload_n ok dX12_negation_17 0 rfl ?_
    refine w_cV (As := []) ok dX12_negation_18 iX12_negation (lX12_303 rfl) (rcv cls12 (congrArg Prod.fst s_130)) (ltM hnn (by decide)) (ih2 (FI_X12_goOn  (FI_X12_knot  I J) J) J (hp15 c1)) (by omega) rfl (Nat.le_of_ble_eq_true rfl) ?_
    refine w_aload_n ok dX12_negation_21 0 rfl ?_
    refine w_iconst (v := 2) ok dX12_negation_22 (by decide) ?_
    refine w_sipush (v := 260) ok dX12_negation_23 (by decide) ?_
    refine w_cV (As := [.int 2, .int 260]) ok dX12_negation_26 iX12_puts (lX12_300 rfl) (rcv cls12 (congrArg Prod.fst s_130)) (ltM hnn (by decide)) (c_X12_puts ro hnn hf 2 260  (hp16 c1)) (by omega) rfl (Nat.le_of_ble_eq_true rfl) ?_
    show WK K 0 0 29 [(0, .ref 130)] [] (eI f (S9_X12_negation rec I J)) (eJ f ((rec 2 (FI_X12_goOn  (FI_X12_knot  I J) J) J).2)) R n g
    exact w_vret ok fin dX12_negation_29 rfl (by unfold FI_X12_negation FJ_X12_negation; simp only [if_neg c1]; exact Pd.i)
def S1_X12_sum (rec : Nat → SI → SJ → SI × SJ) (I : SI) (J : SJ) (s4 : SI × SJ) : SI := FI_X12_puts 2 (s4.1 130 29) ((rec 4 (FI_X12_goOn  (FI_X12_knot  s4.1 s4.2) s4.2) s4.2).1) ((rec 4 (FI_X12_goOn  (FI_X12_knot  s4.1 s4.2) s4.2) s4.2).2)
def S2_X12_sum (rec : Nat → SI → SJ → SI × SJ) (I : SI) (J : SJ) (s4 : SI × SJ) : SI := FI_X12_puts 2 (s4.1 130 29) ((rec 4 (FI_X12_goOn  (FI_X12_knot  s4.1 s4.2) s4.2) s4.2).1) ((rec 4 (FI_X12_goOn  (FI_X12_knot  s4.1 s4.2) s4.2) s4.2).2)
def B_X12_sum_w4 (rec : Nat → SI → SJ → SI × SJ) (I : SI) (J : SJ) (s4 : SI × SJ) : (SI × SJ) ⊕ (SI × SJ) := if (F_X12_isSign 43 s4.1 s4.2) = 0 then (if (F_X12_isSign 45 s4.1 s4.2) = 0 then .inr (s4.1, s4.2) else .inl ((S2_X12_sum rec I J s4), ((rec 4 (FI_X12_goOn  (FI_X12_knot  s4.1 s4.2) s4.2) s4.2).2))) else .inl ((S1_X12_sum rec I J s4), ((rec 4 (FI_X12_goOn  (FI_X12_knot  s4.1 s4.2) s4.2) s4.2).2))
def F_X12_sum_w4 (rec : Nat → SI → SJ → SI × SJ) (I : SI) (J : SJ) (s0 : SI × SJ) : SI × SJ := (itW (B_X12_sum_w4 rec I J) 800 s0).getD s0
def FI_X12_sum (rec : Nat → SI → SJ → SI × SJ)  (I : SI) (J : SJ) : SI := (F_X12_sum_w4 rec I J (((rec 4 I J).1), ((rec 4 I J).2))).1
def FJ_X12_sum (rec : Nat → SI → SJ → SI × SJ)  (I : SI) (J : SJ) : SJ := (F_X12_sum_w4 rec I J (((rec 4 I J).1), ((rec 4 I J).2))).2
def H_X12_sum (hrec : Nat → SI → SJ → Prop) (rec : Nat → SI → SJ → SI × SJ)  (I : SI) (J : SJ) : Prop := (hrec 4 I J) ∧ ((itW (B_X12_sum_w4 rec I J) 800 (((rec 4 I J).1), ((rec 4 I J).2))).isSome = true) ∧ (∀ (n4 : Nat) (s4 : SI × SJ), wN (B_X12_sum_w4 rec I J) n4 (((rec 4 I J).1), ((rec 4 I J).2)) = some s4 → ¬ ((F_X12_isSign 43 s4.1 s4.2) = 0) → H_X12_goOn  (FI_X12_knot  s4.1 s4.2) s4.2) ∧ (∀ (n4 : Nat) (s4 : SI × SJ), wN (B_X12_sum_w4 rec I J) n4 (((rec 4 I J).1), ((rec 4 I J).2)) = some s4 → ¬ ((F_X12_isSign 43 s4.1 s4.2) = 0) → hrec 4 (FI_X12_goOn  (FI_X12_knot  s4.1 s4.2) s4.2) s4.2) ∧ (∀ (n4 : Nat) (s4 : SI × SJ), wN (B_X12_sum_w4 rec I J) n4 (((rec 4 I J).1), ((rec 4 I J).2)) = some s4 → ¬ ((F_X12_isSign 43 s4.1 s4.2) = 0) → H_X12_puts 2 (s4.1 130 29) ((rec 4 (FI_X12_goOn  (FI_X12_knot  s4.1 s4.2) s4.2) s4.2).1) ((rec 4 (FI_X12_goOn  (FI_X12_knot  s4.1 s4.2) s4.2) s4.2).2)) ∧ (∀ (n4 : Nat) (s4 : SI × SJ), wN (B_X12_sum_w4 rec I J) n4 (((rec 4 I J).1), ((rec 4 I J).2)) = some s4 → (F_X12_isSign 43 s4.1 s4.2) = 0 → ¬ ((F_X12_isSign 45 s4.1 s4.2) = 0) → H_X12_goOn  (FI_X12_knot  s4.1 s4.2) s4.2) ∧ (∀ (n4 : Nat) (s4 : SI × SJ), wN (B_X12_sum_w4 rec I J) n4 (((rec 4 I J).1), ((rec 4 I J).2)) = some s4 → (F_X12_isSign 43 s4.1 s4.2) = 0 → ¬ ((F_X12_isSign 45 s4.1 s4.2) = 0) → hrec 4 (FI_X12_goOn  (FI_X12_knot  s4.1 s4.2) s4.2) s4.2) ∧ (∀ (n4 : Nat) (s4 : SI × SJ), wN (B_X12_sum_w4 rec I J) n4 (((rec 4 I J).1), ((rec 4 I J).2)) = some s4 → (F_X12_isSign 43 s4.1 s4.2) = 0 → ¬ ((F_X12_isSign 45 s4.1 s4.2) = 0) → H_X12_puts 2 (s4.1 130 29) ((rec 4 (FI_X12_goOn  (FI_X12_knot  s4.1 s4.2) s4.2) s4.2).1) ((rec 4 (FI_X12_goOn  (FI_X12_knot  s4.1 s4.2) s4.2) s4.2).2))
set_option maxHeartbeats 1000000 in
set_option maxRecDepth 40000 in
theorem cs_X12_sum {I : SI} {J : SJ} {R : SR} {n g : Nat} {f : Fr} (ro : RM R) (hnn : nM ≤ n) (hf : f.1 = false)   (rec : Nat → SI → SJ → SI × SJ) (hrec : Nat → SI → SJ → Prop) {dd : Nat} (hdd : 7 ≤ dd) (ih0 : ∀ (I : SI) (J : SJ), hrec 0 I J → MM dd 0 0 mX12_expression [.ref 130] (eI f I) (eJ f J) R n g (Pd none (eI f (rec 0 I J).1) (eJ f (rec 0 I J).2) R n g)) (ih1 : ∀ (I : SI) (J : SJ), hrec 1 I J → MM dd 0 0 mX12_conjunction [.ref 130] (eI f I) (eJ f J) R n g (Pd none (eI f (rec 1 I J).1) (eJ f (rec 1 I J).2) R n g)) (ih2 : ∀ (I : SI) (J : SJ), hrec 2 I J → MM dd 0 0 mX12_negation [.ref 130] (eI f I) (eJ f J) R n g (Pd none (eI f (rec 2 I J).1) (eJ f (rec 2 I J).2) R n g)) (ih3 : ∀ (I : SI) (J : SJ), hrec 3 I J → MM dd 0 0 mX12_sum [.ref 130] (eI f I) (eJ f J) R n g (Pd none (eI f (rec 3 I J).1) (eJ f (rec 3 I J).2) R n g)) (ih4 : ∀ (I : SI) (J : SJ), hrec 4 I J → MM dd 0 0 mX12_product [.ref 130] (eI f I) (eJ f J) R n g (Pd none (eI f (rec 4 I J).1) (eJ f (rec 4 I J).2) R n g)) (ih5 : ∀ (I : SI) (J : SJ), hrec 5 I J → MM dd 0 0 mX12_primary [.ref 130] (eI f I) (eJ f J) R n g (Pd none (eI f (rec 5 I J).1) (eJ f (rec 5 I J).2) R n g))  (hp : H_X12_sum hrec rec  I J) : MM (dd + 1) 0 0 mX12_sum [.ref 130] (eI f I) (eJ f J) R n g (Pd none (eI f (FI_X12_sum rec  I J)) (eJ f (FJ_X12_sum rec  I J)) R n g) := by
  refine MM.of (by decide) (Nat.le_of_ble_eq_true rfl) fun K ok fin => ?_
  show WK K 0 0 0 [(0, .ref 130)] [] (eI f I) (eJ f J) R n g
  obtain ⟨hp1, hp2, hp3, hp4, hp5, hp6, hp7, hp8⟩ := hp
  refine w_aload_n ok dX12_sum_0 0 rfl ?_
  refine w_cV (As := []) ok dX12_sum_1 iX12_product (lX12_309 rfl) (rcv cls12 (congrArg Prod.fst s_130)) (ltM hnn (by decide)) (ih4 I J (hp1)) (by omega) rfl (Nat.le_of_ble_eq_true rfl) ?_
  refine loop_w (fun (s4 : SI × SJ) => WK K 0 0 4 [(0, .ref 130)] [] (eI f s4.1) (eJ f s4.2) R n g) (fun (s4 : SI × SJ) => WK K 0 0 48 [(0, .ref 130)] [] (eI f s4.1) (eJ f s4.2) R n g) (B_X12_sum_w4 rec I J) 800 (((rec 4 I J).1), ((rec 4 I J).2)) (F_X12_sum_w4 rec I J (((rec 4 I J).1), ((rec 4 I J).2))) (itW_some (hp2)) ?_ ?_
  · show WK K 0 0 48 [(0, .ref 130)] [] (eI f ((F_X12_sum_w4 rec I J (((rec 4 I J).1), ((rec 4 I J).2))).1)) (eJ f ((F_X12_sum_w4 rec I J (((rec 4 I J).1), ((rec 4 I J).2))).2)) R n g
    exact w_vret ok fin dX12_sum_48 rfl (by unfold FI_X12_sum FJ_X12_sum; exact Pd.i)
  · intro n4 s4 hs4 kc4 kx4
    show WK K 0 0 4 [(0, .ref 130)] [] (eI f s4.1) (eJ f s4.2) R n g
    refine w_aload_n ok dX12_sum_4 0 rfl ?_
    refine w_bipush (v := 43) ok dX12_sum_5 (by decide) ?_
    refine w_cV (As := [.int 43]) ok dX12_sum_7 iX12_isSign (lX12_273 rfl) (rcv cls12 (congrArg Prod.fst s_130)) (ltM hnn (by decide)) (c_X12_isSign ro hnn hf 43 ) (by omega) rfl (Nat.le_of_ble_eq_true rfl) ?_
    refine w_if_ne (tgt := 22) ok dX12_sum_10 (by decide) (fun c1 => ?_) (fun c1 => ?_)
    · skip
      refine w_aload_n ok dX12_sum_22 0 rfl ?_
      refine y_getI ok dX12_sum_23 (fX12_198 rfl) (congrArg Prod.fst s_130) rfl (ltM hnn (by decide)) (sdm hf (by decide)) ?_
      refine w_istore_n ok dX12_sum_26 rfl (by decide) rfl ?_
      refine w_aload_n ok dX12_sum_27 1 rfl ?_
      refine w_cV (As := []) ok dX12_sum_28 iX12_knot (lX12_297 rfl) (rcv cls12 (congrArg Prod.fst s_130)) (ltM hnn (by decide)) (c_X12_knot ro hnn hf  ) (by omega) rfl (Nat.le_of_ble_eq_true rfl) ?_
      refine w_aload_n ok dX12_sum_31 1 rfl ?_
      refine w_cV (As := []) ok dX12_sum_32 iX12_goOn (lX12_279 rfl) (rcv cls12 (congrArg Prod.fst s_130)) (ltM hnn (by decide)) (c_X12_goOn ro hnn hf   (hp3 n4 s4 hs4 c1)) (by omega) rfl (Nat.le_of_ble_eq_true rfl) ?_
      refine w_aload_n ok dX12_sum_35 1 rfl ?_
      refine w_cV (As := []) ok dX12_sum_36 iX12_product (lX12_309 rfl) (rcv cls12 (congrArg Prod.fst s_130)) (ltM hnn (by decide)) (ih4 (FI_X12_goOn  (FI_X12_knot  s4.1 s4.2) s4.2) s4.2 (hp4 n4 s4 hs4 c1)) (by omega) rfl (Nat.le_of_ble_eq_true rfl) ?_
      refine w_aload_n ok dX12_sum_39 1 rfl ?_
      refine w_iconst (v := 2) ok dX12_sum_40 (by decide) ?_
      refine w_iload_n ok dX12_sum_41 0 rfl ?_
      refine w_cV (As := [.int 2, .int (s4.1 130 29)]) ok dX12_sum_42 iX12_puts (lX12_300 rfl) (rcv cls12 (congrArg Prod.fst s_130)) (ltM hnn (by decide)) (c_X12_puts ro hnn hf 2 (s4.1 130 29)  (hp5 n4 s4 hs4 c1)) (by omega) rfl (Nat.le_of_ble_eq_true rfl) ?_
      show WK K 0 0 45 [(1, .int (s4.1 130 29)), (0, .ref 130)] [] (eI f (S1_X12_sum rec I J s4)) (eJ f ((rec 4 (FI_X12_goOn  (FI_X12_knot  s4.1 s4.2) s4.2) s4.2).2)) R n g
      refine w_goto (tgt := 4) ok dX12_sum_45 (by decide) ?_
      have eB : B_X12_sum_w4 rec I J s4 = .inl ((S1_X12_sum rec I J s4), ((rec 4 (FI_X12_goOn  (FI_X12_knot  s4.1 s4.2) s4.2) s4.2).2)) := by
        unfold B_X12_sum_w4; exact (if_neg c1).trans (rfl)
      refine w_loc [1] rfl ?_
      have kk := kc4 _ eB
      exact kk
    · skip
      refine w_aload_n ok dX12_sum_13 0 rfl ?_
      refine w_bipush (v := 45) ok dX12_sum_14 (by decide) ?_
      refine w_cV (As := [.int 45]) ok dX12_sum_16 iX12_isSign (lX12_273 rfl) (rcv cls12 (congrArg Prod.fst s_130)) (ltM hnn (by decide)) (c_X12_isSign ro hnn hf 45 ) (by omega) rfl (Nat.le_of_ble_eq_true rfl) ?_
      refine w_if_eq (tgt := 48) ok dX12_sum_19 (by decide) (fun c2 => ?_) (fun c2 => ?_)
      · skip
        have eB : B_X12_sum_w4 rec I J s4 = .inr (s4.1, s4.2) := by
          unfold B_X12_sum_w4; exact (if_pos c1).trans ((if_pos c2).trans (rfl))
        refine w_loc [0] rfl ?_
        have kk := kx4 _ eB
        exact kk
      · skip
        refine w_aload_n ok dX12_sum_22 0 rfl ?_
        refine y_getI ok dX12_sum_23 (fX12_198 rfl) (congrArg Prod.fst s_130) rfl (ltM hnn (by decide)) (sdm hf (by decide)) ?_
        refine w_istore_n ok dX12_sum_26 rfl (by decide) rfl ?_
        refine w_aload_n ok dX12_sum_27 1 rfl ?_
        refine w_cV (As := []) ok dX12_sum_28 iX12_knot (lX12_297 rfl) (rcv cls12 (congrArg Prod.fst s_130)) (ltM hnn (by decide)) (c_X12_knot ro hnn hf  ) (by omega) rfl (Nat.le_of_ble_eq_true rfl) ?_
        refine w_aload_n ok dX12_sum_31 1 rfl ?_
        refine w_cV (As := []) ok dX12_sum_32 iX12_goOn (lX12_279 rfl) (rcv cls12 (congrArg Prod.fst s_130)) (ltM hnn (by decide)) (c_X12_goOn ro hnn hf   (hp6 n4 s4 hs4 c1 c2)) (by omega) rfl (Nat.le_of_ble_eq_true rfl) ?_
        refine w_aload_n ok dX12_sum_35 1 rfl ?_
        refine w_cV (As := []) ok dX12_sum_36 iX12_product (lX12_309 rfl) (rcv cls12 (congrArg Prod.fst s_130)) (ltM hnn (by decide)) (ih4 (FI_X12_goOn  (FI_X12_knot  s4.1 s4.2) s4.2) s4.2 (hp7 n4 s4 hs4 c1 c2)) (by omega) rfl (Nat.le_of_ble_eq_true rfl) ?_
        refine w_aload_n ok dX12_sum_39 1 rfl ?_
        refine w_iconst (v := 2) ok dX12_sum_40 (by decide) ?_
        refine w_iload_n ok dX12_sum_41 0 rfl ?_
        refine w_cV (As := [.int 2, .int (s4.1 130 29)]) ok dX12_sum_42 iX12_puts (lX12_300 rfl) (rcv cls12 (congrArg Prod.fst s_130)) (ltM hnn (by decide)) (c_X12_puts ro hnn hf 2 (s4.1 130 29)  (hp8 n4 s4 hs4 c1 c2)) (by omega) rfl (Nat.le_of_ble_eq_true rfl) ?_
        show WK K 0 0 45 [(1, .int (s4.1 130 29)), (0, .ref 130)] [] (eI f (S2_X12_sum rec I J s4)) (eJ f ((rec 4 (FI_X12_goOn  (FI_X12_knot  s4.1 s4.2) s4.2) s4.2).2)) R n g
        refine w_goto (tgt := 4) ok dX12_sum_45 (by decide) ?_
        have eB : B_X12_sum_w4 rec I J s4 = .inl ((S2_X12_sum rec I J s4), ((rec 4 (FI_X12_goOn  (FI_X12_knot  s4.1 s4.2) s4.2) s4.2).2)) := by
          unfold B_X12_sum_w4; exact (if_pos c1).trans ((if_neg c2).trans (rfl))
        refine w_loc [1] rfl ?_
        have kk := kc4 _ eB
        exact kk
def S1_X12_product (rec : Nat → SI → SJ → SI × SJ) (I : SI) (J : SJ) (s4 : SI × SJ) : SI := FI_X12_puts 2 (s4.1 130 29) ((rec 5 (FI_X12_goOn  (FI_X12_knot  s4.1 s4.2) s4.2) s4.2).1) ((rec 5 (FI_X12_goOn  (FI_X12_knot  s4.1 s4.2) s4.2) s4.2).2)
def S2_X12_product (rec : Nat → SI → SJ → SI × SJ) (I : SI) (J : SJ) (s4 : SI × SJ) : SI := FI_X12_puts 2 (s4.1 130 29) ((rec 5 (FI_X12_goOn  (FI_X12_knot  s4.1 s4.2) s4.2) s4.2).1) ((rec 5 (FI_X12_goOn  (FI_X12_knot  s4.1 s4.2) s4.2) s4.2).2)
def B_X12_product_w4 (rec : Nat → SI → SJ → SI × SJ) (I : SI) (J : SJ) (s4 : SI × SJ) : (SI × SJ) ⊕ (SI × SJ) := if (F_X12_isSign 42 s4.1 s4.2) = 0 then (if (F_X12_isSign 47 s4.1 s4.2) = 0 then .inr (s4.1, s4.2) else .inl ((S2_X12_product rec I J s4), ((rec 5 (FI_X12_goOn  (FI_X12_knot  s4.1 s4.2) s4.2) s4.2).2))) else .inl ((S1_X12_product rec I J s4), ((rec 5 (FI_X12_goOn  (FI_X12_knot  s4.1 s4.2) s4.2) s4.2).2))
def F_X12_product_w4 (rec : Nat → SI → SJ → SI × SJ) (I : SI) (J : SJ) (s0 : SI × SJ) : SI × SJ := (itW (B_X12_product_w4 rec I J) 800 s0).getD s0
def FI_X12_product (rec : Nat → SI → SJ → SI × SJ)  (I : SI) (J : SJ) : SI := (F_X12_product_w4 rec I J (((rec 5 I J).1), ((rec 5 I J).2))).1
def FJ_X12_product (rec : Nat → SI → SJ → SI × SJ)  (I : SI) (J : SJ) : SJ := (F_X12_product_w4 rec I J (((rec 5 I J).1), ((rec 5 I J).2))).2
def H_X12_product (hrec : Nat → SI → SJ → Prop) (rec : Nat → SI → SJ → SI × SJ)  (I : SI) (J : SJ) : Prop := (hrec 5 I J) ∧ ((itW (B_X12_product_w4 rec I J) 800 (((rec 5 I J).1), ((rec 5 I J).2))).isSome = true) ∧ (∀ (n4 : Nat) (s4 : SI × SJ), wN (B_X12_product_w4 rec I J) n4 (((rec 5 I J).1), ((rec 5 I J).2)) = some s4 → ¬ ((F_X12_isSign 42 s4.1 s4.2) = 0) → H_X12_goOn  (FI_X12_knot  s4.1 s4.2) s4.2) ∧ (∀ (n4 : Nat) (s4 : SI × SJ), wN (B_X12_product_w4 rec I J) n4 (((rec 5 I J).1), ((rec 5 I J).2)) = some s4 → ¬ ((F_X12_isSign 42 s4.1 s4.2) = 0) → hrec 5 (FI_X12_goOn  (FI_X12_knot  s4.1 s4.2) s4.2) s4.2) ∧ (∀ (n4 : Nat) (s4 : SI × SJ), wN (B_X12_product_w4 rec I J) n4 (((rec 5 I J).1), ((rec 5 I J).2)) = some s4 → ¬ ((F_X12_isSign 42 s4.1 s4.2) = 0) → H_X12_puts 2 (s4.1 130 29) ((rec 5 (FI_X12_goOn  (FI_X12_knot  s4.1 s4.2) s4.2) s4.2).1) ((rec 5 (FI_X12_goOn  (FI_X12_knot  s4.1 s4.2) s4.2) s4.2).2)) ∧ (∀ (n4 : Nat) (s4 : SI × SJ), wN (B_X12_product_w4 rec I J) n4 (((rec 5 I J).1), ((rec 5 I J).2)) = some s4 → (F_X12_isSign 42 s4.1 s4.2) = 0 → ¬ ((F_X12_isSign 47 s4.1 s4.2) = 0) → H_X12_goOn  (FI_X12_knot  s4.1 s4.2) s4.2) ∧ (∀ (n4 : Nat) (s4 : SI × SJ), wN (B_X12_product_w4 rec I J) n4 (((rec 5 I J).1), ((rec 5 I J).2)) = some s4 → (F_X12_isSign 42 s4.1 s4.2) = 0 → ¬ ((F_X12_isSign 47 s4.1 s4.2) = 0) → hrec 5 (FI_X12_goOn  (FI_X12_knot  s4.1 s4.2) s4.2) s4.2) ∧ (∀ (n4 : Nat) (s4 : SI × SJ), wN (B_X12_product_w4 rec I J) n4 (((rec 5 I J).1), ((rec 5 I J).2)) = some s4 → (F_X12_isSign 42 s4.1 s4.2) = 0 → ¬ ((F_X12_isSign 47 s4.1 s4.2) = 0) → H_X12_puts 2 (s4.1 130 29) ((rec 5 (FI_X12_goOn  (FI_X12_knot  s4.1 s4.2) s4.2) s4.2).1) ((rec 5 (FI_X12_goOn  (FI_X12_knot  s4.1 s4.2) s4.2) s4.2).2))
set_option maxHeartbeats 1000000 in
set_option maxRecDepth 40000 in
theorem cs_X12_product {I : SI} {J : SJ} {R : SR} {n g : Nat} {f : Fr} (ro : RM R) (hnn : nM ≤ n) (hf : f.1 = false)   (rec : Nat → SI → SJ → SI × SJ) (hrec : Nat → SI → SJ → Prop) {dd : Nat} (hdd : 7 ≤ dd) (ih0 : ∀ (I : SI) (J : SJ), hrec 0 I J → MM dd 0 0 mX12_expression [.ref 130] (eI f I) (eJ f J) R n g (Pd none (eI f (rec 0 I J).1) (eJ f (rec 0 I J).2) R n g)) (ih1 : ∀ (I : SI) (J : SJ), hrec 1 I J → MM dd 0 0 mX12_conjunction [.ref 130] (eI f I) (eJ f J) R n g (Pd none (eI f (rec 1 I J).1) (eJ f (rec 1 I J).2) R n g)) (ih2 : ∀ (I : SI) (J : SJ), hrec 2 I J → MM dd 0 0 mX12_negation [.ref 130] (eI f I) (eJ f J) R n g (Pd none (eI f (rec 2 I J).1) (eJ f (rec 2 I J).2) R n g)) (ih3 : ∀ (I : SI) (J : SJ), hrec 3 I J → MM dd 0 0 mX12_sum [.ref 130] (eI f I) (eJ f J) R n g (Pd none (eI f (rec 3 I J).1) (eJ f (rec 3 I J).2) R n g)) (ih4 : ∀ (I : SI) (J : SJ), hrec 4 I J → MM dd 0 0 mX12_product [.ref 130] (eI f I) (eJ f J) R n g (Pd none (eI f (rec 4 I J).1) (eJ f (rec 4 I J).2) R n g)) (ih5 : ∀ (I : SI) (J : SJ), hrec 5 I J → MM dd 0 0 mX12_primary [.ref 130] (eI f I) (eJ f J) R n g (Pd none (eI f (rec 5 I J).1) (eJ f (rec 5 I J).2) R n g))  (hp : H_X12_product hrec rec  I J) : MM (dd + 1) 0 0 mX12_product [.ref 130] (eI f I) (eJ f J) R n g (Pd none (eI f (FI_X12_product rec  I J)) (eJ f (FJ_X12_product rec  I J)) R n g) := by
  refine MM.of (by decide) (Nat.le_of_ble_eq_true rfl) fun K ok fin => ?_
  show WK K 0 0 0 [(0, .ref 130)] [] (eI f I) (eJ f J) R n g
  obtain ⟨hp1, hp2, hp3, hp4, hp5, hp6, hp7, hp8⟩ := hp
  refine w_aload_n ok dX12_product_0 0 rfl ?_
  refine w_cV (As := []) ok dX12_product_1 iX12_primary (lX12_312 rfl) (rcv cls12 (congrArg Prod.fst s_130)) (ltM hnn (by decide)) (ih5 I J (hp1)) (by omega) rfl (Nat.le_of_ble_eq_true rfl) ?_
  refine loop_w (fun (s4 : SI × SJ) => WK K 0 0 4 [(0, .ref 130)] [] (eI f s4.1) (eJ f s4.2) R n g) (fun (s4 : SI × SJ) => WK K 0 0 48 [(0, .ref 130)] [] (eI f s4.1) (eJ f s4.2) R n g) (B_X12_product_w4 rec I J) 800 (((rec 5 I J).1), ((rec 5 I J).2)) (F_X12_product_w4 rec I J (((rec 5 I J).1), ((rec 5 I J).2))) (itW_some (hp2)) ?_ ?_
  · show WK K 0 0 48 [(0, .ref 130)] [] (eI f ((F_X12_product_w4 rec I J (((rec 5 I J).1), ((rec 5 I J).2))).1)) (eJ f ((F_X12_product_w4 rec I J (((rec 5 I J).1), ((rec 5 I J).2))).2)) R n g
    exact w_vret ok fin dX12_product_48 rfl (by unfold FI_X12_product FJ_X12_product; exact Pd.i)
  · intro n4 s4 hs4 kc4 kx4
    show WK K 0 0 4 [(0, .ref 130)] [] (eI f s4.1) (eJ f s4.2) R n g
    refine w_aload_n ok dX12_product_4 0 rfl ?_
    refine w_bipush (v := 42) ok dX12_product_5 (by decide) ?_
    refine w_cV (As := [.int 42]) ok dX12_product_7 iX12_isSign (lX12_273 rfl) (rcv cls12 (congrArg Prod.fst s_130)) (ltM hnn (by decide)) (c_X12_isSign ro hnn hf 42 ) (by omega) rfl (Nat.le_of_ble_eq_true rfl) ?_
    refine w_if_ne (tgt := 22) ok dX12_product_10 (by decide) (fun c1 => ?_) (fun c1 => ?_)
    · skip
      refine w_aload_n ok dX12_product_22 0 rfl ?_
      refine y_getI ok dX12_product_23 (fX12_198 rfl) (congrArg Prod.fst s_130) rfl (ltM hnn (by decide)) (sdm hf (by decide)) ?_
      refine w_istore_n ok dX12_product_26 rfl (by decide) rfl ?_
      refine w_aload_n ok dX12_product_27 1 rfl ?_
      refine w_cV (As := []) ok dX12_product_28 iX12_knot (lX12_297 rfl) (rcv cls12 (congrArg Prod.fst s_130)) (ltM hnn (by decide)) (c_X12_knot ro hnn hf  ) (by omega) rfl (Nat.le_of_ble_eq_true rfl) ?_
      refine w_aload_n ok dX12_product_31 1 rfl ?_
      refine w_cV (As := []) ok dX12_product_32 iX12_goOn (lX12_279 rfl) (rcv cls12 (congrArg Prod.fst s_130)) (ltM hnn (by decide)) (c_X12_goOn ro hnn hf   (hp3 n4 s4 hs4 c1)) (by omega) rfl (Nat.le_of_ble_eq_true rfl) ?_
      refine w_aload_n ok dX12_product_35 1 rfl ?_
      refine w_cV (As := []) ok dX12_product_36 iX12_primary (lX12_312 rfl) (rcv cls12 (congrArg Prod.fst s_130)) (ltM hnn (by decide)) (ih5 (FI_X12_goOn  (FI_X12_knot  s4.1 s4.2) s4.2) s4.2 (hp4 n4 s4 hs4 c1)) (by omega) rfl (Nat.le_of_ble_eq_true rfl) ?_
      refine w_aload_n ok dX12_product_39 1 rfl ?_
      refine w_iconst (v := 2) ok dX12_product_40 (by decide) ?_
      refine w_iload_n ok dX12_product_41 0 rfl ?_
      refine w_cV (As := [.int 2, .int (s4.1 130 29)]) ok dX12_product_42 iX12_puts (lX12_300 rfl) (rcv cls12 (congrArg Prod.fst s_130)) (ltM hnn (by decide)) (c_X12_puts ro hnn hf 2 (s4.1 130 29)  (hp5 n4 s4 hs4 c1)) (by omega) rfl (Nat.le_of_ble_eq_true rfl) ?_
      show WK K 0 0 45 [(1, .int (s4.1 130 29)), (0, .ref 130)] [] (eI f (S1_X12_product rec I J s4)) (eJ f ((rec 5 (FI_X12_goOn  (FI_X12_knot  s4.1 s4.2) s4.2) s4.2).2)) R n g
      refine w_goto (tgt := 4) ok dX12_product_45 (by decide) ?_
      have eB : B_X12_product_w4 rec I J s4 = .inl ((S1_X12_product rec I J s4), ((rec 5 (FI_X12_goOn  (FI_X12_knot  s4.1 s4.2) s4.2) s4.2).2)) := by
        unfold B_X12_product_w4; exact (if_neg c1).trans (rfl)
      refine w_loc [1] rfl ?_
      have kk := kc4 _ eB
      exact kk
    · skip
      refine w_aload_n ok dX12_product_13 0 rfl ?_
      refine w_bipush (v := 47) ok dX12_product_14 (by decide) ?_
      refine w_cV (As := [.int 47]) ok dX12_product_16 iX12_isSign (lX12_273 rfl) (rcv cls12 (congrArg Prod.fst s_130)) (ltM hnn (by decide)) (c_X12_isSign ro hnn hf 47 ) (by omega) rfl (Nat.le_of_ble_eq_true rfl) ?_
      refine w_if_eq (tgt := 48) ok dX12_product_19 (by decide) (fun c2 => ?_) (fun c2 => ?_)
      · skip
        have eB : B_X12_product_w4 rec I J s4 = .inr (s4.1, s4.2) := by
          unfold B_X12_product_w4; exact (if_pos c1).trans ((if_pos c2).trans (rfl))
        refine w_loc [0] rfl ?_
        have kk := kx4 _ eB
        exact kk
      · skip
        refine w_aload_n ok dX12_product_22 0 rfl ?_
        refine y_getI ok dX12_product_23 (fX12_198 rfl) (congrArg Prod.fst s_130) rfl (ltM hnn (by decide)) (sdm hf (by decide)) ?_
        refine w_istore_n ok dX12_product_26 rfl (by decide) rfl ?_
        refine w_aload_n ok dX12_product_27 1 rfl ?_
        refine w_cV (As := []) ok dX12_product_28 iX12_knot (lX12_297 rfl) (rcv cls12 (congrArg Prod.fst s_130)) (ltM hnn (by decide)) (c_X12_knot ro hnn hf  ) (by omega) rfl (Nat.le_of_ble_eq_true rfl) ?_
        refine w_aload_n ok dX12_product_31 1 rfl ?_
        refine w_cV (As := []) ok dX12_product_32 iX12_goOn (lX12_279 rfl) (rcv cls12 (congrArg Prod.fst s_130)) (ltM hnn (by decide)) (c_X12_goOn ro hnn hf   (hp6 n4 s4 hs4 c1 c2)) (by omega) rfl (Nat.le_of_ble_eq_true rfl) ?_
        refine w_aload_n ok dX12_product_35 1 rfl ?_
        refine w_cV (As := []) ok dX12_product_36 iX12_primary (lX12_312 rfl) (rcv cls12 (congrArg Prod.fst s_130)) (ltM hnn (by decide)) (ih5 (FI_X12_goOn  (FI_X12_knot  s4.1 s4.2) s4.2) s4.2 (hp7 n4 s4 hs4 c1 c2)) (by omega) rfl (Nat.le_of_ble_eq_true rfl) ?_
        refine w_aload_n ok dX12_product_39 1 rfl ?_
        refine w_iconst (v := 2) ok dX12_product_40 (by decide) ?_
        refine w_iload_n ok dX12_product_41 0 rfl ?_
        refine w_cV (As := [.int 2, .int (s4.1 130 29)]) ok dX12_product_42 iX12_puts (lX12_300 rfl) (rcv cls12 (congrArg Prod.fst s_130)) (ltM hnn (by decide)) (c_X12_puts ro hnn hf 2 (s4.1 130 29)  (hp8 n4 s4 hs4 c1 c2)) (by omega) rfl (Nat.le_of_ble_eq_true rfl) ?_
        show WK K 0 0 45 [(1, .int (s4.1 130 29)), (0, .ref 130)] [] (eI f (S2_X12_product rec I J s4)) (eJ f ((rec 5 (FI_X12_goOn  (FI_X12_knot  s4.1 s4.2) s4.2) s4.2).2)) R n g
        refine w_goto (tgt := 4) ok dX12_product_45 (by decide) ?_
        have eB : B_X12_product_w4 rec I J s4 = .inl ((S2_X12_product rec I J s4), ((rec 5 (FI_X12_goOn  (FI_X12_knot  s4.1 s4.2) s4.2) s4.2).2)) := by
          unfold B_X12_product_w4; exact (if_pos c1).trans ((if_neg c2).trans (rfl))
        refine w_loc [1] rfl ?_
        have kk := kc4 _ eB
        exact kk
def T_X12_primary_j114 (rec : Nat → SI → SJ → SI × SJ) (I : SI) (J : SJ) : Int32 := if (I 130 28) = 2 then 1 else 0
def T_X12_primary_j162 (rec : Nat → SI → SJ → SI × SJ) (I : SI) (J : SJ) : SI := if (T_X12_primary_j114 rec I J) = 0 then (if (I 130 28) = 0 then (if (16 : Int32) ≤ (I 130 29) then I else (FI_X12_wrong 1 I J)) else (FI_X12_wrong 1 I J)) else (if (I 130 29) ≤ 9999 then I else (FI_X12_wrong 2 I J))
def T_X12_primary_j176 (rec : Nat → SI → SJ → SI × SJ) (I : SI) (J : SJ) : Int32 := if (T_X12_primary_j114 rec I J) = 0 then 1 else 0
def S1_X12_primary (rec : Nat → SI → SJ → SI × SJ) (I : SI) (J : SJ) : SI := FI_X12_puts (T_X12_primary_j176 rec I J) (((FI_X12_knot  (T_X12_primary_j162 rec I J) J) 130 29) - 16) (FI_X12_knot  (T_X12_primary_j162 rec I J) J) J
def S2_X12_primary (rec : Nat → SI → SJ → SI × SJ) (I : SI) (J : SJ) : SI := FI_X12_puts (T_X12_primary_j176 rec I J) ((FI_X12_knot  (T_X12_primary_j162 rec I J) J) 130 29) (FI_X12_knot  (T_X12_primary_j162 rec I J) J) J
def T_X12_primary_j31 (rec : Nat → SI → SJ → SI × SJ) (I : SI) (J : SJ) : SI := if (I 130 34) = 8 then (FI_X12_wrong 2 I J) else I
def S3_X12_primary (rec : Nat → SI → SJ → SI × SJ) (I : SI) (J : SJ) : SI := u2 (T_X12_primary_j31 rec I J) 130 34 ((((T_X12_primary_j31 rec I J)) 130 34) + 1)
def S6_X12_primary (rec : Nat → SI → SJ → SI × SJ) (I : SI) (J : SJ) : Int32 := F_X12_isSign 41 ((rec 0 (FI_X12_token  (S3_X12_primary rec I J) J) J).1) ((rec 0 (FI_X12_token  (S3_X12_primary rec I J) J) J).2)
def S7_X12_primary (rec : Nat → SI → SJ → SI × SJ) (I : SI) (J : SJ) : SI := FI_X12_wrong 1 ((rec 0 (FI_X12_token  (S3_X12_primary rec I J) J) J).1) ((rec 0 (FI_X12_token  (S3_X12_primary rec I J) J) J).2)
def T_X12_primary_j78 (rec : Nat → SI → SJ → SI × SJ) (I : SI) (J : SJ) : SI := if (((rec 0 (FI_X12_token  (S3_X12_primary rec I J) J) J).1) 130 30) = 0 then (if (S6_X12_primary rec I J) = 0 then (S7_X12_primary rec I J) else ((rec 0 (FI_X12_token  (S3_X12_primary rec I J) J) J).1)) else ((rec 0 (FI_X12_token  (S3_X12_primary rec I J) J) J).1)
