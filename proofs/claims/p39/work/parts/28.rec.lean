/-! recursion, by program -/
def S1_X12_expression (rec : Nat → SI → SJ → SI × SJ) (I : SI) (J : SJ) (s4 : SI × SJ) : SI := FI_X12_puts 2 262 ((rec 1 (FI_X12_goOn  (FI_X12_knot  s4.1 s4.2) s4.2) s4.2).1) ((rec 1 (FI_X12_goOn  (FI_X12_knot  s4.1 s4.2) s4.2) s4.2).2)
def B_X12_expression_w4 (rec : Nat → SI → SJ → SI × SJ) (I : SI) (J : SJ) (s4 : SI × SJ) : (SI × SJ) ⊕ (SI × SJ) := if (F_X12_isWord 13 s4.1 s4.2) = 0 then .inr (s4.1, s4.2) else .inl ((S1_X12_expression rec I J s4), ((rec 1 (FI_X12_goOn  (FI_X12_knot  s4.1 s4.2) s4.2) s4.2).2))
def F_X12_expression_w4 (rec : Nat → SI → SJ → SI × SJ) (I : SI) (J : SJ) (s0 : SI × SJ) : SI × SJ := (itW (B_X12_expression_w4 rec I J) 800 s0).getD s0
def FI_X12_expression (rec : Nat → SI → SJ → SI × SJ)  (I : SI) (J : SJ) : SI := (F_X12_expression_w4 rec I J (((rec 1 I J).1), ((rec 1 I J).2))).1
def FJ_X12_expression (rec : Nat → SI → SJ → SI × SJ)  (I : SI) (J : SJ) : SJ := (F_X12_expression_w4 rec I J (((rec 1 I J).1), ((rec 1 I J).2))).2
def H_X12_expression (hrec : Nat → SI → SJ → Prop) (rec : Nat → SI → SJ → SI × SJ)  (I : SI) (J : SJ) : Prop := (hrec 1 I J) ∧ ((itW (B_X12_expression_w4 rec I J) 800 (((rec 1 I J).1), ((rec 1 I J).2))).isSome = true) ∧ (∀ (n4 : Nat) (s4 : SI × SJ), wN (B_X12_expression_w4 rec I J) n4 (((rec 1 I J).1), ((rec 1 I J).2)) = some s4 → ¬ ((F_X12_isWord 13 s4.1 s4.2) = 0) → H_X12_goOn  (FI_X12_knot  s4.1 s4.2) s4.2) ∧ (∀ (n4 : Nat) (s4 : SI × SJ), wN (B_X12_expression_w4 rec I J) n4 (((rec 1 I J).1), ((rec 1 I J).2)) = some s4 → ¬ ((F_X12_isWord 13 s4.1 s4.2) = 0) → hrec 1 (FI_X12_goOn  (FI_X12_knot  s4.1 s4.2) s4.2) s4.2) ∧ (∀ (n4 : Nat) (s4 : SI × SJ), wN (B_X12_expression_w4 rec I J) n4 (((rec 1 I J).1), ((rec 1 I J).2)) = some s4 → ¬ ((F_X12_isWord 13 s4.1 s4.2) = 0) → H_X12_puts 2 262 ((rec 1 (FI_X12_goOn  (FI_X12_knot  s4.1 s4.2) s4.2) s4.2).1) ((rec 1 (FI_X12_goOn  (FI_X12_knot  s4.1 s4.2) s4.2) s4.2).2))
set_option maxHeartbeats 1000000 in
set_option maxRecDepth 40000 in
theorem cs_X12_expression {I : SI} {J : SJ} {R : SR} {n g : Nat} {f : Fr} (ro : RM R) (hnn : nM ≤ n) (hf : f.1 = false)   (rec : Nat → SI → SJ → SI × SJ) (hrec : Nat → SI → SJ → Prop) {dd : Nat} (hdd : 7 ≤ dd) (ih0 : ∀ (I : SI) (J : SJ), hrec 0 I J → MM dd 0 0 mX12_expression [.ref 130] (eI f I) (eJ f J) R n g (Pd none (eI f (rec 0 I J).1) (eJ f (rec 0 I J).2) R n g)) (ih1 : ∀ (I : SI) (J : SJ), hrec 1 I J → MM dd 0 0 mX12_conjunction [.ref 130] (eI f I) (eJ f J) R n g (Pd none (eI f (rec 1 I J).1) (eJ f (rec 1 I J).2) R n g)) (ih2 : ∀ (I : SI) (J : SJ), hrec 2 I J → MM dd 0 0 mX12_negation [.ref 130] (eI f I) (eJ f J) R n g (Pd none (eI f (rec 2 I J).1) (eJ f (rec 2 I J).2) R n g)) (ih3 : ∀ (I : SI) (J : SJ), hrec 3 I J → MM dd 0 0 mX12_sum [.ref 130] (eI f I) (eJ f J) R n g (Pd none (eI f (rec 3 I J).1) (eJ f (rec 3 I J).2) R n g)) (ih4 : ∀ (I : SI) (J : SJ), hrec 4 I J → MM dd 0 0 mX12_product [.ref 130] (eI f I) (eJ f J) R n g (Pd none (eI f (rec 4 I J).1) (eJ f (rec 4 I J).2) R n g)) (ih5 : ∀ (I : SI) (J : SJ), hrec 5 I J → MM dd 0 0 mX12_primary [.ref 130] (eI f I) (eJ f J) R n g (Pd none (eI f (rec 5 I J).1) (eJ f (rec 5 I J).2) R n g))  (hp : H_X12_expression hrec rec  I J) : MM (dd + 1) 0 0 mX12_expression [.ref 130] (eI f I) (eJ f J) R n g (Pd none (eI f (FI_X12_expression rec  I J)) (eJ f (FJ_X12_expression rec  I J)) R n g) := by
  refine MM.of (by decide) (Nat.le_of_ble_eq_true rfl) fun K ok fin => ?_
  show WK K 0 0 0 [(0, .ref 130)] [] (eI f I) (eJ f J) R n g
  obtain ⟨hp1, hp2, hp3, hp4, hp5⟩ := hp
  refine w_aload_n ok dX12_expression_0 0 rfl ?_
  refine w_cV (As := []) ok dX12_expression_1 iX12_conjunction (lX12_291 rfl) (rcv cls12 (congrArg Prod.fst s_130)) (ltM hnn (by decide)) (ih1 I J (hp1)) (by omega) rfl (Nat.le_of_ble_eq_true rfl) ?_
  refine loop_w (fun (s4 : SI × SJ) => WK K 0 0 4 [(0, .ref 130)] [] (eI f s4.1) (eJ f s4.2) R n g) (fun (s4 : SI × SJ) => WK K 0 0 36 [(0, .ref 130)] [] (eI f s4.1) (eJ f s4.2) R n g) (B_X12_expression_w4 rec I J) 800 (((rec 1 I J).1), ((rec 1 I J).2)) (F_X12_expression_w4 rec I J (((rec 1 I J).1), ((rec 1 I J).2))) (itW_some (hp2)) ?_ ?_
  · show WK K 0 0 36 [(0, .ref 130)] [] (eI f ((F_X12_expression_w4 rec I J (((rec 1 I J).1), ((rec 1 I J).2))).1)) (eJ f ((F_X12_expression_w4 rec I J (((rec 1 I J).1), ((rec 1 I J).2))).2)) R n g
    exact w_vret ok fin dX12_expression_36 rfl (by unfold FI_X12_expression FJ_X12_expression; exact Pd.i)
  · intro n4 s4 hs4 kc4 kx4
    show WK K 0 0 4 [(0, .ref 130)] [] (eI f s4.1) (eJ f s4.2) R n g
    refine w_aload_n ok dX12_expression_4 0 rfl ?_
    refine w_bipush (v := 13) ok dX12_expression_5 (by decide) ?_
    refine w_cV (As := [.int 13]) ok dX12_expression_7 iX12_isWord (lX12_294 rfl) (rcv cls12 (congrArg Prod.fst s_130)) (ltM hnn (by decide)) (c_X12_isWord ro hnn hf 13 ) (by omega) rfl (Nat.le_of_ble_eq_true rfl) ?_
    refine w_if_eq (tgt := 36) ok dX12_expression_10 (by decide) (fun c1 => ?_) (fun c1 => ?_)
    · skip
      have eB : B_X12_expression_w4 rec I J s4 = .inr (s4.1, s4.2) := by
        unfold B_X12_expression_w4; exact (if_pos c1).trans (rfl)
      refine w_loc [0] rfl ?_
      have kk := kx4 _ eB
      exact kk
    · skip
      refine w_aload_n ok dX12_expression_13 0 rfl ?_
      refine w_cV (As := []) ok dX12_expression_14 iX12_knot (lX12_297 rfl) (rcv cls12 (congrArg Prod.fst s_130)) (ltM hnn (by decide)) (c_X12_knot ro hnn hf  ) (by omega) rfl (Nat.le_of_ble_eq_true rfl) ?_
      refine w_aload_n ok dX12_expression_17 0 rfl ?_
      refine w_cV (As := []) ok dX12_expression_18 iX12_goOn (lX12_279 rfl) (rcv cls12 (congrArg Prod.fst s_130)) (ltM hnn (by decide)) (c_X12_goOn ro hnn hf   (hp3 n4 s4 hs4 c1)) (by omega) rfl (Nat.le_of_ble_eq_true rfl) ?_
      refine w_aload_n ok dX12_expression_21 0 rfl ?_
      refine w_cV (As := []) ok dX12_expression_22 iX12_conjunction (lX12_291 rfl) (rcv cls12 (congrArg Prod.fst s_130)) (ltM hnn (by decide)) (ih1 (FI_X12_goOn  (FI_X12_knot  s4.1 s4.2) s4.2) s4.2 (hp4 n4 s4 hs4 c1)) (by omega) rfl (Nat.le_of_ble_eq_true rfl) ?_
      refine w_aload_n ok dX12_expression_25 0 rfl ?_
      refine w_iconst (v := 2) ok dX12_expression_26 (by decide) ?_
      refine w_sipush (v := 262) ok dX12_expression_27 (by decide) ?_
      refine w_cV (As := [.int 2, .int 262]) ok dX12_expression_30 iX12_puts (lX12_300 rfl) (rcv cls12 (congrArg Prod.fst s_130)) (ltM hnn (by decide)) (c_X12_puts ro hnn hf 2 262  (hp5 n4 s4 hs4 c1)) (by omega) rfl (Nat.le_of_ble_eq_true rfl) ?_
      show WK K 0 0 33 [(0, .ref 130)] [] (eI f (S1_X12_expression rec I J s4)) (eJ f ((rec 1 (FI_X12_goOn  (FI_X12_knot  s4.1 s4.2) s4.2) s4.2).2)) R n g
      refine w_goto (tgt := 4) ok dX12_expression_33 (by decide) ?_
      have eB : B_X12_expression_w4 rec I J s4 = .inl ((S1_X12_expression rec I J s4), ((rec 1 (FI_X12_goOn  (FI_X12_knot  s4.1 s4.2) s4.2) s4.2).2)) := by
        unfold B_X12_expression_w4; exact (if_neg c1).trans (rfl)
      refine w_loc [0] rfl ?_
      have kk := kc4 _ eB
      exact kk
def S1_X12_conjunction (rec : Nat → SI → SJ → SI × SJ) (I : SI) (J : SJ) (s4 : SI × SJ) : SI := FI_X12_puts 2 261 ((rec 2 (FI_X12_goOn  (FI_X12_knot  s4.1 s4.2) s4.2) s4.2).1) ((rec 2 (FI_X12_goOn  (FI_X12_knot  s4.1 s4.2) s4.2) s4.2).2)
def B_X12_conjunction_w4 (rec : Nat → SI → SJ → SI × SJ) (I : SI) (J : SJ) (s4 : SI × SJ) : (SI × SJ) ⊕ (SI × SJ) := if (F_X12_isWord 14 s4.1 s4.2) = 0 then .inr (s4.1, s4.2) else .inl ((S1_X12_conjunction rec I J s4), ((rec 2 (FI_X12_goOn  (FI_X12_knot  s4.1 s4.2) s4.2) s4.2).2))
def F_X12_conjunction_w4 (rec : Nat → SI → SJ → SI × SJ) (I : SI) (J : SJ) (s0 : SI × SJ) : SI × SJ := (itW (B_X12_conjunction_w4 rec I J) 800 s0).getD s0
def FI_X12_conjunction (rec : Nat → SI → SJ → SI × SJ)  (I : SI) (J : SJ) : SI := (F_X12_conjunction_w4 rec I J (((rec 2 I J).1), ((rec 2 I J).2))).1
def FJ_X12_conjunction (rec : Nat → SI → SJ → SI × SJ)  (I : SI) (J : SJ) : SJ := (F_X12_conjunction_w4 rec I J (((rec 2 I J).1), ((rec 2 I J).2))).2
def H_X12_conjunction (hrec : Nat → SI → SJ → Prop) (rec : Nat → SI → SJ → SI × SJ)  (I : SI) (J : SJ) : Prop := (hrec 2 I J) ∧ ((itW (B_X12_conjunction_w4 rec I J) 800 (((rec 2 I J).1), ((rec 2 I J).2))).isSome = true) ∧ (∀ (n4 : Nat) (s4 : SI × SJ), wN (B_X12_conjunction_w4 rec I J) n4 (((rec 2 I J).1), ((rec 2 I J).2)) = some s4 → ¬ ((F_X12_isWord 14 s4.1 s4.2) = 0) → H_X12_goOn  (FI_X12_knot  s4.1 s4.2) s4.2) ∧ (∀ (n4 : Nat) (s4 : SI × SJ), wN (B_X12_conjunction_w4 rec I J) n4 (((rec 2 I J).1), ((rec 2 I J).2)) = some s4 → ¬ ((F_X12_isWord 14 s4.1 s4.2) = 0) → hrec 2 (FI_X12_goOn  (FI_X12_knot  s4.1 s4.2) s4.2) s4.2) ∧ (∀ (n4 : Nat) (s4 : SI × SJ), wN (B_X12_conjunction_w4 rec I J) n4 (((rec 2 I J).1), ((rec 2 I J).2)) = some s4 → ¬ ((F_X12_isWord 14 s4.1 s4.2) = 0) → H_X12_puts 2 261 ((rec 2 (FI_X12_goOn  (FI_X12_knot  s4.1 s4.2) s4.2) s4.2).1) ((rec 2 (FI_X12_goOn  (FI_X12_knot  s4.1 s4.2) s4.2) s4.2).2))
set_option maxHeartbeats 1000000 in
set_option maxRecDepth 40000 in
theorem cs_X12_conjunction {I : SI} {J : SJ} {R : SR} {n g : Nat} {f : Fr} (ro : RM R) (hnn : nM ≤ n) (hf : f.1 = false)   (rec : Nat → SI → SJ → SI × SJ) (hrec : Nat → SI → SJ → Prop) {dd : Nat} (hdd : 7 ≤ dd) (ih0 : ∀ (I : SI) (J : SJ), hrec 0 I J → MM dd 0 0 mX12_expression [.ref 130] (eI f I) (eJ f J) R n g (Pd none (eI f (rec 0 I J).1) (eJ f (rec 0 I J).2) R n g)) (ih1 : ∀ (I : SI) (J : SJ), hrec 1 I J → MM dd 0 0 mX12_conjunction [.ref 130] (eI f I) (eJ f J) R n g (Pd none (eI f (rec 1 I J).1) (eJ f (rec 1 I J).2) R n g)) (ih2 : ∀ (I : SI) (J : SJ), hrec 2 I J → MM dd 0 0 mX12_negation [.ref 130] (eI f I) (eJ f J) R n g (Pd none (eI f (rec 2 I J).1) (eJ f (rec 2 I J).2) R n g)) (ih3 : ∀ (I : SI) (J : SJ), hrec 3 I J → MM dd 0 0 mX12_sum [.ref 130] (eI f I) (eJ f J) R n g (Pd none (eI f (rec 3 I J).1) (eJ f (rec 3 I J).2) R n g)) (ih4 : ∀ (I : SI) (J : SJ), hrec 4 I J → MM dd 0 0 mX12_product [.ref 130] (eI f I) (eJ f J) R n g (Pd none (eI f (rec 4 I J).1) (eJ f (rec 4 I J).2) R n g)) (ih5 : ∀ (I : SI) (J : SJ), hrec 5 I J → MM dd 0 0 mX12_primary [.ref 130] (eI f I) (eJ f J) R n g (Pd none (eI f (rec 5 I J).1) (eJ f (rec 5 I J).2) R n g))  (hp : H_X12_conjunction hrec rec  I J) : MM (dd + 1) 0 0 mX12_conjunction [.ref 130] (eI f I) (eJ f J) R n g (Pd none (eI f (FI_X12_conjunction rec  I J)) (eJ f (FJ_X12_conjunction rec  I J)) R n g) := by
  refine MM.of (by decide) (Nat.le_of_ble_eq_true rfl) fun K ok fin => ?_
  show WK K 0 0 0 [(0, .ref 130)] [] (eI f I) (eJ f J) R n g
  obtain ⟨hp1, hp2, hp3, hp4, hp5⟩ := hp
  refine w_aload_n ok dX12_conjunction_0 0 rfl ?_
  refine w_cV (As := []) ok dX12_conjunction_1 iX12_negation (lX12_303 rfl) (rcv cls12 (congrArg Prod.fst s_130)) (ltM hnn (by decide)) (ih2 I J (hp1)) (by omega) rfl (Nat.le_of_ble_eq_true rfl) ?_
  refine loop_w (fun (s4 : SI × SJ) => WK K 0 0 4 [(0, .ref 130)] [] (eI f s4.1) (eJ f s4.2) R n g) (fun (s4 : SI × SJ) => WK K 0 0 36 [(0, .ref 130)] [] (eI f s4.1) (eJ f s4.2) R n g) (B_X12_conjunction_w4 rec I J) 800 (((rec 2 I J).1), ((rec 2 I J).2)) (F_X12_conjunction_w4 rec I J (((rec 2 I J).1), ((rec 2 I J).2))) (itW_some (hp2)) ?_ ?_
  · show WK K 0 0 36 [(0, .ref 130)] [] (eI f ((F_X12_conjunction_w4 rec I J (((rec 2 I J).1), ((rec 2 I J).2))).1)) (eJ f ((F_X12_conjunction_w4 rec I J (((rec 2 I J).1), ((rec 2 I J).2))).2)) R n g
    exact w_vret ok fin dX12_conjunction_36 rfl (by unfold FI_X12_conjunction FJ_X12_conjunction; exact Pd.i)
  · intro n4 s4 hs4 kc4 kx4
    show WK K 0 0 4 [(0, .ref 130)] [] (eI f s4.1) (eJ f s4.2) R n g
    refine w_aload_n ok dX12_conjunction_4 0 rfl ?_
    refine w_bipush (v := 14) ok dX12_conjunction_5 (by decide) ?_
    refine w_cV (As := [.int 14]) ok dX12_conjunction_7 iX12_isWord (lX12_294 rfl) (rcv cls12 (congrArg Prod.fst s_130)) (ltM hnn (by decide)) (c_X12_isWord ro hnn hf 14 ) (by omega) rfl (Nat.le_of_ble_eq_true rfl) ?_
    refine w_if_eq (tgt := 36) ok dX12_conjunction_10 (by decide) (fun c1 => ?_) (fun c1 => ?_)
    · skip
      have eB : B_X12_conjunction_w4 rec I J s4 = .inr (s4.1, s4.2) := by
        unfold B_X12_conjunction_w4; exact (if_pos c1).trans (rfl)
      refine w_loc [0] rfl ?_
      have kk := kx4 _ eB
      exact kk
    · skip
      refine w_aload_n ok dX12_conjunction_13 0 rfl ?_
      refine w_cV (As := []) ok dX12_conjunction_14 iX12_knot (lX12_297 rfl) (rcv cls12 (congrArg Prod.fst s_130)) (ltM hnn (by decide)) (c_X12_knot ro hnn hf  ) (by omega) rfl (Nat.le_of_ble_eq_true rfl) ?_
      refine w_aload_n ok dX12_conjunction_17 0 rfl ?_
      refine w_cV (As := []) ok dX12_conjunction_18 iX12_goOn (lX12_279 rfl) (rcv cls12 (congrArg Prod.fst s_130)) (ltM hnn (by decide)) (c_X12_goOn ro hnn hf   (hp3 n4 s4 hs4 c1)) (by omega) rfl (Nat.le_of_ble_eq_true rfl) ?_
      refine w_aload_n ok dX12_conjunction_21 0 rfl ?_
      refine w_cV (As := []) ok dX12_conjunction_22 iX12_negation (lX12_303 rfl) (rcv cls12 (congrArg Prod.fst s_130)) (ltM hnn (by decide)) (ih2 (FI_X12_goOn  (FI_X12_knot  s4.1 s4.2) s4.2) s4.2 (hp4 n4 s4 hs4 c1)) (by omega) rfl (Nat.le_of_ble_eq_true rfl) ?_
      refine w_aload_n ok dX12_conjunction_25 0 rfl ?_
      refine w_iconst (v := 2) ok dX12_conjunction_26 (by decide) ?_
      refine w_sipush (v := 261) ok dX12_conjunction_27 (by decide) ?_
      refine w_cV (As := [.int 2, .int 261]) ok dX12_conjunction_30 iX12_puts (lX12_300 rfl) (rcv cls12 (congrArg Prod.fst s_130)) (ltM hnn (by decide)) (c_X12_puts ro hnn hf 2 261  (hp5 n4 s4 hs4 c1)) (by omega) rfl (Nat.le_of_ble_eq_true rfl) ?_
      show WK K 0 0 33 [(0, .ref 130)] [] (eI f (S1_X12_conjunction rec I J s4)) (eJ f ((rec 2 (FI_X12_goOn  (FI_X12_knot  s4.1 s4.2) s4.2) s4.2).2)) R n g
      refine w_goto (tgt := 4) ok dX12_conjunction_33 (by decide) ?_
      have eB : B_X12_conjunction_w4 rec I J s4 = .inl ((S1_X12_conjunction rec I J s4), ((rec 2 (FI_X12_goOn  (FI_X12_knot  s4.1 s4.2) s4.2) s4.2).2)) := by
        unfold B_X12_conjunction_w4; exact (if_neg c1).trans (rfl)
      refine w_loc [0] rfl ?_
      have kk := kc4 _ eB
      exact kk
def S1_X12_negation (rec : Nat → SI → SJ → SI × SJ) (I : SI) (J : SJ) : SI := FI_X12_goOn  (FI_X12_knot  ((rec 3 I J).1) ((rec 3 I J).2)) ((rec 3 I J).2)
def S2_X12_negation (rec : Nat → SI → SJ → SI × SJ) (I : SI) (J : SJ) : SI := FI_X12_puts 2 (((rec 3 I J).1) 130 29) ((rec 3 (S1_X12_negation rec I J) ((rec 3 I J).2)).1) ((rec 3 (S1_X12_negation rec I J) ((rec 3 I J).2)).2)
def S3_X12_negation (rec : Nat → SI → SJ → SI × SJ) (I : SI) (J : SJ) : SI := FI_X12_goOn  (FI_X12_knot  ((rec 3 I J).1) ((rec 3 I J).2)) ((rec 3 I J).2)
def S4_X12_negation (rec : Nat → SI → SJ → SI × SJ) (I : SI) (J : SJ) : SI := FI_X12_puts 2 (((rec 3 I J).1) 130 29) ((rec 3 (S3_X12_negation rec I J) ((rec 3 I J).2)).1) ((rec 3 (S3_X12_negation rec I J) ((rec 3 I J).2)).2)
def S5_X12_negation (rec : Nat → SI → SJ → SI × SJ) (I : SI) (J : SJ) : SI := FI_X12_goOn  (FI_X12_knot  ((rec 3 I J).1) ((rec 3 I J).2)) ((rec 3 I J).2)
def S6_X12_negation (rec : Nat → SI → SJ → SI × SJ) (I : SI) (J : SJ) : SI := FI_X12_puts 2 (((rec 3 I J).1) 130 29) ((rec 3 (S5_X12_negation rec I J) ((rec 3 I J).2)).1) ((rec 3 (S5_X12_negation rec I J) ((rec 3 I J).2)).2)
def S7_X12_negation (rec : Nat → SI → SJ → SI × SJ) (I : SI) (J : SJ) : SI := FI_X12_goOn  (FI_X12_knot  ((rec 3 I J).1) ((rec 3 I J).2)) ((rec 3 I J).2)
def S8_X12_negation (rec : Nat → SI → SJ → SI × SJ) (I : SI) (J : SJ) : SI := FI_X12_puts 2 (((rec 3 I J).1) 130 29) ((rec 3 (S7_X12_negation rec I J) ((rec 3 I J).2)).1) ((rec 3 (S7_X12_negation rec I J) ((rec 3 I J).2)).2)
def S9_X12_negation (rec : Nat → SI → SJ → SI × SJ) (I : SI) (J : SJ) : SI := FI_X12_puts 2 260 ((rec 2 (FI_X12_goOn  (FI_X12_knot  I J) J) J).1) ((rec 2 (FI_X12_goOn  (FI_X12_knot  I J) J) J).2)
def FI_X12_negation (rec : Nat → SI → SJ → SI × SJ)  (I : SI) (J : SJ) : SI := if (F_X12_isWord 15 I J) = 0 then (if (((rec 3 I J).1) 130 30) = 0 then (if (((rec 3 I J).1) 130 28) = 3 then (if (((rec 3 I J).1) 130 29) = 60 then (S2_X12_negation rec I J) else (if (((rec 3 I J).1) 130 29) = 62 then (S4_X12_negation rec I J) else (if (((rec 3 I J).1) 130 29) = 61 then (S6_X12_negation rec I J) else (if (256 : Int32) ≤ (((rec 3 I J).1) 130 29) then (S8_X12_negation rec I J) else (rec 3 I J).1)))) else (rec 3 I J).1) else (rec 3 I J).1) else (S9_X12_negation rec I J)
def FJ_X12_negation (rec : Nat → SI → SJ → SI × SJ)  (I : SI) (J : SJ) : SJ := if (F_X12_isWord 15 I J) = 0 then (if (((rec 3 I J).1) 130 30) = 0 then (if (((rec 3 I J).1) 130 28) = 3 then (if (((rec 3 I J).1) 130 29) = 60 then (rec 3 (S1_X12_negation rec I J) ((rec 3 I J).2)).2 else (if (((rec 3 I J).1) 130 29) = 62 then (rec 3 (S3_X12_negation rec I J) ((rec 3 I J).2)).2 else (if (((rec 3 I J).1) 130 29) = 61 then (rec 3 (S5_X12_negation rec I J) ((rec 3 I J).2)).2 else (if (256 : Int32) ≤ (((rec 3 I J).1) 130 29) then (rec 3 (S7_X12_negation rec I J) ((rec 3 I J).2)).2 else (rec 3 I J).2)))) else (rec 3 I J).2) else (rec 3 I J).2) else (rec 2 (FI_X12_goOn  (FI_X12_knot  I J) J) J).2
def H_X12_negation (hrec : Nat → SI → SJ → Prop) (rec : Nat → SI → SJ → SI × SJ)  (I : SI) (J : SJ) : Prop := ((F_X12_isWord 15 I J) = 0 → hrec 3 I J) ∧ ((F_X12_isWord 15 I J) = 0 → (((rec 3 I J).1) 130 30) = 0 → (((rec 3 I J).1) 130 28) = 3 → (((rec 3 I J).1) 130 29) = 60 → H_X12_goOn  (FI_X12_knot  ((rec 3 I J).1) ((rec 3 I J).2)) ((rec 3 I J).2)) ∧ ((F_X12_isWord 15 I J) = 0 → (((rec 3 I J).1) 130 30) = 0 → (((rec 3 I J).1) 130 28) = 3 → (((rec 3 I J).1) 130 29) = 60 → hrec 3 (S1_X12_negation rec I J) ((rec 3 I J).2)) ∧ ((F_X12_isWord 15 I J) = 0 → (((rec 3 I J).1) 130 30) = 0 → (((rec 3 I J).1) 130 28) = 3 → (((rec 3 I J).1) 130 29) = 60 → H_X12_puts 2 (((rec 3 I J).1) 130 29) ((rec 3 (S1_X12_negation rec I J) ((rec 3 I J).2)).1) ((rec 3 (S1_X12_negation rec I J) ((rec 3 I J).2)).2)) ∧ ((F_X12_isWord 15 I J) = 0 → (((rec 3 I J).1) 130 30) = 0 → (((rec 3 I J).1) 130 28) = 3 → ¬ ((((rec 3 I J).1) 130 29) = 60) → (((rec 3 I J).1) 130 29) = 62 → H_X12_goOn  (FI_X12_knot  ((rec 3 I J).1) ((rec 3 I J).2)) ((rec 3 I J).2)) ∧ ((F_X12_isWord 15 I J) = 0 → (((rec 3 I J).1) 130 30) = 0 → (((rec 3 I J).1) 130 28) = 3 → ¬ ((((rec 3 I J).1) 130 29) = 60) → (((rec 3 I J).1) 130 29) = 62 → hrec 3 (S3_X12_negation rec I J) ((rec 3 I J).2)) ∧ ((F_X12_isWord 15 I J) = 0 → (((rec 3 I J).1) 130 30) = 0 → (((rec 3 I J).1) 130 28) = 3 → ¬ ((((rec 3 I J).1) 130 29) = 60) → (((rec 3 I J).1) 130 29) = 62 → H_X12_puts 2 (((rec 3 I J).1) 130 29) ((rec 3 (S3_X12_negation rec I J) ((rec 3 I J).2)).1) ((rec 3 (S3_X12_negation rec I J) ((rec 3 I J).2)).2)) ∧ ((F_X12_isWord 15 I J) = 0 → (((rec 3 I J).1) 130 30) = 0 → (((rec 3 I J).1) 130 28) = 3 → ¬ ((((rec 3 I J).1) 130 29) = 60) → ¬ ((((rec 3 I J).1) 130 29) = 62) → (((rec 3 I J).1) 130 29) = 61 → H_X12_goOn  (FI_X12_knot  ((rec 3 I J).1) ((rec 3 I J).2)) ((rec 3 I J).2)) ∧ ((F_X12_isWord 15 I J) = 0 → (((rec 3 I J).1) 130 30) = 0 → (((rec 3 I J).1) 130 28) = 3 → ¬ ((((rec 3 I J).1) 130 29) = 60) → ¬ ((((rec 3 I J).1) 130 29) = 62) → (((rec 3 I J).1) 130 29) = 61 → hrec 3 (S5_X12_negation rec I J) ((rec 3 I J).2)) ∧ ((F_X12_isWord 15 I J) = 0 → (((rec 3 I J).1) 130 30) = 0 → (((rec 3 I J).1) 130 28) = 3 → ¬ ((((rec 3 I J).1) 130 29) = 60) → ¬ ((((rec 3 I J).1) 130 29) = 62) → (((rec 3 I J).1) 130 29) = 61 → H_X12_puts 2 (((rec 3 I J).1) 130 29) ((rec 3 (S5_X12_negation rec I J) ((rec 3 I J).2)).1) ((rec 3 (S5_X12_negation rec I J) ((rec 3 I J).2)).2)) ∧ ((F_X12_isWord 15 I J) = 0 → (((rec 3 I J).1) 130 30) = 0 → (((rec 3 I J).1) 130 28) = 3 → ¬ ((((rec 3 I J).1) 130 29) = 60) → ¬ ((((rec 3 I J).1) 130 29) = 62) → ¬ ((((rec 3 I J).1) 130 29) = 61) → (256 : Int32) ≤ (((rec 3 I J).1) 130 29) → H_X12_goOn  (FI_X12_knot  ((rec 3 I J).1) ((rec 3 I J).2)) ((rec 3 I J).2)) ∧ ((F_X12_isWord 15 I J) = 0 → (((rec 3 I J).1) 130 30) = 0 → (((rec 3 I J).1) 130 28) = 3 → ¬ ((((rec 3 I J).1) 130 29) = 60) → ¬ ((((rec 3 I J).1) 130 29) = 62) → ¬ ((((rec 3 I J).1) 130 29) = 61) → (256 : Int32) ≤ (((rec 3 I J).1) 130 29) → hrec 3 (S7_X12_negation rec I J) ((rec 3 I J).2)) ∧ ((F_X12_isWord 15 I J) = 0 → (((rec 3 I J).1) 130 30) = 0 → (((rec 3 I J).1) 130 28) = 3 → ¬ ((((rec 3 I J).1) 130 29) = 60) → ¬ ((((rec 3 I J).1) 130 29) = 62) → ¬ ((((rec 3 I J).1) 130 29) = 61) → (256 : Int32) ≤ (((rec 3 I J).1) 130 29) → H_X12_puts 2 (((rec 3 I J).1) 130 29) ((rec 3 (S7_X12_negation rec I J) ((rec 3 I J).2)).1) ((rec 3 (S7_X12_negation rec I J) ((rec 3 I J).2)).2)) ∧ (¬ ((F_X12_isWord 15 I J) = 0) → H_X12_goOn  (FI_X12_knot  I J) J) ∧ (¬ ((F_X12_isWord 15 I J) = 0) → hrec 2 (FI_X12_goOn  (FI_X12_knot  I J) J) J) ∧ (¬ ((F_X12_isWord 15 I J) = 0) → H_X12_puts 2 260 ((rec 2 (FI_X12_goOn  (FI_X12_knot  I J) J) J).1) ((rec 2 (FI_X12_goOn  (FI_X12_knot  I J) J) J).2))
set_option maxHeartbeats 1230000 in
set_option maxRecDepth 40000 in
theorem cs_X12_negation {I : SI} {J : SJ} {R : SR} {n g : Nat} {f : Fr} (ro : RM R) (hnn : nM ≤ n) (hf : f.1 = false)   (rec : Nat → SI → SJ → SI × SJ) (hrec : Nat → SI → SJ → Prop) {dd : Nat} (hdd : 7 ≤ dd) (ih0 : ∀ (I : SI) (J : SJ), hrec 0 I J → MM dd 0 0 mX12_expression [.ref 130] (eI f I) (eJ f J) R n g (Pd none (eI f (rec 0 I J).1) (eJ f (rec 0 I J).2) R n g)) (ih1 : ∀ (I : SI) (J : SJ), hrec 1 I J → MM dd 0 0 mX12_conjunction [.ref 130] (eI f I) (eJ f J) R n g (Pd none (eI f (rec 1 I J).1) (eJ f (rec 1 I J).2) R n g)) (ih2 : ∀ (I : SI) (J : SJ), hrec 2 I J → MM dd 0 0 mX12_negation [.ref 130] (eI f I) (eJ f J) R n g (Pd none (eI f (rec 2 I J).1) (eJ f (rec 2 I J).2) R n g)) (ih3 : ∀ (I : SI) (J : SJ), hrec 3 I J → MM dd 0 0 mX12_sum [.ref 130] (eI f I) (eJ f J) R n g (Pd none (eI f (rec 3 I J).1) (eJ f (rec 3 I J).2) R n g)) (ih4 : ∀ (I : SI) (J : SJ), hrec 4 I J → MM dd 0 0 mX12_product [.ref 130] (eI f I) (eJ f J) R n g (Pd none (eI f (rec 4 I J).1) (eJ f (rec 4 I J).2) R n g)) (ih5 : ∀ (I : SI) (J : SJ), hrec 5 I J → MM dd 0 0 mX12_primary [.ref 130] (eI f I) (eJ f J) R n g (Pd none (eI f (rec 5 I J).1) (eJ f (rec 5 I J).2) R n g))  (hp : H_X12_negation hrec rec  I J) : MM (dd + 1) 0 0 mX12_negation [.ref 130] (eI f I) (eJ f J) R n g (Pd none (eI f (FI_X12_negation rec  I J)) (eJ f (FJ_X12_negation rec  I J)) R n g) := by
  refine MM.of (by decide) (Nat.le_of_ble_eq_true rfl) fun K ok fin => ?_
  show WK K 0 0 0 [(0, .ref 130)] [] (eI f I) (eJ f J) R n g
  obtain ⟨hp1, hp2, hp3, hp4, hp5, hp6, hp7, hp8, hp9, hp10, hp11, hp12, hp13, hp14, hp15, hp16⟩ := hp
  refine w_aload_n ok dX12_negation_0 0 rfl ?_
  refine w_bipush (v := 15) ok dX12_negation_1 (by decide) ?_
  refine w_cV (As := [.int 15]) ok dX12_negation_3 iX12_isWord (lX12_294 rfl) (rcv cls12 (congrArg Prod.fst s_130)) (ltM hnn (by decide)) (c_X12_isWord ro hnn hf 15 ) (by omega) rfl (Nat.le_of_ble_eq_true rfl) ?_
  refine w_if_eq (tgt := 30) ok dX12_negation_6 (by decide) (fun c1 => ?_) (fun c1 => ?_)
  · skip
    refine w_aload_n ok dX12_negation_30 0 rfl ?_
    refine w_cV (As := []) ok dX12_negation_31 iX12_sum (lX12_306 rfl) (rcv cls12 (congrArg Prod.fst s_130)) (ltM hnn (by decide)) (ih3 I J (hp1 c1)) (by omega) rfl (Nat.le_of_ble_eq_true rfl) ?_
    refine w_aload_n ok dX12_negation_34 0 rfl ?_
    refine y_getI ok dX12_negation_35 (fX12_223 rfl) (congrArg Prod.fst s_130) rfl (ltM hnn (by decide)) (sdm hf (by decide)) ?_
    refine w_if_ne (tgt := 86) ok dX12_negation_38 (by decide) (fun c2 => ?_) (fun c2 => ?_)
    · skip
      exact w_vret ok fin dX12_negation_86 rfl (by unfold FI_X12_negation FJ_X12_negation; simp only [if_pos c1]; simp only [if_neg c2]; exact Pd.i)
    · skip
      refine w_aload_n ok dX12_negation_41 0 rfl ?_
      refine y_getI ok dX12_negation_42 (fX12_188 rfl) (congrArg Prod.fst s_130) rfl (ltM hnn (by decide)) (sdm hf (by decide)) ?_
      refine w_iconst (v := 3) ok dX12_negation_45 (by decide) ?_
      refine w_icmp_ne (tgt := 86) ok dX12_negation_46 (by decide) (fun c3 => ?_) (fun c3 => ?_)
      · skip
        exact w_vret ok fin dX12_negation_86 rfl (by unfold FI_X12_negation FJ_X12_negation; simp only [if_pos c1]; simp only [if_pos c2]; simp only [if_neg c3]; exact Pd.i)
      · skip
        refine w_aload_n ok dX12_negation_49 0 rfl ?_
        refine y_getI ok dX12_negation_50 (fX12_198 rfl) (congrArg Prod.fst s_130) rfl (ltM hnn (by decide)) (sdm hf (by decide)) ?_
        refine w_bipush (v := 60) ok dX12_negation_53 (by decide) ?_
        refine w_icmp_eq (tgt := 87) ok dX12_negation_55 (by decide) (fun c4 => ?_) (fun c4 => ?_)
        · skip
          refine w_aload_n ok dX12_negation_87 0 rfl ?_
          refine y_getI ok dX12_negation_88 (fX12_198 rfl) (congrArg Prod.fst s_130) rfl (ltM hnn (by decide)) (sdm hf (by decide)) ?_
          refine w_istore_n ok dX12_negation_91 rfl (by decide) rfl ?_
          refine w_aload_n ok dX12_negation_92 1 rfl ?_
          refine w_cV (As := []) ok dX12_negation_93 iX12_knot (lX12_297 rfl) (rcv cls12 (congrArg Prod.fst s_130)) (ltM hnn (by decide)) (c_X12_knot ro hnn hf  ) (by omega) rfl (Nat.le_of_ble_eq_true rfl) ?_
          refine w_aload_n ok dX12_negation_96 1 rfl ?_
          refine w_cV (As := []) ok dX12_negation_97 iX12_goOn (lX12_279 rfl) (rcv cls12 (congrArg Prod.fst s_130)) (ltM hnn (by decide)) (c_X12_goOn ro hnn hf   (hp2 c1 c2 c3 c4)) (by omega) rfl (Nat.le_of_ble_eq_true rfl) ?_
          show WK K 0 0 100 [(1, .int (((rec 3 I J).1) 130 29)), (0, .ref 130)] [] (eI f (S1_X12_negation rec I J)) (eJ f ((rec 3 I J).2)) R n g
          refine w_aload_n ok dX12_negation_100 1 rfl ?_
          refine w_cV (As := []) ok dX12_negation_101 iX12_sum (lX12_306 rfl) (rcv cls12 (congrArg Prod.fst s_130)) (ltM hnn (by decide)) (ih3 (S1_X12_negation rec I J) ((rec 3 I J).2) (hp3 c1 c2 c3 c4)) (by omega) rfl (Nat.le_of_ble_eq_true rfl) ?_
          refine w_aload_n ok dX12_negation_104 1 rfl ?_
          refine w_iconst (v := 2) ok dX12_negation_105 (by decide) ?_
          refine w_iload_n ok dX12_negation_106 0 rfl ?_
          refine w_cV (As := [.int 2, .int (((rec 3 I J).1) 130 29)]) ok dX12_negation_107 iX12_puts (lX12_300 rfl) (rcv cls12 (congrArg Prod.fst s_130)) (ltM hnn (by decide)) (c_X12_puts ro hnn hf 2 (((rec 3 I J).1) 130 29)  (hp4 c1 c2 c3 c4)) (by omega) rfl (Nat.le_of_ble_eq_true rfl) ?_
          show WK K 0 0 110 [(1, .int (((rec 3 I J).1) 130 29)), (0, .ref 130)] [] (eI f (S2_X12_negation rec I J)) (eJ f ((rec 3 (S1_X12_negation rec I J) ((rec 3 I J).2)).2)) R n g
          exact w_vret ok fin dX12_negation_110 rfl (by unfold FI_X12_negation FJ_X12_negation; simp only [if_pos c1]; simp only [if_pos c2]; simp only [if_pos c3]; simp only [if_pos c4]; exact Pd.i)
        · skip
          refine w_aload_n ok dX12_negation_58 0 rfl ?_
          refine y_getI ok dX12_negation_59 (fX12_198 rfl) (congrArg Prod.fst s_130) rfl (ltM hnn (by decide)) (sdm hf (by decide)) ?_
          refine w_bipush (v := 62) ok dX12_negation_62 (by decide) ?_
          refine w_icmp_eq (tgt := 87) ok dX12_negation_64 (by decide) (fun c5 => ?_) (fun c5 => ?_)
          · skip
            refine w_aload_n ok dX12_negation_87 0 rfl ?_
            refine y_getI ok dX12_negation_88 (fX12_198 rfl) (congrArg Prod.fst s_130) rfl (ltM hnn (by decide)) (sdm hf (by decide)) ?_
            refine w_istore_n ok dX12_negation_91 rfl (by decide) rfl ?_
            refine w_aload_n ok dX12_negation_92 1 rfl ?_
            refine w_cV (As := []) ok dX12_negation_93 iX12_knot (lX12_297 rfl) (rcv cls12 (congrArg Prod.fst s_130)) (ltM hnn (by decide)) (c_X12_knot ro hnn hf  ) (by omega) rfl (Nat.le_of_ble_eq_true rfl) ?_
            refine w_aload_n ok dX12_negation_96 1 rfl ?_
            refine w_cV (As := []) ok dX12_negation_97 iX12_goOn (lX12_279 rfl) (rcv cls12 (congrArg Prod.fst s_130)) (ltM hnn (by decide)) (c_X12_goOn ro hnn hf   (hp5 c1 c2 c3 c4 c5)) (by omega) rfl (Nat.le_of_ble_eq_true rfl) ?_
            show WK K 0 0 100 [(1, .int (((rec 3 I J).1) 130 29)), (0, .ref 130)] [] (eI f (S3_X12_negation rec I J)) (eJ f ((rec 3 I J).2)) R n g
            refine w_aload_n ok dX12_negation_100 1 rfl ?_
            refine w_cV (As := []) ok dX12_negation_101 iX12_sum (lX12_306 rfl) (rcv cls12 (congrArg Prod.fst s_130)) (ltM hnn (by decide)) (ih3 (S3_X12_negation rec I J) ((rec 3 I J).2) (hp6 c1 c2 c3 c4 c5)) (by omega) rfl (Nat.le_of_ble_eq_true rfl) ?_
            refine w_aload_n ok dX12_negation_104 1 rfl ?_
            refine w_iconst (v := 2) ok dX12_negation_105 (by decide) ?_
            refine w_iload_n ok dX12_negation_106 0 rfl ?_
            refine w_cV (As := [.int 2, .int (((rec 3 I J).1) 130 29)]) ok dX12_negation_107 iX12_puts (lX12_300 rfl) (rcv cls12 (congrArg Prod.fst s_130)) (ltM hnn (by decide)) (c_X12_puts ro hnn hf 2 (((rec 3 I J).1) 130 29)  (hp7 c1 c2 c3 c4 c5)) (by omega) rfl (Nat.le_of_ble_eq_true rfl) ?_
            show WK K 0 0 110 [(1, .int (((rec 3 I J).1) 130 29)), (0, .ref 130)] [] (eI f (S4_X12_negation rec I J)) (eJ f ((rec 3 (S3_X12_negation rec I J) ((rec 3 I J).2)).2)) R n g
            exact w_vret ok fin dX12_negation_110 rfl (by unfold FI_X12_negation FJ_X12_negation; simp only [if_pos c1]; simp only [if_pos c2]; simp only [if_pos c3]; simp only [if_neg c4]; simp only [if_pos c5]; exact Pd.i)
          · skip
            refine w_aload_n ok dX12_negation_67 0 rfl ?_
            refine y_getI ok dX12_negation_68 (fX12_198 rfl) (congrArg Prod.fst s_130) rfl (ltM hnn (by decide)) (sdm hf (by decide)) ?_
            refine w_bipush (v := 61) ok dX12_negation_71 (by decide) ?_
            refine w_icmp_eq (tgt := 87) ok dX12_negation_73 (by decide) (fun c6 => ?_) (fun c6 => ?_)
            · skip
              refine w_aload_n ok dX12_negation_87 0 rfl ?_
              refine y_getI ok dX12_negation_88 (fX12_198 rfl) (congrArg Prod.fst s_130) rfl (ltM hnn (by decide)) (sdm hf (by decide)) ?_
              refine w_istore_n ok dX12_negation_91 rfl (by decide) rfl ?_
              refine w_aload_n ok dX12_negation_92 1 rfl ?_
              refine w_cV (As := []) ok dX12_negation_93 iX12_knot (lX12_297 rfl) (rcv cls12 (congrArg Prod.fst s_130)) (ltM hnn (by decide)) (c_X12_knot ro hnn hf  ) (by omega) rfl (Nat.le_of_ble_eq_true rfl) ?_
              refine w_aload_n ok dX12_negation_96 1 rfl ?_
              refine w_cV (As := []) ok dX12_negation_97 iX12_goOn (lX12_279 rfl) (rcv cls12 (congrArg Prod.fst s_130)) (ltM hnn (by decide)) (c_X12_goOn ro hnn hf   (hp8 c1 c2 c3 c4 c5 c6)) (by omega) rfl (Nat.le_of_ble_eq_true rfl) ?_
              show WK K 0 0 100 [(1, .int (((rec 3 I J).1) 130 29)), (0, .ref 130)] [] (eI f (S5_X12_negation rec I J)) (eJ f ((rec 3 I J).2)) R n g
              refine w_aload_n ok dX12_negation_100 1 rfl ?_
              refine w_cV (As := []) ok dX12_negation_101 iX12_sum (lX12_306 rfl) (rcv cls12 (congrArg Prod.fst s_130)) (ltM hnn (by decide)) (ih3 (S5_X12_negation rec I J) ((rec 3 I J).2) (hp9 c1 c2 c3 c4 c5 c6)) (by omega) rfl (Nat.le_of_ble_eq_true rfl) ?_
              refine w_aload_n ok dX12_negation_104 1 rfl ?_
              refine w_iconst (v := 2) ok dX12_negation_105 (by decide) ?_
              refine w_iload_n ok dX12_negation_106 0 rfl ?_
              refine w_cV (As := [.int 2, .int (((rec 3 I J).1) 130 29)]) ok dX12_negation_107 iX12_puts (lX12_300 rfl) (rcv cls12 (congrArg Prod.fst s_130)) (ltM hnn (by decide)) (c_X12_puts ro hnn hf 2 (((rec 3 I J).1) 130 29)  (hp10 c1 c2 c3 c4 c5 c6)) (by omega) rfl (Nat.le_of_ble_eq_true rfl) ?_
              show WK K 0 0 110 [(1, .int (((rec 3 I J).1) 130 29)), (0, .ref 130)] [] (eI f (S6_X12_negation rec I J)) (eJ f ((rec 3 (S5_X12_negation rec I J) ((rec 3 I J).2)).2)) R n g
              exact w_vret ok fin dX12_negation_110 rfl (by unfold FI_X12_negation FJ_X12_negation; simp only [if_pos c1]; simp only [if_pos c2]; simp only [if_pos c3]; simp only [if_neg c4]; simp only [if_neg c5]; simp only [if_pos c6]; exact Pd.i)
            · skip
              refine w_aload_n ok dX12_negation_76 0 rfl ?_
              refine y_getI ok dX12_negation_77 (fX12_198 rfl) (congrArg Prod.fst s_130) rfl (ltM hnn (by decide)) (sdm hf (by decide)) ?_
              refine w_sipush (v := 256) ok dX12_negation_80 (by decide) ?_
              refine w_icmp_ge (tgt := 87) ok dX12_negation_83 (by decide) (fun c7 => ?_) (fun c7 => ?_)
              · skip
                refine w_aload_n ok dX12_negation_87 0 rfl ?_
                refine y_getI ok dX12_negation_88 (fX12_198 rfl) (congrArg Prod.fst s_130) rfl (ltM hnn (by decide)) (sdm hf (by decide)) ?_
                refine w_istore_n ok dX12_negation_91 rfl (by decide) rfl ?_
                refine w_aload_n ok dX12_negation_92 1 rfl ?_
                refine w_cV (As := []) ok dX12_negation_93 iX12_knot (lX12_297 rfl) (rcv cls12 (congrArg Prod.fst s_130)) (ltM hnn (by decide)) (c_X12_knot ro hnn hf  ) (by omega) rfl (Nat.le_of_ble_eq_true rfl) ?_
                refine w_aload_n ok dX12_negation_96 1 rfl ?_
                refine w_cV (As := []) ok dX12_negation_97 iX12_goOn (lX12_279 rfl) (rcv cls12 (congrArg Prod.fst s_130)) (ltM hnn (by decide)) (c_X12_goOn ro hnn hf   (hp11 c1 c2 c3 c4 c5 c6 c7)) (by omega) rfl (Nat.le_of_ble_eq_true rfl) ?_
                show WK K 0 0 100 [(1, .int (((rec 3 I J).1) 130 29)), (0, .ref 130)] [] (eI f (S7_X12_negation rec I J)) (eJ f ((rec 3 I J).2)) R n g
                refine w_aload_n ok dX12_negation_100 1 rfl ?_
                refine w_cV (As := []) ok dX12_negation_101 iX12_sum (lX12_306 rfl) (rcv cls12 (congrArg Prod.fst s_130)) (ltM hnn (by decide)) (ih3 (S7_X12_negation rec I J) ((rec 3 I J).2) (hp12 c1 c2 c3 c4 c5 c6 c7)) (by omega) rfl (Nat.le_of_ble_eq_true rfl) ?_
                refine w_aload_n ok dX12_negation_104 1 rfl ?_
                refine w_iconst (v := 2) ok dX12_negation_105 (by decide) ?_
                refine w_iload_n ok dX12_negation_106 0 rfl ?_
                refine w_cV (As := [.int 2, .int (((rec 3 I J).1) 130 29)]) ok dX12_negation_107 iX12_puts (lX12_300 rfl) (rcv cls12 (congrArg Prod.fst s_130)) (ltM hnn (by decide)) (c_X12_puts ro hnn hf 2 (((rec 3 I J).1) 130 29)  (hp13 c1 c2 c3 c4 c5 c6 c7)) (by omega) rfl (Nat.le_of_ble_eq_true rfl) ?_
                show WK K 0 0 110 [(1, .int (((rec 3 I J).1) 130 29)), (0, .ref 130)] [] (eI f (S8_X12_negation rec I J)) (eJ f ((rec 3 (S7_X12_negation rec I J) ((rec 3 I J).2)).2)) R n g
                exact w_vret ok fin dX12_negation_110 rfl (by unfold FI_X12_negation FJ_X12_negation; simp only [if_pos c1]; simp only [if_pos c2]; simp only [if_pos c3]; simp only [if_neg c4]; simp only [if_neg c5]; simp only [if_neg c6]; simp only [if_pos c7]; exact Pd.i)
              · skip
                exact w_vret ok fin dX12_negation_86 rfl (by unfold FI_X12_negation FJ_X12_negation; simp only [if_pos c1]; simp only [if_pos c2]; simp only [if_pos c3]; simp only [if_neg c4]; simp only [if_neg c5]; simp only [if_neg c6]; simp only [if_neg c7]; exact Pd.i)
  · skip
    refine w_aload_n ok dX12_negation_9 0 rfl ?_
    refine w_cV (As := []) ok dX12_negation_10 iX12_knot (lX12_297 rfl) (rcv cls12 (congrArg Prod.fst s_130)) (ltM hnn (by decide)) (c_X12_knot ro hnn hf  ) (by omega) rfl (Nat.le_of_ble_eq_true rfl) ?_
    refine w_aload_n ok dX12_negation_13 0 rfl ?_
    refine w_cV (As := []) ok dX12_negation_14 iX12_goOn (lX12_279 rfl) (rcv cls12 (congrArg Prod.fst s_130)) (ltM hnn (by decide)) (c_X12_goOn ro hnn hf   (hp14 c1)) (by omega) rfl (Nat.le_of_ble_eq_true rfl) ?_
    refine w_aload_n ok dX12_negation_17 0 rfl ?_
    refine w_cV (As := []) ok dX12_negation_18 iX12_negation (lX12_303 rfl) (rcv cls12 (congrArg Prod.fst s_130)) (ltM hnn (by decide)) (ih2 (FI_X12_goOn  (FI_X12_knot  I J) J) J (hp15 c1)) (by omega) rfl (Nat.le_of_ble_eq_true rfl) ?_
    refine w_aload_n ok dX12_negation_21 0 rfl ?_
    refine w_iconst (v := 2) ok dX12_negation_22 (by decide) ?_
    refine w_sipush (v := 260) ok dX12_negation_23 (by decide) ?_
    refine w_cV (As := [.int 2, .int 260]) ok dX12_negation_26 iX12_puts (lX12_300 rfl) (rcv cls12 (congrArg Prod.fst s_130)) (ltM hnn (by decide)) (c_X12_puts ro hnn hf 2 260  (hp16 c1)) (by omega) rfl (Nat.le_of_ble_eq_true rfl) ?_
    show WK K 0 0 29 [(0, .ref 130)] [] (eI f (S9_X12_negation rec I J)) (eJ f ((rec 2 (FI_X12_goOn  (FI_X12_knot  I J) J) J).2)) R n g
    exact w_vret ok fin dX12_negation_29 rfl (by unfold FI_X12_negation FJ_X12_negation; simp only [if_neg c1]; exact Pd.i)
def S1_X12_sum (rec : Nat → SI → SJ → SI × SJ) (I : SI) (J : SJ) (s4 : SI × SJ) : SI := FI_X12_puts 2 (s4.1 130 29) ((rec 4 (FI_X12_goOn  (FI_X12_knot  s4.1 s4.2) s4.2) s4.2).1) ((rec 4 (FI_X12_goOn  (FI_X12_knot  s4.1 s4.2) s4.2) s4.2).2)
def S2_X12_sum (rec : Nat → SI → SJ → SI × SJ) (I : SI) (J : SJ) (s4 : SI × SJ) : SI := FI_X12_puts 2 (s4.1 130 29) ((rec 4 (FI_X12_goOn  (FI_X12_knot  s4.1 s4.2) s4.2) s4.2).1) ((rec 4 (FI_X12_goOn  (FI_X12_knot  s4.1 s4.2) s4.2) s4.2).2)
def B_X12_sum_w4 (rec : Nat → SI → SJ → SI × SJ) (I : SI) (J : SJ) (s4 : SI × SJ) : (SI × SJ) ⊕ (SI × SJ) := if (F_X12_isSign 43 s4.1 s4.2) = 0 then (if (F_X12_isSign 45 s4.1 s4.2) = 0 then .inr (s4.1, s4.2) else .inl ((S2_X12_sum rec I J s4), ((rec 4 (FI_X12_goOn  (FI_X12_knot  s4.1 s4.2) s4.2) s4.2).2))) else .inl ((S1_X12_sum rec I J s4), ((rec 4 (FI_X12_goOn  (FI_X12_knot  s4.1 s4.2) s4.2) s4.2).2))
def F_X12_sum_w4 (rec : Nat → SI → SJ → SI × SJ) (I : SI) (J : SJ) (s0 : SI × SJ) : SI × SJ := (itW (B_X12_sum_w4 rec I J) 800 s0).getD s0
def FI_X12_sum (rec : Nat → SI → SJ → SI × SJ)  (I : SI) (J : SJ) : SI := (F_X12_sum_w4 rec I J (((rec 4 I J).1), ((rec 4 I J).2))).1
def FJ_X12_sum (rec : Nat → SI → SJ → SI × SJ)  (I : SI) (J : SJ) : SJ := (F_X12_sum_w4 rec I J (((rec 4 I J).1), ((rec 4 I J).2))).2
def H_X12_sum (hrec : Nat → SI → SJ → Prop) (rec : Nat → SI → SJ → SI × SJ)  (I : SI) (J : SJ) : Prop := (hrec 4 I J) ∧ ((itW (B_X12_sum_w4 rec I J) 800 (((rec 4 I J).1), ((rec 4 I J).2))).isSome = true) ∧ (∀ (n4 : Nat) (s4 : SI × SJ), wN (B_X12_sum_w4 rec I J) n4 (((rec 4 I J).1), ((rec 4 I J).2)) = some s4 → ¬ ((F_X12_isSign 43 s4.1 s4.2) = 0) → H_X12_goOn  (FI_X12_knot  s4.1 s4.2) s4.2) ∧ (∀ (n4 : Nat) (s4 : SI × SJ), wN (B_X12_sum_w4 rec I J) n4 (((rec 4 I J).1), ((rec 4 I J).2)) = some s4 → ¬ ((F_X12_isSign 43 s4.1 s4.2) = 0) → hrec 4 (FI_X12_goOn  (FI_X12_knot  s4.1 s4.2) s4.2) s4.2) ∧ (∀ (n4 : Nat) (s4 : SI × SJ), wN (B_X12_sum_w4 rec I J) n4 (((rec 4 I J).1), ((rec 4 I J).2)) = some s4 → ¬ ((F_X12_isSign 43 s4.1 s4.2) = 0) → H_X12_puts 2 (s4.1 130 29) ((rec 4 (FI_X12_goOn  (FI_X12_knot  s4.1 s4.2) s4.2) s4.2).1) ((rec 4 (FI_X12_goOn  (FI_X12_knot  s4.1 s4.2) s4.2) s4.2).2)) ∧ (∀ (n4 : Nat) (s4 : SI × SJ), wN (B_X12_sum_w4 rec I J) n4 (((rec 4 I J).1), ((rec 4 I J).2)) = some s4 → (F_X12_isSign 43 s4.1 s4.2) = 0 → ¬ ((F_X12_isSign 45 s4.1 s4.2) = 0) → H_X12_goOn  (FI_X12_knot  s4.1 s4.2) s4.2) ∧ (∀ (n4 : Nat) (s4 : SI × SJ), wN (B_X12_sum_w4 rec I J) n4 (((rec 4 I J).1), ((rec 4 I J).2)) = some s4 → (F_X12_isSign 43 s4.1 s4.2) = 0 → ¬ ((F_X12_isSign 45 s4.1 s4.2) = 0) → hrec 4 (FI_X12_goOn  (FI_X12_knot  s4.1 s4.2) s4.2) s4.2) ∧ (∀ (n4 : Nat) (s4 : SI × SJ), wN (B_X12_sum_w4 rec I J) n4 (((rec 4 I J).1), ((rec 4 I J).2)) = some s4 → (F_X12_isSign 43 s4.1 s4.2) = 0 → ¬ ((F_X12_isSign 45 s4.1 s4.2) = 0) → H_X12_puts 2 (s4.1 130 29) ((rec 4 (FI_X12_goOn  (FI_X12_knot  s4.1 s4.2) s4.2) s4.2).1) ((rec 4 (FI_X12_goOn  (FI_X12_knot  s4.1 s4.2) s4.2) s4.2).2))
set_option maxHeartbeats 1000000 in
set_option maxRecDepth 40000 in
theorem cs_X12_sum {I : SI} {J : SJ} {R : SR} {n g : Nat} {f : Fr} (ro : RM R) (hnn : nM ≤ n) (hf : f.1 = false)   (rec : Nat → SI → SJ → SI × SJ) (hrec : Nat → SI → SJ → Prop) {dd : Nat} (hdd : 7 ≤ dd) (ih0 : ∀ (I : SI) (J : SJ), hrec 0 I J → MM dd 0 0 mX12_expression [.ref 130] (eI f I) (eJ f J) R n g (Pd none (eI f (rec 0 I J).1) (eJ f (rec 0 I J).2) R n g)) (ih1 : ∀ (I : SI) (J : SJ), hrec 1 I J → MM dd 0 0 mX12_conjunction [.ref 130] (eI f I) (eJ f J) R n g (Pd none (eI f (rec 1 I J).1) (eJ f (rec 1 I J).2) R n g)) (ih2 : ∀ (I : SI) (J : SJ), hrec 2 I J → MM dd 0 0 mX12_negation [.ref 130] (eI f I) (eJ f J) R n g (Pd none (eI f (rec 2 I J).1) (eJ f (rec 2 I J).2) R n g)) (ih3 : ∀ (I : SI) (J : SJ), hrec 3 I J → MM dd 0 0 mX12_sum [.ref 130] (eI f I) (eJ f J) R n g (Pd none (eI f (rec 3 I J).1) (eJ f (rec 3 I J).2) R n g)) (ih4 : ∀ (I : SI) (J : SJ), hrec 4 I J → MM dd 0 0 mX12_product [.ref 130] (eI f I) (eJ f J) R n g (Pd none (eI f (rec 4 I J).1) (eJ f (rec 4 I J).2) R n g)) (ih5 : ∀ (I : SI) (J : SJ), hrec 5 I J → MM dd 0 0 mX12_primary [.ref 130] (eI f I) (eJ f J) R n g (Pd none (eI f (rec 5 I J).1) (eJ f (rec 5 I J).2) R n g))  (hp : H_X12_sum hrec rec  I J) : MM (dd + 1) 0 0 mX12_sum [.ref 130] (eI f I) (eJ f J) R n g (Pd none (eI f (FI_X12_sum rec  I J)) (eJ f (FJ_X12_sum rec  I J)) R n g) := by
  refine MM.of (by decide) (Nat.le_of_ble_eq_true rfl) fun K ok fin => ?_
  show WK K 0 0 0 [(0, .ref 130)] [] (eI f I) (eJ f J) R n g
  obtain ⟨hp1, hp2, hp3, hp4, hp5, hp6, hp7, hp8⟩ := hp
  refine w_aload_n ok dX12_sum_0 0 rfl ?_
  refine w_cV (As := []) ok dX12_sum_1 iX12_product (lX12_309 rfl) (rcv cls12 (congrArg Prod.fst s_130)) (ltM hnn (by decide)) (ih4 I J (hp1)) (by omega) rfl (Nat.le_of_ble_eq_true rfl) ?_
  refine loop_w (fun (s4 : SI × SJ) => WK K 0 0 4 [(0, .ref 130)] [] (eI f s4.1) (eJ f s4.2) R n g) (fun (s4 : SI × SJ) => WK K 0 0 48 [(0, .ref 130)] [] (eI f s4.1) (eJ f s4.2) R n g) (B_X12_sum_w4 rec I J) 800 (((rec 4 I J).1), ((rec 4 I J).2)) (F_X12_sum_w4 rec I J (((rec 4 I J).1), ((rec 4 I J).2))) (itW_some (hp2)) ?_ ?_
  · show WK K 0 0 48 [(0, .ref 130)] [] (eI f ((F_X12_sum_w4 rec I J (((rec 4 I J).1), ((rec 4 I J).2))).1)) (eJ f ((F_X12_sum_w4 rec I J (((rec 4 I J).1), ((rec 4 I J).2))).2)) R n g
    exact w_vret ok fin dX12_sum_48 rfl (by unfold FI_X12_sum FJ_X12_sum; exact Pd.i)
  · intro n4 s4 hs4 kc4 kx4
    show WK K 0 0 4 [(0, .ref 130)] [] (eI f s4.1) (eJ f s4.2) R n g
    refine w_aload_n ok dX12_sum_4 0 rfl ?_
    refine w_bipush (v := 43) ok dX12_sum_5 (by decide) ?_
    refine w_cV (As := [.int 43]) ok dX12_sum_7 iX12_isSign (lX12_273 rfl) (rcv cls12 (congrArg Prod.fst s_130)) (ltM hnn (by decide)) (c_X12_isSign ro hnn hf 43 ) (by omega) rfl (Nat.le_of_ble_eq_true rfl) ?_
    refine w_if_ne (tgt := 22) ok dX12_sum_10 (by decide) (fun c1 => ?_) (fun c1 => ?_)
    · skip
      refine w_aload_n ok dX12_sum_22 0 rfl ?_
      refine y_getI ok dX12_sum_23 (fX12_198 rfl) (congrArg Prod.fst s_130) rfl (ltM hnn (by decide)) (sdm hf (by decide)) ?_
      refine w_istore_n ok dX12_sum_26 rfl (by decide) rfl ?_
      refine w_aload_n ok dX12_sum_27 1 rfl ?_
      refine w_cV (As := []) ok dX12_sum_28 iX12_knot (lX12_297 rfl) (rcv cls12 (congrArg Prod.fst s_130)) (ltM hnn (by decide)) (c_X12_knot ro hnn hf  ) (by omega) rfl (Nat.le_of_ble_eq_true rfl) ?_
      refine w_aload_n ok dX12_sum_31 1 rfl ?_
      refine w_cV (As := []) ok dX12_sum_32 iX12_goOn (lX12_279 rfl) (rcv cls12 (congrArg Prod.fst s_130)) (ltM hnn (by decide)) (c_X12_goOn ro hnn hf   (hp3 n4 s4 hs4 c1)) (by omega) rfl (Nat.le_of_ble_eq_true rfl) ?_
      refine w_aload_n ok dX12_sum_35 1 rfl ?_
      refine w_cV (As := []) ok dX12_sum_36 iX12_product (lX12_309 rfl) (rcv cls12 (congrArg Prod.fst s_130)) (ltM hnn (by decide)) (ih4 (FI_X12_goOn  (FI_X12_knot  s4.1 s4.2) s4.2) s4.2 (hp4 n4 s4 hs4 c1)) (by omega) rfl (Nat.le_of_ble_eq_true rfl) ?_
      refine w_aload_n ok dX12_sum_39 1 rfl ?_
      refine w_iconst (v := 2) ok dX12_sum_40 (by decide) ?_
      refine w_iload_n ok dX12_sum_41 0 rfl ?_
      refine w_cV (As := [.int 2, .int (s4.1 130 29)]) ok dX12_sum_42 iX12_puts (lX12_300 rfl) (rcv cls12 (congrArg Prod.fst s_130)) (ltM hnn (by decide)) (c_X12_puts ro hnn hf 2 (s4.1 130 29)  (hp5 n4 s4 hs4 c1)) (by omega) rfl (Nat.le_of_ble_eq_true rfl) ?_
      show WK K 0 0 45 [(1, .int (s4.1 130 29)), (0, .ref 130)] [] (eI f (S1_X12_sum rec I J s4)) (eJ f ((rec 4 (FI_X12_goOn  (FI_X12_knot  s4.1 s4.2) s4.2) s4.2).2)) R n g
      refine w_goto (tgt := 4) ok dX12_sum_45 (by decide) ?_
      have eB : B_X12_sum_w4 rec I J s4 = .inl ((S1_X12_sum rec I J s4), ((rec 4 (FI_X12_goOn  (FI_X12_knot  s4.1 s4.2) s4.2) s4.2).2)) := by
        unfold B_X12_sum_w4; exact (if_neg c1).trans (rfl)
      refine w_loc [1] rfl ?_
      have kk := kc4 _ eB
      exact kk
    · skip
      refine w_aload_n ok dX12_sum_13 0 rfl ?_
      refine w_bipush (v := 45) ok dX12_sum_14 (by decide) ?_
      refine w_cV (As := [.int 45]) ok dX12_sum_16 iX12_isSign (lX12_273 rfl) (rcv cls12 (congrArg Prod.fst s_130)) (ltM hnn (by decide)) (c_X12_isSign ro hnn hf 45 ) (by omega) rfl (Nat.le_of_ble_eq_true rfl) ?_
      refine w_if_eq (tgt := 48) ok dX12_sum_19 (by decide) (fun c2 => ?_) (fun c2 => ?_)
      · skip
        have eB : B_X12_sum_w4 rec I J s4 = .inr (s4.1, s4.2) := by
          unfold B_X12_sum_w4; exact (if_pos c1).trans ((if_pos c2).trans (rfl))
        refine w_loc [0] rfl ?_
        have kk := kx4 _ eB
        exact kk
      · skip
        refine w_aload_n ok dX12_sum_22 0 rfl ?_
        refine y_getI ok dX12_sum_23 (fX12_198 rfl) (congrArg Prod.fst s_130) rfl (ltM hnn (by decide)) (sdm hf (by decide)) ?_
        refine w_istore_n ok dX12_sum_26 rfl (by decide) rfl ?_
        refine w_aload_n ok dX12_sum_27 1 rfl ?_
        refine w_cV (As := []) ok dX12_sum_28 iX12_knot (lX12_297 rfl) (rcv cls12 (congrArg Prod.fst s_130)) (ltM hnn (by decide)) (c_X12_knot ro hnn hf  ) (by omega) rfl (Nat.le_of_ble_eq_true rfl) ?_
        refine w_aload_n ok dX12_sum_31 1 rfl ?_
        refine w_cV (As := []) ok dX12_sum_32 iX12_goOn (lX12_279 rfl) (rcv cls12 (congrArg Prod.fst s_130)) (ltM hnn (by decide)) (c_X12_goOn ro hnn hf   (hp6 n4 s4 hs4 c1 c2)) (by omega) rfl (Nat.le_of_ble_eq_true rfl) ?_
        refine w_aload_n ok dX12_sum_35 1 rfl ?_
        refine w_cV (As := []) ok dX12_sum_36 iX12_product (lX12_309 rfl) (rcv cls12 (congrArg Prod.fst s_130)) (ltM hnn (by decide)) (ih4 (FI_X12_goOn  (FI_X12_knot  s4.1 s4.2) s4.2) s4.2 (hp7 n4 s4 hs4 c1 c2)) (by omega) rfl (Nat.le_of_ble_eq_true rfl) ?_
        refine w_aload_n ok dX12_sum_39 1 rfl ?_
        refine w_iconst (v := 2) ok dX12_sum_40 (by decide) ?_
        refine w_iload_n ok dX12_sum_41 0 rfl ?_
        refine w_cV (As := [.int 2, .int (s4.1 130 29)]) ok dX12_sum_42 iX12_puts (lX12_300 rfl) (rcv cls12 (congrArg Prod.fst s_130)) (ltM hnn (by decide)) (c_X12_puts ro hnn hf 2 (s4.1 130 29)  (hp8 n4 s4 hs4 c1 c2)) (by omega) rfl (Nat.le_of_ble_eq_true rfl) ?_
        show WK K 0 0 45 [(1, .int (s4.1 130 29)), (0, .ref 130)] [] (eI f (S2_X12_sum rec I J s4)) (eJ f ((rec 4 (FI_X12_goOn  (FI_X12_knot  s4.1 s4.2) s4.2) s4.2).2)) R n g
        refine w_goto (tgt := 4) ok dX12_sum_45 (by decide) ?_
        have eB : B_X12_sum_w4 rec I J s4 = .inl ((S2_X12_sum rec I J s4), ((rec 4 (FI_X12_goOn  (FI_X12_knot  s4.1 s4.2) s4.2) s4.2).2)) := by
          unfold B_X12_sum_w4; exact (if_pos c1).trans ((if_neg c2).trans (rfl))
        refine w_loc [1] rfl ?_
        have kk := kc4 _ eB
        exact kk
def S1_X12_product (rec : Nat → SI → SJ → SI × SJ) (I : SI) (J : SJ) (s4 : SI × SJ) : SI := FI_X12_puts 2 (s4.1 130 29) ((rec 5 (FI_X12_goOn  (FI_X12_knot  s4.1 s4.2) s4.2) s4.2).1) ((rec 5 (FI_X12_goOn  (FI_X12_knot  s4.1 s4.2) s4.2) s4.2).2)
def S2_X12_product (rec : Nat → SI → SJ → SI × SJ) (I : SI) (J : SJ) (s4 : SI × SJ) : SI := FI_X12_puts 2 (s4.1 130 29) ((rec 5 (FI_X12_goOn  (FI_X12_knot  s4.1 s4.2) s4.2) s4.2).1) ((rec 5 (FI_X12_goOn  (FI_X12_knot  s4.1 s4.2) s4.2) s4.2).2)
def B_X12_product_w4 (rec : Nat → SI → SJ → SI × SJ) (I : SI) (J : SJ) (s4 : SI × SJ) : (SI × SJ) ⊕ (SI × SJ) := if (F_X12_isSign 42 s4.1 s4.2) = 0 then (if (F_X12_isSign 47 s4.1 s4.2) = 0 then .inr (s4.1, s4.2) else .inl ((S2_X12_product rec I J s4), ((rec 5 (FI_X12_goOn  (FI_X12_knot  s4.1 s4.2) s4.2) s4.2).2))) else .inl ((S1_X12_product rec I J s4), ((rec 5 (FI_X12_goOn  (FI_X12_knot  s4.1 s4.2) s4.2) s4.2).2))
def F_X12_product_w4 (rec : Nat → SI → SJ → SI × SJ) (I : SI) (J : SJ) (s0 : SI × SJ) : SI × SJ := (itW (B_X12_product_w4 rec I J) 800 s0).getD s0
def FI_X12_product (rec : Nat → SI → SJ → SI × SJ)  (I : SI) (J : SJ) : SI := (F_X12_product_w4 rec I J (((rec 5 I J).1), ((rec 5 I J).2))).1
def FJ_X12_product (rec : Nat → SI → SJ → SI × SJ)  (I : SI) (J : SJ) : SJ := (F_X12_product_w4 rec I J (((rec 5 I J).1), ((rec 5 I J).2))).2
def H_X12_product (hrec : Nat → SI → SJ → Prop) (rec : Nat → SI → SJ → SI × SJ)  (I : SI) (J : SJ) : Prop := (hrec 5 I J) ∧ ((itW (B_X12_product_w4 rec I J) 800 (((rec 5 I J).1), ((rec 5 I J).2))).isSome = true) ∧ (∀ (n4 : Nat) (s4 : SI × SJ), wN (B_X12_product_w4 rec I J) n4 (((rec 5 I J).1), ((rec 5 I J).2)) = some s4 → ¬ ((F_X12_isSign 42 s4.1 s4.2) = 0) → H_X12_goOn  (FI_X12_knot  s4.1 s4.2) s4.2) ∧ (∀ (n4 : Nat) (s4 : SI × SJ), wN (B_X12_product_w4 rec I J) n4 (((rec 5 I J).1), ((rec 5 I J).2)) = some s4 → ¬ ((F_X12_isSign 42 s4.1 s4.2) = 0) → hrec 5 (FI_X12_goOn  (FI_X12_knot  s4.1 s4.2) s4.2) s4.2) ∧ (∀ (n4 : Nat) (s4 : SI × SJ), wN (B_X12_product_w4 rec I J) n4 (((rec 5 I J).1), ((rec 5 I J).2)) = some s4 → ¬ ((F_X12_isSign 42 s4.1 s4.2) = 0) → H_X12_puts 2 (s4.1 130 29) ((rec 5 (FI_X12_goOn  (FI_X12_knot  s4.1 s4.2) s4.2) s4.2).1) ((rec 5 (FI_X12_goOn  (FI_X12_knot  s4.1 s4.2) s4.2) s4.2).2)) ∧ (∀ (n4 : Nat) (s4 : SI × SJ), wN (B_X12_product_w4 rec I J) n4 (((rec 5 I J).1), ((rec 5 I J).2)) = some s4 → (F_X12_isSign 42 s4.1 s4.2) = 0 → ¬ ((F_X12_isSign 47 s4.1 s4.2) = 0) → H_X12_goOn  (FI_X12_knot  s4.1 s4.2) s4.2) ∧ (∀ (n4 : Nat) (s4 : SI × SJ), wN (B_X12_product_w4 rec I J) n4 (((rec 5 I J).1), ((rec 5 I J).2)) = some s4 → (F_X12_isSign 42 s4.1 s4.2) = 0 → ¬ ((F_X12_isSign 47 s4.1 s4.2) = 0) → hrec 5 (FI_X12_goOn  (FI_X12_knot  s4.1 s4.2) s4.2) s4.2) ∧ (∀ (n4 : Nat) (s4 : SI × SJ), wN (B_X12_product_w4 rec I J) n4 (((rec 5 I J).1), ((rec 5 I J).2)) = some s4 → (F_X12_isSign 42 s4.1 s4.2) = 0 → ¬ ((F_X12_isSign 47 s4.1 s4.2) = 0) → H_X12_puts 2 (s4.1 130 29) ((rec 5 (FI_X12_goOn  (FI_X12_knot  s4.1 s4.2) s4.2) s4.2).1) ((rec 5 (FI_X12_goOn  (FI_X12_knot  s4.1 s4.2) s4.2) s4.2).2))
set_option maxHeartbeats 1000000 in
set_option maxRecDepth 40000 in
theorem cs_X12_product {I : SI} {J : SJ} {R : SR} {n g : Nat} {f : Fr} (ro : RM R) (hnn : nM ≤ n) (hf : f.1 = false)   (rec : Nat → SI → SJ → SI × SJ) (hrec : Nat → SI → SJ → Prop) {dd : Nat} (hdd : 7 ≤ dd) (ih0 : ∀ (I : SI) (J : SJ), hrec 0 I J → MM dd 0 0 mX12_expression [.ref 130] (eI f I) (eJ f J) R n g (Pd none (eI f (rec 0 I J).1) (eJ f (rec 0 I J).2) R n g)) (ih1 : ∀ (I : SI) (J : SJ), hrec 1 I J → MM dd 0 0 mX12_conjunction [.ref 130] (eI f I) (eJ f J) R n g (Pd none (eI f (rec 1 I J).1) (eJ f (rec 1 I J).2) R n g)) (ih2 : ∀ (I : SI) (J : SJ), hrec 2 I J → MM dd 0 0 mX12_negation [.ref 130] (eI f I) (eJ f J) R n g (Pd none (eI f (rec 2 I J).1) (eJ f (rec 2 I J).2) R n g)) (ih3 : ∀ (I : SI) (J : SJ), hrec 3 I J → MM dd 0 0 mX12_sum [.ref 130] (eI f I) (eJ f J) R n g (Pd none (eI f (rec 3 I J).1) (eJ f (rec 3 I J).2) R n g)) (ih4 : ∀ (I : SI) (J : SJ), hrec 4 I J → MM dd 0 0 mX12_product [.ref 130] (eI f I) (eJ f J) R n g (Pd none (eI f (rec 4 I J).1) (eJ f (rec 4 I J).2) R n g)) (ih5 : ∀ (I : SI) (J : SJ), hrec 5 I J → MM dd 0 0 mX12_primary [.ref 130] (eI f I) (eJ f J) R n g (Pd none (eI f (rec 5 I J).1) (eJ f (rec 5 I J).2) R n g))  (hp : H_X12_product hrec rec  I J) : MM (dd + 1) 0 0 mX12_product [.ref 130] (eI f I) (eJ f J) R n g (Pd none (eI f (FI_X12_product rec  I J)) (eJ f (FJ_X12_product rec  I J)) R n g) := by
  refine MM.of (by decide) (Nat.le_of_ble_eq_true rfl) fun K ok fin => ?_
  show WK K 0 0 0 [(0, .ref 130)] [] (eI f I) (eJ f J) R n g
  obtain ⟨hp1, hp2, hp3, hp4, hp5, hp6, hp7, hp8⟩ := hp
  refine w_aload_n ok dX12_product_0 0 rfl ?_
  refine w_cV (As := []) ok dX12_product_1 iX12_primary (lX12_312 rfl) (rcv cls12 (congrArg Prod.fst s_130)) (ltM hnn (by decide)) (ih5 I J (hp1)) (by omega) rfl (Nat.le_of_ble_eq_true rfl) ?_
  refine loop_w (fun (s4 : SI × SJ) => WK K 0 0 4 [(0, .ref 130)] [] (eI f s4.1) (eJ f s4.2) R n g) (fun (s4 : SI × SJ) => WK K 0 0 48 [(0, .ref 130)] [] (eI f s4.1) (eJ f s4.2) R n g) (B_X12_product_w4 rec I J) 800 (((rec 5 I J).1), ((rec 5 I J).2)) (F_X12_product_w4 rec I J (((rec 5 I J).1), ((rec 5 I J).2))) (itW_some (hp2)) ?_ ?_
  · show WK K 0 0 48 [(0, .ref 130)] [] (eI f ((F_X12_product_w4 rec I J (((rec 5 I J).1), ((rec 5 I J).2))).1)) (eJ f ((F_X12_product_w4 rec I J (((rec 5 I J).1), ((rec 5 I J).2))).2)) R n g
    exact w_vret ok fin dX12_product_48 rfl (by unfold FI_X12_product FJ_X12_product; exact Pd.i)
  · intro n4 s4 hs4 kc4 kx4
    show WK K 0 0 4 [(0, .ref 130)] [] (eI f s4.1) (eJ f s4.2) R n g
    refine w_aload_n ok dX12_product_4 0 rfl ?_
    refine w_bipush (v := 42) ok dX12_product_5 (by decide) ?_
    refine w_cV (As := [.int 42]) ok dX12_product_7 iX12_isSign (lX12_273 rfl) (rcv cls12 (congrArg Prod.fst s_130)) (ltM hnn (by decide)) (c_X12_isSign ro hnn hf 42 ) (by omega) rfl (Nat.le_of_ble_eq_true rfl) ?_
    refine w_if_ne (tgt := 22) ok dX12_product_10 (by decide) (fun c1 => ?_) (fun c1 => ?_)
    · skip
      refine w_aload_n ok dX12_product_22 0 rfl ?_
      refine y_getI ok dX12_product_23 (fX12_198 rfl) (congrArg Prod.fst s_130) rfl (ltM hnn (by decide)) (sdm hf (by decide)) ?_
      refine w_istore_n ok dX12_product_26 rfl (by decide) rfl ?_
      refine w_aload_n ok dX12_product_27 1 rfl ?_
      refine w_cV (As := []) ok dX12_product_28 iX12_knot (lX12_297 rfl) (rcv cls12 (congrArg Prod.fst s_130)) (ltM hnn (by decide)) (c_X12_knot ro hnn hf  ) (by omega) rfl (Nat.le_of_ble_eq_true rfl) ?_
      refine w_aload_n ok dX12_product_31 1 rfl ?_
      refine w_cV (As := []) ok dX12_product_32 iX12_goOn (lX12_279 rfl) (rcv cls12 (congrArg Prod.fst s_130)) (ltM hnn (by decide)) (c_X12_goOn ro hnn hf   (hp3 n4 s4 hs4 c1)) (by omega) rfl (Nat.le_of_ble_eq_true rfl) ?_
      refine w_aload_n ok dX12_product_35 1 rfl ?_
      refine w_cV (As := []) ok dX12_product_36 iX12_primary (lX12_312 rfl) (rcv cls12 (congrArg Prod.fst s_130)) (ltM hnn (by decide)) (ih5 (FI_X12_goOn  (FI_X12_knot  s4.1 s4.2) s4.2) s4.2 (hp4 n4 s4 hs4 c1)) (by omega) rfl (Nat.le_of_ble_eq_true rfl) ?_
      refine w_aload_n ok dX12_product_39 1 rfl ?_
      refine w_iconst (v := 2) ok dX12_product_40 (by decide) ?_
      refine w_iload_n ok dX12_product_41 0 rfl ?_
      refine w_cV (As := [.int 2, .int (s4.1 130 29)]) ok dX12_product_42 iX12_puts (lX12_300 rfl) (rcv cls12 (congrArg Prod.fst s_130)) (ltM hnn (by decide)) (c_X12_puts ro hnn hf 2 (s4.1 130 29)  (hp5 n4 s4 hs4 c1)) (by omega) rfl (Nat.le_of_ble_eq_true rfl) ?_
      show WK K 0 0 45 [(1, .int (s4.1 130 29)), (0, .ref 130)] [] (eI f (S1_X12_product rec I J s4)) (eJ f ((rec 5 (FI_X12_goOn  (FI_X12_knot  s4.1 s4.2) s4.2) s4.2).2)) R n g
      refine w_goto (tgt := 4) ok dX12_product_45 (by decide) ?_
      have eB : B_X12_product_w4 rec I J s4 = .inl ((S1_X12_product rec I J s4), ((rec 5 (FI_X12_goOn  (FI_X12_knot  s4.1 s4.2) s4.2) s4.2).2)) := by
        unfold B_X12_product_w4; exact (if_neg c1).trans (rfl)
      refine w_loc [1] rfl ?_
      have kk := kc4 _ eB
      exact kk
    · skip
      refine w_aload_n ok dX12_product_13 0 rfl ?_
      refine w_bipush (v := 47) ok dX12_product_14 (by decide) ?_
      refine w_cV (As := [.int 47]) ok dX12_product_16 iX12_isSign (lX12_273 rfl) (rcv cls12 (congrArg Prod.fst s_130)) (ltM hnn (by decide)) (c_X12_isSign ro hnn hf 47 ) (by omega) rfl (Nat.le_of_ble_eq_true rfl) ?_
      refine w_if_eq (tgt := 48) ok dX12_product_19 (by decide) (fun c2 => ?_) (fun c2 => ?_)
      · skip
        have eB : B_X12_product_w4 rec I J s4 = .inr (s4.1, s4.2) := by
          unfold B_X12_product_w4; exact (if_pos c1).trans ((if_pos c2).trans (rfl))
        refine w_loc [0] rfl ?_
        have kk := kx4 _ eB
        exact kk
      · skip
        refine w_aload_n ok dX12_product_22 0 rfl ?_
        refine y_getI ok dX12_product_23 (fX12_198 rfl) (congrArg Prod.fst s_130) rfl (ltM hnn (by decide)) (sdm hf (by decide)) ?_
        refine w_istore_n ok dX12_product_26 rfl (by decide) rfl ?_
        refine w_aload_n ok dX12_product_27 1 rfl ?_
        refine w_cV (As := []) ok dX12_product_28 iX12_knot (lX12_297 rfl) (rcv cls12 (congrArg Prod.fst s_130)) (ltM hnn (by decide)) (c_X12_knot ro hnn hf  ) (by omega) rfl (Nat.le_of_ble_eq_true rfl) ?_
        refine w_aload_n ok dX12_product_31 1 rfl ?_
        refine w_cV (As := []) ok dX12_product_32 iX12_goOn (lX12_279 rfl) (rcv cls12 (congrArg Prod.fst s_130)) (ltM hnn (by decide)) (c_X12_goOn ro hnn hf   (hp6 n4 s4 hs4 c1 c2)) (by omega) rfl (Nat.le_of_ble_eq_true rfl) ?_
        refine w_aload_n ok dX12_product_35 1 rfl ?_
        refine w_cV (As := []) ok dX12_product_36 iX12_primary (lX12_312 rfl) (rcv cls12 (congrArg Prod.fst s_130)) (ltM hnn (by decide)) (ih5 (FI_X12_goOn  (FI_X12_knot  s4.1 s4.2) s4.2) s4.2 (hp7 n4 s4 hs4 c1 c2)) (by omega) rfl (Nat.le_of_ble_eq_true rfl) ?_
        refine w_aload_n ok dX12_product_39 1 rfl ?_
        refine w_iconst (v := 2) ok dX12_product_40 (by decide) ?_
        refine w_iload_n ok dX12_product_41 0 rfl ?_
        refine w_cV (As := [.int 2, .int (s4.1 130 29)]) ok dX12_product_42 iX12_puts (lX12_300 rfl) (rcv cls12 (congrArg Prod.fst s_130)) (ltM hnn (by decide)) (c_X12_puts ro hnn hf 2 (s4.1 130 29)  (hp8 n4 s4 hs4 c1 c2)) (by omega) rfl (Nat.le_of_ble_eq_true rfl) ?_
        show WK K 0 0 45 [(1, .int (s4.1 130 29)), (0, .ref 130)] [] (eI f (S2_X12_product rec I J s4)) (eJ f ((rec 5 (FI_X12_goOn  (FI_X12_knot  s4.1 s4.2) s4.2) s4.2).2)) R n g
        refine w_goto (tgt := 4) ok dX12_product_45 (by decide) ?_
        have eB : B_X12_product_w4 rec I J s4 = .inl ((S2_X12_product rec I J s4), ((rec 5 (FI_X12_goOn  (FI_X12_knot  s4.1 s4.2) s4.2) s4.2).2)) := by
          unfold B_X12_product_w4; exact (if_pos c1).trans ((if_neg c2).trans (rfl))
        refine w_loc [1] rfl ?_
        have kk := kc4 _ eB
        exact kk
def T_X12_primary_j114 (rec : Nat → SI → SJ → SI × SJ) (I : SI) (J : SJ) : Int32 := if (I 130 28) = 2 then 1 else 0
def T_X12_primary_j162 (rec : Nat → SI → SJ → SI × SJ) (I : SI) (J : SJ) : SI := if (T_X12_primary_j114 rec I J) = 0 then (if (I 130 28) = 0 then (if (16 : Int32) ≤ (I 130 29) then I else (FI_X12_wrong 1 I J)) else (FI_X12_wrong 1 I J)) else (if (I 130 29) ≤ 9999 then I else (FI_X12_wrong 2 I J))
def T_X12_primary_j176 (rec : Nat → SI → SJ → SI × SJ) (I : SI) (J : SJ) : Int32 := if (T_X12_primary_j114 rec I J) = 0 then 1 else 0
def S1_X12_primary (rec : Nat → SI → SJ → SI × SJ) (I : SI) (J : SJ) : SI := FI_X12_puts (T_X12_primary_j176 rec I J) (((FI_X12_knot  (T_X12_primary_j162 rec I J) J) 130 29) - 16) (FI_X12_knot  (T_X12_primary_j162 rec I J) J) J
def S2_X12_primary (rec : Nat → SI → SJ → SI × SJ) (I : SI) (J : SJ) : SI := FI_X12_puts (T_X12_primary_j176 rec I J) ((FI_X12_knot  (T_X12_primary_j162 rec I J) J) 130 29) (FI_X12_knot  (T_X12_primary_j162 rec I J) J) J
def T_X12_primary_j31 (rec : Nat → SI → SJ → SI × SJ) (I : SI) (J : SJ) : SI := if (I 130 34) = 8 then (FI_X12_wrong 2 I J) else I
def S3_X12_primary (rec : Nat → SI → SJ → SI × SJ) (I : SI) (J : SJ) : SI := u2 (T_X12_primary_j31 rec I J) 130 34 ((((T_X12_primary_j31 rec I J)) 130 34) + 1)
def S6_X12_primary (rec : Nat → SI → SJ → SI × SJ) (I : SI) (J : SJ) : Int32 := F_X12_isSign 41 ((rec 0 (FI_X12_token  (S3_X12_primary rec I J) J) J).1) ((rec 0 (FI_X12_token  (S3_X12_primary rec I J) J) J).2)
def S7_X12_primary (rec : Nat → SI → SJ → SI × SJ) (I : SI) (J : SJ) : SI := FI_X12_wrong 1 ((rec 0 (FI_X12_token  (S3_X12_primary rec I J) J) J).1) ((rec 0 (FI_X12_token  (S3_X12_primary rec I J) J) J).2)
def T_X12_primary_j78 (rec : Nat → SI → SJ → SI × SJ) (I : SI) (J : SJ) : SI := if (((rec 0 (FI_X12_token  (S3_X12_primary rec I J) J) J).1) 130 30) = 0 then (if (S6_X12_primary rec I J) = 0 then (S7_X12_primary rec I J) else ((rec 0 (FI_X12_token  (S3_X12_primary rec I J) J) J).1)) else ((rec 0 (FI_X12_token  (S3_X12_primary rec I J) J) J).1)
def S4_X12_primary (rec : Nat → SI → SJ → SI × SJ) (I : SI) (J : SJ) : SI := u2 (T_X12_primary_j78 rec I J) 130 34 ((((T_X12_primary_j78 rec I J)) 130 34) - 1)
def S5_X12_primary (rec : Nat → SI → SJ → SI × SJ) (I : SI) (J : SJ) : SI := FI_X12_token  (S4_X12_primary rec I J) ((rec 0 (FI_X12_token  (S3_X12_primary rec I J) J) J).2)
def FI_X12_primary (rec : Nat → SI → SJ → SI × SJ)  (I : SI) (J : SJ) : SI := if (I 130 30) = 0 then (if (F_X12_isSign 40 I J) = 0 then (if (T_X12_primary_j114 rec I J) = 0 then FI_X12_goOn  (S1_X12_primary rec I J) J else FI_X12_goOn  (S2_X12_primary rec I J) J) else (if (((T_X12_primary_j31 rec I J)) 130 30) = 0 then (if (((T_X12_primary_j78 rec I J)) 130 30) = 0 then (S5_X12_primary rec I J) else (T_X12_primary_j78 rec I J)) else (T_X12_primary_j31 rec I J))) else I
def FJ_X12_primary (rec : Nat → SI → SJ → SI × SJ)  (I : SI) (J : SJ) : SJ := if (I 130 30) = 0 then (if (F_X12_isSign 40 I J) = 0 then (if (T_X12_primary_j114 rec I J) = 0 then J else J) else (if (((T_X12_primary_j31 rec I J)) 130 30) = 0 then (if (((T_X12_primary_j78 rec I J)) 130 30) = 0 then (rec 0 (FI_X12_token  (S3_X12_primary rec I J) J) J).2 else (rec 0 (FI_X12_token  (S3_X12_primary rec I J) J) J).2) else J)) else J
def H_X12_primary (hrec : Nat → SI → SJ → Prop) (rec : Nat → SI → SJ → SI × SJ)  (I : SI) (J : SJ) : Prop := ((I 130 30) = 0 → (F_X12_isSign 40 I J) = 0 → (T_X12_primary_j114 rec I J) = 0 → H_X12_puts (T_X12_primary_j176 rec I J) (((FI_X12_knot  (T_X12_primary_j162 rec I J) J) 130 29) - 16) (FI_X12_knot  (T_X12_primary_j162 rec I J) J) J) ∧ ((I 130 30) = 0 → (F_X12_isSign 40 I J) = 0 → (T_X12_primary_j114 rec I J) = 0 → H_X12_goOn  (S1_X12_primary rec I J) J) ∧ ((I 130 30) = 0 → (F_X12_isSign 40 I J) = 0 → ¬ ((T_X12_primary_j114 rec I J) = 0) → H_X12_puts (T_X12_primary_j176 rec I J) ((FI_X12_knot  (T_X12_primary_j162 rec I J) J) 130 29) (FI_X12_knot  (T_X12_primary_j162 rec I J) J) J) ∧ ((I 130 30) = 0 → (F_X12_isSign 40 I J) = 0 → ¬ ((T_X12_primary_j114 rec I J) = 0) → H_X12_goOn  (S2_X12_primary rec I J) J) ∧ ((I 130 30) = 0 → ¬ ((F_X12_isSign 40 I J) = 0) → (((T_X12_primary_j31 rec I J)) 130 30) = 0 → H_X12_token  (S3_X12_primary rec I J) J) ∧ ((I 130 30) = 0 → ¬ ((F_X12_isSign 40 I J) = 0) → (((T_X12_primary_j31 rec I J)) 130 30) = 0 → hrec 0 (FI_X12_token  (S3_X12_primary rec I J) J) J) ∧ ((I 130 30) = 0 → ¬ ((F_X12_isSign 40 I J) = 0) → (((T_X12_primary_j31 rec I J)) 130 30) = 0 → (((T_X12_primary_j78 rec I J)) 130 30) = 0 → H_X12_token  (S4_X12_primary rec I J) ((rec 0 (FI_X12_token  (S3_X12_primary rec I J) J) J).2))
set_option maxHeartbeats 2370000 in
set_option maxRecDepth 40000 in
theorem cs_X12_primary {I : SI} {J : SJ} {R : SR} {n g : Nat} {f : Fr} (ro : RM R) (hnn : nM ≤ n) (hf : f.1 = false)   (rec : Nat → SI → SJ → SI × SJ) (hrec : Nat → SI → SJ → Prop) {dd : Nat} (hdd : 7 ≤ dd) (ih0 : ∀ (I : SI) (J : SJ), hrec 0 I J → MM dd 0 0 mX12_expression [.ref 130] (eI f I) (eJ f J) R n g (Pd none (eI f (rec 0 I J).1) (eJ f (rec 0 I J).2) R n g)) (ih1 : ∀ (I : SI) (J : SJ), hrec 1 I J → MM dd 0 0 mX12_conjunction [.ref 130] (eI f I) (eJ f J) R n g (Pd none (eI f (rec 1 I J).1) (eJ f (rec 1 I J).2) R n g)) (ih2 : ∀ (I : SI) (J : SJ), hrec 2 I J → MM dd 0 0 mX12_negation [.ref 130] (eI f I) (eJ f J) R n g (Pd none (eI f (rec 2 I J).1) (eJ f (rec 2 I J).2) R n g)) (ih3 : ∀ (I : SI) (J : SJ), hrec 3 I J → MM dd 0 0 mX12_sum [.ref 130] (eI f I) (eJ f J) R n g (Pd none (eI f (rec 3 I J).1) (eJ f (rec 3 I J).2) R n g)) (ih4 : ∀ (I : SI) (J : SJ), hrec 4 I J → MM dd 0 0 mX12_product [.ref 130] (eI f I) (eJ f J) R n g (Pd none (eI f (rec 4 I J).1) (eJ f (rec 4 I J).2) R n g)) (ih5 : ∀ (I : SI) (J : SJ), hrec 5 I J → MM dd 0 0 mX12_primary [.ref 130] (eI f I) (eJ f J) R n g (Pd none (eI f (rec 5 I J).1) (eJ f (rec 5 I J).2) R n g))  (hp : H_X12_primary hrec rec  I J) : MM (dd + 1) 0 0 mX12_primary [.ref 130] (eI f I) (eJ f J) R n g (Pd none (eI f (FI_X12_primary rec  I J)) (eJ f (FJ_X12_primary rec  I J)) R n g) := by
  refine MM.of (by decide) (Nat.le_of_ble_eq_true rfl) fun K ok fin => ?_
  show WK K 0 0 0 [(0, .ref 130)] [] (eI f I) (eJ f J) R n g
  obtain ⟨hp1, hp2, hp3, hp4, hp5, hp6, hp7⟩ := hp
  refine w_aload_n ok dX12_primary_0 0 rfl ?_
  refine y_getI ok dX12_primary_1 (fX12_223 rfl) (congrArg Prod.fst s_130) rfl (ltM hnn (by decide)) (sdm hf (by decide)) ?_
  refine w_if_eq (tgt := 8) ok dX12_primary_4 (by decide) (fun c1 => ?_) (fun c1 => ?_)
  · skip
    refine w_aload_n ok dX12_primary_8 0 rfl ?_
    refine w_bipush (v := 40) ok dX12_primary_9 (by decide) ?_
    refine w_cV (As := [.int 40]) ok dX12_primary_11 iX12_isSign (lX12_273 rfl) (rcv cls12 (congrArg Prod.fst s_130)) (ltM hnn (by decide)) (c_X12_isSign ro hnn hf 40 ) (by omega) rfl (Nat.le_of_ble_eq_true rfl) ?_
    refine w_if_eq (tgt := 101) ok dX12_primary_14 (by decide) (fun c2 => ?_) (fun c2 => ?_)
    · skip
      refine w_aload_n ok dX12_primary_101 0 rfl ?_
      refine y_getI ok dX12_primary_102 (fX12_188 rfl) (congrArg Prod.fst s_130) rfl (ltM hnn (by decide)) (sdm hf (by decide)) ?_
      refine w_iconst (v := 2) ok dX12_primary_105 (by decide) ?_
      have jn3 : WK K 0 0 114 [(0, .ref 130)] [.int (T_X12_primary_j114 rec I J)] (eI f I) (eJ f J) R n g := by
        refine w_istore_n ok dX12_primary_114 rfl (by decide) rfl ?_
        refine w_iload_n ok dX12_primary_115 0 rfl ?_
        have jn4 : WK K 0 0 162 [(0, .ref 130), (1, .int (T_X12_primary_j114 rec I J))] [] (eI f (T_X12_primary_j162 rec I J)) (eJ f J) R n g := by
          refine w_aload_n ok dX12_primary_162 0 rfl ?_
          refine w_cV (As := []) ok dX12_primary_163 iX12_knot (lX12_297 rfl) (rcv cls12 (congrArg Prod.fst s_130)) (ltM hnn (by decide)) (c_X12_knot ro hnn hf  ) (by omega) rfl (Nat.le_of_ble_eq_true rfl) ?_
          refine w_aload_n ok dX12_primary_166 0 rfl ?_
          refine w_iload_n ok dX12_primary_167 1 rfl ?_
          have jn5 : WK K 0 0 176 [(0, .ref 130), (1, .int (T_X12_primary_j114 rec I J))] [.int (T_X12_primary_j176 rec I J), .ref 130] (eI f (FI_X12_knot  (T_X12_primary_j162 rec I J) J)) (eJ f J) R n g := by
            refine w_iload_n ok dX12_primary_176 1 rfl ?_
            refine w_if_eq (tgt := 187) ok dX12_primary_177 (by decide) (fun c6 => ?_) (fun c6 => ?_)
            · skip
              refine w_aload_n ok dX12_primary_187 0 rfl ?_
              refine y_getI ok dX12_primary_188 (fX12_198 rfl) (congrArg Prod.fst s_130) rfl (ltM hnn (by decide)) (sdm hf (by decide)) ?_
              refine w_bipush (v := 16) ok dX12_primary_191 (by decide) ?_
              refine w_isub ok dX12_primary_193 ?_
              refine w_cV (As := [.int (T_X12_primary_j176 rec I J), .int (((FI_X12_knot  (T_X12_primary_j162 rec I J) J) 130 29) - 16)]) ok dX12_primary_194 iX12_puts (lX12_300 rfl) (rcv cls12 (congrArg Prod.fst s_130)) (ltM hnn (by decide)) (c_X12_puts ro hnn hf (T_X12_primary_j176 rec I J) (((FI_X12_knot  (T_X12_primary_j162 rec I J) J) 130 29) - 16)  (hp1 c1 c2 c6)) (by omega) rfl (Nat.le_of_ble_eq_true rfl) ?_
              show WK K 0 0 197 [(0, .ref 130), (1, .int (T_X12_primary_j114 rec I J))] [] (eI f (S1_X12_primary rec I J)) (eJ f J) R n g
              refine w_aload_n ok dX12_primary_197 0 rfl ?_
              refine w_cV (As := []) ok dX12_primary_198 iX12_goOn (lX12_279 rfl) (rcv cls12 (congrArg Prod.fst s_130)) (ltM hnn (by decide)) (c_X12_goOn ro hnn hf   (hp2 c1 c2 c6)) (by omega) rfl (Nat.le_of_ble_eq_true rfl) ?_
              exact w_vret ok fin dX12_primary_201 rfl (by unfold FI_X12_primary FJ_X12_primary; simp only [if_pos c1]; simp only [if_pos c2]; simp only [if_pos c6]; exact Pd.i)
            · skip
              refine w_aload_n ok dX12_primary_180 0 rfl ?_
              refine y_getI ok dX12_primary_181 (fX12_198 rfl) (congrArg Prod.fst s_130) rfl (ltM hnn (by decide)) (sdm hf (by decide)) ?_
              refine w_goto (tgt := 194) ok dX12_primary_184 (by decide) ?_
              refine w_cV (As := [.int (T_X12_primary_j176 rec I J), .int ((FI_X12_knot  (T_X12_primary_j162 rec I J) J) 130 29)]) ok dX12_primary_194 iX12_puts (lX12_300 rfl) (rcv cls12 (congrArg Prod.fst s_130)) (ltM hnn (by decide)) (c_X12_puts ro hnn hf (T_X12_primary_j176 rec I J) ((FI_X12_knot  (T_X12_primary_j162 rec I J) J) 130 29)  (hp3 c1 c2 c6)) (by omega) rfl (Nat.le_of_ble_eq_true rfl) ?_
              show WK K 0 0 197 [(0, .ref 130), (1, .int (T_X12_primary_j114 rec I J))] [] (eI f (S2_X12_primary rec I J)) (eJ f J) R n g
              refine w_aload_n ok dX12_primary_197 0 rfl ?_
              refine w_cV (As := []) ok dX12_primary_198 iX12_goOn (lX12_279 rfl) (rcv cls12 (congrArg Prod.fst s_130)) (ltM hnn (by decide)) (c_X12_goOn ro hnn hf   (hp4 c1 c2 c6)) (by omega) rfl (Nat.le_of_ble_eq_true rfl) ?_
              exact w_vret ok fin dX12_primary_201 rfl (by unfold FI_X12_primary FJ_X12_primary; simp only [if_pos c1]; simp only [if_pos c2]; simp only [if_neg c6]; exact Pd.i)
          refine w_if_eq (tgt := 175) ok dX12_primary_168 (by decide) (fun c7 => ?_) (fun c7 => ?_)
          · skip
            refine w_iconst (v := 1) ok dX12_primary_175 (by decide) ?_
            have eT : (T_X12_primary_j176 rec I J) = 1 := by
              unfold T_X12_primary_j176; exact (if_pos c7).trans (rfl)
            refine w_loc [0, 1] rfl ?_
            have jj := jn5
            rw [eT] at jj
            exact jj
          · skip
            refine w_iconst (v := 0) ok dX12_primary_171 (by decide) ?_
            refine w_goto (tgt := 176) ok dX12_primary_172 (by decide) ?_
            have eT : (T_X12_primary_j176 rec I J) = 0 := by
              unfold T_X12_primary_j176; exact (if_neg c7).trans (rfl)
            refine w_loc [0, 1] rfl ?_
            have jj := jn5
            rw [eT] at jj
            exact jj
        refine w_if_eq (tgt := 137) ok dX12_primary_116 (by decide) (fun c8 => ?_) (fun c8 => ?_)
        · skip
          refine w_iload_n ok dX12_primary_137 0 rfl ?_
          refine w_if_ne (tgt := 162) ok dX12_primary_138 (by decide) (fun h => absurd c8 h) (fun _ => ?_)
          refine w_aload_n ok dX12_primary_141 1 rfl ?_
          refine y_getI ok dX12_primary_142 (fX12_188 rfl) (congrArg Prod.fst s_130) rfl (ltM hnn (by decide)) (sdm hf (by decide)) ?_
          refine w_if_ne (tgt := 157) ok dX12_primary_145 (by decide) (fun c9 => ?_) (fun c9 => ?_)
          · skip
            refine w_aload_n ok dX12_primary_157 1 rfl ?_
            refine w_iconst (v := 1) ok dX12_primary_158 (by decide) ?_
            refine w_cV (As := [.int 1]) ok dX12_primary_159 iX12_wrong (lX12_232 rfl) (rcv cls12 (congrArg Prod.fst s_130)) (ltM hnn (by decide)) (c_X12_wrong ro hnn hf 1 ) (by omega) rfl (Nat.le_of_ble_eq_true rfl) ?_
            have eT : (T_X12_primary_j162 rec I J) = (FI_X12_wrong 1 I J) := by
              unfold T_X12_primary_j162; exact (if_pos c8).trans ((if_neg c9).trans (rfl))
            refine w_loc [1, 0] rfl ?_
            have jj := jn4
            rw [eT] at jj
            exact jj
          · skip
            refine w_aload_n ok dX12_primary_148 1 rfl ?_
            refine y_getI ok dX12_primary_149 (fX12_198 rfl) (congrArg Prod.fst s_130) rfl (ltM hnn (by decide)) (sdm hf (by decide)) ?_
            refine w_bipush (v := 16) ok dX12_primary_152 (by decide) ?_
            refine w_icmp_ge (tgt := 162) ok dX12_primary_154 (by decide) (fun c10 => ?_) (fun c10 => ?_)
            · skip
              have eT : (T_X12_primary_j162 rec I J) = I := by
                unfold T_X12_primary_j162; exact (if_pos c8).trans ((if_pos c9).trans ((if_pos c10).trans (rfl)))
              refine w_loc [1, 0] rfl ?_
              have jj := jn4
              rw [eT] at jj
              exact jj
            · skip
              refine w_aload_n ok dX12_primary_157 1 rfl ?_
              refine w_iconst (v := 1) ok dX12_primary_158 (by decide) ?_
              refine w_cV (As := [.int 1]) ok dX12_primary_159 iX12_wrong (lX12_232 rfl) (rcv cls12 (congrArg Prod.fst s_130)) (ltM hnn (by decide)) (c_X12_wrong ro hnn hf 1 ) (by omega) rfl (Nat.le_of_ble_eq_true rfl) ?_
              have eT : (T_X12_primary_j162 rec I J) = (FI_X12_wrong 1 I J) := by
                unfold T_X12_primary_j162; exact (if_pos c8).trans ((if_pos c9).trans ((if_neg c10).trans (rfl)))
              refine w_loc [1, 0] rfl ?_
              have jj := jn4
              rw [eT] at jj
              exact jj
        · skip
          refine w_aload_n ok dX12_primary_119 1 rfl ?_
          refine y_getI ok dX12_primary_120 (fX12_198 rfl) (congrArg Prod.fst s_130) rfl (ltM hnn (by decide)) (sdm hf (by decide)) ?_
          refine w_sipush (v := 9999) ok dX12_primary_123 (by decide) ?_
          refine w_icmp_le (tgt := 137) ok dX12_primary_126 (by decide) (fun c11 => ?_) (fun c11 => ?_)
          · skip
            refine w_iload_n ok dX12_primary_137 0 rfl ?_
            refine w_if_ne (tgt := 162) ok dX12_primary_138 (by decide) (fun _ => ?_) (fun h => absurd h c8)
            have eT : (T_X12_primary_j162 rec I J) = I := by
              unfold T_X12_primary_j162; exact (if_neg c8).trans ((if_pos c11).trans (rfl))
            refine w_loc [1, 0] rfl ?_
            have jj := jn4
            rw [eT] at jj
            exact jj
          · skip
            refine w_aload_n ok dX12_primary_129 1 rfl ?_
            refine w_iconst (v := 2) ok dX12_primary_130 (by decide) ?_
            refine w_cV (As := [.int 2]) ok dX12_primary_131 iX12_wrong (lX12_232 rfl) (rcv cls12 (congrArg Prod.fst s_130)) (ltM hnn (by decide)) (c_X12_wrong ro hnn hf 2 ) (by omega) rfl (Nat.le_of_ble_eq_true rfl) ?_
            refine w_goto (tgt := 162) ok dX12_primary_134 (by decide) ?_
            have eT : (T_X12_primary_j162 rec I J) = (FI_X12_wrong 2 I J) := by
              unfold T_X12_primary_j162; exact (if_neg c8).trans ((if_neg c11).trans (rfl))
            refine w_loc [1, 0] rfl ?_
            have jj := jn4
            rw [eT] at jj
            exact jj
      refine w_icmp_ne (tgt := 113) ok dX12_primary_106 (by decide) (fun c12 => ?_) (fun c12 => ?_)
      · skip
        refine w_iconst (v := 0) ok dX12_primary_113 (by decide) ?_
        have eT : (T_X12_primary_j114 rec I J) = 0 := by
          unfold T_X12_primary_j114; exact (if_neg c12).trans (rfl)
        refine w_loc [0] rfl ?_
        have jj := jn3
        rw [eT] at jj
        exact jj
      · skip
        refine w_iconst (v := 1) ok dX12_primary_109 (by decide) ?_
        refine w_goto (tgt := 114) ok dX12_primary_110 (by decide) ?_
        have eT : (T_X12_primary_j114 rec I J) = 1 := by
          unfold T_X12_primary_j114; exact (if_pos c12).trans (rfl)
        refine w_loc [0] rfl ?_
        have jj := jn3
        rw [eT] at jj
        exact jj
    · skip
      refine w_aload_n ok dX12_primary_17 0 rfl ?_
      refine y_getI ok dX12_primary_18 (fX12_315 rfl) (congrArg Prod.fst s_130) rfl (ltM hnn (by decide)) (sdm hf (by decide)) ?_
      refine w_bipush (v := 8) ok dX12_primary_21 (by decide) ?_
      have jn13 : WK K 0 0 31 [(0, .ref 130)] [] (eI f (T_X12_primary_j31 rec I J)) (eJ f J) R n g := by
        refine w_aload_n ok dX12_primary_31 0 rfl ?_
        refine y_getI ok dX12_primary_32 (fX12_223 rfl) (congrArg Prod.fst s_130) rfl (ltM hnn (by decide)) (sdm hf (by decide)) ?_
        refine w_if_eq (tgt := 39) ok dX12_primary_35 (by decide) (fun c14 => ?_) (fun c14 => ?_)
        · skip
          refine w_aload_n ok dX12_primary_39 0 rfl ?_
          refine w_dup ok dX12_primary_40 rfl ?_
          refine y_getI ok dX12_primary_41 (fX12_315 rfl) (congrArg Prod.fst s_130) rfl (ltM hnn (by decide)) (sdm hf (by decide)) ?_
          refine w_iconst (v := 1) ok dX12_primary_44 (by decide) ?_
          refine w_iadd ok dX12_primary_45 ?_
          refine y_putI ok dX12_primary_46 (fwX12_315 rfl) (congrArg Prod.fst s_130) rfl (ltM hnn (by decide)) (sdm hf (by decide)) ?_
          show WK K 0 0 49 [(0, .ref 130)] [] (eI f (S3_X12_primary rec I J)) (eJ f J) R n g
          refine w_aload_n ok dX12_primary_49 0 rfl ?_
          refine w_cV (As := []) ok dX12_primary_50 iX12_token (lX12_229 rfl) (rcv cls12 (congrArg Prod.fst s_130)) (ltM hnn (by decide)) (c_X12_token ro hnn hf   (hp5 c1 c2 c14)) (by omega) rfl (Nat.le_of_ble_eq_true rfl) ?_
          refine w_aload_n ok dX12_primary_53 0 rfl ?_
          refine w_cV (As := []) ok dX12_primary_54 iX12_expression (lX12_285 rfl) (rcv cls12 (congrArg Prod.fst s_130)) (ltM hnn (by decide)) (ih0 (FI_X12_token  (S3_X12_primary rec I J) J) J (hp6 c1 c2 c14)) (by omega) rfl (Nat.le_of_ble_eq_true rfl) ?_
          refine w_aload_n ok dX12_primary_57 0 rfl ?_
          refine y_getI ok dX12_primary_58 (fX12_223 rfl) (congrArg Prod.fst s_130) rfl (ltM hnn (by decide)) (sdm hf (by decide)) ?_
          have jn15 : WK K 0 0 78 [(0, .ref 130)] [] (eI f (T_X12_primary_j78 rec I J)) (eJ f ((rec 0 (FI_X12_token  (S3_X12_primary rec I J) J) J).2)) R n g := by
            refine w_aload_n ok dX12_primary_78 0 rfl ?_
            refine y_getI ok dX12_primary_79 (fX12_223 rfl) (congrArg Prod.fst s_130) rfl (ltM hnn (by decide)) (sdm hf (by decide)) ?_
            refine w_if_eq (tgt := 86) ok dX12_primary_82 (by decide) (fun c16 => ?_) (fun c16 => ?_)
            · skip
              refine w_aload_n ok dX12_primary_86 0 rfl ?_
              refine w_dup ok dX12_primary_87 rfl ?_
              refine y_getI ok dX12_primary_88 (fX12_315 rfl) (congrArg Prod.fst s_130) rfl (ltM hnn (by decide)) (sdm hf (by decide)) ?_
              refine w_iconst (v := 1) ok dX12_primary_91 (by decide) ?_
              refine w_isub ok dX12_primary_92 ?_
              refine y_putI ok dX12_primary_93 (fwX12_315 rfl) (congrArg Prod.fst s_130) rfl (ltM hnn (by decide)) (sdm hf (by decide)) ?_
              show WK K 0 0 96 [(0, .ref 130)] [] (eI f (S4_X12_primary rec I J)) (eJ f ((rec 0 (FI_X12_token  (S3_X12_primary rec I J) J) J).2)) R n g
              refine w_aload_n ok dX12_primary_96 0 rfl ?_
              refine w_cV (As := []) ok dX12_primary_97 iX12_token (lX12_229 rfl) (rcv cls12 (congrArg Prod.fst s_130)) (ltM hnn (by decide)) (c_X12_token ro hnn hf   (hp7 c1 c2 c14 c16)) (by omega) rfl (Nat.le_of_ble_eq_true rfl) ?_
              show WK K 0 0 100 [(0, .ref 130)] [] (eI f (S5_X12_primary rec I J)) (eJ f ((rec 0 (FI_X12_token  (S3_X12_primary rec I J) J) J).2)) R n g
              exact w_vret ok fin dX12_primary_100 rfl (by unfold FI_X12_primary FJ_X12_primary; simp only [if_pos c1]; simp only [if_neg c2]; simp only [if_pos c14]; simp only [if_pos c16]; exact Pd.i)
            · skip
              exact w_vret ok fin dX12_primary_85 rfl (by unfold FI_X12_primary FJ_X12_primary; simp only [if_pos c1]; simp only [if_neg c2]; simp only [if_pos c14]; simp only [if_neg c16]; exact Pd.i)
          refine w_if_ne (tgt := 78) ok dX12_primary_61 (by decide) (fun c17 => ?_) (fun c17 => ?_)
          · skip
            have eT : (T_X12_primary_j78 rec I J) = ((rec 0 (FI_X12_token  (S3_X12_primary rec I J) J) J).1) := by
              unfold T_X12_primary_j78; exact (if_neg c17).trans (rfl)
            refine w_loc [0] rfl ?_
            have jj := jn15
            rw [eT] at jj
            exact jj
          · skip
            refine w_aload_n ok dX12_primary_64 0 rfl ?_
            refine w_bipush (v := 41) ok dX12_primary_65 (by decide) ?_
            refine w_cV (As := [.int 41]) ok dX12_primary_67 iX12_isSign (lX12_273 rfl) (rcv cls12 (congrArg Prod.fst s_130)) (ltM hnn (by decide)) (c_X12_isSign ro hnn hf 41 ) (by omega) rfl (Nat.le_of_ble_eq_true rfl) ?_
            show WK K 0 0 70 [(0, .ref 130)] [.int (S6_X12_primary rec I J)] (eI f ((rec 0 (FI_X12_token  (S3_X12_primary rec I J) J) J).1)) (eJ f ((rec 0 (FI_X12_token  (S3_X12_primary rec I J) J) J).2)) R n g
            refine w_if_ne (tgt := 78) ok dX12_primary_70 (by decide) (fun c18 => ?_) (fun c18 => ?_)
            · skip
              have eT : (T_X12_primary_j78 rec I J) = ((rec 0 (FI_X12_token  (S3_X12_primary rec I J) J) J).1) := by
                unfold T_X12_primary_j78; exact (if_pos c17).trans ((if_neg c18).trans (rfl))
              refine w_loc [0] rfl ?_
              have jj := jn15
              rw [eT] at jj
              exact jj
            · skip
              refine w_aload_n ok dX12_primary_73 0 rfl ?_
              refine w_iconst (v := 1) ok dX12_primary_74 (by decide) ?_
              refine w_cV (As := [.int 1]) ok dX12_primary_75 iX12_wrong (lX12_232 rfl) (rcv cls12 (congrArg Prod.fst s_130)) (ltM hnn (by decide)) (c_X12_wrong ro hnn hf 1 ) (by omega) rfl (Nat.le_of_ble_eq_true rfl) ?_
              show WK K 0 0 78 [(0, .ref 130)] [] (eI f (S7_X12_primary rec I J)) (eJ f ((rec 0 (FI_X12_token  (S3_X12_primary rec I J) J) J).2)) R n g
              have eT : (T_X12_primary_j78 rec I J) = (S7_X12_primary rec I J) := by
                unfold T_X12_primary_j78; exact (if_pos c17).trans ((if_pos c18).trans (rfl))
              refine w_loc [0] rfl ?_
              have jj := jn15
              rw [eT] at jj
              exact jj
        · skip
          exact w_vret ok fin dX12_primary_38 rfl (by unfold FI_X12_primary FJ_X12_primary; simp only [if_pos c1]; simp only [if_neg c2]; simp only [if_neg c14]; exact Pd.i)
      refine w_icmp_ne (tgt := 31) ok dX12_primary_23 (by decide) (fun c19 => ?_) (fun c19 => ?_)
      · skip
        have eT : (T_X12_primary_j31 rec I J) = I := by
          unfold T_X12_primary_j31; exact (if_neg c19).trans (rfl)
        refine w_loc [0] rfl ?_
        have jj := jn13
        rw [eT] at jj
        exact jj
      · skip
        refine w_aload_n ok dX12_primary_26 0 rfl ?_
        refine w_iconst (v := 2) ok dX12_primary_27 (by decide) ?_
        refine w_cV (As := [.int 2]) ok dX12_primary_28 iX12_wrong (lX12_232 rfl) (rcv cls12 (congrArg Prod.fst s_130)) (ltM hnn (by decide)) (c_X12_wrong ro hnn hf 2 ) (by omega) rfl (Nat.le_of_ble_eq_true rfl) ?_
        have eT : (T_X12_primary_j31 rec I J) = (FI_X12_wrong 2 I J) := by
          unfold T_X12_primary_j31; exact (if_pos c19).trans (rfl)
        refine w_loc [0] rfl ?_
        have jj := jn13
        rw [eT] at jj
        exact jj
  · skip
    exact w_vret ok fin dX12_primary_7 rfl (by unfold FI_X12_primary FJ_X12_primary; simp only [if_neg c1]; exact Pd.i)
def RG_expr : Nat → Nat → SI → SJ → SI × SJ
  | 0 => fun _ => fun I J => (I, J)
  | k + 1 => fun t => match t with
    | 0 => fun I J => (FI_X12_expression (RG_expr k) I J, FJ_X12_expression (RG_expr k) I J)
    | 1 => fun I J => (FI_X12_conjunction (RG_expr k) I J, FJ_X12_conjunction (RG_expr k) I J)
    | 2 => fun I J => (FI_X12_negation (RG_expr k) I J, FJ_X12_negation (RG_expr k) I J)
    | 3 => fun I J => (FI_X12_sum (RG_expr k) I J, FJ_X12_sum (RG_expr k) I J)
    | 4 => fun I J => (FI_X12_product (RG_expr k) I J, FJ_X12_product (RG_expr k) I J)
    | _ => fun I J => (FI_X12_primary (RG_expr k) I J, FJ_X12_primary (RG_expr k) I J)
def HG_expr : Nat → Nat → SI → SJ → Prop
  | 0 => fun _ _ _ => False
  | k + 1 => fun t => match t with
    | 0 => fun I J => H_X12_expression (HG_expr k) (RG_expr k) I J
    | 1 => fun I J => H_X12_conjunction (HG_expr k) (RG_expr k) I J
    | 2 => fun I J => H_X12_negation (HG_expr k) (RG_expr k) I J
    | 3 => fun I J => H_X12_sum (HG_expr k) (RG_expr k) I J
    | 4 => fun I J => H_X12_product (HG_expr k) (RG_expr k) I J
    | _ => fun I J => H_X12_primary (HG_expr k) (RG_expr k) I J
set_option maxHeartbeats 1000000 in
set_option maxRecDepth 40000 in
theorem cr_expr {R : SR} {n g : Nat} {f : Fr} (ro : RM R) (hnn : nM ≤ n) (hf : f.1 = false) {dd : Nat} (hdd : 7 ≤ dd) : ∀ k : Nat, (∀ (I : SI) (J : SJ), HG_expr k 0 I J → MM (dd + k) 0 0 mX12_expression [.ref 130] (eI f I) (eJ f J) R n g (Pd none (eI f (RG_expr k 0 I J).1) (eJ f (RG_expr k 0 I J).2) R n g)) ∧ (∀ (I : SI) (J : SJ), HG_expr k 1 I J → MM (dd + k) 0 0 mX12_conjunction [.ref 130] (eI f I) (eJ f J) R n g (Pd none (eI f (RG_expr k 1 I J).1) (eJ f (RG_expr k 1 I J).2) R n g)) ∧ (∀ (I : SI) (J : SJ), HG_expr k 2 I J → MM (dd + k) 0 0 mX12_negation [.ref 130] (eI f I) (eJ f J) R n g (Pd none (eI f (RG_expr k 2 I J).1) (eJ f (RG_expr k 2 I J).2) R n g)) ∧ (∀ (I : SI) (J : SJ), HG_expr k 3 I J → MM (dd + k) 0 0 mX12_sum [.ref 130] (eI f I) (eJ f J) R n g (Pd none (eI f (RG_expr k 3 I J).1) (eJ f (RG_expr k 3 I J).2) R n g)) ∧ (∀ (I : SI) (J : SJ), HG_expr k 4 I J → MM (dd + k) 0 0 mX12_product [.ref 130] (eI f I) (eJ f J) R n g (Pd none (eI f (RG_expr k 4 I J).1) (eJ f (RG_expr k 4 I J).2) R n g)) ∧ (∀ (I : SI) (J : SJ), HG_expr k 5 I J → MM (dd + k) 0 0 mX12_primary [.ref 130] (eI f I) (eJ f J) R n g (Pd none (eI f (RG_expr k 5 I J).1) (eJ f (RG_expr k 5 I J).2) R n g)) := by
  intro k
  induction k with
  | zero => exact ⟨fun _ _ h => h.elim, fun _ _ h => h.elim, fun _ _ h => h.elim, fun _ _ h => h.elim, fun _ _ h => h.elim, fun _ _ h => h.elim⟩
  | succ k ih =>
    obtain ⟨h0, h1, h2, h3, h4, h5⟩ := ih
    exact ⟨fun I J h => cs_X12_expression ro hnn hf (RG_expr k) (HG_expr k) (Nat.le_trans hdd (Nat.le_add_right dd k)) h0 h1 h2 h3 h4 h5 h, fun I J h => cs_X12_conjunction ro hnn hf (RG_expr k) (HG_expr k) (Nat.le_trans hdd (Nat.le_add_right dd k)) h0 h1 h2 h3 h4 h5 h, fun I J h => cs_X12_negation ro hnn hf (RG_expr k) (HG_expr k) (Nat.le_trans hdd (Nat.le_add_right dd k)) h0 h1 h2 h3 h4 h5 h, fun I J h => cs_X12_sum ro hnn hf (RG_expr k) (HG_expr k) (Nat.le_trans hdd (Nat.le_add_right dd k)) h0 h1 h2 h3 h4 h5 h, fun I J h => cs_X12_product ro hnn hf (RG_expr k) (HG_expr k) (Nat.le_trans hdd (Nat.le_add_right dd k)) h0 h1 h2 h3 h4 h5 h, fun I J h => cs_X12_primary ro hnn hf (RG_expr k) (HG_expr k) (Nat.le_trans hdd (Nat.le_add_right dd k)) h0 h1 h2 h3 h4 h5 h⟩
def S1_X2_choose (rec : Nat → Int32 → Int32 → Int32 → SI → SJ → SI × SJ) (a0 : Int32) (a1 : Int32) (a2 : Int32) (I : SI) (J : SJ) (s49 : Int32 × SI × SJ) : Int32 := F_X2_costOf ((atF (s49.2.1 127) 36 ((a0 * 6) + s49.1)) &&& (a1 ^^^ (-1))) (putF s49.2.1 126 6 a0 s49.1) s49.2.2
def S2_X2_choose (rec : Nat → Int32 → Int32 → Int32 → SI → SJ → SI × SJ) (a0 : Int32) (a1 : Int32) (a2 : Int32) (I : SI) (J : SJ) (s49 : Int32 × SI × SJ) : SI := (rec 0 (a0 + 1) (a1 ||| ((atF (s49.2.1 127) 36 ((a0 * 6) + s49.1)) &&& (a1 ^^^ (-1)))) (a2 + (S1_X2_choose rec a0 a1 a2 I J s49)) (putF s49.2.1 126 6 a0 s49.1) s49.2.2).1
def S3_X2_choose (rec : Nat → Int32 → Int32 → Int32 → SI → SJ → SI × SJ) (a0 : Int32) (a1 : Int32) (a2 : Int32) (I : SI) (J : SJ) (s49 : Int32 × SI × SJ) : SJ := (rec 0 (a0 + 1) (a1 ||| ((atF (s49.2.1 127) 36 ((a0 * 6) + s49.1)) &&& (a1 ^^^ (-1)))) (a2 + (S1_X2_choose rec a0 a1 a2 I J s49)) (putF s49.2.1 126 6 a0 s49.1) s49.2.2).2
def B_X2_choose_w49 (rec : Nat → Int32 → Int32 → Int32 → SI → SJ → SI × SJ) (a0 : Int32) (a1 : Int32) (a2 : Int32) (I : SI) (J : SJ) (s49 : Int32 × SI × SJ) : (Int32 × SI × SJ) ⊕ (Int32 × SI × SJ) := if (atF (s49.2.1 6) 8 a0) ≤ s49.1 then .inr (s49.1, s49.2.1, s49.2.2) else (if (F_X2_isWorth a0 s49.1 s49.2.1 s49.2.2) = 0 then .inl ((s49.1 + 1), s49.2.1, s49.2.2) else .inl ((s49.1 + 1), (S2_X2_choose rec a0 a1 a2 I J s49), (S3_X2_choose rec a0 a1 a2 I J s49)))
def F_X2_choose_w49 (rec : Nat → Int32 → Int32 → Int32 → SI → SJ → SI × SJ) (a0 : Int32) (a1 : Int32) (a2 : Int32) (I : SI) (J : SJ) (s0 : Int32 × SI × SJ) : Int32 × SI × SJ := (itW (B_X2_choose_w49 rec a0 a1 a2 I J) 800 s0).getD s0
def FI_X2_choose (rec : Nat → Int32 → Int32 → Int32 → SI → SJ → SI × SJ) (a0 : Int32) (a1 : Int32) (a2 : Int32) (I : SI) (J : SJ) : SI := if a2 < (I 124 1) then (if (I 3 1) ≤ a0 then cpF (u2 I 124 1 a2) 126 125 6 else (if a0 < 6 then (F_X2_choose_w49 rec a0 a1 a2 I J (0, I, J)).2.1 else cpF (u2 I 124 1 a2) 126 125 6)) else I
def FJ_X2_choose (rec : Nat → Int32 → Int32 → Int32 → SI → SJ → SI × SJ) (a0 : Int32) (a1 : Int32) (a2 : Int32) (I : SI) (J : SJ) : SJ := if a2 < (I 124 1) then (if (I 3 1) ≤ a0 then J else (if a0 < 6 then (F_X2_choose_w49 rec a0 a1 a2 I J (0, I, J)).2.2 else J)) else J
def H_X2_choose (hrec : Nat → Int32 → Int32 → Int32 → SI → SJ → Prop) (rec : Nat → Int32 → Int32 → Int32 → SI → SJ → SI × SJ) (a0 : Int32) (a1 : Int32) (a2 : Int32) (I : SI) (J : SJ) : Prop := (a2 < (I 124 1) → ¬ ((I 3 1) ≤ a0) → a0 < 6 → (itW (B_X2_choose_w49 rec a0 a1 a2 I J) 800 (0, I, J)).isSome = true) ∧ (a2 < (I 124 1) → ¬ ((I 3 1) ≤ a0) → a0 < 6 → ∀ (n49 : Nat) (s49 : Int32 × SI × SJ), wN (B_X2_choose_w49 rec a0 a1 a2 I J) n49 (0, I, J) = some s49 → ¬ ((atF (s49.2.1 6) 8 a0) ≤ s49.1) → ¬ ((F_X2_isWorth a0 s49.1 s49.2.1 s49.2.2) = 0) → H_X2_costOf ((atF (s49.2.1 127) 36 ((a0 * 6) + s49.1)) &&& (a1 ^^^ (-1))) (putF s49.2.1 126 6 a0 s49.1) s49.2.2) ∧ (a2 < (I 124 1) → ¬ ((I 3 1) ≤ a0) → a0 < 6 → ∀ (n49 : Nat) (s49 : Int32 × SI × SJ), wN (B_X2_choose_w49 rec a0 a1 a2 I J) n49 (0, I, J) = some s49 → ¬ ((atF (s49.2.1 6) 8 a0) ≤ s49.1) → ¬ ((F_X2_isWorth a0 s49.1 s49.2.1 s49.2.2) = 0) → hrec 0 (a0 + 1) (a1 ||| ((atF (s49.2.1 127) 36 ((a0 * 6) + s49.1)) &&& (a1 ^^^ (-1)))) (a2 + (S1_X2_choose rec a0 a1 a2 I J s49)) (putF s49.2.1 126 6 a0 s49.1) s49.2.2)
set_option maxHeartbeats 1170000 in
set_option maxRecDepth 40000 in
theorem cs_X2_choose {I : SI} {J : SJ} {R : SR} {n g : Nat} {f : Fr} (ro : RO R) (hnn : nK ≤ n) (hf : f.1 = true) (a0 : Int32) (a1 : Int32) (a2 : Int32)  (rec : Nat → Int32 → Int32 → Int32 → SI → SJ → SI × SJ) (hrec : Nat → Int32 → Int32 → Int32 → SI → SJ → Prop) {dd : Nat} (hdd : 2 ≤ dd) (ih0 : ∀ (a0 a1 a2 : Int32) (I : SI) (J : SJ), hrec 0 a0 a1 a2 I J → MM dd 0 0 mX2_choose [.ref 124, .int a0, .int a1, .int a2] (eI f I) (eJ f J) R n g (Pd none (eI f (rec 0 a0 a1 a2 I J).1) (eJ f (rec 0 a0 a1 a2 I J).2) R n g))  (hp : H_X2_choose hrec rec a0 a1 a2 I J) : MM (dd + 1) 0 0 mX2_choose [.ref 124, .int a0, .int a1, .int a2] (eI f I) (eJ f J) R n g (Pd none (eI f (FI_X2_choose rec a0 a1 a2 I J)) (eJ f (FJ_X2_choose rec a0 a1 a2 I J)) R n g) := by
  refine MM.of (by decide) (Nat.le_of_ble_eq_true rfl) fun K ok fin => ?_
  show WK K 0 0 0 [(0, .ref 124), (1, .int a0), (2, .int a1), (3, .int a2)] [] (eI f I) (eJ f J) R n g
  obtain ⟨hp1, hp2, hp3⟩ := hp
  refine w_iload_n ok dX2_choose_0 3 rfl ?_
  refine w_aload_n ok dX2_choose_1 0 rfl ?_
  refine y_getI ok dX2_choose_2 (fX2_15 rfl) (congrArg Prod.fst s_124) rfl (ltK hnn (by decide)) (sdc hf (by decide)) ?_
  refine w_icmp_lt (tgt := 9) ok dX2_choose_5 (by decide) (fun c1 => ?_) (fun c1 => ?_)
  · skip
    refine w_iload_n ok dX2_choose_9 1 rfl ?_
    refine w_aload_n ok dX2_choose_10 0 rfl ?_
    refine w_getR ok dX2_choose_11 (fX2_25 rfl) (congrArg Prod.fst s_124) rfl (r_124_2 ro) (ltK hnn (by decide)) ?_
    refine w_getR ok dX2_choose_14 (fX2_59 rfl) (congrArg Prod.fst s_2) rfl (r_2_0 ro) (ltK hnn (by decide)) ?_
    refine y_getI ok dX2_choose_17 (fX2_65 rfl) (congrArg Prod.fst s_3) rfl (ltK hnn (by decide)) (sdc hf (by decide)) ?_
    refine w_icmp_ge (tgt := 29) ok dX2_choose_20 (by decide) (fun c2 => ?_) (fun c2 => ?_)
    · skip
      refine w_aload_n ok dX2_choose_29 0 rfl ?_
      refine w_iload_n ok dX2_choose_30 3 rfl ?_
      refine y_putI ok dX2_choose_31 (fwX2_15 rfl) (congrArg Prod.fst s_124) rfl (ltK hnn (by decide)) (sdc hf (by decide)) ?_
      refine w_aload_n ok dX2_choose_34 0 rfl ?_
      refine w_getR ok dX2_choose_35 (fX2_19 rfl) (congrArg Prod.fst s_124) rfl (r_124_3 ro) (ltK hnn (by decide)) ?_
      refine w_aload_n ok dX2_choose_38 0 rfl ?_
      refine w_getR ok dX2_choose_39 (fX2_9 rfl) (congrArg Prod.fst s_124) rfl (r_124_0 ro) (ltK hnn (by decide)) ?_
      refine w_cS (As := [.ref 126, .ref 125]) ok dX2_choose_42 iX11_copyRow (lX2_70 rfl) (c_copyRow s_126 s_125 (ltK hnn (by decide)) (ltK hnn (by decide)) (sdc hf (by decide)) (sdc hf (by decide))) (by omega) rfl (Nat.le_of_ble_eq_true rfl) ?_
      exact w_vret ok fin dX2_choose_45 rfl (by unfold FI_X2_choose FJ_X2_choose; simp only [if_pos c1]; simp only [if_pos c2]; exact Pd.i)
    · skip
      refine w_iload_n ok dX2_choose_23 1 rfl ?_
      refine w_bipush (v := 6) ok dX2_choose_24 (by decide) ?_
      refine w_icmp_lt (tgt := 46) ok dX2_choose_26 (by decide) (fun c3 => ?_) (fun c3 => ?_)
      · skip
        refine w_iconst (v := 0) ok dX2_choose_46 (by decide) ?_
        refine w_istore ok dX2_choose_47 (by decide) rfl ?_
        refine w_loc [1, 2, 3, 4, 0] rfl ?_
        refine loop_w (fun (s49 : Int32 × SI × SJ) => WK K 0 0 49 [(0, .ref 124), (1, .int a0), (2, .int a1), (3, .int a2), (4, .int s49.1)] [] (eI f s49.2.1) (eJ f s49.2.2) R n g) (fun (s49 : Int32 × SI × SJ) => WK K 0 0 133 [(0, .ref 124), (1, .int a0), (2, .int a1), (3, .int a2), (4, .int s49.1)] [] (eI f s49.2.1) (eJ f s49.2.2) R n g) (B_X2_choose_w49 rec a0 a1 a2 I J) 800 (0, I, J) (F_X2_choose_w49 rec a0 a1 a2 I J (0, I, J)) (itW_some (hp1 c1 c2 c3)) ?_ ?_
        · show WK K 0 0 133 [(0, .ref 124), (1, .int a0), (2, .int a1), (3, .int a2), (4, .int ((F_X2_choose_w49 rec a0 a1 a2 I J (0, I, J)).1))] [] (eI f ((F_X2_choose_w49 rec a0 a1 a2 I J (0, I, J)).2.1)) (eJ f ((F_X2_choose_w49 rec a0 a1 a2 I J (0, I, J)).2.2)) R n g
          exact w_vret ok fin dX2_choose_133 rfl (by unfold FI_X2_choose FJ_X2_choose; simp only [if_pos c1]; simp only [if_neg c2]; simp only [if_pos c3]; exact Pd.i)
        · intro n49 s49 hs49 kc49 kx49
          show WK K 0 0 49 [(0, .ref 124), (1, .int a0), (2, .int a1), (3, .int a2), (4, .int s49.1)] [] (eI f s49.2.1) (eJ f s49.2.2) R n g
          refine w_iload ok dX2_choose_49 4 rfl ?_
          refine w_aload_n ok dX2_choose_51 0 rfl ?_
          refine w_getR ok dX2_choose_52 (fX2_25 rfl) (congrArg Prod.fst s_124) rfl (r_124_2 ro) (ltK hnn (by decide)) ?_
          refine w_getR ok dX2_choose_55 (fX2_59 rfl) (congrArg Prod.fst s_2) rfl (r_2_0 ro) (ltK hnn (by decide)) ?_
          refine w_getR ok dX2_choose_58 (fX2_74 rfl) (congrArg Prod.fst s_3) rfl (r_3_4 ro) (ltK hnn (by decide)) ?_
          refine w_iload_n ok dX2_choose_61 1 rfl ?_
          refine w_cS (As := [.ref 6, .int a0]) ok dX2_choose_62 iX11_at (lX2_55 rfl) (c_at s_6 (ltK hnn (by decide)) (sdc hf (by decide)) a0) (by omega) rfl (Nat.le_of_ble_eq_true rfl) ?_
          show WK K 0 0 65 [(0, .ref 124), (1, .int a0), (2, .int a1), (3, .int a2), (4, .int s49.1)] [.int (atF (s49.2.1 6) 8 a0), .int s49.1] (eI f s49.2.1) (eJ f s49.2.2) R n g
          refine w_icmp_ge (tgt := 133) ok dX2_choose_65 (by decide) (fun c4 => ?_) (fun c4 => ?_)
          · skip
            have eB : B_X2_choose_w49 rec a0 a1 a2 I J s49 = .inr (s49.1, s49.2.1, s49.2.2) := by
              unfold B_X2_choose_w49; exact (if_pos c4).trans (rfl)
            refine w_loc [0, 1, 2, 3, 4] rfl ?_
            have kk := kx49 _ eB
            exact kk
          · skip
            refine w_aload_n ok dX2_choose_68 0 rfl ?_
            refine w_iload_n ok dX2_choose_69 1 rfl ?_
            refine w_iload ok dX2_choose_70 4 rfl ?_
            refine w_cV (As := [.int a0, .int s49.1]) ok dX2_choose_72 iX2_isWorth (lX2_77 rfl) (rcv cls2 (congrArg Prod.fst s_124)) (ltK hnn (by decide)) (c_X2_isWorth ro hnn hf a0 s49.1 ) (by omega) rfl (Nat.le_of_ble_eq_true rfl) ?_
            refine w_if_eq (tgt := 127) ok dX2_choose_75 (by decide) (fun c5 => ?_) (fun c5 => ?_)
            · skip
              refine w_iinc (v := s49.1 + 1) ok dX2_choose_127 4 rfl rfl (by decide) rfl ?_
              refine w_goto (tgt := 49) ok dX2_choose_130 (by decide) ?_
              have eB : B_X2_choose_w49 rec a0 a1 a2 I J s49 = .inl ((s49.1 + 1), s49.2.1, s49.2.2) := by
                unfold B_X2_choose_w49; exact (if_neg c4).trans ((if_pos c5).trans (rfl))
              refine w_loc [1, 2, 3, 4, 0] rfl ?_
              have kk := kc49 _ eB
              exact kk
            · skip
              refine w_aload_n ok dX2_choose_78 0 rfl ?_
              refine w_getR ok dX2_choose_79 (fX2_22 rfl) (congrArg Prod.fst s_124) rfl (r_124_4 ro) (ltK hnn (by decide)) ?_
              refine w_iload_n ok dX2_choose_82 1 rfl ?_
              refine w_bipush (v := 6) ok dX2_choose_83 (by decide) ?_
              refine w_imul ok dX2_choose_85 ?_
              refine w_iload ok dX2_choose_86 4 rfl ?_
              refine w_iadd ok dX2_choose_88 ?_
              refine w_cS (As := [.ref 127, .int ((a0 * 6) + s49.1)]) ok dX2_choose_89 iX11_at (lX2_55 rfl) (c_at s_127 (ltK hnn (by decide)) (sdc hf (by decide)) ((a0 * 6) + s49.1)) (by omega) rfl (Nat.le_of_ble_eq_true rfl) ?_
              refine w_iload_n ok dX2_choose_92 2 rfl ?_
              refine w_iconst (v := (-1)) ok dX2_choose_93 (by decide) ?_
              refine w_ixor ok dX2_choose_94 ?_
              refine w_iand ok dX2_choose_95 ?_
              refine w_istore ok dX2_choose_96 (by decide) rfl ?_
              refine w_aload_n ok dX2_choose_98 1 rfl ?_
              refine w_getR ok dX2_choose_99 (fX2_19 rfl) (congrArg Prod.fst s_124) rfl (r_124_3 ro) (ltK hnn (by decide)) ?_
              refine w_iload_n ok dX2_choose_102 2 rfl ?_
              refine w_iload ok dX2_choose_103 5 rfl ?_
              refine w_cS (As := [.ref 126, .int a0, .int s49.1]) ok dX2_choose_105 iX11_put (lX2_33 rfl) (c_put s_126 (ltK hnn (by decide)) (sdc hf (by decide)) a0 s49.1) (by omega) rfl (Nat.le_of_ble_eq_true rfl) ?_
              refine w_aload_n ok dX2_choose_108 1 rfl ?_
              refine w_iload_n ok dX2_choose_109 2 rfl ?_
              refine w_iconst (v := 1) ok dX2_choose_110 (by decide) ?_
              refine w_iadd ok dX2_choose_111 ?_
              refine w_iload_n ok dX2_choose_112 3 rfl ?_
              refine w_iload ok dX2_choose_113 0 rfl ?_
              refine w_ior ok dX2_choose_115 ?_
              refine w_iload_n ok dX2_choose_116 4 rfl ?_
              refine w_aload_n ok dX2_choose_117 1 rfl ?_
              refine w_iload ok dX2_choose_118 0 rfl ?_
              refine w_cV (As := [.int ((atF (s49.2.1 127) 36 ((a0 * 6) + s49.1)) &&& (a1 ^^^ (-1)))]) ok dX2_choose_120 iX2_costOf (lX2_81 rfl) (rcv cls2 (congrArg Prod.fst s_124)) (ltK hnn (by decide)) (c_X2_costOf ro hnn hf ((atF (s49.2.1 127) 36 ((a0 * 6) + s49.1)) &&& (a1 ^^^ (-1)))  (hp2 c1 c2 c3 n49 s49 hs49 c4 c5)) (by omega) rfl (Nat.le_of_ble_eq_true rfl) ?_
              show WK K 0 0 123 [(5, .int ((atF (s49.2.1 127) 36 ((a0 * 6) + s49.1)) &&& (a1 ^^^ (-1)))), (0, .ref 124), (1, .int a0), (2, .int a1), (3, .int a2), (4, .int s49.1)] [.int (S1_X2_choose rec a0 a1 a2 I J s49), .int a2, .int (a1 ||| ((atF (s49.2.1 127) 36 ((a0 * 6) + s49.1)) &&& (a1 ^^^ (-1)))), .int (a0 + 1), .ref 124] (eI f (putF s49.2.1 126 6 a0 s49.1)) (eJ f s49.2.2) R n g
              refine w_iadd ok dX2_choose_123 ?_
              refine w_cS (As := [.ref 124, .int (a0 + 1), .int (a1 ||| ((atF (s49.2.1 127) 36 ((a0 * 6) + s49.1)) &&& (a1 ^^^ (-1)))), .int (a2 + (S1_X2_choose rec a0 a1 a2 I J s49))]) ok dX2_choose_124 iX2_choose (lX2_42 rfl) (ih0 (a0 + 1) (a1 ||| ((atF (s49.2.1 127) 36 ((a0 * 6) + s49.1)) &&& (a1 ^^^ (-1)))) (a2 + (S1_X2_choose rec a0 a1 a2 I J s49)) (putF s49.2.1 126 6 a0 s49.1) s49.2.2 (hp3 c1 c2 c3 n49 s49 hs49 c4 c5)) (by omega) rfl (Nat.le_of_ble_eq_true rfl) ?_
              show WK K 0 0 127 [(5, .int ((atF (s49.2.1 127) 36 ((a0 * 6) + s49.1)) &&& (a1 ^^^ (-1)))), (0, .ref 124), (1, .int a0), (2, .int a1), (3, .int a2), (4, .int s49.1)] [] (eI f (S2_X2_choose rec a0 a1 a2 I J s49)) (eJ f (S3_X2_choose rec a0 a1 a2 I J s49)) R n g
              refine w_iinc (v := s49.1 + 1) ok dX2_choose_127 5 rfl rfl (by decide) rfl ?_
              refine w_goto (tgt := 49) ok dX2_choose_130 (by decide) ?_
              have eB : B_X2_choose_w49 rec a0 a1 a2 I J s49 = .inl ((s49.1 + 1), (S2_X2_choose rec a0 a1 a2 I J s49), (S3_X2_choose rec a0 a1 a2 I J s49)) := by
                unfold B_X2_choose_w49; exact (if_neg c4).trans ((if_neg c5).trans (rfl))
              refine w_loc [2, 3, 4, 5, 0] rfl ?_
              have kk := kc49 _ eB
              exact kk
      · skip
        refine w_aload_n ok dX2_choose_29 0 rfl ?_
        refine w_iload_n ok dX2_choose_30 3 rfl ?_
        refine y_putI ok dX2_choose_31 (fwX2_15 rfl) (congrArg Prod.fst s_124) rfl (ltK hnn (by decide)) (sdc hf (by decide)) ?_
        refine w_aload_n ok dX2_choose_34 0 rfl ?_
        refine w_getR ok dX2_choose_35 (fX2_19 rfl) (congrArg Prod.fst s_124) rfl (r_124_3 ro) (ltK hnn (by decide)) ?_
        refine w_aload_n ok dX2_choose_38 0 rfl ?_
        refine w_getR ok dX2_choose_39 (fX2_9 rfl) (congrArg Prod.fst s_124) rfl (r_124_0 ro) (ltK hnn (by decide)) ?_
        refine w_cS (As := [.ref 126, .ref 125]) ok dX2_choose_42 iX11_copyRow (lX2_70 rfl) (c_copyRow s_126 s_125 (ltK hnn (by decide)) (ltK hnn (by decide)) (sdc hf (by decide)) (sdc hf (by decide))) (by omega) rfl (Nat.le_of_ble_eq_true rfl) ?_
        exact w_vret ok fin dX2_choose_45 rfl (by unfold FI_X2_choose FJ_X2_choose; simp only [if_pos c1]; simp only [if_neg c2]; simp only [if_neg c3]; exact Pd.i)
  · skip
    exact w_vret ok fin dX2_choose_8 rfl (by unfold FI_X2_choose FJ_X2_choose; simp only [if_neg c1]; exact Pd.i)
def RG_choose : Nat → Nat → Int32 → Int32 → Int32 → SI → SJ → SI × SJ
  | 0 => fun _ _ _ _ => fun I J => (I, J)
  | k + 1 => fun t => match t with
    | _ => fun a0 a1 a2 I J => (FI_X2_choose (RG_choose k) a0 a1 a2 I J, FJ_X2_choose (RG_choose k) a0 a1 a2 I J)
def HG_choose : Nat → Nat → Int32 → Int32 → Int32 → SI → SJ → Prop
  | 0 => fun _ _ _ _ _ _ => False
  | k + 1 => fun t => match t with
    | _ => fun a0 a1 a2 I J => H_X2_choose (HG_choose k) (RG_choose k) a0 a1 a2 I J
set_option maxHeartbeats 1000000 in
set_option maxRecDepth 40000 in
theorem cr_choose {R : SR} {n g : Nat} {f : Fr} (ro : RO R) (hnn : nK ≤ n) (hf : f.1 = true) {dd : Nat} (hdd : 2 ≤ dd) : ∀ k : Nat, (∀ (a0 a1 a2 : Int32) (I : SI) (J : SJ), HG_choose k 0 a0 a1 a2 I J → MM (dd + k) 0 0 mX2_choose [.ref 124, .int a0, .int a1, .int a2] (eI f I) (eJ f J) R n g (Pd none (eI f (RG_choose k 0 a0 a1 a2 I J).1) (eJ f (RG_choose k 0 a0 a1 a2 I J).2) R n g)) := by
  intro k
  induction k with
  | zero => exact fun _ _ _ _ _ h => h.elim
  | succ k ih =>
    have h0 := ih
    exact fun a0 a1 a2 I J h => cs_X2_choose ro hnn hf a0 a1 a2 (RG_choose k) (HG_choose k) (Nat.le_trans hdd (Nat.le_add_right dd k)) h0 h
def B_X12_sayings_w72 (rec : Nat → Int32 → SI → SJ → SI × SJ) (a0 : Int32) (I : SI) (J : SJ) (s72 : Int32 × SI) : (Int32 × SI) ⊕ (Int32 × SI) := if (s72.2 132 0) ≤ s72.1 then .inr (s72.1, s72.2) else .inl ((s72.1 + 1), (u2 s72.2 169 s72.1.toNatClampNeg (s72.2 168 s72.1.toNatClampNeg)))
def F_X12_sayings_w72 (rec : Nat → Int32 → SI → SJ → SI × SJ) (a0 : Int32) (I : SI) (J : SJ) (s0 : Int32 × SI) : Int32 × SI := (itW (B_X12_sayings_w72 rec a0 I J) 800 s0).getD s0
def B_X12_sayings_w72_2 (rec : Nat → Int32 → SI → SJ → SI × SJ) (a0 : Int32) (I : SI) (J : SJ) (s72 : Int32 × SI) : (Int32 × SI) ⊕ (Int32 × SI) := if (s72.2 132 0) ≤ s72.1 then .inr (s72.1, s72.2) else .inl ((s72.1 + 1), (u2 s72.2 169 s72.1.toNatClampNeg (s72.2 168 s72.1.toNatClampNeg)))
def F_X12_sayings_w72_2 (rec : Nat → Int32 → SI → SJ → SI × SJ) (a0 : Int32) (I : SI) (J : SJ) (s0 : Int32 × SI) : Int32 × SI := (itW (B_X12_sayings_w72_2 rec a0 I J) 800 s0).getD s0
def B_X12_sayings_w12 (rec : Nat → Int32 → SI → SJ → SI × SJ) (a0 : Int32) (I : SI) (J : SJ) (s12 : Int32 × SI × SJ) : (Int32 × SI × SJ) ⊕ (Int32 × SI × SJ) := if (s12.2.1 135 a0.toNatClampNeg) ≤ s12.1 then .inr (s12.1, s12.2.1, s12.2.2) else .inl ((s12.1 + 1), ((rec 0 (a0 + 1) (u2 s12.2.1 168 a0.toNatClampNeg s12.1) s12.2.2).1), ((rec 0 (a0 + 1) (u2 s12.2.1 168 a0.toNatClampNeg s12.1) s12.2.2).2))
def F_X12_sayings_w12 (rec : Nat → Int32 → SI → SJ → SI × SJ) (a0 : Int32) (I : SI) (J : SJ) (s0 : Int32 × SI × SJ) : Int32 × SI × SJ := (itW (B_X12_sayings_w12 rec a0 I J) 800 s0).getD s0
def FI_X12_sayings (rec : Nat → Int32 → SI → SJ → SI × SJ) (a0 : Int32) (I : SI) (J : SJ) : SI := if (I 132 0) ≤ a0 then (if (I 130 62) = (-1) then (F_X12_sayings_w72 rec a0 I J (0, (u2 I 130 62 (F_X12_costNow  I J)))).2 else (if (F_X12_costNow  I J) < (I 130 62) then (F_X12_sayings_w72_2 rec a0 I J (0, (u2 I 130 62 (F_X12_costNow  I J)))).2 else I)) else (F_X12_sayings_w12 rec a0 I J (0, I, J)).2.1
def FJ_X12_sayings (rec : Nat → Int32 → SI → SJ → SI × SJ) (a0 : Int32) (I : SI) (J : SJ) : SJ := if (I 132 0) ≤ a0 then (if (I 130 62) = (-1) then J else (if (F_X12_costNow  I J) < (I 130 62) then J else J)) else (F_X12_sayings_w12 rec a0 I J (0, I, J)).2.2
def H_X12_sayings (hrec : Nat → Int32 → SI → SJ → Prop) (rec : Nat → Int32 → SI → SJ → SI × SJ) (a0 : Int32) (I : SI) (J : SJ) : Prop := ((I 132 0) ≤ a0 → H_X12_costNow  I J) ∧ ((I 132 0) ≤ a0 → (I 130 62) = (-1) → (itW (B_X12_sayings_w72 rec a0 I J) 800 (0, (u2 I 130 62 (F_X12_costNow  I J)))).isSome = true) ∧ ((I 132 0) ≤ a0 → (I 130 62) = (-1) → ∀ (n72 : Nat) (s72 : Int32 × SI), wN (B_X12_sayings_w72 rec a0 I J) n72 (0, (u2 I 130 62 (F_X12_costNow  I J))) = some s72 → ¬ ((s72.2 132 0) ≤ s72.1) → inR s72.1 6) ∧ ((I 132 0) ≤ a0 → ¬ ((I 130 62) = (-1)) → (F_X12_costNow  I J) < (I 130 62) → (itW (B_X12_sayings_w72_2 rec a0 I J) 800 (0, (u2 I 130 62 (F_X12_costNow  I J)))).isSome = true) ∧ ((I 132 0) ≤ a0 → ¬ ((I 130 62) = (-1)) → (F_X12_costNow  I J) < (I 130 62) → ∀ (n72 : Nat) (s72 : Int32 × SI), wN (B_X12_sayings_w72_2 rec a0 I J) n72 (0, (u2 I 130 62 (F_X12_costNow  I J))) = some s72 → ¬ ((s72.2 132 0) ≤ s72.1) → inR s72.1 6) ∧ (¬ ((I 132 0) ≤ a0) → (itW (B_X12_sayings_w12 rec a0 I J) 800 (0, I, J)).isSome = true) ∧ (¬ ((I 132 0) ≤ a0) → ∀ (n12 : Nat) (s12 : Int32 × SI × SJ), wN (B_X12_sayings_w12 rec a0 I J) n12 (0, I, J) = some s12 → inR a0 12) ∧ (¬ ((I 132 0) ≤ a0) → ∀ (n12 : Nat) (s12 : Int32 × SI × SJ), wN (B_X12_sayings_w12 rec a0 I J) n12 (0, I, J) = some s12 → ¬ ((s12.2.1 135 a0.toNatClampNeg) ≤ s12.1) → inR a0 6) ∧ (¬ ((I 132 0) ≤ a0) → ∀ (n12 : Nat) (s12 : Int32 × SI × SJ), wN (B_X12_sayings_w12 rec a0 I J) n12 (0, I, J) = some s12 → ¬ ((s12.2.1 135 a0.toNatClampNeg) ≤ s12.1) → hrec 0 (a0 + 1) (u2 s12.2.1 168 a0.toNatClampNeg s12.1) s12.2.2)
set_option maxHeartbeats 1410000 in
set_option maxRecDepth 40000 in
theorem cs_X12_sayings {I : SI} {J : SJ} {R : SR} {n g : Nat} {f : Fr} (ro : RM R) (hnn : nM ≤ n) (hf : f.1 = false) (a0 : Int32)  (rec : Nat → Int32 → SI → SJ → SI × SJ) (hrec : Nat → Int32 → SI → SJ → Prop) {dd : Nat} (hdd : 2 ≤ dd) (ih0 : ∀ (a0 : Int32) (I : SI) (J : SJ), hrec 0 a0 I J → MM dd 0 0 mX12_sayings [.ref 130, .int a0] (eI f I) (eJ f J) R n g (Pd none (eI f (rec 0 a0 I J).1) (eJ f (rec 0 a0 I J).2) R n g))  (hp : H_X12_sayings hrec rec a0 I J) : MM (dd + 1) 0 0 mX12_sayings [.ref 130, .int a0] (eI f I) (eJ f J) R n g (Pd none (eI f (FI_X12_sayings rec a0 I J)) (eJ f (FJ_X12_sayings rec a0 I J)) R n g) := by
  refine MM.of (by decide) (Nat.le_of_ble_eq_true rfl) fun K ok fin => ?_
  show WK K 0 0 0 [(0, .ref 130), (1, .int a0)] [] (eI f I) (eJ f J) R n g
  obtain ⟨hp1, hp2, hp3, hp4, hp5, hp6, hp7, hp8, hp9⟩ := hp
  refine w_iload_n ok dX12_sayings_0 1 rfl ?_
  refine w_aload_n ok dX12_sayings_1 0 rfl ?_
  refine w_getR ok dX12_sayings_2 (fX12_13 rfl) (congrArg Prod.fst s_130) rfl (r_130_3 ro) (ltM hnn (by decide)) ?_
  refine w_iconst (v := 0) ok dX12_sayings_5 (by decide) ?_
  refine y_iald (q := 0) ok dX12_sayings_6 s_132 (by decide) (by decide) (ltM hnn (by decide)) (sdm hf (by decide)) ?_
  refine w_icmp_ge (tgt := 43) ok dX12_sayings_7 (by decide) (fun c1 => ?_) (fun c1 => ?_)
  · skip
    refine w_aload_n ok dX12_sayings_43 0 rfl ?_
    refine w_cV (As := []) ok dX12_sayings_44 iX12_costNow (lX12_485 rfl) (rcv cls12 (congrArg Prod.fst s_130)) (ltM hnn (by decide)) (c_X12_costNow ro hnn hf   (hp1 c1)) (by omega) rfl (Nat.le_of_ble_eq_true rfl) ?_
    refine w_istore_n ok dX12_sayings_47 rfl (by decide) rfl ?_
    refine w_aload_n ok dX12_sayings_48 1 rfl ?_
    refine y_getI ok dX12_sayings_49 (fX12_488 rfl) (congrArg Prod.fst s_130) rfl (ltM hnn (by decide)) (sdm hf (by decide)) ?_
    refine w_iconst (v := (-1)) ok dX12_sayings_52 (by decide) ?_
    refine w_icmp_eq (tgt := 65) ok dX12_sayings_53 (by decide) (fun c2 => ?_) (fun c2 => ?_)
    · skip
      refine w_aload_n ok dX12_sayings_65 1 rfl ?_
      refine w_iload_n ok dX12_sayings_66 0 rfl ?_
      refine y_putI ok dX12_sayings_67 (fwX12_488 rfl) (congrArg Prod.fst s_130) rfl (ltM hnn (by decide)) (sdm hf (by decide)) ?_
      refine w_iconst (v := 0) ok dX12_sayings_70 (by decide) ?_
      refine w_istore_n ok dX12_sayings_71 rfl (by decide) rfl ?_
      refine w_loc [2, 3, 1, 0] rfl ?_
      refine loop_w (fun (s72 : Int32 × SI) => WK K 0 0 72 [(0, .ref 130), (1, .int a0), (2, .int (F_X12_costNow  I J)), (3, .int s72.1)] [] (eI f s72.2) (eJ f J) R n g) (fun (s72 : Int32 × SI) => WK K 0 0 100 [(0, .ref 130), (1, .int a0), (2, .int (F_X12_costNow  I J)), (3, .int s72.1)] [] (eI f s72.2) (eJ f J) R n g) (B_X12_sayings_w72 rec a0 I J) 800 (0, (u2 I 130 62 (F_X12_costNow  I J))) (F_X12_sayings_w72 rec a0 I J (0, (u2 I 130 62 (F_X12_costNow  I J)))) (itW_some (hp2 c1 c2)) ?_ ?_
      · show WK K 0 0 100 [(0, .ref 130), (1, .int a0), (2, .int (F_X12_costNow  I J)), (3, .int ((F_X12_sayings_w72 rec a0 I J (0, (u2 I 130 62 (F_X12_costNow  I J)))).1))] [] (eI f ((F_X12_sayings_w72 rec a0 I J (0, (u2 I 130 62 (F_X12_costNow  I J)))).2)) (eJ f J) R n g
        exact w_vret ok fin dX12_sayings_100 rfl (by unfold FI_X12_sayings FJ_X12_sayings; simp only [if_pos c1]; simp only [if_pos c2]; exact Pd.i)
      · intro n72 s72 hs72 kc72 kx72
        show WK K 0 0 72 [(0, .ref 130), (1, .int a0), (2, .int (F_X12_costNow  I J)), (3, .int s72.1)] [] (eI f s72.2) (eJ f J) R n g
        refine w_iload_n ok dX12_sayings_72 3 rfl ?_
        refine w_aload_n ok dX12_sayings_73 0 rfl ?_
        refine w_getR ok dX12_sayings_74 (fX12_13 rfl) (congrArg Prod.fst s_130) rfl (r_130_3 ro) (ltM hnn (by decide)) ?_
        refine w_iconst (v := 0) ok dX12_sayings_77 (by decide) ?_
        refine y_iald (q := 0) ok dX12_sayings_78 s_132 (by decide) (by decide) (ltM hnn (by decide)) (sdm hf (by decide)) ?_
        refine w_icmp_ge (tgt := 100) ok dX12_sayings_79 (by decide) (fun c3 => ?_) (fun c3 => ?_)
        · skip
          have eB : B_X12_sayings_w72 rec a0 I J s72 = .inr (s72.1, s72.2) := by
            unfold B_X12_sayings_w72; exact (if_pos c3).trans (rfl)
          refine w_loc [0, 1, 2, 3] rfl ?_
          have kk := kx72 _ eB
          exact kk
        · skip
          refine w_aload_n ok dX12_sayings_82 0 rfl ?_
          refine w_getR ok dX12_sayings_83 (fX12_135 rfl) (congrArg Prod.fst s_130) rfl (r_130_61 ro) (ltM hnn (by decide)) ?_
          refine w_iload_n ok dX12_sayings_86 3 rfl ?_
          refine w_aload_n ok dX12_sayings_87 0 rfl ?_
          refine w_getR ok dX12_sayings_88 (fX12_132 rfl) (congrArg Prod.fst s_130) rfl (r_130_60 ro) (ltM hnn (by decide)) ?_
          refine w_iload_n ok dX12_sayings_91 3 rfl ?_
          refine y_iald (q := s72.1.toNatClampNeg) ok dX12_sayings_92 s_168 (hp3 c1 c2 n72 s72 hs72 c3) (by decide) (ltM hnn (by decide)) (sdm hf (by decide)) ?_
          refine y_iast (q := s72.1.toNatClampNeg) ok dX12_sayings_93 s_169 (hp3 c1 c2 n72 s72 hs72 c3) (by decide) (ltM hnn (by decide)) (sdm hf (by decide)) ?_
          refine w_iinc (v := s72.1 + 1) ok dX12_sayings_94 3 rfl rfl (by decide) rfl ?_
          refine w_goto (tgt := 72) ok dX12_sayings_97 (by decide) ?_
          have eB : B_X12_sayings_w72 rec a0 I J s72 = .inl ((s72.1 + 1), (u2 s72.2 169 s72.1.toNatClampNeg (s72.2 168 s72.1.toNatClampNeg))) := by
            unfold B_X12_sayings_w72; exact (if_neg c3).trans (rfl)
          refine w_loc [1, 2, 3, 0] rfl ?_
          have kk := kc72 _ eB
          exact kk
    · skip
      refine w_iload_n ok dX12_sayings_56 0 rfl ?_
      refine w_aload_n ok dX12_sayings_57 1 rfl ?_
      refine y_getI ok dX12_sayings_58 (fX12_488 rfl) (congrArg Prod.fst s_130) rfl (ltM hnn (by decide)) (sdm hf (by decide)) ?_
      refine w_icmp_lt (tgt := 65) ok dX12_sayings_61 (by decide) (fun c4 => ?_) (fun c4 => ?_)
      · skip
        refine w_aload_n ok dX12_sayings_65 1 rfl ?_
        refine w_iload_n ok dX12_sayings_66 0 rfl ?_
        refine y_putI ok dX12_sayings_67 (fwX12_488 rfl) (congrArg Prod.fst s_130) rfl (ltM hnn (by decide)) (sdm hf (by decide)) ?_
        refine w_iconst (v := 0) ok dX12_sayings_70 (by decide) ?_
        refine w_istore_n ok dX12_sayings_71 rfl (by decide) rfl ?_
        refine w_loc [2, 3, 1, 0] rfl ?_
        refine loop_w (fun (s72 : Int32 × SI) => WK K 0 0 72 [(0, .ref 130), (1, .int a0), (2, .int (F_X12_costNow  I J)), (3, .int s72.1)] [] (eI f s72.2) (eJ f J) R n g) (fun (s72 : Int32 × SI) => WK K 0 0 100 [(0, .ref 130), (1, .int a0), (2, .int (F_X12_costNow  I J)), (3, .int s72.1)] [] (eI f s72.2) (eJ f J) R n g) (B_X12_sayings_w72_2 rec a0 I J) 800 (0, (u2 I 130 62 (F_X12_costNow  I J))) (F_X12_sayings_w72_2 rec a0 I J (0, (u2 I 130 62 (F_X12_costNow  I J)))) (itW_some (hp4 c1 c2 c4)) ?_ ?_
        · show WK K 0 0 100 [(0, .ref 130), (1, .int a0), (2, .int (F_X12_costNow  I J)), (3, .int ((F_X12_sayings_w72_2 rec a0 I J (0, (u2 I 130 62 (F_X12_costNow  I J)))).1))] [] (eI f ((F_X12_sayings_w72_2 rec a0 I J (0, (u2 I 130 62 (F_X12_costNow  I J)))).2)) (eJ f J) R n g
          exact w_vret ok fin dX12_sayings_100 rfl (by unfold FI_X12_sayings FJ_X12_sayings; simp only [if_pos c1]; simp only [if_neg c2]; simp only [if_pos c4]; exact Pd.i)
        · intro n72 s72 hs72 kc72 kx72
          show WK K 0 0 72 [(0, .ref 130), (1, .int a0), (2, .int (F_X12_costNow  I J)), (3, .int s72.1)] [] (eI f s72.2) (eJ f J) R n g
          refine w_iload_n ok dX12_sayings_72 3 rfl ?_
          refine w_aload_n ok dX12_sayings_73 0 rfl ?_
          refine w_getR ok dX12_sayings_74 (fX12_13 rfl) (congrArg Prod.fst s_130) rfl (r_130_3 ro) (ltM hnn (by decide)) ?_
          refine w_iconst (v := 0) ok dX12_sayings_77 (by decide) ?_
          refine y_iald (q := 0) ok dX12_sayings_78 s_132 (by decide) (by decide) (ltM hnn (by decide)) (sdm hf (by decide)) ?_
          refine w_icmp_ge (tgt := 100) ok dX12_sayings_79 (by decide) (fun c5 => ?_) (fun c5 => ?_)
          · skip
            have eB : B_X12_sayings_w72_2 rec a0 I J s72 = .inr (s72.1, s72.2) := by
              unfold B_X12_sayings_w72_2; exact (if_pos c5).trans (rfl)
            refine w_loc [0, 1, 2, 3] rfl ?_
            have kk := kx72 _ eB
            exact kk
          · skip
            refine w_aload_n ok dX12_sayings_82 0 rfl ?_
            refine w_getR ok dX12_sayings_83 (fX12_135 rfl) (congrArg Prod.fst s_130) rfl (r_130_61 ro) (ltM hnn (by decide)) ?_
            refine w_iload_n ok dX12_sayings_86 3 rfl ?_
            refine w_aload_n ok dX12_sayings_87 0 rfl ?_
            refine w_getR ok dX12_sayings_88 (fX12_132 rfl) (congrArg Prod.fst s_130) rfl (r_130_60 ro) (ltM hnn (by decide)) ?_
            refine w_iload_n ok dX12_sayings_91 3 rfl ?_
            refine y_iald (q := s72.1.toNatClampNeg) ok dX12_sayings_92 s_168 (hp5 c1 c2 c4 n72 s72 hs72 c5) (by decide) (ltM hnn (by decide)) (sdm hf (by decide)) ?_
            refine y_iast (q := s72.1.toNatClampNeg) ok dX12_sayings_93 s_169 (hp5 c1 c2 c4 n72 s72 hs72 c5) (by decide) (ltM hnn (by decide)) (sdm hf (by decide)) ?_
            refine w_iinc (v := s72.1 + 1) ok dX12_sayings_94 3 rfl rfl (by decide) rfl ?_
            refine w_goto (tgt := 72) ok dX12_sayings_97 (by decide) ?_
            have eB : B_X12_sayings_w72_2 rec a0 I J s72 = .inl ((s72.1 + 1), (u2 s72.2 169 s72.1.toNatClampNeg (s72.2 168 s72.1.toNatClampNeg))) := by
              unfold B_X12_sayings_w72_2; exact (if_neg c5).trans (rfl)
            refine w_loc [1, 2, 3, 0] rfl ?_
            have kk := kc72 _ eB
            exact kk
      · skip
        exact w_vret ok fin dX12_sayings_64 rfl (by unfold FI_X12_sayings FJ_X12_sayings; simp only [if_pos c1]; simp only [if_neg c2]; simp only [if_neg c4]; exact Pd.i)
  · skip
    refine w_iconst (v := 0) ok dX12_sayings_10 (by decide) ?_
    refine w_istore_n ok dX12_sayings_11 rfl (by decide) rfl ?_
    refine w_loc [1, 2, 0] rfl ?_
    refine loop_w (fun (s12 : Int32 × SI × SJ) => WK K 0 0 12 [(0, .ref 130), (1, .int a0), (2, .int s12.1)] [] (eI f s12.2.1) (eJ f s12.2.2) R n g) (fun (s12 : Int32 × SI × SJ) => WK K 0 0 42 [(0, .ref 130), (1, .int a0), (2, .int s12.1)] [] (eI f s12.2.1) (eJ f s12.2.2) R n g) (B_X12_sayings_w12 rec a0 I J) 800 (0, I, J) (F_X12_sayings_w12 rec a0 I J (0, I, J)) (itW_some (hp6 c1)) ?_ ?_
    · show WK K 0 0 42 [(0, .ref 130), (1, .int a0), (2, .int ((F_X12_sayings_w12 rec a0 I J (0, I, J)).1))] [] (eI f ((F_X12_sayings_w12 rec a0 I J (0, I, J)).2.1)) (eJ f ((F_X12_sayings_w12 rec a0 I J (0, I, J)).2.2)) R n g
      exact w_vret ok fin dX12_sayings_42 rfl (by unfold FI_X12_sayings FJ_X12_sayings; simp only [if_neg c1]; exact Pd.i)
    · intro n12 s12 hs12 kc12 kx12
      show WK K 0 0 12 [(0, .ref 130), (1, .int a0), (2, .int s12.1)] [] (eI f s12.2.1) (eJ f s12.2.2) R n g
      refine w_iload_n ok dX12_sayings_12 2 rfl ?_
      refine w_aload_n ok dX12_sayings_13 0 rfl ?_
      refine w_getR ok dX12_sayings_14 (fX12_22 rfl) (congrArg Prod.fst s_130) rfl (r_130_6 ro) (ltM hnn (by decide)) ?_
      refine w_iload_n ok dX12_sayings_17 1 rfl ?_
      refine y_iald (q := a0.toNatClampNeg) ok dX12_sayings_18 s_135 (hp7 c1 n12 s12 hs12) (by decide) (ltM hnn (by decide)) (sdm hf (by decide)) ?_
      refine w_icmp_ge (tgt := 42) ok dX12_sayings_19 (by decide) (fun c6 => ?_) (fun c6 => ?_)
      · skip
        have eB : B_X12_sayings_w12 rec a0 I J s12 = .inr (s12.1, s12.2.1, s12.2.2) := by
          unfold B_X12_sayings_w12; exact (if_pos c6).trans (rfl)
        refine w_loc [0, 1, 2] rfl ?_
        have kk := kx12 _ eB
        exact kk
      · skip
        refine w_aload_n ok dX12_sayings_22 0 rfl ?_
        refine w_getR ok dX12_sayings_23 (fX12_132 rfl) (congrArg Prod.fst s_130) rfl (r_130_60 ro) (ltM hnn (by decide)) ?_
        refine w_iload_n ok dX12_sayings_26 1 rfl ?_
        refine w_iload_n ok dX12_sayings_27 2 rfl ?_
        refine y_iast (q := a0.toNatClampNeg) ok dX12_sayings_28 s_168 (hp8 c1 n12 s12 hs12 c6) (by decide) (ltM hnn (by decide)) (sdm hf (by decide)) ?_
        refine w_aload_n ok dX12_sayings_29 0 rfl ?_
        refine w_iload_n ok dX12_sayings_30 1 rfl ?_
        refine w_iconst (v := 1) ok dX12_sayings_31 (by decide) ?_
        refine w_iadd ok dX12_sayings_32 ?_
        refine w_cV (As := [.int (a0 + 1)]) ok dX12_sayings_33 iX12_sayings (lX12_482 rfl) (rcv cls12 (congrArg Prod.fst s_130)) (ltM hnn (by decide)) (ih0 (a0 + 1) (u2 s12.2.1 168 a0.toNatClampNeg s12.1) s12.2.2 (hp9 c1 n12 s12 hs12 c6)) (by omega) rfl (Nat.le_of_ble_eq_true rfl) ?_
        refine w_iinc (v := s12.1 + 1) ok dX12_sayings_36 2 rfl rfl (by decide) rfl ?_
        refine w_goto (tgt := 12) ok dX12_sayings_39 (by decide) ?_
        have eB : B_X12_sayings_w12 rec a0 I J s12 = .inl ((s12.1 + 1), ((rec 0 (a0 + 1) (u2 s12.2.1 168 a0.toNatClampNeg s12.1) s12.2.2).1), ((rec 0 (a0 + 1) (u2 s12.2.1 168 a0.toNatClampNeg s12.1) s12.2.2).2)) := by
          unfold B_X12_sayings_w12; exact (if_neg c6).trans (rfl)
        refine w_loc [1, 2, 0] rfl ?_
        have kk := kc12 _ eB
        exact kk
def RG_sayings : Nat → Nat → Int32 → SI → SJ → SI × SJ
  | 0 => fun _ _ => fun I J => (I, J)
  | k + 1 => fun t => match t with
    | _ => fun a0 I J => (FI_X12_sayings (RG_sayings k) a0 I J, FJ_X12_sayings (RG_sayings k) a0 I J)
def HG_sayings : Nat → Nat → Int32 → SI → SJ → Prop
  | 0 => fun _ _ _ _ => False
  | k + 1 => fun t => match t with
    | _ => fun a0 I J => H_X12_sayings (HG_sayings k) (RG_sayings k) a0 I J
set_option maxHeartbeats 1000000 in
set_option maxRecDepth 40000 in
theorem cr_sayings {R : SR} {n g : Nat} {f : Fr} (ro : RM R) (hnn : nM ≤ n) (hf : f.1 = false) {dd : Nat} (hdd : 2 ≤ dd) : ∀ k : Nat, (∀ (a0 : Int32) (I : SI) (J : SJ), HG_sayings k 0 a0 I J → MM (dd + k) 0 0 mX12_sayings [.ref 130, .int a0] (eI f I) (eJ f J) R n g (Pd none (eI f (RG_sayings k 0 a0 I J).1) (eJ f (RG_sayings k 0 a0 I J).2) R n g)) := by
  intro k
  induction k with
  | zero => exact fun _ _ _ h => h.elim
  | succ k ih =>
    have h0 := ih
    exact fun a0 I J h => cs_X12_sayings ro hnn hf a0 (RG_sayings k) (HG_sayings k) (Nat.le_trans hdd (Nat.le_add_right dd k)) h0 h
def S4_X12_rows (rec : Nat → Int32 → Int32 → SI → SJ → SI × SJ) (a0 : Int32) (a1 : Int32) (I : SI) (J : SJ) (s69 : Int32 × SI) : SI := u2 s69.2 162 ((8 : Int32) + (s69.2 171 s69.1.toNatClampNeg)).toNatClampNeg ((s69.2 154 0) + s69.1)
def B_X12_rows_w69 (rec : Nat → Int32 → Int32 → SI → SJ → SI × SJ) (a0 : Int32) (a1 : Int32) (I : SI) (J : SJ) (s69 : Int32 × SI) : (Int32 × SI) ⊕ (Int32 × SI) := if (s69.2 130 66) ≤ s69.1 then .inr (s69.1, s69.2) else .inl ((s69.1 + 1), (S4_X12_rows rec a0 a1 I J s69))
def F_X12_rows_w69 (rec : Nat → Int32 → Int32 → SI → SJ → SI × SJ) (a0 : Int32) (a1 : Int32) (I : SI) (J : SJ) (s0 : Int32 × SI) : Int32 × SI := (itW (B_X12_rows_w69 rec a0 a1 I J) 800 s0).getD s0
def S1_X12_rows (rec : Nat → Int32 → Int32 → SI → SJ → SI × SJ) (a0 : Int32) (a1 : Int32) (I : SI) (J : SJ) : SI := FI_X12_goesOn 20 ((F_X12_rows_w69 rec a0 a1 I J (0, (FI_X12_copies 1 0 I J))).2) J
def S2_X12_rows (rec : Nat → Int32 → Int32 → SI → SJ → SI × SJ) (a0 : Int32) (a1 : Int32) (I : SI) (J : SJ) : SJ := FJ_X12_goesOn 20 ((F_X12_rows_w69 rec a0 a1 I J (0, (FI_X12_copies 1 0 I J))).2) J
def S3_X12_rows (rec : Nat → Int32 → Int32 → SI → SJ → SI × SJ) (a0 : Int32) (a1 : Int32) (I : SI) (J : SJ) : Int32 := (F_X12_trouble 1 (S1_X12_rows rec a0 a1 I J) (S2_X12_rows rec a0 a1 I J)) - (F_X12_trouble 0 (S1_X12_rows rec a0 a1 I J) (S2_X12_rows rec a0 a1 I J))
def B_X12_rows_w148 (rec : Nat → Int32 → Int32 → SI → SJ → SI × SJ) (a0 : Int32) (a1 : Int32) (I : SI) (J : SJ) (s148 : Int32 × SI) : (Int32 × SI) ⊕ (Int32 × SI) := if (s148.2 130 66) ≤ s148.1 then .inr (s148.1, s148.2) else .inl ((s148.1 + 1), (u2 s148.2 172 s148.1.toNatClampNeg (s148.2 171 s148.1.toNatClampNeg)))
def F_X12_rows_w148 (rec : Nat → Int32 → Int32 → SI → SJ → SI × SJ) (a0 : Int32) (a1 : Int32) (I : SI) (J : SJ) (s0 : Int32 × SI) : Int32 × SI := (itW (B_X12_rows_w148 rec a0 a1 I J) 800 s0).getD s0
def B_X12_rows_w148_2 (rec : Nat → Int32 → Int32 → SI → SJ → SI × SJ) (a0 : Int32) (a1 : Int32) (I : SI) (J : SJ) (s148 : Int32 × SI) : (Int32 × SI) ⊕ (Int32 × SI) := if (s148.2 130 66) ≤ s148.1 then .inr (s148.1, s148.2) else .inl ((s148.1 + 1), (u2 s148.2 172 s148.1.toNatClampNeg (s148.2 171 s148.1.toNatClampNeg)))
def F_X12_rows_w148_2 (rec : Nat → Int32 → Int32 → SI → SJ → SI × SJ) (a0 : Int32) (a1 : Int32) (I : SI) (J : SJ) (s0 : Int32 × SI) : Int32 × SI := (itW (B_X12_rows_w148_2 rec a0 a1 I J) 800 s0).getD s0
def S5_X12_rows (rec : Nat → Int32 → Int32 → SI → SJ → SI × SJ) (a0 : Int32) (a1 : Int32) (I : SI) (J : SJ) (s10 : Int32 × SI × SJ) : SI := (rec 0 (a0 + 1) (a1 ||| ((1 : Int32) <<< (s10.1 &&& 31))) (u2 s10.2.1 171 a0.toNatClampNeg (s10.2.1 170 s10.1.toNatClampNeg)) s10.2.2).1
def S6_X12_rows (rec : Nat → Int32 → Int32 → SI → SJ → SI × SJ) (a0 : Int32) (a1 : Int32) (I : SI) (J : SJ) (s10 : Int32 × SI × SJ) : SJ := (rec 0 (a0 + 1) (a1 ||| ((1 : Int32) <<< (s10.1 &&& 31))) (u2 s10.2.1 171 a0.toNatClampNeg (s10.2.1 170 s10.1.toNatClampNeg)) s10.2.2).2
def B_X12_rows_w10 (rec : Nat → Int32 → Int32 → SI → SJ → SI × SJ) (a0 : Int32) (a1 : Int32) (I : SI) (J : SJ) (s10 : Int32 × SI × SJ) : (Int32 × SI × SJ) ⊕ (Int32 × SI × SJ) := if (s10.2.1 130 66) ≤ s10.1 then .inr (s10.1, s10.2.1, s10.2.2) else (if ((a1 >>> (s10.1 &&& 31)) &&& 1) = 1 then .inl ((s10.1 + 1), s10.2.1, s10.2.2) else .inl ((s10.1 + 1), (S5_X12_rows rec a0 a1 I J s10), (S6_X12_rows rec a0 a1 I J s10)))
def F_X12_rows_w10 (rec : Nat → Int32 → Int32 → SI → SJ → SI × SJ) (a0 : Int32) (a1 : Int32) (I : SI) (J : SJ) (s0 : Int32 × SI × SJ) : Int32 × SI × SJ := (itW (B_X12_rows_w10 rec a0 a1 I J) 800 s0).getD s0
def FI_X12_rows (rec : Nat → Int32 → Int32 → SI → SJ → SI × SJ) (a0 : Int32) (a1 : Int32) (I : SI) (J : SJ) : SI := if (I 130 66) ≤ a0 then (if (((S1_X12_rows rec a0 a1 I J)) 130 67) = (-1) then (F_X12_rows_w148 rec a0 a1 I J (0, (u2 (S1_X12_rows rec a0 a1 I J) 130 67 (S3_X12_rows rec a0 a1 I J)))).2 else (if (S3_X12_rows rec a0 a1 I J) < (((S1_X12_rows rec a0 a1 I J)) 130 67) then (F_X12_rows_w148_2 rec a0 a1 I J (0, (u2 (S1_X12_rows rec a0 a1 I J) 130 67 (S3_X12_rows rec a0 a1 I J)))).2 else (S1_X12_rows rec a0 a1 I J))) else (F_X12_rows_w10 rec a0 a1 I J (0, I, J)).2.1
def FJ_X12_rows (rec : Nat → Int32 → Int32 → SI → SJ → SI × SJ) (a0 : Int32) (a1 : Int32) (I : SI) (J : SJ) : SJ := if (I 130 66) ≤ a0 then (if (((S1_X12_rows rec a0 a1 I J)) 130 67) = (-1) then (S2_X12_rows rec a0 a1 I J) else (if (S3_X12_rows rec a0 a1 I J) < (((S1_X12_rows rec a0 a1 I J)) 130 67) then (S2_X12_rows rec a0 a1 I J) else (S2_X12_rows rec a0 a1 I J))) else (F_X12_rows_w10 rec a0 a1 I J (0, I, J)).2.2
def H_X12_rows (hrec : Nat → Int32 → Int32 → SI → SJ → Prop) (rec : Nat → Int32 → Int32 → SI → SJ → SI × SJ) (a0 : Int32) (a1 : Int32) (I : SI) (J : SJ) : Prop := ((I 130 66) ≤ a0 → H_X12_copies 1 0 I J) ∧ ((I 130 66) ≤ a0 → (itW (B_X12_rows_w69 rec a0 a1 I J) 800 (0, (FI_X12_copies 1 0 I J))).isSome = true) ∧ ((I 130 66) ≤ a0 → H_X12_goesOn 20 ((F_X12_rows_w69 rec a0 a1 I J (0, (FI_X12_copies 1 0 I J))).2) J) ∧ ((I 130 66) ≤ a0 → H_X12_trouble 1 (S1_X12_rows rec a0 a1 I J) (S2_X12_rows rec a0 a1 I J)) ∧ ((I 130 66) ≤ a0 → H_X12_trouble 0 (S1_X12_rows rec a0 a1 I J) (S2_X12_rows rec a0 a1 I J)) ∧ ((I 130 66) ≤ a0 → (((S1_X12_rows rec a0 a1 I J)) 130 67) = (-1) → (itW (B_X12_rows_w148 rec a0 a1 I J) 800 (0, (u2 (S1_X12_rows rec a0 a1 I J) 130 67 (S3_X12_rows rec a0 a1 I J)))).isSome = true) ∧ ((I 130 66) ≤ a0 → (((S1_X12_rows rec a0 a1 I J)) 130 67) = (-1) → ∀ (n148 : Nat) (s148 : Int32 × SI), wN (B_X12_rows_w148 rec a0 a1 I J) n148 (0, (u2 (S1_X12_rows rec a0 a1 I J) 130 67 (S3_X12_rows rec a0 a1 I J))) = some s148 → ¬ ((s148.2 130 66) ≤ s148.1) → inR s148.1 4) ∧ ((I 130 66) ≤ a0 → ¬ ((((S1_X12_rows rec a0 a1 I J)) 130 67) = (-1)) → (S3_X12_rows rec a0 a1 I J) < (((S1_X12_rows rec a0 a1 I J)) 130 67) → (itW (B_X12_rows_w148_2 rec a0 a1 I J) 800 (0, (u2 (S1_X12_rows rec a0 a1 I J) 130 67 (S3_X12_rows rec a0 a1 I J)))).isSome = true) ∧ ((I 130 66) ≤ a0 → ¬ ((((S1_X12_rows rec a0 a1 I J)) 130 67) = (-1)) → (S3_X12_rows rec a0 a1 I J) < (((S1_X12_rows rec a0 a1 I J)) 130 67) → ∀ (n148 : Nat) (s148 : Int32 × SI), wN (B_X12_rows_w148_2 rec a0 a1 I J) n148 (0, (u2 (S1_X12_rows rec a0 a1 I J) 130 67 (S3_X12_rows rec a0 a1 I J))) = some s148 → ¬ ((s148.2 130 66) ≤ s148.1) → inR s148.1 4) ∧ ((I 130 66) ≤ a0 → ∀ (n69 : Nat) (s69 : Int32 × SI), wN (B_X12_rows_w69 rec a0 a1 I J) n69 (0, (FI_X12_copies 1 0 I J)) = some s69 → ¬ ((s69.2 130 66) ≤ s69.1) → inR s69.1 4) ∧ ((I 130 66) ≤ a0 → ∀ (n69 : Nat) (s69 : Int32 × SI), wN (B_X12_rows_w69 rec a0 a1 I J) n69 (0, (FI_X12_copies 1 0 I J)) = some s69 → ¬ ((s69.2 130 66) ≤ s69.1) → inR ((8 : Int32) + (s69.2 171 s69.1.toNatClampNeg)) 184) ∧ (¬ ((I 130 66) ≤ a0) → (itW (B_X12_rows_w10 rec a0 a1 I J) 800 (0, I, J)).isSome = true) ∧ (¬ ((I 130 66) ≤ a0) → ∀ (n10 : Nat) (s10 : Int32 × SI × SJ), wN (B_X12_rows_w10 rec a0 a1 I J) n10 (0, I, J) = some s10 → ¬ ((s10.2.1 130 66) ≤ s10.1) → ¬ (((a1 >>> (s10.1 &&& 31)) &&& 1) = 1) → inR s10.1 4) ∧ (¬ ((I 130 66) ≤ a0) → ∀ (n10 : Nat) (s10 : Int32 × SI × SJ), wN (B_X12_rows_w10 rec a0 a1 I J) n10 (0, I, J) = some s10 → ¬ ((s10.2.1 130 66) ≤ s10.1) → ¬ (((a1 >>> (s10.1 &&& 31)) &&& 1) = 1) → inR a0 4) ∧ (¬ ((I 130 66) ≤ a0) → ∀ (n10 : Nat) (s10 : Int32 × SI × SJ), wN (B_X12_rows_w10 rec a0 a1 I J) n10 (0, I, J) = some s10 → ¬ ((s10.2.1 130 66) ≤ s10.1) → ¬ (((a1 >>> (s10.1 &&& 31)) &&& 1) = 1) → hrec 0 (a0 + 1) (a1 ||| ((1 : Int32) <<< (s10.1 &&& 31))) (u2 s10.2.1 171 a0.toNatClampNeg (s10.2.1 170 s10.1.toNatClampNeg)) s10.2.2)
set_option maxHeartbeats 2150000 in
set_option maxRecDepth 40000 in
theorem cs_X12_rows {I : SI} {J : SJ} {R : SR} {n g : Nat} {f : Fr} (ro : RM R) (hnn : nM ≤ n) (hf : f.1 = false) (a0 : Int32) (a1 : Int32)  (rec : Nat → Int32 → Int32 → SI → SJ → SI × SJ) (hrec : Nat → Int32 → Int32 → SI → SJ → Prop) {dd : Nat} (hdd : 8 ≤ dd) (ih0 : ∀ (a0 a1 : Int32) (I : SI) (J : SJ), hrec 0 a0 a1 I J → MM dd 0 0 mX12_rows [.ref 130, .int a0, .int a1] (eI f I) (eJ f J) R n g (Pd none (eI f (rec 0 a0 a1 I J).1) (eJ f (rec 0 a0 a1 I J).2) R n g))  (hp : H_X12_rows hrec rec a0 a1 I J) : MM (dd + 1) 0 0 mX12_rows [.ref 130, .int a0, .int a1] (eI f I) (eJ f J) R n g (Pd none (eI f (FI_X12_rows rec a0 a1 I J)) (eJ f (FJ_X12_rows rec a0 a1 I J)) R n g) := by
  refine MM.of (by decide) (Nat.le_of_ble_eq_true rfl) fun K ok fin => ?_
  show WK K 0 0 0 [(0, .ref 130), (1, .int a0), (2, .int a1)] [] (eI f I) (eJ f J) R n g
  obtain ⟨hp1, hp2, hp3, hp4, hp5, hp6, hp7, hp8, hp9, hp10, hp11, hp12, hp13, hp14, hp15⟩ := hp
  refine w_iload_n ok dX12_rows_0 1 rfl ?_
  refine w_aload_n ok dX12_rows_1 0 rfl ?_
  refine y_getI ok dX12_rows_2 (fX12_491 rfl) (congrArg Prod.fst s_130) rfl (ltM hnn (by decide)) (sdm hf (by decide)) ?_
  refine w_icmp_ge (tgt := 61) ok dX12_rows_5 (by decide) (fun c1 => ?_) (fun c1 => ?_)
  · skip
    refine w_aload_n ok dX12_rows_61 0 rfl ?_
    refine w_iconst (v := 1) ok dX12_rows_62 (by decide) ?_
    refine w_iconst (v := 0) ok dX12_rows_63 (by decide) ?_
    refine w_cV (As := [.int 1, .int 0]) ok dX12_rows_64 iX12_copies (lX12_444 rfl) (rcv cls12 (congrArg Prod.fst s_130)) (ltM hnn (by decide)) (c_X12_copies ro hnn hf 1 0  (hp1 c1)) (by omega) rfl (Nat.le_of_ble_eq_true rfl) ?_
    refine w_iconst (v := 0) ok dX12_rows_67 (by decide) ?_
    refine w_istore_n ok dX12_rows_68 rfl (by decide) rfl ?_
    refine w_loc [1, 2, 3, 0] rfl ?_
    refine loop_w (fun (s69 : Int32 × SI) => WK K 0 0 69 [(0, .ref 130), (1, .int a0), (2, .int a1), (3, .int s69.1)] [] (eI f s69.2) (eJ f J) R n g) (fun (s69 : Int32 × SI) => WK K 0 0 105 [(0, .ref 130), (1, .int a0), (2, .int a1), (3, .int s69.1)] [] (eI f s69.2) (eJ f J) R n g) (B_X12_rows_w69 rec a0 a1 I J) 800 (0, (FI_X12_copies 1 0 I J)) (F_X12_rows_w69 rec a0 a1 I J (0, (FI_X12_copies 1 0 I J))) (itW_some (hp2 c1)) ?_ ?_
    · show WK K 0 0 105 [(0, .ref 130), (1, .int a0), (2, .int a1), (3, .int ((F_X12_rows_w69 rec a0 a1 I J (0, (FI_X12_copies 1 0 I J))).1))] [] (eI f ((F_X12_rows_w69 rec a0 a1 I J (0, (FI_X12_copies 1 0 I J))).2)) (eJ f J) R n g
      refine w_aload_n ok dX12_rows_105 0 rfl ?_
      refine w_bipush (v := 20) ok dX12_rows_106 (by decide) ?_
      refine w_cV (As := [.int 20]) ok dX12_rows_108 iX12_goesOn (lX12_447 rfl) (rcv cls12 (congrArg Prod.fst s_130)) (ltM hnn (by decide)) (c_X12_goesOn ro hnn hf 20  (hp3 c1)) (by omega) rfl (Nat.le_of_ble_eq_true rfl) ?_
      show WK K 0 0 111 [(0, .ref 130), (1, .int a0), (2, .int a1), (3, .int ((F_X12_rows_w69 rec a0 a1 I J (0, (FI_X12_copies 1 0 I J))).1))] [] (eI f (S1_X12_rows rec a0 a1 I J)) (eJ f (S2_X12_rows rec a0 a1 I J)) R n g
      refine w_aload_n ok dX12_rows_111 0 rfl ?_
      refine w_iconst (v := 1) ok dX12_rows_112 (by decide) ?_
      refine w_cV (As := [.int 1]) ok dX12_rows_113 iX12_trouble (lX12_497 rfl) (rcv cls12 (congrArg Prod.fst s_130)) (ltM hnn (by decide)) (c_X12_trouble ro hnn hf 1  (hp4 c1)) (by omega) rfl (Nat.le_of_ble_eq_true rfl) ?_
      refine w_aload_n ok dX12_rows_116 0 rfl ?_
      refine w_iconst (v := 0) ok dX12_rows_117 (by decide) ?_
      refine w_cV (As := [.int 0]) ok dX12_rows_118 iX12_trouble (lX12_497 rfl) (rcv cls12 (congrArg Prod.fst s_130)) (ltM hnn (by decide)) (c_X12_trouble ro hnn hf 0  (hp5 c1)) (by omega) rfl (Nat.le_of_ble_eq_true rfl) ?_
      show WK K 0 0 121 [(0, .ref 130), (1, .int a0), (2, .int a1), (3, .int ((F_X12_rows_w69 rec a0 a1 I J (0, (FI_X12_copies 1 0 I J))).1))] [.int (F_X12_trouble 0 (S1_X12_rows rec a0 a1 I J) (S2_X12_rows rec a0 a1 I J)), .int (F_X12_trouble 1 (S1_X12_rows rec a0 a1 I J) (S2_X12_rows rec a0 a1 I J))] (eI f (S1_X12_rows rec a0 a1 I J)) (eJ f (S2_X12_rows rec a0 a1 I J)) R n g
      refine w_isub ok dX12_rows_121 ?_
      show WK K 0 0 122 [(0, .ref 130), (1, .int a0), (2, .int a1), (3, .int ((F_X12_rows_w69 rec a0 a1 I J (0, (FI_X12_copies 1 0 I J))).1))] [.int (S3_X12_rows rec a0 a1 I J)] (eI f (S1_X12_rows rec a0 a1 I J)) (eJ f (S2_X12_rows rec a0 a1 I J)) R n g
      refine w_istore_n ok dX12_rows_122 rfl (by decide) rfl ?_
      refine w_aload_n ok dX12_rows_123 1 rfl ?_
      refine y_getI ok dX12_rows_124 (fX12_500 rfl) (congrArg Prod.fst s_130) rfl (ltM hnn (by decide)) (sdm hf (by decide)) ?_
      refine w_iconst (v := (-1)) ok dX12_rows_127 (by decide) ?_
      refine w_icmp_eq (tgt := 140) ok dX12_rows_128 (by decide) (fun c2 => ?_) (fun c2 => ?_)
      · skip
        refine w_aload_n ok dX12_rows_140 1 rfl ?_
        refine w_iload_n ok dX12_rows_141 0 rfl ?_
        refine y_putI ok dX12_rows_142 (fwX12_500 rfl) (congrArg Prod.fst s_130) rfl (ltM hnn (by decide)) (sdm hf (by decide)) ?_
        refine w_iconst (v := 0) ok dX12_rows_145 (by decide) ?_
        refine w_istore ok dX12_rows_146 (by decide) rfl ?_
        refine w_loc [2, 3, 4, 1, 0] rfl ?_
        refine loop_w (fun (s148 : Int32 × SI) => WK K 0 0 148 [(0, .ref 130), (1, .int a0), (2, .int a1), (3, .int (S3_X12_rows rec a0 a1 I J)), (4, .int s148.1)] [] (eI f s148.2) (eJ f (S2_X12_rows rec a0 a1 I J)) R n g) (fun (s148 : Int32 × SI) => WK K 0 0 177 [(0, .ref 130), (1, .int a0), (2, .int a1), (3, .int (S3_X12_rows rec a0 a1 I J)), (4, .int s148.1)] [] (eI f s148.2) (eJ f (S2_X12_rows rec a0 a1 I J)) R n g) (B_X12_rows_w148 rec a0 a1 I J) 800 (0, (u2 (S1_X12_rows rec a0 a1 I J) 130 67 (S3_X12_rows rec a0 a1 I J))) (F_X12_rows_w148 rec a0 a1 I J (0, (u2 (S1_X12_rows rec a0 a1 I J) 130 67 (S3_X12_rows rec a0 a1 I J)))) (itW_some (hp6 c1 c2)) ?_ ?_
        · show WK K 0 0 177 [(0, .ref 130), (1, .int a0), (2, .int a1), (3, .int (S3_X12_rows rec a0 a1 I J)), (4, .int ((F_X12_rows_w148 rec a0 a1 I J (0, (u2 (S1_X12_rows rec a0 a1 I J) 130 67 (S3_X12_rows rec a0 a1 I J)))).1))] [] (eI f ((F_X12_rows_w148 rec a0 a1 I J (0, (u2 (S1_X12_rows rec a0 a1 I J) 130 67 (S3_X12_rows rec a0 a1 I J)))).2)) (eJ f (S2_X12_rows rec a0 a1 I J)) R n g
          exact w_vret ok fin dX12_rows_177 rfl (by unfold FI_X12_rows FJ_X12_rows; simp only [if_pos c1]; simp only [if_pos c2]; exact Pd.i)
        · intro n148 s148 hs148 kc148 kx148
          show WK K 0 0 148 [(0, .ref 130), (1, .int a0), (2, .int a1), (3, .int (S3_X12_rows rec a0 a1 I J)), (4, .int s148.1)] [] (eI f s148.2) (eJ f (S2_X12_rows rec a0 a1 I J)) R n g
          refine w_iload ok dX12_rows_148 4 rfl ?_
          refine w_aload_n ok dX12_rows_150 0 rfl ?_
          refine y_getI ok dX12_rows_151 (fX12_491 rfl) (congrArg Prod.fst s_130) rfl (ltM hnn (by decide)) (sdm hf (by decide)) ?_
          refine w_icmp_ge (tgt := 177) ok dX12_rows_154 (by decide) (fun c3 => ?_) (fun c3 => ?_)
          · skip
            have eB : B_X12_rows_w148 rec a0 a1 I J s148 = .inr (s148.1, s148.2) := by
              unfold B_X12_rows_w148; exact (if_pos c3).trans (rfl)
            refine w_loc [0, 1, 2, 3, 4] rfl ?_
            have kk := kx148 _ eB
            exact kk
          · skip
            refine w_aload_n ok dX12_rows_157 0 rfl ?_
            refine w_getR ok dX12_rows_158 (fX12_144 rfl) (congrArg Prod.fst s_130) rfl (r_130_65 ro) (ltM hnn (by decide)) ?_
            refine w_iload ok dX12_rows_161 4 rfl ?_
            refine w_aload_n ok dX12_rows_163 0 rfl ?_
            refine w_getR ok dX12_rows_164 (fX12_141 rfl) (congrArg Prod.fst s_130) rfl (r_130_64 ro) (ltM hnn (by decide)) ?_
            refine w_iload ok dX12_rows_167 4 rfl ?_
            refine y_iald (q := s148.1.toNatClampNeg) ok dX12_rows_169 s_171 (hp7 c1 c2 n148 s148 hs148 c3) (by decide) (ltM hnn (by decide)) (sdm hf (by decide)) ?_
            refine y_iast (q := s148.1.toNatClampNeg) ok dX12_rows_170 s_172 (hp7 c1 c2 n148 s148 hs148 c3) (by decide) (ltM hnn (by decide)) (sdm hf (by decide)) ?_
            refine w_iinc (v := s148.1 + 1) ok dX12_rows_171 4 rfl rfl (by decide) rfl ?_
            refine w_goto (tgt := 148) ok dX12_rows_174 (by decide) ?_
            have eB : B_X12_rows_w148 rec a0 a1 I J s148 = .inl ((s148.1 + 1), (u2 s148.2 172 s148.1.toNatClampNeg (s148.2 171 s148.1.toNatClampNeg))) := by
              unfold B_X12_rows_w148; exact (if_neg c3).trans (rfl)
            refine w_loc [1, 2, 3, 4, 0] rfl ?_
            have kk := kc148 _ eB
            exact kk
      · skip
        refine w_iload_n ok dX12_rows_131 0 rfl ?_
        refine w_aload_n ok dX12_rows_132 1 rfl ?_
        refine y_getI ok dX12_rows_133 (fX12_500 rfl) (congrArg Prod.fst s_130) rfl (ltM hnn (by decide)) (sdm hf (by decide)) ?_
        refine w_icmp_lt (tgt := 140) ok dX12_rows_136 (by decide) (fun c4 => ?_) (fun c4 => ?_)
        · skip
          refine w_aload_n ok dX12_rows_140 1 rfl ?_
          refine w_iload_n ok dX12_rows_141 0 rfl ?_
          refine y_putI ok dX12_rows_142 (fwX12_500 rfl) (congrArg Prod.fst s_130) rfl (ltM hnn (by decide)) (sdm hf (by decide)) ?_
          refine w_iconst (v := 0) ok dX12_rows_145 (by decide) ?_
          refine w_istore ok dX12_rows_146 (by decide) rfl ?_
          refine w_loc [2, 3, 4, 1, 0] rfl ?_
          refine loop_w (fun (s148 : Int32 × SI) => WK K 0 0 148 [(0, .ref 130), (1, .int a0), (2, .int a1), (3, .int (S3_X12_rows rec a0 a1 I J)), (4, .int s148.1)] [] (eI f s148.2) (eJ f (S2_X12_rows rec a0 a1 I J)) R n g) (fun (s148 : Int32 × SI) => WK K 0 0 177 [(0, .ref 130), (1, .int a0), (2, .int a1), (3, .int (S3_X12_rows rec a0 a1 I J)), (4, .int s148.1)] [] (eI f s148.2) (eJ f (S2_X12_rows rec a0 a1 I J)) R n g) (B_X12_rows_w148_2 rec a0 a1 I J) 800 (0, (u2 (S1_X12_rows rec a0 a1 I J) 130 67 (S3_X12_rows rec a0 a1 I J))) (F_X12_rows_w148_2 rec a0 a1 I J (0, (u2 (S1_X12_rows rec a0 a1 I J) 130 67 (S3_X12_rows rec a0 a1 I J)))) (itW_some (hp8 c1 c2 c4)) ?_ ?_
          · show WK K 0 0 177 [(0, .ref 130), (1, .int a0), (2, .int a1), (3, .int (S3_X12_rows rec a0 a1 I J)), (4, .int ((F_X12_rows_w148_2 rec a0 a1 I J (0, (u2 (S1_X12_rows rec a0 a1 I J) 130 67 (S3_X12_rows rec a0 a1 I J)))).1))] [] (eI f ((F_X12_rows_w148_2 rec a0 a1 I J (0, (u2 (S1_X12_rows rec a0 a1 I J) 130 67 (S3_X12_rows rec a0 a1 I J)))).2)) (eJ f (S2_X12_rows rec a0 a1 I J)) R n g
            exact w_vret ok fin dX12_rows_177 rfl (by unfold FI_X12_rows FJ_X12_rows; simp only [if_pos c1]; simp only [if_neg c2]; simp only [if_pos c4]; exact Pd.i)
          · intro n148 s148 hs148 kc148 kx148
            show WK K 0 0 148 [(0, .ref 130), (1, .int a0), (2, .int a1), (3, .int (S3_X12_rows rec a0 a1 I J)), (4, .int s148.1)] [] (eI f s148.2) (eJ f (S2_X12_rows rec a0 a1 I J)) R n g
            refine w_iload ok dX12_rows_148 4 rfl ?_
            refine w_aload_n ok dX12_rows_150 0 rfl ?_
            refine y_getI ok dX12_rows_151 (fX12_491 rfl) (congrArg Prod.fst s_130) rfl (ltM hnn (by decide)) (sdm hf (by decide)) ?_
            refine w_icmp_ge (tgt := 177) ok dX12_rows_154 (by decide) (fun c5 => ?_) (fun c5 => ?_)
            · skip
              have eB : B_X12_rows_w148_2 rec a0 a1 I J s148 = .inr (s148.1, s148.2) := by
                unfold B_X12_rows_w148_2; exact (if_pos c5).trans (rfl)
              refine w_loc [0, 1, 2, 3, 4] rfl ?_
              have kk := kx148 _ eB
              exact kk
            · skip
              refine w_aload_n ok dX12_rows_157 0 rfl ?_
              refine w_getR ok dX12_rows_158 (fX12_144 rfl) (congrArg Prod.fst s_130) rfl (r_130_65 ro) (ltM hnn (by decide)) ?_
              refine w_iload ok dX12_rows_161 4 rfl ?_
              refine w_aload_n ok dX12_rows_163 0 rfl ?_
              refine w_getR ok dX12_rows_164 (fX12_141 rfl) (congrArg Prod.fst s_130) rfl (r_130_64 ro) (ltM hnn (by decide)) ?_
              refine w_iload ok dX12_rows_167 4 rfl ?_
              refine y_iald (q := s148.1.toNatClampNeg) ok dX12_rows_169 s_171 (hp9 c1 c2 c4 n148 s148 hs148 c5) (by decide) (ltM hnn (by decide)) (sdm hf (by decide)) ?_
              refine y_iast (q := s148.1.toNatClampNeg) ok dX12_rows_170 s_172 (hp9 c1 c2 c4 n148 s148 hs148 c5) (by decide) (ltM hnn (by decide)) (sdm hf (by decide)) ?_
              refine w_iinc (v := s148.1 + 1) ok dX12_rows_171 4 rfl rfl (by decide) rfl ?_
              refine w_goto (tgt := 148) ok dX12_rows_174 (by decide) ?_
              have eB : B_X12_rows_w148_2 rec a0 a1 I J s148 = .inl ((s148.1 + 1), (u2 s148.2 172 s148.1.toNatClampNeg (s148.2 171 s148.1.toNatClampNeg))) := by
                unfold B_X12_rows_w148_2; exact (if_neg c5).trans (rfl)
              refine w_loc [1, 2, 3, 4, 0] rfl ?_
              have kk := kc148 _ eB
              exact kk
        · skip
          exact w_vret ok fin dX12_rows_139 rfl (by unfold FI_X12_rows FJ_X12_rows; simp only [if_pos c1]; simp only [if_neg c2]; simp only [if_neg c4]; exact Pd.i)
    · intro n69 s69 hs69 kc69 kx69
      show WK K 0 0 69 [(0, .ref 130), (1, .int a0), (2, .int a1), (3, .int s69.1)] [] (eI f s69.2) (eJ f J) R n g
      refine w_iload_n ok dX12_rows_69 3 rfl ?_
      refine w_aload_n ok dX12_rows_70 0 rfl ?_
      refine y_getI ok dX12_rows_71 (fX12_491 rfl) (congrArg Prod.fst s_130) rfl (ltM hnn (by decide)) (sdm hf (by decide)) ?_
      refine w_icmp_ge (tgt := 105) ok dX12_rows_74 (by decide) (fun c6 => ?_) (fun c6 => ?_)
      · skip
        have eB : B_X12_rows_w69 rec a0 a1 I J s69 = .inr (s69.1, s69.2) := by
          unfold B_X12_rows_w69; exact (if_pos c6).trans (rfl)
        refine w_loc [0, 1, 2, 3] rfl ?_
        have kk := kx69 _ eB
        exact kk
      · skip
        refine w_aload_n ok dX12_rows_77 0 rfl ?_
        refine w_getR ok dX12_rows_78 (fX12_108 rfl) (congrArg Prod.fst s_130) rfl (r_130_47 ro) (ltM hnn (by decide)) ?_
        refine w_bipush (v := 8) ok dX12_rows_81 (by decide) ?_
        refine w_aload_n ok dX12_rows_83 0 rfl ?_
        refine w_getR ok dX12_rows_84 (fX12_141 rfl) (congrArg Prod.fst s_130) rfl (r_130_64 ro) (ltM hnn (by decide)) ?_
        refine w_iload_n ok dX12_rows_87 3 rfl ?_
        refine y_iald (q := s69.1.toNatClampNeg) ok dX12_rows_88 s_171 (hp10 c1 n69 s69 hs69 c6) (by decide) (ltM hnn (by decide)) (sdm hf (by decide)) ?_
        refine w_iadd ok dX12_rows_89 ?_
        refine w_aload_n ok dX12_rows_90 0 rfl ?_
        refine w_getR ok dX12_rows_91 (fX12_84 rfl) (congrArg Prod.fst s_130) rfl (r_130_39 ro) (ltM hnn (by decide)) ?_
        refine w_iconst (v := 0) ok dX12_rows_94 (by decide) ?_
        refine y_iald (q := 0) ok dX12_rows_95 s_154 (by decide) (by decide) (ltM hnn (by decide)) (sdm hf (by decide)) ?_
        refine w_iload_n ok dX12_rows_96 3 rfl ?_
        refine w_iadd ok dX12_rows_97 ?_
        refine y_iast (q := ((8 : Int32) + (s69.2 171 s69.1.toNatClampNeg)).toNatClampNeg) ok dX12_rows_98 s_162 (hp11 c1 n69 s69 hs69 c6) (by decide) (ltM hnn (by decide)) (sdm hf (by decide)) ?_
        show WK K 0 0 99 [(0, .ref 130), (1, .int a0), (2, .int a1), (3, .int s69.1)] [] (eI f (S4_X12_rows rec a0 a1 I J s69)) (eJ f J) R n g
        refine w_iinc (v := s69.1 + 1) ok dX12_rows_99 3 rfl rfl (by decide) rfl ?_
        refine w_goto (tgt := 69) ok dX12_rows_102 (by decide) ?_
        have eB : B_X12_rows_w69 rec a0 a1 I J s69 = .inl ((s69.1 + 1), (S4_X12_rows rec a0 a1 I J s69)) := by
          unfold B_X12_rows_w69; exact (if_neg c6).trans (rfl)
        refine w_loc [1, 2, 3, 0] rfl ?_
        have kk := kc69 _ eB
        exact kk
  · skip
    refine w_iconst (v := 0) ok dX12_rows_8 (by decide) ?_
    refine w_istore_n ok dX12_rows_9 rfl (by decide) rfl ?_
    refine w_loc [1, 2, 3, 0] rfl ?_
    refine loop_w (fun (s10 : Int32 × SI × SJ) => WK K 0 0 10 [(0, .ref 130), (1, .int a0), (2, .int a1), (3, .int s10.1)] [] (eI f s10.2.1) (eJ f s10.2.2) R n g) (fun (s10 : Int32 × SI × SJ) => WK K 0 0 60 [(0, .ref 130), (1, .int a0), (2, .int a1), (3, .int s10.1)] [] (eI f s10.2.1) (eJ f s10.2.2) R n g) (B_X12_rows_w10 rec a0 a1 I J) 800 (0, I, J) (F_X12_rows_w10 rec a0 a1 I J (0, I, J)) (itW_some (hp12 c1)) ?_ ?_
    · show WK K 0 0 60 [(0, .ref 130), (1, .int a0), (2, .int a1), (3, .int ((F_X12_rows_w10 rec a0 a1 I J (0, I, J)).1))] [] (eI f ((F_X12_rows_w10 rec a0 a1 I J (0, I, J)).2.1)) (eJ f ((F_X12_rows_w10 rec a0 a1 I J (0, I, J)).2.2)) R n g
      exact w_vret ok fin dX12_rows_60 rfl (by unfold FI_X12_rows FJ_X12_rows; simp only [if_neg c1]; exact Pd.i)
    · intro n10 s10 hs10 kc10 kx10
      show WK K 0 0 10 [(0, .ref 130), (1, .int a0), (2, .int a1), (3, .int s10.1)] [] (eI f s10.2.1) (eJ f s10.2.2) R n g
      refine w_iload_n ok dX12_rows_10 3 rfl ?_
      refine w_aload_n ok dX12_rows_11 0 rfl ?_
      refine y_getI ok dX12_rows_12 (fX12_491 rfl) (congrArg Prod.fst s_130) rfl (ltM hnn (by decide)) (sdm hf (by decide)) ?_
      refine w_icmp_ge (tgt := 60) ok dX12_rows_15 (by decide) (fun c7 => ?_) (fun c7 => ?_)
      · skip
        have eB : B_X12_rows_w10 rec a0 a1 I J s10 = .inr (s10.1, s10.2.1, s10.2.2) := by
          unfold B_X12_rows_w10; exact (if_pos c7).trans (rfl)
        refine w_loc [0, 1, 2, 3] rfl ?_
        have kk := kx10 _ eB
        exact kk
      · skip
        refine w_iload_n ok dX12_rows_18 2 rfl ?_
        refine w_iload_n ok dX12_rows_19 3 rfl ?_
        refine w_ishr ok dX12_rows_20 ?_
        refine w_iconst (v := 1) ok dX12_rows_21 (by decide) ?_
        refine w_iand ok dX12_rows_22 ?_
        refine w_iconst (v := 1) ok dX12_rows_23 (by decide) ?_
        refine w_icmp_ne (tgt := 30) ok dX12_rows_24 (by decide) (fun c8 => ?_) (fun c8 => ?_)
        · skip
          refine w_aload_n ok dX12_rows_30 0 rfl ?_
          refine w_getR ok dX12_rows_31 (fX12_141 rfl) (congrArg Prod.fst s_130) rfl (r_130_64 ro) (ltM hnn (by decide)) ?_
          refine w_iload_n ok dX12_rows_34 1 rfl ?_
          refine w_aload_n ok dX12_rows_35 0 rfl ?_
          refine w_getR ok dX12_rows_36 (fX12_138 rfl) (congrArg Prod.fst s_130) rfl (r_130_63 ro) (ltM hnn (by decide)) ?_
          refine w_iload_n ok dX12_rows_39 3 rfl ?_
          refine y_iald (q := s10.1.toNatClampNeg) ok dX12_rows_40 s_170 (hp13 c1 n10 s10 hs10 c7 c8) (by decide) (ltM hnn (by decide)) (sdm hf (by decide)) ?_
          refine y_iast (q := a0.toNatClampNeg) ok dX12_rows_41 s_171 (hp14 c1 n10 s10 hs10 c7 c8) (by decide) (ltM hnn (by decide)) (sdm hf (by decide)) ?_
          refine w_aload_n ok dX12_rows_42 0 rfl ?_
          refine w_iload_n ok dX12_rows_43 1 rfl ?_
          refine w_iconst (v := 1) ok dX12_rows_44 (by decide) ?_
          refine w_iadd ok dX12_rows_45 ?_
          refine w_iload_n ok dX12_rows_46 2 rfl ?_
          refine w_iconst (v := 1) ok dX12_rows_47 (by decide) ?_
          refine w_iload_n ok dX12_rows_48 3 rfl ?_
          refine w_ishl ok dX12_rows_49 ?_
          refine w_ior ok dX12_rows_50 ?_
          refine w_cV (As := [.int (a0 + 1), .int (a1 ||| ((1 : Int32) <<< (s10.1 &&& 31)))]) ok dX12_rows_51 iX12_rows (lX12_494 rfl) (rcv cls12 (congrArg Prod.fst s_130)) (ltM hnn (by decide)) (ih0 (a0 + 1) (a1 ||| ((1 : Int32) <<< (s10.1 &&& 31))) (u2 s10.2.1 171 a0.toNatClampNeg (s10.2.1 170 s10.1.toNatClampNeg)) s10.2.2 (hp15 c1 n10 s10 hs10 c7 c8)) (by omega) rfl (Nat.le_of_ble_eq_true rfl) ?_
          show WK K 0 0 54 [(0, .ref 130), (1, .int a0), (2, .int a1), (3, .int s10.1)] [] (eI f (S5_X12_rows rec a0 a1 I J s10)) (eJ f (S6_X12_rows rec a0 a1 I J s10)) R n g
          refine w_iinc (v := s10.1 + 1) ok dX12_rows_54 3 rfl rfl (by decide) rfl ?_
          refine w_goto (tgt := 10) ok dX12_rows_57 (by decide) ?_
          have eB : B_X12_rows_w10 rec a0 a1 I J s10 = .inl ((s10.1 + 1), (S5_X12_rows rec a0 a1 I J s10), (S6_X12_rows rec a0 a1 I J s10)) := by
            unfold B_X12_rows_w10; exact (if_neg c7).trans ((if_neg c8).trans (rfl))
          refine w_loc [1, 2, 3, 0] rfl ?_
          have kk := kc10 _ eB
          exact kk
        · skip
          refine w_goto (tgt := 54) ok dX12_rows_27 (by decide) ?_
          refine w_iinc (v := s10.1 + 1) ok dX12_rows_54 3 rfl rfl (by decide) rfl ?_
          refine w_goto (tgt := 10) ok dX12_rows_57 (by decide) ?_
          have eB : B_X12_rows_w10 rec a0 a1 I J s10 = .inl ((s10.1 + 1), s10.2.1, s10.2.2) := by
            unfold B_X12_rows_w10; exact (if_neg c7).trans ((if_pos c8).trans (rfl))
          refine w_loc [1, 2, 3, 0] rfl ?_
          have kk := kc10 _ eB
          exact kk
def RG_rows : Nat → Nat → Int32 → Int32 → SI → SJ → SI × SJ
  | 0 => fun _ _ _ => fun I J => (I, J)
  | k + 1 => fun t => match t with
    | _ => fun a0 a1 I J => (FI_X12_rows (RG_rows k) a0 a1 I J, FJ_X12_rows (RG_rows k) a0 a1 I J)
def HG_rows : Nat → Nat → Int32 → Int32 → SI → SJ → Prop
  | 0 => fun _ _ _ _ _ => False
  | k + 1 => fun t => match t with
    | _ => fun a0 a1 I J => H_X12_rows (HG_rows k) (RG_rows k) a0 a1 I J
set_option maxHeartbeats 1000000 in
set_option maxRecDepth 40000 in
theorem cr_rows {R : SR} {n g : Nat} {f : Fr} (ro : RM R) (hnn : nM ≤ n) (hf : f.1 = false) {dd : Nat} (hdd : 8 ≤ dd) : ∀ k : Nat, (∀ (a0 a1 : Int32) (I : SI) (J : SJ), HG_rows k 0 a0 a1 I J → MM (dd + k) 0 0 mX12_rows [.ref 130, .int a0, .int a1] (eI f I) (eJ f J) R n g (Pd none (eI f (RG_rows k 0 a0 a1 I J).1) (eJ f (RG_rows k 0 a0 a1 I J).2) R n g)) := by
  intro k
  induction k with
  | zero => exact fun _ _ _ _ h => h.elim
  | succ k ih =>
    have h0 := ih
    exact fun a0 a1 I J h => cs_X12_rows ro hnn hf a0 a1 (RG_rows k) (HG_rows k) (Nat.le_trans hdd (Nat.le_add_right dd k)) h0 h
