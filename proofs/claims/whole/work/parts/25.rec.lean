/-! recursion, by program -/
def S1_X2_choose (rec : Nat → Int32 → Int32 → SI → SJ → SI × SJ) (a0 : Int32) (a1 : Int32) (I : SI) (J : SJ) (s55 : Int32 × SI × SJ) : SI := (rec 0 (a0 + 1) (a1 ||| (atF ((putF s55.2.1 126 6 a0 s55.1) 127) 36 ((a0 * 6) + s55.1))) (putF s55.2.1 126 6 a0 s55.1) s55.2.2).1
def S2_X2_choose (rec : Nat → Int32 → Int32 → SI → SJ → SI × SJ) (a0 : Int32) (a1 : Int32) (I : SI) (J : SJ) (s55 : Int32 × SI × SJ) : SJ := (rec 0 (a0 + 1) (a1 ||| (atF ((putF s55.2.1 126 6 a0 s55.1) 127) 36 ((a0 * 6) + s55.1))) (putF s55.2.1 126 6 a0 s55.1) s55.2.2).2
def B_X2_choose_w55 (rec : Nat → Int32 → Int32 → SI → SJ → SI × SJ) (a0 : Int32) (a1 : Int32) (I : SI) (J : SJ) (s55 : Int32 × SI × SJ) : (Int32 × SI × SJ) ⊕ (Int32 × SI × SJ) := if (atF (s55.2.1 6) 8 a0) ≤ s55.1 then .inr (s55.1, s55.2.1, s55.2.2) else .inl ((s55.1 + 1), (S1_X2_choose rec a0 a1 I J s55), (S2_X2_choose rec a0 a1 I J s55))
def F_X2_choose_w55 (rec : Nat → Int32 → Int32 → SI → SJ → SI × SJ) (a0 : Int32) (a1 : Int32) (I : SI) (J : SJ) (s0 : Int32 × SI × SJ) : Int32 × SI × SJ := (itW (B_X2_choose_w55 rec a0 a1 I J) 800 s0).getD s0
def FI_X2_choose (rec : Nat → Int32 → Int32 → SI → SJ → SI × SJ) (a0 : Int32) (a1 : Int32) (I : SI) (J : SJ) : SI := if (F_X2_costOf a1 I J) < (I 124 1) then (if (I 3 1) ≤ a0 then cpF (u2 I 124 1 (F_X2_costOf a1 I J)) 126 125 6 else (if a0 < 6 then (F_X2_choose_w55 rec a0 a1 I J (0, I, J)).2.1 else cpF (u2 I 124 1 (F_X2_costOf a1 I J)) 126 125 6)) else I
def FJ_X2_choose (rec : Nat → Int32 → Int32 → SI → SJ → SI × SJ) (a0 : Int32) (a1 : Int32) (I : SI) (J : SJ) : SJ := if (F_X2_costOf a1 I J) < (I 124 1) then (if (I 3 1) ≤ a0 then J else (if a0 < 6 then (F_X2_choose_w55 rec a0 a1 I J (0, I, J)).2.2 else J)) else J
def H_X2_choose (hrec : Nat → Int32 → Int32 → SI → SJ → Prop) (rec : Nat → Int32 → Int32 → SI → SJ → SI × SJ) (a0 : Int32) (a1 : Int32) (I : SI) (J : SJ) : Prop := ((F_X2_costOf a1 I J) < (I 124 1) → ¬ ((I 3 1) ≤ a0) → a0 < 6 → (itW (B_X2_choose_w55 rec a0 a1 I J) 800 (0, I, J)).isSome = true) ∧ ((F_X2_costOf a1 I J) < (I 124 1) → ¬ ((I 3 1) ≤ a0) → a0 < 6 → ∀ (n55 : Nat) (s55 : Int32 × SI × SJ), wN (B_X2_choose_w55 rec a0 a1 I J) n55 (0, I, J) = some s55 → ¬ ((atF (s55.2.1 6) 8 a0) ≤ s55.1) → hrec 0 (a0 + 1) (a1 ||| (atF ((putF s55.2.1 126 6 a0 s55.1) 127) 36 ((a0 * 6) + s55.1))) (putF s55.2.1 126 6 a0 s55.1) s55.2.2)
set_option maxHeartbeats 1000000 in
set_option maxRecDepth 40000 in
theorem cs_X2_choose {I : SI} {J : SJ} {R : SR} {n g : Nat} (ro : RO R) (hnn : nK ≤ n) (a0 : Int32) (a1 : Int32)  (rec : Nat → Int32 → Int32 → SI → SJ → SI × SJ) (hrec : Nat → Int32 → Int32 → SI → SJ → Prop) {dd : Nat} (hdd : 2 ≤ dd) (ih0 : ∀ (a0 a1 : Int32) (I : SI) (J : SJ), hrec 0 a0 a1 I J → MM dd 0 0 mX2_choose [.ref 124, .int a0, .int a1] I J R n g (Pd none (rec 0 a0 a1 I J).1 (rec 0 a0 a1 I J).2 R n g))  (hp : H_X2_choose hrec rec a0 a1 I J) : MM (dd + 1) 0 0 mX2_choose [.ref 124, .int a0, .int a1] I J R n g (Pd none (FI_X2_choose rec a0 a1 I J) (FJ_X2_choose rec a0 a1 I J) R n g) := by
  refine MM.of (by decide) (Nat.le_of_ble_eq_true rfl) fun K ok fin => ?_
  show WK K 0 0 0 [(0, .ref 124), (1, .int a0), (2, .int a1)] [] I J R n g
  obtain ⟨hp1, hp2⟩ := hp
  refine w_aload_n ok dX2_choose_0 0 rfl ?_
  refine w_iload_n ok dX2_choose_1 2 rfl ?_
  refine w_cV (As := [.int a1]) ok dX2_choose_2 iX2_costOf (lX2_59 rfl) (rcv cls2 (congrArg Prod.fst s_124)) (ltK hnn (by decide)) (c_X2_costOf ro hnn a1 ) (by omega) rfl (Nat.le_of_ble_eq_true rfl) ?_
  refine w_istore_n ok dX2_choose_5 rfl (by decide) rfl ?_
  refine w_iload_n ok dX2_choose_6 0 rfl ?_
  refine w_aload_n ok dX2_choose_7 1 rfl ?_
  refine w_getI ok dX2_choose_8 (fX2_15 rfl) (congrArg Prod.fst s_124) rfl (ltK hnn (by decide)) ?_
  refine w_icmp_lt (tgt := 15) ok dX2_choose_11 (by decide) (fun c1 => ?_) (fun c1 => ?_)
  · skip
    refine w_iload_n ok dX2_choose_15 2 rfl ?_
    refine w_aload_n ok dX2_choose_16 1 rfl ?_
    refine w_getR ok dX2_choose_17 (fX2_25 rfl) (congrArg Prod.fst s_124) rfl (r_124_2 ro) (ltK hnn (by decide)) ?_
    refine w_getR ok dX2_choose_20 (fX2_63 rfl) (congrArg Prod.fst s_2) rfl (r_2_0 ro) (ltK hnn (by decide)) ?_
    refine w_getI ok dX2_choose_23 (fX2_69 rfl) (congrArg Prod.fst s_3) rfl (ltK hnn (by decide)) ?_
    refine w_icmp_ge (tgt := 35) ok dX2_choose_26 (by decide) (fun c2 => ?_) (fun c2 => ?_)
    · skip
      refine w_aload_n ok dX2_choose_35 1 rfl ?_
      refine w_iload_n ok dX2_choose_36 0 rfl ?_
      refine w_putI ok dX2_choose_37 (fwX2_15 rfl) (congrArg Prod.fst s_124) rfl (ltK hnn (by decide)) ?_
      refine w_aload_n ok dX2_choose_40 1 rfl ?_
      refine w_getR ok dX2_choose_41 (fX2_19 rfl) (congrArg Prod.fst s_124) rfl (r_124_3 ro) (ltK hnn (by decide)) ?_
      refine w_aload_n ok dX2_choose_44 1 rfl ?_
      refine w_getR ok dX2_choose_45 (fX2_9 rfl) (congrArg Prod.fst s_124) rfl (r_124_0 ro) (ltK hnn (by decide)) ?_
      refine w_cS (As := [.ref 126, .ref 125]) ok dX2_choose_48 iX11_copyRow (lX2_74 rfl) (c_copyRow s_126 s_125 (ltK hnn (by decide)) (ltK hnn (by decide))) (by omega) rfl (Nat.le_of_ble_eq_true rfl) ?_
      exact w_vret ok fin dX2_choose_51 rfl (by unfold FI_X2_choose FJ_X2_choose; simp only [if_pos c1]; simp only [if_pos c2]; exact Pd.i)
    · skip
      refine w_iload_n ok dX2_choose_29 2 rfl ?_
      refine w_bipush (v := 6) ok dX2_choose_30 (by decide) ?_
      refine w_icmp_lt (tgt := 52) ok dX2_choose_32 (by decide) (fun c3 => ?_) (fun c3 => ?_)
      · skip
        refine w_iconst (v := 0) ok dX2_choose_52 (by decide) ?_
        refine w_istore ok dX2_choose_53 (by decide) rfl ?_
        refine w_loc [2, 3, 4, 1, 0] rfl ?_
        refine loop_w (fun (s55 : Int32 × SI × SJ) => WK K 0 0 55 [(0, .ref 124), (1, .int a0), (2, .int a1), (3, .int (F_X2_costOf a1 I J)), (4, .int s55.1)] [] s55.2.1 s55.2.2 R n g) (fun (s55 : Int32 × SI × SJ) => WK K 0 0 113 [(0, .ref 124), (1, .int a0), (2, .int a1), (3, .int (F_X2_costOf a1 I J)), (4, .int s55.1)] [] s55.2.1 s55.2.2 R n g) (B_X2_choose_w55 rec a0 a1 I J) 800 (0, I, J) (F_X2_choose_w55 rec a0 a1 I J (0, I, J)) (itW_some (hp1 c1 c2 c3)) ?_ ?_
        · show WK K 0 0 113 [(0, .ref 124), (1, .int a0), (2, .int a1), (3, .int (F_X2_costOf a1 I J)), (4, .int ((F_X2_choose_w55 rec a0 a1 I J (0, I, J)).1))] [] ((F_X2_choose_w55 rec a0 a1 I J (0, I, J)).2.1) ((F_X2_choose_w55 rec a0 a1 I J (0, I, J)).2.2) R n g
          exact w_vret ok fin dX2_choose_113 rfl (by unfold FI_X2_choose FJ_X2_choose; simp only [if_pos c1]; simp only [if_neg c2]; simp only [if_pos c3]; exact Pd.i)
        · intro n55 s55 hs55 kc55 kx55
          show WK K 0 0 55 [(0, .ref 124), (1, .int a0), (2, .int a1), (3, .int (F_X2_costOf a1 I J)), (4, .int s55.1)] [] s55.2.1 s55.2.2 R n g
          refine w_iload ok dX2_choose_55 4 rfl ?_
          refine w_aload_n ok dX2_choose_57 0 rfl ?_
          refine w_getR ok dX2_choose_58 (fX2_25 rfl) (congrArg Prod.fst s_124) rfl (r_124_2 ro) (ltK hnn (by decide)) ?_
          refine w_getR ok dX2_choose_61 (fX2_63 rfl) (congrArg Prod.fst s_2) rfl (r_2_0 ro) (ltK hnn (by decide)) ?_
          refine w_getR ok dX2_choose_64 (fX2_78 rfl) (congrArg Prod.fst s_3) rfl (r_3_4 ro) (ltK hnn (by decide)) ?_
          refine w_iload_n ok dX2_choose_67 1 rfl ?_
          refine w_cS (As := [.ref 6, .int a0]) ok dX2_choose_68 iX11_at (lX2_55 rfl) (c_at s_6 (ltK hnn (by decide)) a0) (by omega) rfl (Nat.le_of_ble_eq_true rfl) ?_
          show WK K 0 0 71 [(0, .ref 124), (1, .int a0), (2, .int a1), (3, .int (F_X2_costOf a1 I J)), (4, .int s55.1)] [.int (atF (s55.2.1 6) 8 a0), .int s55.1] s55.2.1 s55.2.2 R n g
          refine w_icmp_ge (tgt := 113) ok dX2_choose_71 (by decide) (fun c4 => ?_) (fun c4 => ?_)
          · skip
            have eB : B_X2_choose_w55 rec a0 a1 I J s55 = .inr (s55.1, s55.2.1, s55.2.2) := by
              unfold B_X2_choose_w55; exact (if_pos c4).trans (rfl)
            refine w_loc [0, 1, 2, 3, 4] rfl ?_
            have kk := kx55 _ eB
            exact kk
          · skip
            refine w_aload_n ok dX2_choose_74 0 rfl ?_
            refine w_getR ok dX2_choose_75 (fX2_19 rfl) (congrArg Prod.fst s_124) rfl (r_124_3 ro) (ltK hnn (by decide)) ?_
            refine w_iload_n ok dX2_choose_78 1 rfl ?_
            refine w_iload ok dX2_choose_79 4 rfl ?_
            refine w_cS (As := [.ref 126, .int a0, .int s55.1]) ok dX2_choose_81 iX11_put (lX2_33 rfl) (c_put s_126 (ltK hnn (by decide)) a0 s55.1) (by omega) rfl (Nat.le_of_ble_eq_true rfl) ?_
            refine w_aload_n ok dX2_choose_84 0 rfl ?_
            refine w_iload_n ok dX2_choose_85 1 rfl ?_
            refine w_iconst (v := 1) ok dX2_choose_86 (by decide) ?_
            refine w_iadd ok dX2_choose_87 ?_
            refine w_iload_n ok dX2_choose_88 2 rfl ?_
            refine w_aload_n ok dX2_choose_89 0 rfl ?_
            refine w_getR ok dX2_choose_90 (fX2_22 rfl) (congrArg Prod.fst s_124) rfl (r_124_4 ro) (ltK hnn (by decide)) ?_
            refine w_iload_n ok dX2_choose_93 1 rfl ?_
            refine w_bipush (v := 6) ok dX2_choose_94 (by decide) ?_
            refine w_imul ok dX2_choose_96 ?_
            refine w_iload ok dX2_choose_97 4 rfl ?_
            refine w_iadd ok dX2_choose_99 ?_
            refine w_cS (As := [.ref 127, .int ((a0 * 6) + s55.1)]) ok dX2_choose_100 iX11_at (lX2_55 rfl) (c_at s_127 (ltK hnn (by decide)) ((a0 * 6) + s55.1)) (by omega) rfl (Nat.le_of_ble_eq_true rfl) ?_
            show WK K 0 0 103 [(0, .ref 124), (1, .int a0), (2, .int a1), (3, .int (F_X2_costOf a1 I J)), (4, .int s55.1)] [.int (atF ((putF s55.2.1 126 6 a0 s55.1) 127) 36 ((a0 * 6) + s55.1)), .int a1, .int (a0 + 1), .ref 124] (putF s55.2.1 126 6 a0 s55.1) s55.2.2 R n g
            refine w_ior ok dX2_choose_103 ?_
            refine w_cV (As := [.int (a0 + 1), .int (a1 ||| (atF ((putF s55.2.1 126 6 a0 s55.1) 127) 36 ((a0 * 6) + s55.1)))]) ok dX2_choose_104 iX2_choose (lX2_42 rfl) (rcv cls2 (congrArg Prod.fst s_124)) (ltK hnn (by decide)) (ih0 (a0 + 1) (a1 ||| (atF ((putF s55.2.1 126 6 a0 s55.1) 127) 36 ((a0 * 6) + s55.1))) (putF s55.2.1 126 6 a0 s55.1) s55.2.2 (hp2 c1 c2 c3 n55 s55 hs55 c4)) (by omega) rfl (Nat.le_of_ble_eq_true rfl) ?_
            show WK K 0 0 107 [(0, .ref 124), (1, .int a0), (2, .int a1), (3, .int (F_X2_costOf a1 I J)), (4, .int s55.1)] [] (S1_X2_choose rec a0 a1 I J s55) (S2_X2_choose rec a0 a1 I J s55) R n g
            refine w_iinc (v := s55.1 + 1) ok dX2_choose_107 4 rfl rfl (by decide) rfl ?_
            refine w_goto (tgt := 55) ok dX2_choose_110 (by decide) ?_
            have eB : B_X2_choose_w55 rec a0 a1 I J s55 = .inl ((s55.1 + 1), (S1_X2_choose rec a0 a1 I J s55), (S2_X2_choose rec a0 a1 I J s55)) := by
              unfold B_X2_choose_w55; exact (if_neg c4).trans (rfl)
            refine w_loc [1, 2, 3, 4, 0] rfl ?_
            have kk := kc55 _ eB
            exact kk
      · skip
        refine w_aload_n ok dX2_choose_35 1 rfl ?_
        refine w_iload_n ok dX2_choose_36 0 rfl ?_
        refine w_putI ok dX2_choose_37 (fwX2_15 rfl) (congrArg Prod.fst s_124) rfl (ltK hnn (by decide)) ?_
        refine w_aload_n ok dX2_choose_40 1 rfl ?_
        refine w_getR ok dX2_choose_41 (fX2_19 rfl) (congrArg Prod.fst s_124) rfl (r_124_3 ro) (ltK hnn (by decide)) ?_
        refine w_aload_n ok dX2_choose_44 1 rfl ?_
        refine w_getR ok dX2_choose_45 (fX2_9 rfl) (congrArg Prod.fst s_124) rfl (r_124_0 ro) (ltK hnn (by decide)) ?_
        refine w_cS (As := [.ref 126, .ref 125]) ok dX2_choose_48 iX11_copyRow (lX2_74 rfl) (c_copyRow s_126 s_125 (ltK hnn (by decide)) (ltK hnn (by decide))) (by omega) rfl (Nat.le_of_ble_eq_true rfl) ?_
        exact w_vret ok fin dX2_choose_51 rfl (by unfold FI_X2_choose FJ_X2_choose; simp only [if_pos c1]; simp only [if_neg c2]; simp only [if_neg c3]; exact Pd.i)
  · skip
    exact w_vret ok fin dX2_choose_14 rfl (by unfold FI_X2_choose FJ_X2_choose; simp only [if_neg c1]; exact Pd.i)
def RG_choose : Nat → Nat → Int32 → Int32 → SI → SJ → SI × SJ
  | 0 => fun _ _ _ => fun I J => (I, J)
  | k + 1 => fun t => match t with
    | _ => fun a0 a1 I J => (FI_X2_choose (RG_choose k) a0 a1 I J, FJ_X2_choose (RG_choose k) a0 a1 I J)
def HG_choose : Nat → Nat → Int32 → Int32 → SI → SJ → Prop
  | 0 => fun _ _ _ _ _ => False
  | k + 1 => fun t => match t with
    | _ => fun a0 a1 I J => H_X2_choose (HG_choose k) (RG_choose k) a0 a1 I J
set_option maxHeartbeats 1000000 in
set_option maxRecDepth 40000 in
theorem cr_choose {R : SR} {n g : Nat} (ro : RO R) (hnn : nK ≤ n) {dd : Nat} (hdd : 2 ≤ dd) : ∀ k : Nat, (∀ (a0 a1 : Int32) (I : SI) (J : SJ), HG_choose k 0 a0 a1 I J → MM (dd + k) 0 0 mX2_choose [.ref 124, .int a0, .int a1] I J R n g (Pd none (RG_choose k 0 a0 a1 I J).1 (RG_choose k 0 a0 a1 I J).2 R n g)) := by
  intro k
  induction k with
  | zero => exact fun _ _ _ _ h => h.elim
  | succ k ih =>
    have h0 := ih
    exact fun a0 a1 I J h => cs_X2_choose ro hnn a0 a1 (RG_choose k) (HG_choose k) (Nat.le_trans hdd (Nat.le_add_right dd k)) h0 h
def B_X12_sayings_w72 (rec : Nat → Int32 → SI → SJ → SI × SJ) (a0 : Int32) (I : SI) (J : SJ) (s72 : Int32 × SI) : (Int32 × SI) ⊕ (Int32 × SI) := if (s72.2 132 0) ≤ s72.1 then .inr (s72.1, s72.2) else .inl ((s72.1 + 1), (u2 s72.2 169 s72.1.toNatClampNeg (s72.2 168 s72.1.toNatClampNeg)))
def F_X12_sayings_w72 (rec : Nat → Int32 → SI → SJ → SI × SJ) (a0 : Int32) (I : SI) (J : SJ) (s0 : Int32 × SI) : Int32 × SI := (itW (B_X12_sayings_w72 rec a0 I J) 800 s0).getD s0
def B_X12_sayings_w72_2 (rec : Nat → Int32 → SI → SJ → SI × SJ) (a0 : Int32) (I : SI) (J : SJ) (s72 : Int32 × SI) : (Int32 × SI) ⊕ (Int32 × SI) := if (s72.2 132 0) ≤ s72.1 then .inr (s72.1, s72.2) else .inl ((s72.1 + 1), (u2 s72.2 169 s72.1.toNatClampNeg (s72.2 168 s72.1.toNatClampNeg)))
def F_X12_sayings_w72_2 (rec : Nat → Int32 → SI → SJ → SI × SJ) (a0 : Int32) (I : SI) (J : SJ) (s0 : Int32 × SI) : Int32 × SI := (itW (B_X12_sayings_w72_2 rec a0 I J) 800 s0).getD s0
def B_X12_sayings_w12 (rec : Nat → Int32 → SI → SJ → SI × SJ) (a0 : Int32) (I : SI) (J : SJ) (s12 : Int32 × SI × SJ) : (Int32 × SI × SJ) ⊕ (Int32 × SI × SJ) := if (s12.2.1 135 a0.toNatClampNeg) ≤ s12.1 then .inr (s12.1, s12.2.1, s12.2.2) else .inl ((s12.1 + 1), ((rec 0 (a0 + 1) (u2 s12.2.1 168 a0.toNatClampNeg s12.1) s12.2.2).1), ((rec 0 (a0 + 1) (u2 s12.2.1 168 a0.toNatClampNeg s12.1) s12.2.2).2))
def F_X12_sayings_w12 (rec : Nat → Int32 → SI → SJ → SI × SJ) (a0 : Int32) (I : SI) (J : SJ) (s0 : Int32 × SI × SJ) : Int32 × SI × SJ := (itW (B_X12_sayings_w12 rec a0 I J) 800 s0).getD s0
def FI_X12_sayings (rec : Nat → Int32 → SI → SJ → SI × SJ) (a0 : Int32) (I : SI) (J : SJ) : SI := if (I 132 0) ≤ a0 then (if (I 130 62) = (-1) then (F_X12_sayings_w72 rec a0 I J (0, (u2 I 130 62 (F_X12_costNow  I J)))).2 else (if (F_X12_costNow  I J) < (I 130 62) then (F_X12_sayings_w72_2 rec a0 I J (0, (u2 I 130 62 (F_X12_costNow  I J)))).2 else I)) else (F_X12_sayings_w12 rec a0 I J (0, I, J)).2.1
def FJ_X12_sayings (rec : Nat → Int32 → SI → SJ → SI × SJ) (a0 : Int32) (I : SI) (J : SJ) : SJ := if (I 132 0) ≤ a0 then (if (I 130 62) = (-1) then J else (if (F_X12_costNow  I J) < (I 130 62) then J else J)) else (F_X12_sayings_w12 rec a0 I J (0, I, J)).2.2
def H_X12_sayings (hrec : Nat → Int32 → SI → SJ → Prop) (rec : Nat → Int32 → SI → SJ → SI × SJ) (a0 : Int32) (I : SI) (J : SJ) : Prop := ((I 132 0) ≤ a0 → H_X12_costNow  I J) ∧ ((I 132 0) ≤ a0 → (I 130 62) = (-1) → (itW (B_X12_sayings_w72 rec a0 I J) 800 (0, (u2 I 130 62 (F_X12_costNow  I J)))).isSome = true) ∧ ((I 132 0) ≤ a0 → (I 130 62) = (-1) → ∀ (n72 : Nat) (s72 : Int32 × SI), wN (B_X12_sayings_w72 rec a0 I J) n72 (0, (u2 I 130 62 (F_X12_costNow  I J))) = some s72 → ¬ ((s72.2 132 0) ≤ s72.1) → inR s72.1 6) ∧ ((I 132 0) ≤ a0 → ¬ ((I 130 62) = (-1)) → (F_X12_costNow  I J) < (I 130 62) → (itW (B_X12_sayings_w72_2 rec a0 I J) 800 (0, (u2 I 130 62 (F_X12_costNow  I J)))).isSome = true) ∧ ((I 132 0) ≤ a0 → ¬ ((I 130 62) = (-1)) → (F_X12_costNow  I J) < (I 130 62) → ∀ (n72 : Nat) (s72 : Int32 × SI), wN (B_X12_sayings_w72_2 rec a0 I J) n72 (0, (u2 I 130 62 (F_X12_costNow  I J))) = some s72 → ¬ ((s72.2 132 0) ≤ s72.1) → inR s72.1 6) ∧ (¬ ((I 132 0) ≤ a0) → (itW (B_X12_sayings_w12 rec a0 I J) 800 (0, I, J)).isSome = true) ∧ (¬ ((I 132 0) ≤ a0) → ∀ (n12 : Nat) (s12 : Int32 × SI × SJ), wN (B_X12_sayings_w12 rec a0 I J) n12 (0, I, J) = some s12 → inR a0 12) ∧ (¬ ((I 132 0) ≤ a0) → ∀ (n12 : Nat) (s12 : Int32 × SI × SJ), wN (B_X12_sayings_w12 rec a0 I J) n12 (0, I, J) = some s12 → ¬ ((s12.2.1 135 a0.toNatClampNeg) ≤ s12.1) → inR a0 6) ∧ (¬ ((I 132 0) ≤ a0) → ∀ (n12 : Nat) (s12 : Int32 × SI × SJ), wN (B_X12_sayings_w12 rec a0 I J) n12 (0, I, J) = some s12 → ¬ ((s12.2.1 135 a0.toNatClampNeg) ≤ s12.1) → hrec 0 (a0 + 1) (u2 s12.2.1 168 a0.toNatClampNeg s12.1) s12.2.2)
set_option maxHeartbeats 1410000 in
set_option maxRecDepth 40000 in
theorem cs_X12_sayings {I : SI} {J : SJ} {R : SR} {n g : Nat} (ro : RM R) (hnn : nM ≤ n) (a0 : Int32)  (rec : Nat → Int32 → SI → SJ → SI × SJ) (hrec : Nat → Int32 → SI → SJ → Prop) {dd : Nat} (hdd : 2 ≤ dd) (ih0 : ∀ (a0 : Int32) (I : SI) (J : SJ), hrec 0 a0 I J → MM dd 0 0 mX12_sayings [.ref 130, .int a0] I J R n g (Pd none (rec 0 a0 I J).1 (rec 0 a0 I J).2 R n g))  (hp : H_X12_sayings hrec rec a0 I J) : MM (dd + 1) 0 0 mX12_sayings [.ref 130, .int a0] I J R n g (Pd none (FI_X12_sayings rec a0 I J) (FJ_X12_sayings rec a0 I J) R n g) := by
  refine MM.of (by decide) (Nat.le_of_ble_eq_true rfl) fun K ok fin => ?_
  show WK K 0 0 0 [(0, .ref 130), (1, .int a0)] [] I J R n g
  obtain ⟨hp1, hp2, hp3, hp4, hp5, hp6, hp7, hp8, hp9⟩ := hp
  refine w_iload_n ok dX12_sayings_0 1 rfl ?_
  refine w_aload_n ok dX12_sayings_1 0 rfl ?_
  refine w_getR ok dX12_sayings_2 (fX12_13 rfl) (congrArg Prod.fst s_130) rfl (r_130_3 ro) (ltM hnn (by decide)) ?_
  refine w_iconst (v := 0) ok dX12_sayings_5 (by decide) ?_
  refine x_iald (q := 0) ok dX12_sayings_6 s_132 (by decide) (by decide) (ltM hnn (by decide)) ?_
  refine w_icmp_ge (tgt := 43) ok dX12_sayings_7 (by decide) (fun c1 => ?_) (fun c1 => ?_)
  · skip
    refine w_aload_n ok dX12_sayings_43 0 rfl ?_
    refine w_cV (As := []) ok dX12_sayings_44 iX12_costNow (lX12_485 rfl) (rcv cls12 (congrArg Prod.fst s_130)) (ltM hnn (by decide)) (c_X12_costNow ro hnn   (hp1 c1)) (by omega) rfl (Nat.le_of_ble_eq_true rfl) ?_
    refine w_istore_n ok dX12_sayings_47 rfl (by decide) rfl ?_
    refine w_aload_n ok dX12_sayings_48 1 rfl ?_
    refine w_getI ok dX12_sayings_49 (fX12_488 rfl) (congrArg Prod.fst s_130) rfl (ltM hnn (by decide)) ?_
    refine w_iconst (v := (-1)) ok dX12_sayings_52 (by decide) ?_
    refine w_icmp_eq (tgt := 65) ok dX12_sayings_53 (by decide) (fun c2 => ?_) (fun c2 => ?_)
    · skip
      refine w_aload_n ok dX12_sayings_65 1 rfl ?_
      refine w_iload_n ok dX12_sayings_66 0 rfl ?_
      refine w_putI ok dX12_sayings_67 (fwX12_488 rfl) (congrArg Prod.fst s_130) rfl (ltM hnn (by decide)) ?_
      refine w_iconst (v := 0) ok dX12_sayings_70 (by decide) ?_
      refine w_istore_n ok dX12_sayings_71 rfl (by decide) rfl ?_
      refine w_loc [2, 3, 1, 0] rfl ?_
      refine loop_w (fun (s72 : Int32 × SI) => WK K 0 0 72 [(0, .ref 130), (1, .int a0), (2, .int (F_X12_costNow  I J)), (3, .int s72.1)] [] s72.2 J R n g) (fun (s72 : Int32 × SI) => WK K 0 0 100 [(0, .ref 130), (1, .int a0), (2, .int (F_X12_costNow  I J)), (3, .int s72.1)] [] s72.2 J R n g) (B_X12_sayings_w72 rec a0 I J) 800 (0, (u2 I 130 62 (F_X12_costNow  I J))) (F_X12_sayings_w72 rec a0 I J (0, (u2 I 130 62 (F_X12_costNow  I J)))) (itW_some (hp2 c1 c2)) ?_ ?_
      · show WK K 0 0 100 [(0, .ref 130), (1, .int a0), (2, .int (F_X12_costNow  I J)), (3, .int ((F_X12_sayings_w72 rec a0 I J (0, (u2 I 130 62 (F_X12_costNow  I J)))).1))] [] ((F_X12_sayings_w72 rec a0 I J (0, (u2 I 130 62 (F_X12_costNow  I J)))).2) J R n g
        exact w_vret ok fin dX12_sayings_100 rfl (by unfold FI_X12_sayings FJ_X12_sayings; simp only [if_pos c1]; simp only [if_pos c2]; exact Pd.i)
      · intro n72 s72 hs72 kc72 kx72
        show WK K 0 0 72 [(0, .ref 130), (1, .int a0), (2, .int (F_X12_costNow  I J)), (3, .int s72.1)] [] s72.2 J R n g
        refine w_iload_n ok dX12_sayings_72 3 rfl ?_
        refine w_aload_n ok dX12_sayings_73 0 rfl ?_
        refine w_getR ok dX12_sayings_74 (fX12_13 rfl) (congrArg Prod.fst s_130) rfl (r_130_3 ro) (ltM hnn (by decide)) ?_
        refine w_iconst (v := 0) ok dX12_sayings_77 (by decide) ?_
        refine x_iald (q := 0) ok dX12_sayings_78 s_132 (by decide) (by decide) (ltM hnn (by decide)) ?_
        refine w_icmp_ge (tgt := 100) ok dX12_sayings_79 (by decide) (fun c3 => ?_) (fun c3 => ?_)
        · skip
          have eB : B_X12_sayings_w72 rec a0 I J s72 = .inr (s72.1, s72.2) := by
            unfold B_X12_sayings_w72; exact (if_pos c3).trans (rfl)
          refine w_loc [0, 1, 2, 3] rfl ?_
          have kk := kx72 _ eB
          exact kk
        · skip
          refine w_aload_n ok dX12_sayings_82 0 rfl ?_
          refine w_getR ok dX12_sayings_83 (fX12_135 rfl) (congrArg Prod.fst s_130) rfl (r_130_61 ro) (ltM hnn (by decide)) ?_
          refine w_iload_n ok dX12_sayings_86 3 rfl ?_
          refine w_aload_n ok dX12_sayings_87 0 rfl ?_
          refine w_getR ok dX12_sayings_88 (fX12_132 rfl) (congrArg Prod.fst s_130) rfl (r_130_60 ro) (ltM hnn (by decide)) ?_
          refine w_iload_n ok dX12_sayings_91 3 rfl ?_
          refine x_iald (q := s72.1.toNatClampNeg) ok dX12_sayings_92 s_168 (hp3 c1 c2 n72 s72 hs72 c3) (by decide) (ltM hnn (by decide)) ?_
          refine x_iast (q := s72.1.toNatClampNeg) ok dX12_sayings_93 s_169 (hp3 c1 c2 n72 s72 hs72 c3) (by decide) (ltM hnn (by decide)) ?_
          refine w_iinc (v := s72.1 + 1) ok dX12_sayings_94 3 rfl rfl (by decide) rfl ?_
          refine w_goto (tgt := 72) ok dX12_sayings_97 (by decide) ?_
          have eB : B_X12_sayings_w72 rec a0 I J s72 = .inl ((s72.1 + 1), (u2 s72.2 169 s72.1.toNatClampNeg (s72.2 168 s72.1.toNatClampNeg))) := by
            unfold B_X12_sayings_w72; exact (if_neg c3).trans (rfl)
          refine w_loc [1, 2, 3, 0] rfl ?_
          have kk := kc72 _ eB
          exact kk
    · skip
      refine w_iload_n ok dX12_sayings_56 0 rfl ?_
      refine w_aload_n ok dX12_sayings_57 1 rfl ?_
      refine w_getI ok dX12_sayings_58 (fX12_488 rfl) (congrArg Prod.fst s_130) rfl (ltM hnn (by decide)) ?_
      refine w_icmp_lt (tgt := 65) ok dX12_sayings_61 (by decide) (fun c4 => ?_) (fun c4 => ?_)
      · skip
        refine w_aload_n ok dX12_sayings_65 1 rfl ?_
        refine w_iload_n ok dX12_sayings_66 0 rfl ?_
        refine w_putI ok dX12_sayings_67 (fwX12_488 rfl) (congrArg Prod.fst s_130) rfl (ltM hnn (by decide)) ?_
        refine w_iconst (v := 0) ok dX12_sayings_70 (by decide) ?_
        refine w_istore_n ok dX12_sayings_71 rfl (by decide) rfl ?_
        refine w_loc [2, 3, 1, 0] rfl ?_
        refine loop_w (fun (s72 : Int32 × SI) => WK K 0 0 72 [(0, .ref 130), (1, .int a0), (2, .int (F_X12_costNow  I J)), (3, .int s72.1)] [] s72.2 J R n g) (fun (s72 : Int32 × SI) => WK K 0 0 100 [(0, .ref 130), (1, .int a0), (2, .int (F_X12_costNow  I J)), (3, .int s72.1)] [] s72.2 J R n g) (B_X12_sayings_w72_2 rec a0 I J) 800 (0, (u2 I 130 62 (F_X12_costNow  I J))) (F_X12_sayings_w72_2 rec a0 I J (0, (u2 I 130 62 (F_X12_costNow  I J)))) (itW_some (hp4 c1 c2 c4)) ?_ ?_
        · show WK K 0 0 100 [(0, .ref 130), (1, .int a0), (2, .int (F_X12_costNow  I J)), (3, .int ((F_X12_sayings_w72_2 rec a0 I J (0, (u2 I 130 62 (F_X12_costNow  I J)))).1))] [] ((F_X12_sayings_w72_2 rec a0 I J (0, (u2 I 130 62 (F_X12_costNow  I J)))).2) J R n g
          exact w_vret ok fin dX12_sayings_100 rfl (by unfold FI_X12_sayings FJ_X12_sayings; simp only [if_pos c1]; simp only [if_neg c2]; simp only [if_pos c4]; exact Pd.i)
        · intro n72 s72 hs72 kc72 kx72
          show WK K 0 0 72 [(0, .ref 130), (1, .int a0), (2, .int (F_X12_costNow  I J)), (3, .int s72.1)] [] s72.2 J R n g
          refine w_iload_n ok dX12_sayings_72 3 rfl ?_
          refine w_aload_n ok dX12_sayings_73 0 rfl ?_
          refine w_getR ok dX12_sayings_74 (fX12_13 rfl) (congrArg Prod.fst s_130) rfl (r_130_3 ro) (ltM hnn (by decide)) ?_
          refine w_iconst (v := 0) ok dX12_sayings_77 (by decide) ?_
          refine x_iald (q := 0) ok dX12_sayings_78 s_132 (by decide) (by decide) (ltM hnn (by decide)) ?_
          refine w_icmp_ge (tgt := 100) ok dX12_sayings_79 (by decide) (fun c5 => ?_) (fun c5 => ?_)
          · skip
            have eB : B_X12_sayings_w72_2 rec a0 I J s72 = .inr (s72.1, s72.2) := by
              unfold B_X12_sayings_w72_2; exact (if_pos c5).trans (rfl)
            refine w_loc [0, 1, 2, 3] rfl ?_
            have kk := kx72 _ eB
            exact kk
          · skip
            refine w_aload_n ok dX12_sayings_82 0 rfl ?_
            refine w_getR ok dX12_sayings_83 (fX12_135 rfl) (congrArg Prod.fst s_130) rfl (r_130_61 ro) (ltM hnn (by decide)) ?_
            refine w_iload_n ok dX12_sayings_86 3 rfl ?_
            refine w_aload_n ok dX12_sayings_87 0 rfl ?_
            refine w_getR ok dX12_sayings_88 (fX12_132 rfl) (congrArg Prod.fst s_130) rfl (r_130_60 ro) (ltM hnn (by decide)) ?_
            refine w_iload_n ok dX12_sayings_91 3 rfl ?_
            refine x_iald (q := s72.1.toNatClampNeg) ok dX12_sayings_92 s_168 (hp5 c1 c2 c4 n72 s72 hs72 c5) (by decide) (ltM hnn (by decide)) ?_
            refine x_iast (q := s72.1.toNatClampNeg) ok dX12_sayings_93 s_169 (hp5 c1 c2 c4 n72 s72 hs72 c5) (by decide) (ltM hnn (by decide)) ?_
            refine w_iinc (v := s72.1 + 1) ok dX12_sayings_94 3 rfl rfl (by decide) rfl ?_
            refine w_goto (tgt := 72) ok dX12_sayings_97 (by decide) ?_
            have eB : B_X12_sayings_w72_2 rec a0 I J s72 = .inl ((s72.1 + 1), (u2 s72.2 169 s72.1.toNatClampNeg (s72.2 168 s72.1.toNatClampNeg))) := by
              unfold B_X12_sayings_w72_2; exact (if_neg c5).trans (rfl)
            refine w_loc [1, 2, 3, 0] rfl ?_
            have kk := kc72 _ eB
            exact kk
      · skip
        exact w_vret ok fin dX12_sayings_64 rfl (by unfold FI_X12_sayings FJ_X12_sayings; simp only [if_pos c1]; simp only [if_neg c2]; simp only [if_neg c4]; exact Pd.i)
  · skip
    refine w_iconst (v := 0) ok dX12_sayings_10 (by decide) ?_
    refine w_istore_n ok dX12_sayings_11 rfl (by decide) rfl ?_
    refine w_loc [1, 2, 0] rfl ?_
    refine loop_w (fun (s12 : Int32 × SI × SJ) => WK K 0 0 12 [(0, .ref 130), (1, .int a0), (2, .int s12.1)] [] s12.2.1 s12.2.2 R n g) (fun (s12 : Int32 × SI × SJ) => WK K 0 0 42 [(0, .ref 130), (1, .int a0), (2, .int s12.1)] [] s12.2.1 s12.2.2 R n g) (B_X12_sayings_w12 rec a0 I J) 800 (0, I, J) (F_X12_sayings_w12 rec a0 I J (0, I, J)) (itW_some (hp6 c1)) ?_ ?_
    · show WK K 0 0 42 [(0, .ref 130), (1, .int a0), (2, .int ((F_X12_sayings_w12 rec a0 I J (0, I, J)).1))] [] ((F_X12_sayings_w12 rec a0 I J (0, I, J)).2.1) ((F_X12_sayings_w12 rec a0 I J (0, I, J)).2.2) R n g
      exact w_vret ok fin dX12_sayings_42 rfl (by unfold FI_X12_sayings FJ_X12_sayings; simp only [if_neg c1]; exact Pd.i)
    · intro n12 s12 hs12 kc12 kx12
      show WK K 0 0 12 [(0, .ref 130), (1, .int a0), (2, .int s12.1)] [] s12.2.1 s12.2.2 R n g
      refine w_iload_n ok dX12_sayings_12 2 rfl ?_
      refine w_aload_n ok dX12_sayings_13 0 rfl ?_
      refine w_getR ok dX12_sayings_14 (fX12_22 rfl) (congrArg Prod.fst s_130) rfl (r_130_6 ro) (ltM hnn (by decide)) ?_
      refine w_iload_n ok dX12_sayings_17 1 rfl ?_
      refine x_iald (q := a0.toNatClampNeg) ok dX12_sayings_18 s_135 (hp7 c1 n12 s12 hs12) (by decide) (ltM hnn (by decide)) ?_
      refine w_icmp_ge (tgt := 42) ok dX12_sayings_19 (by decide) (fun c6 => ?_) (fun c6 => ?_)
      · skip
        have eB : B_X12_sayings_w12 rec a0 I J s12 = .inr (s12.1, s12.2.1, s12.2.2) := by
          unfold B_X12_sayings_w12; exact (if_pos c6).trans (rfl)
        refine w_loc [0, 1, 2] rfl ?_
        have kk := kx12 _ eB
        exact kk
      · skip
        refine w_aload_n ok dX12_sayings_22 0 rfl ?_
        refine w_getR ok dX12_sayings_23 (fX12_132 rfl) (congrArg Prod.fst s_130) rfl (r_130_60 ro) (ltM hnn (by decide)) ?_
        refine w_iload_n ok dX12_sayings_26 1 rfl ?_
        refine w_iload_n ok dX12_sayings_27 2 rfl ?_
        refine x_iast (q := a0.toNatClampNeg) ok dX12_sayings_28 s_168 (hp8 c1 n12 s12 hs12 c6) (by decide) (ltM hnn (by decide)) ?_
        refine w_aload_n ok dX12_sayings_29 0 rfl ?_
        refine w_iload_n ok dX12_sayings_30 1 rfl ?_
        refine w_iconst (v := 1) ok dX12_sayings_31 (by decide) ?_
        refine w_iadd ok dX12_sayings_32 ?_
        refine w_cV (As := [.int (a0 + 1)]) ok dX12_sayings_33 iX12_sayings (lX12_482 rfl) (rcv cls12 (congrArg Prod.fst s_130)) (ltM hnn (by decide)) (ih0 (a0 + 1) (u2 s12.2.1 168 a0.toNatClampNeg s12.1) s12.2.2 (hp9 c1 n12 s12 hs12 c6)) (by omega) rfl (Nat.le_of_ble_eq_true rfl) ?_
        refine w_iinc (v := s12.1 + 1) ok dX12_sayings_36 2 rfl rfl (by decide) rfl ?_
        refine w_goto (tgt := 12) ok dX12_sayings_39 (by decide) ?_
        have eB : B_X12_sayings_w12 rec a0 I J s12 = .inl ((s12.1 + 1), ((rec 0 (a0 + 1) (u2 s12.2.1 168 a0.toNatClampNeg s12.1) s12.2.2).1), ((rec 0 (a0 + 1) (u2 s12.2.1 168 a0.toNatClampNeg s12.1) s12.2.2).2)) := by
          unfold B_X12_sayings_w12; exact (if_neg c6).trans (rfl)
        refine w_loc [1, 2, 0] rfl ?_
        have kk := kc12 _ eB
        exact kk
def RG_sayings : Nat → Nat → Int32 → SI → SJ → SI × SJ
  | 0 => fun _ _ => fun I J => (I, J)
  | k + 1 => fun t => match t with
    | _ => fun a0 I J => (FI_X12_sayings (RG_sayings k) a0 I J, FJ_X12_sayings (RG_sayings k) a0 I J)
def HG_sayings : Nat → Nat → Int32 → SI → SJ → Prop
  | 0 => fun _ _ _ _ => False
  | k + 1 => fun t => match t with
    | _ => fun a0 I J => H_X12_sayings (HG_sayings k) (RG_sayings k) a0 I J
set_option maxHeartbeats 1000000 in
set_option maxRecDepth 40000 in
theorem cr_sayings {R : SR} {n g : Nat} (ro : RM R) (hnn : nM ≤ n) {dd : Nat} (hdd : 2 ≤ dd) : ∀ k : Nat, (∀ (a0 : Int32) (I : SI) (J : SJ), HG_sayings k 0 a0 I J → MM (dd + k) 0 0 mX12_sayings [.ref 130, .int a0] I J R n g (Pd none (RG_sayings k 0 a0 I J).1 (RG_sayings k 0 a0 I J).2 R n g)) := by
  intro k
  induction k with
  | zero => exact fun _ _ _ h => h.elim
  | succ k ih =>
    have h0 := ih
    exact fun a0 I J h => cs_X12_sayings ro hnn a0 (RG_sayings k) (HG_sayings k) (Nat.le_trans hdd (Nat.le_add_right dd k)) h0 h
def S4_X12_rows (rec : Nat → Int32 → Int32 → SI → SJ → SI × SJ) (a0 : Int32) (a1 : Int32) (I : SI) (J : SJ) (s69 : Int32 × SI) : SI := u2 s69.2 162 ((8 : Int32) + (s69.2 171 s69.1.toNatClampNeg)).toNatClampNeg ((s69.2 154 0) + s69.1)
def B_X12_rows_w69 (rec : Nat → Int32 → Int32 → SI → SJ → SI × SJ) (a0 : Int32) (a1 : Int32) (I : SI) (J : SJ) (s69 : Int32 × SI) : (Int32 × SI) ⊕ (Int32 × SI) := if (s69.2 130 66) ≤ s69.1 then .inr (s69.1, s69.2) else .inl ((s69.1 + 1), (S4_X12_rows rec a0 a1 I J s69))
def F_X12_rows_w69 (rec : Nat → Int32 → Int32 → SI → SJ → SI × SJ) (a0 : Int32) (a1 : Int32) (I : SI) (J : SJ) (s0 : Int32 × SI) : Int32 × SI := (itW (B_X12_rows_w69 rec a0 a1 I J) 800 s0).getD s0
def S1_X12_rows (rec : Nat → Int32 → Int32 → SI → SJ → SI × SJ) (a0 : Int32) (a1 : Int32) (I : SI) (J : SJ) : SI := FI_X12_goesOn 20 ((F_X12_rows_w69 rec a0 a1 I J (0, (FI_X12_copies 1 0 I J))).2) J
def S2_X12_rows (rec : Nat → Int32 → Int32 → SI → SJ → SI × SJ) (a0 : Int32) (a1 : Int32) (I : SI) (J : SJ) : SJ := FJ_X12_goesOn 20 ((F_X12_rows_w69 rec a0 a1 I J (0, (FI_X12_copies 1 0 I J))).2) J
def S3_X12_rows (rec : Nat → Int32 → Int32 → SI → SJ → SI × SJ) (a0 : Int32) (a1 : Int32) (I : SI) (J : SJ) : Int32 := (F_X12_trouble 1 (S1_X12_rows rec a0 a1 I J) (S2_X12_rows rec a0 a1 I J)) - (F_X12_trouble 0 (S1_X12_rows rec a0 a1 I J) (S2_X12_rows rec a0 a1 I J))
def B_X12_rows_w148 (rec : Nat → Int32 → Int32 → SI → SJ → SI × SJ) (a0 : Int32) (a1 : Int32) (I : SI) (J : SJ) (s148 : Int32 × SI) : (Int32 × SI) ⊕ (Int32 × SI) := if (s148.2 130 66) ≤ s148.1 then .inr (s148.1, s148.2) else .inl ((s148.1 + 1), (u2 s148.2 172 s148.1.toNatClampNeg (s148.2 171 s148.1.toNatClampNeg)))
def F_X12_rows_w148 (rec : Nat → Int32 → Int32 → SI → SJ → SI × SJ) (a0 : Int32) (a1 : Int32) (I : SI) (J : SJ) (s0 : Int32 × SI) : Int32 × SI := (itW (B_X12_rows_w148 rec a0 a1 I J) 800 s0).getD s0
def B_X12_rows_w148_2 (rec : Nat → Int32 → Int32 → SI → SJ → SI × SJ) (a0 : Int32) (a1 : Int32) (I : SI) (J : SJ) (s148 : Int32 × SI) : (Int32 × SI) ⊕ (Int32 × SI) := if (s148.2 130 66) ≤ s148.1 then .inr (s148.1, s148.2) else .inl ((s148.1 + 1), (u2 s148.2 172 s148.1.toNatClampNeg (s148.2 171 s148.1.toNatClampNeg)))
def F_X12_rows_w148_2 (rec : Nat → Int32 → Int32 → SI → SJ → SI × SJ) (a0 : Int32) (a1 : Int32) (I : SI) (J : SJ) (s0 : Int32 × SI) : Int32 × SI := (itW (B_X12_rows_w148_2 rec a0 a1 I J) 800 s0).getD s0
def S5_X12_rows (rec : Nat → Int32 → Int32 → SI → SJ → SI × SJ) (a0 : Int32) (a1 : Int32) (I : SI) (J : SJ) (s10 : Int32 × SI × SJ) : SI := (rec 0 (a0 + 1) (a1 ||| ((1 : Int32) <<< (s10.1 &&& 31))) (u2 s10.2.1 171 a0.toNatClampNeg (s10.2.1 170 s10.1.toNatClampNeg)) s10.2.2).1
def S6_X12_rows (rec : Nat → Int32 → Int32 → SI → SJ → SI × SJ) (a0 : Int32) (a1 : Int32) (I : SI) (J : SJ) (s10 : Int32 × SI × SJ) : SJ := (rec 0 (a0 + 1) (a1 ||| ((1 : Int32) <<< (s10.1 &&& 31))) (u2 s10.2.1 171 a0.toNatClampNeg (s10.2.1 170 s10.1.toNatClampNeg)) s10.2.2).2
def B_X12_rows_w10 (rec : Nat → Int32 → Int32 → SI → SJ → SI × SJ) (a0 : Int32) (a1 : Int32) (I : SI) (J : SJ) (s10 : Int32 × SI × SJ) : (Int32 × SI × SJ) ⊕ (Int32 × SI × SJ) := if (s10.2.1 130 66) ≤ s10.1 then .inr (s10.1, s10.2.1, s10.2.2) else (if ((a1 >>> (s10.1 &&& 31)) &&& 1) = 1 then .inl ((s10.1 + 1), s10.2.1, s10.2.2) else .inl ((s10.1 + 1), (S5_X12_rows rec a0 a1 I J s10), (S6_X12_rows rec a0 a1 I J s10)))
def F_X12_rows_w10 (rec : Nat → Int32 → Int32 → SI → SJ → SI × SJ) (a0 : Int32) (a1 : Int32) (I : SI) (J : SJ) (s0 : Int32 × SI × SJ) : Int32 × SI × SJ := (itW (B_X12_rows_w10 rec a0 a1 I J) 800 s0).getD s0
def FI_X12_rows (rec : Nat → Int32 → Int32 → SI → SJ → SI × SJ) (a0 : Int32) (a1 : Int32) (I : SI) (J : SJ) : SI := if (I 130 66) ≤ a0 then (if (((S1_X12_rows rec a0 a1 I J)) 130 67) = (-1) then (F_X12_rows_w148 rec a0 a1 I J (0, (u2 (S1_X12_rows rec a0 a1 I J) 130 67 (S3_X12_rows rec a0 a1 I J)))).2 else (if (S3_X12_rows rec a0 a1 I J) < (((S1_X12_rows rec a0 a1 I J)) 130 67) then (F_X12_rows_w148_2 rec a0 a1 I J (0, (u2 (S1_X12_rows rec a0 a1 I J) 130 67 (S3_X12_rows rec a0 a1 I J)))).2 else (S1_X12_rows rec a0 a1 I J))) else (F_X12_rows_w10 rec a0 a1 I J (0, I, J)).2.1
def FJ_X12_rows (rec : Nat → Int32 → Int32 → SI → SJ → SI × SJ) (a0 : Int32) (a1 : Int32) (I : SI) (J : SJ) : SJ := if (I 130 66) ≤ a0 then (if (((S1_X12_rows rec a0 a1 I J)) 130 67) = (-1) then (S2_X12_rows rec a0 a1 I J) else (if (S3_X12_rows rec a0 a1 I J) < (((S1_X12_rows rec a0 a1 I J)) 130 67) then (S2_X12_rows rec a0 a1 I J) else (S2_X12_rows rec a0 a1 I J))) else (F_X12_rows_w10 rec a0 a1 I J (0, I, J)).2.2
def H_X12_rows (hrec : Nat → Int32 → Int32 → SI → SJ → Prop) (rec : Nat → Int32 → Int32 → SI → SJ → SI × SJ) (a0 : Int32) (a1 : Int32) (I : SI) (J : SJ) : Prop := ((I 130 66) ≤ a0 → H_X12_copies 1 0 I J) ∧ ((I 130 66) ≤ a0 → (itW (B_X12_rows_w69 rec a0 a1 I J) 800 (0, (FI_X12_copies 1 0 I J))).isSome = true) ∧ ((I 130 66) ≤ a0 → H_X12_goesOn 20 ((F_X12_rows_w69 rec a0 a1 I J (0, (FI_X12_copies 1 0 I J))).2) J) ∧ ((I 130 66) ≤ a0 → H_X12_trouble 1 (S1_X12_rows rec a0 a1 I J) (S2_X12_rows rec a0 a1 I J)) ∧ ((I 130 66) ≤ a0 → H_X12_trouble 0 (S1_X12_rows rec a0 a1 I J) (S2_X12_rows rec a0 a1 I J)) ∧ ((I 130 66) ≤ a0 → (((S1_X12_rows rec a0 a1 I J)) 130 67) = (-1) → (itW (B_X12_rows_w148 rec a0 a1 I J) 800 (0, (u2 (S1_X12_rows rec a0 a1 I J) 130 67 (S3_X12_rows rec a0 a1 I J)))).isSome = true) ∧ ((I 130 66) ≤ a0 → (((S1_X12_rows rec a0 a1 I J)) 130 67) = (-1) → ∀ (n148 : Nat) (s148 : Int32 × SI), wN (B_X12_rows_w148 rec a0 a1 I J) n148 (0, (u2 (S1_X12_rows rec a0 a1 I J) 130 67 (S3_X12_rows rec a0 a1 I J))) = some s148 → ¬ ((s148.2 130 66) ≤ s148.1) → inR s148.1 4) ∧ ((I 130 66) ≤ a0 → ¬ ((((S1_X12_rows rec a0 a1 I J)) 130 67) = (-1)) → (S3_X12_rows rec a0 a1 I J) < (((S1_X12_rows rec a0 a1 I J)) 130 67) → (itW (B_X12_rows_w148_2 rec a0 a1 I J) 800 (0, (u2 (S1_X12_rows rec a0 a1 I J) 130 67 (S3_X12_rows rec a0 a1 I J)))).isSome = true) ∧ ((I 130 66) ≤ a0 → ¬ ((((S1_X12_rows rec a0 a1 I J)) 130 67) = (-1)) → (S3_X12_rows rec a0 a1 I J) < (((S1_X12_rows rec a0 a1 I J)) 130 67) → ∀ (n148 : Nat) (s148 : Int32 × SI), wN (B_X12_rows_w148_2 rec a0 a1 I J) n148 (0, (u2 (S1_X12_rows rec a0 a1 I J) 130 67 (S3_X12_rows rec a0 a1 I J))) = some s148 → ¬ ((s148.2 130 66) ≤ s148.1) → inR s148.1 4) ∧ ((I 130 66) ≤ a0 → ∀ (n69 : Nat) (s69 : Int32 × SI), wN (B_X12_rows_w69 rec a0 a1 I J) n69 (0, (FI_X12_copies 1 0 I J)) = some s69 → ¬ ((s69.2 130 66) ≤ s69.1) → inR s69.1 4) ∧ ((I 130 66) ≤ a0 → ∀ (n69 : Nat) (s69 : Int32 × SI), wN (B_X12_rows_w69 rec a0 a1 I J) n69 (0, (FI_X12_copies 1 0 I J)) = some s69 → ¬ ((s69.2 130 66) ≤ s69.1) → inR ((8 : Int32) + (s69.2 171 s69.1.toNatClampNeg)) 184) ∧ (¬ ((I 130 66) ≤ a0) → (itW (B_X12_rows_w10 rec a0 a1 I J) 800 (0, I, J)).isSome = true) ∧ (¬ ((I 130 66) ≤ a0) → ∀ (n10 : Nat) (s10 : Int32 × SI × SJ), wN (B_X12_rows_w10 rec a0 a1 I J) n10 (0, I, J) = some s10 → ¬ ((s10.2.1 130 66) ≤ s10.1) → ¬ (((a1 >>> (s10.1 &&& 31)) &&& 1) = 1) → inR s10.1 4) ∧ (¬ ((I 130 66) ≤ a0) → ∀ (n10 : Nat) (s10 : Int32 × SI × SJ), wN (B_X12_rows_w10 rec a0 a1 I J) n10 (0, I, J) = some s10 → ¬ ((s10.2.1 130 66) ≤ s10.1) → ¬ (((a1 >>> (s10.1 &&& 31)) &&& 1) = 1) → inR a0 4) ∧ (¬ ((I 130 66) ≤ a0) → ∀ (n10 : Nat) (s10 : Int32 × SI × SJ), wN (B_X12_rows_w10 rec a0 a1 I J) n10 (0, I, J) = some s10 → ¬ ((s10.2.1 130 66) ≤ s10.1) → ¬ (((a1 >>> (s10.1 &&& 31)) &&& 1) = 1) → hrec 0 (a0 + 1) (a1 ||| ((1 : Int32) <<< (s10.1 &&& 31))) (u2 s10.2.1 171 a0.toNatClampNeg (s10.2.1 170 s10.1.toNatClampNeg)) s10.2.2)
set_option maxHeartbeats 2150000 in
set_option maxRecDepth 40000 in
theorem cs_X12_rows {I : SI} {J : SJ} {R : SR} {n g : Nat} (ro : RM R) (hnn : nM ≤ n) (a0 : Int32) (a1 : Int32)  (rec : Nat → Int32 → Int32 → SI → SJ → SI × SJ) (hrec : Nat → Int32 → Int32 → SI → SJ → Prop) {dd : Nat} (hdd : 8 ≤ dd) (ih0 : ∀ (a0 a1 : Int32) (I : SI) (J : SJ), hrec 0 a0 a1 I J → MM dd 0 0 mX12_rows [.ref 130, .int a0, .int a1] I J R n g (Pd none (rec 0 a0 a1 I J).1 (rec 0 a0 a1 I J).2 R n g))  (hp : H_X12_rows hrec rec a0 a1 I J) : MM (dd + 1) 0 0 mX12_rows [.ref 130, .int a0, .int a1] I J R n g (Pd none (FI_X12_rows rec a0 a1 I J) (FJ_X12_rows rec a0 a1 I J) R n g) := by
  refine MM.of (by decide) (Nat.le_of_ble_eq_true rfl) fun K ok fin => ?_
  show WK K 0 0 0 [(0, .ref 130), (1, .int a0), (2, .int a1)] [] I J R n g
  obtain ⟨hp1, hp2, hp3, hp4, hp5, hp6, hp7, hp8, hp9, hp10, hp11, hp12, hp13, hp14, hp15⟩ := hp
  refine w_iload_n ok dX12_rows_0 1 rfl ?_
  refine w_aload_n ok dX12_rows_1 0 rfl ?_
  refine w_getI ok dX12_rows_2 (fX12_491 rfl) (congrArg Prod.fst s_130) rfl (ltM hnn (by decide)) ?_
  refine w_icmp_ge (tgt := 61) ok dX12_rows_5 (by decide) (fun c1 => ?_) (fun c1 => ?_)
  · skip
    refine w_aload_n ok dX12_rows_61 0 rfl ?_
    refine w_iconst (v := 1) ok dX12_rows_62 (by decide) ?_
    refine w_iconst (v := 0) ok dX12_rows_63 (by decide) ?_
    refine w_cV (As := [.int 1, .int 0]) ok dX12_rows_64 iX12_copies (lX12_444 rfl) (rcv cls12 (congrArg Prod.fst s_130)) (ltM hnn (by decide)) (c_X12_copies ro hnn 1 0  (hp1 c1)) (by omega) rfl (Nat.le_of_ble_eq_true rfl) ?_
    refine w_iconst (v := 0) ok dX12_rows_67 (by decide) ?_
    refine w_istore_n ok dX12_rows_68 rfl (by decide) rfl ?_
    refine w_loc [1, 2, 3, 0] rfl ?_
    refine loop_w (fun (s69 : Int32 × SI) => WK K 0 0 69 [(0, .ref 130), (1, .int a0), (2, .int a1), (3, .int s69.1)] [] s69.2 J R n g) (fun (s69 : Int32 × SI) => WK K 0 0 105 [(0, .ref 130), (1, .int a0), (2, .int a1), (3, .int s69.1)] [] s69.2 J R n g) (B_X12_rows_w69 rec a0 a1 I J) 800 (0, (FI_X12_copies 1 0 I J)) (F_X12_rows_w69 rec a0 a1 I J (0, (FI_X12_copies 1 0 I J))) (itW_some (hp2 c1)) ?_ ?_
    · show WK K 0 0 105 [(0, .ref 130), (1, .int a0), (2, .int a1), (3, .int ((F_X12_rows_w69 rec a0 a1 I J (0, (FI_X12_copies 1 0 I J))).1))] [] ((F_X12_rows_w69 rec a0 a1 I J (0, (FI_X12_copies 1 0 I J))).2) J R n g
      refine w_aload_n ok dX12_rows_105 0 rfl ?_
      refine w_bipush (v := 20) ok dX12_rows_106 (by decide) ?_
      refine w_cV (As := [.int 20]) ok dX12_rows_108 iX12_goesOn (lX12_447 rfl) (rcv cls12 (congrArg Prod.fst s_130)) (ltM hnn (by decide)) (c_X12_goesOn ro hnn 20  (hp3 c1)) (by omega) rfl (Nat.le_of_ble_eq_true rfl) ?_
      show WK K 0 0 111 [(0, .ref 130), (1, .int a0), (2, .int a1), (3, .int ((F_X12_rows_w69 rec a0 a1 I J (0, (FI_X12_copies 1 0 I J))).1))] [] (S1_X12_rows rec a0 a1 I J) (S2_X12_rows rec a0 a1 I J) R n g
      refine w_aload_n ok dX12_rows_111 0 rfl ?_
      refine w_iconst (v := 1) ok dX12_rows_112 (by decide) ?_
      refine w_cV (As := [.int 1]) ok dX12_rows_113 iX12_trouble (lX12_497 rfl) (rcv cls12 (congrArg Prod.fst s_130)) (ltM hnn (by decide)) (c_X12_trouble ro hnn 1  (hp4 c1)) (by omega) rfl (Nat.le_of_ble_eq_true rfl) ?_
      refine w_aload_n ok dX12_rows_116 0 rfl ?_
      refine w_iconst (v := 0) ok dX12_rows_117 (by decide) ?_
      refine w_cV (As := [.int 0]) ok dX12_rows_118 iX12_trouble (lX12_497 rfl) (rcv cls12 (congrArg Prod.fst s_130)) (ltM hnn (by decide)) (c_X12_trouble ro hnn 0  (hp5 c1)) (by omega) rfl (Nat.le_of_ble_eq_true rfl) ?_
      show WK K 0 0 121 [(0, .ref 130), (1, .int a0), (2, .int a1), (3, .int ((F_X12_rows_w69 rec a0 a1 I J (0, (FI_X12_copies 1 0 I J))).1))] [.int (F_X12_trouble 0 (S1_X12_rows rec a0 a1 I J) (S2_X12_rows rec a0 a1 I J)), .int (F_X12_trouble 1 (S1_X12_rows rec a0 a1 I J) (S2_X12_rows rec a0 a1 I J))] (S1_X12_rows rec a0 a1 I J) (S2_X12_rows rec a0 a1 I J) R n g
      refine w_isub ok dX12_rows_121 ?_
      show WK K 0 0 122 [(0, .ref 130), (1, .int a0), (2, .int a1), (3, .int ((F_X12_rows_w69 rec a0 a1 I J (0, (FI_X12_copies 1 0 I J))).1))] [.int (S3_X12_rows rec a0 a1 I J)] (S1_X12_rows rec a0 a1 I J) (S2_X12_rows rec a0 a1 I J) R n g
      refine w_istore_n ok dX12_rows_122 rfl (by decide) rfl ?_
      refine w_aload_n ok dX12_rows_123 1 rfl ?_
      refine w_getI ok dX12_rows_124 (fX12_500 rfl) (congrArg Prod.fst s_130) rfl (ltM hnn (by decide)) ?_
      refine w_iconst (v := (-1)) ok dX12_rows_127 (by decide) ?_
      refine w_icmp_eq (tgt := 140) ok dX12_rows_128 (by decide) (fun c2 => ?_) (fun c2 => ?_)
      · skip
        refine w_aload_n ok dX12_rows_140 1 rfl ?_
        refine w_iload_n ok dX12_rows_141 0 rfl ?_
        refine w_putI ok dX12_rows_142 (fwX12_500 rfl) (congrArg Prod.fst s_130) rfl (ltM hnn (by decide)) ?_
        refine w_iconst (v := 0) ok dX12_rows_145 (by decide) ?_
        refine w_istore ok dX12_rows_146 (by decide) rfl ?_
        refine w_loc [2, 3, 4, 1, 0] rfl ?_
        refine loop_w (fun (s148 : Int32 × SI) => WK K 0 0 148 [(0, .ref 130), (1, .int a0), (2, .int a1), (3, .int (S3_X12_rows rec a0 a1 I J)), (4, .int s148.1)] [] s148.2 (S2_X12_rows rec a0 a1 I J) R n g) (fun (s148 : Int32 × SI) => WK K 0 0 177 [(0, .ref 130), (1, .int a0), (2, .int a1), (3, .int (S3_X12_rows rec a0 a1 I J)), (4, .int s148.1)] [] s148.2 (S2_X12_rows rec a0 a1 I J) R n g) (B_X12_rows_w148 rec a0 a1 I J) 800 (0, (u2 (S1_X12_rows rec a0 a1 I J) 130 67 (S3_X12_rows rec a0 a1 I J))) (F_X12_rows_w148 rec a0 a1 I J (0, (u2 (S1_X12_rows rec a0 a1 I J) 130 67 (S3_X12_rows rec a0 a1 I J)))) (itW_some (hp6 c1 c2)) ?_ ?_
        · show WK K 0 0 177 [(0, .ref 130), (1, .int a0), (2, .int a1), (3, .int (S3_X12_rows rec a0 a1 I J)), (4, .int ((F_X12_rows_w148 rec a0 a1 I J (0, (u2 (S1_X12_rows rec a0 a1 I J) 130 67 (S3_X12_rows rec a0 a1 I J)))).1))] [] ((F_X12_rows_w148 rec a0 a1 I J (0, (u2 (S1_X12_rows rec a0 a1 I J) 130 67 (S3_X12_rows rec a0 a1 I J)))).2) (S2_X12_rows rec a0 a1 I J) R n g
          exact w_vret ok fin dX12_rows_177 rfl (by unfold FI_X12_rows FJ_X12_rows; simp only [if_pos c1]; simp only [if_pos c2]; exact Pd.i)
        · intro n148 s148 hs148 kc148 kx148
          show WK K 0 0 148 [(0, .ref 130), (1, .int a0), (2, .int a1), (3, .int (S3_X12_rows rec a0 a1 I J)), (4, .int s148.1)] [] s148.2 (S2_X12_rows rec a0 a1 I J) R n g
          refine w_iload ok dX12_rows_148 4 rfl ?_
          refine w_aload_n ok dX12_rows_150 0 rfl ?_
          refine w_getI ok dX12_rows_151 (fX12_491 rfl) (congrArg Prod.fst s_130) rfl (ltM hnn (by decide)) ?_
          refine w_icmp_ge (tgt := 177) ok dX12_rows_154 (by decide) (fun c3 => ?_) (fun c3 => ?_)
          · skip
            have eB : B_X12_rows_w148 rec a0 a1 I J s148 = .inr (s148.1, s148.2) := by
              unfold B_X12_rows_w148; exact (if_pos c3).trans (rfl)
            refine w_loc [0, 1, 2, 3, 4] rfl ?_
            have kk := kx148 _ eB
            exact kk
          · skip
            refine w_aload_n ok dX12_rows_157 0 rfl ?_
            refine w_getR ok dX12_rows_158 (fX12_144 rfl) (congrArg Prod.fst s_130) rfl (r_130_65 ro) (ltM hnn (by decide)) ?_
            refine w_iload ok dX12_rows_161 4 rfl ?_
            refine w_aload_n ok dX12_rows_163 0 rfl ?_
            refine w_getR ok dX12_rows_164 (fX12_141 rfl) (congrArg Prod.fst s_130) rfl (r_130_64 ro) (ltM hnn (by decide)) ?_
            refine w_iload ok dX12_rows_167 4 rfl ?_
            refine x_iald (q := s148.1.toNatClampNeg) ok dX12_rows_169 s_171 (hp7 c1 c2 n148 s148 hs148 c3) (by decide) (ltM hnn (by decide)) ?_
            refine x_iast (q := s148.1.toNatClampNeg) ok dX12_rows_170 s_172 (hp7 c1 c2 n148 s148 hs148 c3) (by decide) (ltM hnn (by decide)) ?_
            refine w_iinc (v := s148.1 + 1) ok dX12_rows_171 4 rfl rfl (by decide) rfl ?_
            refine w_goto (tgt := 148) ok dX12_rows_174 (by decide) ?_
            have eB : B_X12_rows_w148 rec a0 a1 I J s148 = .inl ((s148.1 + 1), (u2 s148.2 172 s148.1.toNatClampNeg (s148.2 171 s148.1.toNatClampNeg))) := by
              unfold B_X12_rows_w148; exact (if_neg c3).trans (rfl)
            refine w_loc [1, 2, 3, 4, 0] rfl ?_
            have kk := kc148 _ eB
            exact kk
      · skip
        refine w_iload_n ok dX12_rows_131 0 rfl ?_
        refine w_aload_n ok dX12_rows_132 1 rfl ?_
        refine w_getI ok dX12_rows_133 (fX12_500 rfl) (congrArg Prod.fst s_130) rfl (ltM hnn (by decide)) ?_
        refine w_icmp_lt (tgt := 140) ok dX12_rows_136 (by decide) (fun c4 => ?_) (fun c4 => ?_)
        · skip
          refine w_aload_n ok dX12_rows_140 1 rfl ?_
          refine w_iload_n ok dX12_rows_141 0 rfl ?_
          refine w_putI ok dX12_rows_142 (fwX12_500 rfl) (congrArg Prod.fst s_130) rfl (ltM hnn (by decide)) ?_
          refine w_iconst (v := 0) ok dX12_rows_145 (by decide) ?_
          refine w_istore ok dX12_rows_146 (by decide) rfl ?_
          refine w_loc [2, 3, 4, 1, 0] rfl ?_
          refine loop_w (fun (s148 : Int32 × SI) => WK K 0 0 148 [(0, .ref 130), (1, .int a0), (2, .int a1), (3, .int (S3_X12_rows rec a0 a1 I J)), (4, .int s148.1)] [] s148.2 (S2_X12_rows rec a0 a1 I J) R n g) (fun (s148 : Int32 × SI) => WK K 0 0 177 [(0, .ref 130), (1, .int a0), (2, .int a1), (3, .int (S3_X12_rows rec a0 a1 I J)), (4, .int s148.1)] [] s148.2 (S2_X12_rows rec a0 a1 I J) R n g) (B_X12_rows_w148_2 rec a0 a1 I J) 800 (0, (u2 (S1_X12_rows rec a0 a1 I J) 130 67 (S3_X12_rows rec a0 a1 I J))) (F_X12_rows_w148_2 rec a0 a1 I J (0, (u2 (S1_X12_rows rec a0 a1 I J) 130 67 (S3_X12_rows rec a0 a1 I J)))) (itW_some (hp8 c1 c2 c4)) ?_ ?_
          · show WK K 0 0 177 [(0, .ref 130), (1, .int a0), (2, .int a1), (3, .int (S3_X12_rows rec a0 a1 I J)), (4, .int ((F_X12_rows_w148_2 rec a0 a1 I J (0, (u2 (S1_X12_rows rec a0 a1 I J) 130 67 (S3_X12_rows rec a0 a1 I J)))).1))] [] ((F_X12_rows_w148_2 rec a0 a1 I J (0, (u2 (S1_X12_rows rec a0 a1 I J) 130 67 (S3_X12_rows rec a0 a1 I J)))).2) (S2_X12_rows rec a0 a1 I J) R n g
            exact w_vret ok fin dX12_rows_177 rfl (by unfold FI_X12_rows FJ_X12_rows; simp only [if_pos c1]; simp only [if_neg c2]; simp only [if_pos c4]; exact Pd.i)
          · intro n148 s148 hs148 kc148 kx148
            show WK K 0 0 148 [(0, .ref 130), (1, .int a0), (2, .int a1), (3, .int (S3_X12_rows rec a0 a1 I J)), (4, .int s148.1)] [] s148.2 (S2_X12_rows rec a0 a1 I J) R n g
            refine w_iload ok dX12_rows_148 4 rfl ?_
            refine w_aload_n ok dX12_rows_150 0 rfl ?_
            refine w_getI ok dX12_rows_151 (fX12_491 rfl) (congrArg Prod.fst s_130) rfl (ltM hnn (by decide)) ?_
            refine w_icmp_ge (tgt := 177) ok dX12_rows_154 (by decide) (fun c5 => ?_) (fun c5 => ?_)
            · skip
              have eB : B_X12_rows_w148_2 rec a0 a1 I J s148 = .inr (s148.1, s148.2) := by
                unfold B_X12_rows_w148_2; exact (if_pos c5).trans (rfl)
              refine w_loc [0, 1, 2, 3, 4] rfl ?_
              have kk := kx148 _ eB
              exact kk
            · skip
              refine w_aload_n ok dX12_rows_157 0 rfl ?_
              refine w_getR ok dX12_rows_158 (fX12_144 rfl) (congrArg Prod.fst s_130) rfl (r_130_65 ro) (ltM hnn (by decide)) ?_
              refine w_iload ok dX12_rows_161 4 rfl ?_
              refine w_aload_n ok dX12_rows_163 0 rfl ?_
              refine w_getR ok dX12_rows_164 (fX12_141 rfl) (congrArg Prod.fst s_130) rfl (r_130_64 ro) (ltM hnn (by decide)) ?_
              refine w_iload ok dX12_rows_167 4 rfl ?_
              refine x_iald (q := s148.1.toNatClampNeg) ok dX12_rows_169 s_171 (hp9 c1 c2 c4 n148 s148 hs148 c5) (by decide) (ltM hnn (by decide)) ?_
              refine x_iast (q := s148.1.toNatClampNeg) ok dX12_rows_170 s_172 (hp9 c1 c2 c4 n148 s148 hs148 c5) (by decide) (ltM hnn (by decide)) ?_
              refine w_iinc (v := s148.1 + 1) ok dX12_rows_171 4 rfl rfl (by decide) rfl ?_
              refine w_goto (tgt := 148) ok dX12_rows_174 (by decide) ?_
              have eB : B_X12_rows_w148_2 rec a0 a1 I J s148 = .inl ((s148.1 + 1), (u2 s148.2 172 s148.1.toNatClampNeg (s148.2 171 s148.1.toNatClampNeg))) := by
                unfold B_X12_rows_w148_2; exact (if_neg c5).trans (rfl)
              refine w_loc [1, 2, 3, 4, 0] rfl ?_
              have kk := kc148 _ eB
              exact kk
        · skip
          exact w_vret ok fin dX12_rows_139 rfl (by unfold FI_X12_rows FJ_X12_rows; simp only [if_pos c1]; simp only [if_neg c2]; simp only [if_neg c4]; exact Pd.i)
    · intro n69 s69 hs69 kc69 kx69
      show WK K 0 0 69 [(0, .ref 130), (1, .int a0), (2, .int a1), (3, .int s69.1)] [] s69.2 J R n g
      refine w_iload_n ok dX12_rows_69 3 rfl ?_
      refine w_aload_n ok dX12_rows_70 0 rfl ?_
      refine w_getI ok dX12_rows_71 (fX12_491 rfl) (congrArg Prod.fst s_130) rfl (ltM hnn (by decide)) ?_
      refine w_icmp_ge (tgt := 105) ok dX12_rows_74 (by decide) (fun c6 => ?_) (fun c6 => ?_)
      · skip
        have eB : B_X12_rows_w69 rec a0 a1 I J s69 = .inr (s69.1, s69.2) := by
          unfold B_X12_rows_w69; exact (if_pos c6).trans (rfl)
        refine w_loc [0, 1, 2, 3] rfl ?_
        have kk := kx69 _ eB
        exact kk
      · skip
        refine w_aload_n ok dX12_rows_77 0 rfl ?_
        refine w_getR ok dX12_rows_78 (fX12_108 rfl) (congrArg Prod.fst s_130) rfl (r_130_47 ro) (ltM hnn (by decide)) ?_
        refine w_bipush (v := 8) ok dX12_rows_81 (by decide) ?_
        refine w_aload_n ok dX12_rows_83 0 rfl ?_
        refine w_getR ok dX12_rows_84 (fX12_141 rfl) (congrArg Prod.fst s_130) rfl (r_130_64 ro) (ltM hnn (by decide)) ?_
        refine w_iload_n ok dX12_rows_87 3 rfl ?_
        refine x_iald (q := s69.1.toNatClampNeg) ok dX12_rows_88 s_171 (hp10 c1 n69 s69 hs69 c6) (by decide) (ltM hnn (by decide)) ?_
        refine w_iadd ok dX12_rows_89 ?_
        refine w_aload_n ok dX12_rows_90 0 rfl ?_
        refine w_getR ok dX12_rows_91 (fX12_84 rfl) (congrArg Prod.fst s_130) rfl (r_130_39 ro) (ltM hnn (by decide)) ?_
        refine w_iconst (v := 0) ok dX12_rows_94 (by decide) ?_
        refine x_iald (q := 0) ok dX12_rows_95 s_154 (by decide) (by decide) (ltM hnn (by decide)) ?_
        refine w_iload_n ok dX12_rows_96 3 rfl ?_
        refine w_iadd ok dX12_rows_97 ?_
        refine x_iast (q := ((8 : Int32) + (s69.2 171 s69.1.toNatClampNeg)).toNatClampNeg) ok dX12_rows_98 s_162 (hp11 c1 n69 s69 hs69 c6) (by decide) (ltM hnn (by decide)) ?_
        show WK K 0 0 99 [(0, .ref 130), (1, .int a0), (2, .int a1), (3, .int s69.1)] [] (S4_X12_rows rec a0 a1 I J s69) J R n g
        refine w_iinc (v := s69.1 + 1) ok dX12_rows_99 3 rfl rfl (by decide) rfl ?_
        refine w_goto (tgt := 69) ok dX12_rows_102 (by decide) ?_
        have eB : B_X12_rows_w69 rec a0 a1 I J s69 = .inl ((s69.1 + 1), (S4_X12_rows rec a0 a1 I J s69)) := by
          unfold B_X12_rows_w69; exact (if_neg c6).trans (rfl)
        refine w_loc [1, 2, 3, 0] rfl ?_
        have kk := kc69 _ eB
        exact kk
  · skip
    refine w_iconst (v := 0) ok dX12_rows_8 (by decide) ?_
    refine w_istore_n ok dX12_rows_9 rfl (by decide) rfl ?_
    refine w_loc [1, 2, 3, 0] rfl ?_
    refine loop_w (fun (s10 : Int32 × SI × SJ) => WK K 0 0 10 [(0, .ref 130), (1, .int a0), (2, .int a1), (3, .int s10.1)] [] s10.2.1 s10.2.2 R n g) (fun (s10 : Int32 × SI × SJ) => WK K 0 0 60 [(0, .ref 130), (1, .int a0), (2, .int a1), (3, .int s10.1)] [] s10.2.1 s10.2.2 R n g) (B_X12_rows_w10 rec a0 a1 I J) 800 (0, I, J) (F_X12_rows_w10 rec a0 a1 I J (0, I, J)) (itW_some (hp12 c1)) ?_ ?_
    · show WK K 0 0 60 [(0, .ref 130), (1, .int a0), (2, .int a1), (3, .int ((F_X12_rows_w10 rec a0 a1 I J (0, I, J)).1))] [] ((F_X12_rows_w10 rec a0 a1 I J (0, I, J)).2.1) ((F_X12_rows_w10 rec a0 a1 I J (0, I, J)).2.2) R n g
      exact w_vret ok fin dX12_rows_60 rfl (by unfold FI_X12_rows FJ_X12_rows; simp only [if_neg c1]; exact Pd.i)
    · intro n10 s10 hs10 kc10 kx10
      show WK K 0 0 10 [(0, .ref 130), (1, .int a0), (2, .int a1), (3, .int s10.1)] [] s10.2.1 s10.2.2 R n g
      refine w_iload_n ok dX12_rows_10 3 rfl ?_
      refine w_aload_n ok dX12_rows_11 0 rfl ?_
      refine w_getI ok dX12_rows_12 (fX12_491 rfl) (congrArg Prod.fst s_130) rfl (ltM hnn (by decide)) ?_
      refine w_icmp_ge (tgt := 60) ok dX12_rows_15 (by decide) (fun c7 => ?_) (fun c7 => ?_)
      · skip
        have eB : B_X12_rows_w10 rec a0 a1 I J s10 = .inr (s10.1, s10.2.1, s10.2.2) := by
          unfold B_X12_rows_w10; exact (if_pos c7).trans (rfl)
        refine w_loc [0, 1, 2, 3] rfl ?_
        have kk := kx10 _ eB
        exact kk
      · skip
        refine w_iload_n ok dX12_rows_18 2 rfl ?_
        refine w_iload_n ok dX12_rows_19 3 rfl ?_
        refine w_ishr ok dX12_rows_20 ?_
        refine w_iconst (v := 1) ok dX12_rows_21 (by decide) ?_
        refine w_iand ok dX12_rows_22 ?_
        refine w_iconst (v := 1) ok dX12_rows_23 (by decide) ?_
        refine w_icmp_ne (tgt := 30) ok dX12_rows_24 (by decide) (fun c8 => ?_) (fun c8 => ?_)
        · skip
          refine w_aload_n ok dX12_rows_30 0 rfl ?_
          refine w_getR ok dX12_rows_31 (fX12_141 rfl) (congrArg Prod.fst s_130) rfl (r_130_64 ro) (ltM hnn (by decide)) ?_
          refine w_iload_n ok dX12_rows_34 1 rfl ?_
          refine w_aload_n ok dX12_rows_35 0 rfl ?_
          refine w_getR ok dX12_rows_36 (fX12_138 rfl) (congrArg Prod.fst s_130) rfl (r_130_63 ro) (ltM hnn (by decide)) ?_
          refine w_iload_n ok dX12_rows_39 3 rfl ?_
          refine x_iald (q := s10.1.toNatClampNeg) ok dX12_rows_40 s_170 (hp13 c1 n10 s10 hs10 c7 c8) (by decide) (ltM hnn (by decide)) ?_
          refine x_iast (q := a0.toNatClampNeg) ok dX12_rows_41 s_171 (hp14 c1 n10 s10 hs10 c7 c8) (by decide) (ltM hnn (by decide)) ?_
          refine w_aload_n ok dX12_rows_42 0 rfl ?_
          refine w_iload_n ok dX12_rows_43 1 rfl ?_
          refine w_iconst (v := 1) ok dX12_rows_44 (by decide) ?_
          refine w_iadd ok dX12_rows_45 ?_
          refine w_iload_n ok dX12_rows_46 2 rfl ?_
          refine w_iconst (v := 1) ok dX12_rows_47 (by decide) ?_
          refine w_iload_n ok dX12_rows_48 3 rfl ?_
          refine w_ishl ok dX12_rows_49 ?_
          refine w_ior ok dX12_rows_50 ?_
          refine w_cV (As := [.int (a0 + 1), .int (a1 ||| ((1 : Int32) <<< (s10.1 &&& 31)))]) ok dX12_rows_51 iX12_rows (lX12_494 rfl) (rcv cls12 (congrArg Prod.fst s_130)) (ltM hnn (by decide)) (ih0 (a0 + 1) (a1 ||| ((1 : Int32) <<< (s10.1 &&& 31))) (u2 s10.2.1 171 a0.toNatClampNeg (s10.2.1 170 s10.1.toNatClampNeg)) s10.2.2 (hp15 c1 n10 s10 hs10 c7 c8)) (by omega) rfl (Nat.le_of_ble_eq_true rfl) ?_
          show WK K 0 0 54 [(0, .ref 130), (1, .int a0), (2, .int a1), (3, .int s10.1)] [] (S5_X12_rows rec a0 a1 I J s10) (S6_X12_rows rec a0 a1 I J s10) R n g
          refine w_iinc (v := s10.1 + 1) ok dX12_rows_54 3 rfl rfl (by decide) rfl ?_
          refine w_goto (tgt := 10) ok dX12_rows_57 (by decide) ?_
          have eB : B_X12_rows_w10 rec a0 a1 I J s10 = .inl ((s10.1 + 1), (S5_X12_rows rec a0 a1 I J s10), (S6_X12_rows rec a0 a1 I J s10)) := by
            unfold B_X12_rows_w10; exact (if_neg c7).trans ((if_neg c8).trans (rfl))
          refine w_loc [1, 2, 3, 0] rfl ?_
          have kk := kc10 _ eB
          exact kk
        · skip
          refine w_goto (tgt := 54) ok dX12_rows_27 (by decide) ?_
          refine w_iinc (v := s10.1 + 1) ok dX12_rows_54 3 rfl rfl (by decide) rfl ?_
          refine w_goto (tgt := 10) ok dX12_rows_57 (by decide) ?_
          have eB : B_X12_rows_w10 rec a0 a1 I J s10 = .inl ((s10.1 + 1), s10.2.1, s10.2.2) := by
            unfold B_X12_rows_w10; exact (if_neg c7).trans ((if_pos c8).trans (rfl))
          refine w_loc [1, 2, 3, 0] rfl ?_
          have kk := kc10 _ eB
          exact kk
def RG_rows : Nat → Nat → Int32 → Int32 → SI → SJ → SI × SJ
  | 0 => fun _ _ _ => fun I J => (I, J)
  | k + 1 => fun t => match t with
    | _ => fun a0 a1 I J => (FI_X12_rows (RG_rows k) a0 a1 I J, FJ_X12_rows (RG_rows k) a0 a1 I J)
def HG_rows : Nat → Nat → Int32 → Int32 → SI → SJ → Prop
  | 0 => fun _ _ _ _ _ => False
  | k + 1 => fun t => match t with
    | _ => fun a0 a1 I J => H_X12_rows (HG_rows k) (RG_rows k) a0 a1 I J
set_option maxHeartbeats 1000000 in
set_option maxRecDepth 40000 in
theorem cr_rows {R : SR} {n g : Nat} (ro : RM R) (hnn : nM ≤ n) {dd : Nat} (hdd : 8 ≤ dd) : ∀ k : Nat, (∀ (a0 a1 : Int32) (I : SI) (J : SJ), HG_rows k 0 a0 a1 I J → MM (dd + k) 0 0 mX12_rows [.ref 130, .int a0, .int a1] I J R n g (Pd none (RG_rows k 0 a0 a1 I J).1 (RG_rows k 0 a0 a1 I J).2 R n g)) := by
  intro k
  induction k with
  | zero => exact fun _ _ _ _ h => h.elim
  | succ k ih =>
    have h0 := ih
    exact fun a0 a1 I J h => cs_X12_rows ro hnn a0 a1 (RG_rows k) (HG_rows k) (Nat.le_trans hdd (Nat.le_add_right dd k)) h0 h
