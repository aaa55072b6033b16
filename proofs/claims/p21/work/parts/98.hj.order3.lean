/-! both: an order of four shots: all rows, and the answer -/
theorem bt_get1 {s : Int32} {i : Nat} (hi : i < 24) : (s >>> (nI i &&& 31)) &&& 1 = 1 ↔ bt s i = true := by
  constructor
  · intro h
    cases e : bt s i with
    | true => rfl
    | false => rw [(bt_get hi).mpr e] at h; exact absurd h (by decide)
  · intro h
    have nz : ¬ (s >>> (nI i &&& 31)) &&& 1 = 0 := fun y => by rw [(bt_get hi).mp y] at h; exact absurd h (by decide)
    generalize s >>> (nI i &&& 31) = x at *
    have z : x &&& 1 = 0 ∨ x &&& 1 = 1 := by
      cases e : x.toBitVec.getLsbD 0 with
      | false =>
        left
        refine Int32.toBitVec_inj.mp ?_
        rw [Int32.toBitVec_and]
        show x.toBitVec &&& 1#32 = 0#32
        refine BitVec.eq_of_getLsbD_eq (fun k hk => ?_)
        rw [BitVec.getLsbD_and]
        by_cases q : k = 0
        · rw [q, e]; simp
        · simp [q]
      | true =>
        right
        refine Int32.toBitVec_inj.mp ?_
        rw [Int32.toBitVec_and]
        show x.toBitVec &&& 1#32 = 1#32
        refine BitVec.eq_of_getLsbD_eq (fun k hk => ?_)
        rw [BitVec.getLsbD_and]
        by_cases q : k = 0
        · rw [q, e]; simp
        · simp [q]
    exact z.resolve_left nz
def GOOD (c : Nat) (r : List Nat) : Prop := cod r < 256 ∧ ¬ F_X3_isRow (nI (cod r)) (Zc c) Jb = 0 ∧ ∀ k, k < c → pk (cod r) k = r.getD k 9 ∧ r.getD k 9 < c
theorem good_v {c : Nat} (hc : c < 5) : ∀ r ∈ lvs c 4 [], GOOD c r := fun r hr => by
  obtain ⟨v1, _, v3⟩ := lvs_v c hc r hr
  have m : cod r ∈ (List.range 256).filter (fun i => !decide (F_X3_isRow (nI i) (Zc c) Jb = 0)) := by
    rw [rows_v c hc]
    exact List.mem_map.mpr ⟨r, hr, rfl⟩
  have m2 := (List.mem_filter.mp m).2
  refine ⟨v1, fun y => ?_, v3⟩
  rw [decide_eq_true y] at m2
  exact absurd m2 (by decide)
def ostp (a0 : Int32) (Ia : SI) (Ja : SJ) (s : SI × SJ) (r : List Nat) : SI × SJ := B_X11_order_l34 a0 Ia Ja (cod r) s
theorem ORL.b171 {nm ns np c d : Nat} {v : Int32} {A B : SI} {JA : SJ} (h : ORL nm ns np c A JA B) : ORL nm ns np c A JA (u2 B 171 d v) := by
  obtain ⟨h1, h2, h3, h4, h5⟩ := h
  refine ⟨h1.mo (fun _ _ _ => rfl) rfl (fun a b x y => u2_n _ _ (by omega)) (fun a b q => u2_n _ _ (by have := q.2.1; omega)), h2, (u2_n _ _ (by omega)).trans h3, fun k hk => ?_, ?_⟩
  · obtain ⟨l, a, b, e⟩ := h4 k hk
    exact ⟨l, a, b, (u2_n _ _ (by omega)).trans e⟩
  · rcases h5 with ⟨x, y⟩ | ⟨i, t, x1, x2, x3, x4, x5, x6⟩
    · exact Or.inl ⟨x, (u2_n _ _ (by omega)).trans y⟩
    · exact Or.inr ⟨i, t, x1, x2, x3, x4, (u2_n _ _ (by omega)).trans x5, fun k hk => (u2_n _ _ (by omega)).trans (x6 k hk)⟩
theorem lvs_e {c : Nat} {p : List Nat} (h : p.length = c) : ∀ n, lvs c n p = [p] := fun n => by
  cases n with
  | zero => unfold lvs; exact if_pos h
  | succ n => unfold lvs; exact if_pos h
theorem rec_v {nm ns np c : Nat} {a0 : Int32} {Ia : SI} {Ja : SJ} (hc : c ≤ 4) : ∀ n d (p : List Nat) (a1 : Int32) (S : SI × SJ) (B : SI) (K : SJ), p.length = d → d ≤ c → c ≤ d + n → ORL nm ns np c S.1 S.2 B → (∀ k, k < d → B 171 k = B 170 (p.getD k 9)) → (∀ q, q < 24 → (bt a1 q = true ↔ q ∈ p)) → (∀ r ∈ lvs c n p, GOOD c r) → ORL nm ns np c ((lvs c n p).foldl (ostp a0 Ia Ja) S).1 ((lvs c n p).foldl (ostp a0 Ia Ja) S).2 (RG_rows (n + 1) 0 (nI d) a1 B K).1 ∧ (lvs c n p ≠ [] → ∃ j, j < 256 ∧ ((lvs c n p).foldl (ostp a0 Ia Ja) S).1 128 1 = nI j) ∧ (∀ b, (RG_rows (n + 1) 0 (nI d) a1 B K).1 170 b = B 170 b) ∧ ∀ b, b < d → (RG_rows (n + 1) 0 (nI d) a1 B K).1 171 b = B 171 b := by
  have leaf : ∀ n (p : List Nat) (a1 : Int32) (S : SI × SJ) (B : SI) (K : SJ), p.length = c → ORL nm ns np c S.1 S.2 B → (∀ k, k < c → B 171 k = B 170 (p.getD k 9)) → (∀ r ∈ lvs c n p, GOOD c r) → ORL nm ns np c ((lvs c n p).foldl (ostp a0 Ia Ja) S).1 ((lvs c n p).foldl (ostp a0 Ia Ja) S).2 (RG_rows (n + 1) 0 (nI c) a1 B K).1 ∧ (lvs c n p ≠ [] → ∃ j, j < 256 ∧ ((lvs c n p).foldl (ostp a0 Ia Ja) S).1 128 1 = nI j) ∧ (∀ b, (RG_rows (n + 1) 0 (nI c) a1 B K).1 170 b = B 170 b) ∧ ∀ b, b < c → (RG_rows (n + 1) 0 (nI c) a1 B K).1 171 b = B 171 b := fun n p a1 S B K hp o h1 gd => by
    rw [lvs_e hp n] at gd ⊢
    obtain ⟨g1, g2, g3⟩ := gd p (List.mem_singleton.mpr rfl)
    have L := leaf_v (i := cod p) (a0 := a0) (a1 := a1) (Ia := Ia) (Ja := Ja) (K := K) (rec := RG_rows n) hc g1 o g2 (fun k hk => ⟨by rw [(g3 k hk).1]; exact h1 k hk, by rw [(g3 k hk).1]; exact (g3 k hk).2⟩)
    exact ⟨L.1, fun _ => L.2.1, fun b => L.2.2 170 b (Or.inl rfl), fun b _ => L.2.2 171 b (Or.inr rfl)⟩
  intro n
  induction n with
  | zero =>
    intro d p a1 S B K hp hd hn o h1 _ gd
    have e : d = c := by omega
    subst e
    exact leaf 0 p a1 S B K hp o h1 gd
  | succ n ih =>
    intro d p a1 S B K hp hd hn o h1 hb gd
    by_cases dc : d = c
    · subst dc
      exact leaf (n + 1) p a1 S B K hp o h1 gd
    have ldc : ¬ p.length = c := by omega
    have el : lvs c (n + 1) p = ((List.range' 0 c).filter (fun q => decide (¬ q ∈ p))).flatMap (fun q => lvs c n (p ++ [q])) := by
      show (if p.length = c then [p] else ((List.range' 0 c).filter (fun q => decide (¬ q ∈ p))).flatMap (fun q => lvs c n (p ++ [q]))) = _
      exact if_neg ldc
    rw [el] at gd ⊢
    have e66 : B 130 66 = nI c := o.2.2.1
    have W : ∀ m q (S1 : SI × SJ) (B1 : SI) (K1 : SJ) N, q + m = c → m < N → ORL nm ns np c S1.1 S1.2 B1 → (∀ b, B1 170 b = B 170 b) → (∀ b, b < d → B1 171 b = B 171 b) → (∀ r ∈ ((List.range' q m).filter (fun q => decide (¬ q ∈ p))).flatMap (fun q => lvs c n (p ++ [q])), GOOD c r) → ∃ e B' K', itW (B_X12_rows_w10 (RG_rows (n + 1)) (nI d) a1 B K) N (nI q, B1, K1) = some (e, B', K') ∧ ORL nm ns np c ((((List.range' q m).filter (fun q => decide (¬ q ∈ p))).flatMap (fun q => lvs c n (p ++ [q]))).foldl (ostp a0 Ia Ja) S1).1 ((((List.range' q m).filter (fun q => decide (¬ q ∈ p))).flatMap (fun q => lvs c n (p ++ [q]))).foldl (ostp a0 Ia Ja) S1).2 B' ∧ (((List.range' q m).filter (fun q => decide (¬ q ∈ p))).flatMap (fun q => lvs c n (p ++ [q])) ≠ [] → ∃ j, j < 256 ∧ ((((List.range' q m).filter (fun q => decide (¬ q ∈ p))).flatMap (fun q => lvs c n (p ++ [q]))).foldl (ostp a0 Ia Ja) S1).1 128 1 = nI j) ∧ (∀ b, B' 170 b = B 170 b) ∧ ∀ b, b < d → B' 171 b = B 171 b := by
      intro m
      induction m with
      | zero =>
        intro q S1 B1 K1 N hq hN o1 h170 h171 _
        obtain ⟨N, rfl⟩ : ∃ x, N = x + 1 := ⟨N - 1, by omega⟩
        refine ⟨nI q, B1, K1, itW_r _ _ _ _ ?_, o1, fun y => absurd rfl y, h170, h171⟩
        unfold B_X12_rows_w10
        exact if_pos (show B1 130 66 ≤ nI q by rw [o1.2.2.1]; exact nI_le (by omega) (by omega))
      | succ m ihm =>
        intro q S1 B1 K1 N hq hN o1 h170 h171 gd1
        obtain ⟨N, rfl⟩ : ∃ x, N = x + 1 := ⟨N - 1, by omega⟩
        have g0 : ¬ B1 130 66 ≤ nI q := by rw [o1.2.2.1]; exact nI_ge (by omega) (by omega)
        have er : List.range' q (m + 1) = q :: List.range' (q + 1) m := rfl
        have q24 : q < 24 := by omega
        by_cases qp : q ∈ p
        · have ef : (List.range' q (m + 1)).filter (fun q => decide (¬ q ∈ p)) = (List.range' (q + 1) m).filter (fun q => decide (¬ q ∈ p)) := by
            rw [er]
            exact List.filter_cons_of_neg (by simp [qp])
          rw [ef] at gd1 ⊢
          have c1 : B_X12_rows_w10 (RG_rows (n + 1)) (nI d) a1 B K (nI q, B1, K1) = .inl (nI (q + 1), B1, K1) := by
            unfold B_X12_rows_w10
            refine (if_neg g0).trans ((if_pos ((bt_get1 q24).mpr ((hb q q24).mpr qp))).trans ?_)
            exact congrArg (fun w => Sum.inl (w, B1, K1)) (nI_1 _)
          rw [itW_l _ _ _ _ c1]
          exact ihm (q + 1) S1 B1 K1 N (by omega) (by omega) o1 h170 h171 gd1
        · have ef : (List.range' q (m + 1)).filter (fun q => decide (¬ q ∈ p)) = q :: (List.range' (q + 1) m).filter (fun q => decide (¬ q ∈ p)) := by
            rw [er]
            exact List.filter_cons_of_pos (by simp [qp])
          rw [ef, List.flatMap_cons] at gd1 ⊢
          rw [List.foldl_append]
          have dn : (nI d).toNatClampNeg = d := nI_clamp (by omega)
          have qn : (nI q).toNatClampNeg = q := nI_clamp (by omega)
          have R := ih (d + 1) (p ++ [q]) (a1 ||| ((1 : Int32) <<< (nI q &&& 31))) S1 (u2 B1 171 d (B1 170 q)) K1 (by simp [hp]) (by omega) (by omega) o1.b171 (fun k hk => by
            rw [u2_n _ _ (show ¬ ((170 : Nat) = 171 ∧ (p ++ [q]).getD k 9 = d) by omega)]
            by_cases kd : k = d
            · subst kd
              have e9 : (p ++ [q]).getD k 9 = q := by
                rw [← hp]
                simp [List.getD]
              rw [u2_s, e9]
            · have e9 : (p ++ [q]).getD k 9 = p.getD k 9 := by
                have kl : k < p.length := by omega
                simp [List.getD, List.getElem?_append, kl]
              rw [u2_n _ _ (by omega), h171 k (by omega), e9, h170]
              exact h1 k (by omega)) (fun r hr => by
            rw [bt_or q24 hr, Bool.or_eq_true, decide_eq_true_iff, hb r hr, List.mem_append, List.mem_singleton]) (fun r hr => gd1 r (List.mem_append.mpr (Or.inl hr)))
          obtain ⟨R1, R2, R3, R4⟩ := R
          have c1 : B_X12_rows_w10 (RG_rows (n + 1)) (nI d) a1 B K (nI q, B1, K1) = .inl (nI (q + 1), (RG_rows (n + 1) 0 (nI (d + 1)) (a1 ||| ((1 : Int32) <<< (nI q &&& 31))) (u2 B1 171 d (B1 170 q)) K1).1, (RG_rows (n + 1) 0 (nI (d + 1)) (a1 ||| ((1 : Int32) <<< (nI q &&& 31))) (u2 B1 171 d (B1 170 q)) K1).2) := by
            unfold B_X12_rows_w10
            refine (if_neg g0).trans ((if_neg (fun y => qp ((hb q q24).mp ((bt_get1 q24).mp y)))).trans ?_)
            unfold S5_X12_rows S6_X12_rows
            show Sum.inl (nI q + 1, (RG_rows (n + 1) 0 (nI d + 1) (a1 ||| ((1 : Int32) <<< (nI q &&& 31))) (u2 B1 171 (nI d).toNatClampNeg (B1 170 (nI q).toNatClampNeg)) K1).1, (RG_rows (n + 1) 0 (nI d + 1) (a1 ||| ((1 : Int32) <<< (nI q &&& 31))) (u2 B1 171 (nI d).toNatClampNeg (B1 170 (nI q).toNatClampNeg)) K1).2) = _
            rw [dn, qn, nI_1, nI_1]
          rw [itW_l _ _ _ _ c1]
          obtain ⟨f, B', K', w1, w2, w3, w4, w5⟩ := ihm (q + 1) ((lvs c n (p ++ [q])).foldl (ostp a0 Ia Ja) S1) (RG_rows (n + 1) 0 (nI (d + 1)) (a1 ||| ((1 : Int32) <<< (nI q &&& 31))) (u2 B1 171 d (B1 170 q)) K1).1 (RG_rows (n + 1) 0 (nI (d + 1)) (a1 ||| ((1 : Int32) <<< (nI q &&& 31))) (u2 B1 171 d (B1 170 q)) K1).2 N (by omega) (by omega) R1 (fun b => (R3 b).trans ((u2_n _ _ (by omega)).trans (h170 b))) (fun b hb2 => (R4 b (by omega)).trans ((u2_n _ _ (by omega)).trans (h171 b hb2))) (fun r hr => gd1 r (List.mem_append.mpr (Or.inr hr)))
          refine ⟨f, B', K', w1, w2, fun ne => ?_, w4, w5⟩
          by_cases rest : ((List.range' (q + 1) m).filter (fun q => decide (¬ q ∈ p))).flatMap (fun q => lvs c n (p ++ [q])) = []
          · rw [rest] at ne ⊢
            exact R2 (fun y => ne (by rw [y]; rfl))
          · exact w3 rest
    obtain ⟨f, B', K', w1, w2, w3, w4, w5⟩ := W c 0 S B K 800 (by omega) (by omega) o (fun _ => rfl) (fun _ _ => rfl) gd
    have eR : (RG_rows (n + 1 + 1) 0 (nI d) a1 B K).1 = B' := by
      show FI_X12_rows (RG_rows (n + 1)) (nI d) a1 B K = B'
      unfold FI_X12_rows F_X12_rows_w10
      rw [if_neg (show ¬ B 130 66 ≤ nI d by rw [e66]; exact nI_ge (by omega) (by omega))]
      exact congrArg (fun o => (Option.getD o ((0 : Int32), B, K)).2.1) w1
    rw [eR]
    exact ⟨w2, w3, w4, w5⟩
/-- the shots that are left -/
def COL (c : Nat) (A B X Y : SI) : Prop := c ≤ 4 ∧ X 128 2 = nI c ∧ Y 130 66 = nI c ∧ (∀ j, j < c → ∃ l, l < 8 ∧ X 129 j = nI l ∧ Y 170 j = nI l) ∧ X 128 1 = -1 ∧ (∀ a b, ¬ a = 128 → ¬ a = 129 → X a b = A a b) ∧ ∀ a b, ¬ a = 170 → ¬ (a = 130 ∧ b = 66) → Y a b = B a b
theorem col_v {nm ns np : Nat} {a0 : Int32} {A B Ia Ib : SI} {JA Ja J' : SJ} (h : NWD nm ns np A JA B) : ∀ n k c X Y N M, k + n = ns → n < N → n < M → COL c A B X Y → ∃ c' e X' e' Y', itW (B_X3_begin_w17 86 (nI ns) Ia Ja) N (nI k, X) = some (e, X') ∧ itW (B_X12_order_w23 a0 Ib J') M (nI k, Y) = some (e', Y') ∧ COL c' A B X' Y' := by
  have hn : ns ≤ 8 := h.1.2.1
  intro n
  induction n with
  | zero =>
    intro k c X Y N M hk hN hM v
    obtain ⟨N, rfl⟩ : ∃ x, N = x + 1 := ⟨N - 1, by omega⟩
    obtain ⟨M, rfl⟩ : ∃ x, M = x + 1 := ⟨M - 1, by omega⟩
    have y1 : Y 132 1 = nI ns := (v.2.2.2.2.2.2 _ _ (by omega) (by omega)).trans h.1.2.2.2.2.2
    refine ⟨c, nI k, X, nI k, Y, itW_r _ _ _ _ ?_, itW_r _ _ _ _ ?_, v⟩
    · unfold B_X3_begin_w17
      exact if_pos (nI_le (by omega) (by omega))
    · unfold B_X12_order_w23
      exact if_pos (show Y 132 1 ≤ nI k by rw [y1]; exact nI_le (by omega) (by omega))
  | succ n ih =>
    intro k c X Y N M hk hN hM v
    obtain ⟨N, rfl⟩ : ∃ x, N = x + 1 := ⟨N - 1, by omega⟩
    obtain ⟨M, rfl⟩ : ∃ x, M = x + 1 := ⟨M - 1, by omega⟩
    obtain ⟨hc, x2, y2, v4, v5, v6, v7⟩ := v
    have y1 : Y 132 1 = nI ns := (v7 _ _ (by omega) (by omega)).trans h.1.2.2.2.2.2
    have gA : ¬ nI ns ≤ nI k := nI_ge (by omega) (by omega)
    have gB : ¬ Y 132 1 ≤ nI k := by rw [y1]; exact gA
    by_cases c4 : c = 4
    · subst c4
      refine ⟨4, nI k, X, nI k, Y, itW_r _ _ _ _ ?_, itW_r _ _ _ _ ?_, ⟨hc, x2, y2, v4, v5, v6, v7⟩⟩
      · unfold B_X3_begin_w17
        exact (if_neg gA).trans (if_pos (show (4 : Int32) ≤ X 128 2 by rw [x2]; decide))
      · unfold B_X12_order_w23
        exact (if_neg gB).trans (if_pos (show (4 : Int32) ≤ Y 130 66 by rw [y2]; decide))
    have lA : ¬ (4 : Int32) ≤ X 128 2 := by
      rw [x2]
      exact nI_ge (b := 4) (by omega) (by omega)
    have lB : ¬ (4 : Int32) ≤ Y 130 66 := by
      rw [y2]
      exact nI_ge (b := 4) (by omega) (by omega)
    have sc : SCT 86 0 nm ns X JA Y := h.2.1.mv hn (fun a b x z => v6 a b (by omega) (by omega)) rfl (fun a b q => v7 a b (by have := q.2.1; omega) (by have := q.1; omega))
    have dn : X 88 k = 0 ↔ F_X12_isDone 0 (nI k) Y J' = 0 := sc.dn (f := 0) (J := J') (by omega) (show k < 8 by omega)
    have ea : atF (X 88) 8 (nI k) = X 88 k := atF_v (by omega) (by omega)
    by_cases z : X 88 k = 0
    · have f1 : B_X3_begin_w17 86 (nI ns) Ia Ja (nI k, X) = .inl (nI (k + 1), u2 (u2 X 129 c (nI k)) 128 2 (nI (c + 1))) := by
        unfold B_X3_begin_w17
        refine (if_neg gA).trans ((if_neg lA).trans ((if_pos (ea.trans z)).trans ?_))
        unfold S1_X3_begin
        show Sum.inl (nI k + 1, u2 (putF X 129 4 (X 128 2) (nI k)) 128 2 (putF X 129 4 (X 128 2) (nI k) 128 2 + 1)) = _
        rw [x2, putF_v (show c < 4 by omega) (by omega), u2_n _ _ (show ¬ ((128 : Nat) = 129 ∧ (2 : Nat) = c) by omega), x2, nI_1, nI_1]
      have f2 : B_X12_order_w23 a0 Ib J' (nI k, Y) = .inl (nI (k + 1), u2 (u2 Y 170 c (nI k)) 130 66 (nI (c + 1))) := by
        unfold B_X12_order_w23
        refine (if_neg gB).trans ((if_neg lB).trans ((if_pos (dn.mp z)).trans ?_))
        unfold S2_X12_order
        show Sum.inl (nI k + 1, u2 (u2 Y 170 (Y 130 66).toNatClampNeg (nI k)) 130 66 (u2 Y 170 (Y 130 66).toNatClampNeg (nI k) 130 66 + 1)) = _
        rw [y2, nI_clamp (show c < 2 ^ 31 by omega), u2_n _ _ (show ¬ ((130 : Nat) = 170 ∧ (66 : Nat) = c) by omega), y2, nI_1, nI_1]
      rw [itW_l _ _ _ _ f1, itW_l _ _ _ _ f2]
      refine ih (k + 1) (c + 1) _ _ N M (by omega) (by omega) (by omega) ⟨by omega, u2_s _ _ _ _, u2_s _ _ _ _, fun j hj => ?_, ?_, fun a b x w => ?_, fun a b x w => ?_⟩
      · by_cases q : j = c
        · subst q
          exact ⟨k, by omega, (u2_n _ _ (by omega)).trans (u2_s _ _ _ _), (u2_n _ _ (by omega)).trans (u2_s _ _ _ _)⟩
        · obtain ⟨l, l8, l1, l2⟩ := v4 j (by omega)
          exact ⟨l, l8, (u2_n _ _ (by omega)).trans ((u2_n _ _ (by omega)).trans l1), (u2_n _ _ (by omega)).trans ((u2_n _ _ (by omega)).trans l2)⟩
      · exact (u2_n _ _ (by omega)).trans ((u2_n _ _ (by omega)).trans v5)
      · exact (u2_n _ _ (by omega)).trans ((u2_n _ _ (by omega)).trans (v6 a b x w))
      · exact (u2_n _ _ (by omega)).trans ((u2_n _ _ (by omega)).trans (v7 a b x w))
    · have f1 : B_X3_begin_w17 86 (nI ns) Ia Ja (nI k, X) = .inl (nI (k + 1), X) := by
        unfold B_X3_begin_w17
        exact (if_neg gA).trans ((if_neg lA).trans ((if_neg (fun y => z (ea.symm.trans y))).trans (congrArg (fun w => Sum.inl (w, X)) (nI_1 _))))
      have f2 : B_X12_order_w23 a0 Ib J' (nI k, Y) = .inl (nI (k + 1), Y) := by
        unfold B_X12_order_w23
        exact (if_neg gB).trans ((if_neg lB).trans ((if_neg (fun y => z (dn.mpr y))).trans (congrArg (fun w => Sum.inl (w, Y)) (nI_1 _))))
      rw [itW_l _ _ _ _ f1, itW_l _ _ _ _ f2]
      exact ih (k + 1) c X Y N M (by omega) (by omega) (by omega) ⟨hc, x2, y2, v4, v5, v6, v7⟩
/-- the class's 256 rows: only those that pass do something -/
theorem itN_fold {σ : Type} (f : Nat → σ → σ) (s : σ) : ∀ n, itN f n s = (List.range n).foldl (fun s i => f i s) s := by
  intro n
  induction n with
  | zero => rw [itN_0]; rfl
  | succ n ih => rw [itN_s, ih, List.range_succ, List.foldl_append]; rfl
theorem fold_f {σ : Type} {f : Nat → σ → σ} {P : σ → Prop} {g : Nat → Bool} (hf : ∀ i s, P s → P (f i s)) (hg : ∀ i s, P s → g i = false → f i s = s) : ∀ (l : List Nat) s, P s → l.foldl (fun s i => f i s) s = (l.filter g).foldl (fun s i => f i s) s := by
  intro l
  induction l with
  | nil => intro s _; rfl
  | cons x l ih =>
    intro s ps
    cases e : g x with
    | true =>
      rw [List.filter_cons_of_pos e]
      exact ih _ (hf x s ps)
    | false =>
      rw [List.filter_cons_of_neg (by rw [e]; decide)]
      show l.foldl (fun s i => f i s) (f x s) = _
      rw [hg x s ps e]
      exact ih s ps
theorem rows_C {a0 : Int32} {c : Nat} {I Ia : SI} {Ja : SJ} (hc : c ≤ 4) (hC : CS I) : ∀ i (s : SI × SJ), (KO I s.1 ∧ s.1 128 2 = nI c) → (KO I (B_X11_order_l34 a0 Ia Ja i s).1 ∧ (B_X11_order_l34 a0 Ia Ja i s).1 128 2 = nI c) := fun i s hs => by
  have i5 : inR (s.1 128 2) 5 := by rw [hs.2]; exact inR_nI (by omega) (by decide)
  have b2 : inR (FI_X0_begin 86 s.1 s.2 128 2) 5 := by rw [begin_K (a0 := 86) (I := s.1) (J := s.2) 128 2 (by omega)]; exact i5
  have k2 : KP 104 115 s.1 (S2_X11_order a0 Ia Ja i s) := by
    unfold S2_X11_order
    exact begin_K.tr (put_C b2).2
  have k3 : KP 104 115 s.1 (S3_X11_order a0 Ia Ja i s) := by
    unfold S3_X11_order
    exact k2.tr (pass_C ((hC.ko hs.1).kp k2 (by decide))).2
  have o3 : KO I (S3_X11_order a0 Ia Ja i s) := hs.1.tr (KO.d k3)
  have e3 : S3_X11_order a0 Ia Ja i s 128 2 = nI c := (k3 128 2 (by omega)).trans hs.2
  unfold B_X11_order_l34
  split
  · exact hs
  · show KO I (S6_X11_order a0 Ia Ja i s) ∧ S6_X11_order a0 Ia Ja i s 128 2 = nI c
    unfold S6_X11_order FI_X3_weigh
    repeat' split
    all_goals first
      | exact ⟨o3, e3⟩
      | exact ⟨o3.tr (KO.o (((KP.rf _).u (by decide)).u (by decide))), (u2_n _ _ (by omega)).trans ((u2_n _ _ (by omega)).trans e3)⟩
theorem nI_m1 {k : Nat} (h : k < 2 ^ 31) : ¬ nI k = -1 := fun y => by
  have e : (nI k).toInt = (-1 : Int32).toInt := congrArg Int32.toInt y
  rw [nI_toInt h] at e
  have e2 : (-1 : Int32).toInt = -1 := by decide
  omega
theorem order_end {nm ns np c : Nat} {a0 : Int32} {A W : SI} {JA : SJ} (hc : c ≤ 4) (R1 : ORL nm ns np c A JA W) (R2 : ∃ j, j < 256 ∧ A 128 1 = nI j) : (if a0 < 0 then (-1 : Int32) else (if a0 ≤ 4 then (if a0 = 4 then A 128 0 else F_X3_shotAt a0 A JA) else -1)) = (if a0 < 0 then (-1 : Int32) else (if a0 ≤ 4 then (if a0 = 4 then W 130 67 else (if W 130 66 ≤ a0 then -2 else W 172 a0.toNatClampNeg)) else -1)) := by
  obtain ⟨j, hj, ej⟩ := R2
  obtain ⟨q1, q2, q3, q4, q5⟩ := R1
  unfold F_X3_shotAt
  rcases q5 with ⟨n1, _⟩ | ⟨i, t, hi, ht, n1, n2, n3, n4⟩
  · rw [n1] at ej
    exact absurd ej.symm (nI_m1 (by omega))
  · by_cases z0 : a0 < 0
    · rw [if_pos z0, if_pos z0]
    rw [if_neg z0, if_neg z0]
    by_cases z1 : a0 ≤ 4
    · rw [if_pos z1, if_pos z1]
      by_cases z2 : a0 = 4
      · rw [if_pos z2, if_pos z2, n2, n3]
      · rw [if_neg z2, if_neg z2, q2, q3]
        by_cases z3 : nI c ≤ a0
        · rw [if_pos z3, if_pos z3]
        · rw [if_neg z3, if_neg z3]
          obtain ⟨k, hk, rfl⟩ := (in_lt (N := c) (by omega) z0 (inR_nI (by omega) (by omega)) z3).n
          have pe : F_X3_pick (A 128 1) (nI k) A JA = nI (pk i k) := by
            rw [n1]
            have pv := pick_v i hi k (by omega)
            unfold F_X3_pick at pv ⊢
            exact pv
          rw [pe, atF_v (pk_4 i k) (by omega), nI_clamp (show k < 2 ^ 31 by omega), n4 k hk]
    · rw [if_neg z1, if_neg z1]
theorem order_val {a0 : Int32} {A B : SI} {JA J' : SJ} (g : GTL A B) (m : MW B B) (d : GDF B) (s : GSC A JA B) (hC : CS A) : F_X11_order a0 A JA = F_X12_order a0 B J' := by
  obtain ⟨nm, ns, np, h⟩ := nwd g m d s
  have hw := h
  obtain ⟨c, e1, X, e2, Y, w1, w2, col⟩ := col_v (a0 := a0) (Ia := A) (Ja := JA) (Ib := B) (J' := J') h ns 0 0 (u2 (u2 (u2 A 128 2 0) 128 1 (-1)) 128 0 0) (u2 (u2 B 130 0 0) 130 66 0) 800 800 (by omega) (by have := h.1.2.1; omega) (by have := h.1.2.1; omega) ⟨by omega, by rw [u2_n _ _ (by omega), u2_n _ _ (by omega), u2_s]; rfl, u2_s _ _ _ _, fun j hj => absurd hj (Nat.not_lt_zero j), by rw [u2_n _ _ (by omega), u2_s], fun a b x z => by rw [u2_n _ _ (by omega), u2_n _ _ (by omega), u2_n _ _ (by omega)], fun a b x z => u2_n _ _ (by omega)⟩
  have fA : FI_X3_begin 86 (A 8 1) A JA = X := by
    unfold FI_X3_begin F_X3_begin_w17
    rw [h.1.2.2.2.1]
    exact congrArg (fun o => (Option.getD o ((0 : Int32), u2 (u2 (u2 A 128 2 0) 128 1 (-1)) 128 0 0)).2) w1
  have fB : S1_X12_order a0 B J' = u2 Y 130 67 (-1) := by
    unfold S1_X12_order F_X12_order_w23
    exact congrArg (fun o => u2 (Option.getD o ((0 : Int32), u2 (u2 B 130 0 0) 130 66 0)).2 130 67 (-1)) w2
  obtain ⟨hc, x2, y2, v4, v5, v6, v7⟩ := col
  have o0 : ORL nm ns np c X JA (u2 Y 130 67 (-1)) := by
    refine ⟨hw.mo (fun a b z => v6 a b (by omega) (by omega)) rfl (fun a b x z => (u2_n _ _ (by omega)).trans (v7 a b (by omega) (by omega))) (fun a b q => (u2_n _ _ (by have := q.1; omega)).trans (v7 a b (by have := q.2.1; omega) (by have := q.1; omega))), x2, (u2_n _ _ (by omega)).trans y2, fun k hk => ?_, Or.inl ⟨v5, u2_s _ _ _ _⟩⟩
    obtain ⟨l, l8, l1, l2⟩ := v4 k hk
    exact ⟨l, l8, l1, (u2_n _ _ (by omega)).trans l2⟩
  have c5 : c < 5 := by omega
  have tz : ∀ q, q < 24 → (bt 0 q = true ↔ q ∈ ([] : List Nat)) := fun q _ => by
    have e : bt 0 q = false := by
      unfold bt
      show (0#32).getLsbD q = false
      simp
    rw [e]
    exact ⟨fun y => absurd y (by decide), fun y => absurd y (List.not_mem_nil)⟩
  have lv5 : lvs c 5 [] = lvs c 4 [] := lvs_5 c c5
  have R := rec_v (a0 := a0) (Ia := A) (Ja := JA) hc 5 0 [] 0 (X, JA) (u2 Y 130 67 (-1)) J' rfl (Nat.zero_le _) (by omega) o0 (fun k hk => absurd hk (Nat.not_lt_zero k)) tz (by rw [lv5]; exact good_v c5)
  rw [lv5] at R
  obtain ⟨R1, R2, _, _⟩ := R
  have fold : F_X11_order_l34 a0 A JA (X, JA) = (lvs c 4 []).foldl (ostp a0 A JA) (X, JA) := by
    unfold F_X11_order_l34
    rw [itN_fold, fold_f (P := fun s : SI × SJ => KO A s.1 ∧ s.1 128 2 = nI c) (g := fun i => !decide (F_X3_isRow (nI i) (Zc c) Jb = 0)) (rows_C hc hC) (fun i s hs e => by
      have r0 : F_X3_isRow (nI i) s.1 s.2 = 0 := by
        rw [isrow_e hs.2]
        simpa using e
      unfold B_X11_order_l34
      exact if_pos r0) (List.range 256) (X, JA) ⟨fun a b z => v6 a b (by omega) (by omega), x2⟩, rows_v c c5, List.foldl_map]
    rfl
  rw [← fold] at R1 R2
  have rg : (RG_rows 6 0 0 0 (S1_X12_order a0 B J') J').1 = (RG_rows (5 + 1) 0 (nI 0) 0 (u2 Y 130 67 (-1)) J').1 := by
    rw [fB]
    rfl
  rw [← rg] at R1
  have fin := order_end (a0 := a0) hc R1 (R2 (lvs_n c c5))
  unfold F_X11_order F_X12_order S1_X11_order
  rw [fA]
  exact fin
