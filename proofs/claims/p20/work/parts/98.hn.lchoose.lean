/-! both: the least that must be filmed again: the program's choice, both answers -/
/-- the program between two tries -/
def CLZ (nm m : Nat) (t : Nat → Nat) (s : LQ) (A X : SI) : Prop := X 124 1 = nI s.1 ∧ (s.1 = 1000000 ∨ (s.1 < 1000 ∧ ∀ j, j < nm → X 125 j = nI (s.2 j))) ∧ (∀ j, j < m → X 126 j = nI (t j)) ∧ ∀ a b, ¬ a = 125 → ¬ a = 126 → ¬ (a = 124 ∧ b = 1) → X a b = A a b
/-- what it knows -/
def LTC (nm : Nat) (W c : Nat → Nat) (cl : Nat → Nat → Nat → Bool) (A : SI) : Prop := nm ≤ 6 ∧ A 3 1 = nI nm ∧ (∀ m, m < nm → A 6 m = nI (W m) ∧ 0 < W m ∧ W m < 7) ∧ (∀ m v i, cl m v i = true → A 10 i = nI (c i) ∧ c i < 100) ∧ ∀ m v, m < 6 → v < 6 → IMK (cl m v) (A 127 (6 * m + v))
theorem un_c {nm m i : Nat} {t W c : Nat → Nat} {cl : Nat → Nat → Nat → Bool} {A : SI} (h : LTC nm W c cl A) (q : un cl t m i = true) : A 10 i = nI (c i) ∧ c i < 100 := by
  obtain ⟨j, _, k⟩ := (an_t m).mp q
  exact h.2.2.2.1 j (t j) i k
theorem choose_v {nm : Nat} {W c : Nat → Nat} {cl : Nat → Nat → Nat → Bool} {A : SI} (h : LTC nm W c cl A) : ∀ n m t s X J k a1 a2, m + n = nm → n < k → IMK (un cl t m) a1 → a2 = nI (vl c (un cl t m) 8) → CLZ nm m t s A X → CLZ nm m t (sp W cl c (wkp cl) n m t s) A (RG_choose k 0 (nI m) a1 a2 X J).1 := by
  have h' := h
  obtain ⟨hm, e3, hw, hc, hi⟩ := h'
  intro n
  induction n with
  | zero =>
    intro m t s X J k a1 a2 hmn hk im ea r
    obtain ⟨k, rfl⟩ : ∃ k', k = k' + 1 := ⟨k - 1, by omega⟩
    have em : m = nm := by omega
    subst em
    have bd : vl c (un cl t m) 8 ≤ 800 := vl_le 8 (fun _ _ q => (un_c h q).2)
    obtain ⟨r1, r2, r3, r4⟩ := r
    have sb : s.1 ≤ 1000000 := by rcases r2 with y | y <;> omega
    show CLZ m m t (sp W cl c (wkp cl) 0 m t s) A (FI_X2_choose (RG_choose k) (nI m) a1 a2 X J)
    rw [sp_0]
    unfold FI_X2_choose
    rw [r1, ea]
    by_cases z : vl c (un cl t m) 8 < s.1
    · rw [if_pos z, if_pos ((nI_ltI (by omega) (by omega)).mpr z), if_pos (show X 3 1 ≤ nI m by rw [r4 3 1 (by omega) (by omega) (by omega), e3]; exact Int32.le_refl _)]
      refine ⟨(cpF_n (by omega)).trans (u2_s _ _ _ _), Or.inr ⟨by omega, fun j hj => ?_⟩, fun j hj => ?_, fun a b x y w => ?_⟩
      · exact (cpF_s (by omega)).trans ((u2_n _ _ (by omega)).trans (r3 j hj))
      · exact (cpF_n (by omega)).trans ((u2_n _ _ (by omega)).trans (r3 j hj))
      · exact (cpF_n x).trans ((u2_n _ _ w).trans (r4 a b x y w))
    · rw [if_neg z, if_neg (fun y => z ((nI_ltI (by omega) (by omega)).mp y))]
      exact ⟨r1, r2, r3, r4⟩
  | succ n ih =>
    intro m t s X J k a1 a2 hmn hk im ea r
    obtain ⟨k, rfl⟩ : ∃ k', k = k' + 1 := ⟨k - 1, by omega⟩
    have bd : vl c (un cl t m) 8 ≤ 800 := vl_le 8 (fun _ _ q => (un_c h q).2)
    have r' := r
    obtain ⟨r1, r2, r3, r4⟩ := r'
    have sb : s.1 ≤ 1000000 := by rcases r2 with y | y <;> omega
    have m6 : m < 6 := by omega
    show CLZ nm m t (sp W cl c (wkp cl) (n + 1) m t s) A (FI_X2_choose (RG_choose k) (nI m) a1 a2 X J)
    rw [sp_s]
    unfold FI_X2_choose
    by_cases z : vl c (un cl t m) 8 < s.1
    · obtain ⟨w1, w2, w3⟩ := hw m (by omega)
      have L : ∀ d v X' J' N, v + d = W m → d < N → CLZ nm m t (itN (spF W cl c (wkp cl) n m t) v s) A X' → ∃ e X2 J2, itW (B_X2_choose_w49 (RG_choose k) (nI m) a1 a2 X J) N (nI v, X', J') = some (e, X2, J2) ∧ CLZ nm m t (itN (spF W cl c (wkp cl) n m t) (W m) s) A X2 := by
        intro d
        induction d with
        | zero =>
          intro v X' J' N hv hN q
          obtain ⟨N, rfl⟩ : ∃ M, N = M + 1 := ⟨N - 1, by omega⟩
          have ev : v = W m := by omega
          refine ⟨nI v, X', J', itW_r _ _ _ _ ?_, by rw [← ev]; exact q⟩
          unfold B_X2_choose_w49
          refine if_pos ?_
          show atF (X' 6) 8 (nI m) ≤ nI v
          rw [atF_v (show m < 8 by omega) (by omega), q.2.2.2 6 m (by omega) (by omega) (by omega), w1]
          exact nI_le (by omega) (by omega)
        | succ d id =>
          intro v X' J' N hv hN q
          obtain ⟨N, rfl⟩ : ∃ M, N = M + 1 := ⟨N - 1, by omega⟩
          have v6 : v < 6 := by omega
          have cnd : ¬ atF (X' 6) 8 (nI m) ≤ nI v := by
            rw [atF_v (show m < 8 by omega) (by omega), q.2.2.2 6 m (by omega) (by omega) (by omega), w1]
            exact nI_ge (by omega) (by omega)
          have wv := isworth_v (J := J') (X := X') m6 v6 (fun w hw => by
            rw [q.2.2.2 127 _ (by omega) (by omega) (by omega)]
            exact hi m w m6 hw)
          cases wk : wkp cl m v with
          | false =>
            have r : B_X2_choose_w49 (RG_choose k) (nI m) a1 a2 X J (nI v, X', J') = .inl (nI (v + 1), X', J') := by
              unfold B_X2_choose_w49
              refine (if_neg cnd).trans ((if_pos (wv.mpr wk)).trans ?_)
              show Sum.inl (nI v + 1, X', J') = _
              rw [nI_1]
            obtain ⟨e', X2, J2, g1, g2⟩ := id (v + 1) X' J' N (by omega) (by omega) (by
              rw [itN_s, spF_f wk]
              exact q)
            exact ⟨e', X2, J2, (itW_l _ _ _ _ r).trans g1, g2⟩
          | true =>
            have pF : putF X' 126 6 (nI m) (nI v) = u2 X' 126 m (nI v) := putF_v m6 (by omega)
            have ce : atF (X' 127) 36 ((nI m * 6) + nI v) = X' 127 (6 * m + v) := cell36 m6 v6
            have ci : IMK (cl m v) (X' 127 (6 * m + v)) := by
              rw [q.2.2.2 127 _ (by omega) (by omega) (by omega)]
              exact hi m v m6 v6
            have nd := im_nd im ci
            have S1 : S1_X2_choose (RG_choose k) (nI m) a1 a2 X J (nI v, X', J') = nI (vl c (fun i => cl m v i && !un cl t m i) 8) := by
              unfold S1_X2_choose
              show F_X2_costOf (atF (X' 127) 36 ((nI m * 6) + nI v) &&& (a1 ^^^ (-1))) (putF X' 126 6 (nI m) (nI v)) J' = _
              rw [pF, ce]
              refine costof_v nd (fun i hi8 y => ?_)
              have y1 : cl m v i = true := by
                cases e : cl m v i with
                | true => rfl
                | false =>
                  have y2 : (cl m v i && !un cl t m i) = true := y
                  rw [e] at y2
                  exact Bool.noConfusion y2
              rw [u2_n _ _ (by omega), q.2.2.2 10 i (by omega) (by omega) (by omega)]
              exact (hc m v i y1).1
            have a1' : IMK (un cl (up1 t m v) (m + 1)) (a1 ||| (X' 127 (6 * m + v) &&& (a1 ^^^ (-1)))) := im_cg (im_or im nd) (fun i _ => by
              rw [un_s]
              show (un cl t m i || (cl m v i && !un cl t m i)) = _
              cases un cl t m i <;> cases cl m v i <;> rfl)
            have a2' : a2 + nI (vl c (fun i => cl m v i && !un cl t m i) 8) = nI (vl c (un cl (up1 t m v) (m + 1)) 8) := by
              rw [ea, nI_add, ← vl_or (c := c) (u := un cl t m) (v := cl m v) 8]
              exact congrArg nI (vl_cg 8 (fun i _ => ⟨un_s.symm, fun _ => rfl⟩))
            have r : B_X2_choose_w49 (RG_choose k) (nI m) a1 a2 X J (nI v, X', J') = .inl (nI (v + 1), (RG_choose k 0 (nI (m + 1)) (a1 ||| (X' 127 (6 * m + v) &&& (a1 ^^^ (-1)))) (nI (vl c (un cl (up1 t m v) (m + 1)) 8)) (u2 X' 126 m (nI v)) J').1, (RG_choose k 0 (nI (m + 1)) (a1 ||| (X' 127 (6 * m + v) &&& (a1 ^^^ (-1)))) (nI (vl c (un cl (up1 t m v) (m + 1)) 8)) (u2 X' 126 m (nI v)) J').2) := by
              unfold B_X2_choose_w49
              refine (if_neg cnd).trans ((if_neg (fun y => by rw [wv.mp y] at wk; exact Bool.noConfusion wk)).trans ?_)
              unfold S2_X2_choose S3_X2_choose
              rw [S1]
              show Sum.inl (nI v + 1, (RG_choose k 0 (nI m + 1) (a1 ||| (atF (X' 127) 36 ((nI m * 6) + nI v) &&& (a1 ^^^ (-1)))) (a2 + nI (vl c (fun i => cl m v i && !un cl t m i) 8)) (putF X' 126 6 (nI m) (nI v)) J').1, (RG_choose k 0 (nI m + 1) (a1 ||| (atF (X' 127) 36 ((nI m * 6) + nI v) &&& (a1 ^^^ (-1)))) (a2 + nI (vl c (fun i => cl m v i && !un cl t m i) 8)) (putF X' 126 6 (nI m) (nI v)) J').2) = _
              rw [pF, ce, a2', nI_1, nI_1]
            have q' := q
            obtain ⟨q1, q2, q3, q4⟩ := q'
            have inn := ih (m + 1) (up1 t m v) (itN (spF W cl c (wkp cl) n m t) v s) (u2 X' 126 m (nI v)) J' k _ _ (by omega) (by omega) a1' rfl ⟨(u2_n _ _ (by omega)).trans q1, q2.imp (fun y => y) (fun y => ⟨y.1, fun j hj => (u2_n _ _ (by omega)).trans (y.2 j hj)⟩), fun j hj => by
              by_cases y : j = m
              · rw [y, u2_s]
                exact congrArg nI (if_pos rfl).symm
              · rw [u2_n _ _ (by omega), q3 j (by omega)]
                exact congrArg nI (if_neg y).symm, fun a b x y w => (u2_n _ _ (by omega)).trans (q4 a b x y w)⟩
            obtain ⟨i1, i2, i3, i4⟩ := inn
            obtain ⟨e', X2, J2, g1, g2⟩ := id (v + 1) (RG_choose k 0 (nI (m + 1)) (a1 ||| (X' 127 (6 * m + v) &&& (a1 ^^^ (-1)))) (nI (vl c (un cl (up1 t m v) (m + 1)) 8)) (u2 X' 126 m (nI v)) J').1 (RG_choose k 0 (nI (m + 1)) (a1 ||| (X' 127 (6 * m + v) &&& (a1 ^^^ (-1)))) (nI (vl c (un cl (up1 t m v) (m + 1)) 8)) (u2 X' 126 m (nI v)) J').2 N (by omega) (by omega) (by
              rw [itN_s, spF_t wk]
              exact ⟨i1, i2, fun j hj => (i3 j (by omega)).trans (congrArg nI (if_neg (by omega))), i4⟩)
            exact ⟨e', X2, J2, (itW_l _ _ _ _ r).trans g1, g2⟩
      obtain ⟨e', X2, J2, g1, g2⟩ := L (W m) 0 X J 800 (by omega) (by omega) (by rw [itN_0]; exact r)
      have zz : F_X2_choose_w49 (RG_choose k) (nI m) a1 a2 X J (0, X, J) = (e', X2, J2) := by
        unfold F_X2_choose_w49
        exact congrArg (fun o => Option.getD o (0, X, J)) g1
      rw [if_pos z, r1, ea, if_pos ((nI_ltI (by omega) (by omega)).mpr z), if_neg (show ¬ X 3 1 ≤ nI m by rw [r4 3 1 (by omega) (by omega) (by omega), e3]; exact nI_ge (by omega) (by omega)), if_pos (show nI m < 6 from nI_lt (b := 6) m6 (by omega)), ← ea, zz]
      exact g2
    · rw [if_neg z, r1, ea, if_neg (fun y => z ((nI_ltI (by omega) (by omega)).mp y))]
      exact r
/-- the table of masks -/
theorem mask_v {nm ns : Nat} {A B : SI} {JA J : SJ} (sc : SCT 86 0 nm ns A JA B) (hn : ns ≤ 8) : (∀ m v, m < 6 → v < 6 → IMK (clB ns B m v) (F_X2_work_l2 86 A J A 127 (6 * m + v))) ∧ ∀ a b, a ≠ 127 → F_X2_work_l2 86 A J A a b = A a b := by
  have inner : ∀ m, m < 6 → ∀ (s2 s0 : SI), (∀ a b, a < 127 → s0 a b = A a b) → ∀ n, n ≤ 6 → (∀ v, v < n → IMK (clB ns B m v) (itN (B_X2_work_l10 86 A J m s2) n s0 127 (6 * m + v))) ∧ ∀ a b, ¬ (a = 127 ∧ 6 * m ≤ b ∧ b < 6 * m + n) → itN (B_X2_work_l10 86 A J m s2) n s0 a b = s0 a b := by
    intro m hm s2 s0 h0 n
    induction n with
    | zero => intro _; rw [itN_0]; exact ⟨fun v hv => absurd hv (Nat.not_lt_zero v), fun _ _ _ => rfl⟩
    | succ n ih =>
      intro hh
      obtain ⟨i1, i2⟩ := ih (by omega)
      rw [itN_s]
      generalize itN (B_X2_work_l10 86 A J m s2) n s0 = S at *
      have e : B_X2_work_l10 86 A J m s2 n S = u2 S 127 (6 * m + n) (F_X2_clashesBy 86 (nI m) (nI n) S J) := by
        unfold B_X2_work_l10 S3_X2_work
        rw [show (6 : Int32) = nI 6 from rfl, nI_mul, nI_add, putF_v (by omega) (by omega), show m * 6 + n = 6 * m + n by omega]
      rw [e]
      refine ⟨fun v hv => ?_, fun a b q => (u2_n _ _ (by omega)).trans (i2 a b (by omega))⟩
      by_cases y : v = n
      · subst y
        rw [u2_s]
        exact by_v sc hn hm (fun a b z => (i2 a b (by omega)).trans (h0 a b z))
      · rw [u2_n _ _ (by omega)]
        exact i1 v (by omega)
  have outer : ∀ n, n ≤ 6 → (∀ m v, m < n → v < 6 → IMK (clB ns B m v) (itN (B_X2_work_l2 86 A J) n A 127 (6 * m + v))) ∧ ∀ a b, ¬ (a = 127 ∧ b < 6 * n) → itN (B_X2_work_l2 86 A J) n A a b = A a b := by
    intro n
    induction n with
    | zero => intro _; rw [itN_0]; exact ⟨fun m v hv => absurd hv (Nat.not_lt_zero m), fun _ _ _ => rfl⟩
    | succ n ih =>
      intro hh
      obtain ⟨i1, i2⟩ := ih (by omega)
      rw [itN_s]
      generalize itN (B_X2_work_l2 86 A J) n A = S at *
      have k := inner n (by omega) S S (fun a b z => i2 a b (by omega)) 6 (Nat.le_refl _)
      have e : B_X2_work_l2 86 A J n S = itN (B_X2_work_l10 86 A J n S) 6 S := rfl
      rw [e]
      refine ⟨fun m v hm hv => ?_, fun a b q => (k.2 a b (by omega)).trans (i2 a b (by omega))⟩
      by_cases y : m = n
      · subst y
        exact k.1 v hv
      · rw [k.2 127 _ (by omega)]
        exact i1 m v (by omega) hv
  have o := outer 6 (Nat.le_refl _)
  exact ⟨fun m v hm hv => o.1 m v hm hv, fun a b z => o.2 a b (fun q => z q.1)⟩
/-- counts, ways and costs that are told -/
theorem ways_v {A B : SI} (t : TL A B) : ∃ nm ns, CN nm ns A B ∧ (∀ m, m < nm → A 6 m = B 135 m ∧ inR (A 6 m) 7 ∧ ¬ A 6 m = 0) ∧ ∀ i, i < ns → A 10 i = B 137 i ∧ inR (A 10 i) 100 := by
  obtain ⟨⟨c, hc, c1, c2, c3, _⟩, ⟨d, hd, d1, d2, d3, _⟩, _⟩ := t
  refine ⟨c, d, ⟨hc, hd, c1, d1, c2, d2⟩, fun m hm => ?_, fun i hi => ?_⟩
  · have k := c3 m hm (6, 135) (by unfold TSM; simp)
    have k2 := k.2
    unfold BD at k2
    simp at k2
    exact ⟨k.1, k2.1, k2.2⟩
  · have k := d3 i hi (10, 137) (by unfold TSS; simp)
    have k2 := k.2
    unfold BD at k2
    simp at k2
    exact ⟨k.1, k2⟩
theorem least_val {a0 : Int32} {A B : SI} {JA J' : SJ} (g : GTL A B) (s : GSC A JA B) : F_X11_least a0 A JA = F_X12_least a0 B J' := by
  unfold F_X11_least F_X12_least
  obtain ⟨nm, ns, c, sc, _, _⟩ := gsc0 (v := 0) s
  have t0 : TL A (u2 B 130 0 0) := (tl_g g).mv (fun _ _ _ _ => rfl) (fun a b z => u2_n _ _ (by unfold mT at z; omega))
  obtain ⟨nm', ns', c', hw, hc⟩ := ways_v t0
  have em : nm' = nm := (nI_eq (by have := c'.1; omega) (by have := c.1; omega)).mp (c'.2.2.1.symm.trans c.2.2.1)
  have en : ns' = ns := (nI_eq (by have := c'.2.1; omega) (by have := c.2.1; omega)).mp (c'.2.2.2.1.symm.trans c.2.2.2.1)
  subst em
  subst en
  obtain ⟨hm, hn, a3, a8, b0, b1⟩ := c
  generalize u2 B 130 0 0 = B0 at *
  have wn : ∀ m, m < nm' → B0 135 m = nI (B0 135 m).toNatClampNeg ∧ 0 < (B0 135 m).toNatClampNeg ∧ (B0 135 m).toNatClampNeg < 7 := fun m h => by
    obtain ⟨k1, k2, k3⟩ := hw m h
    rw [k1] at k2 k3
    refine ⟨k2.1, ?_, k2.2⟩
    rcases Nat.eq_zero_or_pos (B0 135 m).toNatClampNeg with y | y
    · exact absurd (k2.1.trans (by rw [y]; rfl)) k3
    · exact y
  have cn : ∀ i, i < ns' → B0 137 i = nI (B0 137 i).toNatClampNeg ∧ (B0 137 i).toNatClampNeg < 100 := fun i h => by
    obtain ⟨k1, k2⟩ := hc i h
    rw [k1] at k2
    exact k2
  have LM : LTM nm' ns' (fun m => (B0 135 m).toNatClampNeg) (fun i => (B0 137 i).toNatClampNeg) B0 := ⟨hm, hn, b0, b1, wn, cn⟩
  obtain ⟨mk, mo⟩ := mask_v (J := JA) sc hn
  have ao : ∀ a b, a ≠ 127 → a ≠ 125 → ¬ (a = 124 ∧ b = 1) → u2 (fillF (F_X2_work_l2 86 A JA A) 125 0 6) 124 1 1000000 a b = A a b := fun a b x y z => (u2_n _ _ z).trans ((fillF_n y).trans (mo a b x))
  have LC : LTC nm' (fun m => (B0 135 m).toNatClampNeg) (fun i => (B0 137 i).toNatClampNeg) (clB ns' B0) (u2 (fillF (F_X2_work_l2 86 A JA A) 125 0 6) 124 1 1000000) := by
    refine ⟨hm, (ao 3 1 (by omega) (by omega) (by omega)).trans a3, fun m h => ?_, fun m v i h => ?_, fun m v h1 h2 => ?_⟩
    · have k := wn m h
      exact ⟨(ao 6 m (by omega) (by omega) (by omega)).trans ((hw m h).1.trans k.1), k.2⟩
    · have hi := (clB_t.mp h).1
      have k := cn i hi
      exact ⟨(ao 10 i (by omega) (by omega) (by omega)).trans ((hc i hi).1.trans k.1), k.2⟩
    · rw [u2_n _ _ (by omega), fillF_n (by omega)]
      exact mk m v h1 h2
  have R := say_v LM nm' 0 (fun _ => 0) (1000000, fun _ => 0) (u2 B0 130 62 (-1)) J' 8 (by omega) (by omega) ⟨Or.inl ⟨rfl, u2_s _ _ _ _⟩, fun j hj => absurd hj (Nat.not_lt_zero j), fun a b _ _ z => u2_n _ _ z⟩
  have C := choose_v LC nm' 0 (fun _ => 0) (1000000, fun _ => 0) (u2 (fillF (F_X2_work_l2 86 A JA A) 125 0 6) 124 1 1000000) JA 8 0 0 (by omega) (by omega) (im_cg im_z (fun _ _ => rfl)) (by
    have k : vl (fun i => (B0 137 i).toNatClampNeg) (un (clB ns' B0) (fun _ => 0) 0) 8 = 0 := vl_cut (n := 0) 8 (fun _ _ _ => rfl)
    rw [k]
    rfl) ⟨u2_s _ _ _ _, Or.inl rfl, fun j hj => absurd hj (Nat.not_lt_zero j), fun _ _ _ _ _ => rfl⟩
  have lo := sr_lf (W := fun m => (B0 135 m).toNatClampNeg) (cl := clB ns' B0) (c := fun i => (B0 137 i).toNatClampNeg) nm' 0 (fun _ => 0) (fun _ => 0) (fun j hj => absurd hj (Nat.not_lt_zero j)) (fun j _ h => (wn j (by omega)).2.1) (1000000, fun _ => 0)
  have bd := LM.bd (m := 0 + nm') (t := fun _ => 0) (B0 := B0)
  rw [sp_eq wkp_f] at C
  have eX : FI_X2_work 86 A JA = (RG_choose 8 0 (nI 0) 0 0 (u2 (fillF (F_X2_work_l2 86 A JA A) 125 0 6) 124 1 1000000) JA).1 := rfl
  have R' : RLS nm' 0 (fun _ => 0) (sr (fun m => (B0 135 m).toNatClampNeg) (clB ns' B0) (fun i => (B0 137 i).toNatClampNeg) nm' 0 (fun _ => 0) (1000000, fun _ => 0)) B0 (RG_sayings 8 0 0 (u2 B0 130 62 (-1)) J').1 := R
  rw [← eX] at C
  generalize sr (fun m => (B0 135 m).toNatClampNeg) (clB ns' B0) (fun i => (B0 137 i).toNatClampNeg) nm' 0 (fun _ => 0) (1000000, fun _ => 0) = r at *
  generalize FI_X2_work 86 A JA = X at *
  have y130 : (RG_sayings 8 0 0 (u2 B0 130 62 (-1)) J').1 132 0 = nI nm' := (R'.2.2 132 0 (by omega) (by omega) (by omega)).trans b0
  generalize (RG_sayings 8 0 0 (u2 B0 130 62 (-1)) J').1 = Y at *
  obtain ⟨x1, x2, _⟩ := C
  obtain ⟨y1, _, _⟩ := R'
  have y1 := y1.resolve_left (fun q => by have := q.1; omega)
  have x2 := x2.resolve_left (fun q => by omega)
  by_cases c0 : a0 < 0
  · rw [if_pos c0, if_pos c0]
  rw [if_neg c0, if_neg c0]
  by_cases c1 : a0 ≤ 6
  · rw [if_pos c1, if_pos c1]
    obtain ⟨q, hq, rfl⟩ := (in_le (N := 6) (by omega) c0 c1).n
    by_cases e : q = 6
    · subst e
      rw [if_pos (show (6 : Int32) ≤ nI 6 by decide), if_pos (show nI 6 = 6 from rfl), if_pos (show nI 6 = 6 from rfl)]
      exact x1.trans y1.2.1.symm
    · have e6 : ¬ nI q = 6 := fun z => e ((nI_eq (b := 6) (by omega) (by omega)).mp z)
      rw [if_neg (show ¬ (6 : Int32) ≤ nI q from nI_ge (b := 6) (by omega) (by omega)), a3, y130]
      by_cases z : q < nm'
      · rw [if_pos ((nI_ltI (by omega) (by omega)).mpr z), if_neg e6, if_neg e6, if_neg (nI_ge z (by omega)), nI_clamp (show q < 2 ^ 31 by omega), atF_v (show q < 6 by omega) (by omega)]
        exact (x2.2 q z).trans (y1.2.2 q z).symm
      · rw [if_neg (fun y => z ((nI_ltI (by omega) (by omega)).mp y)), if_neg e6, if_pos (nI_le (by omega) (by omega))]
  · rw [if_neg c1, if_neg c1]
