/-! GirlShots: rows, and Math -/
theorem w_cI {K : KT} {M : Mt} {d cl sl pc pc' : Nat} {ls : List (Nat × Value)} {st : List Value} {I : SI} {J : SJ} {R : SR} {n g : Nat} {idx np d2 mc ms k : Nat} {As : List Value} {Y : Mt} {I1 : SI} {J1 : SJ} {R1 : SR} {n1 g1 : Nat} (ok : OK K M d) (dc : Dc M pc (.invokespecial idx) 3 pc') (mi : MIn Y np) (lk : LK M idx Y) (hM : MM d2 mc ms Y (.ref k :: As) I J R n g (Pd none I1 J1 R1 n1 g1)) (hd : d2 < d) (hn : As.length = np) (hw : (st.map Value.category).sum ≤ 8) (hcap : cl + mc ≤ K.2.2.2.1.cells ∧ sl + ms ≤ K.2.2.2.1.slots) (kk : WK K (cl + mc) (sl + ms) pc' ls st I1 J1 R1 n1 g1) : WK K cl sl pc ls (As.reverse ++ .ref k :: st) I J R n g :=
  w_callI ok dc mi lk hM hd hn hw hcap (fun v' I' J' R' n' g' h => by obtain ⟨rfl, rfl, rfl, rfl, rfl, rfl⟩ := h; exact kk)
theorem cap_of {K : KT} {M : Mt} {P : PT} {mc ms a b : Nat} (fin : Fnl K M P mc ms) (h1 : a ≤ mc) (h2 : b ≤ ms) : a ≤ K.2.2.2.1.cells ∧ b ≤ K.2.2.2.1.slots := by
  obtain ⟨p, l, e, Rm, s, m, args, below, meth, c, Q, cy, D, base, nL⟩ := K
  obtain ⟨e1, e2, -⟩ := fin
  exact ⟨by rw [← e1] at h1; exact h1, by rw [← e2] at h2; exact h2⟩
theorem Zr.up {I : SI} {J : SJ} {R : SR} {n m : Nat} (h : Zr I J R n) (hm : n ≤ m := by omega) : Zr I J R m := fun a j ha => h a j (Nat.le_trans hm ha)
theorem Zr.putI {I : SI} {J : SJ} {R : SR} {n k j : Nat} {x : Int32} (h : Zr I J R n) (hk : k < n) : Zr (u2 I k j x) J R n := fun a b ha => ⟨by rw [u2_k _ _ (by omega)]; exact (h a b ha).1, (h a b ha).2⟩
theorem Zr.putJ {I : SI} {J : SJ} {R : SR} {n k j : Nat} {x : Int64} (h : Zr I J R n) (hk : k < n) : Zr I (u2 J k j x) R n := fun a b ha => ⟨(h a b ha).1, by rw [u2_k _ _ (by omega)]; exact (h a b ha).2.1, (h a b ha).2.2⟩
theorem Zr.putR {I : SI} {J : SJ} {R : SR} {n k j : Nat} {x : Option Nat} (h : Zr I J R n) (hk : k < n) : Zr I J (u2 R k j x) n := fun a b ha => ⟨(h a b ha).1, (h a b ha).2.1, by rw [u2_k _ _ (by omega)]; exact (h a b ha).2.2⟩
theorem Zr.fill {I : SI} {J : SJ} {R : SR} {n k m : Nat} {x : Int32} (h : Zr I J R n) (hk : k < n) : Zr (fun a b => if a = k ∧ b < m then x else I a b) J R n := by
  intro a b ha
  have e : a ≠ k := by omega
  refine ⟨?_, (h a b ha).2⟩
  simp only [e, false_and, if_false]
  exact (h a b ha).1
def minI (a b : Int32) : Int32 := if b < a then b else a
def maxI (a b : Int32) : Int32 := if a < b then b else a
def minL (a b : Int64) : Int64 := if b < a then b else a
def maxL (a b : Int64) : Int64 := if b < a then a else b
def absL (a : Int64) : Int64 := if 0 < a then a else -a
theorem w_minI {K : KT} {M : Mt} {d cl sl pc pc' : Nat} {ls : List (Nat × Value)} {st : List Value} {I : SI} {J : SJ} {R : SR} {n g : Nat} {idx : Nat} {x y : Int32} (ok : OK K M d) (dc : Dc M pc (.invokestatic idx) 3 pc') (lk : Cond.methodLink M.1.cls idx Lib.Math.min.name ∈ ALLW) (hw : (st.map Value.category).sum ≤ 8) (kk : WK K cl sl pc' ls (.int (minI x y) :: st) I J R n g) : WK K cl sl pc ls (.int y :: .int x :: st) I J R n g := by
  obtain ⟨p, l, e, Rm, s, m, args, below, meth, c, Q, cy, D, base, nL⟩ := K
  obtain ⟨hx, hb, hnL, hml, hts, hown, hK, hNW, hfr, hlo, hbs, hini, hXS⟩ := ok
  obtain ⟨hdg, rfl⟩ := dc
  intro hc1 hc2 H locs rls hP hz hS hl
  have hcat : ((st.map (rv base)).map fun v => v.category).sum ≤ 8 := by
    rw [List.map_map]
    have e : ((fun v => v.category) ∘ rv base) = Value.category := by funext v; exact rv_cat base v
    rw [e]; exact hw
  exact va_mmin hx hb (hml.trans hl.1.symm) hown (hts _ lk) (hts _ (iT_1 47 (by decide +kernel) (by decide +kernel))) (hts _ (iT_1 4 (by decide +kernel) (by decide +kernel))) (hts _ (iT_1 48 (by decide +kernel) (by decide +kernel))) (by omega) (by omega) hc1 hc2 hdg (kk hc1 hc2 H locs rls hP hz hS hl)
theorem w_maxI {K : KT} {M : Mt} {d cl sl pc pc' : Nat} {ls : List (Nat × Value)} {st : List Value} {I : SI} {J : SJ} {R : SR} {n g : Nat} {idx : Nat} {x y : Int32} (ok : OK K M d) (dc : Dc M pc (.invokestatic idx) 3 pc') (lk : Cond.methodLink M.1.cls idx Lib.Math.max.name ∈ ALLW) (hw : (st.map Value.category).sum ≤ 8) (kk : WK K cl sl pc' ls (.int (maxI x y) :: st) I J R n g) : WK K cl sl pc ls (.int y :: .int x :: st) I J R n g := by
  obtain ⟨p, l, e, Rm, s, m, args, below, meth, c, Q, cy, D, base, nL⟩ := K
  obtain ⟨hx, hb, hnL, hml, hts, hown, hK, hNW, hfr, hlo, hbs, hini, hXS⟩ := ok
  obtain ⟨hdg, rfl⟩ := dc
  intro hc1 hc2 H locs rls hP hz hS hl
  have hcat : ((st.map (rv base)).map fun v => v.category).sum ≤ 8 := by
    rw [List.map_map]
    have e : ((fun v => v.category) ∘ rv base) = Value.category := by funext v; exact rv_cat base v
    rw [e]; exact hw
  exact va_mmax hx hb (hml.trans hl.1.symm) hown (hts _ lk) (hts _ (iT_5 159 (by decide +kernel) (by decide +kernel))) (hts _ (iT_1 4 (by decide +kernel) (by decide +kernel))) (hts _ (iT_5 160 (by decide +kernel) (by decide +kernel))) (by omega) (by omega) hc1 hc2 hdg (kk hc1 hc2 H locs rls hP hz hS hl)
theorem w_minL {K : KT} {M : Mt} {d cl sl pc pc' : Nat} {ls : List (Nat × Value)} {st : List Value} {I : SI} {J : SJ} {R : SR} {n g : Nat} {idx : Nat} {x y : Int64} (ok : OK K M d) (dc : Dc M pc (.invokestatic idx) 3 pc') (lk : Cond.methodLink M.1.cls idx Lib.MathLoose.min_long.x ∈ ALLW) (hw : (st.map Value.category).sum ≤ 8) (kk : WK K cl sl pc' ls (.long (minL x y) :: st) I J R n g) : WK K cl sl pc ls (.long y :: .long x :: st) I J R n g := by
  obtain ⟨p, l, e, Rm, s, m, args, below, meth, c, Q, cy, D, base, nL⟩ := K
  obtain ⟨hx, hb, hnL, hml, hts, hown, hK, hNW, hfr, hlo, hbs, hini, hXS⟩ := ok
  obtain ⟨hdg, rfl⟩ := dc
  intro hc1 hc2 H locs rls hP hz hS hl
  have hcat : ((st.map (rv base)).map fun v => v.category).sum ≤ 8 := by
    rw [List.map_map]
    have e : ((fun v => v.category) ∘ rv base) = Value.category := by funext v; exact rv_cat base v
    rw [e]; exact hw
  exact va_mmin_long hx hb (hml.trans hl.1.symm) hown (hts _ lk) (hts _ (iT_5 8 (by decide +kernel) (by decide +kernel))) (hts _ (iT_1 4 (by decide +kernel) (by decide +kernel))) (hts _ (iT_5 9 (by decide +kernel) (by decide +kernel))) (by omega) (by omega) hc1 hc2 hdg (kk hc1 hc2 H locs rls hP hz hS hl)
theorem w_maxL {K : KT} {M : Mt} {d cl sl pc pc' : Nat} {ls : List (Nat × Value)} {st : List Value} {I : SI} {J : SJ} {R : SR} {n g : Nat} {idx : Nat} {x y : Int64} (ok : OK K M d) (dc : Dc M pc (.invokestatic idx) 3 pc') (lk : Cond.methodLink M.1.cls idx Lib.MathLoose.max_long.x ∈ ALLW) (hw : (st.map Value.category).sum ≤ 8) (kk : WK K cl sl pc' ls (.long (maxL x y) :: st) I J R n g) : WK K cl sl pc ls (.long y :: .long x :: st) I J R n g := by
  obtain ⟨p, l, e, Rm, s, m, args, below, meth, c, Q, cy, D, base, nL⟩ := K
  obtain ⟨hx, hb, hnL, hml, hts, hown, hK, hNW, hfr, hlo, hbs, hini, hXS⟩ := ok
  obtain ⟨hdg, rfl⟩ := dc
  intro hc1 hc2 H locs rls hP hz hS hl
  have hcat : ((st.map (rv base)).map fun v => v.category).sum ≤ 8 := by
    rw [List.map_map]
    have e : ((fun v => v.category) ∘ rv base) = Value.category := by funext v; exact rv_cat base v
    rw [e]; exact hw
  exact va_mmax_long hx hb (hml.trans hl.1.symm) hown (hts _ lk) (hts _ (iT_5 11 (by decide +kernel) (by decide +kernel))) (hts _ (iT_1 4 (by decide +kernel) (by decide +kernel))) (hts _ (iT_5 12 (by decide +kernel) (by decide +kernel))) (by omega) (by omega) hc1 hc2 hdg (kk hc1 hc2 H locs rls hP hz hS hl)
theorem w_absL {K : KT} {M : Mt} {d cl sl pc pc' : Nat} {ls : List (Nat × Value)} {st : List Value} {I : SI} {J : SJ} {R : SR} {n g : Nat} {idx : Nat} {x : Int64} (ok : OK K M d) (dc : Dc M pc (.invokestatic idx) 3 pc') (lk : Cond.methodLink M.1.cls idx Lib.MathLoose.abs_long.x ∈ ALLW) (hw : (st.map Value.category).sum ≤ 8) (kk : WK K cl sl pc' ls (.long (absL x) :: st) I J R n g) : WK K cl sl pc ls (.long x :: st) I J R n g := by
  obtain ⟨p, l, e, Rm, s, m, args, below, meth, c, Q, cy, D, base, nL⟩ := K
  obtain ⟨hx, hb, hnL, hml, hts, hown, hK, hNW, hfr, hlo, hbs, hini, hXS⟩ := ok
  obtain ⟨hdg, rfl⟩ := dc
  intro hc1 hc2 H locs rls hP hz hS hl
  have hcat : ((st.map (rv base)).map fun v => v.category).sum ≤ 8 := by
    rw [List.map_map]
    have e : ((fun v => v.category) ∘ rv base) = Value.category := by funext v; exact rv_cat base v
    rw [e]; exact hw
  exact va_mabs_long hx hb (hml.trans hl.1.symm) hown (hts _ lk) (hts _ (iT_8 85 (by decide +kernel) (by decide +kernel))) (hts _ (iT_1 4 (by decide +kernel) (by decide +kernel))) (hts _ (iT_8 86 (by decide +kernel) (by decide +kernel))) (by omega) (by omega) hc1 hc2 hdg (kk hc1 hc2 H locs rls hP hz hS hl)
theorem ne_toInt {x k : Int32} (h : ¬ x = k) : x.toInt ≠ k.toInt := fun e => h (Int32.toInt_inj.mp e)
def itE {σ ρ : Type} (f : Nat → σ → σ ⊕ ρ) (m i : Nat) (s : σ) : σ ⊕ ρ := match m with
  | 0 => .inl s
  | m + 1 => match f i s with
    | .inl s' => itE f m (i + 1) s'
    | .inr r => .inr r
termination_by m
theorem itE_0 {σ ρ : Type} (f : Nat → σ → σ ⊕ ρ) (i : Nat) (s : σ) : itE f 0 i s = .inl s := by rw [itE]
theorem itE_l {σ ρ : Type} (f : Nat → σ → σ ⊕ ρ) (m i : Nat) (s s' : σ) (h : f i s = .inl s') : itE f (m + 1) i s = itE f m (i + 1) s' := by rw [itE, h]
theorem itE_r {σ ρ : Type} (f : Nat → σ → σ ⊕ ρ) (m i : Nat) (s : σ) (r : ρ) (h : f i s = .inr r) : itE f (m + 1) i s = .inr r := by rw [itE, h]
def itW {σ ρ : Type} (f : σ → σ ⊕ ρ) (n : Nat) (s : σ) : Option ρ := match n with
  | 0 => none
  | n + 1 => match f s with
    | .inl s' => itW f n s'
    | .inr r => some r
termination_by n
theorem itW_0 {σ ρ : Type} (f : σ → σ ⊕ ρ) (s : σ) : itW f 0 s = none := by rw [itW]
theorem itW_l {σ ρ : Type} (f : σ → σ ⊕ ρ) (n : Nat) (s s' : σ) (h : f s = .inl s') : itW f (n + 1) s = itW f n s' := by rw [itW, h]
theorem itW_r {σ ρ : Type} (f : σ → σ ⊕ ρ) (n : Nat) (s : σ) (r : ρ) (h : f s = .inr r) : itW f (n + 1) s = some r := by rw [itW, h]
def wN {σ ρ : Type} (f : σ → σ ⊕ ρ) (n : Nat) (s : σ) : Option σ := match n with
  | 0 => some s
  | n + 1 => match wN f n s with
    | none => none
    | some s' => match f s' with
      | .inl s2 => some s2
      | .inr _ => none
termination_by n
theorem wN_0 {σ ρ : Type} (f : σ → σ ⊕ ρ) (s : σ) : wN f 0 s = some s := by rw [wN]
theorem wN_s {σ ρ : Type} (f : σ → σ ⊕ ρ) (n : Nat) (s s' s2 : σ) (h : wN f n s = some s') (h2 : f s' = .inl s2) : wN f (n + 1) s = some s2 := by rw [wN, h]; simp only [h2]
theorem itE_succ {σ ρ : Type} (f : Nat → σ → σ ⊕ ρ) (i : Nat) (s0 s s' : σ) (h : itE f i 0 s0 = .inl s) (h2 : f i s = .inl s') : itE f (i + 1) 0 s0 = .inl s' := by
  have key : ∀ m a s1, itE f m a s1 = .inl s → a + m = i → itE f (m + 1) a s1 = .inl s' := by
    intro m
    induction m with
    | zero =>
      intro a s1 h1 ha
      rw [itE_0] at h1
      have e : s1 = s := by cases h1; rfl
      have e2 : a = i := by omega
      subst e; subst e2
      rw [itE_l f 0 _ _ _ h2]
      exact itE_0 _ _ _
    | succ m ih =>
      intro a s1 h1 ha
      cases h3 : f a s1 with
      | inl s2 =>
        rw [itE_l f m a s1 s2 h3] at h1
        have := ih (a + 1) s2 h1 (by omega)
        rw [itE_l f (m + 1) a s1 s2 h3]
        exact this
      | inr r => rw [itE_r f m a s1 r h3] at h1; cases h1
  exact key i 0 s0 h (by omega)
theorem itW_some {σ : Type} {f : σ → σ ⊕ σ} {N : Nat} {s0 : σ} (h : (itW f N s0).isSome = true) : itW f N s0 = some ((itW f N s0).getD s0) := by
  cases h2 : itW f N s0 with
  | none => rw [h2] at h; cases h
  | some r => rfl
theorem loop_w {σ ρ : Type} (Wd : σ → Prop) (Xd : ρ → Prop) (f : σ → σ ⊕ ρ) (N : Nat) (s0 : σ) (r : ρ) (h : itW f N s0 = some r) (hX : Xd r)
    (hstep : ∀ k s, wN f k s0 = some s → (∀ s', f s = .inl s' → Wd s') → (∀ r', f s = .inr r' → Xd r') → Wd s) : Wd s0 := by
  have key : ∀ n k s, wN f k s0 = some s → itW f n s = some r → Wd s := by
    intro n
    induction n with
    | zero => intro k s _ h2; rw [itW_0] at h2; cases h2
    | succ n ih =>
      intro k s h1 h2
      refine hstep k s h1 (fun s' hs => ih (k + 1) s' (wN_s f k s0 s s' h1 hs) ?_) (fun r' hr => ?_)
      · rw [← h2, itW_l f n s s' hs]
      · have : some r' = some r := by rw [← h2, itW_r f n s r' hr]
        cases this
        exact hX
  exact key N 0 s0 (wN_0 _ _) h
theorem itW_some2 {σ ρ : Type} {f : σ → σ ⊕ (σ ⊕ ρ)} {N : Nat} {s0 : σ} (h : (itW f N s0).isSome = true) : itW f N s0 = some ((itW f N s0).getD (.inl s0)) := by
  cases h2 : itW f N s0 with
  | none => rw [h2] at h; cases h
  | some r => rfl
theorem loop_wr {σ ρ : Type} (Wd : σ → Prop) (f : σ → σ ⊕ (σ ⊕ ρ)) (N : Nat) (s0 : σ) (r : σ ⊕ ρ) (h : itW f N s0 = some r)
    (hstep : ∀ k s, wN f k s0 = some s → (∀ s', f s = .inl s' → Wd s') → (∀ r', f s = .inr r' → r = r') → Wd s) : Wd s0 := by
  have key : ∀ n k s, wN f k s0 = some s → itW f n s = some r → Wd s := by
    intro n
    induction n with
    | zero => intro k s _ h2; rw [itW_0] at h2; cases h2
    | succ n ih =>
      intro k s h1 h2
      refine hstep k s h1 (fun s' hs => ih (k + 1) s' (wN_s f k s0 s s' h1 hs) ?_) (fun r' hr => ?_)
      · rw [← h2, itW_l f n s s' hs]
      · have : some r = some r' := by rw [← h2, itW_r f n s r' hr]
        cases this
        rfl
  exact key N 0 s0 (wN_0 _ _) h
theorem loop_e {σ ρ : Type} (Wd : Nat → σ → Prop) (f : Nat → σ → σ ⊕ ρ) (N : Nat) (s0 : σ) (hend : ∀ s, itE f N 0 s0 = .inl s → Wd N s)
    (hstep : ∀ i s, i < N → itE f i 0 s0 = .inl s → (∀ s', f i s = .inl s' → Wd (i + 1) s') → (∀ r, f i s = .inr r → itE f N 0 s0 = .inr r) → Wd i s) : Wd 0 s0 := by
  have h : ∀ m i s, i + m = N → itE f i 0 s0 = .inl s → itE f m i s = itE f N 0 s0 → Wd i s := by
    intro m
    induction m with
    | zero =>
      intro i s hi hr he
      have e : i = N := by omega
      subst e
      rw [itE_0] at he
      exact hend s he.symm
    | succ m ih =>
      intro i s hi hre he
      refine hstep i s (by omega) hre (fun s' hs => ih (i + 1) s' (by omega) (itE_succ f i s0 s s' hre hs) ?_) (fun r hr => ?_)
      · rw [← he, itE_l f m i s s' hs]
      · rw [← he, itE_r f m i s r hr]
  exact h N 0 s0 (by omega) (itE_0 _ _ _) rfl
set_option maxHeartbeats 4000000 in
set_option maxRecDepth 20000 in
theorem g_at {K : KT} {n g : Nat} {P : PT} {I : SI} {J : SJ} {R : SR} {r len : Nat} {i : Int32} {q1 : Nat} (ok : OK K mX11_at 0) (fin : Fnl K mX11_at P 0 0) (hs : SH r = (14, len)) (hk : r < n) (hlen : len < 2 ^ 31) (h1 : i < 0 → P (some (.int 0)) I J R n g) (h2 : ¬ (i < 0) → (nI len) ≤ i → P (some (.int 0)) I J R n g) (h3 : ¬ (i < 0) → ¬ ((nI len) ≤ i) → i = nI q1 ∧ q1 < len) (h4 : ¬ (i < 0) → ¬ ((nI len) ≤ i) → P (some (.int (I r q1))) I J R n g) : WK K 0 0 0 [(0, .ref r), (1, .int i)] [] I J R n g := by
  refine w_iload_n ok dX11_at_0 1 rfl ?_
  refine w_if_lt (tgt := 16) ok dX11_at_1 (by decide) (fun c1 => ?_) (fun c1 => ?_)
  · skip
    refine w_iconst (v := 0) ok dX11_at_16 (by decide) ?_
    exact w_iret ok fin dX11_at_17 rfl (h1 c1)
  · skip
    refine w_iload_n ok dX11_at_4 1 rfl ?_
    refine w_aload_n ok dX11_at_5 0 rfl ?_
    refine w_alen (v := nI len) ok dX11_at_6 hs (by decide) rfl hk ?_
    refine w_icmp_ge (tgt := 16) ok dX11_at_7 (by decide) (fun c2 => ?_) (fun c2 => ?_)
    · skip
      refine w_iconst (v := 0) ok dX11_at_16 (by decide) ?_
      exact w_iret ok fin dX11_at_17 rfl (h2 c1 c2)
    · skip
      refine w_aload_n ok dX11_at_10 0 rfl ?_
      refine w_iload_n ok dX11_at_11 1 rfl ?_
      refine x_iald (q := q1) ok dX11_at_12 hs (h3 c1 c2) hlen hk ?_
      refine w_goto (tgt := 17) ok dX11_at_13 (by decide) ?_
      exact w_iret ok fin dX11_at_17 rfl (h4 c1 c2)

set_option maxHeartbeats 4000000 in
set_option maxRecDepth 20000 in
theorem c_at {I : SI} {J : SJ} {R : SR} {n g : Nat} {r len : Nat} (hs : SH r = (14, len)) (hk : r < n) (i : Int32) : MM 0 0 0 mX11_at [.ref r, .int i] I J R n g (Pd (some (.int (atF (I r) len i))) I J R n g) := by
  refine MM.of (by decide) (Nat.le_of_ble_eq_true rfl) fun K ok fin => ?_
  exact g_at (q1 := i.toNatClampNeg) ok fin hs hk (sh_len hs) (fun h => ⟨by simp [atF, h], rfl, rfl, rfl, rfl, rfl⟩) (fun h h2 => ⟨by simp [atF, h2], rfl, rfl, rfl, rfl, rfl⟩) (fun h h2 => in_of h h2 (sh_len hs)) (fun h h2 => ⟨by simp [atF, h, h2], rfl, rfl, rfl, rfl, rfl⟩)
def putF (I : SI) (r len : Nat) (i x : Int32) : SI := if i < 0 then I else if nI len ≤ i then I else u2 I r i.toNatClampNeg x
set_option maxHeartbeats 4000000 in
set_option maxRecDepth 20000 in
theorem g_put {K : KT} {n g : Nat} {P : PT} {I : SI} {J : SJ} {R : SR} {r len : Nat} {i x : Int32} {q1 : Nat} (ok : OK K mX11_put 0) (fin : Fnl K mX11_put P 0 0) (hs : SH r = (14, len)) (hk : r < n) (hlen : len < 2 ^ 31) (h1 : i < 0 → P none I J R n g) (h2 : ¬ (i < 0) → (nI len) ≤ i → P none I J R n g) (h3 : ¬ (i < 0) → ¬ ((nI len) ≤ i) → i = nI q1 ∧ q1 < len) (h4 : ¬ (i < 0) → ¬ ((nI len) ≤ i) → P none (u2 I r q1 x) J R n g) : WK K 0 0 0 [(0, .ref r), (1, .int i), (2, .int x)] [] I J R n g := by
  refine w_iload_n ok dX11_put_0 1 rfl ?_
  refine w_if_lt (tgt := 14) ok dX11_put_1 (by decide) (fun c1 => ?_) (fun c1 => ?_)
  · skip
    exact w_vret ok fin dX11_put_14 rfl (h1 c1)
  · skip
    refine w_iload_n ok dX11_put_4 1 rfl ?_
    refine w_aload_n ok dX11_put_5 0 rfl ?_
    refine w_alen (v := nI len) ok dX11_put_6 hs (by decide) rfl hk ?_
    refine w_icmp_ge (tgt := 14) ok dX11_put_7 (by decide) (fun c2 => ?_) (fun c2 => ?_)
    · skip
      exact w_vret ok fin dX11_put_14 rfl (h2 c1 c2)
    · skip
      refine w_aload_n ok dX11_put_10 0 rfl ?_
      refine w_iload_n ok dX11_put_11 1 rfl ?_
      refine w_iload_n ok dX11_put_12 2 rfl ?_
      refine x_iast (q := q1) ok dX11_put_13 hs (h3 c1 c2) hlen hk ?_
      exact w_vret ok fin dX11_put_14 rfl (h4 c1 c2)

set_option maxHeartbeats 4000000 in
set_option maxRecDepth 20000 in
theorem c_put {I : SI} {J : SJ} {R : SR} {n g : Nat} {r len : Nat} (hs : SH r = (14, len)) (hk : r < n) (i x : Int32) : MM 0 0 0 mX11_put [.ref r, .int i, .int x] I J R n g (Pd none (putF I r len i x) J R n g) := by
  refine MM.of (by decide) (Nat.le_of_ble_eq_true rfl) fun K ok fin => ?_
  exact g_put (q1 := i.toNatClampNeg) ok fin hs hk (sh_len hs) (fun h => ⟨rfl, by simp [putF, h], rfl, rfl, rfl, rfl⟩) (fun h h2 => ⟨rfl, by simp [putF, h2], rfl, rfl, rfl, rfl⟩) (fun h h2 => in_of h h2 (sh_len hs)) (fun h h2 => ⟨rfl, by simp [putF, h, h2], rfl, rfl, rfl, rfl⟩)
set_option maxHeartbeats 4000000 in
set_option maxRecDepth 20000 in
theorem g_fill0 {K : KT} {n g : Nat} {P : PT} {I : SI} {J : SJ} {R : SR} {r len : Nat} {x : Int32} (ok : OK K mX11_fill 0) (fin : Fnl K mX11_fill P 0 0) (hs : SH r = (14, len)) (hk : r < n) (hlen : len < 2 ^ 31) (h1 : WK K 0 0 2 [(0, .ref r), (1, .int x), (2, .int 0)] [] I J R n g) : WK K 0 0 0 [(0, .ref r), (1, .int x)] [] I J R n g := by
  refine w_iconst (v := 0) ok dX11_fill_0 (by decide) ?_
  refine w_istore_n ok dX11_fill_1 rfl (by decide) rfl ?_
  refine w_loc [1, 2, 0] rfl ?_
  exact (h1)

set_option maxHeartbeats 4000000 in
set_option maxRecDepth 20000 in
theorem g_fill2 {K : KT} {n g : Nat} {P : PT} {I : SI} {J : SJ} {R : SR} {r len : Nat} {x i : Int32} {q1 : Nat} (ok : OK K mX11_fill 0) (fin : Fnl K mX11_fill P 0 0) (hs : SH r = (14, len)) (hk : r < n) (hlen : len < 2 ^ 31) (h1 : (nI len) ≤ i → P none I J R n g) (h2 : ¬ ((nI len) ≤ i) → i = nI q1 ∧ q1 < len) (h3 : ¬ ((nI len) ≤ i) → WK K 0 0 2 [(0, .ref r), (1, .int x), (2, .int (i + 1))] [] (u2 I r q1 x) J R n g) : WK K 0 0 2 [(0, .ref r), (1, .int x), (2, .int i)] [] I J R n g := by
  refine w_iload_n ok dX11_fill_2 2 rfl ?_
  refine w_aload_n ok dX11_fill_3 0 rfl ?_
  refine w_alen (v := nI len) ok dX11_fill_4 hs (by decide) rfl hk ?_
  refine w_icmp_ge (tgt := 18) ok dX11_fill_5 (by decide) (fun c1 => ?_) (fun c1 => ?_)
  · skip
    exact w_vret ok fin dX11_fill_18 rfl (h1 c1)
  · skip
    refine w_aload_n ok dX11_fill_8 0 rfl ?_
    refine w_iload_n ok dX11_fill_9 2 rfl ?_
    refine w_iload_n ok dX11_fill_10 1 rfl ?_
    refine x_iast (q := q1) ok dX11_fill_11 hs (h2 c1) hlen hk ?_
    refine w_iinc (v := i + 1) ok dX11_fill_12 2 rfl rfl (by decide) rfl ?_
    refine w_goto (tgt := 2) ok dX11_fill_15 (by decide) ?_
    refine w_loc [1, 2, 0] rfl ?_
    exact (h3 c1)

/-- all of a row put to one value -/
def fillF (I : SI) (r : Nat) (x : Int32) (k : Nat) : SI := fun a b => if a = r ∧ b < k then x else I a b
theorem fillF_s (I : SI) (r : Nat) (x : Int32) (k : Nat) : u2 (fillF I r x k) r k x = fillF I r x (k + 1) := by
  funext a b
  unfold u2 fillF
  by_cases h1 : a = r <;> by_cases h2 : b = k <;> simp [h1, h2] <;> (by_cases h3 : b < k <;> simp [h3] <;> omega)
theorem fillF_0 (I : SI) (r : Nat) (x : Int32) : fillF I r x 0 = I := by funext a b; simp [fillF]
set_option maxHeartbeats 4000000 in
set_option maxRecDepth 20000 in
theorem c_fill {I : SI} {J : SJ} {R : SR} {n g : Nat} {r len : Nat} (hs : SH r = (14, len)) (hk : r < n) (x : Int32) : MM 0 0 0 mX11_fill [.ref r, .int x] I J R n g (Pd none (fillF I r x len) J R n g) := by
  refine MM.of (by decide) (Nat.le_of_ble_eq_true rfl) fun K ok fin => ?_
  have hl := sh_len hs
  refine g_fill0 ok fin hs hk hl ?_
  have key : ∀ m i, i + m = len → WK K 0 0 2 [(0, .ref r), (1, .int x), (2, .int (nI i))] [] (fillF I r x i) J R n g := by
    intro m
    induction m with
    | zero =>
      intro i hi
      refine g_fill2 (q1 := i) ok fin hs hk hl (fun _ => ?_) (fun h => absurd (nI_le (by omega) (by omega)) h) (fun h => absurd (nI_le (by omega) (by omega)) h)
      rw [show i = len by omega]
      exact Pd.i
    | succ m ih =>
      intro i hi
      refine g_fill2 (q1 := i) ok fin hs hk hl (fun h => absurd h (nI_ge (by omega) (by omega))) (fun _ => ⟨rfl, by omega⟩) (fun _ => ?_)
      have := ih (i + 1) (by omega)
      rw [← fillF_s] at this
      rw [nI_1]
      exact this
  have := key len 0 (by omega)
  rw [fillF_0] at this
  exact this
set_option maxHeartbeats 4000000 in
set_option maxRecDepth 20000 in
theorem g_copyRow {K : KT} {n g : Nat} {P : PT} {I : SI} {J : SJ} {R : SR} {r0 r1 l0 l1 : Nat} (ok : OK K mX11_copyRow 1) (fin : Fnl K mX11_copyRow P 0 0) (hs0 : SH r0 = (14, l0)) (hs1 : SH r1 = (14, l1)) (hk0 : r0 < n) (hk1 : r1 < n) (h1 : WK K 0 0 11 [(0, .ref r0), (1, .ref r1)] [.int (minI (nI l0) (nI l1)), .int 0, .ref r1, .int 0, .ref r0] I J R n g) : WK K 0 0 0 [(0, .ref r0), (1, .ref r1)] [] I J R n g := by
  refine w_aload_n ok dX11_copyRow_0 0 rfl ?_
  refine w_iconst (v := 0) ok dX11_copyRow_1 (by decide) ?_
  refine w_aload_n ok dX11_copyRow_2 1 rfl ?_
  refine w_iconst (v := 0) ok dX11_copyRow_3 (by decide) ?_
  refine w_aload_n ok dX11_copyRow_4 0 rfl ?_
  refine w_alen (v := nI l0) ok dX11_copyRow_5 hs0 (by decide) rfl hk0 ?_
  refine w_aload_n ok dX11_copyRow_6 1 rfl ?_
  refine w_alen (v := nI l1) ok dX11_copyRow_7 hs1 (by decide) rfl hk1 ?_
  refine w_minI ok dX11_copyRow_8 (iT_3 62 (by decide +kernel) (by decide +kernel)) (Nat.le_of_ble_eq_true rfl) ?_
  exact (h1)

def cpF (I : SI) (r0 r1 k : Nat) : SI := fun a b => if a = r1 ∧ b < k then I r0 b else I a b
theorem cpF_eq (I : SI) (r0 r1 k : Nat) : (fun a => if a = r1 then va_cpy (I r0) (I r1) 0 0 k else I a) = cpF I r0 r1 k := by
  funext a b
  unfold cpF va_cpy
  by_cases h : a = r1
  · subst h
    by_cases h2 : b < k <;> simp [h2]
  · simp [h]
set_option maxHeartbeats 4000000 in
set_option maxRecDepth 20000 in
theorem c_copyRow {I : SI} {J : SJ} {R : SR} {n g : Nat} {r0 r1 l0 l1 : Nat} (hs0 : SH r0 = (14, l0)) (hs1 : SH r1 = (14, l1)) (hk0 : r0 < n) (hk1 : r1 < n) : MM 1 0 0 mX11_copyRow [.ref r0, .ref r1] I J R n g (Pd none (cpF I r0 r1 (min l0 l1)) J R n g) := by
  refine MM.of (by decide) (Nat.le_of_ble_eq_true rfl) fun K ok fin => ?_
  have h0 := sh_len hs0
  have h1 := sh_len hs1
  refine g_copyRow ok fin hs0 hs1 hk0 hk1 ?_
  have hm : minI (nI l0) (nI l1) = nI (min l0 l1) := by
    unfold minI
    rcases Nat.lt_or_ge l1 l0 with q | q
    · rw [if_pos (nI_lt q h0), Nat.min_eq_right (by omega)]
    · rw [if_neg (nI_nlt q h1), Nat.min_eq_left q]
  refine w_copy (sp := 0) (dp := 0) (len := min l0 l1) ok dX11_copyRow_11 (iT_3 63 (by decide +kernel) (by decide +kernel)) (iT_3 65 (by decide +kernel) (by decide +kernel)) (iT_3 64 (by decide +kernel) (by decide +kernel)) (iT_1 18 (by decide +kernel) (by decide +kernel)) hs0 hs1 hk0 hk1 rfl rfl hm (by omega) (by omega) h0 h1 (by decide) ?_
  refine w_vret ok fin dX11_copyRow_14 rfl ?_
  rw [cpF_eq]
  exact Pd.i
