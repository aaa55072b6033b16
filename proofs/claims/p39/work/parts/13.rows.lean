/-! GirlShots: rows, and Math -/
theorem w_cI {K : KT} {M : Mt} {d cl sl pc pc' : Nat} {ls : List (Nat × Value)} {st : List Value} {I : SI} {J : SJ} {R : SR} {n g : Nat} {idx np d2 mc ms k : Nat} {As : List Value} {Y : Mt} {I1 : SI} {J1 : SJ} {R1 : SR} {n1 g1 : Nat} (ok : OK K M d) (dc : Dc M pc (.invokespecial idx) 3 pc') (mi : MIn Y np) (lk : LK M idx Y) (hM : MM d2 mc ms Y (.ref k :: As) I J R n g (Pd none I1 J1 R1 n1 g1)) (hd : d2 < d) (hn : As.length = np) (hw : (st.map Value.category).sum ≤ 8) (hcap : cl + mc ≤ K.2.2.2.1.cells ∧ sl + ms ≤ K.2.2.2.1.slots) (kk : WK K (cl + mc) (sl + ms) pc' ls st I1 J1 R1 n1 g1) : WK K cl sl pc ls (As.reverse ++ .ref k :: st) I J R n g :=
  w_callI ok dc mi lk hM hd hn hw hcap (fun v' I' J' R' n' g' h => by obtain ⟨rfl, rfl, rfl, rfl, rfl, rfl⟩ := h; exact kk)
theorem cap_of {K : KT} {M : Mt} {P : PT} {mc ms a b : Nat} (fin : Fnl K M P mc ms) (h1 : a ≤ mc) (h2 : b ≤ ms) : a ≤ K.2.2.2.1.cells ∧ b ≤ K.2.2.2.1.slots := by
  obtain ⟨p, l, e, Rm, s, m, args, below, meth, c, Q, cy, D, base, nL⟩ := K
  obtain ⟨e1, e2, -⟩ := fin
  exact ⟨by rw [← e1] at h1; exact h1, by rw [← e2] at h2; exact h2⟩
theorem Zr.up {I : SI} {J : SJ} {R : SR} {n m : Nat} (h : Zr I J R n) (hm : n ≤ m := by omega) : Zr I J R m := fun a j ha => h a j (Nat.le_trans hm ha)
theorem Zr.putI {I : SI} {J : SJ} {R : SR} {n k j : Nat} {x : Int32} (h : Zr I J R n) (hk : k < n) : Zr (u2 I k j x) J R n := fun a b ha => ⟨by rw [u2_k _ _ (by omega)]; exact (h a b ha).1, (h a b ha).2⟩
theorem Zr.putJ {I : SI} {J : SJ} {R : SR} {n k j : Nat} {x : Int64} (h : Zr I J R n) (hk : k < n) : Zr I (u2 J k j x) R n := fun a b ha => ⟨(h a b ha).1, by rw [u2_k _ _ (by omega)]; exact (h a b ha).2.1, (h a b ha).2.2⟩
theorem Zr.putR {I : SI} {J : SJ} {R : SR} {n k j : Nat} {x : Option Nat} (h : Zr I J R n) (hk : k < n) : Zr I J (u2 R k j x) n := fun a b ha => ⟨(h a b ha).1, (h a b ha).2.1, by rw [u2_k _ _ (by omega)]; exact (h a b ha).2.2⟩
theorem Zr.fill {I : SI} {J : SJ} {R : SR} {n k m : Nat} {x : Int32} (h : Zr I J R n) (hk : k < n) : Zr (fun a b => if a = k ∧ b < m then x else I a b) J R n := by
  intro a b ha
  have e : a ≠ k := by omega
  refine ⟨?_, (h a b ha).2⟩
  simp only [e, false_and, if_false]
  exact (h a b ha).1
/-! two worlds: the class's places (below nK) and the model's; a frame says which is ours and holds the other -/
abbrev Fr : Type := Bool × SI × SJ
def eI (f : Fr) (I : SI) : SI := fun k => if decide (k < nK) = f.1 then I k else f.2.1 k
def eJ (f : Fr) (J : SJ) : SJ := fun k => if decide (k < nK) = f.1 then J k else f.2.2 k
def sd (f : Fr) (k : Nat) : Prop := decide (k < nK) = f.1
theorem sdc {f : Fr} {k : Nat} (hf : f.1 = true) (h : k < nK) : sd f k := by unfold sd; rw [hf]; exact decide_eq_true h
theorem sdm {f : Fr} {k : Nat} (hf : f.1 = false) (h : ¬ k < nK) : sd f k := by unfold sd; rw [hf]; exact decide_eq_false h
theorem eI_at {f : Fr} {I : SI} {k : Nat} (h : sd f k) : eI f I k = I k := if_pos h
theorem eJ_at {f : Fr} {J : SJ} {k : Nat} (h : sd f k) : eJ f J k = J k := if_pos h
theorem eI_u2 {f : Fr} {I : SI} {k j : Nat} {v : Int32} (h : sd f k) : u2 (eI f I) k j v = eI f (u2 I k j v) := by
  funext a b
  by_cases e : a = k
  · subst e; rw [eI_at h]; unfold u2; simp only [eI_at h]
  · rw [u2_k _ _ e]; unfold eI; rw [u2_k _ _ e]
theorem eJ_u2 {f : Fr} {J : SJ} {k j : Nat} {v : Int64} (h : sd f k) : u2 (eJ f J) k j v = eJ f (u2 J k j v) := by
  funext a b
  by_cases e : a = k
  · subst e; rw [eJ_at h]; unfold u2; simp only [eJ_at h]
  · rw [u2_k _ _ e]; unfold eJ; rw [u2_k _ _ e]
theorem eI_cpy {f : Fr} {I : SI} {r0 r1 sp dp len : Nat} (h0 : sd f r0) (h1 : sd f r1) : (fun a => if a = r1 then va_cpy (eI f I r0) (eI f I r1) sp dp len else eI f I a) = eI f (fun a => if a = r1 then va_cpy (I r0) (I r1) sp dp len else I a) := by
  funext a
  by_cases e : a = r1
  · subst e; rw [eI_at h0, eI_at h1, if_pos rfl]; exact ((eI_at (I := fun x => if x = a then va_cpy (I r0) (I a) sp dp len else I x) h1).trans (if_pos rfl)).symm
  · simp only [if_neg e]; unfold eI; by_cases q : decide (a < nK) = f.1
    · rw [if_pos q, if_pos q]; simp [e]
    · rw [if_neg q, if_neg q]
theorem y_getI {K : KT} {M : Mt} {d cl sl pc pc' : Nat} {ls : List (Nat × Value)} {st : List Value} {I : SI} {J : SJ} {R : SR} {n g : Nat} {f : Fr} {idx ci j k : Nat} (ok : OK K M d) (dc : Dc M pc (.getfield idx) 3 pc') (fl : FL M idx ci j) (hs : (SH k).1 = ci) (ht : isI (tyC ci j) = true) (hk : k < n) (s : sd f k) (kk : WK K cl sl pc' ls (.int (I k j) :: st) (eI f I) (eJ f J) R n g) : WK K cl sl pc ls (.ref k :: st) (eI f I) (eJ f J) R n g :=
  w_getI ok dc fl hs ht hk (by rw [eI_at s]; exact kk)
theorem y_getJ {K : KT} {M : Mt} {d cl sl pc pc' : Nat} {ls : List (Nat × Value)} {st : List Value} {I : SI} {J : SJ} {R : SR} {n g : Nat} {f : Fr} {idx ci j k : Nat} (ok : OK K M d) (dc : Dc M pc (.getfield idx) 3 pc') (fl : FL M idx ci j) (hs : (SH k).1 = ci) (ht : tyC ci j = .long) (hk : k < n) (s : sd f k) (kk : WK K cl sl pc' ls (.long (J k j) :: st) (eI f I) (eJ f J) R n g) : WK K cl sl pc ls (.ref k :: st) (eI f I) (eJ f J) R n g :=
  w_getJ ok dc fl hs ht hk (by rw [eJ_at s]; exact kk)
theorem y_putI {K : KT} {M : Mt} {d cl sl pc pc' : Nat} {ls : List (Nat × Value)} {st : List Value} {I : SI} {J : SJ} {R : SR} {n g : Nat} {f : Fr} {idx ci j k : Nat} {x : Int32} (ok : OK K M d) (dc : Dc M pc (.putfield idx) 3 pc') (fl : FLW M idx ci j) (hs : (SH k).1 = ci) (ht : tyC ci j = .int) (hk : k < n) (s : sd f k) (kk : WK K cl sl pc' ls st (eI f (u2 I k j x)) (eJ f J) R n g) : WK K cl sl pc ls (.int x :: .ref k :: st) (eI f I) (eJ f J) R n g :=
  w_putI ok dc fl hs ht hk (by rw [eI_u2 s]; exact kk)
theorem y_putZ {K : KT} {M : Mt} {d cl sl pc pc' : Nat} {ls : List (Nat × Value)} {st : List Value} {I : SI} {J : SJ} {R : SR} {n g : Nat} {f : Fr} {idx ci j k : Nat} {x : Int32} (ok : OK K M d) (dc : Dc M pc (.putfield idx) 3 pc') (fl : FLW M idx ci j) (hs : (SH k).1 = ci) (ht : tyC ci j = .boolean) (hx01 : x = 0 ∨ x = 1) (hk : k < n) (s : sd f k) (kk : WK K cl sl pc' ls st (eI f (u2 I k j x)) (eJ f J) R n g) : WK K cl sl pc ls (.int x :: .ref k :: st) (eI f I) (eJ f J) R n g :=
  w_putZ ok dc fl hs ht hx01 hk (by rw [eI_u2 s]; exact kk)
theorem y_putJ {K : KT} {M : Mt} {d cl sl pc pc' : Nat} {ls : List (Nat × Value)} {st : List Value} {I : SI} {J : SJ} {R : SR} {n g : Nat} {f : Fr} {idx ci j k : Nat} {x : Int64} (ok : OK K M d) (dc : Dc M pc (.putfield idx) 3 pc') (fl : FLW M idx ci j) (hs : (SH k).1 = ci) (ht : tyC ci j = .long) (hk : k < n) (s : sd f k) (kk : WK K cl sl pc' ls st (eI f I) (eJ f (u2 J k j x)) R n g) : WK K cl sl pc ls (.long x :: .ref k :: st) (eI f I) (eJ f J) R n g :=
  w_putJ ok dc fl hs ht hk (by rw [eJ_u2 s]; exact kk)
theorem y_iald {K : KT} {M : Mt} {d cl sl pc pc' : Nat} {ls : List (Nat × Value)} {st : List Value} {I : SI} {J : SJ} {R : SR} {n g : Nat} {f : Fr} {k len q : Nat} {i : Int32} (ok : OK K M d) (dc : Dc M pc .iaload 1 pc') (hs : SH k = (14, len)) (hq : i = nI q ∧ q < len) (hlen : len < 2 ^ 31) (hk : k < n) (s : sd f k) (kk : WK K cl sl pc' ls (.int (I k q) :: st) (eI f I) (eJ f J) R n g) : WK K cl sl pc ls (.int i :: .ref k :: st) (eI f I) (eJ f J) R n g :=
  x_iald ok dc hs hq hlen hk (by rw [eI_at s]; exact kk)
theorem y_bald {K : KT} {M : Mt} {d cl sl pc pc' : Nat} {ls : List (Nat × Value)} {st : List Value} {I : SI} {J : SJ} {R : SR} {n g : Nat} {f : Fr} {k len q : Nat} {i : Int32} (ok : OK K M d) (dc : Dc M pc .baload 1 pc') (hs : SH k = (13, len)) (hq : i = nI q ∧ q < len) (hlen : len < 2 ^ 31) (hk : k < n) (s : sd f k) (kk : WK K cl sl pc' ls (.int (I k q) :: st) (eI f I) (eJ f J) R n g) : WK K cl sl pc ls (.int i :: .ref k :: st) (eI f I) (eJ f J) R n g :=
  x_bald ok dc hs hq hlen hk (by rw [eI_at s]; exact kk)
theorem y_zald {K : KT} {M : Mt} {d cl sl pc pc' : Nat} {ls : List (Nat × Value)} {st : List Value} {I : SI} {J : SJ} {R : SR} {n g : Nat} {f : Fr} {k len q : Nat} {i : Int32} (ok : OK K M d) (dc : Dc M pc .baload 1 pc') (hs : SH k = (16, len)) (hq : i = nI q ∧ q < len) (hlen : len < 2 ^ 31) (hk : k < n) (s : sd f k) (kk : WK K cl sl pc' ls (.int (I k q) :: st) (eI f I) (eJ f J) R n g) : WK K cl sl pc ls (.int i :: .ref k :: st) (eI f I) (eJ f J) R n g :=
  x_zald ok dc hs hq hlen hk (by rw [eI_at s]; exact kk)
theorem y_lald {K : KT} {M : Mt} {d cl sl pc pc' : Nat} {ls : List (Nat × Value)} {st : List Value} {I : SI} {J : SJ} {R : SR} {n g : Nat} {f : Fr} {k len q : Nat} {i : Int32} (ok : OK K M d) (dc : Dc M pc .laload 1 pc') (hs : SH k = (15, len)) (hq : i = nI q ∧ q < len) (hlen : len < 2 ^ 31) (hk : k < n) (s : sd f k) (kk : WK K cl sl pc' ls (.long (J k q) :: st) (eI f I) (eJ f J) R n g) : WK K cl sl pc ls (.int i :: .ref k :: st) (eI f I) (eJ f J) R n g :=
  x_lald ok dc hs hq hlen hk (by rw [eJ_at s]; exact kk)
theorem y_iast {K : KT} {M : Mt} {d cl sl pc pc' : Nat} {ls : List (Nat × Value)} {st : List Value} {I : SI} {J : SJ} {R : SR} {n g : Nat} {f : Fr} {k len q : Nat} {i : Int32} {x : Int32} (ok : OK K M d) (dc : Dc M pc .iastore 1 pc') (hs : SH k = (14, len)) (hq : i = nI q ∧ q < len) (hlen : len < 2 ^ 31) (hk : k < n) (s : sd f k) (kk : WK K cl sl pc' ls st (eI f (u2 I k q x)) (eJ f J) R n g) : WK K cl sl pc ls (.int x :: .int i :: .ref k :: st) (eI f I) (eJ f J) R n g :=
  x_iast ok dc hs hq hlen hk (by rw [eI_u2 s]; exact kk)
theorem y_bast {K : KT} {M : Mt} {d cl sl pc pc' : Nat} {ls : List (Nat × Value)} {st : List Value} {I : SI} {J : SJ} {R : SR} {n g : Nat} {f : Fr} {k len q : Nat} {i : Int32} {x : Int32} (ok : OK K M d) (dc : Dc M pc .bastore 1 pc') (hs : SH k = (13, len)) (hq : i = nI q ∧ q < len) (hlen : len < 2 ^ 31) (hk : k < n) (s : sd f k) (kk : WK K cl sl pc' ls st (eI f (u2 I k q (vp_nar .byte x))) (eJ f J) R n g) : WK K cl sl pc ls (.int x :: .int i :: .ref k :: st) (eI f I) (eJ f J) R n g :=
  x_bast ok dc hs hq hlen hk (by rw [eI_u2 s]; exact kk)
theorem y_zast {K : KT} {M : Mt} {d cl sl pc pc' : Nat} {ls : List (Nat × Value)} {st : List Value} {I : SI} {J : SJ} {R : SR} {n g : Nat} {f : Fr} {k len q : Nat} {i : Int32} {x : Int32} (ok : OK K M d) (dc : Dc M pc .bastore 1 pc') (hs : SH k = (16, len)) (hq : i = nI q ∧ q < len) (hlen : len < 2 ^ 31) (hk : k < n) (s : sd f k) (kk : WK K cl sl pc' ls st (eI f (u2 I k q (vp_nar .boolean x))) (eJ f J) R n g) : WK K cl sl pc ls (.int x :: .int i :: .ref k :: st) (eI f I) (eJ f J) R n g :=
  x_zast ok dc hs hq hlen hk (by rw [eI_u2 s]; exact kk)
theorem y_last {K : KT} {M : Mt} {d cl sl pc pc' : Nat} {ls : List (Nat × Value)} {st : List Value} {I : SI} {J : SJ} {R : SR} {n g : Nat} {f : Fr} {k len q : Nat} {i : Int32} {x : Int64} (ok : OK K M d) (dc : Dc M pc .lastore 1 pc') (hs : SH k = (15, len)) (hq : i = nI q ∧ q < len) (hlen : len < 2 ^ 31) (hk : k < n) (s : sd f k) (kk : WK K cl sl pc' ls st (eI f I) (eJ f (u2 J k q x)) R n g) : WK K cl sl pc ls (.long x :: .int i :: .ref k :: st) (eI f I) (eJ f J) R n g :=
  x_last ok dc hs hq hlen hk (by rw [eJ_u2 s]; exact kk)
theorem y_copy {K : KT} {M : Mt} {d cl sl pc pc' : Nat} {ls : List (Nat × Value)} {st : List Value} {I : SI} {J : SJ} {R : SR} {n g : Nat} {f : Fr} {idx r0 r1 n0 n1 sp dp len : Nat} {xs xd xl : Int32} (ok : OK K M d) (dc : Dc M pc (.invokestatic idx) 3 pc') (hlink : Cond.methodLink M.1.cls idx arraycopyName ∈ ALLW) (hnat : Cond.native arraycopyName ∈ ALLW) (hstat : Cond.static arraycopyName ∈ ALLW) (hini2 : Cond.initialized "java/lang/System" ∈ ALLW) (hs0 : SH r0 = (14, n0)) (hs1 : SH r1 = (14, n1)) (hk0 : r0 < n) (hk1 : r1 < n) (s0 : sd f r0) (s1 : sd f r1) (es : xs = nI sp) (ed : xd = nI dp) (el : xl = nI len) (h4 : sp + len ≤ n0) (h5 : dp + len ≤ n1) (h6 : n0 < 2 ^ 31) (h7 : n1 < 2 ^ 31) (hw : (st.map Value.category).sum ≤ 8) (kk : WK K cl sl pc' ls st (eI f (fun a => if a = r1 then va_cpy (I r0) (I r1) sp dp len else I a)) (eJ f J) R n g) : WK K cl sl pc ls (.int xl :: .int xd :: .ref r1 :: .int xs :: .ref r0 :: st) (eI f I) (eJ f J) R n g :=
  w_copy ok dc hlink hnat hstat hini2 hs0 hs1 hk0 hk1 es ed el h4 h5 h6 h7 hw (by rw [eI_cpy s0 s1]; exact kk)
def minI (a b : Int32) : Int32 := if b < a then b else a
def maxI (a b : Int32) : Int32 := if a < b then b else a
def minL (a b : Int64) : Int64 := if b < a then b else a
def maxL (a b : Int64) : Int64 := if b < a then a else b
def absL (a : Int64) : Int64 := if 0 < a then a else -a
theorem w_minI {K : KT} {M : Mt} {d cl sl pc pc' : Nat} {ls : List (Nat × Value)} {st : List Value} {I : SI} {J : SJ} {R : SR} {n g : Nat} {idx : Nat} {x y : Int32} (ok : OK K M d) (dc : Dc M pc (.invokestatic idx) 3 pc') (lk : Cond.methodLink M.1.cls idx Lib.Math.min.name ∈ ALLW) (hw : (st.map Value.category).sum ≤ 8) (kk : WK K cl sl pc' ls (.int (minI x y) :: st) I J R n g) : WK K cl sl pc ls (.int y :: .int x :: st) I J R n g := by
  obtain ⟨p, l, e, Rm, s, m, args, below, meth, c, Q, cy, D, base, nL⟩ := K
  obtain ⟨hx, hb, hnL, hml, hts, hown, hK, hNW, hfr, hlo, hbs, hini, hXS⟩ := ok
  obtain ⟨hdg, rfl⟩ := dc
  intro hc1 hc2 H locs rls hP hz hS hl
  have hcat : ((st.map (rv base)).map fun v => v.category).sum ≤ 8 := by
    rw [List.map_map]
    have e : ((fun v => v.category) ∘ rv base) = Value.category := by funext v; exact rv_cat base v
    rw [e]; exact hw
  exact va_mmin hx hb (hml.trans hl.1.symm) hown (hts _ lk) (hts _ (iT_1 47 (by decide +kernel) (by decide +kernel))) (hts _ (iT_1 4 (by decide +kernel) (by decide +kernel))) (hts _ (iT_1 48 (by decide +kernel) (by decide +kernel))) (by omega) (by omega) hc1 hc2 hdg (kk hc1 hc2 H locs rls hP hz hS hl)
theorem w_maxI {K : KT} {M : Mt} {d cl sl pc pc' : Nat} {ls : List (Nat × Value)} {st : List Value} {I : SI} {J : SJ} {R : SR} {n g : Nat} {idx : Nat} {x y : Int32} (ok : OK K M d) (dc : Dc M pc (.invokestatic idx) 3 pc') (lk : Cond.methodLink M.1.cls idx Lib.Math.max.name ∈ ALLW) (hw : (st.map Value.category).sum ≤ 8) (kk : WK K cl sl pc' ls (.int (maxI x y) :: st) I J R n g) : WK K cl sl pc ls (.int y :: .int x :: st) I J R n g := by
  obtain ⟨p, l, e, Rm, s, m, args, below, meth, c, Q, cy, D, base, nL⟩ := K
  obtain ⟨hx, hb, hnL, hml, hts, hown, hK, hNW, hfr, hlo, hbs, hini, hXS⟩ := ok
  obtain ⟨hdg, rfl⟩ := dc
  intro hc1 hc2 H locs rls hP hz hS hl
  have hcat : ((st.map (rv base)).map fun v => v.category).sum ≤ 8 := by
    rw [List.map_map]
    have e : ((fun v => v.category) ∘ rv base) = Value.category := by funext v; exact rv_cat base v
    rw [e]; exact hw
  exact va_mmax hx hb (hml.trans hl.1.symm) hown (hts _ lk) (hts _ (iT_5 162 (by decide +kernel) (by decide +kernel))) (hts _ (iT_1 4 (by decide +kernel) (by decide +kernel))) (hts _ (iT_5 163 (by decide +kernel) (by decide +kernel))) (by omega) (by omega) hc1 hc2 hdg (kk hc1 hc2 H locs rls hP hz hS hl)
theorem w_minL {K : KT} {M : Mt} {d cl sl pc pc' : Nat} {ls : List (Nat × Value)} {st : List Value} {I : SI} {J : SJ} {R : SR} {n g : Nat} {idx : Nat} {x y : Int64} (ok : OK K M d) (dc : Dc M pc (.invokestatic idx) 3 pc') (lk : Cond.methodLink M.1.cls idx Lib.MathLoose.min_long.x ∈ ALLW) (hw : (st.map Value.category).sum ≤ 8) (kk : WK K cl sl pc' ls (.long (minL x y) :: st) I J R n g) : WK K cl sl pc ls (.long y :: .long x :: st) I J R n g := by
  obtain ⟨p, l, e, Rm, s, m, args, below, meth, c, Q, cy, D, base, nL⟩ := K
  obtain ⟨hx, hb, hnL, hml, hts, hown, hK, hNW, hfr, hlo, hbs, hini, hXS⟩ := ok
  obtain ⟨hdg, rfl⟩ := dc
  intro hc1 hc2 H locs rls hP hz hS hl
  have hcat : ((st.map (rv base)).map fun v => v.category).sum ≤ 8 := by
    rw [List.map_map]
    have e : ((fun v => v.category) ∘ rv base) = Value.category := by funext v; exact rv_cat base v
    rw [e]; exact hw
  exact va_mmin_long hx hb (hml.trans hl.1.symm) hown (hts _ lk) (hts _ (iT_5 8 (by decide +kernel) (by decide +kernel))) (hts _ (iT_1 4 (by decide +kernel) (by decide +kernel))) (hts _ (iT_5 9 (by decide +kernel) (by decide +kernel))) (by omega) (by omega) hc1 hc2 hdg (kk hc1 hc2 H locs rls hP hz hS hl)
theorem w_maxL {K : KT} {M : Mt} {d cl sl pc pc' : Nat} {ls : List (Nat × Value)} {st : List Value} {I : SI} {J : SJ} {R : SR} {n g : Nat} {idx : Nat} {x y : Int64} (ok : OK K M d) (dc : Dc M pc (.invokestatic idx) 3 pc') (lk : Cond.methodLink M.1.cls idx Lib.MathLoose.max_long.x ∈ ALLW) (hw : (st.map Value.category).sum ≤ 8) (kk : WK K cl sl pc' ls (.long (maxL x y) :: st) I J R n g) : WK K cl sl pc ls (.long y :: .long x :: st) I J R n g := by
  obtain ⟨p, l, e, Rm, s, m, args, below, meth, c, Q, cy, D, base, nL⟩ := K
  obtain ⟨hx, hb, hnL, hml, hts, hown, hK, hNW, hfr, hlo, hbs, hini, hXS⟩ := ok
  obtain ⟨hdg, rfl⟩ := dc
  intro hc1 hc2 H locs rls hP hz hS hl
  have hcat : ((st.map (rv base)).map fun v => v.category).sum ≤ 8 := by
    rw [List.map_map]
    have e : ((fun v => v.category) ∘ rv base) = Value.category := by funext v; exact rv_cat base v
    rw [e]; exact hw
  exact va_mmax_long hx hb (hml.trans hl.1.symm) hown (hts _ lk) (hts _ (iT_5 11 (by decide +kernel) (by decide +kernel))) (hts _ (iT_1 4 (by decide +kernel) (by decide +kernel))) (hts _ (iT_5 12 (by decide +kernel) (by decide +kernel))) (by omega) (by omega) hc1 hc2 hdg (kk hc1 hc2 H locs rls hP hz hS hl)
theorem w_absL {K : KT} {M : Mt} {d cl sl pc pc' : Nat} {ls : List (Nat × Value)} {st : List Value} {I : SI} {J : SJ} {R : SR} {n g : Nat} {idx : Nat} {x : Int64} (ok : OK K M d) (dc : Dc M pc (.invokestatic idx) 3 pc') (lk : Cond.methodLink M.1.cls idx Lib.MathLoose.abs_long.x ∈ ALLW) (hw : (st.map Value.category).sum ≤ 8) (kk : WK K cl sl pc' ls (.long (absL x) :: st) I J R n g) : WK K cl sl pc ls (.long x :: st) I J R n g := by
  obtain ⟨p, l, e, Rm, s, m, args, below, meth, c, Q, cy, D, base, nL⟩ := K
  obtain ⟨hx, hb, hnL, hml, hts, hown, hK, hNW, hfr, hlo, hbs, hini, hXS⟩ := ok
  obtain ⟨hdg, rfl⟩ := dc
  intro hc1 hc2 H locs rls hP hz hS hl
  have hcat : ((st.map (rv base)).map fun v => v.category).sum ≤ 8 := by
    rw [List.map_map]
    have e : ((fun v => v.category) ∘ rv base) = Value.category := by funext v; exact rv_cat base v
    rw [e]; exact hw
  exact va_mabs_long hx hb (hml.trans hl.1.symm) hown (hts _ lk) (hts _ (iT_8 84 (by decide +kernel) (by decide +kernel))) (hts _ (iT_1 4 (by decide +kernel) (by decide +kernel))) (hts _ (iT_8 85 (by decide +kernel) (by decide +kernel))) (by omega) (by omega) hc1 hc2 hdg (kk hc1 hc2 H locs rls hP hz hS hl)
theorem pr2 {α β : Type} {P : α → β → Prop} {a : α} {b : β} (h : P (a, b).1 (a, b).2) : P a b := h
theorem pr3 {α β γ : Type} {P : α → β → γ → Prop} {a : α} {b : β} {c : γ} (h : P (a, b, c).1 (a, b, c).2.1 (a, b, c).2.2) : P a b c := h
theorem pr4 {α β γ δ : Type} {P : α → β → γ → δ → Prop} {a : α} {b : β} {c : γ} {d : δ} (h : P (a, b, c, d).1 (a, b, c, d).2.1 (a, b, c, d).2.2.1 (a, b, c, d).2.2.2) : P a b c d := h
theorem ne_toInt {x k : Int32} (h : ¬ x = k) : x.toInt ≠ k.toInt := fun e => h (Int32.toInt_inj.mp e)
def itE {σ ρ : Type} (f : Nat → σ → σ ⊕ ρ) (m i : Nat) (s : σ) : σ ⊕ ρ := match m with
  | 0 => .inl s
  | m + 1 => match f i s with
    | .inl s' => itE f m (i + 1) s'
    | .inr r => .inr r
termination_by m
theorem itE_0 {σ ρ : Type} (f : Nat → σ → σ ⊕ ρ) (i : Nat) (s : σ) : itE f 0 i s = .inl s := by rw [itE]
theorem itE_l {σ ρ : Type} (f : Nat → σ → σ ⊕ ρ) (m i : Nat) (s s' : σ) (h : f i s = .inl s') : itE f (m + 1) i s = itE f m (i + 1) s' := by rw [itE, h]
theorem itE_r {σ ρ : Type} (f : Nat → σ → σ ⊕ ρ) (m i : Nat) (s : σ) (r : ρ) (h : f i s = .inr r) : itE f (m + 1) i s = .inr r := by rw [itE, h]
def itW {σ ρ : Type} (f : σ → σ ⊕ ρ) (n : Nat) (s : σ) : Option ρ := match n with
  | 0 => none
  | n + 1 => match f s with
    | .inl s' => itW f n s'
    | .inr r => some r
termination_by n
theorem itW_0 {σ ρ : Type} (f : σ → σ ⊕ ρ) (s : σ) : itW f 0 s = none := by rw [itW]
theorem itW_l {σ ρ : Type} (f : σ → σ ⊕ ρ) (n : Nat) (s s' : σ) (h : f s = .inl s') : itW f (n + 1) s = itW f n s' := by rw [itW, h]
theorem itW_r {σ ρ : Type} (f : σ → σ ⊕ ρ) (n : Nat) (s : σ) (r : ρ) (h : f s = .inr r) : itW f (n + 1) s = some r := by rw [itW, h]
def wN {σ ρ : Type} (f : σ → σ ⊕ ρ) (n : Nat) (s : σ) : Option σ := match n with
  | 0 => some s
  | n + 1 => match wN f n s with
    | none => none
    | some s' => match f s' with
      | .inl s2 => some s2
      | .inr _ => none
termination_by n
theorem wN_0 {σ ρ : Type} (f : σ → σ ⊕ ρ) (s : σ) : wN f 0 s = some s := by rw [wN]
theorem wN_s {σ ρ : Type} (f : σ → σ ⊕ ρ) (n : Nat) (s s' s2 : σ) (h : wN f n s = some s') (h2 : f s' = .inl s2) : wN f (n + 1) s = some s2 := by rw [wN, h]; simp only [h2]
theorem itE_succ {σ ρ : Type} (f : Nat → σ → σ ⊕ ρ) (i : Nat) (s0 s s' : σ) (h : itE f i 0 s0 = .inl s) (h2 : f i s = .inl s') : itE f (i + 1) 0 s0 = .inl s' := by
  have key : ∀ m a s1, itE f m a s1 = .inl s → a + m = i → itE f (m + 1) a s1 = .inl s' := by
    intro m
    induction m with
    | zero =>
      intro a s1 h1 ha
      rw [itE_0] at h1
      have e : s1 = s := by cases h1; rfl
      have e2 : a = i := by omega
      subst e; subst e2
      rw [itE_l f 0 _ _ _ h2]
      exact itE_0 _ _ _
    | succ m ih =>
      intro a s1 h1 ha
      cases h3 : f a s1 with
      | inl s2 =>
        rw [itE_l f m a s1 s2 h3] at h1
        have := ih (a + 1) s2 h1 (by omega)
        rw [itE_l f (m + 1) a s1 s2 h3]
        exact this
      | inr r => rw [itE_r f m a s1 r h3] at h1; cases h1
  exact key i 0 s0 h (by omega)
theorem itW_some {σ : Type} {f : σ → σ ⊕ σ} {N : Nat} {s0 : σ} (h : (itW f N s0).isSome = true) : itW f N s0 = some ((itW f N s0).getD s0) := by
  cases h2 : itW f N s0 with
  | none => rw [h2] at h; cases h
  | some r => rfl
theorem loop_w {σ ρ : Type} (Wd : σ → Prop) (Xd : ρ → Prop) (f : σ → σ ⊕ ρ) (N : Nat) (s0 : σ) (r : ρ) (h : itW f N s0 = some r) (hX : Xd r)
    (hstep : ∀ k s, wN f k s0 = some s → (∀ s', f s = .inl s' → Wd s') → (∀ r', f s = .inr r' → Xd r') → Wd s) : Wd s0 := by
  have key : ∀ n k s, wN f k s0 = some s → itW f n s = some r → Wd s := by
    intro n
    induction n with
    | zero => intro k s _ h2; rw [itW_0] at h2; cases h2
    | succ n ih =>
      intro k s h1 h2
      refine hstep k s h1 (fun s' hs => ih (k + 1) s' (wN_s f k s0 s s' h1 hs) ?_) (fun r' hr => ?_)
      · rw [← h2, itW_l f n s s' hs]
      · have : some r' = some r := by rw [← h2, itW_r f n s r' hr]
        cases this
        exact hX
  exact key N 0 s0 (wN_0 _ _) h
theorem itW_some2 {σ ρ : Type} {f : σ → σ ⊕ (σ ⊕ ρ)} {N : Nat} {s0 : σ} (h : (itW f N s0).isSome = true) : itW f N s0 = some ((itW f N s0).getD (.inl s0)) := by
  cases h2 : itW f N s0 with
  | none => rw [h2] at h; cases h
  | some r => rfl
theorem loop_wr {σ ρ : Type} (Wd : σ → Prop) (f : σ → σ ⊕ (σ ⊕ ρ)) (N : Nat) (s0 : σ) (r : σ ⊕ ρ) (h : itW f N s0 = some r)
    (hstep : ∀ k s, wN f k s0 = some s → (∀ s', f s = .inl s' → Wd s') → (∀ r', f s = .inr r' → r = r') → Wd s) : Wd s0 := by
  have key : ∀ n k s, wN f k s0 = some s → itW f n s = some r → Wd s := by
    intro n
    induction n with
    | zero => intro k s _ h2; rw [itW_0] at h2; cases h2
    | succ n ih =>
      intro k s h1 h2
      refine hstep k s h1 (fun s' hs => ih (k + 1) s' (wN_s f k s0 s s' h1 hs) ?_) (fun r' hr => ?_)
      · rw [← h2, itW_l f n s s' hs]
      · have : some r = some r' := by rw [← h2, itW_r f n s r' hr]
        cases this
        rfl
  exact key N 0 s0 (wN_0 _ _) h
theorem loop_e {σ ρ : Type} (Wd : Nat → σ → Prop) (f : Nat → σ → σ ⊕ ρ) (N : Nat) (s0 : σ) (hend : ∀ s, itE f N 0 s0 = .inl s → Wd N s)
    (hstep : ∀ i s, i < N → itE f i 0 s0 = .inl s → (∀ s', f i s = .inl s' → Wd (i + 1) s') → (∀ r, f i s = .inr r → itE f N 0 s0 = .inr r) → Wd i s) : Wd 0 s0 := by
  have h : ∀ m i s, i + m = N → itE f i 0 s0 = .inl s → itE f m i s = itE f N 0 s0 → Wd i s := by
    intro m
    induction m with
    | zero =>
      intro i s hi hr he
      have e : i = N := by omega
      subst e
      rw [itE_0] at he
      exact hend s he.symm
    | succ m ih =>
      intro i s hi hre he
      refine hstep i s (by omega) hre (fun s' hs => ih (i + 1) s' (by omega) (itE_succ f i s0 s s' hre hs) ?_) (fun r hr => ?_)
      · rw [← he, itE_l f m i s s' hs]
      · rw [← he, itE_r f m i s r hr]
  exact h N 0 s0 (by omega) (itE_0 _ _ _) rfl
set_option maxHeartbeats 4000000 in
set_option maxRecDepth 20000 in
theorem g_at {K : KT} {n g : Nat} {P : PT} {I : SI} {J : SJ} {R : SR} {f : Fr} {r len : Nat} {i : Int32} {q1 : Nat} (ok : OK K mX11_at 0) (fin : Fnl K mX11_at P 0 0) (hs : SH r = (14, len)) (hk : r < n) (hd : sd f r) (hlen : len < 2 ^ 31) (h1 : i < 0 → P (some (.int 0)) (eI f I) (eJ f J) R n g) (h2 : ¬ (i < 0) → (nI len) ≤ i → P (some (.int 0)) (eI f I) (eJ f J) R n g) (h3 : ¬ (i < 0) → ¬ ((nI len) ≤ i) → i = nI q1 ∧ q1 < len) (h4 : ¬ (i < 0) → ¬ ((nI len) ≤ i) → P (some (.int (I r q1))) (eI f I) (eJ f J) R n g) : WK K 0 0 0 [(0, .ref r), (1, .int i)] [] (eI f I) (eJ f J) R n g := by
  refine w_iload_n ok dX11_at_0 1 rfl ?_
  refine w_if_lt (tgt := 16) ok dX11_at_1 (by decide) (fun c1 => ?_) (fun c1 => ?_)
  · skip
    refine w_iconst (v := 0) ok dX11_at_16 (by decide) ?_
    exact w_iret ok fin dX11_at_17 rfl (h1 c1)
  · skip
    refine w_iload_n ok dX11_at_4 1 rfl ?_
    refine w_aload_n ok dX11_at_5 0 rfl ?_
    refine w_alen (v := nI len) ok dX11_at_6 hs (by decide) rfl hk ?_
    refine w_icmp_ge (tgt := 16) ok dX11_at_7 (by decide) (fun c2 => ?_) (fun c2 => ?_)
    · skip
      refine w_iconst (v := 0) ok dX11_at_16 (by decide) ?_
      exact w_iret ok fin dX11_at_17 rfl (h2 c1 c2)
    · skip
      refine w_aload_n ok dX11_at_10 0 rfl ?_
      refine w_iload_n ok dX11_at_11 1 rfl ?_
      refine y_iald (q := q1) ok dX11_at_12 hs (h3 c1 c2) hlen hk hd ?_
      refine w_goto (tgt := 17) ok dX11_at_13 (by decide) ?_
      exact w_iret ok fin dX11_at_17 rfl (h4 c1 c2)

set_option maxHeartbeats 4000000 in
set_option maxRecDepth 20000 in
theorem c_at {I : SI} {J : SJ} {R : SR} {n g : Nat} {f : Fr} {r len : Nat} (hs : SH r = (14, len)) (hk : r < n) (hd : sd f r) (i : Int32) : MM 0 0 0 mX11_at [.ref r, .int i] (eI f I) (eJ f J) R n g (Pd (some (.int (atF (I r) len i))) (eI f I) (eJ f J) R n g) := by
  refine MM.of (by decide) (Nat.le_of_ble_eq_true rfl) fun K ok fin => ?_
  exact g_at (q1 := i.toNatClampNeg) ok fin hs hk hd (sh_len hs) (fun h => ⟨by simp [atF, h], rfl, rfl, rfl, rfl, rfl⟩) (fun h h2 => ⟨by simp [atF, h2], rfl, rfl, rfl, rfl, rfl⟩) (fun h h2 => in_of h h2 (sh_len hs)) (fun h h2 => ⟨by simp [atF, h, h2], rfl, rfl, rfl, rfl, rfl⟩)
def putF (I : SI) (r len : Nat) (i x : Int32) : SI := if i < 0 then I else if nI len ≤ i then I else u2 I r i.toNatClampNeg x
set_option maxHeartbeats 4000000 in
set_option maxRecDepth 20000 in
theorem g_put {K : KT} {n g : Nat} {P : PT} {I : SI} {J : SJ} {R : SR} {f : Fr} {r len : Nat} {i x : Int32} {q1 : Nat} (ok : OK K mX11_put 0) (fin : Fnl K mX11_put P 0 0) (hs : SH r = (14, len)) (hk : r < n) (hd : sd f r) (hlen : len < 2 ^ 31) (h1 : i < 0 → P none (eI f I) (eJ f J) R n g) (h2 : ¬ (i < 0) → (nI len) ≤ i → P none (eI f I) (eJ f J) R n g) (h3 : ¬ (i < 0) → ¬ ((nI len) ≤ i) → i = nI q1 ∧ q1 < len) (h4 : ¬ (i < 0) → ¬ ((nI len) ≤ i) → P none (eI f (u2 I r q1 x)) (eJ f J) R n g) : WK K 0 0 0 [(0, .ref r), (1, .int i), (2, .int x)] [] (eI f I) (eJ f J) R n g := by
  refine w_iload_n ok dX11_put_0 1 rfl ?_
  refine w_if_lt (tgt := 14) ok dX11_put_1 (by decide) (fun c1 => ?_) (fun c1 => ?_)
  · skip
    exact w_vret ok fin dX11_put_14 rfl (h1 c1)
  · skip
    refine w_iload_n ok dX11_put_4 1 rfl ?_
    refine w_aload_n ok dX11_put_5 0 rfl ?_
    refine w_alen (v := nI len) ok dX11_put_6 hs (by decide) rfl hk ?_
    refine w_icmp_ge (tgt := 14) ok dX11_put_7 (by decide) (fun c2 => ?_) (fun c2 => ?_)
    · skip
      exact w_vret ok fin dX11_put_14 rfl (h2 c1 c2)
    · skip
      refine w_aload_n ok dX11_put_10 0 rfl ?_
      refine w_iload_n ok dX11_put_11 1 rfl ?_
      refine w_iload_n ok dX11_put_12 2 rfl ?_
      refine y_iast (q := q1) ok dX11_put_13 hs (h3 c1 c2) hlen hk hd ?_
      exact w_vret ok fin dX11_put_14 rfl (h4 c1 c2)

set_option maxHeartbeats 4000000 in
set_option maxRecDepth 20000 in
theorem c_put {I : SI} {J : SJ} {R : SR} {n g : Nat} {f : Fr} {r len : Nat} (hs : SH r = (14, len)) (hk : r < n) (hd : sd f r) (i x : Int32) : MM 0 0 0 mX11_put [.ref r, .int i, .int x] (eI f I) (eJ f J) R n g (Pd none (eI f (putF I r len i x)) (eJ f J) R n g) := by
  refine MM.of (by decide) (Nat.le_of_ble_eq_true rfl) fun K ok fin => ?_
  exact g_put (q1 := i.toNatClampNeg) ok fin hs hk hd (sh_len hs) (fun h => ⟨rfl, by simp [putF, h], rfl, rfl, rfl, rfl⟩) (fun h h2 => ⟨rfl, by simp [putF, h2], rfl, rfl, rfl, rfl⟩) (fun h h2 => in_of h h2 (sh_len hs)) (fun h h2 => ⟨rfl, by simp [putF, h, h2], rfl, rfl, rfl, rfl⟩)
set_option maxHeartbeats 4000000 in
set_option maxRecDepth 20000 in
theorem g_fill0 {K : KT} {n g : Nat} {P : PT} {I : SI} {J : SJ} {R : SR} {f : Fr} {r len : Nat} {x : Int32} (ok : OK K mX11_fill 0) (fin : Fnl K mX11_fill P 0 0) (hs : SH r = (14, len)) (hk : r < n) (hd : sd f r) (hlen : len < 2 ^ 31) (h1 : WK K 0 0 2 [(0, .ref r), (1, .int x), (2, .int 0)] [] (eI f I) (eJ f J) R n g) : WK K 0 0 0 [(0, .ref r), (1, .int x)] [] (eI f I) (eJ f J) R n g := by
  refine w_iconst (v := 0) ok dX11_fill_0 (by decide) ?_
  refine w_istore_n ok dX11_fill_1 rfl (by decide) rfl ?_
  refine w_loc [1, 2, 0] rfl ?_
  exact (h1)

set_option maxHeartbeats 4000000 in
set_option maxRecDepth 20000 in
theorem g_fill2 {K : KT} {n g : Nat} {P : PT} {I : SI} {J : SJ} {R : SR} {f : Fr} {r len : Nat} {x i : Int32} {q1 : Nat} (ok : OK K mX11_fill 0) (fin : Fnl K mX11_fill P 0 0) (hs : SH r = (14, len)) (hk : r < n) (hd : sd f r) (hlen : len < 2 ^ 31) (h1 : (nI len) ≤ i → P none (eI f I) (eJ f J) R n g) (h2 : ¬ ((nI len) ≤ i) → i = nI q1 ∧ q1 < len) (h3 : ¬ ((nI len) ≤ i) → WK K 0 0 2 [(0, .ref r), (1, .int x), (2, .int (i + 1))] [] (eI f (u2 I r q1 x)) (eJ f J) R n g) : WK K 0 0 2 [(0, .ref r), (1, .int x), (2, .int i)] [] (eI f I) (eJ f J) R n g := by
  refine w_iload_n ok dX11_fill_2 2 rfl ?_
  refine w_aload_n ok dX11_fill_3 0 rfl ?_
  refine w_alen (v := nI len) ok dX11_fill_4 hs (by decide) rfl hk ?_
  refine w_icmp_ge (tgt := 18) ok dX11_fill_5 (by decide) (fun c1 => ?_) (fun c1 => ?_)
  · skip
    exact w_vret ok fin dX11_fill_18 rfl (h1 c1)
  · skip
    refine w_aload_n ok dX11_fill_8 0 rfl ?_
    refine w_iload_n ok dX11_fill_9 2 rfl ?_
    refine w_iload_n ok dX11_fill_10 1 rfl ?_
    refine y_iast (q := q1) ok dX11_fill_11 hs (h2 c1) hlen hk hd ?_
    refine w_iinc (v := i + 1) ok dX11_fill_12 2 rfl rfl (by decide) rfl ?_
    refine w_goto (tgt := 2) ok dX11_fill_15 (by decide) ?_
    refine w_loc [1, 2, 0] rfl ?_
    exact (h3 c1)

/-- all of a row put to one value -/
def fillF (I : SI) (r : Nat) (x : Int32) (k : Nat) : SI := fun a b => if a = r ∧ b < k then x else I a b
theorem fillF_s (I : SI) (r : Nat) (x : Int32) (k : Nat) : u2 (fillF I r x k) r k x = fillF I r x (k + 1) := by
  funext a b
  unfold u2 fillF
  by_cases h1 : a = r <;> by_cases h2 : b = k <;> simp [h1, h2] <;> (by_cases h3 : b < k <;> simp [h3] <;> omega)
theorem fillF_0 (I : SI) (r : Nat) (x : Int32) : fillF I r x 0 = I := by funext a b; simp [fillF]
set_option maxHeartbeats 4000000 in
set_option maxRecDepth 20000 in
theorem c_fill {I : SI} {J : SJ} {R : SR} {n g : Nat} {f : Fr} {r len : Nat} (hs : SH r = (14, len)) (hk : r < n) (hd : sd f r) (x : Int32) : MM 0 0 0 mX11_fill [.ref r, .int x] (eI f I) (eJ f J) R n g (Pd none (eI f (fillF I r x len)) (eJ f J) R n g) := by
  refine MM.of (by decide) (Nat.le_of_ble_eq_true rfl) fun K ok fin => ?_
  have hl := sh_len hs
  refine g_fill0 ok fin hs hk hd hl ?_
  have key : ∀ m i, i + m = len → WK K 0 0 2 [(0, .ref r), (1, .int x), (2, .int (nI i))] [] (eI f (fillF I r x i)) (eJ f J) R n g := by
    intro m
    induction m with
    | zero =>
      intro i hi
      refine g_fill2 (q1 := i) ok fin hs hk hd hl (fun _ => ?_) (fun h => absurd (nI_le (by omega) (by omega)) h) (fun h => absurd (nI_le (by omega) (by omega)) h)
      rw [show i = len by omega]
      exact Pd.i
    | succ m ih =>
      intro i hi
      refine g_fill2 (q1 := i) ok fin hs hk hd hl (fun h => absurd h (nI_ge (by omega) (by omega))) (fun _ => ⟨rfl, by omega⟩) (fun _ => ?_)
      have := ih (i + 1) (by omega)
      rw [← fillF_s] at this
      rw [nI_1]
      exact this
  have := key len 0 (by omega)
  rw [fillF_0] at this
  exact this
theorem eI_self (b : Bool) (I : SI) (J : SJ) : eI (b, I, J) I = I := by funext k; unfold eI; split <;> rfl
theorem eJ_self (b : Bool) (I : SI) (J : SJ) : eJ (b, I, J) J = J := by funext k; unfold eJ; split <;> rfl
theorem eI_fill (I : SI) (J : SJ) (r : Nat) (x : Int32) (len : Nat) : eI (decide (r < nK), I, J) (fillF I r x len) = fillF I r x len := by
  funext a b
  unfold eI
  split
  · rfl
  · next h =>
    unfold fillF
    rw [if_neg (fun e => h (by rw [e.1]))]
theorem Zr.emb {I Y : SI} {J JY : SJ} {R : SR} {n : Nat} (h : Zr I J R n) (hn : nK ≤ n) : Zr (eI (true, I, J) Y) (eJ (true, I, J) JY) R n := by
  intro a j ha
  have e : ¬ (decide (a < nK) = true) := by simp; omega
  unfold eI eJ
  rw [if_neg e, if_neg e]
  exact h a j ha
theorem Zr.emb2 {I Y : SI} {J : SJ} {R : SR} {n : Nat} (h : Zr I J R n) (hY : ∀ a, n ≤ a → Y a = I a) : Zr (eI (false, I, J) Y) (eJ (false, I, J) J) R n := by
  intro a j ha
  refine ⟨?_, ?_, (h a j ha).2.2⟩
  · unfold eI
    split
    · rw [hY a ha]; exact (h a j ha).1
    · exact (h a j ha).1
  · rw [eJ_self]; exact (h a j ha).2.1
theorem wk_in {K : KT} {cl sl pc : Nat} {ls : List (Nat × Value)} {st : List Value} {I : SI} {J : SJ} {R : SR} {n g : Nat} (b : Bool) (h : WK K cl sl pc ls st (eI (b, I, J) I) (eJ (b, I, J) J) R n g) : WK K cl sl pc ls st I J R n g := by rw [eI_self, eJ_self] at h; exact h
set_option maxHeartbeats 4000000 in
set_option maxRecDepth 20000 in
theorem c_fill0 {I : SI} {J : SJ} {R : SR} {n g : Nat} {r len : Nat} (hs : SH r = (14, len)) (hk : r < n) (x : Int32) : MM 0 0 0 mX11_fill [.ref r, .int x] I J R n g (Pd none (fillF I r x len) J R n g) := by
  have h := c_fill (I := I) (J := J) (R := R) (n := n) (g := g) (f := (decide (r < nK), I, J)) hs hk rfl x
  rw [eI_self, eJ_self, eI_fill] at h
  exact h
set_option maxHeartbeats 4000000 in
set_option maxRecDepth 20000 in
theorem g_copyRow {K : KT} {n g : Nat} {P : PT} {I : SI} {J : SJ} {R : SR} {f : Fr} {r0 r1 l0 l1 : Nat} (ok : OK K mX11_copyRow 1) (fin : Fnl K mX11_copyRow P 0 0) (hs0 : SH r0 = (14, l0)) (hs1 : SH r1 = (14, l1)) (hk0 : r0 < n) (hk1 : r1 < n) (h1 : WK K 0 0 11 [(0, .ref r0), (1, .ref r1)] [.int (minI (nI l0) (nI l1)), .int 0, .ref r1, .int 0, .ref r0] (eI f I) (eJ f J) R n g) : WK K 0 0 0 [(0, .ref r0), (1, .ref r1)] [] (eI f I) (eJ f J) R n g := by
  refine w_aload_n ok dX11_copyRow_0 0 rfl ?_
  refine w_iconst (v := 0) ok dX11_copyRow_1 (by decide) ?_
  refine w_aload_n ok dX11_copyRow_2 1 rfl ?_
  refine w_iconst (v := 0) ok dX11_copyRow_3 (by decide) ?_
  refine w_aload_n ok dX11_copyRow_4 0 rfl ?_
  refine w_alen (v := nI l0) ok dX11_copyRow_5 hs0 (by decide) rfl hk0 ?_
  refine w_aload_n ok dX11_copyRow_6 1 rfl ?_
  refine w_alen (v := nI l1) ok dX11_copyRow_7 hs1 (by decide) rfl hk1 ?_
  refine w_minI ok dX11_copyRow_8 (iT_3 62 (by decide +kernel) (by decide +kernel)) (Nat.le_of_ble_eq_true rfl) ?_
  exact (h1)

def cpF (I : SI) (r0 r1 k : Nat) : SI := fun a b => if a = r1 ∧ b < k then I r0 b else I a b
theorem cpF_eq (I : SI) (r0 r1 k : Nat) : (fun a => if a = r1 then va_cpy (I r0) (I r1) 0 0 k else I a) = cpF I r0 r1 k := by
  funext a b
  unfold cpF va_cpy
  by_cases h : a = r1
  · subst h
    by_cases h2 : b < k <;> simp [h2]
  · simp [h]
set_option maxHeartbeats 4000000 in
set_option maxRecDepth 20000 in
theorem c_copyRow {I : SI} {J : SJ} {R : SR} {n g : Nat} {f : Fr} {r0 r1 l0 l1 : Nat} (hs0 : SH r0 = (14, l0)) (hs1 : SH r1 = (14, l1)) (hk0 : r0 < n) (hk1 : r1 < n) (hd0 : sd f r0) (hd1 : sd f r1) : MM 1 0 0 mX11_copyRow [.ref r0, .ref r1] (eI f I) (eJ f J) R n g (Pd none (eI f (cpF I r0 r1 (min l0 l1))) (eJ f J) R n g) := by
  refine MM.of (by decide) (Nat.le_of_ble_eq_true rfl) fun K ok fin => ?_
  have h0 := sh_len hs0
  have h1 := sh_len hs1
  refine g_copyRow ok fin hs0 hs1 hk0 hk1 ?_
  have hm : minI (nI l0) (nI l1) = nI (min l0 l1) := by
    unfold minI
    rcases Nat.lt_or_ge l1 l0 with q | q
    · rw [if_pos (nI_lt q h0), Nat.min_eq_right (by omega)]
    · rw [if_neg (nI_nlt q h1), Nat.min_eq_left q]
  refine y_copy (sp := 0) (dp := 0) (len := min l0 l1) ok dX11_copyRow_11 (iT_3 63 (by decide +kernel) (by decide +kernel)) (iT_3 65 (by decide +kernel) (by decide +kernel)) (iT_3 64 (by decide +kernel) (by decide +kernel)) (iT_1 18 (by decide +kernel) (by decide +kernel)) hs0 hs1 hk0 hk1 hd0 hd1 rfl rfl hm (by omega) (by omega) h0 h1 (by decide) ?_
  refine w_vret ok fin dX11_copyRow_14 rfl ?_
  rw [cpF_eq]
  exact Pd.i
