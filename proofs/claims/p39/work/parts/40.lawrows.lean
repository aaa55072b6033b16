/-! printed by wip/gen/gen_law.py: rows of the law -/
def WL (K : KT) (b : Nat) (cl sl pc : Nat) (ls : List (Nat × Value)) (st : List Value) (I : SI) (J : SJ) (R : SR) (n g : Nat) : Prop := match K with
  | (p, l, e, Rm, s, m, args, below, meth, c, Q, cy, D, base, nL) => cl ≤ Rm.cells → sl ≤ Rm.slots → ∀ (H : Heap) (locs : List Loc) (rls : Array Slot), va_P D vwCl (wl cy base I J R n) H → H.size = base + n + g → va_S (fun q => base ≤ q) s.heap H locs → lv_has rls nL ((0, .ref b) :: ls.map (rp base)) → W p l e Rm s m args below meth c H locs cl sl Q (F0 m pc rls (st.map (rv base)))
theorem ls_atL {rls : Array Slot} {nL base b : Nat} {ls : List (Nat × Value)} (hl : lv_has rls nL ((0, .ref b) :: ls.map (rp base))) (q : Nat) {i : Nat} {v : Value} (h : ls[q]? = some (i, v)) : rls[i]? = some (.val (rv base v)) := lv_at hl (q + 1) (by rw [List.getElem?_cons_succ, List.getElem?_map, h]; rfl)
theorem lv_putL {rls : Array Slot} {nL base b i : Nat} {v : Value} {ls lv : List (Nat × Value)} (hl : lv_has rls nL ((i, rv base v) :: ((0, Value.ref b) :: ls.map (rp base)).filter (fun q => !(q.1 == i) && !(q.1 + 1 == i && q.2.category == 2)))) (h : (i, v) :: ls.filter (fun q => !(q.1 == i) && !(q.1 + 1 == i && q.2.category == 2)) = lv) (hi : 0 < i) : lv_has rls nL ((0, .ref b) :: lv.map (rp base)) := by
  refine ⟨hl.1, hl.2.1, fun q hq => ?_⟩
  rcases List.mem_cons.mp hq with rfl | hq
  · refine hl.2.2 _ (List.mem_cons_of_mem _ (List.mem_filter.mpr ⟨List.mem_cons_self, ?_⟩))
    have h0 : ((0 : Nat) == i) = false := by simp; omega
    simp [h0, Value.category]
  · rw [← ls_put base i v ls lv h] at hq
    refine hl.2.2 _ ?_
    rcases List.mem_cons.mp hq with rfl | hq
    · exact List.mem_cons_self
    · have := List.mem_filter.mp hq
      exact List.mem_cons_of_mem _ (List.mem_filter.mpr ⟨List.mem_cons_of_mem _ this.1, this.2⟩)
theorem q_iconst {K : KT} {b : Nat} {M : Mt} {d cl sl pc pc' : Nat} {ls : List (Nat × Value)} {st : List Value} {I : SI} {J : SJ} {R : SR} {n g : Nat} {k : Int} {v : Int32} (ok : OK K M d) (dc : Dc M pc (.iconst k) 1 pc') (hv : Int32.ofInt k = v) (kk : WL K b cl sl pc' ls (.int v :: st) I J R n g) : WL K b cl sl pc ls (st) I J R n g := by
  obtain ⟨p, l, e, Rm, s, m, args, below, meth, c, Q, cy, D, base, nL⟩ := K
  obtain ⟨hx, hb, -⟩ := ok
  obtain ⟨hdg, rfl⟩ := dc
  intro hc1 hc2 H locs rls hP hz hS hl
  exact lv_iconst hx hb hdg hv (kk hc1 hc2 H locs rls hP hz hS hl)
theorem q_bipush {K : KT} {b : Nat} {M : Mt} {d cl sl pc pc' : Nat} {ls : List (Nat × Value)} {st : List Value} {I : SI} {J : SJ} {R : SR} {n g : Nat} {k : Int} {v : Int32} (ok : OK K M d) (dc : Dc M pc (.bipush k) 2 pc') (hv : (Int8.ofInt k).toInt32 = v) (kk : WL K b cl sl pc' ls (.int v :: st) I J R n g) : WL K b cl sl pc ls (st) I J R n g := by
  obtain ⟨p, l, e, Rm, s, m, args, below, meth, c, Q, cy, D, base, nL⟩ := K
  obtain ⟨hx, hb, -⟩ := ok
  obtain ⟨hdg, rfl⟩ := dc
  intro hc1 hc2 H locs rls hP hz hS hl
  exact lv_bipush hx hb hdg hv (kk hc1 hc2 H locs rls hP hz hS hl)
theorem q_iand {K : KT} {b : Nat} {M : Mt} {d cl sl pc pc' : Nat} {ls : List (Nat × Value)} {st : List Value} {I : SI} {J : SJ} {R : SR} {n g : Nat} {x y : Int32} (ok : OK K M d) (dc : Dc M pc (.iand) 1 pc') (kk : WL K b cl sl pc' ls (.int (x &&& y) :: st) I J R n g) : WL K b cl sl pc ls (.int y :: .int x :: st) I J R n g := by
  obtain ⟨p, l, e, Rm, s, m, args, below, meth, c, Q, cy, D, base, nL⟩ := K
  obtain ⟨hx, hb, -⟩ := ok
  obtain ⟨hdg, rfl⟩ := dc
  intro hc1 hc2 H locs rls hP hz hS hl
  exact lv_iand hx hb hdg (kk hc1 hc2 H locs rls hP hz hS hl)
theorem q_iadd {K : KT} {b : Nat} {M : Mt} {d cl sl pc pc' : Nat} {ls : List (Nat × Value)} {st : List Value} {I : SI} {J : SJ} {R : SR} {n g : Nat} {x y : Int32} (ok : OK K M d) (dc : Dc M pc (.iadd) 1 pc') (kk : WL K b cl sl pc' ls (.int (x + y) :: st) I J R n g) : WL K b cl sl pc ls (.int y :: .int x :: st) I J R n g := by
  obtain ⟨p, l, e, Rm, s, m, args, below, meth, c, Q, cy, D, base, nL⟩ := K
  obtain ⟨hx, hb, -⟩ := ok
  obtain ⟨hdg, rfl⟩ := dc
  intro hc1 hc2 H locs rls hP hz hS hl
  exact lv_iadd hx hb hdg (kk hc1 hc2 H locs rls hP hz hS hl)
theorem q_isub {K : KT} {b : Nat} {M : Mt} {d cl sl pc pc' : Nat} {ls : List (Nat × Value)} {st : List Value} {I : SI} {J : SJ} {R : SR} {n g : Nat} {x y : Int32} (ok : OK K M d) (dc : Dc M pc (.isub) 1 pc') (kk : WL K b cl sl pc' ls (.int (x - y) :: st) I J R n g) : WL K b cl sl pc ls (.int y :: .int x :: st) I J R n g := by
  obtain ⟨p, l, e, Rm, s, m, args, below, meth, c, Q, cy, D, base, nL⟩ := K
  obtain ⟨hx, hb, -⟩ := ok
  obtain ⟨hdg, rfl⟩ := dc
  intro hc1 hc2 H locs rls hP hz hS hl
  exact lv_isub hx hb hdg (kk hc1 hc2 H locs rls hP hz hS hl)
theorem q_i2l {K : KT} {b : Nat} {M : Mt} {d cl sl pc pc' : Nat} {ls : List (Nat × Value)} {st : List Value} {I : SI} {J : SJ} {R : SR} {n g : Nat} {x : Int32} (ok : OK K M d) (dc : Dc M pc (.i2l) 1 pc') (kk : WL K b cl sl pc' ls (.long x.toInt64 :: st) I J R n g) : WL K b cl sl pc ls (.int x :: st) I J R n g := by
  obtain ⟨p, l, e, Rm, s, m, args, below, meth, c, Q, cy, D, base, nL⟩ := K
  obtain ⟨hx, hb, -⟩ := ok
  obtain ⟨hdg, rfl⟩ := dc
  intro hc1 hc2 H locs rls hP hz hS hl
  exact lv_i2l hx hb hdg rfl (kk hc1 hc2 H locs rls hP hz hS hl)
theorem q_dup {K : KT} {b : Nat} {M : Mt} {d cl sl pc pc' : Nat} {ls : List (Nat × Value)} {st : List Value} {I : SI} {J : SJ} {R : SR} {n g : Nat} {v : Value} (ok : OK K M d) (dc : Dc M pc (.dup) 1 pc') (hv : v.category = 1) (kk : WL K b cl sl pc' ls (v :: v :: st) I J R n g) : WL K b cl sl pc ls (v :: st) I J R n g := by
  obtain ⟨p, l, e, Rm, s, m, args, below, meth, c, Q, cy, D, base, nL⟩ := K
  obtain ⟨hx, hb, -⟩ := ok
  obtain ⟨hdg, rfl⟩ := dc
  intro hc1 hc2 H locs rls hP hz hS hl
  exact lv_dup hx hb hdg (by rw [rv_cat]; exact hv) (kk hc1 hc2 H locs rls hP hz hS hl)
theorem q_pop {K : KT} {b : Nat} {M : Mt} {d cl sl pc pc' : Nat} {ls : List (Nat × Value)} {st : List Value} {I : SI} {J : SJ} {R : SR} {n g : Nat} {v : Value} (ok : OK K M d) (dc : Dc M pc (.pop) 1 pc') (hv : v.category = 1) (kk : WL K b cl sl pc' ls (st) I J R n g) : WL K b cl sl pc ls (v :: st) I J R n g := by
  obtain ⟨p, l, e, Rm, s, m, args, below, meth, c, Q, cy, D, base, nL⟩ := K
  obtain ⟨hx, hb, -⟩ := ok
  obtain ⟨hdg, rfl⟩ := dc
  intro hc1 hc2 H locs rls hP hz hS hl
  exact lv_pop hx hb hdg (by rw [rv_cat]; exact hv) (kk hc1 hc2 H locs rls hP hz hS hl)
theorem q_lcmp {K : KT} {b : Nat} {M : Mt} {d cl sl pc pc' : Nat} {ls : List (Nat × Value)} {st : List Value} {I : SI} {J : SJ} {R : SR} {n g : Nat} {x y : Int64} (ok : OK K M d) (dc : Dc M pc (.lcmp) 1 pc') (kk : WL K b cl sl pc' ls (.int (lg_cmp x y) :: st) I J R n g) : WL K b cl sl pc ls (.long y :: .long x :: st) I J R n g := by
  obtain ⟨p, l, e, Rm, s, m, args, below, meth, c, Q, cy, D, base, nL⟩ := K
  obtain ⟨hx, hb, -⟩ := ok
  obtain ⟨hdg, rfl⟩ := dc
  intro hc1 hc2 H locs rls hP hz hS hl
  exact W.lcmp hx hb hdg (kk hc1 hc2 H locs rls hP hz hS hl)
theorem q_icmp_eq {K : KT} {b : Nat} {M : Mt} {d cl sl pc pc' : Nat} {ls : List (Nat × Value)} {st : List Value} {I : SI} {J : SJ} {R : SR} {n g : Nat} {x y : Int32} {off : Int} {tgt : Nat} (ok : OK K M d) (dc : Dc M pc (.if_icmp .eq off) 3 pc') (ht : (pc : Int) + off = (tgt : Int)) (kt : x = y → WL K b cl sl tgt ls st I J R n g) (kf : ¬ (x = y) → WL K b cl sl pc' ls st I J R n g) : WL K b cl sl pc ls (.int y :: .int x :: st) I J R n g := by
  obtain ⟨p, l, e, Rm, s, m, args, below, meth, c, Q, cy, D, base, nL⟩ := K
  obtain ⟨hx, hb, hnL, -⟩ := ok
  obtain ⟨hdg, rfl⟩ := dc
  intro hc1 hc2 H locs rls hP hz hS hl
  exact lv_icmp_eq hx hb hdg ht (fun h => kt h hc1 hc2 H locs rls hP hz hS hl) (fun h => kf h hc1 hc2 H locs rls hP hz hS hl)
theorem q_icmp_gt {K : KT} {b : Nat} {M : Mt} {d cl sl pc pc' : Nat} {ls : List (Nat × Value)} {st : List Value} {I : SI} {J : SJ} {R : SR} {n g : Nat} {x y : Int32} {off : Int} {tgt : Nat} (ok : OK K M d) (dc : Dc M pc (.if_icmp .gt off) 3 pc') (ht : (pc : Int) + off = (tgt : Int)) (kt : y < x → WL K b cl sl tgt ls st I J R n g) (kf : ¬ (y < x) → WL K b cl sl pc' ls st I J R n g) : WL K b cl sl pc ls (.int y :: .int x :: st) I J R n g := by
  obtain ⟨p, l, e, Rm, s, m, args, below, meth, c, Q, cy, D, base, nL⟩ := K
  obtain ⟨hx, hb, hnL, -⟩ := ok
  obtain ⟨hdg, rfl⟩ := dc
  intro hc1 hc2 H locs rls hP hz hS hl
  exact lv_icmp_gt hx hb hdg ht (fun h => kt h hc1 hc2 H locs rls hP hz hS hl) (fun h => kf h hc1 hc2 H locs rls hP hz hS hl)
theorem q_if_eq {K : KT} {b : Nat} {M : Mt} {d cl sl pc pc' : Nat} {ls : List (Nat × Value)} {st : List Value} {I : SI} {J : SJ} {R : SR} {n g : Nat} {x : Int32} {off : Int} {tgt : Nat} (ok : OK K M d) (dc : Dc M pc (.ifCond .eq off) 3 pc') (ht : (pc : Int) + off = (tgt : Int)) (kt : x = 0 → WL K b cl sl tgt ls st I J R n g) (kf : ¬ (x = 0) → WL K b cl sl pc' ls st I J R n g) : WL K b cl sl pc ls (.int x :: st) I J R n g := by
  obtain ⟨p, l, e, Rm, s, m, args, below, meth, c, Q, cy, D, base, nL⟩ := K
  obtain ⟨hx, hb, hnL, -⟩ := ok
  obtain ⟨hdg, rfl⟩ := dc
  intro hc1 hc2 H locs rls hP hz hS hl
  exact lv_if_eq hx hb hdg ht (fun h => kt h hc1 hc2 H locs rls hP hz hS hl) (fun h => kf h hc1 hc2 H locs rls hP hz hS hl)
theorem q_if_ne {K : KT} {b : Nat} {M : Mt} {d cl sl pc pc' : Nat} {ls : List (Nat × Value)} {st : List Value} {I : SI} {J : SJ} {R : SR} {n g : Nat} {x : Int32} {off : Int} {tgt : Nat} (ok : OK K M d) (dc : Dc M pc (.ifCond .ne off) 3 pc') (ht : (pc : Int) + off = (tgt : Int)) (kt : ¬ x = 0 → WL K b cl sl tgt ls st I J R n g) (kf : x = 0 → WL K b cl sl pc' ls st I J R n g) : WL K b cl sl pc ls (.int x :: st) I J R n g := by
  obtain ⟨p, l, e, Rm, s, m, args, below, meth, c, Q, cy, D, base, nL⟩ := K
  obtain ⟨hx, hb, hnL, -⟩ := ok
  obtain ⟨hdg, rfl⟩ := dc
  intro hc1 hc2 H locs rls hP hz hS hl
  exact lv_if_ne hx hb hdg ht (fun h => kt h hc1 hc2 H locs rls hP hz hS hl) (fun h => kf h hc1 hc2 H locs rls hP hz hS hl)
theorem q_goto {K : KT} {b : Nat} {M : Mt} {d cl sl pc : Nat} {ls : List (Nat × Value)} {st : List Value} {I : SI} {J : SJ} {R : SR} {n g : Nat} {off : Int} {tgt : Nat} (ok : OK K M d) {pc' : Nat} (dc : Dc M pc (.goto off) 3 pc') (ht : (pc : Int) + off = (tgt : Int)) (kk : WL K b cl sl tgt ls st I J R n g) : WL K b cl sl pc ls st I J R n g := by
  obtain ⟨p, l, e, Rm, s, m, args, below, meth, c, Q, cy, D, base, nL⟩ := K
  obtain ⟨hx, hb, hnL, -⟩ := ok
  obtain ⟨hdg, rfl⟩ := dc
  intro hc1 hc2 H locs rls hP hz hS hl
  exact lv_goto hx hb hdg ht (kk hc1 hc2 H locs rls hP hz hS hl)
theorem q_tabIn {K : KT} {b : Nat} {M : Mt} {d cl sl pc pc' : Nat} {ls : List (Nat × Value)} {st : List Value} {I : SI} {J : SJ} {R : SR} {n g : Nat} {dflt lo hi : Int} {offs : Array Int} {len : Nat} {x : Int32} {off : Int} {tgt : Nat} (ok : OK K M d) (dc : Dc M pc (.tableswitch dflt lo hi offs) len pc') (h1 : ¬ x.toInt < lo) (h2 : ¬ hi < x.toInt) (ho : offs[(x.toInt - lo).toNat]? = some off) (ht : (pc : Int) + off = (tgt : Int)) (kk : WL K b cl sl tgt ls st I J R n g) : WL K b cl sl pc ls (.int x :: st) I J R n g := by
  obtain ⟨p, l, e, Rm, s, m, args, below, meth, c, Q, cy, D, base, nL⟩ := K
  obtain ⟨hx, hb, hnL, hml, hts, hown, hK, hNW, hfr, hlo, hbs, hini, hXS⟩ := ok
  obtain ⟨hdg, rfl⟩ := dc
  intro hc1 hc2 H locs rls hP hz hS hl
  exact lv_tableIn hx hb hdg h1 h2 ho ht (kk hc1 hc2 H locs rls hP hz hS hl)
theorem q_tabOut {K : KT} {b : Nat} {M : Mt} {d cl sl pc pc' : Nat} {ls : List (Nat × Value)} {st : List Value} {I : SI} {J : SJ} {R : SR} {n g : Nat} {dflt lo hi : Int} {offs : Array Int} {len : Nat} {x : Int32} {tgt : Nat} (ok : OK K M d) (dc : Dc M pc (.tableswitch dflt lo hi offs) len pc') (h : x.toInt < lo ∨ hi < x.toInt) (ht : (pc : Int) + dflt = (tgt : Int)) (kk : WL K b cl sl tgt ls st I J R n g) : WL K b cl sl pc ls (.int x :: st) I J R n g := by
  obtain ⟨p, l, e, Rm, s, m, args, below, meth, c, Q, cy, D, base, nL⟩ := K
  obtain ⟨hx, hb, hnL, hml, hts, hown, hK, hNW, hfr, hlo, hbs, hini, hXS⟩ := ok
  obtain ⟨hdg, rfl⟩ := dc
  intro hc1 hc2 H locs rls hP hz hS hl
  exact lv_tableOut hx hb hdg h ht (kk hc1 hc2 H locs rls hP hz hS hl)
theorem q_new {K : KT} {b : Nat} {M : Mt} {d cl sl pc pc' : Nat} {ls : List (Nat × Value)} {st : List Value} {I : SI} {J : SJ} {R : SR} {n g : Nat} {idx ci N : Nat} {C : String} {T : u_T} (ok : OK K M d) (dc : Dc M pc (.new idx) 3 pc') (hg : g = 0) (hcls : CLS ci C T N) (hs : SH n = (ci, 0)) (hp : ∀ j, j < N → isP (tyC ci j) = true) (h1 : Cond.classLink M.1.cls idx C ∈ ALLW) (h2 : Cond.instantiable C N ∈ ALLW) (h3 : Cond.initialized C ∈ ALLW) (hZ : Zr I J R n) (hcap : cl + 1 ≤ K.2.2.2.1.cells ∧ sl + N ≤ K.2.2.2.1.slots) (kk : WL K b (cl + 1) (sl + N) pc' ls (.ref n :: st) I J R (n + 1) 0) : WL K b cl sl pc ls st I J R n g := by
  subst hg
  obtain ⟨p, l, e, Rm, s, m, args, below, meth, c, Q, cy, D, base, nL⟩ := K
  obtain ⟨hx, hb, hnL, hml, hts, hown, hK, hNW, hfr, hlo, hbs, hini, hXS⟩ := ok
  obtain ⟨hdg, rfl⟩ := dc
  intro hc1 hc2 H locs rls hP hz hS hl
  dsimp only at hcap
  obtain ⟨hc, hN, hlt, hin, hty, hnm⟩ := hcls
  have hKn := hK.1 ci _ hc
  have hz' : H.size = base + n := hz
  refine W.newcK hx hb hown (hts _ h1) (hts _ h2) (hts _ h3) rfl hdg hcap.1 hcap.2 hKn.2.1 hz' fun H1 kC hkC e1 z1 o1 => ?_
  have hk : ∀ (k : Nat) (x : Nat × va_E), (wl cy base I J R n)[k]? = some x → H1[x.1]? = H[x.1]? := fun k x hx => o1 x.1 (by have := (hP k x hx).lt; omega)
  refine kk hcap.1 hcap.2 H1 locs rls ?_ (by omega) ⟨Nat.le_trans hS.1 (by omega), fun x g1 g2 => (o1 x (by have := hS.1; omega)).trans (hS.2.1 x g1 g2), hS.2.2⟩ hl
  rw [wl_push]
  refine (hP.kept hk).app (fun k x hx => ?_)
  have hz2 : k < 1 := (List.getElem?_eq_some_iff.mp hx).1
  rw [show k = 0 by omega] at hx
  cases hx
  rw [en_obj (ci := ci) (by rw [hs]) hlt]
  refine ⟨_, hc, (u_born (tyC ci) hts hin hKn hkC e1 hty).to fun j hj => ?_⟩
  rw [dfv_ok (hp j hj)]
  have e2 : ((List.range (nF ci)).map (fv base I J R n))[j]? = some (dfv (tyC ci j)) := by
    rw [List.getElem?_map, List.getElem?_range (by omega)]
    show some (fv base I J R n j) = _
    rw [fv_zero hZ, hs]
  simp only [vp_V, List.getD, e2]
  rfl
theorem q_newL {K : KT} {b : Nat} {M : Mt} {d cl sl pc pc' : Nat} {ls : List (Nat × Value)} {st : List Value} {I : SI} {J : SJ} {R : SR} {n g : Nat} {x : Int32} {len : Nat} (ok : OK K M d) (dc : Dc M pc (.newarray .long) 2 pc') (hg : g = 0) (hs : SH n = (15, len)) (hx0 : ¬ x < 0) (hlen : x.toNatClampNeg = len) (hby : len * 8 ≤ 536870912) (h1 : Cond.arrayClass .long ∈ ALLW) (hZ : Zr I J R n) (hcap : cl + 1 ≤ K.2.2.2.1.cells ∧ sl + len ≤ K.2.2.2.1.slots) (kk : WL K b (cl + 1) (sl + len) pc' ls (.ref n :: st) I J R (n + 1) 0) : WL K b cl sl pc ls (.int x :: st) I J R n g := by
  subst hg
  obtain ⟨p, l, e, Rm, s, m, args, below, meth, c, Q, cy, D, base, nL⟩ := K
  obtain ⟨hx, hb, hnL, hml, hts, hown, hK, hNW, hfr, hlo, hbs, hini, hXS⟩ := ok
  obtain ⟨hdg, rfl⟩ := dc
  intro hc1 hc2 H locs rls hP hz hS hl
  dsimp only at hcap
  have hz' : H.size = base + n := hz
  refine va_newaK (atype := .long) hx hb (hts _ h1) rfl hdg (n := x) (N := len) rfl hx0 hlen (Nat.le_trans (Nat.mul_le_mul_left _ (by decide)) hby) hcap.1 hcap.2 hz' fun H1 cA e1 z1 o1 hAr hNm => ?_
  have hcA : cA = cy 15 := by
    have h9 : va_RA s (cy 15) .long := (hK.2 2 (cy 15, .long) rfl).2
    have h8 : s.vm.findClass ("[" ++ FieldType.toString .long) = some (cy 15) := h9
    exact Option.some.inj (hNm.symm.trans h8)
  subst hcA
  have hk : ∀ (k : Nat) (q : Nat × va_E), (wl cy base I J R n)[k]? = some q → H1[q.1]? = H[q.1]? := fun k q hq => o1 q.1 (by have := (hP k q hq).lt; omega)
  refine kk hcap.1 hcap.2 H1 locs rls ?_ (by omega) ⟨Nat.le_trans hS.1 (by omega), fun q g1 g2 => (o1 q (by have := hS.1; omega)).trans (hS.2.1 q g1 g2), hS.2.2⟩ hl
  rw [wl_push]
  refine (hP.kept hk).app (fun k q hq => ?_)
  have hz2 : k < 1 := (List.getElem?_eq_some_iff.mp hq).1
  rw [show k = 0 by omega] at hq
  cases hq
  rw [en_arrL hs]
  show H1[base + n]? = some (vp_cell _ _)
  rw [e1, vp_cell_l]
  refine congrArg some ?_
  refine congrArg (arrV (cy 15) len) ?_
  funext j
  show .long 0 = Value.long (J n j)
  rw [(hZ n j (Nat.le_refl _)).2.1]
theorem q_callI {K : KT} {b : Nat} {M : Mt} {d cl sl pc pc' : Nat} {ls : List (Nat × Value)} {st : List Value} {I : SI} {J : SJ} {R : SR} {n g : Nat} {idx np d2 mc ms k : Nat} {As : List Value} {Y : Mt} {P : PT} (ok : OK K M d) (dc : Dc M pc (.invokespecial idx) 3 pc') (mi : MIn Y np) (lk : LK M idx Y) (hM : MM d2 mc ms Y (.ref k :: As) I J R n g P) (hd : d2 < d) (hn : As.length = np) (hw : (st.map Value.category).sum ≤ 8) (hcap : cl + mc ≤ K.2.2.2.1.cells ∧ sl + ms ≤ K.2.2.2.1.slots) (kk : ∀ (v : Option Value) (I' : SI) (J' : SJ) (R' : SR) (n' g' : Nat), P v I' J' R' n' g' → WL K b (cl + mc) (sl + ms) pc' ls (v.toList ++ st) I' J' R' n' g') : WL K b cl sl pc ls (As.reverse ++ .ref k :: st) I J R n g := by
  obtain ⟨p, l, e, Rm, s, m, args, below, meth, c, Q, cy, D, base, nL⟩ := K
  obtain ⟨hx, hb, hnL, hml, hts, hown, hK, hNW, hfr, hlo, hbs, hini, hXS⟩ := ok
  obtain ⟨hdg, rfl⟩ := dc
  dsimp only at hcap
  intro hc1 hc2 H locs rls hP hz hS hl
  obtain ⟨hi0, hi00, hi1, hi3, hi4, hi5, hi6⟩ := mi
  have hgd := allw_good hi4
  have hMl := hM l cy D base
  have hR1 : (rmd d2 mc ms).frames + 1 ≤ Rm.frames ∧ 8 + (Y.2.2.1 + 11) + (rmd d2 mc ms).locals ≤ Rm.locals := by
    have h1 : (d2 + 1 + 1) * 64 ≤ (d + 1) * 64 := Nat.mul_le_mul_right _ (by omega)
    constructor
    · show d2 + 1 + 1 ≤ _; omega
    · show 8 + (Y.2.2.1 + 11) + (d2 + 1) * 64 ≤ _; omega
  have hfix : CallFix p m c M.2.1 nL s args ALLW M.1.cls := ⟨hx, hb, hml, hown, hts⟩
  have hst : List.map (rv base) (As.reverse ++ .ref k :: st) = (As.map (rv base)).reverse ++ .ref (base + k) :: st.map (rv base) := by simp [rv]
  have hcat : ((st.map (rv base)).map fun v => v.category).sum ≤ 8 := by
    rw [List.map_map]
    have e : ((fun v => v.category) ∘ rv base) = Value.category := by funext v; exact rv_cat base v
    rw [e]; exact hw
  have hpb : ∀ U : State, U.heap = H → s.WarmedH U.vm → PB cy D base I J R n g U := fun U hU hW => ⟨by rw [hU]; exact hP, by rw [hU]; exact hz, va_K.moved hW.alike hK, nw_warm hW hNW, xs_call hXS hW hU hS⟩
  rw [hst]
  have hgo : ∀ (v : Option Value) (I : SI) (J : SJ) (R : SR) (n g : Nat) (H1 : Heap) (locs1 : List Loc), P v I J R n g → va_P D vwCl (wl cy base I J R n) H1 → H1.size = base + n + g → va_S (fun q => base ≤ q) s.heap H1 locs1 → W p l e Rm s m args below meth c H1 locs1 (cl + mc) (sl + ms) Q (F0 m (pc + 3) rls ((v.map (rv base)).toList ++ st.map (rv base))) := by
    intro v I J R n g H1 locs1 hp h1 h2 h3
    have := kk v I J R n g hp hcap.1 hcap.2 H1 locs1 rls h1 h2 h3 hl
    have e : List.map (rv base) (v.toList ++ st) = (v.map (rv base)).toList ++ st.map (rv base) := by cases v <;> simp
    rw [e] at this
    exact this
  have hpre : PreS s H (va_Pc ((Value.ref k :: As).map (rv base)) (PB cy D base I J R n g)) (.ref (base + k) :: As.map (rv base)) := ⟨pb_blind, fun U hU hW => ⟨rfl, hpb U hU hW⟩⟩
  rw [hi00] at hi4 hgd
  have hMl2 : Met l Y.1 (Cond.code Y.1 Y.2.1 Y.2.2.1 none :: ALLW) (rmd d2 mc ms) (va_Pc ((Value.ref k :: As).map (rv base)) (PB cy D base I J R n g)) (QM cy D base P) mc ms (fun q => base ≤ q) := by
    have h9 := hMl
    unfold wsM at h9
    rw [hi00] at h9
    exact h9
  rcases lk with lk | ⟨host, lk⟩
  · exact wk_go (va_runI (As := As.map (rv base)) (rest := st.map (rv base)) hfix hMl2 ⟨callB_of np hts hgd rfl rfl rfl (hts _ hi3) (hts _ lk) hi5 hR1, hi0, hts _ hi1⟩ hpre rfl (by rw [List.length_map]; exact hn) hl.1 rfl (lv_room hcat) hdg hcap) hS hgo
  · exact wk_go (va_runIN (As := As.map (rv base)) (rest := st.map (rv base)) hfix hMl2 ⟨va_cnB np hts hgd rfl rfl rfl (hNW _ lk) (hts _ hi3) hi5 hR1, hi0, hts _ hi1⟩ hpre rfl (by rw [List.length_map]; exact hn) hl.1 rfl (lv_room hcat) hdg hcap) hS hgo
theorem q_cI {K : KT} {b : Nat} {M : Mt} {d cl sl pc pc' : Nat} {ls : List (Nat × Value)} {st : List Value} {I : SI} {J : SJ} {R : SR} {n g : Nat} {idx np d2 mc ms k : Nat} {As : List Value} {Y : Mt} {I1 : SI} {J1 : SJ} {R1 : SR} {n1 g1 : Nat} (ok : OK K M d) (dc : Dc M pc (.invokespecial idx) 3 pc') (mi : MIn Y np) (lk : LK M idx Y) (hM : MM d2 mc ms Y (.ref k :: As) I J R n g (Pd none I1 J1 R1 n1 g1)) (hd : d2 < d) (hn : As.length = np) (hw : (st.map Value.category).sum ≤ 8) (hcap : cl + mc ≤ K.2.2.2.1.cells ∧ sl + ms ≤ K.2.2.2.1.slots) (kk : WL K b (cl + mc) (sl + ms) pc' ls st I1 J1 R1 n1 g1) : WL K b cl sl pc ls (As.reverse ++ .ref k :: st) I J R n g :=
  q_callI ok dc mi lk hM hd hn hw hcap (fun v' I' J' R' n' g' h => by obtain ⟨rfl, rfl, rfl, rfl, rfl, rfl⟩ := h; exact kk)
theorem q_callV {K : KT} {b : Nat} {M : Mt} {d cl sl pc pc' : Nat} {ls : List (Nat × Value)} {st : List Value} {I : SI} {J : SJ} {R : SR} {n g : Nat} {idx np d2 mc ms k : Nat} {As : List Value} {Y : Mt} {P : PT} (ok : OK K M d) (dc : Dc M pc (.invokevirtual idx) 3 pc') (mi : MI Y np) (lk : LK M idx Y) (hs : ∃ T N, (SH k).1 < 13 ∧ vwCl[(SH k).1]? = some (Y.1.cls, T, N)) (hk : k < n) (hM : MM d2 mc ms Y (.ref k :: As) I J R n g P) (hd : d2 < d) (hn : As.length = np) (hw : (st.map Value.category).sum ≤ 8) (hcap : cl + mc ≤ K.2.2.2.1.cells ∧ sl + ms ≤ K.2.2.2.1.slots) (kk : ∀ (v : Option Value) (I' : SI) (J' : SJ) (R' : SR) (n' g' : Nat), P v I' J' R' n' g' → WL K b (cl + mc) (sl + ms) pc' ls (v.toList ++ st) I' J' R' n' g') : WL K b cl sl pc ls (As.reverse ++ .ref k :: st) I J R n g := by
  obtain ⟨p, l, e, Rm, s, m, args, below, meth, c, Q, cy, D, base, nL⟩ := K
  obtain ⟨hx, hb, hnL, hml, hts, hown, hK, hNW, hfr, hlo, hbs, hini, hXS⟩ := ok
  obtain ⟨hdg, rfl⟩ := dc
  dsimp only at hcap
  intro hc1 hc2 H locs rls hP hz hS hl
  obtain ⟨hi1, hi2, hi3, hi4, hi5, hi6⟩ := mi
  have hgd := allw_good hi4
  have hMl := hM l cy D base
  have hR1 : (rmd d2 mc ms).frames + 1 ≤ Rm.frames ∧ 8 + (Y.2.2.1 + 11) + (rmd d2 mc ms).locals ≤ Rm.locals := by
    have h1 : (d2 + 1 + 1) * 64 ≤ (d + 1) * 64 := Nat.mul_le_mul_right _ (by omega)
    constructor
    · show d2 + 1 + 1 ≤ _; omega
    · show 8 + (Y.2.2.1 + 11) + (d2 + 1) * 64 ≤ _; omega
  have hfix : CallFix p m c M.2.1 nL s args ALLW M.1.cls := ⟨hx, hb, hml, hown, hts⟩
  have hst : List.map (rv base) (As.reverse ++ .ref k :: st) = (As.map (rv base)).reverse ++ .ref (base + k) :: st.map (rv base) := by simp [rv]
  have hcat : ((st.map (rv base)).map fun v => v.category).sum ≤ 8 := by
    rw [List.map_map]
    have e : ((fun v => v.category) ∘ rv base) = Value.category := by funext v; exact rv_cat base v
    rw [e]; exact hw
  have hpb : ∀ U : State, U.heap = H → s.WarmedH U.vm → PB cy D base I J R n g U := fun U hU hW => ⟨by rw [hU]; exact hP, by rw [hU]; exact hz, va_K.moved hW.alike hK, nw_warm hW hNW, xs_call hXS hW hU hS⟩
  rw [hst]
  have hgo : ∀ (v : Option Value) (I : SI) (J : SJ) (R : SR) (n g : Nat) (H1 : Heap) (locs1 : List Loc), P v I J R n g → va_P D vwCl (wl cy base I J R n) H1 → H1.size = base + n + g → va_S (fun q => base ≤ q) s.heap H1 locs1 → W p l e Rm s m args below meth c H1 locs1 (cl + mc) (sl + ms) Q (F0 m (pc + 3) rls ((v.map (rv base)).toList ++ st.map (rv base))) := by
    intro v I J R n g H1 locs1 hp h1 h2 h3
    have := kk v I J R n g hp hcap.1 hcap.2 H1 locs1 rls h1 h2 h3 hl
    have e : List.map (rv base) (v.toList ++ st) = (v.map (rv base)).toList ++ st.map (rv base) := by cases v <;> simp
    rw [e] at this
    exact this
  obtain ⟨TT, NN, hlt, hcl⟩ := hs
  have he := wl_get (cy := cy) (base := base) (I := I) (J := J) (R := R) hk
  rw [en_obj rfl hlt] at he
  have hrecv := va_recv hK hP hcl he
  have hpre : PreV s H Y.1.cls (base + k) (va_Pc ((Value.ref k :: As).map (rv base)) (PB cy D base I J R n g)) (As.map (rv base)) := ⟨pb_blind, hrecv, fun U hU hW => ⟨rfl, hpb U hU hW⟩⟩
  rcases lk with lk | ⟨host, lk⟩
  · exact wk_go (va_runV (As := As.map (rv base)) (rest := st.map (rv base)) hfix hMl ⟨callB_of np hts hgd rfl rfl rfl (hts _ hi3) (hts _ lk) hi5 hR1, hts _ hi1, hts _ hi2⟩ hpre rfl (by rw [List.length_map]; exact hn) hl.1 rfl (lv_room hcat) hdg hcap) hS hgo
  · exact wk_go (va_runVN (As := As.map (rv base)) (rest := st.map (rv base)) hfix hMl ⟨va_cnB np hts hgd rfl rfl rfl (hNW _ lk) (hts _ hi3) hi5 hR1, hts _ hi1, hts _ hi2⟩ hpre rfl (by rw [List.length_map]; exact hn) hl.1 rfl (lv_room hcat) hdg hcap) hS hgo
theorem q_cV {K : KT} {b : Nat} {M : Mt} {d cl sl pc pc' : Nat} {ls : List (Nat × Value)} {st : List Value} {I : SI} {J : SJ} {R : SR} {n g : Nat} {idx np d2 k : Nat} {As : List Value} {Y : Mt} {v : Option Value} {I1 : SI} {J1 : SJ} {R1 : SR} {n1 g1 : Nat} (ok : OK K M d) (dc : Dc M pc (.invokevirtual idx) 3 pc') (mi : MI Y np) (lk : LK M idx Y) (hs : ∃ T N, (SH k).1 < 13 ∧ vwCl[(SH k).1]? = some (Y.1.cls, T, N)) (hk : k < n) (hM : MM d2 0 0 Y (.ref k :: As) I J R n g (Pd v I1 J1 R1 n1 g1)) (hd : d2 < d) (hn : As.length = np) (hw : (st.map Value.category).sum ≤ 8) (kk : WL K b cl sl pc' ls (v.toList ++ st) I1 J1 R1 n1 g1) : WL K b cl sl pc ls (As.reverse ++ .ref k :: st) I J R n g := by
  obtain ⟨p, l, e, Rm, s, m, args, below, meth, c, Q, cy, D, base, nL⟩ := K
  intro hc1 hc2
  exact q_callV (mc := 0) (ms := 0) ok dc mi lk hs hk hM hd hn hw ⟨hc1, hc2⟩ (fun v' I' J' R' n' g' h => by obtain ⟨rfl, rfl, rfl, rfl, rfl, rfl⟩ := h; exact kk) hc1 hc2
theorem q_lald {K : KT} {b : Nat} {M : Mt} {d cl sl pc pc' : Nat} {ls : List (Nat × Value)} {st : List Value} {I : SI} {J : SJ} {R : SR} {n g : Nat} {k len : Nat} {i : Int32} (ok : OK K M d) (dc : Dc M pc .laload 1 pc') (hs : SH k = (15, len)) (hin : vp_in i len) (hk : k < n) (kk : WL K b cl sl pc' ls (.long (J k i.toNatClampNeg) :: st) I J R n g) : WL K b cl sl pc ls (.int i :: .ref k :: st) I J R n g := by
  obtain ⟨p, l, e, Rm, s, m, args, below, meth, c, Q, cy, D, base, nL⟩ := K
  obtain ⟨hx, hb, hnL, hml, hts, hown, hK, hNW, hfr, hlo, hbs, hini, hXS⟩ := ok
  obtain ⟨hdg, rfl⟩ := dc
  intro hc1 hc2 H locs rls hP hz hS hl
  have he := wl_get (cy := cy) (base := base) (I := I) (J := J) (R := R) hk
  rw [en_arrL hs] at he
  exact va_lald hx hb hK hP k 2 he rfl hin hdg (kk hc1 hc2 H locs rls hP hz hS hl)
theorem qx_lald {K : KT} {b : Nat} {M : Mt} {d cl sl pc pc' : Nat} {ls : List (Nat × Value)} {st : List Value} {I : SI} {J : SJ} {R : SR} {n g : Nat} {k len q : Nat} {i : Int32} (ok : OK K M d) (dc : Dc M pc .laload 1 pc') (hs : SH k = (15, len)) (hq : i = nI q ∧ q < len) (hlen : len < 2 ^ 31) (hk : k < n) (kk : WL K b cl sl pc' ls (.long (J k q) :: st) I J R n g) : WL K b cl sl pc ls (.int i :: .ref k :: st) I J R n g := by
  obtain ⟨rfl, hq2⟩ := hq
  refine q_lald ok dc hs (vp_in_nI hq2 hlen) hk ?_
  rw [nI_clamp (Nat.lt_trans hq2 hlen)]
  exact kk
theorem q_iload {K : KT} {b : Nat} {M : Mt} {d cl sl pc pc' : Nat} {ls : List (Nat × Value)} {st : List Value} {I : SI} {J : SJ} {R : SR} {n g : Nat} {i : Nat} {x : Int32} (ok : OK K M d) (dc : Dc M pc (.iload i) 2 pc') (q : Nat) (h : ls[q]? = some (i, .int x)) (kk : WL K b cl sl pc' ls (.int x :: st) I J R n g) : WL K b cl sl pc ls st I J R n g := by
  obtain ⟨p, l, e, Rm, s, m, args, below, meth, c, Q, cy, D, base, nL⟩ := K
  obtain ⟨hx, hb, hnL, hml, hts, hown, hK, hNW, hfr, hlo, hbs, hini, hXS⟩ := ok
  obtain ⟨hdg, rfl⟩ := dc
  intro hc1 hc2 H locs rls hP hz hS hl
  exact lv_iload hx hb hdg (ls_atL hl q h) (kk hc1 hc2 H locs rls hP hz hS hl)
theorem q_aload_n {K : KT} {b : Nat} {M : Mt} {d cl sl pc pc' : Nat} {ls : List (Nat × Value)} {st : List Value} {I : SI} {J : SJ} {R : SR} {n g : Nat} {k : Fin 4} {x : Nat} (ok : OK K M d) (dc : Dc M pc (.aload_n k) 1 pc') (q : Nat) (h : ls[q]? = some ((k : Nat), .ref x)) (kk : WL K b cl sl pc' ls (.ref x :: st) I J R n g) : WL K b cl sl pc ls st I J R n g := by
  obtain ⟨p, l, e, Rm, s, m, args, below, meth, c, Q, cy, D, base, nL⟩ := K
  obtain ⟨hx, hb, hnL, hml, hts, hown, hK, hNW, hfr, hlo, hbs, hini, hXS⟩ := ok
  obtain ⟨hdg, rfl⟩ := dc
  intro hc1 hc2 H locs rls hP hz hS hl
  exact lv_aload_n hx hb hdg rfl (ls_atL hl q h) (kk hc1 hc2 H locs rls hP hz hS hl)
theorem q_istore {K : KT} {b : Nat} {M : Mt} {d cl sl pc pc' : Nat} {ls : List (Nat × Value)} {st : List Value} {I : SI} {J : SJ} {R : SR} {n g : Nat} {i : Nat} {x : Int32} {lv : List (Nat × Value)} (ok : OK K M d) (dc : Dc M pc (.istore i) 2 pc') (hn : i < M.2.2.1) (hi : 0 < i) (h : (i, Value.int x) :: ls.filter (fun q => !(q.1 == i) && !(q.1 + 1 == i && q.2.category == 2)) = lv) (kk : WL K b cl sl pc' lv st I J R n g) : WL K b cl sl pc ls (.int x :: st) I J R n g := by
  obtain ⟨p, l, e, Rm, s, m, args, below, meth, c, Q, cy, D, base, nL⟩ := K
  obtain ⟨hx, hb, hnL, hml, hts, hown, hK, hNW, hfr, hlo, hbs, hini, hXS⟩ := ok
  obtain ⟨hdg, rfl⟩ := dc
  intro hc1 hc2 H locs rls hP hz hS hl
  exact lv_istore hx hb hdg hl (by rw [hnL]; exact hn) rfl (fun rls2 hl2 => kk hc1 hc2 H locs rls2 hP hz hS (lv_putL hl2 h hi))
theorem q_astore_n {K : KT} {b : Nat} {M : Mt} {d cl sl pc pc' : Nat} {ls : List (Nat × Value)} {st : List Value} {I : SI} {J : SJ} {R : SR} {n g : Nat} {k : Fin 4} {i x : Nat} {lv : List (Nat × Value)} (ok : OK K M d) (dc : Dc M pc (.astore_n k) 1 pc') (hk : (k : Nat) = i) (hn : i < M.2.2.1) (hi : 0 < i) (h : (i, Value.ref x) :: ls.filter (fun q => !(q.1 == i) && !(q.1 + 1 == i && q.2.category == 2)) = lv) (kk : WL K b cl sl pc' lv st I J R n g) : WL K b cl sl pc ls (.ref x :: st) I J R n g := by
  obtain ⟨p, l, e, Rm, s, m, args, below, meth, c, Q, cy, D, base, nL⟩ := K
  obtain ⟨hx, hb, hnL, hml, hts, hown, hK, hNW, hfr, hlo, hbs, hini, hXS⟩ := ok
  obtain ⟨hdg, rfl⟩ := dc
  intro hc1 hc2 H locs rls hP hz hS hl
  exact lv_astore_n hx hb hdg hk hl (by rw [hnL]; exact hn) rfl (fun rls2 hl2 => kk hc1 hc2 H locs rls2 hP hz hS (lv_putL hl2 h hi))
theorem q_iinc {K : KT} {b : Nat} {M : Mt} {d cl sl pc pc' : Nat} {ls : List (Nat × Value)} {st : List Value} {I : SI} {J : SJ} {R : SR} {n g : Nat} {i : Nat} {k : Int} {x v : Int32} {lv : List (Nat × Value)} (ok : OK K M d) (dc : Dc M pc (.iinc i k) 3 pc') (q : Nat) (hq : ls[q]? = some (i, .int x)) (hv : x + Int32.ofInt k = v) (hn : i < M.2.2.1) (hi : 0 < i) (h : (i, Value.int v) :: ls.filter (fun q => !(q.1 == i) && !(q.1 + 1 == i && q.2.category == 2)) = lv) (kk : WL K b cl sl pc' lv st I J R n g) : WL K b cl sl pc ls st I J R n g := by
  obtain ⟨p, l, e, Rm, s, m, args, below, meth, c, Q, cy, D, base, nL⟩ := K
  obtain ⟨hx, hb, hnL, hml, hts, hown, hK, hNW, hfr, hlo, hbs, hini, hXS⟩ := ok
  obtain ⟨hdg, rfl⟩ := dc
  intro hc1 hc2 H locs rls hP hz hS hl
  exact lv_iinc (k := q + 1) hx hb hdg hl (by rw [List.getElem?_cons_succ, List.getElem?_map, hq]; rfl) hv (by rw [hnL]; exact hn) rfl (fun rls2 hl2 => kk hc1 hc2 H locs rls2 hP hz hS (lv_putL hl2 h hi))
theorem q_pop2 {K : KT} {b : Nat} {M : Mt} {d cl sl pc pc' : Nat} {ls : List (Nat × Value)} {st : List Value} {I : SI} {J : SJ} {R : SR} {n g : Nat} {v : Value} (ok : OK K M d) (dc : Dc M pc .pop2 1 pc') (hv : v.category = 2) (kk : WL K b cl sl pc' ls st I J R n g) : WL K b cl sl pc ls (v :: st) I J R n g := by
  obtain ⟨p, l, e, Rm, s, m, args, below, meth, c, Q, cy, D, base, nL⟩ := K
  obtain ⟨hx, hb, hnL, hml, hts, hown, hK, hNW, hfr, hlo, hbs, hini, hXS⟩ := ok
  obtain ⟨hdg, rfl⟩ := dc
  intro hc1 hc2 H locs rls hP hz hS hl
  exact lv_pop2_2 hx hb hdg (by rw [rv_cat]; exact hv) (kk hc1 hc2 H locs rls hP hz hS hl)
/-- the script -/
def Sc (K : KT) (b L : Nat) (xs : Nat → Int32) : Prop := match K with
  | (p, l, e, Rm, s, m, args, below, meth, c, Q, cy, D, base, nL) => va_X b L xs s s.heap ∧ b < s.heap.size ∧ base = s.heap.size ∧ L < 2 ^ 31
theorem q_sc0 {K : KT} {b : Nat} {M : Mt} {d cl sl pc pc' : Nat} {ls : List (Nat × Value)} {st : List Value} {I : SI} {J : SJ} {R : SR} {n g : Nat} {L k p1 p2 i4 : Nat} {xs : Nat → Int32} (ok : OK K M d) (sc : Sc K b L xs) (d1 : Dc M pc (.aload_n 0) 1 p1) (d2 : Dc M p1 (.iload i4) 2 p2) (d3 : Dc M p2 .iaload 1 pc') (q : Nat) (h : ls[q]? = some (i4, .int (nI k))) (hk : k < L) (kk : WL K b cl sl pc' ls (.int (xs k) :: st) I J R n g) : WL K b cl sl pc ls st I J R n g := by
  obtain ⟨p, l, e, Rm, s, m, args, below, meth, c, Q, cy, D, base, nL⟩ := K
  obtain ⟨hx, hb, hnL, hml, hts, hown, hK, hNW, hfr, hlo, hbs, hini, hXS⟩ := ok
  obtain ⟨sX, sb, sba, sL⟩ := sc
  intro hc1 hc2 H locs rls hP hz hS hl
  obtain ⟨d1, rfl⟩ := d1
  obtain ⟨d2, rfl⟩ := d2
  obtain ⟨d3, rfl⟩ := d3
  refine lv_aload_n hx hb d1 rfl (lv_at hl 0 rfl) ?_
  refine lv_iload hx hb d2 (ls_atL hl q h) ?_
  refine va_sld hx hb sX sb (by omega) hS (i := nI k) (vp_in_nI hk sL) d3 ?_
  rw [nI_clamp (by omega)]
  exact kk hc1 hc2 H locs rls hP hz hS hl
theorem q_sc {K : KT} {b : Nat} {M : Mt} {d cl sl pc pc' : Nat} {ls : List (Nat × Value)} {st : List Value} {I : SI} {J : SJ} {R : SR} {n g : Nat} {L k j p1 p2 p3 p4 i4 : Nat} {c9 : Int} {xs : Nat → Int32} (ok : OK K M d) (sc : Sc K b L xs) (d1 : Dc M pc (.aload_n 0) 1 p1) (d2 : Dc M p1 (.iload i4) 2 p2) (d3 : Dc M p2 (.iconst c9) 1 p3) (hc9 : Int32.ofInt c9 = nI j) (d4 : Dc M p3 .iadd 1 p4) (d5 : Dc M p4 .iaload 1 pc') (q : Nat) (h : ls[q]? = some (i4, .int (nI k))) (hk : k + j < L) (kk : WL K b cl sl pc' ls (.int (xs (k + j)) :: st) I J R n g) : WL K b cl sl pc ls st I J R n g := by
  obtain ⟨p, l, e, Rm, s, m, args, below, meth, c, Q, cy, D, base, nL⟩ := K
  obtain ⟨hx, hb, hnL, hml, hts, hown, hK, hNW, hfr, hlo, hbs, hini, hXS⟩ := ok
  obtain ⟨sX, sb, sba, sL⟩ := sc
  intro hc1 hc2 H locs rls hP hz hS hl
  obtain ⟨d1, rfl⟩ := d1
  obtain ⟨d2, rfl⟩ := d2
  obtain ⟨d3, rfl⟩ := d3
  obtain ⟨d4, rfl⟩ := d4
  obtain ⟨d5, rfl⟩ := d5
  refine lv_aload_n hx hb d1 rfl (lv_at hl 0 rfl) ?_
  refine lv_iload hx hb d2 (ls_atL hl q h) ?_
  refine lv_iconst hx hb d3 hc9 ?_
  refine lv_iadd hx hb d4 ?_
  rw [show (nI k : Int32) + nI j = nI (k + j) from nI_add k j]
  refine va_sld hx hb sX sb (by omega) hS (i := nI (k + j)) (vp_in_nI hk sL) d5 ?_
  rw [nI_clamp (by omega)]
  exact kk hc1 hc2 H locs rls hP hz hS hl
theorem q_slen {K : KT} {b : Nat} {M : Mt} {d cl sl pc pc' : Nat} {ls : List (Nat × Value)} {st : List Value} {I : SI} {J : SJ} {R : SR} {n g : Nat} {L p1 : Nat} {xs : Nat → Int32} (ok : OK K M d) (sc : Sc K b L xs) (d1 : Dc M pc (.aload_n 0) 1 p1) (d2 : Dc M p1 .arraylength 1 pc') (kk : WL K b cl sl pc' ls (.int (nI L) :: st) I J R n g) : WL K b cl sl pc ls st I J R n g := by
  obtain ⟨p, l, e, Rm, s, m, args, below, meth, c, Q, cy, D, base, nL⟩ := K
  obtain ⟨hx, hb, hnL, hml, hts, hown, hK, hNW, hfr, hlo, hbs, hini, hXS⟩ := ok
  obtain ⟨sX, sb, sba, sL⟩ := sc
  intro hc1 hc2 H locs rls hP hz hS hl
  obtain ⟨d1, rfl⟩ := d1
  obtain ⟨d2, rfl⟩ := d2
  refine lv_aload_n hx hb d1 rfl (lv_at hl 0 rfl) ?_
  exact va_slen hx hb sX sb (by omega) hS d2 (kk hc1 hc2 H locs rls hP hz hS hl)
def bz (x : Int32) : Int32 := if x = 0 then 0 else 1
theorem q_bz {K : KT} {b : Nat} {M : Mt} {d cl sl pc pc' : Nat} {ls : List (Nat × Value)} {st : List Value} {I : SI} {J : SJ} {R : SR} {n g : Nat} {o1 o2 : Int} {p1 p2 p3 p4 : Nat} {x : Int32} (ok : OK K M d) (d1 : Dc M pc (.ifCond .eq o1) 3 p1) (d2 : Dc M p1 (.iconst 1) 1 p2) (d3 : Dc M p2 (.goto o2) 3 p3) (d4 : Dc M p3 (.iconst 0) 1 p4) (h1 : (pc : Int) + o1 = (p3 : Int)) (h2 : (p2 : Int) + o2 = (p4 : Int)) (kk : WL K b cl sl p4 ls (.int (bz x) :: st) I J R n g) : WL K b cl sl pc ls (.int x :: st) I J R n g := by
  refine q_if_eq (tgt := p3) ok d1 h1 (fun h => ?_) (fun h => ?_)
  · rw [show bz x = 0 from if_pos h] at kk
    exact q_iconst (v := 0) ok d4 (by decide) kk
  · rw [show bz x = 1 from if_neg h] at kk
    exact q_iconst (v := 1) ok d2 (by decide) (q_goto (tgt := p4) ok d3 h2 kk)
/-! two worlds -/
def mI (A B : SI) : SI := fun k => if decide (k < nK) = true then A k else B k
def mJ (A B : SJ) : SJ := fun k => if decide (k < nK) = true then A k else B k
theorem mI_m (A B : SI) (JA : SJ) : eI (false, A, JA) B = mI A B := by
  funext k
  unfold eI mI
  cases decide (k < nK) <;> rfl
theorem mJ_m (A : SI) (JA JB : SJ) : eJ (false, A, JA) JB = mJ JA JB := by
  funext k
  unfold eJ mJ
  cases decide (k < nK) <;> rfl
theorem mI_c (A B : SI) (JB : SJ) : eI (true, B, JB) A = mI A B := rfl
theorem mJ_c (B : SI) (JA JB : SJ) : eJ (true, B, JB) JA = mJ JA JB := rfl
theorem mJ_u2 (JA JB : SJ) {k j : Nat} (v : Int64) (h : ¬ k < nK) : u2 (mJ JA JB) k j v = mJ JA (u2 JB k j v) := by
  funext a b
  by_cases e : a = k
  · subst e
    have e2 : ¬ (decide (a < nK) = true) := by simpa using h
    unfold u2 mJ
    simp only [if_neg e2]
  · rw [u2_k _ _ e]; unfold mJ; rw [u2_k _ _ e]
theorem mJ_178 (JA JB : SJ) : mJ JA JB 178 = JB 178 := if_neg (by decide)
theorem cmp0 {x y : Int64} (h : x = y) : lg_cmp x y = 0 := (lg_cmp_eq x y).mpr h
theorem q_x {K : KT} {b : Nat} {M : Mt} {d cl sl pc pc' : Nat} {ls : List (Nat × Value)} {st : List Value} {R : SR} {n g : Nat} {idx np d2 k : Nat} {As : List Value} {Y : Mt} {v : Option Value} {A B A1 : SI} {JA JB JA1 : SJ} {R1 : SR} (ok : OK K M d) (dc : Dc M pc (.invokevirtual idx) 3 pc') (mi : MI Y np) (lk : LK M idx Y) (hs : ∃ T N, (SH k).1 < 13 ∧ vwCl[(SH k).1]? = some (Y.1.cls, T, N)) (hk : k < n) (hM : MM d2 0 0 Y (.ref k :: As) (eI (true, B, JB) A) (eJ (true, B, JB) JA) R n g (Pd v (eI (true, B, JB) A1) (eJ (true, B, JB) JA1) R1 n g)) (hd : d2 < d) (hn : As.length = np) (hw : (st.map Value.category).sum ≤ 8) (kk : WL K b cl sl pc' ls (v.toList ++ st) (mI A1 B) (mJ JA1 JB) R1 n g) : WL K b cl sl pc ls (As.reverse ++ .ref k :: st) (mI A B) (mJ JA JB) R n g :=
  q_cV ok dc mi lk hs hk hM hd hn hw kk
theorem q_m {K : KT} {b : Nat} {M : Mt} {d cl sl pc pc' : Nat} {ls : List (Nat × Value)} {st : List Value} {R : SR} {n g : Nat} {idx np d2 k : Nat} {As : List Value} {Y : Mt} {v : Option Value} {A B B1 : SI} {JA JB JB1 : SJ} {R1 : SR} (ok : OK K M d) (dc : Dc M pc (.invokevirtual idx) 3 pc') (mi : MI Y np) (lk : LK M idx Y) (hs : ∃ T N, (SH k).1 < 13 ∧ vwCl[(SH k).1]? = some (Y.1.cls, T, N)) (hk : k < n) (hM : MM d2 0 0 Y (.ref k :: As) (eI (false, A, JA) B) (eJ (false, A, JA) JB) R n g (Pd v (eI (false, A, JA) B1) (eJ (false, A, JA) JB1) R1 n g)) (hd : d2 < d) (hn : As.length = np) (hw : (st.map Value.category).sum ≤ 8) (kk : WL K b cl sl pc' ls (v.toList ++ st) (mI A B1) (mJ JA JB1) R1 n g) : WL K b cl sl pc ls (As.reverse ++ .ref k :: st) (mI A B) (mJ JA JB) R n g := by
  rw [mI_m, mJ_m, mI_m, mJ_m] at hM
  exact q_cV ok dc mi lk hs hk hM hd hn hw kk
def Kl9 : KT → Prop := fun K => match K with
  | (p, l, e, Rm, s, m, args, below, meth, c, Q, cy, D, base, nL) => l.stackTraces = false
theorem lm_good {idx : Nat} (h : Cond.methodLink RL idx yL_mark ∈ ALLW) : GoodIn ALLW (va_wsS RL idx yL_mark wsLm) := by
  intro w hw
  have gd : ∀ w ∈ ALLW, w ∈ ALLW ∧ ((w.onTables && w.keeps) = true ∨ ∃ ty, w = .arrayClass ty) := fun w hw => ⟨hw, good_of_word (List.mem_filter.mp hw).2⟩
  unfold va_wsS wsLm at hw
  rcases List.mem_append.mp hw with hw | hw
  · simp only [List.mem_cons, List.not_mem_nil, or_false] at hw
    rcases hw with rfl | rfl | rfl
    · exact gd _ h
    · exact gd _ (iT_6 3 (by decide +kernel) (by decide +kernel))
    · exact gd _ (iT_1 0 (by decide +kernel) (by decide +kernel))
  · rcases List.mem_cons.mp hw with rfl | hw
    · exact gd _ (iT_6 4 (by decide +kernel) (by decide +kernel))
    · exact gd _ hw
theorem lm_d : yL_mark.cls ≠ "java/lang/invoke/MethodHandle" ∧ yL_mark.cls ≠ "java/lang/invoke/VarHandle" ∧ (parseMethodDescriptor yL_mark.desc).map (fun d => d.parameters.length) = some 4 := ⟨by decide +kernel, by decide +kernel, by decide +kernel⟩
/-- a static call of the law's own mark -/
theorem q_mark {K : KT} {b : Nat} {M : Mt} {d cl sl pc pc' : Nat} {ls : List (Nat × Value)} {st : List Value} {R : SR} {n g idx : Nat} {A B : SI} {JA JB : SJ} {a0 a1 : Int32} (ok : OK K M d) (hl9 : Kl9 K) (hE : EX (Kb K) (Ks K)) (dc : Dc M pc (.invokestatic idx) 3 pc') (hM0 : M.1.cls = RL) (hlk : Cond.methodLink RL idx yL_mark ∈ ALLW) (ro : RO R) (hnn : nK ≤ n) (h178 : 178 < n) (hd : 6 < d) (hw : (st.map Value.category).sum ≤ 8) (hcap : cl + 1 ≤ K.2.2.2.1.cells ∧ sl + 6 ≤ K.2.2.2.1.slots)
    (kk : ∀ g' : Nat, WL K b (cl + 1) (sl + 6) pc' ls (.int (G_X11_mark a0 a1 A JA) :: st) (mI A B) (mJ JA (if G_X11_mark a0 a1 A JA = 0 then u2 JB 178 0 (F_X11_mark a0 a1 A JA).toInt64 else JB)) R n g') : WL K b cl sl pc ls (.ref 178 :: .int a1 :: .int a0 :: .ref 0 :: st) (mI A B) (mJ JA JB) R n g := by
  obtain ⟨p, l, e, Rm, s, m, args, below, meth, c, Q, cy, D, base, nL⟩ := K
  obtain ⟨hx, hb, hnL, hml, hts, hown, hK, hNW, hfr, hlo, hbs, hini, hXS⟩ := ok
  obtain ⟨hdg, rfl⟩ := dc
  dsimp only at hcap
  intro hc1 hc2 H locs rls hP hz hS hl
  have hM := c_L_mark (I := A) (J := JA) (R := R) (n := n) (g := g) (f := (true, B, JB)) ro hnn h178 rfl a0 a1 l hl9 cy D base
  have hfix : CallFix p m c M.2.1 nL s args ALLW M.1.cls := ⟨hx, hb, hml, hown, hts⟩
  have hcat : ((st.map (rv base)).map fun v => v.category).sum ≤ 8 := by
    rw [List.map_map]
    have e : ((fun v => v.category) ∘ rv base) = Value.category := by funext v; exact rv_cat base v
    rw [e]; exact hw
  have hpb : ∀ U : State, U.heap = H → s.WarmedH U.vm → PBE cy D base (mI A B) (mJ JA JB) R n g EX U := fun U hU hW => ⟨⟨by rw [hU]; exact hP, by rw [hU]; exact hz, va_K.moved hW.alike hK, nw_warm hW hNW, xs_call hXS hW hU hS⟩, ex_move hE hW hU hS⟩
  have hR1 : (rmd 6 1 6).frames + 1 ≤ Rm.frames ∧ 8 + (5 + 11) + (rmd 6 1 6).locals ≤ Rm.locals := by
    have h1 : (6 + 1 + 1) * 64 ≤ (d + 1) * 64 := Nat.mul_le_mul_right _ (by omega)
    constructor
    · show 6 + 1 + 1 ≤ _; omega
    · show 8 + (5 + 11) + (6 + 1) * 64 ≤ _; omega
  have hpre : PreS s H (va_Pc ([Value.ref 0, Value.int a0, Value.int a1, Value.ref 178].map (rv base)) (PBE cy D base (eI (true, B, JB) A) (eJ (true, B, JB) JA) R n g EX)) ([Value.ref 0, Value.int a0, Value.int a1, Value.ref 178].map (rv base)) := ⟨pbe_blind ex_bf, fun U hU hW => ⟨rfl, hpb U hU hW⟩⟩
  refine wk_go (vx_runSW (As := [Value.ref 0, Value.int a0, Value.int a1, Value.ref 178].map (rv base)) (rest := st.map (rv base)) (hh := hhL) hfix hM (vx_cwSW 4 (Ts := ALLW) hts (by rw [hM0]; exact lm_good hlk) rfl rfl rfl lm_d hR1) hpre rfl rfl hl.1 rfl (lv_room hcat) hdg hcap) hS ?_
  · intro v I J R' n' g' H1 locs1 hp h1 h2 h3
    obtain ⟨rfl, rfl, rfl, rfl, rfl⟩ := hp
    have e : (if G_X11_mark a0 a1 A JA = 0 then u2 (eJ (true, B, JB) JA) 178 0 (F_X11_mark a0 a1 A JA).toInt64 else eJ (true, B, JB) JA) = mJ JA (if G_X11_mark a0 a1 A JA = 0 then u2 JB 178 0 (F_X11_mark a0 a1 A JA).toInt64 else JB) := by
      split
      · exact mJ_u2 JA JB _ (by decide)
      · rfl
    rw [e] at h1
    exact kk g' hcap.1 hcap.2 H1 locs1 rls h1 h2 h3 hl
