/-! more rows: constants, switches, making, copying, calls with one outcome, array rows by a natural place -/
theorem w_ldc {K : KT} {M : Mt} {d cl sl pc pc' : Nat} {ls : List (Nat × Value)} {st : List Value} {I : SI} {J : SJ} {R : SR} {n g : Nat} {idx : Nat} {v : Int32} (ok : OK K M d) (dc : Dc M pc (.ldc idx) 2 pc') (hv : Cond.constant M.1.cls idx v ∈ ALLW) (kk : WK K cl sl pc' ls (.int v :: st) I J R n g) : WK K cl sl pc ls st I J R n g := by
  obtain ⟨p, l, e, Rm, s, m, args, below, meth, c, Q, cy, D, base, nL⟩ := K
  obtain ⟨hx, hb, hnL, hml, hts, hown, hK, hNW, hfr, hlo, hbs, hini, hXS⟩ := ok
  obtain ⟨hdg, rfl⟩ := dc
  intro hc1 hc2 H locs rls hP hz hS hl
  exact lv_ldc hx hb hown (hts _ hv) hdg (kk hc1 hc2 H locs rls hP hz hS hl)
theorem w_ldcw {K : KT} {M : Mt} {d cl sl pc pc' : Nat} {ls : List (Nat × Value)} {st : List Value} {I : SI} {J : SJ} {R : SR} {n g : Nat} {idx : Nat} {v : Int32} (ok : OK K M d) (dc : Dc M pc (.ldc_w idx) 3 pc') (hv : Cond.constant M.1.cls idx v ∈ ALLW) (kk : WK K cl sl pc' ls (.int v :: st) I J R n g) : WK K cl sl pc ls st I J R n g := by
  obtain ⟨p, l, e, Rm, s, m, args, below, meth, c, Q, cy, D, base, nL⟩ := K
  obtain ⟨hx, hb, hnL, hml, hts, hown, hK, hNW, hfr, hlo, hbs, hini, hXS⟩ := ok
  obtain ⟨hdg, rfl⟩ := dc
  intro hc1 hc2 H locs rls hP hz hS hl
  exact lv_ldcw hx hb hown (hts _ hv) hdg (kk hc1 hc2 H locs rls hP hz hS hl)
theorem w_ldc2 {K : KT} {M : Mt} {d cl sl pc pc' : Nat} {ls : List (Nat × Value)} {st : List Value} {I : SI} {J : SJ} {R : SR} {n g : Nat} {idx : Nat} {v : Int64} (ok : OK K M d) (dc : Dc M pc (.ldc2_w idx) 3 pc') (hv : Cond.constantLong M.1.cls idx v ∈ ALLW) (kk : WK K cl sl pc' ls (.long v :: st) I J R n g) : WK K cl sl pc ls st I J R n g := by
  obtain ⟨p, l, e, Rm, s, m, args, below, meth, c, Q, cy, D, base, nL⟩ := K
  obtain ⟨hx, hb, hnL, hml, hts, hown, hK, hNW, hfr, hlo, hbs, hini, hXS⟩ := ok
  obtain ⟨hdg, rfl⟩ := dc
  intro hc1 hc2 H locs rls hP hz hS hl
  exact lv_ldc2 hx hb hown (hts _ hv) hdg (kk hc1 hc2 H locs rls hP hz hS hl)
theorem w_tabIn {K : KT} {M : Mt} {d cl sl pc pc' : Nat} {ls : List (Nat × Value)} {st : List Value} {I : SI} {J : SJ} {R : SR} {n g : Nat} {dflt lo hi : Int} {offs : Array Int} {len : Nat} {x : Int32} {off : Int} {tgt : Nat} (ok : OK K M d) (dc : Dc M pc (.tableswitch dflt lo hi offs) len pc') (h1 : ¬ x.toInt < lo) (h2 : ¬ hi < x.toInt) (ho : offs[(x.toInt - lo).toNat]? = some off) (ht : (pc : Int) + off = (tgt : Int)) (kk : WK K cl sl tgt ls st I J R n g) : WK K cl sl pc ls (.int x :: st) I J R n g := by
  obtain ⟨p, l, e, Rm, s, m, args, below, meth, c, Q, cy, D, base, nL⟩ := K
  obtain ⟨hx, hb, hnL, hml, hts, hown, hK, hNW, hfr, hlo, hbs, hini, hXS⟩ := ok
  obtain ⟨hdg, rfl⟩ := dc
  intro hc1 hc2 H locs rls hP hz hS hl
  exact lv_tableIn hx hb hdg h1 h2 ho ht (kk hc1 hc2 H locs rls hP hz hS hl)
theorem w_tabOut {K : KT} {M : Mt} {d cl sl pc pc' : Nat} {ls : List (Nat × Value)} {st : List Value} {I : SI} {J : SJ} {R : SR} {n g : Nat} {dflt lo hi : Int} {offs : Array Int} {len : Nat} {x : Int32} {tgt : Nat} (ok : OK K M d) (dc : Dc M pc (.tableswitch dflt lo hi offs) len pc') (h : x.toInt < lo ∨ hi < x.toInt) (ht : (pc : Int) + dflt = (tgt : Int)) (kk : WK K cl sl tgt ls st I J R n g) : WK K cl sl pc ls (.int x :: st) I J R n g := by
  obtain ⟨p, l, e, Rm, s, m, args, below, meth, c, Q, cy, D, base, nL⟩ := K
  obtain ⟨hx, hb, hnL, hml, hts, hown, hK, hNW, hfr, hlo, hbs, hini, hXS⟩ := ok
  obtain ⟨hdg, rfl⟩ := dc
  intro hc1 hc2 H locs rls hP hz hS hl
  exact lv_tableOut hx hb hdg h ht (kk hc1 hc2 H locs rls hP hz hS hl)
theorem w_lkp {K : KT} {M : Mt} {d cl sl pc pc' : Nat} {ls : List (Nat × Value)} {st : List Value} {I : SI} {J : SJ} {R : SR} {n g : Nat} {dflt : Int} {ps : Array (Int × Int)} {len : Nat} {x : Int32} {off : Int} {tgt : Nat} (ok : OK K M d) (dc : Dc M pc (.lookupswitch dflt ps) len pc') (hp : (ps.toList.zip (ps.toList.drop 1)).all (fun (a, next) => a.1 < next.1) = true) (ho : Op.lookupswitch.offset ps.toList dflt x.toInt = off) (ht : (pc : Int) + off = (tgt : Int)) (kk : WK K cl sl tgt ls st I J R n g) : WK K cl sl pc ls (.int x :: st) I J R n g := by
  obtain ⟨p, l, e, Rm, s, m, args, below, meth, c, Q, cy, D, base, nL⟩ := K
  obtain ⟨hx, hb, hnL, hml, hts, hown, hK, hNW, hfr, hlo, hbs, hini, hXS⟩ := ok
  obtain ⟨hdg, rfl⟩ := dc
  intro hc1 hc2 H locs rls hP hz hS hl
  exact lv_lookup hx hb hdg hp ho ht (kk hc1 hc2 H locs rls hP hz hS hl)
theorem w_obj {K : KT} {M : Mt} {d cl sl pc pc' : Nat} {ls : List (Nat × Value)} {st : List Value} {I : SI} {J : SJ} {R : SR} {n g : Nat} {idx k : Nat} (ok : OK K M d) (dc : Dc M pc (.invokespecial idx) 3 pc') (h1 : Cond.methodLink M.1.cls idx Lib.objectInit ∈ ALLW) (h2 : Cond.instanceMethod Lib.objectInit ∈ ALLW) (h3 : Cond.code Lib.objectInit ⟨#[0xb1]⟩ 1 none ∈ ALLW) (hw : (st.map Value.category).sum ≤ 8) (kk : WK K cl sl pc' ls st I J R n g) : WK K cl sl pc ls (.ref k :: st) I J R n g := by
  obtain ⟨p, l, e, Rm, s, m, args, below, meth, c, Q, cy, D, base, nL⟩ := K
  obtain ⟨hx, hb, hnL, hml, hts, hown, hK, hNW, hfr, hlo, hbs, hini, hXS⟩ := ok
  obtain ⟨hdg, rfl⟩ := dc
  intro hc1 hc2 H locs rls hP hz hS hl
  have hcat : ((st.map (rv base)).map fun v => v.category).sum ≤ 8 := by
    rw [List.map_map]
    have e : ((fun v => v.category) ∘ rv base) = Value.category := by funext v; exact rv_cat base v
    rw [e]; exact hw
  exact W.objInit hx hb hown (hts _ h1) (hts _ h2) (hts _ h3) rfl (hl.1.trans hml.symm) rfl hdg (by omega) (by show 2 * 0 + _ + 12 ≤ _; omega) (kk hc1 hc2 H locs rls hP hz hS hl)
/-- nothing stands behind the first n cells -/
def Zr (I : SI) (J : SJ) (R : SR) (n : Nat) : Prop := ∀ a j, n ≤ a → I a j = 0 ∧ J a j = 0 ∧ R a j = none
def dfv (ty : FieldType) : Value := match ty with
  | .long => .long 0
  | .object _ => .null
  | .array _ => .null
  | _ => .int 0
def isP (ty : FieldType) : Bool := match ty with
  | .float => false
  | .double => false
  | _ => true
theorem dfv_ok {ty : FieldType} (h : isP ty = true) : defaultValue ty = dfv ty := by cases ty <;> first | rfl | cases h
theorem fv_zero {base n j : Nat} {I : SI} {J : SJ} {R : SR} (hz : Zr I J R n) : fv base I J R n j = dfv (tyC (SH n).1 j) := by
  obtain ⟨h1, h2, h3⟩ := hz n j (Nat.le_refl _)
  unfold fv dfv
  rw [h1, h2, h3]
  cases tyC (SH n).1 j <;> rfl
theorem wl_push {cy : Nat → ClassId} {base n : Nat} {I : SI} {J : SJ} {R : SR} : wl cy base I J R (n + 1) = wl cy base I J R n ++ [(base + n, en cy base I J R n)] := by
  simp [wl, List.range_succ]
theorem w_new {K : KT} {M : Mt} {d cl sl pc pc' : Nat} {ls : List (Nat × Value)} {st : List Value} {I : SI} {J : SJ} {R : SR} {n g : Nat} {idx ci N : Nat} {C : String} {T : u_T} (ok : OK K M d) (dc : Dc M pc (.new idx) 3 pc') (hg : g = 0) (hcls : CLS ci C T N) (hs : SH n = (ci, 0)) (hp : ∀ j, j < N → isP (tyC ci j) = true) (h1 : Cond.classLink M.1.cls idx C ∈ ALLW) (h2 : Cond.instantiable C N ∈ ALLW) (h3 : Cond.initialized C ∈ ALLW) (hZ : Zr I J R n) (hcap : cl + 1 ≤ K.2.2.2.1.cells ∧ sl + N ≤ K.2.2.2.1.slots) (kk : WK K (cl + 1) (sl + N) pc' ls (.ref n :: st) I J R (n + 1) 0) : WK K cl sl pc ls st I J R n g := by
  subst hg
  obtain ⟨p, l, e, Rm, s, m, args, below, meth, c, Q, cy, D, base, nL⟩ := K
  obtain ⟨hx, hb, hnL, hml, hts, hown, hK, hNW, hfr, hlo, hbs, hini, hXS⟩ := ok
  obtain ⟨hdg, rfl⟩ := dc
  intro hc1 hc2 H locs rls hP hz hS hl
  dsimp only at hcap
  obtain ⟨hc, hN, hlt, hin, hty, hnm⟩ := hcls
  have hKn := hK.1 ci _ hc
  have hz' : H.size = base + n := hz
  refine W.newcK hx hb hown (hts _ h1) (hts _ h2) (hts _ h3) rfl hdg hcap.1 hcap.2 hKn.2.1 hz' fun H1 kC hkC e1 z1 o1 => ?_
  have hk : ∀ (k : Nat) (x : Nat × va_E), (wl cy base I J R n)[k]? = some x → H1[x.1]? = H[x.1]? := fun k x hx => o1 x.1 (by have := (hP k x hx).lt; omega)
  refine kk hcap.1 hcap.2 H1 locs rls ?_ (by omega) ⟨Nat.le_trans hS.1 (by omega), fun x g1 g2 => (o1 x (by have := hS.1; omega)).trans (hS.2.1 x g1 g2), hS.2.2⟩ hl
  rw [wl_push]
  refine (hP.kept hk).app (fun k x hx => ?_)
  have hz2 : k < 1 := (List.getElem?_eq_some_iff.mp hx).1
  rw [show k = 0 by omega] at hx
  cases hx
  rw [en_obj (ci := ci) (by rw [hs]) hlt]
  refine ⟨_, hc, (u_born (tyC ci) hts hin hKn hkC e1 hty).to fun j hj => ?_⟩
  rw [dfv_ok (hp j hj)]
  have e2 : ((List.range (nF ci)).map (fv base I J R n))[j]? = some (dfv (tyC ci j)) := by
    rw [List.getElem?_map, List.getElem?_range (by omega)]
    show some (fv base I J R n j) = _
    rw [fv_zero hZ, hs]
  simp only [vp_V, List.getD, e2]
  rfl
theorem w_newI {K : KT} {M : Mt} {d cl sl pc pc' : Nat} {ls : List (Nat × Value)} {st : List Value} {I : SI} {J : SJ} {R : SR} {n g : Nat} {x : Int32} {len : Nat} (ok : OK K M d) (dc : Dc M pc (.newarray .int) 2 pc') (hg : g = 0) (hs : SH n = (14, len)) (hx0 : ¬ x < 0) (hlen : x.toNatClampNeg = len) (hby : len * 8 ≤ 536870912) (h1 : Cond.arrayClass .int ∈ ALLW) (hZ : Zr I J R n) (hcap : cl + 1 ≤ K.2.2.2.1.cells ∧ sl + len ≤ K.2.2.2.1.slots) (kk : WK K (cl + 1) (sl + len) pc' ls (.ref n :: st) I J R (n + 1) 0) : WK K cl sl pc ls (.int x :: st) I J R n g := by
  subst hg
  obtain ⟨p, l, e, Rm, s, m, args, below, meth, c, Q, cy, D, base, nL⟩ := K
  obtain ⟨hx, hb, hnL, hml, hts, hown, hK, hNW, hfr, hlo, hbs, hini, hXS⟩ := ok
  obtain ⟨hdg, rfl⟩ := dc
  intro hc1 hc2 H locs rls hP hz hS hl
  dsimp only at hcap
  have hz' : H.size = base + n := hz
  refine va_newaK (atype := .int) hx hb (hts _ h1) rfl hdg (n := x) (N := len) rfl hx0 hlen (Nat.le_trans (Nat.mul_le_mul_left _ (by decide)) hby) hcap.1 hcap.2 hz' fun H1 cA e1 z1 o1 hAr hNm => ?_
  have hcA : cA = cy 14 := by
    have h9 : va_RA s (cy 14) .int := (hK.2 1 (cy 14, .int) rfl).2
    have h8 : s.vm.findClass ("[" ++ FieldType.toString .int) = some (cy 14) := h9
    exact Option.some.inj (hNm.symm.trans h8)
  subst hcA
  have hk : ∀ (k : Nat) (q : Nat × va_E), (wl cy base I J R n)[k]? = some q → H1[q.1]? = H[q.1]? := fun k q hq => o1 q.1 (by have := (hP k q hq).lt; omega)
  refine kk hcap.1 hcap.2 H1 locs rls ?_ (by omega) ⟨Nat.le_trans hS.1 (by omega), fun q g1 g2 => (o1 q (by have := hS.1; omega)).trans (hS.2.1 q g1 g2), hS.2.2⟩ hl
  rw [wl_push]
  refine (hP.kept hk).app (fun k q hq => ?_)
  have hz2 : k < 1 := (List.getElem?_eq_some_iff.mp hq).1
  rw [show k = 0 by omega] at hq
  cases hq
  rw [en_arr hs (by decide)]
  show H1[base + n]? = some (vp_cell _ _)
  rw [e1, vp_cell_i]
  refine congrArg some ?_
  refine congrArg (arrV (cy 14) len) ?_
  funext j
  show .int 0 = Value.int (I n j)
  rw [(hZ n j (Nat.le_refl _)).1]
theorem w_newB {K : KT} {M : Mt} {d cl sl pc pc' : Nat} {ls : List (Nat × Value)} {st : List Value} {I : SI} {J : SJ} {R : SR} {n g : Nat} {x : Int32} {len : Nat} (ok : OK K M d) (dc : Dc M pc (.newarray .byte) 2 pc') (hg : g = 0) (hs : SH n = (13, len)) (hx0 : ¬ x < 0) (hlen : x.toNatClampNeg = len) (hby : len * 8 ≤ 536870912) (h1 : Cond.arrayClass .byte ∈ ALLW) (hZ : Zr I J R n) (hcap : cl + 1 ≤ K.2.2.2.1.cells ∧ sl + len ≤ K.2.2.2.1.slots) (kk : WK K (cl + 1) (sl + len) pc' ls (.ref n :: st) I J R (n + 1) 0) : WK K cl sl pc ls (.int x :: st) I J R n g := by
  subst hg
  obtain ⟨p, l, e, Rm, s, m, args, below, meth, c, Q, cy, D, base, nL⟩ := K
  obtain ⟨hx, hb, hnL, hml, hts, hown, hK, hNW, hfr, hlo, hbs, hini, hXS⟩ := ok
  obtain ⟨hdg, rfl⟩ := dc
  intro hc1 hc2 H locs rls hP hz hS hl
  dsimp only at hcap
  have hz' : H.size = base + n := hz
  refine va_newaK (atype := .byte) hx hb (hts _ h1) rfl hdg (n := x) (N := len) rfl hx0 hlen (Nat.le_trans (Nat.mul_le_mul_left _ (by decide)) hby) hcap.1 hcap.2 hz' fun H1 cA e1 z1 o1 hAr hNm => ?_
  have hcA : cA = cy 13 := by
    have h9 : va_RA s (cy 13) .byte := (hK.2 0 (cy 13, .byte) rfl).2
    have h8 : s.vm.findClass ("[" ++ FieldType.toString .byte) = some (cy 13) := h9
    exact Option.some.inj (hNm.symm.trans h8)
  subst hcA
  have hk : ∀ (k : Nat) (q : Nat × va_E), (wl cy base I J R n)[k]? = some q → H1[q.1]? = H[q.1]? := fun k q hq => o1 q.1 (by have := (hP k q hq).lt; omega)
  refine kk hcap.1 hcap.2 H1 locs rls ?_ (by omega) ⟨Nat.le_trans hS.1 (by omega), fun q g1 g2 => (o1 q (by have := hS.1; omega)).trans (hS.2.1 q g1 g2), hS.2.2⟩ hl
  rw [wl_push]
  refine (hP.kept hk).app (fun k q hq => ?_)
  have hz2 : k < 1 := (List.getElem?_eq_some_iff.mp hq).1
  rw [show k = 0 by omega] at hq
  cases hq
  rw [en_arr hs (by decide)]
  show H1[base + n]? = some (vp_cell _ _)
  rw [e1, vp_cell_i]
  refine congrArg some ?_
  refine congrArg (arrV (cy 13) len) ?_
  funext j
  show .int 0 = Value.int (I n j)
  rw [(hZ n j (Nat.le_refl _)).1]
theorem w_newL {K : KT} {M : Mt} {d cl sl pc pc' : Nat} {ls : List (Nat × Value)} {st : List Value} {I : SI} {J : SJ} {R : SR} {n g : Nat} {x : Int32} {len : Nat} (ok : OK K M d) (dc : Dc M pc (.newarray .long) 2 pc') (hg : g = 0) (hs : SH n = (15, len)) (hx0 : ¬ x < 0) (hlen : x.toNatClampNeg = len) (hby : len * 8 ≤ 536870912) (h1 : Cond.arrayClass .long ∈ ALLW) (hZ : Zr I J R n) (hcap : cl + 1 ≤ K.2.2.2.1.cells ∧ sl + len ≤ K.2.2.2.1.slots) (kk : WK K (cl + 1) (sl + len) pc' ls (.ref n :: st) I J R (n + 1) 0) : WK K cl sl pc ls (.int x :: st) I J R n g := by
  subst hg
  obtain ⟨p, l, e, Rm, s, m, args, below, meth, c, Q, cy, D, base, nL⟩ := K
  obtain ⟨hx, hb, hnL, hml, hts, hown, hK, hNW, hfr, hlo, hbs, hini, hXS⟩ := ok
  obtain ⟨hdg, rfl⟩ := dc
  intro hc1 hc2 H locs rls hP hz hS hl
  dsimp only at hcap
  have hz' : H.size = base + n := hz
  refine va_newaK (atype := .long) hx hb (hts _ h1) rfl hdg (n := x) (N := len) rfl hx0 hlen (Nat.le_trans (Nat.mul_le_mul_left _ (by decide)) hby) hcap.1 hcap.2 hz' fun H1 cA e1 z1 o1 hAr hNm => ?_
  have hcA : cA = cy 15 := by
    have h9 : va_RA s (cy 15) .long := (hK.2 2 (cy 15, .long) rfl).2
    have h8 : s.vm.findClass ("[" ++ FieldType.toString .long) = some (cy 15) := h9
    exact Option.some.inj (hNm.symm.trans h8)
  subst hcA
  have hk : ∀ (k : Nat) (q : Nat × va_E), (wl cy base I J R n)[k]? = some q → H1[q.1]? = H[q.1]? := fun k q hq => o1 q.1 (by have := (hP k q hq).lt; omega)
  refine kk hcap.1 hcap.2 H1 locs rls ?_ (by omega) ⟨Nat.le_trans hS.1 (by omega), fun q g1 g2 => (o1 q (by have := hS.1; omega)).trans (hS.2.1 q g1 g2), hS.2.2⟩ hl
  rw [wl_push]
  refine (hP.kept hk).app (fun k q hq => ?_)
  have hz2 : k < 1 := (List.getElem?_eq_some_iff.mp hq).1
  rw [show k = 0 by omega] at hq
  cases hq
  rw [en_arrL hs]
  show H1[base + n]? = some (vp_cell _ _)
  rw [e1, vp_cell_l]
  refine congrArg some ?_
  refine congrArg (arrV (cy 15) len) ?_
  funext j
  show .long 0 = Value.long (J n j)
  rw [(hZ n j (Nat.le_refl _)).2.1]
theorem w_newZ {K : KT} {M : Mt} {d cl sl pc pc' : Nat} {ls : List (Nat × Value)} {st : List Value} {I : SI} {J : SJ} {R : SR} {n g : Nat} {x : Int32} {len : Nat} (ok : OK K M d) (dc : Dc M pc (.newarray .boolean) 2 pc') (hg : g = 0) (hs : SH n = (16, len)) (hx0 : ¬ x < 0) (hlen : x.toNatClampNeg = len) (hby : len * 8 ≤ 536870912) (h1 : Cond.arrayClass .boolean ∈ ALLW) (hZ : Zr I J R n) (hcap : cl + 1 ≤ K.2.2.2.1.cells ∧ sl + len ≤ K.2.2.2.1.slots) (kk : WK K (cl + 1) (sl + len) pc' ls (.ref n :: st) I J R (n + 1) 0) : WK K cl sl pc ls (.int x :: st) I J R n g := by
  subst hg
  obtain ⟨p, l, e, Rm, s, m, args, below, meth, c, Q, cy, D, base, nL⟩ := K
  obtain ⟨hx, hb, hnL, hml, hts, hown, hK, hNW, hfr, hlo, hbs, hini, hXS⟩ := ok
  obtain ⟨hdg, rfl⟩ := dc
  intro hc1 hc2 H locs rls hP hz hS hl
  dsimp only at hcap
  have hz' : H.size = base + n := hz
  refine va_newaK (atype := .boolean) hx hb (hts _ h1) rfl hdg (n := x) (N := len) rfl hx0 hlen (Nat.le_trans (Nat.mul_le_mul_left _ (by decide)) hby) hcap.1 hcap.2 hz' fun H1 cA e1 z1 o1 hAr hNm => ?_
  have hcA : cA = cy 16 := by
    have h9 : va_RA s (cy 16) .boolean := (hK.2 3 (cy 16, .boolean) rfl).2
    have h8 : s.vm.findClass ("[" ++ FieldType.toString .boolean) = some (cy 16) := h9
    exact Option.some.inj (hNm.symm.trans h8)
  subst hcA
  have hk : ∀ (k : Nat) (q : Nat × va_E), (wl cy base I J R n)[k]? = some q → H1[q.1]? = H[q.1]? := fun k q hq => o1 q.1 (by have := (hP k q hq).lt; omega)
  refine kk hcap.1 hcap.2 H1 locs rls ?_ (by omega) ⟨Nat.le_trans hS.1 (by omega), fun q g1 g2 => (o1 q (by have := hS.1; omega)).trans (hS.2.1 q g1 g2), hS.2.2⟩ hl
  rw [wl_push]
  refine (hP.kept hk).app (fun k q hq => ?_)
  have hz2 : k < 1 := (List.getElem?_eq_some_iff.mp hq).1
  rw [show k = 0 by omega] at hq
  cases hq
  rw [en_arr hs (by decide)]
  show H1[base + n]? = some (vp_cell _ _)
  rw [e1, vp_cell_i]
  refine congrArg some ?_
  refine congrArg (arrV (cy 16) len) ?_
  funext j
  show .int 0 = Value.int (I n j)
  rw [(hZ n j (Nat.le_refl _)).1]
/- xa_copyi: the kit's row for arraycopy, its proof turned so that the heap's size is told too -/
section XC
variable {p : Program} {l : Launch} {e : Env} {R : Room} {s : State} {m : MethodId} {args : Array Value} {below : List Frame} {meth : Method} {c : Code} {H : Heap} {locs : List Loc} {cells slots : Nat} {Q : State → Prop} {pc : Nat} {ls : Array Slot} {rest : List Value} {D : va_G} {cl : List vw_C} {ws : va_W} {tys : List (ClassId × FieldType)} {A : Nat → Prop} {H0 : Heap} {a : Nat}
theorem xa_copyi {cc : ByteArray} (hexec : p.tables.exec = Jvm.exec) (hb : c.code = cc) (hml : c.maxLocals = ls.size) {own : String} {index : Nat} (hown : s.vm.findClass own = some m.cls) (hlink : (Cond.methodLink own index arraycopyName).before args s = true) (hnat : (Cond.native arraycopyName).before args s = true) (hstat : (Cond.static arraycopyName).before args s = true) (hini : (Cond.initialized "java/lang/System").before args s = true)
    (hK : va_K D cl tys s) (hP : va_P D cl ws H) (hD : va_D A ws) (hS : va_S A H0 H locs) (q0 q1 t0 t1 : Nat) {a0 : Nat} {c0 c1 : ClassId} {n0 n1 : Nat} {f g : Nat → Int32} {ty : FieldType} (ha0 : ws[q0]? = some (a0, .inl (c0, n0, .inl f))) (ha1 : ws[q1]? = some (a, .inl (c1, n1, .inl g))) (ht0 : tys[t0]? = some (c0, ty)) (ht1 : tys[t1]? = some (c1, ty)) (hprim : refKind ty = false)
    {sp dp n : Int32} (h1 : ¬ sp < 0) (h2 : ¬ dp < 0) (h3 : ¬ n < 0) (h4 : sp.toNatClampNeg + n.toNatClampNeg ≤ n0) (h5 : dp.toNatClampNeg + n.toNatClampNeg ≤ n1) (hfit : ∀ i, i < n.toNatClampNeg → fits ty (.int (f (sp.toNatClampNeg + i))) = true)
    (hframes : 1 ≤ R.frames) (hlocals : (rest.map fun v => v.category).sum + (nativeFrameWords "java/lang/System" "arraycopy" 5 + 11) ≤ R.locals) (hdg : decode cc pc = .ok (.invokestatic index, 3))
    (kk : ∀ (H1 : Heap) (locs1 : List Loc), H1.size = H.size → va_P D cl (ws.set q1 (a, .inl (c1, n1, .inl (va_cpy f g sp.toNatClampNeg dp.toNatClampNeg n.toNatClampNeg)))) H1 → va_D A (ws.set q1 (a, .inl (c1, n1, .inl (va_cpy f g sp.toNatClampNeg dp.toNatClampNeg n.toNatClampNeg)))) → va_S A H0 H1 locs1 → W p l e R s m args below meth c H1 locs1 cells slots Q (F0 m (pc + 3) ls rest)) : W p l e R s m args below meth c H locs cells slots Q (F0 m pc ls (.int n :: .int dp :: .ref a :: .int sp :: .ref a0 :: rest)) := by
  have nn : ∀ z : Int32, ¬ z < 0 → z.toInt = (z.toNatClampNeg : Int) := by
    intro z hz
    have hz0 : (0 : Int) ≤ z.toInt := by
      have := Int32.not_lt.mp hz
      simpa using Int32.le_iff_toInt_le.mp this
    show z.toInt = ((z.toInt.toNat : Nat) : Int)
    omega
  intro T hT X
  have hc0 : H[a0]? = some (vp_cell c0 (n0, .inl f)) := hP q0 _ ha0
  have hc1 : H[a]? = some (vp_cell c1 (n1, .inl g)) := hP q1 _ ha1
  obtain ⟨-, k0, hk0, cm0, hkk0⟩ := (hK.2 t0 _ ht0).1 n0 (fun j => .int (f j))
  obtain ⟨-, k1, hk1, cm1, hkk1⟩ := (hK.2 t1 _ ht1).1 n1 (fun j => .int (g j))
  obtain ⟨vm', X', step⟩ := X.arraycopy hexec hown hlink hnat hstat hini (src := a0) (dst := a) (cs := vp_cell c0 (n0, .inl f)) (cd := vp_cell c1 (n1, .inl g)) (srcPos := sp) (destPos := dp) (n := n) (by rw [hT]; exact hc0) (by rw [hT]; exact hc1)
    (fun _ h => by cases h) (fun _ h => by cases h) (fun h => by cases h) (fun h => by cases h) hk0 hk1 hkk0 hkk1 (by simp [hprim]) h1 h2 h3
    (by rw [nn sp h1, nn n h3]; show ¬ _ > ((arrV c0 n0 (fun j => .int (f j))).slots.size : Int); rw [arrV_size]; omega)
    (by rw [nn dp h2, nn n h3]; show ¬ _ > ((arrV c1 n1 (fun j => .int (g j))).slots.size : Int); rw [arrV_size]; omega)
    (fun vm₁ _ i hi => by
      have e : (vp_cell c0 (n0, .inl f)).slots.getD (sp.toNatClampNeg + i) .null = .int (f (sp.toNatClampNeg + i)) := by
        show (arrV c0 n0 (fun j => .int (f j))).slots.getD _ _ = _
        rw [Array.getD_eq_getD_getElem?, arrV_read _ _ (by omega)]
        rfl
      refine ⟨?_, ?_⟩
      · rw [e]
        exact hfit i hi
      · rw [e]
        exact trivial)
    (g := F0 m pc ls (.int n :: .int dp :: .ref a :: .int sp :: .ref a0 :: rest)) rfl (by rw [hml]) (rest := rest) rfl (by rw [hb]; exact hdg) hframes (by show 2 * 0 + _ + _ ≤ _; omega)
  have e1 : copied (vp_cell c0 (n0, .inl f)) (vp_cell c1 (n1, .inl g)) sp dp n = vp_cell c1 (n1, .inl (va_cpy f g sp.toNatClampNeg dp.toNatClampNeg n.toNatClampNeg)) := va_copied (fun z => .int z) c0 c1 f g h4
  rw [e1] at X' step
  have hl : a < H.size := (Array.getElem?_eq_some_iff.mp hc1).1
  have hheap : ((T.setVm vm').setCell a (vp_cell c1 (n1, .inl (va_cpy f g sp.toNatClampNeg dp.toNatClampNeg n.toNatClampNeg)))).heap = H.setIfInBounds a (vp_cell c1 (n1, .inl (va_cpy f g sp.toNatClampNeg dp.toNatClampNeg n.toNatClampNeg))) := by rw [← hT]; rfl
  have oq : ∀ q : Nat, q ≠ a → (H.setIfInBounds a (vp_cell c1 (n1, .inl (va_cpy f g sp.toNatClampNeg dp.toNatClampNeg n.toNatClampNeg))))[q]? = H[q]? := fun q hq => by simp [Array.getElem?_setIfInBounds, Ne.symm hq]
  obtain ⟨t, a1, b1⟩ := kk _ _ (by simp) (hP.set hD ha1 (show (H.setIfInBounds a _)[a]? = some _ by simp [Array.getElem?_setIfInBounds, hl]) oq) (hD.set ha1) ⟨by simp; exact hS.1, fun q g1 g2 => by
      rw [oq q (fun e => g2 (by rw [e]; exact hD.2 q1 _ ha1))]
      exact hS.2.1 q g1 g2, fun q hq => by
      rcases List.mem_append.mp hq with h | h
      · exact hS.2.2 q h
      · obtain ⟨z, -, hz⟩ := List.mem_map.mp h
        rw [← hz]
        exact hD.2 q1 _ ha1⟩ _ hheap X'
  exact ⟨t, step t a1, b1⟩
end XC
theorem w_copy {K : KT} {M : Mt} {d cl sl pc pc' : Nat} {ls : List (Nat × Value)} {st : List Value} {I : SI} {J : SJ} {R : SR} {n g : Nat} {idx r0 r1 n0 n1 sp dp len : Nat} {xs xd xl : Int32} (ok : OK K M d) (dc : Dc M pc (.invokestatic idx) 3 pc') (hlink : Cond.methodLink M.1.cls idx arraycopyName ∈ ALLW) (hnat : Cond.native arraycopyName ∈ ALLW) (hstat : Cond.static arraycopyName ∈ ALLW) (hini2 : Cond.initialized "java/lang/System" ∈ ALLW) (hs0 : SH r0 = (14, n0)) (hs1 : SH r1 = (14, n1)) (hk0 : r0 < n) (hk1 : r1 < n) (es : xs = nI sp) (ed : xd = nI dp) (el : xl = nI len) (h4 : sp + len ≤ n0) (h5 : dp + len ≤ n1) (h6 : n0 < 2 ^ 31) (h7 : n1 < 2 ^ 31) (hw : (st.map Value.category).sum ≤ 8) (kk : WK K cl sl pc' ls st (fun a => if a = r1 then va_cpy (I r0) (I r1) sp dp len else I a) J R n g) : WK K cl sl pc ls (.int xl :: .int xd :: .ref r1 :: .int xs :: .ref r0 :: st) I J R n g := by
  obtain ⟨p, l, e, Rm, s, m, args, below, meth, c, Q, cy, D, base, nL⟩ := K
  obtain ⟨hx, hb, hnL, hml, hts, hown, hK, hNW, hfr, hlo, hbs, hini, hXS⟩ := ok
  obtain ⟨hdg, rfl⟩ := dc
  intro hc1 hc2 H locs rls hP hz hS hl
  subst es; subst ed; subst el
  have he0 := wl_get (cy := cy) (base := base) (I := I) (J := J) (R := R) hk0
  rw [en_arr hs0 (by decide)] at he0
  have he1 := wl_get (cy := cy) (base := base) (I := I) (J := J) (R := R) hk1
  rw [en_arr hs1 (by decide)] at he1
  have c1 := nI_clamp (n := sp) (by omega)
  have c2 := nI_clamp (n := dp) (by omega)
  have c3 := nI_clamp (n := len) (by omega)
  have hcat : ((st.map (rv base)).map fun v => v.category).sum ≤ 8 := by
    rw [List.map_map]
    have e : ((fun v => v.category) ∘ rv base) = Value.category := by funext v; exact rv_cat base v
    rw [e]; exact hw
  have hset : (wl cy base I J R n).set r1 (base + r1, .inl (cy 14, n1, .inl (va_cpy (I r0) (I r1) (nI sp).toNatClampNeg (nI dp).toNatClampNeg (nI len).toNatClampNeg))) = wl cy base (fun a => if a = r1 then va_cpy (I r0) (I r1) sp dp len else I a) J R n := by
    rw [c1, c2, c3]
    refine wl_set hk1 (by rw [en_arr hs1 (by decide)]; simp) (fun a ha => ?_)
    unfold en
    have e : fv base (fun a => if a = r1 then va_cpy (I r0) (I r1) sp dp len else I a) J R a = fv base I J R a := by
      funext j; unfold fv; simp [ha]
    rw [e]; simp [ha]
  have hn1 : nativeFrameWords "java/lang/System" "arraycopy" 5 ≤ 30 := by decide +kernel
  refine xa_copyi hx hb (hml.trans hl.1.symm) hown (hts _ hlink) (hts _ hnat) (hts _ hstat) (hts _ hini2) hK hP wl_D hS r0 r1 1 1 he0 he1 rfl rfl rfl (nI_pos (by omega)) (nI_pos (by omega)) (nI_pos (by omega)) (by rw [c1, c3]; exact h4) (by rw [c2, c3]; exact h5) (fun _ _ => rfl) (by omega) (by omega) hdg (fun H1 locs1 hz1 hP1 _ hS1 => ?_)
  exact kk hc1 hc2 H1 locs1 rls (hset ▸ hP1) (hz1.trans hz) hS1 hl
/-- one outcome -/
def Pd (v : Option Value) (I : SI) (J : SJ) (R : SR) (n g : Nat) : PT := fun v' I' J' R' n' g' => v' = v ∧ I' = I ∧ J' = J ∧ R' = R ∧ n' = n ∧ g' = g
theorem Pd.i {v : Option Value} {I : SI} {J : SJ} {R : SR} {n g : Nat} : Pd v I J R n g v I J R n g := ⟨rfl, rfl, rfl, rfl, rfl, rfl⟩
theorem w_cV {K : KT} {M : Mt} {d cl sl pc pc' : Nat} {ls : List (Nat × Value)} {st : List Value} {I : SI} {J : SJ} {R : SR} {n g : Nat} {idx np d2 k : Nat} {As : List Value} {Y : Mt} {v : Option Value} {I1 : SI} {J1 : SJ} {R1 : SR} {n1 g1 : Nat} (ok : OK K M d) (dc : Dc M pc (.invokevirtual idx) 3 pc') (mi : MI Y np) (lk : LK M idx Y) (hs : ∃ T N, (SH k).1 < 13 ∧ vwCl[(SH k).1]? = some (Y.1.cls, T, N)) (hk : k < n) (hM : MM d2 0 0 Y (.ref k :: As) I J R n g (Pd v I1 J1 R1 n1 g1)) (hd : d2 < d) (hn : As.length = np) (hw : (st.map Value.category).sum ≤ 8) (kk : WK K cl sl pc' ls (v.toList ++ st) I1 J1 R1 n1 g1) : WK K cl sl pc ls (As.reverse ++ .ref k :: st) I J R n g := by
  obtain ⟨p, l, e, Rm, s, m, args, below, meth, c, Q, cy, D, base, nL⟩ := K
  intro hc1 hc2
  exact w_callV (mc := 0) (ms := 0) ok dc mi lk hs hk hM hd hn hw ⟨hc1, hc2⟩ (fun v' I' J' R' n' g' h => by obtain ⟨rfl, rfl, rfl, rfl, rfl, rfl⟩ := h; exact kk) hc1 hc2
theorem w_cS {K : KT} {M : Mt} {d cl sl pc pc' : Nat} {ls : List (Nat × Value)} {st : List Value} {I : SI} {J : SJ} {R : SR} {n g : Nat} {idx np d2 : Nat} {As : List Value} {Y : Mt} {v : Option Value} {I1 : SI} {J1 : SJ} {R1 : SR} {n1 g1 : Nat} (ok : OK K M d) (dc : Dc M pc (.invokestatic idx) 3 pc') (mi : MSt Y np) (lk : LK M idx Y) (hM : MM d2 0 0 Y As I J R n g (Pd v I1 J1 R1 n1 g1)) (hd : d2 < d) (hn : As.length = np) (hw : (st.map Value.category).sum ≤ 8) (kk : WK K cl sl pc' ls (v.toList ++ st) I1 J1 R1 n1 g1) : WK K cl sl pc ls (As.reverse ++ st) I J R n g := by
  obtain ⟨p, l, e, Rm, s, m, args, below, meth, c, Q, cy, D, base, nL⟩ := K
  intro hc1 hc2
  exact w_callS (mc := 0) (ms := 0) ok dc mi lk hM hd hn hw ⟨hc1, hc2⟩ (fun v' I' J' R' n' g' h => by obtain ⟨rfl, rfl, rfl, rfl, rfl, rfl⟩ := h; exact kk) hc1 hc2
theorem x_iald {K : KT} {M : Mt} {d cl sl pc pc' : Nat} {ls : List (Nat × Value)} {st : List Value} {I : SI} {J : SJ} {R : SR} {n g : Nat} {k len q : Nat} {i : Int32} (ok : OK K M d) (dc : Dc M pc .iaload 1 pc') (hs : SH k = (14, len)) (hq : i = nI q ∧ q < len) (hlen : len < 2 ^ 31) (hk : k < n) (kk : WK K cl sl pc' ls (.int (I k q) :: st) I J R n g) : WK K cl sl pc ls (.int i :: .ref k :: st) I J R n g := by
  obtain ⟨rfl, hq2⟩ := hq
  refine w_iald ok dc hs (vp_in_nI hq2 hlen) hk ?_
  rw [nI_clamp (Nat.lt_trans hq2 hlen)]
  exact kk
theorem x_bald {K : KT} {M : Mt} {d cl sl pc pc' : Nat} {ls : List (Nat × Value)} {st : List Value} {I : SI} {J : SJ} {R : SR} {n g : Nat} {k len q : Nat} {i : Int32} (ok : OK K M d) (dc : Dc M pc .baload 1 pc') (hs : SH k = (13, len)) (hq : i = nI q ∧ q < len) (hlen : len < 2 ^ 31) (hk : k < n) (kk : WK K cl sl pc' ls (.int (I k q) :: st) I J R n g) : WK K cl sl pc ls (.int i :: .ref k :: st) I J R n g := by
  obtain ⟨rfl, hq2⟩ := hq
  refine w_bald ok dc hs (vp_in_nI hq2 hlen) hk ?_
  rw [nI_clamp (Nat.lt_trans hq2 hlen)]
  exact kk
theorem x_zald {K : KT} {M : Mt} {d cl sl pc pc' : Nat} {ls : List (Nat × Value)} {st : List Value} {I : SI} {J : SJ} {R : SR} {n g : Nat} {k len q : Nat} {i : Int32} (ok : OK K M d) (dc : Dc M pc .baload 1 pc') (hs : SH k = (16, len)) (hq : i = nI q ∧ q < len) (hlen : len < 2 ^ 31) (hk : k < n) (kk : WK K cl sl pc' ls (.int (I k q) :: st) I J R n g) : WK K cl sl pc ls (.int i :: .ref k :: st) I J R n g := by
  obtain ⟨rfl, hq2⟩ := hq
  refine w_zald ok dc hs (vp_in_nI hq2 hlen) hk ?_
  rw [nI_clamp (Nat.lt_trans hq2 hlen)]
  exact kk
theorem x_lald {K : KT} {M : Mt} {d cl sl pc pc' : Nat} {ls : List (Nat × Value)} {st : List Value} {I : SI} {J : SJ} {R : SR} {n g : Nat} {k len q : Nat} {i : Int32} (ok : OK K M d) (dc : Dc M pc .laload 1 pc') (hs : SH k = (15, len)) (hq : i = nI q ∧ q < len) (hlen : len < 2 ^ 31) (hk : k < n) (kk : WK K cl sl pc' ls (.long (J k q) :: st) I J R n g) : WK K cl sl pc ls (.int i :: .ref k :: st) I J R n g := by
  obtain ⟨rfl, hq2⟩ := hq
  refine w_lald ok dc hs (vp_in_nI hq2 hlen) hk ?_
  rw [nI_clamp (Nat.lt_trans hq2 hlen)]
  exact kk
theorem x_iast {K : KT} {M : Mt} {d cl sl pc pc' : Nat} {ls : List (Nat × Value)} {st : List Value} {I : SI} {J : SJ} {R : SR} {n g : Nat} {k len q : Nat} {i : Int32} {x : Int32} (ok : OK K M d) (dc : Dc M pc .iastore 1 pc') (hs : SH k = (14, len)) (hq : i = nI q ∧ q < len) (hlen : len < 2 ^ 31) (hk : k < n) (kk : WK K cl sl pc' ls st (u2 I k q x) J R n g) : WK K cl sl pc ls (.int x :: .int i :: .ref k :: st) I J R n g := by
  obtain ⟨rfl, hq2⟩ := hq
  refine w_iast ok dc hs (vp_in_nI hq2 hlen) hk ?_
  rw [nI_clamp (Nat.lt_trans hq2 hlen)]
  exact kk
theorem x_bast {K : KT} {M : Mt} {d cl sl pc pc' : Nat} {ls : List (Nat × Value)} {st : List Value} {I : SI} {J : SJ} {R : SR} {n g : Nat} {k len q : Nat} {i : Int32} {x : Int32} (ok : OK K M d) (dc : Dc M pc .bastore 1 pc') (hs : SH k = (13, len)) (hq : i = nI q ∧ q < len) (hlen : len < 2 ^ 31) (hk : k < n) (kk : WK K cl sl pc' ls st (u2 I k q (vp_nar .byte x)) J R n g) : WK K cl sl pc ls (.int x :: .int i :: .ref k :: st) I J R n g := by
  obtain ⟨rfl, hq2⟩ := hq
  refine w_bast ok dc hs (vp_in_nI hq2 hlen) hk ?_
  rw [nI_clamp (Nat.lt_trans hq2 hlen)]
  exact kk
theorem x_zast {K : KT} {M : Mt} {d cl sl pc pc' : Nat} {ls : List (Nat × Value)} {st : List Value} {I : SI} {J : SJ} {R : SR} {n g : Nat} {k len q : Nat} {i : Int32} {x : Int32} (ok : OK K M d) (dc : Dc M pc .bastore 1 pc') (hs : SH k = (16, len)) (hq : i = nI q ∧ q < len) (hlen : len < 2 ^ 31) (hk : k < n) (kk : WK K cl sl pc' ls st (u2 I k q (vp_nar .boolean x)) J R n g) : WK K cl sl pc ls (.int x :: .int i :: .ref k :: st) I J R n g := by
  obtain ⟨rfl, hq2⟩ := hq
  refine w_zast ok dc hs (vp_in_nI hq2 hlen) hk ?_
  rw [nI_clamp (Nat.lt_trans hq2 hlen)]
  exact kk
theorem x_last {K : KT} {M : Mt} {d cl sl pc pc' : Nat} {ls : List (Nat × Value)} {st : List Value} {I : SI} {J : SJ} {R : SR} {n g : Nat} {k len q : Nat} {i : Int32} {x : Int64} (ok : OK K M d) (dc : Dc M pc .lastore 1 pc') (hs : SH k = (15, len)) (hq : i = nI q ∧ q < len) (hlen : len < 2 ^ 31) (hk : k < n) (kk : WK K cl sl pc' ls st I (u2 J k q x) R n g) : WK K cl sl pc ls (.long x :: .int i :: .ref k :: st) I J R n g := by
  obtain ⟨rfl, hq2⟩ := hq
  refine w_last ok dc hs (vp_in_nI hq2 hlen) hk ?_
  rw [nI_clamp (Nat.lt_trans hq2 hlen)]
  exact kk
theorem pick_map (base : Nat) (ls : List (Nat × Value)) (ks : List Nat) : lv_pick (ls.map (rp base)) ks = (lv_pick ls ks).map (rp base) := by
  induction ks with
  | nil => rfl
  | cons k ks ih =>
    unfold lv_pick at ih ⊢
    rw [List.filterMap_cons, List.filterMap_cons, ih, List.getElem?_map]
    cases ls[k]? <;> rfl
/-- fewer locals, in another order -/
theorem w_loc {K : KT} {cl sl pc : Nat} {ls lv : List (Nat × Value)} {st : List Value} {I : SI} {J : SJ} {R : SR} {n g : Nat} (ks : List Nat) (h : lv_pick ls ks = lv) (kk : WK K cl sl pc lv st I J R n g) : WK K cl sl pc ls st I J R n g := by
  obtain ⟨p, l, e, Rm, s, m, args, below, meth, c, Q, cy, D, base, nL⟩ := K
  intro hc1 hc2 H locs rls hP hz hS hl
  exact kk hc1 hc2 H locs rls hP hz hS (lv_sub hl ks (by rw [pick_map, h]))
def itN {σ : Type} (f : Nat → σ → σ) (n : Nat) (s : σ) : σ := match n with
  | 0 => s
  | k + 1 => f k (itN f k s)
termination_by n
theorem itN_0 {σ : Type} (f : Nat → σ → σ) (s : σ) : itN f 0 s = s := by rw [itN]
theorem itN_s {σ : Type} (f : Nat → σ → σ) (k : Nat) (s : σ) : itN f (k + 1) s = f k (itN f k s) := by rw [itN]
/-- a loop that counts up: from behind -/
theorem loop_for {σ : Type} (Wd : Nat → σ → Prop) (f : Nat → σ → σ) (N : Nat) (s : σ) (hend : Wd N (itN f N s)) (hstep : ∀ i s', i < N → s' = itN f i s → Wd (i + 1) (f i s') → Wd i s') : Wd 0 s := by
  have h : ∀ k, k ≤ N → Wd (N - k) (itN f (N - k) s) := by
    intro k
    induction k with
    | zero => intro _; exact hend
    | succ k ih =>
      intro hk
      have h1 := ih (by omega)
      have e : N - k = N - (k + 1) + 1 := by omega
      rw [e, itN_s] at h1
      exact hstep _ _ (by omega) rfl h1
  have := h N (Nat.le_refl _)
  rw [Nat.sub_self, itN_0] at this
  exact this
theorem nI_self {i : Int32} (h : ¬ i < 0) : i = nI i.toNatClampNeg := by
  obtain ⟨j, hj, rfl⟩ := nI_of h
  rw [nI_clamp hj]
theorem in_of {i : Int32} {len : Nat} (h : ¬ i < 0) (h2 : ¬ nI len ≤ i) (hl : len < 2 ^ 31) : i = nI i.toNatClampNeg ∧ i.toNatClampNeg < len := by
  obtain ⟨j, hj, rfl⟩ := nI_of h
  rw [nI_clamp hj]
  refine ⟨rfl, ?_⟩
  rcases Nat.lt_or_ge j len with q | q
  · exact q
  · exact absurd (nI_le q hj) h2
theorem sh_len {r t len : Nat} (h : SH r = (t, len)) : len < 2 ^ 31 := by
  have h1 : ∀ q ∈ SHL, q.2 < 2 ^ 31 := by decide +kernel
  have h2 : (SH r).2 < 2 ^ 31 := by
    unfold SH
    rw [List.getD_eq_getElem?_getD]
    cases h3 : SHL[r]? with
    | none => simp
    | some q => simpa using h1 q (List.mem_of_getElem? h3)
  rw [h] at h2
  exact h2
def inR (e : Int32) (len : Nat) : Prop := e = nI e.toNatClampNeg ∧ e.toNatClampNeg < len
theorem cnt_ge (e : Int32) : e ≤ nI e.toNatClampNeg := by
  by_cases h : e < 0
  · have h1 : e.toNatClampNeg = 0 := by
      have := Int32.lt_iff_toInt_lt.mp h
      show e.toInt.toNat = 0
      have h0 : (0 : Int32).toInt = 0 := rfl
      omega
    rw [h1]
    exact Int32.le_of_lt h
  · rw [← nI_self h]; exact Int32.le_refl _
theorem cnt_lt {e : Int32} {i : Nat} (h : i < e.toNatClampNeg) : ¬ e ≤ nI i := by
  by_cases h0 : e < 0
  · have h1 : e.toNatClampNeg = 0 := by
      have := Int32.lt_iff_toInt_lt.mp h0
      show e.toInt.toNat = 0
      have h0 : (0 : Int32).toInt = 0 := rfl
      omega
    omega
  · obtain ⟨j, hj, rfl⟩ := nI_of h0
    rw [nI_clamp hj] at h
    exact nI_ge h hj
/-- GirlShots.at -/
def atF (f : Nat → Int32) (len : Nat) (i : Int32) : Int32 := if i < 0 then 0 else if nI len ≤ i then 0 else f i.toNatClampNeg
