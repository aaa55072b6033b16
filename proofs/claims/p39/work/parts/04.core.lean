/-! A small machine over W: cells by place, a state as functions of place and slot. -/
abbrev Mt : Type := MethodName × ByteArray × Nat × Option FieldType
def tyC : Nat → Nat → FieldType := fun ci => match ci with
  | 0 => tyX0
  | 1 => tyX1
  | 2 => tyX2
  | 3 => tyX3
  | 4 => tyX4
  | 5 => tyX5
  | 6 => tyX6
  | 7 => tyX7
  | 8 => tyX8
  | 9 => tyX9
  | 10 => tyX10
  | 11 => tyX11
  | _ => tyX12
def nF : Nat → Nat := fun ci => (vwCl.getD ci (RX0, TX0, 0)).2.2
def ALLW : List Cond := lw_tbl.filter goodWord
def isNest : Cond → Bool := fun w => match w with
  | .fieldLinkNest _ _ _ _ _ _ => true
  | .methodLinkNest _ _ _ _ => true
  | _ => false
def NW : List Cond := lw_tbl.filter isNest
theorem inT {w : Cond} (h : w ∈ lw_tbl) (g : goodWord w = true) : w ∈ ALLW := List.mem_filter.mpr ⟨h, g⟩
theorem inTN {w : Cond} (h : w ∈ lw_tbl) (g : isNest w = true) : w ∈ NW := List.mem_filter.mpr ⟨h, g⟩
theorem allw_tbl {w : Cond} (h : w ∈ ALLW) : w ∈ lw_tbl := (List.mem_filter.mp h).1
theorem allw_good {M : Mt} (h : Cond.code M.1 M.2.1 M.2.2.1 M.2.2.2 ∈ ALLW) : GoodIn ALLW (Cond.code M.1 M.2.1 M.2.2.1 M.2.2.2 :: ALLW) := by
  intro w hw
  rcases List.mem_cons.mp hw with rfl | hw
  · exact ⟨h, good_of_word (List.mem_filter.mp h).2⟩
  · exact ⟨hw, good_of_word (List.mem_filter.mp hw).2⟩
theorem nw_warm {s U : State} (hW : s.WarmedH U.vm) (h : ∀ w ∈ NW, va_Nw w s) : ∀ w ∈ NW, va_Nw w U := by
  intro w hw
  have h1 := h w hw
  have h2 := (List.mem_filter.mp hw).2
  cases w <;> first | exact va_Nw.warmF hW h1 | exact va_Nw.warmM hW h1 | (exact absurd h2 (by simp [isNest]))
def rv (base : Nat) : Value → Value
  | .ref k => .ref (base + k)
  | v => v
def rp (base : Nat) (q : Nat × Value) : Nat × Value := (q.1, rv base q.2)
theorem rv_cat (base : Nat) (v : Value) : (rv base v).category = v.category := by cases v <;> rfl
def u2 {α : Type} (f : Nat → Nat → α) (k j : Nat) (v : α) : Nat → Nat → α := fun a b => if a = k ∧ b = j then v else f a b
theorem u2_s {α : Type} (f : Nat → Nat → α) (k j : Nat) (v : α) : u2 f k j v k j = v := by simp [u2]
theorem u2_n {α : Type} (f : Nat → Nat → α) {k j a b : Nat} (v : α) (h : ¬ (a = k ∧ b = j)) : u2 f k j v a b = f a b := by simp [u2, h]
theorem u2_k {α : Type} (f : Nat → Nat → α) {k j a : Nat} (v : α) (h : a ≠ k) : u2 f k j v a = f a := by funext b; simp [u2, h]
theorem u2_r {α : Type} (f : Nat → Nat → α) (k j : Nat) (v : α) : u2 f k j v k = va_up (f k) j v := by funext b; simp [u2, va_up]
abbrev SI : Type := Nat → Nat → Int32
abbrev SJ : Type := Nat → Nat → Int64
abbrev SR : Type := Nat → Nat → Option Nat
def fv (base : Nat) (I : SI) (J : SJ) (R : SR) (k j : Nat) : Value := match tyC (SH k).1 j with
  | .long => .long (J k j)
  | .object _ => va_rf ((R k j).map (fun x => base + x))
  | .array _ => va_rf ((R k j).map (fun x => base + x))
  | _ => .int (I k j)
def en (cy : Nat → ClassId) (base : Nat) (I : SI) (J : SJ) (R : SR) (k : Nat) : va_E :=
  if (SH k).1 < 13 then .inr ((SH k).1, (List.range (nF (SH k).1)).map (fv base I J R k))
  else if (SH k).1 = 15 then .inl (cy 15, (SH k).2, .inr (.inl (J k)))
  else .inl (cy (SH k).1, (SH k).2, .inl (I k))
def wl (cy : Nat → ClassId) (base : Nat) (I : SI) (J : SJ) (R : SR) (n : Nat) : va_W := (List.range n).map fun k => (base + k, en cy base I J R k)
def tysC (cy : Nat → ClassId) : List (ClassId × FieldType) := [(cy 13, .byte), (cy 14, .int), (cy 15, .long), (cy 16, .boolean)]
theorem wl_get {cy : Nat → ClassId} {base n k : Nat} {I : SI} {J : SJ} {R : SR} (h : k < n) : (wl cy base I J R n)[k]? = some (base + k, en cy base I J R k) := by simp [wl, h]
theorem wl_inv {cy : Nat → ClassId} {base n i : Nat} {I : SI} {J : SJ} {R : SR} {q : Nat × va_E} (h : (wl cy base I J R n)[i]? = some q) : i < n ∧ q = (base + i, en cy base I J R i) := by
  have hn : i < n := by
    have := (List.getElem?_eq_some_iff.mp h).1
    simpa [wl] using this
  rw [wl_get hn] at h
  exact ⟨hn, (Option.some.inj h).symm⟩
theorem wl_D {cy : Nat → ClassId} {base n : Nat} {I : SI} {J : SJ} {R : SR} : va_D (fun q => base ≤ q) (wl cy base I J R n) := by
  refine ⟨fun i j p q hi hj he => ?_, fun k q hk => ?_⟩
  · obtain ⟨-, rfl⟩ := wl_inv hi
    obtain ⟨-, rfl⟩ := wl_inv hj
    dsimp only at he
    omega
  · obtain ⟨-, rfl⟩ := wl_inv hk
    exact Nat.le_add_right _ _
theorem wl_set {cy : Nat → ClassId} {base n k : Nat} {I I' : SI} {J J' : SJ} {R R' : SR} {E : va_E} (hk : k < n) (h1 : en cy base I' J' R' k = E) (h2 : ∀ a, a ≠ k → en cy base I' J' R' a = en cy base I J R a) :
    (wl cy base I J R n).set k (base + k, E) = wl cy base I' J' R' n := by
  refine List.ext_getElem? fun i => ?_
  by_cases hi : i < n
  · rw [wl_get hi]
    by_cases he : i = k
    · subst he
      rw [List.getElem?_set_self (by simpa [wl] using hk), h1]
    · rw [List.getElem?_set_ne (fun h => he h.symm), wl_get hi, h2 i he]
  · have l1 : (wl cy base I' J' R' n)[i]? = none := by simp [wl]; omega
    have l2 : ((wl cy base I J R n).set k (base + k, E))[i]? = none := by simp [wl]; omega
    rw [l1, l2]
theorem fv_otherI {base : Nat} {I : SI} {J : SJ} {R : SR} {k j a : Nat} {x : Int32} (h : a ≠ k) : fv base (u2 I k j x) J R a = fv base I J R a := by
  funext i; unfold fv; rw [u2_k _ _ h]
theorem fv_otherJ {base : Nat} {I : SI} {J : SJ} {R : SR} {k j a : Nat} {x : Int64} (h : a ≠ k) : fv base I (u2 J k j x) R a = fv base I J R a := by
  funext i; unfold fv; rw [u2_k _ _ h]
theorem fv_otherR {base : Nat} {I : SI} {J : SJ} {R : SR} {k j a : Nat} {x : Option Nat} (h : a ≠ k) : fv base I J (u2 R k j x) a = fv base I J R a := by
  funext i; unfold fv; rw [u2_k _ _ h]
theorem en_otherI {cy : Nat → ClassId} {base : Nat} {I : SI} {J : SJ} {R : SR} {k j : Nat} {x : Int32} : ∀ a, a ≠ k → en cy base (u2 I k j x) J R a = en cy base I J R a := by
  intro a h; unfold en; rw [fv_otherI h, u2_k _ _ h]
theorem en_otherJ {cy : Nat → ClassId} {base : Nat} {I : SI} {J : SJ} {R : SR} {k j : Nat} {x : Int64} : ∀ a, a ≠ k → en cy base I (u2 J k j x) R a = en cy base I J R a := by
  intro a h; unfold en; rw [fv_otherJ h, u2_k _ _ h]
theorem en_otherR {cy : Nat → ClassId} {base : Nat} {I : SI} {J : SJ} {R : SR} {k j : Nat} {x : Option Nat} : ∀ a, a ≠ k → en cy base I J (u2 R k j x) a = en cy base I J R a := by
  intro a h; unfold en; rw [fv_otherR h]
theorem en_obj {cy : Nat → ClassId} {base k ci : Nat} {I : SI} {J : SJ} {R : SR} (h : (SH k).1 = ci) (hc : ci < 13) : en cy base I J R k = .inr (ci, (List.range (nF ci)).map (fv base I J R k)) := by
  unfold en; rw [h, if_pos hc]
theorem en_arr {cy : Nat → ClassId} {base k t len : Nat} {I : SI} {J : SJ} {R : SR} (h : SH k = (t, len)) (ht : t = 13 ∨ t = 14 ∨ t = 16) : en cy base I J R k = .inl (cy t, len, .inl (I k)) := by
  unfold en; rw [h]; rcases ht with rfl | rfl | rfl <;> rfl
theorem en_arrL {cy : Nat → ClassId} {base k len : Nat} {I : SI} {J : SJ} {R : SR} (h : SH k = (15, len)) : en cy base I J R k = .inl (cy 15, len, .inr (.inl (J k))) := by
  unfold en; rw [h]; rfl
theorem map_set_range {f g : Nat → Value} {N j : Nat} {v : Value} (h1 : g j = v) (h2 : ∀ i, i ≠ j → g i = f i) : (List.range N).map g = ((List.range N).map f).set j v := by
  refine List.ext_getElem? fun i => ?_
  by_cases hi : i < N
  · by_cases he : i = j
    · subst he
      rw [List.getElem?_set_self (by simpa using hi)]
      simp [hi, h1]
    · rw [List.getElem?_set_ne (fun h => he h.symm)]
      simp [hi, h2 i he]
  · have l1 : ((List.range N).map g)[i]? = none := by simp; omega
    have l2 : (((List.range N).map f).set j v)[i]? = none := by simp; omega
    rw [l1, l2]
/-- a type that an int stands for -/
def isI : FieldType → Bool
  | .long => false
  | .object _ => false
  | .array _ => false
  | _ => true
def isR : FieldType → Bool
  | .object _ => true
  | .array _ => true
  | _ => false
theorem fv_I {base k j ci : Nat} {I : SI} {J : SJ} {R : SR} (h : (SH k).1 = ci) (ht : isI (tyC ci j) = true) : fv base I J R k j = .int (I k j) := by
  unfold fv; rw [h]; cases h2 : tyC ci j <;> first | rfl | (rw [h2] at ht; cases ht)
theorem fv_J {base k j ci : Nat} {I : SI} {J : SJ} {R : SR} (h : (SH k).1 = ci) (ht : tyC ci j = .long) : fv base I J R k j = .long (J k j) := by
  unfold fv; rw [h, ht]
theorem fv_R {base k j ci : Nat} {I : SI} {J : SJ} {R : SR} (h : (SH k).1 = ci) (ht : isR (tyC ci j) = true) : fv base I J R k j = va_rf ((R k j).map (fun x => base + x)) := by
  unfold fv; rw [h]; cases h2 : tyC ci j <;> first | rfl | (rw [h2] at ht; cases ht)
theorem fv_putI {base k j ci : Nat} {I : SI} {J : SJ} {R : SR} {x : Int32} (h : (SH k).1 = ci) (ht : isI (tyC ci j) = true) : (List.range (nF ci)).map (fv base (u2 I k j x) J R k) = ((List.range (nF ci)).map (fv base I J R k)).set j (.int x) := by
  refine map_set_range ((fv_I h ht).trans (by rw [u2_s])) fun i hi => ?_
  unfold fv; rw [u2_n _ _ (fun q => hi q.2)]
theorem fv_putJ {base k j ci : Nat} {I : SI} {J : SJ} {R : SR} {x : Int64} (h : (SH k).1 = ci) (ht : tyC ci j = .long) : (List.range (nF ci)).map (fv base I (u2 J k j x) R k) = ((List.range (nF ci)).map (fv base I J R k)).set j (.long x) := by
  refine map_set_range ((fv_J h ht).trans (by rw [u2_s])) fun i hi => ?_
  unfold fv; rw [u2_n _ _ (fun q => hi q.2)]
theorem fv_putR {base k j ci r : Nat} {I : SI} {J : SJ} {R : SR} (h : (SH k).1 = ci) (ht : isR (tyC ci j) = true) : (List.range (nF ci)).map (fv base I J (u2 R k j (some r)) k) = ((List.range (nF ci)).map (fv base I J R k)).set j (.ref (base + r)) := by
  refine map_set_range ((fv_R h ht).trans (by rw [u2_s]; rfl)) fun i hi => ?_
  unfold fv; rw [u2_n _ _ (fun q => hi q.2)]
/-! the judgement -/
abbrev KT : Type := Program × Launch × Env × Room × State × MethodId × Array Value × List Frame × Method × Code × (State → Prop) × (Nat → ClassId) × va_G × Nat × Nat
abbrev PT : Type := Option Value → SI → SJ → SR → Nat → Nat → Prop
def WK (K : KT) (cl sl pc : Nat) (ls : List (Nat × Value)) (st : List Value) (I : SI) (J : SJ) (R : SR) (n g : Nat) : Prop := match K with
  | (p, l, e, Rm, s, m, args, below, meth, c, Q, cy, D, base, nL) => cl ≤ Rm.cells → sl ≤ Rm.slots → ∀ (H : Heap) (locs : List Loc) (rls : Array Slot), va_P D vwCl (wl cy base I J R n) H → H.size = base + n + g → va_S (fun q => base ≤ q) s.heap H locs → lv_has rls nL (ls.map (rp base)) → W p l e Rm s m args below meth c H locs cl sl Q (F0 m pc rls (st.map (rv base)))
def OK (K : KT) (M : Mt) (d : Nat) : Prop := match K with
  | (p, l, e, Rm, s, m, args, below, meth, c, Q, cy, D, base, nL) => p.tables.exec = Jvm.exec ∧ c.code = M.2.1 ∧ nL = M.2.2.1 ∧ c.maxLocals = nL ∧ (∀ w ∈ ALLW, w.before args s = true) ∧ s.vm.findClass M.1.cls = some m.cls ∧ va_K D vwCl (tysC cy) s ∧ (∀ w ∈ NW, va_Nw w s) ∧ d + 1 ≤ Rm.frames ∧ (d + 1) * 64 ≤ Rm.locals ∧ base ≤ s.heap.size ∧ (M.1.name = "<init>" → meth.name = "<init>") ∧ XS base s s.heap
def QM (cy : Nat → ClassId) (D : va_G) (base : Nat) (P : PT) : Array Value → State → Outcome → State → Prop := fun _ st oc t => (∃ (v : Option Value) (I : SI) (J : SJ) (R : SR) (n g : Nat), oc = .returned (v.map (rv base)) ∧ P v I J R n g ∧ va_P D vwCl (wl cy base I J R n) t.heap ∧ t.heap.size = base + n + g) ∧ va_F (fun q => base ≤ q) st t
def Fnl (K : KT) (M : Mt) (P : PT) (mc ms : Nat) : Prop := match K with
  | (p, l, e, Rm, s, m, args, below, meth, c, Q, cy, D, base, nL) => Rm.cells = mc ∧ Rm.slots = ms ∧ Q = MQ below (QM cy D base P) args s mc ms (fun q => base ≤ q) ∧ meth.sig.returnType = M.2.2.2 ∧ meth.locks = false
def wsM (M : Mt) : List Cond := Cond.code M.1 M.2.1 M.2.2.1 M.2.2.2 :: ALLW
def rmd (d mc ms : Nat) : Room := { frames := d + 1, cells := mc, slots := ms, locals := (d + 1) * 64 }
def PB (cy : Nat → ClassId) (D : va_G) (base : Nat) (I : SI) (J : SJ) (R : SR) (n g : Nat) : State → Prop := fun U => va_P D vwCl (wl cy base I J R n) U.heap ∧ U.heap.size = base + n + g ∧ va_K D vwCl (tysC cy) U ∧ (∀ w ∈ NW, va_Nw w U) ∧ XS base U U.heap
/-- a method's contract -/
def MM (d mc ms : Nat) (M : Mt) (as : List Value) (I : SI) (J : SJ) (R : SR) (n g : Nat) (P : PT) : Prop :=
  ∀ (l : Launch) (cy : Nat → ClassId) (D : va_G) (base : Nat), Met l M.1 (wsM M) (rmd d mc ms) (va_Pc (as.map (rv base)) (PB cy D base I J R n g)) (QM cy D base P) mc ms (fun q => base ≤ q)
def Dc (M : Mt) (pc : Nat) (i : Instr) (len pc' : Nat) : Prop := decode M.2.1 pc = .ok (i, len) ∧ pc' = pc + len
theorem Dc.mk' {M : Mt} {pc : Nat} {i : Instr} {len pc' : Nat} (h : decode M.2.1 pc = .ok (i, len)) (e : pc' = pc + len) : Dc M pc i len pc' := ⟨h, e⟩
theorem args_map (base : Nat) : ∀ (i : Nat) (as : List Value), lv_args i (as.map (rv base)) = (lv_args i as).map (rp base)
  | _, [] => rfl
  | i, v :: vs => by
    simp only [List.map_cons, lv_args, rv_cat, args_map base _ vs]
    rfl
theorem sl_map (base : Nat) (as : List Value) : (lg_sl (as.map (rv base))).length = (lg_sl as).length := by
  induction as with
  | nil => rfl
  | cons v vs ih =>
    simp only [lg_sl, List.map_cons, List.flatMap_cons, List.length_append] at ih ⊢
    rw [rv_cat, ih]
    split <;> rfl
theorem MM.of {d mc ms : Nat} {M : Mt} {as : List Value} {I : SI} {J : SJ} {R : SR} {n g : Nat} {P : PT} (hy : plainName M.1.cls = true) (hn : (lg_sl as).length ≤ M.2.2.1)
    (body : ∀ K : KT, OK K M d → Fnl K M P mc ms → WK K 0 0 0 (lv_args 0 as) [] I J R n g) : MM d mc ms M as I J R n g P := by
  intro l cy D base
  refine Met.ofW (cc := M.2.1) (maxL := M.2.2.1) (ret := M.2.2.2) hy rfl ?_
  intro p e s m args below meth c s₁ B hml hv
  obtain ⟨rfl, hP, hz, hK, hN, hXS⟩ := hv
  have hts := atoms_spec (ws := wsM M) B.pre
  have hl := lv_entry (as.map (rv base)) (n := M.2.2.1) (by rw [sl_map]; exact hn)
  rw [lg_entry_eq]
  generalize (lg_sl (as.map (rv base)) ++ List.replicate (M.2.2.1 - (lg_sl (as.map (rv base))).length) Slot.unset).toArray = ls at hl ⊢
  rw [args_map] at hl
  exact body (p, l, e, rmd d mc ms, s, m, _, below, meth, c, _, cy, D, base, M.2.2.1)
    ⟨B.exec, B.bytes, rfl, hml, fun w hw => hts w (List.mem_cons_of_mem _ hw), findClass_of_methodNamed B.named, hK, hN, Nat.le_refl _, Nat.le_refl _, by omega, fun h => (name_of_methodNamed B.named B.method).1.trans h, hXS⟩
    ⟨rfl, rfl, rfl, B.returns, B.notSynchronized⟩ (Nat.zero_le _) (Nat.zero_le _) s.heap [] ls hP hz va_S.rf hl
theorem w_iconst {K : KT} {M : Mt} {d cl sl pc pc' : Nat} {ls : List (Nat × Value)} {st : List Value} {I : SI} {J : SJ} {R : SR} {n g : Nat} {k : Int} {v : Int32} (ok : OK K M d) (dc : Dc M pc (.iconst k) 1 pc') (hv : Int32.ofInt k = v) (kk : WK K cl sl pc' ls (.int v :: st) I J R n g) : WK K cl sl pc ls (st) I J R n g := by
  obtain ⟨p, l, e, Rm, s, m, args, below, meth, c, Q, cy, D, base, nL⟩ := K
  obtain ⟨hx, hb, -⟩ := ok
  obtain ⟨hdg, rfl⟩ := dc
  intro hc1 hc2 H locs rls hP hz hS hl
  exact lv_iconst hx hb hdg hv (kk hc1 hc2 H locs rls hP hz hS hl)
theorem w_bipush {K : KT} {M : Mt} {d cl sl pc pc' : Nat} {ls : List (Nat × Value)} {st : List Value} {I : SI} {J : SJ} {R : SR} {n g : Nat} {k : Int} {v : Int32} (ok : OK K M d) (dc : Dc M pc (.bipush k) 2 pc') (hv : (Int8.ofInt k).toInt32 = v) (kk : WK K cl sl pc' ls (.int v :: st) I J R n g) : WK K cl sl pc ls (st) I J R n g := by
  obtain ⟨p, l, e, Rm, s, m, args, below, meth, c, Q, cy, D, base, nL⟩ := K
  obtain ⟨hx, hb, -⟩ := ok
  obtain ⟨hdg, rfl⟩ := dc
  intro hc1 hc2 H locs rls hP hz hS hl
  exact lv_bipush hx hb hdg hv (kk hc1 hc2 H locs rls hP hz hS hl)
theorem w_sipush {K : KT} {M : Mt} {d cl sl pc pc' : Nat} {ls : List (Nat × Value)} {st : List Value} {I : SI} {J : SJ} {R : SR} {n g : Nat} {k : Int} {v : Int32} (ok : OK K M d) (dc : Dc M pc (.sipush k) 3 pc') (hv : (Int16.ofInt k).toInt32 = v) (kk : WK K cl sl pc' ls (.int v :: st) I J R n g) : WK K cl sl pc ls (st) I J R n g := by
  obtain ⟨p, l, e, Rm, s, m, args, below, meth, c, Q, cy, D, base, nL⟩ := K
  obtain ⟨hx, hb, -⟩ := ok
  obtain ⟨hdg, rfl⟩ := dc
  intro hc1 hc2 H locs rls hP hz hS hl
  exact lv_sipush hx hb hdg hv (kk hc1 hc2 H locs rls hP hz hS hl)
theorem w_lconst {K : KT} {M : Mt} {d cl sl pc pc' : Nat} {ls : List (Nat × Value)} {st : List Value} {I : SI} {J : SJ} {R : SR} {n g : Nat} {k : Fin 2} {v : Int64} (ok : OK K M d) (dc : Dc M pc (.lconst k) 1 pc') (hv : Int64.ofNat (k : Nat) = v) (kk : WK K cl sl pc' ls (.long v :: st) I J R n g) : WK K cl sl pc ls (st) I J R n g := by
  obtain ⟨p, l, e, Rm, s, m, args, below, meth, c, Q, cy, D, base, nL⟩ := K
  obtain ⟨hx, hb, -⟩ := ok
  obtain ⟨hdg, rfl⟩ := dc
  intro hc1 hc2 H locs rls hP hz hS hl
  exact lv_lconst hx hb hdg hv (kk hc1 hc2 H locs rls hP hz hS hl)
theorem w_ixor {K : KT} {M : Mt} {d cl sl pc pc' : Nat} {ls : List (Nat × Value)} {st : List Value} {I : SI} {J : SJ} {R : SR} {n g : Nat} {x y : Int32} (ok : OK K M d) (dc : Dc M pc (.ixor) 1 pc') (kk : WK K cl sl pc' ls (.int (x ^^^ y) :: st) I J R n g) : WK K cl sl pc ls (.int y :: .int x :: st) I J R n g := by
  obtain ⟨p, l, e, Rm, s, m, args, below, meth, c, Q, cy, D, base, nL⟩ := K
  obtain ⟨hx, hb, -⟩ := ok
  obtain ⟨hdg, rfl⟩ := dc
  intro hc1 hc2 H locs rls hP hz hS hl
  exact lv_ixor hx hb hdg (kk hc1 hc2 H locs rls hP hz hS hl)
theorem w_iadd {K : KT} {M : Mt} {d cl sl pc pc' : Nat} {ls : List (Nat × Value)} {st : List Value} {I : SI} {J : SJ} {R : SR} {n g : Nat} {x y : Int32} (ok : OK K M d) (dc : Dc M pc (.iadd) 1 pc') (kk : WK K cl sl pc' ls (.int (x + y) :: st) I J R n g) : WK K cl sl pc ls (.int y :: .int x :: st) I J R n g := by
  obtain ⟨p, l, e, Rm, s, m, args, below, meth, c, Q, cy, D, base, nL⟩ := K
  obtain ⟨hx, hb, -⟩ := ok
  obtain ⟨hdg, rfl⟩ := dc
  intro hc1 hc2 H locs rls hP hz hS hl
  exact lv_iadd hx hb hdg (kk hc1 hc2 H locs rls hP hz hS hl)
theorem w_isub {K : KT} {M : Mt} {d cl sl pc pc' : Nat} {ls : List (Nat × Value)} {st : List Value} {I : SI} {J : SJ} {R : SR} {n g : Nat} {x y : Int32} (ok : OK K M d) (dc : Dc M pc (.isub) 1 pc') (kk : WK K cl sl pc' ls (.int (x - y) :: st) I J R n g) : WK K cl sl pc ls (.int y :: .int x :: st) I J R n g := by
  obtain ⟨p, l, e, Rm, s, m, args, below, meth, c, Q, cy, D, base, nL⟩ := K
  obtain ⟨hx, hb, -⟩ := ok
  obtain ⟨hdg, rfl⟩ := dc
  intro hc1 hc2 H locs rls hP hz hS hl
  exact lv_isub hx hb hdg (kk hc1 hc2 H locs rls hP hz hS hl)
theorem w_imul {K : KT} {M : Mt} {d cl sl pc pc' : Nat} {ls : List (Nat × Value)} {st : List Value} {I : SI} {J : SJ} {R : SR} {n g : Nat} {x y : Int32} (ok : OK K M d) (dc : Dc M pc (.imul) 1 pc') (kk : WK K cl sl pc' ls (.int (x * y) :: st) I J R n g) : WK K cl sl pc ls (.int y :: .int x :: st) I J R n g := by
  obtain ⟨p, l, e, Rm, s, m, args, below, meth, c, Q, cy, D, base, nL⟩ := K
  obtain ⟨hx, hb, -⟩ := ok
  obtain ⟨hdg, rfl⟩ := dc
  intro hc1 hc2 H locs rls hP hz hS hl
  exact lv_imul hx hb hdg (kk hc1 hc2 H locs rls hP hz hS hl)
theorem w_iand {K : KT} {M : Mt} {d cl sl pc pc' : Nat} {ls : List (Nat × Value)} {st : List Value} {I : SI} {J : SJ} {R : SR} {n g : Nat} {x y : Int32} (ok : OK K M d) (dc : Dc M pc (.iand) 1 pc') (kk : WK K cl sl pc' ls (.int (x &&& y) :: st) I J R n g) : WK K cl sl pc ls (.int y :: .int x :: st) I J R n g := by
  obtain ⟨p, l, e, Rm, s, m, args, below, meth, c, Q, cy, D, base, nL⟩ := K
  obtain ⟨hx, hb, -⟩ := ok
  obtain ⟨hdg, rfl⟩ := dc
  intro hc1 hc2 H locs rls hP hz hS hl
  exact lv_iand hx hb hdg (kk hc1 hc2 H locs rls hP hz hS hl)
theorem w_ior {K : KT} {M : Mt} {d cl sl pc pc' : Nat} {ls : List (Nat × Value)} {st : List Value} {I : SI} {J : SJ} {R : SR} {n g : Nat} {x y : Int32} (ok : OK K M d) (dc : Dc M pc (.ior) 1 pc') (kk : WK K cl sl pc' ls (.int (x ||| y) :: st) I J R n g) : WK K cl sl pc ls (.int y :: .int x :: st) I J R n g := by
  obtain ⟨p, l, e, Rm, s, m, args, below, meth, c, Q, cy, D, base, nL⟩ := K
  obtain ⟨hx, hb, -⟩ := ok
  obtain ⟨hdg, rfl⟩ := dc
  intro hc1 hc2 H locs rls hP hz hS hl
  exact lv_ior hx hb hdg (kk hc1 hc2 H locs rls hP hz hS hl)
theorem w_ishl {K : KT} {M : Mt} {d cl sl pc pc' : Nat} {ls : List (Nat × Value)} {st : List Value} {I : SI} {J : SJ} {R : SR} {n g : Nat} {x y : Int32} (ok : OK K M d) (dc : Dc M pc (.ishl) 1 pc') (kk : WK K cl sl pc' ls (.int (x <<< (y &&& 31)) :: st) I J R n g) : WK K cl sl pc ls (.int y :: .int x :: st) I J R n g := by
  obtain ⟨p, l, e, Rm, s, m, args, below, meth, c, Q, cy, D, base, nL⟩ := K
  obtain ⟨hx, hb, -⟩ := ok
  obtain ⟨hdg, rfl⟩ := dc
  intro hc1 hc2 H locs rls hP hz hS hl
  exact lv_ishl hx hb hdg (kk hc1 hc2 H locs rls hP hz hS hl)
theorem w_ishr {K : KT} {M : Mt} {d cl sl pc pc' : Nat} {ls : List (Nat × Value)} {st : List Value} {I : SI} {J : SJ} {R : SR} {n g : Nat} {x y : Int32} (ok : OK K M d) (dc : Dc M pc (.ishr) 1 pc') (kk : WK K cl sl pc' ls (.int (x >>> (y &&& 31)) :: st) I J R n g) : WK K cl sl pc ls (.int y :: .int x :: st) I J R n g := by
  obtain ⟨p, l, e, Rm, s, m, args, below, meth, c, Q, cy, D, base, nL⟩ := K
  obtain ⟨hx, hb, -⟩ := ok
  obtain ⟨hdg, rfl⟩ := dc
  intro hc1 hc2 H locs rls hP hz hS hl
  exact lv_ishr hx hb hdg (kk hc1 hc2 H locs rls hP hz hS hl)
theorem w_idiv {K : KT} {M : Mt} {d cl sl pc pc' : Nat} {ls : List (Nat × Value)} {st : List Value} {I : SI} {J : SJ} {R : SR} {n g : Nat} {x y : Int32} (ok : OK K M d) (dc : Dc M pc (.idiv) 1 pc') (hne : ¬ y = 0) (kk : WK K cl sl pc' ls (.int (x / y) :: st) I J R n g) : WK K cl sl pc ls (.int y :: .int x :: st) I J R n g := by
  obtain ⟨p, l, e, Rm, s, m, args, below, meth, c, Q, cy, D, base, nL⟩ := K
  obtain ⟨hx, hb, -⟩ := ok
  obtain ⟨hdg, rfl⟩ := dc
  intro hc1 hc2 H locs rls hP hz hS hl
  exact lv_idiv hx hb hdg hne (kk hc1 hc2 H locs rls hP hz hS hl)
theorem w_irem {K : KT} {M : Mt} {d cl sl pc pc' : Nat} {ls : List (Nat × Value)} {st : List Value} {I : SI} {J : SJ} {R : SR} {n g : Nat} {x y : Int32} (ok : OK K M d) (dc : Dc M pc (.irem) 1 pc') (hne : ¬ y = 0) (kk : WK K cl sl pc' ls (.int (x - x / y * y) :: st) I J R n g) : WK K cl sl pc ls (.int y :: .int x :: st) I J R n g := by
  obtain ⟨p, l, e, Rm, s, m, args, below, meth, c, Q, cy, D, base, nL⟩ := K
  obtain ⟨hx, hb, -⟩ := ok
  obtain ⟨hdg, rfl⟩ := dc
  intro hc1 hc2 H locs rls hP hz hS hl
  exact lv_irem hx hb hdg hne (kk hc1 hc2 H locs rls hP hz hS hl)
theorem w_ineg {K : KT} {M : Mt} {d cl sl pc pc' : Nat} {ls : List (Nat × Value)} {st : List Value} {I : SI} {J : SJ} {R : SR} {n g : Nat} {x : Int32} (ok : OK K M d) (dc : Dc M pc (.ineg) 1 pc') (kk : WK K cl sl pc' ls (.int (-x) :: st) I J R n g) : WK K cl sl pc ls (.int x :: st) I J R n g := by
  obtain ⟨p, l, e, Rm, s, m, args, below, meth, c, Q, cy, D, base, nL⟩ := K
  obtain ⟨hx, hb, -⟩ := ok
  obtain ⟨hdg, rfl⟩ := dc
  intro hc1 hc2 H locs rls hP hz hS hl
  exact lv_ineg hx hb hdg (kk hc1 hc2 H locs rls hP hz hS hl)
theorem w_ladd {K : KT} {M : Mt} {d cl sl pc pc' : Nat} {ls : List (Nat × Value)} {st : List Value} {I : SI} {J : SJ} {R : SR} {n g : Nat} {x y : Int64} (ok : OK K M d) (dc : Dc M pc (.ladd) 1 pc') (kk : WK K cl sl pc' ls (.long (x + y) :: st) I J R n g) : WK K cl sl pc ls (.long y :: .long x :: st) I J R n g := by
  obtain ⟨p, l, e, Rm, s, m, args, below, meth, c, Q, cy, D, base, nL⟩ := K
  obtain ⟨hx, hb, -⟩ := ok
  obtain ⟨hdg, rfl⟩ := dc
  intro hc1 hc2 H locs rls hP hz hS hl
  exact lv_ladd hx hb hdg (kk hc1 hc2 H locs rls hP hz hS hl)
theorem w_lsub {K : KT} {M : Mt} {d cl sl pc pc' : Nat} {ls : List (Nat × Value)} {st : List Value} {I : SI} {J : SJ} {R : SR} {n g : Nat} {x y : Int64} (ok : OK K M d) (dc : Dc M pc (.lsub) 1 pc') (kk : WK K cl sl pc' ls (.long (x - y) :: st) I J R n g) : WK K cl sl pc ls (.long y :: .long x :: st) I J R n g := by
  obtain ⟨p, l, e, Rm, s, m, args, below, meth, c, Q, cy, D, base, nL⟩ := K
  obtain ⟨hx, hb, -⟩ := ok
  obtain ⟨hdg, rfl⟩ := dc
  intro hc1 hc2 H locs rls hP hz hS hl
  exact lv_lsub hx hb hdg (kk hc1 hc2 H locs rls hP hz hS hl)
theorem w_lmul {K : KT} {M : Mt} {d cl sl pc pc' : Nat} {ls : List (Nat × Value)} {st : List Value} {I : SI} {J : SJ} {R : SR} {n g : Nat} {x y : Int64} (ok : OK K M d) (dc : Dc M pc (.lmul) 1 pc') (kk : WK K cl sl pc' ls (.long (x * y) :: st) I J R n g) : WK K cl sl pc ls (.long y :: .long x :: st) I J R n g := by
  obtain ⟨p, l, e, Rm, s, m, args, below, meth, c, Q, cy, D, base, nL⟩ := K
  obtain ⟨hx, hb, -⟩ := ok
  obtain ⟨hdg, rfl⟩ := dc
  intro hc1 hc2 H locs rls hP hz hS hl
  exact lv_lmul hx hb hdg (kk hc1 hc2 H locs rls hP hz hS hl)
theorem w_land {K : KT} {M : Mt} {d cl sl pc pc' : Nat} {ls : List (Nat × Value)} {st : List Value} {I : SI} {J : SJ} {R : SR} {n g : Nat} {x y : Int64} (ok : OK K M d) (dc : Dc M pc (.land) 1 pc') (kk : WK K cl sl pc' ls (.long (x &&& y) :: st) I J R n g) : WK K cl sl pc ls (.long y :: .long x :: st) I J R n g := by
  obtain ⟨p, l, e, Rm, s, m, args, below, meth, c, Q, cy, D, base, nL⟩ := K
  obtain ⟨hx, hb, -⟩ := ok
  obtain ⟨hdg, rfl⟩ := dc
  intro hc1 hc2 H locs rls hP hz hS hl
  exact lv_land hx hb hdg (kk hc1 hc2 H locs rls hP hz hS hl)
theorem w_ldiv {K : KT} {M : Mt} {d cl sl pc pc' : Nat} {ls : List (Nat × Value)} {st : List Value} {I : SI} {J : SJ} {R : SR} {n g : Nat} {x y : Int64} (ok : OK K M d) (dc : Dc M pc (.ldiv) 1 pc') (hne : ¬ y = 0) (kk : WK K cl sl pc' ls (.long (x / y) :: st) I J R n g) : WK K cl sl pc ls (.long y :: .long x :: st) I J R n g := by
  obtain ⟨p, l, e, Rm, s, m, args, below, meth, c, Q, cy, D, base, nL⟩ := K
  obtain ⟨hx, hb, -⟩ := ok
  obtain ⟨hdg, rfl⟩ := dc
  intro hc1 hc2 H locs rls hP hz hS hl
  exact lv_ldiv hx hb hdg hne (kk hc1 hc2 H locs rls hP hz hS hl)
theorem w_lrem {K : KT} {M : Mt} {d cl sl pc pc' : Nat} {ls : List (Nat × Value)} {st : List Value} {I : SI} {J : SJ} {R : SR} {n g : Nat} {x y : Int64} (ok : OK K M d) (dc : Dc M pc (.lrem) 1 pc') (hne : ¬ y = 0) (kk : WK K cl sl pc' ls (.long (x - x / y * y) :: st) I J R n g) : WK K cl sl pc ls (.long y :: .long x :: st) I J R n g := by
  obtain ⟨p, l, e, Rm, s, m, args, below, meth, c, Q, cy, D, base, nL⟩ := K
  obtain ⟨hx, hb, -⟩ := ok
  obtain ⟨hdg, rfl⟩ := dc
  intro hc1 hc2 H locs rls hP hz hS hl
  exact lv_lrem hx hb hdg hne (kk hc1 hc2 H locs rls hP hz hS hl)
theorem w_lneg {K : KT} {M : Mt} {d cl sl pc pc' : Nat} {ls : List (Nat × Value)} {st : List Value} {I : SI} {J : SJ} {R : SR} {n g : Nat} {x : Int64} (ok : OK K M d) (dc : Dc M pc (.lneg) 1 pc') (kk : WK K cl sl pc' ls (.long (-x) :: st) I J R n g) : WK K cl sl pc ls (.long x :: st) I J R n g := by
  obtain ⟨p, l, e, Rm, s, m, args, below, meth, c, Q, cy, D, base, nL⟩ := K
  obtain ⟨hx, hb, -⟩ := ok
  obtain ⟨hdg, rfl⟩ := dc
  intro hc1 hc2 H locs rls hP hz hS hl
  exact lv_lneg hx hb hdg (kk hc1 hc2 H locs rls hP hz hS hl)
theorem w_lcmp {K : KT} {M : Mt} {d cl sl pc pc' : Nat} {ls : List (Nat × Value)} {st : List Value} {I : SI} {J : SJ} {R : SR} {n g : Nat} {x y : Int64} (ok : OK K M d) (dc : Dc M pc (.lcmp) 1 pc') (kk : WK K cl sl pc' ls (.int (lg_cmp x y) :: st) I J R n g) : WK K cl sl pc ls (.long y :: .long x :: st) I J R n g := by
  obtain ⟨p, l, e, Rm, s, m, args, below, meth, c, Q, cy, D, base, nL⟩ := K
  obtain ⟨hx, hb, -⟩ := ok
  obtain ⟨hdg, rfl⟩ := dc
  intro hc1 hc2 H locs rls hP hz hS hl
  exact W.lcmp hx hb hdg (kk hc1 hc2 H locs rls hP hz hS hl)
theorem w_i2l {K : KT} {M : Mt} {d cl sl pc pc' : Nat} {ls : List (Nat × Value)} {st : List Value} {I : SI} {J : SJ} {R : SR} {n g : Nat} {x : Int32} (ok : OK K M d) (dc : Dc M pc (.i2l) 1 pc') (kk : WK K cl sl pc' ls (.long x.toInt64 :: st) I J R n g) : WK K cl sl pc ls (.int x :: st) I J R n g := by
  obtain ⟨p, l, e, Rm, s, m, args, below, meth, c, Q, cy, D, base, nL⟩ := K
  obtain ⟨hx, hb, -⟩ := ok
  obtain ⟨hdg, rfl⟩ := dc
  intro hc1 hc2 H locs rls hP hz hS hl
  exact lv_i2l hx hb hdg rfl (kk hc1 hc2 H locs rls hP hz hS hl)
theorem w_l2i {K : KT} {M : Mt} {d cl sl pc pc' : Nat} {ls : List (Nat × Value)} {st : List Value} {I : SI} {J : SJ} {R : SR} {n g : Nat} {x : Int64} (ok : OK K M d) (dc : Dc M pc (.l2i) 1 pc') (kk : WK K cl sl pc' ls (.int x.toInt32 :: st) I J R n g) : WK K cl sl pc ls (.long x :: st) I J R n g := by
  obtain ⟨p, l, e, Rm, s, m, args, below, meth, c, Q, cy, D, base, nL⟩ := K
  obtain ⟨hx, hb, -⟩ := ok
  obtain ⟨hdg, rfl⟩ := dc
  intro hc1 hc2 H locs rls hP hz hS hl
  exact lv_l2i hx hb hdg rfl (kk hc1 hc2 H locs rls hP hz hS hl)
theorem w_i2b {K : KT} {M : Mt} {d cl sl pc pc' : Nat} {ls : List (Nat × Value)} {st : List Value} {I : SI} {J : SJ} {R : SR} {n g : Nat} {x : Int32} (ok : OK K M d) (dc : Dc M pc (.i2b) 1 pc') (kk : WK K cl sl pc' ls (.int x.toInt8.toInt32 :: st) I J R n g) : WK K cl sl pc ls (.int x :: st) I J R n g := by
  obtain ⟨p, l, e, Rm, s, m, args, below, meth, c, Q, cy, D, base, nL⟩ := K
  obtain ⟨hx, hb, -⟩ := ok
  obtain ⟨hdg, rfl⟩ := dc
  intro hc1 hc2 H locs rls hP hz hS hl
  exact lv_i2b hx hb hdg rfl (kk hc1 hc2 H locs rls hP hz hS hl)
theorem w_iushr {K : KT} {M : Mt} {d cl sl pc pc' : Nat} {ls : List (Nat × Value)} {st : List Value} {I : SI} {J : SJ} {R : SR} {n g : Nat} {x y : Int32} (ok : OK K M d) (dc : Dc M pc (.iushr) 1 pc') (kk : WK K cl sl pc' ls (.int (x.toUInt32 >>> (y.toUInt32 &&& Int32.toUInt32 31)).toInt32 :: st) I J R n g) : WK K cl sl pc ls (.int y :: .int x :: st) I J R n g := by
  obtain ⟨p, l, e, Rm, s, m, args, below, meth, c, Q, cy, D, base, nL⟩ := K
  obtain ⟨hx, hb, -⟩ := ok
  obtain ⟨hdg, rfl⟩ := dc
  intro hc1 hc2 H locs rls hP hz hS hl
  exact lv_iushr hx hb hdg rfl (kk hc1 hc2 H locs rls hP hz hS hl)
theorem w_dup {K : KT} {M : Mt} {d cl sl pc pc' : Nat} {ls : List (Nat × Value)} {st : List Value} {I : SI} {J : SJ} {R : SR} {n g : Nat} {v : Value} (ok : OK K M d) (dc : Dc M pc (.dup) 1 pc') (hv : v.category = 1) (kk : WK K cl sl pc' ls (v :: v :: st) I J R n g) : WK K cl sl pc ls (v :: st) I J R n g := by
  obtain ⟨p, l, e, Rm, s, m, args, below, meth, c, Q, cy, D, base, nL⟩ := K
  obtain ⟨hx, hb, -⟩ := ok
  obtain ⟨hdg, rfl⟩ := dc
  intro hc1 hc2 H locs rls hP hz hS hl
  exact lv_dup hx hb hdg (by rw [rv_cat]; exact hv) (kk hc1 hc2 H locs rls hP hz hS hl)
theorem w_pop {K : KT} {M : Mt} {d cl sl pc pc' : Nat} {ls : List (Nat × Value)} {st : List Value} {I : SI} {J : SJ} {R : SR} {n g : Nat} {v : Value} (ok : OK K M d) (dc : Dc M pc (.pop) 1 pc') (hv : v.category = 1) (kk : WK K cl sl pc' ls (st) I J R n g) : WK K cl sl pc ls (v :: st) I J R n g := by
  obtain ⟨p, l, e, Rm, s, m, args, below, meth, c, Q, cy, D, base, nL⟩ := K
  obtain ⟨hx, hb, -⟩ := ok
  obtain ⟨hdg, rfl⟩ := dc
  intro hc1 hc2 H locs rls hP hz hS hl
  exact lv_pop hx hb hdg (by rw [rv_cat]; exact hv) (kk hc1 hc2 H locs rls hP hz hS hl)
theorem w_dup2 {K : KT} {M : Mt} {d cl sl pc pc' : Nat} {ls : List (Nat × Value)} {st : List Value} {I : SI} {J : SJ} {R : SR} {n g : Nat} {v u : Value} (ok : OK K M d) (dc : Dc M pc (.dup2) 1 pc') (hv : v.category = 1) (hu : u.category = 1) (kk : WK K cl sl pc' ls (v :: u :: v :: u :: st) I J R n g) : WK K cl sl pc ls (v :: u :: st) I J R n g := by
  obtain ⟨p, l, e, Rm, s, m, args, below, meth, c, Q, cy, D, base, nL⟩ := K
  obtain ⟨hx, hb, -⟩ := ok
  obtain ⟨hdg, rfl⟩ := dc
  intro hc1 hc2 H locs rls hP hz hS hl
  exact lv_dup2_11 hx hb hdg (by rw [rv_cat]; exact hv) (by rw [rv_cat]; exact hu) (kk hc1 hc2 H locs rls hP hz hS hl)
theorem w_dup2L {K : KT} {M : Mt} {d cl sl pc pc' : Nat} {ls : List (Nat × Value)} {st : List Value} {I : SI} {J : SJ} {R : SR} {n g : Nat} {v : Value} (ok : OK K M d) (dc : Dc M pc (.dup2) 1 pc') (hv : v.category = 2) (kk : WK K cl sl pc' ls (v :: v :: st) I J R n g) : WK K cl sl pc ls (v :: st) I J R n g := by
  obtain ⟨p, l, e, Rm, s, m, args, below, meth, c, Q, cy, D, base, nL⟩ := K
  obtain ⟨hx, hb, -⟩ := ok
  obtain ⟨hdg, rfl⟩ := dc
  intro hc1 hc2 H locs rls hP hz hS hl
  exact lv_dup2_2 hx hb hdg (by rw [rv_cat]; exact hv) (kk hc1 hc2 H locs rls hP hz hS hl)
theorem ls_at {rls : Array Slot} {nL base : Nat} {ls : List (Nat × Value)} (hl : lv_has rls nL (ls.map (rp base))) (q : Nat) {i : Nat} {v : Value} (h : ls[q]? = some (i, v)) : rls[i]? = some (.val (rv base v)) := lv_at hl q (by rw [List.getElem?_map, h]; rfl)
theorem ls_put (base i : Nat) (v : Value) (ls lv : List (Nat × Value)) (h : (i, v) :: ls.filter (fun q => !(q.1 == i) && !(q.1 + 1 == i && q.2.category == 2)) = lv) : (i, rv base v) :: (ls.map (rp base)).filter (fun q => !(q.1 == i) && !(q.1 + 1 == i && q.2.category == 2)) = lv.map (rp base) := by
  rw [← h, List.map_cons, List.filter_map]
  congr 2
  refine List.filter_congr fun q _ => ?_
  simp [rp, rv_cat]
theorem ls_put2 (base i : Nat) (v : Value) (ls lv : List (Nat × Value)) (h : (i, v) :: ls.filter (fun q => !(q.1 == i) && (!(q.1 == i + 1) && !(q.1 + 1 == i && q.2.category == 2))) = lv) : (i, rv base v) :: (ls.map (rp base)).filter (fun q => !(q.1 == i) && (!(q.1 == i + 1) && !(q.1 + 1 == i && q.2.category == 2))) = lv.map (rp base) := by
  rw [← h, List.map_cons, List.filter_map]
  congr 2
  refine List.filter_congr fun q _ => ?_
  simp [rp, rv_cat]
theorem w_iload_n {K : KT} {M : Mt} {d cl sl pc pc' : Nat} {ls : List (Nat × Value)} {st : List Value} {I : SI} {J : SJ} {R : SR} {n g : Nat} {k : Fin 4} {x : Int32} (ok : OK K M d) (dc : Dc M pc (.iload_n k) 1 pc') (q : Nat) (h : ls[q]? = some ((k : Nat), .int x)) (kk : WK K cl sl pc' ls (.int x :: st) I J R n g) : WK K cl sl pc ls st I J R n g := by
  obtain ⟨p, l, e, Rm, s, m, args, below, meth, c, Q, cy, D, base, nL⟩ := K
  obtain ⟨hx, hb, hnL, -⟩ := ok
  obtain ⟨hdg, rfl⟩ := dc
  intro hc1 hc2 H locs rls hP hz hS hl
  exact lv_iload_n hx hb hdg rfl (ls_at hl q h) (kk hc1 hc2 H locs rls hP hz hS hl)
theorem w_iload {K : KT} {M : Mt} {d cl sl pc pc' : Nat} {ls : List (Nat × Value)} {st : List Value} {I : SI} {J : SJ} {R : SR} {n g : Nat} {i : Nat} {x : Int32} (ok : OK K M d) (dc : Dc M pc (.iload i) 2 pc') (q : Nat) (h : ls[q]? = some (i, .int x)) (kk : WK K cl sl pc' ls (.int x :: st) I J R n g) : WK K cl sl pc ls st I J R n g := by
  obtain ⟨p, l, e, Rm, s, m, args, below, meth, c, Q, cy, D, base, nL⟩ := K
  obtain ⟨hx, hb, hnL, -⟩ := ok
  obtain ⟨hdg, rfl⟩ := dc
  intro hc1 hc2 H locs rls hP hz hS hl
  exact lv_iload hx hb hdg (ls_at hl q h) (kk hc1 hc2 H locs rls hP hz hS hl)
theorem w_istore_n {K : KT} {M : Mt} {d cl sl pc pc' : Nat} {ls : List (Nat × Value)} {st : List Value} {I : SI} {J : SJ} {R : SR} {n g : Nat} {k : Fin 4} {i : Nat} {x : Int32} {lv : List (Nat × Value)} (ok : OK K M d) (dc : Dc M pc (.istore_n k) 1 pc') (hi : (k : Nat) = i) (hn : i < M.2.2.1) (h : (i, Value.int x) :: ls.filter (fun q => !(q.1 == i) && !(q.1 + 1 == i && q.2.category == 2)) = lv) (kk : WK K cl sl pc' lv st I J R n g) : WK K cl sl pc ls (.int x :: st) I J R n g := by
  obtain ⟨p, l, e, Rm, s, m, args, below, meth, c, Q, cy, D, base, nL⟩ := K
  obtain ⟨hx, hb, hnL, -⟩ := ok
  obtain ⟨hdg, rfl⟩ := dc
  intro hc1 hc2 H locs rls hP hz hS hl
  exact lv_istore_n hx hb hdg hi hl (by rw [hnL]; exact hn) (ls_put base i (.int x) ls lv h) (fun rls2 hl2 => kk hc1 hc2 H locs rls2 hP hz hS hl2)
theorem w_istore {K : KT} {M : Mt} {d cl sl pc pc' : Nat} {ls : List (Nat × Value)} {st : List Value} {I : SI} {J : SJ} {R : SR} {n g : Nat} {i : Nat} {x : Int32} {lv : List (Nat × Value)} (ok : OK K M d) (dc : Dc M pc (.istore i) 2 pc') (hn : i < M.2.2.1) (h : (i, Value.int x) :: ls.filter (fun q => !(q.1 == i) && !(q.1 + 1 == i && q.2.category == 2)) = lv) (kk : WK K cl sl pc' lv st I J R n g) : WK K cl sl pc ls (.int x :: st) I J R n g := by
  obtain ⟨p, l, e, Rm, s, m, args, below, meth, c, Q, cy, D, base, nL⟩ := K
  obtain ⟨hx, hb, hnL, -⟩ := ok
  obtain ⟨hdg, rfl⟩ := dc
  intro hc1 hc2 H locs rls hP hz hS hl
  exact lv_istore hx hb hdg hl (by rw [hnL]; exact hn) (ls_put base i (.int x) ls lv h) (fun rls2 hl2 => kk hc1 hc2 H locs rls2 hP hz hS hl2)
theorem w_lload_n {K : KT} {M : Mt} {d cl sl pc pc' : Nat} {ls : List (Nat × Value)} {st : List Value} {I : SI} {J : SJ} {R : SR} {n g : Nat} {k : Fin 4} {x : Int64} (ok : OK K M d) (dc : Dc M pc (.lload_n k) 1 pc') (q : Nat) (h : ls[q]? = some ((k : Nat), .long x)) (kk : WK K cl sl pc' ls (.long x :: st) I J R n g) : WK K cl sl pc ls st I J R n g := by
  obtain ⟨p, l, e, Rm, s, m, args, below, meth, c, Q, cy, D, base, nL⟩ := K
  obtain ⟨hx, hb, hnL, -⟩ := ok
  obtain ⟨hdg, rfl⟩ := dc
  intro hc1 hc2 H locs rls hP hz hS hl
  exact lv_lload_n hx hb hdg rfl (ls_at hl q h) (kk hc1 hc2 H locs rls hP hz hS hl)
theorem w_lload {K : KT} {M : Mt} {d cl sl pc pc' : Nat} {ls : List (Nat × Value)} {st : List Value} {I : SI} {J : SJ} {R : SR} {n g : Nat} {i : Nat} {x : Int64} (ok : OK K M d) (dc : Dc M pc (.lload i) 2 pc') (q : Nat) (h : ls[q]? = some (i, .long x)) (kk : WK K cl sl pc' ls (.long x :: st) I J R n g) : WK K cl sl pc ls st I J R n g := by
  obtain ⟨p, l, e, Rm, s, m, args, below, meth, c, Q, cy, D, base, nL⟩ := K
  obtain ⟨hx, hb, hnL, -⟩ := ok
  obtain ⟨hdg, rfl⟩ := dc
  intro hc1 hc2 H locs rls hP hz hS hl
  exact lv_lload hx hb hdg (ls_at hl q h) (kk hc1 hc2 H locs rls hP hz hS hl)
theorem w_lstore_n {K : KT} {M : Mt} {d cl sl pc pc' : Nat} {ls : List (Nat × Value)} {st : List Value} {I : SI} {J : SJ} {R : SR} {n g : Nat} {k : Fin 4} {i : Nat} {x : Int64} {lv : List (Nat × Value)} (ok : OK K M d) (dc : Dc M pc (.lstore_n k) 1 pc') (hi : (k : Nat) = i) (hn : i + 1 < M.2.2.1) (h : (i, Value.long x) :: ls.filter (fun q => !(q.1 == i) && (!(q.1 == i + 1) && !(q.1 + 1 == i && q.2.category == 2))) = lv) (kk : WK K cl sl pc' lv st I J R n g) : WK K cl sl pc ls (.long x :: st) I J R n g := by
  obtain ⟨p, l, e, Rm, s, m, args, below, meth, c, Q, cy, D, base, nL⟩ := K
  obtain ⟨hx, hb, hnL, -⟩ := ok
  obtain ⟨hdg, rfl⟩ := dc
  intro hc1 hc2 H locs rls hP hz hS hl
  exact lv_lstore_n hx hb hdg hi hl (by rw [hnL]; exact hn) (ls_put2 base i (.long x) ls lv h) (fun rls2 hl2 => kk hc1 hc2 H locs rls2 hP hz hS hl2)
theorem w_lstore {K : KT} {M : Mt} {d cl sl pc pc' : Nat} {ls : List (Nat × Value)} {st : List Value} {I : SI} {J : SJ} {R : SR} {n g : Nat} {i : Nat} {x : Int64} {lv : List (Nat × Value)} (ok : OK K M d) (dc : Dc M pc (.lstore i) 2 pc') (hn : i + 1 < M.2.2.1) (h : (i, Value.long x) :: ls.filter (fun q => !(q.1 == i) && (!(q.1 == i + 1) && !(q.1 + 1 == i && q.2.category == 2))) = lv) (kk : WK K cl sl pc' lv st I J R n g) : WK K cl sl pc ls (.long x :: st) I J R n g := by
  obtain ⟨p, l, e, Rm, s, m, args, below, meth, c, Q, cy, D, base, nL⟩ := K
  obtain ⟨hx, hb, hnL, -⟩ := ok
  obtain ⟨hdg, rfl⟩ := dc
  intro hc1 hc2 H locs rls hP hz hS hl
  exact lv_lstore hx hb hdg hl (by rw [hnL]; exact hn) (ls_put2 base i (.long x) ls lv h) (fun rls2 hl2 => kk hc1 hc2 H locs rls2 hP hz hS hl2)
theorem w_aload_n {K : KT} {M : Mt} {d cl sl pc pc' : Nat} {ls : List (Nat × Value)} {st : List Value} {I : SI} {J : SJ} {R : SR} {n g : Nat} {k : Fin 4} {x : Nat} (ok : OK K M d) (dc : Dc M pc (.aload_n k) 1 pc') (q : Nat) (h : ls[q]? = some ((k : Nat), .ref x)) (kk : WK K cl sl pc' ls (.ref x :: st) I J R n g) : WK K cl sl pc ls st I J R n g := by
  obtain ⟨p, l, e, Rm, s, m, args, below, meth, c, Q, cy, D, base, nL⟩ := K
  obtain ⟨hx, hb, hnL, -⟩ := ok
  obtain ⟨hdg, rfl⟩ := dc
  intro hc1 hc2 H locs rls hP hz hS hl
  exact lv_aload_n hx hb hdg rfl (ls_at hl q h) (kk hc1 hc2 H locs rls hP hz hS hl)
theorem w_aload {K : KT} {M : Mt} {d cl sl pc pc' : Nat} {ls : List (Nat × Value)} {st : List Value} {I : SI} {J : SJ} {R : SR} {n g : Nat} {i : Nat} {x : Nat} (ok : OK K M d) (dc : Dc M pc (.aload i) 2 pc') (q : Nat) (h : ls[q]? = some (i, .ref x)) (kk : WK K cl sl pc' ls (.ref x :: st) I J R n g) : WK K cl sl pc ls st I J R n g := by
  obtain ⟨p, l, e, Rm, s, m, args, below, meth, c, Q, cy, D, base, nL⟩ := K
  obtain ⟨hx, hb, hnL, -⟩ := ok
  obtain ⟨hdg, rfl⟩ := dc
  intro hc1 hc2 H locs rls hP hz hS hl
  exact lv_aload hx hb hdg (ls_at hl q h) (kk hc1 hc2 H locs rls hP hz hS hl)
theorem w_astore_n {K : KT} {M : Mt} {d cl sl pc pc' : Nat} {ls : List (Nat × Value)} {st : List Value} {I : SI} {J : SJ} {R : SR} {n g : Nat} {k : Fin 4} {i : Nat} {x : Nat} {lv : List (Nat × Value)} (ok : OK K M d) (dc : Dc M pc (.astore_n k) 1 pc') (hi : (k : Nat) = i) (hn : i < M.2.2.1) (h : (i, Value.ref x) :: ls.filter (fun q => !(q.1 == i) && !(q.1 + 1 == i && q.2.category == 2)) = lv) (kk : WK K cl sl pc' lv st I J R n g) : WK K cl sl pc ls (.ref x :: st) I J R n g := by
  obtain ⟨p, l, e, Rm, s, m, args, below, meth, c, Q, cy, D, base, nL⟩ := K
  obtain ⟨hx, hb, hnL, -⟩ := ok
  obtain ⟨hdg, rfl⟩ := dc
  intro hc1 hc2 H locs rls hP hz hS hl
  exact lv_astore_n hx hb hdg hi hl (by rw [hnL]; exact hn) (ls_put base i (.ref x) ls lv h) (fun rls2 hl2 => kk hc1 hc2 H locs rls2 hP hz hS hl2)
theorem w_astore {K : KT} {M : Mt} {d cl sl pc pc' : Nat} {ls : List (Nat × Value)} {st : List Value} {I : SI} {J : SJ} {R : SR} {n g : Nat} {i : Nat} {x : Nat} {lv : List (Nat × Value)} (ok : OK K M d) (dc : Dc M pc (.astore i) 2 pc') (hn : i < M.2.2.1) (h : (i, Value.ref x) :: ls.filter (fun q => !(q.1 == i) && !(q.1 + 1 == i && q.2.category == 2)) = lv) (kk : WK K cl sl pc' lv st I J R n g) : WK K cl sl pc ls (.ref x :: st) I J R n g := by
  obtain ⟨p, l, e, Rm, s, m, args, below, meth, c, Q, cy, D, base, nL⟩ := K
  obtain ⟨hx, hb, hnL, -⟩ := ok
  obtain ⟨hdg, rfl⟩ := dc
  intro hc1 hc2 H locs rls hP hz hS hl
  exact lv_astore hx hb hdg hl (by rw [hnL]; exact hn) (ls_put base i (.ref x) ls lv h) (fun rls2 hl2 => kk hc1 hc2 H locs rls2 hP hz hS hl2)
theorem w_iinc {K : KT} {M : Mt} {d cl sl pc pc' : Nat} {ls : List (Nat × Value)} {st : List Value} {I : SI} {J : SJ} {R : SR} {n g : Nat} {i : Nat} {k : Int} {x v : Int32} {lv : List (Nat × Value)} (ok : OK K M d) (dc : Dc M pc (.iinc i k) 3 pc') (q : Nat) (hq : ls[q]? = some (i, .int x)) (hv : x + Int32.ofInt k = v) (hn : i < M.2.2.1) (h : (i, Value.int v) :: ls.filter (fun q => !(q.1 == i) && !(q.1 + 1 == i && q.2.category == 2)) = lv) (kk : WK K cl sl pc' lv st I J R n g) : WK K cl sl pc ls st I J R n g := by
  obtain ⟨p, l, e, Rm, s, m, args, below, meth, c, Q, cy, D, base, nL⟩ := K
  obtain ⟨hx, hb, hnL, -⟩ := ok
  obtain ⟨hdg, rfl⟩ := dc
  intro hc1 hc2 H locs rls hP hz hS hl
  exact lv_iinc (k := q) hx hb hdg hl (by rw [List.getElem?_map, hq]; rfl) hv (by rw [hnL]; exact hn) (ls_put base i (.int v) ls lv h) (fun rls2 hl2 => kk hc1 hc2 H locs rls2 hP hz hS hl2)
theorem w_icmp_eq {K : KT} {M : Mt} {d cl sl pc pc' : Nat} {ls : List (Nat × Value)} {st : List Value} {I : SI} {J : SJ} {R : SR} {n g : Nat} {x y : Int32} {off : Int} {tgt : Nat} (ok : OK K M d) (dc : Dc M pc (.if_icmp .eq off) 3 pc') (ht : (pc : Int) + off = (tgt : Int)) (kt : x = y → WK K cl sl tgt ls st I J R n g) (kf : ¬ (x = y) → WK K cl sl pc' ls st I J R n g) : WK K cl sl pc ls (.int y :: .int x :: st) I J R n g := by
  obtain ⟨p, l, e, Rm, s, m, args, below, meth, c, Q, cy, D, base, nL⟩ := K
  obtain ⟨hx, hb, hnL, -⟩ := ok
  obtain ⟨hdg, rfl⟩ := dc
  intro hc1 hc2 H locs rls hP hz hS hl
  exact lv_icmp_eq hx hb hdg ht (fun h => kt h hc1 hc2 H locs rls hP hz hS hl) (fun h => kf h hc1 hc2 H locs rls hP hz hS hl)
theorem w_icmp_ne {K : KT} {M : Mt} {d cl sl pc pc' : Nat} {ls : List (Nat × Value)} {st : List Value} {I : SI} {J : SJ} {R : SR} {n g : Nat} {x y : Int32} {off : Int} {tgt : Nat} (ok : OK K M d) (dc : Dc M pc (.if_icmp .ne off) 3 pc') (ht : (pc : Int) + off = (tgt : Int)) (kt : ¬ x = y → WK K cl sl tgt ls st I J R n g) (kf : x = y → WK K cl sl pc' ls st I J R n g) : WK K cl sl pc ls (.int y :: .int x :: st) I J R n g := by
  obtain ⟨p, l, e, Rm, s, m, args, below, meth, c, Q, cy, D, base, nL⟩ := K
  obtain ⟨hx, hb, hnL, -⟩ := ok
  obtain ⟨hdg, rfl⟩ := dc
  intro hc1 hc2 H locs rls hP hz hS hl
  exact lv_icmp_ne hx hb hdg ht (fun h => kt h hc1 hc2 H locs rls hP hz hS hl) (fun h => kf h hc1 hc2 H locs rls hP hz hS hl)
theorem w_icmp_lt {K : KT} {M : Mt} {d cl sl pc pc' : Nat} {ls : List (Nat × Value)} {st : List Value} {I : SI} {J : SJ} {R : SR} {n g : Nat} {x y : Int32} {off : Int} {tgt : Nat} (ok : OK K M d) (dc : Dc M pc (.if_icmp .lt off) 3 pc') (ht : (pc : Int) + off = (tgt : Int)) (kt : x < y → WK K cl sl tgt ls st I J R n g) (kf : ¬ (x < y) → WK K cl sl pc' ls st I J R n g) : WK K cl sl pc ls (.int y :: .int x :: st) I J R n g := by
  obtain ⟨p, l, e, Rm, s, m, args, below, meth, c, Q, cy, D, base, nL⟩ := K
  obtain ⟨hx, hb, hnL, -⟩ := ok
  obtain ⟨hdg, rfl⟩ := dc
  intro hc1 hc2 H locs rls hP hz hS hl
  exact lv_icmp_lt hx hb hdg ht (fun h => kt h hc1 hc2 H locs rls hP hz hS hl) (fun h => kf h hc1 hc2 H locs rls hP hz hS hl)
theorem w_icmp_ge {K : KT} {M : Mt} {d cl sl pc pc' : Nat} {ls : List (Nat × Value)} {st : List Value} {I : SI} {J : SJ} {R : SR} {n g : Nat} {x y : Int32} {off : Int} {tgt : Nat} (ok : OK K M d) (dc : Dc M pc (.if_icmp .ge off) 3 pc') (ht : (pc : Int) + off = (tgt : Int)) (kt : y ≤ x → WK K cl sl tgt ls st I J R n g) (kf : ¬ (y ≤ x) → WK K cl sl pc' ls st I J R n g) : WK K cl sl pc ls (.int y :: .int x :: st) I J R n g := by
  obtain ⟨p, l, e, Rm, s, m, args, below, meth, c, Q, cy, D, base, nL⟩ := K
  obtain ⟨hx, hb, hnL, -⟩ := ok
  obtain ⟨hdg, rfl⟩ := dc
  intro hc1 hc2 H locs rls hP hz hS hl
  exact lv_icmp_ge hx hb hdg ht (fun h => kt h hc1 hc2 H locs rls hP hz hS hl) (fun h => kf h hc1 hc2 H locs rls hP hz hS hl)
theorem w_icmp_gt {K : KT} {M : Mt} {d cl sl pc pc' : Nat} {ls : List (Nat × Value)} {st : List Value} {I : SI} {J : SJ} {R : SR} {n g : Nat} {x y : Int32} {off : Int} {tgt : Nat} (ok : OK K M d) (dc : Dc M pc (.if_icmp .gt off) 3 pc') (ht : (pc : Int) + off = (tgt : Int)) (kt : y < x → WK K cl sl tgt ls st I J R n g) (kf : ¬ (y < x) → WK K cl sl pc' ls st I J R n g) : WK K cl sl pc ls (.int y :: .int x :: st) I J R n g := by
  obtain ⟨p, l, e, Rm, s, m, args, below, meth, c, Q, cy, D, base, nL⟩ := K
  obtain ⟨hx, hb, hnL, -⟩ := ok
  obtain ⟨hdg, rfl⟩ := dc
  intro hc1 hc2 H locs rls hP hz hS hl
  exact lv_icmp_gt hx hb hdg ht (fun h => kt h hc1 hc2 H locs rls hP hz hS hl) (fun h => kf h hc1 hc2 H locs rls hP hz hS hl)
theorem w_icmp_le {K : KT} {M : Mt} {d cl sl pc pc' : Nat} {ls : List (Nat × Value)} {st : List Value} {I : SI} {J : SJ} {R : SR} {n g : Nat} {x y : Int32} {off : Int} {tgt : Nat} (ok : OK K M d) (dc : Dc M pc (.if_icmp .le off) 3 pc') (ht : (pc : Int) + off = (tgt : Int)) (kt : x ≤ y → WK K cl sl tgt ls st I J R n g) (kf : ¬ (x ≤ y) → WK K cl sl pc' ls st I J R n g) : WK K cl sl pc ls (.int y :: .int x :: st) I J R n g := by
  obtain ⟨p, l, e, Rm, s, m, args, below, meth, c, Q, cy, D, base, nL⟩ := K
  obtain ⟨hx, hb, hnL, -⟩ := ok
  obtain ⟨hdg, rfl⟩ := dc
  intro hc1 hc2 H locs rls hP hz hS hl
  exact lv_icmp_le hx hb hdg ht (fun h => kt h hc1 hc2 H locs rls hP hz hS hl) (fun h => kf h hc1 hc2 H locs rls hP hz hS hl)
theorem w_if_eq {K : KT} {M : Mt} {d cl sl pc pc' : Nat} {ls : List (Nat × Value)} {st : List Value} {I : SI} {J : SJ} {R : SR} {n g : Nat} {x : Int32} {off : Int} {tgt : Nat} (ok : OK K M d) (dc : Dc M pc (.ifCond .eq off) 3 pc') (ht : (pc : Int) + off = (tgt : Int)) (kt : x = 0 → WK K cl sl tgt ls st I J R n g) (kf : ¬ (x = 0) → WK K cl sl pc' ls st I J R n g) : WK K cl sl pc ls (.int x :: st) I J R n g := by
  obtain ⟨p, l, e, Rm, s, m, args, below, meth, c, Q, cy, D, base, nL⟩ := K
  obtain ⟨hx, hb, hnL, -⟩ := ok
  obtain ⟨hdg, rfl⟩ := dc
  intro hc1 hc2 H locs rls hP hz hS hl
  exact lv_if_eq hx hb hdg ht (fun h => kt h hc1 hc2 H locs rls hP hz hS hl) (fun h => kf h hc1 hc2 H locs rls hP hz hS hl)
theorem w_if_ne {K : KT} {M : Mt} {d cl sl pc pc' : Nat} {ls : List (Nat × Value)} {st : List Value} {I : SI} {J : SJ} {R : SR} {n g : Nat} {x : Int32} {off : Int} {tgt : Nat} (ok : OK K M d) (dc : Dc M pc (.ifCond .ne off) 3 pc') (ht : (pc : Int) + off = (tgt : Int)) (kt : ¬ x = 0 → WK K cl sl tgt ls st I J R n g) (kf : x = 0 → WK K cl sl pc' ls st I J R n g) : WK K cl sl pc ls (.int x :: st) I J R n g := by
  obtain ⟨p, l, e, Rm, s, m, args, below, meth, c, Q, cy, D, base, nL⟩ := K
  obtain ⟨hx, hb, hnL, -⟩ := ok
  obtain ⟨hdg, rfl⟩ := dc
  intro hc1 hc2 H locs rls hP hz hS hl
  exact lv_if_ne hx hb hdg ht (fun h => kt h hc1 hc2 H locs rls hP hz hS hl) (fun h => kf h hc1 hc2 H locs rls hP hz hS hl)
theorem w_if_lt {K : KT} {M : Mt} {d cl sl pc pc' : Nat} {ls : List (Nat × Value)} {st : List Value} {I : SI} {J : SJ} {R : SR} {n g : Nat} {x : Int32} {off : Int} {tgt : Nat} (ok : OK K M d) (dc : Dc M pc (.ifCond .lt off) 3 pc') (ht : (pc : Int) + off = (tgt : Int)) (kt : x < 0 → WK K cl sl tgt ls st I J R n g) (kf : ¬ (x < 0) → WK K cl sl pc' ls st I J R n g) : WK K cl sl pc ls (.int x :: st) I J R n g := by
  obtain ⟨p, l, e, Rm, s, m, args, below, meth, c, Q, cy, D, base, nL⟩ := K
  obtain ⟨hx, hb, hnL, -⟩ := ok
  obtain ⟨hdg, rfl⟩ := dc
  intro hc1 hc2 H locs rls hP hz hS hl
  exact lv_if_lt hx hb hdg ht (fun h => kt h hc1 hc2 H locs rls hP hz hS hl) (fun h => kf h hc1 hc2 H locs rls hP hz hS hl)
theorem w_if_ge {K : KT} {M : Mt} {d cl sl pc pc' : Nat} {ls : List (Nat × Value)} {st : List Value} {I : SI} {J : SJ} {R : SR} {n g : Nat} {x : Int32} {off : Int} {tgt : Nat} (ok : OK K M d) (dc : Dc M pc (.ifCond .ge off) 3 pc') (ht : (pc : Int) + off = (tgt : Int)) (kt : 0 ≤ x → WK K cl sl tgt ls st I J R n g) (kf : ¬ (0 ≤ x) → WK K cl sl pc' ls st I J R n g) : WK K cl sl pc ls (.int x :: st) I J R n g := by
  obtain ⟨p, l, e, Rm, s, m, args, below, meth, c, Q, cy, D, base, nL⟩ := K
  obtain ⟨hx, hb, hnL, -⟩ := ok
  obtain ⟨hdg, rfl⟩ := dc
  intro hc1 hc2 H locs rls hP hz hS hl
  exact lv_if_ge hx hb hdg ht (fun h => kt h hc1 hc2 H locs rls hP hz hS hl) (fun h => kf h hc1 hc2 H locs rls hP hz hS hl)
theorem w_if_gt {K : KT} {M : Mt} {d cl sl pc pc' : Nat} {ls : List (Nat × Value)} {st : List Value} {I : SI} {J : SJ} {R : SR} {n g : Nat} {x : Int32} {off : Int} {tgt : Nat} (ok : OK K M d) (dc : Dc M pc (.ifCond .gt off) 3 pc') (ht : (pc : Int) + off = (tgt : Int)) (kt : 0 < x → WK K cl sl tgt ls st I J R n g) (kf : ¬ (0 < x) → WK K cl sl pc' ls st I J R n g) : WK K cl sl pc ls (.int x :: st) I J R n g := by
  obtain ⟨p, l, e, Rm, s, m, args, below, meth, c, Q, cy, D, base, nL⟩ := K
  obtain ⟨hx, hb, hnL, -⟩ := ok
  obtain ⟨hdg, rfl⟩ := dc
  intro hc1 hc2 H locs rls hP hz hS hl
  exact lv_if_gt hx hb hdg ht (fun h => kt h hc1 hc2 H locs rls hP hz hS hl) (fun h => kf h hc1 hc2 H locs rls hP hz hS hl)
theorem w_if_le {K : KT} {M : Mt} {d cl sl pc pc' : Nat} {ls : List (Nat × Value)} {st : List Value} {I : SI} {J : SJ} {R : SR} {n g : Nat} {x : Int32} {off : Int} {tgt : Nat} (ok : OK K M d) (dc : Dc M pc (.ifCond .le off) 3 pc') (ht : (pc : Int) + off = (tgt : Int)) (kt : x ≤ 0 → WK K cl sl tgt ls st I J R n g) (kf : ¬ (x ≤ 0) → WK K cl sl pc' ls st I J R n g) : WK K cl sl pc ls (.int x :: st) I J R n g := by
  obtain ⟨p, l, e, Rm, s, m, args, below, meth, c, Q, cy, D, base, nL⟩ := K
  obtain ⟨hx, hb, hnL, -⟩ := ok
  obtain ⟨hdg, rfl⟩ := dc
  intro hc1 hc2 H locs rls hP hz hS hl
  exact lv_if_le hx hb hdg ht (fun h => kt h hc1 hc2 H locs rls hP hz hS hl) (fun h => kf h hc1 hc2 H locs rls hP hz hS hl)
theorem w_goto {K : KT} {M : Mt} {d cl sl pc : Nat} {ls : List (Nat × Value)} {st : List Value} {I : SI} {J : SJ} {R : SR} {n g : Nat} {off : Int} {tgt : Nat} (ok : OK K M d) {pc' : Nat} (dc : Dc M pc (.goto off) 3 pc') (ht : (pc : Int) + off = (tgt : Int)) (kk : WK K cl sl tgt ls st I J R n g) : WK K cl sl pc ls st I J R n g := by
  obtain ⟨p, l, e, Rm, s, m, args, below, meth, c, Q, cy, D, base, nL⟩ := K
  obtain ⟨hx, hb, hnL, -⟩ := ok
  obtain ⟨hdg, rfl⟩ := dc
  intro hc1 hc2 H locs rls hP hz hS hl
  exact lv_goto hx hb hdg ht (kk hc1 hc2 H locs rls hP hz hS hl)
