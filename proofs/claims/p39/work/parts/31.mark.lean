/-! printed by wip/gen/gen_mark.py: a method that throws, and its caller -/
/-! NoSuchElementException: its constructor hands the text on by pool number 13 (turned from the kit's rows of an exception that is made) -/
def NXC : String := "java/util/NoSuchElementException"
def nx_b : ByteArray := ⟨#[0x2a, 0x2b, 0xb7, 0x00, 0x0d, 0xb1]⟩
theorem nx_0 : decode nx_b 0 = .ok (.aload_n 0, 1) := by decide +kernel
theorem nx_1 : decode nx_b 1 = .ok (.aload_n 1, 1) := by decide +kernel
theorem nx_2 : decode nx_b 2 = .ok (.invokespecial 13, 3) := by decide +kernel
theorem nx_5 : decode nx_b 5 = .ok (.return_, 1) := by decide +kernel
theorem nx_fit : Bundle.fit NXC = true := by decide +kernel
def nx_own (own : String) (ic : Nat) : List Cond := Bundle.throwableAtoms ++ Bundle.throwableSAtoms ++ (Bundle.passSAtoms NXC "java/lang/RuntimeException" 13 nx_b ++ Bundle.chainSAtoms "java/lang/RuntimeException" ["java/lang/Exception"]) ++
  [.methodLink own ic (Bundle.initS NXC), .instantiable NXC 6, .castable NXC NXC, .selects NXC Bundle.tFill0 Bundle.tFill0, .selects NXC Bundle.tFill Bundle.tFill, .lays NXC Bundle.tN "cause" "Ljava/lang/Throwable;", .lays NXC Bundle.tN "stackTrace" Bundle.steD, .lays NXC Bundle.tN "suppressedExceptions" Bundle.listD, .lays NXC Bundle.tN "detailMessage" "Ljava/lang/String;", .isRef (.static Bundle.tN "UNASSIGNED_STACK" Bundle.steD), .isRef (.static Bundle.tN "SUPPRESSED_SENTINEL" Bundle.listD), .fieldLink Bundle.tN 198 Bundle.tN "backtrace" "Ljava/lang/Object;", .lays Bundle.tN Bundle.tN "backtrace" "Ljava/lang/Object;", .lays NXC Bundle.tN "backtrace" "Ljava/lang/Object;"]
def nx_at (own : String) (ic : Nat) : List Cond := (nx_own own ic).filter vx_no
theorem nx_chain {args : Array Value} {s : State} {pl : Platform} (hpl : pl.magicAccessors = ({} : Platform).magicAccessors) {top : MethodId} (htop : s.methodNamed? (Bundle.initS Bundle.tN) = some top)
    (h : ∀ c ∈ Bundle.passSAtoms NXC "java/lang/RuntimeException" 13 nx_b ++ Bundle.chainSAtoms "java/lang/RuntimeException" ["java/lang/Exception"], c.before args s = true) :
    ∃ (P1 : PassC) (Ps : List PassC), Ps.length = 2 ∧ P1.LinksS pl s ∧ (∀ P, P ∈ Ps → P.LinksS pl s) ∧ s.methodNamed? (Bundle.initS NXC) = some P1.m ∧ P1.sup = firstOf top (Ps.map (·.toPassT)) ∧ PassesOn top (Ps.map (·.toPassT)) := by
  obtain ⟨P, L, hm, hs⟩ := PassC.ofS_atoms (args := args) (s := s) hpl (X := NXC) (Y := "java/lang/RuntimeException") (by decide +kernel) (by decide +kernel) nx_0 nx_1 nx_2 nx_5 (fun c hc => h c (List.mem_append.mpr (Or.inl hc)))
  obtain ⟨P', Ps, hlen, L', hL, hm', hsup, hpass⟩ := Bundle.chainS (args := args) hpl htop ["java/lang/Exception"] "java/lang/RuntimeException" (by decide +kernel) (by decide +kernel) (fun c hc => h c (List.mem_append.mpr (Or.inr hc)))
  refine ⟨P, P' :: Ps, by rw [List.length_cons, hlen]; rfl, L, ?_, hm, Option.some.inj (hs.symm.trans hm'), hsup, hpass⟩
  intro Q hQ
  rcases List.mem_cons.mp hQ with rfl | hQ
  · exact L'
  · exact hL Q hQ
section NX1
variable {p : Program} {l : Launch} {e : Env} {R : Room} {s : State} {m₀ : MethodId} {args : Array Value} {below : List Frame} {meth : Method} {c : Code} {W : State} {locs : List Loc} {cells slots : Nat}
set_option maxHeartbeats 1000000 in
theorem nx_ctorMade (X : Stand p l e R s m₀ args below meth c W locs cells slots) (hexec : p.tables.exec = Jvm.exec) (htr : e.platform.stackTraces = false) {own : String} {ic : Nat}
    (hown : s.vm.findClass own = some m₀.cls)
    (h : ∀ a ∈ nx_own own ic, a.before args s = true)
    (hlocs : ∀ x ∈ locs, ∀ cell, s.heap[x.base]? = some cell → cell.vm.isStatics = false)
    {a : Addr} {cX : ClassId} {kX : Class} (hfoundX : s.vm.findClass NXC = some cX) (hkX : s.vm.classes[cX]? = some kX) (hcell : W.heap[a]? = some (freshCell cX kX)) (hnew : s.heap.size ≤ a)
    {msg : Value} (hmsg : msg.isRef = true)
    {g : JFrame} (hg : g.method = m₀) (hsize : g.locals.size = c.maxLocals) {rest : List Value} (hstack : g.stack = msg :: .ref a :: .ref a :: rest)
    (hd6 : decode c.code g.pc = .ok (.invokespecial ic, 3))
    (hRframes : 2 + 3 < R.frames) (hRlocals : 2 * g.monitorRoom + ((Value.ref a :: rest).map fun v => v.category).sum + (13 * (2 + 1) + 42) ≤ R.locals) :
    ∃ (V : State) (ce : Cell) (L : List Loc), Stand p l e R s m₀ args below meth c (V.setCell a ce) (locs ++ L) cells slots ∧ (∀ y ∈ L, y.base = a) ∧ a < V.heap.size ∧ ce.cls = cX ∧ ce.vm = .none ∧
      ∀ target, Steps p.tables e below ((V.setCell a ce).setTop { g with stack := .ref a :: rest, pc := g.pc + 3 }) target → Steps p.tables e below (W.setTop g) target := by
  have howns : e.platform.frameOwnsMonitors = true := by rw [X.admits.platform]
  have hfin : e.platform.finalization = false := by rw [X.admits.platform]
  have hpl : e.platform.magicAccessors = ({} : Platform).magicAccessors := by rw [X.admits.platform]
  have a' : ∀ x, x ∈ nx_own own ic → x.holds args s none s [] = true := fun x hx => h x hx
  obtain ⟨T, Z0, L, -, Y⟩ := ThrowableC.of_atoms (args := args) howns hfin hpl (fun x hx => h x (by simp [nx_own, hx]))
  obtain ⟨Z, M, LZ, LM, hnZ⟩ := Init0T.ofS_atoms (args := args) hpl L Y (fun x hx => h x (by simp [nx_own, hx]))
  obtain ⟨P1, Ps, hlen, L1, hL, hP1m, hlink1, hlink⟩ := nx_chain (args := args) hpl hnZ (fun x hx => h x (by unfold nx_own; exact List.mem_append.mpr (Or.inl (List.mem_append.mpr (Or.inr hx)))))
  have hfound : s.vm.findClass NXC = some P1.m.cls := findClass_of_methodNamed hP1m
  cases Option.some.inj (hfoundX.symm.trans hfound)
  obtain ⟨c1, kX', hc1, hk, hord, -, -, hn6⟩ := Cond.instantiable_spec (a' (.instantiable NXC 6) (by simp [nx_own]))
  cases Option.some.inj (hc1.symm.trans hfound)
  cases Option.some.inj (hkX.symm.trans hk)
  have hsel0 : selectMethod e.platform s.vm P1.m.cls T.fill0 = .method T.fill0 := by
    obtain ⟨c2, r2, m2, q1, q2, q3, q4, -⟩ := Cond.selects_spec (a' (.selects NXC Bundle.tFill0 Bundle.tFill0) (by simp [nx_own]))
    cases Option.some.inj (q1.symm.trans hfound)
    cases Option.some.inj (q2.symm.trans (State.methodFound?_of_named Y.fill0 (by decide)))
    cases Option.some.inj (q3.symm.trans Y.fill0)
    rw [Launch.admits_selectMethod X.admits]; exact q4
  have hselF : selectMethod e.platform s.vm P1.m.cls T.fill = .method T.fill := by
    obtain ⟨c2, r2, m2, q1, q2, q3, q4, -⟩ := Cond.selects_spec (a' (.selects NXC Bundle.tFill Bundle.tFill) (by simp [nx_own]))
    cases Option.some.inj (q1.symm.trans hfound)
    cases Option.some.inj (q2.symm.trans (State.methodFound?_of_named Y.fill (by decide)))
    cases Option.some.inj (q3.symm.trans Y.fill)
    rw [Launch.admits_selectMethod X.admits]; exact q4
  obtain ⟨cellS0, hcS0, hiss⟩ := Y.statics
  obtain ⟨u0, hu0⟩ := Cond.staticRefV Y.unassigned L.unassignedStatic L.statics hcS0 hiss (a' (.isRef (.static Bundle.tN "UNASSIGNED_STACK" Bundle.steD)) (by simp [nx_own]))
  obtain ⟨sen, hsen⟩ := Cond.staticRefV Y.sentinel L.sentinelStatic L.statics hcS0 hiss (a' (.isRef (.static Bundle.tN "SUPPRESSED_SENTINEL" Bundle.listD)) (by simp [nx_own]))
  obtain ⟨ci198, i198, fB, hk198, hg198, ha198, hsB, -, hnB, htB, hffB⟩ := Cond.ownField (t := .object "java/lang/Object") Y.found L.cls (by decide +kernel) (a' (.fieldLink Bundle.tN 198 Bundle.tN "backtrace" "Ljava/lang/Object;") (by simp [nx_own])) (a' (.lays Bundle.tN Bundle.tN "backtrace" "Ljava/lang/Object;") (by simp [nx_own])) e.platform hpl
  obtain ⟨cellS, hcS', heS, -, hkeep⟩ := X.same.2.2.2.2.2 T.aS cellS0 hcS0
  have hcellS : W.heap[T.aS]? = some cellS := hcS'
  have hout' : ∀ i, (⟨T.aS, i⟩ : Loc) ∉ locs := fun i hmem => by
    have := hlocs _ hmem cellS0 hcS0
    rw [hiss] at this; cases this
  have hknownS : cellS.vm ≠ .unknown := by
    rw [heS]; intro hu
    rw [show cellS0.vm = .unknown from hu] at hiss
    cases hiss
  have hneS : T.aS ≠ a := Nat.ne_of_lt (Nat.lt_of_lt_of_le (Array.getElem?_eq_some_iff.mp hcS0).1 hnew)
  obtain ⟨iM, hffM⟩ := Y.msg
  obtain ⟨tyC, dC, hdC, hdnC⟩ := Cond.laysAt hfound hk Y.cause (a' (.lays NXC Bundle.tN "cause" "Ljava/lang/Throwable;") (by simp [nx_own]))
  obtain ⟨tyS, dS, hdS, hdnS⟩ := Cond.laysAt hfound hk Y.stack (a' (.lays NXC Bundle.tN "stackTrace" Bundle.steD) (by simp [nx_own]))
  obtain ⟨tyP, dP, hdP, hdnP⟩ := Cond.laysAt hfound hk Y.supp (a' (.lays NXC Bundle.tN "suppressedExceptions" Bundle.listD) (by simp [nx_own]))
  obtain ⟨tyM, dM, hdM, hdnM⟩ := Cond.laysAt hfound hk hffM (a' (.lays NXC Bundle.tN "detailMessage" "Ljava/lang/String;") (by simp [nx_own]))
  obtain ⟨tyB, dB, hdB, hdnB⟩ := Cond.laysAt hfound hk hffB (a' (.lays NXC Bundle.tN "backtrace" "Ljava/lang/Object;") (by simp [nx_own]))
  have bC := Cond.laysApart hdB hdC hdnB hdnC (by rw [hnB, Y.causeName]; decide)
  have bS := Cond.laysApart hdB hdS hdnB hdnS (by rw [hnB, Y.stackName]; decide)
  have bP := Cond.laysApart hdB hdP hdnB hdnP (by rw [hnB, Y.suppName]; decide)
  have hskip : SkipFacts T e.platform s (fun u => u) u0 ((preparedCellV T.toThrowableT (freshCell P1.m.cls kX) a u0 sen).withEntry W.cur) :=
    ⟨{ ci198 := ci198, i198 := i198, fBack := fB }, ⟨hk198, hg198, ha198, hsB⟩, by
      have := fresh_default (c := P1.m.cls) tyB
      rw [htB] at this
      simpa [preparedCellV, Cell.setSlot, Cell.withEntry, Array.getElem?_setIfInBounds, bC, bS, bP, bC.symm, bS.symm, bP.symm, defaultValue] using this, fun _ _ => rfl⟩
  obtain ⟨tm, methC, cdC, kC, vm₁, hnC, -, -, -, -, -, -, -, hW₁, st1⟩ := Steps.initColdS (tb := p.tables) (e := e) (below := below) (s := s) (U := W) X.here hexec X.warmed hpl hown (t := Bundle.initS NXC) rfl rfl (Bundle.fit_spec nx_fit).2
    (a' (.methodLink own ic (Bundle.initS NXC)) (by simp [nx_own])) (h (.instanceMethod (Bundle.initS NXC)) (by simp [nx_own, Bundle.passSAtoms])) (bytes := nx_b) (maxL := 2) (h (.code (Bundle.initS NXC) nx_b 2 none) (by simp [nx_own, Bundle.passSAtoms]))
    (f := g) hg (a := a) (msg := msg) (rest := .ref a :: rest) hstack hd6
  cases Option.some.inj (hnC.symm.trans hP1m)
  have X₁ := X.noted hW₁
  obtain ⟨vm₂, X₂, st2⟩ := X₁.ctorMessageOffV hexec (g := { g with stack := .ref a :: rest }) hg hsize T L Z LZ M LM (P1 :: Ps)
    (fun P hP => by rcases List.mem_cons.mp hP with rfl | hP; exact L1; exact hL P hP) ⟨hlink1, hlink⟩ (u0 := u0) (sen := sen) (self := a) hmsg (cell := freshCell P1.m.cls kX) (cellS := cellS)
    hcell (fun _ => by simp) (by simp) rfl rfl hsel0 hselF hcellS hneS hknownS (by rw [hkeep _ (hout' _)]; exact hu0) (by rw [hkeep _ (hout' _)]; exact hsen)
    (Takes.of_laid hk hord tyC (by rw [Y.causeType]; rfl)) (Takes.of_laid hk hord tyS (by rw [Y.stackType]; exact fits_refV_array _ u0)) (Takes.of_laid hk hord tyP (by rw [Y.suppType]; exact fits_refV_object _ sen))
    (Takes.of_laid hk hord tyM (by rw [Y.msgType]; exact fits_refV_object _ ⟨msg, hmsg⟩)) Y.objLocals hskip htr [] hd6
    (by simp only [List.length_cons, hlen]; omega) (by simp only [List.length_cons, hlen]; exact hRlocals)
  have hlt : a < ((W.setVm vm₁).setVm vm₂).heap.size := (Array.getElem?_eq_some_iff.mp hcell).1
  refine ⟨(W.setVm vm₁).setVm vm₂, _, _, X₂, fun y hy => ?_, hlt, rfl, rfl, fun target hwalk => st1 _ (fun acts => ?_)⟩
  · simp only [List.mem_cons, List.not_mem_nil, or_false] at hy
    rcases hy with rfl | rfl | rfl | rfl | rfl <;> rfl
  · rw [doInvoke_state]
    exact st2 _ hwalk
end NX1
section NX2
variable {p : Program} {l : Launch} {e : Env} {R : Room} {s : State} {m : MethodId} {args : Array Value} {below : List Frame} {meth : Method} {c : Code} {H : Heap} {locs : List Loc} {cells slots : Nat} {Q : State → Prop}
variable {ls : Array Slot} {rest : List Value}
theorem nx_back9 {T S : State} {R' : Room} {k n : Nat} (X : Stand p l e R s m args below meth c T locs cells slots) (Y : Stand p l e R' ((T.setVm s.vm).setFrames (.invoking m args :: below)) m args below meth c T [] 0 0) (Z : Stand p l e R' ((T.setVm s.vm).setFrames (.invoking m args :: below)) m args below meth c S [] k n) :
    Stand p l e R s m args below meth c S locs (cells + k) (slots + n) := by
  have hW0 : s.WarmedH ((T.setVm s.vm).setFrames (.invoking m args :: below)).vm := State.WarmedH.refl s
  refine { admits := X.admits, cas := X.cas, clock := X.clock, frames := X.frames, room := X.room, hears := X.hears, method := X.method, code := X.code, here := Z.here, tail := Z.tail, warmed := State.WarmedH.trans hW0 Z.warmed, limits := Z.limits.trans (Y.limits.symm.trans X.limits), bytes := Z.bytes.trans (Y.bytes.symm.trans X.bytes), same := ?_ }
  obtain ⟨e1, e2⟩ := Z.same
  rw [State.setFrames_setFrames] at e1
  have h2 : (T.setVm s.vm).sameButNew (S.setVm s.vm) [] k n := ⟨e1, e2⟩
  have h3 := X.same.trans h2
  rw [List.append_nil] at h3
  exact h3
theorem nx_make {cc : ByteArray} {pc : Nat} (hexec : p.tables.exec = Jvm.exec) (hb : c.code = cc) (hl : l.stackTraces = false) {own text : String} {ik is ic sa : Nat} {A : Nat → Prop}
    (hown : s.vm.findClass own = some m.cls)
    (hk : (Cond.classLink own ik NXC).before args s = true) (hini : (Cond.initialized NXC).before args s = true) (hstr : vk_R own is text sa s) (hat : ∀ w ∈ nx_at own ic, w.before args s = true)
    (hgood : ∀ w ∈ Cond.classLink own ik NXC :: Cond.initialized NXC :: nx_at own ic, vx_ot w = true)
    (hU : vx_Zq Bundle.tN "UNASSIGNED_STACK" Bundle.steD A s s.heap) (hN : vx_Zq Bundle.tN "SUPPRESSED_SENTINEL" Bundle.listD A s s.heap) (hS : va_S A s.heap H locs) (hsize : ls.size = c.maxLocals)
    (d0 : decode cc pc = .ok (.new ik, 3)) (d3 : decode cc (pc + 3) = .ok (.dup, 1)) (d4 : decode cc (pc + 4) = .ok (.ldc is, 2)) (d6 : decode cc (pc + 6) = .ok (.invokespecial ic, 3))
    (hRframes : 2 + 3 < R.frames) (hRlocals : (rest.map fun v => v.category).sum + (13 * (2 + 1) + 43) ≤ R.locals) (hRcells : cells + 1 ≤ R.cells) (hRslots : slots + 6 ≤ R.slots)
    (kk : ∀ (q : Nat) (H1 : Heap) (ce : Cell), H1[q]? = some ce → ce.vm = .none → s.vm.findClass NXC = some ce.cls → H.size ≤ H1.size → (∀ a : Nat, a < H.size → H1[a]? = H[a]?) → W p l e R s m args below meth c H1 locs (cells + 1) (slots + 6) Q (F0 m (pc + 9) ls (.ref q :: rest))) :
    W p l e R s m args below meth c H locs cells slots Q (F0 m pc ls rest) := by
  intro T hT X
  subst hT
  have htr : e.platform.stackTraces = false := (show e.platform.stackTraces = l.stackTraces by rw [X.admits.platform]).trans hl
  have Y := vx_rebase X (R' := { frames := R.frames, locals := R.locals, cells := 1, slots := 6 }) (Nat.le_refl _) (Nat.le_refl _) hRcells hRslots
  obtain ⟨s', hA'⟩ : ∃ z, z = (T.setVm s.vm).setFrames (.invoking m args :: below) := ⟨_, rfl⟩
  rw [← hA'] at Y
  have hvm : s'.vm = s.vm := by rw [hA']; rfl
  have hhp : s'.heap = T.heap := by rw [hA']; rfl
  have hW0 : s.WarmedH s'.vm := by rw [hvm]; exact State.WarmedH.refl s
  have hat' : ∀ w ∈ nx_at own ic, w.before args s' = true := fun w hw => vx_ot_at hW0 hvm.symm (hgood w (List.mem_cons_of_mem _ (List.mem_cons_of_mem _ hw))) (hat w hw)
  have hk' : (Cond.classLink own ik NXC).before args s' = true := vx_ot_at hW0 hvm.symm (hgood _ List.mem_cons_self) hk
  have hini' : (Cond.initialized NXC).before args s' = true := vx_ot_at hW0 hvm.symm (hgood _ (List.mem_cons_of_mem _ List.mem_cons_self)) hini
  have hU' : vx_Zq Bundle.tN "UNASSIGNED_STACK" Bundle.steD A s' s'.heap := by rw [hhp]; exact vx_Zq.moved hW0.alike (hU.kept hS.2.1)
  have hN' : vx_Zq Bundle.tN "SUPPRESSED_SENTINEL" Bundle.listD A s' s'.heap := by rw [hhp]; exact vx_Zq.moved hW0.alike (hN.kept hS.2.1)
  have h : ∀ w ∈ nx_own own ic, w.before args s' = true := vx_own hat' (vx_isRefq hU'.1) (vx_isRefq hN'.1) hU'.2.word hN'.2.word
  have hown' : s'.vm.findClass own = some m.cls := by rw [hvm]; exact hown
  have hins : (Cond.instantiable NXC 6).before args s' = true := h _ (by simp [nx_own])
  obtain ⟨vm₁, cX, kX, hfX, hkX, -, -, X₁, st1⟩ := Y.newCold hexec (own := own) (C := NXC) (index := ik) (n := 6) hown' hk' hins hini'
    (g := F0 m pc ls rest) rfl (by rw [hb]; exact d0) (Nat.le_refl _) (Nat.le_refl _)
  generalize hT1 : (T.setVm vm₁).pushCell { cls := cX, slots := kX.instanceTypes.map defaultValue, vm := .none } = T1 at X₁ st1
  have hcat : (Value.ref T.heap.size).category = 1 := rfl
  have hcellA : T1.heap[T.heap.size]? = some (freshCell cX kX) := by rw [← hT1]; exact State.heap_pushCell_size _ _
  have d3' : decode c.code (pc + 3) = .ok (.dup, 1) := by rw [hb]; exact d3
  have d4' : decode c.code (pc + 4) = .ok (.ldc is, 2) := by rw [hb]; exact d4
  have hstr' : vk_R own is text sa s' := vk_R.warm hW0 hstr
  obtain ⟨V, ce, L, Z, hL, hlt, hcl9, hvm9, st⟩ := nx_ctorMade X₁ hexec htr (own := own) (ic := ic) hown' h (fun x hx => nomatch hx) hfX hkX hcellA (by rw [hhp]; exact Nat.le_refl _) (msg := .ref sa) rfl
    (g := { method := m, pc := pc + 6, locals := ls, stack := .ref sa :: .ref T.heap.size :: .ref T.heap.size :: rest, locked := none }) rfl hsize (rest := rest) rfl
    (by rw [hb]; exact d6) hRframes (by simp only [List.map_cons, List.sum_cons, hcat]; omega)
  have Z0 := Stand.forget (locs := []) Z (fun y hy => by rw [hL y hy, hhp]; exact Nat.le_refl _)
  obtain ⟨f1, f2⟩ := vx_frame Z0.same
  rw [hhp] at f1 f2
  have hcid : s.vm.findClass NXC = some ce.cls := by
    rw [hcl9]
    rw [hvm] at hfX
    exact hfX
  have hh : (V.setCell T.heap.size ce).heap[T.heap.size]? = some ce := heapAt_setCell_self (s := V) ce hlt
  subst hA'
  have X5 := nx_back9 X Y Z0
  have X6 : Stand p l e R s m args below meth c (V.setCell T.heap.size ce) locs (cells + 1) (slots + 6) := { X5 with same := X5.same.mono (by omega) (by omega) }
  obtain ⟨t, a1, b1⟩ := kk T.heap.size (V.setCell T.heap.size ce).heap ce hh hvm9 hcid f1 (fun a h => f2 a h (fun z hz => nomatch hz)) _ rfl X6
  refine ⟨t, st1 _ ?_, b1⟩
  show Steps p.tables e below (T1.setTop { method := m, pc := pc + 3, locals := ls, stack := .ref T.heap.size :: rest, locked := none }) _
  jvm_step X₁.here [X₁.here.top, hexec, d3', Value.category]
  exact X₁.ldcString hexec (own := own) (text := text) (index := is) (a := sa) hown' hstr'.1 hstr'.2
    (g := { method := m, pc := pc + 4, locals := ls, stack := .ref T.heap.size :: .ref T.heap.size :: rest, locked := none }) rfl d4' _ (st _ a1)
theorem nx_athrow {cc : ByteArray} {pc : Nat} (hexec : p.tables.exec = Jvm.exec) (hb : c.code = cc) {q : Addr} (hdg : decode cc pc = .ok (.athrow, 1)) (k : vx_W p l e R s m args below meth c H locs cells slots Q (F0 m pc ls rest) q) : W p l e R s m args below meth c H locs cells slots Q (F0 m pc ls (.ref q :: rest)) := by
  intro T hT X
  obtain ⟨t, st, hq⟩ := k T hT X
  refine ⟨t, ?_, hq⟩
  have hdg' : decode c.code pc = .ok (.athrow, 1) := by rw [hb]; exact hdg
  jvm_step X.here [X.here.top, hexec, hdg', athrow.wp_sem]
  exact st
end NX2

def NMS : List String := ["java/lang/RuntimeException", "java/lang/Exception"]
/-- the words of both throws that aren't good ones -/
def BX : List Cond := (vx_atS RX11 139 "java/lang/IndexOutOfBoundsException" NMS).filter (fun w => !goodWord w) ++ (nx_at RX11 167).filter (fun w => !goodWord w)
def isCD : Cond → Bool := fun w => match w with
  | .castable _ _ => true
  | .declares _ => true
  | _ => false
theorem bx_cd : ∀ w ∈ BX, isCD w = true := by decide +kernel
theorem cd_warm {w : Cond} {s U : State} (hW : s.WarmedH U.vm) (hc : isCD w = true) (h : va_Nw w s) : va_Nw w U := by
  cases w <;> first
    | exact va_Nw.warmC hW h
    | exact va_tabs rfl (rfl : (s.setVm U.vm).vm = U.vm) (by rw [Cond.declares_setVm hW.alike]; exact h)
    | exact absurd hc (by simp [isCD])
/-- what a throw needs of the JDK's own cells -/
def EX : Nat → State → Prop := fun base U => vx_Zq Bundle.tN "UNASSIGNED_STACK" Bundle.steD (fun q => base ≤ q) U U.heap ∧ vx_Zq Bundle.tN "SUPPRESSED_SENTINEL" Bundle.listD (fun q => base ≤ q) U U.heap ∧ (∀ w ∈ BX, va_Nw w U) ∧ va_Nc "java/util/NoSuchElementException" "java/lang/IndexOutOfBoundsException" U
theorem ex_move {base : Nat} {s U : State} {H : Heap} {locs : List Loc} (h : EX base s) (hW : s.WarmedH U.vm) (hU : U.heap = H) (hS : va_S (fun q => base ≤ q) s.heap H locs) : EX base U := by
  obtain ⟨h1, h2, h3, h4⟩ := h
  subst hU
  exact ⟨(h1.moved hW.alike).kept hS.2.1, (h2.moved hW.alike).kept hS.2.1, fun w hw => cd_warm hW (bx_cd w hw) (h3 w hw), h4.moved hW.alike⟩
theorem ex_bf : EBf EX := fun base U g mk a ⟨h1, h2, h3, h4⟩ => ⟨h1.moved (Vm.Alike.refl U.vm), h2.moved (Vm.Alike.refl U.vm), fun w hw => cd_warm (s := U) (U := U.calling g mk a) (State.WarmedH.refl U) (bx_cd w hw) (h3 w hw), h4.moved (Vm.Alike.refl U.vm)⟩
def XCm (cy : Nat → ClassId) (D : va_G) (base : Nat) (I : SI) (J : SJ) (R : SR) (n : Nat) (PX : String → Prop) : String → State → State → Prop := fun E st t => PX E ∧ (∃ g : Nat, va_P D vwCl (wl cy base I J R n) t.heap ∧ t.heap.size = base + n + g) ∧ va_F (fun q => base ≤ q) st t
/-- a method's contract, where it may throw -/
def MX (d : Nat) (M : Mt) (as : List Value) (I : SI) (J : SJ) (R : SR) (n g : Nat) (P : PT) (PX : String → Prop) : Prop :=
  ∀ (l : Launch), l.stackTraces = false → ∀ (cy : Nat → ClassId) (D : va_G) (base : Nat), vx_Met l M.1 (wsM M) (rmd d 1 6) (va_Pc (as.map (rv base)) (PBE cy D base I J R n g EX)) (QM cy D base P) (XCm cy D base I J R n PX) 1 6 (fun q => base ≤ q)
def FnX (K : KT) (M : Mt) (P : PT) (PX : String → Prop) (I : SI) (J : SJ) (R : SR) (n : Nat) : Prop := match K with
  | (p, l, e, Rm, s, m, args, below, meth, c, Q, cy, D, base, nL) => Rm.cells = 1 ∧ Rm.slots = 6 ∧ Q = vx_MQ below (QM cy D base P) (XCm cy D base I J R n PX) args s 1 6 (fun q => base ≤ q) ∧ meth.sig.returnType = M.2.2.2 ∧ meth.locks = false ∧ (∀ x ∈ c.exceptionTable.toList, False) ∧ l.stackTraces = false ∧ EX base s
theorem MX.of {d : Nat} {M : Mt} {as : List Value} {I : SI} {J : SJ} {R : SR} {n g : Nat} {P : PT} {PX : String → Prop} (hy : plainName M.1.cls = true) (hn : (lg_sl as).length ≤ M.2.2.1)
    (body : ∀ K : KT, OK K M d → FnX K M P PX I J R n → WK K 0 0 0 (lv_args 0 as) [] I J R n g) : MX d M as I J R n g P PX := by
  intro l hl9 cy D base
  refine vx_ofW (cc := M.2.1) (maxL := M.2.2.1) (ret := M.2.2.2) hy rfl ?_
  intro p e s m args below meth c s₁ B hml htab hv
  obtain ⟨rfl, ⟨hP, hz, hK, hN, hXS⟩, hE⟩ := hv
  have hts := atoms_spec (ws := wsM M) B.pre
  have hl := lv_entry (as.map (rv base)) (n := M.2.2.1) (by rw [sl_map]; exact hn)
  rw [lg_entry_eq]
  generalize (lg_sl (as.map (rv base)) ++ List.replicate (M.2.2.1 - (lg_sl (as.map (rv base))).length) Slot.unset).toArray = ls at hl ⊢
  rw [args_map] at hl
  exact body (p, l, e, rmd d 1 6, s, m, _, below, meth, c, _, cy, D, base, M.2.2.1)
    ⟨B.exec, B.bytes, rfl, hml, fun w hw => hts w (List.mem_cons_of_mem _ hw), findClass_of_methodNamed B.named, hK, hN, Nat.le_refl _, Nat.le_refl _, by omega, fun h => (name_of_methodNamed B.named B.method).1.trans h, hXS⟩
    ⟨rfl, rfl, rfl, B.returns, B.notSynchronized, htab, hl9, hE⟩ (Nat.zero_le _) (Nat.zero_le _) s.heap [] ls hP hz va_S.rf hl
theorem x_iret {K : KT} {M : Mt} {d pc pc' : Nat} {ls : List (Nat × Value)} {I I0 : SI} {J J0 : SJ} {R R0 : SR} {n n0 g : Nat} {P : PT} {PX : String → Prop} {x : Int32} (ok : OK K M d) (fin : FnX K M P PX I0 J0 R0 n0) (dc : Dc M pc .ireturn 1 pc') (hr : M.2.2.2 = some .int) (hP0 : P (some (.int x)) I J R n g) : WK K 0 0 pc ls [.int x] I J R n g := by
  obtain ⟨p, l, e, Rm, s, m, args, below, meth, c, Q, cy, D, base, nL⟩ := K
  obtain ⟨hx, hb, hnL, hml, hts, hown, hK, hNW, hfr, hlo, hbs, hini, hXS⟩ := ok
  obtain ⟨hdg, rfl⟩ := dc
  obtain ⟨-, -, rfl, hret, hlocks, -⟩ := fin
  rw [hr] at hret
  intro hc1 hc2 H locs rls hP hz hS hl
  refine vx_ret ?_
  refine W.widen (Nat.zero_le 1) (Nat.zero_le 6) ?_
  exact W.iret hx hb hret (fun t ht hW => ⟨⟨some (.int x), I, J, R, n, g, rfl, hP0, by rw [ht]; exact hP, by rw [ht]; exact hz⟩, hS.F ht⟩) (fun q hq => hS.2.2 q hq) hdg (hlocks := hlocks)
theorem x_throw {K : KT} {M : Mt} {d pc p3 p4 p6 p9 p10 : Nat} {ls : List (Nat × Value)} {I : SI} {J : SJ} {R : SR} {n g : Nat} {P : PT} {PX : String → Prop} {ik is ic i : Nat} {cls text : String} (ok : OK K M d) (fin : FnX K M P PX I J R n) (hM : M.1.cls = RX11) (hcls : Bundle.fit cls = true) (hk : Cond.classLink RX11 ik cls ∈ ALLW) (hin : Cond.initialized cls ∈ ALLW) (hstr : STR[i]? = some (RX11, is, text))
    (hg : ∀ w ∈ (vx_atS RX11 ic cls NMS).filter goodWord, w ∈ ALLW) (hbx : ∀ w ∈ (vx_atS RX11 ic cls NMS).filter (fun w => !goodWord w), w ∈ BX) (hot : ∀ w ∈ Cond.classLink RX11 ik cls :: Cond.initialized cls :: vx_atS RX11 ic cls NMS, vx_ot w = true)
    (d0 : Dc M pc (.new ik) 3 p3) (d3 : Dc M p3 .dup 1 p4) (d4 : Dc M p4 (.ldc is) 2 p6) (d6 : Dc M p6 (.invokespecial ic) 3 p9) (d9 : Dc M p9 .athrow 1 p10) (hd : 5 ≤ d) (hPX : PX cls) : WK K 0 0 pc ls [] I J R n g := by
  obtain ⟨p, l, e, Rm, s, m, args, below, meth, c, Q, cy, D, base, nL⟩ := K
  obtain ⟨hx, hb, hnL, hml, hts, hown, hK, hNW, hfr, hlo, hbs, hini, hXS⟩ := ok
  obtain ⟨d0, rfl⟩ := d0
  obtain ⟨d3, rfl⟩ := d3
  obtain ⟨d4, rfl⟩ := d4
  obtain ⟨d6, rfl⟩ := d6
  obtain ⟨d9, rfl⟩ := d9
  obtain ⟨hRc, hRs, rfl, hret, hlocks, htab, hl9, hE⟩ := fin
  obtain ⟨hU, hN, hB, -⟩ := hE
  intro hc1 hc2 H locs rls hP hz hS hl
  obtain ⟨adK, adV, hS4, hR⟩ := hXS.1
  have hvk := hR i _ hstr
  rw [hM] at hown
  have hh : (d + 1) * 64 ≥ 384 := Nat.mul_le_mul_right 64 (show 6 ≤ d + 1 by omega)
  refine vx_throwS (A := fun q => base ≤ q) (text := text) (names := NMS) (sa := adK i) hx hb hl9 hown hcls (by decide) (hts _ hk) (hts _ hin) hvk ?_ hot hU hN hS (hl.1.trans hml.symm) d0 d3 d4 d6 d9 (fun x hx => (htab x hx).elim) (by show 2 + 3 < _; omega) (by show 0 + (13 * 3 + 43) ≤ _; omega) (by omega) (by omega) hlocks ?_ (fun q hq => hS.2.2 q hq) (Nat.le_refl _) (Nat.le_refl _)
  · exact vx_hat (B := BX) (fun w hw => hts w (hg w hw)) hbx (fun w hw => va_Nw.use (by have := bx_cd w hw; cases w <;> first | rfl | exact absurd this (by simp [isCD])) (hB w hw))
  · intro t hal hsz hold
    refine ⟨hPX, ⟨t.heap.size - base - n, ?_, by omega⟩, ?_⟩
    · exact hP.kept (fun k x hx => hold x.1 (hP k x hx).lt)
    · exact ⟨Nat.le_trans hS.1 hsz, fun q h1 h2 => (hold q (Nat.lt_of_lt_of_le h1 hS.1)).trans (hS.2.1 q h1 h2)⟩
theorem x_throwN {K : KT} {M : Mt} {d pc p3 p4 p6 p9 p10 : Nat} {ls : List (Nat × Value)} {I : SI} {J : SJ} {R : SR} {n g : Nat} {P : PT} {PX : String → Prop} {ik is ic i : Nat} {text : String} (ok : OK K M d) (fin : FnX K M P PX I J R n) (hM : M.1.cls = RX11) (hk : Cond.classLink RX11 ik NXC ∈ ALLW) (hin : Cond.initialized NXC ∈ ALLW) (hstr : STR[i]? = some (RX11, is, text))
    (hg : ∀ w ∈ (nx_at RX11 ic).filter goodWord, w ∈ ALLW) (hbx : ∀ w ∈ (nx_at RX11 ic).filter (fun w => !goodWord w), w ∈ BX) (hot : ∀ w ∈ Cond.classLink RX11 ik NXC :: Cond.initialized NXC :: nx_at RX11 ic, vx_ot w = true)
    (d0 : Dc M pc (.new ik) 3 p3) (d3 : Dc M p3 .dup 1 p4) (d4 : Dc M p4 (.ldc is) 2 p6) (d6 : Dc M p6 (.invokespecial ic) 3 p9) (d9 : Dc M p9 .athrow 1 p10) (hd : 5 ≤ d) (hPX : PX NXC) : WK K 0 0 pc ls [] I J R n g := by
  obtain ⟨p, l, e, Rm, s, m, args, below, meth, c, Q, cy, D, base, nL⟩ := K
  obtain ⟨hx, hb, hnL, hml, hts, hown, hK, hNW, hfr, hlo, hbs, hini, hXS⟩ := ok
  obtain ⟨d0, rfl⟩ := d0
  obtain ⟨d3, rfl⟩ := d3
  obtain ⟨d4, rfl⟩ := d4
  obtain ⟨d6, rfl⟩ := d6
  obtain ⟨d9, rfl⟩ := d9
  obtain ⟨hRc, hRs, rfl, hret, hlocks, htab, hl9, hE⟩ := fin
  obtain ⟨hU, hN, hB, -⟩ := hE
  intro hc1 hc2 H locs rls hP hz hS hl
  obtain ⟨adK, adV, hS4, hR⟩ := hXS.1
  have hvk := hR i _ hstr
  rw [hM] at hown
  have hh : (d + 1) * 64 ≥ 384 := Nat.mul_le_mul_right 64 (show 6 ≤ d + 1 by omega)
  refine nx_make (A := fun q => base ≤ q) (text := text) (sa := adK i) hx hb hl9 hown (hts _ hk) (hts _ hin) hvk ?_ hot hU hN hS (hl.1.trans hml.symm) d0 d3 d4 d6 (by show 2 + 3 < _; omega) (by show 0 + (13 * 3 + 43) ≤ _; omega) (by omega) (by omega) ?_
  · exact vx_hat (B := BX) (fun w hw => hts w (hg w hw)) hbx (fun w hw => va_Nw.use (by have := bx_cd w hw; cases w <;> first | rfl | exact absurd this (by simp [isCD])) (hB w hw))
  · intro q H1 ce hce hcv hcl hsz hold
    refine nx_athrow hx hb d9 (vx_out (fun x hx => (htab x hx).elim) hlocks hce hcv hcl (fun t ht _ => ?_) (fun z hz => hS.2.2 z hz) (by omega) (by omega))
    subst ht
    exact ⟨hPX, ⟨t.heap.size - base - n, hP.kept (fun k x hx => hold x.1 (hP k x hx).lt), by omega⟩, ⟨Nat.le_trans hS.1 hsz, fun q h1 h2 => (hold q (Nat.lt_of_lt_of_le h1 hS.1)).trans (hS.2.1 q h1 h2)⟩⟩
/-- the tables' words that speak of what is thrown -/
def cdm : List (Option Cond) := [tables_1_1[20]?, tables_1_1[21]?, tables_1_1[22]?, tables_1_1[23]?, tables_1_1[24]?, tables_1_1[32]?, tables_1_1[33]?, tables_1_6[12]?, tables_1_6[13]?, tables_1_6[14]?, tables_1_6[15]?, tables_1_6[16]?, tables_1_6[17]?, tables_1_6[18]?, tables_1_6[19]?, tables_1_6[20]?, tables_1_6[21]?, tables_1_6[22]?, tables_1_6[23]?, tables_1_6[24]?, tables_1_6[25]?, tables_1_6[26]?, tables_1_6[27]?, tables_1_6[28]?, tables_1_6[29]?, tables_1_6[30]?, tables_1_6[31]?, tables_1_6[32]?, tables_1_6[33]?, tables_1_6[34]?, tables_1_6[35]?, tables_1_6[36]?, tables_1_6[37]?, tables_1_6[38]?, tables_1_6[39]?, tables_1_6[40]?, tables_1_6[41]?, tables_1_6[42]?, tables_1_6[43]?, tables_1_6[44]?, tables_1_6[45]?, tables_1_6[46]?, tables_1_6[47]?, tables_1_6[48]?, tables_1_6[49]?, tables_1_6[50]?, tables_1_6[52]?, tables_1_6[53]?, tables_1_6[54]?, tables_1_6[55]?, tables_1_6[56]?, tables_1_6[57]?, tables_1_6[58]?, tables_1_6[59]?, tables_1_6[60]?, tables_1_6[61]?, tables_1_6[62]?, tables_1_6[63]?, tables_1_6[64]?, tables_1_6[65]?, tables_1_6[66]?, tables_1_6[67]?, tables_1_6[68]?, tables_1_6[69]?, tables_1_6[70]?, tables_1_6[71]?, tables_1_6[72]?, tables_1_6[73]?, tables_1_6[74]?, tables_1_6[75]?, tables_1_6[76]?, tables_1_6[79]?, tables_1_6[80]?, tables_1_6[81]?, tables_1_6[82]?, tables_1_6[83]?, tables_1_6[84]?, tables_1_6[85]?, tables_1_6[86]?, tables_1_6[88]?, tables_1_6[89]?, tables_1_6[90]?, tables_1_6[91]?, tables_1_6[92]?, tables_1_6[93]?, tables_1_9[82]?, tables_1_9[96]?, tables_1_9[97]?, tables_1_9[98]?]
theorem cdm_in : ∀ o ∈ cdm, ∀ w, o = some w → w ∈ lw_tbl := by
  unfold cdm
  exact List.forall_mem_cons.mpr ⟨fun _ h => mT_1 h, List.forall_mem_cons.mpr ⟨fun _ h => mT_1 h, List.forall_mem_cons.mpr ⟨fun _ h => mT_1 h, List.forall_mem_cons.mpr ⟨fun _ h => mT_1 h, List.forall_mem_cons.mpr ⟨fun _ h => mT_1 h, List.forall_mem_cons.mpr ⟨fun _ h => mT_1 h, List.forall_mem_cons.mpr ⟨fun _ h => mT_1 h, List.forall_mem_cons.mpr ⟨fun _ h => mT_6 h, List.forall_mem_cons.mpr ⟨fun _ h => mT_6 h, List.forall_mem_cons.mpr ⟨fun _ h => mT_6 h, List.forall_mem_cons.mpr ⟨fun _ h => mT_6 h, List.forall_mem_cons.mpr ⟨fun _ h => mT_6 h, List.forall_mem_cons.mpr ⟨fun _ h => mT_6 h, List.forall_mem_cons.mpr ⟨fun _ h => mT_6 h, List.forall_mem_cons.mpr ⟨fun _ h => mT_6 h, List.forall_mem_cons.mpr ⟨fun _ h => mT_6 h, List.forall_mem_cons.mpr ⟨fun _ h => mT_6 h, List.forall_mem_cons.mpr ⟨fun _ h => mT_6 h, List.forall_mem_cons.mpr ⟨fun _ h => mT_6 h, List.forall_mem_cons.mpr ⟨fun _ h => mT_6 h, List.forall_mem_cons.mpr ⟨fun _ h => mT_6 h, List.forall_mem_cons.mpr ⟨fun _ h => mT_6 h, List.forall_mem_cons.mpr ⟨fun _ h => mT_6 h, List.forall_mem_cons.mpr ⟨fun _ h => mT_6 h, List.forall_mem_cons.mpr ⟨fun _ h => mT_6 h, List.forall_mem_cons.mpr ⟨fun _ h => mT_6 h, List.forall_mem_cons.mpr ⟨fun _ h => mT_6 h, List.forall_mem_cons.mpr ⟨fun _ h => mT_6 h, List.forall_mem_cons.mpr ⟨fun _ h => mT_6 h, List.forall_mem_cons.mpr ⟨fun _ h => mT_6 h, List.forall_mem_cons.mpr ⟨fun _ h => mT_6 h, List.forall_mem_cons.mpr ⟨fun _ h => mT_6 h, List.forall_mem_cons.mpr ⟨fun _ h => mT_6 h, List.forall_mem_cons.mpr ⟨fun _ h => mT_6 h, List.forall_mem_cons.mpr ⟨fun _ h => mT_6 h, List.forall_mem_cons.mpr ⟨fun _ h => mT_6 h, List.forall_mem_cons.mpr ⟨fun _ h => mT_6 h, List.forall_mem_cons.mpr ⟨fun _ h => mT_6 h, List.forall_mem_cons.mpr ⟨fun _ h => mT_6 h, List.forall_mem_cons.mpr ⟨fun _ h => mT_6 h, List.forall_mem_cons.mpr ⟨fun _ h => mT_6 h, List.forall_mem_cons.mpr ⟨fun _ h => mT_6 h, List.forall_mem_cons.mpr ⟨fun _ h => mT_6 h, List.forall_mem_cons.mpr ⟨fun _ h => mT_6 h, List.forall_mem_cons.mpr ⟨fun _ h => mT_6 h, List.forall_mem_cons.mpr ⟨fun _ h => mT_6 h, List.forall_mem_cons.mpr ⟨fun _ h => mT_6 h, List.forall_mem_cons.mpr ⟨fun _ h => mT_6 h, List.forall_mem_cons.mpr ⟨fun _ h => mT_6 h, List.forall_mem_cons.mpr ⟨fun _ h => mT_6 h, List.forall_mem_cons.mpr ⟨fun _ h => mT_6 h, List.forall_mem_cons.mpr ⟨fun _ h => mT_6 h, List.forall_mem_cons.mpr ⟨fun _ h => mT_6 h, List.forall_mem_cons.mpr ⟨fun _ h => mT_6 h, List.forall_mem_cons.mpr ⟨fun _ h => mT_6 h, List.forall_mem_cons.mpr ⟨fun _ h => mT_6 h, List.forall_mem_cons.mpr ⟨fun _ h => mT_6 h, List.forall_mem_cons.mpr ⟨fun _ h => mT_6 h, List.forall_mem_cons.mpr ⟨fun _ h => mT_6 h, List.forall_mem_cons.mpr ⟨fun _ h => mT_6 h, List.forall_mem_cons.mpr ⟨fun _ h => mT_6 h, List.forall_mem_cons.mpr ⟨fun _ h => mT_6 h, List.forall_mem_cons.mpr ⟨fun _ h => mT_6 h, List.forall_mem_cons.mpr ⟨fun _ h => mT_6 h, List.forall_mem_cons.mpr ⟨fun _ h => mT_6 h, List.forall_mem_cons.mpr ⟨fun _ h => mT_6 h, List.forall_mem_cons.mpr ⟨fun _ h => mT_6 h, List.forall_mem_cons.mpr ⟨fun _ h => mT_6 h, List.forall_mem_cons.mpr ⟨fun _ h => mT_6 h, List.forall_mem_cons.mpr ⟨fun _ h => mT_6 h, List.forall_mem_cons.mpr ⟨fun _ h => mT_6 h, List.forall_mem_cons.mpr ⟨fun _ h => mT_6 h, List.forall_mem_cons.mpr ⟨fun _ h => mT_6 h, List.forall_mem_cons.mpr ⟨fun _ h => mT_6 h, List.forall_mem_cons.mpr ⟨fun _ h => mT_6 h, List.forall_mem_cons.mpr ⟨fun _ h => mT_6 h, List.forall_mem_cons.mpr ⟨fun _ h => mT_6 h, List.forall_mem_cons.mpr ⟨fun _ h => mT_6 h, List.forall_mem_cons.mpr ⟨fun _ h => mT_6 h, List.forall_mem_cons.mpr ⟨fun _ h => mT_6 h, List.forall_mem_cons.mpr ⟨fun _ h => mT_6 h, List.forall_mem_cons.mpr ⟨fun _ h => mT_6 h, List.forall_mem_cons.mpr ⟨fun _ h => mT_6 h, List.forall_mem_cons.mpr ⟨fun _ h => mT_6 h, List.forall_mem_cons.mpr ⟨fun _ h => mT_6 h, List.forall_mem_cons.mpr ⟨fun _ h => mT_9 h, List.forall_mem_cons.mpr ⟨fun _ h => mT_9 h, List.forall_mem_cons.mpr ⟨fun _ h => mT_9 h, List.forall_mem_cons.mpr ⟨fun _ h => mT_9 h, fun _ h => (nomatch h)⟩⟩⟩⟩⟩⟩⟩⟩⟩⟩⟩⟩⟩⟩⟩⟩⟩⟩⟩⟩⟩⟩⟩⟩⟩⟩⟩⟩⟩⟩⟩⟩⟩⟩⟩⟩⟩⟩⟩⟩⟩⟩⟩⟩⟩⟩⟩⟩⟩⟩⟩⟩⟩⟩⟩⟩⟩⟩⟩⟩⟩⟩⟩⟩⟩⟩⟩⟩⟩⟩⟩⟩⟩⟩⟩⟩⟩⟩⟩⟩⟩⟩⟩⟩⟩⟩⟩⟩⟩
theorem cdm_ok {L : List Cond} (h : (L.filter goodWord).all (fun w => cdm.any (fun o => decide (o = some w))) = true) : ∀ w ∈ L.filter goodWord, w ∈ ALLW := by
  intro w hw
  obtain ⟨o, ho, he⟩ := List.any_eq_true.mp (List.all_eq_true.mp h w hw)
  exact inT (cdm_in o ho w (of_decide_eq_true he)) (List.mem_filter.mp hw).2
def PXm (k : Int32) : String → Prop := fun E => (E = "java/lang/IndexOutOfBoundsException" ∧ k = 1) ∨ (E = "java/util/NoSuchElementException" ∧ k = 2)
theorem hg1 : ∀ w ∈ (vx_atS RX11 139 "java/lang/IndexOutOfBoundsException" NMS).filter goodWord, w ∈ ALLW := cdm_ok (by decide +kernel)
theorem hb1 : ∀ w ∈ (vx_atS RX11 139 "java/lang/IndexOutOfBoundsException" NMS).filter (fun w => !goodWord w), w ∈ BX := fun w hw => List.mem_append.mpr (Or.inl hw)
theorem ho1 : ∀ w ∈ Cond.classLink RX11 135 "java/lang/IndexOutOfBoundsException" :: Cond.initialized "java/lang/IndexOutOfBoundsException" :: vx_atS RX11 139 "java/lang/IndexOutOfBoundsException" NMS, vx_ot w = true := by decide +kernel
theorem hg2 : ∀ w ∈ (nx_at RX11 167).filter goodWord, w ∈ ALLW := cdm_ok (by decide +kernel)
theorem hb2 : ∀ w ∈ (nx_at RX11 167).filter (fun w => !goodWord w), w ∈ BX := fun w hw => List.mem_append.mpr (Or.inr hw)
theorem ho2 : ∀ w ∈ Cond.classLink RX11 163 NXC :: Cond.initialized NXC :: nx_at RX11 167, vx_ot w = true := by decide +kernel
def G_X11_mark (a0 : Int32) (a1 : Int32) (I : SI) (J : SJ) : Int32 := if (F_X7_holds 3 a0 I J) = 0 then 1 else (if a1 = 0 then 0 else (if a1 = 1 then 0 else (if a1 = 2 then 0 else (if a1 = 3 then 0 else (if a1 = 4 then 0 else 2)))))
def F_X11_mark (a0 : Int32) (a1 : Int32) (I : SI) (J : SJ) : Int32 := if (F_X7_holds 3 a0 I J) = 0 then 0 else (if a1 = 0 then atF (I 5) 8 a0 else (if a1 = 1 then atF (I 6) 8 a0 else (if a1 = 2 then atF (I 91) 6 a0 else (if a1 = 3 then atF (I 92) 6 a0 else (if a1 = 4 then F_X5_filmedWith 86 a0 (-1) I J else 0)))))
set_option maxHeartbeats 1000000 in
set_option maxRecDepth 40000 in
theorem m_X11_mark {I : SI} {J : SJ} {R : SR} {n g : Nat} {f : Fr} (ro : RO R) (hnn : nK ≤ n) (hf : f.1 = true) (a0 : Int32) (a1 : Int32)   : MX 5 mX11_mark [.ref 0, .int a0, .int a1] (eI f I) (eJ f J) R n g (fun v I' J' R' n' g' => Pd (some (.int (F_X11_mark a0 a1 I J))) (eI f I) (eJ f J) R n g v I' J' R' n' g' ∧ G_X11_mark a0 a1 I J = 0) (PXm (G_X11_mark a0 a1 I J)) := by
  refine MX.of (by decide) (Nat.le_of_ble_eq_true rfl) fun K ok fin => ?_
  show WK K 0 0 0 [(0, .ref 0), (1, .int a0), (2, .int a1)] [] (eI f I) (eJ f J) R n g
  refine w_aload_n ok dX11_mark_0 0 rfl ?_
  refine w_getR ok dX11_mark_1 (fX11_20 rfl) (congrArg Prod.fst s_0) rfl (r_0_2 ro) (ltK hnn (by decide)) ?_
  refine w_getR ok dX11_mark_4 (fX11_112 rfl) (congrArg Prod.fst s_2) rfl (r_2_0 ro) (ltK hnn (by decide)) ?_
  refine w_iload_n ok dX11_mark_7 1 rfl ?_
  refine w_cV (As := [.int a0]) ok dX11_mark_8 iX7_holds (lX11_131 rfl) (rcv cls7 (congrArg Prod.fst s_3)) (ltK hnn (by decide)) (c_X7_holds ro hnn hf a0 isTb_3) (by decide) rfl (Nat.le_of_ble_eq_true rfl) ?_
  refine w_if_ne (tgt := 24) ok dX11_mark_11 (by decide) (fun c1 => ?_) (fun c1 => ?_)
  · skip
    refine w_iload_n ok dX11_mark_24 2 rfl ?_
    by_cases c2 : a1 = 0
    · skip
      refine w_tabIn (tgt := 60) (off := 35) ok dX11_mark_25 (by rw [c2]; decide) (by rw [c2]; decide) (by rw [c2]; rfl) (by decide) ?_
      refine w_aload_n ok dX11_mark_60 0 rfl ?_
      refine w_getR ok dX11_mark_61 (fX11_20 rfl) (congrArg Prod.fst s_0) rfl (r_0_2 ro) (ltK hnn (by decide)) ?_
      refine w_getR ok dX11_mark_64 (fX11_112 rfl) (congrArg Prod.fst s_2) rfl (r_2_0 ro) (ltK hnn (by decide)) ?_
      refine w_getR ok dX11_mark_67 (fX11_142 rfl) (congrArg Prod.fst s_3) rfl (r_3_3 ro) (ltK hnn (by decide)) ?_
      refine w_iload_n ok dX11_mark_70 1 rfl ?_
      refine w_cS (As := [.ref 5, .int a0]) ok dX11_mark_71 iX11_at (lX11_146 rfl) (c_at s_5 (ltK hnn (by decide)) (sdc hf (by decide)) a0) (by decide) rfl (Nat.le_of_ble_eq_true rfl) ?_
      exact x_iret ok fin dX11_mark_74 rfl ⟨by unfold F_X11_mark; simp only [if_neg c1]; simp only [if_pos c2]; exact Pd.i, by unfold G_X11_mark; simp only [if_neg c1]; simp only [if_pos c2]⟩
    · skip
      by_cases c3 : a1 = 1
      · skip
        refine w_tabIn (tgt := 75) (off := 50) ok dX11_mark_25 (by rw [c3]; decide) (by rw [c3]; decide) (by rw [c3]; rfl) (by decide) ?_
        refine w_aload_n ok dX11_mark_75 0 rfl ?_
        refine w_getR ok dX11_mark_76 (fX11_20 rfl) (congrArg Prod.fst s_0) rfl (r_0_2 ro) (ltK hnn (by decide)) ?_
        refine w_getR ok dX11_mark_79 (fX11_112 rfl) (congrArg Prod.fst s_2) rfl (r_2_0 ro) (ltK hnn (by decide)) ?_
        refine w_getR ok dX11_mark_82 (fX11_150 rfl) (congrArg Prod.fst s_3) rfl (r_3_4 ro) (ltK hnn (by decide)) ?_
        refine w_iload_n ok dX11_mark_85 1 rfl ?_
        refine w_cS (As := [.ref 6, .int a0]) ok dX11_mark_86 iX11_at (lX11_146 rfl) (c_at s_6 (ltK hnn (by decide)) (sdc hf (by decide)) a0) (by decide) rfl (Nat.le_of_ble_eq_true rfl) ?_
        exact x_iret ok fin dX11_mark_89 rfl ⟨by unfold F_X11_mark; simp only [if_neg c1]; simp only [if_neg c2]; simp only [if_pos c3]; exact Pd.i, by unfold G_X11_mark; simp only [if_neg c1]; simp only [if_neg c2]; simp only [if_pos c3]⟩
      · skip
        by_cases c4 : a1 = 2
        · skip
          refine w_tabIn (tgt := 90) (off := 65) ok dX11_mark_25 (by rw [c4]; decide) (by rw [c4]; decide) (by rw [c4]; rfl) (by decide) ?_
          refine w_aload_n ok dX11_mark_90 0 rfl ?_
          refine w_getR ok dX11_mark_91 (fX11_34 rfl) (congrArg Prod.fst s_0) rfl (r_0_4 ro) (ltK hnn (by decide)) ?_
          refine w_getR ok dX11_mark_94 (fX11_153 rfl) (congrArg Prod.fst s_86) rfl (r_86_11 ro) (ltK hnn (by decide)) ?_
          refine w_iload_n ok dX11_mark_97 1 rfl ?_
          refine w_cS (As := [.ref 91, .int a0]) ok dX11_mark_98 iX11_at (lX11_146 rfl) (c_at s_91 (ltK hnn (by decide)) (sdc hf (by decide)) a0) (by decide) rfl (Nat.le_of_ble_eq_true rfl) ?_
          exact x_iret ok fin dX11_mark_101 rfl ⟨by unfold F_X11_mark; simp only [if_neg c1]; simp only [if_neg c2]; simp only [if_neg c3]; simp only [if_pos c4]; exact Pd.i, by unfold G_X11_mark; simp only [if_neg c1]; simp only [if_neg c2]; simp only [if_neg c3]; simp only [if_pos c4]⟩
        · skip
          by_cases c5 : a1 = 3
          · skip
            refine w_tabIn (tgt := 102) (off := 77) ok dX11_mark_25 (by rw [c5]; decide) (by rw [c5]; decide) (by rw [c5]; rfl) (by decide) ?_
            refine w_aload_n ok dX11_mark_102 0 rfl ?_
            refine w_getR ok dX11_mark_103 (fX11_34 rfl) (congrArg Prod.fst s_0) rfl (r_0_4 ro) (ltK hnn (by decide)) ?_
            refine w_getR ok dX11_mark_106 (fX11_156 rfl) (congrArg Prod.fst s_86) rfl (r_86_12 ro) (ltK hnn (by decide)) ?_
            refine w_iload_n ok dX11_mark_109 1 rfl ?_
            refine w_cS (As := [.ref 92, .int a0]) ok dX11_mark_110 iX11_at (lX11_146 rfl) (c_at s_92 (ltK hnn (by decide)) (sdc hf (by decide)) a0) (by decide) rfl (Nat.le_of_ble_eq_true rfl) ?_
            exact x_iret ok fin dX11_mark_113 rfl ⟨by unfold F_X11_mark; simp only [if_neg c1]; simp only [if_neg c2]; simp only [if_neg c3]; simp only [if_neg c4]; simp only [if_pos c5]; exact Pd.i, by unfold G_X11_mark; simp only [if_neg c1]; simp only [if_neg c2]; simp only [if_neg c3]; simp only [if_neg c4]; simp only [if_pos c5]⟩
          · skip
            by_cases c6 : a1 = 4
            · skip
              refine w_tabIn (tgt := 114) (off := 89) ok dX11_mark_25 (by rw [c6]; decide) (by rw [c6]; decide) (by rw [c6]; rfl) (by decide) ?_
              refine w_aload_n ok dX11_mark_114 0 rfl ?_
              refine w_getR ok dX11_mark_115 (fX11_34 rfl) (congrArg Prod.fst s_0) rfl (r_0_4 ro) (ltK hnn (by decide)) ?_
              refine w_iload_n ok dX11_mark_118 1 rfl ?_
              refine w_iconst (v := (-1)) ok dX11_mark_119 (by decide) ?_
              refine w_cV (As := [.int a0, .int (-1)]) ok dX11_mark_120 iX5_filmedWith (lX11_159 rfl) (rcv cls5 (congrArg Prod.fst s_86)) (ltK hnn (by decide)) (c_X5_filmedWith ro hnn hf a0 (-1) isSc_86) (by decide) rfl (Nat.le_of_ble_eq_true rfl) ?_
              exact x_iret ok fin dX11_mark_123 rfl ⟨by unfold F_X11_mark; simp only [if_neg c1]; simp only [if_neg c2]; simp only [if_neg c3]; simp only [if_neg c4]; simp only [if_neg c5]; simp only [if_pos c6]; exact Pd.i, by unfold G_X11_mark; simp only [if_neg c1]; simp only [if_neg c2]; simp only [if_neg c3]; simp only [if_neg c4]; simp only [if_neg c5]; simp only [if_pos c6]⟩
            · skip
              have n7 : a1.toInt ≠ 0 := ne_toInt c2
              have n8 : a1.toInt ≠ 1 := ne_toInt c3
              have n9 : a1.toInt ≠ 2 := ne_toInt c4
              have n10 : a1.toInt ≠ 3 := ne_toInt c5
              have n11 : a1.toInt ≠ 4 := ne_toInt c6
              refine w_tabOut (tgt := 124) ok dX11_mark_25 (by omega) (by decide) ?_
              exact x_throwN (i := 2) ok fin rfl (iT_6 78 (by decide +kernel) (by decide +kernel)) (iT_1 24 (by decide +kernel) (by decide +kernel)) rfl hg2 hb2 ho2 dX11_mark_124 dX11_mark_127 dX11_mark_128 dX11_mark_130 dX11_mark_133 (by decide) (Or.inr ⟨rfl, by unfold G_X11_mark; rw [if_neg c1]; rw [if_neg c2]; rw [if_neg c3]; rw [if_neg c4]; rw [if_neg c5]; rw [if_neg c6]⟩)
  · skip
    exact x_throw (i := 1) ok fin rfl (by decide) (iT_6 11 (by decide +kernel) (by decide +kernel)) (iT_1 23 (by decide +kernel) (by decide +kernel)) rfl hg1 hb1 ho1 dX11_mark_14 dX11_mark_17 dX11_mark_18 dX11_mark_20 dX11_mark_23 (by decide) (Or.inl ⟨rfl, by unfold G_X11_mark; rw [if_pos c1]⟩)
abbrev mL_mark : Mt := (yL_mark, cL_mark, 5, some .int)
def hhL : List (Nat × Nat × Nat × Nat) := [(0, 10, 13, 13), (0, 10, 17, 15)]
def wsLm : List Cond := Cond.codeWith yL_mark cL_mark 5 (some .int) hhL :: ALLW
theorem dL_mark_0 : Dc mL_mark 0 (.aload_n 3) 1 1 := ⟨by decide +kernel, rfl⟩
theorem dL_mark_1 : Dc mL_mark 1 (.iconst 0) 1 2 := ⟨by decide +kernel, rfl⟩
theorem dL_mark_2 : Dc mL_mark 2 (.aload_n 0) 1 3 := ⟨by decide +kernel, rfl⟩
theorem dL_mark_3 : Dc mL_mark 3 (.iload_n 1) 1 4 := ⟨by decide +kernel, rfl⟩
theorem dL_mark_4 : Dc mL_mark 4 (.iload_n 2) 1 5 := ⟨by decide +kernel, rfl⟩
theorem dL_mark_5 : Dc mL_mark 5 (.invokevirtual 7) 3 8 := ⟨by decide +kernel, rfl⟩
theorem dL_mark_8 : Dc mL_mark 8 (.i2l) 1 9 := ⟨by decide +kernel, rfl⟩
theorem dL_mark_9 : Dc mL_mark 9 (.lastore) 1 10 := ⟨by decide +kernel, rfl⟩
theorem dL_mark_10 : Dc mL_mark 10 (.goto 11) 3 13 := ⟨by decide +kernel, rfl⟩
theorem dL_mark_13 : Dc mL_mark 13 (.astore 4) 2 15 := ⟨by decide +kernel, rfl⟩
theorem dL_mark_15 : Dc mL_mark 15 (.iconst 1) 1 16 := ⟨by decide +kernel, rfl⟩
theorem dL_mark_16 : Dc mL_mark 16 (.ireturn) 1 17 := ⟨by decide +kernel, rfl⟩
theorem dL_mark_17 : Dc mL_mark 17 (.astore 4) 2 19 := ⟨by decide +kernel, rfl⟩
theorem dL_mark_19 : Dc mL_mark 19 (.iconst 2) 1 20 := ⟨by decide +kernel, rfl⟩
theorem dL_mark_20 : Dc mL_mark 20 (.ireturn) 1 21 := ⟨by decide +kernel, rfl⟩
theorem dL_mark_21 : Dc mL_mark 21 (.iconst 0) 1 22 := ⟨by decide +kernel, rfl⟩
theorem dL_mark_22 : Dc mL_mark 22 (.ireturn) 1 23 := ⟨by decide +kernel, rfl⟩
theorem bx_io : Cond.castable "java/lang/IndexOutOfBoundsException" "java/lang/IndexOutOfBoundsException" ∈ BX := by decide +kernel
theorem bx_ns : Cond.castable "java/util/NoSuchElementException" "java/util/NoSuchElementException" ∈ BX := by decide +kernel
def Kt : KT → Prop := fun K => match K with
  | (p, l, e, Rm, s, m, args, below, meth, c, Q, cy, D, base, nL) => l.stackTraces = false ∧ c.exceptionTable.toList = tableOf hhL
/-- E is thrown over the method's frame -/
def WX (K : KT) (cl sl pc : Nat) (ls : List (Nat × Value)) (I : SI) (J : SJ) (R : SR) (n g : Nat) (E : String) : Prop := match K with
  | (p, l, e, Rm, s, m, args, below, meth, c, Q, cy, D, base, nL) => cl ≤ Rm.cells → sl ≤ Rm.slots → ∀ (H : Heap) (locs : List Loc) (rls : Array Slot) (q : Addr) (ce : Cell) (rest : List Value), va_P D vwCl (wl cy base I J R n) H → H.size = base + n + g → va_S (fun q => base ≤ q) s.heap H locs → lv_has rls nL (ls.map (rp base)) → H[q]? = some ce → ce.vm = .none → s.vm.findClass E = some ce.cls → vx_W p l e Rm s m args below meth c H locs cl sl Q (F0 m pc rls rest) q
theorem wx_go {p : Program} {l : Launch} {e : Env} {Rm : Room} {s : State} {m : MethodId} {args a : Array Value} {below : List Frame} {meth : Method} {c : Code} {H : Heap} {locs : List Loc} {cells slots mc ms : Nat} {Q : State → Prop} {pc base : Nat} {rls : Array Slot} {st0 rest : List Value} {cy : Nat → ClassId} {D : va_G} {P : PT} {PX : String → Prop} {I0 : SI} {J0 : SJ} {R0 : SR} {n0 : Nat}
    (hr : vx_Run p l e Rm s m args below meth c H locs cells slots mc ms (F0 m pc rls st0) rest (QM cy D base P a) (XCm cy D base I0 J0 R0 n0 PX) (fun q => base ≤ q)) (hS : va_S (fun q => base ≤ q) s.heap H locs)
    (kk : ∀ (v : Option Value) (I : SI) (J : SJ) (R : SR) (n g : Nat) (H1 : Heap) (locs1 : List Loc), P v I J R n g → va_P D vwCl (wl cy base I J R n) H1 → H1.size = base + n + g → va_S (fun q => base ≤ q) s.heap H1 locs1 → W p l e Rm s m args below meth c H1 locs1 (cells + mc) (slots + ms) Q (F0 m (pc + 3) rls ((v.map (rv base)).toList ++ rest)))
    (kx : ∀ (E : String) (g : Nat) (H1 : Heap) (locs1 : List Loc) (q : Addr) (ce : Cell), PX E → va_P D vwCl (wl cy base I0 J0 R0 n0) H1 → H1.size = base + n0 + g → va_S (fun q => base ≤ q) s.heap H1 locs1 → H1[q]? = some ce → ce.vm = .none → s.vm.findClass E = some ce.cls → vx_W p l e Rm s m args below meth c H1 locs1 (cells + mc) (slots + ms) Q (F0 m pc rls rest) q) : W p l e Rm s m args below meth c H locs cells slots Q (F0 m pc rls st0) := by
  intro T hT X
  have keep : ∀ (st₀ t T' : State) (L : List Loc), st₀.heap = H → T'.heap = t.heap → va_F (fun q => base ≤ q) st₀ t → (∀ q ∈ L, base ≤ q.base) → va_S (fun q => base ≤ q) s.heap T'.heap (locs ++ L) := by
    intro st₀ t T' L h0 e1 hF hL
    obtain ⟨hz, hk⟩ := hF
    rw [h0] at hz hk
    exact ⟨Nat.le_trans hS.1 (by rw [e1]; exact hz), fun q h1 h2 => by rw [e1, hk q (Nat.lt_of_lt_of_le h1 hS.1) h2]; exact hS.2.1 q h1 h2, fun q hq => by
      rcases List.mem_append.mp hq with h | h
      · exact hS.2.2 q h
      · exact hL q h⟩
  rcases hr T hT X with ⟨v, st₀, t, T', L, h0, X', hL, e1, e2, ⟨⟨v', I, J, R, n, g, hv, hp, hP1, hz1⟩, hF⟩, st⟩ | ⟨q, st₀, t, T', L, E, ce, h0, X', hL, e1, e2, ⟨hpx, ⟨g, hP1, hz1⟩, hF⟩, hce, hcv, hcl, st⟩
  · cases hv
    obtain ⟨t2, a1, b1⟩ := kk v' I J R n g T'.heap (locs ++ L) hp (by rw [e1]; exact hP1) (by rw [e1]; exact hz1) (keep st₀ t T' L h0 e1 hF hL) T' rfl X'
    exact ⟨t2, st t2 a1, b1⟩
  · obtain ⟨t2, a1, b1⟩ := kx E g T'.heap (locs ++ L) q ce hpx (by rw [e1]; exact hP1) (by rw [e1]; exact hz1) (keep st₀ t T' L h0 e1 hF hL) (by rw [e1]; exact hce) hcv hcl T' rfl X'
    exact ⟨t2, st.trans a1, b1⟩
theorem x_callX {K : KT} {M : Mt} {d cl sl pc pc' : Nat} {ls : List (Nat × Value)} {st : List Value} {I : SI} {J : SJ} {R : SR} {n g : Nat} {idx np d2 k : Nat} {As : List Value} {Y : Mt} {P : PT} {PX : String → Prop} (ok : OK K M d) (kt : Kt K) (hE : EX (Kb K) (Ks K)) (dc : Dc M pc (.invokevirtual idx) 3 pc') (mi : MI Y np) (lk : LK M idx Y) (hs : ∃ T N, (SH k).1 < 13 ∧ vwCl[(SH k).1]? = some (Y.1.cls, T, N)) (hk : k < n) (hM : MX d2 Y (.ref k :: As) I J R n g P PX) (hd : d2 < d) (hn : As.length = np) (hw : (st.map Value.category).sum ≤ 8) (hlk : Cond.methodLink M.1.cls idx Y.1 ∈ ALLW) (hcap : cl + 1 ≤ K.2.2.2.1.cells ∧ sl + 6 ≤ K.2.2.2.1.slots)
    (kk : ∀ (v : Option Value) (I' : SI) (J' : SJ) (R' : SR) (n' g' : Nat), P v I' J' R' n' g' → WK K (cl + 1) (sl + 6) pc' ls (v.toList ++ st) I' J' R' n' g')
    (kx : ∀ (E : String) (g' : Nat), PX E → WX K (cl + 1) (sl + 6) pc ls I J R n g' E) : WK K cl sl pc ls (As.reverse ++ .ref k :: st) I J R n g := by
  obtain ⟨p, l, e, Rm, s, m, args, below, meth, c, Q, cy, D, base, nL⟩ := K
  obtain ⟨hx, hb, hnL, hml, hts, hown, hK, hNW, hfr, hlo, hbs, hini, hXS⟩ := ok
  obtain ⟨hdg, rfl⟩ := dc
  obtain ⟨hl9, -⟩ := kt
  dsimp only at hcap
  intro hc1 hc2 H locs rls hP hz hS hl
  obtain ⟨hi1, hi2, hi3, hi4, hi5, hi6⟩ := mi
  have hgd := allw_good hi4
  have hMl := hM l hl9 cy D base
  have hR1 : (rmd d2 1 6).frames + 1 ≤ Rm.frames ∧ 8 + (Y.2.2.1 + 11) + (rmd d2 1 6).locals ≤ Rm.locals := by
    have h1 : (d2 + 1 + 1) * 64 ≤ (d + 1) * 64 := Nat.mul_le_mul_right _ (by omega)
    constructor
    · show d2 + 1 + 1 ≤ _; omega
    · show 8 + (Y.2.2.1 + 11) + (d2 + 1) * 64 ≤ _; omega
  have hfix : CallFix p m c M.2.1 nL s args ALLW M.1.cls := ⟨hx, hb, hml, hown, hts⟩
  have hst : List.map (rv base) (As.reverse ++ .ref k :: st) = (As.map (rv base)).reverse ++ .ref (base + k) :: st.map (rv base) := by simp [rv]
  have hcat : ((st.map (rv base)).map fun v => v.category).sum ≤ 8 := by
    rw [List.map_map]
    have e : ((fun v => v.category) ∘ rv base) = Value.category := by funext v; exact rv_cat base v
    rw [e]; exact hw
  have hpb : ∀ U : State, U.heap = H → s.WarmedH U.vm → PBE cy D base I J R n g EX U := fun U hU hW => ⟨⟨by rw [hU]; exact hP, by rw [hU]; exact hz, va_K.moved hW.alike hK, nw_warm hW hNW, xs_call hXS hW hU hS⟩, ex_move hE hW hU hS⟩
  rw [hst]
  obtain ⟨TT, NN, hlt, hcl⟩ := hs
  have he := wl_get (cy := cy) (base := base) (I := I) (J := J) (R := R) hk
  rw [en_obj rfl hlt] at he
  have hrecv := va_recv hK hP hcl he
  have hpre : PreV s H Y.1.cls (base + k) (va_Pc ((Value.ref k :: As).map (rv base)) (PBE cy D base I J R n g EX)) (As.map (rv base)) := ⟨pbe_blind ex_bf, hrecv, fun U hU hW => ⟨rfl, hpb U hU hW⟩⟩
  refine wx_go (vx_runV (As := As.map (rv base)) (rest := st.map (rv base)) hfix hMl ⟨callB_of np hts hgd rfl rfl rfl (hts _ hi3) (hts _ hlk) hi5 hR1, hts _ hi1, hts _ hi2⟩ hpre rfl (by rw [List.length_map]; exact hn) hl.1 rfl (lv_room hcat) hdg hcap) hS ?_ ?_
  · intro v I' J' R' n' g' H1 locs1 hp h1 h2 h3
    have := kk v I' J' R' n' g' hp hcap.1 hcap.2 H1 locs1 rls h1 h2 h3 hl
    have e : List.map (rv base) (v.toList ++ st) = (v.map (rv base)).toList ++ st.map (rv base) := by cases v <;> simp
    rw [e] at this
    exact this
  · intro E g' H1 locs1 q ce hpx h1 h2 h3 h4 h5 h6
    exact kx E g' hpx hcap.1 hcap.2 H1 locs1 rls q ce (st.map (rv base)) h1 h2 h3 hl h4 h5 h6
/-- caught by row x of the table, and kept in a local that isn't looked at -/
theorem x_catch {K : KT} {d cl sl pc p2 : Nat} {I : SI} {J : SJ} {R : SR} {n g k0 k3 : Nat} {a0 a1 : Int32} {E name : String} (ok : OK K mL_mark d) (kt : Kt K) (hE : EX (Kb K) (Ks K)) (pre : List ExceptionTableEntry) (x : ExceptionTableEntry) (suf : List ExceptionTableEntry) (hsplit : tableOf hhL = pre ++ x :: suf)
    (hpass : ∀ z ∈ pre, z.catchType ≠ 0 ∧ ∃ nm : String, Cond.classLink RL z.catchType nm ∈ ALLW ∧ (E = "java/util/NoSuchElementException" ∧ nm = "java/lang/IndexOutOfBoundsException")) (hx : covers x pc = true) (h0 : x.catchType ≠ 0) (hlink : Cond.classLink RL x.catchType name ∈ ALLW) (hcast : Cond.castable E name ∈ BX) (da : Dc mL_mark x.handlerPc (.astore 4) 2 p2)
    (kk : WK K cl sl p2 [(0, .ref k0), (1, .int a0), (2, .int a1), (3, .ref k3)] [] I J R n g) : WX K cl sl pc [(0, .ref k0), (1, .int a0), (2, .int a1), (3, .ref k3)] I J R n g E := by
  obtain ⟨p, l, e, Rm, s, m, args, below, meth, c, Q, cy, D, base, nL⟩ := K
  obtain ⟨hx9, hb, hnL, hml, hts, hown, hK, hNW, hfr, hlo, hbs, hini, hXS⟩ := ok
  obtain ⟨hdg, rfl⟩ := da
  obtain ⟨hl9, htab⟩ := kt
  obtain ⟨hU, hN, hB, hNc⟩ := hE
  intro hc1 hc2 H locs rls q ce rest hP hz hS hl hce hcv hcl
  refine vx_catch (own := RL) (name := name) hown pre x suf (htab.trans hsplit) (fun z hz' => ?_) hx h0 (hts _ hlink) (va_Nw.use rfl (hB _ hcast)) hce hcv hcl ?_
  · obtain ⟨z0, nm, z1, rfl, rfl⟩ := hpass z hz'
    exact Or.inr ⟨z0, _, hts _ z1, hNc⟩
  · refine lv_astore hx9 hb hdg hl (by rw [hnL]; decide) rfl (fun rls2 hl2 => ?_)
    exact kk hc1 hc2 H locs rls2 hP hz hS (lv_sub hl2 [1, 2, 3, 4] rfl)
def PLm (F G : Int32) (I : SI) (J : SJ) (R : SR) (n : Nat) : PT := fun v I' J' R' n' _ => v = some (.int G) ∧ I' = I ∧ J' = (if G = 0 then u2 J 178 0 F.toInt64 else J) ∧ R' = R ∧ n' = n
set_option maxHeartbeats 4000000 in
set_option maxRecDepth 40000 in
theorem g_L_mark {K : KT} {I : SI} {J : SJ} {R : SR} {n g : Nat} {f : Fr} (ok : OK K mL_mark 6) (kt : Kt K) (hE : EX (Kb K) (Ks K)) (ro : RO R) (hnn : nK ≤ n) (h178 : 178 < n) (hf : f.1 = true) (a0 a1 : Int32) (fin : Fnl K mL_mark (PLm (F_X11_mark a0 a1 I J) (G_X11_mark a0 a1 I J) (eI f I) (eJ f J) R n) 1 6) : WK K 0 0 0 [(0, .ref 0), (1, .int a0), (2, .int a1), (3, .ref 178)] [] (eI f I) (eJ f J) R n g := by
  refine w_aload_n ok dL_mark_0 3 rfl ?_
  refine w_iconst (v := 0) ok dL_mark_1 (by decide) ?_
  refine w_aload_n ok dL_mark_2 0 rfl ?_
  refine w_iload_n ok dL_mark_3 1 rfl ?_
  refine w_iload_n ok dL_mark_4 2 rfl ?_
  refine x_callX (As := [.int a0, .int a1]) ok kt hE dL_mark_5 iX11_mark (lL_7 rfl) (rcv cls11 (congrArg Prod.fst s_0)) (ltK hnn (by decide)) (m_X11_mark ro hnn hf a0 a1) (by decide) rfl (Nat.le_of_ble_eq_true rfl) (iT_6 7 (by decide +kernel) (by decide +kernel)) (cap_of fin (Nat.le_refl _) (Nat.le_refl _)) ?_ ?_
  · intro v I' J' R' n' g' hp
    obtain ⟨⟨rfl, rfl, rfl, rfl, rfl, rfl⟩, hG⟩ := hp
    refine w_i2l ok dL_mark_8 ?_
    refine x_last (q := 0) ok dL_mark_9 s_178 (by decide) (by decide) h178 ?_
    refine w_goto (tgt := 21) ok dL_mark_10 (by decide) ?_
    refine w_iconst (v := 0) ok dL_mark_21 (by decide) ?_
    exact w_iret ok fin dL_mark_22 rfl ⟨by rw [hG], rfl, by rw [hG]; rfl, rfl, rfl⟩
  · intro E g' hp
    rcases hp with ⟨rfl, hG⟩ | ⟨rfl, hG⟩
    · refine x_catch (name := "java/lang/IndexOutOfBoundsException") ok kt hE [] ⟨0, 10, 13, 13⟩ [⟨0, 10, 17, 15⟩] rfl (fun z hz => nomatch hz) (by decide) (by decide) (iT_6 5 (by decide +kernel) (by decide +kernel)) bx_io dL_mark_13 ?_
      refine w_iconst (v := 1) ok dL_mark_15 (by decide) ?_
      exact w_iret ok fin dL_mark_16 rfl ⟨by rw [hG], rfl, by rw [hG]; rfl, rfl, rfl⟩
    · refine x_catch (name := "java/util/NoSuchElementException") ok kt hE [⟨0, 10, 13, 13⟩] ⟨0, 10, 17, 15⟩ [] rfl (fun z hz => by cases List.mem_singleton.mp hz; exact ⟨by decide, "java/lang/IndexOutOfBoundsException", (iT_6 5 (by decide +kernel) (by decide +kernel)), rfl, rfl⟩) (by decide) (by decide) (iT_6 6 (by decide +kernel) (by decide +kernel)) bx_ns dL_mark_17 ?_
      refine w_iconst (v := 2) ok dL_mark_19 (by decide) ?_
      exact w_iret ok fin dL_mark_20 rfl ⟨by rw [hG], rfl, by rw [hG]; rfl, rfl, rfl⟩
set_option maxHeartbeats 4000000 in
set_option maxRecDepth 40000 in
theorem c_L_mark {I : SI} {J : SJ} {R : SR} {n g : Nat} {f : Fr} (ro : RO R) (hnn : nK ≤ n) (h178 : 178 < n) (hf : f.1 = true) (a0 a1 : Int32) (l : Launch) (hl9 : l.stackTraces = false) (cy : Nat → ClassId) (D : va_G) (base : Nat) :
    Met l yL_mark wsLm (rmd 6 1 6) (va_Pc ([.ref 0, .int a0, .int a1, .ref 178].map (rv base)) (PBE cy D base (eI f I) (eJ f J) R n g EX)) (QM cy D base (PLm (F_X11_mark a0 a1 I J) (G_X11_mark a0 a1 I J) (eI f I) (eJ f J) R n)) 1 6 (fun q => base ≤ q) := by
  refine va_MetW (cc := cL_mark) (maxL := 5) (ret := some .int) (hh := hhL) (ws' := ALLW) (by decide) rfl ?_
  intro p e s m args below meth c s₁ B hml hv
  obtain ⟨rfl, ⟨hP, hz, hK, hN, hXS⟩, hE⟩ := hv
  have hts := atoms_spec (ws := wsLm) B.pre
  have htab := vx_table (x := yL_mark) B (hts _ List.mem_cons_self)
  have hl := lv_entry ([.ref 0, .int a0, .int a1, .ref 178].map (rv base)) (n := 5) (by rw [sl_map]; exact Nat.le_of_ble_eq_true rfl)
  rw [lg_entry_eq]
  generalize (lg_sl ([.ref 0, .int a0, .int a1, .ref 178].map (rv base)) ++ List.replicate (5 - (lg_sl ([.ref 0, .int a0, .int a1, .ref 178].map (rv base))).length) Slot.unset).toArray = ls at hl ⊢
  rw [args_map] at hl
  have ok : OK (p, l, e, rmd 6 1 6, s, m, ([.ref 0, .int a0, .int a1, .ref 178].map (rv base)).toArray, below, meth, c, MQ below (QM cy D base (PLm (F_X11_mark a0 a1 I J) (G_X11_mark a0 a1 I J) (eI f I) (eJ f J) R n)) ([.ref 0, .int a0, .int a1, .ref 178].map (rv base)).toArray s 1 6 (fun q => base ≤ q), cy, D, base, 5) mL_mark 6 := ⟨B.exec, B.bytes, rfl, hml, fun w hw => hts w (List.mem_cons_of_mem _ hw), findClass_of_methodNamed B.named, hK, hN, Nat.le_refl _, Nat.le_refl _, by omega, fun h => (name_of_methodNamed B.named B.method).1.trans h, hXS⟩
  exact g_L_mark ok ⟨hl9, htab⟩ hE ro hnn h178 hf a0 a1 ⟨rfl, rfl, rfl, B.returns, B.notSynchronized⟩ (Nat.zero_le _) (Nat.zero_le _) s.heap [] ls hP hz va_S.rf hl
