/-! printed by wip/gen/gen_str.py: String constants: length, charAt -/
/-- contracts with arguments that aren't ours (below the base); E: what is known of them -/
def PBE (cy : Nat → ClassId) (D : va_G) (base : Nat) (I : SI) (J : SJ) (R : SR) (n g : Nat) (E : Nat → State → Prop) : State → Prop := fun U => PB cy D base I J R n g U ∧ E base U
def MA (d : Nat) (M : Mt) (av : List Value) (E : Nat → State → Prop) (I : SI) (J : SJ) (R : SR) (n g : Nat) (P : PT) : Prop :=
  ∀ (l : Launch) (cy : Nat → ClassId) (D : va_G) (base : Nat), Met l M.1 (wsM M) (rmd d 0 0) (va_Pc av (PBE cy D base I J R n g E)) (QM cy D base P) 0 0 (fun q => base ≤ q)
def Kb : KT → Nat := fun K => match K with | (p, l, e, Rm, s, m, args, below, meth, c, Q, cy, D, base, nL) => base
def Ks : KT → State := fun K => match K with | (p, l, e, Rm, s, m, args, below, meth, c, Q, cy, D, base, nL) => s
def WA (K : KT) (pc : Nat) (ls : List (Nat × Value)) (st : List Value) (I : SI) (J : SJ) (R : SR) (n g : Nat) : Prop := match K with
  | (p, l, e, Rm, s, m, args, below, meth, c, Q, cy, D, base, nL) => ∀ (H : Heap) (locs : List Loc) (rls : Array Slot), va_P D vwCl (wl cy base I J R n) H → H.size = base + n + g → va_S (fun q => base ≤ q) s.heap H locs → lv_has rls nL ls → W p l e Rm s m args below meth c H locs 0 0 Q (F0 m pc rls st)
theorem MA.of {d : Nat} {M : Mt} {av : List Value} {E : Nat → State → Prop} {I : SI} {J : SJ} {R : SR} {n g : Nat} {P : PT} (hy : plainName M.1.cls = true) (hn : (lg_sl av).length ≤ M.2.2.1)
    (body : ∀ K : KT, OK K M d → Fnl K M P 0 0 → E (Kb K) (Ks K) → WA K 0 (lv_args 0 av) [] I J R n g) : MA d M av E I J R n g P := by
  intro l cy D base
  refine Met.ofW (cc := M.2.1) (maxL := M.2.2.1) (ret := M.2.2.2) hy rfl ?_
  intro p e s m args below meth c s₁ B hml hv
  obtain ⟨rfl, ⟨hP, hz, hK, hN, hXS⟩, hE⟩ := hv
  have hts := atoms_spec (ws := wsM M) B.pre
  have hl := lv_entry av (n := M.2.2.1) hn
  rw [lg_entry_eq]
  generalize (lg_sl av ++ List.replicate (M.2.2.1 - (lg_sl av).length) Slot.unset).toArray = ls at hl ⊢
  exact body (p, l, e, rmd d 0 0, s, m, _, below, meth, c, _, cy, D, base, M.2.2.1)
    ⟨B.exec, B.bytes, rfl, hml, fun w hw => hts w (List.mem_cons_of_mem _ hw), findClass_of_methodNamed B.named, hK, hN, Nat.le_refl _, Nat.le_refl _, by omega, fun h => (name_of_methodNamed B.named B.method).1.trans h, hXS⟩
    ⟨rfl, rfl, rfl, B.returns, B.notSynchronized⟩ hE s.heap [] ls hP hz va_S.rf hl
/-- a is the i-th constant; a is its row of bytes -/
def ES (i a : Nat) : Nat → State → Prop := fun base U => ∃ adK adV : Nat → Nat, vk_S 4 STL STB adK adV (fun q => base ≤ q) U U.heap ∧ adK i = a
def EV (i a : Nat) : Nat → State → Prop := fun base U => ∃ adK adV : Nat → Nat, vk_S 4 STL STB adK adV (fun q => base ≤ q) U U.heap ∧ adV i = a
def ET : Nat → State → Prop := fun _ _ => True
def EBl (E : Nat → State → Prop) : Prop := ∀ (base : Nat) (s U : State) (H : Heap) (locs : List Loc), E base s → s.WarmedH U.vm → U.heap = H → va_S (fun q => base ≤ q) s.heap H locs → E base U
def EBf (E : Nat → State → Prop) : Prop := ∀ (base : Nat) (U : State) (g : JFrame) (mk : MethodId) (a : Array Value), E base U → E base (U.calling g mk a)
theorem es_bf (i a : Nat) : EBf (ES i a) := fun base U g mk x ⟨k, v, h, e⟩ => ⟨k, v, h.moved (Vm.Alike.refl U.vm), e⟩
theorem ev_bf (i a : Nat) : EBf (EV i a) := fun base U g mk x ⟨k, v, h, e⟩ => ⟨k, v, h.moved (Vm.Alike.refl U.vm), e⟩
theorem et_bf : EBf ET := fun _ _ _ _ _ _ => trivial
theorem vk_call {base : Nat} {s U : State} {H : Heap} {locs : List Loc} {adK adV : Nat → Nat} (h : vk_S 4 STL STB adK adV (fun q => base ≤ q) s s.heap) (hW : s.WarmedH U.vm) (hU : U.heap = H) (hS : va_S (fun q => base ≤ q) s.heap H locs) : vk_S 4 STL STB adK adV (fun q => base ≤ q) U U.heap := by
  subst hU
  exact (h.moved hW.alike).kept hS.2.1
theorem pbe_blind {av : List Value} {cy : Nat → ClassId} {D : va_G} {base : Nat} {I : SI} {J : SJ} {R : SR} {n g : Nat} {E : Nat → State → Prop} (hb : EBf E) : FrameBlind (va_Pc av (PBE cy D base I J R n g E)) := by
  intro a U g mk ⟨h1, ⟨h2, h3, h4, h5, h6⟩, h7⟩
  exact ⟨h1, ⟨h2, h3, va_K.moved (u := U) (U := U.calling g mk a) (Vm.Alike.refl U.vm) h4, fun w hw => va_Nw.same (u := U) (U := U.calling g mk a) (by have := (List.mem_filter.mp hw).2; cases w <;> first | rfl | exact absurd this (by simp [isNest])) rfl (h5 w hw), xs_blind h6⟩, hb base U g mk a h7⟩
theorem a_callV {p : Program} {l : Launch} {e : Env} {Rm : Room} {s : State} {m : MethodId} {args : Array Value} {below : List Frame} {meth : Method} {c : Code} {Q : State → Prop} {cy : Nat → ClassId} {D : va_G} {base nL : Nat} {M : Mt} {d idx np d2 pc pc' : Nat} {rls : Array Slot} {H : Heap} {locs : List Loc} {av rest : List Value} {E : Nat → State → Prop} {Y : Mt} {v : Option Value} {I : SI} {J : SJ} {R : SR} {n g : Nat} {a : Nat} (ok : OK (p, l, e, Rm, s, m, args, below, meth, c, Q, cy, D, base, nL) M d) (hP : va_P D vwCl (wl cy base I J R n) H) (hz : H.size = base + n + g) (hS : va_S (fun q => base ≤ q) s.heap H locs) (hrs : rls.size = nL) {cl sl : Nat} (hcap0 : cl ≤ Rm.cells ∧ sl ≤ Rm.slots) (dc : Dc M pc (.invokevirtual idx) 3 pc') (mi : MI Y np) (lk : LK M idx Y) (hrecv : ∃ cell : Cell, H[a]? = some cell ∧ cell.vm.isStatics = false ∧ s.vm.findClass Y.1.cls = some cell.cls) (bf : EBf E) (hE : ∀ U : State, U.heap = H → s.WarmedH U.vm → E base U) (hM : MA d2 Y (.ref a :: av) E I J R n g (Pd v I J R n g)) (hd : d2 < d) (hn : av.length = np) (hw : (rest.map fun v => v.category).sum ≤ 8)
    (kk : ∀ (H1 : Heap) (locs1 : List Loc), va_P D vwCl (wl cy base I J R n) H1 → H1.size = base + n + g → va_S (fun q => base ≤ q) s.heap H1 locs1 → W p l e Rm s m args below meth c H1 locs1 cl sl Q (F0 m pc' rls ((v.map (rv base)).toList ++ rest))) : W p l e Rm s m args below meth c H locs cl sl Q (F0 m pc rls (av.reverse ++ .ref a :: rest)) := by
  obtain ⟨hx, hb, hnL, hml, hts, hown, hK, hNW, hfr, hlo, hbs, hini, hXS⟩ := ok
  obtain ⟨hdg, rfl⟩ := dc
  obtain ⟨hi1, hi2, hi3, hi4, hi5, hi6⟩ := mi
  have hgd := allw_good hi4
  have hMl := hM l cy D base
  have hR1 : (rmd d2 0 0).frames + 1 ≤ Rm.frames ∧ 8 + (Y.2.2.1 + 11) + (rmd d2 0 0).locals ≤ Rm.locals := by
    have h1 : (d2 + 1 + 1) * 64 ≤ (d + 1) * 64 := Nat.mul_le_mul_right _ (by omega)
    constructor
    · show d2 + 1 + 1 ≤ _; omega
    · show 8 + (Y.2.2.1 + 11) + (d2 + 1) * 64 ≤ _; omega
  have hfix : CallFix p m c M.2.1 nL s args ALLW M.1.cls := ⟨hx, hb, hml, hown, hts⟩
  have hpb : ∀ U : State, U.heap = H → s.WarmedH U.vm → PBE cy D base I J R n g E U := fun U hU hW => ⟨⟨by rw [hU]; exact hP, by rw [hU]; exact hz, va_K.moved hW.alike hK, nw_warm hW hNW, xs_call hXS hW hU hS⟩, hE U hU hW⟩
  have hgo : ∀ (v' : Option Value) (I' : SI) (J' : SJ) (R' : SR) (n' g' : Nat) (H1 : Heap) (locs1 : List Loc), Pd v I J R n g v' I' J' R' n' g' → va_P D vwCl (wl cy base I' J' R' n') H1 → H1.size = base + n' + g' → va_S (fun q => base ≤ q) s.heap H1 locs1 → W p l e Rm s m args below meth c H1 locs1 (cl + 0) (sl + 0) Q (F0 m (pc + 3) rls ((v'.map (rv base)).toList ++ rest)) := by
    intro v' I' J' R' n' g' H1 locs1 hp h1 h2 h3
    obtain ⟨rfl, rfl, rfl, rfl, rfl, rfl⟩ := hp
    exact kk H1 locs1 h1 h2 h3
  have hcap : cl + 0 ≤ Rm.cells ∧ sl + 0 ≤ Rm.slots := hcap0
  have hpre : PreV s H Y.1.cls a (va_Pc (.ref a :: av) (PBE cy D base I J R n g E)) av := ⟨pbe_blind bf, hrecv, fun U hU hW => ⟨rfl, hpb U hU hW⟩⟩
  rcases lk with lk | ⟨host, lk⟩
  · exact wk_go (va_runV (As := av) (rest := rest) hfix hMl ⟨callB_of np hts hgd rfl rfl rfl (hts _ hi3) (hts _ lk) hi5 hR1, hts _ hi1, hts _ hi2⟩ hpre rfl hn hrs rfl (lv_room hw) hdg hcap) hS hgo
  · exact wk_go (va_runVN (As := av) (rest := rest) hfix hMl ⟨va_cnB np hts hgd rfl rfl rfl (hNW _ lk) (hts _ hi3) hi5 hR1, hts _ hi1, hts _ hi2⟩ hpre rfl hn hrs rfl (lv_room hw) hdg hcap) hS hgo
theorem a_callS {p : Program} {l : Launch} {e : Env} {Rm : Room} {s : State} {m : MethodId} {args : Array Value} {below : List Frame} {meth : Method} {c : Code} {Q : State → Prop} {cy : Nat → ClassId} {D : va_G} {base nL : Nat} {M : Mt} {d idx np d2 pc pc' : Nat} {rls : Array Slot} {H : Heap} {locs : List Loc} {av rest : List Value} {E : Nat → State → Prop} {Y : Mt} {v : Option Value} {I : SI} {J : SJ} {R : SR} {n g : Nat} (ok : OK (p, l, e, Rm, s, m, args, below, meth, c, Q, cy, D, base, nL) M d) (hP : va_P D vwCl (wl cy base I J R n) H) (hz : H.size = base + n + g) (hS : va_S (fun q => base ≤ q) s.heap H locs) (hrs : rls.size = nL) {cl sl : Nat} (hcap0 : cl ≤ Rm.cells ∧ sl ≤ Rm.slots) (dc : Dc M pc (.invokestatic idx) 3 pc') (mi : MSt Y np) (lk : LK M idx Y) (bf : EBf E) (hE : ∀ U : State, U.heap = H → s.WarmedH U.vm → E base U) (hM : MA d2 Y av E I J R n g (Pd v I J R n g)) (hd : d2 < d) (hn : av.length = np) (hw : (rest.map fun v => v.category).sum ≤ 8)
    (kk : ∀ (H1 : Heap) (locs1 : List Loc), va_P D vwCl (wl cy base I J R n) H1 → H1.size = base + n + g → va_S (fun q => base ≤ q) s.heap H1 locs1 → W p l e Rm s m args below meth c H1 locs1 cl sl Q (F0 m pc' rls ((v.map (rv base)).toList ++ rest))) : W p l e Rm s m args below meth c H locs cl sl Q (F0 m pc rls (av.reverse ++ rest)) := by
  obtain ⟨hx, hb, hnL, hml, hts, hown, hK, hNW, hfr, hlo, hbs, hini, hXS⟩ := ok
  obtain ⟨hdg, rfl⟩ := dc
  obtain ⟨hi1, hi3, hi4, hi5, hi6⟩ := mi
  have hgd := allw_good hi4
  have hMl := hM l cy D base
  have hR1 : (rmd d2 0 0).frames + 1 ≤ Rm.frames ∧ 8 + (Y.2.2.1 + 11) + (rmd d2 0 0).locals ≤ Rm.locals := by
    have h1 : (d2 + 1 + 1) * 64 ≤ (d + 1) * 64 := Nat.mul_le_mul_right _ (by omega)
    constructor
    · show d2 + 1 + 1 ≤ _; omega
    · show 8 + (Y.2.2.1 + 11) + (d2 + 1) * 64 ≤ _; omega
  have hfix : CallFix p m c M.2.1 nL s args ALLW M.1.cls := ⟨hx, hb, hml, hown, hts⟩
  have hpb : ∀ U : State, U.heap = H → s.WarmedH U.vm → PBE cy D base I J R n g E U := fun U hU hW => ⟨⟨by rw [hU]; exact hP, by rw [hU]; exact hz, va_K.moved hW.alike hK, nw_warm hW hNW, xs_call hXS hW hU hS⟩, hE U hU hW⟩
  have hgo : ∀ (v' : Option Value) (I' : SI) (J' : SJ) (R' : SR) (n' g' : Nat) (H1 : Heap) (locs1 : List Loc), Pd v I J R n g v' I' J' R' n' g' → va_P D vwCl (wl cy base I' J' R' n') H1 → H1.size = base + n' + g' → va_S (fun q => base ≤ q) s.heap H1 locs1 → W p l e Rm s m args below meth c H1 locs1 (cl + 0) (sl + 0) Q (F0 m (pc + 3) rls ((v'.map (rv base)).toList ++ rest)) := by
    intro v' I' J' R' n' g' H1 locs1 hp h1 h2 h3
    obtain ⟨rfl, rfl, rfl, rfl, rfl, rfl⟩ := hp
    exact kk H1 locs1 h1 h2 h3
  have hcap : cl + 0 ≤ Rm.cells ∧ sl + 0 ≤ Rm.slots := hcap0
  have hpre : PreS s H (va_Pc av (PBE cy D base I J R n g E)) av := ⟨pbe_blind bf, fun U hU hW => ⟨rfl, hpb U hU hW⟩⟩
  rcases lk with lk | ⟨host, lk⟩
  · exact wk_go (va_runS (As := av) (rest := rest) hfix hMl ⟨callB_of np hts hgd rfl rfl rfl (hts _ hi3) (hts _ lk) hi5 hR1, hts _ hi1⟩ hpre rfl hn hrs rfl (lv_room hw) hdg hcap) hS hgo
  · exact wk_go (va_runSN (As := av) (rest := rest) hfix hMl ⟨va_cnB np hts hgd rfl rfl rfl (hNW _ lk) (hts _ hi3) hi5 hR1, hts _ hi1, trivial⟩ hpre rfl hn hrs rfl (lv_room hw) hdg hcap) hS hgo
theorem zs0 : (("java/lang/String", "COMPACT_STRINGS", "Z", Value.int 1) : String × String × String × Value) ∈ ZS := List.mem_of_getElem? (i := 0) rfl
theorem zq0 : (("jdk/internal/util/Preconditions", "SIOOBE_FORMATTER", "Ljava/util/function/BiFunction;") : String × String × String) ∈ ZQ := List.mem_of_getElem? (i := 0) rfl
theorem stl_eq : ∀ i, i < 4 → STL.getD i 0 = (STB.getD i []).length := by decide +kernel
theorem stl_sh : ∀ i, i < 4 → nI (STL.getD i 0) >>> ((0 : Int32) &&& 31) = nI (STL.getD i 0) := by decide +kernel
theorem stl_lt : ∀ i, i < 4 → STL.getD i 0 < 1000 := by decide +kernel
/-- a sign of a constant -/
def chS (i q : Nat) : Int32 := (STB.getD i []).getD q 0
theorem stb_ok : ∀ i, i < 4 → ∀ b ∈ STB.getD i [], ((b &&& 255).toUInt32 % 65536).toInt32 = b ∧ (b.toUInt32 % 65536).toInt32 = b := by decide +kernel
theorem chS_ok {i q : Nat} (hi : i < 4) (hq : q < STL.getD i 0) : ((chS i q &&& 255).toUInt32 % 65536).toInt32 = chS i q ∧ ((chS i q).toUInt32 % 65536).toInt32 = chS i q := by
  refine stb_ok i hi _ ?_
  unfold chS
  rw [stl_eq i hi] at hq
  generalize STB.getD i [] = l at hq ⊢
  rw [List.getD_eq_getElem?_getD, List.getElem?_eq_getElem hq]
  exact List.getElem_mem hq
theorem nar_ch {x : Int32} (h : (x.toUInt32 % 65536).toInt32 = x) : narrow .char (.int x) = .int x := by
  show Value.int _ = _
  exact congrArg Value.int h
set_option maxHeartbeats 4000000 in
set_option maxRecDepth 20000 in
theorem s_coder {i a : Nat} (hi : i < 4) {I : SI} {J : SJ} {R : SR} {n g : Nat} : MA 0 mJ0_coder_7d493 [.ref a] (ES i a) I J R n g (Pd (some (.int 0)) I J R n g) := by
  refine MA.of (by decide) (Nat.le_of_ble_eq_true rfl) fun K ok fin hE => ?_
  obtain ⟨p, l, e, Rm, s, m, args, below, meth, c, Q, cy, D, base, nL⟩ := K
  have ok0 := ok
  obtain ⟨hx, hb, hnL, hml, hts, hown, hK, hNW, hfr, hlo, hbs, hini, hXS⟩ := ok
  obtain ⟨-, -, rfl, hret, hlocks⟩ := fin
  obtain ⟨adK, adV, hS4, rfl⟩ := hE
  have h4 := hS4.1 i hi
  intro H locs rls hP hz hS hl
  refine va_gets hx hb (C := "java/lang/String") (n := "COMPACT_STRINGS") (d := "Z") (v := .int 1) (hXS.2.1 _ zs0) hS hown (hts _ (iT_1 218 (by decide +kernel) (by decide +kernel))) (fun x h => h) dJ0_coder_7d493_0.1 ?_
  refine lv_if_eq hx hb dJ0_coder_7d493_3.1 (tgt := 13) (by decide) (fun h => absurd h (by decide)) (fun _ => ?_)
  refine lv_aload_n hx hb dJ0_coder_7d493_6.1 rfl (lv_at hl 0 rfl) ?_
  refine vk_getf hx hb h4.2.1 hS hown (hts _ (iT_9 101 (by decide +kernel) (by decide +kernel))) (fun x h => h) dJ0_coder_7d493_7.1 ?_
  refine lv_goto hx hb dJ0_coder_7d493_10.1 (tgt := 14) (by decide) ?_
  exact W.zret (ty := .byte) hx hb hret rfl (fun t ht hW => ⟨⟨some (.int 0), I, J, R, n, g, rfl, Pd.i, by rw [ht]; exact hP, by rw [ht]; exact hz⟩, hS.F ht⟩) (fun q hq => hS.2.2 q hq) dJ0_coder_7d493_14.1 (hlocks := hlocks)
set_option maxHeartbeats 4000000 in
set_option maxRecDepth 20000 in
theorem s_isLatin1 {i a : Nat} (hi : i < 4) {I : SI} {J : SJ} {R : SR} {n g : Nat} : MA 0 mJ0_isLatin1_aae02 [.ref a] (ES i a) I J R n g (Pd (some (.int 1)) I J R n g) := by
  refine MA.of (by decide) (Nat.le_of_ble_eq_true rfl) fun K ok fin hE => ?_
  obtain ⟨p, l, e, Rm, s, m, args, below, meth, c, Q, cy, D, base, nL⟩ := K
  have ok0 := ok
  obtain ⟨hx, hb, hnL, hml, hts, hown, hK, hNW, hfr, hlo, hbs, hini, hXS⟩ := ok
  obtain ⟨-, -, rfl, hret, hlocks⟩ := fin
  obtain ⟨adK, adV, hS4, rfl⟩ := hE
  have h4 := hS4.1 i hi
  intro H locs rls hP hz hS hl
  refine va_gets hx hb (C := "java/lang/String") (n := "COMPACT_STRINGS") (d := "Z") (v := .int 1) (hXS.2.1 _ zs0) hS hown (hts _ (iT_1 218 (by decide +kernel) (by decide +kernel))) (fun x h => h) dJ0_isLatin1_aae02_0.1 ?_
  refine lv_if_eq hx hb dJ0_isLatin1_aae02_3.1 (tgt := 17) (by decide) (fun h => absurd h (by decide)) (fun _ => ?_)
  refine lv_aload_n hx hb dJ0_isLatin1_aae02_6.1 rfl (lv_at hl 0 rfl) ?_
  refine vk_getf hx hb h4.2.1 hS hown (hts _ (iT_9 101 (by decide +kernel) (by decide +kernel))) (fun x h => h) dJ0_isLatin1_aae02_7.1 ?_
  refine lv_if_ne hx hb dJ0_isLatin1_aae02_10.1 (tgt := 17) (by decide) (fun h => absurd rfl h) (fun _ => ?_)
  refine lv_iconst hx hb dJ0_isLatin1_aae02_13.1 (v := 1) (by decide) ?_
  refine lv_goto hx hb dJ0_isLatin1_aae02_14.1 (tgt := 18) (by decide) ?_
  exact W.zret (ty := .boolean) hx hb hret rfl (fun t ht hW => ⟨⟨some (.int 1), I, J, R, n, g, rfl, Pd.i, by rw [ht]; exact hP, by rw [ht]; exact hz⟩, hS.F ht⟩) (fun q hq => hS.2.2 q hq) dJ0_isLatin1_aae02_18.1 (hlocks := hlocks)
set_option maxHeartbeats 4000000 in
set_option maxRecDepth 20000 in
theorem s_pre {i L : Nat} {a2 : Value} (ha2 : a2.category = 1) (hi : i < L) (hL : L < 2 ^ 31) {I : SI} {J : SJ} {R : SR} {n g : Nat} : MA 0 mJ3_checkIndex_8e157 [.int (nI i), .int (nI L), a2] ET I J R n g (Pd (some (.int (nI i))) I J R n g) := by
  refine MA.of (by decide) (by cases a2 <;> first | exact Nat.le_of_ble_eq_true rfl | exact absurd ha2 (by simp [Value.category])) fun K ok fin hE => ?_
  obtain ⟨p, l, e, Rm, s, m, args, below, meth, c, Q, cy, D, base, nL⟩ := K
  have ok0 := ok
  obtain ⟨hx, hb, hnL, hml, hts, hown, hK, hNW, hfr, hlo, hbs, hini, hXS⟩ := ok
  obtain ⟨-, -, rfl, hret, hlocks⟩ := fin
  intro H locs rls hP hz hS hl
  have hl0 : lv_has rls nL [(0, .int (nI i)), (1, .int (nI L)), (2, a2)] := by
    simpa [lv_args, ha2, Value.category] using hl
  refine lv_iload_n hx hb dJ3_checkIndex_8e157_0.1 rfl (lv_at hl0 0 rfl) ?_
  refine lv_if_lt hx hb dJ3_checkIndex_8e157_1.1 (tgt := 9) (by decide) (fun h => absurd h (nI_pos (by omega))) (fun _ => ?_)
  refine lv_iload_n hx hb dJ3_checkIndex_8e157_4.1 rfl (lv_at hl0 0 rfl) ?_
  refine lv_iload_n hx hb dJ3_checkIndex_8e157_5.1 rfl (lv_at hl0 1 rfl) ?_
  refine lv_icmp_lt hx hb dJ3_checkIndex_8e157_6.1 (tgt := 16) (by decide) (fun _ => ?_) (fun h => absurd (nI_lt hi hL) h)
  refine lv_iload_n hx hb dJ3_checkIndex_8e157_16.1 rfl (lv_at hl0 0 rfl) ?_
  exact W.iret hx hb hret (fun t ht hW => ⟨⟨some (.int (nI i)), I, J, R, n, g, rfl, Pd.i, by rw [ht]; exact hP, by rw [ht]; exact hz⟩, hS.F ht⟩) (fun q hq => hS.2.2 q hq) dJ3_checkIndex_8e157_17.1 (hlocks := hlocks)
set_option maxHeartbeats 4000000 in
set_option maxRecDepth 20000 in
theorem s_chk {i L : Nat} (hi : i < L) (hL : L < 2 ^ 31) {I : SI} {J : SJ} {R : SR} {n g : Nat} : MA 1 mJ0_checkIndex_df160 [.int (nI i), .int (nI L)] ET I J R n g (Pd none I J R n g) := by
  refine MA.of (by decide) (Nat.le_of_ble_eq_true rfl) fun K ok fin hE => ?_
  obtain ⟨p, l, e, Rm, s, m, args, below, meth, c, Q, cy, D, base, nL⟩ := K
  have ok0 := ok
  obtain ⟨hx, hb, hnL, hml, hts, hown, hK, hNW, hfr, hlo, hbs, hini, hXS⟩ := ok
  obtain ⟨-, -, rfl, hret, hlocks⟩ := fin
  intro H locs rls hP hz hS hl
  refine lv_iload_n hx hb dJ0_checkIndex_df160_0.1 rfl (lv_at hl 0 rfl) ?_
  refine lv_iload_n hx hb dJ0_checkIndex_df160_1.1 rfl (lv_at hl 1 rfl) ?_
  have go : ∀ a2 : Value, a2.category = 1 → W p l e Rm s m _ below meth c H locs 0 0 _ (F0 m 5 rls (a2 :: .int (nI L) :: .int (nI i) :: [])) := fun a2 ha2 => by
    refine a_callS (av := [.int (nI i), .int (nI L), a2]) (rest := []) ok0 hP hz hS hl.1 ⟨Nat.zero_le _, Nat.zero_le _⟩ dJ0_checkIndex_df160_5 iJ3_checkIndex_8e157 (lJ0_1059 rfl) et_bf (fun _ _ _ => trivial) (s_pre ha2 hi hL) (by decide) rfl (by decide) (fun H1 locs1 hP hz hS => ?_)
    refine lv_pop hx hb dJ0_checkIndex_df160_8.1 rfl ?_
    exact W.vret hx hb hret (fun t ht hW => ⟨⟨none, I, J, R, n, g, rfl, Pd.i, by rw [ht]; exact hP, by rw [ht]; exact hz⟩, hS.F ht⟩) (fun q hq => hS.2.2 q hq) dJ0_checkIndex_df160_9.1 (hlocks := hlocks)
  rcases hXS.2.2 _ zq0 with hz0 | ⟨t0, hz0⟩
  · exact va_gets hx hb hz0 hS hown (hts _ (iT_1 234 (by decide +kernel) (by decide +kernel))) (fun x h => h) dJ0_checkIndex_df160_2.1 (go _ rfl)
  · exact va_gets hx hb hz0 hS hown (hts _ (iT_1 234 (by decide +kernel) (by decide +kernel))) (fun x h => h) dJ0_checkIndex_df160_2.1 (go _ rfl)
set_option maxHeartbeats 4000000 in
set_option maxRecDepth 20000 in
theorem s_char1 {i a q : Nat} (hi : i < 4) (hq : q < STL.getD i 0) {I : SI} {J : SJ} {R : SR} {n g : Nat} : MA 2 mJ1_charAt_3b067 [.ref a, .int (nI q)] (EV i a) I J R n g (Pd (some (.int (chS i q))) I J R n g) := by
  refine MA.of (by decide) (Nat.le_of_ble_eq_true rfl) fun K ok fin hE => ?_
  obtain ⟨p, l, e, Rm, s, m, args, below, meth, c, Q, cy, D, base, nL⟩ := K
  have ok0 := ok
  obtain ⟨hx, hb, hnL, hml, hts, hown, hK, hNW, hfr, hlo, hbs, hini, hXS⟩ := ok
  obtain ⟨-, -, rfl, hret, hlocks⟩ := fin
  obtain ⟨adK, adV, hS4, rfl⟩ := hE
  have h4 := hS4.1 i hi
  have hlt := stl_lt i hi
  intro H locs rls hP hz hS hl
  refine lv_iload_n hx hb dJ1_charAt_3b067_0.1 rfl (lv_at hl 1 rfl) ?_
  refine lv_aload_n hx hb dJ1_charAt_3b067_1.1 rfl (lv_at hl 0 rfl) ?_
  refine va_tlen hx hb h4.2.2.2 hS (v := nI (STL.getD i 0)) rfl dJ1_charAt_3b067_2.1 ?_
  refine a_callS (av := [.int (nI q), .int (nI (STL.getD i 0))]) (rest := []) ok0 hP hz hS hl.1 ⟨Nat.zero_le _, Nat.zero_le _⟩ dJ1_charAt_3b067_3 iJ0_checkIndex_df160 (lJ1_9 rfl) et_bf (fun _ _ _ => trivial) (s_chk hq (by omega)) (by decide) rfl (by decide) (fun H1 locs1 hP hz hS => ?_)
  refine lv_aload_n hx hb dJ1_charAt_3b067_6.1 rfl (lv_at hl 0 rfl) ?_
  refine lv_iload_n hx hb dJ1_charAt_3b067_7.1 rfl (lv_at hl 1 rfl) ?_
  refine va_tb hx hb h4.2.2.2 hS (vp_in_nI hq (by omega)) (v := .int (chS i q)) (by rw [nI_clamp (by omega)]; rfl) dJ1_charAt_3b067_8.1 ?_
  refine lv_sipush hx hb dJ1_charAt_3b067_9.1 (v := 255) (by decide) ?_
  refine lv_iand hx hb dJ1_charAt_3b067_12.1 ?_
  refine lv_i2c hx hb dJ1_charAt_3b067_13.1 (v := chS i q) (chS_ok hi hq).1 ?_
  exact W.zret (ty := .char) hx hb hret (nar_ch (chS_ok hi hq).2) (fun t ht hW => ⟨⟨some (.int (chS i q)), I, J, R, n, g, rfl, Pd.i, by rw [ht]; exact hP, by rw [ht]; exact hz⟩, hS.F ht⟩) (fun q hq => hS.2.2 q hq) dJ1_charAt_3b067_14.1 (hlocks := hlocks)
set_option maxHeartbeats 4000000 in
set_option maxRecDepth 20000 in
theorem s_charAt {i a q : Nat} (hi : i < 4) (hq : q < STL.getD i 0) {I : SI} {J : SJ} {R : SR} {n g : Nat} : MA 3 mJ0_charAt_5068e [.ref a, .int (nI q)] (ES i a) I J R n g (Pd (some (.int (chS i q))) I J R n g) := by
  refine MA.of (by decide) (Nat.le_of_ble_eq_true rfl) fun K ok fin hE => ?_
  obtain ⟨p, l, e, Rm, s, m, args, below, meth, c, Q, cy, D, base, nL⟩ := K
  have ok0 := ok
  obtain ⟨hx, hb, hnL, hml, hts, hown, hK, hNW, hfr, hlo, hbs, hini, hXS⟩ := ok
  obtain ⟨-, -, rfl, hret, hlocks⟩ := fin
  obtain ⟨adK, adV, hS4, rfl⟩ := hE
  have h4 := hS4.1 i hi
  intro H locs rls hP hz hS hl
  refine lv_aload_n hx hb dJ0_charAt_5068e_0.1 rfl (lv_at hl 0 rfl) ?_
  refine a_callV (a := adK i) (av := []) (rest := []) ok0 hP hz hS hl.1 ⟨Nat.zero_le _, Nat.zero_le _⟩ dJ0_charAt_5068e_1 iJ0_isLatin1_aae02 (lJ0_492 rfl) (vk_recv hS4 hi hS) (es_bf i (adK i)) (fun U hU hW => ⟨adK, adV, vk_call hS4 hW hU hS, rfl⟩) (s_isLatin1 hi) (by decide) rfl (by decide) (fun H1 locs1 hP hz hS => ?_)
  refine lv_if_eq hx hb dJ0_charAt_5068e_4.1 (tgt := 16) (by decide) (fun h => absurd h (by decide)) (fun _ => ?_)
  refine lv_aload_n hx hb dJ0_charAt_5068e_7.1 rfl (lv_at hl 0 rfl) ?_
  refine vk_getf hx hb h4.2.2.1 hS hown (hts _ (iT_9 100 (by decide +kernel) (by decide +kernel))) (fun x h => h) dJ0_charAt_5068e_8.1 ?_
  refine lv_iload_n hx hb dJ0_charAt_5068e_11.1 rfl (lv_at hl 1 rfl) ?_
  refine a_callS (av := [.ref (adV i), .int (nI q)]) (rest := []) ok0 hP hz hS hl.1 ⟨Nat.zero_le _, Nat.zero_le _⟩ dJ0_charAt_5068e_12 iJ1_charAt_3b067 (lJ0_495 rfl) (ev_bf i (adV i)) (fun U hU hW => ⟨adK, adV, vk_call hS4 hW hU hS, rfl⟩) (s_char1 hi hq) (by decide) rfl (by decide) (fun H1 locs1 hP hz hS => ?_)
  exact W.zret (ty := .char) hx hb hret (nar_ch (chS_ok hi hq).2) (fun t ht hW => ⟨⟨some (.int (chS i q)), I, J, R, n, g, rfl, Pd.i, by rw [ht]; exact hP, by rw [ht]; exact hz⟩, hS.F ht⟩) (fun q hq => hS.2.2 q hq) dJ0_charAt_5068e_15.1 (hlocks := hlocks)
set_option maxHeartbeats 4000000 in
set_option maxRecDepth 20000 in
theorem s_length {i a : Nat} (hi : i < 4) {I : SI} {J : SJ} {R : SR} {n g : Nat} : MA 1 mJ0_length_8abf5 [.ref a] (ES i a) I J R n g (Pd (some (.int (nI (STL.getD i 0)))) I J R n g) := by
  refine MA.of (by decide) (Nat.le_of_ble_eq_true rfl) fun K ok fin hE => ?_
  obtain ⟨p, l, e, Rm, s, m, args, below, meth, c, Q, cy, D, base, nL⟩ := K
  have ok0 := ok
  obtain ⟨hx, hb, hnL, hml, hts, hown, hK, hNW, hfr, hlo, hbs, hini, hXS⟩ := ok
  obtain ⟨-, -, rfl, hret, hlocks⟩ := fin
  obtain ⟨adK, adV, hS4, rfl⟩ := hE
  have h4 := hS4.1 i hi
  intro H locs rls hP hz hS hl
  refine lv_aload_n hx hb dJ0_length_8abf5_0.1 rfl (lv_at hl 0 rfl) ?_
  refine vk_getf hx hb h4.2.2.1 hS hown (hts _ (iT_9 100 (by decide +kernel) (by decide +kernel))) (fun x h => h) dJ0_length_8abf5_1.1 ?_
  refine va_tlen hx hb h4.2.2.2 hS (v := nI (STL.getD i 0)) rfl dJ0_length_8abf5_4.1 ?_
  refine lv_aload_n hx hb dJ0_length_8abf5_5.1 rfl (lv_at hl 0 rfl) ?_
  refine a_callV (a := adK i) (av := []) (rest := [.int (nI (STL.getD i 0))]) ok0 hP hz hS hl.1 ⟨Nat.zero_le _, Nat.zero_le _⟩ dJ0_length_8abf5_6 iJ0_coder_7d493 (lJ0_335 rfl) (vk_recv hS4 hi hS) (es_bf i (adK i)) (fun U hU hW => ⟨adK, adV, vk_call hS4 hW hU hS, rfl⟩) (s_coder hi) (by decide) rfl (Nat.le_of_ble_eq_true rfl) (fun H1 locs1 hP hz hS => ?_)
  refine lv_ishr hx hb dJ0_length_8abf5_9.1 ?_
  rw [stl_sh i hi]
  exact W.iret hx hb hret (fun t ht hW => ⟨⟨some (.int (nI (STL.getD i 0))), I, J, R, n, g, rfl, Pd.i, by rw [ht]; exact hP, by rw [ht]; exact hz⟩, hS.F ht⟩) (fun q hq => hS.2.2 q hq) dJ0_length_8abf5_10.1 (hlocks := hlocks)
set_option maxHeartbeats 4000000 in
set_option maxRecDepth 20000 in
theorem w_ldcLen {K : KT} {M : Mt} {d cl sl pc p1 pc' : Nat} {ls : List (Nat × Value)} {st : List Value} {I : SI} {J : SJ} {R : SR} {n g : Nat} {idx idx2 i : Nat} {cn tx : String} (ok : OK K M d) (hi : i < 4) (hown2 : M.1.cls = cn) (hstr : STR[i]? = some (cn, idx, tx)) (dc1 : Dc M pc (.ldc idx) 2 p1) (dc2 : Dc M p1 (.invokevirtual idx2) 3 pc') (lk : LK M idx2 mJ0_length_8abf5) (hd : 1 < d) (hw : (st.map Value.category).sum ≤ 7) (kk : WK K cl sl pc' ls (.int (nI (STL.getD i 0)) :: st) I J R n g) : WK K cl sl pc ls st I J R n g := by
  obtain ⟨p, l, e, Rm, s, m, args, below, meth, c, Q, cy, D, base, nL⟩ := K
  have ok0 := ok
  obtain ⟨hx, hb, hnL, hml, hts, hown, hK, hNW, hfr, hlo, hbs, hini, hXS⟩ := ok
  intro hc1 hc2 H locs rls hP hz hS hl
  obtain ⟨adK, adV, hS4, hR⟩ := hXS.1
  have hcat : ((st.map (rv base)).map fun v => v.category).sum ≤ 8 := by
    rw [List.map_map]
    have e : ((fun v => v.category) ∘ rv base) = Value.category := by funext v; exact rv_cat base v
    rw [e]; exact (by omega)
  obtain ⟨hdg1, rfl⟩ := dc1
  have hrr := hR i _ hstr
  rw [← hown2] at hrr
  refine va_ldcS hx hb (own := M.1.cls) (tx := tx) (q := adK i) hown hrr hdg1 ?_
  exact a_callV (a := adK i) (av := []) (rest := st.map (rv base)) ok0 hP hz hS hl.1 ⟨hc1, hc2⟩ dc2 iJ0_length_8abf5 lk (vk_recv hS4 hi hS) (es_bf i (adK i)) (fun U hU hW => ⟨adK, adV, vk_call hS4 hW hU hS, rfl⟩) (s_length hi) hd rfl hcat (fun H1 locs1 hP hz hS => kk hc1 hc2 H1 locs1 rls hP hz hS hl)
set_option maxHeartbeats 4000000 in
set_option maxRecDepth 20000 in
theorem w_ldcCh {K : KT} {M : Mt} {d cl sl pc p1 pc' : Nat} {ls : List (Nat × Value)} {st : List Value} {I : SI} {J : SJ} {R : SR} {n g : Nat} {p2 idx idx2 i q : Nat} {cn tx : String} {k : Fin 4} {x : Int32} (ok : OK K M d) (hi : i < 4) (hown2 : M.1.cls = cn) (hstr : STR[i]? = some (cn, idx, tx)) (dc1 : Dc M pc (.ldc idx) 2 p1) (dc2 : Dc M p1 (.iload_n k) 1 p2) (dc3 : Dc M p2 (.invokevirtual idx2) 3 pc') (lk : LK M idx2 mJ0_charAt_5068e) (hd : 3 < d) (hw : (st.map Value.category).sum ≤ 7) (qq : Nat) (hls : ls[qq]? = some ((k : Nat), .int x)) (hq : x = nI q) (hq2 : q < STL.getD i 0) (kk : WK K cl sl pc' ls (.int (chS i q) :: st) I J R n g) : WK K cl sl pc ls st I J R n g := by
  obtain ⟨p, l, e, Rm, s, m, args, below, meth, c, Q, cy, D, base, nL⟩ := K
  have ok0 := ok
  obtain ⟨hx, hb, hnL, hml, hts, hown, hK, hNW, hfr, hlo, hbs, hini, hXS⟩ := ok
  intro hc1 hc2 H locs rls hP hz hS hl
  obtain ⟨adK, adV, hS4, hR⟩ := hXS.1
  have hcat : ((st.map (rv base)).map fun v => v.category).sum ≤ 8 := by
    rw [List.map_map]
    have e : ((fun v => v.category) ∘ rv base) = Value.category := by funext v; exact rv_cat base v
    rw [e]; exact (by omega)
  obtain ⟨hdg1, rfl⟩ := dc1
  have hrr := hR i _ hstr
  rw [← hown2] at hrr
  refine va_ldcS hx hb (own := M.1.cls) (tx := tx) (q := adK i) hown hrr hdg1 ?_
  obtain ⟨hdg2, rfl⟩ := dc2
  refine lv_iload_n hx hb hdg2 rfl (ls_at hl qq hls) ?_
  subst hq
  exact a_callV (a := adK i) (av := [.int (nI q)]) (rest := st.map (rv base)) ok0 hP hz hS hl.1 ⟨hc1, hc2⟩ dc3 iJ0_charAt_5068e lk (vk_recv hS4 hi hS) (es_bf i (adK i)) (fun U hU hW => ⟨adK, adV, vk_call hS4 hW hU hS, rfl⟩) (s_charAt hi hq2) hd rfl hcat (fun H1 locs1 hP hz hS => kk hc1 hc2 H1 locs1 rls hP hz hS hl)
set_option maxHeartbeats 4000000 in
set_option maxRecDepth 20000 in
theorem w_ldcCh2 {K : KT} {M : Mt} {d cl sl pc p1 pc' : Nat} {ls : List (Nat × Value)} {st : List Value} {I : SI} {J : SJ} {R : SR} {n g : Nat} {p2 p3 p4 idx idx2 i q : Nat} {cn tx : String} {k k2 : Fin 4} {x y : Int32} (ok : OK K M d) (hi : i < 4) (hown2 : M.1.cls = cn) (hstr : STR[i]? = some (cn, idx, tx)) (dc1 : Dc M pc (.ldc idx) 2 p1) (dc2 : Dc M p1 (.iload_n k) 1 p2) (dc4 : Dc M p2 (.iload_n k2) 1 p3) (dc5 : Dc M p3 .iadd 1 p4) (dc3 : Dc M p4 (.invokevirtual idx2) 3 pc') (lk : LK M idx2 mJ0_charAt_5068e) (hd : 3 < d) (hw : (st.map Value.category).sum ≤ 6) (qq q4 : Nat) (hls : ls[qq]? = some ((k : Nat), .int x)) (hls2 : ls[q4]? = some ((k2 : Nat), .int y)) (hq : x + y = nI q) (hq2 : q < STL.getD i 0) (kk : WK K cl sl pc' ls (.int (chS i q) :: st) I J R n g) : WK K cl sl pc ls st I J R n g := by
  obtain ⟨p, l, e, Rm, s, m, args, below, meth, c, Q, cy, D, base, nL⟩ := K
  have ok0 := ok
  obtain ⟨hx, hb, hnL, hml, hts, hown, hK, hNW, hfr, hlo, hbs, hini, hXS⟩ := ok
  intro hc1 hc2 H locs rls hP hz hS hl
  obtain ⟨adK, adV, hS4, hR⟩ := hXS.1
  have hcat : ((st.map (rv base)).map fun v => v.category).sum ≤ 8 := by
    rw [List.map_map]
    have e : ((fun v => v.category) ∘ rv base) = Value.category := by funext v; exact rv_cat base v
    rw [e]; exact (by omega)
  obtain ⟨hdg1, rfl⟩ := dc1
  have hrr := hR i _ hstr
  rw [← hown2] at hrr
  refine va_ldcS hx hb (own := M.1.cls) (tx := tx) (q := adK i) hown hrr hdg1 ?_
  obtain ⟨hdg2, rfl⟩ := dc2
  refine lv_iload_n hx hb hdg2 rfl (ls_at hl qq hls) ?_
  obtain ⟨hdg4, rfl⟩ := dc4
  refine lv_iload_n hx hb hdg4 rfl (ls_at hl q4 hls2) ?_
  obtain ⟨hdg5, rfl⟩ := dc5
  refine lv_iadd hx hb hdg5 ?_
  show W p l e Rm s m args below meth c H locs _ _ Q (F0 m _ rls (.int (x + y) :: .ref (adK i) :: st.map (rv base)))
  rw [hq]
  exact a_callV (a := adK i) (av := [.int (nI q)]) (rest := st.map (rv base)) ok0 hP hz hS hl.1 ⟨hc1, hc2⟩ dc3 iJ0_charAt_5068e lk (vk_recv hS4 hi hS) (es_bf i (adK i)) (fun U hU hW => ⟨adK, adV, vk_call hS4 hW hU hS, rfl⟩) (s_charAt hi hq2) hd rfl hcat (fun H1 locs1 hP hz hS => kk hc1 hc2 H1 locs1 rls hP hz hS hl)
