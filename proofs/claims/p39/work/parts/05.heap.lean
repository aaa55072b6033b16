/-! fields, arrays, calls, answers of the small machine -/
def CLS (ci : Nat) (C : String) (T : u_T) (N : Nat) : Prop := vwCl[ci]? = some (C, T, N) ∧ nF ci = N ∧ ci < 13 ∧ (∀ w ∈ u_ws C T N, w ∈ ALLW) ∧ (∀ k, k < N → parseFieldDescriptor (T k).2.2.1 = some (tyC ci k)) ∧ (∀ a, a < N → ∀ b, b < N → a ≠ b → (T a).2.1 ≠ (T b).2.1)
/-- in a method of M's class, the number idx of the pool links field j of class ci -/
def FL (M : Mt) (idx ci j : Nat) : Prop := ∃ (C : String) (T : u_T) (N : Nat), CLS ci C T N ∧ j < N ∧ (Cond.fieldLink M.1.cls idx (T j).1 (T j).2.1 (T j).2.2.1 ∈ ALLW ∨ ∃ host, Cond.fieldLinkNest M.1.cls idx (T j).1 (T j).2.1 (T j).2.2.1 host ∈ NW)
/-- .. and it isn't final -/
def FLW (M : Mt) (idx ci j : Nat) : Prop := ∃ (C : String) (T : u_T) (N : Nat), CLS ci C T N ∧ j < N ∧ (T j).2.2.2 = false ∧ (Cond.fieldLink M.1.cls idx (T j).1 (T j).2.1 (T j).2.2.1 ∈ ALLW ∨ ∃ host, Cond.fieldLinkNest M.1.cls idx (T j).1 (T j).2.1 (T j).2.2.1 host ∈ NW)
/-- .. and it is final, in a constructor of its own class -/
def FLF (M : Mt) (idx ci j : Nat) : Prop := M.1.name = "<init>" ∧ ∃ (C : String) (T : u_T) (N : Nat), CLS ci C T N ∧ j < N ∧ (T j).2.2.2 = true ∧ (T j).1 = M.1.cls ∧ Cond.fieldLink M.1.cls idx (T j).1 (T j).2.1 (T j).2.2.1 ∈ ALLW
theorem w_getI {K : KT} {M : Mt} {d cl sl pc pc' : Nat} {ls : List (Nat × Value)} {st : List Value} {I : SI} {J : SJ} {R : SR} {n g : Nat} {idx ci j k : Nat} (ok : OK K M d) (dc : Dc M pc (.getfield idx) 3 pc') (fl : FL M idx ci j) (hs : (SH k).1 = ci) (ht : isI (tyC ci j) = true) (hk : k < n) (kk : WK K cl sl pc' ls (.int (I k j) :: st) I J R n g) : WK K cl sl pc ls (.ref k :: st) I J R n g := by
  obtain ⟨p, l, e, Rm, s, m, args, below, meth, c, Q, cy, D, base, nL⟩ := K
  obtain ⟨hx, hb, hnL, hml, hts, hown, hK, hNW, hfr, hlo, hbs, hini, hXS⟩ := ok
  obtain ⟨hdg, rfl⟩ := dc
  intro hc1 hc2 H locs rls hP hz hS hl
  obtain ⟨C, T, N, ⟨hc, hN, hlt, hin, hty, hnm⟩, hj, hlink⟩ := fl
  have he : (wl cy base I J R n)[k]? = some (base + k, .inr (ci, (List.range (nF ci)).map (fv base I J R k))) := by rw [wl_get hk, en_obj hs hlt]
  have hv : ((List.range (nF ci)).map (fv base I J R k))[j]? = some (.int (I k j)) := by rw [List.getElem?_map, List.getElem?_range (by omega)]; exact congrArg some (fv_I hs ht)
  rcases hlink with hlink | ⟨host, hlink⟩
  · exact va_get hx hb hts hin hown hK hP k he hc j hj (hts _ hlink) (fun x h => h) hv hdg (kk hc1 hc2 H locs rls hP hz hS hl)
  · exact va_getN hx hb hts hin hown hK hP k he hc j hj (va_Nw.use rfl (hNW _ hlink)) (fun x h => h) hv hdg (kk hc1 hc2 H locs rls hP hz hS hl)
theorem w_getJ {K : KT} {M : Mt} {d cl sl pc pc' : Nat} {ls : List (Nat × Value)} {st : List Value} {I : SI} {J : SJ} {R : SR} {n g : Nat} {idx ci j k : Nat} (ok : OK K M d) (dc : Dc M pc (.getfield idx) 3 pc') (fl : FL M idx ci j) (hs : (SH k).1 = ci) (ht : tyC ci j = .long) (hk : k < n) (kk : WK K cl sl pc' ls (.long (J k j) :: st) I J R n g) : WK K cl sl pc ls (.ref k :: st) I J R n g := by
  obtain ⟨p, l, e, Rm, s, m, args, below, meth, c, Q, cy, D, base, nL⟩ := K
  obtain ⟨hx, hb, hnL, hml, hts, hown, hK, hNW, hfr, hlo, hbs, hini, hXS⟩ := ok
  obtain ⟨hdg, rfl⟩ := dc
  intro hc1 hc2 H locs rls hP hz hS hl
  obtain ⟨C, T, N, ⟨hc, hN, hlt, hin, hty, hnm⟩, hj, hlink⟩ := fl
  have he : (wl cy base I J R n)[k]? = some (base + k, .inr (ci, (List.range (nF ci)).map (fv base I J R k))) := by rw [wl_get hk, en_obj hs hlt]
  have hv : ((List.range (nF ci)).map (fv base I J R k))[j]? = some (.long (J k j)) := by rw [List.getElem?_map, List.getElem?_range (by omega)]; exact congrArg some (fv_J hs ht)
  rcases hlink with hlink | ⟨host, hlink⟩
  · exact va_get hx hb hts hin hown hK hP k he hc j hj (hts _ hlink) (fun x h => h) hv hdg (kk hc1 hc2 H locs rls hP hz hS hl)
  · exact va_getN hx hb hts hin hown hK hP k he hc j hj (va_Nw.use rfl (hNW _ hlink)) (fun x h => h) hv hdg (kk hc1 hc2 H locs rls hP hz hS hl)
theorem w_getR {K : KT} {M : Mt} {d cl sl pc pc' : Nat} {ls : List (Nat × Value)} {st : List Value} {I : SI} {J : SJ} {R : SR} {n g : Nat} {idx ci j k : Nat} (ok : OK K M d) (dc : Dc M pc (.getfield idx) 3 pc') (fl : FL M idx ci j) (hs : (SH k).1 = ci) (ht : isR (tyC ci j) = true) {r : Nat} (hr : R k j = some r) (hk : k < n) (kk : WK K cl sl pc' ls (.ref r :: st) I J R n g) : WK K cl sl pc ls (.ref k :: st) I J R n g := by
  obtain ⟨p, l, e, Rm, s, m, args, below, meth, c, Q, cy, D, base, nL⟩ := K
  obtain ⟨hx, hb, hnL, hml, hts, hown, hK, hNW, hfr, hlo, hbs, hini, hXS⟩ := ok
  obtain ⟨hdg, rfl⟩ := dc
  intro hc1 hc2 H locs rls hP hz hS hl
  obtain ⟨C, T, N, ⟨hc, hN, hlt, hin, hty, hnm⟩, hj, hlink⟩ := fl
  have he : (wl cy base I J R n)[k]? = some (base + k, .inr (ci, (List.range (nF ci)).map (fv base I J R k))) := by rw [wl_get hk, en_obj hs hlt]
  have hv : ((List.range (nF ci)).map (fv base I J R k))[j]? = some (.ref (base + r)) := by rw [List.getElem?_map, List.getElem?_range (by omega)]; exact congrArg some ((fv_R hs ht).trans (by rw [hr]; rfl))
  rcases hlink with hlink | ⟨host, hlink⟩
  · exact va_get hx hb hts hin hown hK hP k he hc j hj (hts _ hlink) (fun x h => h) hv hdg (kk hc1 hc2 H locs rls hP hz hS hl)
  · exact va_getN hx hb hts hin hown hK hP k he hc j hj (va_Nw.use rfl (hNW _ hlink)) (fun x h => h) hv hdg (kk hc1 hc2 H locs rls hP hz hS hl)
section XA
variable {p : Program} {l : Launch} {e : Env} {Rm : Room} {s : State} {m : MethodId} {args : Array Value} {below : List Frame} {meth : Method} {c : Code} {H : Heap} {locs : List Loc} {cells slots : Nat} {Q : State → Prop} {cc : ByteArray} {pc : Nat} {ls : Array Slot} {rest : List Value} {D : va_G} {cl : List vw_C} {ws : va_W} {tys : List (ClassId × FieldType)} {A : Nat → Prop} {H0 : Heap} {a : Nat}

theorem xa_put (hexec : p.tables.exec = Jvm.exec) (hb : c.code = cc) {own C : String} {T : u_T} {N ci index : Nat} {Ts : List Cond} (hts : ∀ w ∈ Ts, w.before args s = true) (hin : ∀ w ∈ u_ws C T N, w ∈ Ts) (ty0 : Nat → FieldType) (hty : ∀ k, k < N → parseFieldDescriptor (T k).2.2.1 = some (ty0 k)) (hnm : ∀ a, a < N → ∀ b, b < N → a ≠ b → (T a).2.1 ≠ (T b).2.1) (hown : s.vm.findClass own = some m.cls) (hK : va_K D cl tys s) (hP : va_P D cl ws H) (hD : va_D A ws) (hS0 : va_S A H0 H locs) (q0 : Nat) {fs : List Value} (he : ws[q0]? = some (a, .inr (ci, fs))) (hc : cl[ci]? = some (C, T, N)) (k : Nat) (hk : k < N) (hlink : (Cond.fieldLink own index (T k).1 (T k).2.1 (T k).2.2.1).before args s = true) (hfin : (T k).2.2.2 = false) {v : Value} (hn : narrow (ty0 k) v = v) (hfit : fits (ty0 k) v = true) (hl : k < fs.length)
    (hdg : decode cc pc = .ok (.putfield index, 3)) (kk : ∀ (H1 : Heap) (locs1 : List Loc), H1.size = H.size → va_P D cl (ws.set q0 (a, .inr (ci, fs.set k v))) H1 → va_S A H0 H1 locs1 → W p l e Rm s m args below meth c H1 locs1 cells slots Q (F0 m (pc + 3) ls rest)) : W p l e Rm s m args below meth c H locs cells slots Q (F0 m pc ls (v :: .ref a :: rest)) := by
  have hap := va_apart (own := own) hts hin ty0 hty hnm hK hc
  obtain ⟨r, h1, cell, q1, q2, q3, q4⟩ := hP q0 _ he
  have hr : r = (C, T, N) := Option.some.inj (h1.symm.trans hc)
  subst hr
  obtain ⟨hS, hfc, kC, hkC, hkind⟩ := hK.1 ci _ hc
  obtain ⟨cf, kf, fi, f, hi, hsl⟩ := hS k hk
  have hlay := hts _ (hin _ (u_in_lay hk))
  unfold u_lay at hlay
  rw [if_neg (by rw [hfin]; decide)] at hlay
  have hst := (u_facts hfc hkC (u_lays hts hin hk) hi).1
  have h6 := u_store hfc hkC hkind hlay hi (hty k hk) hn hfit
  refine W.putK hexec hb (f := f) ⟨hown, hlink, ⟨_, _, _, hi⟩, hst⟩ (by rw [q2]; exact h6) q1 q3 (by rw [hsl]; exact k2_hasslot (q4 k hk)) rfl rfl hdg fun H' e1 e2 e3 => ?_
  rw [hsl] at e1 ⊢
  exact kk H' _ e2 (hP.set hD he ⟨_, hc, t_OB.to (V := updV (vp_V fs) k v) ⟨_, e1, q2, q3, t_set q4 hap hk v⟩ (fun j _ => vp_updV_set hl v j)⟩ e3) (hS0.put e2 e3 (hD.2 q0 _ he))
theorem xa_putN (hexec : p.tables.exec = Jvm.exec) (hb : c.code = cc) {own C host : String} {T : u_T} {N ci index : Nat} {Ts : List Cond} (hts : ∀ w ∈ Ts, w.before args s = true) (hin : ∀ w ∈ u_ws C T N, w ∈ Ts) (ty0 : Nat → FieldType) (hty : ∀ k, k < N → parseFieldDescriptor (T k).2.2.1 = some (ty0 k)) (hnm : ∀ a, a < N → ∀ b, b < N → a ≠ b → (T a).2.1 ≠ (T b).2.1) (hown : s.vm.findClass own = some m.cls) (hK : va_K D cl tys s) (hP : va_P D cl ws H) (hD : va_D A ws) (hS0 : va_S A H0 H locs) (q0 : Nat) {fs : List Value} (he : ws[q0]? = some (a, .inr (ci, fs))) (hc : cl[ci]? = some (C, T, N)) (k : Nat) (hk : k < N) (hlink : (Cond.fieldLinkNest own index (T k).1 (T k).2.1 (T k).2.2.1 host).before args s = true) (hfin : (T k).2.2.2 = false) {v : Value} (hn : narrow (ty0 k) v = v) (hfit : fits (ty0 k) v = true) (hl : k < fs.length)
    (hdg : decode cc pc = .ok (.putfield index, 3)) (kk : ∀ (H1 : Heap) (locs1 : List Loc), H1.size = H.size → va_P D cl (ws.set q0 (a, .inr (ci, fs.set k v))) H1 → va_S A H0 H1 locs1 → W p l e Rm s m args below meth c H1 locs1 cells slots Q (F0 m (pc + 3) ls rest)) : W p l e Rm s m args below meth c H locs cells slots Q (F0 m pc ls (v :: .ref a :: rest)) := by
  have hap := va_apart (own := own) hts hin ty0 hty hnm hK hc
  obtain ⟨r, h1, cell, q1, q2, q3, q4⟩ := hP q0 _ he
  have hr : r = (C, T, N) := Option.some.inj (h1.symm.trans hc)
  subst hr
  obtain ⟨hS, hfc, kC, hkC, hkind⟩ := hK.1 ci _ hc
  obtain ⟨cf, kf, fi, f, hi, hsl⟩ := hS k hk
  have hlay := hts _ (hin _ (u_in_lay hk))
  unfold u_lay at hlay
  rw [if_neg (by rw [hfin]; decide)] at hlay
  have hst := (u_facts hfc hkC (u_lays hts hin hk) hi).1
  have h6 := u_store hfc hkC hkind hlay hi (hty k hk) hn hfit
  refine va_WputK hexec hb (f := f) hown hlink hi hst (by rw [q2]; exact h6) q1 q3 (by rw [hsl]; exact k2_hasslot (q4 k hk)) rfl rfl hdg fun H' e1 e2 e3 => ?_
  rw [hsl] at e1 ⊢
  exact kk H' _ e2 (hP.set hD he ⟨_, hc, t_OB.to (V := updV (vp_V fs) k v) ⟨_, e1, q2, q3, t_set q4 hap hk v⟩ (fun j _ => vp_updV_set hl v j)⟩ e3) (hS0.put e2 e3 (hD.2 q0 _ he))
theorem xa_putF (hexec : p.tables.exec = Jvm.exec) (hb : c.code = cc) {own C : String} {T : u_T} {N ci index : Nat} {Ts : List Cond} (hts : ∀ w ∈ Ts, w.before args s = true) (hin : ∀ w ∈ u_ws C T N, w ∈ Ts) (ty0 : Nat → FieldType) (hty : ∀ k, k < N → parseFieldDescriptor (T k).2.2.1 = some (ty0 k)) (hnm : ∀ a, a < N → ∀ b, b < N → a ≠ b → (T a).2.1 ≠ (T b).2.1) (hown : s.vm.findClass own = some m.cls) (hK : va_K D cl tys s) (hP : va_P D cl ws H) (hD : va_D A ws) (hS0 : va_S A H0 H locs) (q0 : Nat) {fs : List Value} (he : ws[q0]? = some (a, .inr (ci, fs))) (hc : cl[ci]? = some (C, T, N)) (k : Nat) (hk : k < N) (hlink : (Cond.fieldLink own index (T k).1 (T k).2.1 (T k).2.2.1).before args s = true) (hfin : (T k).2.2.2 = true) (hin2 : meth.name = "<init>") (hdecl : (T k).1 = own) {v : Value} (hn : narrow (ty0 k) v = v) (hfit : fits (ty0 k) v = true) (hl : k < fs.length)
    (hdg : decode cc pc = .ok (.putfield index, 3)) (kk : ∀ (H1 : Heap) (locs1 : List Loc), H1.size = H.size → va_P D cl (ws.set q0 (a, .inr (ci, fs.set k v))) H1 → va_S A H0 H1 locs1 → W p l e Rm s m args below meth c H1 locs1 cells slots Q (F0 m (pc + 3) ls rest)) : W p l e Rm s m args below meth c H locs cells slots Q (F0 m pc ls (v :: .ref a :: rest)) := by
  have hap := va_apart (own := own) hts hin ty0 hty hnm hK hc
  obtain ⟨r, h1, cell, q1, q2, q3, q4⟩ := hP q0 _ he
  have hr : r = (C, T, N) := Option.some.inj (h1.symm.trans hc)
  subst hr
  obtain ⟨hS, hfc, kC, hkC, hkind⟩ := hK.1 ci _ hc
  obtain ⟨cf, kf, fi, f, hi, hsl⟩ := hS k hk
  have hlay := hts _ (hin _ (u_in_lay hk))
  unfold u_lay at hlay
  rw [if_pos hfin] at hlay
  have hst := (u_facts hfc hkC (u_lays hts hin hk) hi).1
  have hcf : m.cls = cf := by
    obtain ⟨_, _, c', _, _, _, -, -, hf', -, -, -, hown2, -⟩ := Cond.laysFinal_spec hlay
    have e1 : c' = cf := by have := hi.symm.trans hf'; simp at this; exact this.1.symm
    rw [hdecl] at hown2
    rw [← e1]; exact Option.some.inj (hown.symm.trans hown2)
  have h6 := u_fits hfc hkC hkind (Or.inr hlay) hi (hty k hk) hn hfit
  refine W.putFinK hexec hb hown hlink hi hst hcf hin2 (by rw [q2]; exact h6) q1 q3 (by rw [hsl]; exact k2_hasslot (q4 k hk)) rfl rfl hdg fun H' e1 e2 e3 => ?_
  rw [hsl] at e1 ⊢
  exact kk H' _ e2 (hP.set hD he ⟨_, hc, t_OB.to (V := updV (vp_V fs) k v) ⟨_, e1, q2, q3, t_set q4 hap hk v⟩ (fun j _ => vp_updV_set hl v j)⟩ e3) (hS0.put e2 e3 (hD.2 q0 _ he))
theorem xa_iast (hexec : p.tables.exec = Jvm.exec) (hb : c.code = cc) (hK : va_K D cl tys s) (hP : va_P D cl ws H) (hD : va_D A ws) (hS : va_S A H0 H locs) (q0 t0 : Nat) {cA : ClassId} {n : Nat} {f : Nat → Int32} (ha : ws[q0]? = some (a, .inl (cA, n, .inl f))) (ht : tys[t0]? = some (cA, .int)) {i : Int32} {x : Int32} (hin : vp_in i n) (hdg : decode cc pc = .ok (.iastore, 1))
    (kk : ∀ (H1 : Heap) (locs1 : List Loc), H1.size = H.size → va_P D cl (ws.set q0 (a, .inl (cA, n, .inl (upd f i.toNatClampNeg x)))) H1 → va_S A H0 H1 locs1 → W p l e Rm s m args below meth c H1 locs1 cells slots Q (F0 m (pc + 1) ls rest)) : W p l e Rm s m args below meth c H locs cells slots Q (F0 m pc ls (.int x :: .int i :: .ref a :: rest)) := by
  refine W.iast hexec hb (hP q0 _ ha) ((hK.2 t0 _ ht).1 n (fun j => .int (f j))) (fun q => by cases q) (by show ¬ (i < 0 ∨ (arrV _ _ _).slots.size ≤ _); rw [arrV_size]; exact hin) rfl rfl hdg fun H1 e z oq => ?_
  refine kk H1 _ z (hP.set hD ha ?_ oq) (hS.put z oq (hD.2 q0 _ ha))
  show H1[a]? = some (vp_cell _ _)
  rw [e]
  rw [vp_cell_i, vp_cell_i, arrV_store]
  congr 2
  funext q
  by_cases hq : q = i.toNatClampNeg
  · subst hq
    simp [updV, upd, vp_nar, vp_updL]
    try rfl
  · simp [updV, upd, vp_updL, hq]
theorem xa_bast (hexec : p.tables.exec = Jvm.exec) (hb : c.code = cc) (hK : va_K D cl tys s) (hP : va_P D cl ws H) (hD : va_D A ws) (hS : va_S A H0 H locs) (q0 t0 : Nat) {cA : ClassId} {n : Nat} {f : Nat → Int32} (ha : ws[q0]? = some (a, .inl (cA, n, .inl f))) (ht : tys[t0]? = some (cA, .byte)) {i : Int32} {x : Int32} (hin : vp_in i n) (hdg : decode cc pc = .ok (.bastore, 1))
    (kk : ∀ (H1 : Heap) (locs1 : List Loc), H1.size = H.size → va_P D cl (ws.set q0 (a, .inl (cA, n, .inl (upd f i.toNatClampNeg (vp_nar .byte x))))) H1 → va_S A H0 H1 locs1 → W p l e Rm s m args below meth c H1 locs1 cells slots Q (F0 m (pc + 1) ls rest)) : W p l e Rm s m args below meth c H locs cells slots Q (F0 m pc ls (.int x :: .int i :: .ref a :: rest)) := by
  refine W.bast hexec hb (hP q0 _ ha) ((hK.2 t0 _ ht).1 n (fun j => .int (f j))) (fun q => by cases q) (by show ¬ (i < 0 ∨ (arrV _ _ _).slots.size ≤ _); rw [arrV_size]; exact hin) rfl rfl hdg fun H1 e z oq => ?_
  refine kk H1 _ z (hP.set hD ha ?_ oq) (hS.put z oq (hD.2 q0 _ ha))
  show H1[a]? = some (vp_cell _ _)
  rw [e]
  rw [vp_cell_i, vp_cell_i, arrV_store]
  congr 2
  funext q
  by_cases hq : q = i.toNatClampNeg
  · subst hq
    simp [updV, upd, vp_nar, vp_updL]
    try rfl
  · simp [updV, upd, vp_updL, hq]
theorem xa_zast (hexec : p.tables.exec = Jvm.exec) (hb : c.code = cc) (hK : va_K D cl tys s) (hP : va_P D cl ws H) (hD : va_D A ws) (hS : va_S A H0 H locs) (q0 t0 : Nat) {cA : ClassId} {n : Nat} {f : Nat → Int32} (ha : ws[q0]? = some (a, .inl (cA, n, .inl f))) (ht : tys[t0]? = some (cA, .boolean)) {i : Int32} {x : Int32} (hin : vp_in i n) (hdg : decode cc pc = .ok (.bastore, 1))
    (kk : ∀ (H1 : Heap) (locs1 : List Loc), H1.size = H.size → va_P D cl (ws.set q0 (a, .inl (cA, n, .inl (upd f i.toNatClampNeg (vp_nar .boolean x))))) H1 → va_S A H0 H1 locs1 → W p l e Rm s m args below meth c H1 locs1 cells slots Q (F0 m (pc + 1) ls rest)) : W p l e Rm s m args below meth c H locs cells slots Q (F0 m pc ls (.int x :: .int i :: .ref a :: rest)) := by
  refine W.zast hexec hb (hP q0 _ ha) ((hK.2 t0 _ ht).1 n (fun j => .int (f j))) (fun q => by cases q) (by show ¬ (i < 0 ∨ (arrV _ _ _).slots.size ≤ _); rw [arrV_size]; exact hin) rfl rfl hdg fun H1 e z oq => ?_
  refine kk H1 _ z (hP.set hD ha ?_ oq) (hS.put z oq (hD.2 q0 _ ha))
  show H1[a]? = some (vp_cell _ _)
  rw [e]
  rw [vp_cell_i, vp_cell_i, arrV_store]
  congr 2
  funext q
  by_cases hq : q = i.toNatClampNeg
  · subst hq
    simp [updV, upd, vp_nar, vp_updL]
    try rfl
  · simp [updV, upd, vp_updL, hq]
theorem xa_last (hexec : p.tables.exec = Jvm.exec) (hb : c.code = cc) (hK : va_K D cl tys s) (hP : va_P D cl ws H) (hD : va_D A ws) (hS : va_S A H0 H locs) (q0 t0 : Nat) {cA : ClassId} {n : Nat} {f : Nat → Int64} (ha : ws[q0]? = some (a, .inl (cA, n, .inr (.inl f)))) (ht : tys[t0]? = some (cA, .long)) {i : Int32} {x : Int64} (hin : vp_in i n) (hdg : decode cc pc = .ok (.lastore, 1))
    (kk : ∀ (H1 : Heap) (locs1 : List Loc), H1.size = H.size → va_P D cl (ws.set q0 (a, .inl (cA, n, .inr (.inl (vp_updL f i.toNatClampNeg x))))) H1 → va_S A H0 H1 locs1 → W p l e Rm s m args below meth c H1 locs1 cells slots Q (F0 m (pc + 1) ls rest)) : W p l e Rm s m args below meth c H locs cells slots Q (F0 m pc ls (.long x :: .int i :: .ref a :: rest)) := by
  refine W.last hexec hb (hP q0 _ ha) ((hK.2 t0 _ ht).1 n (fun j => .long (f j))) (fun q => by cases q) (by show ¬ (i < 0 ∨ (arrV _ _ _).slots.size ≤ _); rw [arrV_size]; exact hin) rfl rfl hdg fun H1 e z oq => ?_
  refine kk H1 _ z (hP.set hD ha ?_ oq) (hS.put z oq (hD.2 q0 _ ha))
  show H1[a]? = some (vp_cell _ _)
  rw [e]
  rw [vp_cell_l, vp_cell_l, arrV_store]
  congr 2
  funext q
  by_cases hq : q = i.toNatClampNeg
  · subst hq
    simp [updV, upd, vp_nar, vp_updL]
    try rfl
  · simp [updV, upd, vp_updL, hq]
end XA
theorem w_putI {K : KT} {M : Mt} {d cl sl pc pc' : Nat} {ls : List (Nat × Value)} {st : List Value} {I : SI} {J : SJ} {R : SR} {n g : Nat} {idx ci j k : Nat} {x : Int32} (ok : OK K M d) (dc : Dc M pc (.putfield idx) 3 pc') (fl : FLW M idx ci j) (hs : (SH k).1 = ci) (ht : tyC ci j = .int) (hk : k < n) (kk : WK K cl sl pc' ls st (u2 I k j x) J R n g) : WK K cl sl pc ls (.int x :: .ref k :: st) I J R n g := by
  obtain ⟨p, l, e, Rm, s, m, args, below, meth, c, Q, cy, D, base, nL⟩ := K
  obtain ⟨hx, hb, hnL, hml, hts, hown, hK, hNW, hfr, hlo, hbs, hini, hXS⟩ := ok
  obtain ⟨hdg, rfl⟩ := dc
  intro hc1 hc2 H locs rls hP hz hS hl
  obtain ⟨C, T, N, ⟨hc, hN, hlt, hin, hty, hnm⟩, hj, hnf, hlink⟩ := fl
  have he : (wl cy base I J R n)[k]? = some (base + k, .inr (ci, (List.range (nF ci)).map (fv base I J R k))) := by rw [wl_get hk, en_obj hs hlt]
  have hfl : j < ((List.range (nF ci)).map (fv base I J R k)).length := by simp; omega
  have hset : (wl cy base I J R n).set k (base + k, .inr (ci, ((List.range (nF ci)).map (fv base I J R k)).set j (.int x))) = wl cy base (u2 I k j x) J R n := wl_set hk (by rw [en_obj hs hlt, fv_putI hs (by rw [ht]; rfl)]) en_otherI
  have go : ∀ (H1 : Heap) (locs1 : List Loc), H1.size = H.size → va_P D vwCl ((wl cy base I J R n).set k (base + k, .inr (ci, ((List.range (nF ci)).map (fv base I J R k)).set j (.int x)))) H1 → va_S (fun q => base ≤ q) s.heap H1 locs1 → W p l e Rm s m args below meth c H1 locs1 cl sl Q (F0 m (pc + 3) rls (st.map (rv base))) := fun H1 locs1 h1 h2 h3 => kk hc1 hc2 H1 locs1 rls (hset ▸ h2) (h1.trans hz) h3 hl
  rcases hlink with hlink | ⟨host, hlink⟩
  · exact xa_put hx hb hts hin (tyC ci) hty hnm hown hK hP wl_D hS k he hc j hj (hts _ hlink) hnf (by rw [ht]; rfl) (by rw [ht]; rfl) hfl hdg go
  · exact xa_putN hx hb hts hin (tyC ci) hty hnm hown hK hP wl_D hS k he hc j hj (va_Nw.use rfl (hNW _ hlink)) hnf (by rw [ht]; rfl) (by rw [ht]; rfl) hfl hdg go
theorem w_putIF {K : KT} {M : Mt} {d cl sl pc pc' : Nat} {ls : List (Nat × Value)} {st : List Value} {I : SI} {J : SJ} {R : SR} {n g : Nat} {idx ci j k : Nat} {x : Int32} (ok : OK K M d) (dc : Dc M pc (.putfield idx) 3 pc') (fl : FLF M idx ci j) (hs : (SH k).1 = ci) (ht : tyC ci j = .int) (hk : k < n) (kk : WK K cl sl pc' ls st (u2 I k j x) J R n g) : WK K cl sl pc ls (.int x :: .ref k :: st) I J R n g := by
  obtain ⟨p, l, e, Rm, s, m, args, below, meth, c, Q, cy, D, base, nL⟩ := K
  obtain ⟨hx, hb, hnL, hml, hts, hown, hK, hNW, hfr, hlo, hbs, hini, hXS⟩ := ok
  obtain ⟨hdg, rfl⟩ := dc
  intro hc1 hc2 H locs rls hP hz hS hl
  obtain ⟨hi0, C, T, N, ⟨hc, hN, hlt, hin, hty, hnm⟩, hj, hnf, hdecl, hlink⟩ := fl
  have he : (wl cy base I J R n)[k]? = some (base + k, .inr (ci, (List.range (nF ci)).map (fv base I J R k))) := by rw [wl_get hk, en_obj hs hlt]
  have hfl : j < ((List.range (nF ci)).map (fv base I J R k)).length := by simp; omega
  have hset : (wl cy base I J R n).set k (base + k, .inr (ci, ((List.range (nF ci)).map (fv base I J R k)).set j (.int x))) = wl cy base (u2 I k j x) J R n := wl_set hk (by rw [en_obj hs hlt, fv_putI hs (by rw [ht]; rfl)]) en_otherI
  have go : ∀ (H1 : Heap) (locs1 : List Loc), H1.size = H.size → va_P D vwCl ((wl cy base I J R n).set k (base + k, .inr (ci, ((List.range (nF ci)).map (fv base I J R k)).set j (.int x)))) H1 → va_S (fun q => base ≤ q) s.heap H1 locs1 → W p l e Rm s m args below meth c H1 locs1 cl sl Q (F0 m (pc + 3) rls (st.map (rv base))) := fun H1 locs1 h1 h2 h3 => kk hc1 hc2 H1 locs1 rls (hset ▸ h2) (h1.trans hz) h3 hl
  exact xa_putF hx hb hts hin (tyC ci) hty hnm hown hK hP wl_D hS k he hc j hj (hts _ hlink) hnf (hini hi0) hdecl (by rw [ht]; rfl) (by rw [ht]; rfl) hfl hdg go
theorem w_putZ {K : KT} {M : Mt} {d cl sl pc pc' : Nat} {ls : List (Nat × Value)} {st : List Value} {I : SI} {J : SJ} {R : SR} {n g : Nat} {idx ci j k : Nat} {x : Int32} (ok : OK K M d) (dc : Dc M pc (.putfield idx) 3 pc') (fl : FLW M idx ci j) (hs : (SH k).1 = ci) (ht : tyC ci j = .boolean) (hx01 : x = 0 ∨ x = 1) (hk : k < n) (kk : WK K cl sl pc' ls st (u2 I k j x) J R n g) : WK K cl sl pc ls (.int x :: .ref k :: st) I J R n g := by
  obtain ⟨p, l, e, Rm, s, m, args, below, meth, c, Q, cy, D, base, nL⟩ := K
  obtain ⟨hx, hb, hnL, hml, hts, hown, hK, hNW, hfr, hlo, hbs, hini, hXS⟩ := ok
  obtain ⟨hdg, rfl⟩ := dc
  intro hc1 hc2 H locs rls hP hz hS hl
  obtain ⟨C, T, N, ⟨hc, hN, hlt, hin, hty, hnm⟩, hj, hnf, hlink⟩ := fl
  have he : (wl cy base I J R n)[k]? = some (base + k, .inr (ci, (List.range (nF ci)).map (fv base I J R k))) := by rw [wl_get hk, en_obj hs hlt]
  have hfl : j < ((List.range (nF ci)).map (fv base I J R k)).length := by simp; omega
  have hset : (wl cy base I J R n).set k (base + k, .inr (ci, ((List.range (nF ci)).map (fv base I J R k)).set j (.int x))) = wl cy base (u2 I k j x) J R n := wl_set hk (by rw [en_obj hs hlt, fv_putI hs (by rw [ht]; rfl)]) en_otherI
  have go : ∀ (H1 : Heap) (locs1 : List Loc), H1.size = H.size → va_P D vwCl ((wl cy base I J R n).set k (base + k, .inr (ci, ((List.range (nF ci)).map (fv base I J R k)).set j (.int x)))) H1 → va_S (fun q => base ≤ q) s.heap H1 locs1 → W p l e Rm s m args below meth c H1 locs1 cl sl Q (F0 m (pc + 3) rls (st.map (rv base))) := fun H1 locs1 h1 h2 h3 => kk hc1 hc2 H1 locs1 rls (hset ▸ h2) (h1.trans hz) h3 hl
  rcases hlink with hlink | ⟨host, hlink⟩
  · exact xa_put hx hb hts hin (tyC ci) hty hnm hown hK hP wl_D hS k he hc j hj (hts _ hlink) hnf (by rw [ht]; rcases hx01 with rfl | rfl <;> rfl) (by rw [ht]; rcases hx01 with rfl | rfl <;> rfl) hfl hdg go
  · exact xa_putN hx hb hts hin (tyC ci) hty hnm hown hK hP wl_D hS k he hc j hj (va_Nw.use rfl (hNW _ hlink)) hnf (by rw [ht]; rcases hx01 with rfl | rfl <;> rfl) (by rw [ht]; rcases hx01 with rfl | rfl <;> rfl) hfl hdg go
theorem w_putZF {K : KT} {M : Mt} {d cl sl pc pc' : Nat} {ls : List (Nat × Value)} {st : List Value} {I : SI} {J : SJ} {R : SR} {n g : Nat} {idx ci j k : Nat} {x : Int32} (ok : OK K M d) (dc : Dc M pc (.putfield idx) 3 pc') (fl : FLF M idx ci j) (hs : (SH k).1 = ci) (ht : tyC ci j = .boolean) (hx01 : x = 0 ∨ x = 1) (hk : k < n) (kk : WK K cl sl pc' ls st (u2 I k j x) J R n g) : WK K cl sl pc ls (.int x :: .ref k :: st) I J R n g := by
  obtain ⟨p, l, e, Rm, s, m, args, below, meth, c, Q, cy, D, base, nL⟩ := K
  obtain ⟨hx, hb, hnL, hml, hts, hown, hK, hNW, hfr, hlo, hbs, hini, hXS⟩ := ok
  obtain ⟨hdg, rfl⟩ := dc
  intro hc1 hc2 H locs rls hP hz hS hl
  obtain ⟨hi0, C, T, N, ⟨hc, hN, hlt, hin, hty, hnm⟩, hj, hnf, hdecl, hlink⟩ := fl
  have he : (wl cy base I J R n)[k]? = some (base + k, .inr (ci, (List.range (nF ci)).map (fv base I J R k))) := by rw [wl_get hk, en_obj hs hlt]
  have hfl : j < ((List.range (nF ci)).map (fv base I J R k)).length := by simp; omega
  have hset : (wl cy base I J R n).set k (base + k, .inr (ci, ((List.range (nF ci)).map (fv base I J R k)).set j (.int x))) = wl cy base (u2 I k j x) J R n := wl_set hk (by rw [en_obj hs hlt, fv_putI hs (by rw [ht]; rfl)]) en_otherI
  have go : ∀ (H1 : Heap) (locs1 : List Loc), H1.size = H.size → va_P D vwCl ((wl cy base I J R n).set k (base + k, .inr (ci, ((List.range (nF ci)).map (fv base I J R k)).set j (.int x)))) H1 → va_S (fun q => base ≤ q) s.heap H1 locs1 → W p l e Rm s m args below meth c H1 locs1 cl sl Q (F0 m (pc + 3) rls (st.map (rv base))) := fun H1 locs1 h1 h2 h3 => kk hc1 hc2 H1 locs1 rls (hset ▸ h2) (h1.trans hz) h3 hl
  exact xa_putF hx hb hts hin (tyC ci) hty hnm hown hK hP wl_D hS k he hc j hj (hts _ hlink) hnf (hini hi0) hdecl (by rw [ht]; rcases hx01 with rfl | rfl <;> rfl) (by rw [ht]; rcases hx01 with rfl | rfl <;> rfl) hfl hdg go
theorem w_putJ {K : KT} {M : Mt} {d cl sl pc pc' : Nat} {ls : List (Nat × Value)} {st : List Value} {I : SI} {J : SJ} {R : SR} {n g : Nat} {idx ci j k : Nat} {x : Int64} (ok : OK K M d) (dc : Dc M pc (.putfield idx) 3 pc') (fl : FLW M idx ci j) (hs : (SH k).1 = ci) (ht : tyC ci j = .long) (hk : k < n) (kk : WK K cl sl pc' ls st I (u2 J k j x) R n g) : WK K cl sl pc ls (.long x :: .ref k :: st) I J R n g := by
  obtain ⟨p, l, e, Rm, s, m, args, below, meth, c, Q, cy, D, base, nL⟩ := K
  obtain ⟨hx, hb, hnL, hml, hts, hown, hK, hNW, hfr, hlo, hbs, hini, hXS⟩ := ok
  obtain ⟨hdg, rfl⟩ := dc
  intro hc1 hc2 H locs rls hP hz hS hl
  obtain ⟨C, T, N, ⟨hc, hN, hlt, hin, hty, hnm⟩, hj, hnf, hlink⟩ := fl
  have he : (wl cy base I J R n)[k]? = some (base + k, .inr (ci, (List.range (nF ci)).map (fv base I J R k))) := by rw [wl_get hk, en_obj hs hlt]
  have hfl : j < ((List.range (nF ci)).map (fv base I J R k)).length := by simp; omega
  have hset : (wl cy base I J R n).set k (base + k, .inr (ci, ((List.range (nF ci)).map (fv base I J R k)).set j (.long x))) = wl cy base I (u2 J k j x) R n := wl_set hk (by rw [en_obj hs hlt, fv_putJ hs ht]) en_otherJ
  have go : ∀ (H1 : Heap) (locs1 : List Loc), H1.size = H.size → va_P D vwCl ((wl cy base I J R n).set k (base + k, .inr (ci, ((List.range (nF ci)).map (fv base I J R k)).set j (.long x)))) H1 → va_S (fun q => base ≤ q) s.heap H1 locs1 → W p l e Rm s m args below meth c H1 locs1 cl sl Q (F0 m (pc + 3) rls (st.map (rv base))) := fun H1 locs1 h1 h2 h3 => kk hc1 hc2 H1 locs1 rls (hset ▸ h2) (h1.trans hz) h3 hl
  rcases hlink with hlink | ⟨host, hlink⟩
  · exact xa_put hx hb hts hin (tyC ci) hty hnm hown hK hP wl_D hS k he hc j hj (hts _ hlink) hnf (by rw [ht]; rfl) (by rw [ht]; rfl) hfl hdg go
  · exact xa_putN hx hb hts hin (tyC ci) hty hnm hown hK hP wl_D hS k he hc j hj (va_Nw.use rfl (hNW _ hlink)) hnf (by rw [ht]; rfl) (by rw [ht]; rfl) hfl hdg go
theorem w_putJF {K : KT} {M : Mt} {d cl sl pc pc' : Nat} {ls : List (Nat × Value)} {st : List Value} {I : SI} {J : SJ} {R : SR} {n g : Nat} {idx ci j k : Nat} {x : Int64} (ok : OK K M d) (dc : Dc M pc (.putfield idx) 3 pc') (fl : FLF M idx ci j) (hs : (SH k).1 = ci) (ht : tyC ci j = .long) (hk : k < n) (kk : WK K cl sl pc' ls st I (u2 J k j x) R n g) : WK K cl sl pc ls (.long x :: .ref k :: st) I J R n g := by
  obtain ⟨p, l, e, Rm, s, m, args, below, meth, c, Q, cy, D, base, nL⟩ := K
  obtain ⟨hx, hb, hnL, hml, hts, hown, hK, hNW, hfr, hlo, hbs, hini, hXS⟩ := ok
  obtain ⟨hdg, rfl⟩ := dc
  intro hc1 hc2 H locs rls hP hz hS hl
  obtain ⟨hi0, C, T, N, ⟨hc, hN, hlt, hin, hty, hnm⟩, hj, hnf, hdecl, hlink⟩ := fl
  have he : (wl cy base I J R n)[k]? = some (base + k, .inr (ci, (List.range (nF ci)).map (fv base I J R k))) := by rw [wl_get hk, en_obj hs hlt]
  have hfl : j < ((List.range (nF ci)).map (fv base I J R k)).length := by simp; omega
  have hset : (wl cy base I J R n).set k (base + k, .inr (ci, ((List.range (nF ci)).map (fv base I J R k)).set j (.long x))) = wl cy base I (u2 J k j x) R n := wl_set hk (by rw [en_obj hs hlt, fv_putJ hs ht]) en_otherJ
  have go : ∀ (H1 : Heap) (locs1 : List Loc), H1.size = H.size → va_P D vwCl ((wl cy base I J R n).set k (base + k, .inr (ci, ((List.range (nF ci)).map (fv base I J R k)).set j (.long x)))) H1 → va_S (fun q => base ≤ q) s.heap H1 locs1 → W p l e Rm s m args below meth c H1 locs1 cl sl Q (F0 m (pc + 3) rls (st.map (rv base))) := fun H1 locs1 h1 h2 h3 => kk hc1 hc2 H1 locs1 rls (hset ▸ h2) (h1.trans hz) h3 hl
  exact xa_putF hx hb hts hin (tyC ci) hty hnm hown hK hP wl_D hS k he hc j hj (hts _ hlink) hnf (hini hi0) hdecl (by rw [ht]; rfl) (by rw [ht]; rfl) hfl hdg go
theorem w_putR {K : KT} {M : Mt} {d cl sl pc pc' : Nat} {ls : List (Nat × Value)} {st : List Value} {I : SI} {J : SJ} {R : SR} {n g : Nat} {idx ci j k : Nat} {r : Nat} (ok : OK K M d) (dc : Dc M pc (.putfield idx) 3 pc') (fl : FLW M idx ci j) (hs : (SH k).1 = ci) (ht : isR (tyC ci j) = true) (hk : k < n) (kk : WK K cl sl pc' ls st I J (u2 R k j (some r)) n g) : WK K cl sl pc ls (.ref r :: .ref k :: st) I J R n g := by
  obtain ⟨p, l, e, Rm, s, m, args, below, meth, c, Q, cy, D, base, nL⟩ := K
  obtain ⟨hx, hb, hnL, hml, hts, hown, hK, hNW, hfr, hlo, hbs, hini, hXS⟩ := ok
  obtain ⟨hdg, rfl⟩ := dc
  intro hc1 hc2 H locs rls hP hz hS hl
  obtain ⟨C, T, N, ⟨hc, hN, hlt, hin, hty, hnm⟩, hj, hnf, hlink⟩ := fl
  have he : (wl cy base I J R n)[k]? = some (base + k, .inr (ci, (List.range (nF ci)).map (fv base I J R k))) := by rw [wl_get hk, en_obj hs hlt]
  have hfl : j < ((List.range (nF ci)).map (fv base I J R k)).length := by simp; omega
  have hset : (wl cy base I J R n).set k (base + k, .inr (ci, ((List.range (nF ci)).map (fv base I J R k)).set j (.ref (base + r)))) = wl cy base I J (u2 R k j (some r)) n := wl_set hk (by rw [en_obj hs hlt, fv_putR hs ht]) en_otherR
  have go : ∀ (H1 : Heap) (locs1 : List Loc), H1.size = H.size → va_P D vwCl ((wl cy base I J R n).set k (base + k, .inr (ci, ((List.range (nF ci)).map (fv base I J R k)).set j (.ref (base + r))))) H1 → va_S (fun q => base ≤ q) s.heap H1 locs1 → W p l e Rm s m args below meth c H1 locs1 cl sl Q (F0 m (pc + 3) rls (st.map (rv base))) := fun H1 locs1 h1 h2 h3 => kk hc1 hc2 H1 locs1 rls (hset ▸ h2) (h1.trans hz) h3 hl
  rcases hlink with hlink | ⟨host, hlink⟩
  · exact xa_put hx hb hts hin (tyC ci) hty hnm hown hK hP wl_D hS k he hc j hj (hts _ hlink) hnf (by cases h2 : tyC ci j <;> first | rfl | (rw [h2] at ht; cases ht)) (by cases h2 : tyC ci j <;> first | rfl | (rw [h2] at ht; cases ht)) hfl hdg go
  · exact xa_putN hx hb hts hin (tyC ci) hty hnm hown hK hP wl_D hS k he hc j hj (va_Nw.use rfl (hNW _ hlink)) hnf (by cases h2 : tyC ci j <;> first | rfl | (rw [h2] at ht; cases ht)) (by cases h2 : tyC ci j <;> first | rfl | (rw [h2] at ht; cases ht)) hfl hdg go
theorem w_putRF {K : KT} {M : Mt} {d cl sl pc pc' : Nat} {ls : List (Nat × Value)} {st : List Value} {I : SI} {J : SJ} {R : SR} {n g : Nat} {idx ci j k : Nat} {r : Nat} (ok : OK K M d) (dc : Dc M pc (.putfield idx) 3 pc') (fl : FLF M idx ci j) (hs : (SH k).1 = ci) (ht : isR (tyC ci j) = true) (hk : k < n) (kk : WK K cl sl pc' ls st I J (u2 R k j (some r)) n g) : WK K cl sl pc ls (.ref r :: .ref k :: st) I J R n g := by
  obtain ⟨p, l, e, Rm, s, m, args, below, meth, c, Q, cy, D, base, nL⟩ := K
  obtain ⟨hx, hb, hnL, hml, hts, hown, hK, hNW, hfr, hlo, hbs, hini, hXS⟩ := ok
  obtain ⟨hdg, rfl⟩ := dc
  intro hc1 hc2 H locs rls hP hz hS hl
  obtain ⟨hi0, C, T, N, ⟨hc, hN, hlt, hin, hty, hnm⟩, hj, hnf, hdecl, hlink⟩ := fl
  have he : (wl cy base I J R n)[k]? = some (base + k, .inr (ci, (List.range (nF ci)).map (fv base I J R k))) := by rw [wl_get hk, en_obj hs hlt]
  have hfl : j < ((List.range (nF ci)).map (fv base I J R k)).length := by simp; omega
  have hset : (wl cy base I J R n).set k (base + k, .inr (ci, ((List.range (nF ci)).map (fv base I J R k)).set j (.ref (base + r)))) = wl cy base I J (u2 R k j (some r)) n := wl_set hk (by rw [en_obj hs hlt, fv_putR hs ht]) en_otherR
  have go : ∀ (H1 : Heap) (locs1 : List Loc), H1.size = H.size → va_P D vwCl ((wl cy base I J R n).set k (base + k, .inr (ci, ((List.range (nF ci)).map (fv base I J R k)).set j (.ref (base + r))))) H1 → va_S (fun q => base ≤ q) s.heap H1 locs1 → W p l e Rm s m args below meth c H1 locs1 cl sl Q (F0 m (pc + 3) rls (st.map (rv base))) := fun H1 locs1 h1 h2 h3 => kk hc1 hc2 H1 locs1 rls (hset ▸ h2) (h1.trans hz) h3 hl
  exact xa_putF hx hb hts hin (tyC ci) hty hnm hown hK hP wl_D hS k he hc j hj (hts _ hlink) hnf (hini hi0) hdecl (by cases h2 : tyC ci j <;> first | rfl | (rw [h2] at ht; cases ht)) (by cases h2 : tyC ci j <;> first | rfl | (rw [h2] at ht; cases ht)) hfl hdg go
theorem w_alen {K : KT} {M : Mt} {d cl sl pc pc' : Nat} {ls : List (Nat × Value)} {st : List Value} {I : SI} {J : SJ} {R : SR} {n g : Nat} {k t len : Nat} {v : Int32} (ok : OK K M d) (dc : Dc M pc .arraylength 1 pc') (hs : SH k = (t, len)) (ht : t = 13 ∨ t = 14 ∨ t = 15 ∨ t = 16) (hv : Int32.ofNat len = v) (hk : k < n) (kk : WK K cl sl pc' ls (.int v :: st) I J R n g) : WK K cl sl pc ls (.ref k :: st) I J R n g := by
  obtain ⟨p, l, e, Rm, s, m, args, below, meth, c, Q, cy, D, base, nL⟩ := K
  obtain ⟨hx, hb, hnL, hml, hts, hown, hK, hNW, hfr, hlo, hbs, hini, hXS⟩ := ok
  obtain ⟨hdg, rfl⟩ := dc
  intro hc1 hc2 H locs rls hP hz hS hl
  have he := wl_get (cy := cy) (base := base) (I := I) (J := J) (R := R) hk
  rcases ht with rfl | rfl | rfl | rfl
  · rw [en_arr hs (by decide)] at he
    exact va_alen hx hb hK hP k 0 he (ty := .byte) rfl hv hdg (kk hc1 hc2 H locs rls hP hz hS hl)
  · rw [en_arr hs (by decide)] at he
    exact va_alen hx hb hK hP k 1 he (ty := .int) rfl hv hdg (kk hc1 hc2 H locs rls hP hz hS hl)
  · rw [en_arrL hs] at he
    exact va_alen hx hb hK hP k 2 he (ty := .long) rfl hv hdg (kk hc1 hc2 H locs rls hP hz hS hl)
  · rw [en_arr hs (by decide)] at he
    exact va_alen hx hb hK hP k 3 he (ty := .boolean) rfl hv hdg (kk hc1 hc2 H locs rls hP hz hS hl)
theorem w_iald {K : KT} {M : Mt} {d cl sl pc pc' : Nat} {ls : List (Nat × Value)} {st : List Value} {I : SI} {J : SJ} {R : SR} {n g : Nat} {k len : Nat} {i : Int32} (ok : OK K M d) (dc : Dc M pc .iaload 1 pc') (hs : SH k = (14, len)) (hin : vp_in i len) (hk : k < n) (kk : WK K cl sl pc' ls (.int (I k i.toNatClampNeg) :: st) I J R n g) : WK K cl sl pc ls (.int i :: .ref k :: st) I J R n g := by
  obtain ⟨p, l, e, Rm, s, m, args, below, meth, c, Q, cy, D, base, nL⟩ := K
  obtain ⟨hx, hb, hnL, hml, hts, hown, hK, hNW, hfr, hlo, hbs, hini, hXS⟩ := ok
  obtain ⟨hdg, rfl⟩ := dc
  intro hc1 hc2 H locs rls hP hz hS hl
  have he := wl_get (cy := cy) (base := base) (I := I) (J := J) (R := R) hk
  rw [en_arr hs (by decide)] at he
  exact va_iald hx hb hK hP k 1 he rfl hin hdg (kk hc1 hc2 H locs rls hP hz hS hl)
theorem w_bald {K : KT} {M : Mt} {d cl sl pc pc' : Nat} {ls : List (Nat × Value)} {st : List Value} {I : SI} {J : SJ} {R : SR} {n g : Nat} {k len : Nat} {i : Int32} (ok : OK K M d) (dc : Dc M pc .baload 1 pc') (hs : SH k = (13, len)) (hin : vp_in i len) (hk : k < n) (kk : WK K cl sl pc' ls (.int (I k i.toNatClampNeg) :: st) I J R n g) : WK K cl sl pc ls (.int i :: .ref k :: st) I J R n g := by
  obtain ⟨p, l, e, Rm, s, m, args, below, meth, c, Q, cy, D, base, nL⟩ := K
  obtain ⟨hx, hb, hnL, hml, hts, hown, hK, hNW, hfr, hlo, hbs, hini, hXS⟩ := ok
  obtain ⟨hdg, rfl⟩ := dc
  intro hc1 hc2 H locs rls hP hz hS hl
  have he := wl_get (cy := cy) (base := base) (I := I) (J := J) (R := R) hk
  rw [en_arr hs (by decide)] at he
  exact va_bald hx hb hK hP k 0 he rfl hin hdg (kk hc1 hc2 H locs rls hP hz hS hl)
theorem w_zald {K : KT} {M : Mt} {d cl sl pc pc' : Nat} {ls : List (Nat × Value)} {st : List Value} {I : SI} {J : SJ} {R : SR} {n g : Nat} {k len : Nat} {i : Int32} (ok : OK K M d) (dc : Dc M pc .baload 1 pc') (hs : SH k = (16, len)) (hin : vp_in i len) (hk : k < n) (kk : WK K cl sl pc' ls (.int (I k i.toNatClampNeg) :: st) I J R n g) : WK K cl sl pc ls (.int i :: .ref k :: st) I J R n g := by
  obtain ⟨p, l, e, Rm, s, m, args, below, meth, c, Q, cy, D, base, nL⟩ := K
  obtain ⟨hx, hb, hnL, hml, hts, hown, hK, hNW, hfr, hlo, hbs, hini, hXS⟩ := ok
  obtain ⟨hdg, rfl⟩ := dc
  intro hc1 hc2 H locs rls hP hz hS hl
  have he := wl_get (cy := cy) (base := base) (I := I) (J := J) (R := R) hk
  rw [en_arr hs (by decide)] at he
  exact va_zald hx hb hK hP k 3 he rfl hin hdg (kk hc1 hc2 H locs rls hP hz hS hl)
theorem w_lald {K : KT} {M : Mt} {d cl sl pc pc' : Nat} {ls : List (Nat × Value)} {st : List Value} {I : SI} {J : SJ} {R : SR} {n g : Nat} {k len : Nat} {i : Int32} (ok : OK K M d) (dc : Dc M pc .laload 1 pc') (hs : SH k = (15, len)) (hin : vp_in i len) (hk : k < n) (kk : WK K cl sl pc' ls (.long (J k i.toNatClampNeg) :: st) I J R n g) : WK K cl sl pc ls (.int i :: .ref k :: st) I J R n g := by
  obtain ⟨p, l, e, Rm, s, m, args, below, meth, c, Q, cy, D, base, nL⟩ := K
  obtain ⟨hx, hb, hnL, hml, hts, hown, hK, hNW, hfr, hlo, hbs, hini, hXS⟩ := ok
  obtain ⟨hdg, rfl⟩ := dc
  intro hc1 hc2 H locs rls hP hz hS hl
  have he := wl_get (cy := cy) (base := base) (I := I) (J := J) (R := R) hk
  rw [en_arrL hs] at he
  exact va_lald hx hb hK hP k 2 he rfl hin hdg (kk hc1 hc2 H locs rls hP hz hS hl)
theorem w_iast {K : KT} {M : Mt} {d cl sl pc pc' : Nat} {ls : List (Nat × Value)} {st : List Value} {I : SI} {J : SJ} {R : SR} {n g : Nat} {k len : Nat} {i : Int32} {x : Int32} (ok : OK K M d) (dc : Dc M pc .iastore 1 pc') (hs : SH k = (14, len)) (hin : vp_in i len) (hk : k < n) (kk : WK K cl sl pc' ls st (u2 I k i.toNatClampNeg x) J R n g) : WK K cl sl pc ls (.int x :: .int i :: .ref k :: st) I J R n g := by
  obtain ⟨p, l, e, Rm, s, m, args, below, meth, c, Q, cy, D, base, nL⟩ := K
  obtain ⟨hx, hb, hnL, hml, hts, hown, hK, hNW, hfr, hlo, hbs, hini, hXS⟩ := ok
  obtain ⟨hdg, rfl⟩ := dc
  intro hc1 hc2 H locs rls hP hz hS hl
  have he := wl_get (cy := cy) (base := base) (I := I) (J := J) (R := R) hk
  rw [en_arr hs (by decide)] at he
  have hset : (wl cy base I J R n).set k (base + k, .inl (cy 14, len, .inl (upd (I k) i.toNatClampNeg x))) = wl cy base (u2 I k i.toNatClampNeg x) J R n := wl_set hk (by rw [en_arr hs (by decide)]; congr; funext b; simp [u2, upd]) en_otherI
  exact xa_iast hx hb hK hP wl_D hS k 1 he rfl hin hdg (fun H1 locs1 h1 h2 h3 => kk hc1 hc2 H1 locs1 rls (hset ▸ h2) (h1.trans hz) h3 hl)
theorem w_bast {K : KT} {M : Mt} {d cl sl pc pc' : Nat} {ls : List (Nat × Value)} {st : List Value} {I : SI} {J : SJ} {R : SR} {n g : Nat} {k len : Nat} {i : Int32} {x : Int32} (ok : OK K M d) (dc : Dc M pc .bastore 1 pc') (hs : SH k = (13, len)) (hin : vp_in i len) (hk : k < n) (kk : WK K cl sl pc' ls st (u2 I k i.toNatClampNeg (vp_nar .byte x)) J R n g) : WK K cl sl pc ls (.int x :: .int i :: .ref k :: st) I J R n g := by
  obtain ⟨p, l, e, Rm, s, m, args, below, meth, c, Q, cy, D, base, nL⟩ := K
  obtain ⟨hx, hb, hnL, hml, hts, hown, hK, hNW, hfr, hlo, hbs, hini, hXS⟩ := ok
  obtain ⟨hdg, rfl⟩ := dc
  intro hc1 hc2 H locs rls hP hz hS hl
  have he := wl_get (cy := cy) (base := base) (I := I) (J := J) (R := R) hk
  rw [en_arr hs (by decide)] at he
  have hset : (wl cy base I J R n).set k (base + k, .inl (cy 13, len, .inl (upd (I k) i.toNatClampNeg (vp_nar .byte x)))) = wl cy base (u2 I k i.toNatClampNeg (vp_nar .byte x)) J R n := wl_set hk (by rw [en_arr hs (by decide)]; congr; funext b; simp [u2, upd]) en_otherI
  exact xa_bast hx hb hK hP wl_D hS k 0 he rfl hin hdg (fun H1 locs1 h1 h2 h3 => kk hc1 hc2 H1 locs1 rls (hset ▸ h2) (h1.trans hz) h3 hl)
theorem w_zast {K : KT} {M : Mt} {d cl sl pc pc' : Nat} {ls : List (Nat × Value)} {st : List Value} {I : SI} {J : SJ} {R : SR} {n g : Nat} {k len : Nat} {i : Int32} {x : Int32} (ok : OK K M d) (dc : Dc M pc .bastore 1 pc') (hs : SH k = (16, len)) (hin : vp_in i len) (hk : k < n) (kk : WK K cl sl pc' ls st (u2 I k i.toNatClampNeg (vp_nar .boolean x)) J R n g) : WK K cl sl pc ls (.int x :: .int i :: .ref k :: st) I J R n g := by
  obtain ⟨p, l, e, Rm, s, m, args, below, meth, c, Q, cy, D, base, nL⟩ := K
  obtain ⟨hx, hb, hnL, hml, hts, hown, hK, hNW, hfr, hlo, hbs, hini, hXS⟩ := ok
  obtain ⟨hdg, rfl⟩ := dc
  intro hc1 hc2 H locs rls hP hz hS hl
  have he := wl_get (cy := cy) (base := base) (I := I) (J := J) (R := R) hk
  rw [en_arr hs (by decide)] at he
  have hset : (wl cy base I J R n).set k (base + k, .inl (cy 16, len, .inl (upd (I k) i.toNatClampNeg (vp_nar .boolean x)))) = wl cy base (u2 I k i.toNatClampNeg (vp_nar .boolean x)) J R n := wl_set hk (by rw [en_arr hs (by decide)]; congr; funext b; simp [u2, upd]) en_otherI
  exact xa_zast hx hb hK hP wl_D hS k 3 he rfl hin hdg (fun H1 locs1 h1 h2 h3 => kk hc1 hc2 H1 locs1 rls (hset ▸ h2) (h1.trans hz) h3 hl)
theorem w_last {K : KT} {M : Mt} {d cl sl pc pc' : Nat} {ls : List (Nat × Value)} {st : List Value} {I : SI} {J : SJ} {R : SR} {n g : Nat} {k len : Nat} {i : Int32} {x : Int64} (ok : OK K M d) (dc : Dc M pc .lastore 1 pc') (hs : SH k = (15, len)) (hin : vp_in i len) (hk : k < n) (kk : WK K cl sl pc' ls st I (u2 J k i.toNatClampNeg x) R n g) : WK K cl sl pc ls (.long x :: .int i :: .ref k :: st) I J R n g := by
  obtain ⟨p, l, e, Rm, s, m, args, below, meth, c, Q, cy, D, base, nL⟩ := K
  obtain ⟨hx, hb, hnL, hml, hts, hown, hK, hNW, hfr, hlo, hbs, hini, hXS⟩ := ok
  obtain ⟨hdg, rfl⟩ := dc
  intro hc1 hc2 H locs rls hP hz hS hl
  have he := wl_get (cy := cy) (base := base) (I := I) (J := J) (R := R) hk
  rw [en_arrL hs] at he
  have hset : (wl cy base I J R n).set k (base + k, .inl (cy 15, len, .inr (.inl (vp_updL (J k) i.toNatClampNeg x)))) = wl cy base I (u2 J k i.toNatClampNeg x) R n := wl_set hk (by rw [en_arrL hs]; congr; funext b; simp [u2, vp_updL]) en_otherJ
  exact xa_last hx hb hK hP wl_D hS k 2 he rfl hin hdg (fun H1 locs1 h1 h2 h3 => kk hc1 hc2 H1 locs1 rls (hset ▸ h2) (h1.trans hz) h3 hl)
theorem w_iret {K : KT} {M : Mt} {d mc ms pc pc' : Nat} {ls : List (Nat × Value)} {I : SI} {J : SJ} {R : SR} {n g : Nat} {P : PT} {x : Int32} (ok : OK K M d) (fin : Fnl K M P mc ms) (dc : Dc M pc .ireturn 1 pc') (hr : M.2.2.2 = some .int) (hP0 : P (some (.int x)) I J R n g) : WK K mc ms pc ls [.int x] I J R n g := by
  obtain ⟨p, l, e, Rm, s, m, args, below, meth, c, Q, cy, D, base, nL⟩ := K
  obtain ⟨hx, hb, hnL, hml, hts, hown, hK, hNW, hfr, hlo, hbs, hini, hXS⟩ := ok
  obtain ⟨hdg, rfl⟩ := dc
  obtain ⟨-, -, rfl, hret, hlocks⟩ := fin
  rw [hr] at hret
  intro hc1 hc2 H locs rls hP hz hS hl
  exact W.iret hx hb hret (fun t ht hW => ⟨⟨some (.int x), I, J, R, n, g, rfl, hP0, by rw [ht]; exact hP, by rw [ht]; exact hz⟩, hS.F ht⟩) (fun q hq => hS.2.2 q hq) hdg (hlocks := hlocks)
theorem w_lret {K : KT} {M : Mt} {d mc ms pc pc' : Nat} {ls : List (Nat × Value)} {I : SI} {J : SJ} {R : SR} {n g : Nat} {P : PT} {x : Int64} (ok : OK K M d) (fin : Fnl K M P mc ms) (dc : Dc M pc .lreturn 1 pc') (hr : M.2.2.2 = some .long) (hP0 : P (some (.long x)) I J R n g) : WK K mc ms pc ls [.long x] I J R n g := by
  obtain ⟨p, l, e, Rm, s, m, args, below, meth, c, Q, cy, D, base, nL⟩ := K
  obtain ⟨hx, hb, hnL, hml, hts, hown, hK, hNW, hfr, hlo, hbs, hini, hXS⟩ := ok
  obtain ⟨hdg, rfl⟩ := dc
  obtain ⟨-, -, rfl, hret, hlocks⟩ := fin
  rw [hr] at hret
  intro hc1 hc2 H locs rls hP hz hS hl
  exact W.lret hx hb hret (fun t ht hW => ⟨⟨some (.long x), I, J, R, n, g, rfl, hP0, by rw [ht]; exact hP, by rw [ht]; exact hz⟩, hS.F ht⟩) (fun q hq => hS.2.2 q hq) hdg (hlocks := hlocks)
theorem w_zret {K : KT} {M : Mt} {d mc ms pc pc' : Nat} {ls : List (Nat × Value)} {I : SI} {J : SJ} {R : SR} {n g : Nat} {P : PT} {x : Int32} (ok : OK K M d) (fin : Fnl K M P mc ms) (dc : Dc M pc .ireturn 1 pc') (hr : M.2.2.2 = some .boolean) (hx01 : x = 0 ∨ x = 1) (hP0 : P (some (.int x)) I J R n g) : WK K mc ms pc ls [.int x] I J R n g := by
  obtain ⟨p, l, e, Rm, s, m, args, below, meth, c, Q, cy, D, base, nL⟩ := K
  obtain ⟨hx, hb, hnL, hml, hts, hown, hK, hNW, hfr, hlo, hbs, hini, hXS⟩ := ok
  obtain ⟨hdg, rfl⟩ := dc
  obtain ⟨-, -, rfl, hret, hlocks⟩ := fin
  rw [hr] at hret
  intro hc1 hc2 H locs rls hP hz hS hl
  exact W.zret hx hb hret (by rcases hx01 with rfl | rfl <;> rfl) (fun t ht hW => ⟨⟨some (.int x), I, J, R, n, g, rfl, hP0, by rw [ht]; exact hP, by rw [ht]; exact hz⟩, hS.F ht⟩) (fun q hq => hS.2.2 q hq) hdg (hlocks := hlocks)
theorem w_vret {K : KT} {M : Mt} {d mc ms pc pc' : Nat} {ls : List (Nat × Value)} {I : SI} {J : SJ} {R : SR} {n g : Nat} {P : PT} (ok : OK K M d) (fin : Fnl K M P mc ms) (dc : Dc M pc .return_ 1 pc') (hr : M.2.2.2 = none) (hP0 : P (none) I J R n g) : WK K mc ms pc ls [] I J R n g := by
  obtain ⟨p, l, e, Rm, s, m, args, below, meth, c, Q, cy, D, base, nL⟩ := K
  obtain ⟨hx, hb, hnL, hml, hts, hown, hK, hNW, hfr, hlo, hbs, hini, hXS⟩ := ok
  obtain ⟨hdg, rfl⟩ := dc
  obtain ⟨-, -, rfl, hret, hlocks⟩ := fin
  rw [hr] at hret
  intro hc1 hc2 H locs rls hP hz hS hl
  exact W.vret hx hb hret (fun t ht hW => ⟨⟨none, I, J, R, n, g, rfl, hP0, by rw [ht]; exact hP, by rw [ht]; exact hz⟩, hS.F ht⟩) (fun q hq => hS.2.2 q hq) hdg (hlocks := hlocks)
/-- what is there to know of an instance method, of a static one -/
def MI (M : Mt) (np : Nat) : Prop := Cond.instanceMethod M.1 ∈ ALLW ∧ Cond.selects M.1.cls M.1 M.1 ∈ ALLW ∧ Cond.initialized M.1.cls ∈ ALLW ∧ Cond.code M.1 M.2.1 M.2.2.1 M.2.2.2 ∈ ALLW ∧ (M.1.cls ≠ "java/lang/invoke/MethodHandle" ∧ M.1.cls ≠ "java/lang/invoke/VarHandle" ∧ (parseMethodDescriptor M.1.desc).map (fun d => d.parameters.length) = some np) ∧ M.2.2.1 ≤ 40
def MSt (M : Mt) (np : Nat) : Prop := Cond.static M.1 ∈ ALLW ∧ Cond.initialized M.1.cls ∈ ALLW ∧ Cond.code M.1 M.2.1 M.2.2.1 M.2.2.2 ∈ ALLW ∧ (M.1.cls ≠ "java/lang/invoke/MethodHandle" ∧ M.1.cls ≠ "java/lang/invoke/VarHandle" ∧ (parseMethodDescriptor M.1.desc).map (fun d => d.parameters.length) = some np) ∧ M.2.2.1 ≤ 40
def MIn (M : Mt) (np : Nat) : Prop := M.1.name = "<init>" ∧ M.2.2.2 = none ∧ Cond.instanceMethod M.1 ∈ ALLW ∧ Cond.initialized M.1.cls ∈ ALLW ∧ Cond.code M.1 M.2.1 M.2.2.1 M.2.2.2 ∈ ALLW ∧ (M.1.cls ≠ "java/lang/invoke/MethodHandle" ∧ M.1.cls ≠ "java/lang/invoke/VarHandle" ∧ (parseMethodDescriptor M.1.desc).map (fun d => d.parameters.length) = some np) ∧ M.2.2.1 ≤ 40
def LK (M : Mt) (idx : Nat) (Y : Mt) : Prop := Cond.methodLink M.1.cls idx Y.1 ∈ ALLW ∨ ∃ host, Cond.methodLinkNest M.1.cls idx Y.1 host ∈ NW
theorem pb_blind {as : List Value} {cy : Nat → ClassId} {D : va_G} {base : Nat} {I : SI} {J : SJ} {R : SR} {n g : Nat} : FrameBlind (va_Pc as (PB cy D base I J R n g)) := by
  intro a U g mk ⟨h1, h2, h3, h4, h5, h6⟩
  refine ⟨h1, h2, h3, va_K.moved (u := U) (U := U.calling g mk a) (Vm.Alike.refl U.vm) h4, fun w hw => va_Nw.same (u := U) (U := U.calling g mk a) (by have := (List.mem_filter.mp hw).2; cases w <;> first | rfl | exact absurd this (by simp [isNest])) rfl (h5 w hw), xs_blind h6⟩
theorem wk_go {p : Program} {l : Launch} {e : Env} {Rm : Room} {s : State} {m : MethodId} {args a : Array Value} {below : List Frame} {meth : Method} {c : Code} {H : Heap} {locs : List Loc} {cells slots mc ms : Nat} {Q : State → Prop} {pc base : Nat} {rls : Array Slot} {st0 rest : List Value} {cy : Nat → ClassId} {D : va_G} {P : PT}
    (hr : va_Run p l e Rm s m args below meth c H locs cells slots mc ms (F0 m pc rls st0) rest (QM cy D base P a) (fun q => base ≤ q)) (hS : va_S (fun q => base ≤ q) s.heap H locs)
    (kk : ∀ (v : Option Value) (I : SI) (J : SJ) (R : SR) (n g : Nat) (H1 : Heap) (locs1 : List Loc), P v I J R n g → va_P D vwCl (wl cy base I J R n) H1 → H1.size = base + n + g → va_S (fun q => base ≤ q) s.heap H1 locs1 → W p l e Rm s m args below meth c H1 locs1 (cells + mc) (slots + ms) Q (F0 m (pc + 3) rls ((v.map (rv base)).toList ++ rest))) : W p l e Rm s m args below meth c H locs cells slots Q (F0 m pc rls st0) := by
  intro T hT X
  obtain ⟨v, st₀, t, T', L, h0, X', hL, e1, e2, ⟨⟨v', I, J, R, n, g, hv, hp, hP1, hz1⟩, hz, hk⟩, st⟩ := hr T hT X
  cases hv
  rw [h0] at hz hk
  obtain ⟨t2, a1, b1⟩ := kk v' I J R n g T'.heap (locs ++ L) hp (by rw [e1]; exact hP1) (by rw [e1]; exact hz1)
    ⟨Nat.le_trans hS.1 (by rw [e1]; exact hz), fun q h1 h2 => by rw [e1, hk q (Nat.lt_of_lt_of_le h1 hS.1) h2]; exact hS.2.1 q h1 h2, fun q hq => by
      rcases List.mem_append.mp hq with h | h
      · exact hS.2.2 q h
      · exact hL q h⟩ T' rfl X'
  exact ⟨t2, st t2 a1, b1⟩
theorem w_callV {K : KT} {M : Mt} {d cl sl pc pc' : Nat} {ls : List (Nat × Value)} {st : List Value} {I : SI} {J : SJ} {R : SR} {n g : Nat} {idx np d2 mc ms k : Nat} {As : List Value} {Y : Mt} {P : PT} (ok : OK K M d) (dc : Dc M pc (.invokevirtual idx) 3 pc') (mi : MI Y np) (lk : LK M idx Y) (hs : ∃ T N, (SH k).1 < 13 ∧ vwCl[(SH k).1]? = some (Y.1.cls, T, N)) (hk : k < n) (hM : MM d2 mc ms Y (.ref k :: As) I J R n g P) (hd : d2 < d) (hn : As.length = np) (hw : (st.map Value.category).sum ≤ 8) (hcap : cl + mc ≤ K.2.2.2.1.cells ∧ sl + ms ≤ K.2.2.2.1.slots) (kk : ∀ (v : Option Value) (I' : SI) (J' : SJ) (R' : SR) (n' g' : Nat), P v I' J' R' n' g' → WK K (cl + mc) (sl + ms) pc' ls (v.toList ++ st) I' J' R' n' g') : WK K cl sl pc ls (As.reverse ++ .ref k :: st) I J R n g := by
  obtain ⟨p, l, e, Rm, s, m, args, below, meth, c, Q, cy, D, base, nL⟩ := K
  obtain ⟨hx, hb, hnL, hml, hts, hown, hK, hNW, hfr, hlo, hbs, hini, hXS⟩ := ok
  obtain ⟨hdg, rfl⟩ := dc
  dsimp only at hcap
  intro hc1 hc2 H locs rls hP hz hS hl
  obtain ⟨hi1, hi2, hi3, hi4, hi5, hi6⟩ := mi
  have hgd := allw_good hi4
  have hMl := hM l cy D base
  have hR1 : (rmd d2 mc ms).frames + 1 ≤ Rm.frames ∧ 8 + (Y.2.2.1 + 11) + (rmd d2 mc ms).locals ≤ Rm.locals := by
    have h1 : (d2 + 1 + 1) * 64 ≤ (d + 1) * 64 := Nat.mul_le_mul_right _ (by omega)
    constructor
    · show d2 + 1 + 1 ≤ _; omega
    · show 8 + (Y.2.2.1 + 11) + (d2 + 1) * 64 ≤ _; omega
  have hfix : CallFix p m c M.2.1 nL s args ALLW M.1.cls := ⟨hx, hb, hml, hown, hts⟩
  have hst : List.map (rv base) (As.reverse ++ .ref k :: st) = (As.map (rv base)).reverse ++ .ref (base + k) :: st.map (rv base) := by simp [rv]
  have hcat : ((st.map (rv base)).map fun v => v.category).sum ≤ 8 := by
    rw [List.map_map]
    have e : ((fun v => v.category) ∘ rv base) = Value.category := by funext v; exact rv_cat base v
    rw [e]; exact hw
  have hpb : ∀ U : State, U.heap = H → s.WarmedH U.vm → PB cy D base I J R n g U := fun U hU hW => ⟨by rw [hU]; exact hP, by rw [hU]; exact hz, va_K.moved hW.alike hK, nw_warm hW hNW, xs_call hXS hW hU hS⟩
  rw [hst]
  have hgo : ∀ (v : Option Value) (I : SI) (J : SJ) (R : SR) (n g : Nat) (H1 : Heap) (locs1 : List Loc), P v I J R n g → va_P D vwCl (wl cy base I J R n) H1 → H1.size = base + n + g → va_S (fun q => base ≤ q) s.heap H1 locs1 → W p l e Rm s m args below meth c H1 locs1 (cl + mc) (sl + ms) Q (F0 m (pc + 3) rls ((v.map (rv base)).toList ++ st.map (rv base))) := by
    intro v I J R n g H1 locs1 hp h1 h2 h3
    have := kk v I J R n g hp hcap.1 hcap.2 H1 locs1 rls h1 h2 h3 hl
    have e : List.map (rv base) (v.toList ++ st) = (v.map (rv base)).toList ++ st.map (rv base) := by cases v <;> simp
    rw [e] at this
    exact this
  obtain ⟨TT, NN, hlt, hcl⟩ := hs
  have he := wl_get (cy := cy) (base := base) (I := I) (J := J) (R := R) hk
  rw [en_obj rfl hlt] at he
  have hrecv := va_recv hK hP hcl he
  have hpre : PreV s H Y.1.cls (base + k) (va_Pc ((Value.ref k :: As).map (rv base)) (PB cy D base I J R n g)) (As.map (rv base)) := ⟨pb_blind, hrecv, fun U hU hW => ⟨rfl, hpb U hU hW⟩⟩
  rcases lk with lk | ⟨host, lk⟩
  · exact wk_go (va_runV (As := As.map (rv base)) (rest := st.map (rv base)) hfix hMl ⟨callB_of np hts hgd rfl rfl rfl (hts _ hi3) (hts _ lk) hi5 hR1, hts _ hi1, hts _ hi2⟩ hpre rfl (by rw [List.length_map]; exact hn) hl.1 rfl (lv_room hcat) hdg hcap) hS hgo
  · exact wk_go (va_runVN (As := As.map (rv base)) (rest := st.map (rv base)) hfix hMl ⟨va_cnB np hts hgd rfl rfl rfl (hNW _ lk) (hts _ hi3) hi5 hR1, hts _ hi1, hts _ hi2⟩ hpre rfl (by rw [List.length_map]; exact hn) hl.1 rfl (lv_room hcat) hdg hcap) hS hgo
theorem w_callS {K : KT} {M : Mt} {d cl sl pc pc' : Nat} {ls : List (Nat × Value)} {st : List Value} {I : SI} {J : SJ} {R : SR} {n g : Nat} {idx np d2 mc ms : Nat} {As : List Value} {Y : Mt} {P : PT} (ok : OK K M d) (dc : Dc M pc (.invokestatic idx) 3 pc') (mi : MSt Y np) (lk : LK M idx Y) (hM : MM d2 mc ms Y As I J R n g P) (hd : d2 < d) (hn : As.length = np) (hw : (st.map Value.category).sum ≤ 8) (hcap : cl + mc ≤ K.2.2.2.1.cells ∧ sl + ms ≤ K.2.2.2.1.slots) (kk : ∀ (v : Option Value) (I' : SI) (J' : SJ) (R' : SR) (n' g' : Nat), P v I' J' R' n' g' → WK K (cl + mc) (sl + ms) pc' ls (v.toList ++ st) I' J' R' n' g') : WK K cl sl pc ls (As.reverse ++ st) I J R n g := by
  obtain ⟨p, l, e, Rm, s, m, args, below, meth, c, Q, cy, D, base, nL⟩ := K
  obtain ⟨hx, hb, hnL, hml, hts, hown, hK, hNW, hfr, hlo, hbs, hini, hXS⟩ := ok
  obtain ⟨hdg, rfl⟩ := dc
  dsimp only at hcap
  intro hc1 hc2 H locs rls hP hz hS hl
  obtain ⟨hi1, hi3, hi4, hi5, hi6⟩ := mi
  have hgd := allw_good hi4
  have hMl := hM l cy D base
  have hR1 : (rmd d2 mc ms).frames + 1 ≤ Rm.frames ∧ 8 + (Y.2.2.1 + 11) + (rmd d2 mc ms).locals ≤ Rm.locals := by
    have h1 : (d2 + 1 + 1) * 64 ≤ (d + 1) * 64 := Nat.mul_le_mul_right _ (by omega)
    constructor
    · show d2 + 1 + 1 ≤ _; omega
    · show 8 + (Y.2.2.1 + 11) + (d2 + 1) * 64 ≤ _; omega
  have hfix : CallFix p m c M.2.1 nL s args ALLW M.1.cls := ⟨hx, hb, hml, hown, hts⟩
  have hst : List.map (rv base) (As.reverse ++ st) = (As.map (rv base)).reverse ++ st.map (rv base) := by simp [rv]
  have hcat : ((st.map (rv base)).map fun v => v.category).sum ≤ 8 := by
    rw [List.map_map]
    have e : ((fun v => v.category) ∘ rv base) = Value.category := by funext v; exact rv_cat base v
    rw [e]; exact hw
  have hpb : ∀ U : State, U.heap = H → s.WarmedH U.vm → PB cy D base I J R n g U := fun U hU hW => ⟨by rw [hU]; exact hP, by rw [hU]; exact hz, va_K.moved hW.alike hK, nw_warm hW hNW, xs_call hXS hW hU hS⟩
  rw [hst]
  have hgo : ∀ (v : Option Value) (I : SI) (J : SJ) (R : SR) (n g : Nat) (H1 : Heap) (locs1 : List Loc), P v I J R n g → va_P D vwCl (wl cy base I J R n) H1 → H1.size = base + n + g → va_S (fun q => base ≤ q) s.heap H1 locs1 → W p l e Rm s m args below meth c H1 locs1 (cl + mc) (sl + ms) Q (F0 m (pc + 3) rls ((v.map (rv base)).toList ++ st.map (rv base))) := by
    intro v I J R n g H1 locs1 hp h1 h2 h3
    have := kk v I J R n g hp hcap.1 hcap.2 H1 locs1 rls h1 h2 h3 hl
    have e : List.map (rv base) (v.toList ++ st) = (v.map (rv base)).toList ++ st.map (rv base) := by cases v <;> simp
    rw [e] at this
    exact this
  have hpre : PreS s H (va_Pc (As.map (rv base)) (PB cy D base I J R n g)) (As.map (rv base)) := ⟨pb_blind, fun U hU hW => ⟨rfl, hpb U hU hW⟩⟩
  rcases lk with lk | ⟨host, lk⟩
  · exact wk_go (va_runS (As := As.map (rv base)) (rest := st.map (rv base)) hfix hMl ⟨callB_of np hts hgd rfl rfl rfl (hts _ hi3) (hts _ lk) hi5 hR1, hts _ hi1⟩ hpre rfl (by rw [List.length_map]; exact hn) hl.1 rfl (lv_room hcat) hdg hcap) hS hgo
  · exact wk_go (va_runSN (As := As.map (rv base)) (rest := st.map (rv base)) hfix hMl ⟨va_cnB np hts hgd rfl rfl rfl (hNW _ lk) (hts _ hi3) hi5 hR1, hts _ hi1, trivial⟩ hpre rfl (by rw [List.length_map]; exact hn) hl.1 rfl (lv_room hcat) hdg hcap) hS hgo
theorem w_callI {K : KT} {M : Mt} {d cl sl pc pc' : Nat} {ls : List (Nat × Value)} {st : List Value} {I : SI} {J : SJ} {R : SR} {n g : Nat} {idx np d2 mc ms k : Nat} {As : List Value} {Y : Mt} {P : PT} (ok : OK K M d) (dc : Dc M pc (.invokespecial idx) 3 pc') (mi : MIn Y np) (lk : LK M idx Y) (hM : MM d2 mc ms Y (.ref k :: As) I J R n g P) (hd : d2 < d) (hn : As.length = np) (hw : (st.map Value.category).sum ≤ 8) (hcap : cl + mc ≤ K.2.2.2.1.cells ∧ sl + ms ≤ K.2.2.2.1.slots) (kk : ∀ (v : Option Value) (I' : SI) (J' : SJ) (R' : SR) (n' g' : Nat), P v I' J' R' n' g' → WK K (cl + mc) (sl + ms) pc' ls (v.toList ++ st) I' J' R' n' g') : WK K cl sl pc ls (As.reverse ++ .ref k :: st) I J R n g := by
  obtain ⟨p, l, e, Rm, s, m, args, below, meth, c, Q, cy, D, base, nL⟩ := K
  obtain ⟨hx, hb, hnL, hml, hts, hown, hK, hNW, hfr, hlo, hbs, hini, hXS⟩ := ok
  obtain ⟨hdg, rfl⟩ := dc
  dsimp only at hcap
  intro hc1 hc2 H locs rls hP hz hS hl
  obtain ⟨hi0, hi00, hi1, hi3, hi4, hi5, hi6⟩ := mi
  have hgd := allw_good hi4
  have hMl := hM l cy D base
  have hR1 : (rmd d2 mc ms).frames + 1 ≤ Rm.frames ∧ 8 + (Y.2.2.1 + 11) + (rmd d2 mc ms).locals ≤ Rm.locals := by
    have h1 : (d2 + 1 + 1) * 64 ≤ (d + 1) * 64 := Nat.mul_le_mul_right _ (by omega)
    constructor
    · show d2 + 1 + 1 ≤ _; omega
    · show 8 + (Y.2.2.1 + 11) + (d2 + 1) * 64 ≤ _; omega
  have hfix : CallFix p m c M.2.1 nL s args ALLW M.1.cls := ⟨hx, hb, hml, hown, hts⟩
  have hst : List.map (rv base) (As.reverse ++ .ref k :: st) = (As.map (rv base)).reverse ++ .ref (base + k) :: st.map (rv base) := by simp [rv]
  have hcat : ((st.map (rv base)).map fun v => v.category).sum ≤ 8 := by
    rw [List.map_map]
    have e : ((fun v => v.category) ∘ rv base) = Value.category := by funext v; exact rv_cat base v
    rw [e]; exact hw
  have hpb : ∀ U : State, U.heap = H → s.WarmedH U.vm → PB cy D base I J R n g U := fun U hU hW => ⟨by rw [hU]; exact hP, by rw [hU]; exact hz, va_K.moved hW.alike hK, nw_warm hW hNW, xs_call hXS hW hU hS⟩
  rw [hst]
  have hgo : ∀ (v : Option Value) (I : SI) (J : SJ) (R : SR) (n g : Nat) (H1 : Heap) (locs1 : List Loc), P v I J R n g → va_P D vwCl (wl cy base I J R n) H1 → H1.size = base + n + g → va_S (fun q => base ≤ q) s.heap H1 locs1 → W p l e Rm s m args below meth c H1 locs1 (cl + mc) (sl + ms) Q (F0 m (pc + 3) rls ((v.map (rv base)).toList ++ st.map (rv base))) := by
    intro v I J R n g H1 locs1 hp h1 h2 h3
    have := kk v I J R n g hp hcap.1 hcap.2 H1 locs1 rls h1 h2 h3 hl
    have e : List.map (rv base) (v.toList ++ st) = (v.map (rv base)).toList ++ st.map (rv base) := by cases v <;> simp
    rw [e] at this
    exact this
  have hpre : PreS s H (va_Pc ((Value.ref k :: As).map (rv base)) (PB cy D base I J R n g)) (.ref (base + k) :: As.map (rv base)) := ⟨pb_blind, fun U hU hW => ⟨rfl, hpb U hU hW⟩⟩
  rw [hi00] at hi4 hgd
  have hMl2 : Met l Y.1 (Cond.code Y.1 Y.2.1 Y.2.2.1 none :: ALLW) (rmd d2 mc ms) (va_Pc ((Value.ref k :: As).map (rv base)) (PB cy D base I J R n g)) (QM cy D base P) mc ms (fun q => base ≤ q) := by
    have h9 := hMl
    unfold wsM at h9
    rw [hi00] at h9
    exact h9
  rcases lk with lk | ⟨host, lk⟩
  · exact wk_go (va_runI (As := As.map (rv base)) (rest := st.map (rv base)) hfix hMl2 ⟨callB_of np hts hgd rfl rfl rfl (hts _ hi3) (hts _ lk) hi5 hR1, hi0, hts _ hi1⟩ hpre rfl (by rw [List.length_map]; exact hn) hl.1 rfl (lv_room hcat) hdg hcap) hS hgo
  · exact wk_go (va_runIN (As := As.map (rv base)) (rest := st.map (rv base)) hfix hMl2 ⟨va_cnB np hts hgd rfl rfl rfl (hNW _ lk) (hts _ hi3) hi5 hR1, hi0, hts _ hi1⟩ hpre rfl (by rw [List.length_map]; exact hn) hl.1 rfl (lv_room hcat) hdg hcap) hS hgo
