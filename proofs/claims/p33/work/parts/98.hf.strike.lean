/-! both: how a mark strikes her: the runs -/
def TW (nm ns np : Nat) (A B : SI) : Prop := CN nm ns A B ∧ (np ≤ 4 ∧ A 13 1 = nI np ∧ B 132 3 = nI np) ∧ TL A B ∧ (∀ k, k < 3 → LW B k) ∧ B 130 55 = 0 ∧ B 130 56 = -1 ∧ B 130 59 = 0
theorem TW.mv {nm ns np : Nat} {A A1 B B1 : SI} (h : TW nm ns np A B) (ea : ∀ a b, a < 104 → A1 a b = A a b) (eb : ∀ a b, a < 154 → ¬ (a = 130 ∧ (b = 0 ∨ b = 38 ∨ b = 57 ∨ b = 58)) → B1 a b = B a b) : TW nm ns np A1 B1 := by
  obtain ⟨⟨c1, c2, c3, c4, c5, c6⟩, ⟨p1, p2, p3⟩, t, l, g1, g2, g3⟩ := h
  exact ⟨⟨c1, c2, (ea _ _ (by omega)).trans c3, (ea _ _ (by omega)).trans c4, (eb _ _ (by omega) (by omega)).trans c5, (eb _ _ (by omega) (by omega)).trans c6⟩, ⟨p1, (ea _ _ (by omega)).trans p2, (eb _ _ (by omega) (by omega)).trans p3⟩, t.mv (fun a b x y => ea a b (by omega)) (fun a b z => eb a b (by unfold mT at z; omega) (by unfold mT at z; omega)), fun k hk => (l k hk).of hk (fun a b x y => eb a b (by omega) (by omega)), (eb _ _ (by omega) (by omega)).trans g1, (eb _ _ (by omega) (by omega)).trans g2, (eb _ _ (by omega) (by omega)).trans g3⟩
theorem begin_c {A : SI} {JA : SJ} : FI_X0_begin 86 A JA 104 2 = 0 ∧ FI_X0_begin 86 A JA 104 5 = -1 ∧ FI_X0_begin 86 A JA 104 6 = 1 ∧ FI_X0_begin 86 A JA 104 7 = 1 ∧ ∀ m, m < 6 → FI_X0_begin 86 A JA 114 m = A 5 m := by
  unfold FI_X0_begin S1_X0_begin
  refine ⟨?_, ?_, ?_, u2_s _ _ _ _, fun m hm => ?_⟩
  · rw [u2_n _ _ (by omega), u2_n _ _ (by omega), u2_n _ _ (by omega), u2_s]
  · rw [u2_n _ _ (by omega), u2_n _ _ (by omega), u2_s]
  · rw [u2_n _ _ (by omega), u2_s]
  · rw [u2_n _ _ (by omega), u2_n _ _ (by omega), u2_n _ _ (by omega), u2_n _ _ (by omega), cpF_s hm]
    exact copy_K (k := 105) 5 m (by omega)
/-- the text's first scene, with a strike for one mark -/
theorem strike_v {nm ns np q i : Nat} {A B : SI} {J K : SJ} (t : TW nm ns np A B) (hq : q < nm) (e7 : B 130 57 = nI q) (e8 : B 130 58 = 10 * nI i) : SCT 105 1 nm ns (putF (FI_X5_open 105 2 (FI_X0_begin 86 A J) (FJ_X0_begin 86 A J)) 114 6 (nI q) (nI i * 10)) (FJ_X5_open 105 2 (FI_X0_begin 86 A J) (FJ_X0_begin 86 A J)) (FI_X12_starts 1 B K) ∧ DX 0 nm ns np (putF (FI_X5_open 105 2 (FI_X0_begin 86 A J) (FJ_X0_begin 86 A J)) 114 6 (nI q) (nI i * 10)) (FI_X12_starts 1 B K) ∧ KP 104 115 A (putF (FI_X5_open 105 2 (FI_X0_begin 86 A J) (FJ_X0_begin 86 A J)) 114 6 (nI q) (nI i * 10)) ∧ FS 1 B (FI_X12_starts 1 B K) := by
  have bk : KP 104 115 A (FI_X0_begin 86 A J) := begin_K
  obtain ⟨x2, x5, x6, x7, x14⟩ := begin_c (A := A) (JA := J)
  generalize FI_X0_begin 86 A J = X at *
  generalize FJ_X0_begin 86 A J = JX at *
  have tX : TW nm ns np X B := t.mv (fun a b z => bk a b (by omega)) (fun _ _ _ _ => rfl)
  have q6 : q < 6 := by have := t.1.1; omega
  have so := sct_start (p := 105) (f := 1) (J := JX) (J' := K) (Or.inr rfl) (by omega) tX.2.2.1 tX.1
  have so' : SCT 105 1 nm ns (FI_X5_open 105 2 X JX) (FJ_X5_open 105 2 X JX) (FI_X12_starts 1 B K) := so
  have ok : KP 105 113 X (FI_X5_open 105 2 X JX) := open_K (k := 105)
  have sv := (starts_v (f := 1) (I := B) (J := K) (by omega)).2.2.2.2.2
  have st : ∀ a b, a < 154 → FI_X12_starts 1 B K a b = B a b := fun a b z => sv a b (Or.inl z)
  have fs : FS 1 B (FI_X12_starts 1 B K) := starts_S (f := 1) (by omega)
  rw [putF_v q6 (by omega)]
  have oa : ∀ a b, ¬ (105 ≤ a ∧ a ≤ 114) → u2 (FI_X5_open 105 2 X JX) 114 q (nI i * 10) a b = X a b := fun a b z => (u2_n _ _ (by omega)).trans (ok a b (by omega))
  have t2 : TW nm ns np (u2 (FI_X5_open 105 2 X JX) 114 q (nI i * 10)) (FI_X12_starts 1 B K) := tX.mv (fun a b z => oa a b (by omega)) (fun a b z _ => st a b z)
  refine ⟨so'.mv t.1.2.1 (fun a b x y => u2_n _ _ (by omega)) rfl (fun _ _ _ => rfl), ⟨t2.1, t2.2.1, t2.2.2.1, t2.2.2.2.1, Or.inr ⟨t2.2.2.2.2.2.2, Or.inr (Or.inl ⟨?_, ?_, rfl⟩)⟩, Or.inr ⟨?_, ?_⟩, ?_, ?_, fun m hm => ?_⟩, fun a b z => (oa a b (by omega)).trans (bk a b z), fs⟩
  · exact (oa _ _ (by omega)).trans x2
  · rw [t2.2.2.2.2.1]; decide
  · rw [t2.2.2.2.2.1]; decide
  · exact (oa _ _ (by omega)).trans x5
  · rw [oa 104 6 (by omega), x6, t2.2.2.2.2.1]; decide
  · rw [oa 104 7 (by omega), x7, t2.2.2.2.2.1]; decide
  · have m6 : m < 6 := by have := t.1.1; omega
    have ts := tl_s t.2.2.1 t.1
    unfold F_X12_strikeOf
    rw [t2.2.2.2.2.1, if_neg (show ¬ (0 : Int32) = 5 by decide), st 130 57 (by omega), st 130 58 (by omega), e7, e8, nI_clamp (show m < 2 ^ 31 by omega), st 134 m (by omega)]
    by_cases y : m = q
    · subst y
      rw [if_pos rfl, u2_s]
      exact Int32.mul_comm _ _
    · rw [if_neg (fun w => y ((nI_eq (by omega) (by omega)).mp w)), u2_n _ _ (by omega), ok 114 m (by omega), x14 m m6]
      exact ts.1 m hm
/-- days as long as they fit -/
theorem run_in {nm ns np c n L i : Nat} {a0 : Int32} {A I2 Y0 : SI} {JA J2 : SJ} {s39 : Int32 × SI × SJ} (hc : c ≤ 24) (hn : n ≤ c) (hL : L ≤ 40) (e : A 116 0 = nI c) (last : F_X6_lastDay (F_X6_knownOnes A JA) A JA = nI L) (km : ∀ (Z : SI) (K : SJ), Z 130 68 = Y0 130 68 → Z 130 69 = Y0 130 69 → F_X12_knownMany Z K = nI n) (er : ∀ i, i < c → ER A Y0 i) (on : ∀ i, i < 24 → (bt (F_X6_knownOnes A JA) i = true ↔ i < n ∧ Y0 177 i = 0 ∧ Y0 176 i = -1)) (k4 : ∀ b, b < 24 → inR (Y0 174 b) 6) : ∀ r d N M (X : SI) (JX : SJ) (Z : SI) (K : SJ), d + r = L + 1 → r + 1 < N → r < M → SCT 105 1 nm ns X JX Z → DX 0 nm ns np X Z → KP 104 115 A X → FS 1 Y0 Z → (∃ d' X' JX' e' Z' K', itW (B_X11_struckHow_w93 a0 A JA i s39) N (1, nI d, X, JX) = some (1, d', X', JX') ∧ itW (B_X12_fitsStrike_w7 (nI L) I2 J2) M (nI d, Z, K) = some (.inl (e', Z', K')) ∧ KP 104 115 A X' ∧ FS 1 Y0 Z') ∨ (∃ d' X' JX' Z' K', itW (B_X11_struckHow_w93 a0 A JA i s39) N (1, nI d, X, JX) = some (0, d', X', JX') ∧ itW (B_X12_fitsStrike_w7 (nI L) I2 J2) M (nI d, Z, K) = some (.inr (0, Z', K')) ∧ KP 104 115 A X' ∧ FS 1 Y0 Z') := by
  intro r
  induction r with
  | zero =>
    intro d N M X JX Z K hd hN hM sc dx ka fz
    obtain ⟨N, rfl⟩ : ∃ x, N = x + 1 := ⟨N - 1, by omega⟩
    obtain ⟨M, rfl⟩ : ∃ x, M = x + 1 := ⟨M - 1, by omega⟩
    have lt : nI L < nI d := (nI_ltb (by omega) (by omega)).mpr (by omega)
    refine Or.inl ⟨nI d, X, JX, nI d, Z, K, itW_r _ _ _ _ ?_, itW_r _ _ _ _ ?_, ka, fz⟩
    · unfold B_X11_struckHow_w93
      exact if_pos (by rw [last]; exact lt)
    · unfold B_X12_fitsStrike_w7
      exact if_pos lt
  | succ r ih =>
    intro d N M X JX Z K hd hN hM sc dx ka fz
    obtain ⟨N, rfl⟩ : ∃ x, N = x + 1 := ⟨N - 1, by omega⟩
    obtain ⟨M, rfl⟩ : ∃ x, M = x + 1 := ⟨M - 1, by omega⟩
    have nl : ¬ nI L < nI d := fun y => by
      have := (nI_ltb (by omega) (by omega)).mp y
      omega
    have ps := pass1 (f := 1) (J' := K) sc dx (by omega)
    have p1 : SCT 105 1 nm ns (FI_X0_pass 1 X JX) (FJ_X0_pass 1 X JX) (FI_X12_passes 1 0 Z K) := ps.1.1
    have p2 : DX 0 nm ns np (FI_X0_pass 1 X JX) (FI_X12_passes 1 0 Z K) := ps.2
    have ka' : KP 104 115 A (FI_X0_pass 1 X JX) := fun a b z => (ps.1.2.1 a b (by omega)).trans (ka a b z)
    have fz' : FS 1 Y0 (FI_X12_passes 1 0 Z K) := fz.tr ps.1.2.2.1
    have ft : F_X6_fits (F_X6_knownOnes A JA) (nI d) 110 6 (FI_X0_pass 1 X JX) (FJ_X0_pass 1 X JX) = F_X12_fits (nI d) (FI_X12_passes 1 0 Z K) (FJ_X12_passes 1 0 Z K) := fits_v (A := A) (Y := Y0) (J' := K) hc hn e p1 (fun a b x y => ka' a b (by omega)) (fun a b x y => fz'.lo (Or.inr (by omega)) (by omega)) (km _ _ (fz'.lo (Or.inl (by omega)) (by omega)) (fz'.lo (Or.inl (by omega)) (by omega))) er on k4
    have c1 : B_X11_struckHow_w93 a0 A JA i s39 (1, nI d, X, JX) = .inl (F_X12_fits (nI d) (FI_X12_passes 1 0 Z K) (FJ_X12_passes 1 0 Z K), nI (d + 1), FI_X0_pass 1 X JX, FJ_X0_pass 1 X JX) := by
      unfold B_X11_struckHow_w93
      refine (if_neg (show ¬ F_X6_lastDay (F_X6_knownOnes A JA) A JA < nI d by rw [last]; exact nl)).trans ((if_neg (show ¬ (1 : Int32) = 0 by decide)).trans ?_)
      unfold S7_X11_struckHow
      show Sum.inl (F_X6_fits (F_X6_knownOnes A JA) (nI d) 110 6 (FI_X0_pass 1 X JX) (FJ_X0_pass 1 X JX), nI d + 1, FI_X0_pass 1 X JX, FJ_X0_pass 1 X JX) = _
      rw [ft, nI_1]
    rw [itW_l _ _ _ _ c1]
    by_cases f0 : F_X12_fits (nI d) (FI_X12_passes 1 0 Z K) (FJ_X12_passes 1 0 Z K) = 0
    · right
      rw [f0]
      obtain ⟨N, rfl⟩ : ∃ x, N = x + 1 := ⟨N - 1, by omega⟩
      refine ⟨nI (d + 1), FI_X0_pass 1 X JX, FJ_X0_pass 1 X JX, FI_X12_passes 1 0 Z K, FJ_X12_passes 1 0 Z K, itW_r _ _ _ _ ?_, itW_r _ _ _ _ ?_, ka', fz'⟩
      · unfold B_X11_struckHow_w93
        by_cases z : F_X6_lastDay (F_X6_knownOnes A JA) A JA < nI (d + 1)
        · exact if_pos z
        · exact (if_neg z).trans (if_pos rfl)
      · unfold B_X12_fitsStrike_w7
        exact (if_neg nl).trans (if_pos f0)
    · have f1 : F_X12_fits (nI d) (FI_X12_passes 1 0 Z K) (FJ_X12_passes 1 0 Z K) = 1 := fits_01.resolve_left f0
      have c2 : B_X12_fitsStrike_w7 (nI L) I2 J2 (nI d, Z, K) = .inl (nI (d + 1), FI_X12_passes 1 0 Z K, FJ_X12_passes 1 0 Z K) := by
        unfold B_X12_fitsStrike_w7
        refine (if_neg nl).trans ((if_neg f0).trans ?_)
        show Sum.inl (nI d + 1, FI_X12_passes 1 0 Z K, FJ_X12_passes 1 0 Z K) = _
        rw [nI_1]
      rw [f1, itW_l _ _ _ _ c2]
      exact ih (d + 1) N M _ _ _ _ (by omega) (by omega) (by omega) p1 p2 ka' fz'
theorem struck_val {a0 : Int32} {A B : SI} {JA J' : SJ} (g : GTL A B) (m : MW B B) (d : GDF B) (s : GSC A JA B) (gs : GSE A B) (r : GSR A B) (k7 : ∀ b, b < 24 → inR (A 117 b) 41) : F_X11_struckHow a0 A JA = F_X12_struckHow a0 B J' := by
  have pm := mark_v (a1 := a0) (J := JA) (J' := J') g
  obtain ⟨nm, ns, np, h⟩ := nwd g m d s
  obtain ⟨c, n, hc, hn, e, km, y1, on, er⟩ := stand_v (a0 := a0) (J := JA) (J' := J') gs r
  unfold F_X11_struckHow F_X12_struckHow
  rw [← pm]
  by_cases c1 : F_X7_holds 3 a0 A JA = 0
  · rw [if_pos c1, if_pos c1]
  rw [if_neg c1, if_neg c1]
  obtain ⟨q, hq, rfl⟩ := hold_n h.1.2.2.1 (by have := h.1.1; omega) c1
  have yb : ∀ a b, ¬ a = 177 → ¬ (a = 130 ∧ b = 0) → S1_X12_struckHow (nI q) B J' a b = B a b := fun a b x z => (y1 a b x).trans (u2_n _ _ z)
  have lv := last_v (a0 := nI q) (J := JA) hc hn e (km _ (yb _ _ (by omega) (by omega)) (yb _ _ (by omega) (by omega))) er (fun i => yb _ _ (by omega) (by omega)) (fun i => yb _ _ (by omega) (by omega)) on k7
  obtain ⟨L, hL, eL⟩ := lv.2
  have last : F_X6_lastDay (F_X6_knownOnes A JA) A JA = nI L := lv.1.trans eL
  have tw0 : TW nm ns np A (u2 (S1_X12_struckHow (nI q) B J') 130 57 (nI q)) := by
    have t : TW nm ns np A (u2 B 130 0 0) := ⟨h.1, h.2.2.1, h.2.2.2.1, h.2.2.2.2.1, h.2.2.2.2.2.1, h.2.2.2.2.2.2.1, h.2.2.2.2.2.2.2.2⟩
    exact t.mv (fun _ _ _ => rfl) (fun a b x z => (u2_n _ _ (by omega)).trans (y1 a b (by omega)))
  have Lp : ∀ k, ∃ (w : Int32) (A1 : SI) (J1 : SJ) (B1 : SI) (K1 : SJ), itN (B_X11_struckHow_l39 (nI q) A JA) k (0, A, JA) = (w, A1, J1) ∧ itN (B_X12_struckHow_l144 (nI q) B J') k (0, u2 (S1_X12_struckHow (nI q) B J') 130 57 (nI q), J') = (w, B1, K1) ∧ KP 104 115 A A1 ∧ ∀ a b, ¬ inS 1 a b → ¬ (a = 130 ∧ (b = 38 ∨ b = 58)) → B1 a b = u2 (S1_X12_struckHow (nI q) B J') 130 57 (nI q) a b := by
    intro k
    induction k with
    | zero => exact ⟨0, A, JA, _, J', itN_0 _ _, itN_0 _ _, fun _ _ _ => rfl, fun _ _ _ _ => rfl⟩
    | succ k ih =>
      obtain ⟨w, A1, J1, B1, K1, e1, e2, ka, kb⟩ := ih
      rw [itN_s, itN_s, e1, e2]
      have b1 : ∀ a b, ¬ inS 1 a b → ¬ (a = 130 ∧ (b = 38 ∨ b = 58)) → u2 B1 130 58 (10 * nI k) a b = u2 (S1_X12_struckHow (nI q) B J') 130 57 (nI q) a b := fun a b x z => (u2_n _ _ (by omega)).trans (kb a b x z)
      have tw : TW nm ns np A1 (u2 B1 130 58 (10 * nI k)) := tw0.mv (fun a b z => ka a b (by omega)) (fun a b x z => b1 a b (fun y => by have := y.1; omega) (by omega))
      have q57 : u2 B1 130 58 (10 * nI k) 130 57 = nI q := (b1 _ _ (nS (by omega)) (by omega)).trans (u2_s _ _ _ _)
      obtain ⟨sc, dx, kx, fz⟩ := strike_v (J := J1) (K := K1) tw hq q57 (u2_s _ _ _ _)
      have kx' : KP 104 115 A (putF (FI_X5_open 105 2 (FI_X0_begin 86 A1 J1) (FJ_X0_begin 86 A1 J1)) 114 6 (nI q) (nI k * 10)) := ka.tr kx
      have yz : ∀ a b, 173 ≤ a → a ≤ 177 → u2 B1 130 58 (10 * nI k) a b = S1_X12_struckHow (nI q) B J' a b := fun a b x y => (b1 a b (fun z => by have := z.2.1; omega) (by omega)).trans (u2_n _ _ (by omega))
      have y68 : ∀ b, b = 68 ∨ b = 69 → u2 B1 130 58 (10 * nI k) 130 b = B 130 b := fun b hb => (b1 _ _ (nS (by omega)) (by omega)).trans ((u2_n _ _ (by omega)).trans (yb _ _ (by omega) (by omega)))
      have R := run_in (nm := nm) (ns := ns) (np := np) (a0 := nI q) (i := k) (s39 := (w, A1, J1)) (I2 := u2 B1 130 58 (10 * nI k)) (J2 := K1) (JA := JA) hc hn hL e last (fun Z K z1 z2 => km Z (z1.trans (y68 68 (Or.inl rfl))) (z2.trans (y68 69 (Or.inr rfl)))) (Y0 := u2 B1 130 58 (10 * nI k)) (fun i hi => (er i hi).mv rfl rfl rfl ((yz _ _ (by omega) (by omega)).trans (yb _ _ (by omega) (by omega))) ((yz _ _ (by omega) (by omega)).trans (yb _ _ (by omega) (by omega))) ((yz _ _ (by omega) (by omega)).trans (yb _ _ (by omega) (by omega))) ((yz _ _ (by omega) (by omega)).trans (yb _ _ (by omega) (by omega)))) (fun i hi => by rw [yz 177 i (by omega) (by omega), yz 176 i (by omega) (by omega)]; exact on i hi) (fun b hb => by rw [yz 174 b (by omega) (by omega), yb 174 b (by omega) (by omega)]; exact m.gr4 b hb) L 1 800 800 _ _ _ K1 (by omega) (by omega) (by omega) sc dx kx' fz
      have s0 : ∀ (x : Int32 × Int32 × SI × SJ), itW (B_X11_struckHow_w93 (nI q) A JA k (w, A1, J1)) 800 (1, 1, putF (FI_X5_open 105 2 (FI_X0_begin 86 A1 J1) (FJ_X0_begin 86 A1 J1)) 114 6 (nI q) (nI k * 10), FJ_X5_open 105 2 (FI_X0_begin 86 A1 J1) (FJ_X0_begin 86 A1 J1)) = some x → F_X11_struckHow_w93 (nI q) A JA k (w, A1, J1) (1, 1, putF (S1_X11_struckHow (nI q) A JA k (w, A1, J1)) 114 6 (nI q) (nI k * 10), S2_X11_struckHow (nI q) A JA k (w, A1, J1)) = x := fun x hx => by
        unfold F_X11_struckHow_w93 S1_X11_struckHow S2_X11_struckHow
        exact congrArg (fun o => Option.getD o _) hx
      rcases R with ⟨d', X', JX', e', Z', K', w1, w2, k1, z1⟩ | ⟨d', X', JX', Z', K', w1, w2, k1, z1⟩
      · have f3 := s0 _ w1
        have c3 : S5_X11_struckHow (nI q) A JA k (w, A1, J1) = 1 := by unfold S5_X11_struckHow; rw [f3]
        have c4 : S3_X11_struckHow (nI q) A JA k (w, A1, J1) = X' := by unfold S3_X11_struckHow; rw [f3]
        have c5 : S4_X11_struckHow (nI q) A JA k (w, A1, J1) = JX' := by unfold S4_X11_struckHow; rw [f3]
        have g3 : F_X12_fitsStrike_w7 (nI L) (u2 B1 130 58 (10 * nI k)) K1 (1, FI_X12_starts 1 (u2 B1 130 58 (10 * nI k)) K1, K1) = .inl (e', Z', K') := by
          unfold F_X12_fitsStrike_w7
          exact congrArg (fun o => Option.getD o _) w2
        have g4 : S7_X12_struckHow (nI q) B J' k (w, B1, K1) = 1 := by
          unfold S7_X12_struckHow F_X12_fitsStrike
          show (match F_X12_fitsStrike_w7 (F_X12_struckHow_l90 (nI q) B J' 0) (u2 B1 130 58 (10 * nI k)) K1 (1, FI_X12_starts 1 (u2 B1 130 58 (10 * nI k)) K1, K1) with | .inl se7 => (1 : Int32) | .inr re7 => re7.1) = 1
          rw [eL, g3]
        have g5 : S5_X12_struckHow (nI q) B J' k (w, B1, K1) = Z' := by
          unfold S5_X12_struckHow FI_X12_fitsStrike
          show (match F_X12_fitsStrike_w7 (F_X12_struckHow_l90 (nI q) B J' 0) (u2 B1 130 58 (10 * nI k)) K1 (1, FI_X12_starts 1 (u2 B1 130 58 (10 * nI k)) K1, K1) with | .inl se7 => se7.2.1 | .inr re7 => re7.2.1) = Z'
          rw [eL, g3]
        refine ⟨w ||| ((1 : Int32) <<< (nI k &&& 31)), X', JX', Z', S6_X12_struckHow (nI q) B J' k (w, B1, K1), ?_, ?_, k1, fun a b x y => (z1 a b x (by omega)).trans (b1 a b x (by omega))⟩
        · unfold B_X11_struckHow_l39
          refine (if_neg (show ¬ S5_X11_struckHow (nI q) A JA k (w, A1, J1) = 0 by rw [c3]; decide)).trans ?_
          rw [c4, c5]
        · unfold B_X12_struckHow_l144
          refine (if_neg (show ¬ S7_X12_struckHow (nI q) B J' k (w, B1, K1) = 0 by rw [g4]; decide)).trans ?_
          rw [g5]
      · have f3 := s0 _ w1
        have c3 : S5_X11_struckHow (nI q) A JA k (w, A1, J1) = 0 := by unfold S5_X11_struckHow; rw [f3]
        have c4 : S3_X11_struckHow (nI q) A JA k (w, A1, J1) = X' := by unfold S3_X11_struckHow; rw [f3]
        have c5 : S4_X11_struckHow (nI q) A JA k (w, A1, J1) = JX' := by unfold S4_X11_struckHow; rw [f3]
        have g3 : F_X12_fitsStrike_w7 (nI L) (u2 B1 130 58 (10 * nI k)) K1 (1, FI_X12_starts 1 (u2 B1 130 58 (10 * nI k)) K1, K1) = .inr (0, Z', K') := by
          unfold F_X12_fitsStrike_w7
          exact congrArg (fun o => Option.getD o _) w2
        have g4 : S7_X12_struckHow (nI q) B J' k (w, B1, K1) = 0 := by
          unfold S7_X12_struckHow F_X12_fitsStrike
          show (match F_X12_fitsStrike_w7 (F_X12_struckHow_l90 (nI q) B J' 0) (u2 B1 130 58 (10 * nI k)) K1 (1, FI_X12_starts 1 (u2 B1 130 58 (10 * nI k)) K1, K1) with | .inl se7 => (1 : Int32) | .inr re7 => re7.1) = 0
          rw [eL, g3]
        have g5 : S5_X12_struckHow (nI q) B J' k (w, B1, K1) = Z' := by
          unfold S5_X12_struckHow FI_X12_fitsStrike
          show (match F_X12_fitsStrike_w7 (F_X12_struckHow_l90 (nI q) B J' 0) (u2 B1 130 58 (10 * nI k)) K1 (1, FI_X12_starts 1 (u2 B1 130 58 (10 * nI k)) K1, K1) with | .inl se7 => se7.2.1 | .inr re7 => re7.2.1) = Z'
          rw [eL, g3]
        refine ⟨w ||| 0, X', JX', Z', S6_X12_struckHow (nI q) B J' k (w, B1, K1), ?_, ?_, k1, fun a b x y => (z1 a b x (by omega)).trans (b1 a b x (by omega))⟩
        · unfold B_X11_struckHow_l39
          refine (if_pos c3).trans ?_
          rw [c4, c5]
        · unfold B_X12_struckHow_l144
          refine (if_pos g4).trans ?_
          rw [g5]
  obtain ⟨w, A1, J1, B1, K1, e1, e2, _⟩ := Lp 10
  unfold F_X11_struckHow_l39 F_X12_struckHow_l144
  rw [e1, e2]
