/-! both: an order of four shots -/
def Zc (c : Nat) : SI := fun _ _ => nI c
def pk (i k : Nat) : Nat := (i / 4 ^ (3 - k)) % 4
def cod (p : List Nat) : Nat := ((p.getD 0 0 * 4 + p.getD 1 1) * 4 + p.getD 2 2) * 4 + p.getD 3 3
/-- the rows that pass, as the picks' lists in their order -/
def lvs (c : Nat) : Nat → List Nat → List (List Nat)
  | 0, p => if p.length = c then [p] else []
  | n + 1, p => if p.length = c then [p] else ((List.range' 0 c).filter (fun q => decide (¬ q ∈ p))).flatMap (fun q => lvs c n (p ++ [q]))
theorem pick_v : ∀ i, i < 256 → ∀ k, k < 4 → F_X3_pick (nI i) (nI k) (Zc 0) Jb = nI (pk i k) := by decide +kernel
theorem rows_v : ∀ c, c < 5 → (List.range 256).filter (fun i => !decide (F_X3_isRow (nI i) (Zc c) Jb = 0)) = (lvs c 4 []).map cod := by decide +kernel
theorem lvs_v : ∀ c, c < 5 → ∀ p ∈ lvs c 4 [], cod p < 256 ∧ p.length = c ∧ ∀ k, k < c → pk (cod p) k = p.getD k 9 ∧ p.getD k 9 < c := by decide +kernel
theorem lvs_5 : ∀ c, c < 5 → lvs c 5 [] = lvs c 4 [] := by decide +kernel
theorem lvs_n : ∀ c, c < 5 → lvs c 4 [] ≠ [] := by decide +kernel
theorem pk_4 (i k : Nat) : pk i k < 4 := Nat.mod_lt _ (by decide)
theorem isrow_e {i c : Nat} {A : SI} {J : SJ} (e : A 128 2 = nI c) : F_X3_isRow (nI i) A J = F_X3_isRow (nI i) (Zc c) Jb := by
  have cg : itE (B_X3_isRow_l4 (nI i) A J) 4 0 0 = itE (B_X3_isRow_l4 (nI i) (Zc c) Jb) 4 0 0 := itE_cg 4 0 0 (fun j _ _ s => by
    unfold B_X3_isRow_l4
    rw [e]
    rfl)
  unfold F_X3_isRow F_X3_isRow_l4
  rw [cg]
theorem NWD.mo {nm ns np : Nat} {A A1 B B1 : SI} {JA JA1 : SJ} (h : NWD nm ns np A JA B) (ea : ∀ a b, a < 104 → A1 a b = A a b) (ej : JA1 86 6 = JA 86 6) (eb : ∀ a b, a < 154 → ¬ (a = 130 ∧ (b = 38 ∨ 60 ≤ b)) → B1 a b = B a b) (e0 : ∀ a b, inS 0 a b → B1 a b = B a b) : NWD nm ns np A1 JA1 B1 := by
  obtain ⟨⟨c1, c2, c3, c4, c5, c6⟩, sc, ⟨p1, p2, p3⟩, t, l, g1, g2, g3, g4⟩ := h
  exact ⟨⟨c1, c2, (ea _ _ (by omega)).trans c3, (ea _ _ (by omega)).trans c4, (eb _ _ (by omega) (by omega)).trans c5, (eb _ _ (by omega) (by omega)).trans c6⟩, sc.mv c2 (fun a b x y => ea a b (by omega)) ej e0, ⟨p1, (ea _ _ (by omega)).trans p2, (eb _ _ (by omega) (by omega)).trans p3⟩, t.mv (fun a b x y => ea a b (by omega)) (fun a b z => eb a b (by unfold mT at z; omega) (by unfold mT at z; omega)), fun k hk => (l k hk).of hk (fun a b x y => eb a b (by omega) (by omega)), (eb _ _ (by omega) (by omega)).trans g1, (eb _ _ (by omega) (by omega)).trans g2, (eb _ _ (by omega) (by omega)).trans g3, (eb _ _ (by omega) (by omega)).trans g4⟩
/-- the days of a row are put -/
def PUT (nm ns np : Nat) (JA : SJ) (A B X Y : SI) : Prop := SCT 105 1 nm ns X JA Y ∧ DX 0 nm ns np X Y ∧ KP 105 113 A X ∧ FS 1 B Y ∧ (X 105 0 = A 105 0 ∧ X 105 2 = A 105 2 ∧ X 105 3 = A 105 3)
theorem put_v {nm ns np c i : Nat} {A B Ia Ib : SI} {JA Ja Jb2 : SJ} {rec : Nat → Int32 → Int32 → SI → SJ → SI × SJ} {a0 a1 : Int32} (hc : c ≤ 4) (hi : i < 256) (e1 : A 128 2 = nI c) (e2 : B 130 66 = nI c) (ed : A 105 0 = B 154 0) (hl : ∀ k, k < c → ∃ l, l < 8 ∧ A 129 (pk i k) = nI l ∧ B 171 k = nI l) : ∀ n k X Y N M, k + n = c → n < N → n < M → PUT nm ns np JA A B X Y → ∃ e X' e' Y', itW (B_X3_putDays_w2 (nI i) 105 Ia Ja) N (nI k, X) = some (e, X') ∧ itW (B_X12_rows_w69 rec a0 a1 Ib Jb2) M (nI k, Y) = some (e', Y') ∧ PUT nm ns np JA A B X' Y' := by
  intro n
  induction n with
  | zero =>
    intro k X Y N M hk hN hM v
    obtain ⟨N, rfl⟩ : ∃ x, N = x + 1 := ⟨N - 1, by omega⟩
    obtain ⟨M, rfl⟩ : ∃ x, M = x + 1 := ⟨M - 1, by omega⟩
    have x1 : X 128 2 = nI c := (v.2.2.1 _ _ (by omega)).trans e1
    have y1 : Y 130 66 = nI c := (v.2.2.2.1.lo (Or.inl (by omega)) (by omega)).trans e2
    refine ⟨nI k, X, nI k, Y, itW_r _ _ _ _ ?_, itW_r _ _ _ _ ?_, v⟩
    · unfold B_X3_putDays_w2
      exact if_pos (show X 128 2 ≤ nI k by rw [x1]; exact nI_le (by omega) (by omega))
    · unfold B_X12_rows_w69
      exact if_pos (show Y 130 66 ≤ nI k by rw [y1]; exact nI_le (by omega) (by omega))
  | succ n ih =>
    intro k X Y N M hk hN hM v
    obtain ⟨N, rfl⟩ : ∃ x, N = x + 1 := ⟨N - 1, by omega⟩
    obtain ⟨M, rfl⟩ : ∃ x, M = x + 1 := ⟨M - 1, by omega⟩
    obtain ⟨sc, dx, ka, fs, f0, f2, f3⟩ := v
    have x1 : X 128 2 = nI c := (ka _ _ (by omega)).trans e1
    have y1 : Y 130 66 = nI c := (fs.lo (Or.inl (by omega)) (by omega)).trans e2
    obtain ⟨l, h8, l1, l2⟩ := hl k (by omega)
    have p4 := pk_4 i k
    have pe : F_X3_pick (nI i) (nI k) X Ja = nI (pk i k) := pick_v i hi k (by omega)
    have x9 : atF (X 129) 4 (nI (pk i k)) = nI l := (atF_v p4 (by omega)).trans ((ka _ _ (by omega)).trans l1)
    have y9 : Y 171 k = nI l := (fs.lo (Or.inr (by omega)) (by omega)).trans l2
    have y0 : Y 154 0 = X 105 0 := by
      rw [f0, ed]
      exact fs 154 0 (fun z => by have := z.2.2.1; unfold szm at this; simp at this) (by omega)
    have c1 : B_X3_putDays_w2 (nI i) 105 Ia Ja (nI k, X) = .inl (nI (k + 1), u2 X 106 l (X 105 0 + nI k)) := by
      unfold B_X3_putDays_w2
      refine (if_neg (show ¬ X 128 2 ≤ nI k by rw [x1]; exact nI_ge (by omega) (by omega))).trans ?_
      unfold S1_X3_putDays
      show Sum.inl (nI k + 1, putF X 106 8 (atF (X 129) 4 (F_X3_pick (nI i) (nI k) X Ja)) (X 105 0 + nI k)) = _
      rw [pe, x9, putF_v h8 (by omega), nI_1]
    have c2 : B_X12_rows_w69 rec a0 a1 Ib Jb2 (nI k, Y) = .inl (nI (k + 1), u2 Y 162 (8 * 1 + l) (X 105 0 + nI k)) := by
      unfold B_X12_rows_w69
      refine (if_neg (show ¬ Y 130 66 ≤ nI k by rw [y1]; exact nI_ge (by omega) (by omega))).trans ?_
      unfold S4_X12_rows
      show Sum.inl (nI k + 1, u2 Y 162 ((8 : Int32) + Y 171 (nI k).toNatClampNeg).toNatClampNeg (Y 154 0 + nI k)) = _
      have e8 : ((8 : Int32) + nI l).toNatClampNeg = 8 * 1 + l := by
        have e : (8 : Int32) + nI l = nI (8 + l) := nI_add 8 l
        rw [e, nI_clamp (by omega)]
      rw [nI_clamp (show k < 2 ^ 31 by omega), y9, e8, y0, nI_1]
    rw [itW_l _ _ _ _ c1, itW_l _ _ _ _ c2]
    have ka' : KP 105 113 X (u2 X 106 l (X 105 0 + nI k)) := fun a b z => u2_n _ _ (by omega)
    have fs' : FS 1 Y (u2 Y 162 (8 * 1 + l) (X 105 0 + nI k)) := (FS.rf 1 Y).u (in8 (by omega) h8)
    exact ih (k + 1) _ _ N M (by omega) (by omega) (by omega) ⟨sc.w_sday, dx.mv ka' fs', ka.tr ka', fs.tr fs', (u2_n _ _ (by omega)).trans f0, (u2_n _ _ (by omega)).trans f2, (u2_n _ _ (by omega)).trans f3⟩
/-- between two rows -/
def BST (c : Nat) (A B : SI) : Prop := (A 128 1 = -1 ∧ B 130 67 = -1) ∨ ∃ i t, i < 256 ∧ t < 2 ^ 31 ∧ A 128 1 = nI i ∧ A 128 0 = nI t ∧ B 130 67 = nI t ∧ ∀ k, k < c → B 172 k = A 129 (pk i k)
def ORL (nm ns np c : Nat) (A : SI) (JA : SJ) (B : SI) : Prop := NWD nm ns np A JA B ∧ A 128 2 = nI c ∧ B 130 66 = nI c ∧ (∀ k, k < c → ∃ l, l < 8 ∧ A 129 k = nI l ∧ B 170 k = nI l) ∧ BST c A B
/-- the best row's shots are kept -/
theorem cp172 {c : Nat} {rec : Nat → Int32 → Int32 → SI → SJ → SI × SJ} {a0 a1 : Int32} {Ib : SI} {Jb2 : SJ} (hc : c ≤ 4) : ∀ n k Y N, k + n = c → n < N → Y 130 66 = nI c → (∃ e Y', itW (B_X12_rows_w148 rec a0 a1 Ib Jb2) N (nI k, Y) = some (e, Y') ∧ (∀ a b, ¬ a = 172 → Y' a b = Y a b) ∧ (∀ b, b < k → Y' 172 b = Y 172 b) ∧ ∀ b, k ≤ b → b < c → Y' 172 b = Y 171 b) ∧ (∃ e Y', itW (B_X12_rows_w148_2 rec a0 a1 Ib Jb2) N (nI k, Y) = some (e, Y') ∧ (∀ a b, ¬ a = 172 → Y' a b = Y a b) ∧ (∀ b, b < k → Y' 172 b = Y 172 b) ∧ ∀ b, k ≤ b → b < c → Y' 172 b = Y 171 b) := by
  intro n
  induction n with
  | zero =>
    intro k Y N hk hN e
    obtain ⟨N, rfl⟩ : ∃ x, N = x + 1 := ⟨N - 1, by omega⟩
    have z : Y 130 66 ≤ nI k := by rw [e]; exact nI_le (by omega) (by omega)
    refine ⟨⟨nI k, Y, itW_r _ _ _ _ ?_, fun _ _ _ => rfl, fun _ _ => rfl, fun b h1 h2 => by omega⟩, ⟨nI k, Y, itW_r _ _ _ _ ?_, fun _ _ _ => rfl, fun _ _ => rfl, fun b h1 h2 => by omega⟩⟩
    · unfold B_X12_rows_w148
      exact if_pos z
    · unfold B_X12_rows_w148_2
      exact if_pos z
  | succ n ih =>
    intro k Y N hk hN e
    obtain ⟨N, rfl⟩ : ∃ x, N = x + 1 := ⟨N - 1, by omega⟩
    have z : ¬ Y 130 66 ≤ nI k := by rw [e]; exact nI_ge (by omega) (by omega)
    have q := ih (k + 1) (u2 Y 172 k (Y 171 k)) N (by omega) (by omega) ((u2_n _ _ (by omega)).trans e)
    have c1 : B_X12_rows_w148 rec a0 a1 Ib Jb2 (nI k, Y) = .inl (nI (k + 1), u2 Y 172 k (Y 171 k)) := by
      unfold B_X12_rows_w148
      refine (if_neg z).trans ?_
      show Sum.inl (nI k + 1, u2 Y 172 (nI k).toNatClampNeg (Y 171 (nI k).toNatClampNeg)) = _
      rw [nI_clamp (show k < 2 ^ 31 by omega), nI_1]
    have c2 : B_X12_rows_w148_2 rec a0 a1 Ib Jb2 (nI k, Y) = .inl (nI (k + 1), u2 Y 172 k (Y 171 k)) := by
      unfold B_X12_rows_w148_2
      refine (if_neg z).trans ?_
      show Sum.inl (nI k + 1, u2 Y 172 (nI k).toNatClampNeg (Y 171 (nI k).toNatClampNeg)) = _
      rw [nI_clamp (show k < 2 ^ 31 by omega), nI_1]
    rw [itW_l _ _ _ _ c1, itW_l _ _ _ _ c2]
    have fin : ∀ Y' : SI, (∀ a b, ¬ a = 172 → Y' a b = u2 Y 172 k (Y 171 k) a b) → (∀ b, b < k + 1 → Y' 172 b = u2 Y 172 k (Y 171 k) 172 b) → (∀ b, k + 1 ≤ b → b < c → Y' 172 b = u2 Y 172 k (Y 171 k) 171 b) → (∀ a b, ¬ a = 172 → Y' a b = Y a b) ∧ (∀ b, b < k → Y' 172 b = Y 172 b) ∧ ∀ b, k ≤ b → b < c → Y' 172 b = Y 171 b := fun Y' h1 h2 h3 => by
      refine ⟨fun a b x => (h1 a b x).trans (u2_n _ _ (by omega)), fun b x => (h2 b (by omega)).trans (u2_n _ _ (by omega)), fun b x y => ?_⟩
      by_cases w : b = k
      · subst w
        exact (h2 b (by omega)).trans (u2_s _ _ _ _)
      · exact (h3 b (by omega) y).trans (u2_n _ _ (by omega))
    obtain ⟨⟨f1, Y1, w1, a1', b1, d1⟩, ⟨f2, Y2, w2, a2', b2, d2⟩⟩ := q
    exact ⟨⟨f1, Y1, w1, fin Y1 a1' b1 d1⟩, ⟨f2, Y2, w2, fin Y2 a2' b2 d2⟩⟩
