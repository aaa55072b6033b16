/-! both: a text alike: printed by wip/gen/inv/g95.py -/
/-- what is told, of a kind: the class's table, the model's count and rows -/
def TBT (k w mx : Nat) (rs : List (Nat × Nat)) (A B : SI) : Prop := ∃ c : Nat, c ≤ mx ∧ A k 1 = nI c ∧ B 132 w = nI c ∧ (∀ i, i < c → ∀ p ∈ rs, A p.1 i = B p.2 i ∧ BD p.2 (A p.1 i)) ∧ ∀ j i, 1 ≤ j → j ≤ 4 → c ≤ i → i < 8 → A (k + j) i = 0
def TSM : List (Nat × Nat) := [(4, 133), (5, 134), (6, 135)]
def TSS : List (Nat × Nat) := [(9, 136), (10, 137), (11, 138)]
def TSP : List (Nat × Nat) := [(14, 140), (15, 141), (16, 142), (17, 143)]
def TSC : List (Nat × Nat) := [(19, 144), (20, 145)]
def TSK : List (Nat × Nat) := [(25, 146), (26, 147)]
def LWT (k : Nat) (A B : SI) : Prop := (A (29 + 4 * k) 0 = 0 ∧ A (29 + 4 * k) 1 = 0 ∧ B 148 k = 0 ∧ B 149 k = 0) ∨ (A (29 + 4 * k) 0 = 1 ∧ ∃ f m : Nat, 1 ≤ m ∧ A (29 + 4 * k) 1 = nI m ∧ B 148 k = nI f ∧ B 149 k = nI (f + m) ∧ f + m ≤ 64 ∧ (∀ j, j < m → CQ (A (30 + 4 * k) j) (A (31 + 4 * k) j) (B 150 (f + j)) (B 151 (f + j))) ∧ dp (B 150) (B 151) m f 0 = 1)
/-- what is told, alike -/
def TL (A B : SI) : Prop := TBT 3 0 6 TSM A B ∧ TBT 8 1 8 TSS A B ∧ TBT 13 3 4 TSP A B ∧ TBT 18 4 4 TSC A B ∧ TBT 23 5 3 TSK A B ∧ (A 8 1 = 0 ∨ ∀ i, i < 48 → A 28 i = B 139 i ∧ (A 28 i = -1 ∨ inR (A 28 i) 6)) ∧ (A 2 7 = B 132 6 ∧ inR (A 2 7) 101) ∧ (A 2 8 = B 132 7 ∧ inR (A 2 8) 1000) ∧ (A 2 9 = B 132 8 ∧ inR (A 2 9) 100000) ∧ (A 2 11 = B 132 9) ∧ (∀ k, k < 3 → LWT k A B) ∧ ∀ i, i < 48 → MKQ 28 3 13 15 i A
theorem ts_b {p : Nat × Nat} (h : p ∈ TSM ∨ p ∈ TSS ∨ p ∈ TSP ∨ p ∈ TSC ∨ p ∈ TSK) : 4 ≤ p.1 ∧ p.1 ≤ 26 ∧ 133 ≤ p.2 ∧ p.2 ≤ 147 ∧ p.2 ≠ 139 := by
  unfold TSM TSS TSP TSC TSK at h
  simp at h
  rcases h with h | h | h | h | h
  · rcases h with rfl | rfl | rfl <;> decide
  · rcases h with rfl | rfl | rfl <;> decide
  · rcases h with rfl | rfl | rfl | rfl <;> decide
  · rcases h with rfl | rfl <;> decide
  · rcases h with rfl | rfl <;> decide
theorem TBT.mv {k w mx : Nat} {rs : List (Nat × Nat)} {A B A' B' : SI} (h : TBT k w mx rs A B) (e1 : ∀ a b, k ≤ a → a ≤ k + 4 → A' a b = A a b) (e2 : B' 132 w = B 132 w) (hp : ∀ p ∈ rs, k ≤ p.1 ∧ p.1 ≤ k + 4) (eb : ∀ p ∈ rs, ∀ i, i < mx → B' p.2 i = B p.2 i) : TBT k w mx rs A' B' := by
  obtain ⟨c, hc, h1, h2, h3, h4⟩ := h
  refine ⟨c, hc, (e1 k 1 (by omega) (by omega)).trans h1, e2.trans h2, fun i hi p hq => ?_, fun j i x y z t => ?_⟩
  · have b := hp p hq
    rw [e1 p.1 i b.1 b.2, eb p hq i (by omega)]
    exact h3 i hi p hq
  · rw [e1 (k + j) i (by omega) (by omega)]
    exact h4 j i x y z t
theorem ts_k : (∀ p ∈ TSM, 3 ≤ p.1 ∧ p.1 ≤ 7) ∧ (∀ p ∈ TSS, 8 ≤ p.1 ∧ p.1 ≤ 12) ∧ (∀ p ∈ TSP, 13 ≤ p.1 ∧ p.1 ≤ 17) ∧ (∀ p ∈ TSC, 18 ≤ p.1 ∧ p.1 ≤ 22) ∧ (∀ p ∈ TSK, 23 ≤ p.1 ∧ p.1 ≤ 27) := by
  unfold TSM TSS TSP TSC TSK
  simp
theorem ts_m : (∀ p ∈ TSM, 133 ≤ p.2 ∧ p.2 ≤ 135) ∧ (∀ p ∈ TSS, 136 ≤ p.2 ∧ p.2 ≤ 138) ∧ (∀ p ∈ TSP, 140 ≤ p.2 ∧ p.2 ≤ 143) ∧ (∀ p ∈ TSC, 144 ≤ p.2 ∧ p.2 ≤ 145) ∧ (∀ p ∈ TSK, 146 ≤ p.2 ∧ p.2 ≤ 147) := by
  unfold TSM TSS TSP TSC TSK
  simp
theorem LWT.mv {k : Nat} {A B A' B' : SI} (hk : k < 3) (h : LWT k A B) (ea : ∀ a b, 29 ≤ a → a ≤ 39 → A' a b = A a b) (eb : ∀ a b, mT a b → B' a b = B a b) : LWT k A' B' := by
  unfold LWT
  rw [ea (29 + 4 * k) 0 (by omega) (by omega), ea (29 + 4 * k) 1 (by omega) (by omega), eb 148 k (by unfold mT; omega), eb 149 k (by unfold mT; omega)]
  rcases h with h | ⟨h0, f, m, h1, h2, h3, h4, h5, h6, h7⟩
  · exact Or.inl h
  · refine Or.inr ⟨h0, f, m, h1, h2, h3, h4, h5, fun j hj => ?_, (dp_cg _ _ _ (fun j _ w => ⟨eb 150 j (by unfold mT; omega), eb 151 j (by unfold mT; omega)⟩)).trans h7⟩
    rw [ea (30 + 4 * k) j (by omega) (by omega), ea (31 + 4 * k) j (by omega) (by omega), eb 150 (f + j) (by unfold mT; omega), eb 151 (f + j) (by unfold mT; omega)]
    exact h6 j hj
theorem TL.mv {A B A' B' : SI} (h : TL A B) (ea : ∀ a b, 2 ≤ a → a ≤ 40 → A' a b = A a b) (eb : ∀ a b, mT a b → B' a b = B a b) : TL A' B' := by
  obtain ⟨h0, h1, h2, h3, h4, h5, h6, h7, h8, h9, h10⟩ := h
  refine ⟨h0.mv (fun a b x y => ea a b (by omega) (by omega)) (eb _ _ (by unfold mT; omega)) ts_k.1 (fun p hp i _ => eb p.2 i (by have := ts_m.1 p hp; unfold mT; omega)), h1.mv (fun a b x y => ea a b (by omega) (by omega)) (eb _ _ (by unfold mT; omega)) ts_k.2.1 (fun p hp i _ => eb p.2 i (by have := ts_m.2.1 p hp; unfold mT; omega)), h2.mv (fun a b x y => ea a b (by omega) (by omega)) (eb _ _ (by unfold mT; omega)) ts_k.2.2.1 (fun p hp i _ => eb p.2 i (by have := ts_m.2.2.1 p hp; unfold mT; omega)), h3.mv (fun a b x y => ea a b (by omega) (by omega)) (eb _ _ (by unfold mT; omega)) ts_k.2.2.2.1 (fun p hp i _ => eb p.2 i (by have := ts_m.2.2.2.1 p hp; unfold mT; omega)), h4.mv (fun a b x y => ea a b (by omega) (by omega)) (eb _ _ (by unfold mT; omega)) ts_k.2.2.2.2 (fun p hp i _ => eb p.2 i (by have := ts_m.2.2.2.2 p hp; unfold mT; omega)), h5.imp (fun z => (ea 8 1 (by omega) (by omega)).trans z) (fun z i hi => by rw [ea 28 i (by omega) (by omega), eb 139 i (by unfold mT; omega)]; exact z i hi), ?_, ?_, ?_, ?_, ⟨fun k hk => (h10.1 k hk).mv hk (fun a b x y => ea a b (by omega) (by omega)) eb, fun i hi => (h10.2 i hi).to (ea 28 i (by omega) (by omega)) (le_of_e (ea 3 1 (by omega) (by omega))) (ea 13 1 (by omega) (by omega)) (fun _ => ea 15 i (by omega) (by omega))⟩⟩
  · rw [ea 2 7 (by omega) (by omega), eb 132 6 (by unfold mT; omega)]; exact h6
  · rw [ea 2 8 (by omega) (by omega), eb 132 7 (by unfold mT; omega)]; exact h7
  · rw [ea 2 9 (by omega) (by omega), eb 132 8 (by unfold mT; omega)]; exact h8
  · rw [ea 2 11 (by omega) (by omega), eb 132 9 (by unfold mT; omega)]; exact h9
/-! what is read becomes what is told: the class's copies -/
def St (D : Nat → Nat → Prop) (X S : SI) : Prop := (∀ a b, D a b → a ≤ 40) ∧ (∀ a b, D a b → S a b = X (a + 40) b) ∧ ∀ a b, ¬ D a b → S a b = X a b
theorem St.c {D : Nat → Nat → Prop} {X S : SI} {r m : Nat} (h : St D X S) (hr : r ≤ 40 ∧ 2 ≤ r) : St (fun a b => D a b ∨ (a = r ∧ b < m)) X (cpF S (r + 40) r m) := by
  obtain ⟨h0, h1, h2⟩ := h
  refine ⟨fun a b z => z.elim (h0 a b) (fun y => by omega), fun a b z => ?_, fun a b z => ?_⟩
  · unfold cpF
    by_cases y : a = r ∧ b < m
    · rw [if_pos y, h2 (r + 40) b (fun q => by have := h0 _ _ q; omega), y.1]
    · rw [if_neg y]
      exact h1 a b (z.resolve_right y)
  · unfold cpF
    rw [if_neg (fun y => z (Or.inr y))]
    exact h2 a b (fun y => z (Or.inl y))
theorem St.u {D : Nat → Nat → Prop} {X S : SI} {r q : Nat} {v : Int32} (h : St D X S) (hr : r ≤ 40 ∧ 2 ≤ r) (hv : v = S (r + 40) q) : St (fun a b => D a b ∨ (a = r ∧ b = q)) X (u2 S r q v) := by
  obtain ⟨h0, h1, h2⟩ := h
  refine ⟨fun a b z => z.elim (h0 a b) (fun y => by omega), fun a b z => ?_, fun a b z => ?_⟩
  · by_cases y : a = r ∧ b = q
    · rw [y.1, y.2, u2_s, hv]
      exact h2 _ _ (fun x => by have := h0 _ _ x; omega)
    · rw [u2_n _ _ y]
      exact h1 a b (z.resolve_right y)
  · rw [u2_n _ _ (fun y => z (Or.inr y))]
    exact h2 a b (fun y => z (Or.inl y))
theorem St.w {D E : Nat → Nat → Prop} {X S : SI} (h : St D X S) (e : ∀ a b, D a b ↔ E a b) : St E X S := ⟨fun a b z => h.1 a b ((e a b).mpr z), fun a b z => h.2.1 a b ((e a b).mpr z), fun a b z => h.2.2 a b (fun y => z ((e a b).mp y))⟩
theorem St.t {D : Nat → Nat → Prop} {X S : SI} {k : Nat} {J : SJ} (h : St D X S) (hk : k ≤ 36 ∧ 2 ≤ k) : St (fun a b => D a b ∨ (a = k ∧ b = 1) ∨ (k + 1 ≤ a ∧ a ≤ k + 4 ∧ b < 8)) X (FI_X7_copy k (k + 40) S J) := by
  unfold FI_X7_copy S1_X7_copy
  have s := ((((h.u (r := k) (q := 1) (v := S (k + 40) 1) (by omega) rfl).c (r := k + 1) (m := 8) (by omega)).c (r := k + 2) (m := 8) (by omega)).c (r := k + 3) (m := 8) (by omega)).c (r := k + 4) (m := 8) (by omega)
  exact St.w s (fun a b => ⟨fun z => by
    rcases z with (((z | z) | z) | z) | z
    · rcases z with z | z
      · exact Or.inl z
      · exact Or.inr (Or.inl z)
    · exact Or.inr (Or.inr (by omega))
    · exact Or.inr (Or.inr (by omega))
    · exact Or.inr (Or.inr (by omega))
    · exact Or.inr (Or.inr (by omega)), fun z => by
    rcases z with z | z | z
    · exact Or.inl (Or.inl (Or.inl (Or.inl (Or.inl z))))
    · exact Or.inl (Or.inl (Or.inl (Or.inl (Or.inr z))))
    · by_cases y1 : a = k + 1
      · exact Or.inl (Or.inl (Or.inl (Or.inr (by omega))))
      · by_cases y2 : a = k + 2
        · exact Or.inl (Or.inl (Or.inr (by omega)))
        · by_cases y3 : a = k + 3
          · exact Or.inl (Or.inr (by omega))
          · exact Or.inr (by omega)⟩)
theorem St.l {D : Nat → Nat → Prop} {X S : SI} {k : Nat} {J : SJ} (h : St D X S) (hk : k ≤ 38 ∧ 2 ≤ k) : St (fun a b => D a b ∨ (a = k ∧ b < 2) ∨ (k + 1 ≤ a ∧ a ≤ k + 2 ∧ b < 64)) X (FI_X1_copy k (k + 40) S J) := by
  unfold FI_X1_copy S1_X1_copy
  have s := (((h.u (r := k) (q := 0) (v := S (k + 40) 0) (by omega) rfl).u (r := k) (q := 1) (v := (u2 S k 0 (S (k + 40) 0)) (k + 40) 1) (by omega) rfl).c (r := k + 1) (m := 64) (by omega)).c (r := k + 2) (m := 64) (by omega)
  exact St.w s (fun a b => ⟨fun z => by
    rcases z with ((z | z) | z) | z
    · rcases z with z | z
      · exact Or.inl z
      · exact Or.inr (Or.inl (by omega))
    · exact Or.inr (Or.inl (by omega))
    · exact Or.inr (Or.inr (by omega))
    · exact Or.inr (Or.inr (by omega)), fun z => by
    rcases z with z | z | z
    · exact Or.inl (Or.inl (Or.inl (Or.inl z)))
    · by_cases y : b = 0
      · exact Or.inl (Or.inl (Or.inl (Or.inr (by omega))))
      · exact Or.inl (Or.inl (Or.inr (by omega)))
    · by_cases y1 : a = k + 1
      · exact Or.inl (Or.inr (by omega))
      · exact Or.inr (by omega)⟩)
def cpd (a b : Nat) : Prop := (a = 2 ∧ 6 ≤ b ∧ b ≤ 11) ∨ ((a = 3 ∨ a = 8 ∨ a = 13 ∨ a = 18 ∨ a = 23) ∧ b = 1) ∨ (4 ≤ a ∧ a ≤ 27 ∧ a ≠ 8 ∧ a ≠ 13 ∧ a ≠ 18 ∧ a ≠ 23 ∧ b < 8) ∨ (a = 28 ∧ b < 48) ∨ ((a = 29 ∨ a = 33 ∨ a = 37) ∧ b < 2) ∨ ((a = 30 ∨ a = 31 ∨ a = 34 ∨ a = 35 ∨ a = 38 ∨ a = 39) ∧ b < 64)
theorem copy9_v {X : SI} {J : SJ} : (∀ a b, cpd a b → FI_X9_copy 2 42 X J a b = X (a + 40) b) ∧ ∀ a b, ¬ (2 ≤ a ∧ a ≤ 40) → FI_X9_copy 2 42 X J a b = X a b := by
  have s0 : St (fun _ _ => False) X X := ⟨fun _ _ z => z.elim, fun _ _ z => z.elim, fun _ _ _ => rfl⟩
  have s1 := (((s0.t (k := 3) (J := J) (by omega)).t (k := 8) (J := J) (by omega)).t (k := 13) (J := J) (by omega))
  have s2 := (s1.t (k := 18) (J := J) (by omega)).t (k := 23) (J := J) (by omega)
  have s3 := (s2.c (r := 28) (m := 48) (by omega)).u (r := 2) (q := 6) (by omega) rfl
  have s4 := (s3.u (r := 2) (q := 7) (by omega) rfl).u (r := 2) (q := 8) (by omega) rfl
  have s5 := (s4.u (r := 2) (q := 9) (by omega) rfl).u (r := 2) (q := 10) (by omega) rfl
  have s6 := (s5.u (r := 2) (q := 11) (by omega) rfl).l (k := 29) (J := J) (by omega)
  have s7 := (s6.l (k := 33) (J := J) (by omega)).l (k := 37) (J := J) (by omega)
  have e : FI_X9_copy 2 42 X J = FI_X1_copy 37 (37 + 40) (FI_X1_copy 33 (33 + 40) (FI_X1_copy 29 (29 + 40) _ J) J) J := rfl
  refine ⟨fun a b z => ?_, fun a b z => ?_⟩
  · rw [e]
    refine s7.2.1 a b ?_
    rcases z with z | z | z | z | z | z
    · rcases (by omega : b = 6 ∨ b = 7 ∨ b = 8 ∨ b = 9 ∨ b = 10 ∨ b = 11) with y | y | y | y | y | y
      · exact Or.inl (Or.inl (Or.inl (Or.inl (Or.inl (Or.inl (Or.inl (Or.inl (Or.inr (⟨z.1, y⟩)))))))))
      · exact Or.inl (Or.inl (Or.inl (Or.inl (Or.inl (Or.inl (Or.inl (Or.inr (⟨z.1, y⟩))))))))
      · exact Or.inl (Or.inl (Or.inl (Or.inl (Or.inl (Or.inl (Or.inr (⟨z.1, y⟩)))))))
      · exact Or.inl (Or.inl (Or.inl (Or.inl (Or.inl (Or.inr (⟨z.1, y⟩))))))
      · exact Or.inl (Or.inl (Or.inl (Or.inl (Or.inr (⟨z.1, y⟩)))))
      · exact Or.inl (Or.inl (Or.inl (Or.inr (⟨z.1, y⟩))))
    · rcases z.1 with y | y | y | y | y
      · exact Or.inl (Or.inl (Or.inl (Or.inl (Or.inl (Or.inl (Or.inl (Or.inl (Or.inl (Or.inl (Or.inl (Or.inl (Or.inl (Or.inl (Or.inr (Or.inl ⟨y, z.2⟩)))))))))))))))
      · exact Or.inl (Or.inl (Or.inl (Or.inl (Or.inl (Or.inl (Or.inl (Or.inl (Or.inl (Or.inl (Or.inl (Or.inl (Or.inl (Or.inr (Or.inl ⟨y, z.2⟩))))))))))))))
      · exact Or.inl (Or.inl (Or.inl (Or.inl (Or.inl (Or.inl (Or.inl (Or.inl (Or.inl (Or.inl (Or.inl (Or.inl (Or.inr (Or.inl ⟨y, z.2⟩)))))))))))))
      · exact Or.inl (Or.inl (Or.inl (Or.inl (Or.inl (Or.inl (Or.inl (Or.inl (Or.inl (Or.inl (Or.inl (Or.inr (Or.inl ⟨y, z.2⟩))))))))))))
      · exact Or.inl (Or.inl (Or.inl (Or.inl (Or.inl (Or.inl (Or.inl (Or.inl (Or.inl (Or.inl (Or.inr (Or.inl ⟨y, z.2⟩)))))))))))
    · rcases (by omega : a ≤ 7 ∨ (9 ≤ a ∧ a ≤ 12) ∨ (14 ≤ a ∧ a ≤ 17) ∨ (19 ≤ a ∧ a ≤ 22) ∨ 24 ≤ a) with y | y | y | y | y
      · exact Or.inl (Or.inl (Or.inl (Or.inl (Or.inl (Or.inl (Or.inl (Or.inl (Or.inl (Or.inl (Or.inl (Or.inl (Or.inl (Or.inl (Or.inr (Or.inr ⟨by omega, by omega, by omega⟩)))))))))))))))
      · exact Or.inl (Or.inl (Or.inl (Or.inl (Or.inl (Or.inl (Or.inl (Or.inl (Or.inl (Or.inl (Or.inl (Or.inl (Or.inl (Or.inr (Or.inr ⟨by omega, by omega, by omega⟩))))))))))))))
      · exact Or.inl (Or.inl (Or.inl (Or.inl (Or.inl (Or.inl (Or.inl (Or.inl (Or.inl (Or.inl (Or.inl (Or.inl (Or.inr (Or.inr ⟨by omega, by omega, by omega⟩)))))))))))))
      · exact Or.inl (Or.inl (Or.inl (Or.inl (Or.inl (Or.inl (Or.inl (Or.inl (Or.inl (Or.inl (Or.inl (Or.inr (Or.inr ⟨by omega, by omega, by omega⟩))))))))))))
      · exact Or.inl (Or.inl (Or.inl (Or.inl (Or.inl (Or.inl (Or.inl (Or.inl (Or.inl (Or.inl (Or.inr (Or.inr ⟨by omega, by omega, by omega⟩)))))))))))
    · exact Or.inl (Or.inl (Or.inl (Or.inl (Or.inl (Or.inl (Or.inl (Or.inl (Or.inl (Or.inr (z))))))))))
    · rcases z.1 with y | y | y
      · exact Or.inl (Or.inl (Or.inr (Or.inl ⟨y, z.2⟩)))
      · exact Or.inl (Or.inr (Or.inl ⟨y, z.2⟩))
      · exact Or.inr (Or.inl ⟨y, z.2⟩)
    · rcases (by omega : a ≤ 31 ∨ (34 ≤ a ∧ a ≤ 35) ∨ 38 ≤ a) with y | y | y
      · exact Or.inl (Or.inl (Or.inr (Or.inr ⟨by omega, by omega, by omega⟩)))
      · exact Or.inl (Or.inr (Or.inr ⟨by omega, by omega, by omega⟩))
      · exact Or.inr (Or.inr ⟨by omega, by omega, by omega⟩)
  · rw [e]
    refine s7.2.2 a b (fun y => ?_)
    rcases y with ((((((((((((((y | y) | y) | y) | y) | y) | y) | y) | y) | y) | y) | y) | y) | y) | y) | y
    · exact y
    · omega
    · omega
    · omega
    · omega
    · omega
    · omega
    · omega
    · omega
    · omega
    · omega
    · omega
    · omega
    · omega
    · omega
    · omega
/-! .. the model's halves -/
def NA (a : Nat) : Nat := if a = 132 then 10 else if a ≤ 135 then 6 else if a ≤ 138 then 8 else if a = 139 then 48 else if a ≤ 145 then 4 else if a ≤ 149 then 3 else 64
def PH (r : Nat) (R S : SI) : Prop := ∀ a b, (132 ≤ a ∧ a < r ∧ b < NA a → S a b = R a (NA a + b)) ∧ (¬ (132 ≤ a ∧ a < r ∧ b < NA a) → S a b = R a b)
theorem PH.s {r N : Nat} {R S : SI} {J : SJ} (h : PH r R S) (hr : 132 ≤ r) (hN : NA r = N) (hN2 : 2 * N < 800) (hd : nI (2 * N) / 2 = nI N) : PH (r + 1) R (FI_X12_half r (2 * N) S J) := by
  have v := half_v (r := r) (I := S) (J := J) hN2 hd
  intro a b
  by_cases z : a = r ∧ b < N
  · refine ⟨fun _ => ?_, fun q => absurd ⟨by omega, by omega, by rw [z.1, hN]; exact z.2⟩ q⟩
    rw [z.1, v.2.1 b z.2, hN]
    exact (h r (N + b)).2 (by omega)
  · have e := v.2.2 a b z
    rw [e]
    refine ⟨fun q => (h a b).1 ⟨q.1, ?_, q.2.2⟩, fun q => (h a b).2 (fun y => q ⟨y.1, by omega, y.2.2⟩)⟩
    by_cases y : a = r
    · exact absurd ⟨y, by rw [← hN, ← y]; exact q.2.2⟩ z
    · omega
theorem halves_v {a0 : Int32} {B : SI} {J : SJ} : PH 152 (u2 (S4_X12_text a0 B J) 130 33 (S4_X12_text a0 B J 130 31)) (S24_X12_text a0 B J) := by
  have h0 : PH 132 (u2 (S4_X12_text a0 B J) 130 33 (S4_X12_text a0 B J 130 31)) (u2 (S4_X12_text a0 B J) 130 33 (S4_X12_text a0 B J 130 31)) := fun a b => ⟨fun z => by omega, fun _ => rfl⟩
  have h1 : PH 133 (u2 (S4_X12_text a0 B J) 130 33 (S4_X12_text a0 B J 130 31)) (S5_X12_text a0 B J) := h0.s (N := 10) (by omega) rfl (by omega) (by decide)
  have h2 : PH 134 (u2 (S4_X12_text a0 B J) 130 33 (S4_X12_text a0 B J 130 31)) (S6_X12_text a0 B J) := h1.s (N := 6) (by omega) rfl (by omega) (by decide)
  have h3 : PH 135 (u2 (S4_X12_text a0 B J) 130 33 (S4_X12_text a0 B J 130 31)) (S7_X12_text a0 B J) := h2.s (N := 6) (by omega) rfl (by omega) (by decide)
  have h4 : PH 136 (u2 (S4_X12_text a0 B J) 130 33 (S4_X12_text a0 B J 130 31)) (S8_X12_text a0 B J) := h3.s (N := 6) (by omega) rfl (by omega) (by decide)
  have h5 : PH 137 (u2 (S4_X12_text a0 B J) 130 33 (S4_X12_text a0 B J 130 31)) (S9_X12_text a0 B J) := h4.s (N := 8) (by omega) rfl (by omega) (by decide)
  have h6 : PH 138 (u2 (S4_X12_text a0 B J) 130 33 (S4_X12_text a0 B J 130 31)) (S10_X12_text a0 B J) := h5.s (N := 8) (by omega) rfl (by omega) (by decide)
  have h7 : PH 139 (u2 (S4_X12_text a0 B J) 130 33 (S4_X12_text a0 B J 130 31)) (S11_X12_text a0 B J) := h6.s (N := 8) (by omega) rfl (by omega) (by decide)
  have h8 : PH 140 (u2 (S4_X12_text a0 B J) 130 33 (S4_X12_text a0 B J 130 31)) (S12_X12_text a0 B J) := h7.s (N := 48) (by omega) rfl (by omega) (by decide)
  have h9 : PH 141 (u2 (S4_X12_text a0 B J) 130 33 (S4_X12_text a0 B J 130 31)) (S13_X12_text a0 B J) := h8.s (N := 4) (by omega) rfl (by omega) (by decide)
  have h10 : PH 142 (u2 (S4_X12_text a0 B J) 130 33 (S4_X12_text a0 B J 130 31)) (S14_X12_text a0 B J) := h9.s (N := 4) (by omega) rfl (by omega) (by decide)
  have h11 : PH 143 (u2 (S4_X12_text a0 B J) 130 33 (S4_X12_text a0 B J 130 31)) (S15_X12_text a0 B J) := h10.s (N := 4) (by omega) rfl (by omega) (by decide)
  have h12 : PH 144 (u2 (S4_X12_text a0 B J) 130 33 (S4_X12_text a0 B J 130 31)) (S16_X12_text a0 B J) := h11.s (N := 4) (by omega) rfl (by omega) (by decide)
  have h13 : PH 145 (u2 (S4_X12_text a0 B J) 130 33 (S4_X12_text a0 B J 130 31)) (S17_X12_text a0 B J) := h12.s (N := 4) (by omega) rfl (by omega) (by decide)
  have h14 : PH 146 (u2 (S4_X12_text a0 B J) 130 33 (S4_X12_text a0 B J 130 31)) (S18_X12_text a0 B J) := h13.s (N := 4) (by omega) rfl (by omega) (by decide)
  have h15 : PH 147 (u2 (S4_X12_text a0 B J) 130 33 (S4_X12_text a0 B J 130 31)) (S19_X12_text a0 B J) := h14.s (N := 3) (by omega) rfl (by omega) (by decide)
  have h16 : PH 148 (u2 (S4_X12_text a0 B J) 130 33 (S4_X12_text a0 B J 130 31)) (S20_X12_text a0 B J) := h15.s (N := 3) (by omega) rfl (by omega) (by decide)
  have h17 : PH 149 (u2 (S4_X12_text a0 B J) 130 33 (S4_X12_text a0 B J 130 31)) (S21_X12_text a0 B J) := h16.s (N := 3) (by omega) rfl (by omega) (by decide)
  have h18 : PH 150 (u2 (S4_X12_text a0 B J) 130 33 (S4_X12_text a0 B J 130 31)) (S22_X12_text a0 B J) := h17.s (N := 3) (by omega) rfl (by omega) (by decide)
  have h19 : PH 151 (u2 (S4_X12_text a0 B J) 130 33 (S4_X12_text a0 B J 130 31)) (S23_X12_text a0 B J) := h18.s (N := 64) (by omega) rfl (by omega) (by decide)
  have h20 : PH 152 (u2 (S4_X12_text a0 B J) 130 33 (S4_X12_text a0 B J 130 31)) (S24_X12_text a0 B J) := h19.s (N := 64) (by omega) rfl (by omega) (by decide)
  exact h20
/-! .. the class's scene as the text tells it -/
theorem open_v {k : Nat} {A : SI} {J : SJ} (hk : 41 ≤ k) : (∀ b, b < 6 → FI_X5_open k 2 A J k b = if b = 1 then A 2 8 else 0) ∧ (∀ b, b < 8 → FI_X5_open k 2 A J (k + 1) b = A 11 b) ∧ (∀ b, b < 8 → FI_X5_open k 2 A J (k + 2) b = 0 ∧ FI_X5_open k 2 A J (k + 3) b = 0) ∧ (∀ b, b < 48 → FI_X5_open k 2 A J (k + 4) b = A 28 b) ∧ (∀ b, b < 6 → FI_X5_open k 2 A J (k + 5) b = -1 ∧ FI_X5_open k 2 A J (k + 6) b = 0) ∧ (∀ b, b < 4 → FI_X5_open k 2 A J (k + 7) b = A 17 b ∧ FI_X5_open k 2 A J (k + 8) b = 0) ∧ (∀ a b, a < k ∨ k + 8 < a → FI_X5_open k 2 A J a b = A a b) ∧ FJ_X5_open k 2 A J = u2 J k 6 ((A 2 9).toInt64) := by
  have fn : ∀ {I : SI} {r m : Nat} {x : Int32} {a b : Nat}, ¬ (a = r ∧ b < m) → fillF I r x m a b = I a b := fun {I r m x a b} z => if_neg z
  have fs : ∀ {I : SI} {r m : Nat} {x : Int32} {b : Nat}, b < m → fillF I r x m r b = x := fun {I r m x b} z => if_pos ⟨rfl, z⟩
  have cs : ∀ {I : SI} {r0 r1 m b : Nat}, b < m → cpF I r0 r1 m r1 b = I r0 b := fun {I r0 r1 m b} z => if_pos ⟨rfl, z⟩
  have e8 : (u2 A k 0 0) 2 8 = A 2 8 := u2_n _ _ (by omega)
  unfold FI_X5_open FJ_X5_open S4_X5_open S3_X5_open S2_X5_open S1_X5_open
  rw [e8]
  refine ⟨fun b z => ?_, fun b z => ?_, fun b z => ⟨?_, ?_⟩, fun b z => ?_, fun b z => ⟨?_, ?_⟩, fun b z => ⟨?_, ?_⟩, fun a b z => ?_, ?_⟩
  · rw [fn (by omega), cpF_n (by omega), fn (by omega), fn (by omega), cpF_n (by omega), fn (by omega), fn (by omega), cpF_n (by omega)]
    rcases (by omega : b = 0 ∨ b = 1 ∨ b = 2 ∨ b = 3 ∨ b = 4 ∨ b = 5) with rfl | rfl | rfl | rfl | rfl | rfl
    · rw [u2_n _ _ (by omega), u2_n _ _ (by omega), u2_n _ _ (by omega), u2_n _ _ (by omega), u2_n _ _ (by omega), u2_s]; rfl
    · rw [u2_n _ _ (by omega), u2_n _ _ (by omega), u2_n _ _ (by omega), u2_n _ _ (by omega), u2_s]; rfl
    · rw [u2_n _ _ (by omega), u2_n _ _ (by omega), u2_n _ _ (by omega), u2_s]; rfl
    · rw [u2_n _ _ (by omega), u2_n _ _ (by omega), u2_s]; rfl
    · rw [u2_n _ _ (by omega), u2_s]; rfl
    · rw [u2_s]; rfl
  · rw [fn (by omega), cpF_n (by omega), fn (by omega), fn (by omega), cpF_n (by omega), fn (by omega), fn (by omega), cs z, u2_n _ _ (by omega), u2_n _ _ (by omega), u2_n _ _ (by omega), u2_n _ _ (by omega), u2_n _ _ (by omega), u2_n _ _ (by omega)]
  · rw [fn (by omega), cpF_n (by omega), fn (by omega), fn (by omega), cpF_n (by omega), fn (by omega), fs z]
  · rw [fn (by omega), cpF_n (by omega), fn (by omega), fn (by omega), cpF_n (by omega), fs z]
  · rw [fn (by omega), cpF_n (by omega), fn (by omega), fn (by omega), cs z, fn (by omega), fn (by omega), cpF_n (by omega), u2_n _ _ (by omega), u2_n _ _ (by omega), u2_n _ _ (by omega), u2_n _ _ (by omega), u2_n _ _ (by omega), u2_n _ _ (by omega)]
  · rw [fn (by omega), cpF_n (by omega), fn (by omega), fs z]
  · rw [fn (by omega), cpF_n (by omega), fs z]
  · rw [fn (by omega), cs z, fn (by omega), fn (by omega), cpF_n (by omega), fn (by omega), fn (by omega), cpF_n (by omega), u2_n _ _ (by omega), u2_n _ _ (by omega), u2_n _ _ (by omega), u2_n _ _ (by omega), u2_n _ _ (by omega), u2_n _ _ (by omega)]
  · rw [fs z]
  · rw [fn (by omega), cpF_n (by omega), fn (by omega), fn (by omega), cpF_n (by omega), fn (by omega), fn (by omega), cpF_n (by omega), u2_n _ _ (by omega), u2_n _ _ (by omega), u2_n _ _ (by omega), u2_n _ _ (by omega), u2_n _ _ (by omega), u2_n _ _ (by omega)]
  · rw [u2_n _ _ (by omega), u2_n _ _ (by omega), u2_n _ _ (by omega), u2_n _ _ (by omega), u2_n _ _ (by omega), u2_n _ _ (by omega)]
