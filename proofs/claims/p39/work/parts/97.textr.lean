/-! both: a text told: what stands behind -/
theorem settle_o {X : SI} {J : SJ} : ∀ a b, ¬ (a = 42 ∧ (b = 7 ∨ b = 8 ∨ b = 9)) → FI_X9_settle 42 X J a b = X a b := fun a b q => by
  unfold FI_X9_settle S1_X9_settle S2_X9_settle
  split
  · rw [u2_n _ _ (by omega), u2_n _ _ (by omega), u2_n _ _ (by omega)]
  · rw [u2_n _ _ (by omega), u2_n _ _ (by omega), u2_n _ _ (by omega)]
theorem on_v {x y w df most : Nat} {A B : SI} (h : ON x y w df most A B) (hd : df ≤ most) (hm : most < 100000) : (if (0 : Int32) ≤ A 42 x then A 42 x else nI df) = B 132 y ∧ inR (B 132 y) (most + 1) := by
  rcases h with ⟨_, h1, h2⟩ | ⟨_, h1, h2⟩
  · rw [h1, h2, if_neg (by decide)]
    exact ⟨rfl, inR_nI (by omega) (by omega)⟩
  · obtain ⟨j, hj, e⟩ := h2.n
    rw [if_pos (by rw [e]; exact nI_le (a := 0) (by omega) (by omega)), h1]
    exact ⟨rfl, h1 ▸ h2⟩
theorem settle_v {X B : SI} {J : SJ} (d : DTo X B) : (FI_X9_settle 42 X J 42 7 = B 132 16 ∧ inR (B 132 16) 101) ∧ (FI_X9_settle 42 X J 42 8 = B 132 17 ∧ inR (B 132 17) 1000) ∧ FI_X9_settle 42 X J 42 9 = B 132 18 ∧ inR (B 132 18) 100000 := by
  obtain ⟨d1, d2, d3, _⟩ := d
  have v1 := on_v d1 (by omega) (by omega)
  have v2 := on_v d2 (by omega) (by omega)
  have v3 := on_v d3 (by omega) (by omega)
  have t7 : T_X9_settle_j16 42 X J = B 132 16 := v1.1
  have t8 : T_X9_settle_j36 42 X J = B 132 17 := by
    unfold T_X9_settle_j36
    rw [u2_n _ _ (show ¬ ((42 : Nat) = 42 ∧ (8 : Nat) = 7) by omega)]
    exact v2.1
  have e9 : (u2 (u2 X 42 7 (B 132 16)) 42 8 (B 132 17)) 42 9 = X 42 9 := by rw [u2_n _ _ (by omega), u2_n _ _ (by omega)]
  unfold FI_X9_settle S1_X9_settle S2_X9_settle
  rw [t7, t8, e9]
  refine ⟨⟨?_, v1.2⟩, ⟨?_, v2.2⟩, ?_, v3.2⟩
  · split
    · rw [u2_n _ _ (by omega), u2_n _ _ (by omega), u2_s]
    · rw [u2_n _ _ (by omega), u2_n _ _ (by omega), u2_s]
  · split
    · rw [u2_n _ _ (by omega), u2_s]
    · rw [u2_n _ _ (by omega), u2_s]
  · rw [← v3.1]
    split
    · rw [u2_s]
    · rw [u2_s]; rfl
theorem tbt_of {k w mx : Nat} {rs rs' : List (Nat × Nat)} {X R A' B' : SI} (t : TBL (k + 40) w mx mx rs X R) (z : ZT (k + 40) mx X) (e1 : A' k 1 = X (k + 40) 1) (e2 : B' 132 w = R 132 (10 + w)) (e3 : ∀ a i, k + 1 ≤ a → a ≤ k + 4 → i < 8 → A' a i = X (a + 40) i) (e4 : ∀ p ∈ rs', (p.1 + 40, p.2) ∈ rs ∧ k + 1 ≤ p.1 ∧ p.1 ≤ k + 4 ∧ ∀ i, i < mx → B' p.2 i = R p.2 (mx + i)) (hm : mx ≤ 8) : TBT k w mx rs' A' B' := by
  obtain ⟨c, hc, _, h1, h2, h3⟩ := t
  obtain ⟨_, c', hc', y1, y2⟩ := z
  have e : c' = c := (nI_eq (by omega) (by omega)).mp (y1.symm.trans h1)
  subst e
  refine ⟨c', hc, e1.trans h1, e2.trans h2, fun i hi p hp => ?_, fun j i x y u v => ?_⟩
  · obtain ⟨m, q1, q2, q3⟩ := e4 p hp
    rw [e3 p.1 i q1 q2 (by omega), q3 i (by omega)]
    exact h3 i hi _ m
  · rw [e3 (k + j) i (by omega) (by omega) v]
    have := y2 j i x y u v
    rw [show k + j + 40 = k + 40 + j by omega]
    exact this
theorem lwt_of {k : Nat} {X R A' B' : SI} (hk : k < 3) (l : LWR k X R) (hn : nn R ≤ 64) (e1 : ∀ b, b < 2 → A' (29 + 4 * k) b = X (69 + 4 * k) b) (e2 : ∀ b, b < 64 → A' (30 + 4 * k) b = X (70 + 4 * k) b ∧ A' (31 + 4 * k) b = X (71 + 4 * k) b) (e3 : B' 148 k = R 148 (3 + k) ∧ B' 149 k = R 149 (3 + k)) (e4 : ∀ b, b < 64 → B' 150 b = R 150 (64 + b) ∧ B' 151 b = R 151 (64 + b)) : LWT k A' B' := by
  unfold LWT
  rw [e1 0 (by omega), e1 1 (by omega), e3.1, e3.2]
  rcases l with ⟨_, l1, l2, l3, l4⟩ | ⟨_, l1, f, m, l2, l3, l4, l5, l6, l7, l8⟩
  · exact Or.inl ⟨l1, l2, l3, l4⟩
  · refine Or.inr ⟨l1, f, m, l2, l3, l4, l5, by omega, fun j hj => ?_, (dp_cg _ _ _ (fun j _ w => ⟨(e4 j (by omega)).1, (e4 j (by omega)).2⟩)).trans l8⟩
    have q := l7 j hj
    rw [show 64 + f + j = 64 + (f + j) by omega] at q
    rw [(e2 j (by omega)).1, (e2 j (by omega)).2, (e4 (f + j) (by omega)).1, (e4 (f + j) (by omega)).2]
    exact q
/-- all that is told, from what is read -/
theorem tl_of {X X1 R A' B' : SI} (d : DT X R) (z : ZK X) (s7 : X1 42 7 = R 132 16) (s8 : X1 42 8 = R 132 17) (s9 : X1 42 9 = R 132 18) (so : ∀ a b, 42 ≤ a → ¬ (a = 42 ∧ (b = 7 ∨ b = 8 ∨ b = 9)) → X1 a b = X a b) (ea : ∀ a b, cpd a b → A' a b = X1 (a + 40) b) (eb : ∀ a b, 132 ≤ a → a < 152 → b < NA a → B' a b = R a (NA a + b)) : TL A' B' := by
  have sv := fun (J : SJ) => settle_v (J := J) d.2.1
  obtain ⟨⟨d0, d1, d2, d3, d4, _, d5⟩, ⟨o1, o2, o3, _⟩, ⟨⟨c, hc, k1, k2, k3, _⟩, kl⟩⟩ := d
  have v1 := (on_v o1 (by omega) (by omega)).2
  have v2 := (on_v o2 (by omega) (by omega)).2
  have v3 := (on_v o3 (by omega) (by omega)).2
  have er : ∀ a b, cpd a b → a ≠ 2 → A' a b = X (a + 40) b := fun a b h q => (ea a b h).trans (so _ _ (by unfold cpd at h; omega) (by omega))
  have e1 : ∀ k, k = 3 ∨ k = 8 ∨ k = 13 ∨ k = 18 ∨ k = 23 → A' k 1 = X (k + 40) 1 := fun k hk => er k 1 (Or.inr (Or.inl ⟨hk, rfl⟩)) (by omega)
  have e3 : ∀ a i, 4 ≤ a → a ≤ 27 → a ≠ 8 → a ≠ 13 → a ≠ 18 → a ≠ 23 → i < 8 → A' a i = X (a + 40) i := fun a i h0 h1 h2 h3 h4 h5 h6 => er a i (Or.inr (Or.inr (Or.inl ⟨h0, h1, h2, h3, h4, h5, h6⟩))) (by omega)
  have nn64 : nn R ≤ 64 := by
    unfold nn
    rw [k3, nI_clamp (by omega)]
    exact hc
  refine ⟨tbt_of d0 z.1 (e1 3 (by omega)) (eb 132 0 (by omega) (by omega) (by decide)) (fun a i x y t => e3 a i (by omega) (by omega) (by omega) (by omega) (by omega) (by omega) t) ?_ (by omega), tbt_of d1 z.2.1 (e1 8 (by omega)) (eb 132 1 (by omega) (by omega) (by decide)) (fun a i x y t => e3 a i (by omega) (by omega) (by omega) (by omega) (by omega) (by omega) t) ?_ (by omega), tbt_of d2 z.2.2.1 (e1 13 (by omega)) (eb 132 3 (by omega) (by omega) (by decide)) (fun a i x y t => e3 a i (by omega) (by omega) (by omega) (by omega) (by omega) (by omega) t) ?_ (by omega), tbt_of d3 z.2.2.2.1 (e1 18 (by omega)) (eb 132 4 (by omega) (by omega) (by decide)) (fun a i x y t => e3 a i (by omega) (by omega) (by omega) (by omega) (by omega) (by omega) t) ?_ (by omega), tbt_of d4 z.2.2.2.2.1 (e1 23 (by omega)) (eb 132 5 (by omega) (by omega) (by decide)) (fun a i x y t => e3 a i (by omega) (by omega) (by omega) (by omega) (by omega) (by omega) t) ?_ (by omega), Or.inr (fun i hi => ?_), ⟨?_, ?_⟩, ⟨?_, ?_⟩, ⟨?_, ?_⟩, ?_, ⟨fun k hk => lwt_of hk (kl k hk) nn64 (fun b hb => ?_) (fun b hb => ⟨?_, ?_⟩) ⟨eb 148 k (by omega) (by omega) (by show k < 3; omega), eb 149 k (by omega) (by omega) (by show k < 3; omega)⟩ (fun b hb => ⟨eb 150 b (by omega) (by omega) (by show b < 64; omega), eb 151 b (by omega) (by omega) (by show b < 64; omega)⟩), fun i hi => ?_⟩⟩
  · intro p hp
    unfold TSM at hp
    simp only [List.mem_cons, List.not_mem_nil, or_false] at hp
    rcases hp with rfl | rfl | rfl
    · exact ⟨by decide, by decide, by decide, fun i hi => eb 133 i (by omega) (by omega) (by show i < 6; omega)⟩
    · exact ⟨by decide, by decide, by decide, fun i hi => eb 134 i (by omega) (by omega) (by show i < 6; omega)⟩
    · exact ⟨by decide, by decide, by decide, fun i hi => eb 135 i (by omega) (by omega) (by show i < 6; omega)⟩
  · intro p hp
    unfold TSS at hp
    simp only [List.mem_cons, List.not_mem_nil, or_false] at hp
    rcases hp with rfl | rfl | rfl
    · exact ⟨by decide, by decide, by decide, fun i hi => eb 136 i (by omega) (by omega) (by show i < 8; omega)⟩
    · exact ⟨by decide, by decide, by decide, fun i hi => eb 137 i (by omega) (by omega) (by show i < 8; omega)⟩
    · exact ⟨by decide, by decide, by decide, fun i hi => eb 138 i (by omega) (by omega) (by show i < 8; omega)⟩
  · intro p hp
    unfold TSP at hp
    simp only [List.mem_cons, List.not_mem_nil, or_false] at hp
    rcases hp with rfl | rfl | rfl | rfl
    · exact ⟨by decide, by decide, by decide, fun i hi => eb 140 i (by omega) (by omega) (by show i < 4; omega)⟩
    · exact ⟨by decide, by decide, by decide, fun i hi => eb 141 i (by omega) (by omega) (by show i < 4; omega)⟩
    · exact ⟨by decide, by decide, by decide, fun i hi => eb 142 i (by omega) (by omega) (by show i < 4; omega)⟩
    · exact ⟨by decide, by decide, by decide, fun i hi => eb 143 i (by omega) (by omega) (by show i < 4; omega)⟩
  · intro p hp
    unfold TSC at hp
    simp only [List.mem_cons, List.not_mem_nil, or_false] at hp
    rcases hp with rfl | rfl
    · exact ⟨by decide, by decide, by decide, fun i hi => eb 144 i (by omega) (by omega) (by show i < 4; omega)⟩
    · exact ⟨by decide, by decide, by decide, fun i hi => eb 145 i (by omega) (by omega) (by show i < 4; omega)⟩
  · intro p hp
    unfold TSK at hp
    simp only [List.mem_cons, List.not_mem_nil, or_false] at hp
    rcases hp with rfl | rfl
    · exact ⟨by decide, by decide, by decide, fun i hi => eb 146 i (by omega) (by omega) (by show i < 3; omega)⟩
    · exact ⟨by decide, by decide, by decide, fun i hi => eb 147 i (by omega) (by omega) (by show i < 3; omega)⟩
  · rw [er 28 i (Or.inr (Or.inr (Or.inr (Or.inl ⟨rfl, hi⟩)))) (by omega), eb 139 i (by omega) (by omega) (by show i < 48; omega)]
    exact ⟨(d5 i hi).1, (d5 i hi).2.1⟩
  · rw [ea 2 7 (Or.inl ⟨rfl, by omega, by omega⟩), s7]
    exact (eb 132 6 (by omega) (by omega) (by decide)).symm
  · rw [ea 2 7 (Or.inl ⟨rfl, by omega, by omega⟩), s7]
    exact v1
  · rw [ea 2 8 (Or.inl ⟨rfl, by omega, by omega⟩), s8]
    exact (eb 132 7 (by omega) (by omega) (by decide)).symm
  · rw [ea 2 8 (Or.inl ⟨rfl, by omega, by omega⟩), s8]
    exact v2
  · rw [ea 2 9 (Or.inl ⟨rfl, by omega, by omega⟩), s9]
    exact (eb 132 8 (by omega) (by omega) (by decide)).symm
  · rw [ea 2 9 (Or.inl ⟨rfl, by omega, by omega⟩), s9]
    exact v3
  · rw [ea 2 11 (Or.inl ⟨rfl, by omega, by omega⟩), so 42 11 (by omega) (by omega), k1, ← k3]
    exact (eb 132 9 (by omega) (by omega) (by decide)).symm
  · rw [er (29 + 4 * k) b (Or.inr (Or.inr (Or.inr (Or.inr (Or.inl ⟨by omega, hb⟩))))) (by omega), show 29 + 4 * k + 40 = 69 + 4 * k by omega]
  · rw [er (30 + 4 * k) b (Or.inr (Or.inr (Or.inr (Or.inr (Or.inr ⟨by omega, hb⟩))))) (by omega), show 30 + 4 * k + 40 = 70 + 4 * k by omega]
  · rw [er (31 + 4 * k) b (Or.inr (Or.inr (Or.inr (Or.inr (Or.inr ⟨by omega, hb⟩))))) (by omega), show 31 + 4 * k + 40 = 71 + 4 * k by omega]
  · obtain ⟨m1, m2⟩ := (d5 i hi).2.2
    obtain ⟨c2, h2, _, q2, _, _⟩ := d2
    refine ⟨?_, fun z => ?_⟩
    · rw [er 28 i (Or.inr (Or.inr (Or.inr (Or.inl ⟨rfl, hi⟩)))) (by omega), e1 3 (by omega)]
      exact m1
    · rw [e1 13 (by omega)] at z
      have c4 : i < c2 := by
        have this : i < (X 53 1).toNatClampNeg := z
        rw [q2, nI_clamp (by omega)] at this
        exact this
      rw [e3 15 i (by omega) (by omega) (by omega) (by omega) (by omega) (by omega) (by omega), e1 3 (by omega)]
      exact m2 z
/-- what stands between two calls, told and fed -/
def GTL (A B : SI) : Prop := (∃ n : Nat, n ≤ 700 ∧ A 0 1 = nI n ∧ B 130 2 = nI n) ∧ TP A B ∧ ZK A ∧ A 41 1 = B 130 32 ∧ A 41 2 = B 130 33 ∧ TL A B
/-- what is sighted, counted -/
def GSE (A B : SI) : Prop := A 116 0 = B 130 68 ∧ A 116 1 = B 130 69
theorem GSE.mv {A B A' B' : SI} (g : GSE A B) (ka : ∀ b, A' 116 b = A 116 b) (k1 : B' 130 68 = B 130 68) (k2 : B' 130 69 = B 130 69) : GSE A' B' := ⟨by rw [ka, k1]; exact g.1, by rw [ka, k2]; exact g.2⟩
def KGT (A A' : SI) : Prop := ∀ a b, a ≤ 85 → ¬ (a = 0 ∧ b = 6) → A' a b = A a b
def gM (a b : Nat) : Prop := mT a b ∨ a = 131 ∨ (a = 130 ∧ (b = 2 ∨ b = 32 ∨ b = 33))
def KMT (B B' : SI) : Prop := ∀ a b, gM a b → B' a b = B a b
theorem ZK.kg {A A' : SI} (z : ZK A) (k : ∀ a b, 43 ≤ a → a ≤ 82 → a ≠ 81 → A' a b = A a b) : ZK A' := by
  have zt : ∀ k0 mx, 43 ≤ k0 → k0 ≤ 63 → ZT k0 mx A → ZT k0 mx A' := fun k0 mx h1 h2 ⟨y0, c, y1, y2, y3⟩ => ⟨(k k0 0 (by omega) (by omega) (by omega)).trans y0, c, y1, (k k0 1 (by omega) (by omega) (by omega)).trans y2, fun j i a b c2 d => (k (k0 + j) i (by omega) (by omega) (by omega)).trans (y3 j i a b c2 d)⟩
  obtain ⟨z0, z1, z2, z3, z4, z5⟩ := z
  exact ⟨zt _ _ (by omega) (by omega) z0, zt _ _ (by omega) (by omega) z1, zt _ _ (by omega) (by omega) z2, zt _ _ (by omega) (by omega) z3, zt _ _ (by omega) (by omega) z4, fun i hi => (k 82 i (by omega) (by omega) (by omega)).trans (z5 i hi)⟩
theorem GTL.mv {A B A' B' : SI} (g : GTL A B) (ka : KGT A A') (kb : KMT B B') : GTL A' B' := by
  obtain ⟨⟨n, hn, e1, e2⟩, tp, z, f1, f2, tl⟩ := g
  have k0 : ∀ a b, 1 ≤ a → a ≤ 85 → A' a b = A a b := fun a b h1 h2 => ka a b h2 (by omega)
  have kr : ∀ b, b = 2 ∨ b = 32 ∨ b = 33 → B' 130 b = B 130 b := fun b h => kb 130 b (by unfold gM; omega)
  refine ⟨⟨n, hn, (ka 0 1 (by omega) (by omega)).trans e1, (kr 2 (by omega)).trans e2⟩, fun b => ?_, z.kg (fun a b h1 h2 _ => k0 a b (by omega) (by omega)), ?_, ?_, tl.mv (fun a b h1 h2 => k0 a b (by omega) (by omega)) (fun a b h => kb a b (Or.inl h))⟩
  · rw [k0 1 b (by omega) (by omega), kb 131 b (Or.inr (Or.inl rfl))]
    exact tp b
  · rw [k0 41 1 (by omega) (by omega), kr 32 (by omega)]
    exact f1
  · rw [k0 41 2 (by omega) (by omega), kr 33 (by omega)]
    exact f2
theorem KMT.rf (B : SI) : KMT B B := fun _ _ _ => rfl
theorem KMT.u {B B1 : SI} {a b : Nat} {v : Int32} (h : KMT B B1) (q : ¬ gM a b) : KMT B (u2 B1 a b v) := fun c d z => (u2_n _ _ (fun y => q (by rw [← y.1, ← y.2]; exact z))).trans (h c d z)
theorem KGT.rf (A : SI) : KGT A A := fun _ _ _ _ => rfl
theorem text_T {a0 : Int32} {A B : SI} {J J' : SJ} (g : GTL A B) (h : MW B B) (gs : GSE A B) : F_X11_text a0 A J = F_X12_text a0 B J' ∧ GTL (FI_X11_text a0 A J) (FI_X12_text a0 B J') ∧ GSE (FI_X11_text a0 A J) (FI_X12_text a0 B J') := by
  have g' := g
  obtain ⟨⟨n, hn, e1, e2⟩, tp, z, f1, f2, tl⟩ := g
  have u1 : u2 B 130 0 0 130 2 = nI n := (u2_n _ _ (by omega)).trans e2
  have st : GTL A (u2 B 130 0 0) := g'.mv (KGT.rf A) ((KMT.rf B).u (by unfold gM mT; omega))
  have ss : GSE A (u2 B 130 0 0) := gs.mv (fun _ => rfl) (u2_n _ _ (by omega)) (u2_n _ _ (by omega))
  unfold F_X11_text F_X12_text FI_X11_text FI_X12_text
  by_cases c : a0 < 0
  · rw [if_pos c, if_pos c, if_pos c, if_pos c]
    exact ⟨rfl, st, ss⟩
  · rw [if_neg c, if_neg c, if_neg c, if_neg c, e1, u1]
    by_cases c2 : a0 ≤ nI n
    · rw [if_pos c2, if_pos c2, if_pos c2, if_pos c2]
      have ha : inR a0 701 := (in_le (N := n) (by omega) c c2).le (by omega)
      obtain ⟨m, hm, em⟩ := ha.n
      have m7 : m ≤ 700 := by omega
      subst em
      have t1 := tx1 (a0 := nI m) (J := J') h.1 ha
      have r := read_R (J := J) tp z m7 t1.2.1 t1.2.2.1
      obtain ⟨si, hd, zk, kt⟩ := r
      have eF : FI_X4_read (nI m) A J = FI_X9_settle 42 (S1_X4_read (nI m) A J) J := by unfold FI_X4_read; exact ite_self _
      have s41 : FI_X9_settle 42 (S1_X4_read (nI m) A J) J 41 1 = S1_X4_read (nI m) A J 41 1 := settle_o 41 1 (by omega)
      have kc := (read_C (a1 := nI m) (I := A) (J := J) (by exact ⟨by rw [z.1.1]; exact ⟨rfl, by decide⟩, by rw [z.2.1.1]; exact ⟨rfl, by decide⟩, by rw [z.2.2.1.1]; exact ⟨rfl, by decide⟩⟩) ha).2.2
      have b4 : ∀ a b, ¬ (a = 130 ∧ (b = 32 ∨ b = 33)) → (u2 (S4_X12_text (nI m) B J') 130 33 (S4_X12_text (nI m) B J' 130 31)) a b = (F_X12_text_w150 (nI m) B J' (FI_X12_token (S3_X12_text (nI m) B J') J', J')).1 a b := fun a b z => by
        refine (u2_n _ _ (by omega)).trans ?_
        unfold S4_X12_text
        exact u2_n _ _ (by omega)
      have b32 : (u2 (S4_X12_text (nI m) B J') 130 33 (S4_X12_text (nI m) B J' 130 31)) 130 32 = (F_X12_text_w150 (nI m) B J' (FI_X12_token (S3_X12_text (nI m) B J') J', J')).1 130 30 := by
        refine (u2_n _ _ (by omega)).trans ?_
        unfold S4_X12_text
        exact u2_s _ _ _ _
      have b33 : (u2 (S4_X12_text (nI m) B J') 130 33 (S4_X12_text (nI m) B J' 130 31)) 130 33 = (F_X12_text_w150 (nI m) B J' (FI_X12_token (S3_X12_text (nI m) B J') J', J')).1 130 31 := by
        rw [u2_s]
        unfold S4_X12_text
        exact u2_n _ _ (by omega)
      have hv := halves_v (a0 := nI m) (B := B) (J := J')
      have e26 : S26_X12_text (nI m) B J' = FI_X12_begins (S25_X12_text (nI m) B J') ((F_X12_text_w150 (nI m) B J' (FI_X12_token (S3_X12_text (nI m) B J') J', J')).2) := rfl
      have e25 : S25_X12_text (nI m) B J' = u2 (u2 (u2 (u2 (S24_X12_text (nI m) B J') 130 68 0) 130 69 (-1)) 130 53 0) 130 54 0 := rfl
      have eS2 : S2_X11_text (nI m) A J = FI_X10_clear (FI_X6_clear (FI_X5_open 86 2 (FI_X9_copy 2 42 (u2 (FI_X4_read (nI m) A J) 0 1 0) J) J) (FJ_X5_open 86 2 (FI_X9_copy 2 42 (u2 (FI_X4_read (nI m) A J) 0 1 0) J) J)) (FJ_X5_open 86 2 (FI_X9_copy 2 42 (u2 (FI_X4_read (nI m) A J) 0 1 0) J) J) := rfl
      rw [eF] at eS2 ⊢
      have k2 : (if (u2 (S4_X12_text (nI m) B J') 130 33 (S4_X12_text (nI m) B J' 130 31)) 130 30 = 0 then S26_X12_text (nI m) B J' else u2 (S4_X12_text (nI m) B J') 130 33 (S4_X12_text (nI m) B J' 130 31)) 130 2 = 0 := by
        have q := (m_text (a0 := nI m) (J := J') h (by rw [e2]; exact inR_nI (by omega) (by omega))).2.2
        unfold FI_X12_text at q
        rw [if_neg c, if_neg c, u1, if_pos c2, e2, if_pos c2] at q
        exact q
      generalize (F_X12_text_w150 (nI m) B J' (FI_X12_token (S3_X12_text (nI m) B J') J', J')).1 = R at *
      generalize (F_X12_text_w150 (nI m) B J' (FI_X12_token (S3_X12_text (nI m) B J') J', J')).2 = JR at *
      generalize u2 (S4_X12_text (nI m) B J') 130 33 (S4_X12_text (nI m) B J' 130 31) = R1 at *
      generalize S25_X12_text (nI m) B J' = Y25 at *
      generalize S24_X12_text (nI m) B J' = Y24 at *
      have cF : F_X4_read (nI m) A J = 0 ↔ ¬ S1_X4_read (nI m) A J 41 1 = 0 := by
        unfold F_X4_read
        rw [s41]
        by_cases q : S1_X4_read (nI m) A J 41 1 = 0
        · rw [if_pos q]; exact ⟨fun y => absurd y (by decide), fun y => absurd q y⟩
        · rw [if_neg q]; exact ⟨fun _ => q, fun _ => rfl⟩
      rw [eF] at kc
      have so := settle_o (X := S1_X4_read (nI m) A J) (J := J)
      have sv := fun q => settle_v (J := J) (hd q).2.1
      generalize S1_X4_read (nI m) A J = X at *
      generalize FI_X9_settle 42 X J = X1 at *
      have R30 : R1 130 30 = X 41 1 := (b4 130 30 (by omega)).trans si.1.symm
      have low : ∀ a b, a < 41 → ¬ (a = 0 ∧ b = 1) → u2 X1 0 1 0 a b = A a b := fun a b q1 q2 => (u2_n _ _ (by omega)).trans (kc a b (by omega))
      by_cases c3 : X 41 1 = 0
      · rw [if_neg (fun q => (cF.mp q) c3), if_neg (fun q => (cF.mp q) c3), if_pos (R30.trans c3), if_pos (R30.trans c3)]
        have d := hd c3
        have cp := copy9_v (X := u2 X1 0 1 0) (J := J)
        have op := (open_v (k := 86) (A := FI_X9_copy 2 42 (u2 X1 0 1 0) J) (J := J) (by omega)).2.2.2.2.2.2.1
        have k86 : ∀ a b, a < 86 → ¬ (a = 0 ∧ b = 6) → u2 (S2_X11_text (nI m) A J) 0 6 0 a b = FI_X9_copy 2 42 (u2 X1 0 1 0) J a b := fun a b q1 q2 => by
          rw [u2_n _ _ (by omega), eS2]
          unfold FI_X10_clear FI_X6_clear
          rw [u2_n _ _ (by omega), u2_n _ _ (by omega), u2_n _ _ (by omega)]
          exact op a b (by omega)
        have bg26 := (bg (I := Y25) JR trivial).2
        have m26 : ∀ a b, a < 154 → ¬ (a = 130 ∧ (b = 38 ∨ b = 68 ∨ b = 69 ∨ b = 53 ∨ b = 54)) → S26_X12_text (nI m) B J' a b = Y24 a b := fun a b q1 q2 => by
          rw [e26, bg26 a b (by omega) (by omega), e25, u2_n _ _ (by omega), u2_n _ _ (by omega), u2_n _ _ (by omega), u2_n _ _ (by omega)]
        have m130 : ∀ b, ¬ (b = 38 ∨ b = 68 ∨ b = 69 ∨ b = 53 ∨ b = 54) → S26_X12_text (nI m) B J' 130 b = R1 130 b := fun b q => (m26 130 b (by omega) (by omega)).trans ((hv 130 b).2 (by omega))
        refine ⟨?_, ⟨⟨0, by omega, ?_, ?_⟩, fun b => ?_, zk.kg (fun a b q1 q2 q3 => ?_), ?_, ?_, ?_⟩, ?_, ?_⟩
        · rw [k86 2 10 (by omega) (by omega), cp.1 2 10 (Or.inl ⟨rfl, by omega, by omega⟩), m130 24 (by omega), b4 130 24 (by omega)]
          exact (u2_n _ _ (by omega)).trans ((so 42 10 (by omega)).trans d.2.1.2.2.2)
        · rw [k86 0 1 (by omega) (by omega), cp.2 0 1 (by omega), u2_s]; rfl
        · rw [if_pos (R30.trans c3)] at k2; exact k2
        · rw [k86 1 b (by omega) (by omega), cp.2 1 b (by omega), low 1 b (by omega) (by omega), m26 131 b (by omega) (by omega), (hv 131 b).2 (by omega), b4 131 b (by omega), kt 131 b (by unfold mT; omega)]
          exact tp b
        · rw [k86 a b (by omega) (by omega), cp.2 a b (by omega), u2_n _ _ (by omega)]
          exact so a b (by omega)
        · rw [k86 41 1 (by omega) (by omega), cp.2 41 1 (by omega), m130 32 (by omega), b32]
          exact (u2_n _ _ (by omega)).trans ((so 41 1 (by omega)).trans si.1)
        · rw [k86 41 2 (by omega) (by omega), cp.2 41 2 (by omega), m130 33 (by omega), b33]
          exact (u2_n _ _ (by omega)).trans ((so 41 2 (by omega)).trans si.2.1)
        · refine tl_of (X1 := u2 X1 0 1 0) d zk ((u2_n _ _ (by omega)).trans (sv c3).1.1) ((u2_n _ _ (by omega)).trans (sv c3).2.1.1) ((u2_n _ _ (by omega)).trans (sv c3).2.2.1) (fun a b q1 q2 => (u2_n _ _ (by omega)).trans (so a b q2)) (fun a b q => ?_) (fun a b q1 q2 q3 => ?_)
          · rw [k86 a b (by unfold cpd at q; omega) (by unfold cpd at q; omega)]
            exact cp.1 a b q
          · rw [m26 a b (by omega) (by omega), (hv a b).1 ⟨q1, q2, q3⟩, b4 a _ (by omega)]
        · have e6 : S26_X12_text (nI m) B J' 130 68 = 0 := by
            rw [e26, bg26 130 68 (by omega) (by omega), e25, u2_n _ _ (by omega), u2_n _ _ (by omega), u2_n _ _ (by omega), u2_s]
          rw [e6, u2_n _ _ (by omega), eS2]
          unfold FI_X10_clear FI_X6_clear
          rw [u2_n _ _ (by omega), u2_n _ _ (by omega), u2_s]
        · have e6 : S26_X12_text (nI m) B J' 130 69 = -1 := by
            rw [e26, bg26 130 69 (by omega) (by omega), e25, u2_n _ _ (by omega), u2_n _ _ (by omega), u2_s]
          rw [e6, u2_n _ _ (by omega), eS2]
          unfold FI_X10_clear FI_X6_clear
          rw [u2_n _ _ (by omega), u2_s]
      · rw [if_pos (cF.mpr c3), if_pos (cF.mpr c3), if_neg (fun q => c3 (R30.symm.trans q)), if_neg (fun q => c3 (R30.symm.trans q))]
        refine ⟨rfl, ⟨⟨0, by omega, u2_s _ _ _ _, (by rw [if_neg (fun q => c3 (R30.symm.trans q))] at k2; exact k2)⟩, fun b => ?_, zk.kg (fun a b q1 q2 q3 => ?_), ?_, ?_, tl.mv (fun a b q1 q2 => low a b (by omega) (by omega)) (fun a b q => ?_)⟩, gs.mv (fun b => (u2_n _ _ (by omega)).trans (kc 116 b (by omega))) ((b4 130 68 (by omega)).trans (kt 130 68 (by omega))) ((b4 130 69 (by omega)).trans (kt 130 69 (by omega)))⟩
        · rw [low 1 b (by omega) (by omega), b4 131 b (by omega), kt 131 b (by unfold mT; omega)]
          exact tp b
        · rw [u2_n _ _ (by omega)]
          exact so a b (by omega)
        · rw [u2_n _ _ (by omega), b32]
          exact (so 41 1 (by omega)).trans si.1
        · rw [u2_n _ _ (by omega), b33]
          exact (so 41 2 (by omega)).trans si.2.1
        · rw [b4 a b (by unfold mT at q; omega)]
          exact kt a b (Or.inl q)
    · rw [if_neg c2, if_neg c2, if_neg c2, if_neg c2]
      exact ⟨rfl, st, ss⟩
/-! a byte kept, a byte read -/
theorem byte_r (x : Int32) : vp_nar .byte (x.toInt8.toInt32) &&& 255 = x &&& 255 := by
  have e : vp_nar .byte (x.toInt8.toInt32) = x.toInt8.toInt32.toInt8.toInt32 := rfl
  rw [e]
  apply Int32.toBitVec_inj.mp
  apply BitVec.eq_of_getLsbD_eq
  intro i hi
  rw [Int32.toBitVec_and, Int32.toBitVec_and, BitVec.getLsbD_and, BitVec.getLsbD_and]
  by_cases q : i < 8
  · have e2 : x.toInt8.toInt32.toInt8.toInt32.toBitVec = (BitVec.signExtend 32 (BitVec.signExtend 8 x.toBitVec)) := by simp
    rw [e2, BitVec.getLsbD_signExtend, BitVec.getLsbD_signExtend, if_pos q, if_pos hi, decide_eq_true q, decide_eq_true hi, Bool.true_and, Bool.true_and]
  · have m : ∀ k : Nat, k < 32 → ¬ k < 8 → (255 : Int32).toBitVec.getLsbD k = false := by decide
    rw [m i hi q, Bool.and_false, Bool.and_false]
theorem wr_t1 {a : Int32} {I : SI} {J : SJ} {s : Int32 × SI} {c : Nat} (h : ¬ s.1 < 0) (hc : c < 700) (e : s.2 0 1 = nI c) : ∃ I', B_X11_write_w3 a I J s = .inl (s.1 + (-8), I') ∧ I' 0 1 = nI (c + 1) ∧ I' 1 c &&& 255 = (a >>> (s.1 &&& 31)) &&& 255 ∧ ∀ b, b ≠ c → I' 1 b = s.2 1 b := by
  have cl : (s.2 0 1).toNatClampNeg = c := by rw [e, nI_clamp (by omega)]
  refine ⟨u2 (S1_X11_write a I J s) 0 1 ((S1_X11_write a I J s) 0 1 + 1), ?_, ?_, ?_, fun b q => ?_⟩
  · unfold B_X11_write_w3
    rw [if_neg h, if_neg (by rw [e]; exact nI_pos (by omega)), if_neg (by rw [e]; exact nI_ge (b := 700) hc (by decide))]
  · rw [u2_s]
    unfold S1_X11_write
    rw [u2_n _ _ (show ¬ ((0 : Nat) = 1 ∧ (1 : Nat) = _) from fun q => absurd q.1 (by decide)), e, nI_1]
  · rw [u2_n _ _ (by omega)]
    unfold S1_X11_write
    rw [cl, u2_s]
    exact byte_r _
  · rw [u2_n _ _ (by omega)]
    unfold S1_X11_write
    rw [cl]
    exact u2_n _ _ (by omega)
theorem wr_t {a : Int32} {I : SI} {J : SJ} {c : Nat} (hc : c + 3 < 700) (e : I 0 1 = nI c) : (FI_X11_write a I J 1 c &&& 255 = (a >>> (24 : Int32)) &&& 255 ∧ FI_X11_write a I J 1 (c + 1) &&& 255 = (a >>> (16 : Int32)) &&& 255 ∧ FI_X11_write a I J 1 (c + 2) &&& 255 = (a >>> (8 : Int32)) &&& 255 ∧ FI_X11_write a I J 1 (c + 3) &&& 255 = (a >>> (0 : Int32)) &&& 255) ∧ ∀ b, b < c ∨ c + 4 ≤ b → FI_X11_write a I J 1 b = I 1 b := by
  obtain ⟨I1, e1, c1, v1, f1⟩ := wr_t1 (a := a) (I := I) (J := J) (s := ((24 : Int32), I)) (c := c) (by show ¬ (24 : Int32) < 0; decide) (by omega) e
  obtain ⟨I2, e2, c2, v2, f2⟩ := wr_t1 (a := a) (I := I) (J := J) (s := ((24 : Int32) + (-8), I1)) (c := c + 1) (by show ¬ (24 : Int32) + (-8) < 0; decide) (by omega) c1
  obtain ⟨I3, e3, c3, v3, f3⟩ := wr_t1 (a := a) (I := I) (J := J) (s := ((24 : Int32) + (-8) + (-8), I2)) (c := c + 2) (by show ¬ (24 : Int32) + (-8) + (-8) < 0; decide) (by omega) c2
  obtain ⟨I4, e4, c4, v4, f4⟩ := wr_t1 (a := a) (I := I) (J := J) (s := ((24 : Int32) + (-8) + (-8) + (-8), I3)) (c := c + 3) (by show ¬ (24 : Int32) + (-8) + (-8) + (-8) < 0; decide) (by omega) c3
  have e5 : B_X11_write_w3 a I J ((24 : Int32) + (-8) + (-8) + (-8) + (-8), I4) = .inr ((24 : Int32) + (-8) + (-8) + (-8) + (-8), I4) := by
    unfold B_X11_write_w3
    exact if_pos (by show (24 : Int32) + (-8) + (-8) + (-8) + (-8) < 0; decide)
  have e : itW (B_X11_write_w3 a I J) 800 (24, I) = some ((24 : Int32) + (-8) + (-8) + (-8) + (-8), I4) := by
    rw [show (800 : Nat) = 795 + 1 + 1 + 1 + 1 + 1 from rfl, itW_l _ _ _ _ e1, itW_l _ _ _ _ e2, itW_l _ _ _ _ e3, itW_l _ _ _ _ e4, itW_r _ _ _ _ e5]
  have ef : FI_X11_write a I J = I4 := by
    unfold FI_X11_write F_X11_write_w3
    rw [e]
    rfl
  rw [ef]
  have u1 : I1 1 c &&& 255 = a >>> ((24 : Int32) &&& 31) &&& 255 := v1
  have u2 : I2 1 (c + 1) &&& 255 = a >>> ((24 : Int32) + (-8) &&& 31) &&& 255 := v2
  have u3 : I3 1 (c + 2) &&& 255 = a >>> ((24 : Int32) + (-8) + (-8) &&& 31) &&& 255 := v3
  have u4 : I4 1 (c + 3) &&& 255 = a >>> ((24 : Int32) + (-8) + (-8) + (-8) &&& 31) &&& 255 := v4
  rw [show (24 : Int32) &&& 31 = 24 from by decide] at u1
  rw [show (24 : Int32) + (-8) &&& 31 = 16 from by decide] at u2
  rw [show (24 : Int32) + (-8) + (-8) &&& 31 = 8 from by decide] at u3
  rw [show (24 : Int32) + (-8) + (-8) + (-8) &&& 31 = 0 from by decide] at u4
  have g2 : ∀ b, b ≠ c + 1 → I2 1 b = I1 1 b := f2
  have g3 : ∀ b, b ≠ c + 2 → I3 1 b = I2 1 b := f3
  have g4 : ∀ b, b ≠ c + 3 → I4 1 b = I3 1 b := f4
  refine ⟨⟨?_, ?_, ?_, u4⟩, fun b q => ?_⟩
  · rw [g4 c (by omega), g3 c (by omega), g2 c (by omega)]; exact u1
  · rw [g4 (c + 1) (by omega), g3 (c + 1) (by omega)]; exact u2
  · rw [g4 (c + 2) (by omega)]; exact u3
  · rw [g4 b (by omega), g3 b (by omega), g2 b (by omega)]; exact f1 b (by omega)
theorem feed_T {a0 a1 a2 a3 a4 : Int32} {A B : SI} {J J' : SJ} (g : GTL A B) (gs : GSE A B) : F_X11_feed a0 a1 a2 a3 a4 A J = F_X12_feed a0 a1 a2 a3 a4 B J' ∧ GTL (FI_X11_feed a0 a1 a2 a3 a4 A J) (FI_X12_feed a0 a1 a2 a3 a4 B J') ∧ GSE (FI_X11_feed a0 a1 a2 a3 a4 A J) (FI_X12_feed a0 a1 a2 a3 a4 B J') := by
  obtain ⟨⟨c, hc, e1, e2⟩, tp, z, f1, f2, tl⟩ := g
  have fc := feed_c (a0 := a0) (a1 := a1) (a2 := a2) (a3 := a3) (a4 := a4) (I := A) (J := J)
  have fm := feed_m (a0 := a0) (a1 := a1) (a2 := a2) (a3 := a3) (a4 := a4) (I := B) (J := J') e2 hc
  have rest : (∃ n : Nat, n ≤ 700 ∧ FI_X11_feed a0 a1 a2 a3 a4 A J 0 1 = nI n ∧ FI_X12_feed a0 a1 a2 a3 a4 B J' 130 2 = nI n) → TP (FI_X11_feed a0 a1 a2 a3 a4 A J) (FI_X12_feed a0 a1 a2 a3 a4 B J') → GTL (FI_X11_feed a0 a1 a2 a3 a4 A J) (FI_X12_feed a0 a1 a2 a3 a4 B J') := fun h1 h2 => by
    refine ⟨h1, h2, z.kg (fun a b q1 q2 q3 => fc.2.2.2 a b (by omega) (by omega)), ?_, ?_, tl.mv (fun a b q1 q2 => fc.2.2.2 a b (by omega) (by omega)) (fun a b q => fm.2.2.2 a b (by unfold mT at q; omega) (by unfold mT at q; omega))⟩
    · rw [fc.2.2.2 41 1 (by omega) (by omega), fm.2.2.2 130 32 (by omega) (by omega)]; exact f1
    · rw [fc.2.2.2 41 2 (by omega) (by omega), fm.2.2.2 130 33 (by omega) (by omega)]; exact f2
  have gg : GSE (FI_X11_feed a0 a1 a2 a3 a4 A J) (FI_X12_feed a0 a1 a2 a3 a4 B J') := gs.mv (fun b => fc.2.2.2 116 b (by omega) (by omega)) (fm.2.2.2 130 68 (by omega) (by omega)) (fm.2.2.2 130 69 (by omega) (by omega))
  by_cases q : c ≤ 680
  · have v := fc.2.1 c q e1
    have u := fm.2.1 q
    refine ⟨v.1.trans u.1.symm, rest ⟨c + 20, by omega, v.2, u.2⟩ ?_, gg⟩
    have w0 := wr_a a0 A J
    have w1 := wr_a a1 (FI_X11_write a0 A J) J
    have w2 := wr_a a2 (FI_X11_write a1 (FI_X11_write a0 A J) J) J
    have w3 := wr_a a3 (FI_X11_write a2 (FI_X11_write a1 (FI_X11_write a0 A J) J) J) J
    have k1 := w0.2.1 c (by omega) e1
    have k2 := w1.2.1 (c + 4) (by omega) k1
    have k3 := w2.2.1 (c + 8) (by omega) k2
    have k4 := w3.2.1 (c + 12) (by omega) k3
    have t0 := wr_t (a := a0) (I := A) (J := J) (c := c) (by omega) e1
    have t1 := wr_t (a := a1) (I := FI_X11_write a0 A J) (J := J) (c := c + 4) (by omega) k1
    have t2 := wr_t (a := a2) (I := FI_X11_write a1 (FI_X11_write a0 A J) J) (J := J) (c := c + 8) (by omega) k2
    have t3 := wr_t (a := a3) (I := FI_X11_write a2 (FI_X11_write a1 (FI_X11_write a0 A J) J) J) (J := J) (c := c + 12) (by omega) k3
    have t4 := wr_t (a := a4) (I := FI_X11_write a3 (FI_X11_write a2 (FI_X11_write a1 (FI_X11_write a0 A J) J) J) J) (J := J) (c := c + 16) (by omega) k4
    have hA : FI_X11_feed a0 a1 a2 a3 a4 A J = FI_X11_write a4 (FI_X11_write a3 (FI_X11_write a2 (FI_X11_write a1 (FI_X11_write a0 A J) J) J) J) J := by
      unfold FI_X11_feed S1_X11_feed
      exact if_pos (by rw [e1]; exact nI_le (b := 680) q (by decide))
    rw [hA]
    generalize FI_X11_write a4 (FI_X11_write a3 (FI_X11_write a2 (FI_X11_write a1 (FI_X11_write a0 A J) J) J) J) J = A5 at *
    generalize FI_X11_write a3 (FI_X11_write a2 (FI_X11_write a1 (FI_X11_write a0 A J) J) J) J = A4 at *
    generalize FI_X11_write a2 (FI_X11_write a1 (FI_X11_write a0 A J) J) J = A3 at *
    generalize FI_X11_write a1 (FI_X11_write a0 A J) J = A2 at *
    generalize FI_X11_write a0 A J = A1 at *
    have hu : u2 B 130 0 0 130 2 = nI c := (u2_n _ _ (by omega)).trans e2
    have key : ∀ n, n ≤ 20 → (itN (B_X12_feed_l20 a0 a1 a2 a3 a4 B J') n (u2 B 130 0 0)) 130 2 = nI c ∧ ∀ b, (itN (B_X12_feed_l20 a0 a1 a2 a3 a4 B J') n (u2 B 130 0 0)) 131 b = if c ≤ b ∧ b < c + n then (S2_X12_feed a0 a1 a2 a3 a4 B J' (b - c) B) &&& 255 else B 131 b := by
      intro n
      induction n with
      | zero => intro _; rw [itN_0]; exact ⟨hu, fun b => by rw [if_neg (by omega)]; exact u2_n _ _ (by omega)⟩
      | succ n ih =>
        intro hn
        obtain ⟨i1, i2⟩ := ih (by omega)
        rw [itN_s]
        generalize itN (B_X12_feed_l20 a0 a1 a2 a3 a4 B J') n (u2 B 130 0 0) = T at *
        unfold B_X12_feed_l20 S3_X12_feed
        rw [i1, nI_add, nI_clamp (by omega)]
        refine ⟨(u2_n _ _ (by omega)).trans i1, fun b => ?_⟩
        by_cases y : b = c + n
        · rw [y, u2_s, if_pos (by omega), show c + n - c = n by omega]
          rfl
        · rw [u2_n _ _ (by omega), i2 b]
          by_cases y2 : c ≤ b ∧ b < c + n
          · rw [if_pos y2, if_pos (by omega)]
          · rw [if_neg y2, if_neg (by omega)]
    have hB : FI_X12_feed a0 a1 a2 a3 a4 B J' = u2 (itN (B_X12_feed_l20 a0 a1 a2 a3 a4 B J') 20 (u2 B 130 0 0)) 130 2 ((itN (B_X12_feed_l20 a0 a1 a2 a3 a4 B J') 20 (u2 B 130 0 0)) 130 2 + 20) := by
      unfold FI_X12_feed S1_X12_feed F_X12_feed_l20
      exact if_pos (by rw [hu]; exact nI_le (b := 680) q (by decide))
    rw [hB]
    intro b
    rw [u2_n _ _ (by omega), (key 20 (by omega)).2 b]
    by_cases y : c ≤ b ∧ b < c + 20
    · rw [if_pos y]
      obtain ⟨j, rfl⟩ : ∃ j, b = c + j := ⟨b - c, by omega⟩
      rw [show c + j - c = j by omega]
      rcases (by omega : j = 0 ∨ j = 1 ∨ j = 2 ∨ j = 3 ∨ j = 4 ∨ j = 5 ∨ j = 6 ∨ j = 7 ∨ j = 8 ∨ j = 9 ∨ j = 10 ∨ j = 11 ∨ j = 12 ∨ j = 13 ∨ j = 14 ∨ j = 15 ∨ j = 16 ∨ j = 17 ∨ j = 18 ∨ j = 19) with rfl | rfl | rfl | rfl | rfl | rfl | rfl | rfl | rfl | rfl | rfl | rfl | rfl | rfl | rfl | rfl | rfl | rfl | rfl | rfl
      · rw [t4.2 (c + 0) (by omega), t3.2 (c + 0) (by omega), t2.2 (c + 0) (by omega), t1.2 (c + 0) (by omega)]
        unfold S2_X12_feed T_X12_feed_j73
        rw [if_neg (show ¬ (4 : Int32) ≤ nI 0 by decide), show ((24 : Int32) - 8 * (nI 0 - nI 0 / 4 * 4)) &&& 31 = 24 by decide]
        exact t0.1.1
      · rw [t4.2 (c + 1) (by omega), t3.2 (c + 1) (by omega), t2.2 (c + 1) (by omega), t1.2 (c + 1) (by omega)]
        unfold S2_X12_feed T_X12_feed_j73
        rw [if_neg (show ¬ (4 : Int32) ≤ nI 1 by decide), show ((24 : Int32) - 8 * (nI 1 - nI 1 / 4 * 4)) &&& 31 = 16 by decide]
        exact t0.1.2.1
      · rw [t4.2 (c + 2) (by omega), t3.2 (c + 2) (by omega), t2.2 (c + 2) (by omega), t1.2 (c + 2) (by omega)]
        unfold S2_X12_feed T_X12_feed_j73
        rw [if_neg (show ¬ (4 : Int32) ≤ nI 2 by decide), show ((24 : Int32) - 8 * (nI 2 - nI 2 / 4 * 4)) &&& 31 = 8 by decide]
        exact t0.1.2.2.1
      · rw [t4.2 (c + 3) (by omega), t3.2 (c + 3) (by omega), t2.2 (c + 3) (by omega), t1.2 (c + 3) (by omega)]
        unfold S2_X12_feed T_X12_feed_j73
        rw [if_neg (show ¬ (4 : Int32) ≤ nI 3 by decide), show ((24 : Int32) - 8 * (nI 3 - nI 3 / 4 * 4)) &&& 31 = 0 by decide]
        exact t0.1.2.2.2
      · rw [t4.2 (c + 4) (by omega), t3.2 (c + 4) (by omega), t2.2 (c + 4) (by omega)]
        unfold S2_X12_feed T_X12_feed_j73
        rw [if_pos (show (4 : Int32) ≤ nI 4 by decide), if_neg (show ¬ (8 : Int32) ≤ nI 4 by decide), show ((24 : Int32) - 8 * (nI 4 - nI 4 / 4 * 4)) &&& 31 = 24 by decide]
        exact t1.1.1
      · rw [t4.2 (c + 5) (by omega), t3.2 (c + 5) (by omega), t2.2 (c + 5) (by omega)]
        unfold S2_X12_feed T_X12_feed_j73
        rw [if_pos (show (4 : Int32) ≤ nI 5 by decide), if_neg (show ¬ (8 : Int32) ≤ nI 5 by decide), show ((24 : Int32) - 8 * (nI 5 - nI 5 / 4 * 4)) &&& 31 = 16 by decide]
        exact t1.1.2.1
      · rw [t4.2 (c + 6) (by omega), t3.2 (c + 6) (by omega), t2.2 (c + 6) (by omega)]
        unfold S2_X12_feed T_X12_feed_j73
        rw [if_pos (show (4 : Int32) ≤ nI 6 by decide), if_neg (show ¬ (8 : Int32) ≤ nI 6 by decide), show ((24 : Int32) - 8 * (nI 6 - nI 6 / 4 * 4)) &&& 31 = 8 by decide]
        exact t1.1.2.2.1
      · rw [t4.2 (c + 7) (by omega), t3.2 (c + 7) (by omega), t2.2 (c + 7) (by omega)]
        unfold S2_X12_feed T_X12_feed_j73
        rw [if_pos (show (4 : Int32) ≤ nI 7 by decide), if_neg (show ¬ (8 : Int32) ≤ nI 7 by decide), show ((24 : Int32) - 8 * (nI 7 - nI 7 / 4 * 4)) &&& 31 = 0 by decide]
        exact t1.1.2.2.2
      · rw [t4.2 (c + 8) (by omega), t3.2 (c + 8) (by omega)]
        unfold S2_X12_feed T_X12_feed_j73
        rw [if_pos (show (4 : Int32) ≤ nI 8 by decide), if_pos (show (8 : Int32) ≤ nI 8 by decide), if_neg (show ¬ (12 : Int32) ≤ nI 8 by decide), show ((24 : Int32) - 8 * (nI 8 - nI 8 / 4 * 4)) &&& 31 = 24 by decide]
        exact t2.1.1
      · rw [t4.2 (c + 9) (by omega), t3.2 (c + 9) (by omega)]
        unfold S2_X12_feed T_X12_feed_j73
        rw [if_pos (show (4 : Int32) ≤ nI 9 by decide), if_pos (show (8 : Int32) ≤ nI 9 by decide), if_neg (show ¬ (12 : Int32) ≤ nI 9 by decide), show ((24 : Int32) - 8 * (nI 9 - nI 9 / 4 * 4)) &&& 31 = 16 by decide]
        exact t2.1.2.1
      · rw [t4.2 (c + 10) (by omega), t3.2 (c + 10) (by omega)]
        unfold S2_X12_feed T_X12_feed_j73
        rw [if_pos (show (4 : Int32) ≤ nI 10 by decide), if_pos (show (8 : Int32) ≤ nI 10 by decide), if_neg (show ¬ (12 : Int32) ≤ nI 10 by decide), show ((24 : Int32) - 8 * (nI 10 - nI 10 / 4 * 4)) &&& 31 = 8 by decide]
        exact t2.1.2.2.1
      · rw [t4.2 (c + 11) (by omega), t3.2 (c + 11) (by omega)]
        unfold S2_X12_feed T_X12_feed_j73
        rw [if_pos (show (4 : Int32) ≤ nI 11 by decide), if_pos (show (8 : Int32) ≤ nI 11 by decide), if_neg (show ¬ (12 : Int32) ≤ nI 11 by decide), show ((24 : Int32) - 8 * (nI 11 - nI 11 / 4 * 4)) &&& 31 = 0 by decide]
        exact t2.1.2.2.2
      · rw [t4.2 (c + 12) (by omega)]
        unfold S2_X12_feed T_X12_feed_j73
        rw [if_pos (show (4 : Int32) ≤ nI 12 by decide), if_pos (show (8 : Int32) ≤ nI 12 by decide), if_pos (show (12 : Int32) ≤ nI 12 by decide), if_neg (show ¬ (16 : Int32) ≤ nI 12 by decide), show ((24 : Int32) - 8 * (nI 12 - nI 12 / 4 * 4)) &&& 31 = 24 by decide]
        exact t3.1.1
      · rw [t4.2 (c + 13) (by omega)]
        unfold S2_X12_feed T_X12_feed_j73
        rw [if_pos (show (4 : Int32) ≤ nI 13 by decide), if_pos (show (8 : Int32) ≤ nI 13 by decide), if_pos (show (12 : Int32) ≤ nI 13 by decide), if_neg (show ¬ (16 : Int32) ≤ nI 13 by decide), show ((24 : Int32) - 8 * (nI 13 - nI 13 / 4 * 4)) &&& 31 = 16 by decide]
        exact t3.1.2.1
      · rw [t4.2 (c + 14) (by omega)]
        unfold S2_X12_feed T_X12_feed_j73
        rw [if_pos (show (4 : Int32) ≤ nI 14 by decide), if_pos (show (8 : Int32) ≤ nI 14 by decide), if_pos (show (12 : Int32) ≤ nI 14 by decide), if_neg (show ¬ (16 : Int32) ≤ nI 14 by decide), show ((24 : Int32) - 8 * (nI 14 - nI 14 / 4 * 4)) &&& 31 = 8 by decide]
        exact t3.1.2.2.1
      · rw [t4.2 (c + 15) (by omega)]
        unfold S2_X12_feed T_X12_feed_j73
        rw [if_pos (show (4 : Int32) ≤ nI 15 by decide), if_pos (show (8 : Int32) ≤ nI 15 by decide), if_pos (show (12 : Int32) ≤ nI 15 by decide), if_neg (show ¬ (16 : Int32) ≤ nI 15 by decide), show ((24 : Int32) - 8 * (nI 15 - nI 15 / 4 * 4)) &&& 31 = 0 by decide]
        exact t3.1.2.2.2
      · skip
        unfold S2_X12_feed T_X12_feed_j73
        rw [if_pos (show (4 : Int32) ≤ nI 16 by decide), if_pos (show (8 : Int32) ≤ nI 16 by decide), if_pos (show (12 : Int32) ≤ nI 16 by decide), if_pos (show (16 : Int32) ≤ nI 16 by decide), show ((24 : Int32) - 8 * (nI 16 - nI 16 / 4 * 4)) &&& 31 = 24 by decide]
        exact t4.1.1
      · skip
        unfold S2_X12_feed T_X12_feed_j73
        rw [if_pos (show (4 : Int32) ≤ nI 17 by decide), if_pos (show (8 : Int32) ≤ nI 17 by decide), if_pos (show (12 : Int32) ≤ nI 17 by decide), if_pos (show (16 : Int32) ≤ nI 17 by decide), show ((24 : Int32) - 8 * (nI 17 - nI 17 / 4 * 4)) &&& 31 = 16 by decide]
        exact t4.1.2.1
      · skip
        unfold S2_X12_feed T_X12_feed_j73
        rw [if_pos (show (4 : Int32) ≤ nI 18 by decide), if_pos (show (8 : Int32) ≤ nI 18 by decide), if_pos (show (12 : Int32) ≤ nI 18 by decide), if_pos (show (16 : Int32) ≤ nI 18 by decide), show ((24 : Int32) - 8 * (nI 18 - nI 18 / 4 * 4)) &&& 31 = 8 by decide]
        exact t4.1.2.2.1
      · skip
        unfold S2_X12_feed T_X12_feed_j73
        rw [if_pos (show (4 : Int32) ≤ nI 19 by decide), if_pos (show (8 : Int32) ≤ nI 19 by decide), if_pos (show (12 : Int32) ≤ nI 19 by decide), if_pos (show (16 : Int32) ≤ nI 19 by decide), show ((24 : Int32) - 8 * (nI 19 - nI 19 / 4 * 4)) &&& 31 = 0 by decide]
        exact t4.1.2.2.2
    · rw [if_neg y, t4.2 b (by omega), t3.2 b (by omega), t2.2 b (by omega), t1.2 b (by omega), t0.2 b (by omega)]
      exact tp b
  · have v := fc.2.2.1 c (by omega) hc e1
    have u := fm.2.2 
    have u1 := u.1 (by omega)
    refine ⟨v.1.trans u1.1.symm, rest ⟨c, hc, by rw [v.2]; exact e1, u1.2⟩ ?_, gg⟩
    have hu : u2 B 130 0 0 130 2 = nI c := (u2_n _ _ (by omega)).trans e2
    have hB : FI_X12_feed a0 a1 a2 a3 a4 B J' = u2 B 130 0 0 := by
      unfold FI_X12_feed
      exact if_neg (by rw [hu]; exact nI_ge (a := 680) (by omega) (by omega))
    rw [v.2, hB]
    exact fun b => (tp b).trans (u2_n _ _ (by omega)).symm
