/-! both: names of a law's side, what is so; whether she is away -/
def ch7 (r : Nat) (J : SJ) (a0 a1 a2 a3 a4 a5 a6 : Int64) : SJ := u2 (u2 (u2 (u2 (u2 (u2 (u2 J r 0 a0) r 1 a1) r 2 a2) r 3 a3) r 4 a4) r 5 a5) r 6 a6
theorem ch7_v (r : Nat) (J : SJ) (a0 a1 a2 a3 a4 a5 a6 : Int64) : ch7 r J a0 a1 a2 a3 a4 a5 a6 r 0 = a0 ∧ ch7 r J a0 a1 a2 a3 a4 a5 a6 r 1 = a1 ∧ ch7 r J a0 a1 a2 a3 a4 a5 a6 r 2 = a2 ∧ ch7 r J a0 a1 a2 a3 a4 a5 a6 r 3 = a3 ∧ ch7 r J a0 a1 a2 a3 a4 a5 a6 r 4 = a4 ∧ ch7 r J a0 a1 a2 a3 a4 a5 a6 r 5 = a5 ∧ ch7 r J a0 a1 a2 a3 a4 a5 a6 r 6 = a6 := by
  unfold ch7 u2
  simp
theorem ch7_n (r : Nat) (J : SJ) (a0 a1 a2 a3 a4 a5 a6 : Int64) : ∀ a b, a ≠ r → ch7 r J a0 a1 a2 a3 a4 a5 a6 a b = J a b := fun a b h => by
  unfold ch7
  rw [u2_n _ _ (fun z => h z.1), u2_n _ _ (fun z => h z.1), u2_n _ _ (fun z => h z.1), u2_n _ _ (fun z => h z.1), u2_n _ _ (fun z => h z.1), u2_n _ _ (fun z => h z.1), u2_n _ _ (fun z => h z.1)]
theorem ch7_e {J J' : SJ} {a0 a1 a2 a3 a4 a5 a6 b0 b1 b2 b3 b4 b5 b6 : Int64} (h0 : a0 = b0 ∧ bdL b0) (h1 : a1 = b1 ∧ bdL b1) (h2 : a2 = b2 ∧ bdL b2) (h3 : a3 = b3 ∧ bdL b3) (h4 : a4 = b4 ∧ bdL b4) (h5 : a5 = b5 ∧ bdL b5) (h6 : a6 = b6 ∧ bdL b6) : ∀ i, i < 7 → ch7 115 J a0 a1 a2 a3 a4 a5 a6 115 i = ch7 152 J' b0 b1 b2 b3 b4 b5 b6 152 i ∧ bdL (ch7 152 J' b0 b1 b2 b3 b4 b5 b6 152 i) := by
  obtain ⟨x0, x1, x2, x3, x4, x5, x6⟩ := ch7_v 115 J a0 a1 a2 a3 a4 a5 a6
  obtain ⟨y0, y1, y2, y3, y4, y5, y6⟩ := ch7_v 152 J' b0 b1 b2 b3 b4 b5 b6
  intro i hi
  rcases (by omega : i = 0 ∨ i = 1 ∨ i = 2 ∨ i = 3 ∨ i = 4 ∨ i = 5 ∨ i = 6) with rfl | rfl | rfl | rfl | rfl | rfl | rfl
  · rw [x0, y0]; exact h0
  · rw [x1, y1]; exact h1
  · rw [x2, y2]; exact h2
  · rw [x3, y3]; exact h3
  · rw [x4, y4]; exact h4
  · rw [x5, y5]; exact h5
  · rw [x6, y6]; exact h6
/-- longs of the class that its laws' sides don't touch -/
def JW (J J' : SJ) : Prop := ∀ a b, ¬ (a = 115 ∨ a = 32 ∨ a = 36 ∨ a = 40) → J' a b = J a b
theorem JW.rf (J : SJ) : JW J J := fun _ _ _ => rfl
theorem JW.tr {J J1 J2 : SJ} (h : JW J J1) (h2 : JW J1 J2) : JW J J2 := fun a b z => (h2 a b z).trans (h a b z)
/-- what a side is worth: either none on both, or the same -/
def WSO (k0 : Nat) (W : Int64) (B : SI) (Jn : SJ) : Prop := (W = -9223372036854775808 ∧ (F_X12_hasLaw (nI k0) B Jn = 0 ∨ F_X12_goes (nI k0) B Jn = 0)) ∨ (¬ F_X12_hasLaw (nI k0) B Jn = 0 ∧ ¬ F_X12_goes (nI k0) B Jn = 0 ∧ W = FJ_X12_goes (nI k0) B Jn 153 0 ∧ bdL W)
theorem wof_v {k0 : Nat} {a1 a2 a3 a4 a5 : Int32} {b0 b1 b2 b3 b4 b5 b6 : Int64} {A B : SI} {Jc J' : SJ} (h3 : k0 < 3) (l : LWT k0 A B) (lw : LW B k0) (e0 : a1.toInt64 = b0) (e1 : a2.toInt64 = b1) (e2 : a3.toInt64 = b2) (e3 : a4.toInt64 = b3) (e4 : a5.toInt64 = b4) (e5 : (A 105 0).toInt64 = b5) (e6 : (A 105 5).toInt64 = b6) : JW Jc (FJ_X0_worthOf (29 + 4 * k0) a1 a2 a3 a4 a5 A Jc) ∧ WSO k0 (F_X0_worthOf (29 + 4 * k0) a1 a2 a3 a4 a5 A Jc) B (ch7 152 J' b0 b1 b2 b3 b4 b5 b6) := by
  have eC : u2 (S2_X0_worthOf (29 + 4 * k0) a1 a2 a3 a4 a5 A Jc) 115 6 ((A 105 5).toInt64) = ch7 115 Jc a1.toInt64 a2.toInt64 a3.toInt64 a4.toInt64 a5.toInt64 (A 105 0).toInt64 (A 105 5).toInt64 := rfl
  have nm := ch7_e (J := Jc) (J' := J') ⟨e0, e0 ▸ bd32 a1⟩ ⟨e1, e1 ▸ bd32 a2⟩ ⟨e2, e2 ▸ bd32 a3⟩ ⟨e3, e3 ▸ bd32 a4⟩ ⟨e4, e4 ▸ bd32 a5⟩ ⟨e5, e5 ▸ bd32 (A 105 0)⟩ ⟨e6, e6 ▸ bd32 (A 105 5)⟩
  have w := worth_v h3 l lw nm
  unfold FJ_X0_worthOf F_X0_worthOf S3_X0_worthOf WSO
  rw [eC]
  have jc : JW Jc (FJ_X1_worth (29 + 4 * k0) 115 7 A (ch7 115 Jc a1.toInt64 a2.toInt64 a3.toInt64 a4.toInt64 a5.toInt64 (A 105 0).toInt64 (A 105 5).toInt64)) := fun a b z => (w.1 a b (by omega)).trans (ch7_n _ _ _ _ _ _ _ _ _ a b (by omega))
  rcases w.2 with ⟨a0, w2⟩ | ⟨a0, w2, w3⟩
  · rw [if_pos a0, if_pos a0]
    exact ⟨JW.rf Jc, Or.inl ⟨rfl, Or.inl w2⟩⟩
  · rw [if_neg a0, if_neg a0]
    refine ⟨jc, ?_⟩
    rcases w3 with ⟨x, y⟩ | ⟨x, y, z⟩
    · exact Or.inl ⟨x, Or.inr y⟩
    · exact Or.inr ⟨w2, x, y, z⟩
theorem WSO.so {k0 : Nat} {W : Int64} {x : Int32} {A B : SI} {Jn Jx : SJ} (h : WSO k0 W B Jn) : F_X0_isSo W x A Jx = F_X12_isSo (nI k0) x B Jn := by
  unfold F_X0_isSo F_X12_isSo
  rcases h with ⟨w, h⟩ | ⟨h1, h2, w, b⟩
  · rw [if_pos ((lg_cmp_eq _ _).mpr w)]
    rcases h with h | h
    · rw [if_pos h]
    · rw [if_pos h, ite_self]
  · rw [if_neg (fun q => nmin b ((lg_cmp_eq _ _).mp q)), if_neg h1, if_neg h2, w]
/-- the days' ways on both sides -/
def CFG (b : Int32) (nm : Nat) (A B : SI) : Prop := ((A 104 2 = 3 ∧ ¬ B 130 59 = 0) ∨ (B 130 59 = 0 ∧ ((A 104 2 = 2 ∧ B 130 55 = 1) ∨ (A 104 2 = 0 ∧ ¬ B 130 55 = 1 ∧ b = 0) ∨ (A 104 2 = 1 ∧ ¬ B 130 55 = 1 ∧ ¬ b = 0)))) ∧ ((B 130 55 = 2 ∧ A 104 5 = B 130 56) ∨ (¬ B 130 55 = 2 ∧ A 104 5 = -1)) ∧ (A 104 6 = 0 ↔ B 130 55 = 3) ∧ (A 104 7 = 0 ↔ B 130 55 = 4) ∧ ∀ m, m < nm → A 114 m = F_X12_strikeOf (nI m) B (fun _ _ => 0)
def DX (b : Int32) (nm ns np : Nat) (A B : SI) : Prop := CN nm ns A B ∧ (np ≤ 4 ∧ A 13 1 = nI np ∧ B 132 3 = nI np) ∧ TL A B ∧ (∀ k, k < 3 → LW B k) ∧ CFG b nm A B
/-- the reference: set f alone, and the count of waiting numbers -/
def FS (f : Nat) (B B' : SI) : Prop := ∀ a b, ¬ inS f a b → ¬ (a = 130 ∧ b = 38) → B' a b = B a b
theorem FS.rf (f : Nat) (B : SI) : FS f B B := fun _ _ _ _ => rfl
theorem FS.tr {f : Nat} {B B1 B2 : SI} (h : FS f B B1) (h2 : FS f B1 B2) : FS f B B2 := fun a b x y => (h2 a b x y).trans (h a b x y)
theorem FS.u {f a b : Nat} {v : Int32} {B B1 : SI} (h : FS f B B1) (q : inS f a b) : FS f B (u2 B1 a b v) := fun c d x y => (u2_n _ _ (fun z => x (by rw [z.1, z.2]; exact q))).trans (h c d x y)
theorem FS.lo {f a b : Nat} {B B' : SI} (h : FS f B B') (ha : a < 154 ∨ 167 < a) (n : ¬ (a = 130 ∧ b = 38)) : B' a b = B a b := h a b (fun q => by unfold inS at q; omega) n
theorem Fr38.fs {f : Nat} {B B' : SI} (h : Fr38 B B') : FS f B B' := fun a b _ y => h a b y
theorem in1 {f a : Nat} (h : 154 ≤ a ∧ a ≤ 159) : inS f a f := by
  have e : szm a = 1 := by unfold szm; rw [if_pos h.2]
  unfold inS
  rw [e]
  omega
theorem in6 {f a i : Nat} (h : a = 160 ∨ a = 161) (hi : i < 6) : inS f a (6 * f + i) := by
  have e : szm a = 6 := by unfold szm; rw [if_neg (by omega), if_pos (by omega)]
  unfold inS
  rw [e]
  omega
theorem in8 {f a i : Nat} (h : 162 ≤ a ∧ a ≤ 164) (hi : i < 8) : inS f a (8 * f + i) := by
  have e : szm a = 8 := by unfold szm; rw [if_neg (by omega), if_neg (by omega), if_pos (by omega)]
  unfold inS
  rw [e]
  omega
theorem in48 {f i : Nat} (hi : i < 48) : inS f 165 (48 * f + i) := by
  have e : szm 165 = 48 := rfl
  unfold inS
  rw [e]
  omega
theorem in4 {f a i : Nat} (h : a = 166 ∨ a = 167) (hi : i < 4) : inS f a (4 * f + i) := by
  have e : szm a = 4 := by unfold szm; rw [if_neg (by omega), if_neg (by omega), if_neg (by omega), if_neg (by omega)]
  unfold inS
  rw [e]
  omega
theorem LW.of {B B' : SI} {k : Nat} (h : LW B k) (hk : k < 3) (e : ∀ a b, 148 ≤ a → a ≤ 151 → B' a b = B a b) : LW B' k := by
  obtain ⟨f, n, e1, e2, hn, ho⟩ := h
  have z0 : B' 150 = B 150 := funext fun b => e 150 b (by omega) (by omega)
  have z1 : B' 151 = B 151 := funext fun b => e 151 b (by omega) (by omega)
  exact ⟨f, n, (e 148 k (by omega) (by omega)).trans e1, (e 149 k (by omega) (by omega)).trans e2, hn, by rw [z0, z1]; exact ho⟩
theorem DX.mv {b : Int32} {nm ns np f : Nat} {A A' B B' : SI} (h : DX b nm ns np A B) (ka : KP 105 113 A A') (kb : FS f B B') : DX b nm ns np A' B' := by
  have ea : ∀ a c, a < 105 ∨ 113 < a → A' a c = A a c := fun a c z => ka a c (by omega)
  have eb : ∀ a c, a < 154 → ¬ (a = 130 ∧ c = 38) → B' a c = B a c := fun a c z y => kb.lo (Or.inl z) y
  obtain ⟨⟨c1, c2, c3, c4, c5, c6⟩, ⟨p1, p2, p3⟩, t, l, g1, g2, g3, g4, g5⟩ := h
  refine ⟨⟨c1, c2, (ea _ _ (by omega)).trans c3, (ea _ _ (by omega)).trans c4, (eb _ _ (by omega) (by omega)).trans c5, (eb _ _ (by omega) (by omega)).trans c6⟩, ⟨p1, (ea _ _ (by omega)).trans p2, (eb _ _ (by omega) (by omega)).trans p3⟩, t.mv (fun a c x y => ea a c (by omega)) (fun a c z => eb a c (by unfold mT at z; omega) (by unfold mT at z; omega)), fun k hk => (l k hk).of hk (fun a c x y => eb a c (by omega) (by omega)), ?_, ?_, ?_, ?_, fun m hm => ?_⟩
  · rw [ea 104 2 (by omega), eb 130 59 (by omega) (by omega), eb 130 55 (by omega) (by omega)]; exact g1
  · rw [ea 104 5 (by omega), eb 130 56 (by omega) (by omega), eb 130 55 (by omega) (by omega)]; exact g2
  · rw [ea 104 6 (by omega), eb 130 55 (by omega) (by omega)]; exact g3
  · rw [ea 104 7 (by omega), eb 130 55 (by omega) (by omega)]; exact g4
  · rw [ea 114 m (by omega), g5 m hm]
    unfold F_X12_strikeOf
    rw [eb 130 55 (by omega) (by omega), eb 130 57 (by omega) (by omega), eb 130 58 (by omega) (by omega), eb 134 _ (by omega) (by omega)]
theorem itE_cg {σ ρ : Type} {f g : Nat → σ → σ ⊕ ρ} : ∀ n i s, (∀ j, i ≤ j → j < i + n → ∀ s, f j s = g j s) → itE f n i s = itE g n i s := by
  intro n
  induction n with
  | zero => intro i s _; rw [itE_0, itE_0]
  | succ n ih =>
    intro i s h
    have e := h i (Nat.le_refl _) (by omega) s
    cases hg : g i s with
    | inl s' => rw [itE_l _ _ _ _ _ (e.trans hg), itE_l _ _ _ _ _ hg]; exact ih (i + 1) s' (fun j a b => h j (by omega) (by omega))
    | inr r => rw [itE_r _ _ _ _ _ (e.trans hg), itE_r _ _ _ _ _ hg]
theorem cold_v {d : Int32} {A B : SI} {J J' : SJ} (t : TBT 23 5 3 TSK A B) : F_X9_isCold 2 d A J = F_X12_isCold d B J' := by
  obtain ⟨c, hc, e1, e2, e3, _⟩ := t
  have k : itE (B_X9_isCold_l2 2 d A J) c 0 () = itE (B_X12_isCold_l2 d B J') c 0 () := itE_cg c 0 () (fun i h0 hi s => by
    have k1 := (e3 i (by omega) (25, 146) (by unfold TSK; simp)).1
    have k2 := (e3 i (by omega) (26, 147) (by unfold TSK; simp)).1
    unfold B_X9_isCold_l2 B_X12_isCold_l2
    rw [atF_v (show i < 8 by omega) (by omega), atF_v (show i < 8 by omega) (by omega), nI_clamp (show i < 2 ^ 31 by omega), show A (2 + 21 + 2) i = B 146 i from k1, show A (2 + 21 + 3) i = B 147 i from k2])
  have c1 : (A (2 + 21) 1).toNatClampNeg = c := by rw [show A (2 + 21) 1 = nI c from e1, nI_clamp (by omega)]
  have c2 : (B 132 5).toNatClampNeg = c := by rw [e2, nI_clamp (by omega)]
  unfold F_X9_isCold F_X12_isCold F_X9_isCold_l2 F_X12_isCold_l2
  rw [c1, c2, k]
  cases itE (B_X12_isCold_l2 d B J') c 0 () <;> rfl
theorem land31 (y : Int64) : y &&& 2147483647 = lN (y.toBitVec.toNat % 2 ^ 31) := by
  apply Int64.toBitVec_inj.mp
  apply BitVec.eq_of_toNat_eq
  rw [Int64.toBitVec_and, BitVec.toNat_and, show (2147483647 : Int64).toBitVec.toNat = 2 ^ 31 - 1 from by decide +kernel, Nat.and_two_pow_sub_one_eq_mod]
  show _ = (BitVec.ofNat 64 _).toNat
  rw [BitVec.toNat_ofNat]
  exact (Nat.mod_eq_of_lt (Nat.lt_of_le_of_lt (Nat.mod_le _ _) y.toBitVec.isLt)).symm
/-- the next of the numbers -/
theorem lcg_v (x : Int32) : ∃ d : Nat, d < 2 ^ 31 ∧ ((x * 1103515245 + 12345) &&& 2147483647 : Int32) = nI d ∧ ((x.toInt64 * 1103515245 + 12345) &&& 2147483647 : Int64) = lN d := by
  refine ⟨(x * 1103515245 + 12345).toBitVec.toNat % 2 ^ 31, Nat.mod_lt _ (by decide), pk_and _ 31 (by decide), ?_⟩
  rw [land31]
  refine congrArg lN ?_
  have e1 : (x * 1103515245 + 12345 : Int32).toBitVec.toNat = (x.toBitVec.toNat * 1103515245 % 4294967296 + 12345) % 4294967296 := by
    rw [Int32.toBitVec_add, Int32.toBitVec_mul, BitVec.toNat_add, BitVec.toNat_mul]
    rfl
  have e2 : (x.toInt64 * 1103515245 + 12345 : Int64).toBitVec.toNat = ((x.toBitVec.signExtend 64).toNat * 1103515245 % 18446744073709551616 + 12345) % 18446744073709551616 := by
    rw [Int64.toBitVec_add, Int64.toBitVec_mul, BitVec.toNat_add, BitVec.toNat_mul]
    rfl
  have e3 : (x.toBitVec.signExtend 64).toNat % 2147483648 = x.toBitVec.toNat % 2147483648 := by
    rw [BitVec.toNat_signExtend]
    have lt := x.toBitVec.isLt
    rw [BitVec.toNat_setWidth]
    split <;> omega
  rw [e1, e2]
  omega
/-- whether she is away -/
theorem away_v {b : Int32} {f nm ns np : Nat} {A B : SI} {JA J' : SJ} (h : SCT 105 f nm ns A JA B) (x : DX b nm ns np A B) (hf : f ≤ 22) : F_X0_isAway A JA = F_X12_isAway (nI f) b B J' ∧ SCT 105 f nm ns A (FJ_X0_isAway A JA) (FI_X12_isAway (nI f) b B J') ∧ (∀ a c, ¬ (a = 105 ∧ c = 6) → FJ_X0_isAway A JA a c = JA a c) ∧ FS f B (FI_X12_isAway (nI f) b B J') := by
  obtain ⟨⟨_, hn, _⟩, _, t, _, g1, _⟩ := x
  have cv := cold_v (d := B 154 f) (J := JA) (J' := J') t.2.2.2.2.1
  have ill := t.2.2.2.2.2.2.1
  have rf : SCT 105 f nm ns A JA B := h
  obtain ⟨iv, hiv, ei⟩ := ill.2.n
  have ei2 : B 132 6 = nI iv := ill.1.symm.trans ei
  obtain ⟨d, hd, d1, d2⟩ := lcg_v (B 155 f)
  have e0 := h.1.1
  have e6 := h.1.2.2.2.2.2
  have sI : S1_X12_isAway (nI f) b B J' = u2 B 155 f (nI d) := by
    unfold S1_X12_isAway
    rw [nI_clamp (by omega), d1]
  have jN : ((JA 105 6 * 1103515245 + 12345) &&& 2147483647 : Int64) = lN d := by rw [e6]; exact d2
  have moved : SCT 105 f nm ns A (u2 JA 105 6 (lN d)) (u2 B 155 f (nI d)) := by
    obtain ⟨⟨h0, h1, h2, h4, h5, h6⟩, h3, hs, hw, hm, hq⟩ := h
    refine ⟨⟨h0.trans (u2_n _ _ (by omega)).symm, h1.trans (u2_n _ _ (by omega)).symm, h2.trans (u2_n _ _ (by omega)).symm, h4.trans (u2_n _ _ (by omega)).symm, h5.trans (u2_n _ _ (by omega)).symm, ?_⟩, ?_, fun s z => ?_, fun s m z y => ?_, fun m z => ?_, fun q z => ?_⟩
    · rw [u2_s, u2_s, nI_l hd]
    · rw [h3]
      exact itN_cg 8 (fun i hi s => by rw [u2_n _ _ (by omega)])
    · rw [u2_n _ _ (by omega), u2_n _ _ (by omega), u2_n _ _ (by omega)]; exact hs s z
    · rw [u2_n _ _ (by omega)]; exact hw s m z y
    · rw [u2_n _ _ (by omega), u2_n _ _ (by omega)]; exact hm m z
    · rw [u2_n _ _ (by omega), u2_n _ _ (by omega)]; exact hq q z
  have s2 : S2_X12_isAway (nI f) b B J' = nI (d / 65536 % 100) := by
    unfold S2_X12_isAway
    rw [sI, nI_clamp (by omega), u2_s, pk_shrN hd (16 &&& 31) 16 (by decide)]
    exact pk_rem (d := 100) (by omega) (by omega) (by omega)
  have s1 : S1_X0_isAway A JA = lN (d / 65536 % 100) := by
    unfold S1_X0_isAway
    rw [u2_s, jN]
    have q : lN d / 65536 = lN (d / 65536) := pk_lDiv (b := 65536) (by omega) (by omega) (by omega)
    rw [q]
    exact pk_lRem (b := 100) (by omega) (by omega) (by omega)
  have cmp : (0 : Int32) ≤ lg_cmp (S1_X0_isAway A JA) ((A 2 7).toInt64) ↔ B 132 6 ≤ S2_X12_isAway (nI f) b B J' := by
    rw [lg_cmp_ge, s1, s2, ei, ei2, nI_l (by omega), pk_lLE (by omega) (by omega), nI_leI (by omega) (by omega)]
  have fsm : FS f B (u2 B 155 f (nI d)) := (FS.rf f B).u (in1 (by omega))
  unfold F_X0_isAway F_X12_isAway FJ_X0_isAway FI_X12_isAway
  rw [nI_clamp (show f < 2 ^ 31 by omega), e0, cv, jN, sI]
  rcases g1 with ⟨m3, g59⟩ | ⟨g59, g⟩
  · rw [m3, if_neg (show ¬ (3 : Int32) = 2 by decide), if_neg (show ¬ (3 : Int32) = 2 by decide), if_pos (show (3 : Int32) = 3 from rfl), if_pos (show (3 : Int32) = 3 from rfl), if_neg g59, if_neg g59]
    exact ⟨rfl, h, fun _ _ _ => rfl, FS.rf f B⟩
  · rw [if_pos g59, if_pos g59]
    rcases g with ⟨m2, g55⟩ | ⟨m0, g55, b0⟩ | ⟨m1, g55, b1⟩
    · rw [m2, if_pos (show (2 : Int32) = 2 from rfl), if_pos (show (2 : Int32) = 2 from rfl), if_neg (show ¬ (2 : Int32) = 3 by decide), if_neg (show ¬ (2 : Int32) = 3 by decide), if_pos g55, if_pos g55]
      exact ⟨rfl, h, fun _ _ _ => rfl, FS.rf f B⟩
    · rw [m0, if_neg (show ¬ (0 : Int32) = 2 by decide), if_neg (show ¬ (0 : Int32) = 2 by decide), if_neg (show ¬ (0 : Int32) = 3 by decide), if_neg (show ¬ (0 : Int32) = 3 by decide), if_neg g55, if_neg g55]
      by_cases k : F_X12_isCold (B 154 f) B J' = 0
      · rw [if_pos k, if_pos k, if_pos k, if_pos k, if_pos (show (0 : Int32) = 0 from rfl), if_pos (show (0 : Int32) = 0 from rfl), if_pos b0, if_pos b0, ei, ei2, ite_self, ite_self]
        exact ⟨rfl, h, fun _ _ _ => rfl, FS.rf f B⟩
      · rw [if_neg k, if_neg k, if_neg k, if_neg k]
        exact ⟨rfl, h, fun _ _ _ => rfl, FS.rf f B⟩
    · rw [m1, if_neg (show ¬ (1 : Int32) = 2 by decide), if_neg (show ¬ (1 : Int32) = 2 by decide), if_neg (show ¬ (1 : Int32) = 3 by decide), if_neg (show ¬ (1 : Int32) = 3 by decide), if_neg g55, if_neg g55]
      by_cases k : F_X12_isCold (B 154 f) B J' = 0
      · rw [if_pos k, if_pos k, if_pos k, if_pos k, if_neg (show ¬ (1 : Int32) = 0 by decide), if_neg (show ¬ (1 : Int32) = 0 by decide), if_neg b1, if_neg b1]
        by_cases i0 : iv = 0
        · have q1 : A 2 7 ≤ 0 := by rw [ei, i0]; decide
          have q2 : B 132 6 = 0 := by rw [ei2, i0]; rfl
          rw [if_pos q1, if_pos q1, if_pos q2, if_pos q2, ei, ei2, ite_self, ite_self]
          exact ⟨rfl, h, fun _ _ _ => rfl, FS.rf f B⟩
        · have q1 : ¬ A 2 7 ≤ 0 := by rw [ei]; exact nI_ge (a := 0) (by omega) (by omega)
          have q2 : ¬ B 132 6 = 0 := by rw [ei2]; exact fun y => i0 ((nI_eq (b := 0) (by omega) (by omega)).mp y)
          rw [if_neg q1, if_neg q1, if_neg q2, if_neg q2]
          by_cases i1 : iv = 100
          · have q3 : ¬ A 2 7 < 100 := by rw [ei, i1]; decide
            have q4 : B 132 6 = 100 := by rw [ei2, i1]; rfl
            rw [if_neg q3, if_neg q3, if_pos q4, if_pos q4, ei, ei2, ite_self, ite_self]
            exact ⟨rfl, h, fun _ _ _ => rfl, FS.rf f B⟩
          · have q3 : A 2 7 < 100 := by rw [ei]; exact (nI_ltI (b := 100) (by omega) (by omega)).mpr (by omega)
            have q4 : ¬ B 132 6 = 100 := by rw [ei2]; exact fun y => i1 ((nI_eq (b := 100) (by omega) (by omega)).mp y)
            rw [if_pos q3, if_pos q3, if_neg q4, if_neg q4, ite_self, ite_self]
            exact ⟨ife cmp (fun _ => rfl) (fun _ => rfl), moved, fun a c z => u2_n _ _ z, fsm⟩
      · rw [if_neg k, if_neg k, if_neg k, if_neg k]
        exact ⟨rfl, h, fun _ _ _ => rfl, FS.rf f B⟩
