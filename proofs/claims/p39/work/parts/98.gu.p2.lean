/-! both: all that is alike between two calls, the scenes too; what is answered of them -/
def P2 (A : SI) (JA : SJ) (B : SI) (JB : SJ) : Prop := PP A JA B JB ∧ GSC A JA B ∧ GDF B
theorem p2q {A A1 B B1 : SI} {JA JB JA1 JB1 : SJ} (h : P2 A JA B JB) (c : CI A1) (e : KGT A A1) (k6 : ∀ b, A1 116 b = A 116 b) (m : MW B B1) (ka : KO A A1) (kj : JDY JA JA1) (kq : KQT B B1) : P2 A1 JA1 B1 JB1 := ⟨pp h.1 c e k6 m, h.2.1.quiet (fun a b q => ka a b (by omega)) kj kq (m.gt 132 0 (by omega)) (m.gt 132 1 (by omega)), h.2.2.q kq⟩
theorem seen_A {a0 a1 a2 : Int32} {I : SI} {J : SJ} : ∀ a b, ¬ (116 ≤ a ∧ a ≤ 119) → FI_X6_add a0 a1 a2 I J a b = I a b := fun a b h => by
  unfold FI_X6_add
  split
  · unfold S3_X6_add S2_X6_add S1_X6_add
    exact (u2_n _ _ (by omega)).trans ((putF_n (by omega)).trans ((putF_n (by omega)).trans (putF_n (by omega))))
  · rfl
theorem see_A {a0 a1 a2 : Int32} {I : SI} {J : SJ} : ∀ a b, ¬ (116 ≤ a ∧ a ≤ 119) → FI_X11_see a0 a1 a2 I J a b = I a b := fun a b h => by
  unfold FI_X11_see
  repeat' split
  all_goals first
    | rfl
    | exact seen_A a b h
theorem out_A {a0 : Int32} {I : SI} {J : SJ} : ∀ a b, ¬ (116 ≤ a ∧ a ≤ 119) → FI_X11_out a0 I J a b = I a b := fun a b h => by
  unfold FI_X11_out
  repeat' split
  all_goals first
    | rfl
    | exact seen_A a b h
theorem known_A {a0 : Int32} {I : SI} {J : SJ} : ∀ a b, ¬ (116 ≤ a ∧ a ≤ 119) → FI_X11_known a0 I J a b = I a b := fun a b h => by
  unfold FI_X11_known
  repeat' split
  all_goals first
    | rfl
    | exact u2_n _ _ (by omega)
theorem p2s {A A1 B B1 : SI} {JA JB : SJ} (h : P2 A JA B JB) (p : PP A1 JA B1 JB) (m : ∀ b, B1 132 b = B 132 b) (ka : ∀ a b, ¬ (116 ≤ a ∧ a ≤ 119) → A1 a b = A a b) (kq : KQT B B1) : P2 A1 JA B1 JB := ⟨p, h.2.1.quiet (fun a b q => ka a b (by omega)) (JDY.rf JA) kq (m 0) (m 1), h.2.2.q kq⟩
/-- the reference's own cells that go on -/
theorem kn_d {B : SI} {J : SJ} : ∀ b, b ≠ 54 → b ≠ 38 → FI_X12_keepNow B J 130 b = B 130 b := fun b h1 h2 => by
  have t : T_X12_keepNow_j45 B J 130 b = B 130 b := by
    unfold T_X12_keepNow_j45 S2_X12_keepNow F_X12_keepNow_l11
    split
    · rw [u2_n _ _ (by omega)]
      exact itN_inv (P := fun (z : SI) => z 130 b = B 130 b) rfl (fun i z _ k => by
        unfold B_X12_keepNow_l11 S3_X12_keepNow
        exact ((copies_F _ _ z J) 130 b (by omega) (by omega)).trans k)
    · rfl
  unfold FI_X12_keepNow S1_X12_keepNow
  rw [u2_n _ _ (by omega), (copies_F _ _ _ J) 130 b (by omega) (by omega)]
  exact t
theorem gdf_k {B X : SI} {J : SJ} {r i : Nat} {v : Int32} (d : GDF B) (hr : 130 < r) : GDF (u2 (FI_X12_keepNow (u2 B 130 0 0) J) r i v) := by
  have e : ∀ b, b ≠ 54 → b ≠ 38 → b ≠ 0 → u2 (FI_X12_keepNow (u2 B 130 0 0) J) r i v 130 b = B 130 b := fun b h1 h2 h3 => by
    rw [u2_n _ _ (by omega), kn_d b h1 h2, u2_n _ _ (by omega)]
  exact ⟨(e 55 (by omega) (by omega) (by omega)).trans d.1, (e 56 (by omega) (by omega) (by omega)).trans d.2.1, (e 57 (by omega) (by omega) (by omega)).trans d.2.2.1, (e 59 (by omega) (by omega) (by omega)).trans d.2.2.2⟩
theorem gdf_plums {a0 a1 : Int32} {B : SI} {J : SJ} (d : GDF B) : GDF (FI_X12_plums a0 a1 B J) := by
  unfold FI_X12_plums S1_X12_plums
  repeat' split
  all_goals first
    | exact d.q qu0
    | exact gdf_k (X := B) d (by omega)
theorem gdf_move {a0 a1 : Int32} {B : SI} {J : SJ} (d : GDF B) : GDF (FI_X12_move a0 a1 B J) := by
  unfold FI_X12_move
  repeat' split
  all_goals first
    | exact d.q qu0
    | exact gdf_k (X := B) d (by omega)
theorem gdf_tell {a0 a1 : Int32} {B : SI} {J : SJ} (d : GDF B) : GDF (FI_X12_tell a0 a1 B J) := by
  unfold FI_X12_tell
  repeat' split
  all_goals first
    | exact d.q qu0
    | exact gdf_k (X := B) d (by omega)
theorem gdf_forget {a0 : Int32} {B : SI} {J : SJ} (d : GDF B) : GDF (FI_X12_forget a0 B J) := by
  unfold FI_X12_forget
  repeat' split
  all_goals first
    | exact d.q qu0
    | exact gdf_k (X := B) d (by omega)
theorem gdf_undo {B : SI} {J : SJ} (d : GDF B) : GDF (FI_X12_undo B J) := by
  have e : ∀ b, b ≠ 54 → b ≠ 38 → b ≠ 0 → FI_X12_undo B J 130 b = B 130 b := fun b h1 h2 h3 => by
    unfold FI_X12_undo S1_X12_undo
    split
    · exact u2_n _ _ (by omega)
    · rw [(copies_F _ _ _ J) 130 b (by omega) (by omega), u2_n _ _ (by omega), u2_n _ _ (by omega)]
  exact ⟨(e 55 (by omega) (by omega) (by omega)).trans d.1, (e 56 (by omega) (by omega) (by omega)).trans d.2.1, (e 57 (by omega) (by omega) (by omega)).trans d.2.2.1, (e 59 (by omega) (by omega) (by omega)).trans d.2.2.2⟩
/-! what is answered -/
theorem shot_val {a0 a1 : Int32} {A B : SI} {JA J J' : SJ} (g : GTL A B) (s : GSC A JA B) : F_X11_shot a0 a1 A J = F_X12_shot a0 a1 B J' := by
  have s0 := gsc0 (v := 0) s
  obtain ⟨nm, ns, c, sc, _, _⟩ := s0
  have ph := shot_h (a0 := a0) (J := J) (J' := J') g
  unfold F_X11_shot F_X12_shot
  rw [← ph]
  by_cases c1 : F_X7_holds 8 a0 A J = 0
  · rw [if_pos c1, if_pos c1]
  rw [if_neg c1, if_neg c1]
  obtain ⟨q, hq, rfl⟩ := hold_n c.2.2.2.1 (by have := c.2.1; omega) c1
  have q8 : q < 8 := by have := c.2.1; omega
  have k := sc.2.2.1 q q8
  rw [Nat.mul_zero, Nat.zero_add] at k
  have k1 : A 87 q = u2 B 130 0 0 162 q := k.1.1
  have k2 : A 88 q = u2 B 130 0 0 163 q := k.1.2.1
  have k3 : A 89 q = u2 B 130 0 0 164 q := k.1.2.2
  have kc : A 10 q = u2 B 130 0 0 137 q := by
    obtain ⟨y, hy, y1, y2, y3, _⟩ := (tl_g g).2.1
    have ey : y = ns := (nI_eq (by omega) (by have := c.2.1; omega)).mp (y1.symm.trans c.2.2.2.1)
    subst ey
    rw [u2_n _ _ (by omega)]
    exact (y3 q hq (10, 137) (by unfold TSS; simp)).1
  have cl := clash_v (J := J) (J' := J') sc c (by omega) hq
  have e86 : A (86 + 2) q = A 88 q := rfl
  rw [e86] at cl
  have cl' : F_X12_clashesOf 0 (nI q) (u2 B 130 0 0) J' = if A 88 q = 0 then 0 else F_X5_clashing 86 (nI q) A J := cl
  rw [atF_v q8 (by omega), atF_v q8 (by omega), atF_v q8 (by omega), atF_v q8 (by omega), nI_clamp (show q < 2 ^ 31 by omega), cl', ← k1, ← k2, ← k3, ← kc]
theorem way_val {a0 a1 : Int32} {A B : SI} {JA J J' : SJ} (g : GTL A B) (s : GSC A JA B) : F_X11_way a0 a1 A J = F_X12_way a0 a1 B J' := by
  have s0 := gsc0 (v := 0) s
  obtain ⟨nm, ns, c, sc, _, _⟩ := s0
  have ph := shot_h (a0 := a0) (J := J) (J' := J') g
  have pm := mark_v (a1 := a1) (J := J) (J' := J') g
  unfold F_X11_way F_X12_way
  rw [← ph, ← pm]
  by_cases c1 : F_X7_holds 8 a0 A J = 0
  · rw [if_pos c1, if_pos c1]
  rw [if_neg c1, if_neg c1]
  by_cases c2 : F_X7_holds 3 a1 A J = 0
  · rw [if_pos c2, if_pos c2]
  rw [if_neg c2, if_neg c2]
  obtain ⟨q, hq, rfl⟩ := hold_n c.2.2.2.1 (by have := c.2.1; omega) c1
  obtain ⟨m, hm, rfl⟩ := hold_n c.2.2.1 (by have := c.1; omega) c2
  have w := sc.wn (J := J) (J' := J') (f := 0) c.2.1 (by omega) hq (show m < 6 by have := c.1; omega)
  have w1 : F_X5_wayIn 86 (nI q) (nI m) A J = F_X12_wayIn 0 (nI q) (nI m) (u2 B 130 0 0) J' := w.1
  have w2 : F_X5_wayIn 86 (nI q) (nI m) A J < 0 ↔ F_X12_wayIn 0 (nI q) (nI m) (u2 B 130 0 0) J' = -1 := w.2.1
  by_cases z : F_X5_wayIn 86 (nI q) (nI m) A J < 0
  · rw [if_neg (fun y => Int32.not_le.mpr z y), if_pos (w2.mp z)]
  · rw [if_pos (Int32.not_lt.mp z), if_neg (fun y => z (w2.mpr y))]
    exact w1
theorem party_val {a0 a1 : Int32} {A B : SI} {JA J J' : SJ} (g : GTL A B) (s : GSC A JA B) : F_X11_party a0 a1 A J = F_X12_party a0 a1 B J' := by
  have s0 := gsc0 (v := 0) s
  obtain ⟨nm, ns, c, sc, _, _⟩ := s0
  have ph := party_h (a0 := a0) (J := J) (J' := J') g
  unfold F_X11_party F_X12_party
  rw [← ph]
  by_cases c1 : F_X7_holds 13 a0 A J = 0
  · rw [if_pos c1, if_pos c1]
  rw [if_neg c1, if_neg c1]
  obtain ⟨np, hp, p1, _, p3⟩ := cnt_p g
  obtain ⟨q, hq, rfl⟩ := hold_n p1 (by omega) c1
  have q4 : q < 4 := by omega
  have k := sc.2.2.2.2.2 q q4
  rw [Nat.mul_zero, Nat.zero_add] at k
  have k1 : A 93 q = u2 B 130 0 0 166 q := k.1.1
  have k2 : A 94 q = u2 B 130 0 0 167 q := k.1.2
  have t := p3 q hq
  have t1 : A 15 q = u2 B 130 0 0 141 q := by rw [u2_n _ _ (by omega)]; exact t.1
  have t2 : A 16 q = u2 B 130 0 0 142 q := by rw [u2_n _ _ (by omega)]; exact t.2.1
  rw [atF_v (show q < 8 by omega) (by omega), atF_v (show q < 8 by omega) (by omega), atF_v q4 (by omega), atF_v q4 (by omega), nI_clamp (show q < 2 ^ 31 by omega), ← k1, ← k2, ← t1, ← t2]
theorem breaks_val {A B : SI} {JA J J' : SJ} (s : GSC A JA B) : F_X11_breaks A J = F_X12_breaks B J' := by
  obtain ⟨nm, ns, c, sc, _, _⟩ := gsc0 (v := 0) s
  exact breaks_v (f := 0) sc c (by omega)
theorem count_val {a0 : Int32} {A B : SI} {JA J J' : SJ} (g : GTL A B) (gs : GSE A B) (wk : B 130 69 = -1 ∨ inR (B 130 69) 25) (s : GSC A JA B) : F_X11_count a0 A J = F_X12_count a0 B J' := by
  obtain ⟨nm, ns, c, sc, _, un⟩ := gsc0 (v := 0) s
  have t := tl_g g
  obtain ⟨_, _, ⟨p, _, p1, p2, _⟩, ⟨q, _, q1, q2, _⟩, _, _, _, _, _, k9, _⟩ := t
  obtain ⟨n, _, u54, u⟩ := un
  have z : ∀ a b, ¬ (a = 130 ∧ b = 0) → u2 B 130 0 0 a b = B a b := fun a b h => u2_n _ _ h
  have e0 : A 3 1 = u2 B 130 0 0 132 0 := c.2.2.1.trans c.2.2.2.2.1.symm
  have e1 : A 8 1 = u2 B 130 0 0 132 1 := c.2.2.2.1.trans c.2.2.2.2.2.symm
  have e2 : A 13 1 = u2 B 130 0 0 132 3 := by rw [z 132 3 (by omega)]; exact p1.trans p2.symm
  have e3 : A 18 1 = u2 B 130 0 0 132 4 := by rw [z 132 4 (by omega)]; exact q1.trans q2.symm
  have e4 : A 2 11 = u2 B 130 0 0 132 9 := by rw [z 132 9 (by omega)]; exact k9
  have e5 : A 86 0 = u2 B 130 0 0 154 0 := sc.1.1
  have e6 : F_X5_filmedCount 86 A J = F_X12_sumOf 163 184 0 (u2 B 130 0 0) J' := filmed_v (f := 0) sc (by omega)
  have e7 : A 86 2 = u2 B 130 0 0 157 0 := sc.1.2.2.1
  have e8 : A 86 3 = F_X12_sumOf 164 184 0 (u2 B 130 0 0) J' := agains_v (f := 0) sc (by omega)
  have e9 : A 86 1 = u2 B 130 0 0 156 0 := sc.1.2.1
  have e10 : F_X5_clashCount 86 A J = F_X12_clashesAll 0 (u2 B 130 0 0) J' := clashes_v (f := 0) sc c (by omega)
  have e11 : A 86 4 = u2 B 130 0 0 159 0 := sc.1.2.2.2.1
  have e12 : A 116 0 = u2 B 130 0 0 130 68 := by rw [z 130 68 (by omega)]; exact gs.1
  have e13 : F_X6_knownCount A J = F_X12_knownMany (u2 B 130 0 0) J' := by
    unfold F_X6_knownCount F_X12_knownMany
    rw [z 130 69 (by omega), z 130 68 (by omega), gs.1, gs.2]
    rcases wk with w | w
    · rw [w, if_neg (show ¬ (0 : Int32) ≤ -1 by decide), if_pos rfl]
    · obtain ⟨k, hk, ek⟩ := w.n
      rw [ek, if_pos (show (0 : Int32) ≤ nI k from nI_pos' (by omega)), if_neg (show ¬ nI k = -1 from fun y => by
        have e : (nI k).toInt = (-1 : Int32).toInt := congrArg Int32.toInt y
        rw [nI_toInt (by omega)] at e
        have e2 : (-1 : Int32).toInt = -1 := by decide
        omega)]
  have e14 : A 120 0 = u2 B 130 0 0 130 54 := u.n.trans u54.symm
  unfold F_X11_count F_X12_count
  rw [e0, e1, e2, e3, e4, e5, e6, e7, e8, e9, e10, e11, e12, e13, e14]
