/-! both: each call that changes the scene -/
theorem keepNow_o {n : Nat} {B : SI} {J : SJ} (e : B 130 54 = nI n) (hn : n ≤ 20) : ∀ a b, (∀ f, 3 ≤ f → ¬ inS f a b) → ¬ (a = 130 ∧ b = 54) → FI_X12_keepNow B J a b = B a b := fun a b h y => by
  by_cases z : n < 20
  · exact (keepNow_v e z).2.1 a b (h _ (by omega)) y
  · have e20 : n = 20 := by omega
    subst e20
    obtain ⟨_, t2, t3, t4⟩ := keepNow_20 (J := J) e
    rw [t4, (keepNow_v t3 (by omega)).2.1 a b (h _ (by omega)) y]
    exact t2 a b (fun j _ => h _ (by omega)) y
theorem nS {f a b : Nat} (h : a < 154) : ¬ inS f a b := fun q => by unfold inS at q; omega
theorem do_g {k v o : Int32} {r len r' i : Nat} {A B : SI} {JA J J' : SJ} (s : GSC A JA B) (ur : UR k r len r') (hi : i < len) (eo : o = A r i) (w : ∀ (nm ns : Nat) (A1 B1 : SI), CN nm ns A B → SCT 86 0 nm ns A1 JA B1 → SCT 86 0 nm ns (u2 A1 r i v) JA (u2 B1 r' i v)) : GSC (u2 (FI_X10_add k (nI i) o A J) r i v) JA (u2 (FI_X12_keepNow B J') r' i v) := by
  obtain ⟨nm, ns, c, sc, im, un⟩ := s
  have d := do_v (J := J) (J' := J') c.2.1 ur hi sc un eo (fun A1 B1 q => w nm ns A1 B1 c q)
  obtain ⟨n, hn, e54, u⟩ := un
  have rr : 87 ≤ r ∧ r ≤ 93 ∧ 160 ≤ r' ∧ r' ≤ 166 := by rcases ur with z | z | z <;> omega
  have ri : inS 0 r' i := by
    rcases ur with ⟨_, _, z, z'⟩ | ⟨_, _, z, z'⟩ | ⟨_, _, z, z'⟩
    · subst z z'
      have := in4 (f := 0) (a := 166) (i := i) (by omega) hi
      rwa [Nat.mul_zero, Nat.zero_add] at this
    · subst z z'
      have := in8 (f := 0) (a := 162) (i := i) (by omega) hi
      rwa [Nat.mul_zero, Nat.zero_add] at this
    · subst z z'
      have := in6 (f := 0) (a := 160) (i := i) (by omega) hi
      rwa [Nat.mul_zero, Nat.zero_add] at this
  have ka : ∀ a b, a < 86 ∨ (95 ≤ a ∧ a ≤ 119) → u2 (FI_X10_add k (nI i) o A J) r i v a b = A a b := fun a b q => (u2_n _ _ (by omega)).trans (undoadd_K a b (by omega))
  have kb : ∀ a b, a < 154 → ¬ (a = 130 ∧ b = 54) → u2 (FI_X12_keepNow B J') r' i v a b = B a b := fun a b q y => (u2_n _ _ (by omega)).trans (keepNow_o e54 hn a b (fun f _ => nS q) y)
  refine ⟨nm, ns, ⟨c.1, c.2.1, (ka _ _ (by omega)).trans c.2.2.1, (ka _ _ (by omega)).trans c.2.2.2.1, (kb _ _ (by omega) (by omega)).trans c.2.2.2.2.1, (kb _ _ (by omega) (by omega)).trans c.2.2.2.2.2⟩, d.1, ?_, d.2⟩
  rw [ka 0 6 (by omega), kb 130 53 (by omega) (by omega)]
  exact im.imp id (fun z => ⟨z.1, z.2.1, z.2.2.mv c.2.1 (fun a b x y => ka a b (by omega)) rfl (fun a b q => by
    rw [u2_n _ _ (fun y => by rw [y.1, y.2] at q; have := inS_u q ri; omega)]
    exact keepNow_o e54 hn a b (fun f x y => by have := inS_u q y; omega) (fun y => nS (f := 2) (by omega) q))⟩)
theorem gsc0 {A B : SI} {JA : SJ} {v : Int32} (s : GSC A JA B) : GSC A JA (u2 B 130 0 v) := s.quiet (fun _ _ _ => rfl) (fun _ _ _ => rfl) ((KQT.rf B).u (nqt (by omega))) (u2_n _ _ (by omega)) (u2_n _ _ (by omega))
theorem hold_n {k c : Nat} {a0 : Int32} {A : SI} {J : SJ} (e : A k 1 = nI c) (hc : c < 800) (h : ¬ F_X7_holds k a0 A J = 0) : ∃ q, q < c ∧ a0 = nI q := by
  unfold F_X7_holds at h
  by_cases z : a0 < 0
  · rw [if_pos z] at h; exact absurd rfl h
  · rw [if_neg z, e] at h
    by_cases y : nI c ≤ a0
    · rw [if_pos y] at h; exact absurd rfl h
    · obtain ⟨q, hq, e1⟩ := (show inR a0 c from in_of z y (by omega)).n
      exact ⟨q, hq, e1⟩
theorem party_h {a0 : Int32} {A B : SI} {J J' : SJ} (g : GTL A B) : F_X7_holds 13 a0 A J = F_X12_isParty a0 (u2 B 130 0 0) J' := by
  obtain ⟨_, _, _, _, _, ⟨_, _, ⟨c, hc, e1, e2, _⟩, _⟩⟩ := g
  unfold F_X7_holds F_X12_isParty
  rw [u2_n _ _ (show ¬ ((132 : Nat) = 130 ∧ (3 : Nat) = 0) by omega), e1, e2]
theorem shot_h {a0 : Int32} {A B : SI} {J J' : SJ} (g : GTL A B) : F_X7_holds 8 a0 A J = F_X12_isShot a0 (u2 B 130 0 0) J' := by
  obtain ⟨_, _, _, _, _, ⟨_, ⟨c, hc, e1, e2, _⟩, _⟩⟩ := g
  unfold F_X7_holds F_X12_isShot
  rw [u2_n _ _ (show ¬ ((132 : Nat) = 130 ∧ (1 : Nat) = 0) by omega), e1, e2]
theorem cnt_p {A B : SI} (g : GTL A B) : ∃ np, np ≤ 4 ∧ A 13 1 = nI np ∧ B 132 3 = nI np ∧ ∀ q, q < np → A 15 q = B 141 q ∧ A 16 q = B 142 q ∧ inR (A 15 q) 6 ∧ inR (A 16 q) 6 := by
  obtain ⟨_, _, _, _, _, ⟨_, _, ⟨c, hc, e1, e2, e3, _⟩, _⟩⟩ := g
  refine ⟨c, hc, e1, e2, fun q hq => ?_⟩
  have k1 := e3 q hq (15, 141) (by unfold TSP; simp)
  have k2 := e3 q hq (16, 142) (by unfold TSP; simp)
  exact ⟨k1.1, k2.1, by have := k1.2; unfold BD at this; simpa using this, by have := k2.2; unfold BD at this; simpa using this⟩
theorem plums_S {a0 a1 : Int32} {A B : SI} {JA J' : SJ} (g : GTL A B) (s : GSC A JA B) : F_X11_plums a0 a1 A JA = F_X12_plums a0 a1 B J' ∧ GSC (FI_X11_plums a0 a1 A JA) JA (FI_X12_plums a0 a1 B J') := by
  have s0 := gsc0 (v := 0) s
  have ph := party_h (a0 := a0) (J := JA) (J' := J') g
  unfold F_X11_plums F_X12_plums FI_X11_plums FI_X12_plums
  rw [← ph]
  by_cases c1 : F_X7_holds 13 a0 A JA = 0
  · rw [if_pos c1, if_pos c1, if_pos c1, if_pos c1]
    exact ⟨rfl, s0⟩
  rw [if_neg c1, if_neg c1, if_neg c1, if_neg c1]
  by_cases c2 : a1 < 1
  · rw [if_pos c2, if_pos c2, if_pos c2, if_pos c2]
    exact ⟨rfl, s0⟩
  rw [if_neg c2, if_neg c2, if_neg c2, if_neg c2]
  by_cases c3 : a1 ≤ 99
  rotate_left
  · have c3' : (99 : Int32) < a1 := Int32.not_le.mp c3
    rw [if_neg c3, if_neg c3, if_pos c3', if_pos c3']
    exact ⟨rfl, s0⟩
  have c3' : ¬ (99 : Int32) < a1 := Int32.not_lt.mpr c3
  rw [if_pos c3, if_pos c3, if_neg c3', if_neg c3']
  obtain ⟨np, hp, p1, _, _⟩ := cnt_p g
  obtain ⟨q, hq, rfl⟩ := hold_n p1 (by omega) c1
  have q4 : q < 4 := by omega
  obtain ⟨nm, ns, c, sc, im, un⟩ := s0
  have sq := sc.2.2.2.2.2 q q4
  have l1 : A 93 q = u2 B 130 0 0 166 q := by
    have := sq.1.1
    rwa [Nat.mul_zero, Nat.zero_add] at this
  have s0 : GSC A JA (u2 B 130 0 0) := ⟨nm, ns, c, sc, im, un⟩
  obtain ⟨l, hl, el⟩ := (show inR (A 93 q) 1000 from sq.2).n
  have a1r : inR a1 100 := in_le (N := 99) (by omega) (fun y => c2 (Int32.lt_of_lt_of_le y (by decide))) c3
  obtain ⟨k, hk, rfl⟩ := a1r.n
  rw [atF_v q4 (by omega), nI_clamp (show q < 2 ^ 31 by omega), ← l1]
  by_cases c4 : A 93 q + nI k ≤ 999
  rotate_left
  · rw [if_neg c4, if_neg c4, if_neg c4, if_neg c4]
    exact ⟨rfl, s0⟩
  rw [if_pos c4, if_pos c4, if_pos c4, if_pos c4]
  have lk : l + k < 1000 := by
    rw [el, nI_add] at c4
    have := (nI_leI (b := 999) (by omega) (by omega)).mp c4
    omega
  obtain ⟨n, hn, e54, u⟩ := un
  have k166 : FI_X12_keepNow (u2 B 130 0 0) J' 166 q = A 93 q := by
    rw [keepNow_o e54 hn 166 q (fun f x y => by
      have z := in4 (f := 0) (a := 166) (i := q) (by omega) q4
      rw [Nat.mul_zero, Nat.zero_add] at z
      have := inS_u y z; omega) (by omega)]
    exact l1.symm
  have e1 : S1_X11_plums (nI q) (nI k) A JA = u2 (FI_X10_add 0 (nI q) (A 93 q) A JA) 93 q (A 93 q + nI k) := by
    unfold S1_X11_plums
    rw [atF_v q4 (by omega), putF_v q4 (by omega)]
  have e2 : S1_X12_plums (nI q) (nI k) B J' = u2 (FI_X12_keepNow (u2 B 130 0 0) J') 166 q (A 93 q + nI k) := by
    unfold S1_X12_plums
    rw [nI_clamp (show q < 2 ^ 31 by omega), k166]
  rw [e1, e2]
  refine ⟨(u2_s _ _ _ _).symm, do_g s0 (Or.inl ⟨rfl, rfl, rfl, rfl⟩) q4 rfl (fun nm ns A1 B1 _ h => ?_)⟩
  have z := h.w_left (q0 := q) (v := A 93 q + nI k) (by rw [el, nI_add]; exact inR_nI (by omega) (by decide))
  rw [Nat.mul_zero, Nat.zero_add] at z
  exact z
theorem move_S {a0 a1 : Int32} {A B : SI} {JA J' : SJ} (g : GTL A B) (s : GSC A JA B) : F_X11_move a0 a1 A JA = F_X12_move a0 a1 B J' ∧ GSC (FI_X11_move a0 a1 A JA) JA (FI_X12_move a0 a1 B J') := by
  have s0 := gsc0 (v := 0) s
  have ph := shot_h (a0 := a0) (J := JA) (J' := J') g
  unfold F_X11_move F_X12_move FI_X11_move FI_X12_move
  rw [← ph]
  by_cases c1 : F_X7_holds 8 a0 A JA = 0
  · rw [if_pos c1, if_pos c1, if_pos c1, if_pos c1]
    exact ⟨rfl, s0⟩
  rw [if_neg c1, if_neg c1, if_neg c1, if_neg c1]
  obtain ⟨nm, ns, c, sc, im, un⟩ := s0
  have s0 : GSC A JA (u2 B 130 0 0) := ⟨nm, ns, c, sc, im, un⟩
  have d0 : A 86 0 = u2 B 130 0 0 154 0 := sc.1.1
  rw [← d0]
  by_cases c2 : a1 < A 86 0
  · rw [if_pos c2, if_pos c2, if_pos c2, if_pos c2]
    exact ⟨rfl, s0⟩
  rw [if_neg c2, if_neg c2, if_neg c2, if_neg c2]
  by_cases c3 : a1 ≤ 9999
  rotate_left
  · have c3' : (9999 : Int32) < a1 := Int32.not_le.mp c3
    rw [if_neg c3, if_neg c3, if_pos c3', if_pos c3']
    exact ⟨rfl, s0⟩
  have c3' : ¬ (9999 : Int32) < a1 := Int32.not_lt.mpr c3
  rw [if_pos c3, if_pos c3, if_neg c3', if_neg c3']
  obtain ⟨q, hq, rfl⟩ := hold_n c.2.2.2.1 (by have := c.2.1; omega) c1
  have q8 : q < 8 := by have := c.2.1; omega
  have dn : A 88 q = 0 ↔ F_X12_isDone 0 (nI q) (u2 B 130 0 0) J' = 0 := sc.dn (f := 0) (by omega) q8
  have sq := (sc.2.2.1 q q8).1.1
  have l1 : A 87 q = u2 B 130 0 0 162 q := by rwa [Nat.mul_zero, Nat.zero_add] at sq
  rw [atF_v q8 (by omega), atF_v q8 (by omega), nI_clamp (show q < 2 ^ 31 by omega), ← l1]
  by_cases c4 : A 88 q = 0
  rotate_left
  · have c4' := fun y => c4 (dn.mpr y)
    rw [if_neg c4, if_neg c4, if_neg c4', if_neg c4']
    exact ⟨rfl, s0⟩
  rw [if_pos c4, if_pos c4, if_pos (dn.mp c4), if_pos (dn.mp c4)]
  by_cases c5 : A 87 q = a1
  · rw [if_pos c5, if_pos c5, if_pos c5]
    exact ⟨rfl, s0⟩
  rw [if_neg c5, if_neg c5, if_neg c5, putF_v q8 (by omega)]
  refine ⟨rfl, do_g s0 (Or.inr (Or.inl ⟨rfl, rfl, rfl, rfl⟩)) q8 rfl (fun nm ns A1 B1 _ h => ?_)⟩
  have z := h.w_sday (s0 := q) (v := a1)
  rw [Nat.mul_zero, Nat.zero_add] at z
  exact z
theorem say_S {m : Nat} {v : Int32} {A B : SI} {JA J' : SJ} (s : GSC A JA (u2 B 130 0 0)) (hm : m < 6) (hv : v = -1 ∨ inR v 6) : (F_X11_sayFromNowOn (nI m) v A JA = 0 ↔ u2 B 130 0 0 160 m = v) ∧ (F_X11_sayFromNowOn (nI m) v A JA = 0 ∨ F_X11_sayFromNowOn (nI m) v A JA = 1) ∧ GSC (FI_X11_sayFromNowOn (nI m) v A JA) JA (if u2 B 130 0 0 160 m = v then u2 B 130 0 0 else u2 (FI_X12_keepNow (u2 B 130 0 0) J') 160 m v) := by
  obtain ⟨nm, ns, c, sc, im, un⟩ := s
  have s0 : GSC A JA (u2 B 130 0 0) := ⟨nm, ns, c, sc, im, un⟩
  have sq := (sc.2.2.2.2.1 m hm).1.1
  have l1 : A 91 m = u2 B 130 0 0 160 m := by rwa [Nat.mul_zero, Nat.zero_add] at sq
  unfold F_X11_sayFromNowOn FI_X11_sayFromNowOn
  rw [atF_v hm (by omega), ← l1]
  by_cases c5 : A 91 m = v
  · rw [if_pos c5, if_pos c5, if_pos c5]
    exact ⟨⟨fun _ => c5, fun _ => rfl⟩, Or.inl rfl, s0⟩
  · rw [if_neg c5, if_neg c5, if_neg c5, putF_v hm (by omega)]
    refine ⟨⟨fun y => absurd y (by decide), fun y => absurd y c5⟩, Or.inr rfl, do_g s0 (Or.inr (Or.inr ⟨rfl, rfl, rfl, rfl⟩)) hm rfl (fun nm ns A1 B1 _ h => ?_)⟩
    have z := h.w_say (m0 := m) (v := v) hv
    rw [Nat.mul_zero, Nat.zero_add] at z
    exact z
theorem cnt_m {A B : SI} (g : GTL A B) : ∃ nm, nm ≤ 6 ∧ A 3 1 = nI nm ∧ B 132 0 = nI nm ∧ ∀ m, m < nm → A 5 m = B 134 m ∧ A 6 m = B 135 m ∧ inR (A 6 m) 7 := by
  obtain ⟨_, _, _, _, _, ⟨⟨c, hc, e1, e2, e3, _⟩, _⟩⟩ := g
  refine ⟨c, hc, e1, e2, fun q hq => ?_⟩
  have k1 := e3 q hq (5, 134) (by unfold TSM; simp)
  have k2 := e3 q hq (6, 135) (by unfold TSM; simp)
  exact ⟨k1.1, k2.1, by have := k2.2; unfold BD at this; simp at this; exact this.1⟩
theorem tell_S {a0 a1 : Int32} {A B : SI} {JA J' : SJ} (g : GTL A B) (s : GSC A JA B) : F_X11_tell a0 a1 A JA = F_X12_tell a0 a1 B J' ∧ GSC (FI_X11_tell a0 a1 A JA) JA (FI_X12_tell a0 a1 B J') := by
  have s0 := gsc0 (v := 0) s
  have ph := mark_v (a1 := a0) (J := JA) (J' := J') g
  unfold F_X11_tell F_X12_tell FI_X11_tell FI_X12_tell
  rw [← ph]
  by_cases c1 : F_X7_holds 3 a0 A JA = 0
  · rw [if_pos c1, if_pos c1, if_pos c1, if_pos c1]
    exact ⟨rfl, s0⟩
  rw [if_neg c1, if_neg c1, if_neg c1, if_neg c1]
  by_cases c2 : a1 < 0
  · rw [if_pos c2, if_pos c2, if_pos c2, if_pos c2]
    exact ⟨rfl, s0⟩
  rw [if_neg c2, if_neg c2, if_neg c2, if_neg c2]
  obtain ⟨nm, hn, m1, _, m3⟩ := cnt_m g
  obtain ⟨m, hm, rfl⟩ := hold_n m1 (by omega) c1
  have m6 : m < 6 := by omega
  have k := m3 m hm
  have e135 : u2 B 130 0 0 135 (nI m).toNatClampNeg = A 6 m := by
    rw [nI_clamp (by omega), u2_n _ _ (by omega)]
    exact k.2.1.symm
  rw [atF_v (show m < 8 by omega) (by omega), e135, nI_clamp (show m < 2 ^ 31 by omega)]
  obtain ⟨w, hw, ew⟩ := k.2.2.n
  by_cases c3 : a1 < A 6 m
  rotate_left
  · have c3' : A 6 m ≤ a1 := Int32.not_lt.mp c3
    rw [if_neg c3, if_neg c3, if_pos c3', if_pos c3']
    exact ⟨rfl, s0⟩
  have c3' : ¬ A 6 m ≤ a1 := Int32.not_le.mpr c3
  rw [if_pos c3, if_pos c3, if_neg c3', if_neg c3']
  have hv : inR a1 6 := by
    refine (show inR a1 w from in_of c2 (fun y => c3' (by rw [ew]; exact y)) (by omega)).le (by omega)
  obtain ⟨y1, y2, y3⟩ := say_S (J' := J') s0 m6 (Or.inr hv)
  refine ⟨?_, y3⟩
  by_cases c5 : u2 B 130 0 0 160 m = a1
  · rw [if_pos c5]; exact y1.mpr c5
  · rw [if_neg c5]; exact y2.resolve_left (fun z => c5 (y1.mp z))
theorem forget_S {a0 : Int32} {A B : SI} {JA J' : SJ} (g : GTL A B) (s : GSC A JA B) : F_X11_forget a0 A JA = F_X12_forget a0 B J' ∧ GSC (FI_X11_forget a0 A JA) JA (FI_X12_forget a0 B J') := by
  have s0 := gsc0 (v := 0) s
  have ph := mark_v (a1 := a0) (J := JA) (J' := J') g
  unfold F_X11_forget F_X12_forget FI_X11_forget FI_X12_forget
  rw [← ph]
  by_cases c1 : F_X7_holds 3 a0 A JA = 0
  · rw [if_pos c1, if_pos c1, if_pos c1, if_pos c1]
    exact ⟨rfl, s0⟩
  rw [if_neg c1, if_neg c1, if_neg c1, if_neg c1, ite_self]
  obtain ⟨nm, hn, m1, _, m3⟩ := cnt_m g
  obtain ⟨m, hm, rfl⟩ := hold_n m1 (by omega) c1
  have m6 : m < 6 := by omega
  rw [nI_clamp (show m < 2 ^ 31 by omega)]
  obtain ⟨y1, y2, y3⟩ := say_S (v := -1) (J' := J') s0 m6 (Or.inl rfl)
  exact ⟨ife y1 (fun _ => rfl) (fun _ => rfl), y3⟩
theorem undo_S {A B : SI} {JA J' : SJ} (s : GSC A JA B) : F_X11_undo A JA = F_X12_undo B J' ∧ GSC (FI_X11_undo A JA) JA (FI_X12_undo B J') := by
  obtain ⟨nm, ns, c, sc, im, un⟩ := s
  obtain ⟨u1, u2', u3⟩ := undo_v (J := JA) (J' := J') c.2.1 sc un
  have ka : ∀ a b, a < 86 ∨ (95 ≤ a ∧ a ≤ 119) → FI_X11_undo A JA a b = A a b := fun a b q => by
    have t : ∀ w, FI_X10_takeBack 86 A w a b = A a b := fun w => by
      unfold FI_X10_takeBack S1_X10_takeBack S2_X10_takeBack S3_X10_takeBack
      repeat' split
      all_goals first
        | rfl
        | exact (putF_n (by omega)).trans (u2_n _ _ (by omega))
    unfold FI_X11_undo
    rw [ite_self]
    exact t _
  have kb : ∀ a b, ¬ inS 0 a b → ¬ (a = 130 ∧ (b = 0 ∨ b = 54)) → FI_X12_undo B J' a b = B a b := fun a b q y => by
    obtain ⟨n, hn, e54, _⟩ := un
    have e0 : u2 B 130 0 0 130 54 = nI n := (u2_n _ _ (by omega)).trans e54
    unfold FI_X12_undo
    by_cases z : n = 0
    · rw [if_pos (show u2 B 130 0 0 130 54 = 0 by rw [e0, z]; rfl)]
      exact u2_n _ _ (by omega)
    · rw [if_neg (show ¬ u2 B 130 0 0 130 54 = 0 by rw [e0]; exact fun w => z ((nI_eq (b := 0) (by omega) (by omega)).mp w))]
      unfold S1_X12_undo
      rw [e0, show nI n - 1 = nI (n - 1) from pk_sub (b := 1) (by omega), u2_s, show (3 : Int32) = nI 3 from rfl, nI_add]
      have c0 := (copies_v (p := 0) (q := 3 + (n - 1)) (I := u2 (u2 B 130 0 0) 130 54 (nI (n - 1))) (J := J') (by omega) (by omega) (by omega)).2 a b q
      rw [show (0 : Int32) = nI 0 from rfl]
      rw [show (0 : Int32) = nI 0 from rfl] at c0
      rw [c0, u2_n _ _ (by omega), u2_n _ _ (by omega)]
  refine ⟨u1, nm, ns, ⟨c.1, c.2.1, (ka _ _ (by omega)).trans c.2.2.1, (ka _ _ (by omega)).trans c.2.2.2.1, (kb _ _ (nS (by omega)) (by omega)).trans c.2.2.2.2.1, (kb _ _ (nS (by omega)) (by omega)).trans c.2.2.2.2.2⟩, u2', ?_, u3⟩
  rw [ka 0 6 (by omega), kb 130 53 (nS (by omega)) (by omega)]
  exact im.imp id (fun z => ⟨z.1, z.2.1, z.2.2.mv c.2.1 (fun a b x y => ka a b (by omega)) rfl (fun a b q => kb a b (fun y => by have := inS_u q y; omega) (fun y => nS (f := 2) (by omega) q))⟩)
