/-! the model: tokens -/
/-- changes the token's cells alone -/
def KM (I I' : SI) : Prop := ∀ a b, ¬ (a = 130 ∧ 26 ≤ b ∧ b ≤ 29) → I' a b = I a b
theorem KM.rf (I : SI) : KM I I := fun _ _ _ => rfl
theorem KM.tr {I I1 I2 : SI} (h : KM I I1) (h2 : KM I1 I2) : KM I I2 := fun a b z => (h2 a b z).trans (h a b z)
theorem KM.u {I I1 : SI} {b : Nat} {v : Int32} (h : KM I I1) (hb : 26 ≤ b ∧ b ≤ 29) : KM I (u2 I1 130 b v) := fun c d z => (u2_n _ _ (by omega)).trans (h c d z)
def TM (I : SI) : Prop := inR (I 130 25) 701 ∧ inR (I 130 26) 702
theorem TM.u {I : SI} {a b : Nat} {v : Int32} (h : TM I) (hb : ¬ (a = 130 ∧ (b = 25 ∨ b = 26))) : TM (u2 I a b v) := by
  have e2 : u2 I a b v 130 25 = I 130 25 := u2_n _ _ (by omega)
  have e3 : u2 I a b v 130 26 = I 130 26 := u2_n _ _ (by omega)
  exact ⟨by rw [e2]; exact h.1, by rw [e3]; exact h.2⟩
def psn (I : SI) : Nat := (I 130 26).toNatClampNeg
def siz (I : SI) : Nat := (I 130 25).toNatClampNeg
theorem TM.lt {I : SI} (h : TM I) (c : ¬ I 130 25 ≤ I 130 26) : psn I < siz I ∧ inR (I 130 26) 700 := by
  obtain ⟨i, hi, e1⟩ := h.2.n
  obtain ⟨j, hj, e2⟩ := h.1.n
  have hlt : i < j := by
    by_cases q : j ≤ i
    · exact absurd (show I 130 25 ≤ I 130 26 by rw [e1, e2]; exact nI_le q (by omega)) c
    · omega
  unfold psn siz
  rw [e1, e2, nI_clamp (by omega), nI_clamp (by omega)]
  exact ⟨hlt, inR_nI (by omega) (by decide)⟩
theorem TM.nx {I : SI} (h : TM I) (c : ¬ I 130 25 ≤ I 130 26) : TM (u2 I 130 26 (I 130 26 + 1)) ∧ inR (I 130 26 + 1) 701 ∧ psn (u2 I 130 26 (I 130 26 + 1)) = psn I + 1 := by
  have z := (h.lt c).2
  have k := cn_s (N := 700) (by decide) z
  have f2 : u2 I 130 26 (I 130 26 + 1) 130 25 = I 130 25 := u2_n _ _ (by omega)
  have f3 : u2 I 130 26 (I 130 26 + 1) 130 26 = I 130 26 + 1 := u2_s _ _ _ _
  refine ⟨⟨by rw [f2]; exact h.1, by rw [f3]; exact k.1.le (by decide)⟩, k.1, ?_⟩
  unfold psn
  rw [f3]
  exact k.2
theorem here_M {I : SI} {J : SJ} (h : TM I) : H_X12_here I J := by
  unfold H_X12_here
  exact fun c => (h.lt c).2
theorem here_no {I : SI} {J : SJ} {x : Int32} (h : F_X12_here I J = x) (hx : x ≠ -1) : ¬ I 130 25 ≤ I 130 26 := fun c => by
  unfold F_X12_here at h
  rw [if_pos c] at h
  exact hx h.symm
theorem here_no2 {I : SI} {J : SJ} (h : ¬ F_X12_here I J = -1) : ¬ I 130 25 ≤ I 130 26 := here_no rfl h
theorem sml_no {x : Int32} {I : SI} {J : SJ} (h : ¬ F_X12_isSmall x I J = 0) : x ≠ -1 := fun e => h (by rw [e]; unfold F_X12_isSmall; rfl)
theorem dgt_no {x : Int32} {I : SI} {J : SJ} (h : ¬ F_X12_isDigit x I J = 0) : x ≠ -1 := fun e => h (by rw [e]; unfold F_X12_isDigit; rfl)
/-- a step of the tokens from I: what it gives -/
def GM (I I' : SI) : Prop := TM I' ∧ KM I I' ∧ psn I ≤ psn I'
theorem GM.sz {I I1 : SI} (h : GM I I1) : siz I1 = siz I := by unfold siz; rw [h.2.1 130 25 (by omega)]
theorem psn_u {I : SI} {b : Nat} {v : Int32} (h : b ≠ 26) : psn (u2 I 130 b v) = psn I := by
  unfold psn
  exact congrArg Int32.toNatClampNeg (u2_n _ _ (by omega))
theorem siz_u {I : SI} {b : Nat} {v : Int32} (h : b ≠ 25) : siz (u2 I 130 b v) = siz I := by
  unfold siz
  exact congrArg Int32.toNatClampNeg (u2_n _ _ (by omega))
theorem GM.u {I I1 : SI} {b : Nat} {v : Int32} (h : GM I I1) (hb : 27 ≤ b ∧ b ≤ 29) : GM I (u2 I1 130 b v) := ⟨h.1.u (by omega), h.2.1.u (by omega), by rw [psn_u (by omega)]; exact h.2.2⟩
theorem GM.nx {I I1 : SI} (h : GM I I1) (c : ¬ I1 130 25 ≤ I1 130 26) : GM I (u2 I1 130 26 (I1 130 26 + 1)) ∧ psn I < psn (u2 I1 130 26 (I1 130 26 + 1)) := by
  have k := h.1.nx c
  have := h.2.2
  exact ⟨⟨k.1, h.2.1.u (by omega), by rw [k.2.2]; omega⟩, by rw [k.2.2]; omega⟩
theorem sign_M {x : Int32} {I : SI} {J : SJ} (h : TM I) (c : ¬ I 130 25 ≤ I 130 26) : H_X12_sign x I J ∧ GM I (FI_X12_sign x I J) ∧ psn I < psn (FI_X12_sign x I J) := by
  have k := h.nx c
  have g0 : GM I (S1_X12_sign x I J) ∧ inR (S1_X12_sign x I J 130 26) 701 ∧ psn (S1_X12_sign x I J) = psn I + 1 := by
    unfold S1_X12_sign
    have g : GM I (u2 I 130 26 (I 130 26 + 1)) := ⟨k.1, (KM.rf I).u (by omega), by rw [k.2.2]; omega⟩
    refine ⟨(g.u (by omega)).u (by omega), ?_, ?_⟩
    · have e : (u2 (u2 (u2 I 130 26 (I 130 26 + 1)) 130 28 (T_X12_sign_j76 x I J)) 130 29 x) 130 26 = I 130 26 + 1 := (u2_n _ _ (by omega)).trans ((u2_n _ _ (by omega)).trans (u2_s _ _ _ _))
      rw [e]
      exact k.2.1
    · rw [psn_u (by omega), psn_u (by omega), k.2.2]
  have up : ∀ {I1 : SI} {v : Int32}, (GM I I1 ∧ inR (I1 130 26) 701 ∧ psn I1 = psn I + 1) → GM I (u2 I1 130 29 v) ∧ inR (u2 I1 130 29 v 130 26) 701 ∧ psn (u2 I1 130 29 v) = psn I + 1 := fun {I1 v} q => by
    have e : u2 I1 130 29 v 130 26 = I1 130 26 := u2_n _ _ (by omega)
    exact ⟨q.1.u (by omega), by rw [e]; exact q.2.1, by rw [psn_u (by omega)]; exact q.2.2⟩
  have g1 : GM I (T_X12_sign_j106 x I J) ∧ inR (T_X12_sign_j106 x I J 130 26) 701 ∧ psn (T_X12_sign_j106 x I J) = psn I + 1 := by
    unfold T_X12_sign_j106
    repeat' split
    · exact up g0
    · exact g0
    · exact g0
  have g2 : GM I (T_X12_sign_j128 x I J) ∧ inR (T_X12_sign_j128 x I J 130 26) 701 ∧ psn (T_X12_sign_j128 x I J) = psn I + 1 := by
    unfold T_X12_sign_j128
    repeat' split
    · exact up g1
    · exact g1
    · exact g1
  have g3 : GM I (T_X12_sign_j150 x I J) ∧ inR (T_X12_sign_j150 x I J 130 26) 701 ∧ psn (T_X12_sign_j150 x I J) = psn I + 1 := by
    unfold T_X12_sign_j150
    repeat' split
    · exact up g2
    · exact g2
    · exact g2
  refine ⟨?_, ?_⟩
  · unfold H_X12_sign
    exact ⟨fun _ => here_M g2.1.1, fun _ => here_M g1.1.1, fun _ => here_M g0.1.1⟩
  · unfold FI_X12_sign
    split
    · exact ⟨g3.1, by rw [g3.2.2]; omega⟩
    · unfold S2_X12_sign
      have k2 := cn_s (N := 701) (by decide) g3.2.1
      have f2 : u2 (T_X12_sign_j150 x I J) 130 26 (T_X12_sign_j150 x I J 130 26 + 1) 130 25 = T_X12_sign_j150 x I J 130 25 := u2_n _ _ (by omega)
      have f3 : u2 (T_X12_sign_j150 x I J) 130 26 (T_X12_sign_j150 x I J 130 26 + 1) 130 26 = T_X12_sign_j150 x I J 130 26 + 1 := u2_s _ _ _ _
      have p : psn (u2 (T_X12_sign_j150 x I J) 130 26 (T_X12_sign_j150 x I J 130 26 + 1)) = psn I + 2 := by
        have := g3.2.2
        unfold psn at this ⊢
        rw [f3, k2.2]
        omega
      exact ⟨⟨⟨by rw [f2]; exact g3.1.1.1, by rw [f3]; exact k2.1⟩, g3.1.2.1.u (by omega), by rw [p]; omega⟩, by rw [p]; omega⟩
theorem ch117 : chS 3 117 = 32 := by decide +kernel
theorem chn {k : Nat} (h : k ≤ 117) (c : ¬ chS 3 (nI k).toNatClampNeg = 32) : k < 117 := by
  rw [nI_clamp (by omega)] at c
  by_cases q : k = 117
  · rw [q] at c; exact absurd ch117 c
  · omega
theorem word_M {I : SI} {J : SJ} (hp : ∃ p, p ≤ 700 ∧ I 130 27 = nI p) (ha : inR (I 130 26) 701) : H_X12_word I J := by
  obtain ⟨p, hp, ep⟩ := hp
  obtain ⟨a, ha, ea⟩ := ha.n
  have L15 : ∀ (s : Int32 × Int32), inR s.2 118 → (itW (B_X12_word_w15 I J s) 800 0).isSome = true ∧ (∀ n t, wN (B_X12_word_w15 I J s) n 0 = some t → ∃ i k : Nat, t = nI i ∧ s.2 = nI k ∧ k + i ≤ 117) ∧ ∀ d, ∃ i k : Nat, ((itW (B_X12_word_w15 I J s) 800 0).getD d) = nI i ∧ s.2 = nI k ∧ k + i ≤ 117 := fun s hs => by
    obtain ⟨k, hk, ek⟩ := hs.n
    refine whl (f := B_X12_word_w15 I J s) (s0 := (0 : Int32)) (fun t => ∃ i k : Nat, t = nI i ∧ s.2 = nI k ∧ k + i ≤ 117) (fun t => ∃ i k : Nat, t = nI i ∧ s.2 = nI k ∧ k + i ≤ 117) (fun t => 117 - t.toNatClampNeg) ⟨0, k, rfl, ek, by omega⟩ (by show 117 - _ < 800; omega) (fun t t' ht hf => ?_) (fun t r ht hf => ?_)
    · obtain ⟨i, k2, e1, e2, hik⟩ := ht
      obtain ⟨c, h2⟩ := inl_of hf
      rw [e1, e2, nI_add] at c
      have z := chn hik c
      have e : t' = t + 1 := by
        repeat' split at h2
        all_goals cases h2
        rfl
      rw [e, e1, nI_1, nI_clamp (by omega), nI_clamp (by omega)]
      exact ⟨⟨i + 1, k2, rfl, e2, by omega⟩, by omega⟩
    · unfold B_X12_word_w15 at hf
      repeat' split at hf
      all_goals cases hf
      all_goals exact ht
  have L97 : ∀ (f : Int32 → Int32 ⊕ Int32) (x : Int32), (∀ t, f t = if chS 3 t.toNatClampNeg = 32 then .inr t else .inl (t + 1)) → inR x 118 → (itW f 800 x).isSome = true ∧ (∀ n t, wN f n x = some t → ∃ i : Nat, t = nI i ∧ i ≤ 117 ∧ x.toNatClampNeg ≤ i) ∧ ∀ d, ∃ i : Nat, ((itW f 800 x).getD d) = nI i ∧ i ≤ 117 ∧ x.toNatClampNeg ≤ i := fun f x hf0 hx => by
    obtain ⟨k, hk, ek⟩ := hx.n
    refine whl (f := f) (s0 := x) (fun t => ∃ i : Nat, t = nI i ∧ i ≤ 117 ∧ x.toNatClampNeg ≤ i) (fun t => ∃ i : Nat, t = nI i ∧ i ≤ 117 ∧ x.toNatClampNeg ≤ i) (fun t => 117 - t.toNatClampNeg) ⟨k, ek, by omega, by rw [ek, nI_clamp (by omega)]; exact Nat.le_refl _⟩ (by show 117 - _ < 800; omega) (fun t t' ht hf => ?_) (fun t r ht hf => ?_)
    · obtain ⟨i, e1, hi, hx2⟩ := ht
      rw [hf0] at hf
      obtain ⟨c, h2⟩ := inl_of hf
      rw [e1] at c
      have z := chn hi c
      have e : t' = t + 1 := by cases h2; rfl
      rw [e, e1, nI_1, nI_clamp (by omega), nI_clamp (by omega)]
      exact ⟨⟨i + 1, rfl, by omega, by omega⟩, by omega⟩
    · rw [hf0] at hf
      split at hf
      · cases hf; exact ht
      · cases hf
  have nx : ∀ (x : Int32) (i : Nat), inR x 118 → i ≤ 117 → x.toNatClampNeg ≤ i → inR (nI i + 1) 119 ∧ 118 - (nI i + 1).toNatClampNeg < 118 - x.toNatClampNeg := fun x i hx hi hxi => by
    rw [nI_1, nI_clamp (by omega)]
    exact ⟨inR_nI (by omega) (by omega), by have := hx.2; omega⟩
  have st : nI (STL.getD 3 0) = nI 118 := rfl
  have lt : ∀ x : Int32, inR x 119 → ¬ nI (STL.getD 3 0) ≤ x → inR x 118 := fun x hx c => cn_lt (N := 118) (by decide) hx (show inR (nI 118) 119 from ⟨rfl, by decide⟩) c
  have L4 := whl (f := B_X12_word_w4 I J) (s0 := ((0 : Int32), (0 : Int32))) (fun s => inR s.2 119) (fun _ => True) (fun s => 118 - s.2.toNatClampNeg) cn_0 (by show 118 - _ < 800; omega) (fun s s' hs hf => by
    obtain ⟨c, h2⟩ := inl_of hf
    have z := lt _ hs c
    have q1 := (L97 (B_X12_word_w97 I J s) s.2 (fun _ => rfl) z).2.2 s.2
    have q2 := (L97 (B_X12_word_w97_2 I J s) s.2 (fun _ => rfl) z).2.2 s.2
    obtain ⟨i1, e1, h1, g1⟩ := q1
    obtain ⟨i2, e2, h22, g2⟩ := q2
    repeat' split at h2
    · cases h2
    · have ee := Sum.inl.inj h2
      rw [← ee]
      show inR (F_X12_word_w97_2 I J s s.2 + 1) 119 ∧ 118 - (F_X12_word_w97_2 I J s s.2 + 1).toNatClampNeg < 118 - s.2.toNatClampNeg
      unfold F_X12_word_w97_2
      rw [e2]
      exact nx s.2 i2 z h22 g2
    · have ee := Sum.inl.inj h2
      rw [← ee]
      show inR (F_X12_word_w97 I J s s.2 + 1) 119 ∧ 118 - (F_X12_word_w97 I J s s.2 + 1).toNatClampNeg < 118 - s.2.toNatClampNeg
      unfold F_X12_word_w97
      rw [e1]
      exact nx s.2 i1 z h1 g1) (fun _ _ _ _ => trivial)
  have ii : ∀ (s : Int32 × Int32) (t : Int32), (∃ i k : Nat, t = nI i ∧ s.2 = nI k ∧ k + i ≤ 117) → inR (s.2 + t) 118 := fun s t h => by
    obtain ⟨i, k, e1, e2, h3⟩ := h
    rw [e1, e2, nI_add]
    exact inR_nI (by omega) (by decide)
  have i97 : ∀ t : Int32, (∃ i : Nat, t = nI i ∧ i ≤ 117 ∧ (0 : Nat) ≤ i) → inR t 118 := fun t h => by
    obtain ⟨i, e, h1, _⟩ := h
    rw [e]
    exact inR_nI (by omega) (by decide)
  unfold H_X12_word
  refine ⟨L4.1, fun n s hn c => (L15 s (lt _ (L4.2.1 n s hn) c)).1, fun n s hn c => ii s _ ((L15 s (lt _ (L4.2.1 n s hn) c)).2.2 _), fun n s hn c _ => (L97 _ _ (fun _ => rfl) (lt _ (L4.2.1 n s hn) c)).1, fun n s hn c _ m t hm => ?_, fun n s hn c _ _ => (L97 _ _ (fun _ => rfl) (lt _ (L4.2.1 n s hn) c)).1, fun n s hn c _ _ m t hm => ?_, fun n s hn c m t hm => ii s t ((L15 s (lt _ (L4.2.1 n s hn) c)).2.1 m t hm), fun n s hn c m t hm _ c3 => ?_, fun n s hn c m t hm _ _ => ii s t ((L15 s (lt _ (L4.2.1 n s hn) c)).2.1 m t hm)⟩
  · obtain ⟨i, e, h1, _⟩ := (L97 (B_X12_word_w97 I J s) s.2 (fun _ => rfl) (lt _ (L4.2.1 n s hn) c)).2.1 m t hm
    rw [e]
    exact inR_nI (by omega) (by decide)
  · obtain ⟨i, e, h1, _⟩ := (L97 (B_X12_word_w97_2 I J s) s.2 (fun _ => rfl) (lt _ (L4.2.1 n s hn) c)).2.1 m t hm
    rw [e]
    exact inR_nI (by omega) (by decide)
  · obtain ⟨i, k, e1, e2, h3⟩ := (L15 s (lt _ (L4.2.1 n s hn) c)).2.1 m t hm
    rw [ep, ea, e1, nI_add] at c3
    rw [ep, e1, nI_add]
    refine inR_nI ?_ (by decide)
    by_cases q : a ≤ p + i
    · exact absurd (nI_le q (by omega)) c3
    · omega
theorem name_M {I : SI} {J : SJ} (hp : ∃ p, p ≤ 700 ∧ I 130 27 = nI p) (ha : inR (I 130 26) 701) : H_X12_name I J ∧ ∀ a b, ¬ (a = 130 ∧ b = 29) → FI_X12_name I J a b = I a b := by
  obtain ⟨p, hp, ep⟩ := hp
  obtain ⟨a, ha, ea⟩ := ha.n
  have N : ∀ n a b, ¬ (a = 130 ∧ b = 29) → itN (B_X12_name_l7 I J) n (u2 I 130 29 0) a b = I a b := fun n => itN_inv (P := fun s : SI => ∀ a b, ¬ (a = 130 ∧ b = 29) → s a b = I a b) (fun a b z => u2_n _ _ z) (fun i s _ hs => by
    intro a b z
    unfold B_X12_name_l7
    split
    · exact (u2_n _ _ z).trans (hs a b z)
    · exact (u2_n _ _ z).trans (hs a b z))
  refine ⟨?_, ?_⟩
  · unfold H_X12_name
    intro i s hi e c
    rw [e, N i 130 27 (by omega), ep, nI_add] at *
    rw [N i 130 26 (by omega), ea] at c
    refine inR_nI ?_ (by decide)
    by_cases q : a ≤ p + i
    · exact absurd (nI_le q (by omega)) c
    · omega
  · unfold FI_X12_name F_X12_name_l7
    exact N 6
theorem tok_M {I : SI} {J : SJ} (h : TM I) : H_X12_token I J ∧ GM I (FI_X12_token I J) ∧ (psn I < psn (FI_X12_token I J) ∨ FI_X12_token I J 130 28 = 4) := by
  have L0 := whl (f := B_X12_token_w0 I J) (s0 := I) (fun s => GM I s) (fun s => GM I s) (fun s => siz I - psn s) ⟨h, KM.rf I, Nat.le_refl _⟩ (by have := h.1.2; show siz I - _ < 800; unfold siz; omega) (fun s s' hs hf => by
    have c : ¬ s 130 25 ≤ s 130 26 ∧ s' = u2 s 130 26 (s 130 26 + 1) := by
      unfold B_X12_token_w0 at hf
      split at hf
      · rename_i q
        exact ⟨here_no q (by decide), (Sum.inl.inj hf).symm⟩
      · split at hf
        · rename_i q
          exact ⟨here_no q (by decide), (Sum.inl.inj hf).symm⟩
        · cases hf
    have k := hs.nx c.1
    have k2 := hs.1.nx c.1
    have l := (hs.1.lt c.1).1
    have z := hs.sz
    rw [c.2]
    exact ⟨k.1, by rw [k2.2.2]; omega⟩) (fun s r hs hf => by
    unfold B_X12_token_w0 at hf
    repeat' split at hf
    all_goals cases hf
    exact hs)
  have g0 : GM I (F_X12_token_w0 I J I) := by unfold F_X12_token_w0; exact L0.2.2 _
  have g1 : GM I (u2 (F_X12_token_w0 I J I) 130 27 (F_X12_token_w0 I J I 130 26)) := g0.u (by omega)
  generalize hI1 : u2 (F_X12_token_w0 I J I) 130 27 (F_X12_token_w0 I J I 130 26) = I1 at g1
  have pl : ∃ p, p ≤ 700 + 1 ∧ I1 130 27 = nI p ∧ I1 130 26 = nI p := by
    obtain ⟨p, hp, e⟩ := g0.1.2.n
    refine ⟨p, by omega, ?_, ?_⟩
    · rw [← hI1, u2_s]; exact e
    · rw [← hI1]; exact (u2_n _ _ (by omega)).trans e
  have sg := fun c : ¬ I1 130 25 ≤ I1 130 26 => sign_M (x := F_X12_here I1 J) (J := J) g1.1 c
  -- digits
  have D := fun (c0 : ¬ F_X12_here I1 J = -1) (c1 : ¬ F_X12_isDigit (F_X12_here I1 J) I1 J = 0) => whl (f := B_X12_token_w162 I J) (s0 := u2 (u2 I1 130 28 2) 130 29 0) (fun s => GM I1 s ∧ (psn I1 < psn s ∨ F_X12_here s J = F_X12_here I1 J)) (fun s => GM I1 s ∧ psn I1 < psn s) (fun s => siz I1 - psn s) ⟨(GM.u (GM.u (I := I1) (I1 := I1) ⟨g1.1, KM.rf I1, Nat.le_refl _⟩ (by omega)) (by omega)), Or.inr (by
      unfold F_X12_here
      have e5 : (u2 (u2 I1 130 28 2) 130 29 0) 130 25 = I1 130 25 := (u2_n _ _ (by omega)).trans (u2_n _ _ (by omega))
      have e6 : (u2 (u2 I1 130 28 2) 130 29 0) 130 26 = I1 130 26 := (u2_n _ _ (by omega)).trans (u2_n _ _ (by omega))
      have e7 : ∀ b, (u2 (u2 I1 130 28 2) 130 29 0) 131 b = I1 131 b := fun b => (u2_n _ _ (by omega)).trans (u2_n _ _ (by omega))
      rw [e5, e6, e7])⟩ (by have := g1.1.1.2; show siz I1 - _ < 800; unfold siz; omega) (fun s s' hs hf => by
    obtain ⟨c, h2⟩ := inl_of hf
    have cs : ¬ s 130 25 ≤ s 130 26 := here_no2 (dgt_no c)
    have l := (hs.1.1.lt cs).1
    have z := hs.1.sz
    have go : ∀ v : Int32, GM I1 (u2 (u2 s 130 29 v) 130 26 ((u2 s 130 29 v) 130 26 + 1)) ∧ psn (u2 (u2 s 130 29 v) 130 26 ((u2 s 130 29 v) 130 26 + 1)) = psn s + 1 := fun v => by
      have gs : GM I1 (u2 s 130 29 v) := hs.1.u (by omega)
      have e5 : u2 s 130 29 v 130 25 = s 130 25 := u2_n _ _ (by omega)
      have e6 : u2 s 130 29 v 130 26 = s 130 26 := u2_n _ _ (by omega)
      have cc : ¬ u2 s 130 29 v 130 25 ≤ u2 s 130 29 v 130 26 := by rw [e5, e6]; exact cs
      exact ⟨(gs.nx cc).1, by rw [(gs.1.nx cc).2.2, psn_u (by omega)]⟩
    have e : ∃ v : Int32, s' = u2 (u2 s 130 29 v) 130 26 ((u2 s 130 29 v) 130 26 + 1) := by
      split at h2
      · exact ⟨_, (Sum.inl.inj h2).symm⟩
      · exact ⟨_, (Sum.inl.inj h2).symm⟩
    obtain ⟨v, e⟩ := e
    have g := go v
    have := hs.1.2.2
    rw [e]
    exact ⟨⟨g.1, Or.inl (by rw [g.2]; omega)⟩, by rw [g.2]; omega⟩) (fun s r hs hf => by
    unfold B_X12_token_w162 at hf
    split at hf
    · rename_i q
      cases hf
      refine ⟨hs.1, hs.2.resolve_right (fun e => c1 ?_)⟩
      rw [e] at q
      unfold F_X12_isDigit at q ⊢
      exact q
    · split at hf <;> cases hf)
  -- letters
  have Lw := fun (c0 : ¬ F_X12_here I1 J = -1) (c1 : ¬ F_X12_isSmall (F_X12_here I1 J) I1 J = 0) => whl (f := B_X12_token_w64 I J) (s0 := I1) (fun s => (GM I1 s ∧ inR (s 130 26) 701 ∧ s 130 27 = I1 130 27) ∧ (psn I1 < psn s ∨ F_X12_here s J = F_X12_here I1 J)) (fun s => (GM I1 s ∧ inR (s 130 26) 701 ∧ s 130 27 = I1 130 27) ∧ psn I1 < psn s) (fun s => siz I1 - psn s) ⟨⟨⟨g1.1, KM.rf I1, Nat.le_refl _⟩, (g1.1.lt (here_no2 c0)).2.le (by decide), rfl⟩, Or.inr rfl⟩ (by have := g1.1.1.2; show siz I1 - _ < 800; unfold siz; omega) (fun s s' hs hf => by
    obtain ⟨c, h2⟩ := inl_of hf
    have cs : ¬ s 130 25 ≤ s 130 26 := here_no2 (sml_no c)
    have l := (hs.1.1.1.lt cs).1
    have z := hs.1.1.sz
    have g := hs.1.1.nx cs
    have k := hs.1.1.1.nx cs
    have e : s' = u2 s 130 26 (s 130 26 + 1) := (Sum.inl.inj h2).symm
    have := hs.1.1.2.2
    rw [e]
    exact ⟨⟨⟨g.1, by rw [u2_s]; exact k.2.1, (u2_n _ _ (by omega)).trans hs.1.2.2⟩, Or.inl g.2⟩, by rw [k.2.2]; omega⟩) (fun s r hs hf => by
    unfold B_X12_token_w64 at hf
    split at hf
    · rename_i q
      cases hf
      refine ⟨hs.1, hs.2.resolve_right (fun e => c1 ?_)⟩
      rw [e] at q
      unfold F_X12_isSmall at q ⊢
      exact q
    · cases hf)
  have S8 : S8_X12_token I J = F_X12_token_w64 I J I1 := by unfold S8_X12_token; rw [hI1]
  have S1 : S1_X12_token I J = F_X12_isSmall (F_X12_here I1 J) I1 J := by unfold S1_X12_token; rw [hI1]
  have S2 : S2_X12_token I J = F_X12_isDigit (F_X12_here I1 J) I1 J := by unfold S2_X12_token; rw [hI1]
  have S4 : S4_X12_token I J = u2 I1 130 28 2 := by unfold S4_X12_token; rw [hI1]
  have w8 : ∀ (c0 : ¬ F_X12_here I1 J = -1) (c1 : ¬ S1_X12_token I J = 0), (GM I1 (S8_X12_token I J) ∧ inR (S8_X12_token I J 130 26) 701 ∧ S8_X12_token I J 130 27 = I1 130 27) ∧ psn I1 < psn (S8_X12_token I J) := fun c0 c1 => by
    rw [S1] at c1
    rw [S8]
    unfold F_X12_token_w64
    exact (Lw c0 c1).2.2 _
  have pl7 : ∀ (c0 : ¬ F_X12_here I1 J = -1), ∃ p, p ≤ 700 ∧ I1 130 27 = nI p := fun c0 => by
    obtain ⟨p, _, e7, e6⟩ := pl
    have q := (g1.1.lt (here_no2 c0)).2
    rw [e6] at q
    have := q.2
    rw [nI_clamp (by omega)] at this
    exact ⟨p, by omega, e7⟩
  have w9 : ∀ (c0 : ¬ F_X12_here I1 J = -1) (c1 : ¬ S1_X12_token I J = 0), GM I1 (S9_X12_token I J) ∧ psn I1 < psn (S9_X12_token I J) ∧ inR (S9_X12_token I J 130 26) 701 ∧ S9_X12_token I J 130 27 = I1 130 27 := fun c0 c1 => by
    have w := w8 c0 c1
    unfold S9_X12_token
    refine ⟨(w.1.1.u (by omega)).u (by omega), by rw [psn_u (by omega), psn_u (by omega)]; exact w.2, ?_, ?_⟩
    · have e : ∀ v x : Int32, (u2 (u2 (S8_X12_token I J) 130 29 v) 130 28 x) 130 26 = S8_X12_token I J 130 26 := fun v x => (u2_n _ _ (by omega)).trans (u2_n _ _ (by omega))
      rw [e]
      exact w.1.2.1
    · exact (u2_n _ _ (by omega)).trans ((u2_n _ _ (by omega)).trans w.1.2.2)
  refine ⟨?_, ?_⟩
  · unfold H_X12_token
    rw [hI1, S4]
    refine ⟨L0.1, here_M g1.1, fun c _ _ => (sg (here_no2 c)).1, fun c _ d => ?_, fun c _ d n s hn => ?_, fun c _ d n s hn _ _ => ?_, fun c d => ?_, fun c d => ?_, fun c d _ => ?_, fun c d n s hn => ?_, fun n s hn => here_M (L0.2.1 n s hn).1, fun n s hn _ => here_M (L0.2.1 n s hn).1⟩
    · rw [S2] at d; exact (D c d).1
    · rw [S2] at d; exact here_M ((D c d).2.1 n s hn).1.1
    · rw [S2] at d; exact here_M ((D c d).2.1 n s hn).1.1
    · rw [S1] at d; exact (Lw c d).1
    · have w := w8 c d
      obtain ⟨p, hp, e⟩ := pl7 c
      exact word_M ⟨p, hp, w.1.2.2.trans e⟩ w.1.2.1
    · have w := w9 c d
      obtain ⟨p, hp, e⟩ := pl7 c
      exact (name_M ⟨p, hp, w.2.2.2.trans e⟩ w.2.2.1).1
    · rw [S1] at d; exact here_M ((Lw c d).2.1 n s hn).1.1.1
  · have fin : ∀ {I2 : SI}, GM I1 I2 → GM I I2 := fun {I2} g => ⟨g.1, g1.2.1.tr g.2.1, Nat.le_trans g1.2.2 g.2.2⟩
    have lt2 : ∀ {I2 : SI}, psn I1 < psn I2 → psn I < psn I2 := fun {I2} g => Nat.lt_of_le_of_lt g1.2.2 g
    unfold FI_X12_token
    rw [hI1]
    by_cases c : F_X12_here I1 J = -1
    · rw [if_pos c]
      unfold S11_X12_token
      rw [hI1]
      exact ⟨g1.u (by omega), Or.inr (u2_s _ _ _ _)⟩
    · rw [if_neg c]
      by_cases d : S1_X12_token I J = 0
      · rw [if_pos d]
        by_cases d2 : S2_X12_token I J = 0
        · rw [if_pos d2]
          unfold S3_X12_token
          rw [hI1]
          have s := sg (here_no2 c)
          exact ⟨fin s.2.1, Or.inl (lt2 s.2.2)⟩
        · rw [if_neg d2, S4]
          rw [S2] at d2
          unfold F_X12_token_w162
          have q := (D c d2).2.2 (u2 (u2 I1 130 28 2) 130 29 0)
          exact ⟨fin q.1, Or.inl (lt2 q.2)⟩
      · rw [if_neg d]
        have w := w9 c d
        by_cases d2 : S9_X12_token I J 130 28 = 1
        · rw [if_pos d2]
          obtain ⟨p, hp, e⟩ := pl7 c
          have nm := (name_M (J := J) ⟨p, hp, w.2.2.2.trans e⟩ w.2.2.1).2
          have e5 := nm 130 25 (by omega)
          have e6 := nm 130 26 (by omega)
          have ps : psn (FI_X12_name (S9_X12_token I J) J) = psn (S9_X12_token I J) := by unfold psn; rw [e6]
          refine ⟨fin ⟨⟨by rw [e5]; exact w.1.1.1, by rw [e6]; exact w.1.1.2⟩, fun a b z => (nm a b (by omega)).trans (w.1.2.1 a b z), by rw [ps]; exact w.1.2.2⟩, Or.inl (lt2 (by rw [ps]; exact w.2.1))⟩
        · rw [if_neg d2]
          exact ⟨fin w.1, Or.inl (lt2 w.2.1)⟩
