/-! the class: days pass well, and change their own cells alone -/
/-- changes places p to q alone -/
def KP (p q : Nat) (I I' : SI) : Prop := ∀ a b, (a < p ∨ q < a) → I' a b = I a b
theorem KP.rf {p q : Nat} (I : SI) : KP p q I I := fun _ _ _ => rfl
theorem KP.tr {p q : Nat} {I I1 I2 : SI} (h : KP p q I I1) (h2 : KP p q I1 I2) : KP p q I I2 := fun a b z => (h2 a b z).trans (h a b z)
theorem KP.w {p q p' q' : Nat} {I I1 : SI} (h : KP p q I I1) (h1 : p' ≤ p) (h2 : q ≤ q') : KP p' q' I I1 := fun a b z => h a b (by omega)
theorem KP.u {p q : Nat} {I I1 : SI} {a b : Nat} {v : Int32} (h : KP p q I I1) (ha : p ≤ a ∧ a ≤ q) : KP p q I (u2 I1 a b v) := fun c d z => (u2_n _ _ (by omega)).trans (h c d z)
theorem putF_n {I : SI} {r len a b : Nat} {i x : Int32} (h : a ≠ r) : putF I r len i x a b = I a b := by
  unfold putF
  split
  · rfl
  · split
    · rfl
    · exact u2_n _ _ (fun z => h z.1)
theorem fillF_n {I : SI} {r a b k : Nat} {x : Int32} (h : a ≠ r) : fillF I r x k a b = I a b := if_neg (fun z => h z.1)
theorem cpF_n {I : SI} {r0 r1 a b k : Nat} (h : a ≠ r1) : cpF I r0 r1 k a b = I a b := if_neg (fun z => h z.1)
theorem KP.p {p q : Nat} {I I1 : SI} {r len : Nat} {i x : Int32} (h : KP p q I I1) (ha : p ≤ r ∧ r ≤ q) : KP p q I (putF I1 r len i x) := fun c d z => (putF_n (by omega)).trans (h c d z)
theorem KP.f {p q : Nat} {I I1 : SI} {r k : Nat} {x : Int32} (h : KP p q I I1) (ha : p ≤ r ∧ r ≤ q) : KP p q I (fillF I1 r x k) := fun c d z => (fillF_n (by omega)).trans (h c d z)
theorem KP.c {p q : Nat} {I I1 : SI} {r0 r1 k : Nat} (h : KP p q I I1) (ha : p ≤ r1 ∧ r1 ≤ q) : KP p q I (cpF I1 r0 r1 k) := fun c d z => (cpF_n (by omega)).trans (h c d z)
theorem inl_of {c : Prop} [Decidable c] {α β : Type} {r : β} {t : α ⊕ β} {s' : α} (h : (if c then Sum.inr r else t) = Sum.inl s') : ¬ c ∧ t = Sum.inl s' := by
  by_cases q : c
  · rw [if_pos q] at h; cases h
  · rw [if_neg q] at h; exact ⟨q, h⟩
/-- the sizes of what is told -/
def CS (I : SI) : Prop := inR (I 3 1) 9 ∧ inR (I 8 1) 9 ∧ inR (I 13 1) 9
theorem CS.kp {p q : Nat} {I I1 : SI} (h : CS I) (k : KP p q I I1) (hp : 13 < p) : CS I1 := ⟨by rw [k 3 1 (by omega)]; exact h.1, by rw [k 8 1 (by omega)]; exact h.2.1, by rw [k 13 1 (by omega)]; exact h.2.2⟩
theorem lgz {x : Int64} (h : ¬ lg_cmp x 0 = 0) : ¬ x = 0 := fun e => h (by rw [e]; decide)
theorem or01 {c : Prop} [Decidable c] : (if c then (0 : Int32) else 1) = 0 ∨ (if c then (0 : Int32) else 1) = 1 := by
  by_cases q : c
  · exact .inl (if_pos q)
  · exact .inr (if_neg q)
theorem join_C {a0 : Int32} {a1 a2 : Int64} {I : SI} {J : SJ} : H_X1_join a0 a1 a2 I J := by
  unfold H_X1_join
  exact ⟨fun _ _ _ h => lgz h, fun _ _ _ _ h => lgz h⟩
theorem worth_C {k a0 la0 : Nat} {I : SI} {J : SJ} : H_X1_worth k a0 la0 I J := by
  unfold H_X1_worth
  exact fun _ _ _ _ _ => join_C
theorem worthOf_C {a0 : Nat} {a1 a2 a3 a4 a5 : Int32} {I : SI} {J : SJ} : H_X0_worthOf a0 a1 a2 a3 a4 a5 I J := by
  unfold H_X0_worthOf
  exact fun _ => worth_C
theorem notice_C {a0 a1 : Int32} {I : SI} {J : SJ} : H_X0_noticeWorth a0 a1 I J := by unfold H_X0_noticeWorth; exact worthOf_C
theorem yield_C {a0 a1 : Int32} {I : SI} {J : SJ} : H_X0_yieldWorth a0 a1 I J := by unfold H_X0_yieldWorth; exact worthOf_C
theorem again_C {a0 : Int32} {I : SI} {J : SJ} : H_X0_againWorth a0 I J := by unfold H_X0_againWorth; exact worthOf_C
theorem film_C {a0 a1 : Int32} {I : SI} {J : SJ} (hC : CS I) : H_X0_film a0 a1 I J ∧ KP 104 115 I (FI_X0_film a0 a1 I J) := by
  have L := whc (f := B_X0_film_w14 a0 a1 I J) (x0 := (putF I 107 8 a0 1, J)) 8 (by decide) (fun x => KP 104 115 I x.1) (fun r => KP 104 115 I r.2.1) ((KP.rf I).p (by decide)) (fun e x s' he hx h => by
    obtain ⟨c, h2⟩ := inl_of h
    refine ⟨cn_lt (by decide) he (hC.kp hx (by decide)).1 c, ?_⟩
    have t : KP 104 115 I (T_X0_film_j104 a0 a1 I J (e, x)) := by
      unfold T_X0_film_j104
      repeat' split
      all_goals first
        | exact hx
        | (unfold S3_X0_film; exact (hx.p (by decide)).u (by decide))
    repeat' split at h2
    all_goals cases h2
    all_goals refine ⟨rfl, ?_⟩
    all_goals first
      | exact t
      | (unfold S2_X0_film; exact t.p (by decide))) (fun e x r he hx h => by
    unfold B_X0_film_w14 at h
    repeat' split at h
    all_goals cases h
    all_goals exact hx)
  refine ⟨?_, ?_⟩
  · unfold H_X0_film
    refine ⟨L.1, fun _ _ _ _ _ _ _ => notice_C, fun _ _ _ _ _ _ _ => ?_⟩
    unfold H_X0_isSo
    intro _
    unfold T_X0_film_j138
    exact or01
  · unfold FI_X0_film F_X0_film_w14
    exact L.2.2 _
theorem give_C {a0 : Int32} {I : SI} {J : SJ} : H_X0_give a0 I J ∧ KP 104 115 I (FI_X0_give a0 I J) := by
  have t : KP 104 115 I (S2_X0_give a0 I J) := by
    unfold S2_X0_give S1_X0_give
    exact (((KP.rf I).p (by decide)).p (by decide)).p (by decide)
  refine ⟨?_, ?_⟩
  · unfold H_X0_give
    refine ⟨fun _ _ _ _ _ => yield_C, fun _ _ _ _ _ => ?_⟩
    unfold H_X0_isSo
    intro _
    unfold T_X0_give_j183
    exact or01
  · unfold FI_X0_give
    repeat' split
    all_goals first
      | exact KP.rf I
      | exact t
      | exact t.p (by decide)
theorem filmAgain_C {a0 : Int32} {I : SI} {J : SJ} (hC : CS I) : H_X0_filmAgain a0 I J ∧ KP 104 115 I (FI_X0_filmAgain a0 I J) := by
  have L := whc (f := B_X0_filmAgain_w39 a0 I J) (x0 := S1_X0_filmAgain a0 I J) 8 (by decide) (fun x => KP 104 115 I x) (fun r => KP 104 115 I r.2) (by
    unfold S1_X0_filmAgain
    exact ((KP.rf I).u (by decide)).p (by decide)) (fun e x s' he hx h => by
    obtain ⟨c, h2⟩ := inl_of h
    refine ⟨cn_lt (by decide) he (hC.kp hx (by decide)).1 c, ?_⟩
    repeat' split at h2
    all_goals cases h2
    all_goals refine ⟨rfl, ?_⟩
    all_goals first
      | exact hx
      | exact hx.p (by decide)) (fun e x r he hx h => by
    unfold B_X0_filmAgain_w39 at h
    repeat' split at h
    all_goals cases h
    all_goals exact hx)
  refine ⟨?_, ?_⟩
  · unfold H_X0_filmAgain
    exact L.1
  · unfold FI_X0_filmAgain F_X0_filmAgain_w39
    exact L.2.2 _
theorem oneAgain_C {I : SI} {J : SJ} (hC : CS I) : H_X0_filmOneAgain I J ∧ KP 104 115 I (FI_X0_filmOneAgain I J) := by
  have g : ∀ (v : Int32) (i : Nat) (J' : SJ), H_X0_filmAgain (nI i) (u2 I 105 1 v) J' ∧ KP 104 115 I (FI_X0_filmAgain (nI i) (u2 I 105 1 v) J') := fun v i J' => by
    have k : KP 104 115 I (u2 I 105 1 v) := (KP.rf I).u (by decide)
    have q := filmAgain_C (a0 := nI i) (J := J') (hC.kp k (by decide))
    exact ⟨q.1, k.tr q.2⟩
  refine ⟨?_, ?_⟩
  · unfold H_X0_filmOneAgain
    exact ⟨fun _ _ _ _ _ _ => again_C, fun i s _ _ _ _ _ => (g _ i _).1⟩
  · have L := itE_inv (f := B_X0_filmOneAgain_l2_2 I J) (s0 := J) (fun _ => True) (fun r => KP 104 115 I r.1) trivial (fun _ _ _ _ _ => trivial) (fun i s r _ h => by
      unfold B_X0_filmOneAgain_l2_2 at h
      repeat' split at h
      all_goals cases h
      unfold S1_X0_filmOneAgain
      exact (g _ i _).2)
    unfold FI_X0_filmOneAgain
    cases q : F_X0_filmOneAgain_l2_2 I J J with
    | inl s => exact KP.rf I
    | inr r =>
      unfold F_X0_filmOneAgain_l2_2 at q
      exact L.2 _ _ q
theorem day_C {a0 : Int32} {I : SI} {J : SJ} {i2 : Nat} {s2 : SI × SJ} (hC : CS s2.1) : ((itW (B_X0_pass_w60 a0 I J i2 s2) 800 (0, (S1_X0_pass a0 I J i2 s2), (FJ_X0_isAway s2.1 s2.2))).isSome = true ∧ (∀ n s, wN (B_X0_pass_w60 a0 I J i2 s2) n (0, (S1_X0_pass a0 I J i2 s2), (FJ_X0_isAway s2.1 s2.2)) = some s → CS s.2.1)) ∧ ((itW (B_X0_pass_w128 a0 I J i2 s2) 800 (0, (S2_X0_pass a0 I J i2 s2), (S3_X0_pass a0 I J i2 s2))).isSome = true) ∧ CS (S4_X0_pass a0 I J i2 s2) ∧ KP 104 115 s2.1 (S6_X0_pass a0 I J i2 s2) := by
  have L := whc (f := B_X0_pass_w60 a0 I J i2 s2) (x0 := (S1_X0_pass a0 I J i2 s2, FJ_X0_isAway s2.1 s2.2)) 8 (by decide) (fun x => KP 104 115 s2.1 x.1) (fun r => KP 104 115 s2.1 r.2.1) (by
    unfold S1_X0_pass
    exact ((KP.rf s2.1).u (by decide)).u (by decide)) (fun e x s' he hx h => by
    obtain ⟨c, h2⟩ := inl_of h
    refine ⟨cn_lt (by decide) he (hC.kp hx (by decide)).2.1 c, ?_⟩
    repeat' split at h2
    all_goals cases h2
    all_goals refine ⟨rfl, ?_⟩
    all_goals first
      | exact hx
      | exact hx.tr (film_C (hC.kp hx (by decide))).2) (fun e x r he hx h => by
    unfold B_X0_pass_w60 at h
    repeat' split at h
    all_goals cases h
    all_goals exact hx)
  have t2 : KP 104 115 s2.1 (S2_X0_pass a0 I J i2 s2) := by
    unfold S2_X0_pass F_X0_pass_w60
    exact L.2.2 _
  have M := whc (f := B_X0_pass_w128 a0 I J i2 s2) (x0 := (S2_X0_pass a0 I J i2 s2, S3_X0_pass a0 I J i2 s2)) 8 (by decide) (fun x => KP 104 115 s2.1 x.1) (fun r => KP 104 115 s2.1 r.2.1) t2 (fun e x s' he hx h => by
    obtain ⟨c, h2⟩ := inl_of h
    refine ⟨cn_lt (by decide) he (hC.kp hx (by decide)).2.2 c, ?_⟩
    repeat' split at h2
    all_goals cases h2
    all_goals refine ⟨rfl, ?_⟩
    all_goals exact hx.tr give_C.2) (fun e x r he hx h => by
    unfold B_X0_pass_w128 at h
    repeat' split at h
    all_goals cases h
    all_goals exact hx)
  have t4 : KP 104 115 s2.1 (S4_X0_pass a0 I J i2 s2) := by
    unfold S4_X0_pass F_X0_pass_w128
    exact M.2.2 _
  refine ⟨⟨L.1, fun n s h => hC.kp (L.2.1 n s h).2 (by decide)⟩, M.1, hC.kp t4 (by decide), ?_⟩
  unfold S6_X0_pass
  refine KP.u ?_ (by decide)
  unfold T_X0_pass_j170
  split
  · exact t4
  · exact t4.tr (oneAgain_C (hC.kp t4 (by decide))).2
theorem pass_C {a0 : Int32} {I : SI} {J : SJ} (hC : CS I) : H_X0_pass a0 I J ∧ KP 104 115 I (FI_X0_pass a0 I J) := by
  have N : ∀ n, KP 104 115 I (itN (B_X0_pass_l2 a0 I J) n (I, J)).1 := fun n => itN_inv (P := fun s : SI × SJ => KP 104 115 I s.1) (KP.rf I) (fun i s _ hs => hs.tr (day_C (hC.kp hs (by decide))).2.2.2)
  have D : ∀ (i : Nat) (s : SI × SJ), s = itN (B_X0_pass_l2 a0 I J) i (I, J) → CS s.1 := fun i s e => hC.kp (e ▸ N i) (by decide)
  refine ⟨?_, ?_⟩
  · unfold H_X0_pass
    exact ⟨fun i s _ e => (day_C (D i s e)).1.1, fun i s _ e => (day_C (D i s e)).2.1, fun i s _ e _ => (oneAgain_C (day_C (D i s e)).2.2.1).1, fun _ _ _ _ _ _ _ _ _ => give_C.1, fun i s _ e n s60 h _ _ _ => (film_C ((day_C (D i s e)).1.2 n s60 h)).1⟩
  · unfold FI_X0_pass F_X0_pass_l2
    exact N _
theorem copy_K {k a0 : Nat} {I : SI} {J : SJ} : KP k (k + 8) I (FI_X5_copy k a0 I J) := by
  unfold FI_X5_copy S5_X5_copy S4_X5_copy S3_X5_copy S2_X5_copy S1_X5_copy
  exact ((((((((((((((KP.rf I).u (by omega)).u (by omega)).u (by omega)).u (by omega)).u (by omega)).u (by omega)).c (by omega)).c (by omega)).c (by omega)).c (by omega)).c (by omega)).c (by omega)).c (by omega)).c (by omega)
theorem open_K {k a0 : Nat} {I : SI} {J : SJ} : KP k (k + 8) I (FI_X5_open k a0 I J) := by
  unfold FI_X5_open S4_X5_open S3_X5_open S2_X5_open S1_X5_open
  exact ((((((((((((((KP.rf I).u (by omega)).u (by omega)).u (by omega)).u (by omega)).u (by omega)).u (by omega)).c (by omega)).f (by omega)).f (by omega)).c (by omega)).f (by omega)).f (by omega)).c (by omega)).f (by omega)
theorem begin_K {a0 : Nat} {I : SI} {J : SJ} : KP 104 115 I (FI_X0_begin a0 I J) := by
  unfold FI_X0_begin S1_X0_begin
  exact ((((((copy_K (k := 105)).w (by decide) (by decide)).c (by decide)).u (by decide)).u (by decide)).u (by decide)).u (by decide)
theorem otherwise_C {a0 a1 : Int32} {I : SI} {J : SJ} : H_X0_otherwise a0 a1 I J ∧ KP 104 115 I (FI_X0_otherwise a0 a1 I J) := by
  have t : KP 104 115 I (S2_X0_otherwise a0 a1 I J) := by
    unfold S2_X0_otherwise S1_X0_otherwise
    exact ((((KP.rf I).u (by decide)).u (by decide)).u (by decide)).u (by decide)
  refine ⟨?_, ?_⟩
  · unfold H_X0_otherwise T_X0_otherwise_j39 T_X0_otherwise_j53
    exact ⟨or01, or01⟩
  · unfold FI_X0_otherwise
    split
    · exact t.f (by decide)
    · exact t
