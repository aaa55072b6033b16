/-! the class: what is changed and filmed again grows by few, day by day -/
def GW (g : Nat) (A X : SI) : Prop := ∃ i j, i ≤ g ∧ j ≤ g ∧ X 105 2 = A 105 2 + nI i ∧ X 105 3 = A 105 3 + nI j
theorem GW.eq {g : Nat} {A X : SI} (h1 : X 105 2 = A 105 2) (h2 : X 105 3 = A 105 3) : GW g A X := ⟨0, 0, Nat.zero_le _, Nat.zero_le _, h1.trans (Int32.add_zero _).symm, h2.trans (Int32.add_zero _).symm⟩
theorem GW.rf {g : Nat} (A : SI) : GW g A A := GW.eq rfl rfl
theorem GW.tr {a b : Nat} {A X Y : SI} (h : GW a A X) (k : GW b X Y) : GW (a + b) A Y := by
  obtain ⟨i, j, h1, h2, h3, h4⟩ := h
  obtain ⟨i', j', k1, k2, k3, k4⟩ := k
  refine ⟨i + i', j + j', by omega, by omega, ?_, ?_⟩
  · rw [k3, h3, Int32.add_assoc, nI_add]
  · rw [k4, h4, Int32.add_assoc, nI_add]
theorem GW.le {a b : Nat} {A X : SI} (h : GW a A X) (hab : a ≤ b) : GW b A X := by
  obtain ⟨i, j, h1, h2, h3, h4⟩ := h
  exact ⟨i, j, by omega, by omega, h3, h4⟩
/-- behind a change elsewhere -/
theorem GW.o {g : Nat} {A X Y : SI} (h : GW g A X) (h1 : Y 105 2 = X 105 2) (h2 : Y 105 3 = X 105 3) : GW g A Y := by
  obtain ⟨i, j, a, b, c, d⟩ := h
  exact ⟨i, j, a, b, h1.trans c, h2.trans d⟩
theorem gw_itW {σ ρ : Type} {f : σ → σ ⊕ ρ} (I1 : σ → SI) (I2 : ρ → SI) (g : Nat) (hs : ∀ s s', f s = .inl s' → GW g (I1 s) (I1 s')) (hr : ∀ s r, f s = .inr r → GW g (I1 s) (I2 r)) : ∀ n s d, GW (n * g) (I1 s) (I2 d) → GW (n * g) (I1 s) (I2 ((itW f n s).getD d)) := by
  have k : ∀ n s r, itW f n s = some r → GW (n * g) (I1 s) (I2 r) := by
    intro n
    induction n with
    | zero => intro s r h; rw [itW_0] at h; exact nomatch h
    | succ n ih =>
      intro s r h
      rw [Nat.succ_mul]
      cases e : f s with
      | inl s1 =>
        rw [itW_l f n s s1 e] at h
        have t := (hs s s1 e).tr (ih s1 r h)
        rw [Nat.add_comm] at t
        exact t
      | inr r1 =>
        rw [itW_r f n s r1 e] at h
        have e2 := Option.some.inj h
        rw [← e2]
        exact (hr s r1 e).le (by omega)
  intro n s d hd
  cases e : itW f n s with
  | none => exact hd
  | some r => exact k n s r e
theorem film_g {a0 a1 : Int32} {I : SI} {J : SJ} : GW 800 I (FI_X0_film a0 a1 I J) := by
  have t : ∀ s : Int32 × SI × SJ, GW 1 s.2.1 (T_X0_film_j104 a0 a1 I J s) := fun s => by
    unfold T_X0_film_j104
    repeat' split
    all_goals first
      | exact GW.rf _
      | (unfold S3_X0_film
         refine ⟨1, 0, by omega, by omega, ?_, ?_⟩
         · rw [u2_s, putF_n (by decide)]
           rfl
         · rw [u2_n _ _ (by omega), putF_n (by decide)]
           exact (Int32.add_zero _).symm)
  have L := gw_itW (f := B_X0_film_w14 a0 a1 I J) (fun (s : Int32 × SI × SJ) => s.2.1) (fun (r : Int32 × SI × SJ) => r.2.1) 1 (fun s s' e => by
    unfold B_X0_film_w14 at e
    repeat' split at e
    all_goals first
      | (have ee := Sum.inl.inj e
         rw [← ee]
         first
           | exact t s
           | (unfold S2_X0_film; exact (t s).o (putF_n (by decide)) (putF_n (by decide))))
      | exact nomatch e) (fun s r e => by
    unfold B_X0_film_w14 at e
    repeat' split at e
    all_goals first
      | (have ee := Sum.inr.inj e
         rw [← ee]
         exact GW.rf _)
      | exact nomatch e) 800 (0, putF I 107 8 a0 1, J) (0, putF I 107 8 a0 1, J) (GW.rf _)
  have L2 : GW 800 (putF I 107 8 a0 1) (FI_X0_film a0 a1 I J) := L
  have z : GW 0 I (putF I 107 8 a0 1) := GW.eq (putF_n (by decide)) (putF_n (by decide))
  have q := z.tr L2
  rw [Nat.zero_add] at q
  exact q
theorem give_g {a0 : Int32} {I : SI} {J : SJ} : GW 0 I (FI_X0_give a0 I J) := by
  have t : GW 0 I (S2_X0_give a0 I J) := by
    unfold S2_X0_give S1_X0_give
    exact GW.eq ((putF_n (by decide)).trans ((putF_n (by decide)).trans (putF_n (by decide)))) ((putF_n (by decide)).trans ((putF_n (by decide)).trans (putF_n (by decide))))
  unfold FI_X0_give
  repeat' split
  all_goals first
    | exact GW.rf _
    | exact t
    | exact t.o (putF_n (by decide)) (putF_n (by decide))
theorem fagain_g {a0 : Int32} {I : SI} {J : SJ} : GW 1 I (FI_X0_filmAgain a0 I J) := by
  have s1 : GW 1 I (S1_X0_filmAgain a0 I J) := by
    unfold S1_X0_filmAgain
    refine ⟨0, 1, by omega, by omega, ?_, ?_⟩
    · rw [putF_n (by decide), u2_n _ _ (by omega)]
      exact (Int32.add_zero _).symm
    · rw [putF_n (by decide), u2_s]
      rfl
  have L := gw_itW (f := B_X0_filmAgain_w39 a0 I J) (fun (s : Int32 × SI) => s.2) (fun (r : Int32 × SI) => r.2) 0 (fun s s' e => by
    unfold B_X0_filmAgain_w39 at e
    repeat' split at e
    all_goals first
      | (have ee := Sum.inl.inj e
         rw [← ee]
         first
           | exact GW.rf _
           | exact GW.eq (putF_n (by decide)) (putF_n (by decide)))
      | exact nomatch e) (fun s r e => by
    unfold B_X0_filmAgain_w39 at e
    repeat' split at e
    all_goals first
      | (have ee := Sum.inr.inj e
         rw [← ee]
         exact GW.rf _)
      | exact nomatch e) 800 (0, S1_X0_filmAgain a0 I J) (0, S1_X0_filmAgain a0 I J) (GW.rf _)
  have L2 : GW (800 * 0) (S1_X0_filmAgain a0 I J) (FI_X0_filmAgain a0 I J) := L
  exact s1.tr L2
theorem one_g {I : SI} {J : SJ} : GW 1 I (FI_X0_filmOneAgain I J) := by
  have q := itE_inv (f := B_X0_filmOneAgain_l2_2 I J) (s0 := J) (fun _ => True) (fun (r : SI × SJ) => GW 1 I r.1) trivial (fun _ _ _ _ _ => trivial) (fun i s r _ h => by
    unfold B_X0_filmOneAgain_l2_2 at h
    repeat' split at h
    all_goals first
      | (have ee := Sum.inr.inj h
         rw [← ee]
         unfold S1_X0_filmOneAgain
         have z : GW 0 I (u2 I 105 1 (I 105 1 - (T_X0_filmOneAgain_j84_2 I J i s).toInt32)) := GW.eq (u2_n _ _ (by omega)) (u2_n _ _ (by omega))
         have t := z.tr (fagain_g (a0 := nI i) (J := FJ_X0_againWorth (nI i) I s))
         rw [Nat.zero_add] at t
         exact t)
      | exact nomatch h)
  unfold FI_X0_filmOneAgain F_X0_filmOneAgain_l2_2
  cases e : itE (B_X0_filmOneAgain_l2_2 I J) (I 8 1).toNatClampNeg 0 J with
  | inl u => exact GW.rf _
  | inr r => exact q.2 _ r e
theorem day_g {a0 : Int32} {I : SI} {J : SJ} {i2 : Nat} {s2 : SI × SJ} : GW 640001 s2.1 (B_X0_pass_l2 a0 I J i2 s2).1 := by
  have s1 : GW 0 s2.1 (S1_X0_pass a0 I J i2 s2) := by
    unfold S1_X0_pass
    exact GW.eq ((u2_n _ _ (by omega)).trans (u2_n _ _ (by omega))) ((u2_n _ _ (by omega)).trans (u2_n _ _ (by omega)))
  have L := gw_itW (f := B_X0_pass_w60 a0 I J i2 s2) (fun (s : Int32 × SI × SJ) => s.2.1) (fun (r : Int32 × SI × SJ) => r.2.1) 800 (fun s s' e => by
    unfold B_X0_pass_w60 at e
    repeat' split at e
    all_goals first
      | (have ee := Sum.inl.inj e
         rw [← ee]
         first
           | exact GW.rf _
           | exact film_g)
      | exact nomatch e) (fun s r e => by
    unfold B_X0_pass_w60 at e
    repeat' split at e
    all_goals first
      | (have ee := Sum.inr.inj e
         rw [← ee]
         exact GW.rf _)
      | exact nomatch e) 800 (0, S1_X0_pass a0 I J i2 s2, FJ_X0_isAway s2.1 s2.2) (0, S1_X0_pass a0 I J i2 s2, FJ_X0_isAway s2.1 s2.2) (GW.rf _)
  have sB : GW (800 * 800) (S1_X0_pass a0 I J i2 s2) (S2_X0_pass a0 I J i2 s2) := L
  have M := gw_itW (f := B_X0_pass_w128 a0 I J i2 s2) (fun (s : Int32 × SI × SJ) => s.2.1) (fun (r : Int32 × SI × SJ) => r.2.1) 0 (fun s s' e => by
    unfold B_X0_pass_w128 at e
    repeat' split at e
    all_goals first
      | (have ee := Sum.inl.inj e
         rw [← ee]
         first
           | exact GW.rf _
           | exact give_g)
      | exact nomatch e) (fun s r e => by
    unfold B_X0_pass_w128 at e
    repeat' split at e
    all_goals first
      | (have ee := Sum.inr.inj e
         rw [← ee]
         exact GW.rf _)
      | exact nomatch e) 800 (0, S2_X0_pass a0 I J i2 s2, S3_X0_pass a0 I J i2 s2) (0, S2_X0_pass a0 I J i2 s2, S3_X0_pass a0 I J i2 s2) (GW.rf _)
  have sD : GW (800 * 0) (S2_X0_pass a0 I J i2 s2) (S4_X0_pass a0 I J i2 s2) := M
  have sE : GW 640000 s2.1 (S4_X0_pass a0 I J i2 s2) := ((s1.tr sB).tr sD).le (by decide)
  have sF : GW 640001 s2.1 (T_X0_pass_j170 a0 I J i2 s2).1 := by
    unfold T_X0_pass_j170
    split
    · exact sE.le (by decide)
    · exact sE.tr one_g
  show GW 640001 s2.1 (S6_X0_pass a0 I J i2 s2)
  unfold S6_X0_pass
  exact sF.o (u2_n _ _ (by omega)) (u2_n _ _ (by omega))
theorem days_g {a0 : Int32} {I : SI} {J : SJ} {s0 : SI × SJ} : ∀ n, GW (n * 640001) s0.1 (itN (B_X0_pass_l2 a0 I J) n s0).1 := by
  intro n
  induction n with
  | zero => rw [itN_0]; exact GW.rf _
  | succ n ih =>
    rw [itN_s, Nat.succ_mul]
    exact ih.tr day_g
/-- twenty days from now: what comes of them, counted -/
theorem pass20_g {A : SI} {JA : SJ} : GW 12800020 A (FI_X0_pass 20 A JA) := by
  unfold FI_X0_pass F_X0_pass_l2
  rw [show (20 : Int32).toNatClampNeg = 20 from by decide]
  exact (days_g (s0 := (A, JA)) 20).le (by decide)
