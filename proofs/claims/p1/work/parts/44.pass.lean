/-! days pass where nothing is told: the class's days, the model's -/
theorem itN_ind {σ : Type} {f : Nat → σ → σ} {N : Nat} {s0 : σ} (P : Nat → σ → Prop) (h0 : P 0 s0) (hs : ∀ i s, i < N → P i s → P (i + 1) (f i s)) : ∀ n, n ≤ N → P n (itN f n s0) := by
  intro n
  induction n with
  | zero => intro _; rw [itN_0]; exact h0
  | succ n ih => intro h; rw [itN_s]; exact hs n _ h (ih (Nat.le_of_succ_le h))
theorem itW_x {σ ρ : Type} {f : σ → σ ⊕ ρ} {s : σ} {r : ρ} (h : f s = .inr r) : itW f 800 s = some r := itW_r f 799 s r h
theorem wN_out {σ ρ : Type} {f : σ → σ ⊕ ρ} {n : Nat} {s0 s : σ} {r : ρ} (h0 : f s0 = .inr r) (h : wN f n s0 = some s) : s = s0 := by
  have key : ∀ n s, wN f n s0 = some s → s = s0 := by
    intro n
    induction n with
    | zero => intro s h; rw [wN_0] at h; exact (Option.some.inj h).symm
    | succ n ih =>
      intro s h
      rw [wN] at h
      cases hq : wN f n s0 with
      | none => exact absurd h (by simp [hq])
      | some s' =>
        have e := ih s' hq
        exact absurd h (by simp [hq, e, h0])
  exact key n s h
theorem le00 {x : Int32} (h : x = 0) : x ≤ 0 := by rw [h]; decide
theorem tz0 {x : Int32} (h : x = 0) : x.toNatClampNeg = 0 := by rw [h]; rfl
theorem nlt0 {n : Nat} {P : Prop} (h : n < 0) : P := absurd h (Nat.not_lt_zero _)
/-- the class where nothing is told -/
def EC (I : SI) : Prop := I 3 1 = 0 ∧ I 8 1 = 0 ∧ I 13 1 = 0 ∧ I 18 1 = 0 ∧ I 23 1 = 0 ∧ I 2 7 = 0
def DC (a b : Nat) : Prop := a = 105 ∧ (b = 0 ∨ b = 4 ∨ b = 5)
theorem EC.of {I I' : SI} (h : EC I) (hf : ∀ a b, ¬ DC a b → I' a b = I a b) : EC I' := ⟨(hf 3 1 (by simp [DC])).trans h.1, (hf 8 1 (by simp [DC])).trans h.2.1, (hf 13 1 (by simp [DC])).trans h.2.2.1, (hf 18 1 (by simp [DC])).trans h.2.2.2.1, (hf 23 1 (by simp [DC])).trans h.2.2.2.2.1, (hf 2 7 (by simp [DC])).trans h.2.2.2.2.2⟩
theorem cold_0 {k : Nat} {I : SI} {J : SJ} {d : Int32} (h : I (k + 21) 1 = 0) : F_X9_isCold k d I J = 0 := by
  unfold F_X9_isCold F_X9_isCold_l2
  rw [tz0 h, itE_0]
theorem away_0 {I : SI} {J : SJ} (h : EC I) : FJ_X0_isAway I J = J := by
  have hc : F_X9_isCold 2 (I 105 0) I J = 0 := cold_0 h.2.2.2.2.1
  have hi : I 2 7 = 0 := h.2.2.2.2.2
  unfold FJ_X0_isAway
  by_cases m2 : I 104 2 = 2 <;> by_cases m3 : I 104 2 = 3 <;> by_cases m0 : I 104 2 = 0 <;> simp [m2, m3, m0, hc, hi]
theorem pw60 {a0 : Int32} {I I' : SI} {J J' : SJ} {i : Nat} {s : SI × SJ} (h : I' 8 1 = 0) : B_X0_pass_w60 a0 I J i s (0, I', J') = .inr (0, I', J') := by
  unfold B_X0_pass_w60
  exact if_pos (le00 h)
theorem pw128 {a0 : Int32} {I I' : SI} {J J' : SJ} {i : Nat} {s : SI × SJ} (h : I' 13 1 = 0) : B_X0_pass_w128 a0 I J i s (0, I', J') = .inr (0, I', J') := by
  unfold B_X0_pass_w128
  exact if_pos (le00 h)
theorem fa_0 {I : SI} {J : SJ} (h : I 8 1 = 0) : FI_X0_filmOneAgain I J = I ∧ FJ_X0_filmOneAgain I J = J ∧ H_X0_filmOneAgain I J := by
  have e : F_X0_filmOneAgain_l2_2 I J J = .inl J := by unfold F_X0_filmOneAgain_l2_2; rw [tz0 h, itE_0]
  refine ⟨?_, ?_, ?_⟩
  · unfold FI_X0_filmOneAgain; rw [e]
  · unfold FJ_X0_filmOneAgain; rw [e]
  · unfold H_X0_filmOneAgain; rw [tz0 h]; exact ⟨fun _ _ h => nlt0 h, fun _ _ h => nlt0 h⟩
theorem ps1 {a0 : Int32} {I : SI} {J : SJ} {i : Nat} {s : SI × SJ} {a b : Nat} (h : ¬ (a = 105 ∧ (b = 4 ∨ b = 5))) : S1_X0_pass a0 I J i s a b = s.1 a b := by
  unfold S1_X0_pass
  rw [u2_n _ _ (fun q => h ⟨q.1, Or.inr q.2⟩), u2_n _ _ (fun q => h ⟨q.1, Or.inl q.2⟩)]
theorem pass_b {a0 : Int32} {I : SI} {J : SJ} {i : Nat} {s : SI × SJ} (h8 : s.1 8 1 = 0) (h13 : s.1 13 1 = 0) : S2_X0_pass a0 I J i s = S1_X0_pass a0 I J i s ∧ S3_X0_pass a0 I J i s = FJ_X0_isAway s.1 s.2 ∧ S4_X0_pass a0 I J i s = S1_X0_pass a0 I J i s ∧ S5_X0_pass a0 I J i s = FJ_X0_isAway s.1 s.2 ∧ T_X0_pass_j170 a0 I J i s = (S1_X0_pass a0 I J i s, FJ_X0_isAway s.1 s.2) := by
  have q8 : S1_X0_pass a0 I J i s 8 1 = 0 := (ps1 (by omega)).trans h8
  have q13 : S1_X0_pass a0 I J i s 13 1 = 0 := (ps1 (by omega)).trans h13
  have e2 : S2_X0_pass a0 I J i s = S1_X0_pass a0 I J i s := by unfold S2_X0_pass F_X0_pass_w60; rw [itW_x (pw60 q8)]; rfl
  have e3 : S3_X0_pass a0 I J i s = FJ_X0_isAway s.1 s.2 := by unfold S3_X0_pass F_X0_pass_w60; rw [itW_x (pw60 q8)]; rfl
  have e4 : S4_X0_pass a0 I J i s = S1_X0_pass a0 I J i s := by unfold S4_X0_pass F_X0_pass_w128; rw [e2, e3, itW_x (pw128 q13)]; rfl
  have e5 : S5_X0_pass a0 I J i s = FJ_X0_isAway s.1 s.2 := by unfold S5_X0_pass F_X0_pass_w128; rw [e2, e3, itW_x (pw128 q13)]; rfl
  refine ⟨e2, e3, e4, e5, ?_⟩
  unfold T_X0_pass_j170 S7_X0_pass S8_X0_pass
  rw [e4, e5, (fa_0 q8).1, (fa_0 q8).2.1]
  exact ite_self _
theorem pass_E {n : Int32} {I : SI} {J : SJ} (hE : EC I) : (∀ a b, ¬ DC a b → FI_X0_pass n I J a b = I a b) ∧ FJ_X0_pass n I J = J ∧ FI_X0_pass n I J 105 0 = I 105 0 + nI n.toNatClampNeg ∧ H_X0_pass n I J := by
  have key : ∀ k, k ≤ n.toNatClampNeg → (∀ a b, ¬ DC a b → (itN (B_X0_pass_l2 n I J) k (I, J)).1 a b = I a b) ∧ (itN (B_X0_pass_l2 n I J) k (I, J)).2 = J ∧ (itN (B_X0_pass_l2 n I J) k (I, J)).1 105 0 = I 105 0 + nI k := by
    refine itN_ind (fun (k : Nat) (s : SI × SJ) => (∀ a b, ¬ DC a b → s.1 a b = I a b) ∧ s.2 = J ∧ s.1 105 0 = I 105 0 + nI k) ⟨fun _ _ _ => rfl, rfl, ?_⟩ ?_
    · rw [nI_0, Int32.add_zero]
    · intro i s _ h
      obtain ⟨h1, h2, h3⟩ := h
      have hE' : EC s.1 := hE.of h1
      have pb := pass_b (a0 := n) (I := I) (J := J) (i := i) hE'.2.1 hE'.2.2.1
      refine ⟨fun a b hd => ?_, ?_, ?_⟩
      · show S6_X0_pass n I J i s a b = _
        unfold S6_X0_pass
        rw [pb.2.2.2.2, u2_n _ _ (fun q => hd ⟨q.1, Or.inl q.2⟩)]
        exact (ps1 (fun q => hd ⟨q.1, Or.inr q.2⟩)).trans (h1 a b hd)
      · show (T_X0_pass_j170 n I J i s).2 = J
        rw [pb.2.2.2.2]
        exact (away_0 hE').trans h2
      · show S6_X0_pass n I J i s 105 0 = _
        unfold S6_X0_pass
        rw [pb.2.2.2.2, u2_s]
        show S1_X0_pass n I J i s 105 0 + 1 = _
        rw [ps1 (a := 105) (b := 0) (by omega), h3, Int32.add_assoc, nI_1]
  have k1 := key _ (Nat.le_refl _)
  refine ⟨k1.1, k1.2.1, k1.2.2, ?_⟩
  unfold H_X0_pass
  have inv : ∀ (i : Nat) (s : SI × SJ), i < n.toNatClampNeg → s = itN (B_X0_pass_l2 n I J) i (I, J) → EC s.1 := fun i s hi hs => by rw [hs]; exact hE.of (key i (Nat.le_of_lt hi)).1
  refine ⟨fun i s hi hs => ?_, fun i s hi hs => ?_, fun i s hi hs _ => ?_, fun i s hi hs m t hw hn => ?_, fun i s hi hs m t hw hn => ?_⟩
  · have q8 : S1_X0_pass n I J i s 8 1 = 0 := (ps1 (by omega)).trans (inv i s hi hs).2.1
    rw [itW_x (pw60 q8)]; rfl
  · have pb := pass_b (a0 := n) (I := I) (J := J) (i := i) (inv i s hi hs).2.1 (inv i s hi hs).2.2.1
    have q13 : S1_X0_pass n I J i s 13 1 = 0 := (ps1 (by omega)).trans (inv i s hi hs).2.2.1
    rw [pb.1, itW_x (pw128 q13)]; rfl
  · have pb := pass_b (a0 := n) (I := I) (J := J) (i := i) (inv i s hi hs).2.1 (inv i s hi hs).2.2.1
    rw [pb.2.2.1]
    exact (fa_0 ((ps1 (by omega)).trans (inv i s hi hs).2.1)).2.2
  · have pb := pass_b (a0 := n) (I := I) (J := J) (i := i) (inv i s hi hs).2.1 (inv i s hi hs).2.2.1
    rw [pb.1] at hw
    have q13 : S1_X0_pass n I J i s 13 1 = 0 := (ps1 (by omega)).trans (inv i s hi hs).2.2.1
    rw [wN_out (pw128 q13) hw] at hn
    exact absurd (le00 q13) hn
  · have q8 : S1_X0_pass n I J i s 8 1 = 0 := (ps1 (by omega)).trans (inv i s hi hs).2.1
    rw [wN_out (pw60 q8) hw] at hn
    exact absurd (le00 q8) hn
/-- the model where nothing is told -/
def EM (I : SI) : Prop := I 132 0 = 0 ∧ I 132 1 = 0 ∧ I 132 3 = 0 ∧ I 132 4 = 0 ∧ I 132 5 = 0 ∧ I 132 6 = 0
def DM (f : Int32) (a b : Nat) : Prop := (a = 154 ∨ a = 158 ∨ a = 159) ∧ b = f.toNatClampNeg
theorem EM.of {I I' : SI} (h : EM I) (hf : ∀ b, I' 132 b = I 132 b) : EM I' := ⟨(hf _).trans h.1, (hf _).trans h.2.1, (hf _).trans h.2.2.1, (hf _).trans h.2.2.2.1, (hf _).trans h.2.2.2.2.1, (hf _).trans h.2.2.2.2.2⟩
theorem EM.u {I : SI} {a b : Nat} {v : Int32} (h : EM I) (ha : a ≠ 132) : EM (u2 I a b v) := h.of (fun c => u2_n _ _ (fun q => ha q.1.symm))
theorem coldM {I : SI} {J : SJ} {d : Int32} (h : I 132 5 = 0) : F_X12_isCold d I J = 0 ∧ H_X12_isCold d I J := by
  refine ⟨?_, ?_⟩
  · unfold F_X12_isCold F_X12_isCold_l2
    rw [tz0 h, itE_0]
  · unfold H_X12_isCold
    rw [tz0 h]
    exact ⟨fun _ _ h => nlt0 h, fun _ _ h => nlt0 h⟩
theorem awayM {f b : Int32} {I : SI} {J : SJ} (h : EM I) (hf : inR f 23) : FI_X12_isAway f b I J = I ∧ H_X12_isAway f b I J := by
  have hc := coldM (J := J) (d := I 154 f.toNatClampNeg) h.2.2.2.2.1
  have hi : I 132 6 = 0 := h.2.2.2.2.2
  refine ⟨?_, ?_⟩
  · unfold FI_X12_isAway
    by_cases g : I 130 59 = 0 <;> by_cases t : I 130 55 = 1 <;> by_cases e : b = 0 <;> simp [g, t, e, hc.1, hi]
  · unfold H_X12_isAway
    exact ⟨fun _ _ => hf, fun _ _ => hc.2, fun _ _ _ _ _ _ => hf⟩
theorem fam_0 {f : Int32} {I : SI} {J : SJ} (h : I 132 1 = 0) : FI_X12_filmsAgain f I J = I ∧ FJ_X12_filmsAgain f I J = J ∧ H_X12_filmsAgain f I J := by
  have hx : B_X12_filmsAgain_w2 f I J (0, I, J) = .inr (.inl (0, I, J)) := by
    unfold B_X12_filmsAgain_w2
    exact if_pos (le00 h)
  have e : F_X12_filmsAgain_w2 f I J (0, I, J) = .inl (0, I, J) := by unfold F_X12_filmsAgain_w2; rw [itW_x hx]; rfl
  have hv : ∀ (n : Nat) (s : Int32 × SI × SJ), wN (B_X12_filmsAgain_w2 f I J) n (0, I, J) = some s → ¬ ((s.2.1 132 1) ≤ s.1) → False := by
    intro n s hw hn
    rw [wN_out hx hw] at hn
    exact hn (le00 h)
  refine ⟨?_, ?_, ?_⟩
  · unfold FI_X12_filmsAgain; rw [e]
  · unfold FJ_X12_filmsAgain; rw [e]
  · unfold H_X12_filmsAgain
    refine ⟨by rw [itW_x hx]; rfl, ?_⟩
    and_intros <;> exact fun n s h q => (hv n s h q).elim
theorem passM {f b : Int32} {I : SI} {J : SJ} (hE : EM I) (hf : inR f 23) : (∀ a c, ¬ DM f a c → FI_X12_passes f b I J a c = I a c) ∧ FJ_X12_passes f b I J = J ∧ FI_X12_passes f b I J 154 f.toNatClampNeg = I 154 f.toNatClampNeg + 1 ∧ H_X12_passes f b I J := by
  have e0 := awayM (b := b) (J := J) hE hf
  have s2 : ∀ a c, ¬ ((a = 158 ∨ a = 159) ∧ c = f.toNatClampNeg) → S2_X12_passes f b I J a c = I a c := by
    intro a c h
    unfold S2_X12_passes S1_X12_passes
    rw [u2_n _ _ (fun q => h ⟨Or.inr q.1, q.2⟩), u2_n _ _ (fun q => h ⟨Or.inl q.1, q.2⟩), e0.1]
  have q1 : S2_X12_passes f b I J 132 1 = 0 := (s2 _ _ (by omega)).trans hE.2.1
  have q3 : S2_X12_passes f b I J 132 3 = 0 := (s2 _ _ (by omega)).trans hE.2.2.1
  have x50 : B_X12_passes_w50 f b I J (0, S2_X12_passes f b I J, J) = .inr (0, S2_X12_passes f b I J, J) := by
    unfold B_X12_passes_w50
    exact if_pos (le00 q1)
  have x109 : B_X12_passes_w109 f b I J (0, S2_X12_passes f b I J, J) = .inr (0, S2_X12_passes f b I J, J) := by
    unfold B_X12_passes_w109
    exact if_pos (le00 q3)
  have e50 : F_X12_passes_w50 f b I J (0, S2_X12_passes f b I J, J) = (0, S2_X12_passes f b I J, J) := by unfold F_X12_passes_w50; rw [itW_x x50]; rfl
  have e109 : F_X12_passes_w109 f b I J (0, S2_X12_passes f b I J, J) = (0, S2_X12_passes f b I J, J) := by unfold F_X12_passes_w109; rw [itW_x x109]; rfl
  have e3 : S3_X12_passes f b I J = S2_X12_passes f b I J := by simp only [S3_X12_passes, e50, e109]
  have e4 : S4_X12_passes f b I J = J := by simp only [S4_X12_passes, e50, e109]
  have eT : T_X12_passes_j150 f b I J = (S2_X12_passes f b I J, J) := by
    unfold T_X12_passes_j150 S7_X12_passes S8_X12_passes
    rw [e3, e4, (fam_0 q1).1, (fam_0 q1).2.1]
    exact ite_self _
  refine ⟨fun a c h => ?_, ?_, ?_, ?_⟩
  · unfold FI_X12_passes S6_X12_passes
    rw [eT, u2_n _ _ (fun q => h ⟨Or.inl q.1, q.2⟩)]
    exact s2 a c (fun q => h ⟨Or.inr q.1, q.2⟩)
  · unfold FJ_X12_passes
    rw [eT]
  · unfold FI_X12_passes S6_X12_passes
    rw [eT, u2_s]
    show S2_X12_passes f b I J 154 f.toNatClampNeg + 1 = _
    rw [s2 154 f.toNatClampNeg (by omega)]
  · unfold H_X12_passes
    simp only [e50]
    refine ⟨e0.2, hf, by rw [itW_x x50]; rfl, by rw [itW_x x109]; rfl, fun _ => by rw [e3, e4]; exact (fam_0 q1).2.2, fun n s hw hn => ?_, fun n s hw hn => ?_, fun n s hw hn => ?_, fun n s hw hn => ?_, fun n s hw hn => ?_, fun _ => hf⟩
    · rw [wN_out x109 hw] at hn
      exact absurd (le00 q3) hn
    · rw [wN_out x50 hw] at hn
      exact absurd (le00 q1) hn
    · rw [wN_out x50 hw] at hn
      exact absurd (le00 q1) hn
    · rw [wN_out x50 hw] at hn
      exact absurd (le00 q1) hn
    · rw [wN_out x50 hw] at hn
      exact absurd (le00 q1) hn
theorem dm132 {f : Int32} {b : Nat} : ¬ DM f 132 b := fun q => by have := q.1; omega
theorem loopM {f b : Int32} {g : Nat → SI × SJ → SI × SJ} {I : SI} {J : SJ} (hg : ∀ i s, g i s = (FI_X12_passes f b s.1 s.2, FJ_X12_passes f b s.1 s.2)) (hE : EM I) (hf : inR f 23) (n : Nat) : (∀ a c, ¬ DM f a c → (itN g n (I, J)).1 a c = I a c) ∧ (itN g n (I, J)).2 = J ∧ (itN g n (I, J)).1 154 f.toNatClampNeg = I 154 f.toNatClampNeg + nI n := by
  refine itN_ind (N := n) (fun (k : Nat) (s : SI × SJ) => (∀ a c, ¬ DM f a c → s.1 a c = I a c) ∧ s.2 = J ∧ s.1 154 f.toNatClampNeg = I 154 f.toNatClampNeg + nI k) ⟨fun _ _ _ => rfl, rfl, ?_⟩ ?_ n (Nat.le_refl _)
  · rw [nI_0, Int32.add_zero]
  · intro i s _ h
    have hE' : EM s.1 := hE.of (fun c => h.1 132 c dm132)
    have p := passM (b := b) (J := s.2) hE' hf
    rw [hg]
    exact ⟨fun a c hd => (p.1 a c hd).trans (h.1 a c hd), p.2.1.trans h.2.1, by show FI_X12_passes f b s.1 s.2 154 f.toNatClampNeg = _; rw [p.2.2.1, h.2.2, Int32.add_assoc, nI_1]⟩
theorem loopH {f b : Int32} {g : Nat → SI × SJ → SI × SJ} {I : SI} {J : SJ} (hg : ∀ i s, g i s = (FI_X12_passes f b s.1 s.2, FJ_X12_passes f b s.1 s.2)) (hE : EM I) (hf : inR f 23) {n : Nat} {s : SI × SJ} (hs : s = itN g n (I, J)) : H_X12_passes f b s.1 s.2 := by
  have p := loopM (J := J) hg hE hf n
  rw [hs]
  exact (passM (hE.of (fun c => p.1 132 c dm132)) hf).2.2.2
theorem goesM {n : Int32} {I : SI} {J : SJ} (hE : EM I) : (∀ a c, ¬ DM 1 a c → FI_X12_goesOn n I J a c = I a c) ∧ FJ_X12_goesOn n I J = J ∧ H_X12_goesOn n I J := by
  have p := loopM (f := 1) (b := 0) (g := B_X12_goesOn_l2 n I J) (J := J) (fun _ _ => rfl) hE ⟨rfl, by decide⟩ n.toNatClampNeg
  refine ⟨p.1, p.2.1, ?_⟩
  unfold H_X12_goesOn
  exact fun i s _ hs => loopH (f := 1) (b := 0) (fun _ _ => rfl) hE ⟨rfl, by decide⟩ hs
/-- what copies does -/
def CP (I s : SI) : Prop := (∀ a b, (a < 154 ∨ 167 < a) → s a b = I a b) ∧ (∀ a, (∀ b, I a b = 0) → ∀ b, s a b = 0)
theorem CP.rf (I : SI) : CP I I := ⟨fun _ _ _ => rfl, fun _ h => h⟩
theorem CP.u {I s : SI} {a x y : Nat} (h : CP I s) (ha : 154 ≤ a ∧ a ≤ 167) : CP I (u2 s a x (s a y)) := by
  refine ⟨fun c b hc => ?_, fun c hc b => ?_⟩
  · rw [u2_n s _ (show ¬ (c = a ∧ b = x) by omega)]
    exact h.1 c b hc
  · by_cases e : c = a ∧ b = x
    · rw [← e.1, ← e.2, u2_s]
      exact h.2 c hc y
    · rw [u2_n _ _ e]
      exact h.2 c hc b
theorem copM (p q : Int32) (I : SI) (J : SJ) : CP I (FI_X12_copies p q I J) := by
  unfold FI_X12_copies S7_X12_copies F_X12_copies_l248 F_X12_copies_l212 S6_X12_copies F_X12_copies_l132 F_X12_copies_l74
  refine itN_inv (P := CP I) ?_ (fun i s _ h => (h.u (by omega)).u (by omega))
  refine itN_inv (P := CP I) ?_ (fun i s _ h => h.u (by omega))
  refine itN_inv (P := CP I) ?_ (fun i s _ h => ((h.u (by omega)).u (by omega)).u (by omega))
  refine itN_inv (P := CP I) ?_ (fun i s _ h => (h.u (by omega)).u (by omega))
  exact ((((((CP.rf I).u (by omega)).u (by omega)).u (by omega)).u (by omega)).u (by omega)).u (by omega)
theorem cop156 (p q : Int32) (I : SI) (J : SJ) : FI_X12_copies p q I J 156 p.toNatClampNeg = I 156 q.toNatClampNeg := by
  unfold FI_X12_copies S7_X12_copies F_X12_copies_l248 F_X12_copies_l212 S6_X12_copies F_X12_copies_l132 F_X12_copies_l74
  refine itN_inv (P := fun (s : SI) => s 156 p.toNatClampNeg = I 156 q.toNatClampNeg) ?_ (fun i s _ h => ?_)
  refine itN_inv (P := fun (s : SI) => s 156 p.toNatClampNeg = I 156 q.toNatClampNeg) ?_ (fun i s _ h => ?_)
  refine itN_inv (P := fun (s : SI) => s 156 p.toNatClampNeg = I 156 q.toNatClampNeg) ?_ (fun i s _ h => ?_)
  refine itN_inv (P := fun (s : SI) => s 156 p.toNatClampNeg = I 156 q.toNatClampNeg) ?_ (fun i s _ h => ?_)
  · unfold S5_X12_copies S4_X12_copies S3_X12_copies S2_X12_copies S1_X12_copies
    simp [u2]
  · unfold B_X12_copies_l74 S15_X12_copies S14_X12_copies
    simp [u2, h]
  · unfold B_X12_copies_l132 S13_X12_copies S12_X12_copies S11_X12_copies
    simp [u2, h]
  · unfold B_X12_copies_l212 S10_X12_copies
    simp [u2, h]
  · unfold B_X12_copies_l248 S9_X12_copies S8_X12_copies
    simp [u2, h]
theorem inR_nI {i len : Nat} (h : i < len) (hl : len < 2 ^ 31) : inR (nI i) len := ⟨by rw [nI_clamp (Nat.lt_trans h hl)], by rw [nI_clamp (Nat.lt_trans h hl)]; exact h⟩
theorem inR_0 {c : Int32} {i len : Nat} (h : i < len) (hl : len < 2 ^ 31) : inR (c * 0 + nI i) len := by rw [Int32.mul_zero, Int32.zero_add]; exact inR_nI h hl
theorem nI_mul (a b : Nat) : nI a * nI b = nI (a * b) := (Int32.ofNat_mul a b).symm
theorem inR_mul {c p i L : Nat} (h : c * p + i < L) (hL : L < 2 ^ 31) : inR (nI c * nI p + nI i) L := by
  rw [nI_mul, nI_add]
  exact inR_nI h hL
theorem m4 {p i L : Nat} (h : 4 * p + i < L) (hL : L < 2 ^ 31) : inR ((4 : Int32) * nI p + nI i) L := by
  rw [show (4 : Int32) = nI 4 from rfl]
  exact inR_mul h hL
theorem m6 {p i L : Nat} (h : 6 * p + i < L) (hL : L < 2 ^ 31) : inR ((6 : Int32) * nI p + nI i) L := by
  rw [show (6 : Int32) = nI 6 from rfl]
  exact inR_mul h hL
theorem m8 {p i L : Nat} (h : 8 * p + i < L) (hL : L < 2 ^ 31) : inR ((8 : Int32) * nI p + nI i) L := by
  rw [show (8 : Int32) = nI 8 from rfl]
  exact inR_mul h hL
theorem m48 {p i L : Nat} (h : 48 * p + i < L) (hL : L < 2 ^ 31) : inR ((48 : Int32) * nI p + nI i) L := by
  rw [show (48 : Int32) = nI 48 from rfl]
  exact inR_mul h hL
theorem cop_in {p q : Nat} (hp : p < 23) (hq : q < 23) (I : SI) (J : SJ) : H_X12_copies (nI p) (nI q) I J := by
  unfold H_X12_copies
  exact ⟨inR_nI hq (by decide), inR_nI hp (by decide), fun i s h _ => m4 (by omega) (by decide), fun i s h _ => m4 (by omega) (by decide), fun i s h _ => m48 (by omega) (by decide), fun i s h _ => m48 (by omega) (by decide), fun i s h _ => m8 (by omega) (by decide), fun i s h _ => m8 (by omega) (by decide), fun i s h _ => m6 (by omega) (by decide), fun i s h _ => m6 (by omega) (by decide)⟩
theorem runsM {n : Int32} {I : SI} {J : SJ} (hE : EM I) : (∀ a b, (a < 154 ∨ 167 < a) → FI_X12_runs n I J a b = I a b) ∧ (∀ a, a ≠ 154 → a ≠ 158 → a ≠ 159 → (∀ b, I a b = 0) → ∀ b, FI_X12_runs n I J a b = 0) ∧ FI_X12_runs n I J 156 1 = I 156 0 ∧ FJ_X12_runs n I J = J ∧ H_X12_runs n I J := by
  have c := copM 1 0 I J
  have hE' : EM (FI_X12_copies 1 0 I J) := hE.of (fun b => c.1 132 b (by omega))
  have g := goesM (n := n) (J := J) hE'
  refine ⟨fun a b h => (g.1 a b (fun q => by have := q.1; omega)).trans (c.1 a b h), fun a h1 h2 h3 hz b => (g.1 a b (fun q => by have := q.1; omega)).trans (c.2 a hz b), (g.1 156 1 (fun q => by have := q.1; omega)).trans (cop156 1 0 I J), g.2.1, ?_⟩
  unfold H_X12_runs
  exact ⟨cop_in (p := 1) (q := 0) (by decide) (by decide) I J, g.2.2⟩
theorem sumM {r l : Nat} {f : Int32} {I : SI} {J : SJ} (h : ∀ b, I r b = 0) : F_X12_sumOf r l f I J = 0 := by
  unfold F_X12_sumOf F_X12_sumOf_l5
  refine itN_inv (P := fun s => s = (0 : Int32)) rfl (fun i s _ hs => ?_)
  unfold B_X12_sumOf_l5
  rw [h, hs, Int32.add_zero]
theorem sumH {r : Nat} {p : Nat} {I : SI} {J : SJ} (hp : p < 23) : H_X12_sumOf r 184 (nI p) I J := by
  unfold H_X12_sumOf
  exact fun i _ h _ => m8 (by omega) (by decide)
theorem clashM {f : Int32} {I : SI} {J : SJ} (h : I 132 1 = 0) : F_X12_clashesAll f I J = 0 ∧ H_X12_clashesAll f I J := by
  refine ⟨?_, ?_⟩
  · unfold F_X12_clashesAll F_X12_clashesAll_l4
    rw [tz0 h, itN_0]
  · unfold H_X12_clashesAll
    rw [tz0 h]
    exact fun _ _ h => nlt0 h
/-- the class's counts where nothing is filmed -/
theorem atF_z {f : Nat → Int32} {len : Nat} {i : Int32} (hl : len < 2 ^ 31) (h : ∀ b, b < len → f b = 0) : atF f len i = 0 := by
  unfold atF
  by_cases h1 : i < 0
  · rw [if_pos h1]
  · rw [if_neg h1]
    by_cases h2 : nI len ≤ i
    · rw [if_pos h2]
    · rw [if_neg h2]
      exact h _ (in_of h1 h2 hl).2
theorem filmed_0 {k : Nat} {I : SI} {J : SJ} (h : ∀ b, b < 8 → I (k + 2) b = 0) : F_X5_filmedCount k I J = 0 := by
  unfold F_X5_filmedCount F_X5_filmedCount_l4
  refine itN_inv (P := fun s => s = (0 : Int32)) rfl (fun i s _ hs => ?_)
  unfold B_X5_filmedCount_l4
  rw [atF_z (len := 8) (by decide) h, hs, Int32.add_zero]
theorem clash_0 {k : Nat} {I : SI} {J : SJ} (h : ∀ b, b < 8 → I (k + 2) b = 0) : F_X5_clashCount k I J = 0 := by
  unfold F_X5_clashCount F_X5_clashCount_l4
  refine itN_inv (P := fun s => s = (0 : Int32)) rfl (fun i s _ hs => ?_)
  unfold B_X5_clashCount_l4
  rw [atF_z (len := 8) (by decide) h, if_pos rfl, hs, Int32.add_zero]
