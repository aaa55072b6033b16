/-! the reference: calls that leave the scenes alone, but for the run's own -/
def QT (a b : Nat) : Prop := (a = 130 ∧ (b = 53 ∨ b = 54 ∨ b = 55 ∨ b = 56 ∨ b = 57 ∨ b = 59)) ∨ (154 ≤ a ∧ a ≤ 167 ∧ ¬ inS 1 a b)
def KQT (B B' : SI) : Prop := ∀ a b, QT a b → B' a b = B a b
theorem KQT.rf (B : SI) : KQT B B := fun _ _ _ => rfl
theorem KQT.tr {B B1 B2 : SI} (h : KQT B B1) (h2 : KQT B1 B2) : KQT B B2 := fun a b z => (h2 a b z).trans (h a b z)
theorem KQT.u {B B1 : SI} {a b : Nat} {v : Int32} (h : KQT B B1) (q : ¬ QT a b) : KQT B (u2 B1 a b v) := fun c d z => (u2_n _ _ (fun y => q (by rw [← y.1, ← y.2]; exact z))).trans (h c d z)
theorem KQT.f {B B1 B2 : SI} (h : KQT B B1) (k : FS 1 B1 B2) : KQT B B2 := h.tr (fun a b z => k a b (fun y => by
  rcases z with z | z
  · unfold inS at y; omega
  · exact z.2.2 y) (fun y => by
  rcases z with z | z
  · omega
  · omega))
theorem Fr38.q {B B1 : SI} (h : Fr38 B B1) : KQT B B1 := fun a b z => h a b (fun y => by
  rcases z with z | z
  · omega
  · omega)
theorem nqt {a b : Nat} (h : a = 130 ∧ ¬ (b = 53 ∨ b = 54 ∨ b = 55 ∨ b = 56 ∨ b = 57 ∨ b = 59) ∨ (a < 154 ∧ a ≠ 130) ∨ 167 < a ∨ inS 1 a b) : ¬ QT a b := by
  intro q
  rcases q with q | ⟨q1, q2, q3⟩
  · rcases h with h | h | h | h
    · omega
    · omega
    · omega
    · unfold inS at h; omega
  · rcases h with h | h | h | h
    · omega
    · omega
    · omega
    · exact q3 h
theorem qu0 {I : SI} : KQT I (u2 I 130 0 0) := (KQT.rf I).u (nqt (by omega))
theorem sm0 {I : SI} {b : Nat} {v : Int32} (h : SM I) : SM (u2 I 130 b v) := h.of (fun a c z => u2_n _ _ (by omega))
theorem goes_38 {a0 : Int32} {I : SI} {J : SJ} : Fr38 I (FI_X12_goes a0 I J) := by
  have wk : ∀ (v : Int32) (X : SI) (Y : SJ), Fr38 I X → Fr38 I (FI_X12_works v X Y) := fun v X Y h => by
    unfold FI_X12_works
    simp only [ite_self]
    repeat' split
    all_goals first
      | exact h
      | exact fun a b z => (u2_n _ _ z).trans (h a b z)
  have L := itW_P (f := B_X12_goes_w12 a0 I J) (fun (s : Int32 × SI × SJ) => Fr38 I s.2.1) (fun r => Fr38 I (match r with | .inl z => z.2.1 | .inr z => z.2.1)) (fun s s' h e => by
    unfold B_X12_goes_w12 at e
    repeat' split at e
    all_goals cases e
    all_goals first
      | exact wk _ _ _ h
      | exact fun a b z => (u2_n _ _ z).trans (h a b z)) (fun s r h e => by
    unfold B_X12_goes_w12 at e
    repeat' split at e
    all_goals cases e
    all_goals first
      | exact h
      | exact wk _ _ _ h) 800 (((u2 I 130 38 0) 148 a0.toNatClampNeg), (u2 I 130 38 0), J) (fun a b z => u2_n _ _ z) (.inl (((u2 I 130 38 0) 148 a0.toNatClampNeg), (u2 I 130 38 0), J)) (fun a b z => u2_n _ _ z)
  unfold FI_X12_goes F_X12_goes_w12
  exact L
theorem qt_mark {a0 a1 : Int32} {I : SI} {J : SJ} : KQT I (FI_X12_mark a0 a1 I J) := by
  unfold FI_X12_mark
  repeat' split
  all_goals exact (KQT.rf I).u (nqt (by omega))
theorem qt_shot {a0 a1 : Int32} {I : SI} {J : SJ} : KQT I (FI_X12_shot a0 a1 I J) := by
  unfold FI_X12_shot
  simp only [ite_self]
  exact qu0
theorem qt_way {a0 a1 : Int32} {I : SI} {J : SJ} : KQT I (FI_X12_way a0 a1 I J) := by
  unfold FI_X12_way
  simp only [ite_self]
  exact qu0
theorem qt_party {a0 a1 : Int32} {I : SI} {J : SJ} : KQT I (FI_X12_party a0 a1 I J) := by
  unfold FI_X12_party
  simp only [ite_self]
  exact qu0
theorem qt_clerk {a0 : Int32} {I : SI} {J : SJ} : KQT I (FI_X12_clerk a0 I J) := by
  unfold FI_X12_clerk
  simp only [ite_self]
  exact qu0
theorem qt_named {a0 a1 : Int32} {I : SI} {J : SJ} : KQT I (FI_X12_named a0 a1 I J) := by
  unfold FI_X12_named
  simp only [ite_self]
  exact qu0
theorem qt_fault {a0 : Int32} {I : SI} {J : SJ} : KQT I (FI_X12_fault a0 I J) := by
  unfold FI_X12_fault
  simp only [ite_self]
  exact qu0
theorem qt_count {a0 : Int32} {I : SI} {J : SJ} : KQT I (FI_X12_count a0 I J) := by
  unfold FI_X12_count
  simp only [ite_self]
  exact qu0
theorem qt_breaks {I : SI} {J : SJ} : KQT I (FI_X12_breaks I J) := qu0
theorem qt_noted {I : SI} {J : SJ} : KQT I (FI_X12_noted I J) := qu0
theorem qt_run {I : SI} {J : SJ} : KQT I (FI_X12_run I J) := qu0
theorem qt_believed {I : SI} {J : SJ} : KQT I (FI_X12_believed I J) := qu0
theorem qt_rests {a0 a1 : Int32} {I : SI} {J : SJ} : KQT I (FI_X12_rests a0 a1 I J) := by
  unfold FI_X12_rests
  simp only [ite_self]
  exact qu0
theorem qt_rest {a0 a1 a2 : Int32} {I : SI} {J : SJ} : KQT I (FI_X12_rest a0 a1 a2 I J) := by
  unfold FI_X12_rest
  simp only [ite_self]
  exact qu0
theorem qt_there {a0 a1 : Int32} {I : SI} {J : SJ} : KQT I (FI_X12_there a0 a1 I J) := by
  unfold FI_X12_there
  simp only [ite_self]
  exact qu0
theorem qt_see {a0 a1 a2 : Int32} {I : SI} {J : SJ} : KQT I (FI_X12_see a0 a1 a2 I J) := by
  unfold FI_X12_see
  repeat' split
  all_goals first
    | exact qu0
    | (unfold S4_X12_see S3_X12_see S2_X12_see S1_X12_see
       exact ((((qu0.u (nqt (by omega))).u (nqt (by omega))).u (nqt (by omega))).u (nqt (by omega))).u (nqt (by omega)))
theorem qt_out {a0 : Int32} {I : SI} {J : SJ} : KQT I (FI_X12_out a0 I J) := by
  unfold FI_X12_out
  repeat' split
  all_goals first
    | exact qu0
    | (unfold S1_X12_out
       exact (qu0.u (nqt (by omega))).u (nqt (by omega)))
theorem qt_known {a0 : Int32} {I : SI} {J : SJ} : KQT I (FI_X12_known a0 I J) := by
  unfold FI_X12_known
  repeat' split
  all_goals first
    | exact qu0
    | exact qu0.u (nqt (by omega))
theorem kq_ite {c : Prop} [Decidable c] {I X Y : SI} (h1 : KQT I X) (h2 : KQT I Y) : KQT I (if c then X else Y) := by
  split
  · exact h1
  · exact h2
theorem qt_law {a0 a1 a2 : Int32} {I : SI} {J : SJ} : KQT I (FI_X12_law a0 a1 a2 I J) := by
  have g : ∀ Y : SJ, KQT I (FI_X12_goes a0 (u2 I 130 0 0) Y) := fun Y => qu0.tr goes_38.q
  unfold FI_X12_law S1_X12_law S4_X12_law
  repeat' apply kq_ite
  all_goals first
    | exact qu0
    | exact g _
theorem qt_ahead {a0 a1 : Int32} {I : SI} {J : SJ} (h : SM I) : KQT I (FI_X12_ahead a0 a1 I J) := by
  have g : KQT I (FI_X12_runs a0 (u2 I 130 0 0) J) := qu0.f (runs_S (sm0 h))
  unfold FI_X12_ahead
  simp only [ite_self]
  repeat' split
  all_goals first
    | exact qu0
    | exact g
theorem qt_agrees {I : SI} {J : SJ} (h : SM I) : KQT I (FI_X12_agrees I J) := by
  have c : FS 1 (u2 I 130 0 0) (FI_X12_copies 1 0 (u2 I 130 0 0) J) := copies_S (p := 1) (q := 0) (by decide) (by decide) (by decide)
  have h0 : SM (u2 I 130 0 0) := sm0 h
  have L := itE_inv (f := B_X12_agrees_l13_4 I J) (s0 := (FI_X12_copies 1 0 (u2 I 130 0 0) J, J)) (fun s => FS 1 (u2 I 130 0 0) s.1) (fun r => FS 1 (u2 I 130 0 0) r.2.1) c (fun i s s' k e => by
    have p : FS 1 (u2 I 130 0 0) (FI_X12_passes 1 0 s.1 s.2) := k.tr (passes_S (f := 1) (h0.fr k.m) (by decide))
    unfold B_X12_agrees_l13_4 at e
    repeat' split at e
    all_goals cases e
    all_goals exact p) (fun i s r k e => by
    unfold B_X12_agrees_l13_4 at e
    repeat' split at e
    all_goals cases e
    all_goals exact k)
  unfold FI_X12_agrees
  cases q : F_X12_agrees_l13_4 I J (FI_X12_copies 1 0 (u2 I 130 0 0) J, J) with
  | inl s => exact qu0.f (L.1 _ _ q)
  | inr r => exact qu0.f (L.2 _ _ q)
theorem qt_sayings : ∀ (k t : Nat) (a0 : Int32) (I : SI) (J : SJ), KQT I (RG_sayings k t a0 I J).1 := by
  intro k
  induction k with
  | zero => intro t a0 I J; exact KQT.rf I
  | succ k ih =>
    intro t a0 I J
    show KQT I (FI_X12_sayings (RG_sayings k) a0 I J)
    have z : KQT I (u2 I 130 62 (F_X12_costNow I J)) := (KQT.rf I).u (nqt (by omega))
    unfold FI_X12_sayings
    repeat' split
    · unfold F_X12_sayings_w72
      refine itW_P (f := B_X12_sayings_w72 (RG_sayings k) a0 I J) (fun (s : Int32 × SI) => KQT I s.2) (fun (r : Int32 × SI) => KQT I r.2) (fun s s' h e => ?_) (fun s r h e => ?_) 800 _ z _ z
      · unfold B_X12_sayings_w72 at e
        split at e
        · cases e
        · cases e; exact h.u (nqt (by omega))
      · unfold B_X12_sayings_w72 at e
        split at e
        · cases e; exact h
        · cases e
    · unfold F_X12_sayings_w72_2
      refine itW_P (f := B_X12_sayings_w72_2 (RG_sayings k) a0 I J) (fun (s : Int32 × SI) => KQT I s.2) (fun (r : Int32 × SI) => KQT I r.2) (fun s s' h e => ?_) (fun s r h e => ?_) 800 _ z _ z
      · unfold B_X12_sayings_w72_2 at e
        split at e
        · cases e
        · cases e; exact h.u (nqt (by omega))
      · unfold B_X12_sayings_w72_2 at e
        split at e
        · cases e; exact h
        · cases e
    · exact KQT.rf I
    · unfold F_X12_sayings_w12
      refine itW_P (f := B_X12_sayings_w12 (RG_sayings k) a0 I J) (fun (s : Int32 × SI × SJ) => KQT I s.2.1) (fun (r : Int32 × SI × SJ) => KQT I r.2.1) (fun s s' h e => ?_) (fun s r h e => ?_) 800 _ (KQT.rf I) _ (KQT.rf I)
      · unfold B_X12_sayings_w12 at e
        split at e
        · cases e
        · cases e
          exact (h.u (nqt (by omega))).tr (ih _ _ _ _)
      · unfold B_X12_sayings_w12 at e
        split at e
        · cases e; exact h
        · cases e
theorem qt_least {a0 : Int32} {I : SI} {J : SJ} : KQT I (FI_X12_least a0 I J) := by
  have z : KQT I (u2 (u2 I 130 0 0) 130 62 (-1)) := qu0.u (nqt (by omega))
  unfold FI_X12_least
  simp only [ite_self]
  repeat' split
  all_goals first
    | exact qu0
    | exact z.tr (qt_sayings _ _ _ _ _)
theorem qt_rows {tp : SI} : ∀ (k : Nat) (a0 a1 : Int32) (I : SI) (J : SJ), RW tp I → inR a0 5 → 4 - a0.toNatClampNeg < k → KQT I (RG_rows k 0 a0 a1 I J).1 := by
  intro k
  induction k with
  | zero => intro _ _ _ _ _ _ h; exact absurd h (Nat.not_lt_zero _)
  | succ k ih =>
    intro a0 a1 I J h ha hk
    have L0 := whc (f := B_X12_rows_w69 (RG_rows k) a0 a1 I J) (x0 := FI_X12_copies 1 0 I J) 4 (by decide) (fun x => RW tp x ∧ FS 1 I x) (fun r => RW tp r.2 ∧ FS 1 I r.2) ⟨h.fr (copies_F _ _ _ _), copies_S (p := 1) (q := 0) (by decide) (by decide) (by decide)⟩ (fun e x s' he hP hf => by
      unfold B_X12_rows_w69 at hf
      by_cases c1 : x 130 66 ≤ e
      · rw [if_pos c1] at hf; cases hf
      · rw [if_neg c1] at hf
        cases hf
        have ce := cn_lt (N := 4) (by decide) he hP.1.2 c1
        refine ⟨ce, rfl, hP.1.u rfl (by omega), ?_⟩
        obtain ⟨i, hi, ei⟩ := (hP.1.1.gf1 _ ce.2).n
        unfold S4_X12_rows
        dsimp only
        have ec : ((8 : Int32) + x 171 e.toNatClampNeg).toNatClampNeg = 8 * 1 + i := by
          rw [ei, show (8 : Int32) = nI 8 from rfl, nI_add, nI_clamp (by omega)]
        rw [ec]
        exact hP.2.u (in8 (by omega) hi)) (fun e x r he hP hf => by
      unfold B_X12_rows_w69 at hf
      by_cases c1 : x 130 66 ≤ e
      · rw [if_pos c1] at hf; cases hf; exact hP
      · rw [if_neg c1] at hf; cases hf)
    have f0 : RW tp (F_X12_rows_w69 (RG_rows k) a0 a1 I J (0, FI_X12_copies 1 0 I J)).2 ∧ FS 1 I (F_X12_rows_w69 (RG_rows k) a0 a1 I J (0, FI_X12_copies 1 0 I J)).2 := L0.2.2 _
    have f1 : KQT I (S1_X12_rows (RG_rows k) a0 a1 I J) := by
      unfold S1_X12_rows
      exact (KQT.rf I).f (f0.2.tr (goesOn_S f0.1.1.1))
    have z : KQT I (u2 (S1_X12_rows (RG_rows k) a0 a1 I J) 130 67 (S3_X12_rows (RG_rows k) a0 a1 I J)) := f1.u (nqt (by omega))
    show KQT I (FI_X12_rows (RG_rows k) a0 a1 I J)
    unfold FI_X12_rows
    by_cases c : I 130 66 ≤ a0
    · rw [if_pos c]
      split
      · unfold F_X12_rows_w148
        refine itW_P (f := B_X12_rows_w148 (RG_rows k) a0 a1 I J) (fun (s : Int32 × SI) => KQT I s.2) (fun (r : Int32 × SI) => KQT I r.2) (fun s s' h e => ?_) (fun s r h e => ?_) 800 _ z _ z
        · unfold B_X12_rows_w148 at e
          split at e
          · cases e
          · cases e; exact h.u (nqt (by omega))
        · unfold B_X12_rows_w148 at e
          split at e
          · cases e; exact h
          · cases e
      · split
        · unfold F_X12_rows_w148_2
          refine itW_P (f := B_X12_rows_w148_2 (RG_rows k) a0 a1 I J) (fun (s : Int32 × SI) => KQT I s.2) (fun (r : Int32 × SI) => KQT I r.2) (fun s s' h e => ?_) (fun s r h e => ?_) 800 _ z _ z
          · unfold B_X12_rows_w148_2 at e
            split at e
            · cases e
            · cases e; exact h.u (nqt (by omega))
          · unfold B_X12_rows_w148_2 at e
            split at e
            · cases e; exact h
            · cases e
        · exact f1
    · rw [if_neg c]
      have c4 := cn_lt (N := 4) (by decide) ha h.2 c
      have q1 := cn_s (N := 4) (by decide) c4
      have q2 := c4.2
      have st : ∀ (e : Int32) (x : SI), inR e (4 + 1) → RW tp x → ¬ x 130 66 ≤ e → RW tp (u2 x 171 a0.toNatClampNeg (x 170 e.toNatClampNeg)) := fun e x he hx hn => hx.p (hx.1.gf0 _ (cn_lt (N := 4) (by decide) he hx.2 hn).2)
      have L := whc (f := B_X12_rows_w10 (RG_rows k) a0 a1 I J) (x0 := (I, J)) 4 (by decide) (fun x => RW tp x.1 ∧ KQT I x.1) (fun r => KQT I r.2.1) ⟨h, KQT.rf I⟩ (fun e x s' he hP hf => by
        unfold B_X12_rows_w10 at hf
        by_cases c1 : x.1 130 66 ≤ e
        · rw [if_pos c1] at hf; cases hf
        · rw [if_neg c1] at hf
          have ce := cn_lt (N := 4) (by decide) he hP.1.2 c1
          split at hf
          · cases hf
            exact ⟨ce, rfl, hP⟩
          · cases hf
            have s0 := st e x.1 he hP.1 c1
            refine ⟨ce, rfl, (rows_H k (a0 + 1) _ _ x.2 s0 q1.1 (by omega)).2, ?_⟩
            exact (hP.2.u (nqt (by omega))).tr (ih (a0 + 1) _ _ x.2 s0 q1.1 (by omega))) (fun e x r he hP hf => by
        unfold B_X12_rows_w10 at hf
        by_cases c1 : x.1 130 66 ≤ e
        · rw [if_pos c1] at hf; cases hf; exact hP.2
        · rw [if_neg c1] at hf
          split at hf <;> cases hf)
      exact L.2.2 _
theorem qt_order {a0 : Int32} {I : SI} {J : SJ} (h : MW I I) : KQT I (FI_X12_order a0 I J) := by
  have ow := order_w (a0 := a0) (J := J) h
  have s1 : RW I (S1_X12_order a0 I J) := by
    unfold S1_X12_order F_X12_order_w23
    exact (ow.2.2 _).u rfl (by omega)
  have z : KQT I (S1_X12_order a0 I J) := by
    have z0 : KQT I (u2 (u2 I 130 0 0) 130 66 0) := qu0.u (nqt (by omega))
    have L := itW_P (f := B_X12_order_w23 a0 I J) (fun (s : Int32 × SI) => KQT I s.2) (fun (r : Int32 × SI) => KQT I r.2) (fun s s' h e => by
      unfold B_X12_order_w23 at e
      repeat' split at e
      all_goals cases e
      all_goals first
        | exact h
        | (unfold S2_X12_order; exact (h.u (nqt (by omega))).u (nqt (by omega)))) (fun s r h e => by
      unfold B_X12_order_w23 at e
      repeat' split at e
      all_goals cases e
      all_goals exact h) 800 (0, u2 (u2 I 130 0 0) 130 66 0) z0 (0, u2 (u2 I 130 0 0) 130 66 0) z0
    unfold S1_X12_order F_X12_order_w23
    exact L.u (nqt (by omega))
  have r := qt_rows (tp := I) 6 0 0 (S1_X12_order a0 I J) J s1 ⟨rfl, by decide⟩ (by decide)
  unfold FI_X12_order
  simp only [ite_self]
  repeat' split
  all_goals first
    | exact qu0
    | exact z.tr r
theorem qt_bribe {a0 : Int32} {I : SI} {J : SJ} (h : SM I) : KQT I (FI_X12_bribe a0 I J) := by
  have h0 : SM (u2 I 130 0 0) := sm0 h
  unfold FI_X12_bribe
  by_cases c : F_X12_isParty a0 (u2 I 130 0 0) J = 0
  · rw [if_pos c]; exact qu0
  · rw [if_neg c]
    obtain ⟨q, hq, eq⟩ := (isParty_in h0 c).n
    have step : ∀ (i : Nat) (s : SI × SJ), FS 1 (u2 I 130 0 0) s.1 → FS 1 (u2 I 130 0 0) (FI_X12_goesOn 20 (S1_X12_bribe a0 I J i s) s.2) := fun i s k => by
      have f1 : FS 1 (u2 I 130 0 0) (S1_X12_bribe a0 I J i s) := by
        unfold S1_X12_bribe
        have ec : ((4 : Int32) + a0).toNatClampNeg = 4 * 1 + q := by
          rw [eq, show (4 : Int32) = nI 4 from rfl, nI_add, nI_clamp (by omega)]
        rw [ec]
        exact (k.tr (copies_S (p := 1) (q := 0) (by decide) (by decide) (by decide))).u (in4 (by omega) hq)
      exact f1.tr (goesOn_S (h0.fr f1.m))
    have L := itE_inv (f := B_X12_bribe_l17_4 a0 I J) (s0 := (u2 I 130 0 0, J)) (fun s => FS 1 (u2 I 130 0 0) s.1) (fun r => FS 1 (u2 I 130 0 0) r.2.1) (FS.rf _ _) (fun i s s' hp hf => by
      unfold B_X12_bribe_l17_4 at hf
      split at hf
      · cases hf
      · cases hf; exact step i s hp) (fun i s r hp hf => by
      unfold B_X12_bribe_l17_4 at hf
      split at hf
      · cases hf; exact step i s hp
      · cases hf)
    cases e : F_X12_bribe_l17_4 a0 I J (u2 I 130 0 0, J) with
    | inl s => exact qu0.f (L.1 _ _ e)
    | inr r => exact qu0.f (L.2 _ _ e)
theorem qt_chance {a0 a1 a2 : Int32} {I : SI} {J : SJ} (h : SM I) : KQT I (FI_X12_chance a0 a1 a2 I J) := by
  have h0 : SM (u2 I 130 0 0) := sm0 h
  have L : FS 1 (u2 I 130 0 0) (F_X12_chance_l41 a0 a1 a2 I J (a0, 0, (u2 I 130 0 0), J)).2.2.1 := by
    unfold F_X12_chance_l41
    refine itN_inv (P := fun (s : Int32 × Int32 × SI × SJ) => FS 1 (u2 I 130 0 0) s.2.2.1) (FS.rf _ _) (fun i s _ k => ?_)
    have e0 : FS 1 (u2 I 130 0 0) (u2 (FI_X12_copies 1 0 s.2.2.1 s.2.2.2) 155 1 s.1) := (k.tr (copies_S (p := 1) (q := 0) (by decide) (by decide) (by decide))).u (in1 (by omega))
    have e1 : FS 1 (u2 I 130 0 0) (S1_X12_chance a0 a1 a2 I J i s) := e0.tr (days_S (f := 1) (b := 1) (g := B_X12_chance_l65 a0 a1 a2 I J i s) (J := s.2.2.2) (fun _ _ => rfl) (h0.fr e0.m) (by decide) _)
    unfold B_X12_chance_l41
    split <;> exact e1
  unfold FI_X12_chance
  repeat' split
  all_goals first
    | exact qu0
    | exact qu0.f L
/-- how the days go between two calls -/
def GDF (B : SI) : Prop := B 130 55 = 0 ∧ B 130 56 = -1 ∧ B 130 57 = -1 ∧ B 130 59 = 0
theorem GDF.q {B B' : SI} (h : GDF B) (k : KQT B B') : GDF B' := ⟨(k 130 55 (by unfold QT; omega)).trans h.1, (k 130 56 (by unfold QT; omega)).trans h.2.1, (k 130 57 (by unfold QT; omega)).trans h.2.2.1, (k 130 59 (by unfold QT; omega)).trans h.2.2.2⟩
theorem qt_without {a0 : Int32} {I : SI} {J : SJ} (h : SM I) (g : GDF I) : KQT I (FI_X12_without a0 I J) := by
  have r := runs_S (n := a0) (J := J) (sm0 (b := 59) (v := 1) (sm0 (b := 0) (v := 0) h))
  have k : KQT (u2 (u2 I 130 0 0) 130 59 1) (FI_X12_runs a0 (u2 (u2 I 130 0 0) 130 59 1) J) := (KQT.rf _).f r
  unfold FI_X12_without
  repeat' split
  all_goals first
    | exact qu0
    | (intro a b z
       by_cases y : a = 130 ∧ b = 59
       · rw [y.1, y.2, u2_s]
         exact g.2.2.2.symm
       · rw [u2_n _ _ y, k a b z, u2_n _ _ y]
         exact qu0 a b z)
theorem qt_tried {a0 a1 a2 : Int32} {I : SI} {J : SJ} (h : SM I) (g : GDF I) : KQT I (FI_X12_tried a0 a1 a2 I J) := by
  have r := runs_S (n := a2) (J := J) (sm0 (b := 56) (v := a1) (sm0 (b := 55) (v := a0) (sm0 (b := 0) (v := 0) h)))
  have k : KQT (u2 (u2 (u2 I 130 0 0) 130 55 a0) 130 56 a1) (FI_X12_runs a2 (u2 (u2 (u2 I 130 0 0) 130 55 a0) 130 56 a1) J) := (KQT.rf _).f r
  unfold FI_X12_tried
  repeat' split
  all_goals first
    | exact qu0
    | (intro a b z
       unfold S1_X12_tried
       by_cases y : a = 130 ∧ b = 56
       · rw [y.1, y.2, u2_s]
         exact g.2.1.symm
       · by_cases x : a = 130 ∧ b = 55
         · rw [x.1, x.2, u2_n _ _ (by omega), u2_s]
           exact g.1.symm
         · rw [u2_n _ _ y, u2_n _ _ x, k a b z, u2_n _ _ y, u2_n _ _ x]
           exact qu0 a b z)
theorem qt_fits {a0 : Int32} {I : SI} {J : SJ} (h : SM I) : FS 1 I (FI_X12_fitsStrike a0 I J) := by
  have z : FS 1 I (FI_X12_starts 1 I J) := starts_S (f := 1) (by decide)
  have L := itW_P (f := B_X12_fitsStrike_w7 a0 I J) (fun (s : Int32 × SI × SJ) => FS 1 I s.2.1) (fun r => FS 1 I (match r with | .inl y => y.2.1 | .inr y => y.2.1)) (fun s s' k e => by
    have p : FS 1 I (FI_X12_passes 1 0 s.2.1 s.2.2) := k.tr (passes_S (f := 1) (h.fr k.m) (by decide))
    unfold B_X12_fitsStrike_w7 at e
    repeat' split at e
    all_goals cases e
    all_goals exact p) (fun s r k e => by
    have p : FS 1 I (FI_X12_passes 1 0 s.2.1 s.2.2) := k.tr (passes_S (f := 1) (h.fr k.m) (by decide))
    unfold B_X12_fitsStrike_w7 at e
    repeat' split at e
    all_goals cases e
    all_goals first
      | exact k
      | exact p) 800 (1, (FI_X12_starts 1 I J), J) z (.inl (1, (FI_X12_starts 1 I J), J)) z
  unfold FI_X12_fitsStrike F_X12_fitsStrike_w7
  exact L
theorem qt_struck {a0 : Int32} {I : SI} {J : SJ} (h : SM I) (g : GDF I) : KQT I (FI_X12_struckHow a0 I J) := by
  have w1 : KQT I (F_X12_struckHow_w19 a0 I J (0, u2 I 130 0 0)).2 ∧ SM (F_X12_struckHow_w19 a0 I J (0, u2 I 130 0 0)).2 := by
    unfold F_X12_struckHow_w19
    refine itW_P (f := B_X12_struckHow_w19 a0 I J) (fun (s : Int32 × SI) => KQT I s.2 ∧ SM s.2) (fun (r : Int32 × SI) => KQT I r.2 ∧ SM r.2) (fun s s' k e => ?_) (fun s r k e => ?_) 800 (0, u2 I 130 0 0) ⟨qu0, sm0 (b := 0) (v := 0) h⟩ (0, u2 I 130 0 0) ⟨qu0, sm0 (b := 0) (v := 0) h⟩
    · unfold B_X12_struckHow_w19 at e
      split at e
      · cases e
      · cases e
        exact ⟨k.1.u (nqt (by omega)), k.2.of (fun a c z => u2_n _ _ (by omega))⟩
    · unfold B_X12_struckHow_w19 at e
      split at e
      · cases e; exact k
      · cases e
  have w2 : KQT I (S1_X12_struckHow a0 I J) ∧ SM (S1_X12_struckHow a0 I J) := by
    unfold S1_X12_struckHow F_X12_struckHow_w47
    refine itW_P (f := B_X12_struckHow_w47 a0 I J) (fun (s : Int32 × SI) => KQT I s.2 ∧ SM s.2) (fun (r : Int32 × SI) => KQT I r.2 ∧ SM r.2) (fun s s' k e => ?_) (fun s r k e => ?_) 800 (F_X12_knownMany (F_X12_struckHow_w19 a0 I J (0, u2 I 130 0 0)).2 J - 1, (F_X12_struckHow_w19 a0 I J (0, u2 I 130 0 0)).2) w1 (F_X12_knownMany (F_X12_struckHow_w19 a0 I J (0, u2 I 130 0 0)).2 J - 1, (F_X12_struckHow_w19 a0 I J (0, u2 I 130 0 0)).2) w1
    · unfold B_X12_struckHow_w47 at e
      repeat' split at e
      all_goals first
        | (have ee := Sum.inl.inj e
           rw [← ee]
           first
             | exact k
             | (unfold S8_X12_struckHow; exact ⟨k.1.u (nqt (by omega)), k.2.of (fun a c z => u2_n _ _ (by omega))⟩))
        | exact nomatch e
    · unfold B_X12_struckHow_w47 at e
      repeat' split at e
      all_goals cases e
      all_goals exact k
  have w3 : KQT (u2 (S1_X12_struckHow a0 I J) 130 57 a0) (S3_X12_struckHow a0 I J) ∧ SM (S3_X12_struckHow a0 I J) := by
    unfold S3_X12_struckHow F_X12_struckHow_l144
    refine itN_inv (P := fun (s : Int32 × SI × SJ) => KQT (u2 (S1_X12_struckHow a0 I J) 130 57 a0) s.2.1 ∧ SM s.2.1) ⟨KQT.rf _, sm0 w2.2⟩ (fun i s _ k => ?_)
    have p : KQT (u2 (S1_X12_struckHow a0 I J) 130 57 a0) (S5_X12_struckHow a0 I J i s) ∧ SM (S5_X12_struckHow a0 I J i s) := by
      unfold S5_X12_struckHow
      have fs := qt_fits (a0 := F_X12_struckHow_l90 a0 I J 0) (J := s.2.2) (sm0 (b := 58) (v := (10 : Int32) * nI i) k.2)
      exact ⟨(k.1.u (nqt (by omega))).f fs, (sm0 (b := 58) (v := (10 : Int32) * nI i) k.2).fr fs.m⟩
    unfold B_X12_struckHow_l144
    split
    · exact p
    · exact p
  unfold FI_X12_struckHow
  split
  · exact qu0
  · intro a b z
    by_cases y : a = 130 ∧ b = 57
    · rw [y.1, y.2, u2_s]
      exact g.2.2.1.symm
    · rw [u2_n _ _ y, w3.1 a b z, u2_n _ _ y]
      exact w2.1 a b z
