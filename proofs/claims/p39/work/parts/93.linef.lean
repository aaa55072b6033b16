/-! both: what is told once, laws, a whole line alike: printed by wip/gen/inv/g93.py -/
theorem t72_6 {B : SI} {J : SJ} (v : B 130 29 = 6) : T_X12_line_j72 B J = if tb (B 130 23) 6 then FI_X12_wrong 3 B J else B := by
  unfold T_X12_line_j72 F_X12_isFull
  rw [v, if_neg (show ¬ (6 : Int32) = 0 by decide), if_neg (show ¬ (6 : Int32) = 1 by decide), if_neg (show ¬ (6 : Int32) = 2 by decide), if_neg (show ¬ (6 : Int32) = 3 by decide), if_neg (show ¬ (6 : Int32) = 4 by decide), if_neg (show ¬ (6 : Int32) = 5 by decide), if_pos rfl, if_neg (show ¬ (6 : Int32) < 6 by decide), if_neg (show ¬ (8 : Int32) < 6 by decide)]
  rfl
theorem ill_R {n : Nat} {A B : SI} {J J' J2 : SJ} (s : Si n A B) (c0 : A 41 1 = 0) (d : DT A B) (v : B 130 29 = 6) : LM n A B (S1_X4_line A J) (if T_X12_line_j72 B J' 130 30 = 0 then (T_X12_line_j492 B J').1 else T_X12_line_j72 B J') J J2 := by
  have cB : B 130 30 = 0 := s.1.symm.trans c0
  have t72 := t72_6 (J := J') v
  rcases d.2.1.1 with ⟨h0, h1, h2⟩ | ⟨h0, h1, h2⟩
  · rw [if_neg h0] at t72
    rw [t72, if_pos cB, t492_6 v]
    have s1 : S1_X12_line B J' = u2 B 130 23 (B 130 23 ||| ((1 : Int32) <<< (nI 6 &&& 31))) := by unfold S1_X12_line; rw [t72, v]; rfl
    have q1 : Si n A (S1_X12_line B J') := by rw [s1]; exact s.u (by omega)
    have cS : S1_X12_line B J' 130 30 = 0 := q1.1.symm.trans c0
    have o1 := (op_step (J := J) (J' := J') q1).1
    unfold FI_X12_goOn at o1
    rw [if_pos cS] at o1
    have o2 := op_num (a0 := 0) (a1 := 100) (J := J) (J' := J') o1.1 (by decide) (by decide)
    have eL : S1_X4_line A J = u2 (FI_X4_number 0 100 (FI_X8_step A J) J) 42 7 (F_X4_number 0 100 (FI_X8_step A J) J) := by
      unfold S1_X4_line FI_X4_onlyOnce F_X4_onlyOnce
      rw [h1, if_pos (show (-1 : Int32) < 0 by decide), if_pos (show (-1 : Int32) < 0 by decide)]
    have eT : S26_X12_line B J' = u2 (FI_X12_numeral 0 100 (FI_X12_token (S1_X12_line B J') J') J') 132 16 (F_X12_numeral 0 100 (FI_X12_token (S1_X12_line B J') J') J') := by
      unfold S26_X12_line
      exact rd_v (w := 6) (by omega)
    rw [eL, eT]
    have o12 := o1.tr o2.1
    have kt0 : KTM B (S1_X12_line B J') := by rw [s1]; exact KTM.u (fun _ _ _ => rfl) (by unfold mT; omega)
    refine LM.of ((o12.1.u (by omega)).v (by omega)) (fun q => ?_) ((kt0.tr o12.2.2.1.kt).u (by unfold mT; omega))
    have q2 : FI_X4_number 0 100 (FI_X8_step A J) J 41 1 = 0 := (u2_n _ _ (by omega)).symm.trans q
    have w2 := o2.2 q2
    have gA : ∀ a b, ¬ a = 81 → ¬ (a = 41 ∧ (b = 1 ∨ b = 2)) → ¬ (a = 42 ∧ b = 7) → u2 (FI_X4_number 0 100 (FI_X8_step A J) J) 42 7 (F_X4_number 0 100 (FI_X8_step A J) J) a b = A a b := fun a b z1 z2 z3 => (u2_n _ _ z3).trans (o12.2.1 a b z1 z2)
    have gB : ∀ a b, ¬ (a = 130 ∧ (b = 23 ∨ (26 ≤ b ∧ b ≤ 31))) → ¬ (a = 132 ∧ b = 16) → u2 (FI_X12_numeral 0 100 (FI_X12_token (S1_X12_line B J') J') J') 132 16 (F_X12_numeral 0 100 (FI_X12_token (S1_X12_line B J') J') J') a b = B a b := fun a b z1 z2 => by
      rw [u2_n _ _ z2, o12.2.2.1 a b (by omega), s1]
      exact u2_n _ _ (by omega)
    have g23 : ∀ t, t < 31 → (tb (u2 (FI_X12_numeral 0 100 (FI_X12_token (S1_X12_line B J') J') J') 132 16 (F_X12_numeral 0 100 (FI_X12_token (S1_X12_line B J') J') J') 130 23) t ↔ (tb (B 130 23) t ∨ t = 6)) := fun t ht => by
      rw [u2_n _ _ (by omega), o12.2.2.1 130 23 (by omega), s1, u2_s, tb_or (by omega) ht]
    have ot : ∀ t, t < 31 → t ≠ 6 → (tb (u2 (FI_X12_numeral 0 100 (FI_X12_token (S1_X12_line B J') J') J') 132 16 (F_X12_numeral 0 100 (FI_X12_token (S1_X12_line B J') J') J') 130 23) t ↔ tb (B 130 23) t) := fun t ht hne => by
      rw [g23 t ht]
      exact ⟨fun z => z.resolve_right hne, Or.inl⟩
    refine ⟨⟨d.1.mv (fun a b z => gA a b (by omega) (by omega) (by omega)) (fun a b z => gB a b (by omega) (by omega)), ?_, d.2.2.mv (fun a b z => gA a b (by omega) (by omega) (by omega)) (fun a b z => gB a b (by omega) (by omega)) (fun t ht => ot t (by omega) (by omega))⟩, ?_⟩
    · obtain ⟨i0, i1, i2, i3⟩ := d.2.1
      have new : ON 7 16 6 0 100 (u2 (FI_X4_number 0 100 (FI_X8_step A J) J) 42 7 (F_X4_number 0 100 (FI_X8_step A J) J)) (u2 (FI_X12_numeral 0 100 (FI_X12_token (S1_X12_line B J') J') J') 132 16 (F_X12_numeral 0 100 (FI_X12_token (S1_X12_line B J') J') J')) := by
        refine Or.inr ⟨(g23 6 (by omega)).mpr (Or.inr rfl), ?_, ?_⟩
        · rw [u2_s, u2_s]; exact w2.1
        · rw [u2_s]; exact nv_in (a := 100) rfl (by omega) (by decide) w2.2.1 w2.2.2.1
      exact ⟨new, i1.mv (gA _ _ (by omega) (by omega) (by omega)) (gB _ _ (by omega) (by omega)) (ot _ (by omega) (by omega)), i2.mv (gA _ _ (by omega) (by omega) (by omega)) (gB _ _ (by omega) (by omega)) (ot _ (by omega) (by omega)), by rw [gA 42 10 (by omega) (by omega) (by omega), gB 130 24 (by omega) (by omega)]; exact i3⟩
    · have g := o12.2.2.2.2 q2
      have e : nx (u2 (FI_X4_number 0 100 (FI_X8_step A J) J) 42 7 (F_X4_number 0 100 (FI_X8_step A J) J)) = nx (FI_X4_number 0 100 (FI_X8_step A J) J) := by unfold nx; rw [u2_n _ _ (by omega)]
      rw [e]; exact g
  · rw [if_pos h0] at t72
    have o := op_fail (w := 3) (J := J) (J' := J') s (by decide)
    have wf : ¬ FI_X12_wrong 3 B J' 130 30 = 0 := fun q => absurd ((wrong_Fm (w := 3) (J := J') cB).1.symm.trans q) (by decide)
    have nn0 : ¬ A 42 7 < 0 := by obtain ⟨j, hj, ej⟩ := h2.n; rw [ej]; exact nI_pos (by omega)
    have st := o.1.1.2.2.2 o.2
    have eL : S1_X4_line A J = u2 (FI_X4_fail 3 A J) 42 7 (F_X4_onlyOnce (A 42 7) 100 A J) := by
      unfold S1_X4_line FI_X4_onlyOnce
      rw [if_neg nn0, step_id st, num_id o.2 st]
    rw [eL, t72, if_neg wf]
    exact LM.of (o.1.1.v (by omega)) (fun q => absurd ((u2_n _ _ (by omega)).symm.trans q) o.2) o.1.2.2.1.kt
theorem t72_7 {B : SI} {J : SJ} (v : B 130 29 = 7) : T_X12_line_j72 B J = if tb (B 130 23) 7 then FI_X12_wrong 3 B J else B := by
  unfold T_X12_line_j72 F_X12_isFull
  rw [v, if_neg (show ¬ (7 : Int32) = 0 by decide), if_neg (show ¬ (7 : Int32) = 1 by decide), if_neg (show ¬ (7 : Int32) = 2 by decide), if_neg (show ¬ (7 : Int32) = 3 by decide), if_neg (show ¬ (7 : Int32) = 4 by decide), if_neg (show ¬ (7 : Int32) = 5 by decide), if_pos rfl, if_neg (show ¬ (7 : Int32) < 6 by decide), if_neg (show ¬ (8 : Int32) < 7 by decide)]
  rfl
theorem purse_R {n : Nat} {A B : SI} {J J' J2 : SJ} (s : Si n A B) (c0 : A 41 1 = 0) (d : DT A B) (v : B 130 29 = 7) : LM n A B (S2_X4_line A J) (if T_X12_line_j72 B J' 130 30 = 0 then (T_X12_line_j492 B J').1 else T_X12_line_j72 B J') J J2 := by
  have cB : B 130 30 = 0 := s.1.symm.trans c0
  have t72 := t72_7 (J := J') v
  rcases d.2.1.2.1 with ⟨h0, h1, h2⟩ | ⟨h0, h1, h2⟩
  · rw [if_neg h0] at t72
    rw [t72, if_pos cB, t492_7 v]
    have s1 : S1_X12_line B J' = u2 B 130 23 (B 130 23 ||| ((1 : Int32) <<< (nI 7 &&& 31))) := by unfold S1_X12_line; rw [t72, v]; rfl
    have q1 : Si n A (S1_X12_line B J') := by rw [s1]; exact s.u (by omega)
    have cS : S1_X12_line B J' 130 30 = 0 := q1.1.symm.trans c0
    have o1 := (op_step (J := J) (J' := J') q1).1
    unfold FI_X12_goOn at o1
    rw [if_pos cS] at o1
    have o2 := op_num (a0 := 0) (a1 := 999) (J := J) (J' := J') o1.1 (by decide) (by decide)
    have eL : S2_X4_line A J = u2 (FI_X4_number 0 999 (FI_X8_step A J) J) 42 8 (F_X4_number 0 999 (FI_X8_step A J) J) := by
      unfold S2_X4_line FI_X4_onlyOnce F_X4_onlyOnce
      rw [h1, if_pos (show (-1 : Int32) < 0 by decide), if_pos (show (-1 : Int32) < 0 by decide)]
    have eT : S27_X12_line B J' = u2 (FI_X12_numeral 0 999 (FI_X12_token (S1_X12_line B J') J') J') 132 17 (F_X12_numeral 0 999 (FI_X12_token (S1_X12_line B J') J') J') := by
      unfold S27_X12_line
      exact rd_v (w := 7) (by omega)
    rw [eL, eT]
    have o12 := o1.tr o2.1
    have kt0 : KTM B (S1_X12_line B J') := by rw [s1]; exact KTM.u (fun _ _ _ => rfl) (by unfold mT; omega)
    refine LM.of ((o12.1.u (by omega)).v (by omega)) (fun q => ?_) ((kt0.tr o12.2.2.1.kt).u (by unfold mT; omega))
    have q2 : FI_X4_number 0 999 (FI_X8_step A J) J 41 1 = 0 := (u2_n _ _ (by omega)).symm.trans q
    have w2 := o2.2 q2
    have gA : ∀ a b, ¬ a = 81 → ¬ (a = 41 ∧ (b = 1 ∨ b = 2)) → ¬ (a = 42 ∧ b = 8) → u2 (FI_X4_number 0 999 (FI_X8_step A J) J) 42 8 (F_X4_number 0 999 (FI_X8_step A J) J) a b = A a b := fun a b z1 z2 z3 => (u2_n _ _ z3).trans (o12.2.1 a b z1 z2)
    have gB : ∀ a b, ¬ (a = 130 ∧ (b = 23 ∨ (26 ≤ b ∧ b ≤ 31))) → ¬ (a = 132 ∧ b = 17) → u2 (FI_X12_numeral 0 999 (FI_X12_token (S1_X12_line B J') J') J') 132 17 (F_X12_numeral 0 999 (FI_X12_token (S1_X12_line B J') J') J') a b = B a b := fun a b z1 z2 => by
      rw [u2_n _ _ z2, o12.2.2.1 a b (by omega), s1]
      exact u2_n _ _ (by omega)
    have g23 : ∀ t, t < 31 → (tb (u2 (FI_X12_numeral 0 999 (FI_X12_token (S1_X12_line B J') J') J') 132 17 (F_X12_numeral 0 999 (FI_X12_token (S1_X12_line B J') J') J') 130 23) t ↔ (tb (B 130 23) t ∨ t = 7)) := fun t ht => by
      rw [u2_n _ _ (by omega), o12.2.2.1 130 23 (by omega), s1, u2_s, tb_or (by omega) ht]
    have ot : ∀ t, t < 31 → t ≠ 7 → (tb (u2 (FI_X12_numeral 0 999 (FI_X12_token (S1_X12_line B J') J') J') 132 17 (F_X12_numeral 0 999 (FI_X12_token (S1_X12_line B J') J') J') 130 23) t ↔ tb (B 130 23) t) := fun t ht hne => by
      rw [g23 t ht]
      exact ⟨fun z => z.resolve_right hne, Or.inl⟩
    refine ⟨⟨d.1.mv (fun a b z => gA a b (by omega) (by omega) (by omega)) (fun a b z => gB a b (by omega) (by omega)), ?_, d.2.2.mv (fun a b z => gA a b (by omega) (by omega) (by omega)) (fun a b z => gB a b (by omega) (by omega)) (fun t ht => ot t (by omega) (by omega))⟩, ?_⟩
    · obtain ⟨i0, i1, i2, i3⟩ := d.2.1
      have new : ON 8 17 7 99 999 (u2 (FI_X4_number 0 999 (FI_X8_step A J) J) 42 8 (F_X4_number 0 999 (FI_X8_step A J) J)) (u2 (FI_X12_numeral 0 999 (FI_X12_token (S1_X12_line B J') J') J') 132 17 (F_X12_numeral 0 999 (FI_X12_token (S1_X12_line B J') J') J')) := by
        refine Or.inr ⟨(g23 7 (by omega)).mpr (Or.inr rfl), ?_, ?_⟩
        · rw [u2_s, u2_s]; exact w2.1
        · rw [u2_s]; exact nv_in (a := 999) rfl (by omega) (by decide) w2.2.1 w2.2.2.1
      exact ⟨i0.mv (gA _ _ (by omega) (by omega) (by omega)) (gB _ _ (by omega) (by omega)) (ot _ (by omega) (by omega)), new, i2.mv (gA _ _ (by omega) (by omega) (by omega)) (gB _ _ (by omega) (by omega)) (ot _ (by omega) (by omega)), by rw [gA 42 10 (by omega) (by omega) (by omega), gB 130 24 (by omega) (by omega)]; exact i3⟩
    · have g := o12.2.2.2.2 q2
      have e : nx (u2 (FI_X4_number 0 999 (FI_X8_step A J) J) 42 8 (F_X4_number 0 999 (FI_X8_step A J) J)) = nx (FI_X4_number 0 999 (FI_X8_step A J) J) := by unfold nx; rw [u2_n _ _ (by omega)]
      rw [e]; exact g
  · rw [if_pos h0] at t72
    have o := op_fail (w := 3) (J := J) (J' := J') s (by decide)
    have wf : ¬ FI_X12_wrong 3 B J' 130 30 = 0 := fun q => absurd ((wrong_Fm (w := 3) (J := J') cB).1.symm.trans q) (by decide)
    have nn0 : ¬ A 42 8 < 0 := by obtain ⟨j, hj, ej⟩ := h2.n; rw [ej]; exact nI_pos (by omega)
    have st := o.1.1.2.2.2 o.2
    have eL : S2_X4_line A J = u2 (FI_X4_fail 3 A J) 42 8 (F_X4_onlyOnce (A 42 8) 999 A J) := by
      unfold S2_X4_line FI_X4_onlyOnce
      rw [if_neg nn0, step_id st, num_id o.2 st]
    rw [eL, t72, if_neg wf]
    exact LM.of (o.1.1.v (by omega)) (fun q => absurd ((u2_n _ _ (by omega)).symm.trans q) o.2) o.1.2.2.1.kt
theorem t72_8 {B : SI} {J : SJ} (v : B 130 29 = 8) : T_X12_line_j72 B J = if tb (B 130 23) 8 then FI_X12_wrong 3 B J else B := by
  unfold T_X12_line_j72 F_X12_isFull
  rw [v, if_neg (show ¬ (8 : Int32) = 0 by decide), if_neg (show ¬ (8 : Int32) = 1 by decide), if_neg (show ¬ (8 : Int32) = 2 by decide), if_neg (show ¬ (8 : Int32) = 3 by decide), if_neg (show ¬ (8 : Int32) = 4 by decide), if_neg (show ¬ (8 : Int32) = 5 by decide), if_pos rfl, if_neg (show ¬ (8 : Int32) < 6 by decide), if_neg (show ¬ (8 : Int32) < 8 by decide)]
  rfl
theorem seed_R {n : Nat} {A B : SI} {J J' J2 : SJ} (s : Si n A B) (c0 : A 41 1 = 0) (d : DT A B) (v : B 130 29 = 8) : LM n A B (S3_X4_line A J) (if T_X12_line_j72 B J' 130 30 = 0 then (T_X12_line_j492 B J').1 else T_X12_line_j72 B J') J J2 := by
  have cB : B 130 30 = 0 := s.1.symm.trans c0
  have t72 := t72_8 (J := J') v
  rcases d.2.1.2.2.1 with ⟨h0, h1, h2⟩ | ⟨h0, h1, h2⟩
  · rw [if_neg h0] at t72
    rw [t72, if_pos cB, t492_8 v]
    have s1 : S1_X12_line B J' = u2 B 130 23 (B 130 23 ||| ((1 : Int32) <<< (nI 8 &&& 31))) := by unfold S1_X12_line; rw [t72, v]; rfl
    have q1 : Si n A (S1_X12_line B J') := by rw [s1]; exact s.u (by omega)
    have cS : S1_X12_line B J' 130 30 = 0 := q1.1.symm.trans c0
    have o1 := (op_step (J := J) (J' := J') q1).1
    unfold FI_X12_goOn at o1
    rw [if_pos cS] at o1
    have o2 := op_num (a0 := 0) (a1 := 99999) (J := J) (J' := J') o1.1 (by decide) (by decide)
    have eL : S3_X4_line A J = u2 (FI_X4_number 0 99999 (FI_X8_step A J) J) 42 9 (F_X4_number 0 99999 (FI_X8_step A J) J) := by
      unfold S3_X4_line FI_X4_onlyOnce F_X4_onlyOnce
      rw [h1, if_pos (show (-1 : Int32) < 0 by decide), if_pos (show (-1 : Int32) < 0 by decide)]
    have eT : S28_X12_line B J' = u2 (FI_X12_numeral 0 99999 (FI_X12_token (S1_X12_line B J') J') J') 132 18 (F_X12_numeral 0 99999 (FI_X12_token (S1_X12_line B J') J') J') := by
      unfold S28_X12_line
      exact rd_v (w := 8) (by omega)
    rw [eL, eT]
    have o12 := o1.tr o2.1
    have kt0 : KTM B (S1_X12_line B J') := by rw [s1]; exact KTM.u (fun _ _ _ => rfl) (by unfold mT; omega)
    refine LM.of ((o12.1.u (by omega)).v (by omega)) (fun q => ?_) ((kt0.tr o12.2.2.1.kt).u (by unfold mT; omega))
    have q2 : FI_X4_number 0 99999 (FI_X8_step A J) J 41 1 = 0 := (u2_n _ _ (by omega)).symm.trans q
    have w2 := o2.2 q2
    have gA : ∀ a b, ¬ a = 81 → ¬ (a = 41 ∧ (b = 1 ∨ b = 2)) → ¬ (a = 42 ∧ b = 9) → u2 (FI_X4_number 0 99999 (FI_X8_step A J) J) 42 9 (F_X4_number 0 99999 (FI_X8_step A J) J) a b = A a b := fun a b z1 z2 z3 => (u2_n _ _ z3).trans (o12.2.1 a b z1 z2)
    have gB : ∀ a b, ¬ (a = 130 ∧ (b = 23 ∨ (26 ≤ b ∧ b ≤ 31))) → ¬ (a = 132 ∧ b = 18) → u2 (FI_X12_numeral 0 99999 (FI_X12_token (S1_X12_line B J') J') J') 132 18 (F_X12_numeral 0 99999 (FI_X12_token (S1_X12_line B J') J') J') a b = B a b := fun a b z1 z2 => by
      rw [u2_n _ _ z2, o12.2.2.1 a b (by omega), s1]
      exact u2_n _ _ (by omega)
    have g23 : ∀ t, t < 31 → (tb (u2 (FI_X12_numeral 0 99999 (FI_X12_token (S1_X12_line B J') J') J') 132 18 (F_X12_numeral 0 99999 (FI_X12_token (S1_X12_line B J') J') J') 130 23) t ↔ (tb (B 130 23) t ∨ t = 8)) := fun t ht => by
      rw [u2_n _ _ (by omega), o12.2.2.1 130 23 (by omega), s1, u2_s, tb_or (by omega) ht]
    have ot : ∀ t, t < 31 → t ≠ 8 → (tb (u2 (FI_X12_numeral 0 99999 (FI_X12_token (S1_X12_line B J') J') J') 132 18 (F_X12_numeral 0 99999 (FI_X12_token (S1_X12_line B J') J') J') 130 23) t ↔ tb (B 130 23) t) := fun t ht hne => by
      rw [g23 t ht]
      exact ⟨fun z => z.resolve_right hne, Or.inl⟩
    refine ⟨⟨d.1.mv (fun a b z => gA a b (by omega) (by omega) (by omega)) (fun a b z => gB a b (by omega) (by omega)), ?_, d.2.2.mv (fun a b z => gA a b (by omega) (by omega) (by omega)) (fun a b z => gB a b (by omega) (by omega)) (fun t ht => ot t (by omega) (by omega))⟩, ?_⟩
    · obtain ⟨i0, i1, i2, i3⟩ := d.2.1
      have new : ON 9 18 8 0 99999 (u2 (FI_X4_number 0 99999 (FI_X8_step A J) J) 42 9 (F_X4_number 0 99999 (FI_X8_step A J) J)) (u2 (FI_X12_numeral 0 99999 (FI_X12_token (S1_X12_line B J') J') J') 132 18 (F_X12_numeral 0 99999 (FI_X12_token (S1_X12_line B J') J') J')) := by
        refine Or.inr ⟨(g23 8 (by omega)).mpr (Or.inr rfl), ?_, ?_⟩
        · rw [u2_s, u2_s]; exact w2.1
        · rw [u2_s]; exact nv_in (a := 99999) rfl (by omega) (by decide) w2.2.1 w2.2.2.1
      exact ⟨i0.mv (gA _ _ (by omega) (by omega) (by omega)) (gB _ _ (by omega) (by omega)) (ot _ (by omega) (by omega)), i1.mv (gA _ _ (by omega) (by omega) (by omega)) (gB _ _ (by omega) (by omega)) (ot _ (by omega) (by omega)), new, by rw [gA 42 10 (by omega) (by omega) (by omega), gB 130 24 (by omega) (by omega)]; exact i3⟩
    · have g := o12.2.2.2.2 q2
      have e : nx (u2 (FI_X4_number 0 99999 (FI_X8_step A J) J) 42 9 (F_X4_number 0 99999 (FI_X8_step A J) J)) = nx (FI_X4_number 0 99999 (FI_X8_step A J) J) := by unfold nx; rw [u2_n _ _ (by omega)]
      rw [e]; exact g
  · rw [if_pos h0] at t72
    have o := op_fail (w := 3) (J := J) (J' := J') s (by decide)
    have wf : ¬ FI_X12_wrong 3 B J' 130 30 = 0 := fun q => absurd ((wrong_Fm (w := 3) (J := J') cB).1.symm.trans q) (by decide)
    have nn0 : ¬ A 42 9 < 0 := by obtain ⟨j, hj, ej⟩ := h2.n; rw [ej]; exact nI_pos (by omega)
    have st := o.1.1.2.2.2 o.2
    have eL : S3_X4_line A J = u2 (FI_X4_fail 3 A J) 42 9 (F_X4_onlyOnce (A 42 9) 99999 A J) := by
      unfold S3_X4_line FI_X4_onlyOnce
      rw [if_neg nn0, step_id st, num_id o.2 st]
    rw [eL, t72, if_neg wf]
    exact LM.of (o.1.1.v (by omega)) (fun q => absurd ((u2_n _ _ (by omega)).symm.trans q) o.2) o.1.2.2.1.kt
theorem t72_9 {B : SI} {J : SJ} (v : B 130 29 = 9) : T_X12_line_j72 B J = B := by
  unfold T_X12_line_j72 F_X12_isFull
  rw [v, if_neg (show ¬ (9 : Int32) = 0 by decide), if_neg (show ¬ (9 : Int32) = 1 by decide), if_neg (show ¬ (9 : Int32) = 2 by decide), if_neg (show ¬ (9 : Int32) = 3 by decide), if_neg (show ¬ (9 : Int32) = 4 by decide), if_neg (show ¬ (9 : Int32) = 5 by decide), if_pos rfl, if_neg (show ¬ (9 : Int32) < 6 by decide), if_pos (show (8 : Int32) < 9 by decide)]
theorem KE.ky {B B' : SI} (h : KE B B') : ∀ a b, ¬ (a = 130 ∧ ((26 ≤ b ∧ b ≤ 31) ∨ b = 34 ∨ b = 35)) → ¬ (a = 132 ∧ b = 19) → ¬ (a = 150 ∨ a = 151) → B' a b = B a b := fun a b x y z => h a b x y (fun q => z q.1)
/-- a law's line from its rule on -/
theorem rule_G {n k : Nat} {A1 B1 : SI} {J J' J2 : SJ} (hk : k < 3) (s : Si n A1 B1) (c1 : A1 41 1 = 0) (d : DT A1 B1) (e : EI B1) (h1 : 1 ≤ nx A1) (v : B1 130 28 = 0 ∧ B1 130 29 = nI (10 + k)) : LM n A1 B1 (FI_X4_side (69 + 4 * k) (FI_X8_step (u2 (if A1 (69 + 4 * k) 0 = 0 then A1 else FI_X4_fail 3 A1 J) (69 + 4 * k) 0 1) J) J) (FI_X12_lawLine B1 J') J J2 := by
  have cB : B1 130 30 = 0 := s.1.symm.trans c1
  have k3 : K3 (69 + 4 * k) := by unfold K3; omega
  have t30 : T_X12_lawLine_j30 B1 J' = B1 := by
    unfold T_X12_lawLine_j30
    rw [if_pos v.1, v.2, if_neg (show ¬ nI (10 + k) < (10 : Int32) from nI_nlt (b := 10) (by omega) (by omega)), if_pos (show nI (10 + k) ≤ (12 : Int32) from nI_le (b := 12) (by omega) (by omega))]
  have e16 : (16 : Int32) + (nI (10 + k) - 10) = nI (16 + k) := by
    rw [show (10 : Int32) = nI 10 from rfl, pk_sub (by omega), show (16 : Int32) = nI 16 from rfl, nI_add]
    exact congrArg nI (by omega)
  have e3 : ((3 : Int32) + (nI (10 + k) - 10)).toNatClampNeg = 3 + k := by
    rw [show (10 : Int32) = nI 10 from rfl, pk_sub (by omega), show (3 : Int32) = nI 3 from rfl, nI_add, nI_clamp (by omega)]
    omega
  have t65 : T_X12_lawLine_j65 B1 J' = if tb (B1 130 23) (16 + k) then FI_X12_wrong 3 B1 J' else B1 := by
    unfold T_X12_lawLine_j65 S6_X12_lawLine
    rw [t30, if_pos cB, v.2, e16]
  have lk := d.2.2.2 k hk
  unfold FI_X12_lawLine
  rcases lk with ⟨h0, l0, l1, l2, l3⟩ | ⟨h0, l0, _⟩
  · rw [if_neg h0] at t65
    rw [t65, if_pos cB, if_pos l0]
    have sC : Si n (u2 A1 (69 + 4 * k) 0 1) (u2 B1 130 23 (B1 130 23 ||| ((1 : Int32) <<< (nI (16 + k) &&& 31)))) := (s.v (by omega)).u (by omega)
    have cC : u2 A1 (69 + 4 * k) 0 1 41 1 = 0 := (u2_n _ _ (by omega)).trans c1
    have cD : u2 B1 130 23 (B1 130 23 ||| ((1 : Int32) <<< (nI (16 + k) &&& 31))) 130 30 = 0 := (u2_n _ _ (by omega)).trans cB
    have eD : EI (u2 B1 130 23 (B1 130 23 ||| ((1 : Int32) <<< (nI (16 + k) &&& 31)))) := e.u (by omega) (by omega)
    have o := op_step (J := J) (J' := J') sC
    have tk := tok_E (x := 0) (J := J') eD cD
    unfold FI_X12_goOn at o
    rw [if_pos cD] at o
    have eS1 : S1_X12_lawLine B1 J' = B1 130 23 ||| ((1 : Int32) <<< (nI (16 + k) &&& 31)) := by
      unfold S1_X12_lawLine
      rw [t65, t30, v.2, e16]
    have eS2 : S2_X12_lawLine B1 J' = FI_X12_token (u2 B1 130 23 (B1 130 23 ||| ((1 : Int32) <<< (nI (16 + k) &&& 31)))) J' := by
      unfold S2_X12_lawLine
      rw [t65, eS1]
    have cC2 := (o.2 cC).2
    have nC : nx (u2 A1 (69 + 4 * k) 0 1) = nx A1 := by unfold nx; rw [u2_n _ _ (by omega)]
    have gx : nx A1 ≤ nx (FI_X8_step (u2 A1 (69 + 4 * k) 0 1) J) := by
      have := o.1.2.2.2.2 cC2
      omega
    have gA : ∀ a b, ¬ a = 81 → ¬ (a = 41 ∧ (b = 1 ∨ b = 2)) → ¬ (a = 69 + 4 * k ∧ b = 0) → FI_X8_step (u2 A1 (69 + 4 * k) 0 1) J a b = A1 a b := fun a b x y z => (o.1.2.1 a b x y).trans (u2_n _ _ z)
    have gk : FI_X8_step (u2 A1 (69 + 4 * k) 0 1) J (69 + 4 * k) 0 = 1 := (o.1.2.1 _ _ (by omega) (by omega)).trans (u2_s _ _ _ _)
    generalize hC2 : FI_X8_step (u2 A1 (69 + 4 * k) 0 1) J = C2 at *
    have gB : ∀ a b, ¬ (a = 130 ∧ 26 ≤ b ∧ b ≤ 31) → ¬ (a = 130 ∧ b = 23) → FI_X12_token (u2 B1 130 23 (B1 130 23 ||| ((1 : Int32) <<< (nI (16 + k) &&& 31)))) J' a b = B1 a b := fun a b x y => (o.1.2.2.1 a b x).trans (u2_n _ _ y)
    have g23 : FI_X12_token (u2 B1 130 23 (B1 130 23 ||| ((1 : Int32) <<< (nI (16 + k) &&& 31)))) J' 130 23 = B1 130 23 ||| ((1 : Int32) <<< (nI (16 + k) &&& 31)) := (o.1.2.2.1 130 23 (by omega)).trans (u2_s _ _ _ _)
    generalize hD2 : FI_X12_token (u2 B1 130 23 (B1 130 23 ||| ((1 : Int32) <<< (nI (16 + k) &&& 31)))) J' = D2 at *
    obtain ⟨f0, hf, q1, q2, q3, q4⟩ := d.2.2.1
    have eS3 : S3_X12_lawLine B1 J' = u2 D2 148 (3 + k) (nI f0) := by
      unfold S3_X12_lawLine
      rw [eS2, t30, v.2, e3, fr9, gB 132 19 (by omega) (by omega), q3]
    have eE : EI (u2 D2 148 (3 + k) (nI f0)) := tk.2.ei.u (by omega) (by omega)
    have sS : Si n C2 (u2 D2 148 (3 + k) (nI f0)) := o.1.1.u (by omega)
    have g3 : ∀ a b, ¬ (a = 148 ∧ b = 3 + k) → u2 D2 148 (3 + k) (nI f0) a b = D2 a b := fun a b z => u2_n _ _ z
    obtain ⟨R', eR, sR, dR⟩ := side_R (a0 := 69 + 4 * k) (f0 := f0) (J := J) (J' := J') k3 eE sS cC2 ((gA _ _ (by omega) (by omega) (by omega)).trans l1) ((g3 _ _ (by omega)).trans ((gB _ _ (by omega) (by omega)).trans q3)) hf ((gA _ _ (by omega) (by omega) (by omega)).trans q1) ((g3 _ _ (by omega)).trans ((gB _ _ (by omega) (by omega)).trans q2)) ((g3 _ _ (by omega)).trans ((gB _ _ (by omega) (by omega)).trans q4)) (by omega)
    have px := (side_E (J := J') eE).2
    have eS5 : S5_X12_lawLine B1 J' = u2 (RG_expr 140 0 (u2 D2 148 (3 + k) (nI f0)) J').1 149 (3 + k) ((RG_expr 140 0 (u2 D2 148 (3 + k) (nI f0)) J').1 132 19) := by
      unfold S5_X12_lawLine S4_X12_lawLine
      rw [eS3, t30, v.2, e3, fr9]
    rw [eS5]
    generalize hT : (RG_expr 140 0 (u2 D2 148 (3 + k) (nI f0)) J').1 = T at *
    generalize hL : FI_X4_side (69 + 4 * k) C2 J = L at *
    have eC : semiC L J = L := by
      unfold semiC
      by_cases y : L 41 1 = 0
      · rw [if_pos (dR y).1]
      · rw [fail_f y, ite_self]
    have is59 : F_X12_isSign 59 (u2 T 149 (3 + k) (T 132 19)) J2 = F_X12_isSign 59 T J' := by
      unfold F_X12_isSign
      rw [u2_n _ _ (by omega), u2_n _ _ (by omega), u2_n _ _ (by omega)]
    have sem : ∀ a b, a = 131 ∨ (a = 130 ∧ 25 ≤ b ∧ b ≤ 31) → semi (u2 T 149 (3 + k) (T 132 19)) J2 a b = R' a b := fun a b z => by
      unfold semi
      rw [is59, eR]
      by_cases y : F_X12_isSign 59 T J' = 0
      · rw [if_pos y, if_pos y]
        unfold FI_X12_wrong
        rw [show u2 T 149 (3 + k) (T 132 19) 130 30 = T 130 30 from u2_n _ _ (by omega)]
        by_cases x : T 130 30 = 0
        · rw [if_pos x, if_pos x]
          by_cases b31 : a = 130 ∧ b = 31
          · rw [b31.1, b31.2, u2_s, u2_s, u2_n _ _ (by omega), u2_n _ _ (by omega), u2_n _ _ (by omega)]
          · rw [u2_n _ _ b31, u2_n _ _ b31]
            by_cases b30 : a = 130 ∧ b = 30
            · rw [b30.1, b30.2, u2_s, u2_s]
            · rw [u2_n _ _ b30, u2_n _ _ b30]
              exact u2_n _ _ (by omega)
        · rw [if_neg x, if_neg x]
          exact u2_n _ _ (by omega)
      · rw [if_neg y, if_neg y]
        exact u2_n _ _ (by omega)
    unfold LM
    rw [eC]
    rw [← and_assoc]
    refine ⟨⟨sR.fr (fun _ _ _ => rfl) sem, fun cL => ?_⟩, fun a b z => ?_⟩
    rotate_left
    · have nD : nn (u2 D2 148 (3 + k) (nI f0)) = f0 := by unfold nn; rw [g3 132 19 (by omega), gB 132 19 (by omega) (by omega), q3, nI_clamp (by omega)]
      rw [u2_n _ _ (by unfold mT at z; omega), px.2.1 a b (by unfold mT at z; omega) (by unfold mT at z; omega) (by unfold mT at z; omega), g3 a b (by unfold mT at z; omega)]
      exact gB a b (by unfold mT at z; omega) (by unfold mT at z; omega)
    obtain ⟨r4, rT, rf, rx, m, hm, hfm, r1, r2, r3, r5, r6, rq, rd⟩ := dR cL
    refine ⟨r4, (u2_n _ _ (by omega)).trans rT, cL, ⟨?_, ?_, ?_⟩, by omega⟩
    · refine d.1.mv (fun a b z => ?_) (fun a b z => ?_)
      · rw [rf a b (by omega) (by omega) (by omega) (by omega) (by omega) (by omega) (by omega)]
        exact gA a b (by omega) (by omega) (by omega)
      · rw [u2_n _ _ (by omega), px.2.1.ky a b (by omega) (by omega) (by omega), g3 a b (by omega)]
        exact gB a b (by omega) (by omega)
    · refine d.2.1.mv (fun b z => ?_) (fun b z => ?_) (fun t z => ?_) ?_
      · rw [rf 42 b (by omega) (by omega) (by omega) (by omega) (by omega) (by omega) (by omega)]
        exact gA 42 b (by omega) (by omega) (by omega)
      · rw [u2_n _ _ (by omega), px.2.1.ky 132 b (by omega) (by omega) (by omega), g3 132 b (by omega)]
        exact gB 132 b (by omega) (by omega)
      · rw [u2_n _ _ (by omega), px.2.1.ky 130 23 (by omega) (by omega) (by omega), g3 130 23 (by omega), g23, tb_or (by omega) (by omega)]
        exact ⟨fun q => q.elim id (fun y => by omega), Or.inl⟩
      · rw [u2_n _ _ (by omega), px.2.1.ky 130 24 (by omega) (by omega) (by omega), g3 130 24 (by omega)]
        exact gB 130 24 (by omega) (by omega)
    · refine ⟨⟨f0 + m, by omega, r3, (u2_n _ _ (by omega)).trans r5, (u2_n _ _ (by omega)).trans r2, (u2_n _ _ (by omega)).trans r6⟩, fun k' hk' => ?_⟩
      have nB : nn B1 = f0 := by unfold nn; rw [q3, nI_clamp (by omega)]
      have nD : nn (u2 D2 148 (3 + k) (nI f0)) = f0 := by unfold nn; rw [g3 132 19 (by omega), gB 132 19 (by omega) (by omega), q3, nI_clamp (by omega)]
      have nT : nn (u2 T 149 (3 + k) (T 132 19)) = f0 + m := by unfold nn; rw [u2_n _ _ (by omega), r2, nI_clamp (by omega)]
      by_cases y : k' = k
      · subst y
        refine Or.inr ⟨?_, ?_, f0, m, hm, r1, ?_, ?_, by omega, fun j hj => ?_, (dp_cg _ _ _ (fun j _ _ => ⟨u2_n _ _ (by omega), u2_n _ _ (by omega)⟩)).trans rd⟩
        · rw [u2_n _ _ (by omega), px.2.1.ky 130 23 (by omega) (by omega) (by omega), g3 130 23 (by omega), g23, tb_or (by omega) (by omega)]
          exact Or.inr rfl
        · rw [rf _ 0 (by omega) (by omega) (by omega) (by omega) (by omega) (by omega) (by omega)]
          exact gk
        · rw [u2_n _ _ (by omega), px.2.1.ky 148 _ (by omega) (by omega) (by omega), u2_s]
        · rw [u2_s]; exact r2
        · rw [u2_n _ _ (by omega), u2_n _ _ (by omega), show 70 + 4 * k' = 69 + 4 * k' + 1 by omega, show 71 + 4 * k' = 69 + 4 * k' + 2 by omega]
          exact rq j hj
      · refine (d.2.2.2 k' hk').mv (fun a b z => ?_) ?_ ?_ (by omega) (fun a j z hj => ?_) ?_
        · rw [rf a b (by omega) (by omega) (by omega) (by omega) (by omega) (by omega) (by omega)]
          exact gA a b (by omega) (by omega) (by omega)
        · rw [u2_n _ _ (by omega), px.2.1.ky 148 _ (by omega) (by omega) (by omega), g3 148 _ (by omega)]
          exact gB 148 _ (by omega) (by omega)
        · rw [u2_n _ _ (by omega), px.2.1.ky 149 _ (by omega) (by omega) (by omega), g3 149 _ (by omega)]
          exact gB 149 _ (by omega) (by omega)
        · rw [u2_n _ _ (by omega), px.2.1 a _ (by omega) (by omega) (by omega), g3 a _ (by omega)]
          exact gB a _ (by omega) (by omega)
        · rw [u2_n _ _ (by omega), px.2.1.ky 130 23 (by omega) (by omega) (by omega), g3 130 23 (by omega), g23, tb_or (by omega) (by omega)]
          exact ⟨fun q => q.elim id (fun x => by omega), Or.inl⟩
  · rw [if_pos h0] at t65
    have o := op_fail (w := 3) (J := J) (J' := J') s (by decide)
    have wf : ¬ FI_X12_wrong 3 B1 J' 130 30 = 0 := fun q => absurd ((wrong_Fm (w := 3) (J := J') cB).1.symm.trans q) (by decide)
    have st := o.1.1.2.2.2 o.2
    rw [t65, if_neg wf, if_neg (by rw [l0]; decide), step_id (show ¬ u2 (FI_X4_fail 3 A1 J) (69 + 4 * k) 0 1 81 4 = 0 from by rw [u2_n _ _ (by omega)]; exact st)]
    have cF : ¬ u2 (u2 (u2 (FI_X4_fail 3 A1 J) (69 + 4 * k) 0 1) 41 6 0) 41 7 0 41 1 = 0 := by
      rw [u2_n _ _ (by omega), u2_n _ _ (by omega), u2_n _ _ (by omega)]
      exact o.2
    have eF := side_f (a0 := 69 + 4 * k) (k := 0) (A := u2 (FI_X4_fail 3 A1 J) (69 + 4 * k) 0 1) (J := J) (w := 1) rfl (by omega) cF
    rw [eF]
    exact LM.of (((o.1.1.v (by omega)).v (by omega)).v (by omega)) (fun q => absurd q cF) o.1.2.2.1.kt
theorem law_R {n : Nat} {A B : SI} {J J' J2 : SJ} (s : Si n A B) (c0 : A 41 1 = 0) (d : DT A B) (e : EI B) (v : B 130 29 = 9) : LM n A B (FI_X4_lawLine A J) (if T_X12_line_j72 B J' 130 30 = 0 then (T_X12_line_j492 B J').1 else T_X12_line_j72 B J') J J2 := by
  have cB : B 130 30 = 0 := s.1.symm.trans c0
  have t72 := t72_9 (J := J') v
  rw [t72, if_pos cB, t492_9 (by rw [v]; decide) (by rw [v]; decide) (by rw [v]; decide) (by rw [v]; decide) (by rw [v]; decide) (by rw [v]; decide) (by rw [v]; decide) (by rw [v]; decide) (by rw [v]; decide)]
  obtain ⟨o1, d2, c1, pr, fB⟩ := word_G (k := 0) (w := 9) (J := J) (J' := J') s c0 d (by omega) v t72
  have s1 : S1_X12_line B J' = u2 B 130 23 (B 130 23 ||| ((1 : Int32) <<< (nI 9 &&& 31))) := by unfold S1_X12_line; rw [t72, v]; rfl
  have e1 : EI (S1_X12_line B J') := by rw [s1]; exact e.u (by omega) (by omega)
  have cS : S1_X12_line B J' 130 30 = 0 := by rw [s1]; exact (u2_n _ _ (by omega)).trans cB
  have eB1 := (tok_E (x := 0) (J := J') e1 cS).2.ei
  have gx : nx A ≤ nx (FI_X8_step A J) := o1.2.2.2.2 c1
  obtain ⟨_, _, _, _, _, _, r, _, _, _, _, kv⟩ := o1.1.2.2.1 c1
  have t91 : T_X4_lawLine_j91 A J = if FI_X8_step A J (69 + 4 * 0) 0 = 0 then FI_X8_step A J else FI_X4_fail 3 (FI_X8_step A J) J := rfl
  have t92 : T_X4_lawLine_j91_2 A J = if FI_X8_step A J (69 + 4 * 1) 0 = 0 then FI_X8_step A J else FI_X4_fail 3 (FI_X8_step A J) J := rfl
  have t93 : T_X4_lawLine_j91_3 A J = if FI_X8_step A J (69 + 4 * 2) 0 = 0 then FI_X8_step A J else FI_X4_fail 3 (FI_X8_step A J) J := rfl
  have kt0 : KTM B (FI_X12_token (S1_X12_line B J') J') := fun a b z => fB a b (by unfold mT at z; omega)
  have up : ∀ {L T : SI}, LM n (FI_X8_step A J) (FI_X12_token (S1_X12_line B J') J') L T J J2 → LM n A B L T J J2 := fun {L T} h => ⟨h.1, fun q => by
    obtain ⟨a1, a2, a3, a4, a5⟩ := h.2.1 q
    exact ⟨a1, a2, a3, a4, by omega⟩, kt0.tr h.2.2⟩
  have nx1 : ∀ i, i < 23 → FI_X8_step A J 81 5 = nI (20 + i) → 1 ≤ nx (FI_X8_step A J) := fun i hi z => by
    rcases pr with y | y
    · rw [y] at z
      have := (nI_eq (a := 0) (by omega) (by omega)).mp z
      omega
    · omega
  unfold FI_X4_lawLine
  by_cases k0 : FI_X8_step A J 81 5 = 30
  · rw [if_pos k0, t91]
    exact up (rule_G (k := 0) (J := J) (J' := J') (by omega) o1.1 c1 d2 eB1 (nx1 10 (by omega) k0) ((kv.word.2 10 (by omega)).mp k0))
  · rw [if_neg k0]
    by_cases k1 : FI_X8_step A J 81 5 = 31
    · rw [if_pos k1, t92]
      exact up (rule_G (k := 1) (J := J) (J' := J') (by omega) o1.1 c1 d2 eB1 (nx1 11 (by omega) k1) ((kv.word.2 11 (by omega)).mp k1))
    · rw [if_neg k1]
      by_cases k2 : FI_X8_step A J 81 5 = 32
      · rw [if_pos k2, t93]
        exact up (rule_G (k := 2) (J := J) (J' := J') (by omega) o1.1 c1 d2 eB1 (nx1 12 (by omega) k2) ((kv.word.2 12 (by omega)).mp k2))
      · rw [if_neg k2]
        have cB1 : FI_X12_token (S1_X12_line B J') J' 130 30 = 0 := o1.1.1.symm.trans c1
        have o := op_fail (w := 1) (J := J) (J' := J') o1.1 (by decide)
        have wf : ¬ FI_X12_wrong 1 (FI_X12_token (S1_X12_line B J') J') J' 130 30 = 0 := fun q => absurd ((wrong_Fm (w := 1) (J := J') cB1).1.symm.trans q) (by decide)
        have t30 : T_X12_lawLine_j30 (FI_X12_token (S1_X12_line B J') J') J' = FI_X12_wrong 1 (FI_X12_token (S1_X12_line B J') J') J' := by
          unfold T_X12_lawLine_j30
          by_cases z : FI_X12_token (S1_X12_line B J') J' 130 28 = 0
          · obtain ⟨i, hi, i1, i2⟩ := kv.word.1 z
            rw [if_pos z, i2]
            by_cases y : i < 10
            · rw [if_pos (show nI i < (10 : Int32) from nI_lt (b := 10) y (by omega))]
            · rw [if_neg (show ¬ nI i < (10 : Int32) from nI_nlt (b := 10) (by omega) (by omega))]
              by_cases x : i ≤ 12
              · rcases (by omega : i = 10 ∨ i = 11 ∨ i = 12) with rfl | rfl | rfl
                · exact absurd i1 k0
                · exact absurd i1 k1
                · exact absurd i1 k2
              · rw [if_neg (show ¬ nI i ≤ (12 : Int32) from fun q => x ((nI_leI (b := 12) (by omega) (by omega)).mp q))]
          · rw [if_neg z]
        have t65 : T_X12_lawLine_j65 (FI_X12_token (S1_X12_line B J') J') J' = FI_X12_wrong 1 (FI_X12_token (S1_X12_line B J') J') J' := by
          unfold T_X12_lawLine_j65
          rw [t30, if_neg wf]
        unfold FI_X12_lawLine
        rw [t65, if_neg wf]
        exact LM.of o.1.1 (fun q => absurd q o.2) (kt0.tr o.1.2.2.1.kt)
/-- a line alike -/
theorem line_R {n : Nat} {A B : SI} {J J1 J' : SJ} (s : Si n A B) (c0 : A 41 1 = 0) (d : DT A B) (e : EI B) : KTM B (FI_X12_line B J') ∧ Si n (FI_X8_step (u2 (semiC (FI_X4_line A J) J) 42 10 (semiC (FI_X4_line A J) J 42 10 + 1)) J1) (FI_X12_line B J') ∧ (FI_X8_step (u2 (semiC (FI_X4_line A J) J) 42 10 (semiC (FI_X4_line A J) J 42 10 + 1)) J1 41 1 = 0 → DT (FI_X8_step (u2 (semiC (FI_X4_line A J) J) 42 10 (semiC (FI_X4_line A J) J 42 10 + 1)) J1) (FI_X12_line B J') ∧ (FI_X8_step (u2 (semiC (FI_X4_line A J) J) 42 10 (semiC (FI_X4_line A J) J 42 10 + 1)) J1 81 5 = 0 ∨ nx A < nx (FI_X8_step (u2 (semiC (FI_X4_line A J) J) 42 10 (semiC (FI_X4_line A J) J 42 10 + 1)) J1))) := by
  have cB : B 130 30 = 0 := s.1.symm.trans c0
  obtain ⟨_, _, _, _, _, _, r, _, _, _, _, kv⟩ := s.2.2.1 c0
  have bad : FI_X4_line A J = FI_X4_fail 1 A J → FI_X12_line B J' = FI_X12_wrong 1 B J' → KTM B (FI_X12_line B J') ∧ Si n (FI_X8_step (u2 (semiC (FI_X4_line A J) J) 42 10 (semiC (FI_X4_line A J) J 42 10 + 1)) J1) (FI_X12_line B J') ∧ (FI_X8_step (u2 (semiC (FI_X4_line A J) J) 42 10 (semiC (FI_X4_line A J) J 42 10 + 1)) J1 41 1 = 0 → DT (FI_X8_step (u2 (semiC (FI_X4_line A J) J) 42 10 (semiC (FI_X4_line A J) J 42 10 + 1)) J1) (FI_X12_line B J') ∧ (FI_X8_step (u2 (semiC (FI_X4_line A J) J) 42 10 (semiC (FI_X4_line A J) J 42 10 + 1)) J1 81 5 = 0 ∨ nx A < nx (FI_X8_step (u2 (semiC (FI_X4_line A J) J) 42 10 (semiC (FI_X4_line A J) J 42 10 + 1)) J1))) := fun e1 e2 => by
    have o := op_fail (w := 1) (J := J) (J' := J') s (by decide)
    have sc : semiC (FI_X4_fail 1 A J) J = FI_X4_fail 1 A J := by unfold semiC; rw [fail_f o.2, ite_self]
    rw [e1, e2, sc, step_id (show ¬ u2 (FI_X4_fail 1 A J) 42 10 (FI_X4_fail 1 A J 42 10 + 1) 81 4 = 0 from by rw [u2_n _ _ (by omega)]; exact o.1.1.2.2.2 o.2)]
    exact ⟨o.1.2.2.1.kt, o.1.1.v (by omega), fun q => absurd ((u2_n _ _ (by omega)).symm.trans q) o.2⟩
  by_cases hw : ∃ i, i < 10 ∧ FI_X4_line A J = FI_X4_line A J ∧ A 81 5 = nI (20 + i)
  · obtain ⟨i, hi, _, ki⟩ := hw
    obtain ⟨v8, v9⟩ := (kv.word.2 i (by omega)).mp ki
    have le9 : B 130 29 ≤ 9 := by rw [v9]; exact nI_le (b := 9) (by omega) (by omega)
    have go : ∀ L : SI, FI_X4_line A J = L → LM n A B L (if T_X12_line_j72 B J' 130 30 = 0 then (T_X12_line_j492 B J').1 else T_X12_line_j72 B J') J (T_X12_line_j492 B J').2 → KTM B (FI_X12_line B J') ∧ Si n (FI_X8_step (u2 (semiC (FI_X4_line A J) J) 42 10 (semiC (FI_X4_line A J) J 42 10 + 1)) J1) (FI_X12_line B J') ∧ (FI_X8_step (u2 (semiC (FI_X4_line A J) J) 42 10 (semiC (FI_X4_line A J) J 42 10 + 1)) J1 41 1 = 0 → DT (FI_X8_step (u2 (semiC (FI_X4_line A J) J) 42 10 (semiC (FI_X4_line A J) J 42 10 + 1)) J1) (FI_X12_line B J') ∧ (FI_X8_step (u2 (semiC (FI_X4_line A J) J) 42 10 (semiC (FI_X4_line A J) J 42 10 + 1)) J1 81 5 = 0 ∨ nx A < nx (FI_X8_step (u2 (semiC (FI_X4_line A J) J) 42 10 (semiC (FI_X4_line A J) J 42 10 + 1)) J1))) := fun L eL h => by
      have f := fin_R (J1 := J1) h
      have eM : FI_X12_line B J' = lend (if T_X12_line_j72 B J' 130 30 = 0 then (T_X12_line_j492 B J').1 else T_X12_line_j72 B J') (T_X12_line_j492 B J').2 := by
        unfold FI_X12_line lend
        rw [if_pos v8, if_pos le9]
        by_cases z : T_X12_line_j72 B J' 130 30 = 0
        · rw [if_pos z, if_pos z]
          rfl
        · rw [if_neg z, if_neg z, if_neg z]
      rw [eL, eM]
      exact f
    have ne : ∀ j, j < 10 → j ≠ i → ¬ A 81 5 = nI (20 + j) := fun j hj hji q => by
      rw [ki] at q
      have := (nI_eq (by omega) (by omega)).mp q
      omega
    rcases (by omega : i = 0 ∨ i = 1 ∨ i = 2 ∨ i = 3 ∨ i = 4 ∨ i = 5 ∨ i = 6 ∨ i = 7 ∨ i = 8 ∨ i = 9) with rfl | rfl | rfl | rfl | rfl | rfl | rfl | rfl | rfl | rfl
    · refine go (FI_X4_markLine A J) ?_ (mark_R s c0 d v9)
      unfold FI_X4_line
      rw [if_pos (show A 81 5 = 20 from ki)]
    · refine go (FI_X4_shotLine A J) ?_ (shot_R s c0 d v9)
      unfold FI_X4_line
      rw [if_neg (show ¬ A 81 5 = 20 from ne 0 (by omega) (by omega)), if_pos (show A 81 5 = 21 from ki)]
    · refine go (FI_X4_pairLine A J) ?_ (pair_R s c0 d v9)
      unfold FI_X4_line
      rw [if_neg (show ¬ A 81 5 = 20 from ne 0 (by omega) (by omega)), if_neg (show ¬ A 81 5 = 21 from ne 1 (by omega) (by omega)), if_pos (show A 81 5 = 22 from ki)]
    · refine go (FI_X4_partyLine A J) ?_ (party_R s c0 d v9)
      unfold FI_X4_line
      rw [if_neg (show ¬ A 81 5 = 20 from ne 0 (by omega) (by omega)), if_neg (show ¬ A 81 5 = 21 from ne 1 (by omega) (by omega)), if_neg (show ¬ A 81 5 = 22 from ne 2 (by omega) (by omega)), if_pos (show A 81 5 = 23 from ki)]
    · refine go (FI_X4_clerkLine A J) ?_ (clerk_R s c0 d v9)
      unfold FI_X4_line
      rw [if_neg (show ¬ A 81 5 = 20 from ne 0 (by omega) (by omega)), if_neg (show ¬ A 81 5 = 21 from ne 1 (by omega) (by omega)), if_neg (show ¬ A 81 5 = 22 from ne 2 (by omega) (by omega)), if_neg (show ¬ A 81 5 = 23 from ne 3 (by omega) (by omega)), if_pos (show A 81 5 = 24 from ki)]
    · refine go (FI_X4_coldLine A J) ?_ (cold_R s c0 d v9)
      unfold FI_X4_line
      rw [if_neg (show ¬ A 81 5 = 20 from ne 0 (by omega) (by omega)), if_neg (show ¬ A 81 5 = 21 from ne 1 (by omega) (by omega)), if_neg (show ¬ A 81 5 = 22 from ne 2 (by omega) (by omega)), if_neg (show ¬ A 81 5 = 23 from ne 3 (by omega) (by omega)), if_neg (show ¬ A 81 5 = 24 from ne 4 (by omega) (by omega)), if_pos (show A 81 5 = 25 from ki)]
    · refine go (S1_X4_line A J) ?_ (ill_R s c0 d v9)
      unfold FI_X4_line
      rw [if_neg (show ¬ A 81 5 = 20 from ne 0 (by omega) (by omega)), if_neg (show ¬ A 81 5 = 21 from ne 1 (by omega) (by omega)), if_neg (show ¬ A 81 5 = 22 from ne 2 (by omega) (by omega)), if_neg (show ¬ A 81 5 = 23 from ne 3 (by omega) (by omega)), if_neg (show ¬ A 81 5 = 24 from ne 4 (by omega) (by omega)), if_neg (show ¬ A 81 5 = 25 from ne 5 (by omega) (by omega)), if_pos (show A 81 5 = 26 from ki)]
    · refine go (S2_X4_line A J) ?_ (purse_R s c0 d v9)
      unfold FI_X4_line
      rw [if_neg (show ¬ A 81 5 = 20 from ne 0 (by omega) (by omega)), if_neg (show ¬ A 81 5 = 21 from ne 1 (by omega) (by omega)), if_neg (show ¬ A 81 5 = 22 from ne 2 (by omega) (by omega)), if_neg (show ¬ A 81 5 = 23 from ne 3 (by omega) (by omega)), if_neg (show ¬ A 81 5 = 24 from ne 4 (by omega) (by omega)), if_neg (show ¬ A 81 5 = 25 from ne 5 (by omega) (by omega)), if_neg (show ¬ A 81 5 = 26 from ne 6 (by omega) (by omega)), if_pos (show A 81 5 = 27 from ki)]
    · refine go (S3_X4_line A J) ?_ (seed_R s c0 d v9)
      unfold FI_X4_line
      rw [if_neg (show ¬ A 81 5 = 20 from ne 0 (by omega) (by omega)), if_neg (show ¬ A 81 5 = 21 from ne 1 (by omega) (by omega)), if_neg (show ¬ A 81 5 = 22 from ne 2 (by omega) (by omega)), if_neg (show ¬ A 81 5 = 23 from ne 3 (by omega) (by omega)), if_neg (show ¬ A 81 5 = 24 from ne 4 (by omega) (by omega)), if_neg (show ¬ A 81 5 = 25 from ne 5 (by omega) (by omega)), if_neg (show ¬ A 81 5 = 26 from ne 6 (by omega) (by omega)), if_neg (show ¬ A 81 5 = 27 from ne 7 (by omega) (by omega)), if_pos (show A 81 5 = 28 from ki)]
    · refine go (FI_X4_lawLine A J) ?_ (law_R s c0 d e v9)
      unfold FI_X4_line
      rw [if_neg (show ¬ A 81 5 = 20 from ne 0 (by omega) (by omega)), if_neg (show ¬ A 81 5 = 21 from ne 1 (by omega) (by omega)), if_neg (show ¬ A 81 5 = 22 from ne 2 (by omega) (by omega)), if_neg (show ¬ A 81 5 = 23 from ne 3 (by omega) (by omega)), if_neg (show ¬ A 81 5 = 24 from ne 4 (by omega) (by omega)), if_neg (show ¬ A 81 5 = 25 from ne 5 (by omega) (by omega)), if_neg (show ¬ A 81 5 = 26 from ne 6 (by omega) (by omega)), if_neg (show ¬ A 81 5 = 27 from ne 7 (by omega) (by omega)), if_neg (show ¬ A 81 5 = 28 from ne 8 (by omega) (by omega)), if_pos (show A 81 5 = 29 from ki)]
  · have ne : ∀ j, j < 10 → ¬ A 81 5 = nI (20 + j) := fun j hj q => hw ⟨j, hj, rfl, q⟩
    refine bad ?_ ?_
    · unfold FI_X4_line
      rw [if_neg (show ¬ A 81 5 = 20 from ne 0 (by omega)), if_neg (show ¬ A 81 5 = 21 from ne 1 (by omega)), if_neg (show ¬ A 81 5 = 22 from ne 2 (by omega)), if_neg (show ¬ A 81 5 = 23 from ne 3 (by omega)), if_neg (show ¬ A 81 5 = 24 from ne 4 (by omega)), if_neg (show ¬ A 81 5 = 25 from ne 5 (by omega)), if_neg (show ¬ A 81 5 = 26 from ne 6 (by omega)), if_neg (show ¬ A 81 5 = 27 from ne 7 (by omega)), if_neg (show ¬ A 81 5 = 28 from ne 8 (by omega)), if_neg (show ¬ A 81 5 = 29 from ne 9 (by omega))]
    · unfold FI_X12_line
      by_cases z : B 130 28 = 0
      · obtain ⟨i, hi, i1, i2⟩ := kv.word.1 z
        rw [if_pos z, if_neg ?_]
        rw [i2]
        intro q
        have := (nI_leI (b := 9) (by omega) (by omega)).mp q
        exact ne i (by omega) i1
      · rw [if_neg z]
