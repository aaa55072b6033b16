/-! the model: what a token's value may be -/
def WST : List Nat := [0, 5, 10, 14, 20, 26, 31, 35, 41, 46, 50, 57, 63, 69, 72, 76, 80, 87, 93, 98, 104, 109, 113, 118]
def wf97 (t : Int32) : Int32 ⊕ Int32 := if chS 3 t.toNatClampNeg = 32 then .inr t else .inl (t + 1)
theorem wst_ok : ∀ n, n < 23 → itW wf97 800 (nI (WST.getD n 0)) = some (nI (WST.getD (n + 1) 0 - 1)) ∧ nI (WST.getD (n + 1) 0 - 1) + 1 = nI (WST.getD (n + 1) 0) ∧ WST.getD n 0 < 118 := by decide +kernel
theorem wst_last : ¬ nI 118 ≤ nI (WST.getD 23 0) → False := by decide +kernel
theorem word_V {I : SI} {J : SJ} : F_X12_word I J = -1 ∨ inR (F_X12_word I J) 23 := by
  have L := whl (f := B_X12_word_w4 I J) (s0 := ((0 : Int32), (0 : Int32))) (fun s => ∃ n, n ≤ 23 ∧ s.1 = nI n ∧ s.2 = nI (WST.getD n 0)) (fun r => match r with | .inl _ => True | .inr v => inR v 23) (fun s => 23 - s.1.toNatClampNeg) ⟨0, by omega, rfl, rfl⟩ (by show 23 - _ < 800; omega) (fun s s' hs hf => by
    obtain ⟨n, hn, e1, e2⟩ := hs
    obtain ⟨c, h2⟩ := inl_of hf
    have n23 : n < 23 := by
      by_cases q : n = 23
      · rw [e2, q] at c; exact (wst_last c).elim
      · omega
    have w := wst_ok n n23
    have e : s' = (s.1 + 1, nI (WST.getD (n + 1) 0)) := by
      repeat' split at h2
      · cases h2
      · rw [← Sum.inl.inj h2]
        unfold F_X12_word_w97_2
        rw [show B_X12_word_w97_2 I J s = wf97 from rfl, e2, w.1]
        exact Prod.ext rfl w.2.1
      · rw [← Sum.inl.inj h2]
        unfold F_X12_word_w97
        rw [show B_X12_word_w97 I J s = wf97 from rfl, e2, w.1]
        exact Prod.ext rfl w.2.1
    rw [e, e1, nI_1]
    refine ⟨⟨n + 1, by omega, rfl, rfl⟩, ?_⟩
    show 23 - (nI (n + 1)).toNatClampNeg < 23 - (nI n).toNatClampNeg
    rw [nI_clamp (by omega), nI_clamp (by omega)]
    omega) (fun s r hs hf => by
    obtain ⟨n, hn, e1, e2⟩ := hs
    unfold B_X12_word_w4 at hf
    by_cases c : nI (STL.getD 3 0) ≤ s.2
    · rw [if_pos c] at hf; cases hf; trivial
    · rw [if_neg c] at hf
      have n23 : n < 23 := by
        by_cases q : n = 23
        · rw [e2, q] at c; exact (wst_last c).elim
        · omega
      repeat' split at hf
      all_goals cases hf
      show inR s.1 23
      rw [e1]
      exact inR_nI n23 (by decide))
  have q := L.2.2 (.inl (0, 0))
  unfold F_X12_word F_X12_word_w4
  cases h : (itW (B_X12_word_w4 I J) 800 (0, 0)).getD (.inl (0, 0)) with
  | inl s => exact Or.inl rfl
  | inr v => rw [h] at q; exact Or.inr q
/-- a sign's value isn't NOT's; a word's is one of the words -/
def VS (I : SI) : Prop := (I 130 28 = 3 → I 130 29 ≠ 260) ∧ (I 130 28 = 0 → inR (I 130 29) 23)
theorem VS.of {I I1 : SI} (h : VS I) (e1 : I1 130 28 = I 130 28) (e2 : I1 130 29 = I 130 29) : VS I1 := by
  unfold VS
  rw [e1, e2]
  exact h
theorem VS.no {I : SI} (h3 : I 130 28 ≠ 3) (h0 : I 130 28 ≠ 0) : VS I := ⟨fun h => absurd h h3, fun h => absurd h h0⟩
theorem sign_V {x : Int32} {I : SI} {J : SJ} : VS (FI_X12_sign x I J) := by
  have a0 : S1_X12_sign x I J 130 28 = T_X12_sign_j76 x I J ∧ S1_X12_sign x I J 130 29 = x := by
    unfold S1_X12_sign
    exact ⟨(u2_n _ _ (by omega)).trans (u2_s _ _ _ _), u2_s _ _ _ _⟩
  have k : ∀ {I1 : SI} {v : Int32}, u2 I1 130 29 v 130 28 = I1 130 28 := fun {I1 v} => u2_n _ _ (by omega)
  have b1 : T_X12_sign_j106 x I J 130 28 = T_X12_sign_j76 x I J ∧ (T_X12_sign_j106 x I J 130 29 = x ∨ T_X12_sign_j106 x I J 130 29 = 256) := by
    unfold T_X12_sign_j106
    repeat' split
    · exact ⟨k.trans a0.1, Or.inr (u2_s _ _ _ _)⟩
    · exact ⟨a0.1, Or.inl a0.2⟩
    · exact ⟨a0.1, Or.inl a0.2⟩
  have b2 : T_X12_sign_j128 x I J 130 28 = T_X12_sign_j76 x I J ∧ (T_X12_sign_j128 x I J 130 29 = x ∨ T_X12_sign_j128 x I J 130 29 = 256 ∨ T_X12_sign_j128 x I J 130 29 = 257) := by
    unfold T_X12_sign_j128
    repeat' split
    · exact ⟨k.trans b1.1, Or.inr (Or.inr (u2_s _ _ _ _))⟩
    · exact ⟨b1.1, b1.2.imp_right Or.inl⟩
    · exact ⟨b1.1, b1.2.imp_right Or.inl⟩
  have b3 : T_X12_sign_j150 x I J 130 28 = T_X12_sign_j76 x I J ∧ (T_X12_sign_j150 x I J 130 29 = x ∨ T_X12_sign_j150 x I J 130 29 = 256 ∨ T_X12_sign_j150 x I J 130 29 = 257 ∨ T_X12_sign_j150 x I J 130 29 = 258) := by
    unfold T_X12_sign_j150
    repeat' split
    · exact ⟨k.trans b2.1, Or.inr (Or.inr (Or.inr (u2_s _ _ _ _)))⟩
    · exact ⟨b2.1, b2.2.imp_right (fun q => q.imp_right Or.inl)⟩
    · exact ⟨b2.1, b2.2.imp_right (fun q => q.imp_right Or.inl)⟩
  have t : T_X12_sign_j76 x I J = 5 ∨ (T_X12_sign_j76 x I J = 3 ∧ x ≠ 260) := by
    unfold T_X12_sign_j76
    repeat' split
    all_goals first
      | exact Or.inl rfl
      | (rename_i q; exact Or.inr ⟨rfl, by rw [q]; decide⟩)
  have v : VS (T_X12_sign_j150 x I J) := by
    rcases t with t | t
    · exact VS.no (by rw [b3.1, t]; decide) (by rw [b3.1, t]; decide)
    · refine ⟨fun _ => ?_, fun h => absurd h (by rw [b3.1, t.1]; decide)⟩
      rcases b3.2 with q | q | q | q
      · rw [q]; exact t.2
      · rw [q]; decide
      · rw [q]; decide
      · rw [q]; decide
  unfold FI_X12_sign
  split
  · exact v
  · unfold S2_X12_sign
    exact v.of (u2_n _ _ (by omega)) (u2_n _ _ (by omega))
theorem t162 {I : SI} {J : SJ} (h : TM I) : TM (u2 (S4_X12_token I J) 130 29 0) := by
  have L0 := whl (f := B_X12_token_w0 I J) (s0 := I) (fun s => TM s) (fun s => TM s) (fun s => siz s - psn s) h (by have := h.1.2; show siz I - _ < 800; unfold siz; omega) (fun s s' hs hf => by
    have c : ¬ s 130 25 ≤ s 130 26 ∧ s' = u2 s 130 26 (s 130 26 + 1) := by
      unfold B_X12_token_w0 at hf
      split at hf
      · rename_i q
        exact ⟨here_no q (by decide), (Sum.inl.inj hf).symm⟩
      · split at hf
        · rename_i q
          exact ⟨here_no q (by decide), (Sum.inl.inj hf).symm⟩
        · cases hf
    have k2 := hs.nx c.1
    have l := (hs.lt c.1).1
    rw [c.2]
    exact ⟨k2.1, by rw [k2.2.2, siz_u (by omega)]; omega⟩) (fun s r hs hf => by
    unfold B_X12_token_w0 at hf
    repeat' split at hf
    all_goals cases hf
    exact hs)
  have g0 : TM (F_X12_token_w0 I J I) := by unfold F_X12_token_w0; exact L0.2.2 _
  unfold S4_X12_token
  exact ((g0.u (by omega)).u (by omega)).u (by omega)
theorem tok_V {I : SI} {J : SJ} (h : TM I) : VS (FI_X12_token I J) := by
  unfold FI_X12_token
  by_cases c : F_X12_here (u2 (F_X12_token_w0 I J I) 130 27 (((F_X12_token_w0 I J I)) 130 26)) J = -1
  · rw [if_pos c]
    unfold S11_X12_token
    have e : ∀ X : SI, u2 X 130 28 4 130 28 = 4 := fun X => u2_s _ _ _ _
    exact VS.no (by rw [e]; decide) (by rw [e]; decide)
  · rw [if_neg c]
    by_cases d : S1_X12_token I J = 0
    · rw [if_pos d]
      by_cases d2 : S2_X12_token I J = 0
      · rw [if_pos d2]
        unfold S3_X12_token
        exact sign_V
      · rw [if_neg d2]
        have fin : F_X12_token_w162 I J (u2 (S4_X12_token I J) 130 29 0) 130 28 = 2 := by
          have L := whl (f := B_X12_token_w162 I J) (s0 := u2 (S4_X12_token I J) 130 29 0) (fun s => TM s ∧ s 130 28 = 2) (fun s => s 130 28 = 2) (fun s => siz s - psn s) ⟨?_, ?_⟩ ?_ (fun s s' hs hf => ?_) (fun s r hs hf => ?_)
          · unfold F_X12_token_w162
            exact L.2.2 _
          · exact t162 h
          · refine (u2_n _ _ (by omega)).trans ?_
            unfold S4_X12_token
            exact u2_s _ _ _ _
          · show siz _ - _ < 800
            have q := (t162 (J := J) h).1.2
            unfold siz
            omega
          · obtain ⟨c2, h2⟩ := inl_of hf
            have cs : ¬ s 130 25 ≤ s 130 26 := here_no2 (dgt_no c2)
            have l := (hs.1.lt cs).1
            have e : ∃ v : Int32, s' = u2 (u2 s 130 29 v) 130 26 ((u2 s 130 29 v) 130 26 + 1) := by
              split at h2
              · exact ⟨_, (Sum.inl.inj h2).symm⟩
              · exact ⟨_, (Sum.inl.inj h2).symm⟩
            obtain ⟨v, e⟩ := e
            have e5 : u2 s 130 29 v 130 25 = s 130 25 := u2_n _ _ (by omega)
            have e6 : u2 s 130 29 v 130 26 = s 130 26 := u2_n _ _ (by omega)
            have cc : ¬ u2 s 130 29 v 130 25 ≤ u2 s 130 29 v 130 26 := by rw [e5, e6]; exact cs
            have k := (hs.1.u (a := 130) (b := 29) (v := v) (by omega)).nx cc
            rw [e]
            refine ⟨⟨k.1, (u2_n _ _ (by omega)).trans ((u2_n _ _ (by omega)).trans hs.2)⟩, ?_⟩
            rw [k.2.2, siz_u (by omega), siz_u (by omega), psn_u (by omega)]
            omega
          · unfold B_X12_token_w162 at hf
            repeat' split at hf
            all_goals cases hf
            exact hs.2
        exact VS.no (by rw [fin]; decide) (by rw [fin]; decide)
    · rw [if_neg d]
      have e8 : S9_X12_token I J 130 28 = T_X12_token_j127 I J := by unfold S9_X12_token; exact u2_s _ _ _ _
      have e9 : S9_X12_token I J 130 29 = F_X12_word (S8_X12_token I J) J := by unfold S9_X12_token; exact (u2_n _ _ (by omega)).trans (u2_s _ _ _ _)
      have ew : (u2 (S8_X12_token I J) 130 29 (F_X12_word (S8_X12_token I J) J)) 130 29 = F_X12_word (S8_X12_token I J) J := u2_s _ _ _ _
      by_cases d2 : S9_X12_token I J 130 28 = 1
      · rw [if_pos d2]
        have en : FI_X12_name (S9_X12_token I J) J 130 28 = 1 := by
          have N : ∀ n, itN (B_X12_name_l7 (S9_X12_token I J) J) n (u2 (S9_X12_token I J) 130 29 0) 130 28 = 1 := fun n => itN_inv (P := fun s : SI => s 130 28 = 1) ((u2_n _ _ (by omega)).trans d2) (fun i s _ hs => by
            unfold B_X12_name_l7
            split
            · exact (u2_n _ _ (by omega)).trans hs
            · exact (u2_n _ _ (by omega)).trans hs)
          unfold FI_X12_name F_X12_name_l7
          exact N 6
        exact VS.no (by rw [en]; decide) (by rw [en]; decide)
      · rw [if_neg d2]
        unfold VS
        rw [e8, e9]
        unfold T_X12_token_j127
        rw [ew]
        by_cases w : F_X12_word (S8_X12_token I J) J = -1
        · rw [if_pos w]
          refine ⟨fun q => ?_, fun q => ?_⟩
          · split at q <;> exact absurd q (by decide)
          · split at q <;> exact absurd q (by decide)
        · rw [if_neg w]
          exact ⟨fun q => absurd q (by decide), fun _ => word_V.resolve_left w⟩
