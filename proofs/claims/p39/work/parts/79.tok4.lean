/-! both: a token alike -/
theorem sign_R {B t : SI} {J : SJ} {c p n : Nat} (hc : c < 256) (hn : n ≤ 700) (hp : p < n) (e25 : t 130 25 = nI n) (e26 : t 130 26 = nI p) (e31 : ∀ b, t 131 b = B 131 b) : ∃ (w : Int32) (x : Nat), KR1 130 (fun b => b = 26 ∨ b = 28 ∨ b = 29) t (FI_X12_sign (nI c) t J) ∧ FI_X12_sign (nI c) t J 130 28 = T_X12_sign_j76 (nI c) t J ∧ FI_X12_sign (nI c) t J 130 29 = w ∧ FI_X12_sign (nI c) t J 130 26 = nI (p + 1 + x) ∧ ((c = 60 ∧ sgn B n (p + 1) = 61 ∧ w = 256 ∧ x = 1) ∨ (c = 60 ∧ sgn B n (p + 1) = 62 ∧ w = 257 ∧ x = 1) ∨ (c = 62 ∧ sgn B n (p + 1) = 61 ∧ w = 258 ∧ x = 1) ∨ (w = nI c ∧ x = 0 ∧ ¬ (c = 60 ∧ (sgn B n (p + 1) = 61 ∨ sgn B n (p + 1) = 62)) ∧ ¬ (c = 62 ∧ sgn B n (p + 1) = 61))) := by
  have k1 : KR1 130 (fun b => b = 26 ∨ b = 28 ∨ b = 29) t (S1_X12_sign (nI c) t J) := by
    unfold S1_X12_sign
    exact (((KR1.rf _ _ _).u (Or.inl rfl)).u (Or.inr (Or.inl rfl))).u (Or.inr (Or.inr rfl))
  have f1 : S1_X12_sign (nI c) t J 130 26 = nI (p + 1) := by
    unfold S1_X12_sign
    exact (u2_n _ _ (by omega)).trans ((u2_n _ _ (by omega)).trans ((u2_s _ _ _ _).trans (by rw [e26, nI_1])))
  have g1 : S1_X12_sign (nI c) t J 130 28 = T_X12_sign_j76 (nI c) t J := by
    unfold S1_X12_sign
    exact (u2_n _ _ (by omega)).trans (u2_s _ _ _ _)
  have h1 : S1_X12_sign (nI c) t J 130 29 = nI c := by
    unfold S1_X12_sign
    exact u2_s _ _ _ _
  have hr : ∀ U : SI, KR1 130 (fun b => b = 26 ∨ b = 28 ∨ b = 29) t U → U 130 26 = nI (p + 1) → F_X12_here U J = sgn B n (p + 1) := fun U k e => here_v hn (by omega) ((k 130 25 (by omega)).trans e25) e (fun b => (k 131 b (by omega)).trans (e31 b))
  have st : ∀ (w : Int32), KR1 130 (fun b => b = 26 ∨ b = 28 ∨ b = 29) t (u2 (S1_X12_sign (nI c) t J) 130 29 w) ∧ u2 (S1_X12_sign (nI c) t J) 130 29 w 130 26 = nI (p + 1) ∧ u2 (S1_X12_sign (nI c) t J) 130 29 w 130 28 = T_X12_sign_j76 (nI c) t J ∧ u2 (S1_X12_sign (nI c) t J) 130 29 w 130 29 = w := fun w => ⟨k1.u (Or.inr (Or.inr rfl)), (u2_n _ _ (by omega)).trans f1, (u2_n _ _ (by omega)).trans g1, u2_s _ _ _ _⟩
  have fin : ∀ (U : SI), U = T_X12_sign_j150 (nI c) t J → KR1 130 (fun b => b = 26 ∨ b = 28 ∨ b = 29) t U → U 130 26 = nI (p + 1) → U 130 28 = T_X12_sign_j76 (nI c) t J → (U 130 29 < 256 → FI_X12_sign (nI c) t J = U) ∧ (¬ U 130 29 < 256 → KR1 130 (fun b => b = 26 ∨ b = 28 ∨ b = 29) t (FI_X12_sign (nI c) t J) ∧ FI_X12_sign (nI c) t J 130 28 = T_X12_sign_j76 (nI c) t J ∧ FI_X12_sign (nI c) t J 130 29 = U 130 29 ∧ FI_X12_sign (nI c) t J 130 26 = nI (p + 1 + 1)) := fun U e k a b => by
    unfold FI_X12_sign S2_X12_sign
    rw [← e]
    refine ⟨fun z => if_pos z, fun z => ?_⟩
    rw [if_neg z]
    exact ⟨k.u (Or.inl rfl), (u2_n _ _ (by omega)).trans b, u2_n _ _ (by omega), (u2_s _ _ _ _).trans (by rw [a, nI_1])⟩
  by_cases c60 : c = 60
  · have i60 : nI c = 60 := by rw [c60]; rfl
    have n62 : ¬ nI c = 62 := by rw [i60]; decide
    by_cases d1 : sgn B n (p + 1) = 61
    · have t1 : T_X12_sign_j106 (nI c) t J = u2 (S1_X12_sign (nI c) t J) 130 29 256 := by
        unfold T_X12_sign_j106
        rw [if_pos i60, if_pos ((hr _ k1 f1).trans d1)]
      have t2 : T_X12_sign_j128 (nI c) t J = u2 (S1_X12_sign (nI c) t J) 130 29 256 := by
        unfold T_X12_sign_j128
        rw [t1, if_pos i60, if_neg (by rw [hr _ (st _).1 (st _).2.1, d1]; decide)]
      have t3 : T_X12_sign_j150 (nI c) t J = u2 (S1_X12_sign (nI c) t J) 130 29 256 := by
        unfold T_X12_sign_j150
        rw [if_neg n62, t2]
      have z := (fin _ t3.symm (st _).1 (st _).2.1 (st _).2.2.1).2 (by rw [(st _).2.2.2]; decide)
      exact ⟨256, 1, z.1, z.2.1, z.2.2.1.trans (st _).2.2.2, z.2.2.2, Or.inl ⟨c60, d1, rfl, rfl⟩⟩
    · have t1 : T_X12_sign_j106 (nI c) t J = S1_X12_sign (nI c) t J := by
        unfold T_X12_sign_j106
        rw [if_pos i60, if_neg (by rw [hr _ k1 f1]; exact d1)]
      by_cases d2 : sgn B n (p + 1) = 62
      · have t2 : T_X12_sign_j128 (nI c) t J = u2 (S1_X12_sign (nI c) t J) 130 29 257 := by
          unfold T_X12_sign_j128
          rw [t1, if_pos i60, if_pos ((hr _ k1 f1).trans d2)]
        have t3 : T_X12_sign_j150 (nI c) t J = u2 (S1_X12_sign (nI c) t J) 130 29 257 := by
          unfold T_X12_sign_j150
          rw [if_neg n62, t2]
        have z := (fin _ t3.symm (st _).1 (st _).2.1 (st _).2.2.1).2 (by rw [(st _).2.2.2]; decide)
        exact ⟨257, 1, z.1, z.2.1, z.2.2.1.trans (st _).2.2.2, z.2.2.2, Or.inr (Or.inl ⟨c60, d2, rfl, rfl⟩)⟩
      · have t2 : T_X12_sign_j128 (nI c) t J = S1_X12_sign (nI c) t J := by
          unfold T_X12_sign_j128
          rw [t1, if_pos i60, if_neg (by rw [hr _ k1 f1]; exact d2)]
        have t3 : T_X12_sign_j150 (nI c) t J = S1_X12_sign (nI c) t J := by
          unfold T_X12_sign_j150
          rw [if_neg n62, t2]
        have z := (fin _ t3.symm k1 f1 g1).1 (by rw [h1, i60]; decide)
        rw [z]
        exact ⟨nI c, 0, k1, g1, h1, f1, Or.inr (Or.inr (Or.inr ⟨rfl, rfl, fun q => q.2.elim d1 d2, fun q => by omega⟩))⟩
  · have i60 : ¬ nI c = 60 := fun q => c60 ((nI_eq (b := 60) (by omega) (by omega)).mp q)
    have t1 : T_X12_sign_j106 (nI c) t J = S1_X12_sign (nI c) t J := by
      unfold T_X12_sign_j106
      rw [if_neg i60]
    have t2 : T_X12_sign_j128 (nI c) t J = S1_X12_sign (nI c) t J := by
      unfold T_X12_sign_j128
      rw [t1, if_neg i60]
    by_cases c62 : c = 62
    · have i62 : nI c = 62 := by rw [c62]; rfl
      by_cases d1 : sgn B n (p + 1) = 61
      · have t3 : T_X12_sign_j150 (nI c) t J = u2 (S1_X12_sign (nI c) t J) 130 29 258 := by
          unfold T_X12_sign_j150
          rw [t2, if_pos i62, if_pos ((hr _ k1 f1).trans d1)]
        have z := (fin _ t3.symm (st _).1 (st _).2.1 (st _).2.2.1).2 (by rw [(st _).2.2.2]; decide)
        exact ⟨258, 1, z.1, z.2.1, z.2.2.1.trans (st _).2.2.2, z.2.2.2, Or.inr (Or.inr (Or.inl ⟨c62, d1, rfl, rfl⟩))⟩
      · have t3 : T_X12_sign_j150 (nI c) t J = S1_X12_sign (nI c) t J := by
          unfold T_X12_sign_j150
          rw [t2, if_pos i62, if_neg (by rw [hr _ k1 f1]; exact d1)]
        have z := (fin _ t3.symm k1 f1 g1).1 (by rw [h1, i62]; decide)
        rw [z]
        exact ⟨nI c, 0, k1, g1, h1, f1, Or.inr (Or.inr (Or.inr ⟨rfl, rfl, fun q => c60 q.1, fun q => d1 q.2⟩))⟩
    · have i62 : ¬ nI c = 62 := fun q => c62 ((nI_eq (b := 62) (by omega) (by omega)).mp q)
      have t3 : T_X12_sign_j150 (nI c) t J = S1_X12_sign (nI c) t J := by
        unfold T_X12_sign_j150
        rw [if_neg i62, t2]
      have z := (fin _ t3.symm k1 f1 g1).1 (by rw [h1]; exact nI_lt (b := 256) hc (by decide))
      rw [z]
      exact ⟨nI c, 0, k1, g1, h1, f1, Or.inr (Or.inr (Or.inr ⟨rfl, rfl, fun q => c60 q.1, fun q => c62 q.1⟩))⟩
theorem kind_1 {c d : Int32} {I : SI} {J : SJ} (h1 : ¬ c = 40) (h2 : ¬ c = 41) (h3 : ¬ c = 42) (h4 : ¬ c = 43) (h5 : ¬ c = 45) (h6 : ¬ c = 47) (h7 : ¬ c = 59) (h8 : ¬ c = 60) (h9 : ¬ c = 61) (h10 : ¬ c = 62) : F_X8_kindOf c d I J = 1 := by
  unfold F_X8_kindOf
  rw [if_neg h1, if_neg h2, if_neg h3, if_neg h4, if_neg h5, if_neg h6, if_neg h7, if_neg h8, if_neg h9, if_neg h10]
  simp only [ite_self]
/-- a sign's kind, its length -/
theorem kind_R {c : Nat} {d w : Int32} {x : Nat} {I U : SI} {J J' : SJ} (hc : c < 256) (h : (c = 60 ∧ d = 61 ∧ w = 256 ∧ x = 1) ∨ (c = 60 ∧ d = 62 ∧ w = 257 ∧ x = 1) ∨ (c = 62 ∧ d = 61 ∧ w = 258 ∧ x = 1) ∨ (w = nI c ∧ x = 0 ∧ ¬ (c = 60 ∧ (d = 61 ∨ d = 62)) ∧ ¬ (c = 62 ∧ d = 61))) (v : Int32) : KV (F_X8_kindOf (nI c) d I J) v (T_X12_sign_j76 (nI c) U J') w ∧ (if F_X8_isPair (F_X8_kindOf (nI c) d I J) I J = 0 then 0 else 1) = x ∧ ¬ F_X8_kindOf (nI c) d I J = 0 := by
  have one : ∀ (i : Nat), i < 13 → F_X8_kindOf (nI c) d I J = nI (4 + i) → T_X12_sign_j76 (nI c) U J' = 3 → w = sgv i → KV (F_X8_kindOf (nI c) d I J) v (T_X12_sign_j76 (nI c) U J') w := fun i hi a b e => Or.inr (Or.inr (Or.inr (Or.inr (Or.inl ⟨i, hi, a, b, e⟩))))
  rcases h with ⟨rfl, rfl, rfl, rfl⟩ | ⟨rfl, rfl, rfl, rfl⟩ | ⟨rfl, rfl, rfl, rfl⟩ | ⟨rfl, rfl, n1, n2⟩
  · exact ⟨one 8 (by omega) rfl rfl rfl, rfl, (show ¬ nI (4 + 8) = 0 by decide)⟩
  · exact ⟨one 10 (by omega) rfl rfl rfl, rfl, (show ¬ nI (4 + 10) = 0 by decide)⟩
  · exact ⟨one 11 (by omega) rfl rfl rfl, rfl, (show ¬ nI (4 + 11) = 0 by decide)⟩
  · by_cases c1 : c = 59
    · subst c1; exact ⟨one 0 (by omega) rfl rfl rfl, rfl, (show ¬ nI (4 + 0) = 0 by decide)⟩
    by_cases c2 : c = 40
    · subst c2; exact ⟨one 1 (by omega) rfl rfl rfl, rfl, (show ¬ nI (4 + 1) = 0 by decide)⟩
    by_cases c3 : c = 41
    · subst c3; exact ⟨one 2 (by omega) rfl rfl rfl, rfl, (show ¬ nI (4 + 2) = 0 by decide)⟩
    by_cases c4 : c = 43
    · subst c4; exact ⟨one 3 (by omega) rfl rfl rfl, rfl, (show ¬ nI (4 + 3) = 0 by decide)⟩
    by_cases c5 : c = 45
    · subst c5; exact ⟨one 4 (by omega) rfl rfl rfl, rfl, (show ¬ nI (4 + 4) = 0 by decide)⟩
    by_cases c6 : c = 42
    · subst c6; exact ⟨one 5 (by omega) rfl rfl rfl, rfl, (show ¬ nI (4 + 5) = 0 by decide)⟩
    by_cases c7 : c = 47
    · subst c7; exact ⟨one 6 (by omega) rfl rfl rfl, rfl, (show ¬ nI (4 + 6) = 0 by decide)⟩
    by_cases c8 : c = 60
    · subst c8
      have d1 : ¬ d = 61 := fun q => n1 ⟨rfl, Or.inl q⟩
      have d2 : ¬ d = 62 := fun q => n1 ⟨rfl, Or.inr q⟩
      have e : F_X8_kindOf (nI 60) d I J = 11 := by
        show (if d = 61 then (12 : Int32) else if d = 62 then 14 else 11) = 11
        rw [if_neg d1, if_neg d2]
      rw [e] at one ⊢
      exact ⟨one 7 (by omega) rfl rfl rfl, rfl, (show ¬ nI (4 + 7) = 0 by decide)⟩
    by_cases c9 : c = 61
    · subst c9; exact ⟨one 9 (by omega) rfl rfl rfl, rfl, (show ¬ nI (4 + 9) = 0 by decide)⟩
    by_cases c10 : c = 62
    · subst c10
      have d1 : ¬ d = 61 := fun q => n2 ⟨rfl, q⟩
      have e : F_X8_kindOf (nI 62) d I J = 16 := by
        show (if d = 61 then (15 : Int32) else 16) = 16
        rw [if_neg d1]
      rw [e] at one ⊢
      exact ⟨one 12 (by omega) rfl rfl rfl, rfl, (show ¬ nI (4 + 12) = 0 by decide)⟩
    have ne : ∀ m : Nat, m < 256 → c ≠ m → ¬ nI c = nI m := fun m hm h q => h ((nI_eq (by omega) (by omega)).mp q)
    have e : F_X8_kindOf (nI c) d I J = 1 := kind_1 (ne 40 (by omega) c2) (ne 41 (by omega) c3) (ne 42 (by omega) c6) (ne 43 (by omega) c4) (ne 45 (by omega) c5) (ne 47 (by omega) c7) (ne 59 (by omega) c1) (ne 60 (by omega) c8) (ne 61 (by omega) c9) (ne 62 (by omega) c10)
    rw [e]
    refine ⟨Or.inr (Or.inl ⟨rfl, ?_⟩), rfl, by decide⟩
    unfold T_X12_sign_j76
    rw [if_neg (show ¬ nI c = 59 from ne 59 (by omega) c1), if_neg (show ¬ nI c = 40 from ne 40 (by omega) c2), if_neg (show ¬ nI c = 41 from ne 41 (by omega) c3), if_neg (show ¬ nI c = 43 from ne 43 (by omega) c4), if_neg (show ¬ nI c = 45 from ne 45 (by omega) c5), if_neg (show ¬ nI c = 42 from ne 42 (by omega) c6), if_neg (show ¬ nI c = 47 from ne 47 (by omega) c7), if_neg (show ¬ nI c = 60 from ne 60 (by omega) c8), if_neg (show ¬ nI c = 61 from ne 61 (by omega) c9), if_neg (show ¬ nI c = 62 from ne 62 (by omega) c10)]
/-- a token, alike -/
theorem tok_R {A B : SI} {J J' : SJ} {n p0 : Nat} (tp : TP A B) (wdA : WD A) (hn : n ≤ 700) (hp : p0 ≤ n) (a2 : A 81 2 = nI n) (b2 : B 130 25 = nI n) (a3 : A 81 3 = nI p0) (b3 : B 130 26 = nI p0) (a4 : A 81 4 = 0) : ∃ p r : Nat, p0 ≤ p ∧ p ≤ r ∧ r ≤ n ∧ KR1 81 (fun b => b ≠ 2 ∧ b ≠ 4) A (FI_X8_step A J) ∧ FI_X8_step A J 81 3 = nI r ∧ FI_X8_step A J 81 7 = nI p ∧ KR1 130 (fun b => 26 ≤ b ∧ b ≤ 29) B (FI_X12_token B J') ∧ FI_X12_token B J' 130 26 = nI r ∧ FI_X12_token B J' 130 27 = nI p ∧ KV (FI_X8_step A J 81 5) (FI_X8_step A J 81 6) (FI_X12_token B J' 130 28) (FI_X12_token B J' 130 29) ∧ (FI_X8_step A J 81 5 = 0 ∨ p0 < r) := by
  obtain ⟨p, h1, h2, k0, e3, m0, f6⟩ := skip_R (J := J) (J' := J') tp hn hp a2 b2 a3 b3
  have kS : KR1 81 (fun b => b = 3 ∨ b = 7) A (S1_X8_step A J) := by
    unfold S1_X8_step
    exact (k0.w (fun b z => Or.inl z)).u (Or.inr rfl)
  have s7 : S1_X8_step A J 81 7 = nI p := by unfold S1_X8_step; exact (u2_s _ _ _ _).trans e3
  have s3 : S1_X8_step A J 81 3 = nI p := by unfold S1_X8_step; exact (u2_n _ _ (by omega)).trans e3
  generalize hS : S1_X8_step A J = S at kS s7 s3
  have mT : KR1 130 (fun b => b = 26 ∨ b = 27) B (u2 (F_X12_token_w0 B J' B) 130 27 (F_X12_token_w0 B J' B 130 26)) := (m0.w (fun b z => Or.inl z)).u (Or.inr rfl)
  have t7 : (u2 (F_X12_token_w0 B J' B) 130 27 (F_X12_token_w0 B J' B 130 26)) 130 27 = nI p := (u2_s _ _ _ _).trans f6
  have t6 : (u2 (F_X12_token_w0 B J' B) 130 27 (F_X12_token_w0 B J' B 130 26)) 130 26 = nI p := (u2_n _ _ (by omega)).trans f6
  have q1 : S1_X12_token B J' = F_X12_isSmall (F_X12_here (u2 (F_X12_token_w0 B J' B) 130 27 (F_X12_token_w0 B J' B 130 26)) J') (u2 (F_X12_token_w0 B J' B) 130 27 (F_X12_token_w0 B J' B 130 26)) J' := rfl
  have q2 : S2_X12_token B J' = F_X12_isDigit (F_X12_here (u2 (F_X12_token_w0 B J' B) 130 27 (F_X12_token_w0 B J' B 130 26)) J') (u2 (F_X12_token_w0 B J' B) 130 27 (F_X12_token_w0 B J' B 130 26)) J' := rfl
  have q3 : S3_X12_token B J' = FI_X12_sign (F_X12_here (u2 (F_X12_token_w0 B J' B) 130 27 (F_X12_token_w0 B J' B 130 26)) J') (u2 (F_X12_token_w0 B J' B) 130 27 (F_X12_token_w0 B J' B 130 26)) J' := rfl
  have q4 : S4_X12_token B J' = u2 (u2 (F_X12_token_w0 B J' B) 130 27 (F_X12_token_w0 B J' B 130 26)) 130 28 2 := rfl
  have q8 : S8_X12_token B J' = F_X12_token_w64 B J' (u2 (F_X12_token_w0 B J' B) 130 27 (F_X12_token_w0 B J' B 130 26)) := rfl
  have q11 : S11_X12_token B J' = u2 (u2 (F_X12_token_w0 B J' B) 130 27 (F_X12_token_w0 B J' B 130 26)) 130 28 4 := rfl
  have r2 : S2_X8_step A J = F_X8_isLetter (F_X8_signAt (S 81 3) S J) S J := by rw [← hS]; rfl
  have r4 : S4_X8_step A J = F_X8_kindOf (F_X8_signAt (S 81 3) S J) (F_X8_signAt ((u2 S 81 3 (S 81 3 + 1)) 81 3) (u2 S 81 3 (S 81 3 + 1)) J) (u2 S 81 3 (S 81 3 + 1)) J := by rw [← hS]; rfl
  have r5 : S5_X8_step A J = u2 (u2 S 81 3 (S 81 3 + 1)) 81 5 (S4_X8_step A J) := by rw [← hS]; rfl
  unfold FI_X8_step FI_X12_token
  rw [if_pos a4, hS, r2, q1, q2, q3, q4, q11]
  generalize hT : u2 (F_X12_token_w0 B J' B) 130 27 (F_X12_token_w0 B J' B 130 26) = T at mT t7 t6 q8
  have S2 : S 81 2 = nI n := (kS 81 2 (by omega)).trans a2
  have T5 : T 130 25 = nI n := (mT 130 25 (by omega)).trans b2
  have tp2 : TP S T := fun b => by rw [kS 1 b (by omega), mT 131 b (by omega)]; exact tp b
  have sv : F_X8_signAt (S 81 3) S J = sgn T n p := by rw [s3]; exact sign_v tp2 hn (by omega) S2 (fun _ => rfl)
  have hv : F_X12_here T J' = sgn T n p := here_v hn (by omega) T5 t6 (fun _ => rfl)
  have wS : WD S := fun i hi => (kS 82 i (by omega)).trans (wdA i hi)
  rw [sv, hv]
  by_cases c : n ≤ p
  · rw [sgn_out c, if_neg (by decide), if_pos rfl]
    exact ⟨p, p, h1, Nat.le_refl _, h2, (kS.w (fun b z => by omega)).u (by omega), (u2_n _ _ (by omega)).trans s3, (u2_n _ _ (by omega)).trans s7, (mT.w (fun b z => by omega)).u (by omega), (u2_n _ _ (by omega)).trans t6, (u2_n _ _ (by omega)).trans t7, Or.inl ⟨u2_s _ _ _ _, u2_s _ _ _ _⟩, Or.inl (u2_s _ _ _ _)⟩
  · obtain ⟨q, hq, eq, eb⟩ := sgn_in tp2 (show p < n by omega)
    rw [eq, if_pos (nI_pos' (by omega)), if_neg (show ¬ nI q = -1 from fun z => absurd (nI_pos' (n := q) (by omega)) (by rw [z]; decide)), (let_v hq (I := S) (J := J)).2, (let_v hq (I := T) (J := J')).1, (dig_v hq (I := T) (J := J') (I' := S) (J' := J)).2, (dig_v hq (I := T) (J := J') (I' := S) (J' := J)).1]
    by_cases c1 : 97 ≤ q ∧ q ≤ 122
    · rw [if_pos c1, if_neg (by decide), if_neg (by decide)]
      obtain ⟨k, l1, lt, l2, l3, l4, l5, l6, l7, l8⟩ := lets_R (B0 := B) (J := J) (J' := J') tp2 hn h2 S2 T5 s3 t6
      rw [← q8] at l6 l7
      have lk := l8 (by omega) (by rw [eb, nI_clamp (by omega)]; exact c1)
      have w7 : S8_X12_token B J' 130 27 = nI p := (l6 130 27 (by omega)).trans t7
      have w31 : ∀ b, S8_X12_token B J' 131 b = T 131 b := fun b => l6 131 b (by omega)
      have wr := word_R (J := J') (by omega) w7 l7 w31
      have k9 : ∀ x y : Int32, KR1 130 (fun b => b = 26 ∨ b = 28 ∨ b = 29) T (u2 (u2 (S8_X12_token B J') 130 29 x) 130 28 y) ∧ (u2 (u2 (S8_X12_token B J') 130 29 x) 130 28 y) 130 26 = nI (p + k) ∧ (u2 (u2 (S8_X12_token B J') 130 29 x) 130 28 y) 130 27 = nI p ∧ (u2 (u2 (S8_X12_token B J') 130 29 x) 130 28 y) 130 28 = y ∧ (u2 (u2 (S8_X12_token B J') 130 29 x) 130 28 y) 130 29 = x := fun x y => ⟨((show KR1 130 (fun b => b = 26 ∨ b = 28 ∨ b = 29) T (S8_X12_token B J') from l6.w (fun b z => Or.inl z)).u (Or.inr (Or.inr rfl))).u (Or.inr (Or.inl rfl)), (u2_n _ _ (by omega)).trans ((u2_n _ _ (by omega)).trans l7), (u2_n _ _ (by omega)).trans ((u2_n _ _ (by omega)).trans w7), u2_s _ _ _ _, (u2_n _ _ (by omega)).trans (u2_s _ _ _ _)⟩
      have s10 : S10_X12_token B J' = nI k := by
        unfold S10_X12_token
        rw [u2_n _ _ (by omega), u2_n _ _ (by omega), l7, w7, pk_sub (by omega)]
        exact congrArg nI (by omega)
      have e29 : u2 (S8_X12_token B J') 130 29 (F_X12_word (S8_X12_token B J') J') 130 29 = F_X12_word (S8_X12_token B J') J' := u2_s _ _ _ _
      -- the class's result
      have cw : ∀ y : Int32, T_X8_word_j85 S J = y → KR1 81 (fun b => b ≠ 2 ∧ b ≠ 4) A (u2 (S1_X8_word S J) 81 5 y) ∧ (u2 (S1_X8_word S J) 81 5 y) 81 3 = nI (p + k) ∧ (u2 (S1_X8_word S J) 81 5 y) 81 7 = nI p ∧ (u2 (S1_X8_word S J) 81 5 y) 81 5 = y ∧ (u2 (S1_X8_word S J) 81 5 y) 81 6 = nI (PV (dg T p k)) ∧ WD (u2 (S1_X8_word S J) 81 5 y) := fun y _ => ⟨((kS.w (fun b z => by omega)).tr (l3.w (fun b z => by omega))).u (by omega), (u2_n _ _ (by omega)).trans l4, (u2_n _ _ (by omega)).trans ((l3 81 7 (by omega)).trans s7), u2_s _ _ _ _, (u2_n _ _ (by omega)).trans l5, fun i hi => (u2_n _ _ (by omega)).trans ((l3 82 i (by omega)).trans (wS i hi))⟩
      have le6 : k ≤ 6 → nI k ≤ (6 : Int32) := fun z => nI_le (b := 6) z (by omega)
      have nle6 : ¬ k ≤ 6 → ¬ nI k ≤ (6 : Int32) := fun z y => z ((nI_leI (b := 6) (by omega) (by omega)).mp y)
      have t85 : T_X8_word_j85 S J = if k ≤ 6 then 3 else 1 := by
        unfold T_X8_word_j85
        rw [l2]
        by_cases z : k ≤ 6
        · rw [if_pos (le6 z), if_pos z]
        · rw [if_neg (nle6 z), if_neg z]
      have mKR : ∀ {X : SI}, KR1 130 (fun b => b = 26 ∨ b = 28 ∨ b = 29) T X → KR1 130 (fun b => 26 ≤ b ∧ b ≤ 29) B X := fun x => (mT.w (fun b z => by omega)).tr (x.w (fun b z => by omega))
      unfold FI_X8_word S9_X12_token T_X12_token_j127
      rw [e29, s10, t85]
      by_cases k6 : k ≤ 6
      · rw [if_pos k6]
        have cc := cw 3 (by rw [t85, if_pos k6])
        have fr := find_R (A := S) (J := J) (fun j _ => dg_le lt j) cc.2.2.2.2.2 cc.2.2.2.1 cc.2.2.2.2.1
        have cA : KR1 81 (fun b => b ≠ 2 ∧ b ≠ 4) A (F_X8_word_w90 S J (0, u2 (S1_X8_word S J) 81 5 3)).2 := cc.1.tr (fr.1.w (fun b z => by omega))
        have c3' := (fr.1 81 3 (by omega)).trans cc.2.1
        have c7' := (fr.1 81 7 (by omega)).trans cc.2.2.1
        have c6' := (fr.1 81 6 (by omega)).trans cc.2.2.2.2.1
        rcases wr with ⟨i, hi, mi, mj, ew⟩ | ⟨no, ew⟩
        · have ni : ¬ nI i = -1 := fun z => absurd (nI_pos' (n := i) (by omega)) (by rw [z]; decide)
          rw [ew, if_neg ni, if_neg (by rw [(k9 _ _).2.2.2.1]; decide)]
          refine ⟨p, p + k, h1, by omega, l1, cA, c3', c7', mKR (k9 _ _).1, (k9 _ _).2.1, (k9 _ _).2.2.1, ?_, Or.inr (by omega)⟩
          rw [(k9 _ _).2.2.2.1, (k9 _ _).2.2.2.2]
          have di := ((mt_dg lt hi).mp mi).2
          rcases fr.2 with ⟨i2, hi2, di2, dj2, e5⟩ | ⟨no2, _⟩
          · have : i = i2 := by
              rcases Nat.lt_trichotomy i i2 with z | z | z
              · exact absurd di (dj2 i z)
              · exact z
              · exact absurd ((mt_dg lt hi2).mpr ⟨k6, di2⟩) (mj i2 z)
            rw [e5, this]
            exact Or.inr (Or.inr (Or.inr (Or.inr (Or.inr ⟨i2, hi2, rfl, rfl, rfl⟩))))
          · exact absurd di (no2 i hi)
        · have nm := name_R (J := J') (t := u2 (u2 (S8_X12_token B J') 130 29 (-1)) 130 28 1) (by omega) lt (k9 _ _).2.2.1 (k9 _ _).2.1 (fun b => (k9 _ _).1 131 b (by omega))
          rw [ew, if_pos rfl, if_pos (le6 k6), if_pos (k9 _ _).2.2.2.1]
          refine ⟨p, p + k, h1, by omega, l1, cA, c3', c7', mKR ((k9 _ _).1.tr (nm.1.w (fun b z => Or.inr (Or.inr z)))), (nm.1 130 26 (by omega)).trans (k9 _ _).2.1, (nm.1 130 27 (by omega)).trans (k9 _ _).2.2.1, ?_, Or.inr (by omega)⟩
          rcases fr.2 with ⟨i2, hi2, di2, dj2, e5⟩ | ⟨no2, e5⟩
          · exact absurd ((mt_dg lt hi2).mpr ⟨k6, di2⟩) (no i2 hi2)
          · exact Or.inr (Or.inr (Or.inr (Or.inl ⟨e5, (nm.1 130 28 (by omega)).trans (k9 _ _).2.2.2.1, c6'.trans nm.2.symm⟩)))
      · rw [if_neg k6]
        have cc := cw 1 (by rw [t85, if_neg k6])
        have st : (F_X8_word_w90 S J (0, u2 (S1_X8_word S J) 81 5 1)).2 = u2 (S1_X8_word S J) 81 5 1 := by
          unfold F_X8_word_w90
          have z : B_X8_word_w90 S J (0, u2 (S1_X8_word S J) 81 5 1) = .inr (0, u2 (S1_X8_word S J) 81 5 1) := by
            unfold B_X8_word_w90
            rw [if_neg (show ¬ (23 : Int32) ≤ 0 by decide), if_neg (show ¬ u2 (S1_X8_word S J) 81 5 1 81 5 = 3 from by rw [cc.2.2.2.1]; decide)]
          rw [itW_x z]
          rfl
        rw [st]
        rcases wr with ⟨i, hi, mi, mj, ew⟩ | ⟨no, ew⟩
        · exact absurd ((mt_dg lt hi).mp mi).1 k6
        · rw [ew, if_pos rfl, if_neg (nle6 k6), if_neg (by rw [(k9 _ _).2.2.2.1]; decide)]
          exact ⟨p, p + k, h1, by omega, l1, cc.1, cc.2.1, cc.2.2.1, mKR (k9 _ _).1, (k9 _ _).2.1, (k9 _ _).2.2.1, Or.inr (Or.inl ⟨cc.2.2.2.1, (k9 _ _).2.2.2.1⟩), Or.inr (by omega)⟩
    · rw [if_neg c1, if_pos rfl, if_pos rfl]
      by_cases c2 : 48 ≤ q ∧ q ≤ 57
      · rw [if_pos c2, if_neg (by decide), if_neg (by decide)]
        obtain ⟨i, l1, l2, l3, l4, l5, l6, l7, l8, l9, l10⟩ := numb_R (B0 := B) (J := J) (J' := J') tp2 hn h2 S2 T5 s3 t6
        have lk := l10 (by omega) (by rw [eb, nI_clamp (by omega)]; exact c2)
        exact ⟨p, i, h1, l1, l2, (kS.w (fun b z => by omega)).tr (l3.w (fun b z => by omega)), l4, (l3 81 7 (by omega)).trans s7, (mT.w (fun b z => by omega)).tr (l6.w (fun b z => by omega)), l7, (l6 130 27 (by omega)).trans t7, Or.inr (Or.inr (Or.inl ⟨l5, l8, l9⟩)), Or.inr (by omega)⟩
      · rw [if_neg c2, if_pos rfl, if_pos rfl, r5, r4, sv, eq]
        have S31 : u2 S 81 3 (S 81 3 + 1) 81 3 = nI (p + 1) := by rw [u2_s, s3, nI_1]
        have dv : F_X8_signAt ((u2 S 81 3 (S 81 3 + 1)) 81 3) (u2 S 81 3 (S 81 3 + 1)) J = sgn T n (p + 1) := by
          rw [S31]
          exact sign_v tp2 hn (by omega) ((u2_n _ _ (by omega)).trans S2) (fun b => u2_n _ _ (by omega))
        rw [dv]
        obtain ⟨w, x, g1, g2, g3, g4, g5⟩ := sign_R (J := J') hq hn (show p < n by omega) T5 t6 (fun _ => rfl)
        have kr := kind_R (I := u2 S 81 3 (S 81 3 + 1)) (J := J) (U := T) (J' := J') hq g5
        have x1 : p + 1 + x ≤ n := by
          rcases g5 with ⟨-, z, -, rfl⟩ | ⟨-, z, -, rfl⟩ | ⟨-, z, -, rfl⟩ | ⟨-, rfl, -⟩
          · by_cases y : n ≤ p + 1
            · rw [sgn_out y] at z; exact absurd z (by decide)
            · omega
          · by_cases y : n ≤ p + 1
            · rw [sgn_out y] at z; exact absurd z (by decide)
            · omega
          · by_cases y : n ≤ p + 1
            · rw [sgn_out y] at z; exact absurd z (by decide)
            · omega
          · omega
        generalize F_X8_kindOf (nI q) (sgn T n (p + 1)) (u2 S 81 3 (S 81 3 + 1)) J = K at kr
        have k5 : u2 (u2 S 81 3 (S 81 3 + 1)) 81 5 K 81 5 = K := u2_s _ _ _ _
        have k3 : u2 (u2 S 81 3 (S 81 3 + 1)) 81 5 K 81 3 = nI (p + 1) := (u2_n _ _ (by omega)).trans S31
        have ip : F_X8_isPair (u2 (u2 S 81 3 (S 81 3 + 1)) 81 5 K 81 5) (u2 (u2 S 81 3 (S 81 3 + 1)) 81 5 K) J = F_X8_isPair K (u2 S 81 3 (S 81 3 + 1)) J := by rw [k5]; rfl
        have res : (if F_X8_isPair (u2 (u2 S 81 3 (S 81 3 + 1)) 81 5 K 81 5) (u2 (u2 S 81 3 (S 81 3 + 1)) 81 5 K) J = 0 then u2 (u2 (u2 S 81 3 (S 81 3 + 1)) 81 5 K) 81 3 (u2 (u2 S 81 3 (S 81 3 + 1)) 81 5 K 81 3 + 0) else u2 (u2 (u2 S 81 3 (S 81 3 + 1)) 81 5 K) 81 3 (u2 (u2 S 81 3 (S 81 3 + 1)) 81 5 K 81 3 + 1)) = u2 (u2 (u2 S 81 3 (S 81 3 + 1)) 81 5 K) 81 3 (nI (p + 1 + x)) := by
          have kx := (kr 0).2.1
          rw [ip, k3]
          by_cases z : F_X8_isPair K (u2 S 81 3 (S 81 3 + 1)) J = 0
          · rw [if_pos z] at kx
            rw [if_pos z, ← kx, Int32.add_zero]
          · rw [if_neg z] at kx
            rw [if_neg z, ← kx, nI_1]
        rw [res]
        refine ⟨p, p + 1 + x, h1, by omega, x1, (((kS.w (fun b z => by omega)).u (by omega)).u (by omega)).u (by omega), u2_s _ _ _ _, (u2_n _ _ (by omega)).trans ((u2_n _ _ (by omega)).trans ((u2_n _ _ (by omega)).trans s7)), (mT.w (fun b z => by omega)).tr (g1.w (fun b z => by omega)), g4, (g1 130 27 (by omega)).trans t7, ?_, Or.inr (by omega)⟩
        rw [g2, g3, show u2 (u2 (u2 S 81 3 (S 81 3 + 1)) 81 5 K) 81 3 (nI (p + 1 + x)) 81 5 = K from (u2_n _ _ (by omega)).trans (u2_s _ _ _ _)]
        exact (kr _).1
