/-! both: what was done by call, and can be undone -/
/-- an undo's entry put back -/
def tbk (k w v : Int32) (X : SI) : SI := if k = 0 then putF X 93 4 w v else (if k = 1 then putF X 87 8 w v else putF X 91 6 w v)
def TBK (S : SI) : SI := FI_X10_takeBack 86 S (fun _ _ => 0)
theorem TBK.v {n : Nat} {S : SI} (e : S 120 0 = nI (n + 1)) (hn : n < 20) : TBK S = tbk (S 121 n) (S 122 n) (S 123 n) (u2 S 120 0 (nI n)) := by
  have p : (0 : Int32) < S 120 0 := by rw [e]; exact (nI_ltI (a := 0) (by omega) (by omega)).mpr (by omega)
  have m : S 120 0 - 1 = nI n := by rw [e]; exact pk_sub (b := 1) (by omega)
  unfold TBK FI_X10_takeBack S1_X10_takeBack S2_X10_takeBack S3_X10_takeBack tbk
  rw [if_pos p, m, u2_s, atF_v (by omega) (by omega), atF_v (by omega) (by omega), atF_v (by omega) (by omega), u2_n _ _ (show ¬ ((121 : Nat) = 120 ∧ n = 0) by omega), u2_n _ _ (show ¬ ((122 : Nat) = 120 ∧ n = 0) by omega), u2_n _ _ (show ¬ ((123 : Nat) = 120 ∧ n = 0) by omega)]
theorem putF_cg {r len a b : Nat} {i x : Int32} {X Y : SI} (h : X a b = Y a b) : putF X r len i x a b = putF Y r len i x a b := by
  unfold putF
  split
  · exact h
  · split
    · exact h
    · by_cases q : a = r ∧ b = i.toNatClampNeg
      · rw [q.1, q.2, u2_s, u2_s]
      · rw [u2_n _ _ q, u2_n _ _ q]; exact h
theorem tbk_cg {k w v : Int32} {a b : Nat} {X Y : SI} (h : X a b = Y a b) : tbk k w v X a b = tbk k w v Y a b := by
  unfold tbk
  split
  · exact putF_cg h
  · split
    · exact putF_cg h
    · exact putF_cg h
theorem tbk_n {k w v : Int32} {a b : Nat} {X : SI} (h : a < 86 ∨ 94 < a) : tbk k w v X a b = X a b := by
  unfold tbk
  repeat' split
  all_goals exact putF_n (by omega)
/-- n calls to be undone, the latest ones first: each leads to the scene that the reference keeps -/
def UN (nm ns : Nat) (JA : SJ) (B : SI) : Nat → SI → Prop
  | 0, S => S 120 0 = 0
  | n + 1, S => S 120 0 = nI (n + 1) ∧ SCT 86 (3 + n) nm ns (TBK S) JA B ∧ UN nm ns JA B n (TBK S)
theorem UN.n {nm ns : Nat} {JA : SJ} {B : SI} {n : Nat} {S : SI} (h : UN nm ns JA B n S) : S 120 0 = nI n := by
  cases n with
  | zero => exact h
  | succ n => exact h.1
/-- by cells alone -/
theorem UN.cg {nm ns : Nat} {JA JA' : SJ} {B B' : SI} (hn : ns ≤ 8) (ej : JA' 86 6 = JA 86 6) : ∀ (n : Nat) (S S' : SI), n ≤ 20 → UN nm ns JA B n S → (∀ a b, (86 ≤ a ∧ a ≤ 94) ∨ (a = 120 ∧ b = 0) ∨ (121 ≤ a ∧ a ≤ 123 ∧ b < n) → S' a b = S a b) → (∀ f a b, 3 ≤ f → f < 3 + n → inS f a b → B' a b = B a b) → UN nm ns JA' B' n S' := by
  intro n
  induction n with
  | zero => intro S S' _ h e _; exact (e 120 0 (by omega)).trans h
  | succ n ih =>
    intro S S' h20 h e eb
    obtain ⟨h1, h2, h3⟩ := h
    have c1 : S' 120 0 = nI (n + 1) := (e 120 0 (by omega)).trans h1
    have t := TBK.v h1 (by omega)
    have t' := TBK.v c1 (by omega)
    rw [e 121 n (by omega), e 122 n (by omega), e 123 n (by omega)] at t'
    have cell : ∀ a b, (86 ≤ a ∧ a ≤ 94) ∨ (a = 120 ∧ b = 0) ∨ (121 ≤ a ∧ a ≤ 123 ∧ b < n) → TBK S' a b = TBK S a b := fun a b q => by
      rw [t, t']
      refine tbk_cg ?_
      by_cases y : a = 120 ∧ b = 0
      · rw [y.1, y.2, u2_s, u2_s]
      · rw [u2_n _ _ y, u2_n _ _ y]
        exact e a b (by omega)
    exact ⟨c1, h2.mv hn (fun a b x y => cell a b (by omega)) ej (fun a b q => eb (3 + n) a b (by omega) (by omega) q), ih _ _ (by omega) h3 cell (fun f a b x y q => eb f a b x (by omega) q)⟩
/-- the oldest one forgotten -/
theorem UN.shift {nm ns : Nat} {JA : SJ} {B B' : SI} (hn : ns ≤ 8) : ∀ (n : Nat) (S S' : SI), n < 20 → UN nm ns JA B (n + 1) S → S' 120 0 = nI n → (∀ a b, 86 ≤ a → a ≤ 94 → S' a b = S a b) → (∀ a b, 121 ≤ a → a ≤ 123 → b < n → S' a b = S a (b + 1)) → (∀ j a i, j < n → 154 ≤ a → a ≤ 167 → i < szm a → B' a (szm a * (3 + j) + i) = B a (szm a * (3 + (j + 1)) + i)) → UN nm ns JA B' n S' := by
  intro n
  induction n with
  | zero => intro S S' _ _ c _ _ _; exact c
  | succ n ih =>
    intro S S' h20 h c e1 e2 eb
    obtain ⟨h1, h2, h3⟩ := h
    have t := TBK.v h1 (by omega)
    have t' := TBK.v c (by omega)
    rw [e2 121 n (by omega) (by omega) (by omega), e2 122 n (by omega) (by omega) (by omega), e2 123 n (by omega) (by omega) (by omega)] at t'
    have cell : ∀ a b, 86 ≤ a → a ≤ 94 → TBK S' a b = TBK S a b := fun a b x y => by
      rw [t, t']
      refine tbk_cg ?_
      rw [u2_n _ _ (by omega), u2_n _ _ (by omega)]
      exact e1 a b x y
    have c2 : TBK S' 120 0 = nI n := by
      rw [t', tbk_n (by omega), u2_s]
    refine ⟨c, h2.tr hn (fun j b x _ => cell (86 + j) b (by omega) (by omega)) rfl (fun a i x y z => eb n a i (by omega) x y z), ih (TBK S) (TBK S') (by omega) h3 c2 cell (fun a b x y z => ?_) (fun j a i x y z w => eb j a i (by omega) y z w)⟩
    rw [t, t', tbk_n (by omega), tbk_n (by omega), u2_n _ _ (by omega), u2_n _ _ (by omega)]
    exact e2 a b x y (by omega)
/-- an entry more, of the class -/
theorem uadd_v {n : Nat} {k w v : Int32} {A : SI} {J : SJ} (e : A 120 0 = nI n) (hn : n < 20) : FI_X10_add k w v A J = u2 (u2 (u2 (u2 A 121 n k) 122 n w) 123 n v) 120 0 (nI (n + 1)) := by
  have t : T_X10_add_j60 k w v A J = A := by
    unfold T_X10_add_j60
    rw [if_pos (show A 120 0 < 20 by rw [e]; exact (nI_ltI (b := 20) (by omega) (by omega)).mpr hn)]
  have s1 : S1_X10_add k w v A J = u2 A 121 n k := by
    unfold S1_X10_add
    rw [t, e, putF_v hn (by omega)]
  have s2 : S2_X10_add k w v A J = u2 (u2 A 121 n k) 122 n w := by
    unfold S2_X10_add
    rw [s1, u2_n _ _ (show ¬ ((120 : Nat) = 121 ∧ 0 = n) by omega), e, putF_v hn (by omega)]
  have s3 : S3_X10_add k w v A J = u2 (u2 (u2 A 121 n k) 122 n w) 123 n v := by
    unfold S3_X10_add
    rw [s2, u2_n _ _ (show ¬ ((120 : Nat) = 122 ∧ 0 = n) by omega), u2_n _ _ (show ¬ ((120 : Nat) = 121 ∧ 0 = n) by omega), e, putF_v hn (by omega)]
  unfold FI_X10_add S4_X10_add
  rw [s3, u2_n _ _ (show ¬ ((120 : Nat) = 123 ∧ 0 = n) by omega), u2_n _ _ (show ¬ ((120 : Nat) = 122 ∧ 0 = n) by omega), u2_n _ _ (show ¬ ((120 : Nat) = 121 ∧ 0 = n) by omega), e, nI_1]
/-- the class's entries when there are twenty: the first one goes -/
def SHF (A : SI) : SI := fun a b => if 121 ≤ a ∧ a ≤ 123 ∧ b < 19 then A a (b + 1) else (if a = 120 ∧ b = 0 then 19 else A a b)
theorem uadd_20 {k w v : Int32} {A : SI} {J : SJ} (e : A 120 0 = nI 20) : FI_X10_add k w v A J = FI_X10_add k w v (SHF A) J := by
  have c0 : ∀ a b, 121 ≤ a → a ≤ 123 → va_cpy (A a) (A a) 1 0 19 b = SHF A a b := fun a b x y => by
    by_cases z : b < 19
    · rw [pk_cpy_in (by omega) (by omega)]
      unfold SHF
      rw [if_pos ⟨x, y, z⟩, show 1 + (b - 0) = b + 1 by omega]
    · rw [pk_cpy_out (by omega)]
      unfold SHF
      rw [if_neg (by omega), if_neg (by omega)]
  have n1 : u2 A 120 0 19 121 = A 121 := funext fun c => u2_n _ _ (by omega)
  have n2 : u2 A 120 0 19 122 = A 122 := funext fun c => u2_n _ _ (by omega)
  have n3 : u2 A 120 0 19 123 = A 123 := funext fun c => u2_n _ _ (by omega)
  have s5 : ∀ a, S5_X10_add k w v A J a = if a = 121 then va_cpy (u2 A 120 0 19 121) (u2 A 120 0 19 121) 1 0 19 else u2 A 120 0 19 a := fun _ => rfl
  have s6 : ∀ a, S6_X10_add k w v A J a = if a = 122 then va_cpy (S5_X10_add k w v A J 122) (S5_X10_add k w v A J 122) 1 0 19 else S5_X10_add k w v A J a := fun _ => rfl
  have s7 : ∀ a, S7_X10_add k w v A J a = if a = 123 then va_cpy (S6_X10_add k w v A J 123) (S6_X10_add k w v A J 123) 1 0 19 else S6_X10_add k w v A J a := fun _ => rfl
  have r52 : S5_X10_add k w v A J 122 = A 122 := by rw [s5, if_neg (show ¬ (122 : Nat) = 121 by omega), n2]
  have r63 : S6_X10_add k w v A J 123 = A 123 := by rw [s6, if_neg (show ¬ (123 : Nat) = 122 by omega), s5, if_neg (show ¬ (123 : Nat) = 121 by omega), n3]
  have t : T_X10_add_j60 k w v A J = SHF A := by
    unfold T_X10_add_j60
    rw [if_neg (show ¬ A 120 0 < 20 by rw [e]; decide)]
    funext a b
    rw [s7]
    by_cases h3 : a = 123
    · subst h3
      rw [if_pos rfl, r63]
      exact c0 123 b (by omega) (by omega)
    · rw [if_neg h3, s6]
      by_cases h2 : a = 122
      · subst h2
        rw [if_pos rfl, r52]
        exact c0 122 b (by omega) (by omega)
      · rw [if_neg h2, s5]
        by_cases h1 : a = 121
        · subst h1
          rw [if_pos rfl, n1]
          exact c0 121 b (by omega) (by omega)
        · rw [if_neg h1]
          unfold SHF u2
          rw [if_neg (show ¬ (121 ≤ a ∧ a ≤ 123 ∧ b < 19) by omega)]
  have t' : T_X10_add_j60 k w v (SHF A) J = SHF A := by
    unfold T_X10_add_j60
    have c : SHF A 120 0 = 19 := rfl
    rw [c, if_pos (show (19 : Int32) < 20 by decide)]
  unfold FI_X10_add S4_X10_add S3_X10_add S2_X10_add S1_X10_add
  rw [t, t']
