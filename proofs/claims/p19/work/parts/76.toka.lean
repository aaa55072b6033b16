/-! both: tokens alike -/
/-- two loops side by side -/
theorem whl2 {σ ρ τ π : Type} {f : σ → σ ⊕ ρ} {g : τ → τ ⊕ π} {s0 : σ} {t0 : τ} (R : σ → τ → Prop) (Q : ρ → π → Prop) (mu : σ → Nat) (h0 : R s0 t0) (hb : mu s0 < 800) (hs : ∀ s t, R s t → (∃ s' t', f s = .inl s' ∧ g t = .inl t' ∧ R s' t' ∧ mu s' < mu s) ∨ (∃ r q, f s = .inr r ∧ g t = .inr q ∧ Q r q)) : ∃ r q, itW f 800 s0 = some r ∧ itW g 800 t0 = some q ∧ Q r q := by
  have k : ∀ n s t, R s t → mu s < n → ∃ r q, itW f n s = some r ∧ itW g n t = some q ∧ Q r q := by
    intro n
    induction n with
    | zero => intro s t _ h; exact absurd h (Nat.not_lt_zero _)
    | succ n ih =>
      intro s t hr hm
      rcases hs s t hr with ⟨s', t', e1, e2, h1, h2⟩ | ⟨r, q, e1, e2, h1⟩
      · obtain ⟨r, q, a, b, c⟩ := ih s' t' h1 (by omega)
        exact ⟨r, q, by rw [itW_l f n s s' e1]; exact a, by rw [itW_l g n t t' e2]; exact b, c⟩
      · exact ⟨r, q, itW_r f n s r e1, itW_r g n t q e2, h1⟩
  exact k 800 s0 t0 h0 hb
theorem orN {a b m : Nat} (ha : a % 2 ^ m = 0) (hb : b < 2 ^ m) (h : a + b < 2 ^ 32) : nI a ||| nI b = nI (a + b) := by
  apply Int32.toBitVec_inj.mp
  apply BitVec.eq_of_toNat_eq
  rw [Int32.toBitVec_or, BitVec.toNat_or, pk_tn (by omega), pk_tn (by omega), pk_tn h]
  have e : a = (a / 2 ^ m) <<< m := by
    rw [Nat.shiftLeft_eq]
    have := Nat.div_add_mod' a (2 ^ m)
    omega
  rw [e]
  exact (Nat.shiftLeft_add_eq_or_of_lt hb _).symm
theorem or00 (x : Int32) : x ||| 0 = x := by
  apply Int32.toBitVec_inj.mp
  rw [Int32.toBitVec_or]
  exact BitVec.or_zero
/-- changes cells of one row alone -/
def KR1 (r : Nat) (L : Nat → Prop) (I I' : SI) : Prop := ∀ a b, ¬ (a = r ∧ L b) → I' a b = I a b
theorem KR1.rf (r : Nat) (L : Nat → Prop) (I : SI) : KR1 r L I I := fun _ _ _ => rfl
theorem KR1.tr {r : Nat} {L : Nat → Prop} {I I1 I2 : SI} (h : KR1 r L I I1) (h2 : KR1 r L I1 I2) : KR1 r L I I2 := fun a b z => (h2 a b z).trans (h a b z)
theorem KR1.u {r b : Nat} {L : Nat → Prop} {I I1 : SI} {v : Int32} (h : KR1 r L I I1) (hb : L b) : KR1 r L I (u2 I1 r b v) := fun c d z => (u2_n _ _ (fun q => z ⟨q.1, by rw [q.2]; exact hb⟩)).trans (h c d z)
theorem KR1.w {r : Nat} {L L' : Nat → Prop} {I I1 : SI} (h : KR1 r L I I1) (hb : ∀ b, L b → L' b) : KR1 r L' I I1 := fun c d z => h c d (fun q => z ⟨q.1, hb _ q.2⟩)
/-- both tapes -/
def TP (A B : SI) : Prop := ∀ b, A 1 b &&& 255 = B 131 b
theorem TP.by {A B : SI} (h : TP A B) (b : Nat) : ∃ c : Nat, c < 256 ∧ B 131 b = nI c := by
  obtain ⟨j, hj, e⟩ := pk_andE (A 1 b) (m := 255) 8 (by decide)
  exact ⟨j, hj, (h b).symm.trans e⟩
def sgn (B : SI) (n i : Nat) : Int32 := if n ≤ i then -1 else B 131 i
theorem here_v {B t : SI} {J : SJ} {n i : Nat} (hn : n ≤ 700) (hi : i ≤ 701) (e1 : t 130 25 = nI n) (e2 : t 130 26 = nI i) (e3 : ∀ b, t 131 b = B 131 b) : F_X12_here t J = sgn B n i := by
  unfold F_X12_here sgn
  rw [e1, e2, nI_clamp (by omega), e3]
  by_cases c : n ≤ i
  · rw [if_pos c, if_pos (nI_le c (by omega))]
  · rw [if_neg c, if_neg (fun q => c ((nI_leI (by omega) (by omega)).mp q))]
theorem sign_v {A B I : SI} {J : SJ} {n i : Nat} (tp : TP A B) (hn : n ≤ 700) (hi : i ≤ 701) (e1 : I 81 2 = nI n) (e3 : ∀ b, I 1 b = A 1 b) : F_X8_signAt (nI i) I J = sgn B n i := by
  unfold F_X8_signAt sgn
  rw [e1, nI_clamp (by omega), e3, tp, if_neg (nI_pos (by omega))]
  by_cases c : n ≤ i
  · rw [if_pos c, if_pos (nI_le c (by omega))]
  · rw [if_neg c, if_neg (fun q => c ((nI_leI (by omega) (by omega)).mp q)), if_neg (fun q => by
      have := (nI_leI (a := 700) (by omega) (by omega)).mp q
      omega)]
