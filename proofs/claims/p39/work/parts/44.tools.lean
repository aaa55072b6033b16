/-! general tools: loops, places -/
theorem itN_ind {σ : Type} {f : Nat → σ → σ} {N : Nat} {s0 : σ} (P : Nat → σ → Prop) (h0 : P 0 s0) (hs : ∀ i s, i < N → P i s → P (i + 1) (f i s)) : ∀ n, n ≤ N → P n (itN f n s0) := by
  intro n
  induction n with
  | zero => intro _; rw [itN_0]; exact h0
  | succ n ih => intro h; rw [itN_s]; exact hs n _ h (ih (Nat.le_of_succ_le h))
theorem itW_x {σ ρ : Type} {f : σ → σ ⊕ ρ} {s : σ} {r : ρ} (h : f s = .inr r) : itW f 800 s = some r := itW_r f 799 s r h
theorem wN_out {σ ρ : Type} {f : σ → σ ⊕ ρ} {n : Nat} {s0 s : σ} {r : ρ} (h0 : f s0 = .inr r) (h : wN f n s0 = some s) : s = s0 := by
  have key : ∀ n s, wN f n s0 = some s → s = s0 := by
    intro n
    induction n with
    | zero => intro s h; rw [wN_0] at h; exact (Option.some.inj h).symm
    | succ n ih =>
      intro s h
      rw [wN] at h
      cases hq : wN f n s0 with
      | none => exact absurd h (by simp [hq])
      | some s' =>
        have e := ih s' hq
        exact absurd h (by simp [hq, e, h0])
  exact key n s h
theorem le00 {x : Int32} (h : x = 0) : x ≤ 0 := by rw [h]; decide
theorem tz0 {x : Int32} (h : x = 0) : x.toNatClampNeg = 0 := by rw [h]; rfl
theorem nlt0 {n : Nat} {P : Prop} (h : n < 0) : P := absurd h (Nat.not_lt_zero _)
theorem inR_nI {i len : Nat} (h : i < len) (hl : len < 2 ^ 31) : inR (nI i) len := ⟨by rw [nI_clamp (Nat.lt_trans h hl)], by rw [nI_clamp (Nat.lt_trans h hl)]; exact h⟩
theorem inR_0 {c : Int32} {i len : Nat} (h : i < len) (hl : len < 2 ^ 31) : inR (c * 0 + nI i) len := by rw [Int32.mul_zero, Int32.zero_add]; exact inR_nI h hl
theorem nI_mul (a b : Nat) : nI a * nI b = nI (a * b) := (Int32.ofNat_mul a b).symm
theorem inR_mul {c p i L : Nat} (h : c * p + i < L) (hL : L < 2 ^ 31) : inR (nI c * nI p + nI i) L := by
  rw [nI_mul, nI_add]
  exact inR_nI h hL
theorem m4 {p i L : Nat} (h : 4 * p + i < L) (hL : L < 2 ^ 31) : inR ((4 : Int32) * nI p + nI i) L := by
  rw [show (4 : Int32) = nI 4 from rfl]
  exact inR_mul h hL
theorem m6 {p i L : Nat} (h : 6 * p + i < L) (hL : L < 2 ^ 31) : inR ((6 : Int32) * nI p + nI i) L := by
  rw [show (6 : Int32) = nI 6 from rfl]
  exact inR_mul h hL
theorem m8 {p i L : Nat} (h : 8 * p + i < L) (hL : L < 2 ^ 31) : inR ((8 : Int32) * nI p + nI i) L := by
  rw [show (8 : Int32) = nI 8 from rfl]
  exact inR_mul h hL
theorem m48 {p i L : Nat} (h : 48 * p + i < L) (hL : L < 2 ^ 31) : inR ((48 : Int32) * nI p + nI i) L := by
  rw [show (48 : Int32) = nI 48 from rfl]
  exact inR_mul h hL
theorem cop_in {p q : Nat} (hp : p < 23) (hq : q < 23) (I : SI) (J : SJ) : H_X12_copies (nI p) (nI q) I J := by
  unfold H_X12_copies
  exact ⟨inR_nI hq (by decide), inR_nI hp (by decide), fun i s h _ => m4 (by omega) (by decide), fun i s h _ => m4 (by omega) (by decide), fun i s h _ => m48 (by omega) (by decide), fun i s h _ => m48 (by omega) (by decide), fun i s h _ => m8 (by omega) (by decide), fun i s h _ => m8 (by omega) (by decide), fun i s h _ => m6 (by omega) (by decide), fun i s h _ => m6 (by omega) (by decide)⟩
theorem sumH {r : Nat} {p : Nat} {I : SI} {J : SJ} (hp : p < 23) : H_X12_sumOf r 184 (nI p) I J := by
  unfold H_X12_sumOf
  exact fun i _ h _ => m8 (by omega) (by decide)
theorem atF_z {f : Nat → Int32} {len : Nat} {i : Int32} (hl : len < 2 ^ 31) (h : ∀ b, b < len → f b = 0) : atF f len i = 0 := by
  unfold atF
  by_cases h1 : i < 0
  · rw [if_pos h1]
  · rw [if_neg h1]
    by_cases h2 : nI len ≤ i
    · rw [if_pos h2]
    · rw [if_neg h2]
      exact h _ (in_of h1 h2 hl).2
theorem inR.le {e : Int32} {a b : Nat} (h : inR e a) (hb : a ≤ b) : inR e b := ⟨h.1, Nat.lt_of_lt_of_le h.2 hb⟩
theorem inR.n {e : Int32} {a : Nat} (h : inR e a) : ∃ i, i < a ∧ e = nI i := ⟨_, h.2, h.1⟩
theorem inR.z {e : Int32} {a : Nat} (h : e = 0) (ha : 0 < a) : inR e a := by rw [h]; exact ⟨rfl, ha⟩
theorem ix4 {f p : Int32} (hf : inR f 23) (hp : inR p 4) : inR ((4 : Int32) * f + p) 92 := by
  obtain ⟨i, hi, rfl⟩ := hf.n
  obtain ⟨j, hj, rfl⟩ := hp.n
  exact m4 (by omega) (by decide)
theorem ix6 {f m : Int32} (hf : inR f 23) (hm : inR m 6) : inR ((6 : Int32) * f + m) 138 := by
  obtain ⟨i, hi, rfl⟩ := hf.n
  obtain ⟨j, hj, rfl⟩ := hm.n
  exact m6 (by omega) (by decide)
theorem ix8 {f s : Int32} (hf : inR f 23) (hs : inR s 8) : inR ((8 : Int32) * f + s) 184 := by
  obtain ⟨i, hi, rfl⟩ := hf.n
  obtain ⟨j, hj, rfl⟩ := hs.n
  exact m8 (by omega) (by decide)
theorem ix48 {f s m : Int32} (hf : inR f 23) (hs : inR s 8) (hm : inR m 6) : inR ((48 : Int32) * f + (6 : Int32) * s + m) 1104 := by
  obtain ⟨i, hi, rfl⟩ := hf.n
  obtain ⟨j, hj, rfl⟩ := hs.n
  obtain ⟨k, hk, rfl⟩ := hm.n
  rw [show (48 : Int32) = nI 48 from rfl, show (6 : Int32) = nI 6 from rfl, nI_mul, nI_mul, nI_add, nI_add]
  exact inR_nI (by omega) (by decide)
theorem cn_0 {N : Nat} : inR 0 (N + 1) := ⟨rfl, Nat.succ_pos _⟩
theorem cn_lt {e z : Int32} {N : Nat} (hN : N < 800) (he : inR e (N + 1)) (hz : inR z (N + 1)) (h : ¬ z ≤ e) : inR e N := by
  obtain ⟨i, hi, e1⟩ := he.n
  obtain ⟨j, hj, e2⟩ := hz.n
  have hlt : i < j := by
    by_cases q : j ≤ i
    · exact absurd (show z ≤ e by rw [e1, e2]; exact nI_le q (by omega)) h
    · omega
  rw [e1]
  exact inR_nI (by omega) (by omega)
theorem cn_s {e : Int32} {N : Nat} (hN : N < 800) (h : inR e N) : inR (e + 1) (N + 1) ∧ (e + 1).toNatClampNeg = e.toNatClampNeg + 1 := by
  obtain ⟨i, hi, rfl⟩ := h.n
  rw [nI_1, nI_clamp (by omega), nI_clamp (by omega)]
  exact ⟨inR_nI (by omega) (by omega), rfl⟩
theorem in_it {z : Int32} {N i : Nat} (hN : N < 800) (hz : inR z (N + 1)) (h : i < z.toNatClampNeg) : inR (nI i) N := by
  have := hz.2
  exact inR_nI (by omega) (by omega)
/-- a loop that ends, and what holds in it -/
theorem whl {σ ρ : Type} {f : σ → σ ⊕ ρ} {s0 : σ} (P : σ → Prop) (Q : ρ → Prop) (mu : σ → Nat) (h0 : P s0) (hb : mu s0 < 800) (hs : ∀ s s', P s → f s = .inl s' → P s' ∧ mu s' < mu s) (hr : ∀ s r, P s → f s = .inr r → Q r) : (itW f 800 s0).isSome = true ∧ (∀ n s, wN f n s0 = some s → P s) ∧ ∀ d, Q ((itW f 800 s0).getD d) := by
  have k1 : ∀ n s, P s → mu s < n → ∃ r, itW f n s = some r ∧ Q r := by
    intro n
    induction n with
    | zero => intro s _ h; exact absurd h (Nat.not_lt_zero _)
    | succ n ih =>
      intro s hp hm
      cases hf : f s with
      | inl s' =>
        obtain ⟨h1, h2⟩ := hs s s' hp hf
        obtain ⟨r, e, q⟩ := ih s' h1 (by omega)
        exact ⟨r, by rw [itW_l f n s s' hf]; exact e, q⟩
      | inr r => exact ⟨r, itW_r f n s r hf, hr s r hp hf⟩
  have k2 : ∀ n s, wN f n s0 = some s → P s := by
    intro n
    induction n with
    | zero => intro s h; rw [wN_0] at h; cases h; exact h0
    | succ n ih =>
      intro s h
      rw [wN] at h
      cases hq : wN f n s0 with
      | none => exact absurd h (by simp [hq])
      | some s' =>
        cases hf : f s' with
        | inl s2 =>
          simp only [hq, hf] at h
          rw [← Option.some.inj h]
          exact (hs s' s2 (ih s' hq) hf).1
        | inr r => exact absurd h (by simp [hq, hf])
  obtain ⟨r, e, q⟩ := k1 800 s0 h0 hb
  exact ⟨by rw [e]; rfl, k2, fun d => by rw [e]; exact q⟩
/-- .. that counts up -/
theorem whc {σ ρ : Type} {f : Int32 × σ → (Int32 × σ) ⊕ ρ} {x0 : σ} (N : Nat) (hN : N < 800) (P : σ → Prop) (Q : ρ → Prop) (h0 : P x0) (hs : ∀ e x s', inR e (N + 1) → P x → f (e, x) = .inl s' → inR e N ∧ s'.1 = e + 1 ∧ P s'.2) (hr : ∀ e x r, inR e (N + 1) → P x → f (e, x) = .inr r → Q r) : (itW f 800 (0, x0)).isSome = true ∧ (∀ n s, wN f n (0, x0) = some s → inR s.1 (N + 1) ∧ P s.2) ∧ ∀ d, Q ((itW f 800 (0, x0)).getD d) := by
  refine whl (fun (s : Int32 × σ) => inR s.1 (N + 1) ∧ P s.2) Q (fun (s : Int32 × σ) => N - s.1.toNatClampNeg) ⟨cn_0, h0⟩ ?_ (fun (s s' : Int32 × σ) h hf => ?_) (fun (s : Int32 × σ) r h hf => hr s.1 s.2 r h.1 h.2 hf)
  · show N - _ < 800
    omega
  · obtain ⟨h1, h2, h3⟩ := hs s.1 s.2 s' h.1 h.2 hf
    have k := cn_s hN h1
    refine ⟨⟨by rw [h2]; exact k.1, h3⟩, ?_⟩
    show N - s'.1.toNatClampNeg < N - s.1.toNatClampNeg
    rw [h2, k.2]
    have := h1.2
    omega
