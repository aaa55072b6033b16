/-! both: the least that must be filmed again: a search and a search that leaves out -/
def an (f : Nat → Bool) : Nat → Bool
  | 0 => false
  | n + 1 => an f n || f n
/-- what the shots of a set cost -/
def vl (c : Nat → Nat) (u : Nat → Bool) : Nat → Nat
  | 0 => 0
  | n + 1 => vl c u n + (if u n = true then c n else 0)
/-- the shots that clash by the ways of the marks ahead of m -/
def un (cl : Nat → Nat → Nat → Bool) (t : Nat → Nat) (m i : Nat) : Bool := an (fun j => cl j (t j) i) m
def up1 (t : Nat → Nat) (m v : Nat) : Nat → Nat := fun j => if j = m then v else t j
/-- one set in another -/
def sbs (u v : Nat → Bool) : Nat → Bool
  | 0 => true
  | n + 1 => sbs u v n && (!u n || v n)
theorem an_t {f : Nat → Bool} : ∀ n, an f n = true ↔ ∃ j, j < n ∧ f j = true := by
  intro n
  induction n with
  | zero => exact ⟨fun h => Bool.noConfusion h, fun ⟨j, h, _⟩ => absurd h (Nat.not_lt_zero j)⟩
  | succ n ih =>
    show (an f n || f n) = true ↔ _
    rw [Bool.or_eq_true, ih]
    constructor
    · rintro (⟨j, h1, h2⟩ | h)
      · exact ⟨j, by omega, h2⟩
      · exact ⟨n, by omega, h⟩
    · rintro ⟨j, h1, h2⟩
      by_cases e : j = n
      · exact Or.inr (by rw [← e]; exact h2)
      · exact Or.inl ⟨j, by omega, h2⟩
theorem sbs_t {u v : Nat → Bool} : ∀ n, sbs u v n = true ↔ ∀ i, i < n → u i = true → v i = true := by
  intro n
  induction n with
  | zero => exact ⟨fun _ i h => absurd h (Nat.not_lt_zero i), fun _ => rfl⟩
  | succ n ih =>
    show (sbs u v n && (!u n || v n)) = true ↔ _
    rw [Bool.and_eq_true, ih, Bool.or_eq_true, Bool.not_eq_true']
    constructor
    · rintro ⟨h1, h2⟩ i hi q
      by_cases e : i = n
      · subst e
        rcases h2 with h2 | h2
        · rw [h2] at q; exact Bool.noConfusion q
        · exact h2
      · exact h1 i (by omega) q
    · intro h
      refine ⟨fun i hi => h i (by omega), ?_⟩
      cases e : u n with
      | false => exact Or.inl rfl
      | true => exact Or.inr (h n (by omega) e)
theorem vl_mo {c : Nat → Nat} {u v : Nat → Bool} : ∀ n, (∀ i, i < n → u i = true → v i = true) → vl c u n ≤ vl c v n := by
  intro n
  induction n with
  | zero => intro _; exact Nat.le_refl _
  | succ n ih =>
    intro h
    have k := ih (fun i hi => h i (by omega))
    show vl c u n + _ ≤ vl c v n + _
    cases e : u n with
    | false => rw [if_neg (by decide)]; omega
    | true => rw [if_pos rfl, if_pos (h n (by omega) e)]; omega
theorem vl_cg {c c' : Nat → Nat} {u v : Nat → Bool} : ∀ n, (∀ i, i < n → u i = v i ∧ (u i = true → c i = c' i)) → vl c u n = vl c' v n := by
  intro n
  induction n with
  | zero => intro _; rfl
  | succ n ih =>
    intro h
    have k := ih (fun i hi => h i (by omega))
    obtain ⟨h1, h2⟩ := h n (by omega)
    show vl c u n + _ = vl c' v n + _
    rw [k, ← h1]
    cases e : u n with
    | false => rfl
    | true => rw [if_pos rfl, if_pos rfl, h2 e]
theorem vl_cut {c : Nat → Nat} {u : Nat → Bool} {n : Nat} : ∀ d, (∀ i, n ≤ i → i < n + d → u i = false) → vl c u (n + d) = vl c u n := by
  intro d
  induction d with
  | zero => intro _; rfl
  | succ d ih =>
    intro h
    show vl c u (n + d) + (if u (n + d) = true then c (n + d) else 0) = _
    rw [ih (fun i a b => h i a (by omega)), h (n + d) (by omega) (by omega)]
    rfl
theorem vl_or {c : Nat → Nat} {u v : Nat → Bool} : ∀ n, vl c (fun i => u i || v i) n = vl c u n + vl c (fun i => v i && !u i) n := by
  intro n
  induction n with
  | zero => rfl
  | succ n ih =>
    show vl c (fun i => u i || v i) n + (if (u n || v n) = true then c n else 0) = (vl c u n + (if u n = true then c n else 0)) + (vl c (fun i => v i && !u i) n + (if (v n && !u n) = true then c n else 0))
    rw [ih]
    cases u n <;> cases v n <;> simp <;> omega
theorem vl_le {c : Nat → Nat} {u : Nat → Bool} : ∀ n, (∀ i, i < n → u i = true → c i < 100) → vl c u n ≤ 100 * n := by
  intro n
  induction n with
  | zero => intro _; exact Nat.le_refl _
  | succ n ih =>
    intro h
    have k := ih (fun i hi => h i (by omega))
    show vl c u n + _ ≤ _
    cases e : u n with
    | false => rw [if_neg (by decide)]; omega
    | true =>
      have := h n (by omega) e
      rw [if_pos rfl]
      omega
theorem un_cg {cl : Nat → Nat → Nat → Bool} {t s : Nat → Nat} {i : Nat} : ∀ m, (∀ j, j < m → t j = s j) → un cl t m i = un cl s m i := by
  intro m
  induction m with
  | zero => intro _; rfl
  | succ m ih =>
    intro h
    show (un cl t m i || cl m (t m) i) = (un cl s m i || cl m (s m) i)
    rw [ih (fun j hj => h j (by omega)), h m (by omega)]
theorem un_s {cl : Nat → Nat → Nat → Bool} {t : Nat → Nat} {m v i : Nat} : un cl (up1 t m v) (m + 1) i = (un cl t m i || cl m v i) := by
  show (un cl (up1 t m v) m i || cl m (up1 t m v m) i) = _
  rw [un_cg (t := up1 t m v) (s := t) m (fun j hj => if_neg (by omega)), show up1 t m v m = v from if_pos rfl]
theorem un_sb {cl : Nat → Nat → Nat → Bool} {t : Nat → Nat} {m M i : Nat} (h : m ≤ M) (q : un cl t m i = true) : un cl t M i = true := by
  obtain ⟨j, h1, h2⟩ := (an_t m).mp q
  exact (an_t M).mpr ⟨j, by omega, h2⟩
theorem un_up {cl : Nat → Nat → Nat → Bool} {t : Nat → Nat} {m w M i : Nat} (h : cl m w i = true → cl m (t m) i = true) (q : un cl (up1 t m w) M i = true) : un cl t M i = true := by
  obtain ⟨j, h1, h2⟩ := (an_t M).mp q
  refine (an_t M).mpr ⟨j, h1, ?_⟩
  by_cases e : j = m
  · subst e
    have h3 : cl j w i = true := by
      have e1 : up1 t j w j = w := if_pos rfl
      have h4 : cl j (up1 t j w j) i = true := h2
      rw [e1] at h4
      exact h4
    exact h h3
  · have e1 : up1 t m w j = t j := if_neg e
    have h4 : cl j (up1 t m w j) i = true := h2
    rw [e1] at h4
    exact h4
abbrev LQ : Type := Nat × (Nat → Nat)
/-- all ways of all marks from m on, the first least kept -/
def sr (W : Nat → Nat) (cl : Nat → Nat → Nat → Bool) (c : Nat → Nat) : Nat → Nat → (Nat → Nat) → LQ → LQ
  | 0, m, t, s => if vl c (un cl t m) 8 < s.1 then (vl c (un cl t m) 8, t) else s
  | n + 1, m, t, s => itN (fun v s => sr W cl c n (m + 1) (up1 t m v) s) (W m) s
/-- .. without those that can't be first -/
def sp (W : Nat → Nat) (cl : Nat → Nat → Nat → Bool) (c : Nat → Nat) (wk : Nat → Nat → Bool) : Nat → Nat → (Nat → Nat) → LQ → LQ
  | 0, m, t, s => if vl c (un cl t m) 8 < s.1 then (vl c (un cl t m) 8, t) else s
  | n + 1, m, t, s => if vl c (un cl t m) 8 < s.1 then itN (fun v s => if wk m v = true then sp W cl c wk n (m + 1) (up1 t m v) s else s) (W m) s else s
def srF (W : Nat → Nat) (cl : Nat → Nat → Nat → Bool) (c : Nat → Nat) (n m : Nat) (t : Nat → Nat) (v : Nat) (s : LQ) : LQ := sr W cl c n (m + 1) (up1 t m v) s
def spF (W : Nat → Nat) (cl : Nat → Nat → Nat → Bool) (c : Nat → Nat) (wk : Nat → Nat → Bool) (n m : Nat) (t : Nat → Nat) (v : Nat) (s : LQ) : LQ := if wk m v = true then sp W cl c wk n (m + 1) (up1 t m v) s else s
theorem sr_0 {W : Nat → Nat} {cl : Nat → Nat → Nat → Bool} {c : Nat → Nat} {m : Nat} {t : Nat → Nat} {s : LQ} : sr W cl c 0 m t s = if vl c (un cl t m) 8 < s.1 then (vl c (un cl t m) 8, t) else s := by rw [sr]
theorem sr_s {W : Nat → Nat} {cl : Nat → Nat → Nat → Bool} {c : Nat → Nat} {n m : Nat} {t : Nat → Nat} {s : LQ} : sr W cl c (n + 1) m t s = itN (srF W cl c n m t) (W m) s := by
  rw [sr]
  exact itN_cg (W m) (fun _ _ _ => rfl)
theorem sp_0 {W : Nat → Nat} {cl : Nat → Nat → Nat → Bool} {c : Nat → Nat} {wk : Nat → Nat → Bool} {m : Nat} {t : Nat → Nat} {s : LQ} : sp W cl c wk 0 m t s = if vl c (un cl t m) 8 < s.1 then (vl c (un cl t m) 8, t) else s := by rw [sp]
theorem sp_s {W : Nat → Nat} {cl : Nat → Nat → Nat → Bool} {c : Nat → Nat} {wk : Nat → Nat → Bool} {n m : Nat} {t : Nat → Nat} {s : LQ} : sp W cl c wk (n + 1) m t s = if vl c (un cl t m) 8 < s.1 then itN (spF W cl c wk n m t) (W m) s else s := by
  rw [sp]
  exact ife Iff.rfl (fun _ => itN_cg (W m) (fun _ _ _ => rfl)) (fun _ => rfl)
theorem spF_t {W : Nat → Nat} {cl : Nat → Nat → Nat → Bool} {c : Nat → Nat} {wk : Nat → Nat → Bool} {n m v : Nat} {t : Nat → Nat} {s : LQ} (h : wk m v = true) : spF W cl c wk n m t v s = sp W cl c wk n (m + 1) (up1 t m v) s := if_pos h
theorem spF_f {W : Nat → Nat} {cl : Nat → Nat → Nat → Bool} {c : Nat → Nat} {wk : Nat → Nat → Bool} {n m v : Nat} {t : Nat → Nat} {s : LQ} (h : wk m v = false) : spF W cl c wk n m t v s = s := if_neg (by rw [h]; decide)
theorem sr_le {W : Nat → Nat} {cl : Nat → Nat → Nat → Bool} {c : Nat → Nat} : ∀ n m t s, (sr W cl c n m t s).1 ≤ s.1 := by
  intro n
  induction n with
  | zero =>
    intro m t s
    rw [sr_0]
    split
    · exact Nat.le_of_lt (by assumption)
    · exact Nat.le_refl _
  | succ n ih =>
    intro m t s
    rw [sr_s]
    exact itN_inv (P := fun (x : LQ) => x.1 ≤ s.1) (Nat.le_refl _) (fun v x _ h => Nat.le_trans (ih (m + 1) (up1 t m v) x) h)
theorem sr_it {W : Nat → Nat} {cl : Nat → Nat → Nat → Bool} {c : Nat → Nat} {n m b w : Nat} {t : Nat → Nat} (hb : ∀ s, (sr W cl c n (m + 1) (up1 t m w) s).1 ≤ b) : ∀ k s, w < k → (itN (srF W cl c n m t) k s).1 ≤ b := by
  intro k s
  induction k with
  | zero => intro h; exact absurd h (Nat.not_lt_zero w)
  | succ k ih =>
    intro h
    rw [itN_s]
    by_cases e : w = k
    · subst e
      exact hb _
    · exact Nat.le_trans (sr_le n (m + 1) _ _) (ih (by omega))
theorem sr_lf {W : Nat → Nat} {cl : Nat → Nat → Nat → Bool} {c : Nat → Nat} : ∀ n m t u, (∀ j, j < m → u j = t j) → (∀ j, m ≤ j → j < m + n → u j < W j) → ∀ s, (sr W cl c n m t s).1 ≤ vl c (un cl u (m + n)) 8 := by
  intro n
  induction n with
  | zero =>
    intro m t u h1 _ s
    have e : vl c (un cl u m) 8 = vl c (un cl t m) 8 := vl_cg 8 (fun i _ => ⟨un_cg m h1, fun _ => rfl⟩)
    show (sr W cl c 0 m t s).1 ≤ vl c (un cl u m) 8
    rw [e]
    rw [sr_0]
    split
    · exact Nat.le_refl _
    · exact Nat.le_of_not_lt (by assumption)
  | succ n ih =>
    intro m t u h1 h2 s
    rw [sr_s]
    refine sr_it (w := u m) (fun s => ?_) (W m) s (h2 m (Nat.le_refl _) (by omega))
    have k := ih (m + 1) (up1 t m (u m)) u (fun j hj => by
      by_cases e : j = m
      · rw [e]; exact (if_pos rfl).symm
      · exact (h1 j (by omega)).trans (if_neg e).symm) (fun j a b => h2 j (by omega) (by omega)) s
    rw [show m + (n + 1) = m + 1 + n by omega]
    exact k
theorem sr_no {W : Nat → Nat} {cl : Nat → Nat → Nat → Bool} {c : Nat → Nat} : ∀ n m t (s : LQ), (∀ u : Nat → Nat, (∀ j, j < m → u j = t j) → (∀ j, m ≤ j → j < m + n → u j < W j) → s.1 ≤ vl c (un cl u (m + n)) 8) → sr W cl c n m t s = s := by
  intro n
  induction n with
  | zero =>
    intro m t s h
    rw [sr_0]
    exact if_neg (Nat.not_lt.mpr (h t (fun _ _ => rfl) (fun j a b => absurd b (by omega))))
  | succ n ih =>
    intro m t s h
    rw [sr_s]
    have k : ∀ k, k ≤ W m → itN (srF W cl c n m t) k s = s := by
      intro k
      induction k with
      | zero => intro _; exact itN_0 _ _
      | succ k ik =>
        intro hk
        rw [itN_s, ik (by omega)]
        refine ih (m + 1) (up1 t m k) s (fun u h1 h2 => ?_)
        have um : u m = k := (h1 m (by omega)).trans (if_pos rfl)
        have q := h u (fun j hj => (h1 j (by omega)).trans (if_neg (by omega))) (fun j a b => by
          by_cases e : j = m
          · rw [e, um]; omega
          · exact h2 j (by omega) (by omega))
        rw [show m + 1 + n = m + (n + 1) by omega]
        exact q
    exact k (W m) (Nat.le_refl _)
theorem sp_eq {W : Nat → Nat} {cl : Nat → Nat → Nat → Bool} {c : Nat → Nat} {wk : Nat → Nat → Bool} (hw : ∀ m v, wk m v = false → ∃ w, w < v ∧ ∀ i, i < 8 → cl m w i = true → cl m v i = true) : ∀ n m t s, sp W cl c wk n m t s = sr W cl c n m t s := by
  intro n
  induction n with
  | zero => intro m t s; rfl
  | succ n ih =>
    intro m t s
    rw [sp_s]
    by_cases z : vl c (un cl t m) 8 < s.1
    · rw [if_pos z]
      have k : ∀ k, k ≤ W m → itN (spF W cl c wk n m t) k s = itN (srF W cl c n m t) k s := by
        intro k
        induction k with
        | zero => intro _; rw [itN_0, itN_0]
        | succ k ik =>
          intro hk
          rw [itN_s, itN_s, ik (by omega)]
          cases e : wk m k with
          | true => exact (spF_t e).trans (ih (m + 1) (up1 t m k) _)
          | false =>
            refine (spF_f e).trans ?_
            obtain ⟨w, hwk, sub⟩ := hw m k e
            refine (sr_no n (m + 1) (up1 t m k) _ (fun u h1 h2 => ?_)).symm
            have um : u m = k := (h1 m (by omega)).trans (if_pos rfl)
            have lo : vl c (un cl (up1 u m w) (m + 1 + n)) 8 ≤ vl c (un cl u (m + 1 + n)) 8 := vl_mo 8 (fun i hi q => un_up (m := m) (w := w) (fun y => by rw [um]; exact sub i hi y) q)
            refine Nat.le_trans (sr_it (w := w) (fun s' => ?_) k s hwk) lo
            refine sr_lf n (m + 1) (up1 t m w) (up1 u m w) (fun j hj => ?_) (fun j a b => ?_) s'
            · by_cases y : j = m
              · show (if j = m then w else u j) = (if j = m then w else t j)
                rw [if_pos y, if_pos y]
              · show (if j = m then w else u j) = (if j = m then w else t j)
                rw [if_neg y, if_neg y]
                exact (h1 j hj).trans (if_neg y)
            · show (if j = m then w else u j) < W j
              rw [if_neg (by omega)]
              exact h2 j a b
      rw [k (W m) (Nat.le_refl _), sr_s]
    · rw [if_neg z]
      refine (sr_no (n + 1) m t s (fun u h1 _ => ?_)).symm
      have lo : vl c (un cl t m) 8 ≤ vl c (un cl u (m + (n + 1))) 8 := vl_mo 8 (fun i _ q => un_sb (m := m) (by omega) ((un_cg m h1).trans q))
      omega
