/-! both: calls that change the scene -/
theorem inS_u {f g a b : Nat} (h : inS f a b) (k : inS g a b) : f = g := by
  obtain ⟨_, _, h1, h2⟩ := h
  obtain ⟨_, _, k1, k2⟩ := k
  rcases Nat.lt_trichotomy f g with z | z | z
  · have := mul_ap (m := szm a) z; omega
  · exact z
  · have := mul_ap (m := szm a) z; omega
theorem inS_c {f a i : Nat} (h1 : 154 ≤ a) (h2 : a ≤ 167) (hi : i < szm a) : inS f a (szm a * f + i) := ⟨h1, h2, Nat.le_add_right _ _, Nat.add_lt_add_left hi _⟩
/-- the reference keeps what is now, fewer than twenty kept -/
theorem keepNow_v {n : Nat} {I : SI} {J : SJ} (e : I 130 54 = nI n) (hn : n < 20) : (∀ a i, 154 ≤ a → a ≤ 167 → i < szm a → FI_X12_keepNow I J a (szm a * (3 + n) + i) = I a (szm a * 0 + i)) ∧ (∀ a b, ¬ inS (3 + n) a b → ¬ (a = 130 ∧ b = 54) → FI_X12_keepNow I J a b = I a b) ∧ FI_X12_keepNow I J 130 54 = nI (n + 1) := by
  have t : T_X12_keepNow_j45 I J = I := by
    unfold T_X12_keepNow_j45
    rw [if_neg (show ¬ I 130 54 = 20 by rw [e]; exact fun y => by have := (nI_eq (b := 20) (by omega) (by omega)).mp y; omega)]
  have s1 : S1_X12_keepNow I J = FI_X12_copies (nI (3 + n)) (nI 0) I J := by
    unfold S1_X12_keepNow
    rw [t, e, show (3 : Int32) = nI 3 from rfl, nI_add]
    rfl
  have c := copies_v (p := 3 + n) (q := 0) (I := I) (J := J) (by omega) (by omega) (by omega)
  have no : ∀ a b, a < 154 → ¬ inS (3 + n) a b := fun a b h q => by unfold inS at q; omega
  unfold FI_X12_keepNow
  rw [s1]
  refine ⟨fun a i h1 h2 hi => ?_, fun a b h1 h2 => ?_, ?_⟩
  · rw [u2_n _ _ (by omega)]
    exact c.1 a i h1 h2 hi
  · rw [u2_n _ _ h2]
    exact c.2 a b h1
  · rw [u2_s, c.2 130 54 (no _ _ (by omega)), e, nI_1]
/-- twenty kept: the oldest goes -/
theorem keepNow_20 {I : SI} {J : SJ} (e : I 130 54 = nI 20) : (∀ j a i, j < 19 → 154 ≤ a → a ≤ 167 → i < szm a → T_X12_keepNow_j45 I J a (szm a * (3 + j) + i) = I a (szm a * (3 + (j + 1)) + i)) ∧ (∀ a b, (∀ j, j < 19 → ¬ inS (3 + j) a b) → ¬ (a = 130 ∧ b = 54) → T_X12_keepNow_j45 I J a b = I a b) ∧ T_X12_keepNow_j45 I J 130 54 = nI 19 ∧ FI_X12_keepNow I J = FI_X12_keepNow (T_X12_keepNow_j45 I J) J := by
  have lp : ∀ m, m ≤ 19 → (∀ j a i, j < m → 154 ≤ a → a ≤ 167 → i < szm a → itN (B_X12_keepNow_l11 I J) m I a (szm a * (3 + j) + i) = I a (szm a * (3 + (j + 1)) + i)) ∧ ∀ a b, (∀ j, j < m → ¬ inS (3 + j) a b) → itN (B_X12_keepNow_l11 I J) m I a b = I a b := by
    intro m
    induction m with
    | zero => intro _; rw [itN_0]; exact ⟨fun j a i h => absurd h (Nat.not_lt_zero j), fun _ _ _ => rfl⟩
    | succ m ih =>
      intro hm
      obtain ⟨i1, i2⟩ := ih (by omega)
      rw [itN_s]
      generalize itN (B_X12_keepNow_l11 I J) m I = X at i1 i2 ⊢
      have eb : B_X12_keepNow_l11 I J m X = FI_X12_copies (nI (3 + m)) (nI (3 + (m + 1))) X J := by
        unfold B_X12_keepNow_l11 S3_X12_keepNow
        rw [show (3 : Int32) = nI 3 from rfl, nI_add, show nI (3 + (1 + m)) - 1 = nI (3 + (1 + m) - 1) from pk_sub (b := 1) (by omega), show 3 + (1 + m) - 1 = 3 + m by omega, show 3 + (1 + m) = 3 + (m + 1) by omega]
      rw [eb]
      have c := copies_v (p := 3 + m) (q := 3 + (m + 1)) (I := X) (J := J) (by omega) (by omega) (by omega)
      refine ⟨fun j a i hj h1 h2 hi => ?_, fun a b h => ?_⟩
      · by_cases y : j = m
        · subst y
          rw [c.1 a i h1 h2 hi]
          exact i2 a _ (fun k hk q => by have := inS_u q (inS_c (f := 3 + (j + 1)) h1 h2 hi); omega)
        · rw [c.2 a _ (fun q => by have := inS_u q (inS_c (f := 3 + j) h1 h2 hi); omega)]
          exact i1 j a i (by omega) h1 h2 hi
      · rw [c.2 a b (h m (by omega))]
        exact i2 a b (fun j hj => h j (by omega))
  obtain ⟨l1, l2⟩ := lp 19 (Nat.le_refl _)
  have no : ∀ j a b, a < 154 → ¬ inS (3 + j) a b := fun j a b h q => by unfold inS at q; omega
  have t : T_X12_keepNow_j45 I J = u2 (itN (B_X12_keepNow_l11 I J) 19 I) 130 54 (nI 19) := by
    unfold T_X12_keepNow_j45 S2_X12_keepNow F_X12_keepNow_l11
    rw [if_pos (show I 130 54 = 20 by rw [e]; rfl), l2 130 54 (fun j _ => no j _ _ (by omega)), e]
    rfl
  have t54 : T_X12_keepNow_j45 I J 130 54 = nI 19 := by rw [t, u2_s]
  refine ⟨fun j a i hj h1 h2 hi => ?_, fun a b h1 h2 => ?_, t54, ?_⟩
  · rw [t, u2_n _ _ (by omega)]
    exact l1 j a i hj h1 h2 hi
  · rw [t, u2_n _ _ h2]
    exact l2 a b h1
  · have tt : T_X12_keepNow_j45 (T_X12_keepNow_j45 I J) J = T_X12_keepNow_j45 I J := by
      have q : ¬ T_X12_keepNow_j45 I J 130 54 = 20 := by rw [t54]; decide
      generalize T_X12_keepNow_j45 I J = X at q
      unfold T_X12_keepNow_j45
      rw [if_neg q]
    unfold FI_X12_keepNow S1_X12_keepNow
    rw [tt]
/-- rows that calls change -/
def UR (k : Int32) (r len r' : Nat) : Prop := (k = 0 ∧ r = 93 ∧ len = 4 ∧ r' = 166) ∨ (k = 1 ∧ r = 87 ∧ len = 8 ∧ r' = 162) ∨ (k = 2 ∧ r = 91 ∧ len = 6 ∧ r' = 160)
theorem UR.tb {k : Int32} {r len r' i : Nat} {o : Int32} {X : SI} (h : UR k r len r') (hi : i < len) : tbk k (nI i) o X = u2 X r i o := by
  unfold tbk
  rcases h with ⟨rfl, rfl, rfl, rfl⟩ | ⟨rfl, rfl, rfl, rfl⟩ | ⟨rfl, rfl, rfl, rfl⟩
  · rw [if_pos rfl, putF_v hi (by omega)]
  · rw [if_neg (show ¬ (1 : Int32) = 0 by decide), if_pos rfl, putF_v hi (by omega)]
  · rw [if_neg (show ¬ (2 : Int32) = 0 by decide), if_neg (show ¬ (2 : Int32) = 1 by decide), putF_v hi (by omega)]
/-- what both have done, and can undo -/
def UND (nm ns : Nat) (A : SI) (JA : SJ) (B : SI) : Prop := ∃ n, n ≤ 20 ∧ B 130 54 = nI n ∧ UN nm ns JA B n A
theorem do_lt {nm ns n r len r' i : Nat} {k v o : Int32} {A B : SI} {JA J J' : SJ} (hns : ns ≤ 8) (ur : UR k r len r') (hi : i < len) (hn : n < 20) (h : SCT 86 0 nm ns A JA B) (eB : B 130 54 = nI n) (un : UN nm ns JA B n A) (eo : o = A r i) (w : ∀ A1 B1 : SI, SCT 86 0 nm ns A1 JA B1 → SCT 86 0 nm ns (u2 A1 r i v) JA (u2 B1 r' i v)) : SCT 86 0 nm ns (u2 (FI_X10_add k (nI i) o A J) r i v) JA (u2 (FI_X12_keepNow B J') r' i v) ∧ UND nm ns (u2 (FI_X10_add k (nI i) o A J) r i v) JA (u2 (FI_X12_keepNow B J') r' i v) := by
  have eA := un.n
  rw [uadd_v eA hn]
  obtain ⟨k1, k2, k3⟩ := keepNow_v (I := B) (J := J') eB hn
  have rr : 87 ≤ r ∧ r ≤ 93 ∧ 160 ≤ r' ∧ r' ≤ 166 := by rcases ur with z | z | z <;> omega
  have ri : inS 0 r' i := by
    rcases ur with ⟨_, _, z, z'⟩ | ⟨_, _, z, z'⟩ | ⟨_, _, z, z'⟩
    · subst z z'
      have := in4 (f := 0) (a := 166) (i := i) (by omega) hi
      rwa [Nat.mul_zero, Nat.zero_add] at this
    · subst z z'
      have := in8 (f := 0) (a := 162) (i := i) (by omega) hi
      rwa [Nat.mul_zero, Nat.zero_add] at this
    · subst z z'
      have := in6 (f := 0) (a := 160) (i := i) (by omega) hi
      rwa [Nat.mul_zero, Nat.zero_add] at this
  generalize FI_X12_keepNow B J' = K at k1 k2 k3 ⊢
  have a1 : ∀ a b, ¬ (121 ≤ a ∧ a ≤ 123 ∧ b = n) → ¬ (a = 120 ∧ b = 0) → u2 (u2 (u2 (u2 A 121 n k) 122 n (nI i)) 123 n o) 120 0 (nI (n + 1)) a b = A a b := fun a b x y => by
    rw [u2_n _ _ y, u2_n _ _ (by omega), u2_n _ _ (by omega), u2_n _ _ (by omega)]
  have c1 : u2 (u2 (u2 (u2 A 121 n k) 122 n (nI i)) 123 n o) 120 0 (nI (n + 1)) 121 n = k := by
    rw [u2_n _ _ (by omega), u2_n _ _ (by omega), u2_n _ _ (by omega), u2_s]
  have c2 : u2 (u2 (u2 (u2 A 121 n k) 122 n (nI i)) 123 n o) 120 0 (nI (n + 1)) 122 n = nI i := by
    rw [u2_n _ _ (by omega), u2_n _ _ (by omega), u2_s]
  have c3 : u2 (u2 (u2 (u2 A 121 n k) 122 n (nI i)) 123 n o) 120 0 (nI (n + 1)) 123 n = o := by
    rw [u2_n _ _ (by omega), u2_s]
  have c0 : u2 (u2 (u2 (u2 A 121 n k) 122 n (nI i)) 123 n o) 120 0 (nI (n + 1)) 120 0 = nI (n + 1) := u2_s _ _ _ _
  generalize u2 (u2 (u2 (u2 A 121 n k) 122 n (nI i)) 123 n o) 120 0 (nI (n + 1)) = A1 at a1 c0 c1 c2 c3 ⊢
  have sc1 : SCT 86 0 nm ns A1 JA K := h.mv hns (fun a b x y => a1 a b (by omega) (by omega)) rfl (fun a b q => k2 a b (fun z => by have := inS_u q z; omega) (fun z => by unfold inS at q; omega))
  have ce : u2 A1 r i v 120 0 = nI (n + 1) := (u2_n _ _ (by omega)).trans c0
  have t := TBK.v ce hn
  rw [u2_n _ _ (show ¬ (121 = r ∧ n = i) by omega), u2_n _ _ (show ¬ (122 = r ∧ n = i) by omega), u2_n _ _ (show ¬ (123 = r ∧ n = i) by omega), c1, c2, c3, ur.tb hi] at t
  have cell : ∀ a b, (86 ≤ a ∧ a ≤ 94) ∨ (a = 120 ∧ b = 0) ∨ (121 ≤ a ∧ a ≤ 123 ∧ b < n) → TBK (u2 A1 r i v) a b = A a b := fun a b q => by
    rw [t]
    by_cases y : a = r ∧ b = i
    · rw [y.1, y.2, u2_s]
      exact eo
    · rw [u2_n _ _ y]
      by_cases x : a = 120 ∧ b = 0
      · rw [x.1, x.2, u2_s]
        exact eA.symm
      · rw [u2_n _ _ x, u2_n _ _ y]
        exact a1 a b (by omega) x
  have kf : ∀ f a b, f ≠ 3 + n → f ≠ 0 → inS f a b → u2 K r' i v a b = B a b := fun f a b x y q => by
    rw [u2_n _ _ (fun z => by rw [z.1, z.2] at q; exact y (inS_u q ri))]
    exact k2 a b (fun z => x (inS_u q z)) (fun z => by unfold inS at q; omega)
  refine ⟨w A1 K sc1, n + 1, by omega, ?_, ce, ?_, ?_⟩
  · rw [u2_n _ _ (by omega)]
    exact k3
  · refine h.tr hns (fun j b x _ => cell (86 + j) b (by omega)) rfl (fun a i' x y z => ?_)
    rw [u2_n _ _ (fun q => by
      have s := inS_c (f := 3 + n) x y z
      rw [q.2, q.1] at s
      have := inS_u s ri
      omega)]
    exact k1 a i' x y z
  · exact un.cg hns rfl n _ _ (by omega) cell (fun f a b x y q => kf f a b (by omega) (by omega) q)
theorem do_v {nm ns r len r' i : Nat} {k v o : Int32} {A B : SI} {JA J J' : SJ} (hns : ns ≤ 8) (ur : UR k r len r') (hi : i < len) (h : SCT 86 0 nm ns A JA B) (un : UND nm ns A JA B) (eo : o = A r i) (w : ∀ A1 B1 : SI, SCT 86 0 nm ns A1 JA B1 → SCT 86 0 nm ns (u2 A1 r i v) JA (u2 B1 r' i v)) : SCT 86 0 nm ns (u2 (FI_X10_add k (nI i) o A J) r i v) JA (u2 (FI_X12_keepNow B J') r' i v) ∧ UND nm ns (u2 (FI_X10_add k (nI i) o A J) r i v) JA (u2 (FI_X12_keepNow B J') r' i v) := by
  obtain ⟨n, hn, eB, u⟩ := un
  by_cases z : n < 20
  · exact do_lt hns ur hi z h eB u eo w
  · have e20 : n = 20 := by omega
    subst e20
    have eA := u.n
    obtain ⟨t1, t2, t3, t4⟩ := keepNow_20 (I := B) (J := J') eB
    rw [uadd_20 eA, t4]
    have rr : 87 ≤ r ∧ r ≤ 93 := by rcases ur with z | z | z <;> omega
    have sh : ∀ a b, ¬ (121 ≤ a ∧ a ≤ 123 ∧ b < 19) → ¬ (a = 120 ∧ b = 0) → SHF A a b = A a b := fun a b x y => by
      unfold SHF
      rw [if_neg x, if_neg y]
    have s2 : ∀ a b, 121 ≤ a → a ≤ 123 → b < 19 → SHF A a b = A a (b + 1) := fun a b x y q => by
      unfold SHF
      rw [if_pos ⟨x, y, q⟩]
    have c0 : SHF A 120 0 = nI 19 := rfl
    have sc : SCT 86 0 nm ns (SHF A) JA (T_X12_keepNow_j45 B J') := h.mv hns (fun a b x y => sh a b (by omega) (by omega)) rfl (fun a b q => t2 a b (fun j _ s => by have := inS_u q s; omega) (fun s => by unfold inS at q; omega))
    have us := UN.shift (B' := T_X12_keepNow_j45 B J') hns 19 A (SHF A) (by omega) u c0 (fun a b x y => sh a b (by omega) (by omega)) s2 t1
    exact do_lt hns ur hi (by omega) sc t3 us (by rw [sh r i (by omega) (by omega)]; exact eo) w
/-- one call is undone -/
theorem undo_v {nm ns : Nat} {A B : SI} {JA J J' : SJ} (hns : ns ≤ 8) (h : SCT 86 0 nm ns A JA B) (un : UND nm ns A JA B) : F_X11_undo A J = F_X12_undo B J' ∧ SCT 86 0 nm ns (FI_X11_undo A J) JA (FI_X12_undo B J') ∧ UND nm ns (FI_X11_undo A J) JA (FI_X12_undo B J') := by
  obtain ⟨n, hn, eB, u⟩ := un
  have eA := u.n
  have e0 : u2 B 130 0 0 130 54 = nI n := (u2_n _ _ (by omega)).trans eB
  have tk : FI_X10_takeBack 86 A J = TBK A := rfl
  cases n with
  | zero =>
    have p : ¬ (0 : Int32) < A 120 0 := by rw [eA]; decide
    have f0 : F_X10_takeBack 86 A J = 0 := by unfold F_X10_takeBack; rw [if_neg p]
    have i0 : FI_X10_takeBack 86 A J = A := by unfold FI_X10_takeBack; rw [if_neg p]
    unfold F_X11_undo FI_X11_undo F_X12_undo FI_X12_undo
    rw [f0, i0, e0, if_pos rfl, if_pos rfl, if_pos (show nI 0 = (0 : Int32) from rfl), if_pos (show nI 0 = (0 : Int32) from rfl)]
    exact ⟨rfl, h.mv hns (fun _ _ _ _ => rfl) rfl (fun a b q => u2_n _ _ (fun z => by unfold inS at q; omega)), 0, by omega, e0, eA⟩
  | succ n =>
    obtain ⟨_, u2_, u3⟩ := u
    have p : (0 : Int32) < A 120 0 := by rw [eA]; exact (nI_ltI (a := 0) (by omega) (by omega)).mpr (by omega)
    have f1 : F_X10_takeBack 86 A J = 1 := by unfold F_X10_takeBack; rw [if_pos p, ite_self, ite_self]
    have nz : ¬ nI (n + 1) = 0 := fun y => by have := (nI_eq (b := 0) (by omega) (by omega)).mp y; omega
    have m1 : nI (n + 1) - 1 = nI n := pk_sub (b := 1) (by omega)
    have s1 : S1_X12_undo B J' = FI_X12_copies (nI 0) (nI (3 + n)) (u2 (u2 B 130 0 0) 130 54 (nI n)) J' := by
      unfold S1_X12_undo
      rw [e0, m1, u2_s, show (3 : Int32) = nI 3 from rfl, nI_add]
      rfl
    have c := copies_v (p := 0) (q := 3 + n) (I := u2 (u2 B 130 0 0) 130 54 (nI n)) (J := J') (by omega) (by omega) (by omega)
    have no : ∀ a b, a < 154 → ¬ inS 0 a b := fun a b x q => by unfold inS at q; omega
    have s54 : S1_X12_undo B J' 130 54 = nI n := by rw [s1, c.2 130 54 (no _ _ (by omega)), u2_s]
    have tn : TBK A 120 0 = nI n := u3.n
    unfold F_X11_undo FI_X11_undo F_X12_undo FI_X12_undo
    rw [f1, tk, e0, if_neg (show ¬ (1 : Int32) = 0 by decide), if_neg (show ¬ (1 : Int32) = 0 by decide), if_neg nz, if_neg nz, tn, s54]
    refine ⟨rfl, ?_, n, by omega, s54, ?_⟩
    · refine u2_.tr hns (fun _ _ _ _ => rfl) rfl (fun a i x y z => ?_)
      rw [s1, c.1 a i x y z, u2_n _ _ (by omega), u2_n _ _ (by omega)]
    · exact u3.cg hns rfl n _ _ (by omega) (fun _ _ _ => rfl) (fun f a b x y q => by
        rw [s1, c.2 a b (fun s => by have := inS_u q s; omega), u2_n _ _ (fun s => by unfold inS at q; omega), u2_n _ _ (fun s => by unfold inS at q; omega)])
