/-! both: the least that must be filmed again: the program's search -/
theorem bt_one2 : ∀ j, j < 8 → ((1 : Int32) <<< (nI j &&& 31)).toBitVec = BitVec.twoPow 32 j := by decide +kernel
theorem bt_m1 : ∀ i, i < 32 → (-1 : Int32).toBitVec.getLsbD i = true := by decide +kernel
/-- a mask of a set of shots -/
def IMK (u : Nat → Bool) (x : Int32) : Prop := ∀ i, i < 32 → x.toBitVec.getLsbD i = (decide (i < 8) && u i)
theorem im_cg {u v : Nat → Bool} {x : Int32} (h : IMK u x) (e : ∀ i, i < 8 → u i = v i) : IMK v x := fun i hi => by
  rw [h i hi]
  by_cases z : i < 8
  · rw [e i z]
  · rw [decide_eq_false z]
    rfl
theorem im_or {u v : Nat → Bool} {x y : Int32} (h : IMK u x) (k : IMK v y) : IMK (fun i => u i || v i) (x ||| y) := fun i hi => by
  rw [Int32.toBitVec_or, BitVec.getLsbD_or, h i hi, k i hi]
  show _ = (decide (i < 8) && (u i || v i))
  cases decide (i < 8) <;> cases u i <;> cases v i <;> rfl
theorem im_nd {u v : Nat → Bool} {x y : Int32} (h : IMK u x) (k : IMK v y) : IMK (fun i => v i && !u i) (y &&& (x ^^^ (-1))) := fun i hi => by
  rw [Int32.toBitVec_and, BitVec.getLsbD_and, Int32.toBitVec_xor, BitVec.getLsbD_xor, h i hi, k i hi, bt_m1 i hi]
  show _ = (decide (i < 8) && (v i && !u i))
  cases decide (i < 8) <;> cases u i <;> cases v i <;> rfl
theorem im_0 {u : Nat → Bool} {x : Int32} (h : IMK u x) : x = 0 ↔ ∀ i, i < 8 → u i = false := by
  constructor
  · intro e i hi
    have k := h i (by omega)
    rw [e, decide_eq_true hi] at k
    have z : (0 : Int32).toBitVec.getLsbD i = false := by
      show (0#32).getLsbD i = false
      exact BitVec.getLsbD_zero
    rw [z] at k
    exact k.symm
  · intro e
    refine Int32.toBitVec_inj.mp ?_
    show x.toBitVec = 0#32
    refine BitVec.eq_of_getLsbD_eq (fun i hi => ?_)
    rw [h i hi, BitVec.getLsbD_zero]
    by_cases z : i < 8
    · rw [e i z, Bool.and_false]
    · rw [decide_eq_false z, Bool.false_and]
theorem im_1 {u : Nat → Bool} {x : Int32} {n : Nat} (hn : n < 8) (h : IMK u x) : IMK (fun i => u i || decide (i = n)) (x ||| ((1 : Int32) <<< (nI n &&& 31))) := fun i hi => by
  rw [Int32.toBitVec_or, bt_one2 n hn, BitVec.getLsbD_or, BitVec.getLsbD_twoPow, h i hi]
  show _ = (decide (i < 8) && (u i || decide (i = n)))
  by_cases q : i = n
  · subst q
    rw [decide_eq_true hn, decide_eq_true hi, decide_eq_true rfl]
    cases u i <;> rfl
  · rw [decide_eq_false q, decide_eq_false (fun y : n = i => q y.symm)]
    cases decide (i < 8) <;> cases u i <;> cases decide (n < 32) <;> rfl
theorem im_z : IMK (fun _ => false) 0 := fun i hi => by
  rw [Bool.and_false]
  show (0#32).getLsbD i = false
  exact BitVec.getLsbD_zero
/-- which filmed shots would clash by a way -/
theorem by_v {nm ns m v : Nat} {A X B : SI} {JA J : SJ} (sc : SCT 86 0 nm ns A JA B) (hn : ns ≤ 8) (hm : m < 6) (ex : ∀ a b, a < 127 → X a b = A a b) : IMK (clB ns B m v) (F_X2_clashesBy 86 (nI m) (nI v) X J) := by
  have L : ∀ n, n ≤ 8 → IMK (fun i => decide (i < n) && clB ns B m v i) (itN (B_X2_clashesBy_l5 86 (nI m) (nI v) X J) n 0) := by
    intro n
    induction n with
    | zero => intro _; rw [itN_0]; exact im_cg im_z (fun i _ => by rw [decide_eq_false (Nat.not_lt_zero i), Bool.false_and])
    | succ n ih =>
      intro hh
      have k := ih (by omega)
      rw [itN_s]
      generalize itN (B_X2_clashesBy_l5 86 (nI m) (nI v) X J) n 0 = x at *
      obtain ⟨⟨_, f1, _⟩, f2⟩ := sc.2.2.1 n (by omega)
      rw [show 8 * 0 + n = n by omega] at f1
      have f1 : A 88 n = B 163 n := f1
      have f2 : A 88 n = 0 ∨ (A 88 n = 1 ∧ n < ns) := f2
      have e1 : atF (X (86 + 2)) 8 (nI n) = A 88 n := (atF_v (by omega) (by omega)).trans (ex 88 n (by omega))
      have e2 : F_X5_wayIn 86 (nI n) (nI m) X J = X 90 (6 * n + m) := way_c (by omega) hm
      rw [ex 90 _ (by omega)] at e2
      have no : clB ns B m v n = false → IMK (fun i => decide (i < n + 1) && clB ns B m v i) x := fun q => im_cg k (fun i _ => by
        by_cases y : i = n
        · rw [y, q, Bool.and_false, Bool.and_false]
        · rw [show decide (i < n) = decide (i < n + 1) from decide_eq_decide.mpr (by omega)])
      have f0 : ¬ (n < ns ∧ B 163 n = 1 ∧ ¬ B 165 (6 * n + m) = -1 ∧ ¬ B 165 (6 * n + m) = nI v) → clB ns B m v n = false := fun q => decide_eq_false q
      unfold B_X2_clashesBy_l5
      rw [e1, e2]
      by_cases c1 : A 88 n = 0
      · rw [if_pos c1]
        exact no (f0 (fun q => by rw [← f1, c1] at q; exact absurd q.2.1 (by decide)))
      · rw [if_neg c1]
        obtain ⟨g1, g2⟩ := f2.resolve_left c1
        obtain ⟨h1, h2⟩ := sc.2.2.2.1 n m g2 hm
        rw [show 48 * 0 + (6 * n + m) = 6 * n + m by omega] at h1
        have h1 : A 90 (6 * n + m) = B 165 (6 * n + m) := h1
        have h2 : A 90 (6 * n + m) = -1 ∨ (inR (A 90 (6 * n + m)) 6 ∧ m < nm) := h2
        have nn := m1_nn (h2.imp id And.left)
        by_cases c2 : A 90 (6 * n + m) < 0
        · rw [if_pos c2]
          exact no (f0 (fun q => q.2.2.1 (h1.symm.trans (nn.mp c2))))
        · rw [if_neg c2]
          by_cases c3 : A 90 (6 * n + m) = nI v
          · rw [if_pos c3]
            exact no (f0 (fun q => q.2.2.2 (h1.symm.trans c3)))
          · rw [if_neg c3]
            have yes : clB ns B m v n = true := clB_t.mpr ⟨g2, f1.symm.trans g1, fun q => c2 (nn.mpr (h1.trans q)), fun q => c3 (h1.trans q)⟩
            refine im_cg (im_1 (by omega) k) (fun i _ => ?_)
            by_cases y : i = n
            · rw [y, yes, decide_eq_true rfl, decide_eq_true (Nat.lt_succ_self n)]
              cases decide (n < n) <;> rfl
            · rw [decide_eq_false y, Bool.or_false, show decide (i < n) = decide (i < n + 1) from decide_eq_decide.mpr (by omega)]
  exact im_cg (L 8 (Nat.le_refl _)) (fun i hi => by rw [decide_eq_true hi, Bool.true_and])
/-- a way that is worth a trial -/
def wkp (cl : Nat → Nat → Nat → Bool) (m v : Nat) : Bool := !an (fun w => sbs (cl m w) (cl m v) 8) v
theorem wkp_f {cl : Nat → Nat → Nat → Bool} : ∀ m v, wkp cl m v = false → ∃ w, w < v ∧ ∀ i, i < 8 → cl m w i = true → cl m v i = true := fun m v h => by
  have h1 : an (fun w => sbs (cl m w) (cl m v) 8) v = true := (Bool.not_eq_false' _).mp h
  obtain ⟨w, w1, w2⟩ := (an_t v).mp h1
  exact ⟨w, w1, (sbs_t 8).mp w2⟩
theorem cell36 {X : SI} {m w : Nat} (hm : m < 6) (hw : w < 6) : atF (X 127) 36 ((nI m * 6) + nI w) = X 127 (6 * m + w) := by
  rw [show (6 : Int32) = nI 6 from rfl, nI_mul, nI_add, atF_v (by omega) (by omega), show m * 6 + w = 6 * m + w by omega]
theorem isworth_v {cl : Nat → Nat → Nat → Bool} {X : SI} {J : SJ} {m v : Nat} (hm : m < 6) (hv : v < 6) (ic : ∀ w, w < 6 → IMK (cl m w) (X 127 (6 * m + w))) : F_X2_isWorth (nI m) (nI v) X J = 0 ↔ wkp cl m v = false := by
  have test : ∀ w, w < v → ((X 127 (6 * m + w) &&& (X 127 (6 * m + v) ^^^ (-1))) = 0 ↔ sbs (cl m w) (cl m v) 8 = true) := fun w hw => by
    rw [im_0 (im_nd (ic v hv) (ic w (by omega))), sbs_t]
    constructor
    · intro h i hi q
      have k : (cl m w i && !cl m v i) = false := h i hi
      rw [q] at k
      cases e : cl m v i with
      | true => rfl
      | false => rw [e] at k; exact Bool.noConfusion k
    · intro h i hi
      show (cl m w i && !cl m v i) = false
      cases e : cl m w i with
      | false => rfl
      | true => rw [h i hi e]; rfl
  have body : ∀ w (s : Unit), w < v → B_X2_isWorth_l17 (nI m) (nI v) X J w s = if (X 127 (6 * m + w) &&& (X 127 (6 * m + v) ^^^ (-1))) = 0 then .inr 0 else .inl () := fun w s hw => by
    unfold B_X2_isWorth_l17
    rw [cell36 hm (show w < 6 by omega), cell36 hm hv]
  have K := itE_ind (f := B_X2_isWorth_l17 (nI m) (nI v) X J) (N := v) (s0 := ()) (fun i _ => ∀ w, w < i → ¬ sbs (cl m w) (cl m v) 8 = true) (fun r => r = 0 ∧ ∃ w, w < v ∧ sbs (cl m w) (cl m v) 8 = true) (fun w h => absurd h (Nat.not_lt_zero w)) (fun i s s' hi hP hf => by
    rw [body i s hi] at hf
    by_cases c : (X 127 (6 * m + i) &&& (X 127 (6 * m + v) ^^^ (-1))) = 0
    · rw [if_pos c] at hf
      exact nomatch hf
    · intro w hw
      by_cases y : w = i
      · rw [y]
        exact fun q => c ((test i hi).mpr q)
      · exact hP w (by omega)) (fun i s r hi _ hf => by
    rw [body i s hi] at hf
    by_cases c : (X 127 (6 * m + i) &&& (X 127 (6 * m + v) ^^^ (-1))) = 0
    · rw [if_pos c] at hf
      exact ⟨(Sum.inr.inj hf).symm, i, hi, (test i hi).mp c⟩
    · rw [if_neg c] at hf
      exact nomatch hf)
  have wk : wkp cl m v = false ↔ ∃ w, w < v ∧ sbs (cl m w) (cl m v) 8 = true := by
    unfold wkp
    rw [Bool.not_eq_false', an_t]
  rw [wk]
  unfold F_X2_isWorth F_X2_isWorth_l17
  rw [nI_clamp (show v < 2 ^ 31 by omega)]
  cases e : itE (B_X2_isWorth_l17 (nI m) (nI v) X J) v 0 () with
  | inl u =>
    constructor
    · intro h
      exact absurd (show (1 : Int32) = 0 from h) (by decide)
    · rintro ⟨w, w1, w2⟩
      exact absurd w2 (K.1 v u (Nat.le_refl _) e w w1)
  | inr r =>
    have k := K.2 r e
    exact ⟨fun _ => k.2, fun _ => k.1⟩
theorem costof_v {u : Nat → Bool} {c : Nat → Nat} {x : Int32} {X : SI} {J : SJ} (h : IMK u x) (hc : ∀ i, i < 8 → u i = true → X 10 i = nI (c i)) : F_X2_costOf x X J = nI (vl c u 8) := by
  have bit : ∀ i, i < 8 → ((x >>> (nI i &&& 31)) &&& 1 = 0 ↔ u i = false) := fun i hi => by
    rw [bt_get (show i < 24 by omega)]
    unfold bt
    rw [h i (by omega), decide_eq_true hi, Bool.true_and]
  have top : ∀ i, i < 8 → x >>> (nI i &&& 31) = 0 → ∀ k, i ≤ k → k < 8 → u k = false := fun i hi z k h1 h2 => by
    have e1 : (x >>> (nI i &&& 31)).toBitVec = x.toBitVec.sshiftRight i := by
      rw [Int32.toBitVec_shiftRight]
      unfold BitVec.sshiftRight'
      rw [bt_sh i (by omega)]
    have e2 : (x.toBitVec.sshiftRight i).getLsbD (k - i) = false := by
      rw [← e1, z]
      show (0#32).getLsbD (k - i) = false
      exact BitVec.getLsbD_zero
    rw [BitVec.getLsbD_sshiftRight] at e2
    have e3 : x.toBitVec.getLsbD k = (decide (k < 8) && u k) := h k (by omega)
    rw [decide_eq_true h2, Bool.true_and] at e3
    rw [show i + (k - i) = k by omega, if_pos (show k < 32 by omega), e3, decide_eq_false (show ¬ 32 ≤ k - i by omega)] at e2
    simpa using e2
  have L : ∀ d i N, i + d = 8 → d < N → ∃ e, itW (B_X2_costOf_w4 x X J) N (nI (vl c u i), nI i) = some (nI (vl c u 8), e) := by
    intro d
    induction d with
    | zero =>
      intro i N hi hN
      obtain ⟨N, rfl⟩ : ∃ M, N = M + 1 := ⟨N - 1, by omega⟩
      have ei : i = 8 := by omega
      subst ei
      refine ⟨nI 8, itW_r _ _ _ _ ?_⟩
      unfold B_X2_costOf_w4
      exact if_pos (show (8 : Int32) ≤ nI 8 by decide)
    | succ d id =>
      intro i N hi hN
      obtain ⟨N, rfl⟩ : ∃ M, N = M + 1 := ⟨N - 1, by omega⟩
      have c8 : ¬ (8 : Int32) ≤ nI i := nI_ge (b := 8) (by omega) (by omega)
      by_cases z : x >>> (nI i &&& 31) = 0
      · have cut := vl_cut (c := c) (u := u) (n := i) (8 - i) (fun k h1 h2 => top i (by omega) z k h1 (by omega))
        rw [show i + (8 - i) = 8 by omega] at cut
        refine ⟨nI i, itW_r _ _ _ _ ?_⟩
        unfold B_X2_costOf_w4
        exact (if_neg c8).trans ((if_pos z).trans (by rw [cut]))
      · obtain ⟨e, he⟩ := id (i + 1) N (by omega) (by omega)
        refine ⟨e, (itW_l _ _ _ _ ?_).trans he⟩
        unfold B_X2_costOf_w4
        by_cases b : (x >>> (nI i &&& 31)) &&& 1 = 0
        · refine (if_neg c8).trans ((if_neg z).trans ((if_pos b).trans ?_))
          have v1 : vl c u (i + 1) = vl c u i + (if u i = true then c i else 0) := rfl
          rw [(bit i (by omega)).mp b, if_neg (by decide), Nat.add_zero] at v1
          show Sum.inl (nI (vl c u i) + 0, nI i + 1) = _
          rw [v1, Int32.add_zero, nI_1]
          rfl
        · refine (if_neg c8).trans ((if_neg z).trans ((if_neg b).trans ?_))
          have ui : u i = true := by
            cases e : u i with
            | true => rfl
            | false => exact absurd ((bit i (by omega)).mpr e) b
          have v1 : vl c u (i + 1) = vl c u i + (if u i = true then c i else 0) := rfl
          rw [if_pos ui] at v1
          show Sum.inl (nI (vl c u i) + atF (X 10) 8 (nI i), nI i + 1) = _
          rw [atF_v (show i < 8 by omega) (by omega), hc i (by omega) ui, v1, nI_add, nI_1]
  obtain ⟨e, he⟩ := L 8 0 800 (by omega) (by omega)
  unfold F_X2_costOf F_X2_costOf_w4
  have k : itW (B_X2_costOf_w4 x X J) 800 (0, 0) = some (nI (vl c u 8), e) := he
  rw [k]
  rfl
