/-! the fresh objects: what a first call reads of them -/
theorem a0_m {a b : Nat} (h : 130 ≤ a) (h1 : a ≠ 130) (h2 : a ≠ 132) : A0 a b = 0 := by
  unfold A0 S17_X12_init S4_X12_init S3_X12_init S2_X12_init S1_X12_init
  simp only [u2, h1, h2, false_and, if_false]
  exact (zr_1 a b h).1
theorem uz {I : SI} {a c x : Nat} {v : Int32} (h : ∀ b, I a b = 0) (hv : a = c → v = 0) : ∀ b, u2 I c x v a b = 0 := by
  intro b
  by_cases q : a = c ∧ b = x
  · obtain ⟨rfl, rfl⟩ := q
    rw [u2_s]
    exact hv rfl
  · rw [u2_n _ _ q]
    exact h b
theorem st_z {f : Int32} {I : SI} {J : SJ} {a : Nat} (ha : a = 154 ∨ a = 157 ∨ a = 163 ∨ a = 164) (h : ∀ b, I a b = 0) : ∀ b, FI_X12_starts f I J a b = 0 := by
  have n1 : a ≠ 155 ∧ a ≠ 156 ∧ a ≠ 159 ∧ a ≠ 160 ∧ a ≠ 161 ∧ a ≠ 162 ∧ a ≠ 165 ∧ a ≠ 166 ∧ a ≠ 167 := by omega
  unfold FI_X12_starts F_X12_starts_l194 S5_X12_starts F_X12_starts_l163 F_X12_starts_l94 S4_X12_starts F_X12_starts_l56
  refine itN_inv (P := fun (s : SI) => ∀ b, s a b = 0) ?_ (fun i s _ hs => ?_)
  · refine itN_inv (P := fun (s : SI) => ∀ b, s a b = 0) ?_ (fun i s _ hs => ?_)
    · refine itN_inv (P := fun (s : SI) => ∀ b, s a b = 0) ?_ (fun i s _ hs => ?_)
      · refine itN_inv (P := fun (s : SI) => ∀ b, s a b = 0) ?_ (fun i s _ hs => ?_)
        · unfold S3_X12_starts S2_X12_starts S1_X12_starts
          exact uz (uz (uz (uz (uz (uz h (fun _ => rfl)) (fun q => absurd q n1.1)) (fun q => absurd q n1.2.1)) (fun _ => rfl)) (fun _ => rfl)) (fun _ => rfl)
        · unfold B_X12_starts_l56 S12_X12_starts
          exact uz (uz hs (fun q => absurd q n1.2.2.2.1)) (fun _ => rfl)
      · unfold B_X12_starts_l94 S11_X12_starts S10_X12_starts S9_X12_starts
        exact uz (uz (uz hs (fun q => absurd q n1.2.2.2.2.2.1)) (fun _ => rfl)) (fun _ => rfl)
    · unfold B_X12_starts_l163 S8_X12_starts
      exact uz hs (fun q => absurd q n1.2.2.2.2.2.2.1)
  · unfold B_X12_starts_l194 S7_X12_starts S6_X12_starts
    exact uz (uz hs (fun q => absurd q n1.2.2.2.2.2.2.2.1)) (fun _ => rfl)
theorem fc0_a : ∀ q ∈ FCL, A0 q.1 q.2.1 = q.2.2 := by decide +kernel
theorem fc0_b : ∀ b, b < 8 → A0 88 b = 0 := by decide +kernel
theorem fm0_a : ∀ q ∈ FML, B0 q.1 q.2.1 = q.2.2 := by decide +kernel
theorem frC0 : FC A0 := ⟨fc0_a, fc0_b⟩
theorem frM0 : FM B0 := by
  refine ⟨fm0_a, fun a ha => ?_⟩
  have hz : ∀ b, A0 a b = 0 := fun b => a0_m (by omega) (by omega) (by omega)
  by_cases c : a = 148 ∨ a = 149
  · intro b
    unfold B0 FI_X12_begins
    rw [starts_n (by omega)]
    exact hz b
  · exact st_z (f := 0) (J := J1) (by omega) hz
theorem nd_ite {c : Prop} [Decidable c] {P Q : Prop} (h1 : P) (h2 : Q) : if c then P else Q := by
  split
  · exact h1
  · exact h2
theorem fresh_need (key : Int32) (xs : Nat → Int32) (k : Nat) : Need key xs k A0 J1 B0 J1 (fun _ _ _ _ => True) :=
  nd_ite (fr0 frC0 frM0) (nd_ite (fr1 frC0 frM0) (nd_ite (fr2 frC0 frM0) (nd_ite (fr3 frC0 frM0) (nd_ite (fr4 frC0 frM0) (nd_ite (fr5 frC0 frM0) (nd_ite (fr6 frC0 frM0) (nd_ite (fr7 frC0 frM0) (nd_ite (fr8 frC0 frM0) (nd_ite (fr9 frC0 frM0) (nd_ite (fr10 frC0 frM0) (nd_ite (fr11 frC0 frM0) (nd_ite (fr12 frC0 frM0) (nd_ite (fr13 frC0 frM0) (nd_ite (fr14 frC0 frM0) (nd_ite (fr15 frC0 frM0) (nd_ite (fr16 frC0 frM0) (nd_ite (fr17 frC0 frM0) (nd_ite (fr18 frC0 frM0) (nd_ite (fr19 frC0 frM0) (nd_ite (fr20 frC0 frM0) (nd_ite (fr21 frC0 frM0) (nd_ite (fr22 frC0 frM0) (nd_ite (fr23 frC0 frM0) (nd_ite (fr24 frC0 frM0) (nd_ite (fr25 frC0 frM0) (nd_ite (fr26 frC0 frM0) (nd_ite (fr27 frC0 frM0) (nd_ite (fr28 frC0 frM0) (nd_ite (fr29 frC0 frM0) (nd_ite (fr30 frC0 frM0) (nd_ite (fr31 frC0 frM0) (nd_ite (fr32 frC0 frM0) (nd_ite (fr33 frC0 frM0) (nd_ite (fr34 frC0 frM0) (nd_ite (fr35 frC0 frM0) (nd_ite (fr36 frC0 frM0) (nd_ite (fr37 frC0 frM0) (trivial))))))))))))))))))))))))))))))))))))))
/-- the claim's walk -/
theorem whole_start {p : Program} {e : Env} {s : State} {m : MethodId} {below : List Frame} {meth : Method} {c : Code} (l : Launch) (hflags : l.flags = flags0) {b L : Nat} {xs : Nat → Int32} (hL : L ≤ 6) (C0 : lw_At p s m meth c b L xs) : W p l e room_1 s m #[Value.ref b] below meth c s.heap [] 0 0 (lw_Z below #[Value.ref b] s) (entryFrame m ([Value.ref b] : List Value).toArray 7) := by
  obtain ⟨cy, D, ok, sc, hE⟩ := law_ok (e := e) (below := below) l (show L < 2 ^ 31 by omega) C0
  refine law_start l (cy := cy) (D := D) ?_
  refine law_init ok ⟨Nat.le_of_ble_eq_true rfl, Nat.le_of_ble_eq_true rfl⟩ ?_
  refine law_head (k := 0) ok sc (by omega) (by decide) (fun h6 => ?_) (fun _ => q_end C0)
  refine law_round (k := 0) ok sc ro_0 rm_0 (by omega) ?_ hE ⟨Nat.le_of_ble_eq_true rfl, Nat.le_of_ble_eq_true rfl⟩ (fresh_need _ _ _) ?_
  · show Jvm.Launch.stackTraces l = false
    unfold Jvm.Launch.stackTraces
    rw [hflags]
    decide +kernel
  · intro A1 JA1 B1 JB1 R1 cl1 sl1 g1 _ _ _ _ _
    refine law_next ok ?_
    exact law_head (k := 0 + 6) ok sc (by omega) (by decide) (fun h => absurd h (by omega)) (fun _ => q_end C0)
