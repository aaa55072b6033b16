/-! both: lines alike: printed by wip/gen/inv/g89.py -/
def semi (T : SI) (J : SJ) : SI := if F_X12_isSign 59 T J = 0 then FI_X12_wrong 1 T J else T
def semiC (L : SI) (J : SJ) : SI := if L 81 5 = 4 then L else FI_X4_fail 1 L J
/-- the model's cells of what is told -/
def mT (a b : Nat) : Prop := (a = 132 ∧ b < 10) ∨ ((133 ≤ a ∧ a ≤ 135) ∧ b < 6) ∨ ((136 ≤ a ∧ a ≤ 138) ∧ b < 8) ∨ (a = 139 ∧ b < 48) ∨ ((140 ≤ a ∧ a ≤ 145) ∧ b < 4) ∨ ((146 ≤ a ∧ a ≤ 149) ∧ b < 3) ∨ ((150 ≤ a ∧ a ≤ 151) ∧ b < 64)
def KTM (B B' : SI) : Prop := ∀ a b, mT a b ∨ a = 131 ∨ 152 ≤ a ∨ (a = 130 ∧ 36 ≤ b) → B' a b = B a b
theorem KTM.tr {B B1 B2 : SI} (h : KTM B B1) (h2 : KTM B1 B2) : KTM B B2 := fun a b z => (h2 a b z).trans (h a b z)
theorem KY.kt {B B1 : SI} (h : KY B B1) : KTM B B1 := fun a b z => h a b (by unfold mT at z; omega)
theorem KTM.u {B B1 : SI} {c d : Nat} {v : Int32} (h : KTM B B1) (q : ¬ (mT c d ∨ c = 131 ∨ 152 ≤ c ∨ (c = 130 ∧ 36 ≤ d))) : KTM B (u2 B1 c d v) := fun a b z => (u2_n _ _ (fun y => q (by rw [← y.1, ← y.2]; exact z))).trans (h a b z)
/-- a line's middle: the class's L, the model's T, from A, B on -/
def LM (n : Nat) (A B L T : SI) (J J' : SJ) : Prop := Si n (semiC L J) (semi T J') ∧ (semiC L J 41 1 = 0 → L 81 5 = 4 ∧ T 130 30 = 0 ∧ L 41 1 = 0 ∧ DT L T ∧ nx A ≤ nx L) ∧ KTM B T
theorem LM.of {n : Nat} {A B L T : SI} {J J' : SJ} (s : Si n L T) (d : L 41 1 = 0 → DT L T ∧ nx A ≤ nx L) (kt : KTM B T) : LM n A B L T J J' := by
  unfold LM
  rw [← and_assoc]
  refine ⟨?_, kt⟩
  unfold semi semiC
  by_cases c : L 41 1 = 0
  · have cT : T 130 30 = 0 := s.1.symm.trans c
    have iff : (¬ F_X12_isSign 59 T J' = 0) ↔ L 81 5 = 4 := sg_iff (i := 0) (J := J') s c (by omega)
    by_cases k : L 81 5 = 4
    · rw [if_pos k, if_neg (iff.mpr k)]
      exact ⟨s, fun _ => ⟨k, cT, c, d c⟩⟩
    · have z : F_X12_isSign 59 T J' = 0 := by
        by_cases y : F_X12_isSign 59 T J' = 0
        · exact y
        · exact absurd (iff.mp y) k
      have o := op_fail (w := 1) (J := J) (J' := J') s (by decide)
      rw [if_neg k, if_pos z]
      exact ⟨o.1.1, fun q => absurd q o.2⟩
  · have cT : ¬ T 130 30 = 0 := fun z => c (s.1.trans z)
    have z : F_X12_isSign 59 T J' = 0 := by unfold F_X12_isSign; rw [if_neg cT]
    rw [if_pos z, wrong_f cT, fail_f c, ite_self]
    exact ⟨s, fun q => absurd q c⟩
/-- the model's line behind its middle -/
def lend (T : SI) (J : SJ) : SI := if T 130 30 = 0 then (if F_X12_isSign 59 T J = 0 then u2 (FI_X12_wrong 1 T J) 130 24 (FI_X12_wrong 1 T J 130 24 + 1) else u2 (FI_X12_token T J) 130 24 (FI_X12_token T J 130 24 + 1)) else T
theorem fin_R {n : Nat} {A B L T : SI} {J J1 J' : SJ} (h : LM n A B L T J J') : KTM B (lend T J') ∧ Si n (FI_X8_step (u2 (semiC L J) 42 10 (semiC L J 42 10 + 1)) J1) (lend T J') ∧ (FI_X8_step (u2 (semiC L J) 42 10 (semiC L J 42 10 + 1)) J1 41 1 = 0 → DT (FI_X8_step (u2 (semiC L J) 42 10 (semiC L J 42 10 + 1)) J1) (lend T J') ∧ (FI_X8_step (u2 (semiC L J) 42 10 (semiC L J 42 10 + 1)) J1 81 5 = 0 ∨ nx A < nx (FI_X8_step (u2 (semiC L J) 42 10 (semiC L J 42 10 + 1)) J1))) := by
  obtain ⟨s, d, kt⟩ := h
  have g : ∀ (X : SI) (v : Int32) a b, ¬ (a = 42 ∧ b = 10) → (u2 X 42 10 v) a b = X a b := fun X v a b z => u2_n _ _ z
  by_cases c : semiC L J 41 1 = 0
  · obtain ⟨k4, cT, cL, dd, hx⟩ := d c
    have eC : semiC L J = L := by unfold semiC; rw [if_pos k4]
    rw [eC] at s ⊢
    have cs : semi T J' 130 30 = 0 := s.1.symm.trans cL
    have i59 : ¬ F_X12_isSign 59 T J' = 0 := by
      intro z
      unfold semi at cs
      rw [if_pos z] at cs
      exact absurd ((wrong_Fm (w := 1) (J := J') cT).1.symm.trans cs) (by decide)
    have eS : semi T J' = T := by unfold semi; rw [if_neg i59]
    rw [eS] at s
    have eE : lend T J' = u2 (FI_X12_token T J') 130 24 (FI_X12_token T J' 130 24 + 1) := by
      unfold lend
      rw [if_pos cT, if_neg i59]
    have s2 : Si n (u2 L 42 10 (L 42 10 + 1)) T := s.v (by omega)
    have cu : u2 L 42 10 (L 42 10 + 1) 41 1 = 0 := (g _ _ _ _ (by omega)).trans cL
    have o := op_step (J := J1) (J' := J') s2
    unfold FI_X12_goOn at o
    rw [if_pos cT] at o
    rw [eE]
    refine ⟨(kt.tr o.1.2.2.1.kt).u (by unfold mT; omega), o.1.1.u (by omega), fun _ => ⟨?_, ?_⟩⟩
    · obtain ⟨⟨_, kx, ky, _⟩, _⟩ := o
      have t23 : FI_X12_token T J' 130 23 = T 130 23 := ky 130 23 (by omega)
      have a1 : ∀ a b, ¬ a = 81 → ¬ (a = 41 ∧ (b = 1 ∨ b = 2)) → ¬ (a = 42 ∧ b = 10) → FI_X8_step (u2 L 42 10 (L 42 10 + 1)) J1 a b = L a b := fun a b x y z => (kx a b x y).trans (g _ _ _ _ z)
      have b1 : ∀ a b, ¬ (a = 130 ∧ 26 ≤ b ∧ b ≤ 31) → ¬ (a = 130 ∧ b = 24) → (u2 (FI_X12_token T J') 130 24 (FI_X12_token T J' 130 24 + 1)) a b = T a b := fun a b x y => (u2_n _ _ y).trans (ky a b x)
      have tt : ∀ v, tb ((u2 (FI_X12_token T J') 130 24 (FI_X12_token T J' 130 24 + 1)) 130 23) v ↔ tb (T 130 23) v := fun v => by rw [b1 130 23 (by omega) (by omega)]
      refine ⟨dd.1.mv (fun a b z => a1 a b (by omega) (by omega) (by omega)) (fun a b z => b1 a b (by omega) (by omega)), ⟨dd.2.1.1.mv (a1 _ _ (by omega) (by omega) (by omega)) (b1 _ _ (by omega) (by omega)) (tt _), dd.2.1.2.1.mv (a1 _ _ (by omega) (by omega) (by omega)) (b1 _ _ (by omega) (by omega)) (tt _), dd.2.1.2.2.1.mv (a1 _ _ (by omega) (by omega) (by omega)) (b1 _ _ (by omega) (by omega)) (tt _), ?_⟩, dd.2.2.mv (fun a b z => a1 a b (by omega) (by omega) (by omega)) (fun a b z => b1 a b (by omega) (by omega)) (fun v _ => tt v)⟩
      rw [u2_s, kx 42 10 (by omega) (by omega), u2_s, ky 130 24 (by omega), dd.2.1.2.2.2]
    · have n1 : nx (u2 L 42 10 (L 42 10 + 1)) = nx L := by unfold nx; rw [g _ _ 81 3 (by omega)]
      have := (o.2 cu).1
      rw [n1] at this
      exact this.imp id (fun z => by omega)
  · have st : ¬ (u2 (semiC L J) 42 10 (semiC L J 42 10 + 1)) 81 4 = 0 := by rw [g _ _ 81 4 (by omega)]; exact s.2.2.2 c
    rw [step_id st]
    have cu : ¬ (u2 (semiC L J) 42 10 (semiC L J 42 10 + 1)) 41 1 = 0 := by rw [g _ _ 41 1 (by omega)]; exact c
    rw [← and_assoc]
    refine ⟨?_, fun q => absurd q cu⟩
    have s2 : Si n (u2 (semiC L J) 42 10 (semiC L J 42 10 + 1)) (semi T J') := s.v (by omega)
    have wk : KTM T (FI_X12_wrong 1 T J') := by
      unfold FI_X12_wrong
      split
      · exact (KTM.u (KTM.u (fun _ _ _ => rfl) (by unfold mT; omega)) (by unfold mT; omega))
      · exact fun _ _ _ => rfl
    unfold lend
    by_cases cT : T 130 30 = 0
    · by_cases z : F_X12_isSign 59 T J' = 0
      · have eS : semi T J' = FI_X12_wrong 1 T J' := by unfold semi; rw [if_pos z]
        rw [eS] at s2
        rw [if_pos cT, if_pos z]
        exact ⟨(kt.tr wk).u (by unfold mT; omega), s2.u (by omega)⟩
      · have eS : semi T J' = T := by unfold semi; rw [if_neg z]
        rw [eS] at s
        exact absurd (s.1.trans cT) c
    · have z : F_X12_isSign 59 T J' = 0 := by unfold F_X12_isSign; rw [if_neg cT]
      have eS : semi T J' = T := by unfold semi; rw [if_pos z, wrong_f cT]
      rw [eS] at s2
      rw [if_neg cT]
      exact ⟨kt, s2⟩
theorem rsM {p : Nat × Nat} (h : p ∈ RSM) : 44 ≤ p.1 ∧ p.1 ≤ 46 ∧ 133 ≤ p.2 ∧ p.2 ≤ 135 := by revert p; rw [rs_in.1]; decide
theorem rsS {p : Nat × Nat} (h : p ∈ RSS) : 49 ≤ p.1 ∧ p.1 ≤ 51 ∧ 136 ≤ p.2 ∧ p.2 ≤ 138 := by revert p; rw [rs_in.2.1]; decide
theorem rsP {p : Nat × Nat} (h : p ∈ RSP) : 54 ≤ p.1 ∧ p.1 ≤ 57 ∧ 140 ≤ p.2 ∧ p.2 ≤ 143 := by revert p; rw [rs_in.2.2.1]; decide
theorem rsC {p : Nat × Nat} (h : p ∈ RSC) : 59 ≤ p.1 ∧ p.1 ≤ 60 ∧ 144 ≤ p.2 ∧ p.2 ≤ 145 := by revert p; rw [rs_in.2.2.2.1]; decide
theorem rsK {p : Nat × Nat} (h : p ∈ RSK) : 65 ≤ p.1 ∧ p.1 ≤ 66 ∧ 146 ≤ p.2 ∧ p.2 ≤ 147 := by revert p; rw [rs_in.2.2.2.2]; decide
theorem DTt.tM {A B L T : SI} (h : DTt A B) (eA : ∀ a b, ((43 ≤ a ∧ a ≤ 68) ∨ a = 42) → ¬ (43 ≤ a ∧ a ≤ 47) → L a b = A a b) (eB : ∀ a b, 132 ≤ a → a ≤ 147 → ¬ (133 ≤ a ∧ a ≤ 135) → ¬ (a = 132 ∧ b = 10) → T a b = B a b) (hn : TBL 43 0 6 6 RSM L T) (hg : ∃ c, c < 8 ∧ A 43 1 = nI c ∧ T 132 10 = nI (c + 1)) : DTt L T := by
  have gm : (A 43 1).toNatClampNeg ≤ (L 43 1).toNatClampNeg := by
    obtain ⟨c, c8, g1, g2⟩ := hg
    obtain ⟨c', _, _, n1, n2, _⟩ := hn
    rw [g1, n1, ← n2, g2, nI_clamp (by omega), nI_clamp (by omega)]
    omega
  obtain ⟨h0, h1, h2, h3, h4, ⟨c, hc, e1, e2⟩, h5⟩ := h
  exact ⟨hn, h1.mv (eA _ _ (by omega) (by omega)) (eA _ _ (by omega) (by omega)) (eB _ _ (by omega) (by omega) (by omega) (by omega)) (fun p hp i _ => eA p.1 i (by have := rsS hp; omega) (by have := rsS hp; omega)) (fun p hp i _ => eB p.2 _ (by have := rsS hp; omega) (by have := rsS hp; omega) (by have := rsS hp; omega) (by have := rsS hp; omega)), h2.mv (eA _ _ (by omega) (by omega)) (eA _ _ (by omega) (by omega)) (eB _ _ (by omega) (by omega) (by omega) (by omega)) (fun p hp i _ => eA p.1 i (by have := rsP hp; omega) (by have := rsP hp; omega)) (fun p hp i _ => eB p.2 _ (by have := rsP hp; omega) (by have := rsP hp; omega) (by have := rsP hp; omega) (by have := rsP hp; omega)), h3.mv (eA _ _ (by omega) (by omega)) (eA _ _ (by omega) (by omega)) (eB _ _ (by omega) (by omega) (by omega) (by omega)) (fun p hp i _ => eA p.1 i (by have := rsC hp; omega) (by have := rsC hp; omega)) (fun p hp i _ => eB p.2 _ (by have := rsC hp; omega) (by have := rsC hp; omega) (by have := rsC hp; omega) (by have := rsC hp; omega)), h4.mv (eA _ _ (by omega) (by omega)) (eA _ _ (by omega) (by omega)) (eB _ _ (by omega) (by omega) (by omega) (by omega)) (fun p hp i _ => eA p.1 i (by have := rsK hp; omega) (by have := rsK hp; omega)) (fun p hp i _ => eB p.2 _ (by have := rsK hp; omega) (by have := rsK hp; omega) (by have := rsK hp; omega) (by have := rsK hp; omega)), ⟨c, hc, (eA _ _ (by omega) (by omega)).trans e1, (eB _ _ (by omega) (by omega) (by omega) (by omega)).trans e2⟩, fun i hi => by
    have m := (h5 i hi).2.2.to (A' := L) (eA 68 i (by omega) (by omega)) gm (eA 53 1 (by omega) (by omega)) (fun _ => eA 55 i (by omega) (by omega))
    rw [eA 68 i (by omega) (by omega), eB 139 (48 + i) (by omega) (by omega) (by omega) (by omega)]
    exact ⟨(h5 i hi).1, (h5 i hi).2.1, m⟩⟩
theorem DTt.tS {A B L T : SI} (h : DTt A B) (eA : ∀ a b, ((43 ≤ a ∧ a ≤ 68) ∨ a = 42) → ¬ (48 ≤ a ∧ a ≤ 52) → L a b = A a b) (eB : ∀ a b, 132 ≤ a → a ≤ 147 → ¬ (136 ≤ a ∧ a ≤ 138) → ¬ (a = 132 ∧ b = 11) → T a b = B a b) (hn : TBL 48 1 8 8 RSS L T) : DTt L T := by
  obtain ⟨h0, h1, h2, h3, h4, ⟨c, hc, e1, e2⟩, h5⟩ := h
  exact ⟨h0.mv (eA _ _ (by omega) (by omega)) (eA _ _ (by omega) (by omega)) (eB _ _ (by omega) (by omega) (by omega) (by omega)) (fun p hp i _ => eA p.1 i (by have := rsM hp; omega) (by have := rsM hp; omega)) (fun p hp i _ => eB p.2 _ (by have := rsM hp; omega) (by have := rsM hp; omega) (by have := rsM hp; omega) (by have := rsM hp; omega)), hn, h2.mv (eA _ _ (by omega) (by omega)) (eA _ _ (by omega) (by omega)) (eB _ _ (by omega) (by omega) (by omega) (by omega)) (fun p hp i _ => eA p.1 i (by have := rsP hp; omega) (by have := rsP hp; omega)) (fun p hp i _ => eB p.2 _ (by have := rsP hp; omega) (by have := rsP hp; omega) (by have := rsP hp; omega) (by have := rsP hp; omega)), h3.mv (eA _ _ (by omega) (by omega)) (eA _ _ (by omega) (by omega)) (eB _ _ (by omega) (by omega) (by omega) (by omega)) (fun p hp i _ => eA p.1 i (by have := rsC hp; omega) (by have := rsC hp; omega)) (fun p hp i _ => eB p.2 _ (by have := rsC hp; omega) (by have := rsC hp; omega) (by have := rsC hp; omega) (by have := rsC hp; omega)), h4.mv (eA _ _ (by omega) (by omega)) (eA _ _ (by omega) (by omega)) (eB _ _ (by omega) (by omega) (by omega) (by omega)) (fun p hp i _ => eA p.1 i (by have := rsK hp; omega) (by have := rsK hp; omega)) (fun p hp i _ => eB p.2 _ (by have := rsK hp; omega) (by have := rsK hp; omega) (by have := rsK hp; omega) (by have := rsK hp; omega)), ⟨c, hc, (eA _ _ (by omega) (by omega)).trans e1, (eB _ _ (by omega) (by omega) (by omega) (by omega)).trans e2⟩, fun i hi => by
    have m := (h5 i hi).2.2.to (A' := L) (eA 68 i (by omega) (by omega)) (le_of_e (eA 43 1 (by omega) (by omega))) (eA 53 1 (by omega) (by omega)) (fun _ => eA 55 i (by omega) (by omega))
    rw [eA 68 i (by omega) (by omega), eB 139 (48 + i) (by omega) (by omega) (by omega) (by omega)]
    exact ⟨(h5 i hi).1, (h5 i hi).2.1, m⟩⟩
theorem DTt.tP {A B L T : SI} (h : DTt A B) (eA : ∀ a b, ((43 ≤ a ∧ a ≤ 68) ∨ a = 42) → ¬ (53 ≤ a ∧ a ≤ 57) → L a b = A a b) (eB : ∀ a b, 132 ≤ a → a ≤ 147 → ¬ (140 ≤ a ∧ a ≤ 143) → ¬ (a = 132 ∧ b = 13) → T a b = B a b) (hn : TBL 53 3 4 4 RSP L T) (hg : ∃ c x, c < 8 ∧ A 53 1 = nI c ∧ T 132 13 = nI (c + 1) ∧ (∀ i, i < c → L 55 i = A 55 i) ∧ L 55 c = x ∧ x.toNatClampNeg < (A 43 1).toNatClampNeg) : DTt L T := by
  have gq : ∀ i, MKQ 68 43 53 55 i A → L 68 i = A 68 i → L 43 1 = A 43 1 → MKQ 68 43 53 55 i L := by
    obtain ⟨c, x, c8, g1, g2, g3, g4, g5⟩ := hg
    obtain ⟨c', _, _, n1, n2, _⟩ := hn
    have l1 : L 53 1 = nI (c + 1) := n1.trans (n2.symm.trans g2)
    intro i m e1 e2
    refine ⟨by rw [e1, e2]; exact m.1, fun z => ?_⟩
    rw [l1, nI_clamp (by omega)] at z
    rw [e2]
    by_cases y : i = c
    · rw [y, g4]; exact g5
    · rw [g3 i (by omega)]
      exact m.2 (by rw [g1, nI_clamp (by omega)]; omega)
  obtain ⟨h0, h1, h2, h3, h4, ⟨c, hc, e1, e2⟩, h5⟩ := h
  exact ⟨h0.mv (eA _ _ (by omega) (by omega)) (eA _ _ (by omega) (by omega)) (eB _ _ (by omega) (by omega) (by omega) (by omega)) (fun p hp i _ => eA p.1 i (by have := rsM hp; omega) (by have := rsM hp; omega)) (fun p hp i _ => eB p.2 _ (by have := rsM hp; omega) (by have := rsM hp; omega) (by have := rsM hp; omega) (by have := rsM hp; omega)), h1.mv (eA _ _ (by omega) (by omega)) (eA _ _ (by omega) (by omega)) (eB _ _ (by omega) (by omega) (by omega) (by omega)) (fun p hp i _ => eA p.1 i (by have := rsS hp; omega) (by have := rsS hp; omega)) (fun p hp i _ => eB p.2 _ (by have := rsS hp; omega) (by have := rsS hp; omega) (by have := rsS hp; omega) (by have := rsS hp; omega)), hn, h3.mv (eA _ _ (by omega) (by omega)) (eA _ _ (by omega) (by omega)) (eB _ _ (by omega) (by omega) (by omega) (by omega)) (fun p hp i _ => eA p.1 i (by have := rsC hp; omega) (by have := rsC hp; omega)) (fun p hp i _ => eB p.2 _ (by have := rsC hp; omega) (by have := rsC hp; omega) (by have := rsC hp; omega) (by have := rsC hp; omega)), h4.mv (eA _ _ (by omega) (by omega)) (eA _ _ (by omega) (by omega)) (eB _ _ (by omega) (by omega) (by omega) (by omega)) (fun p hp i _ => eA p.1 i (by have := rsK hp; omega) (by have := rsK hp; omega)) (fun p hp i _ => eB p.2 _ (by have := rsK hp; omega) (by have := rsK hp; omega) (by have := rsK hp; omega) (by have := rsK hp; omega)), ⟨c, hc, (eA _ _ (by omega) (by omega)).trans e1, (eB _ _ (by omega) (by omega) (by omega) (by omega)).trans e2⟩, fun i hi => by
    have m : MKQ 68 43 53 55 i L := gq i (h5 i hi).2.2 (eA 68 i (by omega) (by omega)) (eA 43 1 (by omega) (by omega))
    rw [eA 68 i (by omega) (by omega), eB 139 (48 + i) (by omega) (by omega) (by omega) (by omega)]
    exact ⟨(h5 i hi).1, (h5 i hi).2.1, m⟩⟩
theorem DTt.tC {A B L T : SI} (h : DTt A B) (eA : ∀ a b, ((43 ≤ a ∧ a ≤ 68) ∨ a = 42) → ¬ (58 ≤ a ∧ a ≤ 62) → L a b = A a b) (eB : ∀ a b, 132 ≤ a → a ≤ 147 → ¬ (144 ≤ a ∧ a ≤ 145) → ¬ (a = 132 ∧ b = 14) → T a b = B a b) (hn : TBL 58 4 4 4 RSC L T) : DTt L T := by
  obtain ⟨h0, h1, h2, h3, h4, ⟨c, hc, e1, e2⟩, h5⟩ := h
  exact ⟨h0.mv (eA _ _ (by omega) (by omega)) (eA _ _ (by omega) (by omega)) (eB _ _ (by omega) (by omega) (by omega) (by omega)) (fun p hp i _ => eA p.1 i (by have := rsM hp; omega) (by have := rsM hp; omega)) (fun p hp i _ => eB p.2 _ (by have := rsM hp; omega) (by have := rsM hp; omega) (by have := rsM hp; omega) (by have := rsM hp; omega)), h1.mv (eA _ _ (by omega) (by omega)) (eA _ _ (by omega) (by omega)) (eB _ _ (by omega) (by omega) (by omega) (by omega)) (fun p hp i _ => eA p.1 i (by have := rsS hp; omega) (by have := rsS hp; omega)) (fun p hp i _ => eB p.2 _ (by have := rsS hp; omega) (by have := rsS hp; omega) (by have := rsS hp; omega) (by have := rsS hp; omega)), h2.mv (eA _ _ (by omega) (by omega)) (eA _ _ (by omega) (by omega)) (eB _ _ (by omega) (by omega) (by omega) (by omega)) (fun p hp i _ => eA p.1 i (by have := rsP hp; omega) (by have := rsP hp; omega)) (fun p hp i _ => eB p.2 _ (by have := rsP hp; omega) (by have := rsP hp; omega) (by have := rsP hp; omega) (by have := rsP hp; omega)), hn, h4.mv (eA _ _ (by omega) (by omega)) (eA _ _ (by omega) (by omega)) (eB _ _ (by omega) (by omega) (by omega) (by omega)) (fun p hp i _ => eA p.1 i (by have := rsK hp; omega) (by have := rsK hp; omega)) (fun p hp i _ => eB p.2 _ (by have := rsK hp; omega) (by have := rsK hp; omega) (by have := rsK hp; omega) (by have := rsK hp; omega)), ⟨c, hc, (eA _ _ (by omega) (by omega)).trans e1, (eB _ _ (by omega) (by omega) (by omega) (by omega)).trans e2⟩, fun i hi => by
    have m := (h5 i hi).2.2.to (A' := L) (eA 68 i (by omega) (by omega)) (le_of_e (eA 43 1 (by omega) (by omega))) (eA 53 1 (by omega) (by omega)) (fun _ => eA 55 i (by omega) (by omega))
    rw [eA 68 i (by omega) (by omega), eB 139 (48 + i) (by omega) (by omega) (by omega) (by omega)]
    exact ⟨(h5 i hi).1, (h5 i hi).2.1, m⟩⟩
theorem DTt.tK {A B L T : SI} (h : DTt A B) (eA : ∀ a b, ((43 ≤ a ∧ a ≤ 68) ∨ a = 42) → ¬ (63 ≤ a ∧ a ≤ 67) → L a b = A a b) (eB : ∀ a b, 132 ≤ a → a ≤ 147 → ¬ (146 ≤ a ∧ a ≤ 147) → ¬ (a = 132 ∧ b = 15) → T a b = B a b) (hn : TBL 63 5 3 3 RSK L T) : DTt L T := by
  obtain ⟨h0, h1, h2, h3, h4, ⟨c, hc, e1, e2⟩, h5⟩ := h
  exact ⟨h0.mv (eA _ _ (by omega) (by omega)) (eA _ _ (by omega) (by omega)) (eB _ _ (by omega) (by omega) (by omega) (by omega)) (fun p hp i _ => eA p.1 i (by have := rsM hp; omega) (by have := rsM hp; omega)) (fun p hp i _ => eB p.2 _ (by have := rsM hp; omega) (by have := rsM hp; omega) (by have := rsM hp; omega) (by have := rsM hp; omega)), h1.mv (eA _ _ (by omega) (by omega)) (eA _ _ (by omega) (by omega)) (eB _ _ (by omega) (by omega) (by omega) (by omega)) (fun p hp i _ => eA p.1 i (by have := rsS hp; omega) (by have := rsS hp; omega)) (fun p hp i _ => eB p.2 _ (by have := rsS hp; omega) (by have := rsS hp; omega) (by have := rsS hp; omega) (by have := rsS hp; omega)), h2.mv (eA _ _ (by omega) (by omega)) (eA _ _ (by omega) (by omega)) (eB _ _ (by omega) (by omega) (by omega) (by omega)) (fun p hp i _ => eA p.1 i (by have := rsP hp; omega) (by have := rsP hp; omega)) (fun p hp i _ => eB p.2 _ (by have := rsP hp; omega) (by have := rsP hp; omega) (by have := rsP hp; omega) (by have := rsP hp; omega)), h3.mv (eA _ _ (by omega) (by omega)) (eA _ _ (by omega) (by omega)) (eB _ _ (by omega) (by omega) (by omega) (by omega)) (fun p hp i _ => eA p.1 i (by have := rsC hp; omega) (by have := rsC hp; omega)) (fun p hp i _ => eB p.2 _ (by have := rsC hp; omega) (by have := rsC hp; omega) (by have := rsC hp; omega) (by have := rsC hp; omega)), hn, ⟨c, hc, (eA _ _ (by omega) (by omega)).trans e1, (eB _ _ (by omega) (by omega) (by omega) (by omega)).trans e2⟩, fun i hi => by
    have m := (h5 i hi).2.2.to (A' := L) (eA 68 i (by omega) (by omega)) (le_of_e (eA 43 1 (by omega) (by omega))) (eA 53 1 (by omega) (by omega)) (fun _ => eA 55 i (by omega) (by omega))
    rw [eA 68 i (by omega) (by omega), eB 139 (48 + i) (by omega) (by omega) (by omega) (by omega)]
    exact ⟨(h5 i hi).1, (h5 i hi).2.1, m⟩⟩
/-- cells alike by both frames -/
theorem Si.fr {n : Nat} {A A' B B' : SI} (s : Si n A B) (eA : ∀ a b, a = 1 ∨ a = 81 ∨ a = 82 ∨ (a = 41 ∧ (b = 1 ∨ b = 2)) → A' a b = A a b) (eB : ∀ a b, a = 131 ∨ (a = 130 ∧ 25 ≤ b ∧ b ≤ 31) → B' a b = B a b) : Si n A' B' := by
  refine ⟨by rw [eA 41 1 (by omega), eB 130 30 (by omega)]; exact s.1, by rw [eA 41 2 (by omega), eB 130 31 (by omega)]; exact s.2.1, fun c => ?_, fun c => by rw [eA 81 4 (by omega)]; exact s.2.2.2 (by rw [← eA 41 1 (by omega)]; exact c)⟩
  obtain ⟨tp, wd0, hn, a2, b2, a4, r0, hr0, a3, b3, a7, kv⟩ := s.2.2.1 (by rw [← eA 41 1 (by omega)]; exact c)
  exact ⟨fun b => by rw [eA 1 b (by omega), eB 131 b (by omega)]; exact tp b, fun i hi => (eA 82 i (by omega)).trans (wd0 i hi), hn, (eA 81 2 (by omega)).trans a2, (eB _ _ (by omega)).trans b2, (eA _ _ (by omega)).trans a4, r0, hr0, (eA _ _ (by omega)).trans a3, (eB _ _ (by omega)).trans b3, by rw [eA 81 7 (by omega), eB 130 27 (by omega)]; exact a7, by rw [eA 81 5 (by omega), eA 81 6 (by omega), eB 130 28 (by omega), eB 130 29 (by omega)]; exact kv⟩
theorem fr_v {w c : Nat} {B : SI} {J : SJ} (h : w < 10) (e : B 132 (10 + w) = nI c) : F_X12_fresher (nI w) B J = nI c := by
  unfold F_X12_fresher
  rw [show (10 : Int32) = nI 10 from rfl, nI_add, nI_clamp (by omega)]
  exact e
theorem rd_v {w : Nat} {x : Int32} {B : SI} {J : SJ} (h : w < 10) : FI_X12_reads (nI w) x B J = u2 B 132 (10 + w) x := by
  unfold FI_X12_reads
  rw [show (10 : Int32) = nI 10 from rfl, nI_add, nI_clamp (by omega)]
theorem ix_v {f c : Nat} (h : f + c < 2 ^ 31) : (nI f + nI c).toNatClampNeg = f + c := by rw [nI_add, nI_clamp h]
theorem fullc_v {k mx c : Nat} {A : SI} {J : SJ} (e0 : A k 0 = nI mx) (e1 : A k 1 = nI c) (hc : c ≤ mx) (hm : mx ≤ 8) : F_X7_isFull k A J = if c = mx then 1 else 0 := by
  unfold F_X7_isFull
  rw [e0, e1]
  by_cases z : c = mx
  · rw [if_pos z, if_neg (nI_nlt (by omega) (by omega))]
  · rw [if_neg z, if_pos (nI_lt (by omega) (by omega))]
theorem beg_1 {A : SI} {J : SJ} (c : A 41 1 = 0) : FI_X4_begin 1 A J = FI_X4_fail 2 A J ∧ ¬ FI_X4_fail 2 A J 41 1 = 0 ∧ ¬ FI_X4_fail 2 A J 81 4 = 0 := by
  have f := fail_Fl (w := 2) (J := J) c
  refine ⟨?_, by rw [f.1]; decide, f.2.2⟩
  unfold FI_X4_begin
  rw [if_neg (show ¬ (1 : Int32) = 0 by decide), step_id f.2.2]
theorem beg_0 {A : SI} {J : SJ} : FI_X4_begin 0 A J = FI_X8_step A J := by
  unfold FI_X4_begin
  rw [if_pos rfl]
theorem nv_in {a : Nat} {x : Int32} {lo hi : Int32} (h : hi = nI a) (ha : a ≤ 100000) (h0 : 0 ≤ lo) (h1 : ¬ x < lo) (h2 : x ≤ hi) : inR x (a + 1) := by
  rw [h] at h2
  exact in_of (len := a + 1) (fun z => h1 (Int32.lt_of_lt_of_le z h0)) (fun q => absurd (Int32.le_trans q h2) (nI_ge (by omega) (by omega))) (by omega)
