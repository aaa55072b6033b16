/-! both: drafts alike -/
def BD (r : Nat) (x : Int32) : Prop := if r = 134 then inR x 100 else if r = 135 then inR x 7 ∧ ¬ x = 0 else if r = 137 then inR x 100 else if r = 138 then inR x 100 else if r = 141 then inR x 6 else if r = 142 then inR x 6 else if r = 143 then inR x 100 else True
/-- a table alike: the class's at k, of at most mx; the model's count and rows, from f on -/
def TBL (k w mx f : Nat) (rs : List (Nat × Nat)) (A B : SI) : Prop := ∃ c : Nat, c ≤ mx ∧ A k 0 = nI mx ∧ A k 1 = nI c ∧ B 132 (10 + w) = nI c ∧ ∀ i, i < c → ∀ p ∈ rs, A p.1 i = B p.2 (f + i) ∧ BD p.2 (A p.1 i)
def RSM : List (Nat × Nat) := [(44, 133), (45, 134), (46, 135)]
def RSS : List (Nat × Nat) := [(49, 136), (50, 137), (51, 138)]
def RSP : List (Nat × Nat) := [(54, 140), (55, 141), (56, 142), (57, 143)]
def RSC : List (Nat × Nat) := [(59, 144), (60, 145)]
def RSK : List (Nat × Nat) := [(65, 146), (66, 147)]
/-- a bit of what is told -/
abbrev tb (x : Int32) (w : Nat) : Prop := ((x >>> (nI w &&& 31)) &&& 1) = 1
def ON (x y w : Nat) (df most : Nat) (A B : SI) : Prop := (¬ tb (B 130 23) w ∧ A 42 x = -1 ∧ B 132 y = nI df) ∨ (tb (B 130 23) w ∧ A 42 x = B 132 y ∧ inR (A 42 x) (most + 1))
/-- of a text, by the class alone: ways are of marks that are there, parties want marks that are there -/
def MKQ (a b c d i : Nat) (A : SI) : Prop := (A a i = -1 ∨ i % 6 < (A b 1).toNatClampNeg) ∧ (i < (A c 1).toNatClampNeg → (A d i).toNatClampNeg < (A b 1).toNatClampNeg)
theorem MKQ.to {a b c d i a' b' c' d' : Nat} {A A' : SI} (m : MKQ a b c d i A) (e1 : A' a' i = A a i) (e2 : (A b 1).toNatClampNeg ≤ (A' b' 1).toNatClampNeg) (e3 : A' c' 1 = A c 1) (e4 : i < (A c 1).toNatClampNeg → A' d' i = A d i) : MKQ a' b' c' d' i A' := by
  obtain ⟨m1, m2⟩ := m
  refine ⟨?_, fun h => ?_⟩
  · rw [e1]
    exact m1.imp id (fun z => Nat.lt_of_lt_of_le z e2)
  · rw [e3] at h
    rw [e4 h]
    exact Nat.lt_of_lt_of_le (m2 h) e2
theorem le_of_e {x y : Int32} (h : y = x) : x.toNatClampNeg ≤ y.toNatClampNeg := by rw [h]; exact Nat.le_refl _
def DTt (A B : SI) : Prop := TBL 43 0 6 6 RSM A B ∧ TBL 48 1 8 8 RSS A B ∧ TBL 53 3 4 4 RSP A B ∧ TBL 58 4 4 4 RSC A B ∧ TBL 63 5 3 3 RSK A B ∧ (∃ c, c ≤ 20 ∧ A 42 6 = nI c ∧ B 132 12 = nI c) ∧ ∀ i, i < 48 → A 68 i = B 139 (48 + i) ∧ (A 68 i = -1 ∨ inR (A 68 i) 6) ∧ MKQ 68 43 53 55 i A
def DTo (A B : SI) : Prop := ON 7 16 6 0 100 A B ∧ ON 8 17 7 99 999 A B ∧ ON 9 18 8 0 99999 A B ∧ A 42 10 = B 130 24
/-- one law alike -/
def LWR (k : Nat) (A B : SI) : Prop := (¬ tb (B 130 23) (16 + k) ∧ A (69 + 4 * k) 0 = 0 ∧ A (69 + 4 * k) 1 = 0 ∧ B 148 (3 + k) = 0 ∧ B 149 (3 + k) = 0) ∨ (tb (B 130 23) (16 + k) ∧ A (69 + 4 * k) 0 = 1 ∧ ∃ f m : Nat, 1 ≤ m ∧ A (69 + 4 * k) 1 = nI m ∧ B 148 (3 + k) = nI f ∧ B 149 (3 + k) = nI (f + m) ∧ f + m ≤ nn B ∧ (∀ j, j < m → CQ (A (70 + 4 * k) j) (A (71 + 4 * k) j) (B 150 (64 + f + j)) (B 151 (64 + f + j))) ∧ dp (KK B) (VV B) m f 0 = 1)
def DTk (A B : SI) : Prop := (∃ c : Nat, c ≤ 64 ∧ A 42 11 = nI c ∧ B 130 35 = nI c ∧ B 132 19 = nI c ∧ B 130 34 = 0) ∧ ∀ k, k < 3 → LWR k A B
def DT (A B : SI) : Prop := DTt A B ∧ DTo A B ∧ DTk A B
theorem sm31 : ∀ v, v < 31 → ((nI v &&& 31).toBitVec.smod 32).toNat = v := by decide +kernel
theorem one_b : ∀ w, w < 31 → ∀ v, v < 31 → ((1 : Int32) <<< (nI w &&& 31)).toBitVec.getLsbD v = decide (v = w) := by decide +kernel
theorem tb_g {x : Int32} {v : Nat} (hv : v < 31) : tb x v ↔ x.toBitVec.getLsbD v = true := by
  have e : (x >>> (nI v &&& 31)).toBitVec = x.toBitVec.sshiftRight v := by
    show x.toBitVec.sshiftRight ((nI v &&& 31).toBitVec.smod 32).toNat = _
    rw [sm31 v hv]
  have l : (x >>> (nI v &&& 31)).toBitVec.getLsbD 0 = x.toBitVec.getLsbD v := by
    rw [e, BitVec.getLsbD_sshiftRight]
    simp
    omega
  unfold tb
  rw [pk_and _ 1 (m := 1) (by decide), ← l, show (1 : Int32) = nI 1 from rfl, nI_eq (by omega) (by omega)]
  show _ ↔ (x >>> (nI v &&& 31)).toBitVec.toNat.testBit 0 = true
  rw [Nat.testBit_zero]
  simp
theorem tb_or {x : Int32} {w v : Nat} (hw : w < 31) (hv : v < 31) : tb (x ||| ((1 : Int32) <<< (nI w &&& 31))) v ↔ (tb x v ∨ v = w) := by
  rw [tb_g hv, tb_g hv, Int32.toBitVec_or, BitVec.getLsbD_or, one_b w hw v hv]
  simp
theorem tb_0 {v : Nat} (hv : v < 31) : ¬ tb 0 v := by
  rw [tb_g hv]
  show ¬ (0#32).getLsbD v = true
  simp
/-- moved along by cells that stay -/
theorem TBL.mv {k w mx f : Nat} {rs : List (Nat × Nat)} {A B A' B' : SI} (h : TBL k w mx f rs A B) (e0 : A' k 0 = A k 0) (e1 : A' k 1 = A k 1) (e2 : B' 132 (10 + w) = B 132 (10 + w)) (ea : ∀ p ∈ rs, ∀ i, i < mx → A' p.1 i = A p.1 i) (eb : ∀ p ∈ rs, ∀ i, i < mx → B' p.2 (f + i) = B p.2 (f + i)) : TBL k w mx f rs A' B' := by
  obtain ⟨c, hc, h0, h1, h2, h3⟩ := h
  refine ⟨c, hc, e0.trans h0, e1.trans h1, e2.trans h2, fun i hi p hp => ?_⟩
  rw [ea p hp i (by omega), eb p hp i (by omega)]
  exact h3 i hi p hp
theorem rs_in {P : Nat × Nat → Prop} : ((∀ p ∈ RSM, P p) ↔ (P (44, 133) ∧ P (45, 134) ∧ P (46, 135))) ∧ ((∀ p ∈ RSS, P p) ↔ (P (49, 136) ∧ P (50, 137) ∧ P (51, 138))) ∧ ((∀ p ∈ RSP, P p) ↔ (P (54, 140) ∧ P (55, 141) ∧ P (56, 142) ∧ P (57, 143))) ∧ ((∀ p ∈ RSC, P p) ↔ (P (59, 144) ∧ P (60, 145))) ∧ ((∀ p ∈ RSK, P p) ↔ (P (65, 146) ∧ P (66, 147))) := by
  unfold RSM RSS RSP RSC RSK
  simp
theorem rs_b {p : Nat × Nat} (h : p ∈ RSM ∨ p ∈ RSS ∨ p ∈ RSP ∨ p ∈ RSC ∨ p ∈ RSK) : 44 ≤ p.1 ∧ p.1 ≤ 66 ∧ 133 ≤ p.2 ∧ p.2 ≤ 147 ∧ p.2 ≠ 139 := by
  rcases h with h | h | h | h | h
  · revert p; rw [rs_in.1]; decide
  · revert p; rw [rs_in.2.1]; decide
  · revert p; rw [rs_in.2.2.1]; decide
  · revert p; rw [rs_in.2.2.2.1]; decide
  · revert p; rw [rs_in.2.2.2.2]; decide
theorem DTt.mv {A B A' B' : SI} (h : DTt A B) (ea : ∀ a b, (43 ≤ a ∧ a ≤ 66) ∨ a = 68 ∨ (a = 42 ∧ b = 6) → A' a b = A a b) (eb : ∀ a b, (a = 132 ∧ 10 ≤ b ∧ b ≤ 15) ∨ (133 ≤ a ∧ a ≤ 147) → B' a b = B a b) : DTt A' B' := by
  obtain ⟨h0, h1, h2, h3, h4, ⟨c, hc, e1, e2⟩, h5⟩ := h
  have ma := fun (p : Nat × Nat) (hp : p ∈ RSM ∨ p ∈ RSS ∨ p ∈ RSP ∨ p ∈ RSC ∨ p ∈ RSK) (i : Nat) => ea p.1 i (by have := rs_b hp; omega)
  have mb := fun (p : Nat × Nat) (hp : p ∈ RSM ∨ p ∈ RSS ∨ p ∈ RSP ∨ p ∈ RSC ∨ p ∈ RSK) (i : Nat) => eb p.2 i (by have := rs_b hp; omega)
  exact ⟨h0.mv (ea _ _ (by omega)) (ea _ _ (by omega)) (eb _ _ (by omega)) (fun p hp i _ => ma p (Or.inl hp) i) (fun p hp i _ => mb p (Or.inl hp) _), h1.mv (ea _ _ (by omega)) (ea _ _ (by omega)) (eb _ _ (by omega)) (fun p hp i _ => ma p (Or.inr (Or.inl hp)) i) (fun p hp i _ => mb p (Or.inr (Or.inl hp)) _), h2.mv (ea _ _ (by omega)) (ea _ _ (by omega)) (eb _ _ (by omega)) (fun p hp i _ => ma p (Or.inr (Or.inr (Or.inl hp))) i) (fun p hp i _ => mb p (Or.inr (Or.inr (Or.inl hp))) _), h3.mv (ea _ _ (by omega)) (ea _ _ (by omega)) (eb _ _ (by omega)) (fun p hp i _ => ma p (Or.inr (Or.inr (Or.inr (Or.inl hp)))) i) (fun p hp i _ => mb p (Or.inr (Or.inr (Or.inr (Or.inl hp)))) _), h4.mv (ea _ _ (by omega)) (ea _ _ (by omega)) (eb _ _ (by omega)) (fun p hp i _ => ma p (Or.inr (Or.inr (Or.inr (Or.inr hp)))) i) (fun p hp i _ => mb p (Or.inr (Or.inr (Or.inr (Or.inr hp)))) _), ⟨c, hc, (ea _ _ (by omega)).trans e1, (eb _ _ (by omega)).trans e2⟩, fun i hi => by
    have m := (h5 i hi).2.2.to (A' := A') (ea 68 i (by omega)) (le_of_e (ea 43 1 (by omega))) (ea 53 1 (by omega)) (fun _ => ea 55 i (by omega))
    rw [ea 68 i (by omega), eb 139 (48 + i) (by omega)]
    exact ⟨(h5 i hi).1, (h5 i hi).2.1, m⟩⟩
theorem ON.mv {x y w df most : Nat} {A B A' B' : SI} (h : ON x y w df most A B) (e1 : A' 42 x = A 42 x) (e2 : B' 132 y = B 132 y) (e3 : tb (B' 130 23) w ↔ tb (B 130 23) w) : ON x y w df most A' B' := by
  unfold ON
  rw [e1, e2, e3]
  exact h
theorem DTo.mv {A B A' B' : SI} (h : DTo A B) (ea : ∀ b, 7 ≤ b ∧ b ≤ 10 → A' 42 b = A 42 b) (eb : ∀ b, 16 ≤ b ∧ b ≤ 18 → B' 132 b = B 132 b) (et : ∀ w, 6 ≤ w ∧ w ≤ 8 → (tb (B' 130 23) w ↔ tb (B 130 23) w)) (el : B' 130 24 = B 130 24) : DTo A' B' := by
  obtain ⟨h0, h1, h2, h3⟩ := h
  exact ⟨h0.mv (ea _ (by omega)) (eb _ (by omega)) (et _ (by omega)), h1.mv (ea _ (by omega)) (eb _ (by omega)) (et _ (by omega)), h2.mv (ea _ (by omega)) (eb _ (by omega)) (et _ (by omega)), by rw [ea 10 (by omega), el]; exact h3⟩
theorem LWR.mv {k : Nat} {A B A' B' : SI} (h : LWR k A B) (ea : ∀ a b, 69 + 4 * k ≤ a ∧ a ≤ 71 + 4 * k → A' a b = A a b) (e8 : B' 148 (3 + k) = B 148 (3 + k)) (e9 : B' 149 (3 + k) = B 149 (3 + k)) (hn : nn B ≤ nn B') (eb : ∀ a j, (a = 150 ∨ a = 151) → j < nn B → B' a (64 + j) = B a (64 + j)) (et : tb (B' 130 23) (16 + k) ↔ tb (B 130 23) (16 + k)) : LWR k A' B' := by
  unfold LWR
  rw [e8, e9, et, ea (69 + 4 * k) 0 (by omega), ea (69 + 4 * k) 1 (by omega)]
  rcases h with h | ⟨h0, h1, f, m, h2, h3, h4, h5, h6, h7, h8⟩
  · exact Or.inl h
  · refine Or.inr ⟨h0, h1, f, m, h2, h3, h4, h5, by omega, fun j hj => ?_, (dp_cg _ _ _ (fun j _ w => ⟨eb 150 j (Or.inl rfl) (by omega), eb 151 j (Or.inr rfl) (by omega)⟩)).trans h8⟩
    rw [ea (70 + 4 * k) j (by omega), ea (71 + 4 * k) j (by omega), Nat.add_assoc, eb 150 (f + j) (by omega) (by omega), eb 151 (f + j) (by omega) (by omega), ← Nat.add_assoc]
    exact h7 j hj
theorem DTk.mv {A B A' B' : SI} (h : DTk A B) (ea : ∀ a b, (69 ≤ a ∧ a ≤ 79) ∨ (a = 42 ∧ b = 11) → A' a b = A a b) (eb : ∀ a b, (148 ≤ a ∧ a ≤ 151) ∨ (a = 130 ∧ (b = 34 ∨ b = 35)) ∨ (a = 132 ∧ b = 19) → B' a b = B a b) (et : ∀ w, 16 ≤ w ∧ w ≤ 18 → (tb (B' 130 23) w ↔ tb (B 130 23) w)) : DTk A' B' := by
  obtain ⟨⟨c, hc, e1, e2, e3, e4⟩, h2⟩ := h
  refine ⟨⟨c, hc, (ea _ _ (by omega)).trans e1, (eb _ _ (by omega)).trans e2, (eb _ _ (by omega)).trans e3, (eb _ _ (by omega)).trans e4⟩, fun k hk => (h2 k hk).mv (fun a b z => ea a b (by omega)) (eb _ _ (by omega)) (eb _ _ (by omega)) (by unfold nn; rw [eb 132 19 (by omega)]; exact Nat.le_refl _) (fun a j z _ => eb a _ (by omega)) (et _ (by omega))⟩
/-- by the readers' own steps -/
theorem DT.op {A B A' B' : SI} (h : DT A B) (x : KX A A') (y : KY B B') : DT A' B' := by
  have t : B' 130 23 = B 130 23 := y 130 23 (by omega)
  exact ⟨h.1.mv (fun a b z => x a b (by omega) (by omega)) (fun a b z => y a b (by omega)), h.2.1.mv (fun b z => x 42 b (by omega) (by omega)) (fun b z => y 132 b (by omega)) (fun w _ => by rw [t]) (y 130 24 (by omega)), h.2.2.mv (fun a b z => x a b (by omega) (by omega)) (fun a b z => y a b (by omega)) (fun w _ => by rw [t])⟩
/-- a bit of a table's word told -/
theorem DT.bit {w : Nat} {A B : SI} (h : DT A B) (hw : w < 6 ∨ w = 9) : DT A (u2 B 130 23 (B 130 23 ||| ((1 : Int32) <<< (nI w &&& 31)))) := by
  have e : ∀ a b, ¬ (a = 130 ∧ b = 23) → (u2 B 130 23 (B 130 23 ||| ((1 : Int32) <<< (nI w &&& 31)))) a b = B a b := fun a b z => u2_n _ _ z
  have t : ∀ v, 6 ≤ v ∧ v ≤ 8 ∨ 16 ≤ v ∧ v ≤ 18 → (tb ((u2 B 130 23 (B 130 23 ||| ((1 : Int32) <<< (nI w &&& 31)))) 130 23) v ↔ tb (B 130 23) v) := fun v z => by
    rw [u2_s, tb_or (by omega) (by omega)]
    exact ⟨fun q => q.elim id (fun y => by omega), Or.inl⟩
  exact ⟨h.1.mv (fun _ _ _ => rfl) (fun a b z => e a b (by omega)), h.2.1.mv (fun _ _ => rfl) (fun b z => e 132 b (by omega)) (fun v z => t v (Or.inl z)) (e 130 24 (by omega)), h.2.2.mv (fun _ _ _ => rfl) (fun a b z => e a b (by omega)) (fun v z => t v (Or.inr z))⟩
theorem Si.u {n a b : Nat} {v : Int32} {A B : SI} (s : Si n A B) (h : ¬ a = 131 ∧ ¬ (a = 130 ∧ 25 ≤ b ∧ b ≤ 31)) : Si n A (u2 B a b v) := by
  have e : ∀ c d, c = 131 ∨ (c = 130 ∧ 25 ≤ d ∧ d ≤ 31) → u2 B a b v c d = B c d := fun c d z => u2_n _ _ (by omega)
  refine ⟨s.1.trans (e _ _ (by omega)).symm, s.2.1.trans (e _ _ (by omega)).symm, fun c => ?_, s.2.2.2⟩
  obtain ⟨tp, wd0, hn, a2, b2, a4, r0, hr0, a3, b3, a7, kv⟩ := s.2.2.1 c
  exact ⟨fun b => by rw [e 131 b (by omega)]; exact tp b, wd0, hn, a2, (e _ _ (by omega)).trans b2, a4, r0, hr0, a3, (e _ _ (by omega)).trans b3, by rw [e 130 27 (by omega)]; exact a7, by rw [e 130 28 (by omega), e 130 29 (by omega)]; exact kv⟩
theorem Si.v {n a b : Nat} {v : Int32} {A B : SI} (s : Si n A B) (h : ¬ a = 1 ∧ ¬ a = 81 ∧ ¬ a = 82 ∧ ¬ (a = 41 ∧ (b = 1 ∨ b = 2))) : Si n (u2 A a b v) B := by
  have e : ∀ c d, c = 1 ∨ c = 81 ∨ c = 82 ∨ (c = 41 ∧ (d = 1 ∨ d = 2)) → u2 A a b v c d = A c d := fun c d z => u2_n _ _ (by omega)
  refine ⟨(e _ _ (by omega)).trans s.1, (e _ _ (by omega)).trans s.2.1, fun c => ?_, fun c => by rw [e 81 4 (by omega)]; exact s.2.2.2 (by rw [← e 41 1 (by omega)]; exact c)⟩
  obtain ⟨tp, wd0, hn, a2, b2, a4, r0, hr0, a3, b3, a7, kv⟩ := s.2.2.1 (by rw [← e 41 1 (by omega)]; exact c)
  exact ⟨fun b => by rw [e 1 b (by omega)]; exact tp b, fun i hi => (e 82 i (by omega)).trans (wd0 i hi), hn, (e _ _ (by omega)).trans a2, b2, (e _ _ (by omega)).trans a4, r0, hr0, (e _ _ (by omega)).trans a3, b3, (e _ _ (by omega)).trans a7, by rw [e 81 5 (by omega), e 81 6 (by omega)]; exact kv⟩
/-- a table's row more, of the class -/
theorem tadd_v {k c mx : Nat} {x0 x1 x2 x3 : Int32} {A : SI} {J : SJ} (e0 : A k 0 = nI mx) (e1 : A k 1 = nI c) (h : c < mx) (hm : mx ≤ 8) : FI_X7_add k x0 x1 x2 x3 A J = u2 (u2 (u2 (u2 (u2 A (k + 1) c x0) (k + 2) c x1) (k + 3) c x2) (k + 4) c x3) k 1 (nI (c + 1)) := by
  have s1 : S1_X7_add k x0 x1 x2 x3 A J = u2 (u2 A (k + 1) c x0) (k + 2) c x1 := by
    unfold S1_X7_add
    rw [e1, putF_v (by omega) (by omega), show (u2 A (k + 1) c x0) k 1 = nI c from (u2_n _ _ (by omega)).trans e1, putF_v (by omega) (by omega)]
  have s2 : S2_X7_add k x0 x1 x2 x3 A J = u2 (u2 (u2 A (k + 1) c x0) (k + 2) c x1) (k + 3) c x2 := by
    unfold S2_X7_add
    rw [s1, show (u2 (u2 A (k + 1) c x0) (k + 2) c x1) k 1 = nI c from (u2_n _ _ (by omega)).trans ((u2_n _ _ (by omega)).trans e1), putF_v (by omega) (by omega)]
  have s3 : S3_X7_add k x0 x1 x2 x3 A J = u2 (u2 (u2 (u2 A (k + 1) c x0) (k + 2) c x1) (k + 3) c x2) (k + 4) c x3 := by
    unfold S3_X7_add
    rw [s2, show (u2 (u2 (u2 A (k + 1) c x0) (k + 2) c x1) (k + 3) c x2) k 1 = nI c from (u2_n _ _ (by omega)).trans ((u2_n _ _ (by omega)).trans ((u2_n _ _ (by omega)).trans e1)), putF_v (by omega) (by omega)]
  unfold FI_X7_add S4_X7_add
  rw [if_neg (by rw [e0, e1]; exact fun q => by have := (nI_leI (by omega) (by omega)).mp q; omega), s3, show (u2 (u2 (u2 (u2 A (k + 1) c x0) (k + 2) c x1) (k + 3) c x2) (k + 4) c x3) k 1 = nI c from (u2_n _ _ (by omega)).trans ((u2_n _ _ (by omega)).trans ((u2_n _ _ (by omega)).trans ((u2_n _ _ (by omega)).trans e1))), nI_1]
theorem TBL.add {k w mx f c : Nat} {rs : List (Nat × Nat)} {x0 x1 x2 x3 : Int32} {A B B' : SI} {J : SJ} (h : TBL k w mx f rs A B) (hm : mx ≤ 8) (e1 : A k 1 = nI c) (hc : c < mx) (rk : ∀ p ∈ rs, k + 1 ≤ p.1 ∧ p.1 ≤ k + 4) (en : B' 132 (10 + w) = nI (c + 1)) (eo : ∀ p ∈ rs, ∀ i, i < c → B' p.2 (f + i) = B p.2 (f + i)) (ev : ∀ p ∈ rs, (if p.1 = k + 1 then x0 else if p.1 = k + 2 then x1 else if p.1 = k + 3 then x2 else x3) = B' p.2 (f + c) ∧ BD p.2 (if p.1 = k + 1 then x0 else if p.1 = k + 2 then x1 else if p.1 = k + 3 then x2 else x3)) : TBL k w mx f rs (FI_X7_add k x0 x1 x2 x3 A J) B' := by
  obtain ⟨c', hc', h0, h1, h2, h3⟩ := h
  have cc' : c' = c := by
    rw [h1] at e1
    exact (nI_eq (by omega) (by omega)).mp e1
  subst cc'
  rw [tadd_v h0 h1 hc hm]
  refine ⟨c' + 1, by omega, (u2_n _ _ (by omega)).trans ((u2_n _ _ (by omega)).trans ((u2_n _ _ (by omega)).trans ((u2_n _ _ (by omega)).trans ((u2_n _ _ (by omega)).trans h0)))), u2_s _ _ _ _, en, fun i hi p hp => ?_⟩
  have r := rk p hp
  by_cases z : i = c'
  · have v := ev p hp
    rw [z]
    have e : (u2 (u2 (u2 (u2 (u2 A (k + 1) c' x0) (k + 2) c' x1) (k + 3) c' x2) (k + 4) c' x3) k 1 (nI (c' + 1))) p.1 c' = (if p.1 = k + 1 then x0 else if p.1 = k + 2 then x1 else if p.1 = k + 3 then x2 else x3) := by
      rw [u2_n _ _ (by omega)]
      by_cases y1 : p.1 = k + 1
      · rw [if_pos y1, u2_n _ _ (by omega), u2_n _ _ (by omega), u2_n _ _ (by omega), y1, u2_s]
      · rw [if_neg y1]
        by_cases y2 : p.1 = k + 2
        · rw [if_pos y2, u2_n _ _ (by omega), u2_n _ _ (by omega), y2, u2_s]
        · rw [if_neg y2]
          by_cases y3 : p.1 = k + 3
          · rw [if_pos y3, u2_n _ _ (by omega), y3, u2_s]
          · rw [if_neg y3, show p.1 = k + 4 by omega, u2_s]
    rw [e]
    exact v
  · have e : (u2 (u2 (u2 (u2 (u2 A (k + 1) c' x0) (k + 2) c' x1) (k + 3) c' x2) (k + 4) c' x3) k 1 (nI (c' + 1))) p.1 i = A p.1 i := (u2_n _ _ (by omega)).trans ((u2_n _ _ (by omega)).trans ((u2_n _ _ (by omega)).trans ((u2_n _ _ (by omega)).trans (u2_n _ _ (by omega)))))
    rw [e, eo p hp i (by omega)]
    exact h3 i (by omega) p hp
theorem tadd_fr {k a b : Nat} {x0 x1 x2 x3 : Int32} {A : SI} {J : SJ} (h : a < k ∨ k + 4 < a) : FI_X7_add k x0 x1 x2 x3 A J a b = A a b := by
  have p : ∀ (r : Nat) (i x : Int32) (X : SI), k ≤ r ∧ r ≤ k + 4 → putF X r 8 i x a b = X a b := fun r i x X z => putF_n (by omega)
  unfold FI_X7_add S4_X7_add S3_X7_add S2_X7_add S1_X7_add
  split
  · rfl
  · rw [u2_n _ _ (by omega), p _ _ _ _ (by omega), p _ _ _ _ (by omega), p _ _ _ _ (by omega), p _ _ _ _ (by omega)]
theorem tadd_0 {k : Nat} {x0 x1 x2 x3 : Int32} {A : SI} {J : SJ} : True := trivial
