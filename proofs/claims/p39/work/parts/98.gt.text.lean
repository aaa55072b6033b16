/-! both: the scenes behind text and feed -/
theorem write_A {a0 : Int32} {I : SI} {J : SJ} : ∀ a b, ¬ a = 1 → ¬ (a = 0 ∧ b = 1) → FI_X11_write a0 I J a b = I a b := fun a b x y => by
  unfold FI_X11_write F_X11_write_w3
  refine itW_P (f := B_X11_write_w3 a0 I J) (fun (s : Int32 × SI) => s.2 a b = I a b) (fun (r : Int32 × SI) => r.2 a b = I a b) (fun s s' h e => ?_) (fun s r h e => ?_) 800 _ rfl _ rfl
  · unfold B_X11_write_w3 at e
    repeat' split at e
    all_goals first
      | (have ee := Sum.inl.inj e
         rw [← ee]
         first
           | exact h
           | (unfold S1_X11_write; exact (u2_n _ _ y).trans ((u2_n _ _ (fun z => x z.1)).trans h)))
      | exact nomatch e
  · unfold B_X11_write_w3 at e
    repeat' split at e
    all_goals cases e
    all_goals exact h
theorem feed_S {a0 a1 a2 a3 a4 : Int32} {A B : SI} {JA J' : SJ} (d : GDF B) (s : GSC A JA B) : GSC (FI_X11_feed a0 a1 a2 a3 a4 A JA) JA (FI_X12_feed a0 a1 a2 a3 a4 B J') ∧ GDF (FI_X12_feed a0 a1 a2 a3 a4 B J') := by
  have ka : ∀ a b, ¬ a = 1 → ¬ (a = 0 ∧ b = 1) → FI_X11_feed a0 a1 a2 a3 a4 A JA a b = A a b := fun a b x y => by
    unfold FI_X11_feed S1_X11_feed
    split
    · rw [write_A a b x y, write_A a b x y, write_A a b x y, write_A a b x y, write_A a b x y]
    · rfl
  have kb : ∀ a b, ¬ a = 131 → ¬ (a = 130 ∧ (b = 0 ∨ b = 2)) → FI_X12_feed a0 a1 a2 a3 a4 B J' a b = B a b := fun a b x y => by
    unfold FI_X12_feed S1_X12_feed F_X12_feed_l20
    split
    · rw [u2_n _ _ (by omega)]
      exact itN_inv (P := fun (z : SI) => z a b = B a b) (u2_n _ _ (by omega)) (fun i z _ h => by
        unfold B_X12_feed_l20 S3_X12_feed
        exact (u2_n _ _ (fun w => x w.1)).trans h)
    · exact u2_n _ _ (by omega)
  have kq : KQT B (FI_X12_feed a0 a1 a2 a3 a4 B J') := fun a b z => kb a b (by unfold QT at z; omega) (by unfold QT at z; omega)
  exact ⟨s.quiet (fun a b q => ka a b (by omega) (by omega)) (JDY.rf JA) kq (kb _ _ (by omega) (by omega)) (kb _ _ (by omega) (by omega)), d.q kq⟩
theorem text_S {a0 : Int32} {A B : SI} {J J' : SJ} (g : GTL A B) (h : MW B B) (t2 : GTL (FI_X11_text a0 A J) (FI_X12_text a0 B J')) (d : GDF B) (s : GSC A J B) : GSC (FI_X11_text a0 A J) (FJ_X11_text a0 A J) (FI_X12_text a0 B J') ∧ GDF (FI_X12_text a0 B J') := by
  obtain ⟨⟨n, hn, e1, e2⟩, tp, z, f1, f2, tl⟩ := g
  have u1 : u2 B 130 0 0 130 2 = nI n := (u2_n _ _ (by omega)).trans e2
  have s0 := gsc0 (v := 0) s
  have d0 : GDF (u2 B 130 0 0) := d.q qu0
  have t2' := tl_g t2
  unfold FI_X11_text FI_X12_text at t2'
  unfold FI_X11_text FI_X12_text FJ_X11_text
  by_cases c : a0 < 0
  · rw [if_pos c, if_pos c, if_pos c]
    exact ⟨s0, d0⟩
  rw [if_neg c, if_neg c] at t2'
  rw [if_neg c, if_neg c, if_neg c, e1, u1]
  rw [e1, u1] at t2'
  by_cases c2 : a0 ≤ nI n
  rotate_left
  · rw [if_neg c2, if_neg c2, if_neg c2]
    exact ⟨s0, d0⟩
  rw [if_pos c2, if_pos c2] at t2'
  rw [if_pos c2, if_pos c2, if_pos c2]
  have ha : inR a0 701 := (in_le (N := n) (by omega) c c2).le (by omega)
  obtain ⟨m, hm, em⟩ := ha.n
  have m7 : m ≤ 700 := by omega
  subst em
  have t1 := tx1 (a0 := nI m) (J := J') h.1 ha
  obtain ⟨si, _, _, kt⟩ := read_R (J := J) tp z m7 t1.2.1 t1.2.2.1
  have eF : FI_X4_read (nI m) A J = FI_X9_settle 42 (S1_X4_read (nI m) A J) J := by unfold FI_X4_read; exact ite_self _
  have s41 : FI_X9_settle 42 (S1_X4_read (nI m) A J) J 41 1 = S1_X4_read (nI m) A J 41 1 := settle_o 41 1 (by omega)
  have kc := (read_C (a1 := nI m) (I := A) (J := J) (by exact ⟨by rw [z.1.1]; exact ⟨rfl, by decide⟩, by rw [z.2.1.1]; exact ⟨rfl, by decide⟩, by rw [z.2.2.1.1]; exact ⟨rfl, by decide⟩⟩) ha).2.2
  have b4 : ∀ a b, ¬ (a = 130 ∧ (b = 32 ∨ b = 33)) → (u2 (S4_X12_text (nI m) B J') 130 33 (S4_X12_text (nI m) B J' 130 31)) a b = (F_X12_text_w150 (nI m) B J' (FI_X12_token (S3_X12_text (nI m) B J') J', J')).1 a b := fun a b z => by
    refine (u2_n _ _ (by omega)).trans ?_
    unfold S4_X12_text
    exact u2_n _ _ (by omega)
  have kr : ∀ a b, 152 ≤ a ∨ (a = 130 ∧ 36 ≤ b) ∨ (a = 132 ∧ b < 10) → (u2 (S4_X12_text (nI m) B J') 130 33 (S4_X12_text (nI m) B J' 130 31)) a b = B a b := fun a b q => (b4 a b (by omega)).trans (kt a b (by unfold mT; omega))
  have hv := halves_v (a0 := nI m) (B := B) (J := J')
  have e26 : S26_X12_text (nI m) B J' = FI_X12_starts (nI 0) (S25_X12_text (nI m) B J') ((F_X12_text_w150 (nI m) B J' (FI_X12_token (S3_X12_text (nI m) B J') J', J')).2) := rfl
  have e25 : S25_X12_text (nI m) B J' = u2 (u2 (u2 (u2 (S24_X12_text (nI m) B J') 130 68 0) 130 69 (-1)) 130 53 0) 130 54 0 := rfl
  have eS2 : S2_X11_text (nI m) A J = FI_X10_clear (FI_X6_clear (FI_X5_open 86 2 (FI_X9_copy 2 42 (u2 (FI_X4_read (nI m) A J) 0 1 0) J) J) (FJ_X5_open 86 2 (FI_X9_copy 2 42 (u2 (FI_X4_read (nI m) A J) 0 1 0) J) J)) (FJ_X5_open 86 2 (FI_X9_copy 2 42 (u2 (FI_X4_read (nI m) A J) 0 1 0) J) J) := rfl
  have cF : F_X4_read (nI m) A J = 0 ↔ ¬ S1_X4_read (nI m) A J 41 1 = 0 := by
    unfold F_X4_read
    rw [s41]
    by_cases q : S1_X4_read (nI m) A J 41 1 = 0
    · rw [if_pos q]; exact ⟨fun y => absurd y (by decide), fun y => absurd q y⟩
    · rw [if_neg q]; exact ⟨fun _ => q, fun _ => rfl⟩
  have R30 : (u2 (S4_X12_text (nI m) B J') 130 33 (S4_X12_text (nI m) B J' 130 31)) 130 30 = S1_X4_read (nI m) A J 41 1 := (b4 130 30 (by omega)).trans si.1.symm
  generalize u2 (S4_X12_text (nI m) B J') 130 33 (S4_X12_text (nI m) B J' 130 31) = R1 at *
  by_cases c3 : S1_X4_read (nI m) A J 41 1 = 0
  rotate_left
  · rw [if_pos (cF.mpr c3), if_pos (cF.mpr c3), if_neg (fun q => c3 (R30.symm.trans q))]
    have kq : KQT B R1 := fun a b q => kr a b (by unfold QT at q; omega)
    exact ⟨s.quiet (fun a b q => (u2_n _ _ (by omega)).trans (kc a b (by omega))) (JDY.rf J) kq (kr _ _ (by omega)) (kr _ _ (by omega)), d.q kq⟩
  rw [if_neg (fun q => (cF.mp q) c3), if_pos (R30.trans c3)] at t2'
  rw [if_neg (fun q => (cF.mp q) c3), if_neg (fun q => (cF.mp q) c3), if_pos (R30.trans c3)]
  have st := fun f a b x => (starts_v (f := 0) (I := S25_X12_text (nI m) B J') (J := f) (by omega)).2.2.2.2.2 a b x
  have b26 : ∀ a b, a < 154 → S26_X12_text (nI m) B J' a b = S25_X12_text (nI m) B J' a b := fun a b q => by
    rw [e26]
    exact st _ a b (Or.inl q)
  have m130 : ∀ b, ¬ (b = 68 ∨ b = 69 ∨ b = 53 ∨ b = 54) → S25_X12_text (nI m) B J' 130 b = R1 130 b := fun b q => by
    rw [e25, u2_n _ _ (by omega), u2_n _ _ (by omega), u2_n _ _ (by omega), u2_n _ _ (by omega)]
    exact (hv 130 b).2 (by omega)
  have y53 : S25_X12_text (nI m) B J' 130 53 = 0 := by rw [e25, u2_n _ _ (by omega), u2_s]
  have y54 : S25_X12_text (nI m) B J' 130 54 = 0 := by rw [e25, u2_s]
  have gd : GDF (S26_X12_text (nI m) B J') := ⟨(b26 _ _ (by omega)).trans ((m130 55 (by omega)).trans ((kr _ _ (by omega)).trans d.1)), (b26 _ _ (by omega)).trans ((m130 56 (by omega)).trans ((kr _ _ (by omega)).trans d.2.1)), (b26 _ _ (by omega)).trans ((m130 57 (by omega)).trans ((kr _ _ (by omega)).trans d.2.2.1)), (b26 _ _ (by omega)).trans ((m130 59 (by omega)).trans ((kr _ _ (by omega)).trans d.2.2.2))⟩
  refine ⟨?_, gd⟩
  have o := (open_v (k := 86) (A := FI_X9_copy 2 42 (u2 (FI_X4_read (nI m) A J) 0 1 0) J) (J := J) (by omega)).2.2.2.2.2.2.1
  have k2 : ∀ a b, ¬ (a = 0 ∧ b = 6) → ¬ (a = 120 ∧ b = 0) → ¬ (a = 116 ∧ (b = 0 ∨ b = 1)) → u2 (S2_X11_text (nI m) A J) 0 6 0 a b = FI_X5_open 86 2 (FI_X9_copy 2 42 (u2 (FI_X4_read (nI m) A J) 0 1 0) J) J a b := fun a b x y w => by
    rw [u2_n _ _ x, eS2]
    unfold FI_X10_clear FI_X6_clear
    rw [u2_n _ _ y, u2_n _ _ (by omega), u2_n _ _ (by omega)]
  have tx : TL (FI_X9_copy 2 42 (u2 (FI_X4_read (nI m) A J) 0 1 0) J) (S25_X12_text (nI m) B J') := t2'.mv (fun a b x y => ((k2 a b (by omega) (by omega) (by omega)).trans (o a b (by omega))).symm) (fun a b q => (b26 a b (by unfold mT at q; omega)).symm)
  obtain ⟨nm, ns, np, cn, _⟩ := cn_of tx
  have ss := sct_start (p := 86) (f := 0) (J := J) (J' := (F_X12_text_w150 (nI m) B J' (FI_X12_token (S3_X12_text (nI m) B J') J', J')).2) (Or.inl rfl) (by omega) tx cn
  rw [← e26] at ss
  have sf : SCT 86 0 nm ns (u2 (S2_X11_text (nI m) A J) 0 6 0) (FJ_X5_open 86 2 (FI_X9_copy 2 42 (u2 (FI_X4_read (nI m) A J) 0 1 0) J) J) (S26_X12_text (nI m) B J') := ss.mv cn.2.1 (fun a b x y => k2 a b (by omega) (by omega) (by omega)) rfl (fun _ _ _ => rfl)
  refine ⟨nm, ns, ⟨cn.1, cn.2.1, ?_, ?_, (b26 _ _ (by omega)).trans cn.2.2.2.2.1, (b26 _ _ (by omega)).trans cn.2.2.2.2.2⟩, sf, Or.inl ⟨u2_s _ _ _ _, (b26 _ _ (by omega)).trans y53⟩, 0, by omega, (b26 _ _ (by omega)).trans y54, ?_⟩
  · rw [k2 3 1 (by omega) (by omega) (by omega), o 3 1 (by omega)]; exact cn.2.2.1
  · rw [k2 8 1 (by omega) (by omega) (by omega), o 8 1 (by omega)]; exact cn.2.2.2.1
  · show u2 (S2_X11_text (nI m) A J) 0 6 0 120 0 = 0
    rw [u2_n _ _ (by omega), eS2]
    exact u2_s _ _ _ _
