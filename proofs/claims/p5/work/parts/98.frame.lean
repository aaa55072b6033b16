/-! the class: what no other call touches -/
theorem KGT.k {p q : Nat} {I I1 : SI} (h : KP p q I I1) (hp : 85 < p) : KGT I I1 := fun a b z _ => h a b (by omega)
theorem KGT.o {I I1 : SI} (h : KO I I1) : KGT I I1 := fun a b z _ => h a b (by omega)
theorem KGT.u {I I1 : SI} {a b : Nat} {v : Int32} (h : KGT I I1) (q : 85 < a ∨ (a = 0 ∧ b = 6)) : KGT I (u2 I1 a b v) := fun c d z y => (u2_n _ _ (fun w => by omega)).trans (h c d z y)
theorem KGT.p {I I1 : SI} {r len : Nat} {i x : Int32} (h : KGT I I1) (q : 85 < r) : KGT I (putF I1 r len i x) := fun c d z y => (putF_n (fun w => by omega)).trans (h c d z y)
theorem plums_G {a0 a1 : Int32} {I : SI} {J : SJ} : KGT I (FI_X11_plums a0 a1 I J) := by
  unfold FI_X11_plums S1_X11_plums
  repeat' split
  all_goals first
    | exact KGT.rf I
    | exact (KGT.k undoadd_K (by decide)).p (by decide)
theorem move_G {a0 a1 : Int32} {I : SI} {J : SJ} : KGT I (FI_X11_move a0 a1 I J) := by
  unfold FI_X11_move
  repeat' split
  all_goals first
    | exact KGT.rf I
    | exact (KGT.k undoadd_K (by decide)).p (by decide)
theorem say_G {a0 a1 : Int32} {I : SI} {J : SJ} : KGT I (FI_X11_sayFromNowOn a0 a1 I J) := by
  unfold FI_X11_sayFromNowOn
  split
  · exact KGT.rf I
  · exact (KGT.k undoadd_K (by decide)).p (by decide)
theorem tell_G {a0 a1 : Int32} {I : SI} {J : SJ} : KGT I (FI_X11_tell a0 a1 I J) := by
  unfold FI_X11_tell
  repeat' split
  all_goals first
    | exact KGT.rf I
    | exact say_G
theorem forget_G {a0 : Int32} {I : SI} {J : SJ} : KGT I (FI_X11_forget a0 I J) := by
  unfold FI_X11_forget
  repeat' split
  all_goals first
    | exact KGT.rf I
    | exact say_G
theorem take_G {I : SI} {J : SJ} : KGT I (FI_X10_takeBack 86 I J) := by
  have t : KGT I (u2 I 120 0 (I 120 0 - 1)) := (KGT.rf I).u (by omega)
  unfold FI_X10_takeBack S1_X10_takeBack S2_X10_takeBack S3_X10_takeBack
  repeat' split
  all_goals first
    | exact KGT.rf I
    | exact t.p (by decide)
theorem undo_G {I : SI} {J : SJ} : KGT I (FI_X11_undo I J) := by
  unfold FI_X11_undo
  split
  · exact take_G
  · exact take_G
theorem keep_G {I : SI} {J : SJ} : KGT I (FI_X11_keep I J) := by
  unfold FI_X11_keep
  exact (KGT.k (copy_K (k := 95)) (by decide)).u (by omega)
theorem back_G {I : SI} {J : SJ} : KGT I (FI_X11_back I J) := by
  unfold FI_X11_back FI_X10_clear
  split
  · exact KGT.rf I
  · exact (KGT.k (copy_K (k := 86)) (by decide)).u (by omega)
theorem seen_G {a0 a1 a2 : Int32} {I : SI} {J : SJ} : KGT I (FI_X6_add a0 a1 a2 I J) := by
  unfold FI_X6_add
  split
  · unfold S3_X6_add S2_X6_add S1_X6_add
    exact ((((KGT.rf I).p (by decide)).p (by decide)).p (by decide)).u (by omega)
  · exact KGT.rf I
theorem see_G {a0 a1 a2 : Int32} {I : SI} {J : SJ} : KGT I (FI_X11_see a0 a1 a2 I J) := by
  unfold FI_X11_see
  repeat' split
  all_goals first
    | exact KGT.rf I
    | exact seen_G
theorem out_G {a0 : Int32} {I : SI} {J : SJ} : KGT I (FI_X11_out a0 I J) := by
  unfold FI_X11_out
  repeat' split
  all_goals first
    | exact KGT.rf I
    | exact seen_G
theorem known_G {a0 : Int32} {I : SI} {J : SJ} : KGT I (FI_X11_known a0 I J) := by
  unfold FI_X11_known
  repeat' split
  all_goals first
    | exact KGT.rf I
    | exact (KGT.rf I).u (by omega)
/-! every call, from any state that calls leave -/
def PP (A : SI) (_ : SJ) (B : SI) (_ : SJ) : Prop := CI A ∧ MW B B ∧ inR (A 0 1) 701 ∧ GTL A B
theorem km_of {B B1 : SI} (h : MW B B1) : KMT B B1 := fun a b q => h.gt a b (by unfold gM mT at q; omega)
theorem pp {A A1 B B1 : SI} {JA JB JA1 JB1 : SJ} (h : PP A JA B JB) (c : CI A1) (e : KGT A A1) (m : MW B B1) : PP A1 JA1 B1 JB1 := ⟨c, m.self, by rw [e 0 1 (by omega) (by omega)]; exact h.2.2.1, h.2.2.2.mv e (km_of m)⟩
theorem ci_of {A A1 : SI} (h : CI A) (k : KI A A1) : CI A1 := h.ki k
theorem tb_of {A B : SI} (g : GTL A B) : B 130 2 = A 0 1 := by
  obtain ⟨⟨n, _, e1, e2⟩, _⟩ := g
  exact e2.trans e1.symm
theorem pp_feed {a0 a1 a2 a3 a4 : Int32} {A B : SI} {JA JB : SJ} (h : PP A JA B JB) : H_X11_feed a0 a1 a2 a3 a4 A JA ∧ H_X12_feed a0 a1 a2 a3 a4 B JB ∧ F_X11_feed a0 a1 a2 a3 a4 A JA = F_X12_feed a0 a1 a2 a3 a4 B JB ∧ PP (FI_X11_feed a0 a1 a2 a3 a4 A JA) JA (FI_X12_feed a0 a1 a2 a3 a4 B JB) JB := by
  have e := tb_of h.2.2.2
  have f := feed_K (a0 := a0) (a1 := a1) (a2 := a2) (a3 := a3) (a4 := a4) (J := JA) h.1 h.2.2.1
  have g := m_feed (a0 := a0) (a1 := a1) (a2 := a2) (a3 := a3) (a4 := a4) (J := JB) h.2.1 (by rw [e]; exact h.2.2.1)
  have t := feed_T (a0 := a0) (a1 := a1) (a2 := a2) (a3 := a3) (a4 := a4) (J := JA) (J' := JB) h.2.2.2
  exact ⟨f.1, g.1, t.1, f.2.1, g.2.1, by rw [f.2.2.1]; exact f.2.2.2.2, t.2⟩
theorem pp_text {a0 : Int32} {A B : SI} {JA JB : SJ} (h : PP A JA B JB) : H_X11_text a0 A JA ∧ H_X12_text a0 B JB ∧ F_X11_text a0 A JA = F_X12_text a0 B JB ∧ ∀ J1 J2, PP (FI_X11_text a0 A JA) J1 (FI_X12_text a0 B JB) J2 := by
  have e := tb_of h.2.2.2
  have f := text_C (a0 := a0) (J := JA) h.1 h.2.2.1
  have g := m_text (a0 := a0) (J := JB) h.2.1 (by rw [e]; exact h.2.2.1)
  have t := text_T (a0 := a0) (J := JA) (J' := JB) h.2.2.2 h.2.1
  refine ⟨f.1, g.1, t.1, fun _ _ => ⟨f.2.1, g.2.1, ?_, t.2⟩⟩
  rw [f.2.2]
  repeat' split
  · exact h.2.2.1
  · exact cn_0
  · exact h.2.2.1
theorem nd_ite {c : Prop} [Decidable c] {P Q : Prop} (h1 : P) (h2 : Q) : if c then P else Q := by
  split
  · exact h1
  · exact h2
