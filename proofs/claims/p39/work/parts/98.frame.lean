/-! the class: what no other call touches -/
theorem KGT.k {p q : Nat} {I I1 : SI} (h : KP p q I I1) (hp : 85 < p) : KGT I I1 := fun a b z _ => h a b (by omega)
theorem KGT.o {I I1 : SI} (h : KO I I1) : KGT I I1 := fun a b z _ => h a b (by omega)
theorem KGT.u {I I1 : SI} {a b : Nat} {v : Int32} (h : KGT I I1) (q : 85 < a ∨ (a = 0 ∧ b = 6)) : KGT I (u2 I1 a b v) := fun c d z y => (u2_n _ _ (fun w => by omega)).trans (h c d z y)
theorem KGT.p {I I1 : SI} {r len : Nat} {i x : Int32} (h : KGT I I1) (q : 85 < r) : KGT I (putF I1 r len i x) := fun c d z y => (putF_n (fun w => by omega)).trans (h c d z y)
theorem plums_G {a0 a1 : Int32} {I : SI} {J : SJ} : KGT I (FI_X11_plums a0 a1 I J) := by
  unfold FI_X11_plums S1_X11_plums
  repeat' split
  all_goals first
    | exact KGT.rf I
    | exact (KGT.k undoadd_K (by decide)).p (by decide)
theorem move_G {a0 a1 : Int32} {I : SI} {J : SJ} : KGT I (FI_X11_move a0 a1 I J) := by
  unfold FI_X11_move
  repeat' split
  all_goals first
    | exact KGT.rf I
    | exact (KGT.k undoadd_K (by decide)).p (by decide)
theorem say_G {a0 a1 : Int32} {I : SI} {J : SJ} : KGT I (FI_X11_sayFromNowOn a0 a1 I J) := by
  unfold FI_X11_sayFromNowOn
  split
  · exact KGT.rf I
  · exact (KGT.k undoadd_K (by decide)).p (by decide)
theorem tell_G {a0 a1 : Int32} {I : SI} {J : SJ} : KGT I (FI_X11_tell a0 a1 I J) := by
  unfold FI_X11_tell
  repeat' split
  all_goals first
    | exact KGT.rf I
    | exact say_G
theorem forget_G {a0 : Int32} {I : SI} {J : SJ} : KGT I (FI_X11_forget a0 I J) := by
  unfold FI_X11_forget
  repeat' split
  all_goals first
    | exact KGT.rf I
    | exact say_G
theorem take_G {I : SI} {J : SJ} : KGT I (FI_X10_takeBack 86 I J) := by
  have t : KGT I (u2 I 120 0 (I 120 0 - 1)) := (KGT.rf I).u (by omega)
  unfold FI_X10_takeBack S1_X10_takeBack S2_X10_takeBack S3_X10_takeBack
  repeat' split
  all_goals first
    | exact KGT.rf I
    | exact t.p (by decide)
theorem undo_G {I : SI} {J : SJ} : KGT I (FI_X11_undo I J) := by
  unfold FI_X11_undo
  split
  · exact take_G
  · exact take_G
theorem keep_G {I : SI} {J : SJ} : KGT I (FI_X11_keep I J) := by
  unfold FI_X11_keep
  exact (KGT.k (copy_K (k := 95)) (by decide)).u (by omega)
theorem back_G {I : SI} {J : SJ} : KGT I (FI_X11_back I J) := by
  unfold FI_X11_back FI_X10_clear
  split
  · exact KGT.rf I
  · exact (KGT.k (copy_K (k := 86)) (by decide)).u (by omega)
theorem seen_G {a0 a1 a2 : Int32} {I : SI} {J : SJ} : KGT I (FI_X6_add a0 a1 a2 I J) := by
  unfold FI_X6_add
  split
  · unfold S3_X6_add S2_X6_add S1_X6_add
    exact ((((KGT.rf I).p (by decide)).p (by decide)).p (by decide)).u (by omega)
  · exact KGT.rf I
theorem see_G {a0 a1 a2 : Int32} {I : SI} {J : SJ} : KGT I (FI_X11_see a0 a1 a2 I J) := by
  unfold FI_X11_see
  repeat' split
  all_goals first
    | exact KGT.rf I
    | exact seen_G
theorem out_G {a0 : Int32} {I : SI} {J : SJ} : KGT I (FI_X11_out a0 I J) := by
  unfold FI_X11_out
  repeat' split
  all_goals first
    | exact KGT.rf I
    | exact seen_G
theorem known_G {a0 : Int32} {I : SI} {J : SJ} : KGT I (FI_X11_known a0 I J) := by
  unfold FI_X11_known
  repeat' split
  all_goals first
    | exact KGT.rf I
    | exact (KGT.rf I).u (by omega)
/-! every call, from any state that calls leave -/
def PP (A : SI) (_ : SJ) (B : SI) (_ : SJ) : Prop := CI A ∧ MW B B ∧ inR (A 0 1) 701 ∧ GTL A B ∧ GSE A B
theorem km_of {B B1 : SI} (h : MW B B1) : KMT B B1 := fun a b q => h.gt a b (by unfold gM mT at q; omega)
theorem pp {A A1 B B1 : SI} {JA JB JA1 JB1 : SJ} (h : PP A JA B JB) (c : CI A1) (e : KGT A A1) (k6 : ∀ b, A1 116 b = A 116 b) (m : MW B B1) : PP A1 JA1 B1 JB1 := ⟨c, m.self, by rw [e 0 1 (by omega) (by omega)]; exact h.2.2.1, h.2.2.2.1.mv e (km_of m), h.2.2.2.2.mv k6 (m.gt 130 68 (by omega)) (m.gt 130 69 (by omega))⟩
theorem k6_of {A A1 : SI} (k : KI A A1) : ∀ b, A1 116 b = A 116 b := fun b => k 116 b (by unfold dpI; omega)
theorem ci_of {A A1 : SI} (h : CI A) (k : KI A A1) : CI A1 := h.ki k
theorem tb_of {A B : SI} (g : GTL A B) : B 130 2 = A 0 1 := by
  obtain ⟨⟨n, _, e1, e2⟩, _⟩ := g
  exact e2.trans e1.symm
theorem pp_feed {a0 a1 a2 a3 a4 : Int32} {A B : SI} {JA JB : SJ} (h : PP A JA B JB) : H_X11_feed a0 a1 a2 a3 a4 A JA ∧ H_X12_feed a0 a1 a2 a3 a4 B JB ∧ F_X11_feed a0 a1 a2 a3 a4 A JA = F_X12_feed a0 a1 a2 a3 a4 B JB ∧ PP (FI_X11_feed a0 a1 a2 a3 a4 A JA) JA (FI_X12_feed a0 a1 a2 a3 a4 B JB) JB := by
  have e := tb_of h.2.2.2.1
  have f := feed_K (a0 := a0) (a1 := a1) (a2 := a2) (a3 := a3) (a4 := a4) (J := JA) h.1 h.2.2.1
  have g := m_feed (a0 := a0) (a1 := a1) (a2 := a2) (a3 := a3) (a4 := a4) (J := JB) h.2.1 (by rw [e]; exact h.2.2.1)
  have t := feed_T (a0 := a0) (a1 := a1) (a2 := a2) (a3 := a3) (a4 := a4) (J := JA) (J' := JB) h.2.2.2.1 h.2.2.2.2
  exact ⟨f.1, g.1, t.1, f.2.1, g.2.1, by rw [f.2.2.1]; exact f.2.2.2.2, t.2⟩
theorem pp_text {a0 : Int32} {A B : SI} {JA JB : SJ} (h : PP A JA B JB) : H_X11_text a0 A JA ∧ H_X12_text a0 B JB ∧ F_X11_text a0 A JA = F_X12_text a0 B JB ∧ ∀ J1 J2, PP (FI_X11_text a0 A JA) J1 (FI_X12_text a0 B JB) J2 := by
  have e := tb_of h.2.2.2.1
  have f := text_C (a0 := a0) (J := JA) h.1 h.2.2.1
  have g := m_text (a0 := a0) (J := JB) h.2.1 (by rw [e]; exact h.2.2.1)
  have t := text_T (a0 := a0) (J := JA) (J' := JB) h.2.2.2.1 h.2.1 h.2.2.2.2
  refine ⟨f.1, g.1, t.1, fun _ _ => ⟨f.2.1, g.2.1, ?_, t.2⟩⟩
  rw [f.2.2]
  repeat' split
  · exact h.2.2.1
  · exact cn_0
  · exact h.2.2.1
/-! what is sighted -/
theorem mark_v {a1 : Int32} {A B : SI} {J J' : SJ} (g : GTL A B) : F_X7_holds 3 a1 A J = F_X12_isMark a1 (u2 B 130 0 0) J' := by
  obtain ⟨_, _, _, _, _, ⟨c, hc, e1, e2, _⟩, _⟩ := g
  unfold F_X7_holds F_X12_isMark
  rw [u2_n _ _ (show ¬ ((132 : Nat) = 130 ∧ (0 : Nat) = 0) by omega), e1, e2]
theorem add_S {a0 a1 a2 : Int32} {A : SI} {J : SJ} {n : Nat} (hn : n ≤ 24) (e : A 116 0 = nI n) : (n < 24 → F_X6_add a0 a1 a2 A J = nI n ∧ FI_X6_add a0 a1 a2 A J 116 0 = nI n + 1) ∧ (¬ n < 24 → F_X6_add a0 a1 a2 A J = -1 ∧ FI_X6_add a0 a1 a2 A J 116 0 = nI n) ∧ FI_X6_add a0 a1 a2 A J 116 1 = A 116 1 := by
  have e2 : ∀ b, S2_X6_add a0 a1 a2 A J 116 b = A 116 b := fun b => by
    unfold S2_X6_add S1_X6_add
    exact (putF_n (by decide)).trans ((putF_n (by decide)).trans (putF_n (by decide)))
  have e3 : S3_X6_add a0 a1 a2 A J 116 0 = nI n + 1 := by
    unfold S3_X6_add
    rw [u2_s, e2, e]
  have e4 : S3_X6_add a0 a1 a2 A J 116 1 = A 116 1 := by
    unfold S3_X6_add
    exact (u2_n _ _ (by omega)).trans (e2 1)
  unfold F_X6_add FI_X6_add
  by_cases q : n < 24
  · rw [if_pos (show A 116 0 < 24 by rw [e]; exact nI_lt (b := 24) q (by decide)), if_pos (show A 116 0 < 24 by rw [e]; exact nI_lt (b := 24) q (by decide)), e3, Int32.add_sub_cancel]
    exact ⟨fun _ => ⟨rfl, rfl⟩, fun y => absurd q y, e4⟩
  · rw [if_neg (show ¬ A 116 0 < 24 by rw [e]; exact nI_nlt (b := 24) (by omega) (by omega)), if_neg (show ¬ A 116 0 < 24 by rw [e]; exact nI_nlt (b := 24) (by omega) (by omega))]
    exact ⟨fun y => absurd y q, fun _ => ⟨rfl, e⟩, rfl⟩
theorem see_S {a0 a1 a2 : Int32} {A B : SI} {J J' : SJ} (g : GTL A B) (s : GSE A B) (h : inR (A 116 0) 25) : F_X11_see a0 a1 a2 A J = F_X12_see a0 a1 a2 B J' ∧ GSE (FI_X11_see a0 a1 a2 A J) (FI_X12_see a0 a1 a2 B J') ∧ KMT B (FI_X12_see a0 a1 a2 B J') := by
  obtain ⟨n, hn, e⟩ := h.n
  have b0 : u2 B 130 0 0 130 68 = nI n := (u2_n _ _ (by omega)).trans (s.1.symm.trans e)
  have s0 : GSE A (u2 B 130 0 0) := s.mv (fun _ => rfl) (u2_n _ _ (by omega)) (u2_n _ _ (by omega))
  have k0 : KMT B (u2 B 130 0 0) := (KMT.rf B).u (by unfold gM mT; omega)
  have m := mark_v (a1 := a1) (J := J) (J' := J') g
  unfold F_X11_see F_X12_see FI_X11_see FI_X12_see
  by_cases c0 : a0 < 1
  · rw [if_pos c0, if_pos c0, if_pos c0, if_pos c0]; exact ⟨rfl, s0, k0⟩
  · rw [if_neg c0, if_neg c0, if_neg c0, if_neg c0]
    by_cases c1 : (40 : Int32) < a0
    · rw [if_pos c1, if_pos c1, if_pos c1, if_pos c1]; exact ⟨rfl, s0, k0⟩
    · rw [if_neg c1, if_neg c1, if_neg c1, if_neg c1, m]
      by_cases c2 : F_X12_isMark a1 (u2 B 130 0 0) J' = 0
      · rw [if_pos c2, if_pos c2, if_pos c2, if_pos c2]; exact ⟨rfl, s0, k0⟩
      · rw [if_neg c2, if_neg c2, if_neg c2, if_neg c2, b0]
        have key : ∀ z : Int32, (if nI n = 24 then -1 else S4_X12_see a0 a1 a2 B J' 130 68 - 1) = F_X6_add a0 a1 z A J ∧ GSE (FI_X6_add a0 a1 z A J) (if nI n = 24 then u2 B 130 0 0 else S4_X12_see a0 a1 a2 B J') ∧ KMT B (if nI n = 24 then u2 B 130 0 0 else S4_X12_see a0 a1 a2 B J') := fun z => by
          have ad := add_S (a0 := a0) (a1 := a1) (a2 := z) (J := J) (show n ≤ 24 by omega) e
          by_cases q : n < 24
          · have ne : ¬ nI n = 24 := fun y => by have := (nI_eq (b := 24) (by omega) (by omega)).mp y; omega
            have v : S4_X12_see a0 a1 a2 B J' 130 68 = nI n + 1 := by
              unfold S4_X12_see S3_X12_see S2_X12_see S1_X12_see
              rw [u2_s, u68 (by decide), u68 (by decide), u68 (by decide), u68 (by decide), b0]
            have v9 : S4_X12_see a0 a1 a2 B J' 130 69 = B 130 69 := by
              unfold S4_X12_see S3_X12_see S2_X12_see S1_X12_see
              rw [u2_n _ _ (by omega), u2_n _ _ (by omega), u2_n _ _ (by omega), u2_n _ _ (by omega), u2_n _ _ (by omega), u2_n _ _ (by omega)]
            have vk : KMT B (S4_X12_see a0 a1 a2 B J') := by
              unfold S4_X12_see S3_X12_see S2_X12_see S1_X12_see
              exact ((((k0.u (by unfold gM mT; omega)).u (by unfold gM mT; omega)).u (by unfold gM mT; omega)).u (by unfold gM mT; omega)).u (by unfold gM mT; omega)
            rw [if_neg ne, if_neg ne, v, Int32.add_sub_cancel]
            exact ⟨(ad.1 q).1.symm, ⟨(ad.1 q).2.trans v.symm, ad.2.2.trans (s.2.trans v9.symm)⟩, vk⟩
          · have eq : nI n = 24 := by rw [show n = 24 by omega]; rfl
            rw [if_pos eq, if_pos eq]
            exact ⟨(ad.2.1 q).1.symm, ⟨(ad.2.1 q).2.trans b0.symm, ad.2.2.trans (s.2.trans (u2_n _ _ (by omega)).symm)⟩, k0⟩
        by_cases c3 : a2 = 0
        · rw [if_pos c3, if_pos c3]; exact ⟨(key 0).1.symm, (key 0).2⟩
        · rw [if_neg c3, if_neg c3]; exact ⟨(key 1).1.symm, (key 1).2⟩
theorem out_S {a0 : Int32} {A B : SI} {J J' : SJ} (s : GSE A B) (h : inR (A 116 0) 25) : F_X11_out a0 A J = F_X12_out a0 B J' ∧ GSE (FI_X11_out a0 A J) (FI_X12_out a0 B J') ∧ KMT B (FI_X12_out a0 B J') := by
  obtain ⟨n, hn, e⟩ := h.n
  have b0 : u2 B 130 0 0 130 68 = nI n := (u2_n _ _ (by omega)).trans (s.1.symm.trans e)
  have s0 : GSE A (u2 B 130 0 0) := s.mv (fun _ => rfl) (u2_n _ _ (by omega)) (u2_n _ _ (by omega))
  have k0 : KMT B (u2 B 130 0 0) := (KMT.rf B).u (by unfold gM mT; omega)
  unfold F_X11_out F_X12_out FI_X11_out FI_X12_out
  by_cases c0 : a0 < 0
  · rw [if_pos c0, if_pos c0, if_pos c0, if_pos c0]; exact ⟨rfl, s0, k0⟩
  · rw [if_neg c0, if_neg c0, if_neg c0, if_neg c0, b0, e]
    by_cases c1 : nI n ≤ a0
    · have c2 : ¬ a0 < nI n := Int32.not_lt.mpr c1
      rw [if_pos c1, if_pos c1, if_neg c2, if_neg c2]; exact ⟨rfl, s0, k0⟩
    · have c2 : a0 < nI n := Int32.not_le.mp c1
      rw [if_neg c1, if_neg c1, if_pos c2, if_pos c2]
      have ad := add_S (a0 := 0) (a1 := a0) (a2 := 0) (J := J) (show n ≤ 24 by omega) e
      by_cases q : n < 24
      · have ne : ¬ nI n = 24 := fun y => by have := (nI_eq (b := 24) (by omega) (by omega)).mp y; omega
        have v : S1_X12_out a0 B J' 130 68 = nI n + 1 := by
          unfold S1_X12_out
          rw [u2_s, u68 (by decide), b0]
        have v9 : S1_X12_out a0 B J' 130 69 = B 130 69 := by
          unfold S1_X12_out
          rw [u2_n _ _ (by omega), u2_n _ _ (by omega), u2_n _ _ (by omega)]
        have vk : KMT B (S1_X12_out a0 B J') := by
          unfold S1_X12_out
          exact (k0.u (by unfold gM mT; omega)).u (by unfold gM mT; omega)
        rw [if_neg ne, if_neg ne, v, Int32.add_sub_cancel]
        exact ⟨(ad.1 q).1, ⟨(ad.1 q).2.trans v.symm, ad.2.2.trans (s.2.trans v9.symm)⟩, vk⟩
      · have eq : nI n = 24 := by rw [show n = 24 by omega]; rfl
        rw [if_pos eq, if_pos eq]
        exact ⟨(ad.2.1 q).1, ⟨(ad.2.1 q).2.trans b0.symm, ad.2.2.trans (s.2.trans (u2_n _ _ (by omega)).symm)⟩, k0⟩
theorem known_S {a0 : Int32} {A B : SI} {J J' : SJ} (s : GSE A B) : F_X11_known a0 A J = F_X12_known a0 B J' ∧ GSE (FI_X11_known a0 A J) (FI_X12_known a0 B J') ∧ KMT B (FI_X12_known a0 B J') := by
  have b0 : u2 B 130 0 0 130 68 = A 116 0 := (u2_n _ _ (by omega)).trans s.1.symm
  have s0 : GSE A (u2 B 130 0 0) := s.mv (fun _ => rfl) (u2_n _ _ (by omega)) (u2_n _ _ (by omega))
  have k0 : KMT B (u2 B 130 0 0) := (KMT.rf B).u (by unfold gM mT; omega)
  unfold F_X11_known F_X12_known FI_X11_known FI_X12_known
  by_cases c0 : a0 < -1
  · rw [if_pos c0, if_pos c0, if_pos c0, if_pos c0]; exact ⟨rfl, s0, k0⟩
  · rw [if_neg c0, if_neg c0, if_neg c0, if_neg c0, b0]
    by_cases c1 : a0 ≤ A 116 0
    · rw [if_pos c1, if_pos c1, if_pos c1]
      refine ⟨rfl, ⟨?_, ?_⟩, k0.u (by unfold gM mT; omega)⟩
      · rw [u2_n _ _ (by omega), u2_n _ _ (by omega)]; exact b0.symm
      · rw [u2_s, u2_s]
    · rw [if_neg c1, if_neg c1, if_neg c1]; exact ⟨rfl, s0, k0⟩
theorem pp_see {a0 a1 a2 : Int32} {A B : SI} {JA JB : SJ} (h : PP A JA B JB) : F_X11_see a0 a1 a2 A JA = F_X12_see a0 a1 a2 B JB ∧ PP (FI_X11_see a0 a1 a2 A JA) JA (FI_X12_see a0 a1 a2 B JB) JB := by
  have t := see_S (a0 := a0) (a1 := a1) (a2 := a2) (J := JA) (J' := JB) h.2.2.2.1 h.2.2.2.2 h.1.2.1.1
  have c := see_C (a0 := a0) (a1 := a1) (a2 := a2) (J := JA) h.1
  exact ⟨t.1, c.1, (m_see (J := JB) h.2.1).2, by rw [c.2]; exact h.2.2.1, h.2.2.2.1.mv see_G t.2.2, t.2.1⟩
theorem pp_out {a0 : Int32} {A B : SI} {JA JB : SJ} (h : PP A JA B JB) : F_X11_out a0 A JA = F_X12_out a0 B JB ∧ PP (FI_X11_out a0 A JA) JA (FI_X12_out a0 B JB) JB := by
  have t := out_S (a0 := a0) (J := JA) (J' := JB) h.2.2.2.2 h.1.2.1.1
  have c := out_C (a0 := a0) (J := JA) h.1
  exact ⟨t.1, c.1, (m_out (J := JB) h.2.1).2, by rw [c.2]; exact h.2.2.1, h.2.2.2.1.mv out_G t.2.2, t.2.1⟩
theorem pp_known {a0 : Int32} {A B : SI} {JA JB : SJ} (h : PP A JA B JB) : F_X11_known a0 A JA = F_X12_known a0 B JB ∧ PP (FI_X11_known a0 A JA) JA (FI_X12_known a0 B JB) JB := by
  have t := known_S (a0 := a0) (J := JA) (J' := JB) h.2.2.2.2
  have c := known_K (a0 := a0) (J := JA) h.1
  exact ⟨t.1, c.1, m_known (J := JB) h.2.1, by rw [c.2]; exact h.2.2.1, h.2.2.2.1.mv known_G t.2.2, t.2.1⟩
theorem nd_ite {c : Prop} [Decidable c] {P Q : Prop} (h1 : P) (h2 : Q) : if c then P else Q := by
  split
  · exact h1
  · exact h2
