/-! both: how likely by odds: ten runs -/
theorem SCT.w_seed {p f nm ns : Nat} {v : Int32} {A B : SI} {JA : SJ} (h : SCT p f nm ns A JA B) : SCT p f nm ns A (u2 JA p 6 v.toInt64) (u2 B 155 f v) := by
  have eB : ∀ a c, ¬ (a = 155 ∧ c = f) → u2 B 155 f v a c = B a c := fun a c z => u2_n _ _ z
  obtain ⟨⟨h0, h1, h2, h4, h5, h6⟩, h3, hs, hw, hm, hq⟩ := h
  exact ⟨⟨h0.trans (eB _ _ (by omega)).symm, h1.trans (eB _ _ (by omega)).symm, h2.trans (eB _ _ (by omega)).symm, h4.trans (eB _ _ (by omega)).symm, h5.trans (eB _ _ (by omega)).symm, (u2_s _ _ _ _).trans (congrArg Int32.toInt64 (u2_s _ _ _ _).symm)⟩, h3.trans (itN_cg 8 (fun i hi s => by rw [eB 164 _ (by omega)])), fun s z => by rw [eB 162 _ (by omega), eB 163 _ (by omega), eB 164 _ (by omega)]; exact hs s z, fun s m z y => by rw [eB 165 _ (by omega)]; exact hw s m z y, fun m z => by rw [eB 160 _ (by omega), eB 161 _ (by omega)]; exact hm m z, fun q z => by rw [eB 166 _ (by omega), eB 167 _ (by omega)]; exact hq q z⟩
theorem cfg1 {nm ns np : Nat} {A B : SI} {JA : SJ} (h : NWD nm ns np A JA B) : CFG 1 nm (u2 (FI_X0_begin 86 A JA) 104 2 1) B := by
  have cf := cfg0 h
  have gd := h.2.2.2.2.2
  have eA : ∀ a b, ¬ (a = 104 ∧ b = 2) → u2 (FI_X0_begin 86 A JA) 104 2 1 a b = FI_X0_begin 86 A JA a b := fun a b z => u2_n _ _ z
  refine ⟨Or.inr ⟨gd.2.2.2, Or.inr (Or.inr ⟨u2_s _ _ _ _, by rw [gd.1]; decide, by decide⟩)⟩, ?_, ?_, ?_, fun q hq => (eA 114 q (by omega)).trans (cf.2.2.2.2 q hq)⟩
  · rw [eA 104 5 (by omega)]; exact cf.2.1
  · rw [eA 104 6 (by omega)]; exact cf.2.2.1
  · rw [eA 104 7 (by omega)]; exact cf.2.2.2.1
theorem chance_val {a0 a1 a2 : Int32} {A B : SI} {JA J' : SJ} (g : GTL A B) (m : MW B B) (d : GDF B) (s : GSC A JA B) : F_X11_chance a0 a1 a2 A JA = F_X12_chance a0 a1 a2 B J' := by
  obtain ⟨nm, ns, np, h⟩ := nwd g m d s
  have st : ∀ n, ∃ (v c : Int32) (A1 : SI) (J1 : SJ) (B1 : SI) (K1 : SJ), itN (B_X11_chance_l37 a0 a1 a2 A JA) n (a0.toInt64, 0, A, JA) = (v.toInt64, c, A1, J1) ∧ itN (B_X12_chance_l41 a0 a1 a2 B J') n (a0, 0, u2 B 130 0 0, J') = (v, c, B1, K1) ∧ NWD nm ns np A1 J1 B1 := by
    intro n
    induction n with
    | zero => exact ⟨a0, 0, A, JA, u2 B 130 0 0, J', itN_0 _ _, itN_0 _ _, h⟩
    | succ n ih =>
      obtain ⟨v, c, A1, J1, B1, K1, e1, e2, h1⟩ := ih
      rw [itN_s, itN_s, e1, e2]
      obtain ⟨b1, b2⟩ := begin1 (J' := K1) h1 (fun a b z => u2_n _ _ (by omega)) (fun _ _ _ => rfl) (cfg1 h1)
      have b1' := b1.w_seed (v := v)
      have b2' : DX 1 nm ns np (u2 (FI_X0_begin 86 A1 J1) 104 2 1) (u2 (FI_X12_copies 1 0 B1 K1) 155 1 v) := b2.mv (fun _ _ _ => rfl) ((FS.rf 1 _).u (in1 (by omega)))
      have days := days_v (b := 1) (f := 1) (a0 := a1) (Ia := u2 (FI_X0_begin 86 A1 J1) 104 2 1) (Ja := u2 (FJ_X0_begin 86 A1 J1) 105 6 v.toInt64) (J' := K1) (g := B_X12_chance_l65 a0 a1 a2 B J' n (v, c, B1, K1)) (fun _ _ => rfl) b1' b2' (by omega) a1.toNatClampNeg
      have days' : DRL 1 nm ns (u2 (FI_X0_begin 86 A1 J1) 104 2 1) (u2 (FJ_X0_begin 86 A1 J1) 105 6 v.toInt64) (u2 (FI_X12_copies 1 0 B1 K1) 155 1 v) (S1_X11_chance a0 a1 a2 A JA n (v.toInt64, c, A1, J1)) (S2_X11_chance a0 a1 a2 A JA n (v.toInt64, c, A1, J1)) (S1_X12_chance a0 a1 a2 B J' n (v, c, B1, K1)) := days
      obtain ⟨y1, y2, y3, y4⟩ := days'
      have y := b2'.mv y2 y3
      have c1 : S3_X11_chance a0 a1 a2 A JA n (v.toInt64, c, A1, J1) = S3_X12_chance a0 a1 a2 B J' n (v, c, B1, K1) := clashes_v (f := 1) y1 y.1 (by omega)
      have sd : (S2_X11_chance a0 a1 a2 A JA n (v.toInt64, c, A1, J1)) 105 6 = ((S1_X12_chance a0 a1 a2 B J' n (v, c, B1, K1)) 155 1).toInt64 := y1.1.2.2.2.2.2
      have bk : KP 104 115 A1 (FI_X0_begin 86 A1 J1) := begin_K
      have bj : JDY J1 (FJ_X0_begin 86 A1 J1) := begin_J
      have cp := copies_v (p := 1) (q := 0) (I := B1) (J := K1) (by omega) (by omega) (by omega)
      have cp2 : ∀ a b, ¬ inS 1 a b → FI_X12_copies 1 0 B1 K1 a b = B1 a b := cp.2
      have fs : FS 1 B1 (FI_X12_copies 1 0 B1 K1) := fun a b z _ => cp2 a b z
      have h2 : NWD nm ns np (S1_X11_chance a0 a1 a2 A JA n (v.toInt64, c, A1, J1)) (S2_X11_chance a0 a1 a2 A JA n (v.toInt64, c, A1, J1)) (S1_X12_chance a0 a1 a2 B J' n (v, c, B1, K1)) := h1.mv (fun a b x => (y2 a b (by omega)).trans ((u2_n _ _ (by omega)).trans (bk a b (by omega)))) ((y4 86 6 (by omega)).trans ((u2_n _ _ (by omega)).trans (bj 86 6 (by omega)))) ((fs.u (in1 (by omega))).tr y3)
      by_cases z : S3_X12_chance a0 a1 a2 B J' n (v, c, B1, K1) < a2
      · have z' : S3_X11_chance a0 a1 a2 A JA n (v.toInt64, c, A1, J1) < a2 := by rw [c1]; exact z
        refine ⟨(S1_X12_chance a0 a1 a2 B J' n (v, c, B1, K1)) 155 1, c, S1_X11_chance a0 a1 a2 A JA n (v.toInt64, c, A1, J1), S2_X11_chance a0 a1 a2 A JA n (v.toInt64, c, A1, J1), S1_X12_chance a0 a1 a2 B J' n (v, c, B1, K1), S2_X12_chance a0 a1 a2 B J' n (v, c, B1, K1), ?_, ?_, h2⟩
        · unfold B_X11_chance_l37
          exact (if_pos z').trans (congrArg (fun w => (w, c, S1_X11_chance a0 a1 a2 A JA n (v.toInt64, c, A1, J1), S2_X11_chance a0 a1 a2 A JA n (v.toInt64, c, A1, J1))) sd)
        · unfold B_X12_chance_l41
          exact (if_pos z).trans (congrArg (fun w => ((S1_X12_chance a0 a1 a2 B J' n (v, c, B1, K1)) 155 1, w, S1_X12_chance a0 a1 a2 B J' n (v, c, B1, K1), S2_X12_chance a0 a1 a2 B J' n (v, c, B1, K1))) (Int32.add_zero c))
      · have z' : ¬ S3_X11_chance a0 a1 a2 A JA n (v.toInt64, c, A1, J1) < a2 := by rw [c1]; exact z
        refine ⟨(S1_X12_chance a0 a1 a2 B J' n (v, c, B1, K1)) 155 1, c + 1, S1_X11_chance a0 a1 a2 A JA n (v.toInt64, c, A1, J1), S2_X11_chance a0 a1 a2 A JA n (v.toInt64, c, A1, J1), S1_X12_chance a0 a1 a2 B J' n (v, c, B1, K1), S2_X12_chance a0 a1 a2 B J' n (v, c, B1, K1), ?_, ?_, h2⟩
        · unfold B_X11_chance_l37
          exact (if_neg z').trans (congrArg (fun w => (w, c + 1, S1_X11_chance a0 a1 a2 A JA n (v.toInt64, c, A1, J1), S2_X11_chance a0 a1 a2 A JA n (v.toInt64, c, A1, J1))) sd)
        · unfold B_X12_chance_l41
          exact if_neg z
  obtain ⟨v, c, A1, J1, B1, K1, e1, e2, _⟩ := st 10
  unfold F_X11_chance F_X12_chance F_X11_chance_l37 F_X12_chance_l41
  rw [e1, e2]
