/-! both: one cell of a scene, written alike (printed by wip/gen/inv/gd.py) -/
theorem SCT.w_day {p f nm ns : Nat} {v : Int32} {A B : SI} {JA : SJ} (h : SCT p f nm ns A JA B) : SCT p f nm ns (u2 A p 0 v) JA (u2 B 154 f v) := by
  have eA : ∀ a c, ¬ (a = p ∧ c = 0) → u2 A p 0 v a c = A a c := fun a c z => u2_n _ _ z
  have eB : ∀ a c, ¬ (a = 154 ∧ c = f) → u2 B 154 f v a c = B a c := fun a c z => u2_n _ _ z
  obtain ⟨⟨h0, h1, h2, h4, h5, h6⟩, h3, hs, hw, hm, hq⟩ := h
  exact ⟨⟨(u2_s _ _ _ _).trans (u2_s _ _ _ _).symm, ((eA _ _ (by omega)).trans h1).trans (eB _ _ (by omega)).symm, ((eA _ _ (by omega)).trans h2).trans (eB _ _ (by omega)).symm, ((eA _ _ (by omega)).trans h4).trans (eB _ _ (by omega)).symm, ((eA _ _ (by omega)).trans h5).trans (eB _ _ (by omega)).symm, h6.trans (congrArg Int32.toInt64 (eB _ _ (by omega)).symm)⟩, (eA _ _ (by omega)).trans (h3.trans (itN_cg 8 (fun i hi s => by rw [eB 164 _ (by omega)]))), fun s z => by rw [eA (p + 1) s (by omega), eA (p + 2) s (by omega), eA (p + 3) s (by omega), eB 162 _ (by omega), eB 163 _ (by omega), eB 164 _ (by omega)]; exact hs s z, fun s m z y => by rw [eA (p + 4) _ (by omega), eB 165 _ (by omega)]; exact hw s m z y, fun m z => by rw [eA (p + 5) m (by omega), eA (p + 6) m (by omega), eB 160 _ (by omega), eB 161 _ (by omega)]; exact hm m z, fun q z => by rw [eA (p + 7) q (by omega), eA (p + 8) q (by omega), eB 166 _ (by omega), eB 167 _ (by omega)]; exact hq q z⟩
theorem SCT.w_purse {p f nm ns : Nat} {v : Int32} {A B : SI} {JA : SJ} (h : SCT p f nm ns A JA B) : SCT p f nm ns (u2 A p 1 v) JA (u2 B 156 f v) := by
  have eA : ∀ a c, ¬ (a = p ∧ c = 1) → u2 A p 1 v a c = A a c := fun a c z => u2_n _ _ z
  have eB : ∀ a c, ¬ (a = 156 ∧ c = f) → u2 B 156 f v a c = B a c := fun a c z => u2_n _ _ z
  obtain ⟨⟨h0, h1, h2, h4, h5, h6⟩, h3, hs, hw, hm, hq⟩ := h
  exact ⟨⟨((eA _ _ (by omega)).trans h0).trans (eB _ _ (by omega)).symm, (u2_s _ _ _ _).trans (u2_s _ _ _ _).symm, ((eA _ _ (by omega)).trans h2).trans (eB _ _ (by omega)).symm, ((eA _ _ (by omega)).trans h4).trans (eB _ _ (by omega)).symm, ((eA _ _ (by omega)).trans h5).trans (eB _ _ (by omega)).symm, h6.trans (congrArg Int32.toInt64 (eB _ _ (by omega)).symm)⟩, (eA _ _ (by omega)).trans (h3.trans (itN_cg 8 (fun i hi s => by rw [eB 164 _ (by omega)]))), fun s z => by rw [eA (p + 1) s (by omega), eA (p + 2) s (by omega), eA (p + 3) s (by omega), eB 162 _ (by omega), eB 163 _ (by omega), eB 164 _ (by omega)]; exact hs s z, fun s m z y => by rw [eA (p + 4) _ (by omega), eB 165 _ (by omega)]; exact hw s m z y, fun m z => by rw [eA (p + 5) m (by omega), eA (p + 6) m (by omega), eB 160 _ (by omega), eB 161 _ (by omega)]; exact hm m z, fun q z => by rw [eA (p + 7) q (by omega), eA (p + 8) q (by omega), eB 166 _ (by omega), eB 167 _ (by omega)]; exact hq q z⟩
theorem SCT.w_chg {p f nm ns : Nat} {v : Int32} {A B : SI} {JA : SJ} (h : SCT p f nm ns A JA B) : SCT p f nm ns (u2 A p 2 v) JA (u2 B 157 f v) := by
  have eA : ∀ a c, ¬ (a = p ∧ c = 2) → u2 A p 2 v a c = A a c := fun a c z => u2_n _ _ z
  have eB : ∀ a c, ¬ (a = 157 ∧ c = f) → u2 B 157 f v a c = B a c := fun a c z => u2_n _ _ z
  obtain ⟨⟨h0, h1, h2, h4, h5, h6⟩, h3, hs, hw, hm, hq⟩ := h
  exact ⟨⟨((eA _ _ (by omega)).trans h0).trans (eB _ _ (by omega)).symm, ((eA _ _ (by omega)).trans h1).trans (eB _ _ (by omega)).symm, (u2_s _ _ _ _).trans (u2_s _ _ _ _).symm, ((eA _ _ (by omega)).trans h4).trans (eB _ _ (by omega)).symm, ((eA _ _ (by omega)).trans h5).trans (eB _ _ (by omega)).symm, h6.trans (congrArg Int32.toInt64 (eB _ _ (by omega)).symm)⟩, (eA _ _ (by omega)).trans (h3.trans (itN_cg 8 (fun i hi s => by rw [eB 164 _ (by omega)]))), fun s z => by rw [eA (p + 1) s (by omega), eA (p + 2) s (by omega), eA (p + 3) s (by omega), eB 162 _ (by omega), eB 163 _ (by omega), eB 164 _ (by omega)]; exact hs s z, fun s m z y => by rw [eA (p + 4) _ (by omega), eB 165 _ (by omega)]; exact hw s m z y, fun m z => by rw [eA (p + 5) m (by omega), eA (p + 6) m (by omega), eB 160 _ (by omega), eB 161 _ (by omega)]; exact hm m z, fun q z => by rw [eA (p + 7) q (by omega), eA (p + 8) q (by omega), eB 166 _ (by omega), eB 167 _ (by omega)]; exact hq q z⟩
theorem SCT.w_adays {p f nm ns : Nat} {v : Int32} {A B : SI} {JA : SJ} (h : SCT p f nm ns A JA B) : SCT p f nm ns (u2 A p 4 v) JA (u2 B 159 f v) := by
  have eA : ∀ a c, ¬ (a = p ∧ c = 4) → u2 A p 4 v a c = A a c := fun a c z => u2_n _ _ z
  have eB : ∀ a c, ¬ (a = 159 ∧ c = f) → u2 B 159 f v a c = B a c := fun a c z => u2_n _ _ z
  obtain ⟨⟨h0, h1, h2, h4, h5, h6⟩, h3, hs, hw, hm, hq⟩ := h
  exact ⟨⟨((eA _ _ (by omega)).trans h0).trans (eB _ _ (by omega)).symm, ((eA _ _ (by omega)).trans h1).trans (eB _ _ (by omega)).symm, ((eA _ _ (by omega)).trans h2).trans (eB _ _ (by omega)).symm, (u2_s _ _ _ _).trans (u2_s _ _ _ _).symm, ((eA _ _ (by omega)).trans h5).trans (eB _ _ (by omega)).symm, h6.trans (congrArg Int32.toInt64 (eB _ _ (by omega)).symm)⟩, (eA _ _ (by omega)).trans (h3.trans (itN_cg 8 (fun i hi s => by rw [eB 164 _ (by omega)]))), fun s z => by rw [eA (p + 1) s (by omega), eA (p + 2) s (by omega), eA (p + 3) s (by omega), eB 162 _ (by omega), eB 163 _ (by omega), eB 164 _ (by omega)]; exact hs s z, fun s m z y => by rw [eA (p + 4) _ (by omega), eB 165 _ (by omega)]; exact hw s m z y, fun m z => by rw [eA (p + 5) m (by omega), eA (p + 6) m (by omega), eB 160 _ (by omega), eB 161 _ (by omega)]; exact hm m z, fun q z => by rw [eA (p + 7) q (by omega), eA (p + 8) q (by omega), eB 166 _ (by omega), eB 167 _ (by omega)]; exact hq q z⟩
theorem SCT.w_arow {p f nm ns : Nat} {v : Int32} {A B : SI} {JA : SJ} (h : SCT p f nm ns A JA B) : SCT p f nm ns (u2 A p 5 v) JA (u2 B 158 f v) := by
  have eA : ∀ a c, ¬ (a = p ∧ c = 5) → u2 A p 5 v a c = A a c := fun a c z => u2_n _ _ z
  have eB : ∀ a c, ¬ (a = 158 ∧ c = f) → u2 B 158 f v a c = B a c := fun a c z => u2_n _ _ z
  obtain ⟨⟨h0, h1, h2, h4, h5, h6⟩, h3, hs, hw, hm, hq⟩ := h
  exact ⟨⟨((eA _ _ (by omega)).trans h0).trans (eB _ _ (by omega)).symm, ((eA _ _ (by omega)).trans h1).trans (eB _ _ (by omega)).symm, ((eA _ _ (by omega)).trans h2).trans (eB _ _ (by omega)).symm, ((eA _ _ (by omega)).trans h4).trans (eB _ _ (by omega)).symm, (u2_s _ _ _ _).trans (u2_s _ _ _ _).symm, h6.trans (congrArg Int32.toInt64 (eB _ _ (by omega)).symm)⟩, (eA _ _ (by omega)).trans (h3.trans (itN_cg 8 (fun i hi s => by rw [eB 164 _ (by omega)]))), fun s z => by rw [eA (p + 1) s (by omega), eA (p + 2) s (by omega), eA (p + 3) s (by omega), eB 162 _ (by omega), eB 163 _ (by omega), eB 164 _ (by omega)]; exact hs s z, fun s m z y => by rw [eA (p + 4) _ (by omega), eB 165 _ (by omega)]; exact hw s m z y, fun m z => by rw [eA (p + 5) m (by omega), eA (p + 6) m (by omega), eB 160 _ (by omega), eB 161 _ (by omega)]; exact hm m z, fun q z => by rw [eA (p + 7) q (by omega), eA (p + 8) q (by omega), eB 166 _ (by omega), eB 167 _ (by omega)]; exact hq q z⟩
theorem SCT.w_sday {s0 : Nat} {p f nm ns : Nat} {v : Int32} {A B : SI} {JA : SJ} (h : SCT p f nm ns A JA B) : SCT p f nm ns (u2 A (p + 1) s0 v) JA (u2 B 162 (8 * f + s0) v) := by
  have eA : ∀ a c, ¬ (a = (p + 1) ∧ c = s0) → u2 A (p + 1) s0 v a c = A a c := fun a c z => u2_n _ _ z
  have eB : ∀ a c, ¬ (a = 162 ∧ c = (8 * f + s0)) → u2 B 162 (8 * f + s0) v a c = B a c := fun a c z => u2_n _ _ z
  obtain ⟨⟨h0, h1, h2, h4, h5, h6⟩, h3, hs, hw, hm, hq⟩ := h
  exact ⟨⟨((eA _ _ (by omega)).trans h0).trans (eB _ _ (by omega)).symm, ((eA _ _ (by omega)).trans h1).trans (eB _ _ (by omega)).symm, ((eA _ _ (by omega)).trans h2).trans (eB _ _ (by omega)).symm, ((eA _ _ (by omega)).trans h4).trans (eB _ _ (by omega)).symm, ((eA _ _ (by omega)).trans h5).trans (eB _ _ (by omega)).symm, h6.trans (congrArg Int32.toInt64 (eB _ _ (by omega)).symm)⟩, (eA _ _ (by omega)).trans (h3.trans (itN_cg 8 (fun i hi s => by rw [eB 164 _ (by omega)]))), fun s z => by
    by_cases y : s = s0
    · subst y
      obtain ⟨⟨k1, k2, k3⟩, k4⟩ := hs s z
      exact ⟨⟨(u2_s _ _ _ _).trans (u2_s _ _ _ _).symm, ((eA _ _ (by omega)).trans k2).trans (eB _ _ (by omega)).symm, ((eA _ _ (by omega)).trans k3).trans (eB _ _ (by omega)).symm⟩, by rw [eA (p + 2) s (by omega)]; exact k4⟩
    · rw [eA (p + 1) s (by omega), eA (p + 2) s (by omega), eA (p + 3) s (by omega), eB 162 _ (by omega), eB 163 _ (by omega), eB 164 _ (by omega)]; exact hs s z, fun s m z y => by rw [eA (p + 4) _ (by omega), eB 165 _ (by omega)]; exact hw s m z y, fun m z => by rw [eA (p + 5) m (by omega), eA (p + 6) m (by omega), eB 160 _ (by omega), eB 161 _ (by omega)]; exact hm m z, fun q z => by rw [eA (p + 7) q (by omega), eA (p + 8) q (by omega), eB 166 _ (by omega), eB 167 _ (by omega)]; exact hq q z⟩
theorem SCT.w_film {s0 : Nat} {p f nm ns : Nat} {v : Int32} {A B : SI} {JA : SJ} (h : SCT p f nm ns A JA B) (hv : v = 1) (h0s : s0 < ns) : SCT p f nm ns (u2 A (p + 2) s0 v) JA (u2 B 163 (8 * f + s0) v) := by
  have eA : ∀ a c, ¬ (a = (p + 2) ∧ c = s0) → u2 A (p + 2) s0 v a c = A a c := fun a c z => u2_n _ _ z
  have eB : ∀ a c, ¬ (a = 163 ∧ c = (8 * f + s0)) → u2 B 163 (8 * f + s0) v a c = B a c := fun a c z => u2_n _ _ z
  obtain ⟨⟨h0, h1, h2, h4, h5, h6⟩, h3, hs, hw, hm, hq⟩ := h
  exact ⟨⟨((eA _ _ (by omega)).trans h0).trans (eB _ _ (by omega)).symm, ((eA _ _ (by omega)).trans h1).trans (eB _ _ (by omega)).symm, ((eA _ _ (by omega)).trans h2).trans (eB _ _ (by omega)).symm, ((eA _ _ (by omega)).trans h4).trans (eB _ _ (by omega)).symm, ((eA _ _ (by omega)).trans h5).trans (eB _ _ (by omega)).symm, h6.trans (congrArg Int32.toInt64 (eB _ _ (by omega)).symm)⟩, (eA _ _ (by omega)).trans (h3.trans (itN_cg 8 (fun i hi s => by rw [eB 164 _ (by omega)]))), fun s z => by
    by_cases y : s = s0
    · subst y
      obtain ⟨⟨k1, k2, k3⟩, k4⟩ := hs s z
      exact ⟨⟨((eA _ _ (by omega)).trans k1).trans (eB _ _ (by omega)).symm, (u2_s _ _ _ _).trans (u2_s _ _ _ _).symm, ((eA _ _ (by omega)).trans k3).trans (eB _ _ (by omega)).symm⟩, Or.inr ⟨(u2_s _ _ _ _).trans hv, h0s⟩⟩
    · rw [eA (p + 1) s (by omega), eA (p + 2) s (by omega), eA (p + 3) s (by omega), eB 162 _ (by omega), eB 163 _ (by omega), eB 164 _ (by omega)]; exact hs s z, fun s m z y => by rw [eA (p + 4) _ (by omega), eB 165 _ (by omega)]; exact hw s m z y, fun m z => by rw [eA (p + 5) m (by omega), eA (p + 6) m (by omega), eB 160 _ (by omega), eB 161 _ (by omega)]; exact hm m z, fun q z => by rw [eA (p + 7) q (by omega), eA (p + 8) q (by omega), eB 166 _ (by omega), eB 167 _ (by omega)]; exact hq q z⟩
theorem SCT.w_way {s0 m0 : Nat} {p f nm ns : Nat} {v : Int32} {A B : SI} {JA : SJ} (h : SCT p f nm ns A JA B) (hm0 : m0 < 6) (hv : v = -1 ∨ (inR v 6 ∧ m0 < nm)) : SCT p f nm ns (u2 A (p + 4) (6 * s0 + m0) v) JA (u2 B 165 (48 * f + (6 * s0 + m0)) v) := by
  have eA : ∀ a c, ¬ (a = (p + 4) ∧ c = (6 * s0 + m0)) → u2 A (p + 4) (6 * s0 + m0) v a c = A a c := fun a c z => u2_n _ _ z
  have eB : ∀ a c, ¬ (a = 165 ∧ c = (48 * f + (6 * s0 + m0))) → u2 B 165 (48 * f + (6 * s0 + m0)) v a c = B a c := fun a c z => u2_n _ _ z
  obtain ⟨⟨h0, h1, h2, h4, h5, h6⟩, h3, hs, hw, hm, hq⟩ := h
  exact ⟨⟨((eA _ _ (by omega)).trans h0).trans (eB _ _ (by omega)).symm, ((eA _ _ (by omega)).trans h1).trans (eB _ _ (by omega)).symm, ((eA _ _ (by omega)).trans h2).trans (eB _ _ (by omega)).symm, ((eA _ _ (by omega)).trans h4).trans (eB _ _ (by omega)).symm, ((eA _ _ (by omega)).trans h5).trans (eB _ _ (by omega)).symm, h6.trans (congrArg Int32.toInt64 (eB _ _ (by omega)).symm)⟩, (eA _ _ (by omega)).trans (h3.trans (itN_cg 8 (fun i hi s => by rw [eB 164 _ (by omega)]))), fun s z => by rw [eA (p + 1) s (by omega), eA (p + 2) s (by omega), eA (p + 3) s (by omega), eB 162 _ (by omega), eB 163 _ (by omega), eB 164 _ (by omega)]; exact hs s z, fun s m z y => by
    by_cases x : 6 * s + m = 6 * s0 + m0
    · have es : s = s0 := by omega
      have em : m = m0 := by omega
      subst es em
      exact ⟨(u2_s _ _ _ _).trans (u2_s _ _ _ _).symm, by rw [u2_s]; exact hv⟩
    · rw [eA (p + 4) _ (by omega), eB 165 _ (by omega)]; exact hw s m z y, fun m z => by rw [eA (p + 5) m (by omega), eA (p + 6) m (by omega), eB 160 _ (by omega), eB 161 _ (by omega)]; exact hm m z, fun q z => by rw [eA (p + 7) q (by omega), eA (p + 8) q (by omega), eB 166 _ (by omega), eB 167 _ (by omega)]; exact hq q z⟩
theorem SCT.w_say {m0 : Nat} {p f nm ns : Nat} {v : Int32} {A B : SI} {JA : SJ} (h : SCT p f nm ns A JA B) (hv : v = -1 ∨ inR v 6) : SCT p f nm ns (u2 A (p + 5) m0 v) JA (u2 B 160 (6 * f + m0) v) := by
  have eA : ∀ a c, ¬ (a = (p + 5) ∧ c = m0) → u2 A (p + 5) m0 v a c = A a c := fun a c z => u2_n _ _ z
  have eB : ∀ a c, ¬ (a = 160 ∧ c = (6 * f + m0)) → u2 B 160 (6 * f + m0) v a c = B a c := fun a c z => u2_n _ _ z
  obtain ⟨⟨h0, h1, h2, h4, h5, h6⟩, h3, hs, hw, hm, hq⟩ := h
  exact ⟨⟨((eA _ _ (by omega)).trans h0).trans (eB _ _ (by omega)).symm, ((eA _ _ (by omega)).trans h1).trans (eB _ _ (by omega)).symm, ((eA _ _ (by omega)).trans h2).trans (eB _ _ (by omega)).symm, ((eA _ _ (by omega)).trans h4).trans (eB _ _ (by omega)).symm, ((eA _ _ (by omega)).trans h5).trans (eB _ _ (by omega)).symm, h6.trans (congrArg Int32.toInt64 (eB _ _ (by omega)).symm)⟩, (eA _ _ (by omega)).trans (h3.trans (itN_cg 8 (fun i hi s => by rw [eB 164 _ (by omega)]))), fun s z => by rw [eA (p + 1) s (by omega), eA (p + 2) s (by omega), eA (p + 3) s (by omega), eB 162 _ (by omega), eB 163 _ (by omega), eB 164 _ (by omega)]; exact hs s z, fun s m z y => by rw [eA (p + 4) _ (by omega), eB 165 _ (by omega)]; exact hw s m z y, fun m z => by
    by_cases y : m = m0
    · subst y
      obtain ⟨⟨k1, k2⟩, k3, k4⟩ := hm m z
      exact ⟨⟨(u2_s _ _ _ _).trans (u2_s _ _ _ _).symm, ((eA _ _ (by omega)).trans k2).trans (eB _ _ (by omega)).symm⟩, by rw [u2_s]; exact hv, fun x => (eA _ _ (by omega)).trans (k4 x)⟩
    · rw [eA (p + 5) m (by omega), eA (p + 6) m (by omega), eB 160 _ (by omega), eB 161 _ (by omega)]; exact hm m z, fun q z => by rw [eA (p + 7) q (by omega), eA (p + 8) q (by omega), eB 166 _ (by omega), eB 167 _ (by omega)]; exact hq q z⟩
theorem SCT.w_given {m0 : Nat} {p f nm ns : Nat} {v : Int32} {A B : SI} {JA : SJ} (h : SCT p f nm ns A JA B) (hm0 : m0 < nm) : SCT p f nm ns (u2 A (p + 6) m0 v) JA (u2 B 161 (6 * f + m0) v) := by
  have eA : ∀ a c, ¬ (a = (p + 6) ∧ c = m0) → u2 A (p + 6) m0 v a c = A a c := fun a c z => u2_n _ _ z
  have eB : ∀ a c, ¬ (a = 161 ∧ c = (6 * f + m0)) → u2 B 161 (6 * f + m0) v a c = B a c := fun a c z => u2_n _ _ z
  obtain ⟨⟨h0, h1, h2, h4, h5, h6⟩, h3, hs, hw, hm, hq⟩ := h
  exact ⟨⟨((eA _ _ (by omega)).trans h0).trans (eB _ _ (by omega)).symm, ((eA _ _ (by omega)).trans h1).trans (eB _ _ (by omega)).symm, ((eA _ _ (by omega)).trans h2).trans (eB _ _ (by omega)).symm, ((eA _ _ (by omega)).trans h4).trans (eB _ _ (by omega)).symm, ((eA _ _ (by omega)).trans h5).trans (eB _ _ (by omega)).symm, h6.trans (congrArg Int32.toInt64 (eB _ _ (by omega)).symm)⟩, (eA _ _ (by omega)).trans (h3.trans (itN_cg 8 (fun i hi s => by rw [eB 164 _ (by omega)]))), fun s z => by rw [eA (p + 1) s (by omega), eA (p + 2) s (by omega), eA (p + 3) s (by omega), eB 162 _ (by omega), eB 163 _ (by omega), eB 164 _ (by omega)]; exact hs s z, fun s m z y => by rw [eA (p + 4) _ (by omega), eB 165 _ (by omega)]; exact hw s m z y, fun m z => by
    by_cases y : m = m0
    · subst y
      obtain ⟨⟨k1, k2⟩, k3, k4⟩ := hm m z
      exact ⟨⟨((eA _ _ (by omega)).trans k1).trans (eB _ _ (by omega)).symm, (u2_s _ _ _ _).trans (u2_s _ _ _ _).symm⟩, by rw [eA (p + 5) m (by omega)]; exact k3, fun x => absurd x (by omega)⟩
    · rw [eA (p + 5) m (by omega), eA (p + 6) m (by omega), eB 160 _ (by omega), eB 161 _ (by omega)]; exact hm m z, fun q z => by rw [eA (p + 7) q (by omega), eA (p + 8) q (by omega), eB 166 _ (by omega), eB 167 _ (by omega)]; exact hq q z⟩
theorem SCT.w_left {q0 : Nat} {p f nm ns : Nat} {v : Int32} {A B : SI} {JA : SJ} (h : SCT p f nm ns A JA B) (hv : inR v 1000) : SCT p f nm ns (u2 A (p + 7) q0 v) JA (u2 B 166 (4 * f + q0) v) := by
  have eA : ∀ a c, ¬ (a = (p + 7) ∧ c = q0) → u2 A (p + 7) q0 v a c = A a c := fun a c z => u2_n _ _ z
  have eB : ∀ a c, ¬ (a = 166 ∧ c = (4 * f + q0)) → u2 B 166 (4 * f + q0) v a c = B a c := fun a c z => u2_n _ _ z
  obtain ⟨⟨h0, h1, h2, h4, h5, h6⟩, h3, hs, hw, hm, hq⟩ := h
  exact ⟨⟨((eA _ _ (by omega)).trans h0).trans (eB _ _ (by omega)).symm, ((eA _ _ (by omega)).trans h1).trans (eB _ _ (by omega)).symm, ((eA _ _ (by omega)).trans h2).trans (eB _ _ (by omega)).symm, ((eA _ _ (by omega)).trans h4).trans (eB _ _ (by omega)).symm, ((eA _ _ (by omega)).trans h5).trans (eB _ _ (by omega)).symm, h6.trans (congrArg Int32.toInt64 (eB _ _ (by omega)).symm)⟩, (eA _ _ (by omega)).trans (h3.trans (itN_cg 8 (fun i hi s => by rw [eB 164 _ (by omega)]))), fun s z => by rw [eA (p + 1) s (by omega), eA (p + 2) s (by omega), eA (p + 3) s (by omega), eB 162 _ (by omega), eB 163 _ (by omega), eB 164 _ (by omega)]; exact hs s z, fun s m z y => by rw [eA (p + 4) _ (by omega), eB 165 _ (by omega)]; exact hw s m z y, fun m z => by rw [eA (p + 5) m (by omega), eA (p + 6) m (by omega), eB 160 _ (by omega), eB 161 _ (by omega)]; exact hm m z, fun q z => by
    by_cases y : q = q0
    · subst y
      obtain ⟨⟨k1, k2⟩, k3⟩ := hq q z
      exact ⟨⟨(u2_s _ _ _ _).trans (u2_s _ _ _ _).symm, ((eA _ _ (by omega)).trans k2).trans (eB _ _ (by omega)).symm⟩, by rw [u2_s]; exact hv⟩
    · rw [eA (p + 7) q (by omega), eA (p + 8) q (by omega), eB 166 _ (by omega), eB 167 _ (by omega)]; exact hq q z⟩
theorem SCT.w_gave {q0 : Nat} {p f nm ns : Nat} {v : Int32} {A B : SI} {JA : SJ} (h : SCT p f nm ns A JA B) : SCT p f nm ns (u2 A (p + 8) q0 v) JA (u2 B 167 (4 * f + q0) v) := by
  have eA : ∀ a c, ¬ (a = (p + 8) ∧ c = q0) → u2 A (p + 8) q0 v a c = A a c := fun a c z => u2_n _ _ z
  have eB : ∀ a c, ¬ (a = 167 ∧ c = (4 * f + q0)) → u2 B 167 (4 * f + q0) v a c = B a c := fun a c z => u2_n _ _ z
  obtain ⟨⟨h0, h1, h2, h4, h5, h6⟩, h3, hs, hw, hm, hq⟩ := h
  exact ⟨⟨((eA _ _ (by omega)).trans h0).trans (eB _ _ (by omega)).symm, ((eA _ _ (by omega)).trans h1).trans (eB _ _ (by omega)).symm, ((eA _ _ (by omega)).trans h2).trans (eB _ _ (by omega)).symm, ((eA _ _ (by omega)).trans h4).trans (eB _ _ (by omega)).symm, ((eA _ _ (by omega)).trans h5).trans (eB _ _ (by omega)).symm, h6.trans (congrArg Int32.toInt64 (eB _ _ (by omega)).symm)⟩, (eA _ _ (by omega)).trans (h3.trans (itN_cg 8 (fun i hi s => by rw [eB 164 _ (by omega)]))), fun s z => by rw [eA (p + 1) s (by omega), eA (p + 2) s (by omega), eA (p + 3) s (by omega), eB 162 _ (by omega), eB 163 _ (by omega), eB 164 _ (by omega)]; exact hs s z, fun s m z y => by rw [eA (p + 4) _ (by omega), eB 165 _ (by omega)]; exact hw s m z y, fun m z => by rw [eA (p + 5) m (by omega), eA (p + 6) m (by omega), eB 160 _ (by omega), eB 161 _ (by omega)]; exact hm m z, fun q z => by
    by_cases y : q = q0
    · subst y
      obtain ⟨⟨k1, k2⟩, k3⟩ := hq q z
      exact ⟨⟨((eA _ _ (by omega)).trans k1).trans (eB _ _ (by omega)).symm, (u2_s _ _ _ _).trans (u2_s _ _ _ _).symm⟩, by rw [eA (p + 7) q (by omega)]; exact k3⟩
    · rw [eA (p + 7) q (by omega), eA (p + 8) q (by omega), eB 166 _ (by omega), eB 167 _ (by omega)]; exact hq q z⟩
theorem sum_up {g g' : Nat → Int32} {s0 : Nat} (e0 : g' s0 = g s0 + 1) (e : ∀ i, i ≠ s0 → g' i = g i) : ∀ n, itN (fun i s => s + g' i) n 0 = if s0 < n then itN (fun i s => s + g i) n 0 + 1 else itN (fun i s => s + g i) n 0 := by
  intro n
  induction n with
  | zero => rw [if_neg (Nat.not_lt_zero _), itN_0, itN_0]
  | succ n ih =>
    rw [itN_s, itN_s, ih]
    by_cases y : n = s0
    · subst y
      rw [if_neg (Nat.lt_irrefl _), if_pos (Nat.lt_succ_self _), e0]
      exact (Int32.add_assoc _ _ _).symm
    · rw [e n y]
      by_cases z : s0 < n
      · rw [if_pos z, if_pos (by omega), Int32.add_assoc, Int32.add_comm 1 (g n), ← Int32.add_assoc]
      · rw [if_neg z, if_neg (by omega)]
theorem SCT.w_again {p f nm ns s0 : Nat} {A B : SI} {JA : SJ} (h : SCT p f nm ns A JA B) (h8 : s0 < 8) : SCT p f nm ns (u2 (u2 A p 3 (A p 3 + 1)) (p + 3) s0 (A (p + 3) s0 + 1)) JA (u2 B 164 (8 * f + s0) (B 164 (8 * f + s0) + 1)) := by
  have eA : ∀ a c, ¬ (a = p ∧ c = 3) → ¬ (a = p + 3 ∧ c = s0) → u2 (u2 A p 3 (A p 3 + 1)) (p + 3) s0 (A (p + 3) s0 + 1) a c = A a c := fun a c z y => (u2_n _ _ y).trans (u2_n _ _ z)
  have eB : ∀ a c, ¬ (a = 164 ∧ c = 8 * f + s0) → u2 B 164 (8 * f + s0) (B 164 (8 * f + s0) + 1) a c = B a c := fun a c z => u2_n _ _ z
  obtain ⟨⟨h0, h1, h2, h4, h5, h6⟩, h3, hs, hw, hm, hq⟩ := h
  have up := sum_up (g := fun i => B 164 (8 * f + i)) (g' := fun i => u2 B 164 (8 * f + s0) (B 164 (8 * f + s0) + 1) 164 (8 * f + i)) (s0 := s0) (u2_s _ _ _ _) (fun i hi => eB _ _ (by omega)) 8
  refine ⟨⟨((eA _ _ (by omega) (by omega)).trans h0).trans (eB _ _ (by omega)).symm, ((eA _ _ (by omega) (by omega)).trans h1).trans (eB _ _ (by omega)).symm, ((eA _ _ (by omega) (by omega)).trans h2).trans (eB _ _ (by omega)).symm, ((eA _ _ (by omega) (by omega)).trans h4).trans (eB _ _ (by omega)).symm, ((eA _ _ (by omega) (by omega)).trans h5).trans (eB _ _ (by omega)).symm, h6.trans (congrArg Int32.toInt64 (eB _ _ (by omega)).symm)⟩, ?_, fun s z => ?_, fun s m z y => ?_, fun m z => ?_, fun q z => ?_⟩
  · rw [up, if_pos h8, u2_n _ _ (by omega), u2_s, h3]
  · obtain ⟨⟨k1, k2, k3⟩, k4⟩ := hs s z
    rw [eA (p + 1) s (by omega) (by omega), eA (p + 2) s (by omega) (by omega), eB 162 _ (by omega), eB 163 _ (by omega)]
    refine ⟨⟨k1, k2, ?_⟩, k4⟩
    by_cases y : s = s0
    · rw [y, u2_s, u2_s, ← y, k3]
    · rw [eA (p + 3) s (by omega) (by omega), eB 164 _ (by omega)]
      exact k3
  · rw [eA (p + 4) _ (by omega) (by omega), eB 165 _ (by omega)]; exact hw s m z y
  · rw [eA (p + 5) m (by omega) (by omega), eA (p + 6) m (by omega) (by omega), eB 160 _ (by omega), eB 161 _ (by omega)]; exact hm m z
  · rw [eA (p + 7) q (by omega) (by omega), eA (p + 8) q (by omega) (by omega), eB 166 _ (by omega), eB 167 _ (by omega)]; exact hq q z
