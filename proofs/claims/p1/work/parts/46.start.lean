/-! printed by wip/gen/gen_start.py: from the law's entry to its loop -/
def Z0 : SI := fun _ _ => 0
def ZJ : SJ := fun _ _ => 0
def ZR : SR := fun _ _ => none
theorem z_0 : Zr Z0 ZJ ZR 0 := fun _ _ _ => ⟨rfl, rfl, rfl⟩
def I1 : SI := KI_X11_init Z0 ZJ ZR
def J1 : SJ := KJ_X11_init Z0 ZJ ZR
def R1 : SR := KR_X11_init Z0 ZJ ZR
/-- the start: the class's places, the model's -/
def A0 : SI := (u2 (S17_X12_init I1 J1 R1) 130 69 (-1))
def B0 : SI := FI_X12_begins A0 J1
def R0 : SR := KR_X12_init I1 J1 R1
theorem inR_nI {i len : Nat} (h : i < len) (hl : len < 2 ^ 31) : inR (nI i) len := ⟨by rw [nI_clamp (Nat.lt_trans h hl)], by rw [nI_clamp (Nat.lt_trans h hl)]; exact h⟩
theorem inR_0 {c : Int32} {i len : Nat} (h : i < len) (hl : len < 2 ^ 31) : inR (c * 0 + nI i) len := by rw [Int32.mul_zero, Int32.zero_add]; exact inR_nI h hl
theorem h_begins (I : SI) (J : SJ) : H_X12_begins I J := by
  unfold H_X12_begins H_X12_starts
  and_intros
  all_goals first
    | exact ⟨rfl, by decide⟩
    | (intros; exact inR_0 (by omega) (by decide))
    | (intros; exact inR_nI (by omega) (by decide))
theorem ro_1 : RO (u2 (S24_X11_init Z0 ZJ ZR) 0 11 (some 128)) := by unfold RO; decide +kernel
theorem rm_1 : RM (u2 (S20_X12_init I1 J1 R1) 130 74 (some 177)) := by unfold RM; decide +kernel
theorem ro_0 : RO R0 := by unfold RO; decide +kernel
theorem rm_0 : RM R0 := by unfold RM; decide +kernel
theorem zr_1 : Zr I1 J1 R1 130 := z_X11_init ro_1 (Zr.up z_0)
theorem zr_2 : Zr (KI_X12_init I1 J1 R1) (KJ_X12_init I1 J1 R1) R0 178 := z_X12_init rm_1 (h_begins _ _) (Zr.up zr_1)
theorem i_0 : KI_X12_init I1 J1 R1 = mI A0 B0 := mI_m A0 B0 J1
theorem j_0 : KJ_X12_init I1 J1 R1 = mJ J1 J1 := mJ_m A0 J1 J1
set_option maxHeartbeats 4000000 in
set_option maxRecDepth 60000 in
theorem law_init {K : KT} {b : Nat} (ok : OK K mL_law 1000) (hcap : 179 ≤ K.2.2.2.1.cells ∧ 6901 ≤ K.2.2.2.1.slots) (kk : WL K b 179 6901 23 [(1, .ref 0), (2, .ref 130), (3, .ref 178), (4, .int (0))] [] (mI A0 B0) (mJ J1 J1) R0 179 0) : WL K b 0 0 0 [] [] Z0 ZJ ZR 0 0 := by
  refine q_new (ci := 11) (N := 12) ok dL_law_0 rfl cls11 s_0 (by decide) (iT_1 26 (by decide +kernel) (by decide +kernel)) (iT_1 27 (by decide +kernel) (by decide +kernel)) (iT_1 1 (by decide +kernel) (by decide +kernel)) z_0 ⟨Nat.le_trans (by omega) hcap.1, Nat.le_trans (by omega) hcap.2⟩ ?_
  refine q_dup ok dL_law_3 rfl ?_
  refine q_cI (As := []) (mc := 129) (ms := 3116) ok dL_law_4 iX11_init (lL_17 rfl) (k_X11_init ro_1 (Zr.up z_0)) (by decide) rfl (Nat.le_of_ble_eq_true rfl) ⟨Nat.le_trans (by omega) hcap.1, Nat.le_trans (by omega) hcap.2⟩ ?_
  refine q_astore_n ok dL_law_7 rfl (by decide) (by decide) rfl ?_
  refine q_new (ci := 12) (N := 75) ok dL_law_8 rfl cls12 s_130 (by decide) (iT_6 94 (by decide +kernel) (by decide +kernel)) (iT_6 95 (by decide +kernel) (by decide +kernel)) (iT_1 19 (by decide +kernel) (by decide +kernel)) zr_1 ⟨Nat.le_trans (by omega) hcap.1, Nat.le_trans (by omega) hcap.2⟩ ?_
  refine q_dup ok dL_law_11 rfl ?_
  refine q_cI (As := []) (mc := 47) (ms := 3697) ok dL_law_12 iX12_init (lL_20 rfl) (k_X12_init rm_1 (h_begins _ _) (Zr.up zr_1)) (by decide) rfl (Nat.le_of_ble_eq_true rfl) ⟨Nat.le_trans (by omega) hcap.1, Nat.le_trans (by omega) hcap.2⟩ ?_
  refine q_astore_n ok dL_law_15 rfl (by decide) (by decide) rfl ?_
  refine q_iconst (v := 1) ok dL_law_16 (by decide) ?_
  refine q_newL (len := 1) ok dL_law_17 rfl s_178 (by decide) (by decide) (by decide) (iT_1 109 (by decide +kernel) (by decide +kernel)) zr_2 ⟨Nat.le_trans (by omega) hcap.1, Nat.le_trans (by omega) hcap.2⟩ ?_
  refine q_astore_n ok dL_law_19 rfl (by decide) (by decide) rfl ?_
  refine q_iconst (v := 0) ok dL_law_20 (by decide) ?_
  refine q_istore ok dL_law_21 (by decide) (by decide) rfl ?_
  refine q_loc [3, 2, 1, 0] rfl ?_
  rw [← i_0, ← j_0] at kk
  exact kk
theorem head_lt {L k : Nat} (hL : L < 2 ^ 30) (hk : k < 2 ^ 30) : (nI L - 6 < nI k) ↔ L < k + 6 := by
  by_cases h : 6 ≤ L
  · have e : nI L - 6 = nI (L - 6) := by
      have e2 : nI L = nI (L - 6) + 6 := by
        rw [show (6 : Int32) = nI 6 from rfl, nI_add]
        congr 1
        omega
      rw [e2, Int32.add_sub_cancel]
    rw [e]
    constructor
    · intro hh
      by_cases q : L < k + 6
      · exact q
      · exact absurd hh (nI_nlt (by omega) (by omega))
    · intro hh
      exact nI_lt (by omega) (by omega)
  · refine ⟨fun _ => by omega, fun _ => ?_⟩
    have h0 : nI L - 6 < 0 := by
      rcases (show L = 0 ∨ L = 1 ∨ L = 2 ∨ L = 3 ∨ L = 4 ∨ L = 5 by omega) with rfl | rfl | rfl | rfl | rfl | rfl <;> decide
    exact Int32.lt_of_lt_of_le h0 (Int32.not_lt.mp (nI_pos (by omega)))
theorem law_head {K : KT} {b L k g cl sl : Nat} {xs : Nat → Int32} {I : SI} {J : SJ} {R : SR} {n : Nat} (ok : OK K mL_law 1000) (sc : Sc K b L xs) (hL : L < 2 ^ 30) (hk : k < 2 ^ 30) (h1 : k + 6 ≤ L → WL K b cl sl 33 [(1, .ref 0), (2, .ref 130), (3, .ref 178), (4, .int (nI k))] [] I J R n g) (h2 : L < k + 6 → WL K b cl sl 1417 [(1, .ref 0), (2, .ref 130), (3, .ref 178), (4, .int (nI k))] [] I J R n g) : WL K b cl sl 23 [(1, .ref 0), (2, .ref 130), (3, .ref 178), (4, .int (nI k))] [] I J R n g := by
  refine q_iload ok dL_law_23 3 rfl ?_
  refine q_slen ok sc dL_law_25 dL_law_26 ?_
  refine q_bipush (v := 6) ok dL_law_27 (by decide) ?_
  refine q_isub ok dL_law_29 ?_
  refine q_icmp_gt (tgt := 1417) ok dL_law_30 (by decide) (fun h => h2 ((head_lt hL hk).mp h)) (fun h => h1 ?_)
  exact Nat.le_of_not_lt (fun q => h ((head_lt hL hk).mpr q))
theorem law_next {K : KT} {b k g cl sl : Nat} {I : SI} {J : SJ} {R : SR} {n : Nat} (ok : OK K mL_law 1000) (kk : WL K b cl sl 23 [(1, .ref 0), (2, .ref 130), (3, .ref 178), (4, .int (nI (k + 6)))] [] I J R n g) : WL K b cl sl 1411 [(1, .ref 0), (2, .ref 130), (3, .ref 178), (4, .int (nI k))] [] I J R n g := by
  refine q_iinc (v := nI (k + 6)) ok dL_law_1411 3 rfl (by rw [← nI_add]; rfl) (by decide) (by decide) rfl ?_
  refine q_goto (tgt := 23) ok dL_law_1414 (by decide) ?_
  refine q_loc [1, 2, 3, 0] rfl ?_
  exact kk
def tmS (i : Nat) : Term := match i with
  | 0 => .string "GirlShots$Tokens" 39
  | 1 => .string "GirlShots" 137
  | 2 => .string "GirlShots" 165
  | _ => .string "GirlShotsModel" 212
set_option maxHeartbeats 4000000 in
set_option maxRecDepth 60000 in
theorem law_known {args : Array Value} {s : State} (hts : ∀ w ∈ lw_tbl, w.before args s = true) : ∃ (cy : Nat → ClassId) (D : va_G), va_K D vwCl (tysC cy) s := by
  obtain ⟨c0, i0, k0⟩ := u_known (C := RX0) (T := TX0) (N := 8) (n := 8) hts (fun w hw => allw_tbl (inC0 w hw)) (hts _ (mT_2 (i := 172) (by decide +kernel)))
  obtain ⟨c1, i1, k1⟩ := u_known (C := RX1) (T := TX1) (N := 5) (n := 5) hts (fun w hw => allw_tbl (inC1 w hw)) (hts _ (mT_1 (i := 86) (by decide +kernel)))
  obtain ⟨c2, i2, k2⟩ := u_known (C := RX2) (T := TX2) (N := 5) (n := 5) hts (fun w hw => allw_tbl (inC2 w hw)) (hts _ (mT_3 (i := 12) (by decide +kernel)))
  obtain ⟨c3, i3, k3⟩ := u_known (C := RX3) (T := TX3) (N := 4) (n := 4) hts (fun w hw => allw_tbl (inC3 w hw)) (hts _ (mT_3 (i := 36) (by decide +kernel)))
  obtain ⟨c4, i4, k4⟩ := u_known (C := RX4) (T := TX4) (N := 8) (n := 8) hts (fun w hw => allw_tbl (inC4 w hw)) (hts _ (mT_1 (i := 196) (by decide +kernel)))
  obtain ⟨c5, i5, k5⟩ := u_known (C := RX5) (T := TX5) (N := 15) (n := 15) hts (fun w hw => allw_tbl (inC5 w hw)) (hts _ (mT_2 (i := 85) (by decide +kernel)))
  obtain ⟨c6, i6, k6⟩ := u_known (C := RX6) (T := TX6) (N := 5) (n := 5) hts (fun w hw => allw_tbl (inC6 w hw)) (hts _ (mT_2 (i := 208) (by decide +kernel)))
  obtain ⟨c7, i7, k7⟩ := u_known (C := RX7) (T := TX7) (N := 6) (n := 6) hts (fun w hw => allw_tbl (inC7 w hw)) (hts _ (mT_1 (i := 41) (by decide +kernel)))
  obtain ⟨c8, i8, k8⟩ := u_known (C := RX8) (T := TX8) (N := 8) (n := 8) hts (fun w hw => allw_tbl (inC8 w hw)) (hts _ (mT_1 (i := 204) (by decide +kernel)))
  obtain ⟨c9, i9, k9⟩ := u_known (C := RX9) (T := TX9) (N := 15) (n := 15) hts (fun w hw => allw_tbl (inC9 w hw)) (hts _ (mT_1 (i := 35) (by decide +kernel)))
  obtain ⟨c10, i10, k10⟩ := u_known (C := RX10) (T := TX10) (N := 4) (n := 4) hts (fun w hw => allw_tbl (inC10 w hw)) (hts _ (mT_2 (i := 232) (by decide +kernel)))
  obtain ⟨c11, i11, k11⟩ := u_known (C := RX11) (T := TX11) (N := 12) (n := 12) hts (fun w hw => allw_tbl (inC11 w hw)) (hts _ (mT_1 (i := 27) (by decide +kernel)))
  obtain ⟨c12, i12, k12⟩ := u_known (C := RX12) (T := TX12) (N := 75) (n := 75) hts (fun w hw => allw_tbl (inC12 w hw)) (hts _ (mT_6 (i := 95) (by decide +kernel)))
  obtain ⟨a13, k13, p13, f13, g13, h13⟩ := Cond.arrayClass_spec (hts _ (mT_1 (i := 83) (by decide +kernel)))
  obtain ⟨a14, k14, p14, f14, g14, h14⟩ := Cond.arrayClass_spec (hts _ (mT_1 (i := 84) (by decide +kernel)))
  obtain ⟨a15, k15, p15, f15, g15, h15⟩ := Cond.arrayClass_spec (hts _ (mT_1 (i := 109) (by decide +kernel)))
  obtain ⟨a16, k16, p16, f16, g16, h16⟩ := Cond.arrayClass_spec (hts _ (mT_7 (i := 94) (by decide +kernel)))
  refine ⟨fun k => if k = 13 then a13 else if k = 14 then a14 else if k = 15 then a15 else a16, (fun k => if k = 0 then c0 else if k = 1 then c1 else if k = 2 then c2 else if k = 3 then c3 else if k = 4 then c4 else if k = 5 then c5 else if k = 6 then c6 else if k = 7 then c7 else if k = 8 then c8 else if k = 9 then c9 else if k = 10 then c10 else if k = 11 then c11 else c12, fun k => if k = 0 then i0 else if k = 1 then i1 else if k = 2 then i2 else if k = 3 then i3 else if k = 4 then i4 else if k = 5 then i5 else if k = 6 then i6 else if k = 7 then i7 else if k = 8 then i8 else if k = 9 then i9 else if k = 10 then i10 else if k = 11 then i11 else i12), ?_, ?_⟩
  · intro k q hq
    match k, hq with
    | 0, hq => cases hq; exact k0
    | 1, hq => cases hq; exact k1
    | 2, hq => cases hq; exact k2
    | 3, hq => cases hq; exact k3
    | 4, hq => cases hq; exact k4
    | 5, hq => cases hq; exact k5
    | 6, hq => cases hq; exact k6
    | 7, hq => cases hq; exact k7
    | 8, hq => cases hq; exact k8
    | 9, hq => cases hq; exact k9
    | 10, hq => cases hq; exact k10
    | 11, hq => cases hq; exact k11
    | 12, hq => cases hq; exact k12
    | k + 13, hq => simp [vwCl] at hq
  · intro k q hq
    match k, hq with
    | 0, hq => cases hq; exact ⟨fun n z => ⟨fun k h => (by cases h), k13, g13, p13, h13⟩, f13⟩
    | 1, hq => cases hq; exact ⟨fun n z => ⟨fun k h => (by cases h), k14, g14, p14, h14⟩, f14⟩
    | 2, hq => cases hq; exact ⟨fun n z => ⟨fun k h => (by cases h), k15, g15, p15, h15⟩, f15⟩
    | 3, hq => cases hq; exact ⟨fun n z => ⟨fun k h => (by cases h), k16, g16, p16, h16⟩, f16⟩
    | k + 4, hq => simp [tysC] at hq
set_option maxHeartbeats 4000000 in
set_option maxRecDepth 60000 in
theorem law_strings {args : Array Value} {s : State} (hts : ∀ w ∈ lw_tbl, w.before args s = true) (hgv : (Jvm.Cond.and given_1 narrow_1).before args s = true) : XS s.heap.size s s.heap ∧ EX s.heap.size s := by
  have hg := flat_of_before _ hgv
  have hA : ∀ a : Nat, a < s.heap.size → ¬ (fun q => s.heap.size ≤ q) a := fun a h => Nat.not_le.mpr h
  have gt : ∀ c : Cond, (flatC (Jvm.Cond.and given_1 narrow_1)).elem c = true → c.before args s = true := fun c h => hg c (List.elem_iff.mp h)
  have z1 : va_Zq "jdk/internal/util/Preconditions" "SIOOBE_FORMATTER" "Ljava/util/function/BiFunction;" (fun q => s.heap.size ≤ q) s s.heap := va_Zqof (hts _ (mT_1 (i := 235) (by decide +kernel))) (hts _ (mT_1 (i := 10) (by decide +kernel))) (gt _ (by decide +kernel)) hA
  have z2 : vx_Zq "java/lang/Throwable" "UNASSIGNED_STACK" "[Ljava/lang/StackTraceElement;" (fun q => s.heap.size ≤ q) s s.heap := vx_Zqof (hts _ (mT_6 (i := 38) (by decide +kernel))) (hts _ (mT_1 (i := 20) (by decide +kernel))) (gt _ (by decide +kernel)) hA
  have z3 : vx_Zq "java/lang/Throwable" "SUPPRESSED_SENTINEL" "Ljava/util/List;" (fun q => s.heap.size ≤ q) s s.heap := vx_Zqof (hts _ (mT_6 (i := 40) (by decide +kernel))) (hts _ (mT_1 (i := 20) (by decide +kernel))) (gt _ (by decide +kernel)) hA
  refine ⟨⟨?_, ?_, ?_⟩, z2, z3, fun w hw => ?_, va_Nc.of (gt _ (by decide +kernel))⟩
  · have hS : ∃ adK adV : Nat → Nat, vk_S 4 STL STB adK adV (fun q => s.heap.size ≤ q) s s.heap ∧ ∀ i : Nat, i < 4 → (tmS i).eval args s none [] s = some (.ref (adK i)) := by
      refine vk_Sof (tm := tmS) (fun i hi => Nat.lt_trans (stl_lt i hi) (by decide)) ?_ ?_ ?_ ?_ ?_ ?_ hA
      · have h : ∀ i, i < 4 → (flatC (Jvm.Cond.and given_1 narrow_1)).elem (Cond.exactly (tmS i) "java/lang/String") = true := by decide +kernel
        exact fun i hi => gt _ (h i hi)
      · have h : ∀ i, i < 4 → (flatC (Jvm.Cond.and given_1 narrow_1)).elem (Cond.eq (.field (tmS i) "java/lang/String" "coder" "B") (.int 0)) = true := by decide +kernel
        exact fun i hi => gt _ (h i hi)
      · have h : ∀ i, i < 4 → (flatC (Jvm.Cond.and given_1 narrow_1)).elem (Cond.arrayOf (.field (tmS i) "java/lang/String" "value" "[B") .byte) = true := by decide +kernel
        exact fun i hi => gt _ (h i hi)
      · have h : ∀ i, i < 4 → (flatC (Jvm.Cond.and given_1 narrow_1)).elem (Cond.eq (.length (.field (tmS i) "java/lang/String" "value" "[B")) (.int (Int32.ofNat (STL.getD i 0)))) = true := by decide +kernel
        exact fun i hi => gt _ (h i hi)
      · have h : ∀ i, i < 4 → ∀ j, j < STL.getD i 0 → (flatC (Jvm.Cond.and given_1 narrow_1)).elem (Cond.eq (.elem (.field (tmS i) "java/lang/String" "value" "[B") (.int (Int32.ofNat j))) (.int ((STB.getD i []).getD j 0))) = true := by decide +kernel
        exact fun i hi j hj => gt _ (h i hi j hj)
      · have h : ∀ i, i < 4 → ∀ j, j < 4 → i ≠ j → (flatC (Jvm.Cond.and given_1 narrow_1)).elem (Cond.not (Cond.eq (tmS i) (tmS j))) = true ∨ (flatC (Jvm.Cond.and given_1 narrow_1)).elem (Cond.not (Cond.eq (tmS j) (tmS i))) = true := by decide +kernel
        exact fun i j hi hj hij => (h i hi j hj hij).imp (gt _) (gt _)
    obtain ⟨adK, adV, h1, h2⟩ := hS
    refine ⟨adK, adV, h1, fun i q hq => ?_⟩
    match i, hq with
    | 0, hq => cases hq; exact vk_R.of (hts _ (mT_1 (i := 209) (by decide +kernel))) (h2 0 (by decide))
    | 1, hq => cases hq; exact vk_R.of (hts _ (mT_6 (i := 51) (by decide +kernel))) (h2 1 (by decide))
    | 2, hq => cases hq; exact vk_R.of (hts _ (mT_6 (i := 87) (by decide +kernel))) (h2 2 (by decide))
    | 3, hq => cases hq; exact vk_R.of (hts _ (mT_7 (i := 126) (by decide +kernel))) (h2 3 (by decide))
    | i + 4, hq => simp [STR] at hq
  · intro z hz
    rcases List.mem_cons.mp hz with rfl | hz
    · exact va_Zof (hts _ (mT_1 (i := 219) (by decide +kernel))) (hts _ (mT_1 (i := 8) (by decide +kernel))) (va_eqt (gt _ (by decide +kernel))) hA
    · exact nomatch hz
  · intro z hz
    rcases List.mem_cons.mp hz with rfl | hz
    · exact z1
    · rcases List.mem_cons.mp hz with rfl | hz
      · exact z2.1
      · rcases List.mem_cons.mp hz with rfl | hz
        · exact z3.1
        · exact nomatch hz
  · have hb : BX.all (fun w => lw_tbl.elem w) = true := by decide +kernel
    exact va_Nw.of (by have := bx_cd w hw; cases w <;> first | rfl | exact absurd this (by simp [isCD])) (hts w (List.elem_iff.mp (List.all_eq_true.mp hb w hw)))
theorem law_ok {p : Program} {e : Env} {s : State} {m : MethodId} {below : List Frame} {meth : Method} {c : Code} (l : Launch) {b L : Nat} {xs : Nat → Int32} (hL : L < 2 ^ 31) (C0 : lw_At p s m meth c b L xs) : ∃ (cy : Nat → ClassId) (D : va_G), OK (p, l, e, room_1, s, m, #[Value.ref b], below, meth, c, lw_Z below #[Value.ref b] s, cy, D, s.heap.size, 7) mL_law 1000 ∧ Sc (p, l, e, room_1, s, m, #[Value.ref b], below, meth, c, lw_Z below #[Value.ref b] s, cy, D, s.heap.size, 7) b L xs ∧ EX s.heap.size s := by
  obtain ⟨hx, hb, hr, hml, hown, hts, hX, hbl, hlocks, hgv⟩ := C0
  obtain ⟨cy, D, hK⟩ := law_known hts
  obtain ⟨hXS, hE⟩ := law_strings hts hgv
  refine ⟨cy, D, ⟨hx, hb, rfl, hml, fun w hw => hts w (allw_tbl hw), hown, hK, fun w hw => ?_, Nat.le_of_ble_eq_true rfl, Nat.le_of_ble_eq_true rfl, Nat.le_refl _, fun h => absurd h (by decide), hXS⟩, ⟨hX, hbl, rfl, hL⟩, hE⟩
  have h2 := List.mem_filter.mp hw
  exact va_Nw.of (by have := h2.2; cases w <;> first | rfl | exact absurd this (by simp [isNest])) (hts w h2.1)
theorem q_end {p : Program} {l : Launch} {e : Env} {s : State} {m : MethodId} {below : List Frame} {meth : Method} {c : Code} {b L : Nat} {xs : Nat → Int32} {cy : Nat → ClassId} {D : va_G} (C0 : lw_At p s m meth c b L xs) {cl sl n g : Nat} {ls : List (Nat × Value)} {I : SI} {J : SJ} {R : SR} : WL (p, l, e, room_1, s, m, #[Value.ref b], below, meth, c, lw_Z below #[Value.ref b] s, cy, D, s.heap.size, 7) b cl sl 1417 ls [] I J R n g := by
  obtain ⟨hx, hb, hr, hml, hown, hts, hX, hbl, hlocks, hgv⟩ := C0
  intro hc1 hc2 H locs rls hP hz hS hl
  refine va_forget (fun q hq => hS.2.2 q hq) ?_
  refine W.widen (k := 600002) (n := 7302232) hc1 hc2 ?_
  refine lv_iconst hx hb dL_law_1417.1 (v := 1) (by decide) ?_
  exact lw_ret hx hb hr hlocks dL_law_1418.1
theorem law_start {p : Program} {e : Env} {s : State} {m : MethodId} {below : List Frame} {meth : Method} {c : Code} (l : Launch) {b : Nat} {cy : Nat → ClassId} {D : va_G} (key : WL (p, l, e, room_1, s, m, #[Value.ref b], below, meth, c, lw_Z below #[Value.ref b] s, cy, D, s.heap.size, 7) b 0 0 0 [] [] Z0 ZJ ZR 0 0) : W p l e room_1 s m #[Value.ref b] below meth c s.heap [] 0 0 (lw_Z below #[Value.ref b] s) (entryFrame m ([Value.ref b] : List Value).toArray 7) := by
  have hl := lv_entry ([.ref b]) (n := 7) (Nat.le_of_ble_eq_true rfl)
  rw [lg_entry_eq]
  generalize (lg_sl ([.ref b]) ++ List.replicate (7 - (lg_sl ([.ref b])).length) Slot.unset).toArray = ls at hl ⊢
  exact key (Nat.zero_le _) (Nat.zero_le _) s.heap [] ls (fun k q h => by simp [wl] at h) rfl va_S.rf hl
