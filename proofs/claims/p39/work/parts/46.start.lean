/-! printed by wip/gen/gen_start.py: from the law's entry to its loop -/
def Z0 : SI := fun _ _ => 0
def ZJ : SJ := fun _ _ => 0
def ZR : SR := fun _ _ => none
theorem z_0 : Zr Z0 ZJ ZR 0 := fun _ _ _ => ⟨rfl, rfl, rfl⟩
def I1 : SI := KI_X11_init Z0 ZJ ZR
def J1 : SJ := KJ_X11_init Z0 ZJ ZR
def R1 : SR := KR_X11_init Z0 ZJ ZR
/-- the start: the class's places, the model's -/
def A0 : SI := (u2 (S17_X12_init I1 J1 R1) 130 69 (-1))
def B0 : SI := FI_X12_begins A0 J1
def R0 : SR := KR_X12_init I1 J1 R1
theorem h_begins (I : SI) (J : SJ) : H_X12_begins I J := by
  unfold H_X12_begins H_X12_starts
  refine ⟨⟨rfl, by decide⟩, fun i _ h _ => inR_0 (Nat.lt_of_lt_of_le h (by decide)) (by decide), fun i _ h _ _ => inR_nI (Nat.lt_of_lt_of_le h (by decide)) (by decide), fun i _ h _ => inR_nI (Nat.lt_of_lt_of_le h (by decide)) (by decide), fun i _ h _ => inR_0 (Nat.lt_of_lt_of_le h (by decide)) (by decide), fun i _ h _ => inR_0 (Nat.lt_of_lt_of_le h (by decide)) (by decide), fun i _ h _ _ => inR_nI (Nat.lt_of_lt_of_le h (by decide)) (by decide), fun i _ h _ => inR_0 (Nat.lt_of_lt_of_le h (by decide)) (by decide)⟩
theorem ro_1 : RO (u2 (S24_X11_init Z0 ZJ ZR) 0 11 (some 128)) := by unfold RO; decide +kernel
theorem rm_1 : RM (u2 (S20_X12_init I1 J1 R1) 130 74 (some 177)) := by unfold RM; decide +kernel
theorem ro_0 : RO R0 := by unfold RO; decide +kernel
theorem rm_0 : RM R0 := by unfold RM; decide +kernel
theorem zr_1 : Zr I1 J1 R1 130 := z_X11_init ro_1 (Zr.up z_0)
theorem zr_2 : Zr (KI_X12_init I1 J1 R1) (KJ_X12_init I1 J1 R1) R0 178 := z_X12_init rm_1 (h_begins _ _) (Zr.up zr_1)
theorem i_0 : KI_X12_init I1 J1 R1 = mI A0 B0 := mI_m A0 B0 J1
theorem j_0 : KJ_X12_init I1 J1 R1 = mJ J1 J1 := mJ_m A0 J1 J1
set_option maxHeartbeats 4000000 in
set_option maxRecDepth 60000 in
theorem law_init {K : KT} {b : Nat} (ok : OK K mL_law 1000) (hcap : 179 ≤ K.2.2.2.1.cells ∧ 6901 ≤ K.2.2.2.1.slots) (kk : WL K b 179 6901 23 [(1, .ref 0), (2, .ref 130), (3, .ref 178), (4, .int (0))] [] (mI A0 B0) (mJ J1 J1) R0 179 0) : WL K b 0 0 0 [] [] Z0 ZJ ZR 0 0 := by
  refine q_new (ci := 11) (N := 12) ok dL_law_0 rfl cls11 s_0 (by decide) (iT_1 26 (by decide +kernel) (by decide +kernel)) (iT_1 27 (by decide +kernel) (by decide +kernel)) (iT_1 1 (by decide +kernel) (by decide +kernel)) z_0 ⟨Nat.le_trans (by omega) hcap.1, Nat.le_trans (by omega) hcap.2⟩ ?_
  refine q_dup ok dL_law_3 rfl ?_
  refine q_cI (As := []) (mc := 129) (ms := 3116) ok dL_law_4 iX11_init (lL_17 rfl) (k_X11_init ro_1 (Zr.up z_0)) (by decide) rfl (Nat.le_of_ble_eq_true rfl) ⟨Nat.le_trans (by omega) hcap.1, Nat.le_trans (by omega) hcap.2⟩ ?_
  refine q_astore_n ok dL_law_7 rfl (by decide) (by decide) rfl ?_
  refine q_new (ci := 12) (N := 75) ok dL_law_8 rfl cls12 s_130 (by decide) (iT_6 94 (by decide +kernel) (by decide +kernel)) (iT_6 95 (by decide +kernel) (by decide +kernel)) (iT_1 19 (by decide +kernel) (by decide +kernel)) zr_1 ⟨Nat.le_trans (by omega) hcap.1, Nat.le_trans (by omega) hcap.2⟩ ?_
  refine q_dup ok dL_law_11 rfl ?_
  refine q_cI (As := []) (mc := 47) (ms := 3697) ok dL_law_12 iX12_init (lL_20 rfl) (k_X12_init rm_1 (h_begins _ _) (Zr.up zr_1)) (by decide) rfl (Nat.le_of_ble_eq_true rfl) ⟨Nat.le_trans (by omega) hcap.1, Nat.le_trans (by omega) hcap.2⟩ ?_
  refine q_astore_n ok dL_law_15 rfl (by decide) (by decide) rfl ?_
  refine q_iconst (v := 1) ok dL_law_16 (by decide) ?_
  refine q_newL (len := 1) ok dL_law_17 rfl s_178 (by decide) (by decide) (by decide) (iT_1 109 (by decide +kernel) (by decide +kernel)) zr_2 ⟨Nat.le_trans (by omega) hcap.1, Nat.le_trans (by omega) hcap.2⟩ ?_
  refine q_astore_n ok dL_law_19 rfl (by decide) (by decide) rfl ?_
  refine q_iconst (v := 0) ok dL_law_20 (by decide) ?_
  refine q_istore ok dL_law_21 (by decide) (by decide) rfl ?_
  refine q_loc [3, 2, 1, 0] rfl ?_
  rw [← i_0, ← j_0] at kk
  exact kk
theorem head_lt {L k : Nat} (hL : L < 2 ^ 30) (hk : k < 2 ^ 30) : (nI L - 6 < nI k) ↔ L < k + 6 := by
  by_cases h : 6 ≤ L
  · have e : nI L - 6 = nI (L - 6) := by
      have e2 : nI L = nI (L - 6) + 6 := by
        rw [show (6 : Int32) = nI 6 from rfl, nI_add]
        congr 1
        omega
      rw [e2, Int32.add_sub_cancel]
    rw [e]
    constructor
    · intro hh
      by_cases q : L < k + 6
      · exact q
      · exact absurd hh (nI_nlt (by omega) (by omega))
    · intro hh
      exact nI_lt (by omega) (by omega)
  · refine ⟨fun _ => by omega, fun _ => ?_⟩
    have h0 : nI L - 6 < 0 := by
      rcases (show L = 0 ∨ L = 1 ∨ L = 2 ∨ L = 3 ∨ L = 4 ∨ L = 5 by omega) with rfl | rfl | rfl | rfl | rfl | rfl <;> decide
    exact Int32.lt_of_lt_of_le h0 (Int32.not_lt.mp (nI_pos (by omega)))
theorem law_head {K : KT} {b L k g cl sl : Nat} {xs : Nat → Int32} {I : SI} {J : SJ} {R : SR} {n : Nat} (ok : OK K mL_law 1000) (sc : Sc K b L xs) (hL : L < 2 ^ 30) (hk : k < 2 ^ 30) (h1 : k + 6 ≤ L → WL K b cl sl 33 [(1, .ref 0), (2, .ref 130), (3, .ref 178), (4, .int (nI k))] [] I J R n g) (h2 : L < k + 6 → WL K b cl sl 1387 [(1, .ref 0), (2, .ref 130), (3, .ref 178), (4, .int (nI k))] [] I J R n g) : WL K b cl sl 23 [(1, .ref 0), (2, .ref 130), (3, .ref 178), (4, .int (nI k))] [] I J R n g := by
  refine q_iload ok dL_law_23 3 rfl ?_
  refine q_slen ok sc dL_law_25 dL_law_26 ?_
  refine q_bipush (v := 6) ok dL_law_27 (by decide) ?_
  refine q_isub ok dL_law_29 ?_
  refine q_icmp_gt (tgt := 1387) ok dL_law_30 (by decide) (fun h => h2 ((head_lt hL hk).mp h)) (fun h => h1 ?_)
  exact Nat.le_of_not_lt (fun q => h ((head_lt hL hk).mpr q))
theorem law_next {K : KT} {b k g cl sl : Nat} {I : SI} {J : SJ} {R : SR} {n : Nat} (ok : OK K mL_law 1000) (kk : WL K b cl sl 23 [(1, .ref 0), (2, .ref 130), (3, .ref 178), (4, .int (nI (k + 6)))] [] I J R n g) : WL K b cl sl 1381 [(1, .ref 0), (2, .ref 130), (3, .ref 178), (4, .int (nI k))] [] I J R n g := by
  refine q_iinc (v := nI (k + 6)) ok dL_law_1381 3 rfl (by rw [← nI_add]; rfl) (by decide) (by decide) rfl ?_
  refine q_goto (tgt := 23) ok dL_law_1384 (by decide) ?_
  refine q_loc [1, 2, 3, 0] rfl ?_
  exact kk
def tmS (i : Nat) : Term := match i with
  | 0 => .string "GirlShots$Tokens" 39
  | 1 => .string "GirlShots" 137
  | 2 => .string "GirlShots" 165
  | _ => .string "GirlShotsModel" 212
set_option maxHeartbeats 4000000 in
set_option maxRecDepth 60000 in
theorem law_known {args : Array Value} {s : State} (hts : ∀ w ∈ lw_tbl, w.before args s = true) : ∃ (cy : Nat → ClassId) (D : va_G), va_K D vwCl (tysC cy) s := by
  obtain ⟨c0, i0, k0⟩ := u_known (C := RX0) (T := TX0) (N := 8) (n := 8) hts (fun w hw => allw_tbl (inC0 w hw)) (hts _ (mT_2 (i := 172) (by decide +kernel)))
  obtain ⟨c1, i1, k1⟩ := u_known (C := RX1) (T := TX1) (N := 5) (n := 5) hts (fun w hw => allw_tbl (inC1 w hw)) (hts _ (mT_1 (i := 86) (by decide +kernel)))
  obtain ⟨c2, i2, k2⟩ := u_known (C := RX2) (T := TX2) (N := 5) (n := 5) hts (fun w hw => allw_tbl (inC2 w hw)) (hts _ (mT_3 (i := 12) (by decide +kernel)))
  obtain ⟨c3, i3, k3⟩ := u_known (C := RX3) (T := TX3) (N := 4) (n := 4) hts (fun w hw => allw_tbl (inC3 w hw)) (hts _ (mT_3 (i := 36) (by decide +kernel)))
  obtain ⟨c4, i4, k4⟩ := u_known (C := RX4) (T := TX4) (N := 8) (n := 8) hts (fun w hw => allw_tbl (inC4 w hw)) (hts _ (mT_1 (i := 196) (by decide +kernel)))
  obtain ⟨c5, i5, k5⟩ := u_known (C := RX5) (T := TX5) (N := 15) (n := 15) hts (fun w hw => allw_tbl (inC5 w hw)) (hts _ (mT_2 (i := 85) (by decide +kernel)))
  obtain ⟨c6, i6, k6⟩ := u_known (C := RX6) (T := TX6) (N := 5) (n := 5) hts (fun w hw => allw_tbl (inC6 w hw)) (hts _ (mT_2 (i := 208) (by decide +kernel)))
  obtain ⟨c7, i7, k7⟩ := u_known (C := RX7) (T := TX7) (N := 6) (n := 6) hts (fun w hw => allw_tbl (inC7 w hw)) (hts _ (mT_1 (i := 41) (by decide +kernel)))
  obtain ⟨c8, i8, k8⟩ := u_known (C := RX8) (T := TX8) (N := 8) (n := 8) hts (fun w hw => allw_tbl (inC8 w hw)) (hts _ (mT_1 (i := 204) (by decide +kernel)))
  obtain ⟨c9, i9, k9⟩ := u_known (C := RX9) (T := TX9) (N := 15) (n := 15) hts (fun w hw => allw_tbl (inC9 w hw)) (hts _ (mT_1 (i := 35) (by decide +kernel)))
  obtain ⟨c10, i10, k10⟩ := u_known (C := RX10) (T := TX10) (N := 4) (n := 4) hts (fun w hw => allw_tbl (inC10 w hw)) (hts _ (mT_2 (i := 232) (by decide +kernel)))
  obtain ⟨c11, i11, k11⟩ := u_known (C := RX11) (T := TX11) (N := 12) (n := 12) hts (fun w hw => allw_tbl (inC11 w hw)) (hts _ (mT_1 (i := 27) (by decide +kernel)))
  obtain ⟨c12, i12, k12⟩ := u_known (C := RX12) (T := TX12) (N := 75) (n := 75) hts (fun w hw => allw_tbl (inC12 w hw)) (hts _ (mT_6 (i := 95) (by decide +kernel)))
  obtain ⟨a13, k13, p13, f13, g13, h13⟩ := Cond.arrayClass_spec (hts (Cond.arrayClass .byte) (mT_1 (i := 83) (by decide +kernel)))
  obtain ⟨a14, k14, p14, f14, g14, h14⟩ := Cond.arrayClass_spec (hts (Cond.arrayClass .int) (mT_1 (i := 84) (by decide +kernel)))
  obtain ⟨a15, k15, p15, f15, g15, h15⟩ := Cond.arrayClass_spec (hts (Cond.arrayClass .long) (mT_1 (i := 109) (by decide +kernel)))
  obtain ⟨a16, k16, p16, f16, g16, h16⟩ := Cond.arrayClass_spec (hts (Cond.arrayClass .boolean) (mT_7 (i := 94) (by decide +kernel)))
  refine ⟨fun k => if k = 13 then a13 else if k = 14 then a14 else if k = 15 then a15 else a16, (fun k => if k = 0 then c0 else if k = 1 then c1 else if k = 2 then c2 else if k = 3 then c3 else if k = 4 then c4 else if k = 5 then c5 else if k = 6 then c6 else if k = 7 then c7 else if k = 8 then c8 else if k = 9 then c9 else if k = 10 then c10 else if k = 11 then c11 else c12, fun k => if k = 0 then i0 else if k = 1 then i1 else if k = 2 then i2 else if k = 3 then i3 else if k = 4 then i4 else if k = 5 then i5 else if k = 6 then i6 else if k = 7 then i7 else if k = 8 then i8 else if k = 9 then i9 else if k = 10 then i10 else if k = 11 then i11 else i12), ?_, ?_⟩
  · intro k q hq
    match k, hq with
    | 0, hq => cases hq; exact k0
    | 1, hq => cases hq; exact k1
    | 2, hq => cases hq; exact k2
    | 3, hq => cases hq; exact k3
    | 4, hq => cases hq; exact k4
    | 5, hq => cases hq; exact k5
    | 6, hq => cases hq; exact k6
    | 7, hq => cases hq; exact k7
    | 8, hq => cases hq; exact k8
    | 9, hq => cases hq; exact k9
    | 10, hq => cases hq; exact k10
    | 11, hq => cases hq; exact k11
    | 12, hq => cases hq; exact k12
    | k + 13, hq => simp [vwCl] at hq
  · intro k q hq
    match k, hq with
    | 0, hq => cases hq; exact ⟨fun n z => ⟨fun k h => (by cases h), k13, g13, p13, h13⟩, f13⟩
    | 1, hq => cases hq; exact ⟨fun n z => ⟨fun k h => (by cases h), k14, g14, p14, h14⟩, f14⟩
    | 2, hq => cases hq; exact ⟨fun n z => ⟨fun k h => (by cases h), k15, g15, p15, h15⟩, f15⟩
    | 3, hq => cases hq; exact ⟨fun n z => ⟨fun k h => (by cases h), k16, g16, p16, h16⟩, f16⟩
    | k + 4, hq => simp [tysC] at hq
def FLX : List Cond := flatC (Jvm.Cond.and given_1 narrow_1)
def CDW : List Cond := (tables_1_6.drop 13).take 7 ++ (tables_1_6.drop 80).take 1 ++ (tables_1_9.drop 83).take 17
theorem cdw_in {w : Cond} (h : w ∈ CDW) : w ∈ lw_tbl := by
  unfold CDW at h
  simp only [List.mem_append] at h
  rcases h with (h | h) | h
  · exact (List.getElem?_of_mem (List.mem_of_mem_drop (List.mem_of_mem_take h))).elim fun _ q => mT_6 q
  · exact (List.getElem?_of_mem (List.mem_of_mem_drop (List.mem_of_mem_take h))).elim fun _ q => mT_6 q
  · exact (List.getElem?_of_mem (List.mem_of_mem_drop (List.mem_of_mem_take h))).elim fun _ q => mT_9 q
theorem el_of {l : List Cond} {o n : Nat} {f : Nat → Cond} (h : (l.drop o).take n = (List.range n).map f) {j : Nat} (hj : j < n) : f j ∈ l := List.mem_of_mem_drop (List.mem_of_mem_take (by rw [h]; exact List.mem_map_of_mem (List.mem_range.mpr hj)))
theorem fl_e0 : (FLX.drop 43).take 138 = (List.range 138).map (fun j => Cond.eq (.elem (.field (tmS 0) "java/lang/String" "value" "[B") (.int (Int32.ofNat j))) (.int ((STB.getD 0 []).getD j 0))) := by decide +kernel
theorem fl_e1 : (FLX.drop 185).take 12 = (List.range 12).map (fun j => Cond.eq (.elem (.field (tmS 1) "java/lang/String" "value" "[B") (.int (Int32.ofNat j))) (.int ((STB.getD 1 []).getD j 0))) := by decide +kernel
theorem fl_e2 : (FLX.drop 202).take 12 = (List.range 12).map (fun j => Cond.eq (.elem (.field (tmS 2) "java/lang/String" "value" "[B") (.int (Int32.ofNat j))) (.int ((STB.getD 2 []).getD j 0))) := by decide +kernel
theorem fl_e3 : (FLX.drop 220).take 118 = (List.range 118).map (fun j => Cond.eq (.elem (.field (tmS 3) "java/lang/String" "value" "[B") (.int (Int32.ofNat j))) (.int ((STB.getD 3 []).getD j 0))) := by decide +kernel
theorem fl_s0 : FLX[39]? = some (Cond.exactly (tmS 0) "java/lang/String") ∧ FLX[40]? = some (Cond.eq (.field (tmS 0) "java/lang/String" "coder" "B") (.int 0)) ∧ FLX[41]? = some (Cond.arrayOf (.field (tmS 0) "java/lang/String" "value" "[B") .byte) ∧ FLX[42]? = some (Cond.eq (.length (.field (tmS 0) "java/lang/String" "value" "[B")) (.int (Int32.ofNat (STL.getD 0 0)))) := by decide +kernel
theorem fl_s1 : FLX[181]? = some (Cond.exactly (tmS 1) "java/lang/String") ∧ FLX[182]? = some (Cond.eq (.field (tmS 1) "java/lang/String" "coder" "B") (.int 0)) ∧ FLX[183]? = some (Cond.arrayOf (.field (tmS 1) "java/lang/String" "value" "[B") .byte) ∧ FLX[184]? = some (Cond.eq (.length (.field (tmS 1) "java/lang/String" "value" "[B")) (.int (Int32.ofNat (STL.getD 1 0)))) := by decide +kernel
theorem fl_s2 : FLX[198]? = some (Cond.exactly (tmS 2) "java/lang/String") ∧ FLX[199]? = some (Cond.eq (.field (tmS 2) "java/lang/String" "coder" "B") (.int 0)) ∧ FLX[200]? = some (Cond.arrayOf (.field (tmS 2) "java/lang/String" "value" "[B") .byte) ∧ FLX[201]? = some (Cond.eq (.length (.field (tmS 2) "java/lang/String" "value" "[B")) (.int (Int32.ofNat (STL.getD 2 0)))) := by decide +kernel
theorem fl_s3 : FLX[216]? = some (Cond.exactly (tmS 3) "java/lang/String") ∧ FLX[217]? = some (Cond.eq (.field (tmS 3) "java/lang/String" "coder" "B") (.int 0)) ∧ FLX[218]? = some (Cond.arrayOf (.field (tmS 3) "java/lang/String" "value" "[B") .byte) ∧ FLX[219]? = some (Cond.eq (.length (.field (tmS 3) "java/lang/String" "value" "[B")) (.int (Int32.ofNat (STL.getD 3 0)))) := by decide +kernel
theorem fl_n01 : FLX[197]? = some (Cond.not (Cond.eq (tmS 0) (tmS 1))) := by decide +kernel
theorem fl_n02 : FLX[214]? = some (Cond.not (Cond.eq (tmS 0) (tmS 2))) := by decide +kernel
theorem fl_n03 : FLX[338]? = some (Cond.not (Cond.eq (tmS 0) (tmS 3))) := by decide +kernel
theorem fl_n12 : FLX[215]? = some (Cond.not (Cond.eq (tmS 1) (tmS 2))) := by decide +kernel
theorem fl_n13 : FLX[339]? = some (Cond.not (Cond.eq (tmS 1) (tmS 3))) := by decide +kernel
theorem fl_n23 : FLX[340]? = some (Cond.not (Cond.eq (tmS 2) (tmS 3))) := by decide +kernel
theorem fl_cs : FLX[4]? = some (Cond.eq (.static "java/lang/String" "COMPACT_STRINGS" "Z") (.int 1)) := by decide +kernel
theorem fl_z0 : FLX[5]? = some (Cond.isRef (.static "jdk/internal/util/Preconditions" "SIOOBE_FORMATTER" "Ljava/util/function/BiFunction;")) := by decide +kernel
theorem fl_z1 : FLX[9]? = some (Cond.isRef (.static "java/lang/Throwable" "UNASSIGNED_STACK" "[Ljava/lang/StackTraceElement;")) := by decide +kernel
theorem fl_z2 : FLX[10]? = some (Cond.isRef (.static "java/lang/Throwable" "SUPPRESSED_SENTINEL" "Ljava/util/List;")) := by decide +kernel
theorem fl_nc : FLX[24]? = some (Cond.not (Cond.castable "java/util/NoSuchElementException" "java/lang/IndexOutOfBoundsException")) := by decide +kernel
theorem bx_in : BX.all (fun w => CDW.elem w) = true := by decide +kernel
set_option maxHeartbeats 4000000 in
set_option maxRecDepth 60000 in
theorem law_strings {args : Array Value} {s : State} (hts : ∀ w ∈ lw_tbl, w.before args s = true) (hgv : (Jvm.Cond.and given_1 narrow_1).before args s = true) : XS s.heap.size s s.heap ∧ EX s.heap.size s := by
  have hg : ∀ c ∈ FLX, c.before args s = true := flat_of_before _ hgv
  have hA : ∀ a : Nat, a < s.heap.size → ¬ (fun q => s.heap.size ≤ q) a := fun a h => Nat.not_le.mpr h
  have gi : ∀ {i : Nat} {c : Cond}, FLX[i]? = some c → c.before args s = true := fun h => hg _ (List.mem_of_getElem? h)
  have z1 : va_Zq "jdk/internal/util/Preconditions" "SIOOBE_FORMATTER" "Ljava/util/function/BiFunction;" (fun q => s.heap.size ≤ q) s s.heap := va_Zqof (hts _ (mT_1 (i := 235) (by decide +kernel))) (hts _ (mT_1 (i := 10) (by decide +kernel))) (gi fl_z0) hA
  have z2 : vx_Zq "java/lang/Throwable" "UNASSIGNED_STACK" "[Ljava/lang/StackTraceElement;" (fun q => s.heap.size ≤ q) s s.heap := vx_Zqof (hts _ (mT_6 (i := 38) (by decide +kernel))) (hts _ (mT_1 (i := 20) (by decide +kernel))) (gi fl_z1) hA
  have z3 : vx_Zq "java/lang/Throwable" "SUPPRESSED_SENTINEL" "Ljava/util/List;" (fun q => s.heap.size ≤ q) s s.heap := vx_Zqof (hts _ (mT_6 (i := 40) (by decide +kernel))) (hts _ (mT_1 (i := 20) (by decide +kernel))) (gi fl_z2) hA
  have nq : ∀ i j : Nat, i < j → j < 4 → (Cond.not (Cond.eq (tmS i) (tmS j))).before args s = true := by
    intro i j h1 h2
    rcases (show (i = 0 ∧ j = 1) ∨ (i = 0 ∧ j = 2) ∨ (i = 0 ∧ j = 3) ∨ (i = 1 ∧ j = 2) ∨ (i = 1 ∧ j = 3) ∨ (i = 2 ∧ j = 3) by omega) with ⟨rfl, rfl⟩ | ⟨rfl, rfl⟩ | ⟨rfl, rfl⟩ | ⟨rfl, rfl⟩ | ⟨rfl, rfl⟩ | ⟨rfl, rfl⟩
    · exact gi fl_n01
    · exact gi fl_n02
    · exact gi fl_n03
    · exact gi fl_n12
    · exact gi fl_n13
    · exact gi fl_n23
  refine ⟨⟨?_, ?_, ?_⟩, z2, z3, fun w hw => ?_, va_Nc.of (gi fl_nc)⟩
  · have hS : ∃ adK adV : Nat → Nat, vk_S 4 STL STB adK adV (fun q => s.heap.size ≤ q) s s.heap ∧ ∀ i : Nat, i < 4 → (tmS i).eval args s none [] s = some (.ref (adK i)) := by
      refine vk_Sof (tm := tmS) (fun i hi => Nat.lt_trans (stl_lt i hi) (by decide)) (fun i hi => ?_) (fun i hi => ?_) (fun i hi => ?_) (fun i hi => ?_) (fun i hi j hj => ?_) (fun i j hi hj hij => ?_) hA
      · exact match i, hi with
          | 0, _ => gi fl_s0.1
          | 1, _ => gi fl_s1.1
          | 2, _ => gi fl_s2.1
          | 3, _ => gi fl_s3.1
          | _ + 4, h => absurd h (by omega)
      · exact match i, hi with
          | 0, _ => gi fl_s0.2.1
          | 1, _ => gi fl_s1.2.1
          | 2, _ => gi fl_s2.2.1
          | 3, _ => gi fl_s3.2.1
          | _ + 4, h => absurd h (by omega)
      · exact match i, hi with
          | 0, _ => gi fl_s0.2.2.1
          | 1, _ => gi fl_s1.2.2.1
          | 2, _ => gi fl_s2.2.2.1
          | 3, _ => gi fl_s3.2.2.1
          | _ + 4, h => absurd h (by omega)
      · exact match i, hi with
          | 0, _ => gi fl_s0.2.2.2
          | 1, _ => gi fl_s1.2.2.2
          | 2, _ => gi fl_s2.2.2.2
          | 3, _ => gi fl_s3.2.2.2
          | _ + 4, h => absurd h (by omega)
      · exact match i, hi, hj with
          | 0, _, hj => hg _ (el_of fl_e0 hj)
          | 1, _, hj => hg _ (el_of fl_e1 hj)
          | 2, _, hj => hg _ (el_of fl_e2 hj)
          | 3, _, hj => hg _ (el_of fl_e3 hj)
          | _ + 4, h, _ => absurd h (by omega)
      · rcases Nat.lt_or_gt_of_ne hij with h | h
        · exact Or.inl (nq i j h hj)
        · exact Or.inr (nq j i h hi)
    obtain ⟨adK, adV, h1, h2⟩ := hS
    refine ⟨adK, adV, h1, fun i q hq => ?_⟩
    match i, hq with
    | 0, hq => cases hq; exact vk_R.of (hts _ (mT_1 (i := 209) (by decide +kernel))) (h2 0 (by decide))
    | 1, hq => cases hq; exact vk_R.of (hts _ (mT_6 (i := 51) (by decide +kernel))) (h2 1 (by decide))
    | 2, hq => cases hq; exact vk_R.of (hts _ (mT_6 (i := 87) (by decide +kernel))) (h2 2 (by decide))
    | 3, hq => cases hq; exact vk_R.of (hts _ (mT_7 (i := 122) (by decide +kernel))) (h2 3 (by decide))
    | i + 4, hq => simp [STR] at hq
  · intro z hz
    rcases List.mem_cons.mp hz with rfl | hz
    · exact va_Zof (hts _ (mT_1 (i := 219) (by decide +kernel))) (hts _ (mT_1 (i := 8) (by decide +kernel))) (va_eqt (gi fl_cs)) hA
    · exact nomatch hz
  · intro z hz
    rcases List.mem_cons.mp hz with rfl | hz
    · exact z1
    · rcases List.mem_cons.mp hz with rfl | hz
      · exact z2.1
      · rcases List.mem_cons.mp hz with rfl | hz
        · exact z3.1
        · exact nomatch hz
  · exact va_Nw.of (by have := bx_cd w hw; cases w <;> first | rfl | exact absurd this (by simp [isCD])) (hts w (cdw_in (List.elem_iff.mp (List.all_eq_true.mp bx_in w hw))))
theorem law_ok {p : Program} {e : Env} {s : State} {m : MethodId} {below : List Frame} {meth : Method} {c : Code} (l : Launch) {b L : Nat} {xs : Nat → Int32} (hL : L < 2 ^ 31) (C0 : lw_At p s m meth c b L xs) : ∃ (cy : Nat → ClassId) (D : va_G), OK (p, l, e, room_1, s, m, #[Value.ref b], below, meth, c, lw_Z below #[Value.ref b] s, cy, D, s.heap.size, 7) mL_law 1000 ∧ Sc (p, l, e, room_1, s, m, #[Value.ref b], below, meth, c, lw_Z below #[Value.ref b] s, cy, D, s.heap.size, 7) b L xs ∧ EX s.heap.size s := by
  obtain ⟨hx, hb, hr, hml, hown, hts, hX, hbl, hlocks, hgv⟩ := C0
  obtain ⟨cy, D, hK⟩ := law_known hts
  obtain ⟨hXS, hE⟩ := law_strings hts hgv
  refine ⟨cy, D, ⟨hx, hb, rfl, hml, fun w hw => hts w (allw_tbl hw), hown, hK, fun w hw => ?_, Nat.le_of_ble_eq_true rfl, Nat.le_of_ble_eq_true rfl, Nat.le_refl _, fun h => absurd h (by decide), hXS⟩, ⟨hX, hbl, rfl, hL⟩, hE⟩
  have h2 := List.mem_filter.mp hw
  exact va_Nw.of (by have := h2.2; cases w <;> first | rfl | exact absurd this (by simp [isNest])) (hts w h2.1)
theorem q_end {p : Program} {l : Launch} {e : Env} {s : State} {m : MethodId} {below : List Frame} {meth : Method} {c : Code} {b L : Nat} {xs : Nat → Int32} {cy : Nat → ClassId} {D : va_G} (C0 : lw_At p s m meth c b L xs) {cl sl n g : Nat} {ls : List (Nat × Value)} {I : SI} {J : SJ} {R : SR} : WL (p, l, e, room_1, s, m, #[Value.ref b], below, meth, c, lw_Z below #[Value.ref b] s, cy, D, s.heap.size, 7) b cl sl 1387 ls [] I J R n g := by
  obtain ⟨hx, hb, hr, hml, hown, hts, hX, hbl, hlocks, hgv⟩ := C0
  intro hc1 hc2 H locs rls hP hz hS hl
  refine va_forget (fun q hq => hS.2.2 q hq) ?_
  refine W.widen (k := 601024) (n := 7293034) hc1 hc2 ?_
  refine lv_iconst hx hb dL_law_1387.1 (v := 1) (by decide) ?_
  exact lw_ret hx hb hr hlocks dL_law_1388.1
theorem law_start {p : Program} {e : Env} {s : State} {m : MethodId} {below : List Frame} {meth : Method} {c : Code} (l : Launch) {b : Nat} {cy : Nat → ClassId} {D : va_G} (key : WL (p, l, e, room_1, s, m, #[Value.ref b], below, meth, c, lw_Z below #[Value.ref b] s, cy, D, s.heap.size, 7) b 0 0 0 [] [] Z0 ZJ ZR 0 0) : W p l e room_1 s m #[Value.ref b] below meth c s.heap [] 0 0 (lw_Z below #[Value.ref b] s) (entryFrame m ([Value.ref b] : List Value).toArray 7) := by
  have hl := lv_entry ([.ref b]) (n := 7) (Nat.le_of_ble_eq_true rfl)
  rw [lg_entry_eq]
  generalize (lg_sl ([.ref b]) ++ List.replicate (7 - (lg_sl ([.ref b])).length) Slot.unset).toArray = ls at hl ⊢
  exact key (Nat.zero_le _) (Nat.zero_le _) s.heap [] ls (fun k q h => by simp [wl] at h) rfl va_S.rf hl
