/-! printed by wip/gen/gen_start.py: one round of the law -/
theorem q_loc {K : KT} {b cl sl pc : Nat} {ls lv : List (Nat × Value)} {st : List Value} {I : SI} {J : SJ} {R : SR} {n g : Nat} (ks : List Nat) (h : lv_pick ls ks = lv) (kk : WL K b cl sl pc lv st I J R n g) : WL K b cl sl pc ls st I J R n g := by
  obtain ⟨p, l, e, Rm, s, m, args, below, meth, c, Q, cy, D, base, nL⟩ := K
  intro hc1 hc2 H locs rls hP hz hS hl
  refine kk hc1 hc2 H locs rls hP hz hS ⟨hl.1, hl.2.1, fun q hq => ?_⟩
  rcases List.mem_cons.mp hq with rfl | hq
  · exact hl.2.2 _ List.mem_cons_self
  · rw [← h, ← pick_map] at hq
    obtain ⟨k, -, hk⟩ := List.mem_filterMap.mp hq
    exact hl.2.2 q (List.mem_cons_of_mem _ (List.mem_of_getElem? hk))
set_option maxHeartbeats 4000000 in
set_option maxRecDepth 60000 in
theorem law_c4 {K : KT} {b L k g cl sl : Nat} {xs : Nat → Int32} {A B : SI} {JA JB : SJ} {R : SR} (ok : OK K mL_law 1000) (sc : Sc K b L xs) (ro : RO R) (rm : RM R) (hk6 : k + 5 < L) (kl : Kl9 K) (hE : EX (Kb K) (Ks K)) (hcap : cl + 1 ≤ K.2.2.2.1.cells ∧ sl + 6 ≤ K.2.2.2.1.slots) (hm0 : H_X12_mark (xs (k + 1)) (xs (k + 2)) B ((if G_X11_mark (xs (k + 1)) (xs (k + 2)) A JA = 0 then u2 JB 178 0 (F_X11_mark (xs (k + 1)) (xs (k + 2)) A JA).toInt64 else JB))) (kk : ∀ g' : Nat, WL K b (cl + 1) (sl + 6) 1381 [(1, .ref 0), (2, .ref 130), (3, .ref 178), (4, .int (nI k))] [] (mI A (FI_X12_mark (xs (k + 1)) (xs (k + 2)) B ((if G_X11_mark (xs (k + 1)) (xs (k + 2)) A JA = 0 then u2 JB 178 0 (F_X11_mark (xs (k + 1)) (xs (k + 2)) A JA).toInt64 else JB)))) (mJ JA ((if G_X11_mark (xs (k + 1)) (xs (k + 2)) A JA = 0 then u2 JB 178 0 (F_X11_mark (xs (k + 1)) (xs (k + 2)) A JA).toInt64 else JB))) R 179 g') : WL K b cl sl 368 [(1, .ref 0), (2, .ref 130), (3, .ref 178), (4, .int (nI k))] [] (mI A B) (mJ JA JB) R 179 g := by
  refine q_aload_n ok dL_law_368 0 rfl ?_
  refine q_sc (j := 1) ok sc dL_law_369 dL_law_370 dL_law_372 (by decide) dL_law_373 dL_law_374 3 rfl (by omega) ?_
  refine q_sc (j := 2) ok sc dL_law_375 dL_law_376 dL_law_378 (by decide) dL_law_379 dL_law_380 3 rfl (by omega) ?_
  refine q_aload_n ok dL_law_381 2 rfl ?_
  refine q_mark ok kl hE dL_law_382 rfl (iT_6 2 (by decide +kernel) (by decide +kernel)) ro (by decide) (by decide) (by decide) (Nat.le_of_ble_eq_true rfl) hcap (fun g' => ?_)
  refine q_istore ok dL_law_385 (by decide) (by decide) rfl ?_
  refine q_aload_n ok dL_law_387 2 rfl ?_
  refine q_sc (j := 1) ok sc dL_law_388 dL_law_389 dL_law_391 (by decide) dL_law_392 dL_law_393 4 rfl (by omega) ?_
  refine q_sc (j := 2) ok sc dL_law_394 dL_law_395 dL_law_397 (by decide) dL_law_398 dL_law_399 4 rfl (by omega) ?_
  refine q_m (As := [.int (xs (k + 1)), .int (xs (k + 2))]) ok dL_law_400 iX12_mark (lL_44 rfl) (rcv cls12 (congrArg Prod.fst s_130)) (by decide) (c_X12_mark rm (by decide) rfl (xs (k + 1)) (xs (k + 2))  hm0) (by decide) rfl (Nat.le_of_ble_eq_true rfl) ?_
  refine q_istore ok dL_law_403 (by decide) (by decide) rfl ?_
  refine q_goto (tgt := 1381) ok dL_law_405 (by decide) ?_
  refine q_loc [2, 3, 4, 5] rfl ?_
  exact kk g'
/-- what the case of this key needs, and what holds behind it -/
def Nd0 (xs : Nat → Int32) (k : Nat) (A : SI) (JA : SJ) (B : SI) (JB : SJ) (Post : SI → SJ → SI → SJ → Prop) : Prop := (H_X11_feed (xs (k + 1)) (xs (k + 2)) (xs (k + 3)) (xs (k + 4)) (xs (k + 5)) A JA) ∧ (H_X12_feed (xs (k + 1)) (xs (k + 2)) (xs (k + 3)) (xs (k + 4)) (xs (k + 5)) B JB) ∧  Post (FI_X11_feed (xs (k + 1)) (xs (k + 2)) (xs (k + 3)) (xs (k + 4)) (xs (k + 5)) A JA) JA (FI_X12_feed (xs (k + 1)) (xs (k + 2)) (xs (k + 3)) (xs (k + 4)) (xs (k + 5)) B JB) JB
def Nd1 (xs : Nat → Int32) (k : Nat) (A : SI) (JA : SJ) (B : SI) (JB : SJ) (Post : SI → SJ → SI → SJ → Prop) : Prop := (H_X11_text (xs (k + 1)) A JA) ∧ (H_X12_text (xs (k + 1)) B JB) ∧  Post (FI_X11_text (xs (k + 1)) A JA) (FJ_X11_text (xs (k + 1)) A JA) (FI_X12_text (xs (k + 1)) B JB) (FJ_X12_text (xs (k + 1)) B JB)
def Nd2 (xs : Nat → Int32) (k : Nat) (A : SI) (JA : SJ) (B : SI) (JB : SJ) (Post : SI → SJ → SI → SJ → Prop) : Prop :=  Post A JA (FI_X12_fault (xs (k + 1)) B JB) JB
def Nd3 (xs : Nat → Int32) (k : Nat) (A : SI) (JA : SJ) (B : SI) (JB : SJ) (Post : SI → SJ → SI → SJ → Prop) : Prop := (H_X12_named (xs (k + 1)) (xs (k + 2)) B JB) ∧  Post A JA (FI_X12_named (xs (k + 1)) (xs (k + 2)) B JB) JB
def Nd4 (xs : Nat → Int32) (k : Nat) (A : SI) (JA : SJ) (B : SI) (JB : SJ) (Post : SI → SJ → SI → SJ → Prop) : Prop := (H_X12_mark (xs (k + 1)) (xs (k + 2)) B ((if G_X11_mark (xs (k + 1)) (xs (k + 2)) A JA = 0 then u2 JB 178 0 (F_X11_mark (xs (k + 1)) (xs (k + 2)) A JA).toInt64 else JB))) ∧  Post A JA (FI_X12_mark (xs (k + 1)) (xs (k + 2)) B ((if G_X11_mark (xs (k + 1)) (xs (k + 2)) A JA = 0 then u2 JB 178 0 (F_X11_mark (xs (k + 1)) (xs (k + 2)) A JA).toInt64 else JB))) ((if G_X11_mark (xs (k + 1)) (xs (k + 2)) A JA = 0 then u2 JB 178 0 (F_X11_mark (xs (k + 1)) (xs (k + 2)) A JA).toInt64 else JB))
def Nd5 (xs : Nat → Int32) (k : Nat) (A : SI) (JA : SJ) (B : SI) (JB : SJ) (Post : SI → SJ → SI → SJ → Prop) : Prop := (H_X12_shot (xs (k + 1)) (xs (k + 2)) B JB) ∧  Post A JA (FI_X12_shot (xs (k + 1)) (xs (k + 2)) B JB) JB
def Nd6 (xs : Nat → Int32) (k : Nat) (A : SI) (JA : SJ) (B : SI) (JB : SJ) (Post : SI → SJ → SI → SJ → Prop) : Prop := (H_X12_way (xs (k + 1)) (xs (k + 2)) B JB) ∧  Post A JA (FI_X12_way (xs (k + 1)) (xs (k + 2)) B JB) JB
def Nd7 (xs : Nat → Int32) (k : Nat) (A : SI) (JA : SJ) (B : SI) (JB : SJ) (Post : SI → SJ → SI → SJ → Prop) : Prop := (H_X12_party (xs (k + 1)) (xs (k + 2)) B JB) ∧  Post A JA (FI_X12_party (xs (k + 1)) (xs (k + 2)) B JB) JB
def Nd8 (xs : Nat → Int32) (k : Nat) (A : SI) (JA : SJ) (B : SI) (JB : SJ) (Post : SI → SJ → SI → SJ → Prop) : Prop := (H_X12_clerk (xs (k + 1)) B JB) ∧  Post A JA (FI_X12_clerk (xs (k + 1)) B JB) JB
def Nd9 (xs : Nat → Int32) (k : Nat) (A : SI) (JA : SJ) (B : SI) (JB : SJ) (Post : SI → SJ → SI → SJ → Prop) : Prop := (H_X11_law (xs (k + 1)) (xs (k + 2)) (xs (k + 3)) A JA) ∧ (H_X12_law (xs (k + 1)) (xs (k + 2)) (xs (k + 3)) B JB) ∧  Post (FI_X11_law (xs (k + 1)) (xs (k + 2)) (xs (k + 3)) A JA) (FJ_X11_law (xs (k + 1)) (xs (k + 2)) (xs (k + 3)) A JA) (FI_X12_law (xs (k + 1)) (xs (k + 2)) (xs (k + 3)) B JB) (FJ_X12_law (xs (k + 1)) (xs (k + 2)) (xs (k + 3)) B JB)
def Nd10 (xs : Nat → Int32) (k : Nat) (A : SI) (JA : SJ) (B : SI) (JB : SJ) (Post : SI → SJ → SI → SJ → Prop) : Prop := (H_X12_plums (xs (k + 1)) (xs (k + 2)) B JB) ∧  Post (FI_X11_plums (xs (k + 1)) (xs (k + 2)) A JA) JA (FI_X12_plums (xs (k + 1)) (xs (k + 2)) B JB) JB
def Nd11 (xs : Nat → Int32) (k : Nat) (A : SI) (JA : SJ) (B : SI) (JB : SJ) (Post : SI → SJ → SI → SJ → Prop) : Prop := (H_X12_move (xs (k + 1)) (xs (k + 2)) B JB) ∧  Post (FI_X11_move (xs (k + 1)) (xs (k + 2)) A JA) JA (FI_X12_move (xs (k + 1)) (xs (k + 2)) B JB) JB
def Nd12 (xs : Nat → Int32) (k : Nat) (A : SI) (JA : SJ) (B : SI) (JB : SJ) (Post : SI → SJ → SI → SJ → Prop) : Prop := (H_X11_tell (xs (k + 1)) (xs (k + 2)) A JA) ∧ (H_X12_tell (xs (k + 1)) (xs (k + 2)) B JB) ∧  Post (FI_X11_tell (xs (k + 1)) (xs (k + 2)) A JA) JA (FI_X12_tell (xs (k + 1)) (xs (k + 2)) B JB) JB
def Nd13 (xs : Nat → Int32) (k : Nat) (A : SI) (JA : SJ) (B : SI) (JB : SJ) (Post : SI → SJ → SI → SJ → Prop) : Prop := (H_X12_forget (xs (k + 1)) B JB) ∧  Post (FI_X11_forget (xs (k + 1)) A JA) JA (FI_X12_forget (xs (k + 1)) B JB) JB
def Nd14 (xs : Nat → Int32) (k : Nat) (A : SI) (JA : SJ) (B : SI) (JB : SJ) (Post : SI → SJ → SI → SJ → Prop) : Prop := (H_X11_go (xs (k + 1)) A JA) ∧ (H_X12_go (xs (k + 1)) B JB) ∧  Post (FI_X11_go (xs (k + 1)) A JA) (FJ_X11_go (xs (k + 1)) A JA) (FI_X12_go (xs (k + 1)) B JB) (FJ_X12_go (xs (k + 1)) B JB)
def Nd15 (xs : Nat → Int32) (k : Nat) (A : SI) (JA : SJ) (B : SI) (JB : SJ) (Post : SI → SJ → SI → SJ → Prop) : Prop := (H_X11_ahead (xs (k + 1)) (xs (k + 2)) A JA) ∧ (H_X12_ahead (xs (k + 1)) (xs (k + 2)) B JB) ∧  Post (FI_X11_ahead (xs (k + 1)) (xs (k + 2)) A JA) (FJ_X11_ahead (xs (k + 1)) (xs (k + 2)) A JA) (FI_X12_ahead (xs (k + 1)) (xs (k + 2)) B JB) (FJ_X12_ahead (xs (k + 1)) (xs (k + 2)) B JB)
def Nd16 (xs : Nat → Int32) (k : Nat) (A : SI) (JA : SJ) (B : SI) (JB : SJ) (Post : SI → SJ → SI → SJ → Prop) : Prop := (H_X12_breaks  B JB) ∧  Post A JA (FI_X12_breaks  B JB) JB
def Nd17 (xs : Nat → Int32) (k : Nat) (A : SI) (JA : SJ) (B : SI) (JB : SJ) (Post : SI → SJ → SI → SJ → Prop) : Prop := (H_X11_agrees  A JA) ∧ (H_X12_agrees  B JB) ∧  Post (FI_X11_agrees  A JA) (FJ_X11_agrees  A JA) (FI_X12_agrees  B JB) (FJ_X12_agrees  B JB)
def Nd18 (xs : Nat → Int32) (k : Nat) (A : SI) (JA : SJ) (B : SI) (JB : SJ) (Post : SI → SJ → SI → SJ → Prop) : Prop := (H_X11_least (xs (k + 1)) A JA) ∧ (H_X12_least (xs (k + 1)) B JB) ∧  Post (FI_X11_least (xs (k + 1)) A JA) (FJ_X11_least (xs (k + 1)) A JA) (FI_X12_least (xs (k + 1)) B JB) (FJ_X12_least (xs (k + 1)) B JB)
def Nd19 (xs : Nat → Int32) (k : Nat) (A : SI) (JA : SJ) (B : SI) (JB : SJ) (Post : SI → SJ → SI → SJ → Prop) : Prop := (H_X11_order (xs (k + 1)) A JA) ∧ (H_X12_order (xs (k + 1)) B JB) ∧  Post (FI_X11_order (xs (k + 1)) A JA) (FJ_X11_order (xs (k + 1)) A JA) (FI_X12_order (xs (k + 1)) B JB) (FJ_X12_order (xs (k + 1)) B JB)
def Nd20 (xs : Nat → Int32) (k : Nat) (A : SI) (JA : SJ) (B : SI) (JB : SJ) (Post : SI → SJ → SI → SJ → Prop) : Prop := (H_X12_noted  B JB) ∧  Post A JA (FI_X12_noted  B JB) JB
def Nd21 (xs : Nat → Int32) (k : Nat) (A : SI) (JA : SJ) (B : SI) (JB : SJ) (Post : SI → SJ → SI → SJ → Prop) : Prop := (H_X11_bribe (xs (k + 1)) A JA) ∧ (H_X12_bribe (xs (k + 1)) B JB) ∧  Post (FI_X11_bribe (xs (k + 1)) A JA) (FJ_X11_bribe (xs (k + 1)) A JA) (FI_X12_bribe (xs (k + 1)) B JB) (FJ_X12_bribe (xs (k + 1)) B JB)
def Nd22 (xs : Nat → Int32) (k : Nat) (A : SI) (JA : SJ) (B : SI) (JB : SJ) (Post : SI → SJ → SI → SJ → Prop) : Prop := (H_X12_rests (xs (k + 1)) (xs (k + 2)) B JB) ∧  Post A JA (FI_X12_rests (xs (k + 1)) (xs (k + 2)) B JB) JB
def Nd23 (xs : Nat → Int32) (k : Nat) (A : SI) (JA : SJ) (B : SI) (JB : SJ) (Post : SI → SJ → SI → SJ → Prop) : Prop := (H_X12_rest (xs (k + 1)) (xs (k + 2)) (xs (k + 3)) B JB) ∧  Post A JA (FI_X12_rest (xs (k + 1)) (xs (k + 2)) (xs (k + 3)) B JB) JB
def Nd24 (xs : Nat → Int32) (k : Nat) (A : SI) (JA : SJ) (B : SI) (JB : SJ) (Post : SI → SJ → SI → SJ → Prop) : Prop := (H_X11_there (xs (k + 1)) (xs (k + 2)) A JA) ∧ (H_X12_there (xs (k + 1)) (xs (k + 2)) B JB) ∧  Post A JA (FI_X12_there (xs (k + 1)) (xs (k + 2)) B JB) JB
def Nd25 (xs : Nat → Int32) (k : Nat) (A : SI) (JA : SJ) (B : SI) (JB : SJ) (Post : SI → SJ → SI → SJ → Prop) : Prop := (H_X11_without (xs (k + 1)) A JA) ∧ (H_X12_without (xs (k + 1)) B JB) ∧  Post (FI_X11_without (xs (k + 1)) A JA) (FJ_X11_without (xs (k + 1)) A JA) (FI_X12_without (xs (k + 1)) B JB) (FJ_X12_without (xs (k + 1)) B JB)
def Nd26 (xs : Nat → Int32) (k : Nat) (A : SI) (JA : SJ) (B : SI) (JB : SJ) (Post : SI → SJ → SI → SJ → Prop) : Prop := (H_X12_run  B JB) ∧  Post A JA (FI_X12_run  B JB) JB
def Nd27 (xs : Nat → Int32) (k : Nat) (A : SI) (JA : SJ) (B : SI) (JB : SJ) (Post : SI → SJ → SI → SJ → Prop) : Prop := (H_X12_believed  B JB) ∧  Post A JA (FI_X12_believed  B JB) JB
def Nd28 (xs : Nat → Int32) (k : Nat) (A : SI) (JA : SJ) (B : SI) (JB : SJ) (Post : SI → SJ → SI → SJ → Prop) : Prop := (H_X12_see (xs (k + 1)) (xs (k + 2)) (bz (xs (k + 3))) B JB) ∧  Post (FI_X11_see (xs (k + 1)) (xs (k + 2)) (bz (xs (k + 3))) A JA) JA (FI_X12_see (xs (k + 1)) (xs (k + 2)) (bz (xs (k + 3))) B JB) JB
def Nd29 (xs : Nat → Int32) (k : Nat) (A : SI) (JA : SJ) (B : SI) (JB : SJ) (Post : SI → SJ → SI → SJ → Prop) : Prop := (H_X12_out (xs (k + 1)) B JB) ∧  Post (FI_X11_out (xs (k + 1)) A JA) JA (FI_X12_out (xs (k + 1)) B JB) JB
def Nd30 (xs : Nat → Int32) (k : Nat) (A : SI) (JA : SJ) (B : SI) (JB : SJ) (Post : SI → SJ → SI → SJ → Prop) : Prop :=  Post (FI_X11_known (xs (k + 1)) A JA) JA (FI_X12_known (xs (k + 1)) B JB) JB
def Nd31 (xs : Nat → Int32) (k : Nat) (A : SI) (JA : SJ) (B : SI) (JB : SJ) (Post : SI → SJ → SI → SJ → Prop) : Prop := (H_X11_struckHow (xs (k + 1)) A JA) ∧ (H_X12_struckHow (xs (k + 1)) B JB) ∧  Post (FI_X11_struckHow (xs (k + 1)) A JA) (FJ_X11_struckHow (xs (k + 1)) A JA) (FI_X12_struckHow (xs (k + 1)) B JB) (FJ_X12_struckHow (xs (k + 1)) B JB)
def Nd32 (xs : Nat → Int32) (k : Nat) (A : SI) (JA : SJ) (B : SI) (JB : SJ) (Post : SI → SJ → SI → SJ → Prop) : Prop := (H_X11_chance (xs (k + 1)) (xs (k + 2)) (xs (k + 3)) A JA) ∧ (H_X12_chance (xs (k + 1)) (xs (k + 2)) (xs (k + 3)) B JB) ∧  Post (FI_X11_chance (xs (k + 1)) (xs (k + 2)) (xs (k + 3)) A JA) (FJ_X11_chance (xs (k + 1)) (xs (k + 2)) (xs (k + 3)) A JA) (FI_X12_chance (xs (k + 1)) (xs (k + 2)) (xs (k + 3)) B JB) (FJ_X12_chance (xs (k + 1)) (xs (k + 2)) (xs (k + 3)) B JB)
def Nd33 (xs : Nat → Int32) (k : Nat) (A : SI) (JA : SJ) (B : SI) (JB : SJ) (Post : SI → SJ → SI → SJ → Prop) : Prop := (H_X11_tried (xs (k + 1)) (xs (k + 2)) (xs (k + 3)) A JA) ∧ (H_X12_tried (xs (k + 1)) (xs (k + 2)) (xs (k + 3)) B JB) ∧  Post (FI_X11_tried (xs (k + 1)) (xs (k + 2)) (xs (k + 3)) A JA) (FJ_X11_tried (xs (k + 1)) (xs (k + 2)) (xs (k + 3)) A JA) (FI_X12_tried (xs (k + 1)) (xs (k + 2)) (xs (k + 3)) B JB) (FJ_X12_tried (xs (k + 1)) (xs (k + 2)) (xs (k + 3)) B JB)
def Nd34 (xs : Nat → Int32) (k : Nat) (A : SI) (JA : SJ) (B : SI) (JB : SJ) (Post : SI → SJ → SI → SJ → Prop) : Prop := (H_X12_undo  B JB) ∧  Post (FI_X11_undo  A JA) JA (FI_X12_undo  B JB) JB
def Nd35 (xs : Nat → Int32) (k : Nat) (A : SI) (JA : SJ) (B : SI) (JB : SJ) (Post : SI → SJ → SI → SJ → Prop) : Prop := (H_X12_keep  B JB) ∧  Post (FI_X11_keep  A JA) (FJ_X11_keep  A JA) (FI_X12_keep  B JB) JB
def Nd36 (xs : Nat → Int32) (k : Nat) (A : SI) (JA : SJ) (B : SI) (JB : SJ) (Post : SI → SJ → SI → SJ → Prop) : Prop := (H_X12_back  B JB) ∧  Post (FI_X11_back  A JA) (FJ_X11_back  A JA) (FI_X12_back  B JB) JB
def Nd37 (xs : Nat → Int32) (k : Nat) (A : SI) (JA : SJ) (B : SI) (JB : SJ) (Post : SI → SJ → SI → SJ → Prop) : Prop := (H_X12_count (xs (k + 1)) B JB) ∧ ((F_X11_count (xs (k + 1)) A JA) = (F_X12_count (xs (k + 1)) B JB)) ∧  Post A JA (FI_X12_count (xs (k + 1)) B JB) JB
def Need (key : Int32) (xs : Nat → Int32) (k : Nat) (A : SI) (JA : SJ) (B : SI) (JB : SJ) (Post : SI → SJ → SI → SJ → Prop) : Prop := if key = 0 then Nd0 xs k A JA B JB Post else if key = 1 then Nd1 xs k A JA B JB Post else if key = 2 then Nd2 xs k A JA B JB Post else if key = 3 then Nd3 xs k A JA B JB Post else if key = 4 then Nd4 xs k A JA B JB Post else if key = 5 then Nd5 xs k A JA B JB Post else if key = 6 then Nd6 xs k A JA B JB Post else if key = 7 then Nd7 xs k A JA B JB Post else if key = 8 then Nd8 xs k A JA B JB Post else if key = 9 then Nd9 xs k A JA B JB Post else if key = 10 then Nd10 xs k A JA B JB Post else if key = 11 then Nd11 xs k A JA B JB Post else if key = 12 then Nd12 xs k A JA B JB Post else if key = 13 then Nd13 xs k A JA B JB Post else if key = 14 then Nd14 xs k A JA B JB Post else if key = 15 then Nd15 xs k A JA B JB Post else if key = 16 then Nd16 xs k A JA B JB Post else if key = 17 then Nd17 xs k A JA B JB Post else if key = 18 then Nd18 xs k A JA B JB Post else if key = 19 then Nd19 xs k A JA B JB Post else if key = 20 then Nd20 xs k A JA B JB Post else if key = 21 then Nd21 xs k A JA B JB Post else if key = 22 then Nd22 xs k A JA B JB Post else if key = 23 then Nd23 xs k A JA B JB Post else if key = 24 then Nd24 xs k A JA B JB Post else if key = 25 then Nd25 xs k A JA B JB Post else if key = 26 then Nd26 xs k A JA B JB Post else if key = 27 then Nd27 xs k A JA B JB Post else if key = 28 then Nd28 xs k A JA B JB Post else if key = 29 then Nd29 xs k A JA B JB Post else if key = 30 then Nd30 xs k A JA B JB Post else if key = 31 then Nd31 xs k A JA B JB Post else if key = 32 then Nd32 xs k A JA B JB Post else if key = 33 then Nd33 xs k A JA B JB Post else if key = 34 then Nd34 xs k A JA B JB Post else if key = 35 then Nd35 xs k A JA B JB Post else if key = 36 then Nd36 xs k A JA B JB Post else if key = 37 then Nd37 xs k A JA B JB Post else Post A JA B JB
set_option maxHeartbeats 40000000 in
set_option maxRecDepth 60000 in
theorem law_round {K : KT} {b L k g cl sl : Nat} {xs : Nat → Int32} {A B : SI} {JA JB : SJ} {R : SR} (ok : OK K mL_law 1000) (sc : Sc K b L xs) (ro : RO R) (rm : RM R) (hk6 : k + 5 < L) (kl : Kl9 K) (hE : EX (Kb K) (Ks K)) (hcap : cl + 1 ≤ K.2.2.2.1.cells ∧ sl + 6 ≤ K.2.2.2.1.slots) {Post : SI → SJ → SI → SJ → Prop} (hn : Need (xs k &&& 63) xs k A JA B JB Post)
    (kk : ∀ (A1 : SI) (JA1 : SJ) (B1 : SI) (JB1 : SJ) (R1 : SR) (cl1 sl1 g1 : Nat), Post A1 JA1 B1 JB1 → RO R1 → RM R1 → cl1 ≤ cl + 1 → sl1 ≤ sl + 6 → WL K b cl1 sl1 1381 [(1, .ref 0), (2, .ref 130), (3, .ref 178), (4, .int (nI k))] [] (mI A1 B1) (mJ JA1 JB1) R1 179 g1) : WL K b cl sl 33 [(1, .ref 0), (2, .ref 130), (3, .ref 178), (4, .int (nI k))] [] (mI A B) (mJ JA JB) R 179 g := by
  refine q_sc0 ok sc dL_law_33 dL_law_34 dL_law_36 3 rfl (by omega) ?_
  refine q_bipush (v := 63) ok dL_law_37 (by decide) ?_
  refine q_iand ok dL_law_39 ?_
  unfold Need at hn
  by_cases c0 : (xs k &&& 63) = 0
  · rw [if_pos c0] at hn
    unfold Nd0 at hn
    obtain ⟨hx0, hm0, hpost⟩ := hn
    refine q_tabIn (tgt := 208) (off := 168) ok dL_law_40 (by rw [c0]; decide) (by rw [c0]; decide) (by rw [c0]; rfl) (by decide) ?_
    exact law_c0 ok sc ro rm hk6 hx0 hm0 (kk _ _ _ _ _ _ _ g hpost ro rm (by omega) (by omega))
  · rw [if_neg c0] at hn
    by_cases c1 : (xs k &&& 63) = 1
    · rw [if_pos c1] at hn
      unfold Nd1 at hn
      obtain ⟨hx0, hm0, hpost⟩ := hn
      refine q_tabIn (tgt := 281) (off := 241) ok dL_law_40 (by rw [c1]; decide) (by rw [c1]; decide) (by rw [c1]; rfl) (by decide) ?_
      exact law_c1 ok sc ro rm hk6 hx0 hm0 (kk _ _ _ _ _ _ _ g hpost (by rcases fr_text _ _ _ R with h | h <;> rw [h] <;> first | exact ro | exact ro_t ro) (by rcases fr_text _ _ _ R with h | h <;> rw [h] <;> first | exact rm | exact rm_t rm) (by omega) (by omega))
    · rw [if_neg c1] at hn
      by_cases c2 : (xs k &&& 63) = 2
      · rw [if_pos c2] at hn
        unfold Nd2 at hn
        have hpost := hn
        refine q_tabIn (tgt := 306) (off := 266) ok dL_law_40 (by rw [c2]; decide) (by rw [c2]; decide) (by rw [c2]; rfl) (by decide) ?_
        exact law_c2 ok sc ro rm hk6  (kk _ _ _ _ _ _ _ g hpost ro rm (by omega) (by omega))
      · rw [if_neg c2] at hn
        by_cases c3 : (xs k &&& 63) = 3
        · rw [if_pos c3] at hn
          unfold Nd3 at hn
          obtain ⟨hm0, hpost⟩ := hn
          refine q_tabIn (tgt := 331) (off := 291) ok dL_law_40 (by rw [c3]; decide) (by rw [c3]; decide) (by rw [c3]; rfl) (by decide) ?_
          exact law_c3 ok sc ro rm hk6 hm0 (kk _ _ _ _ _ _ _ g hpost ro rm (by omega) (by omega))
        · rw [if_neg c3] at hn
          by_cases c4 : (xs k &&& 63) = 4
          · rw [if_pos c4] at hn
            unfold Nd4 at hn
            obtain ⟨hm0, hpost⟩ := hn
            refine q_tabIn (tgt := 368) (off := 328) ok dL_law_40 (by rw [c4]; decide) (by rw [c4]; decide) (by rw [c4]; rfl) (by decide) ?_
            exact law_c4 ok sc ro rm hk6 kl hE hcap hm0 (fun g' => kk _ _ _ _ _ _ _ g' hpost ro rm (Nat.le_refl _) (Nat.le_refl _))
          · rw [if_neg c4] at hn
            by_cases c5 : (xs k &&& 63) = 5
            · rw [if_pos c5] at hn
              unfold Nd5 at hn
              obtain ⟨hm0, hpost⟩ := hn
              refine q_tabIn (tgt := 408) (off := 368) ok dL_law_40 (by rw [c5]; decide) (by rw [c5]; decide) (by rw [c5]; rfl) (by decide) ?_
              exact law_c5 ok sc ro rm hk6 hm0 (kk _ _ _ _ _ _ _ g hpost ro rm (by omega) (by omega))
            · rw [if_neg c5] at hn
              by_cases c6 : (xs k &&& 63) = 6
              · rw [if_pos c6] at hn
                unfold Nd6 at hn
                obtain ⟨hm0, hpost⟩ := hn
                refine q_tabIn (tgt := 445) (off := 405) ok dL_law_40 (by rw [c6]; decide) (by rw [c6]; decide) (by rw [c6]; rfl) (by decide) ?_
                exact law_c6 ok sc ro rm hk6 hm0 (kk _ _ _ _ _ _ _ g hpost ro rm (by omega) (by omega))
              · rw [if_neg c6] at hn
                by_cases c7 : (xs k &&& 63) = 7
                · rw [if_pos c7] at hn
                  unfold Nd7 at hn
                  obtain ⟨hm0, hpost⟩ := hn
                  refine q_tabIn (tgt := 482) (off := 442) ok dL_law_40 (by rw [c7]; decide) (by rw [c7]; decide) (by rw [c7]; rfl) (by decide) ?_
                  exact law_c7 ok sc ro rm hk6 hm0 (kk _ _ _ _ _ _ _ g hpost ro rm (by omega) (by omega))
                · rw [if_neg c7] at hn
                  by_cases c8 : (xs k &&& 63) = 8
                  · rw [if_pos c8] at hn
                    unfold Nd8 at hn
                    obtain ⟨hm0, hpost⟩ := hn
                    refine q_tabIn (tgt := 519) (off := 479) ok dL_law_40 (by rw [c8]; decide) (by rw [c8]; decide) (by rw [c8]; rfl) (by decide) ?_
                    exact law_c8 ok sc ro rm hk6 hm0 (kk _ _ _ _ _ _ _ g hpost ro rm (by omega) (by omega))
                  · rw [if_neg c8] at hn
                    by_cases c9 : (xs k &&& 63) = 9
                    · rw [if_pos c9] at hn
                      unfold Nd9 at hn
                      obtain ⟨hx0, hm0, hpost⟩ := hn
                      refine q_tabIn (tgt := 544) (off := 504) ok dL_law_40 (by rw [c9]; decide) (by rw [c9]; decide) (by rw [c9]; rfl) (by decide) ?_
                      exact law_c9 ok sc ro rm hk6 hx0 hm0 (kk _ _ _ _ _ _ _ g hpost ro rm (by omega) (by omega))
                    · rw [if_neg c9] at hn
                      by_cases c10 : (xs k &&& 63) = 10
                      · rw [if_pos c10] at hn
                        unfold Nd10 at hn
                        obtain ⟨hm0, hpost⟩ := hn
                        refine q_tabIn (tgt := 593) (off := 553) ok dL_law_40 (by rw [c10]; decide) (by rw [c10]; decide) (by rw [c10]; rfl) (by decide) ?_
                        exact law_c10 ok sc ro rm hk6 hm0 (kk _ _ _ _ _ _ _ g hpost ro rm (by omega) (by omega))
                      · rw [if_neg c10] at hn
                        by_cases c11 : (xs k &&& 63) = 11
                        · rw [if_pos c11] at hn
                          unfold Nd11 at hn
                          obtain ⟨hm0, hpost⟩ := hn
                          refine q_tabIn (tgt := 630) (off := 590) ok dL_law_40 (by rw [c11]; decide) (by rw [c11]; decide) (by rw [c11]; rfl) (by decide) ?_
                          exact law_c11 ok sc ro rm hk6 hm0 (kk _ _ _ _ _ _ _ g hpost ro rm (by omega) (by omega))
                        · rw [if_neg c11] at hn
                          by_cases c12 : (xs k &&& 63) = 12
                          · rw [if_pos c12] at hn
                            unfold Nd12 at hn
                            obtain ⟨hx0, hm0, hpost⟩ := hn
                            refine q_tabIn (tgt := 667) (off := 627) ok dL_law_40 (by rw [c12]; decide) (by rw [c12]; decide) (by rw [c12]; rfl) (by decide) ?_
                            exact law_c12 ok sc ro rm hk6 hx0 hm0 (kk _ _ _ _ _ _ _ g hpost ro rm (by omega) (by omega))
                          · rw [if_neg c12] at hn
                            by_cases c13 : (xs k &&& 63) = 13
                            · rw [if_pos c13] at hn
                              unfold Nd13 at hn
                              obtain ⟨hm0, hpost⟩ := hn
                              refine q_tabIn (tgt := 704) (off := 664) ok dL_law_40 (by rw [c13]; decide) (by rw [c13]; decide) (by rw [c13]; rfl) (by decide) ?_
                              exact law_c13 ok sc ro rm hk6 hm0 (kk _ _ _ _ _ _ _ g hpost ro rm (by omega) (by omega))
                            · rw [if_neg c13] at hn
                              by_cases c14 : (xs k &&& 63) = 14
                              · rw [if_pos c14] at hn
                                unfold Nd14 at hn
                                obtain ⟨hx0, hm0, hpost⟩ := hn
                                refine q_tabIn (tgt := 729) (off := 689) ok dL_law_40 (by rw [c14]; decide) (by rw [c14]; decide) (by rw [c14]; rfl) (by decide) ?_
                                exact law_c14 ok sc ro rm hk6 hx0 hm0 (kk _ _ _ _ _ _ _ g hpost ro rm (by omega) (by omega))
                              · rw [if_neg c14] at hn
                                by_cases c15 : (xs k &&& 63) = 15
                                · rw [if_pos c15] at hn
                                  unfold Nd15 at hn
                                  obtain ⟨hx0, hm0, hpost⟩ := hn
                                  refine q_tabIn (tgt := 754) (off := 714) ok dL_law_40 (by rw [c15]; decide) (by rw [c15]; decide) (by rw [c15]; rfl) (by decide) ?_
                                  exact law_c15 ok sc ro rm hk6 hx0 hm0 (kk _ _ _ _ _ _ _ g hpost ro rm (by omega) (by omega))
                                · rw [if_neg c15] at hn
                                  by_cases c16 : (xs k &&& 63) = 16
                                  · rw [if_pos c16] at hn
                                    unfold Nd16 at hn
                                    obtain ⟨hm0, hpost⟩ := hn
                                    refine q_tabIn (tgt := 791) (off := 751) ok dL_law_40 (by rw [c16]; decide) (by rw [c16]; decide) (by rw [c16]; rfl) (by decide) ?_
                                    exact law_c16 ok sc ro rm hk6 hm0 (kk _ _ _ _ _ _ _ g hpost ro rm (by omega) (by omega))
                                  · rw [if_neg c16] at hn
                                    by_cases c17 : (xs k &&& 63) = 17
                                    · rw [if_pos c17] at hn
                                      unfold Nd17 at hn
                                      obtain ⟨hx0, hm0, hpost⟩ := hn
                                      refine q_tabIn (tgt := 804) (off := 764) ok dL_law_40 (by rw [c17]; decide) (by rw [c17]; decide) (by rw [c17]; rfl) (by decide) ?_
                                      exact law_c17 ok sc ro rm hk6 hx0 hm0 (kk _ _ _ _ _ _ _ g hpost ro rm (by omega) (by omega))
                                    · rw [if_neg c17] at hn
                                      by_cases c18 : (xs k &&& 63) = 18
                                      · rw [if_pos c18] at hn
                                        unfold Nd18 at hn
                                        obtain ⟨hx0, hm0, hpost⟩ := hn
                                        refine q_tabIn (tgt := 817) (off := 777) ok dL_law_40 (by rw [c18]; decide) (by rw [c18]; decide) (by rw [c18]; rfl) (by decide) ?_
                                        exact law_c18 ok sc ro rm hk6 hx0 hm0 (kk _ _ _ _ _ _ _ g hpost ro rm (by omega) (by omega))
                                      · rw [if_neg c18] at hn
                                        by_cases c19 : (xs k &&& 63) = 19
                                        · rw [if_pos c19] at hn
                                          unfold Nd19 at hn
                                          obtain ⟨hx0, hm0, hpost⟩ := hn
                                          refine q_tabIn (tgt := 842) (off := 802) ok dL_law_40 (by rw [c19]; decide) (by rw [c19]; decide) (by rw [c19]; rfl) (by decide) ?_
                                          exact law_c19 ok sc ro rm hk6 hx0 hm0 (kk _ _ _ _ _ _ _ g hpost ro rm (by omega) (by omega))
                                        · rw [if_neg c19] at hn
                                          by_cases c20 : (xs k &&& 63) = 20
                                          · rw [if_pos c20] at hn
                                            unfold Nd20 at hn
                                            obtain ⟨hm0, hpost⟩ := hn
                                            refine q_tabIn (tgt := 867) (off := 827) ok dL_law_40 (by rw [c20]; decide) (by rw [c20]; decide) (by rw [c20]; rfl) (by decide) ?_
                                            exact law_c20 ok sc ro rm hk6 hm0 (kk _ _ _ _ _ _ _ g hpost ro rm (by omega) (by omega))
                                          · rw [if_neg c20] at hn
                                            by_cases c21 : (xs k &&& 63) = 21
                                            · rw [if_pos c21] at hn
                                              unfold Nd21 at hn
                                              obtain ⟨hx0, hm0, hpost⟩ := hn
                                              refine q_tabIn (tgt := 880) (off := 840) ok dL_law_40 (by rw [c21]; decide) (by rw [c21]; decide) (by rw [c21]; rfl) (by decide) ?_
                                              exact law_c21 ok sc ro rm hk6 hx0 hm0 (kk _ _ _ _ _ _ _ g hpost ro rm (by omega) (by omega))
                                            · rw [if_neg c21] at hn
                                              by_cases c22 : (xs k &&& 63) = 22
                                              · rw [if_pos c22] at hn
                                                unfold Nd22 at hn
                                                obtain ⟨hm0, hpost⟩ := hn
                                                refine q_tabIn (tgt := 905) (off := 865) ok dL_law_40 (by rw [c22]; decide) (by rw [c22]; decide) (by rw [c22]; rfl) (by decide) ?_
                                                exact law_c22 ok sc ro rm hk6 hm0 (kk _ _ _ _ _ _ _ g hpost ro rm (by omega) (by omega))
                                              · rw [if_neg c22] at hn
                                                by_cases c23 : (xs k &&& 63) = 23
                                                · rw [if_pos c23] at hn
                                                  unfold Nd23 at hn
                                                  obtain ⟨hm0, hpost⟩ := hn
                                                  refine q_tabIn (tgt := 942) (off := 902) ok dL_law_40 (by rw [c23]; decide) (by rw [c23]; decide) (by rw [c23]; rfl) (by decide) ?_
                                                  exact law_c23 ok sc ro rm hk6 hm0 (kk _ _ _ _ _ _ _ g hpost ro rm (by omega) (by omega))
                                                · rw [if_neg c23] at hn
                                                  by_cases c24 : (xs k &&& 63) = 24
                                                  · rw [if_pos c24] at hn
                                                    unfold Nd24 at hn
                                                    obtain ⟨hx0, hm0, hpost⟩ := hn
                                                    refine q_tabIn (tgt := 991) (off := 951) ok dL_law_40 (by rw [c24]; decide) (by rw [c24]; decide) (by rw [c24]; rfl) (by decide) ?_
                                                    exact law_c24 ok sc ro rm hk6 hx0 hm0 (kk _ _ _ _ _ _ _ g hpost ro rm (by omega) (by omega))
                                                  · rw [if_neg c24] at hn
                                                    by_cases c25 : (xs k &&& 63) = 25
                                                    · rw [if_pos c25] at hn
                                                      unfold Nd25 at hn
                                                      obtain ⟨hx0, hm0, hpost⟩ := hn
                                                      refine q_tabIn (tgt := 1028) (off := 988) ok dL_law_40 (by rw [c25]; decide) (by rw [c25]; decide) (by rw [c25]; rfl) (by decide) ?_
                                                      exact law_c25 ok sc ro rm hk6 hx0 hm0 (kk _ _ _ _ _ _ _ g hpost ro rm (by omega) (by omega))
                                                    · rw [if_neg c25] at hn
                                                      by_cases c26 : (xs k &&& 63) = 26
                                                      · rw [if_pos c26] at hn
                                                        unfold Nd26 at hn
                                                        obtain ⟨hm0, hpost⟩ := hn
                                                        refine q_tabIn (tgt := 1053) (off := 1013) ok dL_law_40 (by rw [c26]; decide) (by rw [c26]; decide) (by rw [c26]; rfl) (by decide) ?_
                                                        exact law_c26 ok sc ro rm hk6 hm0 (kk _ _ _ _ _ _ _ g hpost ro rm (by omega) (by omega))
                                                      · rw [if_neg c26] at hn
                                                        by_cases c27 : (xs k &&& 63) = 27
                                                        · rw [if_pos c27] at hn
                                                          unfold Nd27 at hn
                                                          obtain ⟨hm0, hpost⟩ := hn
                                                          refine q_tabIn (tgt := 1066) (off := 1026) ok dL_law_40 (by rw [c27]; decide) (by rw [c27]; decide) (by rw [c27]; rfl) (by decide) ?_
                                                          exact law_c27 ok sc ro rm hk6 hm0 (kk _ _ _ _ _ _ _ g hpost ro rm (by omega) (by omega))
                                                        · rw [if_neg c27] at hn
                                                          by_cases c28 : (xs k &&& 63) = 28
                                                          · rw [if_pos c28] at hn
                                                            unfold Nd28 at hn
                                                            obtain ⟨hm0, hpost⟩ := hn
                                                            refine q_tabIn (tgt := 1079) (off := 1039) ok dL_law_40 (by rw [c28]; decide) (by rw [c28]; decide) (by rw [c28]; rfl) (by decide) ?_
                                                            exact law_c28 ok sc ro rm hk6 hm0 (kk _ _ _ _ _ _ _ g hpost ro rm (by omega) (by omega))
                                                          · rw [if_neg c28] at hn
                                                            by_cases c29 : (xs k &&& 63) = 29
                                                            · rw [if_pos c29] at hn
                                                              unfold Nd29 at hn
                                                              obtain ⟨hm0, hpost⟩ := hn
                                                              refine q_tabIn (tgt := 1144) (off := 1104) ok dL_law_40 (by rw [c29]; decide) (by rw [c29]; decide) (by rw [c29]; rfl) (by decide) ?_
                                                              exact law_c29 ok sc ro rm hk6 hm0 (kk _ _ _ _ _ _ _ g hpost ro rm (by omega) (by omega))
                                                            · rw [if_neg c29] at hn
                                                              by_cases c30 : (xs k &&& 63) = 30
                                                              · rw [if_pos c30] at hn
                                                                unfold Nd30 at hn
                                                                have hpost := hn
                                                                refine q_tabIn (tgt := 1169) (off := 1129) ok dL_law_40 (by rw [c30]; decide) (by rw [c30]; decide) (by rw [c30]; rfl) (by decide) ?_
                                                                exact law_c30 ok sc ro rm hk6  (kk _ _ _ _ _ _ _ g hpost ro rm (by omega) (by omega))
                                                              · rw [if_neg c30] at hn
                                                                by_cases c31 : (xs k &&& 63) = 31
                                                                · rw [if_pos c31] at hn
                                                                  unfold Nd31 at hn
                                                                  obtain ⟨hx0, hm0, hpost⟩ := hn
                                                                  refine q_tabIn (tgt := 1194) (off := 1154) ok dL_law_40 (by rw [c31]; decide) (by rw [c31]; decide) (by rw [c31]; rfl) (by decide) ?_
                                                                  exact law_c31 ok sc ro rm hk6 hx0 hm0 (kk _ _ _ _ _ _ _ g hpost ro rm (by omega) (by omega))
                                                                · rw [if_neg c31] at hn
                                                                  by_cases c32 : (xs k &&& 63) = 32
                                                                  · rw [if_pos c32] at hn
                                                                    unfold Nd32 at hn
                                                                    obtain ⟨hx0, hm0, hpost⟩ := hn
                                                                    refine q_tabIn (tgt := 1219) (off := 1179) ok dL_law_40 (by rw [c32]; decide) (by rw [c32]; decide) (by rw [c32]; rfl) (by decide) ?_
                                                                    exact law_c32 ok sc ro rm hk6 hx0 hm0 (kk _ _ _ _ _ _ _ g hpost ro rm (by omega) (by omega))
                                                                  · rw [if_neg c32] at hn
                                                                    by_cases c33 : (xs k &&& 63) = 33
                                                                    · rw [if_pos c33] at hn
                                                                      unfold Nd33 at hn
                                                                      obtain ⟨hx0, hm0, hpost⟩ := hn
                                                                      refine q_tabIn (tgt := 1268) (off := 1228) ok dL_law_40 (by rw [c33]; decide) (by rw [c33]; decide) (by rw [c33]; rfl) (by decide) ?_
                                                                      exact law_c33 ok sc ro rm hk6 hx0 hm0 (kk _ _ _ _ _ _ _ g hpost ro rm (by omega) (by omega))
                                                                    · rw [if_neg c33] at hn
                                                                      by_cases c34 : (xs k &&& 63) = 34
                                                                      · rw [if_pos c34] at hn
                                                                        unfold Nd34 at hn
                                                                        obtain ⟨hm0, hpost⟩ := hn
                                                                        refine q_tabIn (tgt := 1317) (off := 1277) ok dL_law_40 (by rw [c34]; decide) (by rw [c34]; decide) (by rw [c34]; rfl) (by decide) ?_
                                                                        exact law_c34 ok sc ro rm hk6 hm0 (kk _ _ _ _ _ _ _ g hpost ro rm (by omega) (by omega))
                                                                      · rw [if_neg c34] at hn
                                                                        by_cases c35 : (xs k &&& 63) = 35
                                                                        · rw [if_pos c35] at hn
                                                                          unfold Nd35 at hn
                                                                          obtain ⟨hm0, hpost⟩ := hn
                                                                          refine q_tabIn (tgt := 1330) (off := 1290) ok dL_law_40 (by rw [c35]; decide) (by rw [c35]; decide) (by rw [c35]; rfl) (by decide) ?_
                                                                          exact law_c35 ok sc ro rm hk6 hm0 (kk _ _ _ _ _ _ _ g hpost ro rm (by omega) (by omega))
                                                                        · rw [if_neg c35] at hn
                                                                          by_cases c36 : (xs k &&& 63) = 36
                                                                          · rw [if_pos c36] at hn
                                                                            unfold Nd36 at hn
                                                                            obtain ⟨hm0, hpost⟩ := hn
                                                                            refine q_tabIn (tgt := 1343) (off := 1303) ok dL_law_40 (by rw [c36]; decide) (by rw [c36]; decide) (by rw [c36]; rfl) (by decide) ?_
                                                                            exact law_c36 ok sc ro rm hk6 hm0 (kk _ _ _ _ _ _ _ g hpost ro rm (by omega) (by omega))
                                                                          · rw [if_neg c36] at hn
                                                                            by_cases c37 : (xs k &&& 63) = 37
                                                                            · rw [if_pos c37] at hn
                                                                              unfold Nd37 at hn
                                                                              obtain ⟨hm0, he, hpost⟩ := hn
                                                                              refine q_tabIn (tgt := 1356) (off := 1316) ok dL_law_40 (by rw [c37]; decide) (by rw [c37]; decide) (by rw [c37]; rfl) (by decide) ?_
                                                                              exact law_c37 ok sc ro rm hk6 hm0 he (kk _ _ _ _ _ _ _ g hpost ro rm (by omega) (by omega))
                                                                            · rw [if_neg c37] at hn
                                                                              refine q_tabOut (tgt := 1381) ok dL_law_40 ?_ (by decide) (kk _ _ _ _ _ _ _ g hn ro rm (by omega) (by omega))
                                                                              have n0 := ne_toInt c0
                                                                              have n1 := ne_toInt c1
                                                                              have n2 := ne_toInt c2
                                                                              have n3 := ne_toInt c3
                                                                              have n4 := ne_toInt c4
                                                                              have n5 := ne_toInt c5
                                                                              have n6 := ne_toInt c6
                                                                              have n7 := ne_toInt c7
                                                                              have n8 := ne_toInt c8
                                                                              have n9 := ne_toInt c9
                                                                              have n10 := ne_toInt c10
                                                                              have n11 := ne_toInt c11
                                                                              have n12 := ne_toInt c12
                                                                              have n13 := ne_toInt c13
                                                                              have n14 := ne_toInt c14
                                                                              have n15 := ne_toInt c15
                                                                              have n16 := ne_toInt c16
                                                                              have n17 := ne_toInt c17
                                                                              have n18 := ne_toInt c18
                                                                              have n19 := ne_toInt c19
                                                                              have n20 := ne_toInt c20
                                                                              have n21 := ne_toInt c21
                                                                              have n22 := ne_toInt c22
                                                                              have n23 := ne_toInt c23
                                                                              have n24 := ne_toInt c24
                                                                              have n25 := ne_toInt c25
                                                                              have n26 := ne_toInt c26
                                                                              have n27 := ne_toInt c27
                                                                              have n28 := ne_toInt c28
                                                                              have n29 := ne_toInt c29
                                                                              have n30 := ne_toInt c30
                                                                              have n31 := ne_toInt c31
                                                                              have n32 := ne_toInt c32
                                                                              have n33 := ne_toInt c33
                                                                              have n34 := ne_toInt c34
                                                                              have n35 := ne_toInt c35
                                                                              have n36 := ne_toInt c36
                                                                              have n37 := ne_toInt c37
                                                                              have e1 : ∀ z : Int32, z.toInt ≠ (0 : Int32).toInt → z.toInt ≠ (1 : Int32).toInt → z.toInt ≠ (2 : Int32).toInt → z.toInt ≠ (3 : Int32).toInt → z.toInt ≠ (4 : Int32).toInt → z.toInt ≠ (5 : Int32).toInt → z.toInt ≠ (6 : Int32).toInt → z.toInt ≠ (7 : Int32).toInt → z.toInt ≠ (8 : Int32).toInt → z.toInt ≠ (9 : Int32).toInt → z.toInt ≠ (10 : Int32).toInt → z.toInt ≠ (11 : Int32).toInt → z.toInt ≠ (12 : Int32).toInt → z.toInt ≠ (13 : Int32).toInt → z.toInt ≠ (14 : Int32).toInt → z.toInt ≠ (15 : Int32).toInt → z.toInt ≠ (16 : Int32).toInt → z.toInt ≠ (17 : Int32).toInt → z.toInt ≠ (18 : Int32).toInt → z.toInt ≠ (19 : Int32).toInt → z.toInt ≠ (20 : Int32).toInt → z.toInt ≠ (21 : Int32).toInt → z.toInt ≠ (22 : Int32).toInt → z.toInt ≠ (23 : Int32).toInt → z.toInt ≠ (24 : Int32).toInt → z.toInt ≠ (25 : Int32).toInt → z.toInt ≠ (26 : Int32).toInt → z.toInt ≠ (27 : Int32).toInt → z.toInt ≠ (28 : Int32).toInt → z.toInt ≠ (29 : Int32).toInt → z.toInt ≠ (30 : Int32).toInt → z.toInt ≠ (31 : Int32).toInt → z.toInt ≠ (32 : Int32).toInt → z.toInt ≠ (33 : Int32).toInt → z.toInt ≠ (34 : Int32).toInt → z.toInt ≠ (35 : Int32).toInt → z.toInt ≠ (36 : Int32).toInt → z.toInt ≠ (37 : Int32).toInt → z.toInt < 0 ∨ (37 : Int) < z.toInt := by
                                                                                intro z h0 h1 h2 h3 h4 h5 h6 h7 h8 h9 h10 h11 h12 h13 h14 h15 h16 h17 h18 h19 h20 h21 h22 h23 h24 h25 h26 h27 h28 h29 h30 h31 h32 h33 h34 h35 h36 h37
                                                                                rw [show (0 : Int32).toInt = 0 from by decide] at h0
                                                                                rw [show (1 : Int32).toInt = 1 from by decide] at h1
                                                                                rw [show (2 : Int32).toInt = 2 from by decide] at h2
                                                                                rw [show (3 : Int32).toInt = 3 from by decide] at h3
                                                                                rw [show (4 : Int32).toInt = 4 from by decide] at h4
                                                                                rw [show (5 : Int32).toInt = 5 from by decide] at h5
                                                                                rw [show (6 : Int32).toInt = 6 from by decide] at h6
                                                                                rw [show (7 : Int32).toInt = 7 from by decide] at h7
                                                                                rw [show (8 : Int32).toInt = 8 from by decide] at h8
                                                                                rw [show (9 : Int32).toInt = 9 from by decide] at h9
                                                                                rw [show (10 : Int32).toInt = 10 from by decide] at h10
                                                                                rw [show (11 : Int32).toInt = 11 from by decide] at h11
                                                                                rw [show (12 : Int32).toInt = 12 from by decide] at h12
                                                                                rw [show (13 : Int32).toInt = 13 from by decide] at h13
                                                                                rw [show (14 : Int32).toInt = 14 from by decide] at h14
                                                                                rw [show (15 : Int32).toInt = 15 from by decide] at h15
                                                                                rw [show (16 : Int32).toInt = 16 from by decide] at h16
                                                                                rw [show (17 : Int32).toInt = 17 from by decide] at h17
                                                                                rw [show (18 : Int32).toInt = 18 from by decide] at h18
                                                                                rw [show (19 : Int32).toInt = 19 from by decide] at h19
                                                                                rw [show (20 : Int32).toInt = 20 from by decide] at h20
                                                                                rw [show (21 : Int32).toInt = 21 from by decide] at h21
                                                                                rw [show (22 : Int32).toInt = 22 from by decide] at h22
                                                                                rw [show (23 : Int32).toInt = 23 from by decide] at h23
                                                                                rw [show (24 : Int32).toInt = 24 from by decide] at h24
                                                                                rw [show (25 : Int32).toInt = 25 from by decide] at h25
                                                                                rw [show (26 : Int32).toInt = 26 from by decide] at h26
                                                                                rw [show (27 : Int32).toInt = 27 from by decide] at h27
                                                                                rw [show (28 : Int32).toInt = 28 from by decide] at h28
                                                                                rw [show (29 : Int32).toInt = 29 from by decide] at h29
                                                                                rw [show (30 : Int32).toInt = 30 from by decide] at h30
                                                                                rw [show (31 : Int32).toInt = 31 from by decide] at h31
                                                                                rw [show (32 : Int32).toInt = 32 from by decide] at h32
                                                                                rw [show (33 : Int32).toInt = 33 from by decide] at h33
                                                                                rw [show (34 : Int32).toInt = 34 from by decide] at h34
                                                                                rw [show (35 : Int32).toInt = 35 from by decide] at h35
                                                                                rw [show (36 : Int32).toInt = 36 from by decide] at h36
                                                                                rw [show (37 : Int32).toInt = 37 from by decide] at h37
                                                                                omega
                                                                              exact e1 _ n0 n1 n2 n3 n4 n5 n6 n7 n8 n9 n10 n11 n12 n13 n14 n15 n16 n17 n18 n19 n20 n21 n22 n23 n24 n25 n26 n27 n28 n29 n30 n31 n32 n33 n34 n35 n36 n37
