/-! every call, from any state that calls leave (printed by wip/gen/inv/g98s.py) -/
theorem ev0 {xs : Nat → Int32} {k : Nat} {A B : SI} {JA JB : SJ} (h : P2 A JA B JB) : Nd0 xs k A JA B JB P2 := by
  unfold Nd0
  have t := pp_feed (a0 := xs (k + 1)) (a1 := xs (k + 2)) (a2 := xs (k + 3)) (a3 := xs (k + 4)) (a4 := xs (k + 5)) h.1
  have u := feed_S (a0 := xs (k + 1)) (a1 := xs (k + 2)) (a2 := xs (k + 3)) (a3 := xs (k + 4)) (a4 := xs (k + 5)) (J' := JB) h.2.2 h.2.1
  exact ⟨t.1, t.2.1, t.2.2.2, u⟩
theorem ev1 {xs : Nat → Int32} {k : Nat} {A B : SI} {JA JB : SJ} (h : P2 A JA B JB) : Nd1 xs k A JA B JB P2 := by
  unfold Nd1
  have t := pp_text (a0 := xs (k + 1)) h.1
  have q := t.2.2.2 (FJ_X11_text (xs (k + 1)) A JA) (FJ_X12_text (xs (k + 1)) B JB)
  exact ⟨t.1, t.2.1, q, text_S h.1.2.2.2.1 h.1.2.1 q.2.2.2.1 h.2.2 h.2.1⟩
theorem ev2 {xs : Nat → Int32} {k : Nat} {A B : SI} {JA JB : SJ} (h : P2 A JA B JB) : Nd2 xs k A JA B JB P2 := by
  unfold Nd2
  exact p2q h h.1.1 (KGT.rf _) (fun _ => rfl) (m_fault h.1.2.1) (KO.rf _) (JDY.rf _) qt_fault
theorem ev3 {xs : Nat → Int32} {k : Nat} {A B : SI} {JA JB : SJ} (h : P2 A JA B JB) : Nd3 xs k A JA B JB P2 := by
  unfold Nd3
  exact ⟨(m_named h.1.2.1).1, p2q h h.1.1 (KGT.rf _) (fun _ => rfl) (m_named h.1.2.1).2 (KO.rf _) (JDY.rf _) qt_named⟩
theorem ev4 {xs : Nat → Int32} {k : Nat} {A B : SI} {JA JB : SJ} (h : P2 A JA B JB) : Nd4 xs k A JA B JB P2 := by
  unfold Nd4
  exact ⟨(m_mark h.1.2.1).1, p2q h h.1.1 (KGT.rf _) (fun _ => rfl) (m_mark h.1.2.1).2 (KO.rf _) (JDY.rf _) qt_mark⟩
theorem ev5 {xs : Nat → Int32} {k : Nat} {A B : SI} {JA JB : SJ} (h : P2 A JA B JB) : Nd5 xs k A JA B JB P2 := by
  unfold Nd5
  exact ⟨(m_shot h.1.2.1).1, p2q h h.1.1 (KGT.rf _) (fun _ => rfl) (m_shot h.1.2.1).2 (KO.rf _) (JDY.rf _) qt_shot⟩
theorem ev6 {xs : Nat → Int32} {k : Nat} {A B : SI} {JA JB : SJ} (h : P2 A JA B JB) : Nd6 xs k A JA B JB P2 := by
  unfold Nd6
  exact ⟨(m_way h.1.2.1).1, p2q h h.1.1 (KGT.rf _) (fun _ => rfl) (m_way h.1.2.1).2 (KO.rf _) (JDY.rf _) qt_way⟩
theorem ev7 {xs : Nat → Int32} {k : Nat} {A B : SI} {JA JB : SJ} (h : P2 A JA B JB) : Nd7 xs k A JA B JB P2 := by
  unfold Nd7
  exact ⟨(m_party h.1.2.1).1, p2q h h.1.1 (KGT.rf _) (fun _ => rfl) (m_party h.1.2.1).2 (KO.rf _) (JDY.rf _) qt_party⟩
theorem ev8 {xs : Nat → Int32} {k : Nat} {A B : SI} {JA JB : SJ} (h : P2 A JA B JB) : Nd8 xs k A JA B JB P2 := by
  unfold Nd8
  exact ⟨(m_clerk h.1.2.1).1, p2q h h.1.1 (KGT.rf _) (fun _ => rfl) (m_clerk h.1.2.1).2 (KO.rf _) (JDY.rf _) qt_clerk⟩
theorem ev9 {xs : Nat → Int32} {k : Nat} {A B : SI} {JA JB : SJ} (h : P2 A JA B JB) : Nd9 xs k A JA B JB P2 := by
  unfold Nd9
  exact ⟨(law_C).1, (m_law h.1.2.1).1, p2q h (h.1.1.ki (KI.d (law_C).2)) (KGT.k (law_C).2 (by decide)) (k6_of (KI.d (law_C).2)) (m_law h.1.2.1).2 (KO.d (law_C).2) law_J qt_law⟩
theorem ev10 {xs : Nat → Int32} {k : Nat} {A B : SI} {JA JB : SJ} (h : P2 A JA B JB) : Nd10 xs k A JA B JB P2 := by
  unfold Nd10
  have t := plums_S (a0 := xs (k + 1)) (a1 := xs (k + 2)) (J' := JB) h.1.2.2.2.1 h.2.1
  exact ⟨(m_plums h.1.2.1).1, pp h.1 (h.1.1.ki (plums_K)) (plums_G) (k6_of (plums_K)) (m_plums h.1.2.1).2, t.2, gdf_plums h.2.2⟩
theorem ev11 {xs : Nat → Int32} {k : Nat} {A B : SI} {JA JB : SJ} (h : P2 A JA B JB) : Nd11 xs k A JA B JB P2 := by
  unfold Nd11
  have t := move_S (a0 := xs (k + 1)) (a1 := xs (k + 2)) (J' := JB) h.1.2.2.2.1 h.2.1
  exact ⟨(m_move h.1.2.1).1, pp h.1 (h.1.1.ki (move_K)) (move_G) (k6_of (move_K)) (m_move h.1.2.1).2, t.2, gdf_move h.2.2⟩
theorem ev12 {xs : Nat → Int32} {k : Nat} {A B : SI} {JA JB : SJ} (h : P2 A JA B JB) : Nd12 xs k A JA B JB P2 := by
  unfold Nd12
  have t := tell_S (a0 := xs (k + 1)) (a1 := xs (k + 2)) (J' := JB) h.1.2.2.2.1 h.2.1
  exact ⟨tell_C, (m_tell h.1.2.1).1, pp h.1 (h.1.1.ki (tell_K)) (tell_G) (k6_of (tell_K)) (m_tell h.1.2.1).2, t.2, gdf_tell h.2.2⟩
theorem ev13 {xs : Nat → Int32} {k : Nat} {A B : SI} {JA JB : SJ} (h : P2 A JA B JB) : Nd13 xs k A JA B JB P2 := by
  unfold Nd13
  have t := forget_S (a0 := xs (k + 1)) (J' := JB) h.1.2.2.2.1 h.2.1
  exact ⟨(m_forget h.1.2.1).1, pp h.1 (h.1.1.ki (forget_K)) (forget_G) (k6_of (forget_K)) (m_forget h.1.2.1).2, t.2, gdf_forget h.2.2⟩
theorem ev14 {xs : Nat → Int32} {k : Nat} {A B : SI} {JA JB : SJ} (h : P2 A JA B JB) : Nd14 xs k A JA B JB P2 := by
  unfold Nd14
  have t := go_S (a0 := xs (k + 1)) (J' := JB) h.1.2.2.2.1 h.1.2.1 h.2.2 h.2.1
  exact ⟨(go_K h.1.1).1, (m_go h.1.2.1).1, pp h.1 (h.1.1.ki ((go_K h.1.1).2)) (KGT.k (go_C h.1.1.1.1).2.1 (by decide)) (k6_of ((go_K h.1.1).2)) (m_go h.1.2.1).2, t.2⟩
theorem ev15 {xs : Nat → Int32} {k : Nat} {A B : SI} {JA JB : SJ} (h : P2 A JA B JB) : Nd15 xs k A JA B JB P2 := by
  unfold Nd15
  exact ⟨(ahead_C h.1.1.1.1).1, (m_ahead h.1.2.1).1, p2q h (h.1.1.ki (KI.d (ahead_C h.1.1.1.1).2)) (KGT.k (ahead_C h.1.1.1.1).2 (by decide)) (k6_of (KI.d (ahead_C h.1.1.1.1).2)) (m_ahead h.1.2.1).2 (KO.d (ahead_C h.1.1.1.1).2) ahead_J (qt_ahead h.1.2.1.1)⟩
theorem ev16 {xs : Nat → Int32} {k : Nat} {A B : SI} {JA JB : SJ} (h : P2 A JA B JB) : Nd16 xs k A JA B JB P2 := by
  unfold Nd16
  exact ⟨(m_breaks h.1.2.1).1, p2q h h.1.1 (KGT.rf _) (fun _ => rfl) (m_breaks h.1.2.1).2 (KO.rf _) (JDY.rf _) qt_breaks⟩
theorem ev17 {xs : Nat → Int32} {k : Nat} {A B : SI} {JA JB : SJ} (h : P2 A JA B JB) : Nd17 xs k A JA B JB P2 := by
  unfold Nd17
  exact ⟨(agrees_C h.1.1.1.1).1, (m_agrees h.1.2.1).1, p2q h (h.1.1.ki (KI.d (agrees_C h.1.1.1.1).2)) (KGT.k (agrees_C h.1.1.1.1).2 (by decide)) (k6_of (KI.d (agrees_C h.1.1.1.1).2)) (m_agrees h.1.2.1).2 (KO.d (agrees_C h.1.1.1.1).2) agrees_J (qt_agrees h.1.2.1.1)⟩
theorem ev18 {xs : Nat → Int32} {k : Nat} {A B : SI} {JA JB : SJ} (h : P2 A JA B JB) : Nd18 xs k A JA B JB P2 := by
  unfold Nd18
  exact ⟨(least_C h.1.1.1).1, (m_least h.1.2.1).1, p2q h (h.1.1.ki (KI.o (least_C h.1.1.1).2)) (KGT.o (least_C h.1.1.1).2) (k6_of (KI.o (least_C h.1.1.1).2)) (m_least h.1.2.1).2 ((least_C h.1.1.1).2) least_J qt_least⟩
theorem ev19 {xs : Nat → Int32} {k : Nat} {A B : SI} {JA JB : SJ} (h : P2 A JA B JB) : Nd19 xs k A JA B JB P2 := by
  unfold Nd19
  exact ⟨(order_C h.1.1.1.1).1, (m_order h.1.2.1).1, p2q h (h.1.1.ki (KI.o (order_C h.1.1.1.1).2)) (KGT.o (order_C h.1.1.1.1).2) (k6_of (KI.o (order_C h.1.1.1.1).2)) (m_order h.1.2.1).2 ((order_C h.1.1.1.1).2) order_J (qt_order h.1.2.1)⟩
theorem ev20 {xs : Nat → Int32} {k : Nat} {A B : SI} {JA JB : SJ} (h : P2 A JA B JB) : Nd20 xs k A JA B JB P2 := by
  unfold Nd20
  exact ⟨(m_noted h.1.2.1).1, p2q h h.1.1 (KGT.rf _) (fun _ => rfl) (m_noted h.1.2.1).2 (KO.rf _) (JDY.rf _) qt_noted⟩
theorem ev21 {xs : Nat → Int32} {k : Nat} {A B : SI} {JA JB : SJ} (h : P2 A JA B JB) : Nd21 xs k A JA B JB P2 := by
  unfold Nd21
  exact ⟨(bribe_C h.1.1.1.1).1, (m_bribe h.1.2.1).1, p2q h (h.1.1.ki (KI.d (bribe_C h.1.1.1.1).2)) (KGT.k (bribe_C h.1.1.1.1).2 (by decide)) (k6_of (KI.d (bribe_C h.1.1.1.1).2)) (m_bribe h.1.2.1).2 (KO.d (bribe_C h.1.1.1.1).2) bribe_J (qt_bribe h.1.2.1.1)⟩
theorem ev22 {xs : Nat → Int32} {k : Nat} {A B : SI} {JA JB : SJ} (h : P2 A JA B JB) : Nd22 xs k A JA B JB P2 := by
  unfold Nd22
  exact ⟨(m_rests h.1.2.1).1, p2q h h.1.1 (KGT.rf _) (fun _ => rfl) (m_rests h.1.2.1).2 (KO.rf _) (JDY.rf _) qt_rests⟩
theorem ev23 {xs : Nat → Int32} {k : Nat} {A B : SI} {JA JB : SJ} (h : P2 A JA B JB) : Nd23 xs k A JA B JB P2 := by
  unfold Nd23
  exact ⟨(m_rest h.1.2.1).1, p2q h h.1.1 (KGT.rf _) (fun _ => rfl) (m_rest h.1.2.1).2 (KO.rf _) (JDY.rf _) qt_rest⟩
theorem ev24 {xs : Nat → Int32} {k : Nat} {A B : SI} {JA JB : SJ} (h : P2 A JA B JB) : Nd24 xs k A JA B JB P2 := by
  unfold Nd24
  exact ⟨there_C, (m_there h.1.2.1).1, p2q h h.1.1 (KGT.rf _) (fun _ => rfl) (m_there h.1.2.1).2 (KO.rf _) (JDY.rf _) qt_there⟩
theorem ev25 {xs : Nat → Int32} {k : Nat} {A B : SI} {JA JB : SJ} (h : P2 A JA B JB) : Nd25 xs k A JA B JB P2 := by
  unfold Nd25
  exact ⟨(without_C h.1.1.1.1).1, (m_without h.1.2.1).1, p2q h (h.1.1.ki (KI.d (without_C h.1.1.1.1).2)) (KGT.k (without_C h.1.1.1.1).2 (by decide)) (k6_of (KI.d (without_C h.1.1.1.1).2)) (m_without h.1.2.1).2 (KO.d (without_C h.1.1.1.1).2) without_J (qt_without h.1.2.1.1 h.2.2)⟩
theorem ev26 {xs : Nat → Int32} {k : Nat} {A B : SI} {JA JB : SJ} (h : P2 A JA B JB) : Nd26 xs k A JA B JB P2 := by
  unfold Nd26
  exact ⟨(m_run h.1.2.1).1, p2q h h.1.1 (KGT.rf _) (fun _ => rfl) (m_run h.1.2.1).2 (KO.rf _) (JDY.rf _) qt_run⟩
theorem ev27 {xs : Nat → Int32} {k : Nat} {A B : SI} {JA JB : SJ} (h : P2 A JA B JB) : Nd27 xs k A JA B JB P2 := by
  unfold Nd27
  exact ⟨(m_believed h.1.2.1).1, p2q h h.1.1 (KGT.rf _) (fun _ => rfl) (m_believed h.1.2.1).2 (KO.rf _) (JDY.rf _) qt_believed⟩
theorem ev28 {xs : Nat → Int32} {k : Nat} {A B : SI} {JA JB : SJ} (h : P2 A JA B JB) : Nd28 xs k A JA B JB P2 := by
  unfold Nd28
  have t := pp_see (a0 := xs (k + 1)) (a1 := xs (k + 2)) (a2 := bz (xs (k + 3))) h.1
  exact ⟨(m_see h.1.2.1).1, p2s h t.2 see_132 see_A qt_see⟩
theorem ev29 {xs : Nat → Int32} {k : Nat} {A B : SI} {JA JB : SJ} (h : P2 A JA B JB) : Nd29 xs k A JA B JB P2 := by
  unfold Nd29
  have t := pp_out (a0 := xs (k + 1)) h.1
  exact ⟨(m_out h.1.2.1).1, p2s h t.2 out_132 out_A qt_out⟩
theorem ev30 {xs : Nat → Int32} {k : Nat} {A B : SI} {JA JB : SJ} (h : P2 A JA B JB) : Nd30 xs k A JA B JB P2 := by
  unfold Nd30
  have t := pp_known (a0 := xs (k + 1)) h.1
  exact p2s h t.2 known_132 known_A qt_known
theorem ev31 {xs : Nat → Int32} {k : Nat} {A B : SI} {JA JB : SJ} (h : P2 A JA B JB) : Nd31 xs k A JA B JB P2 := by
  unfold Nd31
  exact ⟨(struck_C h.1.1.1.1 h.1.1.2.1).1, (m_struckHow h.1.2.1).1, p2q h (h.1.1.ki (KI.d (struck_C h.1.1.1.1 h.1.1.2.1).2)) (KGT.k (struck_C h.1.1.1.1 h.1.1.2.1).2 (by decide)) (k6_of (KI.d (struck_C h.1.1.1.1 h.1.1.2.1).2)) (m_struckHow h.1.2.1).2 (KO.d (struck_C h.1.1.1.1 h.1.1.2.1).2) struck_J (qt_struck h.1.2.1.1 h.2.2)⟩
theorem ev32 {xs : Nat → Int32} {k : Nat} {A B : SI} {JA JB : SJ} (h : P2 A JA B JB) : Nd32 xs k A JA B JB P2 := by
  unfold Nd32
  exact ⟨(chance_C h.1.1.1.1).1, (m_chance h.1.2.1).1, p2q h (h.1.1.ki (KI.d (chance_C h.1.1.1.1).2)) (KGT.k (chance_C h.1.1.1.1).2 (by decide)) (k6_of (KI.d (chance_C h.1.1.1.1).2)) (m_chance h.1.2.1).2 (KO.d (chance_C h.1.1.1.1).2) chance_J (qt_chance h.1.2.1.1)⟩
theorem ev33 {xs : Nat → Int32} {k : Nat} {A B : SI} {JA JB : SJ} (h : P2 A JA B JB) : Nd33 xs k A JA B JB P2 := by
  unfold Nd33
  exact ⟨(tried_C h.1.1.1.1).1, (m_tried h.1.2.1).1, p2q h (h.1.1.ki (KI.d (tried_C h.1.1.1.1).2)) (KGT.k (tried_C h.1.1.1.1).2 (by decide)) (k6_of (KI.d (tried_C h.1.1.1.1).2)) (m_tried h.1.2.1).2 (KO.d (tried_C h.1.1.1.1).2) tried_J (qt_tried h.1.2.1.1 h.2.2)⟩
theorem ev34 {xs : Nat → Int32} {k : Nat} {A B : SI} {JA JB : SJ} (h : P2 A JA B JB) : Nd34 xs k A JA B JB P2 := by
  unfold Nd34
  have t := undo_S (J' := JB) h.2.1
  exact ⟨(m_undo h.1.2.1).1, pp h.1 (h.1.1.ki (undo_K)) (undo_G) (k6_of (undo_K)) (m_undo h.1.2.1).2, t.2, gdf_undo h.2.2⟩
theorem ev35 {xs : Nat → Int32} {k : Nat} {A B : SI} {JA JB : SJ} (h : P2 A JA B JB) : Nd35 xs k A JA B JB P2 := by
  unfold Nd35
  have t := keep_S (J' := JB) h.2.2 h.2.1
  exact ⟨(m_keep h.1.2.1).1, pp h.1 (h.1.1.ki (keep_K)) (keep_G) (k6_of (keep_K)) (m_keep h.1.2.1).2, t.2⟩
theorem ev36 {xs : Nat → Int32} {k : Nat} {A B : SI} {JA JB : SJ} (h : P2 A JA B JB) : Nd36 xs k A JA B JB P2 := by
  unfold Nd36
  have t := back_S (J' := JB) h.2.2 h.2.1
  exact ⟨(m_back h.1.2.1).1, pp h.1 (h.1.1.ki (back_K)) (back_G) (k6_of (back_K)) (m_back h.1.2.1).2, t.2⟩
theorem ev37 {xs : Nat → Int32} {k : Nat} {A B : SI} {JA JB : SJ} (h : P2 A JA B JB) : Nd37 xs k A JA B JB P2 := by
  unfold Nd37
  exact ⟨(m_count h.1.2.1).1, count_val h.1.2.2.2.1 h.1.2.2.2.2 h.1.2.1.gk h.2.1, p2q h h.1.1 (KGT.rf _) (fun _ => rfl) (m_count h.1.2.1).2 (KO.rf _) (JDY.rf _) qt_count⟩
theorem any_need {key : Int32} {xs : Nat → Int32} {k : Nat} {A B : SI} {JA JB : SJ} (h : P2 A JA B JB) : Need key xs k A JA B JB P2 :=
  nd_ite (ev0 h) (nd_ite (ev1 h) (nd_ite (ev2 h) (nd_ite (ev3 h) (nd_ite (ev4 h) (nd_ite (ev5 h) (nd_ite (ev6 h) (nd_ite (ev7 h) (nd_ite (ev8 h) (nd_ite (ev9 h) (nd_ite (ev10 h) (nd_ite (ev11 h) (nd_ite (ev12 h) (nd_ite (ev13 h) (nd_ite (ev14 h) (nd_ite (ev15 h) (nd_ite (ev16 h) (nd_ite (ev17 h) (nd_ite (ev18 h) (nd_ite (ev19 h) (nd_ite (ev20 h) (nd_ite (ev21 h) (nd_ite (ev22 h) (nd_ite (ev23 h) (nd_ite (ev24 h) (nd_ite (ev25 h) (nd_ite (ev26 h) (nd_ite (ev27 h) (nd_ite (ev28 h) (nd_ite (ev29 h) (nd_ite (ev30 h) (nd_ite (ev31 h) (nd_ite (ev32 h) (nd_ite (ev33 h) (nd_ite (ev34 h) (nd_ite (ev35 h) (nd_ite (ev36 h) (nd_ite (ev37 h) h)))))))))))))))))))))))))))))))))))))
/-! at the start -/
theorem a0_v : ∀ q ∈ ([(3, 1, 0), (8, 1, 0), (13, 1, 0), (116, 0, 0), (116, 1, -1), (43, 0, 6), (48, 0, 8), (53, 0, 4), (0, 1, 0)] : List (Nat × Nat × Int32)), A0 q.1 q.2.1 = q.2.2 := by decide +kernel
theorem a0_6 : ∀ b, b < 8 → A0 6 b = 0 := by decide +kernel
theorem a0_117 : ∀ b, b < 24 → A0 117 b = 0 := by decide +kernel
theorem b0_v : ∀ q ∈ ([(132, 0, 0), (132, 1, 0), (132, 3, 0), (132, 4, 0), (132, 5, 0), (132, 6, 0), (130, 2, 0), (130, 54, 0), (130, 68, 0), (130, 69, -1)] : List (Nat × Nat × Int32)), B0 q.1 q.2.1 = q.2.2 := by decide +kernel
theorem b0_l : ∀ k, k < 3 → B0 148 k = 0 ∧ B0 149 k = 0 := by decide +kernel
theorem b0_m : (∀ b, b < 8 → B0 141 b = 0) ∧ ∀ b, b < 12 → B0 135 b = 0 := by decide +kernel
theorem b0_r : (∀ b, b < 24 → B0 174 b = 0 ∧ B0 173 b = 0 ∧ B0 176 b = 0) ∧ ∀ b, b < 4 → B0 170 b = 0 ∧ B0 171 b = 0 := by decide +kernel
def a0s (a : Nat) : Bool := Nat.ble a 3 || a == 8 || a == 13 || a == 18 || a == 23 || a == 28 || (Nat.ble 29 a && Nat.ble a 43) || a == 48 || a == 53 || a == 58 || a == 63
theorem a0_z' : ∀ a, a < 68 → ∀ i, i < 8 → a0s a = true ∨ A0 a i = 0 := by decide +kernel
theorem a0_z (a i : Nat) (h : 4 ≤ a ∧ a < 68) (q : ¬ (a = 8 ∨ a = 13 ∨ a = 18 ∨ a = 23 ∨ a = 28 ∨ (29 ≤ a ∧ a ≤ 43) ∨ a = 48 ∨ a = 53 ∨ a = 58 ∨ a = 63)) (u : i < 8) : A0 a i = 0 := (a0_z' a h.2 i u).resolve_left (fun z => by
  unfold a0s at z
  simp only [Bool.or_eq_true, Bool.and_eq_true, Nat.ble_eq, beq_iff_eq] at z
  omega)
theorem a0_n : A0 43 0 = nI 6 ∧ A0 43 1 = 0 ∧ A0 48 0 = nI 8 ∧ A0 48 1 = 0 ∧ A0 53 0 = nI 4 ∧ A0 53 1 = 0 ∧ A0 58 0 = nI 4 ∧ A0 58 1 = 0 ∧ A0 63 0 = nI 3 ∧ A0 63 1 = 0 := by decide +kernel
theorem a0_w : WD A0 := by unfold WD; decide +kernel
theorem a0_f : A0 41 1 = B0 130 32 ∧ A0 41 2 = B0 130 33 := by decide +kernel
theorem a0_k : A0 18 1 = 0 ∧ A0 23 1 = 0 := by decide +kernel
theorem a0_s : A0 2 7 = B0 132 6 ∧ A0 2 7 = nI (A0 2 7).toNatClampNeg ∧ (A0 2 7).toNatClampNeg < 101 ∧ A0 2 8 = B0 132 7 ∧ A0 2 8 = nI (A0 2 8).toNatClampNeg ∧ (A0 2 8).toNatClampNeg < 1000 ∧ A0 2 9 = B0 132 8 ∧ A0 2 9 = nI (A0 2 9).toNatClampNeg ∧ (A0 2 9).toNatClampNeg < 100000 ∧ A0 2 11 = B0 132 9 := by decide +kernel
theorem a0_28 : ∀ i, i < 48 → A0 28 i = -1 := by decide +kernel
theorem a0_l : ∀ k, k < 3 → A0 (29 + 4 * k) 0 = 0 ∧ A0 (29 + 4 * k) 1 = 0 := by decide +kernel
theorem pp0 : PP A0 J1 B0 J1 := by
  have a := fun (x y : Nat) (v : Int32) (m : (x, y, v) ∈ ([(3, 1, 0), (8, 1, 0), (13, 1, 0), (116, 0, 0), (116, 1, -1), (43, 0, 6), (48, 0, 8), (53, 0, 4), (0, 1, 0)] : List (Nat × Nat × Int32))) => show A0 x y = v from a0_v _ m
  have b := fun (x y : Nat) (v : Int32) (m : (x, y, v) ∈ ([(132, 0, 0), (132, 1, 0), (132, 3, 0), (132, 4, 0), (132, 5, 0), (132, 6, 0), (130, 2, 0), (130, 54, 0), (130, 68, 0), (130, 69, -1)] : List (Nat × Nat × Int32))) => show B0 x y = v from b0_v _ m
  have c : CI A0 := ⟨⟨⟨by rw [a 3 1 0 (by decide)]; exact cn_0, by rw [a 8 1 0 (by decide)]; exact cn_0, by rw [a 13 1 0 (by decide)]; exact cn_0⟩, fun q z => by rw [a0_6 q z]; exact cn_0⟩, ⟨by rw [a 116 0 0 (by decide)]; exact cn_0, Or.inl (a 116 1 (-1) (by decide)), fun q z => by rw [a0_117 q z]; exact cn_0⟩, ⟨by rw [a 43 0 6 (by decide)]; exact ⟨rfl, by decide⟩, by rw [a 48 0 8 (by decide)]; exact ⟨rfl, by decide⟩, by rw [a 53 0 4 (by decide)]; exact ⟨rfl, by decide⟩⟩⟩
  have s : SM B0 := ⟨by rw [b 132 0 0 (by decide)]; exact cn_0, by rw [b 132 1 0 (by decide)]; exact cn_0, by rw [b 132 3 0 (by decide)]; exact cn_0, by rw [b 132 4 0 (by decide)]; exact cn_0, by rw [b 132 5 0 (by decide)]; exact cn_0, by rw [b 132 6 0 (by decide)]; exact cn_0, fun q z => by rw [b0_m.1 q z]; exact cn_0, fun q z => by rw [b0_m.2 q z]; exact cn_0, fun q z => ⟨0, 0, (b0_l q z).1, (b0_l q z).2, by omega, trivial⟩⟩
  have e0 : A0 0 1 = 0 := a 0 1 0 (by decide)
  have m : MW B0 B0 := ⟨s, (fun _ _ _ => rfl), by rw [b 130 54 0 (by decide)]; exact cn_0, by rw [b 130 68 0 (by decide)]; exact cn_0, Or.inl (b 130 69 (-1) (by decide)), fun q z => by rw [(b0_r.1 q z).1]; exact cn_0, fun q z => by rw [(b0_r.1 q z).2.1]; exact cn_0, fun q z => Or.inr (by rw [(b0_r.1 q z).2.2]; exact cn_0), fun q z => by rw [(b0_r.2 q z).1]; exact cn_0, fun q z => by rw [(b0_r.2 q z).2]; exact cn_0⟩
  have tb : ∀ (k w mx : Nat) (rs : List (Nat × Nat)), A0 k 1 = 0 → B0 132 w = 0 → (k = 3 ∨ k = 8 ∨ k = 13 ∨ k = 18 ∨ k = 23) → TBT k w mx rs A0 B0 := fun k w mx rs h1 h2 hk => ⟨0, by omega, h1, h2, fun i hi => absurd hi (by omega), fun j i x y _ u => a0_z (k + j) i (by omega) (by omega) u⟩
  have zt : ∀ (k mx : Nat), A0 k 0 = nI mx → A0 k 1 = 0 → (k = 43 ∨ k = 48 ∨ k = 53 ∨ k = 58 ∨ k = 63) → ZT k mx A0 := fun k mx h1 h2 hk => ⟨h1, 0, by omega, h2, fun j i x y _ u => a0_z (k + j) i (by omega) (by omega) u⟩
  have n := a0_n
  have gt : GTL A0 B0 := ⟨⟨0, by omega, e0, b 130 2 0 (by decide)⟩, fun q => by rw [a0_1 q, b0_1 q]; decide, ⟨zt 43 6 n.1 n.2.1 (by omega), zt 48 8 n.2.2.1 n.2.2.2.1 (by omega), zt 53 4 n.2.2.2.2.1 n.2.2.2.2.2.1 (by omega), zt 58 4 n.2.2.2.2.2.2.1 n.2.2.2.2.2.2.2.1 (by omega), zt 63 3 n.2.2.2.2.2.2.2.2.1 n.2.2.2.2.2.2.2.2.2 (by omega), a0_w⟩, a0_f.1, a0_f.2, tb 3 0 6 _ (a 3 1 0 (by decide)) (b 132 0 0 (by decide)) (by omega), tb 8 1 8 _ (a 8 1 0 (by decide)) (b 132 1 0 (by decide)) (by omega), tb 13 3 4 _ (a 13 1 0 (by decide)) (b 132 3 0 (by decide)) (by omega), tb 18 4 4 _ a0_k.1 (b 132 4 0 (by decide)) (by omega), tb 23 5 3 _ a0_k.2 (b 132 5 0 (by decide)) (by omega), Or.inl (a 8 1 0 (by decide)), ⟨a0_s.1, ⟨a0_s.2.1, a0_s.2.2.1⟩⟩, ⟨a0_s.2.2.2.1, ⟨a0_s.2.2.2.2.1, a0_s.2.2.2.2.2.1⟩⟩, ⟨a0_s.2.2.2.2.2.2.1, ⟨a0_s.2.2.2.2.2.2.2.1, a0_s.2.2.2.2.2.2.2.2.1⟩⟩, a0_s.2.2.2.2.2.2.2.2.2, ⟨fun k hk => Or.inl ⟨(a0_l k hk).1, (a0_l k hk).2, (b0_l k hk).1, (b0_l k hk).2⟩, fun i hi => ⟨Or.inl (a0_28 i hi), fun z => by
    rw [a 13 1 0 (by decide)] at z
    exact absurd z (Nat.not_lt_zero _)⟩⟩⟩
  exact ⟨c, m, by rw [e0]; exact cn_0, gt, (a 116 0 0 (by decide)).trans (b 130 68 0 (by decide)).symm, (a 116 1 (-1) (by decide)).trans (b 130 69 (-1) (by decide)).symm⟩
theorem a0_zz : ∀ b, b < 24 → A0 0 6 = 0 := fun _ _ => by decide +kernel
theorem b0_g : B0 130 53 = 0 ∧ B0 130 54 = 0 ∧ B0 130 55 = 0 ∧ B0 130 56 = -1 ∧ B0 130 57 = -1 ∧ B0 130 59 = 0 := by decide +kernel
theorem a0_sc : (∀ b, b < 6 → A0 86 b = if b = 1 then 99 else 0) ∧ (∀ b, b < 8 → A0 87 b = 0 ∧ A0 88 b = 0 ∧ A0 89 b = 0) ∧ (∀ b, b < 6 → A0 91 b = -1 ∧ A0 92 b = 0) ∧ (∀ b, b < 4 → A0 93 b = 0 ∧ A0 94 b = 0) ∧ A0 120 0 = 0 ∧ A0 3 1 = 0 ∧ A0 8 1 = 0 := by decide +kernel
theorem b0_sc : (B0 154 0 = 0 ∧ B0 155 0 = 0 ∧ B0 156 0 = 99 ∧ B0 157 0 = 0 ∧ B0 158 0 = 0 ∧ B0 159 0 = 0) ∧ (∀ b, b < 8 → B0 162 b = 0 ∧ B0 163 b = 0 ∧ B0 164 b = 0) ∧ (∀ b, b < 6 → B0 160 b = -1 ∧ B0 161 b = 0) ∧ (∀ b, b < 4 → B0 166 b = 0 ∧ B0 167 b = 0) ∧ B0 132 0 = 0 ∧ B0 132 1 = 0 := by decide +kernel
theorem j1_0 : J1 86 6 = 0 := by decide +kernel
theorem p20 : P2 A0 J1 B0 J1 := by
  obtain ⟨s1, s2, s3, s4, s5, s6, s7⟩ := a0_sc
  obtain ⟨⟨r0, r1, r2, r3, r4, r5⟩, q1, q2, q3, q4, q5⟩ := b0_sc
  obtain ⟨g1, g2, g3, g4, g5, g6⟩ := b0_g
  refine ⟨pp0, ⟨0, 0, ⟨by omega, by omega, s6, s7, q4, q5⟩, ⟨⟨?_, ?_, ?_, ?_, ?_, ?_⟩, ?_, fun s hs => ?_, fun s m hs _ => absurd hs (Nat.not_lt_zero s), fun m hm => ?_, fun q hq => ?_⟩, Or.inl ⟨a0_zz 0 (by omega), g1⟩, 0, by omega, g2, s5⟩, g3, g4, g5, g6⟩
  · rw [s1 0 (by omega), r0]; rfl
  · rw [s1 1 (by omega), r2]; rfl
  · rw [s1 2 (by omega), r3]; rfl
  · rw [s1 4 (by omega), r5]; rfl
  · rw [s1 5 (by omega), r4]; rfl
  · rw [j1_0, r1]; rfl
  · rw [s1 3 (by omega)]
    refine (itN_inv (P := fun x => x = 0) rfl (fun i x hi q => ?_)).symm
    rw [q, Nat.mul_zero, Nat.zero_add, (q1 i hi).2.2]
    rfl
  · rw [Nat.mul_zero, Nat.zero_add]
    have x := s2 s hs
    have y := q1 s hs
    exact ⟨⟨x.1.trans y.1.symm, x.2.1.trans y.2.1.symm, x.2.2.trans y.2.2.symm⟩, Or.inl x.2.1⟩
  · rw [Nat.mul_zero, Nat.zero_add]
    have x := s3 m hm
    have y := q2 m hm
    exact ⟨⟨x.1.trans y.1.symm, x.2.trans y.2.symm⟩, Or.inl x.1, fun _ => x.2⟩
  · rw [Nat.mul_zero, Nat.zero_add]
    have x := s4 q hq
    have y := q3 q hq
    refine ⟨⟨x.1.trans y.1.symm, x.2.trans y.2.symm⟩, ?_⟩
    show inR (A0 93 q) 1000
    rw [x.1]
    exact ⟨rfl, by decide⟩
/-- the claim's walk -/
theorem whole_start {p : Program} {e : Env} {s : State} {m : MethodId} {below : List Frame} {meth : Method} {c : Code} (l : Launch) (hflags : l.flags = flags0) {b L : Nat} {xs : Nat → Int32} (hL : L ≤ 3072) (C0 : lw_At p s m meth c b L xs) : W p l e room_1 s m #[Value.ref b] below meth c s.heap [] 0 0 (lw_Z below #[Value.ref b] s) (entryFrame m ([Value.ref b] : List Value).toArray 7) := by
  obtain ⟨cy, D, ok, sc, hE⟩ := law_ok (e := e) (below := below) l (show L < 2 ^ 31 by omega) C0
  refine law_start l (cy := cy) (D := D) ?_
  refine law_init ok ⟨Nat.le_of_ble_eq_true rfl, Nat.le_of_ble_eq_true rfl⟩ ?_
  have kl : Jvm.Launch.stackTraces l = false := by
    unfold Jvm.Launch.stackTraces
    rw [hflags]
    decide +kernel
  have key : ∀ (n k cl sl g : Nat) (A B : SI) (JA JB : SJ) (R : SR), L < k + 6 * n + 6 → k ≤ 4000 → cl + n ≤ 5000 → sl + 6 * n ≤ 50000 → P2 A JA B JB → RO R → RM R → WL (p, l, e, room_1, s, m, #[Value.ref b], below, meth, c, lw_Z below #[Value.ref b] s, cy, D, s.heap.size, 7) b cl sl 23 [(1, .ref 0), (2, .ref 130), (3, .ref 178), (4, .int (nI k))] [] (mI A B) (mJ JA JB) R 179 g := by
    intro n
    induction n with
    | zero =>
      intro k cl sl g A B JA JB R h1 h2 _ _ _ _ _
      exact law_head (k := k) ok sc (by omega) (by omega) (fun h => absurd h (by omega)) (fun _ => q_end C0)
    | succ n ih =>
      intro k cl sl g A B JA JB R h1 h2 h3 h4 hp ro rm
      refine law_head (k := k) ok sc (by omega) (by omega) (fun h6 => ?_) (fun _ => q_end C0)
      refine law_round (k := k) ok sc ro rm (by omega) kl hE ⟨Nat.le_trans (show cl + 1 ≤ 5000 by omega) (Nat.le_of_ble_eq_true rfl), Nat.le_trans (show sl + 6 ≤ 50000 by omega) (Nat.le_of_ble_eq_true rfl)⟩ (any_need hp) ?_
      intro A1 JA1 B1 JB1 R1 cl1 sl1 g1 hp1 ro1 rm1 hc hs
      refine law_next ok ?_
      exact ih (k + 6) cl1 sl1 g1 A1 B1 JA1 JB1 R1 (by omega) (by omega) (by omega) (by omega) hp1 ro1 rm1
  exact key 512 0 179 6901 0 A0 B0 J1 J1 R0 (by omega) (by omega) (by omega) (by omega) p20 ro_0 rm_0
