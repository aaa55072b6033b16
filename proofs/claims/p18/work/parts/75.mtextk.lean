def mt (I : SI) : Nat := if I 130 30 = 0 then 703 - psn I else 0
theorem m_text {tp : SI} {a0 : Int32} {I : SI} {J : SJ} (h : MW tp I) (ht : inR (tp 130 2) 701) : H_X12_text a0 I J ∧ MW (FI_X12_text a0 I J) (FI_X12_text a0 I J) ∧ FI_X12_text a0 I J 130 2 = (if a0 < 0 then tp 130 2 else if a0 ≤ tp 130 2 then 0 else tp 130 2) := by
  have e2 : u2 I 130 0 0 130 2 = tp 130 2 := (u2_n _ _ (by omega)).trans (h.gt 130 2 (by omega))
  have ha : ¬ a0 < 0 → a0 ≤ u2 I 130 0 0 130 2 → inR a0 701 := fun c c2 => by
    obtain ⟨j, hj, e⟩ := ht.n
    rw [e2, e] at c2
    exact (in_le (N := j) (by omega) c c2).le (by omega)
  have T := fun (c : ¬ a0 < 0) (c2 : a0 ≤ u2 I 130 0 0 130 2) => tx1 (a0 := a0) (J := J) h.1 (ha c c2)
  have L := fun (c : ¬ a0 < 0) (c2 : a0 ≤ u2 I 130 0 0 130 2) => whl (f := B_X12_text_w150 a0 I J) (s0 := (FI_X12_token (S3_X12_text a0 I J) J, J)) (fun s => EI s.1 ∧ PO s.1 ∧ KL (FI_X12_token (S3_X12_text a0 I J) J) s.1) (fun s => EI s.1 ∧ PO s.1 ∧ KL (FI_X12_token (S3_X12_text a0 I J) J) s.1) (fun s => mt s.1) ⟨(T c c2).2.1, (T c c2).2.2.1, fun _ _ _ => rfl⟩ (by show mt _ < 800; unfold mt; split <;> omega) (fun s s' hs hf => by
    unfold B_X12_text_w150 at hf
    by_cases f0 : s.1 130 30 = 0
    · rw [if_pos f0] at hf
      by_cases f1 : s.1 130 28 = 4
      · rw [if_pos f1] at hf; cases hf
      · rw [if_neg f1] at hf
        have l := line_E (J := s.2) hs.1 hs.2.1
        rw [← Sum.inl.inj hf]
        refine ⟨⟨l.2.1.1, l.2.1.2.1, fun a b z => (l.2.1.2.2.1 a b z).trans (hs.2.2 a b z)⟩, ?_⟩
        have q : psn s.1 < 702 := hs.1.1.2.2
        show mt (FI_X12_line s.1 s.2) < mt s.1
        unfold mt
        rw [if_pos f0]
        by_cases f2 : FI_X12_line s.1 s.2 130 30 = 0
        · rw [if_pos f2]; have := l.2.2 f2; omega
        · rw [if_neg f2]; omega
    · rw [if_neg f0] at hf; cases hf) (fun s r hs hf => by
    unfold B_X12_text_w150 at hf
    repeat' split at hf
    all_goals cases hf
    all_goals exact hs)
  have Rq := fun (c : ¬ a0 < 0) (c2 : a0 ≤ u2 I 130 0 0 130 2) => show EI (F_X12_text_w150 a0 I J (FI_X12_token (S3_X12_text a0 I J) J, J)).1 ∧ PO (F_X12_text_w150 a0 I J (FI_X12_token (S3_X12_text a0 I J) J, J)).1 ∧ KL (FI_X12_token (S3_X12_text a0 I J) J) (F_X12_text_w150 a0 I J (FI_X12_token (S3_X12_text a0 I J) J, J)).1 by
    unfold F_X12_text_w150
    exact (L c c2).2.2 _
  have b4 : ∀ a b, ¬ (a = 130 ∧ (b = 32 ∨ b = 33)) → (u2 (S4_X12_text a0 I J) 130 33 (S4_X12_text a0 I J 130 31)) a b = (F_X12_text_w150 a0 I J (FI_X12_token (S3_X12_text a0 I J) J, J)).1 a b := fun a b z => by
    refine (u2_n _ _ (by omega)).trans ?_
    unfold S4_X12_text
    exact u2_n _ _ (by omega)
  have X := fun (c : ¬ a0 < 0) (c2 : a0 ≤ u2 I 130 0 0 130 2) => tx2 (a0 := a0) (I := I) (J := J) (fun a b z => b4 a b (by omega)) (Rq c c2).1 (Rq c c2).2.1
  have kR := fun (c : ¬ a0 < 0) (c2 : a0 ≤ u2 I 130 0 0 130 2) => show ∀ a b, dpT a b → (u2 (S4_X12_text a0 I J) 130 33 (S4_X12_text a0 I J 130 31)) a b = I a b from fun a b z => (b4 a b (by unfold dpT dpL at z; omega)).trans (((Rq c c2).2.2 a b z.1).trans ((T c c2).2.2.2.1 a b z))
  have k2 := fun (c : ¬ a0 < 0) (c2 : a0 ≤ u2 I 130 0 0 130 2) => show (u2 (S4_X12_text a0 I J) 130 33 (S4_X12_text a0 I J 130 31)) 130 2 = 0 from (b4 130 2 (by omega)).trans (((Rq c c2).2.2 130 2 (by unfold dpL; omega)).trans (T c c2).2.2.2.2)
  refine ⟨?_, ?_⟩
  · unfold H_X12_text
    exact ⟨fun c c2 => (T c c2).1, fun c c2 => (L c c2).1, fun c c2 _ => (X c c2).1.1, fun c c2 _ => (X c c2).1.2.1, fun c c2 _ => (X c c2).1.2.2.1, fun c c2 _ => (X c c2).1.2.2.2.1, fun c c2 _ => (X c c2).1.2.2.2.2.1, fun c c2 _ => (X c c2).1.2.2.2.2.2.1, fun c c2 _ => (X c c2).1.2.2.2.2.2.2.1, fun c c2 _ => (X c c2).1.2.2.2.2.2.2.2.1, fun c c2 _ => (X c c2).1.2.2.2.2.2.2.2.2.1, fun c c2 _ => (X c c2).1.2.2.2.2.2.2.2.2.2.1, fun c c2 _ => (X c c2).1.2.2.2.2.2.2.2.2.2.2.1, fun c c2 _ => (X c c2).1.2.2.2.2.2.2.2.2.2.2.2.1, fun c c2 _ => (X c c2).1.2.2.2.2.2.2.2.2.2.2.2.2.1, fun c c2 _ => (X c c2).1.2.2.2.2.2.2.2.2.2.2.2.2.2.1, fun c c2 _ => (X c c2).1.2.2.2.2.2.2.2.2.2.2.2.2.2.2.1, fun c c2 _ => (X c c2).1.2.2.2.2.2.2.2.2.2.2.2.2.2.2.2.1, fun c c2 _ => (X c c2).1.2.2.2.2.2.2.2.2.2.2.2.2.2.2.2.2.1, fun c c2 _ => (X c c2).1.2.2.2.2.2.2.2.2.2.2.2.2.2.2.2.2.2.1, fun c c2 _ => (X c c2).1.2.2.2.2.2.2.2.2.2.2.2.2.2.2.2.2.2.2.1, fun c c2 _ => (X c c2).1.2.2.2.2.2.2.2.2.2.2.2.2.2.2.2.2.2.2.2, fun c c2 _ => (bg _ trivial).1, fun c c2 n s hn _ _ => (line_E ((L c c2).2.1 n s hn).1 ((L c c2).2.1 n s hn).2.1).1, fun _ _ i _ hi _ => inR_nI (by omega) (by decide), fun _ _ i _ hi _ => inR_nI (by omega) (by decide), fun _ _ i _ hi _ _ => rd_H hi, fun _ _ i _ hi _ _ => rd_H hi⟩
  · unfold FI_X12_text
    by_cases c : a0 < 0
    · rw [if_pos c, if_pos c]
      exact ⟨(h.u0).self, e2⟩
    · rw [if_neg c, if_neg c]
      by_cases c2 : a0 ≤ u2 I 130 0 0 130 2
      · rw [if_pos c2, if_pos (show a0 ≤ tp 130 2 by rw [← e2]; exact c2)]
        by_cases c3 : (u2 (S4_X12_text a0 I J) 130 33 (S4_X12_text a0 I J 130 31)) 130 30 = 0
        · rw [if_pos c3]
          have x := (X c c2).2
          have b25 : ∀ a b, ¬ (a = 130 ∧ (b = 68 ∨ b = 69 ∨ b = 53 ∨ b = 54)) → S25_X12_text a0 I J a b = S24_X12_text a0 I J a b := fun a b z => by
            unfold S25_X12_text
            exact (u2_n _ _ (by omega)).trans ((u2_n _ _ (by omega)).trans ((u2_n _ _ (by omega)).trans (u2_n _ _ (by omega))))
          have g := (bg (I := S25_X12_text a0 I J) ((F_X12_text_w150 a0 I J (FI_X12_token (S3_X12_text a0 I J) J, J)).2) trivial).2
          have eS : S26_X12_text a0 I J = FI_X12_begins (S25_X12_text a0 I J) ((F_X12_text_w150 a0 I J (FI_X12_token (S3_X12_text a0 I J) J, J)).2) := rfl
          have sm : SM (S26_X12_text a0 I J) := by
            rw [eS]
            exact (x.1.of (fun a b z => b25 a b (by omega))).fr g
          have v : ∀ b, b ≠ 38 → S26_X12_text a0 I J 130 b = S25_X12_text a0 I J 130 b := fun b z => by rw [eS]; exact g 130 b (by omega) (by omega)
          have v54 : S26_X12_text a0 I J 130 54 = 0 := (v 54 (by omega)).trans (by unfold S25_X12_text; exact u2_s _ _ _ _)
          have v68 : S26_X12_text a0 I J 130 68 = 0 := (v 68 (by omega)).trans (by unfold S25_X12_text; exact (u2_n _ _ (by omega)).trans ((u2_n _ _ (by omega)).trans ((u2_n _ _ (by omega)).trans (u2_s _ _ _ _))))
          have v69 : S26_X12_text a0 I J 130 69 = -1 := (v 69 (by omega)).trans (by unfold S25_X12_text; exact (u2_n _ _ (by omega)).trans ((u2_n _ _ (by omega)).trans (u2_s _ _ _ _)))
          refine ⟨h.kl sm (fun a b z => ?_) (by rw [v54]; exact cn_0) (by rw [v68]; exact cn_0) (Or.inl v69), ?_⟩
          · rw [eS]
            exact (g a b (by omega) (by omega)).trans ((b25 a b (by omega)).trans ((x.2 a b (by omega)).trans (kR c c2 a b (by first | exact dpT_k z | (unfold dpT dpL; omega)))))
          · exact (v 2 (by omega)).trans ((b25 130 2 (by omega)).trans ((x.2 130 2 (by omega)).trans (k2 c c2)))
        · rw [if_neg c3]
          have po : PO (u2 (S4_X12_text a0 I J) 130 33 (S4_X12_text a0 I J 130 31)) := (Rq c c2).2.1.at0 (fun a b z => b4 a b (by omega))
          refine ⟨h.kl (h.1.kl (kR c c2) po) (fun a b z => kR c c2 a b (by first | exact dpT_k z | (unfold dpT dpL; omega))) ?_ ?_ ?_, k2 c c2⟩
          · rw [kR c c2 130 54 (by unfold dpT dpL; omega)]; exact h.gn
          · rw [kR c c2 130 68 (by unfold dpT dpL; omega)]; exact h.gs
          · rw [kR c c2 130 69 (by unfold dpT dpL; omega)]; exact h.gk
      · rw [if_neg c2, if_neg (show ¬ a0 ≤ tp 130 2 by rw [← e2]; exact c2)]
        exact ⟨(h.u0).self, e2⟩

