def T_X12_works_j270 (a0 : Int32) (I : SI) (J : SJ) : Int32 := if (lg_cmp (J 153 ((I 130 38) - 2).toNatClampNeg) (J 153 ((I 130 38) - 1).toNatClampNeg)) ≤ 0 then 0 else 1
def S21_X12_works (a0 : Int32) (I : SI) (J : SJ) : SJ := u2 J 153 (((u2 I 130 38 ((I 130 38) - 1)) 130 38) - 1).toNatClampNeg (F_X12_is (T_X12_works_j270 a0 I J) (u2 I 130 38 ((I 130 38) - 1)) J)
def S22_X12_works (a0 : Int32) (I : SI) (J : SJ) : Int32 := lg_cmp (F_X12_is (T_X12_works_j270 a0 I J) (u2 I 130 38 ((I 130 38) - 1)) J) (-1000000000000)
def T_X12_works_j310 (a0 : Int32) (I : SI) (J : SJ) : Int32 := if (0 : Int32) < (lg_cmp (J 153 ((I 130 38) - 2).toNatClampNeg) (J 153 ((I 130 38) - 1).toNatClampNeg)) then 0 else 1
def S23_X12_works (a0 : Int32) (I : SI) (J : SJ) : SJ := u2 J 153 (((u2 I 130 38 ((I 130 38) - 1)) 130 38) - 1).toNatClampNeg (F_X12_is (T_X12_works_j310 a0 I J) (u2 I 130 38 ((I 130 38) - 1)) J)
def S24_X12_works (a0 : Int32) (I : SI) (J : SJ) : Int32 := lg_cmp (F_X12_is (T_X12_works_j310 a0 I J) (u2 I 130 38 ((I 130 38) - 1)) J) (-1000000000000)
def T_X12_works_j350 (a0 : Int32) (I : SI) (J : SJ) : Int32 := if (lg_cmp (J 153 ((I 130 38) - 2).toNatClampNeg) (J 153 ((I 130 38) - 1).toNatClampNeg)) = 0 then 0 else 1
def S25_X12_works (a0 : Int32) (I : SI) (J : SJ) : SJ := u2 J 153 (((u2 I 130 38 ((I 130 38) - 1)) 130 38) - 1).toNatClampNeg (F_X12_is (T_X12_works_j350 a0 I J) (u2 I 130 38 ((I 130 38) - 1)) J)
def S26_X12_works (a0 : Int32) (I : SI) (J : SJ) : Int32 := lg_cmp (F_X12_is (T_X12_works_j350 a0 I J) (u2 I 130 38 ((I 130 38) - 1)) J) (-1000000000000)
def T_X12_works_j330 (a0 : Int32) (I : SI) (J : SJ) : Int32 := if (lg_cmp (J 153 ((I 130 38) - 2).toNatClampNeg) (J 153 ((I 130 38) - 1).toNatClampNeg)) < 0 then 0 else 1
def S27_X12_works (a0 : Int32) (I : SI) (J : SJ) : SJ := u2 J 153 (((u2 I 130 38 ((I 130 38) - 1)) 130 38) - 1).toNatClampNeg (F_X12_is (T_X12_works_j330 a0 I J) (u2 I 130 38 ((I 130 38) - 1)) J)
def S28_X12_works (a0 : Int32) (I : SI) (J : SJ) : Int32 := lg_cmp (F_X12_is (T_X12_works_j330 a0 I J) (u2 I 130 38 ((I 130 38) - 1)) J) (-1000000000000)
def T_X12_works_j376 (a0 : Int32) (I : SI) (J : SJ) : Int32 := if (lg_cmp (J 153 ((I 130 38) - 2).toNatClampNeg) 0) = 0 then 0 else (if (lg_cmp (J 153 ((I 130 38) - 1).toNatClampNeg) 0) = 0 then 0 else 1)
def S29_X12_works (a0 : Int32) (I : SI) (J : SJ) : SJ := u2 J 153 (((u2 I 130 38 ((I 130 38) - 1)) 130 38) - 1).toNatClampNeg (F_X12_is (T_X12_works_j376 a0 I J) (u2 I 130 38 ((I 130 38) - 1)) J)
def S30_X12_works (a0 : Int32) (I : SI) (J : SJ) : Int32 := lg_cmp (F_X12_is (T_X12_works_j376 a0 I J) (u2 I 130 38 ((I 130 38) - 1)) J) (-1000000000000)
def T_X12_works_j402 (a0 : Int32) (I : SI) (J : SJ) : Int32 := if (lg_cmp (J 153 ((I 130 38) - 2).toNatClampNeg) 0) = 0 then (if (lg_cmp (J 153 ((I 130 38) - 1).toNatClampNeg) 0) = 0 then 0 else 1) else 1
def S31_X12_works (a0 : Int32) (I : SI) (J : SJ) : SJ := u2 J 153 (((u2 I 130 38 ((I 130 38) - 1)) 130 38) - 1).toNatClampNeg (F_X12_is (T_X12_works_j402 a0 I J) (u2 I 130 38 ((I 130 38) - 1)) J)
def S32_X12_works (a0 : Int32) (I : SI) (J : SJ) : Int32 := lg_cmp (F_X12_is (T_X12_works_j402 a0 I J) (u2 I 130 38 ((I 130 38) - 1)) J) (-1000000000000)
def F_X12_works (a0 : Int32) (I : SI) (J : SJ) : Int32 := if a0 = 260 then (if (lg_cmp (J 153 ((I 130 38) - 1).toNatClampNeg) 0) = 0 then 1 else 1) else (if a0 = 42 then (if (lg_cmp (J 153 ((I 130 38) - 2).toNatClampNeg) 0) = 0 then (if (0 : Int32) < (S2_X12_works a0 I J) then 0 else (if (S3_X12_works a0 I J) < 0 then 0 else 1)) else (if (S4_X12_works a0 I J) ≤ 0 then (if (0 : Int32) < (S6_X12_works a0 I J) then 0 else (if (S7_X12_works a0 I J) < 0 then 0 else 1)) else 0)) else (if a0 = 43 then (if (0 : Int32) < (S9_X12_works a0 I J) then 0 else (if (S10_X12_works a0 I J) < 0 then 0 else 1)) else (if a0 = 45 then (if (0 : Int32) < (S12_X12_works a0 I J) then 0 else (if (S13_X12_works a0 I J) < 0 then 0 else 1)) else (if a0 = 47 then (if (lg_cmp (J 153 ((I 130 38) - 1).toNatClampNeg) 0) = 0 then 0 else (if (0 : Int32) < (S15_X12_works a0 I J) then 0 else (if (S16_X12_works a0 I J) < 0 then 0 else 1))) else (if a0 = 60 then (if (0 : Int32) < (lg_cmp (F_X12_is (T_X12_works_j250 a0 I J) (u2 I 130 38 ((I 130 38) - 1)) J) 1000000000000) then 0 else (if (S18_X12_works a0 I J) < 0 then 0 else 1)) else (if a0 = 61 then (if (0 : Int32) < (lg_cmp (F_X12_is (T_X12_works_j290 a0 I J) (u2 I 130 38 ((I 130 38) - 1)) J) 1000000000000) then 0 else (if (S20_X12_works a0 I J) < 0 then 0 else 1)) else (if a0 = 62 then (if (0 : Int32) < (lg_cmp (F_X12_is (T_X12_works_j270 a0 I J) (u2 I 130 38 ((I 130 38) - 1)) J) 1000000000000) then 0 else (if (S22_X12_works a0 I J) < 0 then 0 else 1)) else (if a0 = 256 then (if (0 : Int32) < (lg_cmp (F_X12_is (T_X12_works_j310 a0 I J) (u2 I 130 38 ((I 130 38) - 1)) J) 1000000000000) then 0 else (if (S24_X12_works a0 I J) < 0 then 0 else 1)) else (if a0 = 257 then (if (0 : Int32) < (lg_cmp (F_X12_is (T_X12_works_j350 a0 I J) (u2 I 130 38 ((I 130 38) - 1)) J) 1000000000000) then 0 else (if (S26_X12_works a0 I J) < 0 then 0 else 1)) else (if a0 = 258 then (if (0 : Int32) < (lg_cmp (F_X12_is (T_X12_works_j330 a0 I J) (u2 I 130 38 ((I 130 38) - 1)) J) 1000000000000) then 0 else (if (S28_X12_works a0 I J) < 0 then 0 else 1)) else (if a0 = 261 then (if (0 : Int32) < (lg_cmp (F_X12_is (T_X12_works_j376 a0 I J) (u2 I 130 38 ((I 130 38) - 1)) J) 1000000000000) then 0 else (if (S30_X12_works a0 I J) < 0 then 0 else 1)) else (if (0 : Int32) < (lg_cmp (F_X12_is (T_X12_works_j402 a0 I J) (u2 I 130 38 ((I 130 38) - 1)) J) 1000000000000) then 0 else (if (S32_X12_works a0 I J) < 0 then 0 else 1)))))))))))))
def FI_X12_works (a0 : Int32) (I : SI) (J : SJ) : SI := if a0 = 260 then (if (lg_cmp (J 153 ((I 130 38) - 1).toNatClampNeg) 0) = 0 then I else I) else (if a0 = 42 then (if (lg_cmp (J 153 ((I 130 38) - 2).toNatClampNeg) 0) = 0 then (if (0 : Int32) < (S2_X12_works a0 I J) then u2 I 130 38 ((I 130 38) - 1) else (if (S3_X12_works a0 I J) < 0 then u2 I 130 38 ((I 130 38) - 1) else u2 I 130 38 ((I 130 38) - 1))) else (if (S4_X12_works a0 I J) ≤ 0 then (if (0 : Int32) < (S6_X12_works a0 I J) then u2 I 130 38 ((I 130 38) - 1) else (if (S7_X12_works a0 I J) < 0 then u2 I 130 38 ((I 130 38) - 1) else u2 I 130 38 ((I 130 38) - 1))) else u2 I 130 38 ((I 130 38) - 1))) else (if a0 = 43 then (if (0 : Int32) < (S9_X12_works a0 I J) then u2 I 130 38 ((I 130 38) - 1) else (if (S10_X12_works a0 I J) < 0 then u2 I 130 38 ((I 130 38) - 1) else u2 I 130 38 ((I 130 38) - 1))) else (if a0 = 45 then (if (0 : Int32) < (S12_X12_works a0 I J) then u2 I 130 38 ((I 130 38) - 1) else (if (S13_X12_works a0 I J) < 0 then u2 I 130 38 ((I 130 38) - 1) else u2 I 130 38 ((I 130 38) - 1))) else (if a0 = 47 then (if (lg_cmp (J 153 ((I 130 38) - 1).toNatClampNeg) 0) = 0 then u2 I 130 38 ((I 130 38) - 1) else (if (0 : Int32) < (S15_X12_works a0 I J) then u2 I 130 38 ((I 130 38) - 1) else (if (S16_X12_works a0 I J) < 0 then u2 I 130 38 ((I 130 38) - 1) else u2 I 130 38 ((I 130 38) - 1)))) else (if a0 = 60 then (if (0 : Int32) < (lg_cmp (F_X12_is (T_X12_works_j250 a0 I J) (u2 I 130 38 ((I 130 38) - 1)) J) 1000000000000) then u2 I 130 38 ((I 130 38) - 1) else (if (S18_X12_works a0 I J) < 0 then u2 I 130 38 ((I 130 38) - 1) else u2 I 130 38 ((I 130 38) - 1))) else (if a0 = 61 then (if (0 : Int32) < (lg_cmp (F_X12_is (T_X12_works_j290 a0 I J) (u2 I 130 38 ((I 130 38) - 1)) J) 1000000000000) then u2 I 130 38 ((I 130 38) - 1) else (if (S20_X12_works a0 I J) < 0 then u2 I 130 38 ((I 130 38) - 1) else u2 I 130 38 ((I 130 38) - 1))) else (if a0 = 62 then (if (0 : Int32) < (lg_cmp (F_X12_is (T_X12_works_j270 a0 I J) (u2 I 130 38 ((I 130 38) - 1)) J) 1000000000000) then u2 I 130 38 ((I 130 38) - 1) else (if (S22_X12_works a0 I J) < 0 then u2 I 130 38 ((I 130 38) - 1) else u2 I 130 38 ((I 130 38) - 1))) else (if a0 = 256 then (if (0 : Int32) < (lg_cmp (F_X12_is (T_X12_works_j310 a0 I J) (u2 I 130 38 ((I 130 38) - 1)) J) 1000000000000) then u2 I 130 38 ((I 130 38) - 1) else (if (S24_X12_works a0 I J) < 0 then u2 I 130 38 ((I 130 38) - 1) else u2 I 130 38 ((I 130 38) - 1))) else (if a0 = 257 then (if (0 : Int32) < (lg_cmp (F_X12_is (T_X12_works_j350 a0 I J) (u2 I 130 38 ((I 130 38) - 1)) J) 1000000000000) then u2 I 130 38 ((I 130 38) - 1) else (if (S26_X12_works a0 I J) < 0 then u2 I 130 38 ((I 130 38) - 1) else u2 I 130 38 ((I 130 38) - 1))) else (if a0 = 258 then (if (0 : Int32) < (lg_cmp (F_X12_is (T_X12_works_j330 a0 I J) (u2 I 130 38 ((I 130 38) - 1)) J) 1000000000000) then u2 I 130 38 ((I 130 38) - 1) else (if (S28_X12_works a0 I J) < 0 then u2 I 130 38 ((I 130 38) - 1) else u2 I 130 38 ((I 130 38) - 1))) else (if a0 = 261 then (if (0 : Int32) < (lg_cmp (F_X12_is (T_X12_works_j376 a0 I J) (u2 I 130 38 ((I 130 38) - 1)) J) 1000000000000) then u2 I 130 38 ((I 130 38) - 1) else (if (S30_X12_works a0 I J) < 0 then u2 I 130 38 ((I 130 38) - 1) else u2 I 130 38 ((I 130 38) - 1))) else (if (0 : Int32) < (lg_cmp (F_X12_is (T_X12_works_j402 a0 I J) (u2 I 130 38 ((I 130 38) - 1)) J) 1000000000000) then u2 I 130 38 ((I 130 38) - 1) else (if (S32_X12_works a0 I J) < 0 then u2 I 130 38 ((I 130 38) - 1) else u2 I 130 38 ((I 130 38) - 1))))))))))))))
def FJ_X12_works (a0 : Int32) (I : SI) (J : SJ) : SJ := if a0 = 260 then (if (lg_cmp (J 153 ((I 130 38) - 1).toNatClampNeg) 0) = 0 then u2 J 153 ((I 130 38) - 1).toNatClampNeg (F_X12_is 1 I J) else u2 J 153 ((I 130 38) - 1).toNatClampNeg (F_X12_is 0 I J)) else (if a0 = 42 then (if (lg_cmp (J 153 ((I 130 38) - 2).toNatClampNeg) 0) = 0 then (if (0 : Int32) < (S2_X12_works a0 I J) then (S1_X12_works a0 I J) else (if (S3_X12_works a0 I J) < 0 then (S1_X12_works a0 I J) else (S1_X12_works a0 I J))) else (if (S4_X12_works a0 I J) ≤ 0 then (if (0 : Int32) < (S6_X12_works a0 I J) then (S5_X12_works a0 I J) else (if (S7_X12_works a0 I J) < 0 then (S5_X12_works a0 I J) else (S5_X12_works a0 I J))) else J)) else (if a0 = 43 then (if (0 : Int32) < (S9_X12_works a0 I J) then (S8_X12_works a0 I J) else (if (S10_X12_works a0 I J) < 0 then (S8_X12_works a0 I J) else (S8_X12_works a0 I J))) else (if a0 = 45 then (if (0 : Int32) < (S12_X12_works a0 I J) then (S11_X12_works a0 I J) else (if (S13_X12_works a0 I J) < 0 then (S11_X12_works a0 I J) else (S11_X12_works a0 I J))) else (if a0 = 47 then (if (lg_cmp (J 153 ((I 130 38) - 1).toNatClampNeg) 0) = 0 then J else (if (0 : Int32) < (S15_X12_works a0 I J) then (S14_X12_works a0 I J) else (if (S16_X12_works a0 I J) < 0 then (S14_X12_works a0 I J) else (S14_X12_works a0 I J)))) else (if a0 = 60 then (if (0 : Int32) < (lg_cmp (F_X12_is (T_X12_works_j250 a0 I J) (u2 I 130 38 ((I 130 38) - 1)) J) 1000000000000) then (S17_X12_works a0 I J) else (if (S18_X12_works a0 I J) < 0 then (S17_X12_works a0 I J) else (S17_X12_works a0 I J))) else (if a0 = 61 then (if (0 : Int32) < (lg_cmp (F_X12_is (T_X12_works_j290 a0 I J) (u2 I 130 38 ((I 130 38) - 1)) J) 1000000000000) then (S19_X12_works a0 I J) else (if (S20_X12_works a0 I J) < 0 then (S19_X12_works a0 I J) else (S19_X12_works a0 I J))) else (if a0 = 62 then (if (0 : Int32) < (lg_cmp (F_X12_is (T_X12_works_j270 a0 I J) (u2 I 130 38 ((I 130 38) - 1)) J) 1000000000000) then (S21_X12_works a0 I J) else (if (S22_X12_works a0 I J) < 0 then (S21_X12_works a0 I J) else (S21_X12_works a0 I J))) else (if a0 = 256 then (if (0 : Int32) < (lg_cmp (F_X12_is (T_X12_works_j310 a0 I J) (u2 I 130 38 ((I 130 38) - 1)) J) 1000000000000) then (S23_X12_works a0 I J) else (if (S24_X12_works a0 I J) < 0 then (S23_X12_works a0 I J) else (S23_X12_works a0 I J))) else (if a0 = 257 then (if (0 : Int32) < (lg_cmp (F_X12_is (T_X12_works_j350 a0 I J) (u2 I 130 38 ((I 130 38) - 1)) J) 1000000000000) then (S25_X12_works a0 I J) else (if (S26_X12_works a0 I J) < 0 then (S25_X12_works a0 I J) else (S25_X12_works a0 I J))) else (if a0 = 258 then (if (0 : Int32) < (lg_cmp (F_X12_is (T_X12_works_j330 a0 I J) (u2 I 130 38 ((I 130 38) - 1)) J) 1000000000000) then (S27_X12_works a0 I J) else (if (S28_X12_works a0 I J) < 0 then (S27_X12_works a0 I J) else (S27_X12_works a0 I J))) else (if a0 = 261 then (if (0 : Int32) < (lg_cmp (F_X12_is (T_X12_works_j376 a0 I J) (u2 I 130 38 ((I 130 38) - 1)) J) 1000000000000) then (S29_X12_works a0 I J) else (if (S30_X12_works a0 I J) < 0 then (S29_X12_works a0 I J) else (S29_X12_works a0 I J))) else (if (0 : Int32) < (lg_cmp (F_X12_is (T_X12_works_j402 a0 I J) (u2 I 130 38 ((I 130 38) - 1)) J) 1000000000000) then (S31_X12_works a0 I J) else (if (S32_X12_works a0 I J) < 0 then (S31_X12_works a0 I J) else (S31_X12_works a0 I J))))))))))))))
def H_X12_works (a0 : Int32) (I : SI) (J : SJ) : Prop := (inR ((I 130 38) - 1) 64) ∧ (¬ (a0 = 260) → inR ((I 130 38) - 2) 64) ∧ (¬ (a0 = 260) → a0 = 42 → (lg_cmp (J 153 ((I 130 38) - 2).toNatClampNeg) 0) = 0 → inR (((u2 I 130 38 ((I 130 38) - 1)) 130 38) - 1) 64) ∧ (¬ (a0 = 260) → a0 = 42 → ¬ ((lg_cmp (J 153 ((I 130 38) - 2).toNatClampNeg) 0) = 0) → ¬ (absL (J 153 ((I 130 38) - 2).toNatClampNeg)) = 0) ∧ (¬ (a0 = 260) → a0 = 42 → ¬ ((lg_cmp (J 153 ((I 130 38) - 2).toNatClampNeg) 0) = 0) → (S4_X12_works a0 I J) ≤ 0 → inR (((u2 I 130 38 ((I 130 38) - 1)) 130 38) - 1) 64) ∧ (¬ (a0 = 260) → ¬ (a0 = 42) → a0 = 43 → inR (((u2 I 130 38 ((I 130 38) - 1)) 130 38) - 1) 64) ∧ (¬ (a0 = 260) → ¬ (a0 = 42) → ¬ (a0 = 43) → a0 = 45 → inR (((u2 I 130 38 ((I 130 38) - 1)) 130 38) - 1) 64) ∧ (¬ (a0 = 260) → ¬ (a0 = 42) → ¬ (a0 = 43) → ¬ (a0 = 45) → a0 = 47 → ¬ ((lg_cmp (J 153 ((I 130 38) - 1).toNatClampNeg) 0) = 0) → ¬ (J 153 ((I 130 38) - 1).toNatClampNeg) = 0) ∧ (¬ (a0 = 260) → ¬ (a0 = 42) → ¬ (a0 = 43) → ¬ (a0 = 45) → a0 = 47 → ¬ ((lg_cmp (J 153 ((I 130 38) - 1).toNatClampNeg) 0) = 0) → inR (((u2 I 130 38 ((I 130 38) - 1)) 130 38) - 1) 64) ∧ (¬ (a0 = 260) → ¬ (a0 = 42) → ¬ (a0 = 43) → ¬ (a0 = 45) → ¬ (a0 = 47) → a0 = 60 → inR (((u2 I 130 38 ((I 130 38) - 1)) 130 38) - 1) 64) ∧ (¬ (a0 = 260) → ¬ (a0 = 42) → ¬ (a0 = 43) → ¬ (a0 = 45) → ¬ (a0 = 47) → ¬ (a0 = 60) → a0 = 61 → inR (((u2 I 130 38 ((I 130 38) - 1)) 130 38) - 1) 64) ∧ (¬ (a0 = 260) → ¬ (a0 = 42) → ¬ (a0 = 43) → ¬ (a0 = 45) → ¬ (a0 = 47) → ¬ (a0 = 60) → ¬ (a0 = 61) → a0 = 62 → inR (((u2 I 130 38 ((I 130 38) - 1)) 130 38) - 1) 64) ∧ (¬ (a0 = 260) → ¬ (a0 = 42) → ¬ (a0 = 43) → ¬ (a0 = 45) → ¬ (a0 = 47) → ¬ (a0 = 60) → ¬ (a0 = 61) → ¬ (a0 = 62) → a0 = 256 → inR (((u2 I 130 38 ((I 130 38) - 1)) 130 38) - 1) 64) ∧ (¬ (a0 = 260) → ¬ (a0 = 42) → ¬ (a0 = 43) → ¬ (a0 = 45) → ¬ (a0 = 47) → ¬ (a0 = 60) → ¬ (a0 = 61) → ¬ (a0 = 62) → ¬ (a0 = 256) → a0 = 257 → inR (((u2 I 130 38 ((I 130 38) - 1)) 130 38) - 1) 64) ∧ (¬ (a0 = 260) → ¬ (a0 = 42) → ¬ (a0 = 43) → ¬ (a0 = 45) → ¬ (a0 = 47) → ¬ (a0 = 60) → ¬ (a0 = 61) → ¬ (a0 = 62) → ¬ (a0 = 256) → ¬ (a0 = 257) → a0 = 258 → inR (((u2 I 130 38 ((I 130 38) - 1)) 130 38) - 1) 64) ∧ (¬ (a0 = 260) → ¬ (a0 = 42) → ¬ (a0 = 43) → ¬ (a0 = 45) → ¬ (a0 = 47) → ¬ (a0 = 60) → ¬ (a0 = 61) → ¬ (a0 = 62) → ¬ (a0 = 256) → ¬ (a0 = 257) → ¬ (a0 = 258) → a0 = 261 → inR (((u2 I 130 38 ((I 130 38) - 1)) 130 38) - 1) 64) ∧ (¬ (a0 = 260) → ¬ (a0 = 42) → ¬ (a0 = 43) → ¬ (a0 = 45) → ¬ (a0 = 47) → ¬ (a0 = 60) → ¬ (a0 = 61) → ¬ (a0 = 62) → ¬ (a0 = 256) → ¬ (a0 = 257) → ¬ (a0 = 258) → ¬ (a0 = 261) → inR (((u2 I 130 38 ((I 130 38) - 1)) 130 38) - 1) 64) ∧ (a0 = 260 → ¬ ((lg_cmp (J 153 ((I 130 38) - 1).toNatClampNeg) 0) = 0) → inR ((I 130 38) - 1) 64) ∧ (a0 = 260 → (lg_cmp (J 153 ((I 130 38) - 1).toNatClampNeg) 0) = 0 → inR ((I 130 38) - 1) 64)
set_option maxHeartbeats 7710000 in
set_option maxRecDepth 40000 in
theorem c_X12_works {I : SI} {J : SJ} {R : SR} {n g : Nat} {f : Fr} (ro : RM R) (hnn : nM ≤ n) (hf : f.1 = false) (a0 : Int32)  (hp : H_X12_works a0 I J) : MM 1 0 0 mX12_works [.ref 130, .int a0] (eI f I) (eJ f J) R n g (Pd (some (.int (F_X12_works a0 I J))) (eI f (FI_X12_works a0 I J)) (eJ f (FJ_X12_works a0 I J)) R n g) := by
  refine MM.of (by decide) (Nat.le_of_ble_eq_true rfl) fun K ok fin => ?_
  show WK K 0 0 0 [(0, .ref 130), (1, .int a0)] [] (eI f I) (eJ f J) R n g
  obtain ⟨hp1, hp2, hp3, hp4, hp5, hp6, hp7, hp8, hp9, hp10, hp11, hp12, hp13, hp14, hp15, hp16, hp17, hp18, hp19⟩ := hp
  refine w_aload_n ok dX12_works_0 0 rfl ?_
  refine w_getR ok dX12_works_1 (fX12_81 rfl) (congrArg Prod.fst s_130) rfl (r_130_37 ro) (ltM hnn (by decide)) ?_
  refine w_aload_n ok dX12_works_4 0 rfl ?_
  refine y_getI ok dX12_works_5 (fX12_338 rfl) (congrArg Prod.fst s_130) rfl (ltM hnn (by decide)) (sdm hf (by decide)) ?_
  refine w_iconst (v := 1) ok dX12_works_8 (by decide) ?_
  refine w_isub ok dX12_works_9 ?_
  refine y_lald (q := ((I 130 38) - 1).toNatClampNeg) ok dX12_works_10 s_153 (hp1) (by decide) (ltM hnn (by decide)) (sdm hf (by decide)) ?_
  refine w_lstore_n ok dX12_works_11 rfl (by decide) rfl ?_
  refine w_iload_n ok dX12_works_12 2 rfl ?_
  refine w_sipush (v := 260) ok dX12_works_13 (by decide) ?_
  refine w_icmp_ne (tgt := 46) ok dX12_works_16 (by decide) (fun c1 => ?_) (fun c1 => ?_)
  · skip
    refine w_aload_n ok dX12_works_46 1 rfl ?_
    refine w_getR ok dX12_works_47 (fX12_81 rfl) (congrArg Prod.fst s_130) rfl (r_130_37 ro) (ltM hnn (by decide)) ?_
    refine w_aload_n ok dX12_works_50 1 rfl ?_
    refine y_getI ok dX12_works_51 (fX12_338 rfl) (congrArg Prod.fst s_130) rfl (ltM hnn (by decide)) (sdm hf (by decide)) ?_
    refine w_iconst (v := 2) ok dX12_works_54 (by decide) ?_
    refine w_isub ok dX12_works_55 ?_
    refine y_lald (q := ((I 130 38) - 2).toNatClampNeg) ok dX12_works_56 s_153 (hp2 c1) (by decide) (ltM hnn (by decide)) (sdm hf (by decide)) ?_
    refine w_lstore ok dX12_works_57 (by decide) rfl ?_
    refine w_aload_n ok dX12_works_59 2 rfl ?_
    refine w_dup ok dX12_works_60 rfl ?_
    refine y_getI ok dX12_works_61 (fX12_338 rfl) (congrArg Prod.fst s_130) rfl (ltM hnn (by decide)) (sdm hf (by decide)) ?_
    refine w_iconst (v := 1) ok dX12_works_64 (by decide) ?_
    refine w_isub ok dX12_works_65 ?_
    refine y_putI ok dX12_works_66 (fwX12_338 rfl) (congrArg Prod.fst s_130) rfl (ltM hnn (by decide)) (sdm hf (by decide)) ?_
    refine w_iload_n ok dX12_works_69 3 rfl ?_
    by_cases c2 : a0 = 42
    · skip
      refine w_lkp (tgt := 186) (off := 116) ok dX12_works_70 (by decide) (by rw [c2]; rfl) (by decide) ?_
      refine w_lload ok dX12_works_186 0 rfl ?_
      refine w_lconst (v := 0) ok dX12_works_188 (by decide) ?_
      refine w_lcmp ok dX12_works_189 ?_
      refine w_if_eq (tgt := 212) ok dX12_works_190 (by decide) (fun c3 => ?_) (fun c3 => ?_)
      · skip
        refine w_lload ok dX12_works_212 0 rfl ?_
        refine w_lload_n ok dX12_works_214 1 rfl ?_
        refine w_lmul ok dX12_works_215 ?_
        refine w_lstore ok dX12_works_216 (by decide) rfl ?_
        refine w_goto (tgt := 407) ok dX12_works_218 (by decide) ?_
        refine w_aload_n ok dX12_works_407 3 rfl ?_
        refine w_getR ok dX12_works_408 (fX12_81 rfl) (congrArg Prod.fst s_130) rfl (r_130_37 ro) (ltM hnn (by decide)) ?_
        refine w_aload_n ok dX12_works_411 3 rfl ?_
        refine y_getI ok dX12_works_412 (fX12_338 rfl) (congrArg Prod.fst s_130) rfl (ltM hnn (by decide)) (sdm hf (by decide)) ?_
        refine w_iconst (v := 1) ok dX12_works_415 (by decide) ?_
        refine w_isub ok dX12_works_416 ?_
        refine w_lload ok dX12_works_417 0 rfl ?_
        refine y_last (q := (((u2 I 130 38 ((I 130 38) - 1)) 130 38) - 1).toNatClampNeg) ok dX12_works_419 s_153 (hp3 c1 c2 c3) (by decide) (ltM hnn (by decide)) (sdm hf (by decide)) ?_
        show WK K 0 0 420 [(6, .long ((J 153 ((I 130 38) - 2).toNatClampNeg) * (J 153 ((I 130 38) - 1).toNatClampNeg))), (4, .long (J 153 ((I 130 38) - 2).toNatClampNeg)), (2, .long (J 153 ((I 130 38) - 1).toNatClampNeg)), (0, .ref 130), (1, .int a0)] [] (eI f (u2 I 130 38 ((I 130 38) - 1))) (eJ f (S1_X12_works a0 I J)) R n g
        refine w_lload ok dX12_works_420 0 rfl ?_
        refine w_ldc2 ok dX12_works_422 kX12_351 ?_
        refine w_lcmp ok dX12_works_425 ?_
        show WK K 0 0 426 [(6, .long ((J 153 ((I 130 38) - 2).toNatClampNeg) * (J 153 ((I 130 38) - 1).toNatClampNeg))), (4, .long (J 153 ((I 130 38) - 2).toNatClampNeg)), (2, .long (J 153 ((I 130 38) - 1).toNatClampNeg)), (0, .ref 130), (1, .int a0)] [.int (S2_X12_works a0 I J)] (eI f (u2 I 130 38 ((I 130 38) - 1))) (eJ f (S1_X12_works a0 I J)) R n g
        refine w_if_gt (tgt := 442) ok dX12_works_426 (by decide) (fun c4 => ?_) (fun c4 => ?_)
        · skip
          refine w_iconst (v := 0) ok dX12_works_442 (by decide) ?_
          exact w_zret ok fin dX12_works_443 rfl (by decide) (by unfold F_X12_works FI_X12_works FJ_X12_works; simp only [if_neg c1]; simp only [if_pos c2]; simp only [if_pos c3]; simp only [if_pos c4]; exact Pd.i)
        · skip
          refine w_lload ok dX12_works_429 0 rfl ?_
          refine w_ldc2 ok dX12_works_431 kX12_353 ?_
          refine w_lcmp ok dX12_works_434 ?_
          show WK K 0 0 435 [(6, .long ((J 153 ((I 130 38) - 2).toNatClampNeg) * (J 153 ((I 130 38) - 1).toNatClampNeg))), (4, .long (J 153 ((I 130 38) - 2).toNatClampNeg)), (2, .long (J 153 ((I 130 38) - 1).toNatClampNeg)), (0, .ref 130), (1, .int a0)] [.int (S3_X12_works a0 I J)] (eI f (u2 I 130 38 ((I 130 38) - 1))) (eJ f (S1_X12_works a0 I J)) R n g
          refine w_if_lt (tgt := 442) ok dX12_works_435 (by decide) (fun c5 => ?_) (fun c5 => ?_)
          · skip
            refine w_iconst (v := 0) ok dX12_works_442 (by decide) ?_
            exact w_zret ok fin dX12_works_443 rfl (by decide) (by unfold F_X12_works FI_X12_works FJ_X12_works; simp only [if_neg c1]; simp only [if_pos c2]; simp only [if_pos c3]; simp only [if_neg c4]; simp only [if_pos c5]; exact Pd.i)
          · skip
            refine w_iconst (v := 1) ok dX12_works_438 (by decide) ?_
            refine w_goto (tgt := 443) ok dX12_works_439 (by decide) ?_
            exact w_zret ok fin dX12_works_443 rfl (by decide) (by unfold F_X12_works FI_X12_works FJ_X12_works; simp only [if_neg c1]; simp only [if_pos c2]; simp only [if_pos c3]; simp only [if_neg c4]; simp only [if_neg c5]; exact Pd.i)
      · skip
        refine w_lload_n ok dX12_works_193 1 rfl ?_
        refine w_absL ok dX12_works_194 (iT_8 83 (by decide +kernel) (by decide +kernel)) (Nat.le_of_ble_eq_true rfl) ?_
        refine w_ldc2 ok dX12_works_197 kX12_351 ?_
        refine w_lload ok dX12_works_200 0 rfl ?_
        refine w_absL ok dX12_works_202 (iT_8 83 (by decide +kernel) (by decide +kernel)) (Nat.le_of_ble_eq_true rfl) ?_
        show WK K 0 0 205 [(4, .long (J 153 ((I 130 38) - 2).toNatClampNeg)), (2, .long (J 153 ((I 130 38) - 1).toNatClampNeg)), (0, .ref 130), (1, .int a0)] [.long (absL (J 153 ((I 130 38) - 2).toNatClampNeg)), .long 1000000000000, .long (absL (J 153 ((I 130 38) - 1).toNatClampNeg))] (eI f (u2 I 130 38 ((I 130 38) - 1))) (eJ f J) R n g
        refine w_ldiv ok dX12_works_205 (hp4 c1 c2 c3) ?_
        refine w_lcmp ok dX12_works_206 ?_
        show WK K 0 0 207 [(4, .long (J 153 ((I 130 38) - 2).toNatClampNeg)), (2, .long (J 153 ((I 130 38) - 1).toNatClampNeg)), (0, .ref 130), (1, .int a0)] [.int (S4_X12_works a0 I J)] (eI f (u2 I 130 38 ((I 130 38) - 1))) (eJ f J) R n g
        refine w_if_le (tgt := 212) ok dX12_works_207 (by decide) (fun c6 => ?_) (fun c6 => ?_)
        · skip
          refine w_lload ok dX12_works_212 0 rfl ?_
          refine w_lload_n ok dX12_works_214 1 rfl ?_
          refine w_lmul ok dX12_works_215 ?_
          refine w_lstore ok dX12_works_216 (by decide) rfl ?_
          refine w_goto (tgt := 407) ok dX12_works_218 (by decide) ?_
          refine w_aload_n ok dX12_works_407 3 rfl ?_
          refine w_getR ok dX12_works_408 (fX12_81 rfl) (congrArg Prod.fst s_130) rfl (r_130_37 ro) (ltM hnn (by decide)) ?_
          refine w_aload_n ok dX12_works_411 3 rfl ?_
          refine y_getI ok dX12_works_412 (fX12_338 rfl) (congrArg Prod.fst s_130) rfl (ltM hnn (by decide)) (sdm hf (by decide)) ?_
          refine w_iconst (v := 1) ok dX12_works_415 (by decide) ?_
          refine w_isub ok dX12_works_416 ?_
          refine w_lload ok dX12_works_417 0 rfl ?_
          refine y_last (q := (((u2 I 130 38 ((I 130 38) - 1)) 130 38) - 1).toNatClampNeg) ok dX12_works_419 s_153 (hp5 c1 c2 c3 c6) (by decide) (ltM hnn (by decide)) (sdm hf (by decide)) ?_
          show WK K 0 0 420 [(6, .long ((J 153 ((I 130 38) - 2).toNatClampNeg) * (J 153 ((I 130 38) - 1).toNatClampNeg))), (4, .long (J 153 ((I 130 38) - 2).toNatClampNeg)), (2, .long (J 153 ((I 130 38) - 1).toNatClampNeg)), (0, .ref 130), (1, .int a0)] [] (eI f (u2 I 130 38 ((I 130 38) - 1))) (eJ f (S5_X12_works a0 I J)) R n g
          refine w_lload ok dX12_works_420 0 rfl ?_
          refine w_ldc2 ok dX12_works_422 kX12_351 ?_
          refine w_lcmp ok dX12_works_425 ?_
          show WK K 0 0 426 [(6, .long ((J 153 ((I 130 38) - 2).toNatClampNeg) * (J 153 ((I 130 38) - 1).toNatClampNeg))), (4, .long (J 153 ((I 130 38) - 2).toNatClampNeg)), (2, .long (J 153 ((I 130 38) - 1).toNatClampNeg)), (0, .ref 130), (1, .int a0)] [.int (S6_X12_works a0 I J)] (eI f (u2 I 130 38 ((I 130 38) - 1))) (eJ f (S5_X12_works a0 I J)) R n g
          refine w_if_gt (tgt := 442) ok dX12_works_426 (by decide) (fun c7 => ?_) (fun c7 => ?_)
          · skip
            refine w_iconst (v := 0) ok dX12_works_442 (by decide) ?_
            exact w_zret ok fin dX12_works_443 rfl (by decide) (by unfold F_X12_works FI_X12_works FJ_X12_works; simp only [if_neg c1]; simp only [if_pos c2]; simp only [if_neg c3]; simp only [if_pos c6]; simp only [if_pos c7]; exact Pd.i)
          · skip
            refine w_lload ok dX12_works_429 0 rfl ?_
            refine w_ldc2 ok dX12_works_431 kX12_353 ?_
            refine w_lcmp ok dX12_works_434 ?_
            show WK K 0 0 435 [(6, .long ((J 153 ((I 130 38) - 2).toNatClampNeg) * (J 153 ((I 130 38) - 1).toNatClampNeg))), (4, .long (J 153 ((I 130 38) - 2).toNatClampNeg)), (2, .long (J 153 ((I 130 38) - 1).toNatClampNeg)), (0, .ref 130), (1, .int a0)] [.int (S7_X12_works a0 I J)] (eI f (u2 I 130 38 ((I 130 38) - 1))) (eJ f (S5_X12_works a0 I J)) R n g
            refine w_if_lt (tgt := 442) ok dX12_works_435 (by decide) (fun c8 => ?_) (fun c8 => ?_)
            · skip
              refine w_iconst (v := 0) ok dX12_works_442 (by decide) ?_
              exact w_zret ok fin dX12_works_443 rfl (by decide) (by unfold F_X12_works FI_X12_works FJ_X12_works; simp only [if_neg c1]; simp only [if_pos c2]; simp only [if_neg c3]; simp only [if_pos c6]; simp only [if_neg c7]; simp only [if_pos c8]; exact Pd.i)
            · skip
              refine w_iconst (v := 1) ok dX12_works_438 (by decide) ?_
              refine w_goto (tgt := 443) ok dX12_works_439 (by decide) ?_
              exact w_zret ok fin dX12_works_443 rfl (by decide) (by unfold F_X12_works FI_X12_works FJ_X12_works; simp only [if_neg c1]; simp only [if_pos c2]; simp only [if_neg c3]; simp only [if_pos c6]; simp only [if_neg c7]; simp only [if_neg c8]; exact Pd.i)
        · skip
          refine w_iconst (v := 0) ok dX12_works_210 (by decide) ?_
          exact w_zret ok fin dX12_works_211 rfl (by decide) (by unfold F_X12_works FI_X12_works FJ_X12_works; simp only [if_neg c1]; simp only [if_pos c2]; simp only [if_neg c3]; simp only [if_neg c6]; exact Pd.i)
    · skip
      by_cases c9 : a0 = 43
      · skip
        refine w_lkp (tgt := 168) (off := 98) ok dX12_works_70 (by decide) (by rw [c9]; rfl) (by decide) ?_
        refine w_lload ok dX12_works_168 0 rfl ?_
        refine w_lload_n ok dX12_works_170 1 rfl ?_
        refine w_ladd ok dX12_works_171 ?_
        refine w_lstore ok dX12_works_172 (by decide) rfl ?_
        refine w_goto (tgt := 407) ok dX12_works_174 (by decide) ?_
        refine w_aload_n ok dX12_works_407 3 rfl ?_
        refine w_getR ok dX12_works_408 (fX12_81 rfl) (congrArg Prod.fst s_130) rfl (r_130_37 ro) (ltM hnn (by decide)) ?_
        refine w_aload_n ok dX12_works_411 3 rfl ?_
        refine y_getI ok dX12_works_412 (fX12_338 rfl) (congrArg Prod.fst s_130) rfl (ltM hnn (by decide)) (sdm hf (by decide)) ?_
        refine w_iconst (v := 1) ok dX12_works_415 (by decide) ?_
        refine w_isub ok dX12_works_416 ?_
        refine w_lload ok dX12_works_417 0 rfl ?_
        refine y_last (q := (((u2 I 130 38 ((I 130 38) - 1)) 130 38) - 1).toNatClampNeg) ok dX12_works_419 s_153 (hp6 c1 c2 c9) (by decide) (ltM hnn (by decide)) (sdm hf (by decide)) ?_
        show WK K 0 0 420 [(6, .long ((J 153 ((I 130 38) - 2).toNatClampNeg) + (J 153 ((I 130 38) - 1).toNatClampNeg))), (4, .long (J 153 ((I 130 38) - 2).toNatClampNeg)), (2, .long (J 153 ((I 130 38) - 1).toNatClampNeg)), (0, .ref 130), (1, .int a0)] [] (eI f (u2 I 130 38 ((I 130 38) - 1))) (eJ f (S8_X12_works a0 I J)) R n g
        refine w_lload ok dX12_works_420 0 rfl ?_
        refine w_ldc2 ok dX12_works_422 kX12_351 ?_
        refine w_lcmp ok dX12_works_425 ?_
        show WK K 0 0 426 [(6, .long ((J 153 ((I 130 38) - 2).toNatClampNeg) + (J 153 ((I 130 38) - 1).toNatClampNeg))), (4, .long (J 153 ((I 130 38) - 2).toNatClampNeg)), (2, .long (J 153 ((I 130 38) - 1).toNatClampNeg)), (0, .ref 130), (1, .int a0)] [.int (S9_X12_works a0 I J)] (eI f (u2 I 130 38 ((I 130 38) - 1))) (eJ f (S8_X12_works a0 I J)) R n g
        refine w_if_gt (tgt := 442) ok dX12_works_426 (by decide) (fun c10 => ?_) (fun c10 => ?_)
        · skip
          refine w_iconst (v := 0) ok dX12_works_442 (by decide) ?_
          exact w_zret ok fin dX12_works_443 rfl (by decide) (by unfold F_X12_works FI_X12_works FJ_X12_works; simp only [if_neg c1]; simp only [if_neg c2]; simp only [if_pos c9]; simp only [if_pos c10]; exact Pd.i)
        · skip
          refine w_lload ok dX12_works_429 0 rfl ?_
          refine w_ldc2 ok dX12_works_431 kX12_353 ?_
          refine w_lcmp ok dX12_works_434 ?_
          show WK K 0 0 435 [(6, .long ((J 153 ((I 130 38) - 2).toNatClampNeg) + (J 153 ((I 130 38) - 1).toNatClampNeg))), (4, .long (J 153 ((I 130 38) - 2).toNatClampNeg)), (2, .long (J 153 ((I 130 38) - 1).toNatClampNeg)), (0, .ref 130), (1, .int a0)] [.int (S10_X12_works a0 I J)] (eI f (u2 I 130 38 ((I 130 38) - 1))) (eJ f (S8_X12_works a0 I J)) R n g
          refine w_if_lt (tgt := 442) ok dX12_works_435 (by decide) (fun c11 => ?_) (fun c11 => ?_)
          · skip
            refine w_iconst (v := 0) ok dX12_works_442 (by decide) ?_
            exact w_zret ok fin dX12_works_443 rfl (by decide) (by unfold F_X12_works FI_X12_works FJ_X12_works; simp only [if_neg c1]; simp only [if_neg c2]; simp only [if_pos c9]; simp only [if_neg c10]; simp only [if_pos c11]; exact Pd.i)
          · skip
            refine w_iconst (v := 1) ok dX12_works_438 (by decide) ?_
            refine w_goto (tgt := 443) ok dX12_works_439 (by decide) ?_
            exact w_zret ok fin dX12_works_443 rfl (by decide) (by unfold F_X12_works FI_X12_works FJ_X12_works; simp only [if_neg c1]; simp only [if_neg c2]; simp only [if_pos c9]; simp only [if_neg c10]; simp only [if_neg c11]; exact Pd.i)
      · skip
        by_cases c12 : a0 = 45
        · skip
          refine w_lkp (tgt := 177) (off := 107) ok dX12_works_70 (by decide) (by rw [c12]; rfl) (by decide) ?_
          refine w_lload ok dX12_works_177 0 rfl ?_
          refine w_lload_n ok dX12_works_179 1 rfl ?_
          refine w_lsub ok dX12_works_180 ?_
          refine w_lstore ok dX12_works_181 (by decide) rfl ?_
          refine w_goto (tgt := 407) ok dX12_works_183 (by decide) ?_
          refine w_aload_n ok dX12_works_407 3 rfl ?_
          refine w_getR ok dX12_works_408 (fX12_81 rfl) (congrArg Prod.fst s_130) rfl (r_130_37 ro) (ltM hnn (by decide)) ?_
          refine w_aload_n ok dX12_works_411 3 rfl ?_
          refine y_getI ok dX12_works_412 (fX12_338 rfl) (congrArg Prod.fst s_130) rfl (ltM hnn (by decide)) (sdm hf (by decide)) ?_
          refine w_iconst (v := 1) ok dX12_works_415 (by decide) ?_
          refine w_isub ok dX12_works_416 ?_
          refine w_lload ok dX12_works_417 0 rfl ?_
          refine y_last (q := (((u2 I 130 38 ((I 130 38) - 1)) 130 38) - 1).toNatClampNeg) ok dX12_works_419 s_153 (hp7 c1 c2 c9 c12) (by decide) (ltM hnn (by decide)) (sdm hf (by decide)) ?_
          show WK K 0 0 420 [(6, .long ((J 153 ((I 130 38) - 2).toNatClampNeg) - (J 153 ((I 130 38) - 1).toNatClampNeg))), (4, .long (J 153 ((I 130 38) - 2).toNatClampNeg)), (2, .long (J 153 ((I 130 38) - 1).toNatClampNeg)), (0, .ref 130), (1, .int a0)] [] (eI f (u2 I 130 38 ((I 130 38) - 1))) (eJ f (S11_X12_works a0 I J)) R n g
          refine w_lload ok dX12_works_420 0 rfl ?_
          refine w_ldc2 ok dX12_works_422 kX12_351 ?_
          refine w_lcmp ok dX12_works_425 ?_
          show WK K 0 0 426 [(6, .long ((J 153 ((I 130 38) - 2).toNatClampNeg) - (J 153 ((I 130 38) - 1).toNatClampNeg))), (4, .long (J 153 ((I 130 38) - 2).toNatClampNeg)), (2, .long (J 153 ((I 130 38) - 1).toNatClampNeg)), (0, .ref 130), (1, .int a0)] [.int (S12_X12_works a0 I J)] (eI f (u2 I 130 38 ((I 130 38) - 1))) (eJ f (S11_X12_works a0 I J)) R n g
          refine w_if_gt (tgt := 442) ok dX12_works_426 (by decide) (fun c13 => ?_) (fun c13 => ?_)
          · skip
            refine w_iconst (v := 0) ok dX12_works_442 (by decide) ?_
            exact w_zret ok fin dX12_works_443 rfl (by decide) (by unfold F_X12_works FI_X12_works FJ_X12_works; simp only [if_neg c1]; simp only [if_neg c2]; simp only [if_neg c9]; simp only [if_pos c12]; simp only [if_pos c13]; exact Pd.i)
          · skip
            refine w_lload ok dX12_works_429 0 rfl ?_
            refine w_ldc2 ok dX12_works_431 kX12_353 ?_
            refine w_lcmp ok dX12_works_434 ?_
            show WK K 0 0 435 [(6, .long ((J 153 ((I 130 38) - 2).toNatClampNeg) - (J 153 ((I 130 38) - 1).toNatClampNeg))), (4, .long (J 153 ((I 130 38) - 2).toNatClampNeg)), (2, .long (J 153 ((I 130 38) - 1).toNatClampNeg)), (0, .ref 130), (1, .int a0)] [.int (S13_X12_works a0 I J)] (eI f (u2 I 130 38 ((I 130 38) - 1))) (eJ f (S11_X12_works a0 I J)) R n g
            refine w_if_lt (tgt := 442) ok dX12_works_435 (by decide) (fun c14 => ?_) (fun c14 => ?_)
            · skip
              refine w_iconst (v := 0) ok dX12_works_442 (by decide) ?_
              exact w_zret ok fin dX12_works_443 rfl (by decide) (by unfold F_X12_works FI_X12_works FJ_X12_works; simp only [if_neg c1]; simp only [if_neg c2]; simp only [if_neg c9]; simp only [if_pos c12]; simp only [if_neg c13]; simp only [if_pos c14]; exact Pd.i)
            · skip
              refine w_iconst (v := 1) ok dX12_works_438 (by decide) ?_
              refine w_goto (tgt := 443) ok dX12_works_439 (by decide) ?_
              exact w_zret ok fin dX12_works_443 rfl (by decide) (by unfold F_X12_works FI_X12_works FJ_X12_works; simp only [if_neg c1]; simp only [if_neg c2]; simp only [if_neg c9]; simp only [if_pos c12]; simp only [if_neg c13]; simp only [if_neg c14]; exact Pd.i)
        · skip
          by_cases c15 : a0 = 47
          · skip
            refine w_lkp (tgt := 221) (off := 151) ok dX12_works_70 (by decide) (by rw [c15]; rfl) (by decide) ?_
            refine w_lload_n ok dX12_works_221 1 rfl ?_
            refine w_lconst (v := 0) ok dX12_works_222 (by decide) ?_
            refine w_lcmp ok dX12_works_223 ?_
            refine w_if_ne (tgt := 229) ok dX12_works_224 (by decide) (fun c16 => ?_) (fun c16 => ?_)
            · skip
              refine w_lload ok dX12_works_229 0 rfl ?_
              refine w_lload_n ok dX12_works_231 1 rfl ?_
              refine w_ldiv ok dX12_works_232 (hp8 c1 c2 c9 c12 c15 c16) ?_
              refine w_lstore ok dX12_works_233 (by decide) rfl ?_
              refine w_goto (tgt := 407) ok dX12_works_235 (by decide) ?_
              refine w_aload_n ok dX12_works_407 3 rfl ?_
              refine w_getR ok dX12_works_408 (fX12_81 rfl) (congrArg Prod.fst s_130) rfl (r_130_37 ro) (ltM hnn (by decide)) ?_
              refine w_aload_n ok dX12_works_411 3 rfl ?_
              refine y_getI ok dX12_works_412 (fX12_338 rfl) (congrArg Prod.fst s_130) rfl (ltM hnn (by decide)) (sdm hf (by decide)) ?_
              refine w_iconst (v := 1) ok dX12_works_415 (by decide) ?_
              refine w_isub ok dX12_works_416 ?_
              refine w_lload ok dX12_works_417 0 rfl ?_
              refine y_last (q := (((u2 I 130 38 ((I 130 38) - 1)) 130 38) - 1).toNatClampNeg) ok dX12_works_419 s_153 (hp9 c1 c2 c9 c12 c15 c16) (by decide) (ltM hnn (by decide)) (sdm hf (by decide)) ?_
              show WK K 0 0 420 [(6, .long ((J 153 ((I 130 38) - 2).toNatClampNeg) / (J 153 ((I 130 38) - 1).toNatClampNeg))), (4, .long (J 153 ((I 130 38) - 2).toNatClampNeg)), (2, .long (J 153 ((I 130 38) - 1).toNatClampNeg)), (0, .ref 130), (1, .int a0)] [] (eI f (u2 I 130 38 ((I 130 38) - 1))) (eJ f (S14_X12_works a0 I J)) R n g
              refine w_lload ok dX12_works_420 0 rfl ?_
              refine w_ldc2 ok dX12_works_422 kX12_351 ?_
              refine w_lcmp ok dX12_works_425 ?_
              show WK K 0 0 426 [(6, .long ((J 153 ((I 130 38) - 2).toNatClampNeg) / (J 153 ((I 130 38) - 1).toNatClampNeg))), (4, .long (J 153 ((I 130 38) - 2).toNatClampNeg)), (2, .long (J 153 ((I 130 38) - 1).toNatClampNeg)), (0, .ref 130), (1, .int a0)] [.int (S15_X12_works a0 I J)] (eI f (u2 I 130 38 ((I 130 38) - 1))) (eJ f (S14_X12_works a0 I J)) R n g
              refine w_if_gt (tgt := 442) ok dX12_works_426 (by decide) (fun c17 => ?_) (fun c17 => ?_)
              · skip
                refine w_iconst (v := 0) ok dX12_works_442 (by decide) ?_
                exact w_zret ok fin dX12_works_443 rfl (by decide) (by unfold F_X12_works FI_X12_works FJ_X12_works; simp only [if_neg c1]; simp only [if_neg c2]; simp only [if_neg c9]; simp only [if_neg c12]; simp only [if_pos c15]; simp only [if_neg c16]; simp only [if_pos c17]; exact Pd.i)
              · skip
                refine w_lload ok dX12_works_429 0 rfl ?_
                refine w_ldc2 ok dX12_works_431 kX12_353 ?_
                refine w_lcmp ok dX12_works_434 ?_
                show WK K 0 0 435 [(6, .long ((J 153 ((I 130 38) - 2).toNatClampNeg) / (J 153 ((I 130 38) - 1).toNatClampNeg))), (4, .long (J 153 ((I 130 38) - 2).toNatClampNeg)), (2, .long (J 153 ((I 130 38) - 1).toNatClampNeg)), (0, .ref 130), (1, .int a0)] [.int (S16_X12_works a0 I J)] (eI f (u2 I 130 38 ((I 130 38) - 1))) (eJ f (S14_X12_works a0 I J)) R n g
                refine w_if_lt (tgt := 442) ok dX12_works_435 (by decide) (fun c18 => ?_) (fun c18 => ?_)
                · skip
                  refine w_iconst (v := 0) ok dX12_works_442 (by decide) ?_
                  exact w_zret ok fin dX12_works_443 rfl (by decide) (by unfold F_X12_works FI_X12_works FJ_X12_works; simp only [if_neg c1]; simp only [if_neg c2]; simp only [if_neg c9]; simp only [if_neg c12]; simp only [if_pos c15]; simp only [if_neg c16]; simp only [if_neg c17]; simp only [if_pos c18]; exact Pd.i)
                · skip
                  refine w_iconst (v := 1) ok dX12_works_438 (by decide) ?_
                  refine w_goto (tgt := 443) ok dX12_works_439 (by decide) ?_
                  exact w_zret ok fin dX12_works_443 rfl (by decide) (by unfold F_X12_works FI_X12_works FJ_X12_works; simp only [if_neg c1]; simp only [if_neg c2]; simp only [if_neg c9]; simp only [if_neg c12]; simp only [if_pos c15]; simp only [if_neg c16]; simp only [if_neg c17]; simp only [if_neg c18]; exact Pd.i)
            · skip
              refine w_iconst (v := 0) ok dX12_works_227 (by decide) ?_
              exact w_zret ok fin dX12_works_228 rfl (by decide) (by unfold F_X12_works FI_X12_works FJ_X12_works; simp only [if_neg c1]; simp only [if_neg c2]; simp only [if_neg c9]; simp only [if_neg c12]; simp only [if_pos c15]; simp only [if_pos c16]; exact Pd.i)
          · skip
            by_cases c19 : a0 = 60
            · skip
              refine w_lkp (tgt := 238) (off := 168) ok dX12_works_70 (by decide) (by rw [c19]; rfl) (by decide) ?_
              refine w_lload ok dX12_works_238 0 rfl ?_
              refine w_lload_n ok dX12_works_240 1 rfl ?_
              refine w_lcmp ok dX12_works_241 ?_
              have jn20 : WK K 0 0 250 [(0, .ref 130), (1, .int a0), (2, .long (J 153 ((I 130 38) - 1).toNatClampNeg)), (4, .long (J 153 ((I 130 38) - 2).toNatClampNeg))] [.int (T_X12_works_j250 a0 I J)] (eI f (u2 I 130 38 ((I 130 38) - 1))) (eJ f J) R n g := by
                refine w_cS (As := [.int (T_X12_works_j250 a0 I J)]) ok dX12_works_250 iX12_is (lX12_341 rfl) (c_X12_is ro hnn hf (T_X12_works_j250 a0 I J) ) (by decide) rfl (Nat.le_of_ble_eq_true rfl) ?_
                refine w_lstore ok dX12_works_253 (by decide) rfl ?_
                refine w_goto (tgt := 407) ok dX12_works_255 (by decide) ?_
                refine w_aload_n ok dX12_works_407 1 rfl ?_
                refine w_getR ok dX12_works_408 (fX12_81 rfl) (congrArg Prod.fst s_130) rfl (r_130_37 ro) (ltM hnn (by decide)) ?_
                refine w_aload_n ok dX12_works_411 1 rfl ?_
                refine y_getI ok dX12_works_412 (fX12_338 rfl) (congrArg Prod.fst s_130) rfl (ltM hnn (by decide)) (sdm hf (by decide)) ?_
                refine w_iconst (v := 1) ok dX12_works_415 (by decide) ?_
                refine w_isub ok dX12_works_416 ?_
                refine w_lload ok dX12_works_417 0 rfl ?_
                refine y_last (q := (((u2 I 130 38 ((I 130 38) - 1)) 130 38) - 1).toNatClampNeg) ok dX12_works_419 s_153 (hp10 c1 c2 c9 c12 c15 c19) (by decide) (ltM hnn (by decide)) (sdm hf (by decide)) ?_
                show WK K 0 0 420 [(6, .long (F_X12_is (T_X12_works_j250 a0 I J) (u2 I 130 38 ((I 130 38) - 1)) J)), (0, .ref 130), (1, .int a0), (2, .long (J 153 ((I 130 38) - 1).toNatClampNeg)), (4, .long (J 153 ((I 130 38) - 2).toNatClampNeg))] [] (eI f (u2 I 130 38 ((I 130 38) - 1))) (eJ f (S17_X12_works a0 I J)) R n g
                refine w_lload ok dX12_works_420 0 rfl ?_
                refine w_ldc2 ok dX12_works_422 kX12_351 ?_
                refine w_lcmp ok dX12_works_425 ?_
                refine w_if_gt (tgt := 442) ok dX12_works_426 (by decide) (fun c21 => ?_) (fun c21 => ?_)
                · skip
                  refine w_iconst (v := 0) ok dX12_works_442 (by decide) ?_
                  exact w_zret ok fin dX12_works_443 rfl (by decide) (by unfold F_X12_works FI_X12_works FJ_X12_works; simp only [if_neg c1]; simp only [if_neg c2]; simp only [if_neg c9]; simp only [if_neg c12]; simp only [if_neg c15]; simp only [if_pos c19]; simp only [if_pos c21]; exact Pd.i)
                · skip
                  refine w_lload ok dX12_works_429 0 rfl ?_
                  refine w_ldc2 ok dX12_works_431 kX12_353 ?_
                  refine w_lcmp ok dX12_works_434 ?_
                  show WK K 0 0 435 [(6, .long (F_X12_is (T_X12_works_j250 a0 I J) (u2 I 130 38 ((I 130 38) - 1)) J)), (0, .ref 130), (1, .int a0), (2, .long (J 153 ((I 130 38) - 1).toNatClampNeg)), (4, .long (J 153 ((I 130 38) - 2).toNatClampNeg))] [.int (S18_X12_works a0 I J)] (eI f (u2 I 130 38 ((I 130 38) - 1))) (eJ f (S17_X12_works a0 I J)) R n g
                  refine w_if_lt (tgt := 442) ok dX12_works_435 (by decide) (fun c22 => ?_) (fun c22 => ?_)
                  · skip
                    refine w_iconst (v := 0) ok dX12_works_442 (by decide) ?_
                    exact w_zret ok fin dX12_works_443 rfl (by decide) (by unfold F_X12_works FI_X12_works FJ_X12_works; simp only [if_neg c1]; simp only [if_neg c2]; simp only [if_neg c9]; simp only [if_neg c12]; simp only [if_neg c15]; simp only [if_pos c19]; simp only [if_neg c21]; simp only [if_pos c22]; exact Pd.i)
                  · skip
                    refine w_iconst (v := 1) ok dX12_works_438 (by decide) ?_
                    refine w_goto (tgt := 443) ok dX12_works_439 (by decide) ?_
                    exact w_zret ok fin dX12_works_443 rfl (by decide) (by unfold F_X12_works FI_X12_works FJ_X12_works; simp only [if_neg c1]; simp only [if_neg c2]; simp only [if_neg c9]; simp only [if_neg c12]; simp only [if_neg c15]; simp only [if_pos c19]; simp only [if_neg c21]; simp only [if_neg c22]; exact Pd.i)
              refine w_if_ge (tgt := 249) ok dX12_works_242 (by decide) (fun c23 => ?_) (fun c23 => ?_)
              · skip
                refine w_iconst (v := 0) ok dX12_works_249 (by decide) ?_
                have eT : (T_X12_works_j250 a0 I J) = 0 := by
                  unfold T_X12_works_j250; exact (if_pos c23).trans (rfl)
                refine w_loc [2, 3, 1, 0] rfl ?_
                have jj := jn20
                rw [eT] at jj
                exact jj
              · skip
                refine w_iconst (v := 1) ok dX12_works_245 (by decide) ?_
                refine w_goto (tgt := 250) ok dX12_works_246 (by decide) ?_
                have eT : (T_X12_works_j250 a0 I J) = 1 := by
                  unfold T_X12_works_j250; exact (if_neg c23).trans (rfl)
                refine w_loc [2, 3, 1, 0] rfl ?_
                have jj := jn20
                rw [eT] at jj
                exact jj
            · skip
              by_cases c24 : a0 = 61
              · skip
                refine w_lkp (tgt := 278) (off := 208) ok dX12_works_70 (by decide) (by rw [c24]; rfl) (by decide) ?_
                refine w_lload ok dX12_works_278 0 rfl ?_
                refine w_lload_n ok dX12_works_280 1 rfl ?_
                refine w_lcmp ok dX12_works_281 ?_
                have jn25 : WK K 0 0 290 [(0, .ref 130), (1, .int a0), (2, .long (J 153 ((I 130 38) - 1).toNatClampNeg)), (4, .long (J 153 ((I 130 38) - 2).toNatClampNeg))] [.int (T_X12_works_j290 a0 I J)] (eI f (u2 I 130 38 ((I 130 38) - 1))) (eJ f J) R n g := by
                  refine w_cS (As := [.int (T_X12_works_j290 a0 I J)]) ok dX12_works_290 iX12_is (lX12_341 rfl) (c_X12_is ro hnn hf (T_X12_works_j290 a0 I J) ) (by decide) rfl (Nat.le_of_ble_eq_true rfl) ?_
                  refine w_lstore ok dX12_works_293 (by decide) rfl ?_
                  refine w_goto (tgt := 407) ok dX12_works_295 (by decide) ?_
                  refine w_aload_n ok dX12_works_407 1 rfl ?_
                  refine w_getR ok dX12_works_408 (fX12_81 rfl) (congrArg Prod.fst s_130) rfl (r_130_37 ro) (ltM hnn (by decide)) ?_
                  refine w_aload_n ok dX12_works_411 1 rfl ?_
                  refine y_getI ok dX12_works_412 (fX12_338 rfl) (congrArg Prod.fst s_130) rfl (ltM hnn (by decide)) (sdm hf (by decide)) ?_
                  refine w_iconst (v := 1) ok dX12_works_415 (by decide) ?_
                  refine w_isub ok dX12_works_416 ?_
                  refine w_lload ok dX12_works_417 0 rfl ?_
                  refine y_last (q := (((u2 I 130 38 ((I 130 38) - 1)) 130 38) - 1).toNatClampNeg) ok dX12_works_419 s_153 (hp11 c1 c2 c9 c12 c15 c19 c24) (by decide) (ltM hnn (by decide)) (sdm hf (by decide)) ?_
                  show WK K 0 0 420 [(6, .long (F_X12_is (T_X12_works_j290 a0 I J) (u2 I 130 38 ((I 130 38) - 1)) J)), (0, .ref 130), (1, .int a0), (2, .long (J 153 ((I 130 38) - 1).toNatClampNeg)), (4, .long (J 153 ((I 130 38) - 2).toNatClampNeg))] [] (eI f (u2 I 130 38 ((I 130 38) - 1))) (eJ f (S19_X12_works a0 I J)) R n g
                  refine w_lload ok dX12_works_420 0 rfl ?_
                  refine w_ldc2 ok dX12_works_422 kX12_351 ?_
                  refine w_lcmp ok dX12_works_425 ?_
                  refine w_if_gt (tgt := 442) ok dX12_works_426 (by decide) (fun c26 => ?_) (fun c26 => ?_)
                  · skip
                    refine w_iconst (v := 0) ok dX12_works_442 (by decide) ?_
                    exact w_zret ok fin dX12_works_443 rfl (by decide) (by unfold F_X12_works FI_X12_works FJ_X12_works; simp only [if_neg c1]; simp only [if_neg c2]; simp only [if_neg c9]; simp only [if_neg c12]; simp only [if_neg c15]; simp only [if_neg c19]; simp only [if_pos c24]; simp only [if_pos c26]; exact Pd.i)
                  · skip
                    refine w_lload ok dX12_works_429 0 rfl ?_
                    refine w_ldc2 ok dX12_works_431 kX12_353 ?_
                    refine w_lcmp ok dX12_works_434 ?_
                    show WK K 0 0 435 [(6, .long (F_X12_is (T_X12_works_j290 a0 I J) (u2 I 130 38 ((I 130 38) - 1)) J)), (0, .ref 130), (1, .int a0), (2, .long (J 153 ((I 130 38) - 1).toNatClampNeg)), (4, .long (J 153 ((I 130 38) - 2).toNatClampNeg))] [.int (S20_X12_works a0 I J)] (eI f (u2 I 130 38 ((I 130 38) - 1))) (eJ f (S19_X12_works a0 I J)) R n g
                    refine w_if_lt (tgt := 442) ok dX12_works_435 (by decide) (fun c27 => ?_) (fun c27 => ?_)
                    · skip
                      refine w_iconst (v := 0) ok dX12_works_442 (by decide) ?_
                      exact w_zret ok fin dX12_works_443 rfl (by decide) (by unfold F_X12_works FI_X12_works FJ_X12_works; simp only [if_neg c1]; simp only [if_neg c2]; simp only [if_neg c9]; simp only [if_neg c12]; simp only [if_neg c15]; simp only [if_neg c19]; simp only [if_pos c24]; simp only [if_neg c26]; simp only [if_pos c27]; exact Pd.i)
                    · skip
                      refine w_iconst (v := 1) ok dX12_works_438 (by decide) ?_
                      refine w_goto (tgt := 443) ok dX12_works_439 (by decide) ?_
                      exact w_zret ok fin dX12_works_443 rfl (by decide) (by unfold F_X12_works FI_X12_works FJ_X12_works; simp only [if_neg c1]; simp only [if_neg c2]; simp only [if_neg c9]; simp only [if_neg c12]; simp only [if_neg c15]; simp only [if_neg c19]; simp only [if_pos c24]; simp only [if_neg c26]; simp only [if_neg c27]; exact Pd.i)
                refine w_if_ne (tgt := 289) ok dX12_works_282 (by decide) (fun c28 => ?_) (fun c28 => ?_)
                · skip
                  refine w_iconst (v := 0) ok dX12_works_289 (by decide) ?_
                  have eT : (T_X12_works_j290 a0 I J) = 0 := by
                    unfold T_X12_works_j290; exact (if_neg c28).trans (rfl)
                  refine w_loc [2, 3, 1, 0] rfl ?_
                  have jj := jn25
                  rw [eT] at jj
                  exact jj
                · skip
                  refine w_iconst (v := 1) ok dX12_works_285 (by decide) ?_
                  refine w_goto (tgt := 290) ok dX12_works_286 (by decide) ?_
                  have eT : (T_X12_works_j290 a0 I J) = 1 := by
                    unfold T_X12_works_j290; exact (if_pos c28).trans (rfl)
                  refine w_loc [2, 3, 1, 0] rfl ?_
                  have jj := jn25
                  rw [eT] at jj
                  exact jj
              · skip
                by_cases c29 : a0 = 62
                · skip
                  refine w_lkp (tgt := 258) (off := 188) ok dX12_works_70 (by decide) (by rw [c29]; rfl) (by decide) ?_
                  refine w_lload ok dX12_works_258 0 rfl ?_
                  refine w_lload_n ok dX12_works_260 1 rfl ?_
                  refine w_lcmp ok dX12_works_261 ?_
                  have jn30 : WK K 0 0 270 [(0, .ref 130), (1, .int a0), (2, .long (J 153 ((I 130 38) - 1).toNatClampNeg)), (4, .long (J 153 ((I 130 38) - 2).toNatClampNeg))] [.int (T_X12_works_j270 a0 I J)] (eI f (u2 I 130 38 ((I 130 38) - 1))) (eJ f J) R n g := by
                    refine w_cS (As := [.int (T_X12_works_j270 a0 I J)]) ok dX12_works_270 iX12_is (lX12_341 rfl) (c_X12_is ro hnn hf (T_X12_works_j270 a0 I J) ) (by decide) rfl (Nat.le_of_ble_eq_true rfl) ?_
                    refine w_lstore ok dX12_works_273 (by decide) rfl ?_
                    refine w_goto (tgt := 407) ok dX12_works_275 (by decide) ?_
                    refine w_aload_n ok dX12_works_407 1 rfl ?_
                    refine w_getR ok dX12_works_408 (fX12_81 rfl) (congrArg Prod.fst s_130) rfl (r_130_37 ro) (ltM hnn (by decide)) ?_
                    refine w_aload_n ok dX12_works_411 1 rfl ?_
                    refine y_getI ok dX12_works_412 (fX12_338 rfl) (congrArg Prod.fst s_130) rfl (ltM hnn (by decide)) (sdm hf (by decide)) ?_
                    refine w_iconst (v := 1) ok dX12_works_415 (by decide) ?_
                    refine w_isub ok dX12_works_416 ?_
                    refine w_lload ok dX12_works_417 0 rfl ?_
                    refine y_last (q := (((u2 I 130 38 ((I 130 38) - 1)) 130 38) - 1).toNatClampNeg) ok dX12_works_419 s_153 (hp12 c1 c2 c9 c12 c15 c19 c24 c29) (by decide) (ltM hnn (by decide)) (sdm hf (by decide)) ?_
                    show WK K 0 0 420 [(6, .long (F_X12_is (T_X12_works_j270 a0 I J) (u2 I 130 38 ((I 130 38) - 1)) J)), (0, .ref 130), (1, .int a0), (2, .long (J 153 ((I 130 38) - 1).toNatClampNeg)), (4, .long (J 153 ((I 130 38) - 2).toNatClampNeg))] [] (eI f (u2 I 130 38 ((I 130 38) - 1))) (eJ f (S21_X12_works a0 I J)) R n g
                    refine w_lload ok dX12_works_420 0 rfl ?_
                    refine w_ldc2 ok dX12_works_422 kX12_351 ?_
                    refine w_lcmp ok dX12_works_425 ?_
                    refine w_if_gt (tgt := 442) ok dX12_works_426 (by decide) (fun c31 => ?_) (fun c31 => ?_)
                    · skip
                      refine w_iconst (v := 0) ok dX12_works_442 (by decide) ?_
                      exact w_zret ok fin dX12_works_443 rfl (by decide) (by unfold F_X12_works FI_X12_works FJ_X12_works; simp only [if_neg c1]; simp only [if_neg c2]; simp only [if_neg c9]; simp only [if_neg c12]; simp only [if_neg c15]; simp only [if_neg c19]; simp only [if_neg c24]; simp only [if_pos c29]; simp only [if_pos c31]; exact Pd.i)
                    · skip
                      refine w_lload ok dX12_works_429 0 rfl ?_
                      refine w_ldc2 ok dX12_works_431 kX12_353 ?_
                      refine w_lcmp ok dX12_works_434 ?_
                      show WK K 0 0 435 [(6, .long (F_X12_is (T_X12_works_j270 a0 I J) (u2 I 130 38 ((I 130 38) - 1)) J)), (0, .ref 130), (1, .int a0), (2, .long (J 153 ((I 130 38) - 1).toNatClampNeg)), (4, .long (J 153 ((I 130 38) - 2).toNatClampNeg))] [.int (S22_X12_works a0 I J)] (eI f (u2 I 130 38 ((I 130 38) - 1))) (eJ f (S21_X12_works a0 I J)) R n g
                      refine w_if_lt (tgt := 442) ok dX12_works_435 (by decide) (fun c32 => ?_) (fun c32 => ?_)
                      · skip
                        refine w_iconst (v := 0) ok dX12_works_442 (by decide) ?_
                        exact w_zret ok fin dX12_works_443 rfl (by decide) (by unfold F_X12_works FI_X12_works FJ_X12_works; simp only [if_neg c1]; simp only [if_neg c2]; simp only [if_neg c9]; simp only [if_neg c12]; simp only [if_neg c15]; simp only [if_neg c19]; simp only [if_neg c24]; simp only [if_pos c29]; simp only [if_neg c31]; simp only [if_pos c32]; exact Pd.i)
                      · skip
                        refine w_iconst (v := 1) ok dX12_works_438 (by decide) ?_
                        refine w_goto (tgt := 443) ok dX12_works_439 (by decide) ?_
                        exact w_zret ok fin dX12_works_443 rfl (by decide) (by unfold F_X12_works FI_X12_works FJ_X12_works; simp only [if_neg c1]; simp only [if_neg c2]; simp only [if_neg c9]; simp only [if_neg c12]; simp only [if_neg c15]; simp only [if_neg c19]; simp only [if_neg c24]; simp only [if_pos c29]; simp only [if_neg c31]; simp only [if_neg c32]; exact Pd.i)
                  refine w_if_le (tgt := 269) ok dX12_works_262 (by decide) (fun c33 => ?_) (fun c33 => ?_)
                  · skip
                    refine w_iconst (v := 0) ok dX12_works_269 (by decide) ?_
                    have eT : (T_X12_works_j270 a0 I J) = 0 := by
                      unfold T_X12_works_j270; exact (if_pos c33).trans (rfl)
                    refine w_loc [2, 3, 1, 0] rfl ?_
                    have jj := jn30
                    rw [eT] at jj
                    exact jj
                  · skip
                    refine w_iconst (v := 1) ok dX12_works_265 (by decide) ?_
                    refine w_goto (tgt := 270) ok dX12_works_266 (by decide) ?_
                    have eT : (T_X12_works_j270 a0 I J) = 1 := by
                      unfold T_X12_works_j270; exact (if_neg c33).trans (rfl)
                    refine w_loc [2, 3, 1, 0] rfl ?_
                    have jj := jn30
                    rw [eT] at jj
                    exact jj
                · skip
                  by_cases c34 : a0 = 256
                  · skip
                    refine w_lkp (tgt := 298) (off := 228) ok dX12_works_70 (by decide) (by rw [c34]; rfl) (by decide) ?_
                    refine w_lload ok dX12_works_298 0 rfl ?_
                    refine w_lload_n ok dX12_works_300 1 rfl ?_
                    refine w_lcmp ok dX12_works_301 ?_
                    have jn35 : WK K 0 0 310 [(0, .ref 130), (1, .int a0), (2, .long (J 153 ((I 130 38) - 1).toNatClampNeg)), (4, .long (J 153 ((I 130 38) - 2).toNatClampNeg))] [.int (T_X12_works_j310 a0 I J)] (eI f (u2 I 130 38 ((I 130 38) - 1))) (eJ f J) R n g := by
                      refine w_cS (As := [.int (T_X12_works_j310 a0 I J)]) ok dX12_works_310 iX12_is (lX12_341 rfl) (c_X12_is ro hnn hf (T_X12_works_j310 a0 I J) ) (by decide) rfl (Nat.le_of_ble_eq_true rfl) ?_
                      refine w_lstore ok dX12_works_313 (by decide) rfl ?_
                      refine w_goto (tgt := 407) ok dX12_works_315 (by decide) ?_
                      refine w_aload_n ok dX12_works_407 1 rfl ?_
                      refine w_getR ok dX12_works_408 (fX12_81 rfl) (congrArg Prod.fst s_130) rfl (r_130_37 ro) (ltM hnn (by decide)) ?_
                      refine w_aload_n ok dX12_works_411 1 rfl ?_
                      refine y_getI ok dX12_works_412 (fX12_338 rfl) (congrArg Prod.fst s_130) rfl (ltM hnn (by decide)) (sdm hf (by decide)) ?_
                      refine w_iconst (v := 1) ok dX12_works_415 (by decide) ?_
                      refine w_isub ok dX12_works_416 ?_
                      refine w_lload ok dX12_works_417 0 rfl ?_
                      refine y_last (q := (((u2 I 130 38 ((I 130 38) - 1)) 130 38) - 1).toNatClampNeg) ok dX12_works_419 s_153 (hp13 c1 c2 c9 c12 c15 c19 c24 c29 c34) (by decide) (ltM hnn (by decide)) (sdm hf (by decide)) ?_
                      show WK K 0 0 420 [(6, .long (F_X12_is (T_X12_works_j310 a0 I J) (u2 I 130 38 ((I 130 38) - 1)) J)), (0, .ref 130), (1, .int a0), (2, .long (J 153 ((I 130 38) - 1).toNatClampNeg)), (4, .long (J 153 ((I 130 38) - 2).toNatClampNeg))] [] (eI f (u2 I 130 38 ((I 130 38) - 1))) (eJ f (S23_X12_works a0 I J)) R n g
                      refine w_lload ok dX12_works_420 0 rfl ?_
                      refine w_ldc2 ok dX12_works_422 kX12_351 ?_
                      refine w_lcmp ok dX12_works_425 ?_
                      refine w_if_gt (tgt := 442) ok dX12_works_426 (by decide) (fun c36 => ?_) (fun c36 => ?_)
                      · skip
                        refine w_iconst (v := 0) ok dX12_works_442 (by decide) ?_
                        exact w_zret ok fin dX12_works_443 rfl (by decide) (by unfold F_X12_works FI_X12_works FJ_X12_works; simp only [if_neg c1]; simp only [if_neg c2]; simp only [if_neg c9]; simp only [if_neg c12]; simp only [if_neg c15]; simp only [if_neg c19]; simp only [if_neg c24]; simp only [if_neg c29]; simp only [if_pos c34]; simp only [if_pos c36]; exact Pd.i)
                      · skip
                        refine w_lload ok dX12_works_429 0 rfl ?_
                        refine w_ldc2 ok dX12_works_431 kX12_353 ?_
                        refine w_lcmp ok dX12_works_434 ?_
                        show WK K 0 0 435 [(6, .long (F_X12_is (T_X12_works_j310 a0 I J) (u2 I 130 38 ((I 130 38) - 1)) J)), (0, .ref 130), (1, .int a0), (2, .long (J 153 ((I 130 38) - 1).toNatClampNeg)), (4, .long (J 153 ((I 130 38) - 2).toNatClampNeg))] [.int (S24_X12_works a0 I J)] (eI f (u2 I 130 38 ((I 130 38) - 1))) (eJ f (S23_X12_works a0 I J)) R n g
                        refine w_if_lt (tgt := 442) ok dX12_works_435 (by decide) (fun c37 => ?_) (fun c37 => ?_)
                        · skip
                          refine w_iconst (v := 0) ok dX12_works_442 (by decide) ?_
                          exact w_zret ok fin dX12_works_443 rfl (by decide) (by unfold F_X12_works FI_X12_works FJ_X12_works; simp only [if_neg c1]; simp only [if_neg c2]; simp only [if_neg c9]; simp only [if_neg c12]; simp only [if_neg c15]; simp only [if_neg c19]; simp only [if_neg c24]; simp only [if_neg c29]; simp only [if_pos c34]; simp only [if_neg c36]; simp only [if_pos c37]; exact Pd.i)
                        · skip
                          refine w_iconst (v := 1) ok dX12_works_438 (by decide) ?_
                          refine w_goto (tgt := 443) ok dX12_works_439 (by decide) ?_
                          exact w_zret ok fin dX12_works_443 rfl (by decide) (by unfold F_X12_works FI_X12_works FJ_X12_works; simp only [if_neg c1]; simp only [if_neg c2]; simp only [if_neg c9]; simp only [if_neg c12]; simp only [if_neg c15]; simp only [if_neg c19]; simp only [if_neg c24]; simp only [if_neg c29]; simp only [if_pos c34]; simp only [if_neg c36]; simp only [if_neg c37]; exact Pd.i)
                    refine w_if_gt (tgt := 309) ok dX12_works_302 (by decide) (fun c38 => ?_) (fun c38 => ?_)
                    · skip
                      refine w_iconst (v := 0) ok dX12_works_309 (by decide) ?_
                      have eT : (T_X12_works_j310 a0 I J) = 0 := by
                        unfold T_X12_works_j310; exact (if_pos c38).trans (rfl)
                      refine w_loc [2, 3, 1, 0] rfl ?_
                      have jj := jn35
                      rw [eT] at jj
                      exact jj
                    · skip
                      refine w_iconst (v := 1) ok dX12_works_305 (by decide) ?_
                      refine w_goto (tgt := 310) ok dX12_works_306 (by decide) ?_
                      have eT : (T_X12_works_j310 a0 I J) = 1 := by
                        unfold T_X12_works_j310; exact (if_neg c38).trans (rfl)
                      refine w_loc [2, 3, 1, 0] rfl ?_
                      have jj := jn35
                      rw [eT] at jj
                      exact jj
                  · skip
                    by_cases c39 : a0 = 257
                    · skip
                      refine w_lkp (tgt := 338) (off := 268) ok dX12_works_70 (by decide) (by rw [c39]; rfl) (by decide) ?_
                      refine w_lload ok dX12_works_338 0 rfl ?_
                      refine w_lload_n ok dX12_works_340 1 rfl ?_
                      refine w_lcmp ok dX12_works_341 ?_
                      have jn40 : WK K 0 0 350 [(0, .ref 130), (1, .int a0), (2, .long (J 153 ((I 130 38) - 1).toNatClampNeg)), (4, .long (J 153 ((I 130 38) - 2).toNatClampNeg))] [.int (T_X12_works_j350 a0 I J)] (eI f (u2 I 130 38 ((I 130 38) - 1))) (eJ f J) R n g := by
                        refine w_cS (As := [.int (T_X12_works_j350 a0 I J)]) ok dX12_works_350 iX12_is (lX12_341 rfl) (c_X12_is ro hnn hf (T_X12_works_j350 a0 I J) ) (by decide) rfl (Nat.le_of_ble_eq_true rfl) ?_
                        refine w_lstore ok dX12_works_353 (by decide) rfl ?_
                        refine w_goto (tgt := 407) ok dX12_works_355 (by decide) ?_
                        refine w_aload_n ok dX12_works_407 1 rfl ?_
                        refine w_getR ok dX12_works_408 (fX12_81 rfl) (congrArg Prod.fst s_130) rfl (r_130_37 ro) (ltM hnn (by decide)) ?_
                        refine w_aload_n ok dX12_works_411 1 rfl ?_
                        refine y_getI ok dX12_works_412 (fX12_338 rfl) (congrArg Prod.fst s_130) rfl (ltM hnn (by decide)) (sdm hf (by decide)) ?_
                        refine w_iconst (v := 1) ok dX12_works_415 (by decide) ?_
                        refine w_isub ok dX12_works_416 ?_
                        refine w_lload ok dX12_works_417 0 rfl ?_
                        refine y_last (q := (((u2 I 130 38 ((I 130 38) - 1)) 130 38) - 1).toNatClampNeg) ok dX12_works_419 s_153 (hp14 c1 c2 c9 c12 c15 c19 c24 c29 c34 c39) (by decide) (ltM hnn (by decide)) (sdm hf (by decide)) ?_
                        show WK K 0 0 420 [(6, .long (F_X12_is (T_X12_works_j350 a0 I J) (u2 I 130 38 ((I 130 38) - 1)) J)), (0, .ref 130), (1, .int a0), (2, .long (J 153 ((I 130 38) - 1).toNatClampNeg)), (4, .long (J 153 ((I 130 38) - 2).toNatClampNeg))] [] (eI f (u2 I 130 38 ((I 130 38) - 1))) (eJ f (S25_X12_works a0 I J)) R n g
                        refine w_lload ok dX12_works_420 0 rfl ?_
                        refine w_ldc2 ok dX12_works_422 kX12_351 ?_
                        refine w_lcmp ok dX12_works_425 ?_
                        refine w_if_gt (tgt := 442) ok dX12_works_426 (by decide) (fun c41 => ?_) (fun c41 => ?_)
                        · skip
                          refine w_iconst (v := 0) ok dX12_works_442 (by decide) ?_
                          exact w_zret ok fin dX12_works_443 rfl (by decide) (by unfold F_X12_works FI_X12_works FJ_X12_works; simp only [if_neg c1]; simp only [if_neg c2]; simp only [if_neg c9]; simp only [if_neg c12]; simp only [if_neg c15]; simp only [if_neg c19]; simp only [if_neg c24]; simp only [if_neg c29]; simp only [if_neg c34]; simp only [if_pos c39]; simp only [if_pos c41]; exact Pd.i)
                        · skip
                          refine w_lload ok dX12_works_429 0 rfl ?_
                          refine w_ldc2 ok dX12_works_431 kX12_353 ?_
                          refine w_lcmp ok dX12_works_434 ?_
                          show WK K 0 0 435 [(6, .long (F_X12_is (T_X12_works_j350 a0 I J) (u2 I 130 38 ((I 130 38) - 1)) J)), (0, .ref 130), (1, .int a0), (2, .long (J 153 ((I 130 38) - 1).toNatClampNeg)), (4, .long (J 153 ((I 130 38) - 2).toNatClampNeg))] [.int (S26_X12_works a0 I J)] (eI f (u2 I 130 38 ((I 130 38) - 1))) (eJ f (S25_X12_works a0 I J)) R n g
                          refine w_if_lt (tgt := 442) ok dX12_works_435 (by decide) (fun c42 => ?_) (fun c42 => ?_)
                          · skip
                            refine w_iconst (v := 0) ok dX12_works_442 (by decide) ?_
                            exact w_zret ok fin dX12_works_443 rfl (by decide) (by unfold F_X12_works FI_X12_works FJ_X12_works; simp only [if_neg c1]; simp only [if_neg c2]; simp only [if_neg c9]; simp only [if_neg c12]; simp only [if_neg c15]; simp only [if_neg c19]; simp only [if_neg c24]; simp only [if_neg c29]; simp only [if_neg c34]; simp only [if_pos c39]; simp only [if_neg c41]; simp only [if_pos c42]; exact Pd.i)
                          · skip
                            refine w_iconst (v := 1) ok dX12_works_438 (by decide) ?_
                            refine w_goto (tgt := 443) ok dX12_works_439 (by decide) ?_
                            exact w_zret ok fin dX12_works_443 rfl (by decide) (by unfold F_X12_works FI_X12_works FJ_X12_works; simp only [if_neg c1]; simp only [if_neg c2]; simp only [if_neg c9]; simp only [if_neg c12]; simp only [if_neg c15]; simp only [if_neg c19]; simp only [if_neg c24]; simp only [if_neg c29]; simp only [if_neg c34]; simp only [if_pos c39]; simp only [if_neg c41]; simp only [if_neg c42]; exact Pd.i)
                      refine w_if_eq (tgt := 349) ok dX12_works_342 (by decide) (fun c43 => ?_) (fun c43 => ?_)
                      · skip
                        refine w_iconst (v := 0) ok dX12_works_349 (by decide) ?_
                        have eT : (T_X12_works_j350 a0 I J) = 0 := by
                          unfold T_X12_works_j350; exact (if_pos c43).trans (rfl)
                        refine w_loc [2, 3, 1, 0] rfl ?_
                        have jj := jn40
                        rw [eT] at jj
                        exact jj
                      · skip
                        refine w_iconst (v := 1) ok dX12_works_345 (by decide) ?_
                        refine w_goto (tgt := 350) ok dX12_works_346 (by decide) ?_
                        have eT : (T_X12_works_j350 a0 I J) = 1 := by
                          unfold T_X12_works_j350; exact (if_neg c43).trans (rfl)
                        refine w_loc [2, 3, 1, 0] rfl ?_
                        have jj := jn40
                        rw [eT] at jj
                        exact jj
                    · skip
                      by_cases c44 : a0 = 258
                      · skip
                        refine w_lkp (tgt := 318) (off := 248) ok dX12_works_70 (by decide) (by rw [c44]; rfl) (by decide) ?_
                        refine w_lload ok dX12_works_318 0 rfl ?_
                        refine w_lload_n ok dX12_works_320 1 rfl ?_
                        refine w_lcmp ok dX12_works_321 ?_
                        have jn45 : WK K 0 0 330 [(0, .ref 130), (1, .int a0), (2, .long (J 153 ((I 130 38) - 1).toNatClampNeg)), (4, .long (J 153 ((I 130 38) - 2).toNatClampNeg))] [.int (T_X12_works_j330 a0 I J)] (eI f (u2 I 130 38 ((I 130 38) - 1))) (eJ f J) R n g := by
                          refine w_cS (As := [.int (T_X12_works_j330 a0 I J)]) ok dX12_works_330 iX12_is (lX12_341 rfl) (c_X12_is ro hnn hf (T_X12_works_j330 a0 I J) ) (by decide) rfl (Nat.le_of_ble_eq_true rfl) ?_
                          refine w_lstore ok dX12_works_333 (by decide) rfl ?_
                          refine w_goto (tgt := 407) ok dX12_works_335 (by decide) ?_
                          refine w_aload_n ok dX12_works_407 1 rfl ?_
                          refine w_getR ok dX12_works_408 (fX12_81 rfl) (congrArg Prod.fst s_130) rfl (r_130_37 ro) (ltM hnn (by decide)) ?_
                          refine w_aload_n ok dX12_works_411 1 rfl ?_
                          refine y_getI ok dX12_works_412 (fX12_338 rfl) (congrArg Prod.fst s_130) rfl (ltM hnn (by decide)) (sdm hf (by decide)) ?_
                          refine w_iconst (v := 1) ok dX12_works_415 (by decide) ?_
                          refine w_isub ok dX12_works_416 ?_
                          refine w_lload ok dX12_works_417 0 rfl ?_
                          refine y_last (q := (((u2 I 130 38 ((I 130 38) - 1)) 130 38) - 1).toNatClampNeg) ok dX12_works_419 s_153 (hp15 c1 c2 c9 c12 c15 c19 c24 c29 c34 c39 c44) (by decide) (ltM hnn (by decide)) (sdm hf (by decide)) ?_
                          show WK K 0 0 420 [(6, .long (F_X12_is (T_X12_works_j330 a0 I J) (u2 I 130 38 ((I 130 38) - 1)) J)), (0, .ref 130), (1, .int a0), (2, .long (J 153 ((I 130 38) - 1).toNatClampNeg)), (4, .long (J 153 ((I 130 38) - 2).toNatClampNeg))] [] (eI f (u2 I 130 38 ((I 130 38) - 1))) (eJ f (S27_X12_works a0 I J)) R n g
                          refine w_lload ok dX12_works_420 0 rfl ?_
                          refine w_ldc2 ok dX12_works_422 kX12_351 ?_
                          refine w_lcmp ok dX12_works_425 ?_
                          refine w_if_gt (tgt := 442) ok dX12_works_426 (by decide) (fun c46 => ?_) (fun c46 => ?_)
                          · skip
                            refine w_iconst (v := 0) ok dX12_works_442 (by decide) ?_
                            exact w_zret ok fin dX12_works_443 rfl (by decide) (by unfold F_X12_works FI_X12_works FJ_X12_works; simp only [if_neg c1]; simp only [if_neg c2]; simp only [if_neg c9]; simp only [if_neg c12]; simp only [if_neg c15]; simp only [if_neg c19]; simp only [if_neg c24]; simp only [if_neg c29]; simp only [if_neg c34]; simp only [if_neg c39]; simp only [if_pos c44]; simp only [if_pos c46]; exact Pd.i)
                          · skip
                            refine w_lload ok dX12_works_429 0 rfl ?_
                            refine w_ldc2 ok dX12_works_431 kX12_353 ?_
                            refine w_lcmp ok dX12_works_434 ?_
                            show WK K 0 0 435 [(6, .long (F_X12_is (T_X12_works_j330 a0 I J) (u2 I 130 38 ((I 130 38) - 1)) J)), (0, .ref 130), (1, .int a0), (2, .long (J 153 ((I 130 38) - 1).toNatClampNeg)), (4, .long (J 153 ((I 130 38) - 2).toNatClampNeg))] [.int (S28_X12_works a0 I J)] (eI f (u2 I 130 38 ((I 130 38) - 1))) (eJ f (S27_X12_works a0 I J)) R n g
                            refine w_if_lt (tgt := 442) ok dX12_works_435 (by decide) (fun c47 => ?_) (fun c47 => ?_)
                            · skip
                              refine w_iconst (v := 0) ok dX12_works_442 (by decide) ?_
                              exact w_zret ok fin dX12_works_443 rfl (by decide) (by unfold F_X12_works FI_X12_works FJ_X12_works; simp only [if_neg c1]; simp only [if_neg c2]; simp only [if_neg c9]; simp only [if_neg c12]; simp only [if_neg c15]; simp only [if_neg c19]; simp only [if_neg c24]; simp only [if_neg c29]; simp only [if_neg c34]; simp only [if_neg c39]; simp only [if_pos c44]; simp only [if_neg c46]; simp only [if_pos c47]; exact Pd.i)
                            · skip
                              refine w_iconst (v := 1) ok dX12_works_438 (by decide) ?_
                              refine w_goto (tgt := 443) ok dX12_works_439 (by decide) ?_
                              exact w_zret ok fin dX12_works_443 rfl (by decide) (by unfold F_X12_works FI_X12_works FJ_X12_works; simp only [if_neg c1]; simp only [if_neg c2]; simp only [if_neg c9]; simp only [if_neg c12]; simp only [if_neg c15]; simp only [if_neg c19]; simp only [if_neg c24]; simp only [if_neg c29]; simp only [if_neg c34]; simp only [if_neg c39]; simp only [if_pos c44]; simp only [if_neg c46]; simp only [if_neg c47]; exact Pd.i)
                        refine w_if_lt (tgt := 329) ok dX12_works_322 (by decide) (fun c48 => ?_) (fun c48 => ?_)
                        · skip
                          refine w_iconst (v := 0) ok dX12_works_329 (by decide) ?_
                          have eT : (T_X12_works_j330 a0 I J) = 0 := by
                            unfold T_X12_works_j330; exact (if_pos c48).trans (rfl)
                          refine w_loc [2, 3, 1, 0] rfl ?_
                          have jj := jn45
                          rw [eT] at jj
                          exact jj
                        · skip
                          refine w_iconst (v := 1) ok dX12_works_325 (by decide) ?_
                          refine w_goto (tgt := 330) ok dX12_works_326 (by decide) ?_
                          have eT : (T_X12_works_j330 a0 I J) = 1 := by
                            unfold T_X12_works_j330; exact (if_neg c48).trans (rfl)
                          refine w_loc [2, 3, 1, 0] rfl ?_
                          have jj := jn45
                          rw [eT] at jj
                          exact jj
                      · skip
                        by_cases c49 : a0 = 261
                        · skip
                          refine w_lkp (tgt := 358) (off := 288) ok dX12_works_70 (by decide) (by rw [c49]; rfl) (by decide) ?_
                          refine w_lload ok dX12_works_358 0 rfl ?_
                          refine w_lconst (v := 0) ok dX12_works_360 (by decide) ?_
                          refine w_lcmp ok dX12_works_361 ?_
                          have jn50 : WK K 0 0 376 [(0, .ref 130), (1, .int a0), (2, .long (J 153 ((I 130 38) - 1).toNatClampNeg)), (4, .long (J 153 ((I 130 38) - 2).toNatClampNeg))] [.int (T_X12_works_j376 a0 I J)] (eI f (u2 I 130 38 ((I 130 38) - 1))) (eJ f J) R n g := by
                            refine w_cS (As := [.int (T_X12_works_j376 a0 I J)]) ok dX12_works_376 iX12_is (lX12_341 rfl) (c_X12_is ro hnn hf (T_X12_works_j376 a0 I J) ) (by decide) rfl (Nat.le_of_ble_eq_true rfl) ?_
                            refine w_lstore ok dX12_works_379 (by decide) rfl ?_
                            refine w_goto (tgt := 407) ok dX12_works_381 (by decide) ?_
                            refine w_aload_n ok dX12_works_407 1 rfl ?_
                            refine w_getR ok dX12_works_408 (fX12_81 rfl) (congrArg Prod.fst s_130) rfl (r_130_37 ro) (ltM hnn (by decide)) ?_
                            refine w_aload_n ok dX12_works_411 1 rfl ?_
                            refine y_getI ok dX12_works_412 (fX12_338 rfl) (congrArg Prod.fst s_130) rfl (ltM hnn (by decide)) (sdm hf (by decide)) ?_
                            refine w_iconst (v := 1) ok dX12_works_415 (by decide) ?_
                            refine w_isub ok dX12_works_416 ?_
                            refine w_lload ok dX12_works_417 0 rfl ?_
                            refine y_last (q := (((u2 I 130 38 ((I 130 38) - 1)) 130 38) - 1).toNatClampNeg) ok dX12_works_419 s_153 (hp16 c1 c2 c9 c12 c15 c19 c24 c29 c34 c39 c44 c49) (by decide) (ltM hnn (by decide)) (sdm hf (by decide)) ?_
                            show WK K 0 0 420 [(6, .long (F_X12_is (T_X12_works_j376 a0 I J) (u2 I 130 38 ((I 130 38) - 1)) J)), (0, .ref 130), (1, .int a0), (2, .long (J 153 ((I 130 38) - 1).toNatClampNeg)), (4, .long (J 153 ((I 130 38) - 2).toNatClampNeg))] [] (eI f (u2 I 130 38 ((I 130 38) - 1))) (eJ f (S29_X12_works a0 I J)) R n g
                            refine w_lload ok dX12_works_420 0 rfl ?_
                            refine w_ldc2 ok dX12_works_422 kX12_351 ?_
                            refine w_lcmp ok dX12_works_425 ?_
                            refine w_if_gt (tgt := 442) ok dX12_works_426 (by decide) (fun c51 => ?_) (fun c51 => ?_)
                            · skip
                              refine w_iconst (v := 0) ok dX12_works_442 (by decide) ?_
                              exact w_zret ok fin dX12_works_443 rfl (by decide) (by unfold F_X12_works FI_X12_works FJ_X12_works; simp only [if_neg c1]; simp only [if_neg c2]; simp only [if_neg c9]; simp only [if_neg c12]; simp only [if_neg c15]; simp only [if_neg c19]; simp only [if_neg c24]; simp only [if_neg c29]; simp only [if_neg c34]; simp only [if_neg c39]; simp only [if_neg c44]; simp only [if_pos c49]; simp only [if_pos c51]; exact Pd.i)
                            · skip
                              refine w_lload ok dX12_works_429 0 rfl ?_
                              refine w_ldc2 ok dX12_works_431 kX12_353 ?_
                              refine w_lcmp ok dX12_works_434 ?_
                              show WK K 0 0 435 [(6, .long (F_X12_is (T_X12_works_j376 a0 I J) (u2 I 130 38 ((I 130 38) - 1)) J)), (0, .ref 130), (1, .int a0), (2, .long (J 153 ((I 130 38) - 1).toNatClampNeg)), (4, .long (J 153 ((I 130 38) - 2).toNatClampNeg))] [.int (S30_X12_works a0 I J)] (eI f (u2 I 130 38 ((I 130 38) - 1))) (eJ f (S29_X12_works a0 I J)) R n g
                              refine w_if_lt (tgt := 442) ok dX12_works_435 (by decide) (fun c52 => ?_) (fun c52 => ?_)
                              · skip
                                refine w_iconst (v := 0) ok dX12_works_442 (by decide) ?_
                                exact w_zret ok fin dX12_works_443 rfl (by decide) (by unfold F_X12_works FI_X12_works FJ_X12_works; simp only [if_neg c1]; simp only [if_neg c2]; simp only [if_neg c9]; simp only [if_neg c12]; simp only [if_neg c15]; simp only [if_neg c19]; simp only [if_neg c24]; simp only [if_neg c29]; simp only [if_neg c34]; simp only [if_neg c39]; simp only [if_neg c44]; simp only [if_pos c49]; simp only [if_neg c51]; simp only [if_pos c52]; exact Pd.i)
                              · skip
                                refine w_iconst (v := 1) ok dX12_works_438 (by decide) ?_
                                refine w_goto (tgt := 443) ok dX12_works_439 (by decide) ?_
                                exact w_zret ok fin dX12_works_443 rfl (by decide) (by unfold F_X12_works FI_X12_works FJ_X12_works; simp only [if_neg c1]; simp only [if_neg c2]; simp only [if_neg c9]; simp only [if_neg c12]; simp only [if_neg c15]; simp only [if_neg c19]; simp only [if_neg c24]; simp only [if_neg c29]; simp only [if_neg c34]; simp only [if_neg c39]; simp only [if_neg c44]; simp only [if_pos c49]; simp only [if_neg c51]; simp only [if_neg c52]; exact Pd.i)
                          refine w_if_eq (tgt := 375) ok dX12_works_362 (by decide) (fun c53 => ?_) (fun c53 => ?_)
                          · skip
                            refine w_iconst (v := 0) ok dX12_works_375 (by decide) ?_
                            have eT : (T_X12_works_j376 a0 I J) = 0 := by
                              unfold T_X12_works_j376; exact (if_pos c53).trans (rfl)
                            refine w_loc [2, 3, 1, 0] rfl ?_
                            have jj := jn50
                            rw [eT] at jj
                            exact jj
                          · skip
                            refine w_lload_n ok dX12_works_365 1 rfl ?_
                            refine w_lconst (v := 0) ok dX12_works_366 (by decide) ?_
                            refine w_lcmp ok dX12_works_367 ?_
                            refine w_if_eq (tgt := 375) ok dX12_works_368 (by decide) (fun c54 => ?_) (fun c54 => ?_)
                            · skip
                              refine w_iconst (v := 0) ok dX12_works_375 (by decide) ?_
                              have eT : (T_X12_works_j376 a0 I J) = 0 := by
                                unfold T_X12_works_j376; exact (if_neg c53).trans ((if_pos c54).trans (rfl))
                              refine w_loc [2, 3, 1, 0] rfl ?_
                              have jj := jn50
                              rw [eT] at jj
                              exact jj
                            · skip
                              refine w_iconst (v := 1) ok dX12_works_371 (by decide) ?_
                              refine w_goto (tgt := 376) ok dX12_works_372 (by decide) ?_
                              have eT : (T_X12_works_j376 a0 I J) = 1 := by
                                unfold T_X12_works_j376; exact (if_neg c53).trans ((if_neg c54).trans (rfl))
                              refine w_loc [2, 3, 1, 0] rfl ?_
                              have jj := jn50
                              rw [eT] at jj
                              exact jj
                        · skip
                          have n55 : a0.toInt ≠ 42 := ne_toInt c2
                          have n56 : a0.toInt ≠ 43 := ne_toInt c9
                          have n57 : a0.toInt ≠ 45 := ne_toInt c12
                          have n58 : a0.toInt ≠ 47 := ne_toInt c15
                          have n59 : a0.toInt ≠ 60 := ne_toInt c19
                          have n60 : a0.toInt ≠ 61 := ne_toInt c24
                          have n61 : a0.toInt ≠ 62 := ne_toInt c29
                          have n62 : a0.toInt ≠ 256 := ne_toInt c34
                          have n63 : a0.toInt ≠ 257 := ne_toInt c39
                          have n64 : a0.toInt ≠ 258 := ne_toInt c44
                          have n65 : a0.toInt ≠ 261 := ne_toInt c49
                          refine w_lkp (tgt := 384) (off := 314) ok dX12_works_70 (by decide) (by simp [Op.lookupswitch.offset, n55, n56, n57, n58, n59, n60, n61, n62, n63, n64, n65, Ne.symm n55, Ne.symm n56, Ne.symm n57, Ne.symm n58, Ne.symm n59, Ne.symm n60, Ne.symm n61, Ne.symm n62, Ne.symm n63, Ne.symm n64, Ne.symm n65]) (by decide) ?_
                          refine w_lload ok dX12_works_384 0 rfl ?_
                          refine w_lconst (v := 0) ok dX12_works_386 (by decide) ?_
                          refine w_lcmp ok dX12_works_387 ?_
                          have jn66 : WK K 0 0 402 [(0, .ref 130), (1, .int a0), (2, .long (J 153 ((I 130 38) - 1).toNatClampNeg)), (4, .long (J 153 ((I 130 38) - 2).toNatClampNeg))] [.int (T_X12_works_j402 a0 I J)] (eI f (u2 I 130 38 ((I 130 38) - 1))) (eJ f J) R n g := by
                            refine w_cS (As := [.int (T_X12_works_j402 a0 I J)]) ok dX12_works_402 iX12_is (lX12_341 rfl) (c_X12_is ro hnn hf (T_X12_works_j402 a0 I J) ) (by decide) rfl (Nat.le_of_ble_eq_true rfl) ?_
                            refine w_lstore ok dX12_works_405 (by decide) rfl ?_
                            refine w_aload_n ok dX12_works_407 1 rfl ?_
                            refine w_getR ok dX12_works_408 (fX12_81 rfl) (congrArg Prod.fst s_130) rfl (r_130_37 ro) (ltM hnn (by decide)) ?_
                            refine w_aload_n ok dX12_works_411 1 rfl ?_
                            refine y_getI ok dX12_works_412 (fX12_338 rfl) (congrArg Prod.fst s_130) rfl (ltM hnn (by decide)) (sdm hf (by decide)) ?_
                            refine w_iconst (v := 1) ok dX12_works_415 (by decide) ?_
                            refine w_isub ok dX12_works_416 ?_
                            refine w_lload ok dX12_works_417 0 rfl ?_
                            refine y_last (q := (((u2 I 130 38 ((I 130 38) - 1)) 130 38) - 1).toNatClampNeg) ok dX12_works_419 s_153 (hp17 c1 c2 c9 c12 c15 c19 c24 c29 c34 c39 c44 c49) (by decide) (ltM hnn (by decide)) (sdm hf (by decide)) ?_
                            show WK K 0 0 420 [(6, .long (F_X12_is (T_X12_works_j402 a0 I J) (u2 I 130 38 ((I 130 38) - 1)) J)), (0, .ref 130), (1, .int a0), (2, .long (J 153 ((I 130 38) - 1).toNatClampNeg)), (4, .long (J 153 ((I 130 38) - 2).toNatClampNeg))] [] (eI f (u2 I 130 38 ((I 130 38) - 1))) (eJ f (S31_X12_works a0 I J)) R n g
                            refine w_lload ok dX12_works_420 0 rfl ?_
                            refine w_ldc2 ok dX12_works_422 kX12_351 ?_
                            refine w_lcmp ok dX12_works_425 ?_
                            refine w_if_gt (tgt := 442) ok dX12_works_426 (by decide) (fun c67 => ?_) (fun c67 => ?_)
                            · skip
                              refine w_iconst (v := 0) ok dX12_works_442 (by decide) ?_
                              exact w_zret ok fin dX12_works_443 rfl (by decide) (by unfold F_X12_works FI_X12_works FJ_X12_works; simp only [if_neg c1]; simp only [if_neg c2]; simp only [if_neg c9]; simp only [if_neg c12]; simp only [if_neg c15]; simp only [if_neg c19]; simp only [if_neg c24]; simp only [if_neg c29]; simp only [if_neg c34]; simp only [if_neg c39]; simp only [if_neg c44]; simp only [if_neg c49]; simp only [if_pos c67]; exact Pd.i)
                            · skip
                              refine w_lload ok dX12_works_429 0 rfl ?_
                              refine w_ldc2 ok dX12_works_431 kX12_353 ?_
                              refine w_lcmp ok dX12_works_434 ?_
                              show WK K 0 0 435 [(6, .long (F_X12_is (T_X12_works_j402 a0 I J) (u2 I 130 38 ((I 130 38) - 1)) J)), (0, .ref 130), (1, .int a0), (2, .long (J 153 ((I 130 38) - 1).toNatClampNeg)), (4, .long (J 153 ((I 130 38) - 2).toNatClampNeg))] [.int (S32_X12_works a0 I J)] (eI f (u2 I 130 38 ((I 130 38) - 1))) (eJ f (S31_X12_works a0 I J)) R n g
                              refine w_if_lt (tgt := 442) ok dX12_works_435 (by decide) (fun c68 => ?_) (fun c68 => ?_)
                              · skip
                                refine w_iconst (v := 0) ok dX12_works_442 (by decide) ?_
                                exact w_zret ok fin dX12_works_443 rfl (by decide) (by unfold F_X12_works FI_X12_works FJ_X12_works; simp only [if_neg c1]; simp only [if_neg c2]; simp only [if_neg c9]; simp only [if_neg c12]; simp only [if_neg c15]; simp only [if_neg c19]; simp only [if_neg c24]; simp only [if_neg c29]; simp only [if_neg c34]; simp only [if_neg c39]; simp only [if_neg c44]; simp only [if_neg c49]; simp only [if_neg c67]; simp only [if_pos c68]; exact Pd.i)
                              · skip
                                refine w_iconst (v := 1) ok dX12_works_438 (by decide) ?_
                                refine w_goto (tgt := 443) ok dX12_works_439 (by decide) ?_
                                exact w_zret ok fin dX12_works_443 rfl (by decide) (by unfold F_X12_works FI_X12_works FJ_X12_works; simp only [if_neg c1]; simp only [if_neg c2]; simp only [if_neg c9]; simp only [if_neg c12]; simp only [if_neg c15]; simp only [if_neg c19]; simp only [if_neg c24]; simp only [if_neg c29]; simp only [if_neg c34]; simp only [if_neg c39]; simp only [if_neg c44]; simp only [if_neg c49]; simp only [if_neg c67]; simp only [if_neg c68]; exact Pd.i)
                          refine w_if_ne (tgt := 397) ok dX12_works_388 (by decide) (fun c69 => ?_) (fun c69 => ?_)
                          · skip
                            refine w_iconst (v := 1) ok dX12_works_397 (by decide) ?_
                            refine w_goto (tgt := 402) ok dX12_works_398 (by decide) ?_
                            have eT : (T_X12_works_j402 a0 I J) = 1 := by
                              unfold T_X12_works_j402; exact (if_neg c69).trans (rfl)
                            refine w_loc [2, 3, 1, 0] rfl ?_
                            have jj := jn66
                            rw [eT] at jj
                            exact jj
                          · skip
                            refine w_lload_n ok dX12_works_391 1 rfl ?_
                            refine w_lconst (v := 0) ok dX12_works_392 (by decide) ?_
                            refine w_lcmp ok dX12_works_393 ?_
                            refine w_if_eq (tgt := 401) ok dX12_works_394 (by decide) (fun c70 => ?_) (fun c70 => ?_)
                            · skip
                              refine w_iconst (v := 0) ok dX12_works_401 (by decide) ?_
                              have eT : (T_X12_works_j402 a0 I J) = 0 := by
                                unfold T_X12_works_j402; exact (if_pos c69).trans ((if_pos c70).trans (rfl))
                              refine w_loc [2, 3, 1, 0] rfl ?_
                              have jj := jn66
                              rw [eT] at jj
                              exact jj
                            · skip
                              refine w_iconst (v := 1) ok dX12_works_397 (by decide) ?_
                              refine w_goto (tgt := 402) ok dX12_works_398 (by decide) ?_
                              have eT : (T_X12_works_j402 a0 I J) = 1 := by
                                unfold T_X12_works_j402; exact (if_pos c69).trans ((if_neg c70).trans (rfl))
                              refine w_loc [2, 3, 1, 0] rfl ?_
                              have jj := jn66
                              rw [eT] at jj
                              exact jj
  · skip
    refine w_aload_n ok dX12_works_19 1 rfl ?_
    refine w_getR ok dX12_works_20 (fX12_81 rfl) (congrArg Prod.fst s_130) rfl (r_130_37 ro) (ltM hnn (by decide)) ?_
    refine w_aload_n ok dX12_works_23 1 rfl ?_
    refine y_getI ok dX12_works_24 (fX12_338 rfl) (congrArg Prod.fst s_130) rfl (ltM hnn (by decide)) (sdm hf (by decide)) ?_
    refine w_iconst (v := 1) ok dX12_works_27 (by decide) ?_
    refine w_isub ok dX12_works_28 ?_
    refine w_lload_n ok dX12_works_29 0 rfl ?_
    refine w_lconst (v := 0) ok dX12_works_30 (by decide) ?_
    refine w_lcmp ok dX12_works_31 ?_
    refine w_if_ne (tgt := 39) ok dX12_works_32 (by decide) (fun c71 => ?_) (fun c71 => ?_)
    · skip
      refine w_iconst (v := 0) ok dX12_works_39 (by decide) ?_
      refine w_cS (As := [.int 0]) ok dX12_works_40 iX12_is (lX12_341 rfl) (c_X12_is ro hnn hf 0 ) (by decide) rfl (Nat.le_of_ble_eq_true rfl) ?_
      show WK K 0 0 43 [(2, .long (J 153 ((I 130 38) - 1).toNatClampNeg)), (0, .ref 130), (1, .int a0)] [.long (F_X12_is 0 I J), .int ((I 130 38) - 1), .ref 153] (eI f I) (eJ f J) R n g
      refine y_last (q := ((I 130 38) - 1).toNatClampNeg) ok dX12_works_43 s_153 (hp18 c1 c71) (by decide) (ltM hnn (by decide)) (sdm hf (by decide)) ?_
      refine w_iconst (v := 1) ok dX12_works_44 (by decide) ?_
      exact w_zret ok fin dX12_works_45 rfl (by decide) (by unfold F_X12_works FI_X12_works FJ_X12_works; simp only [if_pos c1]; simp only [if_neg c71]; exact Pd.i)
    · skip
      refine w_iconst (v := 1) ok dX12_works_35 (by decide) ?_
      refine w_goto (tgt := 40) ok dX12_works_36 (by decide) ?_
      refine w_cS (As := [.int 1]) ok dX12_works_40 iX12_is (lX12_341 rfl) (c_X12_is ro hnn hf 1 ) (by decide) rfl (Nat.le_of_ble_eq_true rfl) ?_
      show WK K 0 0 43 [(2, .long (J 153 ((I 130 38) - 1).toNatClampNeg)), (0, .ref 130), (1, .int a0)] [.long (F_X12_is 1 I J), .int ((I 130 38) - 1), .ref 153] (eI f I) (eJ f J) R n g
      refine y_last (q := ((I 130 38) - 1).toNatClampNeg) ok dX12_works_43 s_153 (hp19 c1 c71) (by decide) (ltM hnn (by decide)) (sdm hf (by decide)) ?_
      refine w_iconst (v := 1) ok dX12_works_44 (by decide) ?_
      exact w_zret ok fin dX12_works_45 rfl (by decide) (by unfold F_X12_works FI_X12_works FJ_X12_works; simp only [if_pos c1]; simp only [if_pos c71]; exact Pd.i)

