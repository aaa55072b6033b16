/-! both: what a law's side is worth (printed by wip/gen/inv/ga.py) -/
def bdL (v : Int64) : Prop := ¬ (1000000000000 : Int64) < v ∧ ¬ v < (-1000000000000 : Int64)
theorem bd32 (x : Int32) : bdL x.toInt64 := by
  have h1 : x.toInt < 2147483648 := x.toInt_lt
  have h2 : -2147483648 ≤ x.toInt := x.le_toInt
  have e1 : (1000000000000 : Int64).toInt = 1000000000000 := by decide +kernel
  have e2 : (-1000000000000 : Int64).toInt = -1000000000000 := by decide +kernel
  refine ⟨fun h => ?_, fun h => ?_⟩
  · have q := Int64.lt_iff_toInt_lt.mp h
    rw [e1, Int32.toInt_toInt64] at q
    omega
  · have q := Int64.lt_iff_toInt_lt.mp h
    rw [e2, Int32.toInt_toInt64] at q
    omega
theorem bd01 {c : Prop} [Decidable c] : bdL (if c then (0 : Int64) else 1) := by
  split
  · exact bd32 0
  · exact bd32 1
theorem nmin {v : Int64} (h : bdL v) : ¬ v = -9223372036854775808 := fun e => h.2 (by rw [e]; decide +kernel)
/-- the model's test of a number -/
theorem chk_1 {z : Int64} (h : bdL z) : (if (0 : Int32) < lg_cmp z 1000000000000 then (0 : Int32) else (if lg_cmp z (-1000000000000) < 0 then 0 else 1)) = 1 := by
  rw [if_neg (fun q => h.1 ((lg_cmp_gt _ _).mp q)), if_neg (fun q => h.2 ((lg_cmp_lt _ _).mp q))]
theorem chk_0 {z : Int64} (h : ¬ bdL z) : (if (0 : Int32) < lg_cmp z 1000000000000 then (0 : Int32) else (if lg_cmp z (-1000000000000) < 0 then 0 else 1)) = 0 := by
  by_cases q : (0 : Int32) < lg_cmp z 1000000000000
  · rw [if_pos q]
  · rw [if_neg q]
    by_cases r : lg_cmp z (-1000000000000) < 0
    · rw [if_pos r]
    · exact absurd ⟨fun y => q ((lg_cmp_gt _ _).mpr y), fun y => r ((lg_cmp_lt _ _).mpr y)⟩ h
/-- a sign of two numbers, worked out by the model -/
def WKV (v : Int32) (z : Int64) (I : SI) (J : SJ) (d : Nat) : Prop := (bdL z → ¬ F_X12_works v I J = 0 ∧ FJ_X12_works v I J = u2 J 153 (d - 2) z) ∧ (¬ bdL z → F_X12_works v I J = 0)
theorem WKV.of {v : Int32} {z : Int64} {I : SI} {J : SJ} {d : Nat} (e1 : F_X12_works v I J = (if (0 : Int32) < lg_cmp z 1000000000000 then (0 : Int32) else (if lg_cmp z (-1000000000000) < 0 then 0 else 1))) (e2 : FJ_X12_works v I J = u2 J 153 (d - 2) z) : WKV v z I J d := by
  refine ⟨fun h => ⟨?_, e2⟩, fun h => ?_⟩
  · rw [e1, chk_1 h]; decide
  · rw [e1, chk_0 h]
theorem neg0 {z : Int64} (h : z = 0) : z = -z := by subst h; decide +kernel
theorem is_v {c : Prop} [Decidable c] {I : SI} {J : SJ} : F_X12_is (if c then (0 : Int32) else 1) I J = if c then (0 : Int64) else 1 := by
  unfold F_X12_is
  by_cases h : c
  · rw [if_pos h, if_pos h, if_pos rfl]
  · rw [if_neg h, if_neg h, if_neg (by decide)]
theorem is_v1 {c : Prop} [Decidable c] {I : SI} {J : SJ} : F_X12_is (if c then (1 : Int32) else 0) I J = if c then (1 : Int64) else 0 := by
  unfold F_X12_is
  by_cases h : c
  · rw [if_pos h, if_pos h, if_neg (by decide)]
  · rw [if_neg h, if_neg h, if_pos rfl]

theorem jn_7 {x y : Int64} {A : SI} {Jc : SJ} : F_X1_join 7 x y A Jc = x + y := by
  unfold F_X1_join
  rw [if_pos (show (7 : Int32) = 7 from rfl)]
theorem wk_7 {I : SI} {J : SJ} {A : SI} {Jc : SJ} {d : Nat} (e1 : (I 130 38 - 1).toNatClampNeg = d - 1) (e2 : (I 130 38 - 2).toNatClampNeg = d - 2) (e3 : ((u2 I 130 38 ((I 130 38) - 1)) 130 38 - 1).toNatClampNeg = d - 2) : WKV 43 (F_X1_join 7 (J 153 (d - 2)) (J 153 (d - 1)) A Jc) I J d := by
  rw [jn_7]
  refine WKV.of ?_ ?_
  · unfold F_X12_works S9_X12_works S10_X12_works
    rw [if_neg (show ¬ (43 : Int32) = 260 by decide), if_neg (show ¬ (43 : Int32) = 42 by decide), if_pos (show (43 : Int32) = 43 from rfl), e1, e2]
  · unfold FJ_X12_works
    rw [if_neg (show ¬ (43 : Int32) = 260 by decide), if_neg (show ¬ (43 : Int32) = 42 by decide), if_pos (show (43 : Int32) = 43 from rfl), ite_self, ite_self]
    unfold S8_X12_works
    rw [e1, e2, e3]
theorem jn_8 {x y : Int64} {A : SI} {Jc : SJ} : F_X1_join 8 x y A Jc = x - y := by
  unfold F_X1_join
  rw [if_neg (show ¬ (8 : Int32) = 7 by decide), if_pos (show (8 : Int32) = 8 from rfl)]
theorem wk_8 {I : SI} {J : SJ} {A : SI} {Jc : SJ} {d : Nat} (e1 : (I 130 38 - 1).toNatClampNeg = d - 1) (e2 : (I 130 38 - 2).toNatClampNeg = d - 2) (e3 : ((u2 I 130 38 ((I 130 38) - 1)) 130 38 - 1).toNatClampNeg = d - 2) : WKV 45 (F_X1_join 8 (J 153 (d - 2)) (J 153 (d - 1)) A Jc) I J d := by
  rw [jn_8]
  refine WKV.of ?_ ?_
  · unfold F_X12_works S12_X12_works S13_X12_works
    rw [if_neg (show ¬ (45 : Int32) = 260 by decide), if_neg (show ¬ (45 : Int32) = 42 by decide), if_neg (show ¬ (45 : Int32) = 43 by decide), if_pos (show (45 : Int32) = 45 from rfl), e1, e2]
  · unfold FJ_X12_works
    rw [if_neg (show ¬ (45 : Int32) = 260 by decide), if_neg (show ¬ (45 : Int32) = 42 by decide), if_neg (show ¬ (45 : Int32) = 43 by decide), if_pos (show (45 : Int32) = 45 from rfl), ite_self, ite_self]
    unfold S11_X12_works
    rw [e1, e2, e3]
theorem jn_9 {x y : Int64} {A : SI} {Jc : SJ} : F_X1_join 9 x y A Jc = (if (lg_cmp (T_X1_join_j148 9 x y A Jc) 0) = 0 then x * y else (if (lg_cmp (T_X1_join_j162 9 x y A Jc) (1000000000000 / (T_X1_join_j148 9 x y A Jc))) ≤ 0 then x * y else -9223372036854775808)) := by
  unfold F_X1_join
  rw [if_neg (show ¬ (9 : Int32) = 7 by decide), if_neg (show ¬ (9 : Int32) = 8 by decide), if_pos (show (9 : Int32) = 9 from rfl)]
theorem wk_9 {I : SI} {J : SJ} {A : SI} {Jc : SJ} {d : Nat} (e1 : (I 130 38 - 1).toNatClampNeg = d - 1) (e2 : (I 130 38 - 2).toNatClampNeg = d - 2) (e3 : ((u2 I 130 38 ((I 130 38) - 1)) 130 38 - 1).toNatClampNeg = d - 2) : WKV 42 (F_X1_join 9 (J 153 (d - 2)) (J 153 (d - 1)) A Jc) I J d := by
  rw [jn_9]
  have a1 : T_X1_join_j148 9 (J 153 (d - 2)) (J 153 (d - 1)) A Jc = absL (J 153 (d - 2)) := by
    unfold T_X1_join_j148 absL
    by_cases p : (0 : Int64) < (J 153 (d - 2))
    · rw [if_pos ((lg_cmp_ge _ _).mpr (Int64.le_of_lt p)), if_pos p]
    · rw [if_neg p]
      by_cases q : (0 : Int32) ≤ lg_cmp (J 153 (d - 2)) 0
      · have e : (J 153 (d - 2)) = 0 := Int64.le_antisymm (Int64.not_lt.mp p) ((lg_cmp_ge _ _).mp q)
        rw [if_pos q]; exact neg0 e
      · rw [if_neg q]
  have a2 : T_X1_join_j162 9 (J 153 (d - 2)) (J 153 (d - 1)) A Jc = absL (J 153 (d - 1)) := by
    unfold T_X1_join_j162 absL
    by_cases p : (0 : Int64) < (J 153 (d - 1))
    · rw [if_pos ((lg_cmp_ge _ _).mpr (Int64.le_of_lt p)), if_pos p]
    · rw [if_neg p]
      by_cases q : (0 : Int32) ≤ lg_cmp (J 153 (d - 1)) 0
      · have e : (J 153 (d - 1)) = 0 := Int64.le_antisymm (Int64.not_lt.mp p) ((lg_cmp_ge _ _).mp q)
        rw [if_pos q]; exact neg0 e
      · rw [if_neg q]
  rw [a1, a2]
  have s4 : S4_X12_works 42 I J = lg_cmp (absL (J 153 (d - 1))) (1000000000000 / absL (J 153 (d - 2))) := by unfold S4_X12_works; rw [e1, e2]
  by_cases c : lg_cmp (J 153 (d - 2)) 0 = 0
  · have c2 : lg_cmp (absL (J 153 (d - 2))) 0 = 0 := by rw [(lg_cmp_eq _ _).mp c]; decide +kernel
    rw [if_pos c2]
    refine WKV.of ?_ ?_
    · unfold F_X12_works S2_X12_works S3_X12_works
      rw [if_neg (show ¬ (42 : Int32) = 260 by decide), if_pos (show (42 : Int32) = 42 from rfl), e1, e2, if_pos c]
    · unfold FJ_X12_works
      rw [if_neg (show ¬ (42 : Int32) = 260 by decide), if_pos (show (42 : Int32) = 42 from rfl), e2, if_pos c, ite_self, ite_self]
      unfold S1_X12_works
      rw [e1, e2, e3]
  · have c2 : ¬ lg_cmp (absL (J 153 (d - 2))) 0 = 0 := fun q => absn c ((lg_cmp_eq _ _).mp q)
    rw [if_neg c2]
    by_cases g : lg_cmp (absL (J 153 (d - 1))) (1000000000000 / absL (J 153 (d - 2))) ≤ 0
    · rw [if_pos g]
      refine WKV.of ?_ ?_
      · unfold F_X12_works S6_X12_works S7_X12_works
        rw [if_neg (show ¬ (42 : Int32) = 260 by decide), if_pos (show (42 : Int32) = 42 from rfl), s4, e1, e2, if_neg c, if_pos g]
      · unfold FJ_X12_works
        rw [if_neg (show ¬ (42 : Int32) = 260 by decide), if_pos (show (42 : Int32) = 42 from rfl), s4, e2, if_neg c, if_pos g, ite_self, ite_self]
        unfold S5_X12_works
        rw [e1, e2, e3]
    · rw [if_neg g]
      refine ⟨fun h => absurd rfl (nmin h), fun _ => ?_⟩
      unfold F_X12_works
      rw [if_neg (show ¬ (42 : Int32) = 260 by decide), if_pos (show (42 : Int32) = 42 from rfl), s4, e2, if_neg c, if_neg g]
theorem jn_10 {x y : Int64} {A : SI} {Jc : SJ} : F_X1_join 10 x y A Jc = (if (lg_cmp y 0) = 0 then -9223372036854775808 else x / y) := by
  unfold F_X1_join
  rw [if_neg (show ¬ (10 : Int32) = 7 by decide), if_neg (show ¬ (10 : Int32) = 8 by decide), if_neg (show ¬ (10 : Int32) = 9 by decide), if_pos (show (10 : Int32) = 10 from rfl)]
theorem wk_10 {I : SI} {J : SJ} {A : SI} {Jc : SJ} {d : Nat} (e1 : (I 130 38 - 1).toNatClampNeg = d - 1) (e2 : (I 130 38 - 2).toNatClampNeg = d - 2) (e3 : ((u2 I 130 38 ((I 130 38) - 1)) 130 38 - 1).toNatClampNeg = d - 2) : WKV 47 (F_X1_join 10 (J 153 (d - 2)) (J 153 (d - 1)) A Jc) I J d := by
  rw [jn_10]
  by_cases c : lg_cmp (J 153 (d - 1)) 0 = 0
  · rw [if_pos c]
    refine ⟨fun h => absurd rfl (nmin h), fun _ => ?_⟩
    unfold F_X12_works
    rw [if_neg (show ¬ (47 : Int32) = 260 by decide), if_neg (show ¬ (47 : Int32) = 42 by decide), if_neg (show ¬ (47 : Int32) = 43 by decide), if_neg (show ¬ (47 : Int32) = 45 by decide), if_pos (show (47 : Int32) = 47 from rfl), e1, if_pos c]
  · rw [if_neg c]
    refine WKV.of ?_ ?_
    · unfold F_X12_works S15_X12_works S16_X12_works
      rw [if_neg (show ¬ (47 : Int32) = 260 by decide), if_neg (show ¬ (47 : Int32) = 42 by decide), if_neg (show ¬ (47 : Int32) = 43 by decide), if_neg (show ¬ (47 : Int32) = 45 by decide), if_pos (show (47 : Int32) = 47 from rfl), e1, e2, if_neg c]
    · unfold FJ_X12_works
      rw [if_neg (show ¬ (47 : Int32) = 260 by decide), if_neg (show ¬ (47 : Int32) = 42 by decide), if_neg (show ¬ (47 : Int32) = 43 by decide), if_neg (show ¬ (47 : Int32) = 45 by decide), if_pos (show (47 : Int32) = 47 from rfl), e1, if_neg c, ite_self, ite_self]
      unfold S14_X12_works
      rw [e1, e2, e3]
theorem jn_11 {x y : Int64} {A : SI} {Jc : SJ} : F_X1_join 11 x y A Jc = (if (0 : Int32) ≤ (lg_cmp x y) then 0 else 1) := by
  unfold F_X1_join
  rw [if_neg (show ¬ (11 : Int32) = 7 by decide), if_neg (show ¬ (11 : Int32) = 8 by decide), if_neg (show ¬ (11 : Int32) = 9 by decide), if_neg (show ¬ (11 : Int32) = 10 by decide), if_pos (show (11 : Int32) = 11 from rfl)]
theorem wk_11 {I : SI} {J : SJ} {A : SI} {Jc : SJ} {d : Nat} (e1 : (I 130 38 - 1).toNatClampNeg = d - 1) (e2 : (I 130 38 - 2).toNatClampNeg = d - 2) (e3 : ((u2 I 130 38 ((I 130 38) - 1)) 130 38 - 1).toNatClampNeg = d - 2) : WKV 60 (F_X1_join 11 (J 153 (d - 2)) (J 153 (d - 1)) A Jc) I J d := by
  rw [jn_11]
  have ez : F_X12_is (T_X12_works_j250 60 I J) (u2 I 130 38 ((I 130 38) - 1)) J = (if (0 : Int32) ≤ (lg_cmp (J 153 (d - 2)) (J 153 (d - 1))) then 0 else 1) := by
    unfold T_X12_works_j250
    rw [e1, e2]
    exact is_v
  refine WKV.of ?_ ?_
  · unfold F_X12_works S18_X12_works
    rw [if_neg (show ¬ (60 : Int32) = 260 by decide), if_neg (show ¬ (60 : Int32) = 42 by decide), if_neg (show ¬ (60 : Int32) = 43 by decide), if_neg (show ¬ (60 : Int32) = 45 by decide), if_neg (show ¬ (60 : Int32) = 47 by decide), if_pos (show (60 : Int32) = 60 from rfl), ez]
  · unfold FJ_X12_works
    rw [if_neg (show ¬ (60 : Int32) = 260 by decide), if_neg (show ¬ (60 : Int32) = 42 by decide), if_neg (show ¬ (60 : Int32) = 43 by decide), if_neg (show ¬ (60 : Int32) = 45 by decide), if_neg (show ¬ (60 : Int32) = 47 by decide), if_pos (show (60 : Int32) = 60 from rfl), ite_self, ite_self]
    unfold S17_X12_works
    rw [ez, e3]
theorem jn_12 {x y : Int64} {A : SI} {Jc : SJ} : F_X1_join 12 x y A Jc = (if (0 : Int32) < (lg_cmp x y) then 0 else 1) := by
  unfold F_X1_join
  rw [if_neg (show ¬ (12 : Int32) = 7 by decide), if_neg (show ¬ (12 : Int32) = 8 by decide), if_neg (show ¬ (12 : Int32) = 9 by decide), if_neg (show ¬ (12 : Int32) = 10 by decide), if_neg (show ¬ (12 : Int32) = 11 by decide), if_pos (show (12 : Int32) = 12 from rfl)]
theorem wk_12 {I : SI} {J : SJ} {A : SI} {Jc : SJ} {d : Nat} (e1 : (I 130 38 - 1).toNatClampNeg = d - 1) (e2 : (I 130 38 - 2).toNatClampNeg = d - 2) (e3 : ((u2 I 130 38 ((I 130 38) - 1)) 130 38 - 1).toNatClampNeg = d - 2) : WKV 256 (F_X1_join 12 (J 153 (d - 2)) (J 153 (d - 1)) A Jc) I J d := by
  rw [jn_12]
  have ez : F_X12_is (T_X12_works_j310 256 I J) (u2 I 130 38 ((I 130 38) - 1)) J = (if (0 : Int32) < (lg_cmp (J 153 (d - 2)) (J 153 (d - 1))) then 0 else 1) := by
    unfold T_X12_works_j310
    rw [e1, e2]
    exact is_v
  refine WKV.of ?_ ?_
  · unfold F_X12_works S24_X12_works
    rw [if_neg (show ¬ (256 : Int32) = 260 by decide), if_neg (show ¬ (256 : Int32) = 42 by decide), if_neg (show ¬ (256 : Int32) = 43 by decide), if_neg (show ¬ (256 : Int32) = 45 by decide), if_neg (show ¬ (256 : Int32) = 47 by decide), if_neg (show ¬ (256 : Int32) = 60 by decide), if_neg (show ¬ (256 : Int32) = 61 by decide), if_neg (show ¬ (256 : Int32) = 62 by decide), if_pos (show (256 : Int32) = 256 from rfl), ez]
  · unfold FJ_X12_works
    rw [if_neg (show ¬ (256 : Int32) = 260 by decide), if_neg (show ¬ (256 : Int32) = 42 by decide), if_neg (show ¬ (256 : Int32) = 43 by decide), if_neg (show ¬ (256 : Int32) = 45 by decide), if_neg (show ¬ (256 : Int32) = 47 by decide), if_neg (show ¬ (256 : Int32) = 60 by decide), if_neg (show ¬ (256 : Int32) = 61 by decide), if_neg (show ¬ (256 : Int32) = 62 by decide), if_pos (show (256 : Int32) = 256 from rfl), ite_self, ite_self]
    unfold S23_X12_works
    rw [ez, e3]
theorem jn_13 {x y : Int64} {A : SI} {Jc : SJ} : F_X1_join 13 x y A Jc = (if (lg_cmp x y) = 0 then 1 else 0) := by
  unfold F_X1_join
  rw [if_neg (show ¬ (13 : Int32) = 7 by decide), if_neg (show ¬ (13 : Int32) = 8 by decide), if_neg (show ¬ (13 : Int32) = 9 by decide), if_neg (show ¬ (13 : Int32) = 10 by decide), if_neg (show ¬ (13 : Int32) = 11 by decide), if_neg (show ¬ (13 : Int32) = 12 by decide), if_pos (show (13 : Int32) = 13 from rfl)]
theorem wk_13 {I : SI} {J : SJ} {A : SI} {Jc : SJ} {d : Nat} (e1 : (I 130 38 - 1).toNatClampNeg = d - 1) (e2 : (I 130 38 - 2).toNatClampNeg = d - 2) (e3 : ((u2 I 130 38 ((I 130 38) - 1)) 130 38 - 1).toNatClampNeg = d - 2) : WKV 61 (F_X1_join 13 (J 153 (d - 2)) (J 153 (d - 1)) A Jc) I J d := by
  rw [jn_13]
  have ez : F_X12_is (T_X12_works_j290 61 I J) (u2 I 130 38 ((I 130 38) - 1)) J = (if (lg_cmp (J 153 (d - 2)) (J 153 (d - 1))) = 0 then 1 else 0) := by
    unfold T_X12_works_j290
    rw [e1, e2]
    exact is_v1
  refine WKV.of ?_ ?_
  · unfold F_X12_works S20_X12_works
    rw [if_neg (show ¬ (61 : Int32) = 260 by decide), if_neg (show ¬ (61 : Int32) = 42 by decide), if_neg (show ¬ (61 : Int32) = 43 by decide), if_neg (show ¬ (61 : Int32) = 45 by decide), if_neg (show ¬ (61 : Int32) = 47 by decide), if_neg (show ¬ (61 : Int32) = 60 by decide), if_pos (show (61 : Int32) = 61 from rfl), ez]
  · unfold FJ_X12_works
    rw [if_neg (show ¬ (61 : Int32) = 260 by decide), if_neg (show ¬ (61 : Int32) = 42 by decide), if_neg (show ¬ (61 : Int32) = 43 by decide), if_neg (show ¬ (61 : Int32) = 45 by decide), if_neg (show ¬ (61 : Int32) = 47 by decide), if_neg (show ¬ (61 : Int32) = 60 by decide), if_pos (show (61 : Int32) = 61 from rfl), ite_self, ite_self]
    unfold S19_X12_works
    rw [ez, e3]
theorem jn_14 {x y : Int64} {A : SI} {Jc : SJ} : F_X1_join 14 x y A Jc = (if (lg_cmp x y) = 0 then 0 else 1) := by
  unfold F_X1_join
  rw [if_neg (show ¬ (14 : Int32) = 7 by decide), if_neg (show ¬ (14 : Int32) = 8 by decide), if_neg (show ¬ (14 : Int32) = 9 by decide), if_neg (show ¬ (14 : Int32) = 10 by decide), if_neg (show ¬ (14 : Int32) = 11 by decide), if_neg (show ¬ (14 : Int32) = 12 by decide), if_neg (show ¬ (14 : Int32) = 13 by decide), if_pos (show (14 : Int32) = 14 from rfl)]
theorem wk_14 {I : SI} {J : SJ} {A : SI} {Jc : SJ} {d : Nat} (e1 : (I 130 38 - 1).toNatClampNeg = d - 1) (e2 : (I 130 38 - 2).toNatClampNeg = d - 2) (e3 : ((u2 I 130 38 ((I 130 38) - 1)) 130 38 - 1).toNatClampNeg = d - 2) : WKV 257 (F_X1_join 14 (J 153 (d - 2)) (J 153 (d - 1)) A Jc) I J d := by
  rw [jn_14]
  have ez : F_X12_is (T_X12_works_j350 257 I J) (u2 I 130 38 ((I 130 38) - 1)) J = (if (lg_cmp (J 153 (d - 2)) (J 153 (d - 1))) = 0 then 0 else 1) := by
    unfold T_X12_works_j350
    rw [e1, e2]
    exact is_v
  refine WKV.of ?_ ?_
  · unfold F_X12_works S26_X12_works
    rw [if_neg (show ¬ (257 : Int32) = 260 by decide), if_neg (show ¬ (257 : Int32) = 42 by decide), if_neg (show ¬ (257 : Int32) = 43 by decide), if_neg (show ¬ (257 : Int32) = 45 by decide), if_neg (show ¬ (257 : Int32) = 47 by decide), if_neg (show ¬ (257 : Int32) = 60 by decide), if_neg (show ¬ (257 : Int32) = 61 by decide), if_neg (show ¬ (257 : Int32) = 62 by decide), if_neg (show ¬ (257 : Int32) = 256 by decide), if_pos (show (257 : Int32) = 257 from rfl), ez]
  · unfold FJ_X12_works
    rw [if_neg (show ¬ (257 : Int32) = 260 by decide), if_neg (show ¬ (257 : Int32) = 42 by decide), if_neg (show ¬ (257 : Int32) = 43 by decide), if_neg (show ¬ (257 : Int32) = 45 by decide), if_neg (show ¬ (257 : Int32) = 47 by decide), if_neg (show ¬ (257 : Int32) = 60 by decide), if_neg (show ¬ (257 : Int32) = 61 by decide), if_neg (show ¬ (257 : Int32) = 62 by decide), if_neg (show ¬ (257 : Int32) = 256 by decide), if_pos (show (257 : Int32) = 257 from rfl), ite_self, ite_self]
    unfold S25_X12_works
    rw [ez, e3]
theorem jn_15 {x y : Int64} {A : SI} {Jc : SJ} : F_X1_join 15 x y A Jc = (if (lg_cmp x y) < 0 then 0 else 1) := by
  unfold F_X1_join
  rw [if_neg (show ¬ (15 : Int32) = 7 by decide), if_neg (show ¬ (15 : Int32) = 8 by decide), if_neg (show ¬ (15 : Int32) = 9 by decide), if_neg (show ¬ (15 : Int32) = 10 by decide), if_neg (show ¬ (15 : Int32) = 11 by decide), if_neg (show ¬ (15 : Int32) = 12 by decide), if_neg (show ¬ (15 : Int32) = 13 by decide), if_neg (show ¬ (15 : Int32) = 14 by decide), if_pos (show (15 : Int32) = 15 from rfl)]
theorem wk_15 {I : SI} {J : SJ} {A : SI} {Jc : SJ} {d : Nat} (e1 : (I 130 38 - 1).toNatClampNeg = d - 1) (e2 : (I 130 38 - 2).toNatClampNeg = d - 2) (e3 : ((u2 I 130 38 ((I 130 38) - 1)) 130 38 - 1).toNatClampNeg = d - 2) : WKV 258 (F_X1_join 15 (J 153 (d - 2)) (J 153 (d - 1)) A Jc) I J d := by
  rw [jn_15]
  have ez : F_X12_is (T_X12_works_j330 258 I J) (u2 I 130 38 ((I 130 38) - 1)) J = (if (lg_cmp (J 153 (d - 2)) (J 153 (d - 1))) < 0 then 0 else 1) := by
    unfold T_X12_works_j330
    rw [e1, e2]
    exact is_v
  refine WKV.of ?_ ?_
  · unfold F_X12_works S28_X12_works
    rw [if_neg (show ¬ (258 : Int32) = 260 by decide), if_neg (show ¬ (258 : Int32) = 42 by decide), if_neg (show ¬ (258 : Int32) = 43 by decide), if_neg (show ¬ (258 : Int32) = 45 by decide), if_neg (show ¬ (258 : Int32) = 47 by decide), if_neg (show ¬ (258 : Int32) = 60 by decide), if_neg (show ¬ (258 : Int32) = 61 by decide), if_neg (show ¬ (258 : Int32) = 62 by decide), if_neg (show ¬ (258 : Int32) = 256 by decide), if_neg (show ¬ (258 : Int32) = 257 by decide), if_pos (show (258 : Int32) = 258 from rfl), ez]
  · unfold FJ_X12_works
    rw [if_neg (show ¬ (258 : Int32) = 260 by decide), if_neg (show ¬ (258 : Int32) = 42 by decide), if_neg (show ¬ (258 : Int32) = 43 by decide), if_neg (show ¬ (258 : Int32) = 45 by decide), if_neg (show ¬ (258 : Int32) = 47 by decide), if_neg (show ¬ (258 : Int32) = 60 by decide), if_neg (show ¬ (258 : Int32) = 61 by decide), if_neg (show ¬ (258 : Int32) = 62 by decide), if_neg (show ¬ (258 : Int32) = 256 by decide), if_neg (show ¬ (258 : Int32) = 257 by decide), if_pos (show (258 : Int32) = 258 from rfl), ite_self, ite_self]
    unfold S27_X12_works
    rw [ez, e3]
theorem jn_16 {x y : Int64} {A : SI} {Jc : SJ} : F_X1_join 16 x y A Jc = (if (lg_cmp x y) ≤ 0 then 0 else 1) := by
  unfold F_X1_join
  rw [if_neg (show ¬ (16 : Int32) = 7 by decide), if_neg (show ¬ (16 : Int32) = 8 by decide), if_neg (show ¬ (16 : Int32) = 9 by decide), if_neg (show ¬ (16 : Int32) = 10 by decide), if_neg (show ¬ (16 : Int32) = 11 by decide), if_neg (show ¬ (16 : Int32) = 12 by decide), if_neg (show ¬ (16 : Int32) = 13 by decide), if_neg (show ¬ (16 : Int32) = 14 by decide), if_neg (show ¬ (16 : Int32) = 15 by decide), if_pos (show (16 : Int32) = 16 from rfl)]
theorem wk_16 {I : SI} {J : SJ} {A : SI} {Jc : SJ} {d : Nat} (e1 : (I 130 38 - 1).toNatClampNeg = d - 1) (e2 : (I 130 38 - 2).toNatClampNeg = d - 2) (e3 : ((u2 I 130 38 ((I 130 38) - 1)) 130 38 - 1).toNatClampNeg = d - 2) : WKV 62 (F_X1_join 16 (J 153 (d - 2)) (J 153 (d - 1)) A Jc) I J d := by
  rw [jn_16]
  have ez : F_X12_is (T_X12_works_j270 62 I J) (u2 I 130 38 ((I 130 38) - 1)) J = (if (lg_cmp (J 153 (d - 2)) (J 153 (d - 1))) ≤ 0 then 0 else 1) := by
    unfold T_X12_works_j270
    rw [e1, e2]
    exact is_v
  refine WKV.of ?_ ?_
  · unfold F_X12_works S22_X12_works
    rw [if_neg (show ¬ (62 : Int32) = 260 by decide), if_neg (show ¬ (62 : Int32) = 42 by decide), if_neg (show ¬ (62 : Int32) = 43 by decide), if_neg (show ¬ (62 : Int32) = 45 by decide), if_neg (show ¬ (62 : Int32) = 47 by decide), if_neg (show ¬ (62 : Int32) = 60 by decide), if_neg (show ¬ (62 : Int32) = 61 by decide), if_pos (show (62 : Int32) = 62 from rfl), ez]
  · unfold FJ_X12_works
    rw [if_neg (show ¬ (62 : Int32) = 260 by decide), if_neg (show ¬ (62 : Int32) = 42 by decide), if_neg (show ¬ (62 : Int32) = 43 by decide), if_neg (show ¬ (62 : Int32) = 45 by decide), if_neg (show ¬ (62 : Int32) = 47 by decide), if_neg (show ¬ (62 : Int32) = 60 by decide), if_neg (show ¬ (62 : Int32) = 61 by decide), if_pos (show (62 : Int32) = 62 from rfl), ite_self, ite_self]
    unfold S21_X12_works
    rw [ez, e3]
theorem jn_33 {x y : Int64} {A : SI} {Jc : SJ} : F_X1_join 33 x y A Jc = (if (lg_cmp x 0) = 0 then (if (lg_cmp y 0) = 0 then 0 else 1) else 1) := by
  unfold F_X1_join
  rw [if_neg (show ¬ (33 : Int32) = 7 by decide), if_neg (show ¬ (33 : Int32) = 8 by decide), if_neg (show ¬ (33 : Int32) = 9 by decide), if_neg (show ¬ (33 : Int32) = 10 by decide), if_neg (show ¬ (33 : Int32) = 11 by decide), if_neg (show ¬ (33 : Int32) = 12 by decide), if_neg (show ¬ (33 : Int32) = 13 by decide), if_neg (show ¬ (33 : Int32) = 14 by decide), if_neg (show ¬ (33 : Int32) = 15 by decide), if_neg (show ¬ (33 : Int32) = 16 by decide), if_neg (show ¬ (33 : Int32) = 17 by decide), if_neg (show ¬ (33 : Int32) = 18 by decide), if_neg (show ¬ (33 : Int32) = 19 by decide), if_neg (show ¬ (33 : Int32) = 20 by decide), if_neg (show ¬ (33 : Int32) = 21 by decide), if_neg (show ¬ (33 : Int32) = 22 by decide), if_neg (show ¬ (33 : Int32) = 23 by decide), if_neg (show ¬ (33 : Int32) = 24 by decide), if_neg (show ¬ (33 : Int32) = 25 by decide), if_neg (show ¬ (33 : Int32) = 26 by decide), if_neg (show ¬ (33 : Int32) = 27 by decide), if_neg (show ¬ (33 : Int32) = 28 by decide), if_neg (show ¬ (33 : Int32) = 29 by decide), if_neg (show ¬ (33 : Int32) = 30 by decide), if_neg (show ¬ (33 : Int32) = 31 by decide), if_neg (show ¬ (33 : Int32) = 32 by decide), if_pos (show (33 : Int32) = 33 from rfl)]
theorem wk_33 {I : SI} {J : SJ} {A : SI} {Jc : SJ} {d : Nat} (e1 : (I 130 38 - 1).toNatClampNeg = d - 1) (e2 : (I 130 38 - 2).toNatClampNeg = d - 2) (e3 : ((u2 I 130 38 ((I 130 38) - 1)) 130 38 - 1).toNatClampNeg = d - 2) : WKV 262 (F_X1_join 33 (J 153 (d - 2)) (J 153 (d - 1)) A Jc) I J d := by
  rw [jn_33]
  have ez : F_X12_is (T_X12_works_j402 262 I J) (u2 I 130 38 ((I 130 38) - 1)) J = (if (lg_cmp (J 153 (d - 2)) 0) = 0 then (if (lg_cmp (J 153 (d - 1)) 0) = 0 then 0 else 1) else 1) := by
    unfold T_X12_works_j402
    rw [e1, e2]
    unfold F_X12_is
    by_cases p : lg_cmp (J 153 (d - 2)) 0 = 0
    · rw [if_pos p, if_pos p]
      by_cases q : lg_cmp (J 153 (d - 1)) 0 = 0
      · rw [if_pos q, if_pos q, if_pos rfl]
      · rw [if_neg q, if_neg q, if_neg (show ¬ (1 : Int32) = 0 by decide)]
    · rw [if_neg p, if_neg p, if_neg (show ¬ (1 : Int32) = 0 by decide)]
  refine WKV.of ?_ ?_
  · unfold F_X12_works S32_X12_works
    rw [if_neg (show ¬ (262 : Int32) = 260 by decide), if_neg (show ¬ (262 : Int32) = 42 by decide), if_neg (show ¬ (262 : Int32) = 43 by decide), if_neg (show ¬ (262 : Int32) = 45 by decide), if_neg (show ¬ (262 : Int32) = 47 by decide), if_neg (show ¬ (262 : Int32) = 60 by decide), if_neg (show ¬ (262 : Int32) = 61 by decide), if_neg (show ¬ (262 : Int32) = 62 by decide), if_neg (show ¬ (262 : Int32) = 256 by decide), if_neg (show ¬ (262 : Int32) = 257 by decide), if_neg (show ¬ (262 : Int32) = 258 by decide), if_neg (show ¬ (262 : Int32) = 261 by decide), ez]
  · unfold FJ_X12_works
    rw [if_neg (show ¬ (262 : Int32) = 260 by decide), if_neg (show ¬ (262 : Int32) = 42 by decide), if_neg (show ¬ (262 : Int32) = 43 by decide), if_neg (show ¬ (262 : Int32) = 45 by decide), if_neg (show ¬ (262 : Int32) = 47 by decide), if_neg (show ¬ (262 : Int32) = 60 by decide), if_neg (show ¬ (262 : Int32) = 61 by decide), if_neg (show ¬ (262 : Int32) = 62 by decide), if_neg (show ¬ (262 : Int32) = 256 by decide), if_neg (show ¬ (262 : Int32) = 257 by decide), if_neg (show ¬ (262 : Int32) = 258 by decide), if_neg (show ¬ (262 : Int32) = 261 by decide), ite_self, ite_self]
    unfold S31_X12_works
    rw [ez, e3]
theorem jn_34 {x y : Int64} {A : SI} {Jc : SJ} : F_X1_join 34 x y A Jc = (if (lg_cmp x 0) = 0 then 0 else (if (lg_cmp y 0) = 0 then 0 else 1)) := by
  unfold F_X1_join
  rw [if_neg (show ¬ (34 : Int32) = 7 by decide), if_neg (show ¬ (34 : Int32) = 8 by decide), if_neg (show ¬ (34 : Int32) = 9 by decide), if_neg (show ¬ (34 : Int32) = 10 by decide), if_neg (show ¬ (34 : Int32) = 11 by decide), if_neg (show ¬ (34 : Int32) = 12 by decide), if_neg (show ¬ (34 : Int32) = 13 by decide), if_neg (show ¬ (34 : Int32) = 14 by decide), if_neg (show ¬ (34 : Int32) = 15 by decide), if_neg (show ¬ (34 : Int32) = 16 by decide), if_neg (show ¬ (34 : Int32) = 17 by decide), if_neg (show ¬ (34 : Int32) = 18 by decide), if_neg (show ¬ (34 : Int32) = 19 by decide), if_neg (show ¬ (34 : Int32) = 20 by decide), if_neg (show ¬ (34 : Int32) = 21 by decide), if_neg (show ¬ (34 : Int32) = 22 by decide), if_neg (show ¬ (34 : Int32) = 23 by decide), if_neg (show ¬ (34 : Int32) = 24 by decide), if_neg (show ¬ (34 : Int32) = 25 by decide), if_neg (show ¬ (34 : Int32) = 26 by decide), if_neg (show ¬ (34 : Int32) = 27 by decide), if_neg (show ¬ (34 : Int32) = 28 by decide), if_neg (show ¬ (34 : Int32) = 29 by decide), if_neg (show ¬ (34 : Int32) = 30 by decide), if_neg (show ¬ (34 : Int32) = 31 by decide), if_neg (show ¬ (34 : Int32) = 32 by decide), if_neg (show ¬ (34 : Int32) = 33 by decide), if_pos (show (34 : Int32) = 34 from rfl)]
theorem wk_34 {I : SI} {J : SJ} {A : SI} {Jc : SJ} {d : Nat} (e1 : (I 130 38 - 1).toNatClampNeg = d - 1) (e2 : (I 130 38 - 2).toNatClampNeg = d - 2) (e3 : ((u2 I 130 38 ((I 130 38) - 1)) 130 38 - 1).toNatClampNeg = d - 2) : WKV 261 (F_X1_join 34 (J 153 (d - 2)) (J 153 (d - 1)) A Jc) I J d := by
  rw [jn_34]
  have ez : F_X12_is (T_X12_works_j376 261 I J) (u2 I 130 38 ((I 130 38) - 1)) J = (if (lg_cmp (J 153 (d - 2)) 0) = 0 then 0 else (if (lg_cmp (J 153 (d - 1)) 0) = 0 then 0 else 1)) := by
    unfold T_X12_works_j376
    rw [e1, e2]
    unfold F_X12_is
    by_cases p : lg_cmp (J 153 (d - 2)) 0 = 0
    · rw [if_pos p, if_pos p, if_pos rfl]
    · rw [if_neg p, if_neg p]
      by_cases q : lg_cmp (J 153 (d - 1)) 0 = 0
      · rw [if_pos q, if_pos q, if_pos rfl]
      · rw [if_neg q, if_neg q, if_neg (show ¬ (1 : Int32) = 0 by decide)]
  refine WKV.of ?_ ?_
  · unfold F_X12_works S30_X12_works
    rw [if_neg (show ¬ (261 : Int32) = 260 by decide), if_neg (show ¬ (261 : Int32) = 42 by decide), if_neg (show ¬ (261 : Int32) = 43 by decide), if_neg (show ¬ (261 : Int32) = 45 by decide), if_neg (show ¬ (261 : Int32) = 47 by decide), if_neg (show ¬ (261 : Int32) = 60 by decide), if_neg (show ¬ (261 : Int32) = 61 by decide), if_neg (show ¬ (261 : Int32) = 62 by decide), if_neg (show ¬ (261 : Int32) = 256 by decide), if_neg (show ¬ (261 : Int32) = 257 by decide), if_neg (show ¬ (261 : Int32) = 258 by decide), if_pos (show (261 : Int32) = 261 from rfl), ez]
  · unfold FJ_X12_works
    rw [if_neg (show ¬ (261 : Int32) = 260 by decide), if_neg (show ¬ (261 : Int32) = 42 by decide), if_neg (show ¬ (261 : Int32) = 43 by decide), if_neg (show ¬ (261 : Int32) = 45 by decide), if_neg (show ¬ (261 : Int32) = 47 by decide), if_neg (show ¬ (261 : Int32) = 60 by decide), if_neg (show ¬ (261 : Int32) = 61 by decide), if_neg (show ¬ (261 : Int32) = 62 by decide), if_neg (show ¬ (261 : Int32) = 256 by decide), if_neg (show ¬ (261 : Int32) = 257 by decide), if_neg (show ¬ (261 : Int32) = 258 by decide), if_pos (show (261 : Int32) = 261 from rfl), ite_self, ite_self]
    unfold S29_X12_works
    rw [ez, e3]
theorem sq_list {k v : Int32} (h : SQ k v) : (k = 35 ∧ v = 260) ∨ (k = 7 ∧ v = 43) ∨ (k = 8 ∧ v = 45) ∨ (k = 9 ∧ v = 42) ∨ (k = 10 ∧ v = 47) ∨ (k = 11 ∧ v = 60) ∨ (k = 12 ∧ v = 256) ∨ (k = 13 ∧ v = 61) ∨ (k = 14 ∧ v = 257) ∨ (k = 15 ∧ v = 258) ∨ (k = 16 ∧ v = 62) ∨ (k = 33 ∧ v = 262) ∨ (k = 34 ∧ v = 261) := by
  rcases h with ⟨i, h3, hi, rfl, rfl⟩ | ⟨rfl, rfl⟩ | ⟨rfl, rfl⟩ | ⟨rfl, rfl⟩
  · rcases (by omega : i = 3 ∨ i = 4 ∨ i = 5 ∨ i = 6 ∨ i = 7 ∨ i = 8 ∨ i = 9 ∨ i = 10 ∨ i = 11 ∨ i = 12) with rfl | rfl | rfl | rfl | rfl | rfl | rfl | rfl | rfl | rfl <;> decide +kernel
  · decide +kernel
  · decide +kernel
  · decide +kernel
theorem wk_all {k v : Int32} (h : SQ k v) (hv : ¬ v = 260) {I : SI} {J : SJ} {A : SI} {Jc : SJ} {d : Nat} (e1 : (I 130 38 - 1).toNatClampNeg = d - 1) (e2 : (I 130 38 - 2).toNatClampNeg = d - 2) (e3 : ((u2 I 130 38 ((I 130 38) - 1)) 130 38 - 1).toNatClampNeg = d - 2) : WKV v (F_X1_join k (J 153 (d - 2)) (J 153 (d - 1)) A Jc) I J d ∧ F_X1_partsOf k A Jc = 2 := by
  rcases sq_list h with ⟨rfl, rfl⟩ | ⟨rfl, rfl⟩ | ⟨rfl, rfl⟩ | ⟨rfl, rfl⟩ | ⟨rfl, rfl⟩ | ⟨rfl, rfl⟩ | ⟨rfl, rfl⟩ | ⟨rfl, rfl⟩ | ⟨rfl, rfl⟩ | ⟨rfl, rfl⟩ | ⟨rfl, rfl⟩ | ⟨rfl, rfl⟩ | ⟨rfl, rfl⟩
  · exact absurd rfl hv
  · exact ⟨wk_7 e1 e2 e3, by unfold F_X1_partsOf; decide +kernel⟩
  · exact ⟨wk_8 e1 e2 e3, by unfold F_X1_partsOf; decide +kernel⟩
  · exact ⟨wk_9 e1 e2 e3, by unfold F_X1_partsOf; decide +kernel⟩
  · exact ⟨wk_10 e1 e2 e3, by unfold F_X1_partsOf; decide +kernel⟩
  · exact ⟨wk_11 e1 e2 e3, by unfold F_X1_partsOf; decide +kernel⟩
  · exact ⟨wk_12 e1 e2 e3, by unfold F_X1_partsOf; decide +kernel⟩
  · exact ⟨wk_13 e1 e2 e3, by unfold F_X1_partsOf; decide +kernel⟩
  · exact ⟨wk_14 e1 e2 e3, by unfold F_X1_partsOf; decide +kernel⟩
  · exact ⟨wk_15 e1 e2 e3, by unfold F_X1_partsOf; decide +kernel⟩
  · exact ⟨wk_16 e1 e2 e3, by unfold F_X1_partsOf; decide +kernel⟩
  · exact ⟨wk_33 e1 e2 e3, by unfold F_X1_partsOf; decide +kernel⟩
  · exact ⟨wk_34 e1 e2 e3, by unfold F_X1_partsOf; decide +kernel⟩
/-- numbers that wait, alike -/
def STK (k d : Nat) (Jc Jr : SJ) : Prop := ∀ i, i < d → Jc (k + 3) i = Jr 153 i ∧ bdL (Jr 153 i)
def JF (k : Nat) (J J' : SJ) : Prop := ∀ a b, a ≠ k + 3 → J' a b = J a b
theorem opn_v {k e : Nat} {A : SI} {J : SJ} (h : e < 64) : F_X1_openAt k (nI e) A J = J (k + 3) e := by
  unfold F_X1_openAt
  rw [if_neg (nI_pos (by omega)), if_neg (fun q => by have := (nI_leI (a := 64) (by omega) (by omega)).mp q; omega), nI_clamp (by omega)]
theorem wb_0 {k j : Nat} {A : SI} {Ja : SJ} {s : Int32 × SJ} (h : ¬ bdL (T_X1_worth_j97_2 k 115 7 A Ja j s)) : B_X1_worth_l4_2 k 115 7 A Ja j s = .inr (-9223372036854775808, s.2) := by
  unfold B_X1_worth_l4_2
  by_cases c : (0 : Int32) < lg_cmp (T_X1_worth_j97_2 k 115 7 A Ja j s) 1000000000000
  · rw [if_pos c]
  · rw [if_neg c]
    by_cases c2 : (0 : Int32) ≤ lg_cmp (T_X1_worth_j97_2 k 115 7 A Ja j s) (-1000000000000)
    · exact absurd ⟨fun y => c ((lg_cmp_gt _ _).mpr y), fun y => Int64.not_lt.mpr ((lg_cmp_ge _ _).mp c2) y⟩ h
    · rw [if_neg c2]
theorem wb_1 {k j e : Nat} {A : SI} {Ja : SJ} {s : Int32 × SJ} (h : bdL (T_X1_worth_j97_2 k 115 7 A Ja j s)) (he : e < 64) (ee : s.1 - F_X1_partsOf (atF (A (k + 1)) 64 (nI j)) A s.2 = nI e) : B_X1_worth_l4_2 k 115 7 A Ja j s = .inl (nI (e + 1), u2 s.2 (k + 3) e (T_X1_worth_j97_2 k 115 7 A Ja j s)) := by
  unfold B_X1_worth_l4_2 S1_X1_worth
  rw [if_neg (fun q => h.1 ((lg_cmp_gt _ _).mp q)), if_pos ((lg_cmp_ge _ _).mpr (Int64.not_lt.mp h.2)), ee, if_neg (nI_pos (by omega)), if_neg (fun q => by have := (nI_leI (a := 64) (by omega) (by omega)).mp q; omega), nI_1, nI_clamp (by omega)]
theorem tv_num {k j : Nat} {A : SI} {Ja : SJ} {s : Int32 × SJ} {x : Int32} (hj : j < 64) (e1 : A (k + 1) j = 2) (e2 : A (k + 2) j = x) : T_X1_worth_j97_2 k 115 7 A Ja j s = x.toInt64 ∧ F_X1_partsOf (atF (A (k + 1)) 64 (nI j)) A s.2 = 0 := by
  have p : F_X1_partsOf (atF (A (k + 1)) 64 (nI j)) A s.2 = 0 := by
    rw [atF_v hj (by omega), e1]
    unfold F_X1_partsOf
    rw [if_pos rfl]
  refine ⟨?_, p⟩
  unfold T_X1_worth_j97_2
  rw [p, if_neg (show ¬ (0 : Int32) = 2 by decide), if_neg (show ¬ (0 : Int32) = 1 by decide), atF_v hj (by omega), atF_v hj (by omega), e1, e2]
  unfold F_X1_leaf
  rw [if_pos (show ((2 : Int32) - 36) < 0 by decide)]
theorem tv_nam {k j i : Nat} {A : SI} {Ja : SJ} {s : Int32 × SJ} (hj : j < 64) (hi : i < 7) (e1 : A (k + 1) j = nI (36 + i)) : T_X1_worth_j97_2 k 115 7 A Ja j s = s.2 115 i ∧ F_X1_partsOf (atF (A (k + 1)) 64 (nI j)) A s.2 = 0 := by
  have e36 : nI (36 + i) - 36 = nI i := by
    rw [show (36 : Int32) = nI 36 from rfl, pk_sub (by omega)]
    exact congrArg nI (by omega)
  have p : F_X1_partsOf (atF (A (k + 1)) 64 (nI j)) A s.2 = 0 := by
    rw [atF_v hj (by omega), e1]
    unfold F_X1_partsOf
    rw [if_neg (show ¬ nI (36 + i) = 2 from fun q => by have := (nI_eq (b := 2) (by omega) (by omega)).mp q; omega), if_neg (show ¬ nI (36 + i) < 36 from nI_nlt (b := 36) (by omega) (by omega))]
  refine ⟨?_, p⟩
  unfold T_X1_worth_j97_2
  rw [p, if_neg (show ¬ (0 : Int32) = 2 by decide), if_neg (show ¬ (0 : Int32) = 1 by decide), atF_v hj (by omega), atF_v hj (by omega), e1]
  unfold F_X1_leaf
  rw [e36, if_neg (nI_pos (by omega)), if_neg (nI_ge hi (by omega)), nI_clamp (by omega)]
theorem tv_not {k j d : Nat} {A : SI} {Ja : SJ} {s : Int32 × SJ} (hj : j < 64) (e : s.1 = nI d) (h1 : 1 ≤ d) (h2 : d ≤ 64) (e1 : A (k + 1) j = 35) : T_X1_worth_j97_2 k 115 7 A Ja j s = (if lg_cmp (s.2 (k + 3) (d - 1)) 0 = 0 then (1 : Int32) else 0).toInt64 ∧ F_X1_partsOf (atF (A (k + 1)) 64 (nI j)) A s.2 = 1 := by
  have p : F_X1_partsOf (atF (A (k + 1)) 64 (nI j)) A s.2 = 1 := by
    rw [atF_v hj (by omega), e1]
    unfold F_X1_partsOf
    decide +kernel
  refine ⟨?_, p⟩
  unfold T_X1_worth_j97_2
  rw [p, if_neg (show ¬ (1 : Int32) = 2 by decide), if_pos rfl]
  unfold T_X1_worth_j79
  rw [e, show nI d - 1 = nI (d - 1) from pk_sub (b := 1) h1, opn_v (by omega)]
theorem tv_bin {k j d : Nat} {A : SI} {Ja : SJ} {s : Int32 × SJ} (hj : j < 64) (e : s.1 = nI d) (h1 : 2 ≤ d) (h2 : d ≤ 64) (p : F_X1_partsOf (A (k + 1) j) A s.2 = 2) : T_X1_worth_j97_2 k 115 7 A Ja j s = F_X1_join (A (k + 1) j) (s.2 (k + 3) (d - 2)) (s.2 (k + 3) (d - 1)) A s.2 ∧ F_X1_partsOf (atF (A (k + 1)) 64 (nI j)) A s.2 = 2 := by
  have p2 : F_X1_partsOf (atF (A (k + 1)) 64 (nI j)) A s.2 = 2 := by rw [atF_v hj (by omega)]; exact p
  refine ⟨?_, p2⟩
  unfold T_X1_worth_j97_2
  rw [p2, if_pos rfl]
  unfold S2_X1_worth
  rw [e, show nI d - 1 = nI (d - 1) from pk_sub (b := 1) (by omega), show nI d - 2 = nI (d - 2) from pk_sub (b := 2) h1, opn_v (by omega), opn_v (by omega), atF_v hj (by omega)]
/-- the model's round over a knot -/
theorem gb_leaf {k0 q d : Nat} {B I : SI} {Jb Jr : SJ} (hk : k0 < 3) (hq : q < 64) (c : ¬ I 149 k0 ≤ nI q) (e38 : I 130 38 = nI d) (hd : d ≤ 64) (hs : ¬ I 150 q = 2) : B_X12_goes_w12 (nI k0) B Jb (nI q, I, Jr) = .inl (nI (q + 1), u2 I 130 38 (nI (d + 1)), u2 Jr 153 d (if I 150 q = 0 then (I 151 q).toInt64 else Jr 152 (I 151 q).toNatClampNeg)) := by
  unfold B_X12_goes_w12 S1_X12_goes T_X12_goes_j85
  dsimp only
  rw [nI_clamp (show k0 < 2 ^ 31 by omega), nI_clamp (show q < 2 ^ 31 by omega), if_neg c, if_neg hs, e38, nI_clamp (by omega), nI_1, nI_1]
theorem gb_s0 {k0 q : Nat} {B I : SI} {Jb Jr : SJ} (hk : k0 < 3) (hq : q < 64) (c : ¬ I 149 k0 ≤ nI q) (hs : I 150 q = 2) (h0 : F_X12_works (I 151 q) I Jr = 0) : B_X12_goes_w12 (nI k0) B Jb (nI q, I, Jr) = .inr (.inr (0, FI_X12_works (I 151 q) I Jr, FJ_X12_works (I 151 q) I Jr)) := by
  unfold B_X12_goes_w12
  dsimp only
  rw [nI_clamp (show k0 < 2 ^ 31 by omega), nI_clamp (show q < 2 ^ 31 by omega), if_neg c, if_pos hs, if_pos h0]
theorem gb_s1 {k0 q : Nat} {B I : SI} {Jb Jr : SJ} (hk : k0 < 3) (hq : q < 64) (c : ¬ I 149 k0 ≤ nI q) (hs : I 150 q = 2) (h0 : ¬ F_X12_works (I 151 q) I Jr = 0) : B_X12_goes_w12 (nI k0) B Jb (nI q, I, Jr) = .inl (nI (q + 1), FI_X12_works (I 151 q) I Jr, FJ_X12_works (I 151 q) I Jr) := by
  unfold B_X12_goes_w12
  dsimp only
  rw [nI_clamp (show k0 < 2 ^ 31 by omega), nI_clamp (show q < 2 ^ 31 by omega), if_neg c, if_pos hs, if_neg h0, nI_1]
/-- behind a knot -/
def NXT (k0 k q j n d : Nat) (A B : SI) (Ja Jb Jc Jr : SJ) (I : SI) : Prop := ∃ (d' : Nat) (I' : SI) (Jc' Jr' : SJ), B_X12_goes_w12 (nI k0) B Jb (nI q, I, Jr) = .inl (nI (q + 1), I', Jr') ∧ B_X1_worth_l4_2 k 115 7 A Ja j (nI d, Jc) = .inl (nI d', Jc') ∧ Fr38 B I' ∧ I' 130 38 = nI d' ∧ d' ≤ j + 1 ∧ STK k d' Jc' Jr' ∧ (∀ i, Jc' 115 i = Jc 115 i ∧ Jr' 152 i = Jr 152 i) ∧ JF k Jc Jc' ∧ okc (B 150) (B 151) n (q + 1) d' ∧ dp (B 150) (B 151) (n + 1) q d = dp (B 150) (B 151) n (q + 1) d'
theorem nxt_of {k0 k q j n d e : Nat} {A B I I' : SI} {Ja Jb Jc Jr : SJ} {z : Int64} (hk : k = 29 + 4 * k0) (h3 : k0 < 3) (he : e ≤ j) (hj : j < 64) (hd : e ≤ d) (st : STK k d Jc Jr) (hT : T_X1_worth_j97_2 k 115 7 A Ja j (nI d, Jc) = z) (hz : bdL z) (hp : nI d - F_X1_partsOf (atF (A (k + 1)) 64 (nI j)) A Jc = nI e) (g : B_X12_goes_w12 (nI k0) B Jb (nI q, I, Jr) = .inl (nI (q + 1), I', u2 Jr 153 e z)) (fr : Fr38 B I') (e38 : I' 130 38 = nI (e + 1)) (ok : okc (B 150) (B 151) n (q + 1) (e + 1)) (dd : dp (B 150) (B 151) (n + 1) q d = dp (B 150) (B 151) n (q + 1) (e + 1)) : NXT k0 k q j n d A B Ja Jb Jc Jr I := by
  have b := wb_1 (k := k) (j := j) (e := e) (A := A) (Ja := Ja) (s := (nI d, Jc)) (by rw [hT]; exact hz) (by omega) hp
  rw [hT] at b
  refine ⟨e + 1, I', u2 Jc (k + 3) e z, u2 Jr 153 e z, g, b, fr, e38, by omega, fun i hi => ?_, fun i => ⟨u2_n _ _ (by omega), u2_n _ _ (by omega)⟩, fun a b' h => u2_n _ _ (fun y => h y.1), ok, dd⟩
  by_cases y : i = e
  · rw [y, u2_s, u2_s]
    exact ⟨rfl, hz⟩
  · rw [u2_n _ _ (fun x => y x.2), u2_n _ _ (fun x => y x.2)]
    exact st i (by omega)
theorem wstp {k0 k q j n d : Nat} {x sv : Int32} {A B I : SI} {Ja Jb Jc Jr : SJ} (hk : k = 29 + 4 * k0) (h3 : k0 < 3) (hj : j < 64) (hq : q < 64) (c : ¬ I 149 k0 ≤ nI q) (fr : Fr38 B I) (e38 : I 130 38 = nI d) (hd : d ≤ j) (st : STK k d Jc Jr) (nm : ∀ i, i < 7 → Jc 115 i = Jr 152 i ∧ bdL (Jr 152 i)) (cq : CQ (A (k + 1) j) (A (k + 2) j) (B 150 q) (B 151 q)) (ok : okc (B 150) (B 151) (n + 1) q d) : (∃ I' J', B_X12_goes_w12 (nI k0) B Jb (nI q, I, Jr) = .inr (.inr (0, I', J')) ∧ B_X1_worth_l4_2 k 115 7 A Ja j (nI d, Jc) = .inr (-9223372036854775808, Jc)) ∨ NXT k0 k q j n d A B Ja Jb Jc Jr I := by
  have e50 : I 150 q = B 150 q := fr _ _ (by omega)
  have e51 : I 151 q = B 151 q := fr _ _ (by omega)
  have dpe : dp (B 150) (B 151) (n + 1) q d = if B 150 q = 2 then (if B 151 q = 260 then dp (B 150) (B 151) n (q + 1) d else dp (B 150) (B 151) n (q + 1) (d - 1)) else dp (B 150) (B 151) n (q + 1) (d + 1) := rfl
  unfold okc at ok
  rcases cq with ⟨k2, s0, xv, t, ht, hv⟩ | ⟨i, hi, kk, s1, vi⟩ | ⟨s2, sq⟩
  · have n2 : ¬ B 150 q = 2 := by rw [s0]; decide
    rw [if_neg n2] at ok dpe
    have tv := tv_num (k := k) (j := j) (A := A) (Ja := Ja) (s := (nI d, Jc)) hj k2 xv
    have g := gb_leaf (B := B) (Jb := Jb) (Jr := Jr) h3 hq c e38 (by omega) (by rw [e50]; exact n2)
    rw [e50, e51, if_pos s0] at g
    exact Or.inr (nxt_of hk h3 hd hj (Nat.le_refl d) st tv.1 (bd32 _) (by rw [tv.2]; exact Int32.sub_zero _) g (fun a b z => (u2_n _ _ z).trans (fr a b z)) (u2_s _ _ _ _) ok.2 dpe)
  · have n2 : ¬ B 150 q = 2 := by rw [s1]; decide
    have n0 : ¬ B 150 q = 0 := by rw [s1]; decide
    rw [if_neg n2] at ok dpe
    have tv := tv_nam (k := k) (j := j) (A := A) (Ja := Ja) (s := (nI d, Jc)) hj hi kk
    have g := gb_leaf (B := B) (Jb := Jb) (Jr := Jr) h3 hq c e38 (by omega) (by rw [e50]; exact n2)
    rw [e50, e51, if_neg n0, vi, nI_clamp (by omega), ← (nm i hi).1] at g
    exact Or.inr (nxt_of hk h3 hd hj (Nat.le_refl d) st tv.1 (by show bdL (Jc 115 i); rw [(nm i hi).1]; exact (nm i hi).2) (by rw [tv.2]; exact Int32.sub_zero _) g (fun a b z => (u2_n _ _ z).trans (fr a b z)) (u2_s _ _ _ _) ok.2 dpe)
  · rw [if_pos s2] at ok dpe
    by_cases v6 : B 151 q = 260
    · rw [if_pos v6] at ok dpe
      have k35 : A (k + 1) j = 35 := by
        rcases sq_list sq with ⟨h, _⟩ | ⟨_, h⟩ | ⟨_, h⟩ | ⟨_, h⟩ | ⟨_, h⟩ | ⟨_, h⟩ | ⟨_, h⟩ | ⟨_, h⟩ | ⟨_, h⟩ | ⟨_, h⟩ | ⟨_, h⟩ | ⟨_, h⟩ | ⟨_, h⟩
        · exact h
        all_goals exact absurd (h.symm.trans v6) (by decide)
      have tv := tv_not (k := k) (j := j) (A := A) (Ja := Ja) (s := (nI d, Jc)) hj rfl ok.1 (by omega) k35
      have e1 : (I 130 38 - 1).toNatClampNeg = d - 1 := by rw [e38, show nI d - 1 = nI (d - 1) from pk_sub (b := 1) ok.1, nI_clamp (by omega)]
      have fw : ¬ F_X12_works (I 151 q) I Jr = 0 := by
        rw [e51, v6]
        unfold F_X12_works
        rw [if_pos rfl, ite_self]
        decide
      have g := gb_s1 (B := B) (Jb := Jb) h3 hq c (e50.trans s2) fw
      have fi : FI_X12_works (I 151 q) I Jr = I := by
        rw [e51, v6]
        unfold FI_X12_works
        rw [if_pos rfl, ite_self]
      have top := st (d - 1) (by omega)
      have fj : FJ_X12_works (I 151 q) I Jr = u2 Jr 153 (d - 1) (if lg_cmp (Jc (k + 3) (d - 1)) 0 = 0 then (1 : Int32) else 0).toInt64 := by
        rw [e51, v6]
        unfold FJ_X12_works
        rw [if_pos rfl, e1, top.1]
        by_cases y : lg_cmp (Jr 153 (d - 1)) 0 = 0
        · rw [if_pos y, if_pos y]; rfl
        · rw [if_neg y, if_neg y]; rfl
      rw [fi, fj] at g
      have ed : d - 1 + 1 = d := by have := ok.1; omega
      refine Or.inr (nxt_of hk h3 (by omega) hj (Nat.sub_le d 1) st tv.1 (bd32 _) (by rw [tv.2]; exact pk_sub (b := 1) ok.1) g fr (by rw [ed]; exact e38) (by rw [ed]; exact ok.2) (by rw [ed]; exact dpe))
    · rw [if_neg v6] at ok dpe
      have h2 := ok.1
      have e1 : (I 130 38 - 1).toNatClampNeg = d - 1 := by rw [e38, show nI d - 1 = nI (d - 1) from pk_sub (b := 1) (by omega), nI_clamp (by omega)]
      have e2 : (I 130 38 - 2).toNatClampNeg = d - 2 := by rw [e38, show nI d - 2 = nI (d - 2) from pk_sub (b := 2) h2, nI_clamp (by omega)]
      have e3 : ((u2 I 130 38 ((I 130 38) - 1)) 130 38 - 1).toNatClampNeg = d - 2 := by rw [u2_s, e38, show nI d - 1 = nI (d - 1) from pk_sub (b := 1) (by omega), show nI (d - 1) - 1 = nI (d - 1 - 1) from pk_sub (b := 1) (by omega), nI_clamp (by omega)]; omega
      have wk := wk_all (A := A) (Jc := Jc) (J := Jr) sq v6 e1 e2 e3
      have tv := tv_bin (k := k) (j := j) (A := A) (Ja := Ja) (s := (nI d, Jc)) hj rfl h2 (by omega) wk.2
      have t1 := st (d - 1) (by omega)
      have t2 := st (d - 2) (by omega)
      have tz : T_X1_worth_j97_2 k 115 7 A Ja j (nI d, Jc) = F_X1_join (A (k + 1) j) (Jr 153 (d - 2)) (Jr 153 (d - 1)) A Jc := by
        rw [tv.1]
        show F_X1_join (A (k + 1) j) (Jc (k + 3) (d - 2)) (Jc (k + 3) (d - 1)) A Jc = _
        rw [t1.1, t2.1]
      by_cases b : bdL (F_X1_join (A (k + 1) j) (Jr 153 (d - 2)) (Jr 153 (d - 1)) A Jc)
      · have w1 := wk.1.1 b
        have g := gb_s1 (B := B) (Jb := Jb) (Jr := Jr) h3 hq c (e50.trans s2) (by rw [e51]; exact w1.1)
        rw [e51, w1.2, (works_H (J := Jr) e38 (by omega) (by omega) (fun _ => h2)).2, if_neg v6] at g
        have ed : d - 2 + 1 = d - 1 := by omega
        refine Or.inr (nxt_of hk h3 (by omega) hj (Nat.sub_le d 2) st tz b (by rw [tv.2]; exact pk_sub (b := 2) h2) g (fun a b z => (u2_n _ _ z).trans (fr a b z)) (by rw [ed]; exact u2_s _ _ _ _) (by rw [ed]; exact ok.2) (by rw [ed]; exact dpe))
      · refine Or.inl ⟨_, _, gb_s0 (B := B) (Jb := Jb) (Jr := Jr) h3 hq c (e50.trans s2) (by rw [e51]; exact wk.1.2 b), wb_0 (s := (nI d, Jc)) (by rw [tz]; exact b)⟩
/-- over all knots -/
theorem wloop {k0 k f m : Nat} {A B : SI} {Ja Jb : SJ} (hk : k = 29 + 4 * k0) (h3 : k0 < 3) (hfm : f + m ≤ 64) (e9 : B 149 k0 = nI (f + m)) (cq : ∀ j, j < m → CQ (A (k + 1) j) (A (k + 2) j) (B 150 (f + j)) (B 151 (f + j))) : ∀ n j d N I Jc Jr, j + n = m → n < N → Fr38 B I → I 130 38 = nI d → d ≤ j → STK k d Jc Jr → (∀ i, i < 7 → Jc 115 i = Jr 152 i ∧ bdL (Jr 152 i)) → okc (B 150) (B 151) n (f + j) d → (∃ I' J' Jc', itW (B_X12_goes_w12 (nI k0) B Jb) N (nI (f + j), I, Jr) = some (.inr (0, I', J')) ∧ itE (B_X1_worth_l4_2 k 115 7 A Ja) n j (nI d, Jc) = .inr (-9223372036854775808, Jc') ∧ JF k Jc Jc') ∨ (∃ d' I' Jc' Jr' q, itW (B_X12_goes_w12 (nI k0) B Jb) N (nI (f + j), I, Jr) = some (.inl (q, I', Jr')) ∧ itE (B_X1_worth_l4_2 k 115 7 A Ja) n j (nI d, Jc) = .inl (nI d', Jc') ∧ d' = dp (B 150) (B 151) n (f + j) d ∧ STK k d' Jc' Jr' ∧ JF k Jc Jc') := by
  intro n
  induction n with
  | zero =>
    intro j d N I Jc Jr hj hN fr e38 hd st nm _
    obtain ⟨N', rfl⟩ : ∃ N', N = N' + 1 := ⟨N - 1, by omega⟩
    have g : B_X12_goes_w12 (nI k0) B Jb (nI (f + j), I, Jr) = .inr (.inl (nI (f + j), I, Jr)) := by
      unfold B_X12_goes_w12
      dsimp only
      rw [nI_clamp (show k0 < 2 ^ 31 by omega), if_pos (show I 149 k0 ≤ nI (f + j) by rw [fr 149 k0 (by omega), e9]; exact nI_le (by omega) (by omega))]
    exact Or.inr ⟨d, I, Jc, Jr, nI (f + j), itW_r _ _ _ _ g, itE_0 _ _ _, rfl, st, fun _ _ _ => rfl⟩
  | succ n ih =>
    intro j d N I Jc Jr hj hN fr e38 hd st nm ok
    obtain ⟨N', rfl⟩ : ∃ N', N = N' + 1 := ⟨N - 1, by omega⟩
    have c : ¬ I 149 k0 ≤ nI (f + j) := by
      rw [fr 149 k0 (by omega), e9]
      exact nI_ge (by omega) (by omega)
    rcases wstp (Ja := Ja) (Jb := Jb) (x := 0) (sv := 0) hk h3 (by omega) (by omega) c fr e38 hd st nm (cq j (by omega)) ok with ⟨I', J', g, b⟩ | ⟨d', I', Jc', Jr', g, b, fr', e38', hd', st', nm', jf, ok', dd⟩
    · exact Or.inl ⟨I', J', Jc, itW_r _ _ _ _ g, itE_r _ _ _ _ _ b, fun _ _ _ => rfl⟩
    · have r := ih (j + 1) d' N' I' Jc' Jr' (by omega) (by omega) fr' e38' hd' st' (fun i hi => by rw [(nm' i).1, (nm' i).2]; exact nm i hi) ok'
      rw [itW_l _ _ _ _ g, itE_l _ _ _ _ _ b, dd]
      rcases r with ⟨I2, J2, Jc2, r1, r2, r3⟩ | ⟨d2, I2, Jc2, Jr2, q, r1, r2, r3, r4, r5⟩
      · exact Or.inl ⟨I2, J2, Jc2, r1, r2, fun a b h => (r3 a b h).trans (jf a b h)⟩
      · exact Or.inr ⟨d2, I2, Jc2, Jr2, q, r1, r2, r3, r4, fun a b h => (r5 a b h).trans (jf a b h)⟩
/-- a law's side: the class's worth, the model's going -/
theorem worth_v {k0 : Nat} {A B : SI} {Jc Jr : SJ} (h3 : k0 < 3) (l : LWT k0 A B) (lw : LW B k0) (nm : ∀ i, i < 7 → Jc 115 i = Jr 152 i ∧ bdL (Jr 152 i)) : JF (29 + 4 * k0) Jc (FJ_X1_worth (29 + 4 * k0) 115 7 A Jc) ∧ ((A (29 + 4 * k0) 0 = 0 ∧ F_X12_hasLaw (nI k0) B Jr = 0) ∨ (¬ A (29 + 4 * k0) 0 = 0 ∧ ¬ F_X12_hasLaw (nI k0) B Jr = 0 ∧ ((F_X1_worth (29 + 4 * k0) 115 7 A Jc = -9223372036854775808 ∧ F_X12_goes (nI k0) B Jr = 0) ∨ (¬ F_X12_goes (nI k0) B Jr = 0 ∧ F_X1_worth (29 + 4 * k0) 115 7 A Jc = FJ_X12_goes (nI k0) B Jr 153 0 ∧ bdL (F_X1_worth (29 + 4 * k0) 115 7 A Jc))))) := by
  rcases l with ⟨a0, a1, b0, b1⟩ | ⟨a0, f, m, hm, a1, b0, b1, hfm, cq, dd⟩
  · refine ⟨?_, Or.inl ⟨a0, ?_⟩⟩
    · have e : F_X1_worth_l4_2 (29 + 4 * k0) 115 7 A Jc (0, Jc) = .inl (0, Jc) := by
        unfold F_X1_worth_l4_2
        rw [a1]
        exact itE_0 _ _ _
      intro a b _
      unfold FJ_X1_worth
      rw [e]
      show (if A (29 + 4 * k0) 0 = 0 then Jc else Jc) a b = Jc a b
      rw [ite_self]
    · unfold F_X12_hasLaw
      rw [nI_clamp (by omega), b0, b1, if_pos (Int32.le_refl _)]
  · obtain ⟨f2, n2, l1, l2, l3, l4⟩ := lw
    have ef : f2 = f := (nI_eq (by omega) (by omega)).mp (l1.symm.trans b0)
    subst ef
    have en : n2 = m := by
      have := (nI_eq (by omega) (by omega)).mp (l2.symm.trans b1)
      omega
    subst en
    have hl : ¬ F_X12_hasLaw (nI k0) B Jr = 0 := by
      unfold F_X12_hasLaw
      rw [nI_clamp (by omega), b0, b1, if_neg (nI_ge (by omega) (by omega))]
      decide
    have e9 : u2 B 130 38 0 149 k0 = nI (f2 + n2) := (u2_n _ _ (by omega)).trans b1
    have e8 : u2 B 130 38 0 148 (nI k0).toNatClampNeg = nI (f2 + 0) := by
      rw [nI_clamp (by omega)]
      exact (u2_n _ _ (by omega)).trans b0
    have an : ¬ A (29 + 4 * k0) 0 = 0 := by rw [a0]; decide
    have w := wloop (k0 := k0) (k := 29 + 4 * k0) (f := f2) (m := n2) (A := A) (B := B) (Ja := Jc) (Jb := Jr) rfl h3 hfm b1 (fun j hj => by rw [show 29 + 4 * k0 + 1 = 30 + 4 * k0 by omega, show 29 + 4 * k0 + 2 = 31 + 4 * k0 by omega]; exact cq j hj) n2 0 0 800 (u2 B 130 38 0) Jc Jr (by omega) (by omega) (fun a b z => u2_n _ _ z) (u2_s _ _ _ _) (Nat.le_refl _) (fun i hi => absurd hi (Nat.not_lt_zero i)) nm l4
    rw [show (nI (f2 + 0), u2 B 130 38 0, Jr) = ((u2 B 130 38 0 148 (nI k0).toNatClampNeg, u2 B 130 38 0, Jr) : Int32 × SI × SJ) from by rw [e8]] at w
    have ec : (A (29 + 4 * k0) 1).toNatClampNeg = n2 := by rw [a1, nI_clamp (by omega)]
    rcases w with ⟨I', J', Jc', r1, r2, r3⟩ | ⟨d', I', Jc', Jr', q, r1, r2, r3, r4, r5⟩
    · have eg : F_X12_goes_w12 (nI k0) B Jr (u2 B 130 38 0 148 (nI k0).toNatClampNeg, u2 B 130 38 0, Jr) = .inr (0, I', J') := by
        unfold F_X12_goes_w12
        rw [r1]
        rfl
      have ew : F_X1_worth_l4_2 (29 + 4 * k0) 115 7 A Jc (0, Jc) = .inr (-9223372036854775808, Jc') := by
        unfold F_X1_worth_l4_2
        rw [ec]
        exact r2
      refine ⟨?_, Or.inr ⟨an, hl, Or.inl ⟨?_, ?_⟩⟩⟩
      · unfold FJ_X1_worth
        rw [ew]
        exact r3
      · unfold F_X1_worth
        rw [ew]
      · unfold F_X12_goes
        rw [eg]
    · have eg : F_X12_goes_w12 (nI k0) B Jr (u2 B 130 38 0 148 (nI k0).toNatClampNeg, u2 B 130 38 0, Jr) = .inl (q, I', Jr') := by
        unfold F_X12_goes_w12
        rw [r1]
        rfl
      have ew : F_X1_worth_l4_2 (29 + 4 * k0) 115 7 A Jc (0, Jc) = .inl (nI d', Jc') := by
        unfold F_X1_worth_l4_2
        rw [ec]
        exact r2
      have d1 : d' = 1 := r3.trans dd
      subst d1
      have top := r4 0 (by omega)
      have fw : F_X1_worth (29 + 4 * k0) 115 7 A Jc = Jc' (29 + 4 * k0 + 3) 0 := by
        unfold F_X1_worth
        rw [ew]
        show (if A (29 + 4 * k0) 0 = 0 then -9223372036854775808 else F_X1_openAt (29 + 4 * k0) (nI 1 - 1) A Jc') = _
        rw [if_neg an]
        exact opn_v (e := 0) (by omega)
      have fg : FJ_X12_goes (nI k0) B Jr 153 0 = Jr' 153 0 := by
        unfold FJ_X12_goes
        rw [eg]
      refine ⟨?_, Or.inr ⟨an, hl, Or.inr ⟨?_, ?_, ?_⟩⟩⟩
      · unfold FJ_X1_worth
        rw [ew]
        show JF (29 + 4 * k0) Jc (if A (29 + 4 * k0) 0 = 0 then Jc' else Jc')
        rw [ite_self]
        exact r5
      · unfold F_X12_goes
        rw [eg]
        show ¬ (1 : Int32) = 0
        decide
      · rw [fw, fg]
        exact top.1
      · rw [fw, top.1]
        exact top.2

