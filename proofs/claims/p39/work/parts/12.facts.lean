/-! printed by wip/whole/gen_facts.py: what stands where behind the constructors -/
def nK : Nat := 130
def nM : Nat := 178
def ROL : List (Nat × Nat × Nat) := [(0, 0, 1), (0, 2, 2), (0, 3, 41), (0, 4, 86), (0, 5, 95), (0, 7, 104), (0, 8, 116), (0, 9, 120), (0, 10, 124), (0, 11, 128), (2, 0, 3), (2, 1, 8), (2, 2, 13), (2, 3, 18), (2, 4, 23), (2, 5, 28), (2, 12, 29), (2, 13, 33), (2, 14, 37), (3, 2, 4), (3, 3, 5), (3, 4, 6), (3, 5, 7), (8, 2, 9), (8, 3, 10), (8, 4, 11), (8, 5, 12), (13, 2, 14), (13, 3, 15), (13, 4, 16), (13, 5, 17), (18, 2, 19), (18, 3, 20), (18, 4, 21), (18, 5, 22), (23, 2, 24), (23, 3, 25), (23, 4, 26), (23, 5, 27), (29, 2, 30), (29, 3, 31), (29, 4, 32), (33, 2, 34), (33, 3, 35), (33, 4, 36), (37, 2, 38), (37, 3, 39), (37, 4, 40), (41, 0, 42), (41, 3, 81), (41, 4, 84), (41, 5, 85), (42, 0, 43), (42, 1, 48), (42, 2, 53), (42, 3, 58), (42, 4, 63), (42, 5, 68), (42, 12, 69), (42, 13, 73), (42, 14, 77), (43, 2, 44), (43, 3, 45), (43, 4, 46), (43, 5, 47), (48, 2, 49), (48, 3, 50), (48, 4, 51), (48, 5, 52), (53, 2, 54), (53, 3, 55), (53, 4, 56), (53, 5, 57), (58, 2, 59), (58, 3, 60), (58, 4, 61), (58, 5, 62), (63, 2, 64), (63, 3, 65), (63, 4, 66), (63, 5, 67), (69, 2, 70), (69, 3, 71), (69, 4, 72), (73, 2, 74), (73, 3, 75), (73, 4, 76), (77, 2, 78), (77, 3, 79), (77, 4, 80), (81, 0, 82), (86, 7, 87), (86, 8, 88), (86, 9, 89), (86, 10, 90), (86, 11, 91), (86, 12, 92), (86, 13, 93), (86, 14, 94), (95, 7, 96), (95, 8, 97), (95, 9, 98), (95, 10, 99), (95, 11, 100), (95, 12, 101), (95, 13, 102), (95, 14, 103), (104, 0, 105), (104, 1, 114), (104, 3, 2), (104, 4, 115), (105, 7, 106), (105, 8, 107), (105, 9, 108), (105, 10, 109), (105, 11, 110), (105, 12, 111), (105, 13, 112), (105, 14, 113), (116, 2, 117), (116, 3, 118), (116, 4, 119), (120, 1, 121), (120, 2, 122), (120, 3, 123), (124, 0, 125), (124, 2, 2), (124, 3, 126), (124, 4, 127), (128, 3, 129)]
def RO (R : SR) : Prop := ∀ q, q ∈ ROL → R q.1 q.2.1 = some q.2.2
theorem RO.at (i : Nat) {R : SR} {k j v : Nat} (h : RO R) (e : ROL[i]? = some (k, j, v)) : R k j = some v := h (k, j, v) (List.mem_of_getElem? e)
theorem r_0_0 {R : SR} (h : RO R) : R 0 0 = some 1 := h.at 0 rfl
theorem r_0_2 {R : SR} (h : RO R) : R 0 2 = some 2 := h.at 1 rfl
theorem r_0_3 {R : SR} (h : RO R) : R 0 3 = some 41 := h.at 2 rfl
theorem r_0_4 {R : SR} (h : RO R) : R 0 4 = some 86 := h.at 3 rfl
theorem r_0_5 {R : SR} (h : RO R) : R 0 5 = some 95 := h.at 4 rfl
theorem r_0_7 {R : SR} (h : RO R) : R 0 7 = some 104 := h.at 5 rfl
theorem r_0_8 {R : SR} (h : RO R) : R 0 8 = some 116 := h.at 6 rfl
theorem r_0_9 {R : SR} (h : RO R) : R 0 9 = some 120 := h.at 7 rfl
theorem r_0_10 {R : SR} (h : RO R) : R 0 10 = some 124 := h.at 8 rfl
theorem r_0_11 {R : SR} (h : RO R) : R 0 11 = some 128 := h.at 9 rfl
theorem r_2_0 {R : SR} (h : RO R) : R 2 0 = some 3 := h.at 10 rfl
theorem r_2_1 {R : SR} (h : RO R) : R 2 1 = some 8 := h.at 11 rfl
theorem r_2_2 {R : SR} (h : RO R) : R 2 2 = some 13 := h.at 12 rfl
theorem r_2_3 {R : SR} (h : RO R) : R 2 3 = some 18 := h.at 13 rfl
theorem r_2_4 {R : SR} (h : RO R) : R 2 4 = some 23 := h.at 14 rfl
theorem r_2_5 {R : SR} (h : RO R) : R 2 5 = some 28 := h.at 15 rfl
theorem r_2_12 {R : SR} (h : RO R) : R 2 12 = some 29 := h.at 16 rfl
theorem r_2_13 {R : SR} (h : RO R) : R 2 13 = some 33 := h.at 17 rfl
theorem r_2_14 {R : SR} (h : RO R) : R 2 14 = some 37 := h.at 18 rfl
theorem r_3_2 {R : SR} (h : RO R) : R 3 2 = some 4 := h.at 19 rfl
theorem r_3_3 {R : SR} (h : RO R) : R 3 3 = some 5 := h.at 20 rfl
theorem r_3_4 {R : SR} (h : RO R) : R 3 4 = some 6 := h.at 21 rfl
theorem r_3_5 {R : SR} (h : RO R) : R 3 5 = some 7 := h.at 22 rfl
theorem r_8_2 {R : SR} (h : RO R) : R 8 2 = some 9 := h.at 23 rfl
theorem r_8_3 {R : SR} (h : RO R) : R 8 3 = some 10 := h.at 24 rfl
theorem r_8_4 {R : SR} (h : RO R) : R 8 4 = some 11 := h.at 25 rfl
theorem r_8_5 {R : SR} (h : RO R) : R 8 5 = some 12 := h.at 26 rfl
theorem r_13_2 {R : SR} (h : RO R) : R 13 2 = some 14 := h.at 27 rfl
theorem r_13_3 {R : SR} (h : RO R) : R 13 3 = some 15 := h.at 28 rfl
theorem r_13_4 {R : SR} (h : RO R) : R 13 4 = some 16 := h.at 29 rfl
theorem r_13_5 {R : SR} (h : RO R) : R 13 5 = some 17 := h.at 30 rfl
theorem r_18_2 {R : SR} (h : RO R) : R 18 2 = some 19 := h.at 31 rfl
theorem r_18_3 {R : SR} (h : RO R) : R 18 3 = some 20 := h.at 32 rfl
theorem r_18_4 {R : SR} (h : RO R) : R 18 4 = some 21 := h.at 33 rfl
theorem r_18_5 {R : SR} (h : RO R) : R 18 5 = some 22 := h.at 34 rfl
theorem r_23_2 {R : SR} (h : RO R) : R 23 2 = some 24 := h.at 35 rfl
theorem r_23_3 {R : SR} (h : RO R) : R 23 3 = some 25 := h.at 36 rfl
theorem r_23_4 {R : SR} (h : RO R) : R 23 4 = some 26 := h.at 37 rfl
theorem r_23_5 {R : SR} (h : RO R) : R 23 5 = some 27 := h.at 38 rfl
theorem r_29_2 {R : SR} (h : RO R) : R 29 2 = some 30 := h.at 39 rfl
theorem r_29_3 {R : SR} (h : RO R) : R 29 3 = some 31 := h.at 40 rfl
theorem r_29_4 {R : SR} (h : RO R) : R 29 4 = some 32 := h.at 41 rfl
theorem r_33_2 {R : SR} (h : RO R) : R 33 2 = some 34 := h.at 42 rfl
theorem r_33_3 {R : SR} (h : RO R) : R 33 3 = some 35 := h.at 43 rfl
theorem r_33_4 {R : SR} (h : RO R) : R 33 4 = some 36 := h.at 44 rfl
theorem r_37_2 {R : SR} (h : RO R) : R 37 2 = some 38 := h.at 45 rfl
theorem r_37_3 {R : SR} (h : RO R) : R 37 3 = some 39 := h.at 46 rfl
theorem r_37_4 {R : SR} (h : RO R) : R 37 4 = some 40 := h.at 47 rfl
theorem r_41_0 {R : SR} (h : RO R) : R 41 0 = some 42 := h.at 48 rfl
theorem r_41_3 {R : SR} (h : RO R) : R 41 3 = some 81 := h.at 49 rfl
theorem r_41_4 {R : SR} (h : RO R) : R 41 4 = some 84 := h.at 50 rfl
theorem r_41_5 {R : SR} (h : RO R) : R 41 5 = some 85 := h.at 51 rfl
theorem r_42_0 {R : SR} (h : RO R) : R 42 0 = some 43 := h.at 52 rfl
theorem r_42_1 {R : SR} (h : RO R) : R 42 1 = some 48 := h.at 53 rfl
theorem r_42_2 {R : SR} (h : RO R) : R 42 2 = some 53 := h.at 54 rfl
theorem r_42_3 {R : SR} (h : RO R) : R 42 3 = some 58 := h.at 55 rfl
theorem r_42_4 {R : SR} (h : RO R) : R 42 4 = some 63 := h.at 56 rfl
theorem r_42_5 {R : SR} (h : RO R) : R 42 5 = some 68 := h.at 57 rfl
theorem r_42_12 {R : SR} (h : RO R) : R 42 12 = some 69 := h.at 58 rfl
theorem r_42_13 {R : SR} (h : RO R) : R 42 13 = some 73 := h.at 59 rfl
theorem r_42_14 {R : SR} (h : RO R) : R 42 14 = some 77 := h.at 60 rfl
theorem r_43_2 {R : SR} (h : RO R) : R 43 2 = some 44 := h.at 61 rfl
theorem r_43_3 {R : SR} (h : RO R) : R 43 3 = some 45 := h.at 62 rfl
theorem r_43_4 {R : SR} (h : RO R) : R 43 4 = some 46 := h.at 63 rfl
theorem r_43_5 {R : SR} (h : RO R) : R 43 5 = some 47 := h.at 64 rfl
theorem r_48_2 {R : SR} (h : RO R) : R 48 2 = some 49 := h.at 65 rfl
theorem r_48_3 {R : SR} (h : RO R) : R 48 3 = some 50 := h.at 66 rfl
theorem r_48_4 {R : SR} (h : RO R) : R 48 4 = some 51 := h.at 67 rfl
theorem r_48_5 {R : SR} (h : RO R) : R 48 5 = some 52 := h.at 68 rfl
theorem r_53_2 {R : SR} (h : RO R) : R 53 2 = some 54 := h.at 69 rfl
theorem r_53_3 {R : SR} (h : RO R) : R 53 3 = some 55 := h.at 70 rfl
theorem r_53_4 {R : SR} (h : RO R) : R 53 4 = some 56 := h.at 71 rfl
theorem r_53_5 {R : SR} (h : RO R) : R 53 5 = some 57 := h.at 72 rfl
theorem r_58_2 {R : SR} (h : RO R) : R 58 2 = some 59 := h.at 73 rfl
theorem r_58_3 {R : SR} (h : RO R) : R 58 3 = some 60 := h.at 74 rfl
theorem r_58_4 {R : SR} (h : RO R) : R 58 4 = some 61 := h.at 75 rfl
theorem r_58_5 {R : SR} (h : RO R) : R 58 5 = some 62 := h.at 76 rfl
theorem r_63_2 {R : SR} (h : RO R) : R 63 2 = some 64 := h.at 77 rfl
theorem r_63_3 {R : SR} (h : RO R) : R 63 3 = some 65 := h.at 78 rfl
theorem r_63_4 {R : SR} (h : RO R) : R 63 4 = some 66 := h.at 79 rfl
theorem r_63_5 {R : SR} (h : RO R) : R 63 5 = some 67 := h.at 80 rfl
theorem r_69_2 {R : SR} (h : RO R) : R 69 2 = some 70 := h.at 81 rfl
theorem r_69_3 {R : SR} (h : RO R) : R 69 3 = some 71 := h.at 82 rfl
theorem r_69_4 {R : SR} (h : RO R) : R 69 4 = some 72 := h.at 83 rfl
theorem r_73_2 {R : SR} (h : RO R) : R 73 2 = some 74 := h.at 84 rfl
theorem r_73_3 {R : SR} (h : RO R) : R 73 3 = some 75 := h.at 85 rfl
theorem r_73_4 {R : SR} (h : RO R) : R 73 4 = some 76 := h.at 86 rfl
theorem r_77_2 {R : SR} (h : RO R) : R 77 2 = some 78 := h.at 87 rfl
theorem r_77_3 {R : SR} (h : RO R) : R 77 3 = some 79 := h.at 88 rfl
theorem r_77_4 {R : SR} (h : RO R) : R 77 4 = some 80 := h.at 89 rfl
theorem r_81_0 {R : SR} (h : RO R) : R 81 0 = some 82 := h.at 90 rfl
theorem r_86_7 {R : SR} (h : RO R) : R 86 7 = some 87 := h.at 91 rfl
theorem r_86_8 {R : SR} (h : RO R) : R 86 8 = some 88 := h.at 92 rfl
theorem r_86_9 {R : SR} (h : RO R) : R 86 9 = some 89 := h.at 93 rfl
theorem r_86_10 {R : SR} (h : RO R) : R 86 10 = some 90 := h.at 94 rfl
theorem r_86_11 {R : SR} (h : RO R) : R 86 11 = some 91 := h.at 95 rfl
theorem r_86_12 {R : SR} (h : RO R) : R 86 12 = some 92 := h.at 96 rfl
theorem r_86_13 {R : SR} (h : RO R) : R 86 13 = some 93 := h.at 97 rfl
theorem r_86_14 {R : SR} (h : RO R) : R 86 14 = some 94 := h.at 98 rfl
theorem r_95_7 {R : SR} (h : RO R) : R 95 7 = some 96 := h.at 99 rfl
theorem r_95_8 {R : SR} (h : RO R) : R 95 8 = some 97 := h.at 100 rfl
theorem r_95_9 {R : SR} (h : RO R) : R 95 9 = some 98 := h.at 101 rfl
theorem r_95_10 {R : SR} (h : RO R) : R 95 10 = some 99 := h.at 102 rfl
theorem r_95_11 {R : SR} (h : RO R) : R 95 11 = some 100 := h.at 103 rfl
theorem r_95_12 {R : SR} (h : RO R) : R 95 12 = some 101 := h.at 104 rfl
theorem r_95_13 {R : SR} (h : RO R) : R 95 13 = some 102 := h.at 105 rfl
theorem r_95_14 {R : SR} (h : RO R) : R 95 14 = some 103 := h.at 106 rfl
theorem r_104_0 {R : SR} (h : RO R) : R 104 0 = some 105 := h.at 107 rfl
theorem r_104_1 {R : SR} (h : RO R) : R 104 1 = some 114 := h.at 108 rfl
theorem r_104_3 {R : SR} (h : RO R) : R 104 3 = some 2 := h.at 109 rfl
theorem r_104_4 {R : SR} (h : RO R) : R 104 4 = some 115 := h.at 110 rfl
theorem r_105_7 {R : SR} (h : RO R) : R 105 7 = some 106 := h.at 111 rfl
theorem r_105_8 {R : SR} (h : RO R) : R 105 8 = some 107 := h.at 112 rfl
theorem r_105_9 {R : SR} (h : RO R) : R 105 9 = some 108 := h.at 113 rfl
theorem r_105_10 {R : SR} (h : RO R) : R 105 10 = some 109 := h.at 114 rfl
theorem r_105_11 {R : SR} (h : RO R) : R 105 11 = some 110 := h.at 115 rfl
theorem r_105_12 {R : SR} (h : RO R) : R 105 12 = some 111 := h.at 116 rfl
theorem r_105_13 {R : SR} (h : RO R) : R 105 13 = some 112 := h.at 117 rfl
theorem r_105_14 {R : SR} (h : RO R) : R 105 14 = some 113 := h.at 118 rfl
theorem r_116_2 {R : SR} (h : RO R) : R 116 2 = some 117 := h.at 119 rfl
theorem r_116_3 {R : SR} (h : RO R) : R 116 3 = some 118 := h.at 120 rfl
theorem r_116_4 {R : SR} (h : RO R) : R 116 4 = some 119 := h.at 121 rfl
theorem r_120_1 {R : SR} (h : RO R) : R 120 1 = some 121 := h.at 122 rfl
theorem r_120_2 {R : SR} (h : RO R) : R 120 2 = some 122 := h.at 123 rfl
theorem r_120_3 {R : SR} (h : RO R) : R 120 3 = some 123 := h.at 124 rfl
theorem r_124_0 {R : SR} (h : RO R) : R 124 0 = some 125 := h.at 125 rfl
theorem r_124_2 {R : SR} (h : RO R) : R 124 2 = some 2 := h.at 126 rfl
theorem r_124_3 {R : SR} (h : RO R) : R 124 3 = some 126 := h.at 127 rfl
theorem r_124_4 {R : SR} (h : RO R) : R 124 4 = some 127 := h.at 128 rfl
theorem r_128_3 {R : SR} (h : RO R) : R 128 3 = some 129 := h.at 129 rfl
def RML : List (Nat × Nat × Nat) := [(130, 1, 131), (130, 3, 132), (130, 4, 133), (130, 5, 134), (130, 6, 135), (130, 7, 136), (130, 8, 137), (130, 9, 138), (130, 10, 139), (130, 11, 140), (130, 12, 141), (130, 13, 142), (130, 14, 143), (130, 15, 144), (130, 16, 145), (130, 17, 146), (130, 18, 147), (130, 19, 148), (130, 20, 149), (130, 21, 150), (130, 22, 151), (130, 36, 152), (130, 37, 153), (130, 39, 154), (130, 40, 155), (130, 41, 156), (130, 42, 157), (130, 43, 158), (130, 44, 159), (130, 45, 160), (130, 46, 161), (130, 47, 162), (130, 48, 163), (130, 49, 164), (130, 50, 165), (130, 51, 166), (130, 52, 167), (130, 60, 168), (130, 61, 169), (130, 63, 170), (130, 64, 171), (130, 65, 172), (130, 70, 173), (130, 71, 174), (130, 72, 175), (130, 73, 176), (130, 74, 177)]
def RM (R : SR) : Prop := ∀ q, q ∈ RML → R q.1 q.2.1 = some q.2.2
theorem RM.at (i : Nat) {R : SR} {k j v : Nat} (h : RM R) (e : RML[i]? = some (k, j, v)) : R k j = some v := h (k, j, v) (List.mem_of_getElem? e)
theorem r_130_1 {R : SR} (h : RM R) : R 130 1 = some 131 := h.at 0 rfl
theorem r_130_3 {R : SR} (h : RM R) : R 130 3 = some 132 := h.at 1 rfl
theorem r_130_4 {R : SR} (h : RM R) : R 130 4 = some 133 := h.at 2 rfl
theorem r_130_5 {R : SR} (h : RM R) : R 130 5 = some 134 := h.at 3 rfl
theorem r_130_6 {R : SR} (h : RM R) : R 130 6 = some 135 := h.at 4 rfl
theorem r_130_7 {R : SR} (h : RM R) : R 130 7 = some 136 := h.at 5 rfl
theorem r_130_8 {R : SR} (h : RM R) : R 130 8 = some 137 := h.at 6 rfl
theorem r_130_9 {R : SR} (h : RM R) : R 130 9 = some 138 := h.at 7 rfl
theorem r_130_10 {R : SR} (h : RM R) : R 130 10 = some 139 := h.at 8 rfl
theorem r_130_11 {R : SR} (h : RM R) : R 130 11 = some 140 := h.at 9 rfl
theorem r_130_12 {R : SR} (h : RM R) : R 130 12 = some 141 := h.at 10 rfl
theorem r_130_13 {R : SR} (h : RM R) : R 130 13 = some 142 := h.at 11 rfl
theorem r_130_14 {R : SR} (h : RM R) : R 130 14 = some 143 := h.at 12 rfl
theorem r_130_15 {R : SR} (h : RM R) : R 130 15 = some 144 := h.at 13 rfl
theorem r_130_16 {R : SR} (h : RM R) : R 130 16 = some 145 := h.at 14 rfl
theorem r_130_17 {R : SR} (h : RM R) : R 130 17 = some 146 := h.at 15 rfl
theorem r_130_18 {R : SR} (h : RM R) : R 130 18 = some 147 := h.at 16 rfl
theorem r_130_19 {R : SR} (h : RM R) : R 130 19 = some 148 := h.at 17 rfl
theorem r_130_20 {R : SR} (h : RM R) : R 130 20 = some 149 := h.at 18 rfl
theorem r_130_21 {R : SR} (h : RM R) : R 130 21 = some 150 := h.at 19 rfl
theorem r_130_22 {R : SR} (h : RM R) : R 130 22 = some 151 := h.at 20 rfl
theorem r_130_36 {R : SR} (h : RM R) : R 130 36 = some 152 := h.at 21 rfl
theorem r_130_37 {R : SR} (h : RM R) : R 130 37 = some 153 := h.at 22 rfl
theorem r_130_39 {R : SR} (h : RM R) : R 130 39 = some 154 := h.at 23 rfl
theorem r_130_40 {R : SR} (h : RM R) : R 130 40 = some 155 := h.at 24 rfl
theorem r_130_41 {R : SR} (h : RM R) : R 130 41 = some 156 := h.at 25 rfl
theorem r_130_42 {R : SR} (h : RM R) : R 130 42 = some 157 := h.at 26 rfl
theorem r_130_43 {R : SR} (h : RM R) : R 130 43 = some 158 := h.at 27 rfl
theorem r_130_44 {R : SR} (h : RM R) : R 130 44 = some 159 := h.at 28 rfl
theorem r_130_45 {R : SR} (h : RM R) : R 130 45 = some 160 := h.at 29 rfl
theorem r_130_46 {R : SR} (h : RM R) : R 130 46 = some 161 := h.at 30 rfl
theorem r_130_47 {R : SR} (h : RM R) : R 130 47 = some 162 := h.at 31 rfl
theorem r_130_48 {R : SR} (h : RM R) : R 130 48 = some 163 := h.at 32 rfl
theorem r_130_49 {R : SR} (h : RM R) : R 130 49 = some 164 := h.at 33 rfl
theorem r_130_50 {R : SR} (h : RM R) : R 130 50 = some 165 := h.at 34 rfl
theorem r_130_51 {R : SR} (h : RM R) : R 130 51 = some 166 := h.at 35 rfl
theorem r_130_52 {R : SR} (h : RM R) : R 130 52 = some 167 := h.at 36 rfl
theorem r_130_60 {R : SR} (h : RM R) : R 130 60 = some 168 := h.at 37 rfl
theorem r_130_61 {R : SR} (h : RM R) : R 130 61 = some 169 := h.at 38 rfl
theorem r_130_63 {R : SR} (h : RM R) : R 130 63 = some 170 := h.at 39 rfl
theorem r_130_64 {R : SR} (h : RM R) : R 130 64 = some 171 := h.at 40 rfl
theorem r_130_65 {R : SR} (h : RM R) : R 130 65 = some 172 := h.at 41 rfl
theorem r_130_70 {R : SR} (h : RM R) : R 130 70 = some 173 := h.at 42 rfl
theorem r_130_71 {R : SR} (h : RM R) : R 130 71 = some 174 := h.at 43 rfl
theorem r_130_72 {R : SR} (h : RM R) : R 130 72 = some 175 := h.at 44 rfl
theorem r_130_73 {R : SR} (h : RM R) : R 130 73 = some 176 := h.at 45 rfl
theorem r_130_74 {R : SR} (h : RM R) : R 130 74 = some 177 := h.at 46 rfl
theorem ltK {k n : Nat} (hnn : nK ≤ n) (h : k < nK) : k < n := Nat.lt_of_lt_of_le h hnn
theorem ltM {k n : Nat} (hnn : nM ≤ n) (h : k < nM) : k < n := Nat.lt_of_lt_of_le h hnn
abbrev tR (R : SR) : SR := u2 R 81 1 (some 1)
theorem ro_t {R : SR} (h : RO R) : RO (tR R) := by
  intro q hq
  have e : ∀ q ∈ ROL, ¬ (q.1 = 81 ∧ q.2.1 = 1) := by decide +kernel
  exact (u2_n R (some 1) (e q hq)).trans (h q hq)
theorem s_0 : SH 0 = (11, 0) := rfl
theorem s_1 : SH 1 = (13, 700) := rfl
theorem s_2 : SH 2 = (9, 0) := rfl
theorem s_3 : SH 3 = (7, 0) := rfl
theorem s_4 : SH 4 = (14, 8) := rfl
theorem s_5 : SH 5 = (14, 8) := rfl
theorem s_6 : SH 6 = (14, 8) := rfl
theorem s_7 : SH 7 = (14, 8) := rfl
theorem s_8 : SH 8 = (7, 0) := rfl
theorem s_9 : SH 9 = (14, 8) := rfl
theorem s_10 : SH 10 = (14, 8) := rfl
theorem s_11 : SH 11 = (14, 8) := rfl
theorem s_12 : SH 12 = (14, 8) := rfl
theorem s_13 : SH 13 = (7, 0) := rfl
theorem s_14 : SH 14 = (14, 8) := rfl
theorem s_15 : SH 15 = (14, 8) := rfl
theorem s_16 : SH 16 = (14, 8) := rfl
theorem s_17 : SH 17 = (14, 8) := rfl
theorem s_18 : SH 18 = (7, 0) := rfl
theorem s_19 : SH 19 = (14, 8) := rfl
theorem s_20 : SH 20 = (14, 8) := rfl
theorem s_21 : SH 21 = (14, 8) := rfl
theorem s_22 : SH 22 = (14, 8) := rfl
theorem s_23 : SH 23 = (7, 0) := rfl
theorem s_24 : SH 24 = (14, 8) := rfl
theorem s_25 : SH 25 = (14, 8) := rfl
theorem s_26 : SH 26 = (14, 8) := rfl
theorem s_27 : SH 27 = (14, 8) := rfl
theorem s_28 : SH 28 = (14, 48) := rfl
theorem s_29 : SH 29 = (1, 0) := rfl
theorem s_30 : SH 30 = (14, 64) := rfl
theorem s_31 : SH 31 = (14, 64) := rfl
theorem s_32 : SH 32 = (15, 64) := rfl
theorem s_33 : SH 33 = (1, 0) := rfl
theorem s_34 : SH 34 = (14, 64) := rfl
theorem s_35 : SH 35 = (14, 64) := rfl
theorem s_36 : SH 36 = (15, 64) := rfl
theorem s_37 : SH 37 = (1, 0) := rfl
theorem s_38 : SH 38 = (14, 64) := rfl
theorem s_39 : SH 39 = (14, 64) := rfl
theorem s_40 : SH 40 = (15, 64) := rfl
theorem s_41 : SH 41 = (4, 0) := rfl
theorem s_42 : SH 42 = (9, 0) := rfl
theorem s_43 : SH 43 = (7, 0) := rfl
theorem s_44 : SH 44 = (14, 8) := rfl
theorem s_45 : SH 45 = (14, 8) := rfl
theorem s_46 : SH 46 = (14, 8) := rfl
theorem s_47 : SH 47 = (14, 8) := rfl
theorem s_48 : SH 48 = (7, 0) := rfl
theorem s_49 : SH 49 = (14, 8) := rfl
theorem s_50 : SH 50 = (14, 8) := rfl
theorem s_51 : SH 51 = (14, 8) := rfl
theorem s_52 : SH 52 = (14, 8) := rfl
theorem s_53 : SH 53 = (7, 0) := rfl
theorem s_54 : SH 54 = (14, 8) := rfl
theorem s_55 : SH 55 = (14, 8) := rfl
theorem s_56 : SH 56 = (14, 8) := rfl
theorem s_57 : SH 57 = (14, 8) := rfl
theorem s_58 : SH 58 = (7, 0) := rfl
theorem s_59 : SH 59 = (14, 8) := rfl
theorem s_60 : SH 60 = (14, 8) := rfl
theorem s_61 : SH 61 = (14, 8) := rfl
theorem s_62 : SH 62 = (14, 8) := rfl
theorem s_63 : SH 63 = (7, 0) := rfl
theorem s_64 : SH 64 = (14, 8) := rfl
theorem s_65 : SH 65 = (14, 8) := rfl
theorem s_66 : SH 66 = (14, 8) := rfl
theorem s_67 : SH 67 = (14, 8) := rfl
theorem s_68 : SH 68 = (14, 48) := rfl
theorem s_69 : SH 69 = (1, 0) := rfl
theorem s_70 : SH 70 = (14, 64) := rfl
theorem s_71 : SH 71 = (14, 64) := rfl
theorem s_72 : SH 72 = (15, 64) := rfl
theorem s_73 : SH 73 = (1, 0) := rfl
theorem s_74 : SH 74 = (14, 64) := rfl
theorem s_75 : SH 75 = (14, 64) := rfl
theorem s_76 : SH 76 = (15, 64) := rfl
theorem s_77 : SH 77 = (1, 0) := rfl
theorem s_78 : SH 78 = (14, 64) := rfl
theorem s_79 : SH 79 = (14, 64) := rfl
theorem s_80 : SH 80 = (15, 64) := rfl
theorem s_81 : SH 81 = (8, 0) := rfl
theorem s_82 : SH 82 = (14, 23) := rfl
theorem s_83 : SH 83 = (13, 1) := rfl
theorem s_84 : SH 84 = (14, 72) := rfl
theorem s_85 : SH 85 = (14, 72) := rfl
theorem s_86 : SH 86 = (5, 0) := rfl
theorem s_87 : SH 87 = (14, 8) := rfl
theorem s_88 : SH 88 = (14, 8) := rfl
theorem s_89 : SH 89 = (14, 8) := rfl
theorem s_90 : SH 90 = (14, 48) := rfl
theorem s_91 : SH 91 = (14, 6) := rfl
theorem s_92 : SH 92 = (14, 6) := rfl
theorem s_93 : SH 93 = (14, 4) := rfl
theorem s_94 : SH 94 = (14, 4) := rfl
theorem s_95 : SH 95 = (5, 0) := rfl
theorem s_96 : SH 96 = (14, 8) := rfl
theorem s_97 : SH 97 = (14, 8) := rfl
theorem s_98 : SH 98 = (14, 8) := rfl
theorem s_99 : SH 99 = (14, 48) := rfl
theorem s_100 : SH 100 = (14, 6) := rfl
theorem s_101 : SH 101 = (14, 6) := rfl
theorem s_102 : SH 102 = (14, 4) := rfl
theorem s_103 : SH 103 = (14, 4) := rfl
theorem s_104 : SH 104 = (0, 0) := rfl
theorem s_105 : SH 105 = (5, 0) := rfl
theorem s_106 : SH 106 = (14, 8) := rfl
theorem s_107 : SH 107 = (14, 8) := rfl
theorem s_108 : SH 108 = (14, 8) := rfl
theorem s_109 : SH 109 = (14, 48) := rfl
theorem s_110 : SH 110 = (14, 6) := rfl
theorem s_111 : SH 111 = (14, 6) := rfl
theorem s_112 : SH 112 = (14, 4) := rfl
theorem s_113 : SH 113 = (14, 4) := rfl
theorem s_114 : SH 114 = (14, 6) := rfl
theorem s_115 : SH 115 = (15, 7) := rfl
theorem s_116 : SH 116 = (6, 0) := rfl
theorem s_117 : SH 117 = (14, 24) := rfl
theorem s_118 : SH 118 = (14, 24) := rfl
theorem s_119 : SH 119 = (14, 24) := rfl
theorem s_120 : SH 120 = (10, 0) := rfl
theorem s_121 : SH 121 = (14, 20) := rfl
theorem s_122 : SH 122 = (14, 20) := rfl
theorem s_123 : SH 123 = (14, 20) := rfl
theorem s_124 : SH 124 = (2, 0) := rfl
theorem s_125 : SH 125 = (14, 6) := rfl
theorem s_126 : SH 126 = (14, 6) := rfl
theorem s_127 : SH 127 = (14, 36) := rfl
theorem s_128 : SH 128 = (3, 0) := rfl
theorem s_129 : SH 129 = (14, 4) := rfl
theorem s_130 : SH 130 = (12, 0) := rfl
theorem s_131 : SH 131 = (14, 700) := rfl
theorem s_132 : SH 132 = (14, 20) := rfl
theorem s_133 : SH 133 = (14, 12) := rfl
theorem s_134 : SH 134 = (14, 12) := rfl
theorem s_135 : SH 135 = (14, 12) := rfl
theorem s_136 : SH 136 = (14, 16) := rfl
theorem s_137 : SH 137 = (14, 16) := rfl
theorem s_138 : SH 138 = (14, 16) := rfl
theorem s_139 : SH 139 = (14, 96) := rfl
theorem s_140 : SH 140 = (14, 8) := rfl
theorem s_141 : SH 141 = (14, 8) := rfl
theorem s_142 : SH 142 = (14, 8) := rfl
theorem s_143 : SH 143 = (14, 8) := rfl
theorem s_144 : SH 144 = (14, 8) := rfl
theorem s_145 : SH 145 = (14, 8) := rfl
theorem s_146 : SH 146 = (14, 6) := rfl
theorem s_147 : SH 147 = (14, 6) := rfl
theorem s_148 : SH 148 = (14, 6) := rfl
theorem s_149 : SH 149 = (14, 6) := rfl
theorem s_150 : SH 150 = (14, 128) := rfl
theorem s_151 : SH 151 = (14, 128) := rfl
theorem s_152 : SH 152 = (15, 7) := rfl
theorem s_153 : SH 153 = (15, 64) := rfl
theorem s_154 : SH 154 = (14, 23) := rfl
theorem s_155 : SH 155 = (14, 23) := rfl
theorem s_156 : SH 156 = (14, 23) := rfl
theorem s_157 : SH 157 = (14, 23) := rfl
theorem s_158 : SH 158 = (14, 23) := rfl
theorem s_159 : SH 159 = (14, 23) := rfl
theorem s_160 : SH 160 = (14, 138) := rfl
theorem s_161 : SH 161 = (14, 138) := rfl
theorem s_162 : SH 162 = (14, 184) := rfl
theorem s_163 : SH 163 = (14, 184) := rfl
theorem s_164 : SH 164 = (14, 184) := rfl
theorem s_165 : SH 165 = (14, 1104) := rfl
theorem s_166 : SH 166 = (14, 92) := rfl
theorem s_167 : SH 167 = (14, 92) := rfl
theorem s_168 : SH 168 = (14, 6) := rfl
theorem s_169 : SH 169 = (14, 6) := rfl
theorem s_170 : SH 170 = (14, 4) := rfl
theorem s_171 : SH 171 = (14, 4) := rfl
theorem s_172 : SH 172 = (14, 4) := rfl
theorem s_173 : SH 173 = (14, 24) := rfl
theorem s_174 : SH 174 = (14, 24) := rfl
theorem s_175 : SH 175 = (16, 24) := rfl
theorem s_176 : SH 176 = (14, 24) := rfl
theorem s_177 : SH 177 = (16, 24) := rfl
theorem s_178 : SH 178 = (15, 1) := rfl
theorem rcv {k ci : Nat} {C : String} {T : u_T} {N : Nat} (hc : CLS ci C T N) (h : (SH k).1 = ci) : ∃ T N, (SH k).1 < 13 ∧ vwCl[(SH k).1]? = some (C, T, N) := ⟨T, N, by rw [h]; exact hc.2.2.1, by rw [h]; exact hc.1⟩
def IsSc (k : Nat) : Prop := k = 86 ∨ k = 95 ∨ k = 105
theorem sSc {k : Nat} (h : IsSc k) : SH k = (5, 0) := by rcases h with rfl | rfl | rfl <;> rfl
theorem nSc {k : Nat} (h : IsSc k) : k < nK := by rcases h with rfl | rfl | rfl <;> decide
theorem isSc_86 : IsSc 86 := by unfold IsSc; decide
theorem isSc_95 : IsSc 95 := by unfold IsSc; decide
theorem isSc_105 : IsSc 105 := by unfold IsSc; decide
theorem rSc_7 {R : SR} {k : Nat} (h : IsSc k) (ro : RO R) : R k 7 = some (k + 1) := by
  rcases h with rfl | rfl | rfl
  · exact r_86_7 ro
  · exact r_95_7 ro
  · exact r_105_7 ro
theorem sSc_7 {k : Nat} (h : IsSc k) : SH (k + 1) = (14, 8) := by rcases h with rfl | rfl | rfl <;> rfl
theorem nSc_7 {k : Nat} (h : IsSc k) : k + 1 < nK := by rcases h with rfl | rfl | rfl <;> decide
theorem rSc_8 {R : SR} {k : Nat} (h : IsSc k) (ro : RO R) : R k 8 = some (k + 2) := by
  rcases h with rfl | rfl | rfl
  · exact r_86_8 ro
  · exact r_95_8 ro
  · exact r_105_8 ro
theorem sSc_8 {k : Nat} (h : IsSc k) : SH (k + 2) = (14, 8) := by rcases h with rfl | rfl | rfl <;> rfl
theorem nSc_8 {k : Nat} (h : IsSc k) : k + 2 < nK := by rcases h with rfl | rfl | rfl <;> decide
theorem rSc_9 {R : SR} {k : Nat} (h : IsSc k) (ro : RO R) : R k 9 = some (k + 3) := by
  rcases h with rfl | rfl | rfl
  · exact r_86_9 ro
  · exact r_95_9 ro
  · exact r_105_9 ro
theorem sSc_9 {k : Nat} (h : IsSc k) : SH (k + 3) = (14, 8) := by rcases h with rfl | rfl | rfl <;> rfl
theorem nSc_9 {k : Nat} (h : IsSc k) : k + 3 < nK := by rcases h with rfl | rfl | rfl <;> decide
theorem rSc_10 {R : SR} {k : Nat} (h : IsSc k) (ro : RO R) : R k 10 = some (k + 4) := by
  rcases h with rfl | rfl | rfl
  · exact r_86_10 ro
  · exact r_95_10 ro
  · exact r_105_10 ro
theorem sSc_10 {k : Nat} (h : IsSc k) : SH (k + 4) = (14, 48) := by rcases h with rfl | rfl | rfl <;> rfl
theorem nSc_10 {k : Nat} (h : IsSc k) : k + 4 < nK := by rcases h with rfl | rfl | rfl <;> decide
theorem rSc_11 {R : SR} {k : Nat} (h : IsSc k) (ro : RO R) : R k 11 = some (k + 5) := by
  rcases h with rfl | rfl | rfl
  · exact r_86_11 ro
  · exact r_95_11 ro
  · exact r_105_11 ro
theorem sSc_11 {k : Nat} (h : IsSc k) : SH (k + 5) = (14, 6) := by rcases h with rfl | rfl | rfl <;> rfl
theorem nSc_11 {k : Nat} (h : IsSc k) : k + 5 < nK := by rcases h with rfl | rfl | rfl <;> decide
theorem rSc_12 {R : SR} {k : Nat} (h : IsSc k) (ro : RO R) : R k 12 = some (k + 6) := by
  rcases h with rfl | rfl | rfl
  · exact r_86_12 ro
  · exact r_95_12 ro
  · exact r_105_12 ro
theorem sSc_12 {k : Nat} (h : IsSc k) : SH (k + 6) = (14, 6) := by rcases h with rfl | rfl | rfl <;> rfl
theorem nSc_12 {k : Nat} (h : IsSc k) : k + 6 < nK := by rcases h with rfl | rfl | rfl <;> decide
theorem rSc_13 {R : SR} {k : Nat} (h : IsSc k) (ro : RO R) : R k 13 = some (k + 7) := by
  rcases h with rfl | rfl | rfl
  · exact r_86_13 ro
  · exact r_95_13 ro
  · exact r_105_13 ro
theorem sSc_13 {k : Nat} (h : IsSc k) : SH (k + 7) = (14, 4) := by rcases h with rfl | rfl | rfl <;> rfl
theorem nSc_13 {k : Nat} (h : IsSc k) : k + 7 < nK := by rcases h with rfl | rfl | rfl <;> decide
theorem rSc_14 {R : SR} {k : Nat} (h : IsSc k) (ro : RO R) : R k 14 = some (k + 8) := by
  rcases h with rfl | rfl | rfl
  · exact r_86_14 ro
  · exact r_95_14 ro
  · exact r_105_14 ro
theorem sSc_14 {k : Nat} (h : IsSc k) : SH (k + 8) = (14, 4) := by rcases h with rfl | rfl | rfl <;> rfl
theorem nSc_14 {k : Nat} (h : IsSc k) : k + 8 < nK := by rcases h with rfl | rfl | rfl <;> decide
def IsTb (k : Nat) : Prop := k = 3 ∨ k = 8 ∨ k = 13 ∨ k = 18 ∨ k = 23 ∨ k = 43 ∨ k = 48 ∨ k = 53 ∨ k = 58 ∨ k = 63
theorem sTb {k : Nat} (h : IsTb k) : SH k = (7, 0) := by rcases h with rfl | rfl | rfl | rfl | rfl | rfl | rfl | rfl | rfl | rfl <;> rfl
theorem nTb {k : Nat} (h : IsTb k) : k < nK := by rcases h with rfl | rfl | rfl | rfl | rfl | rfl | rfl | rfl | rfl | rfl <;> decide
theorem isTb_3 : IsTb 3 := by unfold IsTb; decide
theorem isTb_8 : IsTb 8 := by unfold IsTb; decide
theorem isTb_13 : IsTb 13 := by unfold IsTb; decide
theorem isTb_18 : IsTb 18 := by unfold IsTb; decide
theorem isTb_23 : IsTb 23 := by unfold IsTb; decide
theorem isTb_43 : IsTb 43 := by unfold IsTb; decide
theorem isTb_48 : IsTb 48 := by unfold IsTb; decide
theorem isTb_53 : IsTb 53 := by unfold IsTb; decide
theorem isTb_58 : IsTb 58 := by unfold IsTb; decide
theorem isTb_63 : IsTb 63 := by unfold IsTb; decide
theorem rTb_2 {R : SR} {k : Nat} (h : IsTb k) (ro : RO R) : R k 2 = some (k + 1) := by
  rcases h with rfl | rfl | rfl | rfl | rfl | rfl | rfl | rfl | rfl | rfl
  · exact r_3_2 ro
  · exact r_8_2 ro
  · exact r_13_2 ro
  · exact r_18_2 ro
  · exact r_23_2 ro
  · exact r_43_2 ro
  · exact r_48_2 ro
  · exact r_53_2 ro
  · exact r_58_2 ro
  · exact r_63_2 ro
theorem sTb_2 {k : Nat} (h : IsTb k) : SH (k + 1) = (14, 8) := by rcases h with rfl | rfl | rfl | rfl | rfl | rfl | rfl | rfl | rfl | rfl <;> rfl
theorem nTb_2 {k : Nat} (h : IsTb k) : k + 1 < nK := by rcases h with rfl | rfl | rfl | rfl | rfl | rfl | rfl | rfl | rfl | rfl <;> decide
theorem rTb_3 {R : SR} {k : Nat} (h : IsTb k) (ro : RO R) : R k 3 = some (k + 2) := by
  rcases h with rfl | rfl | rfl | rfl | rfl | rfl | rfl | rfl | rfl | rfl
  · exact r_3_3 ro
  · exact r_8_3 ro
  · exact r_13_3 ro
  · exact r_18_3 ro
  · exact r_23_3 ro
  · exact r_43_3 ro
  · exact r_48_3 ro
  · exact r_53_3 ro
  · exact r_58_3 ro
  · exact r_63_3 ro
theorem sTb_3 {k : Nat} (h : IsTb k) : SH (k + 2) = (14, 8) := by rcases h with rfl | rfl | rfl | rfl | rfl | rfl | rfl | rfl | rfl | rfl <;> rfl
theorem nTb_3 {k : Nat} (h : IsTb k) : k + 2 < nK := by rcases h with rfl | rfl | rfl | rfl | rfl | rfl | rfl | rfl | rfl | rfl <;> decide
theorem rTb_4 {R : SR} {k : Nat} (h : IsTb k) (ro : RO R) : R k 4 = some (k + 3) := by
  rcases h with rfl | rfl | rfl | rfl | rfl | rfl | rfl | rfl | rfl | rfl
  · exact r_3_4 ro
  · exact r_8_4 ro
  · exact r_13_4 ro
  · exact r_18_4 ro
  · exact r_23_4 ro
  · exact r_43_4 ro
  · exact r_48_4 ro
  · exact r_53_4 ro
  · exact r_58_4 ro
  · exact r_63_4 ro
theorem sTb_4 {k : Nat} (h : IsTb k) : SH (k + 3) = (14, 8) := by rcases h with rfl | rfl | rfl | rfl | rfl | rfl | rfl | rfl | rfl | rfl <;> rfl
theorem nTb_4 {k : Nat} (h : IsTb k) : k + 3 < nK := by rcases h with rfl | rfl | rfl | rfl | rfl | rfl | rfl | rfl | rfl | rfl <;> decide
theorem rTb_5 {R : SR} {k : Nat} (h : IsTb k) (ro : RO R) : R k 5 = some (k + 4) := by
  rcases h with rfl | rfl | rfl | rfl | rfl | rfl | rfl | rfl | rfl | rfl
  · exact r_3_5 ro
  · exact r_8_5 ro
  · exact r_13_5 ro
  · exact r_18_5 ro
  · exact r_23_5 ro
  · exact r_43_5 ro
  · exact r_48_5 ro
  · exact r_53_5 ro
  · exact r_58_5 ro
  · exact r_63_5 ro
theorem sTb_5 {k : Nat} (h : IsTb k) : SH (k + 4) = (14, 8) := by rcases h with rfl | rfl | rfl | rfl | rfl | rfl | rfl | rfl | rfl | rfl <;> rfl
theorem nTb_5 {k : Nat} (h : IsTb k) : k + 4 < nK := by rcases h with rfl | rfl | rfl | rfl | rfl | rfl | rfl | rfl | rfl | rfl <;> decide
def IsLw (k : Nat) : Prop := k = 29 ∨ k = 33 ∨ k = 37 ∨ k = 69 ∨ k = 73 ∨ k = 77
theorem sLw {k : Nat} (h : IsLw k) : SH k = (1, 0) := by rcases h with rfl | rfl | rfl | rfl | rfl | rfl <;> rfl
theorem nLw {k : Nat} (h : IsLw k) : k < nK := by rcases h with rfl | rfl | rfl | rfl | rfl | rfl <;> decide
theorem isLw_29 : IsLw 29 := by unfold IsLw; decide
theorem isLw_33 : IsLw 33 := by unfold IsLw; decide
theorem isLw_37 : IsLw 37 := by unfold IsLw; decide
theorem isLw_69 : IsLw 69 := by unfold IsLw; decide
theorem isLw_73 : IsLw 73 := by unfold IsLw; decide
theorem isLw_77 : IsLw 77 := by unfold IsLw; decide
theorem rLw_2 {R : SR} {k : Nat} (h : IsLw k) (ro : RO R) : R k 2 = some (k + 1) := by
  rcases h with rfl | rfl | rfl | rfl | rfl | rfl
  · exact r_29_2 ro
  · exact r_33_2 ro
  · exact r_37_2 ro
  · exact r_69_2 ro
  · exact r_73_2 ro
  · exact r_77_2 ro
theorem sLw_2 {k : Nat} (h : IsLw k) : SH (k + 1) = (14, 64) := by rcases h with rfl | rfl | rfl | rfl | rfl | rfl <;> rfl
theorem nLw_2 {k : Nat} (h : IsLw k) : k + 1 < nK := by rcases h with rfl | rfl | rfl | rfl | rfl | rfl <;> decide
theorem rLw_3 {R : SR} {k : Nat} (h : IsLw k) (ro : RO R) : R k 3 = some (k + 2) := by
  rcases h with rfl | rfl | rfl | rfl | rfl | rfl
  · exact r_29_3 ro
  · exact r_33_3 ro
  · exact r_37_3 ro
  · exact r_69_3 ro
  · exact r_73_3 ro
  · exact r_77_3 ro
theorem sLw_3 {k : Nat} (h : IsLw k) : SH (k + 2) = (14, 64) := by rcases h with rfl | rfl | rfl | rfl | rfl | rfl <;> rfl
theorem nLw_3 {k : Nat} (h : IsLw k) : k + 2 < nK := by rcases h with rfl | rfl | rfl | rfl | rfl | rfl <;> decide
theorem rLw_4 {R : SR} {k : Nat} (h : IsLw k) (ro : RO R) : R k 4 = some (k + 3) := by
  rcases h with rfl | rfl | rfl | rfl | rfl | rfl
  · exact r_29_4 ro
  · exact r_33_4 ro
  · exact r_37_4 ro
  · exact r_69_4 ro
  · exact r_73_4 ro
  · exact r_77_4 ro
theorem sLw_4 {k : Nat} (h : IsLw k) : SH (k + 3) = (15, 64) := by rcases h with rfl | rfl | rfl | rfl | rfl | rfl <;> rfl
theorem nLw_4 {k : Nat} (h : IsLw k) : k + 3 < nK := by rcases h with rfl | rfl | rfl | rfl | rfl | rfl <;> decide
def IsTo (k : Nat) : Prop := k = 2 ∨ k = 42
theorem sTo {k : Nat} (h : IsTo k) : SH k = (9, 0) := by rcases h with rfl | rfl <;> rfl
theorem nTo {k : Nat} (h : IsTo k) : k < nK := by rcases h with rfl | rfl <;> decide
theorem isTo_2 : IsTo 2 := by unfold IsTo; decide
theorem isTo_42 : IsTo 42 := by unfold IsTo; decide
theorem rTo_0 {R : SR} {k : Nat} (h : IsTo k) (ro : RO R) : R k 0 = some (k + 1) := by
  rcases h with rfl | rfl
  · exact r_2_0 ro
  · exact r_42_0 ro
theorem iTo_0 {k : Nat} (h : IsTo k) : IsTb (k + 1) := by
  rcases h with rfl | rfl
  · exact isTb_3
  · exact isTb_43
theorem nTo_0 {k : Nat} (h : IsTo k) : k + 1 < nK := by rcases h with rfl | rfl <;> decide
theorem rTo_1 {R : SR} {k : Nat} (h : IsTo k) (ro : RO R) : R k 1 = some (k + 6) := by
  rcases h with rfl | rfl
  · exact r_2_1 ro
  · exact r_42_1 ro
theorem iTo_1 {k : Nat} (h : IsTo k) : IsTb (k + 6) := by
  rcases h with rfl | rfl
  · exact isTb_8
  · exact isTb_48
theorem nTo_1 {k : Nat} (h : IsTo k) : k + 6 < nK := by rcases h with rfl | rfl <;> decide
theorem rTo_2 {R : SR} {k : Nat} (h : IsTo k) (ro : RO R) : R k 2 = some (k + 11) := by
  rcases h with rfl | rfl
  · exact r_2_2 ro
  · exact r_42_2 ro
theorem iTo_2 {k : Nat} (h : IsTo k) : IsTb (k + 11) := by
  rcases h with rfl | rfl
  · exact isTb_13
  · exact isTb_53
theorem nTo_2 {k : Nat} (h : IsTo k) : k + 11 < nK := by rcases h with rfl | rfl <;> decide
theorem rTo_3 {R : SR} {k : Nat} (h : IsTo k) (ro : RO R) : R k 3 = some (k + 16) := by
  rcases h with rfl | rfl
  · exact r_2_3 ro
  · exact r_42_3 ro
theorem iTo_3 {k : Nat} (h : IsTo k) : IsTb (k + 16) := by
  rcases h with rfl | rfl
  · exact isTb_18
  · exact isTb_58
theorem nTo_3 {k : Nat} (h : IsTo k) : k + 16 < nK := by rcases h with rfl | rfl <;> decide
theorem rTo_4 {R : SR} {k : Nat} (h : IsTo k) (ro : RO R) : R k 4 = some (k + 21) := by
  rcases h with rfl | rfl
  · exact r_2_4 ro
  · exact r_42_4 ro
theorem iTo_4 {k : Nat} (h : IsTo k) : IsTb (k + 21) := by
  rcases h with rfl | rfl
  · exact isTb_23
  · exact isTb_63
theorem nTo_4 {k : Nat} (h : IsTo k) : k + 21 < nK := by rcases h with rfl | rfl <;> decide
theorem rTo_5 {R : SR} {k : Nat} (h : IsTo k) (ro : RO R) : R k 5 = some (k + 26) := by
  rcases h with rfl | rfl
  · exact r_2_5 ro
  · exact r_42_5 ro
theorem sTo_5 {k : Nat} (h : IsTo k) : SH (k + 26) = (14, 48) := by rcases h with rfl | rfl <;> rfl
theorem nTo_5 {k : Nat} (h : IsTo k) : k + 26 < nK := by rcases h with rfl | rfl <;> decide
theorem rTo_12 {R : SR} {k : Nat} (h : IsTo k) (ro : RO R) : R k 12 = some (k + 27) := by
  rcases h with rfl | rfl
  · exact r_2_12 ro
  · exact r_42_12 ro
theorem iTo_12 {k : Nat} (h : IsTo k) : IsLw (k + 27) := by
  rcases h with rfl | rfl
  · exact isLw_29
  · exact isLw_69
theorem nTo_12 {k : Nat} (h : IsTo k) : k + 27 < nK := by rcases h with rfl | rfl <;> decide
theorem rTo_13 {R : SR} {k : Nat} (h : IsTo k) (ro : RO R) : R k 13 = some (k + 31) := by
  rcases h with rfl | rfl
  · exact r_2_13 ro
  · exact r_42_13 ro
theorem iTo_13 {k : Nat} (h : IsTo k) : IsLw (k + 31) := by
  rcases h with rfl | rfl
  · exact isLw_33
  · exact isLw_73
theorem nTo_13 {k : Nat} (h : IsTo k) : k + 31 < nK := by rcases h with rfl | rfl <;> decide
theorem rTo_14 {R : SR} {k : Nat} (h : IsTo k) (ro : RO R) : R k 14 = some (k + 35) := by
  rcases h with rfl | rfl
  · exact r_2_14 ro
  · exact r_42_14 ro
theorem iTo_14 {k : Nat} (h : IsTo k) : IsLw (k + 35) := by
  rcases h with rfl | rfl
  · exact isLw_37
  · exact isLw_77
theorem nTo_14 {k : Nat} (h : IsTo k) : k + 35 < nK := by rcases h with rfl | rfl <;> decide
