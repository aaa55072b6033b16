/-! printed by wip/whole/gen_dec.py: decode rows -/
theorem k_dX12_init_0 : decode (mX12_init).2.1 0 = .ok ((.aload_n 0), 1) ∧ decode (mX12_init).2.1 1 = .ok ((.invokespecial 1), 3) ∧ decode (mX12_init).2.1 4 = .ok ((.aload_n 0), 1) ∧ decode (mX12_init).2.1 5 = .ok ((.sipush 700), 3) ∧ decode (mX12_init).2.1 8 = .ok ((.newarray .int), 2) ∧ decode (mX12_init).2.1 10 = .ok ((.putfield 7), 3) := by decide +kernel
theorem dX12_init_0 : Dc mX12_init 0 (.aload_n 0) 1 1 := ⟨k_dX12_init_0.1, rfl⟩
theorem dX12_init_1 : Dc mX12_init 1 (.invokespecial 1) 3 4 := ⟨k_dX12_init_0.2.1, rfl⟩
theorem dX12_init_4 : Dc mX12_init 4 (.aload_n 0) 1 5 := ⟨k_dX12_init_0.2.2.1, rfl⟩
theorem dX12_init_5 : Dc mX12_init 5 (.sipush 700) 3 8 := ⟨k_dX12_init_0.2.2.2.1, rfl⟩
theorem dX12_init_8 : Dc mX12_init 8 (.newarray .int) 2 10 := ⟨k_dX12_init_0.2.2.2.2.1, rfl⟩
theorem dX12_init_10 : Dc mX12_init 10 (.putfield 7) 3 13 := ⟨k_dX12_init_0.2.2.2.2.2, rfl⟩
theorem k_dX12_init_13 : decode (mX12_init).2.1 13 = .ok ((.aload_n 0), 1) ∧ decode (mX12_init).2.1 14 = .ok ((.bipush 20), 2) ∧ decode (mX12_init).2.1 16 = .ok ((.newarray .int), 2) ∧ decode (mX12_init).2.1 18 = .ok ((.dup), 1) ∧ decode (mX12_init).2.1 19 = .ok ((.iconst 0), 1) ∧ decode (mX12_init).2.1 20 = .ok ((.iconst 0), 1) := by decide +kernel
theorem dX12_init_13 : Dc mX12_init 13 (.aload_n 0) 1 14 := ⟨k_dX12_init_13.1, rfl⟩
theorem dX12_init_14 : Dc mX12_init 14 (.bipush 20) 2 16 := ⟨k_dX12_init_13.2.1, rfl⟩
theorem dX12_init_16 : Dc mX12_init 16 (.newarray .int) 2 18 := ⟨k_dX12_init_13.2.2.1, rfl⟩
theorem dX12_init_18 : Dc mX12_init 18 (.dup) 1 19 := ⟨k_dX12_init_13.2.2.2.1, rfl⟩
theorem dX12_init_19 : Dc mX12_init 19 (.iconst 0) 1 20 := ⟨k_dX12_init_13.2.2.2.2.1, rfl⟩
theorem dX12_init_20 : Dc mX12_init 20 (.iconst 0) 1 21 := ⟨k_dX12_init_13.2.2.2.2.2, rfl⟩
theorem k_dX12_init_21 : decode (mX12_init).2.1 21 = .ok ((.iastore), 1) ∧ decode (mX12_init).2.1 22 = .ok ((.dup), 1) ∧ decode (mX12_init).2.1 23 = .ok ((.iconst 1), 1) ∧ decode (mX12_init).2.1 24 = .ok ((.iconst 0), 1) ∧ decode (mX12_init).2.1 25 = .ok ((.iastore), 1) ∧ decode (mX12_init).2.1 26 = .ok ((.dup), 1) := by decide +kernel
theorem dX12_init_21 : Dc mX12_init 21 (.iastore) 1 22 := ⟨k_dX12_init_21.1, rfl⟩
theorem dX12_init_22 : Dc mX12_init 22 (.dup) 1 23 := ⟨k_dX12_init_21.2.1, rfl⟩
theorem dX12_init_23 : Dc mX12_init 23 (.iconst 1) 1 24 := ⟨k_dX12_init_21.2.2.1, rfl⟩
theorem dX12_init_24 : Dc mX12_init 24 (.iconst 0) 1 25 := ⟨k_dX12_init_21.2.2.2.1, rfl⟩
theorem dX12_init_25 : Dc mX12_init 25 (.iastore) 1 26 := ⟨k_dX12_init_21.2.2.2.2.1, rfl⟩
theorem dX12_init_26 : Dc mX12_init 26 (.dup) 1 27 := ⟨k_dX12_init_21.2.2.2.2.2, rfl⟩
theorem k_dX12_init_27 : decode (mX12_init).2.1 27 = .ok ((.iconst 2), 1) ∧ decode (mX12_init).2.1 28 = .ok ((.iconst 0), 1) ∧ decode (mX12_init).2.1 29 = .ok ((.iastore), 1) ∧ decode (mX12_init).2.1 30 = .ok ((.dup), 1) ∧ decode (mX12_init).2.1 31 = .ok ((.iconst 3), 1) ∧ decode (mX12_init).2.1 32 = .ok ((.iconst 0), 1) := by decide +kernel
theorem dX12_init_27 : Dc mX12_init 27 (.iconst 2) 1 28 := ⟨k_dX12_init_27.1, rfl⟩
theorem dX12_init_28 : Dc mX12_init 28 (.iconst 0) 1 29 := ⟨k_dX12_init_27.2.1, rfl⟩
theorem dX12_init_29 : Dc mX12_init 29 (.iastore) 1 30 := ⟨k_dX12_init_27.2.2.1, rfl⟩
theorem dX12_init_30 : Dc mX12_init 30 (.dup) 1 31 := ⟨k_dX12_init_27.2.2.2.1, rfl⟩
theorem dX12_init_31 : Dc mX12_init 31 (.iconst 3) 1 32 := ⟨k_dX12_init_27.2.2.2.2.1, rfl⟩
theorem dX12_init_32 : Dc mX12_init 32 (.iconst 0) 1 33 := ⟨k_dX12_init_27.2.2.2.2.2, rfl⟩
theorem k_dX12_init_33 : decode (mX12_init).2.1 33 = .ok ((.iastore), 1) ∧ decode (mX12_init).2.1 34 = .ok ((.dup), 1) ∧ decode (mX12_init).2.1 35 = .ok ((.iconst 4), 1) ∧ decode (mX12_init).2.1 36 = .ok ((.iconst 0), 1) ∧ decode (mX12_init).2.1 37 = .ok ((.iastore), 1) ∧ decode (mX12_init).2.1 38 = .ok ((.dup), 1) := by decide +kernel
theorem dX12_init_33 : Dc mX12_init 33 (.iastore) 1 34 := ⟨k_dX12_init_33.1, rfl⟩
theorem dX12_init_34 : Dc mX12_init 34 (.dup) 1 35 := ⟨k_dX12_init_33.2.1, rfl⟩
theorem dX12_init_35 : Dc mX12_init 35 (.iconst 4) 1 36 := ⟨k_dX12_init_33.2.2.1, rfl⟩
theorem dX12_init_36 : Dc mX12_init 36 (.iconst 0) 1 37 := ⟨k_dX12_init_33.2.2.2.1, rfl⟩
theorem dX12_init_37 : Dc mX12_init 37 (.iastore) 1 38 := ⟨k_dX12_init_33.2.2.2.2.1, rfl⟩
theorem dX12_init_38 : Dc mX12_init 38 (.dup) 1 39 := ⟨k_dX12_init_33.2.2.2.2.2, rfl⟩
theorem k_dX12_init_39 : decode (mX12_init).2.1 39 = .ok ((.iconst 5), 1) ∧ decode (mX12_init).2.1 40 = .ok ((.iconst 0), 1) ∧ decode (mX12_init).2.1 41 = .ok ((.iastore), 1) ∧ decode (mX12_init).2.1 42 = .ok ((.dup), 1) ∧ decode (mX12_init).2.1 43 = .ok ((.bipush 6), 2) ∧ decode (mX12_init).2.1 45 = .ok ((.iconst 0), 1) := by decide +kernel
theorem dX12_init_39 : Dc mX12_init 39 (.iconst 5) 1 40 := ⟨k_dX12_init_39.1, rfl⟩
theorem dX12_init_40 : Dc mX12_init 40 (.iconst 0) 1 41 := ⟨k_dX12_init_39.2.1, rfl⟩
theorem dX12_init_41 : Dc mX12_init 41 (.iastore) 1 42 := ⟨k_dX12_init_39.2.2.1, rfl⟩
theorem dX12_init_42 : Dc mX12_init 42 (.dup) 1 43 := ⟨k_dX12_init_39.2.2.2.1, rfl⟩
theorem dX12_init_43 : Dc mX12_init 43 (.bipush 6) 2 45 := ⟨k_dX12_init_39.2.2.2.2.1, rfl⟩
theorem dX12_init_45 : Dc mX12_init 45 (.iconst 0) 1 46 := ⟨k_dX12_init_39.2.2.2.2.2, rfl⟩
theorem k_dX12_init_46 : decode (mX12_init).2.1 46 = .ok ((.iastore), 1) ∧ decode (mX12_init).2.1 47 = .ok ((.dup), 1) ∧ decode (mX12_init).2.1 48 = .ok ((.bipush 7), 2) ∧ decode (mX12_init).2.1 50 = .ok ((.bipush 99), 2) ∧ decode (mX12_init).2.1 52 = .ok ((.iastore), 1) ∧ decode (mX12_init).2.1 53 = .ok ((.dup), 1) := by decide +kernel
theorem dX12_init_46 : Dc mX12_init 46 (.iastore) 1 47 := ⟨k_dX12_init_46.1, rfl⟩
theorem dX12_init_47 : Dc mX12_init 47 (.dup) 1 48 := ⟨k_dX12_init_46.2.1, rfl⟩
theorem dX12_init_48 : Dc mX12_init 48 (.bipush 7) 2 50 := ⟨k_dX12_init_46.2.2.1, rfl⟩
theorem dX12_init_50 : Dc mX12_init 50 (.bipush 99) 2 52 := ⟨k_dX12_init_46.2.2.2.1, rfl⟩
theorem dX12_init_52 : Dc mX12_init 52 (.iastore) 1 53 := ⟨k_dX12_init_46.2.2.2.2.1, rfl⟩
theorem dX12_init_53 : Dc mX12_init 53 (.dup) 1 54 := ⟨k_dX12_init_46.2.2.2.2.2, rfl⟩
theorem k_dX12_init_54 : decode (mX12_init).2.1 54 = .ok ((.bipush 8), 2) ∧ decode (mX12_init).2.1 56 = .ok ((.iconst 0), 1) ∧ decode (mX12_init).2.1 57 = .ok ((.iastore), 1) ∧ decode (mX12_init).2.1 58 = .ok ((.dup), 1) ∧ decode (mX12_init).2.1 59 = .ok ((.bipush 9), 2) ∧ decode (mX12_init).2.1 61 = .ok ((.iconst 0), 1) := by decide +kernel
theorem dX12_init_54 : Dc mX12_init 54 (.bipush 8) 2 56 := ⟨k_dX12_init_54.1, rfl⟩
theorem dX12_init_56 : Dc mX12_init 56 (.iconst 0) 1 57 := ⟨k_dX12_init_54.2.1, rfl⟩
theorem dX12_init_57 : Dc mX12_init 57 (.iastore) 1 58 := ⟨k_dX12_init_54.2.2.1, rfl⟩
theorem dX12_init_58 : Dc mX12_init 58 (.dup) 1 59 := ⟨k_dX12_init_54.2.2.2.1, rfl⟩
theorem dX12_init_59 : Dc mX12_init 59 (.bipush 9) 2 61 := ⟨k_dX12_init_54.2.2.2.2.1, rfl⟩
theorem dX12_init_61 : Dc mX12_init 61 (.iconst 0) 1 62 := ⟨k_dX12_init_54.2.2.2.2.2, rfl⟩
theorem k_dX12_init_62 : decode (mX12_init).2.1 62 = .ok ((.iastore), 1) ∧ decode (mX12_init).2.1 63 = .ok ((.dup), 1) ∧ decode (mX12_init).2.1 64 = .ok ((.bipush 10), 2) ∧ decode (mX12_init).2.1 66 = .ok ((.iconst 0), 1) ∧ decode (mX12_init).2.1 67 = .ok ((.iastore), 1) ∧ decode (mX12_init).2.1 68 = .ok ((.dup), 1) := by decide +kernel
theorem dX12_init_62 : Dc mX12_init 62 (.iastore) 1 63 := ⟨k_dX12_init_62.1, rfl⟩
theorem dX12_init_63 : Dc mX12_init 63 (.dup) 1 64 := ⟨k_dX12_init_62.2.1, rfl⟩
theorem dX12_init_64 : Dc mX12_init 64 (.bipush 10) 2 66 := ⟨k_dX12_init_62.2.2.1, rfl⟩
theorem dX12_init_66 : Dc mX12_init 66 (.iconst 0) 1 67 := ⟨k_dX12_init_62.2.2.2.1, rfl⟩
theorem dX12_init_67 : Dc mX12_init 67 (.iastore) 1 68 := ⟨k_dX12_init_62.2.2.2.2.1, rfl⟩
theorem dX12_init_68 : Dc mX12_init 68 (.dup) 1 69 := ⟨k_dX12_init_62.2.2.2.2.2, rfl⟩
theorem k_dX12_init_69 : decode (mX12_init).2.1 69 = .ok ((.bipush 11), 2) ∧ decode (mX12_init).2.1 71 = .ok ((.iconst 0), 1) ∧ decode (mX12_init).2.1 72 = .ok ((.iastore), 1) ∧ decode (mX12_init).2.1 73 = .ok ((.dup), 1) ∧ decode (mX12_init).2.1 74 = .ok ((.bipush 12), 2) ∧ decode (mX12_init).2.1 76 = .ok ((.iconst 0), 1) := by decide +kernel
theorem dX12_init_69 : Dc mX12_init 69 (.bipush 11) 2 71 := ⟨k_dX12_init_69.1, rfl⟩
theorem dX12_init_71 : Dc mX12_init 71 (.iconst 0) 1 72 := ⟨k_dX12_init_69.2.1, rfl⟩
theorem dX12_init_72 : Dc mX12_init 72 (.iastore) 1 73 := ⟨k_dX12_init_69.2.2.1, rfl⟩
theorem dX12_init_73 : Dc mX12_init 73 (.dup) 1 74 := ⟨k_dX12_init_69.2.2.2.1, rfl⟩
theorem dX12_init_74 : Dc mX12_init 74 (.bipush 12) 2 76 := ⟨k_dX12_init_69.2.2.2.2.1, rfl⟩
theorem dX12_init_76 : Dc mX12_init 76 (.iconst 0) 1 77 := ⟨k_dX12_init_69.2.2.2.2.2, rfl⟩
theorem k_dX12_init_77 : decode (mX12_init).2.1 77 = .ok ((.iastore), 1) ∧ decode (mX12_init).2.1 78 = .ok ((.dup), 1) ∧ decode (mX12_init).2.1 79 = .ok ((.bipush 13), 2) ∧ decode (mX12_init).2.1 81 = .ok ((.iconst 0), 1) ∧ decode (mX12_init).2.1 82 = .ok ((.iastore), 1) ∧ decode (mX12_init).2.1 83 = .ok ((.dup), 1) := by decide +kernel
theorem dX12_init_77 : Dc mX12_init 77 (.iastore) 1 78 := ⟨k_dX12_init_77.1, rfl⟩
theorem dX12_init_78 : Dc mX12_init 78 (.dup) 1 79 := ⟨k_dX12_init_77.2.1, rfl⟩
theorem dX12_init_79 : Dc mX12_init 79 (.bipush 13) 2 81 := ⟨k_dX12_init_77.2.2.1, rfl⟩
theorem dX12_init_81 : Dc mX12_init 81 (.iconst 0) 1 82 := ⟨k_dX12_init_77.2.2.2.1, rfl⟩
theorem dX12_init_82 : Dc mX12_init 82 (.iastore) 1 83 := ⟨k_dX12_init_77.2.2.2.2.1, rfl⟩
theorem dX12_init_83 : Dc mX12_init 83 (.dup) 1 84 := ⟨k_dX12_init_77.2.2.2.2.2, rfl⟩
theorem k_dX12_init_84 : decode (mX12_init).2.1 84 = .ok ((.bipush 14), 2) ∧ decode (mX12_init).2.1 86 = .ok ((.iconst 0), 1) ∧ decode (mX12_init).2.1 87 = .ok ((.iastore), 1) ∧ decode (mX12_init).2.1 88 = .ok ((.dup), 1) ∧ decode (mX12_init).2.1 89 = .ok ((.bipush 15), 2) ∧ decode (mX12_init).2.1 91 = .ok ((.iconst 0), 1) := by decide +kernel
theorem dX12_init_84 : Dc mX12_init 84 (.bipush 14) 2 86 := ⟨k_dX12_init_84.1, rfl⟩
theorem dX12_init_86 : Dc mX12_init 86 (.iconst 0) 1 87 := ⟨k_dX12_init_84.2.1, rfl⟩
theorem dX12_init_87 : Dc mX12_init 87 (.iastore) 1 88 := ⟨k_dX12_init_84.2.2.1, rfl⟩
theorem dX12_init_88 : Dc mX12_init 88 (.dup) 1 89 := ⟨k_dX12_init_84.2.2.2.1, rfl⟩
theorem dX12_init_89 : Dc mX12_init 89 (.bipush 15) 2 91 := ⟨k_dX12_init_84.2.2.2.2.1, rfl⟩
theorem dX12_init_91 : Dc mX12_init 91 (.iconst 0) 1 92 := ⟨k_dX12_init_84.2.2.2.2.2, rfl⟩
theorem k_dX12_init_92 : decode (mX12_init).2.1 92 = .ok ((.iastore), 1) ∧ decode (mX12_init).2.1 93 = .ok ((.dup), 1) ∧ decode (mX12_init).2.1 94 = .ok ((.bipush 16), 2) ∧ decode (mX12_init).2.1 96 = .ok ((.iconst 0), 1) ∧ decode (mX12_init).2.1 97 = .ok ((.iastore), 1) ∧ decode (mX12_init).2.1 98 = .ok ((.dup), 1) := by decide +kernel
theorem dX12_init_92 : Dc mX12_init 92 (.iastore) 1 93 := ⟨k_dX12_init_92.1, rfl⟩
theorem dX12_init_93 : Dc mX12_init 93 (.dup) 1 94 := ⟨k_dX12_init_92.2.1, rfl⟩
theorem dX12_init_94 : Dc mX12_init 94 (.bipush 16) 2 96 := ⟨k_dX12_init_92.2.2.1, rfl⟩
theorem dX12_init_96 : Dc mX12_init 96 (.iconst 0) 1 97 := ⟨k_dX12_init_92.2.2.2.1, rfl⟩
theorem dX12_init_97 : Dc mX12_init 97 (.iastore) 1 98 := ⟨k_dX12_init_92.2.2.2.2.1, rfl⟩
theorem dX12_init_98 : Dc mX12_init 98 (.dup) 1 99 := ⟨k_dX12_init_92.2.2.2.2.2, rfl⟩
theorem k_dX12_init_99 : decode (mX12_init).2.1 99 = .ok ((.bipush 17), 2) ∧ decode (mX12_init).2.1 101 = .ok ((.bipush 99), 2) ∧ decode (mX12_init).2.1 103 = .ok ((.iastore), 1) ∧ decode (mX12_init).2.1 104 = .ok ((.dup), 1) ∧ decode (mX12_init).2.1 105 = .ok ((.bipush 18), 2) ∧ decode (mX12_init).2.1 107 = .ok ((.iconst 0), 1) := by decide +kernel
theorem dX12_init_99 : Dc mX12_init 99 (.bipush 17) 2 101 := ⟨k_dX12_init_99.1, rfl⟩
theorem dX12_init_101 : Dc mX12_init 101 (.bipush 99) 2 103 := ⟨k_dX12_init_99.2.1, rfl⟩
theorem dX12_init_103 : Dc mX12_init 103 (.iastore) 1 104 := ⟨k_dX12_init_99.2.2.1, rfl⟩
theorem dX12_init_104 : Dc mX12_init 104 (.dup) 1 105 := ⟨k_dX12_init_99.2.2.2.1, rfl⟩
theorem dX12_init_105 : Dc mX12_init 105 (.bipush 18) 2 107 := ⟨k_dX12_init_99.2.2.2.2.1, rfl⟩
theorem dX12_init_107 : Dc mX12_init 107 (.iconst 0) 1 108 := ⟨k_dX12_init_99.2.2.2.2.2, rfl⟩
theorem k_dX12_init_108 : decode (mX12_init).2.1 108 = .ok ((.iastore), 1) ∧ decode (mX12_init).2.1 109 = .ok ((.dup), 1) ∧ decode (mX12_init).2.1 110 = .ok ((.bipush 19), 2) ∧ decode (mX12_init).2.1 112 = .ok ((.iconst 0), 1) ∧ decode (mX12_init).2.1 113 = .ok ((.iastore), 1) ∧ decode (mX12_init).2.1 114 = .ok ((.putfield 13), 3) := by decide +kernel
theorem dX12_init_108 : Dc mX12_init 108 (.iastore) 1 109 := ⟨k_dX12_init_108.1, rfl⟩
theorem dX12_init_109 : Dc mX12_init 109 (.dup) 1 110 := ⟨k_dX12_init_108.2.1, rfl⟩
theorem dX12_init_110 : Dc mX12_init 110 (.bipush 19) 2 112 := ⟨k_dX12_init_108.2.2.1, rfl⟩
theorem dX12_init_112 : Dc mX12_init 112 (.iconst 0) 1 113 := ⟨k_dX12_init_108.2.2.2.1, rfl⟩
theorem dX12_init_113 : Dc mX12_init 113 (.iastore) 1 114 := ⟨k_dX12_init_108.2.2.2.2.1, rfl⟩
theorem dX12_init_114 : Dc mX12_init 114 (.putfield 13) 3 117 := ⟨k_dX12_init_108.2.2.2.2.2, rfl⟩
theorem k_dX12_init_117 : decode (mX12_init).2.1 117 = .ok ((.aload_n 0), 1) ∧ decode (mX12_init).2.1 118 = .ok ((.bipush 12), 2) ∧ decode (mX12_init).2.1 120 = .ok ((.newarray .int), 2) ∧ decode (mX12_init).2.1 122 = .ok ((.putfield 16), 3) ∧ decode (mX12_init).2.1 125 = .ok ((.aload_n 0), 1) ∧ decode (mX12_init).2.1 126 = .ok ((.bipush 12), 2) := by decide +kernel
theorem dX12_init_117 : Dc mX12_init 117 (.aload_n 0) 1 118 := ⟨k_dX12_init_117.1, rfl⟩
theorem dX12_init_118 : Dc mX12_init 118 (.bipush 12) 2 120 := ⟨k_dX12_init_117.2.1, rfl⟩
theorem dX12_init_120 : Dc mX12_init 120 (.newarray .int) 2 122 := ⟨k_dX12_init_117.2.2.1, rfl⟩
theorem dX12_init_122 : Dc mX12_init 122 (.putfield 16) 3 125 := ⟨k_dX12_init_117.2.2.2.1, rfl⟩
theorem dX12_init_125 : Dc mX12_init 125 (.aload_n 0) 1 126 := ⟨k_dX12_init_117.2.2.2.2.1, rfl⟩
theorem dX12_init_126 : Dc mX12_init 126 (.bipush 12) 2 128 := ⟨k_dX12_init_117.2.2.2.2.2, rfl⟩
theorem k_dX12_init_128 : decode (mX12_init).2.1 128 = .ok ((.newarray .int), 2) ∧ decode (mX12_init).2.1 130 = .ok ((.putfield 19), 3) ∧ decode (mX12_init).2.1 133 = .ok ((.aload_n 0), 1) ∧ decode (mX12_init).2.1 134 = .ok ((.bipush 12), 2) ∧ decode (mX12_init).2.1 136 = .ok ((.newarray .int), 2) ∧ decode (mX12_init).2.1 138 = .ok ((.putfield 22), 3) := by decide +kernel
theorem dX12_init_128 : Dc mX12_init 128 (.newarray .int) 2 130 := ⟨k_dX12_init_128.1, rfl⟩
theorem dX12_init_130 : Dc mX12_init 130 (.putfield 19) 3 133 := ⟨k_dX12_init_128.2.1, rfl⟩
theorem dX12_init_133 : Dc mX12_init 133 (.aload_n 0) 1 134 := ⟨k_dX12_init_128.2.2.1, rfl⟩
theorem dX12_init_134 : Dc mX12_init 134 (.bipush 12) 2 136 := ⟨k_dX12_init_128.2.2.2.1, rfl⟩
theorem dX12_init_136 : Dc mX12_init 136 (.newarray .int) 2 138 := ⟨k_dX12_init_128.2.2.2.2.1, rfl⟩
theorem dX12_init_138 : Dc mX12_init 138 (.putfield 22) 3 141 := ⟨k_dX12_init_128.2.2.2.2.2, rfl⟩
theorem k_dX12_init_141 : decode (mX12_init).2.1 141 = .ok ((.aload_n 0), 1) ∧ decode (mX12_init).2.1 142 = .ok ((.bipush 16), 2) ∧ decode (mX12_init).2.1 144 = .ok ((.newarray .int), 2) ∧ decode (mX12_init).2.1 146 = .ok ((.putfield 25), 3) ∧ decode (mX12_init).2.1 149 = .ok ((.aload_n 0), 1) ∧ decode (mX12_init).2.1 150 = .ok ((.bipush 16), 2) := by decide +kernel
theorem dX12_init_141 : Dc mX12_init 141 (.aload_n 0) 1 142 := ⟨k_dX12_init_141.1, rfl⟩
theorem dX12_init_142 : Dc mX12_init 142 (.bipush 16) 2 144 := ⟨k_dX12_init_141.2.1, rfl⟩
theorem dX12_init_144 : Dc mX12_init 144 (.newarray .int) 2 146 := ⟨k_dX12_init_141.2.2.1, rfl⟩
theorem dX12_init_146 : Dc mX12_init 146 (.putfield 25) 3 149 := ⟨k_dX12_init_141.2.2.2.1, rfl⟩
theorem dX12_init_149 : Dc mX12_init 149 (.aload_n 0) 1 150 := ⟨k_dX12_init_141.2.2.2.2.1, rfl⟩
theorem dX12_init_150 : Dc mX12_init 150 (.bipush 16) 2 152 := ⟨k_dX12_init_141.2.2.2.2.2, rfl⟩
theorem k_dX12_init_152 : decode (mX12_init).2.1 152 = .ok ((.newarray .int), 2) ∧ decode (mX12_init).2.1 154 = .ok ((.putfield 28), 3) ∧ decode (mX12_init).2.1 157 = .ok ((.aload_n 0), 1) ∧ decode (mX12_init).2.1 158 = .ok ((.bipush 16), 2) ∧ decode (mX12_init).2.1 160 = .ok ((.newarray .int), 2) ∧ decode (mX12_init).2.1 162 = .ok ((.putfield 31), 3) := by decide +kernel
theorem dX12_init_152 : Dc mX12_init 152 (.newarray .int) 2 154 := ⟨k_dX12_init_152.1, rfl⟩
theorem dX12_init_154 : Dc mX12_init 154 (.putfield 28) 3 157 := ⟨k_dX12_init_152.2.1, rfl⟩
theorem dX12_init_157 : Dc mX12_init 157 (.aload_n 0) 1 158 := ⟨k_dX12_init_152.2.2.1, rfl⟩
theorem dX12_init_158 : Dc mX12_init 158 (.bipush 16) 2 160 := ⟨k_dX12_init_152.2.2.2.1, rfl⟩
theorem dX12_init_160 : Dc mX12_init 160 (.newarray .int) 2 162 := ⟨k_dX12_init_152.2.2.2.2.1, rfl⟩
theorem dX12_init_162 : Dc mX12_init 162 (.putfield 31) 3 165 := ⟨k_dX12_init_152.2.2.2.2.2, rfl⟩
theorem k_dX12_init_165 : decode (mX12_init).2.1 165 = .ok ((.aload_n 0), 1) ∧ decode (mX12_init).2.1 166 = .ok ((.bipush 96), 2) ∧ decode (mX12_init).2.1 168 = .ok ((.newarray .int), 2) ∧ decode (mX12_init).2.1 170 = .ok ((.putfield 34), 3) ∧ decode (mX12_init).2.1 173 = .ok ((.aload_n 0), 1) ∧ decode (mX12_init).2.1 174 = .ok ((.bipush 8), 2) := by decide +kernel
theorem dX12_init_165 : Dc mX12_init 165 (.aload_n 0) 1 166 := ⟨k_dX12_init_165.1, rfl⟩
theorem dX12_init_166 : Dc mX12_init 166 (.bipush 96) 2 168 := ⟨k_dX12_init_165.2.1, rfl⟩
theorem dX12_init_168 : Dc mX12_init 168 (.newarray .int) 2 170 := ⟨k_dX12_init_165.2.2.1, rfl⟩
theorem dX12_init_170 : Dc mX12_init 170 (.putfield 34) 3 173 := ⟨k_dX12_init_165.2.2.2.1, rfl⟩
theorem dX12_init_173 : Dc mX12_init 173 (.aload_n 0) 1 174 := ⟨k_dX12_init_165.2.2.2.2.1, rfl⟩
theorem dX12_init_174 : Dc mX12_init 174 (.bipush 8) 2 176 := ⟨k_dX12_init_165.2.2.2.2.2, rfl⟩
theorem k_dX12_init_176 : decode (mX12_init).2.1 176 = .ok ((.newarray .int), 2) ∧ decode (mX12_init).2.1 178 = .ok ((.putfield 37), 3) ∧ decode (mX12_init).2.1 181 = .ok ((.aload_n 0), 1) ∧ decode (mX12_init).2.1 182 = .ok ((.bipush 8), 2) ∧ decode (mX12_init).2.1 184 = .ok ((.newarray .int), 2) ∧ decode (mX12_init).2.1 186 = .ok ((.putfield 40), 3) := by decide +kernel
theorem dX12_init_176 : Dc mX12_init 176 (.newarray .int) 2 178 := ⟨k_dX12_init_176.1, rfl⟩
theorem dX12_init_178 : Dc mX12_init 178 (.putfield 37) 3 181 := ⟨k_dX12_init_176.2.1, rfl⟩
theorem dX12_init_181 : Dc mX12_init 181 (.aload_n 0) 1 182 := ⟨k_dX12_init_176.2.2.1, rfl⟩
theorem dX12_init_182 : Dc mX12_init 182 (.bipush 8) 2 184 := ⟨k_dX12_init_176.2.2.2.1, rfl⟩
theorem dX12_init_184 : Dc mX12_init 184 (.newarray .int) 2 186 := ⟨k_dX12_init_176.2.2.2.2.1, rfl⟩
theorem dX12_init_186 : Dc mX12_init 186 (.putfield 40) 3 189 := ⟨k_dX12_init_176.2.2.2.2.2, rfl⟩
theorem k_dX12_init_189 : decode (mX12_init).2.1 189 = .ok ((.aload_n 0), 1) ∧ decode (mX12_init).2.1 190 = .ok ((.bipush 8), 2) ∧ decode (mX12_init).2.1 192 = .ok ((.newarray .int), 2) ∧ decode (mX12_init).2.1 194 = .ok ((.putfield 43), 3) ∧ decode (mX12_init).2.1 197 = .ok ((.aload_n 0), 1) ∧ decode (mX12_init).2.1 198 = .ok ((.bipush 8), 2) := by decide +kernel
theorem dX12_init_189 : Dc mX12_init 189 (.aload_n 0) 1 190 := ⟨k_dX12_init_189.1, rfl⟩
theorem dX12_init_190 : Dc mX12_init 190 (.bipush 8) 2 192 := ⟨k_dX12_init_189.2.1, rfl⟩
theorem dX12_init_192 : Dc mX12_init 192 (.newarray .int) 2 194 := ⟨k_dX12_init_189.2.2.1, rfl⟩
theorem dX12_init_194 : Dc mX12_init 194 (.putfield 43) 3 197 := ⟨k_dX12_init_189.2.2.2.1, rfl⟩
theorem dX12_init_197 : Dc mX12_init 197 (.aload_n 0) 1 198 := ⟨k_dX12_init_189.2.2.2.2.1, rfl⟩
theorem dX12_init_198 : Dc mX12_init 198 (.bipush 8) 2 200 := ⟨k_dX12_init_189.2.2.2.2.2, rfl⟩
theorem k_dX12_init_200 : decode (mX12_init).2.1 200 = .ok ((.newarray .int), 2) ∧ decode (mX12_init).2.1 202 = .ok ((.putfield 46), 3) ∧ decode (mX12_init).2.1 205 = .ok ((.aload_n 0), 1) ∧ decode (mX12_init).2.1 206 = .ok ((.bipush 8), 2) ∧ decode (mX12_init).2.1 208 = .ok ((.newarray .int), 2) ∧ decode (mX12_init).2.1 210 = .ok ((.putfield 49), 3) := by decide +kernel
theorem dX12_init_200 : Dc mX12_init 200 (.newarray .int) 2 202 := ⟨k_dX12_init_200.1, rfl⟩
theorem dX12_init_202 : Dc mX12_init 202 (.putfield 46) 3 205 := ⟨k_dX12_init_200.2.1, rfl⟩
theorem dX12_init_205 : Dc mX12_init 205 (.aload_n 0) 1 206 := ⟨k_dX12_init_200.2.2.1, rfl⟩
theorem dX12_init_206 : Dc mX12_init 206 (.bipush 8) 2 208 := ⟨k_dX12_init_200.2.2.2.1, rfl⟩
theorem dX12_init_208 : Dc mX12_init 208 (.newarray .int) 2 210 := ⟨k_dX12_init_200.2.2.2.2.1, rfl⟩
theorem dX12_init_210 : Dc mX12_init 210 (.putfield 49) 3 213 := ⟨k_dX12_init_200.2.2.2.2.2, rfl⟩
theorem k_dX12_init_213 : decode (mX12_init).2.1 213 = .ok ((.aload_n 0), 1) ∧ decode (mX12_init).2.1 214 = .ok ((.bipush 8), 2) ∧ decode (mX12_init).2.1 216 = .ok ((.newarray .int), 2) ∧ decode (mX12_init).2.1 218 = .ok ((.putfield 52), 3) ∧ decode (mX12_init).2.1 221 = .ok ((.aload_n 0), 1) ∧ decode (mX12_init).2.1 222 = .ok ((.bipush 6), 2) := by decide +kernel
theorem dX12_init_213 : Dc mX12_init 213 (.aload_n 0) 1 214 := ⟨k_dX12_init_213.1, rfl⟩
theorem dX12_init_214 : Dc mX12_init 214 (.bipush 8) 2 216 := ⟨k_dX12_init_213.2.1, rfl⟩
theorem dX12_init_216 : Dc mX12_init 216 (.newarray .int) 2 218 := ⟨k_dX12_init_213.2.2.1, rfl⟩
theorem dX12_init_218 : Dc mX12_init 218 (.putfield 52) 3 221 := ⟨k_dX12_init_213.2.2.2.1, rfl⟩
theorem dX12_init_221 : Dc mX12_init 221 (.aload_n 0) 1 222 := ⟨k_dX12_init_213.2.2.2.2.1, rfl⟩
theorem dX12_init_222 : Dc mX12_init 222 (.bipush 6) 2 224 := ⟨k_dX12_init_213.2.2.2.2.2, rfl⟩
theorem k_dX12_init_224 : decode (mX12_init).2.1 224 = .ok ((.newarray .int), 2) ∧ decode (mX12_init).2.1 226 = .ok ((.putfield 55), 3) ∧ decode (mX12_init).2.1 229 = .ok ((.aload_n 0), 1) ∧ decode (mX12_init).2.1 230 = .ok ((.bipush 6), 2) ∧ decode (mX12_init).2.1 232 = .ok ((.newarray .int), 2) ∧ decode (mX12_init).2.1 234 = .ok ((.putfield 58), 3) := by decide +kernel
theorem dX12_init_224 : Dc mX12_init 224 (.newarray .int) 2 226 := ⟨k_dX12_init_224.1, rfl⟩
theorem dX12_init_226 : Dc mX12_init 226 (.putfield 55) 3 229 := ⟨k_dX12_init_224.2.1, rfl⟩
theorem dX12_init_229 : Dc mX12_init 229 (.aload_n 0) 1 230 := ⟨k_dX12_init_224.2.2.1, rfl⟩
theorem dX12_init_230 : Dc mX12_init 230 (.bipush 6) 2 232 := ⟨k_dX12_init_224.2.2.2.1, rfl⟩
theorem dX12_init_232 : Dc mX12_init 232 (.newarray .int) 2 234 := ⟨k_dX12_init_224.2.2.2.2.1, rfl⟩
theorem dX12_init_234 : Dc mX12_init 234 (.putfield 58) 3 237 := ⟨k_dX12_init_224.2.2.2.2.2, rfl⟩
theorem k_dX12_init_237 : decode (mX12_init).2.1 237 = .ok ((.aload_n 0), 1) ∧ decode (mX12_init).2.1 238 = .ok ((.bipush 6), 2) ∧ decode (mX12_init).2.1 240 = .ok ((.newarray .int), 2) ∧ decode (mX12_init).2.1 242 = .ok ((.putfield 61), 3) ∧ decode (mX12_init).2.1 245 = .ok ((.aload_n 0), 1) ∧ decode (mX12_init).2.1 246 = .ok ((.bipush 6), 2) := by decide +kernel
theorem dX12_init_237 : Dc mX12_init 237 (.aload_n 0) 1 238 := ⟨k_dX12_init_237.1, rfl⟩
theorem dX12_init_238 : Dc mX12_init 238 (.bipush 6) 2 240 := ⟨k_dX12_init_237.2.1, rfl⟩
theorem dX12_init_240 : Dc mX12_init 240 (.newarray .int) 2 242 := ⟨k_dX12_init_237.2.2.1, rfl⟩
theorem dX12_init_242 : Dc mX12_init 242 (.putfield 61) 3 245 := ⟨k_dX12_init_237.2.2.2.1, rfl⟩
theorem dX12_init_245 : Dc mX12_init 245 (.aload_n 0) 1 246 := ⟨k_dX12_init_237.2.2.2.2.1, rfl⟩
theorem dX12_init_246 : Dc mX12_init 246 (.bipush 6) 2 248 := ⟨k_dX12_init_237.2.2.2.2.2, rfl⟩
theorem k_dX12_init_248 : decode (mX12_init).2.1 248 = .ok ((.newarray .int), 2) ∧ decode (mX12_init).2.1 250 = .ok ((.putfield 64), 3) ∧ decode (mX12_init).2.1 253 = .ok ((.aload_n 0), 1) ∧ decode (mX12_init).2.1 254 = .ok ((.sipush 128), 3) ∧ decode (mX12_init).2.1 257 = .ok ((.newarray .int), 2) ∧ decode (mX12_init).2.1 259 = .ok ((.putfield 67), 3) := by decide +kernel
theorem dX12_init_248 : Dc mX12_init 248 (.newarray .int) 2 250 := ⟨k_dX12_init_248.1, rfl⟩
theorem dX12_init_250 : Dc mX12_init 250 (.putfield 64) 3 253 := ⟨k_dX12_init_248.2.1, rfl⟩
theorem dX12_init_253 : Dc mX12_init 253 (.aload_n 0) 1 254 := ⟨k_dX12_init_248.2.2.1, rfl⟩
theorem dX12_init_254 : Dc mX12_init 254 (.sipush 128) 3 257 := ⟨k_dX12_init_248.2.2.2.1, rfl⟩
theorem dX12_init_257 : Dc mX12_init 257 (.newarray .int) 2 259 := ⟨k_dX12_init_248.2.2.2.2.1, rfl⟩
theorem dX12_init_259 : Dc mX12_init 259 (.putfield 67) 3 262 := ⟨k_dX12_init_248.2.2.2.2.2, rfl⟩
theorem k_dX12_init_262 : decode (mX12_init).2.1 262 = .ok ((.aload_n 0), 1) ∧ decode (mX12_init).2.1 263 = .ok ((.sipush 128), 3) ∧ decode (mX12_init).2.1 266 = .ok ((.newarray .int), 2) ∧ decode (mX12_init).2.1 268 = .ok ((.putfield 70), 3) ∧ decode (mX12_init).2.1 271 = .ok ((.aload_n 0), 1) ∧ decode (mX12_init).2.1 272 = .ok ((.iconst (-1)), 1) := by decide +kernel
theorem dX12_init_262 : Dc mX12_init 262 (.aload_n 0) 1 263 := ⟨k_dX12_init_262.1, rfl⟩
theorem dX12_init_263 : Dc mX12_init 263 (.sipush 128) 3 266 := ⟨k_dX12_init_262.2.1, rfl⟩
theorem dX12_init_266 : Dc mX12_init 266 (.newarray .int) 2 268 := ⟨k_dX12_init_262.2.2.1, rfl⟩
theorem dX12_init_268 : Dc mX12_init 268 (.putfield 70) 3 271 := ⟨k_dX12_init_262.2.2.2.1, rfl⟩
theorem dX12_init_271 : Dc mX12_init 271 (.aload_n 0) 1 272 := ⟨k_dX12_init_262.2.2.2.2.1, rfl⟩
theorem dX12_init_272 : Dc mX12_init 272 (.iconst (-1)) 1 273 := ⟨k_dX12_init_262.2.2.2.2.2, rfl⟩
theorem k_dX12_init_273 : decode (mX12_init).2.1 273 = .ok ((.putfield 73), 3) ∧ decode (mX12_init).2.1 276 = .ok ((.aload_n 0), 1) ∧ decode (mX12_init).2.1 277 = .ok ((.bipush 7), 2) ∧ decode (mX12_init).2.1 279 = .ok ((.newarray .long), 2) ∧ decode (mX12_init).2.1 281 = .ok ((.putfield 77), 3) ∧ decode (mX12_init).2.1 284 = .ok ((.aload_n 0), 1) := by decide +kernel
theorem dX12_init_273 : Dc mX12_init 273 (.putfield 73) 3 276 := ⟨k_dX12_init_273.1, rfl⟩
theorem dX12_init_276 : Dc mX12_init 276 (.aload_n 0) 1 277 := ⟨k_dX12_init_273.2.1, rfl⟩
theorem dX12_init_277 : Dc mX12_init 277 (.bipush 7) 2 279 := ⟨k_dX12_init_273.2.2.1, rfl⟩
theorem dX12_init_279 : Dc mX12_init 279 (.newarray .long) 2 281 := ⟨k_dX12_init_273.2.2.2.1, rfl⟩
theorem dX12_init_281 : Dc mX12_init 281 (.putfield 77) 3 284 := ⟨k_dX12_init_273.2.2.2.2.1, rfl⟩
theorem dX12_init_284 : Dc mX12_init 284 (.aload_n 0) 1 285 := ⟨k_dX12_init_273.2.2.2.2.2, rfl⟩
theorem k_dX12_init_285 : decode (mX12_init).2.1 285 = .ok ((.bipush 64), 2) ∧ decode (mX12_init).2.1 287 = .ok ((.newarray .long), 2) ∧ decode (mX12_init).2.1 289 = .ok ((.putfield 81), 3) ∧ decode (mX12_init).2.1 292 = .ok ((.aload_n 0), 1) ∧ decode (mX12_init).2.1 293 = .ok ((.bipush 23), 2) ∧ decode (mX12_init).2.1 295 = .ok ((.newarray .int), 2) := by decide +kernel
theorem dX12_init_285 : Dc mX12_init 285 (.bipush 64) 2 287 := ⟨k_dX12_init_285.1, rfl⟩
theorem dX12_init_287 : Dc mX12_init 287 (.newarray .long) 2 289 := ⟨k_dX12_init_285.2.1, rfl⟩
theorem dX12_init_289 : Dc mX12_init 289 (.putfield 81) 3 292 := ⟨k_dX12_init_285.2.2.1, rfl⟩
theorem dX12_init_292 : Dc mX12_init 292 (.aload_n 0) 1 293 := ⟨k_dX12_init_285.2.2.2.1, rfl⟩
theorem dX12_init_293 : Dc mX12_init 293 (.bipush 23) 2 295 := ⟨k_dX12_init_285.2.2.2.2.1, rfl⟩
theorem dX12_init_295 : Dc mX12_init 295 (.newarray .int) 2 297 := ⟨k_dX12_init_285.2.2.2.2.2, rfl⟩
theorem k_dX12_init_297 : decode (mX12_init).2.1 297 = .ok ((.putfield 84), 3) ∧ decode (mX12_init).2.1 300 = .ok ((.aload_n 0), 1) ∧ decode (mX12_init).2.1 301 = .ok ((.bipush 23), 2) ∧ decode (mX12_init).2.1 303 = .ok ((.newarray .int), 2) ∧ decode (mX12_init).2.1 305 = .ok ((.putfield 87), 3) ∧ decode (mX12_init).2.1 308 = .ok ((.aload_n 0), 1) := by decide +kernel
theorem dX12_init_297 : Dc mX12_init 297 (.putfield 84) 3 300 := ⟨k_dX12_init_297.1, rfl⟩
theorem dX12_init_300 : Dc mX12_init 300 (.aload_n 0) 1 301 := ⟨k_dX12_init_297.2.1, rfl⟩
theorem dX12_init_301 : Dc mX12_init 301 (.bipush 23) 2 303 := ⟨k_dX12_init_297.2.2.1, rfl⟩
theorem dX12_init_303 : Dc mX12_init 303 (.newarray .int) 2 305 := ⟨k_dX12_init_297.2.2.2.1, rfl⟩
theorem dX12_init_305 : Dc mX12_init 305 (.putfield 87) 3 308 := ⟨k_dX12_init_297.2.2.2.2.1, rfl⟩
theorem dX12_init_308 : Dc mX12_init 308 (.aload_n 0) 1 309 := ⟨k_dX12_init_297.2.2.2.2.2, rfl⟩
theorem k_dX12_init_309 : decode (mX12_init).2.1 309 = .ok ((.bipush 23), 2) ∧ decode (mX12_init).2.1 311 = .ok ((.newarray .int), 2) ∧ decode (mX12_init).2.1 313 = .ok ((.putfield 90), 3) ∧ decode (mX12_init).2.1 316 = .ok ((.aload_n 0), 1) ∧ decode (mX12_init).2.1 317 = .ok ((.bipush 23), 2) ∧ decode (mX12_init).2.1 319 = .ok ((.newarray .int), 2) := by decide +kernel
theorem dX12_init_309 : Dc mX12_init 309 (.bipush 23) 2 311 := ⟨k_dX12_init_309.1, rfl⟩
theorem dX12_init_311 : Dc mX12_init 311 (.newarray .int) 2 313 := ⟨k_dX12_init_309.2.1, rfl⟩
theorem dX12_init_313 : Dc mX12_init 313 (.putfield 90) 3 316 := ⟨k_dX12_init_309.2.2.1, rfl⟩
theorem dX12_init_316 : Dc mX12_init 316 (.aload_n 0) 1 317 := ⟨k_dX12_init_309.2.2.2.1, rfl⟩
theorem dX12_init_317 : Dc mX12_init 317 (.bipush 23) 2 319 := ⟨k_dX12_init_309.2.2.2.2.1, rfl⟩
theorem dX12_init_319 : Dc mX12_init 319 (.newarray .int) 2 321 := ⟨k_dX12_init_309.2.2.2.2.2, rfl⟩
theorem k_dX12_init_321 : decode (mX12_init).2.1 321 = .ok ((.putfield 93), 3) ∧ decode (mX12_init).2.1 324 = .ok ((.aload_n 0), 1) ∧ decode (mX12_init).2.1 325 = .ok ((.bipush 23), 2) ∧ decode (mX12_init).2.1 327 = .ok ((.newarray .int), 2) ∧ decode (mX12_init).2.1 329 = .ok ((.putfield 96), 3) ∧ decode (mX12_init).2.1 332 = .ok ((.aload_n 0), 1) := by decide +kernel
theorem dX12_init_321 : Dc mX12_init 321 (.putfield 93) 3 324 := ⟨k_dX12_init_321.1, rfl⟩
theorem dX12_init_324 : Dc mX12_init 324 (.aload_n 0) 1 325 := ⟨k_dX12_init_321.2.1, rfl⟩
theorem dX12_init_325 : Dc mX12_init 325 (.bipush 23) 2 327 := ⟨k_dX12_init_321.2.2.1, rfl⟩
theorem dX12_init_327 : Dc mX12_init 327 (.newarray .int) 2 329 := ⟨k_dX12_init_321.2.2.2.1, rfl⟩
theorem dX12_init_329 : Dc mX12_init 329 (.putfield 96) 3 332 := ⟨k_dX12_init_321.2.2.2.2.1, rfl⟩
theorem dX12_init_332 : Dc mX12_init 332 (.aload_n 0) 1 333 := ⟨k_dX12_init_321.2.2.2.2.2, rfl⟩
theorem k_dX12_init_333 : decode (mX12_init).2.1 333 = .ok ((.bipush 23), 2) ∧ decode (mX12_init).2.1 335 = .ok ((.newarray .int), 2) ∧ decode (mX12_init).2.1 337 = .ok ((.putfield 99), 3) ∧ decode (mX12_init).2.1 340 = .ok ((.aload_n 0), 1) ∧ decode (mX12_init).2.1 341 = .ok ((.sipush 138), 3) ∧ decode (mX12_init).2.1 344 = .ok ((.newarray .int), 2) := by decide +kernel
theorem dX12_init_333 : Dc mX12_init 333 (.bipush 23) 2 335 := ⟨k_dX12_init_333.1, rfl⟩
theorem dX12_init_335 : Dc mX12_init 335 (.newarray .int) 2 337 := ⟨k_dX12_init_333.2.1, rfl⟩
theorem dX12_init_337 : Dc mX12_init 337 (.putfield 99) 3 340 := ⟨k_dX12_init_333.2.2.1, rfl⟩
theorem dX12_init_340 : Dc mX12_init 340 (.aload_n 0) 1 341 := ⟨k_dX12_init_333.2.2.2.1, rfl⟩
theorem dX12_init_341 : Dc mX12_init 341 (.sipush 138) 3 344 := ⟨k_dX12_init_333.2.2.2.2.1, rfl⟩
theorem dX12_init_344 : Dc mX12_init 344 (.newarray .int) 2 346 := ⟨k_dX12_init_333.2.2.2.2.2, rfl⟩
theorem k_dX12_init_346 : decode (mX12_init).2.1 346 = .ok ((.putfield 102), 3) ∧ decode (mX12_init).2.1 349 = .ok ((.aload_n 0), 1) ∧ decode (mX12_init).2.1 350 = .ok ((.sipush 138), 3) ∧ decode (mX12_init).2.1 353 = .ok ((.newarray .int), 2) ∧ decode (mX12_init).2.1 355 = .ok ((.putfield 105), 3) ∧ decode (mX12_init).2.1 358 = .ok ((.aload_n 0), 1) := by decide +kernel
theorem dX12_init_346 : Dc mX12_init 346 (.putfield 102) 3 349 := ⟨k_dX12_init_346.1, rfl⟩
theorem dX12_init_349 : Dc mX12_init 349 (.aload_n 0) 1 350 := ⟨k_dX12_init_346.2.1, rfl⟩
theorem dX12_init_350 : Dc mX12_init 350 (.sipush 138) 3 353 := ⟨k_dX12_init_346.2.2.1, rfl⟩
theorem dX12_init_353 : Dc mX12_init 353 (.newarray .int) 2 355 := ⟨k_dX12_init_346.2.2.2.1, rfl⟩
theorem dX12_init_355 : Dc mX12_init 355 (.putfield 105) 3 358 := ⟨k_dX12_init_346.2.2.2.2.1, rfl⟩
theorem dX12_init_358 : Dc mX12_init 358 (.aload_n 0) 1 359 := ⟨k_dX12_init_346.2.2.2.2.2, rfl⟩
theorem k_dX12_init_359 : decode (mX12_init).2.1 359 = .ok ((.sipush 184), 3) ∧ decode (mX12_init).2.1 362 = .ok ((.newarray .int), 2) ∧ decode (mX12_init).2.1 364 = .ok ((.putfield 108), 3) ∧ decode (mX12_init).2.1 367 = .ok ((.aload_n 0), 1) ∧ decode (mX12_init).2.1 368 = .ok ((.sipush 184), 3) ∧ decode (mX12_init).2.1 371 = .ok ((.newarray .int), 2) := by decide +kernel
theorem dX12_init_359 : Dc mX12_init 359 (.sipush 184) 3 362 := ⟨k_dX12_init_359.1, rfl⟩
theorem dX12_init_362 : Dc mX12_init 362 (.newarray .int) 2 364 := ⟨k_dX12_init_359.2.1, rfl⟩
theorem dX12_init_364 : Dc mX12_init 364 (.putfield 108) 3 367 := ⟨k_dX12_init_359.2.2.1, rfl⟩
theorem dX12_init_367 : Dc mX12_init 367 (.aload_n 0) 1 368 := ⟨k_dX12_init_359.2.2.2.1, rfl⟩
theorem dX12_init_368 : Dc mX12_init 368 (.sipush 184) 3 371 := ⟨k_dX12_init_359.2.2.2.2.1, rfl⟩
theorem dX12_init_371 : Dc mX12_init 371 (.newarray .int) 2 373 := ⟨k_dX12_init_359.2.2.2.2.2, rfl⟩
theorem k_dX12_init_373 : decode (mX12_init).2.1 373 = .ok ((.putfield 111), 3) ∧ decode (mX12_init).2.1 376 = .ok ((.aload_n 0), 1) ∧ decode (mX12_init).2.1 377 = .ok ((.sipush 184), 3) ∧ decode (mX12_init).2.1 380 = .ok ((.newarray .int), 2) ∧ decode (mX12_init).2.1 382 = .ok ((.putfield 114), 3) ∧ decode (mX12_init).2.1 385 = .ok ((.aload_n 0), 1) := by decide +kernel
theorem dX12_init_373 : Dc mX12_init 373 (.putfield 111) 3 376 := ⟨k_dX12_init_373.1, rfl⟩
theorem dX12_init_376 : Dc mX12_init 376 (.aload_n 0) 1 377 := ⟨k_dX12_init_373.2.1, rfl⟩
theorem dX12_init_377 : Dc mX12_init 377 (.sipush 184) 3 380 := ⟨k_dX12_init_373.2.2.1, rfl⟩
theorem dX12_init_380 : Dc mX12_init 380 (.newarray .int) 2 382 := ⟨k_dX12_init_373.2.2.2.1, rfl⟩
theorem dX12_init_382 : Dc mX12_init 382 (.putfield 114) 3 385 := ⟨k_dX12_init_373.2.2.2.2.1, rfl⟩
theorem dX12_init_385 : Dc mX12_init 385 (.aload_n 0) 1 386 := ⟨k_dX12_init_373.2.2.2.2.2, rfl⟩
theorem k_dX12_init_386 : decode (mX12_init).2.1 386 = .ok ((.sipush 1104), 3) ∧ decode (mX12_init).2.1 389 = .ok ((.newarray .int), 2) ∧ decode (mX12_init).2.1 391 = .ok ((.putfield 117), 3) ∧ decode (mX12_init).2.1 394 = .ok ((.aload_n 0), 1) ∧ decode (mX12_init).2.1 395 = .ok ((.bipush 92), 2) ∧ decode (mX12_init).2.1 397 = .ok ((.newarray .int), 2) := by decide +kernel
theorem dX12_init_386 : Dc mX12_init 386 (.sipush 1104) 3 389 := ⟨k_dX12_init_386.1, rfl⟩
theorem dX12_init_389 : Dc mX12_init 389 (.newarray .int) 2 391 := ⟨k_dX12_init_386.2.1, rfl⟩
theorem dX12_init_391 : Dc mX12_init 391 (.putfield 117) 3 394 := ⟨k_dX12_init_386.2.2.1, rfl⟩
theorem dX12_init_394 : Dc mX12_init 394 (.aload_n 0) 1 395 := ⟨k_dX12_init_386.2.2.2.1, rfl⟩
theorem dX12_init_395 : Dc mX12_init 395 (.bipush 92) 2 397 := ⟨k_dX12_init_386.2.2.2.2.1, rfl⟩
theorem dX12_init_397 : Dc mX12_init 397 (.newarray .int) 2 399 := ⟨k_dX12_init_386.2.2.2.2.2, rfl⟩
theorem k_dX12_init_399 : decode (mX12_init).2.1 399 = .ok ((.putfield 120), 3) ∧ decode (mX12_init).2.1 402 = .ok ((.aload_n 0), 1) ∧ decode (mX12_init).2.1 403 = .ok ((.bipush 92), 2) ∧ decode (mX12_init).2.1 405 = .ok ((.newarray .int), 2) ∧ decode (mX12_init).2.1 407 = .ok ((.putfield 123), 3) ∧ decode (mX12_init).2.1 410 = .ok ((.aload_n 0), 1) := by decide +kernel
theorem dX12_init_399 : Dc mX12_init 399 (.putfield 120) 3 402 := ⟨k_dX12_init_399.1, rfl⟩
theorem dX12_init_402 : Dc mX12_init 402 (.aload_n 0) 1 403 := ⟨k_dX12_init_399.2.1, rfl⟩
theorem dX12_init_403 : Dc mX12_init 403 (.bipush 92) 2 405 := ⟨k_dX12_init_399.2.2.1, rfl⟩
theorem dX12_init_405 : Dc mX12_init 405 (.newarray .int) 2 407 := ⟨k_dX12_init_399.2.2.2.1, rfl⟩
theorem dX12_init_407 : Dc mX12_init 407 (.putfield 123) 3 410 := ⟨k_dX12_init_399.2.2.2.2.1, rfl⟩
theorem dX12_init_410 : Dc mX12_init 410 (.aload_n 0) 1 411 := ⟨k_dX12_init_399.2.2.2.2.2, rfl⟩
theorem k_dX12_init_411 : decode (mX12_init).2.1 411 = .ok ((.iconst (-1)), 1) ∧ decode (mX12_init).2.1 412 = .ok ((.putfield 126), 3) ∧ decode (mX12_init).2.1 415 = .ok ((.aload_n 0), 1) ∧ decode (mX12_init).2.1 416 = .ok ((.iconst (-1)), 1) ∧ decode (mX12_init).2.1 417 = .ok ((.putfield 129), 3) ∧ decode (mX12_init).2.1 420 = .ok ((.aload_n 0), 1) := by decide +kernel
theorem dX12_init_411 : Dc mX12_init 411 (.iconst (-1)) 1 412 := ⟨k_dX12_init_411.1, rfl⟩
theorem dX12_init_412 : Dc mX12_init 412 (.putfield 126) 3 415 := ⟨k_dX12_init_411.2.1, rfl⟩
theorem dX12_init_415 : Dc mX12_init 415 (.aload_n 0) 1 416 := ⟨k_dX12_init_411.2.2.1, rfl⟩
theorem dX12_init_416 : Dc mX12_init 416 (.iconst (-1)) 1 417 := ⟨k_dX12_init_411.2.2.2.1, rfl⟩
theorem dX12_init_417 : Dc mX12_init 417 (.putfield 129) 3 420 := ⟨k_dX12_init_411.2.2.2.2.1, rfl⟩
theorem dX12_init_420 : Dc mX12_init 420 (.aload_n 0) 1 421 := ⟨k_dX12_init_411.2.2.2.2.2, rfl⟩
theorem k_dX12_init_421 : decode (mX12_init).2.1 421 = .ok ((.bipush 6), 2) ∧ decode (mX12_init).2.1 423 = .ok ((.newarray .int), 2) ∧ decode (mX12_init).2.1 425 = .ok ((.putfield 132), 3) ∧ decode (mX12_init).2.1 428 = .ok ((.aload_n 0), 1) ∧ decode (mX12_init).2.1 429 = .ok ((.bipush 6), 2) ∧ decode (mX12_init).2.1 431 = .ok ((.newarray .int), 2) := by decide +kernel
theorem dX12_init_421 : Dc mX12_init 421 (.bipush 6) 2 423 := ⟨k_dX12_init_421.1, rfl⟩
theorem dX12_init_423 : Dc mX12_init 423 (.newarray .int) 2 425 := ⟨k_dX12_init_421.2.1, rfl⟩
theorem dX12_init_425 : Dc mX12_init 425 (.putfield 132) 3 428 := ⟨k_dX12_init_421.2.2.1, rfl⟩
theorem dX12_init_428 : Dc mX12_init 428 (.aload_n 0) 1 429 := ⟨k_dX12_init_421.2.2.2.1, rfl⟩
theorem dX12_init_429 : Dc mX12_init 429 (.bipush 6) 2 431 := ⟨k_dX12_init_421.2.2.2.2.1, rfl⟩
theorem dX12_init_431 : Dc mX12_init 431 (.newarray .int) 2 433 := ⟨k_dX12_init_421.2.2.2.2.2, rfl⟩
theorem k_dX12_init_433 : decode (mX12_init).2.1 433 = .ok ((.putfield 135), 3) ∧ decode (mX12_init).2.1 436 = .ok ((.aload_n 0), 1) ∧ decode (mX12_init).2.1 437 = .ok ((.iconst 4), 1) ∧ decode (mX12_init).2.1 438 = .ok ((.newarray .int), 2) ∧ decode (mX12_init).2.1 440 = .ok ((.putfield 138), 3) ∧ decode (mX12_init).2.1 443 = .ok ((.aload_n 0), 1) := by decide +kernel
theorem dX12_init_433 : Dc mX12_init 433 (.putfield 135) 3 436 := ⟨k_dX12_init_433.1, rfl⟩
theorem dX12_init_436 : Dc mX12_init 436 (.aload_n 0) 1 437 := ⟨k_dX12_init_433.2.1, rfl⟩
theorem dX12_init_437 : Dc mX12_init 437 (.iconst 4) 1 438 := ⟨k_dX12_init_433.2.2.1, rfl⟩
theorem dX12_init_438 : Dc mX12_init 438 (.newarray .int) 2 440 := ⟨k_dX12_init_433.2.2.2.1, rfl⟩
theorem dX12_init_440 : Dc mX12_init 440 (.putfield 138) 3 443 := ⟨k_dX12_init_433.2.2.2.2.1, rfl⟩
theorem dX12_init_443 : Dc mX12_init 443 (.aload_n 0) 1 444 := ⟨k_dX12_init_433.2.2.2.2.2, rfl⟩
theorem k_dX12_init_444 : decode (mX12_init).2.1 444 = .ok ((.iconst 4), 1) ∧ decode (mX12_init).2.1 445 = .ok ((.newarray .int), 2) ∧ decode (mX12_init).2.1 447 = .ok ((.putfield 141), 3) ∧ decode (mX12_init).2.1 450 = .ok ((.aload_n 0), 1) ∧ decode (mX12_init).2.1 451 = .ok ((.iconst 4), 1) ∧ decode (mX12_init).2.1 452 = .ok ((.newarray .int), 2) := by decide +kernel
theorem dX12_init_444 : Dc mX12_init 444 (.iconst 4) 1 445 := ⟨k_dX12_init_444.1, rfl⟩
theorem dX12_init_445 : Dc mX12_init 445 (.newarray .int) 2 447 := ⟨k_dX12_init_444.2.1, rfl⟩
theorem dX12_init_447 : Dc mX12_init 447 (.putfield 141) 3 450 := ⟨k_dX12_init_444.2.2.1, rfl⟩
theorem dX12_init_450 : Dc mX12_init 450 (.aload_n 0) 1 451 := ⟨k_dX12_init_444.2.2.2.1, rfl⟩
theorem dX12_init_451 : Dc mX12_init 451 (.iconst 4) 1 452 := ⟨k_dX12_init_444.2.2.2.2.1, rfl⟩
theorem dX12_init_452 : Dc mX12_init 452 (.newarray .int) 2 454 := ⟨k_dX12_init_444.2.2.2.2.2, rfl⟩
theorem k_dX12_init_454 : decode (mX12_init).2.1 454 = .ok ((.putfield 144), 3) ∧ decode (mX12_init).2.1 457 = .ok ((.aload_n 0), 1) ∧ decode (mX12_init).2.1 458 = .ok ((.iconst (-1)), 1) ∧ decode (mX12_init).2.1 459 = .ok ((.putfield 147), 3) ∧ decode (mX12_init).2.1 462 = .ok ((.aload_n 0), 1) ∧ decode (mX12_init).2.1 463 = .ok ((.bipush 24), 2) := by decide +kernel
theorem dX12_init_454 : Dc mX12_init 454 (.putfield 144) 3 457 := ⟨k_dX12_init_454.1, rfl⟩
theorem dX12_init_457 : Dc mX12_init 457 (.aload_n 0) 1 458 := ⟨k_dX12_init_454.2.1, rfl⟩
theorem dX12_init_458 : Dc mX12_init 458 (.iconst (-1)) 1 459 := ⟨k_dX12_init_454.2.2.1, rfl⟩
theorem dX12_init_459 : Dc mX12_init 459 (.putfield 147) 3 462 := ⟨k_dX12_init_454.2.2.2.1, rfl⟩
theorem dX12_init_462 : Dc mX12_init 462 (.aload_n 0) 1 463 := ⟨k_dX12_init_454.2.2.2.2.1, rfl⟩
theorem dX12_init_463 : Dc mX12_init 463 (.bipush 24) 2 465 := ⟨k_dX12_init_454.2.2.2.2.2, rfl⟩
theorem k_dX12_init_465 : decode (mX12_init).2.1 465 = .ok ((.newarray .int), 2) ∧ decode (mX12_init).2.1 467 = .ok ((.putfield 150), 3) ∧ decode (mX12_init).2.1 470 = .ok ((.aload_n 0), 1) ∧ decode (mX12_init).2.1 471 = .ok ((.bipush 24), 2) ∧ decode (mX12_init).2.1 473 = .ok ((.newarray .int), 2) ∧ decode (mX12_init).2.1 475 = .ok ((.putfield 153), 3) := by decide +kernel
theorem dX12_init_465 : Dc mX12_init 465 (.newarray .int) 2 467 := ⟨k_dX12_init_465.1, rfl⟩
theorem dX12_init_467 : Dc mX12_init 467 (.putfield 150) 3 470 := ⟨k_dX12_init_465.2.1, rfl⟩
theorem dX12_init_470 : Dc mX12_init 470 (.aload_n 0) 1 471 := ⟨k_dX12_init_465.2.2.1, rfl⟩
theorem dX12_init_471 : Dc mX12_init 471 (.bipush 24) 2 473 := ⟨k_dX12_init_465.2.2.2.1, rfl⟩
theorem dX12_init_473 : Dc mX12_init 473 (.newarray .int) 2 475 := ⟨k_dX12_init_465.2.2.2.2.1, rfl⟩
theorem dX12_init_475 : Dc mX12_init 475 (.putfield 153) 3 478 := ⟨k_dX12_init_465.2.2.2.2.2, rfl⟩
theorem k_dX12_init_478 : decode (mX12_init).2.1 478 = .ok ((.aload_n 0), 1) ∧ decode (mX12_init).2.1 479 = .ok ((.bipush 24), 2) ∧ decode (mX12_init).2.1 481 = .ok ((.newarray .boolean), 2) ∧ decode (mX12_init).2.1 483 = .ok ((.putfield 156), 3) ∧ decode (mX12_init).2.1 486 = .ok ((.aload_n 0), 1) ∧ decode (mX12_init).2.1 487 = .ok ((.bipush 24), 2) := by decide +kernel
theorem dX12_init_478 : Dc mX12_init 478 (.aload_n 0) 1 479 := ⟨k_dX12_init_478.1, rfl⟩
theorem dX12_init_479 : Dc mX12_init 479 (.bipush 24) 2 481 := ⟨k_dX12_init_478.2.1, rfl⟩
theorem dX12_init_481 : Dc mX12_init 481 (.newarray .boolean) 2 483 := ⟨k_dX12_init_478.2.2.1, rfl⟩
theorem dX12_init_483 : Dc mX12_init 483 (.putfield 156) 3 486 := ⟨k_dX12_init_478.2.2.2.1, rfl⟩
theorem dX12_init_486 : Dc mX12_init 486 (.aload_n 0) 1 487 := ⟨k_dX12_init_478.2.2.2.2.1, rfl⟩
theorem dX12_init_487 : Dc mX12_init 487 (.bipush 24) 2 489 := ⟨k_dX12_init_478.2.2.2.2.2, rfl⟩
theorem k_dX12_init_489 : decode (mX12_init).2.1 489 = .ok ((.newarray .int), 2) ∧ decode (mX12_init).2.1 491 = .ok ((.putfield 160), 3) ∧ decode (mX12_init).2.1 494 = .ok ((.aload_n 0), 1) ∧ decode (mX12_init).2.1 495 = .ok ((.bipush 24), 2) ∧ decode (mX12_init).2.1 497 = .ok ((.newarray .boolean), 2) ∧ decode (mX12_init).2.1 499 = .ok ((.putfield 163), 3) := by decide +kernel
theorem dX12_init_489 : Dc mX12_init 489 (.newarray .int) 2 491 := ⟨k_dX12_init_489.1, rfl⟩
theorem dX12_init_491 : Dc mX12_init 491 (.putfield 160) 3 494 := ⟨k_dX12_init_489.2.1, rfl⟩
theorem dX12_init_494 : Dc mX12_init 494 (.aload_n 0) 1 495 := ⟨k_dX12_init_489.2.2.1, rfl⟩
theorem dX12_init_495 : Dc mX12_init 495 (.bipush 24) 2 497 := ⟨k_dX12_init_489.2.2.2.1, rfl⟩
theorem dX12_init_497 : Dc mX12_init 497 (.newarray .boolean) 2 499 := ⟨k_dX12_init_489.2.2.2.2.1, rfl⟩
theorem dX12_init_499 : Dc mX12_init 499 (.putfield 163) 3 502 := ⟨k_dX12_init_489.2.2.2.2.2, rfl⟩
theorem k_dX12_init_502 : decode (mX12_init).2.1 502 = .ok ((.aload_n 0), 1) ∧ decode (mX12_init).2.1 503 = .ok ((.invokevirtual 166), 3) ∧ decode (mX12_init).2.1 506 = .ok ((.return_), 1) := by decide +kernel
theorem dX12_init_502 : Dc mX12_init 502 (.aload_n 0) 1 503 := ⟨k_dX12_init_502.1, rfl⟩
theorem dX12_init_503 : Dc mX12_init 503 (.invokevirtual 166) 3 506 := ⟨k_dX12_init_502.2.1, rfl⟩
theorem dX12_init_506 : Dc mX12_init 506 (.return_) 1 507 := ⟨k_dX12_init_502.2.2, rfl⟩
theorem k_dX12_feed_0 : decode (mX12_feed).2.1 0 = .ok ((.aload_n 0), 1) ∧ decode (mX12_feed).2.1 1 = .ok ((.iconst 0), 1) ∧ decode (mX12_feed).2.1 2 = .ok ((.putfield 169), 3) ∧ decode (mX12_feed).2.1 5 = .ok ((.aload_n 0), 1) ∧ decode (mX12_feed).2.1 6 = .ok ((.getfield 172), 3) ∧ decode (mX12_feed).2.1 9 = .ok ((.sipush 680), 3) := by decide +kernel
theorem dX12_feed_0 : Dc mX12_feed 0 (.aload_n 0) 1 1 := ⟨k_dX12_feed_0.1, rfl⟩
theorem dX12_feed_1 : Dc mX12_feed 1 (.iconst 0) 1 2 := ⟨k_dX12_feed_0.2.1, rfl⟩
theorem dX12_feed_2 : Dc mX12_feed 2 (.putfield 169) 3 5 := ⟨k_dX12_feed_0.2.2.1, rfl⟩
theorem dX12_feed_5 : Dc mX12_feed 5 (.aload_n 0) 1 6 := ⟨k_dX12_feed_0.2.2.2.1, rfl⟩
theorem dX12_feed_6 : Dc mX12_feed 6 (.getfield 172) 3 9 := ⟨k_dX12_feed_0.2.2.2.2.1, rfl⟩
theorem dX12_feed_9 : Dc mX12_feed 9 (.sipush 680) 3 12 := ⟨k_dX12_feed_0.2.2.2.2.2, rfl⟩
theorem k_dX12_feed_12 : decode (mX12_feed).2.1 12 = .ok ((.if_icmp .le 5), 3) ∧ decode (mX12_feed).2.1 15 = .ok ((.iconst (-1)), 1) ∧ decode (mX12_feed).2.1 16 = .ok ((.ireturn), 1) ∧ decode (mX12_feed).2.1 17 = .ok ((.iconst 0), 1) ∧ decode (mX12_feed).2.1 18 = .ok ((.istore 6), 2) ∧ decode (mX12_feed).2.1 20 = .ok ((.iload 6), 2) := by decide +kernel
theorem dX12_feed_12 : Dc mX12_feed 12 (.if_icmp .le 5) 3 15 := ⟨k_dX12_feed_12.1, rfl⟩
theorem dX12_feed_15 : Dc mX12_feed 15 (.iconst (-1)) 1 16 := ⟨k_dX12_feed_12.2.1, rfl⟩
theorem dX12_feed_16 : Dc mX12_feed 16 (.ireturn) 1 17 := ⟨k_dX12_feed_12.2.2.1, rfl⟩
theorem dX12_feed_17 : Dc mX12_feed 17 (.iconst 0) 1 18 := ⟨k_dX12_feed_12.2.2.2.1, rfl⟩
theorem dX12_feed_18 : Dc mX12_feed 18 (.istore 6) 2 20 := ⟨k_dX12_feed_12.2.2.2.2.1, rfl⟩
theorem dX12_feed_20 : Dc mX12_feed 20 (.iload 6) 2 22 := ⟨k_dX12_feed_12.2.2.2.2.2, rfl⟩
theorem k_dX12_feed_22 : decode (mX12_feed).2.1 22 = .ok ((.bipush 20), 2) ∧ decode (mX12_feed).2.1 24 = .ok ((.if_icmp .ge 86), 3) ∧ decode (mX12_feed).2.1 27 = .ok ((.iload 6), 2) ∧ decode (mX12_feed).2.1 29 = .ok ((.iconst 4), 1) ∧ decode (mX12_feed).2.1 30 = .ok ((.if_icmp .ge 7), 3) ∧ decode (mX12_feed).2.1 33 = .ok ((.iload_n 1), 1) := by decide +kernel
theorem dX12_feed_22 : Dc mX12_feed 22 (.bipush 20) 2 24 := ⟨k_dX12_feed_22.1, rfl⟩
theorem dX12_feed_24 : Dc mX12_feed 24 (.if_icmp .ge 86) 3 27 := ⟨k_dX12_feed_22.2.1, rfl⟩
theorem dX12_feed_27 : Dc mX12_feed 27 (.iload 6) 2 29 := ⟨k_dX12_feed_22.2.2.1, rfl⟩
theorem dX12_feed_29 : Dc mX12_feed 29 (.iconst 4) 1 30 := ⟨k_dX12_feed_22.2.2.2.1, rfl⟩
theorem dX12_feed_30 : Dc mX12_feed 30 (.if_icmp .ge 7) 3 33 := ⟨k_dX12_feed_22.2.2.2.2.1, rfl⟩
theorem dX12_feed_33 : Dc mX12_feed 33 (.iload_n 1) 1 34 := ⟨k_dX12_feed_22.2.2.2.2.2, rfl⟩
theorem k_dX12_feed_34 : decode (mX12_feed).2.1 34 = .ok ((.goto 39), 3) ∧ decode (mX12_feed).2.1 37 = .ok ((.iload 6), 2) ∧ decode (mX12_feed).2.1 39 = .ok ((.bipush 8), 2) ∧ decode (mX12_feed).2.1 41 = .ok ((.if_icmp .ge 7), 3) ∧ decode (mX12_feed).2.1 44 = .ok ((.iload_n 2), 1) ∧ decode (mX12_feed).2.1 45 = .ok ((.goto 28), 3) := by decide +kernel
theorem dX12_feed_34 : Dc mX12_feed 34 (.goto 39) 3 37 := ⟨k_dX12_feed_34.1, rfl⟩
theorem dX12_feed_37 : Dc mX12_feed 37 (.iload 6) 2 39 := ⟨k_dX12_feed_34.2.1, rfl⟩
theorem dX12_feed_39 : Dc mX12_feed 39 (.bipush 8) 2 41 := ⟨k_dX12_feed_34.2.2.1, rfl⟩
theorem dX12_feed_41 : Dc mX12_feed 41 (.if_icmp .ge 7) 3 44 := ⟨k_dX12_feed_34.2.2.2.1, rfl⟩
theorem dX12_feed_44 : Dc mX12_feed 44 (.iload_n 2) 1 45 := ⟨k_dX12_feed_34.2.2.2.2.1, rfl⟩
theorem dX12_feed_45 : Dc mX12_feed 45 (.goto 28) 3 48 := ⟨k_dX12_feed_34.2.2.2.2.2, rfl⟩
theorem k_dX12_feed_48 : decode (mX12_feed).2.1 48 = .ok ((.iload 6), 2) ∧ decode (mX12_feed).2.1 50 = .ok ((.bipush 12), 2) ∧ decode (mX12_feed).2.1 52 = .ok ((.if_icmp .ge 7), 3) ∧ decode (mX12_feed).2.1 55 = .ok ((.iload_n 3), 1) ∧ decode (mX12_feed).2.1 56 = .ok ((.goto 17), 3) ∧ decode (mX12_feed).2.1 59 = .ok ((.iload 6), 2) := by decide +kernel
theorem dX12_feed_48 : Dc mX12_feed 48 (.iload 6) 2 50 := ⟨k_dX12_feed_48.1, rfl⟩
theorem dX12_feed_50 : Dc mX12_feed 50 (.bipush 12) 2 52 := ⟨k_dX12_feed_48.2.1, rfl⟩
theorem dX12_feed_52 : Dc mX12_feed 52 (.if_icmp .ge 7) 3 55 := ⟨k_dX12_feed_48.2.2.1, rfl⟩
theorem dX12_feed_55 : Dc mX12_feed 55 (.iload_n 3) 1 56 := ⟨k_dX12_feed_48.2.2.2.1, rfl⟩
theorem dX12_feed_56 : Dc mX12_feed 56 (.goto 17) 3 59 := ⟨k_dX12_feed_48.2.2.2.2.1, rfl⟩
theorem dX12_feed_59 : Dc mX12_feed 59 (.iload 6) 2 61 := ⟨k_dX12_feed_48.2.2.2.2.2, rfl⟩
theorem k_dX12_feed_61 : decode (mX12_feed).2.1 61 = .ok ((.bipush 16), 2) ∧ decode (mX12_feed).2.1 63 = .ok ((.if_icmp .ge 8), 3) ∧ decode (mX12_feed).2.1 66 = .ok ((.iload 4), 2) ∧ decode (mX12_feed).2.1 68 = .ok ((.goto 5), 3) ∧ decode (mX12_feed).2.1 71 = .ok ((.iload 5), 2) ∧ decode (mX12_feed).2.1 73 = .ok ((.istore 7), 2) := by decide +kernel
theorem dX12_feed_61 : Dc mX12_feed 61 (.bipush 16) 2 63 := ⟨k_dX12_feed_61.1, rfl⟩
theorem dX12_feed_63 : Dc mX12_feed 63 (.if_icmp .ge 8) 3 66 := ⟨k_dX12_feed_61.2.1, rfl⟩
theorem dX12_feed_66 : Dc mX12_feed 66 (.iload 4) 2 68 := ⟨k_dX12_feed_61.2.2.1, rfl⟩
theorem dX12_feed_68 : Dc mX12_feed 68 (.goto 5) 3 71 := ⟨k_dX12_feed_61.2.2.2.1, rfl⟩
theorem dX12_feed_71 : Dc mX12_feed 71 (.iload 5) 2 73 := ⟨k_dX12_feed_61.2.2.2.2.1, rfl⟩
theorem dX12_feed_73 : Dc mX12_feed 73 (.istore 7) 2 75 := ⟨k_dX12_feed_61.2.2.2.2.2, rfl⟩
theorem k_dX12_feed_75 : decode (mX12_feed).2.1 75 = .ok ((.aload_n 0), 1) ∧ decode (mX12_feed).2.1 76 = .ok ((.getfield 7), 3) ∧ decode (mX12_feed).2.1 79 = .ok ((.aload_n 0), 1) ∧ decode (mX12_feed).2.1 80 = .ok ((.getfield 172), 3) ∧ decode (mX12_feed).2.1 83 = .ok ((.iload 6), 2) ∧ decode (mX12_feed).2.1 85 = .ok ((.iadd), 1) := by decide +kernel
theorem dX12_feed_75 : Dc mX12_feed 75 (.aload_n 0) 1 76 := ⟨k_dX12_feed_75.1, rfl⟩
theorem dX12_feed_76 : Dc mX12_feed 76 (.getfield 7) 3 79 := ⟨k_dX12_feed_75.2.1, rfl⟩
theorem dX12_feed_79 : Dc mX12_feed 79 (.aload_n 0) 1 80 := ⟨k_dX12_feed_75.2.2.1, rfl⟩
theorem dX12_feed_80 : Dc mX12_feed 80 (.getfield 172) 3 83 := ⟨k_dX12_feed_75.2.2.2.1, rfl⟩
theorem dX12_feed_83 : Dc mX12_feed 83 (.iload 6) 2 85 := ⟨k_dX12_feed_75.2.2.2.2.1, rfl⟩
theorem dX12_feed_85 : Dc mX12_feed 85 (.iadd) 1 86 := ⟨k_dX12_feed_75.2.2.2.2.2, rfl⟩
theorem k_dX12_feed_86 : decode (mX12_feed).2.1 86 = .ok ((.iload 7), 2) ∧ decode (mX12_feed).2.1 88 = .ok ((.bipush 24), 2) ∧ decode (mX12_feed).2.1 90 = .ok ((.bipush 8), 2) ∧ decode (mX12_feed).2.1 92 = .ok ((.iload 6), 2) ∧ decode (mX12_feed).2.1 94 = .ok ((.iconst 4), 1) ∧ decode (mX12_feed).2.1 95 = .ok ((.irem), 1) := by decide +kernel
theorem dX12_feed_86 : Dc mX12_feed 86 (.iload 7) 2 88 := ⟨k_dX12_feed_86.1, rfl⟩
theorem dX12_feed_88 : Dc mX12_feed 88 (.bipush 24) 2 90 := ⟨k_dX12_feed_86.2.1, rfl⟩
theorem dX12_feed_90 : Dc mX12_feed 90 (.bipush 8) 2 92 := ⟨k_dX12_feed_86.2.2.1, rfl⟩
theorem dX12_feed_92 : Dc mX12_feed 92 (.iload 6) 2 94 := ⟨k_dX12_feed_86.2.2.2.1, rfl⟩
theorem dX12_feed_94 : Dc mX12_feed 94 (.iconst 4) 1 95 := ⟨k_dX12_feed_86.2.2.2.2.1, rfl⟩
theorem dX12_feed_95 : Dc mX12_feed 95 (.irem) 1 96 := ⟨k_dX12_feed_86.2.2.2.2.2, rfl⟩
theorem k_dX12_feed_96 : decode (mX12_feed).2.1 96 = .ok ((.imul), 1) ∧ decode (mX12_feed).2.1 97 = .ok ((.isub), 1) ∧ decode (mX12_feed).2.1 98 = .ok ((.ishr), 1) ∧ decode (mX12_feed).2.1 99 = .ok ((.sipush 255), 3) ∧ decode (mX12_feed).2.1 102 = .ok ((.iand), 1) ∧ decode (mX12_feed).2.1 103 = .ok ((.iastore), 1) := by decide +kernel
theorem dX12_feed_96 : Dc mX12_feed 96 (.imul) 1 97 := ⟨k_dX12_feed_96.1, rfl⟩
theorem dX12_feed_97 : Dc mX12_feed 97 (.isub) 1 98 := ⟨k_dX12_feed_96.2.1, rfl⟩
theorem dX12_feed_98 : Dc mX12_feed 98 (.ishr) 1 99 := ⟨k_dX12_feed_96.2.2.1, rfl⟩
theorem dX12_feed_99 : Dc mX12_feed 99 (.sipush 255) 3 102 := ⟨k_dX12_feed_96.2.2.2.1, rfl⟩
theorem dX12_feed_102 : Dc mX12_feed 102 (.iand) 1 103 := ⟨k_dX12_feed_96.2.2.2.2.1, rfl⟩
theorem dX12_feed_103 : Dc mX12_feed 103 (.iastore) 1 104 := ⟨k_dX12_feed_96.2.2.2.2.2, rfl⟩
theorem k_dX12_feed_104 : decode (mX12_feed).2.1 104 = .ok ((.iinc 6 1), 3) ∧ decode (mX12_feed).2.1 107 = .ok ((.goto (-87)), 3) ∧ decode (mX12_feed).2.1 110 = .ok ((.aload_n 0), 1) ∧ decode (mX12_feed).2.1 111 = .ok ((.dup), 1) ∧ decode (mX12_feed).2.1 112 = .ok ((.getfield 172), 3) ∧ decode (mX12_feed).2.1 115 = .ok ((.bipush 20), 2) := by decide +kernel
theorem dX12_feed_104 : Dc mX12_feed 104 (.iinc 6 1) 3 107 := ⟨k_dX12_feed_104.1, rfl⟩
theorem dX12_feed_107 : Dc mX12_feed 107 (.goto (-87)) 3 110 := ⟨k_dX12_feed_104.2.1, rfl⟩
theorem dX12_feed_110 : Dc mX12_feed 110 (.aload_n 0) 1 111 := ⟨k_dX12_feed_104.2.2.1, rfl⟩
theorem dX12_feed_111 : Dc mX12_feed 111 (.dup) 1 112 := ⟨k_dX12_feed_104.2.2.2.1, rfl⟩
theorem dX12_feed_112 : Dc mX12_feed 112 (.getfield 172) 3 115 := ⟨k_dX12_feed_104.2.2.2.2.1, rfl⟩
theorem dX12_feed_115 : Dc mX12_feed 115 (.bipush 20) 2 117 := ⟨k_dX12_feed_104.2.2.2.2.2, rfl⟩
theorem k_dX12_feed_117 : decode (mX12_feed).2.1 117 = .ok ((.iadd), 1) ∧ decode (mX12_feed).2.1 118 = .ok ((.putfield 172), 3) ∧ decode (mX12_feed).2.1 121 = .ok ((.aload_n 0), 1) ∧ decode (mX12_feed).2.1 122 = .ok ((.getfield 172), 3) ∧ decode (mX12_feed).2.1 125 = .ok ((.ireturn), 1) := by decide +kernel
theorem dX12_feed_117 : Dc mX12_feed 117 (.iadd) 1 118 := ⟨k_dX12_feed_117.1, rfl⟩
theorem dX12_feed_118 : Dc mX12_feed 118 (.putfield 172) 3 121 := ⟨k_dX12_feed_117.2.1, rfl⟩
theorem dX12_feed_121 : Dc mX12_feed 121 (.aload_n 0) 1 122 := ⟨k_dX12_feed_117.2.2.1, rfl⟩
theorem dX12_feed_122 : Dc mX12_feed 122 (.getfield 172) 3 125 := ⟨k_dX12_feed_117.2.2.2.1, rfl⟩
theorem dX12_feed_125 : Dc mX12_feed 125 (.ireturn) 1 126 := ⟨k_dX12_feed_117.2.2.2.2, rfl⟩
theorem k_dX12_here_0 : decode (mX12_here).2.1 0 = .ok ((.aload_n 0), 1) ∧ decode (mX12_here).2.1 1 = .ok ((.getfield 175), 3) ∧ decode (mX12_here).2.1 4 = .ok ((.aload_n 0), 1) ∧ decode (mX12_here).2.1 5 = .ok ((.getfield 178), 3) ∧ decode (mX12_here).2.1 8 = .ok ((.if_icmp .ge 15), 3) ∧ decode (mX12_here).2.1 11 = .ok ((.aload_n 0), 1) := by decide +kernel
theorem dX12_here_0 : Dc mX12_here 0 (.aload_n 0) 1 1 := ⟨k_dX12_here_0.1, rfl⟩
theorem dX12_here_1 : Dc mX12_here 1 (.getfield 175) 3 4 := ⟨k_dX12_here_0.2.1, rfl⟩
theorem dX12_here_4 : Dc mX12_here 4 (.aload_n 0) 1 5 := ⟨k_dX12_here_0.2.2.1, rfl⟩
theorem dX12_here_5 : Dc mX12_here 5 (.getfield 178) 3 8 := ⟨k_dX12_here_0.2.2.2.1, rfl⟩
theorem dX12_here_8 : Dc mX12_here 8 (.if_icmp .ge 15) 3 11 := ⟨k_dX12_here_0.2.2.2.2.1, rfl⟩
theorem dX12_here_11 : Dc mX12_here 11 (.aload_n 0) 1 12 := ⟨k_dX12_here_0.2.2.2.2.2, rfl⟩
theorem k_dX12_here_12 : decode (mX12_here).2.1 12 = .ok ((.getfield 7), 3) ∧ decode (mX12_here).2.1 15 = .ok ((.aload_n 0), 1) ∧ decode (mX12_here).2.1 16 = .ok ((.getfield 175), 3) ∧ decode (mX12_here).2.1 19 = .ok ((.iaload), 1) ∧ decode (mX12_here).2.1 20 = .ok ((.goto 4), 3) ∧ decode (mX12_here).2.1 23 = .ok ((.iconst (-1)), 1) := by decide +kernel
theorem dX12_here_12 : Dc mX12_here 12 (.getfield 7) 3 15 := ⟨k_dX12_here_12.1, rfl⟩
theorem dX12_here_15 : Dc mX12_here 15 (.aload_n 0) 1 16 := ⟨k_dX12_here_12.2.1, rfl⟩
theorem dX12_here_16 : Dc mX12_here 16 (.getfield 175) 3 19 := ⟨k_dX12_here_12.2.2.1, rfl⟩
theorem dX12_here_19 : Dc mX12_here 19 (.iaload) 1 20 := ⟨k_dX12_here_12.2.2.2.1, rfl⟩
theorem dX12_here_20 : Dc mX12_here 20 (.goto 4) 3 23 := ⟨k_dX12_here_12.2.2.2.2.1, rfl⟩
theorem dX12_here_23 : Dc mX12_here 23 (.iconst (-1)) 1 24 := ⟨k_dX12_here_12.2.2.2.2.2, rfl⟩
theorem dX12_here_24 : Dc mX12_here 24 (.ireturn) 1 25 := ⟨by decide +kernel, rfl⟩
theorem k_dX12_isSmall_0 : decode (mX12_isSmall).2.1 0 = .ok ((.iload_n 0), 1) ∧ decode (mX12_isSmall).2.1 1 = .ok ((.bipush 97), 2) ∧ decode (mX12_isSmall).2.1 3 = .ok ((.if_icmp .lt 13), 3) ∧ decode (mX12_isSmall).2.1 6 = .ok ((.iload_n 0), 1) ∧ decode (mX12_isSmall).2.1 7 = .ok ((.bipush 122), 2) ∧ decode (mX12_isSmall).2.1 9 = .ok ((.if_icmp .gt 7), 3) := by decide +kernel
theorem dX12_isSmall_0 : Dc mX12_isSmall 0 (.iload_n 0) 1 1 := ⟨k_dX12_isSmall_0.1, rfl⟩
theorem dX12_isSmall_1 : Dc mX12_isSmall 1 (.bipush 97) 2 3 := ⟨k_dX12_isSmall_0.2.1, rfl⟩
theorem dX12_isSmall_3 : Dc mX12_isSmall 3 (.if_icmp .lt 13) 3 6 := ⟨k_dX12_isSmall_0.2.2.1, rfl⟩
theorem dX12_isSmall_6 : Dc mX12_isSmall 6 (.iload_n 0) 1 7 := ⟨k_dX12_isSmall_0.2.2.2.1, rfl⟩
theorem dX12_isSmall_7 : Dc mX12_isSmall 7 (.bipush 122) 2 9 := ⟨k_dX12_isSmall_0.2.2.2.2.1, rfl⟩
theorem dX12_isSmall_9 : Dc mX12_isSmall 9 (.if_icmp .gt 7) 3 12 := ⟨k_dX12_isSmall_0.2.2.2.2.2, rfl⟩
theorem k_dX12_isSmall_12 : decode (mX12_isSmall).2.1 12 = .ok ((.iconst 1), 1) ∧ decode (mX12_isSmall).2.1 13 = .ok ((.goto 4), 3) ∧ decode (mX12_isSmall).2.1 16 = .ok ((.iconst 0), 1) ∧ decode (mX12_isSmall).2.1 17 = .ok ((.ireturn), 1) := by decide +kernel
theorem dX12_isSmall_12 : Dc mX12_isSmall 12 (.iconst 1) 1 13 := ⟨k_dX12_isSmall_12.1, rfl⟩
theorem dX12_isSmall_13 : Dc mX12_isSmall 13 (.goto 4) 3 16 := ⟨k_dX12_isSmall_12.2.1, rfl⟩
theorem dX12_isSmall_16 : Dc mX12_isSmall 16 (.iconst 0) 1 17 := ⟨k_dX12_isSmall_12.2.2.1, rfl⟩
theorem dX12_isSmall_17 : Dc mX12_isSmall 17 (.ireturn) 1 18 := ⟨k_dX12_isSmall_12.2.2.2, rfl⟩
theorem k_dX12_isDigit_0 : decode (mX12_isDigit).2.1 0 = .ok ((.iload_n 0), 1) ∧ decode (mX12_isDigit).2.1 1 = .ok ((.bipush 48), 2) ∧ decode (mX12_isDigit).2.1 3 = .ok ((.if_icmp .lt 13), 3) ∧ decode (mX12_isDigit).2.1 6 = .ok ((.iload_n 0), 1) ∧ decode (mX12_isDigit).2.1 7 = .ok ((.bipush 57), 2) ∧ decode (mX12_isDigit).2.1 9 = .ok ((.if_icmp .gt 7), 3) := by decide +kernel
theorem dX12_isDigit_0 : Dc mX12_isDigit 0 (.iload_n 0) 1 1 := ⟨k_dX12_isDigit_0.1, rfl⟩
theorem dX12_isDigit_1 : Dc mX12_isDigit 1 (.bipush 48) 2 3 := ⟨k_dX12_isDigit_0.2.1, rfl⟩
theorem dX12_isDigit_3 : Dc mX12_isDigit 3 (.if_icmp .lt 13) 3 6 := ⟨k_dX12_isDigit_0.2.2.1, rfl⟩
theorem dX12_isDigit_6 : Dc mX12_isDigit 6 (.iload_n 0) 1 7 := ⟨k_dX12_isDigit_0.2.2.2.1, rfl⟩
theorem dX12_isDigit_7 : Dc mX12_isDigit 7 (.bipush 57) 2 9 := ⟨k_dX12_isDigit_0.2.2.2.2.1, rfl⟩
theorem dX12_isDigit_9 : Dc mX12_isDigit 9 (.if_icmp .gt 7) 3 12 := ⟨k_dX12_isDigit_0.2.2.2.2.2, rfl⟩
theorem k_dX12_isDigit_12 : decode (mX12_isDigit).2.1 12 = .ok ((.iconst 1), 1) ∧ decode (mX12_isDigit).2.1 13 = .ok ((.goto 4), 3) ∧ decode (mX12_isDigit).2.1 16 = .ok ((.iconst 0), 1) ∧ decode (mX12_isDigit).2.1 17 = .ok ((.ireturn), 1) := by decide +kernel
theorem dX12_isDigit_12 : Dc mX12_isDigit 12 (.iconst 1) 1 13 := ⟨k_dX12_isDigit_12.1, rfl⟩
theorem dX12_isDigit_13 : Dc mX12_isDigit 13 (.goto 4) 3 16 := ⟨k_dX12_isDigit_12.2.1, rfl⟩
theorem dX12_isDigit_16 : Dc mX12_isDigit 16 (.iconst 0) 1 17 := ⟨k_dX12_isDigit_12.2.2.1, rfl⟩
theorem dX12_isDigit_17 : Dc mX12_isDigit 17 (.ireturn) 1 18 := ⟨k_dX12_isDigit_12.2.2.2, rfl⟩
theorem k_dX12_token_0 : decode (mX12_token).2.1 0 = .ok ((.aload_n 0), 1) ∧ decode (mX12_token).2.1 1 = .ok ((.invokevirtual 181), 3) ∧ decode (mX12_token).2.1 4 = .ok ((.bipush 10), 2) ∧ decode (mX12_token).2.1 6 = .ok ((.if_icmp .eq 12), 3) ∧ decode (mX12_token).2.1 9 = .ok ((.aload_n 0), 1) ∧ decode (mX12_token).2.1 10 = .ok ((.invokevirtual 181), 3) := by decide +kernel
theorem dX12_token_0 : Dc mX12_token 0 (.aload_n 0) 1 1 := ⟨k_dX12_token_0.1, rfl⟩
theorem dX12_token_1 : Dc mX12_token 1 (.invokevirtual 181) 3 4 := ⟨k_dX12_token_0.2.1, rfl⟩
theorem dX12_token_4 : Dc mX12_token 4 (.bipush 10) 2 6 := ⟨k_dX12_token_0.2.2.1, rfl⟩
theorem dX12_token_6 : Dc mX12_token 6 (.if_icmp .eq 12) 3 9 := ⟨k_dX12_token_0.2.2.2.1, rfl⟩
theorem dX12_token_9 : Dc mX12_token 9 (.aload_n 0) 1 10 := ⟨k_dX12_token_0.2.2.2.2.1, rfl⟩
theorem dX12_token_10 : Dc mX12_token 10 (.invokevirtual 181) 3 13 := ⟨k_dX12_token_0.2.2.2.2.2, rfl⟩
theorem k_dX12_token_13 : decode (mX12_token).2.1 13 = .ok ((.bipush 32), 2) ∧ decode (mX12_token).2.1 15 = .ok ((.if_icmp .ne 16), 3) ∧ decode (mX12_token).2.1 18 = .ok ((.aload_n 0), 1) ∧ decode (mX12_token).2.1 19 = .ok ((.dup), 1) ∧ decode (mX12_token).2.1 20 = .ok ((.getfield 175), 3) ∧ decode (mX12_token).2.1 23 = .ok ((.iconst 1), 1) := by decide +kernel
theorem dX12_token_13 : Dc mX12_token 13 (.bipush 32) 2 15 := ⟨k_dX12_token_13.1, rfl⟩
theorem dX12_token_15 : Dc mX12_token 15 (.if_icmp .ne 16) 3 18 := ⟨k_dX12_token_13.2.1, rfl⟩
theorem dX12_token_18 : Dc mX12_token 18 (.aload_n 0) 1 19 := ⟨k_dX12_token_13.2.2.1, rfl⟩
theorem dX12_token_19 : Dc mX12_token 19 (.dup) 1 20 := ⟨k_dX12_token_13.2.2.2.1, rfl⟩
theorem dX12_token_20 : Dc mX12_token 20 (.getfield 175) 3 23 := ⟨k_dX12_token_13.2.2.2.2.1, rfl⟩
theorem dX12_token_23 : Dc mX12_token 23 (.iconst 1) 1 24 := ⟨k_dX12_token_13.2.2.2.2.2, rfl⟩
theorem k_dX12_token_24 : decode (mX12_token).2.1 24 = .ok ((.iadd), 1) ∧ decode (mX12_token).2.1 25 = .ok ((.putfield 175), 3) ∧ decode (mX12_token).2.1 28 = .ok ((.goto (-28)), 3) ∧ decode (mX12_token).2.1 31 = .ok ((.aload_n 0), 1) ∧ decode (mX12_token).2.1 32 = .ok ((.aload_n 0), 1) ∧ decode (mX12_token).2.1 33 = .ok ((.getfield 175), 3) := by decide +kernel
theorem dX12_token_24 : Dc mX12_token 24 (.iadd) 1 25 := ⟨k_dX12_token_24.1, rfl⟩
theorem dX12_token_25 : Dc mX12_token 25 (.putfield 175) 3 28 := ⟨k_dX12_token_24.2.1, rfl⟩
theorem dX12_token_28 : Dc mX12_token 28 (.goto (-28)) 3 31 := ⟨k_dX12_token_24.2.2.1, rfl⟩
theorem dX12_token_31 : Dc mX12_token 31 (.aload_n 0) 1 32 := ⟨k_dX12_token_24.2.2.2.1, rfl⟩
theorem dX12_token_32 : Dc mX12_token 32 (.aload_n 0) 1 33 := ⟨k_dX12_token_24.2.2.2.2.1, rfl⟩
theorem dX12_token_33 : Dc mX12_token 33 (.getfield 175) 3 36 := ⟨k_dX12_token_24.2.2.2.2.2, rfl⟩
theorem k_dX12_token_36 : decode (mX12_token).2.1 36 = .ok ((.putfield 185), 3) ∧ decode (mX12_token).2.1 39 = .ok ((.aload_n 0), 1) ∧ decode (mX12_token).2.1 40 = .ok ((.invokevirtual 181), 3) ∧ decode (mX12_token).2.1 43 = .ok ((.istore_n 1), 1) ∧ decode (mX12_token).2.1 44 = .ok ((.iload_n 1), 1) ∧ decode (mX12_token).2.1 45 = .ok ((.iconst (-1)), 1) := by decide +kernel
theorem dX12_token_36 : Dc mX12_token 36 (.putfield 185) 3 39 := ⟨k_dX12_token_36.1, rfl⟩
theorem dX12_token_39 : Dc mX12_token 39 (.aload_n 0) 1 40 := ⟨k_dX12_token_36.2.1, rfl⟩
theorem dX12_token_40 : Dc mX12_token 40 (.invokevirtual 181) 3 43 := ⟨k_dX12_token_36.2.2.1, rfl⟩
theorem dX12_token_43 : Dc mX12_token 43 (.istore_n 1) 1 44 := ⟨k_dX12_token_36.2.2.2.1, rfl⟩
theorem dX12_token_44 : Dc mX12_token 44 (.iload_n 1) 1 45 := ⟨k_dX12_token_36.2.2.2.2.1, rfl⟩
theorem dX12_token_45 : Dc mX12_token 45 (.iconst (-1)) 1 46 := ⟨k_dX12_token_36.2.2.2.2.2, rfl⟩
theorem k_dX12_token_46 : decode (mX12_token).2.1 46 = .ok ((.if_icmp .ne 11), 3) ∧ decode (mX12_token).2.1 49 = .ok ((.aload_n 0), 1) ∧ decode (mX12_token).2.1 50 = .ok ((.iconst 4), 1) ∧ decode (mX12_token).2.1 51 = .ok ((.putfield 188), 3) ∧ decode (mX12_token).2.1 54 = .ok ((.goto 171), 3) ∧ decode (mX12_token).2.1 57 = .ok ((.iload_n 1), 1) := by decide +kernel
theorem dX12_token_46 : Dc mX12_token 46 (.if_icmp .ne 11) 3 49 := ⟨k_dX12_token_46.1, rfl⟩
theorem dX12_token_49 : Dc mX12_token 49 (.aload_n 0) 1 50 := ⟨k_dX12_token_46.2.1, rfl⟩
theorem dX12_token_50 : Dc mX12_token 50 (.iconst 4) 1 51 := ⟨k_dX12_token_46.2.2.1, rfl⟩
theorem dX12_token_51 : Dc mX12_token 51 (.putfield 188) 3 54 := ⟨k_dX12_token_46.2.2.2.1, rfl⟩
theorem dX12_token_54 : Dc mX12_token 54 (.goto 171) 3 57 := ⟨k_dX12_token_46.2.2.2.2.1, rfl⟩
theorem dX12_token_57 : Dc mX12_token 57 (.iload_n 1) 1 58 := ⟨k_dX12_token_46.2.2.2.2.2, rfl⟩
theorem k_dX12_token_58 : decode (mX12_token).2.1 58 = .ok ((.invokestatic 191), 3) ∧ decode (mX12_token).2.1 61 = .ok ((.ifCond .eq 84), 3) ∧ decode (mX12_token).2.1 64 = .ok ((.aload_n 0), 1) ∧ decode (mX12_token).2.1 65 = .ok ((.invokevirtual 181), 3) ∧ decode (mX12_token).2.1 68 = .ok ((.invokestatic 191), 3) ∧ decode (mX12_token).2.1 71 = .ok ((.ifCond .eq 16), 3) := by decide +kernel
theorem dX12_token_58 : Dc mX12_token 58 (.invokestatic 191) 3 61 := ⟨k_dX12_token_58.1, rfl⟩
theorem dX12_token_61 : Dc mX12_token 61 (.ifCond .eq 84) 3 64 := ⟨k_dX12_token_58.2.1, rfl⟩
theorem dX12_token_64 : Dc mX12_token 64 (.aload_n 0) 1 65 := ⟨k_dX12_token_58.2.2.1, rfl⟩
theorem dX12_token_65 : Dc mX12_token 65 (.invokevirtual 181) 3 68 := ⟨k_dX12_token_58.2.2.2.1, rfl⟩
theorem dX12_token_68 : Dc mX12_token 68 (.invokestatic 191) 3 71 := ⟨k_dX12_token_58.2.2.2.2.1, rfl⟩
theorem dX12_token_71 : Dc mX12_token 71 (.ifCond .eq 16) 3 74 := ⟨k_dX12_token_58.2.2.2.2.2, rfl⟩
theorem k_dX12_token_74 : decode (mX12_token).2.1 74 = .ok ((.aload_n 0), 1) ∧ decode (mX12_token).2.1 75 = .ok ((.dup), 1) ∧ decode (mX12_token).2.1 76 = .ok ((.getfield 175), 3) ∧ decode (mX12_token).2.1 79 = .ok ((.iconst 1), 1) ∧ decode (mX12_token).2.1 80 = .ok ((.iadd), 1) ∧ decode (mX12_token).2.1 81 = .ok ((.putfield 175), 3) := by decide +kernel
theorem dX12_token_74 : Dc mX12_token 74 (.aload_n 0) 1 75 := ⟨k_dX12_token_74.1, rfl⟩
theorem dX12_token_75 : Dc mX12_token 75 (.dup) 1 76 := ⟨k_dX12_token_74.2.1, rfl⟩
theorem dX12_token_76 : Dc mX12_token 76 (.getfield 175) 3 79 := ⟨k_dX12_token_74.2.2.1, rfl⟩
theorem dX12_token_79 : Dc mX12_token 79 (.iconst 1) 1 80 := ⟨k_dX12_token_74.2.2.2.1, rfl⟩
theorem dX12_token_80 : Dc mX12_token 80 (.iadd) 1 81 := ⟨k_dX12_token_74.2.2.2.2.1, rfl⟩
theorem dX12_token_81 : Dc mX12_token 81 (.putfield 175) 3 84 := ⟨k_dX12_token_74.2.2.2.2.2, rfl⟩
theorem k_dX12_token_84 : decode (mX12_token).2.1 84 = .ok ((.goto (-20)), 3) ∧ decode (mX12_token).2.1 87 = .ok ((.aload_n 0), 1) ∧ decode (mX12_token).2.1 88 = .ok ((.aload_n 0), 1) ∧ decode (mX12_token).2.1 89 = .ok ((.invokevirtual 195), 3) ∧ decode (mX12_token).2.1 92 = .ok ((.putfield 198), 3) ∧ decode (mX12_token).2.1 95 = .ok ((.aload_n 0), 1) := by decide +kernel
theorem dX12_token_84 : Dc mX12_token 84 (.goto (-20)) 3 87 := ⟨k_dX12_token_84.1, rfl⟩
theorem dX12_token_87 : Dc mX12_token 87 (.aload_n 0) 1 88 := ⟨k_dX12_token_84.2.1, rfl⟩
theorem dX12_token_88 : Dc mX12_token 88 (.aload_n 0) 1 89 := ⟨k_dX12_token_84.2.2.1, rfl⟩
theorem dX12_token_89 : Dc mX12_token 89 (.invokevirtual 195) 3 92 := ⟨k_dX12_token_84.2.2.2.1, rfl⟩
theorem dX12_token_92 : Dc mX12_token 92 (.putfield 198) 3 95 := ⟨k_dX12_token_84.2.2.2.2.1, rfl⟩
theorem dX12_token_95 : Dc mX12_token 95 (.aload_n 0) 1 96 := ⟨k_dX12_token_84.2.2.2.2.2, rfl⟩
theorem k_dX12_token_96 : decode (mX12_token).2.1 96 = .ok ((.aload_n 0), 1) ∧ decode (mX12_token).2.1 97 = .ok ((.getfield 198), 3) ∧ decode (mX12_token).2.1 100 = .ok ((.iconst (-1)), 1) ∧ decode (mX12_token).2.1 101 = .ok ((.if_icmp .eq 7), 3) ∧ decode (mX12_token).2.1 104 = .ok ((.iconst 0), 1) ∧ decode (mX12_token).2.1 105 = .ok ((.goto 22), 3) := by decide +kernel
theorem dX12_token_96 : Dc mX12_token 96 (.aload_n 0) 1 97 := ⟨k_dX12_token_96.1, rfl⟩
theorem dX12_token_97 : Dc mX12_token 97 (.getfield 198) 3 100 := ⟨k_dX12_token_96.2.1, rfl⟩
theorem dX12_token_100 : Dc mX12_token 100 (.iconst (-1)) 1 101 := ⟨k_dX12_token_96.2.2.1, rfl⟩
theorem dX12_token_101 : Dc mX12_token 101 (.if_icmp .eq 7) 3 104 := ⟨k_dX12_token_96.2.2.2.1, rfl⟩
theorem dX12_token_104 : Dc mX12_token 104 (.iconst 0) 1 105 := ⟨k_dX12_token_96.2.2.2.2.1, rfl⟩
theorem dX12_token_105 : Dc mX12_token 105 (.goto 22) 3 108 := ⟨k_dX12_token_96.2.2.2.2.2, rfl⟩
theorem k_dX12_token_108 : decode (mX12_token).2.1 108 = .ok ((.aload_n 0), 1) ∧ decode (mX12_token).2.1 109 = .ok ((.getfield 175), 3) ∧ decode (mX12_token).2.1 112 = .ok ((.aload_n 0), 1) ∧ decode (mX12_token).2.1 113 = .ok ((.getfield 185), 3) ∧ decode (mX12_token).2.1 116 = .ok ((.isub), 1) ∧ decode (mX12_token).2.1 117 = .ok ((.bipush 6), 2) := by decide +kernel
theorem dX12_token_108 : Dc mX12_token 108 (.aload_n 0) 1 109 := ⟨k_dX12_token_108.1, rfl⟩
theorem dX12_token_109 : Dc mX12_token 109 (.getfield 175) 3 112 := ⟨k_dX12_token_108.2.1, rfl⟩
theorem dX12_token_112 : Dc mX12_token 112 (.aload_n 0) 1 113 := ⟨k_dX12_token_108.2.2.1, rfl⟩
theorem dX12_token_113 : Dc mX12_token 113 (.getfield 185) 3 116 := ⟨k_dX12_token_108.2.2.2.1, rfl⟩
theorem dX12_token_116 : Dc mX12_token 116 (.isub) 1 117 := ⟨k_dX12_token_108.2.2.2.2.1, rfl⟩
theorem dX12_token_117 : Dc mX12_token 117 (.bipush 6) 2 119 := ⟨k_dX12_token_108.2.2.2.2.2, rfl⟩
theorem k_dX12_token_119 : decode (mX12_token).2.1 119 = .ok ((.if_icmp .le 7), 3) ∧ decode (mX12_token).2.1 122 = .ok ((.iconst 5), 1) ∧ decode (mX12_token).2.1 123 = .ok ((.goto 4), 3) ∧ decode (mX12_token).2.1 126 = .ok ((.iconst 1), 1) ∧ decode (mX12_token).2.1 127 = .ok ((.putfield 188), 3) ∧ decode (mX12_token).2.1 130 = .ok ((.aload_n 0), 1) := by decide +kernel
theorem dX12_token_119 : Dc mX12_token 119 (.if_icmp .le 7) 3 122 := ⟨k_dX12_token_119.1, rfl⟩
theorem dX12_token_122 : Dc mX12_token 122 (.iconst 5) 1 123 := ⟨k_dX12_token_119.2.1, rfl⟩
theorem dX12_token_123 : Dc mX12_token 123 (.goto 4) 3 126 := ⟨k_dX12_token_119.2.2.1, rfl⟩
theorem dX12_token_126 : Dc mX12_token 126 (.iconst 1) 1 127 := ⟨k_dX12_token_119.2.2.2.1, rfl⟩
theorem dX12_token_127 : Dc mX12_token 127 (.putfield 188) 3 130 := ⟨k_dX12_token_119.2.2.2.2.1, rfl⟩
theorem dX12_token_130 : Dc mX12_token 130 (.aload_n 0) 1 131 := ⟨k_dX12_token_119.2.2.2.2.2, rfl⟩
theorem k_dX12_token_131 : decode (mX12_token).2.1 131 = .ok ((.getfield 188), 3) ∧ decode (mX12_token).2.1 134 = .ok ((.iconst 1), 1) ∧ decode (mX12_token).2.1 135 = .ok ((.if_icmp .ne 90), 3) ∧ decode (mX12_token).2.1 138 = .ok ((.aload_n 0), 1) ∧ decode (mX12_token).2.1 139 = .ok ((.invokevirtual 201), 3) ∧ decode (mX12_token).2.1 142 = .ok ((.goto 83), 3) := by decide +kernel
theorem dX12_token_131 : Dc mX12_token 131 (.getfield 188) 3 134 := ⟨k_dX12_token_131.1, rfl⟩
theorem dX12_token_134 : Dc mX12_token 134 (.iconst 1) 1 135 := ⟨k_dX12_token_131.2.1, rfl⟩
theorem dX12_token_135 : Dc mX12_token 135 (.if_icmp .ne 90) 3 138 := ⟨k_dX12_token_131.2.2.1, rfl⟩
theorem dX12_token_138 : Dc mX12_token 138 (.aload_n 0) 1 139 := ⟨k_dX12_token_131.2.2.2.1, rfl⟩
theorem dX12_token_139 : Dc mX12_token 139 (.invokevirtual 201) 3 142 := ⟨k_dX12_token_131.2.2.2.2.1, rfl⟩
theorem dX12_token_142 : Dc mX12_token 142 (.goto 83) 3 145 := ⟨k_dX12_token_131.2.2.2.2.2, rfl⟩
theorem k_dX12_token_145 : decode (mX12_token).2.1 145 = .ok ((.iload_n 1), 1) ∧ decode (mX12_token).2.1 146 = .ok ((.invokestatic 204), 3) ∧ decode (mX12_token).2.1 149 = .ok ((.ifCond .eq 71), 3) ∧ decode (mX12_token).2.1 152 = .ok ((.aload_n 0), 1) ∧ decode (mX12_token).2.1 153 = .ok ((.iconst 2), 1) ∧ decode (mX12_token).2.1 154 = .ok ((.putfield 188), 3) := by decide +kernel
theorem dX12_token_145 : Dc mX12_token 145 (.iload_n 1) 1 146 := ⟨k_dX12_token_145.1, rfl⟩
theorem dX12_token_146 : Dc mX12_token 146 (.invokestatic 204) 3 149 := ⟨k_dX12_token_145.2.1, rfl⟩
theorem dX12_token_149 : Dc mX12_token 149 (.ifCond .eq 71) 3 152 := ⟨k_dX12_token_145.2.2.1, rfl⟩
theorem dX12_token_152 : Dc mX12_token 152 (.aload_n 0) 1 153 := ⟨k_dX12_token_145.2.2.2.1, rfl⟩
theorem dX12_token_153 : Dc mX12_token 153 (.iconst 2) 1 154 := ⟨k_dX12_token_145.2.2.2.2.1, rfl⟩
theorem dX12_token_154 : Dc mX12_token 154 (.putfield 188) 3 157 := ⟨k_dX12_token_145.2.2.2.2.2, rfl⟩
theorem k_dX12_token_157 : decode (mX12_token).2.1 157 = .ok ((.aload_n 0), 1) ∧ decode (mX12_token).2.1 158 = .ok ((.iconst 0), 1) ∧ decode (mX12_token).2.1 159 = .ok ((.putfield 198), 3) ∧ decode (mX12_token).2.1 162 = .ok ((.aload_n 0), 1) ∧ decode (mX12_token).2.1 163 = .ok ((.invokevirtual 181), 3) ∧ decode (mX12_token).2.1 166 = .ok ((.invokestatic 204), 3) := by decide +kernel
theorem dX12_token_157 : Dc mX12_token 157 (.aload_n 0) 1 158 := ⟨k_dX12_token_157.1, rfl⟩
theorem dX12_token_158 : Dc mX12_token 158 (.iconst 0) 1 159 := ⟨k_dX12_token_157.2.1, rfl⟩
theorem dX12_token_159 : Dc mX12_token 159 (.putfield 198) 3 162 := ⟨k_dX12_token_157.2.2.1, rfl⟩
theorem dX12_token_162 : Dc mX12_token 162 (.aload_n 0) 1 163 := ⟨k_dX12_token_157.2.2.2.1, rfl⟩
theorem dX12_token_163 : Dc mX12_token 163 (.invokevirtual 181) 3 166 := ⟨k_dX12_token_157.2.2.2.2.1, rfl⟩
theorem dX12_token_166 : Dc mX12_token 166 (.invokestatic 204) 3 169 := ⟨k_dX12_token_157.2.2.2.2.2, rfl⟩
theorem k_dX12_token_169 : decode (mX12_token).2.1 169 = .ok ((.ifCond .eq 56), 3) ∧ decode (mX12_token).2.1 172 = .ok ((.aload_n 0), 1) ∧ decode (mX12_token).2.1 173 = .ok ((.aload_n 0), 1) ∧ decode (mX12_token).2.1 174 = .ok ((.getfield 198), 3) ∧ decode (mX12_token).2.1 177 = .ok ((.ldc 207), 2) ∧ decode (mX12_token).2.1 179 = .ok ((.if_icmp .le 10), 3) := by decide +kernel
theorem dX12_token_169 : Dc mX12_token 169 (.ifCond .eq 56) 3 172 := ⟨k_dX12_token_169.1, rfl⟩
theorem dX12_token_172 : Dc mX12_token 172 (.aload_n 0) 1 173 := ⟨k_dX12_token_169.2.1, rfl⟩
theorem dX12_token_173 : Dc mX12_token 173 (.aload_n 0) 1 174 := ⟨k_dX12_token_169.2.2.1, rfl⟩
theorem dX12_token_174 : Dc mX12_token 174 (.getfield 198) 3 177 := ⟨k_dX12_token_169.2.2.2.1, rfl⟩
theorem dX12_token_177 : Dc mX12_token 177 (.ldc 207) 2 179 := ⟨k_dX12_token_169.2.2.2.2.1, rfl⟩
theorem dX12_token_179 : Dc mX12_token 179 (.if_icmp .le 10) 3 182 := ⟨k_dX12_token_169.2.2.2.2.2, rfl⟩
theorem k_dX12_token_182 : decode (mX12_token).2.1 182 = .ok ((.aload_n 0), 1) ∧ decode (mX12_token).2.1 183 = .ok ((.getfield 198), 3) ∧ decode (mX12_token).2.1 186 = .ok ((.goto 18), 3) ∧ decode (mX12_token).2.1 189 = .ok ((.bipush 10), 2) ∧ decode (mX12_token).2.1 191 = .ok ((.aload_n 0), 1) ∧ decode (mX12_token).2.1 192 = .ok ((.getfield 198), 3) := by decide +kernel
theorem dX12_token_182 : Dc mX12_token 182 (.aload_n 0) 1 183 := ⟨k_dX12_token_182.1, rfl⟩
theorem dX12_token_183 : Dc mX12_token 183 (.getfield 198) 3 186 := ⟨k_dX12_token_182.2.1, rfl⟩
theorem dX12_token_186 : Dc mX12_token 186 (.goto 18) 3 189 := ⟨k_dX12_token_182.2.2.1, rfl⟩
theorem dX12_token_189 : Dc mX12_token 189 (.bipush 10) 2 191 := ⟨k_dX12_token_182.2.2.2.1, rfl⟩
theorem dX12_token_191 : Dc mX12_token 191 (.aload_n 0) 1 192 := ⟨k_dX12_token_182.2.2.2.2.1, rfl⟩
theorem dX12_token_192 : Dc mX12_token 192 (.getfield 198) 3 195 := ⟨k_dX12_token_182.2.2.2.2.2, rfl⟩
theorem k_dX12_token_195 : decode (mX12_token).2.1 195 = .ok ((.imul), 1) ∧ decode (mX12_token).2.1 196 = .ok ((.aload_n 0), 1) ∧ decode (mX12_token).2.1 197 = .ok ((.invokevirtual 181), 3) ∧ decode (mX12_token).2.1 200 = .ok ((.iadd), 1) ∧ decode (mX12_token).2.1 201 = .ok ((.bipush 48), 2) ∧ decode (mX12_token).2.1 203 = .ok ((.isub), 1) := by decide +kernel
theorem dX12_token_195 : Dc mX12_token 195 (.imul) 1 196 := ⟨k_dX12_token_195.1, rfl⟩
theorem dX12_token_196 : Dc mX12_token 196 (.aload_n 0) 1 197 := ⟨k_dX12_token_195.2.1, rfl⟩
theorem dX12_token_197 : Dc mX12_token 197 (.invokevirtual 181) 3 200 := ⟨k_dX12_token_195.2.2.1, rfl⟩
theorem dX12_token_200 : Dc mX12_token 200 (.iadd) 1 201 := ⟨k_dX12_token_195.2.2.2.1, rfl⟩
theorem dX12_token_201 : Dc mX12_token 201 (.bipush 48) 2 203 := ⟨k_dX12_token_195.2.2.2.2.1, rfl⟩
theorem dX12_token_203 : Dc mX12_token 203 (.isub) 1 204 := ⟨k_dX12_token_195.2.2.2.2.2, rfl⟩
theorem k_dX12_token_204 : decode (mX12_token).2.1 204 = .ok ((.putfield 198), 3) ∧ decode (mX12_token).2.1 207 = .ok ((.aload_n 0), 1) ∧ decode (mX12_token).2.1 208 = .ok ((.dup), 1) ∧ decode (mX12_token).2.1 209 = .ok ((.getfield 175), 3) ∧ decode (mX12_token).2.1 212 = .ok ((.iconst 1), 1) ∧ decode (mX12_token).2.1 213 = .ok ((.iadd), 1) := by decide +kernel
theorem dX12_token_204 : Dc mX12_token 204 (.putfield 198) 3 207 := ⟨k_dX12_token_204.1, rfl⟩
theorem dX12_token_207 : Dc mX12_token 207 (.aload_n 0) 1 208 := ⟨k_dX12_token_204.2.1, rfl⟩
theorem dX12_token_208 : Dc mX12_token 208 (.dup) 1 209 := ⟨k_dX12_token_204.2.2.1, rfl⟩
theorem dX12_token_209 : Dc mX12_token 209 (.getfield 175) 3 212 := ⟨k_dX12_token_204.2.2.2.1, rfl⟩
theorem dX12_token_212 : Dc mX12_token 212 (.iconst 1) 1 213 := ⟨k_dX12_token_204.2.2.2.2.1, rfl⟩
theorem dX12_token_213 : Dc mX12_token 213 (.iadd) 1 214 := ⟨k_dX12_token_204.2.2.2.2.2, rfl⟩
theorem k_dX12_token_214 : decode (mX12_token).2.1 214 = .ok ((.putfield 175), 3) ∧ decode (mX12_token).2.1 217 = .ok ((.goto (-55)), 3) ∧ decode (mX12_token).2.1 220 = .ok ((.aload_n 0), 1) ∧ decode (mX12_token).2.1 221 = .ok ((.iload_n 1), 1) ∧ decode (mX12_token).2.1 222 = .ok ((.invokevirtual 208), 3) ∧ decode (mX12_token).2.1 225 = .ok ((.return_), 1) := by decide +kernel
theorem dX12_token_214 : Dc mX12_token 214 (.putfield 175) 3 217 := ⟨k_dX12_token_214.1, rfl⟩
theorem dX12_token_217 : Dc mX12_token 217 (.goto (-55)) 3 220 := ⟨k_dX12_token_214.2.1, rfl⟩
theorem dX12_token_220 : Dc mX12_token 220 (.aload_n 0) 1 221 := ⟨k_dX12_token_214.2.2.1, rfl⟩
theorem dX12_token_221 : Dc mX12_token 221 (.iload_n 1) 1 222 := ⟨k_dX12_token_214.2.2.2.1, rfl⟩
theorem dX12_token_222 : Dc mX12_token 222 (.invokevirtual 208) 3 225 := ⟨k_dX12_token_214.2.2.2.2.1, rfl⟩
theorem dX12_token_225 : Dc mX12_token 225 (.return_) 1 226 := ⟨k_dX12_token_214.2.2.2.2.2, rfl⟩
theorem k_dX12_sign_0 : decode (mX12_sign).2.1 0 = .ok ((.aload_n 0), 1) ∧ decode (mX12_sign).2.1 1 = .ok ((.dup), 1) ∧ decode (mX12_sign).2.1 2 = .ok ((.getfield 175), 3) ∧ decode (mX12_sign).2.1 5 = .ok ((.iconst 1), 1) ∧ decode (mX12_sign).2.1 6 = .ok ((.iadd), 1) ∧ decode (mX12_sign).2.1 7 = .ok ((.putfield 175), 3) := by decide +kernel
theorem dX12_sign_0 : Dc mX12_sign 0 (.aload_n 0) 1 1 := ⟨k_dX12_sign_0.1, rfl⟩
theorem dX12_sign_1 : Dc mX12_sign 1 (.dup) 1 2 := ⟨k_dX12_sign_0.2.1, rfl⟩
theorem dX12_sign_2 : Dc mX12_sign 2 (.getfield 175) 3 5 := ⟨k_dX12_sign_0.2.2.1, rfl⟩
theorem dX12_sign_5 : Dc mX12_sign 5 (.iconst 1) 1 6 := ⟨k_dX12_sign_0.2.2.2.1, rfl⟩
theorem dX12_sign_6 : Dc mX12_sign 6 (.iadd) 1 7 := ⟨k_dX12_sign_0.2.2.2.2.1, rfl⟩
theorem dX12_sign_7 : Dc mX12_sign 7 (.putfield 175) 3 10 := ⟨k_dX12_sign_0.2.2.2.2.2, rfl⟩
theorem k_dX12_sign_10 : decode (mX12_sign).2.1 10 = .ok ((.aload_n 0), 1) ∧ decode (mX12_sign).2.1 11 = .ok ((.iload_n 1), 1) ∧ decode (mX12_sign).2.1 12 = .ok ((.bipush 59), 2) ∧ decode (mX12_sign).2.1 14 = .ok ((.if_icmp .eq 57), 3) ∧ decode (mX12_sign).2.1 17 = .ok ((.iload_n 1), 1) ∧ decode (mX12_sign).2.1 18 = .ok ((.bipush 40), 2) := by decide +kernel
theorem dX12_sign_10 : Dc mX12_sign 10 (.aload_n 0) 1 11 := ⟨k_dX12_sign_10.1, rfl⟩
theorem dX12_sign_11 : Dc mX12_sign 11 (.iload_n 1) 1 12 := ⟨k_dX12_sign_10.2.1, rfl⟩
theorem dX12_sign_12 : Dc mX12_sign 12 (.bipush 59) 2 14 := ⟨k_dX12_sign_10.2.2.1, rfl⟩
theorem dX12_sign_14 : Dc mX12_sign 14 (.if_icmp .eq 57) 3 17 := ⟨k_dX12_sign_10.2.2.2.1, rfl⟩
theorem dX12_sign_17 : Dc mX12_sign 17 (.iload_n 1) 1 18 := ⟨k_dX12_sign_10.2.2.2.2.1, rfl⟩
theorem dX12_sign_18 : Dc mX12_sign 18 (.bipush 40) 2 20 := ⟨k_dX12_sign_10.2.2.2.2.2, rfl⟩
theorem k_dX12_sign_20 : decode (mX12_sign).2.1 20 = .ok ((.if_icmp .eq 51), 3) ∧ decode (mX12_sign).2.1 23 = .ok ((.iload_n 1), 1) ∧ decode (mX12_sign).2.1 24 = .ok ((.bipush 41), 2) ∧ decode (mX12_sign).2.1 26 = .ok ((.if_icmp .eq 45), 3) ∧ decode (mX12_sign).2.1 29 = .ok ((.iload_n 1), 1) ∧ decode (mX12_sign).2.1 30 = .ok ((.bipush 43), 2) := by decide +kernel
theorem dX12_sign_20 : Dc mX12_sign 20 (.if_icmp .eq 51) 3 23 := ⟨k_dX12_sign_20.1, rfl⟩
theorem dX12_sign_23 : Dc mX12_sign 23 (.iload_n 1) 1 24 := ⟨k_dX12_sign_20.2.1, rfl⟩
theorem dX12_sign_24 : Dc mX12_sign 24 (.bipush 41) 2 26 := ⟨k_dX12_sign_20.2.2.1, rfl⟩
theorem dX12_sign_26 : Dc mX12_sign 26 (.if_icmp .eq 45) 3 29 := ⟨k_dX12_sign_20.2.2.2.1, rfl⟩
theorem dX12_sign_29 : Dc mX12_sign 29 (.iload_n 1) 1 30 := ⟨k_dX12_sign_20.2.2.2.2.1, rfl⟩
theorem dX12_sign_30 : Dc mX12_sign 30 (.bipush 43) 2 32 := ⟨k_dX12_sign_20.2.2.2.2.2, rfl⟩
theorem k_dX12_sign_32 : decode (mX12_sign).2.1 32 = .ok ((.if_icmp .eq 39), 3) ∧ decode (mX12_sign).2.1 35 = .ok ((.iload_n 1), 1) ∧ decode (mX12_sign).2.1 36 = .ok ((.bipush 45), 2) ∧ decode (mX12_sign).2.1 38 = .ok ((.if_icmp .eq 33), 3) ∧ decode (mX12_sign).2.1 41 = .ok ((.iload_n 1), 1) ∧ decode (mX12_sign).2.1 42 = .ok ((.bipush 42), 2) := by decide +kernel
theorem dX12_sign_32 : Dc mX12_sign 32 (.if_icmp .eq 39) 3 35 := ⟨k_dX12_sign_32.1, rfl⟩
theorem dX12_sign_35 : Dc mX12_sign 35 (.iload_n 1) 1 36 := ⟨k_dX12_sign_32.2.1, rfl⟩
theorem dX12_sign_36 : Dc mX12_sign 36 (.bipush 45) 2 38 := ⟨k_dX12_sign_32.2.2.1, rfl⟩
theorem dX12_sign_38 : Dc mX12_sign 38 (.if_icmp .eq 33) 3 41 := ⟨k_dX12_sign_32.2.2.2.1, rfl⟩
theorem dX12_sign_41 : Dc mX12_sign 41 (.iload_n 1) 1 42 := ⟨k_dX12_sign_32.2.2.2.2.1, rfl⟩
theorem dX12_sign_42 : Dc mX12_sign 42 (.bipush 42) 2 44 := ⟨k_dX12_sign_32.2.2.2.2.2, rfl⟩
theorem k_dX12_sign_44 : decode (mX12_sign).2.1 44 = .ok ((.if_icmp .eq 27), 3) ∧ decode (mX12_sign).2.1 47 = .ok ((.iload_n 1), 1) ∧ decode (mX12_sign).2.1 48 = .ok ((.bipush 47), 2) ∧ decode (mX12_sign).2.1 50 = .ok ((.if_icmp .eq 21), 3) ∧ decode (mX12_sign).2.1 53 = .ok ((.iload_n 1), 1) ∧ decode (mX12_sign).2.1 54 = .ok ((.bipush 60), 2) := by decide +kernel
theorem dX12_sign_44 : Dc mX12_sign 44 (.if_icmp .eq 27) 3 47 := ⟨k_dX12_sign_44.1, rfl⟩
theorem dX12_sign_47 : Dc mX12_sign 47 (.iload_n 1) 1 48 := ⟨k_dX12_sign_44.2.1, rfl⟩
theorem dX12_sign_48 : Dc mX12_sign 48 (.bipush 47) 2 50 := ⟨k_dX12_sign_44.2.2.1, rfl⟩
theorem dX12_sign_50 : Dc mX12_sign 50 (.if_icmp .eq 21) 3 53 := ⟨k_dX12_sign_44.2.2.2.1, rfl⟩
theorem dX12_sign_53 : Dc mX12_sign 53 (.iload_n 1) 1 54 := ⟨k_dX12_sign_44.2.2.2.2.1, rfl⟩
theorem dX12_sign_54 : Dc mX12_sign 54 (.bipush 60) 2 56 := ⟨k_dX12_sign_44.2.2.2.2.2, rfl⟩
theorem k_dX12_sign_56 : decode (mX12_sign).2.1 56 = .ok ((.if_icmp .eq 15), 3) ∧ decode (mX12_sign).2.1 59 = .ok ((.iload_n 1), 1) ∧ decode (mX12_sign).2.1 60 = .ok ((.bipush 61), 2) ∧ decode (mX12_sign).2.1 62 = .ok ((.if_icmp .eq 9), 3) ∧ decode (mX12_sign).2.1 65 = .ok ((.iload_n 1), 1) ∧ decode (mX12_sign).2.1 66 = .ok ((.bipush 62), 2) := by decide +kernel
theorem dX12_sign_56 : Dc mX12_sign 56 (.if_icmp .eq 15) 3 59 := ⟨k_dX12_sign_56.1, rfl⟩
theorem dX12_sign_59 : Dc mX12_sign 59 (.iload_n 1) 1 60 := ⟨k_dX12_sign_56.2.1, rfl⟩
theorem dX12_sign_60 : Dc mX12_sign 60 (.bipush 61) 2 62 := ⟨k_dX12_sign_56.2.2.1, rfl⟩
theorem dX12_sign_62 : Dc mX12_sign 62 (.if_icmp .eq 9) 3 65 := ⟨k_dX12_sign_56.2.2.2.1, rfl⟩
theorem dX12_sign_65 : Dc mX12_sign 65 (.iload_n 1) 1 66 := ⟨k_dX12_sign_56.2.2.2.2.1, rfl⟩
theorem dX12_sign_66 : Dc mX12_sign 66 (.bipush 62) 2 68 := ⟨k_dX12_sign_56.2.2.2.2.2, rfl⟩
theorem k_dX12_sign_68 : decode (mX12_sign).2.1 68 = .ok ((.if_icmp .ne 7), 3) ∧ decode (mX12_sign).2.1 71 = .ok ((.iconst 3), 1) ∧ decode (mX12_sign).2.1 72 = .ok ((.goto 4), 3) ∧ decode (mX12_sign).2.1 75 = .ok ((.iconst 5), 1) ∧ decode (mX12_sign).2.1 76 = .ok ((.putfield 188), 3) ∧ decode (mX12_sign).2.1 79 = .ok ((.aload_n 0), 1) := by decide +kernel
theorem dX12_sign_68 : Dc mX12_sign 68 (.if_icmp .ne 7) 3 71 := ⟨k_dX12_sign_68.1, rfl⟩
theorem dX12_sign_71 : Dc mX12_sign 71 (.iconst 3) 1 72 := ⟨k_dX12_sign_68.2.1, rfl⟩
theorem dX12_sign_72 : Dc mX12_sign 72 (.goto 4) 3 75 := ⟨k_dX12_sign_68.2.2.1, rfl⟩
theorem dX12_sign_75 : Dc mX12_sign 75 (.iconst 5) 1 76 := ⟨k_dX12_sign_68.2.2.2.1, rfl⟩
theorem dX12_sign_76 : Dc mX12_sign 76 (.putfield 188) 3 79 := ⟨k_dX12_sign_68.2.2.2.2.1, rfl⟩
theorem dX12_sign_79 : Dc mX12_sign 79 (.aload_n 0) 1 80 := ⟨k_dX12_sign_68.2.2.2.2.2, rfl⟩
theorem k_dX12_sign_80 : decode (mX12_sign).2.1 80 = .ok ((.iload_n 1), 1) ∧ decode (mX12_sign).2.1 81 = .ok ((.putfield 198), 3) ∧ decode (mX12_sign).2.1 84 = .ok ((.iload_n 1), 1) ∧ decode (mX12_sign).2.1 85 = .ok ((.bipush 60), 2) ∧ decode (mX12_sign).2.1 87 = .ok ((.if_icmp .ne 19), 3) ∧ decode (mX12_sign).2.1 90 = .ok ((.aload_n 0), 1) := by decide +kernel
theorem dX12_sign_80 : Dc mX12_sign 80 (.iload_n 1) 1 81 := ⟨k_dX12_sign_80.1, rfl⟩
theorem dX12_sign_81 : Dc mX12_sign 81 (.putfield 198) 3 84 := ⟨k_dX12_sign_80.2.1, rfl⟩
theorem dX12_sign_84 : Dc mX12_sign 84 (.iload_n 1) 1 85 := ⟨k_dX12_sign_80.2.2.1, rfl⟩
theorem dX12_sign_85 : Dc mX12_sign 85 (.bipush 60) 2 87 := ⟨k_dX12_sign_80.2.2.2.1, rfl⟩
theorem dX12_sign_87 : Dc mX12_sign 87 (.if_icmp .ne 19) 3 90 := ⟨k_dX12_sign_80.2.2.2.2.1, rfl⟩
theorem dX12_sign_90 : Dc mX12_sign 90 (.aload_n 0) 1 91 := ⟨k_dX12_sign_80.2.2.2.2.2, rfl⟩
theorem k_dX12_sign_91 : decode (mX12_sign).2.1 91 = .ok ((.invokevirtual 181), 3) ∧ decode (mX12_sign).2.1 94 = .ok ((.bipush 61), 2) ∧ decode (mX12_sign).2.1 96 = .ok ((.if_icmp .ne 10), 3) ∧ decode (mX12_sign).2.1 99 = .ok ((.aload_n 0), 1) ∧ decode (mX12_sign).2.1 100 = .ok ((.sipush 256), 3) ∧ decode (mX12_sign).2.1 103 = .ok ((.putfield 198), 3) := by decide +kernel
theorem dX12_sign_91 : Dc mX12_sign 91 (.invokevirtual 181) 3 94 := ⟨k_dX12_sign_91.1, rfl⟩
theorem dX12_sign_94 : Dc mX12_sign 94 (.bipush 61) 2 96 := ⟨k_dX12_sign_91.2.1, rfl⟩
theorem dX12_sign_96 : Dc mX12_sign 96 (.if_icmp .ne 10) 3 99 := ⟨k_dX12_sign_91.2.2.1, rfl⟩
theorem dX12_sign_99 : Dc mX12_sign 99 (.aload_n 0) 1 100 := ⟨k_dX12_sign_91.2.2.2.1, rfl⟩
theorem dX12_sign_100 : Dc mX12_sign 100 (.sipush 256) 3 103 := ⟨k_dX12_sign_91.2.2.2.2.1, rfl⟩
theorem dX12_sign_103 : Dc mX12_sign 103 (.putfield 198) 3 106 := ⟨k_dX12_sign_91.2.2.2.2.2, rfl⟩
theorem k_dX12_sign_106 : decode (mX12_sign).2.1 106 = .ok ((.iload_n 1), 1) ∧ decode (mX12_sign).2.1 107 = .ok ((.bipush 60), 2) ∧ decode (mX12_sign).2.1 109 = .ok ((.if_icmp .ne 19), 3) ∧ decode (mX12_sign).2.1 112 = .ok ((.aload_n 0), 1) ∧ decode (mX12_sign).2.1 113 = .ok ((.invokevirtual 181), 3) ∧ decode (mX12_sign).2.1 116 = .ok ((.bipush 62), 2) := by decide +kernel
theorem dX12_sign_106 : Dc mX12_sign 106 (.iload_n 1) 1 107 := ⟨k_dX12_sign_106.1, rfl⟩
theorem dX12_sign_107 : Dc mX12_sign 107 (.bipush 60) 2 109 := ⟨k_dX12_sign_106.2.1, rfl⟩
theorem dX12_sign_109 : Dc mX12_sign 109 (.if_icmp .ne 19) 3 112 := ⟨k_dX12_sign_106.2.2.1, rfl⟩
theorem dX12_sign_112 : Dc mX12_sign 112 (.aload_n 0) 1 113 := ⟨k_dX12_sign_106.2.2.2.1, rfl⟩
theorem dX12_sign_113 : Dc mX12_sign 113 (.invokevirtual 181) 3 116 := ⟨k_dX12_sign_106.2.2.2.2.1, rfl⟩
theorem dX12_sign_116 : Dc mX12_sign 116 (.bipush 62) 2 118 := ⟨k_dX12_sign_106.2.2.2.2.2, rfl⟩
theorem k_dX12_sign_118 : decode (mX12_sign).2.1 118 = .ok ((.if_icmp .ne 10), 3) ∧ decode (mX12_sign).2.1 121 = .ok ((.aload_n 0), 1) ∧ decode (mX12_sign).2.1 122 = .ok ((.sipush 257), 3) ∧ decode (mX12_sign).2.1 125 = .ok ((.putfield 198), 3) ∧ decode (mX12_sign).2.1 128 = .ok ((.iload_n 1), 1) ∧ decode (mX12_sign).2.1 129 = .ok ((.bipush 62), 2) := by decide +kernel
theorem dX12_sign_118 : Dc mX12_sign 118 (.if_icmp .ne 10) 3 121 := ⟨k_dX12_sign_118.1, rfl⟩
theorem dX12_sign_121 : Dc mX12_sign 121 (.aload_n 0) 1 122 := ⟨k_dX12_sign_118.2.1, rfl⟩
theorem dX12_sign_122 : Dc mX12_sign 122 (.sipush 257) 3 125 := ⟨k_dX12_sign_118.2.2.1, rfl⟩
theorem dX12_sign_125 : Dc mX12_sign 125 (.putfield 198) 3 128 := ⟨k_dX12_sign_118.2.2.2.1, rfl⟩
theorem dX12_sign_128 : Dc mX12_sign 128 (.iload_n 1) 1 129 := ⟨k_dX12_sign_118.2.2.2.2.1, rfl⟩
theorem dX12_sign_129 : Dc mX12_sign 129 (.bipush 62) 2 131 := ⟨k_dX12_sign_118.2.2.2.2.2, rfl⟩
theorem k_dX12_sign_131 : decode (mX12_sign).2.1 131 = .ok ((.if_icmp .ne 19), 3) ∧ decode (mX12_sign).2.1 134 = .ok ((.aload_n 0), 1) ∧ decode (mX12_sign).2.1 135 = .ok ((.invokevirtual 181), 3) ∧ decode (mX12_sign).2.1 138 = .ok ((.bipush 61), 2) ∧ decode (mX12_sign).2.1 140 = .ok ((.if_icmp .ne 10), 3) ∧ decode (mX12_sign).2.1 143 = .ok ((.aload_n 0), 1) := by decide +kernel
theorem dX12_sign_131 : Dc mX12_sign 131 (.if_icmp .ne 19) 3 134 := ⟨k_dX12_sign_131.1, rfl⟩
theorem dX12_sign_134 : Dc mX12_sign 134 (.aload_n 0) 1 135 := ⟨k_dX12_sign_131.2.1, rfl⟩
theorem dX12_sign_135 : Dc mX12_sign 135 (.invokevirtual 181) 3 138 := ⟨k_dX12_sign_131.2.2.1, rfl⟩
theorem dX12_sign_138 : Dc mX12_sign 138 (.bipush 61) 2 140 := ⟨k_dX12_sign_131.2.2.2.1, rfl⟩
theorem dX12_sign_140 : Dc mX12_sign 140 (.if_icmp .ne 10) 3 143 := ⟨k_dX12_sign_131.2.2.2.2.1, rfl⟩
theorem dX12_sign_143 : Dc mX12_sign 143 (.aload_n 0) 1 144 := ⟨k_dX12_sign_131.2.2.2.2.2, rfl⟩
theorem k_dX12_sign_144 : decode (mX12_sign).2.1 144 = .ok ((.sipush 258), 3) ∧ decode (mX12_sign).2.1 147 = .ok ((.putfield 198), 3) ∧ decode (mX12_sign).2.1 150 = .ok ((.aload_n 0), 1) ∧ decode (mX12_sign).2.1 151 = .ok ((.getfield 198), 3) ∧ decode (mX12_sign).2.1 154 = .ok ((.sipush 256), 3) ∧ decode (mX12_sign).2.1 157 = .ok ((.if_icmp .lt 13), 3) := by decide +kernel
theorem dX12_sign_144 : Dc mX12_sign 144 (.sipush 258) 3 147 := ⟨k_dX12_sign_144.1, rfl⟩
theorem dX12_sign_147 : Dc mX12_sign 147 (.putfield 198) 3 150 := ⟨k_dX12_sign_144.2.1, rfl⟩
theorem dX12_sign_150 : Dc mX12_sign 150 (.aload_n 0) 1 151 := ⟨k_dX12_sign_144.2.2.1, rfl⟩
theorem dX12_sign_151 : Dc mX12_sign 151 (.getfield 198) 3 154 := ⟨k_dX12_sign_144.2.2.2.1, rfl⟩
theorem dX12_sign_154 : Dc mX12_sign 154 (.sipush 256) 3 157 := ⟨k_dX12_sign_144.2.2.2.2.1, rfl⟩
theorem dX12_sign_157 : Dc mX12_sign 157 (.if_icmp .lt 13) 3 160 := ⟨k_dX12_sign_144.2.2.2.2.2, rfl⟩
theorem k_dX12_sign_160 : decode (mX12_sign).2.1 160 = .ok ((.aload_n 0), 1) ∧ decode (mX12_sign).2.1 161 = .ok ((.dup), 1) ∧ decode (mX12_sign).2.1 162 = .ok ((.getfield 175), 3) ∧ decode (mX12_sign).2.1 165 = .ok ((.iconst 1), 1) ∧ decode (mX12_sign).2.1 166 = .ok ((.iadd), 1) ∧ decode (mX12_sign).2.1 167 = .ok ((.putfield 175), 3) := by decide +kernel
theorem dX12_sign_160 : Dc mX12_sign 160 (.aload_n 0) 1 161 := ⟨k_dX12_sign_160.1, rfl⟩
theorem dX12_sign_161 : Dc mX12_sign 161 (.dup) 1 162 := ⟨k_dX12_sign_160.2.1, rfl⟩
theorem dX12_sign_162 : Dc mX12_sign 162 (.getfield 175) 3 165 := ⟨k_dX12_sign_160.2.2.1, rfl⟩
theorem dX12_sign_165 : Dc mX12_sign 165 (.iconst 1) 1 166 := ⟨k_dX12_sign_160.2.2.2.1, rfl⟩
theorem dX12_sign_166 : Dc mX12_sign 166 (.iadd) 1 167 := ⟨k_dX12_sign_160.2.2.2.2.1, rfl⟩
theorem dX12_sign_167 : Dc mX12_sign 167 (.putfield 175) 3 170 := ⟨k_dX12_sign_160.2.2.2.2.2, rfl⟩
theorem dX12_sign_170 : Dc mX12_sign 170 (.return_) 1 171 := ⟨by decide +kernel, rfl⟩
theorem k_dX12_word_0 : decode (mX12_word).2.1 0 = .ok ((.iconst 0), 1) ∧ decode (mX12_word).2.1 1 = .ok ((.istore_n 1), 1) ∧ decode (mX12_word).2.1 2 = .ok ((.iconst 0), 1) ∧ decode (mX12_word).2.1 3 = .ok ((.istore_n 2), 1) ∧ decode (mX12_word).2.1 4 = .ok ((.iload_n 2), 1) ∧ decode (mX12_word).2.1 5 = .ok ((.ldc 212), 2) := by decide +kernel
theorem dX12_word_0 : Dc mX12_word 0 (.iconst 0) 1 1 := ⟨k_dX12_word_0.1, rfl⟩
theorem dX12_word_1 : Dc mX12_word 1 (.istore_n 1) 1 2 := ⟨k_dX12_word_0.2.1, rfl⟩
theorem dX12_word_2 : Dc mX12_word 2 (.iconst 0) 1 3 := ⟨k_dX12_word_0.2.2.1, rfl⟩
theorem dX12_word_3 : Dc mX12_word 3 (.istore_n 2) 1 4 := ⟨k_dX12_word_0.2.2.2.1, rfl⟩
theorem dX12_word_4 : Dc mX12_word 4 (.iload_n 2) 1 5 := ⟨k_dX12_word_0.2.2.2.2.1, rfl⟩
theorem dX12_word_5 : Dc mX12_word 5 (.ldc 212) 2 7 := ⟨k_dX12_word_0.2.2.2.2.2, rfl⟩
theorem k_dX12_word_7 : decode (mX12_word).2.1 7 = .ok ((.invokevirtual 214), 3) ∧ decode (mX12_word).2.1 10 = .ok ((.if_icmp .ge 113), 3) ∧ decode (mX12_word).2.1 13 = .ok ((.iconst 0), 1) ∧ decode (mX12_word).2.1 14 = .ok ((.istore_n 3), 1) ∧ decode (mX12_word).2.1 15 = .ok ((.ldc 212), 2) ∧ decode (mX12_word).2.1 17 = .ok ((.iload_n 2), 1) := by decide +kernel
theorem dX12_word_7 : Dc mX12_word 7 (.invokevirtual 214) 3 10 := ⟨k_dX12_word_7.1, rfl⟩
theorem dX12_word_10 : Dc mX12_word 10 (.if_icmp .ge 113) 3 13 := ⟨k_dX12_word_7.2.1, rfl⟩
theorem dX12_word_13 : Dc mX12_word 13 (.iconst 0) 1 14 := ⟨k_dX12_word_7.2.2.1, rfl⟩
theorem dX12_word_14 : Dc mX12_word 14 (.istore_n 3) 1 15 := ⟨k_dX12_word_7.2.2.2.1, rfl⟩
theorem dX12_word_15 : Dc mX12_word 15 (.ldc 212) 2 17 := ⟨k_dX12_word_7.2.2.2.2.1, rfl⟩
theorem dX12_word_17 : Dc mX12_word 17 (.iload_n 2) 1 18 := ⟨k_dX12_word_7.2.2.2.2.2, rfl⟩
theorem k_dX12_word_18 : decode (mX12_word).2.1 18 = .ok ((.iload_n 3), 1) ∧ decode (mX12_word).2.1 19 = .ok ((.iadd), 1) ∧ decode (mX12_word).2.1 20 = .ok ((.invokevirtual 219), 3) ∧ decode (mX12_word).2.1 23 = .ok ((.bipush 32), 2) ∧ decode (mX12_word).2.1 25 = .ok ((.if_icmp .eq 44), 3) ∧ decode (mX12_word).2.1 28 = .ok ((.aload_n 0), 1) := by decide +kernel
theorem dX12_word_18 : Dc mX12_word 18 (.iload_n 3) 1 19 := ⟨k_dX12_word_18.1, rfl⟩
theorem dX12_word_19 : Dc mX12_word 19 (.iadd) 1 20 := ⟨k_dX12_word_18.2.1, rfl⟩
theorem dX12_word_20 : Dc mX12_word 20 (.invokevirtual 219) 3 23 := ⟨k_dX12_word_18.2.2.1, rfl⟩
theorem dX12_word_23 : Dc mX12_word 23 (.bipush 32) 2 25 := ⟨k_dX12_word_18.2.2.2.1, rfl⟩
theorem dX12_word_25 : Dc mX12_word 25 (.if_icmp .eq 44) 3 28 := ⟨k_dX12_word_18.2.2.2.2.1, rfl⟩
theorem dX12_word_28 : Dc mX12_word 28 (.aload_n 0) 1 29 := ⟨k_dX12_word_18.2.2.2.2.2, rfl⟩
theorem k_dX12_word_29 : decode (mX12_word).2.1 29 = .ok ((.getfield 185), 3) ∧ decode (mX12_word).2.1 32 = .ok ((.iload_n 3), 1) ∧ decode (mX12_word).2.1 33 = .ok ((.iadd), 1) ∧ decode (mX12_word).2.1 34 = .ok ((.aload_n 0), 1) ∧ decode (mX12_word).2.1 35 = .ok ((.getfield 175), 3) ∧ decode (mX12_word).2.1 38 = .ok ((.if_icmp .ge 31), 3) := by decide +kernel
theorem dX12_word_29 : Dc mX12_word 29 (.getfield 185) 3 32 := ⟨k_dX12_word_29.1, rfl⟩
theorem dX12_word_32 : Dc mX12_word 32 (.iload_n 3) 1 33 := ⟨k_dX12_word_29.2.1, rfl⟩
theorem dX12_word_33 : Dc mX12_word 33 (.iadd) 1 34 := ⟨k_dX12_word_29.2.2.1, rfl⟩
theorem dX12_word_34 : Dc mX12_word 34 (.aload_n 0) 1 35 := ⟨k_dX12_word_29.2.2.2.1, rfl⟩
theorem dX12_word_35 : Dc mX12_word 35 (.getfield 175) 3 38 := ⟨k_dX12_word_29.2.2.2.2.1, rfl⟩
theorem dX12_word_38 : Dc mX12_word 38 (.if_icmp .ge 31) 3 41 := ⟨k_dX12_word_29.2.2.2.2.2, rfl⟩
theorem k_dX12_word_41 : decode (mX12_word).2.1 41 = .ok ((.aload_n 0), 1) ∧ decode (mX12_word).2.1 42 = .ok ((.getfield 7), 3) ∧ decode (mX12_word).2.1 45 = .ok ((.aload_n 0), 1) ∧ decode (mX12_word).2.1 46 = .ok ((.getfield 185), 3) ∧ decode (mX12_word).2.1 49 = .ok ((.iload_n 3), 1) ∧ decode (mX12_word).2.1 50 = .ok ((.iadd), 1) := by decide +kernel
theorem dX12_word_41 : Dc mX12_word 41 (.aload_n 0) 1 42 := ⟨k_dX12_word_41.1, rfl⟩
theorem dX12_word_42 : Dc mX12_word 42 (.getfield 7) 3 45 := ⟨k_dX12_word_41.2.1, rfl⟩
theorem dX12_word_45 : Dc mX12_word 45 (.aload_n 0) 1 46 := ⟨k_dX12_word_41.2.2.1, rfl⟩
theorem dX12_word_46 : Dc mX12_word 46 (.getfield 185) 3 49 := ⟨k_dX12_word_41.2.2.2.1, rfl⟩
theorem dX12_word_49 : Dc mX12_word 49 (.iload_n 3) 1 50 := ⟨k_dX12_word_41.2.2.2.2.1, rfl⟩
theorem dX12_word_50 : Dc mX12_word 50 (.iadd) 1 51 := ⟨k_dX12_word_41.2.2.2.2.2, rfl⟩
theorem k_dX12_word_51 : decode (mX12_word).2.1 51 = .ok ((.iaload), 1) ∧ decode (mX12_word).2.1 52 = .ok ((.ldc 212), 2) ∧ decode (mX12_word).2.1 54 = .ok ((.iload_n 2), 1) ∧ decode (mX12_word).2.1 55 = .ok ((.iload_n 3), 1) ∧ decode (mX12_word).2.1 56 = .ok ((.iadd), 1) ∧ decode (mX12_word).2.1 57 = .ok ((.invokevirtual 219), 3) := by decide +kernel
theorem dX12_word_51 : Dc mX12_word 51 (.iaload) 1 52 := ⟨k_dX12_word_51.1, rfl⟩
theorem dX12_word_52 : Dc mX12_word 52 (.ldc 212) 2 54 := ⟨k_dX12_word_51.2.1, rfl⟩
theorem dX12_word_54 : Dc mX12_word 54 (.iload_n 2) 1 55 := ⟨k_dX12_word_51.2.2.1, rfl⟩
theorem dX12_word_55 : Dc mX12_word 55 (.iload_n 3) 1 56 := ⟨k_dX12_word_51.2.2.2.1, rfl⟩
theorem dX12_word_56 : Dc mX12_word 56 (.iadd) 1 57 := ⟨k_dX12_word_51.2.2.2.2.1, rfl⟩
theorem dX12_word_57 : Dc mX12_word 57 (.invokevirtual 219) 3 60 := ⟨k_dX12_word_51.2.2.2.2.2, rfl⟩
theorem k_dX12_word_60 : decode (mX12_word).2.1 60 = .ok ((.if_icmp .ne 9), 3) ∧ decode (mX12_word).2.1 63 = .ok ((.iinc 3 1), 3) ∧ decode (mX12_word).2.1 66 = .ok ((.goto (-51)), 3) ∧ decode (mX12_word).2.1 69 = .ok ((.ldc 212), 2) ∧ decode (mX12_word).2.1 71 = .ok ((.iload_n 2), 1) ∧ decode (mX12_word).2.1 72 = .ok ((.iload_n 3), 1) := by decide +kernel
theorem dX12_word_60 : Dc mX12_word 60 (.if_icmp .ne 9) 3 63 := ⟨k_dX12_word_60.1, rfl⟩
theorem dX12_word_63 : Dc mX12_word 63 (.iinc 3 1) 3 66 := ⟨k_dX12_word_60.2.1, rfl⟩
theorem dX12_word_66 : Dc mX12_word 66 (.goto (-51)) 3 69 := ⟨k_dX12_word_60.2.2.1, rfl⟩
theorem dX12_word_69 : Dc mX12_word 69 (.ldc 212) 2 71 := ⟨k_dX12_word_60.2.2.2.1, rfl⟩
theorem dX12_word_71 : Dc mX12_word 71 (.iload_n 2) 1 72 := ⟨k_dX12_word_60.2.2.2.2.1, rfl⟩
theorem dX12_word_72 : Dc mX12_word 72 (.iload_n 3) 1 73 := ⟨k_dX12_word_60.2.2.2.2.2, rfl⟩
theorem k_dX12_word_73 : decode (mX12_word).2.1 73 = .ok ((.iadd), 1) ∧ decode (mX12_word).2.1 74 = .ok ((.invokevirtual 219), 3) ∧ decode (mX12_word).2.1 77 = .ok ((.bipush 32), 2) ∧ decode (mX12_word).2.1 79 = .ok ((.if_icmp .ne 18), 3) ∧ decode (mX12_word).2.1 82 = .ok ((.aload_n 0), 1) ∧ decode (mX12_word).2.1 83 = .ok ((.getfield 185), 3) := by decide +kernel
theorem dX12_word_73 : Dc mX12_word 73 (.iadd) 1 74 := ⟨k_dX12_word_73.1, rfl⟩
theorem dX12_word_74 : Dc mX12_word 74 (.invokevirtual 219) 3 77 := ⟨k_dX12_word_73.2.1, rfl⟩
theorem dX12_word_77 : Dc mX12_word 77 (.bipush 32) 2 79 := ⟨k_dX12_word_73.2.2.1, rfl⟩
theorem dX12_word_79 : Dc mX12_word 79 (.if_icmp .ne 18) 3 82 := ⟨k_dX12_word_73.2.2.2.1, rfl⟩
theorem dX12_word_82 : Dc mX12_word 82 (.aload_n 0) 1 83 := ⟨k_dX12_word_73.2.2.2.2.1, rfl⟩
theorem dX12_word_83 : Dc mX12_word 83 (.getfield 185) 3 86 := ⟨k_dX12_word_73.2.2.2.2.2, rfl⟩
theorem k_dX12_word_86 : decode (mX12_word).2.1 86 = .ok ((.iload_n 3), 1) ∧ decode (mX12_word).2.1 87 = .ok ((.iadd), 1) ∧ decode (mX12_word).2.1 88 = .ok ((.aload_n 0), 1) ∧ decode (mX12_word).2.1 89 = .ok ((.getfield 175), 3) ∧ decode (mX12_word).2.1 92 = .ok ((.if_icmp .ne 5), 3) ∧ decode (mX12_word).2.1 95 = .ok ((.iload_n 1), 1) := by decide +kernel
theorem dX12_word_86 : Dc mX12_word 86 (.iload_n 3) 1 87 := ⟨k_dX12_word_86.1, rfl⟩
theorem dX12_word_87 : Dc mX12_word 87 (.iadd) 1 88 := ⟨k_dX12_word_86.2.1, rfl⟩
theorem dX12_word_88 : Dc mX12_word 88 (.aload_n 0) 1 89 := ⟨k_dX12_word_86.2.2.1, rfl⟩
theorem dX12_word_89 : Dc mX12_word 89 (.getfield 175) 3 92 := ⟨k_dX12_word_86.2.2.2.1, rfl⟩
theorem dX12_word_92 : Dc mX12_word 92 (.if_icmp .ne 5) 3 95 := ⟨k_dX12_word_86.2.2.2.2.1, rfl⟩
theorem dX12_word_95 : Dc mX12_word 95 (.iload_n 1) 1 96 := ⟨k_dX12_word_86.2.2.2.2.2, rfl⟩
theorem k_dX12_word_96 : decode (mX12_word).2.1 96 = .ok ((.ireturn), 1) ∧ decode (mX12_word).2.1 97 = .ok ((.ldc 212), 2) ∧ decode (mX12_word).2.1 99 = .ok ((.iload_n 2), 1) ∧ decode (mX12_word).2.1 100 = .ok ((.invokevirtual 219), 3) ∧ decode (mX12_word).2.1 103 = .ok ((.bipush 32), 2) ∧ decode (mX12_word).2.1 105 = .ok ((.if_icmp .eq 9), 3) := by decide +kernel
theorem dX12_word_96 : Dc mX12_word 96 (.ireturn) 1 97 := ⟨k_dX12_word_96.1, rfl⟩
theorem dX12_word_97 : Dc mX12_word 97 (.ldc 212) 2 99 := ⟨k_dX12_word_96.2.1, rfl⟩
theorem dX12_word_99 : Dc mX12_word 99 (.iload_n 2) 1 100 := ⟨k_dX12_word_96.2.2.1, rfl⟩
theorem dX12_word_100 : Dc mX12_word 100 (.invokevirtual 219) 3 103 := ⟨k_dX12_word_96.2.2.2.1, rfl⟩
theorem dX12_word_103 : Dc mX12_word 103 (.bipush 32) 2 105 := ⟨k_dX12_word_96.2.2.2.2.1, rfl⟩
theorem dX12_word_105 : Dc mX12_word 105 (.if_icmp .eq 9) 3 108 := ⟨k_dX12_word_96.2.2.2.2.2, rfl⟩
theorem k_dX12_word_108 : decode (mX12_word).2.1 108 = .ok ((.iinc 2 1), 3) ∧ decode (mX12_word).2.1 111 = .ok ((.goto (-14)), 3) ∧ decode (mX12_word).2.1 114 = .ok ((.iinc 2 1), 3) ∧ decode (mX12_word).2.1 117 = .ok ((.iinc 1 1), 3) ∧ decode (mX12_word).2.1 120 = .ok ((.goto (-116)), 3) ∧ decode (mX12_word).2.1 123 = .ok ((.iconst (-1)), 1) := by decide +kernel
theorem dX12_word_108 : Dc mX12_word 108 (.iinc 2 1) 3 111 := ⟨k_dX12_word_108.1, rfl⟩
theorem dX12_word_111 : Dc mX12_word 111 (.goto (-14)) 3 114 := ⟨k_dX12_word_108.2.1, rfl⟩
theorem dX12_word_114 : Dc mX12_word 114 (.iinc 2 1) 3 117 := ⟨k_dX12_word_108.2.2.1, rfl⟩
theorem dX12_word_117 : Dc mX12_word 117 (.iinc 1 1) 3 120 := ⟨k_dX12_word_108.2.2.2.1, rfl⟩
theorem dX12_word_120 : Dc mX12_word 120 (.goto (-116)) 3 123 := ⟨k_dX12_word_108.2.2.2.2.1, rfl⟩
theorem dX12_word_123 : Dc mX12_word 123 (.iconst (-1)) 1 124 := ⟨k_dX12_word_108.2.2.2.2.2, rfl⟩
theorem dX12_word_124 : Dc mX12_word 124 (.ireturn) 1 125 := ⟨by decide +kernel, rfl⟩
theorem k_dX12_name_0 : decode (mX12_name).2.1 0 = .ok ((.aload_n 0), 1) ∧ decode (mX12_name).2.1 1 = .ok ((.iconst 0), 1) ∧ decode (mX12_name).2.1 2 = .ok ((.putfield 198), 3) ∧ decode (mX12_name).2.1 5 = .ok ((.iconst 0), 1) ∧ decode (mX12_name).2.1 6 = .ok ((.istore_n 1), 1) ∧ decode (mX12_name).2.1 7 = .ok ((.iload_n 1), 1) := by decide +kernel
theorem dX12_name_0 : Dc mX12_name 0 (.aload_n 0) 1 1 := ⟨k_dX12_name_0.1, rfl⟩
theorem dX12_name_1 : Dc mX12_name 1 (.iconst 0) 1 2 := ⟨k_dX12_name_0.2.1, rfl⟩
theorem dX12_name_2 : Dc mX12_name 2 (.putfield 198) 3 5 := ⟨k_dX12_name_0.2.2.1, rfl⟩
theorem dX12_name_5 : Dc mX12_name 5 (.iconst 0) 1 6 := ⟨k_dX12_name_0.2.2.2.1, rfl⟩
theorem dX12_name_6 : Dc mX12_name 6 (.istore_n 1) 1 7 := ⟨k_dX12_name_0.2.2.2.2.1, rfl⟩
theorem dX12_name_7 : Dc mX12_name 7 (.iload_n 1) 1 8 := ⟨k_dX12_name_0.2.2.2.2.2, rfl⟩
theorem k_dX12_name_8 : decode (mX12_name).2.1 8 = .ok ((.bipush 6), 2) ∧ decode (mX12_name).2.1 10 = .ok ((.if_icmp .ge 53), 3) ∧ decode (mX12_name).2.1 13 = .ok ((.aload_n 0), 1) ∧ decode (mX12_name).2.1 14 = .ok ((.aload_n 0), 1) ∧ decode (mX12_name).2.1 15 = .ok ((.getfield 198), 3) ∧ decode (mX12_name).2.1 18 = .ok ((.iconst 5), 1) := by decide +kernel
theorem dX12_name_8 : Dc mX12_name 8 (.bipush 6) 2 10 := ⟨k_dX12_name_8.1, rfl⟩
theorem dX12_name_10 : Dc mX12_name 10 (.if_icmp .ge 53) 3 13 := ⟨k_dX12_name_8.2.1, rfl⟩
theorem dX12_name_13 : Dc mX12_name 13 (.aload_n 0) 1 14 := ⟨k_dX12_name_8.2.2.1, rfl⟩
theorem dX12_name_14 : Dc mX12_name 14 (.aload_n 0) 1 15 := ⟨k_dX12_name_8.2.2.2.1, rfl⟩
theorem dX12_name_15 : Dc mX12_name 15 (.getfield 198) 3 18 := ⟨k_dX12_name_8.2.2.2.2.1, rfl⟩
theorem dX12_name_18 : Dc mX12_name 18 (.iconst 5) 1 19 := ⟨k_dX12_name_8.2.2.2.2.2, rfl⟩
theorem k_dX12_name_19 : decode (mX12_name).2.1 19 = .ok ((.ishl), 1) ∧ decode (mX12_name).2.1 20 = .ok ((.aload_n 0), 1) ∧ decode (mX12_name).2.1 21 = .ok ((.getfield 185), 3) ∧ decode (mX12_name).2.1 24 = .ok ((.iload_n 1), 1) ∧ decode (mX12_name).2.1 25 = .ok ((.iadd), 1) ∧ decode (mX12_name).2.1 26 = .ok ((.aload_n 0), 1) := by decide +kernel
theorem dX12_name_19 : Dc mX12_name 19 (.ishl) 1 20 := ⟨k_dX12_name_19.1, rfl⟩
theorem dX12_name_20 : Dc mX12_name 20 (.aload_n 0) 1 21 := ⟨k_dX12_name_19.2.1, rfl⟩
theorem dX12_name_21 : Dc mX12_name 21 (.getfield 185) 3 24 := ⟨k_dX12_name_19.2.2.1, rfl⟩
theorem dX12_name_24 : Dc mX12_name 24 (.iload_n 1) 1 25 := ⟨k_dX12_name_19.2.2.2.1, rfl⟩
theorem dX12_name_25 : Dc mX12_name 25 (.iadd) 1 26 := ⟨k_dX12_name_19.2.2.2.2.1, rfl⟩
theorem dX12_name_26 : Dc mX12_name 26 (.aload_n 0) 1 27 := ⟨k_dX12_name_19.2.2.2.2.2, rfl⟩
theorem k_dX12_name_27 : decode (mX12_name).2.1 27 = .ok ((.getfield 175), 3) ∧ decode (mX12_name).2.1 30 = .ok ((.if_icmp .ge 22), 3) ∧ decode (mX12_name).2.1 33 = .ok ((.aload_n 0), 1) ∧ decode (mX12_name).2.1 34 = .ok ((.getfield 7), 3) ∧ decode (mX12_name).2.1 37 = .ok ((.aload_n 0), 1) ∧ decode (mX12_name).2.1 38 = .ok ((.getfield 185), 3) := by decide +kernel
theorem dX12_name_27 : Dc mX12_name 27 (.getfield 175) 3 30 := ⟨k_dX12_name_27.1, rfl⟩
theorem dX12_name_30 : Dc mX12_name 30 (.if_icmp .ge 22) 3 33 := ⟨k_dX12_name_27.2.1, rfl⟩
theorem dX12_name_33 : Dc mX12_name 33 (.aload_n 0) 1 34 := ⟨k_dX12_name_27.2.2.1, rfl⟩
theorem dX12_name_34 : Dc mX12_name 34 (.getfield 7) 3 37 := ⟨k_dX12_name_27.2.2.2.1, rfl⟩
theorem dX12_name_37 : Dc mX12_name 37 (.aload_n 0) 1 38 := ⟨k_dX12_name_27.2.2.2.2.1, rfl⟩
theorem dX12_name_38 : Dc mX12_name 38 (.getfield 185) 3 41 := ⟨k_dX12_name_27.2.2.2.2.2, rfl⟩
theorem k_dX12_name_41 : decode (mX12_name).2.1 41 = .ok ((.iload_n 1), 1) ∧ decode (mX12_name).2.1 42 = .ok ((.iadd), 1) ∧ decode (mX12_name).2.1 43 = .ok ((.iaload), 1) ∧ decode (mX12_name).2.1 44 = .ok ((.bipush 97), 2) ∧ decode (mX12_name).2.1 46 = .ok ((.isub), 1) ∧ decode (mX12_name).2.1 47 = .ok ((.iconst 1), 1) := by decide +kernel
theorem dX12_name_41 : Dc mX12_name 41 (.iload_n 1) 1 42 := ⟨k_dX12_name_41.1, rfl⟩
theorem dX12_name_42 : Dc mX12_name 42 (.iadd) 1 43 := ⟨k_dX12_name_41.2.1, rfl⟩
theorem dX12_name_43 : Dc mX12_name 43 (.iaload) 1 44 := ⟨k_dX12_name_41.2.2.1, rfl⟩
theorem dX12_name_44 : Dc mX12_name 44 (.bipush 97) 2 46 := ⟨k_dX12_name_41.2.2.2.1, rfl⟩
theorem dX12_name_46 : Dc mX12_name 46 (.isub) 1 47 := ⟨k_dX12_name_41.2.2.2.2.1, rfl⟩
theorem dX12_name_47 : Dc mX12_name 47 (.iconst 1) 1 48 := ⟨k_dX12_name_41.2.2.2.2.2, rfl⟩
theorem k_dX12_name_48 : decode (mX12_name).2.1 48 = .ok ((.iadd), 1) ∧ decode (mX12_name).2.1 49 = .ok ((.goto 4), 3) ∧ decode (mX12_name).2.1 52 = .ok ((.iconst 0), 1) ∧ decode (mX12_name).2.1 53 = .ok ((.ior), 1) ∧ decode (mX12_name).2.1 54 = .ok ((.putfield 198), 3) ∧ decode (mX12_name).2.1 57 = .ok ((.iinc 1 1), 3) := by decide +kernel
theorem dX12_name_48 : Dc mX12_name 48 (.iadd) 1 49 := ⟨k_dX12_name_48.1, rfl⟩
theorem dX12_name_49 : Dc mX12_name 49 (.goto 4) 3 52 := ⟨k_dX12_name_48.2.1, rfl⟩
theorem dX12_name_52 : Dc mX12_name 52 (.iconst 0) 1 53 := ⟨k_dX12_name_48.2.2.1, rfl⟩
theorem dX12_name_53 : Dc mX12_name 53 (.ior) 1 54 := ⟨k_dX12_name_48.2.2.2.1, rfl⟩
theorem dX12_name_54 : Dc mX12_name 54 (.putfield 198) 3 57 := ⟨k_dX12_name_48.2.2.2.2.1, rfl⟩
theorem dX12_name_57 : Dc mX12_name 57 (.iinc 1 1) 3 60 := ⟨k_dX12_name_48.2.2.2.2.2, rfl⟩
theorem k_dX12_name_60 : decode (mX12_name).2.1 60 = .ok ((.goto (-53)), 3) ∧ decode (mX12_name).2.1 63 = .ok ((.return_), 1) := by decide +kernel
theorem dX12_name_60 : Dc mX12_name 60 (.goto (-53)) 3 63 := ⟨k_dX12_name_60.1, rfl⟩
theorem dX12_name_63 : Dc mX12_name 63 (.return_) 1 64 := ⟨k_dX12_name_60.2, rfl⟩
theorem k_dX12_wrong_0 : decode (mX12_wrong).2.1 0 = .ok ((.aload_n 0), 1) ∧ decode (mX12_wrong).2.1 1 = .ok ((.getfield 223), 3) ∧ decode (mX12_wrong).2.1 4 = .ok ((.ifCond .eq 4), 3) ∧ decode (mX12_wrong).2.1 7 = .ok ((.return_), 1) ∧ decode (mX12_wrong).2.1 8 = .ok ((.aload_n 0), 1) ∧ decode (mX12_wrong).2.1 9 = .ok ((.iload_n 1), 1) := by decide +kernel
theorem dX12_wrong_0 : Dc mX12_wrong 0 (.aload_n 0) 1 1 := ⟨k_dX12_wrong_0.1, rfl⟩
theorem dX12_wrong_1 : Dc mX12_wrong 1 (.getfield 223) 3 4 := ⟨k_dX12_wrong_0.2.1, rfl⟩
theorem dX12_wrong_4 : Dc mX12_wrong 4 (.ifCond .eq 4) 3 7 := ⟨k_dX12_wrong_0.2.2.1, rfl⟩
theorem dX12_wrong_7 : Dc mX12_wrong 7 (.return_) 1 8 := ⟨k_dX12_wrong_0.2.2.2.1, rfl⟩
theorem dX12_wrong_8 : Dc mX12_wrong 8 (.aload_n 0) 1 9 := ⟨k_dX12_wrong_0.2.2.2.2.1, rfl⟩
theorem dX12_wrong_9 : Dc mX12_wrong 9 (.iload_n 1) 1 10 := ⟨k_dX12_wrong_0.2.2.2.2.2, rfl⟩
theorem k_dX12_wrong_10 : decode (mX12_wrong).2.1 10 = .ok ((.putfield 223), 3) ∧ decode (mX12_wrong).2.1 13 = .ok ((.aload_n 0), 1) ∧ decode (mX12_wrong).2.1 14 = .ok ((.aload_n 0), 1) ∧ decode (mX12_wrong).2.1 15 = .ok ((.getfield 185), 3) ∧ decode (mX12_wrong).2.1 18 = .ok ((.putfield 226), 3) ∧ decode (mX12_wrong).2.1 21 = .ok ((.return_), 1) := by decide +kernel
theorem dX12_wrong_10 : Dc mX12_wrong 10 (.putfield 223) 3 13 := ⟨k_dX12_wrong_10.1, rfl⟩
theorem dX12_wrong_13 : Dc mX12_wrong 13 (.aload_n 0) 1 14 := ⟨k_dX12_wrong_10.2.1, rfl⟩
theorem dX12_wrong_14 : Dc mX12_wrong 14 (.aload_n 0) 1 15 := ⟨k_dX12_wrong_10.2.2.1, rfl⟩
theorem dX12_wrong_15 : Dc mX12_wrong 15 (.getfield 185) 3 18 := ⟨k_dX12_wrong_10.2.2.2.1, rfl⟩
theorem dX12_wrong_18 : Dc mX12_wrong 18 (.putfield 226) 3 21 := ⟨k_dX12_wrong_10.2.2.2.2.1, rfl⟩
theorem dX12_wrong_21 : Dc mX12_wrong 21 (.return_) 1 22 := ⟨k_dX12_wrong_10.2.2.2.2.2, rfl⟩
theorem k_dX12_isWord_0 : decode (mX12_isWord).2.1 0 = .ok ((.aload_n 0), 1) ∧ decode (mX12_isWord).2.1 1 = .ok ((.getfield 223), 3) ∧ decode (mX12_isWord).2.1 4 = .ok ((.ifCond .ne 22), 3) ∧ decode (mX12_isWord).2.1 7 = .ok ((.aload_n 0), 1) ∧ decode (mX12_isWord).2.1 8 = .ok ((.getfield 188), 3) ∧ decode (mX12_isWord).2.1 11 = .ok ((.ifCond .ne 15), 3) := by decide +kernel
theorem dX12_isWord_0 : Dc mX12_isWord 0 (.aload_n 0) 1 1 := ⟨k_dX12_isWord_0.1, rfl⟩
theorem dX12_isWord_1 : Dc mX12_isWord 1 (.getfield 223) 3 4 := ⟨k_dX12_isWord_0.2.1, rfl⟩
theorem dX12_isWord_4 : Dc mX12_isWord 4 (.ifCond .ne 22) 3 7 := ⟨k_dX12_isWord_0.2.2.1, rfl⟩
theorem dX12_isWord_7 : Dc mX12_isWord 7 (.aload_n 0) 1 8 := ⟨k_dX12_isWord_0.2.2.2.1, rfl⟩
theorem dX12_isWord_8 : Dc mX12_isWord 8 (.getfield 188) 3 11 := ⟨k_dX12_isWord_0.2.2.2.2.1, rfl⟩
theorem dX12_isWord_11 : Dc mX12_isWord 11 (.ifCond .ne 15) 3 14 := ⟨k_dX12_isWord_0.2.2.2.2.2, rfl⟩
theorem k_dX12_isWord_14 : decode (mX12_isWord).2.1 14 = .ok ((.aload_n 0), 1) ∧ decode (mX12_isWord).2.1 15 = .ok ((.getfield 198), 3) ∧ decode (mX12_isWord).2.1 18 = .ok ((.iload_n 1), 1) ∧ decode (mX12_isWord).2.1 19 = .ok ((.if_icmp .ne 7), 3) ∧ decode (mX12_isWord).2.1 22 = .ok ((.iconst 1), 1) ∧ decode (mX12_isWord).2.1 23 = .ok ((.goto 4), 3) := by decide +kernel
theorem dX12_isWord_14 : Dc mX12_isWord 14 (.aload_n 0) 1 15 := ⟨k_dX12_isWord_14.1, rfl⟩
theorem dX12_isWord_15 : Dc mX12_isWord 15 (.getfield 198) 3 18 := ⟨k_dX12_isWord_14.2.1, rfl⟩
theorem dX12_isWord_18 : Dc mX12_isWord 18 (.iload_n 1) 1 19 := ⟨k_dX12_isWord_14.2.2.1, rfl⟩
theorem dX12_isWord_19 : Dc mX12_isWord 19 (.if_icmp .ne 7) 3 22 := ⟨k_dX12_isWord_14.2.2.2.1, rfl⟩
theorem dX12_isWord_22 : Dc mX12_isWord 22 (.iconst 1) 1 23 := ⟨k_dX12_isWord_14.2.2.2.2.1, rfl⟩
theorem dX12_isWord_23 : Dc mX12_isWord 23 (.goto 4) 3 26 := ⟨k_dX12_isWord_14.2.2.2.2.2, rfl⟩
theorem k_dX12_isWord_26 : decode (mX12_isWord).2.1 26 = .ok ((.iconst 0), 1) ∧ decode (mX12_isWord).2.1 27 = .ok ((.ireturn), 1) := by decide +kernel
theorem dX12_isWord_26 : Dc mX12_isWord 26 (.iconst 0) 1 27 := ⟨k_dX12_isWord_26.1, rfl⟩
theorem dX12_isWord_27 : Dc mX12_isWord 27 (.ireturn) 1 28 := ⟨k_dX12_isWord_26.2, rfl⟩
theorem k_dX12_isSign_0 : decode (mX12_isSign).2.1 0 = .ok ((.aload_n 0), 1) ∧ decode (mX12_isSign).2.1 1 = .ok ((.getfield 223), 3) ∧ decode (mX12_isSign).2.1 4 = .ok ((.ifCond .ne 23), 3) ∧ decode (mX12_isSign).2.1 7 = .ok ((.aload_n 0), 1) ∧ decode (mX12_isSign).2.1 8 = .ok ((.getfield 188), 3) ∧ decode (mX12_isSign).2.1 11 = .ok ((.iconst 3), 1) := by decide +kernel
theorem dX12_isSign_0 : Dc mX12_isSign 0 (.aload_n 0) 1 1 := ⟨k_dX12_isSign_0.1, rfl⟩
theorem dX12_isSign_1 : Dc mX12_isSign 1 (.getfield 223) 3 4 := ⟨k_dX12_isSign_0.2.1, rfl⟩
theorem dX12_isSign_4 : Dc mX12_isSign 4 (.ifCond .ne 23) 3 7 := ⟨k_dX12_isSign_0.2.2.1, rfl⟩
theorem dX12_isSign_7 : Dc mX12_isSign 7 (.aload_n 0) 1 8 := ⟨k_dX12_isSign_0.2.2.2.1, rfl⟩
theorem dX12_isSign_8 : Dc mX12_isSign 8 (.getfield 188) 3 11 := ⟨k_dX12_isSign_0.2.2.2.2.1, rfl⟩
theorem dX12_isSign_11 : Dc mX12_isSign 11 (.iconst 3) 1 12 := ⟨k_dX12_isSign_0.2.2.2.2.2, rfl⟩
theorem k_dX12_isSign_12 : decode (mX12_isSign).2.1 12 = .ok ((.if_icmp .ne 15), 3) ∧ decode (mX12_isSign).2.1 15 = .ok ((.aload_n 0), 1) ∧ decode (mX12_isSign).2.1 16 = .ok ((.getfield 198), 3) ∧ decode (mX12_isSign).2.1 19 = .ok ((.iload_n 1), 1) ∧ decode (mX12_isSign).2.1 20 = .ok ((.if_icmp .ne 7), 3) ∧ decode (mX12_isSign).2.1 23 = .ok ((.iconst 1), 1) := by decide +kernel
theorem dX12_isSign_12 : Dc mX12_isSign 12 (.if_icmp .ne 15) 3 15 := ⟨k_dX12_isSign_12.1, rfl⟩
theorem dX12_isSign_15 : Dc mX12_isSign 15 (.aload_n 0) 1 16 := ⟨k_dX12_isSign_12.2.1, rfl⟩
theorem dX12_isSign_16 : Dc mX12_isSign 16 (.getfield 198) 3 19 := ⟨k_dX12_isSign_12.2.2.1, rfl⟩
theorem dX12_isSign_19 : Dc mX12_isSign 19 (.iload_n 1) 1 20 := ⟨k_dX12_isSign_12.2.2.2.1, rfl⟩
theorem dX12_isSign_20 : Dc mX12_isSign 20 (.if_icmp .ne 7) 3 23 := ⟨k_dX12_isSign_12.2.2.2.2.1, rfl⟩
theorem dX12_isSign_23 : Dc mX12_isSign 23 (.iconst 1) 1 24 := ⟨k_dX12_isSign_12.2.2.2.2.2, rfl⟩
theorem k_dX12_isSign_24 : decode (mX12_isSign).2.1 24 = .ok ((.goto 4), 3) ∧ decode (mX12_isSign).2.1 27 = .ok ((.iconst 0), 1) ∧ decode (mX12_isSign).2.1 28 = .ok ((.ireturn), 1) := by decide +kernel
theorem dX12_isSign_24 : Dc mX12_isSign 24 (.goto 4) 3 27 := ⟨k_dX12_isSign_24.1, rfl⟩
theorem dX12_isSign_27 : Dc mX12_isSign 27 (.iconst 0) 1 28 := ⟨k_dX12_isSign_24.2.1, rfl⟩
theorem dX12_isSign_28 : Dc mX12_isSign 28 (.ireturn) 1 29 := ⟨k_dX12_isSign_24.2.2, rfl⟩
theorem k_dX12_goOn_0 : decode (mX12_goOn).2.1 0 = .ok ((.aload_n 0), 1) ∧ decode (mX12_goOn).2.1 1 = .ok ((.getfield 223), 3) ∧ decode (mX12_goOn).2.1 4 = .ok ((.ifCond .ne 7), 3) ∧ decode (mX12_goOn).2.1 7 = .ok ((.aload_n 0), 1) ∧ decode (mX12_goOn).2.1 8 = .ok ((.invokevirtual 229), 3) ∧ decode (mX12_goOn).2.1 11 = .ok ((.return_), 1) := by decide +kernel
theorem dX12_goOn_0 : Dc mX12_goOn 0 (.aload_n 0) 1 1 := ⟨k_dX12_goOn_0.1, rfl⟩
theorem dX12_goOn_1 : Dc mX12_goOn 1 (.getfield 223) 3 4 := ⟨k_dX12_goOn_0.2.1, rfl⟩
theorem dX12_goOn_4 : Dc mX12_goOn 4 (.ifCond .ne 7) 3 7 := ⟨k_dX12_goOn_0.2.2.1, rfl⟩
theorem dX12_goOn_7 : Dc mX12_goOn 7 (.aload_n 0) 1 8 := ⟨k_dX12_goOn_0.2.2.2.1, rfl⟩
theorem dX12_goOn_8 : Dc mX12_goOn 8 (.invokevirtual 229) 3 11 := ⟨k_dX12_goOn_0.2.2.2.2.1, rfl⟩
theorem dX12_goOn_11 : Dc mX12_goOn 11 (.return_) 1 12 := ⟨k_dX12_goOn_0.2.2.2.2.2, rfl⟩
theorem k_dX12_numeral_0 : decode (mX12_numeral).2.1 0 = .ok ((.aload_n 0), 1) ∧ decode (mX12_numeral).2.1 1 = .ok ((.getfield 223), 3) ∧ decode (mX12_numeral).2.1 4 = .ok ((.ifCond .eq 5), 3) ∧ decode (mX12_numeral).2.1 7 = .ok ((.iload_n 1), 1) ∧ decode (mX12_numeral).2.1 8 = .ok ((.ireturn), 1) ∧ decode (mX12_numeral).2.1 9 = .ok ((.aload_n 0), 1) := by decide +kernel
theorem dX12_numeral_0 : Dc mX12_numeral 0 (.aload_n 0) 1 1 := ⟨k_dX12_numeral_0.1, rfl⟩
theorem dX12_numeral_1 : Dc mX12_numeral 1 (.getfield 223) 3 4 := ⟨k_dX12_numeral_0.2.1, rfl⟩
theorem dX12_numeral_4 : Dc mX12_numeral 4 (.ifCond .eq 5) 3 7 := ⟨k_dX12_numeral_0.2.2.1, rfl⟩
theorem dX12_numeral_7 : Dc mX12_numeral 7 (.iload_n 1) 1 8 := ⟨k_dX12_numeral_0.2.2.2.1, rfl⟩
theorem dX12_numeral_8 : Dc mX12_numeral 8 (.ireturn) 1 9 := ⟨k_dX12_numeral_0.2.2.2.2.1, rfl⟩
theorem dX12_numeral_9 : Dc mX12_numeral 9 (.aload_n 0) 1 10 := ⟨k_dX12_numeral_0.2.2.2.2.2, rfl⟩
theorem k_dX12_numeral_10 : decode (mX12_numeral).2.1 10 = .ok ((.getfield 188), 3) ∧ decode (mX12_numeral).2.1 13 = .ok ((.iconst 2), 1) ∧ decode (mX12_numeral).2.1 14 = .ok ((.if_icmp .eq 11), 3) ∧ decode (mX12_numeral).2.1 17 = .ok ((.aload_n 0), 1) ∧ decode (mX12_numeral).2.1 18 = .ok ((.iconst 1), 1) ∧ decode (mX12_numeral).2.1 19 = .ok ((.invokevirtual 232), 3) := by decide +kernel
theorem dX12_numeral_10 : Dc mX12_numeral 10 (.getfield 188) 3 13 := ⟨k_dX12_numeral_10.1, rfl⟩
theorem dX12_numeral_13 : Dc mX12_numeral 13 (.iconst 2) 1 14 := ⟨k_dX12_numeral_10.2.1, rfl⟩
theorem dX12_numeral_14 : Dc mX12_numeral 14 (.if_icmp .eq 11) 3 17 := ⟨k_dX12_numeral_10.2.2.1, rfl⟩
theorem dX12_numeral_17 : Dc mX12_numeral 17 (.aload_n 0) 1 18 := ⟨k_dX12_numeral_10.2.2.2.1, rfl⟩
theorem dX12_numeral_18 : Dc mX12_numeral 18 (.iconst 1) 1 19 := ⟨k_dX12_numeral_10.2.2.2.2.1, rfl⟩
theorem dX12_numeral_19 : Dc mX12_numeral 19 (.invokevirtual 232) 3 22 := ⟨k_dX12_numeral_10.2.2.2.2.2, rfl⟩
theorem k_dX12_numeral_22 : decode (mX12_numeral).2.1 22 = .ok ((.goto 24), 3) ∧ decode (mX12_numeral).2.1 25 = .ok ((.aload_n 0), 1) ∧ decode (mX12_numeral).2.1 26 = .ok ((.getfield 198), 3) ∧ decode (mX12_numeral).2.1 29 = .ok ((.iload_n 1), 1) ∧ decode (mX12_numeral).2.1 30 = .ok ((.if_icmp .lt 11), 3) ∧ decode (mX12_numeral).2.1 33 = .ok ((.aload_n 0), 1) := by decide +kernel
theorem dX12_numeral_22 : Dc mX12_numeral 22 (.goto 24) 3 25 := ⟨k_dX12_numeral_22.1, rfl⟩
theorem dX12_numeral_25 : Dc mX12_numeral 25 (.aload_n 0) 1 26 := ⟨k_dX12_numeral_22.2.1, rfl⟩
theorem dX12_numeral_26 : Dc mX12_numeral 26 (.getfield 198) 3 29 := ⟨k_dX12_numeral_22.2.2.1, rfl⟩
theorem dX12_numeral_29 : Dc mX12_numeral 29 (.iload_n 1) 1 30 := ⟨k_dX12_numeral_22.2.2.2.1, rfl⟩
theorem dX12_numeral_30 : Dc mX12_numeral 30 (.if_icmp .lt 11) 3 33 := ⟨k_dX12_numeral_22.2.2.2.2.1, rfl⟩
theorem dX12_numeral_33 : Dc mX12_numeral 33 (.aload_n 0) 1 34 := ⟨k_dX12_numeral_22.2.2.2.2.2, rfl⟩
theorem k_dX12_numeral_34 : decode (mX12_numeral).2.1 34 = .ok ((.getfield 198), 3) ∧ decode (mX12_numeral).2.1 37 = .ok ((.iload_n 2), 1) ∧ decode (mX12_numeral).2.1 38 = .ok ((.if_icmp .le 8), 3) ∧ decode (mX12_numeral).2.1 41 = .ok ((.aload_n 0), 1) ∧ decode (mX12_numeral).2.1 42 = .ok ((.iconst 2), 1) ∧ decode (mX12_numeral).2.1 43 = .ok ((.invokevirtual 232), 3) := by decide +kernel
theorem dX12_numeral_34 : Dc mX12_numeral 34 (.getfield 198) 3 37 := ⟨k_dX12_numeral_34.1, rfl⟩
theorem dX12_numeral_37 : Dc mX12_numeral 37 (.iload_n 2) 1 38 := ⟨k_dX12_numeral_34.2.1, rfl⟩
theorem dX12_numeral_38 : Dc mX12_numeral 38 (.if_icmp .le 8) 3 41 := ⟨k_dX12_numeral_34.2.2.1, rfl⟩
theorem dX12_numeral_41 : Dc mX12_numeral 41 (.aload_n 0) 1 42 := ⟨k_dX12_numeral_34.2.2.2.1, rfl⟩
theorem dX12_numeral_42 : Dc mX12_numeral 42 (.iconst 2) 1 43 := ⟨k_dX12_numeral_34.2.2.2.2.1, rfl⟩
theorem dX12_numeral_43 : Dc mX12_numeral 43 (.invokevirtual 232) 3 46 := ⟨k_dX12_numeral_34.2.2.2.2.2, rfl⟩
theorem k_dX12_numeral_46 : decode (mX12_numeral).2.1 46 = .ok ((.aload_n 0), 1) ∧ decode (mX12_numeral).2.1 47 = .ok ((.getfield 223), 3) ∧ decode (mX12_numeral).2.1 50 = .ok ((.ifCond .eq 5), 3) ∧ decode (mX12_numeral).2.1 53 = .ok ((.iload_n 1), 1) ∧ decode (mX12_numeral).2.1 54 = .ok ((.ireturn), 1) ∧ decode (mX12_numeral).2.1 55 = .ok ((.aload_n 0), 1) := by decide +kernel
theorem dX12_numeral_46 : Dc mX12_numeral 46 (.aload_n 0) 1 47 := ⟨k_dX12_numeral_46.1, rfl⟩
theorem dX12_numeral_47 : Dc mX12_numeral 47 (.getfield 223) 3 50 := ⟨k_dX12_numeral_46.2.1, rfl⟩
theorem dX12_numeral_50 : Dc mX12_numeral 50 (.ifCond .eq 5) 3 53 := ⟨k_dX12_numeral_46.2.2.1, rfl⟩
theorem dX12_numeral_53 : Dc mX12_numeral 53 (.iload_n 1) 1 54 := ⟨k_dX12_numeral_46.2.2.2.1, rfl⟩
theorem dX12_numeral_54 : Dc mX12_numeral 54 (.ireturn) 1 55 := ⟨k_dX12_numeral_46.2.2.2.2.1, rfl⟩
theorem dX12_numeral_55 : Dc mX12_numeral 55 (.aload_n 0) 1 56 := ⟨k_dX12_numeral_46.2.2.2.2.2, rfl⟩
theorem k_dX12_numeral_56 : decode (mX12_numeral).2.1 56 = .ok ((.getfield 198), 3) ∧ decode (mX12_numeral).2.1 59 = .ok ((.istore_n 3), 1) ∧ decode (mX12_numeral).2.1 60 = .ok ((.aload_n 0), 1) ∧ decode (mX12_numeral).2.1 61 = .ok ((.invokevirtual 229), 3) ∧ decode (mX12_numeral).2.1 64 = .ok ((.iload_n 3), 1) ∧ decode (mX12_numeral).2.1 65 = .ok ((.ireturn), 1) := by decide +kernel
theorem dX12_numeral_56 : Dc mX12_numeral 56 (.getfield 198) 3 59 := ⟨k_dX12_numeral_56.1, rfl⟩
theorem dX12_numeral_59 : Dc mX12_numeral 59 (.istore_n 3) 1 60 := ⟨k_dX12_numeral_56.2.1, rfl⟩
theorem dX12_numeral_60 : Dc mX12_numeral 60 (.aload_n 0) 1 61 := ⟨k_dX12_numeral_56.2.2.1, rfl⟩
theorem dX12_numeral_61 : Dc mX12_numeral 61 (.invokevirtual 229) 3 64 := ⟨k_dX12_numeral_56.2.2.2.1, rfl⟩
theorem dX12_numeral_64 : Dc mX12_numeral 64 (.iload_n 3) 1 65 := ⟨k_dX12_numeral_56.2.2.2.2.1, rfl⟩
theorem dX12_numeral_65 : Dc mX12_numeral 65 (.ireturn) 1 66 := ⟨k_dX12_numeral_56.2.2.2.2.2, rfl⟩
theorem k_dX12_found_0 : decode (mX12_found).2.1 0 = .ok ((.iconst 0), 1) ∧ decode (mX12_found).2.1 1 = .ok ((.istore 4), 2) ∧ decode (mX12_found).2.1 3 = .ok ((.iload 4), 2) ∧ decode (mX12_found).2.1 5 = .ok ((.iload_n 2), 1) ∧ decode (mX12_found).2.1 6 = .ok ((.if_icmp .ge 22), 3) ∧ decode (mX12_found).2.1 9 = .ok ((.aload_n 0), 1) := by decide +kernel
theorem dX12_found_0 : Dc mX12_found 0 (.iconst 0) 1 1 := ⟨k_dX12_found_0.1, rfl⟩
theorem dX12_found_1 : Dc mX12_found 1 (.istore 4) 2 3 := ⟨k_dX12_found_0.2.1, rfl⟩
theorem dX12_found_3 : Dc mX12_found 3 (.iload 4) 2 5 := ⟨k_dX12_found_0.2.2.1, rfl⟩
theorem dX12_found_5 : Dc mX12_found 5 (.iload_n 2) 1 6 := ⟨k_dX12_found_0.2.2.2.1, rfl⟩
theorem dX12_found_6 : Dc mX12_found 6 (.if_icmp .ge 22) 3 9 := ⟨k_dX12_found_0.2.2.2.2.1, rfl⟩
theorem dX12_found_9 : Dc mX12_found 9 (.aload_n 0) 1 10 := ⟨k_dX12_found_0.2.2.2.2.2, rfl⟩
theorem k_dX12_found_10 : decode (mX12_found).2.1 10 = .ok ((.iload_n 1), 1) ∧ decode (mX12_found).2.1 11 = .ok ((.iload 4), 2) ∧ decode (mX12_found).2.1 13 = .ok ((.iadd), 1) ∧ decode (mX12_found).2.1 14 = .ok ((.iaload), 1) ∧ decode (mX12_found).2.1 15 = .ok ((.iload_n 3), 1) ∧ decode (mX12_found).2.1 16 = .ok ((.if_icmp .ne 6), 3) := by decide +kernel
theorem dX12_found_10 : Dc mX12_found 10 (.iload_n 1) 1 11 := ⟨k_dX12_found_10.1, rfl⟩
theorem dX12_found_11 : Dc mX12_found 11 (.iload 4) 2 13 := ⟨k_dX12_found_10.2.1, rfl⟩
theorem dX12_found_13 : Dc mX12_found 13 (.iadd) 1 14 := ⟨k_dX12_found_10.2.2.1, rfl⟩
theorem dX12_found_14 : Dc mX12_found 14 (.iaload) 1 15 := ⟨k_dX12_found_10.2.2.2.1, rfl⟩
theorem dX12_found_15 : Dc mX12_found 15 (.iload_n 3) 1 16 := ⟨k_dX12_found_10.2.2.2.2.1, rfl⟩
theorem dX12_found_16 : Dc mX12_found 16 (.if_icmp .ne 6) 3 19 := ⟨k_dX12_found_10.2.2.2.2.2, rfl⟩
theorem k_dX12_found_19 : decode (mX12_found).2.1 19 = .ok ((.iload 4), 2) ∧ decode (mX12_found).2.1 21 = .ok ((.ireturn), 1) ∧ decode (mX12_found).2.1 22 = .ok ((.iinc 4 1), 3) ∧ decode (mX12_found).2.1 25 = .ok ((.goto (-22)), 3) ∧ decode (mX12_found).2.1 28 = .ok ((.iconst (-1)), 1) ∧ decode (mX12_found).2.1 29 = .ok ((.ireturn), 1) := by decide +kernel
theorem dX12_found_19 : Dc mX12_found 19 (.iload 4) 2 21 := ⟨k_dX12_found_19.1, rfl⟩
theorem dX12_found_21 : Dc mX12_found 21 (.ireturn) 1 22 := ⟨k_dX12_found_19.2.1, rfl⟩
theorem dX12_found_22 : Dc mX12_found 22 (.iinc 4 1) 3 25 := ⟨k_dX12_found_19.2.2.1, rfl⟩
theorem dX12_found_25 : Dc mX12_found 25 (.goto (-22)) 3 28 := ⟨k_dX12_found_19.2.2.2.1, rfl⟩
theorem dX12_found_28 : Dc mX12_found 28 (.iconst (-1)) 1 29 := ⟨k_dX12_found_19.2.2.2.2.1, rfl⟩
theorem dX12_found_29 : Dc mX12_found 29 (.ireturn) 1 30 := ⟨k_dX12_found_19.2.2.2.2.2, rfl⟩
theorem k_dX12_fresh_0 : decode (mX12_fresh).2.1 0 = .ok ((.aload_n 0), 1) ∧ decode (mX12_fresh).2.1 1 = .ok ((.getfield 223), 3) ∧ decode (mX12_fresh).2.1 4 = .ok ((.ifCond .eq 5), 3) ∧ decode (mX12_fresh).2.1 7 = .ok ((.iconst 0), 1) ∧ decode (mX12_fresh).2.1 8 = .ok ((.ireturn), 1) ∧ decode (mX12_fresh).2.1 9 = .ok ((.aload_n 0), 1) := by decide +kernel
theorem dX12_fresh_0 : Dc mX12_fresh 0 (.aload_n 0) 1 1 := ⟨k_dX12_fresh_0.1, rfl⟩
theorem dX12_fresh_1 : Dc mX12_fresh 1 (.getfield 223) 3 4 := ⟨k_dX12_fresh_0.2.1, rfl⟩
theorem dX12_fresh_4 : Dc mX12_fresh 4 (.ifCond .eq 5) 3 7 := ⟨k_dX12_fresh_0.2.2.1, rfl⟩
theorem dX12_fresh_7 : Dc mX12_fresh 7 (.iconst 0) 1 8 := ⟨k_dX12_fresh_0.2.2.2.1, rfl⟩
theorem dX12_fresh_8 : Dc mX12_fresh 8 (.ireturn) 1 9 := ⟨k_dX12_fresh_0.2.2.2.2.1, rfl⟩
theorem dX12_fresh_9 : Dc mX12_fresh 9 (.aload_n 0) 1 10 := ⟨k_dX12_fresh_0.2.2.2.2.2, rfl⟩
theorem k_dX12_fresh_10 : decode (mX12_fresh).2.1 10 = .ok ((.getfield 188), 3) ∧ decode (mX12_fresh).2.1 13 = .ok ((.iconst 1), 1) ∧ decode (mX12_fresh).2.1 14 = .ok ((.if_icmp .eq 11), 3) ∧ decode (mX12_fresh).2.1 17 = .ok ((.aload_n 0), 1) ∧ decode (mX12_fresh).2.1 18 = .ok ((.iconst 1), 1) ∧ decode (mX12_fresh).2.1 19 = .ok ((.invokevirtual 232), 3) := by decide +kernel
theorem dX12_fresh_10 : Dc mX12_fresh 10 (.getfield 188) 3 13 := ⟨k_dX12_fresh_10.1, rfl⟩
theorem dX12_fresh_13 : Dc mX12_fresh 13 (.iconst 1) 1 14 := ⟨k_dX12_fresh_10.2.1, rfl⟩
theorem dX12_fresh_14 : Dc mX12_fresh 14 (.if_icmp .eq 11) 3 17 := ⟨k_dX12_fresh_10.2.2.1, rfl⟩
theorem dX12_fresh_17 : Dc mX12_fresh 17 (.aload_n 0) 1 18 := ⟨k_dX12_fresh_10.2.2.2.1, rfl⟩
theorem dX12_fresh_18 : Dc mX12_fresh 18 (.iconst 1) 1 19 := ⟨k_dX12_fresh_10.2.2.2.2.1, rfl⟩
theorem dX12_fresh_19 : Dc mX12_fresh 19 (.invokevirtual 232) 3 22 := ⟨k_dX12_fresh_10.2.2.2.2.2, rfl⟩
theorem k_dX12_fresh_22 : decode (mX12_fresh).2.1 22 = .ok ((.goto 22), 3) ∧ decode (mX12_fresh).2.1 25 = .ok ((.aload_n 1), 1) ∧ decode (mX12_fresh).2.1 26 = .ok ((.iload_n 2), 1) ∧ decode (mX12_fresh).2.1 27 = .ok ((.iload_n 3), 1) ∧ decode (mX12_fresh).2.1 28 = .ok ((.aload_n 0), 1) ∧ decode (mX12_fresh).2.1 29 = .ok ((.getfield 198), 3) := by decide +kernel
theorem dX12_fresh_22 : Dc mX12_fresh 22 (.goto 22) 3 25 := ⟨k_dX12_fresh_22.1, rfl⟩
theorem dX12_fresh_25 : Dc mX12_fresh 25 (.aload_n 1) 1 26 := ⟨k_dX12_fresh_22.2.1, rfl⟩
theorem dX12_fresh_26 : Dc mX12_fresh 26 (.iload_n 2) 1 27 := ⟨k_dX12_fresh_22.2.2.1, rfl⟩
theorem dX12_fresh_27 : Dc mX12_fresh 27 (.iload_n 3) 1 28 := ⟨k_dX12_fresh_22.2.2.2.1, rfl⟩
theorem dX12_fresh_28 : Dc mX12_fresh 28 (.aload_n 0) 1 29 := ⟨k_dX12_fresh_22.2.2.2.2.1, rfl⟩
theorem dX12_fresh_29 : Dc mX12_fresh 29 (.getfield 198) 3 32 := ⟨k_dX12_fresh_22.2.2.2.2.2, rfl⟩
theorem k_dX12_fresh_32 : decode (mX12_fresh).2.1 32 = .ok ((.invokestatic 235), 3) ∧ decode (mX12_fresh).2.1 35 = .ok ((.iconst (-1)), 1) ∧ decode (mX12_fresh).2.1 36 = .ok ((.if_icmp .eq 8), 3) ∧ decode (mX12_fresh).2.1 39 = .ok ((.aload_n 0), 1) ∧ decode (mX12_fresh).2.1 40 = .ok ((.iconst 3), 1) ∧ decode (mX12_fresh).2.1 41 = .ok ((.invokevirtual 232), 3) := by decide +kernel
theorem dX12_fresh_32 : Dc mX12_fresh 32 (.invokestatic 235) 3 35 := ⟨k_dX12_fresh_32.1, rfl⟩
theorem dX12_fresh_35 : Dc mX12_fresh 35 (.iconst (-1)) 1 36 := ⟨k_dX12_fresh_32.2.1, rfl⟩
theorem dX12_fresh_36 : Dc mX12_fresh 36 (.if_icmp .eq 8) 3 39 := ⟨k_dX12_fresh_32.2.2.1, rfl⟩
theorem dX12_fresh_39 : Dc mX12_fresh 39 (.aload_n 0) 1 40 := ⟨k_dX12_fresh_32.2.2.2.1, rfl⟩
theorem dX12_fresh_40 : Dc mX12_fresh 40 (.iconst 3) 1 41 := ⟨k_dX12_fresh_32.2.2.2.2.1, rfl⟩
theorem dX12_fresh_41 : Dc mX12_fresh 41 (.invokevirtual 232) 3 44 := ⟨k_dX12_fresh_32.2.2.2.2.2, rfl⟩
theorem k_dX12_fresh_44 : decode (mX12_fresh).2.1 44 = .ok ((.aload_n 0), 1) ∧ decode (mX12_fresh).2.1 45 = .ok ((.getfield 223), 3) ∧ decode (mX12_fresh).2.1 48 = .ok ((.ifCond .eq 5), 3) ∧ decode (mX12_fresh).2.1 51 = .ok ((.iconst 0), 1) ∧ decode (mX12_fresh).2.1 52 = .ok ((.ireturn), 1) ∧ decode (mX12_fresh).2.1 53 = .ok ((.aload_n 0), 1) := by decide +kernel
theorem dX12_fresh_44 : Dc mX12_fresh 44 (.aload_n 0) 1 45 := ⟨k_dX12_fresh_44.1, rfl⟩
theorem dX12_fresh_45 : Dc mX12_fresh 45 (.getfield 223) 3 48 := ⟨k_dX12_fresh_44.2.1, rfl⟩
theorem dX12_fresh_48 : Dc mX12_fresh 48 (.ifCond .eq 5) 3 51 := ⟨k_dX12_fresh_44.2.2.1, rfl⟩
theorem dX12_fresh_51 : Dc mX12_fresh 51 (.iconst 0) 1 52 := ⟨k_dX12_fresh_44.2.2.2.1, rfl⟩
theorem dX12_fresh_52 : Dc mX12_fresh 52 (.ireturn) 1 53 := ⟨k_dX12_fresh_44.2.2.2.2.1, rfl⟩
theorem dX12_fresh_53 : Dc mX12_fresh 53 (.aload_n 0) 1 54 := ⟨k_dX12_fresh_44.2.2.2.2.2, rfl⟩
theorem k_dX12_fresh_54 : decode (mX12_fresh).2.1 54 = .ok ((.getfield 198), 3) ∧ decode (mX12_fresh).2.1 57 = .ok ((.istore 4), 2) ∧ decode (mX12_fresh).2.1 59 = .ok ((.aload_n 0), 1) ∧ decode (mX12_fresh).2.1 60 = .ok ((.invokevirtual 229), 3) ∧ decode (mX12_fresh).2.1 63 = .ok ((.iload 4), 2) ∧ decode (mX12_fresh).2.1 65 = .ok ((.ireturn), 1) := by decide +kernel
theorem dX12_fresh_54 : Dc mX12_fresh 54 (.getfield 198) 3 57 := ⟨k_dX12_fresh_54.1, rfl⟩
theorem dX12_fresh_57 : Dc mX12_fresh 57 (.istore 4) 2 59 := ⟨k_dX12_fresh_54.2.1, rfl⟩
theorem dX12_fresh_59 : Dc mX12_fresh 59 (.aload_n 0) 1 60 := ⟨k_dX12_fresh_54.2.2.1, rfl⟩
theorem dX12_fresh_60 : Dc mX12_fresh 60 (.invokevirtual 229) 3 63 := ⟨k_dX12_fresh_54.2.2.2.1, rfl⟩
theorem dX12_fresh_63 : Dc mX12_fresh 63 (.iload 4) 2 65 := ⟨k_dX12_fresh_54.2.2.2.2.1, rfl⟩
theorem dX12_fresh_65 : Dc mX12_fresh 65 (.ireturn) 1 66 := ⟨k_dX12_fresh_54.2.2.2.2.2, rfl⟩
theorem k_dX12_fresher_0 : decode (mX12_fresher).2.1 0 = .ok ((.aload_n 0), 1) ∧ decode (mX12_fresher).2.1 1 = .ok ((.getfield 13), 3) ∧ decode (mX12_fresher).2.1 4 = .ok ((.bipush 10), 2) ∧ decode (mX12_fresher).2.1 6 = .ok ((.iload_n 1), 1) ∧ decode (mX12_fresher).2.1 7 = .ok ((.iadd), 1) ∧ decode (mX12_fresher).2.1 8 = .ok ((.iaload), 1) := by decide +kernel
theorem dX12_fresher_0 : Dc mX12_fresher 0 (.aload_n 0) 1 1 := ⟨k_dX12_fresher_0.1, rfl⟩
theorem dX12_fresher_1 : Dc mX12_fresher 1 (.getfield 13) 3 4 := ⟨k_dX12_fresher_0.2.1, rfl⟩
theorem dX12_fresher_4 : Dc mX12_fresher 4 (.bipush 10) 2 6 := ⟨k_dX12_fresher_0.2.2.1, rfl⟩
theorem dX12_fresher_6 : Dc mX12_fresher 6 (.iload_n 1) 1 7 := ⟨k_dX12_fresher_0.2.2.2.1, rfl⟩
theorem dX12_fresher_7 : Dc mX12_fresher 7 (.iadd) 1 8 := ⟨k_dX12_fresher_0.2.2.2.2.1, rfl⟩
theorem dX12_fresher_8 : Dc mX12_fresher 8 (.iaload) 1 9 := ⟨k_dX12_fresher_0.2.2.2.2.2, rfl⟩
theorem dX12_fresher_9 : Dc mX12_fresher 9 (.ireturn) 1 10 := ⟨by decide +kernel, rfl⟩
theorem k_dX12_reads_0 : decode (mX12_reads).2.1 0 = .ok ((.aload_n 0), 1) ∧ decode (mX12_reads).2.1 1 = .ok ((.getfield 13), 3) ∧ decode (mX12_reads).2.1 4 = .ok ((.bipush 10), 2) ∧ decode (mX12_reads).2.1 6 = .ok ((.iload_n 1), 1) ∧ decode (mX12_reads).2.1 7 = .ok ((.iadd), 1) ∧ decode (mX12_reads).2.1 8 = .ok ((.iload_n 2), 1) := by decide +kernel
theorem dX12_reads_0 : Dc mX12_reads 0 (.aload_n 0) 1 1 := ⟨k_dX12_reads_0.1, rfl⟩
theorem dX12_reads_1 : Dc mX12_reads 1 (.getfield 13) 3 4 := ⟨k_dX12_reads_0.2.1, rfl⟩
theorem dX12_reads_4 : Dc mX12_reads 4 (.bipush 10) 2 6 := ⟨k_dX12_reads_0.2.2.1, rfl⟩
theorem dX12_reads_6 : Dc mX12_reads 6 (.iload_n 1) 1 7 := ⟨k_dX12_reads_0.2.2.2.1, rfl⟩
theorem dX12_reads_7 : Dc mX12_reads 7 (.iadd) 1 8 := ⟨k_dX12_reads_0.2.2.2.2.1, rfl⟩
theorem dX12_reads_8 : Dc mX12_reads 8 (.iload_n 2) 1 9 := ⟨k_dX12_reads_0.2.2.2.2.2, rfl⟩
theorem k_dX12_reads_9 : decode (mX12_reads).2.1 9 = .ok ((.iastore), 1) ∧ decode (mX12_reads).2.1 10 = .ok ((.return_), 1) := by decide +kernel
theorem dX12_reads_9 : Dc mX12_reads 9 (.iastore) 1 10 := ⟨k_dX12_reads_9.1, rfl⟩
theorem dX12_reads_10 : Dc mX12_reads 10 (.return_) 1 11 := ⟨k_dX12_reads_9.2, rfl⟩
theorem k_dX12_atHand_0 : decode (mX12_atHand).2.1 0 = .ok ((.aload_n 0), 1) ∧ decode (mX12_atHand).2.1 1 = .ok ((.getfield 223), 3) ∧ decode (mX12_atHand).2.1 4 = .ok ((.ifCond .eq 5), 3) ∧ decode (mX12_atHand).2.1 7 = .ok ((.iconst 0), 1) ∧ decode (mX12_atHand).2.1 8 = .ok ((.ireturn), 1) ∧ decode (mX12_atHand).2.1 9 = .ok ((.aload_n 0), 1) := by decide +kernel
theorem dX12_atHand_0 : Dc mX12_atHand 0 (.aload_n 0) 1 1 := ⟨k_dX12_atHand_0.1, rfl⟩
theorem dX12_atHand_1 : Dc mX12_atHand 1 (.getfield 223) 3 4 := ⟨k_dX12_atHand_0.2.1, rfl⟩
theorem dX12_atHand_4 : Dc mX12_atHand 4 (.ifCond .eq 5) 3 7 := ⟨k_dX12_atHand_0.2.2.1, rfl⟩
theorem dX12_atHand_7 : Dc mX12_atHand 7 (.iconst 0) 1 8 := ⟨k_dX12_atHand_0.2.2.2.1, rfl⟩
theorem dX12_atHand_8 : Dc mX12_atHand 8 (.ireturn) 1 9 := ⟨k_dX12_atHand_0.2.2.2.2.1, rfl⟩
theorem dX12_atHand_9 : Dc mX12_atHand 9 (.aload_n 0) 1 10 := ⟨k_dX12_atHand_0.2.2.2.2.2, rfl⟩
theorem k_dX12_atHand_10 : decode (mX12_atHand).2.1 10 = .ok ((.getfield 188), 3) ∧ decode (mX12_atHand).2.1 13 = .ok ((.iconst 1), 1) ∧ decode (mX12_atHand).2.1 14 = .ok ((.if_icmp .eq 11), 3) ∧ decode (mX12_atHand).2.1 17 = .ok ((.aload_n 0), 1) ∧ decode (mX12_atHand).2.1 18 = .ok ((.iconst 1), 1) ∧ decode (mX12_atHand).2.1 19 = .ok ((.invokevirtual 232), 3) := by decide +kernel
theorem dX12_atHand_10 : Dc mX12_atHand 10 (.getfield 188) 3 13 := ⟨k_dX12_atHand_10.1, rfl⟩
theorem dX12_atHand_13 : Dc mX12_atHand 13 (.iconst 1) 1 14 := ⟨k_dX12_atHand_10.2.1, rfl⟩
theorem dX12_atHand_14 : Dc mX12_atHand 14 (.if_icmp .eq 11) 3 17 := ⟨k_dX12_atHand_10.2.2.1, rfl⟩
theorem dX12_atHand_17 : Dc mX12_atHand 17 (.aload_n 0) 1 18 := ⟨k_dX12_atHand_10.2.2.2.1, rfl⟩
theorem dX12_atHand_18 : Dc mX12_atHand 18 (.iconst 1) 1 19 := ⟨k_dX12_atHand_10.2.2.2.2.1, rfl⟩
theorem dX12_atHand_19 : Dc mX12_atHand 19 (.invokevirtual 232) 3 22 := ⟨k_dX12_atHand_10.2.2.2.2.2, rfl⟩
theorem k_dX12_atHand_22 : decode (mX12_atHand).2.1 22 = .ok ((.goto 22), 3) ∧ decode (mX12_atHand).2.1 25 = .ok ((.aload_n 1), 1) ∧ decode (mX12_atHand).2.1 26 = .ok ((.iload_n 2), 1) ∧ decode (mX12_atHand).2.1 27 = .ok ((.iload_n 3), 1) ∧ decode (mX12_atHand).2.1 28 = .ok ((.aload_n 0), 1) ∧ decode (mX12_atHand).2.1 29 = .ok ((.getfield 198), 3) := by decide +kernel
theorem dX12_atHand_22 : Dc mX12_atHand 22 (.goto 22) 3 25 := ⟨k_dX12_atHand_22.1, rfl⟩
theorem dX12_atHand_25 : Dc mX12_atHand 25 (.aload_n 1) 1 26 := ⟨k_dX12_atHand_22.2.1, rfl⟩
theorem dX12_atHand_26 : Dc mX12_atHand 26 (.iload_n 2) 1 27 := ⟨k_dX12_atHand_22.2.2.1, rfl⟩
theorem dX12_atHand_27 : Dc mX12_atHand 27 (.iload_n 3) 1 28 := ⟨k_dX12_atHand_22.2.2.2.1, rfl⟩
theorem dX12_atHand_28 : Dc mX12_atHand 28 (.aload_n 0) 1 29 := ⟨k_dX12_atHand_22.2.2.2.2.1, rfl⟩
theorem dX12_atHand_29 : Dc mX12_atHand 29 (.getfield 198) 3 32 := ⟨k_dX12_atHand_22.2.2.2.2.2, rfl⟩
theorem k_dX12_atHand_32 : decode (mX12_atHand).2.1 32 = .ok ((.invokestatic 235), 3) ∧ decode (mX12_atHand).2.1 35 = .ok ((.iconst (-1)), 1) ∧ decode (mX12_atHand).2.1 36 = .ok ((.if_icmp .ne 8), 3) ∧ decode (mX12_atHand).2.1 39 = .ok ((.aload_n 0), 1) ∧ decode (mX12_atHand).2.1 40 = .ok ((.iconst 4), 1) ∧ decode (mX12_atHand).2.1 41 = .ok ((.invokevirtual 232), 3) := by decide +kernel
theorem dX12_atHand_32 : Dc mX12_atHand 32 (.invokestatic 235) 3 35 := ⟨k_dX12_atHand_32.1, rfl⟩
theorem dX12_atHand_35 : Dc mX12_atHand 35 (.iconst (-1)) 1 36 := ⟨k_dX12_atHand_32.2.1, rfl⟩
theorem dX12_atHand_36 : Dc mX12_atHand 36 (.if_icmp .ne 8) 3 39 := ⟨k_dX12_atHand_32.2.2.1, rfl⟩
theorem dX12_atHand_39 : Dc mX12_atHand 39 (.aload_n 0) 1 40 := ⟨k_dX12_atHand_32.2.2.2.1, rfl⟩
theorem dX12_atHand_40 : Dc mX12_atHand 40 (.iconst 4) 1 41 := ⟨k_dX12_atHand_32.2.2.2.2.1, rfl⟩
theorem dX12_atHand_41 : Dc mX12_atHand 41 (.invokevirtual 232) 3 44 := ⟨k_dX12_atHand_32.2.2.2.2.2, rfl⟩
theorem k_dX12_atHand_44 : decode (mX12_atHand).2.1 44 = .ok ((.aload_n 0), 1) ∧ decode (mX12_atHand).2.1 45 = .ok ((.getfield 223), 3) ∧ decode (mX12_atHand).2.1 48 = .ok ((.ifCond .eq 7), 3) ∧ decode (mX12_atHand).2.1 51 = .ok ((.iconst 0), 1) ∧ decode (mX12_atHand).2.1 52 = .ok ((.goto 13), 3) ∧ decode (mX12_atHand).2.1 55 = .ok ((.aload_n 1), 1) := by decide +kernel
theorem dX12_atHand_44 : Dc mX12_atHand 44 (.aload_n 0) 1 45 := ⟨k_dX12_atHand_44.1, rfl⟩
theorem dX12_atHand_45 : Dc mX12_atHand 45 (.getfield 223) 3 48 := ⟨k_dX12_atHand_44.2.1, rfl⟩
theorem dX12_atHand_48 : Dc mX12_atHand 48 (.ifCond .eq 7) 3 51 := ⟨k_dX12_atHand_44.2.2.1, rfl⟩
theorem dX12_atHand_51 : Dc mX12_atHand 51 (.iconst 0) 1 52 := ⟨k_dX12_atHand_44.2.2.2.1, rfl⟩
theorem dX12_atHand_52 : Dc mX12_atHand 52 (.goto 13) 3 55 := ⟨k_dX12_atHand_44.2.2.2.2.1, rfl⟩
theorem dX12_atHand_55 : Dc mX12_atHand 55 (.aload_n 1) 1 56 := ⟨k_dX12_atHand_44.2.2.2.2.2, rfl⟩
theorem k_dX12_atHand_56 : decode (mX12_atHand).2.1 56 = .ok ((.iload_n 2), 1) ∧ decode (mX12_atHand).2.1 57 = .ok ((.iload_n 3), 1) ∧ decode (mX12_atHand).2.1 58 = .ok ((.aload_n 0), 1) ∧ decode (mX12_atHand).2.1 59 = .ok ((.getfield 198), 3) ∧ decode (mX12_atHand).2.1 62 = .ok ((.invokestatic 235), 3) ∧ decode (mX12_atHand).2.1 65 = .ok ((.ireturn), 1) := by decide +kernel
theorem dX12_atHand_56 : Dc mX12_atHand 56 (.iload_n 2) 1 57 := ⟨k_dX12_atHand_56.1, rfl⟩
theorem dX12_atHand_57 : Dc mX12_atHand 57 (.iload_n 3) 1 58 := ⟨k_dX12_atHand_56.2.1, rfl⟩
theorem dX12_atHand_58 : Dc mX12_atHand 58 (.aload_n 0) 1 59 := ⟨k_dX12_atHand_56.2.2.1, rfl⟩
theorem dX12_atHand_59 : Dc mX12_atHand 59 (.getfield 198) 3 62 := ⟨k_dX12_atHand_56.2.2.2.1, rfl⟩
theorem dX12_atHand_62 : Dc mX12_atHand 62 (.invokestatic 235) 3 65 := ⟨k_dX12_atHand_56.2.2.2.2.1, rfl⟩
theorem dX12_atHand_65 : Dc mX12_atHand 65 (.ireturn) 1 66 := ⟨k_dX12_atHand_56.2.2.2.2.2, rfl⟩
theorem k_dX12_markAtHand_0 : decode (mX12_markAtHand).2.1 0 = .ok ((.aload_n 0), 1) ∧ decode (mX12_markAtHand).2.1 1 = .ok ((.aload_n 0), 1) ∧ decode (mX12_markAtHand).2.1 2 = .ok ((.getfield 16), 3) ∧ decode (mX12_markAtHand).2.1 5 = .ok ((.bipush 6), 2) ∧ decode (mX12_markAtHand).2.1 7 = .ok ((.aload_n 0), 1) ∧ decode (mX12_markAtHand).2.1 8 = .ok ((.iconst 0), 1) := by decide +kernel
theorem dX12_markAtHand_0 : Dc mX12_markAtHand 0 (.aload_n 0) 1 1 := ⟨k_dX12_markAtHand_0.1, rfl⟩
theorem dX12_markAtHand_1 : Dc mX12_markAtHand 1 (.aload_n 0) 1 2 := ⟨k_dX12_markAtHand_0.2.1, rfl⟩
theorem dX12_markAtHand_2 : Dc mX12_markAtHand 2 (.getfield 16) 3 5 := ⟨k_dX12_markAtHand_0.2.2.1, rfl⟩
theorem dX12_markAtHand_5 : Dc mX12_markAtHand 5 (.bipush 6) 2 7 := ⟨k_dX12_markAtHand_0.2.2.2.1, rfl⟩
theorem dX12_markAtHand_7 : Dc mX12_markAtHand 7 (.aload_n 0) 1 8 := ⟨k_dX12_markAtHand_0.2.2.2.2.1, rfl⟩
theorem dX12_markAtHand_8 : Dc mX12_markAtHand 8 (.iconst 0) 1 9 := ⟨k_dX12_markAtHand_0.2.2.2.2.2, rfl⟩
theorem k_dX12_markAtHand_9 : decode (mX12_markAtHand).2.1 9 = .ok ((.invokevirtual 239), 3) ∧ decode (mX12_markAtHand).2.1 12 = .ok ((.invokevirtual 243), 3) ∧ decode (mX12_markAtHand).2.1 15 = .ok ((.ireturn), 1) := by decide +kernel
theorem dX12_markAtHand_9 : Dc mX12_markAtHand 9 (.invokevirtual 239) 3 12 := ⟨k_dX12_markAtHand_9.1, rfl⟩
theorem dX12_markAtHand_12 : Dc mX12_markAtHand 12 (.invokevirtual 243) 3 15 := ⟨k_dX12_markAtHand_9.2.1, rfl⟩
theorem dX12_markAtHand_15 : Dc mX12_markAtHand 15 (.ireturn) 1 16 := ⟨k_dX12_markAtHand_9.2.2, rfl⟩
theorem k_dX12_isFull_0 : decode (mX12_isFull).2.1 0 = .ok ((.iload_n 1), 1) ∧ decode (mX12_isFull).2.1 1 = .ok ((.tableswitch 132 0 5 #[39, 55, 71, 87, 102, 117]), 39) ∧ decode (mX12_isFull).2.1 40 = .ok ((.aload_n 0), 1) ∧ decode (mX12_isFull).2.1 41 = .ok ((.iconst 0), 1) ∧ decode (mX12_isFull).2.1 42 = .ok ((.invokevirtual 239), 3) ∧ decode (mX12_isFull).2.1 45 = .ok ((.bipush 6), 2) := by decide +kernel
theorem dX12_isFull_0 : Dc mX12_isFull 0 (.iload_n 1) 1 1 := ⟨k_dX12_isFull_0.1, rfl⟩
theorem dX12_isFull_1 : Dc mX12_isFull 1 (.tableswitch 132 0 5 #[39, 55, 71, 87, 102, 117]) 39 40 := ⟨k_dX12_isFull_0.2.1, rfl⟩
theorem dX12_isFull_40 : Dc mX12_isFull 40 (.aload_n 0) 1 41 := ⟨k_dX12_isFull_0.2.2.1, rfl⟩
theorem dX12_isFull_41 : Dc mX12_isFull 41 (.iconst 0) 1 42 := ⟨k_dX12_isFull_0.2.2.2.1, rfl⟩
theorem dX12_isFull_42 : Dc mX12_isFull 42 (.invokevirtual 239) 3 45 := ⟨k_dX12_isFull_0.2.2.2.2.1, rfl⟩
theorem dX12_isFull_45 : Dc mX12_isFull 45 (.bipush 6) 2 47 := ⟨k_dX12_isFull_0.2.2.2.2.2, rfl⟩
theorem k_dX12_isFull_47 : decode (mX12_isFull).2.1 47 = .ok ((.if_icmp .ne 7), 3) ∧ decode (mX12_isFull).2.1 50 = .ok ((.iconst 1), 1) ∧ decode (mX12_isFull).2.1 51 = .ok ((.goto 4), 3) ∧ decode (mX12_isFull).2.1 54 = .ok ((.iconst 0), 1) ∧ decode (mX12_isFull).2.1 55 = .ok ((.ireturn), 1) ∧ decode (mX12_isFull).2.1 56 = .ok ((.aload_n 0), 1) := by decide +kernel
theorem dX12_isFull_47 : Dc mX12_isFull 47 (.if_icmp .ne 7) 3 50 := ⟨k_dX12_isFull_47.1, rfl⟩
theorem dX12_isFull_50 : Dc mX12_isFull 50 (.iconst 1) 1 51 := ⟨k_dX12_isFull_47.2.1, rfl⟩
theorem dX12_isFull_51 : Dc mX12_isFull 51 (.goto 4) 3 54 := ⟨k_dX12_isFull_47.2.2.1, rfl⟩
theorem dX12_isFull_54 : Dc mX12_isFull 54 (.iconst 0) 1 55 := ⟨k_dX12_isFull_47.2.2.2.1, rfl⟩
theorem dX12_isFull_55 : Dc mX12_isFull 55 (.ireturn) 1 56 := ⟨k_dX12_isFull_47.2.2.2.2.1, rfl⟩
theorem dX12_isFull_56 : Dc mX12_isFull 56 (.aload_n 0) 1 57 := ⟨k_dX12_isFull_47.2.2.2.2.2, rfl⟩
theorem k_dX12_isFull_57 : decode (mX12_isFull).2.1 57 = .ok ((.iconst 1), 1) ∧ decode (mX12_isFull).2.1 58 = .ok ((.invokevirtual 239), 3) ∧ decode (mX12_isFull).2.1 61 = .ok ((.bipush 8), 2) ∧ decode (mX12_isFull).2.1 63 = .ok ((.if_icmp .ne 7), 3) ∧ decode (mX12_isFull).2.1 66 = .ok ((.iconst 1), 1) ∧ decode (mX12_isFull).2.1 67 = .ok ((.goto 4), 3) := by decide +kernel
theorem dX12_isFull_57 : Dc mX12_isFull 57 (.iconst 1) 1 58 := ⟨k_dX12_isFull_57.1, rfl⟩
theorem dX12_isFull_58 : Dc mX12_isFull 58 (.invokevirtual 239) 3 61 := ⟨k_dX12_isFull_57.2.1, rfl⟩
theorem dX12_isFull_61 : Dc mX12_isFull 61 (.bipush 8) 2 63 := ⟨k_dX12_isFull_57.2.2.1, rfl⟩
theorem dX12_isFull_63 : Dc mX12_isFull 63 (.if_icmp .ne 7) 3 66 := ⟨k_dX12_isFull_57.2.2.2.1, rfl⟩
theorem dX12_isFull_66 : Dc mX12_isFull 66 (.iconst 1) 1 67 := ⟨k_dX12_isFull_57.2.2.2.2.1, rfl⟩
theorem dX12_isFull_67 : Dc mX12_isFull 67 (.goto 4) 3 70 := ⟨k_dX12_isFull_57.2.2.2.2.2, rfl⟩
theorem k_dX12_isFull_70 : decode (mX12_isFull).2.1 70 = .ok ((.iconst 0), 1) ∧ decode (mX12_isFull).2.1 71 = .ok ((.ireturn), 1) ∧ decode (mX12_isFull).2.1 72 = .ok ((.aload_n 0), 1) ∧ decode (mX12_isFull).2.1 73 = .ok ((.iconst 2), 1) ∧ decode (mX12_isFull).2.1 74 = .ok ((.invokevirtual 239), 3) ∧ decode (mX12_isFull).2.1 77 = .ok ((.bipush 20), 2) := by decide +kernel
theorem dX12_isFull_70 : Dc mX12_isFull 70 (.iconst 0) 1 71 := ⟨k_dX12_isFull_70.1, rfl⟩
theorem dX12_isFull_71 : Dc mX12_isFull 71 (.ireturn) 1 72 := ⟨k_dX12_isFull_70.2.1, rfl⟩
theorem dX12_isFull_72 : Dc mX12_isFull 72 (.aload_n 0) 1 73 := ⟨k_dX12_isFull_70.2.2.1, rfl⟩
theorem dX12_isFull_73 : Dc mX12_isFull 73 (.iconst 2) 1 74 := ⟨k_dX12_isFull_70.2.2.2.1, rfl⟩
theorem dX12_isFull_74 : Dc mX12_isFull 74 (.invokevirtual 239) 3 77 := ⟨k_dX12_isFull_70.2.2.2.2.1, rfl⟩
theorem dX12_isFull_77 : Dc mX12_isFull 77 (.bipush 20) 2 79 := ⟨k_dX12_isFull_70.2.2.2.2.2, rfl⟩
theorem k_dX12_isFull_79 : decode (mX12_isFull).2.1 79 = .ok ((.if_icmp .ne 7), 3) ∧ decode (mX12_isFull).2.1 82 = .ok ((.iconst 1), 1) ∧ decode (mX12_isFull).2.1 83 = .ok ((.goto 4), 3) ∧ decode (mX12_isFull).2.1 86 = .ok ((.iconst 0), 1) ∧ decode (mX12_isFull).2.1 87 = .ok ((.ireturn), 1) ∧ decode (mX12_isFull).2.1 88 = .ok ((.aload_n 0), 1) := by decide +kernel
theorem dX12_isFull_79 : Dc mX12_isFull 79 (.if_icmp .ne 7) 3 82 := ⟨k_dX12_isFull_79.1, rfl⟩
theorem dX12_isFull_82 : Dc mX12_isFull 82 (.iconst 1) 1 83 := ⟨k_dX12_isFull_79.2.1, rfl⟩
theorem dX12_isFull_83 : Dc mX12_isFull 83 (.goto 4) 3 86 := ⟨k_dX12_isFull_79.2.2.1, rfl⟩
theorem dX12_isFull_86 : Dc mX12_isFull 86 (.iconst 0) 1 87 := ⟨k_dX12_isFull_79.2.2.2.1, rfl⟩
theorem dX12_isFull_87 : Dc mX12_isFull 87 (.ireturn) 1 88 := ⟨k_dX12_isFull_79.2.2.2.2.1, rfl⟩
theorem dX12_isFull_88 : Dc mX12_isFull 88 (.aload_n 0) 1 89 := ⟨k_dX12_isFull_79.2.2.2.2.2, rfl⟩
theorem k_dX12_isFull_89 : decode (mX12_isFull).2.1 89 = .ok ((.iconst 3), 1) ∧ decode (mX12_isFull).2.1 90 = .ok ((.invokevirtual 239), 3) ∧ decode (mX12_isFull).2.1 93 = .ok ((.iconst 4), 1) ∧ decode (mX12_isFull).2.1 94 = .ok ((.if_icmp .ne 7), 3) ∧ decode (mX12_isFull).2.1 97 = .ok ((.iconst 1), 1) ∧ decode (mX12_isFull).2.1 98 = .ok ((.goto 4), 3) := by decide +kernel
theorem dX12_isFull_89 : Dc mX12_isFull 89 (.iconst 3) 1 90 := ⟨k_dX12_isFull_89.1, rfl⟩
theorem dX12_isFull_90 : Dc mX12_isFull 90 (.invokevirtual 239) 3 93 := ⟨k_dX12_isFull_89.2.1, rfl⟩
theorem dX12_isFull_93 : Dc mX12_isFull 93 (.iconst 4) 1 94 := ⟨k_dX12_isFull_89.2.2.1, rfl⟩
theorem dX12_isFull_94 : Dc mX12_isFull 94 (.if_icmp .ne 7) 3 97 := ⟨k_dX12_isFull_89.2.2.2.1, rfl⟩
theorem dX12_isFull_97 : Dc mX12_isFull 97 (.iconst 1) 1 98 := ⟨k_dX12_isFull_89.2.2.2.2.1, rfl⟩
theorem dX12_isFull_98 : Dc mX12_isFull 98 (.goto 4) 3 101 := ⟨k_dX12_isFull_89.2.2.2.2.2, rfl⟩
theorem k_dX12_isFull_101 : decode (mX12_isFull).2.1 101 = .ok ((.iconst 0), 1) ∧ decode (mX12_isFull).2.1 102 = .ok ((.ireturn), 1) ∧ decode (mX12_isFull).2.1 103 = .ok ((.aload_n 0), 1) ∧ decode (mX12_isFull).2.1 104 = .ok ((.iconst 4), 1) ∧ decode (mX12_isFull).2.1 105 = .ok ((.invokevirtual 239), 3) ∧ decode (mX12_isFull).2.1 108 = .ok ((.iconst 4), 1) := by decide +kernel
theorem dX12_isFull_101 : Dc mX12_isFull 101 (.iconst 0) 1 102 := ⟨k_dX12_isFull_101.1, rfl⟩
theorem dX12_isFull_102 : Dc mX12_isFull 102 (.ireturn) 1 103 := ⟨k_dX12_isFull_101.2.1, rfl⟩
theorem dX12_isFull_103 : Dc mX12_isFull 103 (.aload_n 0) 1 104 := ⟨k_dX12_isFull_101.2.2.1, rfl⟩
theorem dX12_isFull_104 : Dc mX12_isFull 104 (.iconst 4) 1 105 := ⟨k_dX12_isFull_101.2.2.2.1, rfl⟩
theorem dX12_isFull_105 : Dc mX12_isFull 105 (.invokevirtual 239) 3 108 := ⟨k_dX12_isFull_101.2.2.2.2.1, rfl⟩
theorem dX12_isFull_108 : Dc mX12_isFull 108 (.iconst 4) 1 109 := ⟨k_dX12_isFull_101.2.2.2.2.2, rfl⟩
theorem k_dX12_isFull_109 : decode (mX12_isFull).2.1 109 = .ok ((.if_icmp .ne 7), 3) ∧ decode (mX12_isFull).2.1 112 = .ok ((.iconst 1), 1) ∧ decode (mX12_isFull).2.1 113 = .ok ((.goto 4), 3) ∧ decode (mX12_isFull).2.1 116 = .ok ((.iconst 0), 1) ∧ decode (mX12_isFull).2.1 117 = .ok ((.ireturn), 1) ∧ decode (mX12_isFull).2.1 118 = .ok ((.aload_n 0), 1) := by decide +kernel
theorem dX12_isFull_109 : Dc mX12_isFull 109 (.if_icmp .ne 7) 3 112 := ⟨k_dX12_isFull_109.1, rfl⟩
theorem dX12_isFull_112 : Dc mX12_isFull 112 (.iconst 1) 1 113 := ⟨k_dX12_isFull_109.2.1, rfl⟩
theorem dX12_isFull_113 : Dc mX12_isFull 113 (.goto 4) 3 116 := ⟨k_dX12_isFull_109.2.2.1, rfl⟩
theorem dX12_isFull_116 : Dc mX12_isFull 116 (.iconst 0) 1 117 := ⟨k_dX12_isFull_109.2.2.2.1, rfl⟩
theorem dX12_isFull_117 : Dc mX12_isFull 117 (.ireturn) 1 118 := ⟨k_dX12_isFull_109.2.2.2.2.1, rfl⟩
theorem dX12_isFull_118 : Dc mX12_isFull 118 (.aload_n 0) 1 119 := ⟨k_dX12_isFull_109.2.2.2.2.2, rfl⟩
theorem k_dX12_isFull_119 : decode (mX12_isFull).2.1 119 = .ok ((.iconst 5), 1) ∧ decode (mX12_isFull).2.1 120 = .ok ((.invokevirtual 239), 3) ∧ decode (mX12_isFull).2.1 123 = .ok ((.iconst 3), 1) ∧ decode (mX12_isFull).2.1 124 = .ok ((.if_icmp .ne 7), 3) ∧ decode (mX12_isFull).2.1 127 = .ok ((.iconst 1), 1) ∧ decode (mX12_isFull).2.1 128 = .ok ((.goto 4), 3) := by decide +kernel
theorem dX12_isFull_119 : Dc mX12_isFull 119 (.iconst 5) 1 120 := ⟨k_dX12_isFull_119.1, rfl⟩
theorem dX12_isFull_120 : Dc mX12_isFull 120 (.invokevirtual 239) 3 123 := ⟨k_dX12_isFull_119.2.1, rfl⟩
theorem dX12_isFull_123 : Dc mX12_isFull 123 (.iconst 3) 1 124 := ⟨k_dX12_isFull_119.2.2.1, rfl⟩
theorem dX12_isFull_124 : Dc mX12_isFull 124 (.if_icmp .ne 7) 3 127 := ⟨k_dX12_isFull_119.2.2.2.1, rfl⟩
theorem dX12_isFull_127 : Dc mX12_isFull 127 (.iconst 1) 1 128 := ⟨k_dX12_isFull_119.2.2.2.2.1, rfl⟩
theorem dX12_isFull_128 : Dc mX12_isFull 128 (.goto 4) 3 131 := ⟨k_dX12_isFull_119.2.2.2.2.2, rfl⟩
theorem k_dX12_isFull_131 : decode (mX12_isFull).2.1 131 = .ok ((.iconst 0), 1) ∧ decode (mX12_isFull).2.1 132 = .ok ((.ireturn), 1) ∧ decode (mX12_isFull).2.1 133 = .ok ((.iconst 0), 1) ∧ decode (mX12_isFull).2.1 134 = .ok ((.ireturn), 1) := by decide +kernel
theorem dX12_isFull_131 : Dc mX12_isFull 131 (.iconst 0) 1 132 := ⟨k_dX12_isFull_131.1, rfl⟩
theorem dX12_isFull_132 : Dc mX12_isFull 132 (.ireturn) 1 133 := ⟨k_dX12_isFull_131.2.1, rfl⟩
theorem dX12_isFull_133 : Dc mX12_isFull 133 (.iconst 0) 1 134 := ⟨k_dX12_isFull_131.2.2.1, rfl⟩
theorem dX12_isFull_134 : Dc mX12_isFull 134 (.ireturn) 1 135 := ⟨k_dX12_isFull_131.2.2.2, rfl⟩
theorem k_dX12_line_0 : decode (mX12_line).2.1 0 = .ok ((.aload_n 0), 1) ∧ decode (mX12_line).2.1 1 = .ok ((.getfield 188), 3) ∧ decode (mX12_line).2.1 4 = .ok ((.ifCond .ne 12), 3) ∧ decode (mX12_line).2.1 7 = .ok ((.aload_n 0), 1) ∧ decode (mX12_line).2.1 8 = .ok ((.getfield 198), 3) ∧ decode (mX12_line).2.1 11 = .ok ((.bipush 9), 2) := by decide +kernel
theorem dX12_line_0 : Dc mX12_line 0 (.aload_n 0) 1 1 := ⟨k_dX12_line_0.1, rfl⟩
theorem dX12_line_1 : Dc mX12_line 1 (.getfield 188) 3 4 := ⟨k_dX12_line_0.2.1, rfl⟩
theorem dX12_line_4 : Dc mX12_line 4 (.ifCond .ne 12) 3 7 := ⟨k_dX12_line_0.2.2.1, rfl⟩
theorem dX12_line_7 : Dc mX12_line 7 (.aload_n 0) 1 8 := ⟨k_dX12_line_0.2.2.2.1, rfl⟩
theorem dX12_line_8 : Dc mX12_line 8 (.getfield 198) 3 11 := ⟨k_dX12_line_0.2.2.2.2.1, rfl⟩
theorem dX12_line_11 : Dc mX12_line 11 (.bipush 9) 2 13 := ⟨k_dX12_line_0.2.2.2.2.2, rfl⟩
theorem k_dX12_line_13 : decode (mX12_line).2.1 13 = .ok ((.if_icmp .le 9), 3) ∧ decode (mX12_line).2.1 16 = .ok ((.aload_n 0), 1) ∧ decode (mX12_line).2.1 17 = .ok ((.iconst 1), 1) ∧ decode (mX12_line).2.1 18 = .ok ((.invokevirtual 232), 3) ∧ decode (mX12_line).2.1 21 = .ok ((.return_), 1) ∧ decode (mX12_line).2.1 22 = .ok ((.aload_n 0), 1) := by decide +kernel
theorem dX12_line_13 : Dc mX12_line 13 (.if_icmp .le 9) 3 16 := ⟨k_dX12_line_13.1, rfl⟩
theorem dX12_line_16 : Dc mX12_line 16 (.aload_n 0) 1 17 := ⟨k_dX12_line_13.2.1, rfl⟩
theorem dX12_line_17 : Dc mX12_line 17 (.iconst 1) 1 18 := ⟨k_dX12_line_13.2.2.1, rfl⟩
theorem dX12_line_18 : Dc mX12_line 18 (.invokevirtual 232) 3 21 := ⟨k_dX12_line_13.2.2.2.1, rfl⟩
theorem dX12_line_21 : Dc mX12_line 21 (.return_) 1 22 := ⟨k_dX12_line_13.2.2.2.2.1, rfl⟩
theorem dX12_line_22 : Dc mX12_line 22 (.aload_n 0) 1 23 := ⟨k_dX12_line_13.2.2.2.2.2, rfl⟩
theorem k_dX12_line_23 : decode (mX12_line).2.1 23 = .ok ((.getfield 198), 3) ∧ decode (mX12_line).2.1 26 = .ok ((.istore_n 1), 1) ∧ decode (mX12_line).2.1 27 = .ok ((.aload_n 0), 1) ∧ decode (mX12_line).2.1 28 = .ok ((.iload_n 1), 1) ∧ decode (mX12_line).2.1 29 = .ok ((.invokevirtual 247), 3) ∧ decode (mX12_line).2.1 32 = .ok ((.ifCond .eq 11), 3) := by decide +kernel
theorem dX12_line_23 : Dc mX12_line 23 (.getfield 198) 3 26 := ⟨k_dX12_line_23.1, rfl⟩
theorem dX12_line_26 : Dc mX12_line 26 (.istore_n 1) 1 27 := ⟨k_dX12_line_23.2.1, rfl⟩
theorem dX12_line_27 : Dc mX12_line 27 (.aload_n 0) 1 28 := ⟨k_dX12_line_23.2.2.1, rfl⟩
theorem dX12_line_28 : Dc mX12_line 28 (.iload_n 1) 1 29 := ⟨k_dX12_line_23.2.2.2.1, rfl⟩
theorem dX12_line_29 : Dc mX12_line 29 (.invokevirtual 247) 3 32 := ⟨k_dX12_line_23.2.2.2.2.1, rfl⟩
theorem dX12_line_32 : Dc mX12_line 32 (.ifCond .eq 11) 3 35 := ⟨k_dX12_line_23.2.2.2.2.2, rfl⟩
theorem k_dX12_line_35 : decode (mX12_line).2.1 35 = .ok ((.aload_n 0), 1) ∧ decode (mX12_line).2.1 36 = .ok ((.iconst 2), 1) ∧ decode (mX12_line).2.1 37 = .ok ((.invokevirtual 232), 3) ∧ decode (mX12_line).2.1 40 = .ok ((.goto 32), 3) ∧ decode (mX12_line).2.1 43 = .ok ((.iload_n 1), 1) ∧ decode (mX12_line).2.1 44 = .ok ((.bipush 6), 2) := by decide +kernel
theorem dX12_line_35 : Dc mX12_line 35 (.aload_n 0) 1 36 := ⟨k_dX12_line_35.1, rfl⟩
theorem dX12_line_36 : Dc mX12_line 36 (.iconst 2) 1 37 := ⟨k_dX12_line_35.2.1, rfl⟩
theorem dX12_line_37 : Dc mX12_line 37 (.invokevirtual 232) 3 40 := ⟨k_dX12_line_35.2.2.1, rfl⟩
theorem dX12_line_40 : Dc mX12_line 40 (.goto 32) 3 43 := ⟨k_dX12_line_35.2.2.2.1, rfl⟩
theorem dX12_line_43 : Dc mX12_line 43 (.iload_n 1) 1 44 := ⟨k_dX12_line_35.2.2.2.2.1, rfl⟩
theorem dX12_line_44 : Dc mX12_line 44 (.bipush 6) 2 46 := ⟨k_dX12_line_35.2.2.2.2.2, rfl⟩
theorem k_dX12_line_46 : decode (mX12_line).2.1 46 = .ok ((.if_icmp .lt 26), 3) ∧ decode (mX12_line).2.1 49 = .ok ((.iload_n 1), 1) ∧ decode (mX12_line).2.1 50 = .ok ((.bipush 8), 2) ∧ decode (mX12_line).2.1 52 = .ok ((.if_icmp .gt 20), 3) ∧ decode (mX12_line).2.1 55 = .ok ((.aload_n 0), 1) ∧ decode (mX12_line).2.1 56 = .ok ((.getfield 250), 3) := by decide +kernel
theorem dX12_line_46 : Dc mX12_line 46 (.if_icmp .lt 26) 3 49 := ⟨k_dX12_line_46.1, rfl⟩
theorem dX12_line_49 : Dc mX12_line 49 (.iload_n 1) 1 50 := ⟨k_dX12_line_46.2.1, rfl⟩
theorem dX12_line_50 : Dc mX12_line 50 (.bipush 8) 2 52 := ⟨k_dX12_line_46.2.2.1, rfl⟩
theorem dX12_line_52 : Dc mX12_line 52 (.if_icmp .gt 20) 3 55 := ⟨k_dX12_line_46.2.2.2.1, rfl⟩
theorem dX12_line_55 : Dc mX12_line 55 (.aload_n 0) 1 56 := ⟨k_dX12_line_46.2.2.2.2.1, rfl⟩
theorem dX12_line_56 : Dc mX12_line 56 (.getfield 250) 3 59 := ⟨k_dX12_line_46.2.2.2.2.2, rfl⟩
theorem k_dX12_line_59 : decode (mX12_line).2.1 59 = .ok ((.iload_n 1), 1) ∧ decode (mX12_line).2.1 60 = .ok ((.ishr), 1) ∧ decode (mX12_line).2.1 61 = .ok ((.iconst 1), 1) ∧ decode (mX12_line).2.1 62 = .ok ((.iand), 1) ∧ decode (mX12_line).2.1 63 = .ok ((.iconst 1), 1) ∧ decode (mX12_line).2.1 64 = .ok ((.if_icmp .ne 8), 3) := by decide +kernel
theorem dX12_line_59 : Dc mX12_line 59 (.iload_n 1) 1 60 := ⟨k_dX12_line_59.1, rfl⟩
theorem dX12_line_60 : Dc mX12_line 60 (.ishr) 1 61 := ⟨k_dX12_line_59.2.1, rfl⟩
theorem dX12_line_61 : Dc mX12_line 61 (.iconst 1) 1 62 := ⟨k_dX12_line_59.2.2.1, rfl⟩
theorem dX12_line_62 : Dc mX12_line 62 (.iand) 1 63 := ⟨k_dX12_line_59.2.2.2.1, rfl⟩
theorem dX12_line_63 : Dc mX12_line 63 (.iconst 1) 1 64 := ⟨k_dX12_line_59.2.2.2.2.1, rfl⟩
theorem dX12_line_64 : Dc mX12_line 64 (.if_icmp .ne 8) 3 67 := ⟨k_dX12_line_59.2.2.2.2.2, rfl⟩
theorem k_dX12_line_67 : decode (mX12_line).2.1 67 = .ok ((.aload_n 0), 1) ∧ decode (mX12_line).2.1 68 = .ok ((.iconst 3), 1) ∧ decode (mX12_line).2.1 69 = .ok ((.invokevirtual 232), 3) ∧ decode (mX12_line).2.1 72 = .ok ((.aload_n 0), 1) ∧ decode (mX12_line).2.1 73 = .ok ((.getfield 223), 3) ∧ decode (mX12_line).2.1 76 = .ok ((.ifCond .eq 4), 3) := by decide +kernel
theorem dX12_line_67 : Dc mX12_line 67 (.aload_n 0) 1 68 := ⟨k_dX12_line_67.1, rfl⟩
theorem dX12_line_68 : Dc mX12_line 68 (.iconst 3) 1 69 := ⟨k_dX12_line_67.2.1, rfl⟩
theorem dX12_line_69 : Dc mX12_line 69 (.invokevirtual 232) 3 72 := ⟨k_dX12_line_67.2.2.1, rfl⟩
theorem dX12_line_72 : Dc mX12_line 72 (.aload_n 0) 1 73 := ⟨k_dX12_line_67.2.2.2.1, rfl⟩
theorem dX12_line_73 : Dc mX12_line 73 (.getfield 223) 3 76 := ⟨k_dX12_line_67.2.2.2.2.1, rfl⟩
theorem dX12_line_76 : Dc mX12_line 76 (.ifCond .eq 4) 3 79 := ⟨k_dX12_line_67.2.2.2.2.2, rfl⟩
theorem k_dX12_line_79 : decode (mX12_line).2.1 79 = .ok ((.return_), 1) ∧ decode (mX12_line).2.1 80 = .ok ((.aload_n 0), 1) ∧ decode (mX12_line).2.1 81 = .ok ((.dup), 1) ∧ decode (mX12_line).2.1 82 = .ok ((.getfield 250), 3) ∧ decode (mX12_line).2.1 85 = .ok ((.iconst 1), 1) ∧ decode (mX12_line).2.1 86 = .ok ((.iload_n 1), 1) := by decide +kernel
theorem dX12_line_79 : Dc mX12_line 79 (.return_) 1 80 := ⟨k_dX12_line_79.1, rfl⟩
theorem dX12_line_80 : Dc mX12_line 80 (.aload_n 0) 1 81 := ⟨k_dX12_line_79.2.1, rfl⟩
theorem dX12_line_81 : Dc mX12_line 81 (.dup) 1 82 := ⟨k_dX12_line_79.2.2.1, rfl⟩
theorem dX12_line_82 : Dc mX12_line 82 (.getfield 250) 3 85 := ⟨k_dX12_line_79.2.2.2.1, rfl⟩
theorem dX12_line_85 : Dc mX12_line 85 (.iconst 1) 1 86 := ⟨k_dX12_line_79.2.2.2.2.1, rfl⟩
theorem dX12_line_86 : Dc mX12_line 86 (.iload_n 1) 1 87 := ⟨k_dX12_line_79.2.2.2.2.2, rfl⟩
theorem k_dX12_line_87 : decode (mX12_line).2.1 87 = .ok ((.ishl), 1) ∧ decode (mX12_line).2.1 88 = .ok ((.ior), 1) ∧ decode (mX12_line).2.1 89 = .ok ((.putfield 250), 3) ∧ decode (mX12_line).2.1 92 = .ok ((.aload_n 0), 1) ∧ decode (mX12_line).2.1 93 = .ok ((.invokevirtual 229), 3) ∧ decode (mX12_line).2.1 96 = .ok ((.iload_n 1), 1) := by decide +kernel
theorem dX12_line_87 : Dc mX12_line 87 (.ishl) 1 88 := ⟨k_dX12_line_87.1, rfl⟩
theorem dX12_line_88 : Dc mX12_line 88 (.ior) 1 89 := ⟨k_dX12_line_87.2.1, rfl⟩
theorem dX12_line_89 : Dc mX12_line 89 (.putfield 250) 3 92 := ⟨k_dX12_line_87.2.2.1, rfl⟩
theorem dX12_line_92 : Dc mX12_line 92 (.aload_n 0) 1 93 := ⟨k_dX12_line_87.2.2.2.1, rfl⟩
theorem dX12_line_93 : Dc mX12_line 93 (.invokevirtual 229) 3 96 := ⟨k_dX12_line_87.2.2.2.2.1, rfl⟩
theorem dX12_line_96 : Dc mX12_line 96 (.iload_n 1) 1 97 := ⟨k_dX12_line_87.2.2.2.2.2, rfl⟩
theorem k_dX12_line_97 : decode (mX12_line).2.1 97 = .ok ((.tableswitch 391 0 8 #[51, 122, 193, 200, 214, 273, 342, 358, 375]), 51) ∧ decode (mX12_line).2.1 148 = .ok ((.bipush 6), 2) ∧ decode (mX12_line).2.1 150 = .ok ((.aload_n 0), 1) ∧ decode (mX12_line).2.1 151 = .ok ((.iconst 0), 1) ∧ decode (mX12_line).2.1 152 = .ok ((.invokevirtual 239), 3) ∧ decode (mX12_line).2.1 155 = .ok ((.iadd), 1) := by decide +kernel
theorem dX12_line_97 : Dc mX12_line 97 (.tableswitch 391 0 8 #[51, 122, 193, 200, 214, 273, 342, 358, 375]) 51 148 := ⟨k_dX12_line_97.1, rfl⟩
theorem dX12_line_148 : Dc mX12_line 148 (.bipush 6) 2 150 := ⟨k_dX12_line_97.2.1, rfl⟩
theorem dX12_line_150 : Dc mX12_line 150 (.aload_n 0) 1 151 := ⟨k_dX12_line_97.2.2.1, rfl⟩
theorem dX12_line_151 : Dc mX12_line 151 (.iconst 0) 1 152 := ⟨k_dX12_line_97.2.2.2.1, rfl⟩
theorem dX12_line_152 : Dc mX12_line 152 (.invokevirtual 239) 3 155 := ⟨k_dX12_line_97.2.2.2.2.1, rfl⟩
theorem dX12_line_155 : Dc mX12_line 155 (.iadd) 1 156 := ⟨k_dX12_line_97.2.2.2.2.2, rfl⟩
theorem k_dX12_line_156 : decode (mX12_line).2.1 156 = .ok ((.istore_n 2), 1) ∧ decode (mX12_line).2.1 157 = .ok ((.aload_n 0), 1) ∧ decode (mX12_line).2.1 158 = .ok ((.getfield 16), 3) ∧ decode (mX12_line).2.1 161 = .ok ((.iload_n 2), 1) ∧ decode (mX12_line).2.1 162 = .ok ((.aload_n 0), 1) ∧ decode (mX12_line).2.1 163 = .ok ((.aload_n 0), 1) := by decide +kernel
theorem dX12_line_156 : Dc mX12_line 156 (.istore_n 2) 1 157 := ⟨k_dX12_line_156.1, rfl⟩
theorem dX12_line_157 : Dc mX12_line 157 (.aload_n 0) 1 158 := ⟨k_dX12_line_156.2.1, rfl⟩
theorem dX12_line_158 : Dc mX12_line 158 (.getfield 16) 3 161 := ⟨k_dX12_line_156.2.2.1, rfl⟩
theorem dX12_line_161 : Dc mX12_line 161 (.iload_n 2) 1 162 := ⟨k_dX12_line_156.2.2.2.1, rfl⟩
theorem dX12_line_162 : Dc mX12_line 162 (.aload_n 0) 1 163 := ⟨k_dX12_line_156.2.2.2.2.1, rfl⟩
theorem dX12_line_163 : Dc mX12_line 163 (.aload_n 0) 1 164 := ⟨k_dX12_line_156.2.2.2.2.2, rfl⟩
theorem k_dX12_line_164 : decode (mX12_line).2.1 164 = .ok ((.getfield 16), 3) ∧ decode (mX12_line).2.1 167 = .ok ((.bipush 6), 2) ∧ decode (mX12_line).2.1 169 = .ok ((.aload_n 0), 1) ∧ decode (mX12_line).2.1 170 = .ok ((.iconst 0), 1) ∧ decode (mX12_line).2.1 171 = .ok ((.invokevirtual 239), 3) ∧ decode (mX12_line).2.1 174 = .ok ((.invokevirtual 253), 3) := by decide +kernel
theorem dX12_line_164 : Dc mX12_line 164 (.getfield 16) 3 167 := ⟨k_dX12_line_164.1, rfl⟩
theorem dX12_line_167 : Dc mX12_line 167 (.bipush 6) 2 169 := ⟨k_dX12_line_164.2.1, rfl⟩
theorem dX12_line_169 : Dc mX12_line 169 (.aload_n 0) 1 170 := ⟨k_dX12_line_164.2.2.1, rfl⟩
theorem dX12_line_170 : Dc mX12_line 170 (.iconst 0) 1 171 := ⟨k_dX12_line_164.2.2.2.1, rfl⟩
theorem dX12_line_171 : Dc mX12_line 171 (.invokevirtual 239) 3 174 := ⟨k_dX12_line_164.2.2.2.2.1, rfl⟩
theorem dX12_line_174 : Dc mX12_line 174 (.invokevirtual 253) 3 177 := ⟨k_dX12_line_164.2.2.2.2.2, rfl⟩
theorem k_dX12_line_177 : decode (mX12_line).2.1 177 = .ok ((.iastore), 1) ∧ decode (mX12_line).2.1 178 = .ok ((.aload_n 0), 1) ∧ decode (mX12_line).2.1 179 = .ok ((.getfield 19), 3) ∧ decode (mX12_line).2.1 182 = .ok ((.iload_n 2), 1) ∧ decode (mX12_line).2.1 183 = .ok ((.aload_n 0), 1) ∧ decode (mX12_line).2.1 184 = .ok ((.iconst 0), 1) := by decide +kernel
theorem dX12_line_177 : Dc mX12_line 177 (.iastore) 1 178 := ⟨k_dX12_line_177.1, rfl⟩
theorem dX12_line_178 : Dc mX12_line 178 (.aload_n 0) 1 179 := ⟨k_dX12_line_177.2.1, rfl⟩
theorem dX12_line_179 : Dc mX12_line 179 (.getfield 19) 3 182 := ⟨k_dX12_line_177.2.2.1, rfl⟩
theorem dX12_line_182 : Dc mX12_line 182 (.iload_n 2) 1 183 := ⟨k_dX12_line_177.2.2.2.1, rfl⟩
theorem dX12_line_183 : Dc mX12_line 183 (.aload_n 0) 1 184 := ⟨k_dX12_line_177.2.2.2.2.1, rfl⟩
theorem dX12_line_184 : Dc mX12_line 184 (.iconst 0) 1 185 := ⟨k_dX12_line_177.2.2.2.2.2, rfl⟩
theorem k_dX12_line_185 : decode (mX12_line).2.1 185 = .ok ((.bipush 99), 2) ∧ decode (mX12_line).2.1 187 = .ok ((.invokevirtual 256), 3) ∧ decode (mX12_line).2.1 190 = .ok ((.iastore), 1) ∧ decode (mX12_line).2.1 191 = .ok ((.aload_n 0), 1) ∧ decode (mX12_line).2.1 192 = .ok ((.getfield 22), 3) ∧ decode (mX12_line).2.1 195 = .ok ((.iload_n 2), 1) := by decide +kernel
theorem dX12_line_185 : Dc mX12_line 185 (.bipush 99) 2 187 := ⟨k_dX12_line_185.1, rfl⟩
theorem dX12_line_187 : Dc mX12_line 187 (.invokevirtual 256) 3 190 := ⟨k_dX12_line_185.2.1, rfl⟩
theorem dX12_line_190 : Dc mX12_line 190 (.iastore) 1 191 := ⟨k_dX12_line_185.2.2.1, rfl⟩
theorem dX12_line_191 : Dc mX12_line 191 (.aload_n 0) 1 192 := ⟨k_dX12_line_185.2.2.2.1, rfl⟩
theorem dX12_line_192 : Dc mX12_line 192 (.getfield 22) 3 195 := ⟨k_dX12_line_185.2.2.2.2.1, rfl⟩
theorem dX12_line_195 : Dc mX12_line 195 (.iload_n 2) 1 196 := ⟨k_dX12_line_185.2.2.2.2.2, rfl⟩
theorem k_dX12_line_196 : decode (mX12_line).2.1 196 = .ok ((.aload_n 0), 1) ∧ decode (mX12_line).2.1 197 = .ok ((.iconst 2), 1) ∧ decode (mX12_line).2.1 198 = .ok ((.bipush 6), 2) ∧ decode (mX12_line).2.1 200 = .ok ((.invokevirtual 256), 3) ∧ decode (mX12_line).2.1 203 = .ok ((.iastore), 1) ∧ decode (mX12_line).2.1 204 = .ok ((.aload_n 0), 1) := by decide +kernel
theorem dX12_line_196 : Dc mX12_line 196 (.aload_n 0) 1 197 := ⟨k_dX12_line_196.1, rfl⟩
theorem dX12_line_197 : Dc mX12_line 197 (.iconst 2) 1 198 := ⟨k_dX12_line_196.2.1, rfl⟩
theorem dX12_line_198 : Dc mX12_line 198 (.bipush 6) 2 200 := ⟨k_dX12_line_196.2.2.1, rfl⟩
theorem dX12_line_200 : Dc mX12_line 200 (.invokevirtual 256) 3 203 := ⟨k_dX12_line_196.2.2.2.1, rfl⟩
theorem dX12_line_203 : Dc mX12_line 203 (.iastore) 1 204 := ⟨k_dX12_line_196.2.2.2.2.1, rfl⟩
theorem dX12_line_204 : Dc mX12_line 204 (.aload_n 0) 1 205 := ⟨k_dX12_line_196.2.2.2.2.2, rfl⟩
theorem k_dX12_line_205 : decode (mX12_line).2.1 205 = .ok ((.iconst 0), 1) ∧ decode (mX12_line).2.1 206 = .ok ((.aload_n 0), 1) ∧ decode (mX12_line).2.1 207 = .ok ((.iconst 0), 1) ∧ decode (mX12_line).2.1 208 = .ok ((.invokevirtual 239), 3) ∧ decode (mX12_line).2.1 211 = .ok ((.iconst 1), 1) ∧ decode (mX12_line).2.1 212 = .ok ((.iadd), 1) := by decide +kernel
theorem dX12_line_205 : Dc mX12_line 205 (.iconst 0) 1 206 := ⟨k_dX12_line_205.1, rfl⟩
theorem dX12_line_206 : Dc mX12_line 206 (.aload_n 0) 1 207 := ⟨k_dX12_line_205.2.1, rfl⟩
theorem dX12_line_207 : Dc mX12_line 207 (.iconst 0) 1 208 := ⟨k_dX12_line_205.2.2.1, rfl⟩
theorem dX12_line_208 : Dc mX12_line 208 (.invokevirtual 239) 3 211 := ⟨k_dX12_line_205.2.2.2.1, rfl⟩
theorem dX12_line_211 : Dc mX12_line 211 (.iconst 1) 1 212 := ⟨k_dX12_line_205.2.2.2.2.1, rfl⟩
theorem dX12_line_212 : Dc mX12_line 212 (.iadd) 1 213 := ⟨k_dX12_line_205.2.2.2.2.2, rfl⟩
theorem k_dX12_line_213 : decode (mX12_line).2.1 213 = .ok ((.invokevirtual 260), 3) ∧ decode (mX12_line).2.1 216 = .ok ((.goto 276), 3) ∧ decode (mX12_line).2.1 219 = .ok ((.bipush 8), 2) ∧ decode (mX12_line).2.1 221 = .ok ((.aload_n 0), 1) ∧ decode (mX12_line).2.1 222 = .ok ((.iconst 1), 1) ∧ decode (mX12_line).2.1 223 = .ok ((.invokevirtual 239), 3) := by decide +kernel
theorem dX12_line_213 : Dc mX12_line 213 (.invokevirtual 260) 3 216 := ⟨k_dX12_line_213.1, rfl⟩
theorem dX12_line_216 : Dc mX12_line 216 (.goto 276) 3 219 := ⟨k_dX12_line_213.2.1, rfl⟩
theorem dX12_line_219 : Dc mX12_line 219 (.bipush 8) 2 221 := ⟨k_dX12_line_213.2.2.1, rfl⟩
theorem dX12_line_221 : Dc mX12_line 221 (.aload_n 0) 1 222 := ⟨k_dX12_line_213.2.2.2.1, rfl⟩
theorem dX12_line_222 : Dc mX12_line 222 (.iconst 1) 1 223 := ⟨k_dX12_line_213.2.2.2.2.1, rfl⟩
theorem dX12_line_223 : Dc mX12_line 223 (.invokevirtual 239) 3 226 := ⟨k_dX12_line_213.2.2.2.2.2, rfl⟩
theorem k_dX12_line_226 : decode (mX12_line).2.1 226 = .ok ((.iadd), 1) ∧ decode (mX12_line).2.1 227 = .ok ((.istore_n 3), 1) ∧ decode (mX12_line).2.1 228 = .ok ((.aload_n 0), 1) ∧ decode (mX12_line).2.1 229 = .ok ((.getfield 25), 3) ∧ decode (mX12_line).2.1 232 = .ok ((.iload_n 3), 1) ∧ decode (mX12_line).2.1 233 = .ok ((.aload_n 0), 1) := by decide +kernel
theorem dX12_line_226 : Dc mX12_line 226 (.iadd) 1 227 := ⟨k_dX12_line_226.1, rfl⟩
theorem dX12_line_227 : Dc mX12_line 227 (.istore_n 3) 1 228 := ⟨k_dX12_line_226.2.1, rfl⟩
theorem dX12_line_228 : Dc mX12_line 228 (.aload_n 0) 1 229 := ⟨k_dX12_line_226.2.2.1, rfl⟩
theorem dX12_line_229 : Dc mX12_line 229 (.getfield 25) 3 232 := ⟨k_dX12_line_226.2.2.2.1, rfl⟩
theorem dX12_line_232 : Dc mX12_line 232 (.iload_n 3) 1 233 := ⟨k_dX12_line_226.2.2.2.2.1, rfl⟩
theorem dX12_line_233 : Dc mX12_line 233 (.aload_n 0) 1 234 := ⟨k_dX12_line_226.2.2.2.2.2, rfl⟩
theorem k_dX12_line_234 : decode (mX12_line).2.1 234 = .ok ((.aload_n 0), 1) ∧ decode (mX12_line).2.1 235 = .ok ((.getfield 25), 3) ∧ decode (mX12_line).2.1 238 = .ok ((.bipush 8), 2) ∧ decode (mX12_line).2.1 240 = .ok ((.aload_n 0), 1) ∧ decode (mX12_line).2.1 241 = .ok ((.iconst 1), 1) ∧ decode (mX12_line).2.1 242 = .ok ((.invokevirtual 239), 3) := by decide +kernel
theorem dX12_line_234 : Dc mX12_line 234 (.aload_n 0) 1 235 := ⟨k_dX12_line_234.1, rfl⟩
theorem dX12_line_235 : Dc mX12_line 235 (.getfield 25) 3 238 := ⟨k_dX12_line_234.2.1, rfl⟩
theorem dX12_line_238 : Dc mX12_line 238 (.bipush 8) 2 240 := ⟨k_dX12_line_234.2.2.1, rfl⟩
theorem dX12_line_240 : Dc mX12_line 240 (.aload_n 0) 1 241 := ⟨k_dX12_line_234.2.2.2.1, rfl⟩
theorem dX12_line_241 : Dc mX12_line 241 (.iconst 1) 1 242 := ⟨k_dX12_line_234.2.2.2.2.1, rfl⟩
theorem dX12_line_242 : Dc mX12_line 242 (.invokevirtual 239) 3 245 := ⟨k_dX12_line_234.2.2.2.2.2, rfl⟩
theorem k_dX12_line_245 : decode (mX12_line).2.1 245 = .ok ((.invokevirtual 253), 3) ∧ decode (mX12_line).2.1 248 = .ok ((.iastore), 1) ∧ decode (mX12_line).2.1 249 = .ok ((.aload_n 0), 1) ∧ decode (mX12_line).2.1 250 = .ok ((.getfield 28), 3) ∧ decode (mX12_line).2.1 253 = .ok ((.iload_n 3), 1) ∧ decode (mX12_line).2.1 254 = .ok ((.aload_n 0), 1) := by decide +kernel
theorem dX12_line_245 : Dc mX12_line 245 (.invokevirtual 253) 3 248 := ⟨k_dX12_line_245.1, rfl⟩
theorem dX12_line_248 : Dc mX12_line 248 (.iastore) 1 249 := ⟨k_dX12_line_245.2.1, rfl⟩
theorem dX12_line_249 : Dc mX12_line 249 (.aload_n 0) 1 250 := ⟨k_dX12_line_245.2.2.1, rfl⟩
theorem dX12_line_250 : Dc mX12_line 250 (.getfield 28) 3 253 := ⟨k_dX12_line_245.2.2.2.1, rfl⟩
theorem dX12_line_253 : Dc mX12_line 253 (.iload_n 3) 1 254 := ⟨k_dX12_line_245.2.2.2.2.1, rfl⟩
theorem dX12_line_254 : Dc mX12_line 254 (.aload_n 0) 1 255 := ⟨k_dX12_line_245.2.2.2.2.2, rfl⟩
theorem k_dX12_line_255 : decode (mX12_line).2.1 255 = .ok ((.iconst 1), 1) ∧ decode (mX12_line).2.1 256 = .ok ((.bipush 99), 2) ∧ decode (mX12_line).2.1 258 = .ok ((.invokevirtual 256), 3) ∧ decode (mX12_line).2.1 261 = .ok ((.iastore), 1) ∧ decode (mX12_line).2.1 262 = .ok ((.aload_n 0), 1) ∧ decode (mX12_line).2.1 263 = .ok ((.getfield 31), 3) := by decide +kernel
theorem dX12_line_255 : Dc mX12_line 255 (.iconst 1) 1 256 := ⟨k_dX12_line_255.1, rfl⟩
theorem dX12_line_256 : Dc mX12_line 256 (.bipush 99) 2 258 := ⟨k_dX12_line_255.2.1, rfl⟩
theorem dX12_line_258 : Dc mX12_line 258 (.invokevirtual 256) 3 261 := ⟨k_dX12_line_255.2.2.1, rfl⟩
theorem dX12_line_261 : Dc mX12_line 261 (.iastore) 1 262 := ⟨k_dX12_line_255.2.2.2.1, rfl⟩
theorem dX12_line_262 : Dc mX12_line 262 (.aload_n 0) 1 263 := ⟨k_dX12_line_255.2.2.2.2.1, rfl⟩
theorem dX12_line_263 : Dc mX12_line 263 (.getfield 31) 3 266 := ⟨k_dX12_line_255.2.2.2.2.2, rfl⟩
theorem k_dX12_line_266 : decode (mX12_line).2.1 266 = .ok ((.iload_n 3), 1) ∧ decode (mX12_line).2.1 267 = .ok ((.aload_n 0), 1) ∧ decode (mX12_line).2.1 268 = .ok ((.iconst 0), 1) ∧ decode (mX12_line).2.1 269 = .ok ((.bipush 99), 2) ∧ decode (mX12_line).2.1 271 = .ok ((.invokevirtual 256), 3) ∧ decode (mX12_line).2.1 274 = .ok ((.iastore), 1) := by decide +kernel
theorem dX12_line_266 : Dc mX12_line 266 (.iload_n 3) 1 267 := ⟨k_dX12_line_266.1, rfl⟩
theorem dX12_line_267 : Dc mX12_line 267 (.aload_n 0) 1 268 := ⟨k_dX12_line_266.2.1, rfl⟩
theorem dX12_line_268 : Dc mX12_line 268 (.iconst 0) 1 269 := ⟨k_dX12_line_266.2.2.1, rfl⟩
theorem dX12_line_269 : Dc mX12_line 269 (.bipush 99) 2 271 := ⟨k_dX12_line_266.2.2.2.1, rfl⟩
theorem dX12_line_271 : Dc mX12_line 271 (.invokevirtual 256) 3 274 := ⟨k_dX12_line_266.2.2.2.2.1, rfl⟩
theorem dX12_line_274 : Dc mX12_line 274 (.iastore) 1 275 := ⟨k_dX12_line_266.2.2.2.2.2, rfl⟩
theorem k_dX12_line_275 : decode (mX12_line).2.1 275 = .ok ((.aload_n 0), 1) ∧ decode (mX12_line).2.1 276 = .ok ((.iconst 1), 1) ∧ decode (mX12_line).2.1 277 = .ok ((.aload_n 0), 1) ∧ decode (mX12_line).2.1 278 = .ok ((.iconst 1), 1) ∧ decode (mX12_line).2.1 279 = .ok ((.invokevirtual 239), 3) ∧ decode (mX12_line).2.1 282 = .ok ((.iconst 1), 1) := by decide +kernel
theorem dX12_line_275 : Dc mX12_line 275 (.aload_n 0) 1 276 := ⟨k_dX12_line_275.1, rfl⟩
theorem dX12_line_276 : Dc mX12_line 276 (.iconst 1) 1 277 := ⟨k_dX12_line_275.2.1, rfl⟩
theorem dX12_line_277 : Dc mX12_line 277 (.aload_n 0) 1 278 := ⟨k_dX12_line_275.2.2.1, rfl⟩
theorem dX12_line_278 : Dc mX12_line 278 (.iconst 1) 1 279 := ⟨k_dX12_line_275.2.2.2.1, rfl⟩
theorem dX12_line_279 : Dc mX12_line 279 (.invokevirtual 239) 3 282 := ⟨k_dX12_line_275.2.2.2.2.1, rfl⟩
theorem dX12_line_282 : Dc mX12_line 282 (.iconst 1) 1 283 := ⟨k_dX12_line_275.2.2.2.2.2, rfl⟩
theorem k_dX12_line_283 : decode (mX12_line).2.1 283 = .ok ((.iadd), 1) ∧ decode (mX12_line).2.1 284 = .ok ((.invokevirtual 260), 3) ∧ decode (mX12_line).2.1 287 = .ok ((.goto 205), 3) ∧ decode (mX12_line).2.1 290 = .ok ((.aload_n 0), 1) ∧ decode (mX12_line).2.1 291 = .ok ((.invokevirtual 264), 3) ∧ decode (mX12_line).2.1 294 = .ok ((.goto 198), 3) := by decide +kernel
theorem dX12_line_283 : Dc mX12_line 283 (.iadd) 1 284 := ⟨k_dX12_line_283.1, rfl⟩
theorem dX12_line_284 : Dc mX12_line 284 (.invokevirtual 260) 3 287 := ⟨k_dX12_line_283.2.1, rfl⟩
theorem dX12_line_287 : Dc mX12_line 287 (.goto 205) 3 290 := ⟨k_dX12_line_283.2.2.1, rfl⟩
theorem dX12_line_290 : Dc mX12_line 290 (.aload_n 0) 1 291 := ⟨k_dX12_line_283.2.2.2.1, rfl⟩
theorem dX12_line_291 : Dc mX12_line 291 (.invokevirtual 264) 3 294 := ⟨k_dX12_line_283.2.2.2.2.1, rfl⟩
theorem dX12_line_294 : Dc mX12_line 294 (.goto 198) 3 297 := ⟨k_dX12_line_283.2.2.2.2.2, rfl⟩
theorem k_dX12_line_297 : decode (mX12_line).2.1 297 = .ok ((.aload_n 0), 1) ∧ decode (mX12_line).2.1 298 = .ok ((.iconst 4), 1) ∧ decode (mX12_line).2.1 299 = .ok ((.aload_n 0), 1) ∧ decode (mX12_line).2.1 300 = .ok ((.iconst 3), 1) ∧ decode (mX12_line).2.1 301 = .ok ((.invokevirtual 239), 3) ∧ decode (mX12_line).2.1 304 = .ok ((.iadd), 1) := by decide +kernel
theorem dX12_line_297 : Dc mX12_line 297 (.aload_n 0) 1 298 := ⟨k_dX12_line_297.1, rfl⟩
theorem dX12_line_298 : Dc mX12_line 298 (.iconst 4) 1 299 := ⟨k_dX12_line_297.2.1, rfl⟩
theorem dX12_line_299 : Dc mX12_line 299 (.aload_n 0) 1 300 := ⟨k_dX12_line_297.2.2.1, rfl⟩
theorem dX12_line_300 : Dc mX12_line 300 (.iconst 3) 1 301 := ⟨k_dX12_line_297.2.2.2.1, rfl⟩
theorem dX12_line_301 : Dc mX12_line 301 (.invokevirtual 239) 3 304 := ⟨k_dX12_line_297.2.2.2.2.1, rfl⟩
theorem dX12_line_304 : Dc mX12_line 304 (.iadd) 1 305 := ⟨k_dX12_line_297.2.2.2.2.2, rfl⟩
theorem k_dX12_line_305 : decode (mX12_line).2.1 305 = .ok ((.invokevirtual 267), 3) ∧ decode (mX12_line).2.1 308 = .ok ((.goto 184), 3) ∧ decode (mX12_line).2.1 311 = .ok ((.iconst 4), 1) ∧ decode (mX12_line).2.1 312 = .ok ((.aload_n 0), 1) ∧ decode (mX12_line).2.1 313 = .ok ((.iconst 4), 1) ∧ decode (mX12_line).2.1 314 = .ok ((.invokevirtual 239), 3) := by decide +kernel
theorem dX12_line_305 : Dc mX12_line 305 (.invokevirtual 267) 3 308 := ⟨k_dX12_line_305.1, rfl⟩
theorem dX12_line_308 : Dc mX12_line 308 (.goto 184) 3 311 := ⟨k_dX12_line_305.2.1, rfl⟩
theorem dX12_line_311 : Dc mX12_line 311 (.iconst 4) 1 312 := ⟨k_dX12_line_305.2.2.1, rfl⟩
theorem dX12_line_312 : Dc mX12_line 312 (.aload_n 0) 1 313 := ⟨k_dX12_line_305.2.2.2.1, rfl⟩
theorem dX12_line_313 : Dc mX12_line 313 (.iconst 4) 1 314 := ⟨k_dX12_line_305.2.2.2.2.1, rfl⟩
theorem dX12_line_314 : Dc mX12_line 314 (.invokevirtual 239) 3 317 := ⟨k_dX12_line_305.2.2.2.2.2, rfl⟩
theorem k_dX12_line_317 : decode (mX12_line).2.1 317 = .ok ((.iadd), 1) ∧ decode (mX12_line).2.1 318 = .ok ((.istore 4), 2) ∧ decode (mX12_line).2.1 320 = .ok ((.aload_n 0), 1) ∧ decode (mX12_line).2.1 321 = .ok ((.getfield 49), 3) ∧ decode (mX12_line).2.1 324 = .ok ((.iload 4), 2) ∧ decode (mX12_line).2.1 326 = .ok ((.aload_n 0), 1) := by decide +kernel
theorem dX12_line_317 : Dc mX12_line 317 (.iadd) 1 318 := ⟨k_dX12_line_317.1, rfl⟩
theorem dX12_line_318 : Dc mX12_line 318 (.istore 4) 2 320 := ⟨k_dX12_line_317.2.1, rfl⟩
theorem dX12_line_320 : Dc mX12_line 320 (.aload_n 0) 1 321 := ⟨k_dX12_line_317.2.2.1, rfl⟩
theorem dX12_line_321 : Dc mX12_line 321 (.getfield 49) 3 324 := ⟨k_dX12_line_317.2.2.2.1, rfl⟩
theorem dX12_line_324 : Dc mX12_line 324 (.iload 4) 2 326 := ⟨k_dX12_line_317.2.2.2.2.1, rfl⟩
theorem dX12_line_326 : Dc mX12_line 326 (.aload_n 0) 1 327 := ⟨k_dX12_line_317.2.2.2.2.2, rfl⟩
theorem k_dX12_line_327 : decode (mX12_line).2.1 327 = .ok ((.aload_n 0), 1) ∧ decode (mX12_line).2.1 328 = .ok ((.getfield 49), 3) ∧ decode (mX12_line).2.1 331 = .ok ((.iconst 4), 1) ∧ decode (mX12_line).2.1 332 = .ok ((.aload_n 0), 1) ∧ decode (mX12_line).2.1 333 = .ok ((.iconst 4), 1) ∧ decode (mX12_line).2.1 334 = .ok ((.invokevirtual 239), 3) := by decide +kernel
theorem dX12_line_327 : Dc mX12_line 327 (.aload_n 0) 1 328 := ⟨k_dX12_line_327.1, rfl⟩
theorem dX12_line_328 : Dc mX12_line 328 (.getfield 49) 3 331 := ⟨k_dX12_line_327.2.1, rfl⟩
theorem dX12_line_331 : Dc mX12_line 331 (.iconst 4) 1 332 := ⟨k_dX12_line_327.2.2.1, rfl⟩
theorem dX12_line_332 : Dc mX12_line 332 (.aload_n 0) 1 333 := ⟨k_dX12_line_327.2.2.2.1, rfl⟩
theorem dX12_line_333 : Dc mX12_line 333 (.iconst 4) 1 334 := ⟨k_dX12_line_327.2.2.2.2.1, rfl⟩
theorem dX12_line_334 : Dc mX12_line 334 (.invokevirtual 239) 3 337 := ⟨k_dX12_line_327.2.2.2.2.2, rfl⟩
theorem k_dX12_line_337 : decode (mX12_line).2.1 337 = .ok ((.invokevirtual 253), 3) ∧ decode (mX12_line).2.1 340 = .ok ((.iastore), 1) ∧ decode (mX12_line).2.1 341 = .ok ((.aload_n 0), 1) ∧ decode (mX12_line).2.1 342 = .ok ((.getfield 52), 3) ∧ decode (mX12_line).2.1 345 = .ok ((.iload 4), 2) ∧ decode (mX12_line).2.1 347 = .ok ((.aload_n 0), 1) := by decide +kernel
theorem dX12_line_337 : Dc mX12_line 337 (.invokevirtual 253) 3 340 := ⟨k_dX12_line_337.1, rfl⟩
theorem dX12_line_340 : Dc mX12_line 340 (.iastore) 1 341 := ⟨k_dX12_line_337.2.1, rfl⟩
theorem dX12_line_341 : Dc mX12_line 341 (.aload_n 0) 1 342 := ⟨k_dX12_line_337.2.2.1, rfl⟩
theorem dX12_line_342 : Dc mX12_line 342 (.getfield 52) 3 345 := ⟨k_dX12_line_337.2.2.2.1, rfl⟩
theorem dX12_line_345 : Dc mX12_line 345 (.iload 4) 2 347 := ⟨k_dX12_line_337.2.2.2.2.1, rfl⟩
theorem dX12_line_347 : Dc mX12_line 347 (.aload_n 0) 1 348 := ⟨k_dX12_line_337.2.2.2.2.2, rfl⟩
theorem k_dX12_line_348 : decode (mX12_line).2.1 348 = .ok ((.iconst 0), 1) ∧ decode (mX12_line).2.1 349 = .ok ((.bipush 63), 2) ∧ decode (mX12_line).2.1 351 = .ok ((.invokevirtual 256), 3) ∧ decode (mX12_line).2.1 354 = .ok ((.iastore), 1) ∧ decode (mX12_line).2.1 355 = .ok ((.aload_n 0), 1) ∧ decode (mX12_line).2.1 356 = .ok ((.iconst 4), 1) := by decide +kernel
theorem dX12_line_348 : Dc mX12_line 348 (.iconst 0) 1 349 := ⟨k_dX12_line_348.1, rfl⟩
theorem dX12_line_349 : Dc mX12_line 349 (.bipush 63) 2 351 := ⟨k_dX12_line_348.2.1, rfl⟩
theorem dX12_line_351 : Dc mX12_line 351 (.invokevirtual 256) 3 354 := ⟨k_dX12_line_348.2.2.1, rfl⟩
theorem dX12_line_354 : Dc mX12_line 354 (.iastore) 1 355 := ⟨k_dX12_line_348.2.2.2.1, rfl⟩
theorem dX12_line_355 : Dc mX12_line 355 (.aload_n 0) 1 356 := ⟨k_dX12_line_348.2.2.2.2.1, rfl⟩
theorem dX12_line_356 : Dc mX12_line 356 (.iconst 4) 1 357 := ⟨k_dX12_line_348.2.2.2.2.2, rfl⟩
theorem k_dX12_line_357 : decode (mX12_line).2.1 357 = .ok ((.aload_n 0), 1) ∧ decode (mX12_line).2.1 358 = .ok ((.iconst 4), 1) ∧ decode (mX12_line).2.1 359 = .ok ((.invokevirtual 239), 3) ∧ decode (mX12_line).2.1 362 = .ok ((.iconst 1), 1) ∧ decode (mX12_line).2.1 363 = .ok ((.iadd), 1) ∧ decode (mX12_line).2.1 364 = .ok ((.invokevirtual 260), 3) := by decide +kernel
theorem dX12_line_357 : Dc mX12_line 357 (.aload_n 0) 1 358 := ⟨k_dX12_line_357.1, rfl⟩
theorem dX12_line_358 : Dc mX12_line 358 (.iconst 4) 1 359 := ⟨k_dX12_line_357.2.1, rfl⟩
theorem dX12_line_359 : Dc mX12_line 359 (.invokevirtual 239) 3 362 := ⟨k_dX12_line_357.2.2.1, rfl⟩
theorem dX12_line_362 : Dc mX12_line 362 (.iconst 1) 1 363 := ⟨k_dX12_line_357.2.2.2.1, rfl⟩
theorem dX12_line_363 : Dc mX12_line 363 (.iadd) 1 364 := ⟨k_dX12_line_357.2.2.2.2.1, rfl⟩
theorem dX12_line_364 : Dc mX12_line 364 (.invokevirtual 260) 3 367 := ⟨k_dX12_line_357.2.2.2.2.2, rfl⟩
theorem k_dX12_line_367 : decode (mX12_line).2.1 367 = .ok ((.goto 125), 3) ∧ decode (mX12_line).2.1 370 = .ok ((.iconst 3), 1) ∧ decode (mX12_line).2.1 371 = .ok ((.aload_n 0), 1) ∧ decode (mX12_line).2.1 372 = .ok ((.iconst 5), 1) ∧ decode (mX12_line).2.1 373 = .ok ((.invokevirtual 239), 3) ∧ decode (mX12_line).2.1 376 = .ok ((.iadd), 1) := by decide +kernel
theorem dX12_line_367 : Dc mX12_line 367 (.goto 125) 3 370 := ⟨k_dX12_line_367.1, rfl⟩
theorem dX12_line_370 : Dc mX12_line 370 (.iconst 3) 1 371 := ⟨k_dX12_line_367.2.1, rfl⟩
theorem dX12_line_371 : Dc mX12_line 371 (.aload_n 0) 1 372 := ⟨k_dX12_line_367.2.2.1, rfl⟩
theorem dX12_line_372 : Dc mX12_line 372 (.iconst 5) 1 373 := ⟨k_dX12_line_367.2.2.2.1, rfl⟩
theorem dX12_line_373 : Dc mX12_line 373 (.invokevirtual 239) 3 376 := ⟨k_dX12_line_367.2.2.2.2.1, rfl⟩
theorem dX12_line_376 : Dc mX12_line 376 (.iadd) 1 377 := ⟨k_dX12_line_367.2.2.2.2.2, rfl⟩
theorem k_dX12_line_377 : decode (mX12_line).2.1 377 = .ok ((.istore 5), 2) ∧ decode (mX12_line).2.1 379 = .ok ((.aload_n 0), 1) ∧ decode (mX12_line).2.1 380 = .ok ((.getfield 55), 3) ∧ decode (mX12_line).2.1 383 = .ok ((.iload 5), 2) ∧ decode (mX12_line).2.1 385 = .ok ((.aload_n 0), 1) ∧ decode (mX12_line).2.1 386 = .ok ((.iconst 0), 1) := by decide +kernel
theorem dX12_line_377 : Dc mX12_line 377 (.istore 5) 2 379 := ⟨k_dX12_line_377.1, rfl⟩
theorem dX12_line_379 : Dc mX12_line 379 (.aload_n 0) 1 380 := ⟨k_dX12_line_377.2.1, rfl⟩
theorem dX12_line_380 : Dc mX12_line 380 (.getfield 55) 3 383 := ⟨k_dX12_line_377.2.2.1, rfl⟩
theorem dX12_line_383 : Dc mX12_line 383 (.iload 5) 2 385 := ⟨k_dX12_line_377.2.2.2.1, rfl⟩
theorem dX12_line_385 : Dc mX12_line 385 (.aload_n 0) 1 386 := ⟨k_dX12_line_377.2.2.2.2.1, rfl⟩
theorem dX12_line_386 : Dc mX12_line 386 (.iconst 0) 1 387 := ⟨k_dX12_line_377.2.2.2.2.2, rfl⟩
theorem k_dX12_line_387 : decode (mX12_line).2.1 387 = .ok ((.bipush 99), 2) ∧ decode (mX12_line).2.1 389 = .ok ((.invokevirtual 256), 3) ∧ decode (mX12_line).2.1 392 = .ok ((.iastore), 1) ∧ decode (mX12_line).2.1 393 = .ok ((.aload_n 0), 1) ∧ decode (mX12_line).2.1 394 = .ok ((.getfield 58), 3) ∧ decode (mX12_line).2.1 397 = .ok ((.iload 5), 2) := by decide +kernel
theorem dX12_line_387 : Dc mX12_line 387 (.bipush 99) 2 389 := ⟨k_dX12_line_387.1, rfl⟩
theorem dX12_line_389 : Dc mX12_line 389 (.invokevirtual 256) 3 392 := ⟨k_dX12_line_387.2.1, rfl⟩
theorem dX12_line_392 : Dc mX12_line 392 (.iastore) 1 393 := ⟨k_dX12_line_387.2.2.1, rfl⟩
theorem dX12_line_393 : Dc mX12_line 393 (.aload_n 0) 1 394 := ⟨k_dX12_line_387.2.2.2.1, rfl⟩
theorem dX12_line_394 : Dc mX12_line 394 (.getfield 58) 3 397 := ⟨k_dX12_line_387.2.2.2.2.1, rfl⟩
theorem dX12_line_397 : Dc mX12_line 397 (.iload 5) 2 399 := ⟨k_dX12_line_387.2.2.2.2.2, rfl⟩
theorem k_dX12_line_399 : decode (mX12_line).2.1 399 = .ok ((.aload_n 0), 1) ∧ decode (mX12_line).2.1 400 = .ok ((.aload_n 0), 1) ∧ decode (mX12_line).2.1 401 = .ok ((.getfield 223), 3) ∧ decode (mX12_line).2.1 404 = .ok ((.ifCond .ne 13), 3) ∧ decode (mX12_line).2.1 407 = .ok ((.aload_n 0), 1) ∧ decode (mX12_line).2.1 408 = .ok ((.getfield 55), 3) := by decide +kernel
theorem dX12_line_399 : Dc mX12_line 399 (.aload_n 0) 1 400 := ⟨k_dX12_line_399.1, rfl⟩
theorem dX12_line_400 : Dc mX12_line 400 (.aload_n 0) 1 401 := ⟨k_dX12_line_399.2.1, rfl⟩
theorem dX12_line_401 : Dc mX12_line 401 (.getfield 223) 3 404 := ⟨k_dX12_line_399.2.2.1, rfl⟩
theorem dX12_line_404 : Dc mX12_line 404 (.ifCond .ne 13) 3 407 := ⟨k_dX12_line_399.2.2.2.1, rfl⟩
theorem dX12_line_407 : Dc mX12_line 407 (.aload_n 0) 1 408 := ⟨k_dX12_line_399.2.2.2.2.1, rfl⟩
theorem dX12_line_408 : Dc mX12_line 408 (.getfield 55) 3 411 := ⟨k_dX12_line_399.2.2.2.2.2, rfl⟩
theorem k_dX12_line_411 : decode (mX12_line).2.1 411 = .ok ((.iload 5), 2) ∧ decode (mX12_line).2.1 413 = .ok ((.iaload), 1) ∧ decode (mX12_line).2.1 414 = .ok ((.goto 4), 3) ∧ decode (mX12_line).2.1 417 = .ok ((.iconst 0), 1) ∧ decode (mX12_line).2.1 418 = .ok ((.bipush 99), 2) ∧ decode (mX12_line).2.1 420 = .ok ((.invokevirtual 256), 3) := by decide +kernel
theorem dX12_line_411 : Dc mX12_line 411 (.iload 5) 2 413 := ⟨k_dX12_line_411.1, rfl⟩
theorem dX12_line_413 : Dc mX12_line 413 (.iaload) 1 414 := ⟨k_dX12_line_411.2.1, rfl⟩
theorem dX12_line_414 : Dc mX12_line 414 (.goto 4) 3 417 := ⟨k_dX12_line_411.2.2.1, rfl⟩
theorem dX12_line_417 : Dc mX12_line 417 (.iconst 0) 1 418 := ⟨k_dX12_line_411.2.2.2.1, rfl⟩
theorem dX12_line_418 : Dc mX12_line 418 (.bipush 99) 2 420 := ⟨k_dX12_line_411.2.2.2.2.1, rfl⟩
theorem dX12_line_420 : Dc mX12_line 420 (.invokevirtual 256) 3 423 := ⟨k_dX12_line_411.2.2.2.2.2, rfl⟩
theorem k_dX12_line_423 : decode (mX12_line).2.1 423 = .ok ((.iastore), 1) ∧ decode (mX12_line).2.1 424 = .ok ((.aload_n 0), 1) ∧ decode (mX12_line).2.1 425 = .ok ((.iconst 5), 1) ∧ decode (mX12_line).2.1 426 = .ok ((.aload_n 0), 1) ∧ decode (mX12_line).2.1 427 = .ok ((.iconst 5), 1) ∧ decode (mX12_line).2.1 428 = .ok ((.invokevirtual 239), 3) := by decide +kernel
theorem dX12_line_423 : Dc mX12_line 423 (.iastore) 1 424 := ⟨k_dX12_line_423.1, rfl⟩
theorem dX12_line_424 : Dc mX12_line 424 (.aload_n 0) 1 425 := ⟨k_dX12_line_423.2.1, rfl⟩
theorem dX12_line_425 : Dc mX12_line 425 (.iconst 5) 1 426 := ⟨k_dX12_line_423.2.2.1, rfl⟩
theorem dX12_line_426 : Dc mX12_line 426 (.aload_n 0) 1 427 := ⟨k_dX12_line_423.2.2.2.1, rfl⟩
theorem dX12_line_427 : Dc mX12_line 427 (.iconst 5) 1 428 := ⟨k_dX12_line_423.2.2.2.2.1, rfl⟩
theorem dX12_line_428 : Dc mX12_line 428 (.invokevirtual 239) 3 431 := ⟨k_dX12_line_423.2.2.2.2.2, rfl⟩
theorem k_dX12_line_431 : decode (mX12_line).2.1 431 = .ok ((.iconst 1), 1) ∧ decode (mX12_line).2.1 432 = .ok ((.iadd), 1) ∧ decode (mX12_line).2.1 433 = .ok ((.invokevirtual 260), 3) ∧ decode (mX12_line).2.1 436 = .ok ((.goto 56), 3) ∧ decode (mX12_line).2.1 439 = .ok ((.aload_n 0), 1) ∧ decode (mX12_line).2.1 440 = .ok ((.bipush 6), 2) := by decide +kernel
theorem dX12_line_431 : Dc mX12_line 431 (.iconst 1) 1 432 := ⟨k_dX12_line_431.1, rfl⟩
theorem dX12_line_432 : Dc mX12_line 432 (.iadd) 1 433 := ⟨k_dX12_line_431.2.1, rfl⟩
theorem dX12_line_433 : Dc mX12_line 433 (.invokevirtual 260) 3 436 := ⟨k_dX12_line_431.2.2.1, rfl⟩
theorem dX12_line_436 : Dc mX12_line 436 (.goto 56) 3 439 := ⟨k_dX12_line_431.2.2.2.1, rfl⟩
theorem dX12_line_439 : Dc mX12_line 439 (.aload_n 0) 1 440 := ⟨k_dX12_line_431.2.2.2.2.1, rfl⟩
theorem dX12_line_440 : Dc mX12_line 440 (.bipush 6) 2 442 := ⟨k_dX12_line_431.2.2.2.2.2, rfl⟩
theorem k_dX12_line_442 : decode (mX12_line).2.1 442 = .ok ((.aload_n 0), 1) ∧ decode (mX12_line).2.1 443 = .ok ((.iconst 0), 1) ∧ decode (mX12_line).2.1 444 = .ok ((.bipush 100), 2) ∧ decode (mX12_line).2.1 446 = .ok ((.invokevirtual 256), 3) ∧ decode (mX12_line).2.1 449 = .ok ((.invokevirtual 260), 3) ∧ decode (mX12_line).2.1 452 = .ok ((.goto 40), 3) := by decide +kernel
theorem dX12_line_442 : Dc mX12_line 442 (.aload_n 0) 1 443 := ⟨k_dX12_line_442.1, rfl⟩
theorem dX12_line_443 : Dc mX12_line 443 (.iconst 0) 1 444 := ⟨k_dX12_line_442.2.1, rfl⟩
theorem dX12_line_444 : Dc mX12_line 444 (.bipush 100) 2 446 := ⟨k_dX12_line_442.2.2.1, rfl⟩
theorem dX12_line_446 : Dc mX12_line 446 (.invokevirtual 256) 3 449 := ⟨k_dX12_line_442.2.2.2.1, rfl⟩
theorem dX12_line_449 : Dc mX12_line 449 (.invokevirtual 260) 3 452 := ⟨k_dX12_line_442.2.2.2.2.1, rfl⟩
theorem dX12_line_452 : Dc mX12_line 452 (.goto 40) 3 455 := ⟨k_dX12_line_442.2.2.2.2.2, rfl⟩
theorem k_dX12_line_455 : decode (mX12_line).2.1 455 = .ok ((.aload_n 0), 1) ∧ decode (mX12_line).2.1 456 = .ok ((.bipush 7), 2) ∧ decode (mX12_line).2.1 458 = .ok ((.aload_n 0), 1) ∧ decode (mX12_line).2.1 459 = .ok ((.iconst 0), 1) ∧ decode (mX12_line).2.1 460 = .ok ((.sipush 999), 3) ∧ decode (mX12_line).2.1 463 = .ok ((.invokevirtual 256), 3) := by decide +kernel
theorem dX12_line_455 : Dc mX12_line 455 (.aload_n 0) 1 456 := ⟨k_dX12_line_455.1, rfl⟩
theorem dX12_line_456 : Dc mX12_line 456 (.bipush 7) 2 458 := ⟨k_dX12_line_455.2.1, rfl⟩
theorem dX12_line_458 : Dc mX12_line 458 (.aload_n 0) 1 459 := ⟨k_dX12_line_455.2.2.1, rfl⟩
theorem dX12_line_459 : Dc mX12_line 459 (.iconst 0) 1 460 := ⟨k_dX12_line_455.2.2.2.1, rfl⟩
theorem dX12_line_460 : Dc mX12_line 460 (.sipush 999) 3 463 := ⟨k_dX12_line_455.2.2.2.2.1, rfl⟩
theorem dX12_line_463 : Dc mX12_line 463 (.invokevirtual 256) 3 466 := ⟨k_dX12_line_455.2.2.2.2.2, rfl⟩
theorem k_dX12_line_466 : decode (mX12_line).2.1 466 = .ok ((.invokevirtual 260), 3) ∧ decode (mX12_line).2.1 469 = .ok ((.goto 23), 3) ∧ decode (mX12_line).2.1 472 = .ok ((.aload_n 0), 1) ∧ decode (mX12_line).2.1 473 = .ok ((.bipush 8), 2) ∧ decode (mX12_line).2.1 475 = .ok ((.aload_n 0), 1) ∧ decode (mX12_line).2.1 476 = .ok ((.iconst 0), 1) := by decide +kernel
theorem dX12_line_466 : Dc mX12_line 466 (.invokevirtual 260) 3 469 := ⟨k_dX12_line_466.1, rfl⟩
theorem dX12_line_469 : Dc mX12_line 469 (.goto 23) 3 472 := ⟨k_dX12_line_466.2.1, rfl⟩
theorem dX12_line_472 : Dc mX12_line 472 (.aload_n 0) 1 473 := ⟨k_dX12_line_466.2.2.1, rfl⟩
theorem dX12_line_473 : Dc mX12_line 473 (.bipush 8) 2 475 := ⟨k_dX12_line_466.2.2.2.1, rfl⟩
theorem dX12_line_475 : Dc mX12_line 475 (.aload_n 0) 1 476 := ⟨k_dX12_line_466.2.2.2.2.1, rfl⟩
theorem dX12_line_476 : Dc mX12_line 476 (.iconst 0) 1 477 := ⟨k_dX12_line_466.2.2.2.2.2, rfl⟩
theorem k_dX12_line_477 : decode (mX12_line).2.1 477 = .ok ((.ldc 207), 2) ∧ decode (mX12_line).2.1 479 = .ok ((.invokevirtual 256), 3) ∧ decode (mX12_line).2.1 482 = .ok ((.invokevirtual 260), 3) ∧ decode (mX12_line).2.1 485 = .ok ((.goto 7), 3) ∧ decode (mX12_line).2.1 488 = .ok ((.aload_n 0), 1) ∧ decode (mX12_line).2.1 489 = .ok ((.invokevirtual 270), 3) := by decide +kernel
theorem dX12_line_477 : Dc mX12_line 477 (.ldc 207) 2 479 := ⟨k_dX12_line_477.1, rfl⟩
theorem dX12_line_479 : Dc mX12_line 479 (.invokevirtual 256) 3 482 := ⟨k_dX12_line_477.2.1, rfl⟩
theorem dX12_line_482 : Dc mX12_line 482 (.invokevirtual 260) 3 485 := ⟨k_dX12_line_477.2.2.1, rfl⟩
theorem dX12_line_485 : Dc mX12_line 485 (.goto 7) 3 488 := ⟨k_dX12_line_477.2.2.2.1, rfl⟩
theorem dX12_line_488 : Dc mX12_line 488 (.aload_n 0) 1 489 := ⟨k_dX12_line_477.2.2.2.2.1, rfl⟩
theorem dX12_line_489 : Dc mX12_line 489 (.invokevirtual 270) 3 492 := ⟨k_dX12_line_477.2.2.2.2.2, rfl⟩
theorem k_dX12_line_492 : decode (mX12_line).2.1 492 = .ok ((.aload_n 0), 1) ∧ decode (mX12_line).2.1 493 = .ok ((.getfield 223), 3) ∧ decode (mX12_line).2.1 496 = .ok ((.ifCond .eq 4), 3) ∧ decode (mX12_line).2.1 499 = .ok ((.return_), 1) ∧ decode (mX12_line).2.1 500 = .ok ((.aload_n 0), 1) ∧ decode (mX12_line).2.1 501 = .ok ((.bipush 59), 2) := by decide +kernel
theorem dX12_line_492 : Dc mX12_line 492 (.aload_n 0) 1 493 := ⟨k_dX12_line_492.1, rfl⟩
theorem dX12_line_493 : Dc mX12_line 493 (.getfield 223) 3 496 := ⟨k_dX12_line_492.2.1, rfl⟩
theorem dX12_line_496 : Dc mX12_line 496 (.ifCond .eq 4) 3 499 := ⟨k_dX12_line_492.2.2.1, rfl⟩
theorem dX12_line_499 : Dc mX12_line 499 (.return_) 1 500 := ⟨k_dX12_line_492.2.2.2.1, rfl⟩
theorem dX12_line_500 : Dc mX12_line 500 (.aload_n 0) 1 501 := ⟨k_dX12_line_492.2.2.2.2.1, rfl⟩
theorem dX12_line_501 : Dc mX12_line 501 (.bipush 59) 2 503 := ⟨k_dX12_line_492.2.2.2.2.2, rfl⟩
theorem k_dX12_line_503 : decode (mX12_line).2.1 503 = .ok ((.invokevirtual 273), 3) ∧ decode (mX12_line).2.1 506 = .ok ((.ifCond .ne 11), 3) ∧ decode (mX12_line).2.1 509 = .ok ((.aload_n 0), 1) ∧ decode (mX12_line).2.1 510 = .ok ((.iconst 1), 1) ∧ decode (mX12_line).2.1 511 = .ok ((.invokevirtual 232), 3) ∧ decode (mX12_line).2.1 514 = .ok ((.goto 7), 3) := by decide +kernel
theorem dX12_line_503 : Dc mX12_line 503 (.invokevirtual 273) 3 506 := ⟨k_dX12_line_503.1, rfl⟩
theorem dX12_line_506 : Dc mX12_line 506 (.ifCond .ne 11) 3 509 := ⟨k_dX12_line_503.2.1, rfl⟩
theorem dX12_line_509 : Dc mX12_line 509 (.aload_n 0) 1 510 := ⟨k_dX12_line_503.2.2.1, rfl⟩
theorem dX12_line_510 : Dc mX12_line 510 (.iconst 1) 1 511 := ⟨k_dX12_line_503.2.2.2.1, rfl⟩
theorem dX12_line_511 : Dc mX12_line 511 (.invokevirtual 232) 3 514 := ⟨k_dX12_line_503.2.2.2.2.1, rfl⟩
theorem dX12_line_514 : Dc mX12_line 514 (.goto 7) 3 517 := ⟨k_dX12_line_503.2.2.2.2.2, rfl⟩
theorem k_dX12_line_517 : decode (mX12_line).2.1 517 = .ok ((.aload_n 0), 1) ∧ decode (mX12_line).2.1 518 = .ok ((.invokevirtual 229), 3) ∧ decode (mX12_line).2.1 521 = .ok ((.aload_n 0), 1) ∧ decode (mX12_line).2.1 522 = .ok ((.dup), 1) ∧ decode (mX12_line).2.1 523 = .ok ((.getfield 276), 3) ∧ decode (mX12_line).2.1 526 = .ok ((.iconst 1), 1) := by decide +kernel
theorem dX12_line_517 : Dc mX12_line 517 (.aload_n 0) 1 518 := ⟨k_dX12_line_517.1, rfl⟩
theorem dX12_line_518 : Dc mX12_line 518 (.invokevirtual 229) 3 521 := ⟨k_dX12_line_517.2.1, rfl⟩
theorem dX12_line_521 : Dc mX12_line 521 (.aload_n 0) 1 522 := ⟨k_dX12_line_517.2.2.1, rfl⟩
theorem dX12_line_522 : Dc mX12_line 522 (.dup) 1 523 := ⟨k_dX12_line_517.2.2.2.1, rfl⟩
theorem dX12_line_523 : Dc mX12_line 523 (.getfield 276) 3 526 := ⟨k_dX12_line_517.2.2.2.2.1, rfl⟩
theorem dX12_line_526 : Dc mX12_line 526 (.iconst 1) 1 527 := ⟨k_dX12_line_517.2.2.2.2.2, rfl⟩
theorem k_dX12_line_527 : decode (mX12_line).2.1 527 = .ok ((.iadd), 1) ∧ decode (mX12_line).2.1 528 = .ok ((.putfield 276), 3) ∧ decode (mX12_line).2.1 531 = .ok ((.return_), 1) := by decide +kernel
theorem dX12_line_527 : Dc mX12_line 527 (.iadd) 1 528 := ⟨k_dX12_line_527.1, rfl⟩
theorem dX12_line_528 : Dc mX12_line 528 (.putfield 276) 3 531 := ⟨k_dX12_line_527.2.1, rfl⟩
theorem dX12_line_531 : Dc mX12_line 531 (.return_) 1 532 := ⟨k_dX12_line_527.2.2, rfl⟩
theorem k_dX12_hasLine_0 : decode (mX12_hasLine).2.1 0 = .ok ((.aload_n 0), 1) ∧ decode (mX12_hasLine).2.1 1 = .ok ((.aload_n 0), 1) ∧ decode (mX12_hasLine).2.1 2 = .ok ((.getfield 25), 3) ∧ decode (mX12_hasLine).2.1 5 = .ok ((.bipush 8), 2) ∧ decode (mX12_hasLine).2.1 7 = .ok ((.aload_n 0), 1) ∧ decode (mX12_hasLine).2.1 8 = .ok ((.iconst 1), 1) := by decide +kernel
theorem dX12_hasLine_0 : Dc mX12_hasLine 0 (.aload_n 0) 1 1 := ⟨k_dX12_hasLine_0.1, rfl⟩
theorem dX12_hasLine_1 : Dc mX12_hasLine 1 (.aload_n 0) 1 2 := ⟨k_dX12_hasLine_0.2.1, rfl⟩
theorem dX12_hasLine_2 : Dc mX12_hasLine 2 (.getfield 25) 3 5 := ⟨k_dX12_hasLine_0.2.2.1, rfl⟩
theorem dX12_hasLine_5 : Dc mX12_hasLine 5 (.bipush 8) 2 7 := ⟨k_dX12_hasLine_0.2.2.2.1, rfl⟩
theorem dX12_hasLine_7 : Dc mX12_hasLine 7 (.aload_n 0) 1 8 := ⟨k_dX12_hasLine_0.2.2.2.2.1, rfl⟩
theorem dX12_hasLine_8 : Dc mX12_hasLine 8 (.iconst 1) 1 9 := ⟨k_dX12_hasLine_0.2.2.2.2.2, rfl⟩
theorem k_dX12_hasLine_9 : decode (mX12_hasLine).2.1 9 = .ok ((.invokevirtual 239), 3) ∧ decode (mX12_hasLine).2.1 12 = .ok ((.invokevirtual 243), 3) ∧ decode (mX12_hasLine).2.1 15 = .ok ((.istore_n 1), 1) ∧ decode (mX12_hasLine).2.1 16 = .ok ((.aload_n 0), 1) ∧ decode (mX12_hasLine).2.1 17 = .ok ((.invokevirtual 279), 3) ∧ decode (mX12_hasLine).2.1 20 = .ok ((.aload_n 0), 1) := by decide +kernel
theorem dX12_hasLine_9 : Dc mX12_hasLine 9 (.invokevirtual 239) 3 12 := ⟨k_dX12_hasLine_9.1, rfl⟩
theorem dX12_hasLine_12 : Dc mX12_hasLine 12 (.invokevirtual 243) 3 15 := ⟨k_dX12_hasLine_9.2.1, rfl⟩
theorem dX12_hasLine_15 : Dc mX12_hasLine 15 (.istore_n 1) 1 16 := ⟨k_dX12_hasLine_9.2.2.1, rfl⟩
theorem dX12_hasLine_16 : Dc mX12_hasLine 16 (.aload_n 0) 1 17 := ⟨k_dX12_hasLine_9.2.2.2.1, rfl⟩
theorem dX12_hasLine_17 : Dc mX12_hasLine 17 (.invokevirtual 279) 3 20 := ⟨k_dX12_hasLine_9.2.2.2.2.1, rfl⟩
theorem dX12_hasLine_20 : Dc mX12_hasLine 20 (.aload_n 0) 1 21 := ⟨k_dX12_hasLine_9.2.2.2.2.2, rfl⟩
theorem k_dX12_hasLine_21 : decode (mX12_hasLine).2.1 21 = .ok ((.invokevirtual 282), 3) ∧ decode (mX12_hasLine).2.1 24 = .ok ((.istore_n 2), 1) ∧ decode (mX12_hasLine).2.1 25 = .ok ((.bipush 48), 2) ∧ decode (mX12_hasLine).2.1 27 = .ok ((.bipush 6), 2) ∧ decode (mX12_hasLine).2.1 29 = .ok ((.iload_n 1), 1) ∧ decode (mX12_hasLine).2.1 30 = .ok ((.imul), 1) := by decide +kernel
theorem dX12_hasLine_21 : Dc mX12_hasLine 21 (.invokevirtual 282) 3 24 := ⟨k_dX12_hasLine_21.1, rfl⟩
theorem dX12_hasLine_24 : Dc mX12_hasLine 24 (.istore_n 2) 1 25 := ⟨k_dX12_hasLine_21.2.1, rfl⟩
theorem dX12_hasLine_25 : Dc mX12_hasLine 25 (.bipush 48) 2 27 := ⟨k_dX12_hasLine_21.2.2.1, rfl⟩
theorem dX12_hasLine_27 : Dc mX12_hasLine 27 (.bipush 6) 2 29 := ⟨k_dX12_hasLine_21.2.2.2.1, rfl⟩
theorem dX12_hasLine_29 : Dc mX12_hasLine 29 (.iload_n 1) 1 30 := ⟨k_dX12_hasLine_21.2.2.2.2.1, rfl⟩
theorem dX12_hasLine_30 : Dc mX12_hasLine 30 (.imul) 1 31 := ⟨k_dX12_hasLine_21.2.2.2.2.2, rfl⟩
theorem k_dX12_hasLine_31 : decode (mX12_hasLine).2.1 31 = .ok ((.iadd), 1) ∧ decode (mX12_hasLine).2.1 32 = .ok ((.iload_n 2), 1) ∧ decode (mX12_hasLine).2.1 33 = .ok ((.iadd), 1) ∧ decode (mX12_hasLine).2.1 34 = .ok ((.istore_n 3), 1) ∧ decode (mX12_hasLine).2.1 35 = .ok ((.aload_n 0), 1) ∧ decode (mX12_hasLine).2.1 36 = .ok ((.getfield 223), 3) := by decide +kernel
theorem dX12_hasLine_31 : Dc mX12_hasLine 31 (.iadd) 1 32 := ⟨k_dX12_hasLine_31.1, rfl⟩
theorem dX12_hasLine_32 : Dc mX12_hasLine 32 (.iload_n 2) 1 33 := ⟨k_dX12_hasLine_31.2.1, rfl⟩
theorem dX12_hasLine_33 : Dc mX12_hasLine 33 (.iadd) 1 34 := ⟨k_dX12_hasLine_31.2.2.1, rfl⟩
theorem dX12_hasLine_34 : Dc mX12_hasLine 34 (.istore_n 3) 1 35 := ⟨k_dX12_hasLine_31.2.2.2.1, rfl⟩
theorem dX12_hasLine_35 : Dc mX12_hasLine 35 (.aload_n 0) 1 36 := ⟨k_dX12_hasLine_31.2.2.2.2.1, rfl⟩
theorem dX12_hasLine_36 : Dc mX12_hasLine 36 (.getfield 223) 3 39 := ⟨k_dX12_hasLine_31.2.2.2.2.2, rfl⟩
theorem k_dX12_hasLine_39 : decode (mX12_hasLine).2.1 39 = .ok ((.ifCond .ne 18), 3) ∧ decode (mX12_hasLine).2.1 42 = .ok ((.aload_n 0), 1) ∧ decode (mX12_hasLine).2.1 43 = .ok ((.getfield 34), 3) ∧ decode (mX12_hasLine).2.1 46 = .ok ((.iload_n 3), 1) ∧ decode (mX12_hasLine).2.1 47 = .ok ((.iaload), 1) ∧ decode (mX12_hasLine).2.1 48 = .ok ((.iconst (-1)), 1) := by decide +kernel
theorem dX12_hasLine_39 : Dc mX12_hasLine 39 (.ifCond .ne 18) 3 42 := ⟨k_dX12_hasLine_39.1, rfl⟩
theorem dX12_hasLine_42 : Dc mX12_hasLine 42 (.aload_n 0) 1 43 := ⟨k_dX12_hasLine_39.2.1, rfl⟩
theorem dX12_hasLine_43 : Dc mX12_hasLine 43 (.getfield 34) 3 46 := ⟨k_dX12_hasLine_39.2.2.1, rfl⟩
theorem dX12_hasLine_46 : Dc mX12_hasLine 46 (.iload_n 3) 1 47 := ⟨k_dX12_hasLine_39.2.2.2.1, rfl⟩
theorem dX12_hasLine_47 : Dc mX12_hasLine 47 (.iaload) 1 48 := ⟨k_dX12_hasLine_39.2.2.2.2.1, rfl⟩
theorem dX12_hasLine_48 : Dc mX12_hasLine 48 (.iconst (-1)) 1 49 := ⟨k_dX12_hasLine_39.2.2.2.2.2, rfl⟩
theorem k_dX12_hasLine_49 : decode (mX12_hasLine).2.1 49 = .ok ((.if_icmp .eq 8), 3) ∧ decode (mX12_hasLine).2.1 52 = .ok ((.aload_n 0), 1) ∧ decode (mX12_hasLine).2.1 53 = .ok ((.iconst 3), 1) ∧ decode (mX12_hasLine).2.1 54 = .ok ((.invokevirtual 232), 3) ∧ decode (mX12_hasLine).2.1 57 = .ok ((.aload_n 0), 1) ∧ decode (mX12_hasLine).2.1 58 = .ok ((.invokevirtual 279), 3) := by decide +kernel
theorem dX12_hasLine_49 : Dc mX12_hasLine 49 (.if_icmp .eq 8) 3 52 := ⟨k_dX12_hasLine_49.1, rfl⟩
theorem dX12_hasLine_52 : Dc mX12_hasLine 52 (.aload_n 0) 1 53 := ⟨k_dX12_hasLine_49.2.1, rfl⟩
theorem dX12_hasLine_53 : Dc mX12_hasLine 53 (.iconst 3) 1 54 := ⟨k_dX12_hasLine_49.2.2.1, rfl⟩
theorem dX12_hasLine_54 : Dc mX12_hasLine 54 (.invokevirtual 232) 3 57 := ⟨k_dX12_hasLine_49.2.2.2.1, rfl⟩
theorem dX12_hasLine_57 : Dc mX12_hasLine 57 (.aload_n 0) 1 58 := ⟨k_dX12_hasLine_49.2.2.2.2.1, rfl⟩
theorem dX12_hasLine_58 : Dc mX12_hasLine 58 (.invokevirtual 279) 3 61 := ⟨k_dX12_hasLine_49.2.2.2.2.2, rfl⟩
theorem k_dX12_hasLine_61 : decode (mX12_hasLine).2.1 61 = .ok ((.aload_n 0), 1) ∧ decode (mX12_hasLine).2.1 62 = .ok ((.iconst 0), 1) ∧ decode (mX12_hasLine).2.1 63 = .ok ((.aload_n 0), 1) ∧ decode (mX12_hasLine).2.1 64 = .ok ((.getfield 223), 3) ∧ decode (mX12_hasLine).2.1 67 = .ok ((.ifCond .ne 17), 3) ∧ decode (mX12_hasLine).2.1 70 = .ok ((.aload_n 0), 1) := by decide +kernel
theorem dX12_hasLine_61 : Dc mX12_hasLine 61 (.aload_n 0) 1 62 := ⟨k_dX12_hasLine_61.1, rfl⟩
theorem dX12_hasLine_62 : Dc mX12_hasLine 62 (.iconst 0) 1 63 := ⟨k_dX12_hasLine_61.2.1, rfl⟩
theorem dX12_hasLine_63 : Dc mX12_hasLine 63 (.aload_n 0) 1 64 := ⟨k_dX12_hasLine_61.2.2.1, rfl⟩
theorem dX12_hasLine_64 : Dc mX12_hasLine 64 (.getfield 223) 3 67 := ⟨k_dX12_hasLine_61.2.2.2.1, rfl⟩
theorem dX12_hasLine_67 : Dc mX12_hasLine 67 (.ifCond .ne 17) 3 70 := ⟨k_dX12_hasLine_61.2.2.2.2.1, rfl⟩
theorem dX12_hasLine_70 : Dc mX12_hasLine 70 (.aload_n 0) 1 71 := ⟨k_dX12_hasLine_61.2.2.2.2.2, rfl⟩
theorem k_dX12_hasLine_71 : decode (mX12_hasLine).2.1 71 = .ok ((.getfield 22), 3) ∧ decode (mX12_hasLine).2.1 74 = .ok ((.bipush 6), 2) ∧ decode (mX12_hasLine).2.1 76 = .ok ((.iload_n 2), 1) ∧ decode (mX12_hasLine).2.1 77 = .ok ((.iadd), 1) ∧ decode (mX12_hasLine).2.1 78 = .ok ((.iaload), 1) ∧ decode (mX12_hasLine).2.1 79 = .ok ((.iconst 1), 1) := by decide +kernel
theorem dX12_hasLine_71 : Dc mX12_hasLine 71 (.getfield 22) 3 74 := ⟨k_dX12_hasLine_71.1, rfl⟩
theorem dX12_hasLine_74 : Dc mX12_hasLine 74 (.bipush 6) 2 76 := ⟨k_dX12_hasLine_71.2.1, rfl⟩
theorem dX12_hasLine_76 : Dc mX12_hasLine 76 (.iload_n 2) 1 77 := ⟨k_dX12_hasLine_71.2.2.1, rfl⟩
theorem dX12_hasLine_77 : Dc mX12_hasLine 77 (.iadd) 1 78 := ⟨k_dX12_hasLine_71.2.2.2.1, rfl⟩
theorem dX12_hasLine_78 : Dc mX12_hasLine 78 (.iaload) 1 79 := ⟨k_dX12_hasLine_71.2.2.2.2.1, rfl⟩
theorem dX12_hasLine_79 : Dc mX12_hasLine 79 (.iconst 1) 1 80 := ⟨k_dX12_hasLine_71.2.2.2.2.2, rfl⟩
theorem k_dX12_hasLine_80 : decode (mX12_hasLine).2.1 80 = .ok ((.isub), 1) ∧ decode (mX12_hasLine).2.1 81 = .ok ((.goto 4), 3) ∧ decode (mX12_hasLine).2.1 84 = .ok ((.iconst 0), 1) ∧ decode (mX12_hasLine).2.1 85 = .ok ((.invokevirtual 256), 3) ∧ decode (mX12_hasLine).2.1 88 = .ok ((.istore 4), 2) ∧ decode (mX12_hasLine).2.1 90 = .ok ((.aload_n 0), 1) := by decide +kernel
theorem dX12_hasLine_80 : Dc mX12_hasLine 80 (.isub) 1 81 := ⟨k_dX12_hasLine_80.1, rfl⟩
theorem dX12_hasLine_81 : Dc mX12_hasLine 81 (.goto 4) 3 84 := ⟨k_dX12_hasLine_80.2.1, rfl⟩
theorem dX12_hasLine_84 : Dc mX12_hasLine 84 (.iconst 0) 1 85 := ⟨k_dX12_hasLine_80.2.2.1, rfl⟩
theorem dX12_hasLine_85 : Dc mX12_hasLine 85 (.invokevirtual 256) 3 88 := ⟨k_dX12_hasLine_80.2.2.2.1, rfl⟩
theorem dX12_hasLine_88 : Dc mX12_hasLine 88 (.istore 4) 2 90 := ⟨k_dX12_hasLine_80.2.2.2.2.1, rfl⟩
theorem dX12_hasLine_90 : Dc mX12_hasLine 90 (.aload_n 0) 1 91 := ⟨k_dX12_hasLine_80.2.2.2.2.2, rfl⟩
theorem k_dX12_hasLine_91 : decode (mX12_hasLine).2.1 91 = .ok ((.getfield 223), 3) ∧ decode (mX12_hasLine).2.1 94 = .ok ((.ifCond .eq 4), 3) ∧ decode (mX12_hasLine).2.1 97 = .ok ((.return_), 1) ∧ decode (mX12_hasLine).2.1 98 = .ok ((.aload_n 0), 1) ∧ decode (mX12_hasLine).2.1 99 = .ok ((.getfield 34), 3) ∧ decode (mX12_hasLine).2.1 102 = .ok ((.iload_n 3), 1) := by decide +kernel
theorem dX12_hasLine_91 : Dc mX12_hasLine 91 (.getfield 223) 3 94 := ⟨k_dX12_hasLine_91.1, rfl⟩
theorem dX12_hasLine_94 : Dc mX12_hasLine 94 (.ifCond .eq 4) 3 97 := ⟨k_dX12_hasLine_91.2.1, rfl⟩
theorem dX12_hasLine_97 : Dc mX12_hasLine 97 (.return_) 1 98 := ⟨k_dX12_hasLine_91.2.2.1, rfl⟩
theorem dX12_hasLine_98 : Dc mX12_hasLine 98 (.aload_n 0) 1 99 := ⟨k_dX12_hasLine_91.2.2.2.1, rfl⟩
theorem dX12_hasLine_99 : Dc mX12_hasLine 99 (.getfield 34) 3 102 := ⟨k_dX12_hasLine_91.2.2.2.2.1, rfl⟩
theorem dX12_hasLine_102 : Dc mX12_hasLine 102 (.iload_n 3) 1 103 := ⟨k_dX12_hasLine_91.2.2.2.2.2, rfl⟩
theorem k_dX12_hasLine_103 : decode (mX12_hasLine).2.1 103 = .ok ((.iload 4), 2) ∧ decode (mX12_hasLine).2.1 105 = .ok ((.iastore), 1) ∧ decode (mX12_hasLine).2.1 106 = .ok ((.aload_n 0), 1) ∧ decode (mX12_hasLine).2.1 107 = .ok ((.iconst 2), 1) ∧ decode (mX12_hasLine).2.1 108 = .ok ((.aload_n 0), 1) ∧ decode (mX12_hasLine).2.1 109 = .ok ((.iconst 2), 1) := by decide +kernel
theorem dX12_hasLine_103 : Dc mX12_hasLine 103 (.iload 4) 2 105 := ⟨k_dX12_hasLine_103.1, rfl⟩
theorem dX12_hasLine_105 : Dc mX12_hasLine 105 (.iastore) 1 106 := ⟨k_dX12_hasLine_103.2.1, rfl⟩
theorem dX12_hasLine_106 : Dc mX12_hasLine 106 (.aload_n 0) 1 107 := ⟨k_dX12_hasLine_103.2.2.1, rfl⟩
theorem dX12_hasLine_107 : Dc mX12_hasLine 107 (.iconst 2) 1 108 := ⟨k_dX12_hasLine_103.2.2.2.1, rfl⟩
theorem dX12_hasLine_108 : Dc mX12_hasLine 108 (.aload_n 0) 1 109 := ⟨k_dX12_hasLine_103.2.2.2.2.1, rfl⟩
theorem dX12_hasLine_109 : Dc mX12_hasLine 109 (.iconst 2) 1 110 := ⟨k_dX12_hasLine_103.2.2.2.2.2, rfl⟩
theorem k_dX12_hasLine_110 : decode (mX12_hasLine).2.1 110 = .ok ((.invokevirtual 239), 3) ∧ decode (mX12_hasLine).2.1 113 = .ok ((.iconst 1), 1) ∧ decode (mX12_hasLine).2.1 114 = .ok ((.iadd), 1) ∧ decode (mX12_hasLine).2.1 115 = .ok ((.invokevirtual 260), 3) ∧ decode (mX12_hasLine).2.1 118 = .ok ((.return_), 1) := by decide +kernel
theorem dX12_hasLine_110 : Dc mX12_hasLine 110 (.invokevirtual 239) 3 113 := ⟨k_dX12_hasLine_110.1, rfl⟩
theorem dX12_hasLine_113 : Dc mX12_hasLine 113 (.iconst 1) 1 114 := ⟨k_dX12_hasLine_110.2.1, rfl⟩
theorem dX12_hasLine_114 : Dc mX12_hasLine 114 (.iadd) 1 115 := ⟨k_dX12_hasLine_110.2.2.1, rfl⟩
theorem dX12_hasLine_115 : Dc mX12_hasLine 115 (.invokevirtual 260) 3 118 := ⟨k_dX12_hasLine_110.2.2.2.1, rfl⟩
theorem dX12_hasLine_118 : Dc mX12_hasLine 118 (.return_) 1 119 := ⟨k_dX12_hasLine_110.2.2.2.2, rfl⟩
theorem k_dX12_partyLine_0 : decode (mX12_partyLine).2.1 0 = .ok ((.aload_n 0), 1) ∧ decode (mX12_partyLine).2.1 1 = .ok ((.getfield 37), 3) ∧ decode (mX12_partyLine).2.1 4 = .ok ((.iload_n 1), 1) ∧ decode (mX12_partyLine).2.1 5 = .ok ((.aload_n 0), 1) ∧ decode (mX12_partyLine).2.1 6 = .ok ((.aload_n 0), 1) ∧ decode (mX12_partyLine).2.1 7 = .ok ((.getfield 37), 3) := by decide +kernel
theorem dX12_partyLine_0 : Dc mX12_partyLine 0 (.aload_n 0) 1 1 := ⟨k_dX12_partyLine_0.1, rfl⟩
theorem dX12_partyLine_1 : Dc mX12_partyLine 1 (.getfield 37) 3 4 := ⟨k_dX12_partyLine_0.2.1, rfl⟩
theorem dX12_partyLine_4 : Dc mX12_partyLine 4 (.iload_n 1) 1 5 := ⟨k_dX12_partyLine_0.2.2.1, rfl⟩
theorem dX12_partyLine_5 : Dc mX12_partyLine 5 (.aload_n 0) 1 6 := ⟨k_dX12_partyLine_0.2.2.2.1, rfl⟩
theorem dX12_partyLine_6 : Dc mX12_partyLine 6 (.aload_n 0) 1 7 := ⟨k_dX12_partyLine_0.2.2.2.2.1, rfl⟩
theorem dX12_partyLine_7 : Dc mX12_partyLine 7 (.getfield 37) 3 10 := ⟨k_dX12_partyLine_0.2.2.2.2.2, rfl⟩
theorem k_dX12_partyLine_10 : decode (mX12_partyLine).2.1 10 = .ok ((.iconst 4), 1) ∧ decode (mX12_partyLine).2.1 11 = .ok ((.aload_n 0), 1) ∧ decode (mX12_partyLine).2.1 12 = .ok ((.iconst 3), 1) ∧ decode (mX12_partyLine).2.1 13 = .ok ((.invokevirtual 239), 3) ∧ decode (mX12_partyLine).2.1 16 = .ok ((.invokevirtual 253), 3) ∧ decode (mX12_partyLine).2.1 19 = .ok ((.iastore), 1) := by decide +kernel
theorem dX12_partyLine_10 : Dc mX12_partyLine 10 (.iconst 4) 1 11 := ⟨k_dX12_partyLine_10.1, rfl⟩
theorem dX12_partyLine_11 : Dc mX12_partyLine 11 (.aload_n 0) 1 12 := ⟨k_dX12_partyLine_10.2.1, rfl⟩
theorem dX12_partyLine_12 : Dc mX12_partyLine 12 (.iconst 3) 1 13 := ⟨k_dX12_partyLine_10.2.2.1, rfl⟩
theorem dX12_partyLine_13 : Dc mX12_partyLine 13 (.invokevirtual 239) 3 16 := ⟨k_dX12_partyLine_10.2.2.2.1, rfl⟩
theorem dX12_partyLine_16 : Dc mX12_partyLine 16 (.invokevirtual 253) 3 19 := ⟨k_dX12_partyLine_10.2.2.2.2.1, rfl⟩
theorem dX12_partyLine_19 : Dc mX12_partyLine 19 (.iastore) 1 20 := ⟨k_dX12_partyLine_10.2.2.2.2.2, rfl⟩
theorem k_dX12_partyLine_20 : decode (mX12_partyLine).2.1 20 = .ok ((.aload_n 0), 1) ∧ decode (mX12_partyLine).2.1 21 = .ok ((.getfield 40), 3) ∧ decode (mX12_partyLine).2.1 24 = .ok ((.iload_n 1), 1) ∧ decode (mX12_partyLine).2.1 25 = .ok ((.aload_n 0), 1) ∧ decode (mX12_partyLine).2.1 26 = .ok ((.invokevirtual 282), 3) ∧ decode (mX12_partyLine).2.1 29 = .ok ((.iastore), 1) := by decide +kernel
theorem dX12_partyLine_20 : Dc mX12_partyLine 20 (.aload_n 0) 1 21 := ⟨k_dX12_partyLine_20.1, rfl⟩
theorem dX12_partyLine_21 : Dc mX12_partyLine 21 (.getfield 40) 3 24 := ⟨k_dX12_partyLine_20.2.1, rfl⟩
theorem dX12_partyLine_24 : Dc mX12_partyLine 24 (.iload_n 1) 1 25 := ⟨k_dX12_partyLine_20.2.2.1, rfl⟩
theorem dX12_partyLine_25 : Dc mX12_partyLine 25 (.aload_n 0) 1 26 := ⟨k_dX12_partyLine_20.2.2.2.1, rfl⟩
theorem dX12_partyLine_26 : Dc mX12_partyLine 26 (.invokevirtual 282) 3 29 := ⟨k_dX12_partyLine_20.2.2.2.2.1, rfl⟩
theorem dX12_partyLine_29 : Dc mX12_partyLine 29 (.iastore) 1 30 := ⟨k_dX12_partyLine_20.2.2.2.2.2, rfl⟩
theorem k_dX12_partyLine_30 : decode (mX12_partyLine).2.1 30 = .ok ((.aload_n 0), 1) ∧ decode (mX12_partyLine).2.1 31 = .ok ((.invokevirtual 279), 3) ∧ decode (mX12_partyLine).2.1 34 = .ok ((.aload_n 0), 1) ∧ decode (mX12_partyLine).2.1 35 = .ok ((.getfield 43), 3) ∧ decode (mX12_partyLine).2.1 38 = .ok ((.iload_n 1), 1) ∧ decode (mX12_partyLine).2.1 39 = .ok ((.aload_n 0), 1) := by decide +kernel
theorem dX12_partyLine_30 : Dc mX12_partyLine 30 (.aload_n 0) 1 31 := ⟨k_dX12_partyLine_30.1, rfl⟩
theorem dX12_partyLine_31 : Dc mX12_partyLine 31 (.invokevirtual 279) 3 34 := ⟨k_dX12_partyLine_30.2.1, rfl⟩
theorem dX12_partyLine_34 : Dc mX12_partyLine 34 (.aload_n 0) 1 35 := ⟨k_dX12_partyLine_30.2.2.1, rfl⟩
theorem dX12_partyLine_35 : Dc mX12_partyLine 35 (.getfield 43) 3 38 := ⟨k_dX12_partyLine_30.2.2.2.1, rfl⟩
theorem dX12_partyLine_38 : Dc mX12_partyLine 38 (.iload_n 1) 1 39 := ⟨k_dX12_partyLine_30.2.2.2.2.1, rfl⟩
theorem dX12_partyLine_39 : Dc mX12_partyLine 39 (.aload_n 0) 1 40 := ⟨k_dX12_partyLine_30.2.2.2.2.2, rfl⟩
theorem k_dX12_partyLine_40 : decode (mX12_partyLine).2.1 40 = .ok ((.iconst 0), 1) ∧ decode (mX12_partyLine).2.1 41 = .ok ((.aload_n 0), 1) ∧ decode (mX12_partyLine).2.1 42 = .ok ((.getfield 223), 3) ∧ decode (mX12_partyLine).2.1 45 = .ok ((.ifCond .ne 22), 3) ∧ decode (mX12_partyLine).2.1 48 = .ok ((.aload_n 0), 1) ∧ decode (mX12_partyLine).2.1 49 = .ok ((.getfield 22), 3) := by decide +kernel
theorem dX12_partyLine_40 : Dc mX12_partyLine 40 (.iconst 0) 1 41 := ⟨k_dX12_partyLine_40.1, rfl⟩
theorem dX12_partyLine_41 : Dc mX12_partyLine 41 (.aload_n 0) 1 42 := ⟨k_dX12_partyLine_40.2.1, rfl⟩
theorem dX12_partyLine_42 : Dc mX12_partyLine 42 (.getfield 223) 3 45 := ⟨k_dX12_partyLine_40.2.2.1, rfl⟩
theorem dX12_partyLine_45 : Dc mX12_partyLine 45 (.ifCond .ne 22) 3 48 := ⟨k_dX12_partyLine_40.2.2.2.1, rfl⟩
theorem dX12_partyLine_48 : Dc mX12_partyLine 48 (.aload_n 0) 1 49 := ⟨k_dX12_partyLine_40.2.2.2.2.1, rfl⟩
theorem dX12_partyLine_49 : Dc mX12_partyLine 49 (.getfield 22) 3 52 := ⟨k_dX12_partyLine_40.2.2.2.2.2, rfl⟩
theorem k_dX12_partyLine_52 : decode (mX12_partyLine).2.1 52 = .ok ((.bipush 6), 2) ∧ decode (mX12_partyLine).2.1 54 = .ok ((.aload_n 0), 1) ∧ decode (mX12_partyLine).2.1 55 = .ok ((.getfield 40), 3) ∧ decode (mX12_partyLine).2.1 58 = .ok ((.iload_n 1), 1) ∧ decode (mX12_partyLine).2.1 59 = .ok ((.iaload), 1) ∧ decode (mX12_partyLine).2.1 60 = .ok ((.iadd), 1) := by decide +kernel
theorem dX12_partyLine_52 : Dc mX12_partyLine 52 (.bipush 6) 2 54 := ⟨k_dX12_partyLine_52.1, rfl⟩
theorem dX12_partyLine_54 : Dc mX12_partyLine 54 (.aload_n 0) 1 55 := ⟨k_dX12_partyLine_52.2.1, rfl⟩
theorem dX12_partyLine_55 : Dc mX12_partyLine 55 (.getfield 40) 3 58 := ⟨k_dX12_partyLine_52.2.2.1, rfl⟩
theorem dX12_partyLine_58 : Dc mX12_partyLine 58 (.iload_n 1) 1 59 := ⟨k_dX12_partyLine_52.2.2.2.1, rfl⟩
theorem dX12_partyLine_59 : Dc mX12_partyLine 59 (.iaload) 1 60 := ⟨k_dX12_partyLine_52.2.2.2.2.1, rfl⟩
theorem dX12_partyLine_60 : Dc mX12_partyLine 60 (.iadd) 1 61 := ⟨k_dX12_partyLine_52.2.2.2.2.2, rfl⟩
theorem k_dX12_partyLine_61 : decode (mX12_partyLine).2.1 61 = .ok ((.iaload), 1) ∧ decode (mX12_partyLine).2.1 62 = .ok ((.iconst 1), 1) ∧ decode (mX12_partyLine).2.1 63 = .ok ((.isub), 1) ∧ decode (mX12_partyLine).2.1 64 = .ok ((.goto 4), 3) ∧ decode (mX12_partyLine).2.1 67 = .ok ((.iconst 0), 1) ∧ decode (mX12_partyLine).2.1 68 = .ok ((.invokevirtual 256), 3) := by decide +kernel
theorem dX12_partyLine_61 : Dc mX12_partyLine 61 (.iaload) 1 62 := ⟨k_dX12_partyLine_61.1, rfl⟩
theorem dX12_partyLine_62 : Dc mX12_partyLine 62 (.iconst 1) 1 63 := ⟨k_dX12_partyLine_61.2.1, rfl⟩
theorem dX12_partyLine_63 : Dc mX12_partyLine 63 (.isub) 1 64 := ⟨k_dX12_partyLine_61.2.2.1, rfl⟩
theorem dX12_partyLine_64 : Dc mX12_partyLine 64 (.goto 4) 3 67 := ⟨k_dX12_partyLine_61.2.2.2.1, rfl⟩
theorem dX12_partyLine_67 : Dc mX12_partyLine 67 (.iconst 0) 1 68 := ⟨k_dX12_partyLine_61.2.2.2.2.1, rfl⟩
theorem dX12_partyLine_68 : Dc mX12_partyLine 68 (.invokevirtual 256) 3 71 := ⟨k_dX12_partyLine_61.2.2.2.2.2, rfl⟩
theorem k_dX12_partyLine_71 : decode (mX12_partyLine).2.1 71 = .ok ((.iastore), 1) ∧ decode (mX12_partyLine).2.1 72 = .ok ((.aload_n 0), 1) ∧ decode (mX12_partyLine).2.1 73 = .ok ((.getfield 46), 3) ∧ decode (mX12_partyLine).2.1 76 = .ok ((.iload_n 1), 1) ∧ decode (mX12_partyLine).2.1 77 = .ok ((.aload_n 0), 1) ∧ decode (mX12_partyLine).2.1 78 = .ok ((.iconst 0), 1) := by decide +kernel
theorem dX12_partyLine_71 : Dc mX12_partyLine 71 (.iastore) 1 72 := ⟨k_dX12_partyLine_71.1, rfl⟩
theorem dX12_partyLine_72 : Dc mX12_partyLine 72 (.aload_n 0) 1 73 := ⟨k_dX12_partyLine_71.2.1, rfl⟩
theorem dX12_partyLine_73 : Dc mX12_partyLine 73 (.getfield 46) 3 76 := ⟨k_dX12_partyLine_71.2.2.1, rfl⟩
theorem dX12_partyLine_76 : Dc mX12_partyLine 76 (.iload_n 1) 1 77 := ⟨k_dX12_partyLine_71.2.2.2.1, rfl⟩
theorem dX12_partyLine_77 : Dc mX12_partyLine 77 (.aload_n 0) 1 78 := ⟨k_dX12_partyLine_71.2.2.2.2.1, rfl⟩
theorem dX12_partyLine_78 : Dc mX12_partyLine 78 (.iconst 0) 1 79 := ⟨k_dX12_partyLine_71.2.2.2.2.2, rfl⟩
theorem k_dX12_partyLine_79 : decode (mX12_partyLine).2.1 79 = .ok ((.bipush 99), 2) ∧ decode (mX12_partyLine).2.1 81 = .ok ((.invokevirtual 256), 3) ∧ decode (mX12_partyLine).2.1 84 = .ok ((.iastore), 1) ∧ decode (mX12_partyLine).2.1 85 = .ok ((.aload_n 0), 1) ∧ decode (mX12_partyLine).2.1 86 = .ok ((.iconst 3), 1) ∧ decode (mX12_partyLine).2.1 87 = .ok ((.aload_n 0), 1) := by decide +kernel
theorem dX12_partyLine_79 : Dc mX12_partyLine 79 (.bipush 99) 2 81 := ⟨k_dX12_partyLine_79.1, rfl⟩
theorem dX12_partyLine_81 : Dc mX12_partyLine 81 (.invokevirtual 256) 3 84 := ⟨k_dX12_partyLine_79.2.1, rfl⟩
theorem dX12_partyLine_84 : Dc mX12_partyLine 84 (.iastore) 1 85 := ⟨k_dX12_partyLine_79.2.2.1, rfl⟩
theorem dX12_partyLine_85 : Dc mX12_partyLine 85 (.aload_n 0) 1 86 := ⟨k_dX12_partyLine_79.2.2.2.1, rfl⟩
theorem dX12_partyLine_86 : Dc mX12_partyLine 86 (.iconst 3) 1 87 := ⟨k_dX12_partyLine_79.2.2.2.2.1, rfl⟩
theorem dX12_partyLine_87 : Dc mX12_partyLine 87 (.aload_n 0) 1 88 := ⟨k_dX12_partyLine_79.2.2.2.2.2, rfl⟩
theorem k_dX12_partyLine_88 : decode (mX12_partyLine).2.1 88 = .ok ((.iconst 3), 1) ∧ decode (mX12_partyLine).2.1 89 = .ok ((.invokevirtual 239), 3) ∧ decode (mX12_partyLine).2.1 92 = .ok ((.iconst 1), 1) ∧ decode (mX12_partyLine).2.1 93 = .ok ((.iadd), 1) ∧ decode (mX12_partyLine).2.1 94 = .ok ((.invokevirtual 260), 3) ∧ decode (mX12_partyLine).2.1 97 = .ok ((.return_), 1) := by decide +kernel
theorem dX12_partyLine_88 : Dc mX12_partyLine 88 (.iconst 3) 1 89 := ⟨k_dX12_partyLine_88.1, rfl⟩
theorem dX12_partyLine_89 : Dc mX12_partyLine 89 (.invokevirtual 239) 3 92 := ⟨k_dX12_partyLine_88.2.1, rfl⟩
theorem dX12_partyLine_92 : Dc mX12_partyLine 92 (.iconst 1) 1 93 := ⟨k_dX12_partyLine_88.2.2.1, rfl⟩
theorem dX12_partyLine_93 : Dc mX12_partyLine 93 (.iadd) 1 94 := ⟨k_dX12_partyLine_88.2.2.2.1, rfl⟩
theorem dX12_partyLine_94 : Dc mX12_partyLine 94 (.invokevirtual 260) 3 97 := ⟨k_dX12_partyLine_88.2.2.2.2.1, rfl⟩
theorem dX12_partyLine_97 : Dc mX12_partyLine 97 (.return_) 1 98 := ⟨k_dX12_partyLine_88.2.2.2.2.2, rfl⟩
theorem k_dX12_lawLine_0 : decode (mX12_lawLine).2.1 0 = .ok ((.aload_n 0), 1) ∧ decode (mX12_lawLine).2.1 1 = .ok ((.getfield 188), 3) ∧ decode (mX12_lawLine).2.1 4 = .ok ((.ifCond .ne 21), 3) ∧ decode (mX12_lawLine).2.1 7 = .ok ((.aload_n 0), 1) ∧ decode (mX12_lawLine).2.1 8 = .ok ((.getfield 198), 3) ∧ decode (mX12_lawLine).2.1 11 = .ok ((.bipush 10), 2) := by decide +kernel
theorem dX12_lawLine_0 : Dc mX12_lawLine 0 (.aload_n 0) 1 1 := ⟨k_dX12_lawLine_0.1, rfl⟩
theorem dX12_lawLine_1 : Dc mX12_lawLine 1 (.getfield 188) 3 4 := ⟨k_dX12_lawLine_0.2.1, rfl⟩
theorem dX12_lawLine_4 : Dc mX12_lawLine 4 (.ifCond .ne 21) 3 7 := ⟨k_dX12_lawLine_0.2.2.1, rfl⟩
theorem dX12_lawLine_7 : Dc mX12_lawLine 7 (.aload_n 0) 1 8 := ⟨k_dX12_lawLine_0.2.2.2.1, rfl⟩
theorem dX12_lawLine_8 : Dc mX12_lawLine 8 (.getfield 198) 3 11 := ⟨k_dX12_lawLine_0.2.2.2.2.1, rfl⟩
theorem dX12_lawLine_11 : Dc mX12_lawLine 11 (.bipush 10) 2 13 := ⟨k_dX12_lawLine_0.2.2.2.2.2, rfl⟩
theorem k_dX12_lawLine_13 : decode (mX12_lawLine).2.1 13 = .ok ((.if_icmp .lt 12), 3) ∧ decode (mX12_lawLine).2.1 16 = .ok ((.aload_n 0), 1) ∧ decode (mX12_lawLine).2.1 17 = .ok ((.getfield 198), 3) ∧ decode (mX12_lawLine).2.1 20 = .ok ((.bipush 12), 2) ∧ decode (mX12_lawLine).2.1 22 = .ok ((.if_icmp .le 8), 3) ∧ decode (mX12_lawLine).2.1 25 = .ok ((.aload_n 0), 1) := by decide +kernel
theorem dX12_lawLine_13 : Dc mX12_lawLine 13 (.if_icmp .lt 12) 3 16 := ⟨k_dX12_lawLine_13.1, rfl⟩
theorem dX12_lawLine_16 : Dc mX12_lawLine 16 (.aload_n 0) 1 17 := ⟨k_dX12_lawLine_13.2.1, rfl⟩
theorem dX12_lawLine_17 : Dc mX12_lawLine 17 (.getfield 198) 3 20 := ⟨k_dX12_lawLine_13.2.2.1, rfl⟩
theorem dX12_lawLine_20 : Dc mX12_lawLine 20 (.bipush 12) 2 22 := ⟨k_dX12_lawLine_13.2.2.2.1, rfl⟩
theorem dX12_lawLine_22 : Dc mX12_lawLine 22 (.if_icmp .le 8) 3 25 := ⟨k_dX12_lawLine_13.2.2.2.2.1, rfl⟩
theorem dX12_lawLine_25 : Dc mX12_lawLine 25 (.aload_n 0) 1 26 := ⟨k_dX12_lawLine_13.2.2.2.2.2, rfl⟩
theorem k_dX12_lawLine_26 : decode (mX12_lawLine).2.1 26 = .ok ((.iconst 1), 1) ∧ decode (mX12_lawLine).2.1 27 = .ok ((.invokevirtual 232), 3) ∧ decode (mX12_lawLine).2.1 30 = .ok ((.aload_n 0), 1) ∧ decode (mX12_lawLine).2.1 31 = .ok ((.getfield 198), 3) ∧ decode (mX12_lawLine).2.1 34 = .ok ((.bipush 10), 2) ∧ decode (mX12_lawLine).2.1 36 = .ok ((.isub), 1) := by decide +kernel
theorem dX12_lawLine_26 : Dc mX12_lawLine 26 (.iconst 1) 1 27 := ⟨k_dX12_lawLine_26.1, rfl⟩
theorem dX12_lawLine_27 : Dc mX12_lawLine 27 (.invokevirtual 232) 3 30 := ⟨k_dX12_lawLine_26.2.1, rfl⟩
theorem dX12_lawLine_30 : Dc mX12_lawLine 30 (.aload_n 0) 1 31 := ⟨k_dX12_lawLine_26.2.2.1, rfl⟩
theorem dX12_lawLine_31 : Dc mX12_lawLine 31 (.getfield 198) 3 34 := ⟨k_dX12_lawLine_26.2.2.2.1, rfl⟩
theorem dX12_lawLine_34 : Dc mX12_lawLine 34 (.bipush 10) 2 36 := ⟨k_dX12_lawLine_26.2.2.2.2.1, rfl⟩
theorem dX12_lawLine_36 : Dc mX12_lawLine 36 (.isub) 1 37 := ⟨k_dX12_lawLine_26.2.2.2.2.2, rfl⟩
theorem k_dX12_lawLine_37 : decode (mX12_lawLine).2.1 37 = .ok ((.istore_n 1), 1) ∧ decode (mX12_lawLine).2.1 38 = .ok ((.aload_n 0), 1) ∧ decode (mX12_lawLine).2.1 39 = .ok ((.getfield 223), 3) ∧ decode (mX12_lawLine).2.1 42 = .ok ((.ifCond .ne 23), 3) ∧ decode (mX12_lawLine).2.1 45 = .ok ((.aload_n 0), 1) ∧ decode (mX12_lawLine).2.1 46 = .ok ((.getfield 250), 3) := by decide +kernel
theorem dX12_lawLine_37 : Dc mX12_lawLine 37 (.istore_n 1) 1 38 := ⟨k_dX12_lawLine_37.1, rfl⟩
theorem dX12_lawLine_38 : Dc mX12_lawLine 38 (.aload_n 0) 1 39 := ⟨k_dX12_lawLine_37.2.1, rfl⟩
theorem dX12_lawLine_39 : Dc mX12_lawLine 39 (.getfield 223) 3 42 := ⟨k_dX12_lawLine_37.2.2.1, rfl⟩
theorem dX12_lawLine_42 : Dc mX12_lawLine 42 (.ifCond .ne 23) 3 45 := ⟨k_dX12_lawLine_37.2.2.2.1, rfl⟩
theorem dX12_lawLine_45 : Dc mX12_lawLine 45 (.aload_n 0) 1 46 := ⟨k_dX12_lawLine_37.2.2.2.2.1, rfl⟩
theorem dX12_lawLine_46 : Dc mX12_lawLine 46 (.getfield 250) 3 49 := ⟨k_dX12_lawLine_37.2.2.2.2.2, rfl⟩
theorem k_dX12_lawLine_49 : decode (mX12_lawLine).2.1 49 = .ok ((.bipush 16), 2) ∧ decode (mX12_lawLine).2.1 51 = .ok ((.iload_n 1), 1) ∧ decode (mX12_lawLine).2.1 52 = .ok ((.iadd), 1) ∧ decode (mX12_lawLine).2.1 53 = .ok ((.ishr), 1) ∧ decode (mX12_lawLine).2.1 54 = .ok ((.iconst 1), 1) ∧ decode (mX12_lawLine).2.1 55 = .ok ((.iand), 1) := by decide +kernel
theorem dX12_lawLine_49 : Dc mX12_lawLine 49 (.bipush 16) 2 51 := ⟨k_dX12_lawLine_49.1, rfl⟩
theorem dX12_lawLine_51 : Dc mX12_lawLine 51 (.iload_n 1) 1 52 := ⟨k_dX12_lawLine_49.2.1, rfl⟩
theorem dX12_lawLine_52 : Dc mX12_lawLine 52 (.iadd) 1 53 := ⟨k_dX12_lawLine_49.2.2.1, rfl⟩
theorem dX12_lawLine_53 : Dc mX12_lawLine 53 (.ishr) 1 54 := ⟨k_dX12_lawLine_49.2.2.2.1, rfl⟩
theorem dX12_lawLine_54 : Dc mX12_lawLine 54 (.iconst 1) 1 55 := ⟨k_dX12_lawLine_49.2.2.2.2.1, rfl⟩
theorem dX12_lawLine_55 : Dc mX12_lawLine 55 (.iand) 1 56 := ⟨k_dX12_lawLine_49.2.2.2.2.2, rfl⟩
theorem k_dX12_lawLine_56 : decode (mX12_lawLine).2.1 56 = .ok ((.iconst 1), 1) ∧ decode (mX12_lawLine).2.1 57 = .ok ((.if_icmp .ne 8), 3) ∧ decode (mX12_lawLine).2.1 60 = .ok ((.aload_n 0), 1) ∧ decode (mX12_lawLine).2.1 61 = .ok ((.iconst 3), 1) ∧ decode (mX12_lawLine).2.1 62 = .ok ((.invokevirtual 232), 3) ∧ decode (mX12_lawLine).2.1 65 = .ok ((.aload_n 0), 1) := by decide +kernel
theorem dX12_lawLine_56 : Dc mX12_lawLine 56 (.iconst 1) 1 57 := ⟨k_dX12_lawLine_56.1, rfl⟩
theorem dX12_lawLine_57 : Dc mX12_lawLine 57 (.if_icmp .ne 8) 3 60 := ⟨k_dX12_lawLine_56.2.1, rfl⟩
theorem dX12_lawLine_60 : Dc mX12_lawLine 60 (.aload_n 0) 1 61 := ⟨k_dX12_lawLine_56.2.2.1, rfl⟩
theorem dX12_lawLine_61 : Dc mX12_lawLine 61 (.iconst 3) 1 62 := ⟨k_dX12_lawLine_56.2.2.2.1, rfl⟩
theorem dX12_lawLine_62 : Dc mX12_lawLine 62 (.invokevirtual 232) 3 65 := ⟨k_dX12_lawLine_56.2.2.2.2.1, rfl⟩
theorem dX12_lawLine_65 : Dc mX12_lawLine 65 (.aload_n 0) 1 66 := ⟨k_dX12_lawLine_56.2.2.2.2.2, rfl⟩
theorem k_dX12_lawLine_66 : decode (mX12_lawLine).2.1 66 = .ok ((.getfield 223), 3) ∧ decode (mX12_lawLine).2.1 69 = .ok ((.ifCond .eq 4), 3) ∧ decode (mX12_lawLine).2.1 72 = .ok ((.return_), 1) ∧ decode (mX12_lawLine).2.1 73 = .ok ((.aload_n 0), 1) ∧ decode (mX12_lawLine).2.1 74 = .ok ((.dup), 1) ∧ decode (mX12_lawLine).2.1 75 = .ok ((.getfield 250), 3) := by decide +kernel
theorem dX12_lawLine_66 : Dc mX12_lawLine 66 (.getfield 223) 3 69 := ⟨k_dX12_lawLine_66.1, rfl⟩
theorem dX12_lawLine_69 : Dc mX12_lawLine 69 (.ifCond .eq 4) 3 72 := ⟨k_dX12_lawLine_66.2.1, rfl⟩
theorem dX12_lawLine_72 : Dc mX12_lawLine 72 (.return_) 1 73 := ⟨k_dX12_lawLine_66.2.2.1, rfl⟩
theorem dX12_lawLine_73 : Dc mX12_lawLine 73 (.aload_n 0) 1 74 := ⟨k_dX12_lawLine_66.2.2.2.1, rfl⟩
theorem dX12_lawLine_74 : Dc mX12_lawLine 74 (.dup) 1 75 := ⟨k_dX12_lawLine_66.2.2.2.2.1, rfl⟩
theorem dX12_lawLine_75 : Dc mX12_lawLine 75 (.getfield 250) 3 78 := ⟨k_dX12_lawLine_66.2.2.2.2.2, rfl⟩
theorem k_dX12_lawLine_78 : decode (mX12_lawLine).2.1 78 = .ok ((.iconst 1), 1) ∧ decode (mX12_lawLine).2.1 79 = .ok ((.bipush 16), 2) ∧ decode (mX12_lawLine).2.1 81 = .ok ((.iload_n 1), 1) ∧ decode (mX12_lawLine).2.1 82 = .ok ((.iadd), 1) ∧ decode (mX12_lawLine).2.1 83 = .ok ((.ishl), 1) ∧ decode (mX12_lawLine).2.1 84 = .ok ((.ior), 1) := by decide +kernel
theorem dX12_lawLine_78 : Dc mX12_lawLine 78 (.iconst 1) 1 79 := ⟨k_dX12_lawLine_78.1, rfl⟩
theorem dX12_lawLine_79 : Dc mX12_lawLine 79 (.bipush 16) 2 81 := ⟨k_dX12_lawLine_78.2.1, rfl⟩
theorem dX12_lawLine_81 : Dc mX12_lawLine 81 (.iload_n 1) 1 82 := ⟨k_dX12_lawLine_78.2.2.1, rfl⟩
theorem dX12_lawLine_82 : Dc mX12_lawLine 82 (.iadd) 1 83 := ⟨k_dX12_lawLine_78.2.2.2.1, rfl⟩
theorem dX12_lawLine_83 : Dc mX12_lawLine 83 (.ishl) 1 84 := ⟨k_dX12_lawLine_78.2.2.2.2.1, rfl⟩
theorem dX12_lawLine_84 : Dc mX12_lawLine 84 (.ior) 1 85 := ⟨k_dX12_lawLine_78.2.2.2.2.2, rfl⟩
theorem k_dX12_lawLine_85 : decode (mX12_lawLine).2.1 85 = .ok ((.putfield 250), 3) ∧ decode (mX12_lawLine).2.1 88 = .ok ((.aload_n 0), 1) ∧ decode (mX12_lawLine).2.1 89 = .ok ((.invokevirtual 229), 3) ∧ decode (mX12_lawLine).2.1 92 = .ok ((.aload_n 0), 1) ∧ decode (mX12_lawLine).2.1 93 = .ok ((.getfield 61), 3) ∧ decode (mX12_lawLine).2.1 96 = .ok ((.iconst 3), 1) := by decide +kernel
theorem dX12_lawLine_85 : Dc mX12_lawLine 85 (.putfield 250) 3 88 := ⟨k_dX12_lawLine_85.1, rfl⟩
theorem dX12_lawLine_88 : Dc mX12_lawLine 88 (.aload_n 0) 1 89 := ⟨k_dX12_lawLine_85.2.1, rfl⟩
theorem dX12_lawLine_89 : Dc mX12_lawLine 89 (.invokevirtual 229) 3 92 := ⟨k_dX12_lawLine_85.2.2.1, rfl⟩
theorem dX12_lawLine_92 : Dc mX12_lawLine 92 (.aload_n 0) 1 93 := ⟨k_dX12_lawLine_85.2.2.2.1, rfl⟩
theorem dX12_lawLine_93 : Dc mX12_lawLine 93 (.getfield 61) 3 96 := ⟨k_dX12_lawLine_85.2.2.2.2.1, rfl⟩
theorem dX12_lawLine_96 : Dc mX12_lawLine 96 (.iconst 3) 1 97 := ⟨k_dX12_lawLine_85.2.2.2.2.2, rfl⟩
theorem k_dX12_lawLine_97 : decode (mX12_lawLine).2.1 97 = .ok ((.iload_n 1), 1) ∧ decode (mX12_lawLine).2.1 98 = .ok ((.iadd), 1) ∧ decode (mX12_lawLine).2.1 99 = .ok ((.aload_n 0), 1) ∧ decode (mX12_lawLine).2.1 100 = .ok ((.bipush 9), 2) ∧ decode (mX12_lawLine).2.1 102 = .ok ((.invokevirtual 239), 3) ∧ decode (mX12_lawLine).2.1 105 = .ok ((.iastore), 1) := by decide +kernel
theorem dX12_lawLine_97 : Dc mX12_lawLine 97 (.iload_n 1) 1 98 := ⟨k_dX12_lawLine_97.1, rfl⟩
theorem dX12_lawLine_98 : Dc mX12_lawLine 98 (.iadd) 1 99 := ⟨k_dX12_lawLine_97.2.1, rfl⟩
theorem dX12_lawLine_99 : Dc mX12_lawLine 99 (.aload_n 0) 1 100 := ⟨k_dX12_lawLine_97.2.2.1, rfl⟩
theorem dX12_lawLine_100 : Dc mX12_lawLine 100 (.bipush 9) 2 102 := ⟨k_dX12_lawLine_97.2.2.2.1, rfl⟩
theorem dX12_lawLine_102 : Dc mX12_lawLine 102 (.invokevirtual 239) 3 105 := ⟨k_dX12_lawLine_97.2.2.2.2.1, rfl⟩
theorem dX12_lawLine_105 : Dc mX12_lawLine 105 (.iastore) 1 106 := ⟨k_dX12_lawLine_97.2.2.2.2.2, rfl⟩
theorem k_dX12_lawLine_106 : decode (mX12_lawLine).2.1 106 = .ok ((.aload_n 0), 1) ∧ decode (mX12_lawLine).2.1 107 = .ok ((.invokevirtual 285), 3) ∧ decode (mX12_lawLine).2.1 110 = .ok ((.aload_n 0), 1) ∧ decode (mX12_lawLine).2.1 111 = .ok ((.getfield 64), 3) ∧ decode (mX12_lawLine).2.1 114 = .ok ((.iconst 3), 1) ∧ decode (mX12_lawLine).2.1 115 = .ok ((.iload_n 1), 1) := by decide +kernel
theorem dX12_lawLine_106 : Dc mX12_lawLine 106 (.aload_n 0) 1 107 := ⟨k_dX12_lawLine_106.1, rfl⟩
theorem dX12_lawLine_107 : Dc mX12_lawLine 107 (.invokevirtual 285) 3 110 := ⟨k_dX12_lawLine_106.2.1, rfl⟩
theorem dX12_lawLine_110 : Dc mX12_lawLine 110 (.aload_n 0) 1 111 := ⟨k_dX12_lawLine_106.2.2.1, rfl⟩
theorem dX12_lawLine_111 : Dc mX12_lawLine 111 (.getfield 64) 3 114 := ⟨k_dX12_lawLine_106.2.2.2.1, rfl⟩
theorem dX12_lawLine_114 : Dc mX12_lawLine 114 (.iconst 3) 1 115 := ⟨k_dX12_lawLine_106.2.2.2.2.1, rfl⟩
theorem dX12_lawLine_115 : Dc mX12_lawLine 115 (.iload_n 1) 1 116 := ⟨k_dX12_lawLine_106.2.2.2.2.2, rfl⟩
theorem k_dX12_lawLine_116 : decode (mX12_lawLine).2.1 116 = .ok ((.iadd), 1) ∧ decode (mX12_lawLine).2.1 117 = .ok ((.aload_n 0), 1) ∧ decode (mX12_lawLine).2.1 118 = .ok ((.bipush 9), 2) ∧ decode (mX12_lawLine).2.1 120 = .ok ((.invokevirtual 239), 3) ∧ decode (mX12_lawLine).2.1 123 = .ok ((.iastore), 1) ∧ decode (mX12_lawLine).2.1 124 = .ok ((.return_), 1) := by decide +kernel
theorem dX12_lawLine_116 : Dc mX12_lawLine 116 (.iadd) 1 117 := ⟨k_dX12_lawLine_116.1, rfl⟩
theorem dX12_lawLine_117 : Dc mX12_lawLine 117 (.aload_n 0) 1 118 := ⟨k_dX12_lawLine_116.2.1, rfl⟩
theorem dX12_lawLine_118 : Dc mX12_lawLine 118 (.bipush 9) 2 120 := ⟨k_dX12_lawLine_116.2.2.1, rfl⟩
theorem dX12_lawLine_120 : Dc mX12_lawLine 120 (.invokevirtual 239) 3 123 := ⟨k_dX12_lawLine_116.2.2.2.1, rfl⟩
theorem dX12_lawLine_123 : Dc mX12_lawLine 123 (.iastore) 1 124 := ⟨k_dX12_lawLine_116.2.2.2.2.1, rfl⟩
theorem dX12_lawLine_124 : Dc mX12_lawLine 124 (.return_) 1 125 := ⟨k_dX12_lawLine_116.2.2.2.2.2, rfl⟩
theorem k_dX12_puts_0 : decode (mX12_puts).2.1 0 = .ok ((.aload_n 0), 1) ∧ decode (mX12_puts).2.1 1 = .ok ((.getfield 223), 3) ∧ decode (mX12_puts).2.1 4 = .ok ((.ifCond .eq 4), 3) ∧ decode (mX12_puts).2.1 7 = .ok ((.return_), 1) ∧ decode (mX12_puts).2.1 8 = .ok ((.aload_n 0), 1) ∧ decode (mX12_puts).2.1 9 = .ok ((.getfield 67), 3) := by decide +kernel
theorem dX12_puts_0 : Dc mX12_puts 0 (.aload_n 0) 1 1 := ⟨k_dX12_puts_0.1, rfl⟩
theorem dX12_puts_1 : Dc mX12_puts 1 (.getfield 223) 3 4 := ⟨k_dX12_puts_0.2.1, rfl⟩
theorem dX12_puts_4 : Dc mX12_puts 4 (.ifCond .eq 4) 3 7 := ⟨k_dX12_puts_0.2.2.1, rfl⟩
theorem dX12_puts_7 : Dc mX12_puts 7 (.return_) 1 8 := ⟨k_dX12_puts_0.2.2.2.1, rfl⟩
theorem dX12_puts_8 : Dc mX12_puts 8 (.aload_n 0) 1 9 := ⟨k_dX12_puts_0.2.2.2.2.1, rfl⟩
theorem dX12_puts_9 : Dc mX12_puts 9 (.getfield 67) 3 12 := ⟨k_dX12_puts_0.2.2.2.2.2, rfl⟩
theorem k_dX12_puts_12 : decode (mX12_puts).2.1 12 = .ok ((.bipush 64), 2) ∧ decode (mX12_puts).2.1 14 = .ok ((.aload_n 0), 1) ∧ decode (mX12_puts).2.1 15 = .ok ((.bipush 9), 2) ∧ decode (mX12_puts).2.1 17 = .ok ((.invokevirtual 239), 3) ∧ decode (mX12_puts).2.1 20 = .ok ((.iadd), 1) ∧ decode (mX12_puts).2.1 21 = .ok ((.iload_n 1), 1) := by decide +kernel
theorem dX12_puts_12 : Dc mX12_puts 12 (.bipush 64) 2 14 := ⟨k_dX12_puts_12.1, rfl⟩
theorem dX12_puts_14 : Dc mX12_puts 14 (.aload_n 0) 1 15 := ⟨k_dX12_puts_12.2.1, rfl⟩
theorem dX12_puts_15 : Dc mX12_puts 15 (.bipush 9) 2 17 := ⟨k_dX12_puts_12.2.2.1, rfl⟩
theorem dX12_puts_17 : Dc mX12_puts 17 (.invokevirtual 239) 3 20 := ⟨k_dX12_puts_12.2.2.2.1, rfl⟩
theorem dX12_puts_20 : Dc mX12_puts 20 (.iadd) 1 21 := ⟨k_dX12_puts_12.2.2.2.2.1, rfl⟩
theorem dX12_puts_21 : Dc mX12_puts 21 (.iload_n 1) 1 22 := ⟨k_dX12_puts_12.2.2.2.2.2, rfl⟩
theorem k_dX12_puts_22 : decode (mX12_puts).2.1 22 = .ok ((.iastore), 1) ∧ decode (mX12_puts).2.1 23 = .ok ((.aload_n 0), 1) ∧ decode (mX12_puts).2.1 24 = .ok ((.getfield 70), 3) ∧ decode (mX12_puts).2.1 27 = .ok ((.bipush 64), 2) ∧ decode (mX12_puts).2.1 29 = .ok ((.aload_n 0), 1) ∧ decode (mX12_puts).2.1 30 = .ok ((.bipush 9), 2) := by decide +kernel
theorem dX12_puts_22 : Dc mX12_puts 22 (.iastore) 1 23 := ⟨k_dX12_puts_22.1, rfl⟩
theorem dX12_puts_23 : Dc mX12_puts 23 (.aload_n 0) 1 24 := ⟨k_dX12_puts_22.2.1, rfl⟩
theorem dX12_puts_24 : Dc mX12_puts 24 (.getfield 70) 3 27 := ⟨k_dX12_puts_22.2.2.1, rfl⟩
theorem dX12_puts_27 : Dc mX12_puts 27 (.bipush 64) 2 29 := ⟨k_dX12_puts_22.2.2.2.1, rfl⟩
theorem dX12_puts_29 : Dc mX12_puts 29 (.aload_n 0) 1 30 := ⟨k_dX12_puts_22.2.2.2.2.1, rfl⟩
theorem dX12_puts_30 : Dc mX12_puts 30 (.bipush 9) 2 32 := ⟨k_dX12_puts_22.2.2.2.2.2, rfl⟩
theorem k_dX12_puts_32 : decode (mX12_puts).2.1 32 = .ok ((.invokevirtual 239), 3) ∧ decode (mX12_puts).2.1 35 = .ok ((.iadd), 1) ∧ decode (mX12_puts).2.1 36 = .ok ((.iload_n 2), 1) ∧ decode (mX12_puts).2.1 37 = .ok ((.iastore), 1) ∧ decode (mX12_puts).2.1 38 = .ok ((.aload_n 0), 1) ∧ decode (mX12_puts).2.1 39 = .ok ((.bipush 9), 2) := by decide +kernel
theorem dX12_puts_32 : Dc mX12_puts 32 (.invokevirtual 239) 3 35 := ⟨k_dX12_puts_32.1, rfl⟩
theorem dX12_puts_35 : Dc mX12_puts 35 (.iadd) 1 36 := ⟨k_dX12_puts_32.2.1, rfl⟩
theorem dX12_puts_36 : Dc mX12_puts 36 (.iload_n 2) 1 37 := ⟨k_dX12_puts_32.2.2.1, rfl⟩
theorem dX12_puts_37 : Dc mX12_puts 37 (.iastore) 1 38 := ⟨k_dX12_puts_32.2.2.2.1, rfl⟩
theorem dX12_puts_38 : Dc mX12_puts 38 (.aload_n 0) 1 39 := ⟨k_dX12_puts_32.2.2.2.2.1, rfl⟩
theorem dX12_puts_39 : Dc mX12_puts 39 (.bipush 9) 2 41 := ⟨k_dX12_puts_32.2.2.2.2.2, rfl⟩
theorem k_dX12_puts_41 : decode (mX12_puts).2.1 41 = .ok ((.aload_n 0), 1) ∧ decode (mX12_puts).2.1 42 = .ok ((.bipush 9), 2) ∧ decode (mX12_puts).2.1 44 = .ok ((.invokevirtual 239), 3) ∧ decode (mX12_puts).2.1 47 = .ok ((.iconst 1), 1) ∧ decode (mX12_puts).2.1 48 = .ok ((.iadd), 1) ∧ decode (mX12_puts).2.1 49 = .ok ((.invokevirtual 260), 3) := by decide +kernel
theorem dX12_puts_41 : Dc mX12_puts 41 (.aload_n 0) 1 42 := ⟨k_dX12_puts_41.1, rfl⟩
theorem dX12_puts_42 : Dc mX12_puts 42 (.bipush 9) 2 44 := ⟨k_dX12_puts_41.2.1, rfl⟩
theorem dX12_puts_44 : Dc mX12_puts 44 (.invokevirtual 239) 3 47 := ⟨k_dX12_puts_41.2.2.1, rfl⟩
theorem dX12_puts_47 : Dc mX12_puts 47 (.iconst 1) 1 48 := ⟨k_dX12_puts_41.2.2.2.1, rfl⟩
theorem dX12_puts_48 : Dc mX12_puts 48 (.iadd) 1 49 := ⟨k_dX12_puts_41.2.2.2.2.1, rfl⟩
theorem dX12_puts_49 : Dc mX12_puts 49 (.invokevirtual 260) 3 52 := ⟨k_dX12_puts_41.2.2.2.2.2, rfl⟩
theorem dX12_puts_52 : Dc mX12_puts 52 (.return_) 1 53 := ⟨by decide +kernel, rfl⟩
theorem k_dX12_knot_0 : decode (mX12_knot).2.1 0 = .ok ((.aload_n 0), 1) ∧ decode (mX12_knot).2.1 1 = .ok ((.getfield 223), 3) ∧ decode (mX12_knot).2.1 4 = .ok ((.ifCond .eq 4), 3) ∧ decode (mX12_knot).2.1 7 = .ok ((.return_), 1) ∧ decode (mX12_knot).2.1 8 = .ok ((.aload_n 0), 1) ∧ decode (mX12_knot).2.1 9 = .ok ((.getfield 288), 3) := by decide +kernel
theorem dX12_knot_0 : Dc mX12_knot 0 (.aload_n 0) 1 1 := ⟨k_dX12_knot_0.1, rfl⟩
theorem dX12_knot_1 : Dc mX12_knot 1 (.getfield 223) 3 4 := ⟨k_dX12_knot_0.2.1, rfl⟩
theorem dX12_knot_4 : Dc mX12_knot 4 (.ifCond .eq 4) 3 7 := ⟨k_dX12_knot_0.2.2.1, rfl⟩
theorem dX12_knot_7 : Dc mX12_knot 7 (.return_) 1 8 := ⟨k_dX12_knot_0.2.2.2.1, rfl⟩
theorem dX12_knot_8 : Dc mX12_knot 8 (.aload_n 0) 1 9 := ⟨k_dX12_knot_0.2.2.2.2.1, rfl⟩
theorem dX12_knot_9 : Dc mX12_knot 9 (.getfield 288) 3 12 := ⟨k_dX12_knot_0.2.2.2.2.2, rfl⟩
theorem k_dX12_knot_12 : decode (mX12_knot).2.1 12 = .ok ((.bipush 64), 2) ∧ decode (mX12_knot).2.1 14 = .ok ((.if_icmp .ne 11), 3) ∧ decode (mX12_knot).2.1 17 = .ok ((.aload_n 0), 1) ∧ decode (mX12_knot).2.1 18 = .ok ((.iconst 2), 1) ∧ decode (mX12_knot).2.1 19 = .ok ((.invokevirtual 232), 3) ∧ decode (mX12_knot).2.1 22 = .ok ((.goto 13), 3) := by decide +kernel
theorem dX12_knot_12 : Dc mX12_knot 12 (.bipush 64) 2 14 := ⟨k_dX12_knot_12.1, rfl⟩
theorem dX12_knot_14 : Dc mX12_knot 14 (.if_icmp .ne 11) 3 17 := ⟨k_dX12_knot_12.2.1, rfl⟩
theorem dX12_knot_17 : Dc mX12_knot 17 (.aload_n 0) 1 18 := ⟨k_dX12_knot_12.2.2.1, rfl⟩
theorem dX12_knot_18 : Dc mX12_knot 18 (.iconst 2) 1 19 := ⟨k_dX12_knot_12.2.2.2.1, rfl⟩
theorem dX12_knot_19 : Dc mX12_knot 19 (.invokevirtual 232) 3 22 := ⟨k_dX12_knot_12.2.2.2.2.1, rfl⟩
theorem dX12_knot_22 : Dc mX12_knot 22 (.goto 13) 3 25 := ⟨k_dX12_knot_12.2.2.2.2.2, rfl⟩
theorem k_dX12_knot_25 : decode (mX12_knot).2.1 25 = .ok ((.aload_n 0), 1) ∧ decode (mX12_knot).2.1 26 = .ok ((.dup), 1) ∧ decode (mX12_knot).2.1 27 = .ok ((.getfield 288), 3) ∧ decode (mX12_knot).2.1 30 = .ok ((.iconst 1), 1) ∧ decode (mX12_knot).2.1 31 = .ok ((.iadd), 1) ∧ decode (mX12_knot).2.1 32 = .ok ((.putfield 288), 3) := by decide +kernel
theorem dX12_knot_25 : Dc mX12_knot 25 (.aload_n 0) 1 26 := ⟨k_dX12_knot_25.1, rfl⟩
theorem dX12_knot_26 : Dc mX12_knot 26 (.dup) 1 27 := ⟨k_dX12_knot_25.2.1, rfl⟩
theorem dX12_knot_27 : Dc mX12_knot 27 (.getfield 288) 3 30 := ⟨k_dX12_knot_25.2.2.1, rfl⟩
theorem dX12_knot_30 : Dc mX12_knot 30 (.iconst 1) 1 31 := ⟨k_dX12_knot_25.2.2.2.1, rfl⟩
theorem dX12_knot_31 : Dc mX12_knot 31 (.iadd) 1 32 := ⟨k_dX12_knot_25.2.2.2.2.1, rfl⟩
theorem dX12_knot_32 : Dc mX12_knot 32 (.putfield 288) 3 35 := ⟨k_dX12_knot_25.2.2.2.2.2, rfl⟩
theorem dX12_knot_35 : Dc mX12_knot 35 (.return_) 1 36 := ⟨by decide +kernel, rfl⟩
theorem k_dX12_expression_0 : decode (mX12_expression).2.1 0 = .ok ((.aload_n 0), 1) ∧ decode (mX12_expression).2.1 1 = .ok ((.invokevirtual 291), 3) ∧ decode (mX12_expression).2.1 4 = .ok ((.aload_n 0), 1) ∧ decode (mX12_expression).2.1 5 = .ok ((.bipush 13), 2) ∧ decode (mX12_expression).2.1 7 = .ok ((.invokevirtual 294), 3) ∧ decode (mX12_expression).2.1 10 = .ok ((.ifCond .eq 26), 3) := by decide +kernel
theorem dX12_expression_0 : Dc mX12_expression 0 (.aload_n 0) 1 1 := ⟨k_dX12_expression_0.1, rfl⟩
theorem dX12_expression_1 : Dc mX12_expression 1 (.invokevirtual 291) 3 4 := ⟨k_dX12_expression_0.2.1, rfl⟩
theorem dX12_expression_4 : Dc mX12_expression 4 (.aload_n 0) 1 5 := ⟨k_dX12_expression_0.2.2.1, rfl⟩
theorem dX12_expression_5 : Dc mX12_expression 5 (.bipush 13) 2 7 := ⟨k_dX12_expression_0.2.2.2.1, rfl⟩
theorem dX12_expression_7 : Dc mX12_expression 7 (.invokevirtual 294) 3 10 := ⟨k_dX12_expression_0.2.2.2.2.1, rfl⟩
theorem dX12_expression_10 : Dc mX12_expression 10 (.ifCond .eq 26) 3 13 := ⟨k_dX12_expression_0.2.2.2.2.2, rfl⟩
theorem k_dX12_expression_13 : decode (mX12_expression).2.1 13 = .ok ((.aload_n 0), 1) ∧ decode (mX12_expression).2.1 14 = .ok ((.invokevirtual 297), 3) ∧ decode (mX12_expression).2.1 17 = .ok ((.aload_n 0), 1) ∧ decode (mX12_expression).2.1 18 = .ok ((.invokevirtual 279), 3) ∧ decode (mX12_expression).2.1 21 = .ok ((.aload_n 0), 1) ∧ decode (mX12_expression).2.1 22 = .ok ((.invokevirtual 291), 3) := by decide +kernel
theorem dX12_expression_13 : Dc mX12_expression 13 (.aload_n 0) 1 14 := ⟨k_dX12_expression_13.1, rfl⟩
theorem dX12_expression_14 : Dc mX12_expression 14 (.invokevirtual 297) 3 17 := ⟨k_dX12_expression_13.2.1, rfl⟩
theorem dX12_expression_17 : Dc mX12_expression 17 (.aload_n 0) 1 18 := ⟨k_dX12_expression_13.2.2.1, rfl⟩
theorem dX12_expression_18 : Dc mX12_expression 18 (.invokevirtual 279) 3 21 := ⟨k_dX12_expression_13.2.2.2.1, rfl⟩
theorem dX12_expression_21 : Dc mX12_expression 21 (.aload_n 0) 1 22 := ⟨k_dX12_expression_13.2.2.2.2.1, rfl⟩
theorem dX12_expression_22 : Dc mX12_expression 22 (.invokevirtual 291) 3 25 := ⟨k_dX12_expression_13.2.2.2.2.2, rfl⟩
theorem k_dX12_expression_25 : decode (mX12_expression).2.1 25 = .ok ((.aload_n 0), 1) ∧ decode (mX12_expression).2.1 26 = .ok ((.iconst 2), 1) ∧ decode (mX12_expression).2.1 27 = .ok ((.sipush 262), 3) ∧ decode (mX12_expression).2.1 30 = .ok ((.invokevirtual 300), 3) ∧ decode (mX12_expression).2.1 33 = .ok ((.goto (-29)), 3) ∧ decode (mX12_expression).2.1 36 = .ok ((.return_), 1) := by decide +kernel
theorem dX12_expression_25 : Dc mX12_expression 25 (.aload_n 0) 1 26 := ⟨k_dX12_expression_25.1, rfl⟩
theorem dX12_expression_26 : Dc mX12_expression 26 (.iconst 2) 1 27 := ⟨k_dX12_expression_25.2.1, rfl⟩
theorem dX12_expression_27 : Dc mX12_expression 27 (.sipush 262) 3 30 := ⟨k_dX12_expression_25.2.2.1, rfl⟩
theorem dX12_expression_30 : Dc mX12_expression 30 (.invokevirtual 300) 3 33 := ⟨k_dX12_expression_25.2.2.2.1, rfl⟩
theorem dX12_expression_33 : Dc mX12_expression 33 (.goto (-29)) 3 36 := ⟨k_dX12_expression_25.2.2.2.2.1, rfl⟩
theorem dX12_expression_36 : Dc mX12_expression 36 (.return_) 1 37 := ⟨k_dX12_expression_25.2.2.2.2.2, rfl⟩
theorem k_dX12_conjunction_0 : decode (mX12_conjunction).2.1 0 = .ok ((.aload_n 0), 1) ∧ decode (mX12_conjunction).2.1 1 = .ok ((.invokevirtual 303), 3) ∧ decode (mX12_conjunction).2.1 4 = .ok ((.aload_n 0), 1) ∧ decode (mX12_conjunction).2.1 5 = .ok ((.bipush 14), 2) ∧ decode (mX12_conjunction).2.1 7 = .ok ((.invokevirtual 294), 3) ∧ decode (mX12_conjunction).2.1 10 = .ok ((.ifCond .eq 26), 3) := by decide +kernel
theorem dX12_conjunction_0 : Dc mX12_conjunction 0 (.aload_n 0) 1 1 := ⟨k_dX12_conjunction_0.1, rfl⟩
theorem dX12_conjunction_1 : Dc mX12_conjunction 1 (.invokevirtual 303) 3 4 := ⟨k_dX12_conjunction_0.2.1, rfl⟩
theorem dX12_conjunction_4 : Dc mX12_conjunction 4 (.aload_n 0) 1 5 := ⟨k_dX12_conjunction_0.2.2.1, rfl⟩
theorem dX12_conjunction_5 : Dc mX12_conjunction 5 (.bipush 14) 2 7 := ⟨k_dX12_conjunction_0.2.2.2.1, rfl⟩
theorem dX12_conjunction_7 : Dc mX12_conjunction 7 (.invokevirtual 294) 3 10 := ⟨k_dX12_conjunction_0.2.2.2.2.1, rfl⟩
theorem dX12_conjunction_10 : Dc mX12_conjunction 10 (.ifCond .eq 26) 3 13 := ⟨k_dX12_conjunction_0.2.2.2.2.2, rfl⟩
theorem k_dX12_conjunction_13 : decode (mX12_conjunction).2.1 13 = .ok ((.aload_n 0), 1) ∧ decode (mX12_conjunction).2.1 14 = .ok ((.invokevirtual 297), 3) ∧ decode (mX12_conjunction).2.1 17 = .ok ((.aload_n 0), 1) ∧ decode (mX12_conjunction).2.1 18 = .ok ((.invokevirtual 279), 3) ∧ decode (mX12_conjunction).2.1 21 = .ok ((.aload_n 0), 1) ∧ decode (mX12_conjunction).2.1 22 = .ok ((.invokevirtual 303), 3) := by decide +kernel
theorem dX12_conjunction_13 : Dc mX12_conjunction 13 (.aload_n 0) 1 14 := ⟨k_dX12_conjunction_13.1, rfl⟩
theorem dX12_conjunction_14 : Dc mX12_conjunction 14 (.invokevirtual 297) 3 17 := ⟨k_dX12_conjunction_13.2.1, rfl⟩
theorem dX12_conjunction_17 : Dc mX12_conjunction 17 (.aload_n 0) 1 18 := ⟨k_dX12_conjunction_13.2.2.1, rfl⟩
theorem dX12_conjunction_18 : Dc mX12_conjunction 18 (.invokevirtual 279) 3 21 := ⟨k_dX12_conjunction_13.2.2.2.1, rfl⟩
theorem dX12_conjunction_21 : Dc mX12_conjunction 21 (.aload_n 0) 1 22 := ⟨k_dX12_conjunction_13.2.2.2.2.1, rfl⟩
theorem dX12_conjunction_22 : Dc mX12_conjunction 22 (.invokevirtual 303) 3 25 := ⟨k_dX12_conjunction_13.2.2.2.2.2, rfl⟩
theorem k_dX12_conjunction_25 : decode (mX12_conjunction).2.1 25 = .ok ((.aload_n 0), 1) ∧ decode (mX12_conjunction).2.1 26 = .ok ((.iconst 2), 1) ∧ decode (mX12_conjunction).2.1 27 = .ok ((.sipush 261), 3) ∧ decode (mX12_conjunction).2.1 30 = .ok ((.invokevirtual 300), 3) ∧ decode (mX12_conjunction).2.1 33 = .ok ((.goto (-29)), 3) ∧ decode (mX12_conjunction).2.1 36 = .ok ((.return_), 1) := by decide +kernel
theorem dX12_conjunction_25 : Dc mX12_conjunction 25 (.aload_n 0) 1 26 := ⟨k_dX12_conjunction_25.1, rfl⟩
theorem dX12_conjunction_26 : Dc mX12_conjunction 26 (.iconst 2) 1 27 := ⟨k_dX12_conjunction_25.2.1, rfl⟩
theorem dX12_conjunction_27 : Dc mX12_conjunction 27 (.sipush 261) 3 30 := ⟨k_dX12_conjunction_25.2.2.1, rfl⟩
theorem dX12_conjunction_30 : Dc mX12_conjunction 30 (.invokevirtual 300) 3 33 := ⟨k_dX12_conjunction_25.2.2.2.1, rfl⟩
theorem dX12_conjunction_33 : Dc mX12_conjunction 33 (.goto (-29)) 3 36 := ⟨k_dX12_conjunction_25.2.2.2.2.1, rfl⟩
theorem dX12_conjunction_36 : Dc mX12_conjunction 36 (.return_) 1 37 := ⟨k_dX12_conjunction_25.2.2.2.2.2, rfl⟩
theorem k_dX12_negation_0 : decode (mX12_negation).2.1 0 = .ok ((.aload_n 0), 1) ∧ decode (mX12_negation).2.1 1 = .ok ((.bipush 15), 2) ∧ decode (mX12_negation).2.1 3 = .ok ((.invokevirtual 294), 3) ∧ decode (mX12_negation).2.1 6 = .ok ((.ifCond .eq 24), 3) ∧ decode (mX12_negation).2.1 9 = .ok ((.aload_n 0), 1) ∧ decode (mX12_negation).2.1 10 = .ok ((.invokevirtual 297), 3) := by decide +kernel
theorem dX12_negation_0 : Dc mX12_negation 0 (.aload_n 0) 1 1 := ⟨k_dX12_negation_0.1, rfl⟩
theorem dX12_negation_1 : Dc mX12_negation 1 (.bipush 15) 2 3 := ⟨k_dX12_negation_0.2.1, rfl⟩
theorem dX12_negation_3 : Dc mX12_negation 3 (.invokevirtual 294) 3 6 := ⟨k_dX12_negation_0.2.2.1, rfl⟩
theorem dX12_negation_6 : Dc mX12_negation 6 (.ifCond .eq 24) 3 9 := ⟨k_dX12_negation_0.2.2.2.1, rfl⟩
theorem dX12_negation_9 : Dc mX12_negation 9 (.aload_n 0) 1 10 := ⟨k_dX12_negation_0.2.2.2.2.1, rfl⟩
theorem dX12_negation_10 : Dc mX12_negation 10 (.invokevirtual 297) 3 13 := ⟨k_dX12_negation_0.2.2.2.2.2, rfl⟩
theorem k_dX12_negation_13 : decode (mX12_negation).2.1 13 = .ok ((.aload_n 0), 1) ∧ decode (mX12_negation).2.1 14 = .ok ((.invokevirtual 279), 3) ∧ decode (mX12_negation).2.1 17 = .ok ((.aload_n 0), 1) ∧ decode (mX12_negation).2.1 18 = .ok ((.invokevirtual 303), 3) ∧ decode (mX12_negation).2.1 21 = .ok ((.aload_n 0), 1) ∧ decode (mX12_negation).2.1 22 = .ok ((.iconst 2), 1) := by decide +kernel
theorem dX12_negation_13 : Dc mX12_negation 13 (.aload_n 0) 1 14 := ⟨k_dX12_negation_13.1, rfl⟩
theorem dX12_negation_14 : Dc mX12_negation 14 (.invokevirtual 279) 3 17 := ⟨k_dX12_negation_13.2.1, rfl⟩
theorem dX12_negation_17 : Dc mX12_negation 17 (.aload_n 0) 1 18 := ⟨k_dX12_negation_13.2.2.1, rfl⟩
theorem dX12_negation_18 : Dc mX12_negation 18 (.invokevirtual 303) 3 21 := ⟨k_dX12_negation_13.2.2.2.1, rfl⟩
theorem dX12_negation_21 : Dc mX12_negation 21 (.aload_n 0) 1 22 := ⟨k_dX12_negation_13.2.2.2.2.1, rfl⟩
theorem dX12_negation_22 : Dc mX12_negation 22 (.iconst 2) 1 23 := ⟨k_dX12_negation_13.2.2.2.2.2, rfl⟩
theorem k_dX12_negation_23 : decode (mX12_negation).2.1 23 = .ok ((.sipush 260), 3) ∧ decode (mX12_negation).2.1 26 = .ok ((.invokevirtual 300), 3) ∧ decode (mX12_negation).2.1 29 = .ok ((.return_), 1) ∧ decode (mX12_negation).2.1 30 = .ok ((.aload_n 0), 1) ∧ decode (mX12_negation).2.1 31 = .ok ((.invokevirtual 306), 3) ∧ decode (mX12_negation).2.1 34 = .ok ((.aload_n 0), 1) := by decide +kernel
theorem dX12_negation_23 : Dc mX12_negation 23 (.sipush 260) 3 26 := ⟨k_dX12_negation_23.1, rfl⟩
theorem dX12_negation_26 : Dc mX12_negation 26 (.invokevirtual 300) 3 29 := ⟨k_dX12_negation_23.2.1, rfl⟩
theorem dX12_negation_29 : Dc mX12_negation 29 (.return_) 1 30 := ⟨k_dX12_negation_23.2.2.1, rfl⟩
theorem dX12_negation_30 : Dc mX12_negation 30 (.aload_n 0) 1 31 := ⟨k_dX12_negation_23.2.2.2.1, rfl⟩
theorem dX12_negation_31 : Dc mX12_negation 31 (.invokevirtual 306) 3 34 := ⟨k_dX12_negation_23.2.2.2.2.1, rfl⟩
theorem dX12_negation_34 : Dc mX12_negation 34 (.aload_n 0) 1 35 := ⟨k_dX12_negation_23.2.2.2.2.2, rfl⟩
theorem k_dX12_negation_35 : decode (mX12_negation).2.1 35 = .ok ((.getfield 223), 3) ∧ decode (mX12_negation).2.1 38 = .ok ((.ifCond .ne 48), 3) ∧ decode (mX12_negation).2.1 41 = .ok ((.aload_n 0), 1) ∧ decode (mX12_negation).2.1 42 = .ok ((.getfield 188), 3) ∧ decode (mX12_negation).2.1 45 = .ok ((.iconst 3), 1) ∧ decode (mX12_negation).2.1 46 = .ok ((.if_icmp .ne 40), 3) := by decide +kernel
theorem dX12_negation_35 : Dc mX12_negation 35 (.getfield 223) 3 38 := ⟨k_dX12_negation_35.1, rfl⟩
theorem dX12_negation_38 : Dc mX12_negation 38 (.ifCond .ne 48) 3 41 := ⟨k_dX12_negation_35.2.1, rfl⟩
theorem dX12_negation_41 : Dc mX12_negation 41 (.aload_n 0) 1 42 := ⟨k_dX12_negation_35.2.2.1, rfl⟩
theorem dX12_negation_42 : Dc mX12_negation 42 (.getfield 188) 3 45 := ⟨k_dX12_negation_35.2.2.2.1, rfl⟩
theorem dX12_negation_45 : Dc mX12_negation 45 (.iconst 3) 1 46 := ⟨k_dX12_negation_35.2.2.2.2.1, rfl⟩
theorem dX12_negation_46 : Dc mX12_negation 46 (.if_icmp .ne 40) 3 49 := ⟨k_dX12_negation_35.2.2.2.2.2, rfl⟩
theorem k_dX12_negation_49 : decode (mX12_negation).2.1 49 = .ok ((.aload_n 0), 1) ∧ decode (mX12_negation).2.1 50 = .ok ((.getfield 198), 3) ∧ decode (mX12_negation).2.1 53 = .ok ((.bipush 60), 2) ∧ decode (mX12_negation).2.1 55 = .ok ((.if_icmp .eq 32), 3) ∧ decode (mX12_negation).2.1 58 = .ok ((.aload_n 0), 1) ∧ decode (mX12_negation).2.1 59 = .ok ((.getfield 198), 3) := by decide +kernel
theorem dX12_negation_49 : Dc mX12_negation 49 (.aload_n 0) 1 50 := ⟨k_dX12_negation_49.1, rfl⟩
theorem dX12_negation_50 : Dc mX12_negation 50 (.getfield 198) 3 53 := ⟨k_dX12_negation_49.2.1, rfl⟩
theorem dX12_negation_53 : Dc mX12_negation 53 (.bipush 60) 2 55 := ⟨k_dX12_negation_49.2.2.1, rfl⟩
theorem dX12_negation_55 : Dc mX12_negation 55 (.if_icmp .eq 32) 3 58 := ⟨k_dX12_negation_49.2.2.2.1, rfl⟩
theorem dX12_negation_58 : Dc mX12_negation 58 (.aload_n 0) 1 59 := ⟨k_dX12_negation_49.2.2.2.2.1, rfl⟩
theorem dX12_negation_59 : Dc mX12_negation 59 (.getfield 198) 3 62 := ⟨k_dX12_negation_49.2.2.2.2.2, rfl⟩
theorem k_dX12_negation_62 : decode (mX12_negation).2.1 62 = .ok ((.bipush 62), 2) ∧ decode (mX12_negation).2.1 64 = .ok ((.if_icmp .eq 23), 3) ∧ decode (mX12_negation).2.1 67 = .ok ((.aload_n 0), 1) ∧ decode (mX12_negation).2.1 68 = .ok ((.getfield 198), 3) ∧ decode (mX12_negation).2.1 71 = .ok ((.bipush 61), 2) ∧ decode (mX12_negation).2.1 73 = .ok ((.if_icmp .eq 14), 3) := by decide +kernel
theorem dX12_negation_62 : Dc mX12_negation 62 (.bipush 62) 2 64 := ⟨k_dX12_negation_62.1, rfl⟩
theorem dX12_negation_64 : Dc mX12_negation 64 (.if_icmp .eq 23) 3 67 := ⟨k_dX12_negation_62.2.1, rfl⟩
theorem dX12_negation_67 : Dc mX12_negation 67 (.aload_n 0) 1 68 := ⟨k_dX12_negation_62.2.2.1, rfl⟩
theorem dX12_negation_68 : Dc mX12_negation 68 (.getfield 198) 3 71 := ⟨k_dX12_negation_62.2.2.2.1, rfl⟩
theorem dX12_negation_71 : Dc mX12_negation 71 (.bipush 61) 2 73 := ⟨k_dX12_negation_62.2.2.2.2.1, rfl⟩
theorem dX12_negation_73 : Dc mX12_negation 73 (.if_icmp .eq 14) 3 76 := ⟨k_dX12_negation_62.2.2.2.2.2, rfl⟩
theorem k_dX12_negation_76 : decode (mX12_negation).2.1 76 = .ok ((.aload_n 0), 1) ∧ decode (mX12_negation).2.1 77 = .ok ((.getfield 198), 3) ∧ decode (mX12_negation).2.1 80 = .ok ((.sipush 256), 3) ∧ decode (mX12_negation).2.1 83 = .ok ((.if_icmp .ge 4), 3) ∧ decode (mX12_negation).2.1 86 = .ok ((.return_), 1) ∧ decode (mX12_negation).2.1 87 = .ok ((.aload_n 0), 1) := by decide +kernel
theorem dX12_negation_76 : Dc mX12_negation 76 (.aload_n 0) 1 77 := ⟨k_dX12_negation_76.1, rfl⟩
theorem dX12_negation_77 : Dc mX12_negation 77 (.getfield 198) 3 80 := ⟨k_dX12_negation_76.2.1, rfl⟩
theorem dX12_negation_80 : Dc mX12_negation 80 (.sipush 256) 3 83 := ⟨k_dX12_negation_76.2.2.1, rfl⟩
theorem dX12_negation_83 : Dc mX12_negation 83 (.if_icmp .ge 4) 3 86 := ⟨k_dX12_negation_76.2.2.2.1, rfl⟩
theorem dX12_negation_86 : Dc mX12_negation 86 (.return_) 1 87 := ⟨k_dX12_negation_76.2.2.2.2.1, rfl⟩
theorem dX12_negation_87 : Dc mX12_negation 87 (.aload_n 0) 1 88 := ⟨k_dX12_negation_76.2.2.2.2.2, rfl⟩
theorem k_dX12_negation_88 : decode (mX12_negation).2.1 88 = .ok ((.getfield 198), 3) ∧ decode (mX12_negation).2.1 91 = .ok ((.istore_n 1), 1) ∧ decode (mX12_negation).2.1 92 = .ok ((.aload_n 0), 1) ∧ decode (mX12_negation).2.1 93 = .ok ((.invokevirtual 297), 3) ∧ decode (mX12_negation).2.1 96 = .ok ((.aload_n 0), 1) ∧ decode (mX12_negation).2.1 97 = .ok ((.invokevirtual 279), 3) := by decide +kernel
theorem dX12_negation_88 : Dc mX12_negation 88 (.getfield 198) 3 91 := ⟨k_dX12_negation_88.1, rfl⟩
theorem dX12_negation_91 : Dc mX12_negation 91 (.istore_n 1) 1 92 := ⟨k_dX12_negation_88.2.1, rfl⟩
theorem dX12_negation_92 : Dc mX12_negation 92 (.aload_n 0) 1 93 := ⟨k_dX12_negation_88.2.2.1, rfl⟩
theorem dX12_negation_93 : Dc mX12_negation 93 (.invokevirtual 297) 3 96 := ⟨k_dX12_negation_88.2.2.2.1, rfl⟩
theorem dX12_negation_96 : Dc mX12_negation 96 (.aload_n 0) 1 97 := ⟨k_dX12_negation_88.2.2.2.2.1, rfl⟩
theorem dX12_negation_97 : Dc mX12_negation 97 (.invokevirtual 279) 3 100 := ⟨k_dX12_negation_88.2.2.2.2.2, rfl⟩
theorem k_dX12_negation_100 : decode (mX12_negation).2.1 100 = .ok ((.aload_n 0), 1) ∧ decode (mX12_negation).2.1 101 = .ok ((.invokevirtual 306), 3) ∧ decode (mX12_negation).2.1 104 = .ok ((.aload_n 0), 1) ∧ decode (mX12_negation).2.1 105 = .ok ((.iconst 2), 1) ∧ decode (mX12_negation).2.1 106 = .ok ((.iload_n 1), 1) ∧ decode (mX12_negation).2.1 107 = .ok ((.invokevirtual 300), 3) := by decide +kernel
theorem dX12_negation_100 : Dc mX12_negation 100 (.aload_n 0) 1 101 := ⟨k_dX12_negation_100.1, rfl⟩
theorem dX12_negation_101 : Dc mX12_negation 101 (.invokevirtual 306) 3 104 := ⟨k_dX12_negation_100.2.1, rfl⟩
theorem dX12_negation_104 : Dc mX12_negation 104 (.aload_n 0) 1 105 := ⟨k_dX12_negation_100.2.2.1, rfl⟩
theorem dX12_negation_105 : Dc mX12_negation 105 (.iconst 2) 1 106 := ⟨k_dX12_negation_100.2.2.2.1, rfl⟩
theorem dX12_negation_106 : Dc mX12_negation 106 (.iload_n 1) 1 107 := ⟨k_dX12_negation_100.2.2.2.2.1, rfl⟩
theorem dX12_negation_107 : Dc mX12_negation 107 (.invokevirtual 300) 3 110 := ⟨k_dX12_negation_100.2.2.2.2.2, rfl⟩
theorem dX12_negation_110 : Dc mX12_negation 110 (.return_) 1 111 := ⟨by decide +kernel, rfl⟩
theorem k_dX12_sum_0 : decode (mX12_sum).2.1 0 = .ok ((.aload_n 0), 1) ∧ decode (mX12_sum).2.1 1 = .ok ((.invokevirtual 309), 3) ∧ decode (mX12_sum).2.1 4 = .ok ((.aload_n 0), 1) ∧ decode (mX12_sum).2.1 5 = .ok ((.bipush 43), 2) ∧ decode (mX12_sum).2.1 7 = .ok ((.invokevirtual 273), 3) ∧ decode (mX12_sum).2.1 10 = .ok ((.ifCond .ne 12), 3) := by decide +kernel
theorem dX12_sum_0 : Dc mX12_sum 0 (.aload_n 0) 1 1 := ⟨k_dX12_sum_0.1, rfl⟩
theorem dX12_sum_1 : Dc mX12_sum 1 (.invokevirtual 309) 3 4 := ⟨k_dX12_sum_0.2.1, rfl⟩
theorem dX12_sum_4 : Dc mX12_sum 4 (.aload_n 0) 1 5 := ⟨k_dX12_sum_0.2.2.1, rfl⟩
theorem dX12_sum_5 : Dc mX12_sum 5 (.bipush 43) 2 7 := ⟨k_dX12_sum_0.2.2.2.1, rfl⟩
theorem dX12_sum_7 : Dc mX12_sum 7 (.invokevirtual 273) 3 10 := ⟨k_dX12_sum_0.2.2.2.2.1, rfl⟩
theorem dX12_sum_10 : Dc mX12_sum 10 (.ifCond .ne 12) 3 13 := ⟨k_dX12_sum_0.2.2.2.2.2, rfl⟩
theorem k_dX12_sum_13 : decode (mX12_sum).2.1 13 = .ok ((.aload_n 0), 1) ∧ decode (mX12_sum).2.1 14 = .ok ((.bipush 45), 2) ∧ decode (mX12_sum).2.1 16 = .ok ((.invokevirtual 273), 3) ∧ decode (mX12_sum).2.1 19 = .ok ((.ifCond .eq 29), 3) ∧ decode (mX12_sum).2.1 22 = .ok ((.aload_n 0), 1) ∧ decode (mX12_sum).2.1 23 = .ok ((.getfield 198), 3) := by decide +kernel
theorem dX12_sum_13 : Dc mX12_sum 13 (.aload_n 0) 1 14 := ⟨k_dX12_sum_13.1, rfl⟩
theorem dX12_sum_14 : Dc mX12_sum 14 (.bipush 45) 2 16 := ⟨k_dX12_sum_13.2.1, rfl⟩
theorem dX12_sum_16 : Dc mX12_sum 16 (.invokevirtual 273) 3 19 := ⟨k_dX12_sum_13.2.2.1, rfl⟩
theorem dX12_sum_19 : Dc mX12_sum 19 (.ifCond .eq 29) 3 22 := ⟨k_dX12_sum_13.2.2.2.1, rfl⟩
theorem dX12_sum_22 : Dc mX12_sum 22 (.aload_n 0) 1 23 := ⟨k_dX12_sum_13.2.2.2.2.1, rfl⟩
theorem dX12_sum_23 : Dc mX12_sum 23 (.getfield 198) 3 26 := ⟨k_dX12_sum_13.2.2.2.2.2, rfl⟩
theorem k_dX12_sum_26 : decode (mX12_sum).2.1 26 = .ok ((.istore_n 1), 1) ∧ decode (mX12_sum).2.1 27 = .ok ((.aload_n 0), 1) ∧ decode (mX12_sum).2.1 28 = .ok ((.invokevirtual 297), 3) ∧ decode (mX12_sum).2.1 31 = .ok ((.aload_n 0), 1) ∧ decode (mX12_sum).2.1 32 = .ok ((.invokevirtual 279), 3) ∧ decode (mX12_sum).2.1 35 = .ok ((.aload_n 0), 1) := by decide +kernel
theorem dX12_sum_26 : Dc mX12_sum 26 (.istore_n 1) 1 27 := ⟨k_dX12_sum_26.1, rfl⟩
theorem dX12_sum_27 : Dc mX12_sum 27 (.aload_n 0) 1 28 := ⟨k_dX12_sum_26.2.1, rfl⟩
theorem dX12_sum_28 : Dc mX12_sum 28 (.invokevirtual 297) 3 31 := ⟨k_dX12_sum_26.2.2.1, rfl⟩
theorem dX12_sum_31 : Dc mX12_sum 31 (.aload_n 0) 1 32 := ⟨k_dX12_sum_26.2.2.2.1, rfl⟩
theorem dX12_sum_32 : Dc mX12_sum 32 (.invokevirtual 279) 3 35 := ⟨k_dX12_sum_26.2.2.2.2.1, rfl⟩
theorem dX12_sum_35 : Dc mX12_sum 35 (.aload_n 0) 1 36 := ⟨k_dX12_sum_26.2.2.2.2.2, rfl⟩
theorem k_dX12_sum_36 : decode (mX12_sum).2.1 36 = .ok ((.invokevirtual 309), 3) ∧ decode (mX12_sum).2.1 39 = .ok ((.aload_n 0), 1) ∧ decode (mX12_sum).2.1 40 = .ok ((.iconst 2), 1) ∧ decode (mX12_sum).2.1 41 = .ok ((.iload_n 1), 1) ∧ decode (mX12_sum).2.1 42 = .ok ((.invokevirtual 300), 3) ∧ decode (mX12_sum).2.1 45 = .ok ((.goto (-41)), 3) := by decide +kernel
theorem dX12_sum_36 : Dc mX12_sum 36 (.invokevirtual 309) 3 39 := ⟨k_dX12_sum_36.1, rfl⟩
theorem dX12_sum_39 : Dc mX12_sum 39 (.aload_n 0) 1 40 := ⟨k_dX12_sum_36.2.1, rfl⟩
theorem dX12_sum_40 : Dc mX12_sum 40 (.iconst 2) 1 41 := ⟨k_dX12_sum_36.2.2.1, rfl⟩
theorem dX12_sum_41 : Dc mX12_sum 41 (.iload_n 1) 1 42 := ⟨k_dX12_sum_36.2.2.2.1, rfl⟩
theorem dX12_sum_42 : Dc mX12_sum 42 (.invokevirtual 300) 3 45 := ⟨k_dX12_sum_36.2.2.2.2.1, rfl⟩
theorem dX12_sum_45 : Dc mX12_sum 45 (.goto (-41)) 3 48 := ⟨k_dX12_sum_36.2.2.2.2.2, rfl⟩
theorem dX12_sum_48 : Dc mX12_sum 48 (.return_) 1 49 := ⟨by decide +kernel, rfl⟩
theorem k_dX12_product_0 : decode (mX12_product).2.1 0 = .ok ((.aload_n 0), 1) ∧ decode (mX12_product).2.1 1 = .ok ((.invokevirtual 312), 3) ∧ decode (mX12_product).2.1 4 = .ok ((.aload_n 0), 1) ∧ decode (mX12_product).2.1 5 = .ok ((.bipush 42), 2) ∧ decode (mX12_product).2.1 7 = .ok ((.invokevirtual 273), 3) ∧ decode (mX12_product).2.1 10 = .ok ((.ifCond .ne 12), 3) := by decide +kernel
theorem dX12_product_0 : Dc mX12_product 0 (.aload_n 0) 1 1 := ⟨k_dX12_product_0.1, rfl⟩
theorem dX12_product_1 : Dc mX12_product 1 (.invokevirtual 312) 3 4 := ⟨k_dX12_product_0.2.1, rfl⟩
theorem dX12_product_4 : Dc mX12_product 4 (.aload_n 0) 1 5 := ⟨k_dX12_product_0.2.2.1, rfl⟩
theorem dX12_product_5 : Dc mX12_product 5 (.bipush 42) 2 7 := ⟨k_dX12_product_0.2.2.2.1, rfl⟩
theorem dX12_product_7 : Dc mX12_product 7 (.invokevirtual 273) 3 10 := ⟨k_dX12_product_0.2.2.2.2.1, rfl⟩
theorem dX12_product_10 : Dc mX12_product 10 (.ifCond .ne 12) 3 13 := ⟨k_dX12_product_0.2.2.2.2.2, rfl⟩
theorem k_dX12_product_13 : decode (mX12_product).2.1 13 = .ok ((.aload_n 0), 1) ∧ decode (mX12_product).2.1 14 = .ok ((.bipush 47), 2) ∧ decode (mX12_product).2.1 16 = .ok ((.invokevirtual 273), 3) ∧ decode (mX12_product).2.1 19 = .ok ((.ifCond .eq 29), 3) ∧ decode (mX12_product).2.1 22 = .ok ((.aload_n 0), 1) ∧ decode (mX12_product).2.1 23 = .ok ((.getfield 198), 3) := by decide +kernel
theorem dX12_product_13 : Dc mX12_product 13 (.aload_n 0) 1 14 := ⟨k_dX12_product_13.1, rfl⟩
theorem dX12_product_14 : Dc mX12_product 14 (.bipush 47) 2 16 := ⟨k_dX12_product_13.2.1, rfl⟩
theorem dX12_product_16 : Dc mX12_product 16 (.invokevirtual 273) 3 19 := ⟨k_dX12_product_13.2.2.1, rfl⟩
theorem dX12_product_19 : Dc mX12_product 19 (.ifCond .eq 29) 3 22 := ⟨k_dX12_product_13.2.2.2.1, rfl⟩
theorem dX12_product_22 : Dc mX12_product 22 (.aload_n 0) 1 23 := ⟨k_dX12_product_13.2.2.2.2.1, rfl⟩
theorem dX12_product_23 : Dc mX12_product 23 (.getfield 198) 3 26 := ⟨k_dX12_product_13.2.2.2.2.2, rfl⟩
theorem k_dX12_product_26 : decode (mX12_product).2.1 26 = .ok ((.istore_n 1), 1) ∧ decode (mX12_product).2.1 27 = .ok ((.aload_n 0), 1) ∧ decode (mX12_product).2.1 28 = .ok ((.invokevirtual 297), 3) ∧ decode (mX12_product).2.1 31 = .ok ((.aload_n 0), 1) ∧ decode (mX12_product).2.1 32 = .ok ((.invokevirtual 279), 3) ∧ decode (mX12_product).2.1 35 = .ok ((.aload_n 0), 1) := by decide +kernel
theorem dX12_product_26 : Dc mX12_product 26 (.istore_n 1) 1 27 := ⟨k_dX12_product_26.1, rfl⟩
theorem dX12_product_27 : Dc mX12_product 27 (.aload_n 0) 1 28 := ⟨k_dX12_product_26.2.1, rfl⟩
theorem dX12_product_28 : Dc mX12_product 28 (.invokevirtual 297) 3 31 := ⟨k_dX12_product_26.2.2.1, rfl⟩
theorem dX12_product_31 : Dc mX12_product 31 (.aload_n 0) 1 32 := ⟨k_dX12_product_26.2.2.2.1, rfl⟩
theorem dX12_product_32 : Dc mX12_product 32 (.invokevirtual 279) 3 35 := ⟨k_dX12_product_26.2.2.2.2.1, rfl⟩
theorem dX12_product_35 : Dc mX12_product 35 (.aload_n 0) 1 36 := ⟨k_dX12_product_26.2.2.2.2.2, rfl⟩
theorem k_dX12_product_36 : decode (mX12_product).2.1 36 = .ok ((.invokevirtual 312), 3) ∧ decode (mX12_product).2.1 39 = .ok ((.aload_n 0), 1) ∧ decode (mX12_product).2.1 40 = .ok ((.iconst 2), 1) ∧ decode (mX12_product).2.1 41 = .ok ((.iload_n 1), 1) ∧ decode (mX12_product).2.1 42 = .ok ((.invokevirtual 300), 3) ∧ decode (mX12_product).2.1 45 = .ok ((.goto (-41)), 3) := by decide +kernel
theorem dX12_product_36 : Dc mX12_product 36 (.invokevirtual 312) 3 39 := ⟨k_dX12_product_36.1, rfl⟩
theorem dX12_product_39 : Dc mX12_product 39 (.aload_n 0) 1 40 := ⟨k_dX12_product_36.2.1, rfl⟩
theorem dX12_product_40 : Dc mX12_product 40 (.iconst 2) 1 41 := ⟨k_dX12_product_36.2.2.1, rfl⟩
theorem dX12_product_41 : Dc mX12_product 41 (.iload_n 1) 1 42 := ⟨k_dX12_product_36.2.2.2.1, rfl⟩
theorem dX12_product_42 : Dc mX12_product 42 (.invokevirtual 300) 3 45 := ⟨k_dX12_product_36.2.2.2.2.1, rfl⟩
theorem dX12_product_45 : Dc mX12_product 45 (.goto (-41)) 3 48 := ⟨k_dX12_product_36.2.2.2.2.2, rfl⟩
theorem dX12_product_48 : Dc mX12_product 48 (.return_) 1 49 := ⟨by decide +kernel, rfl⟩
theorem k_dX12_primary_0 : decode (mX12_primary).2.1 0 = .ok ((.aload_n 0), 1) ∧ decode (mX12_primary).2.1 1 = .ok ((.getfield 223), 3) ∧ decode (mX12_primary).2.1 4 = .ok ((.ifCond .eq 4), 3) ∧ decode (mX12_primary).2.1 7 = .ok ((.return_), 1) ∧ decode (mX12_primary).2.1 8 = .ok ((.aload_n 0), 1) ∧ decode (mX12_primary).2.1 9 = .ok ((.bipush 40), 2) := by decide +kernel
theorem dX12_primary_0 : Dc mX12_primary 0 (.aload_n 0) 1 1 := ⟨k_dX12_primary_0.1, rfl⟩
theorem dX12_primary_1 : Dc mX12_primary 1 (.getfield 223) 3 4 := ⟨k_dX12_primary_0.2.1, rfl⟩
theorem dX12_primary_4 : Dc mX12_primary 4 (.ifCond .eq 4) 3 7 := ⟨k_dX12_primary_0.2.2.1, rfl⟩
theorem dX12_primary_7 : Dc mX12_primary 7 (.return_) 1 8 := ⟨k_dX12_primary_0.2.2.2.1, rfl⟩
theorem dX12_primary_8 : Dc mX12_primary 8 (.aload_n 0) 1 9 := ⟨k_dX12_primary_0.2.2.2.2.1, rfl⟩
theorem dX12_primary_9 : Dc mX12_primary 9 (.bipush 40) 2 11 := ⟨k_dX12_primary_0.2.2.2.2.2, rfl⟩
theorem k_dX12_primary_11 : decode (mX12_primary).2.1 11 = .ok ((.invokevirtual 273), 3) ∧ decode (mX12_primary).2.1 14 = .ok ((.ifCond .eq 87), 3) ∧ decode (mX12_primary).2.1 17 = .ok ((.aload_n 0), 1) ∧ decode (mX12_primary).2.1 18 = .ok ((.getfield 315), 3) ∧ decode (mX12_primary).2.1 21 = .ok ((.bipush 8), 2) ∧ decode (mX12_primary).2.1 23 = .ok ((.if_icmp .ne 8), 3) := by decide +kernel
theorem dX12_primary_11 : Dc mX12_primary 11 (.invokevirtual 273) 3 14 := ⟨k_dX12_primary_11.1, rfl⟩
theorem dX12_primary_14 : Dc mX12_primary 14 (.ifCond .eq 87) 3 17 := ⟨k_dX12_primary_11.2.1, rfl⟩
theorem dX12_primary_17 : Dc mX12_primary 17 (.aload_n 0) 1 18 := ⟨k_dX12_primary_11.2.2.1, rfl⟩
theorem dX12_primary_18 : Dc mX12_primary 18 (.getfield 315) 3 21 := ⟨k_dX12_primary_11.2.2.2.1, rfl⟩
theorem dX12_primary_21 : Dc mX12_primary 21 (.bipush 8) 2 23 := ⟨k_dX12_primary_11.2.2.2.2.1, rfl⟩
theorem dX12_primary_23 : Dc mX12_primary 23 (.if_icmp .ne 8) 3 26 := ⟨k_dX12_primary_11.2.2.2.2.2, rfl⟩
theorem k_dX12_primary_26 : decode (mX12_primary).2.1 26 = .ok ((.aload_n 0), 1) ∧ decode (mX12_primary).2.1 27 = .ok ((.iconst 2), 1) ∧ decode (mX12_primary).2.1 28 = .ok ((.invokevirtual 232), 3) ∧ decode (mX12_primary).2.1 31 = .ok ((.aload_n 0), 1) ∧ decode (mX12_primary).2.1 32 = .ok ((.getfield 223), 3) ∧ decode (mX12_primary).2.1 35 = .ok ((.ifCond .eq 4), 3) := by decide +kernel
theorem dX12_primary_26 : Dc mX12_primary 26 (.aload_n 0) 1 27 := ⟨k_dX12_primary_26.1, rfl⟩
theorem dX12_primary_27 : Dc mX12_primary 27 (.iconst 2) 1 28 := ⟨k_dX12_primary_26.2.1, rfl⟩
theorem dX12_primary_28 : Dc mX12_primary 28 (.invokevirtual 232) 3 31 := ⟨k_dX12_primary_26.2.2.1, rfl⟩
theorem dX12_primary_31 : Dc mX12_primary 31 (.aload_n 0) 1 32 := ⟨k_dX12_primary_26.2.2.2.1, rfl⟩
theorem dX12_primary_32 : Dc mX12_primary 32 (.getfield 223) 3 35 := ⟨k_dX12_primary_26.2.2.2.2.1, rfl⟩
theorem dX12_primary_35 : Dc mX12_primary 35 (.ifCond .eq 4) 3 38 := ⟨k_dX12_primary_26.2.2.2.2.2, rfl⟩
theorem k_dX12_primary_38 : decode (mX12_primary).2.1 38 = .ok ((.return_), 1) ∧ decode (mX12_primary).2.1 39 = .ok ((.aload_n 0), 1) ∧ decode (mX12_primary).2.1 40 = .ok ((.dup), 1) ∧ decode (mX12_primary).2.1 41 = .ok ((.getfield 315), 3) ∧ decode (mX12_primary).2.1 44 = .ok ((.iconst 1), 1) ∧ decode (mX12_primary).2.1 45 = .ok ((.iadd), 1) := by decide +kernel
theorem dX12_primary_38 : Dc mX12_primary 38 (.return_) 1 39 := ⟨k_dX12_primary_38.1, rfl⟩
theorem dX12_primary_39 : Dc mX12_primary 39 (.aload_n 0) 1 40 := ⟨k_dX12_primary_38.2.1, rfl⟩
theorem dX12_primary_40 : Dc mX12_primary 40 (.dup) 1 41 := ⟨k_dX12_primary_38.2.2.1, rfl⟩
theorem dX12_primary_41 : Dc mX12_primary 41 (.getfield 315) 3 44 := ⟨k_dX12_primary_38.2.2.2.1, rfl⟩
theorem dX12_primary_44 : Dc mX12_primary 44 (.iconst 1) 1 45 := ⟨k_dX12_primary_38.2.2.2.2.1, rfl⟩
theorem dX12_primary_45 : Dc mX12_primary 45 (.iadd) 1 46 := ⟨k_dX12_primary_38.2.2.2.2.2, rfl⟩
theorem k_dX12_primary_46 : decode (mX12_primary).2.1 46 = .ok ((.putfield 315), 3) ∧ decode (mX12_primary).2.1 49 = .ok ((.aload_n 0), 1) ∧ decode (mX12_primary).2.1 50 = .ok ((.invokevirtual 229), 3) ∧ decode (mX12_primary).2.1 53 = .ok ((.aload_n 0), 1) ∧ decode (mX12_primary).2.1 54 = .ok ((.invokevirtual 285), 3) ∧ decode (mX12_primary).2.1 57 = .ok ((.aload_n 0), 1) := by decide +kernel
theorem dX12_primary_46 : Dc mX12_primary 46 (.putfield 315) 3 49 := ⟨k_dX12_primary_46.1, rfl⟩
theorem dX12_primary_49 : Dc mX12_primary 49 (.aload_n 0) 1 50 := ⟨k_dX12_primary_46.2.1, rfl⟩
theorem dX12_primary_50 : Dc mX12_primary 50 (.invokevirtual 229) 3 53 := ⟨k_dX12_primary_46.2.2.1, rfl⟩
theorem dX12_primary_53 : Dc mX12_primary 53 (.aload_n 0) 1 54 := ⟨k_dX12_primary_46.2.2.2.1, rfl⟩
theorem dX12_primary_54 : Dc mX12_primary 54 (.invokevirtual 285) 3 57 := ⟨k_dX12_primary_46.2.2.2.2.1, rfl⟩
theorem dX12_primary_57 : Dc mX12_primary 57 (.aload_n 0) 1 58 := ⟨k_dX12_primary_46.2.2.2.2.2, rfl⟩
theorem k_dX12_primary_58 : decode (mX12_primary).2.1 58 = .ok ((.getfield 223), 3) ∧ decode (mX12_primary).2.1 61 = .ok ((.ifCond .ne 17), 3) ∧ decode (mX12_primary).2.1 64 = .ok ((.aload_n 0), 1) ∧ decode (mX12_primary).2.1 65 = .ok ((.bipush 41), 2) ∧ decode (mX12_primary).2.1 67 = .ok ((.invokevirtual 273), 3) ∧ decode (mX12_primary).2.1 70 = .ok ((.ifCond .ne 8), 3) := by decide +kernel
theorem dX12_primary_58 : Dc mX12_primary 58 (.getfield 223) 3 61 := ⟨k_dX12_primary_58.1, rfl⟩
theorem dX12_primary_61 : Dc mX12_primary 61 (.ifCond .ne 17) 3 64 := ⟨k_dX12_primary_58.2.1, rfl⟩
theorem dX12_primary_64 : Dc mX12_primary 64 (.aload_n 0) 1 65 := ⟨k_dX12_primary_58.2.2.1, rfl⟩
theorem dX12_primary_65 : Dc mX12_primary 65 (.bipush 41) 2 67 := ⟨k_dX12_primary_58.2.2.2.1, rfl⟩
theorem dX12_primary_67 : Dc mX12_primary 67 (.invokevirtual 273) 3 70 := ⟨k_dX12_primary_58.2.2.2.2.1, rfl⟩
theorem dX12_primary_70 : Dc mX12_primary 70 (.ifCond .ne 8) 3 73 := ⟨k_dX12_primary_58.2.2.2.2.2, rfl⟩
theorem k_dX12_primary_73 : decode (mX12_primary).2.1 73 = .ok ((.aload_n 0), 1) ∧ decode (mX12_primary).2.1 74 = .ok ((.iconst 1), 1) ∧ decode (mX12_primary).2.1 75 = .ok ((.invokevirtual 232), 3) ∧ decode (mX12_primary).2.1 78 = .ok ((.aload_n 0), 1) ∧ decode (mX12_primary).2.1 79 = .ok ((.getfield 223), 3) ∧ decode (mX12_primary).2.1 82 = .ok ((.ifCond .eq 4), 3) := by decide +kernel
theorem dX12_primary_73 : Dc mX12_primary 73 (.aload_n 0) 1 74 := ⟨k_dX12_primary_73.1, rfl⟩
theorem dX12_primary_74 : Dc mX12_primary 74 (.iconst 1) 1 75 := ⟨k_dX12_primary_73.2.1, rfl⟩
theorem dX12_primary_75 : Dc mX12_primary 75 (.invokevirtual 232) 3 78 := ⟨k_dX12_primary_73.2.2.1, rfl⟩
theorem dX12_primary_78 : Dc mX12_primary 78 (.aload_n 0) 1 79 := ⟨k_dX12_primary_73.2.2.2.1, rfl⟩
theorem dX12_primary_79 : Dc mX12_primary 79 (.getfield 223) 3 82 := ⟨k_dX12_primary_73.2.2.2.2.1, rfl⟩
theorem dX12_primary_82 : Dc mX12_primary 82 (.ifCond .eq 4) 3 85 := ⟨k_dX12_primary_73.2.2.2.2.2, rfl⟩
theorem k_dX12_primary_85 : decode (mX12_primary).2.1 85 = .ok ((.return_), 1) ∧ decode (mX12_primary).2.1 86 = .ok ((.aload_n 0), 1) ∧ decode (mX12_primary).2.1 87 = .ok ((.dup), 1) ∧ decode (mX12_primary).2.1 88 = .ok ((.getfield 315), 3) ∧ decode (mX12_primary).2.1 91 = .ok ((.iconst 1), 1) ∧ decode (mX12_primary).2.1 92 = .ok ((.isub), 1) := by decide +kernel
theorem dX12_primary_85 : Dc mX12_primary 85 (.return_) 1 86 := ⟨k_dX12_primary_85.1, rfl⟩
theorem dX12_primary_86 : Dc mX12_primary 86 (.aload_n 0) 1 87 := ⟨k_dX12_primary_85.2.1, rfl⟩
theorem dX12_primary_87 : Dc mX12_primary 87 (.dup) 1 88 := ⟨k_dX12_primary_85.2.2.1, rfl⟩
theorem dX12_primary_88 : Dc mX12_primary 88 (.getfield 315) 3 91 := ⟨k_dX12_primary_85.2.2.2.1, rfl⟩
theorem dX12_primary_91 : Dc mX12_primary 91 (.iconst 1) 1 92 := ⟨k_dX12_primary_85.2.2.2.2.1, rfl⟩
theorem dX12_primary_92 : Dc mX12_primary 92 (.isub) 1 93 := ⟨k_dX12_primary_85.2.2.2.2.2, rfl⟩
theorem k_dX12_primary_93 : decode (mX12_primary).2.1 93 = .ok ((.putfield 315), 3) ∧ decode (mX12_primary).2.1 96 = .ok ((.aload_n 0), 1) ∧ decode (mX12_primary).2.1 97 = .ok ((.invokevirtual 229), 3) ∧ decode (mX12_primary).2.1 100 = .ok ((.return_), 1) ∧ decode (mX12_primary).2.1 101 = .ok ((.aload_n 0), 1) ∧ decode (mX12_primary).2.1 102 = .ok ((.getfield 188), 3) := by decide +kernel
theorem dX12_primary_93 : Dc mX12_primary 93 (.putfield 315) 3 96 := ⟨k_dX12_primary_93.1, rfl⟩
theorem dX12_primary_96 : Dc mX12_primary 96 (.aload_n 0) 1 97 := ⟨k_dX12_primary_93.2.1, rfl⟩
theorem dX12_primary_97 : Dc mX12_primary 97 (.invokevirtual 229) 3 100 := ⟨k_dX12_primary_93.2.2.1, rfl⟩
theorem dX12_primary_100 : Dc mX12_primary 100 (.return_) 1 101 := ⟨k_dX12_primary_93.2.2.2.1, rfl⟩
theorem dX12_primary_101 : Dc mX12_primary 101 (.aload_n 0) 1 102 := ⟨k_dX12_primary_93.2.2.2.2.1, rfl⟩
theorem dX12_primary_102 : Dc mX12_primary 102 (.getfield 188) 3 105 := ⟨k_dX12_primary_93.2.2.2.2.2, rfl⟩
theorem k_dX12_primary_105 : decode (mX12_primary).2.1 105 = .ok ((.iconst 2), 1) ∧ decode (mX12_primary).2.1 106 = .ok ((.if_icmp .ne 7), 3) ∧ decode (mX12_primary).2.1 109 = .ok ((.iconst 1), 1) ∧ decode (mX12_primary).2.1 110 = .ok ((.goto 4), 3) ∧ decode (mX12_primary).2.1 113 = .ok ((.iconst 0), 1) ∧ decode (mX12_primary).2.1 114 = .ok ((.istore_n 1), 1) := by decide +kernel
theorem dX12_primary_105 : Dc mX12_primary 105 (.iconst 2) 1 106 := ⟨k_dX12_primary_105.1, rfl⟩
theorem dX12_primary_106 : Dc mX12_primary 106 (.if_icmp .ne 7) 3 109 := ⟨k_dX12_primary_105.2.1, rfl⟩
theorem dX12_primary_109 : Dc mX12_primary 109 (.iconst 1) 1 110 := ⟨k_dX12_primary_105.2.2.1, rfl⟩
theorem dX12_primary_110 : Dc mX12_primary 110 (.goto 4) 3 113 := ⟨k_dX12_primary_105.2.2.2.1, rfl⟩
theorem dX12_primary_113 : Dc mX12_primary 113 (.iconst 0) 1 114 := ⟨k_dX12_primary_105.2.2.2.2.1, rfl⟩
theorem dX12_primary_114 : Dc mX12_primary 114 (.istore_n 1) 1 115 := ⟨k_dX12_primary_105.2.2.2.2.2, rfl⟩
theorem k_dX12_primary_115 : decode (mX12_primary).2.1 115 = .ok ((.iload_n 1), 1) ∧ decode (mX12_primary).2.1 116 = .ok ((.ifCond .eq 21), 3) ∧ decode (mX12_primary).2.1 119 = .ok ((.aload_n 0), 1) ∧ decode (mX12_primary).2.1 120 = .ok ((.getfield 198), 3) ∧ decode (mX12_primary).2.1 123 = .ok ((.sipush 9999), 3) ∧ decode (mX12_primary).2.1 126 = .ok ((.if_icmp .le 11), 3) := by decide +kernel
theorem dX12_primary_115 : Dc mX12_primary 115 (.iload_n 1) 1 116 := ⟨k_dX12_primary_115.1, rfl⟩
theorem dX12_primary_116 : Dc mX12_primary 116 (.ifCond .eq 21) 3 119 := ⟨k_dX12_primary_115.2.1, rfl⟩
theorem dX12_primary_119 : Dc mX12_primary 119 (.aload_n 0) 1 120 := ⟨k_dX12_primary_115.2.2.1, rfl⟩
theorem dX12_primary_120 : Dc mX12_primary 120 (.getfield 198) 3 123 := ⟨k_dX12_primary_115.2.2.2.1, rfl⟩
theorem dX12_primary_123 : Dc mX12_primary 123 (.sipush 9999) 3 126 := ⟨k_dX12_primary_115.2.2.2.2.1, rfl⟩
theorem dX12_primary_126 : Dc mX12_primary 126 (.if_icmp .le 11) 3 129 := ⟨k_dX12_primary_115.2.2.2.2.2, rfl⟩
theorem k_dX12_primary_129 : decode (mX12_primary).2.1 129 = .ok ((.aload_n 0), 1) ∧ decode (mX12_primary).2.1 130 = .ok ((.iconst 2), 1) ∧ decode (mX12_primary).2.1 131 = .ok ((.invokevirtual 232), 3) ∧ decode (mX12_primary).2.1 134 = .ok ((.goto 28), 3) ∧ decode (mX12_primary).2.1 137 = .ok ((.iload_n 1), 1) ∧ decode (mX12_primary).2.1 138 = .ok ((.ifCond .ne 24), 3) := by decide +kernel
theorem dX12_primary_129 : Dc mX12_primary 129 (.aload_n 0) 1 130 := ⟨k_dX12_primary_129.1, rfl⟩
theorem dX12_primary_130 : Dc mX12_primary 130 (.iconst 2) 1 131 := ⟨k_dX12_primary_129.2.1, rfl⟩
theorem dX12_primary_131 : Dc mX12_primary 131 (.invokevirtual 232) 3 134 := ⟨k_dX12_primary_129.2.2.1, rfl⟩
theorem dX12_primary_134 : Dc mX12_primary 134 (.goto 28) 3 137 := ⟨k_dX12_primary_129.2.2.2.1, rfl⟩
theorem dX12_primary_137 : Dc mX12_primary 137 (.iload_n 1) 1 138 := ⟨k_dX12_primary_129.2.2.2.2.1, rfl⟩
theorem dX12_primary_138 : Dc mX12_primary 138 (.ifCond .ne 24) 3 141 := ⟨k_dX12_primary_129.2.2.2.2.2, rfl⟩
theorem k_dX12_primary_141 : decode (mX12_primary).2.1 141 = .ok ((.aload_n 0), 1) ∧ decode (mX12_primary).2.1 142 = .ok ((.getfield 188), 3) ∧ decode (mX12_primary).2.1 145 = .ok ((.ifCond .ne 12), 3) ∧ decode (mX12_primary).2.1 148 = .ok ((.aload_n 0), 1) ∧ decode (mX12_primary).2.1 149 = .ok ((.getfield 198), 3) ∧ decode (mX12_primary).2.1 152 = .ok ((.bipush 16), 2) := by decide +kernel
theorem dX12_primary_141 : Dc mX12_primary 141 (.aload_n 0) 1 142 := ⟨k_dX12_primary_141.1, rfl⟩
theorem dX12_primary_142 : Dc mX12_primary 142 (.getfield 188) 3 145 := ⟨k_dX12_primary_141.2.1, rfl⟩
theorem dX12_primary_145 : Dc mX12_primary 145 (.ifCond .ne 12) 3 148 := ⟨k_dX12_primary_141.2.2.1, rfl⟩
theorem dX12_primary_148 : Dc mX12_primary 148 (.aload_n 0) 1 149 := ⟨k_dX12_primary_141.2.2.2.1, rfl⟩
theorem dX12_primary_149 : Dc mX12_primary 149 (.getfield 198) 3 152 := ⟨k_dX12_primary_141.2.2.2.2.1, rfl⟩
theorem dX12_primary_152 : Dc mX12_primary 152 (.bipush 16) 2 154 := ⟨k_dX12_primary_141.2.2.2.2.2, rfl⟩
theorem k_dX12_primary_154 : decode (mX12_primary).2.1 154 = .ok ((.if_icmp .ge 8), 3) ∧ decode (mX12_primary).2.1 157 = .ok ((.aload_n 0), 1) ∧ decode (mX12_primary).2.1 158 = .ok ((.iconst 1), 1) ∧ decode (mX12_primary).2.1 159 = .ok ((.invokevirtual 232), 3) ∧ decode (mX12_primary).2.1 162 = .ok ((.aload_n 0), 1) ∧ decode (mX12_primary).2.1 163 = .ok ((.invokevirtual 297), 3) := by decide +kernel
theorem dX12_primary_154 : Dc mX12_primary 154 (.if_icmp .ge 8) 3 157 := ⟨k_dX12_primary_154.1, rfl⟩
theorem dX12_primary_157 : Dc mX12_primary 157 (.aload_n 0) 1 158 := ⟨k_dX12_primary_154.2.1, rfl⟩
theorem dX12_primary_158 : Dc mX12_primary 158 (.iconst 1) 1 159 := ⟨k_dX12_primary_154.2.2.1, rfl⟩
theorem dX12_primary_159 : Dc mX12_primary 159 (.invokevirtual 232) 3 162 := ⟨k_dX12_primary_154.2.2.2.1, rfl⟩
theorem dX12_primary_162 : Dc mX12_primary 162 (.aload_n 0) 1 163 := ⟨k_dX12_primary_154.2.2.2.2.1, rfl⟩
theorem dX12_primary_163 : Dc mX12_primary 163 (.invokevirtual 297) 3 166 := ⟨k_dX12_primary_154.2.2.2.2.2, rfl⟩
theorem k_dX12_primary_166 : decode (mX12_primary).2.1 166 = .ok ((.aload_n 0), 1) ∧ decode (mX12_primary).2.1 167 = .ok ((.iload_n 1), 1) ∧ decode (mX12_primary).2.1 168 = .ok ((.ifCond .eq 7), 3) ∧ decode (mX12_primary).2.1 171 = .ok ((.iconst 0), 1) ∧ decode (mX12_primary).2.1 172 = .ok ((.goto 4), 3) ∧ decode (mX12_primary).2.1 175 = .ok ((.iconst 1), 1) := by decide +kernel
theorem dX12_primary_166 : Dc mX12_primary 166 (.aload_n 0) 1 167 := ⟨k_dX12_primary_166.1, rfl⟩
theorem dX12_primary_167 : Dc mX12_primary 167 (.iload_n 1) 1 168 := ⟨k_dX12_primary_166.2.1, rfl⟩
theorem dX12_primary_168 : Dc mX12_primary 168 (.ifCond .eq 7) 3 171 := ⟨k_dX12_primary_166.2.2.1, rfl⟩
theorem dX12_primary_171 : Dc mX12_primary 171 (.iconst 0) 1 172 := ⟨k_dX12_primary_166.2.2.2.1, rfl⟩
theorem dX12_primary_172 : Dc mX12_primary 172 (.goto 4) 3 175 := ⟨k_dX12_primary_166.2.2.2.2.1, rfl⟩
theorem dX12_primary_175 : Dc mX12_primary 175 (.iconst 1) 1 176 := ⟨k_dX12_primary_166.2.2.2.2.2, rfl⟩
theorem k_dX12_primary_176 : decode (mX12_primary).2.1 176 = .ok ((.iload_n 1), 1) ∧ decode (mX12_primary).2.1 177 = .ok ((.ifCond .eq 10), 3) ∧ decode (mX12_primary).2.1 180 = .ok ((.aload_n 0), 1) ∧ decode (mX12_primary).2.1 181 = .ok ((.getfield 198), 3) ∧ decode (mX12_primary).2.1 184 = .ok ((.goto 10), 3) ∧ decode (mX12_primary).2.1 187 = .ok ((.aload_n 0), 1) := by decide +kernel
theorem dX12_primary_176 : Dc mX12_primary 176 (.iload_n 1) 1 177 := ⟨k_dX12_primary_176.1, rfl⟩
theorem dX12_primary_177 : Dc mX12_primary 177 (.ifCond .eq 10) 3 180 := ⟨k_dX12_primary_176.2.1, rfl⟩
theorem dX12_primary_180 : Dc mX12_primary 180 (.aload_n 0) 1 181 := ⟨k_dX12_primary_176.2.2.1, rfl⟩
theorem dX12_primary_181 : Dc mX12_primary 181 (.getfield 198) 3 184 := ⟨k_dX12_primary_176.2.2.2.1, rfl⟩
theorem dX12_primary_184 : Dc mX12_primary 184 (.goto 10) 3 187 := ⟨k_dX12_primary_176.2.2.2.2.1, rfl⟩
theorem dX12_primary_187 : Dc mX12_primary 187 (.aload_n 0) 1 188 := ⟨k_dX12_primary_176.2.2.2.2.2, rfl⟩
theorem k_dX12_primary_188 : decode (mX12_primary).2.1 188 = .ok ((.getfield 198), 3) ∧ decode (mX12_primary).2.1 191 = .ok ((.bipush 16), 2) ∧ decode (mX12_primary).2.1 193 = .ok ((.isub), 1) ∧ decode (mX12_primary).2.1 194 = .ok ((.invokevirtual 300), 3) ∧ decode (mX12_primary).2.1 197 = .ok ((.aload_n 0), 1) ∧ decode (mX12_primary).2.1 198 = .ok ((.invokevirtual 279), 3) := by decide +kernel
theorem dX12_primary_188 : Dc mX12_primary 188 (.getfield 198) 3 191 := ⟨k_dX12_primary_188.1, rfl⟩
theorem dX12_primary_191 : Dc mX12_primary 191 (.bipush 16) 2 193 := ⟨k_dX12_primary_188.2.1, rfl⟩
theorem dX12_primary_193 : Dc mX12_primary 193 (.isub) 1 194 := ⟨k_dX12_primary_188.2.2.1, rfl⟩
theorem dX12_primary_194 : Dc mX12_primary 194 (.invokevirtual 300) 3 197 := ⟨k_dX12_primary_188.2.2.2.1, rfl⟩
theorem dX12_primary_197 : Dc mX12_primary 197 (.aload_n 0) 1 198 := ⟨k_dX12_primary_188.2.2.2.2.1, rfl⟩
theorem dX12_primary_198 : Dc mX12_primary 198 (.invokevirtual 279) 3 201 := ⟨k_dX12_primary_188.2.2.2.2.2, rfl⟩
theorem dX12_primary_201 : Dc mX12_primary 201 (.return_) 1 202 := ⟨by decide +kernel, rfl⟩
theorem k_dX12_half_0 : decode (mX12_half).2.1 0 = .ok ((.aload_n 0), 1) ∧ decode (mX12_half).2.1 1 = .ok ((.arraylength), 1) ∧ decode (mX12_half).2.1 2 = .ok ((.iconst 2), 1) ∧ decode (mX12_half).2.1 3 = .ok ((.idiv), 1) ∧ decode (mX12_half).2.1 4 = .ok ((.istore_n 1), 1) ∧ decode (mX12_half).2.1 5 = .ok ((.iconst 0), 1) := by decide +kernel
theorem dX12_half_0 : Dc mX12_half 0 (.aload_n 0) 1 1 := ⟨k_dX12_half_0.1, rfl⟩
theorem dX12_half_1 : Dc mX12_half 1 (.arraylength) 1 2 := ⟨k_dX12_half_0.2.1, rfl⟩
theorem dX12_half_2 : Dc mX12_half 2 (.iconst 2) 1 3 := ⟨k_dX12_half_0.2.2.1, rfl⟩
theorem dX12_half_3 : Dc mX12_half 3 (.idiv) 1 4 := ⟨k_dX12_half_0.2.2.2.1, rfl⟩
theorem dX12_half_4 : Dc mX12_half 4 (.istore_n 1) 1 5 := ⟨k_dX12_half_0.2.2.2.2.1, rfl⟩
theorem dX12_half_5 : Dc mX12_half 5 (.iconst 0) 1 6 := ⟨k_dX12_half_0.2.2.2.2.2, rfl⟩
theorem k_dX12_half_6 : decode (mX12_half).2.1 6 = .ok ((.istore_n 2), 1) ∧ decode (mX12_half).2.1 7 = .ok ((.iload_n 2), 1) ∧ decode (mX12_half).2.1 8 = .ok ((.iload_n 1), 1) ∧ decode (mX12_half).2.1 9 = .ok ((.if_icmp .ge 17), 3) ∧ decode (mX12_half).2.1 12 = .ok ((.aload_n 0), 1) ∧ decode (mX12_half).2.1 13 = .ok ((.iload_n 2), 1) := by decide +kernel
theorem dX12_half_6 : Dc mX12_half 6 (.istore_n 2) 1 7 := ⟨k_dX12_half_6.1, rfl⟩
theorem dX12_half_7 : Dc mX12_half 7 (.iload_n 2) 1 8 := ⟨k_dX12_half_6.2.1, rfl⟩
theorem dX12_half_8 : Dc mX12_half 8 (.iload_n 1) 1 9 := ⟨k_dX12_half_6.2.2.1, rfl⟩
theorem dX12_half_9 : Dc mX12_half 9 (.if_icmp .ge 17) 3 12 := ⟨k_dX12_half_6.2.2.2.1, rfl⟩
theorem dX12_half_12 : Dc mX12_half 12 (.aload_n 0) 1 13 := ⟨k_dX12_half_6.2.2.2.2.1, rfl⟩
theorem dX12_half_13 : Dc mX12_half 13 (.iload_n 2) 1 14 := ⟨k_dX12_half_6.2.2.2.2.2, rfl⟩
theorem k_dX12_half_14 : decode (mX12_half).2.1 14 = .ok ((.aload_n 0), 1) ∧ decode (mX12_half).2.1 15 = .ok ((.iload_n 1), 1) ∧ decode (mX12_half).2.1 16 = .ok ((.iload_n 2), 1) ∧ decode (mX12_half).2.1 17 = .ok ((.iadd), 1) ∧ decode (mX12_half).2.1 18 = .ok ((.iaload), 1) ∧ decode (mX12_half).2.1 19 = .ok ((.iastore), 1) := by decide +kernel
theorem dX12_half_14 : Dc mX12_half 14 (.aload_n 0) 1 15 := ⟨k_dX12_half_14.1, rfl⟩
theorem dX12_half_15 : Dc mX12_half 15 (.iload_n 1) 1 16 := ⟨k_dX12_half_14.2.1, rfl⟩
theorem dX12_half_16 : Dc mX12_half 16 (.iload_n 2) 1 17 := ⟨k_dX12_half_14.2.2.1, rfl⟩
theorem dX12_half_17 : Dc mX12_half 17 (.iadd) 1 18 := ⟨k_dX12_half_14.2.2.2.1, rfl⟩
theorem dX12_half_18 : Dc mX12_half 18 (.iaload) 1 19 := ⟨k_dX12_half_14.2.2.2.2.1, rfl⟩
theorem dX12_half_19 : Dc mX12_half 19 (.iastore) 1 20 := ⟨k_dX12_half_14.2.2.2.2.2, rfl⟩
theorem k_dX12_half_20 : decode (mX12_half).2.1 20 = .ok ((.iinc 2 1), 3) ∧ decode (mX12_half).2.1 23 = .ok ((.goto (-16)), 3) ∧ decode (mX12_half).2.1 26 = .ok ((.return_), 1) := by decide +kernel
theorem dX12_half_20 : Dc mX12_half 20 (.iinc 2 1) 3 23 := ⟨k_dX12_half_20.1, rfl⟩
theorem dX12_half_23 : Dc mX12_half 23 (.goto (-16)) 3 26 := ⟨k_dX12_half_20.2.1, rfl⟩
theorem dX12_half_26 : Dc mX12_half 26 (.return_) 1 27 := ⟨k_dX12_half_20.2.2, rfl⟩
theorem k_dX12_text_0 : decode (mX12_text).2.1 0 = .ok ((.aload_n 0), 1) ∧ decode (mX12_text).2.1 1 = .ok ((.iconst 0), 1) ∧ decode (mX12_text).2.1 2 = .ok ((.putfield 169), 3) ∧ decode (mX12_text).2.1 5 = .ok ((.iload_n 1), 1) ∧ decode (mX12_text).2.1 6 = .ok ((.ifCond .lt 11), 3) ∧ decode (mX12_text).2.1 9 = .ok ((.iload_n 1), 1) := by decide +kernel
theorem dX12_text_0 : Dc mX12_text 0 (.aload_n 0) 1 1 := ⟨k_dX12_text_0.1, rfl⟩
theorem dX12_text_1 : Dc mX12_text 1 (.iconst 0) 1 2 := ⟨k_dX12_text_0.2.1, rfl⟩
theorem dX12_text_2 : Dc mX12_text 2 (.putfield 169) 3 5 := ⟨k_dX12_text_0.2.2.1, rfl⟩
theorem dX12_text_5 : Dc mX12_text 5 (.iload_n 1) 1 6 := ⟨k_dX12_text_0.2.2.2.1, rfl⟩
theorem dX12_text_6 : Dc mX12_text 6 (.ifCond .lt 11) 3 9 := ⟨k_dX12_text_0.2.2.2.2.1, rfl⟩
theorem dX12_text_9 : Dc mX12_text 9 (.iload_n 1) 1 10 := ⟨k_dX12_text_0.2.2.2.2.2, rfl⟩
theorem k_dX12_text_10 : decode (mX12_text).2.1 10 = .ok ((.aload_n 0), 1) ∧ decode (mX12_text).2.1 11 = .ok ((.getfield 172), 3) ∧ decode (mX12_text).2.1 14 = .ok ((.if_icmp .le 6), 3) ∧ decode (mX12_text).2.1 17 = .ok ((.bipush (-2)), 2) ∧ decode (mX12_text).2.1 19 = .ok ((.ireturn), 1) ∧ decode (mX12_text).2.1 20 = .ok ((.aload_n 0), 1) := by decide +kernel
theorem dX12_text_10 : Dc mX12_text 10 (.aload_n 0) 1 11 := ⟨k_dX12_text_10.1, rfl⟩
theorem dX12_text_11 : Dc mX12_text 11 (.getfield 172) 3 14 := ⟨k_dX12_text_10.2.1, rfl⟩
theorem dX12_text_14 : Dc mX12_text 14 (.if_icmp .le 6) 3 17 := ⟨k_dX12_text_10.2.2.1, rfl⟩
theorem dX12_text_17 : Dc mX12_text 17 (.bipush (-2)) 2 19 := ⟨k_dX12_text_10.2.2.2.1, rfl⟩
theorem dX12_text_19 : Dc mX12_text 19 (.ireturn) 1 20 := ⟨k_dX12_text_10.2.2.2.2.1, rfl⟩
theorem dX12_text_20 : Dc mX12_text 20 (.aload_n 0) 1 21 := ⟨k_dX12_text_10.2.2.2.2.2, rfl⟩
theorem k_dX12_text_21 : decode (mX12_text).2.1 21 = .ok ((.iload_n 1), 1) ∧ decode (mX12_text).2.1 22 = .ok ((.putfield 178), 3) ∧ decode (mX12_text).2.1 25 = .ok ((.aload_n 0), 1) ∧ decode (mX12_text).2.1 26 = .ok ((.iconst 0), 1) ∧ decode (mX12_text).2.1 27 = .ok ((.putfield 172), 3) ∧ decode (mX12_text).2.1 30 = .ok ((.aload_n 0), 1) := by decide +kernel
theorem dX12_text_21 : Dc mX12_text 21 (.iload_n 1) 1 22 := ⟨k_dX12_text_21.1, rfl⟩
theorem dX12_text_22 : Dc mX12_text 22 (.putfield 178) 3 25 := ⟨k_dX12_text_21.2.1, rfl⟩
theorem dX12_text_25 : Dc mX12_text 25 (.aload_n 0) 1 26 := ⟨k_dX12_text_21.2.2.1, rfl⟩
theorem dX12_text_26 : Dc mX12_text 26 (.iconst 0) 1 27 := ⟨k_dX12_text_21.2.2.2.1, rfl⟩
theorem dX12_text_27 : Dc mX12_text 27 (.putfield 172) 3 30 := ⟨k_dX12_text_21.2.2.2.2.1, rfl⟩
theorem dX12_text_30 : Dc mX12_text 30 (.aload_n 0) 1 31 := ⟨k_dX12_text_21.2.2.2.2.2, rfl⟩
theorem k_dX12_text_31 : decode (mX12_text).2.1 31 = .ok ((.iconst 0), 1) ∧ decode (mX12_text).2.1 32 = .ok ((.putfield 175), 3) ∧ decode (mX12_text).2.1 35 = .ok ((.aload_n 0), 1) ∧ decode (mX12_text).2.1 36 = .ok ((.iconst 0), 1) ∧ decode (mX12_text).2.1 37 = .ok ((.putfield 223), 3) ∧ decode (mX12_text).2.1 40 = .ok ((.aload_n 0), 1) := by decide +kernel
theorem dX12_text_31 : Dc mX12_text 31 (.iconst 0) 1 32 := ⟨k_dX12_text_31.1, rfl⟩
theorem dX12_text_32 : Dc mX12_text 32 (.putfield 175) 3 35 := ⟨k_dX12_text_31.2.1, rfl⟩
theorem dX12_text_35 : Dc mX12_text 35 (.aload_n 0) 1 36 := ⟨k_dX12_text_31.2.2.1, rfl⟩
theorem dX12_text_36 : Dc mX12_text 36 (.iconst 0) 1 37 := ⟨k_dX12_text_31.2.2.2.1, rfl⟩
theorem dX12_text_37 : Dc mX12_text 37 (.putfield 223) 3 40 := ⟨k_dX12_text_31.2.2.2.2.1, rfl⟩
theorem dX12_text_40 : Dc mX12_text 40 (.aload_n 0) 1 41 := ⟨k_dX12_text_31.2.2.2.2.2, rfl⟩
theorem k_dX12_text_41 : decode (mX12_text).2.1 41 = .ok ((.iconst (-1)), 1) ∧ decode (mX12_text).2.1 42 = .ok ((.putfield 226), 3) ∧ decode (mX12_text).2.1 45 = .ok ((.iconst 0), 1) ∧ decode (mX12_text).2.1 46 = .ok ((.istore_n 2), 1) ∧ decode (mX12_text).2.1 47 = .ok ((.iload_n 2), 1) ∧ decode (mX12_text).2.1 48 = .ok ((.bipush 10), 2) := by decide +kernel
theorem dX12_text_41 : Dc mX12_text 41 (.iconst (-1)) 1 42 := ⟨k_dX12_text_41.1, rfl⟩
theorem dX12_text_42 : Dc mX12_text 42 (.putfield 226) 3 45 := ⟨k_dX12_text_41.2.1, rfl⟩
theorem dX12_text_45 : Dc mX12_text 45 (.iconst 0) 1 46 := ⟨k_dX12_text_41.2.2.1, rfl⟩
theorem dX12_text_46 : Dc mX12_text 46 (.istore_n 2) 1 47 := ⟨k_dX12_text_41.2.2.2.1, rfl⟩
theorem dX12_text_47 : Dc mX12_text 47 (.iload_n 2) 1 48 := ⟨k_dX12_text_41.2.2.2.2.1, rfl⟩
theorem dX12_text_48 : Dc mX12_text 48 (.bipush 10) 2 50 := ⟨k_dX12_text_41.2.2.2.2.2, rfl⟩
theorem k_dX12_text_50 : decode (mX12_text).2.1 50 = .ok ((.if_icmp .ge 26), 3) ∧ decode (mX12_text).2.1 53 = .ok ((.aload_n 0), 1) ∧ decode (mX12_text).2.1 54 = .ok ((.iload_n 2), 1) ∧ decode (mX12_text).2.1 55 = .ok ((.iload_n 2), 1) ∧ decode (mX12_text).2.1 56 = .ok ((.bipush 7), 2) ∧ decode (mX12_text).2.1 58 = .ok ((.if_icmp .ne 8), 3) := by decide +kernel
theorem dX12_text_50 : Dc mX12_text 50 (.if_icmp .ge 26) 3 53 := ⟨k_dX12_text_50.1, rfl⟩
theorem dX12_text_53 : Dc mX12_text 53 (.aload_n 0) 1 54 := ⟨k_dX12_text_50.2.1, rfl⟩
theorem dX12_text_54 : Dc mX12_text 54 (.iload_n 2) 1 55 := ⟨k_dX12_text_50.2.2.1, rfl⟩
theorem dX12_text_55 : Dc mX12_text 55 (.iload_n 2) 1 56 := ⟨k_dX12_text_50.2.2.2.1, rfl⟩
theorem dX12_text_56 : Dc mX12_text 56 (.bipush 7) 2 58 := ⟨k_dX12_text_50.2.2.2.2.1, rfl⟩
theorem dX12_text_58 : Dc mX12_text 58 (.if_icmp .ne 8) 3 61 := ⟨k_dX12_text_50.2.2.2.2.2, rfl⟩
theorem k_dX12_text_61 : decode (mX12_text).2.1 61 = .ok ((.bipush 99), 2) ∧ decode (mX12_text).2.1 63 = .ok ((.goto 4), 3) ∧ decode (mX12_text).2.1 66 = .ok ((.iconst 0), 1) ∧ decode (mX12_text).2.1 67 = .ok ((.invokevirtual 260), 3) ∧ decode (mX12_text).2.1 70 = .ok ((.iinc 2 1), 3) ∧ decode (mX12_text).2.1 73 = .ok ((.goto (-26)), 3) := by decide +kernel
theorem dX12_text_61 : Dc mX12_text 61 (.bipush 99) 2 63 := ⟨k_dX12_text_61.1, rfl⟩
theorem dX12_text_63 : Dc mX12_text 63 (.goto 4) 3 66 := ⟨k_dX12_text_61.2.1, rfl⟩
theorem dX12_text_66 : Dc mX12_text 66 (.iconst 0) 1 67 := ⟨k_dX12_text_61.2.2.1, rfl⟩
theorem dX12_text_67 : Dc mX12_text 67 (.invokevirtual 260) 3 70 := ⟨k_dX12_text_61.2.2.2.1, rfl⟩
theorem dX12_text_70 : Dc mX12_text 70 (.iinc 2 1) 3 73 := ⟨k_dX12_text_61.2.2.2.2.1, rfl⟩
theorem dX12_text_73 : Dc mX12_text 73 (.goto (-26)) 3 76 := ⟨k_dX12_text_61.2.2.2.2.2, rfl⟩
theorem k_dX12_text_76 : decode (mX12_text).2.1 76 = .ok ((.bipush 48), 2) ∧ decode (mX12_text).2.1 78 = .ok ((.istore_n 2), 1) ∧ decode (mX12_text).2.1 79 = .ok ((.iload_n 2), 1) ∧ decode (mX12_text).2.1 80 = .ok ((.bipush 96), 2) ∧ decode (mX12_text).2.1 82 = .ok ((.if_icmp .ge 16), 3) ∧ decode (mX12_text).2.1 85 = .ok ((.aload_n 0), 1) := by decide +kernel
theorem dX12_text_76 : Dc mX12_text 76 (.bipush 48) 2 78 := ⟨k_dX12_text_76.1, rfl⟩
theorem dX12_text_78 : Dc mX12_text 78 (.istore_n 2) 1 79 := ⟨k_dX12_text_76.2.1, rfl⟩
theorem dX12_text_79 : Dc mX12_text 79 (.iload_n 2) 1 80 := ⟨k_dX12_text_76.2.2.1, rfl⟩
theorem dX12_text_80 : Dc mX12_text 80 (.bipush 96) 2 82 := ⟨k_dX12_text_76.2.2.2.1, rfl⟩
theorem dX12_text_82 : Dc mX12_text 82 (.if_icmp .ge 16) 3 85 := ⟨k_dX12_text_76.2.2.2.2.1, rfl⟩
theorem dX12_text_85 : Dc mX12_text 85 (.aload_n 0) 1 86 := ⟨k_dX12_text_76.2.2.2.2.2, rfl⟩
theorem k_dX12_text_86 : decode (mX12_text).2.1 86 = .ok ((.getfield 34), 3) ∧ decode (mX12_text).2.1 89 = .ok ((.iload_n 2), 1) ∧ decode (mX12_text).2.1 90 = .ok ((.iconst (-1)), 1) ∧ decode (mX12_text).2.1 91 = .ok ((.iastore), 1) ∧ decode (mX12_text).2.1 92 = .ok ((.iinc 2 1), 3) ∧ decode (mX12_text).2.1 95 = .ok ((.goto (-16)), 3) := by decide +kernel
theorem dX12_text_86 : Dc mX12_text 86 (.getfield 34) 3 89 := ⟨k_dX12_text_86.1, rfl⟩
theorem dX12_text_89 : Dc mX12_text 89 (.iload_n 2) 1 90 := ⟨k_dX12_text_86.2.1, rfl⟩
theorem dX12_text_90 : Dc mX12_text 90 (.iconst (-1)) 1 91 := ⟨k_dX12_text_86.2.2.1, rfl⟩
theorem dX12_text_91 : Dc mX12_text 91 (.iastore) 1 92 := ⟨k_dX12_text_86.2.2.2.1, rfl⟩
theorem dX12_text_92 : Dc mX12_text 92 (.iinc 2 1) 3 95 := ⟨k_dX12_text_86.2.2.2.2.1, rfl⟩
theorem dX12_text_95 : Dc mX12_text 95 (.goto (-16)) 3 98 := ⟨k_dX12_text_86.2.2.2.2.2, rfl⟩
theorem k_dX12_text_98 : decode (mX12_text).2.1 98 = .ok ((.iconst 3), 1) ∧ decode (mX12_text).2.1 99 = .ok ((.istore_n 2), 1) ∧ decode (mX12_text).2.1 100 = .ok ((.iload_n 2), 1) ∧ decode (mX12_text).2.1 101 = .ok ((.bipush 6), 2) ∧ decode (mX12_text).2.1 103 = .ok ((.if_icmp .ge 23), 3) ∧ decode (mX12_text).2.1 106 = .ok ((.aload_n 0), 1) := by decide +kernel
theorem dX12_text_98 : Dc mX12_text 98 (.iconst 3) 1 99 := ⟨k_dX12_text_98.1, rfl⟩
theorem dX12_text_99 : Dc mX12_text 99 (.istore_n 2) 1 100 := ⟨k_dX12_text_98.2.1, rfl⟩
theorem dX12_text_100 : Dc mX12_text 100 (.iload_n 2) 1 101 := ⟨k_dX12_text_98.2.2.1, rfl⟩
theorem dX12_text_101 : Dc mX12_text 101 (.bipush 6) 2 103 := ⟨k_dX12_text_98.2.2.2.1, rfl⟩
theorem dX12_text_103 : Dc mX12_text 103 (.if_icmp .ge 23) 3 106 := ⟨k_dX12_text_98.2.2.2.2.1, rfl⟩
theorem dX12_text_106 : Dc mX12_text 106 (.aload_n 0) 1 107 := ⟨k_dX12_text_98.2.2.2.2.2, rfl⟩
theorem k_dX12_text_107 : decode (mX12_text).2.1 107 = .ok ((.getfield 61), 3) ∧ decode (mX12_text).2.1 110 = .ok ((.iload_n 2), 1) ∧ decode (mX12_text).2.1 111 = .ok ((.iconst 0), 1) ∧ decode (mX12_text).2.1 112 = .ok ((.iastore), 1) ∧ decode (mX12_text).2.1 113 = .ok ((.aload_n 0), 1) ∧ decode (mX12_text).2.1 114 = .ok ((.getfield 64), 3) := by decide +kernel
theorem dX12_text_107 : Dc mX12_text 107 (.getfield 61) 3 110 := ⟨k_dX12_text_107.1, rfl⟩
theorem dX12_text_110 : Dc mX12_text 110 (.iload_n 2) 1 111 := ⟨k_dX12_text_107.2.1, rfl⟩
theorem dX12_text_111 : Dc mX12_text 111 (.iconst 0) 1 112 := ⟨k_dX12_text_107.2.2.1, rfl⟩
theorem dX12_text_112 : Dc mX12_text 112 (.iastore) 1 113 := ⟨k_dX12_text_107.2.2.2.1, rfl⟩
theorem dX12_text_113 : Dc mX12_text 113 (.aload_n 0) 1 114 := ⟨k_dX12_text_107.2.2.2.2.1, rfl⟩
theorem dX12_text_114 : Dc mX12_text 114 (.getfield 64) 3 117 := ⟨k_dX12_text_107.2.2.2.2.2, rfl⟩
theorem k_dX12_text_117 : decode (mX12_text).2.1 117 = .ok ((.iload_n 2), 1) ∧ decode (mX12_text).2.1 118 = .ok ((.iconst 0), 1) ∧ decode (mX12_text).2.1 119 = .ok ((.iastore), 1) ∧ decode (mX12_text).2.1 120 = .ok ((.iinc 2 1), 3) ∧ decode (mX12_text).2.1 123 = .ok ((.goto (-23)), 3) ∧ decode (mX12_text).2.1 126 = .ok ((.aload_n 0), 1) := by decide +kernel
theorem dX12_text_117 : Dc mX12_text 117 (.iload_n 2) 1 118 := ⟨k_dX12_text_117.1, rfl⟩
theorem dX12_text_118 : Dc mX12_text 118 (.iconst 0) 1 119 := ⟨k_dX12_text_117.2.1, rfl⟩
theorem dX12_text_119 : Dc mX12_text 119 (.iastore) 1 120 := ⟨k_dX12_text_117.2.2.1, rfl⟩
theorem dX12_text_120 : Dc mX12_text 120 (.iinc 2 1) 3 123 := ⟨k_dX12_text_117.2.2.2.1, rfl⟩
theorem dX12_text_123 : Dc mX12_text 123 (.goto (-23)) 3 126 := ⟨k_dX12_text_117.2.2.2.2.1, rfl⟩
theorem dX12_text_126 : Dc mX12_text 126 (.aload_n 0) 1 127 := ⟨k_dX12_text_117.2.2.2.2.2, rfl⟩
theorem k_dX12_text_127 : decode (mX12_text).2.1 127 = .ok ((.iconst 0), 1) ∧ decode (mX12_text).2.1 128 = .ok ((.putfield 250), 3) ∧ decode (mX12_text).2.1 131 = .ok ((.aload_n 0), 1) ∧ decode (mX12_text).2.1 132 = .ok ((.iconst 0), 1) ∧ decode (mX12_text).2.1 133 = .ok ((.putfield 276), 3) ∧ decode (mX12_text).2.1 136 = .ok ((.aload_n 0), 1) := by decide +kernel
theorem dX12_text_127 : Dc mX12_text 127 (.iconst 0) 1 128 := ⟨k_dX12_text_127.1, rfl⟩
theorem dX12_text_128 : Dc mX12_text 128 (.putfield 250) 3 131 := ⟨k_dX12_text_127.2.1, rfl⟩
theorem dX12_text_131 : Dc mX12_text 131 (.aload_n 0) 1 132 := ⟨k_dX12_text_127.2.2.1, rfl⟩
theorem dX12_text_132 : Dc mX12_text 132 (.iconst 0) 1 133 := ⟨k_dX12_text_127.2.2.2.1, rfl⟩
theorem dX12_text_133 : Dc mX12_text 133 (.putfield 276) 3 136 := ⟨k_dX12_text_127.2.2.2.2.1, rfl⟩
theorem dX12_text_136 : Dc mX12_text 136 (.aload_n 0) 1 137 := ⟨k_dX12_text_127.2.2.2.2.2, rfl⟩
theorem k_dX12_text_137 : decode (mX12_text).2.1 137 = .ok ((.iconst 0), 1) ∧ decode (mX12_text).2.1 138 = .ok ((.putfield 315), 3) ∧ decode (mX12_text).2.1 141 = .ok ((.aload_n 0), 1) ∧ decode (mX12_text).2.1 142 = .ok ((.iconst 0), 1) ∧ decode (mX12_text).2.1 143 = .ok ((.putfield 288), 3) ∧ decode (mX12_text).2.1 146 = .ok ((.aload_n 0), 1) := by decide +kernel
theorem dX12_text_137 : Dc mX12_text 137 (.iconst 0) 1 138 := ⟨k_dX12_text_137.1, rfl⟩
theorem dX12_text_138 : Dc mX12_text 138 (.putfield 315) 3 141 := ⟨k_dX12_text_137.2.1, rfl⟩
theorem dX12_text_141 : Dc mX12_text 141 (.aload_n 0) 1 142 := ⟨k_dX12_text_137.2.2.1, rfl⟩
theorem dX12_text_142 : Dc mX12_text 142 (.iconst 0) 1 143 := ⟨k_dX12_text_137.2.2.2.1, rfl⟩
theorem dX12_text_143 : Dc mX12_text 143 (.putfield 288) 3 146 := ⟨k_dX12_text_137.2.2.2.2.1, rfl⟩
theorem dX12_text_146 : Dc mX12_text 146 (.aload_n 0) 1 147 := ⟨k_dX12_text_137.2.2.2.2.2, rfl⟩
theorem k_dX12_text_147 : decode (mX12_text).2.1 147 = .ok ((.invokevirtual 229), 3) ∧ decode (mX12_text).2.1 150 = .ok ((.aload_n 0), 1) ∧ decode (mX12_text).2.1 151 = .ok ((.getfield 223), 3) ∧ decode (mX12_text).2.1 154 = .ok ((.ifCond .ne 18), 3) ∧ decode (mX12_text).2.1 157 = .ok ((.aload_n 0), 1) ∧ decode (mX12_text).2.1 158 = .ok ((.getfield 188), 3) := by decide +kernel
theorem dX12_text_147 : Dc mX12_text 147 (.invokevirtual 229) 3 150 := ⟨k_dX12_text_147.1, rfl⟩
theorem dX12_text_150 : Dc mX12_text 150 (.aload_n 0) 1 151 := ⟨k_dX12_text_147.2.1, rfl⟩
theorem dX12_text_151 : Dc mX12_text 151 (.getfield 223) 3 154 := ⟨k_dX12_text_147.2.2.1, rfl⟩
theorem dX12_text_154 : Dc mX12_text 154 (.ifCond .ne 18) 3 157 := ⟨k_dX12_text_147.2.2.2.1, rfl⟩
theorem dX12_text_157 : Dc mX12_text 157 (.aload_n 0) 1 158 := ⟨k_dX12_text_147.2.2.2.2.1, rfl⟩
theorem dX12_text_158 : Dc mX12_text 158 (.getfield 188) 3 161 := ⟨k_dX12_text_147.2.2.2.2.2, rfl⟩
theorem k_dX12_text_161 : decode (mX12_text).2.1 161 = .ok ((.iconst 4), 1) ∧ decode (mX12_text).2.1 162 = .ok ((.if_icmp .eq 10), 3) ∧ decode (mX12_text).2.1 165 = .ok ((.aload_n 0), 1) ∧ decode (mX12_text).2.1 166 = .ok ((.invokevirtual 318), 3) ∧ decode (mX12_text).2.1 169 = .ok ((.goto (-19)), 3) ∧ decode (mX12_text).2.1 172 = .ok ((.aload_n 0), 1) := by decide +kernel
theorem dX12_text_161 : Dc mX12_text 161 (.iconst 4) 1 162 := ⟨k_dX12_text_161.1, rfl⟩
theorem dX12_text_162 : Dc mX12_text 162 (.if_icmp .eq 10) 3 165 := ⟨k_dX12_text_161.2.1, rfl⟩
theorem dX12_text_165 : Dc mX12_text 165 (.aload_n 0) 1 166 := ⟨k_dX12_text_161.2.2.1, rfl⟩
theorem dX12_text_166 : Dc mX12_text 166 (.invokevirtual 318) 3 169 := ⟨k_dX12_text_161.2.2.2.1, rfl⟩
theorem dX12_text_169 : Dc mX12_text 169 (.goto (-19)) 3 172 := ⟨k_dX12_text_161.2.2.2.2.1, rfl⟩
theorem dX12_text_172 : Dc mX12_text 172 (.aload_n 0) 1 173 := ⟨k_dX12_text_161.2.2.2.2.2, rfl⟩
theorem k_dX12_text_173 : decode (mX12_text).2.1 173 = .ok ((.aload_n 0), 1) ∧ decode (mX12_text).2.1 174 = .ok ((.getfield 223), 3) ∧ decode (mX12_text).2.1 177 = .ok ((.putfield 321), 3) ∧ decode (mX12_text).2.1 180 = .ok ((.aload_n 0), 1) ∧ decode (mX12_text).2.1 181 = .ok ((.aload_n 0), 1) ∧ decode (mX12_text).2.1 182 = .ok ((.getfield 226), 3) := by decide +kernel
theorem dX12_text_173 : Dc mX12_text 173 (.aload_n 0) 1 174 := ⟨k_dX12_text_173.1, rfl⟩
theorem dX12_text_174 : Dc mX12_text 174 (.getfield 223) 3 177 := ⟨k_dX12_text_173.2.1, rfl⟩
theorem dX12_text_177 : Dc mX12_text 177 (.putfield 321) 3 180 := ⟨k_dX12_text_173.2.2.1, rfl⟩
theorem dX12_text_180 : Dc mX12_text 180 (.aload_n 0) 1 181 := ⟨k_dX12_text_173.2.2.2.1, rfl⟩
theorem dX12_text_181 : Dc mX12_text 181 (.aload_n 0) 1 182 := ⟨k_dX12_text_173.2.2.2.2.1, rfl⟩
theorem dX12_text_182 : Dc mX12_text 182 (.getfield 226) 3 185 := ⟨k_dX12_text_173.2.2.2.2.2, rfl⟩
theorem k_dX12_text_185 : decode (mX12_text).2.1 185 = .ok ((.putfield 73), 3) ∧ decode (mX12_text).2.1 188 = .ok ((.aload_n 0), 1) ∧ decode (mX12_text).2.1 189 = .ok ((.getfield 223), 3) ∧ decode (mX12_text).2.1 192 = .ok ((.ifCond .eq 5), 3) ∧ decode (mX12_text).2.1 195 = .ok ((.iconst (-1)), 1) ∧ decode (mX12_text).2.1 196 = .ok ((.ireturn), 1) := by decide +kernel
theorem dX12_text_185 : Dc mX12_text 185 (.putfield 73) 3 188 := ⟨k_dX12_text_185.1, rfl⟩
theorem dX12_text_188 : Dc mX12_text 188 (.aload_n 0) 1 189 := ⟨k_dX12_text_185.2.1, rfl⟩
theorem dX12_text_189 : Dc mX12_text 189 (.getfield 223) 3 192 := ⟨k_dX12_text_185.2.2.1, rfl⟩
theorem dX12_text_192 : Dc mX12_text 192 (.ifCond .eq 5) 3 195 := ⟨k_dX12_text_185.2.2.2.1, rfl⟩
theorem dX12_text_195 : Dc mX12_text 195 (.iconst (-1)) 1 196 := ⟨k_dX12_text_185.2.2.2.2.1, rfl⟩
theorem dX12_text_196 : Dc mX12_text 196 (.ireturn) 1 197 := ⟨k_dX12_text_185.2.2.2.2.2, rfl⟩
theorem k_dX12_text_197 : decode (mX12_text).2.1 197 = .ok ((.aload_n 0), 1) ∧ decode (mX12_text).2.1 198 = .ok ((.getfield 13), 3) ∧ decode (mX12_text).2.1 201 = .ok ((.invokestatic 324), 3) ∧ decode (mX12_text).2.1 204 = .ok ((.aload_n 0), 1) ∧ decode (mX12_text).2.1 205 = .ok ((.getfield 16), 3) ∧ decode (mX12_text).2.1 208 = .ok ((.invokestatic 324), 3) := by decide +kernel
theorem dX12_text_197 : Dc mX12_text 197 (.aload_n 0) 1 198 := ⟨k_dX12_text_197.1, rfl⟩
theorem dX12_text_198 : Dc mX12_text 198 (.getfield 13) 3 201 := ⟨k_dX12_text_197.2.1, rfl⟩
theorem dX12_text_201 : Dc mX12_text 201 (.invokestatic 324) 3 204 := ⟨k_dX12_text_197.2.2.1, rfl⟩
theorem dX12_text_204 : Dc mX12_text 204 (.aload_n 0) 1 205 := ⟨k_dX12_text_197.2.2.2.1, rfl⟩
theorem dX12_text_205 : Dc mX12_text 205 (.getfield 16) 3 208 := ⟨k_dX12_text_197.2.2.2.2.1, rfl⟩
theorem dX12_text_208 : Dc mX12_text 208 (.invokestatic 324) 3 211 := ⟨k_dX12_text_197.2.2.2.2.2, rfl⟩
theorem k_dX12_text_211 : decode (mX12_text).2.1 211 = .ok ((.aload_n 0), 1) ∧ decode (mX12_text).2.1 212 = .ok ((.getfield 19), 3) ∧ decode (mX12_text).2.1 215 = .ok ((.invokestatic 324), 3) ∧ decode (mX12_text).2.1 218 = .ok ((.aload_n 0), 1) ∧ decode (mX12_text).2.1 219 = .ok ((.getfield 22), 3) ∧ decode (mX12_text).2.1 222 = .ok ((.invokestatic 324), 3) := by decide +kernel
theorem dX12_text_211 : Dc mX12_text 211 (.aload_n 0) 1 212 := ⟨k_dX12_text_211.1, rfl⟩
theorem dX12_text_212 : Dc mX12_text 212 (.getfield 19) 3 215 := ⟨k_dX12_text_211.2.1, rfl⟩
theorem dX12_text_215 : Dc mX12_text 215 (.invokestatic 324) 3 218 := ⟨k_dX12_text_211.2.2.1, rfl⟩
theorem dX12_text_218 : Dc mX12_text 218 (.aload_n 0) 1 219 := ⟨k_dX12_text_211.2.2.2.1, rfl⟩
theorem dX12_text_219 : Dc mX12_text 219 (.getfield 22) 3 222 := ⟨k_dX12_text_211.2.2.2.2.1, rfl⟩
theorem dX12_text_222 : Dc mX12_text 222 (.invokestatic 324) 3 225 := ⟨k_dX12_text_211.2.2.2.2.2, rfl⟩
theorem k_dX12_text_225 : decode (mX12_text).2.1 225 = .ok ((.aload_n 0), 1) ∧ decode (mX12_text).2.1 226 = .ok ((.getfield 25), 3) ∧ decode (mX12_text).2.1 229 = .ok ((.invokestatic 324), 3) ∧ decode (mX12_text).2.1 232 = .ok ((.aload_n 0), 1) ∧ decode (mX12_text).2.1 233 = .ok ((.getfield 28), 3) ∧ decode (mX12_text).2.1 236 = .ok ((.invokestatic 324), 3) := by decide +kernel
theorem dX12_text_225 : Dc mX12_text 225 (.aload_n 0) 1 226 := ⟨k_dX12_text_225.1, rfl⟩
theorem dX12_text_226 : Dc mX12_text 226 (.getfield 25) 3 229 := ⟨k_dX12_text_225.2.1, rfl⟩
theorem dX12_text_229 : Dc mX12_text 229 (.invokestatic 324) 3 232 := ⟨k_dX12_text_225.2.2.1, rfl⟩
theorem dX12_text_232 : Dc mX12_text 232 (.aload_n 0) 1 233 := ⟨k_dX12_text_225.2.2.2.1, rfl⟩
theorem dX12_text_233 : Dc mX12_text 233 (.getfield 28) 3 236 := ⟨k_dX12_text_225.2.2.2.2.1, rfl⟩
theorem dX12_text_236 : Dc mX12_text 236 (.invokestatic 324) 3 239 := ⟨k_dX12_text_225.2.2.2.2.2, rfl⟩
theorem k_dX12_text_239 : decode (mX12_text).2.1 239 = .ok ((.aload_n 0), 1) ∧ decode (mX12_text).2.1 240 = .ok ((.getfield 31), 3) ∧ decode (mX12_text).2.1 243 = .ok ((.invokestatic 324), 3) ∧ decode (mX12_text).2.1 246 = .ok ((.aload_n 0), 1) ∧ decode (mX12_text).2.1 247 = .ok ((.getfield 34), 3) ∧ decode (mX12_text).2.1 250 = .ok ((.invokestatic 324), 3) := by decide +kernel
theorem dX12_text_239 : Dc mX12_text 239 (.aload_n 0) 1 240 := ⟨k_dX12_text_239.1, rfl⟩
theorem dX12_text_240 : Dc mX12_text 240 (.getfield 31) 3 243 := ⟨k_dX12_text_239.2.1, rfl⟩
theorem dX12_text_243 : Dc mX12_text 243 (.invokestatic 324) 3 246 := ⟨k_dX12_text_239.2.2.1, rfl⟩
theorem dX12_text_246 : Dc mX12_text 246 (.aload_n 0) 1 247 := ⟨k_dX12_text_239.2.2.2.1, rfl⟩
theorem dX12_text_247 : Dc mX12_text 247 (.getfield 34) 3 250 := ⟨k_dX12_text_239.2.2.2.2.1, rfl⟩
theorem dX12_text_250 : Dc mX12_text 250 (.invokestatic 324) 3 253 := ⟨k_dX12_text_239.2.2.2.2.2, rfl⟩
theorem k_dX12_text_253 : decode (mX12_text).2.1 253 = .ok ((.aload_n 0), 1) ∧ decode (mX12_text).2.1 254 = .ok ((.getfield 37), 3) ∧ decode (mX12_text).2.1 257 = .ok ((.invokestatic 324), 3) ∧ decode (mX12_text).2.1 260 = .ok ((.aload_n 0), 1) ∧ decode (mX12_text).2.1 261 = .ok ((.getfield 40), 3) ∧ decode (mX12_text).2.1 264 = .ok ((.invokestatic 324), 3) := by decide +kernel
theorem dX12_text_253 : Dc mX12_text 253 (.aload_n 0) 1 254 := ⟨k_dX12_text_253.1, rfl⟩
theorem dX12_text_254 : Dc mX12_text 254 (.getfield 37) 3 257 := ⟨k_dX12_text_253.2.1, rfl⟩
theorem dX12_text_257 : Dc mX12_text 257 (.invokestatic 324) 3 260 := ⟨k_dX12_text_253.2.2.1, rfl⟩
theorem dX12_text_260 : Dc mX12_text 260 (.aload_n 0) 1 261 := ⟨k_dX12_text_253.2.2.2.1, rfl⟩
theorem dX12_text_261 : Dc mX12_text 261 (.getfield 40) 3 264 := ⟨k_dX12_text_253.2.2.2.2.1, rfl⟩
theorem dX12_text_264 : Dc mX12_text 264 (.invokestatic 324) 3 267 := ⟨k_dX12_text_253.2.2.2.2.2, rfl⟩
theorem k_dX12_text_267 : decode (mX12_text).2.1 267 = .ok ((.aload_n 0), 1) ∧ decode (mX12_text).2.1 268 = .ok ((.getfield 43), 3) ∧ decode (mX12_text).2.1 271 = .ok ((.invokestatic 324), 3) ∧ decode (mX12_text).2.1 274 = .ok ((.aload_n 0), 1) ∧ decode (mX12_text).2.1 275 = .ok ((.getfield 46), 3) ∧ decode (mX12_text).2.1 278 = .ok ((.invokestatic 324), 3) := by decide +kernel
theorem dX12_text_267 : Dc mX12_text 267 (.aload_n 0) 1 268 := ⟨k_dX12_text_267.1, rfl⟩
theorem dX12_text_268 : Dc mX12_text 268 (.getfield 43) 3 271 := ⟨k_dX12_text_267.2.1, rfl⟩
theorem dX12_text_271 : Dc mX12_text 271 (.invokestatic 324) 3 274 := ⟨k_dX12_text_267.2.2.1, rfl⟩
theorem dX12_text_274 : Dc mX12_text 274 (.aload_n 0) 1 275 := ⟨k_dX12_text_267.2.2.2.1, rfl⟩
theorem dX12_text_275 : Dc mX12_text 275 (.getfield 46) 3 278 := ⟨k_dX12_text_267.2.2.2.2.1, rfl⟩
theorem dX12_text_278 : Dc mX12_text 278 (.invokestatic 324) 3 281 := ⟨k_dX12_text_267.2.2.2.2.2, rfl⟩
theorem k_dX12_text_281 : decode (mX12_text).2.1 281 = .ok ((.aload_n 0), 1) ∧ decode (mX12_text).2.1 282 = .ok ((.getfield 49), 3) ∧ decode (mX12_text).2.1 285 = .ok ((.invokestatic 324), 3) ∧ decode (mX12_text).2.1 288 = .ok ((.aload_n 0), 1) ∧ decode (mX12_text).2.1 289 = .ok ((.getfield 52), 3) ∧ decode (mX12_text).2.1 292 = .ok ((.invokestatic 324), 3) := by decide +kernel
theorem dX12_text_281 : Dc mX12_text 281 (.aload_n 0) 1 282 := ⟨k_dX12_text_281.1, rfl⟩
theorem dX12_text_282 : Dc mX12_text 282 (.getfield 49) 3 285 := ⟨k_dX12_text_281.2.1, rfl⟩
theorem dX12_text_285 : Dc mX12_text 285 (.invokestatic 324) 3 288 := ⟨k_dX12_text_281.2.2.1, rfl⟩
theorem dX12_text_288 : Dc mX12_text 288 (.aload_n 0) 1 289 := ⟨k_dX12_text_281.2.2.2.1, rfl⟩
theorem dX12_text_289 : Dc mX12_text 289 (.getfield 52) 3 292 := ⟨k_dX12_text_281.2.2.2.2.1, rfl⟩
theorem dX12_text_292 : Dc mX12_text 292 (.invokestatic 324) 3 295 := ⟨k_dX12_text_281.2.2.2.2.2, rfl⟩
theorem k_dX12_text_295 : decode (mX12_text).2.1 295 = .ok ((.aload_n 0), 1) ∧ decode (mX12_text).2.1 296 = .ok ((.getfield 55), 3) ∧ decode (mX12_text).2.1 299 = .ok ((.invokestatic 324), 3) ∧ decode (mX12_text).2.1 302 = .ok ((.aload_n 0), 1) ∧ decode (mX12_text).2.1 303 = .ok ((.getfield 58), 3) ∧ decode (mX12_text).2.1 306 = .ok ((.invokestatic 324), 3) := by decide +kernel
theorem dX12_text_295 : Dc mX12_text 295 (.aload_n 0) 1 296 := ⟨k_dX12_text_295.1, rfl⟩
theorem dX12_text_296 : Dc mX12_text 296 (.getfield 55) 3 299 := ⟨k_dX12_text_295.2.1, rfl⟩
theorem dX12_text_299 : Dc mX12_text 299 (.invokestatic 324) 3 302 := ⟨k_dX12_text_295.2.2.1, rfl⟩
theorem dX12_text_302 : Dc mX12_text 302 (.aload_n 0) 1 303 := ⟨k_dX12_text_295.2.2.2.1, rfl⟩
theorem dX12_text_303 : Dc mX12_text 303 (.getfield 58) 3 306 := ⟨k_dX12_text_295.2.2.2.2.1, rfl⟩
theorem dX12_text_306 : Dc mX12_text 306 (.invokestatic 324) 3 309 := ⟨k_dX12_text_295.2.2.2.2.2, rfl⟩
theorem k_dX12_text_309 : decode (mX12_text).2.1 309 = .ok ((.aload_n 0), 1) ∧ decode (mX12_text).2.1 310 = .ok ((.getfield 61), 3) ∧ decode (mX12_text).2.1 313 = .ok ((.invokestatic 324), 3) ∧ decode (mX12_text).2.1 316 = .ok ((.aload_n 0), 1) ∧ decode (mX12_text).2.1 317 = .ok ((.getfield 64), 3) ∧ decode (mX12_text).2.1 320 = .ok ((.invokestatic 324), 3) := by decide +kernel
theorem dX12_text_309 : Dc mX12_text 309 (.aload_n 0) 1 310 := ⟨k_dX12_text_309.1, rfl⟩
theorem dX12_text_310 : Dc mX12_text 310 (.getfield 61) 3 313 := ⟨k_dX12_text_309.2.1, rfl⟩
theorem dX12_text_313 : Dc mX12_text 313 (.invokestatic 324) 3 316 := ⟨k_dX12_text_309.2.2.1, rfl⟩
theorem dX12_text_316 : Dc mX12_text 316 (.aload_n 0) 1 317 := ⟨k_dX12_text_309.2.2.2.1, rfl⟩
theorem dX12_text_317 : Dc mX12_text 317 (.getfield 64) 3 320 := ⟨k_dX12_text_309.2.2.2.2.1, rfl⟩
theorem dX12_text_320 : Dc mX12_text 320 (.invokestatic 324) 3 323 := ⟨k_dX12_text_309.2.2.2.2.2, rfl⟩
theorem k_dX12_text_323 : decode (mX12_text).2.1 323 = .ok ((.aload_n 0), 1) ∧ decode (mX12_text).2.1 324 = .ok ((.getfield 67), 3) ∧ decode (mX12_text).2.1 327 = .ok ((.invokestatic 324), 3) ∧ decode (mX12_text).2.1 330 = .ok ((.aload_n 0), 1) ∧ decode (mX12_text).2.1 331 = .ok ((.getfield 70), 3) ∧ decode (mX12_text).2.1 334 = .ok ((.invokestatic 324), 3) := by decide +kernel
theorem dX12_text_323 : Dc mX12_text 323 (.aload_n 0) 1 324 := ⟨k_dX12_text_323.1, rfl⟩
theorem dX12_text_324 : Dc mX12_text 324 (.getfield 67) 3 327 := ⟨k_dX12_text_323.2.1, rfl⟩
theorem dX12_text_327 : Dc mX12_text 327 (.invokestatic 324) 3 330 := ⟨k_dX12_text_323.2.2.1, rfl⟩
theorem dX12_text_330 : Dc mX12_text 330 (.aload_n 0) 1 331 := ⟨k_dX12_text_323.2.2.2.1, rfl⟩
theorem dX12_text_331 : Dc mX12_text 331 (.getfield 70) 3 334 := ⟨k_dX12_text_323.2.2.2.2.1, rfl⟩
theorem dX12_text_334 : Dc mX12_text 334 (.invokestatic 324) 3 337 := ⟨k_dX12_text_323.2.2.2.2.2, rfl⟩
theorem k_dX12_text_337 : decode (mX12_text).2.1 337 = .ok ((.aload_n 0), 1) ∧ decode (mX12_text).2.1 338 = .ok ((.iconst 0), 1) ∧ decode (mX12_text).2.1 339 = .ok ((.putfield 328), 3) ∧ decode (mX12_text).2.1 342 = .ok ((.aload_n 0), 1) ∧ decode (mX12_text).2.1 343 = .ok ((.iconst (-1)), 1) ∧ decode (mX12_text).2.1 344 = .ok ((.putfield 147), 3) := by decide +kernel
theorem dX12_text_337 : Dc mX12_text 337 (.aload_n 0) 1 338 := ⟨k_dX12_text_337.1, rfl⟩
theorem dX12_text_338 : Dc mX12_text 338 (.iconst 0) 1 339 := ⟨k_dX12_text_337.2.1, rfl⟩
theorem dX12_text_339 : Dc mX12_text 339 (.putfield 328) 3 342 := ⟨k_dX12_text_337.2.2.1, rfl⟩
theorem dX12_text_342 : Dc mX12_text 342 (.aload_n 0) 1 343 := ⟨k_dX12_text_337.2.2.2.1, rfl⟩
theorem dX12_text_343 : Dc mX12_text 343 (.iconst (-1)) 1 344 := ⟨k_dX12_text_337.2.2.2.2.1, rfl⟩
theorem dX12_text_344 : Dc mX12_text 344 (.putfield 147) 3 347 := ⟨k_dX12_text_337.2.2.2.2.2, rfl⟩
theorem k_dX12_text_347 : decode (mX12_text).2.1 347 = .ok ((.aload_n 0), 1) ∧ decode (mX12_text).2.1 348 = .ok ((.iconst 0), 1) ∧ decode (mX12_text).2.1 349 = .ok ((.putfield 331), 3) ∧ decode (mX12_text).2.1 352 = .ok ((.aload_n 0), 1) ∧ decode (mX12_text).2.1 353 = .ok ((.iconst 0), 1) ∧ decode (mX12_text).2.1 354 = .ok ((.putfield 335), 3) := by decide +kernel
theorem dX12_text_347 : Dc mX12_text 347 (.aload_n 0) 1 348 := ⟨k_dX12_text_347.1, rfl⟩
theorem dX12_text_348 : Dc mX12_text 348 (.iconst 0) 1 349 := ⟨k_dX12_text_347.2.1, rfl⟩
theorem dX12_text_349 : Dc mX12_text 349 (.putfield 331) 3 352 := ⟨k_dX12_text_347.2.2.1, rfl⟩
theorem dX12_text_352 : Dc mX12_text 352 (.aload_n 0) 1 353 := ⟨k_dX12_text_347.2.2.2.1, rfl⟩
theorem dX12_text_353 : Dc mX12_text 353 (.iconst 0) 1 354 := ⟨k_dX12_text_347.2.2.2.2.1, rfl⟩
theorem dX12_text_354 : Dc mX12_text 354 (.putfield 335) 3 357 := ⟨k_dX12_text_347.2.2.2.2.2, rfl⟩
theorem k_dX12_text_357 : decode (mX12_text).2.1 357 = .ok ((.aload_n 0), 1) ∧ decode (mX12_text).2.1 358 = .ok ((.invokevirtual 166), 3) ∧ decode (mX12_text).2.1 361 = .ok ((.aload_n 0), 1) ∧ decode (mX12_text).2.1 362 = .ok ((.getfield 276), 3) ∧ decode (mX12_text).2.1 365 = .ok ((.ireturn), 1) := by decide +kernel
theorem dX12_text_357 : Dc mX12_text 357 (.aload_n 0) 1 358 := ⟨k_dX12_text_357.1, rfl⟩
theorem dX12_text_358 : Dc mX12_text 358 (.invokevirtual 166) 3 361 := ⟨k_dX12_text_357.2.1, rfl⟩
theorem dX12_text_361 : Dc mX12_text 361 (.aload_n 0) 1 362 := ⟨k_dX12_text_357.2.2.1, rfl⟩
theorem dX12_text_362 : Dc mX12_text 362 (.getfield 276) 3 365 := ⟨k_dX12_text_357.2.2.2.1, rfl⟩
theorem dX12_text_365 : Dc mX12_text 365 (.ireturn) 1 366 := ⟨k_dX12_text_357.2.2.2.2, rfl⟩
theorem k_dX12_fault_0 : decode (mX12_fault).2.1 0 = .ok ((.aload_n 0), 1) ∧ decode (mX12_fault).2.1 1 = .ok ((.iconst 0), 1) ∧ decode (mX12_fault).2.1 2 = .ok ((.putfield 169), 3) ∧ decode (mX12_fault).2.1 5 = .ok ((.iload_n 1), 1) ∧ decode (mX12_fault).2.1 6 = .ok ((.ifCond .ne 10), 3) ∧ decode (mX12_fault).2.1 9 = .ok ((.aload_n 0), 1) := by decide +kernel
theorem dX12_fault_0 : Dc mX12_fault 0 (.aload_n 0) 1 1 := ⟨k_dX12_fault_0.1, rfl⟩
theorem dX12_fault_1 : Dc mX12_fault 1 (.iconst 0) 1 2 := ⟨k_dX12_fault_0.2.1, rfl⟩
theorem dX12_fault_2 : Dc mX12_fault 2 (.putfield 169) 3 5 := ⟨k_dX12_fault_0.2.2.1, rfl⟩
theorem dX12_fault_5 : Dc mX12_fault 5 (.iload_n 1) 1 6 := ⟨k_dX12_fault_0.2.2.2.1, rfl⟩
theorem dX12_fault_6 : Dc mX12_fault 6 (.ifCond .ne 10) 3 9 := ⟨k_dX12_fault_0.2.2.2.2.1, rfl⟩
theorem dX12_fault_9 : Dc mX12_fault 9 (.aload_n 0) 1 10 := ⟨k_dX12_fault_0.2.2.2.2.2, rfl⟩
theorem k_dX12_fault_10 : decode (mX12_fault).2.1 10 = .ok ((.getfield 321), 3) ∧ decode (mX12_fault).2.1 13 = .ok ((.goto 16), 3) ∧ decode (mX12_fault).2.1 16 = .ok ((.iload_n 1), 1) ∧ decode (mX12_fault).2.1 17 = .ok ((.iconst 1), 1) ∧ decode (mX12_fault).2.1 18 = .ok ((.if_icmp .ne 10), 3) ∧ decode (mX12_fault).2.1 21 = .ok ((.aload_n 0), 1) := by decide +kernel
theorem dX12_fault_10 : Dc mX12_fault 10 (.getfield 321) 3 13 := ⟨k_dX12_fault_10.1, rfl⟩
theorem dX12_fault_13 : Dc mX12_fault 13 (.goto 16) 3 16 := ⟨k_dX12_fault_10.2.1, rfl⟩
theorem dX12_fault_16 : Dc mX12_fault 16 (.iload_n 1) 1 17 := ⟨k_dX12_fault_10.2.2.1, rfl⟩
theorem dX12_fault_17 : Dc mX12_fault 17 (.iconst 1) 1 18 := ⟨k_dX12_fault_10.2.2.2.1, rfl⟩
theorem dX12_fault_18 : Dc mX12_fault 18 (.if_icmp .ne 10) 3 21 := ⟨k_dX12_fault_10.2.2.2.2.1, rfl⟩
theorem dX12_fault_21 : Dc mX12_fault 21 (.aload_n 0) 1 22 := ⟨k_dX12_fault_10.2.2.2.2.2, rfl⟩
theorem k_dX12_fault_22 : decode (mX12_fault).2.1 22 = .ok ((.getfield 73), 3) ∧ decode (mX12_fault).2.1 25 = .ok ((.goto 4), 3) ∧ decode (mX12_fault).2.1 28 = .ok ((.iconst (-1)), 1) ∧ decode (mX12_fault).2.1 29 = .ok ((.ireturn), 1) := by decide +kernel
theorem dX12_fault_22 : Dc mX12_fault 22 (.getfield 73) 3 25 := ⟨k_dX12_fault_22.1, rfl⟩
theorem dX12_fault_25 : Dc mX12_fault 25 (.goto 4) 3 28 := ⟨k_dX12_fault_22.2.1, rfl⟩
theorem dX12_fault_28 : Dc mX12_fault 28 (.iconst (-1)) 1 29 := ⟨k_dX12_fault_22.2.2.1, rfl⟩
theorem dX12_fault_29 : Dc mX12_fault 29 (.ireturn) 1 30 := ⟨k_dX12_fault_22.2.2.2, rfl⟩
theorem k_dX12_named_0 : decode (mX12_named).2.1 0 = .ok ((.aload_n 0), 1) ∧ decode (mX12_named).2.1 1 = .ok ((.iconst 0), 1) ∧ decode (mX12_named).2.1 2 = .ok ((.putfield 169), 3) ∧ decode (mX12_named).2.1 5 = .ok ((.iload_n 1), 1) ∧ decode (mX12_named).2.1 6 = .ok ((.tableswitch 94 0 3 #[30, 46, 62, 78]), 30) ∧ decode (mX12_named).2.1 36 = .ok ((.aload_n 0), 1) := by decide +kernel
theorem dX12_named_0 : Dc mX12_named 0 (.aload_n 0) 1 1 := ⟨k_dX12_named_0.1, rfl⟩
theorem dX12_named_1 : Dc mX12_named 1 (.iconst 0) 1 2 := ⟨k_dX12_named_0.2.1, rfl⟩
theorem dX12_named_2 : Dc mX12_named 2 (.putfield 169) 3 5 := ⟨k_dX12_named_0.2.2.1, rfl⟩
theorem dX12_named_5 : Dc mX12_named 5 (.iload_n 1) 1 6 := ⟨k_dX12_named_0.2.2.2.1, rfl⟩
theorem dX12_named_6 : Dc mX12_named 6 (.tableswitch 94 0 3 #[30, 46, 62, 78]) 30 36 := ⟨k_dX12_named_0.2.2.2.2.1, rfl⟩
theorem dX12_named_36 : Dc mX12_named 36 (.aload_n 0) 1 37 := ⟨k_dX12_named_0.2.2.2.2.2, rfl⟩
theorem k_dX12_named_37 : decode (mX12_named).2.1 37 = .ok ((.getfield 16), 3) ∧ decode (mX12_named).2.1 40 = .ok ((.iconst 0), 1) ∧ decode (mX12_named).2.1 41 = .ok ((.aload_n 0), 1) ∧ decode (mX12_named).2.1 42 = .ok ((.getfield 13), 3) ∧ decode (mX12_named).2.1 45 = .ok ((.iconst 0), 1) ∧ decode (mX12_named).2.1 46 = .ok ((.iaload), 1) := by decide +kernel
theorem dX12_named_37 : Dc mX12_named 37 (.getfield 16) 3 40 := ⟨k_dX12_named_37.1, rfl⟩
theorem dX12_named_40 : Dc mX12_named 40 (.iconst 0) 1 41 := ⟨k_dX12_named_37.2.1, rfl⟩
theorem dX12_named_41 : Dc mX12_named 41 (.aload_n 0) 1 42 := ⟨k_dX12_named_37.2.2.1, rfl⟩
theorem dX12_named_42 : Dc mX12_named 42 (.getfield 13) 3 45 := ⟨k_dX12_named_37.2.2.2.1, rfl⟩
theorem dX12_named_45 : Dc mX12_named 45 (.iconst 0) 1 46 := ⟨k_dX12_named_37.2.2.2.2.1, rfl⟩
theorem dX12_named_46 : Dc mX12_named 46 (.iaload) 1 47 := ⟨k_dX12_named_37.2.2.2.2.2, rfl⟩
theorem k_dX12_named_47 : decode (mX12_named).2.1 47 = .ok ((.iload_n 2), 1) ∧ decode (mX12_named).2.1 48 = .ok ((.invokestatic 235), 3) ∧ decode (mX12_named).2.1 51 = .ok ((.ireturn), 1) ∧ decode (mX12_named).2.1 52 = .ok ((.aload_n 0), 1) ∧ decode (mX12_named).2.1 53 = .ok ((.getfield 25), 3) ∧ decode (mX12_named).2.1 56 = .ok ((.iconst 0), 1) := by decide +kernel
theorem dX12_named_47 : Dc mX12_named 47 (.iload_n 2) 1 48 := ⟨k_dX12_named_47.1, rfl⟩
theorem dX12_named_48 : Dc mX12_named 48 (.invokestatic 235) 3 51 := ⟨k_dX12_named_47.2.1, rfl⟩
theorem dX12_named_51 : Dc mX12_named 51 (.ireturn) 1 52 := ⟨k_dX12_named_47.2.2.1, rfl⟩
theorem dX12_named_52 : Dc mX12_named 52 (.aload_n 0) 1 53 := ⟨k_dX12_named_47.2.2.2.1, rfl⟩
theorem dX12_named_53 : Dc mX12_named 53 (.getfield 25) 3 56 := ⟨k_dX12_named_47.2.2.2.2.1, rfl⟩
theorem dX12_named_56 : Dc mX12_named 56 (.iconst 0) 1 57 := ⟨k_dX12_named_47.2.2.2.2.2, rfl⟩
theorem k_dX12_named_57 : decode (mX12_named).2.1 57 = .ok ((.aload_n 0), 1) ∧ decode (mX12_named).2.1 58 = .ok ((.getfield 13), 3) ∧ decode (mX12_named).2.1 61 = .ok ((.iconst 1), 1) ∧ decode (mX12_named).2.1 62 = .ok ((.iaload), 1) ∧ decode (mX12_named).2.1 63 = .ok ((.iload_n 2), 1) ∧ decode (mX12_named).2.1 64 = .ok ((.invokestatic 235), 3) := by decide +kernel
theorem dX12_named_57 : Dc mX12_named 57 (.aload_n 0) 1 58 := ⟨k_dX12_named_57.1, rfl⟩
theorem dX12_named_58 : Dc mX12_named 58 (.getfield 13) 3 61 := ⟨k_dX12_named_57.2.1, rfl⟩
theorem dX12_named_61 : Dc mX12_named 61 (.iconst 1) 1 62 := ⟨k_dX12_named_57.2.2.1, rfl⟩
theorem dX12_named_62 : Dc mX12_named 62 (.iaload) 1 63 := ⟨k_dX12_named_57.2.2.2.1, rfl⟩
theorem dX12_named_63 : Dc mX12_named 63 (.iload_n 2) 1 64 := ⟨k_dX12_named_57.2.2.2.2.1, rfl⟩
theorem dX12_named_64 : Dc mX12_named 64 (.invokestatic 235) 3 67 := ⟨k_dX12_named_57.2.2.2.2.2, rfl⟩
theorem k_dX12_named_67 : decode (mX12_named).2.1 67 = .ok ((.ireturn), 1) ∧ decode (mX12_named).2.1 68 = .ok ((.aload_n 0), 1) ∧ decode (mX12_named).2.1 69 = .ok ((.getfield 37), 3) ∧ decode (mX12_named).2.1 72 = .ok ((.iconst 0), 1) ∧ decode (mX12_named).2.1 73 = .ok ((.aload_n 0), 1) ∧ decode (mX12_named).2.1 74 = .ok ((.getfield 13), 3) := by decide +kernel
theorem dX12_named_67 : Dc mX12_named 67 (.ireturn) 1 68 := ⟨k_dX12_named_67.1, rfl⟩
theorem dX12_named_68 : Dc mX12_named 68 (.aload_n 0) 1 69 := ⟨k_dX12_named_67.2.1, rfl⟩
theorem dX12_named_69 : Dc mX12_named 69 (.getfield 37) 3 72 := ⟨k_dX12_named_67.2.2.1, rfl⟩
theorem dX12_named_72 : Dc mX12_named 72 (.iconst 0) 1 73 := ⟨k_dX12_named_67.2.2.2.1, rfl⟩
theorem dX12_named_73 : Dc mX12_named 73 (.aload_n 0) 1 74 := ⟨k_dX12_named_67.2.2.2.2.1, rfl⟩
theorem dX12_named_74 : Dc mX12_named 74 (.getfield 13) 3 77 := ⟨k_dX12_named_67.2.2.2.2.2, rfl⟩
theorem k_dX12_named_77 : decode (mX12_named).2.1 77 = .ok ((.iconst 3), 1) ∧ decode (mX12_named).2.1 78 = .ok ((.iaload), 1) ∧ decode (mX12_named).2.1 79 = .ok ((.iload_n 2), 1) ∧ decode (mX12_named).2.1 80 = .ok ((.invokestatic 235), 3) ∧ decode (mX12_named).2.1 83 = .ok ((.ireturn), 1) ∧ decode (mX12_named).2.1 84 = .ok ((.aload_n 0), 1) := by decide +kernel
theorem dX12_named_77 : Dc mX12_named 77 (.iconst 3) 1 78 := ⟨k_dX12_named_77.1, rfl⟩
theorem dX12_named_78 : Dc mX12_named 78 (.iaload) 1 79 := ⟨k_dX12_named_77.2.1, rfl⟩
theorem dX12_named_79 : Dc mX12_named 79 (.iload_n 2) 1 80 := ⟨k_dX12_named_77.2.2.1, rfl⟩
theorem dX12_named_80 : Dc mX12_named 80 (.invokestatic 235) 3 83 := ⟨k_dX12_named_77.2.2.2.1, rfl⟩
theorem dX12_named_83 : Dc mX12_named 83 (.ireturn) 1 84 := ⟨k_dX12_named_77.2.2.2.2.1, rfl⟩
theorem dX12_named_84 : Dc mX12_named 84 (.aload_n 0) 1 85 := ⟨k_dX12_named_77.2.2.2.2.2, rfl⟩
theorem k_dX12_named_85 : decode (mX12_named).2.1 85 = .ok ((.getfield 49), 3) ∧ decode (mX12_named).2.1 88 = .ok ((.iconst 0), 1) ∧ decode (mX12_named).2.1 89 = .ok ((.aload_n 0), 1) ∧ decode (mX12_named).2.1 90 = .ok ((.getfield 13), 3) ∧ decode (mX12_named).2.1 93 = .ok ((.iconst 4), 1) ∧ decode (mX12_named).2.1 94 = .ok ((.iaload), 1) := by decide +kernel
theorem dX12_named_85 : Dc mX12_named 85 (.getfield 49) 3 88 := ⟨k_dX12_named_85.1, rfl⟩
theorem dX12_named_88 : Dc mX12_named 88 (.iconst 0) 1 89 := ⟨k_dX12_named_85.2.1, rfl⟩
theorem dX12_named_89 : Dc mX12_named 89 (.aload_n 0) 1 90 := ⟨k_dX12_named_85.2.2.1, rfl⟩
theorem dX12_named_90 : Dc mX12_named 90 (.getfield 13) 3 93 := ⟨k_dX12_named_85.2.2.2.1, rfl⟩
theorem dX12_named_93 : Dc mX12_named 93 (.iconst 4) 1 94 := ⟨k_dX12_named_85.2.2.2.2.1, rfl⟩
theorem dX12_named_94 : Dc mX12_named 94 (.iaload) 1 95 := ⟨k_dX12_named_85.2.2.2.2.2, rfl⟩
theorem k_dX12_named_95 : decode (mX12_named).2.1 95 = .ok ((.iload_n 2), 1) ∧ decode (mX12_named).2.1 96 = .ok ((.invokestatic 235), 3) ∧ decode (mX12_named).2.1 99 = .ok ((.ireturn), 1) ∧ decode (mX12_named).2.1 100 = .ok ((.iconst (-1)), 1) ∧ decode (mX12_named).2.1 101 = .ok ((.ireturn), 1) := by decide +kernel
theorem dX12_named_95 : Dc mX12_named 95 (.iload_n 2) 1 96 := ⟨k_dX12_named_95.1, rfl⟩
theorem dX12_named_96 : Dc mX12_named 96 (.invokestatic 235) 3 99 := ⟨k_dX12_named_95.2.1, rfl⟩
theorem dX12_named_99 : Dc mX12_named 99 (.ireturn) 1 100 := ⟨k_dX12_named_95.2.2.1, rfl⟩
theorem dX12_named_100 : Dc mX12_named 100 (.iconst (-1)) 1 101 := ⟨k_dX12_named_95.2.2.2.1, rfl⟩
theorem dX12_named_101 : Dc mX12_named 101 (.ireturn) 1 102 := ⟨k_dX12_named_95.2.2.2.2, rfl⟩
theorem k_dX12_is_0 : decode (mX12_is).2.1 0 = .ok ((.iload_n 0), 1) ∧ decode (mX12_is).2.1 1 = .ok ((.ifCond .eq 7), 3) ∧ decode (mX12_is).2.1 4 = .ok ((.lconst 1), 1) ∧ decode (mX12_is).2.1 5 = .ok ((.goto 4), 3) ∧ decode (mX12_is).2.1 8 = .ok ((.lconst 0), 1) ∧ decode (mX12_is).2.1 9 = .ok ((.lreturn), 1) := by decide +kernel
theorem dX12_is_0 : Dc mX12_is 0 (.iload_n 0) 1 1 := ⟨k_dX12_is_0.1, rfl⟩
theorem dX12_is_1 : Dc mX12_is 1 (.ifCond .eq 7) 3 4 := ⟨k_dX12_is_0.2.1, rfl⟩
theorem dX12_is_4 : Dc mX12_is 4 (.lconst 1) 1 5 := ⟨k_dX12_is_0.2.2.1, rfl⟩
theorem dX12_is_5 : Dc mX12_is 5 (.goto 4) 3 8 := ⟨k_dX12_is_0.2.2.2.1, rfl⟩
theorem dX12_is_8 : Dc mX12_is 8 (.lconst 0) 1 9 := ⟨k_dX12_is_0.2.2.2.2.1, rfl⟩
theorem dX12_is_9 : Dc mX12_is 9 (.lreturn) 1 10 := ⟨k_dX12_is_0.2.2.2.2.2, rfl⟩
theorem k_dX12_works_0 : decode (mX12_works).2.1 0 = .ok ((.aload_n 0), 1) ∧ decode (mX12_works).2.1 1 = .ok ((.getfield 81), 3) ∧ decode (mX12_works).2.1 4 = .ok ((.aload_n 0), 1) ∧ decode (mX12_works).2.1 5 = .ok ((.getfield 338), 3) ∧ decode (mX12_works).2.1 8 = .ok ((.iconst 1), 1) ∧ decode (mX12_works).2.1 9 = .ok ((.isub), 1) := by decide +kernel
theorem dX12_works_0 : Dc mX12_works 0 (.aload_n 0) 1 1 := ⟨k_dX12_works_0.1, rfl⟩
theorem dX12_works_1 : Dc mX12_works 1 (.getfield 81) 3 4 := ⟨k_dX12_works_0.2.1, rfl⟩
theorem dX12_works_4 : Dc mX12_works 4 (.aload_n 0) 1 5 := ⟨k_dX12_works_0.2.2.1, rfl⟩
theorem dX12_works_5 : Dc mX12_works 5 (.getfield 338) 3 8 := ⟨k_dX12_works_0.2.2.2.1, rfl⟩
theorem dX12_works_8 : Dc mX12_works 8 (.iconst 1) 1 9 := ⟨k_dX12_works_0.2.2.2.2.1, rfl⟩
theorem dX12_works_9 : Dc mX12_works 9 (.isub) 1 10 := ⟨k_dX12_works_0.2.2.2.2.2, rfl⟩
theorem k_dX12_works_10 : decode (mX12_works).2.1 10 = .ok ((.laload), 1) ∧ decode (mX12_works).2.1 11 = .ok ((.lstore_n 2), 1) ∧ decode (mX12_works).2.1 12 = .ok ((.iload_n 1), 1) ∧ decode (mX12_works).2.1 13 = .ok ((.sipush 260), 3) ∧ decode (mX12_works).2.1 16 = .ok ((.if_icmp .ne 30), 3) ∧ decode (mX12_works).2.1 19 = .ok ((.aload_n 0), 1) := by decide +kernel
theorem dX12_works_10 : Dc mX12_works 10 (.laload) 1 11 := ⟨k_dX12_works_10.1, rfl⟩
theorem dX12_works_11 : Dc mX12_works 11 (.lstore_n 2) 1 12 := ⟨k_dX12_works_10.2.1, rfl⟩
theorem dX12_works_12 : Dc mX12_works 12 (.iload_n 1) 1 13 := ⟨k_dX12_works_10.2.2.1, rfl⟩
theorem dX12_works_13 : Dc mX12_works 13 (.sipush 260) 3 16 := ⟨k_dX12_works_10.2.2.2.1, rfl⟩
theorem dX12_works_16 : Dc mX12_works 16 (.if_icmp .ne 30) 3 19 := ⟨k_dX12_works_10.2.2.2.2.1, rfl⟩
theorem dX12_works_19 : Dc mX12_works 19 (.aload_n 0) 1 20 := ⟨k_dX12_works_10.2.2.2.2.2, rfl⟩
theorem k_dX12_works_20 : decode (mX12_works).2.1 20 = .ok ((.getfield 81), 3) ∧ decode (mX12_works).2.1 23 = .ok ((.aload_n 0), 1) ∧ decode (mX12_works).2.1 24 = .ok ((.getfield 338), 3) ∧ decode (mX12_works).2.1 27 = .ok ((.iconst 1), 1) ∧ decode (mX12_works).2.1 28 = .ok ((.isub), 1) ∧ decode (mX12_works).2.1 29 = .ok ((.lload_n 2), 1) := by decide +kernel
theorem dX12_works_20 : Dc mX12_works 20 (.getfield 81) 3 23 := ⟨k_dX12_works_20.1, rfl⟩
theorem dX12_works_23 : Dc mX12_works 23 (.aload_n 0) 1 24 := ⟨k_dX12_works_20.2.1, rfl⟩
theorem dX12_works_24 : Dc mX12_works 24 (.getfield 338) 3 27 := ⟨k_dX12_works_20.2.2.1, rfl⟩
theorem dX12_works_27 : Dc mX12_works 27 (.iconst 1) 1 28 := ⟨k_dX12_works_20.2.2.2.1, rfl⟩
theorem dX12_works_28 : Dc mX12_works 28 (.isub) 1 29 := ⟨k_dX12_works_20.2.2.2.2.1, rfl⟩
theorem dX12_works_29 : Dc mX12_works 29 (.lload_n 2) 1 30 := ⟨k_dX12_works_20.2.2.2.2.2, rfl⟩
theorem k_dX12_works_30 : decode (mX12_works).2.1 30 = .ok ((.lconst 0), 1) ∧ decode (mX12_works).2.1 31 = .ok ((.lcmp), 1) ∧ decode (mX12_works).2.1 32 = .ok ((.ifCond .ne 7), 3) ∧ decode (mX12_works).2.1 35 = .ok ((.iconst 1), 1) ∧ decode (mX12_works).2.1 36 = .ok ((.goto 4), 3) ∧ decode (mX12_works).2.1 39 = .ok ((.iconst 0), 1) := by decide +kernel
theorem dX12_works_30 : Dc mX12_works 30 (.lconst 0) 1 31 := ⟨k_dX12_works_30.1, rfl⟩
theorem dX12_works_31 : Dc mX12_works 31 (.lcmp) 1 32 := ⟨k_dX12_works_30.2.1, rfl⟩
theorem dX12_works_32 : Dc mX12_works 32 (.ifCond .ne 7) 3 35 := ⟨k_dX12_works_30.2.2.1, rfl⟩
theorem dX12_works_35 : Dc mX12_works 35 (.iconst 1) 1 36 := ⟨k_dX12_works_30.2.2.2.1, rfl⟩
theorem dX12_works_36 : Dc mX12_works 36 (.goto 4) 3 39 := ⟨k_dX12_works_30.2.2.2.2.1, rfl⟩
theorem dX12_works_39 : Dc mX12_works 39 (.iconst 0) 1 40 := ⟨k_dX12_works_30.2.2.2.2.2, rfl⟩
theorem k_dX12_works_40 : decode (mX12_works).2.1 40 = .ok ((.invokestatic 341), 3) ∧ decode (mX12_works).2.1 43 = .ok ((.lastore), 1) ∧ decode (mX12_works).2.1 44 = .ok ((.iconst 1), 1) ∧ decode (mX12_works).2.1 45 = .ok ((.ireturn), 1) ∧ decode (mX12_works).2.1 46 = .ok ((.aload_n 0), 1) ∧ decode (mX12_works).2.1 47 = .ok ((.getfield 81), 3) := by decide +kernel
theorem dX12_works_40 : Dc mX12_works 40 (.invokestatic 341) 3 43 := ⟨k_dX12_works_40.1, rfl⟩
theorem dX12_works_43 : Dc mX12_works 43 (.lastore) 1 44 := ⟨k_dX12_works_40.2.1, rfl⟩
theorem dX12_works_44 : Dc mX12_works 44 (.iconst 1) 1 45 := ⟨k_dX12_works_40.2.2.1, rfl⟩
theorem dX12_works_45 : Dc mX12_works 45 (.ireturn) 1 46 := ⟨k_dX12_works_40.2.2.2.1, rfl⟩
theorem dX12_works_46 : Dc mX12_works 46 (.aload_n 0) 1 47 := ⟨k_dX12_works_40.2.2.2.2.1, rfl⟩
theorem dX12_works_47 : Dc mX12_works 47 (.getfield 81) 3 50 := ⟨k_dX12_works_40.2.2.2.2.2, rfl⟩
theorem k_dX12_works_50 : decode (mX12_works).2.1 50 = .ok ((.aload_n 0), 1) ∧ decode (mX12_works).2.1 51 = .ok ((.getfield 338), 3) ∧ decode (mX12_works).2.1 54 = .ok ((.iconst 2), 1) ∧ decode (mX12_works).2.1 55 = .ok ((.isub), 1) ∧ decode (mX12_works).2.1 56 = .ok ((.laload), 1) ∧ decode (mX12_works).2.1 57 = .ok ((.lstore 4), 2) := by decide +kernel
theorem dX12_works_50 : Dc mX12_works 50 (.aload_n 0) 1 51 := ⟨k_dX12_works_50.1, rfl⟩
theorem dX12_works_51 : Dc mX12_works 51 (.getfield 338) 3 54 := ⟨k_dX12_works_50.2.1, rfl⟩
theorem dX12_works_54 : Dc mX12_works 54 (.iconst 2) 1 55 := ⟨k_dX12_works_50.2.2.1, rfl⟩
theorem dX12_works_55 : Dc mX12_works 55 (.isub) 1 56 := ⟨k_dX12_works_50.2.2.2.1, rfl⟩
theorem dX12_works_56 : Dc mX12_works 56 (.laload) 1 57 := ⟨k_dX12_works_50.2.2.2.2.1, rfl⟩
theorem dX12_works_57 : Dc mX12_works 57 (.lstore 4) 2 59 := ⟨k_dX12_works_50.2.2.2.2.2, rfl⟩
theorem k_dX12_works_59 : decode (mX12_works).2.1 59 = .ok ((.aload_n 0), 1) ∧ decode (mX12_works).2.1 60 = .ok ((.dup), 1) ∧ decode (mX12_works).2.1 61 = .ok ((.getfield 338), 3) ∧ decode (mX12_works).2.1 64 = .ok ((.iconst 1), 1) ∧ decode (mX12_works).2.1 65 = .ok ((.isub), 1) ∧ decode (mX12_works).2.1 66 = .ok ((.putfield 338), 3) := by decide +kernel
theorem dX12_works_59 : Dc mX12_works 59 (.aload_n 0) 1 60 := ⟨k_dX12_works_59.1, rfl⟩
theorem dX12_works_60 : Dc mX12_works 60 (.dup) 1 61 := ⟨k_dX12_works_59.2.1, rfl⟩
theorem dX12_works_61 : Dc mX12_works 61 (.getfield 338) 3 64 := ⟨k_dX12_works_59.2.2.1, rfl⟩
theorem dX12_works_64 : Dc mX12_works 64 (.iconst 1) 1 65 := ⟨k_dX12_works_59.2.2.2.1, rfl⟩
theorem dX12_works_65 : Dc mX12_works 65 (.isub) 1 66 := ⟨k_dX12_works_59.2.2.2.2.1, rfl⟩
theorem dX12_works_66 : Dc mX12_works 66 (.putfield 338) 3 69 := ⟨k_dX12_works_59.2.2.2.2.2, rfl⟩
theorem k_dX12_works_69 : decode (mX12_works).2.1 69 = .ok ((.iload_n 1), 1) ∧ decode (mX12_works).2.1 70 = .ok ((.lookupswitch 314 #[(42, 116), (43, 98), (45, 107), (47, 151), (60, 168), (61, 208), (62, 188), (256, 228), (257, 268), (258, 248), (261, 288)]), 98) ∧ decode (mX12_works).2.1 168 = .ok ((.lload 4), 2) ∧ decode (mX12_works).2.1 170 = .ok ((.lload_n 2), 1) ∧ decode (mX12_works).2.1 171 = .ok ((.ladd), 1) ∧ decode (mX12_works).2.1 172 = .ok ((.lstore 6), 2) := by decide +kernel
theorem dX12_works_69 : Dc mX12_works 69 (.iload_n 1) 1 70 := ⟨k_dX12_works_69.1, rfl⟩
theorem dX12_works_70 : Dc mX12_works 70 (.lookupswitch 314 #[(42, 116), (43, 98), (45, 107), (47, 151), (60, 168), (61, 208), (62, 188), (256, 228), (257, 268), (258, 248), (261, 288)]) 98 168 := ⟨k_dX12_works_69.2.1, rfl⟩
theorem dX12_works_168 : Dc mX12_works 168 (.lload 4) 2 170 := ⟨k_dX12_works_69.2.2.1, rfl⟩
theorem dX12_works_170 : Dc mX12_works 170 (.lload_n 2) 1 171 := ⟨k_dX12_works_69.2.2.2.1, rfl⟩
theorem dX12_works_171 : Dc mX12_works 171 (.ladd) 1 172 := ⟨k_dX12_works_69.2.2.2.2.1, rfl⟩
theorem dX12_works_172 : Dc mX12_works 172 (.lstore 6) 2 174 := ⟨k_dX12_works_69.2.2.2.2.2, rfl⟩
theorem k_dX12_works_174 : decode (mX12_works).2.1 174 = .ok ((.goto 233), 3) ∧ decode (mX12_works).2.1 177 = .ok ((.lload 4), 2) ∧ decode (mX12_works).2.1 179 = .ok ((.lload_n 2), 1) ∧ decode (mX12_works).2.1 180 = .ok ((.lsub), 1) ∧ decode (mX12_works).2.1 181 = .ok ((.lstore 6), 2) ∧ decode (mX12_works).2.1 183 = .ok ((.goto 224), 3) := by decide +kernel
theorem dX12_works_174 : Dc mX12_works 174 (.goto 233) 3 177 := ⟨k_dX12_works_174.1, rfl⟩
theorem dX12_works_177 : Dc mX12_works 177 (.lload 4) 2 179 := ⟨k_dX12_works_174.2.1, rfl⟩
theorem dX12_works_179 : Dc mX12_works 179 (.lload_n 2) 1 180 := ⟨k_dX12_works_174.2.2.1, rfl⟩
theorem dX12_works_180 : Dc mX12_works 180 (.lsub) 1 181 := ⟨k_dX12_works_174.2.2.2.1, rfl⟩
theorem dX12_works_181 : Dc mX12_works 181 (.lstore 6) 2 183 := ⟨k_dX12_works_174.2.2.2.2.1, rfl⟩
theorem dX12_works_183 : Dc mX12_works 183 (.goto 224) 3 186 := ⟨k_dX12_works_174.2.2.2.2.2, rfl⟩
theorem k_dX12_works_186 : decode (mX12_works).2.1 186 = .ok ((.lload 4), 2) ∧ decode (mX12_works).2.1 188 = .ok ((.lconst 0), 1) ∧ decode (mX12_works).2.1 189 = .ok ((.lcmp), 1) ∧ decode (mX12_works).2.1 190 = .ok ((.ifCond .eq 22), 3) ∧ decode (mX12_works).2.1 193 = .ok ((.lload_n 2), 1) ∧ decode (mX12_works).2.1 194 = .ok ((.invokestatic 345), 3) := by decide +kernel
theorem dX12_works_186 : Dc mX12_works 186 (.lload 4) 2 188 := ⟨k_dX12_works_186.1, rfl⟩
theorem dX12_works_188 : Dc mX12_works 188 (.lconst 0) 1 189 := ⟨k_dX12_works_186.2.1, rfl⟩
theorem dX12_works_189 : Dc mX12_works 189 (.lcmp) 1 190 := ⟨k_dX12_works_186.2.2.1, rfl⟩
theorem dX12_works_190 : Dc mX12_works 190 (.ifCond .eq 22) 3 193 := ⟨k_dX12_works_186.2.2.2.1, rfl⟩
theorem dX12_works_193 : Dc mX12_works 193 (.lload_n 2) 1 194 := ⟨k_dX12_works_186.2.2.2.2.1, rfl⟩
theorem dX12_works_194 : Dc mX12_works 194 (.invokestatic 345) 3 197 := ⟨k_dX12_works_186.2.2.2.2.2, rfl⟩
theorem k_dX12_works_197 : decode (mX12_works).2.1 197 = .ok ((.ldc2_w 351), 3) ∧ decode (mX12_works).2.1 200 = .ok ((.lload 4), 2) ∧ decode (mX12_works).2.1 202 = .ok ((.invokestatic 345), 3) ∧ decode (mX12_works).2.1 205 = .ok ((.ldiv), 1) ∧ decode (mX12_works).2.1 206 = .ok ((.lcmp), 1) ∧ decode (mX12_works).2.1 207 = .ok ((.ifCond .le 5), 3) := by decide +kernel
theorem dX12_works_197 : Dc mX12_works 197 (.ldc2_w 351) 3 200 := ⟨k_dX12_works_197.1, rfl⟩
theorem dX12_works_200 : Dc mX12_works 200 (.lload 4) 2 202 := ⟨k_dX12_works_197.2.1, rfl⟩
theorem dX12_works_202 : Dc mX12_works 202 (.invokestatic 345) 3 205 := ⟨k_dX12_works_197.2.2.1, rfl⟩
theorem dX12_works_205 : Dc mX12_works 205 (.ldiv) 1 206 := ⟨k_dX12_works_197.2.2.2.1, rfl⟩
theorem dX12_works_206 : Dc mX12_works 206 (.lcmp) 1 207 := ⟨k_dX12_works_197.2.2.2.2.1, rfl⟩
theorem dX12_works_207 : Dc mX12_works 207 (.ifCond .le 5) 3 210 := ⟨k_dX12_works_197.2.2.2.2.2, rfl⟩
theorem k_dX12_works_210 : decode (mX12_works).2.1 210 = .ok ((.iconst 0), 1) ∧ decode (mX12_works).2.1 211 = .ok ((.ireturn), 1) ∧ decode (mX12_works).2.1 212 = .ok ((.lload 4), 2) ∧ decode (mX12_works).2.1 214 = .ok ((.lload_n 2), 1) ∧ decode (mX12_works).2.1 215 = .ok ((.lmul), 1) ∧ decode (mX12_works).2.1 216 = .ok ((.lstore 6), 2) := by decide +kernel
theorem dX12_works_210 : Dc mX12_works 210 (.iconst 0) 1 211 := ⟨k_dX12_works_210.1, rfl⟩
theorem dX12_works_211 : Dc mX12_works 211 (.ireturn) 1 212 := ⟨k_dX12_works_210.2.1, rfl⟩
theorem dX12_works_212 : Dc mX12_works 212 (.lload 4) 2 214 := ⟨k_dX12_works_210.2.2.1, rfl⟩
theorem dX12_works_214 : Dc mX12_works 214 (.lload_n 2) 1 215 := ⟨k_dX12_works_210.2.2.2.1, rfl⟩
theorem dX12_works_215 : Dc mX12_works 215 (.lmul) 1 216 := ⟨k_dX12_works_210.2.2.2.2.1, rfl⟩
theorem dX12_works_216 : Dc mX12_works 216 (.lstore 6) 2 218 := ⟨k_dX12_works_210.2.2.2.2.2, rfl⟩
theorem k_dX12_works_218 : decode (mX12_works).2.1 218 = .ok ((.goto 189), 3) ∧ decode (mX12_works).2.1 221 = .ok ((.lload_n 2), 1) ∧ decode (mX12_works).2.1 222 = .ok ((.lconst 0), 1) ∧ decode (mX12_works).2.1 223 = .ok ((.lcmp), 1) ∧ decode (mX12_works).2.1 224 = .ok ((.ifCond .ne 5), 3) ∧ decode (mX12_works).2.1 227 = .ok ((.iconst 0), 1) := by decide +kernel
theorem dX12_works_218 : Dc mX12_works 218 (.goto 189) 3 221 := ⟨k_dX12_works_218.1, rfl⟩
theorem dX12_works_221 : Dc mX12_works 221 (.lload_n 2) 1 222 := ⟨k_dX12_works_218.2.1, rfl⟩
theorem dX12_works_222 : Dc mX12_works 222 (.lconst 0) 1 223 := ⟨k_dX12_works_218.2.2.1, rfl⟩
theorem dX12_works_223 : Dc mX12_works 223 (.lcmp) 1 224 := ⟨k_dX12_works_218.2.2.2.1, rfl⟩
theorem dX12_works_224 : Dc mX12_works 224 (.ifCond .ne 5) 3 227 := ⟨k_dX12_works_218.2.2.2.2.1, rfl⟩
theorem dX12_works_227 : Dc mX12_works 227 (.iconst 0) 1 228 := ⟨k_dX12_works_218.2.2.2.2.2, rfl⟩
theorem k_dX12_works_228 : decode (mX12_works).2.1 228 = .ok ((.ireturn), 1) ∧ decode (mX12_works).2.1 229 = .ok ((.lload 4), 2) ∧ decode (mX12_works).2.1 231 = .ok ((.lload_n 2), 1) ∧ decode (mX12_works).2.1 232 = .ok ((.ldiv), 1) ∧ decode (mX12_works).2.1 233 = .ok ((.lstore 6), 2) ∧ decode (mX12_works).2.1 235 = .ok ((.goto 172), 3) := by decide +kernel
theorem dX12_works_228 : Dc mX12_works 228 (.ireturn) 1 229 := ⟨k_dX12_works_228.1, rfl⟩
theorem dX12_works_229 : Dc mX12_works 229 (.lload 4) 2 231 := ⟨k_dX12_works_228.2.1, rfl⟩
theorem dX12_works_231 : Dc mX12_works 231 (.lload_n 2) 1 232 := ⟨k_dX12_works_228.2.2.1, rfl⟩
theorem dX12_works_232 : Dc mX12_works 232 (.ldiv) 1 233 := ⟨k_dX12_works_228.2.2.2.1, rfl⟩
theorem dX12_works_233 : Dc mX12_works 233 (.lstore 6) 2 235 := ⟨k_dX12_works_228.2.2.2.2.1, rfl⟩
theorem dX12_works_235 : Dc mX12_works 235 (.goto 172) 3 238 := ⟨k_dX12_works_228.2.2.2.2.2, rfl⟩
theorem k_dX12_works_238 : decode (mX12_works).2.1 238 = .ok ((.lload 4), 2) ∧ decode (mX12_works).2.1 240 = .ok ((.lload_n 2), 1) ∧ decode (mX12_works).2.1 241 = .ok ((.lcmp), 1) ∧ decode (mX12_works).2.1 242 = .ok ((.ifCond .ge 7), 3) ∧ decode (mX12_works).2.1 245 = .ok ((.iconst 1), 1) ∧ decode (mX12_works).2.1 246 = .ok ((.goto 4), 3) := by decide +kernel
theorem dX12_works_238 : Dc mX12_works 238 (.lload 4) 2 240 := ⟨k_dX12_works_238.1, rfl⟩
theorem dX12_works_240 : Dc mX12_works 240 (.lload_n 2) 1 241 := ⟨k_dX12_works_238.2.1, rfl⟩
theorem dX12_works_241 : Dc mX12_works 241 (.lcmp) 1 242 := ⟨k_dX12_works_238.2.2.1, rfl⟩
theorem dX12_works_242 : Dc mX12_works 242 (.ifCond .ge 7) 3 245 := ⟨k_dX12_works_238.2.2.2.1, rfl⟩
theorem dX12_works_245 : Dc mX12_works 245 (.iconst 1) 1 246 := ⟨k_dX12_works_238.2.2.2.2.1, rfl⟩
theorem dX12_works_246 : Dc mX12_works 246 (.goto 4) 3 249 := ⟨k_dX12_works_238.2.2.2.2.2, rfl⟩
theorem k_dX12_works_249 : decode (mX12_works).2.1 249 = .ok ((.iconst 0), 1) ∧ decode (mX12_works).2.1 250 = .ok ((.invokestatic 341), 3) ∧ decode (mX12_works).2.1 253 = .ok ((.lstore 6), 2) ∧ decode (mX12_works).2.1 255 = .ok ((.goto 152), 3) ∧ decode (mX12_works).2.1 258 = .ok ((.lload 4), 2) ∧ decode (mX12_works).2.1 260 = .ok ((.lload_n 2), 1) := by decide +kernel
theorem dX12_works_249 : Dc mX12_works 249 (.iconst 0) 1 250 := ⟨k_dX12_works_249.1, rfl⟩
theorem dX12_works_250 : Dc mX12_works 250 (.invokestatic 341) 3 253 := ⟨k_dX12_works_249.2.1, rfl⟩
theorem dX12_works_253 : Dc mX12_works 253 (.lstore 6) 2 255 := ⟨k_dX12_works_249.2.2.1, rfl⟩
theorem dX12_works_255 : Dc mX12_works 255 (.goto 152) 3 258 := ⟨k_dX12_works_249.2.2.2.1, rfl⟩
theorem dX12_works_258 : Dc mX12_works 258 (.lload 4) 2 260 := ⟨k_dX12_works_249.2.2.2.2.1, rfl⟩
theorem dX12_works_260 : Dc mX12_works 260 (.lload_n 2) 1 261 := ⟨k_dX12_works_249.2.2.2.2.2, rfl⟩
theorem k_dX12_works_261 : decode (mX12_works).2.1 261 = .ok ((.lcmp), 1) ∧ decode (mX12_works).2.1 262 = .ok ((.ifCond .le 7), 3) ∧ decode (mX12_works).2.1 265 = .ok ((.iconst 1), 1) ∧ decode (mX12_works).2.1 266 = .ok ((.goto 4), 3) ∧ decode (mX12_works).2.1 269 = .ok ((.iconst 0), 1) ∧ decode (mX12_works).2.1 270 = .ok ((.invokestatic 341), 3) := by decide +kernel
theorem dX12_works_261 : Dc mX12_works 261 (.lcmp) 1 262 := ⟨k_dX12_works_261.1, rfl⟩
theorem dX12_works_262 : Dc mX12_works 262 (.ifCond .le 7) 3 265 := ⟨k_dX12_works_261.2.1, rfl⟩
theorem dX12_works_265 : Dc mX12_works 265 (.iconst 1) 1 266 := ⟨k_dX12_works_261.2.2.1, rfl⟩
theorem dX12_works_266 : Dc mX12_works 266 (.goto 4) 3 269 := ⟨k_dX12_works_261.2.2.2.1, rfl⟩
theorem dX12_works_269 : Dc mX12_works 269 (.iconst 0) 1 270 := ⟨k_dX12_works_261.2.2.2.2.1, rfl⟩
theorem dX12_works_270 : Dc mX12_works 270 (.invokestatic 341) 3 273 := ⟨k_dX12_works_261.2.2.2.2.2, rfl⟩
theorem k_dX12_works_273 : decode (mX12_works).2.1 273 = .ok ((.lstore 6), 2) ∧ decode (mX12_works).2.1 275 = .ok ((.goto 132), 3) ∧ decode (mX12_works).2.1 278 = .ok ((.lload 4), 2) ∧ decode (mX12_works).2.1 280 = .ok ((.lload_n 2), 1) ∧ decode (mX12_works).2.1 281 = .ok ((.lcmp), 1) ∧ decode (mX12_works).2.1 282 = .ok ((.ifCond .ne 7), 3) := by decide +kernel
theorem dX12_works_273 : Dc mX12_works 273 (.lstore 6) 2 275 := ⟨k_dX12_works_273.1, rfl⟩
theorem dX12_works_275 : Dc mX12_works 275 (.goto 132) 3 278 := ⟨k_dX12_works_273.2.1, rfl⟩
theorem dX12_works_278 : Dc mX12_works 278 (.lload 4) 2 280 := ⟨k_dX12_works_273.2.2.1, rfl⟩
theorem dX12_works_280 : Dc mX12_works 280 (.lload_n 2) 1 281 := ⟨k_dX12_works_273.2.2.2.1, rfl⟩
theorem dX12_works_281 : Dc mX12_works 281 (.lcmp) 1 282 := ⟨k_dX12_works_273.2.2.2.2.1, rfl⟩
theorem dX12_works_282 : Dc mX12_works 282 (.ifCond .ne 7) 3 285 := ⟨k_dX12_works_273.2.2.2.2.2, rfl⟩
theorem k_dX12_works_285 : decode (mX12_works).2.1 285 = .ok ((.iconst 1), 1) ∧ decode (mX12_works).2.1 286 = .ok ((.goto 4), 3) ∧ decode (mX12_works).2.1 289 = .ok ((.iconst 0), 1) ∧ decode (mX12_works).2.1 290 = .ok ((.invokestatic 341), 3) ∧ decode (mX12_works).2.1 293 = .ok ((.lstore 6), 2) ∧ decode (mX12_works).2.1 295 = .ok ((.goto 112), 3) := by decide +kernel
theorem dX12_works_285 : Dc mX12_works 285 (.iconst 1) 1 286 := ⟨k_dX12_works_285.1, rfl⟩
theorem dX12_works_286 : Dc mX12_works 286 (.goto 4) 3 289 := ⟨k_dX12_works_285.2.1, rfl⟩
theorem dX12_works_289 : Dc mX12_works 289 (.iconst 0) 1 290 := ⟨k_dX12_works_285.2.2.1, rfl⟩
theorem dX12_works_290 : Dc mX12_works 290 (.invokestatic 341) 3 293 := ⟨k_dX12_works_285.2.2.2.1, rfl⟩
theorem dX12_works_293 : Dc mX12_works 293 (.lstore 6) 2 295 := ⟨k_dX12_works_285.2.2.2.2.1, rfl⟩
theorem dX12_works_295 : Dc mX12_works 295 (.goto 112) 3 298 := ⟨k_dX12_works_285.2.2.2.2.2, rfl⟩
theorem k_dX12_works_298 : decode (mX12_works).2.1 298 = .ok ((.lload 4), 2) ∧ decode (mX12_works).2.1 300 = .ok ((.lload_n 2), 1) ∧ decode (mX12_works).2.1 301 = .ok ((.lcmp), 1) ∧ decode (mX12_works).2.1 302 = .ok ((.ifCond .gt 7), 3) ∧ decode (mX12_works).2.1 305 = .ok ((.iconst 1), 1) ∧ decode (mX12_works).2.1 306 = .ok ((.goto 4), 3) := by decide +kernel
theorem dX12_works_298 : Dc mX12_works 298 (.lload 4) 2 300 := ⟨k_dX12_works_298.1, rfl⟩
theorem dX12_works_300 : Dc mX12_works 300 (.lload_n 2) 1 301 := ⟨k_dX12_works_298.2.1, rfl⟩
theorem dX12_works_301 : Dc mX12_works 301 (.lcmp) 1 302 := ⟨k_dX12_works_298.2.2.1, rfl⟩
theorem dX12_works_302 : Dc mX12_works 302 (.ifCond .gt 7) 3 305 := ⟨k_dX12_works_298.2.2.2.1, rfl⟩
theorem dX12_works_305 : Dc mX12_works 305 (.iconst 1) 1 306 := ⟨k_dX12_works_298.2.2.2.2.1, rfl⟩
theorem dX12_works_306 : Dc mX12_works 306 (.goto 4) 3 309 := ⟨k_dX12_works_298.2.2.2.2.2, rfl⟩
theorem k_dX12_works_309 : decode (mX12_works).2.1 309 = .ok ((.iconst 0), 1) ∧ decode (mX12_works).2.1 310 = .ok ((.invokestatic 341), 3) ∧ decode (mX12_works).2.1 313 = .ok ((.lstore 6), 2) ∧ decode (mX12_works).2.1 315 = .ok ((.goto 92), 3) ∧ decode (mX12_works).2.1 318 = .ok ((.lload 4), 2) ∧ decode (mX12_works).2.1 320 = .ok ((.lload_n 2), 1) := by decide +kernel
theorem dX12_works_309 : Dc mX12_works 309 (.iconst 0) 1 310 := ⟨k_dX12_works_309.1, rfl⟩
theorem dX12_works_310 : Dc mX12_works 310 (.invokestatic 341) 3 313 := ⟨k_dX12_works_309.2.1, rfl⟩
theorem dX12_works_313 : Dc mX12_works 313 (.lstore 6) 2 315 := ⟨k_dX12_works_309.2.2.1, rfl⟩
theorem dX12_works_315 : Dc mX12_works 315 (.goto 92) 3 318 := ⟨k_dX12_works_309.2.2.2.1, rfl⟩
theorem dX12_works_318 : Dc mX12_works 318 (.lload 4) 2 320 := ⟨k_dX12_works_309.2.2.2.2.1, rfl⟩
theorem dX12_works_320 : Dc mX12_works 320 (.lload_n 2) 1 321 := ⟨k_dX12_works_309.2.2.2.2.2, rfl⟩
theorem k_dX12_works_321 : decode (mX12_works).2.1 321 = .ok ((.lcmp), 1) ∧ decode (mX12_works).2.1 322 = .ok ((.ifCond .lt 7), 3) ∧ decode (mX12_works).2.1 325 = .ok ((.iconst 1), 1) ∧ decode (mX12_works).2.1 326 = .ok ((.goto 4), 3) ∧ decode (mX12_works).2.1 329 = .ok ((.iconst 0), 1) ∧ decode (mX12_works).2.1 330 = .ok ((.invokestatic 341), 3) := by decide +kernel
theorem dX12_works_321 : Dc mX12_works 321 (.lcmp) 1 322 := ⟨k_dX12_works_321.1, rfl⟩
theorem dX12_works_322 : Dc mX12_works 322 (.ifCond .lt 7) 3 325 := ⟨k_dX12_works_321.2.1, rfl⟩
theorem dX12_works_325 : Dc mX12_works 325 (.iconst 1) 1 326 := ⟨k_dX12_works_321.2.2.1, rfl⟩
theorem dX12_works_326 : Dc mX12_works 326 (.goto 4) 3 329 := ⟨k_dX12_works_321.2.2.2.1, rfl⟩
theorem dX12_works_329 : Dc mX12_works 329 (.iconst 0) 1 330 := ⟨k_dX12_works_321.2.2.2.2.1, rfl⟩
theorem dX12_works_330 : Dc mX12_works 330 (.invokestatic 341) 3 333 := ⟨k_dX12_works_321.2.2.2.2.2, rfl⟩
theorem k_dX12_works_333 : decode (mX12_works).2.1 333 = .ok ((.lstore 6), 2) ∧ decode (mX12_works).2.1 335 = .ok ((.goto 72), 3) ∧ decode (mX12_works).2.1 338 = .ok ((.lload 4), 2) ∧ decode (mX12_works).2.1 340 = .ok ((.lload_n 2), 1) ∧ decode (mX12_works).2.1 341 = .ok ((.lcmp), 1) ∧ decode (mX12_works).2.1 342 = .ok ((.ifCond .eq 7), 3) := by decide +kernel
theorem dX12_works_333 : Dc mX12_works 333 (.lstore 6) 2 335 := ⟨k_dX12_works_333.1, rfl⟩
theorem dX12_works_335 : Dc mX12_works 335 (.goto 72) 3 338 := ⟨k_dX12_works_333.2.1, rfl⟩
theorem dX12_works_338 : Dc mX12_works 338 (.lload 4) 2 340 := ⟨k_dX12_works_333.2.2.1, rfl⟩
theorem dX12_works_340 : Dc mX12_works 340 (.lload_n 2) 1 341 := ⟨k_dX12_works_333.2.2.2.1, rfl⟩
theorem dX12_works_341 : Dc mX12_works 341 (.lcmp) 1 342 := ⟨k_dX12_works_333.2.2.2.2.1, rfl⟩
theorem dX12_works_342 : Dc mX12_works 342 (.ifCond .eq 7) 3 345 := ⟨k_dX12_works_333.2.2.2.2.2, rfl⟩
theorem k_dX12_works_345 : decode (mX12_works).2.1 345 = .ok ((.iconst 1), 1) ∧ decode (mX12_works).2.1 346 = .ok ((.goto 4), 3) ∧ decode (mX12_works).2.1 349 = .ok ((.iconst 0), 1) ∧ decode (mX12_works).2.1 350 = .ok ((.invokestatic 341), 3) ∧ decode (mX12_works).2.1 353 = .ok ((.lstore 6), 2) ∧ decode (mX12_works).2.1 355 = .ok ((.goto 52), 3) := by decide +kernel
theorem dX12_works_345 : Dc mX12_works 345 (.iconst 1) 1 346 := ⟨k_dX12_works_345.1, rfl⟩
theorem dX12_works_346 : Dc mX12_works 346 (.goto 4) 3 349 := ⟨k_dX12_works_345.2.1, rfl⟩
theorem dX12_works_349 : Dc mX12_works 349 (.iconst 0) 1 350 := ⟨k_dX12_works_345.2.2.1, rfl⟩
theorem dX12_works_350 : Dc mX12_works 350 (.invokestatic 341) 3 353 := ⟨k_dX12_works_345.2.2.2.1, rfl⟩
theorem dX12_works_353 : Dc mX12_works 353 (.lstore 6) 2 355 := ⟨k_dX12_works_345.2.2.2.2.1, rfl⟩
theorem dX12_works_355 : Dc mX12_works 355 (.goto 52) 3 358 := ⟨k_dX12_works_345.2.2.2.2.2, rfl⟩
theorem k_dX12_works_358 : decode (mX12_works).2.1 358 = .ok ((.lload 4), 2) ∧ decode (mX12_works).2.1 360 = .ok ((.lconst 0), 1) ∧ decode (mX12_works).2.1 361 = .ok ((.lcmp), 1) ∧ decode (mX12_works).2.1 362 = .ok ((.ifCond .eq 13), 3) ∧ decode (mX12_works).2.1 365 = .ok ((.lload_n 2), 1) ∧ decode (mX12_works).2.1 366 = .ok ((.lconst 0), 1) := by decide +kernel
theorem dX12_works_358 : Dc mX12_works 358 (.lload 4) 2 360 := ⟨k_dX12_works_358.1, rfl⟩
theorem dX12_works_360 : Dc mX12_works 360 (.lconst 0) 1 361 := ⟨k_dX12_works_358.2.1, rfl⟩
theorem dX12_works_361 : Dc mX12_works 361 (.lcmp) 1 362 := ⟨k_dX12_works_358.2.2.1, rfl⟩
theorem dX12_works_362 : Dc mX12_works 362 (.ifCond .eq 13) 3 365 := ⟨k_dX12_works_358.2.2.2.1, rfl⟩
theorem dX12_works_365 : Dc mX12_works 365 (.lload_n 2) 1 366 := ⟨k_dX12_works_358.2.2.2.2.1, rfl⟩
theorem dX12_works_366 : Dc mX12_works 366 (.lconst 0) 1 367 := ⟨k_dX12_works_358.2.2.2.2.2, rfl⟩
theorem k_dX12_works_367 : decode (mX12_works).2.1 367 = .ok ((.lcmp), 1) ∧ decode (mX12_works).2.1 368 = .ok ((.ifCond .eq 7), 3) ∧ decode (mX12_works).2.1 371 = .ok ((.iconst 1), 1) ∧ decode (mX12_works).2.1 372 = .ok ((.goto 4), 3) ∧ decode (mX12_works).2.1 375 = .ok ((.iconst 0), 1) ∧ decode (mX12_works).2.1 376 = .ok ((.invokestatic 341), 3) := by decide +kernel
theorem dX12_works_367 : Dc mX12_works 367 (.lcmp) 1 368 := ⟨k_dX12_works_367.1, rfl⟩
theorem dX12_works_368 : Dc mX12_works 368 (.ifCond .eq 7) 3 371 := ⟨k_dX12_works_367.2.1, rfl⟩
theorem dX12_works_371 : Dc mX12_works 371 (.iconst 1) 1 372 := ⟨k_dX12_works_367.2.2.1, rfl⟩
theorem dX12_works_372 : Dc mX12_works 372 (.goto 4) 3 375 := ⟨k_dX12_works_367.2.2.2.1, rfl⟩
theorem dX12_works_375 : Dc mX12_works 375 (.iconst 0) 1 376 := ⟨k_dX12_works_367.2.2.2.2.1, rfl⟩
theorem dX12_works_376 : Dc mX12_works 376 (.invokestatic 341) 3 379 := ⟨k_dX12_works_367.2.2.2.2.2, rfl⟩
theorem k_dX12_works_379 : decode (mX12_works).2.1 379 = .ok ((.lstore 6), 2) ∧ decode (mX12_works).2.1 381 = .ok ((.goto 26), 3) ∧ decode (mX12_works).2.1 384 = .ok ((.lload 4), 2) ∧ decode (mX12_works).2.1 386 = .ok ((.lconst 0), 1) ∧ decode (mX12_works).2.1 387 = .ok ((.lcmp), 1) ∧ decode (mX12_works).2.1 388 = .ok ((.ifCond .ne 9), 3) := by decide +kernel
theorem dX12_works_379 : Dc mX12_works 379 (.lstore 6) 2 381 := ⟨k_dX12_works_379.1, rfl⟩
theorem dX12_works_381 : Dc mX12_works 381 (.goto 26) 3 384 := ⟨k_dX12_works_379.2.1, rfl⟩
theorem dX12_works_384 : Dc mX12_works 384 (.lload 4) 2 386 := ⟨k_dX12_works_379.2.2.1, rfl⟩
theorem dX12_works_386 : Dc mX12_works 386 (.lconst 0) 1 387 := ⟨k_dX12_works_379.2.2.2.1, rfl⟩
theorem dX12_works_387 : Dc mX12_works 387 (.lcmp) 1 388 := ⟨k_dX12_works_379.2.2.2.2.1, rfl⟩
theorem dX12_works_388 : Dc mX12_works 388 (.ifCond .ne 9) 3 391 := ⟨k_dX12_works_379.2.2.2.2.2, rfl⟩
theorem k_dX12_works_391 : decode (mX12_works).2.1 391 = .ok ((.lload_n 2), 1) ∧ decode (mX12_works).2.1 392 = .ok ((.lconst 0), 1) ∧ decode (mX12_works).2.1 393 = .ok ((.lcmp), 1) ∧ decode (mX12_works).2.1 394 = .ok ((.ifCond .eq 7), 3) ∧ decode (mX12_works).2.1 397 = .ok ((.iconst 1), 1) ∧ decode (mX12_works).2.1 398 = .ok ((.goto 4), 3) := by decide +kernel
theorem dX12_works_391 : Dc mX12_works 391 (.lload_n 2) 1 392 := ⟨k_dX12_works_391.1, rfl⟩
theorem dX12_works_392 : Dc mX12_works 392 (.lconst 0) 1 393 := ⟨k_dX12_works_391.2.1, rfl⟩
theorem dX12_works_393 : Dc mX12_works 393 (.lcmp) 1 394 := ⟨k_dX12_works_391.2.2.1, rfl⟩
theorem dX12_works_394 : Dc mX12_works 394 (.ifCond .eq 7) 3 397 := ⟨k_dX12_works_391.2.2.2.1, rfl⟩
theorem dX12_works_397 : Dc mX12_works 397 (.iconst 1) 1 398 := ⟨k_dX12_works_391.2.2.2.2.1, rfl⟩
theorem dX12_works_398 : Dc mX12_works 398 (.goto 4) 3 401 := ⟨k_dX12_works_391.2.2.2.2.2, rfl⟩
theorem k_dX12_works_401 : decode (mX12_works).2.1 401 = .ok ((.iconst 0), 1) ∧ decode (mX12_works).2.1 402 = .ok ((.invokestatic 341), 3) ∧ decode (mX12_works).2.1 405 = .ok ((.lstore 6), 2) ∧ decode (mX12_works).2.1 407 = .ok ((.aload_n 0), 1) ∧ decode (mX12_works).2.1 408 = .ok ((.getfield 81), 3) ∧ decode (mX12_works).2.1 411 = .ok ((.aload_n 0), 1) := by decide +kernel
theorem dX12_works_401 : Dc mX12_works 401 (.iconst 0) 1 402 := ⟨k_dX12_works_401.1, rfl⟩
theorem dX12_works_402 : Dc mX12_works 402 (.invokestatic 341) 3 405 := ⟨k_dX12_works_401.2.1, rfl⟩
theorem dX12_works_405 : Dc mX12_works 405 (.lstore 6) 2 407 := ⟨k_dX12_works_401.2.2.1, rfl⟩
theorem dX12_works_407 : Dc mX12_works 407 (.aload_n 0) 1 408 := ⟨k_dX12_works_401.2.2.2.1, rfl⟩
theorem dX12_works_408 : Dc mX12_works 408 (.getfield 81) 3 411 := ⟨k_dX12_works_401.2.2.2.2.1, rfl⟩
theorem dX12_works_411 : Dc mX12_works 411 (.aload_n 0) 1 412 := ⟨k_dX12_works_401.2.2.2.2.2, rfl⟩
theorem k_dX12_works_412 : decode (mX12_works).2.1 412 = .ok ((.getfield 338), 3) ∧ decode (mX12_works).2.1 415 = .ok ((.iconst 1), 1) ∧ decode (mX12_works).2.1 416 = .ok ((.isub), 1) ∧ decode (mX12_works).2.1 417 = .ok ((.lload 6), 2) ∧ decode (mX12_works).2.1 419 = .ok ((.lastore), 1) ∧ decode (mX12_works).2.1 420 = .ok ((.lload 6), 2) := by decide +kernel
theorem dX12_works_412 : Dc mX12_works 412 (.getfield 338) 3 415 := ⟨k_dX12_works_412.1, rfl⟩
theorem dX12_works_415 : Dc mX12_works 415 (.iconst 1) 1 416 := ⟨k_dX12_works_412.2.1, rfl⟩
theorem dX12_works_416 : Dc mX12_works 416 (.isub) 1 417 := ⟨k_dX12_works_412.2.2.1, rfl⟩
theorem dX12_works_417 : Dc mX12_works 417 (.lload 6) 2 419 := ⟨k_dX12_works_412.2.2.2.1, rfl⟩
theorem dX12_works_419 : Dc mX12_works 419 (.lastore) 1 420 := ⟨k_dX12_works_412.2.2.2.2.1, rfl⟩
theorem dX12_works_420 : Dc mX12_works 420 (.lload 6) 2 422 := ⟨k_dX12_works_412.2.2.2.2.2, rfl⟩
theorem k_dX12_works_422 : decode (mX12_works).2.1 422 = .ok ((.ldc2_w 351), 3) ∧ decode (mX12_works).2.1 425 = .ok ((.lcmp), 1) ∧ decode (mX12_works).2.1 426 = .ok ((.ifCond .gt 16), 3) ∧ decode (mX12_works).2.1 429 = .ok ((.lload 6), 2) ∧ decode (mX12_works).2.1 431 = .ok ((.ldc2_w 353), 3) ∧ decode (mX12_works).2.1 434 = .ok ((.lcmp), 1) := by decide +kernel
theorem dX12_works_422 : Dc mX12_works 422 (.ldc2_w 351) 3 425 := ⟨k_dX12_works_422.1, rfl⟩
theorem dX12_works_425 : Dc mX12_works 425 (.lcmp) 1 426 := ⟨k_dX12_works_422.2.1, rfl⟩
theorem dX12_works_426 : Dc mX12_works 426 (.ifCond .gt 16) 3 429 := ⟨k_dX12_works_422.2.2.1, rfl⟩
theorem dX12_works_429 : Dc mX12_works 429 (.lload 6) 2 431 := ⟨k_dX12_works_422.2.2.2.1, rfl⟩
theorem dX12_works_431 : Dc mX12_works 431 (.ldc2_w 353) 3 434 := ⟨k_dX12_works_422.2.2.2.2.1, rfl⟩
theorem dX12_works_434 : Dc mX12_works 434 (.lcmp) 1 435 := ⟨k_dX12_works_422.2.2.2.2.2, rfl⟩
theorem k_dX12_works_435 : decode (mX12_works).2.1 435 = .ok ((.ifCond .lt 7), 3) ∧ decode (mX12_works).2.1 438 = .ok ((.iconst 1), 1) ∧ decode (mX12_works).2.1 439 = .ok ((.goto 4), 3) ∧ decode (mX12_works).2.1 442 = .ok ((.iconst 0), 1) ∧ decode (mX12_works).2.1 443 = .ok ((.ireturn), 1) := by decide +kernel
theorem dX12_works_435 : Dc mX12_works 435 (.ifCond .lt 7) 3 438 := ⟨k_dX12_works_435.1, rfl⟩
theorem dX12_works_438 : Dc mX12_works 438 (.iconst 1) 1 439 := ⟨k_dX12_works_435.2.1, rfl⟩
theorem dX12_works_439 : Dc mX12_works 439 (.goto 4) 3 442 := ⟨k_dX12_works_435.2.2.1, rfl⟩
theorem dX12_works_442 : Dc mX12_works 442 (.iconst 0) 1 443 := ⟨k_dX12_works_435.2.2.2.1, rfl⟩
theorem dX12_works_443 : Dc mX12_works 443 (.ireturn) 1 444 := ⟨k_dX12_works_435.2.2.2.2, rfl⟩
theorem k_dX12_goes_0 : decode (mX12_goes).2.1 0 = .ok ((.aload_n 0), 1) ∧ decode (mX12_goes).2.1 1 = .ok ((.iconst 0), 1) ∧ decode (mX12_goes).2.1 2 = .ok ((.putfield 338), 3) ∧ decode (mX12_goes).2.1 5 = .ok ((.aload_n 0), 1) ∧ decode (mX12_goes).2.1 6 = .ok ((.getfield 61), 3) ∧ decode (mX12_goes).2.1 9 = .ok ((.iload_n 1), 1) := by decide +kernel
theorem dX12_goes_0 : Dc mX12_goes 0 (.aload_n 0) 1 1 := ⟨k_dX12_goes_0.1, rfl⟩
theorem dX12_goes_1 : Dc mX12_goes 1 (.iconst 0) 1 2 := ⟨k_dX12_goes_0.2.1, rfl⟩
theorem dX12_goes_2 : Dc mX12_goes 2 (.putfield 338) 3 5 := ⟨k_dX12_goes_0.2.2.1, rfl⟩
theorem dX12_goes_5 : Dc mX12_goes 5 (.aload_n 0) 1 6 := ⟨k_dX12_goes_0.2.2.2.1, rfl⟩
theorem dX12_goes_6 : Dc mX12_goes 6 (.getfield 61) 3 9 := ⟨k_dX12_goes_0.2.2.2.2.1, rfl⟩
theorem dX12_goes_9 : Dc mX12_goes 9 (.iload_n 1) 1 10 := ⟨k_dX12_goes_0.2.2.2.2.2, rfl⟩
theorem k_dX12_goes_10 : decode (mX12_goes).2.1 10 = .ok ((.iaload), 1) ∧ decode (mX12_goes).2.1 11 = .ok ((.istore_n 2), 1) ∧ decode (mX12_goes).2.1 12 = .ok ((.iload_n 2), 1) ∧ decode (mX12_goes).2.1 13 = .ok ((.aload_n 0), 1) ∧ decode (mX12_goes).2.1 14 = .ok ((.getfield 64), 3) ∧ decode (mX12_goes).2.1 17 = .ok ((.iload_n 1), 1) := by decide +kernel
theorem dX12_goes_10 : Dc mX12_goes 10 (.iaload) 1 11 := ⟨k_dX12_goes_10.1, rfl⟩
theorem dX12_goes_11 : Dc mX12_goes 11 (.istore_n 2) 1 12 := ⟨k_dX12_goes_10.2.1, rfl⟩
theorem dX12_goes_12 : Dc mX12_goes 12 (.iload_n 2) 1 13 := ⟨k_dX12_goes_10.2.2.1, rfl⟩
theorem dX12_goes_13 : Dc mX12_goes 13 (.aload_n 0) 1 14 := ⟨k_dX12_goes_10.2.2.2.1, rfl⟩
theorem dX12_goes_14 : Dc mX12_goes 14 (.getfield 64) 3 17 := ⟨k_dX12_goes_10.2.2.2.2.1, rfl⟩
theorem dX12_goes_17 : Dc mX12_goes 17 (.iload_n 1) 1 18 := ⟨k_dX12_goes_10.2.2.2.2.2, rfl⟩
theorem k_dX12_goes_18 : decode (mX12_goes).2.1 18 = .ok ((.iaload), 1) ∧ decode (mX12_goes).2.1 19 = .ok ((.if_icmp .ge 83), 3) ∧ decode (mX12_goes).2.1 22 = .ok ((.aload_n 0), 1) ∧ decode (mX12_goes).2.1 23 = .ok ((.getfield 67), 3) ∧ decode (mX12_goes).2.1 26 = .ok ((.iload_n 2), 1) ∧ decode (mX12_goes).2.1 27 = .ok ((.iaload), 1) := by decide +kernel
theorem dX12_goes_18 : Dc mX12_goes 18 (.iaload) 1 19 := ⟨k_dX12_goes_18.1, rfl⟩
theorem dX12_goes_19 : Dc mX12_goes 19 (.if_icmp .ge 83) 3 22 := ⟨k_dX12_goes_18.2.1, rfl⟩
theorem dX12_goes_22 : Dc mX12_goes 22 (.aload_n 0) 1 23 := ⟨k_dX12_goes_18.2.2.1, rfl⟩
theorem dX12_goes_23 : Dc mX12_goes 23 (.getfield 67) 3 26 := ⟨k_dX12_goes_18.2.2.2.1, rfl⟩
theorem dX12_goes_26 : Dc mX12_goes 26 (.iload_n 2) 1 27 := ⟨k_dX12_goes_18.2.2.2.2.1, rfl⟩
theorem dX12_goes_27 : Dc mX12_goes 27 (.iaload) 1 28 := ⟨k_dX12_goes_18.2.2.2.2.2, rfl⟩
theorem k_dX12_goes_28 : decode (mX12_goes).2.1 28 = .ok ((.iconst 2), 1) ∧ decode (mX12_goes).2.1 29 = .ok ((.if_icmp .ne 18), 3) ∧ decode (mX12_goes).2.1 32 = .ok ((.aload_n 0), 1) ∧ decode (mX12_goes).2.1 33 = .ok ((.aload_n 0), 1) ∧ decode (mX12_goes).2.1 34 = .ok ((.getfield 70), 3) ∧ decode (mX12_goes).2.1 37 = .ok ((.iload_n 2), 1) := by decide +kernel
theorem dX12_goes_28 : Dc mX12_goes 28 (.iconst 2) 1 29 := ⟨k_dX12_goes_28.1, rfl⟩
theorem dX12_goes_29 : Dc mX12_goes 29 (.if_icmp .ne 18) 3 32 := ⟨k_dX12_goes_28.2.1, rfl⟩
theorem dX12_goes_32 : Dc mX12_goes 32 (.aload_n 0) 1 33 := ⟨k_dX12_goes_28.2.2.1, rfl⟩
theorem dX12_goes_33 : Dc mX12_goes 33 (.aload_n 0) 1 34 := ⟨k_dX12_goes_28.2.2.2.1, rfl⟩
theorem dX12_goes_34 : Dc mX12_goes 34 (.getfield 70) 3 37 := ⟨k_dX12_goes_28.2.2.2.2.1, rfl⟩
theorem dX12_goes_37 : Dc mX12_goes 37 (.iload_n 2) 1 38 := ⟨k_dX12_goes_28.2.2.2.2.2, rfl⟩
theorem k_dX12_goes_38 : decode (mX12_goes).2.1 38 = .ok ((.iaload), 1) ∧ decode (mX12_goes).2.1 39 = .ok ((.invokevirtual 355), 3) ∧ decode (mX12_goes).2.1 42 = .ok ((.ifCond .ne 54), 3) ∧ decode (mX12_goes).2.1 45 = .ok ((.iconst 0), 1) ∧ decode (mX12_goes).2.1 46 = .ok ((.ireturn), 1) ∧ decode (mX12_goes).2.1 47 = .ok ((.aload_n 0), 1) := by decide +kernel
theorem dX12_goes_38 : Dc mX12_goes 38 (.iaload) 1 39 := ⟨k_dX12_goes_38.1, rfl⟩
theorem dX12_goes_39 : Dc mX12_goes 39 (.invokevirtual 355) 3 42 := ⟨k_dX12_goes_38.2.1, rfl⟩
theorem dX12_goes_42 : Dc mX12_goes 42 (.ifCond .ne 54) 3 45 := ⟨k_dX12_goes_38.2.2.1, rfl⟩
theorem dX12_goes_45 : Dc mX12_goes 45 (.iconst 0) 1 46 := ⟨k_dX12_goes_38.2.2.2.1, rfl⟩
theorem dX12_goes_46 : Dc mX12_goes 46 (.ireturn) 1 47 := ⟨k_dX12_goes_38.2.2.2.2.1, rfl⟩
theorem dX12_goes_47 : Dc mX12_goes 47 (.aload_n 0) 1 48 := ⟨k_dX12_goes_38.2.2.2.2.2, rfl⟩
theorem k_dX12_goes_48 : decode (mX12_goes).2.1 48 = .ok ((.getfield 81), 3) ∧ decode (mX12_goes).2.1 51 = .ok ((.aload_n 0), 1) ∧ decode (mX12_goes).2.1 52 = .ok ((.getfield 338), 3) ∧ decode (mX12_goes).2.1 55 = .ok ((.aload_n 0), 1) ∧ decode (mX12_goes).2.1 56 = .ok ((.getfield 67), 3) ∧ decode (mX12_goes).2.1 59 = .ok ((.iload_n 2), 1) := by decide +kernel
theorem dX12_goes_48 : Dc mX12_goes 48 (.getfield 81) 3 51 := ⟨k_dX12_goes_48.1, rfl⟩
theorem dX12_goes_51 : Dc mX12_goes 51 (.aload_n 0) 1 52 := ⟨k_dX12_goes_48.2.1, rfl⟩
theorem dX12_goes_52 : Dc mX12_goes 52 (.getfield 338) 3 55 := ⟨k_dX12_goes_48.2.2.1, rfl⟩
theorem dX12_goes_55 : Dc mX12_goes 55 (.aload_n 0) 1 56 := ⟨k_dX12_goes_48.2.2.2.1, rfl⟩
theorem dX12_goes_56 : Dc mX12_goes 56 (.getfield 67) 3 59 := ⟨k_dX12_goes_48.2.2.2.2.1, rfl⟩
theorem dX12_goes_59 : Dc mX12_goes 59 (.iload_n 2) 1 60 := ⟨k_dX12_goes_48.2.2.2.2.2, rfl⟩
theorem k_dX12_goes_60 : decode (mX12_goes).2.1 60 = .ok ((.iaload), 1) ∧ decode (mX12_goes).2.1 61 = .ok ((.ifCond .ne 13), 3) ∧ decode (mX12_goes).2.1 64 = .ok ((.aload_n 0), 1) ∧ decode (mX12_goes).2.1 65 = .ok ((.getfield 70), 3) ∧ decode (mX12_goes).2.1 68 = .ok ((.iload_n 2), 1) ∧ decode (mX12_goes).2.1 69 = .ok ((.iaload), 1) := by decide +kernel
theorem dX12_goes_60 : Dc mX12_goes 60 (.iaload) 1 61 := ⟨k_dX12_goes_60.1, rfl⟩
theorem dX12_goes_61 : Dc mX12_goes 61 (.ifCond .ne 13) 3 64 := ⟨k_dX12_goes_60.2.1, rfl⟩
theorem dX12_goes_64 : Dc mX12_goes 64 (.aload_n 0) 1 65 := ⟨k_dX12_goes_60.2.2.1, rfl⟩
theorem dX12_goes_65 : Dc mX12_goes 65 (.getfield 70) 3 68 := ⟨k_dX12_goes_60.2.2.2.1, rfl⟩
theorem dX12_goes_68 : Dc mX12_goes 68 (.iload_n 2) 1 69 := ⟨k_dX12_goes_60.2.2.2.2.1, rfl⟩
theorem dX12_goes_69 : Dc mX12_goes 69 (.iaload) 1 70 := ⟨k_dX12_goes_60.2.2.2.2.2, rfl⟩
theorem k_dX12_goes_70 : decode (mX12_goes).2.1 70 = .ok ((.i2l), 1) ∧ decode (mX12_goes).2.1 71 = .ok ((.goto 14), 3) ∧ decode (mX12_goes).2.1 74 = .ok ((.aload_n 0), 1) ∧ decode (mX12_goes).2.1 75 = .ok ((.getfield 77), 3) ∧ decode (mX12_goes).2.1 78 = .ok ((.aload_n 0), 1) ∧ decode (mX12_goes).2.1 79 = .ok ((.getfield 70), 3) := by decide +kernel
theorem dX12_goes_70 : Dc mX12_goes 70 (.i2l) 1 71 := ⟨k_dX12_goes_70.1, rfl⟩
theorem dX12_goes_71 : Dc mX12_goes 71 (.goto 14) 3 74 := ⟨k_dX12_goes_70.2.1, rfl⟩
theorem dX12_goes_74 : Dc mX12_goes 74 (.aload_n 0) 1 75 := ⟨k_dX12_goes_70.2.2.1, rfl⟩
theorem dX12_goes_75 : Dc mX12_goes 75 (.getfield 77) 3 78 := ⟨k_dX12_goes_70.2.2.2.1, rfl⟩
theorem dX12_goes_78 : Dc mX12_goes 78 (.aload_n 0) 1 79 := ⟨k_dX12_goes_70.2.2.2.2.1, rfl⟩
theorem dX12_goes_79 : Dc mX12_goes 79 (.getfield 70) 3 82 := ⟨k_dX12_goes_70.2.2.2.2.2, rfl⟩
theorem k_dX12_goes_82 : decode (mX12_goes).2.1 82 = .ok ((.iload_n 2), 1) ∧ decode (mX12_goes).2.1 83 = .ok ((.iaload), 1) ∧ decode (mX12_goes).2.1 84 = .ok ((.laload), 1) ∧ decode (mX12_goes).2.1 85 = .ok ((.lastore), 1) ∧ decode (mX12_goes).2.1 86 = .ok ((.aload_n 0), 1) ∧ decode (mX12_goes).2.1 87 = .ok ((.dup), 1) := by decide +kernel
theorem dX12_goes_82 : Dc mX12_goes 82 (.iload_n 2) 1 83 := ⟨k_dX12_goes_82.1, rfl⟩
theorem dX12_goes_83 : Dc mX12_goes 83 (.iaload) 1 84 := ⟨k_dX12_goes_82.2.1, rfl⟩
theorem dX12_goes_84 : Dc mX12_goes 84 (.laload) 1 85 := ⟨k_dX12_goes_82.2.2.1, rfl⟩
theorem dX12_goes_85 : Dc mX12_goes 85 (.lastore) 1 86 := ⟨k_dX12_goes_82.2.2.2.1, rfl⟩
theorem dX12_goes_86 : Dc mX12_goes 86 (.aload_n 0) 1 87 := ⟨k_dX12_goes_82.2.2.2.2.1, rfl⟩
theorem dX12_goes_87 : Dc mX12_goes 87 (.dup) 1 88 := ⟨k_dX12_goes_82.2.2.2.2.2, rfl⟩
theorem k_dX12_goes_88 : decode (mX12_goes).2.1 88 = .ok ((.getfield 338), 3) ∧ decode (mX12_goes).2.1 91 = .ok ((.iconst 1), 1) ∧ decode (mX12_goes).2.1 92 = .ok ((.iadd), 1) ∧ decode (mX12_goes).2.1 93 = .ok ((.putfield 338), 3) ∧ decode (mX12_goes).2.1 96 = .ok ((.iinc 2 1), 3) ∧ decode (mX12_goes).2.1 99 = .ok ((.goto (-87)), 3) := by decide +kernel
theorem dX12_goes_88 : Dc mX12_goes 88 (.getfield 338) 3 91 := ⟨k_dX12_goes_88.1, rfl⟩
theorem dX12_goes_91 : Dc mX12_goes 91 (.iconst 1) 1 92 := ⟨k_dX12_goes_88.2.1, rfl⟩
theorem dX12_goes_92 : Dc mX12_goes 92 (.iadd) 1 93 := ⟨k_dX12_goes_88.2.2.1, rfl⟩
theorem dX12_goes_93 : Dc mX12_goes 93 (.putfield 338) 3 96 := ⟨k_dX12_goes_88.2.2.2.1, rfl⟩
theorem dX12_goes_96 : Dc mX12_goes 96 (.iinc 2 1) 3 99 := ⟨k_dX12_goes_88.2.2.2.2.1, rfl⟩
theorem dX12_goes_99 : Dc mX12_goes 99 (.goto (-87)) 3 102 := ⟨k_dX12_goes_88.2.2.2.2.2, rfl⟩
theorem k_dX12_goes_102 : decode (mX12_goes).2.1 102 = .ok ((.iconst 1), 1) ∧ decode (mX12_goes).2.1 103 = .ok ((.ireturn), 1) := by decide +kernel
theorem dX12_goes_102 : Dc mX12_goes 102 (.iconst 1) 1 103 := ⟨k_dX12_goes_102.1, rfl⟩
theorem dX12_goes_103 : Dc mX12_goes 103 (.ireturn) 1 104 := ⟨k_dX12_goes_102.2, rfl⟩
theorem k_dX12_hasLaw_0 : decode (mX12_hasLaw).2.1 0 = .ok ((.aload_n 0), 1) ∧ decode (mX12_hasLaw).2.1 1 = .ok ((.getfield 64), 3) ∧ decode (mX12_hasLaw).2.1 4 = .ok ((.iload_n 1), 1) ∧ decode (mX12_hasLaw).2.1 5 = .ok ((.iaload), 1) ∧ decode (mX12_hasLaw).2.1 6 = .ok ((.aload_n 0), 1) ∧ decode (mX12_hasLaw).2.1 7 = .ok ((.getfield 61), 3) := by decide +kernel
theorem dX12_hasLaw_0 : Dc mX12_hasLaw 0 (.aload_n 0) 1 1 := ⟨k_dX12_hasLaw_0.1, rfl⟩
theorem dX12_hasLaw_1 : Dc mX12_hasLaw 1 (.getfield 64) 3 4 := ⟨k_dX12_hasLaw_0.2.1, rfl⟩
theorem dX12_hasLaw_4 : Dc mX12_hasLaw 4 (.iload_n 1) 1 5 := ⟨k_dX12_hasLaw_0.2.2.1, rfl⟩
theorem dX12_hasLaw_5 : Dc mX12_hasLaw 5 (.iaload) 1 6 := ⟨k_dX12_hasLaw_0.2.2.2.1, rfl⟩
theorem dX12_hasLaw_6 : Dc mX12_hasLaw 6 (.aload_n 0) 1 7 := ⟨k_dX12_hasLaw_0.2.2.2.2.1, rfl⟩
theorem dX12_hasLaw_7 : Dc mX12_hasLaw 7 (.getfield 61) 3 10 := ⟨k_dX12_hasLaw_0.2.2.2.2.2, rfl⟩
theorem k_dX12_hasLaw_10 : decode (mX12_hasLaw).2.1 10 = .ok ((.iload_n 1), 1) ∧ decode (mX12_hasLaw).2.1 11 = .ok ((.iaload), 1) ∧ decode (mX12_hasLaw).2.1 12 = .ok ((.if_icmp .le 7), 3) ∧ decode (mX12_hasLaw).2.1 15 = .ok ((.iconst 1), 1) ∧ decode (mX12_hasLaw).2.1 16 = .ok ((.goto 4), 3) ∧ decode (mX12_hasLaw).2.1 19 = .ok ((.iconst 0), 1) := by decide +kernel
theorem dX12_hasLaw_10 : Dc mX12_hasLaw 10 (.iload_n 1) 1 11 := ⟨k_dX12_hasLaw_10.1, rfl⟩
theorem dX12_hasLaw_11 : Dc mX12_hasLaw 11 (.iaload) 1 12 := ⟨k_dX12_hasLaw_10.2.1, rfl⟩
theorem dX12_hasLaw_12 : Dc mX12_hasLaw 12 (.if_icmp .le 7) 3 15 := ⟨k_dX12_hasLaw_10.2.2.1, rfl⟩
theorem dX12_hasLaw_15 : Dc mX12_hasLaw 15 (.iconst 1) 1 16 := ⟨k_dX12_hasLaw_10.2.2.2.1, rfl⟩
theorem dX12_hasLaw_16 : Dc mX12_hasLaw 16 (.goto 4) 3 19 := ⟨k_dX12_hasLaw_10.2.2.2.2.1, rfl⟩
theorem dX12_hasLaw_19 : Dc mX12_hasLaw 19 (.iconst 0) 1 20 := ⟨k_dX12_hasLaw_10.2.2.2.2.2, rfl⟩
theorem dX12_hasLaw_20 : Dc mX12_hasLaw 20 (.ireturn) 1 21 := ⟨by decide +kernel, rfl⟩
theorem k_dX12_starts_0 : decode (mX12_starts).2.1 0 = .ok ((.aload_n 0), 1) ∧ decode (mX12_starts).2.1 1 = .ok ((.getfield 84), 3) ∧ decode (mX12_starts).2.1 4 = .ok ((.iload_n 1), 1) ∧ decode (mX12_starts).2.1 5 = .ok ((.iconst 0), 1) ∧ decode (mX12_starts).2.1 6 = .ok ((.iastore), 1) ∧ decode (mX12_starts).2.1 7 = .ok ((.aload_n 0), 1) := by decide +kernel
theorem dX12_starts_0 : Dc mX12_starts 0 (.aload_n 0) 1 1 := ⟨k_dX12_starts_0.1, rfl⟩
theorem dX12_starts_1 : Dc mX12_starts 1 (.getfield 84) 3 4 := ⟨k_dX12_starts_0.2.1, rfl⟩
theorem dX12_starts_4 : Dc mX12_starts 4 (.iload_n 1) 1 5 := ⟨k_dX12_starts_0.2.2.1, rfl⟩
theorem dX12_starts_5 : Dc mX12_starts 5 (.iconst 0) 1 6 := ⟨k_dX12_starts_0.2.2.2.1, rfl⟩
theorem dX12_starts_6 : Dc mX12_starts 6 (.iastore) 1 7 := ⟨k_dX12_starts_0.2.2.2.2.1, rfl⟩
theorem dX12_starts_7 : Dc mX12_starts 7 (.aload_n 0) 1 8 := ⟨k_dX12_starts_0.2.2.2.2.2, rfl⟩
theorem k_dX12_starts_8 : decode (mX12_starts).2.1 8 = .ok ((.getfield 87), 3) ∧ decode (mX12_starts).2.1 11 = .ok ((.iload_n 1), 1) ∧ decode (mX12_starts).2.1 12 = .ok ((.aload_n 0), 1) ∧ decode (mX12_starts).2.1 13 = .ok ((.getfield 13), 3) ∧ decode (mX12_starts).2.1 16 = .ok ((.bipush 8), 2) ∧ decode (mX12_starts).2.1 18 = .ok ((.iaload), 1) := by decide +kernel
theorem dX12_starts_8 : Dc mX12_starts 8 (.getfield 87) 3 11 := ⟨k_dX12_starts_8.1, rfl⟩
theorem dX12_starts_11 : Dc mX12_starts 11 (.iload_n 1) 1 12 := ⟨k_dX12_starts_8.2.1, rfl⟩
theorem dX12_starts_12 : Dc mX12_starts 12 (.aload_n 0) 1 13 := ⟨k_dX12_starts_8.2.2.1, rfl⟩
theorem dX12_starts_13 : Dc mX12_starts 13 (.getfield 13) 3 16 := ⟨k_dX12_starts_8.2.2.2.1, rfl⟩
theorem dX12_starts_16 : Dc mX12_starts 16 (.bipush 8) 2 18 := ⟨k_dX12_starts_8.2.2.2.2.1, rfl⟩
theorem dX12_starts_18 : Dc mX12_starts 18 (.iaload) 1 19 := ⟨k_dX12_starts_8.2.2.2.2.2, rfl⟩
theorem k_dX12_starts_19 : decode (mX12_starts).2.1 19 = .ok ((.iastore), 1) ∧ decode (mX12_starts).2.1 20 = .ok ((.aload_n 0), 1) ∧ decode (mX12_starts).2.1 21 = .ok ((.getfield 90), 3) ∧ decode (mX12_starts).2.1 24 = .ok ((.iload_n 1), 1) ∧ decode (mX12_starts).2.1 25 = .ok ((.aload_n 0), 1) ∧ decode (mX12_starts).2.1 26 = .ok ((.getfield 13), 3) := by decide +kernel
theorem dX12_starts_19 : Dc mX12_starts 19 (.iastore) 1 20 := ⟨k_dX12_starts_19.1, rfl⟩
theorem dX12_starts_20 : Dc mX12_starts 20 (.aload_n 0) 1 21 := ⟨k_dX12_starts_19.2.1, rfl⟩
theorem dX12_starts_21 : Dc mX12_starts 21 (.getfield 90) 3 24 := ⟨k_dX12_starts_19.2.2.1, rfl⟩
theorem dX12_starts_24 : Dc mX12_starts 24 (.iload_n 1) 1 25 := ⟨k_dX12_starts_19.2.2.2.1, rfl⟩
theorem dX12_starts_25 : Dc mX12_starts 25 (.aload_n 0) 1 26 := ⟨k_dX12_starts_19.2.2.2.2.1, rfl⟩
theorem dX12_starts_26 : Dc mX12_starts 26 (.getfield 13) 3 29 := ⟨k_dX12_starts_19.2.2.2.2.2, rfl⟩
theorem k_dX12_starts_29 : decode (mX12_starts).2.1 29 = .ok ((.bipush 7), 2) ∧ decode (mX12_starts).2.1 31 = .ok ((.iaload), 1) ∧ decode (mX12_starts).2.1 32 = .ok ((.iastore), 1) ∧ decode (mX12_starts).2.1 33 = .ok ((.aload_n 0), 1) ∧ decode (mX12_starts).2.1 34 = .ok ((.getfield 93), 3) ∧ decode (mX12_starts).2.1 37 = .ok ((.iload_n 1), 1) := by decide +kernel
theorem dX12_starts_29 : Dc mX12_starts 29 (.bipush 7) 2 31 := ⟨k_dX12_starts_29.1, rfl⟩
theorem dX12_starts_31 : Dc mX12_starts 31 (.iaload) 1 32 := ⟨k_dX12_starts_29.2.1, rfl⟩
theorem dX12_starts_32 : Dc mX12_starts 32 (.iastore) 1 33 := ⟨k_dX12_starts_29.2.2.1, rfl⟩
theorem dX12_starts_33 : Dc mX12_starts 33 (.aload_n 0) 1 34 := ⟨k_dX12_starts_29.2.2.2.1, rfl⟩
theorem dX12_starts_34 : Dc mX12_starts 34 (.getfield 93) 3 37 := ⟨k_dX12_starts_29.2.2.2.2.1, rfl⟩
theorem dX12_starts_37 : Dc mX12_starts 37 (.iload_n 1) 1 38 := ⟨k_dX12_starts_29.2.2.2.2.2, rfl⟩
theorem k_dX12_starts_38 : decode (mX12_starts).2.1 38 = .ok ((.iconst 0), 1) ∧ decode (mX12_starts).2.1 39 = .ok ((.iastore), 1) ∧ decode (mX12_starts).2.1 40 = .ok ((.aload_n 0), 1) ∧ decode (mX12_starts).2.1 41 = .ok ((.getfield 96), 3) ∧ decode (mX12_starts).2.1 44 = .ok ((.iload_n 1), 1) ∧ decode (mX12_starts).2.1 45 = .ok ((.iconst 0), 1) := by decide +kernel
theorem dX12_starts_38 : Dc mX12_starts 38 (.iconst 0) 1 39 := ⟨k_dX12_starts_38.1, rfl⟩
theorem dX12_starts_39 : Dc mX12_starts 39 (.iastore) 1 40 := ⟨k_dX12_starts_38.2.1, rfl⟩
theorem dX12_starts_40 : Dc mX12_starts 40 (.aload_n 0) 1 41 := ⟨k_dX12_starts_38.2.2.1, rfl⟩
theorem dX12_starts_41 : Dc mX12_starts 41 (.getfield 96) 3 44 := ⟨k_dX12_starts_38.2.2.2.1, rfl⟩
theorem dX12_starts_44 : Dc mX12_starts 44 (.iload_n 1) 1 45 := ⟨k_dX12_starts_38.2.2.2.2.1, rfl⟩
theorem dX12_starts_45 : Dc mX12_starts 45 (.iconst 0) 1 46 := ⟨k_dX12_starts_38.2.2.2.2.2, rfl⟩
theorem k_dX12_starts_46 : decode (mX12_starts).2.1 46 = .ok ((.iastore), 1) ∧ decode (mX12_starts).2.1 47 = .ok ((.aload_n 0), 1) ∧ decode (mX12_starts).2.1 48 = .ok ((.getfield 99), 3) ∧ decode (mX12_starts).2.1 51 = .ok ((.iload_n 1), 1) ∧ decode (mX12_starts).2.1 52 = .ok ((.iconst 0), 1) ∧ decode (mX12_starts).2.1 53 = .ok ((.iastore), 1) := by decide +kernel
theorem dX12_starts_46 : Dc mX12_starts 46 (.iastore) 1 47 := ⟨k_dX12_starts_46.1, rfl⟩
theorem dX12_starts_47 : Dc mX12_starts 47 (.aload_n 0) 1 48 := ⟨k_dX12_starts_46.2.1, rfl⟩
theorem dX12_starts_48 : Dc mX12_starts 48 (.getfield 99) 3 51 := ⟨k_dX12_starts_46.2.2.1, rfl⟩
theorem dX12_starts_51 : Dc mX12_starts 51 (.iload_n 1) 1 52 := ⟨k_dX12_starts_46.2.2.2.1, rfl⟩
theorem dX12_starts_52 : Dc mX12_starts 52 (.iconst 0) 1 53 := ⟨k_dX12_starts_46.2.2.2.2.1, rfl⟩
theorem dX12_starts_53 : Dc mX12_starts 53 (.iastore) 1 54 := ⟨k_dX12_starts_46.2.2.2.2.2, rfl⟩
theorem k_dX12_starts_54 : decode (mX12_starts).2.1 54 = .ok ((.iconst 0), 1) ∧ decode (mX12_starts).2.1 55 = .ok ((.istore_n 2), 1) ∧ decode (mX12_starts).2.1 56 = .ok ((.iload_n 2), 1) ∧ decode (mX12_starts).2.1 57 = .ok ((.bipush 6), 2) ∧ decode (mX12_starts).2.1 59 = .ok ((.if_icmp .ge 33), 3) ∧ decode (mX12_starts).2.1 62 = .ok ((.aload_n 0), 1) := by decide +kernel
theorem dX12_starts_54 : Dc mX12_starts 54 (.iconst 0) 1 55 := ⟨k_dX12_starts_54.1, rfl⟩
theorem dX12_starts_55 : Dc mX12_starts 55 (.istore_n 2) 1 56 := ⟨k_dX12_starts_54.2.1, rfl⟩
theorem dX12_starts_56 : Dc mX12_starts 56 (.iload_n 2) 1 57 := ⟨k_dX12_starts_54.2.2.1, rfl⟩
theorem dX12_starts_57 : Dc mX12_starts 57 (.bipush 6) 2 59 := ⟨k_dX12_starts_54.2.2.2.1, rfl⟩
theorem dX12_starts_59 : Dc mX12_starts 59 (.if_icmp .ge 33) 3 62 := ⟨k_dX12_starts_54.2.2.2.2.1, rfl⟩
theorem dX12_starts_62 : Dc mX12_starts 62 (.aload_n 0) 1 63 := ⟨k_dX12_starts_54.2.2.2.2.2, rfl⟩
theorem k_dX12_starts_63 : decode (mX12_starts).2.1 63 = .ok ((.getfield 102), 3) ∧ decode (mX12_starts).2.1 66 = .ok ((.bipush 6), 2) ∧ decode (mX12_starts).2.1 68 = .ok ((.iload_n 1), 1) ∧ decode (mX12_starts).2.1 69 = .ok ((.imul), 1) ∧ decode (mX12_starts).2.1 70 = .ok ((.iload_n 2), 1) ∧ decode (mX12_starts).2.1 71 = .ok ((.iadd), 1) := by decide +kernel
theorem dX12_starts_63 : Dc mX12_starts 63 (.getfield 102) 3 66 := ⟨k_dX12_starts_63.1, rfl⟩
theorem dX12_starts_66 : Dc mX12_starts 66 (.bipush 6) 2 68 := ⟨k_dX12_starts_63.2.1, rfl⟩
theorem dX12_starts_68 : Dc mX12_starts 68 (.iload_n 1) 1 69 := ⟨k_dX12_starts_63.2.2.1, rfl⟩
theorem dX12_starts_69 : Dc mX12_starts 69 (.imul) 1 70 := ⟨k_dX12_starts_63.2.2.2.1, rfl⟩
theorem dX12_starts_70 : Dc mX12_starts 70 (.iload_n 2) 1 71 := ⟨k_dX12_starts_63.2.2.2.2.1, rfl⟩
theorem dX12_starts_71 : Dc mX12_starts 71 (.iadd) 1 72 := ⟨k_dX12_starts_63.2.2.2.2.2, rfl⟩
theorem k_dX12_starts_72 : decode (mX12_starts).2.1 72 = .ok ((.iconst (-1)), 1) ∧ decode (mX12_starts).2.1 73 = .ok ((.iastore), 1) ∧ decode (mX12_starts).2.1 74 = .ok ((.aload_n 0), 1) ∧ decode (mX12_starts).2.1 75 = .ok ((.getfield 105), 3) ∧ decode (mX12_starts).2.1 78 = .ok ((.bipush 6), 2) ∧ decode (mX12_starts).2.1 80 = .ok ((.iload_n 1), 1) := by decide +kernel
theorem dX12_starts_72 : Dc mX12_starts 72 (.iconst (-1)) 1 73 := ⟨k_dX12_starts_72.1, rfl⟩
theorem dX12_starts_73 : Dc mX12_starts 73 (.iastore) 1 74 := ⟨k_dX12_starts_72.2.1, rfl⟩
theorem dX12_starts_74 : Dc mX12_starts 74 (.aload_n 0) 1 75 := ⟨k_dX12_starts_72.2.2.1, rfl⟩
theorem dX12_starts_75 : Dc mX12_starts 75 (.getfield 105) 3 78 := ⟨k_dX12_starts_72.2.2.2.1, rfl⟩
theorem dX12_starts_78 : Dc mX12_starts 78 (.bipush 6) 2 80 := ⟨k_dX12_starts_72.2.2.2.2.1, rfl⟩
theorem dX12_starts_80 : Dc mX12_starts 80 (.iload_n 1) 1 81 := ⟨k_dX12_starts_72.2.2.2.2.2, rfl⟩
theorem k_dX12_starts_81 : decode (mX12_starts).2.1 81 = .ok ((.imul), 1) ∧ decode (mX12_starts).2.1 82 = .ok ((.iload_n 2), 1) ∧ decode (mX12_starts).2.1 83 = .ok ((.iadd), 1) ∧ decode (mX12_starts).2.1 84 = .ok ((.iconst 0), 1) ∧ decode (mX12_starts).2.1 85 = .ok ((.iastore), 1) ∧ decode (mX12_starts).2.1 86 = .ok ((.iinc 2 1), 3) := by decide +kernel
theorem dX12_starts_81 : Dc mX12_starts 81 (.imul) 1 82 := ⟨k_dX12_starts_81.1, rfl⟩
theorem dX12_starts_82 : Dc mX12_starts 82 (.iload_n 2) 1 83 := ⟨k_dX12_starts_81.2.1, rfl⟩
theorem dX12_starts_83 : Dc mX12_starts 83 (.iadd) 1 84 := ⟨k_dX12_starts_81.2.2.1, rfl⟩
theorem dX12_starts_84 : Dc mX12_starts 84 (.iconst 0) 1 85 := ⟨k_dX12_starts_81.2.2.2.1, rfl⟩
theorem dX12_starts_85 : Dc mX12_starts 85 (.iastore) 1 86 := ⟨k_dX12_starts_81.2.2.2.2.1, rfl⟩
theorem dX12_starts_86 : Dc mX12_starts 86 (.iinc 2 1) 3 89 := ⟨k_dX12_starts_81.2.2.2.2.2, rfl⟩
theorem k_dX12_starts_89 : decode (mX12_starts).2.1 89 = .ok ((.goto (-33)), 3) ∧ decode (mX12_starts).2.1 92 = .ok ((.iconst 0), 1) ∧ decode (mX12_starts).2.1 93 = .ok ((.istore_n 2), 1) ∧ decode (mX12_starts).2.1 94 = .ok ((.iload_n 2), 1) ∧ decode (mX12_starts).2.1 95 = .ok ((.bipush 8), 2) ∧ decode (mX12_starts).2.1 97 = .ok ((.if_icmp .ge 64), 3) := by decide +kernel
theorem dX12_starts_89 : Dc mX12_starts 89 (.goto (-33)) 3 92 := ⟨k_dX12_starts_89.1, rfl⟩
theorem dX12_starts_92 : Dc mX12_starts 92 (.iconst 0) 1 93 := ⟨k_dX12_starts_89.2.1, rfl⟩
theorem dX12_starts_93 : Dc mX12_starts 93 (.istore_n 2) 1 94 := ⟨k_dX12_starts_89.2.2.1, rfl⟩
theorem dX12_starts_94 : Dc mX12_starts 94 (.iload_n 2) 1 95 := ⟨k_dX12_starts_89.2.2.2.1, rfl⟩
theorem dX12_starts_95 : Dc mX12_starts 95 (.bipush 8) 2 97 := ⟨k_dX12_starts_89.2.2.2.2.1, rfl⟩
theorem dX12_starts_97 : Dc mX12_starts 97 (.if_icmp .ge 64) 3 100 := ⟨k_dX12_starts_89.2.2.2.2.2, rfl⟩
theorem k_dX12_starts_100 : decode (mX12_starts).2.1 100 = .ok ((.aload_n 0), 1) ∧ decode (mX12_starts).2.1 101 = .ok ((.getfield 108), 3) ∧ decode (mX12_starts).2.1 104 = .ok ((.bipush 8), 2) ∧ decode (mX12_starts).2.1 106 = .ok ((.iload_n 1), 1) ∧ decode (mX12_starts).2.1 107 = .ok ((.imul), 1) ∧ decode (mX12_starts).2.1 108 = .ok ((.iload_n 2), 1) := by decide +kernel
theorem dX12_starts_100 : Dc mX12_starts 100 (.aload_n 0) 1 101 := ⟨k_dX12_starts_100.1, rfl⟩
theorem dX12_starts_101 : Dc mX12_starts 101 (.getfield 108) 3 104 := ⟨k_dX12_starts_100.2.1, rfl⟩
theorem dX12_starts_104 : Dc mX12_starts 104 (.bipush 8) 2 106 := ⟨k_dX12_starts_100.2.2.1, rfl⟩
theorem dX12_starts_106 : Dc mX12_starts 106 (.iload_n 1) 1 107 := ⟨k_dX12_starts_100.2.2.2.1, rfl⟩
theorem dX12_starts_107 : Dc mX12_starts 107 (.imul) 1 108 := ⟨k_dX12_starts_100.2.2.2.2.1, rfl⟩
theorem dX12_starts_108 : Dc mX12_starts 108 (.iload_n 2) 1 109 := ⟨k_dX12_starts_100.2.2.2.2.2, rfl⟩
theorem k_dX12_starts_109 : decode (mX12_starts).2.1 109 = .ok ((.iadd), 1) ∧ decode (mX12_starts).2.1 110 = .ok ((.iload_n 2), 1) ∧ decode (mX12_starts).2.1 111 = .ok ((.aload_n 0), 1) ∧ decode (mX12_starts).2.1 112 = .ok ((.getfield 13), 3) ∧ decode (mX12_starts).2.1 115 = .ok ((.iconst 1), 1) ∧ decode (mX12_starts).2.1 116 = .ok ((.iaload), 1) := by decide +kernel
theorem dX12_starts_109 : Dc mX12_starts 109 (.iadd) 1 110 := ⟨k_dX12_starts_109.1, rfl⟩
theorem dX12_starts_110 : Dc mX12_starts 110 (.iload_n 2) 1 111 := ⟨k_dX12_starts_109.2.1, rfl⟩
theorem dX12_starts_111 : Dc mX12_starts 111 (.aload_n 0) 1 112 := ⟨k_dX12_starts_109.2.2.1, rfl⟩
theorem dX12_starts_112 : Dc mX12_starts 112 (.getfield 13) 3 115 := ⟨k_dX12_starts_109.2.2.2.1, rfl⟩
theorem dX12_starts_115 : Dc mX12_starts 115 (.iconst 1) 1 116 := ⟨k_dX12_starts_109.2.2.2.2.1, rfl⟩
theorem dX12_starts_116 : Dc mX12_starts 116 (.iaload) 1 117 := ⟨k_dX12_starts_109.2.2.2.2.2, rfl⟩
theorem k_dX12_starts_117 : decode (mX12_starts).2.1 117 = .ok ((.if_icmp .ge 12), 3) ∧ decode (mX12_starts).2.1 120 = .ok ((.aload_n 0), 1) ∧ decode (mX12_starts).2.1 121 = .ok ((.getfield 31), 3) ∧ decode (mX12_starts).2.1 124 = .ok ((.iload_n 2), 1) ∧ decode (mX12_starts).2.1 125 = .ok ((.iaload), 1) ∧ decode (mX12_starts).2.1 126 = .ok ((.goto 4), 3) := by decide +kernel
theorem dX12_starts_117 : Dc mX12_starts 117 (.if_icmp .ge 12) 3 120 := ⟨k_dX12_starts_117.1, rfl⟩
theorem dX12_starts_120 : Dc mX12_starts 120 (.aload_n 0) 1 121 := ⟨k_dX12_starts_117.2.1, rfl⟩
theorem dX12_starts_121 : Dc mX12_starts 121 (.getfield 31) 3 124 := ⟨k_dX12_starts_117.2.2.1, rfl⟩
theorem dX12_starts_124 : Dc mX12_starts 124 (.iload_n 2) 1 125 := ⟨k_dX12_starts_117.2.2.2.1, rfl⟩
theorem dX12_starts_125 : Dc mX12_starts 125 (.iaload) 1 126 := ⟨k_dX12_starts_117.2.2.2.2.1, rfl⟩
theorem dX12_starts_126 : Dc mX12_starts 126 (.goto 4) 3 129 := ⟨k_dX12_starts_117.2.2.2.2.2, rfl⟩
theorem k_dX12_starts_129 : decode (mX12_starts).2.1 129 = .ok ((.iconst 0), 1) ∧ decode (mX12_starts).2.1 130 = .ok ((.iastore), 1) ∧ decode (mX12_starts).2.1 131 = .ok ((.aload_n 0), 1) ∧ decode (mX12_starts).2.1 132 = .ok ((.getfield 111), 3) ∧ decode (mX12_starts).2.1 135 = .ok ((.bipush 8), 2) ∧ decode (mX12_starts).2.1 137 = .ok ((.iload_n 1), 1) := by decide +kernel
theorem dX12_starts_129 : Dc mX12_starts 129 (.iconst 0) 1 130 := ⟨k_dX12_starts_129.1, rfl⟩
theorem dX12_starts_130 : Dc mX12_starts 130 (.iastore) 1 131 := ⟨k_dX12_starts_129.2.1, rfl⟩
theorem dX12_starts_131 : Dc mX12_starts 131 (.aload_n 0) 1 132 := ⟨k_dX12_starts_129.2.2.1, rfl⟩
theorem dX12_starts_132 : Dc mX12_starts 132 (.getfield 111) 3 135 := ⟨k_dX12_starts_129.2.2.2.1, rfl⟩
theorem dX12_starts_135 : Dc mX12_starts 135 (.bipush 8) 2 137 := ⟨k_dX12_starts_129.2.2.2.2.1, rfl⟩
theorem dX12_starts_137 : Dc mX12_starts 137 (.iload_n 1) 1 138 := ⟨k_dX12_starts_129.2.2.2.2.2, rfl⟩
theorem k_dX12_starts_138 : decode (mX12_starts).2.1 138 = .ok ((.imul), 1) ∧ decode (mX12_starts).2.1 139 = .ok ((.iload_n 2), 1) ∧ decode (mX12_starts).2.1 140 = .ok ((.iadd), 1) ∧ decode (mX12_starts).2.1 141 = .ok ((.iconst 0), 1) ∧ decode (mX12_starts).2.1 142 = .ok ((.iastore), 1) ∧ decode (mX12_starts).2.1 143 = .ok ((.aload_n 0), 1) := by decide +kernel
theorem dX12_starts_138 : Dc mX12_starts 138 (.imul) 1 139 := ⟨k_dX12_starts_138.1, rfl⟩
theorem dX12_starts_139 : Dc mX12_starts 139 (.iload_n 2) 1 140 := ⟨k_dX12_starts_138.2.1, rfl⟩
theorem dX12_starts_140 : Dc mX12_starts 140 (.iadd) 1 141 := ⟨k_dX12_starts_138.2.2.1, rfl⟩
theorem dX12_starts_141 : Dc mX12_starts 141 (.iconst 0) 1 142 := ⟨k_dX12_starts_138.2.2.2.1, rfl⟩
theorem dX12_starts_142 : Dc mX12_starts 142 (.iastore) 1 143 := ⟨k_dX12_starts_138.2.2.2.2.1, rfl⟩
theorem dX12_starts_143 : Dc mX12_starts 143 (.aload_n 0) 1 144 := ⟨k_dX12_starts_138.2.2.2.2.2, rfl⟩
theorem k_dX12_starts_144 : decode (mX12_starts).2.1 144 = .ok ((.getfield 114), 3) ∧ decode (mX12_starts).2.1 147 = .ok ((.bipush 8), 2) ∧ decode (mX12_starts).2.1 149 = .ok ((.iload_n 1), 1) ∧ decode (mX12_starts).2.1 150 = .ok ((.imul), 1) ∧ decode (mX12_starts).2.1 151 = .ok ((.iload_n 2), 1) ∧ decode (mX12_starts).2.1 152 = .ok ((.iadd), 1) := by decide +kernel
theorem dX12_starts_144 : Dc mX12_starts 144 (.getfield 114) 3 147 := ⟨k_dX12_starts_144.1, rfl⟩
theorem dX12_starts_147 : Dc mX12_starts 147 (.bipush 8) 2 149 := ⟨k_dX12_starts_144.2.1, rfl⟩
theorem dX12_starts_149 : Dc mX12_starts 149 (.iload_n 1) 1 150 := ⟨k_dX12_starts_144.2.2.1, rfl⟩
theorem dX12_starts_150 : Dc mX12_starts 150 (.imul) 1 151 := ⟨k_dX12_starts_144.2.2.2.1, rfl⟩
theorem dX12_starts_151 : Dc mX12_starts 151 (.iload_n 2) 1 152 := ⟨k_dX12_starts_144.2.2.2.2.1, rfl⟩
theorem dX12_starts_152 : Dc mX12_starts 152 (.iadd) 1 153 := ⟨k_dX12_starts_144.2.2.2.2.2, rfl⟩
theorem k_dX12_starts_153 : decode (mX12_starts).2.1 153 = .ok ((.iconst 0), 1) ∧ decode (mX12_starts).2.1 154 = .ok ((.iastore), 1) ∧ decode (mX12_starts).2.1 155 = .ok ((.iinc 2 1), 3) ∧ decode (mX12_starts).2.1 158 = .ok ((.goto (-64)), 3) ∧ decode (mX12_starts).2.1 161 = .ok ((.iconst 0), 1) ∧ decode (mX12_starts).2.1 162 = .ok ((.istore_n 2), 1) := by decide +kernel
theorem dX12_starts_153 : Dc mX12_starts 153 (.iconst 0) 1 154 := ⟨k_dX12_starts_153.1, rfl⟩
theorem dX12_starts_154 : Dc mX12_starts 154 (.iastore) 1 155 := ⟨k_dX12_starts_153.2.1, rfl⟩
theorem dX12_starts_155 : Dc mX12_starts 155 (.iinc 2 1) 3 158 := ⟨k_dX12_starts_153.2.2.1, rfl⟩
theorem dX12_starts_158 : Dc mX12_starts 158 (.goto (-64)) 3 161 := ⟨k_dX12_starts_153.2.2.2.1, rfl⟩
theorem dX12_starts_161 : Dc mX12_starts 161 (.iconst 0) 1 162 := ⟨k_dX12_starts_153.2.2.2.2.1, rfl⟩
theorem dX12_starts_162 : Dc mX12_starts 162 (.istore_n 2) 1 163 := ⟨k_dX12_starts_153.2.2.2.2.2, rfl⟩
theorem k_dX12_starts_163 : decode (mX12_starts).2.1 163 = .ok ((.iload_n 2), 1) ∧ decode (mX12_starts).2.1 164 = .ok ((.bipush 48), 2) ∧ decode (mX12_starts).2.1 166 = .ok ((.if_icmp .ge 26), 3) ∧ decode (mX12_starts).2.1 169 = .ok ((.aload_n 0), 1) ∧ decode (mX12_starts).2.1 170 = .ok ((.getfield 117), 3) ∧ decode (mX12_starts).2.1 173 = .ok ((.bipush 48), 2) := by decide +kernel
theorem dX12_starts_163 : Dc mX12_starts 163 (.iload_n 2) 1 164 := ⟨k_dX12_starts_163.1, rfl⟩
theorem dX12_starts_164 : Dc mX12_starts 164 (.bipush 48) 2 166 := ⟨k_dX12_starts_163.2.1, rfl⟩
theorem dX12_starts_166 : Dc mX12_starts 166 (.if_icmp .ge 26) 3 169 := ⟨k_dX12_starts_163.2.2.1, rfl⟩
theorem dX12_starts_169 : Dc mX12_starts 169 (.aload_n 0) 1 170 := ⟨k_dX12_starts_163.2.2.2.1, rfl⟩
theorem dX12_starts_170 : Dc mX12_starts 170 (.getfield 117) 3 173 := ⟨k_dX12_starts_163.2.2.2.2.1, rfl⟩
theorem dX12_starts_173 : Dc mX12_starts 173 (.bipush 48) 2 175 := ⟨k_dX12_starts_163.2.2.2.2.2, rfl⟩
theorem k_dX12_starts_175 : decode (mX12_starts).2.1 175 = .ok ((.iload_n 1), 1) ∧ decode (mX12_starts).2.1 176 = .ok ((.imul), 1) ∧ decode (mX12_starts).2.1 177 = .ok ((.iload_n 2), 1) ∧ decode (mX12_starts).2.1 178 = .ok ((.iadd), 1) ∧ decode (mX12_starts).2.1 179 = .ok ((.aload_n 0), 1) ∧ decode (mX12_starts).2.1 180 = .ok ((.getfield 34), 3) := by decide +kernel
theorem dX12_starts_175 : Dc mX12_starts 175 (.iload_n 1) 1 176 := ⟨k_dX12_starts_175.1, rfl⟩
theorem dX12_starts_176 : Dc mX12_starts 176 (.imul) 1 177 := ⟨k_dX12_starts_175.2.1, rfl⟩
theorem dX12_starts_177 : Dc mX12_starts 177 (.iload_n 2) 1 178 := ⟨k_dX12_starts_175.2.2.1, rfl⟩
theorem dX12_starts_178 : Dc mX12_starts 178 (.iadd) 1 179 := ⟨k_dX12_starts_175.2.2.2.1, rfl⟩
theorem dX12_starts_179 : Dc mX12_starts 179 (.aload_n 0) 1 180 := ⟨k_dX12_starts_175.2.2.2.2.1, rfl⟩
theorem dX12_starts_180 : Dc mX12_starts 180 (.getfield 34) 3 183 := ⟨k_dX12_starts_175.2.2.2.2.2, rfl⟩
theorem k_dX12_starts_183 : decode (mX12_starts).2.1 183 = .ok ((.iload_n 2), 1) ∧ decode (mX12_starts).2.1 184 = .ok ((.iaload), 1) ∧ decode (mX12_starts).2.1 185 = .ok ((.iastore), 1) ∧ decode (mX12_starts).2.1 186 = .ok ((.iinc 2 1), 3) ∧ decode (mX12_starts).2.1 189 = .ok ((.goto (-26)), 3) ∧ decode (mX12_starts).2.1 192 = .ok ((.iconst 0), 1) := by decide +kernel
theorem dX12_starts_183 : Dc mX12_starts 183 (.iload_n 2) 1 184 := ⟨k_dX12_starts_183.1, rfl⟩
theorem dX12_starts_184 : Dc mX12_starts 184 (.iaload) 1 185 := ⟨k_dX12_starts_183.2.1, rfl⟩
theorem dX12_starts_185 : Dc mX12_starts 185 (.iastore) 1 186 := ⟨k_dX12_starts_183.2.2.1, rfl⟩
theorem dX12_starts_186 : Dc mX12_starts 186 (.iinc 2 1) 3 189 := ⟨k_dX12_starts_183.2.2.2.1, rfl⟩
theorem dX12_starts_189 : Dc mX12_starts 189 (.goto (-26)) 3 192 := ⟨k_dX12_starts_183.2.2.2.2.1, rfl⟩
theorem dX12_starts_192 : Dc mX12_starts 192 (.iconst 0) 1 193 := ⟨k_dX12_starts_183.2.2.2.2.2, rfl⟩
theorem k_dX12_starts_193 : decode (mX12_starts).2.1 193 = .ok ((.istore_n 2), 1) ∧ decode (mX12_starts).2.1 194 = .ok ((.iload_n 2), 1) ∧ decode (mX12_starts).2.1 195 = .ok ((.iconst 4), 1) ∧ decode (mX12_starts).2.1 196 = .ok ((.if_icmp .ge 50), 3) ∧ decode (mX12_starts).2.1 199 = .ok ((.aload_n 0), 1) ∧ decode (mX12_starts).2.1 200 = .ok ((.getfield 120), 3) := by decide +kernel
theorem dX12_starts_193 : Dc mX12_starts 193 (.istore_n 2) 1 194 := ⟨k_dX12_starts_193.1, rfl⟩
theorem dX12_starts_194 : Dc mX12_starts 194 (.iload_n 2) 1 195 := ⟨k_dX12_starts_193.2.1, rfl⟩
theorem dX12_starts_195 : Dc mX12_starts 195 (.iconst 4) 1 196 := ⟨k_dX12_starts_193.2.2.1, rfl⟩
theorem dX12_starts_196 : Dc mX12_starts 196 (.if_icmp .ge 50) 3 199 := ⟨k_dX12_starts_193.2.2.2.1, rfl⟩
theorem dX12_starts_199 : Dc mX12_starts 199 (.aload_n 0) 1 200 := ⟨k_dX12_starts_193.2.2.2.2.1, rfl⟩
theorem dX12_starts_200 : Dc mX12_starts 200 (.getfield 120) 3 203 := ⟨k_dX12_starts_193.2.2.2.2.2, rfl⟩
theorem k_dX12_starts_203 : decode (mX12_starts).2.1 203 = .ok ((.iconst 4), 1) ∧ decode (mX12_starts).2.1 204 = .ok ((.iload_n 1), 1) ∧ decode (mX12_starts).2.1 205 = .ok ((.imul), 1) ∧ decode (mX12_starts).2.1 206 = .ok ((.iload_n 2), 1) ∧ decode (mX12_starts).2.1 207 = .ok ((.iadd), 1) ∧ decode (mX12_starts).2.1 208 = .ok ((.iload_n 2), 1) := by decide +kernel
theorem dX12_starts_203 : Dc mX12_starts 203 (.iconst 4) 1 204 := ⟨k_dX12_starts_203.1, rfl⟩
theorem dX12_starts_204 : Dc mX12_starts 204 (.iload_n 1) 1 205 := ⟨k_dX12_starts_203.2.1, rfl⟩
theorem dX12_starts_205 : Dc mX12_starts 205 (.imul) 1 206 := ⟨k_dX12_starts_203.2.2.1, rfl⟩
theorem dX12_starts_206 : Dc mX12_starts 206 (.iload_n 2) 1 207 := ⟨k_dX12_starts_203.2.2.2.1, rfl⟩
theorem dX12_starts_207 : Dc mX12_starts 207 (.iadd) 1 208 := ⟨k_dX12_starts_203.2.2.2.2.1, rfl⟩
theorem dX12_starts_208 : Dc mX12_starts 208 (.iload_n 2) 1 209 := ⟨k_dX12_starts_203.2.2.2.2.2, rfl⟩
theorem k_dX12_starts_209 : decode (mX12_starts).2.1 209 = .ok ((.aload_n 0), 1) ∧ decode (mX12_starts).2.1 210 = .ok ((.getfield 13), 3) ∧ decode (mX12_starts).2.1 213 = .ok ((.iconst 3), 1) ∧ decode (mX12_starts).2.1 214 = .ok ((.iaload), 1) ∧ decode (mX12_starts).2.1 215 = .ok ((.if_icmp .ge 12), 3) ∧ decode (mX12_starts).2.1 218 = .ok ((.aload_n 0), 1) := by decide +kernel
theorem dX12_starts_209 : Dc mX12_starts 209 (.aload_n 0) 1 210 := ⟨k_dX12_starts_209.1, rfl⟩
theorem dX12_starts_210 : Dc mX12_starts 210 (.getfield 13) 3 213 := ⟨k_dX12_starts_209.2.1, rfl⟩
theorem dX12_starts_213 : Dc mX12_starts 213 (.iconst 3) 1 214 := ⟨k_dX12_starts_209.2.2.1, rfl⟩
theorem dX12_starts_214 : Dc mX12_starts 214 (.iaload) 1 215 := ⟨k_dX12_starts_209.2.2.2.1, rfl⟩
theorem dX12_starts_215 : Dc mX12_starts 215 (.if_icmp .ge 12) 3 218 := ⟨k_dX12_starts_209.2.2.2.2.1, rfl⟩
theorem dX12_starts_218 : Dc mX12_starts 218 (.aload_n 0) 1 219 := ⟨k_dX12_starts_209.2.2.2.2.2, rfl⟩
theorem k_dX12_starts_219 : decode (mX12_starts).2.1 219 = .ok ((.getfield 46), 3) ∧ decode (mX12_starts).2.1 222 = .ok ((.iload_n 2), 1) ∧ decode (mX12_starts).2.1 223 = .ok ((.iaload), 1) ∧ decode (mX12_starts).2.1 224 = .ok ((.goto 4), 3) ∧ decode (mX12_starts).2.1 227 = .ok ((.iconst 0), 1) ∧ decode (mX12_starts).2.1 228 = .ok ((.iastore), 1) := by decide +kernel
theorem dX12_starts_219 : Dc mX12_starts 219 (.getfield 46) 3 222 := ⟨k_dX12_starts_219.1, rfl⟩
theorem dX12_starts_222 : Dc mX12_starts 222 (.iload_n 2) 1 223 := ⟨k_dX12_starts_219.2.1, rfl⟩
theorem dX12_starts_223 : Dc mX12_starts 223 (.iaload) 1 224 := ⟨k_dX12_starts_219.2.2.1, rfl⟩
theorem dX12_starts_224 : Dc mX12_starts 224 (.goto 4) 3 227 := ⟨k_dX12_starts_219.2.2.2.1, rfl⟩
theorem dX12_starts_227 : Dc mX12_starts 227 (.iconst 0) 1 228 := ⟨k_dX12_starts_219.2.2.2.2.1, rfl⟩
theorem dX12_starts_228 : Dc mX12_starts 228 (.iastore) 1 229 := ⟨k_dX12_starts_219.2.2.2.2.2, rfl⟩
theorem k_dX12_starts_229 : decode (mX12_starts).2.1 229 = .ok ((.aload_n 0), 1) ∧ decode (mX12_starts).2.1 230 = .ok ((.getfield 123), 3) ∧ decode (mX12_starts).2.1 233 = .ok ((.iconst 4), 1) ∧ decode (mX12_starts).2.1 234 = .ok ((.iload_n 1), 1) ∧ decode (mX12_starts).2.1 235 = .ok ((.imul), 1) ∧ decode (mX12_starts).2.1 236 = .ok ((.iload_n 2), 1) := by decide +kernel
theorem dX12_starts_229 : Dc mX12_starts 229 (.aload_n 0) 1 230 := ⟨k_dX12_starts_229.1, rfl⟩
theorem dX12_starts_230 : Dc mX12_starts 230 (.getfield 123) 3 233 := ⟨k_dX12_starts_229.2.1, rfl⟩
theorem dX12_starts_233 : Dc mX12_starts 233 (.iconst 4) 1 234 := ⟨k_dX12_starts_229.2.2.1, rfl⟩
theorem dX12_starts_234 : Dc mX12_starts 234 (.iload_n 1) 1 235 := ⟨k_dX12_starts_229.2.2.2.1, rfl⟩
theorem dX12_starts_235 : Dc mX12_starts 235 (.imul) 1 236 := ⟨k_dX12_starts_229.2.2.2.2.1, rfl⟩
theorem dX12_starts_236 : Dc mX12_starts 236 (.iload_n 2) 1 237 := ⟨k_dX12_starts_229.2.2.2.2.2, rfl⟩
theorem k_dX12_starts_237 : decode (mX12_starts).2.1 237 = .ok ((.iadd), 1) ∧ decode (mX12_starts).2.1 238 = .ok ((.iconst 0), 1) ∧ decode (mX12_starts).2.1 239 = .ok ((.iastore), 1) ∧ decode (mX12_starts).2.1 240 = .ok ((.iinc 2 1), 3) ∧ decode (mX12_starts).2.1 243 = .ok ((.goto (-49)), 3) ∧ decode (mX12_starts).2.1 246 = .ok ((.return_), 1) := by decide +kernel
theorem dX12_starts_237 : Dc mX12_starts 237 (.iadd) 1 238 := ⟨k_dX12_starts_237.1, rfl⟩
theorem dX12_starts_238 : Dc mX12_starts 238 (.iconst 0) 1 239 := ⟨k_dX12_starts_237.2.1, rfl⟩
theorem dX12_starts_239 : Dc mX12_starts 239 (.iastore) 1 240 := ⟨k_dX12_starts_237.2.2.1, rfl⟩
theorem dX12_starts_240 : Dc mX12_starts 240 (.iinc 2 1) 3 243 := ⟨k_dX12_starts_237.2.2.2.1, rfl⟩
theorem dX12_starts_243 : Dc mX12_starts 243 (.goto (-49)) 3 246 := ⟨k_dX12_starts_237.2.2.2.2.1, rfl⟩
theorem dX12_starts_246 : Dc mX12_starts 246 (.return_) 1 247 := ⟨k_dX12_starts_237.2.2.2.2.2, rfl⟩
theorem k_dX12_begins_0 : decode (mX12_begins).2.1 0 = .ok ((.aload_n 0), 1) ∧ decode (mX12_begins).2.1 1 = .ok ((.iconst 0), 1) ∧ decode (mX12_begins).2.1 2 = .ok ((.invokevirtual 358), 3) ∧ decode (mX12_begins).2.1 5 = .ok ((.return_), 1) := by decide +kernel
theorem dX12_begins_0 : Dc mX12_begins 0 (.aload_n 0) 1 1 := ⟨k_dX12_begins_0.1, rfl⟩
theorem dX12_begins_1 : Dc mX12_begins 1 (.iconst 0) 1 2 := ⟨k_dX12_begins_0.2.1, rfl⟩
theorem dX12_begins_2 : Dc mX12_begins 2 (.invokevirtual 358) 3 5 := ⟨k_dX12_begins_0.2.2.1, rfl⟩
theorem dX12_begins_5 : Dc mX12_begins 5 (.return_) 1 6 := ⟨k_dX12_begins_0.2.2.2, rfl⟩
theorem k_dX12_copies_0 : decode (mX12_copies).2.1 0 = .ok ((.aload_n 0), 1) ∧ decode (mX12_copies).2.1 1 = .ok ((.getfield 84), 3) ∧ decode (mX12_copies).2.1 4 = .ok ((.iload_n 1), 1) ∧ decode (mX12_copies).2.1 5 = .ok ((.aload_n 0), 1) ∧ decode (mX12_copies).2.1 6 = .ok ((.getfield 84), 3) ∧ decode (mX12_copies).2.1 9 = .ok ((.iload_n 2), 1) := by decide +kernel
theorem dX12_copies_0 : Dc mX12_copies 0 (.aload_n 0) 1 1 := ⟨k_dX12_copies_0.1, rfl⟩
theorem dX12_copies_1 : Dc mX12_copies 1 (.getfield 84) 3 4 := ⟨k_dX12_copies_0.2.1, rfl⟩
theorem dX12_copies_4 : Dc mX12_copies 4 (.iload_n 1) 1 5 := ⟨k_dX12_copies_0.2.2.1, rfl⟩
theorem dX12_copies_5 : Dc mX12_copies 5 (.aload_n 0) 1 6 := ⟨k_dX12_copies_0.2.2.2.1, rfl⟩
theorem dX12_copies_6 : Dc mX12_copies 6 (.getfield 84) 3 9 := ⟨k_dX12_copies_0.2.2.2.2.1, rfl⟩
theorem dX12_copies_9 : Dc mX12_copies 9 (.iload_n 2) 1 10 := ⟨k_dX12_copies_0.2.2.2.2.2, rfl⟩
theorem k_dX12_copies_10 : decode (mX12_copies).2.1 10 = .ok ((.iaload), 1) ∧ decode (mX12_copies).2.1 11 = .ok ((.iastore), 1) ∧ decode (mX12_copies).2.1 12 = .ok ((.aload_n 0), 1) ∧ decode (mX12_copies).2.1 13 = .ok ((.getfield 87), 3) ∧ decode (mX12_copies).2.1 16 = .ok ((.iload_n 1), 1) ∧ decode (mX12_copies).2.1 17 = .ok ((.aload_n 0), 1) := by decide +kernel
theorem dX12_copies_10 : Dc mX12_copies 10 (.iaload) 1 11 := ⟨k_dX12_copies_10.1, rfl⟩
theorem dX12_copies_11 : Dc mX12_copies 11 (.iastore) 1 12 := ⟨k_dX12_copies_10.2.1, rfl⟩
theorem dX12_copies_12 : Dc mX12_copies 12 (.aload_n 0) 1 13 := ⟨k_dX12_copies_10.2.2.1, rfl⟩
theorem dX12_copies_13 : Dc mX12_copies 13 (.getfield 87) 3 16 := ⟨k_dX12_copies_10.2.2.2.1, rfl⟩
theorem dX12_copies_16 : Dc mX12_copies 16 (.iload_n 1) 1 17 := ⟨k_dX12_copies_10.2.2.2.2.1, rfl⟩
theorem dX12_copies_17 : Dc mX12_copies 17 (.aload_n 0) 1 18 := ⟨k_dX12_copies_10.2.2.2.2.2, rfl⟩
theorem k_dX12_copies_18 : decode (mX12_copies).2.1 18 = .ok ((.getfield 87), 3) ∧ decode (mX12_copies).2.1 21 = .ok ((.iload_n 2), 1) ∧ decode (mX12_copies).2.1 22 = .ok ((.iaload), 1) ∧ decode (mX12_copies).2.1 23 = .ok ((.iastore), 1) ∧ decode (mX12_copies).2.1 24 = .ok ((.aload_n 0), 1) ∧ decode (mX12_copies).2.1 25 = .ok ((.getfield 90), 3) := by decide +kernel
theorem dX12_copies_18 : Dc mX12_copies 18 (.getfield 87) 3 21 := ⟨k_dX12_copies_18.1, rfl⟩
theorem dX12_copies_21 : Dc mX12_copies 21 (.iload_n 2) 1 22 := ⟨k_dX12_copies_18.2.1, rfl⟩
theorem dX12_copies_22 : Dc mX12_copies 22 (.iaload) 1 23 := ⟨k_dX12_copies_18.2.2.1, rfl⟩
theorem dX12_copies_23 : Dc mX12_copies 23 (.iastore) 1 24 := ⟨k_dX12_copies_18.2.2.2.1, rfl⟩
theorem dX12_copies_24 : Dc mX12_copies 24 (.aload_n 0) 1 25 := ⟨k_dX12_copies_18.2.2.2.2.1, rfl⟩
theorem dX12_copies_25 : Dc mX12_copies 25 (.getfield 90) 3 28 := ⟨k_dX12_copies_18.2.2.2.2.2, rfl⟩
theorem k_dX12_copies_28 : decode (mX12_copies).2.1 28 = .ok ((.iload_n 1), 1) ∧ decode (mX12_copies).2.1 29 = .ok ((.aload_n 0), 1) ∧ decode (mX12_copies).2.1 30 = .ok ((.getfield 90), 3) ∧ decode (mX12_copies).2.1 33 = .ok ((.iload_n 2), 1) ∧ decode (mX12_copies).2.1 34 = .ok ((.iaload), 1) ∧ decode (mX12_copies).2.1 35 = .ok ((.iastore), 1) := by decide +kernel
theorem dX12_copies_28 : Dc mX12_copies 28 (.iload_n 1) 1 29 := ⟨k_dX12_copies_28.1, rfl⟩
theorem dX12_copies_29 : Dc mX12_copies 29 (.aload_n 0) 1 30 := ⟨k_dX12_copies_28.2.1, rfl⟩
theorem dX12_copies_30 : Dc mX12_copies 30 (.getfield 90) 3 33 := ⟨k_dX12_copies_28.2.2.1, rfl⟩
theorem dX12_copies_33 : Dc mX12_copies 33 (.iload_n 2) 1 34 := ⟨k_dX12_copies_28.2.2.2.1, rfl⟩
theorem dX12_copies_34 : Dc mX12_copies 34 (.iaload) 1 35 := ⟨k_dX12_copies_28.2.2.2.2.1, rfl⟩
theorem dX12_copies_35 : Dc mX12_copies 35 (.iastore) 1 36 := ⟨k_dX12_copies_28.2.2.2.2.2, rfl⟩
theorem k_dX12_copies_36 : decode (mX12_copies).2.1 36 = .ok ((.aload_n 0), 1) ∧ decode (mX12_copies).2.1 37 = .ok ((.getfield 93), 3) ∧ decode (mX12_copies).2.1 40 = .ok ((.iload_n 1), 1) ∧ decode (mX12_copies).2.1 41 = .ok ((.aload_n 0), 1) ∧ decode (mX12_copies).2.1 42 = .ok ((.getfield 93), 3) ∧ decode (mX12_copies).2.1 45 = .ok ((.iload_n 2), 1) := by decide +kernel
theorem dX12_copies_36 : Dc mX12_copies 36 (.aload_n 0) 1 37 := ⟨k_dX12_copies_36.1, rfl⟩
theorem dX12_copies_37 : Dc mX12_copies 37 (.getfield 93) 3 40 := ⟨k_dX12_copies_36.2.1, rfl⟩
theorem dX12_copies_40 : Dc mX12_copies 40 (.iload_n 1) 1 41 := ⟨k_dX12_copies_36.2.2.1, rfl⟩
theorem dX12_copies_41 : Dc mX12_copies 41 (.aload_n 0) 1 42 := ⟨k_dX12_copies_36.2.2.2.1, rfl⟩
theorem dX12_copies_42 : Dc mX12_copies 42 (.getfield 93) 3 45 := ⟨k_dX12_copies_36.2.2.2.2.1, rfl⟩
theorem dX12_copies_45 : Dc mX12_copies 45 (.iload_n 2) 1 46 := ⟨k_dX12_copies_36.2.2.2.2.2, rfl⟩
theorem k_dX12_copies_46 : decode (mX12_copies).2.1 46 = .ok ((.iaload), 1) ∧ decode (mX12_copies).2.1 47 = .ok ((.iastore), 1) ∧ decode (mX12_copies).2.1 48 = .ok ((.aload_n 0), 1) ∧ decode (mX12_copies).2.1 49 = .ok ((.getfield 96), 3) ∧ decode (mX12_copies).2.1 52 = .ok ((.iload_n 1), 1) ∧ decode (mX12_copies).2.1 53 = .ok ((.aload_n 0), 1) := by decide +kernel
theorem dX12_copies_46 : Dc mX12_copies 46 (.iaload) 1 47 := ⟨k_dX12_copies_46.1, rfl⟩
theorem dX12_copies_47 : Dc mX12_copies 47 (.iastore) 1 48 := ⟨k_dX12_copies_46.2.1, rfl⟩
theorem dX12_copies_48 : Dc mX12_copies 48 (.aload_n 0) 1 49 := ⟨k_dX12_copies_46.2.2.1, rfl⟩
theorem dX12_copies_49 : Dc mX12_copies 49 (.getfield 96) 3 52 := ⟨k_dX12_copies_46.2.2.2.1, rfl⟩
theorem dX12_copies_52 : Dc mX12_copies 52 (.iload_n 1) 1 53 := ⟨k_dX12_copies_46.2.2.2.2.1, rfl⟩
theorem dX12_copies_53 : Dc mX12_copies 53 (.aload_n 0) 1 54 := ⟨k_dX12_copies_46.2.2.2.2.2, rfl⟩
theorem k_dX12_copies_54 : decode (mX12_copies).2.1 54 = .ok ((.getfield 96), 3) ∧ decode (mX12_copies).2.1 57 = .ok ((.iload_n 2), 1) ∧ decode (mX12_copies).2.1 58 = .ok ((.iaload), 1) ∧ decode (mX12_copies).2.1 59 = .ok ((.iastore), 1) ∧ decode (mX12_copies).2.1 60 = .ok ((.aload_n 0), 1) ∧ decode (mX12_copies).2.1 61 = .ok ((.getfield 99), 3) := by decide +kernel
theorem dX12_copies_54 : Dc mX12_copies 54 (.getfield 96) 3 57 := ⟨k_dX12_copies_54.1, rfl⟩
theorem dX12_copies_57 : Dc mX12_copies 57 (.iload_n 2) 1 58 := ⟨k_dX12_copies_54.2.1, rfl⟩
theorem dX12_copies_58 : Dc mX12_copies 58 (.iaload) 1 59 := ⟨k_dX12_copies_54.2.2.1, rfl⟩
theorem dX12_copies_59 : Dc mX12_copies 59 (.iastore) 1 60 := ⟨k_dX12_copies_54.2.2.2.1, rfl⟩
theorem dX12_copies_60 : Dc mX12_copies 60 (.aload_n 0) 1 61 := ⟨k_dX12_copies_54.2.2.2.2.1, rfl⟩
theorem dX12_copies_61 : Dc mX12_copies 61 (.getfield 99) 3 64 := ⟨k_dX12_copies_54.2.2.2.2.2, rfl⟩
theorem k_dX12_copies_64 : decode (mX12_copies).2.1 64 = .ok ((.iload_n 1), 1) ∧ decode (mX12_copies).2.1 65 = .ok ((.aload_n 0), 1) ∧ decode (mX12_copies).2.1 66 = .ok ((.getfield 99), 3) ∧ decode (mX12_copies).2.1 69 = .ok ((.iload_n 2), 1) ∧ decode (mX12_copies).2.1 70 = .ok ((.iaload), 1) ∧ decode (mX12_copies).2.1 71 = .ok ((.iastore), 1) := by decide +kernel
theorem dX12_copies_64 : Dc mX12_copies 64 (.iload_n 1) 1 65 := ⟨k_dX12_copies_64.1, rfl⟩
theorem dX12_copies_65 : Dc mX12_copies 65 (.aload_n 0) 1 66 := ⟨k_dX12_copies_64.2.1, rfl⟩
theorem dX12_copies_66 : Dc mX12_copies 66 (.getfield 99) 3 69 := ⟨k_dX12_copies_64.2.2.1, rfl⟩
theorem dX12_copies_69 : Dc mX12_copies 69 (.iload_n 2) 1 70 := ⟨k_dX12_copies_64.2.2.2.1, rfl⟩
theorem dX12_copies_70 : Dc mX12_copies 70 (.iaload) 1 71 := ⟨k_dX12_copies_64.2.2.2.2.1, rfl⟩
theorem dX12_copies_71 : Dc mX12_copies 71 (.iastore) 1 72 := ⟨k_dX12_copies_64.2.2.2.2.2, rfl⟩
theorem k_dX12_copies_72 : decode (mX12_copies).2.1 72 = .ok ((.iconst 0), 1) ∧ decode (mX12_copies).2.1 73 = .ok ((.istore_n 3), 1) ∧ decode (mX12_copies).2.1 74 = .ok ((.iload_n 3), 1) ∧ decode (mX12_copies).2.1 75 = .ok ((.bipush 6), 2) ∧ decode (mX12_copies).2.1 77 = .ok ((.if_icmp .ge 53), 3) ∧ decode (mX12_copies).2.1 80 = .ok ((.aload_n 0), 1) := by decide +kernel
theorem dX12_copies_72 : Dc mX12_copies 72 (.iconst 0) 1 73 := ⟨k_dX12_copies_72.1, rfl⟩
theorem dX12_copies_73 : Dc mX12_copies 73 (.istore_n 3) 1 74 := ⟨k_dX12_copies_72.2.1, rfl⟩
theorem dX12_copies_74 : Dc mX12_copies 74 (.iload_n 3) 1 75 := ⟨k_dX12_copies_72.2.2.1, rfl⟩
theorem dX12_copies_75 : Dc mX12_copies 75 (.bipush 6) 2 77 := ⟨k_dX12_copies_72.2.2.2.1, rfl⟩
theorem dX12_copies_77 : Dc mX12_copies 77 (.if_icmp .ge 53) 3 80 := ⟨k_dX12_copies_72.2.2.2.2.1, rfl⟩
theorem dX12_copies_80 : Dc mX12_copies 80 (.aload_n 0) 1 81 := ⟨k_dX12_copies_72.2.2.2.2.2, rfl⟩
theorem k_dX12_copies_81 : decode (mX12_copies).2.1 81 = .ok ((.getfield 102), 3) ∧ decode (mX12_copies).2.1 84 = .ok ((.bipush 6), 2) ∧ decode (mX12_copies).2.1 86 = .ok ((.iload_n 1), 1) ∧ decode (mX12_copies).2.1 87 = .ok ((.imul), 1) ∧ decode (mX12_copies).2.1 88 = .ok ((.iload_n 3), 1) ∧ decode (mX12_copies).2.1 89 = .ok ((.iadd), 1) := by decide +kernel
theorem dX12_copies_81 : Dc mX12_copies 81 (.getfield 102) 3 84 := ⟨k_dX12_copies_81.1, rfl⟩
theorem dX12_copies_84 : Dc mX12_copies 84 (.bipush 6) 2 86 := ⟨k_dX12_copies_81.2.1, rfl⟩
theorem dX12_copies_86 : Dc mX12_copies 86 (.iload_n 1) 1 87 := ⟨k_dX12_copies_81.2.2.1, rfl⟩
theorem dX12_copies_87 : Dc mX12_copies 87 (.imul) 1 88 := ⟨k_dX12_copies_81.2.2.2.1, rfl⟩
theorem dX12_copies_88 : Dc mX12_copies 88 (.iload_n 3) 1 89 := ⟨k_dX12_copies_81.2.2.2.2.1, rfl⟩
theorem dX12_copies_89 : Dc mX12_copies 89 (.iadd) 1 90 := ⟨k_dX12_copies_81.2.2.2.2.2, rfl⟩
theorem k_dX12_copies_90 : decode (mX12_copies).2.1 90 = .ok ((.aload_n 0), 1) ∧ decode (mX12_copies).2.1 91 = .ok ((.getfield 102), 3) ∧ decode (mX12_copies).2.1 94 = .ok ((.bipush 6), 2) ∧ decode (mX12_copies).2.1 96 = .ok ((.iload_n 2), 1) ∧ decode (mX12_copies).2.1 97 = .ok ((.imul), 1) ∧ decode (mX12_copies).2.1 98 = .ok ((.iload_n 3), 1) := by decide +kernel
theorem dX12_copies_90 : Dc mX12_copies 90 (.aload_n 0) 1 91 := ⟨k_dX12_copies_90.1, rfl⟩
theorem dX12_copies_91 : Dc mX12_copies 91 (.getfield 102) 3 94 := ⟨k_dX12_copies_90.2.1, rfl⟩
theorem dX12_copies_94 : Dc mX12_copies 94 (.bipush 6) 2 96 := ⟨k_dX12_copies_90.2.2.1, rfl⟩
theorem dX12_copies_96 : Dc mX12_copies 96 (.iload_n 2) 1 97 := ⟨k_dX12_copies_90.2.2.2.1, rfl⟩
theorem dX12_copies_97 : Dc mX12_copies 97 (.imul) 1 98 := ⟨k_dX12_copies_90.2.2.2.2.1, rfl⟩
theorem dX12_copies_98 : Dc mX12_copies 98 (.iload_n 3) 1 99 := ⟨k_dX12_copies_90.2.2.2.2.2, rfl⟩
theorem k_dX12_copies_99 : decode (mX12_copies).2.1 99 = .ok ((.iadd), 1) ∧ decode (mX12_copies).2.1 100 = .ok ((.iaload), 1) ∧ decode (mX12_copies).2.1 101 = .ok ((.iastore), 1) ∧ decode (mX12_copies).2.1 102 = .ok ((.aload_n 0), 1) ∧ decode (mX12_copies).2.1 103 = .ok ((.getfield 105), 3) ∧ decode (mX12_copies).2.1 106 = .ok ((.bipush 6), 2) := by decide +kernel
theorem dX12_copies_99 : Dc mX12_copies 99 (.iadd) 1 100 := ⟨k_dX12_copies_99.1, rfl⟩
theorem dX12_copies_100 : Dc mX12_copies 100 (.iaload) 1 101 := ⟨k_dX12_copies_99.2.1, rfl⟩
theorem dX12_copies_101 : Dc mX12_copies 101 (.iastore) 1 102 := ⟨k_dX12_copies_99.2.2.1, rfl⟩
theorem dX12_copies_102 : Dc mX12_copies 102 (.aload_n 0) 1 103 := ⟨k_dX12_copies_99.2.2.2.1, rfl⟩
theorem dX12_copies_103 : Dc mX12_copies 103 (.getfield 105) 3 106 := ⟨k_dX12_copies_99.2.2.2.2.1, rfl⟩
theorem dX12_copies_106 : Dc mX12_copies 106 (.bipush 6) 2 108 := ⟨k_dX12_copies_99.2.2.2.2.2, rfl⟩
theorem k_dX12_copies_108 : decode (mX12_copies).2.1 108 = .ok ((.iload_n 1), 1) ∧ decode (mX12_copies).2.1 109 = .ok ((.imul), 1) ∧ decode (mX12_copies).2.1 110 = .ok ((.iload_n 3), 1) ∧ decode (mX12_copies).2.1 111 = .ok ((.iadd), 1) ∧ decode (mX12_copies).2.1 112 = .ok ((.aload_n 0), 1) ∧ decode (mX12_copies).2.1 113 = .ok ((.getfield 105), 3) := by decide +kernel
theorem dX12_copies_108 : Dc mX12_copies 108 (.iload_n 1) 1 109 := ⟨k_dX12_copies_108.1, rfl⟩
theorem dX12_copies_109 : Dc mX12_copies 109 (.imul) 1 110 := ⟨k_dX12_copies_108.2.1, rfl⟩
theorem dX12_copies_110 : Dc mX12_copies 110 (.iload_n 3) 1 111 := ⟨k_dX12_copies_108.2.2.1, rfl⟩
theorem dX12_copies_111 : Dc mX12_copies 111 (.iadd) 1 112 := ⟨k_dX12_copies_108.2.2.2.1, rfl⟩
theorem dX12_copies_112 : Dc mX12_copies 112 (.aload_n 0) 1 113 := ⟨k_dX12_copies_108.2.2.2.2.1, rfl⟩
theorem dX12_copies_113 : Dc mX12_copies 113 (.getfield 105) 3 116 := ⟨k_dX12_copies_108.2.2.2.2.2, rfl⟩
theorem k_dX12_copies_116 : decode (mX12_copies).2.1 116 = .ok ((.bipush 6), 2) ∧ decode (mX12_copies).2.1 118 = .ok ((.iload_n 2), 1) ∧ decode (mX12_copies).2.1 119 = .ok ((.imul), 1) ∧ decode (mX12_copies).2.1 120 = .ok ((.iload_n 3), 1) ∧ decode (mX12_copies).2.1 121 = .ok ((.iadd), 1) ∧ decode (mX12_copies).2.1 122 = .ok ((.iaload), 1) := by decide +kernel
theorem dX12_copies_116 : Dc mX12_copies 116 (.bipush 6) 2 118 := ⟨k_dX12_copies_116.1, rfl⟩
theorem dX12_copies_118 : Dc mX12_copies 118 (.iload_n 2) 1 119 := ⟨k_dX12_copies_116.2.1, rfl⟩
theorem dX12_copies_119 : Dc mX12_copies 119 (.imul) 1 120 := ⟨k_dX12_copies_116.2.2.1, rfl⟩
theorem dX12_copies_120 : Dc mX12_copies 120 (.iload_n 3) 1 121 := ⟨k_dX12_copies_116.2.2.2.1, rfl⟩
theorem dX12_copies_121 : Dc mX12_copies 121 (.iadd) 1 122 := ⟨k_dX12_copies_116.2.2.2.2.1, rfl⟩
theorem dX12_copies_122 : Dc mX12_copies 122 (.iaload) 1 123 := ⟨k_dX12_copies_116.2.2.2.2.2, rfl⟩
theorem k_dX12_copies_123 : decode (mX12_copies).2.1 123 = .ok ((.iastore), 1) ∧ decode (mX12_copies).2.1 124 = .ok ((.iinc 3 1), 3) ∧ decode (mX12_copies).2.1 127 = .ok ((.goto (-53)), 3) ∧ decode (mX12_copies).2.1 130 = .ok ((.iconst 0), 1) ∧ decode (mX12_copies).2.1 131 = .ok ((.istore_n 3), 1) ∧ decode (mX12_copies).2.1 132 = .ok ((.iload_n 3), 1) := by decide +kernel
theorem dX12_copies_123 : Dc mX12_copies 123 (.iastore) 1 124 := ⟨k_dX12_copies_123.1, rfl⟩
theorem dX12_copies_124 : Dc mX12_copies 124 (.iinc 3 1) 3 127 := ⟨k_dX12_copies_123.2.1, rfl⟩
theorem dX12_copies_127 : Dc mX12_copies 127 (.goto (-53)) 3 130 := ⟨k_dX12_copies_123.2.2.1, rfl⟩
theorem dX12_copies_130 : Dc mX12_copies 130 (.iconst 0) 1 131 := ⟨k_dX12_copies_123.2.2.2.1, rfl⟩
theorem dX12_copies_131 : Dc mX12_copies 131 (.istore_n 3) 1 132 := ⟨k_dX12_copies_123.2.2.2.2.1, rfl⟩
theorem dX12_copies_132 : Dc mX12_copies 132 (.iload_n 3) 1 133 := ⟨k_dX12_copies_123.2.2.2.2.2, rfl⟩
theorem k_dX12_copies_133 : decode (mX12_copies).2.1 133 = .ok ((.bipush 8), 2) ∧ decode (mX12_copies).2.1 135 = .ok ((.if_icmp .ge 75), 3) ∧ decode (mX12_copies).2.1 138 = .ok ((.aload_n 0), 1) ∧ decode (mX12_copies).2.1 139 = .ok ((.getfield 108), 3) ∧ decode (mX12_copies).2.1 142 = .ok ((.bipush 8), 2) ∧ decode (mX12_copies).2.1 144 = .ok ((.iload_n 1), 1) := by decide +kernel
theorem dX12_copies_133 : Dc mX12_copies 133 (.bipush 8) 2 135 := ⟨k_dX12_copies_133.1, rfl⟩
theorem dX12_copies_135 : Dc mX12_copies 135 (.if_icmp .ge 75) 3 138 := ⟨k_dX12_copies_133.2.1, rfl⟩
theorem dX12_copies_138 : Dc mX12_copies 138 (.aload_n 0) 1 139 := ⟨k_dX12_copies_133.2.2.1, rfl⟩
theorem dX12_copies_139 : Dc mX12_copies 139 (.getfield 108) 3 142 := ⟨k_dX12_copies_133.2.2.2.1, rfl⟩
theorem dX12_copies_142 : Dc mX12_copies 142 (.bipush 8) 2 144 := ⟨k_dX12_copies_133.2.2.2.2.1, rfl⟩
theorem dX12_copies_144 : Dc mX12_copies 144 (.iload_n 1) 1 145 := ⟨k_dX12_copies_133.2.2.2.2.2, rfl⟩
theorem k_dX12_copies_145 : decode (mX12_copies).2.1 145 = .ok ((.imul), 1) ∧ decode (mX12_copies).2.1 146 = .ok ((.iload_n 3), 1) ∧ decode (mX12_copies).2.1 147 = .ok ((.iadd), 1) ∧ decode (mX12_copies).2.1 148 = .ok ((.aload_n 0), 1) ∧ decode (mX12_copies).2.1 149 = .ok ((.getfield 108), 3) ∧ decode (mX12_copies).2.1 152 = .ok ((.bipush 8), 2) := by decide +kernel
theorem dX12_copies_145 : Dc mX12_copies 145 (.imul) 1 146 := ⟨k_dX12_copies_145.1, rfl⟩
theorem dX12_copies_146 : Dc mX12_copies 146 (.iload_n 3) 1 147 := ⟨k_dX12_copies_145.2.1, rfl⟩
theorem dX12_copies_147 : Dc mX12_copies 147 (.iadd) 1 148 := ⟨k_dX12_copies_145.2.2.1, rfl⟩
theorem dX12_copies_148 : Dc mX12_copies 148 (.aload_n 0) 1 149 := ⟨k_dX12_copies_145.2.2.2.1, rfl⟩
theorem dX12_copies_149 : Dc mX12_copies 149 (.getfield 108) 3 152 := ⟨k_dX12_copies_145.2.2.2.2.1, rfl⟩
theorem dX12_copies_152 : Dc mX12_copies 152 (.bipush 8) 2 154 := ⟨k_dX12_copies_145.2.2.2.2.2, rfl⟩
theorem k_dX12_copies_154 : decode (mX12_copies).2.1 154 = .ok ((.iload_n 2), 1) ∧ decode (mX12_copies).2.1 155 = .ok ((.imul), 1) ∧ decode (mX12_copies).2.1 156 = .ok ((.iload_n 3), 1) ∧ decode (mX12_copies).2.1 157 = .ok ((.iadd), 1) ∧ decode (mX12_copies).2.1 158 = .ok ((.iaload), 1) ∧ decode (mX12_copies).2.1 159 = .ok ((.iastore), 1) := by decide +kernel
theorem dX12_copies_154 : Dc mX12_copies 154 (.iload_n 2) 1 155 := ⟨k_dX12_copies_154.1, rfl⟩
theorem dX12_copies_155 : Dc mX12_copies 155 (.imul) 1 156 := ⟨k_dX12_copies_154.2.1, rfl⟩
theorem dX12_copies_156 : Dc mX12_copies 156 (.iload_n 3) 1 157 := ⟨k_dX12_copies_154.2.2.1, rfl⟩
theorem dX12_copies_157 : Dc mX12_copies 157 (.iadd) 1 158 := ⟨k_dX12_copies_154.2.2.2.1, rfl⟩
theorem dX12_copies_158 : Dc mX12_copies 158 (.iaload) 1 159 := ⟨k_dX12_copies_154.2.2.2.2.1, rfl⟩
theorem dX12_copies_159 : Dc mX12_copies 159 (.iastore) 1 160 := ⟨k_dX12_copies_154.2.2.2.2.2, rfl⟩
theorem k_dX12_copies_160 : decode (mX12_copies).2.1 160 = .ok ((.aload_n 0), 1) ∧ decode (mX12_copies).2.1 161 = .ok ((.getfield 111), 3) ∧ decode (mX12_copies).2.1 164 = .ok ((.bipush 8), 2) ∧ decode (mX12_copies).2.1 166 = .ok ((.iload_n 1), 1) ∧ decode (mX12_copies).2.1 167 = .ok ((.imul), 1) ∧ decode (mX12_copies).2.1 168 = .ok ((.iload_n 3), 1) := by decide +kernel
theorem dX12_copies_160 : Dc mX12_copies 160 (.aload_n 0) 1 161 := ⟨k_dX12_copies_160.1, rfl⟩
theorem dX12_copies_161 : Dc mX12_copies 161 (.getfield 111) 3 164 := ⟨k_dX12_copies_160.2.1, rfl⟩
theorem dX12_copies_164 : Dc mX12_copies 164 (.bipush 8) 2 166 := ⟨k_dX12_copies_160.2.2.1, rfl⟩
theorem dX12_copies_166 : Dc mX12_copies 166 (.iload_n 1) 1 167 := ⟨k_dX12_copies_160.2.2.2.1, rfl⟩
theorem dX12_copies_167 : Dc mX12_copies 167 (.imul) 1 168 := ⟨k_dX12_copies_160.2.2.2.2.1, rfl⟩
theorem dX12_copies_168 : Dc mX12_copies 168 (.iload_n 3) 1 169 := ⟨k_dX12_copies_160.2.2.2.2.2, rfl⟩
theorem k_dX12_copies_169 : decode (mX12_copies).2.1 169 = .ok ((.iadd), 1) ∧ decode (mX12_copies).2.1 170 = .ok ((.aload_n 0), 1) ∧ decode (mX12_copies).2.1 171 = .ok ((.getfield 111), 3) ∧ decode (mX12_copies).2.1 174 = .ok ((.bipush 8), 2) ∧ decode (mX12_copies).2.1 176 = .ok ((.iload_n 2), 1) ∧ decode (mX12_copies).2.1 177 = .ok ((.imul), 1) := by decide +kernel
theorem dX12_copies_169 : Dc mX12_copies 169 (.iadd) 1 170 := ⟨k_dX12_copies_169.1, rfl⟩
theorem dX12_copies_170 : Dc mX12_copies 170 (.aload_n 0) 1 171 := ⟨k_dX12_copies_169.2.1, rfl⟩
theorem dX12_copies_171 : Dc mX12_copies 171 (.getfield 111) 3 174 := ⟨k_dX12_copies_169.2.2.1, rfl⟩
theorem dX12_copies_174 : Dc mX12_copies 174 (.bipush 8) 2 176 := ⟨k_dX12_copies_169.2.2.2.1, rfl⟩
theorem dX12_copies_176 : Dc mX12_copies 176 (.iload_n 2) 1 177 := ⟨k_dX12_copies_169.2.2.2.2.1, rfl⟩
theorem dX12_copies_177 : Dc mX12_copies 177 (.imul) 1 178 := ⟨k_dX12_copies_169.2.2.2.2.2, rfl⟩
theorem k_dX12_copies_178 : decode (mX12_copies).2.1 178 = .ok ((.iload_n 3), 1) ∧ decode (mX12_copies).2.1 179 = .ok ((.iadd), 1) ∧ decode (mX12_copies).2.1 180 = .ok ((.iaload), 1) ∧ decode (mX12_copies).2.1 181 = .ok ((.iastore), 1) ∧ decode (mX12_copies).2.1 182 = .ok ((.aload_n 0), 1) ∧ decode (mX12_copies).2.1 183 = .ok ((.getfield 114), 3) := by decide +kernel
theorem dX12_copies_178 : Dc mX12_copies 178 (.iload_n 3) 1 179 := ⟨k_dX12_copies_178.1, rfl⟩
theorem dX12_copies_179 : Dc mX12_copies 179 (.iadd) 1 180 := ⟨k_dX12_copies_178.2.1, rfl⟩
theorem dX12_copies_180 : Dc mX12_copies 180 (.iaload) 1 181 := ⟨k_dX12_copies_178.2.2.1, rfl⟩
theorem dX12_copies_181 : Dc mX12_copies 181 (.iastore) 1 182 := ⟨k_dX12_copies_178.2.2.2.1, rfl⟩
theorem dX12_copies_182 : Dc mX12_copies 182 (.aload_n 0) 1 183 := ⟨k_dX12_copies_178.2.2.2.2.1, rfl⟩
theorem dX12_copies_183 : Dc mX12_copies 183 (.getfield 114) 3 186 := ⟨k_dX12_copies_178.2.2.2.2.2, rfl⟩
theorem k_dX12_copies_186 : decode (mX12_copies).2.1 186 = .ok ((.bipush 8), 2) ∧ decode (mX12_copies).2.1 188 = .ok ((.iload_n 1), 1) ∧ decode (mX12_copies).2.1 189 = .ok ((.imul), 1) ∧ decode (mX12_copies).2.1 190 = .ok ((.iload_n 3), 1) ∧ decode (mX12_copies).2.1 191 = .ok ((.iadd), 1) ∧ decode (mX12_copies).2.1 192 = .ok ((.aload_n 0), 1) := by decide +kernel
theorem dX12_copies_186 : Dc mX12_copies 186 (.bipush 8) 2 188 := ⟨k_dX12_copies_186.1, rfl⟩
theorem dX12_copies_188 : Dc mX12_copies 188 (.iload_n 1) 1 189 := ⟨k_dX12_copies_186.2.1, rfl⟩
theorem dX12_copies_189 : Dc mX12_copies 189 (.imul) 1 190 := ⟨k_dX12_copies_186.2.2.1, rfl⟩
theorem dX12_copies_190 : Dc mX12_copies 190 (.iload_n 3) 1 191 := ⟨k_dX12_copies_186.2.2.2.1, rfl⟩
theorem dX12_copies_191 : Dc mX12_copies 191 (.iadd) 1 192 := ⟨k_dX12_copies_186.2.2.2.2.1, rfl⟩
theorem dX12_copies_192 : Dc mX12_copies 192 (.aload_n 0) 1 193 := ⟨k_dX12_copies_186.2.2.2.2.2, rfl⟩
theorem k_dX12_copies_193 : decode (mX12_copies).2.1 193 = .ok ((.getfield 114), 3) ∧ decode (mX12_copies).2.1 196 = .ok ((.bipush 8), 2) ∧ decode (mX12_copies).2.1 198 = .ok ((.iload_n 2), 1) ∧ decode (mX12_copies).2.1 199 = .ok ((.imul), 1) ∧ decode (mX12_copies).2.1 200 = .ok ((.iload_n 3), 1) ∧ decode (mX12_copies).2.1 201 = .ok ((.iadd), 1) := by decide +kernel
theorem dX12_copies_193 : Dc mX12_copies 193 (.getfield 114) 3 196 := ⟨k_dX12_copies_193.1, rfl⟩
theorem dX12_copies_196 : Dc mX12_copies 196 (.bipush 8) 2 198 := ⟨k_dX12_copies_193.2.1, rfl⟩
theorem dX12_copies_198 : Dc mX12_copies 198 (.iload_n 2) 1 199 := ⟨k_dX12_copies_193.2.2.1, rfl⟩
theorem dX12_copies_199 : Dc mX12_copies 199 (.imul) 1 200 := ⟨k_dX12_copies_193.2.2.2.1, rfl⟩
theorem dX12_copies_200 : Dc mX12_copies 200 (.iload_n 3) 1 201 := ⟨k_dX12_copies_193.2.2.2.2.1, rfl⟩
theorem dX12_copies_201 : Dc mX12_copies 201 (.iadd) 1 202 := ⟨k_dX12_copies_193.2.2.2.2.2, rfl⟩
theorem k_dX12_copies_202 : decode (mX12_copies).2.1 202 = .ok ((.iaload), 1) ∧ decode (mX12_copies).2.1 203 = .ok ((.iastore), 1) ∧ decode (mX12_copies).2.1 204 = .ok ((.iinc 3 1), 3) ∧ decode (mX12_copies).2.1 207 = .ok ((.goto (-75)), 3) ∧ decode (mX12_copies).2.1 210 = .ok ((.iconst 0), 1) ∧ decode (mX12_copies).2.1 211 = .ok ((.istore_n 3), 1) := by decide +kernel
theorem dX12_copies_202 : Dc mX12_copies 202 (.iaload) 1 203 := ⟨k_dX12_copies_202.1, rfl⟩
theorem dX12_copies_203 : Dc mX12_copies 203 (.iastore) 1 204 := ⟨k_dX12_copies_202.2.1, rfl⟩
theorem dX12_copies_204 : Dc mX12_copies 204 (.iinc 3 1) 3 207 := ⟨k_dX12_copies_202.2.2.1, rfl⟩
theorem dX12_copies_207 : Dc mX12_copies 207 (.goto (-75)) 3 210 := ⟨k_dX12_copies_202.2.2.2.1, rfl⟩
theorem dX12_copies_210 : Dc mX12_copies 210 (.iconst 0) 1 211 := ⟨k_dX12_copies_202.2.2.2.2.1, rfl⟩
theorem dX12_copies_211 : Dc mX12_copies 211 (.istore_n 3) 1 212 := ⟨k_dX12_copies_202.2.2.2.2.2, rfl⟩
theorem k_dX12_copies_212 : decode (mX12_copies).2.1 212 = .ok ((.iload_n 3), 1) ∧ decode (mX12_copies).2.1 213 = .ok ((.bipush 48), 2) ∧ decode (mX12_copies).2.1 215 = .ok ((.if_icmp .ge 31), 3) ∧ decode (mX12_copies).2.1 218 = .ok ((.aload_n 0), 1) ∧ decode (mX12_copies).2.1 219 = .ok ((.getfield 117), 3) ∧ decode (mX12_copies).2.1 222 = .ok ((.bipush 48), 2) := by decide +kernel
theorem dX12_copies_212 : Dc mX12_copies 212 (.iload_n 3) 1 213 := ⟨k_dX12_copies_212.1, rfl⟩
theorem dX12_copies_213 : Dc mX12_copies 213 (.bipush 48) 2 215 := ⟨k_dX12_copies_212.2.1, rfl⟩
theorem dX12_copies_215 : Dc mX12_copies 215 (.if_icmp .ge 31) 3 218 := ⟨k_dX12_copies_212.2.2.1, rfl⟩
theorem dX12_copies_218 : Dc mX12_copies 218 (.aload_n 0) 1 219 := ⟨k_dX12_copies_212.2.2.2.1, rfl⟩
theorem dX12_copies_219 : Dc mX12_copies 219 (.getfield 117) 3 222 := ⟨k_dX12_copies_212.2.2.2.2.1, rfl⟩
theorem dX12_copies_222 : Dc mX12_copies 222 (.bipush 48) 2 224 := ⟨k_dX12_copies_212.2.2.2.2.2, rfl⟩
theorem k_dX12_copies_224 : decode (mX12_copies).2.1 224 = .ok ((.iload_n 1), 1) ∧ decode (mX12_copies).2.1 225 = .ok ((.imul), 1) ∧ decode (mX12_copies).2.1 226 = .ok ((.iload_n 3), 1) ∧ decode (mX12_copies).2.1 227 = .ok ((.iadd), 1) ∧ decode (mX12_copies).2.1 228 = .ok ((.aload_n 0), 1) ∧ decode (mX12_copies).2.1 229 = .ok ((.getfield 117), 3) := by decide +kernel
theorem dX12_copies_224 : Dc mX12_copies 224 (.iload_n 1) 1 225 := ⟨k_dX12_copies_224.1, rfl⟩
theorem dX12_copies_225 : Dc mX12_copies 225 (.imul) 1 226 := ⟨k_dX12_copies_224.2.1, rfl⟩
theorem dX12_copies_226 : Dc mX12_copies 226 (.iload_n 3) 1 227 := ⟨k_dX12_copies_224.2.2.1, rfl⟩
theorem dX12_copies_227 : Dc mX12_copies 227 (.iadd) 1 228 := ⟨k_dX12_copies_224.2.2.2.1, rfl⟩
theorem dX12_copies_228 : Dc mX12_copies 228 (.aload_n 0) 1 229 := ⟨k_dX12_copies_224.2.2.2.2.1, rfl⟩
theorem dX12_copies_229 : Dc mX12_copies 229 (.getfield 117) 3 232 := ⟨k_dX12_copies_224.2.2.2.2.2, rfl⟩
theorem k_dX12_copies_232 : decode (mX12_copies).2.1 232 = .ok ((.bipush 48), 2) ∧ decode (mX12_copies).2.1 234 = .ok ((.iload_n 2), 1) ∧ decode (mX12_copies).2.1 235 = .ok ((.imul), 1) ∧ decode (mX12_copies).2.1 236 = .ok ((.iload_n 3), 1) ∧ decode (mX12_copies).2.1 237 = .ok ((.iadd), 1) ∧ decode (mX12_copies).2.1 238 = .ok ((.iaload), 1) := by decide +kernel
theorem dX12_copies_232 : Dc mX12_copies 232 (.bipush 48) 2 234 := ⟨k_dX12_copies_232.1, rfl⟩
theorem dX12_copies_234 : Dc mX12_copies 234 (.iload_n 2) 1 235 := ⟨k_dX12_copies_232.2.1, rfl⟩
theorem dX12_copies_235 : Dc mX12_copies 235 (.imul) 1 236 := ⟨k_dX12_copies_232.2.2.1, rfl⟩
theorem dX12_copies_236 : Dc mX12_copies 236 (.iload_n 3) 1 237 := ⟨k_dX12_copies_232.2.2.2.1, rfl⟩
theorem dX12_copies_237 : Dc mX12_copies 237 (.iadd) 1 238 := ⟨k_dX12_copies_232.2.2.2.2.1, rfl⟩
theorem dX12_copies_238 : Dc mX12_copies 238 (.iaload) 1 239 := ⟨k_dX12_copies_232.2.2.2.2.2, rfl⟩
theorem k_dX12_copies_239 : decode (mX12_copies).2.1 239 = .ok ((.iastore), 1) ∧ decode (mX12_copies).2.1 240 = .ok ((.iinc 3 1), 3) ∧ decode (mX12_copies).2.1 243 = .ok ((.goto (-31)), 3) ∧ decode (mX12_copies).2.1 246 = .ok ((.iconst 0), 1) ∧ decode (mX12_copies).2.1 247 = .ok ((.istore_n 3), 1) ∧ decode (mX12_copies).2.1 248 = .ok ((.iload_n 3), 1) := by decide +kernel
theorem dX12_copies_239 : Dc mX12_copies 239 (.iastore) 1 240 := ⟨k_dX12_copies_239.1, rfl⟩
theorem dX12_copies_240 : Dc mX12_copies 240 (.iinc 3 1) 3 243 := ⟨k_dX12_copies_239.2.1, rfl⟩
theorem dX12_copies_243 : Dc mX12_copies 243 (.goto (-31)) 3 246 := ⟨k_dX12_copies_239.2.2.1, rfl⟩
theorem dX12_copies_246 : Dc mX12_copies 246 (.iconst 0) 1 247 := ⟨k_dX12_copies_239.2.2.2.1, rfl⟩
theorem dX12_copies_247 : Dc mX12_copies 247 (.istore_n 3) 1 248 := ⟨k_dX12_copies_239.2.2.2.2.1, rfl⟩
theorem dX12_copies_248 : Dc mX12_copies 248 (.iload_n 3) 1 249 := ⟨k_dX12_copies_239.2.2.2.2.2, rfl⟩
theorem k_dX12_copies_249 : decode (mX12_copies).2.1 249 = .ok ((.iconst 4), 1) ∧ decode (mX12_copies).2.1 250 = .ok ((.if_icmp .ge 49), 3) ∧ decode (mX12_copies).2.1 253 = .ok ((.aload_n 0), 1) ∧ decode (mX12_copies).2.1 254 = .ok ((.getfield 120), 3) ∧ decode (mX12_copies).2.1 257 = .ok ((.iconst 4), 1) ∧ decode (mX12_copies).2.1 258 = .ok ((.iload_n 1), 1) := by decide +kernel
theorem dX12_copies_249 : Dc mX12_copies 249 (.iconst 4) 1 250 := ⟨k_dX12_copies_249.1, rfl⟩
theorem dX12_copies_250 : Dc mX12_copies 250 (.if_icmp .ge 49) 3 253 := ⟨k_dX12_copies_249.2.1, rfl⟩
theorem dX12_copies_253 : Dc mX12_copies 253 (.aload_n 0) 1 254 := ⟨k_dX12_copies_249.2.2.1, rfl⟩
theorem dX12_copies_254 : Dc mX12_copies 254 (.getfield 120) 3 257 := ⟨k_dX12_copies_249.2.2.2.1, rfl⟩
theorem dX12_copies_257 : Dc mX12_copies 257 (.iconst 4) 1 258 := ⟨k_dX12_copies_249.2.2.2.2.1, rfl⟩
theorem dX12_copies_258 : Dc mX12_copies 258 (.iload_n 1) 1 259 := ⟨k_dX12_copies_249.2.2.2.2.2, rfl⟩
theorem k_dX12_copies_259 : decode (mX12_copies).2.1 259 = .ok ((.imul), 1) ∧ decode (mX12_copies).2.1 260 = .ok ((.iload_n 3), 1) ∧ decode (mX12_copies).2.1 261 = .ok ((.iadd), 1) ∧ decode (mX12_copies).2.1 262 = .ok ((.aload_n 0), 1) ∧ decode (mX12_copies).2.1 263 = .ok ((.getfield 120), 3) ∧ decode (mX12_copies).2.1 266 = .ok ((.iconst 4), 1) := by decide +kernel
theorem dX12_copies_259 : Dc mX12_copies 259 (.imul) 1 260 := ⟨k_dX12_copies_259.1, rfl⟩
theorem dX12_copies_260 : Dc mX12_copies 260 (.iload_n 3) 1 261 := ⟨k_dX12_copies_259.2.1, rfl⟩
theorem dX12_copies_261 : Dc mX12_copies 261 (.iadd) 1 262 := ⟨k_dX12_copies_259.2.2.1, rfl⟩
theorem dX12_copies_262 : Dc mX12_copies 262 (.aload_n 0) 1 263 := ⟨k_dX12_copies_259.2.2.2.1, rfl⟩
theorem dX12_copies_263 : Dc mX12_copies 263 (.getfield 120) 3 266 := ⟨k_dX12_copies_259.2.2.2.2.1, rfl⟩
theorem dX12_copies_266 : Dc mX12_copies 266 (.iconst 4) 1 267 := ⟨k_dX12_copies_259.2.2.2.2.2, rfl⟩
theorem k_dX12_copies_267 : decode (mX12_copies).2.1 267 = .ok ((.iload_n 2), 1) ∧ decode (mX12_copies).2.1 268 = .ok ((.imul), 1) ∧ decode (mX12_copies).2.1 269 = .ok ((.iload_n 3), 1) ∧ decode (mX12_copies).2.1 270 = .ok ((.iadd), 1) ∧ decode (mX12_copies).2.1 271 = .ok ((.iaload), 1) ∧ decode (mX12_copies).2.1 272 = .ok ((.iastore), 1) := by decide +kernel
theorem dX12_copies_267 : Dc mX12_copies 267 (.iload_n 2) 1 268 := ⟨k_dX12_copies_267.1, rfl⟩
theorem dX12_copies_268 : Dc mX12_copies 268 (.imul) 1 269 := ⟨k_dX12_copies_267.2.1, rfl⟩
theorem dX12_copies_269 : Dc mX12_copies 269 (.iload_n 3) 1 270 := ⟨k_dX12_copies_267.2.2.1, rfl⟩
theorem dX12_copies_270 : Dc mX12_copies 270 (.iadd) 1 271 := ⟨k_dX12_copies_267.2.2.2.1, rfl⟩
theorem dX12_copies_271 : Dc mX12_copies 271 (.iaload) 1 272 := ⟨k_dX12_copies_267.2.2.2.2.1, rfl⟩
theorem dX12_copies_272 : Dc mX12_copies 272 (.iastore) 1 273 := ⟨k_dX12_copies_267.2.2.2.2.2, rfl⟩
theorem k_dX12_copies_273 : decode (mX12_copies).2.1 273 = .ok ((.aload_n 0), 1) ∧ decode (mX12_copies).2.1 274 = .ok ((.getfield 123), 3) ∧ decode (mX12_copies).2.1 277 = .ok ((.iconst 4), 1) ∧ decode (mX12_copies).2.1 278 = .ok ((.iload_n 1), 1) ∧ decode (mX12_copies).2.1 279 = .ok ((.imul), 1) ∧ decode (mX12_copies).2.1 280 = .ok ((.iload_n 3), 1) := by decide +kernel
theorem dX12_copies_273 : Dc mX12_copies 273 (.aload_n 0) 1 274 := ⟨k_dX12_copies_273.1, rfl⟩
theorem dX12_copies_274 : Dc mX12_copies 274 (.getfield 123) 3 277 := ⟨k_dX12_copies_273.2.1, rfl⟩
theorem dX12_copies_277 : Dc mX12_copies 277 (.iconst 4) 1 278 := ⟨k_dX12_copies_273.2.2.1, rfl⟩
theorem dX12_copies_278 : Dc mX12_copies 278 (.iload_n 1) 1 279 := ⟨k_dX12_copies_273.2.2.2.1, rfl⟩
theorem dX12_copies_279 : Dc mX12_copies 279 (.imul) 1 280 := ⟨k_dX12_copies_273.2.2.2.2.1, rfl⟩
theorem dX12_copies_280 : Dc mX12_copies 280 (.iload_n 3) 1 281 := ⟨k_dX12_copies_273.2.2.2.2.2, rfl⟩
theorem k_dX12_copies_281 : decode (mX12_copies).2.1 281 = .ok ((.iadd), 1) ∧ decode (mX12_copies).2.1 282 = .ok ((.aload_n 0), 1) ∧ decode (mX12_copies).2.1 283 = .ok ((.getfield 123), 3) ∧ decode (mX12_copies).2.1 286 = .ok ((.iconst 4), 1) ∧ decode (mX12_copies).2.1 287 = .ok ((.iload_n 2), 1) ∧ decode (mX12_copies).2.1 288 = .ok ((.imul), 1) := by decide +kernel
theorem dX12_copies_281 : Dc mX12_copies 281 (.iadd) 1 282 := ⟨k_dX12_copies_281.1, rfl⟩
theorem dX12_copies_282 : Dc mX12_copies 282 (.aload_n 0) 1 283 := ⟨k_dX12_copies_281.2.1, rfl⟩
theorem dX12_copies_283 : Dc mX12_copies 283 (.getfield 123) 3 286 := ⟨k_dX12_copies_281.2.2.1, rfl⟩
theorem dX12_copies_286 : Dc mX12_copies 286 (.iconst 4) 1 287 := ⟨k_dX12_copies_281.2.2.2.1, rfl⟩
theorem dX12_copies_287 : Dc mX12_copies 287 (.iload_n 2) 1 288 := ⟨k_dX12_copies_281.2.2.2.2.1, rfl⟩
theorem dX12_copies_288 : Dc mX12_copies 288 (.imul) 1 289 := ⟨k_dX12_copies_281.2.2.2.2.2, rfl⟩
theorem k_dX12_copies_289 : decode (mX12_copies).2.1 289 = .ok ((.iload_n 3), 1) ∧ decode (mX12_copies).2.1 290 = .ok ((.iadd), 1) ∧ decode (mX12_copies).2.1 291 = .ok ((.iaload), 1) ∧ decode (mX12_copies).2.1 292 = .ok ((.iastore), 1) ∧ decode (mX12_copies).2.1 293 = .ok ((.iinc 3 1), 3) ∧ decode (mX12_copies).2.1 296 = .ok ((.goto (-48)), 3) := by decide +kernel
theorem dX12_copies_289 : Dc mX12_copies 289 (.iload_n 3) 1 290 := ⟨k_dX12_copies_289.1, rfl⟩
theorem dX12_copies_290 : Dc mX12_copies 290 (.iadd) 1 291 := ⟨k_dX12_copies_289.2.1, rfl⟩
theorem dX12_copies_291 : Dc mX12_copies 291 (.iaload) 1 292 := ⟨k_dX12_copies_289.2.2.1, rfl⟩
theorem dX12_copies_292 : Dc mX12_copies 292 (.iastore) 1 293 := ⟨k_dX12_copies_289.2.2.2.1, rfl⟩
theorem dX12_copies_293 : Dc mX12_copies 293 (.iinc 3 1) 3 296 := ⟨k_dX12_copies_289.2.2.2.2.1, rfl⟩
theorem dX12_copies_296 : Dc mX12_copies 296 (.goto (-48)) 3 299 := ⟨k_dX12_copies_289.2.2.2.2.2, rfl⟩
theorem dX12_copies_299 : Dc mX12_copies 299 (.return_) 1 300 := ⟨by decide +kernel, rfl⟩
theorem k_dX12_isMark_0 : decode (mX12_isMark).2.1 0 = .ok ((.iload_n 1), 1) ∧ decode (mX12_isMark).2.1 1 = .ok ((.ifCond .lt 17), 3) ∧ decode (mX12_isMark).2.1 4 = .ok ((.iload_n 1), 1) ∧ decode (mX12_isMark).2.1 5 = .ok ((.aload_n 0), 1) ∧ decode (mX12_isMark).2.1 6 = .ok ((.getfield 13), 3) ∧ decode (mX12_isMark).2.1 9 = .ok ((.iconst 0), 1) := by decide +kernel
theorem dX12_isMark_0 : Dc mX12_isMark 0 (.iload_n 1) 1 1 := ⟨k_dX12_isMark_0.1, rfl⟩
theorem dX12_isMark_1 : Dc mX12_isMark 1 (.ifCond .lt 17) 3 4 := ⟨k_dX12_isMark_0.2.1, rfl⟩
theorem dX12_isMark_4 : Dc mX12_isMark 4 (.iload_n 1) 1 5 := ⟨k_dX12_isMark_0.2.2.1, rfl⟩
theorem dX12_isMark_5 : Dc mX12_isMark 5 (.aload_n 0) 1 6 := ⟨k_dX12_isMark_0.2.2.2.1, rfl⟩
theorem dX12_isMark_6 : Dc mX12_isMark 6 (.getfield 13) 3 9 := ⟨k_dX12_isMark_0.2.2.2.2.1, rfl⟩
theorem dX12_isMark_9 : Dc mX12_isMark 9 (.iconst 0) 1 10 := ⟨k_dX12_isMark_0.2.2.2.2.2, rfl⟩
theorem k_dX12_isMark_10 : decode (mX12_isMark).2.1 10 = .ok ((.iaload), 1) ∧ decode (mX12_isMark).2.1 11 = .ok ((.if_icmp .ge 7), 3) ∧ decode (mX12_isMark).2.1 14 = .ok ((.iconst 1), 1) ∧ decode (mX12_isMark).2.1 15 = .ok ((.goto 4), 3) ∧ decode (mX12_isMark).2.1 18 = .ok ((.iconst 0), 1) ∧ decode (mX12_isMark).2.1 19 = .ok ((.ireturn), 1) := by decide +kernel
theorem dX12_isMark_10 : Dc mX12_isMark 10 (.iaload) 1 11 := ⟨k_dX12_isMark_10.1, rfl⟩
theorem dX12_isMark_11 : Dc mX12_isMark 11 (.if_icmp .ge 7) 3 14 := ⟨k_dX12_isMark_10.2.1, rfl⟩
theorem dX12_isMark_14 : Dc mX12_isMark 14 (.iconst 1) 1 15 := ⟨k_dX12_isMark_10.2.2.1, rfl⟩
theorem dX12_isMark_15 : Dc mX12_isMark 15 (.goto 4) 3 18 := ⟨k_dX12_isMark_10.2.2.2.1, rfl⟩
theorem dX12_isMark_18 : Dc mX12_isMark 18 (.iconst 0) 1 19 := ⟨k_dX12_isMark_10.2.2.2.2.1, rfl⟩
theorem dX12_isMark_19 : Dc mX12_isMark 19 (.ireturn) 1 20 := ⟨k_dX12_isMark_10.2.2.2.2.2, rfl⟩
theorem k_dX12_isShot_0 : decode (mX12_isShot).2.1 0 = .ok ((.iload_n 1), 1) ∧ decode (mX12_isShot).2.1 1 = .ok ((.ifCond .lt 17), 3) ∧ decode (mX12_isShot).2.1 4 = .ok ((.iload_n 1), 1) ∧ decode (mX12_isShot).2.1 5 = .ok ((.aload_n 0), 1) ∧ decode (mX12_isShot).2.1 6 = .ok ((.getfield 13), 3) ∧ decode (mX12_isShot).2.1 9 = .ok ((.iconst 1), 1) := by decide +kernel
theorem dX12_isShot_0 : Dc mX12_isShot 0 (.iload_n 1) 1 1 := ⟨k_dX12_isShot_0.1, rfl⟩
theorem dX12_isShot_1 : Dc mX12_isShot 1 (.ifCond .lt 17) 3 4 := ⟨k_dX12_isShot_0.2.1, rfl⟩
theorem dX12_isShot_4 : Dc mX12_isShot 4 (.iload_n 1) 1 5 := ⟨k_dX12_isShot_0.2.2.1, rfl⟩
theorem dX12_isShot_5 : Dc mX12_isShot 5 (.aload_n 0) 1 6 := ⟨k_dX12_isShot_0.2.2.2.1, rfl⟩
theorem dX12_isShot_6 : Dc mX12_isShot 6 (.getfield 13) 3 9 := ⟨k_dX12_isShot_0.2.2.2.2.1, rfl⟩
theorem dX12_isShot_9 : Dc mX12_isShot 9 (.iconst 1) 1 10 := ⟨k_dX12_isShot_0.2.2.2.2.2, rfl⟩
theorem k_dX12_isShot_10 : decode (mX12_isShot).2.1 10 = .ok ((.iaload), 1) ∧ decode (mX12_isShot).2.1 11 = .ok ((.if_icmp .ge 7), 3) ∧ decode (mX12_isShot).2.1 14 = .ok ((.iconst 1), 1) ∧ decode (mX12_isShot).2.1 15 = .ok ((.goto 4), 3) ∧ decode (mX12_isShot).2.1 18 = .ok ((.iconst 0), 1) ∧ decode (mX12_isShot).2.1 19 = .ok ((.ireturn), 1) := by decide +kernel
theorem dX12_isShot_10 : Dc mX12_isShot 10 (.iaload) 1 11 := ⟨k_dX12_isShot_10.1, rfl⟩
theorem dX12_isShot_11 : Dc mX12_isShot 11 (.if_icmp .ge 7) 3 14 := ⟨k_dX12_isShot_10.2.1, rfl⟩
theorem dX12_isShot_14 : Dc mX12_isShot 14 (.iconst 1) 1 15 := ⟨k_dX12_isShot_10.2.2.1, rfl⟩
theorem dX12_isShot_15 : Dc mX12_isShot 15 (.goto 4) 3 18 := ⟨k_dX12_isShot_10.2.2.2.1, rfl⟩
theorem dX12_isShot_18 : Dc mX12_isShot 18 (.iconst 0) 1 19 := ⟨k_dX12_isShot_10.2.2.2.2.1, rfl⟩
theorem dX12_isShot_19 : Dc mX12_isShot 19 (.ireturn) 1 20 := ⟨k_dX12_isShot_10.2.2.2.2.2, rfl⟩
theorem k_dX12_isParty_0 : decode (mX12_isParty).2.1 0 = .ok ((.iload_n 1), 1) ∧ decode (mX12_isParty).2.1 1 = .ok ((.ifCond .lt 17), 3) ∧ decode (mX12_isParty).2.1 4 = .ok ((.iload_n 1), 1) ∧ decode (mX12_isParty).2.1 5 = .ok ((.aload_n 0), 1) ∧ decode (mX12_isParty).2.1 6 = .ok ((.getfield 13), 3) ∧ decode (mX12_isParty).2.1 9 = .ok ((.iconst 3), 1) := by decide +kernel
theorem dX12_isParty_0 : Dc mX12_isParty 0 (.iload_n 1) 1 1 := ⟨k_dX12_isParty_0.1, rfl⟩
theorem dX12_isParty_1 : Dc mX12_isParty 1 (.ifCond .lt 17) 3 4 := ⟨k_dX12_isParty_0.2.1, rfl⟩
theorem dX12_isParty_4 : Dc mX12_isParty 4 (.iload_n 1) 1 5 := ⟨k_dX12_isParty_0.2.2.1, rfl⟩
theorem dX12_isParty_5 : Dc mX12_isParty 5 (.aload_n 0) 1 6 := ⟨k_dX12_isParty_0.2.2.2.1, rfl⟩
theorem dX12_isParty_6 : Dc mX12_isParty 6 (.getfield 13) 3 9 := ⟨k_dX12_isParty_0.2.2.2.2.1, rfl⟩
theorem dX12_isParty_9 : Dc mX12_isParty 9 (.iconst 3) 1 10 := ⟨k_dX12_isParty_0.2.2.2.2.2, rfl⟩
theorem k_dX12_isParty_10 : decode (mX12_isParty).2.1 10 = .ok ((.iaload), 1) ∧ decode (mX12_isParty).2.1 11 = .ok ((.if_icmp .ge 7), 3) ∧ decode (mX12_isParty).2.1 14 = .ok ((.iconst 1), 1) ∧ decode (mX12_isParty).2.1 15 = .ok ((.goto 4), 3) ∧ decode (mX12_isParty).2.1 18 = .ok ((.iconst 0), 1) ∧ decode (mX12_isParty).2.1 19 = .ok ((.ireturn), 1) := by decide +kernel
theorem dX12_isParty_10 : Dc mX12_isParty 10 (.iaload) 1 11 := ⟨k_dX12_isParty_10.1, rfl⟩
theorem dX12_isParty_11 : Dc mX12_isParty 11 (.if_icmp .ge 7) 3 14 := ⟨k_dX12_isParty_10.2.1, rfl⟩
theorem dX12_isParty_14 : Dc mX12_isParty 14 (.iconst 1) 1 15 := ⟨k_dX12_isParty_10.2.2.1, rfl⟩
theorem dX12_isParty_15 : Dc mX12_isParty 15 (.goto 4) 3 18 := ⟨k_dX12_isParty_10.2.2.2.1, rfl⟩
theorem dX12_isParty_18 : Dc mX12_isParty 18 (.iconst 0) 1 19 := ⟨k_dX12_isParty_10.2.2.2.2.1, rfl⟩
theorem dX12_isParty_19 : Dc mX12_isParty 19 (.ireturn) 1 20 := ⟨k_dX12_isParty_10.2.2.2.2.2, rfl⟩
theorem k_dX12_isDone_0 : decode (mX12_isDone).2.1 0 = .ok ((.aload_n 0), 1) ∧ decode (mX12_isDone).2.1 1 = .ok ((.getfield 111), 3) ∧ decode (mX12_isDone).2.1 4 = .ok ((.bipush 8), 2) ∧ decode (mX12_isDone).2.1 6 = .ok ((.iload_n 1), 1) ∧ decode (mX12_isDone).2.1 7 = .ok ((.imul), 1) ∧ decode (mX12_isDone).2.1 8 = .ok ((.iload_n 2), 1) := by decide +kernel
theorem dX12_isDone_0 : Dc mX12_isDone 0 (.aload_n 0) 1 1 := ⟨k_dX12_isDone_0.1, rfl⟩
theorem dX12_isDone_1 : Dc mX12_isDone 1 (.getfield 111) 3 4 := ⟨k_dX12_isDone_0.2.1, rfl⟩
theorem dX12_isDone_4 : Dc mX12_isDone 4 (.bipush 8) 2 6 := ⟨k_dX12_isDone_0.2.2.1, rfl⟩
theorem dX12_isDone_6 : Dc mX12_isDone 6 (.iload_n 1) 1 7 := ⟨k_dX12_isDone_0.2.2.2.1, rfl⟩
theorem dX12_isDone_7 : Dc mX12_isDone 7 (.imul) 1 8 := ⟨k_dX12_isDone_0.2.2.2.2.1, rfl⟩
theorem dX12_isDone_8 : Dc mX12_isDone 8 (.iload_n 2) 1 9 := ⟨k_dX12_isDone_0.2.2.2.2.2, rfl⟩
theorem k_dX12_isDone_9 : decode (mX12_isDone).2.1 9 = .ok ((.iadd), 1) ∧ decode (mX12_isDone).2.1 10 = .ok ((.iaload), 1) ∧ decode (mX12_isDone).2.1 11 = .ok ((.iconst 1), 1) ∧ decode (mX12_isDone).2.1 12 = .ok ((.if_icmp .ne 7), 3) ∧ decode (mX12_isDone).2.1 15 = .ok ((.iconst 1), 1) ∧ decode (mX12_isDone).2.1 16 = .ok ((.goto 4), 3) := by decide +kernel
theorem dX12_isDone_9 : Dc mX12_isDone 9 (.iadd) 1 10 := ⟨k_dX12_isDone_9.1, rfl⟩
theorem dX12_isDone_10 : Dc mX12_isDone 10 (.iaload) 1 11 := ⟨k_dX12_isDone_9.2.1, rfl⟩
theorem dX12_isDone_11 : Dc mX12_isDone 11 (.iconst 1) 1 12 := ⟨k_dX12_isDone_9.2.2.1, rfl⟩
theorem dX12_isDone_12 : Dc mX12_isDone 12 (.if_icmp .ne 7) 3 15 := ⟨k_dX12_isDone_9.2.2.2.1, rfl⟩
theorem dX12_isDone_15 : Dc mX12_isDone 15 (.iconst 1) 1 16 := ⟨k_dX12_isDone_9.2.2.2.2.1, rfl⟩
theorem dX12_isDone_16 : Dc mX12_isDone 16 (.goto 4) 3 19 := ⟨k_dX12_isDone_9.2.2.2.2.2, rfl⟩
theorem k_dX12_isDone_19 : decode (mX12_isDone).2.1 19 = .ok ((.iconst 0), 1) ∧ decode (mX12_isDone).2.1 20 = .ok ((.ireturn), 1) := by decide +kernel
theorem dX12_isDone_19 : Dc mX12_isDone 19 (.iconst 0) 1 20 := ⟨k_dX12_isDone_19.1, rfl⟩
theorem dX12_isDone_20 : Dc mX12_isDone 20 (.ireturn) 1 21 := ⟨k_dX12_isDone_19.2, rfl⟩
theorem k_dX12_wayIn_0 : decode (mX12_wayIn).2.1 0 = .ok ((.aload_n 0), 1) ∧ decode (mX12_wayIn).2.1 1 = .ok ((.getfield 117), 3) ∧ decode (mX12_wayIn).2.1 4 = .ok ((.bipush 48), 2) ∧ decode (mX12_wayIn).2.1 6 = .ok ((.iload_n 1), 1) ∧ decode (mX12_wayIn).2.1 7 = .ok ((.imul), 1) ∧ decode (mX12_wayIn).2.1 8 = .ok ((.bipush 6), 2) := by decide +kernel
theorem dX12_wayIn_0 : Dc mX12_wayIn 0 (.aload_n 0) 1 1 := ⟨k_dX12_wayIn_0.1, rfl⟩
theorem dX12_wayIn_1 : Dc mX12_wayIn 1 (.getfield 117) 3 4 := ⟨k_dX12_wayIn_0.2.1, rfl⟩
theorem dX12_wayIn_4 : Dc mX12_wayIn 4 (.bipush 48) 2 6 := ⟨k_dX12_wayIn_0.2.2.1, rfl⟩
theorem dX12_wayIn_6 : Dc mX12_wayIn 6 (.iload_n 1) 1 7 := ⟨k_dX12_wayIn_0.2.2.2.1, rfl⟩
theorem dX12_wayIn_7 : Dc mX12_wayIn 7 (.imul) 1 8 := ⟨k_dX12_wayIn_0.2.2.2.2.1, rfl⟩
theorem dX12_wayIn_8 : Dc mX12_wayIn 8 (.bipush 6) 2 10 := ⟨k_dX12_wayIn_0.2.2.2.2.2, rfl⟩
theorem k_dX12_wayIn_10 : decode (mX12_wayIn).2.1 10 = .ok ((.iload_n 2), 1) ∧ decode (mX12_wayIn).2.1 11 = .ok ((.imul), 1) ∧ decode (mX12_wayIn).2.1 12 = .ok ((.iadd), 1) ∧ decode (mX12_wayIn).2.1 13 = .ok ((.iload_n 3), 1) ∧ decode (mX12_wayIn).2.1 14 = .ok ((.iadd), 1) ∧ decode (mX12_wayIn).2.1 15 = .ok ((.iaload), 1) := by decide +kernel
theorem dX12_wayIn_10 : Dc mX12_wayIn 10 (.iload_n 2) 1 11 := ⟨k_dX12_wayIn_10.1, rfl⟩
theorem dX12_wayIn_11 : Dc mX12_wayIn 11 (.imul) 1 12 := ⟨k_dX12_wayIn_10.2.1, rfl⟩
theorem dX12_wayIn_12 : Dc mX12_wayIn 12 (.iadd) 1 13 := ⟨k_dX12_wayIn_10.2.2.1, rfl⟩
theorem dX12_wayIn_13 : Dc mX12_wayIn 13 (.iload_n 3) 1 14 := ⟨k_dX12_wayIn_10.2.2.2.1, rfl⟩
theorem dX12_wayIn_14 : Dc mX12_wayIn 14 (.iadd) 1 15 := ⟨k_dX12_wayIn_10.2.2.2.2.1, rfl⟩
theorem dX12_wayIn_15 : Dc mX12_wayIn 15 (.iaload) 1 16 := ⟨k_dX12_wayIn_10.2.2.2.2.2, rfl⟩
theorem dX12_wayIn_16 : Dc mX12_wayIn 16 (.ireturn) 1 17 := ⟨by decide +kernel, rfl⟩
theorem k_dX12_strikeOf_0 : decode (mX12_strikeOf).2.1 0 = .ok ((.aload_n 0), 1) ∧ decode (mX12_strikeOf).2.1 1 = .ok ((.getfield 361), 3) ∧ decode (mX12_strikeOf).2.1 4 = .ok ((.iconst 5), 1) ∧ decode (mX12_strikeOf).2.1 5 = .ok ((.if_icmp .ne 8), 3) ∧ decode (mX12_strikeOf).2.1 8 = .ok ((.bipush 99), 2) ∧ decode (mX12_strikeOf).2.1 10 = .ok ((.goto 24), 3) := by decide +kernel
theorem dX12_strikeOf_0 : Dc mX12_strikeOf 0 (.aload_n 0) 1 1 := ⟨k_dX12_strikeOf_0.1, rfl⟩
theorem dX12_strikeOf_1 : Dc mX12_strikeOf 1 (.getfield 361) 3 4 := ⟨k_dX12_strikeOf_0.2.1, rfl⟩
theorem dX12_strikeOf_4 : Dc mX12_strikeOf 4 (.iconst 5) 1 5 := ⟨k_dX12_strikeOf_0.2.2.1, rfl⟩
theorem dX12_strikeOf_5 : Dc mX12_strikeOf 5 (.if_icmp .ne 8) 3 8 := ⟨k_dX12_strikeOf_0.2.2.2.1, rfl⟩
theorem dX12_strikeOf_8 : Dc mX12_strikeOf 8 (.bipush 99) 2 10 := ⟨k_dX12_strikeOf_0.2.2.2.2.1, rfl⟩
theorem dX12_strikeOf_10 : Dc mX12_strikeOf 10 (.goto 24) 3 13 := ⟨k_dX12_strikeOf_0.2.2.2.2.2, rfl⟩
theorem k_dX12_strikeOf_13 : decode (mX12_strikeOf).2.1 13 = .ok ((.iload_n 1), 1) ∧ decode (mX12_strikeOf).2.1 14 = .ok ((.aload_n 0), 1) ∧ decode (mX12_strikeOf).2.1 15 = .ok ((.getfield 129), 3) ∧ decode (mX12_strikeOf).2.1 18 = .ok ((.if_icmp .ne 10), 3) ∧ decode (mX12_strikeOf).2.1 21 = .ok ((.aload_n 0), 1) ∧ decode (mX12_strikeOf).2.1 22 = .ok ((.getfield 364), 3) := by decide +kernel
theorem dX12_strikeOf_13 : Dc mX12_strikeOf 13 (.iload_n 1) 1 14 := ⟨k_dX12_strikeOf_13.1, rfl⟩
theorem dX12_strikeOf_14 : Dc mX12_strikeOf 14 (.aload_n 0) 1 15 := ⟨k_dX12_strikeOf_13.2.1, rfl⟩
theorem dX12_strikeOf_15 : Dc mX12_strikeOf 15 (.getfield 129) 3 18 := ⟨k_dX12_strikeOf_13.2.2.1, rfl⟩
theorem dX12_strikeOf_18 : Dc mX12_strikeOf 18 (.if_icmp .ne 10) 3 21 := ⟨k_dX12_strikeOf_13.2.2.2.1, rfl⟩
theorem dX12_strikeOf_21 : Dc mX12_strikeOf 21 (.aload_n 0) 1 22 := ⟨k_dX12_strikeOf_13.2.2.2.2.1, rfl⟩
theorem dX12_strikeOf_22 : Dc mX12_strikeOf 22 (.getfield 364) 3 25 := ⟨k_dX12_strikeOf_13.2.2.2.2.2, rfl⟩
theorem k_dX12_strikeOf_25 : decode (mX12_strikeOf).2.1 25 = .ok ((.goto 9), 3) ∧ decode (mX12_strikeOf).2.1 28 = .ok ((.aload_n 0), 1) ∧ decode (mX12_strikeOf).2.1 29 = .ok ((.getfield 19), 3) ∧ decode (mX12_strikeOf).2.1 32 = .ok ((.iload_n 1), 1) ∧ decode (mX12_strikeOf).2.1 33 = .ok ((.iaload), 1) ∧ decode (mX12_strikeOf).2.1 34 = .ok ((.ireturn), 1) := by decide +kernel
theorem dX12_strikeOf_25 : Dc mX12_strikeOf 25 (.goto 9) 3 28 := ⟨k_dX12_strikeOf_25.1, rfl⟩
theorem dX12_strikeOf_28 : Dc mX12_strikeOf 28 (.aload_n 0) 1 29 := ⟨k_dX12_strikeOf_25.2.1, rfl⟩
theorem dX12_strikeOf_29 : Dc mX12_strikeOf 29 (.getfield 19) 3 32 := ⟨k_dX12_strikeOf_25.2.2.1, rfl⟩
theorem dX12_strikeOf_32 : Dc mX12_strikeOf 32 (.iload_n 1) 1 33 := ⟨k_dX12_strikeOf_25.2.2.2.1, rfl⟩
theorem dX12_strikeOf_33 : Dc mX12_strikeOf 33 (.iaload) 1 34 := ⟨k_dX12_strikeOf_25.2.2.2.2.1, rfl⟩
theorem dX12_strikeOf_34 : Dc mX12_strikeOf 34 (.ireturn) 1 35 := ⟨k_dX12_strikeOf_25.2.2.2.2.2, rfl⟩
theorem k_dX12_timesOf_0 : decode (mX12_timesOf).2.1 0 = .ok ((.iconst 0), 1) ∧ decode (mX12_timesOf).2.1 1 = .ok ((.istore 4), 2) ∧ decode (mX12_timesOf).2.1 3 = .ok ((.iconst 0), 1) ∧ decode (mX12_timesOf).2.1 4 = .ok ((.istore 5), 2) ∧ decode (mX12_timesOf).2.1 6 = .ok ((.iload 5), 2) ∧ decode (mX12_timesOf).2.1 8 = .ok ((.aload_n 0), 1) := by decide +kernel
theorem dX12_timesOf_0 : Dc mX12_timesOf 0 (.iconst 0) 1 1 := ⟨k_dX12_timesOf_0.1, rfl⟩
theorem dX12_timesOf_1 : Dc mX12_timesOf 1 (.istore 4) 2 3 := ⟨k_dX12_timesOf_0.2.1, rfl⟩
theorem dX12_timesOf_3 : Dc mX12_timesOf 3 (.iconst 0) 1 4 := ⟨k_dX12_timesOf_0.2.2.1, rfl⟩
theorem dX12_timesOf_4 : Dc mX12_timesOf 4 (.istore 5) 2 6 := ⟨k_dX12_timesOf_0.2.2.2.1, rfl⟩
theorem dX12_timesOf_6 : Dc mX12_timesOf 6 (.iload 5) 2 8 := ⟨k_dX12_timesOf_0.2.2.2.2.1, rfl⟩
theorem dX12_timesOf_8 : Dc mX12_timesOf 8 (.aload_n 0) 1 9 := ⟨k_dX12_timesOf_0.2.2.2.2.2, rfl⟩
theorem k_dX12_timesOf_9 : decode (mX12_timesOf).2.1 9 = .ok ((.getfield 13), 3) ∧ decode (mX12_timesOf).2.1 12 = .ok ((.iconst 1), 1) ∧ decode (mX12_timesOf).2.1 13 = .ok ((.iaload), 1) ∧ decode (mX12_timesOf).2.1 14 = .ok ((.if_icmp .ge 47), 3) ∧ decode (mX12_timesOf).2.1 17 = .ok ((.iload 4), 2) ∧ decode (mX12_timesOf).2.1 19 = .ok ((.iload 5), 2) := by decide +kernel
theorem dX12_timesOf_9 : Dc mX12_timesOf 9 (.getfield 13) 3 12 := ⟨k_dX12_timesOf_9.1, rfl⟩
theorem dX12_timesOf_12 : Dc mX12_timesOf 12 (.iconst 1) 1 13 := ⟨k_dX12_timesOf_9.2.1, rfl⟩
theorem dX12_timesOf_13 : Dc mX12_timesOf 13 (.iaload) 1 14 := ⟨k_dX12_timesOf_9.2.2.1, rfl⟩
theorem dX12_timesOf_14 : Dc mX12_timesOf 14 (.if_icmp .ge 47) 3 17 := ⟨k_dX12_timesOf_9.2.2.2.1, rfl⟩
theorem dX12_timesOf_17 : Dc mX12_timesOf 17 (.iload 4) 2 19 := ⟨k_dX12_timesOf_9.2.2.2.2.1, rfl⟩
theorem dX12_timesOf_19 : Dc mX12_timesOf 19 (.iload 5) 2 21 := ⟨k_dX12_timesOf_9.2.2.2.2.2, rfl⟩
theorem k_dX12_timesOf_21 : decode (mX12_timesOf).2.1 21 = .ok ((.iload_n 3), 1) ∧ decode (mX12_timesOf).2.1 22 = .ok ((.if_icmp .eq 29), 3) ∧ decode (mX12_timesOf).2.1 25 = .ok ((.aload_n 0), 1) ∧ decode (mX12_timesOf).2.1 26 = .ok ((.iload_n 1), 1) ∧ decode (mX12_timesOf).2.1 27 = .ok ((.iload 5), 2) ∧ decode (mX12_timesOf).2.1 29 = .ok ((.invokevirtual 367), 3) := by decide +kernel
theorem dX12_timesOf_21 : Dc mX12_timesOf 21 (.iload_n 3) 1 22 := ⟨k_dX12_timesOf_21.1, rfl⟩
theorem dX12_timesOf_22 : Dc mX12_timesOf 22 (.if_icmp .eq 29) 3 25 := ⟨k_dX12_timesOf_21.2.1, rfl⟩
theorem dX12_timesOf_25 : Dc mX12_timesOf 25 (.aload_n 0) 1 26 := ⟨k_dX12_timesOf_21.2.2.1, rfl⟩
theorem dX12_timesOf_26 : Dc mX12_timesOf 26 (.iload_n 1) 1 27 := ⟨k_dX12_timesOf_21.2.2.2.1, rfl⟩
theorem dX12_timesOf_27 : Dc mX12_timesOf 27 (.iload 5) 2 29 := ⟨k_dX12_timesOf_21.2.2.2.2.1, rfl⟩
theorem dX12_timesOf_29 : Dc mX12_timesOf 29 (.invokevirtual 367) 3 32 := ⟨k_dX12_timesOf_21.2.2.2.2.2, rfl⟩
theorem k_dX12_timesOf_32 : decode (mX12_timesOf).2.1 32 = .ok ((.ifCond .eq 19), 3) ∧ decode (mX12_timesOf).2.1 35 = .ok ((.aload_n 0), 1) ∧ decode (mX12_timesOf).2.1 36 = .ok ((.iload_n 1), 1) ∧ decode (mX12_timesOf).2.1 37 = .ok ((.iload 5), 2) ∧ decode (mX12_timesOf).2.1 39 = .ok ((.iload_n 2), 1) ∧ decode (mX12_timesOf).2.1 40 = .ok ((.invokevirtual 371), 3) := by decide +kernel
theorem dX12_timesOf_32 : Dc mX12_timesOf 32 (.ifCond .eq 19) 3 35 := ⟨k_dX12_timesOf_32.1, rfl⟩
theorem dX12_timesOf_35 : Dc mX12_timesOf 35 (.aload_n 0) 1 36 := ⟨k_dX12_timesOf_32.2.1, rfl⟩
theorem dX12_timesOf_36 : Dc mX12_timesOf 36 (.iload_n 1) 1 37 := ⟨k_dX12_timesOf_32.2.2.1, rfl⟩
theorem dX12_timesOf_37 : Dc mX12_timesOf 37 (.iload 5) 2 39 := ⟨k_dX12_timesOf_32.2.2.2.1, rfl⟩
theorem dX12_timesOf_39 : Dc mX12_timesOf 39 (.iload_n 2) 1 40 := ⟨k_dX12_timesOf_32.2.2.2.2.1, rfl⟩
theorem dX12_timesOf_40 : Dc mX12_timesOf 40 (.invokevirtual 371) 3 43 := ⟨k_dX12_timesOf_32.2.2.2.2.2, rfl⟩
theorem k_dX12_timesOf_43 : decode (mX12_timesOf).2.1 43 = .ok ((.iconst (-1)), 1) ∧ decode (mX12_timesOf).2.1 44 = .ok ((.if_icmp .eq 7), 3) ∧ decode (mX12_timesOf).2.1 47 = .ok ((.iconst 1), 1) ∧ decode (mX12_timesOf).2.1 48 = .ok ((.goto 4), 3) ∧ decode (mX12_timesOf).2.1 51 = .ok ((.iconst 0), 1) ∧ decode (mX12_timesOf).2.1 52 = .ok ((.iadd), 1) := by decide +kernel
theorem dX12_timesOf_43 : Dc mX12_timesOf 43 (.iconst (-1)) 1 44 := ⟨k_dX12_timesOf_43.1, rfl⟩
theorem dX12_timesOf_44 : Dc mX12_timesOf 44 (.if_icmp .eq 7) 3 47 := ⟨k_dX12_timesOf_43.2.1, rfl⟩
theorem dX12_timesOf_47 : Dc mX12_timesOf 47 (.iconst 1) 1 48 := ⟨k_dX12_timesOf_43.2.2.1, rfl⟩
theorem dX12_timesOf_48 : Dc mX12_timesOf 48 (.goto 4) 3 51 := ⟨k_dX12_timesOf_43.2.2.2.1, rfl⟩
theorem dX12_timesOf_51 : Dc mX12_timesOf 51 (.iconst 0) 1 52 := ⟨k_dX12_timesOf_43.2.2.2.2.1, rfl⟩
theorem dX12_timesOf_52 : Dc mX12_timesOf 52 (.iadd) 1 53 := ⟨k_dX12_timesOf_43.2.2.2.2.2, rfl⟩
theorem k_dX12_timesOf_53 : decode (mX12_timesOf).2.1 53 = .ok ((.istore 4), 2) ∧ decode (mX12_timesOf).2.1 55 = .ok ((.iinc 5 1), 3) ∧ decode (mX12_timesOf).2.1 58 = .ok ((.goto (-52)), 3) ∧ decode (mX12_timesOf).2.1 61 = .ok ((.iload 4), 2) ∧ decode (mX12_timesOf).2.1 63 = .ok ((.ireturn), 1) := by decide +kernel
theorem dX12_timesOf_53 : Dc mX12_timesOf 53 (.istore 4) 2 55 := ⟨k_dX12_timesOf_53.1, rfl⟩
theorem dX12_timesOf_55 : Dc mX12_timesOf 55 (.iinc 5 1) 3 58 := ⟨k_dX12_timesOf_53.2.1, rfl⟩
theorem dX12_timesOf_58 : Dc mX12_timesOf 58 (.goto (-52)) 3 61 := ⟨k_dX12_timesOf_53.2.2.1, rfl⟩
theorem dX12_timesOf_61 : Dc mX12_timesOf 61 (.iload 4) 2 63 := ⟨k_dX12_timesOf_53.2.2.2.1, rfl⟩
theorem dX12_timesOf_63 : Dc mX12_timesOf 63 (.ireturn) 1 64 := ⟨k_dX12_timesOf_53.2.2.2.2, rfl⟩
theorem k_dX12_callsMark_0 : decode (mX12_callsMark).2.1 0 = .ok ((.aload_n 0), 1) ∧ decode (mX12_callsMark).2.1 1 = .ok ((.getfield 77), 3) ∧ decode (mX12_callsMark).2.1 4 = .ok ((.iconst 0), 1) ∧ decode (mX12_callsMark).2.1 5 = .ok ((.aload_n 0), 1) ∧ decode (mX12_callsMark).2.1 6 = .ok ((.iload_n 2), 1) ∧ decode (mX12_callsMark).2.1 7 = .ok ((.invokevirtual 375), 3) := by decide +kernel
theorem dX12_callsMark_0 : Dc mX12_callsMark 0 (.aload_n 0) 1 1 := ⟨k_dX12_callsMark_0.1, rfl⟩
theorem dX12_callsMark_1 : Dc mX12_callsMark 1 (.getfield 77) 3 4 := ⟨k_dX12_callsMark_0.2.1, rfl⟩
theorem dX12_callsMark_4 : Dc mX12_callsMark 4 (.iconst 0) 1 5 := ⟨k_dX12_callsMark_0.2.2.1, rfl⟩
theorem dX12_callsMark_5 : Dc mX12_callsMark 5 (.aload_n 0) 1 6 := ⟨k_dX12_callsMark_0.2.2.2.1, rfl⟩
theorem dX12_callsMark_6 : Dc mX12_callsMark 6 (.iload_n 2) 1 7 := ⟨k_dX12_callsMark_0.2.2.2.2.1, rfl⟩
theorem dX12_callsMark_7 : Dc mX12_callsMark 7 (.invokevirtual 375) 3 10 := ⟨k_dX12_callsMark_0.2.2.2.2.2, rfl⟩
theorem k_dX12_callsMark_10 : decode (mX12_callsMark).2.1 10 = .ok ((.i2l), 1) ∧ decode (mX12_callsMark).2.1 11 = .ok ((.lastore), 1) ∧ decode (mX12_callsMark).2.1 12 = .ok ((.aload_n 0), 1) ∧ decode (mX12_callsMark).2.1 13 = .ok ((.getfield 77), 3) ∧ decode (mX12_callsMark).2.1 16 = .ok ((.iconst 1), 1) ∧ decode (mX12_callsMark).2.1 17 = .ok ((.aload_n 0), 1) := by decide +kernel
theorem dX12_callsMark_10 : Dc mX12_callsMark 10 (.i2l) 1 11 := ⟨k_dX12_callsMark_10.1, rfl⟩
theorem dX12_callsMark_11 : Dc mX12_callsMark 11 (.lastore) 1 12 := ⟨k_dX12_callsMark_10.2.1, rfl⟩
theorem dX12_callsMark_12 : Dc mX12_callsMark 12 (.aload_n 0) 1 13 := ⟨k_dX12_callsMark_10.2.2.1, rfl⟩
theorem dX12_callsMark_13 : Dc mX12_callsMark 13 (.getfield 77) 3 16 := ⟨k_dX12_callsMark_10.2.2.2.1, rfl⟩
theorem dX12_callsMark_16 : Dc mX12_callsMark 16 (.iconst 1) 1 17 := ⟨k_dX12_callsMark_10.2.2.2.2.1, rfl⟩
theorem dX12_callsMark_17 : Dc mX12_callsMark 17 (.aload_n 0) 1 18 := ⟨k_dX12_callsMark_10.2.2.2.2.2, rfl⟩
theorem k_dX12_callsMark_18 : decode (mX12_callsMark).2.1 18 = .ok ((.getfield 105), 3) ∧ decode (mX12_callsMark).2.1 21 = .ok ((.bipush 6), 2) ∧ decode (mX12_callsMark).2.1 23 = .ok ((.iload_n 1), 1) ∧ decode (mX12_callsMark).2.1 24 = .ok ((.imul), 1) ∧ decode (mX12_callsMark).2.1 25 = .ok ((.iload_n 2), 1) ∧ decode (mX12_callsMark).2.1 26 = .ok ((.iadd), 1) := by decide +kernel
theorem dX12_callsMark_18 : Dc mX12_callsMark 18 (.getfield 105) 3 21 := ⟨k_dX12_callsMark_18.1, rfl⟩
theorem dX12_callsMark_21 : Dc mX12_callsMark 21 (.bipush 6) 2 23 := ⟨k_dX12_callsMark_18.2.1, rfl⟩
theorem dX12_callsMark_23 : Dc mX12_callsMark 23 (.iload_n 1) 1 24 := ⟨k_dX12_callsMark_18.2.2.1, rfl⟩
theorem dX12_callsMark_24 : Dc mX12_callsMark 24 (.imul) 1 25 := ⟨k_dX12_callsMark_18.2.2.2.1, rfl⟩
theorem dX12_callsMark_25 : Dc mX12_callsMark 25 (.iload_n 2) 1 26 := ⟨k_dX12_callsMark_18.2.2.2.2.1, rfl⟩
theorem dX12_callsMark_26 : Dc mX12_callsMark 26 (.iadd) 1 27 := ⟨k_dX12_callsMark_18.2.2.2.2.2, rfl⟩
theorem k_dX12_callsMark_27 : decode (mX12_callsMark).2.1 27 = .ok ((.iaload), 1) ∧ decode (mX12_callsMark).2.1 28 = .ok ((.iload_n 3), 1) ∧ decode (mX12_callsMark).2.1 29 = .ok ((.iadd), 1) ∧ decode (mX12_callsMark).2.1 30 = .ok ((.i2l), 1) ∧ decode (mX12_callsMark).2.1 31 = .ok ((.lastore), 1) ∧ decode (mX12_callsMark).2.1 32 = .ok ((.aload_n 0), 1) := by decide +kernel
theorem dX12_callsMark_27 : Dc mX12_callsMark 27 (.iaload) 1 28 := ⟨k_dX12_callsMark_27.1, rfl⟩
theorem dX12_callsMark_28 : Dc mX12_callsMark 28 (.iload_n 3) 1 29 := ⟨k_dX12_callsMark_27.2.1, rfl⟩
theorem dX12_callsMark_29 : Dc mX12_callsMark 29 (.iadd) 1 30 := ⟨k_dX12_callsMark_27.2.2.1, rfl⟩
theorem dX12_callsMark_30 : Dc mX12_callsMark 30 (.i2l) 1 31 := ⟨k_dX12_callsMark_27.2.2.2.1, rfl⟩
theorem dX12_callsMark_31 : Dc mX12_callsMark 31 (.lastore) 1 32 := ⟨k_dX12_callsMark_27.2.2.2.2.1, rfl⟩
theorem dX12_callsMark_32 : Dc mX12_callsMark 32 (.aload_n 0) 1 33 := ⟨k_dX12_callsMark_27.2.2.2.2.2, rfl⟩
theorem k_dX12_callsMark_33 : decode (mX12_callsMark).2.1 33 = .ok ((.getfield 77), 3) ∧ decode (mX12_callsMark).2.1 36 = .ok ((.iconst 2), 1) ∧ decode (mX12_callsMark).2.1 37 = .ok ((.aload_n 0), 1) ∧ decode (mX12_callsMark).2.1 38 = .ok ((.getfield 102), 3) ∧ decode (mX12_callsMark).2.1 41 = .ok ((.bipush 6), 2) ∧ decode (mX12_callsMark).2.1 43 = .ok ((.iload_n 1), 1) := by decide +kernel
theorem dX12_callsMark_33 : Dc mX12_callsMark 33 (.getfield 77) 3 36 := ⟨k_dX12_callsMark_33.1, rfl⟩
theorem dX12_callsMark_36 : Dc mX12_callsMark 36 (.iconst 2) 1 37 := ⟨k_dX12_callsMark_33.2.1, rfl⟩
theorem dX12_callsMark_37 : Dc mX12_callsMark 37 (.aload_n 0) 1 38 := ⟨k_dX12_callsMark_33.2.2.1, rfl⟩
theorem dX12_callsMark_38 : Dc mX12_callsMark 38 (.getfield 102) 3 41 := ⟨k_dX12_callsMark_33.2.2.2.1, rfl⟩
theorem dX12_callsMark_41 : Dc mX12_callsMark 41 (.bipush 6) 2 43 := ⟨k_dX12_callsMark_33.2.2.2.2.1, rfl⟩
theorem dX12_callsMark_43 : Dc mX12_callsMark 43 (.iload_n 1) 1 44 := ⟨k_dX12_callsMark_33.2.2.2.2.2, rfl⟩
theorem k_dX12_callsMark_44 : decode (mX12_callsMark).2.1 44 = .ok ((.imul), 1) ∧ decode (mX12_callsMark).2.1 45 = .ok ((.iload_n 2), 1) ∧ decode (mX12_callsMark).2.1 46 = .ok ((.iadd), 1) ∧ decode (mX12_callsMark).2.1 47 = .ok ((.iaload), 1) ∧ decode (mX12_callsMark).2.1 48 = .ok ((.iconst (-1)), 1) ∧ decode (mX12_callsMark).2.1 49 = .ok ((.if_icmp .eq 7), 3) := by decide +kernel
theorem dX12_callsMark_44 : Dc mX12_callsMark 44 (.imul) 1 45 := ⟨k_dX12_callsMark_44.1, rfl⟩
theorem dX12_callsMark_45 : Dc mX12_callsMark 45 (.iload_n 2) 1 46 := ⟨k_dX12_callsMark_44.2.1, rfl⟩
theorem dX12_callsMark_46 : Dc mX12_callsMark 46 (.iadd) 1 47 := ⟨k_dX12_callsMark_44.2.2.1, rfl⟩
theorem dX12_callsMark_47 : Dc mX12_callsMark 47 (.iaload) 1 48 := ⟨k_dX12_callsMark_44.2.2.2.1, rfl⟩
theorem dX12_callsMark_48 : Dc mX12_callsMark 48 (.iconst (-1)) 1 49 := ⟨k_dX12_callsMark_44.2.2.2.2.1, rfl⟩
theorem dX12_callsMark_49 : Dc mX12_callsMark 49 (.if_icmp .eq 7) 3 52 := ⟨k_dX12_callsMark_44.2.2.2.2.2, rfl⟩
theorem k_dX12_callsMark_52 : decode (mX12_callsMark).2.1 52 = .ok ((.lconst 1), 1) ∧ decode (mX12_callsMark).2.1 53 = .ok ((.goto 4), 3) ∧ decode (mX12_callsMark).2.1 56 = .ok ((.lconst 0), 1) ∧ decode (mX12_callsMark).2.1 57 = .ok ((.lastore), 1) ∧ decode (mX12_callsMark).2.1 58 = .ok ((.aload_n 0), 1) ∧ decode (mX12_callsMark).2.1 59 = .ok ((.getfield 77), 3) := by decide +kernel
theorem dX12_callsMark_52 : Dc mX12_callsMark 52 (.lconst 1) 1 53 := ⟨k_dX12_callsMark_52.1, rfl⟩
theorem dX12_callsMark_53 : Dc mX12_callsMark 53 (.goto 4) 3 56 := ⟨k_dX12_callsMark_52.2.1, rfl⟩
theorem dX12_callsMark_56 : Dc mX12_callsMark 56 (.lconst 0) 1 57 := ⟨k_dX12_callsMark_52.2.2.1, rfl⟩
theorem dX12_callsMark_57 : Dc mX12_callsMark 57 (.lastore) 1 58 := ⟨k_dX12_callsMark_52.2.2.2.1, rfl⟩
theorem dX12_callsMark_58 : Dc mX12_callsMark 58 (.aload_n 0) 1 59 := ⟨k_dX12_callsMark_52.2.2.2.2.1, rfl⟩
theorem dX12_callsMark_59 : Dc mX12_callsMark 59 (.getfield 77) 3 62 := ⟨k_dX12_callsMark_52.2.2.2.2.2, rfl⟩
theorem k_dX12_callsMark_62 : decode (mX12_callsMark).2.1 62 = .ok ((.iconst 3), 1) ∧ decode (mX12_callsMark).2.1 63 = .ok ((.aload_n 0), 1) ∧ decode (mX12_callsMark).2.1 64 = .ok ((.iload_n 1), 1) ∧ decode (mX12_callsMark).2.1 65 = .ok ((.iload_n 2), 1) ∧ decode (mX12_callsMark).2.1 66 = .ok ((.iload 4), 2) ∧ decode (mX12_callsMark).2.1 68 = .ok ((.invokevirtual 378), 3) := by decide +kernel
theorem dX12_callsMark_62 : Dc mX12_callsMark 62 (.iconst 3) 1 63 := ⟨k_dX12_callsMark_62.1, rfl⟩
theorem dX12_callsMark_63 : Dc mX12_callsMark 63 (.aload_n 0) 1 64 := ⟨k_dX12_callsMark_62.2.1, rfl⟩
theorem dX12_callsMark_64 : Dc mX12_callsMark 64 (.iload_n 1) 1 65 := ⟨k_dX12_callsMark_62.2.2.1, rfl⟩
theorem dX12_callsMark_65 : Dc mX12_callsMark 65 (.iload_n 2) 1 66 := ⟨k_dX12_callsMark_62.2.2.2.1, rfl⟩
theorem dX12_callsMark_66 : Dc mX12_callsMark 66 (.iload 4) 2 68 := ⟨k_dX12_callsMark_62.2.2.2.2.1, rfl⟩
theorem dX12_callsMark_68 : Dc mX12_callsMark 68 (.invokevirtual 378) 3 71 := ⟨k_dX12_callsMark_62.2.2.2.2.2, rfl⟩
theorem k_dX12_callsMark_71 : decode (mX12_callsMark).2.1 71 = .ok ((.i2l), 1) ∧ decode (mX12_callsMark).2.1 72 = .ok ((.lastore), 1) ∧ decode (mX12_callsMark).2.1 73 = .ok ((.aload_n 0), 1) ∧ decode (mX12_callsMark).2.1 74 = .ok ((.getfield 77), 3) ∧ decode (mX12_callsMark).2.1 77 = .ok ((.iconst 4), 1) ∧ decode (mX12_callsMark).2.1 78 = .ok ((.iload 5), 2) := by decide +kernel
theorem dX12_callsMark_71 : Dc mX12_callsMark 71 (.i2l) 1 72 := ⟨k_dX12_callsMark_71.1, rfl⟩
theorem dX12_callsMark_72 : Dc mX12_callsMark 72 (.lastore) 1 73 := ⟨k_dX12_callsMark_71.2.1, rfl⟩
theorem dX12_callsMark_73 : Dc mX12_callsMark 73 (.aload_n 0) 1 74 := ⟨k_dX12_callsMark_71.2.2.1, rfl⟩
theorem dX12_callsMark_74 : Dc mX12_callsMark 74 (.getfield 77) 3 77 := ⟨k_dX12_callsMark_71.2.2.2.1, rfl⟩
theorem dX12_callsMark_77 : Dc mX12_callsMark 77 (.iconst 4) 1 78 := ⟨k_dX12_callsMark_71.2.2.2.2.1, rfl⟩
theorem dX12_callsMark_78 : Dc mX12_callsMark 78 (.iload 5) 2 80 := ⟨k_dX12_callsMark_71.2.2.2.2.2, rfl⟩
theorem k_dX12_callsMark_80 : decode (mX12_callsMark).2.1 80 = .ok ((.i2l), 1) ∧ decode (mX12_callsMark).2.1 81 = .ok ((.lastore), 1) ∧ decode (mX12_callsMark).2.1 82 = .ok ((.aload_n 0), 1) ∧ decode (mX12_callsMark).2.1 83 = .ok ((.getfield 77), 3) ∧ decode (mX12_callsMark).2.1 86 = .ok ((.iconst 5), 1) ∧ decode (mX12_callsMark).2.1 87 = .ok ((.aload_n 0), 1) := by decide +kernel
theorem dX12_callsMark_80 : Dc mX12_callsMark 80 (.i2l) 1 81 := ⟨k_dX12_callsMark_80.1, rfl⟩
theorem dX12_callsMark_81 : Dc mX12_callsMark 81 (.lastore) 1 82 := ⟨k_dX12_callsMark_80.2.1, rfl⟩
theorem dX12_callsMark_82 : Dc mX12_callsMark 82 (.aload_n 0) 1 83 := ⟨k_dX12_callsMark_80.2.2.1, rfl⟩
theorem dX12_callsMark_83 : Dc mX12_callsMark 83 (.getfield 77) 3 86 := ⟨k_dX12_callsMark_80.2.2.2.1, rfl⟩
theorem dX12_callsMark_86 : Dc mX12_callsMark 86 (.iconst 5) 1 87 := ⟨k_dX12_callsMark_80.2.2.2.2.1, rfl⟩
theorem dX12_callsMark_87 : Dc mX12_callsMark 87 (.aload_n 0) 1 88 := ⟨k_dX12_callsMark_80.2.2.2.2.2, rfl⟩
theorem k_dX12_callsMark_88 : decode (mX12_callsMark).2.1 88 = .ok ((.getfield 84), 3) ∧ decode (mX12_callsMark).2.1 91 = .ok ((.iload_n 1), 1) ∧ decode (mX12_callsMark).2.1 92 = .ok ((.iaload), 1) ∧ decode (mX12_callsMark).2.1 93 = .ok ((.i2l), 1) ∧ decode (mX12_callsMark).2.1 94 = .ok ((.lastore), 1) ∧ decode (mX12_callsMark).2.1 95 = .ok ((.aload_n 0), 1) := by decide +kernel
theorem dX12_callsMark_88 : Dc mX12_callsMark 88 (.getfield 84) 3 91 := ⟨k_dX12_callsMark_88.1, rfl⟩
theorem dX12_callsMark_91 : Dc mX12_callsMark 91 (.iload_n 1) 1 92 := ⟨k_dX12_callsMark_88.2.1, rfl⟩
theorem dX12_callsMark_92 : Dc mX12_callsMark 92 (.iaload) 1 93 := ⟨k_dX12_callsMark_88.2.2.1, rfl⟩
theorem dX12_callsMark_93 : Dc mX12_callsMark 93 (.i2l) 1 94 := ⟨k_dX12_callsMark_88.2.2.2.1, rfl⟩
theorem dX12_callsMark_94 : Dc mX12_callsMark 94 (.lastore) 1 95 := ⟨k_dX12_callsMark_88.2.2.2.2.1, rfl⟩
theorem dX12_callsMark_95 : Dc mX12_callsMark 95 (.aload_n 0) 1 96 := ⟨k_dX12_callsMark_88.2.2.2.2.2, rfl⟩
theorem k_dX12_callsMark_96 : decode (mX12_callsMark).2.1 96 = .ok ((.getfield 77), 3) ∧ decode (mX12_callsMark).2.1 99 = .ok ((.bipush 6), 2) ∧ decode (mX12_callsMark).2.1 101 = .ok ((.aload_n 0), 1) ∧ decode (mX12_callsMark).2.1 102 = .ok ((.getfield 96), 3) ∧ decode (mX12_callsMark).2.1 105 = .ok ((.iload_n 1), 1) := by decide +kernel
theorem dX12_callsMark_96 : Dc mX12_callsMark 96 (.getfield 77) 3 99 := ⟨k_dX12_callsMark_96.1, rfl⟩
theorem dX12_callsMark_99 : Dc mX12_callsMark 99 (.bipush 6) 2 101 := ⟨k_dX12_callsMark_96.2.1, rfl⟩
theorem dX12_callsMark_101 : Dc mX12_callsMark 101 (.aload_n 0) 1 102 := ⟨k_dX12_callsMark_96.2.2.1, rfl⟩
theorem dX12_callsMark_102 : Dc mX12_callsMark 102 (.getfield 96) 3 105 := ⟨k_dX12_callsMark_96.2.2.2.1, rfl⟩
theorem dX12_callsMark_105 : Dc mX12_callsMark 105 (.iload_n 1) 1 106 := ⟨k_dX12_callsMark_96.2.2.2.2, rfl⟩
