/-! printed by wip/whole/gen_dec.py: decode rows -/
theorem dX12_callsMark_106 : Dc mX12_callsMark 106 (.iaload) 1 107 := ⟨zo_46 (by decide +kernel), rfl⟩
theorem dX12_callsMark_107 : Dc mX12_callsMark 107 (.i2l) 1 108 := ⟨zo_133 (by decide +kernel), rfl⟩
theorem dX12_callsMark_108 : Dc mX12_callsMark 108 (.lastore) 1 109 := ⟨zo_80 (by decide +kernel), rfl⟩
theorem dX12_callsMark_109 : Dc mX12_callsMark 109 (.return_) 1 110 := ⟨zo_177 (by decide +kernel), rfl⟩
theorem dX12_doesClash_0 : Dc mX12_doesClash 0 (.aload_n 0) 1 1 := ⟨zo_42 (by decide +kernel), rfl⟩
theorem dX12_doesClash_1 : Dc mX12_doesClash 1 (.iload_n 1) 1 2 := ⟨zo_27 (by decide +kernel), rfl⟩
theorem dX12_doesClash_2 : Dc mX12_doesClash 2 (.iload_n 2) 1 3 := ⟨zo_28 (by decide +kernel), rfl⟩
theorem dX12_doesClash_3 : Dc mX12_doesClash 3 (.iload_n 3) 1 4 := ⟨zo_29 (by decide +kernel), rfl⟩
theorem dX12_doesClash_4 : Dc mX12_doesClash 4 (.invokevirtual 371) 3 7 := ⟨zo_182 (w := 1) (x := 115) (by decide +kernel), rfl⟩
theorem dX12_doesClash_7 : Dc mX12_doesClash 7 (.istore 4) 2 9 := ⟨zo_54 (by decide +kernel), rfl⟩
theorem dX12_doesClash_9 : Dc mX12_doesClash 9 (.aload_n 0) 1 10 := ⟨zo_42 (by decide +kernel), rfl⟩
theorem dX12_doesClash_10 : Dc mX12_doesClash 10 (.iload_n 1) 1 11 := ⟨zo_27 (by decide +kernel), rfl⟩
theorem dX12_doesClash_11 : Dc mX12_doesClash 11 (.iload_n 2) 1 12 := ⟨zo_28 (by decide +kernel), rfl⟩
theorem dX12_doesClash_12 : Dc mX12_doesClash 12 (.invokevirtual 367) 3 15 := ⟨zo_182 (w := 1) (x := 111) (by decide +kernel), rfl⟩
theorem dX12_doesClash_15 : Dc mX12_doesClash 15 (.ifCond .eq 44) 3 18 := ⟨zo_153 (w := 0) (x := 44) (by decide +kernel), rfl⟩
theorem dX12_doesClash_18 : Dc mX12_doesClash 18 (.iload 4) 2 20 := ⟨zo_21 (by decide +kernel), rfl⟩
theorem dX12_doesClash_20 : Dc mX12_doesClash 20 (.iconst (-1)) 1 21 := ⟨zo_2 (by decide +kernel), rfl⟩
theorem dX12_doesClash_21 : Dc mX12_doesClash 21 (.if_icmp .eq 38) 3 24 := ⟨zo_159 (w := 0) (x := 38) (by decide +kernel), rfl⟩
theorem dX12_doesClash_24 : Dc mX12_doesClash 24 (.aload_n 0) 1 25 := ⟨zo_42 (by decide +kernel), rfl⟩
theorem dX12_doesClash_25 : Dc mX12_doesClash 25 (.getfield 102) 3 28 := ⟨zo_180 (w := 0) (x := 102) (by decide +kernel), rfl⟩
theorem dX12_doesClash_28 : Dc mX12_doesClash 28 (.bipush 6) 2 30 := ⟨zo_16 (w := 6) (by decide +kernel), rfl⟩
theorem dX12_doesClash_30 : Dc mX12_doesClash 30 (.iload_n 1) 1 31 := ⟨zo_27 (by decide +kernel), rfl⟩
theorem dX12_doesClash_31 : Dc mX12_doesClash 31 (.imul) 1 32 := ⟨zo_104 (by decide +kernel), rfl⟩
theorem dX12_doesClash_32 : Dc mX12_doesClash 32 (.iload_n 3) 1 33 := ⟨zo_29 (by decide +kernel), rfl⟩
theorem dX12_doesClash_33 : Dc mX12_doesClash 33 (.iadd) 1 34 := ⟨zo_96 (by decide +kernel), rfl⟩
theorem dX12_doesClash_34 : Dc mX12_doesClash 34 (.iaload) 1 35 := ⟨zo_46 (by decide +kernel), rfl⟩
theorem dX12_doesClash_35 : Dc mX12_doesClash 35 (.iconst (-1)) 1 36 := ⟨zo_2 (by decide +kernel), rfl⟩
theorem dX12_doesClash_36 : Dc mX12_doesClash 36 (.if_icmp .eq 23) 3 39 := ⟨zo_159 (w := 0) (x := 23) (by decide +kernel), rfl⟩
theorem dX12_doesClash_39 : Dc mX12_doesClash 39 (.aload_n 0) 1 40 := ⟨zo_42 (by decide +kernel), rfl⟩
theorem dX12_doesClash_40 : Dc mX12_doesClash 40 (.getfield 102) 3 43 := ⟨zo_180 (w := 0) (x := 102) (by decide +kernel), rfl⟩
theorem dX12_doesClash_43 : Dc mX12_doesClash 43 (.bipush 6) 2 45 := ⟨zo_16 (w := 6) (by decide +kernel), rfl⟩
theorem dX12_doesClash_45 : Dc mX12_doesClash 45 (.iload_n 1) 1 46 := ⟨zo_27 (by decide +kernel), rfl⟩
theorem dX12_doesClash_46 : Dc mX12_doesClash 46 (.imul) 1 47 := ⟨zo_104 (by decide +kernel), rfl⟩
theorem dX12_doesClash_47 : Dc mX12_doesClash 47 (.iload_n 3) 1 48 := ⟨zo_29 (by decide +kernel), rfl⟩
theorem dX12_doesClash_48 : Dc mX12_doesClash 48 (.iadd) 1 49 := ⟨zo_96 (by decide +kernel), rfl⟩
theorem dX12_doesClash_49 : Dc mX12_doesClash 49 (.iaload) 1 50 := ⟨zo_46 (by decide +kernel), rfl⟩
theorem dX12_doesClash_50 : Dc mX12_doesClash 50 (.iload 4) 2 52 := ⟨zo_21 (by decide +kernel), rfl⟩
theorem dX12_doesClash_52 : Dc mX12_doesClash 52 (.if_icmp .eq 7) 3 55 := ⟨zo_159 (w := 0) (x := 7) (by decide +kernel), rfl⟩
theorem dX12_doesClash_55 : Dc mX12_doesClash 55 (.iconst 1) 1 56 := ⟨zo_4 (by decide +kernel), rfl⟩
theorem dX12_doesClash_56 : Dc mX12_doesClash 56 (.goto 4) 3 59 := ⟨zo_167 (w := 0) (x := 4) (by decide +kernel), rfl⟩
theorem dX12_doesClash_59 : Dc mX12_doesClash 59 (.iconst 0) 1 60 := ⟨zo_3 (by decide +kernel), rfl⟩
theorem dX12_doesClash_60 : Dc mX12_doesClash 60 (.ireturn) 1 61 := ⟨zo_172 (by decide +kernel), rfl⟩
theorem dX12_clashesOf_0 : Dc mX12_clashesOf 0 (.iconst 0) 1 1 := ⟨zo_3 (by decide +kernel), rfl⟩
theorem dX12_clashesOf_1 : Dc mX12_clashesOf 1 (.istore_n 3) 1 2 := ⟨zo_62 (by decide +kernel), rfl⟩
theorem dX12_clashesOf_2 : Dc mX12_clashesOf 2 (.iconst 0) 1 3 := ⟨zo_3 (by decide +kernel), rfl⟩
theorem dX12_clashesOf_3 : Dc mX12_clashesOf 3 (.istore 4) 2 5 := ⟨zo_54 (by decide +kernel), rfl⟩
theorem dX12_clashesOf_5 : Dc mX12_clashesOf 5 (.iload 4) 2 7 := ⟨zo_21 (by decide +kernel), rfl⟩
theorem dX12_clashesOf_7 : Dc mX12_clashesOf 7 (.aload_n 0) 1 8 := ⟨zo_42 (by decide +kernel), rfl⟩
theorem dX12_clashesOf_8 : Dc mX12_clashesOf 8 (.getfield 13) 3 11 := ⟨zo_180 (w := 0) (x := 13) (by decide +kernel), rfl⟩
theorem dX12_clashesOf_11 : Dc mX12_clashesOf 11 (.iconst 0) 1 12 := ⟨zo_3 (by decide +kernel), rfl⟩
theorem dX12_clashesOf_12 : Dc mX12_clashesOf 12 (.iaload) 1 13 := ⟨zo_46 (by decide +kernel), rfl⟩
theorem dX12_clashesOf_13 : Dc mX12_clashesOf 13 (.if_icmp .ge 28) 3 16 := ⟨zo_162 (w := 0) (x := 28) (by decide +kernel), rfl⟩
theorem dX12_clashesOf_16 : Dc mX12_clashesOf 16 (.iload_n 3) 1 17 := ⟨zo_29 (by decide +kernel), rfl⟩
theorem dX12_clashesOf_17 : Dc mX12_clashesOf 17 (.aload_n 0) 1 18 := ⟨zo_42 (by decide +kernel), rfl⟩
theorem dX12_clashesOf_18 : Dc mX12_clashesOf 18 (.iload_n 1) 1 19 := ⟨zo_27 (by decide +kernel), rfl⟩
theorem dX12_clashesOf_19 : Dc mX12_clashesOf 19 (.iload_n 2) 1 20 := ⟨zo_28 (by decide +kernel), rfl⟩
theorem dX12_clashesOf_20 : Dc mX12_clashesOf 20 (.iload 4) 2 22 := ⟨zo_21 (by decide +kernel), rfl⟩
theorem dX12_clashesOf_22 : Dc mX12_clashesOf 22 (.invokevirtual 381) 3 25 := ⟨zo_182 (w := 1) (x := 125) (by decide +kernel), rfl⟩
theorem dX12_clashesOf_25 : Dc mX12_clashesOf 25 (.ifCond .eq 7) 3 28 := ⟨zo_153 (w := 0) (x := 7) (by decide +kernel), rfl⟩
theorem dX12_clashesOf_28 : Dc mX12_clashesOf 28 (.iconst 1) 1 29 := ⟨zo_4 (by decide +kernel), rfl⟩
theorem dX12_clashesOf_29 : Dc mX12_clashesOf 29 (.goto 4) 3 32 := ⟨zo_167 (w := 0) (x := 4) (by decide +kernel), rfl⟩
theorem dX12_clashesOf_32 : Dc mX12_clashesOf 32 (.iconst 0) 1 33 := ⟨zo_3 (by decide +kernel), rfl⟩
theorem dX12_clashesOf_33 : Dc mX12_clashesOf 33 (.iadd) 1 34 := ⟨zo_96 (by decide +kernel), rfl⟩
theorem dX12_clashesOf_34 : Dc mX12_clashesOf 34 (.istore_n 3) 1 35 := ⟨zo_62 (by decide +kernel), rfl⟩
theorem dX12_clashesOf_35 : Dc mX12_clashesOf 35 (.iinc 4 1) 3 38 := ⟨zo_iinc (x := 1) (by decide +kernel), rfl⟩
theorem dX12_clashesOf_38 : Dc mX12_clashesOf 38 (.goto (-33)) 3 41 := ⟨zo_167 (w := 255) (x := 223) (by decide +kernel), rfl⟩
theorem dX12_clashesOf_41 : Dc mX12_clashesOf 41 (.iload_n 3) 1 42 := ⟨zo_29 (by decide +kernel), rfl⟩
theorem dX12_clashesOf_42 : Dc mX12_clashesOf 42 (.ireturn) 1 43 := ⟨zo_172 (by decide +kernel), rfl⟩
theorem dX12_clashesAll_0 : Dc mX12_clashesAll 0 (.iconst 0) 1 1 := ⟨zo_3 (by decide +kernel), rfl⟩
theorem dX12_clashesAll_1 : Dc mX12_clashesAll 1 (.istore_n 2) 1 2 := ⟨zo_61 (by decide +kernel), rfl⟩
theorem dX12_clashesAll_2 : Dc mX12_clashesAll 2 (.iconst 0) 1 3 := ⟨zo_3 (by decide +kernel), rfl⟩
theorem dX12_clashesAll_3 : Dc mX12_clashesAll 3 (.istore_n 3) 1 4 := ⟨zo_62 (by decide +kernel), rfl⟩
theorem dX12_clashesAll_4 : Dc mX12_clashesAll 4 (.iload_n 3) 1 5 := ⟨zo_29 (by decide +kernel), rfl⟩
theorem dX12_clashesAll_5 : Dc mX12_clashesAll 5 (.aload_n 0) 1 6 := ⟨zo_42 (by decide +kernel), rfl⟩
theorem dX12_clashesAll_6 : Dc mX12_clashesAll 6 (.getfield 13) 3 9 := ⟨zo_180 (w := 0) (x := 13) (by decide +kernel), rfl⟩
theorem dX12_clashesAll_9 : Dc mX12_clashesAll 9 (.iconst 1) 1 10 := ⟨zo_4 (by decide +kernel), rfl⟩
theorem dX12_clashesAll_10 : Dc mX12_clashesAll 10 (.iaload) 1 11 := ⟨zo_46 (by decide +kernel), rfl⟩
theorem dX12_clashesAll_11 : Dc mX12_clashesAll 11 (.if_icmp .ge 18) 3 14 := ⟨zo_162 (w := 0) (x := 18) (by decide +kernel), rfl⟩
theorem dX12_clashesAll_14 : Dc mX12_clashesAll 14 (.iload_n 2) 1 15 := ⟨zo_28 (by decide +kernel), rfl⟩
theorem dX12_clashesAll_15 : Dc mX12_clashesAll 15 (.aload_n 0) 1 16 := ⟨zo_42 (by decide +kernel), rfl⟩
theorem dX12_clashesAll_16 : Dc mX12_clashesAll 16 (.iload_n 1) 1 17 := ⟨zo_27 (by decide +kernel), rfl⟩
theorem dX12_clashesAll_17 : Dc mX12_clashesAll 17 (.iload_n 3) 1 18 := ⟨zo_29 (by decide +kernel), rfl⟩
theorem dX12_clashesAll_18 : Dc mX12_clashesAll 18 (.invokevirtual 385) 3 21 := ⟨zo_182 (w := 1) (x := 129) (by decide +kernel), rfl⟩
theorem dX12_clashesAll_21 : Dc mX12_clashesAll 21 (.iadd) 1 22 := ⟨zo_96 (by decide +kernel), rfl⟩
theorem dX12_clashesAll_22 : Dc mX12_clashesAll 22 (.istore_n 2) 1 23 := ⟨zo_61 (by decide +kernel), rfl⟩
theorem dX12_clashesAll_23 : Dc mX12_clashesAll 23 (.iinc 3 1) 3 26 := ⟨zo_iinc (x := 1) (by decide +kernel), rfl⟩
theorem dX12_clashesAll_26 : Dc mX12_clashesAll 26 (.goto (-22)) 3 29 := ⟨zo_167 (w := 255) (x := 234) (by decide +kernel), rfl⟩
theorem dX12_clashesAll_29 : Dc mX12_clashesAll 29 (.iload_n 2) 1 30 := ⟨zo_28 (by decide +kernel), rfl⟩
theorem dX12_clashesAll_30 : Dc mX12_clashesAll 30 (.ireturn) 1 31 := ⟨zo_172 (by decide +kernel), rfl⟩
theorem dX12_callsShot_0 : Dc mX12_callsShot 0 (.iconst 0) 1 1 := ⟨zo_3 (by decide +kernel), rfl⟩
theorem dX12_callsShot_1 : Dc mX12_callsShot 1 (.istore_n 3) 1 2 := ⟨zo_62 (by decide +kernel), rfl⟩
theorem dX12_callsShot_2 : Dc mX12_callsShot 2 (.iconst 0) 1 3 := ⟨zo_3 (by decide +kernel), rfl⟩
theorem dX12_callsShot_3 : Dc mX12_callsShot 3 (.istore 4) 2 5 := ⟨zo_54 (by decide +kernel), rfl⟩
theorem dX12_callsShot_5 : Dc mX12_callsShot 5 (.iconst 0) 1 6 := ⟨zo_3 (by decide +kernel), rfl⟩
theorem dX12_callsShot_6 : Dc mX12_callsShot 6 (.istore 5) 2 8 := ⟨zo_54 (by decide +kernel), rfl⟩
theorem dX12_callsShot_8 : Dc mX12_callsShot 8 (.iload 5) 2 10 := ⟨zo_21 (by decide +kernel), rfl⟩
theorem dX12_callsShot_10 : Dc mX12_callsShot 10 (.aload_n 0) 1 11 := ⟨zo_42 (by decide +kernel), rfl⟩
theorem dX12_callsShot_11 : Dc mX12_callsShot 11 (.getfield 13) 3 14 := ⟨zo_180 (w := 0) (x := 13) (by decide +kernel), rfl⟩
theorem dX12_callsShot_14 : Dc mX12_callsShot 14 (.iconst 0) 1 15 := ⟨zo_3 (by decide +kernel), rfl⟩
theorem dX12_callsShot_15 : Dc mX12_callsShot 15 (.iaload) 1 16 := ⟨zo_46 (by decide +kernel), rfl⟩
theorem dX12_callsShot_16 : Dc mX12_callsShot 16 (.if_icmp .ge 46) 3 19 := ⟨zo_162 (w := 0) (x := 46) (by decide +kernel), rfl⟩
theorem dX12_callsShot_19 : Dc mX12_callsShot 19 (.iload_n 3) 1 20 := ⟨zo_29 (by decide +kernel), rfl⟩
theorem dX12_callsShot_20 : Dc mX12_callsShot 20 (.aload_n 0) 1 21 := ⟨zo_42 (by decide +kernel), rfl⟩
theorem dX12_callsShot_21 : Dc mX12_callsShot 21 (.getfield 105) 3 24 := ⟨zo_180 (w := 0) (x := 105) (by decide +kernel), rfl⟩
theorem dX12_callsShot_24 : Dc mX12_callsShot 24 (.bipush 6) 2 26 := ⟨zo_16 (w := 6) (by decide +kernel), rfl⟩
theorem dX12_callsShot_26 : Dc mX12_callsShot 26 (.iload_n 1) 1 27 := ⟨zo_27 (by decide +kernel), rfl⟩
theorem dX12_callsShot_27 : Dc mX12_callsShot 27 (.imul) 1 28 := ⟨zo_104 (by decide +kernel), rfl⟩
theorem dX12_callsShot_28 : Dc mX12_callsShot 28 (.iload 5) 2 30 := ⟨zo_21 (by decide +kernel), rfl⟩
theorem dX12_callsShot_30 : Dc mX12_callsShot 30 (.iadd) 1 31 := ⟨zo_96 (by decide +kernel), rfl⟩
theorem dX12_callsShot_31 : Dc mX12_callsShot 31 (.iaload) 1 32 := ⟨zo_46 (by decide +kernel), rfl⟩
theorem dX12_callsShot_32 : Dc mX12_callsShot 32 (.iadd) 1 33 := ⟨zo_96 (by decide +kernel), rfl⟩
theorem dX12_callsShot_33 : Dc mX12_callsShot 33 (.istore_n 3) 1 34 := ⟨zo_62 (by decide +kernel), rfl⟩
theorem dX12_callsShot_34 : Dc mX12_callsShot 34 (.iload 4) 2 36 := ⟨zo_21 (by decide +kernel), rfl⟩
theorem dX12_callsShot_36 : Dc mX12_callsShot 36 (.aload_n 0) 1 37 := ⟨zo_42 (by decide +kernel), rfl⟩
theorem dX12_callsShot_37 : Dc mX12_callsShot 37 (.iload_n 1) 1 38 := ⟨zo_27 (by decide +kernel), rfl⟩
theorem dX12_callsShot_38 : Dc mX12_callsShot 38 (.iload_n 2) 1 39 := ⟨zo_28 (by decide +kernel), rfl⟩
theorem dX12_callsShot_39 : Dc mX12_callsShot 39 (.iload 5) 2 41 := ⟨zo_21 (by decide +kernel), rfl⟩
theorem dX12_callsShot_41 : Dc mX12_callsShot 41 (.invokevirtual 371) 3 44 := ⟨zo_182 (w := 1) (x := 115) (by decide +kernel), rfl⟩
theorem dX12_callsShot_44 : Dc mX12_callsShot 44 (.iconst (-1)) 1 45 := ⟨zo_2 (by decide +kernel), rfl⟩
theorem dX12_callsShot_45 : Dc mX12_callsShot 45 (.if_icmp .eq 7) 3 48 := ⟨zo_159 (w := 0) (x := 7) (by decide +kernel), rfl⟩
theorem dX12_callsShot_48 : Dc mX12_callsShot 48 (.iconst 1) 1 49 := ⟨zo_4 (by decide +kernel), rfl⟩
theorem dX12_callsShot_49 : Dc mX12_callsShot 49 (.goto 4) 3 52 := ⟨zo_167 (w := 0) (x := 4) (by decide +kernel), rfl⟩
theorem dX12_callsShot_52 : Dc mX12_callsShot 52 (.iconst 0) 1 53 := ⟨zo_3 (by decide +kernel), rfl⟩
theorem dX12_callsShot_53 : Dc mX12_callsShot 53 (.iadd) 1 54 := ⟨zo_96 (by decide +kernel), rfl⟩
theorem dX12_callsShot_54 : Dc mX12_callsShot 54 (.istore 4) 2 56 := ⟨zo_54 (by decide +kernel), rfl⟩
theorem dX12_callsShot_56 : Dc mX12_callsShot 56 (.iinc 5 1) 3 59 := ⟨zo_iinc (x := 1) (by decide +kernel), rfl⟩
theorem dX12_callsShot_59 : Dc mX12_callsShot 59 (.goto (-51)) 3 62 := ⟨zo_167 (w := 255) (x := 205) (by decide +kernel), rfl⟩
theorem dX12_callsShot_62 : Dc mX12_callsShot 62 (.aload_n 0) 1 63 := ⟨zo_42 (by decide +kernel), rfl⟩
theorem dX12_callsShot_63 : Dc mX12_callsShot 63 (.getfield 77) 3 66 := ⟨zo_180 (w := 0) (x := 77) (by decide +kernel), rfl⟩
theorem dX12_callsShot_66 : Dc mX12_callsShot 66 (.iconst 0) 1 67 := ⟨zo_3 (by decide +kernel), rfl⟩
theorem dX12_callsShot_67 : Dc mX12_callsShot 67 (.lconst 0) 1 68 := ⟨zo_9 (by decide +kernel), rfl⟩
theorem dX12_callsShot_68 : Dc mX12_callsShot 68 (.lastore) 1 69 := ⟨zo_80 (by decide +kernel), rfl⟩
theorem dX12_callsShot_69 : Dc mX12_callsShot 69 (.aload_n 0) 1 70 := ⟨zo_42 (by decide +kernel), rfl⟩
theorem dX12_callsShot_70 : Dc mX12_callsShot 70 (.getfield 77) 3 73 := ⟨zo_180 (w := 0) (x := 77) (by decide +kernel), rfl⟩
theorem dX12_callsShot_73 : Dc mX12_callsShot 73 (.iconst 1) 1 74 := ⟨zo_4 (by decide +kernel), rfl⟩
theorem dX12_callsShot_74 : Dc mX12_callsShot 74 (.iload_n 3) 1 75 := ⟨zo_29 (by decide +kernel), rfl⟩
theorem dX12_callsShot_75 : Dc mX12_callsShot 75 (.i2l) 1 76 := ⟨zo_133 (by decide +kernel), rfl⟩
theorem dX12_callsShot_76 : Dc mX12_callsShot 76 (.lastore) 1 77 := ⟨zo_80 (by decide +kernel), rfl⟩
theorem dX12_callsShot_77 : Dc mX12_callsShot 77 (.aload_n 0) 1 78 := ⟨zo_42 (by decide +kernel), rfl⟩
theorem dX12_callsShot_78 : Dc mX12_callsShot 78 (.getfield 77) 3 81 := ⟨zo_180 (w := 0) (x := 77) (by decide +kernel), rfl⟩
theorem dX12_callsShot_81 : Dc mX12_callsShot 81 (.iconst 2) 1 82 := ⟨zo_5 (by decide +kernel), rfl⟩
theorem dX12_callsShot_82 : Dc mX12_callsShot 82 (.aload_n 0) 1 83 := ⟨zo_42 (by decide +kernel), rfl⟩
theorem dX12_callsShot_83 : Dc mX12_callsShot 83 (.iload_n 1) 1 84 := ⟨zo_27 (by decide +kernel), rfl⟩
theorem dX12_callsShot_84 : Dc mX12_callsShot 84 (.iload_n 2) 1 85 := ⟨zo_28 (by decide +kernel), rfl⟩
theorem dX12_callsShot_85 : Dc mX12_callsShot 85 (.invokevirtual 385) 3 88 := ⟨zo_182 (w := 1) (x := 129) (by decide +kernel), rfl⟩
theorem dX12_callsShot_88 : Dc mX12_callsShot 88 (.i2l) 1 89 := ⟨zo_133 (by decide +kernel), rfl⟩
theorem dX12_callsShot_89 : Dc mX12_callsShot 89 (.lastore) 1 90 := ⟨zo_80 (by decide +kernel), rfl⟩
theorem dX12_callsShot_90 : Dc mX12_callsShot 90 (.aload_n 0) 1 91 := ⟨zo_42 (by decide +kernel), rfl⟩
theorem dX12_callsShot_91 : Dc mX12_callsShot 91 (.getfield 77) 3 94 := ⟨zo_180 (w := 0) (x := 77) (by decide +kernel), rfl⟩
theorem dX12_callsShot_94 : Dc mX12_callsShot 94 (.iconst 3) 1 95 := ⟨zo_6 (by decide +kernel), rfl⟩
theorem dX12_callsShot_95 : Dc mX12_callsShot 95 (.iload 4) 2 97 := ⟨zo_21 (by decide +kernel), rfl⟩
theorem dX12_callsShot_97 : Dc mX12_callsShot 97 (.i2l) 1 98 := ⟨zo_133 (by decide +kernel), rfl⟩
theorem dX12_callsShot_98 : Dc mX12_callsShot 98 (.lastore) 1 99 := ⟨zo_80 (by decide +kernel), rfl⟩
theorem dX12_callsShot_99 : Dc mX12_callsShot 99 (.aload_n 0) 1 100 := ⟨zo_42 (by decide +kernel), rfl⟩
theorem dX12_callsShot_100 : Dc mX12_callsShot 100 (.getfield 77) 3 103 := ⟨zo_180 (w := 0) (x := 77) (by decide +kernel), rfl⟩
theorem dX12_callsShot_103 : Dc mX12_callsShot 103 (.iconst 4) 1 104 := ⟨zo_7 (by decide +kernel), rfl⟩
theorem dX12_callsShot_104 : Dc mX12_callsShot 104 (.aload_n 0) 1 105 := ⟨zo_42 (by decide +kernel), rfl⟩
theorem dX12_callsShot_105 : Dc mX12_callsShot 105 (.getfield 28) 3 108 := ⟨zo_180 (w := 0) (x := 28) (by decide +kernel), rfl⟩
theorem dX12_callsShot_108 : Dc mX12_callsShot 108 (.iload_n 2) 1 109 := ⟨zo_28 (by decide +kernel), rfl⟩
theorem dX12_callsShot_109 : Dc mX12_callsShot 109 (.iaload) 1 110 := ⟨zo_46 (by decide +kernel), rfl⟩
theorem dX12_callsShot_110 : Dc mX12_callsShot 110 (.i2l) 1 111 := ⟨zo_133 (by decide +kernel), rfl⟩
theorem dX12_callsShot_111 : Dc mX12_callsShot 111 (.lastore) 1 112 := ⟨zo_80 (by decide +kernel), rfl⟩
theorem dX12_callsShot_112 : Dc mX12_callsShot 112 (.aload_n 0) 1 113 := ⟨zo_42 (by decide +kernel), rfl⟩
theorem dX12_callsShot_113 : Dc mX12_callsShot 113 (.getfield 77) 3 116 := ⟨zo_180 (w := 0) (x := 77) (by decide +kernel), rfl⟩
theorem dX12_callsShot_116 : Dc mX12_callsShot 116 (.iconst 5) 1 117 := ⟨zo_8 (by decide +kernel), rfl⟩
theorem dX12_callsShot_117 : Dc mX12_callsShot 117 (.aload_n 0) 1 118 := ⟨zo_42 (by decide +kernel), rfl⟩
theorem dX12_callsShot_118 : Dc mX12_callsShot 118 (.getfield 84) 3 121 := ⟨zo_180 (w := 0) (x := 84) (by decide +kernel), rfl⟩
theorem dX12_callsShot_121 : Dc mX12_callsShot 121 (.iload_n 1) 1 122 := ⟨zo_27 (by decide +kernel), rfl⟩
theorem dX12_callsShot_122 : Dc mX12_callsShot 122 (.iaload) 1 123 := ⟨zo_46 (by decide +kernel), rfl⟩
theorem dX12_callsShot_123 : Dc mX12_callsShot 123 (.i2l) 1 124 := ⟨zo_133 (by decide +kernel), rfl⟩
theorem dX12_callsShot_124 : Dc mX12_callsShot 124 (.lastore) 1 125 := ⟨zo_80 (by decide +kernel), rfl⟩
theorem dX12_callsShot_125 : Dc mX12_callsShot 125 (.aload_n 0) 1 126 := ⟨zo_42 (by decide +kernel), rfl⟩
theorem dX12_callsShot_126 : Dc mX12_callsShot 126 (.getfield 77) 3 129 := ⟨zo_180 (w := 0) (x := 77) (by decide +kernel), rfl⟩
theorem dX12_callsShot_129 : Dc mX12_callsShot 129 (.bipush 6) 2 131 := ⟨zo_16 (w := 6) (by decide +kernel), rfl⟩
theorem dX12_callsShot_131 : Dc mX12_callsShot 131 (.aload_n 0) 1 132 := ⟨zo_42 (by decide +kernel), rfl⟩
theorem dX12_callsShot_132 : Dc mX12_callsShot 132 (.getfield 96) 3 135 := ⟨zo_180 (w := 0) (x := 96) (by decide +kernel), rfl⟩
theorem dX12_callsShot_135 : Dc mX12_callsShot 135 (.iload_n 1) 1 136 := ⟨zo_27 (by decide +kernel), rfl⟩
theorem dX12_callsShot_136 : Dc mX12_callsShot 136 (.iaload) 1 137 := ⟨zo_46 (by decide +kernel), rfl⟩
theorem dX12_callsShot_137 : Dc mX12_callsShot 137 (.i2l) 1 138 := ⟨zo_133 (by decide +kernel), rfl⟩
theorem dX12_callsShot_138 : Dc mX12_callsShot 138 (.lastore) 1 139 := ⟨zo_80 (by decide +kernel), rfl⟩
theorem dX12_callsShot_139 : Dc mX12_callsShot 139 (.return_) 1 140 := ⟨zo_177 (by decide +kernel), rfl⟩
theorem dX12_isSo_0 : Dc mX12_isSo 0 (.aload_n 0) 1 1 := ⟨zo_42 (by decide +kernel), rfl⟩
theorem dX12_isSo_1 : Dc mX12_isSo 1 (.iload_n 1) 1 2 := ⟨zo_27 (by decide +kernel), rfl⟩
theorem dX12_isSo_2 : Dc mX12_isSo 2 (.invokevirtual 388) 3 5 := ⟨zo_182 (w := 1) (x := 132) (by decide +kernel), rfl⟩
theorem dX12_isSo_5 : Dc mX12_isSo 5 (.ifCond .eq 30) 3 8 := ⟨zo_153 (w := 0) (x := 30) (by decide +kernel), rfl⟩
theorem dX12_isSo_8 : Dc mX12_isSo 8 (.aload_n 0) 1 9 := ⟨zo_42 (by decide +kernel), rfl⟩
theorem dX12_isSo_9 : Dc mX12_isSo 9 (.iload_n 1) 1 10 := ⟨zo_27 (by decide +kernel), rfl⟩
theorem dX12_isSo_10 : Dc mX12_isSo 10 (.invokevirtual 391) 3 13 := ⟨zo_182 (w := 1) (x := 135) (by decide +kernel), rfl⟩
theorem dX12_isSo_13 : Dc mX12_isSo 13 (.ifCond .eq 22) 3 16 := ⟨zo_153 (w := 0) (x := 22) (by decide +kernel), rfl⟩
theorem dX12_isSo_16 : Dc mX12_isSo 16 (.aload_n 0) 1 17 := ⟨zo_42 (by decide +kernel), rfl⟩
theorem dX12_isSo_17 : Dc mX12_isSo 17 (.getfield 81) 3 20 := ⟨zo_180 (w := 0) (x := 81) (by decide +kernel), rfl⟩
theorem dX12_isSo_20 : Dc mX12_isSo 20 (.iconst 0) 1 21 := ⟨zo_3 (by decide +kernel), rfl⟩
theorem dX12_isSo_21 : Dc mX12_isSo 21 (.laload) 1 22 := ⟨zo_47 (by decide +kernel), rfl⟩
theorem dX12_isSo_22 : Dc mX12_isSo 22 (.lconst 0) 1 23 := ⟨zo_9 (by decide +kernel), rfl⟩
theorem dX12_isSo_23 : Dc mX12_isSo 23 (.lcmp) 1 24 := ⟨zo_148 (by decide +kernel), rfl⟩
theorem dX12_isSo_24 : Dc mX12_isSo 24 (.ifCond .eq 7) 3 27 := ⟨zo_153 (w := 0) (x := 7) (by decide +kernel), rfl⟩
theorem dX12_isSo_27 : Dc mX12_isSo 27 (.iconst 1) 1 28 := ⟨zo_4 (by decide +kernel), rfl⟩
theorem dX12_isSo_28 : Dc mX12_isSo 28 (.goto 8) 3 31 := ⟨zo_167 (w := 0) (x := 8) (by decide +kernel), rfl⟩
theorem dX12_isSo_31 : Dc mX12_isSo 31 (.iconst 0) 1 32 := ⟨zo_3 (by decide +kernel), rfl⟩
theorem dX12_isSo_32 : Dc mX12_isSo 32 (.goto 4) 3 35 := ⟨zo_167 (w := 0) (x := 4) (by decide +kernel), rfl⟩
theorem dX12_isSo_35 : Dc mX12_isSo 35 (.iload_n 2) 1 36 := ⟨zo_28 (by decide +kernel), rfl⟩
theorem dX12_isSo_36 : Dc mX12_isSo 36 (.ireturn) 1 37 := ⟨zo_172 (by decide +kernel), rfl⟩
theorem dX12_isCold_0 : Dc mX12_isCold 0 (.iconst 0) 1 1 := ⟨zo_3 (by decide +kernel), rfl⟩
theorem dX12_isCold_1 : Dc mX12_isCold 1 (.istore_n 2) 1 2 := ⟨zo_61 (by decide +kernel), rfl⟩
theorem dX12_isCold_2 : Dc mX12_isCold 2 (.iload_n 2) 1 3 := ⟨zo_28 (by decide +kernel), rfl⟩
theorem dX12_isCold_3 : Dc mX12_isCold 3 (.aload_n 0) 1 4 := ⟨zo_42 (by decide +kernel), rfl⟩
theorem dX12_isCold_4 : Dc mX12_isCold 4 (.getfield 13) 3 7 := ⟨zo_180 (w := 0) (x := 13) (by decide +kernel), rfl⟩
theorem dX12_isCold_7 : Dc mX12_isCold 7 (.iconst 5) 1 8 := ⟨zo_8 (by decide +kernel), rfl⟩
theorem dX12_isCold_8 : Dc mX12_isCold 8 (.iaload) 1 9 := ⟨zo_46 (by decide +kernel), rfl⟩
theorem dX12_isCold_9 : Dc mX12_isCold 9 (.if_icmp .ge 31) 3 12 := ⟨zo_162 (w := 0) (x := 31) (by decide +kernel), rfl⟩
theorem dX12_isCold_12 : Dc mX12_isCold 12 (.iload_n 1) 1 13 := ⟨zo_27 (by decide +kernel), rfl⟩
theorem dX12_isCold_13 : Dc mX12_isCold 13 (.aload_n 0) 1 14 := ⟨zo_42 (by decide +kernel), rfl⟩
theorem dX12_isCold_14 : Dc mX12_isCold 14 (.getfield 55) 3 17 := ⟨zo_180 (w := 0) (x := 55) (by decide +kernel), rfl⟩
theorem dX12_isCold_17 : Dc mX12_isCold 17 (.iload_n 2) 1 18 := ⟨zo_28 (by decide +kernel), rfl⟩
theorem dX12_isCold_18 : Dc mX12_isCold 18 (.iaload) 1 19 := ⟨zo_46 (by decide +kernel), rfl⟩
theorem dX12_isCold_19 : Dc mX12_isCold 19 (.if_icmp .lt 15) 3 22 := ⟨zo_161 (w := 0) (x := 15) (by decide +kernel), rfl⟩
theorem dX12_isCold_22 : Dc mX12_isCold 22 (.iload_n 1) 1 23 := ⟨zo_27 (by decide +kernel), rfl⟩
theorem dX12_isCold_23 : Dc mX12_isCold 23 (.aload_n 0) 1 24 := ⟨zo_42 (by decide +kernel), rfl⟩
theorem dX12_isCold_24 : Dc mX12_isCold 24 (.getfield 58) 3 27 := ⟨zo_180 (w := 0) (x := 58) (by decide +kernel), rfl⟩
theorem dX12_isCold_27 : Dc mX12_isCold 27 (.iload_n 2) 1 28 := ⟨zo_28 (by decide +kernel), rfl⟩
theorem dX12_isCold_28 : Dc mX12_isCold 28 (.iaload) 1 29 := ⟨zo_46 (by decide +kernel), rfl⟩
theorem dX12_isCold_29 : Dc mX12_isCold 29 (.if_icmp .gt 5) 3 32 := ⟨zo_163 (w := 0) (x := 5) (by decide +kernel), rfl⟩
theorem dX12_isCold_32 : Dc mX12_isCold 32 (.iconst 1) 1 33 := ⟨zo_4 (by decide +kernel), rfl⟩
theorem dX12_isCold_33 : Dc mX12_isCold 33 (.ireturn) 1 34 := ⟨zo_172 (by decide +kernel), rfl⟩
theorem dX12_isCold_34 : Dc mX12_isCold 34 (.iinc 2 1) 3 37 := ⟨zo_iinc (x := 1) (by decide +kernel), rfl⟩
theorem dX12_isCold_37 : Dc mX12_isCold 37 (.goto (-35)) 3 40 := ⟨zo_167 (w := 255) (x := 221) (by decide +kernel), rfl⟩
theorem dX12_isCold_40 : Dc mX12_isCold 40 (.iconst 0) 1 41 := ⟨zo_3 (by decide +kernel), rfl⟩
theorem dX12_isCold_41 : Dc mX12_isCold 41 (.ireturn) 1 42 := ⟨zo_172 (by decide +kernel), rfl⟩
theorem dX12_isAway_0 : Dc mX12_isAway 0 (.aload_n 0) 1 1 := ⟨zo_42 (by decide +kernel), rfl⟩
theorem dX12_isAway_1 : Dc mX12_isAway 1 (.getfield 394) 3 4 := ⟨zo_180 (w := 1) (x := 138) (by decide +kernel), rfl⟩
theorem dX12_isAway_4 : Dc mX12_isAway 4 (.ifCond .eq 5) 3 7 := ⟨zo_153 (w := 0) (x := 5) (by decide +kernel), rfl⟩
theorem dX12_isAway_7 : Dc mX12_isAway 7 (.iconst 1) 1 8 := ⟨zo_4 (by decide +kernel), rfl⟩
theorem dX12_isAway_8 : Dc mX12_isAway 8 (.ireturn) 1 9 := ⟨zo_172 (by decide +kernel), rfl⟩
theorem dX12_isAway_9 : Dc mX12_isAway 9 (.aload_n 0) 1 10 := ⟨zo_42 (by decide +kernel), rfl⟩
theorem dX12_isAway_10 : Dc mX12_isAway 10 (.getfield 361) 3 13 := ⟨zo_180 (w := 1) (x := 105) (by decide +kernel), rfl⟩
theorem dX12_isAway_13 : Dc mX12_isAway 13 (.iconst 1) 1 14 := ⟨zo_4 (by decide +kernel), rfl⟩
theorem dX12_isAway_14 : Dc mX12_isAway 14 (.if_icmp .ne 5) 3 17 := ⟨zo_160 (w := 0) (x := 5) (by decide +kernel), rfl⟩
theorem dX12_isAway_17 : Dc mX12_isAway 17 (.iconst 0) 1 18 := ⟨zo_3 (by decide +kernel), rfl⟩
theorem dX12_isAway_18 : Dc mX12_isAway 18 (.ireturn) 1 19 := ⟨zo_172 (by decide +kernel), rfl⟩
theorem dX12_isAway_19 : Dc mX12_isAway 19 (.aload_n 0) 1 20 := ⟨zo_42 (by decide +kernel), rfl⟩
theorem dX12_isAway_20 : Dc mX12_isAway 20 (.aload_n 0) 1 21 := ⟨zo_42 (by decide +kernel), rfl⟩
theorem dX12_isAway_21 : Dc mX12_isAway 21 (.getfield 84) 3 24 := ⟨zo_180 (w := 0) (x := 84) (by decide +kernel), rfl⟩
theorem dX12_isAway_24 : Dc mX12_isAway 24 (.iload_n 1) 1 25 := ⟨zo_27 (by decide +kernel), rfl⟩
theorem dX12_isAway_25 : Dc mX12_isAway 25 (.iaload) 1 26 := ⟨zo_46 (by decide +kernel), rfl⟩
theorem dX12_isAway_26 : Dc mX12_isAway 26 (.invokevirtual 397) 3 29 := ⟨zo_182 (w := 1) (x := 141) (by decide +kernel), rfl⟩
theorem dX12_isAway_29 : Dc mX12_isAway 29 (.ifCond .eq 5) 3 32 := ⟨zo_153 (w := 0) (x := 5) (by decide +kernel), rfl⟩
theorem dX12_isAway_32 : Dc mX12_isAway 32 (.iconst 1) 1 33 := ⟨zo_4 (by decide +kernel), rfl⟩
theorem dX12_isAway_33 : Dc mX12_isAway 33 (.ireturn) 1 34 := ⟨zo_172 (by decide +kernel), rfl⟩
theorem dX12_isAway_34 : Dc mX12_isAway 34 (.aload_n 0) 1 35 := ⟨zo_42 (by decide +kernel), rfl⟩
theorem dX12_isAway_35 : Dc mX12_isAway 35 (.getfield 13) 3 38 := ⟨zo_180 (w := 0) (x := 13) (by decide +kernel), rfl⟩
theorem dX12_isAway_38 : Dc mX12_isAway 38 (.bipush 6) 2 40 := ⟨zo_16 (w := 6) (by decide +kernel), rfl⟩
theorem dX12_isAway_40 : Dc mX12_isAway 40 (.iaload) 1 41 := ⟨zo_46 (by decide +kernel), rfl⟩
theorem dX12_isAway_41 : Dc mX12_isAway 41 (.istore_n 3) 1 42 := ⟨zo_62 (by decide +kernel), rfl⟩
theorem dX12_isAway_42 : Dc mX12_isAway 42 (.iload_n 2) 1 43 := ⟨zo_28 (by decide +kernel), rfl⟩
theorem dX12_isAway_43 : Dc mX12_isAway 43 (.ifCond .eq 13) 3 46 := ⟨zo_153 (w := 0) (x := 13) (by decide +kernel), rfl⟩
theorem dX12_isAway_46 : Dc mX12_isAway 46 (.iload_n 3) 1 47 := ⟨zo_29 (by decide +kernel), rfl⟩
theorem dX12_isAway_47 : Dc mX12_isAway 47 (.ifCond .eq 9) 3 50 := ⟨zo_153 (w := 0) (x := 9) (by decide +kernel), rfl⟩
theorem dX12_isAway_50 : Dc mX12_isAway 50 (.iload_n 3) 1 51 := ⟨zo_29 (by decide +kernel), rfl⟩
theorem dX12_isAway_51 : Dc mX12_isAway 51 (.bipush 100) 2 53 := ⟨zo_16 (w := 100) (by decide +kernel), rfl⟩
theorem dX12_isAway_53 : Dc mX12_isAway 53 (.if_icmp .ne 15) 3 56 := ⟨zo_160 (w := 0) (x := 15) (by decide +kernel), rfl⟩
theorem dX12_isAway_56 : Dc mX12_isAway 56 (.iload_n 3) 1 57 := ⟨zo_29 (by decide +kernel), rfl⟩
theorem dX12_isAway_57 : Dc mX12_isAway 57 (.bipush 50) 2 59 := ⟨zo_16 (w := 50) (by decide +kernel), rfl⟩
theorem dX12_isAway_59 : Dc mX12_isAway 59 (.if_icmp .lt 7) 3 62 := ⟨zo_161 (w := 0) (x := 7) (by decide +kernel), rfl⟩
theorem dX12_isAway_62 : Dc mX12_isAway 62 (.iconst 1) 1 63 := ⟨zo_4 (by decide +kernel), rfl⟩
theorem dX12_isAway_63 : Dc mX12_isAway 63 (.goto 4) 3 66 := ⟨zo_167 (w := 0) (x := 4) (by decide +kernel), rfl⟩
theorem dX12_isAway_66 : Dc mX12_isAway 66 (.iconst 0) 1 67 := ⟨zo_3 (by decide +kernel), rfl⟩
theorem dX12_isAway_67 : Dc mX12_isAway 67 (.ireturn) 1 68 := ⟨zo_172 (by decide +kernel), rfl⟩
theorem dX12_isAway_68 : Dc mX12_isAway 68 (.aload_n 0) 1 69 := ⟨zo_42 (by decide +kernel), rfl⟩
theorem dX12_isAway_69 : Dc mX12_isAway 69 (.getfield 87) 3 72 := ⟨zo_180 (w := 0) (x := 87) (by decide +kernel), rfl⟩
theorem dX12_isAway_72 : Dc mX12_isAway 72 (.iload_n 1) 1 73 := ⟨zo_27 (by decide +kernel), rfl⟩
theorem dX12_isAway_73 : Dc mX12_isAway 73 (.aload_n 0) 1 74 := ⟨zo_42 (by decide +kernel), rfl⟩
theorem dX12_isAway_74 : Dc mX12_isAway 74 (.getfield 87) 3 77 := ⟨zo_180 (w := 0) (x := 87) (by decide +kernel), rfl⟩
theorem dX12_isAway_77 : Dc mX12_isAway 77 (.iload_n 1) 1 78 := ⟨zo_27 (by decide +kernel), rfl⟩
theorem dX12_isAway_78 : Dc mX12_isAway 78 (.iaload) 1 79 := ⟨zo_46 (by decide +kernel), rfl⟩
theorem dX12_isAway_79 : Dc mX12_isAway 79 (.ldc_w 400) 3 82 := ⟨zo_19 (w := 1) (x := 144) (by decide +kernel), rfl⟩
theorem dX12_isAway_82 : Dc mX12_isAway 82 (.imul) 1 83 := ⟨zo_104 (by decide +kernel), rfl⟩
theorem dX12_isAway_83 : Dc mX12_isAway 83 (.sipush 12345) 3 86 := ⟨zo_17 (w := 48) (x := 57) (by decide +kernel), rfl⟩
theorem dX12_isAway_86 : Dc mX12_isAway 86 (.iadd) 1 87 := ⟨zo_96 (by decide +kernel), rfl⟩
theorem dX12_isAway_87 : Dc mX12_isAway 87 (.ldc_w 403) 3 90 := ⟨zo_19 (w := 1) (x := 147) (by decide +kernel), rfl⟩
theorem dX12_isAway_90 : Dc mX12_isAway 90 (.iand) 1 91 := ⟨zo_126 (by decide +kernel), rfl⟩
theorem dX12_isAway_91 : Dc mX12_isAway 91 (.iastore) 1 92 := ⟨zo_79 (by decide +kernel), rfl⟩
theorem dX12_isAway_92 : Dc mX12_isAway 92 (.aload_n 0) 1 93 := ⟨zo_42 (by decide +kernel), rfl⟩
theorem dX12_isAway_93 : Dc mX12_isAway 93 (.getfield 87) 3 96 := ⟨zo_180 (w := 0) (x := 87) (by decide +kernel), rfl⟩
theorem dX12_isAway_96 : Dc mX12_isAway 96 (.iload_n 1) 1 97 := ⟨zo_27 (by decide +kernel), rfl⟩
theorem dX12_isAway_97 : Dc mX12_isAway 97 (.iaload) 1 98 := ⟨zo_46 (by decide +kernel), rfl⟩
theorem dX12_isAway_98 : Dc mX12_isAway 98 (.bipush 16) 2 100 := ⟨zo_16 (w := 16) (by decide +kernel), rfl⟩
theorem dX12_isAway_100 : Dc mX12_isAway 100 (.ishr) 1 101 := ⟨zo_122 (by decide +kernel), rfl⟩
theorem dX12_isAway_101 : Dc mX12_isAway 101 (.bipush 100) 2 103 := ⟨zo_16 (w := 100) (by decide +kernel), rfl⟩
theorem dX12_isAway_103 : Dc mX12_isAway 103 (.irem) 1 104 := ⟨zo_112 (by decide +kernel), rfl⟩
theorem dX12_isAway_104 : Dc mX12_isAway 104 (.iload_n 3) 1 105 := ⟨zo_29 (by decide +kernel), rfl⟩
theorem dX12_isAway_105 : Dc mX12_isAway 105 (.if_icmp .ge 7) 3 108 := ⟨zo_162 (w := 0) (x := 7) (by decide +kernel), rfl⟩
theorem dX12_isAway_108 : Dc mX12_isAway 108 (.iconst 1) 1 109 := ⟨zo_4 (by decide +kernel), rfl⟩
theorem dX12_isAway_109 : Dc mX12_isAway 109 (.goto 4) 3 112 := ⟨zo_167 (w := 0) (x := 4) (by decide +kernel), rfl⟩
theorem dX12_isAway_112 : Dc mX12_isAway 112 (.iconst 0) 1 113 := ⟨zo_3 (by decide +kernel), rfl⟩
theorem dX12_isAway_113 : Dc mX12_isAway 113 (.ireturn) 1 114 := ⟨zo_172 (by decide +kernel), rfl⟩
theorem dX12_films_0 : Dc mX12_films 0 (.aload_n 0) 1 1 := ⟨zo_42 (by decide +kernel), rfl⟩
theorem dX12_films_1 : Dc mX12_films 1 (.getfield 111) 3 4 := ⟨zo_180 (w := 0) (x := 111) (by decide +kernel), rfl⟩
theorem dX12_films_4 : Dc mX12_films 4 (.bipush 8) 2 6 := ⟨zo_16 (w := 8) (by decide +kernel), rfl⟩
theorem dX12_films_6 : Dc mX12_films 6 (.iload_n 1) 1 7 := ⟨zo_27 (by decide +kernel), rfl⟩
theorem dX12_films_7 : Dc mX12_films 7 (.imul) 1 8 := ⟨zo_104 (by decide +kernel), rfl⟩
theorem dX12_films_8 : Dc mX12_films 8 (.iload_n 2) 1 9 := ⟨zo_28 (by decide +kernel), rfl⟩
theorem dX12_films_9 : Dc mX12_films 9 (.iadd) 1 10 := ⟨zo_96 (by decide +kernel), rfl⟩
theorem dX12_films_10 : Dc mX12_films 10 (.iconst 1) 1 11 := ⟨zo_4 (by decide +kernel), rfl⟩
theorem dX12_films_11 : Dc mX12_films 11 (.iastore) 1 12 := ⟨zo_79 (by decide +kernel), rfl⟩
theorem dX12_films_12 : Dc mX12_films 12 (.iconst 0) 1 13 := ⟨zo_3 (by decide +kernel), rfl⟩
theorem dX12_films_13 : Dc mX12_films 13 (.istore 4) 2 15 := ⟨zo_54 (by decide +kernel), rfl⟩
theorem dX12_films_15 : Dc mX12_films 15 (.iload 4) 2 17 := ⟨zo_21 (by decide +kernel), rfl⟩
theorem dX12_films_17 : Dc mX12_films 17 (.aload_n 0) 1 18 := ⟨zo_42 (by decide +kernel), rfl⟩
theorem dX12_films_18 : Dc mX12_films 18 (.getfield 13) 3 21 := ⟨zo_180 (w := 0) (x := 13) (by decide +kernel), rfl⟩
theorem dX12_films_21 : Dc mX12_films 21 (.iconst 0) 1 22 := ⟨zo_3 (by decide +kernel), rfl⟩
theorem dX12_films_22 : Dc mX12_films 22 (.iaload) 1 23 := ⟨zo_46 (by decide +kernel), rfl⟩
theorem dX12_films_23 : Dc mX12_films 23 (.if_icmp .ge 153) 3 26 := ⟨zo_162 (w := 0) (x := 153) (by decide +kernel), rfl⟩
theorem dX12_films_26 : Dc mX12_films 26 (.iload_n 3) 1 27 := ⟨zo_29 (by decide +kernel), rfl⟩
theorem dX12_films_27 : Dc mX12_films 27 (.ifCond .ne 149) 3 30 := ⟨zo_154 (w := 0) (x := 149) (by decide +kernel), rfl⟩
theorem dX12_films_30 : Dc mX12_films 30 (.bipush 48) 2 32 := ⟨zo_16 (w := 48) (by decide +kernel), rfl⟩
theorem dX12_films_32 : Dc mX12_films 32 (.iload_n 1) 1 33 := ⟨zo_27 (by decide +kernel), rfl⟩
theorem dX12_films_33 : Dc mX12_films 33 (.imul) 1 34 := ⟨zo_104 (by decide +kernel), rfl⟩
theorem dX12_films_34 : Dc mX12_films 34 (.bipush 6) 2 36 := ⟨zo_16 (w := 6) (by decide +kernel), rfl⟩
theorem dX12_films_36 : Dc mX12_films 36 (.iload_n 2) 1 37 := ⟨zo_28 (by decide +kernel), rfl⟩
theorem dX12_films_37 : Dc mX12_films 37 (.imul) 1 38 := ⟨zo_104 (by decide +kernel), rfl⟩
theorem dX12_films_38 : Dc mX12_films 38 (.iadd) 1 39 := ⟨zo_96 (by decide +kernel), rfl⟩
theorem dX12_films_39 : Dc mX12_films 39 (.iload 4) 2 41 := ⟨zo_21 (by decide +kernel), rfl⟩
theorem dX12_films_41 : Dc mX12_films 41 (.iadd) 1 42 := ⟨zo_96 (by decide +kernel), rfl⟩
theorem dX12_films_42 : Dc mX12_films 42 (.istore 5) 2 44 := ⟨zo_54 (by decide +kernel), rfl⟩
theorem dX12_films_44 : Dc mX12_films 44 (.aload_n 0) 1 45 := ⟨zo_42 (by decide +kernel), rfl⟩
theorem dX12_films_45 : Dc mX12_films 45 (.getfield 102) 3 48 := ⟨zo_180 (w := 0) (x := 102) (by decide +kernel), rfl⟩
theorem dX12_films_48 : Dc mX12_films 48 (.bipush 6) 2 50 := ⟨zo_16 (w := 6) (by decide +kernel), rfl⟩
theorem dX12_films_50 : Dc mX12_films 50 (.iload_n 1) 1 51 := ⟨zo_27 (by decide +kernel), rfl⟩
theorem dX12_films_51 : Dc mX12_films 51 (.imul) 1 52 := ⟨zo_104 (by decide +kernel), rfl⟩
theorem dX12_films_52 : Dc mX12_films 52 (.iload 4) 2 54 := ⟨zo_21 (by decide +kernel), rfl⟩
theorem dX12_films_54 : Dc mX12_films 54 (.iadd) 1 55 := ⟨zo_96 (by decide +kernel), rfl⟩
theorem dX12_films_55 : Dc mX12_films 55 (.iaload) 1 56 := ⟨zo_46 (by decide +kernel), rfl⟩
theorem dX12_films_56 : Dc mX12_films 56 (.istore 6) 2 58 := ⟨zo_54 (by decide +kernel), rfl⟩
theorem dX12_films_58 : Dc mX12_films 58 (.aload_n 0) 1 59 := ⟨zo_42 (by decide +kernel), rfl⟩
theorem dX12_films_59 : Dc mX12_films 59 (.getfield 117) 3 62 := ⟨zo_180 (w := 0) (x := 117) (by decide +kernel), rfl⟩
theorem dX12_films_62 : Dc mX12_films 62 (.iload 5) 2 64 := ⟨zo_21 (by decide +kernel), rfl⟩
theorem dX12_films_64 : Dc mX12_films 64 (.iaload) 1 65 := ⟨zo_46 (by decide +kernel), rfl⟩
theorem dX12_films_65 : Dc mX12_films 65 (.iconst (-1)) 1 66 := ⟨zo_2 (by decide +kernel), rfl⟩
theorem dX12_films_66 : Dc mX12_films 66 (.if_icmp .eq 104) 3 69 := ⟨zo_159 (w := 0) (x := 104) (by decide +kernel), rfl⟩
theorem dX12_films_69 : Dc mX12_films 69 (.iload 6) 2 71 := ⟨zo_21 (by decide +kernel), rfl⟩
theorem dX12_films_71 : Dc mX12_films 71 (.aload_n 0) 1 72 := ⟨zo_42 (by decide +kernel), rfl⟩
theorem dX12_films_72 : Dc mX12_films 72 (.getfield 117) 3 75 := ⟨zo_180 (w := 0) (x := 117) (by decide +kernel), rfl⟩
theorem dX12_films_75 : Dc mX12_films 75 (.iload 5) 2 77 := ⟨zo_21 (by decide +kernel), rfl⟩
theorem dX12_films_77 : Dc mX12_films 77 (.iaload) 1 78 := ⟨zo_46 (by decide +kernel), rfl⟩
theorem dX12_films_78 : Dc mX12_films 78 (.if_icmp .ne 6) 3 81 := ⟨zo_160 (w := 0) (x := 6) (by decide +kernel), rfl⟩
theorem dX12_films_81 : Dc mX12_films 81 (.goto 89) 3 84 := ⟨zo_167 (w := 0) (x := 89) (by decide +kernel), rfl⟩
theorem dX12_films_84 : Dc mX12_films 84 (.iload 6) 2 86 := ⟨zo_21 (by decide +kernel), rfl⟩
theorem dX12_films_86 : Dc mX12_films 86 (.iconst (-1)) 1 87 := ⟨zo_2 (by decide +kernel), rfl⟩
theorem dX12_films_87 : Dc mX12_films 87 (.if_icmp .eq 25) 3 90 := ⟨zo_159 (w := 0) (x := 25) (by decide +kernel), rfl⟩
theorem dX12_films_90 : Dc mX12_films 90 (.aload_n 0) 1 91 := ⟨zo_42 (by decide +kernel), rfl⟩
theorem dX12_films_91 : Dc mX12_films 91 (.getfield 117) 3 94 := ⟨zo_180 (w := 0) (x := 117) (by decide +kernel), rfl⟩
theorem dX12_films_94 : Dc mX12_films 94 (.iload 5) 2 96 := ⟨zo_21 (by decide +kernel), rfl⟩
theorem dX12_films_96 : Dc mX12_films 96 (.iload 6) 2 98 := ⟨zo_21 (by decide +kernel), rfl⟩
theorem dX12_films_98 : Dc mX12_films 98 (.iastore) 1 99 := ⟨zo_79 (by decide +kernel), rfl⟩
theorem dX12_films_99 : Dc mX12_films 99 (.aload_n 0) 1 100 := ⟨zo_42 (by decide +kernel), rfl⟩
theorem dX12_films_100 : Dc mX12_films 100 (.getfield 93) 3 103 := ⟨zo_180 (w := 0) (x := 93) (by decide +kernel), rfl⟩
theorem dX12_films_103 : Dc mX12_films 103 (.iload_n 1) 1 104 := ⟨zo_27 (by decide +kernel), rfl⟩
theorem dX12_films_104 : Dc mX12_films 104 (.dup2) 1 105 := ⟨zo_92 (by decide +kernel), rfl⟩
theorem dX12_films_105 : Dc mX12_films 105 (.iaload) 1 106 := ⟨zo_46 (by decide +kernel), rfl⟩
theorem dX12_films_106 : Dc mX12_films 106 (.iconst 1) 1 107 := ⟨zo_4 (by decide +kernel), rfl⟩
theorem dX12_films_107 : Dc mX12_films 107 (.iadd) 1 108 := ⟨zo_96 (by decide +kernel), rfl⟩
theorem dX12_films_108 : Dc mX12_films 108 (.iastore) 1 109 := ⟨zo_79 (by decide +kernel), rfl⟩
theorem dX12_films_109 : Dc mX12_films 109 (.goto 61) 3 112 := ⟨zo_167 (w := 0) (x := 61) (by decide +kernel), rfl⟩
theorem dX12_films_112 : Dc mX12_films 112 (.aload_n 0) 1 113 := ⟨zo_42 (by decide +kernel), rfl⟩
theorem dX12_films_113 : Dc mX12_films 113 (.iload_n 1) 1 114 := ⟨zo_27 (by decide +kernel), rfl⟩
theorem dX12_films_114 : Dc mX12_films 114 (.iload 4) 2 116 := ⟨zo_21 (by decide +kernel), rfl⟩
theorem dX12_films_116 : Dc mX12_films 116 (.iconst 0) 1 117 := ⟨zo_3 (by decide +kernel), rfl⟩
theorem dX12_films_117 : Dc mX12_films 117 (.iload_n 2) 1 118 := ⟨zo_28 (by decide +kernel), rfl⟩
theorem dX12_films_118 : Dc mX12_films 118 (.aload_n 0) 1 119 := ⟨zo_42 (by decide +kernel), rfl⟩
theorem dX12_films_119 : Dc mX12_films 119 (.getfield 28) 3 122 := ⟨zo_180 (w := 0) (x := 28) (by decide +kernel), rfl⟩
theorem dX12_films_122 : Dc mX12_films 122 (.iload_n 2) 1 123 := ⟨zo_28 (by decide +kernel), rfl⟩
theorem dX12_films_123 : Dc mX12_films 123 (.iaload) 1 124 := ⟨zo_46 (by decide +kernel), rfl⟩
theorem dX12_films_124 : Dc mX12_films 124 (.invokevirtual 404) 3 127 := ⟨zo_182 (w := 1) (x := 148) (by decide +kernel), rfl⟩
theorem dX12_films_127 : Dc mX12_films 127 (.aload_n 0) 1 128 := ⟨zo_42 (by decide +kernel), rfl⟩
theorem dX12_films_128 : Dc mX12_films 128 (.iconst 0) 1 129 := ⟨zo_3 (by decide +kernel), rfl⟩
theorem dX12_films_129 : Dc mX12_films 129 (.aload_n 0) 1 130 := ⟨zo_42 (by decide +kernel), rfl⟩
theorem dX12_films_130 : Dc mX12_films 130 (.iload 4) 2 132 := ⟨zo_21 (by decide +kernel), rfl⟩
theorem dX12_films_132 : Dc mX12_films 132 (.invokevirtual 375) 3 135 := ⟨zo_182 (w := 1) (x := 119) (by decide +kernel), rfl⟩
theorem dX12_films_135 : Dc mX12_films 135 (.bipush 50) 2 137 := ⟨zo_16 (w := 50) (by decide +kernel), rfl⟩
theorem dX12_films_137 : Dc mX12_films 137 (.if_icmp .lt 7) 3 140 := ⟨zo_161 (w := 0) (x := 7) (by decide +kernel), rfl⟩
theorem dX12_films_140 : Dc mX12_films 140 (.iconst 1) 1 141 := ⟨zo_4 (by decide +kernel), rfl⟩
theorem dX12_films_141 : Dc mX12_films 141 (.goto 4) 3 144 := ⟨zo_167 (w := 0) (x := 4) (by decide +kernel), rfl⟩
theorem dX12_films_144 : Dc mX12_films 144 (.iconst 0) 1 145 := ⟨zo_3 (by decide +kernel), rfl⟩
theorem dX12_films_145 : Dc mX12_films 145 (.invokevirtual 408) 3 148 := ⟨zo_182 (w := 1) (x := 152) (by decide +kernel), rfl⟩
theorem dX12_films_148 : Dc mX12_films 148 (.ifCond .eq 22) 3 151 := ⟨zo_153 (w := 0) (x := 22) (by decide +kernel), rfl⟩
theorem dX12_films_151 : Dc mX12_films 151 (.aload_n 0) 1 152 := ⟨zo_42 (by decide +kernel), rfl⟩
theorem dX12_films_152 : Dc mX12_films 152 (.getfield 102) 3 155 := ⟨zo_180 (w := 0) (x := 102) (by decide +kernel), rfl⟩
theorem dX12_films_155 : Dc mX12_films 155 (.bipush 6) 2 157 := ⟨zo_16 (w := 6) (by decide +kernel), rfl⟩
theorem dX12_films_157 : Dc mX12_films 157 (.iload_n 1) 1 158 := ⟨zo_27 (by decide +kernel), rfl⟩
theorem dX12_films_158 : Dc mX12_films 158 (.imul) 1 159 := ⟨zo_104 (by decide +kernel), rfl⟩
theorem dX12_films_159 : Dc mX12_films 159 (.iload 4) 2 161 := ⟨zo_21 (by decide +kernel), rfl⟩
theorem dX12_films_161 : Dc mX12_films 161 (.iadd) 1 162 := ⟨zo_96 (by decide +kernel), rfl⟩
theorem dX12_films_162 : Dc mX12_films 162 (.aload_n 0) 1 163 := ⟨zo_42 (by decide +kernel), rfl⟩
theorem dX12_films_163 : Dc mX12_films 163 (.getfield 117) 3 166 := ⟨zo_180 (w := 0) (x := 117) (by decide +kernel), rfl⟩
theorem dX12_films_166 : Dc mX12_films 166 (.iload 5) 2 168 := ⟨zo_21 (by decide +kernel), rfl⟩
theorem dX12_films_168 : Dc mX12_films 168 (.iaload) 1 169 := ⟨zo_46 (by decide +kernel), rfl⟩
theorem dX12_films_169 : Dc mX12_films 169 (.iastore) 1 170 := ⟨zo_79 (by decide +kernel), rfl⟩
theorem dX12_films_170 : Dc mX12_films 170 (.iinc 4 1) 3 173 := ⟨zo_iinc (x := 1) (by decide +kernel), rfl⟩
theorem dX12_films_173 : Dc mX12_films 173 (.goto (-158)) 3 176 := ⟨zo_167 (w := 255) (x := 98) (by decide +kernel), rfl⟩
theorem dX12_films_176 : Dc mX12_films 176 (.return_) 1 177 := ⟨zo_177 (by decide +kernel), rfl⟩
theorem dX12_gives_0 : Dc mX12_gives 0 (.aload_n 0) 1 1 := ⟨zo_42 (by decide +kernel), rfl⟩
theorem dX12_gives_1 : Dc mX12_gives 1 (.getfield 40) 3 4 := ⟨zo_180 (w := 0) (x := 40) (by decide +kernel), rfl⟩
theorem dX12_gives_4 : Dc mX12_gives 4 (.iload_n 2) 1 5 := ⟨zo_28 (by decide +kernel), rfl⟩
theorem dX12_gives_5 : Dc mX12_gives 5 (.iaload) 1 6 := ⟨zo_46 (by decide +kernel), rfl⟩
theorem dX12_gives_6 : Dc mX12_gives 6 (.istore_n 3) 1 7 := ⟨zo_62 (by decide +kernel), rfl⟩
theorem dX12_gives_7 : Dc mX12_gives 7 (.aload_n 0) 1 8 := ⟨zo_42 (by decide +kernel), rfl⟩
theorem dX12_gives_8 : Dc mX12_gives 8 (.getfield 102) 3 11 := ⟨zo_180 (w := 0) (x := 102) (by decide +kernel), rfl⟩
theorem dX12_gives_11 : Dc mX12_gives 11 (.bipush 6) 2 13 := ⟨zo_16 (w := 6) (by decide +kernel), rfl⟩
theorem dX12_gives_13 : Dc mX12_gives 13 (.iload_n 1) 1 14 := ⟨zo_27 (by decide +kernel), rfl⟩
theorem dX12_gives_14 : Dc mX12_gives 14 (.imul) 1 15 := ⟨zo_104 (by decide +kernel), rfl⟩
theorem dX12_gives_15 : Dc mX12_gives 15 (.iload_n 3) 1 16 := ⟨zo_29 (by decide +kernel), rfl⟩
theorem dX12_gives_16 : Dc mX12_gives 16 (.iadd) 1 17 := ⟨zo_96 (by decide +kernel), rfl⟩
theorem dX12_gives_17 : Dc mX12_gives 17 (.iaload) 1 18 := ⟨zo_46 (by decide +kernel), rfl⟩
theorem dX12_gives_18 : Dc mX12_gives 18 (.istore 4) 2 20 := ⟨zo_54 (by decide +kernel), rfl⟩
theorem dX12_gives_20 : Dc mX12_gives 20 (.aload_n 0) 1 21 := ⟨zo_42 (by decide +kernel), rfl⟩
theorem dX12_gives_21 : Dc mX12_gives 21 (.getfield 120) 3 24 := ⟨zo_180 (w := 0) (x := 120) (by decide +kernel), rfl⟩
theorem dX12_gives_24 : Dc mX12_gives 24 (.iconst 4) 1 25 := ⟨zo_7 (by decide +kernel), rfl⟩
theorem dX12_gives_25 : Dc mX12_gives 25 (.iload_n 1) 1 26 := ⟨zo_27 (by decide +kernel), rfl⟩
theorem dX12_gives_26 : Dc mX12_gives 26 (.imul) 1 27 := ⟨zo_104 (by decide +kernel), rfl⟩
theorem dX12_gives_27 : Dc mX12_gives 27 (.iload_n 2) 1 28 := ⟨zo_28 (by decide +kernel), rfl⟩
theorem dX12_gives_28 : Dc mX12_gives 28 (.iadd) 1 29 := ⟨zo_96 (by decide +kernel), rfl⟩
theorem dX12_gives_29 : Dc mX12_gives 29 (.iaload) 1 30 := ⟨zo_46 (by decide +kernel), rfl⟩
theorem dX12_gives_30 : Dc mX12_gives 30 (.ifCond .eq 36) 3 33 := ⟨zo_153 (w := 0) (x := 36) (by decide +kernel), rfl⟩
theorem dX12_gives_33 : Dc mX12_gives 33 (.iload 4) 2 35 := ⟨zo_21 (by decide +kernel), rfl⟩
theorem dX12_gives_35 : Dc mX12_gives 35 (.iconst (-1)) 1 36 := ⟨zo_2 (by decide +kernel), rfl⟩
theorem dX12_gives_36 : Dc mX12_gives 36 (.if_icmp .eq 30) 3 39 := ⟨zo_159 (w := 0) (x := 30) (by decide +kernel), rfl⟩
theorem dX12_gives_39 : Dc mX12_gives 39 (.iload 4) 2 41 := ⟨zo_21 (by decide +kernel), rfl⟩
theorem dX12_gives_41 : Dc mX12_gives 41 (.aload_n 0) 1 42 := ⟨zo_42 (by decide +kernel), rfl⟩
theorem dX12_gives_42 : Dc mX12_gives 42 (.getfield 43) 3 45 := ⟨zo_180 (w := 0) (x := 43) (by decide +kernel), rfl⟩
theorem dX12_gives_45 : Dc mX12_gives 45 (.iload_n 2) 1 46 := ⟨zo_28 (by decide +kernel), rfl⟩
theorem dX12_gives_46 : Dc mX12_gives 46 (.iaload) 1 47 := ⟨zo_46 (by decide +kernel), rfl⟩
theorem dX12_gives_47 : Dc mX12_gives 47 (.if_icmp .eq 19) 3 50 := ⟨zo_159 (w := 0) (x := 19) (by decide +kernel), rfl⟩
theorem dX12_gives_50 : Dc mX12_gives 50 (.aload_n 0) 1 51 := ⟨zo_42 (by decide +kernel), rfl⟩
theorem dX12_gives_51 : Dc mX12_gives 51 (.getfield 361) 3 54 := ⟨zo_180 (w := 1) (x := 105) (by decide +kernel), rfl⟩
theorem dX12_gives_54 : Dc mX12_gives 54 (.iconst 2) 1 55 := ⟨zo_5 (by decide +kernel), rfl⟩
theorem dX12_gives_55 : Dc mX12_gives 55 (.if_icmp .ne 12) 3 58 := ⟨zo_160 (w := 0) (x := 12) (by decide +kernel), rfl⟩
theorem dX12_gives_58 : Dc mX12_gives 58 (.iload_n 2) 1 59 := ⟨zo_28 (by decide +kernel), rfl⟩
theorem dX12_gives_59 : Dc mX12_gives 59 (.aload_n 0) 1 60 := ⟨zo_42 (by decide +kernel), rfl⟩
theorem dX12_gives_60 : Dc mX12_gives 60 (.getfield 126) 3 63 := ⟨zo_180 (w := 0) (x := 126) (by decide +kernel), rfl⟩
theorem dX12_gives_63 : Dc mX12_gives 63 (.if_icmp .ne 4) 3 66 := ⟨zo_160 (w := 0) (x := 4) (by decide +kernel), rfl⟩
theorem dX12_gives_66 : Dc mX12_gives 66 (.return_) 1 67 := ⟨zo_177 (by decide +kernel), rfl⟩
theorem dX12_gives_67 : Dc mX12_gives 67 (.aload_n 0) 1 68 := ⟨zo_42 (by decide +kernel), rfl⟩
theorem dX12_gives_68 : Dc mX12_gives 68 (.getfield 120) 3 71 := ⟨zo_180 (w := 0) (x := 120) (by decide +kernel), rfl⟩
theorem dX12_gives_71 : Dc mX12_gives 71 (.iconst 4) 1 72 := ⟨zo_7 (by decide +kernel), rfl⟩
theorem dX12_gives_72 : Dc mX12_gives 72 (.iload_n 1) 1 73 := ⟨zo_27 (by decide +kernel), rfl⟩
theorem dX12_gives_73 : Dc mX12_gives 73 (.imul) 1 74 := ⟨zo_104 (by decide +kernel), rfl⟩
theorem dX12_gives_74 : Dc mX12_gives 74 (.iload_n 2) 1 75 := ⟨zo_28 (by decide +kernel), rfl⟩
theorem dX12_gives_75 : Dc mX12_gives 75 (.iadd) 1 76 := ⟨zo_96 (by decide +kernel), rfl⟩
theorem dX12_gives_76 : Dc mX12_gives 76 (.dup2) 1 77 := ⟨zo_92 (by decide +kernel), rfl⟩
theorem dX12_gives_77 : Dc mX12_gives 77 (.iaload) 1 78 := ⟨zo_46 (by decide +kernel), rfl⟩
theorem dX12_gives_78 : Dc mX12_gives 78 (.iconst 1) 1 79 := ⟨zo_4 (by decide +kernel), rfl⟩
theorem dX12_gives_79 : Dc mX12_gives 79 (.isub) 1 80 := ⟨zo_100 (by decide +kernel), rfl⟩
theorem dX12_gives_80 : Dc mX12_gives 80 (.iastore) 1 81 := ⟨zo_79 (by decide +kernel), rfl⟩
theorem dX12_gives_81 : Dc mX12_gives 81 (.aload_n 0) 1 82 := ⟨zo_42 (by decide +kernel), rfl⟩
theorem dX12_gives_82 : Dc mX12_gives 82 (.getfield 123) 3 85 := ⟨zo_180 (w := 0) (x := 123) (by decide +kernel), rfl⟩
theorem dX12_gives_85 : Dc mX12_gives 85 (.iconst 4) 1 86 := ⟨zo_7 (by decide +kernel), rfl⟩
theorem dX12_gives_86 : Dc mX12_gives 86 (.iload_n 1) 1 87 := ⟨zo_27 (by decide +kernel), rfl⟩
theorem dX12_gives_87 : Dc mX12_gives 87 (.imul) 1 88 := ⟨zo_104 (by decide +kernel), rfl⟩
theorem dX12_gives_88 : Dc mX12_gives 88 (.iload_n 2) 1 89 := ⟨zo_28 (by decide +kernel), rfl⟩
theorem dX12_gives_89 : Dc mX12_gives 89 (.iadd) 1 90 := ⟨zo_96 (by decide +kernel), rfl⟩
theorem dX12_gives_90 : Dc mX12_gives 90 (.dup2) 1 91 := ⟨zo_92 (by decide +kernel), rfl⟩
theorem dX12_gives_91 : Dc mX12_gives 91 (.iaload) 1 92 := ⟨zo_46 (by decide +kernel), rfl⟩
theorem dX12_gives_92 : Dc mX12_gives 92 (.iconst 1) 1 93 := ⟨zo_4 (by decide +kernel), rfl⟩
theorem dX12_gives_93 : Dc mX12_gives 93 (.iadd) 1 94 := ⟨zo_96 (by decide +kernel), rfl⟩
theorem dX12_gives_94 : Dc mX12_gives 94 (.iastore) 1 95 := ⟨zo_79 (by decide +kernel), rfl⟩
theorem dX12_gives_95 : Dc mX12_gives 95 (.aload_n 0) 1 96 := ⟨zo_42 (by decide +kernel), rfl⟩
theorem dX12_gives_96 : Dc mX12_gives 96 (.getfield 105) 3 99 := ⟨zo_180 (w := 0) (x := 105) (by decide +kernel), rfl⟩
theorem dX12_gives_99 : Dc mX12_gives 99 (.bipush 6) 2 101 := ⟨zo_16 (w := 6) (by decide +kernel), rfl⟩
theorem dX12_gives_101 : Dc mX12_gives 101 (.iload_n 1) 1 102 := ⟨zo_27 (by decide +kernel), rfl⟩
theorem dX12_gives_102 : Dc mX12_gives 102 (.imul) 1 103 := ⟨zo_104 (by decide +kernel), rfl⟩
theorem dX12_gives_103 : Dc mX12_gives 103 (.iload_n 3) 1 104 := ⟨zo_29 (by decide +kernel), rfl⟩
theorem dX12_gives_104 : Dc mX12_gives 104 (.iadd) 1 105 := ⟨zo_96 (by decide +kernel), rfl⟩
theorem dX12_gives_105 : Dc mX12_gives 105 (.dup2) 1 106 := ⟨zo_92 (by decide +kernel), rfl⟩
theorem dX12_gives_106 : Dc mX12_gives 106 (.iaload) 1 107 := ⟨zo_46 (by decide +kernel), rfl⟩
theorem dX12_gives_107 : Dc mX12_gives 107 (.iconst 1) 1 108 := ⟨zo_4 (by decide +kernel), rfl⟩
theorem dX12_gives_108 : Dc mX12_gives 108 (.iadd) 1 109 := ⟨zo_96 (by decide +kernel), rfl⟩
theorem dX12_gives_109 : Dc mX12_gives 109 (.iastore) 1 110 := ⟨zo_79 (by decide +kernel), rfl⟩
theorem dX12_gives_110 : Dc mX12_gives 110 (.aload_n 0) 1 111 := ⟨zo_42 (by decide +kernel), rfl⟩
theorem dX12_gives_111 : Dc mX12_gives 111 (.iload_n 1) 1 112 := ⟨zo_27 (by decide +kernel), rfl⟩
theorem dX12_gives_112 : Dc mX12_gives 112 (.iload_n 3) 1 113 := ⟨zo_29 (by decide +kernel), rfl⟩
theorem dX12_gives_113 : Dc mX12_gives 113 (.iconst 0) 1 114 := ⟨zo_3 (by decide +kernel), rfl⟩
theorem dX12_gives_114 : Dc mX12_gives 114 (.iconst (-1)) 1 115 := ⟨zo_2 (by decide +kernel), rfl⟩
theorem dX12_gives_115 : Dc mX12_gives 115 (.iconst 0) 1 116 := ⟨zo_3 (by decide +kernel), rfl⟩
theorem dX12_gives_116 : Dc mX12_gives 116 (.invokevirtual 404) 3 119 := ⟨zo_182 (w := 1) (x := 148) (by decide +kernel), rfl⟩
theorem dX12_gives_119 : Dc mX12_gives 119 (.aload_n 0) 1 120 := ⟨zo_42 (by decide +kernel), rfl⟩
theorem dX12_gives_120 : Dc mX12_gives 120 (.iconst 1) 1 121 := ⟨zo_4 (by decide +kernel), rfl⟩
theorem dX12_gives_121 : Dc mX12_gives 121 (.aload_n 0) 1 122 := ⟨zo_42 (by decide +kernel), rfl⟩
theorem dX12_gives_122 : Dc mX12_gives 122 (.getfield 105) 3 125 := ⟨zo_180 (w := 0) (x := 105) (by decide +kernel), rfl⟩
theorem dX12_gives_125 : Dc mX12_gives 125 (.bipush 6) 2 127 := ⟨zo_16 (w := 6) (by decide +kernel), rfl⟩
theorem dX12_gives_127 : Dc mX12_gives 127 (.iload_n 1) 1 128 := ⟨zo_27 (by decide +kernel), rfl⟩
theorem dX12_gives_128 : Dc mX12_gives 128 (.imul) 1 129 := ⟨zo_104 (by decide +kernel), rfl⟩
theorem dX12_gives_129 : Dc mX12_gives 129 (.iload_n 3) 1 130 := ⟨zo_29 (by decide +kernel), rfl⟩
theorem dX12_gives_130 : Dc mX12_gives 130 (.iadd) 1 131 := ⟨zo_96 (by decide +kernel), rfl⟩
theorem dX12_gives_131 : Dc mX12_gives 131 (.iaload) 1 132 := ⟨zo_46 (by decide +kernel), rfl⟩
theorem dX12_gives_132 : Dc mX12_gives 132 (.aload_n 0) 1 133 := ⟨zo_42 (by decide +kernel), rfl⟩
theorem dX12_gives_133 : Dc mX12_gives 133 (.iload_n 3) 1 134 := ⟨zo_29 (by decide +kernel), rfl⟩
theorem dX12_gives_134 : Dc mX12_gives 134 (.invokevirtual 375) 3 137 := ⟨zo_182 (w := 1) (x := 119) (by decide +kernel), rfl⟩
theorem dX12_gives_137 : Dc mX12_gives 137 (.bipush 10) 2 139 := ⟨zo_16 (w := 10) (by decide +kernel), rfl⟩
theorem dX12_gives_139 : Dc mX12_gives 139 (.idiv) 1 140 := ⟨zo_108 (by decide +kernel), rfl⟩
theorem dX12_gives_140 : Dc mX12_gives 140 (.if_icmp .le 7) 3 143 := ⟨zo_164 (w := 0) (x := 7) (by decide +kernel), rfl⟩
theorem dX12_gives_143 : Dc mX12_gives 143 (.iconst 1) 1 144 := ⟨zo_4 (by decide +kernel), rfl⟩
theorem dX12_gives_144 : Dc mX12_gives 144 (.goto 4) 3 147 := ⟨zo_167 (w := 0) (x := 4) (by decide +kernel), rfl⟩
theorem dX12_gives_147 : Dc mX12_gives 147 (.iconst 0) 1 148 := ⟨zo_3 (by decide +kernel), rfl⟩
theorem dX12_gives_148 : Dc mX12_gives 148 (.invokevirtual 408) 3 151 := ⟨zo_182 (w := 1) (x := 152) (by decide +kernel), rfl⟩
theorem dX12_gives_151 : Dc mX12_gives 151 (.ifCond .eq 28) 3 154 := ⟨zo_153 (w := 0) (x := 28) (by decide +kernel), rfl⟩
theorem dX12_gives_154 : Dc mX12_gives 154 (.aload_n 0) 1 155 := ⟨zo_42 (by decide +kernel), rfl⟩
theorem dX12_gives_155 : Dc mX12_gives 155 (.getfield 361) 3 158 := ⟨zo_180 (w := 1) (x := 105) (by decide +kernel), rfl⟩
theorem dX12_gives_158 : Dc mX12_gives 158 (.iconst 4) 1 159 := ⟨zo_7 (by decide +kernel), rfl⟩
theorem dX12_gives_159 : Dc mX12_gives 159 (.if_icmp .eq 20) 3 162 := ⟨zo_159 (w := 0) (x := 20) (by decide +kernel), rfl⟩
theorem dX12_gives_162 : Dc mX12_gives 162 (.aload_n 0) 1 163 := ⟨zo_42 (by decide +kernel), rfl⟩
theorem dX12_gives_163 : Dc mX12_gives 163 (.getfield 102) 3 166 := ⟨zo_180 (w := 0) (x := 102) (by decide +kernel), rfl⟩
theorem dX12_gives_166 : Dc mX12_gives 166 (.bipush 6) 2 168 := ⟨zo_16 (w := 6) (by decide +kernel), rfl⟩
theorem dX12_gives_168 : Dc mX12_gives 168 (.iload_n 1) 1 169 := ⟨zo_27 (by decide +kernel), rfl⟩
theorem dX12_gives_169 : Dc mX12_gives 169 (.imul) 1 170 := ⟨zo_104 (by decide +kernel), rfl⟩
theorem dX12_gives_170 : Dc mX12_gives 170 (.iload_n 3) 1 171 := ⟨zo_29 (by decide +kernel), rfl⟩
theorem dX12_gives_171 : Dc mX12_gives 171 (.iadd) 1 172 := ⟨zo_96 (by decide +kernel), rfl⟩
theorem dX12_gives_172 : Dc mX12_gives 172 (.aload_n 0) 1 173 := ⟨zo_42 (by decide +kernel), rfl⟩
theorem dX12_gives_173 : Dc mX12_gives 173 (.getfield 43) 3 176 := ⟨zo_180 (w := 0) (x := 43) (by decide +kernel), rfl⟩
theorem dX12_gives_176 : Dc mX12_gives 176 (.iload_n 2) 1 177 := ⟨zo_28 (by decide +kernel), rfl⟩
theorem dX12_gives_177 : Dc mX12_gives 177 (.iaload) 1 178 := ⟨zo_46 (by decide +kernel), rfl⟩
theorem dX12_gives_178 : Dc mX12_gives 178 (.iastore) 1 179 := ⟨zo_79 (by decide +kernel), rfl⟩
theorem dX12_gives_179 : Dc mX12_gives 179 (.return_) 1 180 := ⟨zo_177 (by decide +kernel), rfl⟩
theorem dX12_priceOf_0 : Dc mX12_priceOf 0 (.aload_n 0) 1 1 := ⟨zo_42 (by decide +kernel), rfl⟩
theorem dX12_priceOf_1 : Dc mX12_priceOf 1 (.iload_n 1) 1 2 := ⟨zo_27 (by decide +kernel), rfl⟩
theorem dX12_priceOf_2 : Dc mX12_priceOf 2 (.iload_n 2) 1 3 := ⟨zo_28 (by decide +kernel), rfl⟩
theorem dX12_priceOf_3 : Dc mX12_priceOf 3 (.invokevirtual 412) 3 6 := ⟨zo_182 (w := 1) (x := 156) (by decide +kernel), rfl⟩
theorem dX12_priceOf_6 : Dc mX12_priceOf 6 (.aload_n 0) 1 7 := ⟨zo_42 (by decide +kernel), rfl⟩
theorem dX12_priceOf_7 : Dc mX12_priceOf 7 (.iconst 2) 1 8 := ⟨zo_5 (by decide +kernel), rfl⟩
theorem dX12_priceOf_8 : Dc mX12_priceOf 8 (.invokevirtual 388) 3 11 := ⟨zo_182 (w := 1) (x := 132) (by decide +kernel), rfl⟩
theorem dX12_priceOf_11 : Dc mX12_priceOf 11 (.ifCond .eq 31) 3 14 := ⟨zo_153 (w := 0) (x := 31) (by decide +kernel), rfl⟩
theorem dX12_priceOf_14 : Dc mX12_priceOf 14 (.aload_n 0) 1 15 := ⟨zo_42 (by decide +kernel), rfl⟩
theorem dX12_priceOf_15 : Dc mX12_priceOf 15 (.iconst 2) 1 16 := ⟨zo_5 (by decide +kernel), rfl⟩
theorem dX12_priceOf_16 : Dc mX12_priceOf 16 (.invokevirtual 391) 3 19 := ⟨zo_182 (w := 1) (x := 135) (by decide +kernel), rfl⟩
theorem dX12_priceOf_19 : Dc mX12_priceOf 19 (.ifCond .eq 23) 3 22 := ⟨zo_153 (w := 0) (x := 23) (by decide +kernel), rfl⟩
theorem dX12_priceOf_22 : Dc mX12_priceOf 22 (.lconst 0) 1 23 := ⟨zo_9 (by decide +kernel), rfl⟩
theorem dX12_priceOf_23 : Dc mX12_priceOf 23 (.ldc2_w 415) 3 26 := ⟨zo_20 (w := 1) (x := 159) (by decide +kernel), rfl⟩
theorem dX12_priceOf_26 : Dc mX12_priceOf 26 (.aload_n 0) 1 27 := ⟨zo_42 (by decide +kernel), rfl⟩
theorem dX12_priceOf_27 : Dc mX12_priceOf 27 (.getfield 81) 3 30 := ⟨zo_180 (w := 0) (x := 81) (by decide +kernel), rfl⟩
theorem dX12_priceOf_30 : Dc mX12_priceOf 30 (.iconst 0) 1 31 := ⟨zo_3 (by decide +kernel), rfl⟩
theorem dX12_priceOf_31 : Dc mX12_priceOf 31 (.laload) 1 32 := ⟨zo_47 (by decide +kernel), rfl⟩
theorem dX12_priceOf_32 : Dc mX12_priceOf 32 (.invokestatic 417) 3 35 := ⟨zo_184 (w := 1) (x := 161) (by decide +kernel), rfl⟩
theorem dX12_priceOf_35 : Dc mX12_priceOf 35 (.invokestatic 421) 3 38 := ⟨zo_184 (w := 1) (x := 165) (by decide +kernel), rfl⟩
theorem dX12_priceOf_38 : Dc mX12_priceOf 38 (.l2i) 1 39 := ⟨zo_136 (by decide +kernel), rfl⟩
theorem dX12_priceOf_39 : Dc mX12_priceOf 39 (.goto 9) 3 42 := ⟨zo_167 (w := 0) (x := 9) (by decide +kernel), rfl⟩
theorem dX12_priceOf_42 : Dc mX12_priceOf 42 (.aload_n 0) 1 43 := ⟨zo_42 (by decide +kernel), rfl⟩
theorem dX12_priceOf_43 : Dc mX12_priceOf 43 (.getfield 28) 3 46 := ⟨zo_180 (w := 0) (x := 28) (by decide +kernel), rfl⟩
theorem dX12_priceOf_46 : Dc mX12_priceOf 46 (.iload_n 2) 1 47 := ⟨zo_28 (by decide +kernel), rfl⟩
theorem dX12_priceOf_47 : Dc mX12_priceOf 47 (.iaload) 1 48 := ⟨zo_46 (by decide +kernel), rfl⟩
theorem dX12_priceOf_48 : Dc mX12_priceOf 48 (.ireturn) 1 49 := ⟨zo_172 (by decide +kernel), rfl⟩
theorem dX12_filmsAgain_0 : Dc mX12_filmsAgain 0 (.iconst 0) 1 1 := ⟨zo_3 (by decide +kernel), rfl⟩
theorem dX12_filmsAgain_1 : Dc mX12_filmsAgain 1 (.istore_n 2) 1 2 := ⟨zo_61 (by decide +kernel), rfl⟩
theorem dX12_filmsAgain_2 : Dc mX12_filmsAgain 2 (.iload_n 2) 1 3 := ⟨zo_28 (by decide +kernel), rfl⟩
theorem dX12_filmsAgain_3 : Dc mX12_filmsAgain 3 (.aload_n 0) 1 4 := ⟨zo_42 (by decide +kernel), rfl⟩
theorem dX12_filmsAgain_4 : Dc mX12_filmsAgain 4 (.getfield 13) 3 7 := ⟨zo_180 (w := 0) (x := 13) (by decide +kernel), rfl⟩
theorem dX12_filmsAgain_7 : Dc mX12_filmsAgain 7 (.iconst 1) 1 8 := ⟨zo_4 (by decide +kernel), rfl⟩
theorem dX12_filmsAgain_8 : Dc mX12_filmsAgain 8 (.iaload) 1 9 := ⟨zo_46 (by decide +kernel), rfl⟩
theorem dX12_filmsAgain_9 : Dc mX12_filmsAgain 9 (.if_icmp .ge 142) 3 12 := ⟨zo_162 (w := 0) (x := 142) (by decide +kernel), rfl⟩
theorem dX12_filmsAgain_12 : Dc mX12_filmsAgain 12 (.aload_n 0) 1 13 := ⟨zo_42 (by decide +kernel), rfl⟩
theorem dX12_filmsAgain_13 : Dc mX12_filmsAgain 13 (.iload_n 1) 1 14 := ⟨zo_27 (by decide +kernel), rfl⟩
theorem dX12_filmsAgain_14 : Dc mX12_filmsAgain 14 (.iload_n 2) 1 15 := ⟨zo_28 (by decide +kernel), rfl⟩
theorem dX12_filmsAgain_15 : Dc mX12_filmsAgain 15 (.invokevirtual 385) 3 18 := ⟨zo_182 (w := 1) (x := 129) (by decide +kernel), rfl⟩
theorem dX12_filmsAgain_18 : Dc mX12_filmsAgain 18 (.ifCond .eq 127) 3 21 := ⟨zo_153 (w := 0) (x := 127) (by decide +kernel), rfl⟩
theorem dX12_filmsAgain_21 : Dc mX12_filmsAgain 21 (.aload_n 0) 1 22 := ⟨zo_42 (by decide +kernel), rfl⟩
theorem dX12_filmsAgain_22 : Dc mX12_filmsAgain 22 (.iload_n 1) 1 23 := ⟨zo_27 (by decide +kernel), rfl⟩
theorem dX12_filmsAgain_23 : Dc mX12_filmsAgain 23 (.iload_n 2) 1 24 := ⟨zo_28 (by decide +kernel), rfl⟩
theorem dX12_filmsAgain_24 : Dc mX12_filmsAgain 24 (.invokevirtual 424) 3 27 := ⟨zo_182 (w := 1) (x := 168) (by decide +kernel), rfl⟩
theorem dX12_filmsAgain_27 : Dc mX12_filmsAgain 27 (.aload_n 0) 1 28 := ⟨zo_42 (by decide +kernel), rfl⟩
theorem dX12_filmsAgain_28 : Dc mX12_filmsAgain 28 (.getfield 90) 3 31 := ⟨zo_180 (w := 0) (x := 90) (by decide +kernel), rfl⟩
theorem dX12_filmsAgain_31 : Dc mX12_filmsAgain 31 (.iload_n 1) 1 32 := ⟨zo_27 (by decide +kernel), rfl⟩
theorem dX12_filmsAgain_32 : Dc mX12_filmsAgain 32 (.iaload) 1 33 := ⟨zo_46 (by decide +kernel), rfl⟩
theorem dX12_filmsAgain_33 : Dc mX12_filmsAgain 33 (.if_icmp .le 6) 3 36 := ⟨zo_164 (w := 0) (x := 6) (by decide +kernel), rfl⟩
theorem dX12_filmsAgain_36 : Dc mX12_filmsAgain 36 (.goto 109) 3 39 := ⟨zo_167 (w := 0) (x := 109) (by decide +kernel), rfl⟩
theorem dX12_filmsAgain_39 : Dc mX12_filmsAgain 39 (.aload_n 0) 1 40 := ⟨zo_42 (by decide +kernel), rfl⟩
theorem dX12_filmsAgain_40 : Dc mX12_filmsAgain 40 (.getfield 90) 3 43 := ⟨zo_180 (w := 0) (x := 90) (by decide +kernel), rfl⟩
theorem dX12_filmsAgain_43 : Dc mX12_filmsAgain 43 (.iload_n 1) 1 44 := ⟨zo_27 (by decide +kernel), rfl⟩
theorem dX12_filmsAgain_44 : Dc mX12_filmsAgain 44 (.dup2) 1 45 := ⟨zo_92 (by decide +kernel), rfl⟩
theorem dX12_filmsAgain_45 : Dc mX12_filmsAgain 45 (.iaload) 1 46 := ⟨zo_46 (by decide +kernel), rfl⟩
theorem dX12_filmsAgain_46 : Dc mX12_filmsAgain 46 (.aload_n 0) 1 47 := ⟨zo_42 (by decide +kernel), rfl⟩
theorem dX12_filmsAgain_47 : Dc mX12_filmsAgain 47 (.iload_n 1) 1 48 := ⟨zo_27 (by decide +kernel), rfl⟩
theorem dX12_filmsAgain_48 : Dc mX12_filmsAgain 48 (.iload_n 2) 1 49 := ⟨zo_28 (by decide +kernel), rfl⟩
theorem dX12_filmsAgain_49 : Dc mX12_filmsAgain 49 (.invokevirtual 424) 3 52 := ⟨zo_182 (w := 1) (x := 168) (by decide +kernel), rfl⟩
theorem dX12_filmsAgain_52 : Dc mX12_filmsAgain 52 (.isub) 1 53 := ⟨zo_100 (by decide +kernel), rfl⟩
theorem dX12_filmsAgain_53 : Dc mX12_filmsAgain 53 (.iastore) 1 54 := ⟨zo_79 (by decide +kernel), rfl⟩
theorem dX12_filmsAgain_54 : Dc mX12_filmsAgain 54 (.aload_n 0) 1 55 := ⟨zo_42 (by decide +kernel), rfl⟩
theorem dX12_filmsAgain_55 : Dc mX12_filmsAgain 55 (.getfield 114) 3 58 := ⟨zo_180 (w := 0) (x := 114) (by decide +kernel), rfl⟩
theorem dX12_filmsAgain_58 : Dc mX12_filmsAgain 58 (.bipush 8) 2 60 := ⟨zo_16 (w := 8) (by decide +kernel), rfl⟩
theorem dX12_filmsAgain_60 : Dc mX12_filmsAgain 60 (.iload_n 1) 1 61 := ⟨zo_27 (by decide +kernel), rfl⟩
theorem dX12_filmsAgain_61 : Dc mX12_filmsAgain 61 (.imul) 1 62 := ⟨zo_104 (by decide +kernel), rfl⟩
theorem dX12_filmsAgain_62 : Dc mX12_filmsAgain 62 (.iload_n 2) 1 63 := ⟨zo_28 (by decide +kernel), rfl⟩
theorem dX12_filmsAgain_63 : Dc mX12_filmsAgain 63 (.iadd) 1 64 := ⟨zo_96 (by decide +kernel), rfl⟩
theorem dX12_filmsAgain_64 : Dc mX12_filmsAgain 64 (.dup2) 1 65 := ⟨zo_92 (by decide +kernel), rfl⟩
theorem dX12_filmsAgain_65 : Dc mX12_filmsAgain 65 (.iaload) 1 66 := ⟨zo_46 (by decide +kernel), rfl⟩
theorem dX12_filmsAgain_66 : Dc mX12_filmsAgain 66 (.iconst 1) 1 67 := ⟨zo_4 (by decide +kernel), rfl⟩
theorem dX12_filmsAgain_67 : Dc mX12_filmsAgain 67 (.iadd) 1 68 := ⟨zo_96 (by decide +kernel), rfl⟩
theorem dX12_filmsAgain_68 : Dc mX12_filmsAgain 68 (.iastore) 1 69 := ⟨zo_79 (by decide +kernel), rfl⟩
theorem dX12_filmsAgain_69 : Dc mX12_filmsAgain 69 (.iconst 0) 1 70 := ⟨zo_3 (by decide +kernel), rfl⟩
theorem dX12_filmsAgain_70 : Dc mX12_filmsAgain 70 (.istore_n 3) 1 71 := ⟨zo_62 (by decide +kernel), rfl⟩
theorem dX12_filmsAgain_71 : Dc mX12_filmsAgain 71 (.iload_n 3) 1 72 := ⟨zo_29 (by decide +kernel), rfl⟩
theorem dX12_filmsAgain_72 : Dc mX12_filmsAgain 72 (.aload_n 0) 1 73 := ⟨zo_42 (by decide +kernel), rfl⟩
theorem dX12_filmsAgain_73 : Dc mX12_filmsAgain 73 (.getfield 13) 3 76 := ⟨zo_180 (w := 0) (x := 13) (by decide +kernel), rfl⟩
theorem dX12_filmsAgain_76 : Dc mX12_filmsAgain 76 (.iconst 0) 1 77 := ⟨zo_3 (by decide +kernel), rfl⟩
theorem dX12_filmsAgain_77 : Dc mX12_filmsAgain 77 (.iaload) 1 78 := ⟨zo_46 (by decide +kernel), rfl⟩
theorem dX12_filmsAgain_78 : Dc mX12_filmsAgain 78 (.if_icmp .ge 66) 3 81 := ⟨zo_162 (w := 0) (x := 66) (by decide +kernel), rfl⟩
theorem dX12_filmsAgain_81 : Dc mX12_filmsAgain 81 (.bipush 48) 2 83 := ⟨zo_16 (w := 48) (by decide +kernel), rfl⟩
theorem dX12_filmsAgain_83 : Dc mX12_filmsAgain 83 (.iload_n 1) 1 84 := ⟨zo_27 (by decide +kernel), rfl⟩
theorem dX12_filmsAgain_84 : Dc mX12_filmsAgain 84 (.imul) 1 85 := ⟨zo_104 (by decide +kernel), rfl⟩
theorem dX12_filmsAgain_85 : Dc mX12_filmsAgain 85 (.bipush 6) 2 87 := ⟨zo_16 (w := 6) (by decide +kernel), rfl⟩
theorem dX12_filmsAgain_87 : Dc mX12_filmsAgain 87 (.iload_n 2) 1 88 := ⟨zo_28 (by decide +kernel), rfl⟩
theorem dX12_filmsAgain_88 : Dc mX12_filmsAgain 88 (.imul) 1 89 := ⟨zo_104 (by decide +kernel), rfl⟩
theorem dX12_filmsAgain_89 : Dc mX12_filmsAgain 89 (.iadd) 1 90 := ⟨zo_96 (by decide +kernel), rfl⟩
theorem dX12_filmsAgain_90 : Dc mX12_filmsAgain 90 (.iload_n 3) 1 91 := ⟨zo_29 (by decide +kernel), rfl⟩
theorem dX12_filmsAgain_91 : Dc mX12_filmsAgain 91 (.iadd) 1 92 := ⟨zo_96 (by decide +kernel), rfl⟩
theorem dX12_filmsAgain_92 : Dc mX12_filmsAgain 92 (.istore 4) 2 94 := ⟨zo_54 (by decide +kernel), rfl⟩
theorem dX12_filmsAgain_94 : Dc mX12_filmsAgain 94 (.aload_n 0) 1 95 := ⟨zo_42 (by decide +kernel), rfl⟩
theorem dX12_filmsAgain_95 : Dc mX12_filmsAgain 95 (.getfield 117) 3 98 := ⟨zo_180 (w := 0) (x := 117) (by decide +kernel), rfl⟩
theorem dX12_filmsAgain_98 : Dc mX12_filmsAgain 98 (.iload 4) 2 100 := ⟨zo_21 (by decide +kernel), rfl⟩
theorem dX12_filmsAgain_100 : Dc mX12_filmsAgain 100 (.iaload) 1 101 := ⟨zo_46 (by decide +kernel), rfl⟩
theorem dX12_filmsAgain_101 : Dc mX12_filmsAgain 101 (.iconst (-1)) 1 102 := ⟨zo_2 (by decide +kernel), rfl⟩
theorem dX12_filmsAgain_102 : Dc mX12_filmsAgain 102 (.if_icmp .eq 36) 3 105 := ⟨zo_159 (w := 0) (x := 36) (by decide +kernel), rfl⟩
theorem dX12_filmsAgain_105 : Dc mX12_filmsAgain 105 (.aload_n 0) 1 106 := ⟨zo_42 (by decide +kernel), rfl⟩
theorem dX12_filmsAgain_106 : Dc mX12_filmsAgain 106 (.getfield 102) 3 109 := ⟨zo_180 (w := 0) (x := 102) (by decide +kernel), rfl⟩
theorem dX12_filmsAgain_109 : Dc mX12_filmsAgain 109 (.bipush 6) 2 111 := ⟨zo_16 (w := 6) (by decide +kernel), rfl⟩
theorem dX12_filmsAgain_111 : Dc mX12_filmsAgain 111 (.iload_n 1) 1 112 := ⟨zo_27 (by decide +kernel), rfl⟩
theorem dX12_filmsAgain_112 : Dc mX12_filmsAgain 112 (.imul) 1 113 := ⟨zo_104 (by decide +kernel), rfl⟩
theorem dX12_filmsAgain_113 : Dc mX12_filmsAgain 113 (.iload_n 3) 1 114 := ⟨zo_29 (by decide +kernel), rfl⟩
theorem dX12_filmsAgain_114 : Dc mX12_filmsAgain 114 (.iadd) 1 115 := ⟨zo_96 (by decide +kernel), rfl⟩
theorem dX12_filmsAgain_115 : Dc mX12_filmsAgain 115 (.iaload) 1 116 := ⟨zo_46 (by decide +kernel), rfl⟩
theorem dX12_filmsAgain_116 : Dc mX12_filmsAgain 116 (.iconst (-1)) 1 117 := ⟨zo_2 (by decide +kernel), rfl⟩
theorem dX12_filmsAgain_117 : Dc mX12_filmsAgain 117 (.if_icmp .eq 21) 3 120 := ⟨zo_159 (w := 0) (x := 21) (by decide +kernel), rfl⟩
theorem dX12_filmsAgain_120 : Dc mX12_filmsAgain 120 (.aload_n 0) 1 121 := ⟨zo_42 (by decide +kernel), rfl⟩
theorem dX12_filmsAgain_121 : Dc mX12_filmsAgain 121 (.getfield 117) 3 124 := ⟨zo_180 (w := 0) (x := 117) (by decide +kernel), rfl⟩
theorem dX12_filmsAgain_124 : Dc mX12_filmsAgain 124 (.iload 4) 2 126 := ⟨zo_21 (by decide +kernel), rfl⟩
theorem dX12_filmsAgain_126 : Dc mX12_filmsAgain 126 (.aload_n 0) 1 127 := ⟨zo_42 (by decide +kernel), rfl⟩
theorem dX12_filmsAgain_127 : Dc mX12_filmsAgain 127 (.getfield 102) 3 130 := ⟨zo_180 (w := 0) (x := 102) (by decide +kernel), rfl⟩
theorem dX12_filmsAgain_130 : Dc mX12_filmsAgain 130 (.bipush 6) 2 132 := ⟨zo_16 (w := 6) (by decide +kernel), rfl⟩
theorem dX12_filmsAgain_132 : Dc mX12_filmsAgain 132 (.iload_n 1) 1 133 := ⟨zo_27 (by decide +kernel), rfl⟩
theorem dX12_filmsAgain_133 : Dc mX12_filmsAgain 133 (.imul) 1 134 := ⟨zo_104 (by decide +kernel), rfl⟩
theorem dX12_filmsAgain_134 : Dc mX12_filmsAgain 134 (.iload_n 3) 1 135 := ⟨zo_29 (by decide +kernel), rfl⟩
theorem dX12_filmsAgain_135 : Dc mX12_filmsAgain 135 (.iadd) 1 136 := ⟨zo_96 (by decide +kernel), rfl⟩
theorem dX12_filmsAgain_136 : Dc mX12_filmsAgain 136 (.iaload) 1 137 := ⟨zo_46 (by decide +kernel), rfl⟩
theorem dX12_filmsAgain_137 : Dc mX12_filmsAgain 137 (.iastore) 1 138 := ⟨zo_79 (by decide +kernel), rfl⟩
theorem dX12_filmsAgain_138 : Dc mX12_filmsAgain 138 (.iinc 3 1) 3 141 := ⟨zo_iinc (x := 1) (by decide +kernel), rfl⟩
theorem dX12_filmsAgain_141 : Dc mX12_filmsAgain 141 (.goto (-70)) 3 144 := ⟨zo_167 (w := 255) (x := 186) (by decide +kernel), rfl⟩
theorem dX12_filmsAgain_144 : Dc mX12_filmsAgain 144 (.return_) 1 145 := ⟨zo_177 (by decide +kernel), rfl⟩
theorem dX12_filmsAgain_145 : Dc mX12_filmsAgain 145 (.iinc 2 1) 3 148 := ⟨zo_iinc (x := 1) (by decide +kernel), rfl⟩
theorem dX12_filmsAgain_148 : Dc mX12_filmsAgain 148 (.goto (-146)) 3 151 := ⟨zo_167 (w := 255) (x := 110) (by decide +kernel), rfl⟩
theorem dX12_filmsAgain_151 : Dc mX12_filmsAgain 151 (.return_) 1 152 := ⟨zo_177 (by decide +kernel), rfl⟩
theorem dX12_passes_0 : Dc mX12_passes 0 (.aload_n 0) 1 1 := ⟨zo_42 (by decide +kernel), rfl⟩
theorem dX12_passes_1 : Dc mX12_passes 1 (.iload_n 1) 1 2 := ⟨zo_27 (by decide +kernel), rfl⟩
theorem dX12_passes_2 : Dc mX12_passes 2 (.iload_n 2) 1 3 := ⟨zo_28 (by decide +kernel), rfl⟩
theorem dX12_passes_3 : Dc mX12_passes 3 (.invokevirtual 427) 3 6 := ⟨zo_182 (w := 1) (x := 171) (by decide +kernel), rfl⟩
theorem dX12_passes_6 : Dc mX12_passes 6 (.istore_n 3) 1 7 := ⟨zo_62 (by decide +kernel), rfl⟩
theorem dX12_passes_7 : Dc mX12_passes 7 (.aload_n 0) 1 8 := ⟨zo_42 (by decide +kernel), rfl⟩
theorem dX12_passes_8 : Dc mX12_passes 8 (.getfield 96) 3 11 := ⟨zo_180 (w := 0) (x := 96) (by decide +kernel), rfl⟩
theorem dX12_passes_11 : Dc mX12_passes 11 (.iload_n 1) 1 12 := ⟨zo_27 (by decide +kernel), rfl⟩
theorem dX12_passes_12 : Dc mX12_passes 12 (.iload_n 3) 1 13 := ⟨zo_29 (by decide +kernel), rfl⟩
theorem dX12_passes_13 : Dc mX12_passes 13 (.ifCond .eq 14) 3 16 := ⟨zo_153 (w := 0) (x := 14) (by decide +kernel), rfl⟩
theorem dX12_passes_16 : Dc mX12_passes 16 (.aload_n 0) 1 17 := ⟨zo_42 (by decide +kernel), rfl⟩
theorem dX12_passes_17 : Dc mX12_passes 17 (.getfield 96) 3 20 := ⟨zo_180 (w := 0) (x := 96) (by decide +kernel), rfl⟩
theorem dX12_passes_20 : Dc mX12_passes 20 (.iload_n 1) 1 21 := ⟨zo_27 (by decide +kernel), rfl⟩
theorem dX12_passes_21 : Dc mX12_passes 21 (.iaload) 1 22 := ⟨zo_46 (by decide +kernel), rfl⟩
theorem dX12_passes_22 : Dc mX12_passes 22 (.iconst 1) 1 23 := ⟨zo_4 (by decide +kernel), rfl⟩
theorem dX12_passes_23 : Dc mX12_passes 23 (.iadd) 1 24 := ⟨zo_96 (by decide +kernel), rfl⟩
theorem dX12_passes_24 : Dc mX12_passes 24 (.goto 4) 3 27 := ⟨zo_167 (w := 0) (x := 4) (by decide +kernel), rfl⟩
theorem dX12_passes_27 : Dc mX12_passes 27 (.iconst 0) 1 28 := ⟨zo_3 (by decide +kernel), rfl⟩
theorem dX12_passes_28 : Dc mX12_passes 28 (.iastore) 1 29 := ⟨zo_79 (by decide +kernel), rfl⟩
theorem dX12_passes_29 : Dc mX12_passes 29 (.aload_n 0) 1 30 := ⟨zo_42 (by decide +kernel), rfl⟩
theorem dX12_passes_30 : Dc mX12_passes 30 (.getfield 99) 3 33 := ⟨zo_180 (w := 0) (x := 99) (by decide +kernel), rfl⟩
theorem dX12_passes_33 : Dc mX12_passes 33 (.iload_n 1) 1 34 := ⟨zo_27 (by decide +kernel), rfl⟩
theorem dX12_passes_34 : Dc mX12_passes 34 (.dup2) 1 35 := ⟨zo_92 (by decide +kernel), rfl⟩
theorem dX12_passes_35 : Dc mX12_passes 35 (.iaload) 1 36 := ⟨zo_46 (by decide +kernel), rfl⟩
theorem dX12_passes_36 : Dc mX12_passes 36 (.iload_n 3) 1 37 := ⟨zo_29 (by decide +kernel), rfl⟩
theorem dX12_passes_37 : Dc mX12_passes 37 (.ifCond .eq 7) 3 40 := ⟨zo_153 (w := 0) (x := 7) (by decide +kernel), rfl⟩
theorem dX12_passes_40 : Dc mX12_passes 40 (.iconst 1) 1 41 := ⟨zo_4 (by decide +kernel), rfl⟩
theorem dX12_passes_41 : Dc mX12_passes 41 (.goto 4) 3 44 := ⟨zo_167 (w := 0) (x := 4) (by decide +kernel), rfl⟩
theorem dX12_passes_44 : Dc mX12_passes 44 (.iconst 0) 1 45 := ⟨zo_3 (by decide +kernel), rfl⟩
theorem dX12_passes_45 : Dc mX12_passes 45 (.iadd) 1 46 := ⟨zo_96 (by decide +kernel), rfl⟩
theorem dX12_passes_46 : Dc mX12_passes 46 (.iastore) 1 47 := ⟨zo_79 (by decide +kernel), rfl⟩
theorem dX12_passes_47 : Dc mX12_passes 47 (.iconst 0) 1 48 := ⟨zo_3 (by decide +kernel), rfl⟩
theorem dX12_passes_48 : Dc mX12_passes 48 (.istore 4) 2 50 := ⟨zo_54 (by decide +kernel), rfl⟩
theorem dX12_passes_50 : Dc mX12_passes 50 (.iload 4) 2 52 := ⟨zo_21 (by decide +kernel), rfl⟩
theorem dX12_passes_52 : Dc mX12_passes 52 (.aload_n 0) 1 53 := ⟨zo_42 (by decide +kernel), rfl⟩
theorem dX12_passes_53 : Dc mX12_passes 53 (.getfield 13) 3 56 := ⟨zo_180 (w := 0) (x := 13) (by decide +kernel), rfl⟩
theorem dX12_passes_56 : Dc mX12_passes 56 (.iconst 1) 1 57 := ⟨zo_4 (by decide +kernel), rfl⟩
theorem dX12_passes_57 : Dc mX12_passes 57 (.iaload) 1 58 := ⟨zo_46 (by decide +kernel), rfl⟩
theorem dX12_passes_58 : Dc mX12_passes 58 (.if_icmp .ge 48) 3 61 := ⟨zo_162 (w := 0) (x := 48) (by decide +kernel), rfl⟩
theorem dX12_passes_61 : Dc mX12_passes 61 (.aload_n 0) 1 62 := ⟨zo_42 (by decide +kernel), rfl⟩
theorem dX12_passes_62 : Dc mX12_passes 62 (.iload_n 1) 1 63 := ⟨zo_27 (by decide +kernel), rfl⟩
theorem dX12_passes_63 : Dc mX12_passes 63 (.iload 4) 2 65 := ⟨zo_21 (by decide +kernel), rfl⟩
theorem dX12_passes_65 : Dc mX12_passes 65 (.invokevirtual 367) 3 68 := ⟨zo_182 (w := 1) (x := 111) (by decide +kernel), rfl⟩
theorem dX12_passes_68 : Dc mX12_passes 68 (.ifCond .ne 32) 3 71 := ⟨zo_154 (w := 0) (x := 32) (by decide +kernel), rfl⟩
theorem dX12_passes_71 : Dc mX12_passes 71 (.aload_n 0) 1 72 := ⟨zo_42 (by decide +kernel), rfl⟩
theorem dX12_passes_72 : Dc mX12_passes 72 (.getfield 108) 3 75 := ⟨zo_180 (w := 0) (x := 108) (by decide +kernel), rfl⟩
theorem dX12_passes_75 : Dc mX12_passes 75 (.bipush 8) 2 77 := ⟨zo_16 (w := 8) (by decide +kernel), rfl⟩
theorem dX12_passes_77 : Dc mX12_passes 77 (.iload_n 1) 1 78 := ⟨zo_27 (by decide +kernel), rfl⟩
theorem dX12_passes_78 : Dc mX12_passes 78 (.imul) 1 79 := ⟨zo_104 (by decide +kernel), rfl⟩
theorem dX12_passes_79 : Dc mX12_passes 79 (.iload 4) 2 81 := ⟨zo_21 (by decide +kernel), rfl⟩
theorem dX12_passes_81 : Dc mX12_passes 81 (.iadd) 1 82 := ⟨zo_96 (by decide +kernel), rfl⟩
theorem dX12_passes_82 : Dc mX12_passes 82 (.iaload) 1 83 := ⟨zo_46 (by decide +kernel), rfl⟩
theorem dX12_passes_83 : Dc mX12_passes 83 (.aload_n 0) 1 84 := ⟨zo_42 (by decide +kernel), rfl⟩
theorem dX12_passes_84 : Dc mX12_passes 84 (.getfield 84) 3 87 := ⟨zo_180 (w := 0) (x := 84) (by decide +kernel), rfl⟩
theorem dX12_passes_87 : Dc mX12_passes 87 (.iload_n 1) 1 88 := ⟨zo_27 (by decide +kernel), rfl⟩
theorem dX12_passes_88 : Dc mX12_passes 88 (.iaload) 1 89 := ⟨zo_46 (by decide +kernel), rfl⟩
theorem dX12_passes_89 : Dc mX12_passes 89 (.if_icmp .ne 11) 3 92 := ⟨zo_160 (w := 0) (x := 11) (by decide +kernel), rfl⟩
theorem dX12_passes_92 : Dc mX12_passes 92 (.aload_n 0) 1 93 := ⟨zo_42 (by decide +kernel), rfl⟩
theorem dX12_passes_93 : Dc mX12_passes 93 (.iload_n 1) 1 94 := ⟨zo_27 (by decide +kernel), rfl⟩
theorem dX12_passes_94 : Dc mX12_passes 94 (.iload 4) 2 96 := ⟨zo_21 (by decide +kernel), rfl⟩
theorem dX12_passes_96 : Dc mX12_passes 96 (.iload_n 3) 1 97 := ⟨zo_29 (by decide +kernel), rfl⟩
theorem dX12_passes_97 : Dc mX12_passes 97 (.invokevirtual 430) 3 100 := ⟨zo_182 (w := 1) (x := 174) (by decide +kernel), rfl⟩
theorem dX12_passes_100 : Dc mX12_passes 100 (.iinc 4 1) 3 103 := ⟨zo_iinc (x := 1) (by decide +kernel), rfl⟩
theorem dX12_passes_103 : Dc mX12_passes 103 (.goto (-53)) 3 106 := ⟨zo_167 (w := 255) (x := 203) (by decide +kernel), rfl⟩
theorem dX12_passes_106 : Dc mX12_passes 106 (.iconst 0) 1 107 := ⟨zo_3 (by decide +kernel), rfl⟩
theorem dX12_passes_107 : Dc mX12_passes 107 (.istore 4) 2 109 := ⟨zo_54 (by decide +kernel), rfl⟩
theorem dX12_passes_109 : Dc mX12_passes 109 (.iload 4) 2 111 := ⟨zo_21 (by decide +kernel), rfl⟩
theorem dX12_passes_111 : Dc mX12_passes 111 (.aload_n 0) 1 112 := ⟨zo_42 (by decide +kernel), rfl⟩
theorem dX12_passes_112 : Dc mX12_passes 112 (.getfield 13) 3 115 := ⟨zo_180 (w := 0) (x := 13) (by decide +kernel), rfl⟩
theorem dX12_passes_115 : Dc mX12_passes 115 (.iconst 3) 1 116 := ⟨zo_6 (by decide +kernel), rfl⟩
theorem dX12_passes_116 : Dc mX12_passes 116 (.iaload) 1 117 := ⟨zo_46 (by decide +kernel), rfl⟩
theorem dX12_passes_117 : Dc mX12_passes 117 (.if_icmp .ge 20) 3 120 := ⟨zo_162 (w := 0) (x := 20) (by decide +kernel), rfl⟩
theorem dX12_passes_120 : Dc mX12_passes 120 (.iload_n 3) 1 121 := ⟨zo_29 (by decide +kernel), rfl⟩
theorem dX12_passes_121 : Dc mX12_passes 121 (.ifCond .ne 16) 3 124 := ⟨zo_154 (w := 0) (x := 16) (by decide +kernel), rfl⟩
theorem dX12_passes_124 : Dc mX12_passes 124 (.aload_n 0) 1 125 := ⟨zo_42 (by decide +kernel), rfl⟩
theorem dX12_passes_125 : Dc mX12_passes 125 (.iload_n 1) 1 126 := ⟨zo_27 (by decide +kernel), rfl⟩
theorem dX12_passes_126 : Dc mX12_passes 126 (.iload 4) 2 128 := ⟨zo_21 (by decide +kernel), rfl⟩
theorem dX12_passes_128 : Dc mX12_passes 128 (.invokevirtual 434) 3 131 := ⟨zo_182 (w := 1) (x := 178) (by decide +kernel), rfl⟩
theorem dX12_passes_131 : Dc mX12_passes 131 (.iinc 4 1) 3 134 := ⟨zo_iinc (x := 1) (by decide +kernel), rfl⟩
theorem dX12_passes_134 : Dc mX12_passes 134 (.goto (-25)) 3 137 := ⟨zo_167 (w := 255) (x := 231) (by decide +kernel), rfl⟩
theorem dX12_passes_137 : Dc mX12_passes 137 (.aload_n 0) 1 138 := ⟨zo_42 (by decide +kernel), rfl⟩
theorem dX12_passes_138 : Dc mX12_passes 138 (.getfield 361) 3 141 := ⟨zo_180 (w := 1) (x := 105) (by decide +kernel), rfl⟩
theorem dX12_passes_141 : Dc mX12_passes 141 (.iconst 3) 1 142 := ⟨zo_6 (by decide +kernel), rfl⟩
theorem dX12_passes_142 : Dc mX12_passes 142 (.if_icmp .eq 8) 3 145 := ⟨zo_159 (w := 0) (x := 8) (by decide +kernel), rfl⟩
theorem dX12_passes_145 : Dc mX12_passes 145 (.aload_n 0) 1 146 := ⟨zo_42 (by decide +kernel), rfl⟩
theorem dX12_passes_146 : Dc mX12_passes 146 (.iload_n 1) 1 147 := ⟨zo_27 (by decide +kernel), rfl⟩
theorem dX12_passes_147 : Dc mX12_passes 147 (.invokevirtual 437) 3 150 := ⟨zo_182 (w := 1) (x := 181) (by decide +kernel), rfl⟩
theorem dX12_passes_150 : Dc mX12_passes 150 (.aload_n 0) 1 151 := ⟨zo_42 (by decide +kernel), rfl⟩
theorem dX12_passes_151 : Dc mX12_passes 151 (.getfield 84) 3 154 := ⟨zo_180 (w := 0) (x := 84) (by decide +kernel), rfl⟩
theorem dX12_passes_154 : Dc mX12_passes 154 (.iload_n 1) 1 155 := ⟨zo_27 (by decide +kernel), rfl⟩
theorem dX12_passes_155 : Dc mX12_passes 155 (.dup2) 1 156 := ⟨zo_92 (by decide +kernel), rfl⟩
theorem dX12_passes_156 : Dc mX12_passes 156 (.iaload) 1 157 := ⟨zo_46 (by decide +kernel), rfl⟩
theorem dX12_passes_157 : Dc mX12_passes 157 (.iconst 1) 1 158 := ⟨zo_4 (by decide +kernel), rfl⟩
theorem dX12_passes_158 : Dc mX12_passes 158 (.iadd) 1 159 := ⟨zo_96 (by decide +kernel), rfl⟩
theorem dX12_passes_159 : Dc mX12_passes 159 (.iastore) 1 160 := ⟨zo_79 (by decide +kernel), rfl⟩
theorem dX12_passes_160 : Dc mX12_passes 160 (.return_) 1 161 := ⟨zo_177 (by decide +kernel), rfl⟩
theorem dX12_goesOn_0 : Dc mX12_goesOn 0 (.iconst 0) 1 1 := ⟨zo_3 (by decide +kernel), rfl⟩
theorem dX12_goesOn_1 : Dc mX12_goesOn 1 (.istore_n 2) 1 2 := ⟨zo_61 (by decide +kernel), rfl⟩
theorem dX12_goesOn_2 : Dc mX12_goesOn 2 (.iload_n 2) 1 3 := ⟨zo_28 (by decide +kernel), rfl⟩
theorem dX12_goesOn_3 : Dc mX12_goesOn 3 (.iload_n 1) 1 4 := ⟨zo_27 (by decide +kernel), rfl⟩
theorem dX12_goesOn_4 : Dc mX12_goesOn 4 (.if_icmp .ge 15) 3 7 := ⟨zo_162 (w := 0) (x := 15) (by decide +kernel), rfl⟩
theorem dX12_goesOn_7 : Dc mX12_goesOn 7 (.aload_n 0) 1 8 := ⟨zo_42 (by decide +kernel), rfl⟩
theorem dX12_goesOn_8 : Dc mX12_goesOn 8 (.iconst 1) 1 9 := ⟨zo_4 (by decide +kernel), rfl⟩
theorem dX12_goesOn_9 : Dc mX12_goesOn 9 (.iconst 0) 1 10 := ⟨zo_3 (by decide +kernel), rfl⟩
theorem dX12_goesOn_10 : Dc mX12_goesOn 10 (.invokevirtual 440) 3 13 := ⟨zo_182 (w := 1) (x := 184) (by decide +kernel), rfl⟩
theorem dX12_goesOn_13 : Dc mX12_goesOn 13 (.iinc 2 1) 3 16 := ⟨zo_iinc (x := 1) (by decide +kernel), rfl⟩
theorem dX12_goesOn_16 : Dc mX12_goesOn 16 (.goto (-14)) 3 19 := ⟨zo_167 (w := 255) (x := 242) (by decide +kernel), rfl⟩
theorem dX12_goesOn_19 : Dc mX12_goesOn 19 (.return_) 1 20 := ⟨zo_177 (by decide +kernel), rfl⟩
theorem dX12_runs_0 : Dc mX12_runs 0 (.aload_n 0) 1 1 := ⟨zo_42 (by decide +kernel), rfl⟩
theorem dX12_runs_1 : Dc mX12_runs 1 (.iconst 1) 1 2 := ⟨zo_4 (by decide +kernel), rfl⟩
theorem dX12_runs_2 : Dc mX12_runs 2 (.iconst 0) 1 3 := ⟨zo_3 (by decide +kernel), rfl⟩
theorem dX12_runs_3 : Dc mX12_runs 3 (.invokevirtual 444) 3 6 := ⟨zo_182 (w := 1) (x := 188) (by decide +kernel), rfl⟩
theorem dX12_runs_6 : Dc mX12_runs 6 (.aload_n 0) 1 7 := ⟨zo_42 (by decide +kernel), rfl⟩
theorem dX12_runs_7 : Dc mX12_runs 7 (.iload_n 1) 1 8 := ⟨zo_27 (by decide +kernel), rfl⟩
theorem dX12_runs_8 : Dc mX12_runs 8 (.invokevirtual 447) 3 11 := ⟨zo_182 (w := 1) (x := 191) (by decide +kernel), rfl⟩
theorem dX12_runs_11 : Dc mX12_runs 11 (.return_) 1 12 := ⟨zo_177 (by decide +kernel), rfl⟩
theorem dX12_sumOf_0 : Dc mX12_sumOf 0 (.iconst 0) 1 1 := ⟨zo_3 (by decide +kernel), rfl⟩
theorem dX12_sumOf_1 : Dc mX12_sumOf 1 (.istore_n 3) 1 2 := ⟨zo_62 (by decide +kernel), rfl⟩
theorem dX12_sumOf_2 : Dc mX12_sumOf 2 (.iconst 0) 1 3 := ⟨zo_3 (by decide +kernel), rfl⟩
theorem dX12_sumOf_3 : Dc mX12_sumOf 3 (.istore 4) 2 5 := ⟨zo_54 (by decide +kernel), rfl⟩
theorem dX12_sumOf_5 : Dc mX12_sumOf 5 (.iload 4) 2 7 := ⟨zo_21 (by decide +kernel), rfl⟩
theorem dX12_sumOf_7 : Dc mX12_sumOf 7 (.bipush 8) 2 9 := ⟨zo_16 (w := 8) (by decide +kernel), rfl⟩
theorem dX12_sumOf_9 : Dc mX12_sumOf 9 (.if_icmp .ge 21) 3 12 := ⟨zo_162 (w := 0) (x := 21) (by decide +kernel), rfl⟩
theorem dX12_sumOf_12 : Dc mX12_sumOf 12 (.iload_n 3) 1 13 := ⟨zo_29 (by decide +kernel), rfl⟩
theorem dX12_sumOf_13 : Dc mX12_sumOf 13 (.aload_n 1) 1 14 := ⟨zo_43 (by decide +kernel), rfl⟩
theorem dX12_sumOf_14 : Dc mX12_sumOf 14 (.bipush 8) 2 16 := ⟨zo_16 (w := 8) (by decide +kernel), rfl⟩
theorem dX12_sumOf_16 : Dc mX12_sumOf 16 (.iload_n 2) 1 17 := ⟨zo_28 (by decide +kernel), rfl⟩
theorem dX12_sumOf_17 : Dc mX12_sumOf 17 (.imul) 1 18 := ⟨zo_104 (by decide +kernel), rfl⟩
theorem dX12_sumOf_18 : Dc mX12_sumOf 18 (.iload 4) 2 20 := ⟨zo_21 (by decide +kernel), rfl⟩
theorem dX12_sumOf_20 : Dc mX12_sumOf 20 (.iadd) 1 21 := ⟨zo_96 (by decide +kernel), rfl⟩
theorem dX12_sumOf_21 : Dc mX12_sumOf 21 (.iaload) 1 22 := ⟨zo_46 (by decide +kernel), rfl⟩
theorem dX12_sumOf_22 : Dc mX12_sumOf 22 (.iadd) 1 23 := ⟨zo_96 (by decide +kernel), rfl⟩
theorem dX12_sumOf_23 : Dc mX12_sumOf 23 (.istore_n 3) 1 24 := ⟨zo_62 (by decide +kernel), rfl⟩
theorem dX12_sumOf_24 : Dc mX12_sumOf 24 (.iinc 4 1) 3 27 := ⟨zo_iinc (x := 1) (by decide +kernel), rfl⟩
theorem dX12_sumOf_27 : Dc mX12_sumOf 27 (.goto (-22)) 3 30 := ⟨zo_167 (w := 255) (x := 234) (by decide +kernel), rfl⟩
theorem dX12_sumOf_30 : Dc mX12_sumOf 30 (.iload_n 3) 1 31 := ⟨zo_29 (by decide +kernel), rfl⟩
theorem dX12_sumOf_31 : Dc mX12_sumOf 31 (.ireturn) 1 32 := ⟨zo_172 (by decide +kernel), rfl⟩
theorem dX12_mark_0 : Dc mX12_mark 0 (.aload_n 0) 1 1 := ⟨zo_42 (by decide +kernel), rfl⟩
theorem dX12_mark_1 : Dc mX12_mark 1 (.aload_n 0) 1 2 := ⟨zo_42 (by decide +kernel), rfl⟩
theorem dX12_mark_2 : Dc mX12_mark 2 (.iload_n 1) 1 3 := ⟨zo_27 (by decide +kernel), rfl⟩
theorem dX12_mark_3 : Dc mX12_mark 3 (.invokevirtual 450) 3 6 := ⟨zo_182 (w := 1) (x := 194) (by decide +kernel), rfl⟩
theorem dX12_mark_6 : Dc mX12_mark 6 (.ifCond .ne 7) 3 9 := ⟨zo_154 (w := 0) (x := 7) (by decide +kernel), rfl⟩
theorem dX12_mark_9 : Dc mX12_mark 9 (.iconst 1) 1 10 := ⟨zo_4 (by decide +kernel), rfl⟩
theorem dX12_mark_10 : Dc mX12_mark 10 (.goto 17) 3 13 := ⟨zo_167 (w := 0) (x := 17) (by decide +kernel), rfl⟩
theorem dX12_mark_13 : Dc mX12_mark 13 (.iload_n 2) 1 14 := ⟨zo_28 (by decide +kernel), rfl⟩
theorem dX12_mark_14 : Dc mX12_mark 14 (.ifCond .lt 8) 3 17 := ⟨zo_155 (w := 0) (x := 8) (by decide +kernel), rfl⟩
theorem dX12_mark_17 : Dc mX12_mark 17 (.iload_n 2) 1 18 := ⟨zo_28 (by decide +kernel), rfl⟩
theorem dX12_mark_18 : Dc mX12_mark 18 (.iconst 4) 1 19 := ⟨zo_7 (by decide +kernel), rfl⟩
theorem dX12_mark_19 : Dc mX12_mark 19 (.if_icmp .le 7) 3 22 := ⟨zo_164 (w := 0) (x := 7) (by decide +kernel), rfl⟩
theorem dX12_mark_22 : Dc mX12_mark 22 (.iconst 2) 1 23 := ⟨zo_5 (by decide +kernel), rfl⟩
theorem dX12_mark_23 : Dc mX12_mark 23 (.goto 4) 3 26 := ⟨zo_167 (w := 0) (x := 4) (by decide +kernel), rfl⟩
theorem dX12_mark_26 : Dc mX12_mark 26 (.iconst 0) 1 27 := ⟨zo_3 (by decide +kernel), rfl⟩
theorem dX12_mark_27 : Dc mX12_mark 27 (.putfield 169) 3 30 := ⟨zo_181 (w := 0) (x := 169) (by decide +kernel), rfl⟩
theorem dX12_mark_30 : Dc mX12_mark 30 (.aload_n 0) 1 31 := ⟨zo_42 (by decide +kernel), rfl⟩
theorem dX12_mark_31 : Dc mX12_mark 31 (.getfield 169) 3 34 := ⟨zo_180 (w := 0) (x := 169) (by decide +kernel), rfl⟩
theorem dX12_mark_34 : Dc mX12_mark 34 (.ifCond .eq 5) 3 37 := ⟨zo_153 (w := 0) (x := 5) (by decide +kernel), rfl⟩
theorem dX12_mark_37 : Dc mX12_mark 37 (.iconst 0) 1 38 := ⟨zo_3 (by decide +kernel), rfl⟩
theorem dX12_mark_38 : Dc mX12_mark 38 (.ireturn) 1 39 := ⟨zo_172 (by decide +kernel), rfl⟩
theorem dX12_mark_39 : Dc mX12_mark 39 (.iload_n 2) 1 40 := ⟨zo_28 (by decide +kernel), rfl⟩
theorem dX12_mark_40 : Dc mX12_mark 40 (.tableswitch 60 0 3 #[32, 39, 46, 53]) 32 72 := ⟨by decide +kernel, rfl⟩
theorem dX12_mark_72 : Dc mX12_mark 72 (.aload_n 0) 1 73 := ⟨zo_42 (by decide +kernel), rfl⟩
theorem dX12_mark_73 : Dc mX12_mark 73 (.getfield 19) 3 76 := ⟨zo_180 (w := 0) (x := 19) (by decide +kernel), rfl⟩
theorem dX12_mark_76 : Dc mX12_mark 76 (.iload_n 1) 1 77 := ⟨zo_27 (by decide +kernel), rfl⟩
theorem dX12_mark_77 : Dc mX12_mark 77 (.iaload) 1 78 := ⟨zo_46 (by decide +kernel), rfl⟩
theorem dX12_mark_78 : Dc mX12_mark 78 (.ireturn) 1 79 := ⟨zo_172 (by decide +kernel), rfl⟩
theorem dX12_mark_79 : Dc mX12_mark 79 (.aload_n 0) 1 80 := ⟨zo_42 (by decide +kernel), rfl⟩
theorem dX12_mark_80 : Dc mX12_mark 80 (.getfield 22) 3 83 := ⟨zo_180 (w := 0) (x := 22) (by decide +kernel), rfl⟩
theorem dX12_mark_83 : Dc mX12_mark 83 (.iload_n 1) 1 84 := ⟨zo_27 (by decide +kernel), rfl⟩
theorem dX12_mark_84 : Dc mX12_mark 84 (.iaload) 1 85 := ⟨zo_46 (by decide +kernel), rfl⟩
theorem dX12_mark_85 : Dc mX12_mark 85 (.ireturn) 1 86 := ⟨zo_172 (by decide +kernel), rfl⟩
theorem dX12_mark_86 : Dc mX12_mark 86 (.aload_n 0) 1 87 := ⟨zo_42 (by decide +kernel), rfl⟩
theorem dX12_mark_87 : Dc mX12_mark 87 (.getfield 102) 3 90 := ⟨zo_180 (w := 0) (x := 102) (by decide +kernel), rfl⟩
theorem dX12_mark_90 : Dc mX12_mark 90 (.iload_n 1) 1 91 := ⟨zo_27 (by decide +kernel), rfl⟩
theorem dX12_mark_91 : Dc mX12_mark 91 (.iaload) 1 92 := ⟨zo_46 (by decide +kernel), rfl⟩
theorem dX12_mark_92 : Dc mX12_mark 92 (.ireturn) 1 93 := ⟨zo_172 (by decide +kernel), rfl⟩
theorem dX12_mark_93 : Dc mX12_mark 93 (.aload_n 0) 1 94 := ⟨zo_42 (by decide +kernel), rfl⟩
theorem dX12_mark_94 : Dc mX12_mark 94 (.getfield 105) 3 97 := ⟨zo_180 (w := 0) (x := 105) (by decide +kernel), rfl⟩
theorem dX12_mark_97 : Dc mX12_mark 97 (.iload_n 1) 1 98 := ⟨zo_27 (by decide +kernel), rfl⟩
theorem dX12_mark_98 : Dc mX12_mark 98 (.iaload) 1 99 := ⟨zo_46 (by decide +kernel), rfl⟩
theorem dX12_mark_99 : Dc mX12_mark 99 (.ireturn) 1 100 := ⟨zo_172 (by decide +kernel), rfl⟩
theorem dX12_mark_100 : Dc mX12_mark 100 (.aload_n 0) 1 101 := ⟨zo_42 (by decide +kernel), rfl⟩
theorem dX12_mark_101 : Dc mX12_mark 101 (.iconst 0) 1 102 := ⟨zo_3 (by decide +kernel), rfl⟩
theorem dX12_mark_102 : Dc mX12_mark 102 (.iload_n 1) 1 103 := ⟨zo_27 (by decide +kernel), rfl⟩
theorem dX12_mark_103 : Dc mX12_mark 103 (.iconst (-1)) 1 104 := ⟨zo_2 (by decide +kernel), rfl⟩
theorem dX12_mark_104 : Dc mX12_mark 104 (.invokevirtual 378) 3 107 := ⟨zo_182 (w := 1) (x := 122) (by decide +kernel), rfl⟩
theorem dX12_mark_107 : Dc mX12_mark 107 (.ireturn) 1 108 := ⟨zo_172 (by decide +kernel), rfl⟩
theorem dX12_shot_0 : Dc mX12_shot 0 (.aload_n 0) 1 1 := ⟨zo_42 (by decide +kernel), rfl⟩
theorem dX12_shot_1 : Dc mX12_shot 1 (.iconst 0) 1 2 := ⟨zo_3 (by decide +kernel), rfl⟩
theorem dX12_shot_2 : Dc mX12_shot 2 (.putfield 169) 3 5 := ⟨zo_181 (w := 0) (x := 169) (by decide +kernel), rfl⟩
theorem dX12_shot_5 : Dc mX12_shot 5 (.aload_n 0) 1 6 := ⟨zo_42 (by decide +kernel), rfl⟩
theorem dX12_shot_6 : Dc mX12_shot 6 (.iload_n 1) 1 7 := ⟨zo_27 (by decide +kernel), rfl⟩
theorem dX12_shot_7 : Dc mX12_shot 7 (.invokevirtual 453) 3 10 := ⟨zo_182 (w := 1) (x := 197) (by decide +kernel), rfl⟩
theorem dX12_shot_10 : Dc mX12_shot 10 (.ifCond .ne 5) 3 13 := ⟨zo_154 (w := 0) (x := 5) (by decide +kernel), rfl⟩
theorem dX12_shot_13 : Dc mX12_shot 13 (.iconst (-1)) 1 14 := ⟨zo_2 (by decide +kernel), rfl⟩
theorem dX12_shot_14 : Dc mX12_shot 14 (.ireturn) 1 15 := ⟨zo_172 (by decide +kernel), rfl⟩
theorem dX12_shot_15 : Dc mX12_shot 15 (.iload_n 2) 1 16 := ⟨zo_28 (by decide +kernel), rfl⟩
theorem dX12_shot_16 : Dc mX12_shot 16 (.tableswitch 71 0 4 #[36, 43, 50, 57, 64]) 36 52 := ⟨by decide +kernel, rfl⟩
theorem dX12_shot_52 : Dc mX12_shot 52 (.aload_n 0) 1 53 := ⟨zo_42 (by decide +kernel), rfl⟩
theorem dX12_shot_53 : Dc mX12_shot 53 (.getfield 28) 3 56 := ⟨zo_180 (w := 0) (x := 28) (by decide +kernel), rfl⟩
theorem dX12_shot_56 : Dc mX12_shot 56 (.iload_n 1) 1 57 := ⟨zo_27 (by decide +kernel), rfl⟩
theorem dX12_shot_57 : Dc mX12_shot 57 (.iaload) 1 58 := ⟨zo_46 (by decide +kernel), rfl⟩
theorem dX12_shot_58 : Dc mX12_shot 58 (.ireturn) 1 59 := ⟨zo_172 (by decide +kernel), rfl⟩
theorem dX12_shot_59 : Dc mX12_shot 59 (.aload_n 0) 1 60 := ⟨zo_42 (by decide +kernel), rfl⟩
theorem dX12_shot_60 : Dc mX12_shot 60 (.getfield 108) 3 63 := ⟨zo_180 (w := 0) (x := 108) (by decide +kernel), rfl⟩
theorem dX12_shot_63 : Dc mX12_shot 63 (.iload_n 1) 1 64 := ⟨zo_27 (by decide +kernel), rfl⟩
theorem dX12_shot_64 : Dc mX12_shot 64 (.iaload) 1 65 := ⟨zo_46 (by decide +kernel), rfl⟩
theorem dX12_shot_65 : Dc mX12_shot 65 (.ireturn) 1 66 := ⟨zo_172 (by decide +kernel), rfl⟩
theorem dX12_shot_66 : Dc mX12_shot 66 (.aload_n 0) 1 67 := ⟨zo_42 (by decide +kernel), rfl⟩
theorem dX12_shot_67 : Dc mX12_shot 67 (.getfield 111) 3 70 := ⟨zo_180 (w := 0) (x := 111) (by decide +kernel), rfl⟩
theorem dX12_shot_70 : Dc mX12_shot 70 (.iload_n 1) 1 71 := ⟨zo_27 (by decide +kernel), rfl⟩
theorem dX12_shot_71 : Dc mX12_shot 71 (.iaload) 1 72 := ⟨zo_46 (by decide +kernel), rfl⟩
theorem dX12_shot_72 : Dc mX12_shot 72 (.ireturn) 1 73 := ⟨zo_172 (by decide +kernel), rfl⟩
theorem dX12_shot_73 : Dc mX12_shot 73 (.aload_n 0) 1 74 := ⟨zo_42 (by decide +kernel), rfl⟩
theorem dX12_shot_74 : Dc mX12_shot 74 (.iconst 0) 1 75 := ⟨zo_3 (by decide +kernel), rfl⟩
theorem dX12_shot_75 : Dc mX12_shot 75 (.iload_n 1) 1 76 := ⟨zo_27 (by decide +kernel), rfl⟩
theorem dX12_shot_76 : Dc mX12_shot 76 (.invokevirtual 385) 3 79 := ⟨zo_182 (w := 1) (x := 129) (by decide +kernel), rfl⟩
theorem dX12_shot_79 : Dc mX12_shot 79 (.ireturn) 1 80 := ⟨zo_172 (by decide +kernel), rfl⟩
theorem dX12_shot_80 : Dc mX12_shot 80 (.aload_n 0) 1 81 := ⟨zo_42 (by decide +kernel), rfl⟩
theorem dX12_shot_81 : Dc mX12_shot 81 (.getfield 114) 3 84 := ⟨zo_180 (w := 0) (x := 114) (by decide +kernel), rfl⟩
theorem dX12_shot_84 : Dc mX12_shot 84 (.iload_n 1) 1 85 := ⟨zo_27 (by decide +kernel), rfl⟩
theorem dX12_shot_85 : Dc mX12_shot 85 (.iaload) 1 86 := ⟨zo_46 (by decide +kernel), rfl⟩
theorem dX12_shot_86 : Dc mX12_shot 86 (.ireturn) 1 87 := ⟨zo_172 (by decide +kernel), rfl⟩
theorem dX12_shot_87 : Dc mX12_shot 87 (.iconst (-1)) 1 88 := ⟨zo_2 (by decide +kernel), rfl⟩
theorem dX12_shot_88 : Dc mX12_shot 88 (.ireturn) 1 89 := ⟨zo_172 (by decide +kernel), rfl⟩
theorem dX12_way_0 : Dc mX12_way 0 (.aload_n 0) 1 1 := ⟨zo_42 (by decide +kernel), rfl⟩
theorem dX12_way_1 : Dc mX12_way 1 (.iconst 0) 1 2 := ⟨zo_3 (by decide +kernel), rfl⟩
theorem dX12_way_2 : Dc mX12_way 2 (.putfield 169) 3 5 := ⟨zo_181 (w := 0) (x := 169) (by decide +kernel), rfl⟩
theorem dX12_way_5 : Dc mX12_way 5 (.aload_n 0) 1 6 := ⟨zo_42 (by decide +kernel), rfl⟩
theorem dX12_way_6 : Dc mX12_way 6 (.iload_n 1) 1 7 := ⟨zo_27 (by decide +kernel), rfl⟩
theorem dX12_way_7 : Dc mX12_way 7 (.invokevirtual 453) 3 10 := ⟨zo_182 (w := 1) (x := 197) (by decide +kernel), rfl⟩
theorem dX12_way_10 : Dc mX12_way 10 (.ifCond .eq 11) 3 13 := ⟨zo_153 (w := 0) (x := 11) (by decide +kernel), rfl⟩
theorem dX12_way_13 : Dc mX12_way 13 (.aload_n 0) 1 14 := ⟨zo_42 (by decide +kernel), rfl⟩
theorem dX12_way_14 : Dc mX12_way 14 (.iload_n 2) 1 15 := ⟨zo_28 (by decide +kernel), rfl⟩
theorem dX12_way_15 : Dc mX12_way 15 (.invokevirtual 450) 3 18 := ⟨zo_182 (w := 1) (x := 194) (by decide +kernel), rfl⟩
theorem dX12_way_18 : Dc mX12_way 18 (.ifCond .ne 5) 3 21 := ⟨zo_154 (w := 0) (x := 5) (by decide +kernel), rfl⟩
theorem dX12_way_21 : Dc mX12_way 21 (.iconst (-1)) 1 22 := ⟨zo_2 (by decide +kernel), rfl⟩
theorem dX12_way_22 : Dc mX12_way 22 (.ireturn) 1 23 := ⟨zo_172 (by decide +kernel), rfl⟩
theorem dX12_way_23 : Dc mX12_way 23 (.aload_n 0) 1 24 := ⟨zo_42 (by decide +kernel), rfl⟩
theorem dX12_way_24 : Dc mX12_way 24 (.iconst 0) 1 25 := ⟨zo_3 (by decide +kernel), rfl⟩
theorem dX12_way_25 : Dc mX12_way 25 (.iload_n 1) 1 26 := ⟨zo_27 (by decide +kernel), rfl⟩
theorem dX12_way_26 : Dc mX12_way 26 (.iload_n 2) 1 27 := ⟨zo_28 (by decide +kernel), rfl⟩
theorem dX12_way_27 : Dc mX12_way 27 (.invokevirtual 371) 3 30 := ⟨zo_182 (w := 1) (x := 115) (by decide +kernel), rfl⟩
theorem dX12_way_30 : Dc mX12_way 30 (.iconst (-1)) 1 31 := ⟨zo_2 (by decide +kernel), rfl⟩
theorem dX12_way_31 : Dc mX12_way 31 (.if_icmp .ne 8) 3 34 := ⟨zo_160 (w := 0) (x := 8) (by decide +kernel), rfl⟩
theorem dX12_way_34 : Dc mX12_way 34 (.bipush (-2)) 2 36 := ⟨zo_16 (w := 254) (by decide +kernel), rfl⟩
theorem dX12_way_36 : Dc mX12_way 36 (.goto 10) 3 39 := ⟨zo_167 (w := 0) (x := 10) (by decide +kernel), rfl⟩
theorem dX12_way_39 : Dc mX12_way 39 (.aload_n 0) 1 40 := ⟨zo_42 (by decide +kernel), rfl⟩
theorem dX12_way_40 : Dc mX12_way 40 (.iconst 0) 1 41 := ⟨zo_3 (by decide +kernel), rfl⟩
theorem dX12_way_41 : Dc mX12_way 41 (.iload_n 1) 1 42 := ⟨zo_27 (by decide +kernel), rfl⟩
theorem dX12_way_42 : Dc mX12_way 42 (.iload_n 2) 1 43 := ⟨zo_28 (by decide +kernel), rfl⟩
theorem dX12_way_43 : Dc mX12_way 43 (.invokevirtual 371) 3 46 := ⟨zo_182 (w := 1) (x := 115) (by decide +kernel), rfl⟩
theorem dX12_way_46 : Dc mX12_way 46 (.ireturn) 1 47 := ⟨zo_172 (by decide +kernel), rfl⟩
theorem dX12_party_0 : Dc mX12_party 0 (.aload_n 0) 1 1 := ⟨zo_42 (by decide +kernel), rfl⟩
theorem dX12_party_1 : Dc mX12_party 1 (.iconst 0) 1 2 := ⟨zo_3 (by decide +kernel), rfl⟩
theorem dX12_party_2 : Dc mX12_party 2 (.putfield 169) 3 5 := ⟨zo_181 (w := 0) (x := 169) (by decide +kernel), rfl⟩
theorem dX12_party_5 : Dc mX12_party 5 (.aload_n 0) 1 6 := ⟨zo_42 (by decide +kernel), rfl⟩
theorem dX12_party_6 : Dc mX12_party 6 (.iload_n 1) 1 7 := ⟨zo_27 (by decide +kernel), rfl⟩
theorem dX12_party_7 : Dc mX12_party 7 (.invokevirtual 456) 3 10 := ⟨zo_182 (w := 1) (x := 200) (by decide +kernel), rfl⟩
theorem dX12_party_10 : Dc mX12_party 10 (.ifCond .ne 5) 3 13 := ⟨zo_154 (w := 0) (x := 5) (by decide +kernel), rfl⟩
theorem dX12_party_13 : Dc mX12_party 13 (.iconst (-1)) 1 14 := ⟨zo_2 (by decide +kernel), rfl⟩
theorem dX12_party_14 : Dc mX12_party 14 (.ireturn) 1 15 := ⟨zo_172 (by decide +kernel), rfl⟩
theorem dX12_party_15 : Dc mX12_party 15 (.iload_n 2) 1 16 := ⟨zo_28 (by decide +kernel), rfl⟩
theorem dX12_party_16 : Dc mX12_party 16 (.ifCond .ne 12) 3 19 := ⟨zo_154 (w := 0) (x := 12) (by decide +kernel), rfl⟩
theorem dX12_party_19 : Dc mX12_party 19 (.aload_n 0) 1 20 := ⟨zo_42 (by decide +kernel), rfl⟩
theorem dX12_party_20 : Dc mX12_party 20 (.getfield 40) 3 23 := ⟨zo_180 (w := 0) (x := 40) (by decide +kernel), rfl⟩
theorem dX12_party_23 : Dc mX12_party 23 (.iload_n 1) 1 24 := ⟨zo_27 (by decide +kernel), rfl⟩
theorem dX12_party_24 : Dc mX12_party 24 (.iaload) 1 25 := ⟨zo_46 (by decide +kernel), rfl⟩
theorem dX12_party_25 : Dc mX12_party 25 (.goto 46) 3 28 := ⟨zo_167 (w := 0) (x := 46) (by decide +kernel), rfl⟩
theorem dX12_party_28 : Dc mX12_party 28 (.iload_n 2) 1 29 := ⟨zo_28 (by decide +kernel), rfl⟩
theorem dX12_party_29 : Dc mX12_party 29 (.iconst 1) 1 30 := ⟨zo_4 (by decide +kernel), rfl⟩
theorem dX12_party_30 : Dc mX12_party 30 (.if_icmp .ne 12) 3 33 := ⟨zo_160 (w := 0) (x := 12) (by decide +kernel), rfl⟩
theorem dX12_party_33 : Dc mX12_party 33 (.aload_n 0) 1 34 := ⟨zo_42 (by decide +kernel), rfl⟩
theorem dX12_party_34 : Dc mX12_party 34 (.getfield 43) 3 37 := ⟨zo_180 (w := 0) (x := 43) (by decide +kernel), rfl⟩
theorem dX12_party_37 : Dc mX12_party 37 (.iload_n 1) 1 38 := ⟨zo_27 (by decide +kernel), rfl⟩
theorem dX12_party_38 : Dc mX12_party 38 (.iaload) 1 39 := ⟨zo_46 (by decide +kernel), rfl⟩
theorem dX12_party_39 : Dc mX12_party 39 (.goto 32) 3 42 := ⟨zo_167 (w := 0) (x := 32) (by decide +kernel), rfl⟩
theorem dX12_party_42 : Dc mX12_party 42 (.iload_n 2) 1 43 := ⟨zo_28 (by decide +kernel), rfl⟩
theorem dX12_party_43 : Dc mX12_party 43 (.iconst 2) 1 44 := ⟨zo_5 (by decide +kernel), rfl⟩
theorem dX12_party_44 : Dc mX12_party 44 (.if_icmp .ne 12) 3 47 := ⟨zo_160 (w := 0) (x := 12) (by decide +kernel), rfl⟩
theorem dX12_party_47 : Dc mX12_party 47 (.aload_n 0) 1 48 := ⟨zo_42 (by decide +kernel), rfl⟩
theorem dX12_party_48 : Dc mX12_party 48 (.getfield 120) 3 51 := ⟨zo_180 (w := 0) (x := 120) (by decide +kernel), rfl⟩
theorem dX12_party_51 : Dc mX12_party 51 (.iload_n 1) 1 52 := ⟨zo_27 (by decide +kernel), rfl⟩
theorem dX12_party_52 : Dc mX12_party 52 (.iaload) 1 53 := ⟨zo_46 (by decide +kernel), rfl⟩
theorem dX12_party_53 : Dc mX12_party 53 (.goto 18) 3 56 := ⟨zo_167 (w := 0) (x := 18) (by decide +kernel), rfl⟩
theorem dX12_party_56 : Dc mX12_party 56 (.iload_n 2) 1 57 := ⟨zo_28 (by decide +kernel), rfl⟩
theorem dX12_party_57 : Dc mX12_party 57 (.iconst 3) 1 58 := ⟨zo_6 (by decide +kernel), rfl⟩
theorem dX12_party_58 : Dc mX12_party 58 (.if_icmp .ne 12) 3 61 := ⟨zo_160 (w := 0) (x := 12) (by decide +kernel), rfl⟩
theorem dX12_party_61 : Dc mX12_party 61 (.aload_n 0) 1 62 := ⟨zo_42 (by decide +kernel), rfl⟩
theorem dX12_party_62 : Dc mX12_party 62 (.getfield 123) 3 65 := ⟨zo_180 (w := 0) (x := 123) (by decide +kernel), rfl⟩
theorem dX12_party_65 : Dc mX12_party 65 (.iload_n 1) 1 66 := ⟨zo_27 (by decide +kernel), rfl⟩
theorem dX12_party_66 : Dc mX12_party 66 (.iaload) 1 67 := ⟨zo_46 (by decide +kernel), rfl⟩
theorem dX12_party_67 : Dc mX12_party 67 (.goto 4) 3 70 := ⟨zo_167 (w := 0) (x := 4) (by decide +kernel), rfl⟩
theorem dX12_party_70 : Dc mX12_party 70 (.iconst (-1)) 1 71 := ⟨zo_2 (by decide +kernel), rfl⟩
theorem dX12_party_71 : Dc mX12_party 71 (.ireturn) 1 72 := ⟨zo_172 (by decide +kernel), rfl⟩
theorem dX12_clerk_0 : Dc mX12_clerk 0 (.aload_n 0) 1 1 := ⟨zo_42 (by decide +kernel), rfl⟩
theorem dX12_clerk_1 : Dc mX12_clerk 1 (.iconst 0) 1 2 := ⟨zo_3 (by decide +kernel), rfl⟩
theorem dX12_clerk_2 : Dc mX12_clerk 2 (.putfield 169) 3 5 := ⟨zo_181 (w := 0) (x := 169) (by decide +kernel), rfl⟩
theorem dX12_clerk_5 : Dc mX12_clerk 5 (.iload_n 1) 1 6 := ⟨zo_27 (by decide +kernel), rfl⟩
theorem dX12_clerk_6 : Dc mX12_clerk 6 (.ifCond .lt 22) 3 9 := ⟨zo_155 (w := 0) (x := 22) (by decide +kernel), rfl⟩
theorem dX12_clerk_9 : Dc mX12_clerk 9 (.iload_n 1) 1 10 := ⟨zo_27 (by decide +kernel), rfl⟩
theorem dX12_clerk_10 : Dc mX12_clerk 10 (.aload_n 0) 1 11 := ⟨zo_42 (by decide +kernel), rfl⟩
theorem dX12_clerk_11 : Dc mX12_clerk 11 (.getfield 13) 3 14 := ⟨zo_180 (w := 0) (x := 13) (by decide +kernel), rfl⟩
theorem dX12_clerk_14 : Dc mX12_clerk 14 (.iconst 4) 1 15 := ⟨zo_7 (by decide +kernel), rfl⟩
theorem dX12_clerk_15 : Dc mX12_clerk 15 (.iaload) 1 16 := ⟨zo_46 (by decide +kernel), rfl⟩
theorem dX12_clerk_16 : Dc mX12_clerk 16 (.if_icmp .ge 12) 3 19 := ⟨zo_162 (w := 0) (x := 12) (by decide +kernel), rfl⟩
theorem dX12_clerk_19 : Dc mX12_clerk 19 (.aload_n 0) 1 20 := ⟨zo_42 (by decide +kernel), rfl⟩
theorem dX12_clerk_20 : Dc mX12_clerk 20 (.getfield 52) 3 23 := ⟨zo_180 (w := 0) (x := 52) (by decide +kernel), rfl⟩
theorem dX12_clerk_23 : Dc mX12_clerk 23 (.iload_n 1) 1 24 := ⟨zo_27 (by decide +kernel), rfl⟩
theorem dX12_clerk_24 : Dc mX12_clerk 24 (.iaload) 1 25 := ⟨zo_46 (by decide +kernel), rfl⟩
theorem dX12_clerk_25 : Dc mX12_clerk 25 (.goto 4) 3 28 := ⟨zo_167 (w := 0) (x := 4) (by decide +kernel), rfl⟩
theorem dX12_clerk_28 : Dc mX12_clerk 28 (.iconst (-1)) 1 29 := ⟨zo_2 (by decide +kernel), rfl⟩
theorem dX12_clerk_29 : Dc mX12_clerk 29 (.ireturn) 1 30 := ⟨zo_172 (by decide +kernel), rfl⟩
theorem dX12_law_0 : Dc mX12_law 0 (.aload_n 0) 1 1 := ⟨zo_42 (by decide +kernel), rfl⟩
theorem dX12_law_1 : Dc mX12_law 1 (.iconst 0) 1 2 := ⟨zo_3 (by decide +kernel), rfl⟩
theorem dX12_law_2 : Dc mX12_law 2 (.putfield 169) 3 5 := ⟨zo_181 (w := 0) (x := 169) (by decide +kernel), rfl⟩
theorem dX12_law_5 : Dc mX12_law 5 (.iload_n 1) 1 6 := ⟨zo_27 (by decide +kernel), rfl⟩
theorem dX12_law_6 : Dc mX12_law 6 (.ifCond .lt 16) 3 9 := ⟨zo_155 (w := 0) (x := 16) (by decide +kernel), rfl⟩
theorem dX12_law_9 : Dc mX12_law 9 (.iload_n 1) 1 10 := ⟨zo_27 (by decide +kernel), rfl⟩
theorem dX12_law_10 : Dc mX12_law 10 (.iconst 2) 1 11 := ⟨zo_5 (by decide +kernel), rfl⟩
theorem dX12_law_11 : Dc mX12_law 11 (.if_icmp .gt 11) 3 14 := ⟨zo_163 (w := 0) (x := 11) (by decide +kernel), rfl⟩
theorem dX12_law_14 : Dc mX12_law 14 (.aload_n 0) 1 15 := ⟨zo_42 (by decide +kernel), rfl⟩
theorem dX12_law_15 : Dc mX12_law 15 (.iload_n 1) 1 16 := ⟨zo_27 (by decide +kernel), rfl⟩
theorem dX12_law_16 : Dc mX12_law 16 (.invokevirtual 388) 3 19 := ⟨zo_182 (w := 1) (x := 132) (by decide +kernel), rfl⟩
theorem dX12_law_19 : Dc mX12_law 19 (.ifCond .ne 7) 3 22 := ⟨zo_154 (w := 0) (x := 7) (by decide +kernel), rfl⟩
theorem dX12_law_22 : Dc mX12_law 22 (.ldc2_w 461) 3 25 := ⟨zo_20 (w := 1) (x := 205) (by decide +kernel), rfl⟩
theorem dX12_law_25 : Dc mX12_law 25 (.lreturn) 1 26 := ⟨zo_173 (by decide +kernel), rfl⟩
theorem dX12_law_26 : Dc mX12_law 26 (.iload_n 1) 1 27 := ⟨zo_27 (by decide +kernel), rfl⟩
theorem dX12_law_27 : Dc mX12_law 27 (.iconst 1) 1 28 := ⟨zo_4 (by decide +kernel), rfl⟩
theorem dX12_law_28 : Dc mX12_law 28 (.if_icmp .eq 11) 3 31 := ⟨zo_159 (w := 0) (x := 11) (by decide +kernel), rfl⟩
theorem dX12_law_31 : Dc mX12_law 31 (.aload_n 0) 1 32 := ⟨zo_42 (by decide +kernel), rfl⟩
theorem dX12_law_32 : Dc mX12_law 32 (.iload_n 2) 1 33 := ⟨zo_28 (by decide +kernel), rfl⟩
theorem dX12_law_33 : Dc mX12_law 33 (.invokevirtual 453) 3 36 := ⟨zo_182 (w := 1) (x := 197) (by decide +kernel), rfl⟩
theorem dX12_law_36 : Dc mX12_law 36 (.ifCond .eq 16) 3 39 := ⟨zo_153 (w := 0) (x := 16) (by decide +kernel), rfl⟩
theorem dX12_law_39 : Dc mX12_law 39 (.iload_n 1) 1 40 := ⟨zo_27 (by decide +kernel), rfl⟩
theorem dX12_law_40 : Dc mX12_law 40 (.iconst 2) 1 41 := ⟨zo_5 (by decide +kernel), rfl⟩
theorem dX12_law_41 : Dc mX12_law 41 (.if_icmp .eq 15) 3 44 := ⟨zo_159 (w := 0) (x := 15) (by decide +kernel), rfl⟩
theorem dX12_law_44 : Dc mX12_law 44 (.aload_n 0) 1 45 := ⟨zo_42 (by decide +kernel), rfl⟩
theorem dX12_law_45 : Dc mX12_law 45 (.iload_n 3) 1 46 := ⟨zo_29 (by decide +kernel), rfl⟩
theorem dX12_law_46 : Dc mX12_law 46 (.invokevirtual 450) 3 49 := ⟨zo_182 (w := 1) (x := 194) (by decide +kernel), rfl⟩
theorem dX12_law_49 : Dc mX12_law 49 (.ifCond .ne 7) 3 52 := ⟨zo_154 (w := 0) (x := 7) (by decide +kernel), rfl⟩
theorem dX12_law_52 : Dc mX12_law 52 (.ldc2_w 461) 3 55 := ⟨zo_20 (w := 1) (x := 205) (by decide +kernel), rfl⟩
theorem dX12_law_55 : Dc mX12_law 55 (.lreturn) 1 56 := ⟨zo_173 (by decide +kernel), rfl⟩
theorem dX12_law_56 : Dc mX12_law 56 (.iload_n 1) 1 57 := ⟨zo_27 (by decide +kernel), rfl⟩
theorem dX12_law_57 : Dc mX12_law 57 (.ifCond .ne 18) 3 60 := ⟨zo_154 (w := 0) (x := 18) (by decide +kernel), rfl⟩
theorem dX12_law_60 : Dc mX12_law 60 (.aload_n 0) 1 61 := ⟨zo_42 (by decide +kernel), rfl⟩
theorem dX12_law_61 : Dc mX12_law 61 (.iconst 0) 1 62 := ⟨zo_3 (by decide +kernel), rfl⟩
theorem dX12_law_62 : Dc mX12_law 62 (.iload_n 2) 1 63 := ⟨zo_28 (by decide +kernel), rfl⟩
theorem dX12_law_63 : Dc mX12_law 63 (.iload_n 3) 1 64 := ⟨zo_29 (by decide +kernel), rfl⟩
theorem dX12_law_64 : Dc mX12_law 64 (.invokevirtual 371) 3 67 := ⟨zo_182 (w := 1) (x := 115) (by decide +kernel), rfl⟩
theorem dX12_law_67 : Dc mX12_law 67 (.iconst (-1)) 1 68 := ⟨zo_2 (by decide +kernel), rfl⟩
theorem dX12_law_68 : Dc mX12_law 68 (.if_icmp .ne 7) 3 71 := ⟨zo_160 (w := 0) (x := 7) (by decide +kernel), rfl⟩
theorem dX12_law_71 : Dc mX12_law 71 (.ldc2_w 461) 3 74 := ⟨zo_20 (w := 1) (x := 205) (by decide +kernel), rfl⟩
theorem dX12_law_74 : Dc mX12_law 74 (.lreturn) 1 75 := ⟨zo_173 (by decide +kernel), rfl⟩
theorem dX12_law_75 : Dc mX12_law 75 (.iload_n 1) 1 76 := ⟨zo_27 (by decide +kernel), rfl⟩
theorem dX12_law_76 : Dc mX12_law 76 (.ifCond .ne 20) 3 79 := ⟨zo_154 (w := 0) (x := 20) (by decide +kernel), rfl⟩
theorem dX12_law_79 : Dc mX12_law 79 (.aload_n 0) 1 80 := ⟨zo_42 (by decide +kernel), rfl⟩
theorem dX12_law_80 : Dc mX12_law 80 (.iconst 0) 1 81 := ⟨zo_3 (by decide +kernel), rfl⟩
theorem dX12_law_81 : Dc mX12_law 81 (.iload_n 3) 1 82 := ⟨zo_29 (by decide +kernel), rfl⟩
theorem dX12_law_82 : Dc mX12_law 82 (.iconst 0) 1 83 := ⟨zo_3 (by decide +kernel), rfl⟩
theorem dX12_law_83 : Dc mX12_law 83 (.iload_n 2) 1 84 := ⟨zo_28 (by decide +kernel), rfl⟩
theorem dX12_law_84 : Dc mX12_law 84 (.aload_n 0) 1 85 := ⟨zo_42 (by decide +kernel), rfl⟩
theorem dX12_law_85 : Dc mX12_law 85 (.getfield 28) 3 88 := ⟨zo_180 (w := 0) (x := 28) (by decide +kernel), rfl⟩
theorem dX12_law_88 : Dc mX12_law 88 (.iload_n 2) 1 89 := ⟨zo_28 (by decide +kernel), rfl⟩
theorem dX12_law_89 : Dc mX12_law 89 (.iaload) 1 90 := ⟨zo_46 (by decide +kernel), rfl⟩
theorem dX12_law_90 : Dc mX12_law 90 (.invokevirtual 404) 3 93 := ⟨zo_182 (w := 1) (x := 148) (by decide +kernel), rfl⟩
theorem dX12_law_93 : Dc mX12_law 93 (.goto 26) 3 96 := ⟨zo_167 (w := 0) (x := 26) (by decide +kernel), rfl⟩
theorem dX12_law_96 : Dc mX12_law 96 (.iload_n 1) 1 97 := ⟨zo_27 (by decide +kernel), rfl⟩
theorem dX12_law_97 : Dc mX12_law 97 (.iconst 1) 1 98 := ⟨zo_4 (by decide +kernel), rfl⟩
theorem dX12_law_98 : Dc mX12_law 98 (.if_icmp .ne 15) 3 101 := ⟨zo_160 (w := 0) (x := 15) (by decide +kernel), rfl⟩
theorem dX12_law_101 : Dc mX12_law 101 (.aload_n 0) 1 102 := ⟨zo_42 (by decide +kernel), rfl⟩
theorem dX12_law_102 : Dc mX12_law 102 (.iconst 0) 1 103 := ⟨zo_3 (by decide +kernel), rfl⟩
theorem dX12_law_103 : Dc mX12_law 103 (.iload_n 3) 1 104 := ⟨zo_29 (by decide +kernel), rfl⟩
theorem dX12_law_104 : Dc mX12_law 104 (.iconst 1) 1 105 := ⟨zo_4 (by decide +kernel), rfl⟩
theorem dX12_law_105 : Dc mX12_law 105 (.iconst (-1)) 1 106 := ⟨zo_2 (by decide +kernel), rfl⟩
theorem dX12_law_106 : Dc mX12_law 106 (.iconst 0) 1 107 := ⟨zo_3 (by decide +kernel), rfl⟩
theorem dX12_law_107 : Dc mX12_law 107 (.invokevirtual 404) 3 110 := ⟨zo_182 (w := 1) (x := 148) (by decide +kernel), rfl⟩
theorem dX12_law_110 : Dc mX12_law 110 (.goto 9) 3 113 := ⟨zo_167 (w := 0) (x := 9) (by decide +kernel), rfl⟩
theorem dX12_law_113 : Dc mX12_law 113 (.aload_n 0) 1 114 := ⟨zo_42 (by decide +kernel), rfl⟩
theorem dX12_law_114 : Dc mX12_law 114 (.iconst 0) 1 115 := ⟨zo_3 (by decide +kernel), rfl⟩
theorem dX12_law_115 : Dc mX12_law 115 (.iload_n 2) 1 116 := ⟨zo_28 (by decide +kernel), rfl⟩
theorem dX12_law_116 : Dc mX12_law 116 (.invokevirtual 412) 3 119 := ⟨zo_182 (w := 1) (x := 156) (by decide +kernel), rfl⟩
theorem dX12_law_119 : Dc mX12_law 119 (.aload_n 0) 1 120 := ⟨zo_42 (by decide +kernel), rfl⟩
theorem dX12_law_120 : Dc mX12_law 120 (.iload_n 1) 1 121 := ⟨zo_27 (by decide +kernel), rfl⟩
theorem dX12_law_121 : Dc mX12_law 121 (.invokevirtual 391) 3 124 := ⟨zo_182 (w := 1) (x := 135) (by decide +kernel), rfl⟩
theorem dX12_law_124 : Dc mX12_law 124 (.ifCond .eq 12) 3 127 := ⟨zo_153 (w := 0) (x := 12) (by decide +kernel), rfl⟩
theorem dX12_law_127 : Dc mX12_law 127 (.aload_n 0) 1 128 := ⟨zo_42 (by decide +kernel), rfl⟩
theorem dX12_law_128 : Dc mX12_law 128 (.getfield 81) 3 131 := ⟨zo_180 (w := 0) (x := 81) (by decide +kernel), rfl⟩
theorem dX12_law_131 : Dc mX12_law 131 (.iconst 0) 1 132 := ⟨zo_3 (by decide +kernel), rfl⟩
theorem dX12_law_132 : Dc mX12_law 132 (.laload) 1 133 := ⟨zo_47 (by decide +kernel), rfl⟩
theorem dX12_law_133 : Dc mX12_law 133 (.goto 6) 3 136 := ⟨zo_167 (w := 0) (x := 6) (by decide +kernel), rfl⟩
theorem dX12_law_136 : Dc mX12_law 136 (.ldc2_w 461) 3 139 := ⟨zo_20 (w := 1) (x := 205) (by decide +kernel), rfl⟩
theorem dX12_law_139 : Dc mX12_law 139 (.lreturn) 1 140 := ⟨zo_173 (by decide +kernel), rfl⟩
theorem dX12_keepNow_0 : Dc mX12_keepNow 0 (.aload_n 0) 1 1 := ⟨zo_42 (by decide +kernel), rfl⟩
theorem dX12_keepNow_1 : Dc mX12_keepNow 1 (.getfield 335) 3 4 := ⟨zo_180 (w := 1) (x := 79) (by decide +kernel), rfl⟩
theorem dX12_keepNow_4 : Dc mX12_keepNow 4 (.bipush 20) 2 6 := ⟨zo_16 (w := 20) (by decide +kernel), rfl⟩
theorem dX12_keepNow_6 : Dc mX12_keepNow 6 (.if_icmp .ne 39) 3 9 := ⟨zo_160 (w := 0) (x := 39) (by decide +kernel), rfl⟩
theorem dX12_keepNow_9 : Dc mX12_keepNow 9 (.iconst 1) 1 10 := ⟨zo_4 (by decide +kernel), rfl⟩
theorem dX12_keepNow_10 : Dc mX12_keepNow 10 (.istore_n 1) 1 11 := ⟨zo_60 (by decide +kernel), rfl⟩
theorem dX12_keepNow_11 : Dc mX12_keepNow 11 (.iload_n 1) 1 12 := ⟨zo_27 (by decide +kernel), rfl⟩
theorem dX12_keepNow_12 : Dc mX12_keepNow 12 (.bipush 20) 2 14 := ⟨zo_16 (w := 20) (by decide +kernel), rfl⟩
theorem dX12_keepNow_14 : Dc mX12_keepNow 14 (.if_icmp .ge 21) 3 17 := ⟨zo_162 (w := 0) (x := 21) (by decide +kernel), rfl⟩
theorem dX12_keepNow_17 : Dc mX12_keepNow 17 (.aload_n 0) 1 18 := ⟨zo_42 (by decide +kernel), rfl⟩
theorem dX12_keepNow_18 : Dc mX12_keepNow 18 (.iconst 3) 1 19 := ⟨zo_6 (by decide +kernel), rfl⟩
theorem dX12_keepNow_19 : Dc mX12_keepNow 19 (.iload_n 1) 1 20 := ⟨zo_27 (by decide +kernel), rfl⟩
theorem dX12_keepNow_20 : Dc mX12_keepNow 20 (.iadd) 1 21 := ⟨zo_96 (by decide +kernel), rfl⟩
theorem dX12_keepNow_21 : Dc mX12_keepNow 21 (.iconst 1) 1 22 := ⟨zo_4 (by decide +kernel), rfl⟩
theorem dX12_keepNow_22 : Dc mX12_keepNow 22 (.isub) 1 23 := ⟨zo_100 (by decide +kernel), rfl⟩
theorem dX12_keepNow_23 : Dc mX12_keepNow 23 (.iconst 3) 1 24 := ⟨zo_6 (by decide +kernel), rfl⟩
theorem dX12_keepNow_24 : Dc mX12_keepNow 24 (.iload_n 1) 1 25 := ⟨zo_27 (by decide +kernel), rfl⟩
theorem dX12_keepNow_25 : Dc mX12_keepNow 25 (.iadd) 1 26 := ⟨zo_96 (by decide +kernel), rfl⟩
theorem dX12_keepNow_26 : Dc mX12_keepNow 26 (.invokevirtual 444) 3 29 := ⟨zo_182 (w := 1) (x := 188) (by decide +kernel), rfl⟩
theorem dX12_keepNow_29 : Dc mX12_keepNow 29 (.iinc 1 1) 3 32 := ⟨zo_iinc (x := 1) (by decide +kernel), rfl⟩
theorem dX12_keepNow_32 : Dc mX12_keepNow 32 (.goto (-21)) 3 35 := ⟨zo_167 (w := 255) (x := 235) (by decide +kernel), rfl⟩
theorem dX12_keepNow_35 : Dc mX12_keepNow 35 (.aload_n 0) 1 36 := ⟨zo_42 (by decide +kernel), rfl⟩
theorem dX12_keepNow_36 : Dc mX12_keepNow 36 (.dup) 1 37 := ⟨zo_89 (by decide +kernel), rfl⟩
theorem dX12_keepNow_37 : Dc mX12_keepNow 37 (.getfield 335) 3 40 := ⟨zo_180 (w := 1) (x := 79) (by decide +kernel), rfl⟩
theorem dX12_keepNow_40 : Dc mX12_keepNow 40 (.iconst 1) 1 41 := ⟨zo_4 (by decide +kernel), rfl⟩
theorem dX12_keepNow_41 : Dc mX12_keepNow 41 (.isub) 1 42 := ⟨zo_100 (by decide +kernel), rfl⟩
theorem dX12_keepNow_42 : Dc mX12_keepNow 42 (.putfield 335) 3 45 := ⟨zo_181 (w := 1) (x := 79) (by decide +kernel), rfl⟩
theorem dX12_keepNow_45 : Dc mX12_keepNow 45 (.aload_n 0) 1 46 := ⟨zo_42 (by decide +kernel), rfl⟩
theorem dX12_keepNow_46 : Dc mX12_keepNow 46 (.iconst 3) 1 47 := ⟨zo_6 (by decide +kernel), rfl⟩
theorem dX12_keepNow_47 : Dc mX12_keepNow 47 (.aload_n 0) 1 48 := ⟨zo_42 (by decide +kernel), rfl⟩
theorem dX12_keepNow_48 : Dc mX12_keepNow 48 (.getfield 335) 3 51 := ⟨zo_180 (w := 1) (x := 79) (by decide +kernel), rfl⟩
theorem dX12_keepNow_51 : Dc mX12_keepNow 51 (.iadd) 1 52 := ⟨zo_96 (by decide +kernel), rfl⟩
theorem dX12_keepNow_52 : Dc mX12_keepNow 52 (.iconst 0) 1 53 := ⟨zo_3 (by decide +kernel), rfl⟩
theorem dX12_keepNow_53 : Dc mX12_keepNow 53 (.invokevirtual 444) 3 56 := ⟨zo_182 (w := 1) (x := 188) (by decide +kernel), rfl⟩
theorem dX12_keepNow_56 : Dc mX12_keepNow 56 (.aload_n 0) 1 57 := ⟨zo_42 (by decide +kernel), rfl⟩
theorem dX12_keepNow_57 : Dc mX12_keepNow 57 (.dup) 1 58 := ⟨zo_89 (by decide +kernel), rfl⟩
theorem dX12_keepNow_58 : Dc mX12_keepNow 58 (.getfield 335) 3 61 := ⟨zo_180 (w := 1) (x := 79) (by decide +kernel), rfl⟩
theorem dX12_keepNow_61 : Dc mX12_keepNow 61 (.iconst 1) 1 62 := ⟨zo_4 (by decide +kernel), rfl⟩
theorem dX12_keepNow_62 : Dc mX12_keepNow 62 (.iadd) 1 63 := ⟨zo_96 (by decide +kernel), rfl⟩
theorem dX12_keepNow_63 : Dc mX12_keepNow 63 (.putfield 335) 3 66 := ⟨zo_181 (w := 1) (x := 79) (by decide +kernel), rfl⟩
theorem dX12_keepNow_66 : Dc mX12_keepNow 66 (.return_) 1 67 := ⟨zo_177 (by decide +kernel), rfl⟩
theorem dX12_plums_0 : Dc mX12_plums 0 (.aload_n 0) 1 1 := ⟨zo_42 (by decide +kernel), rfl⟩
theorem dX12_plums_1 : Dc mX12_plums 1 (.iconst 0) 1 2 := ⟨zo_3 (by decide +kernel), rfl⟩
theorem dX12_plums_2 : Dc mX12_plums 2 (.putfield 169) 3 5 := ⟨zo_181 (w := 0) (x := 169) (by decide +kernel), rfl⟩
theorem dX12_plums_5 : Dc mX12_plums 5 (.aload_n 0) 1 6 := ⟨zo_42 (by decide +kernel), rfl⟩
theorem dX12_plums_6 : Dc mX12_plums 6 (.iload_n 1) 1 7 := ⟨zo_27 (by decide +kernel), rfl⟩
theorem dX12_plums_7 : Dc mX12_plums 7 (.invokevirtual 456) 3 10 := ⟨zo_182 (w := 1) (x := 200) (by decide +kernel), rfl⟩
theorem dX12_plums_10 : Dc mX12_plums 10 (.ifCond .eq 28) 3 13 := ⟨zo_153 (w := 0) (x := 28) (by decide +kernel), rfl⟩
theorem dX12_plums_13 : Dc mX12_plums 13 (.iload_n 2) 1 14 := ⟨zo_28 (by decide +kernel), rfl⟩
theorem dX12_plums_14 : Dc mX12_plums 14 (.iconst 1) 1 15 := ⟨zo_4 (by decide +kernel), rfl⟩
theorem dX12_plums_15 : Dc mX12_plums 15 (.if_icmp .lt 23) 3 18 := ⟨zo_161 (w := 0) (x := 23) (by decide +kernel), rfl⟩
theorem dX12_plums_18 : Dc mX12_plums 18 (.iload_n 2) 1 19 := ⟨zo_28 (by decide +kernel), rfl⟩
theorem dX12_plums_19 : Dc mX12_plums 19 (.bipush 99) 2 21 := ⟨zo_16 (w := 99) (by decide +kernel), rfl⟩
theorem dX12_plums_21 : Dc mX12_plums 21 (.if_icmp .gt 17) 3 24 := ⟨zo_163 (w := 0) (x := 17) (by decide +kernel), rfl⟩
theorem dX12_plums_24 : Dc mX12_plums 24 (.aload_n 0) 1 25 := ⟨zo_42 (by decide +kernel), rfl⟩
theorem dX12_plums_25 : Dc mX12_plums 25 (.getfield 120) 3 28 := ⟨zo_180 (w := 0) (x := 120) (by decide +kernel), rfl⟩
theorem dX12_plums_28 : Dc mX12_plums 28 (.iload_n 1) 1 29 := ⟨zo_27 (by decide +kernel), rfl⟩
theorem dX12_plums_29 : Dc mX12_plums 29 (.iaload) 1 30 := ⟨zo_46 (by decide +kernel), rfl⟩
theorem dX12_plums_30 : Dc mX12_plums 30 (.iload_n 2) 1 31 := ⟨zo_28 (by decide +kernel), rfl⟩
theorem dX12_plums_31 : Dc mX12_plums 31 (.iadd) 1 32 := ⟨zo_96 (by decide +kernel), rfl⟩
theorem dX12_plums_32 : Dc mX12_plums 32 (.sipush 999) 3 35 := ⟨zo_17 (w := 3) (x := 231) (by decide +kernel), rfl⟩
theorem dX12_plums_35 : Dc mX12_plums 35 (.if_icmp .le 5) 3 38 := ⟨zo_164 (w := 0) (x := 5) (by decide +kernel), rfl⟩
theorem dX12_plums_38 : Dc mX12_plums 38 (.iconst (-1)) 1 39 := ⟨zo_2 (by decide +kernel), rfl⟩
theorem dX12_plums_39 : Dc mX12_plums 39 (.ireturn) 1 40 := ⟨zo_172 (by decide +kernel), rfl⟩
theorem dX12_plums_40 : Dc mX12_plums 40 (.aload_n 0) 1 41 := ⟨zo_42 (by decide +kernel), rfl⟩
theorem dX12_plums_41 : Dc mX12_plums 41 (.invokevirtual 463) 3 44 := ⟨zo_182 (w := 1) (x := 207) (by decide +kernel), rfl⟩
theorem dX12_plums_44 : Dc mX12_plums 44 (.aload_n 0) 1 45 := ⟨zo_42 (by decide +kernel), rfl⟩
theorem dX12_plums_45 : Dc mX12_plums 45 (.getfield 120) 3 48 := ⟨zo_180 (w := 0) (x := 120) (by decide +kernel), rfl⟩
theorem dX12_plums_48 : Dc mX12_plums 48 (.iload_n 1) 1 49 := ⟨zo_27 (by decide +kernel), rfl⟩
theorem dX12_plums_49 : Dc mX12_plums 49 (.dup2) 1 50 := ⟨zo_92 (by decide +kernel), rfl⟩
theorem dX12_plums_50 : Dc mX12_plums 50 (.iaload) 1 51 := ⟨zo_46 (by decide +kernel), rfl⟩
theorem dX12_plums_51 : Dc mX12_plums 51 (.iload_n 2) 1 52 := ⟨zo_28 (by decide +kernel), rfl⟩
theorem dX12_plums_52 : Dc mX12_plums 52 (.iadd) 1 53 := ⟨zo_96 (by decide +kernel), rfl⟩
theorem dX12_plums_53 : Dc mX12_plums 53 (.iastore) 1 54 := ⟨zo_79 (by decide +kernel), rfl⟩
theorem dX12_plums_54 : Dc mX12_plums 54 (.aload_n 0) 1 55 := ⟨zo_42 (by decide +kernel), rfl⟩
theorem dX12_plums_55 : Dc mX12_plums 55 (.getfield 120) 3 58 := ⟨zo_180 (w := 0) (x := 120) (by decide +kernel), rfl⟩
theorem dX12_plums_58 : Dc mX12_plums 58 (.iload_n 1) 1 59 := ⟨zo_27 (by decide +kernel), rfl⟩
theorem dX12_plums_59 : Dc mX12_plums 59 (.iaload) 1 60 := ⟨zo_46 (by decide +kernel), rfl⟩
theorem dX12_plums_60 : Dc mX12_plums 60 (.ireturn) 1 61 := ⟨zo_172 (by decide +kernel), rfl⟩
theorem dX12_move_0 : Dc mX12_move 0 (.aload_n 0) 1 1 := ⟨zo_42 (by decide +kernel), rfl⟩
theorem dX12_move_1 : Dc mX12_move 1 (.iconst 0) 1 2 := ⟨zo_3 (by decide +kernel), rfl⟩
theorem dX12_move_2 : Dc mX12_move 2 (.putfield 169) 3 5 := ⟨zo_181 (w := 0) (x := 169) (by decide +kernel), rfl⟩
theorem dX12_move_5 : Dc mX12_move 5 (.aload_n 0) 1 6 := ⟨zo_42 (by decide +kernel), rfl⟩
theorem dX12_move_6 : Dc mX12_move 6 (.iload_n 1) 1 7 := ⟨zo_27 (by decide +kernel), rfl⟩
theorem dX12_move_7 : Dc mX12_move 7 (.invokevirtual 453) 3 10 := ⟨zo_182 (w := 1) (x := 197) (by decide +kernel), rfl⟩
theorem dX12_move_10 : Dc mX12_move 10 (.ifCond .eq 39) 3 13 := ⟨zo_153 (w := 0) (x := 39) (by decide +kernel), rfl⟩
theorem dX12_move_13 : Dc mX12_move 13 (.iload_n 2) 1 14 := ⟨zo_28 (by decide +kernel), rfl⟩
theorem dX12_move_14 : Dc mX12_move 14 (.aload_n 0) 1 15 := ⟨zo_42 (by decide +kernel), rfl⟩
theorem dX12_move_15 : Dc mX12_move 15 (.getfield 84) 3 18 := ⟨zo_180 (w := 0) (x := 84) (by decide +kernel), rfl⟩
theorem dX12_move_18 : Dc mX12_move 18 (.iconst 0) 1 19 := ⟨zo_3 (by decide +kernel), rfl⟩
theorem dX12_move_19 : Dc mX12_move 19 (.iaload) 1 20 := ⟨zo_46 (by decide +kernel), rfl⟩
theorem dX12_move_20 : Dc mX12_move 20 (.if_icmp .lt 29) 3 23 := ⟨zo_161 (w := 0) (x := 29) (by decide +kernel), rfl⟩
theorem dX12_move_23 : Dc mX12_move 23 (.iload_n 2) 1 24 := ⟨zo_28 (by decide +kernel), rfl⟩
theorem dX12_move_24 : Dc mX12_move 24 (.sipush 9999) 3 27 := ⟨zo_17 (w := 39) (x := 15) (by decide +kernel), rfl⟩
theorem dX12_move_27 : Dc mX12_move 27 (.if_icmp .gt 22) 3 30 := ⟨zo_163 (w := 0) (x := 22) (by decide +kernel), rfl⟩
theorem dX12_move_30 : Dc mX12_move 30 (.aload_n 0) 1 31 := ⟨zo_42 (by decide +kernel), rfl⟩
theorem dX12_move_31 : Dc mX12_move 31 (.iconst 0) 1 32 := ⟨zo_3 (by decide +kernel), rfl⟩
theorem dX12_move_32 : Dc mX12_move 32 (.iload_n 1) 1 33 := ⟨zo_27 (by decide +kernel), rfl⟩
theorem dX12_move_33 : Dc mX12_move 33 (.invokevirtual 367) 3 36 := ⟨zo_182 (w := 1) (x := 111) (by decide +kernel), rfl⟩
theorem dX12_move_36 : Dc mX12_move 36 (.ifCond .ne 13) 3 39 := ⟨zo_154 (w := 0) (x := 13) (by decide +kernel), rfl⟩
theorem dX12_move_39 : Dc mX12_move 39 (.aload_n 0) 1 40 := ⟨zo_42 (by decide +kernel), rfl⟩
theorem dX12_move_40 : Dc mX12_move 40 (.getfield 108) 3 43 := ⟨zo_180 (w := 0) (x := 108) (by decide +kernel), rfl⟩
theorem dX12_move_43 : Dc mX12_move 43 (.iload_n 1) 1 44 := ⟨zo_27 (by decide +kernel), rfl⟩
theorem dX12_move_44 : Dc mX12_move 44 (.iaload) 1 45 := ⟨zo_46 (by decide +kernel), rfl⟩
theorem dX12_move_45 : Dc mX12_move 45 (.iload_n 2) 1 46 := ⟨zo_28 (by decide +kernel), rfl⟩
theorem dX12_move_46 : Dc mX12_move 46 (.if_icmp .ne 5) 3 49 := ⟨zo_160 (w := 0) (x := 5) (by decide +kernel), rfl⟩
theorem dX12_move_49 : Dc mX12_move 49 (.iconst 0) 1 50 := ⟨zo_3 (by decide +kernel), rfl⟩
theorem dX12_move_50 : Dc mX12_move 50 (.ireturn) 1 51 := ⟨zo_172 (by decide +kernel), rfl⟩
theorem dX12_move_51 : Dc mX12_move 51 (.aload_n 0) 1 52 := ⟨zo_42 (by decide +kernel), rfl⟩
theorem dX12_move_52 : Dc mX12_move 52 (.invokevirtual 463) 3 55 := ⟨zo_182 (w := 1) (x := 207) (by decide +kernel), rfl⟩
theorem dX12_move_55 : Dc mX12_move 55 (.aload_n 0) 1 56 := ⟨zo_42 (by decide +kernel), rfl⟩
theorem dX12_move_56 : Dc mX12_move 56 (.getfield 108) 3 59 := ⟨zo_180 (w := 0) (x := 108) (by decide +kernel), rfl⟩
theorem dX12_move_59 : Dc mX12_move 59 (.iload_n 1) 1 60 := ⟨zo_27 (by decide +kernel), rfl⟩
theorem dX12_move_60 : Dc mX12_move 60 (.iload_n 2) 1 61 := ⟨zo_28 (by decide +kernel), rfl⟩
theorem dX12_move_61 : Dc mX12_move 61 (.iastore) 1 62 := ⟨zo_79 (by decide +kernel), rfl⟩
theorem dX12_move_62 : Dc mX12_move 62 (.iconst 1) 1 63 := ⟨zo_4 (by decide +kernel), rfl⟩
theorem dX12_move_63 : Dc mX12_move 63 (.ireturn) 1 64 := ⟨zo_172 (by decide +kernel), rfl⟩
theorem dX12_tell_0 : Dc mX12_tell 0 (.aload_n 0) 1 1 := ⟨zo_42 (by decide +kernel), rfl⟩
theorem dX12_tell_1 : Dc mX12_tell 1 (.iconst 0) 1 2 := ⟨zo_3 (by decide +kernel), rfl⟩
theorem dX12_tell_2 : Dc mX12_tell 2 (.putfield 169) 3 5 := ⟨zo_181 (w := 0) (x := 169) (by decide +kernel), rfl⟩
theorem dX12_tell_5 : Dc mX12_tell 5 (.aload_n 0) 1 6 := ⟨zo_42 (by decide +kernel), rfl⟩
theorem dX12_tell_6 : Dc mX12_tell 6 (.iload_n 1) 1 7 := ⟨zo_27 (by decide +kernel), rfl⟩
theorem dX12_tell_7 : Dc mX12_tell 7 (.invokevirtual 450) 3 10 := ⟨zo_182 (w := 1) (x := 194) (by decide +kernel), rfl⟩
theorem dX12_tell_10 : Dc mX12_tell 10 (.ifCond .eq 27) 3 13 := ⟨zo_153 (w := 0) (x := 27) (by decide +kernel), rfl⟩
theorem dX12_tell_13 : Dc mX12_tell 13 (.iload_n 2) 1 14 := ⟨zo_28 (by decide +kernel), rfl⟩
theorem dX12_tell_14 : Dc mX12_tell 14 (.ifCond .lt 23) 3 17 := ⟨zo_155 (w := 0) (x := 23) (by decide +kernel), rfl⟩
theorem dX12_tell_17 : Dc mX12_tell 17 (.iload_n 2) 1 18 := ⟨zo_28 (by decide +kernel), rfl⟩
theorem dX12_tell_18 : Dc mX12_tell 18 (.aload_n 0) 1 19 := ⟨zo_42 (by decide +kernel), rfl⟩
theorem dX12_tell_19 : Dc mX12_tell 19 (.getfield 22) 3 22 := ⟨zo_180 (w := 0) (x := 22) (by decide +kernel), rfl⟩
theorem dX12_tell_22 : Dc mX12_tell 22 (.iload_n 1) 1 23 := ⟨zo_27 (by decide +kernel), rfl⟩
theorem dX12_tell_23 : Dc mX12_tell 23 (.iaload) 1 24 := ⟨zo_46 (by decide +kernel), rfl⟩
theorem dX12_tell_24 : Dc mX12_tell 24 (.if_icmp .ge 13) 3 27 := ⟨zo_162 (w := 0) (x := 13) (by decide +kernel), rfl⟩
theorem dX12_tell_27 : Dc mX12_tell 27 (.aload_n 0) 1 28 := ⟨zo_42 (by decide +kernel), rfl⟩
theorem dX12_tell_28 : Dc mX12_tell 28 (.getfield 102) 3 31 := ⟨zo_180 (w := 0) (x := 102) (by decide +kernel), rfl⟩
theorem dX12_tell_31 : Dc mX12_tell 31 (.iload_n 1) 1 32 := ⟨zo_27 (by decide +kernel), rfl⟩
theorem dX12_tell_32 : Dc mX12_tell 32 (.iaload) 1 33 := ⟨zo_46 (by decide +kernel), rfl⟩
theorem dX12_tell_33 : Dc mX12_tell 33 (.iload_n 2) 1 34 := ⟨zo_28 (by decide +kernel), rfl⟩
theorem dX12_tell_34 : Dc mX12_tell 34 (.if_icmp .ne 5) 3 37 := ⟨zo_160 (w := 0) (x := 5) (by decide +kernel), rfl⟩
theorem dX12_tell_37 : Dc mX12_tell 37 (.iconst 0) 1 38 := ⟨zo_3 (by decide +kernel), rfl⟩
theorem dX12_tell_38 : Dc mX12_tell 38 (.ireturn) 1 39 := ⟨zo_172 (by decide +kernel), rfl⟩
theorem dX12_tell_39 : Dc mX12_tell 39 (.aload_n 0) 1 40 := ⟨zo_42 (by decide +kernel), rfl⟩
theorem dX12_tell_40 : Dc mX12_tell 40 (.invokevirtual 463) 3 43 := ⟨zo_182 (w := 1) (x := 207) (by decide +kernel), rfl⟩
theorem dX12_tell_43 : Dc mX12_tell 43 (.aload_n 0) 1 44 := ⟨zo_42 (by decide +kernel), rfl⟩
theorem dX12_tell_44 : Dc mX12_tell 44 (.getfield 102) 3 47 := ⟨zo_180 (w := 0) (x := 102) (by decide +kernel), rfl⟩
theorem dX12_tell_47 : Dc mX12_tell 47 (.iload_n 1) 1 48 := ⟨zo_27 (by decide +kernel), rfl⟩
theorem dX12_tell_48 : Dc mX12_tell 48 (.iload_n 2) 1 49 := ⟨zo_28 (by decide +kernel), rfl⟩
theorem dX12_tell_49 : Dc mX12_tell 49 (.iastore) 1 50 := ⟨zo_79 (by decide +kernel), rfl⟩
theorem dX12_tell_50 : Dc mX12_tell 50 (.iconst 1) 1 51 := ⟨zo_4 (by decide +kernel), rfl⟩
theorem dX12_tell_51 : Dc mX12_tell 51 (.ireturn) 1 52 := ⟨zo_172 (by decide +kernel), rfl⟩
theorem dX12_forget_0 : Dc mX12_forget 0 (.aload_n 0) 1 1 := ⟨zo_42 (by decide +kernel), rfl⟩
theorem dX12_forget_1 : Dc mX12_forget 1 (.iconst 0) 1 2 := ⟨zo_3 (by decide +kernel), rfl⟩
theorem dX12_forget_2 : Dc mX12_forget 2 (.putfield 169) 3 5 := ⟨zo_181 (w := 0) (x := 169) (by decide +kernel), rfl⟩
theorem dX12_forget_5 : Dc mX12_forget 5 (.aload_n 0) 1 6 := ⟨zo_42 (by decide +kernel), rfl⟩
theorem dX12_forget_6 : Dc mX12_forget 6 (.iload_n 1) 1 7 := ⟨zo_27 (by decide +kernel), rfl⟩
theorem dX12_forget_7 : Dc mX12_forget 7 (.invokevirtual 450) 3 10 := ⟨zo_182 (w := 1) (x := 194) (by decide +kernel), rfl⟩
theorem dX12_forget_10 : Dc mX12_forget 10 (.ifCond .eq 13) 3 13 := ⟨zo_153 (w := 0) (x := 13) (by decide +kernel), rfl⟩
theorem dX12_forget_13 : Dc mX12_forget 13 (.aload_n 0) 1 14 := ⟨zo_42 (by decide +kernel), rfl⟩
theorem dX12_forget_14 : Dc mX12_forget 14 (.getfield 102) 3 17 := ⟨zo_180 (w := 0) (x := 102) (by decide +kernel), rfl⟩
theorem dX12_forget_17 : Dc mX12_forget 17 (.iload_n 1) 1 18 := ⟨zo_27 (by decide +kernel), rfl⟩
theorem dX12_forget_18 : Dc mX12_forget 18 (.iaload) 1 19 := ⟨zo_46 (by decide +kernel), rfl⟩
theorem dX12_forget_19 : Dc mX12_forget 19 (.iconst (-1)) 1 20 := ⟨zo_2 (by decide +kernel), rfl⟩
theorem dX12_forget_20 : Dc mX12_forget 20 (.if_icmp .ne 5) 3 23 := ⟨zo_160 (w := 0) (x := 5) (by decide +kernel), rfl⟩
theorem dX12_forget_23 : Dc mX12_forget 23 (.iconst 0) 1 24 := ⟨zo_3 (by decide +kernel), rfl⟩
theorem dX12_forget_24 : Dc mX12_forget 24 (.ireturn) 1 25 := ⟨zo_172 (by decide +kernel), rfl⟩
theorem dX12_forget_25 : Dc mX12_forget 25 (.aload_n 0) 1 26 := ⟨zo_42 (by decide +kernel), rfl⟩
theorem dX12_forget_26 : Dc mX12_forget 26 (.invokevirtual 463) 3 29 := ⟨zo_182 (w := 1) (x := 207) (by decide +kernel), rfl⟩
theorem dX12_forget_29 : Dc mX12_forget 29 (.aload_n 0) 1 30 := ⟨zo_42 (by decide +kernel), rfl⟩
theorem dX12_forget_30 : Dc mX12_forget 30 (.getfield 102) 3 33 := ⟨zo_180 (w := 0) (x := 102) (by decide +kernel), rfl⟩
theorem dX12_forget_33 : Dc mX12_forget 33 (.iload_n 1) 1 34 := ⟨zo_27 (by decide +kernel), rfl⟩
theorem dX12_forget_34 : Dc mX12_forget 34 (.iconst (-1)) 1 35 := ⟨zo_2 (by decide +kernel), rfl⟩
theorem dX12_forget_35 : Dc mX12_forget 35 (.iastore) 1 36 := ⟨zo_79 (by decide +kernel), rfl⟩
theorem dX12_forget_36 : Dc mX12_forget 36 (.iconst 1) 1 37 := ⟨zo_4 (by decide +kernel), rfl⟩
theorem dX12_forget_37 : Dc mX12_forget 37 (.ireturn) 1 38 := ⟨zo_172 (by decide +kernel), rfl⟩
theorem dX12_go_0 : Dc mX12_go 0 (.aload_n 0) 1 1 := ⟨zo_42 (by decide +kernel), rfl⟩
theorem dX12_go_1 : Dc mX12_go 1 (.iconst 0) 1 2 := ⟨zo_3 (by decide +kernel), rfl⟩
theorem dX12_go_2 : Dc mX12_go 2 (.putfield 169) 3 5 := ⟨zo_181 (w := 0) (x := 169) (by decide +kernel), rfl⟩
theorem dX12_go_5 : Dc mX12_go 5 (.iload_n 1) 1 6 := ⟨zo_27 (by decide +kernel), rfl⟩
theorem dX12_go_6 : Dc mX12_go 6 (.ifCond .lt 23) 3 9 := ⟨zo_155 (w := 0) (x := 23) (by decide +kernel), rfl⟩
theorem dX12_go_9 : Dc mX12_go 9 (.iload_n 1) 1 10 := ⟨zo_27 (by decide +kernel), rfl⟩
theorem dX12_go_10 : Dc mX12_go 10 (.bipush 99) 2 12 := ⟨zo_16 (w := 99) (by decide +kernel), rfl⟩
theorem dX12_go_12 : Dc mX12_go 12 (.if_icmp .gt 17) 3 15 := ⟨zo_163 (w := 0) (x := 17) (by decide +kernel), rfl⟩
theorem dX12_go_15 : Dc mX12_go 15 (.aload_n 0) 1 16 := ⟨zo_42 (by decide +kernel), rfl⟩
theorem dX12_go_16 : Dc mX12_go 16 (.getfield 84) 3 19 := ⟨zo_180 (w := 0) (x := 84) (by decide +kernel), rfl⟩
theorem dX12_go_19 : Dc mX12_go 19 (.iconst 0) 1 20 := ⟨zo_3 (by decide +kernel), rfl⟩
theorem dX12_go_20 : Dc mX12_go 20 (.iaload) 1 21 := ⟨zo_46 (by decide +kernel), rfl⟩
theorem dX12_go_21 : Dc mX12_go 21 (.iload_n 1) 1 22 := ⟨zo_27 (by decide +kernel), rfl⟩
theorem dX12_go_22 : Dc mX12_go 22 (.iadd) 1 23 := ⟨zo_96 (by decide +kernel), rfl⟩
theorem dX12_go_23 : Dc mX12_go 23 (.sipush 9900) 3 26 := ⟨zo_17 (w := 38) (x := 172) (by decide +kernel), rfl⟩
theorem dX12_go_26 : Dc mX12_go 26 (.if_icmp .le 5) 3 29 := ⟨zo_164 (w := 0) (x := 5) (by decide +kernel), rfl⟩
theorem dX12_go_29 : Dc mX12_go 29 (.iconst (-1)) 1 30 := ⟨zo_2 (by decide +kernel), rfl⟩
theorem dX12_go_30 : Dc mX12_go 30 (.ireturn) 1 31 := ⟨zo_172 (by decide +kernel), rfl⟩
theorem dX12_go_31 : Dc mX12_go 31 (.iload_n 1) 1 32 := ⟨zo_27 (by decide +kernel), rfl⟩
theorem dX12_go_32 : Dc mX12_go 32 (.ifCond .le 8) 3 35 := ⟨zo_158 (w := 0) (x := 8) (by decide +kernel), rfl⟩
theorem dX12_go_35 : Dc mX12_go 35 (.aload_n 0) 1 36 := ⟨zo_42 (by decide +kernel), rfl⟩
theorem dX12_go_36 : Dc mX12_go 36 (.iconst 0) 1 37 := ⟨zo_3 (by decide +kernel), rfl⟩
theorem dX12_go_37 : Dc mX12_go 37 (.putfield 335) 3 40 := ⟨zo_181 (w := 1) (x := 79) (by decide +kernel), rfl⟩
theorem dX12_go_40 : Dc mX12_go 40 (.iconst 0) 1 41 := ⟨zo_3 (by decide +kernel), rfl⟩
theorem dX12_go_41 : Dc mX12_go 41 (.istore_n 2) 1 42 := ⟨zo_61 (by decide +kernel), rfl⟩
theorem dX12_go_42 : Dc mX12_go 42 (.iload_n 2) 1 43 := ⟨zo_28 (by decide +kernel), rfl⟩
theorem dX12_go_43 : Dc mX12_go 43 (.iload_n 1) 1 44 := ⟨zo_27 (by decide +kernel), rfl⟩
theorem dX12_go_44 : Dc mX12_go 44 (.if_icmp .ge 15) 3 47 := ⟨zo_162 (w := 0) (x := 15) (by decide +kernel), rfl⟩
theorem dX12_go_47 : Dc mX12_go 47 (.aload_n 0) 1 48 := ⟨zo_42 (by decide +kernel), rfl⟩
theorem dX12_go_48 : Dc mX12_go 48 (.iconst 0) 1 49 := ⟨zo_3 (by decide +kernel), rfl⟩
theorem dX12_go_49 : Dc mX12_go 49 (.iconst 1) 1 50 := ⟨zo_4 (by decide +kernel), rfl⟩
theorem dX12_go_50 : Dc mX12_go 50 (.invokevirtual 440) 3 53 := ⟨zo_182 (w := 1) (x := 184) (by decide +kernel), rfl⟩
theorem dX12_go_53 : Dc mX12_go 53 (.iinc 2 1) 3 56 := ⟨zo_iinc (x := 1) (by decide +kernel), rfl⟩
theorem dX12_go_56 : Dc mX12_go 56 (.goto (-14)) 3 59 := ⟨zo_167 (w := 255) (x := 242) (by decide +kernel), rfl⟩
theorem dX12_go_59 : Dc mX12_go 59 (.aload_n 0) 1 60 := ⟨zo_42 (by decide +kernel), rfl⟩
theorem dX12_go_60 : Dc mX12_go 60 (.getfield 84) 3 63 := ⟨zo_180 (w := 0) (x := 84) (by decide +kernel), rfl⟩
theorem dX12_go_63 : Dc mX12_go 63 (.iconst 0) 1 64 := ⟨zo_3 (by decide +kernel), rfl⟩
theorem dX12_go_64 : Dc mX12_go 64 (.iaload) 1 65 := ⟨zo_46 (by decide +kernel), rfl⟩
theorem dX12_go_65 : Dc mX12_go 65 (.ireturn) 1 66 := ⟨zo_172 (by decide +kernel), rfl⟩
theorem dX12_ahead_0 : Dc mX12_ahead 0 (.aload_n 0) 1 1 := ⟨zo_42 (by decide +kernel), rfl⟩
theorem dX12_ahead_1 : Dc mX12_ahead 1 (.iconst 0) 1 2 := ⟨zo_3 (by decide +kernel), rfl⟩
theorem dX12_ahead_2 : Dc mX12_ahead 2 (.putfield 169) 3 5 := ⟨zo_181 (w := 0) (x := 169) (by decide +kernel), rfl⟩
theorem dX12_ahead_5 : Dc mX12_ahead 5 (.iload_n 1) 1 6 := ⟨zo_27 (by decide +kernel), rfl⟩
theorem dX12_ahead_6 : Dc mX12_ahead 6 (.ifCond .lt 18) 3 9 := ⟨zo_155 (w := 0) (x := 18) (by decide +kernel), rfl⟩
theorem dX12_ahead_9 : Dc mX12_ahead 9 (.iload_n 1) 1 10 := ⟨zo_27 (by decide +kernel), rfl⟩
theorem dX12_ahead_10 : Dc mX12_ahead 10 (.bipush 99) 2 12 := ⟨zo_16 (w := 99) (by decide +kernel), rfl⟩
theorem dX12_ahead_12 : Dc mX12_ahead 12 (.if_icmp .gt 12) 3 15 := ⟨zo_163 (w := 0) (x := 12) (by decide +kernel), rfl⟩
theorem dX12_ahead_15 : Dc mX12_ahead 15 (.iload_n 2) 1 16 := ⟨zo_28 (by decide +kernel), rfl⟩
theorem dX12_ahead_16 : Dc mX12_ahead 16 (.ifCond .lt 8) 3 19 := ⟨zo_155 (w := 0) (x := 8) (by decide +kernel), rfl⟩
theorem dX12_ahead_19 : Dc mX12_ahead 19 (.iload_n 2) 1 20 := ⟨zo_28 (by decide +kernel), rfl⟩
theorem dX12_ahead_20 : Dc mX12_ahead 20 (.iconst 4) 1 21 := ⟨zo_7 (by decide +kernel), rfl⟩
theorem dX12_ahead_21 : Dc mX12_ahead 21 (.if_icmp .le 5) 3 24 := ⟨zo_164 (w := 0) (x := 5) (by decide +kernel), rfl⟩
theorem dX12_ahead_24 : Dc mX12_ahead 24 (.iconst (-1)) 1 25 := ⟨zo_2 (by decide +kernel), rfl⟩
theorem dX12_ahead_25 : Dc mX12_ahead 25 (.ireturn) 1 26 := ⟨zo_172 (by decide +kernel), rfl⟩
theorem dX12_ahead_26 : Dc mX12_ahead 26 (.aload_n 0) 1 27 := ⟨zo_42 (by decide +kernel), rfl⟩
theorem dX12_ahead_27 : Dc mX12_ahead 27 (.iload_n 1) 1 28 := ⟨zo_27 (by decide +kernel), rfl⟩
theorem dX12_ahead_28 : Dc mX12_ahead 28 (.invokevirtual 466) 3 31 := ⟨zo_182 (w := 1) (x := 210) (by decide +kernel), rfl⟩
theorem dX12_ahead_31 : Dc mX12_ahead 31 (.iload_n 2) 1 32 := ⟨zo_28 (by decide +kernel), rfl⟩
theorem dX12_ahead_32 : Dc mX12_ahead 32 (.tableswitch 93 0 3 #[32, 52, 66, 86]) 32 64 := ⟨by decide +kernel, rfl⟩
theorem dX12_ahead_64 : Dc mX12_ahead 64 (.aload_n 0) 1 65 := ⟨zo_42 (by decide +kernel), rfl⟩
theorem dX12_ahead_65 : Dc mX12_ahead 65 (.aload_n 0) 1 66 := ⟨zo_42 (by decide +kernel), rfl⟩
theorem dX12_ahead_66 : Dc mX12_ahead 66 (.getfield 111) 3 69 := ⟨zo_180 (w := 0) (x := 111) (by decide +kernel), rfl⟩
theorem dX12_ahead_69 : Dc mX12_ahead 69 (.iconst 1) 1 70 := ⟨zo_4 (by decide +kernel), rfl⟩
theorem dX12_ahead_70 : Dc mX12_ahead 70 (.invokevirtual 469) 3 73 := ⟨zo_182 (w := 1) (x := 213) (by decide +kernel), rfl⟩
theorem dX12_ahead_73 : Dc mX12_ahead 73 (.aload_n 0) 1 74 := ⟨zo_42 (by decide +kernel), rfl⟩
theorem dX12_ahead_74 : Dc mX12_ahead 74 (.aload_n 0) 1 75 := ⟨zo_42 (by decide +kernel), rfl⟩
theorem dX12_ahead_75 : Dc mX12_ahead 75 (.getfield 111) 3 78 := ⟨zo_180 (w := 0) (x := 111) (by decide +kernel), rfl⟩
theorem dX12_ahead_78 : Dc mX12_ahead 78 (.iconst 0) 1 79 := ⟨zo_3 (by decide +kernel), rfl⟩
theorem dX12_ahead_79 : Dc mX12_ahead 79 (.invokevirtual 469) 3 82 := ⟨zo_182 (w := 1) (x := 213) (by decide +kernel), rfl⟩
theorem dX12_ahead_82 : Dc mX12_ahead 82 (.isub) 1 83 := ⟨zo_100 (by decide +kernel), rfl⟩
theorem dX12_ahead_83 : Dc mX12_ahead 83 (.ireturn) 1 84 := ⟨zo_172 (by decide +kernel), rfl⟩
theorem dX12_ahead_84 : Dc mX12_ahead 84 (.aload_n 0) 1 85 := ⟨zo_42 (by decide +kernel), rfl⟩
theorem dX12_ahead_85 : Dc mX12_ahead 85 (.getfield 93) 3 88 := ⟨zo_180 (w := 0) (x := 93) (by decide +kernel), rfl⟩
theorem dX12_ahead_88 : Dc mX12_ahead 88 (.iconst 1) 1 89 := ⟨zo_4 (by decide +kernel), rfl⟩
theorem dX12_ahead_89 : Dc mX12_ahead 89 (.iaload) 1 90 := ⟨zo_46 (by decide +kernel), rfl⟩
theorem dX12_ahead_90 : Dc mX12_ahead 90 (.aload_n 0) 1 91 := ⟨zo_42 (by decide +kernel), rfl⟩
theorem dX12_ahead_91 : Dc mX12_ahead 91 (.getfield 93) 3 94 := ⟨zo_180 (w := 0) (x := 93) (by decide +kernel), rfl⟩
theorem dX12_ahead_94 : Dc mX12_ahead 94 (.iconst 0) 1 95 := ⟨zo_3 (by decide +kernel), rfl⟩
theorem dX12_ahead_95 : Dc mX12_ahead 95 (.iaload) 1 96 := ⟨zo_46 (by decide +kernel), rfl⟩
theorem dX12_ahead_96 : Dc mX12_ahead 96 (.isub) 1 97 := ⟨zo_100 (by decide +kernel), rfl⟩
theorem dX12_ahead_97 : Dc mX12_ahead 97 (.ireturn) 1 98 := ⟨zo_172 (by decide +kernel), rfl⟩
theorem dX12_ahead_98 : Dc mX12_ahead 98 (.aload_n 0) 1 99 := ⟨zo_42 (by decide +kernel), rfl⟩
theorem dX12_ahead_99 : Dc mX12_ahead 99 (.aload_n 0) 1 100 := ⟨zo_42 (by decide +kernel), rfl⟩
theorem dX12_ahead_100 : Dc mX12_ahead 100 (.getfield 114) 3 103 := ⟨zo_180 (w := 0) (x := 114) (by decide +kernel), rfl⟩
theorem dX12_ahead_103 : Dc mX12_ahead 103 (.iconst 1) 1 104 := ⟨zo_4 (by decide +kernel), rfl⟩
theorem dX12_ahead_104 : Dc mX12_ahead 104 (.invokevirtual 469) 3 107 := ⟨zo_182 (w := 1) (x := 213) (by decide +kernel), rfl⟩
theorem dX12_ahead_107 : Dc mX12_ahead 107 (.aload_n 0) 1 108 := ⟨zo_42 (by decide +kernel), rfl⟩
theorem dX12_ahead_108 : Dc mX12_ahead 108 (.aload_n 0) 1 109 := ⟨zo_42 (by decide +kernel), rfl⟩
theorem dX12_ahead_109 : Dc mX12_ahead 109 (.getfield 114) 3 112 := ⟨zo_180 (w := 0) (x := 114) (by decide +kernel), rfl⟩
theorem dX12_ahead_112 : Dc mX12_ahead 112 (.iconst 0) 1 113 := ⟨zo_3 (by decide +kernel), rfl⟩
theorem dX12_ahead_113 : Dc mX12_ahead 113 (.invokevirtual 469) 3 116 := ⟨zo_182 (w := 1) (x := 213) (by decide +kernel), rfl⟩
theorem dX12_ahead_116 : Dc mX12_ahead 116 (.isub) 1 117 := ⟨zo_100 (by decide +kernel), rfl⟩
theorem dX12_ahead_117 : Dc mX12_ahead 117 (.ireturn) 1 118 := ⟨zo_172 (by decide +kernel), rfl⟩
theorem dX12_ahead_118 : Dc mX12_ahead 118 (.aload_n 0) 1 119 := ⟨zo_42 (by decide +kernel), rfl⟩
theorem dX12_ahead_119 : Dc mX12_ahead 119 (.getfield 90) 3 122 := ⟨zo_180 (w := 0) (x := 90) (by decide +kernel), rfl⟩
theorem dX12_ahead_122 : Dc mX12_ahead 122 (.iconst 1) 1 123 := ⟨zo_4 (by decide +kernel), rfl⟩
theorem dX12_ahead_123 : Dc mX12_ahead 123 (.iaload) 1 124 := ⟨zo_46 (by decide +kernel), rfl⟩
theorem dX12_ahead_124 : Dc mX12_ahead 124 (.ireturn) 1 125 := ⟨zo_172 (by decide +kernel), rfl⟩
theorem dX12_ahead_125 : Dc mX12_ahead 125 (.aload_n 0) 1 126 := ⟨zo_42 (by decide +kernel), rfl⟩
theorem dX12_ahead_126 : Dc mX12_ahead 126 (.iconst 1) 1 127 := ⟨zo_4 (by decide +kernel), rfl⟩
theorem dX12_ahead_127 : Dc mX12_ahead 127 (.invokevirtual 473) 3 130 := ⟨zo_182 (w := 1) (x := 217) (by decide +kernel), rfl⟩
theorem dX12_ahead_130 : Dc mX12_ahead 130 (.ireturn) 1 131 := ⟨zo_172 (by decide +kernel), rfl⟩
theorem dX12_breaksOf_0 : Dc mX12_breaksOf 0 (.iload_n 2) 1 1 := ⟨zo_28 (by decide +kernel), rfl⟩
theorem dX12_breaksOf_1 : Dc mX12_breaksOf 1 (.iconst 1) 1 2 := ⟨zo_4 (by decide +kernel), rfl⟩
theorem dX12_breaksOf_2 : Dc mX12_breaksOf 2 (.iadd) 1 3 := ⟨zo_96 (by decide +kernel), rfl⟩
theorem dX12_breaksOf_3 : Dc mX12_breaksOf 3 (.aload_n 0) 1 4 := ⟨zo_42 (by decide +kernel), rfl⟩
theorem dX12_breaksOf_4 : Dc mX12_breaksOf 4 (.getfield 13) 3 7 := ⟨zo_180 (w := 0) (x := 13) (by decide +kernel), rfl⟩
theorem dX12_breaksOf_7 : Dc mX12_breaksOf 7 (.iconst 1) 1 8 := ⟨zo_4 (by decide +kernel), rfl⟩
theorem dX12_breaksOf_8 : Dc mX12_breaksOf 8 (.iaload) 1 9 := ⟨zo_46 (by decide +kernel), rfl⟩
theorem dX12_breaksOf_9 : Dc mX12_breaksOf 9 (.if_icmp .ge 23) 3 12 := ⟨zo_162 (w := 0) (x := 23) (by decide +kernel), rfl⟩
theorem dX12_breaksOf_12 : Dc mX12_breaksOf 12 (.aload_n 0) 1 13 := ⟨zo_42 (by decide +kernel), rfl⟩
theorem dX12_breaksOf_13 : Dc mX12_breaksOf 13 (.iload_n 1) 1 14 := ⟨zo_27 (by decide +kernel), rfl⟩
theorem dX12_breaksOf_14 : Dc mX12_breaksOf 14 (.iload_n 2) 1 15 := ⟨zo_28 (by decide +kernel), rfl⟩
theorem dX12_breaksOf_15 : Dc mX12_breaksOf 15 (.invokevirtual 367) 3 18 := ⟨zo_182 (w := 1) (x := 111) (by decide +kernel), rfl⟩
theorem dX12_breaksOf_18 : Dc mX12_breaksOf 18 (.ifCond .eq 14) 3 21 := ⟨zo_153 (w := 0) (x := 14) (by decide +kernel), rfl⟩
theorem dX12_breaksOf_21 : Dc mX12_breaksOf 21 (.aload_n 0) 1 22 := ⟨zo_42 (by decide +kernel), rfl⟩
theorem dX12_breaksOf_22 : Dc mX12_breaksOf 22 (.iload_n 1) 1 23 := ⟨zo_27 (by decide +kernel), rfl⟩
theorem dX12_breaksOf_23 : Dc mX12_breaksOf 23 (.iload_n 2) 1 24 := ⟨zo_28 (by decide +kernel), rfl⟩
theorem dX12_breaksOf_24 : Dc mX12_breaksOf 24 (.iconst 1) 1 25 := ⟨zo_4 (by decide +kernel), rfl⟩
theorem dX12_breaksOf_25 : Dc mX12_breaksOf 25 (.iadd) 1 26 := ⟨zo_96 (by decide +kernel), rfl⟩
theorem dX12_breaksOf_26 : Dc mX12_breaksOf 26 (.invokevirtual 367) 3 29 := ⟨zo_182 (w := 1) (x := 111) (by decide +kernel), rfl⟩
theorem dX12_breaksOf_29 : Dc mX12_breaksOf 29 (.ifCond .ne 5) 3 32 := ⟨zo_154 (w := 0) (x := 5) (by decide +kernel), rfl⟩
theorem dX12_breaksOf_32 : Dc mX12_breaksOf 32 (.iconst 0) 1 33 := ⟨zo_3 (by decide +kernel), rfl⟩
theorem dX12_breaksOf_33 : Dc mX12_breaksOf 33 (.ireturn) 1 34 := ⟨zo_172 (by decide +kernel), rfl⟩
theorem dX12_breaksOf_34 : Dc mX12_breaksOf 34 (.iconst 0) 1 35 := ⟨zo_3 (by decide +kernel), rfl⟩
theorem dX12_breaksOf_35 : Dc mX12_breaksOf 35 (.istore_n 3) 1 36 := ⟨zo_62 (by decide +kernel), rfl⟩
theorem dX12_breaksOf_36 : Dc mX12_breaksOf 36 (.iconst 0) 1 37 := ⟨zo_3 (by decide +kernel), rfl⟩
theorem dX12_breaksOf_37 : Dc mX12_breaksOf 37 (.istore 4) 2 39 := ⟨zo_54 (by decide +kernel), rfl⟩
theorem dX12_breaksOf_39 : Dc mX12_breaksOf 39 (.iload 4) 2 41 := ⟨zo_21 (by decide +kernel), rfl⟩
theorem dX12_breaksOf_41 : Dc mX12_breaksOf 41 (.aload_n 0) 1 42 := ⟨zo_42 (by decide +kernel), rfl⟩
theorem dX12_breaksOf_42 : Dc mX12_breaksOf 42 (.getfield 13) 3 45 := ⟨zo_180 (w := 0) (x := 13) (by decide +kernel), rfl⟩
theorem dX12_breaksOf_45 : Dc mX12_breaksOf 45 (.iconst 0) 1 46 := ⟨zo_3 (by decide +kernel), rfl⟩
theorem dX12_breaksOf_46 : Dc mX12_breaksOf 46 (.iaload) 1 47 := ⟨zo_46 (by decide +kernel), rfl⟩
theorem dX12_breaksOf_47 : Dc mX12_breaksOf 47 (.if_icmp .ge 58) 3 50 := ⟨zo_162 (w := 0) (x := 58) (by decide +kernel), rfl⟩
theorem dX12_breaksOf_50 : Dc mX12_breaksOf 50 (.aload_n 0) 1 51 := ⟨zo_42 (by decide +kernel), rfl⟩
theorem dX12_breaksOf_51 : Dc mX12_breaksOf 51 (.iload_n 1) 1 52 := ⟨zo_27 (by decide +kernel), rfl⟩
theorem dX12_breaksOf_52 : Dc mX12_breaksOf 52 (.iload_n 2) 1 53 := ⟨zo_28 (by decide +kernel), rfl⟩
theorem dX12_breaksOf_53 : Dc mX12_breaksOf 53 (.iload 4) 2 55 := ⟨zo_21 (by decide +kernel), rfl⟩
theorem dX12_breaksOf_55 : Dc mX12_breaksOf 55 (.invokevirtual 371) 3 58 := ⟨zo_182 (w := 1) (x := 115) (by decide +kernel), rfl⟩
theorem dX12_breaksOf_58 : Dc mX12_breaksOf 58 (.istore 5) 2 60 := ⟨zo_54 (by decide +kernel), rfl⟩
theorem dX12_breaksOf_60 : Dc mX12_breaksOf 60 (.aload_n 0) 1 61 := ⟨zo_42 (by decide +kernel), rfl⟩
theorem dX12_breaksOf_61 : Dc mX12_breaksOf 61 (.iload_n 1) 1 62 := ⟨zo_27 (by decide +kernel), rfl⟩
theorem dX12_breaksOf_62 : Dc mX12_breaksOf 62 (.iload_n 2) 1 63 := ⟨zo_28 (by decide +kernel), rfl⟩
theorem dX12_breaksOf_63 : Dc mX12_breaksOf 63 (.iconst 1) 1 64 := ⟨zo_4 (by decide +kernel), rfl⟩
theorem dX12_breaksOf_64 : Dc mX12_breaksOf 64 (.iadd) 1 65 := ⟨zo_96 (by decide +kernel), rfl⟩
theorem dX12_breaksOf_65 : Dc mX12_breaksOf 65 (.iload 4) 2 67 := ⟨zo_21 (by decide +kernel), rfl⟩
theorem dX12_breaksOf_67 : Dc mX12_breaksOf 67 (.invokevirtual 371) 3 70 := ⟨zo_182 (w := 1) (x := 115) (by decide +kernel), rfl⟩
theorem dX12_breaksOf_70 : Dc mX12_breaksOf 70 (.istore 6) 2 72 := ⟨zo_54 (by decide +kernel), rfl⟩
theorem dX12_breaksOf_72 : Dc mX12_breaksOf 72 (.iload_n 3) 1 73 := ⟨zo_29 (by decide +kernel), rfl⟩
theorem dX12_breaksOf_73 : Dc mX12_breaksOf 73 (.iload 5) 2 75 := ⟨zo_21 (by decide +kernel), rfl⟩
theorem dX12_breaksOf_75 : Dc mX12_breaksOf 75 (.iconst (-1)) 1 76 := ⟨zo_2 (by decide +kernel), rfl⟩
theorem dX12_breaksOf_76 : Dc mX12_breaksOf 76 (.if_icmp .eq 20) 3 79 := ⟨zo_159 (w := 0) (x := 20) (by decide +kernel), rfl⟩
theorem dX12_breaksOf_79 : Dc mX12_breaksOf 79 (.iload 6) 2 81 := ⟨zo_21 (by decide +kernel), rfl⟩
theorem dX12_breaksOf_81 : Dc mX12_breaksOf 81 (.iconst (-1)) 1 82 := ⟨zo_2 (by decide +kernel), rfl⟩
theorem dX12_breaksOf_82 : Dc mX12_breaksOf 82 (.if_icmp .eq 14) 3 85 := ⟨zo_159 (w := 0) (x := 14) (by decide +kernel), rfl⟩
theorem dX12_breaksOf_85 : Dc mX12_breaksOf 85 (.iload 5) 2 87 := ⟨zo_21 (by decide +kernel), rfl⟩
theorem dX12_breaksOf_87 : Dc mX12_breaksOf 87 (.iload 6) 2 89 := ⟨zo_21 (by decide +kernel), rfl⟩
theorem dX12_breaksOf_89 : Dc mX12_breaksOf 89 (.if_icmp .eq 7) 3 92 := ⟨zo_159 (w := 0) (x := 7) (by decide +kernel), rfl⟩
theorem dX12_breaksOf_92 : Dc mX12_breaksOf 92 (.iconst 1) 1 93 := ⟨zo_4 (by decide +kernel), rfl⟩
theorem dX12_breaksOf_93 : Dc mX12_breaksOf 93 (.goto 4) 3 96 := ⟨zo_167 (w := 0) (x := 4) (by decide +kernel), rfl⟩
theorem dX12_breaksOf_96 : Dc mX12_breaksOf 96 (.iconst 0) 1 97 := ⟨zo_3 (by decide +kernel), rfl⟩
theorem dX12_breaksOf_97 : Dc mX12_breaksOf 97 (.iadd) 1 98 := ⟨zo_96 (by decide +kernel), rfl⟩
theorem dX12_breaksOf_98 : Dc mX12_breaksOf 98 (.istore_n 3) 1 99 := ⟨zo_62 (by decide +kernel), rfl⟩
theorem dX12_breaksOf_99 : Dc mX12_breaksOf 99 (.iinc 4 1) 3 102 := ⟨zo_iinc (x := 1) (by decide +kernel), rfl⟩
theorem dX12_breaksOf_102 : Dc mX12_breaksOf 102 (.goto (-63)) 3 105 := ⟨zo_167 (w := 255) (x := 193) (by decide +kernel), rfl⟩
theorem dX12_breaksOf_105 : Dc mX12_breaksOf 105 (.iload_n 3) 1 106 := ⟨zo_29 (by decide +kernel), rfl⟩
theorem dX12_breaksOf_106 : Dc mX12_breaksOf 106 (.ireturn) 1 107 := ⟨zo_172 (by decide +kernel), rfl⟩
theorem dX12_breaksAll_0 : Dc mX12_breaksAll 0 (.iconst 0) 1 1 := ⟨zo_3 (by decide +kernel), rfl⟩
theorem dX12_breaksAll_1 : Dc mX12_breaksAll 1 (.istore_n 2) 1 2 := ⟨zo_61 (by decide +kernel), rfl⟩
theorem dX12_breaksAll_2 : Dc mX12_breaksAll 2 (.iconst 0) 1 3 := ⟨zo_3 (by decide +kernel), rfl⟩
theorem dX12_breaksAll_3 : Dc mX12_breaksAll 3 (.istore_n 3) 1 4 := ⟨zo_62 (by decide +kernel), rfl⟩
theorem dX12_breaksAll_4 : Dc mX12_breaksAll 4 (.iload_n 3) 1 5 := ⟨zo_29 (by decide +kernel), rfl⟩
theorem dX12_breaksAll_5 : Dc mX12_breaksAll 5 (.aload_n 0) 1 6 := ⟨zo_42 (by decide +kernel), rfl⟩
theorem dX12_breaksAll_6 : Dc mX12_breaksAll 6 (.getfield 13) 3 9 := ⟨zo_180 (w := 0) (x := 13) (by decide +kernel), rfl⟩
theorem dX12_breaksAll_9 : Dc mX12_breaksAll 9 (.iconst 1) 1 10 := ⟨zo_4 (by decide +kernel), rfl⟩
theorem dX12_breaksAll_10 : Dc mX12_breaksAll 10 (.iaload) 1 11 := ⟨zo_46 (by decide +kernel), rfl⟩
theorem dX12_breaksAll_11 : Dc mX12_breaksAll 11 (.if_icmp .ge 18) 3 14 := ⟨zo_162 (w := 0) (x := 18) (by decide +kernel), rfl⟩
theorem dX12_breaksAll_14 : Dc mX12_breaksAll 14 (.iload_n 2) 1 15 := ⟨zo_28 (by decide +kernel), rfl⟩
theorem dX12_breaksAll_15 : Dc mX12_breaksAll 15 (.aload_n 0) 1 16 := ⟨zo_42 (by decide +kernel), rfl⟩
theorem dX12_breaksAll_16 : Dc mX12_breaksAll 16 (.iload_n 1) 1 17 := ⟨zo_27 (by decide +kernel), rfl⟩
theorem dX12_breaksAll_17 : Dc mX12_breaksAll 17 (.iload_n 3) 1 18 := ⟨zo_29 (by decide +kernel), rfl⟩
theorem dX12_breaksAll_18 : Dc mX12_breaksAll 18 (.invokevirtual 476) 3 21 := ⟨zo_182 (w := 1) (x := 220) (by decide +kernel), rfl⟩
theorem dX12_breaksAll_21 : Dc mX12_breaksAll 21 (.iadd) 1 22 := ⟨zo_96 (by decide +kernel), rfl⟩
theorem dX12_breaksAll_22 : Dc mX12_breaksAll 22 (.istore_n 2) 1 23 := ⟨zo_61 (by decide +kernel), rfl⟩
theorem dX12_breaksAll_23 : Dc mX12_breaksAll 23 (.iinc 3 1) 3 26 := ⟨zo_iinc (x := 1) (by decide +kernel), rfl⟩
theorem dX12_breaksAll_26 : Dc mX12_breaksAll 26 (.goto (-22)) 3 29 := ⟨zo_167 (w := 255) (x := 234) (by decide +kernel), rfl⟩
theorem dX12_breaksAll_29 : Dc mX12_breaksAll 29 (.iload_n 2) 1 30 := ⟨zo_28 (by decide +kernel), rfl⟩
theorem dX12_breaksAll_30 : Dc mX12_breaksAll 30 (.ireturn) 1 31 := ⟨zo_172 (by decide +kernel), rfl⟩
theorem dX12_breaks_0 : Dc mX12_breaks 0 (.aload_n 0) 1 1 := ⟨zo_42 (by decide +kernel), rfl⟩
theorem dX12_breaks_1 : Dc mX12_breaks 1 (.iconst 0) 1 2 := ⟨zo_3 (by decide +kernel), rfl⟩
theorem dX12_breaks_2 : Dc mX12_breaks 2 (.putfield 169) 3 5 := ⟨zo_181 (w := 0) (x := 169) (by decide +kernel), rfl⟩
theorem dX12_breaks_5 : Dc mX12_breaks 5 (.aload_n 0) 1 6 := ⟨zo_42 (by decide +kernel), rfl⟩
theorem dX12_breaks_6 : Dc mX12_breaks 6 (.iconst 0) 1 7 := ⟨zo_3 (by decide +kernel), rfl⟩
theorem dX12_breaks_7 : Dc mX12_breaks 7 (.invokevirtual 479) 3 10 := ⟨zo_182 (w := 1) (x := 223) (by decide +kernel), rfl⟩
theorem dX12_breaks_10 : Dc mX12_breaks 10 (.ireturn) 1 11 := ⟨zo_172 (by decide +kernel), rfl⟩
theorem dX12_agrees_0 : Dc mX12_agrees 0 (.aload_n 0) 1 1 := ⟨zo_42 (by decide +kernel), rfl⟩
theorem dX12_agrees_1 : Dc mX12_agrees 1 (.iconst 0) 1 2 := ⟨zo_3 (by decide +kernel), rfl⟩
theorem dX12_agrees_2 : Dc mX12_agrees 2 (.putfield 169) 3 5 := ⟨zo_181 (w := 0) (x := 169) (by decide +kernel), rfl⟩
theorem dX12_agrees_5 : Dc mX12_agrees 5 (.aload_n 0) 1 6 := ⟨zo_42 (by decide +kernel), rfl⟩
theorem dX12_agrees_6 : Dc mX12_agrees 6 (.iconst 1) 1 7 := ⟨zo_4 (by decide +kernel), rfl⟩
theorem dX12_agrees_7 : Dc mX12_agrees 7 (.iconst 0) 1 8 := ⟨zo_3 (by decide +kernel), rfl⟩
theorem dX12_agrees_8 : Dc mX12_agrees 8 (.invokevirtual 444) 3 11 := ⟨zo_182 (w := 1) (x := 188) (by decide +kernel), rfl⟩
theorem dX12_agrees_11 : Dc mX12_agrees 11 (.iconst 0) 1 12 := ⟨zo_3 (by decide +kernel), rfl⟩
theorem dX12_agrees_12 : Dc mX12_agrees 12 (.istore_n 1) 1 13 := ⟨zo_60 (by decide +kernel), rfl⟩
theorem dX12_agrees_13 : Dc mX12_agrees 13 (.iload_n 1) 1 14 := ⟨zo_27 (by decide +kernel), rfl⟩
theorem dX12_agrees_14 : Dc mX12_agrees 14 (.bipush 99) 2 16 := ⟨zo_16 (w := 99) (by decide +kernel), rfl⟩
theorem dX12_agrees_16 : Dc mX12_agrees 16 (.if_icmp .gt 43) 3 19 := ⟨zo_163 (w := 0) (x := 43) (by decide +kernel), rfl⟩
theorem dX12_agrees_19 : Dc mX12_agrees 19 (.aload_n 0) 1 20 := ⟨zo_42 (by decide +kernel), rfl⟩
theorem dX12_agrees_20 : Dc mX12_agrees 20 (.aload_n 0) 1 21 := ⟨zo_42 (by decide +kernel), rfl⟩
theorem dX12_agrees_21 : Dc mX12_agrees 21 (.getfield 111) 3 24 := ⟨zo_180 (w := 0) (x := 111) (by decide +kernel), rfl⟩
theorem dX12_agrees_24 : Dc mX12_agrees 24 (.iconst 1) 1 25 := ⟨zo_4 (by decide +kernel), rfl⟩
theorem dX12_agrees_25 : Dc mX12_agrees 25 (.invokevirtual 469) 3 28 := ⟨zo_182 (w := 1) (x := 213) (by decide +kernel), rfl⟩
theorem dX12_agrees_28 : Dc mX12_agrees 28 (.aload_n 0) 1 29 := ⟨zo_42 (by decide +kernel), rfl⟩
theorem dX12_agrees_29 : Dc mX12_agrees 29 (.getfield 13) 3 32 := ⟨zo_180 (w := 0) (x := 13) (by decide +kernel), rfl⟩
theorem dX12_agrees_32 : Dc mX12_agrees 32 (.iconst 1) 1 33 := ⟨zo_4 (by decide +kernel), rfl⟩
theorem dX12_agrees_33 : Dc mX12_agrees 33 (.iaload) 1 34 := ⟨zo_46 (by decide +kernel), rfl⟩
theorem dX12_agrees_34 : Dc mX12_agrees 34 (.if_icmp .ne 13) 3 37 := ⟨zo_160 (w := 0) (x := 13) (by decide +kernel), rfl⟩
theorem dX12_agrees_37 : Dc mX12_agrees 37 (.aload_n 0) 1 38 := ⟨zo_42 (by decide +kernel), rfl⟩
theorem dX12_agrees_38 : Dc mX12_agrees 38 (.iconst 1) 1 39 := ⟨zo_4 (by decide +kernel), rfl⟩
theorem dX12_agrees_39 : Dc mX12_agrees 39 (.invokevirtual 473) 3 42 := ⟨zo_182 (w := 1) (x := 217) (by decide +kernel), rfl⟩
theorem dX12_agrees_42 : Dc mX12_agrees 42 (.ifCond .ne 5) 3 45 := ⟨zo_154 (w := 0) (x := 5) (by decide +kernel), rfl⟩
theorem dX12_agrees_45 : Dc mX12_agrees 45 (.iload_n 1) 1 46 := ⟨zo_27 (by decide +kernel), rfl⟩
theorem dX12_agrees_46 : Dc mX12_agrees 46 (.ireturn) 1 47 := ⟨zo_172 (by decide +kernel), rfl⟩
theorem dX12_agrees_47 : Dc mX12_agrees 47 (.aload_n 0) 1 48 := ⟨zo_42 (by decide +kernel), rfl⟩
theorem dX12_agrees_48 : Dc mX12_agrees 48 (.iconst 1) 1 49 := ⟨zo_4 (by decide +kernel), rfl⟩
theorem dX12_agrees_49 : Dc mX12_agrees 49 (.iconst 0) 1 50 := ⟨zo_3 (by decide +kernel), rfl⟩
theorem dX12_agrees_50 : Dc mX12_agrees 50 (.invokevirtual 440) 3 53 := ⟨zo_182 (w := 1) (x := 184) (by decide +kernel), rfl⟩
theorem dX12_agrees_53 : Dc mX12_agrees 53 (.iinc 1 1) 3 56 := ⟨zo_iinc (x := 1) (by decide +kernel), rfl⟩
theorem dX12_agrees_56 : Dc mX12_agrees 56 (.goto (-43)) 3 59 := ⟨zo_167 (w := 255) (x := 213) (by decide +kernel), rfl⟩
theorem dX12_agrees_59 : Dc mX12_agrees 59 (.bipush (-2)) 2 61 := ⟨zo_16 (w := 254) (by decide +kernel), rfl⟩
theorem dX12_agrees_61 : Dc mX12_agrees 61 (.ireturn) 1 62 := ⟨zo_172 (by decide +kernel), rfl⟩
theorem dX12_costNow_0 : Dc mX12_costNow 0 (.iconst 0) 1 1 := ⟨zo_3 (by decide +kernel), rfl⟩
theorem dX12_costNow_1 : Dc mX12_costNow 1 (.istore_n 1) 1 2 := ⟨zo_60 (by decide +kernel), rfl⟩
theorem dX12_costNow_2 : Dc mX12_costNow 2 (.iconst 0) 1 3 := ⟨zo_3 (by decide +kernel), rfl⟩
theorem dX12_costNow_3 : Dc mX12_costNow 3 (.istore_n 2) 1 4 := ⟨zo_61 (by decide +kernel), rfl⟩
theorem dX12_costNow_4 : Dc mX12_costNow 4 (.iload_n 2) 1 5 := ⟨zo_28 (by decide +kernel), rfl⟩
theorem dX12_costNow_5 : Dc mX12_costNow 5 (.aload_n 0) 1 6 := ⟨zo_42 (by decide +kernel), rfl⟩
theorem dX12_costNow_6 : Dc mX12_costNow 6 (.getfield 13) 3 9 := ⟨zo_180 (w := 0) (x := 13) (by decide +kernel), rfl⟩
theorem dX12_costNow_9 : Dc mX12_costNow 9 (.iconst 1) 1 10 := ⟨zo_4 (by decide +kernel), rfl⟩
theorem dX12_costNow_10 : Dc mX12_costNow 10 (.iaload) 1 11 := ⟨zo_46 (by decide +kernel), rfl⟩
theorem dX12_costNow_11 : Dc mX12_costNow 11 (.if_icmp .ge 93) 3 14 := ⟨zo_162 (w := 0) (x := 93) (by decide +kernel), rfl⟩
theorem dX12_costNow_14 : Dc mX12_costNow 14 (.iconst 0) 1 15 := ⟨zo_3 (by decide +kernel), rfl⟩
theorem dX12_costNow_15 : Dc mX12_costNow 15 (.istore_n 3) 1 16 := ⟨zo_62 (by decide +kernel), rfl⟩
theorem dX12_costNow_16 : Dc mX12_costNow 16 (.iconst 0) 1 17 := ⟨zo_3 (by decide +kernel), rfl⟩
theorem dX12_costNow_17 : Dc mX12_costNow 17 (.istore 4) 2 19 := ⟨zo_54 (by decide +kernel), rfl⟩
theorem dX12_costNow_19 : Dc mX12_costNow 19 (.iload 4) 2 21 := ⟨zo_21 (by decide +kernel), rfl⟩
theorem dX12_costNow_21 : Dc mX12_costNow 21 (.aload_n 0) 1 22 := ⟨zo_42 (by decide +kernel), rfl⟩
theorem dX12_costNow_22 : Dc mX12_costNow 22 (.getfield 13) 3 25 := ⟨zo_180 (w := 0) (x := 13) (by decide +kernel), rfl⟩
theorem dX12_costNow_25 : Dc mX12_costNow 25 (.iconst 0) 1 26 := ⟨zo_3 (by decide +kernel), rfl⟩
theorem dX12_costNow_26 : Dc mX12_costNow 26 (.iaload) 1 27 := ⟨zo_46 (by decide +kernel), rfl⟩
theorem dX12_costNow_27 : Dc mX12_costNow 27 (.if_icmp .ge 45) 3 30 := ⟨zo_162 (w := 0) (x := 45) (by decide +kernel), rfl⟩
theorem dX12_costNow_30 : Dc mX12_costNow 30 (.aload_n 0) 1 31 := ⟨zo_42 (by decide +kernel), rfl⟩
theorem dX12_costNow_31 : Dc mX12_costNow 31 (.iconst 0) 1 32 := ⟨zo_3 (by decide +kernel), rfl⟩
theorem dX12_costNow_32 : Dc mX12_costNow 32 (.iload_n 2) 1 33 := ⟨zo_28 (by decide +kernel), rfl⟩
theorem dX12_costNow_33 : Dc mX12_costNow 33 (.iload 4) 2 35 := ⟨zo_21 (by decide +kernel), rfl⟩
theorem dX12_costNow_35 : Dc mX12_costNow 35 (.invokevirtual 371) 3 38 := ⟨zo_182 (w := 1) (x := 115) (by decide +kernel), rfl⟩
theorem dX12_costNow_38 : Dc mX12_costNow 38 (.istore 5) 2 40 := ⟨zo_54 (by decide +kernel), rfl⟩
theorem dX12_costNow_40 : Dc mX12_costNow 40 (.iload_n 3) 1 41 := ⟨zo_29 (by decide +kernel), rfl⟩
theorem dX12_costNow_41 : Dc mX12_costNow 41 (.iload 5) 2 43 := ⟨zo_21 (by decide +kernel), rfl⟩
theorem dX12_costNow_43 : Dc mX12_costNow 43 (.iconst (-1)) 1 44 := ⟨zo_2 (by decide +kernel), rfl⟩
theorem dX12_costNow_44 : Dc mX12_costNow 44 (.if_icmp .eq 19) 3 47 := ⟨zo_159 (w := 0) (x := 19) (by decide +kernel), rfl⟩
theorem dX12_costNow_47 : Dc mX12_costNow 47 (.iload 5) 2 49 := ⟨zo_21 (by decide +kernel), rfl⟩
theorem dX12_costNow_49 : Dc mX12_costNow 49 (.aload_n 0) 1 50 := ⟨zo_42 (by decide +kernel), rfl⟩
theorem dX12_costNow_50 : Dc mX12_costNow 50 (.getfield 132) 3 53 := ⟨zo_180 (w := 0) (x := 132) (by decide +kernel), rfl⟩
theorem dX12_costNow_53 : Dc mX12_costNow 53 (.iload 4) 2 55 := ⟨zo_21 (by decide +kernel), rfl⟩
theorem dX12_costNow_55 : Dc mX12_costNow 55 (.iaload) 1 56 := ⟨zo_46 (by decide +kernel), rfl⟩
theorem dX12_costNow_56 : Dc mX12_costNow 56 (.if_icmp .eq 7) 3 59 := ⟨zo_159 (w := 0) (x := 7) (by decide +kernel), rfl⟩
theorem dX12_costNow_59 : Dc mX12_costNow 59 (.iconst 1) 1 60 := ⟨zo_4 (by decide +kernel), rfl⟩
theorem dX12_costNow_60 : Dc mX12_costNow 60 (.goto 4) 3 63 := ⟨zo_167 (w := 0) (x := 4) (by decide +kernel), rfl⟩
theorem dX12_costNow_63 : Dc mX12_costNow 63 (.iconst 0) 1 64 := ⟨zo_3 (by decide +kernel), rfl⟩
theorem dX12_costNow_64 : Dc mX12_costNow 64 (.ior) 1 65 := ⟨zo_128 (by decide +kernel), rfl⟩
theorem dX12_costNow_65 : Dc mX12_costNow 65 (.istore_n 3) 1 66 := ⟨zo_62 (by decide +kernel), rfl⟩
theorem dX12_costNow_66 : Dc mX12_costNow 66 (.iinc 4 1) 3 69 := ⟨zo_iinc (x := 1) (by decide +kernel), rfl⟩
theorem dX12_costNow_69 : Dc mX12_costNow 69 (.goto (-50)) 3 72 := ⟨zo_167 (w := 255) (x := 206) (by decide +kernel), rfl⟩
theorem dX12_costNow_72 : Dc mX12_costNow 72 (.iload_n 1) 1 73 := ⟨zo_27 (by decide +kernel), rfl⟩
theorem dX12_costNow_73 : Dc mX12_costNow 73 (.iload_n 3) 1 74 := ⟨zo_29 (by decide +kernel), rfl⟩
theorem dX12_costNow_74 : Dc mX12_costNow 74 (.ifCond .eq 21) 3 77 := ⟨zo_153 (w := 0) (x := 21) (by decide +kernel), rfl⟩
theorem dX12_costNow_77 : Dc mX12_costNow 77 (.aload_n 0) 1 78 := ⟨zo_42 (by decide +kernel), rfl⟩
theorem dX12_costNow_78 : Dc mX12_costNow 78 (.iconst 0) 1 79 := ⟨zo_3 (by decide +kernel), rfl⟩
theorem dX12_costNow_79 : Dc mX12_costNow 79 (.iload_n 2) 1 80 := ⟨zo_28 (by decide +kernel), rfl⟩
theorem dX12_costNow_80 : Dc mX12_costNow 80 (.invokevirtual 367) 3 83 := ⟨zo_182 (w := 1) (x := 111) (by decide +kernel), rfl⟩
theorem dX12_costNow_83 : Dc mX12_costNow 83 (.ifCond .eq 12) 3 86 := ⟨zo_153 (w := 0) (x := 12) (by decide +kernel), rfl⟩
theorem dX12_costNow_86 : Dc mX12_costNow 86 (.aload_n 0) 1 87 := ⟨zo_42 (by decide +kernel), rfl⟩
theorem dX12_costNow_87 : Dc mX12_costNow 87 (.getfield 28) 3 90 := ⟨zo_180 (w := 0) (x := 28) (by decide +kernel), rfl⟩
theorem dX12_costNow_90 : Dc mX12_costNow 90 (.iload_n 2) 1 91 := ⟨zo_28 (by decide +kernel), rfl⟩
theorem dX12_costNow_91 : Dc mX12_costNow 91 (.iaload) 1 92 := ⟨zo_46 (by decide +kernel), rfl⟩
theorem dX12_costNow_92 : Dc mX12_costNow 92 (.goto 4) 3 95 := ⟨zo_167 (w := 0) (x := 4) (by decide +kernel), rfl⟩
theorem dX12_costNow_95 : Dc mX12_costNow 95 (.iconst 0) 1 96 := ⟨zo_3 (by decide +kernel), rfl⟩
theorem dX12_costNow_96 : Dc mX12_costNow 96 (.iadd) 1 97 := ⟨zo_96 (by decide +kernel), rfl⟩
theorem dX12_costNow_97 : Dc mX12_costNow 97 (.istore_n 1) 1 98 := ⟨zo_60 (by decide +kernel), rfl⟩
theorem dX12_costNow_98 : Dc mX12_costNow 98 (.iinc 2 1) 3 101 := ⟨zo_iinc (x := 1) (by decide +kernel), rfl⟩
theorem dX12_costNow_101 : Dc mX12_costNow 101 (.goto (-97)) 3 104 := ⟨zo_167 (w := 255) (x := 159) (by decide +kernel), rfl⟩
theorem dX12_costNow_104 : Dc mX12_costNow 104 (.iload_n 1) 1 105 := ⟨zo_27 (by decide +kernel), rfl⟩
theorem dX12_costNow_105 : Dc mX12_costNow 105 (.ireturn) 1 106 := ⟨zo_172 (by decide +kernel), rfl⟩
theorem dX12_sayings_0 : Dc mX12_sayings 0 (.iload_n 1) 1 1 := ⟨zo_27 (by decide +kernel), rfl⟩
theorem dX12_sayings_1 : Dc mX12_sayings 1 (.aload_n 0) 1 2 := ⟨zo_42 (by decide +kernel), rfl⟩
theorem dX12_sayings_2 : Dc mX12_sayings 2 (.getfield 13) 3 5 := ⟨zo_180 (w := 0) (x := 13) (by decide +kernel), rfl⟩
theorem dX12_sayings_5 : Dc mX12_sayings 5 (.iconst 0) 1 6 := ⟨zo_3 (by decide +kernel), rfl⟩
theorem dX12_sayings_6 : Dc mX12_sayings 6 (.iaload) 1 7 := ⟨zo_46 (by decide +kernel), rfl⟩
theorem dX12_sayings_7 : Dc mX12_sayings 7 (.if_icmp .ge 36) 3 10 := ⟨zo_162 (w := 0) (x := 36) (by decide +kernel), rfl⟩
theorem dX12_sayings_10 : Dc mX12_sayings 10 (.iconst 0) 1 11 := ⟨zo_3 (by decide +kernel), rfl⟩
theorem dX12_sayings_11 : Dc mX12_sayings 11 (.istore_n 2) 1 12 := ⟨zo_61 (by decide +kernel), rfl⟩
theorem dX12_sayings_12 : Dc mX12_sayings 12 (.iload_n 2) 1 13 := ⟨zo_28 (by decide +kernel), rfl⟩
theorem dX12_sayings_13 : Dc mX12_sayings 13 (.aload_n 0) 1 14 := ⟨zo_42 (by decide +kernel), rfl⟩
theorem dX12_sayings_14 : Dc mX12_sayings 14 (.getfield 22) 3 17 := ⟨zo_180 (w := 0) (x := 22) (by decide +kernel), rfl⟩
theorem dX12_sayings_17 : Dc mX12_sayings 17 (.iload_n 1) 1 18 := ⟨zo_27 (by decide +kernel), rfl⟩
theorem dX12_sayings_18 : Dc mX12_sayings 18 (.iaload) 1 19 := ⟨zo_46 (by decide +kernel), rfl⟩
theorem dX12_sayings_19 : Dc mX12_sayings 19 (.if_icmp .ge 23) 3 22 := ⟨zo_162 (w := 0) (x := 23) (by decide +kernel), rfl⟩
theorem dX12_sayings_22 : Dc mX12_sayings 22 (.aload_n 0) 1 23 := ⟨zo_42 (by decide +kernel), rfl⟩
theorem dX12_sayings_23 : Dc mX12_sayings 23 (.getfield 132) 3 26 := ⟨zo_180 (w := 0) (x := 132) (by decide +kernel), rfl⟩
theorem dX12_sayings_26 : Dc mX12_sayings 26 (.iload_n 1) 1 27 := ⟨zo_27 (by decide +kernel), rfl⟩
theorem dX12_sayings_27 : Dc mX12_sayings 27 (.iload_n 2) 1 28 := ⟨zo_28 (by decide +kernel), rfl⟩
theorem dX12_sayings_28 : Dc mX12_sayings 28 (.iastore) 1 29 := ⟨zo_79 (by decide +kernel), rfl⟩
theorem dX12_sayings_29 : Dc mX12_sayings 29 (.aload_n 0) 1 30 := ⟨zo_42 (by decide +kernel), rfl⟩
theorem dX12_sayings_30 : Dc mX12_sayings 30 (.iload_n 1) 1 31 := ⟨zo_27 (by decide +kernel), rfl⟩
theorem dX12_sayings_31 : Dc mX12_sayings 31 (.iconst 1) 1 32 := ⟨zo_4 (by decide +kernel), rfl⟩
theorem dX12_sayings_32 : Dc mX12_sayings 32 (.iadd) 1 33 := ⟨zo_96 (by decide +kernel), rfl⟩
theorem dX12_sayings_33 : Dc mX12_sayings 33 (.invokevirtual 482) 3 36 := ⟨zo_182 (w := 1) (x := 226) (by decide +kernel), rfl⟩
theorem dX12_sayings_36 : Dc mX12_sayings 36 (.iinc 2 1) 3 39 := ⟨zo_iinc (x := 1) (by decide +kernel), rfl⟩
theorem dX12_sayings_39 : Dc mX12_sayings 39 (.goto (-27)) 3 42 := ⟨zo_167 (w := 255) (x := 229) (by decide +kernel), rfl⟩
theorem dX12_sayings_42 : Dc mX12_sayings 42 (.return_) 1 43 := ⟨zo_177 (by decide +kernel), rfl⟩
theorem dX12_sayings_43 : Dc mX12_sayings 43 (.aload_n 0) 1 44 := ⟨zo_42 (by decide +kernel), rfl⟩
theorem dX12_sayings_44 : Dc mX12_sayings 44 (.invokevirtual 485) 3 47 := ⟨zo_182 (w := 1) (x := 229) (by decide +kernel), rfl⟩
theorem dX12_sayings_47 : Dc mX12_sayings 47 (.istore_n 2) 1 48 := ⟨zo_61 (by decide +kernel), rfl⟩
theorem dX12_sayings_48 : Dc mX12_sayings 48 (.aload_n 0) 1 49 := ⟨zo_42 (by decide +kernel), rfl⟩
theorem dX12_sayings_49 : Dc mX12_sayings 49 (.getfield 488) 3 52 := ⟨zo_180 (w := 1) (x := 232) (by decide +kernel), rfl⟩
theorem dX12_sayings_52 : Dc mX12_sayings 52 (.iconst (-1)) 1 53 := ⟨zo_2 (by decide +kernel), rfl⟩
theorem dX12_sayings_53 : Dc mX12_sayings 53 (.if_icmp .eq 12) 3 56 := ⟨zo_159 (w := 0) (x := 12) (by decide +kernel), rfl⟩
theorem dX12_sayings_56 : Dc mX12_sayings 56 (.iload_n 2) 1 57 := ⟨zo_28 (by decide +kernel), rfl⟩
theorem dX12_sayings_57 : Dc mX12_sayings 57 (.aload_n 0) 1 58 := ⟨zo_42 (by decide +kernel), rfl⟩
theorem dX12_sayings_58 : Dc mX12_sayings 58 (.getfield 488) 3 61 := ⟨zo_180 (w := 1) (x := 232) (by decide +kernel), rfl⟩
theorem dX12_sayings_61 : Dc mX12_sayings 61 (.if_icmp .lt 4) 3 64 := ⟨zo_161 (w := 0) (x := 4) (by decide +kernel), rfl⟩
theorem dX12_sayings_64 : Dc mX12_sayings 64 (.return_) 1 65 := ⟨zo_177 (by decide +kernel), rfl⟩
theorem dX12_sayings_65 : Dc mX12_sayings 65 (.aload_n 0) 1 66 := ⟨zo_42 (by decide +kernel), rfl⟩
theorem dX12_sayings_66 : Dc mX12_sayings 66 (.iload_n 2) 1 67 := ⟨zo_28 (by decide +kernel), rfl⟩
theorem dX12_sayings_67 : Dc mX12_sayings 67 (.putfield 488) 3 70 := ⟨zo_181 (w := 1) (x := 232) (by decide +kernel), rfl⟩
theorem dX12_sayings_70 : Dc mX12_sayings 70 (.iconst 0) 1 71 := ⟨zo_3 (by decide +kernel), rfl⟩
theorem dX12_sayings_71 : Dc mX12_sayings 71 (.istore_n 3) 1 72 := ⟨zo_62 (by decide +kernel), rfl⟩
theorem dX12_sayings_72 : Dc mX12_sayings 72 (.iload_n 3) 1 73 := ⟨zo_29 (by decide +kernel), rfl⟩
theorem dX12_sayings_73 : Dc mX12_sayings 73 (.aload_n 0) 1 74 := ⟨zo_42 (by decide +kernel), rfl⟩
theorem dX12_sayings_74 : Dc mX12_sayings 74 (.getfield 13) 3 77 := ⟨zo_180 (w := 0) (x := 13) (by decide +kernel), rfl⟩
theorem dX12_sayings_77 : Dc mX12_sayings 77 (.iconst 0) 1 78 := ⟨zo_3 (by decide +kernel), rfl⟩
theorem dX12_sayings_78 : Dc mX12_sayings 78 (.iaload) 1 79 := ⟨zo_46 (by decide +kernel), rfl⟩
theorem dX12_sayings_79 : Dc mX12_sayings 79 (.if_icmp .ge 21) 3 82 := ⟨zo_162 (w := 0) (x := 21) (by decide +kernel), rfl⟩
theorem dX12_sayings_82 : Dc mX12_sayings 82 (.aload_n 0) 1 83 := ⟨zo_42 (by decide +kernel), rfl⟩
theorem dX12_sayings_83 : Dc mX12_sayings 83 (.getfield 135) 3 86 := ⟨zo_180 (w := 0) (x := 135) (by decide +kernel), rfl⟩
theorem dX12_sayings_86 : Dc mX12_sayings 86 (.iload_n 3) 1 87 := ⟨zo_29 (by decide +kernel), rfl⟩
theorem dX12_sayings_87 : Dc mX12_sayings 87 (.aload_n 0) 1 88 := ⟨zo_42 (by decide +kernel), rfl⟩
theorem dX12_sayings_88 : Dc mX12_sayings 88 (.getfield 132) 3 91 := ⟨zo_180 (w := 0) (x := 132) (by decide +kernel), rfl⟩
theorem dX12_sayings_91 : Dc mX12_sayings 91 (.iload_n 3) 1 92 := ⟨zo_29 (by decide +kernel), rfl⟩
theorem dX12_sayings_92 : Dc mX12_sayings 92 (.iaload) 1 93 := ⟨zo_46 (by decide +kernel), rfl⟩
theorem dX12_sayings_93 : Dc mX12_sayings 93 (.iastore) 1 94 := ⟨zo_79 (by decide +kernel), rfl⟩
theorem dX12_sayings_94 : Dc mX12_sayings 94 (.iinc 3 1) 3 97 := ⟨zo_iinc (x := 1) (by decide +kernel), rfl⟩
theorem dX12_sayings_97 : Dc mX12_sayings 97 (.goto (-25)) 3 100 := ⟨zo_167 (w := 255) (x := 231) (by decide +kernel), rfl⟩
theorem dX12_sayings_100 : Dc mX12_sayings 100 (.return_) 1 101 := ⟨zo_177 (by decide +kernel), rfl⟩
theorem dX12_least_0 : Dc mX12_least 0 (.aload_n 0) 1 1 := ⟨zo_42 (by decide +kernel), rfl⟩
theorem dX12_least_1 : Dc mX12_least 1 (.iconst 0) 1 2 := ⟨zo_3 (by decide +kernel), rfl⟩
theorem dX12_least_2 : Dc mX12_least 2 (.putfield 169) 3 5 := ⟨zo_181 (w := 0) (x := 169) (by decide +kernel), rfl⟩
theorem dX12_least_5 : Dc mX12_least 5 (.iload_n 1) 1 6 := ⟨zo_27 (by decide +kernel), rfl⟩
theorem dX12_least_6 : Dc mX12_least 6 (.ifCond .lt 9) 3 9 := ⟨zo_155 (w := 0) (x := 9) (by decide +kernel), rfl⟩
theorem dX12_least_9 : Dc mX12_least 9 (.iload_n 1) 1 10 := ⟨zo_27 (by decide +kernel), rfl⟩
theorem dX12_least_10 : Dc mX12_least 10 (.bipush 6) 2 12 := ⟨zo_16 (w := 6) (by decide +kernel), rfl⟩
theorem dX12_least_12 : Dc mX12_least 12 (.if_icmp .le 5) 3 15 := ⟨zo_164 (w := 0) (x := 5) (by decide +kernel), rfl⟩
theorem dX12_least_15 : Dc mX12_least 15 (.iconst (-1)) 1 16 := ⟨zo_2 (by decide +kernel), rfl⟩
theorem dX12_least_16 : Dc mX12_least 16 (.ireturn) 1 17 := ⟨zo_172 (by decide +kernel), rfl⟩
theorem dX12_least_17 : Dc mX12_least 17 (.aload_n 0) 1 18 := ⟨zo_42 (by decide +kernel), rfl⟩
theorem dX12_least_18 : Dc mX12_least 18 (.iconst (-1)) 1 19 := ⟨zo_2 (by decide +kernel), rfl⟩
theorem dX12_least_19 : Dc mX12_least 19 (.putfield 488) 3 22 := ⟨zo_181 (w := 1) (x := 232) (by decide +kernel), rfl⟩
theorem dX12_least_22 : Dc mX12_least 22 (.aload_n 0) 1 23 := ⟨zo_42 (by decide +kernel), rfl⟩
theorem dX12_least_23 : Dc mX12_least 23 (.iconst 0) 1 24 := ⟨zo_3 (by decide +kernel), rfl⟩
theorem dX12_least_24 : Dc mX12_least 24 (.invokevirtual 482) 3 27 := ⟨zo_182 (w := 1) (x := 226) (by decide +kernel), rfl⟩
theorem dX12_least_27 : Dc mX12_least 27 (.iload_n 1) 1 28 := ⟨zo_27 (by decide +kernel), rfl⟩
theorem dX12_least_28 : Dc mX12_least 28 (.bipush 6) 2 30 := ⟨zo_16 (w := 6) (by decide +kernel), rfl⟩
theorem dX12_least_30 : Dc mX12_least 30 (.if_icmp .ne 10) 3 33 := ⟨zo_160 (w := 0) (x := 10) (by decide +kernel), rfl⟩
theorem dX12_least_33 : Dc mX12_least 33 (.aload_n 0) 1 34 := ⟨zo_42 (by decide +kernel), rfl⟩
theorem dX12_least_34 : Dc mX12_least 34 (.getfield 488) 3 37 := ⟨zo_180 (w := 1) (x := 232) (by decide +kernel), rfl⟩
theorem dX12_least_37 : Dc mX12_least 37 (.goto 24) 3 40 := ⟨zo_167 (w := 0) (x := 24) (by decide +kernel), rfl⟩
theorem dX12_least_40 : Dc mX12_least 40 (.iload_n 1) 1 41 := ⟨zo_27 (by decide +kernel), rfl⟩
theorem dX12_least_41 : Dc mX12_least 41 (.aload_n 0) 1 42 := ⟨zo_42 (by decide +kernel), rfl⟩
theorem dX12_least_42 : Dc mX12_least 42 (.getfield 13) 3 45 := ⟨zo_180 (w := 0) (x := 13) (by decide +kernel), rfl⟩
theorem dX12_least_45 : Dc mX12_least 45 (.iconst 0) 1 46 := ⟨zo_3 (by decide +kernel), rfl⟩
theorem dX12_least_46 : Dc mX12_least 46 (.iaload) 1 47 := ⟨zo_46 (by decide +kernel), rfl⟩
theorem dX12_least_47 : Dc mX12_least 47 (.if_icmp .ge 12) 3 50 := ⟨zo_162 (w := 0) (x := 12) (by decide +kernel), rfl⟩
theorem dX12_least_50 : Dc mX12_least 50 (.aload_n 0) 1 51 := ⟨zo_42 (by decide +kernel), rfl⟩
theorem dX12_least_51 : Dc mX12_least 51 (.getfield 135) 3 54 := ⟨zo_180 (w := 0) (x := 135) (by decide +kernel), rfl⟩
theorem dX12_least_54 : Dc mX12_least 54 (.iload_n 1) 1 55 := ⟨zo_27 (by decide +kernel), rfl⟩
theorem dX12_least_55 : Dc mX12_least 55 (.iaload) 1 56 := ⟨zo_46 (by decide +kernel), rfl⟩
theorem dX12_least_56 : Dc mX12_least 56 (.goto 5) 3 59 := ⟨zo_167 (w := 0) (x := 5) (by decide +kernel), rfl⟩
theorem dX12_least_59 : Dc mX12_least 59 (.bipush (-2)) 2 61 := ⟨zo_16 (w := 254) (by decide +kernel), rfl⟩
theorem dX12_least_61 : Dc mX12_least 61 (.ireturn) 1 62 := ⟨zo_172 (by decide +kernel), rfl⟩
theorem dX12_trouble_0 : Dc mX12_trouble 0 (.aload_n 0) 1 1 := ⟨zo_42 (by decide +kernel), rfl⟩
theorem dX12_trouble_1 : Dc mX12_trouble 1 (.getfield 93) 3 4 := ⟨zo_180 (w := 0) (x := 93) (by decide +kernel), rfl⟩
theorem dX12_trouble_4 : Dc mX12_trouble 4 (.iload_n 1) 1 5 := ⟨zo_27 (by decide +kernel), rfl⟩
theorem dX12_trouble_5 : Dc mX12_trouble 5 (.iaload) 1 6 := ⟨zo_46 (by decide +kernel), rfl⟩
theorem dX12_trouble_6 : Dc mX12_trouble 6 (.aload_n 0) 1 7 := ⟨zo_42 (by decide +kernel), rfl⟩
theorem dX12_trouble_7 : Dc mX12_trouble 7 (.aload_n 0) 1 8 := ⟨zo_42 (by decide +kernel), rfl⟩
theorem dX12_trouble_8 : Dc mX12_trouble 8 (.getfield 114) 3 11 := ⟨zo_180 (w := 0) (x := 114) (by decide +kernel), rfl⟩
theorem dX12_trouble_11 : Dc mX12_trouble 11 (.iload_n 1) 1 12 := ⟨zo_27 (by decide +kernel), rfl⟩
theorem dX12_trouble_12 : Dc mX12_trouble 12 (.invokevirtual 469) 3 15 := ⟨zo_182 (w := 1) (x := 213) (by decide +kernel), rfl⟩
theorem dX12_trouble_15 : Dc mX12_trouble 15 (.iadd) 1 16 := ⟨zo_96 (by decide +kernel), rfl⟩
theorem dX12_trouble_16 : Dc mX12_trouble 16 (.ireturn) 1 17 := ⟨zo_172 (by decide +kernel), rfl⟩
theorem dX12_rows_0 : Dc mX12_rows 0 (.iload_n 1) 1 1 := ⟨zo_27 (by decide +kernel), rfl⟩
theorem dX12_rows_1 : Dc mX12_rows 1 (.aload_n 0) 1 2 := ⟨zo_42 (by decide +kernel), rfl⟩
theorem dX12_rows_2 : Dc mX12_rows 2 (.getfield 491) 3 5 := ⟨zo_180 (w := 1) (x := 235) (by decide +kernel), rfl⟩
theorem dX12_rows_5 : Dc mX12_rows 5 (.if_icmp .ge 56) 3 8 := ⟨zo_162 (w := 0) (x := 56) (by decide +kernel), rfl⟩
theorem dX12_rows_8 : Dc mX12_rows 8 (.iconst 0) 1 9 := ⟨zo_3 (by decide +kernel), rfl⟩
theorem dX12_rows_9 : Dc mX12_rows 9 (.istore_n 3) 1 10 := ⟨zo_62 (by decide +kernel), rfl⟩
theorem dX12_rows_10 : Dc mX12_rows 10 (.iload_n 3) 1 11 := ⟨zo_29 (by decide +kernel), rfl⟩
theorem dX12_rows_11 : Dc mX12_rows 11 (.aload_n 0) 1 12 := ⟨zo_42 (by decide +kernel), rfl⟩
theorem dX12_rows_12 : Dc mX12_rows 12 (.getfield 491) 3 15 := ⟨zo_180 (w := 1) (x := 235) (by decide +kernel), rfl⟩
theorem dX12_rows_15 : Dc mX12_rows 15 (.if_icmp .ge 45) 3 18 := ⟨zo_162 (w := 0) (x := 45) (by decide +kernel), rfl⟩
theorem dX12_rows_18 : Dc mX12_rows 18 (.iload_n 2) 1 19 := ⟨zo_28 (by decide +kernel), rfl⟩
theorem dX12_rows_19 : Dc mX12_rows 19 (.iload_n 3) 1 20 := ⟨zo_29 (by decide +kernel), rfl⟩
theorem dX12_rows_20 : Dc mX12_rows 20 (.ishr) 1 21 := ⟨zo_122 (by decide +kernel), rfl⟩
theorem dX12_rows_21 : Dc mX12_rows 21 (.iconst 1) 1 22 := ⟨zo_4 (by decide +kernel), rfl⟩
theorem dX12_rows_22 : Dc mX12_rows 22 (.iand) 1 23 := ⟨zo_126 (by decide +kernel), rfl⟩
theorem dX12_rows_23 : Dc mX12_rows 23 (.iconst 1) 1 24 := ⟨zo_4 (by decide +kernel), rfl⟩
theorem dX12_rows_24 : Dc mX12_rows 24 (.if_icmp .ne 6) 3 27 := ⟨zo_160 (w := 0) (x := 6) (by decide +kernel), rfl⟩
theorem dX12_rows_27 : Dc mX12_rows 27 (.goto 27) 3 30 := ⟨zo_167 (w := 0) (x := 27) (by decide +kernel), rfl⟩
theorem dX12_rows_30 : Dc mX12_rows 30 (.aload_n 0) 1 31 := ⟨zo_42 (by decide +kernel), rfl⟩
theorem dX12_rows_31 : Dc mX12_rows 31 (.getfield 141) 3 34 := ⟨zo_180 (w := 0) (x := 141) (by decide +kernel), rfl⟩
theorem dX12_rows_34 : Dc mX12_rows 34 (.iload_n 1) 1 35 := ⟨zo_27 (by decide +kernel), rfl⟩
theorem dX12_rows_35 : Dc mX12_rows 35 (.aload_n 0) 1 36 := ⟨zo_42 (by decide +kernel), rfl⟩
theorem dX12_rows_36 : Dc mX12_rows 36 (.getfield 138) 3 39 := ⟨zo_180 (w := 0) (x := 138) (by decide +kernel), rfl⟩
theorem dX12_rows_39 : Dc mX12_rows 39 (.iload_n 3) 1 40 := ⟨zo_29 (by decide +kernel), rfl⟩
theorem dX12_rows_40 : Dc mX12_rows 40 (.iaload) 1 41 := ⟨zo_46 (by decide +kernel), rfl⟩
theorem dX12_rows_41 : Dc mX12_rows 41 (.iastore) 1 42 := ⟨zo_79 (by decide +kernel), rfl⟩
theorem dX12_rows_42 : Dc mX12_rows 42 (.aload_n 0) 1 43 := ⟨zo_42 (by decide +kernel), rfl⟩
theorem dX12_rows_43 : Dc mX12_rows 43 (.iload_n 1) 1 44 := ⟨zo_27 (by decide +kernel), rfl⟩
theorem dX12_rows_44 : Dc mX12_rows 44 (.iconst 1) 1 45 := ⟨zo_4 (by decide +kernel), rfl⟩
theorem dX12_rows_45 : Dc mX12_rows 45 (.iadd) 1 46 := ⟨zo_96 (by decide +kernel), rfl⟩
theorem dX12_rows_46 : Dc mX12_rows 46 (.iload_n 2) 1 47 := ⟨zo_28 (by decide +kernel), rfl⟩
theorem dX12_rows_47 : Dc mX12_rows 47 (.iconst 1) 1 48 := ⟨zo_4 (by decide +kernel), rfl⟩
theorem dX12_rows_48 : Dc mX12_rows 48 (.iload_n 3) 1 49 := ⟨zo_29 (by decide +kernel), rfl⟩
theorem dX12_rows_49 : Dc mX12_rows 49 (.ishl) 1 50 := ⟨zo_120 (by decide +kernel), rfl⟩
theorem dX12_rows_50 : Dc mX12_rows 50 (.ior) 1 51 := ⟨zo_128 (by decide +kernel), rfl⟩
theorem dX12_rows_51 : Dc mX12_rows 51 (.invokevirtual 494) 3 54 := ⟨zo_182 (w := 1) (x := 238) (by decide +kernel), rfl⟩
theorem dX12_rows_54 : Dc mX12_rows 54 (.iinc 3 1) 3 57 := ⟨zo_iinc (x := 1) (by decide +kernel), rfl⟩
theorem dX12_rows_57 : Dc mX12_rows 57 (.goto (-47)) 3 60 := ⟨zo_167 (w := 255) (x := 209) (by decide +kernel), rfl⟩
theorem dX12_rows_60 : Dc mX12_rows 60 (.return_) 1 61 := ⟨zo_177 (by decide +kernel), rfl⟩
theorem dX12_rows_61 : Dc mX12_rows 61 (.aload_n 0) 1 62 := ⟨zo_42 (by decide +kernel), rfl⟩
theorem dX12_rows_62 : Dc mX12_rows 62 (.iconst 1) 1 63 := ⟨zo_4 (by decide +kernel), rfl⟩
theorem dX12_rows_63 : Dc mX12_rows 63 (.iconst 0) 1 64 := ⟨zo_3 (by decide +kernel), rfl⟩
theorem dX12_rows_64 : Dc mX12_rows 64 (.invokevirtual 444) 3 67 := ⟨zo_182 (w := 1) (x := 188) (by decide +kernel), rfl⟩
theorem dX12_rows_67 : Dc mX12_rows 67 (.iconst 0) 1 68 := ⟨zo_3 (by decide +kernel), rfl⟩
theorem dX12_rows_68 : Dc mX12_rows 68 (.istore_n 3) 1 69 := ⟨zo_62 (by decide +kernel), rfl⟩
theorem dX12_rows_69 : Dc mX12_rows 69 (.iload_n 3) 1 70 := ⟨zo_29 (by decide +kernel), rfl⟩
theorem dX12_rows_70 : Dc mX12_rows 70 (.aload_n 0) 1 71 := ⟨zo_42 (by decide +kernel), rfl⟩
theorem dX12_rows_71 : Dc mX12_rows 71 (.getfield 491) 3 74 := ⟨zo_180 (w := 1) (x := 235) (by decide +kernel), rfl⟩
theorem dX12_rows_74 : Dc mX12_rows 74 (.if_icmp .ge 31) 3 77 := ⟨zo_162 (w := 0) (x := 31) (by decide +kernel), rfl⟩
theorem dX12_rows_77 : Dc mX12_rows 77 (.aload_n 0) 1 78 := ⟨zo_42 (by decide +kernel), rfl⟩
theorem dX12_rows_78 : Dc mX12_rows 78 (.getfield 108) 3 81 := ⟨zo_180 (w := 0) (x := 108) (by decide +kernel), rfl⟩
theorem dX12_rows_81 : Dc mX12_rows 81 (.bipush 8) 2 83 := ⟨zo_16 (w := 8) (by decide +kernel), rfl⟩
theorem dX12_rows_83 : Dc mX12_rows 83 (.aload_n 0) 1 84 := ⟨zo_42 (by decide +kernel), rfl⟩
theorem dX12_rows_84 : Dc mX12_rows 84 (.getfield 141) 3 87 := ⟨zo_180 (w := 0) (x := 141) (by decide +kernel), rfl⟩
theorem dX12_rows_87 : Dc mX12_rows 87 (.iload_n 3) 1 88 := ⟨zo_29 (by decide +kernel), rfl⟩
theorem dX12_rows_88 : Dc mX12_rows 88 (.iaload) 1 89 := ⟨zo_46 (by decide +kernel), rfl⟩
theorem dX12_rows_89 : Dc mX12_rows 89 (.iadd) 1 90 := ⟨zo_96 (by decide +kernel), rfl⟩
theorem dX12_rows_90 : Dc mX12_rows 90 (.aload_n 0) 1 91 := ⟨zo_42 (by decide +kernel), rfl⟩
theorem dX12_rows_91 : Dc mX12_rows 91 (.getfield 84) 3 94 := ⟨zo_180 (w := 0) (x := 84) (by decide +kernel), rfl⟩
theorem dX12_rows_94 : Dc mX12_rows 94 (.iconst 0) 1 95 := ⟨zo_3 (by decide +kernel), rfl⟩
theorem dX12_rows_95 : Dc mX12_rows 95 (.iaload) 1 96 := ⟨zo_46 (by decide +kernel), rfl⟩
theorem dX12_rows_96 : Dc mX12_rows 96 (.iload_n 3) 1 97 := ⟨zo_29 (by decide +kernel), rfl⟩
theorem dX12_rows_97 : Dc mX12_rows 97 (.iadd) 1 98 := ⟨zo_96 (by decide +kernel), rfl⟩
theorem dX12_rows_98 : Dc mX12_rows 98 (.iastore) 1 99 := ⟨zo_79 (by decide +kernel), rfl⟩
theorem dX12_rows_99 : Dc mX12_rows 99 (.iinc 3 1) 3 102 := ⟨zo_iinc (x := 1) (by decide +kernel), rfl⟩
theorem dX12_rows_102 : Dc mX12_rows 102 (.goto (-33)) 3 105 := ⟨zo_167 (w := 255) (x := 223) (by decide +kernel), rfl⟩
theorem dX12_rows_105 : Dc mX12_rows 105 (.aload_n 0) 1 106 := ⟨zo_42 (by decide +kernel), rfl⟩
theorem dX12_rows_106 : Dc mX12_rows 106 (.bipush 20) 2 108 := ⟨zo_16 (w := 20) (by decide +kernel), rfl⟩
theorem dX12_rows_108 : Dc mX12_rows 108 (.invokevirtual 447) 3 111 := ⟨zo_182 (w := 1) (x := 191) (by decide +kernel), rfl⟩
theorem dX12_rows_111 : Dc mX12_rows 111 (.aload_n 0) 1 112 := ⟨zo_42 (by decide +kernel), rfl⟩
theorem dX12_rows_112 : Dc mX12_rows 112 (.iconst 1) 1 113 := ⟨zo_4 (by decide +kernel), rfl⟩
theorem dX12_rows_113 : Dc mX12_rows 113 (.invokevirtual 497) 3 116 := ⟨zo_182 (w := 1) (x := 241) (by decide +kernel), rfl⟩
theorem dX12_rows_116 : Dc mX12_rows 116 (.aload_n 0) 1 117 := ⟨zo_42 (by decide +kernel), rfl⟩
theorem dX12_rows_117 : Dc mX12_rows 117 (.iconst 0) 1 118 := ⟨zo_3 (by decide +kernel), rfl⟩
theorem dX12_rows_118 : Dc mX12_rows 118 (.invokevirtual 497) 3 121 := ⟨zo_182 (w := 1) (x := 241) (by decide +kernel), rfl⟩
theorem dX12_rows_121 : Dc mX12_rows 121 (.isub) 1 122 := ⟨zo_100 (by decide +kernel), rfl⟩
theorem dX12_rows_122 : Dc mX12_rows 122 (.istore_n 3) 1 123 := ⟨zo_62 (by decide +kernel), rfl⟩
theorem dX12_rows_123 : Dc mX12_rows 123 (.aload_n 0) 1 124 := ⟨zo_42 (by decide +kernel), rfl⟩
theorem dX12_rows_124 : Dc mX12_rows 124 (.getfield 500) 3 127 := ⟨zo_180 (w := 1) (x := 244) (by decide +kernel), rfl⟩
theorem dX12_rows_127 : Dc mX12_rows 127 (.iconst (-1)) 1 128 := ⟨zo_2 (by decide +kernel), rfl⟩
theorem dX12_rows_128 : Dc mX12_rows 128 (.if_icmp .eq 12) 3 131 := ⟨zo_159 (w := 0) (x := 12) (by decide +kernel), rfl⟩
theorem dX12_rows_131 : Dc mX12_rows 131 (.iload_n 3) 1 132 := ⟨zo_29 (by decide +kernel), rfl⟩
theorem dX12_rows_132 : Dc mX12_rows 132 (.aload_n 0) 1 133 := ⟨zo_42 (by decide +kernel), rfl⟩
theorem dX12_rows_133 : Dc mX12_rows 133 (.getfield 500) 3 136 := ⟨zo_180 (w := 1) (x := 244) (by decide +kernel), rfl⟩
theorem dX12_rows_136 : Dc mX12_rows 136 (.if_icmp .lt 4) 3 139 := ⟨zo_161 (w := 0) (x := 4) (by decide +kernel), rfl⟩
theorem dX12_rows_139 : Dc mX12_rows 139 (.return_) 1 140 := ⟨zo_177 (by decide +kernel), rfl⟩
theorem dX12_rows_140 : Dc mX12_rows 140 (.aload_n 0) 1 141 := ⟨zo_42 (by decide +kernel), rfl⟩
theorem dX12_rows_141 : Dc mX12_rows 141 (.iload_n 3) 1 142 := ⟨zo_29 (by decide +kernel), rfl⟩
theorem dX12_rows_142 : Dc mX12_rows 142 (.putfield 500) 3 145 := ⟨zo_181 (w := 1) (x := 244) (by decide +kernel), rfl⟩
theorem dX12_rows_145 : Dc mX12_rows 145 (.iconst 0) 1 146 := ⟨zo_3 (by decide +kernel), rfl⟩
theorem dX12_rows_146 : Dc mX12_rows 146 (.istore 4) 2 148 := ⟨zo_54 (by decide +kernel), rfl⟩
theorem dX12_rows_148 : Dc mX12_rows 148 (.iload 4) 2 150 := ⟨zo_21 (by decide +kernel), rfl⟩
theorem dX12_rows_150 : Dc mX12_rows 150 (.aload_n 0) 1 151 := ⟨zo_42 (by decide +kernel), rfl⟩
theorem dX12_rows_151 : Dc mX12_rows 151 (.getfield 491) 3 154 := ⟨zo_180 (w := 1) (x := 235) (by decide +kernel), rfl⟩
theorem dX12_rows_154 : Dc mX12_rows 154 (.if_icmp .ge 23) 3 157 := ⟨zo_162 (w := 0) (x := 23) (by decide +kernel), rfl⟩
theorem dX12_rows_157 : Dc mX12_rows 157 (.aload_n 0) 1 158 := ⟨zo_42 (by decide +kernel), rfl⟩
theorem dX12_rows_158 : Dc mX12_rows 158 (.getfield 144) 3 161 := ⟨zo_180 (w := 0) (x := 144) (by decide +kernel), rfl⟩
theorem dX12_rows_161 : Dc mX12_rows 161 (.iload 4) 2 163 := ⟨zo_21 (by decide +kernel), rfl⟩
theorem dX12_rows_163 : Dc mX12_rows 163 (.aload_n 0) 1 164 := ⟨zo_42 (by decide +kernel), rfl⟩
theorem dX12_rows_164 : Dc mX12_rows 164 (.getfield 141) 3 167 := ⟨zo_180 (w := 0) (x := 141) (by decide +kernel), rfl⟩
theorem dX12_rows_167 : Dc mX12_rows 167 (.iload 4) 2 169 := ⟨zo_21 (by decide +kernel), rfl⟩
theorem dX12_rows_169 : Dc mX12_rows 169 (.iaload) 1 170 := ⟨zo_46 (by decide +kernel), rfl⟩
theorem dX12_rows_170 : Dc mX12_rows 170 (.iastore) 1 171 := ⟨zo_79 (by decide +kernel), rfl⟩
theorem dX12_rows_171 : Dc mX12_rows 171 (.iinc 4 1) 3 174 := ⟨zo_iinc (x := 1) (by decide +kernel), rfl⟩
theorem dX12_rows_174 : Dc mX12_rows 174 (.goto (-26)) 3 177 := ⟨zo_167 (w := 255) (x := 230) (by decide +kernel), rfl⟩
theorem dX12_rows_177 : Dc mX12_rows 177 (.return_) 1 178 := ⟨zo_177 (by decide +kernel), rfl⟩
theorem dX12_order_0 : Dc mX12_order 0 (.aload_n 0) 1 1 := ⟨zo_42 (by decide +kernel), rfl⟩
theorem dX12_order_1 : Dc mX12_order 1 (.iconst 0) 1 2 := ⟨zo_3 (by decide +kernel), rfl⟩
theorem dX12_order_2 : Dc mX12_order 2 (.putfield 169) 3 5 := ⟨zo_181 (w := 0) (x := 169) (by decide +kernel), rfl⟩
theorem dX12_order_5 : Dc mX12_order 5 (.iload_n 1) 1 6 := ⟨zo_27 (by decide +kernel), rfl⟩
theorem dX12_order_6 : Dc mX12_order 6 (.ifCond .lt 8) 3 9 := ⟨zo_155 (w := 0) (x := 8) (by decide +kernel), rfl⟩
theorem dX12_order_9 : Dc mX12_order 9 (.iload_n 1) 1 10 := ⟨zo_27 (by decide +kernel), rfl⟩
theorem dX12_order_10 : Dc mX12_order 10 (.iconst 4) 1 11 := ⟨zo_7 (by decide +kernel), rfl⟩
theorem dX12_order_11 : Dc mX12_order 11 (.if_icmp .le 5) 3 14 := ⟨zo_164 (w := 0) (x := 5) (by decide +kernel), rfl⟩
theorem dX12_order_14 : Dc mX12_order 14 (.iconst (-1)) 1 15 := ⟨zo_2 (by decide +kernel), rfl⟩
theorem dX12_order_15 : Dc mX12_order 15 (.ireturn) 1 16 := ⟨zo_172 (by decide +kernel), rfl⟩
theorem dX12_order_16 : Dc mX12_order 16 (.aload_n 0) 1 17 := ⟨zo_42 (by decide +kernel), rfl⟩
theorem dX12_order_17 : Dc mX12_order 17 (.iconst 0) 1 18 := ⟨zo_3 (by decide +kernel), rfl⟩
theorem dX12_order_18 : Dc mX12_order 18 (.putfield 491) 3 21 := ⟨zo_181 (w := 1) (x := 235) (by decide +kernel), rfl⟩
theorem dX12_order_21 : Dc mX12_order 21 (.iconst 0) 1 22 := ⟨zo_3 (by decide +kernel), rfl⟩
theorem dX12_order_22 : Dc mX12_order 22 (.istore_n 2) 1 23 := ⟨zo_61 (by decide +kernel), rfl⟩
theorem dX12_order_23 : Dc mX12_order 23 (.iload_n 2) 1 24 := ⟨zo_28 (by decide +kernel), rfl⟩
theorem dX12_order_24 : Dc mX12_order 24 (.aload_n 0) 1 25 := ⟨zo_42 (by decide +kernel), rfl⟩
theorem dX12_order_25 : Dc mX12_order 25 (.getfield 13) 3 28 := ⟨zo_180 (w := 0) (x := 13) (by decide +kernel), rfl⟩
theorem dX12_order_28 : Dc mX12_order 28 (.iconst 1) 1 29 := ⟨zo_4 (by decide +kernel), rfl⟩
theorem dX12_order_29 : Dc mX12_order 29 (.iaload) 1 30 := ⟨zo_46 (by decide +kernel), rfl⟩
theorem dX12_order_30 : Dc mX12_order 30 (.if_icmp .ge 49) 3 33 := ⟨zo_162 (w := 0) (x := 49) (by decide +kernel), rfl⟩
theorem dX12_order_33 : Dc mX12_order 33 (.aload_n 0) 1 34 := ⟨zo_42 (by decide +kernel), rfl⟩
theorem dX12_order_34 : Dc mX12_order 34 (.getfield 491) 3 37 := ⟨zo_180 (w := 1) (x := 235) (by decide +kernel), rfl⟩
theorem dX12_order_37 : Dc mX12_order 37 (.iconst 4) 1 38 := ⟨zo_7 (by decide +kernel), rfl⟩
theorem dX12_order_38 : Dc mX12_order 38 (.if_icmp .ge 41) 3 41 := ⟨zo_162 (w := 0) (x := 41) (by decide +kernel), rfl⟩
theorem dX12_order_41 : Dc mX12_order 41 (.aload_n 0) 1 42 := ⟨zo_42 (by decide +kernel), rfl⟩
theorem dX12_order_42 : Dc mX12_order 42 (.iconst 0) 1 43 := ⟨zo_3 (by decide +kernel), rfl⟩
theorem dX12_order_43 : Dc mX12_order 43 (.iload_n 2) 1 44 := ⟨zo_28 (by decide +kernel), rfl⟩
theorem dX12_order_44 : Dc mX12_order 44 (.invokevirtual 367) 3 47 := ⟨zo_182 (w := 1) (x := 111) (by decide +kernel), rfl⟩
theorem dX12_order_47 : Dc mX12_order 47 (.ifCond .eq 6) 3 50 := ⟨zo_153 (w := 0) (x := 6) (by decide +kernel), rfl⟩
theorem dX12_order_50 : Dc mX12_order 50 (.goto 23) 3 53 := ⟨zo_167 (w := 0) (x := 23) (by decide +kernel), rfl⟩
theorem dX12_order_53 : Dc mX12_order 53 (.aload_n 0) 1 54 := ⟨zo_42 (by decide +kernel), rfl⟩
theorem dX12_order_54 : Dc mX12_order 54 (.getfield 138) 3 57 := ⟨zo_180 (w := 0) (x := 138) (by decide +kernel), rfl⟩
theorem dX12_order_57 : Dc mX12_order 57 (.aload_n 0) 1 58 := ⟨zo_42 (by decide +kernel), rfl⟩
theorem dX12_order_58 : Dc mX12_order 58 (.getfield 491) 3 61 := ⟨zo_180 (w := 1) (x := 235) (by decide +kernel), rfl⟩
theorem dX12_order_61 : Dc mX12_order 61 (.iload_n 2) 1 62 := ⟨zo_28 (by decide +kernel), rfl⟩
theorem dX12_order_62 : Dc mX12_order 62 (.iastore) 1 63 := ⟨zo_79 (by decide +kernel), rfl⟩
theorem dX12_order_63 : Dc mX12_order 63 (.aload_n 0) 1 64 := ⟨zo_42 (by decide +kernel), rfl⟩
theorem dX12_order_64 : Dc mX12_order 64 (.dup) 1 65 := ⟨zo_89 (by decide +kernel), rfl⟩
theorem dX12_order_65 : Dc mX12_order 65 (.getfield 491) 3 68 := ⟨zo_180 (w := 1) (x := 235) (by decide +kernel), rfl⟩
theorem dX12_order_68 : Dc mX12_order 68 (.iconst 1) 1 69 := ⟨zo_4 (by decide +kernel), rfl⟩
theorem dX12_order_69 : Dc mX12_order 69 (.iadd) 1 70 := ⟨zo_96 (by decide +kernel), rfl⟩
theorem dX12_order_70 : Dc mX12_order 70 (.putfield 491) 3 73 := ⟨zo_181 (w := 1) (x := 235) (by decide +kernel), rfl⟩
theorem dX12_order_73 : Dc mX12_order 73 (.iinc 2 1) 3 76 := ⟨zo_iinc (x := 1) (by decide +kernel), rfl⟩
theorem dX12_order_76 : Dc mX12_order 76 (.goto (-53)) 3 79 := ⟨zo_167 (w := 255) (x := 203) (by decide +kernel), rfl⟩
theorem dX12_order_79 : Dc mX12_order 79 (.aload_n 0) 1 80 := ⟨zo_42 (by decide +kernel), rfl⟩
theorem dX12_order_80 : Dc mX12_order 80 (.iconst (-1)) 1 81 := ⟨zo_2 (by decide +kernel), rfl⟩
theorem dX12_order_81 : Dc mX12_order 81 (.putfield 500) 3 84 := ⟨zo_181 (w := 1) (x := 244) (by decide +kernel), rfl⟩
theorem dX12_order_84 : Dc mX12_order 84 (.aload_n 0) 1 85 := ⟨zo_42 (by decide +kernel), rfl⟩
theorem dX12_order_85 : Dc mX12_order 85 (.iconst 0) 1 86 := ⟨zo_3 (by decide +kernel), rfl⟩
theorem dX12_order_86 : Dc mX12_order 86 (.iconst 0) 1 87 := ⟨zo_3 (by decide +kernel), rfl⟩
theorem dX12_order_87 : Dc mX12_order 87 (.invokevirtual 494) 3 90 := ⟨zo_182 (w := 1) (x := 238) (by decide +kernel), rfl⟩
theorem dX12_order_90 : Dc mX12_order 90 (.iload_n 1) 1 91 := ⟨zo_27 (by decide +kernel), rfl⟩
theorem dX12_order_91 : Dc mX12_order 91 (.iconst 4) 1 92 := ⟨zo_7 (by decide +kernel), rfl⟩
theorem dX12_order_92 : Dc mX12_order 92 (.if_icmp .ne 10) 3 95 := ⟨zo_160 (w := 0) (x := 10) (by decide +kernel), rfl⟩
theorem dX12_order_95 : Dc mX12_order 95 (.aload_n 0) 1 96 := ⟨zo_42 (by decide +kernel), rfl⟩
theorem dX12_order_96 : Dc mX12_order 96 (.getfield 500) 3 99 := ⟨zo_180 (w := 1) (x := 244) (by decide +kernel), rfl⟩
theorem dX12_order_99 : Dc mX12_order 99 (.goto 22) 3 102 := ⟨zo_167 (w := 0) (x := 22) (by decide +kernel), rfl⟩
theorem dX12_order_102 : Dc mX12_order 102 (.iload_n 1) 1 103 := ⟨zo_27 (by decide +kernel), rfl⟩
theorem dX12_order_103 : Dc mX12_order 103 (.aload_n 0) 1 104 := ⟨zo_42 (by decide +kernel), rfl⟩
theorem dX12_order_104 : Dc mX12_order 104 (.getfield 491) 3 107 := ⟨zo_180 (w := 1) (x := 235) (by decide +kernel), rfl⟩
theorem dX12_order_107 : Dc mX12_order 107 (.if_icmp .ge 12) 3 110 := ⟨zo_162 (w := 0) (x := 12) (by decide +kernel), rfl⟩
theorem dX12_order_110 : Dc mX12_order 110 (.aload_n 0) 1 111 := ⟨zo_42 (by decide +kernel), rfl⟩
theorem dX12_order_111 : Dc mX12_order 111 (.getfield 144) 3 114 := ⟨zo_180 (w := 0) (x := 144) (by decide +kernel), rfl⟩
theorem dX12_order_114 : Dc mX12_order 114 (.iload_n 1) 1 115 := ⟨zo_27 (by decide +kernel), rfl⟩
theorem dX12_order_115 : Dc mX12_order 115 (.iaload) 1 116 := ⟨zo_46 (by decide +kernel), rfl⟩
theorem dX12_order_116 : Dc mX12_order 116 (.goto 5) 3 119 := ⟨zo_167 (w := 0) (x := 5) (by decide +kernel), rfl⟩
theorem dX12_order_119 : Dc mX12_order 119 (.bipush (-2)) 2 121 := ⟨zo_16 (w := 254) (by decide +kernel), rfl⟩
theorem dX12_order_121 : Dc mX12_order 121 (.ireturn) 1 122 := ⟨zo_172 (by decide +kernel), rfl⟩
theorem dX12_bitsOf_0 : Dc mX12_bitsOf 0 (.iconst 0) 1 1 := ⟨zo_3 (by decide +kernel), rfl⟩
theorem dX12_bitsOf_1 : Dc mX12_bitsOf 1 (.istore_n 1) 1 2 := ⟨zo_60 (by decide +kernel), rfl⟩
theorem dX12_bitsOf_2 : Dc mX12_bitsOf 2 (.iconst 0) 1 3 := ⟨zo_3 (by decide +kernel), rfl⟩
theorem dX12_bitsOf_3 : Dc mX12_bitsOf 3 (.istore_n 2) 1 4 := ⟨zo_61 (by decide +kernel), rfl⟩
theorem dX12_bitsOf_4 : Dc mX12_bitsOf 4 (.iload_n 2) 1 5 := ⟨zo_28 (by decide +kernel), rfl⟩
theorem dX12_bitsOf_5 : Dc mX12_bitsOf 5 (.bipush 10) 2 7 := ⟨zo_16 (w := 10) (by decide +kernel), rfl⟩
theorem dX12_bitsOf_7 : Dc mX12_bitsOf 7 (.if_icmp .ge 17) 3 10 := ⟨zo_162 (w := 0) (x := 17) (by decide +kernel), rfl⟩
theorem dX12_bitsOf_10 : Dc mX12_bitsOf 10 (.iload_n 1) 1 11 := ⟨zo_27 (by decide +kernel), rfl⟩
theorem dX12_bitsOf_11 : Dc mX12_bitsOf 11 (.iload_n 0) 1 12 := ⟨zo_26 (by decide +kernel), rfl⟩
theorem dX12_bitsOf_12 : Dc mX12_bitsOf 12 (.iload_n 2) 1 13 := ⟨zo_28 (by decide +kernel), rfl⟩
theorem dX12_bitsOf_13 : Dc mX12_bitsOf 13 (.ishr) 1 14 := ⟨zo_122 (by decide +kernel), rfl⟩
theorem dX12_bitsOf_14 : Dc mX12_bitsOf 14 (.iconst 1) 1 15 := ⟨zo_4 (by decide +kernel), rfl⟩
theorem dX12_bitsOf_15 : Dc mX12_bitsOf 15 (.iand) 1 16 := ⟨zo_126 (by decide +kernel), rfl⟩
theorem dX12_bitsOf_16 : Dc mX12_bitsOf 16 (.iadd) 1 17 := ⟨zo_96 (by decide +kernel), rfl⟩
theorem dX12_bitsOf_17 : Dc mX12_bitsOf 17 (.istore_n 1) 1 18 := ⟨zo_60 (by decide +kernel), rfl⟩
theorem dX12_bitsOf_18 : Dc mX12_bitsOf 18 (.iinc 2 1) 3 21 := ⟨zo_iinc (x := 1) (by decide +kernel), rfl⟩
theorem dX12_bitsOf_21 : Dc mX12_bitsOf 21 (.goto (-17)) 3 24 := ⟨zo_167 (w := 255) (x := 239) (by decide +kernel), rfl⟩
theorem dX12_bitsOf_24 : Dc mX12_bitsOf 24 (.iload_n 1) 1 25 := ⟨zo_27 (by decide +kernel), rfl⟩
theorem dX12_bitsOf_25 : Dc mX12_bitsOf 25 (.ireturn) 1 26 := ⟨zo_172 (by decide +kernel), rfl⟩
theorem dX12_noted_0 : Dc mX12_noted 0 (.aload_n 0) 1 1 := ⟨zo_42 (by decide +kernel), rfl⟩
theorem dX12_noted_1 : Dc mX12_noted 1 (.iconst 0) 1 2 := ⟨zo_3 (by decide +kernel), rfl⟩
theorem dX12_noted_2 : Dc mX12_noted 2 (.putfield 169) 3 5 := ⟨zo_181 (w := 0) (x := 169) (by decide +kernel), rfl⟩
theorem dX12_noted_5 : Dc mX12_noted 5 (.iconst 1) 1 6 := ⟨zo_4 (by decide +kernel), rfl⟩
theorem dX12_noted_6 : Dc mX12_noted 6 (.aload_n 0) 1 7 := ⟨zo_42 (by decide +kernel), rfl⟩
theorem dX12_noted_7 : Dc mX12_noted 7 (.getfield 13) 3 10 := ⟨zo_180 (w := 0) (x := 13) (by decide +kernel), rfl⟩
theorem dX12_noted_10 : Dc mX12_noted 10 (.iconst 0) 1 11 := ⟨zo_3 (by decide +kernel), rfl⟩
theorem dX12_noted_11 : Dc mX12_noted 11 (.iaload) 1 12 := ⟨zo_46 (by decide +kernel), rfl⟩
theorem dX12_noted_12 : Dc mX12_noted 12 (.ishl) 1 13 := ⟨zo_120 (by decide +kernel), rfl⟩
theorem dX12_noted_13 : Dc mX12_noted 13 (.iconst 1) 1 14 := ⟨zo_4 (by decide +kernel), rfl⟩
theorem dX12_noted_14 : Dc mX12_noted 14 (.isub) 1 15 := ⟨zo_100 (by decide +kernel), rfl⟩
theorem dX12_noted_15 : Dc mX12_noted 15 (.istore_n 1) 1 16 := ⟨zo_60 (by decide +kernel), rfl⟩
theorem dX12_noted_16 : Dc mX12_noted 16 (.bipush (-2)) 2 18 := ⟨zo_16 (w := 254) (by decide +kernel), rfl⟩
theorem dX12_noted_18 : Dc mX12_noted 18 (.istore_n 2) 1 19 := ⟨zo_61 (by decide +kernel), rfl⟩
theorem dX12_noted_19 : Dc mX12_noted 19 (.iconst 0) 1 20 := ⟨zo_3 (by decide +kernel), rfl⟩
theorem dX12_noted_20 : Dc mX12_noted 20 (.istore_n 3) 1 21 := ⟨zo_62 (by decide +kernel), rfl⟩
theorem dX12_noted_21 : Dc mX12_noted 21 (.iload_n 3) 1 22 := ⟨zo_29 (by decide +kernel), rfl⟩
theorem dX12_noted_22 : Dc mX12_noted 22 (.iconst 1) 1 23 := ⟨zo_4 (by decide +kernel), rfl⟩
theorem dX12_noted_23 : Dc mX12_noted 23 (.aload_n 0) 1 24 := ⟨zo_42 (by decide +kernel), rfl⟩
theorem dX12_noted_24 : Dc mX12_noted 24 (.getfield 13) 3 27 := ⟨zo_180 (w := 0) (x := 13) (by decide +kernel), rfl⟩
theorem dX12_noted_27 : Dc mX12_noted 27 (.iconst 4) 1 28 := ⟨zo_7 (by decide +kernel), rfl⟩
theorem dX12_noted_28 : Dc mX12_noted 28 (.iaload) 1 29 := ⟨zo_46 (by decide +kernel), rfl⟩
theorem dX12_noted_29 : Dc mX12_noted 29 (.ishl) 1 30 := ⟨zo_120 (by decide +kernel), rfl⟩
theorem dX12_noted_30 : Dc mX12_noted 30 (.if_icmp .ge 83) 3 33 := ⟨zo_162 (w := 0) (x := 83) (by decide +kernel), rfl⟩
theorem dX12_noted_33 : Dc mX12_noted 33 (.iconst 0) 1 34 := ⟨zo_3 (by decide +kernel), rfl⟩
theorem dX12_noted_34 : Dc mX12_noted 34 (.istore 4) 2 36 := ⟨zo_54 (by decide +kernel), rfl⟩
theorem dX12_noted_36 : Dc mX12_noted 36 (.iconst 0) 1 37 := ⟨zo_3 (by decide +kernel), rfl⟩
theorem dX12_noted_37 : Dc mX12_noted 37 (.istore 5) 2 39 := ⟨zo_54 (by decide +kernel), rfl⟩
theorem dX12_noted_39 : Dc mX12_noted 39 (.iload 5) 2 41 := ⟨zo_21 (by decide +kernel), rfl⟩
theorem dX12_noted_41 : Dc mX12_noted 41 (.aload_n 0) 1 42 := ⟨zo_42 (by decide +kernel), rfl⟩
theorem dX12_noted_42 : Dc mX12_noted 42 (.getfield 13) 3 45 := ⟨zo_180 (w := 0) (x := 13) (by decide +kernel), rfl⟩
theorem dX12_noted_45 : Dc mX12_noted 45 (.iconst 4) 1 46 := ⟨zo_7 (by decide +kernel), rfl⟩
theorem dX12_noted_46 : Dc mX12_noted 46 (.iaload) 1 47 := ⟨zo_46 (by decide +kernel), rfl⟩
theorem dX12_noted_47 : Dc mX12_noted 47 (.if_icmp .ge 35) 3 50 := ⟨zo_162 (w := 0) (x := 35) (by decide +kernel), rfl⟩
theorem dX12_noted_50 : Dc mX12_noted 50 (.iload 4) 2 52 := ⟨zo_21 (by decide +kernel), rfl⟩
theorem dX12_noted_52 : Dc mX12_noted 52 (.iload_n 3) 1 53 := ⟨zo_29 (by decide +kernel), rfl⟩
theorem dX12_noted_53 : Dc mX12_noted 53 (.iload 5) 2 55 := ⟨zo_21 (by decide +kernel), rfl⟩
theorem dX12_noted_55 : Dc mX12_noted 55 (.ishr) 1 56 := ⟨zo_122 (by decide +kernel), rfl⟩
theorem dX12_noted_56 : Dc mX12_noted 56 (.iconst 1) 1 57 := ⟨zo_4 (by decide +kernel), rfl⟩
theorem dX12_noted_57 : Dc mX12_noted 57 (.iand) 1 58 := ⟨zo_126 (by decide +kernel), rfl⟩
theorem dX12_noted_58 : Dc mX12_noted 58 (.iconst 1) 1 59 := ⟨zo_4 (by decide +kernel), rfl⟩
theorem dX12_noted_59 : Dc mX12_noted 59 (.if_icmp .ne 13) 3 62 := ⟨zo_160 (w := 0) (x := 13) (by decide +kernel), rfl⟩
theorem dX12_noted_62 : Dc mX12_noted 62 (.aload_n 0) 1 63 := ⟨zo_42 (by decide +kernel), rfl⟩
theorem dX12_noted_63 : Dc mX12_noted 63 (.getfield 52) 3 66 := ⟨zo_180 (w := 0) (x := 52) (by decide +kernel), rfl⟩
theorem dX12_noted_66 : Dc mX12_noted 66 (.iload 5) 2 68 := ⟨zo_21 (by decide +kernel), rfl⟩
theorem dX12_noted_68 : Dc mX12_noted 68 (.iaload) 1 69 := ⟨zo_46 (by decide +kernel), rfl⟩
theorem dX12_noted_69 : Dc mX12_noted 69 (.goto 4) 3 72 := ⟨zo_167 (w := 0) (x := 4) (by decide +kernel), rfl⟩
theorem dX12_noted_72 : Dc mX12_noted 72 (.iconst 0) 1 73 := ⟨zo_3 (by decide +kernel), rfl⟩
theorem dX12_noted_73 : Dc mX12_noted 73 (.ior) 1 74 := ⟨zo_128 (by decide +kernel), rfl⟩
theorem dX12_noted_74 : Dc mX12_noted 74 (.istore 4) 2 76 := ⟨zo_54 (by decide +kernel), rfl⟩
theorem dX12_noted_76 : Dc mX12_noted 76 (.iinc 5 1) 3 79 := ⟨zo_iinc (x := 1) (by decide +kernel), rfl⟩
theorem dX12_noted_79 : Dc mX12_noted 79 (.goto (-40)) 3 82 := ⟨zo_167 (w := 255) (x := 216) (by decide +kernel), rfl⟩
theorem dX12_noted_82 : Dc mX12_noted 82 (.iload 4) 2 84 := ⟨zo_21 (by decide +kernel), rfl⟩
theorem dX12_noted_84 : Dc mX12_noted 84 (.iload_n 1) 1 85 := ⟨zo_27 (by decide +kernel), rfl⟩
theorem dX12_noted_85 : Dc mX12_noted 85 (.iand) 1 86 := ⟨zo_126 (by decide +kernel), rfl⟩
theorem dX12_noted_86 : Dc mX12_noted 86 (.iload_n 1) 1 87 := ⟨zo_27 (by decide +kernel), rfl⟩
theorem dX12_noted_87 : Dc mX12_noted 87 (.if_icmp .ne 20) 3 90 := ⟨zo_160 (w := 0) (x := 20) (by decide +kernel), rfl⟩
theorem dX12_noted_90 : Dc mX12_noted 90 (.iload_n 2) 1 91 := ⟨zo_28 (by decide +kernel), rfl⟩
theorem dX12_noted_91 : Dc mX12_noted 91 (.ifCond .lt 14) 3 94 := ⟨zo_155 (w := 0) (x := 14) (by decide +kernel), rfl⟩
theorem dX12_noted_94 : Dc mX12_noted 94 (.iload_n 3) 1 95 := ⟨zo_29 (by decide +kernel), rfl⟩
theorem dX12_noted_95 : Dc mX12_noted 95 (.invokestatic 503) 3 98 := ⟨zo_184 (w := 1) (x := 247) (by decide +kernel), rfl⟩
theorem dX12_noted_98 : Dc mX12_noted 98 (.iload_n 2) 1 99 := ⟨zo_28 (by decide +kernel), rfl⟩
theorem dX12_noted_99 : Dc mX12_noted 99 (.invokestatic 503) 3 102 := ⟨zo_184 (w := 1) (x := 247) (by decide +kernel), rfl⟩
theorem dX12_noted_102 : Dc mX12_noted 102 (.if_icmp .ge 5) 3 105 := ⟨zo_162 (w := 0) (x := 5) (by decide +kernel), rfl⟩
theorem dX12_noted_105 : Dc mX12_noted 105 (.iload_n 3) 1 106 := ⟨zo_29 (by decide +kernel), rfl⟩
theorem dX12_noted_106 : Dc mX12_noted 106 (.istore_n 2) 1 107 := ⟨zo_61 (by decide +kernel), rfl⟩
theorem dX12_noted_107 : Dc mX12_noted 107 (.iinc 3 1) 3 110 := ⟨zo_iinc (x := 1) (by decide +kernel), rfl⟩
theorem dX12_noted_110 : Dc mX12_noted 110 (.goto (-89)) 3 113 := ⟨zo_167 (w := 255) (x := 167) (by decide +kernel), rfl⟩
theorem dX12_noted_113 : Dc mX12_noted 113 (.iload_n 2) 1 114 := ⟨zo_28 (by decide +kernel), rfl⟩
theorem dX12_noted_114 : Dc mX12_noted 114 (.ireturn) 1 115 := ⟨zo_172 (by decide +kernel), rfl⟩
theorem dX12_bribe_0 : Dc mX12_bribe 0 (.aload_n 0) 1 1 := ⟨zo_42 (by decide +kernel), rfl⟩
theorem dX12_bribe_1 : Dc mX12_bribe 1 (.iconst 0) 1 2 := ⟨zo_3 (by decide +kernel), rfl⟩
theorem dX12_bribe_2 : Dc mX12_bribe 2 (.putfield 169) 3 5 := ⟨zo_181 (w := 0) (x := 169) (by decide +kernel), rfl⟩
theorem dX12_bribe_5 : Dc mX12_bribe 5 (.aload_n 0) 1 6 := ⟨zo_42 (by decide +kernel), rfl⟩
theorem dX12_bribe_6 : Dc mX12_bribe 6 (.iload_n 1) 1 7 := ⟨zo_27 (by decide +kernel), rfl⟩
theorem dX12_bribe_7 : Dc mX12_bribe 7 (.invokevirtual 456) 3 10 := ⟨zo_182 (w := 1) (x := 200) (by decide +kernel), rfl⟩
theorem dX12_bribe_10 : Dc mX12_bribe 10 (.ifCond .ne 5) 3 13 := ⟨zo_154 (w := 0) (x := 5) (by decide +kernel), rfl⟩
theorem dX12_bribe_13 : Dc mX12_bribe 13 (.iconst (-1)) 1 14 := ⟨zo_2 (by decide +kernel), rfl⟩
theorem dX12_bribe_14 : Dc mX12_bribe 14 (.ireturn) 1 15 := ⟨zo_172 (by decide +kernel), rfl⟩
theorem dX12_bribe_15 : Dc mX12_bribe 15 (.iconst 0) 1 16 := ⟨zo_3 (by decide +kernel), rfl⟩
theorem dX12_bribe_16 : Dc mX12_bribe 16 (.istore_n 2) 1 17 := ⟨zo_61 (by decide +kernel), rfl⟩
theorem dX12_bribe_17 : Dc mX12_bribe 17 (.iload_n 2) 1 18 := ⟨zo_28 (by decide +kernel), rfl⟩
theorem dX12_bribe_18 : Dc mX12_bribe 18 (.bipush 99) 2 20 := ⟨zo_16 (w := 99) (by decide +kernel), rfl⟩
theorem dX12_bribe_20 : Dc mX12_bribe 20 (.if_icmp .gt 55) 3 23 := ⟨zo_163 (w := 0) (x := 55) (by decide +kernel), rfl⟩
theorem dX12_bribe_23 : Dc mX12_bribe 23 (.aload_n 0) 1 24 := ⟨zo_42 (by decide +kernel), rfl⟩
theorem dX12_bribe_24 : Dc mX12_bribe 24 (.iconst 1) 1 25 := ⟨zo_4 (by decide +kernel), rfl⟩
theorem dX12_bribe_25 : Dc mX12_bribe 25 (.iconst 0) 1 26 := ⟨zo_3 (by decide +kernel), rfl⟩
theorem dX12_bribe_26 : Dc mX12_bribe 26 (.invokevirtual 444) 3 29 := ⟨zo_182 (w := 1) (x := 188) (by decide +kernel), rfl⟩
theorem dX12_bribe_29 : Dc mX12_bribe 29 (.aload_n 0) 1 30 := ⟨zo_42 (by decide +kernel), rfl⟩
theorem dX12_bribe_30 : Dc mX12_bribe 30 (.getfield 120) 3 33 := ⟨zo_180 (w := 0) (x := 120) (by decide +kernel), rfl⟩
theorem dX12_bribe_33 : Dc mX12_bribe 33 (.iconst 4) 1 34 := ⟨zo_7 (by decide +kernel), rfl⟩
theorem dX12_bribe_34 : Dc mX12_bribe 34 (.iload_n 1) 1 35 := ⟨zo_27 (by decide +kernel), rfl⟩
theorem dX12_bribe_35 : Dc mX12_bribe 35 (.iadd) 1 36 := ⟨zo_96 (by decide +kernel), rfl⟩
theorem dX12_bribe_36 : Dc mX12_bribe 36 (.iload_n 2) 1 37 := ⟨zo_28 (by decide +kernel), rfl⟩
theorem dX12_bribe_37 : Dc mX12_bribe 37 (.iastore) 1 38 := ⟨zo_79 (by decide +kernel), rfl⟩
theorem dX12_bribe_38 : Dc mX12_bribe 38 (.aload_n 0) 1 39 := ⟨zo_42 (by decide +kernel), rfl⟩
theorem dX12_bribe_39 : Dc mX12_bribe 39 (.bipush 20) 2 41 := ⟨zo_16 (w := 20) (by decide +kernel), rfl⟩
theorem dX12_bribe_41 : Dc mX12_bribe 41 (.invokevirtual 447) 3 44 := ⟨zo_182 (w := 1) (x := 191) (by decide +kernel), rfl⟩
theorem dX12_bribe_44 : Dc mX12_bribe 44 (.aload_n 0) 1 45 := ⟨zo_42 (by decide +kernel), rfl⟩
theorem dX12_bribe_45 : Dc mX12_bribe 45 (.getfield 102) 3 48 := ⟨zo_180 (w := 0) (x := 102) (by decide +kernel), rfl⟩
theorem dX12_bribe_48 : Dc mX12_bribe 48 (.bipush 6) 2 50 := ⟨zo_16 (w := 6) (by decide +kernel), rfl⟩
theorem dX12_bribe_50 : Dc mX12_bribe 50 (.aload_n 0) 1 51 := ⟨zo_42 (by decide +kernel), rfl⟩
theorem dX12_bribe_51 : Dc mX12_bribe 51 (.getfield 40) 3 54 := ⟨zo_180 (w := 0) (x := 40) (by decide +kernel), rfl⟩
theorem dX12_bribe_54 : Dc mX12_bribe 54 (.iload_n 1) 1 55 := ⟨zo_27 (by decide +kernel), rfl⟩
theorem dX12_bribe_55 : Dc mX12_bribe 55 (.iaload) 1 56 := ⟨zo_46 (by decide +kernel), rfl⟩
theorem dX12_bribe_56 : Dc mX12_bribe 56 (.iadd) 1 57 := ⟨zo_96 (by decide +kernel), rfl⟩
theorem dX12_bribe_57 : Dc mX12_bribe 57 (.iaload) 1 58 := ⟨zo_46 (by decide +kernel), rfl⟩
theorem dX12_bribe_58 : Dc mX12_bribe 58 (.aload_n 0) 1 59 := ⟨zo_42 (by decide +kernel), rfl⟩
theorem dX12_bribe_59 : Dc mX12_bribe 59 (.getfield 43) 3 62 := ⟨zo_180 (w := 0) (x := 43) (by decide +kernel), rfl⟩
theorem dX12_bribe_62 : Dc mX12_bribe 62 (.iload_n 1) 1 63 := ⟨zo_27 (by decide +kernel), rfl⟩
theorem dX12_bribe_63 : Dc mX12_bribe 63 (.iaload) 1 64 := ⟨zo_46 (by decide +kernel), rfl⟩
theorem dX12_bribe_64 : Dc mX12_bribe 64 (.if_icmp .ne 5) 3 67 := ⟨zo_160 (w := 0) (x := 5) (by decide +kernel), rfl⟩
theorem dX12_bribe_67 : Dc mX12_bribe 67 (.iload_n 2) 1 68 := ⟨zo_28 (by decide +kernel), rfl⟩
theorem dX12_bribe_68 : Dc mX12_bribe 68 (.ireturn) 1 69 := ⟨zo_172 (by decide +kernel), rfl⟩
theorem dX12_bribe_69 : Dc mX12_bribe 69 (.iinc 2 1) 3 72 := ⟨zo_iinc (x := 1) (by decide +kernel), rfl⟩
theorem dX12_bribe_72 : Dc mX12_bribe 72 (.goto (-55)) 3 75 := ⟨zo_167 (w := 255) (x := 201) (by decide +kernel), rfl⟩
theorem dX12_bribe_75 : Dc mX12_bribe 75 (.bipush (-2)) 2 77 := ⟨zo_16 (w := 254) (by decide +kernel), rfl⟩
theorem dX12_bribe_77 : Dc mX12_bribe 77 (.ireturn) 1 78 := ⟨zo_172 (by decide +kernel), rfl⟩
theorem dX12_hasOf_0 : Dc mX12_hasOf 0 (.iload_n 0) 1 1 := ⟨zo_26 (by decide +kernel), rfl⟩
theorem dX12_hasOf_1 : Dc mX12_hasOf 1 (.iload_n 1) 1 2 := ⟨zo_27 (by decide +kernel), rfl⟩
theorem dX12_hasOf_2 : Dc mX12_hasOf 2 (.if_icmp .le 8) 3 5 := ⟨zo_164 (w := 0) (x := 8) (by decide +kernel), rfl⟩
theorem dX12_hasOf_5 : Dc mX12_hasOf 5 (.bipush 10) 2 7 := ⟨zo_16 (w := 10) (by decide +kernel), rfl⟩
theorem dX12_hasOf_7 : Dc mX12_hasOf 7 (.goto 13) 3 10 := ⟨zo_167 (w := 0) (x := 13) (by decide +kernel), rfl⟩
theorem dX12_hasOf_10 : Dc mX12_hasOf 10 (.iload_n 0) 1 11 := ⟨zo_26 (by decide +kernel), rfl⟩
theorem dX12_hasOf_11 : Dc mX12_hasOf 11 (.iload_n 1) 1 12 := ⟨zo_27 (by decide +kernel), rfl⟩
theorem dX12_hasOf_12 : Dc mX12_hasOf 12 (.if_icmp .ne 7) 3 15 := ⟨zo_160 (w := 0) (x := 7) (by decide +kernel), rfl⟩
theorem dX12_hasOf_15 : Dc mX12_hasOf 15 (.iconst 4) 1 16 := ⟨zo_7 (by decide +kernel), rfl⟩
theorem dX12_hasOf_16 : Dc mX12_hasOf 16 (.goto 4) 3 19 := ⟨zo_167 (w := 0) (x := 4) (by decide +kernel), rfl⟩
theorem dX12_hasOf_19 : Dc mX12_hasOf 19 (.iconst 0) 1 20 := ⟨zo_3 (by decide +kernel), rfl⟩
theorem dX12_hasOf_20 : Dc mX12_hasOf 20 (.iload_n 0) 1 21 := ⟨zo_26 (by decide +kernel), rfl⟩
theorem dX12_hasOf_21 : Dc mX12_hasOf 21 (.isub) 1 22 := ⟨zo_100 (by decide +kernel), rfl⟩
theorem dX12_hasOf_22 : Dc mX12_hasOf 22 (.ireturn) 1 23 := ⟨zo_172 (by decide +kernel), rfl⟩
theorem dX12_isRest_0 : Dc mX12_isRest 0 (.iconst 0) 1 1 := ⟨zo_3 (by decide +kernel), rfl⟩
theorem dX12_isRest_1 : Dc mX12_isRest 1 (.istore 5) 2 3 := ⟨zo_54 (by decide +kernel), rfl⟩
theorem dX12_isRest_3 : Dc mX12_isRest 3 (.iload 5) 2 5 := ⟨zo_21 (by decide +kernel), rfl⟩
theorem dX12_isRest_5 : Dc mX12_isRest 5 (.iconst 4) 1 6 := ⟨zo_7 (by decide +kernel), rfl⟩
theorem dX12_isRest_6 : Dc mX12_isRest 6 (.if_icmp .gt 64) 3 9 := ⟨zo_163 (w := 0) (x := 64) (by decide +kernel), rfl⟩
theorem dX12_isRest_9 : Dc mX12_isRest 9 (.iload 5) 2 11 := ⟨zo_21 (by decide +kernel), rfl⟩
theorem dX12_isRest_11 : Dc mX12_isRest 11 (.aload_n 0) 1 12 := ⟨zo_42 (by decide +kernel), rfl⟩
theorem dX12_isRest_12 : Dc mX12_isRest 12 (.getfield 120) 3 15 := ⟨zo_180 (w := 0) (x := 120) (by decide +kernel), rfl⟩
theorem dX12_isRest_15 : Dc mX12_isRest 15 (.iload_n 1) 1 16 := ⟨zo_27 (by decide +kernel), rfl⟩
theorem dX12_isRest_16 : Dc mX12_isRest 16 (.iaload) 1 17 := ⟨zo_46 (by decide +kernel), rfl⟩
theorem dX12_isRest_17 : Dc mX12_isRest 17 (.if_icmp .gt 19) 3 20 := ⟨zo_163 (w := 0) (x := 19) (by decide +kernel), rfl⟩
theorem dX12_isRest_20 : Dc mX12_isRest 20 (.iload 5) 2 22 := ⟨zo_21 (by decide +kernel), rfl⟩
theorem dX12_isRest_22 : Dc mX12_isRest 22 (.iload 4) 2 24 := ⟨zo_21 (by decide +kernel), rfl⟩
theorem dX12_isRest_24 : Dc mX12_isRest 24 (.invokestatic 506) 3 27 := ⟨zo_184 (w := 1) (x := 250) (by decide +kernel), rfl⟩
theorem dX12_isRest_27 : Dc mX12_isRest 27 (.iload_n 3) 1 28 := ⟨zo_29 (by decide +kernel), rfl⟩
theorem dX12_isRest_28 : Dc mX12_isRest 28 (.iload 4) 2 30 := ⟨zo_21 (by decide +kernel), rfl⟩
theorem dX12_isRest_30 : Dc mX12_isRest 30 (.invokestatic 506) 3 33 := ⟨zo_184 (w := 1) (x := 250) (by decide +kernel), rfl⟩
theorem dX12_isRest_33 : Dc mX12_isRest 33 (.if_icmp .gt 29) 3 36 := ⟨zo_163 (w := 0) (x := 29) (by decide +kernel), rfl⟩
theorem dX12_isRest_36 : Dc mX12_isRest 36 (.iload 5) 2 38 := ⟨zo_21 (by decide +kernel), rfl⟩
theorem dX12_isRest_38 : Dc mX12_isRest 38 (.aload_n 0) 1 39 := ⟨zo_42 (by decide +kernel), rfl⟩
theorem dX12_isRest_39 : Dc mX12_isRest 39 (.getfield 120) 3 42 := ⟨zo_180 (w := 0) (x := 120) (by decide +kernel), rfl⟩
theorem dX12_isRest_42 : Dc mX12_isRest 42 (.iload_n 2) 1 43 := ⟨zo_28 (by decide +kernel), rfl⟩
theorem dX12_isRest_43 : Dc mX12_isRest 43 (.iaload) 1 44 := ⟨zo_46 (by decide +kernel), rfl⟩
theorem dX12_isRest_44 : Dc mX12_isRest 44 (.if_icmp .gt 20) 3 47 := ⟨zo_163 (w := 0) (x := 20) (by decide +kernel), rfl⟩
theorem dX12_isRest_47 : Dc mX12_isRest 47 (.iload 5) 2 49 := ⟨zo_21 (by decide +kernel), rfl⟩
theorem dX12_isRest_49 : Dc mX12_isRest 49 (.iload_n 3) 1 50 := ⟨zo_29 (by decide +kernel), rfl⟩
theorem dX12_isRest_50 : Dc mX12_isRest 50 (.invokestatic 506) 3 53 := ⟨zo_184 (w := 1) (x := 250) (by decide +kernel), rfl⟩
theorem dX12_isRest_53 : Dc mX12_isRest 53 (.iload 4) 2 55 := ⟨zo_21 (by decide +kernel), rfl⟩
theorem dX12_isRest_55 : Dc mX12_isRest 55 (.iload_n 3) 1 56 := ⟨zo_29 (by decide +kernel), rfl⟩
theorem dX12_isRest_56 : Dc mX12_isRest 56 (.invokestatic 506) 3 59 := ⟨zo_184 (w := 1) (x := 250) (by decide +kernel), rfl⟩
theorem dX12_isRest_59 : Dc mX12_isRest 59 (.if_icmp .le 5) 3 62 := ⟨zo_164 (w := 0) (x := 5) (by decide +kernel), rfl⟩
theorem dX12_isRest_62 : Dc mX12_isRest 62 (.iconst 0) 1 63 := ⟨zo_3 (by decide +kernel), rfl⟩
theorem dX12_isRest_63 : Dc mX12_isRest 63 (.ireturn) 1 64 := ⟨zo_172 (by decide +kernel), rfl⟩
theorem dX12_isRest_64 : Dc mX12_isRest 64 (.iinc 5 1) 3 67 := ⟨zo_iinc (x := 1) (by decide +kernel), rfl⟩
theorem dX12_isRest_67 : Dc mX12_isRest 67 (.goto (-64)) 3 70 := ⟨zo_167 (w := 255) (x := 192) (by decide +kernel), rfl⟩
theorem dX12_isRest_70 : Dc mX12_isRest 70 (.iconst 1) 1 71 := ⟨zo_4 (by decide +kernel), rfl⟩
theorem dX12_isRest_71 : Dc mX12_isRest 71 (.ireturn) 1 72 := ⟨zo_172 (by decide +kernel), rfl⟩
theorem dX12_restOf_0 : Dc mX12_restOf 0 (.iconst 0) 1 1 := ⟨zo_3 (by decide +kernel), rfl⟩
theorem dX12_restOf_1 : Dc mX12_restOf 1 (.istore 4) 2 3 := ⟨zo_54 (by decide +kernel), rfl⟩
theorem dX12_restOf_3 : Dc mX12_restOf 3 (.iconst 0) 1 4 := ⟨zo_3 (by decide +kernel), rfl⟩
theorem dX12_restOf_4 : Dc mX12_restOf 4 (.istore 5) 2 6 := ⟨zo_54 (by decide +kernel), rfl⟩
theorem dX12_restOf_6 : Dc mX12_restOf 6 (.iload 5) 2 8 := ⟨zo_21 (by decide +kernel), rfl⟩
theorem dX12_restOf_8 : Dc mX12_restOf 8 (.iconst 4) 1 9 := ⟨zo_7 (by decide +kernel), rfl⟩
theorem dX12_restOf_9 : Dc mX12_restOf 9 (.aload_n 0) 1 10 := ⟨zo_42 (by decide +kernel), rfl⟩
theorem dX12_restOf_10 : Dc mX12_restOf 10 (.getfield 120) 3 13 := ⟨zo_180 (w := 0) (x := 120) (by decide +kernel), rfl⟩
theorem dX12_restOf_13 : Dc mX12_restOf 13 (.iload_n 1) 1 14 := ⟨zo_27 (by decide +kernel), rfl⟩
theorem dX12_restOf_14 : Dc mX12_restOf 14 (.iaload) 1 15 := ⟨zo_46 (by decide +kernel), rfl⟩
theorem dX12_restOf_15 : Dc mX12_restOf 15 (.invokestatic 509) 3 18 := ⟨zo_184 (w := 1) (x := 253) (by decide +kernel), rfl⟩
theorem dX12_restOf_18 : Dc mX12_restOf 18 (.if_icmp .gt 67) 3 21 := ⟨zo_163 (w := 0) (x := 67) (by decide +kernel), rfl⟩
theorem dX12_restOf_21 : Dc mX12_restOf 21 (.iconst 0) 1 22 := ⟨zo_3 (by decide +kernel), rfl⟩
theorem dX12_restOf_22 : Dc mX12_restOf 22 (.istore 6) 2 24 := ⟨zo_54 (by decide +kernel), rfl⟩
theorem dX12_restOf_24 : Dc mX12_restOf 24 (.iload 6) 2 26 := ⟨zo_21 (by decide +kernel), rfl⟩
theorem dX12_restOf_26 : Dc mX12_restOf 26 (.iconst 4) 1 27 := ⟨zo_7 (by decide +kernel), rfl⟩
theorem dX12_restOf_27 : Dc mX12_restOf 27 (.aload_n 0) 1 28 := ⟨zo_42 (by decide +kernel), rfl⟩
theorem dX12_restOf_28 : Dc mX12_restOf 28 (.getfield 120) 3 31 := ⟨zo_180 (w := 0) (x := 120) (by decide +kernel), rfl⟩
theorem dX12_restOf_31 : Dc mX12_restOf 31 (.iload_n 2) 1 32 := ⟨zo_28 (by decide +kernel), rfl⟩
theorem dX12_restOf_32 : Dc mX12_restOf 32 (.iaload) 1 33 := ⟨zo_46 (by decide +kernel), rfl⟩
theorem dX12_restOf_33 : Dc mX12_restOf 33 (.invokestatic 509) 3 36 := ⟨zo_184 (w := 1) (x := 253) (by decide +kernel), rfl⟩
theorem dX12_restOf_36 : Dc mX12_restOf 36 (.if_icmp .gt 43) 3 39 := ⟨zo_163 (w := 0) (x := 43) (by decide +kernel), rfl⟩
theorem dX12_restOf_39 : Dc mX12_restOf 39 (.aload_n 0) 1 40 := ⟨zo_42 (by decide +kernel), rfl⟩
theorem dX12_restOf_40 : Dc mX12_restOf 40 (.iload_n 1) 1 41 := ⟨zo_27 (by decide +kernel), rfl⟩
theorem dX12_restOf_41 : Dc mX12_restOf 41 (.iload_n 2) 1 42 := ⟨zo_28 (by decide +kernel), rfl⟩
theorem dX12_restOf_42 : Dc mX12_restOf 42 (.iload 5) 2 44 := ⟨zo_21 (by decide +kernel), rfl⟩
theorem dX12_restOf_44 : Dc mX12_restOf 44 (.iload 6) 2 46 := ⟨zo_21 (by decide +kernel), rfl⟩
theorem dX12_restOf_46 : Dc mX12_restOf 46 (.invokevirtual 511) 3 49 := ⟨zo_182 (w := 1) (x := 255) (by decide +kernel), rfl⟩
theorem dX12_restOf_49 : Dc mX12_restOf 49 (.ifCond .ne 6) 3 52 := ⟨zo_154 (w := 0) (x := 6) (by decide +kernel), rfl⟩
theorem dX12_restOf_52 : Dc mX12_restOf 52 (.goto 21) 3 55 := ⟨zo_167 (w := 0) (x := 21) (by decide +kernel), rfl⟩
theorem dX12_restOf_55 : Dc mX12_restOf 55 (.iload 4) 2 57 := ⟨zo_21 (by decide +kernel), rfl⟩
theorem dX12_restOf_57 : Dc mX12_restOf 57 (.iload_n 3) 1 58 := ⟨zo_29 (by decide +kernel), rfl⟩
theorem dX12_restOf_58 : Dc mX12_restOf 58 (.if_icmp .ne 12) 3 61 := ⟨zo_160 (w := 0) (x := 12) (by decide +kernel), rfl⟩
theorem dX12_restOf_61 : Dc mX12_restOf 61 (.bipush 10) 2 63 := ⟨zo_16 (w := 10) (by decide +kernel), rfl⟩
theorem dX12_restOf_63 : Dc mX12_restOf 63 (.iload 5) 2 65 := ⟨zo_21 (by decide +kernel), rfl⟩
theorem dX12_restOf_65 : Dc mX12_restOf 65 (.imul) 1 66 := ⟨zo_104 (by decide +kernel), rfl⟩
theorem dX12_restOf_66 : Dc mX12_restOf 66 (.iload 6) 2 68 := ⟨zo_21 (by decide +kernel), rfl⟩
theorem dX12_restOf_68 : Dc mX12_restOf 68 (.iadd) 1 69 := ⟨zo_96 (by decide +kernel), rfl⟩
theorem dX12_restOf_69 : Dc mX12_restOf 69 (.ireturn) 1 70 := ⟨zo_172 (by decide +kernel), rfl⟩
theorem dX12_restOf_70 : Dc mX12_restOf 70 (.iinc 4 1) 3 73 := ⟨zo_iinc (x := 1) (by decide +kernel), rfl⟩
theorem dX12_restOf_73 : Dc mX12_restOf 73 (.iinc 6 1) 3 76 := ⟨zo_iinc (x := 1) (by decide +kernel), rfl⟩
theorem dX12_restOf_76 : Dc mX12_restOf 76 (.goto (-52)) 3 79 := ⟨zo_167 (w := 255) (x := 204) (by decide +kernel), rfl⟩
theorem dX12_restOf_79 : Dc mX12_restOf 79 (.iinc 5 1) 3 82 := ⟨zo_iinc (x := 1) (by decide +kernel), rfl⟩
theorem dX12_restOf_82 : Dc mX12_restOf 82 (.goto (-76)) 3 85 := ⟨zo_167 (w := 255) (x := 180) (by decide +kernel), rfl⟩
theorem dX12_restOf_85 : Dc mX12_restOf 85 (.iload_n 3) 1 86 := ⟨zo_29 (by decide +kernel), rfl⟩
theorem dX12_restOf_86 : Dc mX12_restOf 86 (.iconst (-1)) 1 87 := ⟨zo_2 (by decide +kernel), rfl⟩
theorem dX12_restOf_87 : Dc mX12_restOf 87 (.if_icmp .ne 8) 3 90 := ⟨zo_160 (w := 0) (x := 8) (by decide +kernel), rfl⟩
theorem dX12_restOf_90 : Dc mX12_restOf 90 (.iload 4) 2 92 := ⟨zo_21 (by decide +kernel), rfl⟩
theorem dX12_restOf_92 : Dc mX12_restOf 92 (.goto 5) 3 95 := ⟨zo_167 (w := 0) (x := 5) (by decide +kernel), rfl⟩
theorem dX12_restOf_95 : Dc mX12_restOf 95 (.bipush (-2)) 2 97 := ⟨zo_16 (w := 254) (by decide +kernel), rfl⟩
theorem dX12_restOf_97 : Dc mX12_restOf 97 (.ireturn) 1 98 := ⟨zo_172 (by decide +kernel), rfl⟩
theorem dX12_areTwo_0 : Dc mX12_areTwo 0 (.aload_n 0) 1 1 := ⟨zo_42 (by decide +kernel), rfl⟩
theorem dX12_areTwo_1 : Dc mX12_areTwo 1 (.iload_n 1) 1 2 := ⟨zo_27 (by decide +kernel), rfl⟩
theorem dX12_areTwo_2 : Dc mX12_areTwo 2 (.invokevirtual 456) 3 5 := ⟨zo_182 (w := 1) (x := 200) (by decide +kernel), rfl⟩
theorem dX12_areTwo_5 : Dc mX12_areTwo 5 (.ifCond .eq 20) 3 8 := ⟨zo_153 (w := 0) (x := 20) (by decide +kernel), rfl⟩
theorem dX12_areTwo_8 : Dc mX12_areTwo 8 (.aload_n 0) 1 9 := ⟨zo_42 (by decide +kernel), rfl⟩
theorem dX12_areTwo_9 : Dc mX12_areTwo 9 (.iload_n 2) 1 10 := ⟨zo_28 (by decide +kernel), rfl⟩
theorem dX12_areTwo_10 : Dc mX12_areTwo 10 (.invokevirtual 456) 3 13 := ⟨zo_182 (w := 1) (x := 200) (by decide +kernel), rfl⟩
theorem dX12_areTwo_13 : Dc mX12_areTwo 13 (.ifCond .eq 12) 3 16 := ⟨zo_153 (w := 0) (x := 12) (by decide +kernel), rfl⟩
theorem dX12_areTwo_16 : Dc mX12_areTwo 16 (.iload_n 1) 1 17 := ⟨zo_27 (by decide +kernel), rfl⟩
theorem dX12_areTwo_17 : Dc mX12_areTwo 17 (.iload_n 2) 1 18 := ⟨zo_28 (by decide +kernel), rfl⟩
theorem dX12_areTwo_18 : Dc mX12_areTwo 18 (.if_icmp .eq 7) 3 21 := ⟨zo_159 (w := 0) (x := 7) (by decide +kernel), rfl⟩
theorem dX12_areTwo_21 : Dc mX12_areTwo 21 (.iconst 1) 1 22 := ⟨zo_4 (by decide +kernel), rfl⟩
theorem dX12_areTwo_22 : Dc mX12_areTwo 22 (.goto 4) 3 25 := ⟨zo_167 (w := 0) (x := 4) (by decide +kernel), rfl⟩
theorem dX12_areTwo_25 : Dc mX12_areTwo 25 (.iconst 0) 1 26 := ⟨zo_3 (by decide +kernel), rfl⟩
theorem dX12_areTwo_26 : Dc mX12_areTwo 26 (.ireturn) 1 27 := ⟨zo_172 (by decide +kernel), rfl⟩
theorem dX12_rests_0 : Dc mX12_rests 0 (.aload_n 0) 1 1 := ⟨zo_42 (by decide +kernel), rfl⟩
theorem dX12_rests_1 : Dc mX12_rests 1 (.iconst 0) 1 2 := ⟨zo_3 (by decide +kernel), rfl⟩
theorem dX12_rests_2 : Dc mX12_rests 2 (.putfield 169) 3 5 := ⟨zo_181 (w := 0) (x := 169) (by decide +kernel), rfl⟩
theorem dX12_rests_5 : Dc mX12_rests 5 (.aload_n 0) 1 6 := ⟨zo_42 (by decide +kernel), rfl⟩
theorem dX12_rests_6 : Dc mX12_rests 6 (.iload_n 1) 1 7 := ⟨zo_27 (by decide +kernel), rfl⟩
theorem dX12_rests_7 : Dc mX12_rests 7 (.iload_n 2) 1 8 := ⟨zo_28 (by decide +kernel), rfl⟩
theorem dX12_rests_8 : Dc mX12_rests 8 (.invokevirtual 515) 3 11 := ⟨zo_182 (w := 2) (x := 3) (by decide +kernel), rfl⟩
theorem dX12_rests_11 : Dc mX12_rests 11 (.ifCond .eq 13) 3 14 := ⟨zo_153 (w := 0) (x := 13) (by decide +kernel), rfl⟩
theorem dX12_rests_14 : Dc mX12_rests 14 (.aload_n 0) 1 15 := ⟨zo_42 (by decide +kernel), rfl⟩
theorem dX12_rests_15 : Dc mX12_rests 15 (.iload_n 1) 1 16 := ⟨zo_27 (by decide +kernel), rfl⟩
theorem dX12_rests_16 : Dc mX12_rests 16 (.iload_n 2) 1 17 := ⟨zo_28 (by decide +kernel), rfl⟩
theorem dX12_rests_17 : Dc mX12_rests 17 (.iconst (-1)) 1 18 := ⟨zo_2 (by decide +kernel), rfl⟩
theorem dX12_rests_18 : Dc mX12_rests 18 (.invokevirtual 518) 3 21 := ⟨zo_182 (w := 2) (x := 6) (by decide +kernel), rfl⟩
theorem dX12_rests_21 : Dc mX12_rests 21 (.goto 4) 3 24 := ⟨zo_167 (w := 0) (x := 4) (by decide +kernel), rfl⟩
theorem dX12_rests_24 : Dc mX12_rests 24 (.iconst (-1)) 1 25 := ⟨zo_2 (by decide +kernel), rfl⟩
theorem dX12_rests_25 : Dc mX12_rests 25 (.ireturn) 1 26 := ⟨zo_172 (by decide +kernel), rfl⟩
theorem dX12_rest_0 : Dc mX12_rest 0 (.aload_n 0) 1 1 := ⟨zo_42 (by decide +kernel), rfl⟩
theorem dX12_rest_1 : Dc mX12_rest 1 (.iconst 0) 1 2 := ⟨zo_3 (by decide +kernel), rfl⟩
theorem dX12_rest_2 : Dc mX12_rest 2 (.putfield 169) 3 5 := ⟨zo_181 (w := 0) (x := 169) (by decide +kernel), rfl⟩
theorem dX12_rest_5 : Dc mX12_rest 5 (.aload_n 0) 1 6 := ⟨zo_42 (by decide +kernel), rfl⟩
theorem dX12_rest_6 : Dc mX12_rest 6 (.iload_n 1) 1 7 := ⟨zo_27 (by decide +kernel), rfl⟩
theorem dX12_rest_7 : Dc mX12_rest 7 (.iload_n 2) 1 8 := ⟨zo_28 (by decide +kernel), rfl⟩
theorem dX12_rest_8 : Dc mX12_rest 8 (.invokevirtual 515) 3 11 := ⟨zo_182 (w := 2) (x := 3) (by decide +kernel), rfl⟩
theorem dX12_rest_11 : Dc mX12_rest 11 (.ifCond .eq 17) 3 14 := ⟨zo_153 (w := 0) (x := 17) (by decide +kernel), rfl⟩
theorem dX12_rest_14 : Dc mX12_rest 14 (.iload_n 3) 1 15 := ⟨zo_29 (by decide +kernel), rfl⟩
theorem dX12_rest_15 : Dc mX12_rest 15 (.ifCond .lt 13) 3 18 := ⟨zo_155 (w := 0) (x := 13) (by decide +kernel), rfl⟩
theorem dX12_rest_18 : Dc mX12_rest 18 (.aload_n 0) 1 19 := ⟨zo_42 (by decide +kernel), rfl⟩
theorem dX12_rest_19 : Dc mX12_rest 19 (.iload_n 1) 1 20 := ⟨zo_27 (by decide +kernel), rfl⟩
theorem dX12_rest_20 : Dc mX12_rest 20 (.iload_n 2) 1 21 := ⟨zo_28 (by decide +kernel), rfl⟩
theorem dX12_rest_21 : Dc mX12_rest 21 (.iload_n 3) 1 22 := ⟨zo_29 (by decide +kernel), rfl⟩
theorem dX12_rest_22 : Dc mX12_rest 22 (.invokevirtual 518) 3 25 := ⟨zo_182 (w := 2) (x := 6) (by decide +kernel), rfl⟩
theorem dX12_rest_25 : Dc mX12_rest 25 (.goto 4) 3 28 := ⟨zo_167 (w := 0) (x := 4) (by decide +kernel), rfl⟩
theorem dX12_rest_28 : Dc mX12_rest 28 (.iconst (-1)) 1 29 := ⟨zo_2 (by decide +kernel), rfl⟩
theorem dX12_rest_29 : Dc mX12_rest 29 (.ireturn) 1 30 := ⟨zo_172 (by decide +kernel), rfl⟩
theorem dX12_common_0 : Dc mX12_common 0 (.lload_n 0) 1 1 := ⟨zo_30 (by decide +kernel), rfl⟩
theorem dX12_common_1 : Dc mX12_common 1 (.lstore 4) 2 3 := ⟨zo_55 (by decide +kernel), rfl⟩
theorem dX12_common_3 : Dc mX12_common 3 (.lload_n 2) 1 4 := ⟨zo_32 (by decide +kernel), rfl⟩
theorem dX12_common_4 : Dc mX12_common 4 (.lstore 6) 2 6 := ⟨zo_55 (by decide +kernel), rfl⟩
theorem dX12_common_6 : Dc mX12_common 6 (.lload 6) 2 8 := ⟨zo_22 (by decide +kernel), rfl⟩
theorem dX12_common_8 : Dc mX12_common 8 (.lconst 0) 1 9 := ⟨zo_9 (by decide +kernel), rfl⟩
theorem dX12_common_9 : Dc mX12_common 9 (.lcmp) 1 10 := ⟨zo_148 (by decide +kernel), rfl⟩
theorem dX12_common_10 : Dc mX12_common 10 (.ifCond .eq 21) 3 13 := ⟨zo_153 (w := 0) (x := 21) (by decide +kernel), rfl⟩
theorem dX12_common_13 : Dc mX12_common 13 (.lload 4) 2 15 := ⟨zo_22 (by decide +kernel), rfl⟩
theorem dX12_common_15 : Dc mX12_common 15 (.lload 6) 2 17 := ⟨zo_22 (by decide +kernel), rfl⟩
theorem dX12_common_17 : Dc mX12_common 17 (.lrem) 1 18 := ⟨zo_113 (by decide +kernel), rfl⟩
theorem dX12_common_18 : Dc mX12_common 18 (.lstore 8) 2 20 := ⟨zo_55 (by decide +kernel), rfl⟩
theorem dX12_common_20 : Dc mX12_common 20 (.lload 6) 2 22 := ⟨zo_22 (by decide +kernel), rfl⟩
theorem dX12_common_22 : Dc mX12_common 22 (.lstore 4) 2 24 := ⟨zo_55 (by decide +kernel), rfl⟩
theorem dX12_common_24 : Dc mX12_common 24 (.lload 8) 2 26 := ⟨zo_22 (by decide +kernel), rfl⟩
theorem dX12_common_26 : Dc mX12_common 26 (.lstore 6) 2 28 := ⟨zo_55 (by decide +kernel), rfl⟩
theorem dX12_common_28 : Dc mX12_common 28 (.goto (-22)) 3 31 := ⟨zo_167 (w := 255) (x := 234) (by decide +kernel), rfl⟩
theorem dX12_common_31 : Dc mX12_common 31 (.lload 4) 2 33 := ⟨zo_22 (by decide +kernel), rfl⟩
theorem dX12_common_33 : Dc mX12_common 33 (.lreturn) 1 34 := ⟨zo_173 (by decide +kernel), rfl⟩
theorem dX12_there_0 : Dc mX12_there 0 (.aload_n 0) 1 1 := ⟨zo_42 (by decide +kernel), rfl⟩
theorem dX12_there_1 : Dc mX12_there 1 (.iconst 0) 1 2 := ⟨zo_3 (by decide +kernel), rfl⟩
theorem dX12_there_2 : Dc mX12_there 2 (.putfield 169) 3 5 := ⟨zo_181 (w := 0) (x := 169) (by decide +kernel), rfl⟩
theorem dX12_there_5 : Dc mX12_there 5 (.iload_n 1) 1 6 := ⟨zo_27 (by decide +kernel), rfl⟩
theorem dX12_there_6 : Dc mX12_there 6 (.ifCond .lt 18) 3 9 := ⟨zo_155 (w := 0) (x := 18) (by decide +kernel), rfl⟩
theorem dX12_there_9 : Dc mX12_there 9 (.iload_n 1) 1 10 := ⟨zo_27 (by decide +kernel), rfl⟩
theorem dX12_there_10 : Dc mX12_there 10 (.bipush 6) 2 12 := ⟨zo_16 (w := 6) (by decide +kernel), rfl⟩
theorem dX12_there_12 : Dc mX12_there 12 (.if_icmp .gt 12) 3 15 := ⟨zo_163 (w := 0) (x := 12) (by decide +kernel), rfl⟩
theorem dX12_there_15 : Dc mX12_there 15 (.iload_n 2) 1 16 := ⟨zo_28 (by decide +kernel), rfl⟩
theorem dX12_there_16 : Dc mX12_there 16 (.ifCond .lt 8) 3 19 := ⟨zo_155 (w := 0) (x := 8) (by decide +kernel), rfl⟩
theorem dX12_there_19 : Dc mX12_there 19 (.iload_n 2) 1 20 := ⟨zo_28 (by decide +kernel), rfl⟩
theorem dX12_there_20 : Dc mX12_there 20 (.iconst 1) 1 21 := ⟨zo_4 (by decide +kernel), rfl⟩
theorem dX12_there_21 : Dc mX12_there 21 (.if_icmp .le 7) 3 24 := ⟨zo_164 (w := 0) (x := 7) (by decide +kernel), rfl⟩
theorem dX12_there_24 : Dc mX12_there 24 (.ldc2_w 521) 3 27 := ⟨zo_20 (w := 2) (x := 9) (by decide +kernel), rfl⟩
theorem dX12_there_27 : Dc mX12_there 27 (.lreturn) 1 28 := ⟨zo_173 (by decide +kernel), rfl⟩
theorem dX12_there_28 : Dc mX12_there 28 (.lconst 1) 1 29 := ⟨zo_10 (by decide +kernel), rfl⟩
theorem dX12_there_29 : Dc mX12_there 29 (.lstore_n 3) 1 30 := ⟨zo_66 (by decide +kernel), rfl⟩
theorem dX12_there_30 : Dc mX12_there 30 (.lconst 1) 1 31 := ⟨zo_10 (by decide +kernel), rfl⟩
theorem dX12_there_31 : Dc mX12_there 31 (.lstore 5) 2 33 := ⟨zo_55 (by decide +kernel), rfl⟩
theorem dX12_there_33 : Dc mX12_there 33 (.iconst 0) 1 34 := ⟨zo_3 (by decide +kernel), rfl⟩
theorem dX12_there_34 : Dc mX12_there 34 (.istore 7) 2 36 := ⟨zo_54 (by decide +kernel), rfl⟩
theorem dX12_there_36 : Dc mX12_there 36 (.iload 7) 2 38 := ⟨zo_21 (by decide +kernel), rfl⟩
theorem dX12_there_38 : Dc mX12_there 38 (.iload_n 1) 1 39 := ⟨zo_27 (by decide +kernel), rfl⟩
theorem dX12_there_39 : Dc mX12_there 39 (.if_icmp .ge 32) 3 42 := ⟨zo_162 (w := 0) (x := 32) (by decide +kernel), rfl⟩
theorem dX12_there_42 : Dc mX12_there 42 (.lload_n 3) 1 43 := ⟨zo_33 (by decide +kernel), rfl⟩
theorem dX12_there_43 : Dc mX12_there 43 (.ldc2_w 523) 3 46 := ⟨zo_20 (w := 2) (x := 11) (by decide +kernel), rfl⟩
theorem dX12_there_46 : Dc mX12_there 46 (.aload_n 0) 1 47 := ⟨zo_42 (by decide +kernel), rfl⟩
theorem dX12_there_47 : Dc mX12_there 47 (.getfield 13) 3 50 := ⟨zo_180 (w := 0) (x := 13) (by decide +kernel), rfl⟩
theorem dX12_there_50 : Dc mX12_there 50 (.bipush 6) 2 52 := ⟨zo_16 (w := 6) (by decide +kernel), rfl⟩
theorem dX12_there_52 : Dc mX12_there 52 (.iaload) 1 53 := ⟨zo_46 (by decide +kernel), rfl⟩
theorem dX12_there_53 : Dc mX12_there 53 (.i2l) 1 54 := ⟨zo_133 (by decide +kernel), rfl⟩
theorem dX12_there_54 : Dc mX12_there 54 (.lsub) 1 55 := ⟨zo_101 (by decide +kernel), rfl⟩
theorem dX12_there_55 : Dc mX12_there 55 (.lmul) 1 56 := ⟨zo_105 (by decide +kernel), rfl⟩
theorem dX12_there_56 : Dc mX12_there 56 (.lstore_n 3) 1 57 := ⟨zo_66 (by decide +kernel), rfl⟩
theorem dX12_there_57 : Dc mX12_there 57 (.lload 5) 2 59 := ⟨zo_22 (by decide +kernel), rfl⟩
theorem dX12_there_59 : Dc mX12_there 59 (.ldc2_w 523) 3 62 := ⟨zo_20 (w := 2) (x := 11) (by decide +kernel), rfl⟩
theorem dX12_there_62 : Dc mX12_there 62 (.lmul) 1 63 := ⟨zo_105 (by decide +kernel), rfl⟩
theorem dX12_there_63 : Dc mX12_there 63 (.lstore 5) 2 65 := ⟨zo_55 (by decide +kernel), rfl⟩
theorem dX12_there_65 : Dc mX12_there 65 (.iinc 7 1) 3 68 := ⟨zo_iinc (x := 1) (by decide +kernel), rfl⟩
theorem dX12_there_68 : Dc mX12_there 68 (.goto (-32)) 3 71 := ⟨zo_167 (w := 255) (x := 224) (by decide +kernel), rfl⟩
theorem dX12_there_71 : Dc mX12_there 71 (.lload_n 3) 1 72 := ⟨zo_33 (by decide +kernel), rfl⟩
theorem dX12_there_72 : Dc mX12_there 72 (.lload 5) 2 74 := ⟨zo_22 (by decide +kernel), rfl⟩
theorem dX12_there_74 : Dc mX12_there 74 (.invokestatic 525) 3 77 := ⟨zo_184 (w := 2) (x := 13) (by decide +kernel), rfl⟩
theorem dX12_there_77 : Dc mX12_there 77 (.lstore 7) 2 79 := ⟨zo_55 (by decide +kernel), rfl⟩
theorem dX12_there_79 : Dc mX12_there 79 (.iload_n 2) 1 80 := ⟨zo_28 (by decide +kernel), rfl⟩
theorem dX12_there_80 : Dc mX12_there 80 (.ifCond .ne 10) 3 83 := ⟨zo_154 (w := 0) (x := 10) (by decide +kernel), rfl⟩
theorem dX12_there_83 : Dc mX12_there 83 (.lload_n 3) 1 84 := ⟨zo_33 (by decide +kernel), rfl⟩
theorem dX12_there_84 : Dc mX12_there 84 (.lload 7) 2 86 := ⟨zo_22 (by decide +kernel), rfl⟩
theorem dX12_there_86 : Dc mX12_there 86 (.ldiv) 1 87 := ⟨zo_109 (by decide +kernel), rfl⟩
theorem dX12_there_87 : Dc mX12_there 87 (.goto 8) 3 90 := ⟨zo_167 (w := 0) (x := 8) (by decide +kernel), rfl⟩
theorem dX12_there_90 : Dc mX12_there 90 (.lload 5) 2 92 := ⟨zo_22 (by decide +kernel), rfl⟩
theorem dX12_there_92 : Dc mX12_there 92 (.lload 7) 2 94 := ⟨zo_22 (by decide +kernel), rfl⟩
theorem dX12_there_94 : Dc mX12_there 94 (.ldiv) 1 95 := ⟨zo_109 (by decide +kernel), rfl⟩
theorem dX12_there_95 : Dc mX12_there 95 (.lreturn) 1 96 := ⟨zo_173 (by decide +kernel), rfl⟩
theorem dX12_without_0 : Dc mX12_without 0 (.aload_n 0) 1 1 := ⟨zo_42 (by decide +kernel), rfl⟩
theorem dX12_without_1 : Dc mX12_without 1 (.iconst 0) 1 2 := ⟨zo_3 (by decide +kernel), rfl⟩
theorem dX12_without_2 : Dc mX12_without 2 (.putfield 169) 3 5 := ⟨zo_181 (w := 0) (x := 169) (by decide +kernel), rfl⟩
theorem dX12_without_5 : Dc mX12_without 5 (.iload_n 1) 1 6 := ⟨zo_27 (by decide +kernel), rfl⟩
theorem dX12_without_6 : Dc mX12_without 6 (.ifCond .lt 9) 3 9 := ⟨zo_155 (w := 0) (x := 9) (by decide +kernel), rfl⟩
theorem dX12_without_9 : Dc mX12_without 9 (.iload_n 1) 1 10 := ⟨zo_27 (by decide +kernel), rfl⟩
theorem dX12_without_10 : Dc mX12_without 10 (.bipush 99) 2 12 := ⟨zo_16 (w := 99) (by decide +kernel), rfl⟩
theorem dX12_without_12 : Dc mX12_without 12 (.if_icmp .le 5) 3 15 := ⟨zo_164 (w := 0) (x := 5) (by decide +kernel), rfl⟩
theorem dX12_without_15 : Dc mX12_without 15 (.iconst (-1)) 1 16 := ⟨zo_2 (by decide +kernel), rfl⟩
theorem dX12_without_16 : Dc mX12_without 16 (.ireturn) 1 17 := ⟨zo_172 (by decide +kernel), rfl⟩
theorem dX12_without_17 : Dc mX12_without 17 (.aload_n 0) 1 18 := ⟨zo_42 (by decide +kernel), rfl⟩
theorem dX12_without_18 : Dc mX12_without 18 (.iconst 1) 1 19 := ⟨zo_4 (by decide +kernel), rfl⟩
theorem dX12_without_19 : Dc mX12_without 19 (.putfield 394) 3 22 := ⟨zo_181 (w := 1) (x := 138) (by decide +kernel), rfl⟩
theorem dX12_without_22 : Dc mX12_without 22 (.aload_n 0) 1 23 := ⟨zo_42 (by decide +kernel), rfl⟩
theorem dX12_without_23 : Dc mX12_without 23 (.iload_n 1) 1 24 := ⟨zo_27 (by decide +kernel), rfl⟩
theorem dX12_without_24 : Dc mX12_without 24 (.invokevirtual 466) 3 27 := ⟨zo_182 (w := 1) (x := 210) (by decide +kernel), rfl⟩
theorem dX12_without_27 : Dc mX12_without 27 (.aload_n 0) 1 28 := ⟨zo_42 (by decide +kernel), rfl⟩
theorem dX12_without_28 : Dc mX12_without 28 (.iconst 0) 1 29 := ⟨zo_3 (by decide +kernel), rfl⟩
theorem dX12_without_29 : Dc mX12_without 29 (.putfield 394) 3 32 := ⟨zo_181 (w := 1) (x := 138) (by decide +kernel), rfl⟩
theorem dX12_without_32 : Dc mX12_without 32 (.aload_n 0) 1 33 := ⟨zo_42 (by decide +kernel), rfl⟩
theorem dX12_without_33 : Dc mX12_without 33 (.iconst 1) 1 34 := ⟨zo_4 (by decide +kernel), rfl⟩
theorem dX12_without_34 : Dc mX12_without 34 (.invokevirtual 473) 3 37 := ⟨zo_182 (w := 1) (x := 217) (by decide +kernel), rfl⟩
theorem dX12_without_37 : Dc mX12_without 37 (.aload_n 0) 1 38 := ⟨zo_42 (by decide +kernel), rfl⟩
theorem dX12_without_38 : Dc mX12_without 38 (.iconst 1) 1 39 := ⟨zo_4 (by decide +kernel), rfl⟩
theorem dX12_without_39 : Dc mX12_without 39 (.invokevirtual 479) 3 42 := ⟨zo_182 (w := 1) (x := 223) (by decide +kernel), rfl⟩
theorem dX12_without_42 : Dc mX12_without 42 (.iadd) 1 43 := ⟨zo_96 (by decide +kernel), rfl⟩
theorem dX12_without_43 : Dc mX12_without 43 (.ireturn) 1 44 := ⟨zo_172 (by decide +kernel), rfl⟩
theorem dX12_run_0 : Dc mX12_run 0 (.aload_n 0) 1 1 := ⟨zo_42 (by decide +kernel), rfl⟩
theorem dX12_run_1 : Dc mX12_run 1 (.iconst 0) 1 2 := ⟨zo_3 (by decide +kernel), rfl⟩
theorem dX12_run_2 : Dc mX12_run 2 (.putfield 169) 3 5 := ⟨zo_181 (w := 0) (x := 169) (by decide +kernel), rfl⟩
theorem dX12_run_5 : Dc mX12_run 5 (.iconst 0) 1 6 := ⟨zo_3 (by decide +kernel), rfl⟩
theorem dX12_run_6 : Dc mX12_run 6 (.istore_n 1) 1 7 := ⟨zo_60 (by decide +kernel), rfl⟩
theorem dX12_run_7 : Dc mX12_run 7 (.iconst 0) 1 8 := ⟨zo_3 (by decide +kernel), rfl⟩
theorem dX12_run_8 : Dc mX12_run 8 (.istore_n 2) 1 9 := ⟨zo_61 (by decide +kernel), rfl⟩
theorem dX12_run_9 : Dc mX12_run 9 (.iconst 0) 1 10 := ⟨zo_3 (by decide +kernel), rfl⟩
theorem dX12_run_10 : Dc mX12_run 10 (.istore_n 3) 1 11 := ⟨zo_62 (by decide +kernel), rfl⟩
theorem dX12_run_11 : Dc mX12_run 11 (.iload_n 3) 1 12 := ⟨zo_29 (by decide +kernel), rfl⟩
theorem dX12_run_12 : Dc mX12_run 12 (.aload_n 0) 1 13 := ⟨zo_42 (by decide +kernel), rfl⟩
theorem dX12_run_13 : Dc mX12_run 13 (.getfield 13) 3 16 := ⟨zo_180 (w := 0) (x := 13) (by decide +kernel), rfl⟩
theorem dX12_run_16 : Dc mX12_run 16 (.iconst 1) 1 17 := ⟨zo_4 (by decide +kernel), rfl⟩
theorem dX12_run_17 : Dc mX12_run 17 (.iaload) 1 18 := ⟨zo_46 (by decide +kernel), rfl⟩
theorem dX12_run_18 : Dc mX12_run 18 (.if_icmp .ge 63) 3 21 := ⟨zo_162 (w := 0) (x := 63) (by decide +kernel), rfl⟩
theorem dX12_run_21 : Dc mX12_run 21 (.iload_n 2) 1 22 := ⟨zo_28 (by decide +kernel), rfl⟩
theorem dX12_run_22 : Dc mX12_run 22 (.ifCond .le 18) 3 25 := ⟨zo_158 (w := 0) (x := 18) (by decide +kernel), rfl⟩
theorem dX12_run_25 : Dc mX12_run 25 (.aload_n 0) 1 26 := ⟨zo_42 (by decide +kernel), rfl⟩
theorem dX12_run_26 : Dc mX12_run 26 (.iconst 0) 1 27 := ⟨zo_3 (by decide +kernel), rfl⟩
theorem dX12_run_27 : Dc mX12_run 27 (.iload_n 3) 1 28 := ⟨zo_29 (by decide +kernel), rfl⟩
theorem dX12_run_28 : Dc mX12_run 28 (.iconst 1) 1 29 := ⟨zo_4 (by decide +kernel), rfl⟩
theorem dX12_run_29 : Dc mX12_run 29 (.isub) 1 30 := ⟨zo_100 (by decide +kernel), rfl⟩
theorem dX12_run_30 : Dc mX12_run 30 (.invokevirtual 476) 3 33 := ⟨zo_182 (w := 1) (x := 220) (by decide +kernel), rfl⟩
theorem dX12_run_33 : Dc mX12_run 33 (.ifCond .ne 7) 3 36 := ⟨zo_154 (w := 0) (x := 7) (by decide +kernel), rfl⟩
theorem dX12_run_36 : Dc mX12_run 36 (.iconst 1) 1 37 := ⟨zo_4 (by decide +kernel), rfl⟩
theorem dX12_run_37 : Dc mX12_run 37 (.goto 4) 3 40 := ⟨zo_167 (w := 0) (x := 4) (by decide +kernel), rfl⟩
theorem dX12_run_40 : Dc mX12_run 40 (.iconst 0) 1 41 := ⟨zo_3 (by decide +kernel), rfl⟩
theorem dX12_run_41 : Dc mX12_run 41 (.istore 4) 2 43 := ⟨zo_54 (by decide +kernel), rfl⟩
theorem dX12_run_43 : Dc mX12_run 43 (.aload_n 0) 1 44 := ⟨zo_42 (by decide +kernel), rfl⟩
theorem dX12_run_44 : Dc mX12_run 44 (.iconst 0) 1 45 := ⟨zo_3 (by decide +kernel), rfl⟩
theorem dX12_run_45 : Dc mX12_run 45 (.iload_n 3) 1 46 := ⟨zo_29 (by decide +kernel), rfl⟩
theorem dX12_run_46 : Dc mX12_run 46 (.invokevirtual 367) 3 49 := ⟨zo_182 (w := 1) (x := 111) (by decide +kernel), rfl⟩
theorem dX12_run_49 : Dc mX12_run 49 (.ifCond .ne 7) 3 52 := ⟨zo_154 (w := 0) (x := 7) (by decide +kernel), rfl⟩
theorem dX12_run_52 : Dc mX12_run 52 (.iconst 0) 1 53 := ⟨zo_3 (by decide +kernel), rfl⟩
theorem dX12_run_53 : Dc mX12_run 53 (.goto 15) 3 56 := ⟨zo_167 (w := 0) (x := 15) (by decide +kernel), rfl⟩
theorem dX12_run_56 : Dc mX12_run 56 (.iload 4) 2 58 := ⟨zo_21 (by decide +kernel), rfl⟩
theorem dX12_run_58 : Dc mX12_run 58 (.ifCond .eq 9) 3 61 := ⟨zo_153 (w := 0) (x := 9) (by decide +kernel), rfl⟩
theorem dX12_run_61 : Dc mX12_run 61 (.iload_n 2) 1 62 := ⟨zo_28 (by decide +kernel), rfl⟩
theorem dX12_run_62 : Dc mX12_run 62 (.iconst 1) 1 63 := ⟨zo_4 (by decide +kernel), rfl⟩
theorem dX12_run_63 : Dc mX12_run 63 (.iadd) 1 64 := ⟨zo_96 (by decide +kernel), rfl⟩
theorem dX12_run_64 : Dc mX12_run 64 (.goto 4) 3 67 := ⟨zo_167 (w := 0) (x := 4) (by decide +kernel), rfl⟩
theorem dX12_run_67 : Dc mX12_run 67 (.iconst 1) 1 68 := ⟨zo_4 (by decide +kernel), rfl⟩
theorem dX12_run_68 : Dc mX12_run 68 (.istore_n 2) 1 69 := ⟨zo_61 (by decide +kernel), rfl⟩
theorem dX12_run_69 : Dc mX12_run 69 (.iload_n 1) 1 70 := ⟨zo_27 (by decide +kernel), rfl⟩
theorem dX12_run_70 : Dc mX12_run 70 (.iload_n 2) 1 71 := ⟨zo_28 (by decide +kernel), rfl⟩
theorem dX12_run_71 : Dc mX12_run 71 (.invokestatic 528) 3 74 := ⟨zo_184 (w := 2) (x := 16) (by decide +kernel), rfl⟩
theorem dX12_run_74 : Dc mX12_run 74 (.istore_n 1) 1 75 := ⟨zo_60 (by decide +kernel), rfl⟩
theorem dX12_run_75 : Dc mX12_run 75 (.iinc 3 1) 3 78 := ⟨zo_iinc (x := 1) (by decide +kernel), rfl⟩
theorem dX12_run_78 : Dc mX12_run 78 (.goto (-67)) 3 81 := ⟨zo_167 (w := 255) (x := 189) (by decide +kernel), rfl⟩
theorem dX12_run_81 : Dc mX12_run 81 (.iload_n 1) 1 82 := ⟨zo_27 (by decide +kernel), rfl⟩
theorem dX12_run_82 : Dc mX12_run 82 (.ireturn) 1 83 := ⟨zo_172 (by decide +kernel), rfl⟩
theorem dX12_believed_0 : Dc mX12_believed 0 (.aload_n 0) 1 1 := ⟨zo_42 (by decide +kernel), rfl⟩
theorem dX12_believed_1 : Dc mX12_believed 1 (.iconst 0) 1 2 := ⟨zo_3 (by decide +kernel), rfl⟩
theorem dX12_believed_2 : Dc mX12_believed 2 (.putfield 169) 3 5 := ⟨zo_181 (w := 0) (x := 169) (by decide +kernel), rfl⟩
theorem dX12_believed_5 : Dc mX12_believed 5 (.iconst 0) 1 6 := ⟨zo_3 (by decide +kernel), rfl⟩
theorem dX12_believed_6 : Dc mX12_believed 6 (.istore_n 1) 1 7 := ⟨zo_60 (by decide +kernel), rfl⟩
theorem dX12_believed_7 : Dc mX12_believed 7 (.iconst 0) 1 8 := ⟨zo_3 (by decide +kernel), rfl⟩
theorem dX12_believed_8 : Dc mX12_believed 8 (.istore_n 2) 1 9 := ⟨zo_61 (by decide +kernel), rfl⟩
theorem dX12_believed_9 : Dc mX12_believed 9 (.iload_n 2) 1 10 := ⟨zo_28 (by decide +kernel), rfl⟩
theorem dX12_believed_10 : Dc mX12_believed 10 (.aload_n 0) 1 11 := ⟨zo_42 (by decide +kernel), rfl⟩
theorem dX12_believed_11 : Dc mX12_believed 11 (.getfield 13) 3 14 := ⟨zo_180 (w := 0) (x := 13) (by decide +kernel), rfl⟩
theorem dX12_believed_14 : Dc mX12_believed 14 (.iconst 3) 1 15 := ⟨zo_6 (by decide +kernel), rfl⟩
theorem dX12_believed_15 : Dc mX12_believed 15 (.iaload) 1 16 := ⟨zo_46 (by decide +kernel), rfl⟩
theorem dX12_believed_16 : Dc mX12_believed 16 (.if_icmp .ge 39) 3 19 := ⟨zo_162 (w := 0) (x := 39) (by decide +kernel), rfl⟩
theorem dX12_believed_19 : Dc mX12_believed 19 (.iload_n 1) 1 20 := ⟨zo_27 (by decide +kernel), rfl⟩
theorem dX12_believed_20 : Dc mX12_believed 20 (.aload_n 0) 1 21 := ⟨zo_42 (by decide +kernel), rfl⟩
theorem dX12_believed_21 : Dc mX12_believed 21 (.getfield 102) 3 24 := ⟨zo_180 (w := 0) (x := 102) (by decide +kernel), rfl⟩
theorem dX12_believed_24 : Dc mX12_believed 24 (.aload_n 0) 1 25 := ⟨zo_42 (by decide +kernel), rfl⟩
theorem dX12_believed_25 : Dc mX12_believed 25 (.getfield 40) 3 28 := ⟨zo_180 (w := 0) (x := 40) (by decide +kernel), rfl⟩
theorem dX12_believed_28 : Dc mX12_believed 28 (.iload_n 2) 1 29 := ⟨zo_28 (by decide +kernel), rfl⟩
theorem dX12_believed_29 : Dc mX12_believed 29 (.iaload) 1 30 := ⟨zo_46 (by decide +kernel), rfl⟩
theorem dX12_believed_30 : Dc mX12_believed 30 (.iaload) 1 31 := ⟨zo_46 (by decide +kernel), rfl⟩
theorem dX12_believed_31 : Dc mX12_believed 31 (.aload_n 0) 1 32 := ⟨zo_42 (by decide +kernel), rfl⟩
theorem dX12_believed_32 : Dc mX12_believed 32 (.getfield 43) 3 35 := ⟨zo_180 (w := 0) (x := 43) (by decide +kernel), rfl⟩
theorem dX12_believed_35 : Dc mX12_believed 35 (.iload_n 2) 1 36 := ⟨zo_28 (by decide +kernel), rfl⟩
theorem dX12_believed_36 : Dc mX12_believed 36 (.iaload) 1 37 := ⟨zo_46 (by decide +kernel), rfl⟩
theorem dX12_believed_37 : Dc mX12_believed 37 (.if_icmp .ne 9) 3 40 := ⟨zo_160 (w := 0) (x := 9) (by decide +kernel), rfl⟩
theorem dX12_believed_40 : Dc mX12_believed 40 (.iconst 1) 1 41 := ⟨zo_4 (by decide +kernel), rfl⟩
theorem dX12_believed_41 : Dc mX12_believed 41 (.iload_n 2) 1 42 := ⟨zo_28 (by decide +kernel), rfl⟩
theorem dX12_believed_42 : Dc mX12_believed 42 (.ishl) 1 43 := ⟨zo_120 (by decide +kernel), rfl⟩
theorem dX12_believed_43 : Dc mX12_believed 43 (.goto 4) 3 46 := ⟨zo_167 (w := 0) (x := 4) (by decide +kernel), rfl⟩
theorem dX12_believed_46 : Dc mX12_believed 46 (.iconst 0) 1 47 := ⟨zo_3 (by decide +kernel), rfl⟩
theorem dX12_believed_47 : Dc mX12_believed 47 (.ior) 1 48 := ⟨zo_128 (by decide +kernel), rfl⟩
theorem dX12_believed_48 : Dc mX12_believed 48 (.istore_n 1) 1 49 := ⟨zo_60 (by decide +kernel), rfl⟩
theorem dX12_believed_49 : Dc mX12_believed 49 (.iinc 2 1) 3 52 := ⟨zo_iinc (x := 1) (by decide +kernel), rfl⟩
theorem dX12_believed_52 : Dc mX12_believed 52 (.goto (-43)) 3 55 := ⟨zo_167 (w := 255) (x := 213) (by decide +kernel), rfl⟩
theorem dX12_believed_55 : Dc mX12_believed 55 (.iload_n 1) 1 56 := ⟨zo_27 (by decide +kernel), rfl⟩
theorem dX12_believed_56 : Dc mX12_believed 56 (.ireturn) 1 57 := ⟨zo_172 (by decide +kernel), rfl⟩
theorem dX12_see_0 : Dc mX12_see 0 (.aload_n 0) 1 1 := ⟨zo_42 (by decide +kernel), rfl⟩
theorem dX12_see_1 : Dc mX12_see 1 (.iconst 0) 1 2 := ⟨zo_3 (by decide +kernel), rfl⟩
theorem dX12_see_2 : Dc mX12_see 2 (.putfield 169) 3 5 := ⟨zo_181 (w := 0) (x := 169) (by decide +kernel), rfl⟩
theorem dX12_see_5 : Dc mX12_see 5 (.iload_n 1) 1 6 := ⟨zo_27 (by decide +kernel), rfl⟩
theorem dX12_see_6 : Dc mX12_see 6 (.iconst 1) 1 7 := ⟨zo_4 (by decide +kernel), rfl⟩
theorem dX12_see_7 : Dc mX12_see 7 (.if_icmp .lt 26) 3 10 := ⟨zo_161 (w := 0) (x := 26) (by decide +kernel), rfl⟩
theorem dX12_see_10 : Dc mX12_see 10 (.iload_n 1) 1 11 := ⟨zo_27 (by decide +kernel), rfl⟩
theorem dX12_see_11 : Dc mX12_see 11 (.bipush 40) 2 13 := ⟨zo_16 (w := 40) (by decide +kernel), rfl⟩
theorem dX12_see_13 : Dc mX12_see 13 (.if_icmp .gt 20) 3 16 := ⟨zo_163 (w := 0) (x := 20) (by decide +kernel), rfl⟩
theorem dX12_see_16 : Dc mX12_see 16 (.aload_n 0) 1 17 := ⟨zo_42 (by decide +kernel), rfl⟩
theorem dX12_see_17 : Dc mX12_see 17 (.iload_n 2) 1 18 := ⟨zo_28 (by decide +kernel), rfl⟩
theorem dX12_see_18 : Dc mX12_see 18 (.invokevirtual 450) 3 21 := ⟨zo_182 (w := 1) (x := 194) (by decide +kernel), rfl⟩
theorem dX12_see_21 : Dc mX12_see 21 (.ifCond .eq 12) 3 24 := ⟨zo_153 (w := 0) (x := 12) (by decide +kernel), rfl⟩
theorem dX12_see_24 : Dc mX12_see 24 (.aload_n 0) 1 25 := ⟨zo_42 (by decide +kernel), rfl⟩
theorem dX12_see_25 : Dc mX12_see 25 (.getfield 328) 3 28 := ⟨zo_180 (w := 1) (x := 72) (by decide +kernel), rfl⟩
theorem dX12_see_28 : Dc mX12_see 28 (.bipush 24) 2 30 := ⟨zo_16 (w := 24) (by decide +kernel), rfl⟩
theorem dX12_see_30 : Dc mX12_see 30 (.if_icmp .ne 5) 3 33 := ⟨zo_160 (w := 0) (x := 5) (by decide +kernel), rfl⟩
theorem dX12_see_33 : Dc mX12_see 33 (.iconst (-1)) 1 34 := ⟨zo_2 (by decide +kernel), rfl⟩
theorem dX12_see_34 : Dc mX12_see 34 (.ireturn) 1 35 := ⟨zo_172 (by decide +kernel), rfl⟩
theorem dX12_see_35 : Dc mX12_see 35 (.aload_n 0) 1 36 := ⟨zo_42 (by decide +kernel), rfl⟩
theorem dX12_see_36 : Dc mX12_see 36 (.getfield 150) 3 39 := ⟨zo_180 (w := 0) (x := 150) (by decide +kernel), rfl⟩
theorem dX12_see_39 : Dc mX12_see 39 (.aload_n 0) 1 40 := ⟨zo_42 (by decide +kernel), rfl⟩
theorem dX12_see_40 : Dc mX12_see 40 (.getfield 328) 3 43 := ⟨zo_180 (w := 1) (x := 72) (by decide +kernel), rfl⟩
theorem dX12_see_43 : Dc mX12_see 43 (.iload_n 1) 1 44 := ⟨zo_27 (by decide +kernel), rfl⟩
theorem dX12_see_44 : Dc mX12_see 44 (.iastore) 1 45 := ⟨zo_79 (by decide +kernel), rfl⟩
theorem dX12_see_45 : Dc mX12_see 45 (.aload_n 0) 1 46 := ⟨zo_42 (by decide +kernel), rfl⟩
theorem dX12_see_46 : Dc mX12_see 46 (.getfield 153) 3 49 := ⟨zo_180 (w := 0) (x := 153) (by decide +kernel), rfl⟩
theorem dX12_see_49 : Dc mX12_see 49 (.aload_n 0) 1 50 := ⟨zo_42 (by decide +kernel), rfl⟩
theorem dX12_see_50 : Dc mX12_see 50 (.getfield 328) 3 53 := ⟨zo_180 (w := 1) (x := 72) (by decide +kernel), rfl⟩
theorem dX12_see_53 : Dc mX12_see 53 (.iload_n 2) 1 54 := ⟨zo_28 (by decide +kernel), rfl⟩
theorem dX12_see_54 : Dc mX12_see 54 (.iastore) 1 55 := ⟨zo_79 (by decide +kernel), rfl⟩
theorem dX12_see_55 : Dc mX12_see 55 (.aload_n 0) 1 56 := ⟨zo_42 (by decide +kernel), rfl⟩
theorem dX12_see_56 : Dc mX12_see 56 (.getfield 156) 3 59 := ⟨zo_180 (w := 0) (x := 156) (by decide +kernel), rfl⟩
theorem dX12_see_59 : Dc mX12_see 59 (.aload_n 0) 1 60 := ⟨zo_42 (by decide +kernel), rfl⟩
theorem dX12_see_60 : Dc mX12_see 60 (.getfield 328) 3 63 := ⟨zo_180 (w := 1) (x := 72) (by decide +kernel), rfl⟩
theorem dX12_see_63 : Dc mX12_see 63 (.iload_n 3) 1 64 := ⟨zo_29 (by decide +kernel), rfl⟩
theorem dX12_see_64 : Dc mX12_see 64 (.bastore) 1 65 := ⟨zo_84 (by decide +kernel), rfl⟩
theorem dX12_see_65 : Dc mX12_see 65 (.aload_n 0) 1 66 := ⟨zo_42 (by decide +kernel), rfl⟩
theorem dX12_see_66 : Dc mX12_see 66 (.getfield 160) 3 69 := ⟨zo_180 (w := 0) (x := 160) (by decide +kernel), rfl⟩
theorem dX12_see_69 : Dc mX12_see 69 (.aload_n 0) 1 70 := ⟨zo_42 (by decide +kernel), rfl⟩
theorem dX12_see_70 : Dc mX12_see 70 (.getfield 328) 3 73 := ⟨zo_180 (w := 1) (x := 72) (by decide +kernel), rfl⟩
theorem dX12_see_73 : Dc mX12_see 73 (.iconst (-1)) 1 74 := ⟨zo_2 (by decide +kernel), rfl⟩
theorem dX12_see_74 : Dc mX12_see 74 (.iastore) 1 75 := ⟨zo_79 (by decide +kernel), rfl⟩
theorem dX12_see_75 : Dc mX12_see 75 (.aload_n 0) 1 76 := ⟨zo_42 (by decide +kernel), rfl⟩
theorem dX12_see_76 : Dc mX12_see 76 (.dup) 1 77 := ⟨zo_89 (by decide +kernel), rfl⟩
theorem dX12_see_77 : Dc mX12_see 77 (.getfield 328) 3 80 := ⟨zo_180 (w := 1) (x := 72) (by decide +kernel), rfl⟩
theorem dX12_see_80 : Dc mX12_see 80 (.iconst 1) 1 81 := ⟨zo_4 (by decide +kernel), rfl⟩
theorem dX12_see_81 : Dc mX12_see 81 (.iadd) 1 82 := ⟨zo_96 (by decide +kernel), rfl⟩
theorem dX12_see_82 : Dc mX12_see 82 (.putfield 328) 3 85 := ⟨zo_181 (w := 1) (x := 72) (by decide +kernel), rfl⟩
theorem dX12_see_85 : Dc mX12_see 85 (.aload_n 0) 1 86 := ⟨zo_42 (by decide +kernel), rfl⟩
theorem dX12_see_86 : Dc mX12_see 86 (.getfield 328) 3 89 := ⟨zo_180 (w := 1) (x := 72) (by decide +kernel), rfl⟩
theorem dX12_see_89 : Dc mX12_see 89 (.iconst 1) 1 90 := ⟨zo_4 (by decide +kernel), rfl⟩
theorem dX12_see_90 : Dc mX12_see 90 (.isub) 1 91 := ⟨zo_100 (by decide +kernel), rfl⟩
theorem dX12_see_91 : Dc mX12_see 91 (.ireturn) 1 92 := ⟨zo_172 (by decide +kernel), rfl⟩
theorem dX12_out_0 : Dc mX12_out 0 (.aload_n 0) 1 1 := ⟨zo_42 (by decide +kernel), rfl⟩
theorem dX12_out_1 : Dc mX12_out 1 (.iconst 0) 1 2 := ⟨zo_3 (by decide +kernel), rfl⟩
theorem dX12_out_2 : Dc mX12_out 2 (.putfield 169) 3 5 := ⟨zo_181 (w := 0) (x := 169) (by decide +kernel), rfl⟩
theorem dX12_out_5 : Dc mX12_out 5 (.iload_n 1) 1 6 := ⟨zo_27 (by decide +kernel), rfl⟩
theorem dX12_out_6 : Dc mX12_out 6 (.ifCond .lt 20) 3 9 := ⟨zo_155 (w := 0) (x := 20) (by decide +kernel), rfl⟩
theorem dX12_out_9 : Dc mX12_out 9 (.iload_n 1) 1 10 := ⟨zo_27 (by decide +kernel), rfl⟩
theorem dX12_out_10 : Dc mX12_out 10 (.aload_n 0) 1 11 := ⟨zo_42 (by decide +kernel), rfl⟩
theorem dX12_out_11 : Dc mX12_out 11 (.getfield 328) 3 14 := ⟨zo_180 (w := 1) (x := 72) (by decide +kernel), rfl⟩
theorem dX12_out_14 : Dc mX12_out 14 (.if_icmp .ge 12) 3 17 := ⟨zo_162 (w := 0) (x := 12) (by decide +kernel), rfl⟩
theorem dX12_out_17 : Dc mX12_out 17 (.aload_n 0) 1 18 := ⟨zo_42 (by decide +kernel), rfl⟩
theorem dX12_out_18 : Dc mX12_out 18 (.getfield 328) 3 21 := ⟨zo_180 (w := 1) (x := 72) (by decide +kernel), rfl⟩
theorem dX12_out_21 : Dc mX12_out 21 (.bipush 24) 2 23 := ⟨zo_16 (w := 24) (by decide +kernel), rfl⟩
theorem dX12_out_23 : Dc mX12_out 23 (.if_icmp .ne 5) 3 26 := ⟨zo_160 (w := 0) (x := 5) (by decide +kernel), rfl⟩
theorem dX12_out_26 : Dc mX12_out 26 (.iconst (-1)) 1 27 := ⟨zo_2 (by decide +kernel), rfl⟩
theorem dX12_out_27 : Dc mX12_out 27 (.ireturn) 1 28 := ⟨zo_172 (by decide +kernel), rfl⟩
theorem dX12_out_28 : Dc mX12_out 28 (.aload_n 0) 1 29 := ⟨zo_42 (by decide +kernel), rfl⟩
theorem dX12_out_29 : Dc mX12_out 29 (.getfield 160) 3 32 := ⟨zo_180 (w := 0) (x := 160) (by decide +kernel), rfl⟩
theorem dX12_out_32 : Dc mX12_out 32 (.aload_n 0) 1 33 := ⟨zo_42 (by decide +kernel), rfl⟩
theorem dX12_out_33 : Dc mX12_out 33 (.getfield 328) 3 36 := ⟨zo_180 (w := 1) (x := 72) (by decide +kernel), rfl⟩
theorem dX12_out_36 : Dc mX12_out 36 (.iload_n 1) 1 37 := ⟨zo_27 (by decide +kernel), rfl⟩
theorem dX12_out_37 : Dc mX12_out 37 (.iastore) 1 38 := ⟨zo_79 (by decide +kernel), rfl⟩
theorem dX12_out_38 : Dc mX12_out 38 (.aload_n 0) 1 39 := ⟨zo_42 (by decide +kernel), rfl⟩
theorem dX12_out_39 : Dc mX12_out 39 (.dup) 1 40 := ⟨zo_89 (by decide +kernel), rfl⟩
theorem dX12_out_40 : Dc mX12_out 40 (.getfield 328) 3 43 := ⟨zo_180 (w := 1) (x := 72) (by decide +kernel), rfl⟩
theorem dX12_out_43 : Dc mX12_out 43 (.iconst 1) 1 44 := ⟨zo_4 (by decide +kernel), rfl⟩
theorem dX12_out_44 : Dc mX12_out 44 (.iadd) 1 45 := ⟨zo_96 (by decide +kernel), rfl⟩
theorem dX12_out_45 : Dc mX12_out 45 (.putfield 328) 3 48 := ⟨zo_181 (w := 1) (x := 72) (by decide +kernel), rfl⟩
theorem dX12_out_48 : Dc mX12_out 48 (.aload_n 0) 1 49 := ⟨zo_42 (by decide +kernel), rfl⟩
theorem dX12_out_49 : Dc mX12_out 49 (.getfield 328) 3 52 := ⟨zo_180 (w := 1) (x := 72) (by decide +kernel), rfl⟩
theorem dX12_out_52 : Dc mX12_out 52 (.iconst 1) 1 53 := ⟨zo_4 (by decide +kernel), rfl⟩
theorem dX12_out_53 : Dc mX12_out 53 (.isub) 1 54 := ⟨zo_100 (by decide +kernel), rfl⟩
theorem dX12_out_54 : Dc mX12_out 54 (.ireturn) 1 55 := ⟨zo_172 (by decide +kernel), rfl⟩
theorem dX12_known_0 : Dc mX12_known 0 (.aload_n 0) 1 1 := ⟨zo_42 (by decide +kernel), rfl⟩
theorem dX12_known_1 : Dc mX12_known 1 (.iconst 0) 1 2 := ⟨zo_3 (by decide +kernel), rfl⟩
theorem dX12_known_2 : Dc mX12_known 2 (.putfield 169) 3 5 := ⟨zo_181 (w := 0) (x := 169) (by decide +kernel), rfl⟩
theorem dX12_known_5 : Dc mX12_known 5 (.iload_n 1) 1 6 := ⟨zo_27 (by decide +kernel), rfl⟩
theorem dX12_known_6 : Dc mX12_known 6 (.iconst (-1)) 1 7 := ⟨zo_2 (by decide +kernel), rfl⟩
theorem dX12_known_7 : Dc mX12_known 7 (.if_icmp .lt 11) 3 10 := ⟨zo_161 (w := 0) (x := 11) (by decide +kernel), rfl⟩
theorem dX12_known_10 : Dc mX12_known 10 (.iload_n 1) 1 11 := ⟨zo_27 (by decide +kernel), rfl⟩
theorem dX12_known_11 : Dc mX12_known 11 (.aload_n 0) 1 12 := ⟨zo_42 (by decide +kernel), rfl⟩
theorem dX12_known_12 : Dc mX12_known 12 (.getfield 328) 3 15 := ⟨zo_180 (w := 1) (x := 72) (by decide +kernel), rfl⟩
theorem dX12_known_15 : Dc mX12_known 15 (.if_icmp .le 5) 3 18 := ⟨zo_164 (w := 0) (x := 5) (by decide +kernel), rfl⟩
theorem dX12_known_18 : Dc mX12_known 18 (.iconst 0) 1 19 := ⟨zo_3 (by decide +kernel), rfl⟩
theorem dX12_known_19 : Dc mX12_known 19 (.ireturn) 1 20 := ⟨zo_172 (by decide +kernel), rfl⟩
theorem dX12_known_20 : Dc mX12_known 20 (.aload_n 0) 1 21 := ⟨zo_42 (by decide +kernel), rfl⟩
theorem dX12_known_21 : Dc mX12_known 21 (.iload_n 1) 1 22 := ⟨zo_27 (by decide +kernel), rfl⟩
theorem dX12_known_22 : Dc mX12_known 22 (.putfield 147) 3 25 := ⟨zo_181 (w := 0) (x := 147) (by decide +kernel), rfl⟩
theorem dX12_known_25 : Dc mX12_known 25 (.iconst 1) 1 26 := ⟨zo_4 (by decide +kernel), rfl⟩
theorem dX12_known_26 : Dc mX12_known 26 (.ireturn) 1 27 := ⟨zo_172 (by decide +kernel), rfl⟩
theorem dX12_knownMany_0 : Dc mX12_knownMany 0 (.aload_n 0) 1 1 := ⟨zo_42 (by decide +kernel), rfl⟩
theorem dX12_knownMany_1 : Dc mX12_knownMany 1 (.getfield 147) 3 4 := ⟨zo_180 (w := 0) (x := 147) (by decide +kernel), rfl⟩
theorem dX12_knownMany_4 : Dc mX12_knownMany 4 (.iconst (-1)) 1 5 := ⟨zo_2 (by decide +kernel), rfl⟩
theorem dX12_knownMany_5 : Dc mX12_knownMany 5 (.if_icmp .ne 10) 3 8 := ⟨zo_160 (w := 0) (x := 10) (by decide +kernel), rfl⟩
theorem dX12_knownMany_8 : Dc mX12_knownMany 8 (.aload_n 0) 1 9 := ⟨zo_42 (by decide +kernel), rfl⟩
theorem dX12_knownMany_9 : Dc mX12_knownMany 9 (.getfield 328) 3 12 := ⟨zo_180 (w := 1) (x := 72) (by decide +kernel), rfl⟩
theorem dX12_knownMany_12 : Dc mX12_knownMany 12 (.goto 7) 3 15 := ⟨zo_167 (w := 0) (x := 7) (by decide +kernel), rfl⟩
theorem dX12_knownMany_15 : Dc mX12_knownMany 15 (.aload_n 0) 1 16 := ⟨zo_42 (by decide +kernel), rfl⟩
theorem dX12_knownMany_16 : Dc mX12_knownMany 16 (.getfield 147) 3 19 := ⟨zo_180 (w := 0) (x := 147) (by decide +kernel), rfl⟩
theorem dX12_knownMany_19 : Dc mX12_knownMany 19 (.ireturn) 1 20 := ⟨zo_172 (by decide +kernel), rfl⟩
theorem dX12_fits_0 : Dc mX12_fits 0 (.iconst 0) 1 1 := ⟨zo_3 (by decide +kernel), rfl⟩
theorem dX12_fits_1 : Dc mX12_fits 1 (.istore_n 2) 1 2 := ⟨zo_61 (by decide +kernel), rfl⟩
theorem dX12_fits_2 : Dc mX12_fits 2 (.iload_n 2) 1 3 := ⟨zo_28 (by decide +kernel), rfl⟩
theorem dX12_fits_3 : Dc mX12_fits 3 (.aload_n 0) 1 4 := ⟨zo_42 (by decide +kernel), rfl⟩
theorem dX12_fits_4 : Dc mX12_fits 4 (.invokevirtual 530) 3 7 := ⟨zo_182 (w := 2) (x := 18) (by decide +kernel), rfl⟩
theorem dX12_fits_7 : Dc mX12_fits 7 (.if_icmp .ge 75) 3 10 := ⟨zo_162 (w := 0) (x := 75) (by decide +kernel), rfl⟩
theorem dX12_fits_10 : Dc mX12_fits 10 (.aload_n 0) 1 11 := ⟨zo_42 (by decide +kernel), rfl⟩
theorem dX12_fits_11 : Dc mX12_fits 11 (.getfield 163) 3 14 := ⟨zo_180 (w := 0) (x := 163) (by decide +kernel), rfl⟩
theorem dX12_fits_14 : Dc mX12_fits 14 (.iload_n 2) 1 15 := ⟨zo_28 (by decide +kernel), rfl⟩
theorem dX12_fits_15 : Dc mX12_fits 15 (.baload) 1 16 := ⟨zo_51 (by decide +kernel), rfl⟩
theorem dX12_fits_16 : Dc mX12_fits 16 (.ifCond .ne 60) 3 19 := ⟨zo_154 (w := 0) (x := 60) (by decide +kernel), rfl⟩
theorem dX12_fits_19 : Dc mX12_fits 19 (.aload_n 0) 1 20 := ⟨zo_42 (by decide +kernel), rfl⟩
theorem dX12_fits_20 : Dc mX12_fits 20 (.getfield 160) 3 23 := ⟨zo_180 (w := 0) (x := 160) (by decide +kernel), rfl⟩
theorem dX12_fits_23 : Dc mX12_fits 23 (.iload_n 2) 1 24 := ⟨zo_28 (by decide +kernel), rfl⟩
theorem dX12_fits_24 : Dc mX12_fits 24 (.iaload) 1 25 := ⟨zo_46 (by decide +kernel), rfl⟩
theorem dX12_fits_25 : Dc mX12_fits 25 (.iconst (-1)) 1 26 := ⟨zo_2 (by decide +kernel), rfl⟩
theorem dX12_fits_26 : Dc mX12_fits 26 (.if_icmp .ne 50) 3 29 := ⟨zo_160 (w := 0) (x := 50) (by decide +kernel), rfl⟩
theorem dX12_fits_29 : Dc mX12_fits 29 (.aload_n 0) 1 30 := ⟨zo_42 (by decide +kernel), rfl⟩
theorem dX12_fits_30 : Dc mX12_fits 30 (.getfield 150) 3 33 := ⟨zo_180 (w := 0) (x := 150) (by decide +kernel), rfl⟩
theorem dX12_fits_33 : Dc mX12_fits 33 (.iload_n 2) 1 34 := ⟨zo_28 (by decide +kernel), rfl⟩
theorem dX12_fits_34 : Dc mX12_fits 34 (.iaload) 1 35 := ⟨zo_46 (by decide +kernel), rfl⟩
theorem dX12_fits_35 : Dc mX12_fits 35 (.iload_n 1) 1 36 := ⟨zo_27 (by decide +kernel), rfl⟩
theorem dX12_fits_36 : Dc mX12_fits 36 (.if_icmp .eq 6) 3 39 := ⟨zo_159 (w := 0) (x := 6) (by decide +kernel), rfl⟩
theorem dX12_fits_39 : Dc mX12_fits 39 (.goto 37) 3 42 := ⟨zo_167 (w := 0) (x := 37) (by decide +kernel), rfl⟩
theorem dX12_fits_42 : Dc mX12_fits 42 (.aload_n 0) 1 43 := ⟨zo_42 (by decide +kernel), rfl⟩
theorem dX12_fits_43 : Dc mX12_fits 43 (.getfield 102) 3 46 := ⟨zo_180 (w := 0) (x := 102) (by decide +kernel), rfl⟩
theorem dX12_fits_46 : Dc mX12_fits 46 (.bipush 6) 2 48 := ⟨zo_16 (w := 6) (by decide +kernel), rfl⟩
theorem dX12_fits_48 : Dc mX12_fits 48 (.aload_n 0) 1 49 := ⟨zo_42 (by decide +kernel), rfl⟩
theorem dX12_fits_49 : Dc mX12_fits 49 (.getfield 153) 3 52 := ⟨zo_180 (w := 0) (x := 153) (by decide +kernel), rfl⟩
theorem dX12_fits_52 : Dc mX12_fits 52 (.iload_n 2) 1 53 := ⟨zo_28 (by decide +kernel), rfl⟩
theorem dX12_fits_53 : Dc mX12_fits 53 (.iaload) 1 54 := ⟨zo_46 (by decide +kernel), rfl⟩
theorem dX12_fits_54 : Dc mX12_fits 54 (.iadd) 1 55 := ⟨zo_96 (by decide +kernel), rfl⟩
theorem dX12_fits_55 : Dc mX12_fits 55 (.iaload) 1 56 := ⟨zo_46 (by decide +kernel), rfl⟩
theorem dX12_fits_56 : Dc mX12_fits 56 (.iconst (-1)) 1 57 := ⟨zo_2 (by decide +kernel), rfl⟩
theorem dX12_fits_57 : Dc mX12_fits 57 (.if_icmp .eq 7) 3 60 := ⟨zo_159 (w := 0) (x := 7) (by decide +kernel), rfl⟩
theorem dX12_fits_60 : Dc mX12_fits 60 (.iconst 1) 1 61 := ⟨zo_4 (by decide +kernel), rfl⟩
theorem dX12_fits_61 : Dc mX12_fits 61 (.goto 4) 3 64 := ⟨zo_167 (w := 0) (x := 4) (by decide +kernel), rfl⟩
theorem dX12_fits_64 : Dc mX12_fits 64 (.iconst 0) 1 65 := ⟨zo_3 (by decide +kernel), rfl⟩
theorem dX12_fits_65 : Dc mX12_fits 65 (.aload_n 0) 1 66 := ⟨zo_42 (by decide +kernel), rfl⟩
theorem dX12_fits_66 : Dc mX12_fits 66 (.getfield 156) 3 69 := ⟨zo_180 (w := 0) (x := 156) (by decide +kernel), rfl⟩
theorem dX12_fits_69 : Dc mX12_fits 69 (.iload_n 2) 1 70 := ⟨zo_28 (by decide +kernel), rfl⟩
theorem dX12_fits_70 : Dc mX12_fits 70 (.baload) 1 71 := ⟨zo_51 (by decide +kernel), rfl⟩
theorem dX12_fits_71 : Dc mX12_fits 71 (.if_icmp .eq 5) 3 74 := ⟨zo_159 (w := 0) (x := 5) (by decide +kernel), rfl⟩
theorem dX12_fits_74 : Dc mX12_fits 74 (.iconst 0) 1 75 := ⟨zo_3 (by decide +kernel), rfl⟩
theorem dX12_fits_75 : Dc mX12_fits 75 (.ireturn) 1 76 := ⟨zo_172 (by decide +kernel), rfl⟩
theorem dX12_fits_76 : Dc mX12_fits 76 (.iinc 2 1) 3 79 := ⟨zo_iinc (x := 1) (by decide +kernel), rfl⟩
theorem dX12_fits_79 : Dc mX12_fits 79 (.goto (-77)) 3 82 := ⟨zo_167 (w := 255) (x := 179) (by decide +kernel), rfl⟩
theorem dX12_fits_82 : Dc mX12_fits 82 (.iconst 1) 1 83 := ⟨zo_4 (by decide +kernel), rfl⟩
theorem dX12_fits_83 : Dc mX12_fits 83 (.ireturn) 1 84 := ⟨zo_172 (by decide +kernel), rfl⟩
theorem dX12_fitsStrike_0 : Dc mX12_fitsStrike 0 (.aload_n 0) 1 1 := ⟨zo_42 (by decide +kernel), rfl⟩
theorem dX12_fitsStrike_1 : Dc mX12_fitsStrike 1 (.iconst 1) 1 2 := ⟨zo_4 (by decide +kernel), rfl⟩
theorem dX12_fitsStrike_2 : Dc mX12_fitsStrike 2 (.invokevirtual 358) 3 5 := ⟨zo_182 (w := 1) (x := 102) (by decide +kernel), rfl⟩
theorem dX12_fitsStrike_5 : Dc mX12_fitsStrike 5 (.iconst 1) 1 6 := ⟨zo_4 (by decide +kernel), rfl⟩
theorem dX12_fitsStrike_6 : Dc mX12_fitsStrike 6 (.istore_n 2) 1 7 := ⟨zo_61 (by decide +kernel), rfl⟩
theorem dX12_fitsStrike_7 : Dc mX12_fitsStrike 7 (.iload_n 2) 1 8 := ⟨zo_28 (by decide +kernel), rfl⟩
theorem dX12_fitsStrike_8 : Dc mX12_fitsStrike 8 (.iload_n 1) 1 9 := ⟨zo_27 (by decide +kernel), rfl⟩
theorem dX12_fitsStrike_9 : Dc mX12_fitsStrike 9 (.if_icmp .gt 25) 3 12 := ⟨zo_163 (w := 0) (x := 25) (by decide +kernel), rfl⟩
theorem dX12_fitsStrike_12 : Dc mX12_fitsStrike 12 (.aload_n 0) 1 13 := ⟨zo_42 (by decide +kernel), rfl⟩
theorem dX12_fitsStrike_13 : Dc mX12_fitsStrike 13 (.iconst 1) 1 14 := ⟨zo_4 (by decide +kernel), rfl⟩
theorem dX12_fitsStrike_14 : Dc mX12_fitsStrike 14 (.iconst 0) 1 15 := ⟨zo_3 (by decide +kernel), rfl⟩
theorem dX12_fitsStrike_15 : Dc mX12_fitsStrike 15 (.invokevirtual 440) 3 18 := ⟨zo_182 (w := 1) (x := 184) (by decide +kernel), rfl⟩
theorem dX12_fitsStrike_18 : Dc mX12_fitsStrike 18 (.aload_n 0) 1 19 := ⟨zo_42 (by decide +kernel), rfl⟩
theorem dX12_fitsStrike_19 : Dc mX12_fitsStrike 19 (.iload_n 2) 1 20 := ⟨zo_28 (by decide +kernel), rfl⟩
theorem dX12_fitsStrike_20 : Dc mX12_fitsStrike 20 (.invokevirtual 533) 3 23 := ⟨zo_182 (w := 2) (x := 21) (by decide +kernel), rfl⟩
theorem dX12_fitsStrike_23 : Dc mX12_fitsStrike 23 (.ifCond .ne 5) 3 26 := ⟨zo_154 (w := 0) (x := 5) (by decide +kernel), rfl⟩
theorem dX12_fitsStrike_26 : Dc mX12_fitsStrike 26 (.iconst 0) 1 27 := ⟨zo_3 (by decide +kernel), rfl⟩
theorem dX12_fitsStrike_27 : Dc mX12_fitsStrike 27 (.ireturn) 1 28 := ⟨zo_172 (by decide +kernel), rfl⟩
theorem dX12_fitsStrike_28 : Dc mX12_fitsStrike 28 (.iinc 2 1) 3 31 := ⟨zo_iinc (x := 1) (by decide +kernel), rfl⟩
theorem dX12_fitsStrike_31 : Dc mX12_fitsStrike 31 (.goto (-24)) 3 34 := ⟨zo_167 (w := 255) (x := 232) (by decide +kernel), rfl⟩
theorem dX12_fitsStrike_34 : Dc mX12_fitsStrike 34 (.iconst 1) 1 35 := ⟨zo_4 (by decide +kernel), rfl⟩
theorem dX12_fitsStrike_35 : Dc mX12_fitsStrike 35 (.ireturn) 1 36 := ⟨zo_172 (by decide +kernel), rfl⟩
theorem dX12_struckHow_0 : Dc mX12_struckHow 0 (.aload_n 0) 1 1 := ⟨zo_42 (by decide +kernel), rfl⟩
theorem dX12_struckHow_1 : Dc mX12_struckHow 1 (.iconst 0) 1 2 := ⟨zo_3 (by decide +kernel), rfl⟩
theorem dX12_struckHow_2 : Dc mX12_struckHow 2 (.putfield 169) 3 5 := ⟨zo_181 (w := 0) (x := 169) (by decide +kernel), rfl⟩
theorem dX12_struckHow_5 : Dc mX12_struckHow 5 (.aload_n 0) 1 6 := ⟨zo_42 (by decide +kernel), rfl⟩
theorem dX12_struckHow_6 : Dc mX12_struckHow 6 (.iload_n 1) 1 7 := ⟨zo_27 (by decide +kernel), rfl⟩
theorem dX12_struckHow_7 : Dc mX12_struckHow 7 (.invokevirtual 450) 3 10 := ⟨zo_182 (w := 1) (x := 194) (by decide +kernel), rfl⟩
theorem dX12_struckHow_10 : Dc mX12_struckHow 10 (.ifCond .ne 5) 3 13 := ⟨zo_154 (w := 0) (x := 5) (by decide +kernel), rfl⟩
theorem dX12_struckHow_13 : Dc mX12_struckHow 13 (.iconst (-1)) 1 14 := ⟨zo_2 (by decide +kernel), rfl⟩
theorem dX12_struckHow_14 : Dc mX12_struckHow 14 (.ireturn) 1 15 := ⟨zo_172 (by decide +kernel), rfl⟩
theorem dX12_struckHow_15 : Dc mX12_struckHow 15 (.iconst 0) 1 16 := ⟨zo_3 (by decide +kernel), rfl⟩
theorem dX12_struckHow_16 : Dc mX12_struckHow 16 (.istore_n 2) 1 17 := ⟨zo_61 (by decide +kernel), rfl⟩
theorem dX12_struckHow_17 : Dc mX12_struckHow 17 (.iconst 0) 1 18 := ⟨zo_3 (by decide +kernel), rfl⟩
theorem dX12_struckHow_18 : Dc mX12_struckHow 18 (.istore_n 3) 1 19 := ⟨zo_62 (by decide +kernel), rfl⟩
theorem dX12_struckHow_19 : Dc mX12_struckHow 19 (.iload_n 3) 1 20 := ⟨zo_29 (by decide +kernel), rfl⟩
theorem dX12_struckHow_20 : Dc mX12_struckHow 20 (.aload_n 0) 1 21 := ⟨zo_42 (by decide +kernel), rfl⟩
theorem dX12_struckHow_21 : Dc mX12_struckHow 21 (.invokevirtual 530) 3 24 := ⟨zo_182 (w := 2) (x := 18) (by decide +kernel), rfl⟩
theorem dX12_struckHow_24 : Dc mX12_struckHow 24 (.if_icmp .ge 16) 3 27 := ⟨zo_162 (w := 0) (x := 16) (by decide +kernel), rfl⟩
theorem dX12_struckHow_27 : Dc mX12_struckHow 27 (.aload_n 0) 1 28 := ⟨zo_42 (by decide +kernel), rfl⟩
theorem dX12_struckHow_28 : Dc mX12_struckHow 28 (.getfield 163) 3 31 := ⟨zo_180 (w := 0) (x := 163) (by decide +kernel), rfl⟩
theorem dX12_struckHow_31 : Dc mX12_struckHow 31 (.iload_n 3) 1 32 := ⟨zo_29 (by decide +kernel), rfl⟩
theorem dX12_struckHow_32 : Dc mX12_struckHow 32 (.iconst 0) 1 33 := ⟨zo_3 (by decide +kernel), rfl⟩
theorem dX12_struckHow_33 : Dc mX12_struckHow 33 (.bastore) 1 34 := ⟨zo_84 (by decide +kernel), rfl⟩
theorem dX12_struckHow_34 : Dc mX12_struckHow 34 (.iinc 3 1) 3 37 := ⟨zo_iinc (x := 1) (by decide +kernel), rfl⟩
theorem dX12_struckHow_37 : Dc mX12_struckHow 37 (.goto (-18)) 3 40 := ⟨zo_167 (w := 255) (x := 238) (by decide +kernel), rfl⟩
theorem dX12_struckHow_40 : Dc mX12_struckHow 40 (.aload_n 0) 1 41 := ⟨zo_42 (by decide +kernel), rfl⟩
theorem dX12_struckHow_41 : Dc mX12_struckHow 41 (.invokevirtual 530) 3 44 := ⟨zo_182 (w := 2) (x := 18) (by decide +kernel), rfl⟩
theorem dX12_struckHow_44 : Dc mX12_struckHow 44 (.iconst 1) 1 45 := ⟨zo_4 (by decide +kernel), rfl⟩
theorem dX12_struckHow_45 : Dc mX12_struckHow 45 (.isub) 1 46 := ⟨zo_100 (by decide +kernel), rfl⟩
theorem dX12_struckHow_46 : Dc mX12_struckHow 46 (.istore_n 3) 1 47 := ⟨zo_62 (by decide +kernel), rfl⟩
theorem dX12_struckHow_47 : Dc mX12_struckHow 47 (.iload_n 3) 1 48 := ⟨zo_29 (by decide +kernel), rfl⟩
theorem dX12_struckHow_48 : Dc mX12_struckHow 48 (.ifCond .lt 40) 3 51 := ⟨zo_155 (w := 0) (x := 40) (by decide +kernel), rfl⟩
theorem dX12_struckHow_51 : Dc mX12_struckHow 51 (.aload_n 0) 1 52 := ⟨zo_42 (by decide +kernel), rfl⟩
theorem dX12_struckHow_52 : Dc mX12_struckHow 52 (.getfield 163) 3 55 := ⟨zo_180 (w := 0) (x := 163) (by decide +kernel), rfl⟩
theorem dX12_struckHow_55 : Dc mX12_struckHow 55 (.iload_n 3) 1 56 := ⟨zo_29 (by decide +kernel), rfl⟩
theorem dX12_struckHow_56 : Dc mX12_struckHow 56 (.baload) 1 57 := ⟨zo_51 (by decide +kernel), rfl⟩
theorem dX12_struckHow_57 : Dc mX12_struckHow 57 (.ifCond .ne 25) 3 60 := ⟨zo_154 (w := 0) (x := 25) (by decide +kernel), rfl⟩
theorem dX12_struckHow_60 : Dc mX12_struckHow 60 (.aload_n 0) 1 61 := ⟨zo_42 (by decide +kernel), rfl⟩
theorem dX12_struckHow_61 : Dc mX12_struckHow 61 (.getfield 160) 3 64 := ⟨zo_180 (w := 0) (x := 160) (by decide +kernel), rfl⟩
theorem dX12_struckHow_64 : Dc mX12_struckHow 64 (.iload_n 3) 1 65 := ⟨zo_29 (by decide +kernel), rfl⟩
theorem dX12_struckHow_65 : Dc mX12_struckHow 65 (.iaload) 1 66 := ⟨zo_46 (by decide +kernel), rfl⟩
theorem dX12_struckHow_66 : Dc mX12_struckHow 66 (.iconst (-1)) 1 67 := ⟨zo_2 (by decide +kernel), rfl⟩
theorem dX12_struckHow_67 : Dc mX12_struckHow 67 (.if_icmp .eq 15) 3 70 := ⟨zo_159 (w := 0) (x := 15) (by decide +kernel), rfl⟩
theorem dX12_struckHow_70 : Dc mX12_struckHow 70 (.aload_n 0) 1 71 := ⟨zo_42 (by decide +kernel), rfl⟩
theorem dX12_struckHow_71 : Dc mX12_struckHow 71 (.getfield 163) 3 74 := ⟨zo_180 (w := 0) (x := 163) (by decide +kernel), rfl⟩
theorem dX12_struckHow_74 : Dc mX12_struckHow 74 (.aload_n 0) 1 75 := ⟨zo_42 (by decide +kernel), rfl⟩
theorem dX12_struckHow_75 : Dc mX12_struckHow 75 (.getfield 160) 3 78 := ⟨zo_180 (w := 0) (x := 160) (by decide +kernel), rfl⟩
theorem dX12_struckHow_78 : Dc mX12_struckHow 78 (.iload_n 3) 1 79 := ⟨zo_29 (by decide +kernel), rfl⟩
theorem dX12_struckHow_79 : Dc mX12_struckHow 79 (.iaload) 1 80 := ⟨zo_46 (by decide +kernel), rfl⟩
theorem dX12_struckHow_80 : Dc mX12_struckHow 80 (.iconst 1) 1 81 := ⟨zo_4 (by decide +kernel), rfl⟩
theorem dX12_struckHow_81 : Dc mX12_struckHow 81 (.bastore) 1 82 := ⟨zo_84 (by decide +kernel), rfl⟩
theorem dX12_struckHow_82 : Dc mX12_struckHow 82 (.iinc 3 (-1)) 3 85 := ⟨zo_iinc (x := 255) (by decide +kernel), rfl⟩
theorem dX12_struckHow_85 : Dc mX12_struckHow 85 (.goto (-38)) 3 88 := ⟨zo_167 (w := 255) (x := 218) (by decide +kernel), rfl⟩
theorem dX12_struckHow_88 : Dc mX12_struckHow 88 (.iconst 0) 1 89 := ⟨zo_3 (by decide +kernel), rfl⟩
theorem dX12_struckHow_89 : Dc mX12_struckHow 89 (.istore_n 3) 1 90 := ⟨zo_62 (by decide +kernel), rfl⟩
theorem dX12_struckHow_90 : Dc mX12_struckHow 90 (.iload_n 3) 1 91 := ⟨zo_29 (by decide +kernel), rfl⟩
theorem dX12_struckHow_91 : Dc mX12_struckHow 91 (.aload_n 0) 1 92 := ⟨zo_42 (by decide +kernel), rfl⟩
theorem dX12_struckHow_92 : Dc mX12_struckHow 92 (.invokevirtual 530) 3 95 := ⟨zo_182 (w := 2) (x := 18) (by decide +kernel), rfl⟩
theorem dX12_struckHow_95 : Dc mX12_struckHow 95 (.if_icmp .ge 39) 3 98 := ⟨zo_162 (w := 0) (x := 39) (by decide +kernel), rfl⟩
theorem dX12_struckHow_98 : Dc mX12_struckHow 98 (.aload_n 0) 1 99 := ⟨zo_42 (by decide +kernel), rfl⟩
theorem dX12_struckHow_99 : Dc mX12_struckHow 99 (.getfield 163) 3 102 := ⟨zo_180 (w := 0) (x := 163) (by decide +kernel), rfl⟩
theorem dX12_struckHow_102 : Dc mX12_struckHow 102 (.iload_n 3) 1 103 := ⟨zo_29 (by decide +kernel), rfl⟩
theorem dX12_struckHow_103 : Dc mX12_struckHow 103 (.baload) 1 104 := ⟨zo_51 (by decide +kernel), rfl⟩
theorem dX12_struckHow_104 : Dc mX12_struckHow 104 (.ifCond .ne 24) 3 107 := ⟨zo_154 (w := 0) (x := 24) (by decide +kernel), rfl⟩
theorem dX12_struckHow_107 : Dc mX12_struckHow 107 (.aload_n 0) 1 108 := ⟨zo_42 (by decide +kernel), rfl⟩
theorem dX12_struckHow_108 : Dc mX12_struckHow 108 (.getfield 160) 3 111 := ⟨zo_180 (w := 0) (x := 160) (by decide +kernel), rfl⟩
theorem dX12_struckHow_111 : Dc mX12_struckHow 111 (.iload_n 3) 1 112 := ⟨zo_29 (by decide +kernel), rfl⟩
theorem dX12_struckHow_112 : Dc mX12_struckHow 112 (.iaload) 1 113 := ⟨zo_46 (by decide +kernel), rfl⟩
theorem dX12_struckHow_113 : Dc mX12_struckHow 113 (.iconst (-1)) 1 114 := ⟨zo_2 (by decide +kernel), rfl⟩
theorem dX12_struckHow_114 : Dc mX12_struckHow 114 (.if_icmp .ne 14) 3 117 := ⟨zo_160 (w := 0) (x := 14) (by decide +kernel), rfl⟩
theorem dX12_struckHow_117 : Dc mX12_struckHow 117 (.iload_n 2) 1 118 := ⟨zo_28 (by decide +kernel), rfl⟩
theorem dX12_struckHow_118 : Dc mX12_struckHow 118 (.aload_n 0) 1 119 := ⟨zo_42 (by decide +kernel), rfl⟩
theorem dX12_struckHow_119 : Dc mX12_struckHow 119 (.getfield 150) 3 122 := ⟨zo_180 (w := 0) (x := 150) (by decide +kernel), rfl⟩
theorem dX12_struckHow_122 : Dc mX12_struckHow 122 (.iload_n 3) 1 123 := ⟨zo_29 (by decide +kernel), rfl⟩
theorem dX12_struckHow_123 : Dc mX12_struckHow 123 (.iaload) 1 124 := ⟨zo_46 (by decide +kernel), rfl⟩
theorem dX12_struckHow_124 : Dc mX12_struckHow 124 (.invokestatic 528) 3 127 := ⟨zo_184 (w := 2) (x := 16) (by decide +kernel), rfl⟩
theorem dX12_struckHow_127 : Dc mX12_struckHow 127 (.istore_n 2) 1 128 := ⟨zo_61 (by decide +kernel), rfl⟩
theorem dX12_struckHow_128 : Dc mX12_struckHow 128 (.iinc 3 1) 3 131 := ⟨zo_iinc (x := 1) (by decide +kernel), rfl⟩
theorem dX12_struckHow_131 : Dc mX12_struckHow 131 (.goto (-41)) 3 134 := ⟨zo_167 (w := 255) (x := 215) (by decide +kernel), rfl⟩
theorem dX12_struckHow_134 : Dc mX12_struckHow 134 (.iconst 0) 1 135 := ⟨zo_3 (by decide +kernel), rfl⟩
theorem dX12_struckHow_135 : Dc mX12_struckHow 135 (.istore_n 3) 1 136 := ⟨zo_62 (by decide +kernel), rfl⟩
theorem dX12_struckHow_136 : Dc mX12_struckHow 136 (.aload_n 0) 1 137 := ⟨zo_42 (by decide +kernel), rfl⟩
theorem dX12_struckHow_137 : Dc mX12_struckHow 137 (.iload_n 1) 1 138 := ⟨zo_27 (by decide +kernel), rfl⟩
theorem dX12_struckHow_138 : Dc mX12_struckHow 138 (.putfield 129) 3 141 := ⟨zo_181 (w := 0) (x := 129) (by decide +kernel), rfl⟩
theorem dX12_struckHow_141 : Dc mX12_struckHow 141 (.iconst 0) 1 142 := ⟨zo_3 (by decide +kernel), rfl⟩
theorem dX12_struckHow_142 : Dc mX12_struckHow 142 (.istore 4) 2 144 := ⟨zo_54 (by decide +kernel), rfl⟩
theorem dX12_struckHow_144 : Dc mX12_struckHow 144 (.iload 4) 2 146 := ⟨zo_21 (by decide +kernel), rfl⟩
theorem dX12_struckHow_146 : Dc mX12_struckHow 146 (.bipush 10) 2 148 := ⟨zo_16 (w := 10) (by decide +kernel), rfl⟩
theorem dX12_struckHow_148 : Dc mX12_struckHow 148 (.if_icmp .ge 37) 3 151 := ⟨zo_162 (w := 0) (x := 37) (by decide +kernel), rfl⟩
theorem dX12_struckHow_151 : Dc mX12_struckHow 151 (.aload_n 0) 1 152 := ⟨zo_42 (by decide +kernel), rfl⟩
theorem dX12_struckHow_152 : Dc mX12_struckHow 152 (.bipush 10) 2 154 := ⟨zo_16 (w := 10) (by decide +kernel), rfl⟩
theorem dX12_struckHow_154 : Dc mX12_struckHow 154 (.iload 4) 2 156 := ⟨zo_21 (by decide +kernel), rfl⟩
theorem dX12_struckHow_156 : Dc mX12_struckHow 156 (.imul) 1 157 := ⟨zo_104 (by decide +kernel), rfl⟩
theorem dX12_struckHow_157 : Dc mX12_struckHow 157 (.putfield 364) 3 160 := ⟨zo_181 (w := 1) (x := 108) (by decide +kernel), rfl⟩
theorem dX12_struckHow_160 : Dc mX12_struckHow 160 (.iload_n 3) 1 161 := ⟨zo_29 (by decide +kernel), rfl⟩
theorem dX12_struckHow_161 : Dc mX12_struckHow 161 (.aload_n 0) 1 162 := ⟨zo_42 (by decide +kernel), rfl⟩
theorem dX12_struckHow_162 : Dc mX12_struckHow 162 (.iload_n 2) 1 163 := ⟨zo_28 (by decide +kernel), rfl⟩
theorem dX12_struckHow_163 : Dc mX12_struckHow 163 (.invokevirtual 536) 3 166 := ⟨zo_182 (w := 2) (x := 24) (by decide +kernel), rfl⟩
theorem dX12_struckHow_166 : Dc mX12_struckHow 166 (.ifCond .eq 10) 3 169 := ⟨zo_153 (w := 0) (x := 10) (by decide +kernel), rfl⟩
theorem dX12_struckHow_169 : Dc mX12_struckHow 169 (.iconst 1) 1 170 := ⟨zo_4 (by decide +kernel), rfl⟩
theorem dX12_struckHow_170 : Dc mX12_struckHow 170 (.iload 4) 2 172 := ⟨zo_21 (by decide +kernel), rfl⟩
theorem dX12_struckHow_172 : Dc mX12_struckHow 172 (.ishl) 1 173 := ⟨zo_120 (by decide +kernel), rfl⟩
theorem dX12_struckHow_173 : Dc mX12_struckHow 173 (.goto 4) 3 176 := ⟨zo_167 (w := 0) (x := 4) (by decide +kernel), rfl⟩
theorem dX12_struckHow_176 : Dc mX12_struckHow 176 (.iconst 0) 1 177 := ⟨zo_3 (by decide +kernel), rfl⟩
theorem dX12_struckHow_177 : Dc mX12_struckHow 177 (.ior) 1 178 := ⟨zo_128 (by decide +kernel), rfl⟩
theorem dX12_struckHow_178 : Dc mX12_struckHow 178 (.istore_n 3) 1 179 := ⟨zo_62 (by decide +kernel), rfl⟩
theorem dX12_struckHow_179 : Dc mX12_struckHow 179 (.iinc 4 1) 3 182 := ⟨zo_iinc (x := 1) (by decide +kernel), rfl⟩
theorem dX12_struckHow_182 : Dc mX12_struckHow 182 (.goto (-38)) 3 185 := ⟨zo_167 (w := 255) (x := 218) (by decide +kernel), rfl⟩
theorem dX12_struckHow_185 : Dc mX12_struckHow 185 (.aload_n 0) 1 186 := ⟨zo_42 (by decide +kernel), rfl⟩
theorem dX12_struckHow_186 : Dc mX12_struckHow 186 (.iconst (-1)) 1 187 := ⟨zo_2 (by decide +kernel), rfl⟩
theorem dX12_struckHow_187 : Dc mX12_struckHow 187 (.putfield 129) 3 190 := ⟨zo_181 (w := 0) (x := 129) (by decide +kernel), rfl⟩
theorem dX12_struckHow_190 : Dc mX12_struckHow 190 (.iload_n 3) 1 191 := ⟨zo_29 (by decide +kernel), rfl⟩
theorem dX12_struckHow_191 : Dc mX12_struckHow 191 (.ireturn) 1 192 := ⟨zo_172 (by decide +kernel), rfl⟩
theorem dX12_chance_0 : Dc mX12_chance 0 (.aload_n 0) 1 1 := ⟨zo_42 (by decide +kernel), rfl⟩
theorem dX12_chance_1 : Dc mX12_chance 1 (.iconst 0) 1 2 := ⟨zo_3 (by decide +kernel), rfl⟩
theorem dX12_chance_2 : Dc mX12_chance 2 (.putfield 169) 3 5 := ⟨zo_181 (w := 0) (x := 169) (by decide +kernel), rfl⟩
theorem dX12_chance_5 : Dc mX12_chance 5 (.iload_n 1) 1 6 := ⟨zo_27 (by decide +kernel), rfl⟩
theorem dX12_chance_6 : Dc mX12_chance 6 (.ifCond .lt 24) 3 9 := ⟨zo_155 (w := 0) (x := 24) (by decide +kernel), rfl⟩
theorem dX12_chance_9 : Dc mX12_chance 9 (.iload_n 2) 1 10 := ⟨zo_28 (by decide +kernel), rfl⟩
theorem dX12_chance_10 : Dc mX12_chance 10 (.iconst 1) 1 11 := ⟨zo_4 (by decide +kernel), rfl⟩
theorem dX12_chance_11 : Dc mX12_chance 11 (.if_icmp .lt 19) 3 14 := ⟨zo_161 (w := 0) (x := 19) (by decide +kernel), rfl⟩
theorem dX12_chance_14 : Dc mX12_chance 14 (.iload_n 2) 1 15 := ⟨zo_28 (by decide +kernel), rfl⟩
theorem dX12_chance_15 : Dc mX12_chance 15 (.bipush 99) 2 17 := ⟨zo_16 (w := 99) (by decide +kernel), rfl⟩
theorem dX12_chance_17 : Dc mX12_chance 17 (.if_icmp .gt 13) 3 20 := ⟨zo_163 (w := 0) (x := 13) (by decide +kernel), rfl⟩
theorem dX12_chance_20 : Dc mX12_chance 20 (.iload_n 3) 1 21 := ⟨zo_29 (by decide +kernel), rfl⟩
theorem dX12_chance_21 : Dc mX12_chance 21 (.ifCond .lt 9) 3 24 := ⟨zo_155 (w := 0) (x := 9) (by decide +kernel), rfl⟩
theorem dX12_chance_24 : Dc mX12_chance 24 (.iload_n 3) 1 25 := ⟨zo_29 (by decide +kernel), rfl⟩
theorem dX12_chance_25 : Dc mX12_chance 25 (.bipush 20) 2 27 := ⟨zo_16 (w := 20) (by decide +kernel), rfl⟩
theorem dX12_chance_27 : Dc mX12_chance 27 (.if_icmp .le 5) 3 30 := ⟨zo_164 (w := 0) (x := 5) (by decide +kernel), rfl⟩
theorem dX12_chance_30 : Dc mX12_chance 30 (.iconst (-1)) 1 31 := ⟨zo_2 (by decide +kernel), rfl⟩
theorem dX12_chance_31 : Dc mX12_chance 31 (.ireturn) 1 32 := ⟨zo_172 (by decide +kernel), rfl⟩
theorem dX12_chance_32 : Dc mX12_chance 32 (.iload_n 1) 1 33 := ⟨zo_27 (by decide +kernel), rfl⟩
theorem dX12_chance_33 : Dc mX12_chance 33 (.istore 4) 2 35 := ⟨zo_54 (by decide +kernel), rfl⟩
theorem dX12_chance_35 : Dc mX12_chance 35 (.iconst 0) 1 36 := ⟨zo_3 (by decide +kernel), rfl⟩
theorem dX12_chance_36 : Dc mX12_chance 36 (.istore 5) 2 38 := ⟨zo_54 (by decide +kernel), rfl⟩
theorem dX12_chance_38 : Dc mX12_chance 38 (.iconst 0) 1 39 := ⟨zo_3 (by decide +kernel), rfl⟩
theorem dX12_chance_39 : Dc mX12_chance 39 (.istore 6) 2 41 := ⟨zo_54 (by decide +kernel), rfl⟩
theorem dX12_chance_41 : Dc mX12_chance 41 (.iload 6) 2 43 := ⟨zo_21 (by decide +kernel), rfl⟩
theorem dX12_chance_43 : Dc mX12_chance 43 (.bipush 10) 2 45 := ⟨zo_16 (w := 10) (by decide +kernel), rfl⟩
theorem dX12_chance_45 : Dc mX12_chance 45 (.if_icmp .ge 71) 3 48 := ⟨zo_162 (w := 0) (x := 71) (by decide +kernel), rfl⟩
theorem dX12_chance_48 : Dc mX12_chance 48 (.aload_n 0) 1 49 := ⟨zo_42 (by decide +kernel), rfl⟩
theorem dX12_chance_49 : Dc mX12_chance 49 (.iconst 1) 1 50 := ⟨zo_4 (by decide +kernel), rfl⟩
theorem dX12_chance_50 : Dc mX12_chance 50 (.iconst 0) 1 51 := ⟨zo_3 (by decide +kernel), rfl⟩
theorem dX12_chance_51 : Dc mX12_chance 51 (.invokevirtual 444) 3 54 := ⟨zo_182 (w := 1) (x := 188) (by decide +kernel), rfl⟩
theorem dX12_chance_54 : Dc mX12_chance 54 (.aload_n 0) 1 55 := ⟨zo_42 (by decide +kernel), rfl⟩
theorem dX12_chance_55 : Dc mX12_chance 55 (.getfield 87) 3 58 := ⟨zo_180 (w := 0) (x := 87) (by decide +kernel), rfl⟩
theorem dX12_chance_58 : Dc mX12_chance 58 (.iconst 1) 1 59 := ⟨zo_4 (by decide +kernel), rfl⟩
theorem dX12_chance_59 : Dc mX12_chance 59 (.iload 4) 2 61 := ⟨zo_21 (by decide +kernel), rfl⟩
theorem dX12_chance_61 : Dc mX12_chance 61 (.iastore) 1 62 := ⟨zo_79 (by decide +kernel), rfl⟩
theorem dX12_chance_62 : Dc mX12_chance 62 (.iconst 0) 1 63 := ⟨zo_3 (by decide +kernel), rfl⟩
theorem dX12_chance_63 : Dc mX12_chance 63 (.istore 7) 2 65 := ⟨zo_54 (by decide +kernel), rfl⟩
theorem dX12_chance_65 : Dc mX12_chance 65 (.iload 7) 2 67 := ⟨zo_21 (by decide +kernel), rfl⟩
theorem dX12_chance_67 : Dc mX12_chance 67 (.iload_n 2) 1 68 := ⟨zo_28 (by decide +kernel), rfl⟩
theorem dX12_chance_68 : Dc mX12_chance 68 (.if_icmp .ge 15) 3 71 := ⟨zo_162 (w := 0) (x := 15) (by decide +kernel), rfl⟩
theorem dX12_chance_71 : Dc mX12_chance 71 (.aload_n 0) 1 72 := ⟨zo_42 (by decide +kernel), rfl⟩
theorem dX12_chance_72 : Dc mX12_chance 72 (.iconst 1) 1 73 := ⟨zo_4 (by decide +kernel), rfl⟩
theorem dX12_chance_73 : Dc mX12_chance 73 (.iconst 1) 1 74 := ⟨zo_4 (by decide +kernel), rfl⟩
theorem dX12_chance_74 : Dc mX12_chance 74 (.invokevirtual 440) 3 77 := ⟨zo_182 (w := 1) (x := 184) (by decide +kernel), rfl⟩
theorem dX12_chance_77 : Dc mX12_chance 77 (.iinc 7 1) 3 80 := ⟨zo_iinc (x := 1) (by decide +kernel), rfl⟩
theorem dX12_chance_80 : Dc mX12_chance 80 (.goto (-15)) 3 83 := ⟨zo_167 (w := 255) (x := 241) (by decide +kernel), rfl⟩
theorem dX12_chance_83 : Dc mX12_chance 83 (.aload_n 0) 1 84 := ⟨zo_42 (by decide +kernel), rfl⟩
theorem dX12_chance_84 : Dc mX12_chance 84 (.getfield 87) 3 87 := ⟨zo_180 (w := 0) (x := 87) (by decide +kernel), rfl⟩
theorem dX12_chance_87 : Dc mX12_chance 87 (.iconst 1) 1 88 := ⟨zo_4 (by decide +kernel), rfl⟩
theorem dX12_chance_88 : Dc mX12_chance 88 (.iaload) 1 89 := ⟨zo_46 (by decide +kernel), rfl⟩
theorem dX12_chance_89 : Dc mX12_chance 89 (.istore 4) 2 91 := ⟨zo_54 (by decide +kernel), rfl⟩
theorem dX12_chance_91 : Dc mX12_chance 91 (.iload 5) 2 93 := ⟨zo_21 (by decide +kernel), rfl⟩
theorem dX12_chance_93 : Dc mX12_chance 93 (.aload_n 0) 1 94 := ⟨zo_42 (by decide +kernel), rfl⟩
theorem dX12_chance_94 : Dc mX12_chance 94 (.iconst 1) 1 95 := ⟨zo_4 (by decide +kernel), rfl⟩
theorem dX12_chance_95 : Dc mX12_chance 95 (.invokevirtual 473) 3 98 := ⟨zo_182 (w := 1) (x := 217) (by decide +kernel), rfl⟩
theorem dX12_chance_98 : Dc mX12_chance 98 (.iload_n 3) 1 99 := ⟨zo_29 (by decide +kernel), rfl⟩
theorem dX12_chance_99 : Dc mX12_chance 99 (.if_icmp .lt 7) 3 102 := ⟨zo_161 (w := 0) (x := 7) (by decide +kernel), rfl⟩
theorem dX12_chance_102 : Dc mX12_chance 102 (.iconst 1) 1 103 := ⟨zo_4 (by decide +kernel), rfl⟩
theorem dX12_chance_103 : Dc mX12_chance 103 (.goto 4) 3 106 := ⟨zo_167 (w := 0) (x := 4) (by decide +kernel), rfl⟩
theorem dX12_chance_106 : Dc mX12_chance 106 (.iconst 0) 1 107 := ⟨zo_3 (by decide +kernel), rfl⟩
theorem dX12_chance_107 : Dc mX12_chance 107 (.iadd) 1 108 := ⟨zo_96 (by decide +kernel), rfl⟩
theorem dX12_chance_108 : Dc mX12_chance 108 (.istore 5) 2 110 := ⟨zo_54 (by decide +kernel), rfl⟩
theorem dX12_chance_110 : Dc mX12_chance 110 (.iinc 6 1) 3 113 := ⟨zo_iinc (x := 1) (by decide +kernel), rfl⟩
theorem dX12_chance_113 : Dc mX12_chance 113 (.goto (-72)) 3 116 := ⟨zo_167 (w := 255) (x := 184) (by decide +kernel), rfl⟩
theorem dX12_chance_116 : Dc mX12_chance 116 (.iload 5) 2 118 := ⟨zo_21 (by decide +kernel), rfl⟩
theorem dX12_chance_118 : Dc mX12_chance 118 (.ireturn) 1 119 := ⟨zo_172 (by decide +kernel), rfl⟩
theorem dX12_tried_0 : Dc mX12_tried 0 (.aload_n 0) 1 1 := ⟨zo_42 (by decide +kernel), rfl⟩
theorem dX12_tried_1 : Dc mX12_tried 1 (.iconst 0) 1 2 := ⟨zo_3 (by decide +kernel), rfl⟩
theorem dX12_tried_2 : Dc mX12_tried 2 (.putfield 169) 3 5 := ⟨zo_181 (w := 0) (x := 169) (by decide +kernel), rfl⟩
theorem dX12_tried_5 : Dc mX12_tried 5 (.iload_n 1) 1 6 := ⟨zo_27 (by decide +kernel), rfl⟩
theorem dX12_tried_6 : Dc mX12_tried 6 (.iconst 2) 1 7 := ⟨zo_5 (by decide +kernel), rfl⟩
theorem dX12_tried_7 : Dc mX12_tried 7 (.if_icmp .ne 11) 3 10 := ⟨zo_160 (w := 0) (x := 11) (by decide +kernel), rfl⟩
theorem dX12_tried_10 : Dc mX12_tried 10 (.aload_n 0) 1 11 := ⟨zo_42 (by decide +kernel), rfl⟩
theorem dX12_tried_11 : Dc mX12_tried 11 (.iload_n 2) 1 12 := ⟨zo_28 (by decide +kernel), rfl⟩
theorem dX12_tried_12 : Dc mX12_tried 12 (.invokevirtual 456) 3 15 := ⟨zo_182 (w := 1) (x := 200) (by decide +kernel), rfl⟩
theorem dX12_tried_15 : Dc mX12_tried 15 (.goto 21) 3 18 := ⟨zo_167 (w := 0) (x := 21) (by decide +kernel), rfl⟩
theorem dX12_tried_18 : Dc mX12_tried 18 (.iload_n 1) 1 19 := ⟨zo_27 (by decide +kernel), rfl⟩
theorem dX12_tried_19 : Dc mX12_tried 19 (.ifCond .lt 16) 3 22 := ⟨zo_155 (w := 0) (x := 16) (by decide +kernel), rfl⟩
theorem dX12_tried_22 : Dc mX12_tried 22 (.iload_n 1) 1 23 := ⟨zo_27 (by decide +kernel), rfl⟩
theorem dX12_tried_23 : Dc mX12_tried 23 (.iconst 5) 1 24 := ⟨zo_8 (by decide +kernel), rfl⟩
theorem dX12_tried_24 : Dc mX12_tried 24 (.if_icmp .gt 11) 3 27 := ⟨zo_163 (w := 0) (x := 11) (by decide +kernel), rfl⟩
theorem dX12_tried_27 : Dc mX12_tried 27 (.iload_n 2) 1 28 := ⟨zo_28 (by decide +kernel), rfl⟩
theorem dX12_tried_28 : Dc mX12_tried 28 (.ifCond .ne 7) 3 31 := ⟨zo_154 (w := 0) (x := 7) (by decide +kernel), rfl⟩
theorem dX12_tried_31 : Dc mX12_tried 31 (.iconst 1) 1 32 := ⟨zo_4 (by decide +kernel), rfl⟩
theorem dX12_tried_32 : Dc mX12_tried 32 (.goto 4) 3 35 := ⟨zo_167 (w := 0) (x := 4) (by decide +kernel), rfl⟩
theorem dX12_tried_35 : Dc mX12_tried 35 (.iconst 0) 1 36 := ⟨zo_3 (by decide +kernel), rfl⟩
theorem dX12_tried_36 : Dc mX12_tried 36 (.istore 4) 2 38 := ⟨zo_54 (by decide +kernel), rfl⟩
theorem dX12_tried_38 : Dc mX12_tried 38 (.iload 4) 2 40 := ⟨zo_21 (by decide +kernel), rfl⟩
theorem dX12_tried_40 : Dc mX12_tried 40 (.ifCond .eq 13) 3 43 := ⟨zo_153 (w := 0) (x := 13) (by decide +kernel), rfl⟩
theorem dX12_tried_43 : Dc mX12_tried 43 (.iload_n 3) 1 44 := ⟨zo_29 (by decide +kernel), rfl⟩
theorem dX12_tried_44 : Dc mX12_tried 44 (.ifCond .lt 9) 3 47 := ⟨zo_155 (w := 0) (x := 9) (by decide +kernel), rfl⟩
theorem dX12_tried_47 : Dc mX12_tried 47 (.iload_n 3) 1 48 := ⟨zo_29 (by decide +kernel), rfl⟩
theorem dX12_tried_48 : Dc mX12_tried 48 (.bipush 99) 2 50 := ⟨zo_16 (w := 99) (by decide +kernel), rfl⟩
theorem dX12_tried_50 : Dc mX12_tried 50 (.if_icmp .le 5) 3 53 := ⟨zo_164 (w := 0) (x := 5) (by decide +kernel), rfl⟩
theorem dX12_tried_53 : Dc mX12_tried 53 (.iconst (-1)) 1 54 := ⟨zo_2 (by decide +kernel), rfl⟩
theorem dX12_tried_54 : Dc mX12_tried 54 (.ireturn) 1 55 := ⟨zo_172 (by decide +kernel), rfl⟩
theorem dX12_tried_55 : Dc mX12_tried 55 (.aload_n 0) 1 56 := ⟨zo_42 (by decide +kernel), rfl⟩
theorem dX12_tried_56 : Dc mX12_tried 56 (.iload_n 1) 1 57 := ⟨zo_27 (by decide +kernel), rfl⟩
theorem dX12_tried_57 : Dc mX12_tried 57 (.putfield 361) 3 60 := ⟨zo_181 (w := 1) (x := 105) (by decide +kernel), rfl⟩
theorem dX12_tried_60 : Dc mX12_tried 60 (.aload_n 0) 1 61 := ⟨zo_42 (by decide +kernel), rfl⟩
theorem dX12_tried_61 : Dc mX12_tried 61 (.iload_n 2) 1 62 := ⟨zo_28 (by decide +kernel), rfl⟩
theorem dX12_tried_62 : Dc mX12_tried 62 (.putfield 126) 3 65 := ⟨zo_181 (w := 0) (x := 126) (by decide +kernel), rfl⟩
theorem dX12_tried_65 : Dc mX12_tried 65 (.aload_n 0) 1 66 := ⟨zo_42 (by decide +kernel), rfl⟩
theorem dX12_tried_66 : Dc mX12_tried 66 (.iload_n 3) 1 67 := ⟨zo_29 (by decide +kernel), rfl⟩
theorem dX12_tried_67 : Dc mX12_tried 67 (.invokevirtual 466) 3 70 := ⟨zo_182 (w := 1) (x := 210) (by decide +kernel), rfl⟩
theorem dX12_tried_70 : Dc mX12_tried 70 (.aload_n 0) 1 71 := ⟨zo_42 (by decide +kernel), rfl⟩
theorem dX12_tried_71 : Dc mX12_tried 71 (.iconst 0) 1 72 := ⟨zo_3 (by decide +kernel), rfl⟩
theorem dX12_tried_72 : Dc mX12_tried 72 (.putfield 361) 3 75 := ⟨zo_181 (w := 1) (x := 105) (by decide +kernel), rfl⟩
theorem dX12_tried_75 : Dc mX12_tried 75 (.aload_n 0) 1 76 := ⟨zo_42 (by decide +kernel), rfl⟩
theorem dX12_tried_76 : Dc mX12_tried 76 (.iconst (-1)) 1 77 := ⟨zo_2 (by decide +kernel), rfl⟩
theorem dX12_tried_77 : Dc mX12_tried 77 (.putfield 126) 3 80 := ⟨zo_181 (w := 0) (x := 126) (by decide +kernel), rfl⟩
theorem dX12_tried_80 : Dc mX12_tried 80 (.aload_n 0) 1 81 := ⟨zo_42 (by decide +kernel), rfl⟩
theorem dX12_tried_81 : Dc mX12_tried 81 (.iconst 1) 1 82 := ⟨zo_4 (by decide +kernel), rfl⟩
theorem dX12_tried_82 : Dc mX12_tried 82 (.invokevirtual 473) 3 85 := ⟨zo_182 (w := 1) (x := 217) (by decide +kernel), rfl⟩
theorem dX12_tried_85 : Dc mX12_tried 85 (.ireturn) 1 86 := ⟨zo_172 (by decide +kernel), rfl⟩
theorem dX12_undo_0 : Dc mX12_undo 0 (.aload_n 0) 1 1 := ⟨zo_42 (by decide +kernel), rfl⟩
theorem dX12_undo_1 : Dc mX12_undo 1 (.iconst 0) 1 2 := ⟨zo_3 (by decide +kernel), rfl⟩
theorem dX12_undo_2 : Dc mX12_undo 2 (.putfield 169) 3 5 := ⟨zo_181 (w := 0) (x := 169) (by decide +kernel), rfl⟩
theorem dX12_undo_5 : Dc mX12_undo 5 (.aload_n 0) 1 6 := ⟨zo_42 (by decide +kernel), rfl⟩
theorem dX12_undo_6 : Dc mX12_undo 6 (.getfield 335) 3 9 := ⟨zo_180 (w := 1) (x := 79) (by decide +kernel), rfl⟩
theorem dX12_undo_9 : Dc mX12_undo 9 (.ifCond .ne 5) 3 12 := ⟨zo_154 (w := 0) (x := 5) (by decide +kernel), rfl⟩
theorem dX12_undo_12 : Dc mX12_undo 12 (.iconst (-1)) 1 13 := ⟨zo_2 (by decide +kernel), rfl⟩
theorem dX12_undo_13 : Dc mX12_undo 13 (.ireturn) 1 14 := ⟨zo_172 (by decide +kernel), rfl⟩
theorem dX12_undo_14 : Dc mX12_undo 14 (.aload_n 0) 1 15 := ⟨zo_42 (by decide +kernel), rfl⟩
theorem dX12_undo_15 : Dc mX12_undo 15 (.dup) 1 16 := ⟨zo_89 (by decide +kernel), rfl⟩
theorem dX12_undo_16 : Dc mX12_undo 16 (.getfield 335) 3 19 := ⟨zo_180 (w := 1) (x := 79) (by decide +kernel), rfl⟩
theorem dX12_undo_19 : Dc mX12_undo 19 (.iconst 1) 1 20 := ⟨zo_4 (by decide +kernel), rfl⟩
theorem dX12_undo_20 : Dc mX12_undo 20 (.isub) 1 21 := ⟨zo_100 (by decide +kernel), rfl⟩
theorem dX12_undo_21 : Dc mX12_undo 21 (.putfield 335) 3 24 := ⟨zo_181 (w := 1) (x := 79) (by decide +kernel), rfl⟩
theorem dX12_undo_24 : Dc mX12_undo 24 (.aload_n 0) 1 25 := ⟨zo_42 (by decide +kernel), rfl⟩
theorem dX12_undo_25 : Dc mX12_undo 25 (.iconst 0) 1 26 := ⟨zo_3 (by decide +kernel), rfl⟩
theorem dX12_undo_26 : Dc mX12_undo 26 (.iconst 3) 1 27 := ⟨zo_6 (by decide +kernel), rfl⟩
theorem dX12_undo_27 : Dc mX12_undo 27 (.aload_n 0) 1 28 := ⟨zo_42 (by decide +kernel), rfl⟩
theorem dX12_undo_28 : Dc mX12_undo 28 (.getfield 335) 3 31 := ⟨zo_180 (w := 1) (x := 79) (by decide +kernel), rfl⟩
theorem dX12_undo_31 : Dc mX12_undo 31 (.iadd) 1 32 := ⟨zo_96 (by decide +kernel), rfl⟩
theorem dX12_undo_32 : Dc mX12_undo 32 (.invokevirtual 444) 3 35 := ⟨zo_182 (w := 1) (x := 188) (by decide +kernel), rfl⟩
theorem dX12_undo_35 : Dc mX12_undo 35 (.aload_n 0) 1 36 := ⟨zo_42 (by decide +kernel), rfl⟩
theorem dX12_undo_36 : Dc mX12_undo 36 (.getfield 335) 3 39 := ⟨zo_180 (w := 1) (x := 79) (by decide +kernel), rfl⟩
theorem dX12_undo_39 : Dc mX12_undo 39 (.ireturn) 1 40 := ⟨zo_172 (by decide +kernel), rfl⟩
theorem dX12_keep_0 : Dc mX12_keep 0 (.aload_n 0) 1 1 := ⟨zo_42 (by decide +kernel), rfl⟩
theorem dX12_keep_1 : Dc mX12_keep 1 (.iconst 0) 1 2 := ⟨zo_3 (by decide +kernel), rfl⟩
theorem dX12_keep_2 : Dc mX12_keep 2 (.putfield 169) 3 5 := ⟨zo_181 (w := 0) (x := 169) (by decide +kernel), rfl⟩
theorem dX12_keep_5 : Dc mX12_keep 5 (.aload_n 0) 1 6 := ⟨zo_42 (by decide +kernel), rfl⟩
theorem dX12_keep_6 : Dc mX12_keep 6 (.iconst 2) 1 7 := ⟨zo_5 (by decide +kernel), rfl⟩
theorem dX12_keep_7 : Dc mX12_keep 7 (.iconst 0) 1 8 := ⟨zo_3 (by decide +kernel), rfl⟩
theorem dX12_keep_8 : Dc mX12_keep 8 (.invokevirtual 444) 3 11 := ⟨zo_182 (w := 1) (x := 188) (by decide +kernel), rfl⟩
theorem dX12_keep_11 : Dc mX12_keep 11 (.aload_n 0) 1 12 := ⟨zo_42 (by decide +kernel), rfl⟩
theorem dX12_keep_12 : Dc mX12_keep 12 (.iconst 1) 1 13 := ⟨zo_4 (by decide +kernel), rfl⟩
theorem dX12_keep_13 : Dc mX12_keep 13 (.putfield 331) 3 16 := ⟨zo_181 (w := 1) (x := 75) (by decide +kernel), rfl⟩
theorem dX12_keep_16 : Dc mX12_keep 16 (.aload_n 0) 1 17 := ⟨zo_42 (by decide +kernel), rfl⟩
theorem dX12_keep_17 : Dc mX12_keep 17 (.getfield 84) 3 20 := ⟨zo_180 (w := 0) (x := 84) (by decide +kernel), rfl⟩
theorem dX12_keep_20 : Dc mX12_keep 20 (.iconst 0) 1 21 := ⟨zo_3 (by decide +kernel), rfl⟩
theorem dX12_keep_21 : Dc mX12_keep 21 (.iaload) 1 22 := ⟨zo_46 (by decide +kernel), rfl⟩
theorem dX12_keep_22 : Dc mX12_keep 22 (.ireturn) 1 23 := ⟨zo_172 (by decide +kernel), rfl⟩
theorem dX12_back_0 : Dc mX12_back 0 (.aload_n 0) 1 1 := ⟨zo_42 (by decide +kernel), rfl⟩
theorem dX12_back_1 : Dc mX12_back 1 (.iconst 0) 1 2 := ⟨zo_3 (by decide +kernel), rfl⟩
theorem dX12_back_2 : Dc mX12_back 2 (.putfield 169) 3 5 := ⟨zo_181 (w := 0) (x := 169) (by decide +kernel), rfl⟩
theorem dX12_back_5 : Dc mX12_back 5 (.aload_n 0) 1 6 := ⟨zo_42 (by decide +kernel), rfl⟩
theorem dX12_back_6 : Dc mX12_back 6 (.getfield 331) 3 9 := ⟨zo_180 (w := 1) (x := 75) (by decide +kernel), rfl⟩
theorem dX12_back_9 : Dc mX12_back 9 (.ifCond .ne 5) 3 12 := ⟨zo_154 (w := 0) (x := 5) (by decide +kernel), rfl⟩
theorem dX12_back_12 : Dc mX12_back 12 (.iconst (-1)) 1 13 := ⟨zo_2 (by decide +kernel), rfl⟩
theorem dX12_back_13 : Dc mX12_back 13 (.ireturn) 1 14 := ⟨zo_172 (by decide +kernel), rfl⟩
theorem dX12_back_14 : Dc mX12_back 14 (.aload_n 0) 1 15 := ⟨zo_42 (by decide +kernel), rfl⟩
theorem dX12_back_15 : Dc mX12_back 15 (.iconst 0) 1 16 := ⟨zo_3 (by decide +kernel), rfl⟩
theorem dX12_back_16 : Dc mX12_back 16 (.iconst 2) 1 17 := ⟨zo_5 (by decide +kernel), rfl⟩
theorem dX12_back_17 : Dc mX12_back 17 (.invokevirtual 444) 3 20 := ⟨zo_182 (w := 1) (x := 188) (by decide +kernel), rfl⟩
theorem dX12_back_20 : Dc mX12_back 20 (.aload_n 0) 1 21 := ⟨zo_42 (by decide +kernel), rfl⟩
theorem dX12_back_21 : Dc mX12_back 21 (.iconst 0) 1 22 := ⟨zo_3 (by decide +kernel), rfl⟩
theorem dX12_back_22 : Dc mX12_back 22 (.putfield 335) 3 25 := ⟨zo_181 (w := 1) (x := 79) (by decide +kernel), rfl⟩
theorem dX12_back_25 : Dc mX12_back 25 (.aload_n 0) 1 26 := ⟨zo_42 (by decide +kernel), rfl⟩
theorem dX12_back_26 : Dc mX12_back 26 (.getfield 84) 3 29 := ⟨zo_180 (w := 0) (x := 84) (by decide +kernel), rfl⟩
theorem dX12_back_29 : Dc mX12_back 29 (.iconst 0) 1 30 := ⟨zo_3 (by decide +kernel), rfl⟩
theorem dX12_back_30 : Dc mX12_back 30 (.iaload) 1 31 := ⟨zo_46 (by decide +kernel), rfl⟩
theorem dX12_back_31 : Dc mX12_back 31 (.ireturn) 1 32 := ⟨zo_172 (by decide +kernel), rfl⟩
theorem dX12_count_0 : Dc mX12_count 0 (.aload_n 0) 1 1 := ⟨zo_42 (by decide +kernel), rfl⟩
theorem dX12_count_1 : Dc mX12_count 1 (.iconst 0) 1 2 := ⟨zo_3 (by decide +kernel), rfl⟩
theorem dX12_count_2 : Dc mX12_count 2 (.putfield 169) 3 5 := ⟨zo_181 (w := 0) (x := 169) (by decide +kernel), rfl⟩
theorem dX12_count_5 : Dc mX12_count 5 (.iload_n 1) 1 6 := ⟨zo_27 (by decide +kernel), rfl⟩
theorem dX12_count_6 : Dc mX12_count 6 (.tableswitch 179 0 14 #[74, 81, 88, 95, 102, 110, 117, 127, 134, 144, 151, 157, 164, 169, 174]) 74 80 := ⟨by decide +kernel, rfl⟩
theorem dX12_count_80 : Dc mX12_count 80 (.aload_n 0) 1 81 := ⟨zo_42 (by decide +kernel), rfl⟩
theorem dX12_count_81 : Dc mX12_count 81 (.getfield 13) 3 84 := ⟨zo_180 (w := 0) (x := 13) (by decide +kernel), rfl⟩
theorem dX12_count_84 : Dc mX12_count 84 (.iconst 0) 1 85 := ⟨zo_3 (by decide +kernel), rfl⟩
theorem dX12_count_85 : Dc mX12_count 85 (.iaload) 1 86 := ⟨zo_46 (by decide +kernel), rfl⟩
theorem dX12_count_86 : Dc mX12_count 86 (.ireturn) 1 87 := ⟨zo_172 (by decide +kernel), rfl⟩
theorem dX12_count_87 : Dc mX12_count 87 (.aload_n 0) 1 88 := ⟨zo_42 (by decide +kernel), rfl⟩
theorem dX12_count_88 : Dc mX12_count 88 (.getfield 13) 3 91 := ⟨zo_180 (w := 0) (x := 13) (by decide +kernel), rfl⟩
theorem dX12_count_91 : Dc mX12_count 91 (.iconst 1) 1 92 := ⟨zo_4 (by decide +kernel), rfl⟩
theorem dX12_count_92 : Dc mX12_count 92 (.iaload) 1 93 := ⟨zo_46 (by decide +kernel), rfl⟩
theorem dX12_count_93 : Dc mX12_count 93 (.ireturn) 1 94 := ⟨zo_172 (by decide +kernel), rfl⟩
theorem dX12_count_94 : Dc mX12_count 94 (.aload_n 0) 1 95 := ⟨zo_42 (by decide +kernel), rfl⟩
theorem dX12_count_95 : Dc mX12_count 95 (.getfield 13) 3 98 := ⟨zo_180 (w := 0) (x := 13) (by decide +kernel), rfl⟩
theorem dX12_count_98 : Dc mX12_count 98 (.iconst 3) 1 99 := ⟨zo_6 (by decide +kernel), rfl⟩
theorem dX12_count_99 : Dc mX12_count 99 (.iaload) 1 100 := ⟨zo_46 (by decide +kernel), rfl⟩
theorem dX12_count_100 : Dc mX12_count 100 (.ireturn) 1 101 := ⟨zo_172 (by decide +kernel), rfl⟩
theorem dX12_count_101 : Dc mX12_count 101 (.aload_n 0) 1 102 := ⟨zo_42 (by decide +kernel), rfl⟩
theorem dX12_count_102 : Dc mX12_count 102 (.getfield 13) 3 105 := ⟨zo_180 (w := 0) (x := 13) (by decide +kernel), rfl⟩
theorem dX12_count_105 : Dc mX12_count 105 (.iconst 4) 1 106 := ⟨zo_7 (by decide +kernel), rfl⟩
theorem dX12_count_106 : Dc mX12_count 106 (.iaload) 1 107 := ⟨zo_46 (by decide +kernel), rfl⟩
theorem dX12_count_107 : Dc mX12_count 107 (.ireturn) 1 108 := ⟨zo_172 (by decide +kernel), rfl⟩
theorem dX12_count_108 : Dc mX12_count 108 (.aload_n 0) 1 109 := ⟨zo_42 (by decide +kernel), rfl⟩
theorem dX12_count_109 : Dc mX12_count 109 (.getfield 13) 3 112 := ⟨zo_180 (w := 0) (x := 13) (by decide +kernel), rfl⟩
theorem dX12_count_112 : Dc mX12_count 112 (.bipush 9) 2 114 := ⟨zo_16 (w := 9) (by decide +kernel), rfl⟩
theorem dX12_count_114 : Dc mX12_count 114 (.iaload) 1 115 := ⟨zo_46 (by decide +kernel), rfl⟩
theorem dX12_count_115 : Dc mX12_count 115 (.ireturn) 1 116 := ⟨zo_172 (by decide +kernel), rfl⟩
theorem dX12_count_116 : Dc mX12_count 116 (.aload_n 0) 1 117 := ⟨zo_42 (by decide +kernel), rfl⟩
theorem dX12_count_117 : Dc mX12_count 117 (.getfield 84) 3 120 := ⟨zo_180 (w := 0) (x := 84) (by decide +kernel), rfl⟩
theorem dX12_count_120 : Dc mX12_count 120 (.iconst 0) 1 121 := ⟨zo_3 (by decide +kernel), rfl⟩
theorem dX12_count_121 : Dc mX12_count 121 (.iaload) 1 122 := ⟨zo_46 (by decide +kernel), rfl⟩
theorem dX12_count_122 : Dc mX12_count 122 (.ireturn) 1 123 := ⟨zo_172 (by decide +kernel), rfl⟩
theorem dX12_count_123 : Dc mX12_count 123 (.aload_n 0) 1 124 := ⟨zo_42 (by decide +kernel), rfl⟩
theorem dX12_count_124 : Dc mX12_count 124 (.aload_n 0) 1 125 := ⟨zo_42 (by decide +kernel), rfl⟩
theorem dX12_count_125 : Dc mX12_count 125 (.getfield 111) 3 128 := ⟨zo_180 (w := 0) (x := 111) (by decide +kernel), rfl⟩
theorem dX12_count_128 : Dc mX12_count 128 (.iconst 0) 1 129 := ⟨zo_3 (by decide +kernel), rfl⟩
theorem dX12_count_129 : Dc mX12_count 129 (.invokevirtual 469) 3 132 := ⟨zo_182 (w := 1) (x := 213) (by decide +kernel), rfl⟩
theorem dX12_count_132 : Dc mX12_count 132 (.ireturn) 1 133 := ⟨zo_172 (by decide +kernel), rfl⟩
theorem dX12_count_133 : Dc mX12_count 133 (.aload_n 0) 1 134 := ⟨zo_42 (by decide +kernel), rfl⟩
theorem dX12_count_134 : Dc mX12_count 134 (.getfield 93) 3 137 := ⟨zo_180 (w := 0) (x := 93) (by decide +kernel), rfl⟩
theorem dX12_count_137 : Dc mX12_count 137 (.iconst 0) 1 138 := ⟨zo_3 (by decide +kernel), rfl⟩
theorem dX12_count_138 : Dc mX12_count 138 (.iaload) 1 139 := ⟨zo_46 (by decide +kernel), rfl⟩
theorem dX12_count_139 : Dc mX12_count 139 (.ireturn) 1 140 := ⟨zo_172 (by decide +kernel), rfl⟩
theorem dX12_count_140 : Dc mX12_count 140 (.aload_n 0) 1 141 := ⟨zo_42 (by decide +kernel), rfl⟩
theorem dX12_count_141 : Dc mX12_count 141 (.aload_n 0) 1 142 := ⟨zo_42 (by decide +kernel), rfl⟩
theorem dX12_count_142 : Dc mX12_count 142 (.getfield 114) 3 145 := ⟨zo_180 (w := 0) (x := 114) (by decide +kernel), rfl⟩
theorem dX12_count_145 : Dc mX12_count 145 (.iconst 0) 1 146 := ⟨zo_3 (by decide +kernel), rfl⟩
theorem dX12_count_146 : Dc mX12_count 146 (.invokevirtual 469) 3 149 := ⟨zo_182 (w := 1) (x := 213) (by decide +kernel), rfl⟩
theorem dX12_count_149 : Dc mX12_count 149 (.ireturn) 1 150 := ⟨zo_172 (by decide +kernel), rfl⟩
theorem dX12_count_150 : Dc mX12_count 150 (.aload_n 0) 1 151 := ⟨zo_42 (by decide +kernel), rfl⟩
theorem dX12_count_151 : Dc mX12_count 151 (.getfield 90) 3 154 := ⟨zo_180 (w := 0) (x := 90) (by decide +kernel), rfl⟩
theorem dX12_count_154 : Dc mX12_count 154 (.iconst 0) 1 155 := ⟨zo_3 (by decide +kernel), rfl⟩
theorem dX12_count_155 : Dc mX12_count 155 (.iaload) 1 156 := ⟨zo_46 (by decide +kernel), rfl⟩
theorem dX12_count_156 : Dc mX12_count 156 (.ireturn) 1 157 := ⟨zo_172 (by decide +kernel), rfl⟩
theorem dX12_count_157 : Dc mX12_count 157 (.aload_n 0) 1 158 := ⟨zo_42 (by decide +kernel), rfl⟩
theorem dX12_count_158 : Dc mX12_count 158 (.iconst 0) 1 159 := ⟨zo_3 (by decide +kernel), rfl⟩
theorem dX12_count_159 : Dc mX12_count 159 (.invokevirtual 473) 3 162 := ⟨zo_182 (w := 1) (x := 217) (by decide +kernel), rfl⟩
theorem dX12_count_162 : Dc mX12_count 162 (.ireturn) 1 163 := ⟨zo_172 (by decide +kernel), rfl⟩
theorem dX12_count_163 : Dc mX12_count 163 (.aload_n 0) 1 164 := ⟨zo_42 (by decide +kernel), rfl⟩
theorem dX12_count_164 : Dc mX12_count 164 (.getfield 99) 3 167 := ⟨zo_180 (w := 0) (x := 99) (by decide +kernel), rfl⟩
theorem dX12_count_167 : Dc mX12_count 167 (.iconst 0) 1 168 := ⟨zo_3 (by decide +kernel), rfl⟩
theorem dX12_count_168 : Dc mX12_count 168 (.iaload) 1 169 := ⟨zo_46 (by decide +kernel), rfl⟩
theorem dX12_count_169 : Dc mX12_count 169 (.ireturn) 1 170 := ⟨zo_172 (by decide +kernel), rfl⟩
theorem dX12_count_170 : Dc mX12_count 170 (.aload_n 0) 1 171 := ⟨zo_42 (by decide +kernel), rfl⟩
theorem dX12_count_171 : Dc mX12_count 171 (.getfield 328) 3 174 := ⟨zo_180 (w := 1) (x := 72) (by decide +kernel), rfl⟩
theorem dX12_count_174 : Dc mX12_count 174 (.ireturn) 1 175 := ⟨zo_172 (by decide +kernel), rfl⟩
theorem dX12_count_175 : Dc mX12_count 175 (.aload_n 0) 1 176 := ⟨zo_42 (by decide +kernel), rfl⟩
theorem dX12_count_176 : Dc mX12_count 176 (.invokevirtual 530) 3 179 := ⟨zo_182 (w := 2) (x := 18) (by decide +kernel), rfl⟩
theorem dX12_count_179 : Dc mX12_count 179 (.ireturn) 1 180 := ⟨zo_172 (by decide +kernel), rfl⟩
theorem dX12_count_180 : Dc mX12_count 180 (.aload_n 0) 1 181 := ⟨zo_42 (by decide +kernel), rfl⟩
theorem dX12_count_181 : Dc mX12_count 181 (.getfield 335) 3 184 := ⟨zo_180 (w := 1) (x := 79) (by decide +kernel), rfl⟩
theorem dX12_count_184 : Dc mX12_count 184 (.ireturn) 1 185 := ⟨zo_172 (by decide +kernel), rfl⟩
theorem dX12_count_185 : Dc mX12_count 185 (.iconst (-1)) 1 186 := ⟨zo_2 (by decide +kernel), rfl⟩
theorem dX12_count_186 : Dc mX12_count 186 (.ireturn) 1 187 := ⟨zo_172 (by decide +kernel), rfl⟩
