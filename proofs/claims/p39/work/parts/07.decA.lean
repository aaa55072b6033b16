/-! printed by wip/whole/gen_dec.py: decode rows -/
theorem dX0_init_0 : Dc mX0_init 0 (.aload_n 0) 1 1 := ⟨zo_42 (by decide +kernel), rfl⟩
theorem dX0_init_1 : Dc mX0_init 1 (.invokespecial 3) 3 4 := ⟨zo_183 (w := 0) (x := 3) (by decide +kernel), rfl⟩
theorem dX0_init_4 : Dc mX0_init 4 (.aload_n 0) 1 5 := ⟨zo_42 (by decide +kernel), rfl⟩
theorem dX0_init_5 : Dc mX0_init 5 (.new 9) 3 8 := ⟨zo_187 (w := 0) (x := 9) (by decide +kernel), rfl⟩
theorem dX0_init_8 : Dc mX0_init 8 (.dup) 1 9 := ⟨zo_89 (by decide +kernel), rfl⟩
theorem dX0_init_9 : Dc mX0_init 9 (.invokespecial 11) 3 12 := ⟨zo_183 (w := 0) (x := 11) (by decide +kernel), rfl⟩
theorem dX0_init_12 : Dc mX0_init 12 (.putfield 12) 3 15 := ⟨zo_181 (w := 0) (x := 12) (by decide +kernel), rfl⟩
theorem dX0_init_15 : Dc mX0_init 15 (.aload_n 0) 1 16 := ⟨zo_42 (by decide +kernel), rfl⟩
theorem dX0_init_16 : Dc mX0_init 16 (.bipush 6) 2 18 := ⟨zo_16 (w := 6) (by decide +kernel), rfl⟩
theorem dX0_init_18 : Dc mX0_init 18 (.newarray .int) 2 20 := ⟨by decide +kernel, rfl⟩
theorem dX0_init_20 : Dc mX0_init 20 (.putfield 18) 3 23 := ⟨zo_181 (w := 0) (x := 18) (by decide +kernel), rfl⟩
theorem dX0_init_23 : Dc mX0_init 23 (.aload_n 0) 1 24 := ⟨zo_42 (by decide +kernel), rfl⟩
theorem dX0_init_24 : Dc mX0_init 24 (.iconst 0) 1 25 := ⟨zo_3 (by decide +kernel), rfl⟩
theorem dX0_init_25 : Dc mX0_init 25 (.putfield 22) 3 28 := ⟨zo_181 (w := 0) (x := 22) (by decide +kernel), rfl⟩
theorem dX0_init_28 : Dc mX0_init 28 (.aload_n 0) 1 29 := ⟨zo_42 (by decide +kernel), rfl⟩
theorem dX0_init_29 : Dc mX0_init 29 (.bipush 7) 2 31 := ⟨zo_16 (w := 7) (by decide +kernel), rfl⟩
theorem dX0_init_31 : Dc mX0_init 31 (.newarray .long) 2 33 := ⟨by decide +kernel, rfl⟩
theorem dX0_init_33 : Dc mX0_init 33 (.putfield 26) 3 36 := ⟨zo_181 (w := 0) (x := 26) (by decide +kernel), rfl⟩
theorem dX0_init_36 : Dc mX0_init 36 (.aload_n 0) 1 37 := ⟨zo_42 (by decide +kernel), rfl⟩
theorem dX0_init_37 : Dc mX0_init 37 (.iconst (-1)) 1 38 := ⟨zo_2 (by decide +kernel), rfl⟩
theorem dX0_init_38 : Dc mX0_init 38 (.putfield 30) 3 41 := ⟨zo_181 (w := 0) (x := 30) (by decide +kernel), rfl⟩
theorem dX0_init_41 : Dc mX0_init 41 (.aload_n 0) 1 42 := ⟨zo_42 (by decide +kernel), rfl⟩
theorem dX0_init_42 : Dc mX0_init 42 (.iconst 1) 1 43 := ⟨zo_4 (by decide +kernel), rfl⟩
theorem dX0_init_43 : Dc mX0_init 43 (.putfield 33) 3 46 := ⟨zo_181 (w := 0) (x := 33) (by decide +kernel), rfl⟩
theorem dX0_init_46 : Dc mX0_init 46 (.aload_n 0) 1 47 := ⟨zo_42 (by decide +kernel), rfl⟩
theorem dX0_init_47 : Dc mX0_init 47 (.iconst 1) 1 48 := ⟨zo_4 (by decide +kernel), rfl⟩
theorem dX0_init_48 : Dc mX0_init 48 (.putfield 37) 3 51 := ⟨zo_181 (w := 0) (x := 37) (by decide +kernel), rfl⟩
theorem dX0_init_51 : Dc mX0_init 51 (.aload_n 0) 1 52 := ⟨zo_42 (by decide +kernel), rfl⟩
theorem dX0_init_52 : Dc mX0_init 52 (.aload_n 1) 1 53 := ⟨zo_43 (by decide +kernel), rfl⟩
theorem dX0_init_53 : Dc mX0_init 53 (.putfield 40) 3 56 := ⟨zo_181 (w := 0) (x := 40) (by decide +kernel), rfl⟩
theorem dX0_init_56 : Dc mX0_init 56 (.return_) 1 57 := ⟨zo_177 (by decide +kernel), rfl⟩
theorem dX0_begin_0 : Dc mX0_begin 0 (.aload_n 0) 1 1 := ⟨zo_42 (by decide +kernel), rfl⟩
theorem dX0_begin_1 : Dc mX0_begin 1 (.getfield 12) 3 4 := ⟨zo_180 (w := 0) (x := 12) (by decide +kernel), rfl⟩
theorem dX0_begin_4 : Dc mX0_begin 4 (.aload_n 1) 1 5 := ⟨zo_43 (by decide +kernel), rfl⟩
theorem dX0_begin_5 : Dc mX0_begin 5 (.invokevirtual 44) 3 8 := ⟨zo_182 (w := 0) (x := 44) (by decide +kernel), rfl⟩
theorem dX0_begin_8 : Dc mX0_begin 8 (.aload_n 0) 1 9 := ⟨zo_42 (by decide +kernel), rfl⟩
theorem dX0_begin_9 : Dc mX0_begin 9 (.getfield 40) 3 12 := ⟨zo_180 (w := 0) (x := 40) (by decide +kernel), rfl⟩
theorem dX0_begin_12 : Dc mX0_begin 12 (.getfield 48) 3 15 := ⟨zo_180 (w := 0) (x := 48) (by decide +kernel), rfl⟩
theorem dX0_begin_15 : Dc mX0_begin 15 (.getfield 54) 3 18 := ⟨zo_180 (w := 0) (x := 54) (by decide +kernel), rfl⟩
theorem dX0_begin_18 : Dc mX0_begin 18 (.aload_n 0) 1 19 := ⟨zo_42 (by decide +kernel), rfl⟩
theorem dX0_begin_19 : Dc mX0_begin 19 (.getfield 18) 3 22 := ⟨zo_180 (w := 0) (x := 18) (by decide +kernel), rfl⟩
theorem dX0_begin_22 : Dc mX0_begin 22 (.invokestatic 59) 3 25 := ⟨zo_184 (w := 0) (x := 59) (by decide +kernel), rfl⟩
theorem dX0_begin_25 : Dc mX0_begin 25 (.aload_n 0) 1 26 := ⟨zo_42 (by decide +kernel), rfl⟩
theorem dX0_begin_26 : Dc mX0_begin 26 (.iconst 0) 1 27 := ⟨zo_3 (by decide +kernel), rfl⟩
theorem dX0_begin_27 : Dc mX0_begin 27 (.putfield 22) 3 30 := ⟨zo_181 (w := 0) (x := 22) (by decide +kernel), rfl⟩
theorem dX0_begin_30 : Dc mX0_begin 30 (.aload_n 0) 1 31 := ⟨zo_42 (by decide +kernel), rfl⟩
theorem dX0_begin_31 : Dc mX0_begin 31 (.iconst (-1)) 1 32 := ⟨zo_2 (by decide +kernel), rfl⟩
theorem dX0_begin_32 : Dc mX0_begin 32 (.putfield 30) 3 35 := ⟨zo_181 (w := 0) (x := 30) (by decide +kernel), rfl⟩
theorem dX0_begin_35 : Dc mX0_begin 35 (.aload_n 0) 1 36 := ⟨zo_42 (by decide +kernel), rfl⟩
theorem dX0_begin_36 : Dc mX0_begin 36 (.iconst 1) 1 37 := ⟨zo_4 (by decide +kernel), rfl⟩
theorem dX0_begin_37 : Dc mX0_begin 37 (.putfield 33) 3 40 := ⟨zo_181 (w := 0) (x := 33) (by decide +kernel), rfl⟩
theorem dX0_begin_40 : Dc mX0_begin 40 (.aload_n 0) 1 41 := ⟨zo_42 (by decide +kernel), rfl⟩
theorem dX0_begin_41 : Dc mX0_begin 41 (.iconst 1) 1 42 := ⟨zo_4 (by decide +kernel), rfl⟩
theorem dX0_begin_42 : Dc mX0_begin 42 (.putfield 37) 3 45 := ⟨zo_181 (w := 0) (x := 37) (by decide +kernel), rfl⟩
theorem dX0_begin_45 : Dc mX0_begin 45 (.return_) 1 46 := ⟨zo_177 (by decide +kernel), rfl⟩
theorem dX0_otherwise_0 : Dc mX0_otherwise 0 (.aload_n 0) 1 1 := ⟨zo_42 (by decide +kernel), rfl⟩
theorem dX0_otherwise_1 : Dc mX0_otherwise 1 (.iload_n 1) 1 2 := ⟨zo_27 (by decide +kernel), rfl⟩
theorem dX0_otherwise_2 : Dc mX0_otherwise 2 (.iconst 1) 1 3 := ⟨zo_4 (by decide +kernel), rfl⟩
theorem dX0_otherwise_3 : Dc mX0_otherwise 3 (.if_icmp .ne 7) 3 6 := ⟨zo_160 (w := 0) (x := 7) (by decide +kernel), rfl⟩
theorem dX0_otherwise_6 : Dc mX0_otherwise 6 (.iconst 2) 1 7 := ⟨zo_5 (by decide +kernel), rfl⟩
theorem dX0_otherwise_7 : Dc mX0_otherwise 7 (.goto 4) 3 10 := ⟨zo_167 (w := 0) (x := 4) (by decide +kernel), rfl⟩
theorem dX0_otherwise_10 : Dc mX0_otherwise 10 (.iconst 0) 1 11 := ⟨zo_3 (by decide +kernel), rfl⟩
theorem dX0_otherwise_11 : Dc mX0_otherwise 11 (.putfield 22) 3 14 := ⟨zo_181 (w := 0) (x := 22) (by decide +kernel), rfl⟩
theorem dX0_otherwise_14 : Dc mX0_otherwise 14 (.aload_n 0) 1 15 := ⟨zo_42 (by decide +kernel), rfl⟩
theorem dX0_otherwise_15 : Dc mX0_otherwise 15 (.iload_n 1) 1 16 := ⟨zo_27 (by decide +kernel), rfl⟩
theorem dX0_otherwise_16 : Dc mX0_otherwise 16 (.iconst 2) 1 17 := ⟨zo_5 (by decide +kernel), rfl⟩
theorem dX0_otherwise_17 : Dc mX0_otherwise 17 (.if_icmp .ne 7) 3 20 := ⟨zo_160 (w := 0) (x := 7) (by decide +kernel), rfl⟩
theorem dX0_otherwise_20 : Dc mX0_otherwise 20 (.iload_n 2) 1 21 := ⟨zo_28 (by decide +kernel), rfl⟩
theorem dX0_otherwise_21 : Dc mX0_otherwise 21 (.goto 4) 3 24 := ⟨zo_167 (w := 0) (x := 4) (by decide +kernel), rfl⟩
theorem dX0_otherwise_24 : Dc mX0_otherwise 24 (.iconst (-1)) 1 25 := ⟨zo_2 (by decide +kernel), rfl⟩
theorem dX0_otherwise_25 : Dc mX0_otherwise 25 (.putfield 30) 3 28 := ⟨zo_181 (w := 0) (x := 30) (by decide +kernel), rfl⟩
theorem dX0_otherwise_28 : Dc mX0_otherwise 28 (.aload_n 0) 1 29 := ⟨zo_42 (by decide +kernel), rfl⟩
theorem dX0_otherwise_29 : Dc mX0_otherwise 29 (.iload_n 1) 1 30 := ⟨zo_27 (by decide +kernel), rfl⟩
theorem dX0_otherwise_30 : Dc mX0_otherwise 30 (.iconst 3) 1 31 := ⟨zo_6 (by decide +kernel), rfl⟩
theorem dX0_otherwise_31 : Dc mX0_otherwise 31 (.if_icmp .eq 7) 3 34 := ⟨zo_159 (w := 0) (x := 7) (by decide +kernel), rfl⟩
theorem dX0_otherwise_34 : Dc mX0_otherwise 34 (.iconst 1) 1 35 := ⟨zo_4 (by decide +kernel), rfl⟩
theorem dX0_otherwise_35 : Dc mX0_otherwise 35 (.goto 4) 3 38 := ⟨zo_167 (w := 0) (x := 4) (by decide +kernel), rfl⟩
theorem dX0_otherwise_38 : Dc mX0_otherwise 38 (.iconst 0) 1 39 := ⟨zo_3 (by decide +kernel), rfl⟩
theorem dX0_otherwise_39 : Dc mX0_otherwise 39 (.putfield 33) 3 42 := ⟨zo_181 (w := 0) (x := 33) (by decide +kernel), rfl⟩
theorem dX0_otherwise_42 : Dc mX0_otherwise 42 (.aload_n 0) 1 43 := ⟨zo_42 (by decide +kernel), rfl⟩
theorem dX0_otherwise_43 : Dc mX0_otherwise 43 (.iload_n 1) 1 44 := ⟨zo_27 (by decide +kernel), rfl⟩
theorem dX0_otherwise_44 : Dc mX0_otherwise 44 (.iconst 4) 1 45 := ⟨zo_7 (by decide +kernel), rfl⟩
theorem dX0_otherwise_45 : Dc mX0_otherwise 45 (.if_icmp .eq 7) 3 48 := ⟨zo_159 (w := 0) (x := 7) (by decide +kernel), rfl⟩
theorem dX0_otherwise_48 : Dc mX0_otherwise 48 (.iconst 1) 1 49 := ⟨zo_4 (by decide +kernel), rfl⟩
theorem dX0_otherwise_49 : Dc mX0_otherwise 49 (.goto 4) 3 52 := ⟨zo_167 (w := 0) (x := 4) (by decide +kernel), rfl⟩
theorem dX0_otherwise_52 : Dc mX0_otherwise 52 (.iconst 0) 1 53 := ⟨zo_3 (by decide +kernel), rfl⟩
theorem dX0_otherwise_53 : Dc mX0_otherwise 53 (.putfield 37) 3 56 := ⟨zo_181 (w := 0) (x := 37) (by decide +kernel), rfl⟩
theorem dX0_otherwise_56 : Dc mX0_otherwise 56 (.iload_n 1) 1 57 := ⟨zo_27 (by decide +kernel), rfl⟩
theorem dX0_otherwise_57 : Dc mX0_otherwise 57 (.iconst 5) 1 58 := ⟨zo_8 (by decide +kernel), rfl⟩
theorem dX0_otherwise_58 : Dc mX0_otherwise 58 (.if_icmp .ne 12) 3 61 := ⟨zo_160 (w := 0) (x := 12) (by decide +kernel), rfl⟩
theorem dX0_otherwise_61 : Dc mX0_otherwise 61 (.aload_n 0) 1 62 := ⟨zo_42 (by decide +kernel), rfl⟩
theorem dX0_otherwise_62 : Dc mX0_otherwise 62 (.getfield 18) 3 65 := ⟨zo_180 (w := 0) (x := 18) (by decide +kernel), rfl⟩
theorem dX0_otherwise_65 : Dc mX0_otherwise 65 (.bipush 99) 2 67 := ⟨zo_16 (w := 99) (by decide +kernel), rfl⟩
theorem dX0_otherwise_67 : Dc mX0_otherwise 67 (.invokestatic 63) 3 70 := ⟨zo_184 (w := 0) (x := 63) (by decide +kernel), rfl⟩
theorem dX0_otherwise_70 : Dc mX0_otherwise 70 (.return_) 1 71 := ⟨zo_177 (by decide +kernel), rfl⟩
theorem dX0_pass_0 : Dc mX0_pass 0 (.iconst 0) 1 1 := ⟨zo_3 (by decide +kernel), rfl⟩
theorem dX0_pass_1 : Dc mX0_pass 1 (.istore_n 2) 1 2 := ⟨zo_61 (by decide +kernel), rfl⟩
theorem dX0_pass_2 : Dc mX0_pass 2 (.iload_n 2) 1 3 := ⟨zo_28 (by decide +kernel), rfl⟩
theorem dX0_pass_3 : Dc mX0_pass 3 (.iload_n 1) 1 4 := ⟨zo_27 (by decide +kernel), rfl⟩
theorem dX0_pass_4 : Dc mX0_pass 4 (.if_icmp .ge 185) 3 7 := ⟨zo_162 (w := 0) (x := 185) (by decide +kernel), rfl⟩
theorem dX0_pass_7 : Dc mX0_pass 7 (.aload_n 0) 1 8 := ⟨zo_42 (by decide +kernel), rfl⟩
theorem dX0_pass_8 : Dc mX0_pass 8 (.invokevirtual 67) 3 11 := ⟨zo_182 (w := 0) (x := 67) (by decide +kernel), rfl⟩
theorem dX0_pass_11 : Dc mX0_pass 11 (.istore_n 3) 1 12 := ⟨zo_62 (by decide +kernel), rfl⟩
theorem dX0_pass_12 : Dc mX0_pass 12 (.aload_n 0) 1 13 := ⟨zo_42 (by decide +kernel), rfl⟩
theorem dX0_pass_13 : Dc mX0_pass 13 (.getfield 12) 3 16 := ⟨zo_180 (w := 0) (x := 12) (by decide +kernel), rfl⟩
theorem dX0_pass_16 : Dc mX0_pass 16 (.dup) 1 17 := ⟨zo_89 (by decide +kernel), rfl⟩
theorem dX0_pass_17 : Dc mX0_pass 17 (.getfield 71) 3 20 := ⟨zo_180 (w := 0) (x := 71) (by decide +kernel), rfl⟩
theorem dX0_pass_20 : Dc mX0_pass 20 (.iload_n 3) 1 21 := ⟨zo_29 (by decide +kernel), rfl⟩
theorem dX0_pass_21 : Dc mX0_pass 21 (.ifCond .eq 7) 3 24 := ⟨zo_153 (w := 0) (x := 7) (by decide +kernel), rfl⟩
theorem dX0_pass_24 : Dc mX0_pass 24 (.iconst 1) 1 25 := ⟨zo_4 (by decide +kernel), rfl⟩
theorem dX0_pass_25 : Dc mX0_pass 25 (.goto 4) 3 28 := ⟨zo_167 (w := 0) (x := 4) (by decide +kernel), rfl⟩
theorem dX0_pass_28 : Dc mX0_pass 28 (.iconst 0) 1 29 := ⟨zo_3 (by decide +kernel), rfl⟩
theorem dX0_pass_29 : Dc mX0_pass 29 (.iadd) 1 30 := ⟨zo_96 (by decide +kernel), rfl⟩
theorem dX0_pass_30 : Dc mX0_pass 30 (.putfield 71) 3 33 := ⟨zo_181 (w := 0) (x := 71) (by decide +kernel), rfl⟩
theorem dX0_pass_33 : Dc mX0_pass 33 (.aload_n 0) 1 34 := ⟨zo_42 (by decide +kernel), rfl⟩
theorem dX0_pass_34 : Dc mX0_pass 34 (.getfield 12) 3 37 := ⟨zo_180 (w := 0) (x := 12) (by decide +kernel), rfl⟩
theorem dX0_pass_37 : Dc mX0_pass 37 (.iload_n 3) 1 38 := ⟨zo_29 (by decide +kernel), rfl⟩
theorem dX0_pass_38 : Dc mX0_pass 38 (.ifCond .eq 15) 3 41 := ⟨zo_153 (w := 0) (x := 15) (by decide +kernel), rfl⟩
theorem dX0_pass_41 : Dc mX0_pass 41 (.aload_n 0) 1 42 := ⟨zo_42 (by decide +kernel), rfl⟩
theorem dX0_pass_42 : Dc mX0_pass 42 (.getfield 12) 3 45 := ⟨zo_180 (w := 0) (x := 12) (by decide +kernel), rfl⟩
theorem dX0_pass_45 : Dc mX0_pass 45 (.getfield 74) 3 48 := ⟨zo_180 (w := 0) (x := 74) (by decide +kernel), rfl⟩
theorem dX0_pass_48 : Dc mX0_pass 48 (.iconst 1) 1 49 := ⟨zo_4 (by decide +kernel), rfl⟩
theorem dX0_pass_49 : Dc mX0_pass 49 (.iadd) 1 50 := ⟨zo_96 (by decide +kernel), rfl⟩
theorem dX0_pass_50 : Dc mX0_pass 50 (.goto 4) 3 53 := ⟨zo_167 (w := 0) (x := 4) (by decide +kernel), rfl⟩
theorem dX0_pass_53 : Dc mX0_pass 53 (.iconst 0) 1 54 := ⟨zo_3 (by decide +kernel), rfl⟩
theorem dX0_pass_54 : Dc mX0_pass 54 (.putfield 74) 3 57 := ⟨zo_181 (w := 0) (x := 74) (by decide +kernel), rfl⟩
theorem dX0_pass_57 : Dc mX0_pass 57 (.iconst 0) 1 58 := ⟨zo_3 (by decide +kernel), rfl⟩
theorem dX0_pass_58 : Dc mX0_pass 58 (.istore 4) 2 60 := ⟨zo_54 (by decide +kernel), rfl⟩
theorem dX0_pass_60 : Dc mX0_pass 60 (.iload 4) 2 62 := ⟨zo_21 (by decide +kernel), rfl⟩
theorem dX0_pass_62 : Dc mX0_pass 62 (.aload_n 0) 1 63 := ⟨zo_42 (by decide +kernel), rfl⟩
theorem dX0_pass_63 : Dc mX0_pass 63 (.getfield 40) 3 66 := ⟨zo_180 (w := 0) (x := 40) (by decide +kernel), rfl⟩
theorem dX0_pass_66 : Dc mX0_pass 66 (.getfield 77) 3 69 := ⟨zo_180 (w := 0) (x := 77) (by decide +kernel), rfl⟩
theorem dX0_pass_69 : Dc mX0_pass 69 (.getfield 80) 3 72 := ⟨zo_180 (w := 0) (x := 80) (by decide +kernel), rfl⟩
theorem dX0_pass_72 : Dc mX0_pass 72 (.if_icmp .ge 53) 3 75 := ⟨zo_162 (w := 0) (x := 53) (by decide +kernel), rfl⟩
theorem dX0_pass_75 : Dc mX0_pass 75 (.aload_n 0) 1 76 := ⟨zo_42 (by decide +kernel), rfl⟩
theorem dX0_pass_76 : Dc mX0_pass 76 (.getfield 12) 3 79 := ⟨zo_180 (w := 0) (x := 12) (by decide +kernel), rfl⟩
theorem dX0_pass_79 : Dc mX0_pass 79 (.getfield 83) 3 82 := ⟨zo_180 (w := 0) (x := 83) (by decide +kernel), rfl⟩
theorem dX0_pass_82 : Dc mX0_pass 82 (.iload 4) 2 84 := ⟨zo_21 (by decide +kernel), rfl⟩
theorem dX0_pass_84 : Dc mX0_pass 84 (.invokestatic 86) 3 87 := ⟨zo_184 (w := 0) (x := 86) (by decide +kernel), rfl⟩
theorem dX0_pass_87 : Dc mX0_pass 87 (.ifCond .ne 32) 3 90 := ⟨zo_154 (w := 0) (x := 32) (by decide +kernel), rfl⟩
theorem dX0_pass_90 : Dc mX0_pass 90 (.aload_n 0) 1 91 := ⟨zo_42 (by decide +kernel), rfl⟩
theorem dX0_pass_91 : Dc mX0_pass 91 (.getfield 12) 3 94 := ⟨zo_180 (w := 0) (x := 12) (by decide +kernel), rfl⟩
theorem dX0_pass_94 : Dc mX0_pass 94 (.getfield 90) 3 97 := ⟨zo_180 (w := 0) (x := 90) (by decide +kernel), rfl⟩
theorem dX0_pass_97 : Dc mX0_pass 97 (.iload 4) 2 99 := ⟨zo_21 (by decide +kernel), rfl⟩
theorem dX0_pass_99 : Dc mX0_pass 99 (.invokestatic 86) 3 102 := ⟨zo_184 (w := 0) (x := 86) (by decide +kernel), rfl⟩
theorem dX0_pass_102 : Dc mX0_pass 102 (.aload_n 0) 1 103 := ⟨zo_42 (by decide +kernel), rfl⟩
theorem dX0_pass_103 : Dc mX0_pass 103 (.getfield 12) 3 106 := ⟨zo_180 (w := 0) (x := 12) (by decide +kernel), rfl⟩
theorem dX0_pass_106 : Dc mX0_pass 106 (.getfield 93) 3 109 := ⟨zo_180 (w := 0) (x := 93) (by decide +kernel), rfl⟩
theorem dX0_pass_109 : Dc mX0_pass 109 (.if_icmp .ne 10) 3 112 := ⟨zo_160 (w := 0) (x := 10) (by decide +kernel), rfl⟩
theorem dX0_pass_112 : Dc mX0_pass 112 (.aload_n 0) 1 113 := ⟨zo_42 (by decide +kernel), rfl⟩
theorem dX0_pass_113 : Dc mX0_pass 113 (.iload 4) 2 115 := ⟨zo_21 (by decide +kernel), rfl⟩
theorem dX0_pass_115 : Dc mX0_pass 115 (.iload_n 3) 1 116 := ⟨zo_29 (by decide +kernel), rfl⟩
theorem dX0_pass_116 : Dc mX0_pass 116 (.invokevirtual 96) 3 119 := ⟨zo_182 (w := 0) (x := 96) (by decide +kernel), rfl⟩
theorem dX0_pass_119 : Dc mX0_pass 119 (.iinc 4 1) 3 122 := ⟨zo_iinc (x := 1) (by decide +kernel), rfl⟩
theorem dX0_pass_122 : Dc mX0_pass 122 (.goto (-62)) 3 125 := ⟨zo_167 (w := 255) (x := 194) (by decide +kernel), rfl⟩
theorem dX0_pass_125 : Dc mX0_pass 125 (.iconst 0) 1 126 := ⟨zo_3 (by decide +kernel), rfl⟩
theorem dX0_pass_126 : Dc mX0_pass 126 (.istore 4) 2 128 := ⟨zo_54 (by decide +kernel), rfl⟩
theorem dX0_pass_128 : Dc mX0_pass 128 (.iload 4) 2 130 := ⟨zo_21 (by decide +kernel), rfl⟩
theorem dX0_pass_130 : Dc mX0_pass 130 (.aload_n 0) 1 131 := ⟨zo_42 (by decide +kernel), rfl⟩
theorem dX0_pass_131 : Dc mX0_pass 131 (.getfield 40) 3 134 := ⟨zo_180 (w := 0) (x := 40) (by decide +kernel), rfl⟩
theorem dX0_pass_134 : Dc mX0_pass 134 (.getfield 100) 3 137 := ⟨zo_180 (w := 0) (x := 100) (by decide +kernel), rfl⟩
theorem dX0_pass_137 : Dc mX0_pass 137 (.getfield 80) 3 140 := ⟨zo_180 (w := 0) (x := 80) (by decide +kernel), rfl⟩
theorem dX0_pass_140 : Dc mX0_pass 140 (.if_icmp .ge 19) 3 143 := ⟨zo_162 (w := 0) (x := 19) (by decide +kernel), rfl⟩
theorem dX0_pass_143 : Dc mX0_pass 143 (.iload_n 3) 1 144 := ⟨zo_29 (by decide +kernel), rfl⟩
theorem dX0_pass_144 : Dc mX0_pass 144 (.ifCond .ne 15) 3 147 := ⟨zo_154 (w := 0) (x := 15) (by decide +kernel), rfl⟩
theorem dX0_pass_147 : Dc mX0_pass 147 (.aload_n 0) 1 148 := ⟨zo_42 (by decide +kernel), rfl⟩
theorem dX0_pass_148 : Dc mX0_pass 148 (.iload 4) 2 150 := ⟨zo_21 (by decide +kernel), rfl⟩
theorem dX0_pass_150 : Dc mX0_pass 150 (.invokevirtual 103) 3 153 := ⟨zo_182 (w := 0) (x := 103) (by decide +kernel), rfl⟩
theorem dX0_pass_153 : Dc mX0_pass 153 (.iinc 4 1) 3 156 := ⟨zo_iinc (x := 1) (by decide +kernel), rfl⟩
theorem dX0_pass_156 : Dc mX0_pass 156 (.goto (-28)) 3 159 := ⟨zo_167 (w := 255) (x := 228) (by decide +kernel), rfl⟩
theorem dX0_pass_159 : Dc mX0_pass 159 (.aload_n 0) 1 160 := ⟨zo_42 (by decide +kernel), rfl⟩
theorem dX0_pass_160 : Dc mX0_pass 160 (.getfield 33) 3 163 := ⟨zo_180 (w := 0) (x := 33) (by decide +kernel), rfl⟩
theorem dX0_pass_163 : Dc mX0_pass 163 (.ifCond .eq 7) 3 166 := ⟨zo_153 (w := 0) (x := 7) (by decide +kernel), rfl⟩
theorem dX0_pass_166 : Dc mX0_pass 166 (.aload_n 0) 1 167 := ⟨zo_42 (by decide +kernel), rfl⟩
theorem dX0_pass_167 : Dc mX0_pass 167 (.invokevirtual 107) 3 170 := ⟨zo_182 (w := 0) (x := 107) (by decide +kernel), rfl⟩
theorem dX0_pass_170 : Dc mX0_pass 170 (.aload_n 0) 1 171 := ⟨zo_42 (by decide +kernel), rfl⟩
theorem dX0_pass_171 : Dc mX0_pass 171 (.getfield 12) 3 174 := ⟨zo_180 (w := 0) (x := 12) (by decide +kernel), rfl⟩
theorem dX0_pass_174 : Dc mX0_pass 174 (.dup) 1 175 := ⟨zo_89 (by decide +kernel), rfl⟩
theorem dX0_pass_175 : Dc mX0_pass 175 (.getfield 93) 3 178 := ⟨zo_180 (w := 0) (x := 93) (by decide +kernel), rfl⟩
theorem dX0_pass_178 : Dc mX0_pass 178 (.iconst 1) 1 179 := ⟨zo_4 (by decide +kernel), rfl⟩
theorem dX0_pass_179 : Dc mX0_pass 179 (.iadd) 1 180 := ⟨zo_96 (by decide +kernel), rfl⟩
theorem dX0_pass_180 : Dc mX0_pass 180 (.putfield 93) 3 183 := ⟨zo_181 (w := 0) (x := 93) (by decide +kernel), rfl⟩
theorem dX0_pass_183 : Dc mX0_pass 183 (.iinc 2 1) 3 186 := ⟨zo_iinc (x := 1) (by decide +kernel), rfl⟩
theorem dX0_pass_186 : Dc mX0_pass 186 (.goto (-184)) 3 189 := ⟨zo_167 (w := 255) (x := 72) (by decide +kernel), rfl⟩
theorem dX0_pass_189 : Dc mX0_pass 189 (.return_) 1 190 := ⟨zo_177 (by decide +kernel), rfl⟩
theorem dX0_isAway_0 : Dc mX0_isAway 0 (.aload_n 0) 1 1 := ⟨zo_42 (by decide +kernel), rfl⟩
theorem dX0_isAway_1 : Dc mX0_isAway 1 (.getfield 22) 3 4 := ⟨zo_180 (w := 0) (x := 22) (by decide +kernel), rfl⟩
theorem dX0_isAway_4 : Dc mX0_isAway 4 (.iconst 2) 1 5 := ⟨zo_5 (by decide +kernel), rfl⟩
theorem dX0_isAway_5 : Dc mX0_isAway 5 (.if_icmp .eq 11) 3 8 := ⟨zo_159 (w := 0) (x := 11) (by decide +kernel), rfl⟩
theorem dX0_isAway_8 : Dc mX0_isAway 8 (.aload_n 0) 1 9 := ⟨zo_42 (by decide +kernel), rfl⟩
theorem dX0_isAway_9 : Dc mX0_isAway 9 (.getfield 22) 3 12 := ⟨zo_180 (w := 0) (x := 22) (by decide +kernel), rfl⟩
theorem dX0_isAway_12 : Dc mX0_isAway 12 (.iconst 3) 1 13 := ⟨zo_6 (by decide +kernel), rfl⟩
theorem dX0_isAway_13 : Dc mX0_isAway 13 (.if_icmp .ne 17) 3 16 := ⟨zo_160 (w := 0) (x := 17) (by decide +kernel), rfl⟩
theorem dX0_isAway_16 : Dc mX0_isAway 16 (.aload_n 0) 1 17 := ⟨zo_42 (by decide +kernel), rfl⟩
theorem dX0_isAway_17 : Dc mX0_isAway 17 (.getfield 22) 3 20 := ⟨zo_180 (w := 0) (x := 22) (by decide +kernel), rfl⟩
theorem dX0_isAway_20 : Dc mX0_isAway 20 (.iconst 3) 1 21 := ⟨zo_6 (by decide +kernel), rfl⟩
theorem dX0_isAway_21 : Dc mX0_isAway 21 (.if_icmp .ne 7) 3 24 := ⟨zo_160 (w := 0) (x := 7) (by decide +kernel), rfl⟩
theorem dX0_isAway_24 : Dc mX0_isAway 24 (.iconst 1) 1 25 := ⟨zo_4 (by decide +kernel), rfl⟩
theorem dX0_isAway_25 : Dc mX0_isAway 25 (.goto 4) 3 28 := ⟨zo_167 (w := 0) (x := 4) (by decide +kernel), rfl⟩
theorem dX0_isAway_28 : Dc mX0_isAway 28 (.iconst 0) 1 29 := ⟨zo_3 (by decide +kernel), rfl⟩
theorem dX0_isAway_29 : Dc mX0_isAway 29 (.ireturn) 1 30 := ⟨zo_172 (by decide +kernel), rfl⟩
theorem dX0_isAway_30 : Dc mX0_isAway 30 (.aload_n 0) 1 31 := ⟨zo_42 (by decide +kernel), rfl⟩
theorem dX0_isAway_31 : Dc mX0_isAway 31 (.getfield 40) 3 34 := ⟨zo_180 (w := 0) (x := 40) (by decide +kernel), rfl⟩
theorem dX0_isAway_34 : Dc mX0_isAway 34 (.aload_n 0) 1 35 := ⟨zo_42 (by decide +kernel), rfl⟩
theorem dX0_isAway_35 : Dc mX0_isAway 35 (.getfield 12) 3 38 := ⟨zo_180 (w := 0) (x := 12) (by decide +kernel), rfl⟩
theorem dX0_isAway_38 : Dc mX0_isAway 38 (.getfield 93) 3 41 := ⟨zo_180 (w := 0) (x := 93) (by decide +kernel), rfl⟩
theorem dX0_isAway_41 : Dc mX0_isAway 41 (.invokevirtual 110) 3 44 := ⟨zo_182 (w := 0) (x := 110) (by decide +kernel), rfl⟩
theorem dX0_isAway_44 : Dc mX0_isAway 44 (.ifCond .eq 5) 3 47 := ⟨zo_153 (w := 0) (x := 5) (by decide +kernel), rfl⟩
theorem dX0_isAway_47 : Dc mX0_isAway 47 (.iconst 1) 1 48 := ⟨zo_4 (by decide +kernel), rfl⟩
theorem dX0_isAway_48 : Dc mX0_isAway 48 (.ireturn) 1 49 := ⟨zo_172 (by decide +kernel), rfl⟩
theorem dX0_isAway_49 : Dc mX0_isAway 49 (.aload_n 0) 1 50 := ⟨zo_42 (by decide +kernel), rfl⟩
theorem dX0_isAway_50 : Dc mX0_isAway 50 (.getfield 22) 3 53 := ⟨zo_180 (w := 0) (x := 22) (by decide +kernel), rfl⟩
theorem dX0_isAway_53 : Dc mX0_isAway 53 (.ifCond .eq 25) 3 56 := ⟨zo_153 (w := 0) (x := 25) (by decide +kernel), rfl⟩
theorem dX0_isAway_56 : Dc mX0_isAway 56 (.aload_n 0) 1 57 := ⟨zo_42 (by decide +kernel), rfl⟩
theorem dX0_isAway_57 : Dc mX0_isAway 57 (.getfield 40) 3 60 := ⟨zo_180 (w := 0) (x := 40) (by decide +kernel), rfl⟩
theorem dX0_isAway_60 : Dc mX0_isAway 60 (.getfield 114) 3 63 := ⟨zo_180 (w := 0) (x := 114) (by decide +kernel), rfl⟩
theorem dX0_isAway_63 : Dc mX0_isAway 63 (.ifCond .le 15) 3 66 := ⟨zo_158 (w := 0) (x := 15) (by decide +kernel), rfl⟩
theorem dX0_isAway_66 : Dc mX0_isAway 66 (.aload_n 0) 1 67 := ⟨zo_42 (by decide +kernel), rfl⟩
theorem dX0_isAway_67 : Dc mX0_isAway 67 (.getfield 40) 3 70 := ⟨zo_180 (w := 0) (x := 40) (by decide +kernel), rfl⟩
theorem dX0_isAway_70 : Dc mX0_isAway 70 (.getfield 114) 3 73 := ⟨zo_180 (w := 0) (x := 114) (by decide +kernel), rfl⟩
theorem dX0_isAway_73 : Dc mX0_isAway 73 (.bipush 100) 2 75 := ⟨zo_16 (w := 100) (by decide +kernel), rfl⟩
theorem dX0_isAway_75 : Dc mX0_isAway 75 (.if_icmp .lt 21) 3 78 := ⟨zo_161 (w := 0) (x := 21) (by decide +kernel), rfl⟩
theorem dX0_isAway_78 : Dc mX0_isAway 78 (.aload_n 0) 1 79 := ⟨zo_42 (by decide +kernel), rfl⟩
theorem dX0_isAway_79 : Dc mX0_isAway 79 (.getfield 40) 3 82 := ⟨zo_180 (w := 0) (x := 40) (by decide +kernel), rfl⟩
theorem dX0_isAway_82 : Dc mX0_isAway 82 (.getfield 114) 3 85 := ⟨zo_180 (w := 0) (x := 114) (by decide +kernel), rfl⟩
theorem dX0_isAway_85 : Dc mX0_isAway 85 (.bipush 50) 2 87 := ⟨zo_16 (w := 50) (by decide +kernel), rfl⟩
theorem dX0_isAway_87 : Dc mX0_isAway 87 (.if_icmp .lt 7) 3 90 := ⟨zo_161 (w := 0) (x := 7) (by decide +kernel), rfl⟩
theorem dX0_isAway_90 : Dc mX0_isAway 90 (.iconst 1) 1 91 := ⟨zo_4 (by decide +kernel), rfl⟩
theorem dX0_isAway_91 : Dc mX0_isAway 91 (.goto 4) 3 94 := ⟨zo_167 (w := 0) (x := 4) (by decide +kernel), rfl⟩
theorem dX0_isAway_94 : Dc mX0_isAway 94 (.iconst 0) 1 95 := ⟨zo_3 (by decide +kernel), rfl⟩
theorem dX0_isAway_95 : Dc mX0_isAway 95 (.ireturn) 1 96 := ⟨zo_172 (by decide +kernel), rfl⟩
theorem dX0_isAway_96 : Dc mX0_isAway 96 (.aload_n 0) 1 97 := ⟨zo_42 (by decide +kernel), rfl⟩
theorem dX0_isAway_97 : Dc mX0_isAway 97 (.getfield 12) 3 100 := ⟨zo_180 (w := 0) (x := 12) (by decide +kernel), rfl⟩
theorem dX0_isAway_100 : Dc mX0_isAway 100 (.aload_n 0) 1 101 := ⟨zo_42 (by decide +kernel), rfl⟩
theorem dX0_isAway_101 : Dc mX0_isAway 101 (.getfield 12) 3 104 := ⟨zo_180 (w := 0) (x := 12) (by decide +kernel), rfl⟩
theorem dX0_isAway_104 : Dc mX0_isAway 104 (.getfield 117) 3 107 := ⟨zo_180 (w := 0) (x := 117) (by decide +kernel), rfl⟩
theorem dX0_isAway_107 : Dc mX0_isAway 107 (.ldc2_w 121) 3 110 := ⟨zo_20 (w := 0) (x := 121) (by decide +kernel), rfl⟩
theorem dX0_isAway_110 : Dc mX0_isAway 110 (.lmul) 1 111 := ⟨zo_105 (by decide +kernel), rfl⟩
theorem dX0_isAway_111 : Dc mX0_isAway 111 (.ldc2_w 123) 3 114 := ⟨zo_20 (w := 0) (x := 123) (by decide +kernel), rfl⟩
theorem dX0_isAway_114 : Dc mX0_isAway 114 (.ladd) 1 115 := ⟨zo_97 (by decide +kernel), rfl⟩
theorem dX0_isAway_115 : Dc mX0_isAway 115 (.ldc2_w 125) 3 118 := ⟨zo_20 (w := 0) (x := 125) (by decide +kernel), rfl⟩
theorem dX0_isAway_118 : Dc mX0_isAway 118 (.land) 1 119 := ⟨zo_127 (by decide +kernel), rfl⟩
theorem dX0_isAway_119 : Dc mX0_isAway 119 (.putfield 117) 3 122 := ⟨zo_181 (w := 0) (x := 117) (by decide +kernel), rfl⟩
theorem dX0_isAway_122 : Dc mX0_isAway 122 (.aload_n 0) 1 123 := ⟨zo_42 (by decide +kernel), rfl⟩
theorem dX0_isAway_123 : Dc mX0_isAway 123 (.getfield 12) 3 126 := ⟨zo_180 (w := 0) (x := 12) (by decide +kernel), rfl⟩
theorem dX0_isAway_126 : Dc mX0_isAway 126 (.getfield 117) 3 129 := ⟨zo_180 (w := 0) (x := 117) (by decide +kernel), rfl⟩
theorem dX0_isAway_129 : Dc mX0_isAway 129 (.ldc2_w 127) 3 132 := ⟨zo_20 (w := 0) (x := 127) (by decide +kernel), rfl⟩
theorem dX0_isAway_132 : Dc mX0_isAway 132 (.ldiv) 1 133 := ⟨zo_109 (by decide +kernel), rfl⟩
theorem dX0_isAway_133 : Dc mX0_isAway 133 (.ldc2_w 129) 3 136 := ⟨zo_20 (w := 0) (x := 129) (by decide +kernel), rfl⟩
theorem dX0_isAway_136 : Dc mX0_isAway 136 (.lrem) 1 137 := ⟨zo_113 (by decide +kernel), rfl⟩
theorem dX0_isAway_137 : Dc mX0_isAway 137 (.aload_n 0) 1 138 := ⟨zo_42 (by decide +kernel), rfl⟩
theorem dX0_isAway_138 : Dc mX0_isAway 138 (.getfield 40) 3 141 := ⟨zo_180 (w := 0) (x := 40) (by decide +kernel), rfl⟩
theorem dX0_isAway_141 : Dc mX0_isAway 141 (.getfield 114) 3 144 := ⟨zo_180 (w := 0) (x := 114) (by decide +kernel), rfl⟩
theorem dX0_isAway_144 : Dc mX0_isAway 144 (.i2l) 1 145 := ⟨zo_133 (by decide +kernel), rfl⟩
theorem dX0_isAway_145 : Dc mX0_isAway 145 (.lcmp) 1 146 := ⟨zo_148 (by decide +kernel), rfl⟩
theorem dX0_isAway_146 : Dc mX0_isAway 146 (.ifCond .ge 7) 3 149 := ⟨zo_156 (w := 0) (x := 7) (by decide +kernel), rfl⟩
theorem dX0_isAway_149 : Dc mX0_isAway 149 (.iconst 1) 1 150 := ⟨zo_4 (by decide +kernel), rfl⟩
theorem dX0_isAway_150 : Dc mX0_isAway 150 (.goto 4) 3 153 := ⟨zo_167 (w := 0) (x := 4) (by decide +kernel), rfl⟩
theorem dX0_isAway_153 : Dc mX0_isAway 153 (.iconst 0) 1 154 := ⟨zo_3 (by decide +kernel), rfl⟩
theorem dX0_isAway_154 : Dc mX0_isAway 154 (.ireturn) 1 155 := ⟨zo_172 (by decide +kernel), rfl⟩
theorem dX0_film_0 : Dc mX0_film 0 (.aload_n 0) 1 1 := ⟨zo_42 (by decide +kernel), rfl⟩
theorem dX0_film_1 : Dc mX0_film 1 (.getfield 12) 3 4 := ⟨zo_180 (w := 0) (x := 12) (by decide +kernel), rfl⟩
theorem dX0_film_4 : Dc mX0_film 4 (.getfield 83) 3 7 := ⟨zo_180 (w := 0) (x := 83) (by decide +kernel), rfl⟩
theorem dX0_film_7 : Dc mX0_film 7 (.iload_n 1) 1 8 := ⟨zo_27 (by decide +kernel), rfl⟩
theorem dX0_film_8 : Dc mX0_film 8 (.iconst 1) 1 9 := ⟨zo_4 (by decide +kernel), rfl⟩
theorem dX0_film_9 : Dc mX0_film 9 (.invokestatic 131) 3 12 := ⟨zo_184 (w := 0) (x := 131) (by decide +kernel), rfl⟩
theorem dX0_film_12 : Dc mX0_film 12 (.iconst 0) 1 13 := ⟨zo_3 (by decide +kernel), rfl⟩
theorem dX0_film_13 : Dc mX0_film 13 (.istore_n 3) 1 14 := ⟨zo_62 (by decide +kernel), rfl⟩
theorem dX0_film_14 : Dc mX0_film 14 (.iload_n 3) 1 15 := ⟨zo_29 (by decide +kernel), rfl⟩
theorem dX0_film_15 : Dc mX0_film 15 (.aload_n 0) 1 16 := ⟨zo_42 (by decide +kernel), rfl⟩
theorem dX0_film_16 : Dc mX0_film 16 (.getfield 40) 3 19 := ⟨zo_180 (w := 0) (x := 40) (by decide +kernel), rfl⟩
theorem dX0_film_19 : Dc mX0_film 19 (.getfield 48) 3 22 := ⟨zo_180 (w := 0) (x := 48) (by decide +kernel), rfl⟩
theorem dX0_film_22 : Dc mX0_film 22 (.getfield 80) 3 25 := ⟨zo_180 (w := 0) (x := 80) (by decide +kernel), rfl⟩
theorem dX0_film_25 : Dc mX0_film 25 (.if_icmp .ge 138) 3 28 := ⟨zo_162 (w := 0) (x := 138) (by decide +kernel), rfl⟩
theorem dX0_film_28 : Dc mX0_film 28 (.iload_n 2) 1 29 := ⟨zo_28 (by decide +kernel), rfl⟩
theorem dX0_film_29 : Dc mX0_film 29 (.ifCond .ne 134) 3 32 := ⟨zo_154 (w := 0) (x := 134) (by decide +kernel), rfl⟩
theorem dX0_film_32 : Dc mX0_film 32 (.aload_n 0) 1 33 := ⟨zo_42 (by decide +kernel), rfl⟩
theorem dX0_film_33 : Dc mX0_film 33 (.getfield 12) 3 36 := ⟨zo_180 (w := 0) (x := 12) (by decide +kernel), rfl⟩
theorem dX0_film_36 : Dc mX0_film 36 (.iload_n 1) 1 37 := ⟨zo_27 (by decide +kernel), rfl⟩
theorem dX0_film_37 : Dc mX0_film 37 (.iload_n 3) 1 38 := ⟨zo_29 (by decide +kernel), rfl⟩
theorem dX0_film_38 : Dc mX0_film 38 (.invokevirtual 135) 3 41 := ⟨zo_182 (w := 0) (x := 135) (by decide +kernel), rfl⟩
theorem dX0_film_41 : Dc mX0_film 41 (.istore 4) 2 43 := ⟨zo_54 (by decide +kernel), rfl⟩
theorem dX0_film_43 : Dc mX0_film 43 (.aload_n 0) 1 44 := ⟨zo_42 (by decide +kernel), rfl⟩
theorem dX0_film_44 : Dc mX0_film 44 (.getfield 12) 3 47 := ⟨zo_180 (w := 0) (x := 12) (by decide +kernel), rfl⟩
theorem dX0_film_47 : Dc mX0_film 47 (.getfield 139) 3 50 := ⟨zo_180 (w := 0) (x := 139) (by decide +kernel), rfl⟩
theorem dX0_film_50 : Dc mX0_film 50 (.iload_n 3) 1 51 := ⟨zo_29 (by decide +kernel), rfl⟩
theorem dX0_film_51 : Dc mX0_film 51 (.invokestatic 86) 3 54 := ⟨zo_184 (w := 0) (x := 86) (by decide +kernel), rfl⟩
theorem dX0_film_54 : Dc mX0_film 54 (.istore 5) 2 56 := ⟨zo_54 (by decide +kernel), rfl⟩
theorem dX0_film_56 : Dc mX0_film 56 (.iload 4) 2 58 := ⟨zo_21 (by decide +kernel), rfl⟩
theorem dX0_film_58 : Dc mX0_film 58 (.ifCond .lt 46) 3 61 := ⟨zo_155 (w := 0) (x := 46) (by decide +kernel), rfl⟩
theorem dX0_film_61 : Dc mX0_film 61 (.iload 5) 2 63 := ⟨zo_21 (by decide +kernel), rfl⟩
theorem dX0_film_63 : Dc mX0_film 63 (.ifCond .lt 41) 3 66 := ⟨zo_155 (w := 0) (x := 41) (by decide +kernel), rfl⟩
theorem dX0_film_66 : Dc mX0_film 66 (.iload 4) 2 68 := ⟨zo_21 (by decide +kernel), rfl⟩
theorem dX0_film_68 : Dc mX0_film 68 (.iload 5) 2 70 := ⟨zo_21 (by decide +kernel), rfl⟩
theorem dX0_film_70 : Dc mX0_film 70 (.if_icmp .eq 34) 3 73 := ⟨zo_159 (w := 0) (x := 34) (by decide +kernel), rfl⟩
theorem dX0_film_73 : Dc mX0_film 73 (.aload_n 0) 1 74 := ⟨zo_42 (by decide +kernel), rfl⟩
theorem dX0_film_74 : Dc mX0_film 74 (.getfield 12) 3 77 := ⟨zo_180 (w := 0) (x := 12) (by decide +kernel), rfl⟩
theorem dX0_film_77 : Dc mX0_film 77 (.getfield 142) 3 80 := ⟨zo_180 (w := 0) (x := 142) (by decide +kernel), rfl⟩
theorem dX0_film_80 : Dc mX0_film 80 (.iload_n 1) 1 81 := ⟨zo_27 (by decide +kernel), rfl⟩
theorem dX0_film_81 : Dc mX0_film 81 (.bipush 6) 2 83 := ⟨zo_16 (w := 6) (by decide +kernel), rfl⟩
theorem dX0_film_83 : Dc mX0_film 83 (.imul) 1 84 := ⟨zo_104 (by decide +kernel), rfl⟩
theorem dX0_film_84 : Dc mX0_film 84 (.iload_n 3) 1 85 := ⟨zo_29 (by decide +kernel), rfl⟩
theorem dX0_film_85 : Dc mX0_film 85 (.iadd) 1 86 := ⟨zo_96 (by decide +kernel), rfl⟩
theorem dX0_film_86 : Dc mX0_film 86 (.iload 5) 2 88 := ⟨zo_21 (by decide +kernel), rfl⟩
theorem dX0_film_88 : Dc mX0_film 88 (.invokestatic 131) 3 91 := ⟨zo_184 (w := 0) (x := 131) (by decide +kernel), rfl⟩
theorem dX0_film_91 : Dc mX0_film 91 (.aload_n 0) 1 92 := ⟨zo_42 (by decide +kernel), rfl⟩
theorem dX0_film_92 : Dc mX0_film 92 (.getfield 12) 3 95 := ⟨zo_180 (w := 0) (x := 12) (by decide +kernel), rfl⟩
theorem dX0_film_95 : Dc mX0_film 95 (.dup) 1 96 := ⟨zo_89 (by decide +kernel), rfl⟩
theorem dX0_film_96 : Dc mX0_film 96 (.getfield 145) 3 99 := ⟨zo_180 (w := 0) (x := 145) (by decide +kernel), rfl⟩
theorem dX0_film_99 : Dc mX0_film 99 (.iconst 1) 1 100 := ⟨zo_4 (by decide +kernel), rfl⟩
theorem dX0_film_100 : Dc mX0_film 100 (.iadd) 1 101 := ⟨zo_96 (by decide +kernel), rfl⟩
theorem dX0_film_101 : Dc mX0_film 101 (.putfield 145) 3 104 := ⟨zo_181 (w := 0) (x := 145) (by decide +kernel), rfl⟩
theorem dX0_film_104 : Dc mX0_film 104 (.iload 4) 2 106 := ⟨zo_21 (by decide +kernel), rfl⟩
theorem dX0_film_106 : Dc mX0_film 106 (.ifCond .lt 51) 3 109 := ⟨zo_155 (w := 0) (x := 51) (by decide +kernel), rfl⟩
theorem dX0_film_109 : Dc mX0_film 109 (.iload 5) 2 111 := ⟨zo_21 (by decide +kernel), rfl⟩
theorem dX0_film_111 : Dc mX0_film 111 (.ifCond .ge 46) 3 114 := ⟨zo_156 (w := 0) (x := 46) (by decide +kernel), rfl⟩
theorem dX0_film_114 : Dc mX0_film 114 (.aload_n 0) 1 115 := ⟨zo_42 (by decide +kernel), rfl⟩
theorem dX0_film_115 : Dc mX0_film 115 (.iload_n 1) 1 116 := ⟨zo_27 (by decide +kernel), rfl⟩
theorem dX0_film_116 : Dc mX0_film 116 (.iload_n 3) 1 117 := ⟨zo_29 (by decide +kernel), rfl⟩
theorem dX0_film_117 : Dc mX0_film 117 (.invokevirtual 148) 3 120 := ⟨zo_182 (w := 0) (x := 148) (by decide +kernel), rfl⟩
theorem dX0_film_120 : Dc mX0_film 120 (.aload_n 0) 1 121 := ⟨zo_42 (by decide +kernel), rfl⟩
theorem dX0_film_121 : Dc mX0_film 121 (.getfield 18) 3 124 := ⟨zo_180 (w := 0) (x := 18) (by decide +kernel), rfl⟩
theorem dX0_film_124 : Dc mX0_film 124 (.iload_n 3) 1 125 := ⟨zo_29 (by decide +kernel), rfl⟩
theorem dX0_film_125 : Dc mX0_film 125 (.invokestatic 86) 3 128 := ⟨zo_184 (w := 0) (x := 86) (by decide +kernel), rfl⟩
theorem dX0_film_128 : Dc mX0_film 128 (.bipush 50) 2 130 := ⟨zo_16 (w := 50) (by decide +kernel), rfl⟩
theorem dX0_film_130 : Dc mX0_film 130 (.if_icmp .lt 7) 3 133 := ⟨zo_161 (w := 0) (x := 7) (by decide +kernel), rfl⟩
theorem dX0_film_133 : Dc mX0_film 133 (.iconst 1) 1 134 := ⟨zo_4 (by decide +kernel), rfl⟩
theorem dX0_film_134 : Dc mX0_film 134 (.goto 4) 3 137 := ⟨zo_167 (w := 0) (x := 4) (by decide +kernel), rfl⟩
theorem dX0_film_137 : Dc mX0_film 137 (.iconst 0) 1 138 := ⟨zo_3 (by decide +kernel), rfl⟩
theorem dX0_film_138 : Dc mX0_film 138 (.invokestatic 152) 3 141 := ⟨zo_184 (w := 0) (x := 152) (by decide +kernel), rfl⟩
theorem dX0_film_141 : Dc mX0_film 141 (.ifCond .eq 16) 3 144 := ⟨zo_153 (w := 0) (x := 16) (by decide +kernel), rfl⟩
theorem dX0_film_144 : Dc mX0_film 144 (.aload_n 0) 1 145 := ⟨zo_42 (by decide +kernel), rfl⟩
theorem dX0_film_145 : Dc mX0_film 145 (.getfield 12) 3 148 := ⟨zo_180 (w := 0) (x := 12) (by decide +kernel), rfl⟩
theorem dX0_film_148 : Dc mX0_film 148 (.getfield 139) 3 151 := ⟨zo_180 (w := 0) (x := 139) (by decide +kernel), rfl⟩
theorem dX0_film_151 : Dc mX0_film 151 (.iload_n 3) 1 152 := ⟨zo_29 (by decide +kernel), rfl⟩
theorem dX0_film_152 : Dc mX0_film 152 (.iload 4) 2 154 := ⟨zo_21 (by decide +kernel), rfl⟩
theorem dX0_film_154 : Dc mX0_film 154 (.invokestatic 131) 3 157 := ⟨zo_184 (w := 0) (x := 131) (by decide +kernel), rfl⟩
theorem dX0_film_157 : Dc mX0_film 157 (.iinc 3 1) 3 160 := ⟨zo_iinc (x := 1) (by decide +kernel), rfl⟩
theorem dX0_film_160 : Dc mX0_film 160 (.goto (-146)) 3 163 := ⟨zo_167 (w := 255) (x := 110) (by decide +kernel), rfl⟩
theorem dX0_film_163 : Dc mX0_film 163 (.return_) 1 164 := ⟨zo_177 (by decide +kernel), rfl⟩
theorem dX0_give_0 : Dc mX0_give 0 (.aload_n 0) 1 1 := ⟨zo_42 (by decide +kernel), rfl⟩
theorem dX0_give_1 : Dc mX0_give 1 (.getfield 40) 3 4 := ⟨zo_180 (w := 0) (x := 40) (by decide +kernel), rfl⟩
theorem dX0_give_4 : Dc mX0_give 4 (.getfield 100) 3 7 := ⟨zo_180 (w := 0) (x := 100) (by decide +kernel), rfl⟩
theorem dX0_give_7 : Dc mX0_give 7 (.getfield 54) 3 10 := ⟨zo_180 (w := 0) (x := 54) (by decide +kernel), rfl⟩
theorem dX0_give_10 : Dc mX0_give 10 (.iload_n 1) 1 11 := ⟨zo_27 (by decide +kernel), rfl⟩
theorem dX0_give_11 : Dc mX0_give 11 (.invokestatic 86) 3 14 := ⟨zo_184 (w := 0) (x := 86) (by decide +kernel), rfl⟩
theorem dX0_give_14 : Dc mX0_give 14 (.istore_n 2) 1 15 := ⟨zo_61 (by decide +kernel), rfl⟩
theorem dX0_give_15 : Dc mX0_give 15 (.aload_n 0) 1 16 := ⟨zo_42 (by decide +kernel), rfl⟩
theorem dX0_give_16 : Dc mX0_give 16 (.getfield 40) 3 19 := ⟨zo_180 (w := 0) (x := 40) (by decide +kernel), rfl⟩
theorem dX0_give_19 : Dc mX0_give 19 (.getfield 100) 3 22 := ⟨zo_180 (w := 0) (x := 100) (by decide +kernel), rfl⟩
theorem dX0_give_22 : Dc mX0_give 22 (.getfield 156) 3 25 := ⟨zo_180 (w := 0) (x := 156) (by decide +kernel), rfl⟩
theorem dX0_give_25 : Dc mX0_give 25 (.iload_n 1) 1 26 := ⟨zo_27 (by decide +kernel), rfl⟩
theorem dX0_give_26 : Dc mX0_give 26 (.invokestatic 86) 3 29 := ⟨zo_184 (w := 0) (x := 86) (by decide +kernel), rfl⟩
theorem dX0_give_29 : Dc mX0_give 29 (.istore_n 3) 1 30 := ⟨zo_62 (by decide +kernel), rfl⟩
theorem dX0_give_30 : Dc mX0_give 30 (.aload_n 0) 1 31 := ⟨zo_42 (by decide +kernel), rfl⟩
theorem dX0_give_31 : Dc mX0_give 31 (.getfield 12) 3 34 := ⟨zo_180 (w := 0) (x := 12) (by decide +kernel), rfl⟩
theorem dX0_give_34 : Dc mX0_give 34 (.getfield 139) 3 37 := ⟨zo_180 (w := 0) (x := 139) (by decide +kernel), rfl⟩
theorem dX0_give_37 : Dc mX0_give 37 (.iload_n 2) 1 38 := ⟨zo_28 (by decide +kernel), rfl⟩
theorem dX0_give_38 : Dc mX0_give 38 (.invokestatic 86) 3 41 := ⟨zo_184 (w := 0) (x := 86) (by decide +kernel), rfl⟩
theorem dX0_give_41 : Dc mX0_give 41 (.istore 4) 2 43 := ⟨zo_54 (by decide +kernel), rfl⟩
theorem dX0_give_43 : Dc mX0_give 43 (.aload_n 0) 1 44 := ⟨zo_42 (by decide +kernel), rfl⟩
theorem dX0_give_44 : Dc mX0_give 44 (.getfield 12) 3 47 := ⟨zo_180 (w := 0) (x := 12) (by decide +kernel), rfl⟩
theorem dX0_give_47 : Dc mX0_give 47 (.getfield 159) 3 50 := ⟨zo_180 (w := 0) (x := 159) (by decide +kernel), rfl⟩
theorem dX0_give_50 : Dc mX0_give 50 (.iload_n 1) 1 51 := ⟨zo_27 (by decide +kernel), rfl⟩
theorem dX0_give_51 : Dc mX0_give 51 (.invokestatic 86) 3 54 := ⟨zo_184 (w := 0) (x := 86) (by decide +kernel), rfl⟩
theorem dX0_give_54 : Dc mX0_give 54 (.istore 5) 2 56 := ⟨zo_54 (by decide +kernel), rfl⟩
theorem dX0_give_56 : Dc mX0_give 56 (.iload_n 1) 1 57 := ⟨zo_27 (by decide +kernel), rfl⟩
theorem dX0_give_57 : Dc mX0_give 57 (.aload_n 0) 1 58 := ⟨zo_42 (by decide +kernel), rfl⟩
theorem dX0_give_58 : Dc mX0_give 58 (.getfield 30) 3 61 := ⟨zo_180 (w := 0) (x := 30) (by decide +kernel), rfl⟩
theorem dX0_give_61 : Dc mX0_give 61 (.if_icmp .eq 19) 3 64 := ⟨zo_159 (w := 0) (x := 19) (by decide +kernel), rfl⟩
theorem dX0_give_64 : Dc mX0_give 64 (.iload 5) 2 66 := ⟨zo_21 (by decide +kernel), rfl⟩
theorem dX0_give_66 : Dc mX0_give 66 (.ifCond .le 14) 3 69 := ⟨zo_158 (w := 0) (x := 14) (by decide +kernel), rfl⟩
theorem dX0_give_69 : Dc mX0_give 69 (.iload 4) 2 71 := ⟨zo_21 (by decide +kernel), rfl⟩
theorem dX0_give_71 : Dc mX0_give 71 (.ifCond .lt 9) 3 74 := ⟨zo_155 (w := 0) (x := 9) (by decide +kernel), rfl⟩
theorem dX0_give_74 : Dc mX0_give 74 (.iload 4) 2 76 := ⟨zo_21 (by decide +kernel), rfl⟩
theorem dX0_give_76 : Dc mX0_give 76 (.iload_n 3) 1 77 := ⟨zo_29 (by decide +kernel), rfl⟩
theorem dX0_give_77 : Dc mX0_give 77 (.if_icmp .ne 4) 3 80 := ⟨zo_160 (w := 0) (x := 4) (by decide +kernel), rfl⟩
theorem dX0_give_80 : Dc mX0_give 80 (.return_) 1 81 := ⟨zo_177 (by decide +kernel), rfl⟩
theorem dX0_give_81 : Dc mX0_give 81 (.aload_n 0) 1 82 := ⟨zo_42 (by decide +kernel), rfl⟩
theorem dX0_give_82 : Dc mX0_give 82 (.getfield 12) 3 85 := ⟨zo_180 (w := 0) (x := 12) (by decide +kernel), rfl⟩
theorem dX0_give_85 : Dc mX0_give 85 (.getfield 162) 3 88 := ⟨zo_180 (w := 0) (x := 162) (by decide +kernel), rfl⟩
theorem dX0_give_88 : Dc mX0_give 88 (.iload_n 2) 1 89 := ⟨zo_28 (by decide +kernel), rfl⟩
theorem dX0_give_89 : Dc mX0_give 89 (.invokestatic 86) 3 92 := ⟨zo_184 (w := 0) (x := 86) (by decide +kernel), rfl⟩
theorem dX0_give_92 : Dc mX0_give 92 (.iconst 1) 1 93 := ⟨zo_4 (by decide +kernel), rfl⟩
theorem dX0_give_93 : Dc mX0_give 93 (.iadd) 1 94 := ⟨zo_96 (by decide +kernel), rfl⟩
theorem dX0_give_94 : Dc mX0_give 94 (.istore 6) 2 96 := ⟨zo_54 (by decide +kernel), rfl⟩
theorem dX0_give_96 : Dc mX0_give 96 (.aload_n 0) 1 97 := ⟨zo_42 (by decide +kernel), rfl⟩
theorem dX0_give_97 : Dc mX0_give 97 (.getfield 12) 3 100 := ⟨zo_180 (w := 0) (x := 12) (by decide +kernel), rfl⟩
theorem dX0_give_100 : Dc mX0_give 100 (.getfield 159) 3 103 := ⟨zo_180 (w := 0) (x := 159) (by decide +kernel), rfl⟩
theorem dX0_give_103 : Dc mX0_give 103 (.iload_n 1) 1 104 := ⟨zo_27 (by decide +kernel), rfl⟩
theorem dX0_give_104 : Dc mX0_give 104 (.iload 5) 2 106 := ⟨zo_21 (by decide +kernel), rfl⟩
theorem dX0_give_106 : Dc mX0_give 106 (.iconst 1) 1 107 := ⟨zo_4 (by decide +kernel), rfl⟩
theorem dX0_give_107 : Dc mX0_give 107 (.isub) 1 108 := ⟨zo_100 (by decide +kernel), rfl⟩
theorem dX0_give_108 : Dc mX0_give 108 (.invokestatic 131) 3 111 := ⟨zo_184 (w := 0) (x := 131) (by decide +kernel), rfl⟩
theorem dX0_give_111 : Dc mX0_give 111 (.aload_n 0) 1 112 := ⟨zo_42 (by decide +kernel), rfl⟩
theorem dX0_give_112 : Dc mX0_give 112 (.getfield 12) 3 115 := ⟨zo_180 (w := 0) (x := 12) (by decide +kernel), rfl⟩
theorem dX0_give_115 : Dc mX0_give 115 (.getfield 165) 3 118 := ⟨zo_180 (w := 0) (x := 165) (by decide +kernel), rfl⟩
theorem dX0_give_118 : Dc mX0_give 118 (.iload_n 1) 1 119 := ⟨zo_27 (by decide +kernel), rfl⟩
theorem dX0_give_119 : Dc mX0_give 119 (.aload_n 0) 1 120 := ⟨zo_42 (by decide +kernel), rfl⟩
theorem dX0_give_120 : Dc mX0_give 120 (.getfield 12) 3 123 := ⟨zo_180 (w := 0) (x := 12) (by decide +kernel), rfl⟩
theorem dX0_give_123 : Dc mX0_give 123 (.getfield 165) 3 126 := ⟨zo_180 (w := 0) (x := 165) (by decide +kernel), rfl⟩
theorem dX0_give_126 : Dc mX0_give 126 (.iload_n 1) 1 127 := ⟨zo_27 (by decide +kernel), rfl⟩
theorem dX0_give_127 : Dc mX0_give 127 (.invokestatic 86) 3 130 := ⟨zo_184 (w := 0) (x := 86) (by decide +kernel), rfl⟩
theorem dX0_give_130 : Dc mX0_give 130 (.iconst 1) 1 131 := ⟨zo_4 (by decide +kernel), rfl⟩
theorem dX0_give_131 : Dc mX0_give 131 (.iadd) 1 132 := ⟨zo_96 (by decide +kernel), rfl⟩
theorem dX0_give_132 : Dc mX0_give 132 (.invokestatic 131) 3 135 := ⟨zo_184 (w := 0) (x := 131) (by decide +kernel), rfl⟩
theorem dX0_give_135 : Dc mX0_give 135 (.aload_n 0) 1 136 := ⟨zo_42 (by decide +kernel), rfl⟩
theorem dX0_give_136 : Dc mX0_give 136 (.getfield 12) 3 139 := ⟨zo_180 (w := 0) (x := 12) (by decide +kernel), rfl⟩
theorem dX0_give_139 : Dc mX0_give 139 (.getfield 162) 3 142 := ⟨zo_180 (w := 0) (x := 162) (by decide +kernel), rfl⟩
theorem dX0_give_142 : Dc mX0_give 142 (.iload_n 2) 1 143 := ⟨zo_28 (by decide +kernel), rfl⟩
theorem dX0_give_143 : Dc mX0_give 143 (.iload 6) 2 145 := ⟨zo_21 (by decide +kernel), rfl⟩
theorem dX0_give_145 : Dc mX0_give 145 (.invokestatic 131) 3 148 := ⟨zo_184 (w := 0) (x := 131) (by decide +kernel), rfl⟩
theorem dX0_give_148 : Dc mX0_give 148 (.aload_n 0) 1 149 := ⟨zo_42 (by decide +kernel), rfl⟩
theorem dX0_give_149 : Dc mX0_give 149 (.getfield 37) 3 152 := ⟨zo_180 (w := 0) (x := 37) (by decide +kernel), rfl⟩
theorem dX0_give_152 : Dc mX0_give 152 (.ifCond .eq 49) 3 155 := ⟨zo_153 (w := 0) (x := 49) (by decide +kernel), rfl⟩
theorem dX0_give_155 : Dc mX0_give 155 (.aload_n 0) 1 156 := ⟨zo_42 (by decide +kernel), rfl⟩
theorem dX0_give_156 : Dc mX0_give 156 (.iload_n 2) 1 157 := ⟨zo_28 (by decide +kernel), rfl⟩
theorem dX0_give_157 : Dc mX0_give 157 (.iload 6) 2 159 := ⟨zo_21 (by decide +kernel), rfl⟩
theorem dX0_give_159 : Dc mX0_give 159 (.invokevirtual 168) 3 162 := ⟨zo_182 (w := 0) (x := 168) (by decide +kernel), rfl⟩
theorem dX0_give_162 : Dc mX0_give 162 (.iload 6) 2 164 := ⟨zo_21 (by decide +kernel), rfl⟩
theorem dX0_give_164 : Dc mX0_give 164 (.aload_n 0) 1 165 := ⟨zo_42 (by decide +kernel), rfl⟩
theorem dX0_give_165 : Dc mX0_give 165 (.getfield 18) 3 168 := ⟨zo_180 (w := 0) (x := 18) (by decide +kernel), rfl⟩
theorem dX0_give_168 : Dc mX0_give 168 (.iload_n 2) 1 169 := ⟨zo_28 (by decide +kernel), rfl⟩
theorem dX0_give_169 : Dc mX0_give 169 (.invokestatic 86) 3 172 := ⟨zo_184 (w := 0) (x := 86) (by decide +kernel), rfl⟩
theorem dX0_give_172 : Dc mX0_give 172 (.bipush 10) 2 174 := ⟨zo_16 (w := 10) (by decide +kernel), rfl⟩
theorem dX0_give_174 : Dc mX0_give 174 (.idiv) 1 175 := ⟨zo_108 (by decide +kernel), rfl⟩
theorem dX0_give_175 : Dc mX0_give 175 (.if_icmp .le 7) 3 178 := ⟨zo_164 (w := 0) (x := 7) (by decide +kernel), rfl⟩
theorem dX0_give_178 : Dc mX0_give 178 (.iconst 1) 1 179 := ⟨zo_4 (by decide +kernel), rfl⟩
theorem dX0_give_179 : Dc mX0_give 179 (.goto 4) 3 182 := ⟨zo_167 (w := 0) (x := 4) (by decide +kernel), rfl⟩
theorem dX0_give_182 : Dc mX0_give 182 (.iconst 0) 1 183 := ⟨zo_3 (by decide +kernel), rfl⟩
theorem dX0_give_183 : Dc mX0_give 183 (.invokestatic 152) 3 186 := ⟨zo_184 (w := 0) (x := 152) (by decide +kernel), rfl⟩
theorem dX0_give_186 : Dc mX0_give 186 (.ifCond .eq 15) 3 189 := ⟨zo_153 (w := 0) (x := 15) (by decide +kernel), rfl⟩
theorem dX0_give_189 : Dc mX0_give 189 (.aload_n 0) 1 190 := ⟨zo_42 (by decide +kernel), rfl⟩
theorem dX0_give_190 : Dc mX0_give 190 (.getfield 12) 3 193 := ⟨zo_180 (w := 0) (x := 12) (by decide +kernel), rfl⟩
theorem dX0_give_193 : Dc mX0_give 193 (.getfield 139) 3 196 := ⟨zo_180 (w := 0) (x := 139) (by decide +kernel), rfl⟩
theorem dX0_give_196 : Dc mX0_give 196 (.iload_n 2) 1 197 := ⟨zo_28 (by decide +kernel), rfl⟩
theorem dX0_give_197 : Dc mX0_give 197 (.iload_n 3) 1 198 := ⟨zo_29 (by decide +kernel), rfl⟩
theorem dX0_give_198 : Dc mX0_give 198 (.invokestatic 131) 3 201 := ⟨zo_184 (w := 0) (x := 131) (by decide +kernel), rfl⟩
theorem dX0_give_201 : Dc mX0_give 201 (.return_) 1 202 := ⟨zo_177 (by decide +kernel), rfl⟩
theorem dX0_filmOneAgain_0 : Dc mX0_filmOneAgain 0 (.iconst 0) 1 1 := ⟨zo_3 (by decide +kernel), rfl⟩
theorem dX0_filmOneAgain_1 : Dc mX0_filmOneAgain 1 (.istore_n 1) 1 2 := ⟨zo_60 (by decide +kernel), rfl⟩
theorem dX0_filmOneAgain_2 : Dc mX0_filmOneAgain 2 (.iload_n 1) 1 3 := ⟨zo_27 (by decide +kernel), rfl⟩
theorem dX0_filmOneAgain_3 : Dc mX0_filmOneAgain 3 (.aload_n 0) 1 4 := ⟨zo_42 (by decide +kernel), rfl⟩
theorem dX0_filmOneAgain_4 : Dc mX0_filmOneAgain 4 (.getfield 40) 3 7 := ⟨zo_180 (w := 0) (x := 40) (by decide +kernel), rfl⟩
theorem dX0_filmOneAgain_7 : Dc mX0_filmOneAgain 7 (.getfield 77) 3 10 := ⟨zo_180 (w := 0) (x := 77) (by decide +kernel), rfl⟩
theorem dX0_filmOneAgain_10 : Dc mX0_filmOneAgain 10 (.getfield 80) 3 13 := ⟨zo_180 (w := 0) (x := 80) (by decide +kernel), rfl⟩
theorem dX0_filmOneAgain_13 : Dc mX0_filmOneAgain 13 (.if_icmp .ge 114) 3 16 := ⟨zo_162 (w := 0) (x := 114) (by decide +kernel), rfl⟩
theorem dX0_filmOneAgain_16 : Dc mX0_filmOneAgain 16 (.aload_n 0) 1 17 := ⟨zo_42 (by decide +kernel), rfl⟩
theorem dX0_filmOneAgain_17 : Dc mX0_filmOneAgain 17 (.getfield 12) 3 20 := ⟨zo_180 (w := 0) (x := 12) (by decide +kernel), rfl⟩
theorem dX0_filmOneAgain_20 : Dc mX0_filmOneAgain 20 (.getfield 83) 3 23 := ⟨zo_180 (w := 0) (x := 83) (by decide +kernel), rfl⟩
theorem dX0_filmOneAgain_23 : Dc mX0_filmOneAgain 23 (.iload_n 1) 1 24 := ⟨zo_27 (by decide +kernel), rfl⟩
theorem dX0_filmOneAgain_24 : Dc mX0_filmOneAgain 24 (.invokestatic 86) 3 27 := ⟨zo_184 (w := 0) (x := 86) (by decide +kernel), rfl⟩
theorem dX0_filmOneAgain_27 : Dc mX0_filmOneAgain 27 (.ifCond .eq 94) 3 30 := ⟨zo_153 (w := 0) (x := 94) (by decide +kernel), rfl⟩
theorem dX0_filmOneAgain_30 : Dc mX0_filmOneAgain 30 (.aload_n 0) 1 31 := ⟨zo_42 (by decide +kernel), rfl⟩
theorem dX0_filmOneAgain_31 : Dc mX0_filmOneAgain 31 (.getfield 12) 3 34 := ⟨zo_180 (w := 0) (x := 12) (by decide +kernel), rfl⟩
theorem dX0_filmOneAgain_34 : Dc mX0_filmOneAgain 34 (.iload_n 1) 1 35 := ⟨zo_27 (by decide +kernel), rfl⟩
theorem dX0_filmOneAgain_35 : Dc mX0_filmOneAgain 35 (.invokevirtual 171) 3 38 := ⟨zo_182 (w := 0) (x := 171) (by decide +kernel), rfl⟩
theorem dX0_filmOneAgain_38 : Dc mX0_filmOneAgain 38 (.ifCond .le 83) 3 41 := ⟨zo_158 (w := 0) (x := 83) (by decide +kernel), rfl⟩
theorem dX0_filmOneAgain_41 : Dc mX0_filmOneAgain 41 (.aload_n 0) 1 42 := ⟨zo_42 (by decide +kernel), rfl⟩
theorem dX0_filmOneAgain_42 : Dc mX0_filmOneAgain 42 (.iload_n 1) 1 43 := ⟨zo_27 (by decide +kernel), rfl⟩
theorem dX0_filmOneAgain_43 : Dc mX0_filmOneAgain 43 (.invokevirtual 175) 3 46 := ⟨zo_182 (w := 0) (x := 175) (by decide +kernel), rfl⟩
theorem dX0_filmOneAgain_46 : Dc mX0_filmOneAgain 46 (.lstore_n 2) 1 47 := ⟨zo_65 (by decide +kernel), rfl⟩
theorem dX0_filmOneAgain_47 : Dc mX0_filmOneAgain 47 (.lload_n 2) 1 48 := ⟨zo_32 (by decide +kernel), rfl⟩
theorem dX0_filmOneAgain_48 : Dc mX0_filmOneAgain 48 (.ldc2_w 181) 3 51 := ⟨zo_20 (w := 0) (x := 181) (by decide +kernel), rfl⟩
theorem dX0_filmOneAgain_51 : Dc mX0_filmOneAgain 51 (.lcmp) 1 52 := ⟨zo_148 (by decide +kernel), rfl⟩
theorem dX0_filmOneAgain_52 : Dc mX0_filmOneAgain 52 (.ifCond .ne 21) 3 55 := ⟨zo_154 (w := 0) (x := 21) (by decide +kernel), rfl⟩
theorem dX0_filmOneAgain_55 : Dc mX0_filmOneAgain 55 (.aload_n 0) 1 56 := ⟨zo_42 (by decide +kernel), rfl⟩
theorem dX0_filmOneAgain_56 : Dc mX0_filmOneAgain 56 (.getfield 40) 3 59 := ⟨zo_180 (w := 0) (x := 40) (by decide +kernel), rfl⟩
theorem dX0_filmOneAgain_59 : Dc mX0_filmOneAgain 59 (.getfield 77) 3 62 := ⟨zo_180 (w := 0) (x := 77) (by decide +kernel), rfl⟩
theorem dX0_filmOneAgain_62 : Dc mX0_filmOneAgain 62 (.getfield 54) 3 65 := ⟨zo_180 (w := 0) (x := 54) (by decide +kernel), rfl⟩
theorem dX0_filmOneAgain_65 : Dc mX0_filmOneAgain 65 (.iload_n 1) 1 66 := ⟨zo_27 (by decide +kernel), rfl⟩
theorem dX0_filmOneAgain_66 : Dc mX0_filmOneAgain 66 (.invokestatic 86) 3 69 := ⟨zo_184 (w := 0) (x := 86) (by decide +kernel), rfl⟩
theorem dX0_filmOneAgain_69 : Dc mX0_filmOneAgain 69 (.i2l) 1 70 := ⟨zo_133 (by decide +kernel), rfl⟩
theorem dX0_filmOneAgain_70 : Dc mX0_filmOneAgain 70 (.goto 14) 3 73 := ⟨zo_167 (w := 0) (x := 14) (by decide +kernel), rfl⟩
theorem dX0_filmOneAgain_73 : Dc mX0_filmOneAgain 73 (.lconst 0) 1 74 := ⟨zo_9 (by decide +kernel), rfl⟩
theorem dX0_filmOneAgain_74 : Dc mX0_filmOneAgain 74 (.ldc2_w 183) 3 77 := ⟨zo_20 (w := 0) (x := 183) (by decide +kernel), rfl⟩
theorem dX0_filmOneAgain_77 : Dc mX0_filmOneAgain 77 (.lload_n 2) 1 78 := ⟨zo_32 (by decide +kernel), rfl⟩
theorem dX0_filmOneAgain_78 : Dc mX0_filmOneAgain 78 (.invokestatic 185) 3 81 := ⟨zo_184 (w := 0) (x := 185) (by decide +kernel), rfl⟩
theorem dX0_filmOneAgain_81 : Dc mX0_filmOneAgain 81 (.invokestatic 191) 3 84 := ⟨zo_184 (w := 0) (x := 191) (by decide +kernel), rfl⟩
theorem dX0_filmOneAgain_84 : Dc mX0_filmOneAgain 84 (.lstore 4) 2 86 := ⟨zo_55 (by decide +kernel), rfl⟩
theorem dX0_filmOneAgain_86 : Dc mX0_filmOneAgain 86 (.aload_n 0) 1 87 := ⟨zo_42 (by decide +kernel), rfl⟩
theorem dX0_filmOneAgain_87 : Dc mX0_filmOneAgain 87 (.getfield 12) 3 90 := ⟨zo_180 (w := 0) (x := 12) (by decide +kernel), rfl⟩
theorem dX0_filmOneAgain_90 : Dc mX0_filmOneAgain 90 (.getfield 194) 3 93 := ⟨zo_180 (w := 0) (x := 194) (by decide +kernel), rfl⟩
theorem dX0_filmOneAgain_93 : Dc mX0_filmOneAgain 93 (.i2l) 1 94 := ⟨zo_133 (by decide +kernel), rfl⟩
theorem dX0_filmOneAgain_94 : Dc mX0_filmOneAgain 94 (.lload 4) 2 96 := ⟨zo_22 (by decide +kernel), rfl⟩
theorem dX0_filmOneAgain_96 : Dc mX0_filmOneAgain 96 (.lcmp) 1 97 := ⟨zo_148 (by decide +kernel), rfl⟩
theorem dX0_filmOneAgain_97 : Dc mX0_filmOneAgain 97 (.ifCond .lt 24) 3 100 := ⟨zo_155 (w := 0) (x := 24) (by decide +kernel), rfl⟩
theorem dX0_filmOneAgain_100 : Dc mX0_filmOneAgain 100 (.aload_n 0) 1 101 := ⟨zo_42 (by decide +kernel), rfl⟩
theorem dX0_filmOneAgain_101 : Dc mX0_filmOneAgain 101 (.getfield 12) 3 104 := ⟨zo_180 (w := 0) (x := 12) (by decide +kernel), rfl⟩
theorem dX0_filmOneAgain_104 : Dc mX0_filmOneAgain 104 (.dup) 1 105 := ⟨zo_89 (by decide +kernel), rfl⟩
theorem dX0_filmOneAgain_105 : Dc mX0_filmOneAgain 105 (.getfield 194) 3 108 := ⟨zo_180 (w := 0) (x := 194) (by decide +kernel), rfl⟩
theorem dX0_filmOneAgain_108 : Dc mX0_filmOneAgain 108 (.lload 4) 2 110 := ⟨zo_22 (by decide +kernel), rfl⟩
theorem dX0_filmOneAgain_110 : Dc mX0_filmOneAgain 110 (.l2i) 1 111 := ⟨zo_136 (by decide +kernel), rfl⟩
theorem dX0_filmOneAgain_111 : Dc mX0_filmOneAgain 111 (.isub) 1 112 := ⟨zo_100 (by decide +kernel), rfl⟩
theorem dX0_filmOneAgain_112 : Dc mX0_filmOneAgain 112 (.putfield 194) 3 115 := ⟨zo_181 (w := 0) (x := 194) (by decide +kernel), rfl⟩
theorem dX0_filmOneAgain_115 : Dc mX0_filmOneAgain 115 (.aload_n 0) 1 116 := ⟨zo_42 (by decide +kernel), rfl⟩
theorem dX0_filmOneAgain_116 : Dc mX0_filmOneAgain 116 (.iload_n 1) 1 117 := ⟨zo_27 (by decide +kernel), rfl⟩
theorem dX0_filmOneAgain_117 : Dc mX0_filmOneAgain 117 (.invokevirtual 197) 3 120 := ⟨zo_182 (w := 0) (x := 197) (by decide +kernel), rfl⟩
theorem dX0_filmOneAgain_120 : Dc mX0_filmOneAgain 120 (.return_) 1 121 := ⟨zo_177 (by decide +kernel), rfl⟩
theorem dX0_filmOneAgain_121 : Dc mX0_filmOneAgain 121 (.iinc 1 1) 3 124 := ⟨zo_iinc (x := 1) (by decide +kernel), rfl⟩
theorem dX0_filmOneAgain_124 : Dc mX0_filmOneAgain 124 (.goto (-122)) 3 127 := ⟨zo_167 (w := 255) (x := 134) (by decide +kernel), rfl⟩
theorem dX0_filmOneAgain_127 : Dc mX0_filmOneAgain 127 (.return_) 1 128 := ⟨zo_177 (by decide +kernel), rfl⟩
theorem dX0_filmAgain_0 : Dc mX0_filmAgain 0 (.aload_n 0) 1 1 := ⟨zo_42 (by decide +kernel), rfl⟩
theorem dX0_filmAgain_1 : Dc mX0_filmAgain 1 (.getfield 12) 3 4 := ⟨zo_180 (w := 0) (x := 12) (by decide +kernel), rfl⟩
theorem dX0_filmAgain_4 : Dc mX0_filmAgain 4 (.dup) 1 5 := ⟨zo_89 (by decide +kernel), rfl⟩
theorem dX0_filmAgain_5 : Dc mX0_filmAgain 5 (.getfield 200) 3 8 := ⟨zo_180 (w := 0) (x := 200) (by decide +kernel), rfl⟩
theorem dX0_filmAgain_8 : Dc mX0_filmAgain 8 (.iconst 1) 1 9 := ⟨zo_4 (by decide +kernel), rfl⟩
theorem dX0_filmAgain_9 : Dc mX0_filmAgain 9 (.iadd) 1 10 := ⟨zo_96 (by decide +kernel), rfl⟩
theorem dX0_filmAgain_10 : Dc mX0_filmAgain 10 (.putfield 200) 3 13 := ⟨zo_181 (w := 0) (x := 200) (by decide +kernel), rfl⟩
theorem dX0_filmAgain_13 : Dc mX0_filmAgain 13 (.aload_n 0) 1 14 := ⟨zo_42 (by decide +kernel), rfl⟩
theorem dX0_filmAgain_14 : Dc mX0_filmAgain 14 (.getfield 12) 3 17 := ⟨zo_180 (w := 0) (x := 12) (by decide +kernel), rfl⟩
theorem dX0_filmAgain_17 : Dc mX0_filmAgain 17 (.getfield 203) 3 20 := ⟨zo_180 (w := 0) (x := 203) (by decide +kernel), rfl⟩
theorem dX0_filmAgain_20 : Dc mX0_filmAgain 20 (.iload_n 1) 1 21 := ⟨zo_27 (by decide +kernel), rfl⟩
theorem dX0_filmAgain_21 : Dc mX0_filmAgain 21 (.aload_n 0) 1 22 := ⟨zo_42 (by decide +kernel), rfl⟩
theorem dX0_filmAgain_22 : Dc mX0_filmAgain 22 (.getfield 12) 3 25 := ⟨zo_180 (w := 0) (x := 12) (by decide +kernel), rfl⟩
theorem dX0_filmAgain_25 : Dc mX0_filmAgain 25 (.getfield 203) 3 28 := ⟨zo_180 (w := 0) (x := 203) (by decide +kernel), rfl⟩
theorem dX0_filmAgain_28 : Dc mX0_filmAgain 28 (.iload_n 1) 1 29 := ⟨zo_27 (by decide +kernel), rfl⟩
theorem dX0_filmAgain_29 : Dc mX0_filmAgain 29 (.invokestatic 86) 3 32 := ⟨zo_184 (w := 0) (x := 86) (by decide +kernel), rfl⟩
theorem dX0_filmAgain_32 : Dc mX0_filmAgain 32 (.iconst 1) 1 33 := ⟨zo_4 (by decide +kernel), rfl⟩
theorem dX0_filmAgain_33 : Dc mX0_filmAgain 33 (.iadd) 1 34 := ⟨zo_96 (by decide +kernel), rfl⟩
theorem dX0_filmAgain_34 : Dc mX0_filmAgain 34 (.invokestatic 131) 3 37 := ⟨zo_184 (w := 0) (x := 131) (by decide +kernel), rfl⟩
theorem dX0_filmAgain_37 : Dc mX0_filmAgain 37 (.iconst 0) 1 38 := ⟨zo_3 (by decide +kernel), rfl⟩
theorem dX0_filmAgain_38 : Dc mX0_filmAgain 38 (.istore_n 2) 1 39 := ⟨zo_61 (by decide +kernel), rfl⟩
theorem dX0_filmAgain_39 : Dc mX0_filmAgain 39 (.iload_n 2) 1 40 := ⟨zo_28 (by decide +kernel), rfl⟩
theorem dX0_filmAgain_40 : Dc mX0_filmAgain 40 (.aload_n 0) 1 41 := ⟨zo_42 (by decide +kernel), rfl⟩
theorem dX0_filmAgain_41 : Dc mX0_filmAgain 41 (.getfield 40) 3 44 := ⟨zo_180 (w := 0) (x := 40) (by decide +kernel), rfl⟩
theorem dX0_filmAgain_44 : Dc mX0_filmAgain 44 (.getfield 48) 3 47 := ⟨zo_180 (w := 0) (x := 48) (by decide +kernel), rfl⟩
theorem dX0_filmAgain_47 : Dc mX0_filmAgain 47 (.getfield 80) 3 50 := ⟨zo_180 (w := 0) (x := 80) (by decide +kernel), rfl⟩
theorem dX0_filmAgain_50 : Dc mX0_filmAgain 50 (.if_icmp .ge 54) 3 53 := ⟨zo_162 (w := 0) (x := 54) (by decide +kernel), rfl⟩
theorem dX0_filmAgain_53 : Dc mX0_filmAgain 53 (.aload_n 0) 1 54 := ⟨zo_42 (by decide +kernel), rfl⟩
theorem dX0_filmAgain_54 : Dc mX0_filmAgain 54 (.getfield 12) 3 57 := ⟨zo_180 (w := 0) (x := 12) (by decide +kernel), rfl⟩
theorem dX0_filmAgain_57 : Dc mX0_filmAgain 57 (.getfield 139) 3 60 := ⟨zo_180 (w := 0) (x := 139) (by decide +kernel), rfl⟩
theorem dX0_filmAgain_60 : Dc mX0_filmAgain 60 (.iload_n 2) 1 61 := ⟨zo_28 (by decide +kernel), rfl⟩
theorem dX0_filmAgain_61 : Dc mX0_filmAgain 61 (.invokestatic 86) 3 64 := ⟨zo_184 (w := 0) (x := 86) (by decide +kernel), rfl⟩
theorem dX0_filmAgain_64 : Dc mX0_filmAgain 64 (.istore_n 3) 1 65 := ⟨zo_62 (by decide +kernel), rfl⟩
theorem dX0_filmAgain_65 : Dc mX0_filmAgain 65 (.iload_n 3) 1 66 := ⟨zo_29 (by decide +kernel), rfl⟩
theorem dX0_filmAgain_66 : Dc mX0_filmAgain 66 (.ifCond .lt 32) 3 69 := ⟨zo_155 (w := 0) (x := 32) (by decide +kernel), rfl⟩
theorem dX0_filmAgain_69 : Dc mX0_filmAgain 69 (.aload_n 0) 1 70 := ⟨zo_42 (by decide +kernel), rfl⟩
theorem dX0_filmAgain_70 : Dc mX0_filmAgain 70 (.getfield 12) 3 73 := ⟨zo_180 (w := 0) (x := 12) (by decide +kernel), rfl⟩
theorem dX0_filmAgain_73 : Dc mX0_filmAgain 73 (.iload_n 1) 1 74 := ⟨zo_27 (by decide +kernel), rfl⟩
theorem dX0_filmAgain_74 : Dc mX0_filmAgain 74 (.iload_n 2) 1 75 := ⟨zo_28 (by decide +kernel), rfl⟩
theorem dX0_filmAgain_75 : Dc mX0_filmAgain 75 (.invokevirtual 135) 3 78 := ⟨zo_182 (w := 0) (x := 135) (by decide +kernel), rfl⟩
theorem dX0_filmAgain_78 : Dc mX0_filmAgain 78 (.ifCond .lt 20) 3 81 := ⟨zo_155 (w := 0) (x := 20) (by decide +kernel), rfl⟩
theorem dX0_filmAgain_81 : Dc mX0_filmAgain 81 (.aload_n 0) 1 82 := ⟨zo_42 (by decide +kernel), rfl⟩
theorem dX0_filmAgain_82 : Dc mX0_filmAgain 82 (.getfield 12) 3 85 := ⟨zo_180 (w := 0) (x := 12) (by decide +kernel), rfl⟩
theorem dX0_filmAgain_85 : Dc mX0_filmAgain 85 (.getfield 142) 3 88 := ⟨zo_180 (w := 0) (x := 142) (by decide +kernel), rfl⟩
theorem dX0_filmAgain_88 : Dc mX0_filmAgain 88 (.iload_n 1) 1 89 := ⟨zo_27 (by decide +kernel), rfl⟩
theorem dX0_filmAgain_89 : Dc mX0_filmAgain 89 (.bipush 6) 2 91 := ⟨zo_16 (w := 6) (by decide +kernel), rfl⟩
theorem dX0_filmAgain_91 : Dc mX0_filmAgain 91 (.imul) 1 92 := ⟨zo_104 (by decide +kernel), rfl⟩
theorem dX0_filmAgain_92 : Dc mX0_filmAgain 92 (.iload_n 2) 1 93 := ⟨zo_28 (by decide +kernel), rfl⟩
theorem dX0_filmAgain_93 : Dc mX0_filmAgain 93 (.iadd) 1 94 := ⟨zo_96 (by decide +kernel), rfl⟩
theorem dX0_filmAgain_94 : Dc mX0_filmAgain 94 (.iload_n 3) 1 95 := ⟨zo_29 (by decide +kernel), rfl⟩
theorem dX0_filmAgain_95 : Dc mX0_filmAgain 95 (.invokestatic 131) 3 98 := ⟨zo_184 (w := 0) (x := 131) (by decide +kernel), rfl⟩
theorem dX0_filmAgain_98 : Dc mX0_filmAgain 98 (.iinc 2 1) 3 101 := ⟨zo_iinc (x := 1) (by decide +kernel), rfl⟩
theorem dX0_filmAgain_101 : Dc mX0_filmAgain 101 (.goto (-62)) 3 104 := ⟨zo_167 (w := 255) (x := 194) (by decide +kernel), rfl⟩
theorem dX0_filmAgain_104 : Dc mX0_filmAgain 104 (.return_) 1 105 := ⟨zo_177 (by decide +kernel), rfl⟩
theorem dX0_isSo_0 : Dc mX0_isSo 0 (.lload_n 0) 1 1 := ⟨zo_30 (by decide +kernel), rfl⟩
theorem dX0_isSo_1 : Dc mX0_isSo 1 (.ldc2_w 181) 3 4 := ⟨zo_20 (w := 0) (x := 181) (by decide +kernel), rfl⟩
theorem dX0_isSo_4 : Dc mX0_isSo 4 (.lcmp) 1 5 := ⟨zo_148 (by decide +kernel), rfl⟩
theorem dX0_isSo_5 : Dc mX0_isSo 5 (.ifCond .ne 7) 3 8 := ⟨zo_154 (w := 0) (x := 7) (by decide +kernel), rfl⟩
theorem dX0_isSo_8 : Dc mX0_isSo 8 (.iload_n 2) 1 9 := ⟨zo_28 (by decide +kernel), rfl⟩
theorem dX0_isSo_9 : Dc mX0_isSo 9 (.goto 14) 3 12 := ⟨zo_167 (w := 0) (x := 14) (by decide +kernel), rfl⟩
theorem dX0_isSo_12 : Dc mX0_isSo 12 (.lload_n 0) 1 13 := ⟨zo_30 (by decide +kernel), rfl⟩
theorem dX0_isSo_13 : Dc mX0_isSo 13 (.lconst 0) 1 14 := ⟨zo_9 (by decide +kernel), rfl⟩
theorem dX0_isSo_14 : Dc mX0_isSo 14 (.lcmp) 1 15 := ⟨zo_148 (by decide +kernel), rfl⟩
theorem dX0_isSo_15 : Dc mX0_isSo 15 (.ifCond .eq 7) 3 18 := ⟨zo_153 (w := 0) (x := 7) (by decide +kernel), rfl⟩
theorem dX0_isSo_18 : Dc mX0_isSo 18 (.iconst 1) 1 19 := ⟨zo_4 (by decide +kernel), rfl⟩
theorem dX0_isSo_19 : Dc mX0_isSo 19 (.goto 4) 3 22 := ⟨zo_167 (w := 0) (x := 4) (by decide +kernel), rfl⟩
theorem dX0_isSo_22 : Dc mX0_isSo 22 (.iconst 0) 1 23 := ⟨zo_3 (by decide +kernel), rfl⟩
theorem dX0_isSo_23 : Dc mX0_isSo 23 (.ireturn) 1 24 := ⟨zo_172 (by decide +kernel), rfl⟩
theorem dX0_noticeWorth_0 : Dc mX0_noticeWorth 0 (.aload_n 0) 1 1 := ⟨zo_42 (by decide +kernel), rfl⟩
theorem dX0_noticeWorth_1 : Dc mX0_noticeWorth 1 (.aload_n 0) 1 2 := ⟨zo_42 (by decide +kernel), rfl⟩
theorem dX0_noticeWorth_2 : Dc mX0_noticeWorth 2 (.getfield 40) 3 5 := ⟨zo_180 (w := 0) (x := 40) (by decide +kernel), rfl⟩
theorem dX0_noticeWorth_5 : Dc mX0_noticeWorth 5 (.getfield 206) 3 8 := ⟨zo_180 (w := 0) (x := 206) (by decide +kernel), rfl⟩
theorem dX0_noticeWorth_8 : Dc mX0_noticeWorth 8 (.aload_n 0) 1 9 := ⟨zo_42 (by decide +kernel), rfl⟩
theorem dX0_noticeWorth_9 : Dc mX0_noticeWorth 9 (.getfield 18) 3 12 := ⟨zo_180 (w := 0) (x := 18) (by decide +kernel), rfl⟩
theorem dX0_noticeWorth_12 : Dc mX0_noticeWorth 12 (.iload_n 2) 1 13 := ⟨zo_28 (by decide +kernel), rfl⟩
theorem dX0_noticeWorth_13 : Dc mX0_noticeWorth 13 (.invokestatic 86) 3 16 := ⟨zo_184 (w := 0) (x := 86) (by decide +kernel), rfl⟩
theorem dX0_noticeWorth_16 : Dc mX0_noticeWorth 16 (.aload_n 0) 1 17 := ⟨zo_42 (by decide +kernel), rfl⟩
theorem dX0_noticeWorth_17 : Dc mX0_noticeWorth 17 (.getfield 12) 3 20 := ⟨zo_180 (w := 0) (x := 12) (by decide +kernel), rfl⟩
theorem dX0_noticeWorth_20 : Dc mX0_noticeWorth 20 (.getfield 162) 3 23 := ⟨zo_180 (w := 0) (x := 162) (by decide +kernel), rfl⟩
theorem dX0_noticeWorth_23 : Dc mX0_noticeWorth 23 (.iload_n 2) 1 24 := ⟨zo_28 (by decide +kernel), rfl⟩
theorem dX0_noticeWorth_24 : Dc mX0_noticeWorth 24 (.invokestatic 86) 3 27 := ⟨zo_184 (w := 0) (x := 86) (by decide +kernel), rfl⟩
theorem dX0_noticeWorth_27 : Dc mX0_noticeWorth 27 (.aload_n 0) 1 28 := ⟨zo_42 (by decide +kernel), rfl⟩
theorem dX0_noticeWorth_28 : Dc mX0_noticeWorth 28 (.iload_n 2) 1 29 := ⟨zo_28 (by decide +kernel), rfl⟩
theorem dX0_noticeWorth_29 : Dc mX0_noticeWorth 29 (.invokevirtual 210) 3 32 := ⟨zo_182 (w := 0) (x := 210) (by decide +kernel), rfl⟩
theorem dX0_noticeWorth_32 : Dc mX0_noticeWorth 32 (.aload_n 0) 1 33 := ⟨zo_42 (by decide +kernel), rfl⟩
theorem dX0_noticeWorth_33 : Dc mX0_noticeWorth 33 (.getfield 12) 3 36 := ⟨zo_180 (w := 0) (x := 12) (by decide +kernel), rfl⟩
theorem dX0_noticeWorth_36 : Dc mX0_noticeWorth 36 (.iload_n 2) 1 37 := ⟨zo_28 (by decide +kernel), rfl⟩
theorem dX0_noticeWorth_37 : Dc mX0_noticeWorth 37 (.iload_n 1) 1 38 := ⟨zo_27 (by decide +kernel), rfl⟩
theorem dX0_noticeWorth_38 : Dc mX0_noticeWorth 38 (.invokevirtual 213) 3 41 := ⟨zo_182 (w := 0) (x := 213) (by decide +kernel), rfl⟩
theorem dX0_noticeWorth_41 : Dc mX0_noticeWorth 41 (.aload_n 0) 1 42 := ⟨zo_42 (by decide +kernel), rfl⟩
theorem dX0_noticeWorth_42 : Dc mX0_noticeWorth 42 (.getfield 40) 3 45 := ⟨zo_180 (w := 0) (x := 40) (by decide +kernel), rfl⟩
theorem dX0_noticeWorth_45 : Dc mX0_noticeWorth 45 (.getfield 77) 3 48 := ⟨zo_180 (w := 0) (x := 77) (by decide +kernel), rfl⟩
theorem dX0_noticeWorth_48 : Dc mX0_noticeWorth 48 (.getfield 54) 3 51 := ⟨zo_180 (w := 0) (x := 54) (by decide +kernel), rfl⟩
theorem dX0_noticeWorth_51 : Dc mX0_noticeWorth 51 (.iload_n 1) 1 52 := ⟨zo_27 (by decide +kernel), rfl⟩
theorem dX0_noticeWorth_52 : Dc mX0_noticeWorth 52 (.invokestatic 86) 3 55 := ⟨zo_184 (w := 0) (x := 86) (by decide +kernel), rfl⟩
theorem dX0_noticeWorth_55 : Dc mX0_noticeWorth 55 (.invokevirtual 216) 3 58 := ⟨zo_182 (w := 0) (x := 216) (by decide +kernel), rfl⟩
theorem dX0_noticeWorth_58 : Dc mX0_noticeWorth 58 (.lreturn) 1 59 := ⟨zo_173 (by decide +kernel), rfl⟩
theorem dX0_yieldWorth_0 : Dc mX0_yieldWorth 0 (.aload_n 0) 1 1 := ⟨zo_42 (by decide +kernel), rfl⟩
theorem dX0_yieldWorth_1 : Dc mX0_yieldWorth 1 (.aload_n 0) 1 2 := ⟨zo_42 (by decide +kernel), rfl⟩
theorem dX0_yieldWorth_2 : Dc mX0_yieldWorth 2 (.getfield 40) 3 5 := ⟨zo_180 (w := 0) (x := 40) (by decide +kernel), rfl⟩
theorem dX0_yieldWorth_5 : Dc mX0_yieldWorth 5 (.getfield 220) 3 8 := ⟨zo_180 (w := 0) (x := 220) (by decide +kernel), rfl⟩
theorem dX0_yieldWorth_8 : Dc mX0_yieldWorth 8 (.aload_n 0) 1 9 := ⟨zo_42 (by decide +kernel), rfl⟩
theorem dX0_yieldWorth_9 : Dc mX0_yieldWorth 9 (.getfield 18) 3 12 := ⟨zo_180 (w := 0) (x := 18) (by decide +kernel), rfl⟩
theorem dX0_yieldWorth_12 : Dc mX0_yieldWorth 12 (.iload_n 1) 1 13 := ⟨zo_27 (by decide +kernel), rfl⟩
theorem dX0_yieldWorth_13 : Dc mX0_yieldWorth 13 (.invokestatic 86) 3 16 := ⟨zo_184 (w := 0) (x := 86) (by decide +kernel), rfl⟩
theorem dX0_yieldWorth_16 : Dc mX0_yieldWorth 16 (.iload_n 2) 1 17 := ⟨zo_28 (by decide +kernel), rfl⟩
theorem dX0_yieldWorth_17 : Dc mX0_yieldWorth 17 (.aload_n 0) 1 18 := ⟨zo_42 (by decide +kernel), rfl⟩
theorem dX0_yieldWorth_18 : Dc mX0_yieldWorth 18 (.iload_n 1) 1 19 := ⟨zo_27 (by decide +kernel), rfl⟩
theorem dX0_yieldWorth_19 : Dc mX0_yieldWorth 19 (.invokevirtual 210) 3 22 := ⟨zo_182 (w := 0) (x := 210) (by decide +kernel), rfl⟩
theorem dX0_yieldWorth_22 : Dc mX0_yieldWorth 22 (.aload_n 0) 1 23 := ⟨zo_42 (by decide +kernel), rfl⟩
theorem dX0_yieldWorth_23 : Dc mX0_yieldWorth 23 (.getfield 12) 3 26 := ⟨zo_180 (w := 0) (x := 12) (by decide +kernel), rfl⟩
theorem dX0_yieldWorth_26 : Dc mX0_yieldWorth 26 (.iload_n 1) 1 27 := ⟨zo_27 (by decide +kernel), rfl⟩
theorem dX0_yieldWorth_27 : Dc mX0_yieldWorth 27 (.iconst (-1)) 1 28 := ⟨zo_2 (by decide +kernel), rfl⟩
theorem dX0_yieldWorth_28 : Dc mX0_yieldWorth 28 (.invokevirtual 213) 3 31 := ⟨zo_182 (w := 0) (x := 213) (by decide +kernel), rfl⟩
theorem dX0_yieldWorth_31 : Dc mX0_yieldWorth 31 (.iconst 0) 1 32 := ⟨zo_3 (by decide +kernel), rfl⟩
theorem dX0_yieldWorth_32 : Dc mX0_yieldWorth 32 (.invokevirtual 216) 3 35 := ⟨zo_182 (w := 0) (x := 216) (by decide +kernel), rfl⟩
theorem dX0_yieldWorth_35 : Dc mX0_yieldWorth 35 (.lreturn) 1 36 := ⟨zo_173 (by decide +kernel), rfl⟩
theorem dX0_againWorth_0 : Dc mX0_againWorth 0 (.aload_n 0) 1 1 := ⟨zo_42 (by decide +kernel), rfl⟩
theorem dX0_againWorth_1 : Dc mX0_againWorth 1 (.aload_n 0) 1 2 := ⟨zo_42 (by decide +kernel), rfl⟩
theorem dX0_againWorth_2 : Dc mX0_againWorth 2 (.getfield 40) 3 5 := ⟨zo_180 (w := 0) (x := 40) (by decide +kernel), rfl⟩
theorem dX0_againWorth_5 : Dc mX0_againWorth 5 (.getfield 223) 3 8 := ⟨zo_180 (w := 0) (x := 223) (by decide +kernel), rfl⟩
theorem dX0_againWorth_8 : Dc mX0_againWorth 8 (.iconst 0) 1 9 := ⟨zo_3 (by decide +kernel), rfl⟩
theorem dX0_againWorth_9 : Dc mX0_againWorth 9 (.aload_n 0) 1 10 := ⟨zo_42 (by decide +kernel), rfl⟩
theorem dX0_againWorth_10 : Dc mX0_againWorth 10 (.getfield 12) 3 13 := ⟨zo_180 (w := 0) (x := 12) (by decide +kernel), rfl⟩
theorem dX0_againWorth_13 : Dc mX0_againWorth 13 (.invokevirtual 226) 3 16 := ⟨zo_182 (w := 0) (x := 226) (by decide +kernel), rfl⟩
theorem dX0_againWorth_16 : Dc mX0_againWorth 16 (.aload_n 0) 1 17 := ⟨zo_42 (by decide +kernel), rfl⟩
theorem dX0_againWorth_17 : Dc mX0_againWorth 17 (.getfield 12) 3 20 := ⟨zo_180 (w := 0) (x := 12) (by decide +kernel), rfl⟩
theorem dX0_againWorth_20 : Dc mX0_againWorth 20 (.iload_n 1) 1 21 := ⟨zo_27 (by decide +kernel), rfl⟩
theorem dX0_againWorth_21 : Dc mX0_againWorth 21 (.invokevirtual 171) 3 24 := ⟨zo_182 (w := 0) (x := 171) (by decide +kernel), rfl⟩
theorem dX0_againWorth_24 : Dc mX0_againWorth 24 (.aload_n 0) 1 25 := ⟨zo_42 (by decide +kernel), rfl⟩
theorem dX0_againWorth_25 : Dc mX0_againWorth 25 (.getfield 12) 3 28 := ⟨zo_180 (w := 0) (x := 12) (by decide +kernel), rfl⟩
theorem dX0_againWorth_28 : Dc mX0_againWorth 28 (.iload_n 1) 1 29 := ⟨zo_27 (by decide +kernel), rfl⟩
theorem dX0_againWorth_29 : Dc mX0_againWorth 29 (.invokevirtual 230) 3 32 := ⟨zo_182 (w := 0) (x := 230) (by decide +kernel), rfl⟩
theorem dX0_againWorth_32 : Dc mX0_againWorth 32 (.aload_n 0) 1 33 := ⟨zo_42 (by decide +kernel), rfl⟩
theorem dX0_againWorth_33 : Dc mX0_againWorth 33 (.getfield 40) 3 36 := ⟨zo_180 (w := 0) (x := 40) (by decide +kernel), rfl⟩
theorem dX0_againWorth_36 : Dc mX0_againWorth 36 (.getfield 77) 3 39 := ⟨zo_180 (w := 0) (x := 77) (by decide +kernel), rfl⟩
theorem dX0_againWorth_39 : Dc mX0_againWorth 39 (.getfield 54) 3 42 := ⟨zo_180 (w := 0) (x := 54) (by decide +kernel), rfl⟩
theorem dX0_againWorth_42 : Dc mX0_againWorth 42 (.iload_n 1) 1 43 := ⟨zo_27 (by decide +kernel), rfl⟩
theorem dX0_againWorth_43 : Dc mX0_againWorth 43 (.invokestatic 86) 3 46 := ⟨zo_184 (w := 0) (x := 86) (by decide +kernel), rfl⟩
theorem dX0_againWorth_46 : Dc mX0_againWorth 46 (.invokevirtual 216) 3 49 := ⟨zo_182 (w := 0) (x := 216) (by decide +kernel), rfl⟩
theorem dX0_againWorth_49 : Dc mX0_againWorth 49 (.lreturn) 1 50 := ⟨zo_173 (by decide +kernel), rfl⟩
theorem dX0_isSaid_0 : Dc mX0_isSaid 0 (.aload_n 0) 1 1 := ⟨zo_42 (by decide +kernel), rfl⟩
theorem dX0_isSaid_1 : Dc mX0_isSaid 1 (.getfield 12) 3 4 := ⟨zo_180 (w := 0) (x := 12) (by decide +kernel), rfl⟩
theorem dX0_isSaid_4 : Dc mX0_isSaid 4 (.getfield 139) 3 7 := ⟨zo_180 (w := 0) (x := 139) (by decide +kernel), rfl⟩
theorem dX0_isSaid_7 : Dc mX0_isSaid 7 (.iload_n 1) 1 8 := ⟨zo_27 (by decide +kernel), rfl⟩
theorem dX0_isSaid_8 : Dc mX0_isSaid 8 (.invokestatic 86) 3 11 := ⟨zo_184 (w := 0) (x := 86) (by decide +kernel), rfl⟩
theorem dX0_isSaid_11 : Dc mX0_isSaid 11 (.ifCond .lt 7) 3 14 := ⟨zo_155 (w := 0) (x := 7) (by decide +kernel), rfl⟩
theorem dX0_isSaid_14 : Dc mX0_isSaid 14 (.iconst 1) 1 15 := ⟨zo_4 (by decide +kernel), rfl⟩
theorem dX0_isSaid_15 : Dc mX0_isSaid 15 (.goto 4) 3 18 := ⟨zo_167 (w := 0) (x := 4) (by decide +kernel), rfl⟩
theorem dX0_isSaid_18 : Dc mX0_isSaid 18 (.iconst 0) 1 19 := ⟨zo_3 (by decide +kernel), rfl⟩
theorem dX0_isSaid_19 : Dc mX0_isSaid 19 (.ireturn) 1 20 := ⟨zo_172 (by decide +kernel), rfl⟩
theorem dX0_worthOf_0 : Dc mX0_worthOf 0 (.aload_n 1) 1 1 := ⟨zo_43 (by decide +kernel), rfl⟩
theorem dX0_worthOf_1 : Dc mX0_worthOf 1 (.getfield 233) 3 4 := ⟨zo_180 (w := 0) (x := 233) (by decide +kernel), rfl⟩
theorem dX0_worthOf_4 : Dc mX0_worthOf 4 (.ifCond .eq 13) 3 7 := ⟨zo_153 (w := 0) (x := 13) (by decide +kernel), rfl⟩
theorem dX0_worthOf_7 : Dc mX0_worthOf 7 (.aload_n 0) 1 8 := ⟨zo_42 (by decide +kernel), rfl⟩
theorem dX0_worthOf_8 : Dc mX0_worthOf 8 (.getfield 26) 3 11 := ⟨zo_180 (w := 0) (x := 26) (by decide +kernel), rfl⟩
theorem dX0_worthOf_11 : Dc mX0_worthOf 11 (.arraylength) 1 12 := ⟨zo_190 (by decide +kernel), rfl⟩
theorem dX0_worthOf_12 : Dc mX0_worthOf 12 (.bipush 7) 2 14 := ⟨zo_16 (w := 7) (by decide +kernel), rfl⟩
theorem dX0_worthOf_14 : Dc mX0_worthOf 14 (.if_icmp .ge 7) 3 17 := ⟨zo_162 (w := 0) (x := 7) (by decide +kernel), rfl⟩
theorem dX0_worthOf_17 : Dc mX0_worthOf 17 (.ldc2_w 181) 3 20 := ⟨zo_20 (w := 0) (x := 181) (by decide +kernel), rfl⟩
theorem dX0_worthOf_20 : Dc mX0_worthOf 20 (.lreturn) 1 21 := ⟨zo_173 (by decide +kernel), rfl⟩
theorem dX0_worthOf_21 : Dc mX0_worthOf 21 (.aload_n 0) 1 22 := ⟨zo_42 (by decide +kernel), rfl⟩
theorem dX0_worthOf_22 : Dc mX0_worthOf 22 (.getfield 26) 3 25 := ⟨zo_180 (w := 0) (x := 26) (by decide +kernel), rfl⟩
theorem dX0_worthOf_25 : Dc mX0_worthOf 25 (.iconst 0) 1 26 := ⟨zo_3 (by decide +kernel), rfl⟩
theorem dX0_worthOf_26 : Dc mX0_worthOf 26 (.iload_n 2) 1 27 := ⟨zo_28 (by decide +kernel), rfl⟩
theorem dX0_worthOf_27 : Dc mX0_worthOf 27 (.i2l) 1 28 := ⟨zo_133 (by decide +kernel), rfl⟩
theorem dX0_worthOf_28 : Dc mX0_worthOf 28 (.lastore) 1 29 := ⟨zo_80 (by decide +kernel), rfl⟩
theorem dX0_worthOf_29 : Dc mX0_worthOf 29 (.aload_n 0) 1 30 := ⟨zo_42 (by decide +kernel), rfl⟩
theorem dX0_worthOf_30 : Dc mX0_worthOf 30 (.getfield 26) 3 33 := ⟨zo_180 (w := 0) (x := 26) (by decide +kernel), rfl⟩
theorem dX0_worthOf_33 : Dc mX0_worthOf 33 (.iconst 1) 1 34 := ⟨zo_4 (by decide +kernel), rfl⟩
theorem dX0_worthOf_34 : Dc mX0_worthOf 34 (.iload_n 3) 1 35 := ⟨zo_29 (by decide +kernel), rfl⟩
theorem dX0_worthOf_35 : Dc mX0_worthOf 35 (.i2l) 1 36 := ⟨zo_133 (by decide +kernel), rfl⟩
theorem dX0_worthOf_36 : Dc mX0_worthOf 36 (.lastore) 1 37 := ⟨zo_80 (by decide +kernel), rfl⟩
theorem dX0_worthOf_37 : Dc mX0_worthOf 37 (.aload_n 0) 1 38 := ⟨zo_42 (by decide +kernel), rfl⟩
theorem dX0_worthOf_38 : Dc mX0_worthOf 38 (.getfield 26) 3 41 := ⟨zo_180 (w := 0) (x := 26) (by decide +kernel), rfl⟩
theorem dX0_worthOf_41 : Dc mX0_worthOf 41 (.iconst 2) 1 42 := ⟨zo_5 (by decide +kernel), rfl⟩
theorem dX0_worthOf_42 : Dc mX0_worthOf 42 (.iload 4) 2 44 := ⟨zo_21 (by decide +kernel), rfl⟩
theorem dX0_worthOf_44 : Dc mX0_worthOf 44 (.i2l) 1 45 := ⟨zo_133 (by decide +kernel), rfl⟩
theorem dX0_worthOf_45 : Dc mX0_worthOf 45 (.lastore) 1 46 := ⟨zo_80 (by decide +kernel), rfl⟩
theorem dX0_worthOf_46 : Dc mX0_worthOf 46 (.aload_n 0) 1 47 := ⟨zo_42 (by decide +kernel), rfl⟩
theorem dX0_worthOf_47 : Dc mX0_worthOf 47 (.getfield 26) 3 50 := ⟨zo_180 (w := 0) (x := 26) (by decide +kernel), rfl⟩
theorem dX0_worthOf_50 : Dc mX0_worthOf 50 (.iconst 3) 1 51 := ⟨zo_6 (by decide +kernel), rfl⟩
theorem dX0_worthOf_51 : Dc mX0_worthOf 51 (.iload 5) 2 53 := ⟨zo_21 (by decide +kernel), rfl⟩
theorem dX0_worthOf_53 : Dc mX0_worthOf 53 (.i2l) 1 54 := ⟨zo_133 (by decide +kernel), rfl⟩
theorem dX0_worthOf_54 : Dc mX0_worthOf 54 (.lastore) 1 55 := ⟨zo_80 (by decide +kernel), rfl⟩
theorem dX0_worthOf_55 : Dc mX0_worthOf 55 (.aload_n 0) 1 56 := ⟨zo_42 (by decide +kernel), rfl⟩
theorem dX0_worthOf_56 : Dc mX0_worthOf 56 (.getfield 26) 3 59 := ⟨zo_180 (w := 0) (x := 26) (by decide +kernel), rfl⟩
theorem dX0_worthOf_59 : Dc mX0_worthOf 59 (.iconst 4) 1 60 := ⟨zo_7 (by decide +kernel), rfl⟩
theorem dX0_worthOf_60 : Dc mX0_worthOf 60 (.iload 6) 2 62 := ⟨zo_21 (by decide +kernel), rfl⟩
theorem dX0_worthOf_62 : Dc mX0_worthOf 62 (.i2l) 1 63 := ⟨zo_133 (by decide +kernel), rfl⟩
theorem dX0_worthOf_63 : Dc mX0_worthOf 63 (.lastore) 1 64 := ⟨zo_80 (by decide +kernel), rfl⟩
theorem dX0_worthOf_64 : Dc mX0_worthOf 64 (.aload_n 0) 1 65 := ⟨zo_42 (by decide +kernel), rfl⟩
theorem dX0_worthOf_65 : Dc mX0_worthOf 65 (.getfield 26) 3 68 := ⟨zo_180 (w := 0) (x := 26) (by decide +kernel), rfl⟩
theorem dX0_worthOf_68 : Dc mX0_worthOf 68 (.iconst 5) 1 69 := ⟨zo_8 (by decide +kernel), rfl⟩
theorem dX0_worthOf_69 : Dc mX0_worthOf 69 (.aload_n 0) 1 70 := ⟨zo_42 (by decide +kernel), rfl⟩
theorem dX0_worthOf_70 : Dc mX0_worthOf 70 (.getfield 12) 3 73 := ⟨zo_180 (w := 0) (x := 12) (by decide +kernel), rfl⟩
theorem dX0_worthOf_73 : Dc mX0_worthOf 73 (.getfield 93) 3 76 := ⟨zo_180 (w := 0) (x := 93) (by decide +kernel), rfl⟩
theorem dX0_worthOf_76 : Dc mX0_worthOf 76 (.i2l) 1 77 := ⟨zo_133 (by decide +kernel), rfl⟩
theorem dX0_worthOf_77 : Dc mX0_worthOf 77 (.lastore) 1 78 := ⟨zo_80 (by decide +kernel), rfl⟩
theorem dX0_worthOf_78 : Dc mX0_worthOf 78 (.aload_n 0) 1 79 := ⟨zo_42 (by decide +kernel), rfl⟩
theorem dX0_worthOf_79 : Dc mX0_worthOf 79 (.getfield 26) 3 82 := ⟨zo_180 (w := 0) (x := 26) (by decide +kernel), rfl⟩
theorem dX0_worthOf_82 : Dc mX0_worthOf 82 (.bipush 6) 2 84 := ⟨zo_16 (w := 6) (by decide +kernel), rfl⟩
theorem dX0_worthOf_84 : Dc mX0_worthOf 84 (.aload_n 0) 1 85 := ⟨zo_42 (by decide +kernel), rfl⟩
theorem dX0_worthOf_85 : Dc mX0_worthOf 85 (.getfield 12) 3 88 := ⟨zo_180 (w := 0) (x := 12) (by decide +kernel), rfl⟩
theorem dX0_worthOf_88 : Dc mX0_worthOf 88 (.getfield 74) 3 91 := ⟨zo_180 (w := 0) (x := 74) (by decide +kernel), rfl⟩
theorem dX0_worthOf_91 : Dc mX0_worthOf 91 (.i2l) 1 92 := ⟨zo_133 (by decide +kernel), rfl⟩
theorem dX0_worthOf_92 : Dc mX0_worthOf 92 (.lastore) 1 93 := ⟨zo_80 (by decide +kernel), rfl⟩
theorem dX0_worthOf_93 : Dc mX0_worthOf 93 (.aload_n 1) 1 94 := ⟨zo_43 (by decide +kernel), rfl⟩
theorem dX0_worthOf_94 : Dc mX0_worthOf 94 (.aload_n 0) 1 95 := ⟨zo_42 (by decide +kernel), rfl⟩
theorem dX0_worthOf_95 : Dc mX0_worthOf 95 (.getfield 26) 3 98 := ⟨zo_180 (w := 0) (x := 26) (by decide +kernel), rfl⟩
theorem dX0_worthOf_98 : Dc mX0_worthOf 98 (.invokevirtual 235) 3 101 := ⟨zo_182 (w := 0) (x := 235) (by decide +kernel), rfl⟩
theorem dX0_worthOf_101 : Dc mX0_worthOf 101 (.lreturn) 1 102 := ⟨zo_173 (by decide +kernel), rfl⟩
theorem dX1_init_0 : Dc mX1_init 0 (.aload_n 0) 1 1 := ⟨zo_42 (by decide +kernel), rfl⟩
theorem dX1_init_1 : Dc mX1_init 1 (.invokespecial 3) 3 4 := ⟨zo_183 (w := 0) (x := 3) (by decide +kernel), rfl⟩
theorem dX1_init_4 : Dc mX1_init 4 (.aload_n 0) 1 5 := ⟨zo_42 (by decide +kernel), rfl⟩
theorem dX1_init_5 : Dc mX1_init 5 (.iconst 0) 1 6 := ⟨zo_3 (by decide +kernel), rfl⟩
theorem dX1_init_6 : Dc mX1_init 6 (.putfield 9) 3 9 := ⟨zo_181 (w := 0) (x := 9) (by decide +kernel), rfl⟩
theorem dX1_init_9 : Dc mX1_init 9 (.aload_n 0) 1 10 := ⟨zo_42 (by decide +kernel), rfl⟩
theorem dX1_init_10 : Dc mX1_init 10 (.iconst 0) 1 11 := ⟨zo_3 (by decide +kernel), rfl⟩
theorem dX1_init_11 : Dc mX1_init 11 (.putfield 15) 3 14 := ⟨zo_181 (w := 0) (x := 15) (by decide +kernel), rfl⟩
theorem dX1_init_14 : Dc mX1_init 14 (.aload_n 0) 1 15 := ⟨zo_42 (by decide +kernel), rfl⟩
theorem dX1_init_15 : Dc mX1_init 15 (.bipush 64) 2 17 := ⟨zo_16 (w := 64) (by decide +kernel), rfl⟩
theorem dX1_init_17 : Dc mX1_init 17 (.newarray .int) 2 19 := ⟨by decide +kernel, rfl⟩
theorem dX1_init_19 : Dc mX1_init 19 (.putfield 19) 3 22 := ⟨zo_181 (w := 0) (x := 19) (by decide +kernel), rfl⟩
theorem dX1_init_22 : Dc mX1_init 22 (.aload_n 0) 1 23 := ⟨zo_42 (by decide +kernel), rfl⟩
theorem dX1_init_23 : Dc mX1_init 23 (.bipush 64) 2 25 := ⟨zo_16 (w := 64) (by decide +kernel), rfl⟩
theorem dX1_init_25 : Dc mX1_init 25 (.newarray .int) 2 27 := ⟨by decide +kernel, rfl⟩
theorem dX1_init_27 : Dc mX1_init 27 (.putfield 23) 3 30 := ⟨zo_181 (w := 0) (x := 23) (by decide +kernel), rfl⟩
theorem dX1_init_30 : Dc mX1_init 30 (.aload_n 0) 1 31 := ⟨zo_42 (by decide +kernel), rfl⟩
theorem dX1_init_31 : Dc mX1_init 31 (.bipush 64) 2 33 := ⟨zo_16 (w := 64) (by decide +kernel), rfl⟩
theorem dX1_init_33 : Dc mX1_init 33 (.newarray .long) 2 35 := ⟨by decide +kernel, rfl⟩
theorem dX1_init_35 : Dc mX1_init 35 (.putfield 26) 3 38 := ⟨zo_181 (w := 0) (x := 26) (by decide +kernel), rfl⟩
theorem dX1_init_38 : Dc mX1_init 38 (.return_) 1 39 := ⟨zo_177 (by decide +kernel), rfl⟩
theorem dX1_clear_0 : Dc mX1_clear 0 (.aload_n 0) 1 1 := ⟨zo_42 (by decide +kernel), rfl⟩
theorem dX1_clear_1 : Dc mX1_clear 1 (.iconst 0) 1 2 := ⟨zo_3 (by decide +kernel), rfl⟩
theorem dX1_clear_2 : Dc mX1_clear 2 (.putfield 9) 3 5 := ⟨zo_181 (w := 0) (x := 9) (by decide +kernel), rfl⟩
theorem dX1_clear_5 : Dc mX1_clear 5 (.aload_n 0) 1 6 := ⟨zo_42 (by decide +kernel), rfl⟩
theorem dX1_clear_6 : Dc mX1_clear 6 (.iconst 0) 1 7 := ⟨zo_3 (by decide +kernel), rfl⟩
theorem dX1_clear_7 : Dc mX1_clear 7 (.putfield 15) 3 10 := ⟨zo_181 (w := 0) (x := 15) (by decide +kernel), rfl⟩
theorem dX1_clear_10 : Dc mX1_clear 10 (.return_) 1 11 := ⟨zo_177 (by decide +kernel), rfl⟩
theorem dX1_copy_0 : Dc mX1_copy 0 (.aload_n 0) 1 1 := ⟨zo_42 (by decide +kernel), rfl⟩
theorem dX1_copy_1 : Dc mX1_copy 1 (.aload_n 1) 1 2 := ⟨zo_43 (by decide +kernel), rfl⟩
theorem dX1_copy_2 : Dc mX1_copy 2 (.getfield 9) 3 5 := ⟨zo_180 (w := 0) (x := 9) (by decide +kernel), rfl⟩
theorem dX1_copy_5 : Dc mX1_copy 5 (.putfield 9) 3 8 := ⟨zo_181 (w := 0) (x := 9) (by decide +kernel), rfl⟩
theorem dX1_copy_8 : Dc mX1_copy 8 (.aload_n 0) 1 9 := ⟨zo_42 (by decide +kernel), rfl⟩
theorem dX1_copy_9 : Dc mX1_copy 9 (.aload_n 1) 1 10 := ⟨zo_43 (by decide +kernel), rfl⟩
theorem dX1_copy_10 : Dc mX1_copy 10 (.getfield 15) 3 13 := ⟨zo_180 (w := 0) (x := 15) (by decide +kernel), rfl⟩
theorem dX1_copy_13 : Dc mX1_copy 13 (.putfield 15) 3 16 := ⟨zo_181 (w := 0) (x := 15) (by decide +kernel), rfl⟩
theorem dX1_copy_16 : Dc mX1_copy 16 (.aload_n 1) 1 17 := ⟨zo_43 (by decide +kernel), rfl⟩
theorem dX1_copy_17 : Dc mX1_copy 17 (.getfield 19) 3 20 := ⟨zo_180 (w := 0) (x := 19) (by decide +kernel), rfl⟩
theorem dX1_copy_20 : Dc mX1_copy 20 (.aload_n 0) 1 21 := ⟨zo_42 (by decide +kernel), rfl⟩
theorem dX1_copy_21 : Dc mX1_copy 21 (.getfield 19) 3 24 := ⟨zo_180 (w := 0) (x := 19) (by decide +kernel), rfl⟩
theorem dX1_copy_24 : Dc mX1_copy 24 (.invokestatic 30) 3 27 := ⟨zo_184 (w := 0) (x := 30) (by decide +kernel), rfl⟩
theorem dX1_copy_27 : Dc mX1_copy 27 (.aload_n 1) 1 28 := ⟨zo_43 (by decide +kernel), rfl⟩
theorem dX1_copy_28 : Dc mX1_copy 28 (.getfield 23) 3 31 := ⟨zo_180 (w := 0) (x := 23) (by decide +kernel), rfl⟩
theorem dX1_copy_31 : Dc mX1_copy 31 (.aload_n 0) 1 32 := ⟨zo_42 (by decide +kernel), rfl⟩
theorem dX1_copy_32 : Dc mX1_copy 32 (.getfield 23) 3 35 := ⟨zo_180 (w := 0) (x := 23) (by decide +kernel), rfl⟩
theorem dX1_copy_35 : Dc mX1_copy 35 (.invokestatic 30) 3 38 := ⟨zo_184 (w := 0) (x := 30) (by decide +kernel), rfl⟩
theorem dX1_copy_38 : Dc mX1_copy 38 (.return_) 1 39 := ⟨zo_177 (by decide +kernel), rfl⟩
theorem dX1_add_0 : Dc mX1_add 0 (.aload_n 0) 1 1 := ⟨zo_42 (by decide +kernel), rfl⟩
theorem dX1_add_1 : Dc mX1_add 1 (.getfield 15) 3 4 := ⟨zo_180 (w := 0) (x := 15) (by decide +kernel), rfl⟩
theorem dX1_add_4 : Dc mX1_add 4 (.ifCond .lt 57) 3 7 := ⟨zo_155 (w := 0) (x := 57) (by decide +kernel), rfl⟩
theorem dX1_add_7 : Dc mX1_add 7 (.aload_n 0) 1 8 := ⟨zo_42 (by decide +kernel), rfl⟩
theorem dX1_add_8 : Dc mX1_add 8 (.getfield 15) 3 11 := ⟨zo_180 (w := 0) (x := 15) (by decide +kernel), rfl⟩
theorem dX1_add_11 : Dc mX1_add 11 (.aload_n 0) 1 12 := ⟨zo_42 (by decide +kernel), rfl⟩
theorem dX1_add_12 : Dc mX1_add 12 (.getfield 19) 3 15 := ⟨zo_180 (w := 0) (x := 19) (by decide +kernel), rfl⟩
theorem dX1_add_15 : Dc mX1_add 15 (.arraylength) 1 16 := ⟨zo_190 (by decide +kernel), rfl⟩
theorem dX1_add_16 : Dc mX1_add 16 (.if_icmp .ge 45) 3 19 := ⟨zo_162 (w := 0) (x := 45) (by decide +kernel), rfl⟩
theorem dX1_add_19 : Dc mX1_add 19 (.aload_n 0) 1 20 := ⟨zo_42 (by decide +kernel), rfl⟩
theorem dX1_add_20 : Dc mX1_add 20 (.getfield 15) 3 23 := ⟨zo_180 (w := 0) (x := 15) (by decide +kernel), rfl⟩
theorem dX1_add_23 : Dc mX1_add 23 (.aload_n 0) 1 24 := ⟨zo_42 (by decide +kernel), rfl⟩
theorem dX1_add_24 : Dc mX1_add 24 (.getfield 23) 3 27 := ⟨zo_180 (w := 0) (x := 23) (by decide +kernel), rfl⟩
theorem dX1_add_27 : Dc mX1_add 27 (.arraylength) 1 28 := ⟨zo_190 (by decide +kernel), rfl⟩
theorem dX1_add_28 : Dc mX1_add 28 (.if_icmp .ge 33) 3 31 := ⟨zo_162 (w := 0) (x := 33) (by decide +kernel), rfl⟩
theorem dX1_add_31 : Dc mX1_add 31 (.aload_n 0) 1 32 := ⟨zo_42 (by decide +kernel), rfl⟩
theorem dX1_add_32 : Dc mX1_add 32 (.getfield 19) 3 35 := ⟨zo_180 (w := 0) (x := 19) (by decide +kernel), rfl⟩
theorem dX1_add_35 : Dc mX1_add 35 (.aload_n 0) 1 36 := ⟨zo_42 (by decide +kernel), rfl⟩
theorem dX1_add_36 : Dc mX1_add 36 (.getfield 15) 3 39 := ⟨zo_180 (w := 0) (x := 15) (by decide +kernel), rfl⟩
theorem dX1_add_39 : Dc mX1_add 39 (.iload_n 1) 1 40 := ⟨zo_27 (by decide +kernel), rfl⟩
theorem dX1_add_40 : Dc mX1_add 40 (.iastore) 1 41 := ⟨zo_79 (by decide +kernel), rfl⟩
theorem dX1_add_41 : Dc mX1_add 41 (.aload_n 0) 1 42 := ⟨zo_42 (by decide +kernel), rfl⟩
theorem dX1_add_42 : Dc mX1_add 42 (.getfield 23) 3 45 := ⟨zo_180 (w := 0) (x := 23) (by decide +kernel), rfl⟩
theorem dX1_add_45 : Dc mX1_add 45 (.aload_n 0) 1 46 := ⟨zo_42 (by decide +kernel), rfl⟩
theorem dX1_add_46 : Dc mX1_add 46 (.getfield 15) 3 49 := ⟨zo_180 (w := 0) (x := 15) (by decide +kernel), rfl⟩
theorem dX1_add_49 : Dc mX1_add 49 (.iload_n 2) 1 50 := ⟨zo_28 (by decide +kernel), rfl⟩
theorem dX1_add_50 : Dc mX1_add 50 (.iastore) 1 51 := ⟨zo_79 (by decide +kernel), rfl⟩
theorem dX1_add_51 : Dc mX1_add 51 (.aload_n 0) 1 52 := ⟨zo_42 (by decide +kernel), rfl⟩
theorem dX1_add_52 : Dc mX1_add 52 (.dup) 1 53 := ⟨zo_89 (by decide +kernel), rfl⟩
theorem dX1_add_53 : Dc mX1_add 53 (.getfield 15) 3 56 := ⟨zo_180 (w := 0) (x := 15) (by decide +kernel), rfl⟩
theorem dX1_add_56 : Dc mX1_add 56 (.iconst 1) 1 57 := ⟨zo_4 (by decide +kernel), rfl⟩
theorem dX1_add_57 : Dc mX1_add 57 (.iadd) 1 58 := ⟨zo_96 (by decide +kernel), rfl⟩
theorem dX1_add_58 : Dc mX1_add 58 (.putfield 15) 3 61 := ⟨zo_181 (w := 0) (x := 15) (by decide +kernel), rfl⟩
theorem dX1_add_61 : Dc mX1_add 61 (.return_) 1 62 := ⟨zo_177 (by decide +kernel), rfl⟩
theorem dX1_worth_0 : Dc mX1_worth 0 (.iconst 0) 1 1 := ⟨zo_3 (by decide +kernel), rfl⟩
theorem dX1_worth_1 : Dc mX1_worth 1 (.istore_n 2) 1 2 := ⟨zo_61 (by decide +kernel), rfl⟩
theorem dX1_worth_2 : Dc mX1_worth 2 (.iconst 0) 1 3 := ⟨zo_3 (by decide +kernel), rfl⟩
theorem dX1_worth_3 : Dc mX1_worth 3 (.istore_n 3) 1 4 := ⟨zo_62 (by decide +kernel), rfl⟩
theorem dX1_worth_4 : Dc mX1_worth 4 (.iload_n 3) 1 5 := ⟨zo_29 (by decide +kernel), rfl⟩
theorem dX1_worth_5 : Dc mX1_worth 5 (.aload_n 0) 1 6 := ⟨zo_42 (by decide +kernel), rfl⟩
theorem dX1_worth_6 : Dc mX1_worth 6 (.getfield 15) 3 9 := ⟨zo_180 (w := 0) (x := 15) (by decide +kernel), rfl⟩
theorem dX1_worth_9 : Dc mX1_worth 9 (.if_icmp .ge 147) 3 12 := ⟨zo_162 (w := 0) (x := 147) (by decide +kernel), rfl⟩
theorem dX1_worth_12 : Dc mX1_worth 12 (.aload_n 0) 1 13 := ⟨zo_42 (by decide +kernel), rfl⟩
theorem dX1_worth_13 : Dc mX1_worth 13 (.getfield 19) 3 16 := ⟨zo_180 (w := 0) (x := 19) (by decide +kernel), rfl⟩
theorem dX1_worth_16 : Dc mX1_worth 16 (.iload_n 3) 1 17 := ⟨zo_29 (by decide +kernel), rfl⟩
theorem dX1_worth_17 : Dc mX1_worth 17 (.invokestatic 34) 3 20 := ⟨zo_184 (w := 0) (x := 34) (by decide +kernel), rfl⟩
theorem dX1_worth_20 : Dc mX1_worth 20 (.istore 4) 2 22 := ⟨zo_54 (by decide +kernel), rfl⟩
theorem dX1_worth_22 : Dc mX1_worth 22 (.iload 4) 2 24 := ⟨zo_21 (by decide +kernel), rfl⟩
theorem dX1_worth_24 : Dc mX1_worth 24 (.invokestatic 38) 3 27 := ⟨zo_184 (w := 0) (x := 38) (by decide +kernel), rfl⟩
theorem dX1_worth_27 : Dc mX1_worth 27 (.istore 5) 2 29 := ⟨zo_54 (by decide +kernel), rfl⟩
theorem dX1_worth_29 : Dc mX1_worth 29 (.aload_n 0) 1 30 := ⟨zo_42 (by decide +kernel), rfl⟩
theorem dX1_worth_30 : Dc mX1_worth 30 (.iload_n 2) 1 31 := ⟨zo_28 (by decide +kernel), rfl⟩
theorem dX1_worth_31 : Dc mX1_worth 31 (.iconst 1) 1 32 := ⟨zo_4 (by decide +kernel), rfl⟩
theorem dX1_worth_32 : Dc mX1_worth 32 (.isub) 1 33 := ⟨zo_100 (by decide +kernel), rfl⟩
theorem dX1_worth_33 : Dc mX1_worth 33 (.invokevirtual 42) 3 36 := ⟨zo_182 (w := 0) (x := 42) (by decide +kernel), rfl⟩
theorem dX1_worth_36 : Dc mX1_worth 36 (.lstore 6) 2 38 := ⟨zo_55 (by decide +kernel), rfl⟩
theorem dX1_worth_38 : Dc mX1_worth 38 (.iload 5) 2 40 := ⟨zo_21 (by decide +kernel), rfl⟩
theorem dX1_worth_40 : Dc mX1_worth 40 (.iconst 2) 1 41 := ⟨zo_5 (by decide +kernel), rfl⟩
theorem dX1_worth_41 : Dc mX1_worth 41 (.if_icmp .ne 20) 3 44 := ⟨zo_160 (w := 0) (x := 20) (by decide +kernel), rfl⟩
theorem dX1_worth_44 : Dc mX1_worth 44 (.iload 4) 2 46 := ⟨zo_21 (by decide +kernel), rfl⟩
theorem dX1_worth_46 : Dc mX1_worth 46 (.aload_n 0) 1 47 := ⟨zo_42 (by decide +kernel), rfl⟩
theorem dX1_worth_47 : Dc mX1_worth 47 (.iload_n 2) 1 48 := ⟨zo_28 (by decide +kernel), rfl⟩
theorem dX1_worth_48 : Dc mX1_worth 48 (.iconst 2) 1 49 := ⟨zo_5 (by decide +kernel), rfl⟩
theorem dX1_worth_49 : Dc mX1_worth 49 (.isub) 1 50 := ⟨zo_100 (by decide +kernel), rfl⟩
theorem dX1_worth_50 : Dc mX1_worth 50 (.invokevirtual 42) 3 53 := ⟨zo_182 (w := 0) (x := 42) (by decide +kernel), rfl⟩
theorem dX1_worth_53 : Dc mX1_worth 53 (.lload 6) 2 55 := ⟨zo_22 (by decide +kernel), rfl⟩
theorem dX1_worth_55 : Dc mX1_worth 55 (.invokestatic 46) 3 58 := ⟨zo_184 (w := 0) (x := 46) (by decide +kernel), rfl⟩
theorem dX1_worth_58 : Dc mX1_worth 58 (.goto 39) 3 61 := ⟨zo_167 (w := 0) (x := 39) (by decide +kernel), rfl⟩
theorem dX1_worth_61 : Dc mX1_worth 61 (.iload 5) 2 63 := ⟨zo_21 (by decide +kernel), rfl⟩
theorem dX1_worth_63 : Dc mX1_worth 63 (.iconst 1) 1 64 := ⟨zo_4 (by decide +kernel), rfl⟩
theorem dX1_worth_64 : Dc mX1_worth 64 (.if_icmp .ne 19) 3 67 := ⟨zo_160 (w := 0) (x := 19) (by decide +kernel), rfl⟩
theorem dX1_worth_67 : Dc mX1_worth 67 (.lload 6) 2 69 := ⟨zo_22 (by decide +kernel), rfl⟩
theorem dX1_worth_69 : Dc mX1_worth 69 (.lconst 0) 1 70 := ⟨zo_9 (by decide +kernel), rfl⟩
theorem dX1_worth_70 : Dc mX1_worth 70 (.lcmp) 1 71 := ⟨zo_148 (by decide +kernel), rfl⟩
theorem dX1_worth_71 : Dc mX1_worth 71 (.ifCond .ne 7) 3 74 := ⟨zo_154 (w := 0) (x := 7) (by decide +kernel), rfl⟩
theorem dX1_worth_74 : Dc mX1_worth 74 (.iconst 1) 1 75 := ⟨zo_4 (by decide +kernel), rfl⟩
theorem dX1_worth_75 : Dc mX1_worth 75 (.goto 4) 3 78 := ⟨zo_167 (w := 0) (x := 4) (by decide +kernel), rfl⟩
theorem dX1_worth_78 : Dc mX1_worth 78 (.iconst 0) 1 79 := ⟨zo_3 (by decide +kernel), rfl⟩
theorem dX1_worth_79 : Dc mX1_worth 79 (.i2l) 1 80 := ⟨zo_133 (by decide +kernel), rfl⟩
theorem dX1_worth_80 : Dc mX1_worth 80 (.goto 17) 3 83 := ⟨zo_167 (w := 0) (x := 17) (by decide +kernel), rfl⟩
theorem dX1_worth_83 : Dc mX1_worth 83 (.iload 4) 2 85 := ⟨zo_21 (by decide +kernel), rfl⟩
theorem dX1_worth_85 : Dc mX1_worth 85 (.aload_n 0) 1 86 := ⟨zo_42 (by decide +kernel), rfl⟩
theorem dX1_worth_86 : Dc mX1_worth 86 (.getfield 23) 3 89 := ⟨zo_180 (w := 0) (x := 23) (by decide +kernel), rfl⟩
theorem dX1_worth_89 : Dc mX1_worth 89 (.iload_n 3) 1 90 := ⟨zo_29 (by decide +kernel), rfl⟩
theorem dX1_worth_90 : Dc mX1_worth 90 (.invokestatic 34) 3 93 := ⟨zo_184 (w := 0) (x := 34) (by decide +kernel), rfl⟩
theorem dX1_worth_93 : Dc mX1_worth 93 (.aload_n 1) 1 94 := ⟨zo_43 (by decide +kernel), rfl⟩
theorem dX1_worth_94 : Dc mX1_worth 94 (.invokestatic 50) 3 97 := ⟨zo_184 (w := 0) (x := 50) (by decide +kernel), rfl⟩
theorem dX1_worth_97 : Dc mX1_worth 97 (.lstore 8) 2 99 := ⟨zo_55 (by decide +kernel), rfl⟩
theorem dX1_worth_99 : Dc mX1_worth 99 (.lload 8) 2 101 := ⟨zo_22 (by decide +kernel), rfl⟩
theorem dX1_worth_101 : Dc mX1_worth 101 (.ldc2_w 54) 3 104 := ⟨zo_20 (w := 0) (x := 54) (by decide +kernel), rfl⟩
theorem dX1_worth_104 : Dc mX1_worth 104 (.lcmp) 1 105 := ⟨zo_148 (by decide +kernel), rfl⟩
theorem dX1_worth_105 : Dc mX1_worth 105 (.ifCond .gt 12) 3 108 := ⟨zo_157 (w := 0) (x := 12) (by decide +kernel), rfl⟩
theorem dX1_worth_108 : Dc mX1_worth 108 (.lload 8) 2 110 := ⟨zo_22 (by decide +kernel), rfl⟩
theorem dX1_worth_110 : Dc mX1_worth 110 (.ldc2_w 56) 3 113 := ⟨zo_20 (w := 0) (x := 56) (by decide +kernel), rfl⟩
theorem dX1_worth_113 : Dc mX1_worth 113 (.lcmp) 1 114 := ⟨zo_148 (by decide +kernel), rfl⟩
theorem dX1_worth_114 : Dc mX1_worth 114 (.ifCond .ge 7) 3 117 := ⟨zo_156 (w := 0) (x := 7) (by decide +kernel), rfl⟩
theorem dX1_worth_117 : Dc mX1_worth 117 (.ldc2_w 58) 3 120 := ⟨zo_20 (w := 0) (x := 58) (by decide +kernel), rfl⟩
theorem dX1_worth_120 : Dc mX1_worth 120 (.lreturn) 1 121 := ⟨zo_173 (by decide +kernel), rfl⟩
theorem dX1_worth_121 : Dc mX1_worth 121 (.iload_n 2) 1 122 := ⟨zo_28 (by decide +kernel), rfl⟩
theorem dX1_worth_122 : Dc mX1_worth 122 (.iload 5) 2 124 := ⟨zo_21 (by decide +kernel), rfl⟩
theorem dX1_worth_124 : Dc mX1_worth 124 (.isub) 1 125 := ⟨zo_100 (by decide +kernel), rfl⟩
theorem dX1_worth_125 : Dc mX1_worth 125 (.istore_n 2) 1 126 := ⟨zo_61 (by decide +kernel), rfl⟩
theorem dX1_worth_126 : Dc mX1_worth 126 (.iload_n 2) 1 127 := ⟨zo_28 (by decide +kernel), rfl⟩
theorem dX1_worth_127 : Dc mX1_worth 127 (.ifCond .lt 20) 3 130 := ⟨zo_155 (w := 0) (x := 20) (by decide +kernel), rfl⟩
theorem dX1_worth_130 : Dc mX1_worth 130 (.iload_n 2) 1 131 := ⟨zo_28 (by decide +kernel), rfl⟩
theorem dX1_worth_131 : Dc mX1_worth 131 (.aload_n 0) 1 132 := ⟨zo_42 (by decide +kernel), rfl⟩
theorem dX1_worth_132 : Dc mX1_worth 132 (.getfield 26) 3 135 := ⟨zo_180 (w := 0) (x := 26) (by decide +kernel), rfl⟩
theorem dX1_worth_135 : Dc mX1_worth 135 (.arraylength) 1 136 := ⟨zo_190 (by decide +kernel), rfl⟩
theorem dX1_worth_136 : Dc mX1_worth 136 (.if_icmp .ge 11) 3 139 := ⟨zo_162 (w := 0) (x := 11) (by decide +kernel), rfl⟩
theorem dX1_worth_139 : Dc mX1_worth 139 (.aload_n 0) 1 140 := ⟨zo_42 (by decide +kernel), rfl⟩
theorem dX1_worth_140 : Dc mX1_worth 140 (.getfield 26) 3 143 := ⟨zo_180 (w := 0) (x := 26) (by decide +kernel), rfl⟩
theorem dX1_worth_143 : Dc mX1_worth 143 (.iload_n 2) 1 144 := ⟨zo_28 (by decide +kernel), rfl⟩
theorem dX1_worth_144 : Dc mX1_worth 144 (.lload 8) 2 146 := ⟨zo_22 (by decide +kernel), rfl⟩
theorem dX1_worth_146 : Dc mX1_worth 146 (.lastore) 1 147 := ⟨zo_80 (by decide +kernel), rfl⟩
theorem dX1_worth_147 : Dc mX1_worth 147 (.iinc 2 1) 3 150 := ⟨zo_iinc (x := 1) (by decide +kernel), rfl⟩
theorem dX1_worth_150 : Dc mX1_worth 150 (.iinc 3 1) 3 153 := ⟨zo_iinc (x := 1) (by decide +kernel), rfl⟩
theorem dX1_worth_153 : Dc mX1_worth 153 (.goto (-149)) 3 156 := ⟨zo_167 (w := 255) (x := 107) (by decide +kernel), rfl⟩
theorem dX1_worth_156 : Dc mX1_worth 156 (.aload_n 0) 1 157 := ⟨zo_42 (by decide +kernel), rfl⟩
theorem dX1_worth_157 : Dc mX1_worth 157 (.getfield 9) 3 160 := ⟨zo_180 (w := 0) (x := 9) (by decide +kernel), rfl⟩
theorem dX1_worth_160 : Dc mX1_worth 160 (.ifCond .eq 13) 3 163 := ⟨zo_153 (w := 0) (x := 13) (by decide +kernel), rfl⟩
theorem dX1_worth_163 : Dc mX1_worth 163 (.aload_n 0) 1 164 := ⟨zo_42 (by decide +kernel), rfl⟩
theorem dX1_worth_164 : Dc mX1_worth 164 (.iload_n 2) 1 165 := ⟨zo_28 (by decide +kernel), rfl⟩
theorem dX1_worth_165 : Dc mX1_worth 165 (.iconst 1) 1 166 := ⟨zo_4 (by decide +kernel), rfl⟩
theorem dX1_worth_166 : Dc mX1_worth 166 (.isub) 1 167 := ⟨zo_100 (by decide +kernel), rfl⟩
theorem dX1_worth_167 : Dc mX1_worth 167 (.invokevirtual 42) 3 170 := ⟨zo_182 (w := 0) (x := 42) (by decide +kernel), rfl⟩
theorem dX1_worth_170 : Dc mX1_worth 170 (.goto 6) 3 173 := ⟨zo_167 (w := 0) (x := 6) (by decide +kernel), rfl⟩
theorem dX1_worth_173 : Dc mX1_worth 173 (.ldc2_w 58) 3 176 := ⟨zo_20 (w := 0) (x := 58) (by decide +kernel), rfl⟩
theorem dX1_worth_176 : Dc mX1_worth 176 (.lreturn) 1 177 := ⟨zo_173 (by decide +kernel), rfl⟩
theorem dX1_openAt_0 : Dc mX1_openAt 0 (.iload_n 1) 1 1 := ⟨zo_27 (by decide +kernel), rfl⟩
theorem dX1_openAt_1 : Dc mX1_openAt 1 (.ifCond .lt 21) 3 4 := ⟨zo_155 (w := 0) (x := 21) (by decide +kernel), rfl⟩
theorem dX1_openAt_4 : Dc mX1_openAt 4 (.iload_n 1) 1 5 := ⟨zo_27 (by decide +kernel), rfl⟩
theorem dX1_openAt_5 : Dc mX1_openAt 5 (.aload_n 0) 1 6 := ⟨zo_42 (by decide +kernel), rfl⟩
theorem dX1_openAt_6 : Dc mX1_openAt 6 (.getfield 26) 3 9 := ⟨zo_180 (w := 0) (x := 26) (by decide +kernel), rfl⟩
theorem dX1_openAt_9 : Dc mX1_openAt 9 (.arraylength) 1 10 := ⟨zo_190 (by decide +kernel), rfl⟩
theorem dX1_openAt_10 : Dc mX1_openAt 10 (.if_icmp .ge 12) 3 13 := ⟨zo_162 (w := 0) (x := 12) (by decide +kernel), rfl⟩
theorem dX1_openAt_13 : Dc mX1_openAt 13 (.aload_n 0) 1 14 := ⟨zo_42 (by decide +kernel), rfl⟩
theorem dX1_openAt_14 : Dc mX1_openAt 14 (.getfield 26) 3 17 := ⟨zo_180 (w := 0) (x := 26) (by decide +kernel), rfl⟩
theorem dX1_openAt_17 : Dc mX1_openAt 17 (.iload_n 1) 1 18 := ⟨zo_27 (by decide +kernel), rfl⟩
theorem dX1_openAt_18 : Dc mX1_openAt 18 (.laload) 1 19 := ⟨zo_47 (by decide +kernel), rfl⟩
theorem dX1_openAt_19 : Dc mX1_openAt 19 (.goto 4) 3 22 := ⟨zo_167 (w := 0) (x := 4) (by decide +kernel), rfl⟩
theorem dX1_openAt_22 : Dc mX1_openAt 22 (.lconst 0) 1 23 := ⟨zo_9 (by decide +kernel), rfl⟩
theorem dX1_openAt_23 : Dc mX1_openAt 23 (.lreturn) 1 24 := ⟨zo_173 (by decide +kernel), rfl⟩
theorem dX1_partsOf_0 : Dc mX1_partsOf 0 (.iload_n 0) 1 1 := ⟨zo_26 (by decide +kernel), rfl⟩
theorem dX1_partsOf_1 : Dc mX1_partsOf 1 (.iconst 2) 1 2 := ⟨zo_5 (by decide +kernel), rfl⟩
theorem dX1_partsOf_2 : Dc mX1_partsOf 2 (.if_icmp .eq 9) 3 5 := ⟨zo_159 (w := 0) (x := 9) (by decide +kernel), rfl⟩
theorem dX1_partsOf_5 : Dc mX1_partsOf 5 (.iload_n 0) 1 6 := ⟨zo_26 (by decide +kernel), rfl⟩
theorem dX1_partsOf_6 : Dc mX1_partsOf 6 (.bipush 36) 2 8 := ⟨zo_16 (w := 36) (by decide +kernel), rfl⟩
theorem dX1_partsOf_8 : Dc mX1_partsOf 8 (.if_icmp .lt 5) 3 11 := ⟨zo_161 (w := 0) (x := 5) (by decide +kernel), rfl⟩
theorem dX1_partsOf_11 : Dc mX1_partsOf 11 (.iconst 0) 1 12 := ⟨zo_3 (by decide +kernel), rfl⟩
theorem dX1_partsOf_12 : Dc mX1_partsOf 12 (.ireturn) 1 13 := ⟨zo_172 (by decide +kernel), rfl⟩
theorem dX1_partsOf_13 : Dc mX1_partsOf 13 (.iload_n 0) 1 14 := ⟨zo_26 (by decide +kernel), rfl⟩
theorem dX1_partsOf_14 : Dc mX1_partsOf 14 (.bipush 35) 2 16 := ⟨zo_16 (w := 35) (by decide +kernel), rfl⟩
theorem dX1_partsOf_16 : Dc mX1_partsOf 16 (.if_icmp .ne 7) 3 19 := ⟨zo_160 (w := 0) (x := 7) (by decide +kernel), rfl⟩
theorem dX1_partsOf_19 : Dc mX1_partsOf 19 (.iconst 1) 1 20 := ⟨zo_4 (by decide +kernel), rfl⟩
theorem dX1_partsOf_20 : Dc mX1_partsOf 20 (.goto 4) 3 23 := ⟨zo_167 (w := 0) (x := 4) (by decide +kernel), rfl⟩
theorem dX1_partsOf_23 : Dc mX1_partsOf 23 (.iconst 2) 1 24 := ⟨zo_5 (by decide +kernel), rfl⟩
theorem dX1_partsOf_24 : Dc mX1_partsOf 24 (.ireturn) 1 25 := ⟨zo_172 (by decide +kernel), rfl⟩
theorem dX1_leaf_0 : Dc mX1_leaf 0 (.iload_n 0) 1 1 := ⟨zo_26 (by decide +kernel), rfl⟩
theorem dX1_leaf_1 : Dc mX1_leaf 1 (.bipush 36) 2 3 := ⟨zo_16 (w := 36) (by decide +kernel), rfl⟩
theorem dX1_leaf_3 : Dc mX1_leaf 3 (.isub) 1 4 := ⟨zo_100 (by decide +kernel), rfl⟩
theorem dX1_leaf_4 : Dc mX1_leaf 4 (.istore_n 3) 1 5 := ⟨zo_62 (by decide +kernel), rfl⟩
theorem dX1_leaf_5 : Dc mX1_leaf 5 (.iload_n 3) 1 6 := ⟨zo_29 (by decide +kernel), rfl⟩
theorem dX1_leaf_6 : Dc mX1_leaf 6 (.ifCond .lt 15) 3 9 := ⟨zo_155 (w := 0) (x := 15) (by decide +kernel), rfl⟩
theorem dX1_leaf_9 : Dc mX1_leaf 9 (.iload_n 3) 1 10 := ⟨zo_29 (by decide +kernel), rfl⟩
theorem dX1_leaf_10 : Dc mX1_leaf 10 (.aload_n 2) 1 11 := ⟨zo_44 (by decide +kernel), rfl⟩
theorem dX1_leaf_11 : Dc mX1_leaf 11 (.arraylength) 1 12 := ⟨zo_190 (by decide +kernel), rfl⟩
theorem dX1_leaf_12 : Dc mX1_leaf 12 (.if_icmp .ge 9) 3 15 := ⟨zo_162 (w := 0) (x := 9) (by decide +kernel), rfl⟩
theorem dX1_leaf_15 : Dc mX1_leaf 15 (.aload_n 2) 1 16 := ⟨zo_44 (by decide +kernel), rfl⟩
theorem dX1_leaf_16 : Dc mX1_leaf 16 (.iload_n 3) 1 17 := ⟨zo_29 (by decide +kernel), rfl⟩
theorem dX1_leaf_17 : Dc mX1_leaf 17 (.laload) 1 18 := ⟨zo_47 (by decide +kernel), rfl⟩
theorem dX1_leaf_18 : Dc mX1_leaf 18 (.goto 5) 3 21 := ⟨zo_167 (w := 0) (x := 5) (by decide +kernel), rfl⟩
theorem dX1_leaf_21 : Dc mX1_leaf 21 (.iload_n 1) 1 22 := ⟨zo_27 (by decide +kernel), rfl⟩
theorem dX1_leaf_22 : Dc mX1_leaf 22 (.i2l) 1 23 := ⟨zo_133 (by decide +kernel), rfl⟩
theorem dX1_leaf_23 : Dc mX1_leaf 23 (.lreturn) 1 24 := ⟨zo_173 (by decide +kernel), rfl⟩
theorem dX1_join_0 : Dc mX1_join 0 (.iload_n 0) 1 1 := ⟨zo_26 (by decide +kernel), rfl⟩
theorem dX1_join_1 : Dc mX1_join 1 (.tableswitch 316 7 34 #[127, 131, 135, 192, 208, 220, 232, 244, 256, 268, 316, 316, 316, 316, 316, 316, 316, 316, 316, 316, 316, 316, 316, 316, 316, 316, 298, 280]) 127 128 := ⟨by decide +kernel, rfl⟩
theorem dX1_join_128 : Dc mX1_join 128 (.lload_n 1) 1 129 := ⟨zo_31 (by decide +kernel), rfl⟩
theorem dX1_join_129 : Dc mX1_join 129 (.lload_n 3) 1 130 := ⟨zo_33 (by decide +kernel), rfl⟩
theorem dX1_join_130 : Dc mX1_join 130 (.ladd) 1 131 := ⟨zo_97 (by decide +kernel), rfl⟩
theorem dX1_join_131 : Dc mX1_join 131 (.lreturn) 1 132 := ⟨zo_173 (by decide +kernel), rfl⟩
theorem dX1_join_132 : Dc mX1_join 132 (.lload_n 1) 1 133 := ⟨zo_31 (by decide +kernel), rfl⟩
theorem dX1_join_133 : Dc mX1_join 133 (.lload_n 3) 1 134 := ⟨zo_33 (by decide +kernel), rfl⟩
theorem dX1_join_134 : Dc mX1_join 134 (.lsub) 1 135 := ⟨zo_101 (by decide +kernel), rfl⟩
theorem dX1_join_135 : Dc mX1_join 135 (.lreturn) 1 136 := ⟨zo_173 (by decide +kernel), rfl⟩
theorem dX1_join_136 : Dc mX1_join 136 (.lload_n 1) 1 137 := ⟨zo_31 (by decide +kernel), rfl⟩
theorem dX1_join_137 : Dc mX1_join 137 (.lconst 0) 1 138 := ⟨zo_9 (by decide +kernel), rfl⟩
theorem dX1_join_138 : Dc mX1_join 138 (.lcmp) 1 139 := ⟨zo_148 (by decide +kernel), rfl⟩
theorem dX1_join_139 : Dc mX1_join 139 (.ifCond .ge 8) 3 142 := ⟨zo_156 (w := 0) (x := 8) (by decide +kernel), rfl⟩
theorem dX1_join_142 : Dc mX1_join 142 (.lload_n 1) 1 143 := ⟨zo_31 (by decide +kernel), rfl⟩
theorem dX1_join_143 : Dc mX1_join 143 (.lneg) 1 144 := ⟨zo_117 (by decide +kernel), rfl⟩
theorem dX1_join_144 : Dc mX1_join 144 (.goto 4) 3 147 := ⟨zo_167 (w := 0) (x := 4) (by decide +kernel), rfl⟩
theorem dX1_join_147 : Dc mX1_join 147 (.lload_n 1) 1 148 := ⟨zo_31 (by decide +kernel), rfl⟩
theorem dX1_join_148 : Dc mX1_join 148 (.lstore 5) 2 150 := ⟨zo_55 (by decide +kernel), rfl⟩
theorem dX1_join_150 : Dc mX1_join 150 (.lload_n 3) 1 151 := ⟨zo_33 (by decide +kernel), rfl⟩
theorem dX1_join_151 : Dc mX1_join 151 (.lconst 0) 1 152 := ⟨zo_9 (by decide +kernel), rfl⟩
theorem dX1_join_152 : Dc mX1_join 152 (.lcmp) 1 153 := ⟨zo_148 (by decide +kernel), rfl⟩
theorem dX1_join_153 : Dc mX1_join 153 (.ifCond .ge 8) 3 156 := ⟨zo_156 (w := 0) (x := 8) (by decide +kernel), rfl⟩
theorem dX1_join_156 : Dc mX1_join 156 (.lload_n 3) 1 157 := ⟨zo_33 (by decide +kernel), rfl⟩
theorem dX1_join_157 : Dc mX1_join 157 (.lneg) 1 158 := ⟨zo_117 (by decide +kernel), rfl⟩
theorem dX1_join_158 : Dc mX1_join 158 (.goto 4) 3 161 := ⟨zo_167 (w := 0) (x := 4) (by decide +kernel), rfl⟩
theorem dX1_join_161 : Dc mX1_join 161 (.lload_n 3) 1 162 := ⟨zo_33 (by decide +kernel), rfl⟩
theorem dX1_join_162 : Dc mX1_join 162 (.lstore 7) 2 164 := ⟨zo_55 (by decide +kernel), rfl⟩
theorem dX1_join_164 : Dc mX1_join 164 (.lload 5) 2 166 := ⟨zo_22 (by decide +kernel), rfl⟩
theorem dX1_join_166 : Dc mX1_join 166 (.lconst 0) 1 167 := ⟨zo_9 (by decide +kernel), rfl⟩
theorem dX1_join_167 : Dc mX1_join 167 (.lcmp) 1 168 := ⟨zo_148 (by decide +kernel), rfl⟩
theorem dX1_join_168 : Dc mX1_join 168 (.ifCond .eq 21) 3 171 := ⟨zo_153 (w := 0) (x := 21) (by decide +kernel), rfl⟩
theorem dX1_join_171 : Dc mX1_join 171 (.lload 7) 2 173 := ⟨zo_22 (by decide +kernel), rfl⟩
theorem dX1_join_173 : Dc mX1_join 173 (.ldc2_w 54) 3 176 := ⟨zo_20 (w := 0) (x := 54) (by decide +kernel), rfl⟩
theorem dX1_join_176 : Dc mX1_join 176 (.lload 5) 2 178 := ⟨zo_22 (by decide +kernel), rfl⟩
theorem dX1_join_178 : Dc mX1_join 178 (.ldiv) 1 179 := ⟨zo_109 (by decide +kernel), rfl⟩
theorem dX1_join_179 : Dc mX1_join 179 (.lcmp) 1 180 := ⟨zo_148 (by decide +kernel), rfl⟩
theorem dX1_join_180 : Dc mX1_join 180 (.ifCond .le 9) 3 183 := ⟨zo_158 (w := 0) (x := 9) (by decide +kernel), rfl⟩
theorem dX1_join_183 : Dc mX1_join 183 (.ldc2_w 58) 3 186 := ⟨zo_20 (w := 0) (x := 58) (by decide +kernel), rfl⟩
theorem dX1_join_186 : Dc mX1_join 186 (.goto 6) 3 189 := ⟨zo_167 (w := 0) (x := 6) (by decide +kernel), rfl⟩
theorem dX1_join_189 : Dc mX1_join 189 (.lload_n 1) 1 190 := ⟨zo_31 (by decide +kernel), rfl⟩
theorem dX1_join_190 : Dc mX1_join 190 (.lload_n 3) 1 191 := ⟨zo_33 (by decide +kernel), rfl⟩
theorem dX1_join_191 : Dc mX1_join 191 (.lmul) 1 192 := ⟨zo_105 (by decide +kernel), rfl⟩
theorem dX1_join_192 : Dc mX1_join 192 (.lreturn) 1 193 := ⟨zo_173 (by decide +kernel), rfl⟩
theorem dX1_join_193 : Dc mX1_join 193 (.lload_n 3) 1 194 := ⟨zo_33 (by decide +kernel), rfl⟩
theorem dX1_join_194 : Dc mX1_join 194 (.lconst 0) 1 195 := ⟨zo_9 (by decide +kernel), rfl⟩
theorem dX1_join_195 : Dc mX1_join 195 (.lcmp) 1 196 := ⟨zo_148 (by decide +kernel), rfl⟩
theorem dX1_join_196 : Dc mX1_join 196 (.ifCond .ne 9) 3 199 := ⟨zo_154 (w := 0) (x := 9) (by decide +kernel), rfl⟩
theorem dX1_join_199 : Dc mX1_join 199 (.ldc2_w 58) 3 202 := ⟨zo_20 (w := 0) (x := 58) (by decide +kernel), rfl⟩
theorem dX1_join_202 : Dc mX1_join 202 (.goto 6) 3 205 := ⟨zo_167 (w := 0) (x := 6) (by decide +kernel), rfl⟩
theorem dX1_join_205 : Dc mX1_join 205 (.lload_n 1) 1 206 := ⟨zo_31 (by decide +kernel), rfl⟩
theorem dX1_join_206 : Dc mX1_join 206 (.lload_n 3) 1 207 := ⟨zo_33 (by decide +kernel), rfl⟩
theorem dX1_join_207 : Dc mX1_join 207 (.ldiv) 1 208 := ⟨zo_109 (by decide +kernel), rfl⟩
theorem dX1_join_208 : Dc mX1_join 208 (.lreturn) 1 209 := ⟨zo_173 (by decide +kernel), rfl⟩
theorem dX1_join_209 : Dc mX1_join 209 (.lload_n 1) 1 210 := ⟨zo_31 (by decide +kernel), rfl⟩
theorem dX1_join_210 : Dc mX1_join 210 (.lload_n 3) 1 211 := ⟨zo_33 (by decide +kernel), rfl⟩
theorem dX1_join_211 : Dc mX1_join 211 (.lcmp) 1 212 := ⟨zo_148 (by decide +kernel), rfl⟩
theorem dX1_join_212 : Dc mX1_join 212 (.ifCond .ge 7) 3 215 := ⟨zo_156 (w := 0) (x := 7) (by decide +kernel), rfl⟩
theorem dX1_join_215 : Dc mX1_join 215 (.lconst 1) 1 216 := ⟨zo_10 (by decide +kernel), rfl⟩
theorem dX1_join_216 : Dc mX1_join 216 (.goto 4) 3 219 := ⟨zo_167 (w := 0) (x := 4) (by decide +kernel), rfl⟩
theorem dX1_join_219 : Dc mX1_join 219 (.lconst 0) 1 220 := ⟨zo_9 (by decide +kernel), rfl⟩
theorem dX1_join_220 : Dc mX1_join 220 (.lreturn) 1 221 := ⟨zo_173 (by decide +kernel), rfl⟩
theorem dX1_join_221 : Dc mX1_join 221 (.lload_n 1) 1 222 := ⟨zo_31 (by decide +kernel), rfl⟩
theorem dX1_join_222 : Dc mX1_join 222 (.lload_n 3) 1 223 := ⟨zo_33 (by decide +kernel), rfl⟩
theorem dX1_join_223 : Dc mX1_join 223 (.lcmp) 1 224 := ⟨zo_148 (by decide +kernel), rfl⟩
theorem dX1_join_224 : Dc mX1_join 224 (.ifCond .gt 7) 3 227 := ⟨zo_157 (w := 0) (x := 7) (by decide +kernel), rfl⟩
theorem dX1_join_227 : Dc mX1_join 227 (.lconst 1) 1 228 := ⟨zo_10 (by decide +kernel), rfl⟩
theorem dX1_join_228 : Dc mX1_join 228 (.goto 4) 3 231 := ⟨zo_167 (w := 0) (x := 4) (by decide +kernel), rfl⟩
theorem dX1_join_231 : Dc mX1_join 231 (.lconst 0) 1 232 := ⟨zo_9 (by decide +kernel), rfl⟩
theorem dX1_join_232 : Dc mX1_join 232 (.lreturn) 1 233 := ⟨zo_173 (by decide +kernel), rfl⟩
theorem dX1_join_233 : Dc mX1_join 233 (.lload_n 1) 1 234 := ⟨zo_31 (by decide +kernel), rfl⟩
theorem dX1_join_234 : Dc mX1_join 234 (.lload_n 3) 1 235 := ⟨zo_33 (by decide +kernel), rfl⟩
theorem dX1_join_235 : Dc mX1_join 235 (.lcmp) 1 236 := ⟨zo_148 (by decide +kernel), rfl⟩
theorem dX1_join_236 : Dc mX1_join 236 (.ifCond .ne 7) 3 239 := ⟨zo_154 (w := 0) (x := 7) (by decide +kernel), rfl⟩
theorem dX1_join_239 : Dc mX1_join 239 (.lconst 1) 1 240 := ⟨zo_10 (by decide +kernel), rfl⟩
theorem dX1_join_240 : Dc mX1_join 240 (.goto 4) 3 243 := ⟨zo_167 (w := 0) (x := 4) (by decide +kernel), rfl⟩
theorem dX1_join_243 : Dc mX1_join 243 (.lconst 0) 1 244 := ⟨zo_9 (by decide +kernel), rfl⟩
theorem dX1_join_244 : Dc mX1_join 244 (.lreturn) 1 245 := ⟨zo_173 (by decide +kernel), rfl⟩
theorem dX1_join_245 : Dc mX1_join 245 (.lload_n 1) 1 246 := ⟨zo_31 (by decide +kernel), rfl⟩
theorem dX1_join_246 : Dc mX1_join 246 (.lload_n 3) 1 247 := ⟨zo_33 (by decide +kernel), rfl⟩
theorem dX1_join_247 : Dc mX1_join 247 (.lcmp) 1 248 := ⟨zo_148 (by decide +kernel), rfl⟩
theorem dX1_join_248 : Dc mX1_join 248 (.ifCond .eq 7) 3 251 := ⟨zo_153 (w := 0) (x := 7) (by decide +kernel), rfl⟩
theorem dX1_join_251 : Dc mX1_join 251 (.lconst 1) 1 252 := ⟨zo_10 (by decide +kernel), rfl⟩
theorem dX1_join_252 : Dc mX1_join 252 (.goto 4) 3 255 := ⟨zo_167 (w := 0) (x := 4) (by decide +kernel), rfl⟩
theorem dX1_join_255 : Dc mX1_join 255 (.lconst 0) 1 256 := ⟨zo_9 (by decide +kernel), rfl⟩
theorem dX1_join_256 : Dc mX1_join 256 (.lreturn) 1 257 := ⟨zo_173 (by decide +kernel), rfl⟩
theorem dX1_join_257 : Dc mX1_join 257 (.lload_n 1) 1 258 := ⟨zo_31 (by decide +kernel), rfl⟩
theorem dX1_join_258 : Dc mX1_join 258 (.lload_n 3) 1 259 := ⟨zo_33 (by decide +kernel), rfl⟩
theorem dX1_join_259 : Dc mX1_join 259 (.lcmp) 1 260 := ⟨zo_148 (by decide +kernel), rfl⟩
theorem dX1_join_260 : Dc mX1_join 260 (.ifCond .lt 7) 3 263 := ⟨zo_155 (w := 0) (x := 7) (by decide +kernel), rfl⟩
theorem dX1_join_263 : Dc mX1_join 263 (.lconst 1) 1 264 := ⟨zo_10 (by decide +kernel), rfl⟩
theorem dX1_join_264 : Dc mX1_join 264 (.goto 4) 3 267 := ⟨zo_167 (w := 0) (x := 4) (by decide +kernel), rfl⟩
theorem dX1_join_267 : Dc mX1_join 267 (.lconst 0) 1 268 := ⟨zo_9 (by decide +kernel), rfl⟩
theorem dX1_join_268 : Dc mX1_join 268 (.lreturn) 1 269 := ⟨zo_173 (by decide +kernel), rfl⟩
theorem dX1_join_269 : Dc mX1_join 269 (.lload_n 1) 1 270 := ⟨zo_31 (by decide +kernel), rfl⟩
theorem dX1_join_270 : Dc mX1_join 270 (.lload_n 3) 1 271 := ⟨zo_33 (by decide +kernel), rfl⟩
theorem dX1_join_271 : Dc mX1_join 271 (.lcmp) 1 272 := ⟨zo_148 (by decide +kernel), rfl⟩
theorem dX1_join_272 : Dc mX1_join 272 (.ifCond .le 7) 3 275 := ⟨zo_158 (w := 0) (x := 7) (by decide +kernel), rfl⟩
theorem dX1_join_275 : Dc mX1_join 275 (.lconst 1) 1 276 := ⟨zo_10 (by decide +kernel), rfl⟩
theorem dX1_join_276 : Dc mX1_join 276 (.goto 4) 3 279 := ⟨zo_167 (w := 0) (x := 4) (by decide +kernel), rfl⟩
theorem dX1_join_279 : Dc mX1_join 279 (.lconst 0) 1 280 := ⟨zo_9 (by decide +kernel), rfl⟩
theorem dX1_join_280 : Dc mX1_join 280 (.lreturn) 1 281 := ⟨zo_173 (by decide +kernel), rfl⟩
theorem dX1_join_281 : Dc mX1_join 281 (.lload_n 1) 1 282 := ⟨zo_31 (by decide +kernel), rfl⟩
theorem dX1_join_282 : Dc mX1_join 282 (.lconst 0) 1 283 := ⟨zo_9 (by decide +kernel), rfl⟩
theorem dX1_join_283 : Dc mX1_join 283 (.lcmp) 1 284 := ⟨zo_148 (by decide +kernel), rfl⟩
theorem dX1_join_284 : Dc mX1_join 284 (.ifCond .eq 13) 3 287 := ⟨zo_153 (w := 0) (x := 13) (by decide +kernel), rfl⟩
theorem dX1_join_287 : Dc mX1_join 287 (.lload_n 3) 1 288 := ⟨zo_33 (by decide +kernel), rfl⟩
theorem dX1_join_288 : Dc mX1_join 288 (.lconst 0) 1 289 := ⟨zo_9 (by decide +kernel), rfl⟩
theorem dX1_join_289 : Dc mX1_join 289 (.lcmp) 1 290 := ⟨zo_148 (by decide +kernel), rfl⟩
theorem dX1_join_290 : Dc mX1_join 290 (.ifCond .eq 7) 3 293 := ⟨zo_153 (w := 0) (x := 7) (by decide +kernel), rfl⟩
theorem dX1_join_293 : Dc mX1_join 293 (.lconst 1) 1 294 := ⟨zo_10 (by decide +kernel), rfl⟩
theorem dX1_join_294 : Dc mX1_join 294 (.goto 4) 3 297 := ⟨zo_167 (w := 0) (x := 4) (by decide +kernel), rfl⟩
theorem dX1_join_297 : Dc mX1_join 297 (.lconst 0) 1 298 := ⟨zo_9 (by decide +kernel), rfl⟩
theorem dX1_join_298 : Dc mX1_join 298 (.lreturn) 1 299 := ⟨zo_173 (by decide +kernel), rfl⟩
theorem dX1_join_299 : Dc mX1_join 299 (.lload_n 1) 1 300 := ⟨zo_31 (by decide +kernel), rfl⟩
theorem dX1_join_300 : Dc mX1_join 300 (.lconst 0) 1 301 := ⟨zo_9 (by decide +kernel), rfl⟩
theorem dX1_join_301 : Dc mX1_join 301 (.lcmp) 1 302 := ⟨zo_148 (by decide +kernel), rfl⟩
theorem dX1_join_302 : Dc mX1_join 302 (.ifCond .ne 9) 3 305 := ⟨zo_154 (w := 0) (x := 9) (by decide +kernel), rfl⟩
theorem dX1_join_305 : Dc mX1_join 305 (.lload_n 3) 1 306 := ⟨zo_33 (by decide +kernel), rfl⟩
theorem dX1_join_306 : Dc mX1_join 306 (.lconst 0) 1 307 := ⟨zo_9 (by decide +kernel), rfl⟩
theorem dX1_join_307 : Dc mX1_join 307 (.lcmp) 1 308 := ⟨zo_148 (by decide +kernel), rfl⟩
theorem dX1_join_308 : Dc mX1_join 308 (.ifCond .eq 7) 3 311 := ⟨zo_153 (w := 0) (x := 7) (by decide +kernel), rfl⟩
theorem dX1_join_311 : Dc mX1_join 311 (.lconst 1) 1 312 := ⟨zo_10 (by decide +kernel), rfl⟩
theorem dX1_join_312 : Dc mX1_join 312 (.goto 4) 3 315 := ⟨zo_167 (w := 0) (x := 4) (by decide +kernel), rfl⟩
theorem dX1_join_315 : Dc mX1_join 315 (.lconst 0) 1 316 := ⟨zo_9 (by decide +kernel), rfl⟩
theorem dX1_join_316 : Dc mX1_join 316 (.lreturn) 1 317 := ⟨zo_173 (by decide +kernel), rfl⟩
theorem dX1_join_317 : Dc mX1_join 317 (.ldc2_w 58) 3 320 := ⟨zo_20 (w := 0) (x := 58) (by decide +kernel), rfl⟩
theorem dX1_join_320 : Dc mX1_join 320 (.lreturn) 1 321 := ⟨zo_173 (by decide +kernel), rfl⟩
theorem dX2_init_0 : Dc mX2_init 0 (.aload_n 0) 1 1 := ⟨zo_42 (by decide +kernel), rfl⟩
theorem dX2_init_1 : Dc mX2_init 1 (.invokespecial 3) 3 4 := ⟨zo_183 (w := 0) (x := 3) (by decide +kernel), rfl⟩
theorem dX2_init_4 : Dc mX2_init 4 (.aload_n 0) 1 5 := ⟨zo_42 (by decide +kernel), rfl⟩
theorem dX2_init_5 : Dc mX2_init 5 (.bipush 6) 2 7 := ⟨zo_16 (w := 6) (by decide +kernel), rfl⟩
theorem dX2_init_7 : Dc mX2_init 7 (.newarray .int) 2 9 := ⟨by decide +kernel, rfl⟩
theorem dX2_init_9 : Dc mX2_init 9 (.putfield 9) 3 12 := ⟨zo_181 (w := 0) (x := 9) (by decide +kernel), rfl⟩
theorem dX2_init_12 : Dc mX2_init 12 (.aload_n 0) 1 13 := ⟨zo_42 (by decide +kernel), rfl⟩
theorem dX2_init_13 : Dc mX2_init 13 (.iconst 0) 1 14 := ⟨zo_3 (by decide +kernel), rfl⟩
theorem dX2_init_14 : Dc mX2_init 14 (.putfield 15) 3 17 := ⟨zo_181 (w := 0) (x := 15) (by decide +kernel), rfl⟩
theorem dX2_init_17 : Dc mX2_init 17 (.aload_n 0) 1 18 := ⟨zo_42 (by decide +kernel), rfl⟩
theorem dX2_init_18 : Dc mX2_init 18 (.bipush 6) 2 20 := ⟨zo_16 (w := 6) (by decide +kernel), rfl⟩
theorem dX2_init_20 : Dc mX2_init 20 (.newarray .int) 2 22 := ⟨by decide +kernel, rfl⟩
theorem dX2_init_22 : Dc mX2_init 22 (.putfield 19) 3 25 := ⟨zo_181 (w := 0) (x := 19) (by decide +kernel), rfl⟩
theorem dX2_init_25 : Dc mX2_init 25 (.aload_n 0) 1 26 := ⟨zo_42 (by decide +kernel), rfl⟩
theorem dX2_init_26 : Dc mX2_init 26 (.bipush 36) 2 28 := ⟨zo_16 (w := 36) (by decide +kernel), rfl⟩
theorem dX2_init_28 : Dc mX2_init 28 (.newarray .int) 2 30 := ⟨by decide +kernel, rfl⟩
theorem dX2_init_30 : Dc mX2_init 30 (.putfield 22) 3 33 := ⟨zo_181 (w := 0) (x := 22) (by decide +kernel), rfl⟩
theorem dX2_init_33 : Dc mX2_init 33 (.aload_n 0) 1 34 := ⟨zo_42 (by decide +kernel), rfl⟩
theorem dX2_init_34 : Dc mX2_init 34 (.aload_n 1) 1 35 := ⟨zo_43 (by decide +kernel), rfl⟩
theorem dX2_init_35 : Dc mX2_init 35 (.putfield 25) 3 38 := ⟨zo_181 (w := 0) (x := 25) (by decide +kernel), rfl⟩
theorem dX2_init_38 : Dc mX2_init 38 (.return_) 1 39 := ⟨zo_177 (by decide +kernel), rfl⟩
theorem dX2_work_0 : Dc mX2_work 0 (.iconst 0) 1 1 := ⟨zo_3 (by decide +kernel), rfl⟩
theorem dX2_work_1 : Dc mX2_work 1 (.istore_n 2) 1 2 := ⟨zo_61 (by decide +kernel), rfl⟩
theorem dX2_work_2 : Dc mX2_work 2 (.iload_n 2) 1 3 := ⟨zo_28 (by decide +kernel), rfl⟩
theorem dX2_work_3 : Dc mX2_work 3 (.bipush 6) 2 5 := ⟨zo_16 (w := 6) (by decide +kernel), rfl⟩
theorem dX2_work_5 : Dc mX2_work 5 (.if_icmp .ge 42) 3 8 := ⟨zo_162 (w := 0) (x := 42) (by decide +kernel), rfl⟩
theorem dX2_work_8 : Dc mX2_work 8 (.iconst 0) 1 9 := ⟨zo_3 (by decide +kernel), rfl⟩
theorem dX2_work_9 : Dc mX2_work 9 (.istore_n 3) 1 10 := ⟨zo_62 (by decide +kernel), rfl⟩
theorem dX2_work_10 : Dc mX2_work 10 (.iload_n 3) 1 11 := ⟨zo_29 (by decide +kernel), rfl⟩
theorem dX2_work_11 : Dc mX2_work 11 (.bipush 6) 2 13 := ⟨zo_16 (w := 6) (by decide +kernel), rfl⟩
theorem dX2_work_13 : Dc mX2_work 13 (.if_icmp .ge 28) 3 16 := ⟨zo_162 (w := 0) (x := 28) (by decide +kernel), rfl⟩
theorem dX2_work_16 : Dc mX2_work 16 (.aload_n 0) 1 17 := ⟨zo_42 (by decide +kernel), rfl⟩
theorem dX2_work_17 : Dc mX2_work 17 (.getfield 22) 3 20 := ⟨zo_180 (w := 0) (x := 22) (by decide +kernel), rfl⟩
theorem dX2_work_20 : Dc mX2_work 20 (.iload_n 2) 1 21 := ⟨zo_28 (by decide +kernel), rfl⟩
theorem dX2_work_21 : Dc mX2_work 21 (.bipush 6) 2 23 := ⟨zo_16 (w := 6) (by decide +kernel), rfl⟩
theorem dX2_work_23 : Dc mX2_work 23 (.imul) 1 24 := ⟨zo_104 (by decide +kernel), rfl⟩
theorem dX2_work_24 : Dc mX2_work 24 (.iload_n 3) 1 25 := ⟨zo_29 (by decide +kernel), rfl⟩
theorem dX2_work_25 : Dc mX2_work 25 (.iadd) 1 26 := ⟨zo_96 (by decide +kernel), rfl⟩
theorem dX2_work_26 : Dc mX2_work 26 (.aload_n 1) 1 27 := ⟨zo_43 (by decide +kernel), rfl⟩
theorem dX2_work_27 : Dc mX2_work 27 (.iload_n 2) 1 28 := ⟨zo_28 (by decide +kernel), rfl⟩
theorem dX2_work_28 : Dc mX2_work 28 (.iload_n 3) 1 29 := ⟨zo_29 (by decide +kernel), rfl⟩
theorem dX2_work_29 : Dc mX2_work 29 (.invokestatic 29) 3 32 := ⟨zo_184 (w := 0) (x := 29) (by decide +kernel), rfl⟩
theorem dX2_work_32 : Dc mX2_work 32 (.invokestatic 33) 3 35 := ⟨zo_184 (w := 0) (x := 33) (by decide +kernel), rfl⟩
theorem dX2_work_35 : Dc mX2_work 35 (.iinc 3 1) 3 38 := ⟨zo_iinc (x := 1) (by decide +kernel), rfl⟩
theorem dX2_work_38 : Dc mX2_work 38 (.goto (-28)) 3 41 := ⟨zo_167 (w := 255) (x := 228) (by decide +kernel), rfl⟩
theorem dX2_work_41 : Dc mX2_work 41 (.iinc 2 1) 3 44 := ⟨zo_iinc (x := 1) (by decide +kernel), rfl⟩
theorem dX2_work_44 : Dc mX2_work 44 (.goto (-42)) 3 47 := ⟨zo_167 (w := 255) (x := 214) (by decide +kernel), rfl⟩
theorem dX2_work_47 : Dc mX2_work 47 (.aload_n 0) 1 48 := ⟨zo_42 (by decide +kernel), rfl⟩
theorem dX2_work_48 : Dc mX2_work 48 (.getfield 9) 3 51 := ⟨zo_180 (w := 0) (x := 9) (by decide +kernel), rfl⟩
theorem dX2_work_51 : Dc mX2_work 51 (.iconst 0) 1 52 := ⟨zo_3 (by decide +kernel), rfl⟩
theorem dX2_work_52 : Dc mX2_work 52 (.invokestatic 37) 3 55 := ⟨zo_184 (w := 0) (x := 37) (by decide +kernel), rfl⟩
theorem dX2_work_55 : Dc mX2_work 55 (.aload_n 0) 1 56 := ⟨zo_42 (by decide +kernel), rfl⟩
theorem dX2_work_56 : Dc mX2_work 56 (.ldc 41) 2 58 := ⟨zo_18 (by decide +kernel), rfl⟩
theorem dX2_work_58 : Dc mX2_work 58 (.putfield 15) 3 61 := ⟨zo_181 (w := 0) (x := 15) (by decide +kernel), rfl⟩
theorem dX2_work_61 : Dc mX2_work 61 (.aload_n 0) 1 62 := ⟨zo_42 (by decide +kernel), rfl⟩
theorem dX2_work_62 : Dc mX2_work 62 (.iconst 0) 1 63 := ⟨zo_3 (by decide +kernel), rfl⟩
theorem dX2_work_63 : Dc mX2_work 63 (.iconst 0) 1 64 := ⟨zo_3 (by decide +kernel), rfl⟩
theorem dX2_work_64 : Dc mX2_work 64 (.iconst 0) 1 65 := ⟨zo_3 (by decide +kernel), rfl⟩
theorem dX2_work_65 : Dc mX2_work 65 (.invokestatic 42) 3 68 := ⟨zo_184 (w := 0) (x := 42) (by decide +kernel), rfl⟩
theorem dX2_work_68 : Dc mX2_work 68 (.return_) 1 69 := ⟨zo_177 (by decide +kernel), rfl⟩
theorem dX2_clashesBy_0 : Dc mX2_clashesBy 0 (.iconst 0) 1 1 := ⟨zo_3 (by decide +kernel), rfl⟩
theorem dX2_clashesBy_1 : Dc mX2_clashesBy 1 (.istore_n 3) 1 2 := ⟨zo_62 (by decide +kernel), rfl⟩
theorem dX2_clashesBy_2 : Dc mX2_clashesBy 2 (.iconst 0) 1 3 := ⟨zo_3 (by decide +kernel), rfl⟩
theorem dX2_clashesBy_3 : Dc mX2_clashesBy 3 (.istore 4) 2 5 := ⟨zo_54 (by decide +kernel), rfl⟩
theorem dX2_clashesBy_5 : Dc mX2_clashesBy 5 (.iload 4) 2 7 := ⟨zo_21 (by decide +kernel), rfl⟩
theorem dX2_clashesBy_7 : Dc mX2_clashesBy 7 (.bipush 8) 2 9 := ⟨zo_16 (w := 8) (by decide +kernel), rfl⟩
theorem dX2_clashesBy_9 : Dc mX2_clashesBy 9 (.if_icmp .ge 48) 3 12 := ⟨zo_162 (w := 0) (x := 48) (by decide +kernel), rfl⟩
theorem dX2_clashesBy_12 : Dc mX2_clashesBy 12 (.aload_n 0) 1 13 := ⟨zo_42 (by decide +kernel), rfl⟩
theorem dX2_clashesBy_13 : Dc mX2_clashesBy 13 (.iload 4) 2 15 := ⟨zo_21 (by decide +kernel), rfl⟩
theorem dX2_clashesBy_15 : Dc mX2_clashesBy 15 (.iload_n 1) 1 16 := ⟨zo_27 (by decide +kernel), rfl⟩
theorem dX2_clashesBy_16 : Dc mX2_clashesBy 16 (.invokevirtual 46) 3 19 := ⟨zo_182 (w := 0) (x := 46) (by decide +kernel), rfl⟩
theorem dX2_clashesBy_19 : Dc mX2_clashesBy 19 (.istore 5) 2 21 := ⟨zo_54 (by decide +kernel), rfl⟩
theorem dX2_clashesBy_21 : Dc mX2_clashesBy 21 (.aload_n 0) 1 22 := ⟨zo_42 (by decide +kernel), rfl⟩
theorem dX2_clashesBy_22 : Dc mX2_clashesBy 22 (.getfield 52) 3 25 := ⟨zo_180 (w := 0) (x := 52) (by decide +kernel), rfl⟩
theorem dX2_clashesBy_25 : Dc mX2_clashesBy 25 (.iload 4) 2 27 := ⟨zo_21 (by decide +kernel), rfl⟩
theorem dX2_clashesBy_27 : Dc mX2_clashesBy 27 (.invokestatic 55) 3 30 := ⟨zo_184 (w := 0) (x := 55) (by decide +kernel), rfl⟩
theorem dX2_clashesBy_30 : Dc mX2_clashesBy 30 (.ifCond .eq 21) 3 33 := ⟨zo_153 (w := 0) (x := 21) (by decide +kernel), rfl⟩
theorem dX2_clashesBy_33 : Dc mX2_clashesBy 33 (.iload 5) 2 35 := ⟨zo_21 (by decide +kernel), rfl⟩
theorem dX2_clashesBy_35 : Dc mX2_clashesBy 35 (.ifCond .lt 16) 3 38 := ⟨zo_155 (w := 0) (x := 16) (by decide +kernel), rfl⟩
theorem dX2_clashesBy_38 : Dc mX2_clashesBy 38 (.iload 5) 2 40 := ⟨zo_21 (by decide +kernel), rfl⟩
theorem dX2_clashesBy_40 : Dc mX2_clashesBy 40 (.iload_n 2) 1 41 := ⟨zo_28 (by decide +kernel), rfl⟩
theorem dX2_clashesBy_41 : Dc mX2_clashesBy 41 (.if_icmp .eq 10) 3 44 := ⟨zo_159 (w := 0) (x := 10) (by decide +kernel), rfl⟩
theorem dX2_clashesBy_44 : Dc mX2_clashesBy 44 (.iload_n 3) 1 45 := ⟨zo_29 (by decide +kernel), rfl⟩
theorem dX2_clashesBy_45 : Dc mX2_clashesBy 45 (.iconst 1) 1 46 := ⟨zo_4 (by decide +kernel), rfl⟩
theorem dX2_clashesBy_46 : Dc mX2_clashesBy 46 (.iload 4) 2 48 := ⟨zo_21 (by decide +kernel), rfl⟩
theorem dX2_clashesBy_48 : Dc mX2_clashesBy 48 (.ishl) 1 49 := ⟨zo_120 (by decide +kernel), rfl⟩
theorem dX2_clashesBy_49 : Dc mX2_clashesBy 49 (.ior) 1 50 := ⟨zo_128 (by decide +kernel), rfl⟩
theorem dX2_clashesBy_50 : Dc mX2_clashesBy 50 (.istore_n 3) 1 51 := ⟨zo_62 (by decide +kernel), rfl⟩
theorem dX2_clashesBy_51 : Dc mX2_clashesBy 51 (.iinc 4 1) 3 54 := ⟨zo_iinc (x := 1) (by decide +kernel), rfl⟩
theorem dX2_clashesBy_54 : Dc mX2_clashesBy 54 (.goto (-49)) 3 57 := ⟨zo_167 (w := 255) (x := 207) (by decide +kernel), rfl⟩
theorem dX2_clashesBy_57 : Dc mX2_clashesBy 57 (.iload_n 3) 1 58 := ⟨zo_29 (by decide +kernel), rfl⟩
theorem dX2_clashesBy_58 : Dc mX2_clashesBy 58 (.ireturn) 1 59 := ⟨zo_172 (by decide +kernel), rfl⟩
theorem dX2_choose_0 : Dc mX2_choose 0 (.iload_n 3) 1 1 := ⟨zo_29 (by decide +kernel), rfl⟩
theorem dX2_choose_1 : Dc mX2_choose 1 (.aload_n 0) 1 2 := ⟨zo_42 (by decide +kernel), rfl⟩
theorem dX2_choose_2 : Dc mX2_choose 2 (.getfield 15) 3 5 := ⟨zo_180 (w := 0) (x := 15) (by decide +kernel), rfl⟩
theorem dX2_choose_5 : Dc mX2_choose 5 (.if_icmp .lt 4) 3 8 := ⟨zo_161 (w := 0) (x := 4) (by decide +kernel), rfl⟩
theorem dX2_choose_8 : Dc mX2_choose 8 (.return_) 1 9 := ⟨zo_177 (by decide +kernel), rfl⟩
theorem dX2_choose_9 : Dc mX2_choose 9 (.iload_n 1) 1 10 := ⟨zo_27 (by decide +kernel), rfl⟩
theorem dX2_choose_10 : Dc mX2_choose 10 (.aload_n 0) 1 11 := ⟨zo_42 (by decide +kernel), rfl⟩
theorem dX2_choose_11 : Dc mX2_choose 11 (.getfield 25) 3 14 := ⟨zo_180 (w := 0) (x := 25) (by decide +kernel), rfl⟩
theorem dX2_choose_14 : Dc mX2_choose 14 (.getfield 59) 3 17 := ⟨zo_180 (w := 0) (x := 59) (by decide +kernel), rfl⟩
theorem dX2_choose_17 : Dc mX2_choose 17 (.getfield 65) 3 20 := ⟨zo_180 (w := 0) (x := 65) (by decide +kernel), rfl⟩
theorem dX2_choose_20 : Dc mX2_choose 20 (.if_icmp .ge 9) 3 23 := ⟨zo_162 (w := 0) (x := 9) (by decide +kernel), rfl⟩
theorem dX2_choose_23 : Dc mX2_choose 23 (.iload_n 1) 1 24 := ⟨zo_27 (by decide +kernel), rfl⟩
theorem dX2_choose_24 : Dc mX2_choose 24 (.bipush 6) 2 26 := ⟨zo_16 (w := 6) (by decide +kernel), rfl⟩
theorem dX2_choose_26 : Dc mX2_choose 26 (.if_icmp .lt 20) 3 29 := ⟨zo_161 (w := 0) (x := 20) (by decide +kernel), rfl⟩
theorem dX2_choose_29 : Dc mX2_choose 29 (.aload_n 0) 1 30 := ⟨zo_42 (by decide +kernel), rfl⟩
theorem dX2_choose_30 : Dc mX2_choose 30 (.iload_n 3) 1 31 := ⟨zo_29 (by decide +kernel), rfl⟩
theorem dX2_choose_31 : Dc mX2_choose 31 (.putfield 15) 3 34 := ⟨zo_181 (w := 0) (x := 15) (by decide +kernel), rfl⟩
theorem dX2_choose_34 : Dc mX2_choose 34 (.aload_n 0) 1 35 := ⟨zo_42 (by decide +kernel), rfl⟩
theorem dX2_choose_35 : Dc mX2_choose 35 (.getfield 19) 3 38 := ⟨zo_180 (w := 0) (x := 19) (by decide +kernel), rfl⟩
theorem dX2_choose_38 : Dc mX2_choose 38 (.aload_n 0) 1 39 := ⟨zo_42 (by decide +kernel), rfl⟩
theorem dX2_choose_39 : Dc mX2_choose 39 (.getfield 9) 3 42 := ⟨zo_180 (w := 0) (x := 9) (by decide +kernel), rfl⟩
theorem dX2_choose_42 : Dc mX2_choose 42 (.invokestatic 70) 3 45 := ⟨zo_184 (w := 0) (x := 70) (by decide +kernel), rfl⟩
theorem dX2_choose_45 : Dc mX2_choose 45 (.return_) 1 46 := ⟨zo_177 (by decide +kernel), rfl⟩
theorem dX2_choose_46 : Dc mX2_choose 46 (.iconst 0) 1 47 := ⟨zo_3 (by decide +kernel), rfl⟩
theorem dX2_choose_47 : Dc mX2_choose 47 (.istore 4) 2 49 := ⟨zo_54 (by decide +kernel), rfl⟩
theorem dX2_choose_49 : Dc mX2_choose 49 (.iload 4) 2 51 := ⟨zo_21 (by decide +kernel), rfl⟩
theorem dX2_choose_51 : Dc mX2_choose 51 (.aload_n 0) 1 52 := ⟨zo_42 (by decide +kernel), rfl⟩
theorem dX2_choose_52 : Dc mX2_choose 52 (.getfield 25) 3 55 := ⟨zo_180 (w := 0) (x := 25) (by decide +kernel), rfl⟩
theorem dX2_choose_55 : Dc mX2_choose 55 (.getfield 59) 3 58 := ⟨zo_180 (w := 0) (x := 59) (by decide +kernel), rfl⟩
theorem dX2_choose_58 : Dc mX2_choose 58 (.getfield 74) 3 61 := ⟨zo_180 (w := 0) (x := 74) (by decide +kernel), rfl⟩
theorem dX2_choose_61 : Dc mX2_choose 61 (.iload_n 1) 1 62 := ⟨zo_27 (by decide +kernel), rfl⟩
theorem dX2_choose_62 : Dc mX2_choose 62 (.invokestatic 55) 3 65 := ⟨zo_184 (w := 0) (x := 55) (by decide +kernel), rfl⟩
theorem dX2_choose_65 : Dc mX2_choose 65 (.if_icmp .ge 68) 3 68 := ⟨zo_162 (w := 0) (x := 68) (by decide +kernel), rfl⟩
theorem dX2_choose_68 : Dc mX2_choose 68 (.aload_n 0) 1 69 := ⟨zo_42 (by decide +kernel), rfl⟩
theorem dX2_choose_69 : Dc mX2_choose 69 (.iload_n 1) 1 70 := ⟨zo_27 (by decide +kernel), rfl⟩
theorem dX2_choose_70 : Dc mX2_choose 70 (.iload 4) 2 72 := ⟨zo_21 (by decide +kernel), rfl⟩
theorem dX2_choose_72 : Dc mX2_choose 72 (.invokevirtual 77) 3 75 := ⟨zo_182 (w := 0) (x := 77) (by decide +kernel), rfl⟩
theorem dX2_choose_75 : Dc mX2_choose 75 (.ifCond .eq 52) 3 78 := ⟨zo_153 (w := 0) (x := 52) (by decide +kernel), rfl⟩
theorem dX2_choose_78 : Dc mX2_choose 78 (.aload_n 0) 1 79 := ⟨zo_42 (by decide +kernel), rfl⟩
theorem dX2_choose_79 : Dc mX2_choose 79 (.getfield 22) 3 82 := ⟨zo_180 (w := 0) (x := 22) (by decide +kernel), rfl⟩
theorem dX2_choose_82 : Dc mX2_choose 82 (.iload_n 1) 1 83 := ⟨zo_27 (by decide +kernel), rfl⟩
theorem dX2_choose_83 : Dc mX2_choose 83 (.bipush 6) 2 85 := ⟨zo_16 (w := 6) (by decide +kernel), rfl⟩
theorem dX2_choose_85 : Dc mX2_choose 85 (.imul) 1 86 := ⟨zo_104 (by decide +kernel), rfl⟩
theorem dX2_choose_86 : Dc mX2_choose 86 (.iload 4) 2 88 := ⟨zo_21 (by decide +kernel), rfl⟩
theorem dX2_choose_88 : Dc mX2_choose 88 (.iadd) 1 89 := ⟨zo_96 (by decide +kernel), rfl⟩
theorem dX2_choose_89 : Dc mX2_choose 89 (.invokestatic 55) 3 92 := ⟨zo_184 (w := 0) (x := 55) (by decide +kernel), rfl⟩
theorem dX2_choose_92 : Dc mX2_choose 92 (.iload_n 2) 1 93 := ⟨zo_28 (by decide +kernel), rfl⟩
theorem dX2_choose_93 : Dc mX2_choose 93 (.iconst (-1)) 1 94 := ⟨zo_2 (by decide +kernel), rfl⟩
theorem dX2_choose_94 : Dc mX2_choose 94 (.ixor) 1 95 := ⟨zo_130 (by decide +kernel), rfl⟩
theorem dX2_choose_95 : Dc mX2_choose 95 (.iand) 1 96 := ⟨zo_126 (by decide +kernel), rfl⟩
theorem dX2_choose_96 : Dc mX2_choose 96 (.istore 5) 2 98 := ⟨zo_54 (by decide +kernel), rfl⟩
theorem dX2_choose_98 : Dc mX2_choose 98 (.aload_n 0) 1 99 := ⟨zo_42 (by decide +kernel), rfl⟩
theorem dX2_choose_99 : Dc mX2_choose 99 (.getfield 19) 3 102 := ⟨zo_180 (w := 0) (x := 19) (by decide +kernel), rfl⟩
theorem dX2_choose_102 : Dc mX2_choose 102 (.iload_n 1) 1 103 := ⟨zo_27 (by decide +kernel), rfl⟩
theorem dX2_choose_103 : Dc mX2_choose 103 (.iload 4) 2 105 := ⟨zo_21 (by decide +kernel), rfl⟩
theorem dX2_choose_105 : Dc mX2_choose 105 (.invokestatic 33) 3 108 := ⟨zo_184 (w := 0) (x := 33) (by decide +kernel), rfl⟩
theorem dX2_choose_108 : Dc mX2_choose 108 (.aload_n 0) 1 109 := ⟨zo_42 (by decide +kernel), rfl⟩
theorem dX2_choose_109 : Dc mX2_choose 109 (.iload_n 1) 1 110 := ⟨zo_27 (by decide +kernel), rfl⟩
theorem dX2_choose_110 : Dc mX2_choose 110 (.iconst 1) 1 111 := ⟨zo_4 (by decide +kernel), rfl⟩
theorem dX2_choose_111 : Dc mX2_choose 111 (.iadd) 1 112 := ⟨zo_96 (by decide +kernel), rfl⟩
theorem dX2_choose_112 : Dc mX2_choose 112 (.iload_n 2) 1 113 := ⟨zo_28 (by decide +kernel), rfl⟩
theorem dX2_choose_113 : Dc mX2_choose 113 (.iload 5) 2 115 := ⟨zo_21 (by decide +kernel), rfl⟩
theorem dX2_choose_115 : Dc mX2_choose 115 (.ior) 1 116 := ⟨zo_128 (by decide +kernel), rfl⟩
theorem dX2_choose_116 : Dc mX2_choose 116 (.iload_n 3) 1 117 := ⟨zo_29 (by decide +kernel), rfl⟩
theorem dX2_choose_117 : Dc mX2_choose 117 (.aload_n 0) 1 118 := ⟨zo_42 (by decide +kernel), rfl⟩
theorem dX2_choose_118 : Dc mX2_choose 118 (.iload 5) 2 120 := ⟨zo_21 (by decide +kernel), rfl⟩
theorem dX2_choose_120 : Dc mX2_choose 120 (.invokevirtual 81) 3 123 := ⟨zo_182 (w := 0) (x := 81) (by decide +kernel), rfl⟩
theorem dX2_choose_123 : Dc mX2_choose 123 (.iadd) 1 124 := ⟨zo_96 (by decide +kernel), rfl⟩
theorem dX2_choose_124 : Dc mX2_choose 124 (.invokestatic 42) 3 127 := ⟨zo_184 (w := 0) (x := 42) (by decide +kernel), rfl⟩
theorem dX2_choose_127 : Dc mX2_choose 127 (.iinc 4 1) 3 130 := ⟨zo_iinc (x := 1) (by decide +kernel), rfl⟩
theorem dX2_choose_130 : Dc mX2_choose 130 (.goto (-81)) 3 133 := ⟨zo_167 (w := 255) (x := 175) (by decide +kernel), rfl⟩
theorem dX2_choose_133 : Dc mX2_choose 133 (.return_) 1 134 := ⟨zo_177 (by decide +kernel), rfl⟩
theorem dX2_isWorth_0 : Dc mX2_isWorth 0 (.aload_n 0) 1 1 := ⟨zo_42 (by decide +kernel), rfl⟩
theorem dX2_isWorth_1 : Dc mX2_isWorth 1 (.getfield 22) 3 4 := ⟨zo_180 (w := 0) (x := 22) (by decide +kernel), rfl⟩
theorem dX2_isWorth_4 : Dc mX2_isWorth 4 (.iload_n 1) 1 5 := ⟨zo_27 (by decide +kernel), rfl⟩
theorem dX2_isWorth_5 : Dc mX2_isWorth 5 (.bipush 6) 2 7 := ⟨zo_16 (w := 6) (by decide +kernel), rfl⟩
theorem dX2_isWorth_7 : Dc mX2_isWorth 7 (.imul) 1 8 := ⟨zo_104 (by decide +kernel), rfl⟩
theorem dX2_isWorth_8 : Dc mX2_isWorth 8 (.iload_n 2) 1 9 := ⟨zo_28 (by decide +kernel), rfl⟩
theorem dX2_isWorth_9 : Dc mX2_isWorth 9 (.iadd) 1 10 := ⟨zo_96 (by decide +kernel), rfl⟩
theorem dX2_isWorth_10 : Dc mX2_isWorth 10 (.invokestatic 55) 3 13 := ⟨zo_184 (w := 0) (x := 55) (by decide +kernel), rfl⟩
theorem dX2_isWorth_13 : Dc mX2_isWorth 13 (.istore_n 3) 1 14 := ⟨zo_62 (by decide +kernel), rfl⟩
theorem dX2_isWorth_14 : Dc mX2_isWorth 14 (.iconst 0) 1 15 := ⟨zo_3 (by decide +kernel), rfl⟩
theorem dX2_isWorth_15 : Dc mX2_isWorth 15 (.istore 4) 2 17 := ⟨zo_54 (by decide +kernel), rfl⟩
theorem dX2_isWorth_17 : Dc mX2_isWorth 17 (.iload 4) 2 19 := ⟨zo_21 (by decide +kernel), rfl⟩
theorem dX2_isWorth_19 : Dc mX2_isWorth 19 (.iload_n 2) 1 20 := ⟨zo_28 (by decide +kernel), rfl⟩
theorem dX2_isWorth_20 : Dc mX2_isWorth 20 (.if_icmp .ge 32) 3 23 := ⟨zo_162 (w := 0) (x := 32) (by decide +kernel), rfl⟩
theorem dX2_isWorth_23 : Dc mX2_isWorth 23 (.aload_n 0) 1 24 := ⟨zo_42 (by decide +kernel), rfl⟩
theorem dX2_isWorth_24 : Dc mX2_isWorth 24 (.getfield 22) 3 27 := ⟨zo_180 (w := 0) (x := 22) (by decide +kernel), rfl⟩
theorem dX2_isWorth_27 : Dc mX2_isWorth 27 (.iload_n 1) 1 28 := ⟨zo_27 (by decide +kernel), rfl⟩
theorem dX2_isWorth_28 : Dc mX2_isWorth 28 (.bipush 6) 2 30 := ⟨zo_16 (w := 6) (by decide +kernel), rfl⟩
theorem dX2_isWorth_30 : Dc mX2_isWorth 30 (.imul) 1 31 := ⟨zo_104 (by decide +kernel), rfl⟩
theorem dX2_isWorth_31 : Dc mX2_isWorth 31 (.iload 4) 2 33 := ⟨zo_21 (by decide +kernel), rfl⟩
theorem dX2_isWorth_33 : Dc mX2_isWorth 33 (.iadd) 1 34 := ⟨zo_96 (by decide +kernel), rfl⟩
theorem dX2_isWorth_34 : Dc mX2_isWorth 34 (.invokestatic 55) 3 37 := ⟨zo_184 (w := 0) (x := 55) (by decide +kernel), rfl⟩
theorem dX2_isWorth_37 : Dc mX2_isWorth 37 (.iload_n 3) 1 38 := ⟨zo_29 (by decide +kernel), rfl⟩
theorem dX2_isWorth_38 : Dc mX2_isWorth 38 (.iconst (-1)) 1 39 := ⟨zo_2 (by decide +kernel), rfl⟩
theorem dX2_isWorth_39 : Dc mX2_isWorth 39 (.ixor) 1 40 := ⟨zo_130 (by decide +kernel), rfl⟩
theorem dX2_isWorth_40 : Dc mX2_isWorth 40 (.iand) 1 41 := ⟨zo_126 (by decide +kernel), rfl⟩
theorem dX2_isWorth_41 : Dc mX2_isWorth 41 (.ifCond .ne 5) 3 44 := ⟨zo_154 (w := 0) (x := 5) (by decide +kernel), rfl⟩
theorem dX2_isWorth_44 : Dc mX2_isWorth 44 (.iconst 0) 1 45 := ⟨zo_3 (by decide +kernel), rfl⟩
theorem dX2_isWorth_45 : Dc mX2_isWorth 45 (.ireturn) 1 46 := ⟨zo_172 (by decide +kernel), rfl⟩
theorem dX2_isWorth_46 : Dc mX2_isWorth 46 (.iinc 4 1) 3 49 := ⟨zo_iinc (x := 1) (by decide +kernel), rfl⟩
theorem dX2_isWorth_49 : Dc mX2_isWorth 49 (.goto (-32)) 3 52 := ⟨zo_167 (w := 255) (x := 224) (by decide +kernel), rfl⟩
theorem dX2_isWorth_52 : Dc mX2_isWorth 52 (.iconst 1) 1 53 := ⟨zo_4 (by decide +kernel), rfl⟩
theorem dX2_isWorth_53 : Dc mX2_isWorth 53 (.ireturn) 1 54 := ⟨zo_172 (by decide +kernel), rfl⟩
theorem dX2_costOf_0 : Dc mX2_costOf 0 (.iconst 0) 1 1 := ⟨zo_3 (by decide +kernel), rfl⟩
theorem dX2_costOf_1 : Dc mX2_costOf 1 (.istore_n 2) 1 2 := ⟨zo_61 (by decide +kernel), rfl⟩
theorem dX2_costOf_2 : Dc mX2_costOf 2 (.iconst 0) 1 3 := ⟨zo_3 (by decide +kernel), rfl⟩
theorem dX2_costOf_3 : Dc mX2_costOf 3 (.istore_n 3) 1 4 := ⟨zo_62 (by decide +kernel), rfl⟩
theorem dX2_costOf_4 : Dc mX2_costOf 4 (.iload_n 3) 1 5 := ⟨zo_29 (by decide +kernel), rfl⟩
theorem dX2_costOf_5 : Dc mX2_costOf 5 (.bipush 8) 2 7 := ⟨zo_16 (w := 8) (by decide +kernel), rfl⟩
theorem dX2_costOf_7 : Dc mX2_costOf 7 (.if_icmp .ge 44) 3 10 := ⟨zo_162 (w := 0) (x := 44) (by decide +kernel), rfl⟩
theorem dX2_costOf_10 : Dc mX2_costOf 10 (.iload_n 1) 1 11 := ⟨zo_27 (by decide +kernel), rfl⟩
theorem dX2_costOf_11 : Dc mX2_costOf 11 (.iload_n 3) 1 12 := ⟨zo_29 (by decide +kernel), rfl⟩
theorem dX2_costOf_12 : Dc mX2_costOf 12 (.ishr) 1 13 := ⟨zo_122 (by decide +kernel), rfl⟩
theorem dX2_costOf_13 : Dc mX2_costOf 13 (.ifCond .eq 38) 3 16 := ⟨zo_153 (w := 0) (x := 38) (by decide +kernel), rfl⟩
theorem dX2_costOf_16 : Dc mX2_costOf 16 (.iload_n 2) 1 17 := ⟨zo_28 (by decide +kernel), rfl⟩
theorem dX2_costOf_17 : Dc mX2_costOf 17 (.iload_n 1) 1 18 := ⟨zo_27 (by decide +kernel), rfl⟩
theorem dX2_costOf_18 : Dc mX2_costOf 18 (.iload_n 3) 1 19 := ⟨zo_29 (by decide +kernel), rfl⟩
theorem dX2_costOf_19 : Dc mX2_costOf 19 (.ishr) 1 20 := ⟨zo_122 (by decide +kernel), rfl⟩
theorem dX2_costOf_20 : Dc mX2_costOf 20 (.iconst 1) 1 21 := ⟨zo_4 (by decide +kernel), rfl⟩
theorem dX2_costOf_21 : Dc mX2_costOf 21 (.iand) 1 22 := ⟨zo_126 (by decide +kernel), rfl⟩
theorem dX2_costOf_22 : Dc mX2_costOf 22 (.ifCond .eq 20) 3 25 := ⟨zo_153 (w := 0) (x := 20) (by decide +kernel), rfl⟩
theorem dX2_costOf_25 : Dc mX2_costOf 25 (.aload_n 0) 1 26 := ⟨zo_42 (by decide +kernel), rfl⟩
theorem dX2_costOf_26 : Dc mX2_costOf 26 (.getfield 25) 3 29 := ⟨zo_180 (w := 0) (x := 25) (by decide +kernel), rfl⟩
theorem dX2_costOf_29 : Dc mX2_costOf 29 (.getfield 85) 3 32 := ⟨zo_180 (w := 0) (x := 85) (by decide +kernel), rfl⟩
theorem dX2_costOf_32 : Dc mX2_costOf 32 (.getfield 88) 3 35 := ⟨zo_180 (w := 0) (x := 88) (by decide +kernel), rfl⟩
theorem dX2_costOf_35 : Dc mX2_costOf 35 (.iload_n 3) 1 36 := ⟨zo_29 (by decide +kernel), rfl⟩
theorem dX2_costOf_36 : Dc mX2_costOf 36 (.invokestatic 55) 3 39 := ⟨zo_184 (w := 0) (x := 55) (by decide +kernel), rfl⟩
theorem dX2_costOf_39 : Dc mX2_costOf 39 (.goto 4) 3 42 := ⟨zo_167 (w := 0) (x := 4) (by decide +kernel), rfl⟩
theorem dX2_costOf_42 : Dc mX2_costOf 42 (.iconst 0) 1 43 := ⟨zo_3 (by decide +kernel), rfl⟩
theorem dX2_costOf_43 : Dc mX2_costOf 43 (.iadd) 1 44 := ⟨zo_96 (by decide +kernel), rfl⟩
theorem dX2_costOf_44 : Dc mX2_costOf 44 (.istore_n 2) 1 45 := ⟨zo_61 (by decide +kernel), rfl⟩
theorem dX2_costOf_45 : Dc mX2_costOf 45 (.iinc 3 1) 3 48 := ⟨zo_iinc (x := 1) (by decide +kernel), rfl⟩
theorem dX2_costOf_48 : Dc mX2_costOf 48 (.goto (-44)) 3 51 := ⟨zo_167 (w := 255) (x := 212) (by decide +kernel), rfl⟩
theorem dX2_costOf_51 : Dc mX2_costOf 51 (.iload_n 2) 1 52 := ⟨zo_28 (by decide +kernel), rfl⟩
theorem dX2_costOf_52 : Dc mX2_costOf 52 (.ireturn) 1 53 := ⟨zo_172 (by decide +kernel), rfl⟩
theorem dX3_init_0 : Dc mX3_init 0 (.aload_n 0) 1 1 := ⟨zo_42 (by decide +kernel), rfl⟩
theorem dX3_init_1 : Dc mX3_init 1 (.invokespecial 3) 3 4 := ⟨zo_183 (w := 0) (x := 3) (by decide +kernel), rfl⟩
theorem dX3_init_4 : Dc mX3_init 4 (.aload_n 0) 1 5 := ⟨zo_42 (by decide +kernel), rfl⟩
theorem dX3_init_5 : Dc mX3_init 5 (.iconst 0) 1 6 := ⟨zo_3 (by decide +kernel), rfl⟩
theorem dX3_init_6 : Dc mX3_init 6 (.putfield 9) 3 9 := ⟨zo_181 (w := 0) (x := 9) (by decide +kernel), rfl⟩
theorem dX3_init_9 : Dc mX3_init 9 (.aload_n 0) 1 10 := ⟨zo_42 (by decide +kernel), rfl⟩
theorem dX3_init_10 : Dc mX3_init 10 (.iconst (-1)) 1 11 := ⟨zo_2 (by decide +kernel), rfl⟩
theorem dX3_init_11 : Dc mX3_init 11 (.putfield 15) 3 14 := ⟨zo_181 (w := 0) (x := 15) (by decide +kernel), rfl⟩
theorem dX3_init_14 : Dc mX3_init 14 (.aload_n 0) 1 15 := ⟨zo_42 (by decide +kernel), rfl⟩
theorem dX3_init_15 : Dc mX3_init 15 (.iconst 0) 1 16 := ⟨zo_3 (by decide +kernel), rfl⟩
theorem dX3_init_16 : Dc mX3_init 16 (.putfield 18) 3 19 := ⟨zo_181 (w := 0) (x := 18) (by decide +kernel), rfl⟩
theorem dX3_init_19 : Dc mX3_init 19 (.aload_n 0) 1 20 := ⟨zo_42 (by decide +kernel), rfl⟩
theorem dX3_init_20 : Dc mX3_init 20 (.iconst 4) 1 21 := ⟨zo_7 (by decide +kernel), rfl⟩
theorem dX3_init_21 : Dc mX3_init 21 (.newarray .int) 2 23 := ⟨by decide +kernel, rfl⟩
theorem dX3_init_23 : Dc mX3_init 23 (.putfield 21) 3 26 := ⟨zo_181 (w := 0) (x := 21) (by decide +kernel), rfl⟩
theorem dX3_init_26 : Dc mX3_init 26 (.return_) 1 27 := ⟨zo_177 (by decide +kernel), rfl⟩
theorem dX3_begin_0 : Dc mX3_begin 0 (.aload_n 0) 1 1 := ⟨zo_42 (by decide +kernel), rfl⟩
theorem dX3_begin_1 : Dc mX3_begin 1 (.iconst 0) 1 2 := ⟨zo_3 (by decide +kernel), rfl⟩
theorem dX3_begin_2 : Dc mX3_begin 2 (.putfield 18) 3 5 := ⟨zo_181 (w := 0) (x := 18) (by decide +kernel), rfl⟩
theorem dX3_begin_5 : Dc mX3_begin 5 (.aload_n 0) 1 6 := ⟨zo_42 (by decide +kernel), rfl⟩
theorem dX3_begin_6 : Dc mX3_begin 6 (.iconst (-1)) 1 7 := ⟨zo_2 (by decide +kernel), rfl⟩
theorem dX3_begin_7 : Dc mX3_begin 7 (.putfield 15) 3 10 := ⟨zo_181 (w := 0) (x := 15) (by decide +kernel), rfl⟩
theorem dX3_begin_10 : Dc mX3_begin 10 (.aload_n 0) 1 11 := ⟨zo_42 (by decide +kernel), rfl⟩
theorem dX3_begin_11 : Dc mX3_begin 11 (.iconst 0) 1 12 := ⟨zo_3 (by decide +kernel), rfl⟩
theorem dX3_begin_12 : Dc mX3_begin 12 (.putfield 9) 3 15 := ⟨zo_181 (w := 0) (x := 9) (by decide +kernel), rfl⟩
theorem dX3_begin_15 : Dc mX3_begin 15 (.iconst 0) 1 16 := ⟨zo_3 (by decide +kernel), rfl⟩
theorem dX3_begin_16 : Dc mX3_begin 16 (.istore_n 3) 1 17 := ⟨zo_62 (by decide +kernel), rfl⟩
theorem dX3_begin_17 : Dc mX3_begin 17 (.iload_n 3) 1 18 := ⟨zo_29 (by decide +kernel), rfl⟩
theorem dX3_begin_18 : Dc mX3_begin 18 (.iload_n 2) 1 19 := ⟨zo_28 (by decide +kernel), rfl⟩
theorem dX3_begin_19 : Dc mX3_begin 19 (.if_icmp .ge 50) 3 22 := ⟨zo_162 (w := 0) (x := 50) (by decide +kernel), rfl⟩
theorem dX3_begin_22 : Dc mX3_begin 22 (.aload_n 0) 1 23 := ⟨zo_42 (by decide +kernel), rfl⟩
theorem dX3_begin_23 : Dc mX3_begin 23 (.getfield 18) 3 26 := ⟨zo_180 (w := 0) (x := 18) (by decide +kernel), rfl⟩
theorem dX3_begin_26 : Dc mX3_begin 26 (.iconst 4) 1 27 := ⟨zo_7 (by decide +kernel), rfl⟩
theorem dX3_begin_27 : Dc mX3_begin 27 (.if_icmp .ge 42) 3 30 := ⟨zo_162 (w := 0) (x := 42) (by decide +kernel), rfl⟩
theorem dX3_begin_30 : Dc mX3_begin 30 (.aload_n 1) 1 31 := ⟨zo_43 (by decide +kernel), rfl⟩
theorem dX3_begin_31 : Dc mX3_begin 31 (.getfield 25) 3 34 := ⟨zo_180 (w := 0) (x := 25) (by decide +kernel), rfl⟩
theorem dX3_begin_34 : Dc mX3_begin 34 (.iload_n 3) 1 35 := ⟨zo_29 (by decide +kernel), rfl⟩
theorem dX3_begin_35 : Dc mX3_begin 35 (.invokestatic 30) 3 38 := ⟨zo_184 (w := 0) (x := 30) (by decide +kernel), rfl⟩
theorem dX3_begin_38 : Dc mX3_begin 38 (.ifCond .ne 25) 3 41 := ⟨zo_154 (w := 0) (x := 25) (by decide +kernel), rfl⟩
theorem dX3_begin_41 : Dc mX3_begin 41 (.aload_n 0) 1 42 := ⟨zo_42 (by decide +kernel), rfl⟩
theorem dX3_begin_42 : Dc mX3_begin 42 (.getfield 21) 3 45 := ⟨zo_180 (w := 0) (x := 21) (by decide +kernel), rfl⟩
theorem dX3_begin_45 : Dc mX3_begin 45 (.aload_n 0) 1 46 := ⟨zo_42 (by decide +kernel), rfl⟩
theorem dX3_begin_46 : Dc mX3_begin 46 (.getfield 18) 3 49 := ⟨zo_180 (w := 0) (x := 18) (by decide +kernel), rfl⟩
theorem dX3_begin_49 : Dc mX3_begin 49 (.iload_n 3) 1 50 := ⟨zo_29 (by decide +kernel), rfl⟩
theorem dX3_begin_50 : Dc mX3_begin 50 (.invokestatic 34) 3 53 := ⟨zo_184 (w := 0) (x := 34) (by decide +kernel), rfl⟩
theorem dX3_begin_53 : Dc mX3_begin 53 (.aload_n 0) 1 54 := ⟨zo_42 (by decide +kernel), rfl⟩
theorem dX3_begin_54 : Dc mX3_begin 54 (.dup) 1 55 := ⟨zo_89 (by decide +kernel), rfl⟩
theorem dX3_begin_55 : Dc mX3_begin 55 (.getfield 18) 3 58 := ⟨zo_180 (w := 0) (x := 18) (by decide +kernel), rfl⟩
theorem dX3_begin_58 : Dc mX3_begin 58 (.iconst 1) 1 59 := ⟨zo_4 (by decide +kernel), rfl⟩
theorem dX3_begin_59 : Dc mX3_begin 59 (.iadd) 1 60 := ⟨zo_96 (by decide +kernel), rfl⟩
theorem dX3_begin_60 : Dc mX3_begin 60 (.putfield 18) 3 63 := ⟨zo_181 (w := 0) (x := 18) (by decide +kernel), rfl⟩
theorem dX3_begin_63 : Dc mX3_begin 63 (.iinc 3 1) 3 66 := ⟨zo_iinc (x := 1) (by decide +kernel), rfl⟩
theorem dX3_begin_66 : Dc mX3_begin 66 (.goto (-49)) 3 69 := ⟨zo_167 (w := 255) (x := 207) (by decide +kernel), rfl⟩
theorem dX3_begin_69 : Dc mX3_begin 69 (.return_) 1 70 := ⟨zo_177 (by decide +kernel), rfl⟩
theorem dX3_pick_0 : Dc mX3_pick 0 (.iload_n 0) 1 1 := ⟨zo_26 (by decide +kernel), rfl⟩
theorem dX3_pick_1 : Dc mX3_pick 1 (.iconst 2) 1 2 := ⟨zo_5 (by decide +kernel), rfl⟩
theorem dX3_pick_2 : Dc mX3_pick 2 (.iconst 3) 1 3 := ⟨zo_6 (by decide +kernel), rfl⟩
theorem dX3_pick_3 : Dc mX3_pick 3 (.iload_n 1) 1 4 := ⟨zo_27 (by decide +kernel), rfl⟩
theorem dX3_pick_4 : Dc mX3_pick 4 (.isub) 1 5 := ⟨zo_100 (by decide +kernel), rfl⟩
theorem dX3_pick_5 : Dc mX3_pick 5 (.imul) 1 6 := ⟨zo_104 (by decide +kernel), rfl⟩
theorem dX3_pick_6 : Dc mX3_pick 6 (.ishr) 1 7 := ⟨zo_122 (by decide +kernel), rfl⟩
theorem dX3_pick_7 : Dc mX3_pick 7 (.iconst 3) 1 8 := ⟨zo_6 (by decide +kernel), rfl⟩
theorem dX3_pick_8 : Dc mX3_pick 8 (.iand) 1 9 := ⟨zo_126 (by decide +kernel), rfl⟩
theorem dX3_pick_9 : Dc mX3_pick 9 (.ireturn) 1 10 := ⟨zo_172 (by decide +kernel), rfl⟩
theorem dX3_isRow_0 : Dc mX3_isRow 0 (.iconst 0) 1 1 := ⟨zo_3 (by decide +kernel), rfl⟩
theorem dX3_isRow_1 : Dc mX3_isRow 1 (.istore_n 2) 1 2 := ⟨zo_61 (by decide +kernel), rfl⟩
theorem dX3_isRow_2 : Dc mX3_isRow 2 (.iconst 0) 1 3 := ⟨zo_3 (by decide +kernel), rfl⟩
theorem dX3_isRow_3 : Dc mX3_isRow 3 (.istore_n 3) 1 4 := ⟨zo_62 (by decide +kernel), rfl⟩
theorem dX3_isRow_4 : Dc mX3_isRow 4 (.iload_n 3) 1 5 := ⟨zo_29 (by decide +kernel), rfl⟩
theorem dX3_isRow_5 : Dc mX3_isRow 5 (.iconst 4) 1 6 := ⟨zo_7 (by decide +kernel), rfl⟩
theorem dX3_isRow_6 : Dc mX3_isRow 6 (.if_icmp .ge 48) 3 9 := ⟨zo_162 (w := 0) (x := 48) (by decide +kernel), rfl⟩
theorem dX3_isRow_9 : Dc mX3_isRow 9 (.iload_n 1) 1 10 := ⟨zo_27 (by decide +kernel), rfl⟩
theorem dX3_isRow_10 : Dc mX3_isRow 10 (.iload_n 3) 1 11 := ⟨zo_29 (by decide +kernel), rfl⟩
theorem dX3_isRow_11 : Dc mX3_isRow 11 (.invokestatic 38) 3 14 := ⟨zo_184 (w := 0) (x := 38) (by decide +kernel), rfl⟩
theorem dX3_isRow_14 : Dc mX3_isRow 14 (.istore 4) 2 16 := ⟨zo_54 (by decide +kernel), rfl⟩
theorem dX3_isRow_16 : Dc mX3_isRow 16 (.iload_n 2) 1 17 := ⟨zo_28 (by decide +kernel), rfl⟩
theorem dX3_isRow_17 : Dc mX3_isRow 17 (.iload 4) 2 19 := ⟨zo_21 (by decide +kernel), rfl⟩
theorem dX3_isRow_19 : Dc mX3_isRow 19 (.ishr) 1 20 := ⟨zo_122 (by decide +kernel), rfl⟩
theorem dX3_isRow_20 : Dc mX3_isRow 20 (.iconst 1) 1 21 := ⟨zo_4 (by decide +kernel), rfl⟩
theorem dX3_isRow_21 : Dc mX3_isRow 21 (.iand) 1 22 := ⟨zo_126 (by decide +kernel), rfl⟩
theorem dX3_isRow_22 : Dc mX3_isRow 22 (.ifCond .ne 17) 3 25 := ⟨zo_154 (w := 0) (x := 17) (by decide +kernel), rfl⟩
theorem dX3_isRow_25 : Dc mX3_isRow 25 (.iload_n 3) 1 26 := ⟨zo_29 (by decide +kernel), rfl⟩
theorem dX3_isRow_26 : Dc mX3_isRow 26 (.aload_n 0) 1 27 := ⟨zo_42 (by decide +kernel), rfl⟩
theorem dX3_isRow_27 : Dc mX3_isRow 27 (.getfield 18) 3 30 := ⟨zo_180 (w := 0) (x := 18) (by decide +kernel), rfl⟩
theorem dX3_isRow_30 : Dc mX3_isRow 30 (.if_icmp .lt 11) 3 33 := ⟨zo_161 (w := 0) (x := 11) (by decide +kernel), rfl⟩
theorem dX3_isRow_33 : Dc mX3_isRow 33 (.iload 4) 2 35 := ⟨zo_21 (by decide +kernel), rfl⟩
theorem dX3_isRow_35 : Dc mX3_isRow 35 (.iload_n 3) 1 36 := ⟨zo_29 (by decide +kernel), rfl⟩
theorem dX3_isRow_36 : Dc mX3_isRow 36 (.if_icmp .eq 5) 3 39 := ⟨zo_159 (w := 0) (x := 5) (by decide +kernel), rfl⟩
theorem dX3_isRow_39 : Dc mX3_isRow 39 (.iconst 0) 1 40 := ⟨zo_3 (by decide +kernel), rfl⟩
theorem dX3_isRow_40 : Dc mX3_isRow 40 (.ireturn) 1 41 := ⟨zo_172 (by decide +kernel), rfl⟩
theorem dX3_isRow_41 : Dc mX3_isRow 41 (.iload_n 2) 1 42 := ⟨zo_28 (by decide +kernel), rfl⟩
theorem dX3_isRow_42 : Dc mX3_isRow 42 (.iconst 1) 1 43 := ⟨zo_4 (by decide +kernel), rfl⟩
theorem dX3_isRow_43 : Dc mX3_isRow 43 (.iload 4) 2 45 := ⟨zo_21 (by decide +kernel), rfl⟩
theorem dX3_isRow_45 : Dc mX3_isRow 45 (.ishl) 1 46 := ⟨zo_120 (by decide +kernel), rfl⟩
theorem dX3_isRow_46 : Dc mX3_isRow 46 (.ior) 1 47 := ⟨zo_128 (by decide +kernel), rfl⟩
theorem dX3_isRow_47 : Dc mX3_isRow 47 (.istore_n 2) 1 48 := ⟨zo_61 (by decide +kernel), rfl⟩
theorem dX3_isRow_48 : Dc mX3_isRow 48 (.iinc 3 1) 3 51 := ⟨zo_iinc (x := 1) (by decide +kernel), rfl⟩
theorem dX3_isRow_51 : Dc mX3_isRow 51 (.goto (-47)) 3 54 := ⟨zo_167 (w := 255) (x := 209) (by decide +kernel), rfl⟩
theorem dX3_isRow_54 : Dc mX3_isRow 54 (.iconst 1) 1 55 := ⟨zo_4 (by decide +kernel), rfl⟩
theorem dX3_isRow_55 : Dc mX3_isRow 55 (.ireturn) 1 56 := ⟨zo_172 (by decide +kernel), rfl⟩
theorem dX3_putDays_0 : Dc mX3_putDays 0 (.iconst 0) 1 1 := ⟨zo_3 (by decide +kernel), rfl⟩
theorem dX3_putDays_1 : Dc mX3_putDays 1 (.istore_n 3) 1 2 := ⟨zo_62 (by decide +kernel), rfl⟩
theorem dX3_putDays_2 : Dc mX3_putDays 2 (.iload_n 3) 1 3 := ⟨zo_29 (by decide +kernel), rfl⟩
theorem dX3_putDays_3 : Dc mX3_putDays 3 (.aload_n 0) 1 4 := ⟨zo_42 (by decide +kernel), rfl⟩
theorem dX3_putDays_4 : Dc mX3_putDays 4 (.getfield 18) 3 7 := ⟨zo_180 (w := 0) (x := 18) (by decide +kernel), rfl⟩
theorem dX3_putDays_7 : Dc mX3_putDays 7 (.if_icmp .ge 34) 3 10 := ⟨zo_162 (w := 0) (x := 34) (by decide +kernel), rfl⟩
theorem dX3_putDays_10 : Dc mX3_putDays 10 (.aload_n 2) 1 11 := ⟨zo_44 (by decide +kernel), rfl⟩
theorem dX3_putDays_11 : Dc mX3_putDays 11 (.getfield 42) 3 14 := ⟨zo_180 (w := 0) (x := 42) (by decide +kernel), rfl⟩
theorem dX3_putDays_14 : Dc mX3_putDays 14 (.aload_n 0) 1 15 := ⟨zo_42 (by decide +kernel), rfl⟩
theorem dX3_putDays_15 : Dc mX3_putDays 15 (.getfield 21) 3 18 := ⟨zo_180 (w := 0) (x := 21) (by decide +kernel), rfl⟩
theorem dX3_putDays_18 : Dc mX3_putDays 18 (.iload_n 1) 1 19 := ⟨zo_27 (by decide +kernel), rfl⟩
theorem dX3_putDays_19 : Dc mX3_putDays 19 (.iload_n 3) 1 20 := ⟨zo_29 (by decide +kernel), rfl⟩
theorem dX3_putDays_20 : Dc mX3_putDays 20 (.invokestatic 38) 3 23 := ⟨zo_184 (w := 0) (x := 38) (by decide +kernel), rfl⟩
theorem dX3_putDays_23 : Dc mX3_putDays 23 (.invokestatic 30) 3 26 := ⟨zo_184 (w := 0) (x := 30) (by decide +kernel), rfl⟩
theorem dX3_putDays_26 : Dc mX3_putDays 26 (.aload_n 2) 1 27 := ⟨zo_44 (by decide +kernel), rfl⟩
theorem dX3_putDays_27 : Dc mX3_putDays 27 (.getfield 45) 3 30 := ⟨zo_180 (w := 0) (x := 45) (by decide +kernel), rfl⟩
theorem dX3_putDays_30 : Dc mX3_putDays 30 (.iload_n 3) 1 31 := ⟨zo_29 (by decide +kernel), rfl⟩
theorem dX3_putDays_31 : Dc mX3_putDays 31 (.iadd) 1 32 := ⟨zo_96 (by decide +kernel), rfl⟩
theorem dX3_putDays_32 : Dc mX3_putDays 32 (.invokestatic 34) 3 35 := ⟨zo_184 (w := 0) (x := 34) (by decide +kernel), rfl⟩
theorem dX3_putDays_35 : Dc mX3_putDays 35 (.iinc 3 1) 3 38 := ⟨zo_iinc (x := 1) (by decide +kernel), rfl⟩
theorem dX3_putDays_38 : Dc mX3_putDays 38 (.goto (-36)) 3 41 := ⟨zo_167 (w := 255) (x := 220) (by decide +kernel), rfl⟩
theorem dX3_putDays_41 : Dc mX3_putDays 41 (.return_) 1 42 := ⟨zo_177 (by decide +kernel), rfl⟩
theorem dX3_weigh_0 : Dc mX3_weigh 0 (.aload_n 0) 1 1 := ⟨zo_42 (by decide +kernel), rfl⟩
theorem dX3_weigh_1 : Dc mX3_weigh 1 (.getfield 15) 3 4 := ⟨zo_180 (w := 0) (x := 15) (by decide +kernel), rfl⟩
theorem dX3_weigh_4 : Dc mX3_weigh 4 (.ifCond .lt 11) 3 7 := ⟨zo_155 (w := 0) (x := 11) (by decide +kernel), rfl⟩
theorem dX3_weigh_7 : Dc mX3_weigh 7 (.iload_n 2) 1 8 := ⟨zo_28 (by decide +kernel), rfl⟩
theorem dX3_weigh_8 : Dc mX3_weigh 8 (.aload_n 0) 1 9 := ⟨zo_42 (by decide +kernel), rfl⟩
theorem dX3_weigh_9 : Dc mX3_weigh 9 (.getfield 9) 3 12 := ⟨zo_180 (w := 0) (x := 9) (by decide +kernel), rfl⟩
theorem dX3_weigh_12 : Dc mX3_weigh 12 (.if_icmp .ge 13) 3 15 := ⟨zo_162 (w := 0) (x := 13) (by decide +kernel), rfl⟩
theorem dX3_weigh_15 : Dc mX3_weigh 15 (.aload_n 0) 1 16 := ⟨zo_42 (by decide +kernel), rfl⟩
theorem dX3_weigh_16 : Dc mX3_weigh 16 (.iload_n 1) 1 17 := ⟨zo_27 (by decide +kernel), rfl⟩
theorem dX3_weigh_17 : Dc mX3_weigh 17 (.putfield 15) 3 20 := ⟨zo_181 (w := 0) (x := 15) (by decide +kernel), rfl⟩
theorem dX3_weigh_20 : Dc mX3_weigh 20 (.aload_n 0) 1 21 := ⟨zo_42 (by decide +kernel), rfl⟩
theorem dX3_weigh_21 : Dc mX3_weigh 21 (.iload_n 2) 1 22 := ⟨zo_28 (by decide +kernel), rfl⟩
theorem dX3_weigh_22 : Dc mX3_weigh 22 (.putfield 9) 3 25 := ⟨zo_181 (w := 0) (x := 9) (by decide +kernel), rfl⟩
theorem dX3_weigh_25 : Dc mX3_weigh 25 (.return_) 1 26 := ⟨zo_177 (by decide +kernel), rfl⟩
theorem dX3_shotAt_0 : Dc mX3_shotAt 0 (.iload_n 1) 1 1 := ⟨zo_27 (by decide +kernel), rfl⟩
theorem dX3_shotAt_1 : Dc mX3_shotAt 1 (.aload_n 0) 1 2 := ⟨zo_42 (by decide +kernel), rfl⟩
theorem dX3_shotAt_2 : Dc mX3_shotAt 2 (.getfield 18) 3 5 := ⟨zo_180 (w := 0) (x := 18) (by decide +kernel), rfl⟩
theorem dX3_shotAt_5 : Dc mX3_shotAt 5 (.if_icmp .ge 21) 3 8 := ⟨zo_162 (w := 0) (x := 21) (by decide +kernel), rfl⟩
theorem dX3_shotAt_8 : Dc mX3_shotAt 8 (.aload_n 0) 1 9 := ⟨zo_42 (by decide +kernel), rfl⟩
theorem dX3_shotAt_9 : Dc mX3_shotAt 9 (.getfield 21) 3 12 := ⟨zo_180 (w := 0) (x := 21) (by decide +kernel), rfl⟩
theorem dX3_shotAt_12 : Dc mX3_shotAt 12 (.aload_n 0) 1 13 := ⟨zo_42 (by decide +kernel), rfl⟩
theorem dX3_shotAt_13 : Dc mX3_shotAt 13 (.getfield 15) 3 16 := ⟨zo_180 (w := 0) (x := 15) (by decide +kernel), rfl⟩
theorem dX3_shotAt_16 : Dc mX3_shotAt 16 (.iload_n 1) 1 17 := ⟨zo_27 (by decide +kernel), rfl⟩
theorem dX3_shotAt_17 : Dc mX3_shotAt 17 (.invokestatic 38) 3 20 := ⟨zo_184 (w := 0) (x := 38) (by decide +kernel), rfl⟩
theorem dX3_shotAt_20 : Dc mX3_shotAt 20 (.invokestatic 30) 3 23 := ⟨zo_184 (w := 0) (x := 30) (by decide +kernel), rfl⟩
theorem dX3_shotAt_23 : Dc mX3_shotAt 23 (.goto 5) 3 26 := ⟨zo_167 (w := 0) (x := 5) (by decide +kernel), rfl⟩
theorem dX3_shotAt_26 : Dc mX3_shotAt 26 (.bipush (-2)) 2 28 := ⟨zo_16 (w := 254) (by decide +kernel), rfl⟩
theorem dX3_shotAt_28 : Dc mX3_shotAt 28 (.ireturn) 1 29 := ⟨zo_172 (by decide +kernel), rfl⟩
theorem dX4_init_0 : Dc mX4_init 0 (.aload_n 0) 1 1 := ⟨zo_42 (by decide +kernel), rfl⟩
theorem dX4_init_1 : Dc mX4_init 1 (.invokespecial 3) 3 4 := ⟨zo_183 (w := 0) (x := 3) (by decide +kernel), rfl⟩
theorem dX4_init_4 : Dc mX4_init 4 (.aload_n 0) 1 5 := ⟨zo_42 (by decide +kernel), rfl⟩
theorem dX4_init_5 : Dc mX4_init 5 (.new 9) 3 8 := ⟨zo_187 (w := 0) (x := 9) (by decide +kernel), rfl⟩
theorem dX4_init_8 : Dc mX4_init 8 (.dup) 1 9 := ⟨zo_89 (by decide +kernel), rfl⟩
theorem dX4_init_9 : Dc mX4_init 9 (.invokespecial 11) 3 12 := ⟨zo_183 (w := 0) (x := 11) (by decide +kernel), rfl⟩
theorem dX4_init_12 : Dc mX4_init 12 (.putfield 12) 3 15 := ⟨zo_181 (w := 0) (x := 12) (by decide +kernel), rfl⟩
theorem dX4_init_15 : Dc mX4_init 15 (.aload_n 0) 1 16 := ⟨zo_42 (by decide +kernel), rfl⟩
theorem dX4_init_16 : Dc mX4_init 16 (.iconst 0) 1 17 := ⟨zo_3 (by decide +kernel), rfl⟩
theorem dX4_init_17 : Dc mX4_init 17 (.putfield 18) 3 20 := ⟨zo_181 (w := 0) (x := 18) (by decide +kernel), rfl⟩
theorem dX4_init_20 : Dc mX4_init 20 (.aload_n 0) 1 21 := ⟨zo_42 (by decide +kernel), rfl⟩
theorem dX4_init_21 : Dc mX4_init 21 (.iconst (-1)) 1 22 := ⟨zo_2 (by decide +kernel), rfl⟩
theorem dX4_init_22 : Dc mX4_init 22 (.putfield 22) 3 25 := ⟨zo_181 (w := 0) (x := 22) (by decide +kernel), rfl⟩
theorem dX4_init_25 : Dc mX4_init 25 (.aload_n 0) 1 26 := ⟨zo_42 (by decide +kernel), rfl⟩
theorem dX4_init_26 : Dc mX4_init 26 (.new 25) 3 29 := ⟨zo_187 (w := 0) (x := 25) (by decide +kernel), rfl⟩
theorem dX4_init_29 : Dc mX4_init 29 (.dup) 1 30 := ⟨zo_89 (by decide +kernel), rfl⟩
theorem dX4_init_30 : Dc mX4_init 30 (.invokespecial 27) 3 33 := ⟨zo_183 (w := 0) (x := 27) (by decide +kernel), rfl⟩
theorem dX4_init_33 : Dc mX4_init 33 (.putfield 28) 3 36 := ⟨zo_181 (w := 0) (x := 28) (by decide +kernel), rfl⟩
theorem dX4_init_36 : Dc mX4_init 36 (.aload_n 0) 1 37 := ⟨zo_42 (by decide +kernel), rfl⟩
theorem dX4_init_37 : Dc mX4_init 37 (.bipush 72) 2 39 := ⟨zo_16 (w := 72) (by decide +kernel), rfl⟩
theorem dX4_init_39 : Dc mX4_init 39 (.newarray .int) 2 41 := ⟨by decide +kernel, rfl⟩
theorem dX4_init_41 : Dc mX4_init 41 (.putfield 32) 3 44 := ⟨zo_181 (w := 0) (x := 32) (by decide +kernel), rfl⟩
theorem dX4_init_44 : Dc mX4_init 44 (.aload_n 0) 1 45 := ⟨zo_42 (by decide +kernel), rfl⟩
theorem dX4_init_45 : Dc mX4_init 45 (.bipush 72) 2 47 := ⟨zo_16 (w := 72) (by decide +kernel), rfl⟩
theorem dX4_init_47 : Dc mX4_init 47 (.newarray .int) 2 49 := ⟨by decide +kernel, rfl⟩
theorem dX4_init_49 : Dc mX4_init 49 (.putfield 36) 3 52 := ⟨zo_181 (w := 0) (x := 36) (by decide +kernel), rfl⟩
theorem dX4_init_52 : Dc mX4_init 52 (.aload_n 0) 1 53 := ⟨zo_42 (by decide +kernel), rfl⟩
theorem dX4_init_53 : Dc mX4_init 53 (.iconst 0) 1 54 := ⟨zo_3 (by decide +kernel), rfl⟩
theorem dX4_init_54 : Dc mX4_init 54 (.putfield 39) 3 57 := ⟨zo_181 (w := 0) (x := 39) (by decide +kernel), rfl⟩
theorem dX4_init_57 : Dc mX4_init 57 (.aload_n 0) 1 58 := ⟨zo_42 (by decide +kernel), rfl⟩
theorem dX4_init_58 : Dc mX4_init 58 (.iconst 0) 1 59 := ⟨zo_3 (by decide +kernel), rfl⟩
theorem dX4_init_59 : Dc mX4_init 59 (.putfield 42) 3 62 := ⟨zo_181 (w := 0) (x := 42) (by decide +kernel), rfl⟩
theorem dX4_init_62 : Dc mX4_init 62 (.return_) 1 63 := ⟨zo_177 (by decide +kernel), rfl⟩
theorem dX4_read_0 : Dc mX4_read 0 (.aload_n 0) 1 1 := ⟨zo_42 (by decide +kernel), rfl⟩
theorem dX4_read_1 : Dc mX4_read 1 (.iconst 0) 1 2 := ⟨zo_3 (by decide +kernel), rfl⟩
theorem dX4_read_2 : Dc mX4_read 2 (.putfield 18) 3 5 := ⟨zo_181 (w := 0) (x := 18) (by decide +kernel), rfl⟩
theorem dX4_read_5 : Dc mX4_read 5 (.aload_n 0) 1 6 := ⟨zo_42 (by decide +kernel), rfl⟩
theorem dX4_read_6 : Dc mX4_read 6 (.iconst (-1)) 1 7 := ⟨zo_2 (by decide +kernel), rfl⟩
theorem dX4_read_7 : Dc mX4_read 7 (.putfield 22) 3 10 := ⟨zo_181 (w := 0) (x := 22) (by decide +kernel), rfl⟩
theorem dX4_read_10 : Dc mX4_read 10 (.aload_n 0) 1 11 := ⟨zo_42 (by decide +kernel), rfl⟩
theorem dX4_read_11 : Dc mX4_read 11 (.getfield 12) 3 14 := ⟨zo_180 (w := 0) (x := 12) (by decide +kernel), rfl⟩
theorem dX4_read_14 : Dc mX4_read 14 (.invokevirtual 45) 3 17 := ⟨zo_182 (w := 0) (x := 45) (by decide +kernel), rfl⟩
theorem dX4_read_17 : Dc mX4_read 17 (.aload_n 0) 1 18 := ⟨zo_42 (by decide +kernel), rfl⟩
theorem dX4_read_18 : Dc mX4_read 18 (.getfield 28) 3 21 := ⟨zo_180 (w := 0) (x := 28) (by decide +kernel), rfl⟩
theorem dX4_read_21 : Dc mX4_read 21 (.aload_n 1) 1 22 := ⟨zo_43 (by decide +kernel), rfl⟩
theorem dX4_read_22 : Dc mX4_read 22 (.iload_n 2) 1 23 := ⟨zo_28 (by decide +kernel), rfl⟩
theorem dX4_read_23 : Dc mX4_read 23 (.invokevirtual 48) 3 26 := ⟨zo_182 (w := 0) (x := 48) (by decide +kernel), rfl⟩
theorem dX4_read_26 : Dc mX4_read 26 (.iconst 0) 1 27 := ⟨zo_3 (by decide +kernel), rfl⟩
theorem dX4_read_27 : Dc mX4_read 27 (.istore_n 3) 1 28 := ⟨zo_62 (by decide +kernel), rfl⟩
theorem dX4_read_28 : Dc mX4_read 28 (.iload_n 3) 1 29 := ⟨zo_29 (by decide +kernel), rfl⟩
theorem dX4_read_29 : Dc mX4_read 29 (.iload_n 2) 1 30 := ⟨zo_28 (by decide +kernel), rfl⟩
theorem dX4_read_30 : Dc mX4_read 30 (.if_icmp .gt 66) 3 33 := ⟨zo_163 (w := 0) (x := 66) (by decide +kernel), rfl⟩
theorem dX4_read_33 : Dc mX4_read 33 (.aload_n 0) 1 34 := ⟨zo_42 (by decide +kernel), rfl⟩
theorem dX4_read_34 : Dc mX4_read 34 (.getfield 18) 3 37 := ⟨zo_180 (w := 0) (x := 18) (by decide +kernel), rfl⟩
theorem dX4_read_37 : Dc mX4_read 37 (.ifCond .ne 59) 3 40 := ⟨zo_154 (w := 0) (x := 59) (by decide +kernel), rfl⟩
theorem dX4_read_40 : Dc mX4_read 40 (.aload_n 0) 1 41 := ⟨zo_42 (by decide +kernel), rfl⟩
theorem dX4_read_41 : Dc mX4_read 41 (.getfield 28) 3 44 := ⟨zo_180 (w := 0) (x := 28) (by decide +kernel), rfl⟩
theorem dX4_read_44 : Dc mX4_read 44 (.getfield 52) 3 47 := ⟨zo_180 (w := 0) (x := 52) (by decide +kernel), rfl⟩
theorem dX4_read_47 : Dc mX4_read 47 (.ifCond .eq 49) 3 50 := ⟨zo_153 (w := 0) (x := 49) (by decide +kernel), rfl⟩
theorem dX4_read_50 : Dc mX4_read 50 (.aload_n 0) 1 51 := ⟨zo_42 (by decide +kernel), rfl⟩
theorem dX4_read_51 : Dc mX4_read 51 (.invokevirtual 55) 3 54 := ⟨zo_182 (w := 0) (x := 55) (by decide +kernel), rfl⟩
theorem dX4_read_54 : Dc mX4_read 54 (.aload_n 0) 1 55 := ⟨zo_42 (by decide +kernel), rfl⟩
theorem dX4_read_55 : Dc mX4_read 55 (.getfield 28) 3 58 := ⟨zo_180 (w := 0) (x := 28) (by decide +kernel), rfl⟩
theorem dX4_read_58 : Dc mX4_read 58 (.getfield 52) 3 61 := ⟨zo_180 (w := 0) (x := 52) (by decide +kernel), rfl⟩
theorem dX4_read_61 : Dc mX4_read 61 (.iconst 4) 1 62 := ⟨zo_7 (by decide +kernel), rfl⟩
theorem dX4_read_62 : Dc mX4_read 62 (.if_icmp .eq 8) 3 65 := ⟨zo_159 (w := 0) (x := 8) (by decide +kernel), rfl⟩
theorem dX4_read_65 : Dc mX4_read 65 (.aload_n 0) 1 66 := ⟨zo_42 (by decide +kernel), rfl⟩
theorem dX4_read_66 : Dc mX4_read 66 (.iconst 1) 1 67 := ⟨zo_4 (by decide +kernel), rfl⟩
theorem dX4_read_67 : Dc mX4_read 67 (.invokevirtual 58) 3 70 := ⟨zo_182 (w := 0) (x := 58) (by decide +kernel), rfl⟩
theorem dX4_read_70 : Dc mX4_read 70 (.aload_n 0) 1 71 := ⟨zo_42 (by decide +kernel), rfl⟩
theorem dX4_read_71 : Dc mX4_read 71 (.getfield 12) 3 74 := ⟨zo_180 (w := 0) (x := 12) (by decide +kernel), rfl⟩
theorem dX4_read_74 : Dc mX4_read 74 (.dup) 1 75 := ⟨zo_89 (by decide +kernel), rfl⟩
theorem dX4_read_75 : Dc mX4_read 75 (.getfield 62) 3 78 := ⟨zo_180 (w := 0) (x := 62) (by decide +kernel), rfl⟩
theorem dX4_read_78 : Dc mX4_read 78 (.iconst 1) 1 79 := ⟨zo_4 (by decide +kernel), rfl⟩
theorem dX4_read_79 : Dc mX4_read 79 (.iadd) 1 80 := ⟨zo_96 (by decide +kernel), rfl⟩
theorem dX4_read_80 : Dc mX4_read 80 (.putfield 62) 3 83 := ⟨zo_181 (w := 0) (x := 62) (by decide +kernel), rfl⟩
theorem dX4_read_83 : Dc mX4_read 83 (.aload_n 0) 1 84 := ⟨zo_42 (by decide +kernel), rfl⟩
theorem dX4_read_84 : Dc mX4_read 84 (.getfield 28) 3 87 := ⟨zo_180 (w := 0) (x := 28) (by decide +kernel), rfl⟩
theorem dX4_read_87 : Dc mX4_read 87 (.invokevirtual 65) 3 90 := ⟨zo_182 (w := 0) (x := 65) (by decide +kernel), rfl⟩
theorem dX4_read_90 : Dc mX4_read 90 (.iinc 3 1) 3 93 := ⟨zo_iinc (x := 1) (by decide +kernel), rfl⟩
theorem dX4_read_93 : Dc mX4_read 93 (.goto (-65)) 3 96 := ⟨zo_167 (w := 255) (x := 191) (by decide +kernel), rfl⟩
theorem dX4_read_96 : Dc mX4_read 96 (.aload_n 0) 1 97 := ⟨zo_42 (by decide +kernel), rfl⟩
theorem dX4_read_97 : Dc mX4_read 97 (.getfield 12) 3 100 := ⟨zo_180 (w := 0) (x := 12) (by decide +kernel), rfl⟩
theorem dX4_read_100 : Dc mX4_read 100 (.invokevirtual 68) 3 103 := ⟨zo_182 (w := 0) (x := 68) (by decide +kernel), rfl⟩
theorem dX4_read_103 : Dc mX4_read 103 (.aload_n 0) 1 104 := ⟨zo_42 (by decide +kernel), rfl⟩
theorem dX4_read_104 : Dc mX4_read 104 (.getfield 18) 3 107 := ⟨zo_180 (w := 0) (x := 18) (by decide +kernel), rfl⟩
theorem dX4_read_107 : Dc mX4_read 107 (.ifCond .ne 7) 3 110 := ⟨zo_154 (w := 0) (x := 7) (by decide +kernel), rfl⟩
theorem dX4_read_110 : Dc mX4_read 110 (.iconst 1) 1 111 := ⟨zo_4 (by decide +kernel), rfl⟩
theorem dX4_read_111 : Dc mX4_read 111 (.goto 4) 3 114 := ⟨zo_167 (w := 0) (x := 4) (by decide +kernel), rfl⟩
theorem dX4_read_114 : Dc mX4_read 114 (.iconst 0) 1 115 := ⟨zo_3 (by decide +kernel), rfl⟩
theorem dX4_read_115 : Dc mX4_read 115 (.ireturn) 1 116 := ⟨zo_172 (by decide +kernel), rfl⟩
theorem dX4_fail_0 : Dc mX4_fail 0 (.aload_n 0) 1 1 := ⟨zo_42 (by decide +kernel), rfl⟩
theorem dX4_fail_1 : Dc mX4_fail 1 (.getfield 18) 3 4 := ⟨zo_180 (w := 0) (x := 18) (by decide +kernel), rfl⟩
theorem dX4_fail_4 : Dc mX4_fail 4 (.ifCond .ne 27) 3 7 := ⟨zo_154 (w := 0) (x := 27) (by decide +kernel), rfl⟩
theorem dX4_fail_7 : Dc mX4_fail 7 (.aload_n 0) 1 8 := ⟨zo_42 (by decide +kernel), rfl⟩
theorem dX4_fail_8 : Dc mX4_fail 8 (.iload_n 1) 1 9 := ⟨zo_27 (by decide +kernel), rfl⟩
theorem dX4_fail_9 : Dc mX4_fail 9 (.putfield 18) 3 12 := ⟨zo_181 (w := 0) (x := 18) (by decide +kernel), rfl⟩
theorem dX4_fail_12 : Dc mX4_fail 12 (.aload_n 0) 1 13 := ⟨zo_42 (by decide +kernel), rfl⟩
theorem dX4_fail_13 : Dc mX4_fail 13 (.aload_n 0) 1 14 := ⟨zo_42 (by decide +kernel), rfl⟩
theorem dX4_fail_14 : Dc mX4_fail 14 (.getfield 28) 3 17 := ⟨zo_180 (w := 0) (x := 28) (by decide +kernel), rfl⟩
theorem dX4_fail_17 : Dc mX4_fail 17 (.getfield 71) 3 20 := ⟨zo_180 (w := 0) (x := 71) (by decide +kernel), rfl⟩
theorem dX4_fail_20 : Dc mX4_fail 20 (.putfield 22) 3 23 := ⟨zo_181 (w := 0) (x := 22) (by decide +kernel), rfl⟩
theorem dX4_fail_23 : Dc mX4_fail 23 (.aload_n 0) 1 24 := ⟨zo_42 (by decide +kernel), rfl⟩
theorem dX4_fail_24 : Dc mX4_fail 24 (.getfield 28) 3 27 := ⟨zo_180 (w := 0) (x := 28) (by decide +kernel), rfl⟩
theorem dX4_fail_27 : Dc mX4_fail 27 (.iconst 1) 1 28 := ⟨zo_4 (by decide +kernel), rfl⟩
theorem dX4_fail_28 : Dc mX4_fail 28 (.putfield 72) 3 31 := ⟨zo_181 (w := 0) (x := 72) (by decide +kernel), rfl⟩
theorem dX4_fail_31 : Dc mX4_fail 31 (.return_) 1 32 := ⟨zo_177 (by decide +kernel), rfl⟩
theorem dX4_line_0 : Dc mX4_line 0 (.aload_n 0) 1 1 := ⟨zo_42 (by decide +kernel), rfl⟩
theorem dX4_line_1 : Dc mX4_line 1 (.getfield 28) 3 4 := ⟨zo_180 (w := 0) (x := 28) (by decide +kernel), rfl⟩
theorem dX4_line_4 : Dc mX4_line 4 (.getfield 52) 3 7 := ⟨zo_180 (w := 0) (x := 52) (by decide +kernel), rfl⟩
theorem dX4_line_7 : Dc mX4_line 7 (.tableswitch 172 20 29 #[53, 60, 67, 74, 81, 88, 95, 118, 142, 165]) 53 60 := ⟨by decide +kernel, rfl⟩
theorem dX4_line_60 : Dc mX4_line 60 (.aload_n 0) 1 61 := ⟨zo_42 (by decide +kernel), rfl⟩
theorem dX4_line_61 : Dc mX4_line 61 (.invokevirtual 76) 3 64 := ⟨zo_182 (w := 0) (x := 76) (by decide +kernel), rfl⟩
theorem dX4_line_64 : Dc mX4_line 64 (.goto 120) 3 67 := ⟨zo_167 (w := 0) (x := 120) (by decide +kernel), rfl⟩
theorem dX4_line_67 : Dc mX4_line 67 (.aload_n 0) 1 68 := ⟨zo_42 (by decide +kernel), rfl⟩
theorem dX4_line_68 : Dc mX4_line 68 (.invokevirtual 79) 3 71 := ⟨zo_182 (w := 0) (x := 79) (by decide +kernel), rfl⟩
theorem dX4_line_71 : Dc mX4_line 71 (.goto 113) 3 74 := ⟨zo_167 (w := 0) (x := 113) (by decide +kernel), rfl⟩
theorem dX4_line_74 : Dc mX4_line 74 (.aload_n 0) 1 75 := ⟨zo_42 (by decide +kernel), rfl⟩
theorem dX4_line_75 : Dc mX4_line 75 (.invokevirtual 82) 3 78 := ⟨zo_182 (w := 0) (x := 82) (by decide +kernel), rfl⟩
theorem dX4_line_78 : Dc mX4_line 78 (.goto 106) 3 81 := ⟨zo_167 (w := 0) (x := 106) (by decide +kernel), rfl⟩
theorem dX4_line_81 : Dc mX4_line 81 (.aload_n 0) 1 82 := ⟨zo_42 (by decide +kernel), rfl⟩
theorem dX4_line_82 : Dc mX4_line 82 (.invokevirtual 85) 3 85 := ⟨zo_182 (w := 0) (x := 85) (by decide +kernel), rfl⟩
theorem dX4_line_85 : Dc mX4_line 85 (.goto 99) 3 88 := ⟨zo_167 (w := 0) (x := 99) (by decide +kernel), rfl⟩
theorem dX4_line_88 : Dc mX4_line 88 (.aload_n 0) 1 89 := ⟨zo_42 (by decide +kernel), rfl⟩
theorem dX4_line_89 : Dc mX4_line 89 (.invokevirtual 88) 3 92 := ⟨zo_182 (w := 0) (x := 88) (by decide +kernel), rfl⟩
theorem dX4_line_92 : Dc mX4_line 92 (.goto 92) 3 95 := ⟨zo_167 (w := 0) (x := 92) (by decide +kernel), rfl⟩
theorem dX4_line_95 : Dc mX4_line 95 (.aload_n 0) 1 96 := ⟨zo_42 (by decide +kernel), rfl⟩
theorem dX4_line_96 : Dc mX4_line 96 (.invokevirtual 91) 3 99 := ⟨zo_182 (w := 0) (x := 91) (by decide +kernel), rfl⟩
theorem dX4_line_99 : Dc mX4_line 99 (.goto 85) 3 102 := ⟨zo_167 (w := 0) (x := 85) (by decide +kernel), rfl⟩
theorem dX4_line_102 : Dc mX4_line 102 (.aload_n 0) 1 103 := ⟨zo_42 (by decide +kernel), rfl⟩
theorem dX4_line_103 : Dc mX4_line 103 (.getfield 12) 3 106 := ⟨zo_180 (w := 0) (x := 12) (by decide +kernel), rfl⟩
theorem dX4_line_106 : Dc mX4_line 106 (.aload_n 0) 1 107 := ⟨zo_42 (by decide +kernel), rfl⟩
theorem dX4_line_107 : Dc mX4_line 107 (.aload_n 0) 1 108 := ⟨zo_42 (by decide +kernel), rfl⟩
theorem dX4_line_108 : Dc mX4_line 108 (.getfield 12) 3 111 := ⟨zo_180 (w := 0) (x := 12) (by decide +kernel), rfl⟩
theorem dX4_line_111 : Dc mX4_line 111 (.getfield 94) 3 114 := ⟨zo_180 (w := 0) (x := 94) (by decide +kernel), rfl⟩
theorem dX4_line_114 : Dc mX4_line 114 (.bipush 100) 2 116 := ⟨zo_16 (w := 100) (by decide +kernel), rfl⟩
theorem dX4_line_116 : Dc mX4_line 116 (.invokevirtual 97) 3 119 := ⟨zo_182 (w := 0) (x := 97) (by decide +kernel), rfl⟩
theorem dX4_line_119 : Dc mX4_line 119 (.putfield 94) 3 122 := ⟨zo_181 (w := 0) (x := 94) (by decide +kernel), rfl⟩
theorem dX4_line_122 : Dc mX4_line 122 (.goto 62) 3 125 := ⟨zo_167 (w := 0) (x := 62) (by decide +kernel), rfl⟩
theorem dX4_line_125 : Dc mX4_line 125 (.aload_n 0) 1 126 := ⟨zo_42 (by decide +kernel), rfl⟩
theorem dX4_line_126 : Dc mX4_line 126 (.getfield 12) 3 129 := ⟨zo_180 (w := 0) (x := 12) (by decide +kernel), rfl⟩
theorem dX4_line_129 : Dc mX4_line 129 (.aload_n 0) 1 130 := ⟨zo_42 (by decide +kernel), rfl⟩
theorem dX4_line_130 : Dc mX4_line 130 (.aload_n 0) 1 131 := ⟨zo_42 (by decide +kernel), rfl⟩
theorem dX4_line_131 : Dc mX4_line 131 (.getfield 12) 3 134 := ⟨zo_180 (w := 0) (x := 12) (by decide +kernel), rfl⟩
theorem dX4_line_134 : Dc mX4_line 134 (.getfield 101) 3 137 := ⟨zo_180 (w := 0) (x := 101) (by decide +kernel), rfl⟩
theorem dX4_line_137 : Dc mX4_line 137 (.sipush 999) 3 140 := ⟨zo_17 (w := 3) (x := 231) (by decide +kernel), rfl⟩
theorem dX4_line_140 : Dc mX4_line 140 (.invokevirtual 97) 3 143 := ⟨zo_182 (w := 0) (x := 97) (by decide +kernel), rfl⟩
theorem dX4_line_143 : Dc mX4_line 143 (.putfield 101) 3 146 := ⟨zo_181 (w := 0) (x := 101) (by decide +kernel), rfl⟩
theorem dX4_line_146 : Dc mX4_line 146 (.goto 38) 3 149 := ⟨zo_167 (w := 0) (x := 38) (by decide +kernel), rfl⟩
theorem dX4_line_149 : Dc mX4_line 149 (.aload_n 0) 1 150 := ⟨zo_42 (by decide +kernel), rfl⟩
theorem dX4_line_150 : Dc mX4_line 150 (.getfield 12) 3 153 := ⟨zo_180 (w := 0) (x := 12) (by decide +kernel), rfl⟩
theorem dX4_line_153 : Dc mX4_line 153 (.aload_n 0) 1 154 := ⟨zo_42 (by decide +kernel), rfl⟩
theorem dX4_line_154 : Dc mX4_line 154 (.aload_n 0) 1 155 := ⟨zo_42 (by decide +kernel), rfl⟩
theorem dX4_line_155 : Dc mX4_line 155 (.getfield 12) 3 158 := ⟨zo_180 (w := 0) (x := 12) (by decide +kernel), rfl⟩
theorem dX4_line_158 : Dc mX4_line 158 (.getfield 104) 3 161 := ⟨zo_180 (w := 0) (x := 104) (by decide +kernel), rfl⟩
theorem dX4_line_161 : Dc mX4_line 161 (.ldc 107) 2 163 := ⟨zo_18 (by decide +kernel), rfl⟩
theorem dX4_line_163 : Dc mX4_line 163 (.invokevirtual 97) 3 166 := ⟨zo_182 (w := 0) (x := 97) (by decide +kernel), rfl⟩
theorem dX4_line_166 : Dc mX4_line 166 (.putfield 104) 3 169 := ⟨zo_181 (w := 0) (x := 104) (by decide +kernel), rfl⟩
theorem dX4_line_169 : Dc mX4_line 169 (.goto 15) 3 172 := ⟨zo_167 (w := 0) (x := 15) (by decide +kernel), rfl⟩
theorem dX4_line_172 : Dc mX4_line 172 (.aload_n 0) 1 173 := ⟨zo_42 (by decide +kernel), rfl⟩
theorem dX4_line_173 : Dc mX4_line 173 (.invokevirtual 108) 3 176 := ⟨zo_182 (w := 0) (x := 108) (by decide +kernel), rfl⟩
theorem dX4_line_176 : Dc mX4_line 176 (.goto 8) 3 179 := ⟨zo_167 (w := 0) (x := 8) (by decide +kernel), rfl⟩
theorem dX4_line_179 : Dc mX4_line 179 (.aload_n 0) 1 180 := ⟨zo_42 (by decide +kernel), rfl⟩
theorem dX4_line_180 : Dc mX4_line 180 (.iconst 1) 1 181 := ⟨zo_4 (by decide +kernel), rfl⟩
theorem dX4_line_181 : Dc mX4_line 181 (.invokevirtual 58) 3 184 := ⟨zo_182 (w := 0) (x := 58) (by decide +kernel), rfl⟩
theorem dX4_line_184 : Dc mX4_line 184 (.return_) 1 185 := ⟨zo_177 (by decide +kernel), rfl⟩
theorem dX4_markLine_0 : Dc mX4_markLine 0 (.aload_n 0) 1 1 := ⟨zo_42 (by decide +kernel), rfl⟩
theorem dX4_markLine_1 : Dc mX4_markLine 1 (.aload_n 0) 1 2 := ⟨zo_42 (by decide +kernel), rfl⟩
theorem dX4_markLine_2 : Dc mX4_markLine 2 (.getfield 12) 3 5 := ⟨zo_180 (w := 0) (x := 12) (by decide +kernel), rfl⟩
theorem dX4_markLine_5 : Dc mX4_markLine 5 (.getfield 111) 3 8 := ⟨zo_180 (w := 0) (x := 111) (by decide +kernel), rfl⟩
theorem dX4_markLine_8 : Dc mX4_markLine 8 (.invokevirtual 115) 3 11 := ⟨zo_182 (w := 0) (x := 115) (by decide +kernel), rfl⟩
theorem dX4_markLine_11 : Dc mX4_markLine 11 (.invokevirtual 121) 3 14 := ⟨zo_182 (w := 0) (x := 121) (by decide +kernel), rfl⟩
theorem dX4_markLine_14 : Dc mX4_markLine 14 (.aload_n 0) 1 15 := ⟨zo_42 (by decide +kernel), rfl⟩
theorem dX4_markLine_15 : Dc mX4_markLine 15 (.aload_n 0) 1 16 := ⟨zo_42 (by decide +kernel), rfl⟩
theorem dX4_markLine_16 : Dc mX4_markLine 16 (.getfield 12) 3 19 := ⟨zo_180 (w := 0) (x := 12) (by decide +kernel), rfl⟩
theorem dX4_markLine_19 : Dc mX4_markLine 19 (.getfield 111) 3 22 := ⟨zo_180 (w := 0) (x := 111) (by decide +kernel), rfl⟩
theorem dX4_markLine_22 : Dc mX4_markLine 22 (.invokevirtual 124) 3 25 := ⟨zo_182 (w := 0) (x := 124) (by decide +kernel), rfl⟩
theorem dX4_markLine_25 : Dc mX4_markLine 25 (.istore_n 1) 1 26 := ⟨zo_60 (by decide +kernel), rfl⟩
theorem dX4_markLine_26 : Dc mX4_markLine 26 (.aload_n 0) 1 27 := ⟨zo_42 (by decide +kernel), rfl⟩
theorem dX4_markLine_27 : Dc mX4_markLine 27 (.iconst 0) 1 28 := ⟨zo_3 (by decide +kernel), rfl⟩
theorem dX4_markLine_28 : Dc mX4_markLine 28 (.bipush 99) 2 30 := ⟨zo_16 (w := 99) (by decide +kernel), rfl⟩
theorem dX4_markLine_30 : Dc mX4_markLine 30 (.invokevirtual 128) 3 33 := ⟨zo_182 (w := 0) (x := 128) (by decide +kernel), rfl⟩
theorem dX4_markLine_33 : Dc mX4_markLine 33 (.istore_n 2) 1 34 := ⟨zo_61 (by decide +kernel), rfl⟩
theorem dX4_markLine_34 : Dc mX4_markLine 34 (.aload_n 0) 1 35 := ⟨zo_42 (by decide +kernel), rfl⟩
theorem dX4_markLine_35 : Dc mX4_markLine 35 (.iconst 2) 1 36 := ⟨zo_5 (by decide +kernel), rfl⟩
theorem dX4_markLine_36 : Dc mX4_markLine 36 (.bipush 6) 2 38 := ⟨zo_16 (w := 6) (by decide +kernel), rfl⟩
theorem dX4_markLine_38 : Dc mX4_markLine 38 (.invokevirtual 128) 3 41 := ⟨zo_182 (w := 0) (x := 128) (by decide +kernel), rfl⟩
theorem dX4_markLine_41 : Dc mX4_markLine 41 (.istore_n 3) 1 42 := ⟨zo_62 (by decide +kernel), rfl⟩
theorem dX4_markLine_42 : Dc mX4_markLine 42 (.aload_n 0) 1 43 := ⟨zo_42 (by decide +kernel), rfl⟩
theorem dX4_markLine_43 : Dc mX4_markLine 43 (.getfield 18) 3 46 := ⟨zo_180 (w := 0) (x := 18) (by decide +kernel), rfl⟩
theorem dX4_markLine_46 : Dc mX4_markLine 46 (.ifCond .ne 17) 3 49 := ⟨zo_154 (w := 0) (x := 17) (by decide +kernel), rfl⟩
theorem dX4_markLine_49 : Dc mX4_markLine 49 (.aload_n 0) 1 50 := ⟨zo_42 (by decide +kernel), rfl⟩
theorem dX4_markLine_50 : Dc mX4_markLine 50 (.getfield 12) 3 53 := ⟨zo_180 (w := 0) (x := 12) (by decide +kernel), rfl⟩
theorem dX4_markLine_53 : Dc mX4_markLine 53 (.getfield 111) 3 56 := ⟨zo_180 (w := 0) (x := 111) (by decide +kernel), rfl⟩
theorem dX4_markLine_56 : Dc mX4_markLine 56 (.iload_n 1) 1 57 := ⟨zo_27 (by decide +kernel), rfl⟩
theorem dX4_markLine_57 : Dc mX4_markLine 57 (.iload_n 2) 1 58 := ⟨zo_28 (by decide +kernel), rfl⟩
theorem dX4_markLine_58 : Dc mX4_markLine 58 (.iload_n 3) 1 59 := ⟨zo_29 (by decide +kernel), rfl⟩
theorem dX4_markLine_59 : Dc mX4_markLine 59 (.iconst 0) 1 60 := ⟨zo_3 (by decide +kernel), rfl⟩
theorem dX4_markLine_60 : Dc mX4_markLine 60 (.invokevirtual 131) 3 63 := ⟨zo_182 (w := 0) (x := 131) (by decide +kernel), rfl⟩
theorem dX4_markLine_63 : Dc mX4_markLine 63 (.return_) 1 64 := ⟨zo_177 (by decide +kernel), rfl⟩
theorem dX4_shotLine_0 : Dc mX4_shotLine 0 (.aload_n 0) 1 1 := ⟨zo_42 (by decide +kernel), rfl⟩
theorem dX4_shotLine_1 : Dc mX4_shotLine 1 (.aload_n 0) 1 2 := ⟨zo_42 (by decide +kernel), rfl⟩
theorem dX4_shotLine_2 : Dc mX4_shotLine 2 (.getfield 12) 3 5 := ⟨zo_180 (w := 0) (x := 12) (by decide +kernel), rfl⟩
theorem dX4_shotLine_5 : Dc mX4_shotLine 5 (.getfield 135) 3 8 := ⟨zo_180 (w := 0) (x := 135) (by decide +kernel), rfl⟩
theorem dX4_shotLine_8 : Dc mX4_shotLine 8 (.invokevirtual 115) 3 11 := ⟨zo_182 (w := 0) (x := 115) (by decide +kernel), rfl⟩
theorem dX4_shotLine_11 : Dc mX4_shotLine 11 (.invokevirtual 121) 3 14 := ⟨zo_182 (w := 0) (x := 121) (by decide +kernel), rfl⟩
theorem dX4_shotLine_14 : Dc mX4_shotLine 14 (.aload_n 0) 1 15 := ⟨zo_42 (by decide +kernel), rfl⟩
theorem dX4_shotLine_15 : Dc mX4_shotLine 15 (.aload_n 0) 1 16 := ⟨zo_42 (by decide +kernel), rfl⟩
theorem dX4_shotLine_16 : Dc mX4_shotLine 16 (.getfield 12) 3 19 := ⟨zo_180 (w := 0) (x := 12) (by decide +kernel), rfl⟩
theorem dX4_shotLine_19 : Dc mX4_shotLine 19 (.getfield 135) 3 22 := ⟨zo_180 (w := 0) (x := 135) (by decide +kernel), rfl⟩
theorem dX4_shotLine_22 : Dc mX4_shotLine 22 (.invokevirtual 124) 3 25 := ⟨zo_182 (w := 0) (x := 124) (by decide +kernel), rfl⟩
theorem dX4_shotLine_25 : Dc mX4_shotLine 25 (.istore_n 1) 1 26 := ⟨zo_60 (by decide +kernel), rfl⟩
theorem dX4_shotLine_26 : Dc mX4_shotLine 26 (.aload_n 0) 1 27 := ⟨zo_42 (by decide +kernel), rfl⟩
theorem dX4_shotLine_27 : Dc mX4_shotLine 27 (.iconst 1) 1 28 := ⟨zo_4 (by decide +kernel), rfl⟩
theorem dX4_shotLine_28 : Dc mX4_shotLine 28 (.bipush 99) 2 30 := ⟨zo_16 (w := 99) (by decide +kernel), rfl⟩
theorem dX4_shotLine_30 : Dc mX4_shotLine 30 (.invokevirtual 128) 3 33 := ⟨zo_182 (w := 0) (x := 128) (by decide +kernel), rfl⟩
theorem dX4_shotLine_33 : Dc mX4_shotLine 33 (.istore_n 2) 1 34 := ⟨zo_61 (by decide +kernel), rfl⟩
theorem dX4_shotLine_34 : Dc mX4_shotLine 34 (.aload_n 0) 1 35 := ⟨zo_42 (by decide +kernel), rfl⟩
theorem dX4_shotLine_35 : Dc mX4_shotLine 35 (.iconst 0) 1 36 := ⟨zo_3 (by decide +kernel), rfl⟩
theorem dX4_shotLine_36 : Dc mX4_shotLine 36 (.bipush 99) 2 38 := ⟨zo_16 (w := 99) (by decide +kernel), rfl⟩
theorem dX4_shotLine_38 : Dc mX4_shotLine 38 (.invokevirtual 128) 3 41 := ⟨zo_182 (w := 0) (x := 128) (by decide +kernel), rfl⟩
theorem dX4_shotLine_41 : Dc mX4_shotLine 41 (.istore_n 3) 1 42 := ⟨zo_62 (by decide +kernel), rfl⟩
theorem dX4_shotLine_42 : Dc mX4_shotLine 42 (.aload_n 0) 1 43 := ⟨zo_42 (by decide +kernel), rfl⟩
theorem dX4_shotLine_43 : Dc mX4_shotLine 43 (.getfield 18) 3 46 := ⟨zo_180 (w := 0) (x := 18) (by decide +kernel), rfl⟩
theorem dX4_shotLine_46 : Dc mX4_shotLine 46 (.ifCond .ne 17) 3 49 := ⟨zo_154 (w := 0) (x := 17) (by decide +kernel), rfl⟩
theorem dX4_shotLine_49 : Dc mX4_shotLine 49 (.aload_n 0) 1 50 := ⟨zo_42 (by decide +kernel), rfl⟩
theorem dX4_shotLine_50 : Dc mX4_shotLine 50 (.getfield 12) 3 53 := ⟨zo_180 (w := 0) (x := 12) (by decide +kernel), rfl⟩
theorem dX4_shotLine_53 : Dc mX4_shotLine 53 (.getfield 135) 3 56 := ⟨zo_180 (w := 0) (x := 135) (by decide +kernel), rfl⟩
theorem dX4_shotLine_56 : Dc mX4_shotLine 56 (.iload_n 1) 1 57 := ⟨zo_27 (by decide +kernel), rfl⟩
theorem dX4_shotLine_57 : Dc mX4_shotLine 57 (.iload_n 2) 1 58 := ⟨zo_28 (by decide +kernel), rfl⟩
theorem dX4_shotLine_58 : Dc mX4_shotLine 58 (.iload_n 3) 1 59 := ⟨zo_29 (by decide +kernel), rfl⟩
theorem dX4_shotLine_59 : Dc mX4_shotLine 59 (.iconst 0) 1 60 := ⟨zo_3 (by decide +kernel), rfl⟩
theorem dX4_shotLine_60 : Dc mX4_shotLine 60 (.invokevirtual 131) 3 63 := ⟨zo_182 (w := 0) (x := 131) (by decide +kernel), rfl⟩
theorem dX4_shotLine_63 : Dc mX4_shotLine 63 (.return_) 1 64 := ⟨zo_177 (by decide +kernel), rfl⟩
theorem dX4_pairLine_0 : Dc mX4_pairLine 0 (.aload_n 0) 1 1 := ⟨zo_42 (by decide +kernel), rfl⟩
theorem dX4_pairLine_1 : Dc mX4_pairLine 1 (.aload_n 0) 1 2 := ⟨zo_42 (by decide +kernel), rfl⟩
theorem dX4_pairLine_2 : Dc mX4_pairLine 2 (.getfield 12) 3 5 := ⟨zo_180 (w := 0) (x := 12) (by decide +kernel), rfl⟩
theorem dX4_pairLine_5 : Dc mX4_pairLine 5 (.getfield 138) 3 8 := ⟨zo_180 (w := 0) (x := 138) (by decide +kernel), rfl⟩
theorem dX4_pairLine_8 : Dc mX4_pairLine 8 (.bipush 20) 2 10 := ⟨zo_16 (w := 20) (by decide +kernel), rfl⟩
theorem dX4_pairLine_10 : Dc mX4_pairLine 10 (.if_icmp .lt 7) 3 13 := ⟨zo_161 (w := 0) (x := 7) (by decide +kernel), rfl⟩
theorem dX4_pairLine_13 : Dc mX4_pairLine 13 (.iconst 1) 1 14 := ⟨zo_4 (by decide +kernel), rfl⟩
theorem dX4_pairLine_14 : Dc mX4_pairLine 14 (.goto 4) 3 17 := ⟨zo_167 (w := 0) (x := 4) (by decide +kernel), rfl⟩
theorem dX4_pairLine_17 : Dc mX4_pairLine 17 (.iconst 0) 1 18 := ⟨zo_3 (by decide +kernel), rfl⟩
theorem dX4_pairLine_18 : Dc mX4_pairLine 18 (.invokevirtual 121) 3 21 := ⟨zo_182 (w := 0) (x := 121) (by decide +kernel), rfl⟩
theorem dX4_pairLine_21 : Dc mX4_pairLine 21 (.aload_n 0) 1 22 := ⟨zo_42 (by decide +kernel), rfl⟩
theorem dX4_pairLine_22 : Dc mX4_pairLine 22 (.aload_n 0) 1 23 := ⟨zo_42 (by decide +kernel), rfl⟩
theorem dX4_pairLine_23 : Dc mX4_pairLine 23 (.getfield 12) 3 26 := ⟨zo_180 (w := 0) (x := 12) (by decide +kernel), rfl⟩
theorem dX4_pairLine_26 : Dc mX4_pairLine 26 (.getfield 135) 3 29 := ⟨zo_180 (w := 0) (x := 135) (by decide +kernel), rfl⟩
theorem dX4_pairLine_29 : Dc mX4_pairLine 29 (.invokevirtual 141) 3 32 := ⟨zo_182 (w := 0) (x := 141) (by decide +kernel), rfl⟩
theorem dX4_pairLine_32 : Dc mX4_pairLine 32 (.istore_n 1) 1 33 := ⟨zo_60 (by decide +kernel), rfl⟩
theorem dX4_pairLine_33 : Dc mX4_pairLine 33 (.aload_n 0) 1 34 := ⟨zo_42 (by decide +kernel), rfl⟩
theorem dX4_pairLine_34 : Dc mX4_pairLine 34 (.getfield 28) 3 37 := ⟨zo_180 (w := 0) (x := 28) (by decide +kernel), rfl⟩
theorem dX4_pairLine_37 : Dc mX4_pairLine 37 (.invokevirtual 65) 3 40 := ⟨zo_182 (w := 0) (x := 65) (by decide +kernel), rfl⟩
theorem dX4_pairLine_40 : Dc mX4_pairLine 40 (.aload_n 0) 1 41 := ⟨zo_42 (by decide +kernel), rfl⟩
theorem dX4_pairLine_41 : Dc mX4_pairLine 41 (.aload_n 0) 1 42 := ⟨zo_42 (by decide +kernel), rfl⟩
theorem dX4_pairLine_42 : Dc mX4_pairLine 42 (.getfield 12) 3 45 := ⟨zo_180 (w := 0) (x := 12) (by decide +kernel), rfl⟩
theorem dX4_pairLine_45 : Dc mX4_pairLine 45 (.getfield 111) 3 48 := ⟨zo_180 (w := 0) (x := 111) (by decide +kernel), rfl⟩
theorem dX4_pairLine_48 : Dc mX4_pairLine 48 (.invokevirtual 141) 3 51 := ⟨zo_182 (w := 0) (x := 141) (by decide +kernel), rfl⟩
theorem dX4_pairLine_51 : Dc mX4_pairLine 51 (.istore_n 2) 1 52 := ⟨zo_61 (by decide +kernel), rfl⟩
theorem dX4_pairLine_52 : Dc mX4_pairLine 52 (.iload_n 1) 1 53 := ⟨zo_27 (by decide +kernel), rfl⟩
theorem dX4_pairLine_53 : Dc mX4_pairLine 53 (.bipush 6) 2 55 := ⟨zo_16 (w := 6) (by decide +kernel), rfl⟩
theorem dX4_pairLine_55 : Dc mX4_pairLine 55 (.imul) 1 56 := ⟨zo_104 (by decide +kernel), rfl⟩
theorem dX4_pairLine_56 : Dc mX4_pairLine 56 (.iload_n 2) 1 57 := ⟨zo_28 (by decide +kernel), rfl⟩
theorem dX4_pairLine_57 : Dc mX4_pairLine 57 (.iadd) 1 58 := ⟨zo_96 (by decide +kernel), rfl⟩
theorem dX4_pairLine_58 : Dc mX4_pairLine 58 (.istore_n 3) 1 59 := ⟨zo_62 (by decide +kernel), rfl⟩
theorem dX4_pairLine_59 : Dc mX4_pairLine 59 (.aload_n 0) 1 60 := ⟨zo_42 (by decide +kernel), rfl⟩
theorem dX4_pairLine_60 : Dc mX4_pairLine 60 (.getfield 18) 3 63 := ⟨zo_180 (w := 0) (x := 18) (by decide +kernel), rfl⟩
theorem dX4_pairLine_63 : Dc mX4_pairLine 63 (.ifCond .ne 22) 3 66 := ⟨zo_154 (w := 0) (x := 22) (by decide +kernel), rfl⟩
theorem dX4_pairLine_66 : Dc mX4_pairLine 66 (.aload_n 0) 1 67 := ⟨zo_42 (by decide +kernel), rfl⟩
theorem dX4_pairLine_67 : Dc mX4_pairLine 67 (.getfield 12) 3 70 := ⟨zo_180 (w := 0) (x := 12) (by decide +kernel), rfl⟩
theorem dX4_pairLine_70 : Dc mX4_pairLine 70 (.getfield 144) 3 73 := ⟨zo_180 (w := 0) (x := 144) (by decide +kernel), rfl⟩
theorem dX4_pairLine_73 : Dc mX4_pairLine 73 (.iload_n 3) 1 74 := ⟨zo_29 (by decide +kernel), rfl⟩
theorem dX4_pairLine_74 : Dc mX4_pairLine 74 (.invokestatic 147) 3 77 := ⟨zo_184 (w := 0) (x := 147) (by decide +kernel), rfl⟩
theorem dX4_pairLine_77 : Dc mX4_pairLine 77 (.ifCond .lt 8) 3 80 := ⟨zo_155 (w := 0) (x := 8) (by decide +kernel), rfl⟩
theorem dX4_pairLine_80 : Dc mX4_pairLine 80 (.aload_n 0) 1 81 := ⟨zo_42 (by decide +kernel), rfl⟩
theorem dX4_pairLine_81 : Dc mX4_pairLine 81 (.iconst 3) 1 82 := ⟨zo_6 (by decide +kernel), rfl⟩
theorem dX4_pairLine_82 : Dc mX4_pairLine 82 (.invokevirtual 58) 3 85 := ⟨zo_182 (w := 0) (x := 58) (by decide +kernel), rfl⟩
theorem dX4_pairLine_85 : Dc mX4_pairLine 85 (.aload_n 0) 1 86 := ⟨zo_42 (by decide +kernel), rfl⟩
theorem dX4_pairLine_86 : Dc mX4_pairLine 86 (.getfield 28) 3 89 := ⟨zo_180 (w := 0) (x := 28) (by decide +kernel), rfl⟩
theorem dX4_pairLine_89 : Dc mX4_pairLine 89 (.invokevirtual 65) 3 92 := ⟨zo_182 (w := 0) (x := 65) (by decide +kernel), rfl⟩
theorem dX4_pairLine_92 : Dc mX4_pairLine 92 (.aload_n 0) 1 93 := ⟨zo_42 (by decide +kernel), rfl⟩
theorem dX4_pairLine_93 : Dc mX4_pairLine 93 (.iconst 0) 1 94 := ⟨zo_3 (by decide +kernel), rfl⟩
theorem dX4_pairLine_94 : Dc mX4_pairLine 94 (.aload_n 0) 1 95 := ⟨zo_42 (by decide +kernel), rfl⟩
theorem dX4_pairLine_95 : Dc mX4_pairLine 95 (.getfield 12) 3 98 := ⟨zo_180 (w := 0) (x := 12) (by decide +kernel), rfl⟩
theorem dX4_pairLine_98 : Dc mX4_pairLine 98 (.getfield 111) 3 101 := ⟨zo_180 (w := 0) (x := 111) (by decide +kernel), rfl⟩
theorem dX4_pairLine_101 : Dc mX4_pairLine 101 (.getfield 151) 3 104 := ⟨zo_180 (w := 0) (x := 151) (by decide +kernel), rfl⟩
theorem dX4_pairLine_104 : Dc mX4_pairLine 104 (.iload_n 2) 1 105 := ⟨zo_28 (by decide +kernel), rfl⟩
theorem dX4_pairLine_105 : Dc mX4_pairLine 105 (.invokestatic 147) 3 108 := ⟨zo_184 (w := 0) (x := 147) (by decide +kernel), rfl⟩
theorem dX4_pairLine_108 : Dc mX4_pairLine 108 (.iconst 1) 1 109 := ⟨zo_4 (by decide +kernel), rfl⟩
theorem dX4_pairLine_109 : Dc mX4_pairLine 109 (.isub) 1 110 := ⟨zo_100 (by decide +kernel), rfl⟩
theorem dX4_pairLine_110 : Dc mX4_pairLine 110 (.invokevirtual 128) 3 113 := ⟨zo_182 (w := 0) (x := 128) (by decide +kernel), rfl⟩
theorem dX4_pairLine_113 : Dc mX4_pairLine 113 (.istore 4) 2 115 := ⟨zo_54 (by decide +kernel), rfl⟩
theorem dX4_pairLine_115 : Dc mX4_pairLine 115 (.aload_n 0) 1 116 := ⟨zo_42 (by decide +kernel), rfl⟩
theorem dX4_pairLine_116 : Dc mX4_pairLine 116 (.getfield 18) 3 119 := ⟨zo_180 (w := 0) (x := 18) (by decide +kernel), rfl⟩
theorem dX4_pairLine_119 : Dc mX4_pairLine 119 (.ifCond .ne 29) 3 122 := ⟨zo_154 (w := 0) (x := 29) (by decide +kernel), rfl⟩
theorem dX4_pairLine_122 : Dc mX4_pairLine 122 (.aload_n 0) 1 123 := ⟨zo_42 (by decide +kernel), rfl⟩
theorem dX4_pairLine_123 : Dc mX4_pairLine 123 (.getfield 12) 3 126 := ⟨zo_180 (w := 0) (x := 12) (by decide +kernel), rfl⟩
theorem dX4_pairLine_126 : Dc mX4_pairLine 126 (.getfield 144) 3 129 := ⟨zo_180 (w := 0) (x := 144) (by decide +kernel), rfl⟩
theorem dX4_pairLine_129 : Dc mX4_pairLine 129 (.iload_n 3) 1 130 := ⟨zo_29 (by decide +kernel), rfl⟩
theorem dX4_pairLine_130 : Dc mX4_pairLine 130 (.iload 4) 2 132 := ⟨zo_21 (by decide +kernel), rfl⟩
theorem dX4_pairLine_132 : Dc mX4_pairLine 132 (.invokestatic 154) 3 135 := ⟨zo_184 (w := 0) (x := 154) (by decide +kernel), rfl⟩
theorem dX4_pairLine_135 : Dc mX4_pairLine 135 (.aload_n 0) 1 136 := ⟨zo_42 (by decide +kernel), rfl⟩
theorem dX4_pairLine_136 : Dc mX4_pairLine 136 (.getfield 12) 3 139 := ⟨zo_180 (w := 0) (x := 12) (by decide +kernel), rfl⟩
theorem dX4_pairLine_139 : Dc mX4_pairLine 139 (.dup) 1 140 := ⟨zo_89 (by decide +kernel), rfl⟩
theorem dX4_pairLine_140 : Dc mX4_pairLine 140 (.getfield 138) 3 143 := ⟨zo_180 (w := 0) (x := 138) (by decide +kernel), rfl⟩
theorem dX4_pairLine_143 : Dc mX4_pairLine 143 (.iconst 1) 1 144 := ⟨zo_4 (by decide +kernel), rfl⟩
theorem dX4_pairLine_144 : Dc mX4_pairLine 144 (.iadd) 1 145 := ⟨zo_96 (by decide +kernel), rfl⟩
theorem dX4_pairLine_145 : Dc mX4_pairLine 145 (.putfield 138) 3 148 := ⟨zo_181 (w := 0) (x := 138) (by decide +kernel), rfl⟩
theorem dX4_pairLine_148 : Dc mX4_pairLine 148 (.return_) 1 149 := ⟨zo_177 (by decide +kernel), rfl⟩
theorem dX4_partyLine_0 : Dc mX4_partyLine 0 (.aload_n 0) 1 1 := ⟨zo_42 (by decide +kernel), rfl⟩
theorem dX4_partyLine_1 : Dc mX4_partyLine 1 (.aload_n 0) 1 2 := ⟨zo_42 (by decide +kernel), rfl⟩
theorem dX4_partyLine_2 : Dc mX4_partyLine 2 (.getfield 12) 3 5 := ⟨zo_180 (w := 0) (x := 12) (by decide +kernel), rfl⟩
theorem dX4_partyLine_5 : Dc mX4_partyLine 5 (.getfield 158) 3 8 := ⟨zo_180 (w := 0) (x := 158) (by decide +kernel), rfl⟩
theorem dX4_partyLine_8 : Dc mX4_partyLine 8 (.invokevirtual 115) 3 11 := ⟨zo_182 (w := 0) (x := 115) (by decide +kernel), rfl⟩
theorem dX4_partyLine_11 : Dc mX4_partyLine 11 (.invokevirtual 121) 3 14 := ⟨zo_182 (w := 0) (x := 121) (by decide +kernel), rfl⟩
theorem dX4_partyLine_14 : Dc mX4_partyLine 14 (.aload_n 0) 1 15 := ⟨zo_42 (by decide +kernel), rfl⟩
theorem dX4_partyLine_15 : Dc mX4_partyLine 15 (.aload_n 0) 1 16 := ⟨zo_42 (by decide +kernel), rfl⟩
theorem dX4_partyLine_16 : Dc mX4_partyLine 16 (.getfield 12) 3 19 := ⟨zo_180 (w := 0) (x := 12) (by decide +kernel), rfl⟩
theorem dX4_partyLine_19 : Dc mX4_partyLine 19 (.getfield 158) 3 22 := ⟨zo_180 (w := 0) (x := 158) (by decide +kernel), rfl⟩
theorem dX4_partyLine_22 : Dc mX4_partyLine 22 (.invokevirtual 124) 3 25 := ⟨zo_182 (w := 0) (x := 124) (by decide +kernel), rfl⟩
theorem dX4_partyLine_25 : Dc mX4_partyLine 25 (.istore_n 1) 1 26 := ⟨zo_60 (by decide +kernel), rfl⟩
theorem dX4_partyLine_26 : Dc mX4_partyLine 26 (.aload_n 0) 1 27 := ⟨zo_42 (by decide +kernel), rfl⟩
theorem dX4_partyLine_27 : Dc mX4_partyLine 27 (.aload_n 0) 1 28 := ⟨zo_42 (by decide +kernel), rfl⟩
theorem dX4_partyLine_28 : Dc mX4_partyLine 28 (.getfield 12) 3 31 := ⟨zo_180 (w := 0) (x := 12) (by decide +kernel), rfl⟩
theorem dX4_partyLine_31 : Dc mX4_partyLine 31 (.getfield 111) 3 34 := ⟨zo_180 (w := 0) (x := 111) (by decide +kernel), rfl⟩
theorem dX4_partyLine_34 : Dc mX4_partyLine 34 (.invokevirtual 141) 3 37 := ⟨zo_182 (w := 0) (x := 141) (by decide +kernel), rfl⟩
theorem dX4_partyLine_37 : Dc mX4_partyLine 37 (.istore_n 2) 1 38 := ⟨zo_61 (by decide +kernel), rfl⟩
theorem dX4_partyLine_38 : Dc mX4_partyLine 38 (.aload_n 0) 1 39 := ⟨zo_42 (by decide +kernel), rfl⟩
theorem dX4_partyLine_39 : Dc mX4_partyLine 39 (.getfield 28) 3 42 := ⟨zo_180 (w := 0) (x := 28) (by decide +kernel), rfl⟩
theorem dX4_partyLine_42 : Dc mX4_partyLine 42 (.invokevirtual 65) 3 45 := ⟨zo_182 (w := 0) (x := 65) (by decide +kernel), rfl⟩
theorem dX4_partyLine_45 : Dc mX4_partyLine 45 (.aload_n 0) 1 46 := ⟨zo_42 (by decide +kernel), rfl⟩
theorem dX4_partyLine_46 : Dc mX4_partyLine 46 (.iconst 0) 1 47 := ⟨zo_3 (by decide +kernel), rfl⟩
theorem dX4_partyLine_47 : Dc mX4_partyLine 47 (.aload_n 0) 1 48 := ⟨zo_42 (by decide +kernel), rfl⟩
theorem dX4_partyLine_48 : Dc mX4_partyLine 48 (.getfield 12) 3 51 := ⟨zo_180 (w := 0) (x := 12) (by decide +kernel), rfl⟩
theorem dX4_partyLine_51 : Dc mX4_partyLine 51 (.getfield 111) 3 54 := ⟨zo_180 (w := 0) (x := 111) (by decide +kernel), rfl⟩
theorem dX4_partyLine_54 : Dc mX4_partyLine 54 (.getfield 151) 3 57 := ⟨zo_180 (w := 0) (x := 151) (by decide +kernel), rfl⟩
theorem dX4_partyLine_57 : Dc mX4_partyLine 57 (.iload_n 2) 1 58 := ⟨zo_28 (by decide +kernel), rfl⟩
theorem dX4_partyLine_58 : Dc mX4_partyLine 58 (.invokestatic 147) 3 61 := ⟨zo_184 (w := 0) (x := 147) (by decide +kernel), rfl⟩
theorem dX4_partyLine_61 : Dc mX4_partyLine 61 (.iconst 1) 1 62 := ⟨zo_4 (by decide +kernel), rfl⟩
theorem dX4_partyLine_62 : Dc mX4_partyLine 62 (.isub) 1 63 := ⟨zo_100 (by decide +kernel), rfl⟩
theorem dX4_partyLine_63 : Dc mX4_partyLine 63 (.invokevirtual 128) 3 66 := ⟨zo_182 (w := 0) (x := 128) (by decide +kernel), rfl⟩
theorem dX4_partyLine_66 : Dc mX4_partyLine 66 (.istore_n 3) 1 67 := ⟨zo_62 (by decide +kernel), rfl⟩
theorem dX4_partyLine_67 : Dc mX4_partyLine 67 (.aload_n 0) 1 68 := ⟨zo_42 (by decide +kernel), rfl⟩
theorem dX4_partyLine_68 : Dc mX4_partyLine 68 (.iconst 0) 1 69 := ⟨zo_3 (by decide +kernel), rfl⟩
theorem dX4_partyLine_69 : Dc mX4_partyLine 69 (.bipush 99) 2 71 := ⟨zo_16 (w := 99) (by decide +kernel), rfl⟩
theorem dX4_partyLine_71 : Dc mX4_partyLine 71 (.invokevirtual 128) 3 74 := ⟨zo_182 (w := 0) (x := 128) (by decide +kernel), rfl⟩
theorem dX4_partyLine_74 : Dc mX4_partyLine 74 (.istore 4) 2 76 := ⟨zo_54 (by decide +kernel), rfl⟩
theorem dX4_partyLine_76 : Dc mX4_partyLine 76 (.aload_n 0) 1 77 := ⟨zo_42 (by decide +kernel), rfl⟩
theorem dX4_partyLine_77 : Dc mX4_partyLine 77 (.getfield 18) 3 80 := ⟨zo_180 (w := 0) (x := 18) (by decide +kernel), rfl⟩
theorem dX4_partyLine_80 : Dc mX4_partyLine 80 (.ifCond .ne 18) 3 83 := ⟨zo_154 (w := 0) (x := 18) (by decide +kernel), rfl⟩
theorem dX4_partyLine_83 : Dc mX4_partyLine 83 (.aload_n 0) 1 84 := ⟨zo_42 (by decide +kernel), rfl⟩
theorem dX4_partyLine_84 : Dc mX4_partyLine 84 (.getfield 12) 3 87 := ⟨zo_180 (w := 0) (x := 12) (by decide +kernel), rfl⟩
theorem dX4_partyLine_87 : Dc mX4_partyLine 87 (.getfield 158) 3 90 := ⟨zo_180 (w := 0) (x := 158) (by decide +kernel), rfl⟩
theorem dX4_partyLine_90 : Dc mX4_partyLine 90 (.iload_n 1) 1 91 := ⟨zo_27 (by decide +kernel), rfl⟩
theorem dX4_partyLine_91 : Dc mX4_partyLine 91 (.iload_n 2) 1 92 := ⟨zo_28 (by decide +kernel), rfl⟩
theorem dX4_partyLine_92 : Dc mX4_partyLine 92 (.iload_n 3) 1 93 := ⟨zo_29 (by decide +kernel), rfl⟩
theorem dX4_partyLine_93 : Dc mX4_partyLine 93 (.iload 4) 2 95 := ⟨zo_21 (by decide +kernel), rfl⟩
theorem dX4_partyLine_95 : Dc mX4_partyLine 95 (.invokevirtual 131) 3 98 := ⟨zo_182 (w := 0) (x := 131) (by decide +kernel), rfl⟩
theorem dX4_partyLine_98 : Dc mX4_partyLine 98 (.return_) 1 99 := ⟨zo_177 (by decide +kernel), rfl⟩
theorem dX4_clerkLine_0 : Dc mX4_clerkLine 0 (.aload_n 0) 1 1 := ⟨zo_42 (by decide +kernel), rfl⟩
theorem dX4_clerkLine_1 : Dc mX4_clerkLine 1 (.aload_n 0) 1 2 := ⟨zo_42 (by decide +kernel), rfl⟩
theorem dX4_clerkLine_2 : Dc mX4_clerkLine 2 (.getfield 12) 3 5 := ⟨zo_180 (w := 0) (x := 12) (by decide +kernel), rfl⟩
theorem dX4_clerkLine_5 : Dc mX4_clerkLine 5 (.getfield 161) 3 8 := ⟨zo_180 (w := 0) (x := 161) (by decide +kernel), rfl⟩
theorem dX4_clerkLine_8 : Dc mX4_clerkLine 8 (.invokevirtual 115) 3 11 := ⟨zo_182 (w := 0) (x := 115) (by decide +kernel), rfl⟩
theorem dX4_clerkLine_11 : Dc mX4_clerkLine 11 (.invokevirtual 121) 3 14 := ⟨zo_182 (w := 0) (x := 121) (by decide +kernel), rfl⟩
theorem dX4_clerkLine_14 : Dc mX4_clerkLine 14 (.aload_n 0) 1 15 := ⟨zo_42 (by decide +kernel), rfl⟩
theorem dX4_clerkLine_15 : Dc mX4_clerkLine 15 (.aload_n 0) 1 16 := ⟨zo_42 (by decide +kernel), rfl⟩
theorem dX4_clerkLine_16 : Dc mX4_clerkLine 16 (.getfield 12) 3 19 := ⟨zo_180 (w := 0) (x := 12) (by decide +kernel), rfl⟩
theorem dX4_clerkLine_19 : Dc mX4_clerkLine 19 (.getfield 161) 3 22 := ⟨zo_180 (w := 0) (x := 161) (by decide +kernel), rfl⟩
theorem dX4_clerkLine_22 : Dc mX4_clerkLine 22 (.invokevirtual 124) 3 25 := ⟨zo_182 (w := 0) (x := 124) (by decide +kernel), rfl⟩
theorem dX4_clerkLine_25 : Dc mX4_clerkLine 25 (.istore_n 1) 1 26 := ⟨zo_60 (by decide +kernel), rfl⟩
theorem dX4_clerkLine_26 : Dc mX4_clerkLine 26 (.aload_n 0) 1 27 := ⟨zo_42 (by decide +kernel), rfl⟩
theorem dX4_clerkLine_27 : Dc mX4_clerkLine 27 (.iconst 0) 1 28 := ⟨zo_3 (by decide +kernel), rfl⟩
theorem dX4_clerkLine_28 : Dc mX4_clerkLine 28 (.bipush 63) 2 30 := ⟨zo_16 (w := 63) (by decide +kernel), rfl⟩
theorem dX4_clerkLine_30 : Dc mX4_clerkLine 30 (.invokevirtual 128) 3 33 := ⟨zo_182 (w := 0) (x := 128) (by decide +kernel), rfl⟩
theorem dX4_clerkLine_33 : Dc mX4_clerkLine 33 (.istore_n 2) 1 34 := ⟨zo_61 (by decide +kernel), rfl⟩
theorem dX4_clerkLine_34 : Dc mX4_clerkLine 34 (.aload_n 0) 1 35 := ⟨zo_42 (by decide +kernel), rfl⟩
theorem dX4_clerkLine_35 : Dc mX4_clerkLine 35 (.getfield 18) 3 38 := ⟨zo_180 (w := 0) (x := 18) (by decide +kernel), rfl⟩
theorem dX4_clerkLine_38 : Dc mX4_clerkLine 38 (.ifCond .ne 17) 3 41 := ⟨zo_154 (w := 0) (x := 17) (by decide +kernel), rfl⟩
theorem dX4_clerkLine_41 : Dc mX4_clerkLine 41 (.aload_n 0) 1 42 := ⟨zo_42 (by decide +kernel), rfl⟩
theorem dX4_clerkLine_42 : Dc mX4_clerkLine 42 (.getfield 12) 3 45 := ⟨zo_180 (w := 0) (x := 12) (by decide +kernel), rfl⟩
theorem dX4_clerkLine_45 : Dc mX4_clerkLine 45 (.getfield 161) 3 48 := ⟨zo_180 (w := 0) (x := 161) (by decide +kernel), rfl⟩
theorem dX4_clerkLine_48 : Dc mX4_clerkLine 48 (.iload_n 1) 1 49 := ⟨zo_27 (by decide +kernel), rfl⟩
theorem dX4_clerkLine_49 : Dc mX4_clerkLine 49 (.iload_n 2) 1 50 := ⟨zo_28 (by decide +kernel), rfl⟩
theorem dX4_clerkLine_50 : Dc mX4_clerkLine 50 (.iconst 0) 1 51 := ⟨zo_3 (by decide +kernel), rfl⟩
theorem dX4_clerkLine_51 : Dc mX4_clerkLine 51 (.iconst 0) 1 52 := ⟨zo_3 (by decide +kernel), rfl⟩
theorem dX4_clerkLine_52 : Dc mX4_clerkLine 52 (.invokevirtual 131) 3 55 := ⟨zo_182 (w := 0) (x := 131) (by decide +kernel), rfl⟩
theorem dX4_clerkLine_55 : Dc mX4_clerkLine 55 (.return_) 1 56 := ⟨zo_177 (by decide +kernel), rfl⟩
theorem dX4_coldLine_0 : Dc mX4_coldLine 0 (.aload_n 0) 1 1 := ⟨zo_42 (by decide +kernel), rfl⟩
theorem dX4_coldLine_1 : Dc mX4_coldLine 1 (.aload_n 0) 1 2 := ⟨zo_42 (by decide +kernel), rfl⟩
theorem dX4_coldLine_2 : Dc mX4_coldLine 2 (.getfield 12) 3 5 := ⟨zo_180 (w := 0) (x := 12) (by decide +kernel), rfl⟩
theorem dX4_coldLine_5 : Dc mX4_coldLine 5 (.getfield 164) 3 8 := ⟨zo_180 (w := 0) (x := 164) (by decide +kernel), rfl⟩
theorem dX4_coldLine_8 : Dc mX4_coldLine 8 (.invokevirtual 115) 3 11 := ⟨zo_182 (w := 0) (x := 115) (by decide +kernel), rfl⟩
theorem dX4_coldLine_11 : Dc mX4_coldLine 11 (.invokevirtual 121) 3 14 := ⟨zo_182 (w := 0) (x := 121) (by decide +kernel), rfl⟩
theorem dX4_coldLine_14 : Dc mX4_coldLine 14 (.aload_n 0) 1 15 := ⟨zo_42 (by decide +kernel), rfl⟩
theorem dX4_coldLine_15 : Dc mX4_coldLine 15 (.iconst 0) 1 16 := ⟨zo_3 (by decide +kernel), rfl⟩
theorem dX4_coldLine_16 : Dc mX4_coldLine 16 (.bipush 99) 2 18 := ⟨zo_16 (w := 99) (by decide +kernel), rfl⟩
theorem dX4_coldLine_18 : Dc mX4_coldLine 18 (.invokevirtual 128) 3 21 := ⟨zo_182 (w := 0) (x := 128) (by decide +kernel), rfl⟩
theorem dX4_coldLine_21 : Dc mX4_coldLine 21 (.istore_n 1) 1 22 := ⟨zo_60 (by decide +kernel), rfl⟩
theorem dX4_coldLine_22 : Dc mX4_coldLine 22 (.aload_n 0) 1 23 := ⟨zo_42 (by decide +kernel), rfl⟩
theorem dX4_coldLine_23 : Dc mX4_coldLine 23 (.iload_n 1) 1 24 := ⟨zo_27 (by decide +kernel), rfl⟩
theorem dX4_coldLine_24 : Dc mX4_coldLine 24 (.bipush 99) 2 26 := ⟨zo_16 (w := 99) (by decide +kernel), rfl⟩
theorem dX4_coldLine_26 : Dc mX4_coldLine 26 (.invokevirtual 128) 3 29 := ⟨zo_182 (w := 0) (x := 128) (by decide +kernel), rfl⟩
theorem dX4_coldLine_29 : Dc mX4_coldLine 29 (.istore_n 2) 1 30 := ⟨zo_61 (by decide +kernel), rfl⟩
theorem dX4_coldLine_30 : Dc mX4_coldLine 30 (.aload_n 0) 1 31 := ⟨zo_42 (by decide +kernel), rfl⟩
theorem dX4_coldLine_31 : Dc mX4_coldLine 31 (.getfield 18) 3 34 := ⟨zo_180 (w := 0) (x := 18) (by decide +kernel), rfl⟩
theorem dX4_coldLine_34 : Dc mX4_coldLine 34 (.ifCond .ne 17) 3 37 := ⟨zo_154 (w := 0) (x := 17) (by decide +kernel), rfl⟩
theorem dX4_coldLine_37 : Dc mX4_coldLine 37 (.aload_n 0) 1 38 := ⟨zo_42 (by decide +kernel), rfl⟩
theorem dX4_coldLine_38 : Dc mX4_coldLine 38 (.getfield 12) 3 41 := ⟨zo_180 (w := 0) (x := 12) (by decide +kernel), rfl⟩
theorem dX4_coldLine_41 : Dc mX4_coldLine 41 (.getfield 164) 3 44 := ⟨zo_180 (w := 0) (x := 164) (by decide +kernel), rfl⟩
theorem dX4_coldLine_44 : Dc mX4_coldLine 44 (.iconst 0) 1 45 := ⟨zo_3 (by decide +kernel), rfl⟩
theorem dX4_coldLine_45 : Dc mX4_coldLine 45 (.iload_n 1) 1 46 := ⟨zo_27 (by decide +kernel), rfl⟩
theorem dX4_coldLine_46 : Dc mX4_coldLine 46 (.iload_n 2) 1 47 := ⟨zo_28 (by decide +kernel), rfl⟩
theorem dX4_coldLine_47 : Dc mX4_coldLine 47 (.iconst 0) 1 48 := ⟨zo_3 (by decide +kernel), rfl⟩
theorem dX4_coldLine_48 : Dc mX4_coldLine 48 (.invokevirtual 131) 3 51 := ⟨zo_182 (w := 0) (x := 131) (by decide +kernel), rfl⟩
theorem dX4_coldLine_51 : Dc mX4_coldLine 51 (.return_) 1 52 := ⟨zo_177 (by decide +kernel), rfl⟩
theorem dX4_begin_0 : Dc mX4_begin 0 (.iload_n 1) 1 1 := ⟨zo_27 (by decide +kernel), rfl⟩
theorem dX4_begin_1 : Dc mX4_begin 1 (.ifCond .eq 8) 3 4 := ⟨zo_153 (w := 0) (x := 8) (by decide +kernel), rfl⟩
theorem dX4_begin_4 : Dc mX4_begin 4 (.aload_n 0) 1 5 := ⟨zo_42 (by decide +kernel), rfl⟩
theorem dX4_begin_5 : Dc mX4_begin 5 (.iconst 2) 1 6 := ⟨zo_5 (by decide +kernel), rfl⟩
theorem dX4_begin_6 : Dc mX4_begin 6 (.invokevirtual 58) 3 9 := ⟨zo_182 (w := 0) (x := 58) (by decide +kernel), rfl⟩
theorem dX4_begin_9 : Dc mX4_begin 9 (.aload_n 0) 1 10 := ⟨zo_42 (by decide +kernel), rfl⟩
theorem dX4_begin_10 : Dc mX4_begin 10 (.getfield 28) 3 13 := ⟨zo_180 (w := 0) (x := 28) (by decide +kernel), rfl⟩
theorem dX4_begin_13 : Dc mX4_begin 13 (.invokevirtual 65) 3 16 := ⟨zo_182 (w := 0) (x := 65) (by decide +kernel), rfl⟩
theorem dX4_begin_16 : Dc mX4_begin 16 (.return_) 1 17 := ⟨zo_177 (by decide +kernel), rfl⟩
theorem dX4_onlyOnce_0 : Dc mX4_onlyOnce 0 (.iload_n 1) 1 1 := ⟨zo_27 (by decide +kernel), rfl⟩
theorem dX4_onlyOnce_1 : Dc mX4_onlyOnce 1 (.ifCond .lt 8) 3 4 := ⟨zo_155 (w := 0) (x := 8) (by decide +kernel), rfl⟩
theorem dX4_onlyOnce_4 : Dc mX4_onlyOnce 4 (.aload_n 0) 1 5 := ⟨zo_42 (by decide +kernel), rfl⟩
theorem dX4_onlyOnce_5 : Dc mX4_onlyOnce 5 (.iconst 3) 1 6 := ⟨zo_6 (by decide +kernel), rfl⟩
theorem dX4_onlyOnce_6 : Dc mX4_onlyOnce 6 (.invokevirtual 58) 3 9 := ⟨zo_182 (w := 0) (x := 58) (by decide +kernel), rfl⟩
theorem dX4_onlyOnce_9 : Dc mX4_onlyOnce 9 (.aload_n 0) 1 10 := ⟨zo_42 (by decide +kernel), rfl⟩
theorem dX4_onlyOnce_10 : Dc mX4_onlyOnce 10 (.getfield 28) 3 13 := ⟨zo_180 (w := 0) (x := 28) (by decide +kernel), rfl⟩
theorem dX4_onlyOnce_13 : Dc mX4_onlyOnce 13 (.invokevirtual 65) 3 16 := ⟨zo_182 (w := 0) (x := 65) (by decide +kernel), rfl⟩
theorem dX4_onlyOnce_16 : Dc mX4_onlyOnce 16 (.aload_n 0) 1 17 := ⟨zo_42 (by decide +kernel), rfl⟩
theorem dX4_onlyOnce_17 : Dc mX4_onlyOnce 17 (.iconst 0) 1 18 := ⟨zo_3 (by decide +kernel), rfl⟩
theorem dX4_onlyOnce_18 : Dc mX4_onlyOnce 18 (.iload_n 2) 1 19 := ⟨zo_28 (by decide +kernel), rfl⟩
theorem dX4_onlyOnce_19 : Dc mX4_onlyOnce 19 (.invokevirtual 128) 3 22 := ⟨zo_182 (w := 0) (x := 128) (by decide +kernel), rfl⟩
theorem dX4_onlyOnce_22 : Dc mX4_onlyOnce 22 (.ireturn) 1 23 := ⟨zo_172 (by decide +kernel), rfl⟩
theorem dX4_fresh_0 : Dc mX4_fresh 0 (.aload_n 0) 1 1 := ⟨zo_42 (by decide +kernel), rfl⟩
theorem dX4_fresh_1 : Dc mX4_fresh 1 (.getfield 28) 3 4 := ⟨zo_180 (w := 0) (x := 28) (by decide +kernel), rfl⟩
theorem dX4_fresh_4 : Dc mX4_fresh 4 (.getfield 167) 3 7 := ⟨zo_180 (w := 0) (x := 167) (by decide +kernel), rfl⟩
theorem dX4_fresh_7 : Dc mX4_fresh 7 (.istore_n 2) 1 8 := ⟨zo_61 (by decide +kernel), rfl⟩
theorem dX4_fresh_8 : Dc mX4_fresh 8 (.aload_n 0) 1 9 := ⟨zo_42 (by decide +kernel), rfl⟩
theorem dX4_fresh_9 : Dc mX4_fresh 9 (.getfield 28) 3 12 := ⟨zo_180 (w := 0) (x := 28) (by decide +kernel), rfl⟩
theorem dX4_fresh_12 : Dc mX4_fresh 12 (.getfield 52) 3 15 := ⟨zo_180 (w := 0) (x := 52) (by decide +kernel), rfl⟩
theorem dX4_fresh_15 : Dc mX4_fresh 15 (.iconst 3) 1 16 := ⟨zo_6 (by decide +kernel), rfl⟩
theorem dX4_fresh_16 : Dc mX4_fresh 16 (.if_icmp .eq 11) 3 19 := ⟨zo_159 (w := 0) (x := 11) (by decide +kernel), rfl⟩
theorem dX4_fresh_19 : Dc mX4_fresh 19 (.aload_n 0) 1 20 := ⟨zo_42 (by decide +kernel), rfl⟩
theorem dX4_fresh_20 : Dc mX4_fresh 20 (.iconst 1) 1 21 := ⟨zo_4 (by decide +kernel), rfl⟩
theorem dX4_fresh_21 : Dc mX4_fresh 21 (.invokevirtual 58) 3 24 := ⟨zo_182 (w := 0) (x := 58) (by decide +kernel), rfl⟩
theorem dX4_fresh_24 : Dc mX4_fresh 24 (.goto 16) 3 27 := ⟨zo_167 (w := 0) (x := 16) (by decide +kernel), rfl⟩
theorem dX4_fresh_27 : Dc mX4_fresh 27 (.aload_n 1) 1 28 := ⟨zo_43 (by decide +kernel), rfl⟩
theorem dX4_fresh_28 : Dc mX4_fresh 28 (.iload_n 2) 1 29 := ⟨zo_28 (by decide +kernel), rfl⟩
theorem dX4_fresh_29 : Dc mX4_fresh 29 (.invokevirtual 170) 3 32 := ⟨zo_182 (w := 0) (x := 170) (by decide +kernel), rfl⟩
theorem dX4_fresh_32 : Dc mX4_fresh 32 (.ifCond .lt 8) 3 35 := ⟨zo_155 (w := 0) (x := 8) (by decide +kernel), rfl⟩
theorem dX4_fresh_35 : Dc mX4_fresh 35 (.aload_n 0) 1 36 := ⟨zo_42 (by decide +kernel), rfl⟩
theorem dX4_fresh_36 : Dc mX4_fresh 36 (.iconst 3) 1 37 := ⟨zo_6 (by decide +kernel), rfl⟩
theorem dX4_fresh_37 : Dc mX4_fresh 37 (.invokevirtual 58) 3 40 := ⟨zo_182 (w := 0) (x := 58) (by decide +kernel), rfl⟩
theorem dX4_fresh_40 : Dc mX4_fresh 40 (.aload_n 0) 1 41 := ⟨zo_42 (by decide +kernel), rfl⟩
theorem dX4_fresh_41 : Dc mX4_fresh 41 (.getfield 28) 3 44 := ⟨zo_180 (w := 0) (x := 28) (by decide +kernel), rfl⟩
theorem dX4_fresh_44 : Dc mX4_fresh 44 (.invokevirtual 65) 3 47 := ⟨zo_182 (w := 0) (x := 65) (by decide +kernel), rfl⟩
theorem dX4_fresh_47 : Dc mX4_fresh 47 (.iload_n 2) 1 48 := ⟨zo_28 (by decide +kernel), rfl⟩
theorem dX4_fresh_48 : Dc mX4_fresh 48 (.ireturn) 1 49 := ⟨zo_172 (by decide +kernel), rfl⟩
theorem dX4_find_0 : Dc mX4_find 0 (.aload_n 0) 1 1 := ⟨zo_42 (by decide +kernel), rfl⟩
theorem dX4_find_1 : Dc mX4_find 1 (.getfield 28) 3 4 := ⟨zo_180 (w := 0) (x := 28) (by decide +kernel), rfl⟩
theorem dX4_find_4 : Dc mX4_find 4 (.getfield 52) 3 7 := ⟨zo_180 (w := 0) (x := 52) (by decide +kernel), rfl⟩
theorem dX4_find_7 : Dc mX4_find 7 (.iconst 3) 1 8 := ⟨zo_6 (by decide +kernel), rfl⟩
theorem dX4_find_8 : Dc mX4_find 8 (.if_icmp .eq 10) 3 11 := ⟨zo_159 (w := 0) (x := 10) (by decide +kernel), rfl⟩
theorem dX4_find_11 : Dc mX4_find 11 (.aload_n 0) 1 12 := ⟨zo_42 (by decide +kernel), rfl⟩
theorem dX4_find_12 : Dc mX4_find 12 (.iconst 1) 1 13 := ⟨zo_4 (by decide +kernel), rfl⟩
theorem dX4_find_13 : Dc mX4_find 13 (.invokevirtual 58) 3 16 := ⟨zo_182 (w := 0) (x := 58) (by decide +kernel), rfl⟩
theorem dX4_find_16 : Dc mX4_find 16 (.iconst (-1)) 1 17 := ⟨zo_2 (by decide +kernel), rfl⟩
theorem dX4_find_17 : Dc mX4_find 17 (.ireturn) 1 18 := ⟨zo_172 (by decide +kernel), rfl⟩
theorem dX4_find_18 : Dc mX4_find 18 (.aload_n 1) 1 19 := ⟨zo_43 (by decide +kernel), rfl⟩
theorem dX4_find_19 : Dc mX4_find 19 (.aload_n 0) 1 20 := ⟨zo_42 (by decide +kernel), rfl⟩
theorem dX4_find_20 : Dc mX4_find 20 (.getfield 28) 3 23 := ⟨zo_180 (w := 0) (x := 28) (by decide +kernel), rfl⟩
theorem dX4_find_23 : Dc mX4_find 23 (.getfield 167) 3 26 := ⟨zo_180 (w := 0) (x := 167) (by decide +kernel), rfl⟩
theorem dX4_find_26 : Dc mX4_find 26 (.invokevirtual 170) 3 29 := ⟨zo_182 (w := 0) (x := 170) (by decide +kernel), rfl⟩
theorem dX4_find_29 : Dc mX4_find 29 (.istore_n 2) 1 30 := ⟨zo_61 (by decide +kernel), rfl⟩
theorem dX4_find_30 : Dc mX4_find 30 (.iload_n 2) 1 31 := ⟨zo_28 (by decide +kernel), rfl⟩
theorem dX4_find_31 : Dc mX4_find 31 (.ifCond .ge 8) 3 34 := ⟨zo_156 (w := 0) (x := 8) (by decide +kernel), rfl⟩
theorem dX4_find_34 : Dc mX4_find 34 (.aload_n 0) 1 35 := ⟨zo_42 (by decide +kernel), rfl⟩
theorem dX4_find_35 : Dc mX4_find 35 (.iconst 4) 1 36 := ⟨zo_7 (by decide +kernel), rfl⟩
theorem dX4_find_36 : Dc mX4_find 36 (.invokevirtual 58) 3 39 := ⟨zo_182 (w := 0) (x := 58) (by decide +kernel), rfl⟩
theorem dX4_find_39 : Dc mX4_find 39 (.iload_n 2) 1 40 := ⟨zo_28 (by decide +kernel), rfl⟩
theorem dX4_find_40 : Dc mX4_find 40 (.ireturn) 1 41 := ⟨zo_172 (by decide +kernel), rfl⟩
theorem dX4_number_0 : Dc mX4_number 0 (.aload_n 0) 1 1 := ⟨zo_42 (by decide +kernel), rfl⟩
theorem dX4_number_1 : Dc mX4_number 1 (.getfield 28) 3 4 := ⟨zo_180 (w := 0) (x := 28) (by decide +kernel), rfl⟩
theorem dX4_number_4 : Dc mX4_number 4 (.getfield 167) 3 7 := ⟨zo_180 (w := 0) (x := 167) (by decide +kernel), rfl⟩
theorem dX4_number_7 : Dc mX4_number 7 (.istore_n 3) 1 8 := ⟨zo_62 (by decide +kernel), rfl⟩
theorem dX4_number_8 : Dc mX4_number 8 (.aload_n 0) 1 9 := ⟨zo_42 (by decide +kernel), rfl⟩
theorem dX4_number_9 : Dc mX4_number 9 (.getfield 28) 3 12 := ⟨zo_180 (w := 0) (x := 28) (by decide +kernel), rfl⟩
theorem dX4_number_12 : Dc mX4_number 12 (.getfield 52) 3 15 := ⟨zo_180 (w := 0) (x := 52) (by decide +kernel), rfl⟩
theorem dX4_number_15 : Dc mX4_number 15 (.iconst 2) 1 16 := ⟨zo_5 (by decide +kernel), rfl⟩
theorem dX4_number_16 : Dc mX4_number 16 (.if_icmp .eq 11) 3 19 := ⟨zo_159 (w := 0) (x := 11) (by decide +kernel), rfl⟩
theorem dX4_number_19 : Dc mX4_number 19 (.aload_n 0) 1 20 := ⟨zo_42 (by decide +kernel), rfl⟩
theorem dX4_number_20 : Dc mX4_number 20 (.iconst 1) 1 21 := ⟨zo_4 (by decide +kernel), rfl⟩
theorem dX4_number_21 : Dc mX4_number 21 (.invokevirtual 58) 3 24 := ⟨zo_182 (w := 0) (x := 58) (by decide +kernel), rfl⟩
theorem dX4_number_24 : Dc mX4_number 24 (.goto 18) 3 27 := ⟨zo_167 (w := 0) (x := 18) (by decide +kernel), rfl⟩
theorem dX4_number_27 : Dc mX4_number 27 (.iload_n 3) 1 28 := ⟨zo_29 (by decide +kernel), rfl⟩
theorem dX4_number_28 : Dc mX4_number 28 (.iload_n 1) 1 29 := ⟨zo_27 (by decide +kernel), rfl⟩
theorem dX4_number_29 : Dc mX4_number 29 (.if_icmp .lt 8) 3 32 := ⟨zo_161 (w := 0) (x := 8) (by decide +kernel), rfl⟩
theorem dX4_number_32 : Dc mX4_number 32 (.iload_n 3) 1 33 := ⟨zo_29 (by decide +kernel), rfl⟩
theorem dX4_number_33 : Dc mX4_number 33 (.iload_n 2) 1 34 := ⟨zo_28 (by decide +kernel), rfl⟩
theorem dX4_number_34 : Dc mX4_number 34 (.if_icmp .le 8) 3 37 := ⟨zo_164 (w := 0) (x := 8) (by decide +kernel), rfl⟩
theorem dX4_number_37 : Dc mX4_number 37 (.aload_n 0) 1 38 := ⟨zo_42 (by decide +kernel), rfl⟩
theorem dX4_number_38 : Dc mX4_number 38 (.iconst 2) 1 39 := ⟨zo_5 (by decide +kernel), rfl⟩
theorem dX4_number_39 : Dc mX4_number 39 (.invokevirtual 58) 3 42 := ⟨zo_182 (w := 0) (x := 58) (by decide +kernel), rfl⟩
theorem dX4_number_42 : Dc mX4_number 42 (.aload_n 0) 1 43 := ⟨zo_42 (by decide +kernel), rfl⟩
theorem dX4_number_43 : Dc mX4_number 43 (.getfield 28) 3 46 := ⟨zo_180 (w := 0) (x := 28) (by decide +kernel), rfl⟩
theorem dX4_number_46 : Dc mX4_number 46 (.invokevirtual 65) 3 49 := ⟨zo_182 (w := 0) (x := 65) (by decide +kernel), rfl⟩
theorem dX4_number_49 : Dc mX4_number 49 (.iload_n 3) 1 50 := ⟨zo_29 (by decide +kernel), rfl⟩
theorem dX4_number_50 : Dc mX4_number 50 (.ireturn) 1 51 := ⟨zo_172 (by decide +kernel), rfl⟩
theorem dX4_lawLine_0 : Dc mX4_lawLine 0 (.aload_n 0) 1 1 := ⟨zo_42 (by decide +kernel), rfl⟩
theorem dX4_lawLine_1 : Dc mX4_lawLine 1 (.getfield 28) 3 4 := ⟨zo_180 (w := 0) (x := 28) (by decide +kernel), rfl⟩
theorem dX4_lawLine_4 : Dc mX4_lawLine 4 (.invokevirtual 65) 3 7 := ⟨zo_182 (w := 0) (x := 65) (by decide +kernel), rfl⟩
theorem dX4_lawLine_7 : Dc mX4_lawLine 7 (.aload_n 0) 1 8 := ⟨zo_42 (by decide +kernel), rfl⟩
theorem dX4_lawLine_8 : Dc mX4_lawLine 8 (.getfield 28) 3 11 := ⟨zo_180 (w := 0) (x := 28) (by decide +kernel), rfl⟩
theorem dX4_lawLine_11 : Dc mX4_lawLine 11 (.getfield 52) 3 14 := ⟨zo_180 (w := 0) (x := 52) (by decide +kernel), rfl⟩
theorem dX4_lawLine_14 : Dc mX4_lawLine 14 (.istore_n 1) 1 15 := ⟨zo_60 (by decide +kernel), rfl⟩
theorem dX4_lawLine_15 : Dc mX4_lawLine 15 (.iload_n 1) 1 16 := ⟨zo_27 (by decide +kernel), rfl⟩
theorem dX4_lawLine_16 : Dc mX4_lawLine 16 (.bipush 30) 2 18 := ⟨zo_16 (w := 30) (by decide +kernel), rfl⟩
theorem dX4_lawLine_18 : Dc mX4_lawLine 18 (.if_icmp .eq 21) 3 21 := ⟨zo_159 (w := 0) (x := 21) (by decide +kernel), rfl⟩
theorem dX4_lawLine_21 : Dc mX4_lawLine 21 (.iload_n 1) 1 22 := ⟨zo_27 (by decide +kernel), rfl⟩
theorem dX4_lawLine_22 : Dc mX4_lawLine 22 (.bipush 31) 2 24 := ⟨zo_16 (w := 31) (by decide +kernel), rfl⟩
theorem dX4_lawLine_24 : Dc mX4_lawLine 24 (.if_icmp .eq 15) 3 27 := ⟨zo_159 (w := 0) (x := 15) (by decide +kernel), rfl⟩
theorem dX4_lawLine_27 : Dc mX4_lawLine 27 (.iload_n 1) 1 28 := ⟨zo_27 (by decide +kernel), rfl⟩
theorem dX4_lawLine_28 : Dc mX4_lawLine 28 (.bipush 32) 2 30 := ⟨zo_16 (w := 32) (by decide +kernel), rfl⟩
theorem dX4_lawLine_30 : Dc mX4_lawLine 30 (.if_icmp .eq 9) 3 33 := ⟨zo_159 (w := 0) (x := 9) (by decide +kernel), rfl⟩
theorem dX4_lawLine_33 : Dc mX4_lawLine 33 (.aload_n 0) 1 34 := ⟨zo_42 (by decide +kernel), rfl⟩
theorem dX4_lawLine_34 : Dc mX4_lawLine 34 (.iconst 1) 1 35 := ⟨zo_4 (by decide +kernel), rfl⟩
theorem dX4_lawLine_35 : Dc mX4_lawLine 35 (.invokevirtual 58) 3 38 := ⟨zo_182 (w := 0) (x := 58) (by decide +kernel), rfl⟩
theorem dX4_lawLine_38 : Dc mX4_lawLine 38 (.return_) 1 39 := ⟨zo_177 (by decide +kernel), rfl⟩
theorem dX4_lawLine_39 : Dc mX4_lawLine 39 (.iload_n 1) 1 40 := ⟨zo_27 (by decide +kernel), rfl⟩
theorem dX4_lawLine_40 : Dc mX4_lawLine 40 (.bipush 30) 2 42 := ⟨zo_16 (w := 30) (by decide +kernel), rfl⟩
theorem dX4_lawLine_42 : Dc mX4_lawLine 42 (.if_icmp .ne 13) 3 45 := ⟨zo_160 (w := 0) (x := 13) (by decide +kernel), rfl⟩
theorem dX4_lawLine_45 : Dc mX4_lawLine 45 (.aload_n 0) 1 46 := ⟨zo_42 (by decide +kernel), rfl⟩
theorem dX4_lawLine_46 : Dc mX4_lawLine 46 (.getfield 12) 3 49 := ⟨zo_180 (w := 0) (x := 12) (by decide +kernel), rfl⟩
theorem dX4_lawLine_49 : Dc mX4_lawLine 49 (.getfield 173) 3 52 := ⟨zo_180 (w := 0) (x := 173) (by decide +kernel), rfl⟩
theorem dX4_lawLine_52 : Dc mX4_lawLine 52 (.goto 26) 3 55 := ⟨zo_167 (w := 0) (x := 26) (by decide +kernel), rfl⟩
theorem dX4_lawLine_55 : Dc mX4_lawLine 55 (.iload_n 1) 1 56 := ⟨zo_27 (by decide +kernel), rfl⟩
theorem dX4_lawLine_56 : Dc mX4_lawLine 56 (.bipush 31) 2 58 := ⟨zo_16 (w := 31) (by decide +kernel), rfl⟩
theorem dX4_lawLine_58 : Dc mX4_lawLine 58 (.if_icmp .ne 13) 3 61 := ⟨zo_160 (w := 0) (x := 13) (by decide +kernel), rfl⟩
theorem dX4_lawLine_61 : Dc mX4_lawLine 61 (.aload_n 0) 1 62 := ⟨zo_42 (by decide +kernel), rfl⟩
theorem dX4_lawLine_62 : Dc mX4_lawLine 62 (.getfield 12) 3 65 := ⟨zo_180 (w := 0) (x := 12) (by decide +kernel), rfl⟩
theorem dX4_lawLine_65 : Dc mX4_lawLine 65 (.getfield 177) 3 68 := ⟨zo_180 (w := 0) (x := 177) (by decide +kernel), rfl⟩
theorem dX4_lawLine_68 : Dc mX4_lawLine 68 (.goto 10) 3 71 := ⟨zo_167 (w := 0) (x := 10) (by decide +kernel), rfl⟩
theorem dX4_lawLine_71 : Dc mX4_lawLine 71 (.aload_n 0) 1 72 := ⟨zo_42 (by decide +kernel), rfl⟩
theorem dX4_lawLine_72 : Dc mX4_lawLine 72 (.getfield 12) 3 75 := ⟨zo_180 (w := 0) (x := 12) (by decide +kernel), rfl⟩
theorem dX4_lawLine_75 : Dc mX4_lawLine 75 (.getfield 180) 3 78 := ⟨zo_180 (w := 0) (x := 180) (by decide +kernel), rfl⟩
theorem dX4_lawLine_78 : Dc mX4_lawLine 78 (.astore_n 2) 1 79 := ⟨zo_77 (by decide +kernel), rfl⟩
theorem dX4_lawLine_79 : Dc mX4_lawLine 79 (.aload_n 2) 1 80 := ⟨zo_44 (by decide +kernel), rfl⟩
theorem dX4_lawLine_80 : Dc mX4_lawLine 80 (.getfield 183) 3 83 := ⟨zo_180 (w := 0) (x := 183) (by decide +kernel), rfl⟩
theorem dX4_lawLine_83 : Dc mX4_lawLine 83 (.ifCond .eq 8) 3 86 := ⟨zo_153 (w := 0) (x := 8) (by decide +kernel), rfl⟩
theorem dX4_lawLine_86 : Dc mX4_lawLine 86 (.aload_n 0) 1 87 := ⟨zo_42 (by decide +kernel), rfl⟩
theorem dX4_lawLine_87 : Dc mX4_lawLine 87 (.iconst 3) 1 88 := ⟨zo_6 (by decide +kernel), rfl⟩
theorem dX4_lawLine_88 : Dc mX4_lawLine 88 (.invokevirtual 58) 3 91 := ⟨zo_182 (w := 0) (x := 58) (by decide +kernel), rfl⟩
theorem dX4_lawLine_91 : Dc mX4_lawLine 91 (.aload_n 2) 1 92 := ⟨zo_44 (by decide +kernel), rfl⟩
theorem dX4_lawLine_92 : Dc mX4_lawLine 92 (.iconst 1) 1 93 := ⟨zo_4 (by decide +kernel), rfl⟩
theorem dX4_lawLine_93 : Dc mX4_lawLine 93 (.putfield 183) 3 96 := ⟨zo_181 (w := 0) (x := 183) (by decide +kernel), rfl⟩
theorem dX4_lawLine_96 : Dc mX4_lawLine 96 (.aload_n 0) 1 97 := ⟨zo_42 (by decide +kernel), rfl⟩
theorem dX4_lawLine_97 : Dc mX4_lawLine 97 (.getfield 28) 3 100 := ⟨zo_180 (w := 0) (x := 28) (by decide +kernel), rfl⟩
theorem dX4_lawLine_100 : Dc mX4_lawLine 100 (.invokevirtual 65) 3 103 := ⟨zo_182 (w := 0) (x := 65) (by decide +kernel), rfl⟩
theorem dX4_lawLine_103 : Dc mX4_lawLine 103 (.aload_n 0) 1 104 := ⟨zo_42 (by decide +kernel), rfl⟩
theorem dX4_lawLine_104 : Dc mX4_lawLine 104 (.aload_n 2) 1 105 := ⟨zo_44 (by decide +kernel), rfl⟩
theorem dX4_lawLine_105 : Dc mX4_lawLine 105 (.invokevirtual 188) 3 108 := ⟨zo_182 (w := 0) (x := 188) (by decide +kernel), rfl⟩
theorem dX4_lawLine_108 : Dc mX4_lawLine 108 (.return_) 1 109 := ⟨zo_177 (by decide +kernel), rfl⟩
theorem dX4_side_0 : Dc mX4_side 0 (.iconst 1) 1 1 := ⟨zo_4 (by decide +kernel), rfl⟩
theorem dX4_side_1 : Dc mX4_side 1 (.istore_n 2) 1 2 := ⟨zo_61 (by decide +kernel), rfl⟩
theorem dX4_side_2 : Dc mX4_side 2 (.aload_n 0) 1 3 := ⟨zo_42 (by decide +kernel), rfl⟩
theorem dX4_side_3 : Dc mX4_side 3 (.iconst 0) 1 4 := ⟨zo_3 (by decide +kernel), rfl⟩
theorem dX4_side_4 : Dc mX4_side 4 (.putfield 39) 3 7 := ⟨zo_181 (w := 0) (x := 39) (by decide +kernel), rfl⟩
theorem dX4_side_7 : Dc mX4_side 7 (.aload_n 0) 1 8 := ⟨zo_42 (by decide +kernel), rfl⟩
theorem dX4_side_8 : Dc mX4_side 8 (.iconst 0) 1 9 := ⟨zo_3 (by decide +kernel), rfl⟩
theorem dX4_side_9 : Dc mX4_side 9 (.putfield 42) 3 12 := ⟨zo_181 (w := 0) (x := 42) (by decide +kernel), rfl⟩
theorem dX4_side_12 : Dc mX4_side 12 (.iconst 0) 1 13 := ⟨zo_3 (by decide +kernel), rfl⟩
theorem dX4_side_13 : Dc mX4_side 13 (.istore_n 3) 1 14 := ⟨zo_62 (by decide +kernel), rfl⟩
theorem dX4_side_14 : Dc mX4_side 14 (.iload_n 3) 1 15 := ⟨zo_29 (by decide +kernel), rfl⟩
theorem dX4_side_15 : Dc mX4_side 15 (.sipush 700) 3 18 := ⟨zo_17 (w := 2) (x := 188) (by decide +kernel), rfl⟩
theorem dX4_side_18 : Dc mX4_side 18 (.if_icmp .gt 70) 3 21 := ⟨zo_163 (w := 0) (x := 70) (by decide +kernel), rfl⟩
theorem dX4_side_21 : Dc mX4_side 21 (.aload_n 0) 1 22 := ⟨zo_42 (by decide +kernel), rfl⟩
theorem dX4_side_22 : Dc mX4_side 22 (.getfield 18) 3 25 := ⟨zo_180 (w := 0) (x := 18) (by decide +kernel), rfl⟩
theorem dX4_side_25 : Dc mX4_side 25 (.ifCond .ne 63) 3 28 := ⟨zo_154 (w := 0) (x := 63) (by decide +kernel), rfl⟩
theorem dX4_side_28 : Dc mX4_side 28 (.iload_n 2) 1 29 := ⟨zo_28 (by decide +kernel), rfl⟩
theorem dX4_side_29 : Dc mX4_side 29 (.ifCond .ne 28) 3 32 := ⟨zo_154 (w := 0) (x := 28) (by decide +kernel), rfl⟩
theorem dX4_side_32 : Dc mX4_side 32 (.aload_n 0) 1 33 := ⟨zo_42 (by decide +kernel), rfl⟩
theorem dX4_side_33 : Dc mX4_side 33 (.getfield 42) 3 36 := ⟨zo_180 (w := 0) (x := 42) (by decide +kernel), rfl⟩
theorem dX4_side_36 : Dc mX4_side 36 (.ifCond .ne 21) 3 39 := ⟨zo_154 (w := 0) (x := 21) (by decide +kernel), rfl⟩
theorem dX4_side_39 : Dc mX4_side 39 (.aload_n 0) 1 40 := ⟨zo_42 (by decide +kernel), rfl⟩
theorem dX4_side_40 : Dc mX4_side 40 (.getfield 28) 3 43 := ⟨zo_180 (w := 0) (x := 28) (by decide +kernel), rfl⟩
theorem dX4_side_43 : Dc mX4_side 43 (.getfield 52) 3 46 := ⟨zo_180 (w := 0) (x := 52) (by decide +kernel), rfl⟩
theorem dX4_side_46 : Dc mX4_side 46 (.iconst 4) 1 47 := ⟨zo_7 (by decide +kernel), rfl⟩
theorem dX4_side_47 : Dc mX4_side 47 (.if_icmp .ne 10) 3 50 := ⟨zo_160 (w := 0) (x := 10) (by decide +kernel), rfl⟩
theorem dX4_side_50 : Dc mX4_side 50 (.aload_n 0) 1 51 := ⟨zo_42 (by decide +kernel), rfl⟩
theorem dX4_side_51 : Dc mX4_side 51 (.aload_n 1) 1 52 := ⟨zo_43 (by decide +kernel), rfl⟩
theorem dX4_side_52 : Dc mX4_side 52 (.iconst 1) 1 53 := ⟨zo_4 (by decide +kernel), rfl⟩
theorem dX4_side_53 : Dc mX4_side 53 (.invokevirtual 192) 3 56 := ⟨zo_182 (w := 0) (x := 192) (by decide +kernel), rfl⟩
theorem dX4_side_56 : Dc mX4_side 56 (.return_) 1 57 := ⟨zo_177 (by decide +kernel), rfl⟩
theorem dX4_side_57 : Dc mX4_side 57 (.iload_n 2) 1 58 := ⟨zo_28 (by decide +kernel), rfl⟩
theorem dX4_side_58 : Dc mX4_side 58 (.ifCond .eq 11) 3 61 := ⟨zo_153 (w := 0) (x := 11) (by decide +kernel), rfl⟩
theorem dX4_side_61 : Dc mX4_side 61 (.aload_n 0) 1 62 := ⟨zo_42 (by decide +kernel), rfl⟩
theorem dX4_side_62 : Dc mX4_side 62 (.aload_n 1) 1 63 := ⟨zo_43 (by decide +kernel), rfl⟩
theorem dX4_side_63 : Dc mX4_side 63 (.invokevirtual 196) 3 66 := ⟨zo_182 (w := 0) (x := 196) (by decide +kernel), rfl⟩
theorem dX4_side_66 : Dc mX4_side 66 (.goto 8) 3 69 := ⟨zo_167 (w := 0) (x := 8) (by decide +kernel), rfl⟩
theorem dX4_side_69 : Dc mX4_side 69 (.aload_n 0) 1 70 := ⟨zo_42 (by decide +kernel), rfl⟩
theorem dX4_side_70 : Dc mX4_side 70 (.aload_n 1) 1 71 := ⟨zo_43 (by decide +kernel), rfl⟩
theorem dX4_side_71 : Dc mX4_side 71 (.invokevirtual 200) 3 74 := ⟨zo_182 (w := 0) (x := 200) (by decide +kernel), rfl⟩
theorem dX4_side_74 : Dc mX4_side 74 (.istore_n 2) 1 75 := ⟨zo_61 (by decide +kernel), rfl⟩
theorem dX4_side_75 : Dc mX4_side 75 (.aload_n 0) 1 76 := ⟨zo_42 (by decide +kernel), rfl⟩
theorem dX4_side_76 : Dc mX4_side 76 (.getfield 28) 3 79 := ⟨zo_180 (w := 0) (x := 28) (by decide +kernel), rfl⟩
theorem dX4_side_79 : Dc mX4_side 79 (.invokevirtual 65) 3 82 := ⟨zo_182 (w := 0) (x := 65) (by decide +kernel), rfl⟩
theorem dX4_side_82 : Dc mX4_side 82 (.iinc 3 1) 3 85 := ⟨zo_iinc (x := 1) (by decide +kernel), rfl⟩
theorem dX4_side_85 : Dc mX4_side 85 (.goto (-71)) 3 88 := ⟨zo_167 (w := 255) (x := 185) (by decide +kernel), rfl⟩
theorem dX4_side_88 : Dc mX4_side 88 (.return_) 1 89 := ⟨zo_177 (by decide +kernel), rfl⟩
theorem dX4_operand_0 : Dc mX4_operand 0 (.aload_n 0) 1 1 := ⟨zo_42 (by decide +kernel), rfl⟩
theorem dX4_operand_1 : Dc mX4_operand 1 (.getfield 28) 3 4 := ⟨zo_180 (w := 0) (x := 28) (by decide +kernel), rfl⟩
theorem dX4_operand_4 : Dc mX4_operand 4 (.getfield 52) 3 7 := ⟨zo_180 (w := 0) (x := 52) (by decide +kernel), rfl⟩
theorem dX4_operand_7 : Dc mX4_operand 7 (.istore_n 2) 1 8 := ⟨zo_61 (by decide +kernel), rfl⟩
theorem dX4_operand_8 : Dc mX4_operand 8 (.iload_n 2) 1 9 := ⟨zo_28 (by decide +kernel), rfl⟩
theorem dX4_operand_9 : Dc mX4_operand 9 (.iconst 2) 1 10 := ⟨zo_5 (by decide +kernel), rfl⟩
theorem dX4_operand_10 : Dc mX4_operand 10 (.if_icmp .eq 9) 3 13 := ⟨zo_159 (w := 0) (x := 9) (by decide +kernel), rfl⟩
theorem dX4_operand_13 : Dc mX4_operand 13 (.iload_n 2) 1 14 := ⟨zo_28 (by decide +kernel), rfl⟩
theorem dX4_operand_14 : Dc mX4_operand 14 (.bipush 36) 2 16 := ⟨zo_16 (w := 36) (by decide +kernel), rfl⟩
theorem dX4_operand_16 : Dc mX4_operand 16 (.if_icmp .lt 53) 3 19 := ⟨zo_161 (w := 0) (x := 53) (by decide +kernel), rfl⟩
theorem dX4_operand_19 : Dc mX4_operand 19 (.aload_n 0) 1 20 := ⟨zo_42 (by decide +kernel), rfl⟩
theorem dX4_operand_20 : Dc mX4_operand 20 (.invokevirtual 203) 3 23 := ⟨zo_182 (w := 0) (x := 203) (by decide +kernel), rfl⟩
theorem dX4_operand_23 : Dc mX4_operand 23 (.iload_n 2) 1 24 := ⟨zo_28 (by decide +kernel), rfl⟩
theorem dX4_operand_24 : Dc mX4_operand 24 (.iconst 2) 1 25 := ⟨zo_5 (by decide +kernel), rfl⟩
theorem dX4_operand_25 : Dc mX4_operand 25 (.if_icmp .ne 21) 3 28 := ⟨zo_160 (w := 0) (x := 21) (by decide +kernel), rfl⟩
theorem dX4_operand_28 : Dc mX4_operand 28 (.aload_n 0) 1 29 := ⟨zo_42 (by decide +kernel), rfl⟩
theorem dX4_operand_29 : Dc mX4_operand 29 (.getfield 28) 3 32 := ⟨zo_180 (w := 0) (x := 28) (by decide +kernel), rfl⟩
theorem dX4_operand_32 : Dc mX4_operand 32 (.getfield 167) 3 35 := ⟨zo_180 (w := 0) (x := 167) (by decide +kernel), rfl⟩
theorem dX4_operand_35 : Dc mX4_operand 35 (.sipush 9999) 3 38 := ⟨zo_17 (w := 39) (x := 15) (by decide +kernel), rfl⟩
theorem dX4_operand_38 : Dc mX4_operand 38 (.if_icmp .le 8) 3 41 := ⟨zo_164 (w := 0) (x := 8) (by decide +kernel), rfl⟩
theorem dX4_operand_41 : Dc mX4_operand 41 (.aload_n 0) 1 42 := ⟨zo_42 (by decide +kernel), rfl⟩
theorem dX4_operand_42 : Dc mX4_operand 42 (.iconst 2) 1 43 := ⟨zo_5 (by decide +kernel), rfl⟩
theorem dX4_operand_43 : Dc mX4_operand 43 (.invokevirtual 58) 3 46 := ⟨zo_182 (w := 0) (x := 58) (by decide +kernel), rfl⟩
theorem dX4_operand_46 : Dc mX4_operand 46 (.aload_n 1) 1 47 := ⟨zo_43 (by decide +kernel), rfl⟩
theorem dX4_operand_47 : Dc mX4_operand 47 (.iload_n 2) 1 48 := ⟨zo_28 (by decide +kernel), rfl⟩
theorem dX4_operand_48 : Dc mX4_operand 48 (.iload_n 2) 1 49 := ⟨zo_28 (by decide +kernel), rfl⟩
theorem dX4_operand_49 : Dc mX4_operand 49 (.iconst 2) 1 50 := ⟨zo_5 (by decide +kernel), rfl⟩
theorem dX4_operand_50 : Dc mX4_operand 50 (.if_icmp .ne 13) 3 53 := ⟨zo_160 (w := 0) (x := 13) (by decide +kernel), rfl⟩
theorem dX4_operand_53 : Dc mX4_operand 53 (.aload_n 0) 1 54 := ⟨zo_42 (by decide +kernel), rfl⟩
theorem dX4_operand_54 : Dc mX4_operand 54 (.getfield 28) 3 57 := ⟨zo_180 (w := 0) (x := 28) (by decide +kernel), rfl⟩
theorem dX4_operand_57 : Dc mX4_operand 57 (.getfield 167) 3 60 := ⟨zo_180 (w := 0) (x := 167) (by decide +kernel), rfl⟩
theorem dX4_operand_60 : Dc mX4_operand 60 (.goto 4) 3 63 := ⟨zo_167 (w := 0) (x := 4) (by decide +kernel), rfl⟩
theorem dX4_operand_63 : Dc mX4_operand 63 (.iconst 0) 1 64 := ⟨zo_3 (by decide +kernel), rfl⟩
theorem dX4_operand_64 : Dc mX4_operand 64 (.invokevirtual 206) 3 67 := ⟨zo_182 (w := 0) (x := 206) (by decide +kernel), rfl⟩
theorem dX4_operand_67 : Dc mX4_operand 67 (.iconst 0) 1 68 := ⟨zo_3 (by decide +kernel), rfl⟩
theorem dX4_operand_68 : Dc mX4_operand 68 (.ireturn) 1 69 := ⟨zo_172 (by decide +kernel), rfl⟩
theorem dX4_operand_69 : Dc mX4_operand 69 (.iload_n 2) 1 70 := ⟨zo_28 (by decide +kernel), rfl⟩
theorem dX4_operand_70 : Dc mX4_operand 70 (.iconst 5) 1 71 := ⟨zo_8 (by decide +kernel), rfl⟩
theorem dX4_operand_71 : Dc mX4_operand 71 (.if_icmp .ne 35) 3 74 := ⟨zo_160 (w := 0) (x := 35) (by decide +kernel), rfl⟩
theorem dX4_operand_74 : Dc mX4_operand 74 (.aload_n 0) 1 75 := ⟨zo_42 (by decide +kernel), rfl⟩
theorem dX4_operand_75 : Dc mX4_operand 75 (.getfield 42) 3 78 := ⟨zo_180 (w := 0) (x := 42) (by decide +kernel), rfl⟩
theorem dX4_operand_78 : Dc mX4_operand 78 (.bipush 8) 2 80 := ⟨zo_16 (w := 8) (by decide +kernel), rfl⟩
theorem dX4_operand_80 : Dc mX4_operand 80 (.if_icmp .lt 8) 3 83 := ⟨zo_161 (w := 0) (x := 8) (by decide +kernel), rfl⟩
theorem dX4_operand_83 : Dc mX4_operand 83 (.aload_n 0) 1 84 := ⟨zo_42 (by decide +kernel), rfl⟩
theorem dX4_operand_84 : Dc mX4_operand 84 (.iconst 2) 1 85 := ⟨zo_5 (by decide +kernel), rfl⟩
theorem dX4_operand_85 : Dc mX4_operand 85 (.invokevirtual 58) 3 88 := ⟨zo_182 (w := 0) (x := 58) (by decide +kernel), rfl⟩
theorem dX4_operand_88 : Dc mX4_operand 88 (.aload_n 0) 1 89 := ⟨zo_42 (by decide +kernel), rfl⟩
theorem dX4_operand_89 : Dc mX4_operand 89 (.dup) 1 90 := ⟨zo_89 (by decide +kernel), rfl⟩
theorem dX4_operand_90 : Dc mX4_operand 90 (.getfield 42) 3 93 := ⟨zo_180 (w := 0) (x := 42) (by decide +kernel), rfl⟩
theorem dX4_operand_93 : Dc mX4_operand 93 (.iconst 1) 1 94 := ⟨zo_4 (by decide +kernel), rfl⟩
theorem dX4_operand_94 : Dc mX4_operand 94 (.iadd) 1 95 := ⟨zo_96 (by decide +kernel), rfl⟩
theorem dX4_operand_95 : Dc mX4_operand 95 (.putfield 42) 3 98 := ⟨zo_181 (w := 0) (x := 42) (by decide +kernel), rfl⟩
theorem dX4_operand_98 : Dc mX4_operand 98 (.aload_n 0) 1 99 := ⟨zo_42 (by decide +kernel), rfl⟩
theorem dX4_operand_99 : Dc mX4_operand 99 (.iload_n 2) 1 100 := ⟨zo_28 (by decide +kernel), rfl⟩
theorem dX4_operand_100 : Dc mX4_operand 100 (.invokevirtual 209) 3 103 := ⟨zo_182 (w := 0) (x := 209) (by decide +kernel), rfl⟩
theorem dX4_operand_103 : Dc mX4_operand 103 (.goto 38) 3 106 := ⟨zo_167 (w := 0) (x := 38) (by decide +kernel), rfl⟩
theorem dX4_operand_106 : Dc mX4_operand 106 (.iload_n 2) 1 107 := ⟨zo_28 (by decide +kernel), rfl⟩
theorem dX4_operand_107 : Dc mX4_operand 107 (.bipush 35) 2 109 := ⟨zo_16 (w := 35) (by decide +kernel), rfl⟩
theorem dX4_operand_109 : Dc mX4_operand 109 (.if_icmp .ne 27) 3 112 := ⟨zo_160 (w := 0) (x := 27) (by decide +kernel), rfl⟩
theorem dX4_operand_112 : Dc mX4_operand 112 (.aload_n 0) 1 113 := ⟨zo_42 (by decide +kernel), rfl⟩
theorem dX4_operand_113 : Dc mX4_operand 113 (.invokevirtual 212) 3 116 := ⟨zo_182 (w := 0) (x := 212) (by decide +kernel), rfl⟩
theorem dX4_operand_116 : Dc mX4_operand 116 (.bipush 35) 2 118 := ⟨zo_16 (w := 35) (by decide +kernel), rfl⟩
theorem dX4_operand_118 : Dc mX4_operand 118 (.invokestatic 216) 3 121 := ⟨zo_184 (w := 0) (x := 216) (by decide +kernel), rfl⟩
theorem dX4_operand_121 : Dc mX4_operand 121 (.if_icmp .gt 15) 3 124 := ⟨zo_163 (w := 0) (x := 15) (by decide +kernel), rfl⟩
theorem dX4_operand_124 : Dc mX4_operand 124 (.aload_n 0) 1 125 := ⟨zo_42 (by decide +kernel), rfl⟩
theorem dX4_operand_125 : Dc mX4_operand 125 (.invokevirtual 203) 3 128 := ⟨zo_182 (w := 0) (x := 203) (by decide +kernel), rfl⟩
theorem dX4_operand_128 : Dc mX4_operand 128 (.aload_n 0) 1 129 := ⟨zo_42 (by decide +kernel), rfl⟩
theorem dX4_operand_129 : Dc mX4_operand 129 (.iload_n 2) 1 130 := ⟨zo_28 (by decide +kernel), rfl⟩
theorem dX4_operand_130 : Dc mX4_operand 130 (.invokevirtual 209) 3 133 := ⟨zo_182 (w := 0) (x := 209) (by decide +kernel), rfl⟩
theorem dX4_operand_133 : Dc mX4_operand 133 (.goto 8) 3 136 := ⟨zo_167 (w := 0) (x := 8) (by decide +kernel), rfl⟩
theorem dX4_operand_136 : Dc mX4_operand 136 (.aload_n 0) 1 137 := ⟨zo_42 (by decide +kernel), rfl⟩
theorem dX4_operand_137 : Dc mX4_operand 137 (.iconst 1) 1 138 := ⟨zo_4 (by decide +kernel), rfl⟩
theorem dX4_operand_138 : Dc mX4_operand 138 (.invokevirtual 58) 3 141 := ⟨zo_182 (w := 0) (x := 58) (by decide +kernel), rfl⟩
theorem dX4_operand_141 : Dc mX4_operand 141 (.iconst 1) 1 142 := ⟨zo_4 (by decide +kernel), rfl⟩
theorem dX4_operand_142 : Dc mX4_operand 142 (.ireturn) 1 143 := ⟨zo_172 (by decide +kernel), rfl⟩
theorem dX4_sign_0 : Dc mX4_sign 0 (.aload_n 0) 1 1 := ⟨zo_42 (by decide +kernel), rfl⟩
theorem dX4_sign_1 : Dc mX4_sign 1 (.getfield 28) 3 4 := ⟨zo_180 (w := 0) (x := 28) (by decide +kernel), rfl⟩
theorem dX4_sign_4 : Dc mX4_sign 4 (.getfield 52) 3 7 := ⟨zo_180 (w := 0) (x := 52) (by decide +kernel), rfl⟩
theorem dX4_sign_7 : Dc mX4_sign 7 (.istore_n 2) 1 8 := ⟨zo_61 (by decide +kernel), rfl⟩
theorem dX4_sign_8 : Dc mX4_sign 8 (.iload_n 2) 1 9 := ⟨zo_28 (by decide +kernel), rfl⟩
theorem dX4_sign_9 : Dc mX4_sign 9 (.bipush 6) 2 11 := ⟨zo_16 (w := 6) (by decide +kernel), rfl⟩
theorem dX4_sign_11 : Dc mX4_sign 11 (.if_icmp .ne 38) 3 14 := ⟨zo_160 (w := 0) (x := 38) (by decide +kernel), rfl⟩
theorem dX4_sign_14 : Dc mX4_sign 14 (.aload_n 0) 1 15 := ⟨zo_42 (by decide +kernel), rfl⟩
theorem dX4_sign_15 : Dc mX4_sign 15 (.getfield 42) 3 18 := ⟨zo_180 (w := 0) (x := 42) (by decide +kernel), rfl⟩
theorem dX4_sign_18 : Dc mX4_sign 18 (.ifCond .le 31) 3 21 := ⟨zo_158 (w := 0) (x := 31) (by decide +kernel), rfl⟩
theorem dX4_sign_21 : Dc mX4_sign 21 (.aload_n 0) 1 22 := ⟨zo_42 (by decide +kernel), rfl⟩
theorem dX4_sign_22 : Dc mX4_sign 22 (.aload_n 1) 1 23 := ⟨zo_43 (by decide +kernel), rfl⟩
theorem dX4_sign_23 : Dc mX4_sign 23 (.iconst 1) 1 24 := ⟨zo_4 (by decide +kernel), rfl⟩
theorem dX4_sign_24 : Dc mX4_sign 24 (.invokevirtual 192) 3 27 := ⟨zo_182 (w := 0) (x := 192) (by decide +kernel), rfl⟩
theorem dX4_sign_27 : Dc mX4_sign 27 (.aload_n 0) 1 28 := ⟨zo_42 (by decide +kernel), rfl⟩
theorem dX4_sign_28 : Dc mX4_sign 28 (.dup) 1 29 := ⟨zo_89 (by decide +kernel), rfl⟩
theorem dX4_sign_29 : Dc mX4_sign 29 (.getfield 39) 3 32 := ⟨zo_180 (w := 0) (x := 39) (by decide +kernel), rfl⟩
theorem dX4_sign_32 : Dc mX4_sign 32 (.iconst 1) 1 33 := ⟨zo_4 (by decide +kernel), rfl⟩
theorem dX4_sign_33 : Dc mX4_sign 33 (.isub) 1 34 := ⟨zo_100 (by decide +kernel), rfl⟩
theorem dX4_sign_34 : Dc mX4_sign 34 (.putfield 39) 3 37 := ⟨zo_181 (w := 0) (x := 39) (by decide +kernel), rfl⟩
theorem dX4_sign_37 : Dc mX4_sign 37 (.aload_n 0) 1 38 := ⟨zo_42 (by decide +kernel), rfl⟩
theorem dX4_sign_38 : Dc mX4_sign 38 (.dup) 1 39 := ⟨zo_89 (by decide +kernel), rfl⟩
theorem dX4_sign_39 : Dc mX4_sign 39 (.getfield 42) 3 42 := ⟨zo_180 (w := 0) (x := 42) (by decide +kernel), rfl⟩
theorem dX4_sign_42 : Dc mX4_sign 42 (.iconst 1) 1 43 := ⟨zo_4 (by decide +kernel), rfl⟩
theorem dX4_sign_43 : Dc mX4_sign 43 (.isub) 1 44 := ⟨zo_100 (by decide +kernel), rfl⟩
theorem dX4_sign_44 : Dc mX4_sign 44 (.putfield 42) 3 47 := ⟨zo_181 (w := 0) (x := 42) (by decide +kernel), rfl⟩
theorem dX4_sign_47 : Dc mX4_sign 47 (.iconst 0) 1 48 := ⟨zo_3 (by decide +kernel), rfl⟩
theorem dX4_sign_48 : Dc mX4_sign 48 (.ireturn) 1 49 := ⟨zo_172 (by decide +kernel), rfl⟩
theorem dX4_sign_49 : Dc mX4_sign 49 (.iload_n 2) 1 50 := ⟨zo_28 (by decide +kernel), rfl⟩
theorem dX4_sign_50 : Dc mX4_sign 50 (.invokestatic 216) 3 53 := ⟨zo_184 (w := 0) (x := 216) (by decide +kernel), rfl⟩
theorem dX4_sign_53 : Dc mX4_sign 53 (.istore_n 3) 1 54 := ⟨zo_62 (by decide +kernel), rfl⟩
theorem dX4_sign_54 : Dc mX4_sign 54 (.iload_n 3) 1 55 := ⟨zo_29 (by decide +kernel), rfl⟩
theorem dX4_sign_55 : Dc mX4_sign 55 (.ifCond .eq 9) 3 58 := ⟨zo_153 (w := 0) (x := 9) (by decide +kernel), rfl⟩
theorem dX4_sign_58 : Dc mX4_sign 58 (.iload_n 2) 1 59 := ⟨zo_28 (by decide +kernel), rfl⟩
theorem dX4_sign_59 : Dc mX4_sign 59 (.bipush 35) 2 61 := ⟨zo_16 (w := 35) (by decide +kernel), rfl⟩
theorem dX4_sign_61 : Dc mX4_sign 61 (.if_icmp .ne 10) 3 64 := ⟨zo_160 (w := 0) (x := 10) (by decide +kernel), rfl⟩
theorem dX4_sign_64 : Dc mX4_sign 64 (.aload_n 0) 1 65 := ⟨zo_42 (by decide +kernel), rfl⟩
theorem dX4_sign_65 : Dc mX4_sign 65 (.iconst 1) 1 66 := ⟨zo_4 (by decide +kernel), rfl⟩
theorem dX4_sign_66 : Dc mX4_sign 66 (.invokevirtual 58) 3 69 := ⟨zo_182 (w := 0) (x := 58) (by decide +kernel), rfl⟩
theorem dX4_sign_69 : Dc mX4_sign 69 (.iconst 1) 1 70 := ⟨zo_4 (by decide +kernel), rfl⟩
theorem dX4_sign_70 : Dc mX4_sign 70 (.ireturn) 1 71 := ⟨zo_172 (by decide +kernel), rfl⟩
theorem dX4_sign_71 : Dc mX4_sign 71 (.aload_n 0) 1 72 := ⟨zo_42 (by decide +kernel), rfl⟩
theorem dX4_sign_72 : Dc mX4_sign 72 (.aload_n 1) 1 73 := ⟨zo_43 (by decide +kernel), rfl⟩
theorem dX4_sign_73 : Dc mX4_sign 73 (.iload_n 3) 1 74 := ⟨zo_29 (by decide +kernel), rfl⟩
theorem dX4_sign_74 : Dc mX4_sign 74 (.iconst 4) 1 75 := ⟨zo_7 (by decide +kernel), rfl⟩
theorem dX4_sign_75 : Dc mX4_sign 75 (.if_icmp .ne 7) 3 78 := ⟨zo_160 (w := 0) (x := 7) (by decide +kernel), rfl⟩
theorem dX4_sign_78 : Dc mX4_sign 78 (.iconst 5) 1 79 := ⟨zo_8 (by decide +kernel), rfl⟩
theorem dX4_sign_79 : Dc mX4_sign 79 (.goto 4) 3 82 := ⟨zo_167 (w := 0) (x := 4) (by decide +kernel), rfl⟩
theorem dX4_sign_82 : Dc mX4_sign 82 (.iload_n 3) 1 83 := ⟨zo_29 (by decide +kernel), rfl⟩
theorem dX4_sign_83 : Dc mX4_sign 83 (.invokevirtual 192) 3 86 := ⟨zo_182 (w := 0) (x := 192) (by decide +kernel), rfl⟩
theorem dX4_sign_86 : Dc mX4_sign 86 (.iload_n 3) 1 87 := ⟨zo_29 (by decide +kernel), rfl⟩
theorem dX4_sign_87 : Dc mX4_sign 87 (.iconst 4) 1 88 := ⟨zo_7 (by decide +kernel), rfl⟩
theorem dX4_sign_88 : Dc mX4_sign 88 (.if_icmp .ne 16) 3 91 := ⟨zo_160 (w := 0) (x := 16) (by decide +kernel), rfl⟩
theorem dX4_sign_91 : Dc mX4_sign 91 (.aload_n 0) 1 92 := ⟨zo_42 (by decide +kernel), rfl⟩
theorem dX4_sign_92 : Dc mX4_sign 92 (.invokevirtual 212) 3 95 := ⟨zo_182 (w := 0) (x := 212) (by decide +kernel), rfl⟩
theorem dX4_sign_95 : Dc mX4_sign 95 (.iconst 4) 1 96 := ⟨zo_7 (by decide +kernel), rfl⟩
theorem dX4_sign_96 : Dc mX4_sign 96 (.if_icmp .ne 8) 3 99 := ⟨zo_160 (w := 0) (x := 8) (by decide +kernel), rfl⟩
theorem dX4_sign_99 : Dc mX4_sign 99 (.aload_n 0) 1 100 := ⟨zo_42 (by decide +kernel), rfl⟩
theorem dX4_sign_100 : Dc mX4_sign 100 (.iconst 1) 1 101 := ⟨zo_4 (by decide +kernel), rfl⟩
theorem dX4_sign_101 : Dc mX4_sign 101 (.invokevirtual 58) 3 104 := ⟨zo_182 (w := 0) (x := 58) (by decide +kernel), rfl⟩
theorem dX4_sign_104 : Dc mX4_sign 104 (.aload_n 0) 1 105 := ⟨zo_42 (by decide +kernel), rfl⟩
theorem dX4_sign_105 : Dc mX4_sign 105 (.invokevirtual 203) 3 108 := ⟨zo_182 (w := 0) (x := 203) (by decide +kernel), rfl⟩
theorem dX4_sign_108 : Dc mX4_sign 108 (.aload_n 0) 1 109 := ⟨zo_42 (by decide +kernel), rfl⟩
theorem dX4_sign_109 : Dc mX4_sign 109 (.iload_n 2) 1 110 := ⟨zo_28 (by decide +kernel), rfl⟩
theorem dX4_sign_110 : Dc mX4_sign 110 (.invokevirtual 209) 3 113 := ⟨zo_182 (w := 0) (x := 209) (by decide +kernel), rfl⟩
theorem dX4_sign_113 : Dc mX4_sign 113 (.iconst 1) 1 114 := ⟨zo_4 (by decide +kernel), rfl⟩
theorem dX4_sign_114 : Dc mX4_sign 114 (.ireturn) 1 115 := ⟨zo_172 (by decide +kernel), rfl⟩
theorem dX4_knot_0 : Dc mX4_knot 0 (.aload_n 0) 1 1 := ⟨zo_42 (by decide +kernel), rfl⟩
theorem dX4_knot_1 : Dc mX4_knot 1 (.getfield 12) 3 4 := ⟨zo_180 (w := 0) (x := 12) (by decide +kernel), rfl⟩
theorem dX4_knot_4 : Dc mX4_knot 4 (.getfield 219) 3 7 := ⟨zo_180 (w := 0) (x := 219) (by decide +kernel), rfl⟩
theorem dX4_knot_7 : Dc mX4_knot 7 (.bipush 64) 2 9 := ⟨zo_16 (w := 64) (by decide +kernel), rfl⟩
theorem dX4_knot_9 : Dc mX4_knot 9 (.if_icmp .lt 11) 3 12 := ⟨zo_161 (w := 0) (x := 11) (by decide +kernel), rfl⟩
theorem dX4_knot_12 : Dc mX4_knot 12 (.aload_n 0) 1 13 := ⟨zo_42 (by decide +kernel), rfl⟩
theorem dX4_knot_13 : Dc mX4_knot 13 (.iconst 2) 1 14 := ⟨zo_5 (by decide +kernel), rfl⟩
theorem dX4_knot_14 : Dc mX4_knot 14 (.invokevirtual 58) 3 17 := ⟨zo_182 (w := 0) (x := 58) (by decide +kernel), rfl⟩
theorem dX4_knot_17 : Dc mX4_knot 17 (.goto 16) 3 20 := ⟨zo_167 (w := 0) (x := 16) (by decide +kernel), rfl⟩
theorem dX4_knot_20 : Dc mX4_knot 20 (.aload_n 0) 1 21 := ⟨zo_42 (by decide +kernel), rfl⟩
theorem dX4_knot_21 : Dc mX4_knot 21 (.getfield 12) 3 24 := ⟨zo_180 (w := 0) (x := 12) (by decide +kernel), rfl⟩
theorem dX4_knot_24 : Dc mX4_knot 24 (.dup) 1 25 := ⟨zo_89 (by decide +kernel), rfl⟩
theorem dX4_knot_25 : Dc mX4_knot 25 (.getfield 219) 3 28 := ⟨zo_180 (w := 0) (x := 219) (by decide +kernel), rfl⟩
theorem dX4_knot_28 : Dc mX4_knot 28 (.iconst 1) 1 29 := ⟨zo_4 (by decide +kernel), rfl⟩
theorem dX4_knot_29 : Dc mX4_knot 29 (.iadd) 1 30 := ⟨zo_96 (by decide +kernel), rfl⟩
theorem dX4_knot_30 : Dc mX4_knot 30 (.putfield 219) 3 33 := ⟨zo_181 (w := 0) (x := 219) (by decide +kernel), rfl⟩
theorem dX4_knot_33 : Dc mX4_knot 33 (.return_) 1 34 := ⟨zo_177 (by decide +kernel), rfl⟩
theorem dX4_hold_0 : Dc mX4_hold 0 (.aload_n 0) 1 1 := ⟨zo_42 (by decide +kernel), rfl⟩
theorem dX4_hold_1 : Dc mX4_hold 1 (.getfield 18) 3 4 := ⟨zo_180 (w := 0) (x := 18) (by decide +kernel), rfl⟩
theorem dX4_hold_4 : Dc mX4_hold 4 (.ifCond .ne 40) 3 7 := ⟨zo_154 (w := 0) (x := 40) (by decide +kernel), rfl⟩
theorem dX4_hold_7 : Dc mX4_hold 7 (.aload_n 0) 1 8 := ⟨zo_42 (by decide +kernel), rfl⟩
theorem dX4_hold_8 : Dc mX4_hold 8 (.getfield 32) 3 11 := ⟨zo_180 (w := 0) (x := 32) (by decide +kernel), rfl⟩
theorem dX4_hold_11 : Dc mX4_hold 11 (.aload_n 0) 1 12 := ⟨zo_42 (by decide +kernel), rfl⟩
theorem dX4_hold_12 : Dc mX4_hold 12 (.getfield 39) 3 15 := ⟨zo_180 (w := 0) (x := 39) (by decide +kernel), rfl⟩
theorem dX4_hold_15 : Dc mX4_hold 15 (.iload_n 1) 1 16 := ⟨zo_27 (by decide +kernel), rfl⟩
theorem dX4_hold_16 : Dc mX4_hold 16 (.invokestatic 154) 3 19 := ⟨zo_184 (w := 0) (x := 154) (by decide +kernel), rfl⟩
theorem dX4_hold_19 : Dc mX4_hold 19 (.aload_n 0) 1 20 := ⟨zo_42 (by decide +kernel), rfl⟩
theorem dX4_hold_20 : Dc mX4_hold 20 (.getfield 36) 3 23 := ⟨zo_180 (w := 0) (x := 36) (by decide +kernel), rfl⟩
theorem dX4_hold_23 : Dc mX4_hold 23 (.aload_n 0) 1 24 := ⟨zo_42 (by decide +kernel), rfl⟩
theorem dX4_hold_24 : Dc mX4_hold 24 (.getfield 39) 3 27 := ⟨zo_180 (w := 0) (x := 39) (by decide +kernel), rfl⟩
theorem dX4_hold_27 : Dc mX4_hold 27 (.iload_n 1) 1 28 := ⟨zo_27 (by decide +kernel), rfl⟩
theorem dX4_hold_28 : Dc mX4_hold 28 (.invokestatic 216) 3 31 := ⟨zo_184 (w := 0) (x := 216) (by decide +kernel), rfl⟩
theorem dX4_hold_31 : Dc mX4_hold 31 (.invokestatic 154) 3 34 := ⟨zo_184 (w := 0) (x := 154) (by decide +kernel), rfl⟩
theorem dX4_hold_34 : Dc mX4_hold 34 (.aload_n 0) 1 35 := ⟨zo_42 (by decide +kernel), rfl⟩
theorem dX4_hold_35 : Dc mX4_hold 35 (.dup) 1 36 := ⟨zo_89 (by decide +kernel), rfl⟩
theorem dX4_hold_36 : Dc mX4_hold 36 (.getfield 39) 3 39 := ⟨zo_180 (w := 0) (x := 39) (by decide +kernel), rfl⟩
theorem dX4_hold_39 : Dc mX4_hold 39 (.iconst 1) 1 40 := ⟨zo_4 (by decide +kernel), rfl⟩
theorem dX4_hold_40 : Dc mX4_hold 40 (.iadd) 1 41 := ⟨zo_96 (by decide +kernel), rfl⟩
theorem dX4_hold_41 : Dc mX4_hold 41 (.putfield 39) 3 44 := ⟨zo_181 (w := 0) (x := 39) (by decide +kernel), rfl⟩
theorem dX4_hold_44 : Dc mX4_hold 44 (.return_) 1 45 := ⟨zo_177 (by decide +kernel), rfl⟩
theorem dX4_join_0 : Dc mX4_join 0 (.aload_n 0) 1 1 := ⟨zo_42 (by decide +kernel), rfl⟩
theorem dX4_join_1 : Dc mX4_join 1 (.getfield 39) 3 4 := ⟨zo_180 (w := 0) (x := 39) (by decide +kernel), rfl⟩
theorem dX4_join_4 : Dc mX4_join 4 (.istore_n 3) 1 5 := ⟨zo_62 (by decide +kernel), rfl⟩
theorem dX4_join_5 : Dc mX4_join 5 (.iload_n 3) 1 6 := ⟨zo_29 (by decide +kernel), rfl⟩
theorem dX4_join_6 : Dc mX4_join 6 (.ifCond .le 45) 3 9 := ⟨zo_158 (w := 0) (x := 45) (by decide +kernel), rfl⟩
theorem dX4_join_9 : Dc mX4_join 9 (.aload_n 0) 1 10 := ⟨zo_42 (by decide +kernel), rfl⟩
theorem dX4_join_10 : Dc mX4_join 10 (.invokevirtual 212) 3 13 := ⟨zo_182 (w := 0) (x := 212) (by decide +kernel), rfl⟩
theorem dX4_join_13 : Dc mX4_join 13 (.iload_n 2) 1 14 := ⟨zo_28 (by decide +kernel), rfl⟩
theorem dX4_join_14 : Dc mX4_join 14 (.if_icmp .lt 37) 3 17 := ⟨zo_161 (w := 0) (x := 37) (by decide +kernel), rfl⟩
theorem dX4_join_17 : Dc mX4_join 17 (.aload_n 1) 1 18 := ⟨zo_43 (by decide +kernel), rfl⟩
theorem dX4_join_18 : Dc mX4_join 18 (.aload_n 0) 1 19 := ⟨zo_42 (by decide +kernel), rfl⟩
theorem dX4_join_19 : Dc mX4_join 19 (.getfield 32) 3 22 := ⟨zo_180 (w := 0) (x := 32) (by decide +kernel), rfl⟩
theorem dX4_join_22 : Dc mX4_join 22 (.aload_n 0) 1 23 := ⟨zo_42 (by decide +kernel), rfl⟩
theorem dX4_join_23 : Dc mX4_join 23 (.getfield 39) 3 26 := ⟨zo_180 (w := 0) (x := 39) (by decide +kernel), rfl⟩
theorem dX4_join_26 : Dc mX4_join 26 (.iconst 1) 1 27 := ⟨zo_4 (by decide +kernel), rfl⟩
theorem dX4_join_27 : Dc mX4_join 27 (.isub) 1 28 := ⟨zo_100 (by decide +kernel), rfl⟩
theorem dX4_join_28 : Dc mX4_join 28 (.invokestatic 147) 3 31 := ⟨zo_184 (w := 0) (x := 147) (by decide +kernel), rfl⟩
theorem dX4_join_31 : Dc mX4_join 31 (.iconst 0) 1 32 := ⟨zo_3 (by decide +kernel), rfl⟩
theorem dX4_join_32 : Dc mX4_join 32 (.invokevirtual 206) 3 35 := ⟨zo_182 (w := 0) (x := 206) (by decide +kernel), rfl⟩
theorem dX4_join_35 : Dc mX4_join 35 (.aload_n 0) 1 36 := ⟨zo_42 (by decide +kernel), rfl⟩
theorem dX4_join_36 : Dc mX4_join 36 (.dup) 1 37 := ⟨zo_89 (by decide +kernel), rfl⟩
theorem dX4_join_37 : Dc mX4_join 37 (.getfield 39) 3 40 := ⟨zo_180 (w := 0) (x := 39) (by decide +kernel), rfl⟩
theorem dX4_join_40 : Dc mX4_join 40 (.iconst 1) 1 41 := ⟨zo_4 (by decide +kernel), rfl⟩
theorem dX4_join_41 : Dc mX4_join 41 (.isub) 1 42 := ⟨zo_100 (by decide +kernel), rfl⟩
theorem dX4_join_42 : Dc mX4_join 42 (.putfield 39) 3 45 := ⟨zo_181 (w := 0) (x := 39) (by decide +kernel), rfl⟩
theorem dX4_join_45 : Dc mX4_join 45 (.iinc 3 (-1)) 3 48 := ⟨zo_iinc (x := 255) (by decide +kernel), rfl⟩
theorem dX4_join_48 : Dc mX4_join 48 (.goto (-43)) 3 51 := ⟨zo_167 (w := 255) (x := 213) (by decide +kernel), rfl⟩
theorem dX4_join_51 : Dc mX4_join 51 (.return_) 1 52 := ⟨zo_177 (by decide +kernel), rfl⟩
theorem dX4_topRank_0 : Dc mX4_topRank 0 (.aload_n 0) 1 1 := ⟨zo_42 (by decide +kernel), rfl⟩
theorem dX4_topRank_1 : Dc mX4_topRank 1 (.getfield 39) 3 4 := ⟨zo_180 (w := 0) (x := 39) (by decide +kernel), rfl⟩
theorem dX4_topRank_4 : Dc mX4_topRank 4 (.ifCond .le 29) 3 7 := ⟨zo_158 (w := 0) (x := 29) (by decide +kernel), rfl⟩
theorem dX4_topRank_7 : Dc mX4_topRank 7 (.aload_n 0) 1 8 := ⟨zo_42 (by decide +kernel), rfl⟩
theorem dX4_topRank_8 : Dc mX4_topRank 8 (.getfield 39) 3 11 := ⟨zo_180 (w := 0) (x := 39) (by decide +kernel), rfl⟩
theorem dX4_topRank_11 : Dc mX4_topRank 11 (.aload_n 0) 1 12 := ⟨zo_42 (by decide +kernel), rfl⟩
theorem dX4_topRank_12 : Dc mX4_topRank 12 (.getfield 36) 3 15 := ⟨zo_180 (w := 0) (x := 36) (by decide +kernel), rfl⟩
theorem dX4_topRank_15 : Dc mX4_topRank 15 (.arraylength) 1 16 := ⟨zo_190 (by decide +kernel), rfl⟩
theorem dX4_topRank_16 : Dc mX4_topRank 16 (.if_icmp .gt 17) 3 19 := ⟨zo_163 (w := 0) (x := 17) (by decide +kernel), rfl⟩
theorem dX4_topRank_19 : Dc mX4_topRank 19 (.aload_n 0) 1 20 := ⟨zo_42 (by decide +kernel), rfl⟩
theorem dX4_topRank_20 : Dc mX4_topRank 20 (.getfield 36) 3 23 := ⟨zo_180 (w := 0) (x := 36) (by decide +kernel), rfl⟩
theorem dX4_topRank_23 : Dc mX4_topRank 23 (.aload_n 0) 1 24 := ⟨zo_42 (by decide +kernel), rfl⟩
theorem dX4_topRank_24 : Dc mX4_topRank 24 (.getfield 39) 3 27 := ⟨zo_180 (w := 0) (x := 39) (by decide +kernel), rfl⟩
theorem dX4_topRank_27 : Dc mX4_topRank 27 (.iconst 1) 1 28 := ⟨zo_4 (by decide +kernel), rfl⟩
theorem dX4_topRank_28 : Dc mX4_topRank 28 (.isub) 1 29 := ⟨zo_100 (by decide +kernel), rfl⟩
theorem dX4_topRank_29 : Dc mX4_topRank 29 (.iaload) 1 30 := ⟨zo_46 (by decide +kernel), rfl⟩
theorem dX4_topRank_30 : Dc mX4_topRank 30 (.goto 4) 3 33 := ⟨zo_167 (w := 0) (x := 4) (by decide +kernel), rfl⟩
theorem dX4_topRank_33 : Dc mX4_topRank 33 (.iconst 0) 1 34 := ⟨zo_3 (by decide +kernel), rfl⟩
theorem dX4_topRank_34 : Dc mX4_topRank 34 (.ireturn) 1 35 := ⟨zo_172 (by decide +kernel), rfl⟩
theorem dX4_rank_0 : Dc mX4_rank 0 (.iload_n 0) 1 1 := ⟨zo_26 (by decide +kernel), rfl⟩
theorem dX4_rank_1 : Dc mX4_rank 1 (.tableswitch 144 7 35 #[139, 139, 141, 141, 137, 137, 137, 137, 137, 137, 144, 144, 144, 144, 144, 144, 144, 144, 144, 144, 144, 144, 144, 144, 144, 144, 131, 133, 135]) 131 132 := ⟨by decide +kernel, rfl⟩
theorem dX4_rank_132 : Dc mX4_rank 132 (.iconst 1) 1 133 := ⟨zo_4 (by decide +kernel), rfl⟩
theorem dX4_rank_133 : Dc mX4_rank 133 (.ireturn) 1 134 := ⟨zo_172 (by decide +kernel), rfl⟩
theorem dX4_rank_134 : Dc mX4_rank 134 (.iconst 2) 1 135 := ⟨zo_5 (by decide +kernel), rfl⟩
theorem dX4_rank_135 : Dc mX4_rank 135 (.ireturn) 1 136 := ⟨zo_172 (by decide +kernel), rfl⟩
theorem dX4_rank_136 : Dc mX4_rank 136 (.iconst 3) 1 137 := ⟨zo_6 (by decide +kernel), rfl⟩
theorem dX4_rank_137 : Dc mX4_rank 137 (.ireturn) 1 138 := ⟨zo_172 (by decide +kernel), rfl⟩
theorem dX4_rank_138 : Dc mX4_rank 138 (.iconst 4) 1 139 := ⟨zo_7 (by decide +kernel), rfl⟩
theorem dX4_rank_139 : Dc mX4_rank 139 (.ireturn) 1 140 := ⟨zo_172 (by decide +kernel), rfl⟩
theorem dX4_rank_140 : Dc mX4_rank 140 (.iconst 5) 1 141 := ⟨zo_8 (by decide +kernel), rfl⟩
theorem dX4_rank_141 : Dc mX4_rank 141 (.ireturn) 1 142 := ⟨zo_172 (by decide +kernel), rfl⟩
theorem dX4_rank_142 : Dc mX4_rank 142 (.bipush 6) 2 144 := ⟨zo_16 (w := 6) (by decide +kernel), rfl⟩
theorem dX4_rank_144 : Dc mX4_rank 144 (.ireturn) 1 145 := ⟨zo_172 (by decide +kernel), rfl⟩
theorem dX4_rank_145 : Dc mX4_rank 145 (.iconst 0) 1 146 := ⟨zo_3 (by decide +kernel), rfl⟩
theorem dX4_rank_146 : Dc mX4_rank 146 (.ireturn) 1 147 := ⟨zo_172 (by decide +kernel), rfl⟩
theorem dX5_init_0 : Dc mX5_init 0 (.aload_n 0) 1 1 := ⟨zo_42 (by decide +kernel), rfl⟩
theorem dX5_init_1 : Dc mX5_init 1 (.invokespecial 3) 3 4 := ⟨zo_183 (w := 0) (x := 3) (by decide +kernel), rfl⟩
theorem dX5_init_4 : Dc mX5_init 4 (.aload_n 0) 1 5 := ⟨zo_42 (by decide +kernel), rfl⟩
theorem dX5_init_5 : Dc mX5_init 5 (.iconst 0) 1 6 := ⟨zo_3 (by decide +kernel), rfl⟩
theorem dX5_init_6 : Dc mX5_init 6 (.putfield 9) 3 9 := ⟨zo_181 (w := 0) (x := 9) (by decide +kernel), rfl⟩
theorem dX5_init_9 : Dc mX5_init 9 (.aload_n 0) 1 10 := ⟨zo_42 (by decide +kernel), rfl⟩
theorem dX5_init_10 : Dc mX5_init 10 (.iconst 0) 1 11 := ⟨zo_3 (by decide +kernel), rfl⟩
theorem dX5_init_11 : Dc mX5_init 11 (.putfield 15) 3 14 := ⟨zo_181 (w := 0) (x := 15) (by decide +kernel), rfl⟩
theorem dX5_init_14 : Dc mX5_init 14 (.aload_n 0) 1 15 := ⟨zo_42 (by decide +kernel), rfl⟩
theorem dX5_init_15 : Dc mX5_init 15 (.iconst 0) 1 16 := ⟨zo_3 (by decide +kernel), rfl⟩
theorem dX5_init_16 : Dc mX5_init 16 (.putfield 18) 3 19 := ⟨zo_181 (w := 0) (x := 18) (by decide +kernel), rfl⟩
theorem dX5_init_19 : Dc mX5_init 19 (.aload_n 0) 1 20 := ⟨zo_42 (by decide +kernel), rfl⟩
theorem dX5_init_20 : Dc mX5_init 20 (.iconst 0) 1 21 := ⟨zo_3 (by decide +kernel), rfl⟩
theorem dX5_init_21 : Dc mX5_init 21 (.putfield 21) 3 24 := ⟨zo_181 (w := 0) (x := 21) (by decide +kernel), rfl⟩
theorem dX5_init_24 : Dc mX5_init 24 (.aload_n 0) 1 25 := ⟨zo_42 (by decide +kernel), rfl⟩
theorem dX5_init_25 : Dc mX5_init 25 (.iconst 0) 1 26 := ⟨zo_3 (by decide +kernel), rfl⟩
theorem dX5_init_26 : Dc mX5_init 26 (.putfield 24) 3 29 := ⟨zo_181 (w := 0) (x := 24) (by decide +kernel), rfl⟩
theorem dX5_init_29 : Dc mX5_init 29 (.aload_n 0) 1 30 := ⟨zo_42 (by decide +kernel), rfl⟩
theorem dX5_init_30 : Dc mX5_init 30 (.iconst 0) 1 31 := ⟨zo_3 (by decide +kernel), rfl⟩
theorem dX5_init_31 : Dc mX5_init 31 (.putfield 27) 3 34 := ⟨zo_181 (w := 0) (x := 27) (by decide +kernel), rfl⟩
theorem dX5_init_34 : Dc mX5_init 34 (.aload_n 0) 1 35 := ⟨zo_42 (by decide +kernel), rfl⟩
theorem dX5_init_35 : Dc mX5_init 35 (.lconst 0) 1 36 := ⟨zo_9 (by decide +kernel), rfl⟩
theorem dX5_init_36 : Dc mX5_init 36 (.putfield 30) 3 39 := ⟨zo_181 (w := 0) (x := 30) (by decide +kernel), rfl⟩
theorem dX5_init_39 : Dc mX5_init 39 (.aload_n 0) 1 40 := ⟨zo_42 (by decide +kernel), rfl⟩
theorem dX5_init_40 : Dc mX5_init 40 (.bipush 8) 2 42 := ⟨zo_16 (w := 8) (by decide +kernel), rfl⟩
theorem dX5_init_42 : Dc mX5_init 42 (.newarray .int) 2 44 := ⟨by decide +kernel, rfl⟩
theorem dX5_init_44 : Dc mX5_init 44 (.putfield 34) 3 47 := ⟨zo_181 (w := 0) (x := 34) (by decide +kernel), rfl⟩
theorem dX5_init_47 : Dc mX5_init 47 (.aload_n 0) 1 48 := ⟨zo_42 (by decide +kernel), rfl⟩
theorem dX5_init_48 : Dc mX5_init 48 (.bipush 8) 2 50 := ⟨zo_16 (w := 8) (by decide +kernel), rfl⟩
theorem dX5_init_50 : Dc mX5_init 50 (.newarray .int) 2 52 := ⟨by decide +kernel, rfl⟩
theorem dX5_init_52 : Dc mX5_init 52 (.putfield 38) 3 55 := ⟨zo_181 (w := 0) (x := 38) (by decide +kernel), rfl⟩
theorem dX5_init_55 : Dc mX5_init 55 (.aload_n 0) 1 56 := ⟨zo_42 (by decide +kernel), rfl⟩
theorem dX5_init_56 : Dc mX5_init 56 (.bipush 8) 2 58 := ⟨zo_16 (w := 8) (by decide +kernel), rfl⟩
theorem dX5_init_58 : Dc mX5_init 58 (.newarray .int) 2 60 := ⟨by decide +kernel, rfl⟩
theorem dX5_init_60 : Dc mX5_init 60 (.putfield 41) 3 63 := ⟨zo_181 (w := 0) (x := 41) (by decide +kernel), rfl⟩
theorem dX5_init_63 : Dc mX5_init 63 (.aload_n 0) 1 64 := ⟨zo_42 (by decide +kernel), rfl⟩
theorem dX5_init_64 : Dc mX5_init 64 (.bipush 48) 2 66 := ⟨zo_16 (w := 48) (by decide +kernel), rfl⟩
theorem dX5_init_66 : Dc mX5_init 66 (.newarray .int) 2 68 := ⟨by decide +kernel, rfl⟩
theorem dX5_init_68 : Dc mX5_init 68 (.putfield 44) 3 71 := ⟨zo_181 (w := 0) (x := 44) (by decide +kernel), rfl⟩
theorem dX5_init_71 : Dc mX5_init 71 (.aload_n 0) 1 72 := ⟨zo_42 (by decide +kernel), rfl⟩
theorem dX5_init_72 : Dc mX5_init 72 (.bipush 6) 2 74 := ⟨zo_16 (w := 6) (by decide +kernel), rfl⟩
theorem dX5_init_74 : Dc mX5_init 74 (.newarray .int) 2 76 := ⟨by decide +kernel, rfl⟩
theorem dX5_init_76 : Dc mX5_init 76 (.putfield 47) 3 79 := ⟨zo_181 (w := 0) (x := 47) (by decide +kernel), rfl⟩
theorem dX5_init_79 : Dc mX5_init 79 (.aload_n 0) 1 80 := ⟨zo_42 (by decide +kernel), rfl⟩
theorem dX5_init_80 : Dc mX5_init 80 (.bipush 6) 2 82 := ⟨zo_16 (w := 6) (by decide +kernel), rfl⟩
theorem dX5_init_82 : Dc mX5_init 82 (.newarray .int) 2 84 := ⟨by decide +kernel, rfl⟩
theorem dX5_init_84 : Dc mX5_init 84 (.putfield 50) 3 87 := ⟨zo_181 (w := 0) (x := 50) (by decide +kernel), rfl⟩
theorem dX5_init_87 : Dc mX5_init 87 (.aload_n 0) 1 88 := ⟨zo_42 (by decide +kernel), rfl⟩
theorem dX5_init_88 : Dc mX5_init 88 (.iconst 4) 1 89 := ⟨zo_7 (by decide +kernel), rfl⟩
theorem dX5_init_89 : Dc mX5_init 89 (.newarray .int) 2 91 := ⟨by decide +kernel, rfl⟩
theorem dX5_init_91 : Dc mX5_init 91 (.putfield 53) 3 94 := ⟨zo_181 (w := 0) (x := 53) (by decide +kernel), rfl⟩
theorem dX5_init_94 : Dc mX5_init 94 (.aload_n 0) 1 95 := ⟨zo_42 (by decide +kernel), rfl⟩
theorem dX5_init_95 : Dc mX5_init 95 (.iconst 4) 1 96 := ⟨zo_7 (by decide +kernel), rfl⟩
theorem dX5_init_96 : Dc mX5_init 96 (.newarray .int) 2 98 := ⟨by decide +kernel, rfl⟩
theorem dX5_init_98 : Dc mX5_init 98 (.putfield 56) 3 101 := ⟨zo_181 (w := 0) (x := 56) (by decide +kernel), rfl⟩
theorem dX5_init_101 : Dc mX5_init 101 (.return_) 1 102 := ⟨zo_177 (by decide +kernel), rfl⟩
theorem dX5_open_0 : Dc mX5_open 0 (.aload_n 0) 1 1 := ⟨zo_42 (by decide +kernel), rfl⟩
theorem dX5_open_1 : Dc mX5_open 1 (.iconst 0) 1 2 := ⟨zo_3 (by decide +kernel), rfl⟩
theorem dX5_open_2 : Dc mX5_open 2 (.putfield 9) 3 5 := ⟨zo_181 (w := 0) (x := 9) (by decide +kernel), rfl⟩
theorem dX5_open_5 : Dc mX5_open 5 (.aload_n 0) 1 6 := ⟨zo_42 (by decide +kernel), rfl⟩
theorem dX5_open_6 : Dc mX5_open 6 (.aload_n 1) 1 7 := ⟨zo_43 (by decide +kernel), rfl⟩
theorem dX5_open_7 : Dc mX5_open 7 (.getfield 59) 3 10 := ⟨zo_180 (w := 0) (x := 59) (by decide +kernel), rfl⟩
theorem dX5_open_10 : Dc mX5_open 10 (.putfield 15) 3 13 := ⟨zo_181 (w := 0) (x := 15) (by decide +kernel), rfl⟩
theorem dX5_open_13 : Dc mX5_open 13 (.aload_n 0) 1 14 := ⟨zo_42 (by decide +kernel), rfl⟩
theorem dX5_open_14 : Dc mX5_open 14 (.iconst 0) 1 15 := ⟨zo_3 (by decide +kernel), rfl⟩
theorem dX5_open_15 : Dc mX5_open 15 (.putfield 18) 3 18 := ⟨zo_181 (w := 0) (x := 18) (by decide +kernel), rfl⟩
theorem dX5_open_18 : Dc mX5_open 18 (.aload_n 0) 1 19 := ⟨zo_42 (by decide +kernel), rfl⟩
theorem dX5_open_19 : Dc mX5_open 19 (.iconst 0) 1 20 := ⟨zo_3 (by decide +kernel), rfl⟩
theorem dX5_open_20 : Dc mX5_open 20 (.putfield 21) 3 23 := ⟨zo_181 (w := 0) (x := 21) (by decide +kernel), rfl⟩
theorem dX5_open_23 : Dc mX5_open 23 (.aload_n 0) 1 24 := ⟨zo_42 (by decide +kernel), rfl⟩
theorem dX5_open_24 : Dc mX5_open 24 (.iconst 0) 1 25 := ⟨zo_3 (by decide +kernel), rfl⟩
theorem dX5_open_25 : Dc mX5_open 25 (.putfield 24) 3 28 := ⟨zo_181 (w := 0) (x := 24) (by decide +kernel), rfl⟩
theorem dX5_open_28 : Dc mX5_open 28 (.aload_n 0) 1 29 := ⟨zo_42 (by decide +kernel), rfl⟩
theorem dX5_open_29 : Dc mX5_open 29 (.iconst 0) 1 30 := ⟨zo_3 (by decide +kernel), rfl⟩
theorem dX5_open_30 : Dc mX5_open 30 (.putfield 27) 3 33 := ⟨zo_181 (w := 0) (x := 27) (by decide +kernel), rfl⟩
theorem dX5_open_33 : Dc mX5_open 33 (.aload_n 0) 1 34 := ⟨zo_42 (by decide +kernel), rfl⟩
theorem dX5_open_34 : Dc mX5_open 34 (.aload_n 1) 1 35 := ⟨zo_43 (by decide +kernel), rfl⟩
theorem dX5_open_35 : Dc mX5_open 35 (.getfield 62) 3 38 := ⟨zo_180 (w := 0) (x := 62) (by decide +kernel), rfl⟩
theorem dX5_open_38 : Dc mX5_open 38 (.i2l) 1 39 := ⟨zo_133 (by decide +kernel), rfl⟩
theorem dX5_open_39 : Dc mX5_open 39 (.putfield 30) 3 42 := ⟨zo_181 (w := 0) (x := 30) (by decide +kernel), rfl⟩
theorem dX5_open_42 : Dc mX5_open 42 (.aload_n 1) 1 43 := ⟨zo_43 (by decide +kernel), rfl⟩
theorem dX5_open_43 : Dc mX5_open 43 (.getfield 65) 3 46 := ⟨zo_180 (w := 0) (x := 65) (by decide +kernel), rfl⟩
theorem dX5_open_46 : Dc mX5_open 46 (.getfield 69) 3 49 := ⟨zo_180 (w := 0) (x := 69) (by decide +kernel), rfl⟩
theorem dX5_open_49 : Dc mX5_open 49 (.aload_n 0) 1 50 := ⟨zo_42 (by decide +kernel), rfl⟩
theorem dX5_open_50 : Dc mX5_open 50 (.getfield 34) 3 53 := ⟨zo_180 (w := 0) (x := 34) (by decide +kernel), rfl⟩
theorem dX5_open_53 : Dc mX5_open 53 (.invokestatic 74) 3 56 := ⟨zo_184 (w := 0) (x := 74) (by decide +kernel), rfl⟩
theorem dX5_open_56 : Dc mX5_open 56 (.aload_n 0) 1 57 := ⟨zo_42 (by decide +kernel), rfl⟩
theorem dX5_open_57 : Dc mX5_open 57 (.getfield 38) 3 60 := ⟨zo_180 (w := 0) (x := 38) (by decide +kernel), rfl⟩
theorem dX5_open_60 : Dc mX5_open 60 (.iconst 0) 1 61 := ⟨zo_3 (by decide +kernel), rfl⟩
theorem dX5_open_61 : Dc mX5_open 61 (.invokestatic 78) 3 64 := ⟨zo_184 (w := 0) (x := 78) (by decide +kernel), rfl⟩
theorem dX5_open_64 : Dc mX5_open 64 (.aload_n 0) 1 65 := ⟨zo_42 (by decide +kernel), rfl⟩
theorem dX5_open_65 : Dc mX5_open 65 (.getfield 41) 3 68 := ⟨zo_180 (w := 0) (x := 41) (by decide +kernel), rfl⟩
theorem dX5_open_68 : Dc mX5_open 68 (.iconst 0) 1 69 := ⟨zo_3 (by decide +kernel), rfl⟩
theorem dX5_open_69 : Dc mX5_open 69 (.invokestatic 78) 3 72 := ⟨zo_184 (w := 0) (x := 78) (by decide +kernel), rfl⟩
theorem dX5_open_72 : Dc mX5_open 72 (.aload_n 1) 1 73 := ⟨zo_43 (by decide +kernel), rfl⟩
theorem dX5_open_73 : Dc mX5_open 73 (.getfield 82) 3 76 := ⟨zo_180 (w := 0) (x := 82) (by decide +kernel), rfl⟩
theorem dX5_open_76 : Dc mX5_open 76 (.aload_n 0) 1 77 := ⟨zo_42 (by decide +kernel), rfl⟩
theorem dX5_open_77 : Dc mX5_open 77 (.getfield 44) 3 80 := ⟨zo_180 (w := 0) (x := 44) (by decide +kernel), rfl⟩
theorem dX5_open_80 : Dc mX5_open 80 (.invokestatic 74) 3 83 := ⟨zo_184 (w := 0) (x := 74) (by decide +kernel), rfl⟩
theorem dX5_open_83 : Dc mX5_open 83 (.aload_n 0) 1 84 := ⟨zo_42 (by decide +kernel), rfl⟩
theorem dX5_open_84 : Dc mX5_open 84 (.getfield 47) 3 87 := ⟨zo_180 (w := 0) (x := 47) (by decide +kernel), rfl⟩
theorem dX5_open_87 : Dc mX5_open 87 (.iconst (-1)) 1 88 := ⟨zo_2 (by decide +kernel), rfl⟩
theorem dX5_open_88 : Dc mX5_open 88 (.invokestatic 78) 3 91 := ⟨zo_184 (w := 0) (x := 78) (by decide +kernel), rfl⟩
theorem dX5_open_91 : Dc mX5_open 91 (.aload_n 0) 1 92 := ⟨zo_42 (by decide +kernel), rfl⟩
theorem dX5_open_92 : Dc mX5_open 92 (.getfield 50) 3 95 := ⟨zo_180 (w := 0) (x := 50) (by decide +kernel), rfl⟩
theorem dX5_open_95 : Dc mX5_open 95 (.iconst 0) 1 96 := ⟨zo_3 (by decide +kernel), rfl⟩
theorem dX5_open_96 : Dc mX5_open 96 (.invokestatic 78) 3 99 := ⟨zo_184 (w := 0) (x := 78) (by decide +kernel), rfl⟩
theorem dX5_open_99 : Dc mX5_open 99 (.aload_n 1) 1 100 := ⟨zo_43 (by decide +kernel), rfl⟩
theorem dX5_open_100 : Dc mX5_open 100 (.getfield 83) 3 103 := ⟨zo_180 (w := 0) (x := 83) (by decide +kernel), rfl⟩
theorem dX5_open_103 : Dc mX5_open 103 (.getfield 86) 3 106 := ⟨zo_180 (w := 0) (x := 86) (by decide +kernel), rfl⟩
theorem dX5_open_106 : Dc mX5_open 106 (.aload_n 0) 1 107 := ⟨zo_42 (by decide +kernel), rfl⟩
theorem dX5_open_107 : Dc mX5_open 107 (.getfield 53) 3 110 := ⟨zo_180 (w := 0) (x := 53) (by decide +kernel), rfl⟩
theorem dX5_open_110 : Dc mX5_open 110 (.invokestatic 74) 3 113 := ⟨zo_184 (w := 0) (x := 74) (by decide +kernel), rfl⟩
theorem dX5_open_113 : Dc mX5_open 113 (.aload_n 0) 1 114 := ⟨zo_42 (by decide +kernel), rfl⟩
theorem dX5_open_114 : Dc mX5_open 114 (.getfield 56) 3 117 := ⟨zo_180 (w := 0) (x := 56) (by decide +kernel), rfl⟩
theorem dX5_open_117 : Dc mX5_open 117 (.iconst 0) 1 118 := ⟨zo_3 (by decide +kernel), rfl⟩
theorem dX5_open_118 : Dc mX5_open 118 (.invokestatic 78) 3 121 := ⟨zo_184 (w := 0) (x := 78) (by decide +kernel), rfl⟩
theorem dX5_open_121 : Dc mX5_open 121 (.return_) 1 122 := ⟨zo_177 (by decide +kernel), rfl⟩
theorem dX5_copy_0 : Dc mX5_copy 0 (.aload_n 0) 1 1 := ⟨zo_42 (by decide +kernel), rfl⟩
theorem dX5_copy_1 : Dc mX5_copy 1 (.aload_n 1) 1 2 := ⟨zo_43 (by decide +kernel), rfl⟩
theorem dX5_copy_2 : Dc mX5_copy 2 (.getfield 9) 3 5 := ⟨zo_180 (w := 0) (x := 9) (by decide +kernel), rfl⟩
theorem dX5_copy_5 : Dc mX5_copy 5 (.putfield 9) 3 8 := ⟨zo_181 (w := 0) (x := 9) (by decide +kernel), rfl⟩
theorem dX5_copy_8 : Dc mX5_copy 8 (.aload_n 0) 1 9 := ⟨zo_42 (by decide +kernel), rfl⟩
theorem dX5_copy_9 : Dc mX5_copy 9 (.aload_n 1) 1 10 := ⟨zo_43 (by decide +kernel), rfl⟩
theorem dX5_copy_10 : Dc mX5_copy 10 (.getfield 15) 3 13 := ⟨zo_180 (w := 0) (x := 15) (by decide +kernel), rfl⟩
theorem dX5_copy_13 : Dc mX5_copy 13 (.putfield 15) 3 16 := ⟨zo_181 (w := 0) (x := 15) (by decide +kernel), rfl⟩
theorem dX5_copy_16 : Dc mX5_copy 16 (.aload_n 0) 1 17 := ⟨zo_42 (by decide +kernel), rfl⟩
theorem dX5_copy_17 : Dc mX5_copy 17 (.aload_n 1) 1 18 := ⟨zo_43 (by decide +kernel), rfl⟩
theorem dX5_copy_18 : Dc mX5_copy 18 (.getfield 18) 3 21 := ⟨zo_180 (w := 0) (x := 18) (by decide +kernel), rfl⟩
theorem dX5_copy_21 : Dc mX5_copy 21 (.putfield 18) 3 24 := ⟨zo_181 (w := 0) (x := 18) (by decide +kernel), rfl⟩
theorem dX5_copy_24 : Dc mX5_copy 24 (.aload_n 0) 1 25 := ⟨zo_42 (by decide +kernel), rfl⟩
theorem dX5_copy_25 : Dc mX5_copy 25 (.aload_n 1) 1 26 := ⟨zo_43 (by decide +kernel), rfl⟩
theorem dX5_copy_26 : Dc mX5_copy 26 (.getfield 21) 3 29 := ⟨zo_180 (w := 0) (x := 21) (by decide +kernel), rfl⟩
theorem dX5_copy_29 : Dc mX5_copy 29 (.putfield 21) 3 32 := ⟨zo_181 (w := 0) (x := 21) (by decide +kernel), rfl⟩
theorem dX5_copy_32 : Dc mX5_copy 32 (.aload_n 0) 1 33 := ⟨zo_42 (by decide +kernel), rfl⟩
theorem dX5_copy_33 : Dc mX5_copy 33 (.aload_n 1) 1 34 := ⟨zo_43 (by decide +kernel), rfl⟩
theorem dX5_copy_34 : Dc mX5_copy 34 (.getfield 24) 3 37 := ⟨zo_180 (w := 0) (x := 24) (by decide +kernel), rfl⟩
theorem dX5_copy_37 : Dc mX5_copy 37 (.putfield 24) 3 40 := ⟨zo_181 (w := 0) (x := 24) (by decide +kernel), rfl⟩
theorem dX5_copy_40 : Dc mX5_copy 40 (.aload_n 0) 1 41 := ⟨zo_42 (by decide +kernel), rfl⟩
theorem dX5_copy_41 : Dc mX5_copy 41 (.aload_n 1) 1 42 := ⟨zo_43 (by decide +kernel), rfl⟩
theorem dX5_copy_42 : Dc mX5_copy 42 (.getfield 27) 3 45 := ⟨zo_180 (w := 0) (x := 27) (by decide +kernel), rfl⟩
theorem dX5_copy_45 : Dc mX5_copy 45 (.putfield 27) 3 48 := ⟨zo_181 (w := 0) (x := 27) (by decide +kernel), rfl⟩
theorem dX5_copy_48 : Dc mX5_copy 48 (.aload_n 0) 1 49 := ⟨zo_42 (by decide +kernel), rfl⟩
theorem dX5_copy_49 : Dc mX5_copy 49 (.aload_n 1) 1 50 := ⟨zo_43 (by decide +kernel), rfl⟩
theorem dX5_copy_50 : Dc mX5_copy 50 (.getfield 30) 3 53 := ⟨zo_180 (w := 0) (x := 30) (by decide +kernel), rfl⟩
theorem dX5_copy_53 : Dc mX5_copy 53 (.putfield 30) 3 56 := ⟨zo_181 (w := 0) (x := 30) (by decide +kernel), rfl⟩
theorem dX5_copy_56 : Dc mX5_copy 56 (.aload_n 1) 1 57 := ⟨zo_43 (by decide +kernel), rfl⟩
theorem dX5_copy_57 : Dc mX5_copy 57 (.getfield 34) 3 60 := ⟨zo_180 (w := 0) (x := 34) (by decide +kernel), rfl⟩
theorem dX5_copy_60 : Dc mX5_copy 60 (.aload_n 0) 1 61 := ⟨zo_42 (by decide +kernel), rfl⟩
theorem dX5_copy_61 : Dc mX5_copy 61 (.getfield 34) 3 64 := ⟨zo_180 (w := 0) (x := 34) (by decide +kernel), rfl⟩
theorem dX5_copy_64 : Dc mX5_copy 64 (.invokestatic 74) 3 67 := ⟨zo_184 (w := 0) (x := 74) (by decide +kernel), rfl⟩
theorem dX5_copy_67 : Dc mX5_copy 67 (.aload_n 1) 1 68 := ⟨zo_43 (by decide +kernel), rfl⟩
theorem dX5_copy_68 : Dc mX5_copy 68 (.getfield 38) 3 71 := ⟨zo_180 (w := 0) (x := 38) (by decide +kernel), rfl⟩
theorem dX5_copy_71 : Dc mX5_copy 71 (.aload_n 0) 1 72 := ⟨zo_42 (by decide +kernel), rfl⟩
theorem dX5_copy_72 : Dc mX5_copy 72 (.getfield 38) 3 75 := ⟨zo_180 (w := 0) (x := 38) (by decide +kernel), rfl⟩
theorem dX5_copy_75 : Dc mX5_copy 75 (.invokestatic 74) 3 78 := ⟨zo_184 (w := 0) (x := 74) (by decide +kernel), rfl⟩
theorem dX5_copy_78 : Dc mX5_copy 78 (.aload_n 1) 1 79 := ⟨zo_43 (by decide +kernel), rfl⟩
theorem dX5_copy_79 : Dc mX5_copy 79 (.getfield 41) 3 82 := ⟨zo_180 (w := 0) (x := 41) (by decide +kernel), rfl⟩
theorem dX5_copy_82 : Dc mX5_copy 82 (.aload_n 0) 1 83 := ⟨zo_42 (by decide +kernel), rfl⟩
theorem dX5_copy_83 : Dc mX5_copy 83 (.getfield 41) 3 86 := ⟨zo_180 (w := 0) (x := 41) (by decide +kernel), rfl⟩
theorem dX5_copy_86 : Dc mX5_copy 86 (.invokestatic 74) 3 89 := ⟨zo_184 (w := 0) (x := 74) (by decide +kernel), rfl⟩
theorem dX5_copy_89 : Dc mX5_copy 89 (.aload_n 1) 1 90 := ⟨zo_43 (by decide +kernel), rfl⟩
theorem dX5_copy_90 : Dc mX5_copy 90 (.getfield 44) 3 93 := ⟨zo_180 (w := 0) (x := 44) (by decide +kernel), rfl⟩
theorem dX5_copy_93 : Dc mX5_copy 93 (.aload_n 0) 1 94 := ⟨zo_42 (by decide +kernel), rfl⟩
theorem dX5_copy_94 : Dc mX5_copy 94 (.getfield 44) 3 97 := ⟨zo_180 (w := 0) (x := 44) (by decide +kernel), rfl⟩
theorem dX5_copy_97 : Dc mX5_copy 97 (.invokestatic 74) 3 100 := ⟨zo_184 (w := 0) (x := 74) (by decide +kernel), rfl⟩
theorem dX5_copy_100 : Dc mX5_copy 100 (.aload_n 1) 1 101 := ⟨zo_43 (by decide +kernel), rfl⟩
theorem dX5_copy_101 : Dc mX5_copy 101 (.getfield 47) 3 104 := ⟨zo_180 (w := 0) (x := 47) (by decide +kernel), rfl⟩
theorem dX5_copy_104 : Dc mX5_copy 104 (.aload_n 0) 1 105 := ⟨zo_42 (by decide +kernel), rfl⟩
theorem dX5_copy_105 : Dc mX5_copy 105 (.getfield 47) 3 108 := ⟨zo_180 (w := 0) (x := 47) (by decide +kernel), rfl⟩
theorem dX5_copy_108 : Dc mX5_copy 108 (.invokestatic 74) 3 111 := ⟨zo_184 (w := 0) (x := 74) (by decide +kernel), rfl⟩
theorem dX5_copy_111 : Dc mX5_copy 111 (.aload_n 1) 1 112 := ⟨zo_43 (by decide +kernel), rfl⟩
theorem dX5_copy_112 : Dc mX5_copy 112 (.getfield 50) 3 115 := ⟨zo_180 (w := 0) (x := 50) (by decide +kernel), rfl⟩
theorem dX5_copy_115 : Dc mX5_copy 115 (.aload_n 0) 1 116 := ⟨zo_42 (by decide +kernel), rfl⟩
theorem dX5_copy_116 : Dc mX5_copy 116 (.getfield 50) 3 119 := ⟨zo_180 (w := 0) (x := 50) (by decide +kernel), rfl⟩
theorem dX5_copy_119 : Dc mX5_copy 119 (.invokestatic 74) 3 122 := ⟨zo_184 (w := 0) (x := 74) (by decide +kernel), rfl⟩
theorem dX5_copy_122 : Dc mX5_copy 122 (.aload_n 1) 1 123 := ⟨zo_43 (by decide +kernel), rfl⟩
theorem dX5_copy_123 : Dc mX5_copy 123 (.getfield 53) 3 126 := ⟨zo_180 (w := 0) (x := 53) (by decide +kernel), rfl⟩
theorem dX5_copy_126 : Dc mX5_copy 126 (.aload_n 0) 1 127 := ⟨zo_42 (by decide +kernel), rfl⟩
theorem dX5_copy_127 : Dc mX5_copy 127 (.getfield 53) 3 130 := ⟨zo_180 (w := 0) (x := 53) (by decide +kernel), rfl⟩
theorem dX5_copy_130 : Dc mX5_copy 130 (.invokestatic 74) 3 133 := ⟨zo_184 (w := 0) (x := 74) (by decide +kernel), rfl⟩
theorem dX5_copy_133 : Dc mX5_copy 133 (.aload_n 1) 1 134 := ⟨zo_43 (by decide +kernel), rfl⟩
theorem dX5_copy_134 : Dc mX5_copy 134 (.getfield 56) 3 137 := ⟨zo_180 (w := 0) (x := 56) (by decide +kernel), rfl⟩
theorem dX5_copy_137 : Dc mX5_copy 137 (.aload_n 0) 1 138 := ⟨zo_42 (by decide +kernel), rfl⟩
theorem dX5_copy_138 : Dc mX5_copy 138 (.getfield 56) 3 141 := ⟨zo_180 (w := 0) (x := 56) (by decide +kernel), rfl⟩
theorem dX5_copy_141 : Dc mX5_copy 141 (.invokestatic 74) 3 144 := ⟨zo_184 (w := 0) (x := 74) (by decide +kernel), rfl⟩
theorem dX5_copy_144 : Dc mX5_copy 144 (.return_) 1 145 := ⟨zo_177 (by decide +kernel), rfl⟩
theorem dX5_wayIn_0 : Dc mX5_wayIn 0 (.aload_n 0) 1 1 := ⟨zo_42 (by decide +kernel), rfl⟩
theorem dX5_wayIn_1 : Dc mX5_wayIn 1 (.getfield 44) 3 4 := ⟨zo_180 (w := 0) (x := 44) (by decide +kernel), rfl⟩
theorem dX5_wayIn_4 : Dc mX5_wayIn 4 (.iload_n 1) 1 5 := ⟨zo_27 (by decide +kernel), rfl⟩
theorem dX5_wayIn_5 : Dc mX5_wayIn 5 (.bipush 6) 2 7 := ⟨zo_16 (w := 6) (by decide +kernel), rfl⟩
theorem dX5_wayIn_7 : Dc mX5_wayIn 7 (.imul) 1 8 := ⟨zo_104 (by decide +kernel), rfl⟩
theorem dX5_wayIn_8 : Dc mX5_wayIn 8 (.iload_n 2) 1 9 := ⟨zo_28 (by decide +kernel), rfl⟩
theorem dX5_wayIn_9 : Dc mX5_wayIn 9 (.iadd) 1 10 := ⟨zo_96 (by decide +kernel), rfl⟩
theorem dX5_wayIn_10 : Dc mX5_wayIn 10 (.invokestatic 89) 3 13 := ⟨zo_184 (w := 0) (x := 89) (by decide +kernel), rfl⟩
theorem dX5_wayIn_13 : Dc mX5_wayIn 13 (.ireturn) 1 14 := ⟨zo_172 (by decide +kernel), rfl⟩
theorem dX5_marksIn_0 : Dc mX5_marksIn 0 (.iconst 0) 1 1 := ⟨zo_3 (by decide +kernel), rfl⟩
theorem dX5_marksIn_1 : Dc mX5_marksIn 1 (.istore_n 2) 1 2 := ⟨zo_61 (by decide +kernel), rfl⟩
theorem dX5_marksIn_2 : Dc mX5_marksIn 2 (.iconst 0) 1 3 := ⟨zo_3 (by decide +kernel), rfl⟩
theorem dX5_marksIn_3 : Dc mX5_marksIn 3 (.istore_n 3) 1 4 := ⟨zo_62 (by decide +kernel), rfl⟩
theorem dX5_marksIn_4 : Dc mX5_marksIn 4 (.iload_n 3) 1 5 := ⟨zo_29 (by decide +kernel), rfl⟩
theorem dX5_marksIn_5 : Dc mX5_marksIn 5 (.bipush 6) 2 7 := ⟨zo_16 (w := 6) (by decide +kernel), rfl⟩
theorem dX5_marksIn_7 : Dc mX5_marksIn 7 (.if_icmp .ge 26) 3 10 := ⟨zo_162 (w := 0) (x := 26) (by decide +kernel), rfl⟩
theorem dX5_marksIn_10 : Dc mX5_marksIn 10 (.iload_n 2) 1 11 := ⟨zo_28 (by decide +kernel), rfl⟩
theorem dX5_marksIn_11 : Dc mX5_marksIn 11 (.aload_n 0) 1 12 := ⟨zo_42 (by decide +kernel), rfl⟩
theorem dX5_marksIn_12 : Dc mX5_marksIn 12 (.iload_n 1) 1 13 := ⟨zo_27 (by decide +kernel), rfl⟩
theorem dX5_marksIn_13 : Dc mX5_marksIn 13 (.iload_n 3) 1 14 := ⟨zo_29 (by decide +kernel), rfl⟩
theorem dX5_marksIn_14 : Dc mX5_marksIn 14 (.invokevirtual 93) 3 17 := ⟨zo_182 (w := 0) (x := 93) (by decide +kernel), rfl⟩
theorem dX5_marksIn_17 : Dc mX5_marksIn 17 (.ifCond .lt 7) 3 20 := ⟨zo_155 (w := 0) (x := 7) (by decide +kernel), rfl⟩
theorem dX5_marksIn_20 : Dc mX5_marksIn 20 (.iconst 1) 1 21 := ⟨zo_4 (by decide +kernel), rfl⟩
theorem dX5_marksIn_21 : Dc mX5_marksIn 21 (.goto 4) 3 24 := ⟨zo_167 (w := 0) (x := 4) (by decide +kernel), rfl⟩
theorem dX5_marksIn_24 : Dc mX5_marksIn 24 (.iconst 0) 1 25 := ⟨zo_3 (by decide +kernel), rfl⟩
theorem dX5_marksIn_25 : Dc mX5_marksIn 25 (.iadd) 1 26 := ⟨zo_96 (by decide +kernel), rfl⟩
theorem dX5_marksIn_26 : Dc mX5_marksIn 26 (.istore_n 2) 1 27 := ⟨zo_61 (by decide +kernel), rfl⟩
theorem dX5_marksIn_27 : Dc mX5_marksIn 27 (.iinc 3 1) 3 30 := ⟨zo_iinc (x := 1) (by decide +kernel), rfl⟩
theorem dX5_marksIn_30 : Dc mX5_marksIn 30 (.goto (-26)) 3 33 := ⟨zo_167 (w := 255) (x := 230) (by decide +kernel), rfl⟩
theorem dX5_marksIn_33 : Dc mX5_marksIn 33 (.iload_n 2) 1 34 := ⟨zo_28 (by decide +kernel), rfl⟩
theorem dX5_marksIn_34 : Dc mX5_marksIn 34 (.ireturn) 1 35 := ⟨zo_172 (by decide +kernel), rfl⟩
theorem dX5_clashing_0 : Dc mX5_clashing 0 (.iconst 0) 1 1 := ⟨zo_3 (by decide +kernel), rfl⟩
theorem dX5_clashing_1 : Dc mX5_clashing 1 (.istore_n 2) 1 2 := ⟨zo_61 (by decide +kernel), rfl⟩
theorem dX5_clashing_2 : Dc mX5_clashing 2 (.iconst 0) 1 3 := ⟨zo_3 (by decide +kernel), rfl⟩
theorem dX5_clashing_3 : Dc mX5_clashing 3 (.istore_n 3) 1 4 := ⟨zo_62 (by decide +kernel), rfl⟩
theorem dX5_clashing_4 : Dc mX5_clashing 4 (.iload_n 3) 1 5 := ⟨zo_29 (by decide +kernel), rfl⟩
theorem dX5_clashing_5 : Dc mX5_clashing 5 (.bipush 6) 2 7 := ⟨zo_16 (w := 6) (by decide +kernel), rfl⟩
theorem dX5_clashing_7 : Dc mX5_clashing 7 (.if_icmp .ge 52) 3 10 := ⟨zo_162 (w := 0) (x := 52) (by decide +kernel), rfl⟩
theorem dX5_clashing_10 : Dc mX5_clashing 10 (.aload_n 0) 1 11 := ⟨zo_42 (by decide +kernel), rfl⟩
theorem dX5_clashing_11 : Dc mX5_clashing 11 (.iload_n 1) 1 12 := ⟨zo_27 (by decide +kernel), rfl⟩
theorem dX5_clashing_12 : Dc mX5_clashing 12 (.iload_n 3) 1 13 := ⟨zo_29 (by decide +kernel), rfl⟩
theorem dX5_clashing_13 : Dc mX5_clashing 13 (.invokevirtual 93) 3 16 := ⟨zo_182 (w := 0) (x := 93) (by decide +kernel), rfl⟩
theorem dX5_clashing_16 : Dc mX5_clashing 16 (.istore 4) 2 18 := ⟨zo_54 (by decide +kernel), rfl⟩
theorem dX5_clashing_18 : Dc mX5_clashing 18 (.aload_n 0) 1 19 := ⟨zo_42 (by decide +kernel), rfl⟩
theorem dX5_clashing_19 : Dc mX5_clashing 19 (.getfield 47) 3 22 := ⟨zo_180 (w := 0) (x := 47) (by decide +kernel), rfl⟩
theorem dX5_clashing_22 : Dc mX5_clashing 22 (.iload_n 3) 1 23 := ⟨zo_29 (by decide +kernel), rfl⟩
theorem dX5_clashing_23 : Dc mX5_clashing 23 (.invokestatic 89) 3 26 := ⟨zo_184 (w := 0) (x := 89) (by decide +kernel), rfl⟩
theorem dX5_clashing_26 : Dc mX5_clashing 26 (.istore 5) 2 28 := ⟨zo_54 (by decide +kernel), rfl⟩
theorem dX5_clashing_28 : Dc mX5_clashing 28 (.iload_n 2) 1 29 := ⟨zo_28 (by decide +kernel), rfl⟩
theorem dX5_clashing_29 : Dc mX5_clashing 29 (.iload 4) 2 31 := ⟨zo_21 (by decide +kernel), rfl⟩
theorem dX5_clashing_31 : Dc mX5_clashing 31 (.ifCond .lt 19) 3 34 := ⟨zo_155 (w := 0) (x := 19) (by decide +kernel), rfl⟩
theorem dX5_clashing_34 : Dc mX5_clashing 34 (.iload 5) 2 36 := ⟨zo_21 (by decide +kernel), rfl⟩
theorem dX5_clashing_36 : Dc mX5_clashing 36 (.ifCond .lt 14) 3 39 := ⟨zo_155 (w := 0) (x := 14) (by decide +kernel), rfl⟩
theorem dX5_clashing_39 : Dc mX5_clashing 39 (.iload 4) 2 41 := ⟨zo_21 (by decide +kernel), rfl⟩
theorem dX5_clashing_41 : Dc mX5_clashing 41 (.iload 5) 2 43 := ⟨zo_21 (by decide +kernel), rfl⟩
theorem dX5_clashing_43 : Dc mX5_clashing 43 (.if_icmp .eq 7) 3 46 := ⟨zo_159 (w := 0) (x := 7) (by decide +kernel), rfl⟩
theorem dX5_clashing_46 : Dc mX5_clashing 46 (.iconst 1) 1 47 := ⟨zo_4 (by decide +kernel), rfl⟩
theorem dX5_clashing_47 : Dc mX5_clashing 47 (.goto 4) 3 50 := ⟨zo_167 (w := 0) (x := 4) (by decide +kernel), rfl⟩
theorem dX5_clashing_50 : Dc mX5_clashing 50 (.iconst 0) 1 51 := ⟨zo_3 (by decide +kernel), rfl⟩
theorem dX5_clashing_51 : Dc mX5_clashing 51 (.iadd) 1 52 := ⟨zo_96 (by decide +kernel), rfl⟩
theorem dX5_clashing_52 : Dc mX5_clashing 52 (.istore_n 2) 1 53 := ⟨zo_61 (by decide +kernel), rfl⟩
theorem dX5_clashing_53 : Dc mX5_clashing 53 (.iinc 3 1) 3 56 := ⟨zo_iinc (x := 1) (by decide +kernel), rfl⟩
theorem dX5_clashing_56 : Dc mX5_clashing 56 (.goto (-52)) 3 59 := ⟨zo_167 (w := 255) (x := 204) (by decide +kernel), rfl⟩
theorem dX5_clashing_59 : Dc mX5_clashing 59 (.iload_n 2) 1 60 := ⟨zo_28 (by decide +kernel), rfl⟩
theorem dX5_clashing_60 : Dc mX5_clashing 60 (.ireturn) 1 61 := ⟨zo_172 (by decide +kernel), rfl⟩
theorem dX5_clashCount_0 : Dc mX5_clashCount 0 (.iconst 0) 1 1 := ⟨zo_3 (by decide +kernel), rfl⟩
theorem dX5_clashCount_1 : Dc mX5_clashCount 1 (.istore_n 1) 1 2 := ⟨zo_60 (by decide +kernel), rfl⟩
theorem dX5_clashCount_2 : Dc mX5_clashCount 2 (.iconst 0) 1 3 := ⟨zo_3 (by decide +kernel), rfl⟩
theorem dX5_clashCount_3 : Dc mX5_clashCount 3 (.istore_n 2) 1 4 := ⟨zo_61 (by decide +kernel), rfl⟩
theorem dX5_clashCount_4 : Dc mX5_clashCount 4 (.iload_n 2) 1 5 := ⟨zo_28 (by decide +kernel), rfl⟩
theorem dX5_clashCount_5 : Dc mX5_clashCount 5 (.bipush 8) 2 7 := ⟨zo_16 (w := 8) (by decide +kernel), rfl⟩
theorem dX5_clashCount_7 : Dc mX5_clashCount 7 (.if_icmp .ge 32) 3 10 := ⟨zo_162 (w := 0) (x := 32) (by decide +kernel), rfl⟩
theorem dX5_clashCount_10 : Dc mX5_clashCount 10 (.iload_n 1) 1 11 := ⟨zo_27 (by decide +kernel), rfl⟩
theorem dX5_clashCount_11 : Dc mX5_clashCount 11 (.aload_n 0) 1 12 := ⟨zo_42 (by decide +kernel), rfl⟩
theorem dX5_clashCount_12 : Dc mX5_clashCount 12 (.getfield 38) 3 15 := ⟨zo_180 (w := 0) (x := 38) (by decide +kernel), rfl⟩
theorem dX5_clashCount_15 : Dc mX5_clashCount 15 (.iload_n 2) 1 16 := ⟨zo_28 (by decide +kernel), rfl⟩
theorem dX5_clashCount_16 : Dc mX5_clashCount 16 (.invokestatic 89) 3 19 := ⟨zo_184 (w := 0) (x := 89) (by decide +kernel), rfl⟩
theorem dX5_clashCount_19 : Dc mX5_clashCount 19 (.ifCond .eq 11) 3 22 := ⟨zo_153 (w := 0) (x := 11) (by decide +kernel), rfl⟩
theorem dX5_clashCount_22 : Dc mX5_clashCount 22 (.aload_n 0) 1 23 := ⟨zo_42 (by decide +kernel), rfl⟩
theorem dX5_clashCount_23 : Dc mX5_clashCount 23 (.iload_n 2) 1 24 := ⟨zo_28 (by decide +kernel), rfl⟩
theorem dX5_clashCount_24 : Dc mX5_clashCount 24 (.invokevirtual 97) 3 27 := ⟨zo_182 (w := 0) (x := 97) (by decide +kernel), rfl⟩
theorem dX5_clashCount_27 : Dc mX5_clashCount 27 (.goto 4) 3 30 := ⟨zo_167 (w := 0) (x := 4) (by decide +kernel), rfl⟩
theorem dX5_clashCount_30 : Dc mX5_clashCount 30 (.iconst 0) 1 31 := ⟨zo_3 (by decide +kernel), rfl⟩
theorem dX5_clashCount_31 : Dc mX5_clashCount 31 (.iadd) 1 32 := ⟨zo_96 (by decide +kernel), rfl⟩
theorem dX5_clashCount_32 : Dc mX5_clashCount 32 (.istore_n 1) 1 33 := ⟨zo_60 (by decide +kernel), rfl⟩
theorem dX5_clashCount_33 : Dc mX5_clashCount 33 (.iinc 2 1) 3 36 := ⟨zo_iinc (x := 1) (by decide +kernel), rfl⟩
theorem dX5_clashCount_36 : Dc mX5_clashCount 36 (.goto (-32)) 3 39 := ⟨zo_167 (w := 255) (x := 224) (by decide +kernel), rfl⟩
theorem dX5_clashCount_39 : Dc mX5_clashCount 39 (.iload_n 1) 1 40 := ⟨zo_27 (by decide +kernel), rfl⟩
theorem dX5_clashCount_40 : Dc mX5_clashCount 40 (.ireturn) 1 41 := ⟨zo_172 (by decide +kernel), rfl⟩
theorem dX5_filmedCount_0 : Dc mX5_filmedCount 0 (.iconst 0) 1 1 := ⟨zo_3 (by decide +kernel), rfl⟩
theorem dX5_filmedCount_1 : Dc mX5_filmedCount 1 (.istore_n 1) 1 2 := ⟨zo_60 (by decide +kernel), rfl⟩
theorem dX5_filmedCount_2 : Dc mX5_filmedCount 2 (.iconst 0) 1 3 := ⟨zo_3 (by decide +kernel), rfl⟩
theorem dX5_filmedCount_3 : Dc mX5_filmedCount 3 (.istore_n 2) 1 4 := ⟨zo_61 (by decide +kernel), rfl⟩
theorem dX5_filmedCount_4 : Dc mX5_filmedCount 4 (.iload_n 2) 1 5 := ⟨zo_28 (by decide +kernel), rfl⟩
theorem dX5_filmedCount_5 : Dc mX5_filmedCount 5 (.bipush 8) 2 7 := ⟨zo_16 (w := 8) (by decide +kernel), rfl⟩
theorem dX5_filmedCount_7 : Dc mX5_filmedCount 7 (.if_icmp .ge 20) 3 10 := ⟨zo_162 (w := 0) (x := 20) (by decide +kernel), rfl⟩
theorem dX5_filmedCount_10 : Dc mX5_filmedCount 10 (.iload_n 1) 1 11 := ⟨zo_27 (by decide +kernel), rfl⟩
theorem dX5_filmedCount_11 : Dc mX5_filmedCount 11 (.aload_n 0) 1 12 := ⟨zo_42 (by decide +kernel), rfl⟩
theorem dX5_filmedCount_12 : Dc mX5_filmedCount 12 (.getfield 38) 3 15 := ⟨zo_180 (w := 0) (x := 38) (by decide +kernel), rfl⟩
theorem dX5_filmedCount_15 : Dc mX5_filmedCount 15 (.iload_n 2) 1 16 := ⟨zo_28 (by decide +kernel), rfl⟩
theorem dX5_filmedCount_16 : Dc mX5_filmedCount 16 (.invokestatic 89) 3 19 := ⟨zo_184 (w := 0) (x := 89) (by decide +kernel), rfl⟩
theorem dX5_filmedCount_19 : Dc mX5_filmedCount 19 (.iadd) 1 20 := ⟨zo_96 (by decide +kernel), rfl⟩
theorem dX5_filmedCount_20 : Dc mX5_filmedCount 20 (.istore_n 1) 1 21 := ⟨zo_60 (by decide +kernel), rfl⟩
theorem dX5_filmedCount_21 : Dc mX5_filmedCount 21 (.iinc 2 1) 3 24 := ⟨zo_iinc (x := 1) (by decide +kernel), rfl⟩
theorem dX5_filmedCount_24 : Dc mX5_filmedCount 24 (.goto (-20)) 3 27 := ⟨zo_167 (w := 255) (x := 236) (by decide +kernel), rfl⟩
theorem dX5_filmedCount_27 : Dc mX5_filmedCount 27 (.iload_n 1) 1 28 := ⟨zo_27 (by decide +kernel), rfl⟩
theorem dX5_filmedCount_28 : Dc mX5_filmedCount 28 (.ireturn) 1 29 := ⟨zo_172 (by decide +kernel), rfl⟩
theorem dX5_filmedWith_0 : Dc mX5_filmedWith 0 (.iconst 0) 1 1 := ⟨zo_3 (by decide +kernel), rfl⟩
theorem dX5_filmedWith_1 : Dc mX5_filmedWith 1 (.istore_n 3) 1 2 := ⟨zo_62 (by decide +kernel), rfl⟩
theorem dX5_filmedWith_2 : Dc mX5_filmedWith 2 (.iconst 0) 1 3 := ⟨zo_3 (by decide +kernel), rfl⟩
theorem dX5_filmedWith_3 : Dc mX5_filmedWith 3 (.istore 4) 2 5 := ⟨zo_54 (by decide +kernel), rfl⟩
theorem dX5_filmedWith_5 : Dc mX5_filmedWith 5 (.iload 4) 2 7 := ⟨zo_21 (by decide +kernel), rfl⟩
theorem dX5_filmedWith_7 : Dc mX5_filmedWith 7 (.bipush 8) 2 9 := ⟨zo_16 (w := 8) (by decide +kernel), rfl⟩
theorem dX5_filmedWith_9 : Dc mX5_filmedWith 9 (.if_icmp .ge 45) 3 12 := ⟨zo_162 (w := 0) (x := 45) (by decide +kernel), rfl⟩
theorem dX5_filmedWith_12 : Dc mX5_filmedWith 12 (.iload_n 3) 1 13 := ⟨zo_29 (by decide +kernel), rfl⟩
theorem dX5_filmedWith_13 : Dc mX5_filmedWith 13 (.iload 4) 2 15 := ⟨zo_21 (by decide +kernel), rfl⟩
theorem dX5_filmedWith_15 : Dc mX5_filmedWith 15 (.iload_n 2) 1 16 := ⟨zo_28 (by decide +kernel), rfl⟩
theorem dX5_filmedWith_16 : Dc mX5_filmedWith 16 (.if_icmp .eq 29) 3 19 := ⟨zo_159 (w := 0) (x := 29) (by decide +kernel), rfl⟩
theorem dX5_filmedWith_19 : Dc mX5_filmedWith 19 (.aload_n 0) 1 20 := ⟨zo_42 (by decide +kernel), rfl⟩
theorem dX5_filmedWith_20 : Dc mX5_filmedWith 20 (.getfield 38) 3 23 := ⟨zo_180 (w := 0) (x := 38) (by decide +kernel), rfl⟩
theorem dX5_filmedWith_23 : Dc mX5_filmedWith 23 (.iload 4) 2 25 := ⟨zo_21 (by decide +kernel), rfl⟩
theorem dX5_filmedWith_25 : Dc mX5_filmedWith 25 (.invokestatic 89) 3 28 := ⟨zo_184 (w := 0) (x := 89) (by decide +kernel), rfl⟩
theorem dX5_filmedWith_28 : Dc mX5_filmedWith 28 (.ifCond .eq 17) 3 31 := ⟨zo_153 (w := 0) (x := 17) (by decide +kernel), rfl⟩
theorem dX5_filmedWith_31 : Dc mX5_filmedWith 31 (.aload_n 0) 1 32 := ⟨zo_42 (by decide +kernel), rfl⟩
theorem dX5_filmedWith_32 : Dc mX5_filmedWith 32 (.iload 4) 2 34 := ⟨zo_21 (by decide +kernel), rfl⟩
theorem dX5_filmedWith_34 : Dc mX5_filmedWith 34 (.iload_n 1) 1 35 := ⟨zo_27 (by decide +kernel), rfl⟩
theorem dX5_filmedWith_35 : Dc mX5_filmedWith 35 (.invokevirtual 93) 3 38 := ⟨zo_182 (w := 0) (x := 93) (by decide +kernel), rfl⟩
theorem dX5_filmedWith_38 : Dc mX5_filmedWith 38 (.ifCond .lt 7) 3 41 := ⟨zo_155 (w := 0) (x := 7) (by decide +kernel), rfl⟩
theorem dX5_filmedWith_41 : Dc mX5_filmedWith 41 (.iconst 1) 1 42 := ⟨zo_4 (by decide +kernel), rfl⟩
theorem dX5_filmedWith_42 : Dc mX5_filmedWith 42 (.goto 4) 3 45 := ⟨zo_167 (w := 0) (x := 4) (by decide +kernel), rfl⟩
theorem dX5_filmedWith_45 : Dc mX5_filmedWith 45 (.iconst 0) 1 46 := ⟨zo_3 (by decide +kernel), rfl⟩
theorem dX5_filmedWith_46 : Dc mX5_filmedWith 46 (.iadd) 1 47 := ⟨zo_96 (by decide +kernel), rfl⟩
theorem dX5_filmedWith_47 : Dc mX5_filmedWith 47 (.istore_n 3) 1 48 := ⟨zo_62 (by decide +kernel), rfl⟩
theorem dX5_filmedWith_48 : Dc mX5_filmedWith 48 (.iinc 4 1) 3 51 := ⟨zo_iinc (x := 1) (by decide +kernel), rfl⟩
theorem dX5_filmedWith_51 : Dc mX5_filmedWith 51 (.goto (-46)) 3 54 := ⟨zo_167 (w := 255) (x := 210) (by decide +kernel), rfl⟩
theorem dX5_filmedWith_54 : Dc mX5_filmedWith 54 (.iload_n 3) 1 55 := ⟨zo_29 (by decide +kernel), rfl⟩
theorem dX5_filmedWith_55 : Dc mX5_filmedWith 55 (.ireturn) 1 56 := ⟨zo_172 (by decide +kernel), rfl⟩
theorem dX5_givenCount_0 : Dc mX5_givenCount 0 (.iconst 0) 1 1 := ⟨zo_3 (by decide +kernel), rfl⟩
theorem dX5_givenCount_1 : Dc mX5_givenCount 1 (.istore_n 1) 1 2 := ⟨zo_60 (by decide +kernel), rfl⟩
theorem dX5_givenCount_2 : Dc mX5_givenCount 2 (.iconst 0) 1 3 := ⟨zo_3 (by decide +kernel), rfl⟩
theorem dX5_givenCount_3 : Dc mX5_givenCount 3 (.istore_n 2) 1 4 := ⟨zo_61 (by decide +kernel), rfl⟩
theorem dX5_givenCount_4 : Dc mX5_givenCount 4 (.iload_n 2) 1 5 := ⟨zo_28 (by decide +kernel), rfl⟩
theorem dX5_givenCount_5 : Dc mX5_givenCount 5 (.bipush 6) 2 7 := ⟨zo_16 (w := 6) (by decide +kernel), rfl⟩
theorem dX5_givenCount_7 : Dc mX5_givenCount 7 (.if_icmp .ge 20) 3 10 := ⟨zo_162 (w := 0) (x := 20) (by decide +kernel), rfl⟩
theorem dX5_givenCount_10 : Dc mX5_givenCount 10 (.iload_n 1) 1 11 := ⟨zo_27 (by decide +kernel), rfl⟩
theorem dX5_givenCount_11 : Dc mX5_givenCount 11 (.aload_n 0) 1 12 := ⟨zo_42 (by decide +kernel), rfl⟩
theorem dX5_givenCount_12 : Dc mX5_givenCount 12 (.getfield 50) 3 15 := ⟨zo_180 (w := 0) (x := 50) (by decide +kernel), rfl⟩
theorem dX5_givenCount_15 : Dc mX5_givenCount 15 (.iload_n 2) 1 16 := ⟨zo_28 (by decide +kernel), rfl⟩
theorem dX5_givenCount_16 : Dc mX5_givenCount 16 (.invokestatic 89) 3 19 := ⟨zo_184 (w := 0) (x := 89) (by decide +kernel), rfl⟩
theorem dX5_givenCount_19 : Dc mX5_givenCount 19 (.iadd) 1 20 := ⟨zo_96 (by decide +kernel), rfl⟩
theorem dX5_givenCount_20 : Dc mX5_givenCount 20 (.istore_n 1) 1 21 := ⟨zo_60 (by decide +kernel), rfl⟩
theorem dX5_givenCount_21 : Dc mX5_givenCount 21 (.iinc 2 1) 3 24 := ⟨zo_iinc (x := 1) (by decide +kernel), rfl⟩
theorem dX5_givenCount_24 : Dc mX5_givenCount 24 (.goto (-20)) 3 27 := ⟨zo_167 (w := 255) (x := 236) (by decide +kernel), rfl⟩
theorem dX5_givenCount_27 : Dc mX5_givenCount 27 (.iload_n 1) 1 28 := ⟨zo_27 (by decide +kernel), rfl⟩
theorem dX5_givenCount_28 : Dc mX5_givenCount 28 (.ireturn) 1 29 := ⟨zo_172 (by decide +kernel), rfl⟩
theorem dX5_breaksBehind_0 : Dc mX5_breaksBehind 0 (.iconst 0) 1 1 := ⟨zo_3 (by decide +kernel), rfl⟩
theorem dX5_breaksBehind_1 : Dc mX5_breaksBehind 1 (.istore_n 2) 1 2 := ⟨zo_61 (by decide +kernel), rfl⟩
theorem dX5_breaksBehind_2 : Dc mX5_breaksBehind 2 (.aload_n 0) 1 3 := ⟨zo_42 (by decide +kernel), rfl⟩
theorem dX5_breaksBehind_3 : Dc mX5_breaksBehind 3 (.getfield 38) 3 6 := ⟨zo_180 (w := 0) (x := 38) (by decide +kernel), rfl⟩
theorem dX5_breaksBehind_6 : Dc mX5_breaksBehind 6 (.iload_n 1) 1 7 := ⟨zo_27 (by decide +kernel), rfl⟩
theorem dX5_breaksBehind_7 : Dc mX5_breaksBehind 7 (.invokestatic 89) 3 10 := ⟨zo_184 (w := 0) (x := 89) (by decide +kernel), rfl⟩
theorem dX5_breaksBehind_10 : Dc mX5_breaksBehind 10 (.ifCond .eq 73) 3 13 := ⟨zo_153 (w := 0) (x := 73) (by decide +kernel), rfl⟩
theorem dX5_breaksBehind_13 : Dc mX5_breaksBehind 13 (.aload_n 0) 1 14 := ⟨zo_42 (by decide +kernel), rfl⟩
theorem dX5_breaksBehind_14 : Dc mX5_breaksBehind 14 (.getfield 38) 3 17 := ⟨zo_180 (w := 0) (x := 38) (by decide +kernel), rfl⟩
theorem dX5_breaksBehind_17 : Dc mX5_breaksBehind 17 (.iload_n 1) 1 18 := ⟨zo_27 (by decide +kernel), rfl⟩
theorem dX5_breaksBehind_18 : Dc mX5_breaksBehind 18 (.iconst 1) 1 19 := ⟨zo_4 (by decide +kernel), rfl⟩
theorem dX5_breaksBehind_19 : Dc mX5_breaksBehind 19 (.iadd) 1 20 := ⟨zo_96 (by decide +kernel), rfl⟩
theorem dX5_breaksBehind_20 : Dc mX5_breaksBehind 20 (.invokestatic 89) 3 23 := ⟨zo_184 (w := 0) (x := 89) (by decide +kernel), rfl⟩
theorem dX5_breaksBehind_23 : Dc mX5_breaksBehind 23 (.ifCond .eq 60) 3 26 := ⟨zo_153 (w := 0) (x := 60) (by decide +kernel), rfl⟩
theorem dX5_breaksBehind_26 : Dc mX5_breaksBehind 26 (.iconst 0) 1 27 := ⟨zo_3 (by decide +kernel), rfl⟩
theorem dX5_breaksBehind_27 : Dc mX5_breaksBehind 27 (.istore_n 3) 1 28 := ⟨zo_62 (by decide +kernel), rfl⟩
theorem dX5_breaksBehind_28 : Dc mX5_breaksBehind 28 (.iload_n 3) 1 29 := ⟨zo_29 (by decide +kernel), rfl⟩
theorem dX5_breaksBehind_29 : Dc mX5_breaksBehind 29 (.bipush 6) 2 31 := ⟨zo_16 (w := 6) (by decide +kernel), rfl⟩
theorem dX5_breaksBehind_31 : Dc mX5_breaksBehind 31 (.if_icmp .ge 52) 3 34 := ⟨zo_162 (w := 0) (x := 52) (by decide +kernel), rfl⟩
theorem dX5_breaksBehind_34 : Dc mX5_breaksBehind 34 (.aload_n 0) 1 35 := ⟨zo_42 (by decide +kernel), rfl⟩
theorem dX5_breaksBehind_35 : Dc mX5_breaksBehind 35 (.iload_n 1) 1 36 := ⟨zo_27 (by decide +kernel), rfl⟩
theorem dX5_breaksBehind_36 : Dc mX5_breaksBehind 36 (.iload_n 3) 1 37 := ⟨zo_29 (by decide +kernel), rfl⟩
theorem dX5_breaksBehind_37 : Dc mX5_breaksBehind 37 (.invokevirtual 93) 3 40 := ⟨zo_182 (w := 0) (x := 93) (by decide +kernel), rfl⟩
theorem dX5_breaksBehind_40 : Dc mX5_breaksBehind 40 (.istore 4) 2 42 := ⟨zo_54 (by decide +kernel), rfl⟩
theorem dX5_breaksBehind_42 : Dc mX5_breaksBehind 42 (.aload_n 0) 1 43 := ⟨zo_42 (by decide +kernel), rfl⟩
theorem dX5_breaksBehind_43 : Dc mX5_breaksBehind 43 (.iload_n 1) 1 44 := ⟨zo_27 (by decide +kernel), rfl⟩
theorem dX5_breaksBehind_44 : Dc mX5_breaksBehind 44 (.iconst 1) 1 45 := ⟨zo_4 (by decide +kernel), rfl⟩
theorem dX5_breaksBehind_45 : Dc mX5_breaksBehind 45 (.iadd) 1 46 := ⟨zo_96 (by decide +kernel), rfl⟩
theorem dX5_breaksBehind_46 : Dc mX5_breaksBehind 46 (.iload_n 3) 1 47 := ⟨zo_29 (by decide +kernel), rfl⟩
theorem dX5_breaksBehind_47 : Dc mX5_breaksBehind 47 (.invokevirtual 93) 3 50 := ⟨zo_182 (w := 0) (x := 93) (by decide +kernel), rfl⟩
theorem dX5_breaksBehind_50 : Dc mX5_breaksBehind 50 (.istore 5) 2 52 := ⟨zo_54 (by decide +kernel), rfl⟩
theorem dX5_breaksBehind_52 : Dc mX5_breaksBehind 52 (.iload_n 2) 1 53 := ⟨zo_28 (by decide +kernel), rfl⟩
theorem dX5_breaksBehind_53 : Dc mX5_breaksBehind 53 (.iload 4) 2 55 := ⟨zo_21 (by decide +kernel), rfl⟩
theorem dX5_breaksBehind_55 : Dc mX5_breaksBehind 55 (.ifCond .lt 19) 3 58 := ⟨zo_155 (w := 0) (x := 19) (by decide +kernel), rfl⟩
theorem dX5_breaksBehind_58 : Dc mX5_breaksBehind 58 (.iload 5) 2 60 := ⟨zo_21 (by decide +kernel), rfl⟩
theorem dX5_breaksBehind_60 : Dc mX5_breaksBehind 60 (.ifCond .lt 14) 3 63 := ⟨zo_155 (w := 0) (x := 14) (by decide +kernel), rfl⟩
theorem dX5_breaksBehind_63 : Dc mX5_breaksBehind 63 (.iload 4) 2 65 := ⟨zo_21 (by decide +kernel), rfl⟩
theorem dX5_breaksBehind_65 : Dc mX5_breaksBehind 65 (.iload 5) 2 67 := ⟨zo_21 (by decide +kernel), rfl⟩
theorem dX5_breaksBehind_67 : Dc mX5_breaksBehind 67 (.if_icmp .eq 7) 3 70 := ⟨zo_159 (w := 0) (x := 7) (by decide +kernel), rfl⟩
theorem dX5_breaksBehind_70 : Dc mX5_breaksBehind 70 (.iconst 1) 1 71 := ⟨zo_4 (by decide +kernel), rfl⟩
theorem dX5_breaksBehind_71 : Dc mX5_breaksBehind 71 (.goto 4) 3 74 := ⟨zo_167 (w := 0) (x := 4) (by decide +kernel), rfl⟩
theorem dX5_breaksBehind_74 : Dc mX5_breaksBehind 74 (.iconst 0) 1 75 := ⟨zo_3 (by decide +kernel), rfl⟩
theorem dX5_breaksBehind_75 : Dc mX5_breaksBehind 75 (.iadd) 1 76 := ⟨zo_96 (by decide +kernel), rfl⟩
theorem dX5_breaksBehind_76 : Dc mX5_breaksBehind 76 (.istore_n 2) 1 77 := ⟨zo_61 (by decide +kernel), rfl⟩
theorem dX5_breaksBehind_77 : Dc mX5_breaksBehind 77 (.iinc 3 1) 3 80 := ⟨zo_iinc (x := 1) (by decide +kernel), rfl⟩
theorem dX5_breaksBehind_80 : Dc mX5_breaksBehind 80 (.goto (-52)) 3 83 := ⟨zo_167 (w := 255) (x := 204) (by decide +kernel), rfl⟩
theorem dX5_breaksBehind_83 : Dc mX5_breaksBehind 83 (.iload_n 2) 1 84 := ⟨zo_28 (by decide +kernel), rfl⟩
theorem dX5_breaksBehind_84 : Dc mX5_breaksBehind 84 (.ireturn) 1 85 := ⟨zo_172 (by decide +kernel), rfl⟩
theorem dX5_breakCount_0 : Dc mX5_breakCount 0 (.iconst 0) 1 1 := ⟨zo_3 (by decide +kernel), rfl⟩
theorem dX5_breakCount_1 : Dc mX5_breakCount 1 (.istore_n 1) 1 2 := ⟨zo_60 (by decide +kernel), rfl⟩
theorem dX5_breakCount_2 : Dc mX5_breakCount 2 (.iconst 0) 1 3 := ⟨zo_3 (by decide +kernel), rfl⟩
theorem dX5_breakCount_3 : Dc mX5_breakCount 3 (.istore_n 2) 1 4 := ⟨zo_61 (by decide +kernel), rfl⟩
theorem dX5_breakCount_4 : Dc mX5_breakCount 4 (.iload_n 2) 1 5 := ⟨zo_28 (by decide +kernel), rfl⟩
theorem dX5_breakCount_5 : Dc mX5_breakCount 5 (.bipush 7) 2 7 := ⟨zo_16 (w := 7) (by decide +kernel), rfl⟩
theorem dX5_breakCount_7 : Dc mX5_breakCount 7 (.if_icmp .ge 17) 3 10 := ⟨zo_162 (w := 0) (x := 17) (by decide +kernel), rfl⟩
theorem dX5_breakCount_10 : Dc mX5_breakCount 10 (.iload_n 1) 1 11 := ⟨zo_27 (by decide +kernel), rfl⟩
theorem dX5_breakCount_11 : Dc mX5_breakCount 11 (.aload_n 0) 1 12 := ⟨zo_42 (by decide +kernel), rfl⟩
theorem dX5_breakCount_12 : Dc mX5_breakCount 12 (.iload_n 2) 1 13 := ⟨zo_28 (by decide +kernel), rfl⟩
theorem dX5_breakCount_13 : Dc mX5_breakCount 13 (.invokevirtual 101) 3 16 := ⟨zo_182 (w := 0) (x := 101) (by decide +kernel), rfl⟩
theorem dX5_breakCount_16 : Dc mX5_breakCount 16 (.iadd) 1 17 := ⟨zo_96 (by decide +kernel), rfl⟩
theorem dX5_breakCount_17 : Dc mX5_breakCount 17 (.istore_n 1) 1 18 := ⟨zo_60 (by decide +kernel), rfl⟩
theorem dX5_breakCount_18 : Dc mX5_breakCount 18 (.iinc 2 1) 3 21 := ⟨zo_iinc (x := 1) (by decide +kernel), rfl⟩
theorem dX5_breakCount_21 : Dc mX5_breakCount 21 (.goto (-17)) 3 24 := ⟨zo_167 (w := 255) (x := 239) (by decide +kernel), rfl⟩
theorem dX5_breakCount_24 : Dc mX5_breakCount 24 (.iload_n 1) 1 25 := ⟨zo_27 (by decide +kernel), rfl⟩
theorem dX5_breakCount_25 : Dc mX5_breakCount 25 (.ireturn) 1 26 := ⟨zo_172 (by decide +kernel), rfl⟩
theorem dX6_init_0 : Dc mX6_init 0 (.aload_n 0) 1 1 := ⟨zo_42 (by decide +kernel), rfl⟩
theorem dX6_init_1 : Dc mX6_init 1 (.invokespecial 3) 3 4 := ⟨zo_183 (w := 0) (x := 3) (by decide +kernel), rfl⟩
theorem dX6_init_4 : Dc mX6_init 4 (.aload_n 0) 1 5 := ⟨zo_42 (by decide +kernel), rfl⟩
theorem dX6_init_5 : Dc mX6_init 5 (.iconst 0) 1 6 := ⟨zo_3 (by decide +kernel), rfl⟩
theorem dX6_init_6 : Dc mX6_init 6 (.putfield 9) 3 9 := ⟨zo_181 (w := 0) (x := 9) (by decide +kernel), rfl⟩
theorem dX6_init_9 : Dc mX6_init 9 (.aload_n 0) 1 10 := ⟨zo_42 (by decide +kernel), rfl⟩
theorem dX6_init_10 : Dc mX6_init 10 (.iconst (-1)) 1 11 := ⟨zo_2 (by decide +kernel), rfl⟩
theorem dX6_init_11 : Dc mX6_init 11 (.putfield 15) 3 14 := ⟨zo_181 (w := 0) (x := 15) (by decide +kernel), rfl⟩
theorem dX6_init_14 : Dc mX6_init 14 (.aload_n 0) 1 15 := ⟨zo_42 (by decide +kernel), rfl⟩
theorem dX6_init_15 : Dc mX6_init 15 (.bipush 24) 2 17 := ⟨zo_16 (w := 24) (by decide +kernel), rfl⟩
theorem dX6_init_17 : Dc mX6_init 17 (.newarray .int) 2 19 := ⟨by decide +kernel, rfl⟩
theorem dX6_init_19 : Dc mX6_init 19 (.putfield 18) 3 22 := ⟨zo_181 (w := 0) (x := 18) (by decide +kernel), rfl⟩
theorem dX6_init_22 : Dc mX6_init 22 (.aload_n 0) 1 23 := ⟨zo_42 (by decide +kernel), rfl⟩
theorem dX6_init_23 : Dc mX6_init 23 (.bipush 24) 2 25 := ⟨zo_16 (w := 24) (by decide +kernel), rfl⟩
theorem dX6_init_25 : Dc mX6_init 25 (.newarray .int) 2 27 := ⟨by decide +kernel, rfl⟩
theorem dX6_init_27 : Dc mX6_init 27 (.putfield 22) 3 30 := ⟨zo_181 (w := 0) (x := 22) (by decide +kernel), rfl⟩
theorem dX6_init_30 : Dc mX6_init 30 (.aload_n 0) 1 31 := ⟨zo_42 (by decide +kernel), rfl⟩
theorem dX6_init_31 : Dc mX6_init 31 (.bipush 24) 2 33 := ⟨zo_16 (w := 24) (by decide +kernel), rfl⟩
theorem dX6_init_33 : Dc mX6_init 33 (.newarray .int) 2 35 := ⟨by decide +kernel, rfl⟩
theorem dX6_init_35 : Dc mX6_init 35 (.putfield 25) 3 38 := ⟨zo_181 (w := 0) (x := 25) (by decide +kernel), rfl⟩
theorem dX6_init_38 : Dc mX6_init 38 (.return_) 1 39 := ⟨zo_177 (by decide +kernel), rfl⟩
theorem dX6_clear_0 : Dc mX6_clear 0 (.aload_n 0) 1 1 := ⟨zo_42 (by decide +kernel), rfl⟩
theorem dX6_clear_1 : Dc mX6_clear 1 (.iconst 0) 1 2 := ⟨zo_3 (by decide +kernel), rfl⟩
theorem dX6_clear_2 : Dc mX6_clear 2 (.putfield 9) 3 5 := ⟨zo_181 (w := 0) (x := 9) (by decide +kernel), rfl⟩
theorem dX6_clear_5 : Dc mX6_clear 5 (.aload_n 0) 1 6 := ⟨zo_42 (by decide +kernel), rfl⟩
theorem dX6_clear_6 : Dc mX6_clear 6 (.iconst (-1)) 1 7 := ⟨zo_2 (by decide +kernel), rfl⟩
theorem dX6_clear_7 : Dc mX6_clear 7 (.putfield 15) 3 10 := ⟨zo_181 (w := 0) (x := 15) (by decide +kernel), rfl⟩
theorem dX6_clear_10 : Dc mX6_clear 10 (.return_) 1 11 := ⟨zo_177 (by decide +kernel), rfl⟩
theorem dX6_add_0 : Dc mX6_add 0 (.aload_n 0) 1 1 := ⟨zo_42 (by decide +kernel), rfl⟩
theorem dX6_add_1 : Dc mX6_add 1 (.getfield 9) 3 4 := ⟨zo_180 (w := 0) (x := 9) (by decide +kernel), rfl⟩
theorem dX6_add_4 : Dc mX6_add 4 (.bipush 24) 2 6 := ⟨zo_16 (w := 24) (by decide +kernel), rfl⟩
theorem dX6_add_6 : Dc mX6_add 6 (.if_icmp .lt 5) 3 9 := ⟨zo_161 (w := 0) (x := 5) (by decide +kernel), rfl⟩
theorem dX6_add_9 : Dc mX6_add 9 (.iconst (-1)) 1 10 := ⟨zo_2 (by decide +kernel), rfl⟩
theorem dX6_add_10 : Dc mX6_add 10 (.ireturn) 1 11 := ⟨zo_172 (by decide +kernel), rfl⟩
theorem dX6_add_11 : Dc mX6_add 11 (.aload_n 0) 1 12 := ⟨zo_42 (by decide +kernel), rfl⟩
theorem dX6_add_12 : Dc mX6_add 12 (.getfield 18) 3 15 := ⟨zo_180 (w := 0) (x := 18) (by decide +kernel), rfl⟩
theorem dX6_add_15 : Dc mX6_add 15 (.aload_n 0) 1 16 := ⟨zo_42 (by decide +kernel), rfl⟩
theorem dX6_add_16 : Dc mX6_add 16 (.getfield 9) 3 19 := ⟨zo_180 (w := 0) (x := 9) (by decide +kernel), rfl⟩
theorem dX6_add_19 : Dc mX6_add 19 (.iload_n 1) 1 20 := ⟨zo_27 (by decide +kernel), rfl⟩
theorem dX6_add_20 : Dc mX6_add 20 (.invokestatic 28) 3 23 := ⟨zo_184 (w := 0) (x := 28) (by decide +kernel), rfl⟩
theorem dX6_add_23 : Dc mX6_add 23 (.aload_n 0) 1 24 := ⟨zo_42 (by decide +kernel), rfl⟩
theorem dX6_add_24 : Dc mX6_add 24 (.getfield 22) 3 27 := ⟨zo_180 (w := 0) (x := 22) (by decide +kernel), rfl⟩
theorem dX6_add_27 : Dc mX6_add 27 (.aload_n 0) 1 28 := ⟨zo_42 (by decide +kernel), rfl⟩
theorem dX6_add_28 : Dc mX6_add 28 (.getfield 9) 3 31 := ⟨zo_180 (w := 0) (x := 9) (by decide +kernel), rfl⟩
theorem dX6_add_31 : Dc mX6_add 31 (.iload_n 2) 1 32 := ⟨zo_28 (by decide +kernel), rfl⟩
theorem dX6_add_32 : Dc mX6_add 32 (.invokestatic 28) 3 35 := ⟨zo_184 (w := 0) (x := 28) (by decide +kernel), rfl⟩
theorem dX6_add_35 : Dc mX6_add 35 (.aload_n 0) 1 36 := ⟨zo_42 (by decide +kernel), rfl⟩
theorem dX6_add_36 : Dc mX6_add 36 (.getfield 25) 3 39 := ⟨zo_180 (w := 0) (x := 25) (by decide +kernel), rfl⟩
theorem dX6_add_39 : Dc mX6_add 39 (.aload_n 0) 1 40 := ⟨zo_42 (by decide +kernel), rfl⟩
theorem dX6_add_40 : Dc mX6_add 40 (.getfield 9) 3 43 := ⟨zo_180 (w := 0) (x := 9) (by decide +kernel), rfl⟩
theorem dX6_add_43 : Dc mX6_add 43 (.iload_n 3) 1 44 := ⟨zo_29 (by decide +kernel), rfl⟩
theorem dX6_add_44 : Dc mX6_add 44 (.invokestatic 28) 3 47 := ⟨zo_184 (w := 0) (x := 28) (by decide +kernel), rfl⟩
theorem dX6_add_47 : Dc mX6_add 47 (.aload_n 0) 1 48 := ⟨zo_42 (by decide +kernel), rfl⟩
theorem dX6_add_48 : Dc mX6_add 48 (.dup) 1 49 := ⟨zo_89 (by decide +kernel), rfl⟩
theorem dX6_add_49 : Dc mX6_add 49 (.getfield 9) 3 52 := ⟨zo_180 (w := 0) (x := 9) (by decide +kernel), rfl⟩
theorem dX6_add_52 : Dc mX6_add 52 (.iconst 1) 1 53 := ⟨zo_4 (by decide +kernel), rfl⟩
theorem dX6_add_53 : Dc mX6_add 53 (.iadd) 1 54 := ⟨zo_96 (by decide +kernel), rfl⟩
theorem dX6_add_54 : Dc mX6_add 54 (.putfield 9) 3 57 := ⟨zo_181 (w := 0) (x := 9) (by decide +kernel), rfl⟩
theorem dX6_add_57 : Dc mX6_add 57 (.aload_n 0) 1 58 := ⟨zo_42 (by decide +kernel), rfl⟩
theorem dX6_add_58 : Dc mX6_add 58 (.getfield 9) 3 61 := ⟨zo_180 (w := 0) (x := 9) (by decide +kernel), rfl⟩
theorem dX6_add_61 : Dc mX6_add 61 (.iconst 1) 1 62 := ⟨zo_4 (by decide +kernel), rfl⟩
theorem dX6_add_62 : Dc mX6_add 62 (.isub) 1 63 := ⟨zo_100 (by decide +kernel), rfl⟩
theorem dX6_add_63 : Dc mX6_add 63 (.ireturn) 1 64 := ⟨zo_172 (by decide +kernel), rfl⟩
theorem dX6_knownCount_0 : Dc mX6_knownCount 0 (.aload_n 0) 1 1 := ⟨zo_42 (by decide +kernel), rfl⟩
theorem dX6_knownCount_1 : Dc mX6_knownCount 1 (.getfield 15) 3 4 := ⟨zo_180 (w := 0) (x := 15) (by decide +kernel), rfl⟩
theorem dX6_knownCount_4 : Dc mX6_knownCount 4 (.ifCond .ge 10) 3 7 := ⟨zo_156 (w := 0) (x := 10) (by decide +kernel), rfl⟩
theorem dX6_knownCount_7 : Dc mX6_knownCount 7 (.aload_n 0) 1 8 := ⟨zo_42 (by decide +kernel), rfl⟩
theorem dX6_knownCount_8 : Dc mX6_knownCount 8 (.getfield 9) 3 11 := ⟨zo_180 (w := 0) (x := 9) (by decide +kernel), rfl⟩
theorem dX6_knownCount_11 : Dc mX6_knownCount 11 (.goto 7) 3 14 := ⟨zo_167 (w := 0) (x := 7) (by decide +kernel), rfl⟩
theorem dX6_knownCount_14 : Dc mX6_knownCount 14 (.aload_n 0) 1 15 := ⟨zo_42 (by decide +kernel), rfl⟩
theorem dX6_knownCount_15 : Dc mX6_knownCount 15 (.getfield 15) 3 18 := ⟨zo_180 (w := 0) (x := 15) (by decide +kernel), rfl⟩
theorem dX6_knownCount_18 : Dc mX6_knownCount 18 (.ireturn) 1 19 := ⟨zo_172 (by decide +kernel), rfl⟩
theorem dX6_knownOnes_0 : Dc mX6_knownOnes 0 (.iconst 0) 1 1 := ⟨zo_3 (by decide +kernel), rfl⟩
theorem dX6_knownOnes_1 : Dc mX6_knownOnes 1 (.istore_n 1) 1 2 := ⟨zo_60 (by decide +kernel), rfl⟩
theorem dX6_knownOnes_2 : Dc mX6_knownOnes 2 (.iconst 0) 1 3 := ⟨zo_3 (by decide +kernel), rfl⟩
theorem dX6_knownOnes_3 : Dc mX6_knownOnes 3 (.istore_n 2) 1 4 := ⟨zo_61 (by decide +kernel), rfl⟩
theorem dX6_knownOnes_4 : Dc mX6_knownOnes 4 (.aload_n 0) 1 5 := ⟨zo_42 (by decide +kernel), rfl⟩
theorem dX6_knownOnes_5 : Dc mX6_knownOnes 5 (.invokevirtual 32) 3 8 := ⟨zo_182 (w := 0) (x := 32) (by decide +kernel), rfl⟩
theorem dX6_knownOnes_8 : Dc mX6_knownOnes 8 (.iconst 1) 1 9 := ⟨zo_4 (by decide +kernel), rfl⟩
theorem dX6_knownOnes_9 : Dc mX6_knownOnes 9 (.isub) 1 10 := ⟨zo_100 (by decide +kernel), rfl⟩
theorem dX6_knownOnes_10 : Dc mX6_knownOnes 10 (.istore_n 3) 1 11 := ⟨zo_62 (by decide +kernel), rfl⟩
theorem dX6_knownOnes_11 : Dc mX6_knownOnes 11 (.iload_n 3) 1 12 := ⟨zo_29 (by decide +kernel), rfl⟩
theorem dX6_knownOnes_12 : Dc mX6_knownOnes 12 (.ifCond .lt 67) 3 15 := ⟨zo_155 (w := 0) (x := 67) (by decide +kernel), rfl⟩
theorem dX6_knownOnes_15 : Dc mX6_knownOnes 15 (.iload_n 1) 1 16 := ⟨zo_27 (by decide +kernel), rfl⟩
theorem dX6_knownOnes_16 : Dc mX6_knownOnes 16 (.iload_n 3) 1 17 := ⟨zo_29 (by decide +kernel), rfl⟩
theorem dX6_knownOnes_17 : Dc mX6_knownOnes 17 (.ishr) 1 18 := ⟨zo_122 (by decide +kernel), rfl⟩
theorem dX6_knownOnes_18 : Dc mX6_knownOnes 18 (.iconst 1) 1 19 := ⟨zo_4 (by decide +kernel), rfl⟩
theorem dX6_knownOnes_19 : Dc mX6_knownOnes 19 (.iand) 1 20 := ⟨zo_126 (by decide +kernel), rfl⟩
theorem dX6_knownOnes_20 : Dc mX6_knownOnes 20 (.ifCond .ne 7) 3 23 := ⟨zo_154 (w := 0) (x := 7) (by decide +kernel), rfl⟩
theorem dX6_knownOnes_23 : Dc mX6_knownOnes 23 (.iconst 1) 1 24 := ⟨zo_4 (by decide +kernel), rfl⟩
theorem dX6_knownOnes_24 : Dc mX6_knownOnes 24 (.goto 4) 3 27 := ⟨zo_167 (w := 0) (x := 4) (by decide +kernel), rfl⟩
theorem dX6_knownOnes_27 : Dc mX6_knownOnes 27 (.iconst 0) 1 28 := ⟨zo_3 (by decide +kernel), rfl⟩
theorem dX6_knownOnes_28 : Dc mX6_knownOnes 28 (.istore 4) 2 30 := ⟨zo_54 (by decide +kernel), rfl⟩
theorem dX6_knownOnes_30 : Dc mX6_knownOnes 30 (.iload 4) 2 32 := ⟨zo_21 (by decide +kernel), rfl⟩
theorem dX6_knownOnes_32 : Dc mX6_knownOnes 32 (.ifCond .eq 30) 3 35 := ⟨zo_153 (w := 0) (x := 30) (by decide +kernel), rfl⟩
theorem dX6_knownOnes_35 : Dc mX6_knownOnes 35 (.aload_n 0) 1 36 := ⟨zo_42 (by decide +kernel), rfl⟩
theorem dX6_knownOnes_36 : Dc mX6_knownOnes 36 (.getfield 18) 3 39 := ⟨zo_180 (w := 0) (x := 18) (by decide +kernel), rfl⟩
theorem dX6_knownOnes_39 : Dc mX6_knownOnes 39 (.iload_n 3) 1 40 := ⟨zo_29 (by decide +kernel), rfl⟩
theorem dX6_knownOnes_40 : Dc mX6_knownOnes 40 (.invokestatic 36) 3 43 := ⟨zo_184 (w := 0) (x := 36) (by decide +kernel), rfl⟩
theorem dX6_knownOnes_43 : Dc mX6_knownOnes 43 (.ifCond .ne 19) 3 46 := ⟨zo_154 (w := 0) (x := 19) (by decide +kernel), rfl⟩
theorem dX6_knownOnes_46 : Dc mX6_knownOnes 46 (.iload_n 1) 1 47 := ⟨zo_27 (by decide +kernel), rfl⟩
theorem dX6_knownOnes_47 : Dc mX6_knownOnes 47 (.iconst 1) 1 48 := ⟨zo_4 (by decide +kernel), rfl⟩
theorem dX6_knownOnes_48 : Dc mX6_knownOnes 48 (.aload_n 0) 1 49 := ⟨zo_42 (by decide +kernel), rfl⟩
theorem dX6_knownOnes_49 : Dc mX6_knownOnes 49 (.getfield 22) 3 52 := ⟨zo_180 (w := 0) (x := 22) (by decide +kernel), rfl⟩
theorem dX6_knownOnes_52 : Dc mX6_knownOnes 52 (.iload_n 3) 1 53 := ⟨zo_29 (by decide +kernel), rfl⟩
theorem dX6_knownOnes_53 : Dc mX6_knownOnes 53 (.invokestatic 36) 3 56 := ⟨zo_184 (w := 0) (x := 36) (by decide +kernel), rfl⟩
theorem dX6_knownOnes_56 : Dc mX6_knownOnes 56 (.ishl) 1 57 := ⟨zo_120 (by decide +kernel), rfl⟩
theorem dX6_knownOnes_57 : Dc mX6_knownOnes 57 (.ior) 1 58 := ⟨zo_128 (by decide +kernel), rfl⟩
theorem dX6_knownOnes_58 : Dc mX6_knownOnes 58 (.istore_n 1) 1 59 := ⟨zo_60 (by decide +kernel), rfl⟩
theorem dX6_knownOnes_59 : Dc mX6_knownOnes 59 (.goto 14) 3 62 := ⟨zo_167 (w := 0) (x := 14) (by decide +kernel), rfl⟩
theorem dX6_knownOnes_62 : Dc mX6_knownOnes 62 (.iload 4) 2 64 := ⟨zo_21 (by decide +kernel), rfl⟩
theorem dX6_knownOnes_64 : Dc mX6_knownOnes 64 (.ifCond .eq 9) 3 67 := ⟨zo_153 (w := 0) (x := 9) (by decide +kernel), rfl⟩
theorem dX6_knownOnes_67 : Dc mX6_knownOnes 67 (.iload_n 2) 1 68 := ⟨zo_28 (by decide +kernel), rfl⟩
theorem dX6_knownOnes_68 : Dc mX6_knownOnes 68 (.iconst 1) 1 69 := ⟨zo_4 (by decide +kernel), rfl⟩
theorem dX6_knownOnes_69 : Dc mX6_knownOnes 69 (.iload_n 3) 1 70 := ⟨zo_29 (by decide +kernel), rfl⟩
theorem dX6_knownOnes_70 : Dc mX6_knownOnes 70 (.ishl) 1 71 := ⟨zo_120 (by decide +kernel), rfl⟩
theorem dX6_knownOnes_71 : Dc mX6_knownOnes 71 (.ior) 1 72 := ⟨zo_128 (by decide +kernel), rfl⟩
theorem dX6_knownOnes_72 : Dc mX6_knownOnes 72 (.istore_n 2) 1 73 := ⟨zo_61 (by decide +kernel), rfl⟩
theorem dX6_knownOnes_73 : Dc mX6_knownOnes 73 (.iinc 3 (-1)) 3 76 := ⟨zo_iinc (x := 255) (by decide +kernel), rfl⟩
theorem dX6_knownOnes_76 : Dc mX6_knownOnes 76 (.goto (-65)) 3 79 := ⟨zo_167 (w := 255) (x := 191) (by decide +kernel), rfl⟩
theorem dX6_knownOnes_79 : Dc mX6_knownOnes 79 (.iload_n 2) 1 80 := ⟨zo_28 (by decide +kernel), rfl⟩
theorem dX6_knownOnes_80 : Dc mX6_knownOnes 80 (.ireturn) 1 81 := ⟨zo_172 (by decide +kernel), rfl⟩
theorem dX6_lastDay_0 : Dc mX6_lastDay 0 (.iconst 0) 1 1 := ⟨zo_3 (by decide +kernel), rfl⟩
theorem dX6_lastDay_1 : Dc mX6_lastDay 1 (.istore_n 2) 1 2 := ⟨zo_61 (by decide +kernel), rfl⟩
theorem dX6_lastDay_2 : Dc mX6_lastDay 2 (.iconst 0) 1 3 := ⟨zo_3 (by decide +kernel), rfl⟩
theorem dX6_lastDay_3 : Dc mX6_lastDay 3 (.istore_n 3) 1 4 := ⟨zo_62 (by decide +kernel), rfl⟩
theorem dX6_lastDay_4 : Dc mX6_lastDay 4 (.iload_n 3) 1 5 := ⟨zo_29 (by decide +kernel), rfl⟩
theorem dX6_lastDay_5 : Dc mX6_lastDay 5 (.aload_n 0) 1 6 := ⟨zo_42 (by decide +kernel), rfl⟩
theorem dX6_lastDay_6 : Dc mX6_lastDay 6 (.getfield 9) 3 9 := ⟨zo_180 (w := 0) (x := 9) (by decide +kernel), rfl⟩
theorem dX6_lastDay_9 : Dc mX6_lastDay 9 (.if_icmp .ge 34) 3 12 := ⟨zo_162 (w := 0) (x := 34) (by decide +kernel), rfl⟩
theorem dX6_lastDay_12 : Dc mX6_lastDay 12 (.iload_n 1) 1 13 := ⟨zo_27 (by decide +kernel), rfl⟩
theorem dX6_lastDay_13 : Dc mX6_lastDay 13 (.iload_n 3) 1 14 := ⟨zo_29 (by decide +kernel), rfl⟩
theorem dX6_lastDay_14 : Dc mX6_lastDay 14 (.ishr) 1 15 := ⟨zo_122 (by decide +kernel), rfl⟩
theorem dX6_lastDay_15 : Dc mX6_lastDay 15 (.iconst 1) 1 16 := ⟨zo_4 (by decide +kernel), rfl⟩
theorem dX6_lastDay_16 : Dc mX6_lastDay 16 (.iand) 1 17 := ⟨zo_126 (by decide +kernel), rfl⟩
theorem dX6_lastDay_17 : Dc mX6_lastDay 17 (.ifCond .eq 18) 3 20 := ⟨zo_153 (w := 0) (x := 18) (by decide +kernel), rfl⟩
theorem dX6_lastDay_20 : Dc mX6_lastDay 20 (.iload_n 2) 1 21 := ⟨zo_28 (by decide +kernel), rfl⟩
theorem dX6_lastDay_21 : Dc mX6_lastDay 21 (.aload_n 0) 1 22 := ⟨zo_42 (by decide +kernel), rfl⟩
theorem dX6_lastDay_22 : Dc mX6_lastDay 22 (.getfield 18) 3 25 := ⟨zo_180 (w := 0) (x := 18) (by decide +kernel), rfl⟩
theorem dX6_lastDay_25 : Dc mX6_lastDay 25 (.iload_n 3) 1 26 := ⟨zo_29 (by decide +kernel), rfl⟩
theorem dX6_lastDay_26 : Dc mX6_lastDay 26 (.invokestatic 36) 3 29 := ⟨zo_184 (w := 0) (x := 36) (by decide +kernel), rfl⟩
theorem dX6_lastDay_29 : Dc mX6_lastDay 29 (.invokestatic 40) 3 32 := ⟨zo_184 (w := 0) (x := 40) (by decide +kernel), rfl⟩
theorem dX6_lastDay_32 : Dc mX6_lastDay 32 (.goto 4) 3 35 := ⟨zo_167 (w := 0) (x := 4) (by decide +kernel), rfl⟩
theorem dX6_lastDay_35 : Dc mX6_lastDay 35 (.iload_n 2) 1 36 := ⟨zo_28 (by decide +kernel), rfl⟩
theorem dX6_lastDay_36 : Dc mX6_lastDay 36 (.istore_n 2) 1 37 := ⟨zo_61 (by decide +kernel), rfl⟩
theorem dX6_lastDay_37 : Dc mX6_lastDay 37 (.iinc 3 1) 3 40 := ⟨zo_iinc (x := 1) (by decide +kernel), rfl⟩
theorem dX6_lastDay_40 : Dc mX6_lastDay 40 (.goto (-36)) 3 43 := ⟨zo_167 (w := 255) (x := 220) (by decide +kernel), rfl⟩
theorem dX6_lastDay_43 : Dc mX6_lastDay 43 (.iload_n 2) 1 44 := ⟨zo_28 (by decide +kernel), rfl⟩
theorem dX6_lastDay_44 : Dc mX6_lastDay 44 (.ireturn) 1 45 := ⟨zo_172 (by decide +kernel), rfl⟩
theorem dX6_fits_0 : Dc mX6_fits 0 (.iconst 0) 1 1 := ⟨zo_3 (by decide +kernel), rfl⟩
theorem dX6_fits_1 : Dc mX6_fits 1 (.istore 4) 2 3 := ⟨zo_54 (by decide +kernel), rfl⟩
theorem dX6_fits_3 : Dc mX6_fits 3 (.iload 4) 2 5 := ⟨zo_21 (by decide +kernel), rfl⟩
theorem dX6_fits_5 : Dc mX6_fits 5 (.aload_n 0) 1 6 := ⟨zo_42 (by decide +kernel), rfl⟩
theorem dX6_fits_6 : Dc mX6_fits 6 (.getfield 9) 3 9 := ⟨zo_180 (w := 0) (x := 9) (by decide +kernel), rfl⟩
theorem dX6_fits_9 : Dc mX6_fits 9 (.if_icmp .ge 82) 3 12 := ⟨zo_162 (w := 0) (x := 82) (by decide +kernel), rfl⟩
theorem dX6_fits_12 : Dc mX6_fits 12 (.iload_n 1) 1 13 := ⟨zo_27 (by decide +kernel), rfl⟩
theorem dX6_fits_13 : Dc mX6_fits 13 (.iload 4) 2 15 := ⟨zo_21 (by decide +kernel), rfl⟩
theorem dX6_fits_15 : Dc mX6_fits 15 (.ishr) 1 16 := ⟨zo_122 (by decide +kernel), rfl⟩
theorem dX6_fits_16 : Dc mX6_fits 16 (.iconst 1) 1 17 := ⟨zo_4 (by decide +kernel), rfl⟩
theorem dX6_fits_17 : Dc mX6_fits 17 (.iand) 1 18 := ⟨zo_126 (by decide +kernel), rfl⟩
theorem dX6_fits_18 : Dc mX6_fits 18 (.ifCond .eq 20) 3 21 := ⟨zo_153 (w := 0) (x := 20) (by decide +kernel), rfl⟩
theorem dX6_fits_21 : Dc mX6_fits 21 (.aload_n 0) 1 22 := ⟨zo_42 (by decide +kernel), rfl⟩
theorem dX6_fits_22 : Dc mX6_fits 22 (.getfield 18) 3 25 := ⟨zo_180 (w := 0) (x := 18) (by decide +kernel), rfl⟩
theorem dX6_fits_25 : Dc mX6_fits 25 (.iload 4) 2 27 := ⟨zo_21 (by decide +kernel), rfl⟩
theorem dX6_fits_27 : Dc mX6_fits 27 (.invokestatic 36) 3 30 := ⟨zo_184 (w := 0) (x := 36) (by decide +kernel), rfl⟩
theorem dX6_fits_30 : Dc mX6_fits 30 (.iload_n 2) 1 31 := ⟨zo_28 (by decide +kernel), rfl⟩
theorem dX6_fits_31 : Dc mX6_fits 31 (.if_icmp .ne 7) 3 34 := ⟨zo_160 (w := 0) (x := 7) (by decide +kernel), rfl⟩
theorem dX6_fits_34 : Dc mX6_fits 34 (.iconst 1) 1 35 := ⟨zo_4 (by decide +kernel), rfl⟩
theorem dX6_fits_35 : Dc mX6_fits 35 (.goto 4) 3 38 := ⟨zo_167 (w := 0) (x := 4) (by decide +kernel), rfl⟩
theorem dX6_fits_38 : Dc mX6_fits 38 (.iconst 0) 1 39 := ⟨zo_3 (by decide +kernel), rfl⟩
theorem dX6_fits_39 : Dc mX6_fits 39 (.istore 5) 2 41 := ⟨zo_54 (by decide +kernel), rfl⟩
theorem dX6_fits_41 : Dc mX6_fits 41 (.aload_n 3) 1 42 := ⟨zo_45 (by decide +kernel), rfl⟩
theorem dX6_fits_42 : Dc mX6_fits 42 (.aload_n 0) 1 43 := ⟨zo_42 (by decide +kernel), rfl⟩
theorem dX6_fits_43 : Dc mX6_fits 43 (.getfield 22) 3 46 := ⟨zo_180 (w := 0) (x := 22) (by decide +kernel), rfl⟩
theorem dX6_fits_46 : Dc mX6_fits 46 (.iload 4) 2 48 := ⟨zo_21 (by decide +kernel), rfl⟩
theorem dX6_fits_48 : Dc mX6_fits 48 (.invokestatic 36) 3 51 := ⟨zo_184 (w := 0) (x := 36) (by decide +kernel), rfl⟩
theorem dX6_fits_51 : Dc mX6_fits 51 (.invokestatic 36) 3 54 := ⟨zo_184 (w := 0) (x := 36) (by decide +kernel), rfl⟩
theorem dX6_fits_54 : Dc mX6_fits 54 (.ifCond .lt 7) 3 57 := ⟨zo_155 (w := 0) (x := 7) (by decide +kernel), rfl⟩
theorem dX6_fits_57 : Dc mX6_fits 57 (.iconst 1) 1 58 := ⟨zo_4 (by decide +kernel), rfl⟩
theorem dX6_fits_58 : Dc mX6_fits 58 (.goto 4) 3 61 := ⟨zo_167 (w := 0) (x := 4) (by decide +kernel), rfl⟩
