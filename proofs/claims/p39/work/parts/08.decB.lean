/-! printed by wip/whole/gen_dec.py: decode rows -/
theorem dX6_fits_61 : Dc mX6_fits 61 (.iconst 0) 1 62 := ⟨zo_3 (by decide +kernel), rfl⟩
theorem dX6_fits_62 : Dc mX6_fits 62 (.istore 6) 2 64 := ⟨zo_54 (by decide +kernel), rfl⟩
theorem dX6_fits_64 : Dc mX6_fits 64 (.iload 5) 2 66 := ⟨zo_21 (by decide +kernel), rfl⟩
theorem dX6_fits_66 : Dc mX6_fits 66 (.ifCond .eq 19) 3 69 := ⟨zo_153 (w := 0) (x := 19) (by decide +kernel), rfl⟩
theorem dX6_fits_69 : Dc mX6_fits 69 (.iload 6) 2 71 := ⟨zo_21 (by decide +kernel), rfl⟩
theorem dX6_fits_71 : Dc mX6_fits 71 (.aload_n 0) 1 72 := ⟨zo_42 (by decide +kernel), rfl⟩
theorem dX6_fits_72 : Dc mX6_fits 72 (.getfield 25) 3 75 := ⟨zo_180 (w := 0) (x := 25) (by decide +kernel), rfl⟩
theorem dX6_fits_75 : Dc mX6_fits 75 (.iload 4) 2 77 := ⟨zo_21 (by decide +kernel), rfl⟩
theorem dX6_fits_77 : Dc mX6_fits 77 (.invokestatic 36) 3 80 := ⟨zo_184 (w := 0) (x := 36) (by decide +kernel), rfl⟩
theorem dX6_fits_80 : Dc mX6_fits 80 (.if_icmp .eq 5) 3 83 := ⟨zo_159 (w := 0) (x := 5) (by decide +kernel), rfl⟩
theorem dX6_fits_83 : Dc mX6_fits 83 (.iconst 0) 1 84 := ⟨zo_3 (by decide +kernel), rfl⟩
theorem dX6_fits_84 : Dc mX6_fits 84 (.ireturn) 1 85 := ⟨zo_172 (by decide +kernel), rfl⟩
theorem dX6_fits_85 : Dc mX6_fits 85 (.iinc 4 1) 3 88 := ⟨zo_iinc (x := 1) (by decide +kernel), rfl⟩
theorem dX6_fits_88 : Dc mX6_fits 88 (.goto (-85)) 3 91 := ⟨zo_167 (w := 255) (x := 171) (by decide +kernel), rfl⟩
theorem dX6_fits_91 : Dc mX6_fits 91 (.iconst 1) 1 92 := ⟨zo_4 (by decide +kernel), rfl⟩
theorem dX6_fits_92 : Dc mX6_fits 92 (.ireturn) 1 93 := ⟨zo_172 (by decide +kernel), rfl⟩
theorem dX7_init_0 : Dc mX7_init 0 (.aload_n 0) 1 1 := ⟨zo_42 (by decide +kernel), rfl⟩
theorem dX7_init_1 : Dc mX7_init 1 (.invokespecial 3) 3 4 := ⟨zo_183 (w := 0) (x := 3) (by decide +kernel), rfl⟩
theorem dX7_init_4 : Dc mX7_init 4 (.aload_n 0) 1 5 := ⟨zo_42 (by decide +kernel), rfl⟩
theorem dX7_init_5 : Dc mX7_init 5 (.iconst 0) 1 6 := ⟨zo_3 (by decide +kernel), rfl⟩
theorem dX7_init_6 : Dc mX7_init 6 (.putfield 9) 3 9 := ⟨zo_181 (w := 0) (x := 9) (by decide +kernel), rfl⟩
theorem dX7_init_9 : Dc mX7_init 9 (.aload_n 0) 1 10 := ⟨zo_42 (by decide +kernel), rfl⟩
theorem dX7_init_10 : Dc mX7_init 10 (.bipush 8) 2 12 := ⟨zo_16 (w := 8) (by decide +kernel), rfl⟩
theorem dX7_init_12 : Dc mX7_init 12 (.newarray .int) 2 14 := ⟨by decide +kernel, rfl⟩
theorem dX7_init_14 : Dc mX7_init 14 (.putfield 15) 3 17 := ⟨zo_181 (w := 0) (x := 15) (by decide +kernel), rfl⟩
theorem dX7_init_17 : Dc mX7_init 17 (.aload_n 0) 1 18 := ⟨zo_42 (by decide +kernel), rfl⟩
theorem dX7_init_18 : Dc mX7_init 18 (.bipush 8) 2 20 := ⟨zo_16 (w := 8) (by decide +kernel), rfl⟩
theorem dX7_init_20 : Dc mX7_init 20 (.newarray .int) 2 22 := ⟨by decide +kernel, rfl⟩
theorem dX7_init_22 : Dc mX7_init 22 (.putfield 19) 3 25 := ⟨zo_181 (w := 0) (x := 19) (by decide +kernel), rfl⟩
theorem dX7_init_25 : Dc mX7_init 25 (.aload_n 0) 1 26 := ⟨zo_42 (by decide +kernel), rfl⟩
theorem dX7_init_26 : Dc mX7_init 26 (.bipush 8) 2 28 := ⟨zo_16 (w := 8) (by decide +kernel), rfl⟩
theorem dX7_init_28 : Dc mX7_init 28 (.newarray .int) 2 30 := ⟨by decide +kernel, rfl⟩
theorem dX7_init_30 : Dc mX7_init 30 (.putfield 22) 3 33 := ⟨zo_181 (w := 0) (x := 22) (by decide +kernel), rfl⟩
theorem dX7_init_33 : Dc mX7_init 33 (.aload_n 0) 1 34 := ⟨zo_42 (by decide +kernel), rfl⟩
theorem dX7_init_34 : Dc mX7_init 34 (.bipush 8) 2 36 := ⟨zo_16 (w := 8) (by decide +kernel), rfl⟩
theorem dX7_init_36 : Dc mX7_init 36 (.newarray .int) 2 38 := ⟨by decide +kernel, rfl⟩
theorem dX7_init_38 : Dc mX7_init 38 (.putfield 25) 3 41 := ⟨zo_181 (w := 0) (x := 25) (by decide +kernel), rfl⟩
theorem dX7_init_41 : Dc mX7_init 41 (.aload_n 0) 1 42 := ⟨zo_42 (by decide +kernel), rfl⟩
theorem dX7_init_42 : Dc mX7_init 42 (.iload_n 1) 1 43 := ⟨zo_27 (by decide +kernel), rfl⟩
theorem dX7_init_43 : Dc mX7_init 43 (.bipush 8) 2 45 := ⟨zo_16 (w := 8) (by decide +kernel), rfl⟩
theorem dX7_init_45 : Dc mX7_init 45 (.invokestatic 28) 3 48 := ⟨zo_184 (w := 0) (x := 28) (by decide +kernel), rfl⟩
theorem dX7_init_48 : Dc mX7_init 48 (.putfield 34) 3 51 := ⟨zo_181 (w := 0) (x := 34) (by decide +kernel), rfl⟩
theorem dX7_init_51 : Dc mX7_init 51 (.return_) 1 52 := ⟨zo_177 (by decide +kernel), rfl⟩
theorem dX7_clear_0 : Dc mX7_clear 0 (.aload_n 0) 1 1 := ⟨zo_42 (by decide +kernel), rfl⟩
theorem dX7_clear_1 : Dc mX7_clear 1 (.iconst 0) 1 2 := ⟨zo_3 (by decide +kernel), rfl⟩
theorem dX7_clear_2 : Dc mX7_clear 2 (.putfield 9) 3 5 := ⟨zo_181 (w := 0) (x := 9) (by decide +kernel), rfl⟩
theorem dX7_clear_5 : Dc mX7_clear 5 (.aload_n 0) 1 6 := ⟨zo_42 (by decide +kernel), rfl⟩
theorem dX7_clear_6 : Dc mX7_clear 6 (.getfield 15) 3 9 := ⟨zo_180 (w := 0) (x := 15) (by decide +kernel), rfl⟩
theorem dX7_clear_9 : Dc mX7_clear 9 (.iconst 0) 1 10 := ⟨zo_3 (by decide +kernel), rfl⟩
theorem dX7_clear_10 : Dc mX7_clear 10 (.invokestatic 37) 3 13 := ⟨zo_184 (w := 0) (x := 37) (by decide +kernel), rfl⟩
theorem dX7_clear_13 : Dc mX7_clear 13 (.aload_n 0) 1 14 := ⟨zo_42 (by decide +kernel), rfl⟩
theorem dX7_clear_14 : Dc mX7_clear 14 (.getfield 19) 3 17 := ⟨zo_180 (w := 0) (x := 19) (by decide +kernel), rfl⟩
theorem dX7_clear_17 : Dc mX7_clear 17 (.iconst 0) 1 18 := ⟨zo_3 (by decide +kernel), rfl⟩
theorem dX7_clear_18 : Dc mX7_clear 18 (.invokestatic 37) 3 21 := ⟨zo_184 (w := 0) (x := 37) (by decide +kernel), rfl⟩
theorem dX7_clear_21 : Dc mX7_clear 21 (.aload_n 0) 1 22 := ⟨zo_42 (by decide +kernel), rfl⟩
theorem dX7_clear_22 : Dc mX7_clear 22 (.getfield 22) 3 25 := ⟨zo_180 (w := 0) (x := 22) (by decide +kernel), rfl⟩
theorem dX7_clear_25 : Dc mX7_clear 25 (.iconst 0) 1 26 := ⟨zo_3 (by decide +kernel), rfl⟩
theorem dX7_clear_26 : Dc mX7_clear 26 (.invokestatic 37) 3 29 := ⟨zo_184 (w := 0) (x := 37) (by decide +kernel), rfl⟩
theorem dX7_clear_29 : Dc mX7_clear 29 (.aload_n 0) 1 30 := ⟨zo_42 (by decide +kernel), rfl⟩
theorem dX7_clear_30 : Dc mX7_clear 30 (.getfield 25) 3 33 := ⟨zo_180 (w := 0) (x := 25) (by decide +kernel), rfl⟩
theorem dX7_clear_33 : Dc mX7_clear 33 (.iconst 0) 1 34 := ⟨zo_3 (by decide +kernel), rfl⟩
theorem dX7_clear_34 : Dc mX7_clear 34 (.invokestatic 37) 3 37 := ⟨zo_184 (w := 0) (x := 37) (by decide +kernel), rfl⟩
theorem dX7_clear_37 : Dc mX7_clear 37 (.return_) 1 38 := ⟨zo_177 (by decide +kernel), rfl⟩
theorem dX7_copy_0 : Dc mX7_copy 0 (.aload_n 0) 1 1 := ⟨zo_42 (by decide +kernel), rfl⟩
theorem dX7_copy_1 : Dc mX7_copy 1 (.aload_n 1) 1 2 := ⟨zo_43 (by decide +kernel), rfl⟩
theorem dX7_copy_2 : Dc mX7_copy 2 (.getfield 9) 3 5 := ⟨zo_180 (w := 0) (x := 9) (by decide +kernel), rfl⟩
theorem dX7_copy_5 : Dc mX7_copy 5 (.putfield 9) 3 8 := ⟨zo_181 (w := 0) (x := 9) (by decide +kernel), rfl⟩
theorem dX7_copy_8 : Dc mX7_copy 8 (.aload_n 1) 1 9 := ⟨zo_43 (by decide +kernel), rfl⟩
theorem dX7_copy_9 : Dc mX7_copy 9 (.getfield 15) 3 12 := ⟨zo_180 (w := 0) (x := 15) (by decide +kernel), rfl⟩
theorem dX7_copy_12 : Dc mX7_copy 12 (.aload_n 0) 1 13 := ⟨zo_42 (by decide +kernel), rfl⟩
theorem dX7_copy_13 : Dc mX7_copy 13 (.getfield 15) 3 16 := ⟨zo_180 (w := 0) (x := 15) (by decide +kernel), rfl⟩
theorem dX7_copy_16 : Dc mX7_copy 16 (.invokestatic 41) 3 19 := ⟨zo_184 (w := 0) (x := 41) (by decide +kernel), rfl⟩
theorem dX7_copy_19 : Dc mX7_copy 19 (.aload_n 1) 1 20 := ⟨zo_43 (by decide +kernel), rfl⟩
theorem dX7_copy_20 : Dc mX7_copy 20 (.getfield 19) 3 23 := ⟨zo_180 (w := 0) (x := 19) (by decide +kernel), rfl⟩
theorem dX7_copy_23 : Dc mX7_copy 23 (.aload_n 0) 1 24 := ⟨zo_42 (by decide +kernel), rfl⟩
theorem dX7_copy_24 : Dc mX7_copy 24 (.getfield 19) 3 27 := ⟨zo_180 (w := 0) (x := 19) (by decide +kernel), rfl⟩
theorem dX7_copy_27 : Dc mX7_copy 27 (.invokestatic 41) 3 30 := ⟨zo_184 (w := 0) (x := 41) (by decide +kernel), rfl⟩
theorem dX7_copy_30 : Dc mX7_copy 30 (.aload_n 1) 1 31 := ⟨zo_43 (by decide +kernel), rfl⟩
theorem dX7_copy_31 : Dc mX7_copy 31 (.getfield 22) 3 34 := ⟨zo_180 (w := 0) (x := 22) (by decide +kernel), rfl⟩
theorem dX7_copy_34 : Dc mX7_copy 34 (.aload_n 0) 1 35 := ⟨zo_42 (by decide +kernel), rfl⟩
theorem dX7_copy_35 : Dc mX7_copy 35 (.getfield 22) 3 38 := ⟨zo_180 (w := 0) (x := 22) (by decide +kernel), rfl⟩
theorem dX7_copy_38 : Dc mX7_copy 38 (.invokestatic 41) 3 41 := ⟨zo_184 (w := 0) (x := 41) (by decide +kernel), rfl⟩
theorem dX7_copy_41 : Dc mX7_copy 41 (.aload_n 1) 1 42 := ⟨zo_43 (by decide +kernel), rfl⟩
theorem dX7_copy_42 : Dc mX7_copy 42 (.getfield 25) 3 45 := ⟨zo_180 (w := 0) (x := 25) (by decide +kernel), rfl⟩
theorem dX7_copy_45 : Dc mX7_copy 45 (.aload_n 0) 1 46 := ⟨zo_42 (by decide +kernel), rfl⟩
theorem dX7_copy_46 : Dc mX7_copy 46 (.getfield 25) 3 49 := ⟨zo_180 (w := 0) (x := 25) (by decide +kernel), rfl⟩
theorem dX7_copy_49 : Dc mX7_copy 49 (.invokestatic 41) 3 52 := ⟨zo_184 (w := 0) (x := 41) (by decide +kernel), rfl⟩
theorem dX7_copy_52 : Dc mX7_copy 52 (.return_) 1 53 := ⟨zo_177 (by decide +kernel), rfl⟩
theorem dX7_holds_0 : Dc mX7_holds 0 (.iload_n 1) 1 1 := ⟨zo_27 (by decide +kernel), rfl⟩
theorem dX7_holds_1 : Dc mX7_holds 1 (.ifCond .lt 15) 3 4 := ⟨zo_155 (w := 0) (x := 15) (by decide +kernel), rfl⟩
theorem dX7_holds_4 : Dc mX7_holds 4 (.iload_n 1) 1 5 := ⟨zo_27 (by decide +kernel), rfl⟩
theorem dX7_holds_5 : Dc mX7_holds 5 (.aload_n 0) 1 6 := ⟨zo_42 (by decide +kernel), rfl⟩
theorem dX7_holds_6 : Dc mX7_holds 6 (.getfield 9) 3 9 := ⟨zo_180 (w := 0) (x := 9) (by decide +kernel), rfl⟩
theorem dX7_holds_9 : Dc mX7_holds 9 (.if_icmp .ge 7) 3 12 := ⟨zo_162 (w := 0) (x := 7) (by decide +kernel), rfl⟩
theorem dX7_holds_12 : Dc mX7_holds 12 (.iconst 1) 1 13 := ⟨zo_4 (by decide +kernel), rfl⟩
theorem dX7_holds_13 : Dc mX7_holds 13 (.goto 4) 3 16 := ⟨zo_167 (w := 0) (x := 4) (by decide +kernel), rfl⟩
theorem dX7_holds_16 : Dc mX7_holds 16 (.iconst 0) 1 17 := ⟨zo_3 (by decide +kernel), rfl⟩
theorem dX7_holds_17 : Dc mX7_holds 17 (.ireturn) 1 18 := ⟨zo_172 (by decide +kernel), rfl⟩
theorem dX7_isFull_0 : Dc mX7_isFull 0 (.aload_n 0) 1 1 := ⟨zo_42 (by decide +kernel), rfl⟩
theorem dX7_isFull_1 : Dc mX7_isFull 1 (.getfield 9) 3 4 := ⟨zo_180 (w := 0) (x := 9) (by decide +kernel), rfl⟩
theorem dX7_isFull_4 : Dc mX7_isFull 4 (.aload_n 0) 1 5 := ⟨zo_42 (by decide +kernel), rfl⟩
theorem dX7_isFull_5 : Dc mX7_isFull 5 (.getfield 34) 3 8 := ⟨zo_180 (w := 0) (x := 34) (by decide +kernel), rfl⟩
theorem dX7_isFull_8 : Dc mX7_isFull 8 (.if_icmp .lt 7) 3 11 := ⟨zo_161 (w := 0) (x := 7) (by decide +kernel), rfl⟩
theorem dX7_isFull_11 : Dc mX7_isFull 11 (.iconst 1) 1 12 := ⟨zo_4 (by decide +kernel), rfl⟩
theorem dX7_isFull_12 : Dc mX7_isFull 12 (.goto 4) 3 15 := ⟨zo_167 (w := 0) (x := 4) (by decide +kernel), rfl⟩
theorem dX7_isFull_15 : Dc mX7_isFull 15 (.iconst 0) 1 16 := ⟨zo_3 (by decide +kernel), rfl⟩
theorem dX7_isFull_16 : Dc mX7_isFull 16 (.ireturn) 1 17 := ⟨zo_172 (by decide +kernel), rfl⟩
theorem dX7_find_0 : Dc mX7_find 0 (.iconst 0) 1 1 := ⟨zo_3 (by decide +kernel), rfl⟩
theorem dX7_find_1 : Dc mX7_find 1 (.istore_n 2) 1 2 := ⟨zo_61 (by decide +kernel), rfl⟩
theorem dX7_find_2 : Dc mX7_find 2 (.iload_n 2) 1 3 := ⟨zo_28 (by decide +kernel), rfl⟩
theorem dX7_find_3 : Dc mX7_find 3 (.aload_n 0) 1 4 := ⟨zo_42 (by decide +kernel), rfl⟩
theorem dX7_find_4 : Dc mX7_find 4 (.getfield 9) 3 7 := ⟨zo_180 (w := 0) (x := 9) (by decide +kernel), rfl⟩
theorem dX7_find_7 : Dc mX7_find 7 (.if_icmp .ge 23) 3 10 := ⟨zo_162 (w := 0) (x := 23) (by decide +kernel), rfl⟩
theorem dX7_find_10 : Dc mX7_find 10 (.aload_n 0) 1 11 := ⟨zo_42 (by decide +kernel), rfl⟩
theorem dX7_find_11 : Dc mX7_find 11 (.getfield 15) 3 14 := ⟨zo_180 (w := 0) (x := 15) (by decide +kernel), rfl⟩
theorem dX7_find_14 : Dc mX7_find 14 (.iload_n 2) 1 15 := ⟨zo_28 (by decide +kernel), rfl⟩
theorem dX7_find_15 : Dc mX7_find 15 (.invokestatic 45) 3 18 := ⟨zo_184 (w := 0) (x := 45) (by decide +kernel), rfl⟩
theorem dX7_find_18 : Dc mX7_find 18 (.iload_n 1) 1 19 := ⟨zo_27 (by decide +kernel), rfl⟩
theorem dX7_find_19 : Dc mX7_find 19 (.if_icmp .ne 5) 3 22 := ⟨zo_160 (w := 0) (x := 5) (by decide +kernel), rfl⟩
theorem dX7_find_22 : Dc mX7_find 22 (.iload_n 2) 1 23 := ⟨zo_28 (by decide +kernel), rfl⟩
theorem dX7_find_23 : Dc mX7_find 23 (.ireturn) 1 24 := ⟨zo_172 (by decide +kernel), rfl⟩
theorem dX7_find_24 : Dc mX7_find 24 (.iinc 2 1) 3 27 := ⟨zo_iinc (x := 1) (by decide +kernel), rfl⟩
theorem dX7_find_27 : Dc mX7_find 27 (.goto (-25)) 3 30 := ⟨zo_167 (w := 255) (x := 231) (by decide +kernel), rfl⟩
theorem dX7_find_30 : Dc mX7_find 30 (.iconst (-1)) 1 31 := ⟨zo_2 (by decide +kernel), rfl⟩
theorem dX7_find_31 : Dc mX7_find 31 (.ireturn) 1 32 := ⟨zo_172 (by decide +kernel), rfl⟩
theorem dX7_add_0 : Dc mX7_add 0 (.aload_n 0) 1 1 := ⟨zo_42 (by decide +kernel), rfl⟩
theorem dX7_add_1 : Dc mX7_add 1 (.getfield 9) 3 4 := ⟨zo_180 (w := 0) (x := 9) (by decide +kernel), rfl⟩
theorem dX7_add_4 : Dc mX7_add 4 (.aload_n 0) 1 5 := ⟨zo_42 (by decide +kernel), rfl⟩
theorem dX7_add_5 : Dc mX7_add 5 (.getfield 34) 3 8 := ⟨zo_180 (w := 0) (x := 34) (by decide +kernel), rfl⟩
theorem dX7_add_8 : Dc mX7_add 8 (.if_icmp .ge 62) 3 11 := ⟨zo_162 (w := 0) (x := 62) (by decide +kernel), rfl⟩
theorem dX7_add_11 : Dc mX7_add 11 (.aload_n 0) 1 12 := ⟨zo_42 (by decide +kernel), rfl⟩
theorem dX7_add_12 : Dc mX7_add 12 (.getfield 15) 3 15 := ⟨zo_180 (w := 0) (x := 15) (by decide +kernel), rfl⟩
theorem dX7_add_15 : Dc mX7_add 15 (.aload_n 0) 1 16 := ⟨zo_42 (by decide +kernel), rfl⟩
theorem dX7_add_16 : Dc mX7_add 16 (.getfield 9) 3 19 := ⟨zo_180 (w := 0) (x := 9) (by decide +kernel), rfl⟩
theorem dX7_add_19 : Dc mX7_add 19 (.iload_n 1) 1 20 := ⟨zo_27 (by decide +kernel), rfl⟩
theorem dX7_add_20 : Dc mX7_add 20 (.invokestatic 49) 3 23 := ⟨zo_184 (w := 0) (x := 49) (by decide +kernel), rfl⟩
theorem dX7_add_23 : Dc mX7_add 23 (.aload_n 0) 1 24 := ⟨zo_42 (by decide +kernel), rfl⟩
theorem dX7_add_24 : Dc mX7_add 24 (.getfield 19) 3 27 := ⟨zo_180 (w := 0) (x := 19) (by decide +kernel), rfl⟩
theorem dX7_add_27 : Dc mX7_add 27 (.aload_n 0) 1 28 := ⟨zo_42 (by decide +kernel), rfl⟩
theorem dX7_add_28 : Dc mX7_add 28 (.getfield 9) 3 31 := ⟨zo_180 (w := 0) (x := 9) (by decide +kernel), rfl⟩
theorem dX7_add_31 : Dc mX7_add 31 (.iload_n 2) 1 32 := ⟨zo_28 (by decide +kernel), rfl⟩
theorem dX7_add_32 : Dc mX7_add 32 (.invokestatic 49) 3 35 := ⟨zo_184 (w := 0) (x := 49) (by decide +kernel), rfl⟩
theorem dX7_add_35 : Dc mX7_add 35 (.aload_n 0) 1 36 := ⟨zo_42 (by decide +kernel), rfl⟩
theorem dX7_add_36 : Dc mX7_add 36 (.getfield 22) 3 39 := ⟨zo_180 (w := 0) (x := 22) (by decide +kernel), rfl⟩
theorem dX7_add_39 : Dc mX7_add 39 (.aload_n 0) 1 40 := ⟨zo_42 (by decide +kernel), rfl⟩
theorem dX7_add_40 : Dc mX7_add 40 (.getfield 9) 3 43 := ⟨zo_180 (w := 0) (x := 9) (by decide +kernel), rfl⟩
theorem dX7_add_43 : Dc mX7_add 43 (.iload_n 3) 1 44 := ⟨zo_29 (by decide +kernel), rfl⟩
theorem dX7_add_44 : Dc mX7_add 44 (.invokestatic 49) 3 47 := ⟨zo_184 (w := 0) (x := 49) (by decide +kernel), rfl⟩
theorem dX7_add_47 : Dc mX7_add 47 (.aload_n 0) 1 48 := ⟨zo_42 (by decide +kernel), rfl⟩
theorem dX7_add_48 : Dc mX7_add 48 (.getfield 25) 3 51 := ⟨zo_180 (w := 0) (x := 25) (by decide +kernel), rfl⟩
theorem dX7_add_51 : Dc mX7_add 51 (.aload_n 0) 1 52 := ⟨zo_42 (by decide +kernel), rfl⟩
theorem dX7_add_52 : Dc mX7_add 52 (.getfield 9) 3 55 := ⟨zo_180 (w := 0) (x := 9) (by decide +kernel), rfl⟩
theorem dX7_add_55 : Dc mX7_add 55 (.iload 4) 2 57 := ⟨zo_21 (by decide +kernel), rfl⟩
theorem dX7_add_57 : Dc mX7_add 57 (.invokestatic 49) 3 60 := ⟨zo_184 (w := 0) (x := 49) (by decide +kernel), rfl⟩
theorem dX7_add_60 : Dc mX7_add 60 (.aload_n 0) 1 61 := ⟨zo_42 (by decide +kernel), rfl⟩
theorem dX7_add_61 : Dc mX7_add 61 (.dup) 1 62 := ⟨zo_89 (by decide +kernel), rfl⟩
theorem dX7_add_62 : Dc mX7_add 62 (.getfield 9) 3 65 := ⟨zo_180 (w := 0) (x := 9) (by decide +kernel), rfl⟩
theorem dX7_add_65 : Dc mX7_add 65 (.iconst 1) 1 66 := ⟨zo_4 (by decide +kernel), rfl⟩
theorem dX7_add_66 : Dc mX7_add 66 (.iadd) 1 67 := ⟨zo_96 (by decide +kernel), rfl⟩
theorem dX7_add_67 : Dc mX7_add 67 (.putfield 9) 3 70 := ⟨zo_181 (w := 0) (x := 9) (by decide +kernel), rfl⟩
theorem dX7_add_70 : Dc mX7_add 70 (.return_) 1 71 := ⟨zo_177 (by decide +kernel), rfl⟩
theorem dX8_init_0 : Dc mX8_init 0 (.aload_n 0) 1 1 := ⟨zo_42 (by decide +kernel), rfl⟩
theorem dX8_init_1 : Dc mX8_init 1 (.invokespecial 3) 3 4 := ⟨zo_183 (w := 0) (x := 3) (by decide +kernel), rfl⟩
theorem dX8_init_4 : Dc mX8_init 4 (.aload_n 0) 1 5 := ⟨zo_42 (by decide +kernel), rfl⟩
theorem dX8_init_5 : Dc mX8_init 5 (.bipush 23) 2 7 := ⟨zo_16 (w := 23) (by decide +kernel), rfl⟩
theorem dX8_init_7 : Dc mX8_init 7 (.newarray .int) 2 9 := ⟨by decide +kernel, rfl⟩
theorem dX8_init_9 : Dc mX8_init 9 (.putfield 11) 3 12 := ⟨zo_181 (w := 0) (x := 11) (by decide +kernel), rfl⟩
theorem dX8_init_12 : Dc mX8_init 12 (.aload_n 0) 1 13 := ⟨zo_42 (by decide +kernel), rfl⟩
theorem dX8_init_13 : Dc mX8_init 13 (.iconst 1) 1 14 := ⟨zo_4 (by decide +kernel), rfl⟩
theorem dX8_init_14 : Dc mX8_init 14 (.newarray .byte) 2 16 := ⟨by decide +kernel, rfl⟩
theorem dX8_init_16 : Dc mX8_init 16 (.putfield 15) 3 19 := ⟨zo_181 (w := 0) (x := 15) (by decide +kernel), rfl⟩
theorem dX8_init_19 : Dc mX8_init 19 (.aload_n 0) 1 20 := ⟨zo_42 (by decide +kernel), rfl⟩
theorem dX8_init_20 : Dc mX8_init 20 (.iconst 0) 1 21 := ⟨zo_3 (by decide +kernel), rfl⟩
theorem dX8_init_21 : Dc mX8_init 21 (.putfield 19) 3 24 := ⟨zo_181 (w := 0) (x := 19) (by decide +kernel), rfl⟩
theorem dX8_init_24 : Dc mX8_init 24 (.aload_n 0) 1 25 := ⟨zo_42 (by decide +kernel), rfl⟩
theorem dX8_init_25 : Dc mX8_init 25 (.iconst 0) 1 26 := ⟨zo_3 (by decide +kernel), rfl⟩
theorem dX8_init_26 : Dc mX8_init 26 (.putfield 23) 3 29 := ⟨zo_181 (w := 0) (x := 23) (by decide +kernel), rfl⟩
theorem dX8_init_29 : Dc mX8_init 29 (.aload_n 0) 1 30 := ⟨zo_42 (by decide +kernel), rfl⟩
theorem dX8_init_30 : Dc mX8_init 30 (.iconst 0) 1 31 := ⟨zo_3 (by decide +kernel), rfl⟩
theorem dX8_init_31 : Dc mX8_init 31 (.putfield 26) 3 34 := ⟨zo_181 (w := 0) (x := 26) (by decide +kernel), rfl⟩
theorem dX8_init_34 : Dc mX8_init 34 (.aload_n 0) 1 35 := ⟨zo_42 (by decide +kernel), rfl⟩
theorem dX8_init_35 : Dc mX8_init 35 (.iconst 0) 1 36 := ⟨zo_3 (by decide +kernel), rfl⟩
theorem dX8_init_36 : Dc mX8_init 36 (.putfield 30) 3 39 := ⟨zo_181 (w := 0) (x := 30) (by decide +kernel), rfl⟩
theorem dX8_init_39 : Dc mX8_init 39 (.aload_n 0) 1 40 := ⟨zo_42 (by decide +kernel), rfl⟩
theorem dX8_init_40 : Dc mX8_init 40 (.iconst 0) 1 41 := ⟨zo_3 (by decide +kernel), rfl⟩
theorem dX8_init_41 : Dc mX8_init 41 (.putfield 33) 3 44 := ⟨zo_181 (w := 0) (x := 33) (by decide +kernel), rfl⟩
theorem dX8_init_44 : Dc mX8_init 44 (.aload_n 0) 1 45 := ⟨zo_42 (by decide +kernel), rfl⟩
theorem dX8_init_45 : Dc mX8_init 45 (.iconst 0) 1 46 := ⟨zo_3 (by decide +kernel), rfl⟩
theorem dX8_init_46 : Dc mX8_init 46 (.putfield 36) 3 49 := ⟨zo_181 (w := 0) (x := 36) (by decide +kernel), rfl⟩
theorem dX8_init_49 : Dc mX8_init 49 (.iconst 0) 1 50 := ⟨zo_3 (by decide +kernel), rfl⟩
theorem dX8_init_50 : Dc mX8_init 50 (.istore_n 1) 1 51 := ⟨zo_60 (by decide +kernel), rfl⟩
theorem dX8_init_51 : Dc mX8_init 51 (.iload_n 1) 1 52 := ⟨zo_27 (by decide +kernel), rfl⟩
theorem dX8_init_52 : Dc mX8_init 52 (.ldc 39) 2 54 := ⟨zo_18 (by decide +kernel), rfl⟩
theorem dX8_init_54 : Dc mX8_init 54 (.invokevirtual 41) 3 57 := ⟨zo_182 (w := 0) (x := 41) (by decide +kernel), rfl⟩
theorem dX8_init_57 : Dc mX8_init 57 (.if_icmp .ge 59) 3 60 := ⟨zo_162 (w := 0) (x := 59) (by decide +kernel), rfl⟩
theorem dX8_init_60 : Dc mX8_init 60 (.ldc 39) 2 62 := ⟨zo_18 (by decide +kernel), rfl⟩
theorem dX8_init_62 : Dc mX8_init 62 (.iload_n 1) 1 63 := ⟨zo_27 (by decide +kernel), rfl⟩
theorem dX8_init_63 : Dc mX8_init 63 (.invokevirtual 47) 3 66 := ⟨zo_182 (w := 0) (x := 47) (by decide +kernel), rfl⟩
theorem dX8_init_66 : Dc mX8_init 66 (.istore_n 2) 1 67 := ⟨zo_61 (by decide +kernel), rfl⟩
theorem dX8_init_67 : Dc mX8_init 67 (.aload_n 0) 1 68 := ⟨zo_42 (by decide +kernel), rfl⟩
theorem dX8_init_68 : Dc mX8_init 68 (.getfield 11) 3 71 := ⟨zo_180 (w := 0) (x := 11) (by decide +kernel), rfl⟩
theorem dX8_init_71 : Dc mX8_init 71 (.iload_n 1) 1 72 := ⟨zo_27 (by decide +kernel), rfl⟩
theorem dX8_init_72 : Dc mX8_init 72 (.bipush 6) 2 74 := ⟨zo_16 (w := 6) (by decide +kernel), rfl⟩
theorem dX8_init_74 : Dc mX8_init 74 (.idiv) 1 75 := ⟨zo_108 (by decide +kernel), rfl⟩
theorem dX8_init_75 : Dc mX8_init 75 (.invokestatic 51) 3 78 := ⟨zo_184 (w := 0) (x := 51) (by decide +kernel), rfl⟩
theorem dX8_init_78 : Dc mX8_init 78 (.istore_n 3) 1 79 := ⟨zo_62 (by decide +kernel), rfl⟩
theorem dX8_init_79 : Dc mX8_init 79 (.aload_n 0) 1 80 := ⟨zo_42 (by decide +kernel), rfl⟩
theorem dX8_init_80 : Dc mX8_init 80 (.getfield 11) 3 83 := ⟨zo_180 (w := 0) (x := 11) (by decide +kernel), rfl⟩
theorem dX8_init_83 : Dc mX8_init 83 (.iload_n 1) 1 84 := ⟨zo_27 (by decide +kernel), rfl⟩
theorem dX8_init_84 : Dc mX8_init 84 (.bipush 6) 2 86 := ⟨zo_16 (w := 6) (by decide +kernel), rfl⟩
theorem dX8_init_86 : Dc mX8_init 86 (.idiv) 1 87 := ⟨zo_108 (by decide +kernel), rfl⟩
theorem dX8_init_87 : Dc mX8_init 87 (.iload_n 2) 1 88 := ⟨zo_28 (by decide +kernel), rfl⟩
theorem dX8_init_88 : Dc mX8_init 88 (.bipush 32) 2 90 := ⟨zo_16 (w := 32) (by decide +kernel), rfl⟩
theorem dX8_init_90 : Dc mX8_init 90 (.if_icmp .ne 7) 3 93 := ⟨zo_160 (w := 0) (x := 7) (by decide +kernel), rfl⟩
theorem dX8_init_93 : Dc mX8_init 93 (.iload_n 3) 1 94 := ⟨zo_29 (by decide +kernel), rfl⟩
theorem dX8_init_94 : Dc mX8_init 94 (.goto 13) 3 97 := ⟨zo_167 (w := 0) (x := 13) (by decide +kernel), rfl⟩
theorem dX8_init_97 : Dc mX8_init 97 (.iload_n 3) 1 98 := ⟨zo_29 (by decide +kernel), rfl⟩
theorem dX8_init_98 : Dc mX8_init 98 (.iload_n 2) 1 99 := ⟨zo_28 (by decide +kernel), rfl⟩
theorem dX8_init_99 : Dc mX8_init 99 (.iload_n 1) 1 100 := ⟨zo_27 (by decide +kernel), rfl⟩
theorem dX8_init_100 : Dc mX8_init 100 (.bipush 6) 2 102 := ⟨zo_16 (w := 6) (by decide +kernel), rfl⟩
theorem dX8_init_102 : Dc mX8_init 102 (.irem) 1 103 := ⟨zo_112 (by decide +kernel), rfl⟩
theorem dX8_init_103 : Dc mX8_init 103 (.invokestatic 55) 3 106 := ⟨zo_184 (w := 0) (x := 55) (by decide +kernel), rfl⟩
theorem dX8_init_106 : Dc mX8_init 106 (.ior) 1 107 := ⟨zo_128 (by decide +kernel), rfl⟩
theorem dX8_init_107 : Dc mX8_init 107 (.invokestatic 59) 3 110 := ⟨zo_184 (w := 0) (x := 59) (by decide +kernel), rfl⟩
theorem dX8_init_110 : Dc mX8_init 110 (.iinc 1 1) 3 113 := ⟨zo_iinc (x := 1) (by decide +kernel), rfl⟩
theorem dX8_init_113 : Dc mX8_init 113 (.goto (-62)) 3 116 := ⟨zo_167 (w := 255) (x := 194) (by decide +kernel), rfl⟩
theorem dX8_init_116 : Dc mX8_init 116 (.return_) 1 117 := ⟨zo_177 (by decide +kernel), rfl⟩
theorem dX8_packed_0 : Dc mX8_packed 0 (.iload_n 1) 1 1 := ⟨zo_27 (by decide +kernel), rfl⟩
theorem dX8_packed_1 : Dc mX8_packed 1 (.bipush 6) 2 3 := ⟨zo_16 (w := 6) (by decide +kernel), rfl⟩
theorem dX8_packed_3 : Dc mX8_packed 3 (.if_icmp .ge 18) 3 6 := ⟨zo_162 (w := 0) (x := 18) (by decide +kernel), rfl⟩
theorem dX8_packed_6 : Dc mX8_packed 6 (.iload_n 0) 1 7 := ⟨zo_26 (by decide +kernel), rfl⟩
theorem dX8_packed_7 : Dc mX8_packed 7 (.bipush 97) 2 9 := ⟨zo_16 (w := 97) (by decide +kernel), rfl⟩
theorem dX8_packed_9 : Dc mX8_packed 9 (.isub) 1 10 := ⟨zo_100 (by decide +kernel), rfl⟩
theorem dX8_packed_10 : Dc mX8_packed 10 (.iconst 1) 1 11 := ⟨zo_4 (by decide +kernel), rfl⟩
theorem dX8_packed_11 : Dc mX8_packed 11 (.iadd) 1 12 := ⟨zo_96 (by decide +kernel), rfl⟩
theorem dX8_packed_12 : Dc mX8_packed 12 (.iconst 5) 1 13 := ⟨zo_8 (by decide +kernel), rfl⟩
theorem dX8_packed_13 : Dc mX8_packed 13 (.iconst 5) 1 14 := ⟨zo_8 (by decide +kernel), rfl⟩
theorem dX8_packed_14 : Dc mX8_packed 14 (.iload_n 1) 1 15 := ⟨zo_27 (by decide +kernel), rfl⟩
theorem dX8_packed_15 : Dc mX8_packed 15 (.isub) 1 16 := ⟨zo_100 (by decide +kernel), rfl⟩
theorem dX8_packed_16 : Dc mX8_packed 16 (.imul) 1 17 := ⟨zo_104 (by decide +kernel), rfl⟩
theorem dX8_packed_17 : Dc mX8_packed 17 (.ishl) 1 18 := ⟨zo_120 (by decide +kernel), rfl⟩
theorem dX8_packed_18 : Dc mX8_packed 18 (.goto 4) 3 21 := ⟨zo_167 (w := 0) (x := 4) (by decide +kernel), rfl⟩
theorem dX8_packed_21 : Dc mX8_packed 21 (.iconst 0) 1 22 := ⟨zo_3 (by decide +kernel), rfl⟩
theorem dX8_packed_22 : Dc mX8_packed 22 (.ireturn) 1 23 := ⟨zo_172 (by decide +kernel), rfl⟩
theorem dX8_isLetter_0 : Dc mX8_isLetter 0 (.iload_n 0) 1 1 := ⟨zo_26 (by decide +kernel), rfl⟩
theorem dX8_isLetter_1 : Dc mX8_isLetter 1 (.bipush 97) 2 3 := ⟨zo_16 (w := 97) (by decide +kernel), rfl⟩
theorem dX8_isLetter_3 : Dc mX8_isLetter 3 (.if_icmp .lt 13) 3 6 := ⟨zo_161 (w := 0) (x := 13) (by decide +kernel), rfl⟩
theorem dX8_isLetter_6 : Dc mX8_isLetter 6 (.iload_n 0) 1 7 := ⟨zo_26 (by decide +kernel), rfl⟩
theorem dX8_isLetter_7 : Dc mX8_isLetter 7 (.bipush 122) 2 9 := ⟨zo_16 (w := 122) (by decide +kernel), rfl⟩
theorem dX8_isLetter_9 : Dc mX8_isLetter 9 (.if_icmp .gt 7) 3 12 := ⟨zo_163 (w := 0) (x := 7) (by decide +kernel), rfl⟩
theorem dX8_isLetter_12 : Dc mX8_isLetter 12 (.iconst 1) 1 13 := ⟨zo_4 (by decide +kernel), rfl⟩
theorem dX8_isLetter_13 : Dc mX8_isLetter 13 (.goto 4) 3 16 := ⟨zo_167 (w := 0) (x := 4) (by decide +kernel), rfl⟩
theorem dX8_isLetter_16 : Dc mX8_isLetter 16 (.iconst 0) 1 17 := ⟨zo_3 (by decide +kernel), rfl⟩
theorem dX8_isLetter_17 : Dc mX8_isLetter 17 (.ireturn) 1 18 := ⟨zo_172 (by decide +kernel), rfl⟩
theorem dX8_isDigit_0 : Dc mX8_isDigit 0 (.iload_n 0) 1 1 := ⟨zo_26 (by decide +kernel), rfl⟩
theorem dX8_isDigit_1 : Dc mX8_isDigit 1 (.bipush 48) 2 3 := ⟨zo_16 (w := 48) (by decide +kernel), rfl⟩
theorem dX8_isDigit_3 : Dc mX8_isDigit 3 (.if_icmp .lt 13) 3 6 := ⟨zo_161 (w := 0) (x := 13) (by decide +kernel), rfl⟩
theorem dX8_isDigit_6 : Dc mX8_isDigit 6 (.iload_n 0) 1 7 := ⟨zo_26 (by decide +kernel), rfl⟩
theorem dX8_isDigit_7 : Dc mX8_isDigit 7 (.bipush 57) 2 9 := ⟨zo_16 (w := 57) (by decide +kernel), rfl⟩
theorem dX8_isDigit_9 : Dc mX8_isDigit 9 (.if_icmp .gt 7) 3 12 := ⟨zo_163 (w := 0) (x := 7) (by decide +kernel), rfl⟩
theorem dX8_isDigit_12 : Dc mX8_isDigit 12 (.iconst 1) 1 13 := ⟨zo_4 (by decide +kernel), rfl⟩
theorem dX8_isDigit_13 : Dc mX8_isDigit 13 (.goto 4) 3 16 := ⟨zo_167 (w := 0) (x := 4) (by decide +kernel), rfl⟩
theorem dX8_isDigit_16 : Dc mX8_isDigit 16 (.iconst 0) 1 17 := ⟨zo_3 (by decide +kernel), rfl⟩
theorem dX8_isDigit_17 : Dc mX8_isDigit 17 (.ireturn) 1 18 := ⟨zo_172 (by decide +kernel), rfl⟩
theorem dX8_signAt_0 : Dc mX8_signAt 0 (.iload_n 1) 1 1 := ⟨zo_27 (by decide +kernel), rfl⟩
theorem dX8_signAt_1 : Dc mX8_signAt 1 (.ifCond .lt 33) 3 4 := ⟨zo_155 (w := 0) (x := 33) (by decide +kernel), rfl⟩
theorem dX8_signAt_4 : Dc mX8_signAt 4 (.iload_n 1) 1 5 := ⟨zo_27 (by decide +kernel), rfl⟩
theorem dX8_signAt_5 : Dc mX8_signAt 5 (.aload_n 0) 1 6 := ⟨zo_42 (by decide +kernel), rfl⟩
theorem dX8_signAt_6 : Dc mX8_signAt 6 (.getfield 19) 3 9 := ⟨zo_180 (w := 0) (x := 19) (by decide +kernel), rfl⟩
theorem dX8_signAt_9 : Dc mX8_signAt 9 (.if_icmp .ge 25) 3 12 := ⟨zo_162 (w := 0) (x := 25) (by decide +kernel), rfl⟩
theorem dX8_signAt_12 : Dc mX8_signAt 12 (.iload_n 1) 1 13 := ⟨zo_27 (by decide +kernel), rfl⟩
theorem dX8_signAt_13 : Dc mX8_signAt 13 (.aload_n 0) 1 14 := ⟨zo_42 (by decide +kernel), rfl⟩
theorem dX8_signAt_14 : Dc mX8_signAt 14 (.getfield 15) 3 17 := ⟨zo_180 (w := 0) (x := 15) (by decide +kernel), rfl⟩
theorem dX8_signAt_17 : Dc mX8_signAt 17 (.arraylength) 1 18 := ⟨zo_190 (by decide +kernel), rfl⟩
theorem dX8_signAt_18 : Dc mX8_signAt 18 (.if_icmp .ge 16) 3 21 := ⟨zo_162 (w := 0) (x := 16) (by decide +kernel), rfl⟩
theorem dX8_signAt_21 : Dc mX8_signAt 21 (.aload_n 0) 1 22 := ⟨zo_42 (by decide +kernel), rfl⟩
theorem dX8_signAt_22 : Dc mX8_signAt 22 (.getfield 15) 3 25 := ⟨zo_180 (w := 0) (x := 15) (by decide +kernel), rfl⟩
theorem dX8_signAt_25 : Dc mX8_signAt 25 (.iload_n 1) 1 26 := ⟨zo_27 (by decide +kernel), rfl⟩
theorem dX8_signAt_26 : Dc mX8_signAt 26 (.baload) 1 27 := ⟨zo_51 (by decide +kernel), rfl⟩
theorem dX8_signAt_27 : Dc mX8_signAt 27 (.sipush 255) 3 30 := ⟨zo_17 (w := 0) (x := 255) (by decide +kernel), rfl⟩
theorem dX8_signAt_30 : Dc mX8_signAt 30 (.iand) 1 31 := ⟨zo_126 (by decide +kernel), rfl⟩
theorem dX8_signAt_31 : Dc mX8_signAt 31 (.goto 4) 3 34 := ⟨zo_167 (w := 0) (x := 4) (by decide +kernel), rfl⟩
theorem dX8_signAt_34 : Dc mX8_signAt 34 (.iconst (-1)) 1 35 := ⟨zo_2 (by decide +kernel), rfl⟩
theorem dX8_signAt_35 : Dc mX8_signAt 35 (.ireturn) 1 36 := ⟨zo_172 (by decide +kernel), rfl⟩
theorem dX8_begin_0 : Dc mX8_begin 0 (.aload_n 0) 1 1 := ⟨zo_42 (by decide +kernel), rfl⟩
theorem dX8_begin_1 : Dc mX8_begin 1 (.aload_n 1) 1 2 := ⟨zo_43 (by decide +kernel), rfl⟩
theorem dX8_begin_2 : Dc mX8_begin 2 (.putfield 15) 3 5 := ⟨zo_181 (w := 0) (x := 15) (by decide +kernel), rfl⟩
theorem dX8_begin_5 : Dc mX8_begin 5 (.aload_n 0) 1 6 := ⟨zo_42 (by decide +kernel), rfl⟩
theorem dX8_begin_6 : Dc mX8_begin 6 (.iload_n 2) 1 7 := ⟨zo_28 (by decide +kernel), rfl⟩
theorem dX8_begin_7 : Dc mX8_begin 7 (.putfield 19) 3 10 := ⟨zo_181 (w := 0) (x := 19) (by decide +kernel), rfl⟩
theorem dX8_begin_10 : Dc mX8_begin 10 (.aload_n 0) 1 11 := ⟨zo_42 (by decide +kernel), rfl⟩
theorem dX8_begin_11 : Dc mX8_begin 11 (.iconst 0) 1 12 := ⟨zo_3 (by decide +kernel), rfl⟩
theorem dX8_begin_12 : Dc mX8_begin 12 (.putfield 23) 3 15 := ⟨zo_181 (w := 0) (x := 23) (by decide +kernel), rfl⟩
theorem dX8_begin_15 : Dc mX8_begin 15 (.aload_n 0) 1 16 := ⟨zo_42 (by decide +kernel), rfl⟩
theorem dX8_begin_16 : Dc mX8_begin 16 (.iconst 0) 1 17 := ⟨zo_3 (by decide +kernel), rfl⟩
theorem dX8_begin_17 : Dc mX8_begin 17 (.putfield 26) 3 20 := ⟨zo_181 (w := 0) (x := 26) (by decide +kernel), rfl⟩
theorem dX8_begin_20 : Dc mX8_begin 20 (.aload_n 0) 1 21 := ⟨zo_42 (by decide +kernel), rfl⟩
theorem dX8_begin_21 : Dc mX8_begin 21 (.invokevirtual 63) 3 24 := ⟨zo_182 (w := 0) (x := 63) (by decide +kernel), rfl⟩
theorem dX8_begin_24 : Dc mX8_begin 24 (.return_) 1 25 := ⟨zo_177 (by decide +kernel), rfl⟩
theorem dX8_step_0 : Dc mX8_step 0 (.aload_n 0) 1 1 := ⟨zo_42 (by decide +kernel), rfl⟩
theorem dX8_step_1 : Dc mX8_step 1 (.getfield 26) 3 4 := ⟨zo_180 (w := 0) (x := 26) (by decide +kernel), rfl⟩
theorem dX8_step_4 : Dc mX8_step 4 (.ifCond .eq 4) 3 7 := ⟨zo_153 (w := 0) (x := 4) (by decide +kernel), rfl⟩
theorem dX8_step_7 : Dc mX8_step 7 (.return_) 1 8 := ⟨zo_177 (by decide +kernel), rfl⟩
theorem dX8_step_8 : Dc mX8_step 8 (.aload_n 0) 1 9 := ⟨zo_42 (by decide +kernel), rfl⟩
theorem dX8_step_9 : Dc mX8_step 9 (.aload_n 0) 1 10 := ⟨zo_42 (by decide +kernel), rfl⟩
theorem dX8_step_10 : Dc mX8_step 10 (.getfield 23) 3 13 := ⟨zo_180 (w := 0) (x := 23) (by decide +kernel), rfl⟩
theorem dX8_step_13 : Dc mX8_step 13 (.invokevirtual 66) 3 16 := ⟨zo_182 (w := 0) (x := 66) (by decide +kernel), rfl⟩
theorem dX8_step_16 : Dc mX8_step 16 (.istore_n 1) 1 17 := ⟨zo_60 (by decide +kernel), rfl⟩
theorem dX8_step_17 : Dc mX8_step 17 (.aload_n 0) 1 18 := ⟨zo_42 (by decide +kernel), rfl⟩
theorem dX8_step_18 : Dc mX8_step 18 (.getfield 23) 3 21 := ⟨zo_180 (w := 0) (x := 23) (by decide +kernel), rfl⟩
theorem dX8_step_21 : Dc mX8_step 21 (.aload_n 0) 1 22 := ⟨zo_42 (by decide +kernel), rfl⟩
theorem dX8_step_22 : Dc mX8_step 22 (.getfield 19) 3 25 := ⟨zo_180 (w := 0) (x := 19) (by decide +kernel), rfl⟩
theorem dX8_step_25 : Dc mX8_step 25 (.if_icmp .ge 37) 3 28 := ⟨zo_162 (w := 0) (x := 37) (by decide +kernel), rfl⟩
theorem dX8_step_28 : Dc mX8_step 28 (.iload_n 1) 1 29 := ⟨zo_27 (by decide +kernel), rfl⟩
theorem dX8_step_29 : Dc mX8_step 29 (.bipush 32) 2 31 := ⟨zo_16 (w := 32) (by decide +kernel), rfl⟩
theorem dX8_step_31 : Dc mX8_step 31 (.if_icmp .eq 9) 3 34 := ⟨zo_159 (w := 0) (x := 9) (by decide +kernel), rfl⟩
theorem dX8_step_34 : Dc mX8_step 34 (.iload_n 1) 1 35 := ⟨zo_27 (by decide +kernel), rfl⟩
theorem dX8_step_35 : Dc mX8_step 35 (.bipush 10) 2 37 := ⟨zo_16 (w := 10) (by decide +kernel), rfl⟩
theorem dX8_step_37 : Dc mX8_step 37 (.if_icmp .ne 25) 3 40 := ⟨zo_160 (w := 0) (x := 25) (by decide +kernel), rfl⟩
theorem dX8_step_40 : Dc mX8_step 40 (.aload_n 0) 1 41 := ⟨zo_42 (by decide +kernel), rfl⟩
theorem dX8_step_41 : Dc mX8_step 41 (.dup) 1 42 := ⟨zo_89 (by decide +kernel), rfl⟩
theorem dX8_step_42 : Dc mX8_step 42 (.getfield 23) 3 45 := ⟨zo_180 (w := 0) (x := 23) (by decide +kernel), rfl⟩
theorem dX8_step_45 : Dc mX8_step 45 (.iconst 1) 1 46 := ⟨zo_4 (by decide +kernel), rfl⟩
theorem dX8_step_46 : Dc mX8_step 46 (.iadd) 1 47 := ⟨zo_96 (by decide +kernel), rfl⟩
theorem dX8_step_47 : Dc mX8_step 47 (.putfield 23) 3 50 := ⟨zo_181 (w := 0) (x := 23) (by decide +kernel), rfl⟩
theorem dX8_step_50 : Dc mX8_step 50 (.aload_n 0) 1 51 := ⟨zo_42 (by decide +kernel), rfl⟩
theorem dX8_step_51 : Dc mX8_step 51 (.aload_n 0) 1 52 := ⟨zo_42 (by decide +kernel), rfl⟩
theorem dX8_step_52 : Dc mX8_step 52 (.getfield 23) 3 55 := ⟨zo_180 (w := 0) (x := 23) (by decide +kernel), rfl⟩
theorem dX8_step_55 : Dc mX8_step 55 (.invokevirtual 66) 3 58 := ⟨zo_182 (w := 0) (x := 66) (by decide +kernel), rfl⟩
theorem dX8_step_58 : Dc mX8_step 58 (.istore_n 1) 1 59 := ⟨zo_60 (by decide +kernel), rfl⟩
theorem dX8_step_59 : Dc mX8_step 59 (.goto (-42)) 3 62 := ⟨zo_167 (w := 255) (x := 214) (by decide +kernel), rfl⟩
theorem dX8_step_62 : Dc mX8_step 62 (.aload_n 0) 1 63 := ⟨zo_42 (by decide +kernel), rfl⟩
theorem dX8_step_63 : Dc mX8_step 63 (.aload_n 0) 1 64 := ⟨zo_42 (by decide +kernel), rfl⟩
theorem dX8_step_64 : Dc mX8_step 64 (.getfield 23) 3 67 := ⟨zo_180 (w := 0) (x := 23) (by decide +kernel), rfl⟩
theorem dX8_step_67 : Dc mX8_step 67 (.putfield 36) 3 70 := ⟨zo_181 (w := 0) (x := 36) (by decide +kernel), rfl⟩
theorem dX8_step_70 : Dc mX8_step 70 (.aload_n 0) 1 71 := ⟨zo_42 (by decide +kernel), rfl⟩
theorem dX8_step_71 : Dc mX8_step 71 (.aload_n 0) 1 72 := ⟨zo_42 (by decide +kernel), rfl⟩
theorem dX8_step_72 : Dc mX8_step 72 (.getfield 23) 3 75 := ⟨zo_180 (w := 0) (x := 23) (by decide +kernel), rfl⟩
theorem dX8_step_75 : Dc mX8_step 75 (.invokevirtual 66) 3 78 := ⟨zo_182 (w := 0) (x := 66) (by decide +kernel), rfl⟩
theorem dX8_step_78 : Dc mX8_step 78 (.istore_n 1) 1 79 := ⟨zo_60 (by decide +kernel), rfl⟩
theorem dX8_step_79 : Dc mX8_step 79 (.iload_n 1) 1 80 := ⟨zo_27 (by decide +kernel), rfl⟩
theorem dX8_step_80 : Dc mX8_step 80 (.ifCond .ge 11) 3 83 := ⟨zo_156 (w := 0) (x := 11) (by decide +kernel), rfl⟩
theorem dX8_step_83 : Dc mX8_step 83 (.aload_n 0) 1 84 := ⟨zo_42 (by decide +kernel), rfl⟩
theorem dX8_step_84 : Dc mX8_step 84 (.iconst 0) 1 85 := ⟨zo_3 (by decide +kernel), rfl⟩
theorem dX8_step_85 : Dc mX8_step 85 (.putfield 30) 3 88 := ⟨zo_181 (w := 0) (x := 30) (by decide +kernel), rfl⟩
theorem dX8_step_88 : Dc mX8_step 88 (.goto 81) 3 91 := ⟨zo_167 (w := 0) (x := 81) (by decide +kernel), rfl⟩
theorem dX8_step_91 : Dc mX8_step 91 (.iload_n 1) 1 92 := ⟨zo_27 (by decide +kernel), rfl⟩
theorem dX8_step_92 : Dc mX8_step 92 (.invokestatic 70) 3 95 := ⟨zo_184 (w := 0) (x := 70) (by decide +kernel), rfl⟩
theorem dX8_step_95 : Dc mX8_step 95 (.ifCond .eq 10) 3 98 := ⟨zo_153 (w := 0) (x := 10) (by decide +kernel), rfl⟩
theorem dX8_step_98 : Dc mX8_step 98 (.aload_n 0) 1 99 := ⟨zo_42 (by decide +kernel), rfl⟩
theorem dX8_step_99 : Dc mX8_step 99 (.invokevirtual 74) 3 102 := ⟨zo_182 (w := 0) (x := 74) (by decide +kernel), rfl⟩
theorem dX8_step_102 : Dc mX8_step 102 (.goto 67) 3 105 := ⟨zo_167 (w := 0) (x := 67) (by decide +kernel), rfl⟩
theorem dX8_step_105 : Dc mX8_step 105 (.iload_n 1) 1 106 := ⟨zo_27 (by decide +kernel), rfl⟩
theorem dX8_step_106 : Dc mX8_step 106 (.invokestatic 77) 3 109 := ⟨zo_184 (w := 0) (x := 77) (by decide +kernel), rfl⟩
theorem dX8_step_109 : Dc mX8_step 109 (.ifCond .eq 10) 3 112 := ⟨zo_153 (w := 0) (x := 10) (by decide +kernel), rfl⟩
theorem dX8_step_112 : Dc mX8_step 112 (.aload_n 0) 1 113 := ⟨zo_42 (by decide +kernel), rfl⟩
theorem dX8_step_113 : Dc mX8_step 113 (.invokevirtual 80) 3 116 := ⟨zo_182 (w := 0) (x := 80) (by decide +kernel), rfl⟩
theorem dX8_step_116 : Dc mX8_step 116 (.goto 53) 3 119 := ⟨zo_167 (w := 0) (x := 53) (by decide +kernel), rfl⟩
theorem dX8_step_119 : Dc mX8_step 119 (.aload_n 0) 1 120 := ⟨zo_42 (by decide +kernel), rfl⟩
theorem dX8_step_120 : Dc mX8_step 120 (.dup) 1 121 := ⟨zo_89 (by decide +kernel), rfl⟩
theorem dX8_step_121 : Dc mX8_step 121 (.getfield 23) 3 124 := ⟨zo_180 (w := 0) (x := 23) (by decide +kernel), rfl⟩
theorem dX8_step_124 : Dc mX8_step 124 (.iconst 1) 1 125 := ⟨zo_4 (by decide +kernel), rfl⟩
theorem dX8_step_125 : Dc mX8_step 125 (.iadd) 1 126 := ⟨zo_96 (by decide +kernel), rfl⟩
theorem dX8_step_126 : Dc mX8_step 126 (.putfield 23) 3 129 := ⟨zo_181 (w := 0) (x := 23) (by decide +kernel), rfl⟩
theorem dX8_step_129 : Dc mX8_step 129 (.aload_n 0) 1 130 := ⟨zo_42 (by decide +kernel), rfl⟩
theorem dX8_step_130 : Dc mX8_step 130 (.iload_n 1) 1 131 := ⟨zo_27 (by decide +kernel), rfl⟩
theorem dX8_step_131 : Dc mX8_step 131 (.aload_n 0) 1 132 := ⟨zo_42 (by decide +kernel), rfl⟩
theorem dX8_step_132 : Dc mX8_step 132 (.aload_n 0) 1 133 := ⟨zo_42 (by decide +kernel), rfl⟩
theorem dX8_step_133 : Dc mX8_step 133 (.getfield 23) 3 136 := ⟨zo_180 (w := 0) (x := 23) (by decide +kernel), rfl⟩
theorem dX8_step_136 : Dc mX8_step 136 (.invokevirtual 66) 3 139 := ⟨zo_182 (w := 0) (x := 66) (by decide +kernel), rfl⟩
theorem dX8_step_139 : Dc mX8_step 139 (.invokestatic 83) 3 142 := ⟨zo_184 (w := 0) (x := 83) (by decide +kernel), rfl⟩
theorem dX8_step_142 : Dc mX8_step 142 (.putfield 30) 3 145 := ⟨zo_181 (w := 0) (x := 30) (by decide +kernel), rfl⟩
theorem dX8_step_145 : Dc mX8_step 145 (.aload_n 0) 1 146 := ⟨zo_42 (by decide +kernel), rfl⟩
theorem dX8_step_146 : Dc mX8_step 146 (.dup) 1 147 := ⟨zo_89 (by decide +kernel), rfl⟩
theorem dX8_step_147 : Dc mX8_step 147 (.getfield 23) 3 150 := ⟨zo_180 (w := 0) (x := 23) (by decide +kernel), rfl⟩
theorem dX8_step_150 : Dc mX8_step 150 (.aload_n 0) 1 151 := ⟨zo_42 (by decide +kernel), rfl⟩
theorem dX8_step_151 : Dc mX8_step 151 (.getfield 30) 3 154 := ⟨zo_180 (w := 0) (x := 30) (by decide +kernel), rfl⟩
theorem dX8_step_154 : Dc mX8_step 154 (.invokestatic 86) 3 157 := ⟨zo_184 (w := 0) (x := 86) (by decide +kernel), rfl⟩
theorem dX8_step_157 : Dc mX8_step 157 (.ifCond .eq 7) 3 160 := ⟨zo_153 (w := 0) (x := 7) (by decide +kernel), rfl⟩
theorem dX8_step_160 : Dc mX8_step 160 (.iconst 1) 1 161 := ⟨zo_4 (by decide +kernel), rfl⟩
theorem dX8_step_161 : Dc mX8_step 161 (.goto 4) 3 164 := ⟨zo_167 (w := 0) (x := 4) (by decide +kernel), rfl⟩
theorem dX8_step_164 : Dc mX8_step 164 (.iconst 0) 1 165 := ⟨zo_3 (by decide +kernel), rfl⟩
theorem dX8_step_165 : Dc mX8_step 165 (.iadd) 1 166 := ⟨zo_96 (by decide +kernel), rfl⟩
theorem dX8_step_166 : Dc mX8_step 166 (.putfield 23) 3 169 := ⟨zo_181 (w := 0) (x := 23) (by decide +kernel), rfl⟩
theorem dX8_step_169 : Dc mX8_step 169 (.return_) 1 170 := ⟨zo_177 (by decide +kernel), rfl⟩
theorem dX8_word_0 : Dc mX8_word 0 (.iconst 0) 1 1 := ⟨zo_3 (by decide +kernel), rfl⟩
theorem dX8_word_1 : Dc mX8_word 1 (.istore_n 1) 1 2 := ⟨zo_60 (by decide +kernel), rfl⟩
theorem dX8_word_2 : Dc mX8_word 2 (.aload_n 0) 1 3 := ⟨zo_42 (by decide +kernel), rfl⟩
theorem dX8_word_3 : Dc mX8_word 3 (.iconst 0) 1 4 := ⟨zo_3 (by decide +kernel), rfl⟩
theorem dX8_word_4 : Dc mX8_word 4 (.putfield 33) 3 7 := ⟨zo_181 (w := 0) (x := 33) (by decide +kernel), rfl⟩
theorem dX8_word_7 : Dc mX8_word 7 (.aload_n 0) 1 8 := ⟨zo_42 (by decide +kernel), rfl⟩
theorem dX8_word_8 : Dc mX8_word 8 (.aload_n 0) 1 9 := ⟨zo_42 (by decide +kernel), rfl⟩
theorem dX8_word_9 : Dc mX8_word 9 (.getfield 23) 3 12 := ⟨zo_180 (w := 0) (x := 23) (by decide +kernel), rfl⟩
theorem dX8_word_12 : Dc mX8_word 12 (.invokevirtual 66) 3 15 := ⟨zo_182 (w := 0) (x := 66) (by decide +kernel), rfl⟩
theorem dX8_word_15 : Dc mX8_word 15 (.istore_n 2) 1 16 := ⟨zo_61 (by decide +kernel), rfl⟩
theorem dX8_word_16 : Dc mX8_word 16 (.aload_n 0) 1 17 := ⟨zo_42 (by decide +kernel), rfl⟩
theorem dX8_word_17 : Dc mX8_word 17 (.getfield 23) 3 20 := ⟨zo_180 (w := 0) (x := 23) (by decide +kernel), rfl⟩
theorem dX8_word_20 : Dc mX8_word 20 (.aload_n 0) 1 21 := ⟨zo_42 (by decide +kernel), rfl⟩
theorem dX8_word_21 : Dc mX8_word 21 (.getfield 19) 3 24 := ⟨zo_180 (w := 0) (x := 19) (by decide +kernel), rfl⟩
theorem dX8_word_24 : Dc mX8_word 24 (.if_icmp .ge 49) 3 27 := ⟨zo_162 (w := 0) (x := 49) (by decide +kernel), rfl⟩
theorem dX8_word_27 : Dc mX8_word 27 (.iload_n 2) 1 28 := ⟨zo_28 (by decide +kernel), rfl⟩
theorem dX8_word_28 : Dc mX8_word 28 (.invokestatic 70) 3 31 := ⟨zo_184 (w := 0) (x := 70) (by decide +kernel), rfl⟩
theorem dX8_word_31 : Dc mX8_word 31 (.ifCond .eq 42) 3 34 := ⟨zo_153 (w := 0) (x := 42) (by decide +kernel), rfl⟩
theorem dX8_word_34 : Dc mX8_word 34 (.aload_n 0) 1 35 := ⟨zo_42 (by decide +kernel), rfl⟩
theorem dX8_word_35 : Dc mX8_word 35 (.dup) 1 36 := ⟨zo_89 (by decide +kernel), rfl⟩
theorem dX8_word_36 : Dc mX8_word 36 (.getfield 33) 3 39 := ⟨zo_180 (w := 0) (x := 33) (by decide +kernel), rfl⟩
theorem dX8_word_39 : Dc mX8_word 39 (.iload_n 2) 1 40 := ⟨zo_28 (by decide +kernel), rfl⟩
theorem dX8_word_40 : Dc mX8_word 40 (.iload_n 1) 1 41 := ⟨zo_27 (by decide +kernel), rfl⟩
theorem dX8_word_41 : Dc mX8_word 41 (.invokestatic 55) 3 44 := ⟨zo_184 (w := 0) (x := 55) (by decide +kernel), rfl⟩
theorem dX8_word_44 : Dc mX8_word 44 (.ior) 1 45 := ⟨zo_128 (by decide +kernel), rfl⟩
theorem dX8_word_45 : Dc mX8_word 45 (.putfield 33) 3 48 := ⟨zo_181 (w := 0) (x := 33) (by decide +kernel), rfl⟩
theorem dX8_word_48 : Dc mX8_word 48 (.iinc 1 1) 3 51 := ⟨zo_iinc (x := 1) (by decide +kernel), rfl⟩
theorem dX8_word_51 : Dc mX8_word 51 (.aload_n 0) 1 52 := ⟨zo_42 (by decide +kernel), rfl⟩
theorem dX8_word_52 : Dc mX8_word 52 (.dup) 1 53 := ⟨zo_89 (by decide +kernel), rfl⟩
theorem dX8_word_53 : Dc mX8_word 53 (.getfield 23) 3 56 := ⟨zo_180 (w := 0) (x := 23) (by decide +kernel), rfl⟩
theorem dX8_word_56 : Dc mX8_word 56 (.iconst 1) 1 57 := ⟨zo_4 (by decide +kernel), rfl⟩
theorem dX8_word_57 : Dc mX8_word 57 (.iadd) 1 58 := ⟨zo_96 (by decide +kernel), rfl⟩
theorem dX8_word_58 : Dc mX8_word 58 (.putfield 23) 3 61 := ⟨zo_181 (w := 0) (x := 23) (by decide +kernel), rfl⟩
theorem dX8_word_61 : Dc mX8_word 61 (.aload_n 0) 1 62 := ⟨zo_42 (by decide +kernel), rfl⟩
theorem dX8_word_62 : Dc mX8_word 62 (.aload_n 0) 1 63 := ⟨zo_42 (by decide +kernel), rfl⟩
theorem dX8_word_63 : Dc mX8_word 63 (.getfield 23) 3 66 := ⟨zo_180 (w := 0) (x := 23) (by decide +kernel), rfl⟩
theorem dX8_word_66 : Dc mX8_word 66 (.invokevirtual 66) 3 69 := ⟨zo_182 (w := 0) (x := 66) (by decide +kernel), rfl⟩
theorem dX8_word_69 : Dc mX8_word 69 (.istore_n 2) 1 70 := ⟨zo_61 (by decide +kernel), rfl⟩
theorem dX8_word_70 : Dc mX8_word 70 (.goto (-54)) 3 73 := ⟨zo_167 (w := 255) (x := 202) (by decide +kernel), rfl⟩
theorem dX8_word_73 : Dc mX8_word 73 (.aload_n 0) 1 74 := ⟨zo_42 (by decide +kernel), rfl⟩
theorem dX8_word_74 : Dc mX8_word 74 (.iload_n 1) 1 75 := ⟨zo_27 (by decide +kernel), rfl⟩
theorem dX8_word_75 : Dc mX8_word 75 (.bipush 6) 2 77 := ⟨zo_16 (w := 6) (by decide +kernel), rfl⟩
theorem dX8_word_77 : Dc mX8_word 77 (.if_icmp .le 7) 3 80 := ⟨zo_164 (w := 0) (x := 7) (by decide +kernel), rfl⟩
theorem dX8_word_80 : Dc mX8_word 80 (.iconst 1) 1 81 := ⟨zo_4 (by decide +kernel), rfl⟩
theorem dX8_word_81 : Dc mX8_word 81 (.goto 4) 3 84 := ⟨zo_167 (w := 0) (x := 4) (by decide +kernel), rfl⟩
theorem dX8_word_84 : Dc mX8_word 84 (.iconst 3) 1 85 := ⟨zo_6 (by decide +kernel), rfl⟩
theorem dX8_word_85 : Dc mX8_word 85 (.putfield 30) 3 88 := ⟨zo_181 (w := 0) (x := 30) (by decide +kernel), rfl⟩
theorem dX8_word_88 : Dc mX8_word 88 (.iconst 0) 1 89 := ⟨zo_3 (by decide +kernel), rfl⟩
theorem dX8_word_89 : Dc mX8_word 89 (.istore_n 2) 1 90 := ⟨zo_61 (by decide +kernel), rfl⟩
theorem dX8_word_90 : Dc mX8_word 90 (.iload_n 2) 1 91 := ⟨zo_28 (by decide +kernel), rfl⟩
theorem dX8_word_91 : Dc mX8_word 91 (.aload_n 0) 1 92 := ⟨zo_42 (by decide +kernel), rfl⟩
theorem dX8_word_92 : Dc mX8_word 92 (.getfield 11) 3 95 := ⟨zo_180 (w := 0) (x := 11) (by decide +kernel), rfl⟩
theorem dX8_word_95 : Dc mX8_word 95 (.arraylength) 1 96 := ⟨zo_190 (by decide +kernel), rfl⟩
theorem dX8_word_96 : Dc mX8_word 96 (.if_icmp .ge 42) 3 99 := ⟨zo_162 (w := 0) (x := 42) (by decide +kernel), rfl⟩
theorem dX8_word_99 : Dc mX8_word 99 (.aload_n 0) 1 100 := ⟨zo_42 (by decide +kernel), rfl⟩
theorem dX8_word_100 : Dc mX8_word 100 (.getfield 30) 3 103 := ⟨zo_180 (w := 0) (x := 30) (by decide +kernel), rfl⟩
theorem dX8_word_103 : Dc mX8_word 103 (.iconst 3) 1 104 := ⟨zo_6 (by decide +kernel), rfl⟩
theorem dX8_word_104 : Dc mX8_word 104 (.if_icmp .ne 34) 3 107 := ⟨zo_160 (w := 0) (x := 34) (by decide +kernel), rfl⟩
theorem dX8_word_107 : Dc mX8_word 107 (.aload_n 0) 1 108 := ⟨zo_42 (by decide +kernel), rfl⟩
theorem dX8_word_108 : Dc mX8_word 108 (.aload_n 0) 1 109 := ⟨zo_42 (by decide +kernel), rfl⟩
theorem dX8_word_109 : Dc mX8_word 109 (.getfield 11) 3 112 := ⟨zo_180 (w := 0) (x := 11) (by decide +kernel), rfl⟩
theorem dX8_word_112 : Dc mX8_word 112 (.iload_n 2) 1 113 := ⟨zo_28 (by decide +kernel), rfl⟩
theorem dX8_word_113 : Dc mX8_word 113 (.iaload) 1 114 := ⟨zo_46 (by decide +kernel), rfl⟩
theorem dX8_word_114 : Dc mX8_word 114 (.aload_n 0) 1 115 := ⟨zo_42 (by decide +kernel), rfl⟩
theorem dX8_word_115 : Dc mX8_word 115 (.getfield 33) 3 118 := ⟨zo_180 (w := 0) (x := 33) (by decide +kernel), rfl⟩
theorem dX8_word_118 : Dc mX8_word 118 (.if_icmp .ne 10) 3 121 := ⟨zo_160 (w := 0) (x := 10) (by decide +kernel), rfl⟩
theorem dX8_word_121 : Dc mX8_word 121 (.bipush 20) 2 123 := ⟨zo_16 (w := 20) (by decide +kernel), rfl⟩
theorem dX8_word_123 : Dc mX8_word 123 (.iload_n 2) 1 124 := ⟨zo_28 (by decide +kernel), rfl⟩
theorem dX8_word_124 : Dc mX8_word 124 (.iadd) 1 125 := ⟨zo_96 (by decide +kernel), rfl⟩
theorem dX8_word_125 : Dc mX8_word 125 (.goto 4) 3 128 := ⟨zo_167 (w := 0) (x := 4) (by decide +kernel), rfl⟩
theorem dX8_word_128 : Dc mX8_word 128 (.iconst 3) 1 129 := ⟨zo_6 (by decide +kernel), rfl⟩
theorem dX8_word_129 : Dc mX8_word 129 (.putfield 30) 3 132 := ⟨zo_181 (w := 0) (x := 30) (by decide +kernel), rfl⟩
theorem dX8_word_132 : Dc mX8_word 132 (.iinc 2 1) 3 135 := ⟨zo_iinc (x := 1) (by decide +kernel), rfl⟩
theorem dX8_word_135 : Dc mX8_word 135 (.goto (-45)) 3 138 := ⟨zo_167 (w := 255) (x := 211) (by decide +kernel), rfl⟩
theorem dX8_word_138 : Dc mX8_word 138 (.return_) 1 139 := ⟨zo_177 (by decide +kernel), rfl⟩
theorem dX8_number_0 : Dc mX8_number 0 (.aload_n 0) 1 1 := ⟨zo_42 (by decide +kernel), rfl⟩
theorem dX8_number_1 : Dc mX8_number 1 (.iconst 0) 1 2 := ⟨zo_3 (by decide +kernel), rfl⟩
theorem dX8_number_2 : Dc mX8_number 2 (.putfield 33) 3 5 := ⟨zo_181 (w := 0) (x := 33) (by decide +kernel), rfl⟩
theorem dX8_number_5 : Dc mX8_number 5 (.aload_n 0) 1 6 := ⟨zo_42 (by decide +kernel), rfl⟩
theorem dX8_number_6 : Dc mX8_number 6 (.aload_n 0) 1 7 := ⟨zo_42 (by decide +kernel), rfl⟩
theorem dX8_number_7 : Dc mX8_number 7 (.getfield 23) 3 10 := ⟨zo_180 (w := 0) (x := 23) (by decide +kernel), rfl⟩
theorem dX8_number_10 : Dc mX8_number 10 (.invokevirtual 66) 3 13 := ⟨zo_182 (w := 0) (x := 66) (by decide +kernel), rfl⟩
theorem dX8_number_13 : Dc mX8_number 13 (.istore_n 1) 1 14 := ⟨zo_60 (by decide +kernel), rfl⟩
theorem dX8_number_14 : Dc mX8_number 14 (.aload_n 0) 1 15 := ⟨zo_42 (by decide +kernel), rfl⟩
theorem dX8_number_15 : Dc mX8_number 15 (.getfield 23) 3 18 := ⟨zo_180 (w := 0) (x := 23) (by decide +kernel), rfl⟩
theorem dX8_number_18 : Dc mX8_number 18 (.aload_n 0) 1 19 := ⟨zo_42 (by decide +kernel), rfl⟩
theorem dX8_number_19 : Dc mX8_number 19 (.getfield 19) 3 22 := ⟨zo_180 (w := 0) (x := 19) (by decide +kernel), rfl⟩
theorem dX8_number_22 : Dc mX8_number 22 (.if_icmp .ge 53) 3 25 := ⟨zo_162 (w := 0) (x := 53) (by decide +kernel), rfl⟩
theorem dX8_number_25 : Dc mX8_number 25 (.iload_n 1) 1 26 := ⟨zo_27 (by decide +kernel), rfl⟩
theorem dX8_number_26 : Dc mX8_number 26 (.invokestatic 77) 3 29 := ⟨zo_184 (w := 0) (x := 77) (by decide +kernel), rfl⟩
theorem dX8_number_29 : Dc mX8_number 29 (.ifCond .eq 46) 3 32 := ⟨zo_153 (w := 0) (x := 46) (by decide +kernel), rfl⟩
theorem dX8_number_32 : Dc mX8_number 32 (.aload_n 0) 1 33 := ⟨zo_42 (by decide +kernel), rfl⟩
theorem dX8_number_33 : Dc mX8_number 33 (.aload_n 0) 1 34 := ⟨zo_42 (by decide +kernel), rfl⟩
theorem dX8_number_34 : Dc mX8_number 34 (.getfield 33) 3 37 := ⟨zo_180 (w := 0) (x := 33) (by decide +kernel), rfl⟩
theorem dX8_number_37 : Dc mX8_number 37 (.bipush 10) 2 39 := ⟨zo_16 (w := 10) (by decide +kernel), rfl⟩
theorem dX8_number_39 : Dc mX8_number 39 (.imul) 1 40 := ⟨zo_104 (by decide +kernel), rfl⟩
theorem dX8_number_40 : Dc mX8_number 40 (.iload_n 1) 1 41 := ⟨zo_27 (by decide +kernel), rfl⟩
theorem dX8_number_41 : Dc mX8_number 41 (.iadd) 1 42 := ⟨zo_96 (by decide +kernel), rfl⟩
theorem dX8_number_42 : Dc mX8_number 42 (.bipush 48) 2 44 := ⟨zo_16 (w := 48) (by decide +kernel), rfl⟩
theorem dX8_number_44 : Dc mX8_number 44 (.isub) 1 45 := ⟨zo_100 (by decide +kernel), rfl⟩
theorem dX8_number_45 : Dc mX8_number 45 (.ldc 89) 2 47 := ⟨zo_18 (by decide +kernel), rfl⟩
theorem dX8_number_47 : Dc mX8_number 47 (.invokestatic 90) 3 50 := ⟨zo_184 (w := 0) (x := 90) (by decide +kernel), rfl⟩
theorem dX8_number_50 : Dc mX8_number 50 (.putfield 33) 3 53 := ⟨zo_181 (w := 0) (x := 33) (by decide +kernel), rfl⟩
theorem dX8_number_53 : Dc mX8_number 53 (.aload_n 0) 1 54 := ⟨zo_42 (by decide +kernel), rfl⟩
theorem dX8_number_54 : Dc mX8_number 54 (.dup) 1 55 := ⟨zo_89 (by decide +kernel), rfl⟩
theorem dX8_number_55 : Dc mX8_number 55 (.getfield 23) 3 58 := ⟨zo_180 (w := 0) (x := 23) (by decide +kernel), rfl⟩
theorem dX8_number_58 : Dc mX8_number 58 (.iconst 1) 1 59 := ⟨zo_4 (by decide +kernel), rfl⟩
theorem dX8_number_59 : Dc mX8_number 59 (.iadd) 1 60 := ⟨zo_96 (by decide +kernel), rfl⟩
theorem dX8_number_60 : Dc mX8_number 60 (.putfield 23) 3 63 := ⟨zo_181 (w := 0) (x := 23) (by decide +kernel), rfl⟩
theorem dX8_number_63 : Dc mX8_number 63 (.aload_n 0) 1 64 := ⟨zo_42 (by decide +kernel), rfl⟩
theorem dX8_number_64 : Dc mX8_number 64 (.aload_n 0) 1 65 := ⟨zo_42 (by decide +kernel), rfl⟩
theorem dX8_number_65 : Dc mX8_number 65 (.getfield 23) 3 68 := ⟨zo_180 (w := 0) (x := 23) (by decide +kernel), rfl⟩
theorem dX8_number_68 : Dc mX8_number 68 (.invokevirtual 66) 3 71 := ⟨zo_182 (w := 0) (x := 66) (by decide +kernel), rfl⟩
theorem dX8_number_71 : Dc mX8_number 71 (.istore_n 1) 1 72 := ⟨zo_60 (by decide +kernel), rfl⟩
theorem dX8_number_72 : Dc mX8_number 72 (.goto (-58)) 3 75 := ⟨zo_167 (w := 255) (x := 198) (by decide +kernel), rfl⟩
theorem dX8_number_75 : Dc mX8_number 75 (.aload_n 0) 1 76 := ⟨zo_42 (by decide +kernel), rfl⟩
theorem dX8_number_76 : Dc mX8_number 76 (.iconst 2) 1 77 := ⟨zo_5 (by decide +kernel), rfl⟩
theorem dX8_number_77 : Dc mX8_number 77 (.putfield 30) 3 80 := ⟨zo_181 (w := 0) (x := 30) (by decide +kernel), rfl⟩
theorem dX8_number_80 : Dc mX8_number 80 (.return_) 1 81 := ⟨zo_177 (by decide +kernel), rfl⟩
theorem dX8_kindOf_0 : Dc mX8_kindOf 0 (.iload_n 0) 1 1 := ⟨zo_26 (by decide +kernel), rfl⟩
theorem dX8_kindOf_1 : Dc mX8_kindOf 1 (.tableswitch 168 40 62 #[109, 111, 120, 114, 168, 117, 168, 123, 168, 168, 168, 168, 168, 168, 168, 168, 168, 168, 168, 107, 129, 126, 154]) 107 108 := ⟨by decide +kernel, rfl⟩
theorem dX8_kindOf_108 : Dc mX8_kindOf 108 (.iconst 4) 1 109 := ⟨zo_7 (by decide +kernel), rfl⟩
theorem dX8_kindOf_109 : Dc mX8_kindOf 109 (.ireturn) 1 110 := ⟨zo_172 (by decide +kernel), rfl⟩
theorem dX8_kindOf_110 : Dc mX8_kindOf 110 (.iconst 5) 1 111 := ⟨zo_8 (by decide +kernel), rfl⟩
theorem dX8_kindOf_111 : Dc mX8_kindOf 111 (.ireturn) 1 112 := ⟨zo_172 (by decide +kernel), rfl⟩
theorem dX8_kindOf_112 : Dc mX8_kindOf 112 (.bipush 6) 2 114 := ⟨zo_16 (w := 6) (by decide +kernel), rfl⟩
theorem dX8_kindOf_114 : Dc mX8_kindOf 114 (.ireturn) 1 115 := ⟨zo_172 (by decide +kernel), rfl⟩
theorem dX8_kindOf_115 : Dc mX8_kindOf 115 (.bipush 7) 2 117 := ⟨zo_16 (w := 7) (by decide +kernel), rfl⟩
theorem dX8_kindOf_117 : Dc mX8_kindOf 117 (.ireturn) 1 118 := ⟨zo_172 (by decide +kernel), rfl⟩
theorem dX8_kindOf_118 : Dc mX8_kindOf 118 (.bipush 8) 2 120 := ⟨zo_16 (w := 8) (by decide +kernel), rfl⟩
theorem dX8_kindOf_120 : Dc mX8_kindOf 120 (.ireturn) 1 121 := ⟨zo_172 (by decide +kernel), rfl⟩
theorem dX8_kindOf_121 : Dc mX8_kindOf 121 (.bipush 9) 2 123 := ⟨zo_16 (w := 9) (by decide +kernel), rfl⟩
theorem dX8_kindOf_123 : Dc mX8_kindOf 123 (.ireturn) 1 124 := ⟨zo_172 (by decide +kernel), rfl⟩
theorem dX8_kindOf_124 : Dc mX8_kindOf 124 (.bipush 10) 2 126 := ⟨zo_16 (w := 10) (by decide +kernel), rfl⟩
theorem dX8_kindOf_126 : Dc mX8_kindOf 126 (.ireturn) 1 127 := ⟨zo_172 (by decide +kernel), rfl⟩
theorem dX8_kindOf_127 : Dc mX8_kindOf 127 (.bipush 13) 2 129 := ⟨zo_16 (w := 13) (by decide +kernel), rfl⟩
theorem dX8_kindOf_129 : Dc mX8_kindOf 129 (.ireturn) 1 130 := ⟨zo_172 (by decide +kernel), rfl⟩
theorem dX8_kindOf_130 : Dc mX8_kindOf 130 (.iload_n 1) 1 131 := ⟨zo_27 (by decide +kernel), rfl⟩
theorem dX8_kindOf_131 : Dc mX8_kindOf 131 (.bipush 61) 2 133 := ⟨zo_16 (w := 61) (by decide +kernel), rfl⟩
theorem dX8_kindOf_133 : Dc mX8_kindOf 133 (.if_icmp .ne 8) 3 136 := ⟨zo_160 (w := 0) (x := 8) (by decide +kernel), rfl⟩
theorem dX8_kindOf_136 : Dc mX8_kindOf 136 (.bipush 12) 2 138 := ⟨zo_16 (w := 12) (by decide +kernel), rfl⟩
theorem dX8_kindOf_138 : Dc mX8_kindOf 138 (.goto 16) 3 141 := ⟨zo_167 (w := 0) (x := 16) (by decide +kernel), rfl⟩
theorem dX8_kindOf_141 : Dc mX8_kindOf 141 (.iload_n 1) 1 142 := ⟨zo_27 (by decide +kernel), rfl⟩
theorem dX8_kindOf_142 : Dc mX8_kindOf 142 (.bipush 62) 2 144 := ⟨zo_16 (w := 62) (by decide +kernel), rfl⟩
theorem dX8_kindOf_144 : Dc mX8_kindOf 144 (.if_icmp .ne 8) 3 147 := ⟨zo_160 (w := 0) (x := 8) (by decide +kernel), rfl⟩
theorem dX8_kindOf_147 : Dc mX8_kindOf 147 (.bipush 14) 2 149 := ⟨zo_16 (w := 14) (by decide +kernel), rfl⟩
theorem dX8_kindOf_149 : Dc mX8_kindOf 149 (.goto 5) 3 152 := ⟨zo_167 (w := 0) (x := 5) (by decide +kernel), rfl⟩
theorem dX8_kindOf_152 : Dc mX8_kindOf 152 (.bipush 11) 2 154 := ⟨zo_16 (w := 11) (by decide +kernel), rfl⟩
theorem dX8_kindOf_154 : Dc mX8_kindOf 154 (.ireturn) 1 155 := ⟨zo_172 (by decide +kernel), rfl⟩
theorem dX8_kindOf_155 : Dc mX8_kindOf 155 (.iload_n 1) 1 156 := ⟨zo_27 (by decide +kernel), rfl⟩
theorem dX8_kindOf_156 : Dc mX8_kindOf 156 (.bipush 61) 2 158 := ⟨zo_16 (w := 61) (by decide +kernel), rfl⟩
theorem dX8_kindOf_158 : Dc mX8_kindOf 158 (.if_icmp .ne 8) 3 161 := ⟨zo_160 (w := 0) (x := 8) (by decide +kernel), rfl⟩
theorem dX8_kindOf_161 : Dc mX8_kindOf 161 (.bipush 15) 2 163 := ⟨zo_16 (w := 15) (by decide +kernel), rfl⟩
theorem dX8_kindOf_163 : Dc mX8_kindOf 163 (.goto 5) 3 166 := ⟨zo_167 (w := 0) (x := 5) (by decide +kernel), rfl⟩
theorem dX8_kindOf_166 : Dc mX8_kindOf 166 (.bipush 16) 2 168 := ⟨zo_16 (w := 16) (by decide +kernel), rfl⟩
theorem dX8_kindOf_168 : Dc mX8_kindOf 168 (.ireturn) 1 169 := ⟨zo_172 (by decide +kernel), rfl⟩
theorem dX8_kindOf_169 : Dc mX8_kindOf 169 (.iconst 1) 1 170 := ⟨zo_4 (by decide +kernel), rfl⟩
theorem dX8_kindOf_170 : Dc mX8_kindOf 170 (.ireturn) 1 171 := ⟨zo_172 (by decide +kernel), rfl⟩
theorem dX8_isPair_0 : Dc mX8_isPair 0 (.iload_n 0) 1 1 := ⟨zo_26 (by decide +kernel), rfl⟩
theorem dX8_isPair_1 : Dc mX8_isPair 1 (.bipush 12) 2 3 := ⟨zo_16 (w := 12) (by decide +kernel), rfl⟩
theorem dX8_isPair_3 : Dc mX8_isPair 3 (.if_icmp .eq 15) 3 6 := ⟨zo_159 (w := 0) (x := 15) (by decide +kernel), rfl⟩
theorem dX8_isPair_6 : Dc mX8_isPair 6 (.iload_n 0) 1 7 := ⟨zo_26 (by decide +kernel), rfl⟩
theorem dX8_isPair_7 : Dc mX8_isPair 7 (.bipush 14) 2 9 := ⟨zo_16 (w := 14) (by decide +kernel), rfl⟩
theorem dX8_isPair_9 : Dc mX8_isPair 9 (.if_icmp .eq 9) 3 12 := ⟨zo_159 (w := 0) (x := 9) (by decide +kernel), rfl⟩
theorem dX8_isPair_12 : Dc mX8_isPair 12 (.iload_n 0) 1 13 := ⟨zo_26 (by decide +kernel), rfl⟩
theorem dX8_isPair_13 : Dc mX8_isPair 13 (.bipush 15) 2 15 := ⟨zo_16 (w := 15) (by decide +kernel), rfl⟩
theorem dX8_isPair_15 : Dc mX8_isPair 15 (.if_icmp .ne 7) 3 18 := ⟨zo_160 (w := 0) (x := 7) (by decide +kernel), rfl⟩
theorem dX8_isPair_18 : Dc mX8_isPair 18 (.iconst 1) 1 19 := ⟨zo_4 (by decide +kernel), rfl⟩
theorem dX8_isPair_19 : Dc mX8_isPair 19 (.goto 4) 3 22 := ⟨zo_167 (w := 0) (x := 4) (by decide +kernel), rfl⟩
theorem dX8_isPair_22 : Dc mX8_isPair 22 (.iconst 0) 1 23 := ⟨zo_3 (by decide +kernel), rfl⟩
theorem dX8_isPair_23 : Dc mX8_isPair 23 (.ireturn) 1 24 := ⟨zo_172 (by decide +kernel), rfl⟩
theorem dX9_init_0 : Dc mX9_init 0 (.aload_n 0) 1 1 := ⟨zo_42 (by decide +kernel), rfl⟩
theorem dX9_init_1 : Dc mX9_init 1 (.invokespecial 3) 3 4 := ⟨zo_183 (w := 0) (x := 3) (by decide +kernel), rfl⟩
theorem dX9_init_4 : Dc mX9_init 4 (.aload_n 0) 1 5 := ⟨zo_42 (by decide +kernel), rfl⟩
theorem dX9_init_5 : Dc mX9_init 5 (.new 9) 3 8 := ⟨zo_187 (w := 0) (x := 9) (by decide +kernel), rfl⟩
theorem dX9_init_8 : Dc mX9_init 8 (.dup) 1 9 := ⟨zo_89 (by decide +kernel), rfl⟩
theorem dX9_init_9 : Dc mX9_init 9 (.bipush 6) 2 11 := ⟨zo_16 (w := 6) (by decide +kernel), rfl⟩
theorem dX9_init_11 : Dc mX9_init 11 (.invokespecial 11) 3 14 := ⟨zo_183 (w := 0) (x := 11) (by decide +kernel), rfl⟩
theorem dX9_init_14 : Dc mX9_init 14 (.putfield 14) 3 17 := ⟨zo_181 (w := 0) (x := 14) (by decide +kernel), rfl⟩
theorem dX9_init_17 : Dc mX9_init 17 (.aload_n 0) 1 18 := ⟨zo_42 (by decide +kernel), rfl⟩
theorem dX9_init_18 : Dc mX9_init 18 (.new 9) 3 21 := ⟨zo_187 (w := 0) (x := 9) (by decide +kernel), rfl⟩
theorem dX9_init_21 : Dc mX9_init 21 (.dup) 1 22 := ⟨zo_89 (by decide +kernel), rfl⟩
theorem dX9_init_22 : Dc mX9_init 22 (.bipush 8) 2 24 := ⟨zo_16 (w := 8) (by decide +kernel), rfl⟩
theorem dX9_init_24 : Dc mX9_init 24 (.invokespecial 11) 3 27 := ⟨zo_183 (w := 0) (x := 11) (by decide +kernel), rfl⟩
theorem dX9_init_27 : Dc mX9_init 27 (.putfield 20) 3 30 := ⟨zo_181 (w := 0) (x := 20) (by decide +kernel), rfl⟩
theorem dX9_init_30 : Dc mX9_init 30 (.aload_n 0) 1 31 := ⟨zo_42 (by decide +kernel), rfl⟩
theorem dX9_init_31 : Dc mX9_init 31 (.new 9) 3 34 := ⟨zo_187 (w := 0) (x := 9) (by decide +kernel), rfl⟩
theorem dX9_init_34 : Dc mX9_init 34 (.dup) 1 35 := ⟨zo_89 (by decide +kernel), rfl⟩
theorem dX9_init_35 : Dc mX9_init 35 (.iconst 4) 1 36 := ⟨zo_7 (by decide +kernel), rfl⟩
theorem dX9_init_36 : Dc mX9_init 36 (.invokespecial 11) 3 39 := ⟨zo_183 (w := 0) (x := 11) (by decide +kernel), rfl⟩
theorem dX9_init_39 : Dc mX9_init 39 (.putfield 23) 3 42 := ⟨zo_181 (w := 0) (x := 23) (by decide +kernel), rfl⟩
theorem dX9_init_42 : Dc mX9_init 42 (.aload_n 0) 1 43 := ⟨zo_42 (by decide +kernel), rfl⟩
theorem dX9_init_43 : Dc mX9_init 43 (.new 9) 3 46 := ⟨zo_187 (w := 0) (x := 9) (by decide +kernel), rfl⟩
theorem dX9_init_46 : Dc mX9_init 46 (.dup) 1 47 := ⟨zo_89 (by decide +kernel), rfl⟩
theorem dX9_init_47 : Dc mX9_init 47 (.iconst 4) 1 48 := ⟨zo_7 (by decide +kernel), rfl⟩
theorem dX9_init_48 : Dc mX9_init 48 (.invokespecial 11) 3 51 := ⟨zo_183 (w := 0) (x := 11) (by decide +kernel), rfl⟩
theorem dX9_init_51 : Dc mX9_init 51 (.putfield 26) 3 54 := ⟨zo_181 (w := 0) (x := 26) (by decide +kernel), rfl⟩
theorem dX9_init_54 : Dc mX9_init 54 (.aload_n 0) 1 55 := ⟨zo_42 (by decide +kernel), rfl⟩
theorem dX9_init_55 : Dc mX9_init 55 (.new 9) 3 58 := ⟨zo_187 (w := 0) (x := 9) (by decide +kernel), rfl⟩
theorem dX9_init_58 : Dc mX9_init 58 (.dup) 1 59 := ⟨zo_89 (by decide +kernel), rfl⟩
theorem dX9_init_59 : Dc mX9_init 59 (.iconst 3) 1 60 := ⟨zo_6 (by decide +kernel), rfl⟩
theorem dX9_init_60 : Dc mX9_init 60 (.invokespecial 11) 3 63 := ⟨zo_183 (w := 0) (x := 11) (by decide +kernel), rfl⟩
theorem dX9_init_63 : Dc mX9_init 63 (.putfield 29) 3 66 := ⟨zo_181 (w := 0) (x := 29) (by decide +kernel), rfl⟩
theorem dX9_init_66 : Dc mX9_init 66 (.aload_n 0) 1 67 := ⟨zo_42 (by decide +kernel), rfl⟩
theorem dX9_init_67 : Dc mX9_init 67 (.bipush 48) 2 69 := ⟨zo_16 (w := 48) (by decide +kernel), rfl⟩
theorem dX9_init_69 : Dc mX9_init 69 (.newarray .int) 2 71 := ⟨by decide +kernel, rfl⟩
theorem dX9_init_71 : Dc mX9_init 71 (.putfield 32) 3 74 := ⟨zo_181 (w := 0) (x := 32) (by decide +kernel), rfl⟩
theorem dX9_init_74 : Dc mX9_init 74 (.aload_n 0) 1 75 := ⟨zo_42 (by decide +kernel), rfl⟩
theorem dX9_init_75 : Dc mX9_init 75 (.iconst 0) 1 76 := ⟨zo_3 (by decide +kernel), rfl⟩
theorem dX9_init_76 : Dc mX9_init 76 (.putfield 36) 3 79 := ⟨zo_181 (w := 0) (x := 36) (by decide +kernel), rfl⟩
theorem dX9_init_79 : Dc mX9_init 79 (.aload_n 0) 1 80 := ⟨zo_42 (by decide +kernel), rfl⟩
theorem dX9_init_80 : Dc mX9_init 80 (.iconst 0) 1 81 := ⟨zo_3 (by decide +kernel), rfl⟩
theorem dX9_init_81 : Dc mX9_init 81 (.putfield 40) 3 84 := ⟨zo_181 (w := 0) (x := 40) (by decide +kernel), rfl⟩
theorem dX9_init_84 : Dc mX9_init 84 (.aload_n 0) 1 85 := ⟨zo_42 (by decide +kernel), rfl⟩
theorem dX9_init_85 : Dc mX9_init 85 (.bipush 99) 2 87 := ⟨zo_16 (w := 99) (by decide +kernel), rfl⟩
theorem dX9_init_87 : Dc mX9_init 87 (.putfield 43) 3 90 := ⟨zo_181 (w := 0) (x := 43) (by decide +kernel), rfl⟩
theorem dX9_init_90 : Dc mX9_init 90 (.aload_n 0) 1 91 := ⟨zo_42 (by decide +kernel), rfl⟩
theorem dX9_init_91 : Dc mX9_init 91 (.iconst 0) 1 92 := ⟨zo_3 (by decide +kernel), rfl⟩
theorem dX9_init_92 : Dc mX9_init 92 (.putfield 46) 3 95 := ⟨zo_181 (w := 0) (x := 46) (by decide +kernel), rfl⟩
theorem dX9_init_95 : Dc mX9_init 95 (.aload_n 0) 1 96 := ⟨zo_42 (by decide +kernel), rfl⟩
theorem dX9_init_96 : Dc mX9_init 96 (.iconst 0) 1 97 := ⟨zo_3 (by decide +kernel), rfl⟩
theorem dX9_init_97 : Dc mX9_init 97 (.putfield 49) 3 100 := ⟨zo_181 (w := 0) (x := 49) (by decide +kernel), rfl⟩
theorem dX9_init_100 : Dc mX9_init 100 (.aload_n 0) 1 101 := ⟨zo_42 (by decide +kernel), rfl⟩
theorem dX9_init_101 : Dc mX9_init 101 (.iconst 0) 1 102 := ⟨zo_3 (by decide +kernel), rfl⟩
theorem dX9_init_102 : Dc mX9_init 102 (.putfield 52) 3 105 := ⟨zo_181 (w := 0) (x := 52) (by decide +kernel), rfl⟩
theorem dX9_init_105 : Dc mX9_init 105 (.aload_n 0) 1 106 := ⟨zo_42 (by decide +kernel), rfl⟩
theorem dX9_init_106 : Dc mX9_init 106 (.new 55) 3 109 := ⟨zo_187 (w := 0) (x := 55) (by decide +kernel), rfl⟩
theorem dX9_init_109 : Dc mX9_init 109 (.dup) 1 110 := ⟨zo_89 (by decide +kernel), rfl⟩
theorem dX9_init_110 : Dc mX9_init 110 (.invokespecial 57) 3 113 := ⟨zo_183 (w := 0) (x := 57) (by decide +kernel), rfl⟩
theorem dX9_init_113 : Dc mX9_init 113 (.putfield 58) 3 116 := ⟨zo_181 (w := 0) (x := 58) (by decide +kernel), rfl⟩
theorem dX9_init_116 : Dc mX9_init 116 (.aload_n 0) 1 117 := ⟨zo_42 (by decide +kernel), rfl⟩
theorem dX9_init_117 : Dc mX9_init 117 (.new 55) 3 120 := ⟨zo_187 (w := 0) (x := 55) (by decide +kernel), rfl⟩
theorem dX9_init_120 : Dc mX9_init 120 (.dup) 1 121 := ⟨zo_89 (by decide +kernel), rfl⟩
theorem dX9_init_121 : Dc mX9_init 121 (.invokespecial 57) 3 124 := ⟨zo_183 (w := 0) (x := 57) (by decide +kernel), rfl⟩
theorem dX9_init_124 : Dc mX9_init 124 (.putfield 62) 3 127 := ⟨zo_181 (w := 0) (x := 62) (by decide +kernel), rfl⟩
theorem dX9_init_127 : Dc mX9_init 127 (.aload_n 0) 1 128 := ⟨zo_42 (by decide +kernel), rfl⟩
theorem dX9_init_128 : Dc mX9_init 128 (.new 55) 3 131 := ⟨zo_187 (w := 0) (x := 55) (by decide +kernel), rfl⟩
theorem dX9_init_131 : Dc mX9_init 131 (.dup) 1 132 := ⟨zo_89 (by decide +kernel), rfl⟩
theorem dX9_init_132 : Dc mX9_init 132 (.invokespecial 57) 3 135 := ⟨zo_183 (w := 0) (x := 57) (by decide +kernel), rfl⟩
theorem dX9_init_135 : Dc mX9_init 135 (.putfield 65) 3 138 := ⟨zo_181 (w := 0) (x := 65) (by decide +kernel), rfl⟩
theorem dX9_init_138 : Dc mX9_init 138 (.aload_n 0) 1 139 := ⟨zo_42 (by decide +kernel), rfl⟩
theorem dX9_init_139 : Dc mX9_init 139 (.getfield 32) 3 142 := ⟨zo_180 (w := 0) (x := 32) (by decide +kernel), rfl⟩
theorem dX9_init_142 : Dc mX9_init 142 (.iconst (-1)) 1 143 := ⟨zo_2 (by decide +kernel), rfl⟩
theorem dX9_init_143 : Dc mX9_init 143 (.invokestatic 68) 3 146 := ⟨zo_184 (w := 0) (x := 68) (by decide +kernel), rfl⟩
theorem dX9_init_146 : Dc mX9_init 146 (.return_) 1 147 := ⟨zo_177 (by decide +kernel), rfl⟩
theorem dX9_clear_0 : Dc mX9_clear 0 (.aload_n 0) 1 1 := ⟨zo_42 (by decide +kernel), rfl⟩
theorem dX9_clear_1 : Dc mX9_clear 1 (.getfield 14) 3 4 := ⟨zo_180 (w := 0) (x := 14) (by decide +kernel), rfl⟩
theorem dX9_clear_4 : Dc mX9_clear 4 (.invokevirtual 72) 3 7 := ⟨zo_182 (w := 0) (x := 72) (by decide +kernel), rfl⟩
theorem dX9_clear_7 : Dc mX9_clear 7 (.aload_n 0) 1 8 := ⟨zo_42 (by decide +kernel), rfl⟩
theorem dX9_clear_8 : Dc mX9_clear 8 (.getfield 20) 3 11 := ⟨zo_180 (w := 0) (x := 20) (by decide +kernel), rfl⟩
theorem dX9_clear_11 : Dc mX9_clear 11 (.invokevirtual 72) 3 14 := ⟨zo_182 (w := 0) (x := 72) (by decide +kernel), rfl⟩
theorem dX9_clear_14 : Dc mX9_clear 14 (.aload_n 0) 1 15 := ⟨zo_42 (by decide +kernel), rfl⟩
theorem dX9_clear_15 : Dc mX9_clear 15 (.getfield 23) 3 18 := ⟨zo_180 (w := 0) (x := 23) (by decide +kernel), rfl⟩
theorem dX9_clear_18 : Dc mX9_clear 18 (.invokevirtual 72) 3 21 := ⟨zo_182 (w := 0) (x := 72) (by decide +kernel), rfl⟩
theorem dX9_clear_21 : Dc mX9_clear 21 (.aload_n 0) 1 22 := ⟨zo_42 (by decide +kernel), rfl⟩
theorem dX9_clear_22 : Dc mX9_clear 22 (.getfield 26) 3 25 := ⟨zo_180 (w := 0) (x := 26) (by decide +kernel), rfl⟩
theorem dX9_clear_25 : Dc mX9_clear 25 (.invokevirtual 72) 3 28 := ⟨zo_182 (w := 0) (x := 72) (by decide +kernel), rfl⟩
theorem dX9_clear_28 : Dc mX9_clear 28 (.aload_n 0) 1 29 := ⟨zo_42 (by decide +kernel), rfl⟩
theorem dX9_clear_29 : Dc mX9_clear 29 (.getfield 29) 3 32 := ⟨zo_180 (w := 0) (x := 29) (by decide +kernel), rfl⟩
theorem dX9_clear_32 : Dc mX9_clear 32 (.invokevirtual 72) 3 35 := ⟨zo_182 (w := 0) (x := 72) (by decide +kernel), rfl⟩
theorem dX9_clear_35 : Dc mX9_clear 35 (.aload_n 0) 1 36 := ⟨zo_42 (by decide +kernel), rfl⟩
theorem dX9_clear_36 : Dc mX9_clear 36 (.getfield 32) 3 39 := ⟨zo_180 (w := 0) (x := 32) (by decide +kernel), rfl⟩
theorem dX9_clear_39 : Dc mX9_clear 39 (.iconst (-1)) 1 40 := ⟨zo_2 (by decide +kernel), rfl⟩
theorem dX9_clear_40 : Dc mX9_clear 40 (.invokestatic 68) 3 43 := ⟨zo_184 (w := 0) (x := 68) (by decide +kernel), rfl⟩
theorem dX9_clear_43 : Dc mX9_clear 43 (.aload_n 0) 1 44 := ⟨zo_42 (by decide +kernel), rfl⟩
theorem dX9_clear_44 : Dc mX9_clear 44 (.iconst 0) 1 45 := ⟨zo_3 (by decide +kernel), rfl⟩
theorem dX9_clear_45 : Dc mX9_clear 45 (.putfield 36) 3 48 := ⟨zo_181 (w := 0) (x := 36) (by decide +kernel), rfl⟩
theorem dX9_clear_48 : Dc mX9_clear 48 (.aload_n 0) 1 49 := ⟨zo_42 (by decide +kernel), rfl⟩
theorem dX9_clear_49 : Dc mX9_clear 49 (.iconst (-1)) 1 50 := ⟨zo_2 (by decide +kernel), rfl⟩
theorem dX9_clear_50 : Dc mX9_clear 50 (.putfield 40) 3 53 := ⟨zo_181 (w := 0) (x := 40) (by decide +kernel), rfl⟩
theorem dX9_clear_53 : Dc mX9_clear 53 (.aload_n 0) 1 54 := ⟨zo_42 (by decide +kernel), rfl⟩
theorem dX9_clear_54 : Dc mX9_clear 54 (.iconst (-1)) 1 55 := ⟨zo_2 (by decide +kernel), rfl⟩
theorem dX9_clear_55 : Dc mX9_clear 55 (.putfield 43) 3 58 := ⟨zo_181 (w := 0) (x := 43) (by decide +kernel), rfl⟩
theorem dX9_clear_58 : Dc mX9_clear 58 (.aload_n 0) 1 59 := ⟨zo_42 (by decide +kernel), rfl⟩
theorem dX9_clear_59 : Dc mX9_clear 59 (.iconst (-1)) 1 60 := ⟨zo_2 (by decide +kernel), rfl⟩
theorem dX9_clear_60 : Dc mX9_clear 60 (.putfield 46) 3 63 := ⟨zo_181 (w := 0) (x := 46) (by decide +kernel), rfl⟩
theorem dX9_clear_63 : Dc mX9_clear 63 (.aload_n 0) 1 64 := ⟨zo_42 (by decide +kernel), rfl⟩
theorem dX9_clear_64 : Dc mX9_clear 64 (.iconst 0) 1 65 := ⟨zo_3 (by decide +kernel), rfl⟩
theorem dX9_clear_65 : Dc mX9_clear 65 (.putfield 49) 3 68 := ⟨zo_181 (w := 0) (x := 49) (by decide +kernel), rfl⟩
theorem dX9_clear_68 : Dc mX9_clear 68 (.aload_n 0) 1 69 := ⟨zo_42 (by decide +kernel), rfl⟩
theorem dX9_clear_69 : Dc mX9_clear 69 (.iconst 0) 1 70 := ⟨zo_3 (by decide +kernel), rfl⟩
theorem dX9_clear_70 : Dc mX9_clear 70 (.putfield 52) 3 73 := ⟨zo_181 (w := 0) (x := 52) (by decide +kernel), rfl⟩
theorem dX9_clear_73 : Dc mX9_clear 73 (.aload_n 0) 1 74 := ⟨zo_42 (by decide +kernel), rfl⟩
theorem dX9_clear_74 : Dc mX9_clear 74 (.getfield 58) 3 77 := ⟨zo_180 (w := 0) (x := 58) (by decide +kernel), rfl⟩
theorem dX9_clear_77 : Dc mX9_clear 77 (.invokevirtual 75) 3 80 := ⟨zo_182 (w := 0) (x := 75) (by decide +kernel), rfl⟩
theorem dX9_clear_80 : Dc mX9_clear 80 (.aload_n 0) 1 81 := ⟨zo_42 (by decide +kernel), rfl⟩
theorem dX9_clear_81 : Dc mX9_clear 81 (.getfield 62) 3 84 := ⟨zo_180 (w := 0) (x := 62) (by decide +kernel), rfl⟩
theorem dX9_clear_84 : Dc mX9_clear 84 (.invokevirtual 75) 3 87 := ⟨zo_182 (w := 0) (x := 75) (by decide +kernel), rfl⟩
theorem dX9_clear_87 : Dc mX9_clear 87 (.aload_n 0) 1 88 := ⟨zo_42 (by decide +kernel), rfl⟩
theorem dX9_clear_88 : Dc mX9_clear 88 (.getfield 65) 3 91 := ⟨zo_180 (w := 0) (x := 65) (by decide +kernel), rfl⟩
theorem dX9_clear_91 : Dc mX9_clear 91 (.invokevirtual 75) 3 94 := ⟨zo_182 (w := 0) (x := 75) (by decide +kernel), rfl⟩
theorem dX9_clear_94 : Dc mX9_clear 94 (.return_) 1 95 := ⟨zo_177 (by decide +kernel), rfl⟩
theorem dX9_settle_0 : Dc mX9_settle 0 (.aload_n 0) 1 1 := ⟨zo_42 (by decide +kernel), rfl⟩
theorem dX9_settle_1 : Dc mX9_settle 1 (.aload_n 0) 1 2 := ⟨zo_42 (by decide +kernel), rfl⟩
theorem dX9_settle_2 : Dc mX9_settle 2 (.getfield 40) 3 5 := ⟨zo_180 (w := 0) (x := 40) (by decide +kernel), rfl⟩
theorem dX9_settle_5 : Dc mX9_settle 5 (.ifCond .ge 7) 3 8 := ⟨zo_156 (w := 0) (x := 7) (by decide +kernel), rfl⟩
theorem dX9_settle_8 : Dc mX9_settle 8 (.iconst 0) 1 9 := ⟨zo_3 (by decide +kernel), rfl⟩
theorem dX9_settle_9 : Dc mX9_settle 9 (.goto 7) 3 12 := ⟨zo_167 (w := 0) (x := 7) (by decide +kernel), rfl⟩
theorem dX9_settle_12 : Dc mX9_settle 12 (.aload_n 0) 1 13 := ⟨zo_42 (by decide +kernel), rfl⟩
theorem dX9_settle_13 : Dc mX9_settle 13 (.getfield 40) 3 16 := ⟨zo_180 (w := 0) (x := 40) (by decide +kernel), rfl⟩
theorem dX9_settle_16 : Dc mX9_settle 16 (.putfield 40) 3 19 := ⟨zo_181 (w := 0) (x := 40) (by decide +kernel), rfl⟩
theorem dX9_settle_19 : Dc mX9_settle 19 (.aload_n 0) 1 20 := ⟨zo_42 (by decide +kernel), rfl⟩
theorem dX9_settle_20 : Dc mX9_settle 20 (.aload_n 0) 1 21 := ⟨zo_42 (by decide +kernel), rfl⟩
theorem dX9_settle_21 : Dc mX9_settle 21 (.getfield 43) 3 24 := ⟨zo_180 (w := 0) (x := 43) (by decide +kernel), rfl⟩
theorem dX9_settle_24 : Dc mX9_settle 24 (.ifCond .ge 8) 3 27 := ⟨zo_156 (w := 0) (x := 8) (by decide +kernel), rfl⟩
theorem dX9_settle_27 : Dc mX9_settle 27 (.bipush 99) 2 29 := ⟨zo_16 (w := 99) (by decide +kernel), rfl⟩
theorem dX9_settle_29 : Dc mX9_settle 29 (.goto 7) 3 32 := ⟨zo_167 (w := 0) (x := 7) (by decide +kernel), rfl⟩
theorem dX9_settle_32 : Dc mX9_settle 32 (.aload_n 0) 1 33 := ⟨zo_42 (by decide +kernel), rfl⟩
theorem dX9_settle_33 : Dc mX9_settle 33 (.getfield 43) 3 36 := ⟨zo_180 (w := 0) (x := 43) (by decide +kernel), rfl⟩
theorem dX9_settle_36 : Dc mX9_settle 36 (.putfield 43) 3 39 := ⟨zo_181 (w := 0) (x := 43) (by decide +kernel), rfl⟩
theorem dX9_settle_39 : Dc mX9_settle 39 (.aload_n 0) 1 40 := ⟨zo_42 (by decide +kernel), rfl⟩
theorem dX9_settle_40 : Dc mX9_settle 40 (.aload_n 0) 1 41 := ⟨zo_42 (by decide +kernel), rfl⟩
theorem dX9_settle_41 : Dc mX9_settle 41 (.getfield 46) 3 44 := ⟨zo_180 (w := 0) (x := 46) (by decide +kernel), rfl⟩
theorem dX9_settle_44 : Dc mX9_settle 44 (.ifCond .ge 7) 3 47 := ⟨zo_156 (w := 0) (x := 7) (by decide +kernel), rfl⟩
theorem dX9_settle_47 : Dc mX9_settle 47 (.iconst 0) 1 48 := ⟨zo_3 (by decide +kernel), rfl⟩
theorem dX9_settle_48 : Dc mX9_settle 48 (.goto 7) 3 51 := ⟨zo_167 (w := 0) (x := 7) (by decide +kernel), rfl⟩
theorem dX9_settle_51 : Dc mX9_settle 51 (.aload_n 0) 1 52 := ⟨zo_42 (by decide +kernel), rfl⟩
theorem dX9_settle_52 : Dc mX9_settle 52 (.getfield 46) 3 55 := ⟨zo_180 (w := 0) (x := 46) (by decide +kernel), rfl⟩
theorem dX9_settle_55 : Dc mX9_settle 55 (.putfield 46) 3 58 := ⟨zo_181 (w := 0) (x := 46) (by decide +kernel), rfl⟩
theorem dX9_settle_58 : Dc mX9_settle 58 (.return_) 1 59 := ⟨zo_177 (by decide +kernel), rfl⟩
theorem dX9_copy_0 : Dc mX9_copy 0 (.aload_n 0) 1 1 := ⟨zo_42 (by decide +kernel), rfl⟩
theorem dX9_copy_1 : Dc mX9_copy 1 (.getfield 14) 3 4 := ⟨zo_180 (w := 0) (x := 14) (by decide +kernel), rfl⟩
theorem dX9_copy_4 : Dc mX9_copy 4 (.aload_n 1) 1 5 := ⟨zo_43 (by decide +kernel), rfl⟩
theorem dX9_copy_5 : Dc mX9_copy 5 (.getfield 14) 3 8 := ⟨zo_180 (w := 0) (x := 14) (by decide +kernel), rfl⟩
theorem dX9_copy_8 : Dc mX9_copy 8 (.invokevirtual 76) 3 11 := ⟨zo_182 (w := 0) (x := 76) (by decide +kernel), rfl⟩
theorem dX9_copy_11 : Dc mX9_copy 11 (.aload_n 0) 1 12 := ⟨zo_42 (by decide +kernel), rfl⟩
theorem dX9_copy_12 : Dc mX9_copy 12 (.getfield 20) 3 15 := ⟨zo_180 (w := 0) (x := 20) (by decide +kernel), rfl⟩
theorem dX9_copy_15 : Dc mX9_copy 15 (.aload_n 1) 1 16 := ⟨zo_43 (by decide +kernel), rfl⟩
theorem dX9_copy_16 : Dc mX9_copy 16 (.getfield 20) 3 19 := ⟨zo_180 (w := 0) (x := 20) (by decide +kernel), rfl⟩
theorem dX9_copy_19 : Dc mX9_copy 19 (.invokevirtual 76) 3 22 := ⟨zo_182 (w := 0) (x := 76) (by decide +kernel), rfl⟩
theorem dX9_copy_22 : Dc mX9_copy 22 (.aload_n 0) 1 23 := ⟨zo_42 (by decide +kernel), rfl⟩
theorem dX9_copy_23 : Dc mX9_copy 23 (.getfield 23) 3 26 := ⟨zo_180 (w := 0) (x := 23) (by decide +kernel), rfl⟩
theorem dX9_copy_26 : Dc mX9_copy 26 (.aload_n 1) 1 27 := ⟨zo_43 (by decide +kernel), rfl⟩
theorem dX9_copy_27 : Dc mX9_copy 27 (.getfield 23) 3 30 := ⟨zo_180 (w := 0) (x := 23) (by decide +kernel), rfl⟩
theorem dX9_copy_30 : Dc mX9_copy 30 (.invokevirtual 76) 3 33 := ⟨zo_182 (w := 0) (x := 76) (by decide +kernel), rfl⟩
theorem dX9_copy_33 : Dc mX9_copy 33 (.aload_n 0) 1 34 := ⟨zo_42 (by decide +kernel), rfl⟩
theorem dX9_copy_34 : Dc mX9_copy 34 (.getfield 26) 3 37 := ⟨zo_180 (w := 0) (x := 26) (by decide +kernel), rfl⟩
theorem dX9_copy_37 : Dc mX9_copy 37 (.aload_n 1) 1 38 := ⟨zo_43 (by decide +kernel), rfl⟩
theorem dX9_copy_38 : Dc mX9_copy 38 (.getfield 26) 3 41 := ⟨zo_180 (w := 0) (x := 26) (by decide +kernel), rfl⟩
theorem dX9_copy_41 : Dc mX9_copy 41 (.invokevirtual 76) 3 44 := ⟨zo_182 (w := 0) (x := 76) (by decide +kernel), rfl⟩
theorem dX9_copy_44 : Dc mX9_copy 44 (.aload_n 0) 1 45 := ⟨zo_42 (by decide +kernel), rfl⟩
theorem dX9_copy_45 : Dc mX9_copy 45 (.getfield 29) 3 48 := ⟨zo_180 (w := 0) (x := 29) (by decide +kernel), rfl⟩
theorem dX9_copy_48 : Dc mX9_copy 48 (.aload_n 1) 1 49 := ⟨zo_43 (by decide +kernel), rfl⟩
theorem dX9_copy_49 : Dc mX9_copy 49 (.getfield 29) 3 52 := ⟨zo_180 (w := 0) (x := 29) (by decide +kernel), rfl⟩
theorem dX9_copy_52 : Dc mX9_copy 52 (.invokevirtual 76) 3 55 := ⟨zo_182 (w := 0) (x := 76) (by decide +kernel), rfl⟩
theorem dX9_copy_55 : Dc mX9_copy 55 (.aload_n 1) 1 56 := ⟨zo_43 (by decide +kernel), rfl⟩
theorem dX9_copy_56 : Dc mX9_copy 56 (.getfield 32) 3 59 := ⟨zo_180 (w := 0) (x := 32) (by decide +kernel), rfl⟩
theorem dX9_copy_59 : Dc mX9_copy 59 (.aload_n 0) 1 60 := ⟨zo_42 (by decide +kernel), rfl⟩
theorem dX9_copy_60 : Dc mX9_copy 60 (.getfield 32) 3 63 := ⟨zo_180 (w := 0) (x := 32) (by decide +kernel), rfl⟩
theorem dX9_copy_63 : Dc mX9_copy 63 (.invokestatic 80) 3 66 := ⟨zo_184 (w := 0) (x := 80) (by decide +kernel), rfl⟩
theorem dX9_copy_66 : Dc mX9_copy 66 (.aload_n 0) 1 67 := ⟨zo_42 (by decide +kernel), rfl⟩
theorem dX9_copy_67 : Dc mX9_copy 67 (.aload_n 1) 1 68 := ⟨zo_43 (by decide +kernel), rfl⟩
theorem dX9_copy_68 : Dc mX9_copy 68 (.getfield 36) 3 71 := ⟨zo_180 (w := 0) (x := 36) (by decide +kernel), rfl⟩
theorem dX9_copy_71 : Dc mX9_copy 71 (.putfield 36) 3 74 := ⟨zo_181 (w := 0) (x := 36) (by decide +kernel), rfl⟩
theorem dX9_copy_74 : Dc mX9_copy 74 (.aload_n 0) 1 75 := ⟨zo_42 (by decide +kernel), rfl⟩
theorem dX9_copy_75 : Dc mX9_copy 75 (.aload_n 1) 1 76 := ⟨zo_43 (by decide +kernel), rfl⟩
theorem dX9_copy_76 : Dc mX9_copy 76 (.getfield 40) 3 79 := ⟨zo_180 (w := 0) (x := 40) (by decide +kernel), rfl⟩
theorem dX9_copy_79 : Dc mX9_copy 79 (.putfield 40) 3 82 := ⟨zo_181 (w := 0) (x := 40) (by decide +kernel), rfl⟩
theorem dX9_copy_82 : Dc mX9_copy 82 (.aload_n 0) 1 83 := ⟨zo_42 (by decide +kernel), rfl⟩
theorem dX9_copy_83 : Dc mX9_copy 83 (.aload_n 1) 1 84 := ⟨zo_43 (by decide +kernel), rfl⟩
theorem dX9_copy_84 : Dc mX9_copy 84 (.getfield 43) 3 87 := ⟨zo_180 (w := 0) (x := 43) (by decide +kernel), rfl⟩
theorem dX9_copy_87 : Dc mX9_copy 87 (.putfield 43) 3 90 := ⟨zo_181 (w := 0) (x := 43) (by decide +kernel), rfl⟩
theorem dX9_copy_90 : Dc mX9_copy 90 (.aload_n 0) 1 91 := ⟨zo_42 (by decide +kernel), rfl⟩
theorem dX9_copy_91 : Dc mX9_copy 91 (.aload_n 1) 1 92 := ⟨zo_43 (by decide +kernel), rfl⟩
theorem dX9_copy_92 : Dc mX9_copy 92 (.getfield 46) 3 95 := ⟨zo_180 (w := 0) (x := 46) (by decide +kernel), rfl⟩
theorem dX9_copy_95 : Dc mX9_copy 95 (.putfield 46) 3 98 := ⟨zo_181 (w := 0) (x := 46) (by decide +kernel), rfl⟩
theorem dX9_copy_98 : Dc mX9_copy 98 (.aload_n 0) 1 99 := ⟨zo_42 (by decide +kernel), rfl⟩
theorem dX9_copy_99 : Dc mX9_copy 99 (.aload_n 1) 1 100 := ⟨zo_43 (by decide +kernel), rfl⟩
theorem dX9_copy_100 : Dc mX9_copy 100 (.getfield 49) 3 103 := ⟨zo_180 (w := 0) (x := 49) (by decide +kernel), rfl⟩
theorem dX9_copy_103 : Dc mX9_copy 103 (.putfield 49) 3 106 := ⟨zo_181 (w := 0) (x := 49) (by decide +kernel), rfl⟩
theorem dX9_copy_106 : Dc mX9_copy 106 (.aload_n 0) 1 107 := ⟨zo_42 (by decide +kernel), rfl⟩
theorem dX9_copy_107 : Dc mX9_copy 107 (.aload_n 1) 1 108 := ⟨zo_43 (by decide +kernel), rfl⟩
theorem dX9_copy_108 : Dc mX9_copy 108 (.getfield 52) 3 111 := ⟨zo_180 (w := 0) (x := 52) (by decide +kernel), rfl⟩
theorem dX9_copy_111 : Dc mX9_copy 111 (.putfield 52) 3 114 := ⟨zo_181 (w := 0) (x := 52) (by decide +kernel), rfl⟩
theorem dX9_copy_114 : Dc mX9_copy 114 (.aload_n 0) 1 115 := ⟨zo_42 (by decide +kernel), rfl⟩
theorem dX9_copy_115 : Dc mX9_copy 115 (.getfield 58) 3 118 := ⟨zo_180 (w := 0) (x := 58) (by decide +kernel), rfl⟩
theorem dX9_copy_118 : Dc mX9_copy 118 (.aload_n 1) 1 119 := ⟨zo_43 (by decide +kernel), rfl⟩
theorem dX9_copy_119 : Dc mX9_copy 119 (.getfield 58) 3 122 := ⟨zo_180 (w := 0) (x := 58) (by decide +kernel), rfl⟩
theorem dX9_copy_122 : Dc mX9_copy 122 (.invokevirtual 84) 3 125 := ⟨zo_182 (w := 0) (x := 84) (by decide +kernel), rfl⟩
theorem dX9_copy_125 : Dc mX9_copy 125 (.aload_n 0) 1 126 := ⟨zo_42 (by decide +kernel), rfl⟩
theorem dX9_copy_126 : Dc mX9_copy 126 (.getfield 62) 3 129 := ⟨zo_180 (w := 0) (x := 62) (by decide +kernel), rfl⟩
theorem dX9_copy_129 : Dc mX9_copy 129 (.aload_n 1) 1 130 := ⟨zo_43 (by decide +kernel), rfl⟩
theorem dX9_copy_130 : Dc mX9_copy 130 (.getfield 62) 3 133 := ⟨zo_180 (w := 0) (x := 62) (by decide +kernel), rfl⟩
theorem dX9_copy_133 : Dc mX9_copy 133 (.invokevirtual 84) 3 136 := ⟨zo_182 (w := 0) (x := 84) (by decide +kernel), rfl⟩
theorem dX9_copy_136 : Dc mX9_copy 136 (.aload_n 0) 1 137 := ⟨zo_42 (by decide +kernel), rfl⟩
theorem dX9_copy_137 : Dc mX9_copy 137 (.getfield 65) 3 140 := ⟨zo_180 (w := 0) (x := 65) (by decide +kernel), rfl⟩
theorem dX9_copy_140 : Dc mX9_copy 140 (.aload_n 1) 1 141 := ⟨zo_43 (by decide +kernel), rfl⟩
theorem dX9_copy_141 : Dc mX9_copy 141 (.getfield 65) 3 144 := ⟨zo_180 (w := 0) (x := 65) (by decide +kernel), rfl⟩
theorem dX9_copy_144 : Dc mX9_copy 144 (.invokevirtual 84) 3 147 := ⟨zo_182 (w := 0) (x := 84) (by decide +kernel), rfl⟩
theorem dX9_copy_147 : Dc mX9_copy 147 (.return_) 1 148 := ⟨zo_177 (by decide +kernel), rfl⟩
theorem dX9_isCold_0 : Dc mX9_isCold 0 (.iconst 0) 1 1 := ⟨zo_3 (by decide +kernel), rfl⟩
theorem dX9_isCold_1 : Dc mX9_isCold 1 (.istore_n 2) 1 2 := ⟨zo_61 (by decide +kernel), rfl⟩
theorem dX9_isCold_2 : Dc mX9_isCold 2 (.iload_n 2) 1 3 := ⟨zo_28 (by decide +kernel), rfl⟩
theorem dX9_isCold_3 : Dc mX9_isCold 3 (.aload_n 0) 1 4 := ⟨zo_42 (by decide +kernel), rfl⟩
theorem dX9_isCold_4 : Dc mX9_isCold 4 (.getfield 29) 3 7 := ⟨zo_180 (w := 0) (x := 29) (by decide +kernel), rfl⟩
theorem dX9_isCold_7 : Dc mX9_isCold 7 (.getfield 87) 3 10 := ⟨zo_180 (w := 0) (x := 87) (by decide +kernel), rfl⟩
theorem dX9_isCold_10 : Dc mX9_isCold 10 (.if_icmp .ge 41) 3 13 := ⟨zo_162 (w := 0) (x := 41) (by decide +kernel), rfl⟩
theorem dX9_isCold_13 : Dc mX9_isCold 13 (.iload_n 1) 1 14 := ⟨zo_27 (by decide +kernel), rfl⟩
theorem dX9_isCold_14 : Dc mX9_isCold 14 (.aload_n 0) 1 15 := ⟨zo_42 (by decide +kernel), rfl⟩
theorem dX9_isCold_15 : Dc mX9_isCold 15 (.getfield 29) 3 18 := ⟨zo_180 (w := 0) (x := 29) (by decide +kernel), rfl⟩
theorem dX9_isCold_18 : Dc mX9_isCold 18 (.getfield 90) 3 21 := ⟨zo_180 (w := 0) (x := 90) (by decide +kernel), rfl⟩
theorem dX9_isCold_21 : Dc mX9_isCold 21 (.iload_n 2) 1 22 := ⟨zo_28 (by decide +kernel), rfl⟩
theorem dX9_isCold_22 : Dc mX9_isCold 22 (.invokestatic 93) 3 25 := ⟨zo_184 (w := 0) (x := 93) (by decide +kernel), rfl⟩
theorem dX9_isCold_25 : Dc mX9_isCold 25 (.if_icmp .lt 20) 3 28 := ⟨zo_161 (w := 0) (x := 20) (by decide +kernel), rfl⟩
theorem dX9_isCold_28 : Dc mX9_isCold 28 (.iload_n 1) 1 29 := ⟨zo_27 (by decide +kernel), rfl⟩
theorem dX9_isCold_29 : Dc mX9_isCold 29 (.aload_n 0) 1 30 := ⟨zo_42 (by decide +kernel), rfl⟩
theorem dX9_isCold_30 : Dc mX9_isCold 30 (.getfield 29) 3 33 := ⟨zo_180 (w := 0) (x := 29) (by decide +kernel), rfl⟩
theorem dX9_isCold_33 : Dc mX9_isCold 33 (.getfield 97) 3 36 := ⟨zo_180 (w := 0) (x := 97) (by decide +kernel), rfl⟩
theorem dX9_isCold_36 : Dc mX9_isCold 36 (.iload_n 2) 1 37 := ⟨zo_28 (by decide +kernel), rfl⟩
theorem dX9_isCold_37 : Dc mX9_isCold 37 (.invokestatic 93) 3 40 := ⟨zo_184 (w := 0) (x := 93) (by decide +kernel), rfl⟩
theorem dX9_isCold_40 : Dc mX9_isCold 40 (.if_icmp .gt 5) 3 43 := ⟨zo_163 (w := 0) (x := 5) (by decide +kernel), rfl⟩
theorem dX9_isCold_43 : Dc mX9_isCold 43 (.iconst 1) 1 44 := ⟨zo_4 (by decide +kernel), rfl⟩
theorem dX9_isCold_44 : Dc mX9_isCold 44 (.ireturn) 1 45 := ⟨zo_172 (by decide +kernel), rfl⟩
theorem dX9_isCold_45 : Dc mX9_isCold 45 (.iinc 2 1) 3 48 := ⟨zo_iinc (x := 1) (by decide +kernel), rfl⟩
theorem dX9_isCold_48 : Dc mX9_isCold 48 (.goto (-46)) 3 51 := ⟨zo_167 (w := 255) (x := 210) (by decide +kernel), rfl⟩
theorem dX9_isCold_51 : Dc mX9_isCold 51 (.iconst 0) 1 52 := ⟨zo_3 (by decide +kernel), rfl⟩
theorem dX9_isCold_52 : Dc mX9_isCold 52 (.ireturn) 1 53 := ⟨zo_172 (by decide +kernel), rfl⟩
theorem dX10_init_0 : Dc mX10_init 0 (.aload_n 0) 1 1 := ⟨zo_42 (by decide +kernel), rfl⟩
theorem dX10_init_1 : Dc mX10_init 1 (.invokespecial 1) 3 4 := ⟨zo_183 (w := 0) (x := 1) (by decide +kernel), rfl⟩
theorem dX10_init_4 : Dc mX10_init 4 (.aload_n 0) 1 5 := ⟨zo_42 (by decide +kernel), rfl⟩
theorem dX10_init_5 : Dc mX10_init 5 (.iconst 0) 1 6 := ⟨zo_3 (by decide +kernel), rfl⟩
theorem dX10_init_6 : Dc mX10_init 6 (.putfield 7) 3 9 := ⟨zo_181 (w := 0) (x := 7) (by decide +kernel), rfl⟩
theorem dX10_init_9 : Dc mX10_init 9 (.aload_n 0) 1 10 := ⟨zo_42 (by decide +kernel), rfl⟩
theorem dX10_init_10 : Dc mX10_init 10 (.bipush 20) 2 12 := ⟨zo_16 (w := 20) (by decide +kernel), rfl⟩
theorem dX10_init_12 : Dc mX10_init 12 (.newarray .int) 2 14 := ⟨by decide +kernel, rfl⟩
theorem dX10_init_14 : Dc mX10_init 14 (.putfield 13) 3 17 := ⟨zo_181 (w := 0) (x := 13) (by decide +kernel), rfl⟩
theorem dX10_init_17 : Dc mX10_init 17 (.aload_n 0) 1 18 := ⟨zo_42 (by decide +kernel), rfl⟩
theorem dX10_init_18 : Dc mX10_init 18 (.bipush 20) 2 20 := ⟨zo_16 (w := 20) (by decide +kernel), rfl⟩
theorem dX10_init_20 : Dc mX10_init 20 (.newarray .int) 2 22 := ⟨by decide +kernel, rfl⟩
theorem dX10_init_22 : Dc mX10_init 22 (.putfield 17) 3 25 := ⟨zo_181 (w := 0) (x := 17) (by decide +kernel), rfl⟩
theorem dX10_init_25 : Dc mX10_init 25 (.aload_n 0) 1 26 := ⟨zo_42 (by decide +kernel), rfl⟩
theorem dX10_init_26 : Dc mX10_init 26 (.bipush 20) 2 28 := ⟨zo_16 (w := 20) (by decide +kernel), rfl⟩
theorem dX10_init_28 : Dc mX10_init 28 (.newarray .int) 2 30 := ⟨by decide +kernel, rfl⟩
theorem dX10_init_30 : Dc mX10_init 30 (.putfield 20) 3 33 := ⟨zo_181 (w := 0) (x := 20) (by decide +kernel), rfl⟩
theorem dX10_init_33 : Dc mX10_init 33 (.return_) 1 34 := ⟨zo_177 (by decide +kernel), rfl⟩
theorem dX10_clear_0 : Dc mX10_clear 0 (.aload_n 0) 1 1 := ⟨zo_42 (by decide +kernel), rfl⟩
theorem dX10_clear_1 : Dc mX10_clear 1 (.iconst 0) 1 2 := ⟨zo_3 (by decide +kernel), rfl⟩
theorem dX10_clear_2 : Dc mX10_clear 2 (.putfield 7) 3 5 := ⟨zo_181 (w := 0) (x := 7) (by decide +kernel), rfl⟩
theorem dX10_clear_5 : Dc mX10_clear 5 (.return_) 1 6 := ⟨zo_177 (by decide +kernel), rfl⟩
theorem dX10_add_0 : Dc mX10_add 0 (.aload_n 0) 1 1 := ⟨zo_42 (by decide +kernel), rfl⟩
theorem dX10_add_1 : Dc mX10_add 1 (.getfield 7) 3 4 := ⟨zo_180 (w := 0) (x := 7) (by decide +kernel), rfl⟩
theorem dX10_add_4 : Dc mX10_add 4 (.bipush 20) 2 6 := ⟨zo_16 (w := 20) (by decide +kernel), rfl⟩
theorem dX10_add_6 : Dc mX10_add 6 (.if_icmp .lt 54) 3 9 := ⟨zo_161 (w := 0) (x := 54) (by decide +kernel), rfl⟩
theorem dX10_add_9 : Dc mX10_add 9 (.aload_n 0) 1 10 := ⟨zo_42 (by decide +kernel), rfl⟩
theorem dX10_add_10 : Dc mX10_add 10 (.bipush 19) 2 12 := ⟨zo_16 (w := 19) (by decide +kernel), rfl⟩
theorem dX10_add_12 : Dc mX10_add 12 (.putfield 7) 3 15 := ⟨zo_181 (w := 0) (x := 7) (by decide +kernel), rfl⟩
theorem dX10_add_15 : Dc mX10_add 15 (.aload_n 0) 1 16 := ⟨zo_42 (by decide +kernel), rfl⟩
theorem dX10_add_16 : Dc mX10_add 16 (.getfield 13) 3 19 := ⟨zo_180 (w := 0) (x := 13) (by decide +kernel), rfl⟩
theorem dX10_add_19 : Dc mX10_add 19 (.iconst 1) 1 20 := ⟨zo_4 (by decide +kernel), rfl⟩
theorem dX10_add_20 : Dc mX10_add 20 (.aload_n 0) 1 21 := ⟨zo_42 (by decide +kernel), rfl⟩
theorem dX10_add_21 : Dc mX10_add 21 (.getfield 13) 3 24 := ⟨zo_180 (w := 0) (x := 13) (by decide +kernel), rfl⟩
theorem dX10_add_24 : Dc mX10_add 24 (.iconst 0) 1 25 := ⟨zo_3 (by decide +kernel), rfl⟩
theorem dX10_add_25 : Dc mX10_add 25 (.bipush 19) 2 27 := ⟨zo_16 (w := 19) (by decide +kernel), rfl⟩
theorem dX10_add_27 : Dc mX10_add 27 (.invokestatic 23) 3 30 := ⟨zo_184 (w := 0) (x := 23) (by decide +kernel), rfl⟩
theorem dX10_add_30 : Dc mX10_add 30 (.aload_n 0) 1 31 := ⟨zo_42 (by decide +kernel), rfl⟩
theorem dX10_add_31 : Dc mX10_add 31 (.getfield 17) 3 34 := ⟨zo_180 (w := 0) (x := 17) (by decide +kernel), rfl⟩
theorem dX10_add_34 : Dc mX10_add 34 (.iconst 1) 1 35 := ⟨zo_4 (by decide +kernel), rfl⟩
theorem dX10_add_35 : Dc mX10_add 35 (.aload_n 0) 1 36 := ⟨zo_42 (by decide +kernel), rfl⟩
theorem dX10_add_36 : Dc mX10_add 36 (.getfield 17) 3 39 := ⟨zo_180 (w := 0) (x := 17) (by decide +kernel), rfl⟩
theorem dX10_add_39 : Dc mX10_add 39 (.iconst 0) 1 40 := ⟨zo_3 (by decide +kernel), rfl⟩
theorem dX10_add_40 : Dc mX10_add 40 (.bipush 19) 2 42 := ⟨zo_16 (w := 19) (by decide +kernel), rfl⟩
theorem dX10_add_42 : Dc mX10_add 42 (.invokestatic 23) 3 45 := ⟨zo_184 (w := 0) (x := 23) (by decide +kernel), rfl⟩
theorem dX10_add_45 : Dc mX10_add 45 (.aload_n 0) 1 46 := ⟨zo_42 (by decide +kernel), rfl⟩
theorem dX10_add_46 : Dc mX10_add 46 (.getfield 20) 3 49 := ⟨zo_180 (w := 0) (x := 20) (by decide +kernel), rfl⟩
theorem dX10_add_49 : Dc mX10_add 49 (.iconst 1) 1 50 := ⟨zo_4 (by decide +kernel), rfl⟩
theorem dX10_add_50 : Dc mX10_add 50 (.aload_n 0) 1 51 := ⟨zo_42 (by decide +kernel), rfl⟩
theorem dX10_add_51 : Dc mX10_add 51 (.getfield 20) 3 54 := ⟨zo_180 (w := 0) (x := 20) (by decide +kernel), rfl⟩
theorem dX10_add_54 : Dc mX10_add 54 (.iconst 0) 1 55 := ⟨zo_3 (by decide +kernel), rfl⟩
theorem dX10_add_55 : Dc mX10_add 55 (.bipush 19) 2 57 := ⟨zo_16 (w := 19) (by decide +kernel), rfl⟩
theorem dX10_add_57 : Dc mX10_add 57 (.invokestatic 23) 3 60 := ⟨zo_184 (w := 0) (x := 23) (by decide +kernel), rfl⟩
theorem dX10_add_60 : Dc mX10_add 60 (.aload_n 0) 1 61 := ⟨zo_42 (by decide +kernel), rfl⟩
theorem dX10_add_61 : Dc mX10_add 61 (.getfield 13) 3 64 := ⟨zo_180 (w := 0) (x := 13) (by decide +kernel), rfl⟩
theorem dX10_add_64 : Dc mX10_add 64 (.aload_n 0) 1 65 := ⟨zo_42 (by decide +kernel), rfl⟩
theorem dX10_add_65 : Dc mX10_add 65 (.getfield 7) 3 68 := ⟨zo_180 (w := 0) (x := 7) (by decide +kernel), rfl⟩
theorem dX10_add_68 : Dc mX10_add 68 (.iload_n 1) 1 69 := ⟨zo_27 (by decide +kernel), rfl⟩
theorem dX10_add_69 : Dc mX10_add 69 (.invokestatic 29) 3 72 := ⟨zo_184 (w := 0) (x := 29) (by decide +kernel), rfl⟩
theorem dX10_add_72 : Dc mX10_add 72 (.aload_n 0) 1 73 := ⟨zo_42 (by decide +kernel), rfl⟩
theorem dX10_add_73 : Dc mX10_add 73 (.getfield 17) 3 76 := ⟨zo_180 (w := 0) (x := 17) (by decide +kernel), rfl⟩
theorem dX10_add_76 : Dc mX10_add 76 (.aload_n 0) 1 77 := ⟨zo_42 (by decide +kernel), rfl⟩
theorem dX10_add_77 : Dc mX10_add 77 (.getfield 7) 3 80 := ⟨zo_180 (w := 0) (x := 7) (by decide +kernel), rfl⟩
theorem dX10_add_80 : Dc mX10_add 80 (.iload_n 2) 1 81 := ⟨zo_28 (by decide +kernel), rfl⟩
theorem dX10_add_81 : Dc mX10_add 81 (.invokestatic 29) 3 84 := ⟨zo_184 (w := 0) (x := 29) (by decide +kernel), rfl⟩
theorem dX10_add_84 : Dc mX10_add 84 (.aload_n 0) 1 85 := ⟨zo_42 (by decide +kernel), rfl⟩
theorem dX10_add_85 : Dc mX10_add 85 (.getfield 20) 3 88 := ⟨zo_180 (w := 0) (x := 20) (by decide +kernel), rfl⟩
theorem dX10_add_88 : Dc mX10_add 88 (.aload_n 0) 1 89 := ⟨zo_42 (by decide +kernel), rfl⟩
theorem dX10_add_89 : Dc mX10_add 89 (.getfield 7) 3 92 := ⟨zo_180 (w := 0) (x := 7) (by decide +kernel), rfl⟩
theorem dX10_add_92 : Dc mX10_add 92 (.iload_n 3) 1 93 := ⟨zo_29 (by decide +kernel), rfl⟩
theorem dX10_add_93 : Dc mX10_add 93 (.invokestatic 29) 3 96 := ⟨zo_184 (w := 0) (x := 29) (by decide +kernel), rfl⟩
theorem dX10_add_96 : Dc mX10_add 96 (.aload_n 0) 1 97 := ⟨zo_42 (by decide +kernel), rfl⟩
theorem dX10_add_97 : Dc mX10_add 97 (.dup) 1 98 := ⟨zo_89 (by decide +kernel), rfl⟩
theorem dX10_add_98 : Dc mX10_add 98 (.getfield 7) 3 101 := ⟨zo_180 (w := 0) (x := 7) (by decide +kernel), rfl⟩
theorem dX10_add_101 : Dc mX10_add 101 (.iconst 1) 1 102 := ⟨zo_4 (by decide +kernel), rfl⟩
theorem dX10_add_102 : Dc mX10_add 102 (.iadd) 1 103 := ⟨zo_96 (by decide +kernel), rfl⟩
theorem dX10_add_103 : Dc mX10_add 103 (.putfield 7) 3 106 := ⟨zo_181 (w := 0) (x := 7) (by decide +kernel), rfl⟩
theorem dX10_add_106 : Dc mX10_add 106 (.return_) 1 107 := ⟨zo_177 (by decide +kernel), rfl⟩
theorem dX10_takeBack_0 : Dc mX10_takeBack 0 (.aload_n 0) 1 1 := ⟨zo_42 (by decide +kernel), rfl⟩
theorem dX10_takeBack_1 : Dc mX10_takeBack 1 (.getfield 7) 3 4 := ⟨zo_180 (w := 0) (x := 7) (by decide +kernel), rfl⟩
theorem dX10_takeBack_4 : Dc mX10_takeBack 4 (.ifCond .gt 5) 3 7 := ⟨zo_157 (w := 0) (x := 5) (by decide +kernel), rfl⟩
theorem dX10_takeBack_7 : Dc mX10_takeBack 7 (.iconst 0) 1 8 := ⟨zo_3 (by decide +kernel), rfl⟩
theorem dX10_takeBack_8 : Dc mX10_takeBack 8 (.ireturn) 1 9 := ⟨zo_172 (by decide +kernel), rfl⟩
theorem dX10_takeBack_9 : Dc mX10_takeBack 9 (.aload_n 0) 1 10 := ⟨zo_42 (by decide +kernel), rfl⟩
theorem dX10_takeBack_10 : Dc mX10_takeBack 10 (.dup) 1 11 := ⟨zo_89 (by decide +kernel), rfl⟩
theorem dX10_takeBack_11 : Dc mX10_takeBack 11 (.getfield 7) 3 14 := ⟨zo_180 (w := 0) (x := 7) (by decide +kernel), rfl⟩
theorem dX10_takeBack_14 : Dc mX10_takeBack 14 (.iconst 1) 1 15 := ⟨zo_4 (by decide +kernel), rfl⟩
theorem dX10_takeBack_15 : Dc mX10_takeBack 15 (.isub) 1 16 := ⟨zo_100 (by decide +kernel), rfl⟩
theorem dX10_takeBack_16 : Dc mX10_takeBack 16 (.putfield 7) 3 19 := ⟨zo_181 (w := 0) (x := 7) (by decide +kernel), rfl⟩
theorem dX10_takeBack_19 : Dc mX10_takeBack 19 (.aload_n 0) 1 20 := ⟨zo_42 (by decide +kernel), rfl⟩
theorem dX10_takeBack_20 : Dc mX10_takeBack 20 (.getfield 17) 3 23 := ⟨zo_180 (w := 0) (x := 17) (by decide +kernel), rfl⟩
theorem dX10_takeBack_23 : Dc mX10_takeBack 23 (.aload_n 0) 1 24 := ⟨zo_42 (by decide +kernel), rfl⟩
theorem dX10_takeBack_24 : Dc mX10_takeBack 24 (.getfield 7) 3 27 := ⟨zo_180 (w := 0) (x := 7) (by decide +kernel), rfl⟩
theorem dX10_takeBack_27 : Dc mX10_takeBack 27 (.invokestatic 35) 3 30 := ⟨zo_184 (w := 0) (x := 35) (by decide +kernel), rfl⟩
theorem dX10_takeBack_30 : Dc mX10_takeBack 30 (.istore_n 2) 1 31 := ⟨zo_61 (by decide +kernel), rfl⟩
theorem dX10_takeBack_31 : Dc mX10_takeBack 31 (.aload_n 0) 1 32 := ⟨zo_42 (by decide +kernel), rfl⟩
theorem dX10_takeBack_32 : Dc mX10_takeBack 32 (.getfield 20) 3 35 := ⟨zo_180 (w := 0) (x := 20) (by decide +kernel), rfl⟩
theorem dX10_takeBack_35 : Dc mX10_takeBack 35 (.aload_n 0) 1 36 := ⟨zo_42 (by decide +kernel), rfl⟩
theorem dX10_takeBack_36 : Dc mX10_takeBack 36 (.getfield 7) 3 39 := ⟨zo_180 (w := 0) (x := 7) (by decide +kernel), rfl⟩
theorem dX10_takeBack_39 : Dc mX10_takeBack 39 (.invokestatic 35) 3 42 := ⟨zo_184 (w := 0) (x := 35) (by decide +kernel), rfl⟩
theorem dX10_takeBack_42 : Dc mX10_takeBack 42 (.istore_n 3) 1 43 := ⟨zo_62 (by decide +kernel), rfl⟩
theorem dX10_takeBack_43 : Dc mX10_takeBack 43 (.aload_n 0) 1 44 := ⟨zo_42 (by decide +kernel), rfl⟩
theorem dX10_takeBack_44 : Dc mX10_takeBack 44 (.getfield 13) 3 47 := ⟨zo_180 (w := 0) (x := 13) (by decide +kernel), rfl⟩
theorem dX10_takeBack_47 : Dc mX10_takeBack 47 (.aload_n 0) 1 48 := ⟨zo_42 (by decide +kernel), rfl⟩
theorem dX10_takeBack_48 : Dc mX10_takeBack 48 (.getfield 7) 3 51 := ⟨zo_180 (w := 0) (x := 7) (by decide +kernel), rfl⟩
theorem dX10_takeBack_51 : Dc mX10_takeBack 51 (.invokestatic 35) 3 54 := ⟨zo_184 (w := 0) (x := 35) (by decide +kernel), rfl⟩
theorem dX10_takeBack_54 : Dc mX10_takeBack 54 (.lookupswitch 50 #[(0, 26), (1, 38)]) 26 80 := ⟨by decide +kernel, rfl⟩
theorem dX10_takeBack_80 : Dc mX10_takeBack 80 (.aload_n 1) 1 81 := ⟨zo_43 (by decide +kernel), rfl⟩
theorem dX10_takeBack_81 : Dc mX10_takeBack 81 (.getfield 39) 3 84 := ⟨zo_180 (w := 0) (x := 39) (by decide +kernel), rfl⟩
theorem dX10_takeBack_84 : Dc mX10_takeBack 84 (.iload_n 2) 1 85 := ⟨zo_28 (by decide +kernel), rfl⟩
theorem dX10_takeBack_85 : Dc mX10_takeBack 85 (.iload_n 3) 1 86 := ⟨zo_29 (by decide +kernel), rfl⟩
theorem dX10_takeBack_86 : Dc mX10_takeBack 86 (.invokestatic 29) 3 89 := ⟨zo_184 (w := 0) (x := 29) (by decide +kernel), rfl⟩
theorem dX10_takeBack_89 : Dc mX10_takeBack 89 (.goto 24) 3 92 := ⟨zo_167 (w := 0) (x := 24) (by decide +kernel), rfl⟩
theorem dX10_takeBack_92 : Dc mX10_takeBack 92 (.aload_n 1) 1 93 := ⟨zo_43 (by decide +kernel), rfl⟩
theorem dX10_takeBack_93 : Dc mX10_takeBack 93 (.getfield 44) 3 96 := ⟨zo_180 (w := 0) (x := 44) (by decide +kernel), rfl⟩
theorem dX10_takeBack_96 : Dc mX10_takeBack 96 (.iload_n 2) 1 97 := ⟨zo_28 (by decide +kernel), rfl⟩
theorem dX10_takeBack_97 : Dc mX10_takeBack 97 (.iload_n 3) 1 98 := ⟨zo_29 (by decide +kernel), rfl⟩
theorem dX10_takeBack_98 : Dc mX10_takeBack 98 (.invokestatic 29) 3 101 := ⟨zo_184 (w := 0) (x := 29) (by decide +kernel), rfl⟩
theorem dX10_takeBack_101 : Dc mX10_takeBack 101 (.goto 12) 3 104 := ⟨zo_167 (w := 0) (x := 12) (by decide +kernel), rfl⟩
theorem dX10_takeBack_104 : Dc mX10_takeBack 104 (.aload_n 1) 1 105 := ⟨zo_43 (by decide +kernel), rfl⟩
theorem dX10_takeBack_105 : Dc mX10_takeBack 105 (.getfield 47) 3 108 := ⟨zo_180 (w := 0) (x := 47) (by decide +kernel), rfl⟩
theorem dX10_takeBack_108 : Dc mX10_takeBack 108 (.iload_n 2) 1 109 := ⟨zo_28 (by decide +kernel), rfl⟩
theorem dX10_takeBack_109 : Dc mX10_takeBack 109 (.iload_n 3) 1 110 := ⟨zo_29 (by decide +kernel), rfl⟩
theorem dX10_takeBack_110 : Dc mX10_takeBack 110 (.invokestatic 29) 3 113 := ⟨zo_184 (w := 0) (x := 29) (by decide +kernel), rfl⟩
theorem dX10_takeBack_113 : Dc mX10_takeBack 113 (.iconst 1) 1 114 := ⟨zo_4 (by decide +kernel), rfl⟩
theorem dX10_takeBack_114 : Dc mX10_takeBack 114 (.ireturn) 1 115 := ⟨zo_172 (by decide +kernel), rfl⟩
theorem dX11_init_0 : Dc mX11_init 0 (.aload_n 0) 1 1 := ⟨zo_42 (by decide +kernel), rfl⟩
theorem dX11_init_1 : Dc mX11_init 1 (.invokespecial 1) 3 4 := ⟨zo_183 (w := 0) (x := 1) (by decide +kernel), rfl⟩
theorem dX11_init_4 : Dc mX11_init 4 (.aload_n 0) 1 5 := ⟨zo_42 (by decide +kernel), rfl⟩
theorem dX11_init_5 : Dc mX11_init 5 (.sipush 700) 3 8 := ⟨zo_17 (w := 2) (x := 188) (by decide +kernel), rfl⟩
theorem dX11_init_8 : Dc mX11_init 8 (.newarray .byte) 2 10 := ⟨by decide +kernel, rfl⟩
theorem dX11_init_10 : Dc mX11_init 10 (.putfield 9) 3 13 := ⟨zo_181 (w := 0) (x := 9) (by decide +kernel), rfl⟩
theorem dX11_init_13 : Dc mX11_init 13 (.aload_n 0) 1 14 := ⟨zo_42 (by decide +kernel), rfl⟩
theorem dX11_init_14 : Dc mX11_init 14 (.iconst 0) 1 15 := ⟨zo_3 (by decide +kernel), rfl⟩
theorem dX11_init_15 : Dc mX11_init 15 (.putfield 13) 3 18 := ⟨zo_181 (w := 0) (x := 13) (by decide +kernel), rfl⟩
theorem dX11_init_18 : Dc mX11_init 18 (.aload_n 0) 1 19 := ⟨zo_42 (by decide +kernel), rfl⟩
theorem dX11_init_19 : Dc mX11_init 19 (.new 17) 3 22 := ⟨zo_187 (w := 0) (x := 17) (by decide +kernel), rfl⟩
theorem dX11_init_22 : Dc mX11_init 22 (.dup) 1 23 := ⟨zo_89 (by decide +kernel), rfl⟩
theorem dX11_init_23 : Dc mX11_init 23 (.invokespecial 19) 3 26 := ⟨zo_183 (w := 0) (x := 19) (by decide +kernel), rfl⟩
theorem dX11_init_26 : Dc mX11_init 26 (.putfield 20) 3 29 := ⟨zo_181 (w := 0) (x := 20) (by decide +kernel), rfl⟩
theorem dX11_init_29 : Dc mX11_init 29 (.aload_n 0) 1 30 := ⟨zo_42 (by decide +kernel), rfl⟩
theorem dX11_init_30 : Dc mX11_init 30 (.new 24) 3 33 := ⟨zo_187 (w := 0) (x := 24) (by decide +kernel), rfl⟩
theorem dX11_init_33 : Dc mX11_init 33 (.dup) 1 34 := ⟨zo_89 (by decide +kernel), rfl⟩
theorem dX11_init_34 : Dc mX11_init 34 (.invokespecial 26) 3 37 := ⟨zo_183 (w := 0) (x := 26) (by decide +kernel), rfl⟩
theorem dX11_init_37 : Dc mX11_init 37 (.putfield 27) 3 40 := ⟨zo_181 (w := 0) (x := 27) (by decide +kernel), rfl⟩
theorem dX11_init_40 : Dc mX11_init 40 (.aload_n 0) 1 41 := ⟨zo_42 (by decide +kernel), rfl⟩
theorem dX11_init_41 : Dc mX11_init 41 (.new 31) 3 44 := ⟨zo_187 (w := 0) (x := 31) (by decide +kernel), rfl⟩
theorem dX11_init_44 : Dc mX11_init 44 (.dup) 1 45 := ⟨zo_89 (by decide +kernel), rfl⟩
theorem dX11_init_45 : Dc mX11_init 45 (.invokespecial 33) 3 48 := ⟨zo_183 (w := 0) (x := 33) (by decide +kernel), rfl⟩
theorem dX11_init_48 : Dc mX11_init 48 (.putfield 34) 3 51 := ⟨zo_181 (w := 0) (x := 34) (by decide +kernel), rfl⟩
theorem dX11_init_51 : Dc mX11_init 51 (.aload_n 0) 1 52 := ⟨zo_42 (by decide +kernel), rfl⟩
theorem dX11_init_52 : Dc mX11_init 52 (.new 31) 3 55 := ⟨zo_187 (w := 0) (x := 31) (by decide +kernel), rfl⟩
theorem dX11_init_55 : Dc mX11_init 55 (.dup) 1 56 := ⟨zo_89 (by decide +kernel), rfl⟩
theorem dX11_init_56 : Dc mX11_init 56 (.invokespecial 33) 3 59 := ⟨zo_183 (w := 0) (x := 33) (by decide +kernel), rfl⟩
theorem dX11_init_59 : Dc mX11_init 59 (.putfield 38) 3 62 := ⟨zo_181 (w := 0) (x := 38) (by decide +kernel), rfl⟩
theorem dX11_init_62 : Dc mX11_init 62 (.aload_n 0) 1 63 := ⟨zo_42 (by decide +kernel), rfl⟩
theorem dX11_init_63 : Dc mX11_init 63 (.iconst 0) 1 64 := ⟨zo_3 (by decide +kernel), rfl⟩
theorem dX11_init_64 : Dc mX11_init 64 (.putfield 41) 3 67 := ⟨zo_181 (w := 0) (x := 41) (by decide +kernel), rfl⟩
theorem dX11_init_67 : Dc mX11_init 67 (.aload_n 0) 1 68 := ⟨zo_42 (by decide +kernel), rfl⟩
theorem dX11_init_68 : Dc mX11_init 68 (.new 45) 3 71 := ⟨zo_187 (w := 0) (x := 45) (by decide +kernel), rfl⟩
theorem dX11_init_71 : Dc mX11_init 71 (.dup) 1 72 := ⟨zo_89 (by decide +kernel), rfl⟩
theorem dX11_init_72 : Dc mX11_init 72 (.aload_n 0) 1 73 := ⟨zo_42 (by decide +kernel), rfl⟩
theorem dX11_init_73 : Dc mX11_init 73 (.getfield 20) 3 76 := ⟨zo_180 (w := 0) (x := 20) (by decide +kernel), rfl⟩
theorem dX11_init_76 : Dc mX11_init 76 (.invokespecial 47) 3 79 := ⟨zo_183 (w := 0) (x := 47) (by decide +kernel), rfl⟩
theorem dX11_init_79 : Dc mX11_init 79 (.putfield 50) 3 82 := ⟨zo_181 (w := 0) (x := 50) (by decide +kernel), rfl⟩
theorem dX11_init_82 : Dc mX11_init 82 (.aload_n 0) 1 83 := ⟨zo_42 (by decide +kernel), rfl⟩
theorem dX11_init_83 : Dc mX11_init 83 (.new 54) 3 86 := ⟨zo_187 (w := 0) (x := 54) (by decide +kernel), rfl⟩
theorem dX11_init_86 : Dc mX11_init 86 (.dup) 1 87 := ⟨zo_89 (by decide +kernel), rfl⟩
theorem dX11_init_87 : Dc mX11_init 87 (.invokespecial 56) 3 90 := ⟨zo_183 (w := 0) (x := 56) (by decide +kernel), rfl⟩
theorem dX11_init_90 : Dc mX11_init 90 (.putfield 57) 3 93 := ⟨zo_181 (w := 0) (x := 57) (by decide +kernel), rfl⟩
theorem dX11_init_93 : Dc mX11_init 93 (.aload_n 0) 1 94 := ⟨zo_42 (by decide +kernel), rfl⟩
theorem dX11_init_94 : Dc mX11_init 94 (.new 61) 3 97 := ⟨zo_187 (w := 0) (x := 61) (by decide +kernel), rfl⟩
theorem dX11_init_97 : Dc mX11_init 97 (.dup) 1 98 := ⟨zo_89 (by decide +kernel), rfl⟩
theorem dX11_init_98 : Dc mX11_init 98 (.invokespecial 63) 3 101 := ⟨zo_183 (w := 0) (x := 63) (by decide +kernel), rfl⟩
theorem dX11_init_101 : Dc mX11_init 101 (.putfield 64) 3 104 := ⟨zo_181 (w := 0) (x := 64) (by decide +kernel), rfl⟩
theorem dX11_init_104 : Dc mX11_init 104 (.aload_n 0) 1 105 := ⟨zo_42 (by decide +kernel), rfl⟩
theorem dX11_init_105 : Dc mX11_init 105 (.new 68) 3 108 := ⟨zo_187 (w := 0) (x := 68) (by decide +kernel), rfl⟩
theorem dX11_init_108 : Dc mX11_init 108 (.dup) 1 109 := ⟨zo_89 (by decide +kernel), rfl⟩
theorem dX11_init_109 : Dc mX11_init 109 (.aload_n 0) 1 110 := ⟨zo_42 (by decide +kernel), rfl⟩
theorem dX11_init_110 : Dc mX11_init 110 (.getfield 20) 3 113 := ⟨zo_180 (w := 0) (x := 20) (by decide +kernel), rfl⟩
theorem dX11_init_113 : Dc mX11_init 113 (.invokespecial 70) 3 116 := ⟨zo_183 (w := 0) (x := 70) (by decide +kernel), rfl⟩
theorem dX11_init_116 : Dc mX11_init 116 (.putfield 71) 3 119 := ⟨zo_181 (w := 0) (x := 71) (by decide +kernel), rfl⟩
theorem dX11_init_119 : Dc mX11_init 119 (.aload_n 0) 1 120 := ⟨zo_42 (by decide +kernel), rfl⟩
theorem dX11_init_120 : Dc mX11_init 120 (.new 75) 3 123 := ⟨zo_187 (w := 0) (x := 75) (by decide +kernel), rfl⟩
theorem dX11_init_123 : Dc mX11_init 123 (.dup) 1 124 := ⟨zo_89 (by decide +kernel), rfl⟩
theorem dX11_init_124 : Dc mX11_init 124 (.invokespecial 77) 3 127 := ⟨zo_183 (w := 0) (x := 77) (by decide +kernel), rfl⟩
theorem dX11_init_127 : Dc mX11_init 127 (.putfield 78) 3 130 := ⟨zo_181 (w := 0) (x := 78) (by decide +kernel), rfl⟩
theorem dX11_init_130 : Dc mX11_init 130 (.aload_n 0) 1 131 := ⟨zo_42 (by decide +kernel), rfl⟩
theorem dX11_init_131 : Dc mX11_init 131 (.getfield 34) 3 134 := ⟨zo_180 (w := 0) (x := 34) (by decide +kernel), rfl⟩
theorem dX11_init_134 : Dc mX11_init 134 (.aload_n 0) 1 135 := ⟨zo_42 (by decide +kernel), rfl⟩
theorem dX11_init_135 : Dc mX11_init 135 (.getfield 20) 3 138 := ⟨zo_180 (w := 0) (x := 20) (by decide +kernel), rfl⟩
theorem dX11_init_138 : Dc mX11_init 138 (.invokevirtual 82) 3 141 := ⟨zo_182 (w := 0) (x := 82) (by decide +kernel), rfl⟩
theorem dX11_init_141 : Dc mX11_init 141 (.return_) 1 142 := ⟨zo_177 (by decide +kernel), rfl⟩
theorem dX11_feed_0 : Dc mX11_feed 0 (.aload_n 0) 1 1 := ⟨zo_42 (by decide +kernel), rfl⟩
theorem dX11_feed_1 : Dc mX11_feed 1 (.getfield 13) 3 4 := ⟨zo_180 (w := 0) (x := 13) (by decide +kernel), rfl⟩
theorem dX11_feed_4 : Dc mX11_feed 4 (.sipush 680) 3 7 := ⟨zo_17 (w := 2) (x := 168) (by decide +kernel), rfl⟩
theorem dX11_feed_7 : Dc mX11_feed 7 (.if_icmp .le 5) 3 10 := ⟨zo_164 (w := 0) (x := 5) (by decide +kernel), rfl⟩
theorem dX11_feed_10 : Dc mX11_feed 10 (.iconst (-1)) 1 11 := ⟨zo_2 (by decide +kernel), rfl⟩
theorem dX11_feed_11 : Dc mX11_feed 11 (.ireturn) 1 12 := ⟨zo_172 (by decide +kernel), rfl⟩
theorem dX11_feed_12 : Dc mX11_feed 12 (.aload_n 0) 1 13 := ⟨zo_42 (by decide +kernel), rfl⟩
theorem dX11_feed_13 : Dc mX11_feed 13 (.iload_n 1) 1 14 := ⟨zo_27 (by decide +kernel), rfl⟩
theorem dX11_feed_14 : Dc mX11_feed 14 (.invokevirtual 85) 3 17 := ⟨zo_182 (w := 0) (x := 85) (by decide +kernel), rfl⟩
theorem dX11_feed_17 : Dc mX11_feed 17 (.aload_n 0) 1 18 := ⟨zo_42 (by decide +kernel), rfl⟩
theorem dX11_feed_18 : Dc mX11_feed 18 (.iload_n 2) 1 19 := ⟨zo_28 (by decide +kernel), rfl⟩
theorem dX11_feed_19 : Dc mX11_feed 19 (.invokevirtual 85) 3 22 := ⟨zo_182 (w := 0) (x := 85) (by decide +kernel), rfl⟩
theorem dX11_feed_22 : Dc mX11_feed 22 (.aload_n 0) 1 23 := ⟨zo_42 (by decide +kernel), rfl⟩
theorem dX11_feed_23 : Dc mX11_feed 23 (.iload_n 3) 1 24 := ⟨zo_29 (by decide +kernel), rfl⟩
theorem dX11_feed_24 : Dc mX11_feed 24 (.invokevirtual 85) 3 27 := ⟨zo_182 (w := 0) (x := 85) (by decide +kernel), rfl⟩
theorem dX11_feed_27 : Dc mX11_feed 27 (.aload_n 0) 1 28 := ⟨zo_42 (by decide +kernel), rfl⟩
theorem dX11_feed_28 : Dc mX11_feed 28 (.iload 4) 2 30 := ⟨zo_21 (by decide +kernel), rfl⟩
theorem dX11_feed_30 : Dc mX11_feed 30 (.invokevirtual 85) 3 33 := ⟨zo_182 (w := 0) (x := 85) (by decide +kernel), rfl⟩
theorem dX11_feed_33 : Dc mX11_feed 33 (.aload_n 0) 1 34 := ⟨zo_42 (by decide +kernel), rfl⟩
theorem dX11_feed_34 : Dc mX11_feed 34 (.iload 5) 2 36 := ⟨zo_21 (by decide +kernel), rfl⟩
theorem dX11_feed_36 : Dc mX11_feed 36 (.invokevirtual 85) 3 39 := ⟨zo_182 (w := 0) (x := 85) (by decide +kernel), rfl⟩
theorem dX11_feed_39 : Dc mX11_feed 39 (.aload_n 0) 1 40 := ⟨zo_42 (by decide +kernel), rfl⟩
theorem dX11_feed_40 : Dc mX11_feed 40 (.getfield 13) 3 43 := ⟨zo_180 (w := 0) (x := 13) (by decide +kernel), rfl⟩
theorem dX11_feed_43 : Dc mX11_feed 43 (.ireturn) 1 44 := ⟨zo_172 (by decide +kernel), rfl⟩
theorem dX11_write_0 : Dc mX11_write 0 (.bipush 24) 2 2 := ⟨zo_16 (w := 24) (by decide +kernel), rfl⟩
theorem dX11_write_2 : Dc mX11_write 2 (.istore_n 2) 1 3 := ⟨zo_61 (by decide +kernel), rfl⟩
theorem dX11_write_3 : Dc mX11_write 3 (.iload_n 2) 1 4 := ⟨zo_28 (by decide +kernel), rfl⟩
theorem dX11_write_4 : Dc mX11_write 4 (.ifCond .lt 51) 3 7 := ⟨zo_155 (w := 0) (x := 51) (by decide +kernel), rfl⟩
theorem dX11_write_7 : Dc mX11_write 7 (.aload_n 0) 1 8 := ⟨zo_42 (by decide +kernel), rfl⟩
theorem dX11_write_8 : Dc mX11_write 8 (.getfield 13) 3 11 := ⟨zo_180 (w := 0) (x := 13) (by decide +kernel), rfl⟩
theorem dX11_write_11 : Dc mX11_write 11 (.ifCond .lt 38) 3 14 := ⟨zo_155 (w := 0) (x := 38) (by decide +kernel), rfl⟩
theorem dX11_write_14 : Dc mX11_write 14 (.aload_n 0) 1 15 := ⟨zo_42 (by decide +kernel), rfl⟩
theorem dX11_write_15 : Dc mX11_write 15 (.getfield 13) 3 18 := ⟨zo_180 (w := 0) (x := 13) (by decide +kernel), rfl⟩
theorem dX11_write_18 : Dc mX11_write 18 (.aload_n 0) 1 19 := ⟨zo_42 (by decide +kernel), rfl⟩
theorem dX11_write_19 : Dc mX11_write 19 (.getfield 9) 3 22 := ⟨zo_180 (w := 0) (x := 9) (by decide +kernel), rfl⟩
theorem dX11_write_22 : Dc mX11_write 22 (.arraylength) 1 23 := ⟨zo_190 (by decide +kernel), rfl⟩
theorem dX11_write_23 : Dc mX11_write 23 (.if_icmp .ge 26) 3 26 := ⟨zo_162 (w := 0) (x := 26) (by decide +kernel), rfl⟩
theorem dX11_write_26 : Dc mX11_write 26 (.aload_n 0) 1 27 := ⟨zo_42 (by decide +kernel), rfl⟩
theorem dX11_write_27 : Dc mX11_write 27 (.getfield 9) 3 30 := ⟨zo_180 (w := 0) (x := 9) (by decide +kernel), rfl⟩
theorem dX11_write_30 : Dc mX11_write 30 (.aload_n 0) 1 31 := ⟨zo_42 (by decide +kernel), rfl⟩
theorem dX11_write_31 : Dc mX11_write 31 (.getfield 13) 3 34 := ⟨zo_180 (w := 0) (x := 13) (by decide +kernel), rfl⟩
theorem dX11_write_34 : Dc mX11_write 34 (.iload_n 1) 1 35 := ⟨zo_27 (by decide +kernel), rfl⟩
theorem dX11_write_35 : Dc mX11_write 35 (.iload_n 2) 1 36 := ⟨zo_28 (by decide +kernel), rfl⟩
theorem dX11_write_36 : Dc mX11_write 36 (.ishr) 1 37 := ⟨zo_122 (by decide +kernel), rfl⟩
theorem dX11_write_37 : Dc mX11_write 37 (.i2b) 1 38 := ⟨zo_145 (by decide +kernel), rfl⟩
theorem dX11_write_38 : Dc mX11_write 38 (.bastore) 1 39 := ⟨zo_84 (by decide +kernel), rfl⟩
theorem dX11_write_39 : Dc mX11_write 39 (.aload_n 0) 1 40 := ⟨zo_42 (by decide +kernel), rfl⟩
theorem dX11_write_40 : Dc mX11_write 40 (.dup) 1 41 := ⟨zo_89 (by decide +kernel), rfl⟩
theorem dX11_write_41 : Dc mX11_write 41 (.getfield 13) 3 44 := ⟨zo_180 (w := 0) (x := 13) (by decide +kernel), rfl⟩
theorem dX11_write_44 : Dc mX11_write 44 (.iconst 1) 1 45 := ⟨zo_4 (by decide +kernel), rfl⟩
theorem dX11_write_45 : Dc mX11_write 45 (.iadd) 1 46 := ⟨zo_96 (by decide +kernel), rfl⟩
theorem dX11_write_46 : Dc mX11_write 46 (.putfield 13) 3 49 := ⟨zo_181 (w := 0) (x := 13) (by decide +kernel), rfl⟩
theorem dX11_write_49 : Dc mX11_write 49 (.iinc 2 (-8)) 3 52 := ⟨zo_iinc (x := 248) (by decide +kernel), rfl⟩
theorem dX11_write_52 : Dc mX11_write 52 (.goto (-49)) 3 55 := ⟨zo_167 (w := 255) (x := 207) (by decide +kernel), rfl⟩
theorem dX11_write_55 : Dc mX11_write 55 (.return_) 1 56 := ⟨zo_177 (by decide +kernel), rfl⟩
theorem dX11_text_0 : Dc mX11_text 0 (.iload_n 1) 1 1 := ⟨zo_27 (by decide +kernel), rfl⟩
theorem dX11_text_1 : Dc mX11_text 1 (.ifCond .lt 11) 3 4 := ⟨zo_155 (w := 0) (x := 11) (by decide +kernel), rfl⟩
theorem dX11_text_4 : Dc mX11_text 4 (.iload_n 1) 1 5 := ⟨zo_27 (by decide +kernel), rfl⟩
theorem dX11_text_5 : Dc mX11_text 5 (.aload_n 0) 1 6 := ⟨zo_42 (by decide +kernel), rfl⟩
theorem dX11_text_6 : Dc mX11_text 6 (.getfield 13) 3 9 := ⟨zo_180 (w := 0) (x := 13) (by decide +kernel), rfl⟩
theorem dX11_text_9 : Dc mX11_text 9 (.if_icmp .le 6) 3 12 := ⟨zo_164 (w := 0) (x := 6) (by decide +kernel), rfl⟩
theorem dX11_text_12 : Dc mX11_text 12 (.bipush (-2)) 2 14 := ⟨zo_16 (w := 254) (by decide +kernel), rfl⟩
theorem dX11_text_14 : Dc mX11_text 14 (.ireturn) 1 15 := ⟨zo_172 (by decide +kernel), rfl⟩
theorem dX11_text_15 : Dc mX11_text 15 (.aload_n 0) 1 16 := ⟨zo_42 (by decide +kernel), rfl⟩
theorem dX11_text_16 : Dc mX11_text 16 (.getfield 27) 3 19 := ⟨zo_180 (w := 0) (x := 27) (by decide +kernel), rfl⟩
theorem dX11_text_19 : Dc mX11_text 19 (.aload_n 0) 1 20 := ⟨zo_42 (by decide +kernel), rfl⟩
theorem dX11_text_20 : Dc mX11_text 20 (.getfield 9) 3 23 := ⟨zo_180 (w := 0) (x := 9) (by decide +kernel), rfl⟩
theorem dX11_text_23 : Dc mX11_text 23 (.iload_n 1) 1 24 := ⟨zo_27 (by decide +kernel), rfl⟩
theorem dX11_text_24 : Dc mX11_text 24 (.invokevirtual 89) 3 27 := ⟨zo_182 (w := 0) (x := 89) (by decide +kernel), rfl⟩
theorem dX11_text_27 : Dc mX11_text 27 (.istore_n 2) 1 28 := ⟨zo_61 (by decide +kernel), rfl⟩
theorem dX11_text_28 : Dc mX11_text 28 (.aload_n 0) 1 29 := ⟨zo_42 (by decide +kernel), rfl⟩
theorem dX11_text_29 : Dc mX11_text 29 (.iconst 0) 1 30 := ⟨zo_3 (by decide +kernel), rfl⟩
theorem dX11_text_30 : Dc mX11_text 30 (.putfield 13) 3 33 := ⟨zo_181 (w := 0) (x := 13) (by decide +kernel), rfl⟩
theorem dX11_text_33 : Dc mX11_text 33 (.iload_n 2) 1 34 := ⟨zo_28 (by decide +kernel), rfl⟩
theorem dX11_text_34 : Dc mX11_text 34 (.ifCond .ne 5) 3 37 := ⟨zo_154 (w := 0) (x := 5) (by decide +kernel), rfl⟩
theorem dX11_text_37 : Dc mX11_text 37 (.iconst (-1)) 1 38 := ⟨zo_2 (by decide +kernel), rfl⟩
theorem dX11_text_38 : Dc mX11_text 38 (.ireturn) 1 39 := ⟨zo_172 (by decide +kernel), rfl⟩
theorem dX11_text_39 : Dc mX11_text 39 (.aload_n 0) 1 40 := ⟨zo_42 (by decide +kernel), rfl⟩
theorem dX11_text_40 : Dc mX11_text 40 (.getfield 20) 3 43 := ⟨zo_180 (w := 0) (x := 20) (by decide +kernel), rfl⟩
theorem dX11_text_43 : Dc mX11_text 43 (.aload_n 0) 1 44 := ⟨zo_42 (by decide +kernel), rfl⟩
theorem dX11_text_44 : Dc mX11_text 44 (.getfield 27) 3 47 := ⟨zo_180 (w := 0) (x := 27) (by decide +kernel), rfl⟩
theorem dX11_text_47 : Dc mX11_text 47 (.getfield 93) 3 50 := ⟨zo_180 (w := 0) (x := 93) (by decide +kernel), rfl⟩
theorem dX11_text_50 : Dc mX11_text 50 (.invokevirtual 96) 3 53 := ⟨zo_182 (w := 0) (x := 96) (by decide +kernel), rfl⟩
theorem dX11_text_53 : Dc mX11_text 53 (.aload_n 0) 1 54 := ⟨zo_42 (by decide +kernel), rfl⟩
theorem dX11_text_54 : Dc mX11_text 54 (.getfield 34) 3 57 := ⟨zo_180 (w := 0) (x := 34) (by decide +kernel), rfl⟩
theorem dX11_text_57 : Dc mX11_text 57 (.aload_n 0) 1 58 := ⟨zo_42 (by decide +kernel), rfl⟩
theorem dX11_text_58 : Dc mX11_text 58 (.getfield 20) 3 61 := ⟨zo_180 (w := 0) (x := 20) (by decide +kernel), rfl⟩
theorem dX11_text_61 : Dc mX11_text 61 (.invokevirtual 82) 3 64 := ⟨zo_182 (w := 0) (x := 82) (by decide +kernel), rfl⟩
theorem dX11_text_64 : Dc mX11_text 64 (.aload_n 0) 1 65 := ⟨zo_42 (by decide +kernel), rfl⟩
theorem dX11_text_65 : Dc mX11_text 65 (.getfield 57) 3 68 := ⟨zo_180 (w := 0) (x := 57) (by decide +kernel), rfl⟩
theorem dX11_text_68 : Dc mX11_text 68 (.invokevirtual 99) 3 71 := ⟨zo_182 (w := 0) (x := 99) (by decide +kernel), rfl⟩
theorem dX11_text_71 : Dc mX11_text 71 (.aload_n 0) 1 72 := ⟨zo_42 (by decide +kernel), rfl⟩
theorem dX11_text_72 : Dc mX11_text 72 (.getfield 64) 3 75 := ⟨zo_180 (w := 0) (x := 64) (by decide +kernel), rfl⟩
theorem dX11_text_75 : Dc mX11_text 75 (.invokevirtual 102) 3 78 := ⟨zo_182 (w := 0) (x := 102) (by decide +kernel), rfl⟩
theorem dX11_text_78 : Dc mX11_text 78 (.aload_n 0) 1 79 := ⟨zo_42 (by decide +kernel), rfl⟩
theorem dX11_text_79 : Dc mX11_text 79 (.iconst 0) 1 80 := ⟨zo_3 (by decide +kernel), rfl⟩
theorem dX11_text_80 : Dc mX11_text 80 (.putfield 41) 3 83 := ⟨zo_181 (w := 0) (x := 41) (by decide +kernel), rfl⟩
theorem dX11_text_83 : Dc mX11_text 83 (.aload_n 0) 1 84 := ⟨zo_42 (by decide +kernel), rfl⟩
theorem dX11_text_84 : Dc mX11_text 84 (.getfield 20) 3 87 := ⟨zo_180 (w := 0) (x := 20) (by decide +kernel), rfl⟩
theorem dX11_text_87 : Dc mX11_text 87 (.getfield 103) 3 90 := ⟨zo_180 (w := 0) (x := 103) (by decide +kernel), rfl⟩
theorem dX11_text_90 : Dc mX11_text 90 (.ireturn) 1 91 := ⟨zo_172 (by decide +kernel), rfl⟩
theorem dX11_fault_0 : Dc mX11_fault 0 (.iload_n 1) 1 1 := ⟨zo_27 (by decide +kernel), rfl⟩
theorem dX11_fault_1 : Dc mX11_fault 1 (.lookupswitch 43 #[(0, 27), (1, 35)]) 27 28 := ⟨by decide +kernel, rfl⟩
theorem dX11_fault_28 : Dc mX11_fault 28 (.aload_n 0) 1 29 := ⟨zo_42 (by decide +kernel), rfl⟩
theorem dX11_fault_29 : Dc mX11_fault 29 (.getfield 27) 3 32 := ⟨zo_180 (w := 0) (x := 27) (by decide +kernel), rfl⟩
theorem dX11_fault_32 : Dc mX11_fault 32 (.getfield 106) 3 35 := ⟨zo_180 (w := 0) (x := 106) (by decide +kernel), rfl⟩
theorem dX11_fault_35 : Dc mX11_fault 35 (.ireturn) 1 36 := ⟨zo_172 (by decide +kernel), rfl⟩
theorem dX11_fault_36 : Dc mX11_fault 36 (.aload_n 0) 1 37 := ⟨zo_42 (by decide +kernel), rfl⟩
theorem dX11_fault_37 : Dc mX11_fault 37 (.getfield 27) 3 40 := ⟨zo_180 (w := 0) (x := 27) (by decide +kernel), rfl⟩
theorem dX11_fault_40 : Dc mX11_fault 40 (.getfield 109) 3 43 := ⟨zo_180 (w := 0) (x := 109) (by decide +kernel), rfl⟩
theorem dX11_fault_43 : Dc mX11_fault 43 (.ireturn) 1 44 := ⟨zo_172 (by decide +kernel), rfl⟩
theorem dX11_fault_44 : Dc mX11_fault 44 (.iconst (-1)) 1 45 := ⟨zo_2 (by decide +kernel), rfl⟩
theorem dX11_fault_45 : Dc mX11_fault 45 (.ireturn) 1 46 := ⟨zo_172 (by decide +kernel), rfl⟩
theorem dX11_named_0 : Dc mX11_named 0 (.iload_n 1) 1 1 := ⟨zo_27 (by decide +kernel), rfl⟩
theorem dX11_named_1 : Dc mX11_named 1 (.tableswitch 79 0 3 #[31, 43, 55, 67]) 31 32 := ⟨by decide +kernel, rfl⟩
theorem dX11_named_32 : Dc mX11_named 32 (.aload_n 0) 1 33 := ⟨zo_42 (by decide +kernel), rfl⟩
theorem dX11_named_33 : Dc mX11_named 33 (.getfield 20) 3 36 := ⟨zo_180 (w := 0) (x := 20) (by decide +kernel), rfl⟩
theorem dX11_named_36 : Dc mX11_named 36 (.getfield 112) 3 39 := ⟨zo_180 (w := 0) (x := 112) (by decide +kernel), rfl⟩
theorem dX11_named_39 : Dc mX11_named 39 (.iload_n 2) 1 40 := ⟨zo_28 (by decide +kernel), rfl⟩
theorem dX11_named_40 : Dc mX11_named 40 (.invokevirtual 116) 3 43 := ⟨zo_182 (w := 0) (x := 116) (by decide +kernel), rfl⟩
theorem dX11_named_43 : Dc mX11_named 43 (.ireturn) 1 44 := ⟨zo_172 (by decide +kernel), rfl⟩
theorem dX11_named_44 : Dc mX11_named 44 (.aload_n 0) 1 45 := ⟨zo_42 (by decide +kernel), rfl⟩
theorem dX11_named_45 : Dc mX11_named 45 (.getfield 20) 3 48 := ⟨zo_180 (w := 0) (x := 20) (by decide +kernel), rfl⟩
theorem dX11_named_48 : Dc mX11_named 48 (.getfield 122) 3 51 := ⟨zo_180 (w := 0) (x := 122) (by decide +kernel), rfl⟩
theorem dX11_named_51 : Dc mX11_named 51 (.iload_n 2) 1 52 := ⟨zo_28 (by decide +kernel), rfl⟩
theorem dX11_named_52 : Dc mX11_named 52 (.invokevirtual 116) 3 55 := ⟨zo_182 (w := 0) (x := 116) (by decide +kernel), rfl⟩
theorem dX11_named_55 : Dc mX11_named 55 (.ireturn) 1 56 := ⟨zo_172 (by decide +kernel), rfl⟩
theorem dX11_named_56 : Dc mX11_named 56 (.aload_n 0) 1 57 := ⟨zo_42 (by decide +kernel), rfl⟩
theorem dX11_named_57 : Dc mX11_named 57 (.getfield 20) 3 60 := ⟨zo_180 (w := 0) (x := 20) (by decide +kernel), rfl⟩
theorem dX11_named_60 : Dc mX11_named 60 (.getfield 125) 3 63 := ⟨zo_180 (w := 0) (x := 125) (by decide +kernel), rfl⟩
theorem dX11_named_63 : Dc mX11_named 63 (.iload_n 2) 1 64 := ⟨zo_28 (by decide +kernel), rfl⟩
theorem dX11_named_64 : Dc mX11_named 64 (.invokevirtual 116) 3 67 := ⟨zo_182 (w := 0) (x := 116) (by decide +kernel), rfl⟩
theorem dX11_named_67 : Dc mX11_named 67 (.ireturn) 1 68 := ⟨zo_172 (by decide +kernel), rfl⟩
theorem dX11_named_68 : Dc mX11_named 68 (.aload_n 0) 1 69 := ⟨zo_42 (by decide +kernel), rfl⟩
theorem dX11_named_69 : Dc mX11_named 69 (.getfield 20) 3 72 := ⟨zo_180 (w := 0) (x := 20) (by decide +kernel), rfl⟩
theorem dX11_named_72 : Dc mX11_named 72 (.getfield 128) 3 75 := ⟨zo_180 (w := 0) (x := 128) (by decide +kernel), rfl⟩
theorem dX11_named_75 : Dc mX11_named 75 (.iload_n 2) 1 76 := ⟨zo_28 (by decide +kernel), rfl⟩
theorem dX11_named_76 : Dc mX11_named 76 (.invokevirtual 116) 3 79 := ⟨zo_182 (w := 0) (x := 116) (by decide +kernel), rfl⟩
theorem dX11_named_79 : Dc mX11_named 79 (.ireturn) 1 80 := ⟨zo_172 (by decide +kernel), rfl⟩
theorem dX11_named_80 : Dc mX11_named 80 (.iconst (-1)) 1 81 := ⟨zo_2 (by decide +kernel), rfl⟩
theorem dX11_named_81 : Dc mX11_named 81 (.ireturn) 1 82 := ⟨zo_172 (by decide +kernel), rfl⟩
theorem dX11_mark_0 : Dc mX11_mark 0 (.aload_n 0) 1 1 := ⟨zo_42 (by decide +kernel), rfl⟩
theorem dX11_mark_1 : Dc mX11_mark 1 (.getfield 20) 3 4 := ⟨zo_180 (w := 0) (x := 20) (by decide +kernel), rfl⟩
theorem dX11_mark_4 : Dc mX11_mark 4 (.getfield 112) 3 7 := ⟨zo_180 (w := 0) (x := 112) (by decide +kernel), rfl⟩
theorem dX11_mark_7 : Dc mX11_mark 7 (.iload_n 1) 1 8 := ⟨zo_27 (by decide +kernel), rfl⟩
theorem dX11_mark_8 : Dc mX11_mark 8 (.invokevirtual 131) 3 11 := ⟨zo_182 (w := 0) (x := 131) (by decide +kernel), rfl⟩
theorem dX11_mark_11 : Dc mX11_mark 11 (.ifCond .ne 13) 3 14 := ⟨zo_154 (w := 0) (x := 13) (by decide +kernel), rfl⟩
theorem dX11_mark_14 : Dc mX11_mark 14 (.new 135) 3 17 := ⟨zo_187 (w := 0) (x := 135) (by decide +kernel), rfl⟩
theorem dX11_mark_17 : Dc mX11_mark 17 (.dup) 1 18 := ⟨zo_89 (by decide +kernel), rfl⟩
theorem dX11_mark_18 : Dc mX11_mark 18 (.ldc 137) 2 20 := ⟨zo_18 (by decide +kernel), rfl⟩
theorem dX11_mark_20 : Dc mX11_mark 20 (.invokespecial 139) 3 23 := ⟨zo_183 (w := 0) (x := 139) (by decide +kernel), rfl⟩
theorem dX11_mark_23 : Dc mX11_mark 23 (.athrow) 1 24 := ⟨zo_191 (by decide +kernel), rfl⟩
theorem dX11_mark_24 : Dc mX11_mark 24 (.iload_n 2) 1 25 := ⟨zo_28 (by decide +kernel), rfl⟩
theorem dX11_mark_25 : Dc mX11_mark 25 (.tableswitch 99 0 4 #[35, 50, 65, 77, 89]) 35 60 := ⟨by decide +kernel, rfl⟩
theorem dX11_mark_60 : Dc mX11_mark 60 (.aload_n 0) 1 61 := ⟨zo_42 (by decide +kernel), rfl⟩
theorem dX11_mark_61 : Dc mX11_mark 61 (.getfield 20) 3 64 := ⟨zo_180 (w := 0) (x := 20) (by decide +kernel), rfl⟩
theorem dX11_mark_64 : Dc mX11_mark 64 (.getfield 112) 3 67 := ⟨zo_180 (w := 0) (x := 112) (by decide +kernel), rfl⟩
theorem dX11_mark_67 : Dc mX11_mark 67 (.getfield 142) 3 70 := ⟨zo_180 (w := 0) (x := 142) (by decide +kernel), rfl⟩
theorem dX11_mark_70 : Dc mX11_mark 70 (.iload_n 1) 1 71 := ⟨zo_27 (by decide +kernel), rfl⟩
theorem dX11_mark_71 : Dc mX11_mark 71 (.invokestatic 146) 3 74 := ⟨zo_184 (w := 0) (x := 146) (by decide +kernel), rfl⟩
theorem dX11_mark_74 : Dc mX11_mark 74 (.ireturn) 1 75 := ⟨zo_172 (by decide +kernel), rfl⟩
theorem dX11_mark_75 : Dc mX11_mark 75 (.aload_n 0) 1 76 := ⟨zo_42 (by decide +kernel), rfl⟩
theorem dX11_mark_76 : Dc mX11_mark 76 (.getfield 20) 3 79 := ⟨zo_180 (w := 0) (x := 20) (by decide +kernel), rfl⟩
theorem dX11_mark_79 : Dc mX11_mark 79 (.getfield 112) 3 82 := ⟨zo_180 (w := 0) (x := 112) (by decide +kernel), rfl⟩
theorem dX11_mark_82 : Dc mX11_mark 82 (.getfield 150) 3 85 := ⟨zo_180 (w := 0) (x := 150) (by decide +kernel), rfl⟩
theorem dX11_mark_85 : Dc mX11_mark 85 (.iload_n 1) 1 86 := ⟨zo_27 (by decide +kernel), rfl⟩
theorem dX11_mark_86 : Dc mX11_mark 86 (.invokestatic 146) 3 89 := ⟨zo_184 (w := 0) (x := 146) (by decide +kernel), rfl⟩
theorem dX11_mark_89 : Dc mX11_mark 89 (.ireturn) 1 90 := ⟨zo_172 (by decide +kernel), rfl⟩
theorem dX11_mark_90 : Dc mX11_mark 90 (.aload_n 0) 1 91 := ⟨zo_42 (by decide +kernel), rfl⟩
theorem dX11_mark_91 : Dc mX11_mark 91 (.getfield 34) 3 94 := ⟨zo_180 (w := 0) (x := 34) (by decide +kernel), rfl⟩
theorem dX11_mark_94 : Dc mX11_mark 94 (.getfield 153) 3 97 := ⟨zo_180 (w := 0) (x := 153) (by decide +kernel), rfl⟩
theorem dX11_mark_97 : Dc mX11_mark 97 (.iload_n 1) 1 98 := ⟨zo_27 (by decide +kernel), rfl⟩
theorem dX11_mark_98 : Dc mX11_mark 98 (.invokestatic 146) 3 101 := ⟨zo_184 (w := 0) (x := 146) (by decide +kernel), rfl⟩
theorem dX11_mark_101 : Dc mX11_mark 101 (.ireturn) 1 102 := ⟨zo_172 (by decide +kernel), rfl⟩
theorem dX11_mark_102 : Dc mX11_mark 102 (.aload_n 0) 1 103 := ⟨zo_42 (by decide +kernel), rfl⟩
theorem dX11_mark_103 : Dc mX11_mark 103 (.getfield 34) 3 106 := ⟨zo_180 (w := 0) (x := 34) (by decide +kernel), rfl⟩
theorem dX11_mark_106 : Dc mX11_mark 106 (.getfield 156) 3 109 := ⟨zo_180 (w := 0) (x := 156) (by decide +kernel), rfl⟩
theorem dX11_mark_109 : Dc mX11_mark 109 (.iload_n 1) 1 110 := ⟨zo_27 (by decide +kernel), rfl⟩
theorem dX11_mark_110 : Dc mX11_mark 110 (.invokestatic 146) 3 113 := ⟨zo_184 (w := 0) (x := 146) (by decide +kernel), rfl⟩
theorem dX11_mark_113 : Dc mX11_mark 113 (.ireturn) 1 114 := ⟨zo_172 (by decide +kernel), rfl⟩
theorem dX11_mark_114 : Dc mX11_mark 114 (.aload_n 0) 1 115 := ⟨zo_42 (by decide +kernel), rfl⟩
theorem dX11_mark_115 : Dc mX11_mark 115 (.getfield 34) 3 118 := ⟨zo_180 (w := 0) (x := 34) (by decide +kernel), rfl⟩
theorem dX11_mark_118 : Dc mX11_mark 118 (.iload_n 1) 1 119 := ⟨zo_27 (by decide +kernel), rfl⟩
theorem dX11_mark_119 : Dc mX11_mark 119 (.iconst (-1)) 1 120 := ⟨zo_2 (by decide +kernel), rfl⟩
theorem dX11_mark_120 : Dc mX11_mark 120 (.invokevirtual 159) 3 123 := ⟨zo_182 (w := 0) (x := 159) (by decide +kernel), rfl⟩
theorem dX11_mark_123 : Dc mX11_mark 123 (.ireturn) 1 124 := ⟨zo_172 (by decide +kernel), rfl⟩
theorem dX11_mark_124 : Dc mX11_mark 124 (.new 163) 3 127 := ⟨zo_187 (w := 0) (x := 163) (by decide +kernel), rfl⟩
theorem dX11_mark_127 : Dc mX11_mark 127 (.dup) 1 128 := ⟨zo_89 (by decide +kernel), rfl⟩
theorem dX11_mark_128 : Dc mX11_mark 128 (.ldc 165) 2 130 := ⟨zo_18 (by decide +kernel), rfl⟩
theorem dX11_mark_130 : Dc mX11_mark 130 (.invokespecial 167) 3 133 := ⟨zo_183 (w := 0) (x := 167) (by decide +kernel), rfl⟩
theorem dX11_mark_133 : Dc mX11_mark 133 (.athrow) 1 134 := ⟨zo_191 (by decide +kernel), rfl⟩
theorem dX11_shot_0 : Dc mX11_shot 0 (.aload_n 0) 1 1 := ⟨zo_42 (by decide +kernel), rfl⟩
theorem dX11_shot_1 : Dc mX11_shot 1 (.getfield 20) 3 4 := ⟨zo_180 (w := 0) (x := 20) (by decide +kernel), rfl⟩
theorem dX11_shot_4 : Dc mX11_shot 4 (.getfield 122) 3 7 := ⟨zo_180 (w := 0) (x := 122) (by decide +kernel), rfl⟩
theorem dX11_shot_7 : Dc mX11_shot 7 (.iload_n 1) 1 8 := ⟨zo_27 (by decide +kernel), rfl⟩
theorem dX11_shot_8 : Dc mX11_shot 8 (.invokevirtual 131) 3 11 := ⟨zo_182 (w := 0) (x := 131) (by decide +kernel), rfl⟩
theorem dX11_shot_11 : Dc mX11_shot 11 (.ifCond .ne 5) 3 14 := ⟨zo_154 (w := 0) (x := 5) (by decide +kernel), rfl⟩
theorem dX11_shot_14 : Dc mX11_shot 14 (.iconst (-1)) 1 15 := ⟨zo_2 (by decide +kernel), rfl⟩
theorem dX11_shot_15 : Dc mX11_shot 15 (.ireturn) 1 16 := ⟨zo_172 (by decide +kernel), rfl⟩
theorem dX11_shot_16 : Dc mX11_shot 16 (.iload_n 2) 1 17 := ⟨zo_28 (by decide +kernel), rfl⟩
theorem dX11_shot_17 : Dc mX11_shot 17 (.tableswitch 113 0 4 #[35, 50, 62, 74, 101]) 35 52 := ⟨by decide +kernel, rfl⟩
theorem dX11_shot_52 : Dc mX11_shot 52 (.aload_n 0) 1 53 := ⟨zo_42 (by decide +kernel), rfl⟩
theorem dX11_shot_53 : Dc mX11_shot 53 (.getfield 20) 3 56 := ⟨zo_180 (w := 0) (x := 20) (by decide +kernel), rfl⟩
theorem dX11_shot_56 : Dc mX11_shot 56 (.getfield 122) 3 59 := ⟨zo_180 (w := 0) (x := 122) (by decide +kernel), rfl⟩
theorem dX11_shot_59 : Dc mX11_shot 59 (.getfield 142) 3 62 := ⟨zo_180 (w := 0) (x := 142) (by decide +kernel), rfl⟩
theorem dX11_shot_62 : Dc mX11_shot 62 (.iload_n 1) 1 63 := ⟨zo_27 (by decide +kernel), rfl⟩
theorem dX11_shot_63 : Dc mX11_shot 63 (.invokestatic 146) 3 66 := ⟨zo_184 (w := 0) (x := 146) (by decide +kernel), rfl⟩
theorem dX11_shot_66 : Dc mX11_shot 66 (.ireturn) 1 67 := ⟨zo_172 (by decide +kernel), rfl⟩
theorem dX11_shot_67 : Dc mX11_shot 67 (.aload_n 0) 1 68 := ⟨zo_42 (by decide +kernel), rfl⟩
theorem dX11_shot_68 : Dc mX11_shot 68 (.getfield 34) 3 71 := ⟨zo_180 (w := 0) (x := 34) (by decide +kernel), rfl⟩
theorem dX11_shot_71 : Dc mX11_shot 71 (.getfield 168) 3 74 := ⟨zo_180 (w := 0) (x := 168) (by decide +kernel), rfl⟩
theorem dX11_shot_74 : Dc mX11_shot 74 (.iload_n 1) 1 75 := ⟨zo_27 (by decide +kernel), rfl⟩
theorem dX11_shot_75 : Dc mX11_shot 75 (.invokestatic 146) 3 78 := ⟨zo_184 (w := 0) (x := 146) (by decide +kernel), rfl⟩
theorem dX11_shot_78 : Dc mX11_shot 78 (.ireturn) 1 79 := ⟨zo_172 (by decide +kernel), rfl⟩
theorem dX11_shot_79 : Dc mX11_shot 79 (.aload_n 0) 1 80 := ⟨zo_42 (by decide +kernel), rfl⟩
theorem dX11_shot_80 : Dc mX11_shot 80 (.getfield 34) 3 83 := ⟨zo_180 (w := 0) (x := 34) (by decide +kernel), rfl⟩
theorem dX11_shot_83 : Dc mX11_shot 83 (.getfield 171) 3 86 := ⟨zo_180 (w := 0) (x := 171) (by decide +kernel), rfl⟩
theorem dX11_shot_86 : Dc mX11_shot 86 (.iload_n 1) 1 87 := ⟨zo_27 (by decide +kernel), rfl⟩
theorem dX11_shot_87 : Dc mX11_shot 87 (.invokestatic 146) 3 90 := ⟨zo_184 (w := 0) (x := 146) (by decide +kernel), rfl⟩
theorem dX11_shot_90 : Dc mX11_shot 90 (.ireturn) 1 91 := ⟨zo_172 (by decide +kernel), rfl⟩
theorem dX11_shot_91 : Dc mX11_shot 91 (.aload_n 0) 1 92 := ⟨zo_42 (by decide +kernel), rfl⟩
theorem dX11_shot_92 : Dc mX11_shot 92 (.getfield 34) 3 95 := ⟨zo_180 (w := 0) (x := 34) (by decide +kernel), rfl⟩
theorem dX11_shot_95 : Dc mX11_shot 95 (.getfield 171) 3 98 := ⟨zo_180 (w := 0) (x := 171) (by decide +kernel), rfl⟩
theorem dX11_shot_98 : Dc mX11_shot 98 (.iload_n 1) 1 99 := ⟨zo_27 (by decide +kernel), rfl⟩
theorem dX11_shot_99 : Dc mX11_shot 99 (.invokestatic 146) 3 102 := ⟨zo_184 (w := 0) (x := 146) (by decide +kernel), rfl⟩
theorem dX11_shot_102 : Dc mX11_shot 102 (.ifCond .ne 7) 3 105 := ⟨zo_154 (w := 0) (x := 7) (by decide +kernel), rfl⟩
theorem dX11_shot_105 : Dc mX11_shot 105 (.iconst 0) 1 106 := ⟨zo_3 (by decide +kernel), rfl⟩
theorem dX11_shot_106 : Dc mX11_shot 106 (.goto 11) 3 109 := ⟨zo_167 (w := 0) (x := 11) (by decide +kernel), rfl⟩
theorem dX11_shot_109 : Dc mX11_shot 109 (.aload_n 0) 1 110 := ⟨zo_42 (by decide +kernel), rfl⟩
theorem dX11_shot_110 : Dc mX11_shot 110 (.getfield 34) 3 113 := ⟨zo_180 (w := 0) (x := 34) (by decide +kernel), rfl⟩
theorem dX11_shot_113 : Dc mX11_shot 113 (.iload_n 1) 1 114 := ⟨zo_27 (by decide +kernel), rfl⟩
theorem dX11_shot_114 : Dc mX11_shot 114 (.invokevirtual 174) 3 117 := ⟨zo_182 (w := 0) (x := 174) (by decide +kernel), rfl⟩
theorem dX11_shot_117 : Dc mX11_shot 117 (.ireturn) 1 118 := ⟨zo_172 (by decide +kernel), rfl⟩
theorem dX11_shot_118 : Dc mX11_shot 118 (.aload_n 0) 1 119 := ⟨zo_42 (by decide +kernel), rfl⟩
theorem dX11_shot_119 : Dc mX11_shot 119 (.getfield 34) 3 122 := ⟨zo_180 (w := 0) (x := 34) (by decide +kernel), rfl⟩
theorem dX11_shot_122 : Dc mX11_shot 122 (.getfield 177) 3 125 := ⟨zo_180 (w := 0) (x := 177) (by decide +kernel), rfl⟩
theorem dX11_shot_125 : Dc mX11_shot 125 (.iload_n 1) 1 126 := ⟨zo_27 (by decide +kernel), rfl⟩
theorem dX11_shot_126 : Dc mX11_shot 126 (.invokestatic 146) 3 129 := ⟨zo_184 (w := 0) (x := 146) (by decide +kernel), rfl⟩
theorem dX11_shot_129 : Dc mX11_shot 129 (.ireturn) 1 130 := ⟨zo_172 (by decide +kernel), rfl⟩
theorem dX11_shot_130 : Dc mX11_shot 130 (.iconst (-1)) 1 131 := ⟨zo_2 (by decide +kernel), rfl⟩
theorem dX11_shot_131 : Dc mX11_shot 131 (.ireturn) 1 132 := ⟨zo_172 (by decide +kernel), rfl⟩
theorem dX11_way_0 : Dc mX11_way 0 (.aload_n 0) 1 1 := ⟨zo_42 (by decide +kernel), rfl⟩
theorem dX11_way_1 : Dc mX11_way 1 (.getfield 20) 3 4 := ⟨zo_180 (w := 0) (x := 20) (by decide +kernel), rfl⟩
theorem dX11_way_4 : Dc mX11_way 4 (.getfield 122) 3 7 := ⟨zo_180 (w := 0) (x := 122) (by decide +kernel), rfl⟩
theorem dX11_way_7 : Dc mX11_way 7 (.iload_n 1) 1 8 := ⟨zo_27 (by decide +kernel), rfl⟩
theorem dX11_way_8 : Dc mX11_way 8 (.invokevirtual 131) 3 11 := ⟨zo_182 (w := 0) (x := 131) (by decide +kernel), rfl⟩
theorem dX11_way_11 : Dc mX11_way 11 (.ifCond .eq 17) 3 14 := ⟨zo_153 (w := 0) (x := 17) (by decide +kernel), rfl⟩
theorem dX11_way_14 : Dc mX11_way 14 (.aload_n 0) 1 15 := ⟨zo_42 (by decide +kernel), rfl⟩
theorem dX11_way_15 : Dc mX11_way 15 (.getfield 20) 3 18 := ⟨zo_180 (w := 0) (x := 20) (by decide +kernel), rfl⟩
theorem dX11_way_18 : Dc mX11_way 18 (.getfield 112) 3 21 := ⟨zo_180 (w := 0) (x := 112) (by decide +kernel), rfl⟩
theorem dX11_way_21 : Dc mX11_way 21 (.iload_n 2) 1 22 := ⟨zo_28 (by decide +kernel), rfl⟩
theorem dX11_way_22 : Dc mX11_way 22 (.invokevirtual 131) 3 25 := ⟨zo_182 (w := 0) (x := 131) (by decide +kernel), rfl⟩
theorem dX11_way_25 : Dc mX11_way 25 (.ifCond .ne 5) 3 28 := ⟨zo_154 (w := 0) (x := 5) (by decide +kernel), rfl⟩
theorem dX11_way_28 : Dc mX11_way 28 (.iconst (-1)) 1 29 := ⟨zo_2 (by decide +kernel), rfl⟩
theorem dX11_way_29 : Dc mX11_way 29 (.ireturn) 1 30 := ⟨zo_172 (by decide +kernel), rfl⟩
theorem dX11_way_30 : Dc mX11_way 30 (.aload_n 0) 1 31 := ⟨zo_42 (by decide +kernel), rfl⟩
theorem dX11_way_31 : Dc mX11_way 31 (.getfield 34) 3 34 := ⟨zo_180 (w := 0) (x := 34) (by decide +kernel), rfl⟩
theorem dX11_way_34 : Dc mX11_way 34 (.iload_n 1) 1 35 := ⟨zo_27 (by decide +kernel), rfl⟩
theorem dX11_way_35 : Dc mX11_way 35 (.iload_n 2) 1 36 := ⟨zo_28 (by decide +kernel), rfl⟩
theorem dX11_way_36 : Dc mX11_way 36 (.invokevirtual 180) 3 39 := ⟨zo_182 (w := 0) (x := 180) (by decide +kernel), rfl⟩
theorem dX11_way_39 : Dc mX11_way 39 (.istore_n 3) 1 40 := ⟨zo_62 (by decide +kernel), rfl⟩
theorem dX11_way_40 : Dc mX11_way 40 (.iload_n 3) 1 41 := ⟨zo_29 (by decide +kernel), rfl⟩
theorem dX11_way_41 : Dc mX11_way 41 (.ifCond .ge 8) 3 44 := ⟨zo_156 (w := 0) (x := 8) (by decide +kernel), rfl⟩
theorem dX11_way_44 : Dc mX11_way 44 (.bipush (-2)) 2 46 := ⟨zo_16 (w := 254) (by decide +kernel), rfl⟩
theorem dX11_way_46 : Dc mX11_way 46 (.goto 4) 3 49 := ⟨zo_167 (w := 0) (x := 4) (by decide +kernel), rfl⟩
theorem dX11_way_49 : Dc mX11_way 49 (.iload_n 3) 1 50 := ⟨zo_29 (by decide +kernel), rfl⟩
theorem dX11_way_50 : Dc mX11_way 50 (.ireturn) 1 51 := ⟨zo_172 (by decide +kernel), rfl⟩
theorem dX11_party_0 : Dc mX11_party 0 (.aload_n 0) 1 1 := ⟨zo_42 (by decide +kernel), rfl⟩
theorem dX11_party_1 : Dc mX11_party 1 (.getfield 20) 3 4 := ⟨zo_180 (w := 0) (x := 20) (by decide +kernel), rfl⟩
theorem dX11_party_4 : Dc mX11_party 4 (.getfield 125) 3 7 := ⟨zo_180 (w := 0) (x := 125) (by decide +kernel), rfl⟩
theorem dX11_party_7 : Dc mX11_party 7 (.iload_n 1) 1 8 := ⟨zo_27 (by decide +kernel), rfl⟩
theorem dX11_party_8 : Dc mX11_party 8 (.invokevirtual 131) 3 11 := ⟨zo_182 (w := 0) (x := 131) (by decide +kernel), rfl⟩
theorem dX11_party_11 : Dc mX11_party 11 (.ifCond .ne 5) 3 14 := ⟨zo_154 (w := 0) (x := 5) (by decide +kernel), rfl⟩
theorem dX11_party_14 : Dc mX11_party 14 (.iconst (-1)) 1 15 := ⟨zo_2 (by decide +kernel), rfl⟩
theorem dX11_party_15 : Dc mX11_party 15 (.ireturn) 1 16 := ⟨zo_172 (by decide +kernel), rfl⟩
theorem dX11_party_16 : Dc mX11_party 16 (.iload_n 2) 1 17 := ⟨zo_28 (by decide +kernel), rfl⟩
theorem dX11_party_17 : Dc mX11_party 17 (.tableswitch 85 0 3 #[31, 46, 61, 73]) 31 48 := ⟨by decide +kernel, rfl⟩
theorem dX11_party_48 : Dc mX11_party 48 (.aload_n 0) 1 49 := ⟨zo_42 (by decide +kernel), rfl⟩
theorem dX11_party_49 : Dc mX11_party 49 (.getfield 20) 3 52 := ⟨zo_180 (w := 0) (x := 20) (by decide +kernel), rfl⟩
theorem dX11_party_52 : Dc mX11_party 52 (.getfield 125) 3 55 := ⟨zo_180 (w := 0) (x := 125) (by decide +kernel), rfl⟩
theorem dX11_party_55 : Dc mX11_party 55 (.getfield 142) 3 58 := ⟨zo_180 (w := 0) (x := 142) (by decide +kernel), rfl⟩
theorem dX11_party_58 : Dc mX11_party 58 (.iload_n 1) 1 59 := ⟨zo_27 (by decide +kernel), rfl⟩
theorem dX11_party_59 : Dc mX11_party 59 (.invokestatic 146) 3 62 := ⟨zo_184 (w := 0) (x := 146) (by decide +kernel), rfl⟩
theorem dX11_party_62 : Dc mX11_party 62 (.ireturn) 1 63 := ⟨zo_172 (by decide +kernel), rfl⟩
theorem dX11_party_63 : Dc mX11_party 63 (.aload_n 0) 1 64 := ⟨zo_42 (by decide +kernel), rfl⟩
theorem dX11_party_64 : Dc mX11_party 64 (.getfield 20) 3 67 := ⟨zo_180 (w := 0) (x := 20) (by decide +kernel), rfl⟩
theorem dX11_party_67 : Dc mX11_party 67 (.getfield 125) 3 70 := ⟨zo_180 (w := 0) (x := 125) (by decide +kernel), rfl⟩
theorem dX11_party_70 : Dc mX11_party 70 (.getfield 150) 3 73 := ⟨zo_180 (w := 0) (x := 150) (by decide +kernel), rfl⟩
theorem dX11_party_73 : Dc mX11_party 73 (.iload_n 1) 1 74 := ⟨zo_27 (by decide +kernel), rfl⟩
theorem dX11_party_74 : Dc mX11_party 74 (.invokestatic 146) 3 77 := ⟨zo_184 (w := 0) (x := 146) (by decide +kernel), rfl⟩
theorem dX11_party_77 : Dc mX11_party 77 (.ireturn) 1 78 := ⟨zo_172 (by decide +kernel), rfl⟩
theorem dX11_party_78 : Dc mX11_party 78 (.aload_n 0) 1 79 := ⟨zo_42 (by decide +kernel), rfl⟩
theorem dX11_party_79 : Dc mX11_party 79 (.getfield 34) 3 82 := ⟨zo_180 (w := 0) (x := 34) (by decide +kernel), rfl⟩
theorem dX11_party_82 : Dc mX11_party 82 (.getfield 183) 3 85 := ⟨zo_180 (w := 0) (x := 183) (by decide +kernel), rfl⟩
theorem dX11_party_85 : Dc mX11_party 85 (.iload_n 1) 1 86 := ⟨zo_27 (by decide +kernel), rfl⟩
theorem dX11_party_86 : Dc mX11_party 86 (.invokestatic 146) 3 89 := ⟨zo_184 (w := 0) (x := 146) (by decide +kernel), rfl⟩
theorem dX11_party_89 : Dc mX11_party 89 (.ireturn) 1 90 := ⟨zo_172 (by decide +kernel), rfl⟩
theorem dX11_party_90 : Dc mX11_party 90 (.aload_n 0) 1 91 := ⟨zo_42 (by decide +kernel), rfl⟩
theorem dX11_party_91 : Dc mX11_party 91 (.getfield 34) 3 94 := ⟨zo_180 (w := 0) (x := 34) (by decide +kernel), rfl⟩
theorem dX11_party_94 : Dc mX11_party 94 (.getfield 186) 3 97 := ⟨zo_180 (w := 0) (x := 186) (by decide +kernel), rfl⟩
theorem dX11_party_97 : Dc mX11_party 97 (.iload_n 1) 1 98 := ⟨zo_27 (by decide +kernel), rfl⟩
theorem dX11_party_98 : Dc mX11_party 98 (.invokestatic 146) 3 101 := ⟨zo_184 (w := 0) (x := 146) (by decide +kernel), rfl⟩
theorem dX11_party_101 : Dc mX11_party 101 (.ireturn) 1 102 := ⟨zo_172 (by decide +kernel), rfl⟩
theorem dX11_party_102 : Dc mX11_party 102 (.iconst (-1)) 1 103 := ⟨zo_2 (by decide +kernel), rfl⟩
theorem dX11_party_103 : Dc mX11_party 103 (.ireturn) 1 104 := ⟨zo_172 (by decide +kernel), rfl⟩
theorem dX11_clerk_0 : Dc mX11_clerk 0 (.aload_n 0) 1 1 := ⟨zo_42 (by decide +kernel), rfl⟩
theorem dX11_clerk_1 : Dc mX11_clerk 1 (.getfield 20) 3 4 := ⟨zo_180 (w := 0) (x := 20) (by decide +kernel), rfl⟩
theorem dX11_clerk_4 : Dc mX11_clerk 4 (.getfield 128) 3 7 := ⟨zo_180 (w := 0) (x := 128) (by decide +kernel), rfl⟩
theorem dX11_clerk_7 : Dc mX11_clerk 7 (.iload_n 1) 1 8 := ⟨zo_27 (by decide +kernel), rfl⟩
theorem dX11_clerk_8 : Dc mX11_clerk 8 (.invokevirtual 131) 3 11 := ⟨zo_182 (w := 0) (x := 131) (by decide +kernel), rfl⟩
theorem dX11_clerk_11 : Dc mX11_clerk 11 (.ifCond .eq 20) 3 14 := ⟨zo_153 (w := 0) (x := 20) (by decide +kernel), rfl⟩
theorem dX11_clerk_14 : Dc mX11_clerk 14 (.aload_n 0) 1 15 := ⟨zo_42 (by decide +kernel), rfl⟩
theorem dX11_clerk_15 : Dc mX11_clerk 15 (.getfield 20) 3 18 := ⟨zo_180 (w := 0) (x := 20) (by decide +kernel), rfl⟩
theorem dX11_clerk_18 : Dc mX11_clerk 18 (.getfield 128) 3 21 := ⟨zo_180 (w := 0) (x := 128) (by decide +kernel), rfl⟩
theorem dX11_clerk_21 : Dc mX11_clerk 21 (.getfield 142) 3 24 := ⟨zo_180 (w := 0) (x := 142) (by decide +kernel), rfl⟩
theorem dX11_clerk_24 : Dc mX11_clerk 24 (.iload_n 1) 1 25 := ⟨zo_27 (by decide +kernel), rfl⟩
theorem dX11_clerk_25 : Dc mX11_clerk 25 (.invokestatic 146) 3 28 := ⟨zo_184 (w := 0) (x := 146) (by decide +kernel), rfl⟩
theorem dX11_clerk_28 : Dc mX11_clerk 28 (.goto 4) 3 31 := ⟨zo_167 (w := 0) (x := 4) (by decide +kernel), rfl⟩
theorem dX11_clerk_31 : Dc mX11_clerk 31 (.iconst (-1)) 1 32 := ⟨zo_2 (by decide +kernel), rfl⟩
theorem dX11_clerk_32 : Dc mX11_clerk 32 (.ireturn) 1 33 := ⟨zo_172 (by decide +kernel), rfl⟩
theorem dX11_law_0 : Dc mX11_law 0 (.aload_n 0) 1 1 := ⟨zo_42 (by decide +kernel), rfl⟩
theorem dX11_law_1 : Dc mX11_law 1 (.getfield 50) 3 4 := ⟨zo_180 (w := 0) (x := 50) (by decide +kernel), rfl⟩
theorem dX11_law_4 : Dc mX11_law 4 (.aload_n 0) 1 5 := ⟨zo_42 (by decide +kernel), rfl⟩
theorem dX11_law_5 : Dc mX11_law 5 (.getfield 34) 3 8 := ⟨zo_180 (w := 0) (x := 34) (by decide +kernel), rfl⟩
theorem dX11_law_8 : Dc mX11_law 8 (.invokevirtual 189) 3 11 := ⟨zo_182 (w := 0) (x := 189) (by decide +kernel), rfl⟩
theorem dX11_law_11 : Dc mX11_law 11 (.iload_n 1) 1 12 := ⟨zo_27 (by decide +kernel), rfl⟩
theorem dX11_law_12 : Dc mX11_law 12 (.tableswitch 106 0 2 #[28, 35, 77]) 28 40 := ⟨by decide +kernel, rfl⟩
theorem dX11_law_40 : Dc mX11_law 40 (.aload_n 0) 1 41 := ⟨zo_42 (by decide +kernel), rfl⟩
theorem dX11_law_41 : Dc mX11_law 41 (.iload_n 2) 1 42 := ⟨zo_28 (by decide +kernel), rfl⟩
theorem dX11_law_42 : Dc mX11_law 42 (.iload_n 3) 1 43 := ⟨zo_29 (by decide +kernel), rfl⟩
theorem dX11_law_43 : Dc mX11_law 43 (.invokevirtual 193) 3 46 := ⟨zo_182 (w := 0) (x := 193) (by decide +kernel), rfl⟩
theorem dX11_law_46 : Dc mX11_law 46 (.lreturn) 1 47 := ⟨zo_173 (by decide +kernel), rfl⟩
theorem dX11_law_47 : Dc mX11_law 47 (.aload_n 0) 1 48 := ⟨zo_42 (by decide +kernel), rfl⟩
theorem dX11_law_48 : Dc mX11_law 48 (.getfield 20) 3 51 := ⟨zo_180 (w := 0) (x := 20) (by decide +kernel), rfl⟩
theorem dX11_law_51 : Dc mX11_law 51 (.getfield 112) 3 54 := ⟨zo_180 (w := 0) (x := 112) (by decide +kernel), rfl⟩
theorem dX11_law_54 : Dc mX11_law 54 (.iload_n 3) 1 55 := ⟨zo_29 (by decide +kernel), rfl⟩
theorem dX11_law_55 : Dc mX11_law 55 (.invokevirtual 131) 3 58 := ⟨zo_182 (w := 0) (x := 131) (by decide +kernel), rfl⟩
theorem dX11_law_58 : Dc mX11_law 58 (.ifCond .eq 27) 3 61 := ⟨zo_153 (w := 0) (x := 27) (by decide +kernel), rfl⟩
theorem dX11_law_61 : Dc mX11_law 61 (.aload_n 0) 1 62 := ⟨zo_42 (by decide +kernel), rfl⟩
theorem dX11_law_62 : Dc mX11_law 62 (.getfield 50) 3 65 := ⟨zo_180 (w := 0) (x := 50) (by decide +kernel), rfl⟩
theorem dX11_law_65 : Dc mX11_law 65 (.iload_n 3) 1 66 := ⟨zo_29 (by decide +kernel), rfl⟩
theorem dX11_law_66 : Dc mX11_law 66 (.aload_n 0) 1 67 := ⟨zo_42 (by decide +kernel), rfl⟩
theorem dX11_law_67 : Dc mX11_law 67 (.getfield 34) 3 70 := ⟨zo_180 (w := 0) (x := 34) (by decide +kernel), rfl⟩
theorem dX11_law_70 : Dc mX11_law 70 (.getfield 156) 3 73 := ⟨zo_180 (w := 0) (x := 156) (by decide +kernel), rfl⟩
theorem dX11_law_73 : Dc mX11_law 73 (.iload_n 3) 1 74 := ⟨zo_29 (by decide +kernel), rfl⟩
theorem dX11_law_74 : Dc mX11_law 74 (.invokestatic 146) 3 77 := ⟨zo_184 (w := 0) (x := 146) (by decide +kernel), rfl⟩
theorem dX11_law_77 : Dc mX11_law 77 (.iconst 1) 1 78 := ⟨zo_4 (by decide +kernel), rfl⟩
theorem dX11_law_78 : Dc mX11_law 78 (.iadd) 1 79 := ⟨zo_96 (by decide +kernel), rfl⟩
theorem dX11_law_79 : Dc mX11_law 79 (.invokevirtual 197) 3 82 := ⟨zo_182 (w := 0) (x := 197) (by decide +kernel), rfl⟩
theorem dX11_law_82 : Dc mX11_law 82 (.goto 6) 3 85 := ⟨zo_167 (w := 0) (x := 6) (by decide +kernel), rfl⟩
theorem dX11_law_85 : Dc mX11_law 85 (.ldc2_w 202) 3 88 := ⟨zo_20 (w := 0) (x := 202) (by decide +kernel), rfl⟩
theorem dX11_law_88 : Dc mX11_law 88 (.lreturn) 1 89 := ⟨zo_173 (by decide +kernel), rfl⟩
theorem dX11_law_89 : Dc mX11_law 89 (.aload_n 0) 1 90 := ⟨zo_42 (by decide +kernel), rfl⟩
theorem dX11_law_90 : Dc mX11_law 90 (.getfield 20) 3 93 := ⟨zo_180 (w := 0) (x := 20) (by decide +kernel), rfl⟩
theorem dX11_law_93 : Dc mX11_law 93 (.getfield 122) 3 96 := ⟨zo_180 (w := 0) (x := 122) (by decide +kernel), rfl⟩
theorem dX11_law_96 : Dc mX11_law 96 (.iload_n 2) 1 97 := ⟨zo_28 (by decide +kernel), rfl⟩
theorem dX11_law_97 : Dc mX11_law 97 (.invokevirtual 131) 3 100 := ⟨zo_182 (w := 0) (x := 131) (by decide +kernel), rfl⟩
theorem dX11_law_100 : Dc mX11_law 100 (.ifCond .eq 14) 3 103 := ⟨zo_153 (w := 0) (x := 14) (by decide +kernel), rfl⟩
theorem dX11_law_103 : Dc mX11_law 103 (.aload_n 0) 1 104 := ⟨zo_42 (by decide +kernel), rfl⟩
theorem dX11_law_104 : Dc mX11_law 104 (.getfield 50) 3 107 := ⟨zo_180 (w := 0) (x := 50) (by decide +kernel), rfl⟩
theorem dX11_law_107 : Dc mX11_law 107 (.iload_n 2) 1 108 := ⟨zo_28 (by decide +kernel), rfl⟩
theorem dX11_law_108 : Dc mX11_law 108 (.invokevirtual 204) 3 111 := ⟨zo_182 (w := 0) (x := 204) (by decide +kernel), rfl⟩
theorem dX11_law_111 : Dc mX11_law 111 (.goto 6) 3 114 := ⟨zo_167 (w := 0) (x := 6) (by decide +kernel), rfl⟩
theorem dX11_law_114 : Dc mX11_law 114 (.ldc2_w 202) 3 117 := ⟨zo_20 (w := 0) (x := 202) (by decide +kernel), rfl⟩
theorem dX11_law_117 : Dc mX11_law 117 (.lreturn) 1 118 := ⟨zo_173 (by decide +kernel), rfl⟩
theorem dX11_law_118 : Dc mX11_law 118 (.ldc2_w 202) 3 121 := ⟨zo_20 (w := 0) (x := 202) (by decide +kernel), rfl⟩
theorem dX11_law_121 : Dc mX11_law 121 (.lreturn) 1 122 := ⟨zo_173 (by decide +kernel), rfl⟩
theorem dX11_noticeNow_0 : Dc mX11_noticeNow 0 (.aload_n 0) 1 1 := ⟨zo_42 (by decide +kernel), rfl⟩
theorem dX11_noticeNow_1 : Dc mX11_noticeNow 1 (.getfield 20) 3 4 := ⟨zo_180 (w := 0) (x := 20) (by decide +kernel), rfl⟩
theorem dX11_noticeNow_4 : Dc mX11_noticeNow 4 (.getfield 122) 3 7 := ⟨zo_180 (w := 0) (x := 122) (by decide +kernel), rfl⟩
theorem dX11_noticeNow_7 : Dc mX11_noticeNow 7 (.iload_n 1) 1 8 := ⟨zo_27 (by decide +kernel), rfl⟩
theorem dX11_noticeNow_8 : Dc mX11_noticeNow 8 (.invokevirtual 131) 3 11 := ⟨zo_182 (w := 0) (x := 131) (by decide +kernel), rfl⟩
theorem dX11_noticeNow_11 : Dc mX11_noticeNow 11 (.ifCond .eq 29) 3 14 := ⟨zo_153 (w := 0) (x := 29) (by decide +kernel), rfl⟩
theorem dX11_noticeNow_14 : Dc mX11_noticeNow 14 (.aload_n 0) 1 15 := ⟨zo_42 (by decide +kernel), rfl⟩
theorem dX11_noticeNow_15 : Dc mX11_noticeNow 15 (.getfield 20) 3 18 := ⟨zo_180 (w := 0) (x := 20) (by decide +kernel), rfl⟩
theorem dX11_noticeNow_18 : Dc mX11_noticeNow 18 (.getfield 112) 3 21 := ⟨zo_180 (w := 0) (x := 112) (by decide +kernel), rfl⟩
theorem dX11_noticeNow_21 : Dc mX11_noticeNow 21 (.iload_n 2) 1 22 := ⟨zo_28 (by decide +kernel), rfl⟩
theorem dX11_noticeNow_22 : Dc mX11_noticeNow 22 (.invokevirtual 131) 3 25 := ⟨zo_182 (w := 0) (x := 131) (by decide +kernel), rfl⟩
theorem dX11_noticeNow_25 : Dc mX11_noticeNow 25 (.ifCond .eq 15) 3 28 := ⟨zo_153 (w := 0) (x := 15) (by decide +kernel), rfl⟩
theorem dX11_noticeNow_28 : Dc mX11_noticeNow 28 (.aload_n 0) 1 29 := ⟨zo_42 (by decide +kernel), rfl⟩
theorem dX11_noticeNow_29 : Dc mX11_noticeNow 29 (.getfield 34) 3 32 := ⟨zo_180 (w := 0) (x := 34) (by decide +kernel), rfl⟩
theorem dX11_noticeNow_32 : Dc mX11_noticeNow 32 (.iload_n 1) 1 33 := ⟨zo_27 (by decide +kernel), rfl⟩
theorem dX11_noticeNow_33 : Dc mX11_noticeNow 33 (.iload_n 2) 1 34 := ⟨zo_28 (by decide +kernel), rfl⟩
theorem dX11_noticeNow_34 : Dc mX11_noticeNow 34 (.invokevirtual 180) 3 37 := ⟨zo_182 (w := 0) (x := 180) (by decide +kernel), rfl⟩
theorem dX11_noticeNow_37 : Dc mX11_noticeNow 37 (.ifCond .ge 7) 3 40 := ⟨zo_156 (w := 0) (x := 7) (by decide +kernel), rfl⟩
theorem dX11_noticeNow_40 : Dc mX11_noticeNow 40 (.ldc2_w 202) 3 43 := ⟨zo_20 (w := 0) (x := 202) (by decide +kernel), rfl⟩
theorem dX11_noticeNow_43 : Dc mX11_noticeNow 43 (.lreturn) 1 44 := ⟨zo_173 (by decide +kernel), rfl⟩
theorem dX11_noticeNow_44 : Dc mX11_noticeNow 44 (.aload_n 0) 1 45 := ⟨zo_42 (by decide +kernel), rfl⟩
theorem dX11_noticeNow_45 : Dc mX11_noticeNow 45 (.getfield 50) 3 48 := ⟨zo_180 (w := 0) (x := 50) (by decide +kernel), rfl⟩
theorem dX11_noticeNow_48 : Dc mX11_noticeNow 48 (.iload_n 1) 1 49 := ⟨zo_27 (by decide +kernel), rfl⟩
theorem dX11_noticeNow_49 : Dc mX11_noticeNow 49 (.iload_n 2) 1 50 := ⟨zo_28 (by decide +kernel), rfl⟩
theorem dX11_noticeNow_50 : Dc mX11_noticeNow 50 (.invokevirtual 208) 3 53 := ⟨zo_182 (w := 0) (x := 208) (by decide +kernel), rfl⟩
theorem dX11_noticeNow_53 : Dc mX11_noticeNow 53 (.lreturn) 1 54 := ⟨zo_173 (by decide +kernel), rfl⟩
theorem dX11_plums_0 : Dc mX11_plums 0 (.aload_n 0) 1 1 := ⟨zo_42 (by decide +kernel), rfl⟩
theorem dX11_plums_1 : Dc mX11_plums 1 (.getfield 20) 3 4 := ⟨zo_180 (w := 0) (x := 20) (by decide +kernel), rfl⟩
theorem dX11_plums_4 : Dc mX11_plums 4 (.getfield 125) 3 7 := ⟨zo_180 (w := 0) (x := 125) (by decide +kernel), rfl⟩
theorem dX11_plums_7 : Dc mX11_plums 7 (.iload_n 1) 1 8 := ⟨zo_27 (by decide +kernel), rfl⟩
theorem dX11_plums_8 : Dc mX11_plums 8 (.invokevirtual 131) 3 11 := ⟨zo_182 (w := 0) (x := 131) (by decide +kernel), rfl⟩
theorem dX11_plums_11 : Dc mX11_plums 11 (.ifCond .eq 14) 3 14 := ⟨zo_153 (w := 0) (x := 14) (by decide +kernel), rfl⟩
theorem dX11_plums_14 : Dc mX11_plums 14 (.iload_n 2) 1 15 := ⟨zo_28 (by decide +kernel), rfl⟩
theorem dX11_plums_15 : Dc mX11_plums 15 (.iconst 1) 1 16 := ⟨zo_4 (by decide +kernel), rfl⟩
theorem dX11_plums_16 : Dc mX11_plums 16 (.if_icmp .lt 9) 3 19 := ⟨zo_161 (w := 0) (x := 9) (by decide +kernel), rfl⟩
theorem dX11_plums_19 : Dc mX11_plums 19 (.iload_n 2) 1 20 := ⟨zo_28 (by decide +kernel), rfl⟩
theorem dX11_plums_20 : Dc mX11_plums 20 (.bipush 99) 2 22 := ⟨zo_16 (w := 99) (by decide +kernel), rfl⟩
theorem dX11_plums_22 : Dc mX11_plums 22 (.if_icmp .le 5) 3 25 := ⟨zo_164 (w := 0) (x := 5) (by decide +kernel), rfl⟩
theorem dX11_plums_25 : Dc mX11_plums 25 (.iconst (-1)) 1 26 := ⟨zo_2 (by decide +kernel), rfl⟩
theorem dX11_plums_26 : Dc mX11_plums 26 (.ireturn) 1 27 := ⟨zo_172 (by decide +kernel), rfl⟩
theorem dX11_plums_27 : Dc mX11_plums 27 (.aload_n 0) 1 28 := ⟨zo_42 (by decide +kernel), rfl⟩
theorem dX11_plums_28 : Dc mX11_plums 28 (.getfield 34) 3 31 := ⟨zo_180 (w := 0) (x := 34) (by decide +kernel), rfl⟩
theorem dX11_plums_31 : Dc mX11_plums 31 (.getfield 183) 3 34 := ⟨zo_180 (w := 0) (x := 183) (by decide +kernel), rfl⟩
theorem dX11_plums_34 : Dc mX11_plums 34 (.iload_n 1) 1 35 := ⟨zo_27 (by decide +kernel), rfl⟩
theorem dX11_plums_35 : Dc mX11_plums 35 (.invokestatic 146) 3 38 := ⟨zo_184 (w := 0) (x := 146) (by decide +kernel), rfl⟩
theorem dX11_plums_38 : Dc mX11_plums 38 (.istore_n 3) 1 39 := ⟨zo_62 (by decide +kernel), rfl⟩
theorem dX11_plums_39 : Dc mX11_plums 39 (.iload_n 3) 1 40 := ⟨zo_29 (by decide +kernel), rfl⟩
theorem dX11_plums_40 : Dc mX11_plums 40 (.iload_n 2) 1 41 := ⟨zo_28 (by decide +kernel), rfl⟩
theorem dX11_plums_41 : Dc mX11_plums 41 (.iadd) 1 42 := ⟨zo_96 (by decide +kernel), rfl⟩
theorem dX11_plums_42 : Dc mX11_plums 42 (.sipush 999) 3 45 := ⟨zo_17 (w := 3) (x := 231) (by decide +kernel), rfl⟩
theorem dX11_plums_45 : Dc mX11_plums 45 (.if_icmp .le 5) 3 48 := ⟨zo_164 (w := 0) (x := 5) (by decide +kernel), rfl⟩
theorem dX11_plums_48 : Dc mX11_plums 48 (.iconst (-1)) 1 49 := ⟨zo_2 (by decide +kernel), rfl⟩
theorem dX11_plums_49 : Dc mX11_plums 49 (.ireturn) 1 50 := ⟨zo_172 (by decide +kernel), rfl⟩
theorem dX11_plums_50 : Dc mX11_plums 50 (.aload_n 0) 1 51 := ⟨zo_42 (by decide +kernel), rfl⟩
theorem dX11_plums_51 : Dc mX11_plums 51 (.getfield 64) 3 54 := ⟨zo_180 (w := 0) (x := 64) (by decide +kernel), rfl⟩
theorem dX11_plums_54 : Dc mX11_plums 54 (.iconst 0) 1 55 := ⟨zo_3 (by decide +kernel), rfl⟩
theorem dX11_plums_55 : Dc mX11_plums 55 (.iload_n 1) 1 56 := ⟨zo_27 (by decide +kernel), rfl⟩
theorem dX11_plums_56 : Dc mX11_plums 56 (.iload_n 3) 1 57 := ⟨zo_29 (by decide +kernel), rfl⟩
theorem dX11_plums_57 : Dc mX11_plums 57 (.invokevirtual 211) 3 60 := ⟨zo_182 (w := 0) (x := 211) (by decide +kernel), rfl⟩
theorem dX11_plums_60 : Dc mX11_plums 60 (.aload_n 0) 1 61 := ⟨zo_42 (by decide +kernel), rfl⟩
theorem dX11_plums_61 : Dc mX11_plums 61 (.getfield 34) 3 64 := ⟨zo_180 (w := 0) (x := 34) (by decide +kernel), rfl⟩
theorem dX11_plums_64 : Dc mX11_plums 64 (.getfield 183) 3 67 := ⟨zo_180 (w := 0) (x := 183) (by decide +kernel), rfl⟩
theorem dX11_plums_67 : Dc mX11_plums 67 (.iload_n 1) 1 68 := ⟨zo_27 (by decide +kernel), rfl⟩
theorem dX11_plums_68 : Dc mX11_plums 68 (.iload_n 3) 1 69 := ⟨zo_29 (by decide +kernel), rfl⟩
theorem dX11_plums_69 : Dc mX11_plums 69 (.iload_n 2) 1 70 := ⟨zo_28 (by decide +kernel), rfl⟩
theorem dX11_plums_70 : Dc mX11_plums 70 (.iadd) 1 71 := ⟨zo_96 (by decide +kernel), rfl⟩
theorem dX11_plums_71 : Dc mX11_plums 71 (.invokestatic 215) 3 74 := ⟨zo_184 (w := 0) (x := 215) (by decide +kernel), rfl⟩
theorem dX11_plums_74 : Dc mX11_plums 74 (.iload_n 3) 1 75 := ⟨zo_29 (by decide +kernel), rfl⟩
theorem dX11_plums_75 : Dc mX11_plums 75 (.iload_n 2) 1 76 := ⟨zo_28 (by decide +kernel), rfl⟩
theorem dX11_plums_76 : Dc mX11_plums 76 (.iadd) 1 77 := ⟨zo_96 (by decide +kernel), rfl⟩
theorem dX11_plums_77 : Dc mX11_plums 77 (.ireturn) 1 78 := ⟨zo_172 (by decide +kernel), rfl⟩
theorem dX11_move_0 : Dc mX11_move 0 (.aload_n 0) 1 1 := ⟨zo_42 (by decide +kernel), rfl⟩
theorem dX11_move_1 : Dc mX11_move 1 (.getfield 20) 3 4 := ⟨zo_180 (w := 0) (x := 20) (by decide +kernel), rfl⟩
theorem dX11_move_4 : Dc mX11_move 4 (.getfield 122) 3 7 := ⟨zo_180 (w := 0) (x := 122) (by decide +kernel), rfl⟩
theorem dX11_move_7 : Dc mX11_move 7 (.iload_n 1) 1 8 := ⟨zo_27 (by decide +kernel), rfl⟩
theorem dX11_move_8 : Dc mX11_move 8 (.invokevirtual 131) 3 11 := ⟨zo_182 (w := 0) (x := 131) (by decide +kernel), rfl⟩
theorem dX11_move_11 : Dc mX11_move 11 (.ifCond .eq 21) 3 14 := ⟨zo_153 (w := 0) (x := 21) (by decide +kernel), rfl⟩
theorem dX11_move_14 : Dc mX11_move 14 (.iload_n 2) 1 15 := ⟨zo_28 (by decide +kernel), rfl⟩
theorem dX11_move_15 : Dc mX11_move 15 (.aload_n 0) 1 16 := ⟨zo_42 (by decide +kernel), rfl⟩
theorem dX11_move_16 : Dc mX11_move 16 (.getfield 34) 3 19 := ⟨zo_180 (w := 0) (x := 34) (by decide +kernel), rfl⟩
theorem dX11_move_19 : Dc mX11_move 19 (.getfield 219) 3 22 := ⟨zo_180 (w := 0) (x := 219) (by decide +kernel), rfl⟩
theorem dX11_move_22 : Dc mX11_move 22 (.if_icmp .lt 10) 3 25 := ⟨zo_161 (w := 0) (x := 10) (by decide +kernel), rfl⟩
theorem dX11_move_25 : Dc mX11_move 25 (.iload_n 2) 1 26 := ⟨zo_28 (by decide +kernel), rfl⟩
theorem dX11_move_26 : Dc mX11_move 26 (.sipush 9999) 3 29 := ⟨zo_17 (w := 39) (x := 15) (by decide +kernel), rfl⟩
theorem dX11_move_29 : Dc mX11_move 29 (.if_icmp .le 5) 3 32 := ⟨zo_164 (w := 0) (x := 5) (by decide +kernel), rfl⟩
theorem dX11_move_32 : Dc mX11_move 32 (.iconst 0) 1 33 := ⟨zo_3 (by decide +kernel), rfl⟩
theorem dX11_move_33 : Dc mX11_move 33 (.ireturn) 1 34 := ⟨zo_172 (by decide +kernel), rfl⟩
theorem dX11_move_34 : Dc mX11_move 34 (.aload_n 0) 1 35 := ⟨zo_42 (by decide +kernel), rfl⟩
theorem dX11_move_35 : Dc mX11_move 35 (.getfield 34) 3 38 := ⟨zo_180 (w := 0) (x := 34) (by decide +kernel), rfl⟩
theorem dX11_move_38 : Dc mX11_move 38 (.getfield 168) 3 41 := ⟨zo_180 (w := 0) (x := 168) (by decide +kernel), rfl⟩
theorem dX11_move_41 : Dc mX11_move 41 (.iload_n 1) 1 42 := ⟨zo_27 (by decide +kernel), rfl⟩
theorem dX11_move_42 : Dc mX11_move 42 (.invokestatic 146) 3 45 := ⟨zo_184 (w := 0) (x := 146) (by decide +kernel), rfl⟩
theorem dX11_move_45 : Dc mX11_move 45 (.istore_n 3) 1 46 := ⟨zo_62 (by decide +kernel), rfl⟩
theorem dX11_move_46 : Dc mX11_move 46 (.aload_n 0) 1 47 := ⟨zo_42 (by decide +kernel), rfl⟩
theorem dX11_move_47 : Dc mX11_move 47 (.getfield 34) 3 50 := ⟨zo_180 (w := 0) (x := 34) (by decide +kernel), rfl⟩
theorem dX11_move_50 : Dc mX11_move 50 (.getfield 171) 3 53 := ⟨zo_180 (w := 0) (x := 171) (by decide +kernel), rfl⟩
theorem dX11_move_53 : Dc mX11_move 53 (.iload_n 1) 1 54 := ⟨zo_27 (by decide +kernel), rfl⟩
theorem dX11_move_54 : Dc mX11_move 54 (.invokestatic 146) 3 57 := ⟨zo_184 (w := 0) (x := 146) (by decide +kernel), rfl⟩
theorem dX11_move_57 : Dc mX11_move 57 (.ifCond .ne 8) 3 60 := ⟨zo_154 (w := 0) (x := 8) (by decide +kernel), rfl⟩
theorem dX11_move_60 : Dc mX11_move 60 (.iload_n 3) 1 61 := ⟨zo_29 (by decide +kernel), rfl⟩
theorem dX11_move_61 : Dc mX11_move 61 (.iload_n 2) 1 62 := ⟨zo_28 (by decide +kernel), rfl⟩
theorem dX11_move_62 : Dc mX11_move 62 (.if_icmp .ne 5) 3 65 := ⟨zo_160 (w := 0) (x := 5) (by decide +kernel), rfl⟩
theorem dX11_move_65 : Dc mX11_move 65 (.iconst 0) 1 66 := ⟨zo_3 (by decide +kernel), rfl⟩
theorem dX11_move_66 : Dc mX11_move 66 (.ireturn) 1 67 := ⟨zo_172 (by decide +kernel), rfl⟩
theorem dX11_move_67 : Dc mX11_move 67 (.aload_n 0) 1 68 := ⟨zo_42 (by decide +kernel), rfl⟩
theorem dX11_move_68 : Dc mX11_move 68 (.getfield 64) 3 71 := ⟨zo_180 (w := 0) (x := 64) (by decide +kernel), rfl⟩
theorem dX11_move_71 : Dc mX11_move 71 (.iconst 1) 1 72 := ⟨zo_4 (by decide +kernel), rfl⟩
theorem dX11_move_72 : Dc mX11_move 72 (.iload_n 1) 1 73 := ⟨zo_27 (by decide +kernel), rfl⟩
theorem dX11_move_73 : Dc mX11_move 73 (.iload_n 3) 1 74 := ⟨zo_29 (by decide +kernel), rfl⟩
theorem dX11_move_74 : Dc mX11_move 74 (.invokevirtual 211) 3 77 := ⟨zo_182 (w := 0) (x := 211) (by decide +kernel), rfl⟩
theorem dX11_move_77 : Dc mX11_move 77 (.aload_n 0) 1 78 := ⟨zo_42 (by decide +kernel), rfl⟩
theorem dX11_move_78 : Dc mX11_move 78 (.getfield 34) 3 81 := ⟨zo_180 (w := 0) (x := 34) (by decide +kernel), rfl⟩
theorem dX11_move_81 : Dc mX11_move 81 (.getfield 168) 3 84 := ⟨zo_180 (w := 0) (x := 168) (by decide +kernel), rfl⟩
theorem dX11_move_84 : Dc mX11_move 84 (.iload_n 1) 1 85 := ⟨zo_27 (by decide +kernel), rfl⟩
theorem dX11_move_85 : Dc mX11_move 85 (.iload_n 2) 1 86 := ⟨zo_28 (by decide +kernel), rfl⟩
theorem dX11_move_86 : Dc mX11_move 86 (.invokestatic 215) 3 89 := ⟨zo_184 (w := 0) (x := 215) (by decide +kernel), rfl⟩
theorem dX11_move_89 : Dc mX11_move 89 (.iconst 1) 1 90 := ⟨zo_4 (by decide +kernel), rfl⟩
theorem dX11_move_90 : Dc mX11_move 90 (.ireturn) 1 91 := ⟨zo_172 (by decide +kernel), rfl⟩
theorem dX11_tell_0 : Dc mX11_tell 0 (.aload_n 0) 1 1 := ⟨zo_42 (by decide +kernel), rfl⟩
theorem dX11_tell_1 : Dc mX11_tell 1 (.getfield 20) 3 4 := ⟨zo_180 (w := 0) (x := 20) (by decide +kernel), rfl⟩
theorem dX11_tell_4 : Dc mX11_tell 4 (.getfield 112) 3 7 := ⟨zo_180 (w := 0) (x := 112) (by decide +kernel), rfl⟩
theorem dX11_tell_7 : Dc mX11_tell 7 (.iload_n 1) 1 8 := ⟨zo_27 (by decide +kernel), rfl⟩
theorem dX11_tell_8 : Dc mX11_tell 8 (.invokevirtual 131) 3 11 := ⟨zo_182 (w := 0) (x := 131) (by decide +kernel), rfl⟩
theorem dX11_tell_11 : Dc mX11_tell 11 (.ifCond .eq 25) 3 14 := ⟨zo_153 (w := 0) (x := 25) (by decide +kernel), rfl⟩
theorem dX11_tell_14 : Dc mX11_tell 14 (.iload_n 2) 1 15 := ⟨zo_28 (by decide +kernel), rfl⟩
theorem dX11_tell_15 : Dc mX11_tell 15 (.ifCond .lt 21) 3 18 := ⟨zo_155 (w := 0) (x := 21) (by decide +kernel), rfl⟩
theorem dX11_tell_18 : Dc mX11_tell 18 (.iload_n 2) 1 19 := ⟨zo_28 (by decide +kernel), rfl⟩
theorem dX11_tell_19 : Dc mX11_tell 19 (.aload_n 0) 1 20 := ⟨zo_42 (by decide +kernel), rfl⟩
theorem dX11_tell_20 : Dc mX11_tell 20 (.getfield 20) 3 23 := ⟨zo_180 (w := 0) (x := 20) (by decide +kernel), rfl⟩
theorem dX11_tell_23 : Dc mX11_tell 23 (.getfield 112) 3 26 := ⟨zo_180 (w := 0) (x := 112) (by decide +kernel), rfl⟩
theorem dX11_tell_26 : Dc mX11_tell 26 (.getfield 150) 3 29 := ⟨zo_180 (w := 0) (x := 150) (by decide +kernel), rfl⟩
theorem dX11_tell_29 : Dc mX11_tell 29 (.iload_n 1) 1 30 := ⟨zo_27 (by decide +kernel), rfl⟩
theorem dX11_tell_30 : Dc mX11_tell 30 (.invokestatic 146) 3 33 := ⟨zo_184 (w := 0) (x := 146) (by decide +kernel), rfl⟩
theorem dX11_tell_33 : Dc mX11_tell 33 (.if_icmp .lt 5) 3 36 := ⟨zo_161 (w := 0) (x := 5) (by decide +kernel), rfl⟩
theorem dX11_tell_36 : Dc mX11_tell 36 (.iconst 0) 1 37 := ⟨zo_3 (by decide +kernel), rfl⟩
theorem dX11_tell_37 : Dc mX11_tell 37 (.ireturn) 1 38 := ⟨zo_172 (by decide +kernel), rfl⟩
theorem dX11_tell_38 : Dc mX11_tell 38 (.aload_n 0) 1 39 := ⟨zo_42 (by decide +kernel), rfl⟩
theorem dX11_tell_39 : Dc mX11_tell 39 (.iload_n 1) 1 40 := ⟨zo_27 (by decide +kernel), rfl⟩
theorem dX11_tell_40 : Dc mX11_tell 40 (.iload_n 2) 1 41 := ⟨zo_28 (by decide +kernel), rfl⟩
theorem dX11_tell_41 : Dc mX11_tell 41 (.invokevirtual 222) 3 44 := ⟨zo_182 (w := 0) (x := 222) (by decide +kernel), rfl⟩
theorem dX11_tell_44 : Dc mX11_tell 44 (.ireturn) 1 45 := ⟨zo_172 (by decide +kernel), rfl⟩
theorem dX11_forget_0 : Dc mX11_forget 0 (.aload_n 0) 1 1 := ⟨zo_42 (by decide +kernel), rfl⟩
theorem dX11_forget_1 : Dc mX11_forget 1 (.getfield 20) 3 4 := ⟨zo_180 (w := 0) (x := 20) (by decide +kernel), rfl⟩
theorem dX11_forget_4 : Dc mX11_forget 4 (.getfield 112) 3 7 := ⟨zo_180 (w := 0) (x := 112) (by decide +kernel), rfl⟩
theorem dX11_forget_7 : Dc mX11_forget 7 (.iload_n 1) 1 8 := ⟨zo_27 (by decide +kernel), rfl⟩
theorem dX11_forget_8 : Dc mX11_forget 8 (.invokevirtual 131) 3 11 := ⟨zo_182 (w := 0) (x := 131) (by decide +kernel), rfl⟩
theorem dX11_forget_11 : Dc mX11_forget 11 (.ifCond .eq 16) 3 14 := ⟨zo_153 (w := 0) (x := 16) (by decide +kernel), rfl⟩
theorem dX11_forget_14 : Dc mX11_forget 14 (.aload_n 0) 1 15 := ⟨zo_42 (by decide +kernel), rfl⟩
theorem dX11_forget_15 : Dc mX11_forget 15 (.iload_n 1) 1 16 := ⟨zo_27 (by decide +kernel), rfl⟩
theorem dX11_forget_16 : Dc mX11_forget 16 (.iconst (-1)) 1 17 := ⟨zo_2 (by decide +kernel), rfl⟩
theorem dX11_forget_17 : Dc mX11_forget 17 (.invokevirtual 222) 3 20 := ⟨zo_182 (w := 0) (x := 222) (by decide +kernel), rfl⟩
theorem dX11_forget_20 : Dc mX11_forget 20 (.ifCond .eq 7) 3 23 := ⟨zo_153 (w := 0) (x := 7) (by decide +kernel), rfl⟩
theorem dX11_forget_23 : Dc mX11_forget 23 (.iconst 1) 1 24 := ⟨zo_4 (by decide +kernel), rfl⟩
theorem dX11_forget_24 : Dc mX11_forget 24 (.goto 4) 3 27 := ⟨zo_167 (w := 0) (x := 4) (by decide +kernel), rfl⟩
theorem dX11_forget_27 : Dc mX11_forget 27 (.iconst 0) 1 28 := ⟨zo_3 (by decide +kernel), rfl⟩
theorem dX11_forget_28 : Dc mX11_forget 28 (.ireturn) 1 29 := ⟨zo_172 (by decide +kernel), rfl⟩
theorem dX11_sayFromNowOn_0 : Dc mX11_sayFromNowOn 0 (.aload_n 0) 1 1 := ⟨zo_42 (by decide +kernel), rfl⟩
theorem dX11_sayFromNowOn_1 : Dc mX11_sayFromNowOn 1 (.getfield 34) 3 4 := ⟨zo_180 (w := 0) (x := 34) (by decide +kernel), rfl⟩
theorem dX11_sayFromNowOn_4 : Dc mX11_sayFromNowOn 4 (.getfield 153) 3 7 := ⟨zo_180 (w := 0) (x := 153) (by decide +kernel), rfl⟩
theorem dX11_sayFromNowOn_7 : Dc mX11_sayFromNowOn 7 (.iload_n 1) 1 8 := ⟨zo_27 (by decide +kernel), rfl⟩
theorem dX11_sayFromNowOn_8 : Dc mX11_sayFromNowOn 8 (.invokestatic 146) 3 11 := ⟨zo_184 (w := 0) (x := 146) (by decide +kernel), rfl⟩
theorem dX11_sayFromNowOn_11 : Dc mX11_sayFromNowOn 11 (.istore_n 3) 1 12 := ⟨zo_62 (by decide +kernel), rfl⟩
theorem dX11_sayFromNowOn_12 : Dc mX11_sayFromNowOn 12 (.iload_n 3) 1 13 := ⟨zo_29 (by decide +kernel), rfl⟩
theorem dX11_sayFromNowOn_13 : Dc mX11_sayFromNowOn 13 (.iload_n 2) 1 14 := ⟨zo_28 (by decide +kernel), rfl⟩
theorem dX11_sayFromNowOn_14 : Dc mX11_sayFromNowOn 14 (.if_icmp .ne 5) 3 17 := ⟨zo_160 (w := 0) (x := 5) (by decide +kernel), rfl⟩
theorem dX11_sayFromNowOn_17 : Dc mX11_sayFromNowOn 17 (.iconst 0) 1 18 := ⟨zo_3 (by decide +kernel), rfl⟩
theorem dX11_sayFromNowOn_18 : Dc mX11_sayFromNowOn 18 (.ireturn) 1 19 := ⟨zo_172 (by decide +kernel), rfl⟩
theorem dX11_sayFromNowOn_19 : Dc mX11_sayFromNowOn 19 (.aload_n 0) 1 20 := ⟨zo_42 (by decide +kernel), rfl⟩
theorem dX11_sayFromNowOn_20 : Dc mX11_sayFromNowOn 20 (.getfield 64) 3 23 := ⟨zo_180 (w := 0) (x := 64) (by decide +kernel), rfl⟩
theorem dX11_sayFromNowOn_23 : Dc mX11_sayFromNowOn 23 (.iconst 2) 1 24 := ⟨zo_5 (by decide +kernel), rfl⟩
theorem dX11_sayFromNowOn_24 : Dc mX11_sayFromNowOn 24 (.iload_n 1) 1 25 := ⟨zo_27 (by decide +kernel), rfl⟩
theorem dX11_sayFromNowOn_25 : Dc mX11_sayFromNowOn 25 (.iload_n 3) 1 26 := ⟨zo_29 (by decide +kernel), rfl⟩
theorem dX11_sayFromNowOn_26 : Dc mX11_sayFromNowOn 26 (.invokevirtual 211) 3 29 := ⟨zo_182 (w := 0) (x := 211) (by decide +kernel), rfl⟩
theorem dX11_sayFromNowOn_29 : Dc mX11_sayFromNowOn 29 (.aload_n 0) 1 30 := ⟨zo_42 (by decide +kernel), rfl⟩
theorem dX11_sayFromNowOn_30 : Dc mX11_sayFromNowOn 30 (.getfield 34) 3 33 := ⟨zo_180 (w := 0) (x := 34) (by decide +kernel), rfl⟩
theorem dX11_sayFromNowOn_33 : Dc mX11_sayFromNowOn 33 (.getfield 153) 3 36 := ⟨zo_180 (w := 0) (x := 153) (by decide +kernel), rfl⟩
theorem dX11_sayFromNowOn_36 : Dc mX11_sayFromNowOn 36 (.iload_n 1) 1 37 := ⟨zo_27 (by decide +kernel), rfl⟩
theorem dX11_sayFromNowOn_37 : Dc mX11_sayFromNowOn 37 (.iload_n 2) 1 38 := ⟨zo_28 (by decide +kernel), rfl⟩
theorem dX11_sayFromNowOn_38 : Dc mX11_sayFromNowOn 38 (.invokestatic 215) 3 41 := ⟨zo_184 (w := 0) (x := 215) (by decide +kernel), rfl⟩
theorem dX11_sayFromNowOn_41 : Dc mX11_sayFromNowOn 41 (.iconst 1) 1 42 := ⟨zo_4 (by decide +kernel), rfl⟩
theorem dX11_sayFromNowOn_42 : Dc mX11_sayFromNowOn 42 (.ireturn) 1 43 := ⟨zo_172 (by decide +kernel), rfl⟩
theorem dX11_go_0 : Dc mX11_go 0 (.iload_n 1) 1 1 := ⟨zo_27 (by decide +kernel), rfl⟩
theorem dX11_go_1 : Dc mX11_go 1 (.ifCond .lt 24) 3 4 := ⟨zo_155 (w := 0) (x := 24) (by decide +kernel), rfl⟩
theorem dX11_go_4 : Dc mX11_go 4 (.iload_n 1) 1 5 := ⟨zo_27 (by decide +kernel), rfl⟩
theorem dX11_go_5 : Dc mX11_go 5 (.bipush 99) 2 7 := ⟨zo_16 (w := 99) (by decide +kernel), rfl⟩
theorem dX11_go_7 : Dc mX11_go 7 (.if_icmp .gt 18) 3 10 := ⟨zo_163 (w := 0) (x := 18) (by decide +kernel), rfl⟩
theorem dX11_go_10 : Dc mX11_go 10 (.aload_n 0) 1 11 := ⟨zo_42 (by decide +kernel), rfl⟩
theorem dX11_go_11 : Dc mX11_go 11 (.getfield 34) 3 14 := ⟨zo_180 (w := 0) (x := 34) (by decide +kernel), rfl⟩
theorem dX11_go_14 : Dc mX11_go 14 (.getfield 219) 3 17 := ⟨zo_180 (w := 0) (x := 219) (by decide +kernel), rfl⟩
theorem dX11_go_17 : Dc mX11_go 17 (.iload_n 1) 1 18 := ⟨zo_27 (by decide +kernel), rfl⟩
theorem dX11_go_18 : Dc mX11_go 18 (.iadd) 1 19 := ⟨zo_96 (by decide +kernel), rfl⟩
theorem dX11_go_19 : Dc mX11_go 19 (.sipush 9900) 3 22 := ⟨zo_17 (w := 38) (x := 172) (by decide +kernel), rfl⟩
theorem dX11_go_22 : Dc mX11_go 22 (.if_icmp .le 5) 3 25 := ⟨zo_164 (w := 0) (x := 5) (by decide +kernel), rfl⟩
theorem dX11_go_25 : Dc mX11_go 25 (.iconst (-1)) 1 26 := ⟨zo_2 (by decide +kernel), rfl⟩
theorem dX11_go_26 : Dc mX11_go 26 (.ireturn) 1 27 := ⟨zo_172 (by decide +kernel), rfl⟩
theorem dX11_go_27 : Dc mX11_go 27 (.iload_n 1) 1 28 := ⟨zo_27 (by decide +kernel), rfl⟩
theorem dX11_go_28 : Dc mX11_go 28 (.ifCond .le 51) 3 31 := ⟨zo_158 (w := 0) (x := 51) (by decide +kernel), rfl⟩
theorem dX11_go_31 : Dc mX11_go 31 (.aload_n 0) 1 32 := ⟨zo_42 (by decide +kernel), rfl⟩
theorem dX11_go_32 : Dc mX11_go 32 (.getfield 50) 3 35 := ⟨zo_180 (w := 0) (x := 50) (by decide +kernel), rfl⟩
theorem dX11_go_35 : Dc mX11_go 35 (.aload_n 0) 1 36 := ⟨zo_42 (by decide +kernel), rfl⟩
theorem dX11_go_36 : Dc mX11_go 36 (.getfield 34) 3 39 := ⟨zo_180 (w := 0) (x := 34) (by decide +kernel), rfl⟩
theorem dX11_go_39 : Dc mX11_go 39 (.invokevirtual 189) 3 42 := ⟨zo_182 (w := 0) (x := 189) (by decide +kernel), rfl⟩
theorem dX11_go_42 : Dc mX11_go 42 (.aload_n 0) 1 43 := ⟨zo_42 (by decide +kernel), rfl⟩
theorem dX11_go_43 : Dc mX11_go 43 (.getfield 50) 3 46 := ⟨zo_180 (w := 0) (x := 50) (by decide +kernel), rfl⟩
theorem dX11_go_46 : Dc mX11_go 46 (.iconst 1) 1 47 := ⟨zo_4 (by decide +kernel), rfl⟩
theorem dX11_go_47 : Dc mX11_go 47 (.putfield 226) 3 50 := ⟨zo_181 (w := 0) (x := 226) (by decide +kernel), rfl⟩
theorem dX11_go_50 : Dc mX11_go 50 (.aload_n 0) 1 51 := ⟨zo_42 (by decide +kernel), rfl⟩
theorem dX11_go_51 : Dc mX11_go 51 (.getfield 50) 3 54 := ⟨zo_180 (w := 0) (x := 50) (by decide +kernel), rfl⟩
theorem dX11_go_54 : Dc mX11_go 54 (.iload_n 1) 1 55 := ⟨zo_27 (by decide +kernel), rfl⟩
theorem dX11_go_55 : Dc mX11_go 55 (.invokevirtual 229) 3 58 := ⟨zo_182 (w := 0) (x := 229) (by decide +kernel), rfl⟩
theorem dX11_go_58 : Dc mX11_go 58 (.aload_n 0) 1 59 := ⟨zo_42 (by decide +kernel), rfl⟩
theorem dX11_go_59 : Dc mX11_go 59 (.getfield 34) 3 62 := ⟨zo_180 (w := 0) (x := 34) (by decide +kernel), rfl⟩
theorem dX11_go_62 : Dc mX11_go 62 (.aload_n 0) 1 63 := ⟨zo_42 (by decide +kernel), rfl⟩
theorem dX11_go_63 : Dc mX11_go 63 (.getfield 50) 3 66 := ⟨zo_180 (w := 0) (x := 50) (by decide +kernel), rfl⟩
theorem dX11_go_66 : Dc mX11_go 66 (.getfield 232) 3 69 := ⟨zo_180 (w := 0) (x := 232) (by decide +kernel), rfl⟩
theorem dX11_go_69 : Dc mX11_go 69 (.invokevirtual 235) 3 72 := ⟨zo_182 (w := 0) (x := 235) (by decide +kernel), rfl⟩
theorem dX11_go_72 : Dc mX11_go 72 (.aload_n 0) 1 73 := ⟨zo_42 (by decide +kernel), rfl⟩
theorem dX11_go_73 : Dc mX11_go 73 (.getfield 64) 3 76 := ⟨zo_180 (w := 0) (x := 64) (by decide +kernel), rfl⟩
theorem dX11_go_76 : Dc mX11_go 76 (.invokevirtual 102) 3 79 := ⟨zo_182 (w := 0) (x := 102) (by decide +kernel), rfl⟩
theorem dX11_go_79 : Dc mX11_go 79 (.aload_n 0) 1 80 := ⟨zo_42 (by decide +kernel), rfl⟩
theorem dX11_go_80 : Dc mX11_go 80 (.getfield 34) 3 83 := ⟨zo_180 (w := 0) (x := 34) (by decide +kernel), rfl⟩
theorem dX11_go_83 : Dc mX11_go 83 (.getfield 219) 3 86 := ⟨zo_180 (w := 0) (x := 219) (by decide +kernel), rfl⟩
theorem dX11_go_86 : Dc mX11_go 86 (.ireturn) 1 87 := ⟨zo_172 (by decide +kernel), rfl⟩
theorem dX11_ahead_0 : Dc mX11_ahead 0 (.iload_n 1) 1 1 := ⟨zo_27 (by decide +kernel), rfl⟩
theorem dX11_ahead_1 : Dc mX11_ahead 1 (.ifCond .lt 18) 3 4 := ⟨zo_155 (w := 0) (x := 18) (by decide +kernel), rfl⟩
theorem dX11_ahead_4 : Dc mX11_ahead 4 (.iload_n 1) 1 5 := ⟨zo_27 (by decide +kernel), rfl⟩
theorem dX11_ahead_5 : Dc mX11_ahead 5 (.bipush 99) 2 7 := ⟨zo_16 (w := 99) (by decide +kernel), rfl⟩
theorem dX11_ahead_7 : Dc mX11_ahead 7 (.if_icmp .gt 12) 3 10 := ⟨zo_163 (w := 0) (x := 12) (by decide +kernel), rfl⟩
theorem dX11_ahead_10 : Dc mX11_ahead 10 (.iload_n 2) 1 11 := ⟨zo_28 (by decide +kernel), rfl⟩
theorem dX11_ahead_11 : Dc mX11_ahead 11 (.ifCond .lt 8) 3 14 := ⟨zo_155 (w := 0) (x := 8) (by decide +kernel), rfl⟩
theorem dX11_ahead_14 : Dc mX11_ahead 14 (.iload_n 2) 1 15 := ⟨zo_28 (by decide +kernel), rfl⟩
theorem dX11_ahead_15 : Dc mX11_ahead 15 (.iconst 4) 1 16 := ⟨zo_7 (by decide +kernel), rfl⟩
theorem dX11_ahead_16 : Dc mX11_ahead 16 (.if_icmp .le 5) 3 19 := ⟨zo_164 (w := 0) (x := 5) (by decide +kernel), rfl⟩
theorem dX11_ahead_19 : Dc mX11_ahead 19 (.iconst (-1)) 1 20 := ⟨zo_2 (by decide +kernel), rfl⟩
theorem dX11_ahead_20 : Dc mX11_ahead 20 (.ireturn) 1 21 := ⟨zo_172 (by decide +kernel), rfl⟩
theorem dX11_ahead_21 : Dc mX11_ahead 21 (.aload_n 0) 1 22 := ⟨zo_42 (by decide +kernel), rfl⟩
theorem dX11_ahead_22 : Dc mX11_ahead 22 (.getfield 50) 3 25 := ⟨zo_180 (w := 0) (x := 50) (by decide +kernel), rfl⟩
theorem dX11_ahead_25 : Dc mX11_ahead 25 (.aload_n 0) 1 26 := ⟨zo_42 (by decide +kernel), rfl⟩
theorem dX11_ahead_26 : Dc mX11_ahead 26 (.getfield 34) 3 29 := ⟨zo_180 (w := 0) (x := 34) (by decide +kernel), rfl⟩
theorem dX11_ahead_29 : Dc mX11_ahead 29 (.invokevirtual 189) 3 32 := ⟨zo_182 (w := 0) (x := 189) (by decide +kernel), rfl⟩
theorem dX11_ahead_32 : Dc mX11_ahead 32 (.aload_n 0) 1 33 := ⟨zo_42 (by decide +kernel), rfl⟩
theorem dX11_ahead_33 : Dc mX11_ahead 33 (.getfield 50) 3 36 := ⟨zo_180 (w := 0) (x := 50) (by decide +kernel), rfl⟩
theorem dX11_ahead_36 : Dc mX11_ahead 36 (.iload_n 1) 1 37 := ⟨zo_27 (by decide +kernel), rfl⟩
theorem dX11_ahead_37 : Dc mX11_ahead 37 (.invokevirtual 229) 3 40 := ⟨zo_182 (w := 0) (x := 229) (by decide +kernel), rfl⟩
theorem dX11_ahead_40 : Dc mX11_ahead 40 (.iload_n 2) 1 41 := ⟨zo_28 (by decide +kernel), rfl⟩
theorem dX11_ahead_41 : Dc mX11_ahead 41 (.tableswitch 99 0 3 #[31, 50, 69, 88]) 31 72 := ⟨by decide +kernel, rfl⟩
theorem dX11_ahead_72 : Dc mX11_ahead 72 (.aload_n 0) 1 73 := ⟨zo_42 (by decide +kernel), rfl⟩
theorem dX11_ahead_73 : Dc mX11_ahead 73 (.getfield 50) 3 76 := ⟨zo_180 (w := 0) (x := 50) (by decide +kernel), rfl⟩
theorem dX11_ahead_76 : Dc mX11_ahead 76 (.getfield 232) 3 79 := ⟨zo_180 (w := 0) (x := 232) (by decide +kernel), rfl⟩
theorem dX11_ahead_79 : Dc mX11_ahead 79 (.invokevirtual 237) 3 82 := ⟨zo_182 (w := 0) (x := 237) (by decide +kernel), rfl⟩
theorem dX11_ahead_82 : Dc mX11_ahead 82 (.aload_n 0) 1 83 := ⟨zo_42 (by decide +kernel), rfl⟩
theorem dX11_ahead_83 : Dc mX11_ahead 83 (.getfield 34) 3 86 := ⟨zo_180 (w := 0) (x := 34) (by decide +kernel), rfl⟩
theorem dX11_ahead_86 : Dc mX11_ahead 86 (.invokevirtual 237) 3 89 := ⟨zo_182 (w := 0) (x := 237) (by decide +kernel), rfl⟩
theorem dX11_ahead_89 : Dc mX11_ahead 89 (.isub) 1 90 := ⟨zo_100 (by decide +kernel), rfl⟩
theorem dX11_ahead_90 : Dc mX11_ahead 90 (.ireturn) 1 91 := ⟨zo_172 (by decide +kernel), rfl⟩
theorem dX11_ahead_91 : Dc mX11_ahead 91 (.aload_n 0) 1 92 := ⟨zo_42 (by decide +kernel), rfl⟩
theorem dX11_ahead_92 : Dc mX11_ahead 92 (.getfield 50) 3 95 := ⟨zo_180 (w := 0) (x := 50) (by decide +kernel), rfl⟩
theorem dX11_ahead_95 : Dc mX11_ahead 95 (.getfield 232) 3 98 := ⟨zo_180 (w := 0) (x := 232) (by decide +kernel), rfl⟩
theorem dX11_ahead_98 : Dc mX11_ahead 98 (.getfield 241) 3 101 := ⟨zo_180 (w := 0) (x := 241) (by decide +kernel), rfl⟩
theorem dX11_ahead_101 : Dc mX11_ahead 101 (.aload_n 0) 1 102 := ⟨zo_42 (by decide +kernel), rfl⟩
theorem dX11_ahead_102 : Dc mX11_ahead 102 (.getfield 34) 3 105 := ⟨zo_180 (w := 0) (x := 34) (by decide +kernel), rfl⟩
theorem dX11_ahead_105 : Dc mX11_ahead 105 (.getfield 241) 3 108 := ⟨zo_180 (w := 0) (x := 241) (by decide +kernel), rfl⟩
theorem dX11_ahead_108 : Dc mX11_ahead 108 (.isub) 1 109 := ⟨zo_100 (by decide +kernel), rfl⟩
theorem dX11_ahead_109 : Dc mX11_ahead 109 (.ireturn) 1 110 := ⟨zo_172 (by decide +kernel), rfl⟩
theorem dX11_ahead_110 : Dc mX11_ahead 110 (.aload_n 0) 1 111 := ⟨zo_42 (by decide +kernel), rfl⟩
theorem dX11_ahead_111 : Dc mX11_ahead 111 (.getfield 50) 3 114 := ⟨zo_180 (w := 0) (x := 50) (by decide +kernel), rfl⟩
theorem dX11_ahead_114 : Dc mX11_ahead 114 (.getfield 232) 3 117 := ⟨zo_180 (w := 0) (x := 232) (by decide +kernel), rfl⟩
theorem dX11_ahead_117 : Dc mX11_ahead 117 (.getfield 244) 3 120 := ⟨zo_180 (w := 0) (x := 244) (by decide +kernel), rfl⟩
theorem dX11_ahead_120 : Dc mX11_ahead 120 (.aload_n 0) 1 121 := ⟨zo_42 (by decide +kernel), rfl⟩
theorem dX11_ahead_121 : Dc mX11_ahead 121 (.getfield 34) 3 124 := ⟨zo_180 (w := 0) (x := 34) (by decide +kernel), rfl⟩
theorem dX11_ahead_124 : Dc mX11_ahead 124 (.getfield 244) 3 127 := ⟨zo_180 (w := 0) (x := 244) (by decide +kernel), rfl⟩
theorem dX11_ahead_127 : Dc mX11_ahead 127 (.isub) 1 128 := ⟨zo_100 (by decide +kernel), rfl⟩
theorem dX11_ahead_128 : Dc mX11_ahead 128 (.ireturn) 1 129 := ⟨zo_172 (by decide +kernel), rfl⟩
theorem dX11_ahead_129 : Dc mX11_ahead 129 (.aload_n 0) 1 130 := ⟨zo_42 (by decide +kernel), rfl⟩
theorem dX11_ahead_130 : Dc mX11_ahead 130 (.getfield 50) 3 133 := ⟨zo_180 (w := 0) (x := 50) (by decide +kernel), rfl⟩
theorem dX11_ahead_133 : Dc mX11_ahead 133 (.getfield 232) 3 136 := ⟨zo_180 (w := 0) (x := 232) (by decide +kernel), rfl⟩
theorem dX11_ahead_136 : Dc mX11_ahead 136 (.getfield 247) 3 139 := ⟨zo_180 (w := 0) (x := 247) (by decide +kernel), rfl⟩
theorem dX11_ahead_139 : Dc mX11_ahead 139 (.ireturn) 1 140 := ⟨zo_172 (by decide +kernel), rfl⟩
theorem dX11_ahead_140 : Dc mX11_ahead 140 (.aload_n 0) 1 141 := ⟨zo_42 (by decide +kernel), rfl⟩
theorem dX11_ahead_141 : Dc mX11_ahead 141 (.getfield 50) 3 144 := ⟨zo_180 (w := 0) (x := 50) (by decide +kernel), rfl⟩
theorem dX11_ahead_144 : Dc mX11_ahead 144 (.getfield 232) 3 147 := ⟨zo_180 (w := 0) (x := 232) (by decide +kernel), rfl⟩
theorem dX11_ahead_147 : Dc mX11_ahead 147 (.invokevirtual 250) 3 150 := ⟨zo_182 (w := 0) (x := 250) (by decide +kernel), rfl⟩
theorem dX11_ahead_150 : Dc mX11_ahead 150 (.ireturn) 1 151 := ⟨zo_172 (by decide +kernel), rfl⟩
theorem dX11_breaks_0 : Dc mX11_breaks 0 (.aload_n 0) 1 1 := ⟨zo_42 (by decide +kernel), rfl⟩
theorem dX11_breaks_1 : Dc mX11_breaks 1 (.getfield 34) 3 4 := ⟨zo_180 (w := 0) (x := 34) (by decide +kernel), rfl⟩
theorem dX11_breaks_4 : Dc mX11_breaks 4 (.invokevirtual 253) 3 7 := ⟨zo_182 (w := 0) (x := 253) (by decide +kernel), rfl⟩
theorem dX11_breaks_7 : Dc mX11_breaks 7 (.ireturn) 1 8 := ⟨zo_172 (by decide +kernel), rfl⟩
theorem dX11_agrees_0 : Dc mX11_agrees 0 (.aload_n 0) 1 1 := ⟨zo_42 (by decide +kernel), rfl⟩
theorem dX11_agrees_1 : Dc mX11_agrees 1 (.getfield 50) 3 4 := ⟨zo_180 (w := 0) (x := 50) (by decide +kernel), rfl⟩
theorem dX11_agrees_4 : Dc mX11_agrees 4 (.aload_n 0) 1 5 := ⟨zo_42 (by decide +kernel), rfl⟩
theorem dX11_agrees_5 : Dc mX11_agrees 5 (.getfield 34) 3 8 := ⟨zo_180 (w := 0) (x := 34) (by decide +kernel), rfl⟩
theorem dX11_agrees_8 : Dc mX11_agrees 8 (.invokevirtual 189) 3 11 := ⟨zo_182 (w := 0) (x := 189) (by decide +kernel), rfl⟩
theorem dX11_agrees_11 : Dc mX11_agrees 11 (.iconst 0) 1 12 := ⟨zo_3 (by decide +kernel), rfl⟩
theorem dX11_agrees_12 : Dc mX11_agrees 12 (.istore_n 1) 1 13 := ⟨zo_60 (by decide +kernel), rfl⟩
theorem dX11_agrees_13 : Dc mX11_agrees 13 (.iload_n 1) 1 14 := ⟨zo_27 (by decide +kernel), rfl⟩
theorem dX11_agrees_14 : Dc mX11_agrees 14 (.bipush 99) 2 16 := ⟨zo_16 (w := 99) (by decide +kernel), rfl⟩
theorem dX11_agrees_16 : Dc mX11_agrees 16 (.if_icmp .gt 55) 3 19 := ⟨zo_163 (w := 0) (x := 55) (by decide +kernel), rfl⟩
theorem dX11_agrees_19 : Dc mX11_agrees 19 (.aload_n 0) 1 20 := ⟨zo_42 (by decide +kernel), rfl⟩
theorem dX11_agrees_20 : Dc mX11_agrees 20 (.getfield 50) 3 23 := ⟨zo_180 (w := 0) (x := 50) (by decide +kernel), rfl⟩
theorem dX11_agrees_23 : Dc mX11_agrees 23 (.getfield 232) 3 26 := ⟨zo_180 (w := 0) (x := 232) (by decide +kernel), rfl⟩
theorem dX11_agrees_26 : Dc mX11_agrees 26 (.invokevirtual 237) 3 29 := ⟨zo_182 (w := 0) (x := 237) (by decide +kernel), rfl⟩
theorem dX11_agrees_29 : Dc mX11_agrees 29 (.aload_n 0) 1 30 := ⟨zo_42 (by decide +kernel), rfl⟩
theorem dX11_agrees_30 : Dc mX11_agrees 30 (.getfield 20) 3 33 := ⟨zo_180 (w := 0) (x := 20) (by decide +kernel), rfl⟩
theorem dX11_agrees_33 : Dc mX11_agrees 33 (.getfield 122) 3 36 := ⟨zo_180 (w := 0) (x := 122) (by decide +kernel), rfl⟩
theorem dX11_agrees_36 : Dc mX11_agrees 36 (.getfield 256) 3 39 := ⟨zo_180 (w := 1) (x := 0) (by decide +kernel), rfl⟩
theorem dX11_agrees_39 : Dc mX11_agrees 39 (.if_icmp .ne 18) 3 42 := ⟨zo_160 (w := 0) (x := 18) (by decide +kernel), rfl⟩
theorem dX11_agrees_42 : Dc mX11_agrees 42 (.aload_n 0) 1 43 := ⟨zo_42 (by decide +kernel), rfl⟩
theorem dX11_agrees_43 : Dc mX11_agrees 43 (.getfield 50) 3 46 := ⟨zo_180 (w := 0) (x := 50) (by decide +kernel), rfl⟩
theorem dX11_agrees_46 : Dc mX11_agrees 46 (.getfield 232) 3 49 := ⟨zo_180 (w := 0) (x := 232) (by decide +kernel), rfl⟩
theorem dX11_agrees_49 : Dc mX11_agrees 49 (.invokevirtual 250) 3 52 := ⟨zo_182 (w := 0) (x := 250) (by decide +kernel), rfl⟩
theorem dX11_agrees_52 : Dc mX11_agrees 52 (.ifCond .ne 5) 3 55 := ⟨zo_154 (w := 0) (x := 5) (by decide +kernel), rfl⟩
theorem dX11_agrees_55 : Dc mX11_agrees 55 (.iload_n 1) 1 56 := ⟨zo_27 (by decide +kernel), rfl⟩
theorem dX11_agrees_56 : Dc mX11_agrees 56 (.ireturn) 1 57 := ⟨zo_172 (by decide +kernel), rfl⟩
theorem dX11_agrees_57 : Dc mX11_agrees 57 (.aload_n 0) 1 58 := ⟨zo_42 (by decide +kernel), rfl⟩
theorem dX11_agrees_58 : Dc mX11_agrees 58 (.getfield 50) 3 61 := ⟨zo_180 (w := 0) (x := 50) (by decide +kernel), rfl⟩
theorem dX11_agrees_61 : Dc mX11_agrees 61 (.iconst 1) 1 62 := ⟨zo_4 (by decide +kernel), rfl⟩
theorem dX11_agrees_62 : Dc mX11_agrees 62 (.invokevirtual 229) 3 65 := ⟨zo_182 (w := 0) (x := 229) (by decide +kernel), rfl⟩
theorem dX11_agrees_65 : Dc mX11_agrees 65 (.iinc 1 1) 3 68 := ⟨zo_iinc (x := 1) (by decide +kernel), rfl⟩
theorem dX11_agrees_68 : Dc mX11_agrees 68 (.goto (-55)) 3 71 := ⟨zo_167 (w := 255) (x := 201) (by decide +kernel), rfl⟩
theorem dX11_agrees_71 : Dc mX11_agrees 71 (.bipush (-2)) 2 73 := ⟨zo_16 (w := 254) (by decide +kernel), rfl⟩
theorem dX11_agrees_73 : Dc mX11_agrees 73 (.ireturn) 1 74 := ⟨zo_172 (by decide +kernel), rfl⟩
theorem dX11_least_0 : Dc mX11_least 0 (.iload_n 1) 1 1 := ⟨zo_27 (by decide +kernel), rfl⟩
theorem dX11_least_1 : Dc mX11_least 1 (.ifCond .lt 9) 3 4 := ⟨zo_155 (w := 0) (x := 9) (by decide +kernel), rfl⟩
theorem dX11_least_4 : Dc mX11_least 4 (.iload_n 1) 1 5 := ⟨zo_27 (by decide +kernel), rfl⟩
theorem dX11_least_5 : Dc mX11_least 5 (.bipush 6) 2 7 := ⟨zo_16 (w := 6) (by decide +kernel), rfl⟩
theorem dX11_least_7 : Dc mX11_least 7 (.if_icmp .le 5) 3 10 := ⟨zo_164 (w := 0) (x := 5) (by decide +kernel), rfl⟩
theorem dX11_least_10 : Dc mX11_least 10 (.iconst (-1)) 1 11 := ⟨zo_2 (by decide +kernel), rfl⟩
theorem dX11_least_11 : Dc mX11_least 11 (.ireturn) 1 12 := ⟨zo_172 (by decide +kernel), rfl⟩
theorem dX11_least_12 : Dc mX11_least 12 (.iload_n 1) 1 13 := ⟨zo_27 (by decide +kernel), rfl⟩
theorem dX11_least_13 : Dc mX11_least 13 (.bipush 6) 2 15 := ⟨zo_16 (w := 6) (by decide +kernel), rfl⟩
theorem dX11_least_15 : Dc mX11_least 15 (.if_icmp .ge 20) 3 18 := ⟨zo_162 (w := 0) (x := 20) (by decide +kernel), rfl⟩
theorem dX11_least_18 : Dc mX11_least 18 (.iload_n 1) 1 19 := ⟨zo_27 (by decide +kernel), rfl⟩
theorem dX11_least_19 : Dc mX11_least 19 (.aload_n 0) 1 20 := ⟨zo_42 (by decide +kernel), rfl⟩
theorem dX11_least_20 : Dc mX11_least 20 (.getfield 20) 3 23 := ⟨zo_180 (w := 0) (x := 20) (by decide +kernel), rfl⟩
theorem dX11_least_23 : Dc mX11_least 23 (.getfield 112) 3 26 := ⟨zo_180 (w := 0) (x := 112) (by decide +kernel), rfl⟩
theorem dX11_least_26 : Dc mX11_least 26 (.getfield 256) 3 29 := ⟨zo_180 (w := 1) (x := 0) (by decide +kernel), rfl⟩
theorem dX11_least_29 : Dc mX11_least 29 (.if_icmp .lt 6) 3 32 := ⟨zo_161 (w := 0) (x := 6) (by decide +kernel), rfl⟩
theorem dX11_least_32 : Dc mX11_least 32 (.bipush (-2)) 2 34 := ⟨zo_16 (w := 254) (by decide +kernel), rfl⟩
theorem dX11_least_34 : Dc mX11_least 34 (.ireturn) 1 35 := ⟨zo_172 (by decide +kernel), rfl⟩
theorem dX11_least_35 : Dc mX11_least 35 (.aload_n 0) 1 36 := ⟨zo_42 (by decide +kernel), rfl⟩
theorem dX11_least_36 : Dc mX11_least 36 (.getfield 71) 3 39 := ⟨zo_180 (w := 0) (x := 71) (by decide +kernel), rfl⟩
theorem dX11_least_39 : Dc mX11_least 39 (.aload_n 0) 1 40 := ⟨zo_42 (by decide +kernel), rfl⟩
theorem dX11_least_40 : Dc mX11_least 40 (.getfield 34) 3 43 := ⟨zo_180 (w := 0) (x := 34) (by decide +kernel), rfl⟩
theorem dX11_least_43 : Dc mX11_least 43 (.invokevirtual 259) 3 46 := ⟨zo_182 (w := 1) (x := 3) (by decide +kernel), rfl⟩
theorem dX11_least_46 : Dc mX11_least 46 (.iload_n 1) 1 47 := ⟨zo_27 (by decide +kernel), rfl⟩
theorem dX11_least_47 : Dc mX11_least 47 (.bipush 6) 2 49 := ⟨zo_16 (w := 6) (by decide +kernel), rfl⟩
theorem dX11_least_49 : Dc mX11_least 49 (.if_icmp .ne 13) 3 52 := ⟨zo_160 (w := 0) (x := 13) (by decide +kernel), rfl⟩
theorem dX11_least_52 : Dc mX11_least 52 (.aload_n 0) 1 53 := ⟨zo_42 (by decide +kernel), rfl⟩
theorem dX11_least_53 : Dc mX11_least 53 (.getfield 71) 3 56 := ⟨zo_180 (w := 0) (x := 71) (by decide +kernel), rfl⟩
theorem dX11_least_56 : Dc mX11_least 56 (.getfield 262) 3 59 := ⟨zo_180 (w := 1) (x := 6) (by decide +kernel), rfl⟩
theorem dX11_least_59 : Dc mX11_least 59 (.goto 14) 3 62 := ⟨zo_167 (w := 0) (x := 14) (by decide +kernel), rfl⟩
theorem dX11_least_62 : Dc mX11_least 62 (.aload_n 0) 1 63 := ⟨zo_42 (by decide +kernel), rfl⟩
theorem dX11_least_63 : Dc mX11_least 63 (.getfield 71) 3 66 := ⟨zo_180 (w := 0) (x := 71) (by decide +kernel), rfl⟩
theorem dX11_least_66 : Dc mX11_least 66 (.getfield 265) 3 69 := ⟨zo_180 (w := 1) (x := 9) (by decide +kernel), rfl⟩
theorem dX11_least_69 : Dc mX11_least 69 (.iload_n 1) 1 70 := ⟨zo_27 (by decide +kernel), rfl⟩
theorem dX11_least_70 : Dc mX11_least 70 (.invokestatic 146) 3 73 := ⟨zo_184 (w := 0) (x := 146) (by decide +kernel), rfl⟩
theorem dX11_least_73 : Dc mX11_least 73 (.ireturn) 1 74 := ⟨zo_172 (by decide +kernel), rfl⟩
theorem dX11_order_0 : Dc mX11_order 0 (.iload_n 1) 1 1 := ⟨zo_27 (by decide +kernel), rfl⟩
theorem dX11_order_1 : Dc mX11_order 1 (.ifCond .lt 8) 3 4 := ⟨zo_155 (w := 0) (x := 8) (by decide +kernel), rfl⟩
theorem dX11_order_4 : Dc mX11_order 4 (.iload_n 1) 1 5 := ⟨zo_27 (by decide +kernel), rfl⟩
theorem dX11_order_5 : Dc mX11_order 5 (.iconst 4) 1 6 := ⟨zo_7 (by decide +kernel), rfl⟩
theorem dX11_order_6 : Dc mX11_order 6 (.if_icmp .le 5) 3 9 := ⟨zo_164 (w := 0) (x := 5) (by decide +kernel), rfl⟩
theorem dX11_order_9 : Dc mX11_order 9 (.iconst (-1)) 1 10 := ⟨zo_2 (by decide +kernel), rfl⟩
theorem dX11_order_10 : Dc mX11_order 10 (.ireturn) 1 11 := ⟨zo_172 (by decide +kernel), rfl⟩
theorem dX11_order_11 : Dc mX11_order 11 (.aload_n 0) 1 12 := ⟨zo_42 (by decide +kernel), rfl⟩
theorem dX11_order_12 : Dc mX11_order 12 (.getfield 78) 3 15 := ⟨zo_180 (w := 0) (x := 78) (by decide +kernel), rfl⟩
theorem dX11_order_15 : Dc mX11_order 15 (.aload_n 0) 1 16 := ⟨zo_42 (by decide +kernel), rfl⟩
theorem dX11_order_16 : Dc mX11_order 16 (.getfield 34) 3 19 := ⟨zo_180 (w := 0) (x := 34) (by decide +kernel), rfl⟩
theorem dX11_order_19 : Dc mX11_order 19 (.aload_n 0) 1 20 := ⟨zo_42 (by decide +kernel), rfl⟩
theorem dX11_order_20 : Dc mX11_order 20 (.getfield 20) 3 23 := ⟨zo_180 (w := 0) (x := 20) (by decide +kernel), rfl⟩
theorem dX11_order_23 : Dc mX11_order 23 (.getfield 122) 3 26 := ⟨zo_180 (w := 0) (x := 122) (by decide +kernel), rfl⟩
theorem dX11_order_26 : Dc mX11_order 26 (.getfield 256) 3 29 := ⟨zo_180 (w := 1) (x := 0) (by decide +kernel), rfl⟩
theorem dX11_order_29 : Dc mX11_order 29 (.invokevirtual 268) 3 32 := ⟨zo_182 (w := 1) (x := 12) (by decide +kernel), rfl⟩
theorem dX11_order_32 : Dc mX11_order 32 (.iconst 0) 1 33 := ⟨zo_3 (by decide +kernel), rfl⟩
theorem dX11_order_33 : Dc mX11_order 33 (.istore_n 2) 1 34 := ⟨zo_61 (by decide +kernel), rfl⟩
theorem dX11_order_34 : Dc mX11_order 34 (.iload_n 2) 1 35 := ⟨zo_28 (by decide +kernel), rfl⟩
theorem dX11_order_35 : Dc mX11_order 35 (.sipush 256) 3 38 := ⟨zo_17 (w := 1) (x := 0) (by decide +kernel), rfl⟩
theorem dX11_order_38 : Dc mX11_order 38 (.if_icmp .ge 100) 3 41 := ⟨zo_162 (w := 0) (x := 100) (by decide +kernel), rfl⟩
theorem dX11_order_41 : Dc mX11_order 41 (.aload_n 0) 1 42 := ⟨zo_42 (by decide +kernel), rfl⟩
theorem dX11_order_42 : Dc mX11_order 42 (.getfield 78) 3 45 := ⟨zo_180 (w := 0) (x := 78) (by decide +kernel), rfl⟩
theorem dX11_order_45 : Dc mX11_order 45 (.iload_n 2) 1 46 := ⟨zo_28 (by decide +kernel), rfl⟩
theorem dX11_order_46 : Dc mX11_order 46 (.invokevirtual 271) 3 49 := ⟨zo_182 (w := 1) (x := 15) (by decide +kernel), rfl⟩
theorem dX11_order_49 : Dc mX11_order 49 (.ifCond .eq 83) 3 52 := ⟨zo_153 (w := 0) (x := 83) (by decide +kernel), rfl⟩
theorem dX11_order_52 : Dc mX11_order 52 (.aload_n 0) 1 53 := ⟨zo_42 (by decide +kernel), rfl⟩
theorem dX11_order_53 : Dc mX11_order 53 (.getfield 50) 3 56 := ⟨zo_180 (w := 0) (x := 50) (by decide +kernel), rfl⟩
theorem dX11_order_56 : Dc mX11_order 56 (.aload_n 0) 1 57 := ⟨zo_42 (by decide +kernel), rfl⟩
theorem dX11_order_57 : Dc mX11_order 57 (.getfield 34) 3 60 := ⟨zo_180 (w := 0) (x := 34) (by decide +kernel), rfl⟩
theorem dX11_order_60 : Dc mX11_order 60 (.invokevirtual 189) 3 63 := ⟨zo_182 (w := 0) (x := 189) (by decide +kernel), rfl⟩
theorem dX11_order_63 : Dc mX11_order 63 (.aload_n 0) 1 64 := ⟨zo_42 (by decide +kernel), rfl⟩
theorem dX11_order_64 : Dc mX11_order 64 (.getfield 78) 3 67 := ⟨zo_180 (w := 0) (x := 78) (by decide +kernel), rfl⟩
theorem dX11_order_67 : Dc mX11_order 67 (.iload_n 2) 1 68 := ⟨zo_28 (by decide +kernel), rfl⟩
theorem dX11_order_68 : Dc mX11_order 68 (.aload_n 0) 1 69 := ⟨zo_42 (by decide +kernel), rfl⟩
theorem dX11_order_69 : Dc mX11_order 69 (.getfield 50) 3 72 := ⟨zo_180 (w := 0) (x := 50) (by decide +kernel), rfl⟩
theorem dX11_order_72 : Dc mX11_order 72 (.getfield 232) 3 75 := ⟨zo_180 (w := 0) (x := 232) (by decide +kernel), rfl⟩
theorem dX11_order_75 : Dc mX11_order 75 (.invokevirtual 274) 3 78 := ⟨zo_182 (w := 1) (x := 18) (by decide +kernel), rfl⟩
theorem dX11_order_78 : Dc mX11_order 78 (.aload_n 0) 1 79 := ⟨zo_42 (by decide +kernel), rfl⟩
theorem dX11_order_79 : Dc mX11_order 79 (.getfield 50) 3 82 := ⟨zo_180 (w := 0) (x := 50) (by decide +kernel), rfl⟩
theorem dX11_order_82 : Dc mX11_order 82 (.bipush 20) 2 84 := ⟨zo_16 (w := 20) (by decide +kernel), rfl⟩
theorem dX11_order_84 : Dc mX11_order 84 (.invokevirtual 229) 3 87 := ⟨zo_182 (w := 0) (x := 229) (by decide +kernel), rfl⟩
theorem dX11_order_87 : Dc mX11_order 87 (.aload_n 0) 1 88 := ⟨zo_42 (by decide +kernel), rfl⟩
theorem dX11_order_88 : Dc mX11_order 88 (.getfield 78) 3 91 := ⟨zo_180 (w := 0) (x := 78) (by decide +kernel), rfl⟩
theorem dX11_order_91 : Dc mX11_order 91 (.iload_n 2) 1 92 := ⟨zo_28 (by decide +kernel), rfl⟩
theorem dX11_order_92 : Dc mX11_order 92 (.aload_n 0) 1 93 := ⟨zo_42 (by decide +kernel), rfl⟩
theorem dX11_order_93 : Dc mX11_order 93 (.getfield 50) 3 96 := ⟨zo_180 (w := 0) (x := 50) (by decide +kernel), rfl⟩
theorem dX11_order_96 : Dc mX11_order 96 (.getfield 232) 3 99 := ⟨zo_180 (w := 0) (x := 232) (by decide +kernel), rfl⟩
theorem dX11_order_99 : Dc mX11_order 99 (.getfield 241) 3 102 := ⟨zo_180 (w := 0) (x := 241) (by decide +kernel), rfl⟩
theorem dX11_order_102 : Dc mX11_order 102 (.aload_n 0) 1 103 := ⟨zo_42 (by decide +kernel), rfl⟩
theorem dX11_order_103 : Dc mX11_order 103 (.getfield 34) 3 106 := ⟨zo_180 (w := 0) (x := 34) (by decide +kernel), rfl⟩
theorem dX11_order_106 : Dc mX11_order 106 (.getfield 241) 3 109 := ⟨zo_180 (w := 0) (x := 241) (by decide +kernel), rfl⟩
theorem dX11_order_109 : Dc mX11_order 109 (.isub) 1 110 := ⟨zo_100 (by decide +kernel), rfl⟩
theorem dX11_order_110 : Dc mX11_order 110 (.aload_n 0) 1 111 := ⟨zo_42 (by decide +kernel), rfl⟩
theorem dX11_order_111 : Dc mX11_order 111 (.getfield 50) 3 114 := ⟨zo_180 (w := 0) (x := 50) (by decide +kernel), rfl⟩
theorem dX11_order_114 : Dc mX11_order 114 (.getfield 232) 3 117 := ⟨zo_180 (w := 0) (x := 232) (by decide +kernel), rfl⟩
theorem dX11_order_117 : Dc mX11_order 117 (.getfield 244) 3 120 := ⟨zo_180 (w := 0) (x := 244) (by decide +kernel), rfl⟩
theorem dX11_order_120 : Dc mX11_order 120 (.iadd) 1 121 := ⟨zo_96 (by decide +kernel), rfl⟩
theorem dX11_order_121 : Dc mX11_order 121 (.aload_n 0) 1 122 := ⟨zo_42 (by decide +kernel), rfl⟩
theorem dX11_order_122 : Dc mX11_order 122 (.getfield 34) 3 125 := ⟨zo_180 (w := 0) (x := 34) (by decide +kernel), rfl⟩
theorem dX11_order_125 : Dc mX11_order 125 (.getfield 244) 3 128 := ⟨zo_180 (w := 0) (x := 244) (by decide +kernel), rfl⟩
theorem dX11_order_128 : Dc mX11_order 128 (.isub) 1 129 := ⟨zo_100 (by decide +kernel), rfl⟩
theorem dX11_order_129 : Dc mX11_order 129 (.invokevirtual 278) 3 132 := ⟨zo_182 (w := 1) (x := 22) (by decide +kernel), rfl⟩
theorem dX11_order_132 : Dc mX11_order 132 (.iinc 2 1) 3 135 := ⟨zo_iinc (x := 1) (by decide +kernel), rfl⟩
theorem dX11_order_135 : Dc mX11_order 135 (.goto (-101)) 3 138 := ⟨zo_167 (w := 255) (x := 155) (by decide +kernel), rfl⟩
theorem dX11_order_138 : Dc mX11_order 138 (.iload_n 1) 1 139 := ⟨zo_27 (by decide +kernel), rfl⟩
theorem dX11_order_139 : Dc mX11_order 139 (.iconst 4) 1 140 := ⟨zo_7 (by decide +kernel), rfl⟩
theorem dX11_order_140 : Dc mX11_order 140 (.if_icmp .ne 13) 3 143 := ⟨zo_160 (w := 0) (x := 13) (by decide +kernel), rfl⟩
theorem dX11_order_143 : Dc mX11_order 143 (.aload_n 0) 1 144 := ⟨zo_42 (by decide +kernel), rfl⟩
theorem dX11_order_144 : Dc mX11_order 144 (.getfield 78) 3 147 := ⟨zo_180 (w := 0) (x := 78) (by decide +kernel), rfl⟩
theorem dX11_order_147 : Dc mX11_order 147 (.getfield 282) 3 150 := ⟨zo_180 (w := 1) (x := 26) (by decide +kernel), rfl⟩
theorem dX11_order_150 : Dc mX11_order 150 (.goto 11) 3 153 := ⟨zo_167 (w := 0) (x := 11) (by decide +kernel), rfl⟩
theorem dX11_order_153 : Dc mX11_order 153 (.aload_n 0) 1 154 := ⟨zo_42 (by decide +kernel), rfl⟩
theorem dX11_order_154 : Dc mX11_order 154 (.getfield 78) 3 157 := ⟨zo_180 (w := 0) (x := 78) (by decide +kernel), rfl⟩
theorem dX11_order_157 : Dc mX11_order 157 (.iload_n 1) 1 158 := ⟨zo_27 (by decide +kernel), rfl⟩
theorem dX11_order_158 : Dc mX11_order 158 (.invokevirtual 285) 3 161 := ⟨zo_182 (w := 1) (x := 29) (by decide +kernel), rfl⟩
theorem dX11_order_161 : Dc mX11_order 161 (.ireturn) 1 162 := ⟨zo_172 (by decide +kernel), rfl⟩
theorem dX11_noted_0 : Dc mX11_noted 0 (.iconst 1) 1 1 := ⟨zo_4 (by decide +kernel), rfl⟩
theorem dX11_noted_1 : Dc mX11_noted 1 (.aload_n 0) 1 2 := ⟨zo_42 (by decide +kernel), rfl⟩
theorem dX11_noted_2 : Dc mX11_noted 2 (.getfield 20) 3 5 := ⟨zo_180 (w := 0) (x := 20) (by decide +kernel), rfl⟩
theorem dX11_noted_5 : Dc mX11_noted 5 (.getfield 112) 3 8 := ⟨zo_180 (w := 0) (x := 112) (by decide +kernel), rfl⟩
theorem dX11_noted_8 : Dc mX11_noted 8 (.getfield 256) 3 11 := ⟨zo_180 (w := 1) (x := 0) (by decide +kernel), rfl⟩
theorem dX11_noted_11 : Dc mX11_noted 11 (.ishl) 1 12 := ⟨zo_120 (by decide +kernel), rfl⟩
theorem dX11_noted_12 : Dc mX11_noted 12 (.iconst 1) 1 13 := ⟨zo_4 (by decide +kernel), rfl⟩
theorem dX11_noted_13 : Dc mX11_noted 13 (.isub) 1 14 := ⟨zo_100 (by decide +kernel), rfl⟩
theorem dX11_noted_14 : Dc mX11_noted 14 (.istore_n 1) 1 15 := ⟨zo_60 (by decide +kernel), rfl⟩
theorem dX11_noted_15 : Dc mX11_noted 15 (.bipush (-2)) 2 17 := ⟨zo_16 (w := 254) (by decide +kernel), rfl⟩
theorem dX11_noted_17 : Dc mX11_noted 17 (.istore_n 2) 1 18 := ⟨zo_61 (by decide +kernel), rfl⟩
theorem dX11_noted_18 : Dc mX11_noted 18 (.iconst 0) 1 19 := ⟨zo_3 (by decide +kernel), rfl⟩
theorem dX11_noted_19 : Dc mX11_noted 19 (.istore_n 3) 1 20 := ⟨zo_62 (by decide +kernel), rfl⟩
theorem dX11_noted_20 : Dc mX11_noted 20 (.iload_n 3) 1 21 := ⟨zo_29 (by decide +kernel), rfl⟩
theorem dX11_noted_21 : Dc mX11_noted 21 (.iconst 1) 1 22 := ⟨zo_4 (by decide +kernel), rfl⟩
theorem dX11_noted_22 : Dc mX11_noted 22 (.aload_n 0) 1 23 := ⟨zo_42 (by decide +kernel), rfl⟩
theorem dX11_noted_23 : Dc mX11_noted 23 (.getfield 20) 3 26 := ⟨zo_180 (w := 0) (x := 20) (by decide +kernel), rfl⟩
theorem dX11_noted_26 : Dc mX11_noted 26 (.getfield 128) 3 29 := ⟨zo_180 (w := 0) (x := 128) (by decide +kernel), rfl⟩
theorem dX11_noted_29 : Dc mX11_noted 29 (.getfield 256) 3 32 := ⟨zo_180 (w := 1) (x := 0) (by decide +kernel), rfl⟩
theorem dX11_noted_32 : Dc mX11_noted 32 (.ishl) 1 33 := ⟨zo_120 (by decide +kernel), rfl⟩
theorem dX11_noted_33 : Dc mX11_noted 33 (.if_icmp .ge 49) 3 36 := ⟨zo_162 (w := 0) (x := 49) (by decide +kernel), rfl⟩
theorem dX11_noted_36 : Dc mX11_noted 36 (.iload_n 2) 1 37 := ⟨zo_28 (by decide +kernel), rfl⟩
theorem dX11_noted_37 : Dc mX11_noted 37 (.ifCond .lt 14) 3 40 := ⟨zo_155 (w := 0) (x := 14) (by decide +kernel), rfl⟩
theorem dX11_noted_40 : Dc mX11_noted 40 (.iload_n 3) 1 41 := ⟨zo_29 (by decide +kernel), rfl⟩
theorem dX11_noted_41 : Dc mX11_noted 41 (.invokestatic 288) 3 44 := ⟨zo_184 (w := 1) (x := 32) (by decide +kernel), rfl⟩
theorem dX11_noted_44 : Dc mX11_noted 44 (.iload_n 2) 1 45 := ⟨zo_28 (by decide +kernel), rfl⟩
theorem dX11_noted_45 : Dc mX11_noted 45 (.invokestatic 288) 3 48 := ⟨zo_184 (w := 1) (x := 32) (by decide +kernel), rfl⟩
theorem dX11_noted_48 : Dc mX11_noted 48 (.if_icmp .ge 7) 3 51 := ⟨zo_162 (w := 0) (x := 7) (by decide +kernel), rfl⟩
theorem dX11_noted_51 : Dc mX11_noted 51 (.iconst 1) 1 52 := ⟨zo_4 (by decide +kernel), rfl⟩
theorem dX11_noted_52 : Dc mX11_noted 52 (.goto 4) 3 55 := ⟨zo_167 (w := 0) (x := 4) (by decide +kernel), rfl⟩
theorem dX11_noted_55 : Dc mX11_noted 55 (.iconst 0) 1 56 := ⟨zo_3 (by decide +kernel), rfl⟩
theorem dX11_noted_56 : Dc mX11_noted 56 (.istore 4) 2 58 := ⟨zo_54 (by decide +kernel), rfl⟩
theorem dX11_noted_58 : Dc mX11_noted 58 (.iload 4) 2 60 := ⟨zo_21 (by decide +kernel), rfl⟩
theorem dX11_noted_60 : Dc mX11_noted 60 (.ifCond .eq 16) 3 63 := ⟨zo_153 (w := 0) (x := 16) (by decide +kernel), rfl⟩
theorem dX11_noted_63 : Dc mX11_noted 63 (.aload_n 0) 1 64 := ⟨zo_42 (by decide +kernel), rfl⟩
theorem dX11_noted_64 : Dc mX11_noted 64 (.iload_n 3) 1 65 := ⟨zo_29 (by decide +kernel), rfl⟩
theorem dX11_noted_65 : Dc mX11_noted 65 (.invokevirtual 293) 3 68 := ⟨zo_182 (w := 1) (x := 37) (by decide +kernel), rfl⟩
theorem dX11_noted_68 : Dc mX11_noted 68 (.iload_n 1) 1 69 := ⟨zo_27 (by decide +kernel), rfl⟩
theorem dX11_noted_69 : Dc mX11_noted 69 (.iand) 1 70 := ⟨zo_126 (by decide +kernel), rfl⟩
theorem dX11_noted_70 : Dc mX11_noted 70 (.iload_n 1) 1 71 := ⟨zo_27 (by decide +kernel), rfl⟩
theorem dX11_noted_71 : Dc mX11_noted 71 (.if_icmp .ne 5) 3 74 := ⟨zo_160 (w := 0) (x := 5) (by decide +kernel), rfl⟩
theorem dX11_noted_74 : Dc mX11_noted 74 (.iload_n 3) 1 75 := ⟨zo_29 (by decide +kernel), rfl⟩
theorem dX11_noted_75 : Dc mX11_noted 75 (.istore_n 2) 1 76 := ⟨zo_61 (by decide +kernel), rfl⟩
theorem dX11_noted_76 : Dc mX11_noted 76 (.iinc 3 1) 3 79 := ⟨zo_iinc (x := 1) (by decide +kernel), rfl⟩
theorem dX11_noted_79 : Dc mX11_noted 79 (.goto (-59)) 3 82 := ⟨zo_167 (w := 255) (x := 197) (by decide +kernel), rfl⟩
theorem dX11_noted_82 : Dc mX11_noted 82 (.iload_n 2) 1 83 := ⟨zo_28 (by decide +kernel), rfl⟩
theorem dX11_noted_83 : Dc mX11_noted 83 (.ireturn) 1 84 := ⟨zo_172 (by decide +kernel), rfl⟩
theorem dX11_notedBy_0 : Dc mX11_notedBy 0 (.iconst 0) 1 1 := ⟨zo_3 (by decide +kernel), rfl⟩
theorem dX11_notedBy_1 : Dc mX11_notedBy 1 (.istore_n 2) 1 2 := ⟨zo_61 (by decide +kernel), rfl⟩
theorem dX11_notedBy_2 : Dc mX11_notedBy 2 (.iconst 0) 1 3 := ⟨zo_3 (by decide +kernel), rfl⟩
theorem dX11_notedBy_3 : Dc mX11_notedBy 3 (.istore_n 3) 1 4 := ⟨zo_62 (by decide +kernel), rfl⟩
theorem dX11_notedBy_4 : Dc mX11_notedBy 4 (.iload_n 3) 1 5 := ⟨zo_29 (by decide +kernel), rfl⟩
theorem dX11_notedBy_5 : Dc mX11_notedBy 5 (.aload_n 0) 1 6 := ⟨zo_42 (by decide +kernel), rfl⟩
theorem dX11_notedBy_6 : Dc mX11_notedBy 6 (.getfield 20) 3 9 := ⟨zo_180 (w := 0) (x := 20) (by decide +kernel), rfl⟩
theorem dX11_notedBy_9 : Dc mX11_notedBy 9 (.getfield 128) 3 12 := ⟨zo_180 (w := 0) (x := 128) (by decide +kernel), rfl⟩
theorem dX11_notedBy_12 : Dc mX11_notedBy 12 (.getfield 256) 3 15 := ⟨zo_180 (w := 1) (x := 0) (by decide +kernel), rfl⟩
theorem dX11_notedBy_15 : Dc mX11_notedBy 15 (.if_icmp .ge 34) 3 18 := ⟨zo_162 (w := 0) (x := 34) (by decide +kernel), rfl⟩
theorem dX11_notedBy_18 : Dc mX11_notedBy 18 (.iload_n 1) 1 19 := ⟨zo_27 (by decide +kernel), rfl⟩
theorem dX11_notedBy_19 : Dc mX11_notedBy 19 (.iload_n 3) 1 20 := ⟨zo_29 (by decide +kernel), rfl⟩
theorem dX11_notedBy_20 : Dc mX11_notedBy 20 (.ishr) 1 21 := ⟨zo_122 (by decide +kernel), rfl⟩
theorem dX11_notedBy_21 : Dc mX11_notedBy 21 (.iconst 1) 1 22 := ⟨zo_4 (by decide +kernel), rfl⟩
theorem dX11_notedBy_22 : Dc mX11_notedBy 22 (.iand) 1 23 := ⟨zo_126 (by decide +kernel), rfl⟩
theorem dX11_notedBy_23 : Dc mX11_notedBy 23 (.ifCond .eq 20) 3 26 := ⟨zo_153 (w := 0) (x := 20) (by decide +kernel), rfl⟩
theorem dX11_notedBy_26 : Dc mX11_notedBy 26 (.iload_n 2) 1 27 := ⟨zo_28 (by decide +kernel), rfl⟩
theorem dX11_notedBy_27 : Dc mX11_notedBy 27 (.aload_n 0) 1 28 := ⟨zo_42 (by decide +kernel), rfl⟩
theorem dX11_notedBy_28 : Dc mX11_notedBy 28 (.getfield 20) 3 31 := ⟨zo_180 (w := 0) (x := 20) (by decide +kernel), rfl⟩
theorem dX11_notedBy_31 : Dc mX11_notedBy 31 (.getfield 128) 3 34 := ⟨zo_180 (w := 0) (x := 128) (by decide +kernel), rfl⟩
theorem dX11_notedBy_34 : Dc mX11_notedBy 34 (.getfield 142) 3 37 := ⟨zo_180 (w := 0) (x := 142) (by decide +kernel), rfl⟩
theorem dX11_notedBy_37 : Dc mX11_notedBy 37 (.iload_n 3) 1 38 := ⟨zo_29 (by decide +kernel), rfl⟩
theorem dX11_notedBy_38 : Dc mX11_notedBy 38 (.invokestatic 146) 3 41 := ⟨zo_184 (w := 0) (x := 146) (by decide +kernel), rfl⟩
theorem dX11_notedBy_41 : Dc mX11_notedBy 41 (.ior) 1 42 := ⟨zo_128 (by decide +kernel), rfl⟩
theorem dX11_notedBy_42 : Dc mX11_notedBy 42 (.istore_n 2) 1 43 := ⟨zo_61 (by decide +kernel), rfl⟩
theorem dX11_notedBy_43 : Dc mX11_notedBy 43 (.iinc 3 1) 3 46 := ⟨zo_iinc (x := 1) (by decide +kernel), rfl⟩
theorem dX11_notedBy_46 : Dc mX11_notedBy 46 (.goto (-42)) 3 49 := ⟨zo_167 (w := 255) (x := 214) (by decide +kernel), rfl⟩
theorem dX11_notedBy_49 : Dc mX11_notedBy 49 (.iload_n 2) 1 50 := ⟨zo_28 (by decide +kernel), rfl⟩
theorem dX11_notedBy_50 : Dc mX11_notedBy 50 (.ireturn) 1 51 := ⟨zo_172 (by decide +kernel), rfl⟩
theorem dX11_bribe_0 : Dc mX11_bribe 0 (.aload_n 0) 1 1 := ⟨zo_42 (by decide +kernel), rfl⟩
theorem dX11_bribe_1 : Dc mX11_bribe 1 (.getfield 20) 3 4 := ⟨zo_180 (w := 0) (x := 20) (by decide +kernel), rfl⟩
theorem dX11_bribe_4 : Dc mX11_bribe 4 (.getfield 125) 3 7 := ⟨zo_180 (w := 0) (x := 125) (by decide +kernel), rfl⟩
theorem dX11_bribe_7 : Dc mX11_bribe 7 (.iload_n 1) 1 8 := ⟨zo_27 (by decide +kernel), rfl⟩
theorem dX11_bribe_8 : Dc mX11_bribe 8 (.invokevirtual 131) 3 11 := ⟨zo_182 (w := 0) (x := 131) (by decide +kernel), rfl⟩
theorem dX11_bribe_11 : Dc mX11_bribe 11 (.ifCond .ne 5) 3 14 := ⟨zo_154 (w := 0) (x := 5) (by decide +kernel), rfl⟩
theorem dX11_bribe_14 : Dc mX11_bribe 14 (.iconst (-1)) 1 15 := ⟨zo_2 (by decide +kernel), rfl⟩
theorem dX11_bribe_15 : Dc mX11_bribe 15 (.ireturn) 1 16 := ⟨zo_172 (by decide +kernel), rfl⟩
theorem dX11_bribe_16 : Dc mX11_bribe 16 (.aload_n 0) 1 17 := ⟨zo_42 (by decide +kernel), rfl⟩
theorem dX11_bribe_17 : Dc mX11_bribe 17 (.getfield 20) 3 20 := ⟨zo_180 (w := 0) (x := 20) (by decide +kernel), rfl⟩
theorem dX11_bribe_20 : Dc mX11_bribe 20 (.getfield 125) 3 23 := ⟨zo_180 (w := 0) (x := 125) (by decide +kernel), rfl⟩
theorem dX11_bribe_23 : Dc mX11_bribe 23 (.getfield 142) 3 26 := ⟨zo_180 (w := 0) (x := 142) (by decide +kernel), rfl⟩
theorem dX11_bribe_26 : Dc mX11_bribe 26 (.iload_n 1) 1 27 := ⟨zo_27 (by decide +kernel), rfl⟩
theorem dX11_bribe_27 : Dc mX11_bribe 27 (.invokestatic 146) 3 30 := ⟨zo_184 (w := 0) (x := 146) (by decide +kernel), rfl⟩
theorem dX11_bribe_30 : Dc mX11_bribe 30 (.istore_n 2) 1 31 := ⟨zo_61 (by decide +kernel), rfl⟩
theorem dX11_bribe_31 : Dc mX11_bribe 31 (.aload_n 0) 1 32 := ⟨zo_42 (by decide +kernel), rfl⟩
theorem dX11_bribe_32 : Dc mX11_bribe 32 (.getfield 20) 3 35 := ⟨zo_180 (w := 0) (x := 20) (by decide +kernel), rfl⟩
theorem dX11_bribe_35 : Dc mX11_bribe 35 (.getfield 125) 3 38 := ⟨zo_180 (w := 0) (x := 125) (by decide +kernel), rfl⟩
theorem dX11_bribe_38 : Dc mX11_bribe 38 (.getfield 150) 3 41 := ⟨zo_180 (w := 0) (x := 150) (by decide +kernel), rfl⟩
theorem dX11_bribe_41 : Dc mX11_bribe 41 (.iload_n 1) 1 42 := ⟨zo_27 (by decide +kernel), rfl⟩
theorem dX11_bribe_42 : Dc mX11_bribe 42 (.invokestatic 146) 3 45 := ⟨zo_184 (w := 0) (x := 146) (by decide +kernel), rfl⟩
theorem dX11_bribe_45 : Dc mX11_bribe 45 (.istore_n 3) 1 46 := ⟨zo_62 (by decide +kernel), rfl⟩
theorem dX11_bribe_46 : Dc mX11_bribe 46 (.iconst 0) 1 47 := ⟨zo_3 (by decide +kernel), rfl⟩
theorem dX11_bribe_47 : Dc mX11_bribe 47 (.istore 4) 2 49 := ⟨zo_54 (by decide +kernel), rfl⟩
theorem dX11_bribe_49 : Dc mX11_bribe 49 (.iload 4) 2 51 := ⟨zo_21 (by decide +kernel), rfl⟩
theorem dX11_bribe_51 : Dc mX11_bribe 51 (.bipush 20) 2 53 := ⟨zo_16 (w := 20) (by decide +kernel), rfl⟩
theorem dX11_bribe_53 : Dc mX11_bribe 53 (.if_icmp .gt 66) 3 56 := ⟨zo_163 (w := 0) (x := 66) (by decide +kernel), rfl⟩
theorem dX11_bribe_56 : Dc mX11_bribe 56 (.aload_n 0) 1 57 := ⟨zo_42 (by decide +kernel), rfl⟩
theorem dX11_bribe_57 : Dc mX11_bribe 57 (.getfield 50) 3 60 := ⟨zo_180 (w := 0) (x := 50) (by decide +kernel), rfl⟩
theorem dX11_bribe_60 : Dc mX11_bribe 60 (.aload_n 0) 1 61 := ⟨zo_42 (by decide +kernel), rfl⟩
theorem dX11_bribe_61 : Dc mX11_bribe 61 (.getfield 34) 3 64 := ⟨zo_180 (w := 0) (x := 34) (by decide +kernel), rfl⟩
theorem dX11_bribe_64 : Dc mX11_bribe 64 (.invokevirtual 189) 3 67 := ⟨zo_182 (w := 0) (x := 189) (by decide +kernel), rfl⟩
theorem dX11_bribe_67 : Dc mX11_bribe 67 (.aload_n 0) 1 68 := ⟨zo_42 (by decide +kernel), rfl⟩
theorem dX11_bribe_68 : Dc mX11_bribe 68 (.getfield 50) 3 71 := ⟨zo_180 (w := 0) (x := 50) (by decide +kernel), rfl⟩
theorem dX11_bribe_71 : Dc mX11_bribe 71 (.getfield 232) 3 74 := ⟨zo_180 (w := 0) (x := 232) (by decide +kernel), rfl⟩
theorem dX11_bribe_74 : Dc mX11_bribe 74 (.getfield 183) 3 77 := ⟨zo_180 (w := 0) (x := 183) (by decide +kernel), rfl⟩
theorem dX11_bribe_77 : Dc mX11_bribe 77 (.iload_n 1) 1 78 := ⟨zo_27 (by decide +kernel), rfl⟩
theorem dX11_bribe_78 : Dc mX11_bribe 78 (.iload 4) 2 80 := ⟨zo_21 (by decide +kernel), rfl⟩
theorem dX11_bribe_80 : Dc mX11_bribe 80 (.invokestatic 215) 3 83 := ⟨zo_184 (w := 0) (x := 215) (by decide +kernel), rfl⟩
theorem dX11_bribe_83 : Dc mX11_bribe 83 (.aload_n 0) 1 84 := ⟨zo_42 (by decide +kernel), rfl⟩
theorem dX11_bribe_84 : Dc mX11_bribe 84 (.getfield 50) 3 87 := ⟨zo_180 (w := 0) (x := 50) (by decide +kernel), rfl⟩
theorem dX11_bribe_87 : Dc mX11_bribe 87 (.bipush 20) 2 89 := ⟨zo_16 (w := 20) (by decide +kernel), rfl⟩
theorem dX11_bribe_89 : Dc mX11_bribe 89 (.invokevirtual 229) 3 92 := ⟨zo_182 (w := 0) (x := 229) (by decide +kernel), rfl⟩
theorem dX11_bribe_92 : Dc mX11_bribe 92 (.aload_n 0) 1 93 := ⟨zo_42 (by decide +kernel), rfl⟩
theorem dX11_bribe_93 : Dc mX11_bribe 93 (.getfield 50) 3 96 := ⟨zo_180 (w := 0) (x := 50) (by decide +kernel), rfl⟩
theorem dX11_bribe_96 : Dc mX11_bribe 96 (.getfield 232) 3 99 := ⟨zo_180 (w := 0) (x := 232) (by decide +kernel), rfl⟩
theorem dX11_bribe_99 : Dc mX11_bribe 99 (.getfield 153) 3 102 := ⟨zo_180 (w := 0) (x := 153) (by decide +kernel), rfl⟩
theorem dX11_bribe_102 : Dc mX11_bribe 102 (.iload_n 2) 1 103 := ⟨zo_28 (by decide +kernel), rfl⟩
theorem dX11_bribe_103 : Dc mX11_bribe 103 (.invokestatic 146) 3 106 := ⟨zo_184 (w := 0) (x := 146) (by decide +kernel), rfl⟩
theorem dX11_bribe_106 : Dc mX11_bribe 106 (.iload_n 3) 1 107 := ⟨zo_29 (by decide +kernel), rfl⟩
theorem dX11_bribe_107 : Dc mX11_bribe 107 (.if_icmp .ne 6) 3 110 := ⟨zo_160 (w := 0) (x := 6) (by decide +kernel), rfl⟩
theorem dX11_bribe_110 : Dc mX11_bribe 110 (.iload 4) 2 112 := ⟨zo_21 (by decide +kernel), rfl⟩
theorem dX11_bribe_112 : Dc mX11_bribe 112 (.ireturn) 1 113 := ⟨zo_172 (by decide +kernel), rfl⟩
theorem dX11_bribe_113 : Dc mX11_bribe 113 (.iinc 4 1) 3 116 := ⟨zo_iinc (x := 1) (by decide +kernel), rfl⟩
theorem dX11_bribe_116 : Dc mX11_bribe 116 (.goto (-67)) 3 119 := ⟨zo_167 (w := 255) (x := 189) (by decide +kernel), rfl⟩
theorem dX11_bribe_119 : Dc mX11_bribe 119 (.bipush (-2)) 2 121 := ⟨zo_16 (w := 254) (by decide +kernel), rfl⟩
theorem dX11_bribe_121 : Dc mX11_bribe 121 (.ireturn) 1 122 := ⟨zo_172 (by decide +kernel), rfl⟩
theorem dX11_rests_0 : Dc mX11_rests 0 (.aload_n 0) 1 1 := ⟨zo_42 (by decide +kernel), rfl⟩
theorem dX11_rests_1 : Dc mX11_rests 1 (.iload_n 1) 1 2 := ⟨zo_27 (by decide +kernel), rfl⟩
theorem dX11_rests_2 : Dc mX11_rests 2 (.iload_n 2) 1 3 := ⟨zo_28 (by decide +kernel), rfl⟩
theorem dX11_rests_3 : Dc mX11_rests 3 (.invokevirtual 296) 3 6 := ⟨zo_182 (w := 1) (x := 40) (by decide +kernel), rfl⟩
theorem dX11_rests_6 : Dc mX11_rests 6 (.ifCond .ne 5) 3 9 := ⟨zo_154 (w := 0) (x := 5) (by decide +kernel), rfl⟩
theorem dX11_rests_9 : Dc mX11_rests 9 (.iconst (-1)) 1 10 := ⟨zo_2 (by decide +kernel), rfl⟩
theorem dX11_rests_10 : Dc mX11_rests 10 (.ireturn) 1 11 := ⟨zo_172 (by decide +kernel), rfl⟩
theorem dX11_rests_11 : Dc mX11_rests 11 (.iconst 0) 1 12 := ⟨zo_3 (by decide +kernel), rfl⟩
theorem dX11_rests_12 : Dc mX11_rests 12 (.istore_n 3) 1 13 := ⟨zo_62 (by decide +kernel), rfl⟩
theorem dX11_rests_13 : Dc mX11_rests 13 (.iconst 0) 1 14 := ⟨zo_3 (by decide +kernel), rfl⟩
theorem dX11_rests_14 : Dc mX11_rests 14 (.istore 4) 2 16 := ⟨zo_54 (by decide +kernel), rfl⟩
theorem dX11_rests_16 : Dc mX11_rests 16 (.iload 4) 2 18 := ⟨zo_21 (by decide +kernel), rfl⟩
theorem dX11_rests_18 : Dc mX11_rests 18 (.bipush 25) 2 20 := ⟨zo_16 (w := 25) (by decide +kernel), rfl⟩
theorem dX11_rests_20 : Dc mX11_rests 20 (.if_icmp .ge 23) 3 23 := ⟨zo_162 (w := 0) (x := 23) (by decide +kernel), rfl⟩
theorem dX11_rests_23 : Dc mX11_rests 23 (.aload_n 0) 1 24 := ⟨zo_42 (by decide +kernel), rfl⟩
theorem dX11_rests_24 : Dc mX11_rests 24 (.iload_n 1) 1 25 := ⟨zo_27 (by decide +kernel), rfl⟩
theorem dX11_rests_25 : Dc mX11_rests 25 (.iload_n 2) 1 26 := ⟨zo_28 (by decide +kernel), rfl⟩
theorem dX11_rests_26 : Dc mX11_rests 26 (.iload 4) 2 28 := ⟨zo_21 (by decide +kernel), rfl⟩
theorem dX11_rests_28 : Dc mX11_rests 28 (.invokevirtual 299) 3 31 := ⟨zo_182 (w := 1) (x := 43) (by decide +kernel), rfl⟩
theorem dX11_rests_31 : Dc mX11_rests 31 (.ifCond .eq 6) 3 34 := ⟨zo_153 (w := 0) (x := 6) (by decide +kernel), rfl⟩
theorem dX11_rests_34 : Dc mX11_rests 34 (.iinc 3 1) 3 37 := ⟨zo_iinc (x := 1) (by decide +kernel), rfl⟩
theorem dX11_rests_37 : Dc mX11_rests 37 (.iinc 4 1) 3 40 := ⟨zo_iinc (x := 1) (by decide +kernel), rfl⟩
theorem dX11_rests_40 : Dc mX11_rests 40 (.goto (-24)) 3 43 := ⟨zo_167 (w := 255) (x := 232) (by decide +kernel), rfl⟩
theorem dX11_rests_43 : Dc mX11_rests 43 (.iload_n 3) 1 44 := ⟨zo_29 (by decide +kernel), rfl⟩
theorem dX11_rests_44 : Dc mX11_rests 44 (.ireturn) 1 45 := ⟨zo_172 (by decide +kernel), rfl⟩
theorem dX11_rest_0 : Dc mX11_rest 0 (.aload_n 0) 1 1 := ⟨zo_42 (by decide +kernel), rfl⟩
theorem dX11_rest_1 : Dc mX11_rest 1 (.iload_n 1) 1 2 := ⟨zo_27 (by decide +kernel), rfl⟩
theorem dX11_rest_2 : Dc mX11_rest 2 (.iload_n 2) 1 3 := ⟨zo_28 (by decide +kernel), rfl⟩
theorem dX11_rest_3 : Dc mX11_rest 3 (.invokevirtual 296) 3 6 := ⟨zo_182 (w := 1) (x := 40) (by decide +kernel), rfl⟩
theorem dX11_rest_6 : Dc mX11_rest 6 (.ifCond .eq 7) 3 9 := ⟨zo_153 (w := 0) (x := 7) (by decide +kernel), rfl⟩
theorem dX11_rest_9 : Dc mX11_rest 9 (.iload_n 3) 1 10 := ⟨zo_29 (by decide +kernel), rfl⟩
theorem dX11_rest_10 : Dc mX11_rest 10 (.ifCond .ge 5) 3 13 := ⟨zo_156 (w := 0) (x := 5) (by decide +kernel), rfl⟩
theorem dX11_rest_13 : Dc mX11_rest 13 (.iconst (-1)) 1 14 := ⟨zo_2 (by decide +kernel), rfl⟩
theorem dX11_rest_14 : Dc mX11_rest 14 (.ireturn) 1 15 := ⟨zo_172 (by decide +kernel), rfl⟩
theorem dX11_rest_15 : Dc mX11_rest 15 (.iconst 0) 1 16 := ⟨zo_3 (by decide +kernel), rfl⟩
theorem dX11_rest_16 : Dc mX11_rest 16 (.istore 4) 2 18 := ⟨zo_54 (by decide +kernel), rfl⟩
theorem dX11_rest_18 : Dc mX11_rest 18 (.iconst 0) 1 19 := ⟨zo_3 (by decide +kernel), rfl⟩
theorem dX11_rest_19 : Dc mX11_rest 19 (.istore 5) 2 21 := ⟨zo_54 (by decide +kernel), rfl⟩
theorem dX11_rest_21 : Dc mX11_rest 21 (.iload 5) 2 23 := ⟨zo_21 (by decide +kernel), rfl⟩
theorem dX11_rest_23 : Dc mX11_rest 23 (.bipush 25) 2 25 := ⟨zo_16 (w := 25) (by decide +kernel), rfl⟩
theorem dX11_rest_25 : Dc mX11_rest 25 (.if_icmp .ge 42) 3 28 := ⟨zo_162 (w := 0) (x := 42) (by decide +kernel), rfl⟩
theorem dX11_rest_28 : Dc mX11_rest 28 (.aload_n 0) 1 29 := ⟨zo_42 (by decide +kernel), rfl⟩
theorem dX11_rest_29 : Dc mX11_rest 29 (.iload_n 1) 1 30 := ⟨zo_27 (by decide +kernel), rfl⟩
theorem dX11_rest_30 : Dc mX11_rest 30 (.iload_n 2) 1 31 := ⟨zo_28 (by decide +kernel), rfl⟩
theorem dX11_rest_31 : Dc mX11_rest 31 (.iload 5) 2 33 := ⟨zo_21 (by decide +kernel), rfl⟩
theorem dX11_rest_33 : Dc mX11_rest 33 (.invokevirtual 299) 3 36 := ⟨zo_182 (w := 1) (x := 43) (by decide +kernel), rfl⟩
theorem dX11_rest_36 : Dc mX11_rest 36 (.ifCond .eq 25) 3 39 := ⟨zo_153 (w := 0) (x := 25) (by decide +kernel), rfl⟩
theorem dX11_rest_39 : Dc mX11_rest 39 (.iload 4) 2 41 := ⟨zo_21 (by decide +kernel), rfl⟩
theorem dX11_rest_41 : Dc mX11_rest 41 (.iload_n 3) 1 42 := ⟨zo_29 (by decide +kernel), rfl⟩
theorem dX11_rest_42 : Dc mX11_rest 42 (.if_icmp .ne 16) 3 45 := ⟨zo_160 (w := 0) (x := 16) (by decide +kernel), rfl⟩
theorem dX11_rest_45 : Dc mX11_rest 45 (.iload 5) 2 47 := ⟨zo_21 (by decide +kernel), rfl⟩
theorem dX11_rest_47 : Dc mX11_rest 47 (.iconst 5) 1 48 := ⟨zo_8 (by decide +kernel), rfl⟩
theorem dX11_rest_48 : Dc mX11_rest 48 (.idiv) 1 49 := ⟨zo_108 (by decide +kernel), rfl⟩
theorem dX11_rest_49 : Dc mX11_rest 49 (.bipush 10) 2 51 := ⟨zo_16 (w := 10) (by decide +kernel), rfl⟩
theorem dX11_rest_51 : Dc mX11_rest 51 (.imul) 1 52 := ⟨zo_104 (by decide +kernel), rfl⟩
theorem dX11_rest_52 : Dc mX11_rest 52 (.iload 5) 2 54 := ⟨zo_21 (by decide +kernel), rfl⟩
theorem dX11_rest_54 : Dc mX11_rest 54 (.iconst 5) 1 55 := ⟨zo_8 (by decide +kernel), rfl⟩
theorem dX11_rest_55 : Dc mX11_rest 55 (.irem) 1 56 := ⟨zo_112 (by decide +kernel), rfl⟩
theorem dX11_rest_56 : Dc mX11_rest 56 (.iadd) 1 57 := ⟨zo_96 (by decide +kernel), rfl⟩
theorem dX11_rest_57 : Dc mX11_rest 57 (.ireturn) 1 58 := ⟨zo_172 (by decide +kernel), rfl⟩
theorem dX11_rest_58 : Dc mX11_rest 58 (.iinc 4 1) 3 61 := ⟨zo_iinc (x := 1) (by decide +kernel), rfl⟩
theorem dX11_rest_61 : Dc mX11_rest 61 (.iinc 5 1) 3 64 := ⟨zo_iinc (x := 1) (by decide +kernel), rfl⟩
theorem dX11_rest_64 : Dc mX11_rest 64 (.goto (-43)) 3 67 := ⟨zo_167 (w := 255) (x := 213) (by decide +kernel), rfl⟩
theorem dX11_rest_67 : Dc mX11_rest 67 (.bipush (-2)) 2 69 := ⟨zo_16 (w := 254) (by decide +kernel), rfl⟩
theorem dX11_rest_69 : Dc mX11_rest 69 (.ireturn) 1 70 := ⟨zo_172 (by decide +kernel), rfl⟩
theorem dX11_canBid_0 : Dc mX11_canBid 0 (.aload_n 0) 1 1 := ⟨zo_42 (by decide +kernel), rfl⟩
theorem dX11_canBid_1 : Dc mX11_canBid 1 (.getfield 20) 3 4 := ⟨zo_180 (w := 0) (x := 20) (by decide +kernel), rfl⟩
theorem dX11_canBid_4 : Dc mX11_canBid 4 (.getfield 125) 3 7 := ⟨zo_180 (w := 0) (x := 125) (by decide +kernel), rfl⟩
theorem dX11_canBid_7 : Dc mX11_canBid 7 (.iload_n 1) 1 8 := ⟨zo_27 (by decide +kernel), rfl⟩
theorem dX11_canBid_8 : Dc mX11_canBid 8 (.invokevirtual 131) 3 11 := ⟨zo_182 (w := 0) (x := 131) (by decide +kernel), rfl⟩
theorem dX11_canBid_11 : Dc mX11_canBid 11 (.ifCond .eq 26) 3 14 := ⟨zo_153 (w := 0) (x := 26) (by decide +kernel), rfl⟩
theorem dX11_canBid_14 : Dc mX11_canBid 14 (.aload_n 0) 1 15 := ⟨zo_42 (by decide +kernel), rfl⟩
theorem dX11_canBid_15 : Dc mX11_canBid 15 (.getfield 20) 3 18 := ⟨zo_180 (w := 0) (x := 20) (by decide +kernel), rfl⟩
theorem dX11_canBid_18 : Dc mX11_canBid 18 (.getfield 125) 3 21 := ⟨zo_180 (w := 0) (x := 125) (by decide +kernel), rfl⟩
theorem dX11_canBid_21 : Dc mX11_canBid 21 (.iload_n 2) 1 22 := ⟨zo_28 (by decide +kernel), rfl⟩
theorem dX11_canBid_22 : Dc mX11_canBid 22 (.invokevirtual 131) 3 25 := ⟨zo_182 (w := 0) (x := 131) (by decide +kernel), rfl⟩
theorem dX11_canBid_25 : Dc mX11_canBid 25 (.ifCond .eq 12) 3 28 := ⟨zo_153 (w := 0) (x := 12) (by decide +kernel), rfl⟩
theorem dX11_canBid_28 : Dc mX11_canBid 28 (.iload_n 1) 1 29 := ⟨zo_27 (by decide +kernel), rfl⟩
theorem dX11_canBid_29 : Dc mX11_canBid 29 (.iload_n 2) 1 30 := ⟨zo_28 (by decide +kernel), rfl⟩
theorem dX11_canBid_30 : Dc mX11_canBid 30 (.if_icmp .eq 7) 3 33 := ⟨zo_159 (w := 0) (x := 7) (by decide +kernel), rfl⟩
theorem dX11_canBid_33 : Dc mX11_canBid 33 (.iconst 1) 1 34 := ⟨zo_4 (by decide +kernel), rfl⟩
theorem dX11_canBid_34 : Dc mX11_canBid 34 (.goto 4) 3 37 := ⟨zo_167 (w := 0) (x := 4) (by decide +kernel), rfl⟩
theorem dX11_canBid_37 : Dc mX11_canBid 37 (.iconst 0) 1 38 := ⟨zo_3 (by decide +kernel), rfl⟩
theorem dX11_canBid_38 : Dc mX11_canBid 38 (.ireturn) 1 39 := ⟨zo_172 (by decide +kernel), rfl⟩
theorem dX11_isRest_0 : Dc mX11_isRest 0 (.iload_n 3) 1 1 := ⟨zo_29 (by decide +kernel), rfl⟩
theorem dX11_isRest_1 : Dc mX11_isRest 1 (.iconst 5) 1 2 := ⟨zo_8 (by decide +kernel), rfl⟩
theorem dX11_isRest_2 : Dc mX11_isRest 2 (.idiv) 1 3 := ⟨zo_108 (by decide +kernel), rfl⟩
theorem dX11_isRest_3 : Dc mX11_isRest 3 (.istore 4) 2 5 := ⟨zo_54 (by decide +kernel), rfl⟩
theorem dX11_isRest_5 : Dc mX11_isRest 5 (.iload_n 3) 1 6 := ⟨zo_29 (by decide +kernel), rfl⟩
theorem dX11_isRest_6 : Dc mX11_isRest 6 (.iconst 5) 1 7 := ⟨zo_8 (by decide +kernel), rfl⟩
theorem dX11_isRest_7 : Dc mX11_isRest 7 (.irem) 1 8 := ⟨zo_112 (by decide +kernel), rfl⟩
theorem dX11_isRest_8 : Dc mX11_isRest 8 (.istore 5) 2 10 := ⟨zo_54 (by decide +kernel), rfl⟩
theorem dX11_isRest_10 : Dc mX11_isRest 10 (.iconst 4) 1 11 := ⟨zo_7 (by decide +kernel), rfl⟩
theorem dX11_isRest_11 : Dc mX11_isRest 11 (.aload_n 0) 1 12 := ⟨zo_42 (by decide +kernel), rfl⟩
theorem dX11_isRest_12 : Dc mX11_isRest 12 (.getfield 34) 3 15 := ⟨zo_180 (w := 0) (x := 34) (by decide +kernel), rfl⟩
theorem dX11_isRest_15 : Dc mX11_isRest 15 (.getfield 183) 3 18 := ⟨zo_180 (w := 0) (x := 183) (by decide +kernel), rfl⟩
theorem dX11_isRest_18 : Dc mX11_isRest 18 (.iload_n 1) 1 19 := ⟨zo_27 (by decide +kernel), rfl⟩
theorem dX11_isRest_19 : Dc mX11_isRest 19 (.invokestatic 146) 3 22 := ⟨zo_184 (w := 0) (x := 146) (by decide +kernel), rfl⟩
theorem dX11_isRest_22 : Dc mX11_isRest 22 (.invokestatic 303) 3 25 := ⟨zo_184 (w := 1) (x := 47) (by decide +kernel), rfl⟩
theorem dX11_isRest_25 : Dc mX11_isRest 25 (.istore 6) 2 27 := ⟨zo_54 (by decide +kernel), rfl⟩
theorem dX11_isRest_27 : Dc mX11_isRest 27 (.iconst 4) 1 28 := ⟨zo_7 (by decide +kernel), rfl⟩
theorem dX11_isRest_28 : Dc mX11_isRest 28 (.aload_n 0) 1 29 := ⟨zo_42 (by decide +kernel), rfl⟩
theorem dX11_isRest_29 : Dc mX11_isRest 29 (.getfield 34) 3 32 := ⟨zo_180 (w := 0) (x := 34) (by decide +kernel), rfl⟩
theorem dX11_isRest_32 : Dc mX11_isRest 32 (.getfield 183) 3 35 := ⟨zo_180 (w := 0) (x := 183) (by decide +kernel), rfl⟩
theorem dX11_isRest_35 : Dc mX11_isRest 35 (.iload_n 2) 1 36 := ⟨zo_28 (by decide +kernel), rfl⟩
theorem dX11_isRest_36 : Dc mX11_isRest 36 (.invokestatic 146) 3 39 := ⟨zo_184 (w := 0) (x := 146) (by decide +kernel), rfl⟩
theorem dX11_isRest_39 : Dc mX11_isRest 39 (.invokestatic 303) 3 42 := ⟨zo_184 (w := 1) (x := 47) (by decide +kernel), rfl⟩
theorem dX11_isRest_42 : Dc mX11_isRest 42 (.istore 7) 2 44 := ⟨zo_54 (by decide +kernel), rfl⟩
theorem dX11_isRest_44 : Dc mX11_isRest 44 (.iload 4) 2 46 := ⟨zo_21 (by decide +kernel), rfl⟩
theorem dX11_isRest_46 : Dc mX11_isRest 46 (.iload 6) 2 48 := ⟨zo_21 (by decide +kernel), rfl⟩
theorem dX11_isRest_48 : Dc mX11_isRest 48 (.if_icmp .gt 38) 3 51 := ⟨zo_163 (w := 0) (x := 38) (by decide +kernel), rfl⟩
theorem dX11_isRest_51 : Dc mX11_isRest 51 (.iload 5) 2 53 := ⟨zo_21 (by decide +kernel), rfl⟩
theorem dX11_isRest_53 : Dc mX11_isRest 53 (.iload 7) 2 55 := ⟨zo_21 (by decide +kernel), rfl⟩
theorem dX11_isRest_55 : Dc mX11_isRest 55 (.if_icmp .gt 31) 3 58 := ⟨zo_163 (w := 0) (x := 31) (by decide +kernel), rfl⟩
theorem dX11_isRest_58 : Dc mX11_isRest 58 (.iload 4) 2 60 := ⟨zo_21 (by decide +kernel), rfl⟩
theorem dX11_isRest_60 : Dc mX11_isRest 60 (.iload 5) 2 62 := ⟨zo_21 (by decide +kernel), rfl⟩
theorem dX11_isRest_62 : Dc mX11_isRest 62 (.iload 6) 2 64 := ⟨zo_21 (by decide +kernel), rfl⟩
theorem dX11_isRest_64 : Dc mX11_isRest 64 (.invokestatic 308) 3 67 := ⟨zo_184 (w := 1) (x := 52) (by decide +kernel), rfl⟩
theorem dX11_isRest_67 : Dc mX11_isRest 67 (.ifCond .eq 19) 3 70 := ⟨zo_153 (w := 0) (x := 19) (by decide +kernel), rfl⟩
theorem dX11_isRest_70 : Dc mX11_isRest 70 (.iload 5) 2 72 := ⟨zo_21 (by decide +kernel), rfl⟩
theorem dX11_isRest_72 : Dc mX11_isRest 72 (.iload 4) 2 74 := ⟨zo_21 (by decide +kernel), rfl⟩
theorem dX11_isRest_74 : Dc mX11_isRest 74 (.iload 7) 2 76 := ⟨zo_21 (by decide +kernel), rfl⟩
theorem dX11_isRest_76 : Dc mX11_isRest 76 (.invokestatic 308) 3 79 := ⟨zo_184 (w := 1) (x := 52) (by decide +kernel), rfl⟩
theorem dX11_isRest_79 : Dc mX11_isRest 79 (.ifCond .eq 7) 3 82 := ⟨zo_153 (w := 0) (x := 7) (by decide +kernel), rfl⟩
theorem dX11_isRest_82 : Dc mX11_isRest 82 (.iconst 1) 1 83 := ⟨zo_4 (by decide +kernel), rfl⟩
theorem dX11_isRest_83 : Dc mX11_isRest 83 (.goto 4) 3 86 := ⟨zo_167 (w := 0) (x := 4) (by decide +kernel), rfl⟩
theorem dX11_isRest_86 : Dc mX11_isRest 86 (.iconst 0) 1 87 := ⟨zo_3 (by decide +kernel), rfl⟩
theorem dX11_isRest_87 : Dc mX11_isRest 87 (.ireturn) 1 88 := ⟨zo_172 (by decide +kernel), rfl⟩
theorem dX11_isBest_0 : Dc mX11_isBest 0 (.iload_n 0) 1 1 := ⟨zo_26 (by decide +kernel), rfl⟩
theorem dX11_isBest_1 : Dc mX11_isBest 1 (.iload_n 1) 1 2 := ⟨zo_27 (by decide +kernel), rfl⟩
theorem dX11_isBest_2 : Dc mX11_isBest 2 (.invokestatic 311) 3 5 := ⟨zo_184 (w := 1) (x := 55) (by decide +kernel), rfl⟩
theorem dX11_isBest_5 : Dc mX11_isBest 5 (.istore_n 3) 1 6 := ⟨zo_62 (by decide +kernel), rfl⟩
theorem dX11_isBest_6 : Dc mX11_isBest 6 (.iconst 0) 1 7 := ⟨zo_3 (by decide +kernel), rfl⟩
theorem dX11_isBest_7 : Dc mX11_isBest 7 (.istore 4) 2 9 := ⟨zo_54 (by decide +kernel), rfl⟩
theorem dX11_isBest_9 : Dc mX11_isBest 9 (.iload 4) 2 11 := ⟨zo_21 (by decide +kernel), rfl⟩
theorem dX11_isBest_11 : Dc mX11_isBest 11 (.iconst 4) 1 12 := ⟨zo_7 (by decide +kernel), rfl⟩
theorem dX11_isBest_12 : Dc mX11_isBest 12 (.if_icmp .gt 27) 3 15 := ⟨zo_163 (w := 0) (x := 27) (by decide +kernel), rfl⟩
theorem dX11_isBest_15 : Dc mX11_isBest 15 (.iload 4) 2 17 := ⟨zo_21 (by decide +kernel), rfl⟩
theorem dX11_isBest_17 : Dc mX11_isBest 17 (.iload_n 2) 1 18 := ⟨zo_28 (by decide +kernel), rfl⟩
theorem dX11_isBest_18 : Dc mX11_isBest 18 (.if_icmp .gt 15) 3 21 := ⟨zo_163 (w := 0) (x := 15) (by decide +kernel), rfl⟩
theorem dX11_isBest_21 : Dc mX11_isBest 21 (.iload 4) 2 23 := ⟨zo_21 (by decide +kernel), rfl⟩
theorem dX11_isBest_23 : Dc mX11_isBest 23 (.iload_n 1) 1 24 := ⟨zo_27 (by decide +kernel), rfl⟩
theorem dX11_isBest_24 : Dc mX11_isBest 24 (.invokestatic 311) 3 27 := ⟨zo_184 (w := 1) (x := 55) (by decide +kernel), rfl⟩
theorem dX11_isBest_27 : Dc mX11_isBest 27 (.iload_n 3) 1 28 := ⟨zo_29 (by decide +kernel), rfl⟩
theorem dX11_isBest_28 : Dc mX11_isBest 28 (.if_icmp .le 5) 3 31 := ⟨zo_164 (w := 0) (x := 5) (by decide +kernel), rfl⟩
theorem dX11_isBest_31 : Dc mX11_isBest 31 (.iconst 0) 1 32 := ⟨zo_3 (by decide +kernel), rfl⟩
theorem dX11_isBest_32 : Dc mX11_isBest 32 (.ireturn) 1 33 := ⟨zo_172 (by decide +kernel), rfl⟩
theorem dX11_isBest_33 : Dc mX11_isBest 33 (.iinc 4 1) 3 36 := ⟨zo_iinc (x := 1) (by decide +kernel), rfl⟩
theorem dX11_isBest_36 : Dc mX11_isBest 36 (.goto (-27)) 3 39 := ⟨zo_167 (w := 255) (x := 229) (by decide +kernel), rfl⟩
theorem dX11_isBest_39 : Dc mX11_isBest 39 (.iconst 1) 1 40 := ⟨zo_4 (by decide +kernel), rfl⟩
theorem dX11_isBest_40 : Dc mX11_isBest 40 (.ireturn) 1 41 := ⟨zo_172 (by decide +kernel), rfl⟩
theorem dX11_gain_0 : Dc mX11_gain 0 (.iload_n 0) 1 1 := ⟨zo_26 (by decide +kernel), rfl⟩
theorem dX11_gain_1 : Dc mX11_gain 1 (.iload_n 1) 1 2 := ⟨zo_27 (by decide +kernel), rfl⟩
theorem dX11_gain_2 : Dc mX11_gain 2 (.if_icmp .ne 7) 3 5 := ⟨zo_160 (w := 0) (x := 7) (by decide +kernel), rfl⟩
theorem dX11_gain_5 : Dc mX11_gain 5 (.iconst 4) 1 6 := ⟨zo_7 (by decide +kernel), rfl⟩
theorem dX11_gain_6 : Dc mX11_gain 6 (.iload_n 0) 1 7 := ⟨zo_26 (by decide +kernel), rfl⟩
theorem dX11_gain_7 : Dc mX11_gain 7 (.isub) 1 8 := ⟨zo_100 (by decide +kernel), rfl⟩
theorem dX11_gain_8 : Dc mX11_gain 8 (.ireturn) 1 9 := ⟨zo_172 (by decide +kernel), rfl⟩
theorem dX11_gain_9 : Dc mX11_gain 9 (.iload_n 0) 1 10 := ⟨zo_26 (by decide +kernel), rfl⟩
theorem dX11_gain_10 : Dc mX11_gain 10 (.iload_n 1) 1 11 := ⟨zo_27 (by decide +kernel), rfl⟩
theorem dX11_gain_11 : Dc mX11_gain 11 (.if_icmp .le 10) 3 14 := ⟨zo_164 (w := 0) (x := 10) (by decide +kernel), rfl⟩
theorem dX11_gain_14 : Dc mX11_gain 14 (.bipush 10) 2 16 := ⟨zo_16 (w := 10) (by decide +kernel), rfl⟩
theorem dX11_gain_16 : Dc mX11_gain 16 (.iload_n 0) 1 17 := ⟨zo_26 (by decide +kernel), rfl⟩
theorem dX11_gain_17 : Dc mX11_gain 17 (.isub) 1 18 := ⟨zo_100 (by decide +kernel), rfl⟩
theorem dX11_gain_18 : Dc mX11_gain 18 (.goto 5) 3 21 := ⟨zo_167 (w := 0) (x := 5) (by decide +kernel), rfl⟩
theorem dX11_gain_21 : Dc mX11_gain 21 (.iload_n 0) 1 22 := ⟨zo_26 (by decide +kernel), rfl⟩
theorem dX11_gain_22 : Dc mX11_gain 22 (.ineg) 1 23 := ⟨zo_116 (by decide +kernel), rfl⟩
theorem dX11_gain_23 : Dc mX11_gain 23 (.ireturn) 1 24 := ⟨zo_172 (by decide +kernel), rfl⟩
theorem dX11_there_0 : Dc mX11_there 0 (.iload_n 1) 1 1 := ⟨zo_27 (by decide +kernel), rfl⟩
theorem dX11_there_1 : Dc mX11_there 1 (.ifCond .lt 18) 3 4 := ⟨zo_155 (w := 0) (x := 18) (by decide +kernel), rfl⟩
theorem dX11_there_4 : Dc mX11_there 4 (.iload_n 1) 1 5 := ⟨zo_27 (by decide +kernel), rfl⟩
theorem dX11_there_5 : Dc mX11_there 5 (.bipush 6) 2 7 := ⟨zo_16 (w := 6) (by decide +kernel), rfl⟩
theorem dX11_there_7 : Dc mX11_there 7 (.if_icmp .gt 12) 3 10 := ⟨zo_163 (w := 0) (x := 12) (by decide +kernel), rfl⟩
theorem dX11_there_10 : Dc mX11_there 10 (.iload_n 2) 1 11 := ⟨zo_28 (by decide +kernel), rfl⟩
theorem dX11_there_11 : Dc mX11_there 11 (.ifCond .lt 8) 3 14 := ⟨zo_155 (w := 0) (x := 8) (by decide +kernel), rfl⟩
theorem dX11_there_14 : Dc mX11_there 14 (.iload_n 2) 1 15 := ⟨zo_28 (by decide +kernel), rfl⟩
theorem dX11_there_15 : Dc mX11_there 15 (.iconst 1) 1 16 := ⟨zo_4 (by decide +kernel), rfl⟩
theorem dX11_there_16 : Dc mX11_there 16 (.if_icmp .le 7) 3 19 := ⟨zo_164 (w := 0) (x := 7) (by decide +kernel), rfl⟩
theorem dX11_there_19 : Dc mX11_there 19 (.ldc2_w 314) 3 22 := ⟨zo_20 (w := 1) (x := 58) (by decide +kernel), rfl⟩
theorem dX11_there_22 : Dc mX11_there 22 (.lreturn) 1 23 := ⟨zo_173 (by decide +kernel), rfl⟩
theorem dX11_there_23 : Dc mX11_there 23 (.bipush 100) 2 25 := ⟨zo_16 (w := 100) (by decide +kernel), rfl⟩
theorem dX11_there_25 : Dc mX11_there 25 (.aload_n 0) 1 26 := ⟨zo_42 (by decide +kernel), rfl⟩
theorem dX11_there_26 : Dc mX11_there 26 (.getfield 20) 3 29 := ⟨zo_180 (w := 0) (x := 20) (by decide +kernel), rfl⟩
theorem dX11_there_29 : Dc mX11_there 29 (.getfield 316) 3 32 := ⟨zo_180 (w := 1) (x := 60) (by decide +kernel), rfl⟩
theorem dX11_there_32 : Dc mX11_there 32 (.isub) 1 33 := ⟨zo_100 (by decide +kernel), rfl⟩
theorem dX11_there_33 : Dc mX11_there 33 (.istore_n 3) 1 34 := ⟨zo_62 (by decide +kernel), rfl⟩
theorem dX11_there_34 : Dc mX11_there 34 (.iload_n 3) 1 35 := ⟨zo_29 (by decide +kernel), rfl⟩
theorem dX11_there_35 : Dc mX11_there 35 (.bipush 100) 2 37 := ⟨zo_16 (w := 100) (by decide +kernel), rfl⟩
theorem dX11_there_37 : Dc mX11_there 37 (.invokestatic 319) 3 40 := ⟨zo_184 (w := 1) (x := 63) (by decide +kernel), rfl⟩
theorem dX11_there_40 : Dc mX11_there 40 (.istore 4) 2 42 := ⟨zo_54 (by decide +kernel), rfl⟩
theorem dX11_there_42 : Dc mX11_there 42 (.lconst 1) 1 43 := ⟨zo_10 (by decide +kernel), rfl⟩
theorem dX11_there_43 : Dc mX11_there 43 (.lstore 5) 2 45 := ⟨zo_55 (by decide +kernel), rfl⟩
theorem dX11_there_45 : Dc mX11_there 45 (.lconst 1) 1 46 := ⟨zo_10 (by decide +kernel), rfl⟩
theorem dX11_there_46 : Dc mX11_there 46 (.lstore 7) 2 48 := ⟨zo_55 (by decide +kernel), rfl⟩
theorem dX11_there_48 : Dc mX11_there 48 (.iconst 0) 1 49 := ⟨zo_3 (by decide +kernel), rfl⟩
theorem dX11_there_49 : Dc mX11_there 49 (.istore 9) 2 51 := ⟨zo_54 (by decide +kernel), rfl⟩
theorem dX11_there_51 : Dc mX11_there 51 (.iload 9) 2 53 := ⟨zo_21 (by decide +kernel), rfl⟩
theorem dX11_there_53 : Dc mX11_there 53 (.iload_n 1) 1 54 := ⟨zo_27 (by decide +kernel), rfl⟩
theorem dX11_there_54 : Dc mX11_there 54 (.if_icmp .ge 48) 3 57 := ⟨zo_162 (w := 0) (x := 48) (by decide +kernel), rfl⟩
theorem dX11_there_57 : Dc mX11_there 57 (.lload 5) 2 59 := ⟨zo_22 (by decide +kernel), rfl⟩
theorem dX11_there_59 : Dc mX11_there 59 (.iload 4) 2 61 := ⟨zo_21 (by decide +kernel), rfl⟩
theorem dX11_there_61 : Dc mX11_there 61 (.ifCond .ne 7) 3 64 := ⟨zo_154 (w := 0) (x := 7) (by decide +kernel), rfl⟩
theorem dX11_there_64 : Dc mX11_there 64 (.lconst 0) 1 65 := ⟨zo_9 (by decide +kernel), rfl⟩
theorem dX11_there_65 : Dc mX11_there 65 (.goto 8) 3 68 := ⟨zo_167 (w := 0) (x := 8) (by decide +kernel), rfl⟩
theorem dX11_there_68 : Dc mX11_there 68 (.iload_n 3) 1 69 := ⟨zo_29 (by decide +kernel), rfl⟩
theorem dX11_there_69 : Dc mX11_there 69 (.iload 4) 2 71 := ⟨zo_21 (by decide +kernel), rfl⟩
theorem dX11_there_71 : Dc mX11_there 71 (.idiv) 1 72 := ⟨zo_108 (by decide +kernel), rfl⟩
theorem dX11_there_72 : Dc mX11_there 72 (.i2l) 1 73 := ⟨zo_133 (by decide +kernel), rfl⟩
theorem dX11_there_73 : Dc mX11_there 73 (.lmul) 1 74 := ⟨zo_105 (by decide +kernel), rfl⟩
theorem dX11_there_74 : Dc mX11_there 74 (.lstore 5) 2 76 := ⟨zo_55 (by decide +kernel), rfl⟩
theorem dX11_there_76 : Dc mX11_there 76 (.lload 7) 2 78 := ⟨zo_22 (by decide +kernel), rfl⟩
theorem dX11_there_78 : Dc mX11_there 78 (.iload 4) 2 80 := ⟨zo_21 (by decide +kernel), rfl⟩
theorem dX11_there_80 : Dc mX11_there 80 (.ifCond .ne 7) 3 83 := ⟨zo_154 (w := 0) (x := 7) (by decide +kernel), rfl⟩
theorem dX11_there_83 : Dc mX11_there 83 (.lconst 1) 1 84 := ⟨zo_10 (by decide +kernel), rfl⟩
theorem dX11_there_84 : Dc mX11_there 84 (.goto 9) 3 87 := ⟨zo_167 (w := 0) (x := 9) (by decide +kernel), rfl⟩
theorem dX11_there_87 : Dc mX11_there 87 (.bipush 100) 2 89 := ⟨zo_16 (w := 100) (by decide +kernel), rfl⟩
theorem dX11_there_89 : Dc mX11_there 89 (.iload 4) 2 91 := ⟨zo_21 (by decide +kernel), rfl⟩
theorem dX11_there_91 : Dc mX11_there 91 (.idiv) 1 92 := ⟨zo_108 (by decide +kernel), rfl⟩
theorem dX11_there_92 : Dc mX11_there 92 (.i2l) 1 93 := ⟨zo_133 (by decide +kernel), rfl⟩
theorem dX11_there_93 : Dc mX11_there 93 (.lmul) 1 94 := ⟨zo_105 (by decide +kernel), rfl⟩
theorem dX11_there_94 : Dc mX11_there 94 (.lstore 7) 2 96 := ⟨zo_55 (by decide +kernel), rfl⟩
theorem dX11_there_96 : Dc mX11_there 96 (.iinc 9 1) 3 99 := ⟨zo_iinc (x := 1) (by decide +kernel), rfl⟩
theorem dX11_there_99 : Dc mX11_there 99 (.goto (-48)) 3 102 := ⟨zo_167 (w := 255) (x := 208) (by decide +kernel), rfl⟩
theorem dX11_there_102 : Dc mX11_there 102 (.iload_n 2) 1 103 := ⟨zo_28 (by decide +kernel), rfl⟩
theorem dX11_there_103 : Dc mX11_there 103 (.ifCond .ne 8) 3 106 := ⟨zo_154 (w := 0) (x := 8) (by decide +kernel), rfl⟩
theorem dX11_there_106 : Dc mX11_there 106 (.lload 5) 2 108 := ⟨zo_22 (by decide +kernel), rfl⟩
theorem dX11_there_108 : Dc mX11_there 108 (.goto 5) 3 111 := ⟨zo_167 (w := 0) (x := 5) (by decide +kernel), rfl⟩
theorem dX11_there_111 : Dc mX11_there 111 (.lload 7) 2 113 := ⟨zo_22 (by decide +kernel), rfl⟩
theorem dX11_there_113 : Dc mX11_there 113 (.lreturn) 1 114 := ⟨zo_173 (by decide +kernel), rfl⟩
theorem dX11_commonPart_0 : Dc mX11_commonPart 0 (.iconst 1) 1 1 := ⟨zo_4 (by decide +kernel), rfl⟩
theorem dX11_commonPart_1 : Dc mX11_commonPart 1 (.istore_n 2) 1 2 := ⟨zo_61 (by decide +kernel), rfl⟩
theorem dX11_commonPart_2 : Dc mX11_commonPart 2 (.iconst 1) 1 3 := ⟨zo_4 (by decide +kernel), rfl⟩
theorem dX11_commonPart_3 : Dc mX11_commonPart 3 (.istore_n 3) 1 4 := ⟨zo_62 (by decide +kernel), rfl⟩
theorem dX11_commonPart_4 : Dc mX11_commonPart 4 (.iload_n 3) 1 5 := ⟨zo_29 (by decide +kernel), rfl⟩
theorem dX11_commonPart_5 : Dc mX11_commonPart 5 (.bipush 100) 2 7 := ⟨zo_16 (w := 100) (by decide +kernel), rfl⟩
theorem dX11_commonPart_7 : Dc mX11_commonPart 7 (.if_icmp .gt 23) 3 10 := ⟨zo_163 (w := 0) (x := 23) (by decide +kernel), rfl⟩
theorem dX11_commonPart_10 : Dc mX11_commonPart 10 (.iload_n 0) 1 11 := ⟨zo_26 (by decide +kernel), rfl⟩
theorem dX11_commonPart_11 : Dc mX11_commonPart 11 (.iload_n 3) 1 12 := ⟨zo_29 (by decide +kernel), rfl⟩
theorem dX11_commonPart_12 : Dc mX11_commonPart 12 (.irem) 1 13 := ⟨zo_112 (by decide +kernel), rfl⟩
theorem dX11_commonPart_13 : Dc mX11_commonPart 13 (.ifCond .ne 11) 3 16 := ⟨zo_154 (w := 0) (x := 11) (by decide +kernel), rfl⟩
theorem dX11_commonPart_16 : Dc mX11_commonPart 16 (.iload_n 1) 1 17 := ⟨zo_27 (by decide +kernel), rfl⟩
theorem dX11_commonPart_17 : Dc mX11_commonPart 17 (.iload_n 3) 1 18 := ⟨zo_29 (by decide +kernel), rfl⟩
theorem dX11_commonPart_18 : Dc mX11_commonPart 18 (.irem) 1 19 := ⟨zo_112 (by decide +kernel), rfl⟩
theorem dX11_commonPart_19 : Dc mX11_commonPart 19 (.ifCond .ne 5) 3 22 := ⟨zo_154 (w := 0) (x := 5) (by decide +kernel), rfl⟩
theorem dX11_commonPart_22 : Dc mX11_commonPart 22 (.iload_n 3) 1 23 := ⟨zo_29 (by decide +kernel), rfl⟩
theorem dX11_commonPart_23 : Dc mX11_commonPart 23 (.istore_n 2) 1 24 := ⟨zo_61 (by decide +kernel), rfl⟩
theorem dX11_commonPart_24 : Dc mX11_commonPart 24 (.iinc 3 1) 3 27 := ⟨zo_iinc (x := 1) (by decide +kernel), rfl⟩
theorem dX11_commonPart_27 : Dc mX11_commonPart 27 (.goto (-23)) 3 30 := ⟨zo_167 (w := 255) (x := 233) (by decide +kernel), rfl⟩
theorem dX11_commonPart_30 : Dc mX11_commonPart 30 (.iload_n 2) 1 31 := ⟨zo_28 (by decide +kernel), rfl⟩
theorem dX11_commonPart_31 : Dc mX11_commonPart 31 (.ireturn) 1 32 := ⟨zo_172 (by decide +kernel), rfl⟩
theorem dX11_without_0 : Dc mX11_without 0 (.iload_n 1) 1 1 := ⟨zo_27 (by decide +kernel), rfl⟩
theorem dX11_without_1 : Dc mX11_without 1 (.ifCond .lt 9) 3 4 := ⟨zo_155 (w := 0) (x := 9) (by decide +kernel), rfl⟩
theorem dX11_without_4 : Dc mX11_without 4 (.iload_n 1) 1 5 := ⟨zo_27 (by decide +kernel), rfl⟩
theorem dX11_without_5 : Dc mX11_without 5 (.bipush 99) 2 7 := ⟨zo_16 (w := 99) (by decide +kernel), rfl⟩
theorem dX11_without_7 : Dc mX11_without 7 (.if_icmp .le 5) 3 10 := ⟨zo_164 (w := 0) (x := 5) (by decide +kernel), rfl⟩
theorem dX11_without_10 : Dc mX11_without 10 (.iconst (-1)) 1 11 := ⟨zo_2 (by decide +kernel), rfl⟩
theorem dX11_without_11 : Dc mX11_without 11 (.ireturn) 1 12 := ⟨zo_172 (by decide +kernel), rfl⟩
theorem dX11_without_12 : Dc mX11_without 12 (.aload_n 0) 1 13 := ⟨zo_42 (by decide +kernel), rfl⟩
theorem dX11_without_13 : Dc mX11_without 13 (.getfield 50) 3 16 := ⟨zo_180 (w := 0) (x := 50) (by decide +kernel), rfl⟩
theorem dX11_without_16 : Dc mX11_without 16 (.aload_n 0) 1 17 := ⟨zo_42 (by decide +kernel), rfl⟩
theorem dX11_without_17 : Dc mX11_without 17 (.getfield 34) 3 20 := ⟨zo_180 (w := 0) (x := 34) (by decide +kernel), rfl⟩
theorem dX11_without_20 : Dc mX11_without 20 (.invokevirtual 189) 3 23 := ⟨zo_182 (w := 0) (x := 189) (by decide +kernel), rfl⟩
theorem dX11_without_23 : Dc mX11_without 23 (.aload_n 0) 1 24 := ⟨zo_42 (by decide +kernel), rfl⟩
theorem dX11_without_24 : Dc mX11_without 24 (.getfield 50) 3 27 := ⟨zo_180 (w := 0) (x := 50) (by decide +kernel), rfl⟩
theorem dX11_without_27 : Dc mX11_without 27 (.iconst 3) 1 28 := ⟨zo_6 (by decide +kernel), rfl⟩
theorem dX11_without_28 : Dc mX11_without 28 (.putfield 226) 3 31 := ⟨zo_181 (w := 0) (x := 226) (by decide +kernel), rfl⟩
theorem dX11_without_31 : Dc mX11_without 31 (.aload_n 0) 1 32 := ⟨zo_42 (by decide +kernel), rfl⟩
theorem dX11_without_32 : Dc mX11_without 32 (.getfield 50) 3 35 := ⟨zo_180 (w := 0) (x := 50) (by decide +kernel), rfl⟩
theorem dX11_without_35 : Dc mX11_without 35 (.iload_n 1) 1 36 := ⟨zo_27 (by decide +kernel), rfl⟩
theorem dX11_without_36 : Dc mX11_without 36 (.invokevirtual 229) 3 39 := ⟨zo_182 (w := 0) (x := 229) (by decide +kernel), rfl⟩
theorem dX11_without_39 : Dc mX11_without 39 (.aload_n 0) 1 40 := ⟨zo_42 (by decide +kernel), rfl⟩
theorem dX11_without_40 : Dc mX11_without 40 (.getfield 50) 3 43 := ⟨zo_180 (w := 0) (x := 50) (by decide +kernel), rfl⟩
theorem dX11_without_43 : Dc mX11_without 43 (.getfield 232) 3 46 := ⟨zo_180 (w := 0) (x := 232) (by decide +kernel), rfl⟩
theorem dX11_without_46 : Dc mX11_without 46 (.invokevirtual 250) 3 49 := ⟨zo_182 (w := 0) (x := 250) (by decide +kernel), rfl⟩
theorem dX11_without_49 : Dc mX11_without 49 (.aload_n 0) 1 50 := ⟨zo_42 (by decide +kernel), rfl⟩
theorem dX11_without_50 : Dc mX11_without 50 (.getfield 50) 3 53 := ⟨zo_180 (w := 0) (x := 50) (by decide +kernel), rfl⟩
theorem dX11_without_53 : Dc mX11_without 53 (.getfield 232) 3 56 := ⟨zo_180 (w := 0) (x := 232) (by decide +kernel), rfl⟩
theorem dX11_without_56 : Dc mX11_without 56 (.invokevirtual 253) 3 59 := ⟨zo_182 (w := 0) (x := 253) (by decide +kernel), rfl⟩
theorem dX11_without_59 : Dc mX11_without 59 (.iadd) 1 60 := ⟨zo_96 (by decide +kernel), rfl⟩
theorem dX11_without_60 : Dc mX11_without 60 (.ireturn) 1 61 := ⟨zo_172 (by decide +kernel), rfl⟩
theorem dX11_run_0 : Dc mX11_run 0 (.iconst 0) 1 1 := ⟨zo_3 (by decide +kernel), rfl⟩
theorem dX11_run_1 : Dc mX11_run 1 (.istore_n 1) 1 2 := ⟨zo_60 (by decide +kernel), rfl⟩
theorem dX11_run_2 : Dc mX11_run 2 (.iconst 0) 1 3 := ⟨zo_3 (by decide +kernel), rfl⟩
theorem dX11_run_3 : Dc mX11_run 3 (.istore_n 2) 1 4 := ⟨zo_61 (by decide +kernel), rfl⟩
theorem dX11_run_4 : Dc mX11_run 4 (.iconst 0) 1 5 := ⟨zo_3 (by decide +kernel), rfl⟩
theorem dX11_run_5 : Dc mX11_run 5 (.istore_n 3) 1 6 := ⟨zo_62 (by decide +kernel), rfl⟩
theorem dX11_run_6 : Dc mX11_run 6 (.iload_n 3) 1 7 := ⟨zo_29 (by decide +kernel), rfl⟩
theorem dX11_run_7 : Dc mX11_run 7 (.aload_n 0) 1 8 := ⟨zo_42 (by decide +kernel), rfl⟩
theorem dX11_run_8 : Dc mX11_run 8 (.getfield 20) 3 11 := ⟨zo_180 (w := 0) (x := 20) (by decide +kernel), rfl⟩
theorem dX11_run_11 : Dc mX11_run 11 (.getfield 122) 3 14 := ⟨zo_180 (w := 0) (x := 122) (by decide +kernel), rfl⟩
theorem dX11_run_14 : Dc mX11_run 14 (.getfield 256) 3 17 := ⟨zo_180 (w := 1) (x := 0) (by decide +kernel), rfl⟩
theorem dX11_run_17 : Dc mX11_run 17 (.if_icmp .ge 59) 3 20 := ⟨zo_162 (w := 0) (x := 59) (by decide +kernel), rfl⟩
theorem dX11_run_20 : Dc mX11_run 20 (.aload_n 0) 1 21 := ⟨zo_42 (by decide +kernel), rfl⟩
theorem dX11_run_21 : Dc mX11_run 21 (.getfield 34) 3 24 := ⟨zo_180 (w := 0) (x := 34) (by decide +kernel), rfl⟩
theorem dX11_run_24 : Dc mX11_run 24 (.getfield 171) 3 27 := ⟨zo_180 (w := 0) (x := 171) (by decide +kernel), rfl⟩
theorem dX11_run_27 : Dc mX11_run 27 (.iload_n 3) 1 28 := ⟨zo_29 (by decide +kernel), rfl⟩
theorem dX11_run_28 : Dc mX11_run 28 (.invokestatic 146) 3 31 := ⟨zo_184 (w := 0) (x := 146) (by decide +kernel), rfl⟩
theorem dX11_run_31 : Dc mX11_run 31 (.ifCond .ne 8) 3 34 := ⟨zo_154 (w := 0) (x := 8) (by decide +kernel), rfl⟩
theorem dX11_run_34 : Dc mX11_run 34 (.iconst 0) 1 35 := ⟨zo_3 (by decide +kernel), rfl⟩
theorem dX11_run_35 : Dc mX11_run 35 (.istore_n 2) 1 36 := ⟨zo_61 (by decide +kernel), rfl⟩
theorem dX11_run_36 : Dc mX11_run 36 (.goto 28) 3 39 := ⟨zo_167 (w := 0) (x := 28) (by decide +kernel), rfl⟩
theorem dX11_run_39 : Dc mX11_run 39 (.iload_n 3) 1 40 := ⟨zo_29 (by decide +kernel), rfl⟩
theorem dX11_run_40 : Dc mX11_run 40 (.ifCond .le 21) 3 43 := ⟨zo_158 (w := 0) (x := 21) (by decide +kernel), rfl⟩
theorem dX11_run_43 : Dc mX11_run 43 (.aload_n 0) 1 44 := ⟨zo_42 (by decide +kernel), rfl⟩
theorem dX11_run_44 : Dc mX11_run 44 (.getfield 34) 3 47 := ⟨zo_180 (w := 0) (x := 34) (by decide +kernel), rfl⟩
theorem dX11_run_47 : Dc mX11_run 47 (.iload_n 3) 1 48 := ⟨zo_29 (by decide +kernel), rfl⟩
theorem dX11_run_48 : Dc mX11_run 48 (.iconst 1) 1 49 := ⟨zo_4 (by decide +kernel), rfl⟩
theorem dX11_run_49 : Dc mX11_run 49 (.isub) 1 50 := ⟨zo_100 (by decide +kernel), rfl⟩
theorem dX11_run_50 : Dc mX11_run 50 (.invokevirtual 322) 3 53 := ⟨zo_182 (w := 1) (x := 66) (by decide +kernel), rfl⟩
theorem dX11_run_53 : Dc mX11_run 53 (.ifCond .le 8) 3 56 := ⟨zo_158 (w := 0) (x := 8) (by decide +kernel), rfl⟩
theorem dX11_run_56 : Dc mX11_run 56 (.iconst 1) 1 57 := ⟨zo_4 (by decide +kernel), rfl⟩
theorem dX11_run_57 : Dc mX11_run 57 (.istore_n 2) 1 58 := ⟨zo_61 (by decide +kernel), rfl⟩
theorem dX11_run_58 : Dc mX11_run 58 (.goto 6) 3 61 := ⟨zo_167 (w := 0) (x := 6) (by decide +kernel), rfl⟩
theorem dX11_run_61 : Dc mX11_run 61 (.iinc 2 1) 3 64 := ⟨zo_iinc (x := 1) (by decide +kernel), rfl⟩
theorem dX11_run_64 : Dc mX11_run 64 (.iload_n 1) 1 65 := ⟨zo_27 (by decide +kernel), rfl⟩
theorem dX11_run_65 : Dc mX11_run 65 (.iload_n 2) 1 66 := ⟨zo_28 (by decide +kernel), rfl⟩
theorem dX11_run_66 : Dc mX11_run 66 (.invokestatic 325) 3 69 := ⟨zo_184 (w := 1) (x := 69) (by decide +kernel), rfl⟩
theorem dX11_run_69 : Dc mX11_run 69 (.istore_n 1) 1 70 := ⟨zo_60 (by decide +kernel), rfl⟩
theorem dX11_run_70 : Dc mX11_run 70 (.iinc 3 1) 3 73 := ⟨zo_iinc (x := 1) (by decide +kernel), rfl⟩
theorem dX11_run_73 : Dc mX11_run 73 (.goto (-67)) 3 76 := ⟨zo_167 (w := 255) (x := 189) (by decide +kernel), rfl⟩
theorem dX11_run_76 : Dc mX11_run 76 (.iload_n 1) 1 77 := ⟨zo_27 (by decide +kernel), rfl⟩
theorem dX11_run_77 : Dc mX11_run 77 (.ireturn) 1 78 := ⟨zo_172 (by decide +kernel), rfl⟩
theorem dX11_believed_0 : Dc mX11_believed 0 (.iconst 0) 1 1 := ⟨zo_3 (by decide +kernel), rfl⟩
theorem dX11_believed_1 : Dc mX11_believed 1 (.istore_n 1) 1 2 := ⟨zo_60 (by decide +kernel), rfl⟩
theorem dX11_believed_2 : Dc mX11_believed 2 (.iconst 0) 1 3 := ⟨zo_3 (by decide +kernel), rfl⟩
theorem dX11_believed_3 : Dc mX11_believed 3 (.istore_n 2) 1 4 := ⟨zo_61 (by decide +kernel), rfl⟩
theorem dX11_believed_4 : Dc mX11_believed 4 (.iload_n 2) 1 5 := ⟨zo_28 (by decide +kernel), rfl⟩
theorem dX11_believed_5 : Dc mX11_believed 5 (.aload_n 0) 1 6 := ⟨zo_42 (by decide +kernel), rfl⟩
theorem dX11_believed_6 : Dc mX11_believed 6 (.getfield 20) 3 9 := ⟨zo_180 (w := 0) (x := 20) (by decide +kernel), rfl⟩
theorem dX11_believed_9 : Dc mX11_believed 9 (.getfield 125) 3 12 := ⟨zo_180 (w := 0) (x := 125) (by decide +kernel), rfl⟩
theorem dX11_believed_12 : Dc mX11_believed 12 (.getfield 256) 3 15 := ⟨zo_180 (w := 1) (x := 0) (by decide +kernel), rfl⟩
theorem dX11_believed_15 : Dc mX11_believed 15 (.if_icmp .ge 56) 3 18 := ⟨zo_162 (w := 0) (x := 56) (by decide +kernel), rfl⟩
theorem dX11_believed_18 : Dc mX11_believed 18 (.aload_n 0) 1 19 := ⟨zo_42 (by decide +kernel), rfl⟩
theorem dX11_believed_19 : Dc mX11_believed 19 (.getfield 34) 3 22 := ⟨zo_180 (w := 0) (x := 34) (by decide +kernel), rfl⟩
theorem dX11_believed_22 : Dc mX11_believed 22 (.getfield 153) 3 25 := ⟨zo_180 (w := 0) (x := 153) (by decide +kernel), rfl⟩
theorem dX11_believed_25 : Dc mX11_believed 25 (.aload_n 0) 1 26 := ⟨zo_42 (by decide +kernel), rfl⟩
theorem dX11_believed_26 : Dc mX11_believed 26 (.getfield 20) 3 29 := ⟨zo_180 (w := 0) (x := 20) (by decide +kernel), rfl⟩
theorem dX11_believed_29 : Dc mX11_believed 29 (.getfield 125) 3 32 := ⟨zo_180 (w := 0) (x := 125) (by decide +kernel), rfl⟩
theorem dX11_believed_32 : Dc mX11_believed 32 (.getfield 142) 3 35 := ⟨zo_180 (w := 0) (x := 142) (by decide +kernel), rfl⟩
theorem dX11_believed_35 : Dc mX11_believed 35 (.iload_n 2) 1 36 := ⟨zo_28 (by decide +kernel), rfl⟩
theorem dX11_believed_36 : Dc mX11_believed 36 (.invokestatic 146) 3 39 := ⟨zo_184 (w := 0) (x := 146) (by decide +kernel), rfl⟩
theorem dX11_believed_39 : Dc mX11_believed 39 (.invokestatic 146) 3 42 := ⟨zo_184 (w := 0) (x := 146) (by decide +kernel), rfl⟩
theorem dX11_believed_42 : Dc mX11_believed 42 (.aload_n 0) 1 43 := ⟨zo_42 (by decide +kernel), rfl⟩
theorem dX11_believed_43 : Dc mX11_believed 43 (.getfield 20) 3 46 := ⟨zo_180 (w := 0) (x := 20) (by decide +kernel), rfl⟩
theorem dX11_believed_46 : Dc mX11_believed 46 (.getfield 125) 3 49 := ⟨zo_180 (w := 0) (x := 125) (by decide +kernel), rfl⟩
theorem dX11_believed_49 : Dc mX11_believed 49 (.getfield 150) 3 52 := ⟨zo_180 (w := 0) (x := 150) (by decide +kernel), rfl⟩
theorem dX11_believed_52 : Dc mX11_believed 52 (.iload_n 2) 1 53 := ⟨zo_28 (by decide +kernel), rfl⟩
theorem dX11_believed_53 : Dc mX11_believed 53 (.invokestatic 146) 3 56 := ⟨zo_184 (w := 0) (x := 146) (by decide +kernel), rfl⟩
theorem dX11_believed_56 : Dc mX11_believed 56 (.if_icmp .ne 9) 3 59 := ⟨zo_160 (w := 0) (x := 9) (by decide +kernel), rfl⟩
theorem dX11_believed_59 : Dc mX11_believed 59 (.iload_n 1) 1 60 := ⟨zo_27 (by decide +kernel), rfl⟩
theorem dX11_believed_60 : Dc mX11_believed 60 (.iconst 1) 1 61 := ⟨zo_4 (by decide +kernel), rfl⟩
theorem dX11_believed_61 : Dc mX11_believed 61 (.iload_n 2) 1 62 := ⟨zo_28 (by decide +kernel), rfl⟩
theorem dX11_believed_62 : Dc mX11_believed 62 (.ishl) 1 63 := ⟨zo_120 (by decide +kernel), rfl⟩
theorem dX11_believed_63 : Dc mX11_believed 63 (.ior) 1 64 := ⟨zo_128 (by decide +kernel), rfl⟩
theorem dX11_believed_64 : Dc mX11_believed 64 (.istore_n 1) 1 65 := ⟨zo_60 (by decide +kernel), rfl⟩
theorem dX11_believed_65 : Dc mX11_believed 65 (.iinc 2 1) 3 68 := ⟨zo_iinc (x := 1) (by decide +kernel), rfl⟩
theorem dX11_believed_68 : Dc mX11_believed 68 (.goto (-64)) 3 71 := ⟨zo_167 (w := 255) (x := 192) (by decide +kernel), rfl⟩
theorem dX11_believed_71 : Dc mX11_believed 71 (.iload_n 1) 1 72 := ⟨zo_27 (by decide +kernel), rfl⟩
theorem dX11_believed_72 : Dc mX11_believed 72 (.ireturn) 1 73 := ⟨zo_172 (by decide +kernel), rfl⟩
theorem dX11_see_0 : Dc mX11_see 0 (.iload_n 1) 1 1 := ⟨zo_27 (by decide +kernel), rfl⟩
theorem dX11_see_1 : Dc mX11_see 1 (.iconst 1) 1 2 := ⟨zo_4 (by decide +kernel), rfl⟩
theorem dX11_see_2 : Dc mX11_see 2 (.if_icmp .lt 23) 3 5 := ⟨zo_161 (w := 0) (x := 23) (by decide +kernel), rfl⟩
theorem dX11_see_5 : Dc mX11_see 5 (.iload_n 1) 1 6 := ⟨zo_27 (by decide +kernel), rfl⟩
theorem dX11_see_6 : Dc mX11_see 6 (.bipush 40) 2 8 := ⟨zo_16 (w := 40) (by decide +kernel), rfl⟩
theorem dX11_see_8 : Dc mX11_see 8 (.if_icmp .gt 17) 3 11 := ⟨zo_163 (w := 0) (x := 17) (by decide +kernel), rfl⟩
theorem dX11_see_11 : Dc mX11_see 11 (.aload_n 0) 1 12 := ⟨zo_42 (by decide +kernel), rfl⟩
theorem dX11_see_12 : Dc mX11_see 12 (.getfield 20) 3 15 := ⟨zo_180 (w := 0) (x := 20) (by decide +kernel), rfl⟩
theorem dX11_see_15 : Dc mX11_see 15 (.getfield 112) 3 18 := ⟨zo_180 (w := 0) (x := 112) (by decide +kernel), rfl⟩
theorem dX11_see_18 : Dc mX11_see 18 (.iload_n 2) 1 19 := ⟨zo_28 (by decide +kernel), rfl⟩
theorem dX11_see_19 : Dc mX11_see 19 (.invokevirtual 131) 3 22 := ⟨zo_182 (w := 0) (x := 131) (by decide +kernel), rfl⟩
theorem dX11_see_22 : Dc mX11_see 22 (.ifCond .ne 5) 3 25 := ⟨zo_154 (w := 0) (x := 5) (by decide +kernel), rfl⟩
theorem dX11_see_25 : Dc mX11_see 25 (.iconst (-1)) 1 26 := ⟨zo_2 (by decide +kernel), rfl⟩
theorem dX11_see_26 : Dc mX11_see 26 (.ireturn) 1 27 := ⟨zo_172 (by decide +kernel), rfl⟩
theorem dX11_see_27 : Dc mX11_see 27 (.aload_n 0) 1 28 := ⟨zo_42 (by decide +kernel), rfl⟩
theorem dX11_see_28 : Dc mX11_see 28 (.getfield 57) 3 31 := ⟨zo_180 (w := 0) (x := 57) (by decide +kernel), rfl⟩
theorem dX11_see_31 : Dc mX11_see 31 (.iload_n 1) 1 32 := ⟨zo_27 (by decide +kernel), rfl⟩
theorem dX11_see_32 : Dc mX11_see 32 (.iload_n 2) 1 33 := ⟨zo_28 (by decide +kernel), rfl⟩
theorem dX11_see_33 : Dc mX11_see 33 (.iload_n 3) 1 34 := ⟨zo_29 (by decide +kernel), rfl⟩
theorem dX11_see_34 : Dc mX11_see 34 (.ifCond .eq 7) 3 37 := ⟨zo_153 (w := 0) (x := 7) (by decide +kernel), rfl⟩
theorem dX11_see_37 : Dc mX11_see 37 (.iconst 1) 1 38 := ⟨zo_4 (by decide +kernel), rfl⟩
theorem dX11_see_38 : Dc mX11_see 38 (.goto 4) 3 41 := ⟨zo_167 (w := 0) (x := 4) (by decide +kernel), rfl⟩
theorem dX11_see_41 : Dc mX11_see 41 (.iconst 0) 1 42 := ⟨zo_3 (by decide +kernel), rfl⟩
theorem dX11_see_42 : Dc mX11_see 42 (.invokevirtual 328) 3 45 := ⟨zo_182 (w := 1) (x := 72) (by decide +kernel), rfl⟩
theorem dX11_see_45 : Dc mX11_see 45 (.ireturn) 1 46 := ⟨zo_172 (by decide +kernel), rfl⟩
theorem dX11_out_0 : Dc mX11_out 0 (.iload_n 1) 1 1 := ⟨zo_27 (by decide +kernel), rfl⟩
theorem dX11_out_1 : Dc mX11_out 1 (.ifCond .lt 14) 3 4 := ⟨zo_155 (w := 0) (x := 14) (by decide +kernel), rfl⟩
theorem dX11_out_4 : Dc mX11_out 4 (.iload_n 1) 1 5 := ⟨zo_27 (by decide +kernel), rfl⟩
theorem dX11_out_5 : Dc mX11_out 5 (.aload_n 0) 1 6 := ⟨zo_42 (by decide +kernel), rfl⟩
theorem dX11_out_6 : Dc mX11_out 6 (.getfield 57) 3 9 := ⟨zo_180 (w := 0) (x := 57) (by decide +kernel), rfl⟩
theorem dX11_out_9 : Dc mX11_out 9 (.getfield 331) 3 12 := ⟨zo_180 (w := 1) (x := 75) (by decide +kernel), rfl⟩
theorem dX11_out_12 : Dc mX11_out 12 (.if_icmp .lt 7) 3 15 := ⟨zo_161 (w := 0) (x := 7) (by decide +kernel), rfl⟩
theorem dX11_out_15 : Dc mX11_out 15 (.iconst (-1)) 1 16 := ⟨zo_2 (by decide +kernel), rfl⟩
theorem dX11_out_16 : Dc mX11_out 16 (.goto 13) 3 19 := ⟨zo_167 (w := 0) (x := 13) (by decide +kernel), rfl⟩
theorem dX11_out_19 : Dc mX11_out 19 (.aload_n 0) 1 20 := ⟨zo_42 (by decide +kernel), rfl⟩
theorem dX11_out_20 : Dc mX11_out 20 (.getfield 57) 3 23 := ⟨zo_180 (w := 0) (x := 57) (by decide +kernel), rfl⟩
theorem dX11_out_23 : Dc mX11_out 23 (.iconst 0) 1 24 := ⟨zo_3 (by decide +kernel), rfl⟩
theorem dX11_out_24 : Dc mX11_out 24 (.iload_n 1) 1 25 := ⟨zo_27 (by decide +kernel), rfl⟩
theorem dX11_out_25 : Dc mX11_out 25 (.iconst 0) 1 26 := ⟨zo_3 (by decide +kernel), rfl⟩
theorem dX11_out_26 : Dc mX11_out 26 (.invokevirtual 328) 3 29 := ⟨zo_182 (w := 1) (x := 72) (by decide +kernel), rfl⟩
theorem dX11_out_29 : Dc mX11_out 29 (.ireturn) 1 30 := ⟨zo_172 (by decide +kernel), rfl⟩
theorem dX11_known_0 : Dc mX11_known 0 (.iload_n 1) 1 1 := ⟨zo_27 (by decide +kernel), rfl⟩
theorem dX11_known_1 : Dc mX11_known 1 (.iconst (-1)) 1 2 := ⟨zo_2 (by decide +kernel), rfl⟩
theorem dX11_known_2 : Dc mX11_known 2 (.if_icmp .lt 14) 3 5 := ⟨zo_161 (w := 0) (x := 14) (by decide +kernel), rfl⟩
theorem dX11_known_5 : Dc mX11_known 5 (.iload_n 1) 1 6 := ⟨zo_27 (by decide +kernel), rfl⟩
theorem dX11_known_6 : Dc mX11_known 6 (.aload_n 0) 1 7 := ⟨zo_42 (by decide +kernel), rfl⟩
theorem dX11_known_7 : Dc mX11_known 7 (.getfield 57) 3 10 := ⟨zo_180 (w := 0) (x := 57) (by decide +kernel), rfl⟩
theorem dX11_known_10 : Dc mX11_known 10 (.getfield 331) 3 13 := ⟨zo_180 (w := 1) (x := 75) (by decide +kernel), rfl⟩
theorem dX11_known_13 : Dc mX11_known 13 (.if_icmp .le 5) 3 16 := ⟨zo_164 (w := 0) (x := 5) (by decide +kernel), rfl⟩
theorem dX11_known_16 : Dc mX11_known 16 (.iconst 0) 1 17 := ⟨zo_3 (by decide +kernel), rfl⟩
theorem dX11_known_17 : Dc mX11_known 17 (.ireturn) 1 18 := ⟨zo_172 (by decide +kernel), rfl⟩
theorem dX11_known_18 : Dc mX11_known 18 (.aload_n 0) 1 19 := ⟨zo_42 (by decide +kernel), rfl⟩
theorem dX11_known_19 : Dc mX11_known 19 (.getfield 57) 3 22 := ⟨zo_180 (w := 0) (x := 57) (by decide +kernel), rfl⟩
theorem dX11_known_22 : Dc mX11_known 22 (.iload_n 1) 1 23 := ⟨zo_27 (by decide +kernel), rfl⟩
theorem dX11_known_23 : Dc mX11_known 23 (.putfield 332) 3 26 := ⟨zo_181 (w := 1) (x := 76) (by decide +kernel), rfl⟩
theorem dX11_known_26 : Dc mX11_known 26 (.iconst 1) 1 27 := ⟨zo_4 (by decide +kernel), rfl⟩
theorem dX11_known_27 : Dc mX11_known 27 (.ireturn) 1 28 := ⟨zo_172 (by decide +kernel), rfl⟩
theorem dX11_struckHow_0 : Dc mX11_struckHow 0 (.aload_n 0) 1 1 := ⟨zo_42 (by decide +kernel), rfl⟩
theorem dX11_struckHow_1 : Dc mX11_struckHow 1 (.getfield 20) 3 4 := ⟨zo_180 (w := 0) (x := 20) (by decide +kernel), rfl⟩
theorem dX11_struckHow_4 : Dc mX11_struckHow 4 (.getfield 112) 3 7 := ⟨zo_180 (w := 0) (x := 112) (by decide +kernel), rfl⟩
theorem dX11_struckHow_7 : Dc mX11_struckHow 7 (.iload_n 1) 1 8 := ⟨zo_27 (by decide +kernel), rfl⟩
theorem dX11_struckHow_8 : Dc mX11_struckHow 8 (.invokevirtual 131) 3 11 := ⟨zo_182 (w := 0) (x := 131) (by decide +kernel), rfl⟩
theorem dX11_struckHow_11 : Dc mX11_struckHow 11 (.ifCond .ne 5) 3 14 := ⟨zo_154 (w := 0) (x := 5) (by decide +kernel), rfl⟩
theorem dX11_struckHow_14 : Dc mX11_struckHow 14 (.iconst (-1)) 1 15 := ⟨zo_2 (by decide +kernel), rfl⟩
theorem dX11_struckHow_15 : Dc mX11_struckHow 15 (.ireturn) 1 16 := ⟨zo_172 (by decide +kernel), rfl⟩
theorem dX11_struckHow_16 : Dc mX11_struckHow 16 (.aload_n 0) 1 17 := ⟨zo_42 (by decide +kernel), rfl⟩
theorem dX11_struckHow_17 : Dc mX11_struckHow 17 (.getfield 57) 3 20 := ⟨zo_180 (w := 0) (x := 57) (by decide +kernel), rfl⟩
theorem dX11_struckHow_20 : Dc mX11_struckHow 20 (.invokevirtual 335) 3 23 := ⟨zo_182 (w := 1) (x := 79) (by decide +kernel), rfl⟩
theorem dX11_struckHow_23 : Dc mX11_struckHow 23 (.istore_n 2) 1 24 := ⟨zo_61 (by decide +kernel), rfl⟩
theorem dX11_struckHow_24 : Dc mX11_struckHow 24 (.aload_n 0) 1 25 := ⟨zo_42 (by decide +kernel), rfl⟩
theorem dX11_struckHow_25 : Dc mX11_struckHow 25 (.getfield 57) 3 28 := ⟨zo_180 (w := 0) (x := 57) (by decide +kernel), rfl⟩
theorem dX11_struckHow_28 : Dc mX11_struckHow 28 (.iload_n 2) 1 29 := ⟨zo_28 (by decide +kernel), rfl⟩
theorem dX11_struckHow_29 : Dc mX11_struckHow 29 (.invokevirtual 338) 3 32 := ⟨zo_182 (w := 1) (x := 82) (by decide +kernel), rfl⟩
theorem dX11_struckHow_32 : Dc mX11_struckHow 32 (.istore_n 3) 1 33 := ⟨zo_62 (by decide +kernel), rfl⟩
theorem dX11_struckHow_33 : Dc mX11_struckHow 33 (.iconst 0) 1 34 := ⟨zo_3 (by decide +kernel), rfl⟩
theorem dX11_struckHow_34 : Dc mX11_struckHow 34 (.istore 4) 2 36 := ⟨zo_54 (by decide +kernel), rfl⟩
theorem dX11_struckHow_36 : Dc mX11_struckHow 36 (.iconst 0) 1 37 := ⟨zo_3 (by decide +kernel), rfl⟩
theorem dX11_struckHow_37 : Dc mX11_struckHow 37 (.istore 5) 2 39 := ⟨zo_54 (by decide +kernel), rfl⟩
theorem dX11_struckHow_39 : Dc mX11_struckHow 39 (.iload 5) 2 41 := ⟨zo_21 (by decide +kernel), rfl⟩
theorem dX11_struckHow_41 : Dc mX11_struckHow 41 (.bipush 10) 2 43 := ⟨zo_16 (w := 10) (by decide +kernel), rfl⟩
theorem dX11_struckHow_43 : Dc mX11_struckHow 43 (.if_icmp .ge 121) 3 46 := ⟨zo_162 (w := 0) (x := 121) (by decide +kernel), rfl⟩
theorem dX11_struckHow_46 : Dc mX11_struckHow 46 (.iconst 1) 1 47 := ⟨zo_4 (by decide +kernel), rfl⟩
theorem dX11_struckHow_47 : Dc mX11_struckHow 47 (.istore 6) 2 49 := ⟨zo_54 (by decide +kernel), rfl⟩
theorem dX11_struckHow_49 : Dc mX11_struckHow 49 (.aload_n 0) 1 50 := ⟨zo_42 (by decide +kernel), rfl⟩
theorem dX11_struckHow_50 : Dc mX11_struckHow 50 (.getfield 50) 3 53 := ⟨zo_180 (w := 0) (x := 50) (by decide +kernel), rfl⟩
theorem dX11_struckHow_53 : Dc mX11_struckHow 53 (.aload_n 0) 1 54 := ⟨zo_42 (by decide +kernel), rfl⟩
theorem dX11_struckHow_54 : Dc mX11_struckHow 54 (.getfield 34) 3 57 := ⟨zo_180 (w := 0) (x := 34) (by decide +kernel), rfl⟩
theorem dX11_struckHow_57 : Dc mX11_struckHow 57 (.invokevirtual 189) 3 60 := ⟨zo_182 (w := 0) (x := 189) (by decide +kernel), rfl⟩
theorem dX11_struckHow_60 : Dc mX11_struckHow 60 (.aload_n 0) 1 61 := ⟨zo_42 (by decide +kernel), rfl⟩
theorem dX11_struckHow_61 : Dc mX11_struckHow 61 (.getfield 50) 3 64 := ⟨zo_180 (w := 0) (x := 50) (by decide +kernel), rfl⟩
theorem dX11_struckHow_64 : Dc mX11_struckHow 64 (.getfield 232) 3 67 := ⟨zo_180 (w := 0) (x := 232) (by decide +kernel), rfl⟩
theorem dX11_struckHow_67 : Dc mX11_struckHow 67 (.aload_n 0) 1 68 := ⟨zo_42 (by decide +kernel), rfl⟩
theorem dX11_struckHow_68 : Dc mX11_struckHow 68 (.getfield 20) 3 71 := ⟨zo_180 (w := 0) (x := 20) (by decide +kernel), rfl⟩
theorem dX11_struckHow_71 : Dc mX11_struckHow 71 (.invokevirtual 82) 3 74 := ⟨zo_182 (w := 0) (x := 82) (by decide +kernel), rfl⟩
theorem dX11_struckHow_74 : Dc mX11_struckHow 74 (.aload_n 0) 1 75 := ⟨zo_42 (by decide +kernel), rfl⟩
theorem dX11_struckHow_75 : Dc mX11_struckHow 75 (.getfield 50) 3 78 := ⟨zo_180 (w := 0) (x := 50) (by decide +kernel), rfl⟩
theorem dX11_struckHow_78 : Dc mX11_struckHow 78 (.getfield 341) 3 81 := ⟨zo_180 (w := 1) (x := 85) (by decide +kernel), rfl⟩
theorem dX11_struckHow_81 : Dc mX11_struckHow 81 (.iload_n 1) 1 82 := ⟨zo_27 (by decide +kernel), rfl⟩
theorem dX11_struckHow_82 : Dc mX11_struckHow 82 (.iload 5) 2 84 := ⟨zo_21 (by decide +kernel), rfl⟩
theorem dX11_struckHow_84 : Dc mX11_struckHow 84 (.bipush 10) 2 86 := ⟨zo_16 (w := 10) (by decide +kernel), rfl⟩
theorem dX11_struckHow_86 : Dc mX11_struckHow 86 (.imul) 1 87 := ⟨zo_104 (by decide +kernel), rfl⟩
theorem dX11_struckHow_87 : Dc mX11_struckHow 87 (.invokestatic 215) 3 90 := ⟨zo_184 (w := 0) (x := 215) (by decide +kernel), rfl⟩
theorem dX11_struckHow_90 : Dc mX11_struckHow 90 (.iconst 1) 1 91 := ⟨zo_4 (by decide +kernel), rfl⟩
theorem dX11_struckHow_91 : Dc mX11_struckHow 91 (.istore 7) 2 93 := ⟨zo_54 (by decide +kernel), rfl⟩
theorem dX11_struckHow_93 : Dc mX11_struckHow 93 (.iload 7) 2 95 := ⟨zo_21 (by decide +kernel), rfl⟩
theorem dX11_struckHow_95 : Dc mX11_struckHow 95 (.iload_n 3) 1 96 := ⟨zo_29 (by decide +kernel), rfl⟩
theorem dX11_struckHow_96 : Dc mX11_struckHow 96 (.if_icmp .gt 44) 3 99 := ⟨zo_163 (w := 0) (x := 44) (by decide +kernel), rfl⟩
theorem dX11_struckHow_99 : Dc mX11_struckHow 99 (.iload 6) 2 101 := ⟨zo_21 (by decide +kernel), rfl⟩
theorem dX11_struckHow_101 : Dc mX11_struckHow 101 (.ifCond .eq 39) 3 104 := ⟨zo_153 (w := 0) (x := 39) (by decide +kernel), rfl⟩
theorem dX11_struckHow_104 : Dc mX11_struckHow 104 (.aload_n 0) 1 105 := ⟨zo_42 (by decide +kernel), rfl⟩
theorem dX11_struckHow_105 : Dc mX11_struckHow 105 (.getfield 50) 3 108 := ⟨zo_180 (w := 0) (x := 50) (by decide +kernel), rfl⟩
theorem dX11_struckHow_108 : Dc mX11_struckHow 108 (.iconst 1) 1 109 := ⟨zo_4 (by decide +kernel), rfl⟩
theorem dX11_struckHow_109 : Dc mX11_struckHow 109 (.invokevirtual 229) 3 112 := ⟨zo_182 (w := 0) (x := 229) (by decide +kernel), rfl⟩
theorem dX11_struckHow_112 : Dc mX11_struckHow 112 (.aload_n 0) 1 113 := ⟨zo_42 (by decide +kernel), rfl⟩
theorem dX11_struckHow_113 : Dc mX11_struckHow 113 (.getfield 57) 3 116 := ⟨zo_180 (w := 0) (x := 57) (by decide +kernel), rfl⟩
theorem dX11_struckHow_116 : Dc mX11_struckHow 116 (.iload_n 2) 1 117 := ⟨zo_28 (by decide +kernel), rfl⟩
theorem dX11_struckHow_117 : Dc mX11_struckHow 117 (.iload 7) 2 119 := ⟨zo_21 (by decide +kernel), rfl⟩
theorem dX11_struckHow_119 : Dc mX11_struckHow 119 (.aload_n 0) 1 120 := ⟨zo_42 (by decide +kernel), rfl⟩
theorem dX11_struckHow_120 : Dc mX11_struckHow 120 (.getfield 50) 3 123 := ⟨zo_180 (w := 0) (x := 50) (by decide +kernel), rfl⟩
theorem dX11_struckHow_123 : Dc mX11_struckHow 123 (.getfield 232) 3 126 := ⟨zo_180 (w := 0) (x := 232) (by decide +kernel), rfl⟩
theorem dX11_struckHow_126 : Dc mX11_struckHow 126 (.getfield 153) 3 129 := ⟨zo_180 (w := 0) (x := 153) (by decide +kernel), rfl⟩
theorem dX11_struckHow_129 : Dc mX11_struckHow 129 (.invokevirtual 344) 3 132 := ⟨zo_182 (w := 1) (x := 88) (by decide +kernel), rfl⟩
theorem dX11_struckHow_132 : Dc mX11_struckHow 132 (.istore 6) 2 134 := ⟨zo_54 (by decide +kernel), rfl⟩
theorem dX11_struckHow_134 : Dc mX11_struckHow 134 (.iinc 7 1) 3 137 := ⟨zo_iinc (x := 1) (by decide +kernel), rfl⟩
theorem dX11_struckHow_137 : Dc mX11_struckHow 137 (.goto (-44)) 3 140 := ⟨zo_167 (w := 255) (x := 212) (by decide +kernel), rfl⟩
theorem dX11_struckHow_140 : Dc mX11_struckHow 140 (.iload 4) 2 142 := ⟨zo_21 (by decide +kernel), rfl⟩
theorem dX11_struckHow_142 : Dc mX11_struckHow 142 (.iload 6) 2 144 := ⟨zo_21 (by decide +kernel), rfl⟩
theorem dX11_struckHow_144 : Dc mX11_struckHow 144 (.ifCond .eq 10) 3 147 := ⟨zo_153 (w := 0) (x := 10) (by decide +kernel), rfl⟩
theorem dX11_struckHow_147 : Dc mX11_struckHow 147 (.iconst 1) 1 148 := ⟨zo_4 (by decide +kernel), rfl⟩
theorem dX11_struckHow_148 : Dc mX11_struckHow 148 (.iload 5) 2 150 := ⟨zo_21 (by decide +kernel), rfl⟩
theorem dX11_struckHow_150 : Dc mX11_struckHow 150 (.ishl) 1 151 := ⟨zo_120 (by decide +kernel), rfl⟩
theorem dX11_struckHow_151 : Dc mX11_struckHow 151 (.goto 4) 3 154 := ⟨zo_167 (w := 0) (x := 4) (by decide +kernel), rfl⟩
theorem dX11_struckHow_154 : Dc mX11_struckHow 154 (.iconst 0) 1 155 := ⟨zo_3 (by decide +kernel), rfl⟩
theorem dX11_struckHow_155 : Dc mX11_struckHow 155 (.ior) 1 156 := ⟨zo_128 (by decide +kernel), rfl⟩
theorem dX11_struckHow_156 : Dc mX11_struckHow 156 (.istore 4) 2 158 := ⟨zo_54 (by decide +kernel), rfl⟩
theorem dX11_struckHow_158 : Dc mX11_struckHow 158 (.iinc 5 1) 3 161 := ⟨zo_iinc (x := 1) (by decide +kernel), rfl⟩
theorem dX11_struckHow_161 : Dc mX11_struckHow 161 (.goto (-122)) 3 164 := ⟨zo_167 (w := 255) (x := 134) (by decide +kernel), rfl⟩
theorem dX11_struckHow_164 : Dc mX11_struckHow 164 (.iload 4) 2 166 := ⟨zo_21 (by decide +kernel), rfl⟩
theorem dX11_struckHow_166 : Dc mX11_struckHow 166 (.ireturn) 1 167 := ⟨zo_172 (by decide +kernel), rfl⟩
theorem dX11_chance_0 : Dc mX11_chance 0 (.iload_n 1) 1 1 := ⟨zo_27 (by decide +kernel), rfl⟩
theorem dX11_chance_1 : Dc mX11_chance 1 (.ifCond .lt 24) 3 4 := ⟨zo_155 (w := 0) (x := 24) (by decide +kernel), rfl⟩
theorem dX11_chance_4 : Dc mX11_chance 4 (.iload_n 2) 1 5 := ⟨zo_28 (by decide +kernel), rfl⟩
theorem dX11_chance_5 : Dc mX11_chance 5 (.iconst 1) 1 6 := ⟨zo_4 (by decide +kernel), rfl⟩
theorem dX11_chance_6 : Dc mX11_chance 6 (.if_icmp .lt 19) 3 9 := ⟨zo_161 (w := 0) (x := 19) (by decide +kernel), rfl⟩
theorem dX11_chance_9 : Dc mX11_chance 9 (.iload_n 2) 1 10 := ⟨zo_28 (by decide +kernel), rfl⟩
theorem dX11_chance_10 : Dc mX11_chance 10 (.bipush 99) 2 12 := ⟨zo_16 (w := 99) (by decide +kernel), rfl⟩
theorem dX11_chance_12 : Dc mX11_chance 12 (.if_icmp .gt 13) 3 15 := ⟨zo_163 (w := 0) (x := 13) (by decide +kernel), rfl⟩
theorem dX11_chance_15 : Dc mX11_chance 15 (.iload_n 3) 1 16 := ⟨zo_29 (by decide +kernel), rfl⟩
theorem dX11_chance_16 : Dc mX11_chance 16 (.ifCond .lt 9) 3 19 := ⟨zo_155 (w := 0) (x := 9) (by decide +kernel), rfl⟩
theorem dX11_chance_19 : Dc mX11_chance 19 (.iload_n 3) 1 20 := ⟨zo_29 (by decide +kernel), rfl⟩
theorem dX11_chance_20 : Dc mX11_chance 20 (.bipush 20) 2 22 := ⟨zo_16 (w := 20) (by decide +kernel), rfl⟩
theorem dX11_chance_22 : Dc mX11_chance 22 (.if_icmp .le 5) 3 25 := ⟨zo_164 (w := 0) (x := 5) (by decide +kernel), rfl⟩
theorem dX11_chance_25 : Dc mX11_chance 25 (.iconst (-1)) 1 26 := ⟨zo_2 (by decide +kernel), rfl⟩
theorem dX11_chance_26 : Dc mX11_chance 26 (.ireturn) 1 27 := ⟨zo_172 (by decide +kernel), rfl⟩
theorem dX11_chance_27 : Dc mX11_chance 27 (.iload_n 1) 1 28 := ⟨zo_27 (by decide +kernel), rfl⟩
theorem dX11_chance_28 : Dc mX11_chance 28 (.i2l) 1 29 := ⟨zo_133 (by decide +kernel), rfl⟩
theorem dX11_chance_29 : Dc mX11_chance 29 (.lstore 4) 2 31 := ⟨zo_55 (by decide +kernel), rfl⟩
theorem dX11_chance_31 : Dc mX11_chance 31 (.iconst 0) 1 32 := ⟨zo_3 (by decide +kernel), rfl⟩
theorem dX11_chance_32 : Dc mX11_chance 32 (.istore 6) 2 34 := ⟨zo_54 (by decide +kernel), rfl⟩
theorem dX11_chance_34 : Dc mX11_chance 34 (.iconst 0) 1 35 := ⟨zo_3 (by decide +kernel), rfl⟩
theorem dX11_chance_35 : Dc mX11_chance 35 (.istore 7) 2 37 := ⟨zo_54 (by decide +kernel), rfl⟩
theorem dX11_chance_37 : Dc mX11_chance 37 (.iload 7) 2 39 := ⟨zo_21 (by decide +kernel), rfl⟩
theorem dX11_chance_39 : Dc mX11_chance 39 (.bipush 10) 2 41 := ⟨zo_16 (w := 10) (by decide +kernel), rfl⟩
theorem dX11_chance_41 : Dc mX11_chance 41 (.if_icmp .ge 77) 3 44 := ⟨zo_162 (w := 0) (x := 77) (by decide +kernel), rfl⟩
theorem dX11_chance_44 : Dc mX11_chance 44 (.aload_n 0) 1 45 := ⟨zo_42 (by decide +kernel), rfl⟩
theorem dX11_chance_45 : Dc mX11_chance 45 (.getfield 50) 3 48 := ⟨zo_180 (w := 0) (x := 50) (by decide +kernel), rfl⟩
theorem dX11_chance_48 : Dc mX11_chance 48 (.aload_n 0) 1 49 := ⟨zo_42 (by decide +kernel), rfl⟩
theorem dX11_chance_49 : Dc mX11_chance 49 (.getfield 34) 3 52 := ⟨zo_180 (w := 0) (x := 34) (by decide +kernel), rfl⟩
theorem dX11_chance_52 : Dc mX11_chance 52 (.invokevirtual 189) 3 55 := ⟨zo_182 (w := 0) (x := 189) (by decide +kernel), rfl⟩
theorem dX11_chance_55 : Dc mX11_chance 55 (.aload_n 0) 1 56 := ⟨zo_42 (by decide +kernel), rfl⟩
theorem dX11_chance_56 : Dc mX11_chance 56 (.getfield 50) 3 59 := ⟨zo_180 (w := 0) (x := 50) (by decide +kernel), rfl⟩
theorem dX11_chance_59 : Dc mX11_chance 59 (.iconst 1) 1 60 := ⟨zo_4 (by decide +kernel), rfl⟩
theorem dX11_chance_60 : Dc mX11_chance 60 (.putfield 226) 3 63 := ⟨zo_181 (w := 0) (x := 226) (by decide +kernel), rfl⟩
theorem dX11_chance_63 : Dc mX11_chance 63 (.aload_n 0) 1 64 := ⟨zo_42 (by decide +kernel), rfl⟩
theorem dX11_chance_64 : Dc mX11_chance 64 (.getfield 50) 3 67 := ⟨zo_180 (w := 0) (x := 50) (by decide +kernel), rfl⟩
theorem dX11_chance_67 : Dc mX11_chance 67 (.getfield 232) 3 70 := ⟨zo_180 (w := 0) (x := 232) (by decide +kernel), rfl⟩
theorem dX11_chance_70 : Dc mX11_chance 70 (.lload 4) 2 72 := ⟨zo_22 (by decide +kernel), rfl⟩
theorem dX11_chance_72 : Dc mX11_chance 72 (.putfield 348) 3 75 := ⟨zo_181 (w := 1) (x := 92) (by decide +kernel), rfl⟩
theorem dX11_chance_75 : Dc mX11_chance 75 (.aload_n 0) 1 76 := ⟨zo_42 (by decide +kernel), rfl⟩
theorem dX11_chance_76 : Dc mX11_chance 76 (.getfield 50) 3 79 := ⟨zo_180 (w := 0) (x := 50) (by decide +kernel), rfl⟩
theorem dX11_chance_79 : Dc mX11_chance 79 (.iload_n 2) 1 80 := ⟨zo_28 (by decide +kernel), rfl⟩
theorem dX11_chance_80 : Dc mX11_chance 80 (.invokevirtual 229) 3 83 := ⟨zo_182 (w := 0) (x := 229) (by decide +kernel), rfl⟩
theorem dX11_chance_83 : Dc mX11_chance 83 (.aload_n 0) 1 84 := ⟨zo_42 (by decide +kernel), rfl⟩
theorem dX11_chance_84 : Dc mX11_chance 84 (.getfield 50) 3 87 := ⟨zo_180 (w := 0) (x := 50) (by decide +kernel), rfl⟩
theorem dX11_chance_87 : Dc mX11_chance 87 (.getfield 232) 3 90 := ⟨zo_180 (w := 0) (x := 232) (by decide +kernel), rfl⟩
theorem dX11_chance_90 : Dc mX11_chance 90 (.getfield 348) 3 93 := ⟨zo_180 (w := 1) (x := 92) (by decide +kernel), rfl⟩
theorem dX11_chance_93 : Dc mX11_chance 93 (.lstore 4) 2 95 := ⟨zo_55 (by decide +kernel), rfl⟩
theorem dX11_chance_95 : Dc mX11_chance 95 (.aload_n 0) 1 96 := ⟨zo_42 (by decide +kernel), rfl⟩
theorem dX11_chance_96 : Dc mX11_chance 96 (.getfield 50) 3 99 := ⟨zo_180 (w := 0) (x := 50) (by decide +kernel), rfl⟩
theorem dX11_chance_99 : Dc mX11_chance 99 (.getfield 232) 3 102 := ⟨zo_180 (w := 0) (x := 232) (by decide +kernel), rfl⟩
theorem dX11_chance_102 : Dc mX11_chance 102 (.invokevirtual 250) 3 105 := ⟨zo_182 (w := 0) (x := 250) (by decide +kernel), rfl⟩
theorem dX11_chance_105 : Dc mX11_chance 105 (.iload_n 3) 1 106 := ⟨zo_29 (by decide +kernel), rfl⟩
theorem dX11_chance_106 : Dc mX11_chance 106 (.if_icmp .lt 6) 3 109 := ⟨zo_161 (w := 0) (x := 6) (by decide +kernel), rfl⟩
theorem dX11_chance_109 : Dc mX11_chance 109 (.iinc 6 1) 3 112 := ⟨zo_iinc (x := 1) (by decide +kernel), rfl⟩
theorem dX11_chance_112 : Dc mX11_chance 112 (.iinc 7 1) 3 115 := ⟨zo_iinc (x := 1) (by decide +kernel), rfl⟩
theorem dX11_chance_115 : Dc mX11_chance 115 (.goto (-78)) 3 118 := ⟨zo_167 (w := 255) (x := 178) (by decide +kernel), rfl⟩
theorem dX11_chance_118 : Dc mX11_chance 118 (.iload 6) 2 120 := ⟨zo_21 (by decide +kernel), rfl⟩
theorem dX11_chance_120 : Dc mX11_chance 120 (.ireturn) 1 121 := ⟨zo_172 (by decide +kernel), rfl⟩
theorem dX11_tried_0 : Dc mX11_tried 0 (.iload_n 1) 1 1 := ⟨zo_27 (by decide +kernel), rfl⟩
theorem dX11_tried_1 : Dc mX11_tried 1 (.iconst 2) 1 2 := ⟨zo_5 (by decide +kernel), rfl⟩
theorem dX11_tried_2 : Dc mX11_tried 2 (.if_icmp .ne 17) 3 5 := ⟨zo_160 (w := 0) (x := 17) (by decide +kernel), rfl⟩
theorem dX11_tried_5 : Dc mX11_tried 5 (.aload_n 0) 1 6 := ⟨zo_42 (by decide +kernel), rfl⟩
theorem dX11_tried_6 : Dc mX11_tried 6 (.getfield 20) 3 9 := ⟨zo_180 (w := 0) (x := 20) (by decide +kernel), rfl⟩
theorem dX11_tried_9 : Dc mX11_tried 9 (.getfield 125) 3 12 := ⟨zo_180 (w := 0) (x := 125) (by decide +kernel), rfl⟩
theorem dX11_tried_12 : Dc mX11_tried 12 (.iload_n 2) 1 13 := ⟨zo_28 (by decide +kernel), rfl⟩
theorem dX11_tried_13 : Dc mX11_tried 13 (.invokevirtual 131) 3 16 := ⟨zo_182 (w := 0) (x := 131) (by decide +kernel), rfl⟩
theorem dX11_tried_16 : Dc mX11_tried 16 (.goto 21) 3 19 := ⟨zo_167 (w := 0) (x := 21) (by decide +kernel), rfl⟩
theorem dX11_tried_19 : Dc mX11_tried 19 (.iload_n 1) 1 20 := ⟨zo_27 (by decide +kernel), rfl⟩
theorem dX11_tried_20 : Dc mX11_tried 20 (.ifCond .lt 16) 3 23 := ⟨zo_155 (w := 0) (x := 16) (by decide +kernel), rfl⟩
theorem dX11_tried_23 : Dc mX11_tried 23 (.iload_n 1) 1 24 := ⟨zo_27 (by decide +kernel), rfl⟩
theorem dX11_tried_24 : Dc mX11_tried 24 (.iconst 5) 1 25 := ⟨zo_8 (by decide +kernel), rfl⟩
theorem dX11_tried_25 : Dc mX11_tried 25 (.if_icmp .gt 11) 3 28 := ⟨zo_163 (w := 0) (x := 11) (by decide +kernel), rfl⟩
theorem dX11_tried_28 : Dc mX11_tried 28 (.iload_n 2) 1 29 := ⟨zo_28 (by decide +kernel), rfl⟩
theorem dX11_tried_29 : Dc mX11_tried 29 (.ifCond .ne 7) 3 32 := ⟨zo_154 (w := 0) (x := 7) (by decide +kernel), rfl⟩
theorem dX11_tried_32 : Dc mX11_tried 32 (.iconst 1) 1 33 := ⟨zo_4 (by decide +kernel), rfl⟩
theorem dX11_tried_33 : Dc mX11_tried 33 (.goto 4) 3 36 := ⟨zo_167 (w := 0) (x := 4) (by decide +kernel), rfl⟩
theorem dX11_tried_36 : Dc mX11_tried 36 (.iconst 0) 1 37 := ⟨zo_3 (by decide +kernel), rfl⟩
theorem dX11_tried_37 : Dc mX11_tried 37 (.istore 4) 2 39 := ⟨zo_54 (by decide +kernel), rfl⟩
theorem dX11_tried_39 : Dc mX11_tried 39 (.iload 4) 2 41 := ⟨zo_21 (by decide +kernel), rfl⟩
theorem dX11_tried_41 : Dc mX11_tried 41 (.ifCond .eq 13) 3 44 := ⟨zo_153 (w := 0) (x := 13) (by decide +kernel), rfl⟩
theorem dX11_tried_44 : Dc mX11_tried 44 (.iload_n 3) 1 45 := ⟨zo_29 (by decide +kernel), rfl⟩
theorem dX11_tried_45 : Dc mX11_tried 45 (.ifCond .lt 9) 3 48 := ⟨zo_155 (w := 0) (x := 9) (by decide +kernel), rfl⟩
theorem dX11_tried_48 : Dc mX11_tried 48 (.iload_n 3) 1 49 := ⟨zo_29 (by decide +kernel), rfl⟩
theorem dX11_tried_49 : Dc mX11_tried 49 (.bipush 99) 2 51 := ⟨zo_16 (w := 99) (by decide +kernel), rfl⟩
theorem dX11_tried_51 : Dc mX11_tried 51 (.if_icmp .le 5) 3 54 := ⟨zo_164 (w := 0) (x := 5) (by decide +kernel), rfl⟩
theorem dX11_tried_54 : Dc mX11_tried 54 (.iconst (-1)) 1 55 := ⟨zo_2 (by decide +kernel), rfl⟩
theorem dX11_tried_55 : Dc mX11_tried 55 (.ireturn) 1 56 := ⟨zo_172 (by decide +kernel), rfl⟩
theorem dX11_tried_56 : Dc mX11_tried 56 (.aload_n 0) 1 57 := ⟨zo_42 (by decide +kernel), rfl⟩
theorem dX11_tried_57 : Dc mX11_tried 57 (.getfield 50) 3 60 := ⟨zo_180 (w := 0) (x := 50) (by decide +kernel), rfl⟩
theorem dX11_tried_60 : Dc mX11_tried 60 (.aload_n 0) 1 61 := ⟨zo_42 (by decide +kernel), rfl⟩
theorem dX11_tried_61 : Dc mX11_tried 61 (.getfield 34) 3 64 := ⟨zo_180 (w := 0) (x := 34) (by decide +kernel), rfl⟩
theorem dX11_tried_64 : Dc mX11_tried 64 (.invokevirtual 189) 3 67 := ⟨zo_182 (w := 0) (x := 189) (by decide +kernel), rfl⟩
theorem dX11_tried_67 : Dc mX11_tried 67 (.aload_n 0) 1 68 := ⟨zo_42 (by decide +kernel), rfl⟩
theorem dX11_tried_68 : Dc mX11_tried 68 (.getfield 50) 3 71 := ⟨zo_180 (w := 0) (x := 50) (by decide +kernel), rfl⟩
theorem dX11_tried_71 : Dc mX11_tried 71 (.iload_n 1) 1 72 := ⟨zo_27 (by decide +kernel), rfl⟩
theorem dX11_tried_72 : Dc mX11_tried 72 (.iload_n 2) 1 73 := ⟨zo_28 (by decide +kernel), rfl⟩
theorem dX11_tried_73 : Dc mX11_tried 73 (.invokevirtual 352) 3 76 := ⟨zo_182 (w := 1) (x := 96) (by decide +kernel), rfl⟩
theorem dX11_tried_76 : Dc mX11_tried 76 (.aload_n 0) 1 77 := ⟨zo_42 (by decide +kernel), rfl⟩
theorem dX11_tried_77 : Dc mX11_tried 77 (.getfield 50) 3 80 := ⟨zo_180 (w := 0) (x := 50) (by decide +kernel), rfl⟩
theorem dX11_tried_80 : Dc mX11_tried 80 (.iload_n 3) 1 81 := ⟨zo_29 (by decide +kernel), rfl⟩
theorem dX11_tried_81 : Dc mX11_tried 81 (.invokevirtual 229) 3 84 := ⟨zo_182 (w := 0) (x := 229) (by decide +kernel), rfl⟩
theorem dX11_tried_84 : Dc mX11_tried 84 (.aload_n 0) 1 85 := ⟨zo_42 (by decide +kernel), rfl⟩
theorem dX11_tried_85 : Dc mX11_tried 85 (.getfield 50) 3 88 := ⟨zo_180 (w := 0) (x := 50) (by decide +kernel), rfl⟩
theorem dX11_tried_88 : Dc mX11_tried 88 (.getfield 232) 3 91 := ⟨zo_180 (w := 0) (x := 232) (by decide +kernel), rfl⟩
theorem dX11_tried_91 : Dc mX11_tried 91 (.invokevirtual 250) 3 94 := ⟨zo_182 (w := 0) (x := 250) (by decide +kernel), rfl⟩
theorem dX11_tried_94 : Dc mX11_tried 94 (.ireturn) 1 95 := ⟨zo_172 (by decide +kernel), rfl⟩
theorem dX11_undo_0 : Dc mX11_undo 0 (.aload_n 0) 1 1 := ⟨zo_42 (by decide +kernel), rfl⟩
theorem dX11_undo_1 : Dc mX11_undo 1 (.getfield 64) 3 4 := ⟨zo_180 (w := 0) (x := 64) (by decide +kernel), rfl⟩
theorem dX11_undo_4 : Dc mX11_undo 4 (.aload_n 0) 1 5 := ⟨zo_42 (by decide +kernel), rfl⟩
theorem dX11_undo_5 : Dc mX11_undo 5 (.getfield 34) 3 8 := ⟨zo_180 (w := 0) (x := 34) (by decide +kernel), rfl⟩
theorem dX11_undo_8 : Dc mX11_undo 8 (.invokevirtual 355) 3 11 := ⟨zo_182 (w := 1) (x := 99) (by decide +kernel), rfl⟩
theorem dX11_undo_11 : Dc mX11_undo 11 (.ifCond .eq 13) 3 14 := ⟨zo_153 (w := 0) (x := 13) (by decide +kernel), rfl⟩
theorem dX11_undo_14 : Dc mX11_undo 14 (.aload_n 0) 1 15 := ⟨zo_42 (by decide +kernel), rfl⟩
theorem dX11_undo_15 : Dc mX11_undo 15 (.getfield 64) 3 18 := ⟨zo_180 (w := 0) (x := 64) (by decide +kernel), rfl⟩
theorem dX11_undo_18 : Dc mX11_undo 18 (.getfield 359) 3 21 := ⟨zo_180 (w := 1) (x := 103) (by decide +kernel), rfl⟩
theorem dX11_undo_21 : Dc mX11_undo 21 (.goto 4) 3 24 := ⟨zo_167 (w := 0) (x := 4) (by decide +kernel), rfl⟩
theorem dX11_undo_24 : Dc mX11_undo 24 (.iconst (-1)) 1 25 := ⟨zo_2 (by decide +kernel), rfl⟩
theorem dX11_undo_25 : Dc mX11_undo 25 (.ireturn) 1 26 := ⟨zo_172 (by decide +kernel), rfl⟩
theorem dX11_keep_0 : Dc mX11_keep 0 (.aload_n 0) 1 1 := ⟨zo_42 (by decide +kernel), rfl⟩
theorem dX11_keep_1 : Dc mX11_keep 1 (.getfield 38) 3 4 := ⟨zo_180 (w := 0) (x := 38) (by decide +kernel), rfl⟩
theorem dX11_keep_4 : Dc mX11_keep 4 (.aload_n 0) 1 5 := ⟨zo_42 (by decide +kernel), rfl⟩
theorem dX11_keep_5 : Dc mX11_keep 5 (.getfield 34) 3 8 := ⟨zo_180 (w := 0) (x := 34) (by decide +kernel), rfl⟩
theorem dX11_keep_8 : Dc mX11_keep 8 (.invokevirtual 235) 3 11 := ⟨zo_182 (w := 0) (x := 235) (by decide +kernel), rfl⟩
theorem dX11_keep_11 : Dc mX11_keep 11 (.aload_n 0) 1 12 := ⟨zo_42 (by decide +kernel), rfl⟩
theorem dX11_keep_12 : Dc mX11_keep 12 (.iconst 1) 1 13 := ⟨zo_4 (by decide +kernel), rfl⟩
theorem dX11_keep_13 : Dc mX11_keep 13 (.putfield 41) 3 16 := ⟨zo_181 (w := 0) (x := 41) (by decide +kernel), rfl⟩
theorem dX11_keep_16 : Dc mX11_keep 16 (.aload_n 0) 1 17 := ⟨zo_42 (by decide +kernel), rfl⟩
theorem dX11_keep_17 : Dc mX11_keep 17 (.getfield 34) 3 20 := ⟨zo_180 (w := 0) (x := 34) (by decide +kernel), rfl⟩
theorem dX11_keep_20 : Dc mX11_keep 20 (.getfield 219) 3 23 := ⟨zo_180 (w := 0) (x := 219) (by decide +kernel), rfl⟩
theorem dX11_keep_23 : Dc mX11_keep 23 (.ireturn) 1 24 := ⟨zo_172 (by decide +kernel), rfl⟩
theorem dX11_back_0 : Dc mX11_back 0 (.aload_n 0) 1 1 := ⟨zo_42 (by decide +kernel), rfl⟩
theorem dX11_back_1 : Dc mX11_back 1 (.getfield 41) 3 4 := ⟨zo_180 (w := 0) (x := 41) (by decide +kernel), rfl⟩
theorem dX11_back_4 : Dc mX11_back 4 (.ifCond .ne 5) 3 7 := ⟨zo_154 (w := 0) (x := 5) (by decide +kernel), rfl⟩
theorem dX11_back_7 : Dc mX11_back 7 (.iconst (-1)) 1 8 := ⟨zo_2 (by decide +kernel), rfl⟩
theorem dX11_back_8 : Dc mX11_back 8 (.ireturn) 1 9 := ⟨zo_172 (by decide +kernel), rfl⟩
theorem dX11_back_9 : Dc mX11_back 9 (.aload_n 0) 1 10 := ⟨zo_42 (by decide +kernel), rfl⟩
theorem dX11_back_10 : Dc mX11_back 10 (.getfield 34) 3 13 := ⟨zo_180 (w := 0) (x := 34) (by decide +kernel), rfl⟩
theorem dX11_back_13 : Dc mX11_back 13 (.aload_n 0) 1 14 := ⟨zo_42 (by decide +kernel), rfl⟩
theorem dX11_back_14 : Dc mX11_back 14 (.getfield 38) 3 17 := ⟨zo_180 (w := 0) (x := 38) (by decide +kernel), rfl⟩
theorem dX11_back_17 : Dc mX11_back 17 (.invokevirtual 235) 3 20 := ⟨zo_182 (w := 0) (x := 235) (by decide +kernel), rfl⟩
theorem dX11_back_20 : Dc mX11_back 20 (.aload_n 0) 1 21 := ⟨zo_42 (by decide +kernel), rfl⟩
theorem dX11_back_21 : Dc mX11_back 21 (.getfield 64) 3 24 := ⟨zo_180 (w := 0) (x := 64) (by decide +kernel), rfl⟩
theorem dX11_back_24 : Dc mX11_back 24 (.invokevirtual 102) 3 27 := ⟨zo_182 (w := 0) (x := 102) (by decide +kernel), rfl⟩
theorem dX11_back_27 : Dc mX11_back 27 (.aload_n 0) 1 28 := ⟨zo_42 (by decide +kernel), rfl⟩
theorem dX11_back_28 : Dc mX11_back 28 (.getfield 34) 3 31 := ⟨zo_180 (w := 0) (x := 34) (by decide +kernel), rfl⟩
theorem dX11_back_31 : Dc mX11_back 31 (.getfield 219) 3 34 := ⟨zo_180 (w := 0) (x := 219) (by decide +kernel), rfl⟩
theorem dX11_back_34 : Dc mX11_back 34 (.ireturn) 1 35 := ⟨zo_172 (by decide +kernel), rfl⟩
theorem dX11_count_0 : Dc mX11_count 0 (.iload_n 1) 1 1 := ⟨zo_27 (by decide +kernel), rfl⟩
theorem dX11_count_1 : Dc mX11_count 1 (.tableswitch 207 0 14 #[75, 86, 97, 108, 119, 127, 135, 143, 151, 159, 167, 175, 183, 191, 199]) 75 76 := ⟨by decide +kernel, rfl⟩
theorem dX11_count_76 : Dc mX11_count 76 (.aload_n 0) 1 77 := ⟨zo_42 (by decide +kernel), rfl⟩
theorem dX11_count_77 : Dc mX11_count 77 (.getfield 20) 3 80 := ⟨zo_180 (w := 0) (x := 20) (by decide +kernel), rfl⟩
theorem dX11_count_80 : Dc mX11_count 80 (.getfield 112) 3 83 := ⟨zo_180 (w := 0) (x := 112) (by decide +kernel), rfl⟩
theorem dX11_count_83 : Dc mX11_count 83 (.getfield 256) 3 86 := ⟨zo_180 (w := 1) (x := 0) (by decide +kernel), rfl⟩
theorem dX11_count_86 : Dc mX11_count 86 (.ireturn) 1 87 := ⟨zo_172 (by decide +kernel), rfl⟩
theorem dX11_count_87 : Dc mX11_count 87 (.aload_n 0) 1 88 := ⟨zo_42 (by decide +kernel), rfl⟩
theorem dX11_count_88 : Dc mX11_count 88 (.getfield 20) 3 91 := ⟨zo_180 (w := 0) (x := 20) (by decide +kernel), rfl⟩
theorem dX11_count_91 : Dc mX11_count 91 (.getfield 122) 3 94 := ⟨zo_180 (w := 0) (x := 122) (by decide +kernel), rfl⟩
theorem dX11_count_94 : Dc mX11_count 94 (.getfield 256) 3 97 := ⟨zo_180 (w := 1) (x := 0) (by decide +kernel), rfl⟩
theorem dX11_count_97 : Dc mX11_count 97 (.ireturn) 1 98 := ⟨zo_172 (by decide +kernel), rfl⟩
theorem dX11_count_98 : Dc mX11_count 98 (.aload_n 0) 1 99 := ⟨zo_42 (by decide +kernel), rfl⟩
theorem dX11_count_99 : Dc mX11_count 99 (.getfield 20) 3 102 := ⟨zo_180 (w := 0) (x := 20) (by decide +kernel), rfl⟩
theorem dX11_count_102 : Dc mX11_count 102 (.getfield 125) 3 105 := ⟨zo_180 (w := 0) (x := 125) (by decide +kernel), rfl⟩
theorem dX11_count_105 : Dc mX11_count 105 (.getfield 256) 3 108 := ⟨zo_180 (w := 1) (x := 0) (by decide +kernel), rfl⟩
theorem dX11_count_108 : Dc mX11_count 108 (.ireturn) 1 109 := ⟨zo_172 (by decide +kernel), rfl⟩
theorem dX11_count_109 : Dc mX11_count 109 (.aload_n 0) 1 110 := ⟨zo_42 (by decide +kernel), rfl⟩
theorem dX11_count_110 : Dc mX11_count 110 (.getfield 20) 3 113 := ⟨zo_180 (w := 0) (x := 20) (by decide +kernel), rfl⟩
theorem dX11_count_113 : Dc mX11_count 113 (.getfield 128) 3 116 := ⟨zo_180 (w := 0) (x := 128) (by decide +kernel), rfl⟩
theorem dX11_count_116 : Dc mX11_count 116 (.getfield 256) 3 119 := ⟨zo_180 (w := 1) (x := 0) (by decide +kernel), rfl⟩
theorem dX11_count_119 : Dc mX11_count 119 (.ireturn) 1 120 := ⟨zo_172 (by decide +kernel), rfl⟩
theorem dX11_count_120 : Dc mX11_count 120 (.aload_n 0) 1 121 := ⟨zo_42 (by decide +kernel), rfl⟩
theorem dX11_count_121 : Dc mX11_count 121 (.getfield 20) 3 124 := ⟨zo_180 (w := 0) (x := 20) (by decide +kernel), rfl⟩
theorem dX11_count_124 : Dc mX11_count 124 (.getfield 360) 3 127 := ⟨zo_180 (w := 1) (x := 104) (by decide +kernel), rfl⟩
theorem dX11_count_127 : Dc mX11_count 127 (.ireturn) 1 128 := ⟨zo_172 (by decide +kernel), rfl⟩
theorem dX11_count_128 : Dc mX11_count 128 (.aload_n 0) 1 129 := ⟨zo_42 (by decide +kernel), rfl⟩
theorem dX11_count_129 : Dc mX11_count 129 (.getfield 34) 3 132 := ⟨zo_180 (w := 0) (x := 34) (by decide +kernel), rfl⟩
theorem dX11_count_132 : Dc mX11_count 132 (.getfield 219) 3 135 := ⟨zo_180 (w := 0) (x := 219) (by decide +kernel), rfl⟩
theorem dX11_count_135 : Dc mX11_count 135 (.ireturn) 1 136 := ⟨zo_172 (by decide +kernel), rfl⟩
theorem dX11_count_136 : Dc mX11_count 136 (.aload_n 0) 1 137 := ⟨zo_42 (by decide +kernel), rfl⟩
theorem dX11_count_137 : Dc mX11_count 137 (.getfield 34) 3 140 := ⟨zo_180 (w := 0) (x := 34) (by decide +kernel), rfl⟩
theorem dX11_count_140 : Dc mX11_count 140 (.invokevirtual 237) 3 143 := ⟨zo_182 (w := 0) (x := 237) (by decide +kernel), rfl⟩
theorem dX11_count_143 : Dc mX11_count 143 (.ireturn) 1 144 := ⟨zo_172 (by decide +kernel), rfl⟩
theorem dX11_count_144 : Dc mX11_count 144 (.aload_n 0) 1 145 := ⟨zo_42 (by decide +kernel), rfl⟩
theorem dX11_count_145 : Dc mX11_count 145 (.getfield 34) 3 148 := ⟨zo_180 (w := 0) (x := 34) (by decide +kernel), rfl⟩
theorem dX11_count_148 : Dc mX11_count 148 (.getfield 241) 3 151 := ⟨zo_180 (w := 0) (x := 241) (by decide +kernel), rfl⟩
theorem dX11_count_151 : Dc mX11_count 151 (.ireturn) 1 152 := ⟨zo_172 (by decide +kernel), rfl⟩
theorem dX11_count_152 : Dc mX11_count 152 (.aload_n 0) 1 153 := ⟨zo_42 (by decide +kernel), rfl⟩
theorem dX11_count_153 : Dc mX11_count 153 (.getfield 34) 3 156 := ⟨zo_180 (w := 0) (x := 34) (by decide +kernel), rfl⟩
theorem dX11_count_156 : Dc mX11_count 156 (.getfield 244) 3 159 := ⟨zo_180 (w := 0) (x := 244) (by decide +kernel), rfl⟩
theorem dX11_count_159 : Dc mX11_count 159 (.ireturn) 1 160 := ⟨zo_172 (by decide +kernel), rfl⟩
theorem dX11_count_160 : Dc mX11_count 160 (.aload_n 0) 1 161 := ⟨zo_42 (by decide +kernel), rfl⟩
theorem dX11_count_161 : Dc mX11_count 161 (.getfield 34) 3 164 := ⟨zo_180 (w := 0) (x := 34) (by decide +kernel), rfl⟩
theorem dX11_count_164 : Dc mX11_count 164 (.getfield 247) 3 167 := ⟨zo_180 (w := 0) (x := 247) (by decide +kernel), rfl⟩
theorem dX11_count_167 : Dc mX11_count 167 (.ireturn) 1 168 := ⟨zo_172 (by decide +kernel), rfl⟩
theorem dX11_count_168 : Dc mX11_count 168 (.aload_n 0) 1 169 := ⟨zo_42 (by decide +kernel), rfl⟩
theorem dX11_count_169 : Dc mX11_count 169 (.getfield 34) 3 172 := ⟨zo_180 (w := 0) (x := 34) (by decide +kernel), rfl⟩
theorem dX11_count_172 : Dc mX11_count 172 (.invokevirtual 250) 3 175 := ⟨zo_182 (w := 0) (x := 250) (by decide +kernel), rfl⟩
theorem dX11_count_175 : Dc mX11_count 175 (.ireturn) 1 176 := ⟨zo_172 (by decide +kernel), rfl⟩
theorem dX11_count_176 : Dc mX11_count 176 (.aload_n 0) 1 177 := ⟨zo_42 (by decide +kernel), rfl⟩
theorem dX11_count_177 : Dc mX11_count 177 (.getfield 34) 3 180 := ⟨zo_180 (w := 0) (x := 34) (by decide +kernel), rfl⟩
theorem dX11_count_180 : Dc mX11_count 180 (.getfield 363) 3 183 := ⟨zo_180 (w := 1) (x := 107) (by decide +kernel), rfl⟩
theorem dX11_count_183 : Dc mX11_count 183 (.ireturn) 1 184 := ⟨zo_172 (by decide +kernel), rfl⟩
theorem dX11_count_184 : Dc mX11_count 184 (.aload_n 0) 1 185 := ⟨zo_42 (by decide +kernel), rfl⟩
theorem dX11_count_185 : Dc mX11_count 185 (.getfield 57) 3 188 := ⟨zo_180 (w := 0) (x := 57) (by decide +kernel), rfl⟩
theorem dX11_count_188 : Dc mX11_count 188 (.getfield 331) 3 191 := ⟨zo_180 (w := 1) (x := 75) (by decide +kernel), rfl⟩
theorem dX11_count_191 : Dc mX11_count 191 (.ireturn) 1 192 := ⟨zo_172 (by decide +kernel), rfl⟩
theorem dX11_count_192 : Dc mX11_count 192 (.aload_n 0) 1 193 := ⟨zo_42 (by decide +kernel), rfl⟩
theorem dX11_count_193 : Dc mX11_count 193 (.getfield 57) 3 196 := ⟨zo_180 (w := 0) (x := 57) (by decide +kernel), rfl⟩
theorem dX11_count_196 : Dc mX11_count 196 (.invokevirtual 366) 3 199 := ⟨zo_182 (w := 1) (x := 110) (by decide +kernel), rfl⟩
theorem dX11_count_199 : Dc mX11_count 199 (.ireturn) 1 200 := ⟨zo_172 (by decide +kernel), rfl⟩
theorem dX11_count_200 : Dc mX11_count 200 (.aload_n 0) 1 201 := ⟨zo_42 (by decide +kernel), rfl⟩
theorem dX11_count_201 : Dc mX11_count 201 (.getfield 64) 3 204 := ⟨zo_180 (w := 0) (x := 64) (by decide +kernel), rfl⟩
theorem dX11_count_204 : Dc mX11_count 204 (.getfield 359) 3 207 := ⟨zo_180 (w := 1) (x := 103) (by decide +kernel), rfl⟩
theorem dX11_count_207 : Dc mX11_count 207 (.ireturn) 1 208 := ⟨zo_172 (by decide +kernel), rfl⟩
theorem dX11_count_208 : Dc mX11_count 208 (.iconst (-1)) 1 209 := ⟨zo_2 (by decide +kernel), rfl⟩
theorem dX11_count_209 : Dc mX11_count 209 (.ireturn) 1 210 := ⟨zo_172 (by decide +kernel), rfl⟩
theorem dX11_at_0 : Dc mX11_at 0 (.iload_n 1) 1 1 := ⟨zo_27 (by decide +kernel), rfl⟩
theorem dX11_at_1 : Dc mX11_at 1 (.ifCond .lt 15) 3 4 := ⟨zo_155 (w := 0) (x := 15) (by decide +kernel), rfl⟩
theorem dX11_at_4 : Dc mX11_at 4 (.iload_n 1) 1 5 := ⟨zo_27 (by decide +kernel), rfl⟩
theorem dX11_at_5 : Dc mX11_at 5 (.aload_n 0) 1 6 := ⟨zo_42 (by decide +kernel), rfl⟩
theorem dX11_at_6 : Dc mX11_at 6 (.arraylength) 1 7 := ⟨zo_190 (by decide +kernel), rfl⟩
theorem dX11_at_7 : Dc mX11_at 7 (.if_icmp .ge 9) 3 10 := ⟨zo_162 (w := 0) (x := 9) (by decide +kernel), rfl⟩
theorem dX11_at_10 : Dc mX11_at 10 (.aload_n 0) 1 11 := ⟨zo_42 (by decide +kernel), rfl⟩
theorem dX11_at_11 : Dc mX11_at 11 (.iload_n 1) 1 12 := ⟨zo_27 (by decide +kernel), rfl⟩
theorem dX11_at_12 : Dc mX11_at 12 (.iaload) 1 13 := ⟨zo_46 (by decide +kernel), rfl⟩
theorem dX11_at_13 : Dc mX11_at 13 (.goto 4) 3 16 := ⟨zo_167 (w := 0) (x := 4) (by decide +kernel), rfl⟩
theorem dX11_at_16 : Dc mX11_at 16 (.iconst 0) 1 17 := ⟨zo_3 (by decide +kernel), rfl⟩
theorem dX11_at_17 : Dc mX11_at 17 (.ireturn) 1 18 := ⟨zo_172 (by decide +kernel), rfl⟩
theorem dX11_put_0 : Dc mX11_put 0 (.iload_n 1) 1 1 := ⟨zo_27 (by decide +kernel), rfl⟩
theorem dX11_put_1 : Dc mX11_put 1 (.ifCond .lt 13) 3 4 := ⟨zo_155 (w := 0) (x := 13) (by decide +kernel), rfl⟩
theorem dX11_put_4 : Dc mX11_put 4 (.iload_n 1) 1 5 := ⟨zo_27 (by decide +kernel), rfl⟩
theorem dX11_put_5 : Dc mX11_put 5 (.aload_n 0) 1 6 := ⟨zo_42 (by decide +kernel), rfl⟩
theorem dX11_put_6 : Dc mX11_put 6 (.arraylength) 1 7 := ⟨zo_190 (by decide +kernel), rfl⟩
theorem dX11_put_7 : Dc mX11_put 7 (.if_icmp .ge 7) 3 10 := ⟨zo_162 (w := 0) (x := 7) (by decide +kernel), rfl⟩
theorem dX11_put_10 : Dc mX11_put 10 (.aload_n 0) 1 11 := ⟨zo_42 (by decide +kernel), rfl⟩
theorem dX11_put_11 : Dc mX11_put 11 (.iload_n 1) 1 12 := ⟨zo_27 (by decide +kernel), rfl⟩
theorem dX11_put_12 : Dc mX11_put 12 (.iload_n 2) 1 13 := ⟨zo_28 (by decide +kernel), rfl⟩
theorem dX11_put_13 : Dc mX11_put 13 (.iastore) 1 14 := ⟨zo_79 (by decide +kernel), rfl⟩
theorem dX11_put_14 : Dc mX11_put 14 (.return_) 1 15 := ⟨zo_177 (by decide +kernel), rfl⟩
theorem dX11_fill_0 : Dc mX11_fill 0 (.iconst 0) 1 1 := ⟨zo_3 (by decide +kernel), rfl⟩
theorem dX11_fill_1 : Dc mX11_fill 1 (.istore_n 2) 1 2 := ⟨zo_61 (by decide +kernel), rfl⟩
theorem dX11_fill_2 : Dc mX11_fill 2 (.iload_n 2) 1 3 := ⟨zo_28 (by decide +kernel), rfl⟩
theorem dX11_fill_3 : Dc mX11_fill 3 (.aload_n 0) 1 4 := ⟨zo_42 (by decide +kernel), rfl⟩
theorem dX11_fill_4 : Dc mX11_fill 4 (.arraylength) 1 5 := ⟨zo_190 (by decide +kernel), rfl⟩
theorem dX11_fill_5 : Dc mX11_fill 5 (.if_icmp .ge 13) 3 8 := ⟨zo_162 (w := 0) (x := 13) (by decide +kernel), rfl⟩
theorem dX11_fill_8 : Dc mX11_fill 8 (.aload_n 0) 1 9 := ⟨zo_42 (by decide +kernel), rfl⟩
theorem dX11_fill_9 : Dc mX11_fill 9 (.iload_n 2) 1 10 := ⟨zo_28 (by decide +kernel), rfl⟩
theorem dX11_fill_10 : Dc mX11_fill 10 (.iload_n 1) 1 11 := ⟨zo_27 (by decide +kernel), rfl⟩
theorem dX11_fill_11 : Dc mX11_fill 11 (.iastore) 1 12 := ⟨zo_79 (by decide +kernel), rfl⟩
theorem dX11_fill_12 : Dc mX11_fill 12 (.iinc 2 1) 3 15 := ⟨zo_iinc (x := 1) (by decide +kernel), rfl⟩
theorem dX11_fill_15 : Dc mX11_fill 15 (.goto (-13)) 3 18 := ⟨zo_167 (w := 255) (x := 243) (by decide +kernel), rfl⟩
theorem dX11_fill_18 : Dc mX11_fill 18 (.return_) 1 19 := ⟨zo_177 (by decide +kernel), rfl⟩
theorem dX11_copyRow_0 : Dc mX11_copyRow 0 (.aload_n 0) 1 1 := ⟨zo_42 (by decide +kernel), rfl⟩
theorem dX11_copyRow_1 : Dc mX11_copyRow 1 (.iconst 0) 1 2 := ⟨zo_3 (by decide +kernel), rfl⟩
theorem dX11_copyRow_2 : Dc mX11_copyRow 2 (.aload_n 1) 1 3 := ⟨zo_43 (by decide +kernel), rfl⟩
theorem dX11_copyRow_3 : Dc mX11_copyRow 3 (.iconst 0) 1 4 := ⟨zo_3 (by decide +kernel), rfl⟩
theorem dX11_copyRow_4 : Dc mX11_copyRow 4 (.aload_n 0) 1 5 := ⟨zo_42 (by decide +kernel), rfl⟩
theorem dX11_copyRow_5 : Dc mX11_copyRow 5 (.arraylength) 1 6 := ⟨zo_190 (by decide +kernel), rfl⟩
theorem dX11_copyRow_6 : Dc mX11_copyRow 6 (.aload_n 1) 1 7 := ⟨zo_43 (by decide +kernel), rfl⟩
theorem dX11_copyRow_7 : Dc mX11_copyRow 7 (.arraylength) 1 8 := ⟨zo_190 (by decide +kernel), rfl⟩
theorem dX11_copyRow_8 : Dc mX11_copyRow 8 (.invokestatic 303) 3 11 := ⟨zo_184 (w := 1) (x := 47) (by decide +kernel), rfl⟩
theorem dX11_copyRow_11 : Dc mX11_copyRow 11 (.invokestatic 369) 3 14 := ⟨zo_184 (w := 1) (x := 113) (by decide +kernel), rfl⟩
theorem dX11_copyRow_14 : Dc mX11_copyRow 14 (.return_) 1 15 := ⟨zo_177 (by decide +kernel), rfl⟩
theorem dJ6_bitCount_0f7a4_0 : Dc mJ6_bitCount_0f7a4 0 (.iload_n 0) 1 1 := ⟨zo_26 (by decide +kernel), rfl⟩
theorem dJ6_bitCount_0f7a4_1 : Dc mJ6_bitCount_0f7a4 1 (.iload_n 0) 1 2 := ⟨zo_26 (by decide +kernel), rfl⟩
theorem dJ6_bitCount_0f7a4_2 : Dc mJ6_bitCount_0f7a4 2 (.iconst 1) 1 3 := ⟨zo_4 (by decide +kernel), rfl⟩
theorem dJ6_bitCount_0f7a4_3 : Dc mJ6_bitCount_0f7a4 3 (.iushr) 1 4 := ⟨zo_124 (by decide +kernel), rfl⟩
theorem dJ6_bitCount_0f7a4_4 : Dc mJ6_bitCount_0f7a4 4 (.ldc_w 265) 3 7 := ⟨zo_19 (w := 1) (x := 9) (by decide +kernel), rfl⟩
theorem dJ6_bitCount_0f7a4_7 : Dc mJ6_bitCount_0f7a4 7 (.iand) 1 8 := ⟨zo_126 (by decide +kernel), rfl⟩
theorem dJ6_bitCount_0f7a4_8 : Dc mJ6_bitCount_0f7a4 8 (.isub) 1 9 := ⟨zo_100 (by decide +kernel), rfl⟩
theorem dJ6_bitCount_0f7a4_9 : Dc mJ6_bitCount_0f7a4 9 (.istore_n 0) 1 10 := ⟨zo_59 (by decide +kernel), rfl⟩
theorem dJ6_bitCount_0f7a4_10 : Dc mJ6_bitCount_0f7a4 10 (.iload_n 0) 1 11 := ⟨zo_26 (by decide +kernel), rfl⟩
theorem dJ6_bitCount_0f7a4_11 : Dc mJ6_bitCount_0f7a4 11 (.ldc_w 266) 3 14 := ⟨zo_19 (w := 1) (x := 10) (by decide +kernel), rfl⟩
theorem dJ6_bitCount_0f7a4_14 : Dc mJ6_bitCount_0f7a4 14 (.iand) 1 15 := ⟨zo_126 (by decide +kernel), rfl⟩
theorem dJ6_bitCount_0f7a4_15 : Dc mJ6_bitCount_0f7a4 15 (.iload_n 0) 1 16 := ⟨zo_26 (by decide +kernel), rfl⟩
theorem dJ6_bitCount_0f7a4_16 : Dc mJ6_bitCount_0f7a4 16 (.iconst 2) 1 17 := ⟨zo_5 (by decide +kernel), rfl⟩
theorem dJ6_bitCount_0f7a4_17 : Dc mJ6_bitCount_0f7a4 17 (.iushr) 1 18 := ⟨zo_124 (by decide +kernel), rfl⟩
theorem dJ6_bitCount_0f7a4_18 : Dc mJ6_bitCount_0f7a4 18 (.ldc_w 266) 3 21 := ⟨zo_19 (w := 1) (x := 10) (by decide +kernel), rfl⟩
theorem dJ6_bitCount_0f7a4_21 : Dc mJ6_bitCount_0f7a4 21 (.iand) 1 22 := ⟨zo_126 (by decide +kernel), rfl⟩
theorem dJ6_bitCount_0f7a4_22 : Dc mJ6_bitCount_0f7a4 22 (.iadd) 1 23 := ⟨zo_96 (by decide +kernel), rfl⟩
theorem dJ6_bitCount_0f7a4_23 : Dc mJ6_bitCount_0f7a4 23 (.istore_n 0) 1 24 := ⟨zo_59 (by decide +kernel), rfl⟩
theorem dJ6_bitCount_0f7a4_24 : Dc mJ6_bitCount_0f7a4 24 (.iload_n 0) 1 25 := ⟨zo_26 (by decide +kernel), rfl⟩
theorem dJ6_bitCount_0f7a4_25 : Dc mJ6_bitCount_0f7a4 25 (.iload_n 0) 1 26 := ⟨zo_26 (by decide +kernel), rfl⟩
theorem dJ6_bitCount_0f7a4_26 : Dc mJ6_bitCount_0f7a4 26 (.iconst 4) 1 27 := ⟨zo_7 (by decide +kernel), rfl⟩
theorem dJ6_bitCount_0f7a4_27 : Dc mJ6_bitCount_0f7a4 27 (.iushr) 1 28 := ⟨zo_124 (by decide +kernel), rfl⟩
theorem dJ6_bitCount_0f7a4_28 : Dc mJ6_bitCount_0f7a4 28 (.iadd) 1 29 := ⟨zo_96 (by decide +kernel), rfl⟩
theorem dJ6_bitCount_0f7a4_29 : Dc mJ6_bitCount_0f7a4 29 (.ldc_w 267) 3 32 := ⟨zo_19 (w := 1) (x := 11) (by decide +kernel), rfl⟩
theorem dJ6_bitCount_0f7a4_32 : Dc mJ6_bitCount_0f7a4 32 (.iand) 1 33 := ⟨zo_126 (by decide +kernel), rfl⟩
theorem dJ6_bitCount_0f7a4_33 : Dc mJ6_bitCount_0f7a4 33 (.istore_n 0) 1 34 := ⟨zo_59 (by decide +kernel), rfl⟩
theorem dJ6_bitCount_0f7a4_34 : Dc mJ6_bitCount_0f7a4 34 (.iload_n 0) 1 35 := ⟨zo_26 (by decide +kernel), rfl⟩
theorem dJ6_bitCount_0f7a4_35 : Dc mJ6_bitCount_0f7a4 35 (.iload_n 0) 1 36 := ⟨zo_26 (by decide +kernel), rfl⟩
theorem dJ6_bitCount_0f7a4_36 : Dc mJ6_bitCount_0f7a4 36 (.bipush 8) 2 38 := ⟨zo_16 (w := 8) (by decide +kernel), rfl⟩
theorem dJ6_bitCount_0f7a4_38 : Dc mJ6_bitCount_0f7a4 38 (.iushr) 1 39 := ⟨zo_124 (by decide +kernel), rfl⟩
theorem dJ6_bitCount_0f7a4_39 : Dc mJ6_bitCount_0f7a4 39 (.iadd) 1 40 := ⟨zo_96 (by decide +kernel), rfl⟩
theorem dJ6_bitCount_0f7a4_40 : Dc mJ6_bitCount_0f7a4 40 (.istore_n 0) 1 41 := ⟨zo_59 (by decide +kernel), rfl⟩
theorem dJ6_bitCount_0f7a4_41 : Dc mJ6_bitCount_0f7a4 41 (.iload_n 0) 1 42 := ⟨zo_26 (by decide +kernel), rfl⟩
theorem dJ6_bitCount_0f7a4_42 : Dc mJ6_bitCount_0f7a4 42 (.iload_n 0) 1 43 := ⟨zo_26 (by decide +kernel), rfl⟩
theorem dJ6_bitCount_0f7a4_43 : Dc mJ6_bitCount_0f7a4 43 (.bipush 16) 2 45 := ⟨zo_16 (w := 16) (by decide +kernel), rfl⟩
theorem dJ6_bitCount_0f7a4_45 : Dc mJ6_bitCount_0f7a4 45 (.iushr) 1 46 := ⟨zo_124 (by decide +kernel), rfl⟩
theorem dJ6_bitCount_0f7a4_46 : Dc mJ6_bitCount_0f7a4 46 (.iadd) 1 47 := ⟨zo_96 (by decide +kernel), rfl⟩
theorem dJ6_bitCount_0f7a4_47 : Dc mJ6_bitCount_0f7a4 47 (.istore_n 0) 1 48 := ⟨zo_59 (by decide +kernel), rfl⟩
theorem dJ6_bitCount_0f7a4_48 : Dc mJ6_bitCount_0f7a4 48 (.iload_n 0) 1 49 := ⟨zo_26 (by decide +kernel), rfl⟩
theorem dJ6_bitCount_0f7a4_49 : Dc mJ6_bitCount_0f7a4 49 (.bipush 63) 2 51 := ⟨zo_16 (w := 63) (by decide +kernel), rfl⟩
theorem dJ6_bitCount_0f7a4_51 : Dc mJ6_bitCount_0f7a4 51 (.iand) 1 52 := ⟨zo_126 (by decide +kernel), rfl⟩
theorem dJ6_bitCount_0f7a4_52 : Dc mJ6_bitCount_0f7a4 52 (.ireturn) 1 53 := ⟨zo_172 (by decide +kernel), rfl⟩
theorem dJ9_abs_067f4_0 : Dc mJ9_abs_067f4 0 (.lload_n 0) 1 1 := ⟨zo_30 (by decide +kernel), rfl⟩
theorem dJ9_abs_067f4_1 : Dc mJ9_abs_067f4 1 (.lconst 0) 1 2 := ⟨zo_9 (by decide +kernel), rfl⟩
theorem dJ9_abs_067f4_2 : Dc mJ9_abs_067f4 2 (.lcmp) 1 3 := ⟨zo_148 (by decide +kernel), rfl⟩
theorem dJ9_abs_067f4_3 : Dc mJ9_abs_067f4 3 (.ifCond .ge 8) 3 6 := ⟨zo_156 (w := 0) (x := 8) (by decide +kernel), rfl⟩
theorem dJ9_abs_067f4_6 : Dc mJ9_abs_067f4 6 (.lload_n 0) 1 7 := ⟨zo_30 (by decide +kernel), rfl⟩
theorem dJ9_abs_067f4_7 : Dc mJ9_abs_067f4 7 (.lneg) 1 8 := ⟨zo_117 (by decide +kernel), rfl⟩
theorem dJ9_abs_067f4_8 : Dc mJ9_abs_067f4 8 (.goto 4) 3 11 := ⟨zo_167 (w := 0) (x := 4) (by decide +kernel), rfl⟩
theorem dJ9_abs_067f4_11 : Dc mJ9_abs_067f4 11 (.lload_n 0) 1 12 := ⟨zo_30 (by decide +kernel), rfl⟩
theorem dJ9_abs_067f4_12 : Dc mJ9_abs_067f4 12 (.lreturn) 1 13 := ⟨zo_173 (by decide +kernel), rfl⟩
theorem dJ9_max_7cf53_0 : Dc mJ9_max_7cf53 0 (.iload_n 0) 1 1 := ⟨zo_26 (by decide +kernel), rfl⟩
theorem dJ9_max_7cf53_1 : Dc mJ9_max_7cf53 1 (.iload_n 1) 1 2 := ⟨zo_27 (by decide +kernel), rfl⟩
theorem dJ9_max_7cf53_2 : Dc mJ9_max_7cf53 2 (.if_icmp .lt 7) 3 5 := ⟨zo_161 (w := 0) (x := 7) (by decide +kernel), rfl⟩
theorem dJ9_max_7cf53_5 : Dc mJ9_max_7cf53 5 (.iload_n 0) 1 6 := ⟨zo_26 (by decide +kernel), rfl⟩
theorem dJ9_max_7cf53_6 : Dc mJ9_max_7cf53 6 (.goto 4) 3 9 := ⟨zo_167 (w := 0) (x := 4) (by decide +kernel), rfl⟩
theorem dJ9_max_7cf53_9 : Dc mJ9_max_7cf53 9 (.iload_n 1) 1 10 := ⟨zo_27 (by decide +kernel), rfl⟩
theorem dJ9_max_7cf53_10 : Dc mJ9_max_7cf53 10 (.ireturn) 1 11 := ⟨zo_172 (by decide +kernel), rfl⟩
theorem dJ9_max_f86c9_0 : Dc mJ9_max_f86c9 0 (.lload_n 0) 1 1 := ⟨zo_30 (by decide +kernel), rfl⟩
theorem dJ9_max_f86c9_1 : Dc mJ9_max_f86c9 1 (.lload_n 2) 1 2 := ⟨zo_32 (by decide +kernel), rfl⟩
theorem dJ9_max_f86c9_2 : Dc mJ9_max_f86c9 2 (.lcmp) 1 3 := ⟨zo_148 (by decide +kernel), rfl⟩
theorem dJ9_max_f86c9_3 : Dc mJ9_max_f86c9 3 (.ifCond .lt 7) 3 6 := ⟨zo_155 (w := 0) (x := 7) (by decide +kernel), rfl⟩
theorem dJ9_max_f86c9_6 : Dc mJ9_max_f86c9 6 (.lload_n 0) 1 7 := ⟨zo_30 (by decide +kernel), rfl⟩
theorem dJ9_max_f86c9_7 : Dc mJ9_max_f86c9 7 (.goto 4) 3 10 := ⟨zo_167 (w := 0) (x := 4) (by decide +kernel), rfl⟩
theorem dJ9_max_f86c9_10 : Dc mJ9_max_f86c9 10 (.lload_n 2) 1 11 := ⟨zo_32 (by decide +kernel), rfl⟩
theorem dJ9_max_f86c9_11 : Dc mJ9_max_f86c9 11 (.lreturn) 1 12 := ⟨zo_173 (by decide +kernel), rfl⟩
theorem dJ9_min_7cf53_0 : Dc mJ9_min_7cf53 0 (.iload_n 0) 1 1 := ⟨zo_26 (by decide +kernel), rfl⟩
theorem dJ9_min_7cf53_1 : Dc mJ9_min_7cf53 1 (.iload_n 1) 1 2 := ⟨zo_27 (by decide +kernel), rfl⟩
theorem dJ9_min_7cf53_2 : Dc mJ9_min_7cf53 2 (.if_icmp .gt 7) 3 5 := ⟨zo_163 (w := 0) (x := 7) (by decide +kernel), rfl⟩
theorem dJ9_min_7cf53_5 : Dc mJ9_min_7cf53 5 (.iload_n 0) 1 6 := ⟨zo_26 (by decide +kernel), rfl⟩
theorem dJ9_min_7cf53_6 : Dc mJ9_min_7cf53 6 (.goto 4) 3 9 := ⟨zo_167 (w := 0) (x := 4) (by decide +kernel), rfl⟩
theorem dJ9_min_7cf53_9 : Dc mJ9_min_7cf53 9 (.iload_n 1) 1 10 := ⟨zo_27 (by decide +kernel), rfl⟩
theorem dJ9_min_7cf53_10 : Dc mJ9_min_7cf53 10 (.ireturn) 1 11 := ⟨zo_172 (by decide +kernel), rfl⟩
theorem dJ9_min_f86c9_0 : Dc mJ9_min_f86c9 0 (.lload_n 0) 1 1 := ⟨zo_30 (by decide +kernel), rfl⟩
theorem dJ9_min_f86c9_1 : Dc mJ9_min_f86c9 1 (.lload_n 2) 1 2 := ⟨zo_32 (by decide +kernel), rfl⟩
theorem dJ9_min_f86c9_2 : Dc mJ9_min_f86c9 2 (.lcmp) 1 3 := ⟨zo_148 (by decide +kernel), rfl⟩
theorem dJ9_min_f86c9_3 : Dc mJ9_min_f86c9 3 (.ifCond .gt 7) 3 6 := ⟨zo_157 (w := 0) (x := 7) (by decide +kernel), rfl⟩
theorem dJ9_min_f86c9_6 : Dc mJ9_min_f86c9 6 (.lload_n 0) 1 7 := ⟨zo_30 (by decide +kernel), rfl⟩
theorem dJ9_min_f86c9_7 : Dc mJ9_min_f86c9 7 (.goto 4) 3 10 := ⟨zo_167 (w := 0) (x := 4) (by decide +kernel), rfl⟩
theorem dJ9_min_f86c9_10 : Dc mJ9_min_f86c9 10 (.lload_n 2) 1 11 := ⟨zo_32 (by decide +kernel), rfl⟩
theorem dJ9_min_f86c9_11 : Dc mJ9_min_f86c9 11 (.lreturn) 1 12 := ⟨zo_173 (by decide +kernel), rfl⟩
theorem dJ0_length_8abf5_0 : Dc mJ0_length_8abf5 0 (.aload_n 0) 1 1 := ⟨zo_42 (by decide +kernel), rfl⟩
theorem dJ0_length_8abf5_1 : Dc mJ0_length_8abf5 1 (.getfield 9) 3 4 := ⟨zo_180 (w := 0) (x := 9) (by decide +kernel), rfl⟩
theorem dJ0_length_8abf5_4 : Dc mJ0_length_8abf5 4 (.arraylength) 1 5 := ⟨zo_190 (by decide +kernel), rfl⟩
theorem dJ0_length_8abf5_5 : Dc mJ0_length_8abf5 5 (.aload_n 0) 1 6 := ⟨zo_42 (by decide +kernel), rfl⟩
theorem dJ0_length_8abf5_6 : Dc mJ0_length_8abf5 6 (.invokevirtual 335) 3 9 := ⟨zo_182 (w := 1) (x := 79) (by decide +kernel), rfl⟩
theorem dJ0_length_8abf5_9 : Dc mJ0_length_8abf5 9 (.ishr) 1 10 := ⟨zo_122 (by decide +kernel), rfl⟩
theorem dJ0_length_8abf5_10 : Dc mJ0_length_8abf5 10 (.ireturn) 1 11 := ⟨zo_172 (by decide +kernel), rfl⟩
theorem dJ0_charAt_5068e_0 : Dc mJ0_charAt_5068e 0 (.aload_n 0) 1 1 := ⟨zo_42 (by decide +kernel), rfl⟩
theorem dJ0_charAt_5068e_1 : Dc mJ0_charAt_5068e 1 (.invokevirtual 492) 3 4 := ⟨zo_182 (w := 1) (x := 236) (by decide +kernel), rfl⟩
theorem dJ0_charAt_5068e_4 : Dc mJ0_charAt_5068e 4 (.ifCond .eq 12) 3 7 := ⟨zo_153 (w := 0) (x := 12) (by decide +kernel), rfl⟩
theorem dJ0_charAt_5068e_7 : Dc mJ0_charAt_5068e 7 (.aload_n 0) 1 8 := ⟨zo_42 (by decide +kernel), rfl⟩
theorem dJ0_charAt_5068e_8 : Dc mJ0_charAt_5068e 8 (.getfield 9) 3 11 := ⟨zo_180 (w := 0) (x := 9) (by decide +kernel), rfl⟩
theorem dJ0_charAt_5068e_11 : Dc mJ0_charAt_5068e 11 (.iload_n 1) 1 12 := ⟨zo_27 (by decide +kernel), rfl⟩
theorem dJ0_charAt_5068e_12 : Dc mJ0_charAt_5068e 12 (.invokestatic 495) 3 15 := ⟨zo_184 (w := 1) (x := 239) (by decide +kernel), rfl⟩
theorem dJ0_charAt_5068e_15 : Dc mJ0_charAt_5068e 15 (.ireturn) 1 16 := ⟨zo_172 (by decide +kernel), rfl⟩
theorem dJ0_charAt_5068e_16 : Dc mJ0_charAt_5068e 16 (.aload_n 0) 1 17 := ⟨zo_42 (by decide +kernel), rfl⟩
theorem dJ0_charAt_5068e_17 : Dc mJ0_charAt_5068e 17 (.getfield 9) 3 20 := ⟨zo_180 (w := 0) (x := 9) (by decide +kernel), rfl⟩
theorem dJ0_charAt_5068e_20 : Dc mJ0_charAt_5068e 20 (.iload_n 1) 1 21 := ⟨zo_27 (by decide +kernel), rfl⟩
theorem dJ0_charAt_5068e_21 : Dc mJ0_charAt_5068e 21 (.invokestatic 498) 3 24 := ⟨zo_184 (w := 1) (x := 242) (by decide +kernel), rfl⟩
theorem dJ0_charAt_5068e_24 : Dc mJ0_charAt_5068e 24 (.ireturn) 1 25 := ⟨zo_172 (by decide +kernel), rfl⟩
theorem dJ0_coder_7d493_0 : Dc mJ0_coder_7d493 0 (.getstatic 38) 3 3 := ⟨zo_178 (w := 0) (x := 38) (by decide +kernel), rfl⟩
theorem dJ0_coder_7d493_3 : Dc mJ0_coder_7d493 3 (.ifCond .eq 10) 3 6 := ⟨zo_153 (w := 0) (x := 10) (by decide +kernel), rfl⟩
theorem dJ0_coder_7d493_6 : Dc mJ0_coder_7d493 6 (.aload_n 0) 1 7 := ⟨zo_42 (by decide +kernel), rfl⟩
theorem dJ0_coder_7d493_7 : Dc mJ0_coder_7d493 7 (.getfield 15) 3 10 := ⟨zo_180 (w := 0) (x := 15) (by decide +kernel), rfl⟩
theorem dJ0_coder_7d493_10 : Dc mJ0_coder_7d493 10 (.goto 4) 3 13 := ⟨zo_167 (w := 0) (x := 4) (by decide +kernel), rfl⟩
theorem dJ0_coder_7d493_13 : Dc mJ0_coder_7d493 13 (.iconst 1) 1 14 := ⟨zo_4 (by decide +kernel), rfl⟩
theorem dJ0_coder_7d493_14 : Dc mJ0_coder_7d493 14 (.ireturn) 1 15 := ⟨zo_172 (by decide +kernel), rfl⟩
theorem dJ0_isLatin1_aae02_0 : Dc mJ0_isLatin1_aae02 0 (.getstatic 38) 3 3 := ⟨zo_178 (w := 0) (x := 38) (by decide +kernel), rfl⟩
theorem dJ0_isLatin1_aae02_3 : Dc mJ0_isLatin1_aae02 3 (.ifCond .eq 14) 3 6 := ⟨zo_153 (w := 0) (x := 14) (by decide +kernel), rfl⟩
theorem dJ0_isLatin1_aae02_6 : Dc mJ0_isLatin1_aae02 6 (.aload_n 0) 1 7 := ⟨zo_42 (by decide +kernel), rfl⟩
theorem dJ0_isLatin1_aae02_7 : Dc mJ0_isLatin1_aae02 7 (.getfield 15) 3 10 := ⟨zo_180 (w := 0) (x := 15) (by decide +kernel), rfl⟩
theorem dJ0_isLatin1_aae02_10 : Dc mJ0_isLatin1_aae02 10 (.ifCond .ne 7) 3 13 := ⟨zo_154 (w := 0) (x := 7) (by decide +kernel), rfl⟩
theorem dJ0_isLatin1_aae02_13 : Dc mJ0_isLatin1_aae02 13 (.iconst 1) 1 14 := ⟨zo_4 (by decide +kernel), rfl⟩
theorem dJ0_isLatin1_aae02_14 : Dc mJ0_isLatin1_aae02 14 (.goto 4) 3 17 := ⟨zo_167 (w := 0) (x := 4) (by decide +kernel), rfl⟩
theorem dJ0_isLatin1_aae02_17 : Dc mJ0_isLatin1_aae02 17 (.iconst 0) 1 18 := ⟨zo_3 (by decide +kernel), rfl⟩
theorem dJ0_isLatin1_aae02_18 : Dc mJ0_isLatin1_aae02 18 (.ireturn) 1 19 := ⟨zo_172 (by decide +kernel), rfl⟩
theorem dJ0_checkIndex_df160_0 : Dc mJ0_checkIndex_df160 0 (.iload_n 0) 1 1 := ⟨zo_26 (by decide +kernel), rfl⟩
theorem dJ0_checkIndex_df160_1 : Dc mJ0_checkIndex_df160 1 (.iload_n 1) 1 2 := ⟨zo_27 (by decide +kernel), rfl⟩
theorem dJ0_checkIndex_df160_2 : Dc mJ0_checkIndex_df160 2 (.getstatic 1053) 3 5 := ⟨zo_178 (w := 4) (x := 29) (by decide +kernel), rfl⟩
theorem dJ0_checkIndex_df160_5 : Dc mJ0_checkIndex_df160 5 (.invokestatic 1059) 3 8 := ⟨zo_184 (w := 4) (x := 35) (by decide +kernel), rfl⟩
theorem dJ0_checkIndex_df160_8 : Dc mJ0_checkIndex_df160 8 (.pop) 1 9 := ⟨zo_87 (by decide +kernel), rfl⟩
theorem dJ0_checkIndex_df160_9 : Dc mJ0_checkIndex_df160 9 (.return_) 1 10 := ⟨zo_177 (by decide +kernel), rfl⟩
theorem dJ1_charAt_3b067_0 : Dc mJ1_charAt_3b067 0 (.iload_n 1) 1 1 := ⟨zo_27 (by decide +kernel), rfl⟩
theorem dJ1_charAt_3b067_1 : Dc mJ1_charAt_3b067 1 (.aload_n 0) 1 2 := ⟨zo_42 (by decide +kernel), rfl⟩
theorem dJ1_charAt_3b067_2 : Dc mJ1_charAt_3b067 2 (.arraylength) 1 3 := ⟨zo_190 (by decide +kernel), rfl⟩
theorem dJ1_charAt_3b067_3 : Dc mJ1_charAt_3b067 3 (.invokestatic 9) 3 6 := ⟨zo_184 (w := 0) (x := 9) (by decide +kernel), rfl⟩
theorem dJ1_charAt_3b067_6 : Dc mJ1_charAt_3b067 6 (.aload_n 0) 1 7 := ⟨zo_42 (by decide +kernel), rfl⟩
theorem dJ1_charAt_3b067_7 : Dc mJ1_charAt_3b067 7 (.iload_n 1) 1 8 := ⟨zo_27 (by decide +kernel), rfl⟩
theorem dJ1_charAt_3b067_8 : Dc mJ1_charAt_3b067 8 (.baload) 1 9 := ⟨zo_51 (by decide +kernel), rfl⟩
theorem dJ1_charAt_3b067_9 : Dc mJ1_charAt_3b067 9 (.sipush 255) 3 12 := ⟨zo_17 (w := 0) (x := 255) (by decide +kernel), rfl⟩
theorem dJ1_charAt_3b067_12 : Dc mJ1_charAt_3b067 12 (.iand) 1 13 := ⟨zo_126 (by decide +kernel), rfl⟩
theorem dJ1_charAt_3b067_13 : Dc mJ1_charAt_3b067 13 (.i2c) 1 14 := ⟨zo_146 (by decide +kernel), rfl⟩
theorem dJ1_charAt_3b067_14 : Dc mJ1_charAt_3b067 14 (.ireturn) 1 15 := ⟨zo_172 (by decide +kernel), rfl⟩
theorem dJ2_getChar_3b067_0 : Dc mJ2_getChar_3b067 0 (.getstatic 44) 3 3 := ⟨zo_178 (w := 0) (x := 44) (by decide +kernel), rfl⟩
theorem dJ2_getChar_3b067_3 : Dc mJ2_getChar_3b067 3 (.ifCond .ne 25) 3 6 := ⟨zo_154 (w := 0) (x := 25) (by decide +kernel), rfl⟩
theorem dJ2_getChar_3b067_6 : Dc mJ2_getChar_3b067 6 (.iload_n 1) 1 7 := ⟨zo_27 (by decide +kernel), rfl⟩
theorem dJ2_getChar_3b067_7 : Dc mJ2_getChar_3b067 7 (.ifCond .lt 11) 3 10 := ⟨zo_155 (w := 0) (x := 11) (by decide +kernel), rfl⟩
theorem dJ2_getChar_3b067_10 : Dc mJ2_getChar_3b067 10 (.iload_n 1) 1 11 := ⟨zo_27 (by decide +kernel), rfl⟩
theorem dJ2_getChar_3b067_11 : Dc mJ2_getChar_3b067 11 (.aload_n 0) 1 12 := ⟨zo_42 (by decide +kernel), rfl⟩
theorem dJ2_getChar_3b067_12 : Dc mJ2_getChar_3b067 12 (.invokestatic 48) 3 15 := ⟨zo_184 (w := 0) (x := 48) (by decide +kernel), rfl⟩
theorem dJ2_getChar_3b067_15 : Dc mJ2_getChar_3b067 15 (.if_icmp .lt 13) 3 18 := ⟨zo_161 (w := 0) (x := 13) (by decide +kernel), rfl⟩
theorem dJ2_getChar_3b067_18 : Dc mJ2_getChar_3b067 18 (.new 52) 3 21 := ⟨zo_187 (w := 0) (x := 52) (by decide +kernel), rfl⟩
theorem dJ2_getChar_3b067_21 : Dc mJ2_getChar_3b067 21 (.dup) 1 22 := ⟨zo_89 (by decide +kernel), rfl⟩
theorem dJ2_getChar_3b067_22 : Dc mJ2_getChar_3b067 22 (.ldc 54) 2 24 := ⟨zo_18 (by decide +kernel), rfl⟩
theorem dJ2_getChar_3b067_24 : Dc mJ2_getChar_3b067 24 (.invokespecial 56) 3 27 := ⟨zo_183 (w := 0) (x := 56) (by decide +kernel), rfl⟩
theorem dJ2_getChar_3b067_27 : Dc mJ2_getChar_3b067 27 (.athrow) 1 28 := ⟨zo_191 (by decide +kernel), rfl⟩
theorem dJ2_getChar_3b067_28 : Dc mJ2_getChar_3b067 28 (.iload_n 1) 1 29 := ⟨zo_27 (by decide +kernel), rfl⟩
theorem dJ2_getChar_3b067_29 : Dc mJ2_getChar_3b067 29 (.iconst 1) 1 30 := ⟨zo_4 (by decide +kernel), rfl⟩
theorem dJ2_getChar_3b067_30 : Dc mJ2_getChar_3b067 30 (.ishl) 1 31 := ⟨zo_120 (by decide +kernel), rfl⟩
theorem dJ2_getChar_3b067_31 : Dc mJ2_getChar_3b067 31 (.istore_n 1) 1 32 := ⟨zo_60 (by decide +kernel), rfl⟩
theorem dJ2_getChar_3b067_32 : Dc mJ2_getChar_3b067 32 (.aload_n 0) 1 33 := ⟨zo_42 (by decide +kernel), rfl⟩
theorem dJ2_getChar_3b067_33 : Dc mJ2_getChar_3b067 33 (.iload_n 1) 1 34 := ⟨zo_27 (by decide +kernel), rfl⟩
theorem dJ2_getChar_3b067_34 : Dc mJ2_getChar_3b067 34 (.iinc 1 1) 3 37 := ⟨zo_iinc (x := 1) (by decide +kernel), rfl⟩
theorem dJ2_getChar_3b067_37 : Dc mJ2_getChar_3b067 37 (.baload) 1 38 := ⟨zo_51 (by decide +kernel), rfl⟩
theorem dJ2_getChar_3b067_38 : Dc mJ2_getChar_3b067 38 (.sipush 255) 3 41 := ⟨zo_17 (w := 0) (x := 255) (by decide +kernel), rfl⟩
theorem dJ2_getChar_3b067_41 : Dc mJ2_getChar_3b067 41 (.iand) 1 42 := ⟨zo_126 (by decide +kernel), rfl⟩
theorem dJ2_getChar_3b067_42 : Dc mJ2_getChar_3b067 42 (.getstatic 59) 3 45 := ⟨zo_178 (w := 0) (x := 59) (by decide +kernel), rfl⟩
theorem dJ2_getChar_3b067_45 : Dc mJ2_getChar_3b067 45 (.ishl) 1 46 := ⟨zo_120 (by decide +kernel), rfl⟩
theorem dJ2_getChar_3b067_46 : Dc mJ2_getChar_3b067 46 (.aload_n 0) 1 47 := ⟨zo_42 (by decide +kernel), rfl⟩
theorem dJ2_getChar_3b067_47 : Dc mJ2_getChar_3b067 47 (.iload_n 1) 1 48 := ⟨zo_27 (by decide +kernel), rfl⟩
theorem dJ2_getChar_3b067_48 : Dc mJ2_getChar_3b067 48 (.baload) 1 49 := ⟨zo_51 (by decide +kernel), rfl⟩
theorem dJ2_getChar_3b067_49 : Dc mJ2_getChar_3b067 49 (.sipush 255) 3 52 := ⟨zo_17 (w := 0) (x := 255) (by decide +kernel), rfl⟩
theorem dJ2_getChar_3b067_52 : Dc mJ2_getChar_3b067 52 (.iand) 1 53 := ⟨zo_126 (by decide +kernel), rfl⟩
theorem dJ2_getChar_3b067_53 : Dc mJ2_getChar_3b067 53 (.getstatic 63) 3 56 := ⟨zo_178 (w := 0) (x := 63) (by decide +kernel), rfl⟩
theorem dJ2_getChar_3b067_56 : Dc mJ2_getChar_3b067 56 (.ishl) 1 57 := ⟨zo_120 (by decide +kernel), rfl⟩
theorem dJ2_getChar_3b067_57 : Dc mJ2_getChar_3b067 57 (.ior) 1 58 := ⟨zo_128 (by decide +kernel), rfl⟩
theorem dJ2_getChar_3b067_58 : Dc mJ2_getChar_3b067 58 (.i2c) 1 59 := ⟨zo_146 (by decide +kernel), rfl⟩
theorem dJ2_getChar_3b067_59 : Dc mJ2_getChar_3b067 59 (.ireturn) 1 60 := ⟨zo_172 (by decide +kernel), rfl⟩
theorem dJ2_length_9d52b_0 : Dc mJ2_length_9d52b 0 (.aload_n 0) 1 1 := ⟨zo_42 (by decide +kernel), rfl⟩
theorem dJ2_length_9d52b_1 : Dc mJ2_length_9d52b 1 (.arraylength) 1 2 := ⟨zo_190 (by decide +kernel), rfl⟩
theorem dJ2_length_9d52b_2 : Dc mJ2_length_9d52b 2 (.iconst 1) 1 3 := ⟨zo_4 (by decide +kernel), rfl⟩
theorem dJ2_length_9d52b_3 : Dc mJ2_length_9d52b 3 (.ishr) 1 4 := ⟨zo_122 (by decide +kernel), rfl⟩
theorem dJ2_length_9d52b_4 : Dc mJ2_length_9d52b 4 (.ireturn) 1 5 := ⟨zo_172 (by decide +kernel), rfl⟩
theorem dJ2_charAt_3b067_0 : Dc mJ2_charAt_3b067 0 (.iload_n 1) 1 1 := ⟨zo_27 (by decide +kernel), rfl⟩
theorem dJ2_charAt_3b067_1 : Dc mJ2_charAt_3b067 1 (.aload_n 0) 1 2 := ⟨zo_42 (by decide +kernel), rfl⟩
theorem dJ2_charAt_3b067_2 : Dc mJ2_charAt_3b067 2 (.invokestatic 67) 3 5 := ⟨zo_184 (w := 0) (x := 67) (by decide +kernel), rfl⟩
theorem dJ2_charAt_3b067_5 : Dc mJ2_charAt_3b067 5 (.aload_n 0) 1 6 := ⟨zo_42 (by decide +kernel), rfl⟩
theorem dJ2_charAt_3b067_6 : Dc mJ2_charAt_3b067 6 (.iload_n 1) 1 7 := ⟨zo_27 (by decide +kernel), rfl⟩
theorem dJ2_charAt_3b067_7 : Dc mJ2_charAt_3b067 7 (.invokestatic 71) 3 10 := ⟨zo_184 (w := 0) (x := 71) (by decide +kernel), rfl⟩
theorem dJ2_charAt_3b067_10 : Dc mJ2_charAt_3b067 10 (.ireturn) 1 11 := ⟨zo_172 (by decide +kernel), rfl⟩
theorem dJ2_checkIndex_2214a_0 : Dc mJ2_checkIndex_2214a 0 (.iload_n 0) 1 1 := ⟨zo_26 (by decide +kernel), rfl⟩
theorem dJ2_checkIndex_2214a_1 : Dc mJ2_checkIndex_2214a 1 (.aload_n 1) 1 2 := ⟨zo_43 (by decide +kernel), rfl⟩
theorem dJ2_checkIndex_2214a_2 : Dc mJ2_checkIndex_2214a 2 (.invokestatic 48) 3 5 := ⟨zo_184 (w := 0) (x := 48) (by decide +kernel), rfl⟩
theorem dJ2_checkIndex_2214a_5 : Dc mJ2_checkIndex_2214a 5 (.invokestatic 414) 3 8 := ⟨zo_184 (w := 1) (x := 158) (by decide +kernel), rfl⟩
theorem dJ2_checkIndex_2214a_8 : Dc mJ2_checkIndex_2214a 8 (.return_) 1 9 := ⟨zo_177 (by decide +kernel), rfl⟩
theorem dJ3_checkIndex_8e157_0 : Dc mJ3_checkIndex_8e157 0 (.iload_n 0) 1 1 := ⟨zo_26 (by decide +kernel), rfl⟩
theorem dJ3_checkIndex_8e157_1 : Dc mJ3_checkIndex_8e157 1 (.ifCond .lt 8) 3 4 := ⟨zo_155 (w := 0) (x := 8) (by decide +kernel), rfl⟩
theorem dJ3_checkIndex_8e157_4 : Dc mJ3_checkIndex_8e157 4 (.iload_n 0) 1 5 := ⟨zo_26 (by decide +kernel), rfl⟩
theorem dJ3_checkIndex_8e157_5 : Dc mJ3_checkIndex_8e157 5 (.iload_n 1) 1 6 := ⟨zo_27 (by decide +kernel), rfl⟩
theorem dJ3_checkIndex_8e157_6 : Dc mJ3_checkIndex_8e157 6 (.if_icmp .lt 10) 3 9 := ⟨zo_161 (w := 0) (x := 10) (by decide +kernel), rfl⟩
theorem dJ3_checkIndex_8e157_9 : Dc mJ3_checkIndex_8e157 9 (.aload_n 2) 1 10 := ⟨zo_44 (by decide +kernel), rfl⟩
theorem dJ3_checkIndex_8e157_10 : Dc mJ3_checkIndex_8e157 10 (.iload_n 0) 1 11 := ⟨zo_26 (by decide +kernel), rfl⟩
theorem dJ3_checkIndex_8e157_11 : Dc mJ3_checkIndex_8e157 11 (.iload_n 1) 1 12 := ⟨zo_27 (by decide +kernel), rfl⟩
theorem dJ3_checkIndex_8e157_12 : Dc mJ3_checkIndex_8e157 12 (.invokestatic 95) 3 15 := ⟨zo_184 (w := 0) (x := 95) (by decide +kernel), rfl⟩
theorem dJ3_checkIndex_8e157_15 : Dc mJ3_checkIndex_8e157 15 (.athrow) 1 16 := ⟨zo_191 (by decide +kernel), rfl⟩
theorem dJ3_checkIndex_8e157_16 : Dc mJ3_checkIndex_8e157 16 (.iload_n 0) 1 17 := ⟨zo_26 (by decide +kernel), rfl⟩
theorem dJ3_checkIndex_8e157_17 : Dc mJ3_checkIndex_8e157 17 (.ireturn) 1 18 := ⟨zo_172 (by decide +kernel), rfl⟩
