/-! printed by wip/whole/gen_dec.py: decode rows -/
theorem k_dX0_init_0 : decode (mX0_init).2.1 0 = .ok ((.aload_n 0), 1) ∧ decode (mX0_init).2.1 1 = .ok ((.invokespecial 3), 3) ∧ decode (mX0_init).2.1 4 = .ok ((.aload_n 0), 1) ∧ decode (mX0_init).2.1 5 = .ok ((.new 9), 3) ∧ decode (mX0_init).2.1 8 = .ok ((.dup), 1) ∧ decode (mX0_init).2.1 9 = .ok ((.invokespecial 11), 3) := by decide +kernel
theorem dX0_init_0 : Dc mX0_init 0 (.aload_n 0) 1 1 := ⟨k_dX0_init_0.1, rfl⟩
theorem dX0_init_1 : Dc mX0_init 1 (.invokespecial 3) 3 4 := ⟨k_dX0_init_0.2.1, rfl⟩
theorem dX0_init_4 : Dc mX0_init 4 (.aload_n 0) 1 5 := ⟨k_dX0_init_0.2.2.1, rfl⟩
theorem dX0_init_5 : Dc mX0_init 5 (.new 9) 3 8 := ⟨k_dX0_init_0.2.2.2.1, rfl⟩
theorem dX0_init_8 : Dc mX0_init 8 (.dup) 1 9 := ⟨k_dX0_init_0.2.2.2.2.1, rfl⟩
theorem dX0_init_9 : Dc mX0_init 9 (.invokespecial 11) 3 12 := ⟨k_dX0_init_0.2.2.2.2.2, rfl⟩
theorem k_dX0_init_12 : decode (mX0_init).2.1 12 = .ok ((.putfield 12), 3) ∧ decode (mX0_init).2.1 15 = .ok ((.aload_n 0), 1) ∧ decode (mX0_init).2.1 16 = .ok ((.bipush 6), 2) ∧ decode (mX0_init).2.1 18 = .ok ((.newarray .int), 2) ∧ decode (mX0_init).2.1 20 = .ok ((.putfield 18), 3) ∧ decode (mX0_init).2.1 23 = .ok ((.aload_n 0), 1) := by decide +kernel
theorem dX0_init_12 : Dc mX0_init 12 (.putfield 12) 3 15 := ⟨k_dX0_init_12.1, rfl⟩
theorem dX0_init_15 : Dc mX0_init 15 (.aload_n 0) 1 16 := ⟨k_dX0_init_12.2.1, rfl⟩
theorem dX0_init_16 : Dc mX0_init 16 (.bipush 6) 2 18 := ⟨k_dX0_init_12.2.2.1, rfl⟩
theorem dX0_init_18 : Dc mX0_init 18 (.newarray .int) 2 20 := ⟨k_dX0_init_12.2.2.2.1, rfl⟩
theorem dX0_init_20 : Dc mX0_init 20 (.putfield 18) 3 23 := ⟨k_dX0_init_12.2.2.2.2.1, rfl⟩
theorem dX0_init_23 : Dc mX0_init 23 (.aload_n 0) 1 24 := ⟨k_dX0_init_12.2.2.2.2.2, rfl⟩
theorem k_dX0_init_24 : decode (mX0_init).2.1 24 = .ok ((.iconst 0), 1) ∧ decode (mX0_init).2.1 25 = .ok ((.putfield 22), 3) ∧ decode (mX0_init).2.1 28 = .ok ((.aload_n 0), 1) ∧ decode (mX0_init).2.1 29 = .ok ((.bipush 7), 2) ∧ decode (mX0_init).2.1 31 = .ok ((.newarray .long), 2) ∧ decode (mX0_init).2.1 33 = .ok ((.putfield 26), 3) := by decide +kernel
theorem dX0_init_24 : Dc mX0_init 24 (.iconst 0) 1 25 := ⟨k_dX0_init_24.1, rfl⟩
theorem dX0_init_25 : Dc mX0_init 25 (.putfield 22) 3 28 := ⟨k_dX0_init_24.2.1, rfl⟩
theorem dX0_init_28 : Dc mX0_init 28 (.aload_n 0) 1 29 := ⟨k_dX0_init_24.2.2.1, rfl⟩
theorem dX0_init_29 : Dc mX0_init 29 (.bipush 7) 2 31 := ⟨k_dX0_init_24.2.2.2.1, rfl⟩
theorem dX0_init_31 : Dc mX0_init 31 (.newarray .long) 2 33 := ⟨k_dX0_init_24.2.2.2.2.1, rfl⟩
theorem dX0_init_33 : Dc mX0_init 33 (.putfield 26) 3 36 := ⟨k_dX0_init_24.2.2.2.2.2, rfl⟩
theorem k_dX0_init_36 : decode (mX0_init).2.1 36 = .ok ((.aload_n 0), 1) ∧ decode (mX0_init).2.1 37 = .ok ((.iconst (-1)), 1) ∧ decode (mX0_init).2.1 38 = .ok ((.putfield 30), 3) ∧ decode (mX0_init).2.1 41 = .ok ((.aload_n 0), 1) ∧ decode (mX0_init).2.1 42 = .ok ((.iconst 1), 1) ∧ decode (mX0_init).2.1 43 = .ok ((.putfield 33), 3) := by decide +kernel
theorem dX0_init_36 : Dc mX0_init 36 (.aload_n 0) 1 37 := ⟨k_dX0_init_36.1, rfl⟩
theorem dX0_init_37 : Dc mX0_init 37 (.iconst (-1)) 1 38 := ⟨k_dX0_init_36.2.1, rfl⟩
theorem dX0_init_38 : Dc mX0_init 38 (.putfield 30) 3 41 := ⟨k_dX0_init_36.2.2.1, rfl⟩
theorem dX0_init_41 : Dc mX0_init 41 (.aload_n 0) 1 42 := ⟨k_dX0_init_36.2.2.2.1, rfl⟩
theorem dX0_init_42 : Dc mX0_init 42 (.iconst 1) 1 43 := ⟨k_dX0_init_36.2.2.2.2.1, rfl⟩
theorem dX0_init_43 : Dc mX0_init 43 (.putfield 33) 3 46 := ⟨k_dX0_init_36.2.2.2.2.2, rfl⟩
theorem k_dX0_init_46 : decode (mX0_init).2.1 46 = .ok ((.aload_n 0), 1) ∧ decode (mX0_init).2.1 47 = .ok ((.iconst 1), 1) ∧ decode (mX0_init).2.1 48 = .ok ((.putfield 37), 3) ∧ decode (mX0_init).2.1 51 = .ok ((.aload_n 0), 1) ∧ decode (mX0_init).2.1 52 = .ok ((.aload_n 1), 1) ∧ decode (mX0_init).2.1 53 = .ok ((.putfield 40), 3) := by decide +kernel
theorem dX0_init_46 : Dc mX0_init 46 (.aload_n 0) 1 47 := ⟨k_dX0_init_46.1, rfl⟩
theorem dX0_init_47 : Dc mX0_init 47 (.iconst 1) 1 48 := ⟨k_dX0_init_46.2.1, rfl⟩
theorem dX0_init_48 : Dc mX0_init 48 (.putfield 37) 3 51 := ⟨k_dX0_init_46.2.2.1, rfl⟩
theorem dX0_init_51 : Dc mX0_init 51 (.aload_n 0) 1 52 := ⟨k_dX0_init_46.2.2.2.1, rfl⟩
theorem dX0_init_52 : Dc mX0_init 52 (.aload_n 1) 1 53 := ⟨k_dX0_init_46.2.2.2.2.1, rfl⟩
theorem dX0_init_53 : Dc mX0_init 53 (.putfield 40) 3 56 := ⟨k_dX0_init_46.2.2.2.2.2, rfl⟩
theorem dX0_init_56 : Dc mX0_init 56 (.return_) 1 57 := ⟨by decide +kernel, rfl⟩
theorem k_dX0_begin_0 : decode (mX0_begin).2.1 0 = .ok ((.aload_n 0), 1) ∧ decode (mX0_begin).2.1 1 = .ok ((.getfield 12), 3) ∧ decode (mX0_begin).2.1 4 = .ok ((.aload_n 1), 1) ∧ decode (mX0_begin).2.1 5 = .ok ((.invokevirtual 44), 3) ∧ decode (mX0_begin).2.1 8 = .ok ((.aload_n 0), 1) ∧ decode (mX0_begin).2.1 9 = .ok ((.getfield 40), 3) := by decide +kernel
theorem dX0_begin_0 : Dc mX0_begin 0 (.aload_n 0) 1 1 := ⟨k_dX0_begin_0.1, rfl⟩
theorem dX0_begin_1 : Dc mX0_begin 1 (.getfield 12) 3 4 := ⟨k_dX0_begin_0.2.1, rfl⟩
theorem dX0_begin_4 : Dc mX0_begin 4 (.aload_n 1) 1 5 := ⟨k_dX0_begin_0.2.2.1, rfl⟩
theorem dX0_begin_5 : Dc mX0_begin 5 (.invokevirtual 44) 3 8 := ⟨k_dX0_begin_0.2.2.2.1, rfl⟩
theorem dX0_begin_8 : Dc mX0_begin 8 (.aload_n 0) 1 9 := ⟨k_dX0_begin_0.2.2.2.2.1, rfl⟩
theorem dX0_begin_9 : Dc mX0_begin 9 (.getfield 40) 3 12 := ⟨k_dX0_begin_0.2.2.2.2.2, rfl⟩
theorem k_dX0_begin_12 : decode (mX0_begin).2.1 12 = .ok ((.getfield 48), 3) ∧ decode (mX0_begin).2.1 15 = .ok ((.getfield 54), 3) ∧ decode (mX0_begin).2.1 18 = .ok ((.aload_n 0), 1) ∧ decode (mX0_begin).2.1 19 = .ok ((.getfield 18), 3) ∧ decode (mX0_begin).2.1 22 = .ok ((.invokestatic 59), 3) ∧ decode (mX0_begin).2.1 25 = .ok ((.aload_n 0), 1) := by decide +kernel
theorem dX0_begin_12 : Dc mX0_begin 12 (.getfield 48) 3 15 := ⟨k_dX0_begin_12.1, rfl⟩
theorem dX0_begin_15 : Dc mX0_begin 15 (.getfield 54) 3 18 := ⟨k_dX0_begin_12.2.1, rfl⟩
theorem dX0_begin_18 : Dc mX0_begin 18 (.aload_n 0) 1 19 := ⟨k_dX0_begin_12.2.2.1, rfl⟩
theorem dX0_begin_19 : Dc mX0_begin 19 (.getfield 18) 3 22 := ⟨k_dX0_begin_12.2.2.2.1, rfl⟩
theorem dX0_begin_22 : Dc mX0_begin 22 (.invokestatic 59) 3 25 := ⟨k_dX0_begin_12.2.2.2.2.1, rfl⟩
theorem dX0_begin_25 : Dc mX0_begin 25 (.aload_n 0) 1 26 := ⟨k_dX0_begin_12.2.2.2.2.2, rfl⟩
theorem k_dX0_begin_26 : decode (mX0_begin).2.1 26 = .ok ((.iconst 0), 1) ∧ decode (mX0_begin).2.1 27 = .ok ((.putfield 22), 3) ∧ decode (mX0_begin).2.1 30 = .ok ((.aload_n 0), 1) ∧ decode (mX0_begin).2.1 31 = .ok ((.iconst (-1)), 1) ∧ decode (mX0_begin).2.1 32 = .ok ((.putfield 30), 3) ∧ decode (mX0_begin).2.1 35 = .ok ((.aload_n 0), 1) := by decide +kernel
theorem dX0_begin_26 : Dc mX0_begin 26 (.iconst 0) 1 27 := ⟨k_dX0_begin_26.1, rfl⟩
theorem dX0_begin_27 : Dc mX0_begin 27 (.putfield 22) 3 30 := ⟨k_dX0_begin_26.2.1, rfl⟩
theorem dX0_begin_30 : Dc mX0_begin 30 (.aload_n 0) 1 31 := ⟨k_dX0_begin_26.2.2.1, rfl⟩
theorem dX0_begin_31 : Dc mX0_begin 31 (.iconst (-1)) 1 32 := ⟨k_dX0_begin_26.2.2.2.1, rfl⟩
theorem dX0_begin_32 : Dc mX0_begin 32 (.putfield 30) 3 35 := ⟨k_dX0_begin_26.2.2.2.2.1, rfl⟩
theorem dX0_begin_35 : Dc mX0_begin 35 (.aload_n 0) 1 36 := ⟨k_dX0_begin_26.2.2.2.2.2, rfl⟩
theorem k_dX0_begin_36 : decode (mX0_begin).2.1 36 = .ok ((.iconst 1), 1) ∧ decode (mX0_begin).2.1 37 = .ok ((.putfield 33), 3) ∧ decode (mX0_begin).2.1 40 = .ok ((.aload_n 0), 1) ∧ decode (mX0_begin).2.1 41 = .ok ((.iconst 1), 1) ∧ decode (mX0_begin).2.1 42 = .ok ((.putfield 37), 3) ∧ decode (mX0_begin).2.1 45 = .ok ((.return_), 1) := by decide +kernel
theorem dX0_begin_36 : Dc mX0_begin 36 (.iconst 1) 1 37 := ⟨k_dX0_begin_36.1, rfl⟩
theorem dX0_begin_37 : Dc mX0_begin 37 (.putfield 33) 3 40 := ⟨k_dX0_begin_36.2.1, rfl⟩
theorem dX0_begin_40 : Dc mX0_begin 40 (.aload_n 0) 1 41 := ⟨k_dX0_begin_36.2.2.1, rfl⟩
theorem dX0_begin_41 : Dc mX0_begin 41 (.iconst 1) 1 42 := ⟨k_dX0_begin_36.2.2.2.1, rfl⟩
theorem dX0_begin_42 : Dc mX0_begin 42 (.putfield 37) 3 45 := ⟨k_dX0_begin_36.2.2.2.2.1, rfl⟩
theorem dX0_begin_45 : Dc mX0_begin 45 (.return_) 1 46 := ⟨k_dX0_begin_36.2.2.2.2.2, rfl⟩
theorem k_dX0_otherwise_0 : decode (mX0_otherwise).2.1 0 = .ok ((.aload_n 0), 1) ∧ decode (mX0_otherwise).2.1 1 = .ok ((.iload_n 1), 1) ∧ decode (mX0_otherwise).2.1 2 = .ok ((.iconst 1), 1) ∧ decode (mX0_otherwise).2.1 3 = .ok ((.if_icmp .ne 7), 3) ∧ decode (mX0_otherwise).2.1 6 = .ok ((.iconst 2), 1) ∧ decode (mX0_otherwise).2.1 7 = .ok ((.goto 4), 3) := by decide +kernel
theorem dX0_otherwise_0 : Dc mX0_otherwise 0 (.aload_n 0) 1 1 := ⟨k_dX0_otherwise_0.1, rfl⟩
theorem dX0_otherwise_1 : Dc mX0_otherwise 1 (.iload_n 1) 1 2 := ⟨k_dX0_otherwise_0.2.1, rfl⟩
theorem dX0_otherwise_2 : Dc mX0_otherwise 2 (.iconst 1) 1 3 := ⟨k_dX0_otherwise_0.2.2.1, rfl⟩
theorem dX0_otherwise_3 : Dc mX0_otherwise 3 (.if_icmp .ne 7) 3 6 := ⟨k_dX0_otherwise_0.2.2.2.1, rfl⟩
theorem dX0_otherwise_6 : Dc mX0_otherwise 6 (.iconst 2) 1 7 := ⟨k_dX0_otherwise_0.2.2.2.2.1, rfl⟩
theorem dX0_otherwise_7 : Dc mX0_otherwise 7 (.goto 4) 3 10 := ⟨k_dX0_otherwise_0.2.2.2.2.2, rfl⟩
theorem k_dX0_otherwise_10 : decode (mX0_otherwise).2.1 10 = .ok ((.iconst 0), 1) ∧ decode (mX0_otherwise).2.1 11 = .ok ((.putfield 22), 3) ∧ decode (mX0_otherwise).2.1 14 = .ok ((.aload_n 0), 1) ∧ decode (mX0_otherwise).2.1 15 = .ok ((.iload_n 1), 1) ∧ decode (mX0_otherwise).2.1 16 = .ok ((.iconst 2), 1) ∧ decode (mX0_otherwise).2.1 17 = .ok ((.if_icmp .ne 7), 3) := by decide +kernel
theorem dX0_otherwise_10 : Dc mX0_otherwise 10 (.iconst 0) 1 11 := ⟨k_dX0_otherwise_10.1, rfl⟩
theorem dX0_otherwise_11 : Dc mX0_otherwise 11 (.putfield 22) 3 14 := ⟨k_dX0_otherwise_10.2.1, rfl⟩
theorem dX0_otherwise_14 : Dc mX0_otherwise 14 (.aload_n 0) 1 15 := ⟨k_dX0_otherwise_10.2.2.1, rfl⟩
theorem dX0_otherwise_15 : Dc mX0_otherwise 15 (.iload_n 1) 1 16 := ⟨k_dX0_otherwise_10.2.2.2.1, rfl⟩
theorem dX0_otherwise_16 : Dc mX0_otherwise 16 (.iconst 2) 1 17 := ⟨k_dX0_otherwise_10.2.2.2.2.1, rfl⟩
theorem dX0_otherwise_17 : Dc mX0_otherwise 17 (.if_icmp .ne 7) 3 20 := ⟨k_dX0_otherwise_10.2.2.2.2.2, rfl⟩
theorem k_dX0_otherwise_20 : decode (mX0_otherwise).2.1 20 = .ok ((.iload_n 2), 1) ∧ decode (mX0_otherwise).2.1 21 = .ok ((.goto 4), 3) ∧ decode (mX0_otherwise).2.1 24 = .ok ((.iconst (-1)), 1) ∧ decode (mX0_otherwise).2.1 25 = .ok ((.putfield 30), 3) ∧ decode (mX0_otherwise).2.1 28 = .ok ((.aload_n 0), 1) ∧ decode (mX0_otherwise).2.1 29 = .ok ((.iload_n 1), 1) := by decide +kernel
theorem dX0_otherwise_20 : Dc mX0_otherwise 20 (.iload_n 2) 1 21 := ⟨k_dX0_otherwise_20.1, rfl⟩
theorem dX0_otherwise_21 : Dc mX0_otherwise 21 (.goto 4) 3 24 := ⟨k_dX0_otherwise_20.2.1, rfl⟩
theorem dX0_otherwise_24 : Dc mX0_otherwise 24 (.iconst (-1)) 1 25 := ⟨k_dX0_otherwise_20.2.2.1, rfl⟩
theorem dX0_otherwise_25 : Dc mX0_otherwise 25 (.putfield 30) 3 28 := ⟨k_dX0_otherwise_20.2.2.2.1, rfl⟩
theorem dX0_otherwise_28 : Dc mX0_otherwise 28 (.aload_n 0) 1 29 := ⟨k_dX0_otherwise_20.2.2.2.2.1, rfl⟩
theorem dX0_otherwise_29 : Dc mX0_otherwise 29 (.iload_n 1) 1 30 := ⟨k_dX0_otherwise_20.2.2.2.2.2, rfl⟩
theorem k_dX0_otherwise_30 : decode (mX0_otherwise).2.1 30 = .ok ((.iconst 3), 1) ∧ decode (mX0_otherwise).2.1 31 = .ok ((.if_icmp .eq 7), 3) ∧ decode (mX0_otherwise).2.1 34 = .ok ((.iconst 1), 1) ∧ decode (mX0_otherwise).2.1 35 = .ok ((.goto 4), 3) ∧ decode (mX0_otherwise).2.1 38 = .ok ((.iconst 0), 1) ∧ decode (mX0_otherwise).2.1 39 = .ok ((.putfield 33), 3) := by decide +kernel
theorem dX0_otherwise_30 : Dc mX0_otherwise 30 (.iconst 3) 1 31 := ⟨k_dX0_otherwise_30.1, rfl⟩
theorem dX0_otherwise_31 : Dc mX0_otherwise 31 (.if_icmp .eq 7) 3 34 := ⟨k_dX0_otherwise_30.2.1, rfl⟩
theorem dX0_otherwise_34 : Dc mX0_otherwise 34 (.iconst 1) 1 35 := ⟨k_dX0_otherwise_30.2.2.1, rfl⟩
theorem dX0_otherwise_35 : Dc mX0_otherwise 35 (.goto 4) 3 38 := ⟨k_dX0_otherwise_30.2.2.2.1, rfl⟩
theorem dX0_otherwise_38 : Dc mX0_otherwise 38 (.iconst 0) 1 39 := ⟨k_dX0_otherwise_30.2.2.2.2.1, rfl⟩
theorem dX0_otherwise_39 : Dc mX0_otherwise 39 (.putfield 33) 3 42 := ⟨k_dX0_otherwise_30.2.2.2.2.2, rfl⟩
theorem k_dX0_otherwise_42 : decode (mX0_otherwise).2.1 42 = .ok ((.aload_n 0), 1) ∧ decode (mX0_otherwise).2.1 43 = .ok ((.iload_n 1), 1) ∧ decode (mX0_otherwise).2.1 44 = .ok ((.iconst 4), 1) ∧ decode (mX0_otherwise).2.1 45 = .ok ((.if_icmp .eq 7), 3) ∧ decode (mX0_otherwise).2.1 48 = .ok ((.iconst 1), 1) ∧ decode (mX0_otherwise).2.1 49 = .ok ((.goto 4), 3) := by decide +kernel
theorem dX0_otherwise_42 : Dc mX0_otherwise 42 (.aload_n 0) 1 43 := ⟨k_dX0_otherwise_42.1, rfl⟩
theorem dX0_otherwise_43 : Dc mX0_otherwise 43 (.iload_n 1) 1 44 := ⟨k_dX0_otherwise_42.2.1, rfl⟩
theorem dX0_otherwise_44 : Dc mX0_otherwise 44 (.iconst 4) 1 45 := ⟨k_dX0_otherwise_42.2.2.1, rfl⟩
theorem dX0_otherwise_45 : Dc mX0_otherwise 45 (.if_icmp .eq 7) 3 48 := ⟨k_dX0_otherwise_42.2.2.2.1, rfl⟩
theorem dX0_otherwise_48 : Dc mX0_otherwise 48 (.iconst 1) 1 49 := ⟨k_dX0_otherwise_42.2.2.2.2.1, rfl⟩
theorem dX0_otherwise_49 : Dc mX0_otherwise 49 (.goto 4) 3 52 := ⟨k_dX0_otherwise_42.2.2.2.2.2, rfl⟩
theorem k_dX0_otherwise_52 : decode (mX0_otherwise).2.1 52 = .ok ((.iconst 0), 1) ∧ decode (mX0_otherwise).2.1 53 = .ok ((.putfield 37), 3) ∧ decode (mX0_otherwise).2.1 56 = .ok ((.iload_n 1), 1) ∧ decode (mX0_otherwise).2.1 57 = .ok ((.iconst 5), 1) ∧ decode (mX0_otherwise).2.1 58 = .ok ((.if_icmp .ne 12), 3) ∧ decode (mX0_otherwise).2.1 61 = .ok ((.aload_n 0), 1) := by decide +kernel
theorem dX0_otherwise_52 : Dc mX0_otherwise 52 (.iconst 0) 1 53 := ⟨k_dX0_otherwise_52.1, rfl⟩
theorem dX0_otherwise_53 : Dc mX0_otherwise 53 (.putfield 37) 3 56 := ⟨k_dX0_otherwise_52.2.1, rfl⟩
theorem dX0_otherwise_56 : Dc mX0_otherwise 56 (.iload_n 1) 1 57 := ⟨k_dX0_otherwise_52.2.2.1, rfl⟩
theorem dX0_otherwise_57 : Dc mX0_otherwise 57 (.iconst 5) 1 58 := ⟨k_dX0_otherwise_52.2.2.2.1, rfl⟩
theorem dX0_otherwise_58 : Dc mX0_otherwise 58 (.if_icmp .ne 12) 3 61 := ⟨k_dX0_otherwise_52.2.2.2.2.1, rfl⟩
theorem dX0_otherwise_61 : Dc mX0_otherwise 61 (.aload_n 0) 1 62 := ⟨k_dX0_otherwise_52.2.2.2.2.2, rfl⟩
theorem k_dX0_otherwise_62 : decode (mX0_otherwise).2.1 62 = .ok ((.getfield 18), 3) ∧ decode (mX0_otherwise).2.1 65 = .ok ((.bipush 99), 2) ∧ decode (mX0_otherwise).2.1 67 = .ok ((.invokestatic 63), 3) ∧ decode (mX0_otherwise).2.1 70 = .ok ((.return_), 1) := by decide +kernel
theorem dX0_otherwise_62 : Dc mX0_otherwise 62 (.getfield 18) 3 65 := ⟨k_dX0_otherwise_62.1, rfl⟩
theorem dX0_otherwise_65 : Dc mX0_otherwise 65 (.bipush 99) 2 67 := ⟨k_dX0_otherwise_62.2.1, rfl⟩
theorem dX0_otherwise_67 : Dc mX0_otherwise 67 (.invokestatic 63) 3 70 := ⟨k_dX0_otherwise_62.2.2.1, rfl⟩
theorem dX0_otherwise_70 : Dc mX0_otherwise 70 (.return_) 1 71 := ⟨k_dX0_otherwise_62.2.2.2, rfl⟩
theorem k_dX0_pass_0 : decode (mX0_pass).2.1 0 = .ok ((.iconst 0), 1) ∧ decode (mX0_pass).2.1 1 = .ok ((.istore_n 2), 1) ∧ decode (mX0_pass).2.1 2 = .ok ((.iload_n 2), 1) ∧ decode (mX0_pass).2.1 3 = .ok ((.iload_n 1), 1) ∧ decode (mX0_pass).2.1 4 = .ok ((.if_icmp .ge 185), 3) ∧ decode (mX0_pass).2.1 7 = .ok ((.aload_n 0), 1) := by decide +kernel
theorem dX0_pass_0 : Dc mX0_pass 0 (.iconst 0) 1 1 := ⟨k_dX0_pass_0.1, rfl⟩
theorem dX0_pass_1 : Dc mX0_pass 1 (.istore_n 2) 1 2 := ⟨k_dX0_pass_0.2.1, rfl⟩
theorem dX0_pass_2 : Dc mX0_pass 2 (.iload_n 2) 1 3 := ⟨k_dX0_pass_0.2.2.1, rfl⟩
theorem dX0_pass_3 : Dc mX0_pass 3 (.iload_n 1) 1 4 := ⟨k_dX0_pass_0.2.2.2.1, rfl⟩
theorem dX0_pass_4 : Dc mX0_pass 4 (.if_icmp .ge 185) 3 7 := ⟨k_dX0_pass_0.2.2.2.2.1, rfl⟩
theorem dX0_pass_7 : Dc mX0_pass 7 (.aload_n 0) 1 8 := ⟨k_dX0_pass_0.2.2.2.2.2, rfl⟩
theorem k_dX0_pass_8 : decode (mX0_pass).2.1 8 = .ok ((.invokevirtual 67), 3) ∧ decode (mX0_pass).2.1 11 = .ok ((.istore_n 3), 1) ∧ decode (mX0_pass).2.1 12 = .ok ((.aload_n 0), 1) ∧ decode (mX0_pass).2.1 13 = .ok ((.getfield 12), 3) ∧ decode (mX0_pass).2.1 16 = .ok ((.dup), 1) ∧ decode (mX0_pass).2.1 17 = .ok ((.getfield 71), 3) := by decide +kernel
theorem dX0_pass_8 : Dc mX0_pass 8 (.invokevirtual 67) 3 11 := ⟨k_dX0_pass_8.1, rfl⟩
theorem dX0_pass_11 : Dc mX0_pass 11 (.istore_n 3) 1 12 := ⟨k_dX0_pass_8.2.1, rfl⟩
theorem dX0_pass_12 : Dc mX0_pass 12 (.aload_n 0) 1 13 := ⟨k_dX0_pass_8.2.2.1, rfl⟩
theorem dX0_pass_13 : Dc mX0_pass 13 (.getfield 12) 3 16 := ⟨k_dX0_pass_8.2.2.2.1, rfl⟩
theorem dX0_pass_16 : Dc mX0_pass 16 (.dup) 1 17 := ⟨k_dX0_pass_8.2.2.2.2.1, rfl⟩
theorem dX0_pass_17 : Dc mX0_pass 17 (.getfield 71) 3 20 := ⟨k_dX0_pass_8.2.2.2.2.2, rfl⟩
theorem k_dX0_pass_20 : decode (mX0_pass).2.1 20 = .ok ((.iload_n 3), 1) ∧ decode (mX0_pass).2.1 21 = .ok ((.ifCond .eq 7), 3) ∧ decode (mX0_pass).2.1 24 = .ok ((.iconst 1), 1) ∧ decode (mX0_pass).2.1 25 = .ok ((.goto 4), 3) ∧ decode (mX0_pass).2.1 28 = .ok ((.iconst 0), 1) ∧ decode (mX0_pass).2.1 29 = .ok ((.iadd), 1) := by decide +kernel
theorem dX0_pass_20 : Dc mX0_pass 20 (.iload_n 3) 1 21 := ⟨k_dX0_pass_20.1, rfl⟩
theorem dX0_pass_21 : Dc mX0_pass 21 (.ifCond .eq 7) 3 24 := ⟨k_dX0_pass_20.2.1, rfl⟩
theorem dX0_pass_24 : Dc mX0_pass 24 (.iconst 1) 1 25 := ⟨k_dX0_pass_20.2.2.1, rfl⟩
theorem dX0_pass_25 : Dc mX0_pass 25 (.goto 4) 3 28 := ⟨k_dX0_pass_20.2.2.2.1, rfl⟩
theorem dX0_pass_28 : Dc mX0_pass 28 (.iconst 0) 1 29 := ⟨k_dX0_pass_20.2.2.2.2.1, rfl⟩
theorem dX0_pass_29 : Dc mX0_pass 29 (.iadd) 1 30 := ⟨k_dX0_pass_20.2.2.2.2.2, rfl⟩
theorem k_dX0_pass_30 : decode (mX0_pass).2.1 30 = .ok ((.putfield 71), 3) ∧ decode (mX0_pass).2.1 33 = .ok ((.aload_n 0), 1) ∧ decode (mX0_pass).2.1 34 = .ok ((.getfield 12), 3) ∧ decode (mX0_pass).2.1 37 = .ok ((.iload_n 3), 1) ∧ decode (mX0_pass).2.1 38 = .ok ((.ifCond .eq 15), 3) ∧ decode (mX0_pass).2.1 41 = .ok ((.aload_n 0), 1) := by decide +kernel
theorem dX0_pass_30 : Dc mX0_pass 30 (.putfield 71) 3 33 := ⟨k_dX0_pass_30.1, rfl⟩
theorem dX0_pass_33 : Dc mX0_pass 33 (.aload_n 0) 1 34 := ⟨k_dX0_pass_30.2.1, rfl⟩
theorem dX0_pass_34 : Dc mX0_pass 34 (.getfield 12) 3 37 := ⟨k_dX0_pass_30.2.2.1, rfl⟩
theorem dX0_pass_37 : Dc mX0_pass 37 (.iload_n 3) 1 38 := ⟨k_dX0_pass_30.2.2.2.1, rfl⟩
theorem dX0_pass_38 : Dc mX0_pass 38 (.ifCond .eq 15) 3 41 := ⟨k_dX0_pass_30.2.2.2.2.1, rfl⟩
theorem dX0_pass_41 : Dc mX0_pass 41 (.aload_n 0) 1 42 := ⟨k_dX0_pass_30.2.2.2.2.2, rfl⟩
theorem k_dX0_pass_42 : decode (mX0_pass).2.1 42 = .ok ((.getfield 12), 3) ∧ decode (mX0_pass).2.1 45 = .ok ((.getfield 74), 3) ∧ decode (mX0_pass).2.1 48 = .ok ((.iconst 1), 1) ∧ decode (mX0_pass).2.1 49 = .ok ((.iadd), 1) ∧ decode (mX0_pass).2.1 50 = .ok ((.goto 4), 3) ∧ decode (mX0_pass).2.1 53 = .ok ((.iconst 0), 1) := by decide +kernel
theorem dX0_pass_42 : Dc mX0_pass 42 (.getfield 12) 3 45 := ⟨k_dX0_pass_42.1, rfl⟩
theorem dX0_pass_45 : Dc mX0_pass 45 (.getfield 74) 3 48 := ⟨k_dX0_pass_42.2.1, rfl⟩
theorem dX0_pass_48 : Dc mX0_pass 48 (.iconst 1) 1 49 := ⟨k_dX0_pass_42.2.2.1, rfl⟩
theorem dX0_pass_49 : Dc mX0_pass 49 (.iadd) 1 50 := ⟨k_dX0_pass_42.2.2.2.1, rfl⟩
theorem dX0_pass_50 : Dc mX0_pass 50 (.goto 4) 3 53 := ⟨k_dX0_pass_42.2.2.2.2.1, rfl⟩
theorem dX0_pass_53 : Dc mX0_pass 53 (.iconst 0) 1 54 := ⟨k_dX0_pass_42.2.2.2.2.2, rfl⟩
theorem k_dX0_pass_54 : decode (mX0_pass).2.1 54 = .ok ((.putfield 74), 3) ∧ decode (mX0_pass).2.1 57 = .ok ((.iconst 0), 1) ∧ decode (mX0_pass).2.1 58 = .ok ((.istore 4), 2) ∧ decode (mX0_pass).2.1 60 = .ok ((.iload 4), 2) ∧ decode (mX0_pass).2.1 62 = .ok ((.aload_n 0), 1) ∧ decode (mX0_pass).2.1 63 = .ok ((.getfield 40), 3) := by decide +kernel
theorem dX0_pass_54 : Dc mX0_pass 54 (.putfield 74) 3 57 := ⟨k_dX0_pass_54.1, rfl⟩
theorem dX0_pass_57 : Dc mX0_pass 57 (.iconst 0) 1 58 := ⟨k_dX0_pass_54.2.1, rfl⟩
theorem dX0_pass_58 : Dc mX0_pass 58 (.istore 4) 2 60 := ⟨k_dX0_pass_54.2.2.1, rfl⟩
theorem dX0_pass_60 : Dc mX0_pass 60 (.iload 4) 2 62 := ⟨k_dX0_pass_54.2.2.2.1, rfl⟩
theorem dX0_pass_62 : Dc mX0_pass 62 (.aload_n 0) 1 63 := ⟨k_dX0_pass_54.2.2.2.2.1, rfl⟩
theorem dX0_pass_63 : Dc mX0_pass 63 (.getfield 40) 3 66 := ⟨k_dX0_pass_54.2.2.2.2.2, rfl⟩
theorem k_dX0_pass_66 : decode (mX0_pass).2.1 66 = .ok ((.getfield 77), 3) ∧ decode (mX0_pass).2.1 69 = .ok ((.getfield 80), 3) ∧ decode (mX0_pass).2.1 72 = .ok ((.if_icmp .ge 53), 3) ∧ decode (mX0_pass).2.1 75 = .ok ((.aload_n 0), 1) ∧ decode (mX0_pass).2.1 76 = .ok ((.getfield 12), 3) ∧ decode (mX0_pass).2.1 79 = .ok ((.getfield 83), 3) := by decide +kernel
theorem dX0_pass_66 : Dc mX0_pass 66 (.getfield 77) 3 69 := ⟨k_dX0_pass_66.1, rfl⟩
theorem dX0_pass_69 : Dc mX0_pass 69 (.getfield 80) 3 72 := ⟨k_dX0_pass_66.2.1, rfl⟩
theorem dX0_pass_72 : Dc mX0_pass 72 (.if_icmp .ge 53) 3 75 := ⟨k_dX0_pass_66.2.2.1, rfl⟩
theorem dX0_pass_75 : Dc mX0_pass 75 (.aload_n 0) 1 76 := ⟨k_dX0_pass_66.2.2.2.1, rfl⟩
theorem dX0_pass_76 : Dc mX0_pass 76 (.getfield 12) 3 79 := ⟨k_dX0_pass_66.2.2.2.2.1, rfl⟩
theorem dX0_pass_79 : Dc mX0_pass 79 (.getfield 83) 3 82 := ⟨k_dX0_pass_66.2.2.2.2.2, rfl⟩
theorem k_dX0_pass_82 : decode (mX0_pass).2.1 82 = .ok ((.iload 4), 2) ∧ decode (mX0_pass).2.1 84 = .ok ((.invokestatic 86), 3) ∧ decode (mX0_pass).2.1 87 = .ok ((.ifCond .ne 32), 3) ∧ decode (mX0_pass).2.1 90 = .ok ((.aload_n 0), 1) ∧ decode (mX0_pass).2.1 91 = .ok ((.getfield 12), 3) ∧ decode (mX0_pass).2.1 94 = .ok ((.getfield 90), 3) := by decide +kernel
theorem dX0_pass_82 : Dc mX0_pass 82 (.iload 4) 2 84 := ⟨k_dX0_pass_82.1, rfl⟩
theorem dX0_pass_84 : Dc mX0_pass 84 (.invokestatic 86) 3 87 := ⟨k_dX0_pass_82.2.1, rfl⟩
theorem dX0_pass_87 : Dc mX0_pass 87 (.ifCond .ne 32) 3 90 := ⟨k_dX0_pass_82.2.2.1, rfl⟩
theorem dX0_pass_90 : Dc mX0_pass 90 (.aload_n 0) 1 91 := ⟨k_dX0_pass_82.2.2.2.1, rfl⟩
theorem dX0_pass_91 : Dc mX0_pass 91 (.getfield 12) 3 94 := ⟨k_dX0_pass_82.2.2.2.2.1, rfl⟩
theorem dX0_pass_94 : Dc mX0_pass 94 (.getfield 90) 3 97 := ⟨k_dX0_pass_82.2.2.2.2.2, rfl⟩
theorem k_dX0_pass_97 : decode (mX0_pass).2.1 97 = .ok ((.iload 4), 2) ∧ decode (mX0_pass).2.1 99 = .ok ((.invokestatic 86), 3) ∧ decode (mX0_pass).2.1 102 = .ok ((.aload_n 0), 1) ∧ decode (mX0_pass).2.1 103 = .ok ((.getfield 12), 3) ∧ decode (mX0_pass).2.1 106 = .ok ((.getfield 93), 3) ∧ decode (mX0_pass).2.1 109 = .ok ((.if_icmp .ne 10), 3) := by decide +kernel
theorem dX0_pass_97 : Dc mX0_pass 97 (.iload 4) 2 99 := ⟨k_dX0_pass_97.1, rfl⟩
theorem dX0_pass_99 : Dc mX0_pass 99 (.invokestatic 86) 3 102 := ⟨k_dX0_pass_97.2.1, rfl⟩
theorem dX0_pass_102 : Dc mX0_pass 102 (.aload_n 0) 1 103 := ⟨k_dX0_pass_97.2.2.1, rfl⟩
theorem dX0_pass_103 : Dc mX0_pass 103 (.getfield 12) 3 106 := ⟨k_dX0_pass_97.2.2.2.1, rfl⟩
theorem dX0_pass_106 : Dc mX0_pass 106 (.getfield 93) 3 109 := ⟨k_dX0_pass_97.2.2.2.2.1, rfl⟩
theorem dX0_pass_109 : Dc mX0_pass 109 (.if_icmp .ne 10) 3 112 := ⟨k_dX0_pass_97.2.2.2.2.2, rfl⟩
theorem k_dX0_pass_112 : decode (mX0_pass).2.1 112 = .ok ((.aload_n 0), 1) ∧ decode (mX0_pass).2.1 113 = .ok ((.iload 4), 2) ∧ decode (mX0_pass).2.1 115 = .ok ((.iload_n 3), 1) ∧ decode (mX0_pass).2.1 116 = .ok ((.invokevirtual 96), 3) ∧ decode (mX0_pass).2.1 119 = .ok ((.iinc 4 1), 3) ∧ decode (mX0_pass).2.1 122 = .ok ((.goto (-62)), 3) := by decide +kernel
theorem dX0_pass_112 : Dc mX0_pass 112 (.aload_n 0) 1 113 := ⟨k_dX0_pass_112.1, rfl⟩
theorem dX0_pass_113 : Dc mX0_pass 113 (.iload 4) 2 115 := ⟨k_dX0_pass_112.2.1, rfl⟩
theorem dX0_pass_115 : Dc mX0_pass 115 (.iload_n 3) 1 116 := ⟨k_dX0_pass_112.2.2.1, rfl⟩
theorem dX0_pass_116 : Dc mX0_pass 116 (.invokevirtual 96) 3 119 := ⟨k_dX0_pass_112.2.2.2.1, rfl⟩
theorem dX0_pass_119 : Dc mX0_pass 119 (.iinc 4 1) 3 122 := ⟨k_dX0_pass_112.2.2.2.2.1, rfl⟩
theorem dX0_pass_122 : Dc mX0_pass 122 (.goto (-62)) 3 125 := ⟨k_dX0_pass_112.2.2.2.2.2, rfl⟩
theorem k_dX0_pass_125 : decode (mX0_pass).2.1 125 = .ok ((.iconst 0), 1) ∧ decode (mX0_pass).2.1 126 = .ok ((.istore 4), 2) ∧ decode (mX0_pass).2.1 128 = .ok ((.iload 4), 2) ∧ decode (mX0_pass).2.1 130 = .ok ((.aload_n 0), 1) ∧ decode (mX0_pass).2.1 131 = .ok ((.getfield 40), 3) ∧ decode (mX0_pass).2.1 134 = .ok ((.getfield 100), 3) := by decide +kernel
theorem dX0_pass_125 : Dc mX0_pass 125 (.iconst 0) 1 126 := ⟨k_dX0_pass_125.1, rfl⟩
theorem dX0_pass_126 : Dc mX0_pass 126 (.istore 4) 2 128 := ⟨k_dX0_pass_125.2.1, rfl⟩
theorem dX0_pass_128 : Dc mX0_pass 128 (.iload 4) 2 130 := ⟨k_dX0_pass_125.2.2.1, rfl⟩
theorem dX0_pass_130 : Dc mX0_pass 130 (.aload_n 0) 1 131 := ⟨k_dX0_pass_125.2.2.2.1, rfl⟩
theorem dX0_pass_131 : Dc mX0_pass 131 (.getfield 40) 3 134 := ⟨k_dX0_pass_125.2.2.2.2.1, rfl⟩
theorem dX0_pass_134 : Dc mX0_pass 134 (.getfield 100) 3 137 := ⟨k_dX0_pass_125.2.2.2.2.2, rfl⟩
theorem k_dX0_pass_137 : decode (mX0_pass).2.1 137 = .ok ((.getfield 80), 3) ∧ decode (mX0_pass).2.1 140 = .ok ((.if_icmp .ge 19), 3) ∧ decode (mX0_pass).2.1 143 = .ok ((.iload_n 3), 1) ∧ decode (mX0_pass).2.1 144 = .ok ((.ifCond .ne 15), 3) ∧ decode (mX0_pass).2.1 147 = .ok ((.aload_n 0), 1) ∧ decode (mX0_pass).2.1 148 = .ok ((.iload 4), 2) := by decide +kernel
theorem dX0_pass_137 : Dc mX0_pass 137 (.getfield 80) 3 140 := ⟨k_dX0_pass_137.1, rfl⟩
theorem dX0_pass_140 : Dc mX0_pass 140 (.if_icmp .ge 19) 3 143 := ⟨k_dX0_pass_137.2.1, rfl⟩
theorem dX0_pass_143 : Dc mX0_pass 143 (.iload_n 3) 1 144 := ⟨k_dX0_pass_137.2.2.1, rfl⟩
theorem dX0_pass_144 : Dc mX0_pass 144 (.ifCond .ne 15) 3 147 := ⟨k_dX0_pass_137.2.2.2.1, rfl⟩
theorem dX0_pass_147 : Dc mX0_pass 147 (.aload_n 0) 1 148 := ⟨k_dX0_pass_137.2.2.2.2.1, rfl⟩
theorem dX0_pass_148 : Dc mX0_pass 148 (.iload 4) 2 150 := ⟨k_dX0_pass_137.2.2.2.2.2, rfl⟩
theorem k_dX0_pass_150 : decode (mX0_pass).2.1 150 = .ok ((.invokevirtual 103), 3) ∧ decode (mX0_pass).2.1 153 = .ok ((.iinc 4 1), 3) ∧ decode (mX0_pass).2.1 156 = .ok ((.goto (-28)), 3) ∧ decode (mX0_pass).2.1 159 = .ok ((.aload_n 0), 1) ∧ decode (mX0_pass).2.1 160 = .ok ((.getfield 33), 3) ∧ decode (mX0_pass).2.1 163 = .ok ((.ifCond .eq 7), 3) := by decide +kernel
theorem dX0_pass_150 : Dc mX0_pass 150 (.invokevirtual 103) 3 153 := ⟨k_dX0_pass_150.1, rfl⟩
theorem dX0_pass_153 : Dc mX0_pass 153 (.iinc 4 1) 3 156 := ⟨k_dX0_pass_150.2.1, rfl⟩
theorem dX0_pass_156 : Dc mX0_pass 156 (.goto (-28)) 3 159 := ⟨k_dX0_pass_150.2.2.1, rfl⟩
theorem dX0_pass_159 : Dc mX0_pass 159 (.aload_n 0) 1 160 := ⟨k_dX0_pass_150.2.2.2.1, rfl⟩
theorem dX0_pass_160 : Dc mX0_pass 160 (.getfield 33) 3 163 := ⟨k_dX0_pass_150.2.2.2.2.1, rfl⟩
theorem dX0_pass_163 : Dc mX0_pass 163 (.ifCond .eq 7) 3 166 := ⟨k_dX0_pass_150.2.2.2.2.2, rfl⟩
theorem k_dX0_pass_166 : decode (mX0_pass).2.1 166 = .ok ((.aload_n 0), 1) ∧ decode (mX0_pass).2.1 167 = .ok ((.invokevirtual 107), 3) ∧ decode (mX0_pass).2.1 170 = .ok ((.aload_n 0), 1) ∧ decode (mX0_pass).2.1 171 = .ok ((.getfield 12), 3) ∧ decode (mX0_pass).2.1 174 = .ok ((.dup), 1) ∧ decode (mX0_pass).2.1 175 = .ok ((.getfield 93), 3) := by decide +kernel
theorem dX0_pass_166 : Dc mX0_pass 166 (.aload_n 0) 1 167 := ⟨k_dX0_pass_166.1, rfl⟩
theorem dX0_pass_167 : Dc mX0_pass 167 (.invokevirtual 107) 3 170 := ⟨k_dX0_pass_166.2.1, rfl⟩
theorem dX0_pass_170 : Dc mX0_pass 170 (.aload_n 0) 1 171 := ⟨k_dX0_pass_166.2.2.1, rfl⟩
theorem dX0_pass_171 : Dc mX0_pass 171 (.getfield 12) 3 174 := ⟨k_dX0_pass_166.2.2.2.1, rfl⟩
theorem dX0_pass_174 : Dc mX0_pass 174 (.dup) 1 175 := ⟨k_dX0_pass_166.2.2.2.2.1, rfl⟩
theorem dX0_pass_175 : Dc mX0_pass 175 (.getfield 93) 3 178 := ⟨k_dX0_pass_166.2.2.2.2.2, rfl⟩
theorem k_dX0_pass_178 : decode (mX0_pass).2.1 178 = .ok ((.iconst 1), 1) ∧ decode (mX0_pass).2.1 179 = .ok ((.iadd), 1) ∧ decode (mX0_pass).2.1 180 = .ok ((.putfield 93), 3) ∧ decode (mX0_pass).2.1 183 = .ok ((.iinc 2 1), 3) ∧ decode (mX0_pass).2.1 186 = .ok ((.goto (-184)), 3) ∧ decode (mX0_pass).2.1 189 = .ok ((.return_), 1) := by decide +kernel
theorem dX0_pass_178 : Dc mX0_pass 178 (.iconst 1) 1 179 := ⟨k_dX0_pass_178.1, rfl⟩
theorem dX0_pass_179 : Dc mX0_pass 179 (.iadd) 1 180 := ⟨k_dX0_pass_178.2.1, rfl⟩
theorem dX0_pass_180 : Dc mX0_pass 180 (.putfield 93) 3 183 := ⟨k_dX0_pass_178.2.2.1, rfl⟩
theorem dX0_pass_183 : Dc mX0_pass 183 (.iinc 2 1) 3 186 := ⟨k_dX0_pass_178.2.2.2.1, rfl⟩
theorem dX0_pass_186 : Dc mX0_pass 186 (.goto (-184)) 3 189 := ⟨k_dX0_pass_178.2.2.2.2.1, rfl⟩
theorem dX0_pass_189 : Dc mX0_pass 189 (.return_) 1 190 := ⟨k_dX0_pass_178.2.2.2.2.2, rfl⟩
theorem k_dX0_isAway_0 : decode (mX0_isAway).2.1 0 = .ok ((.aload_n 0), 1) ∧ decode (mX0_isAway).2.1 1 = .ok ((.getfield 22), 3) ∧ decode (mX0_isAway).2.1 4 = .ok ((.iconst 2), 1) ∧ decode (mX0_isAway).2.1 5 = .ok ((.if_icmp .eq 11), 3) ∧ decode (mX0_isAway).2.1 8 = .ok ((.aload_n 0), 1) ∧ decode (mX0_isAway).2.1 9 = .ok ((.getfield 22), 3) := by decide +kernel
theorem dX0_isAway_0 : Dc mX0_isAway 0 (.aload_n 0) 1 1 := ⟨k_dX0_isAway_0.1, rfl⟩
theorem dX0_isAway_1 : Dc mX0_isAway 1 (.getfield 22) 3 4 := ⟨k_dX0_isAway_0.2.1, rfl⟩
theorem dX0_isAway_4 : Dc mX0_isAway 4 (.iconst 2) 1 5 := ⟨k_dX0_isAway_0.2.2.1, rfl⟩
theorem dX0_isAway_5 : Dc mX0_isAway 5 (.if_icmp .eq 11) 3 8 := ⟨k_dX0_isAway_0.2.2.2.1, rfl⟩
theorem dX0_isAway_8 : Dc mX0_isAway 8 (.aload_n 0) 1 9 := ⟨k_dX0_isAway_0.2.2.2.2.1, rfl⟩
theorem dX0_isAway_9 : Dc mX0_isAway 9 (.getfield 22) 3 12 := ⟨k_dX0_isAway_0.2.2.2.2.2, rfl⟩
theorem k_dX0_isAway_12 : decode (mX0_isAway).2.1 12 = .ok ((.iconst 3), 1) ∧ decode (mX0_isAway).2.1 13 = .ok ((.if_icmp .ne 17), 3) ∧ decode (mX0_isAway).2.1 16 = .ok ((.aload_n 0), 1) ∧ decode (mX0_isAway).2.1 17 = .ok ((.getfield 22), 3) ∧ decode (mX0_isAway).2.1 20 = .ok ((.iconst 3), 1) ∧ decode (mX0_isAway).2.1 21 = .ok ((.if_icmp .ne 7), 3) := by decide +kernel
theorem dX0_isAway_12 : Dc mX0_isAway 12 (.iconst 3) 1 13 := ⟨k_dX0_isAway_12.1, rfl⟩
theorem dX0_isAway_13 : Dc mX0_isAway 13 (.if_icmp .ne 17) 3 16 := ⟨k_dX0_isAway_12.2.1, rfl⟩
theorem dX0_isAway_16 : Dc mX0_isAway 16 (.aload_n 0) 1 17 := ⟨k_dX0_isAway_12.2.2.1, rfl⟩
theorem dX0_isAway_17 : Dc mX0_isAway 17 (.getfield 22) 3 20 := ⟨k_dX0_isAway_12.2.2.2.1, rfl⟩
theorem dX0_isAway_20 : Dc mX0_isAway 20 (.iconst 3) 1 21 := ⟨k_dX0_isAway_12.2.2.2.2.1, rfl⟩
theorem dX0_isAway_21 : Dc mX0_isAway 21 (.if_icmp .ne 7) 3 24 := ⟨k_dX0_isAway_12.2.2.2.2.2, rfl⟩
theorem k_dX0_isAway_24 : decode (mX0_isAway).2.1 24 = .ok ((.iconst 1), 1) ∧ decode (mX0_isAway).2.1 25 = .ok ((.goto 4), 3) ∧ decode (mX0_isAway).2.1 28 = .ok ((.iconst 0), 1) ∧ decode (mX0_isAway).2.1 29 = .ok ((.ireturn), 1) ∧ decode (mX0_isAway).2.1 30 = .ok ((.aload_n 0), 1) ∧ decode (mX0_isAway).2.1 31 = .ok ((.getfield 40), 3) := by decide +kernel
theorem dX0_isAway_24 : Dc mX0_isAway 24 (.iconst 1) 1 25 := ⟨k_dX0_isAway_24.1, rfl⟩
theorem dX0_isAway_25 : Dc mX0_isAway 25 (.goto 4) 3 28 := ⟨k_dX0_isAway_24.2.1, rfl⟩
theorem dX0_isAway_28 : Dc mX0_isAway 28 (.iconst 0) 1 29 := ⟨k_dX0_isAway_24.2.2.1, rfl⟩
theorem dX0_isAway_29 : Dc mX0_isAway 29 (.ireturn) 1 30 := ⟨k_dX0_isAway_24.2.2.2.1, rfl⟩
theorem dX0_isAway_30 : Dc mX0_isAway 30 (.aload_n 0) 1 31 := ⟨k_dX0_isAway_24.2.2.2.2.1, rfl⟩
theorem dX0_isAway_31 : Dc mX0_isAway 31 (.getfield 40) 3 34 := ⟨k_dX0_isAway_24.2.2.2.2.2, rfl⟩
theorem k_dX0_isAway_34 : decode (mX0_isAway).2.1 34 = .ok ((.aload_n 0), 1) ∧ decode (mX0_isAway).2.1 35 = .ok ((.getfield 12), 3) ∧ decode (mX0_isAway).2.1 38 = .ok ((.getfield 93), 3) ∧ decode (mX0_isAway).2.1 41 = .ok ((.invokevirtual 110), 3) ∧ decode (mX0_isAway).2.1 44 = .ok ((.ifCond .eq 5), 3) ∧ decode (mX0_isAway).2.1 47 = .ok ((.iconst 1), 1) := by decide +kernel
theorem dX0_isAway_34 : Dc mX0_isAway 34 (.aload_n 0) 1 35 := ⟨k_dX0_isAway_34.1, rfl⟩
theorem dX0_isAway_35 : Dc mX0_isAway 35 (.getfield 12) 3 38 := ⟨k_dX0_isAway_34.2.1, rfl⟩
theorem dX0_isAway_38 : Dc mX0_isAway 38 (.getfield 93) 3 41 := ⟨k_dX0_isAway_34.2.2.1, rfl⟩
theorem dX0_isAway_41 : Dc mX0_isAway 41 (.invokevirtual 110) 3 44 := ⟨k_dX0_isAway_34.2.2.2.1, rfl⟩
theorem dX0_isAway_44 : Dc mX0_isAway 44 (.ifCond .eq 5) 3 47 := ⟨k_dX0_isAway_34.2.2.2.2.1, rfl⟩
theorem dX0_isAway_47 : Dc mX0_isAway 47 (.iconst 1) 1 48 := ⟨k_dX0_isAway_34.2.2.2.2.2, rfl⟩
theorem k_dX0_isAway_48 : decode (mX0_isAway).2.1 48 = .ok ((.ireturn), 1) ∧ decode (mX0_isAway).2.1 49 = .ok ((.aload_n 0), 1) ∧ decode (mX0_isAway).2.1 50 = .ok ((.getfield 22), 3) ∧ decode (mX0_isAway).2.1 53 = .ok ((.ifCond .eq 25), 3) ∧ decode (mX0_isAway).2.1 56 = .ok ((.aload_n 0), 1) ∧ decode (mX0_isAway).2.1 57 = .ok ((.getfield 40), 3) := by decide +kernel
theorem dX0_isAway_48 : Dc mX0_isAway 48 (.ireturn) 1 49 := ⟨k_dX0_isAway_48.1, rfl⟩
theorem dX0_isAway_49 : Dc mX0_isAway 49 (.aload_n 0) 1 50 := ⟨k_dX0_isAway_48.2.1, rfl⟩
theorem dX0_isAway_50 : Dc mX0_isAway 50 (.getfield 22) 3 53 := ⟨k_dX0_isAway_48.2.2.1, rfl⟩
theorem dX0_isAway_53 : Dc mX0_isAway 53 (.ifCond .eq 25) 3 56 := ⟨k_dX0_isAway_48.2.2.2.1, rfl⟩
theorem dX0_isAway_56 : Dc mX0_isAway 56 (.aload_n 0) 1 57 := ⟨k_dX0_isAway_48.2.2.2.2.1, rfl⟩
theorem dX0_isAway_57 : Dc mX0_isAway 57 (.getfield 40) 3 60 := ⟨k_dX0_isAway_48.2.2.2.2.2, rfl⟩
theorem k_dX0_isAway_60 : decode (mX0_isAway).2.1 60 = .ok ((.getfield 114), 3) ∧ decode (mX0_isAway).2.1 63 = .ok ((.ifCond .le 15), 3) ∧ decode (mX0_isAway).2.1 66 = .ok ((.aload_n 0), 1) ∧ decode (mX0_isAway).2.1 67 = .ok ((.getfield 40), 3) ∧ decode (mX0_isAway).2.1 70 = .ok ((.getfield 114), 3) ∧ decode (mX0_isAway).2.1 73 = .ok ((.bipush 100), 2) := by decide +kernel
theorem dX0_isAway_60 : Dc mX0_isAway 60 (.getfield 114) 3 63 := ⟨k_dX0_isAway_60.1, rfl⟩
theorem dX0_isAway_63 : Dc mX0_isAway 63 (.ifCond .le 15) 3 66 := ⟨k_dX0_isAway_60.2.1, rfl⟩
theorem dX0_isAway_66 : Dc mX0_isAway 66 (.aload_n 0) 1 67 := ⟨k_dX0_isAway_60.2.2.1, rfl⟩
theorem dX0_isAway_67 : Dc mX0_isAway 67 (.getfield 40) 3 70 := ⟨k_dX0_isAway_60.2.2.2.1, rfl⟩
theorem dX0_isAway_70 : Dc mX0_isAway 70 (.getfield 114) 3 73 := ⟨k_dX0_isAway_60.2.2.2.2.1, rfl⟩
theorem dX0_isAway_73 : Dc mX0_isAway 73 (.bipush 100) 2 75 := ⟨k_dX0_isAway_60.2.2.2.2.2, rfl⟩
theorem k_dX0_isAway_75 : decode (mX0_isAway).2.1 75 = .ok ((.if_icmp .lt 21), 3) ∧ decode (mX0_isAway).2.1 78 = .ok ((.aload_n 0), 1) ∧ decode (mX0_isAway).2.1 79 = .ok ((.getfield 40), 3) ∧ decode (mX0_isAway).2.1 82 = .ok ((.getfield 114), 3) ∧ decode (mX0_isAway).2.1 85 = .ok ((.bipush 50), 2) ∧ decode (mX0_isAway).2.1 87 = .ok ((.if_icmp .lt 7), 3) := by decide +kernel
theorem dX0_isAway_75 : Dc mX0_isAway 75 (.if_icmp .lt 21) 3 78 := ⟨k_dX0_isAway_75.1, rfl⟩
theorem dX0_isAway_78 : Dc mX0_isAway 78 (.aload_n 0) 1 79 := ⟨k_dX0_isAway_75.2.1, rfl⟩
theorem dX0_isAway_79 : Dc mX0_isAway 79 (.getfield 40) 3 82 := ⟨k_dX0_isAway_75.2.2.1, rfl⟩
theorem dX0_isAway_82 : Dc mX0_isAway 82 (.getfield 114) 3 85 := ⟨k_dX0_isAway_75.2.2.2.1, rfl⟩
theorem dX0_isAway_85 : Dc mX0_isAway 85 (.bipush 50) 2 87 := ⟨k_dX0_isAway_75.2.2.2.2.1, rfl⟩
theorem dX0_isAway_87 : Dc mX0_isAway 87 (.if_icmp .lt 7) 3 90 := ⟨k_dX0_isAway_75.2.2.2.2.2, rfl⟩
theorem k_dX0_isAway_90 : decode (mX0_isAway).2.1 90 = .ok ((.iconst 1), 1) ∧ decode (mX0_isAway).2.1 91 = .ok ((.goto 4), 3) ∧ decode (mX0_isAway).2.1 94 = .ok ((.iconst 0), 1) ∧ decode (mX0_isAway).2.1 95 = .ok ((.ireturn), 1) ∧ decode (mX0_isAway).2.1 96 = .ok ((.aload_n 0), 1) ∧ decode (mX0_isAway).2.1 97 = .ok ((.getfield 12), 3) := by decide +kernel
theorem dX0_isAway_90 : Dc mX0_isAway 90 (.iconst 1) 1 91 := ⟨k_dX0_isAway_90.1, rfl⟩
theorem dX0_isAway_91 : Dc mX0_isAway 91 (.goto 4) 3 94 := ⟨k_dX0_isAway_90.2.1, rfl⟩
theorem dX0_isAway_94 : Dc mX0_isAway 94 (.iconst 0) 1 95 := ⟨k_dX0_isAway_90.2.2.1, rfl⟩
theorem dX0_isAway_95 : Dc mX0_isAway 95 (.ireturn) 1 96 := ⟨k_dX0_isAway_90.2.2.2.1, rfl⟩
theorem dX0_isAway_96 : Dc mX0_isAway 96 (.aload_n 0) 1 97 := ⟨k_dX0_isAway_90.2.2.2.2.1, rfl⟩
theorem dX0_isAway_97 : Dc mX0_isAway 97 (.getfield 12) 3 100 := ⟨k_dX0_isAway_90.2.2.2.2.2, rfl⟩
theorem k_dX0_isAway_100 : decode (mX0_isAway).2.1 100 = .ok ((.aload_n 0), 1) ∧ decode (mX0_isAway).2.1 101 = .ok ((.getfield 12), 3) ∧ decode (mX0_isAway).2.1 104 = .ok ((.getfield 117), 3) ∧ decode (mX0_isAway).2.1 107 = .ok ((.ldc2_w 121), 3) ∧ decode (mX0_isAway).2.1 110 = .ok ((.lmul), 1) ∧ decode (mX0_isAway).2.1 111 = .ok ((.ldc2_w 123), 3) := by decide +kernel
theorem dX0_isAway_100 : Dc mX0_isAway 100 (.aload_n 0) 1 101 := ⟨k_dX0_isAway_100.1, rfl⟩
theorem dX0_isAway_101 : Dc mX0_isAway 101 (.getfield 12) 3 104 := ⟨k_dX0_isAway_100.2.1, rfl⟩
theorem dX0_isAway_104 : Dc mX0_isAway 104 (.getfield 117) 3 107 := ⟨k_dX0_isAway_100.2.2.1, rfl⟩
theorem dX0_isAway_107 : Dc mX0_isAway 107 (.ldc2_w 121) 3 110 := ⟨k_dX0_isAway_100.2.2.2.1, rfl⟩
theorem dX0_isAway_110 : Dc mX0_isAway 110 (.lmul) 1 111 := ⟨k_dX0_isAway_100.2.2.2.2.1, rfl⟩
theorem dX0_isAway_111 : Dc mX0_isAway 111 (.ldc2_w 123) 3 114 := ⟨k_dX0_isAway_100.2.2.2.2.2, rfl⟩
theorem k_dX0_isAway_114 : decode (mX0_isAway).2.1 114 = .ok ((.ladd), 1) ∧ decode (mX0_isAway).2.1 115 = .ok ((.ldc2_w 125), 3) ∧ decode (mX0_isAway).2.1 118 = .ok ((.land), 1) ∧ decode (mX0_isAway).2.1 119 = .ok ((.putfield 117), 3) ∧ decode (mX0_isAway).2.1 122 = .ok ((.aload_n 0), 1) ∧ decode (mX0_isAway).2.1 123 = .ok ((.getfield 12), 3) := by decide +kernel
theorem dX0_isAway_114 : Dc mX0_isAway 114 (.ladd) 1 115 := ⟨k_dX0_isAway_114.1, rfl⟩
theorem dX0_isAway_115 : Dc mX0_isAway 115 (.ldc2_w 125) 3 118 := ⟨k_dX0_isAway_114.2.1, rfl⟩
theorem dX0_isAway_118 : Dc mX0_isAway 118 (.land) 1 119 := ⟨k_dX0_isAway_114.2.2.1, rfl⟩
theorem dX0_isAway_119 : Dc mX0_isAway 119 (.putfield 117) 3 122 := ⟨k_dX0_isAway_114.2.2.2.1, rfl⟩
theorem dX0_isAway_122 : Dc mX0_isAway 122 (.aload_n 0) 1 123 := ⟨k_dX0_isAway_114.2.2.2.2.1, rfl⟩
theorem dX0_isAway_123 : Dc mX0_isAway 123 (.getfield 12) 3 126 := ⟨k_dX0_isAway_114.2.2.2.2.2, rfl⟩
theorem k_dX0_isAway_126 : decode (mX0_isAway).2.1 126 = .ok ((.getfield 117), 3) ∧ decode (mX0_isAway).2.1 129 = .ok ((.ldc2_w 127), 3) ∧ decode (mX0_isAway).2.1 132 = .ok ((.ldiv), 1) ∧ decode (mX0_isAway).2.1 133 = .ok ((.ldc2_w 129), 3) ∧ decode (mX0_isAway).2.1 136 = .ok ((.lrem), 1) ∧ decode (mX0_isAway).2.1 137 = .ok ((.aload_n 0), 1) := by decide +kernel
theorem dX0_isAway_126 : Dc mX0_isAway 126 (.getfield 117) 3 129 := ⟨k_dX0_isAway_126.1, rfl⟩
theorem dX0_isAway_129 : Dc mX0_isAway 129 (.ldc2_w 127) 3 132 := ⟨k_dX0_isAway_126.2.1, rfl⟩
theorem dX0_isAway_132 : Dc mX0_isAway 132 (.ldiv) 1 133 := ⟨k_dX0_isAway_126.2.2.1, rfl⟩
theorem dX0_isAway_133 : Dc mX0_isAway 133 (.ldc2_w 129) 3 136 := ⟨k_dX0_isAway_126.2.2.2.1, rfl⟩
theorem dX0_isAway_136 : Dc mX0_isAway 136 (.lrem) 1 137 := ⟨k_dX0_isAway_126.2.2.2.2.1, rfl⟩
theorem dX0_isAway_137 : Dc mX0_isAway 137 (.aload_n 0) 1 138 := ⟨k_dX0_isAway_126.2.2.2.2.2, rfl⟩
theorem k_dX0_isAway_138 : decode (mX0_isAway).2.1 138 = .ok ((.getfield 40), 3) ∧ decode (mX0_isAway).2.1 141 = .ok ((.getfield 114), 3) ∧ decode (mX0_isAway).2.1 144 = .ok ((.i2l), 1) ∧ decode (mX0_isAway).2.1 145 = .ok ((.lcmp), 1) ∧ decode (mX0_isAway).2.1 146 = .ok ((.ifCond .ge 7), 3) ∧ decode (mX0_isAway).2.1 149 = .ok ((.iconst 1), 1) := by decide +kernel
theorem dX0_isAway_138 : Dc mX0_isAway 138 (.getfield 40) 3 141 := ⟨k_dX0_isAway_138.1, rfl⟩
theorem dX0_isAway_141 : Dc mX0_isAway 141 (.getfield 114) 3 144 := ⟨k_dX0_isAway_138.2.1, rfl⟩
theorem dX0_isAway_144 : Dc mX0_isAway 144 (.i2l) 1 145 := ⟨k_dX0_isAway_138.2.2.1, rfl⟩
theorem dX0_isAway_145 : Dc mX0_isAway 145 (.lcmp) 1 146 := ⟨k_dX0_isAway_138.2.2.2.1, rfl⟩
theorem dX0_isAway_146 : Dc mX0_isAway 146 (.ifCond .ge 7) 3 149 := ⟨k_dX0_isAway_138.2.2.2.2.1, rfl⟩
theorem dX0_isAway_149 : Dc mX0_isAway 149 (.iconst 1) 1 150 := ⟨k_dX0_isAway_138.2.2.2.2.2, rfl⟩
theorem k_dX0_isAway_150 : decode (mX0_isAway).2.1 150 = .ok ((.goto 4), 3) ∧ decode (mX0_isAway).2.1 153 = .ok ((.iconst 0), 1) ∧ decode (mX0_isAway).2.1 154 = .ok ((.ireturn), 1) := by decide +kernel
theorem dX0_isAway_150 : Dc mX0_isAway 150 (.goto 4) 3 153 := ⟨k_dX0_isAway_150.1, rfl⟩
theorem dX0_isAway_153 : Dc mX0_isAway 153 (.iconst 0) 1 154 := ⟨k_dX0_isAway_150.2.1, rfl⟩
theorem dX0_isAway_154 : Dc mX0_isAway 154 (.ireturn) 1 155 := ⟨k_dX0_isAway_150.2.2, rfl⟩
theorem k_dX0_film_0 : decode (mX0_film).2.1 0 = .ok ((.aload_n 0), 1) ∧ decode (mX0_film).2.1 1 = .ok ((.getfield 12), 3) ∧ decode (mX0_film).2.1 4 = .ok ((.getfield 83), 3) ∧ decode (mX0_film).2.1 7 = .ok ((.iload_n 1), 1) ∧ decode (mX0_film).2.1 8 = .ok ((.iconst 1), 1) ∧ decode (mX0_film).2.1 9 = .ok ((.invokestatic 131), 3) := by decide +kernel
theorem dX0_film_0 : Dc mX0_film 0 (.aload_n 0) 1 1 := ⟨k_dX0_film_0.1, rfl⟩
theorem dX0_film_1 : Dc mX0_film 1 (.getfield 12) 3 4 := ⟨k_dX0_film_0.2.1, rfl⟩
theorem dX0_film_4 : Dc mX0_film 4 (.getfield 83) 3 7 := ⟨k_dX0_film_0.2.2.1, rfl⟩
theorem dX0_film_7 : Dc mX0_film 7 (.iload_n 1) 1 8 := ⟨k_dX0_film_0.2.2.2.1, rfl⟩
theorem dX0_film_8 : Dc mX0_film 8 (.iconst 1) 1 9 := ⟨k_dX0_film_0.2.2.2.2.1, rfl⟩
theorem dX0_film_9 : Dc mX0_film 9 (.invokestatic 131) 3 12 := ⟨k_dX0_film_0.2.2.2.2.2, rfl⟩
theorem k_dX0_film_12 : decode (mX0_film).2.1 12 = .ok ((.iconst 0), 1) ∧ decode (mX0_film).2.1 13 = .ok ((.istore_n 3), 1) ∧ decode (mX0_film).2.1 14 = .ok ((.iload_n 3), 1) ∧ decode (mX0_film).2.1 15 = .ok ((.aload_n 0), 1) ∧ decode (mX0_film).2.1 16 = .ok ((.getfield 40), 3) ∧ decode (mX0_film).2.1 19 = .ok ((.getfield 48), 3) := by decide +kernel
theorem dX0_film_12 : Dc mX0_film 12 (.iconst 0) 1 13 := ⟨k_dX0_film_12.1, rfl⟩
theorem dX0_film_13 : Dc mX0_film 13 (.istore_n 3) 1 14 := ⟨k_dX0_film_12.2.1, rfl⟩
theorem dX0_film_14 : Dc mX0_film 14 (.iload_n 3) 1 15 := ⟨k_dX0_film_12.2.2.1, rfl⟩
theorem dX0_film_15 : Dc mX0_film 15 (.aload_n 0) 1 16 := ⟨k_dX0_film_12.2.2.2.1, rfl⟩
theorem dX0_film_16 : Dc mX0_film 16 (.getfield 40) 3 19 := ⟨k_dX0_film_12.2.2.2.2.1, rfl⟩
theorem dX0_film_19 : Dc mX0_film 19 (.getfield 48) 3 22 := ⟨k_dX0_film_12.2.2.2.2.2, rfl⟩
theorem k_dX0_film_22 : decode (mX0_film).2.1 22 = .ok ((.getfield 80), 3) ∧ decode (mX0_film).2.1 25 = .ok ((.if_icmp .ge 138), 3) ∧ decode (mX0_film).2.1 28 = .ok ((.iload_n 2), 1) ∧ decode (mX0_film).2.1 29 = .ok ((.ifCond .ne 134), 3) ∧ decode (mX0_film).2.1 32 = .ok ((.aload_n 0), 1) ∧ decode (mX0_film).2.1 33 = .ok ((.getfield 12), 3) := by decide +kernel
theorem dX0_film_22 : Dc mX0_film 22 (.getfield 80) 3 25 := ⟨k_dX0_film_22.1, rfl⟩
theorem dX0_film_25 : Dc mX0_film 25 (.if_icmp .ge 138) 3 28 := ⟨k_dX0_film_22.2.1, rfl⟩
theorem dX0_film_28 : Dc mX0_film 28 (.iload_n 2) 1 29 := ⟨k_dX0_film_22.2.2.1, rfl⟩
theorem dX0_film_29 : Dc mX0_film 29 (.ifCond .ne 134) 3 32 := ⟨k_dX0_film_22.2.2.2.1, rfl⟩
theorem dX0_film_32 : Dc mX0_film 32 (.aload_n 0) 1 33 := ⟨k_dX0_film_22.2.2.2.2.1, rfl⟩
theorem dX0_film_33 : Dc mX0_film 33 (.getfield 12) 3 36 := ⟨k_dX0_film_22.2.2.2.2.2, rfl⟩
theorem k_dX0_film_36 : decode (mX0_film).2.1 36 = .ok ((.iload_n 1), 1) ∧ decode (mX0_film).2.1 37 = .ok ((.iload_n 3), 1) ∧ decode (mX0_film).2.1 38 = .ok ((.invokevirtual 135), 3) ∧ decode (mX0_film).2.1 41 = .ok ((.istore 4), 2) ∧ decode (mX0_film).2.1 43 = .ok ((.aload_n 0), 1) ∧ decode (mX0_film).2.1 44 = .ok ((.getfield 12), 3) := by decide +kernel
theorem dX0_film_36 : Dc mX0_film 36 (.iload_n 1) 1 37 := ⟨k_dX0_film_36.1, rfl⟩
theorem dX0_film_37 : Dc mX0_film 37 (.iload_n 3) 1 38 := ⟨k_dX0_film_36.2.1, rfl⟩
theorem dX0_film_38 : Dc mX0_film 38 (.invokevirtual 135) 3 41 := ⟨k_dX0_film_36.2.2.1, rfl⟩
theorem dX0_film_41 : Dc mX0_film 41 (.istore 4) 2 43 := ⟨k_dX0_film_36.2.2.2.1, rfl⟩
theorem dX0_film_43 : Dc mX0_film 43 (.aload_n 0) 1 44 := ⟨k_dX0_film_36.2.2.2.2.1, rfl⟩
theorem dX0_film_44 : Dc mX0_film 44 (.getfield 12) 3 47 := ⟨k_dX0_film_36.2.2.2.2.2, rfl⟩
theorem k_dX0_film_47 : decode (mX0_film).2.1 47 = .ok ((.getfield 139), 3) ∧ decode (mX0_film).2.1 50 = .ok ((.iload_n 3), 1) ∧ decode (mX0_film).2.1 51 = .ok ((.invokestatic 86), 3) ∧ decode (mX0_film).2.1 54 = .ok ((.istore 5), 2) ∧ decode (mX0_film).2.1 56 = .ok ((.iload 4), 2) ∧ decode (mX0_film).2.1 58 = .ok ((.ifCond .lt 46), 3) := by decide +kernel
theorem dX0_film_47 : Dc mX0_film 47 (.getfield 139) 3 50 := ⟨k_dX0_film_47.1, rfl⟩
theorem dX0_film_50 : Dc mX0_film 50 (.iload_n 3) 1 51 := ⟨k_dX0_film_47.2.1, rfl⟩
theorem dX0_film_51 : Dc mX0_film 51 (.invokestatic 86) 3 54 := ⟨k_dX0_film_47.2.2.1, rfl⟩
theorem dX0_film_54 : Dc mX0_film 54 (.istore 5) 2 56 := ⟨k_dX0_film_47.2.2.2.1, rfl⟩
theorem dX0_film_56 : Dc mX0_film 56 (.iload 4) 2 58 := ⟨k_dX0_film_47.2.2.2.2.1, rfl⟩
theorem dX0_film_58 : Dc mX0_film 58 (.ifCond .lt 46) 3 61 := ⟨k_dX0_film_47.2.2.2.2.2, rfl⟩
theorem k_dX0_film_61 : decode (mX0_film).2.1 61 = .ok ((.iload 5), 2) ∧ decode (mX0_film).2.1 63 = .ok ((.ifCond .lt 41), 3) ∧ decode (mX0_film).2.1 66 = .ok ((.iload 4), 2) ∧ decode (mX0_film).2.1 68 = .ok ((.iload 5), 2) ∧ decode (mX0_film).2.1 70 = .ok ((.if_icmp .eq 34), 3) ∧ decode (mX0_film).2.1 73 = .ok ((.aload_n 0), 1) := by decide +kernel
theorem dX0_film_61 : Dc mX0_film 61 (.iload 5) 2 63 := ⟨k_dX0_film_61.1, rfl⟩
theorem dX0_film_63 : Dc mX0_film 63 (.ifCond .lt 41) 3 66 := ⟨k_dX0_film_61.2.1, rfl⟩
theorem dX0_film_66 : Dc mX0_film 66 (.iload 4) 2 68 := ⟨k_dX0_film_61.2.2.1, rfl⟩
theorem dX0_film_68 : Dc mX0_film 68 (.iload 5) 2 70 := ⟨k_dX0_film_61.2.2.2.1, rfl⟩
theorem dX0_film_70 : Dc mX0_film 70 (.if_icmp .eq 34) 3 73 := ⟨k_dX0_film_61.2.2.2.2.1, rfl⟩
theorem dX0_film_73 : Dc mX0_film 73 (.aload_n 0) 1 74 := ⟨k_dX0_film_61.2.2.2.2.2, rfl⟩
theorem k_dX0_film_74 : decode (mX0_film).2.1 74 = .ok ((.getfield 12), 3) ∧ decode (mX0_film).2.1 77 = .ok ((.getfield 142), 3) ∧ decode (mX0_film).2.1 80 = .ok ((.iload_n 1), 1) ∧ decode (mX0_film).2.1 81 = .ok ((.bipush 6), 2) ∧ decode (mX0_film).2.1 83 = .ok ((.imul), 1) ∧ decode (mX0_film).2.1 84 = .ok ((.iload_n 3), 1) := by decide +kernel
theorem dX0_film_74 : Dc mX0_film 74 (.getfield 12) 3 77 := ⟨k_dX0_film_74.1, rfl⟩
theorem dX0_film_77 : Dc mX0_film 77 (.getfield 142) 3 80 := ⟨k_dX0_film_74.2.1, rfl⟩
theorem dX0_film_80 : Dc mX0_film 80 (.iload_n 1) 1 81 := ⟨k_dX0_film_74.2.2.1, rfl⟩
theorem dX0_film_81 : Dc mX0_film 81 (.bipush 6) 2 83 := ⟨k_dX0_film_74.2.2.2.1, rfl⟩
theorem dX0_film_83 : Dc mX0_film 83 (.imul) 1 84 := ⟨k_dX0_film_74.2.2.2.2.1, rfl⟩
theorem dX0_film_84 : Dc mX0_film 84 (.iload_n 3) 1 85 := ⟨k_dX0_film_74.2.2.2.2.2, rfl⟩
theorem k_dX0_film_85 : decode (mX0_film).2.1 85 = .ok ((.iadd), 1) ∧ decode (mX0_film).2.1 86 = .ok ((.iload 5), 2) ∧ decode (mX0_film).2.1 88 = .ok ((.invokestatic 131), 3) ∧ decode (mX0_film).2.1 91 = .ok ((.aload_n 0), 1) ∧ decode (mX0_film).2.1 92 = .ok ((.getfield 12), 3) ∧ decode (mX0_film).2.1 95 = .ok ((.dup), 1) := by decide +kernel
theorem dX0_film_85 : Dc mX0_film 85 (.iadd) 1 86 := ⟨k_dX0_film_85.1, rfl⟩
theorem dX0_film_86 : Dc mX0_film 86 (.iload 5) 2 88 := ⟨k_dX0_film_85.2.1, rfl⟩
theorem dX0_film_88 : Dc mX0_film 88 (.invokestatic 131) 3 91 := ⟨k_dX0_film_85.2.2.1, rfl⟩
theorem dX0_film_91 : Dc mX0_film 91 (.aload_n 0) 1 92 := ⟨k_dX0_film_85.2.2.2.1, rfl⟩
theorem dX0_film_92 : Dc mX0_film 92 (.getfield 12) 3 95 := ⟨k_dX0_film_85.2.2.2.2.1, rfl⟩
theorem dX0_film_95 : Dc mX0_film 95 (.dup) 1 96 := ⟨k_dX0_film_85.2.2.2.2.2, rfl⟩
theorem k_dX0_film_96 : decode (mX0_film).2.1 96 = .ok ((.getfield 145), 3) ∧ decode (mX0_film).2.1 99 = .ok ((.iconst 1), 1) ∧ decode (mX0_film).2.1 100 = .ok ((.iadd), 1) ∧ decode (mX0_film).2.1 101 = .ok ((.putfield 145), 3) ∧ decode (mX0_film).2.1 104 = .ok ((.iload 4), 2) ∧ decode (mX0_film).2.1 106 = .ok ((.ifCond .lt 51), 3) := by decide +kernel
theorem dX0_film_96 : Dc mX0_film 96 (.getfield 145) 3 99 := ⟨k_dX0_film_96.1, rfl⟩
theorem dX0_film_99 : Dc mX0_film 99 (.iconst 1) 1 100 := ⟨k_dX0_film_96.2.1, rfl⟩
theorem dX0_film_100 : Dc mX0_film 100 (.iadd) 1 101 := ⟨k_dX0_film_96.2.2.1, rfl⟩
theorem dX0_film_101 : Dc mX0_film 101 (.putfield 145) 3 104 := ⟨k_dX0_film_96.2.2.2.1, rfl⟩
theorem dX0_film_104 : Dc mX0_film 104 (.iload 4) 2 106 := ⟨k_dX0_film_96.2.2.2.2.1, rfl⟩
theorem dX0_film_106 : Dc mX0_film 106 (.ifCond .lt 51) 3 109 := ⟨k_dX0_film_96.2.2.2.2.2, rfl⟩
theorem k_dX0_film_109 : decode (mX0_film).2.1 109 = .ok ((.iload 5), 2) ∧ decode (mX0_film).2.1 111 = .ok ((.ifCond .ge 46), 3) ∧ decode (mX0_film).2.1 114 = .ok ((.aload_n 0), 1) ∧ decode (mX0_film).2.1 115 = .ok ((.iload_n 1), 1) ∧ decode (mX0_film).2.1 116 = .ok ((.iload_n 3), 1) ∧ decode (mX0_film).2.1 117 = .ok ((.invokevirtual 148), 3) := by decide +kernel
theorem dX0_film_109 : Dc mX0_film 109 (.iload 5) 2 111 := ⟨k_dX0_film_109.1, rfl⟩
theorem dX0_film_111 : Dc mX0_film 111 (.ifCond .ge 46) 3 114 := ⟨k_dX0_film_109.2.1, rfl⟩
theorem dX0_film_114 : Dc mX0_film 114 (.aload_n 0) 1 115 := ⟨k_dX0_film_109.2.2.1, rfl⟩
theorem dX0_film_115 : Dc mX0_film 115 (.iload_n 1) 1 116 := ⟨k_dX0_film_109.2.2.2.1, rfl⟩
theorem dX0_film_116 : Dc mX0_film 116 (.iload_n 3) 1 117 := ⟨k_dX0_film_109.2.2.2.2.1, rfl⟩
theorem dX0_film_117 : Dc mX0_film 117 (.invokevirtual 148) 3 120 := ⟨k_dX0_film_109.2.2.2.2.2, rfl⟩
theorem k_dX0_film_120 : decode (mX0_film).2.1 120 = .ok ((.aload_n 0), 1) ∧ decode (mX0_film).2.1 121 = .ok ((.getfield 18), 3) ∧ decode (mX0_film).2.1 124 = .ok ((.iload_n 3), 1) ∧ decode (mX0_film).2.1 125 = .ok ((.invokestatic 86), 3) ∧ decode (mX0_film).2.1 128 = .ok ((.bipush 50), 2) ∧ decode (mX0_film).2.1 130 = .ok ((.if_icmp .lt 7), 3) := by decide +kernel
theorem dX0_film_120 : Dc mX0_film 120 (.aload_n 0) 1 121 := ⟨k_dX0_film_120.1, rfl⟩
theorem dX0_film_121 : Dc mX0_film 121 (.getfield 18) 3 124 := ⟨k_dX0_film_120.2.1, rfl⟩
theorem dX0_film_124 : Dc mX0_film 124 (.iload_n 3) 1 125 := ⟨k_dX0_film_120.2.2.1, rfl⟩
theorem dX0_film_125 : Dc mX0_film 125 (.invokestatic 86) 3 128 := ⟨k_dX0_film_120.2.2.2.1, rfl⟩
theorem dX0_film_128 : Dc mX0_film 128 (.bipush 50) 2 130 := ⟨k_dX0_film_120.2.2.2.2.1, rfl⟩
theorem dX0_film_130 : Dc mX0_film 130 (.if_icmp .lt 7) 3 133 := ⟨k_dX0_film_120.2.2.2.2.2, rfl⟩
theorem k_dX0_film_133 : decode (mX0_film).2.1 133 = .ok ((.iconst 1), 1) ∧ decode (mX0_film).2.1 134 = .ok ((.goto 4), 3) ∧ decode (mX0_film).2.1 137 = .ok ((.iconst 0), 1) ∧ decode (mX0_film).2.1 138 = .ok ((.invokestatic 152), 3) ∧ decode (mX0_film).2.1 141 = .ok ((.ifCond .eq 16), 3) ∧ decode (mX0_film).2.1 144 = .ok ((.aload_n 0), 1) := by decide +kernel
theorem dX0_film_133 : Dc mX0_film 133 (.iconst 1) 1 134 := ⟨k_dX0_film_133.1, rfl⟩
theorem dX0_film_134 : Dc mX0_film 134 (.goto 4) 3 137 := ⟨k_dX0_film_133.2.1, rfl⟩
theorem dX0_film_137 : Dc mX0_film 137 (.iconst 0) 1 138 := ⟨k_dX0_film_133.2.2.1, rfl⟩
theorem dX0_film_138 : Dc mX0_film 138 (.invokestatic 152) 3 141 := ⟨k_dX0_film_133.2.2.2.1, rfl⟩
theorem dX0_film_141 : Dc mX0_film 141 (.ifCond .eq 16) 3 144 := ⟨k_dX0_film_133.2.2.2.2.1, rfl⟩
theorem dX0_film_144 : Dc mX0_film 144 (.aload_n 0) 1 145 := ⟨k_dX0_film_133.2.2.2.2.2, rfl⟩
theorem k_dX0_film_145 : decode (mX0_film).2.1 145 = .ok ((.getfield 12), 3) ∧ decode (mX0_film).2.1 148 = .ok ((.getfield 139), 3) ∧ decode (mX0_film).2.1 151 = .ok ((.iload_n 3), 1) ∧ decode (mX0_film).2.1 152 = .ok ((.iload 4), 2) ∧ decode (mX0_film).2.1 154 = .ok ((.invokestatic 131), 3) ∧ decode (mX0_film).2.1 157 = .ok ((.iinc 3 1), 3) := by decide +kernel
theorem dX0_film_145 : Dc mX0_film 145 (.getfield 12) 3 148 := ⟨k_dX0_film_145.1, rfl⟩
theorem dX0_film_148 : Dc mX0_film 148 (.getfield 139) 3 151 := ⟨k_dX0_film_145.2.1, rfl⟩
theorem dX0_film_151 : Dc mX0_film 151 (.iload_n 3) 1 152 := ⟨k_dX0_film_145.2.2.1, rfl⟩
theorem dX0_film_152 : Dc mX0_film 152 (.iload 4) 2 154 := ⟨k_dX0_film_145.2.2.2.1, rfl⟩
theorem dX0_film_154 : Dc mX0_film 154 (.invokestatic 131) 3 157 := ⟨k_dX0_film_145.2.2.2.2.1, rfl⟩
theorem dX0_film_157 : Dc mX0_film 157 (.iinc 3 1) 3 160 := ⟨k_dX0_film_145.2.2.2.2.2, rfl⟩
theorem k_dX0_film_160 : decode (mX0_film).2.1 160 = .ok ((.goto (-146)), 3) ∧ decode (mX0_film).2.1 163 = .ok ((.return_), 1) := by decide +kernel
theorem dX0_film_160 : Dc mX0_film 160 (.goto (-146)) 3 163 := ⟨k_dX0_film_160.1, rfl⟩
theorem dX0_film_163 : Dc mX0_film 163 (.return_) 1 164 := ⟨k_dX0_film_160.2, rfl⟩
theorem k_dX0_give_0 : decode (mX0_give).2.1 0 = .ok ((.aload_n 0), 1) ∧ decode (mX0_give).2.1 1 = .ok ((.getfield 40), 3) ∧ decode (mX0_give).2.1 4 = .ok ((.getfield 100), 3) ∧ decode (mX0_give).2.1 7 = .ok ((.getfield 54), 3) ∧ decode (mX0_give).2.1 10 = .ok ((.iload_n 1), 1) ∧ decode (mX0_give).2.1 11 = .ok ((.invokestatic 86), 3) := by decide +kernel
theorem dX0_give_0 : Dc mX0_give 0 (.aload_n 0) 1 1 := ⟨k_dX0_give_0.1, rfl⟩
theorem dX0_give_1 : Dc mX0_give 1 (.getfield 40) 3 4 := ⟨k_dX0_give_0.2.1, rfl⟩
theorem dX0_give_4 : Dc mX0_give 4 (.getfield 100) 3 7 := ⟨k_dX0_give_0.2.2.1, rfl⟩
theorem dX0_give_7 : Dc mX0_give 7 (.getfield 54) 3 10 := ⟨k_dX0_give_0.2.2.2.1, rfl⟩
theorem dX0_give_10 : Dc mX0_give 10 (.iload_n 1) 1 11 := ⟨k_dX0_give_0.2.2.2.2.1, rfl⟩
theorem dX0_give_11 : Dc mX0_give 11 (.invokestatic 86) 3 14 := ⟨k_dX0_give_0.2.2.2.2.2, rfl⟩
theorem k_dX0_give_14 : decode (mX0_give).2.1 14 = .ok ((.istore_n 2), 1) ∧ decode (mX0_give).2.1 15 = .ok ((.aload_n 0), 1) ∧ decode (mX0_give).2.1 16 = .ok ((.getfield 40), 3) ∧ decode (mX0_give).2.1 19 = .ok ((.getfield 100), 3) ∧ decode (mX0_give).2.1 22 = .ok ((.getfield 156), 3) ∧ decode (mX0_give).2.1 25 = .ok ((.iload_n 1), 1) := by decide +kernel
theorem dX0_give_14 : Dc mX0_give 14 (.istore_n 2) 1 15 := ⟨k_dX0_give_14.1, rfl⟩
theorem dX0_give_15 : Dc mX0_give 15 (.aload_n 0) 1 16 := ⟨k_dX0_give_14.2.1, rfl⟩
theorem dX0_give_16 : Dc mX0_give 16 (.getfield 40) 3 19 := ⟨k_dX0_give_14.2.2.1, rfl⟩
theorem dX0_give_19 : Dc mX0_give 19 (.getfield 100) 3 22 := ⟨k_dX0_give_14.2.2.2.1, rfl⟩
theorem dX0_give_22 : Dc mX0_give 22 (.getfield 156) 3 25 := ⟨k_dX0_give_14.2.2.2.2.1, rfl⟩
theorem dX0_give_25 : Dc mX0_give 25 (.iload_n 1) 1 26 := ⟨k_dX0_give_14.2.2.2.2.2, rfl⟩
theorem k_dX0_give_26 : decode (mX0_give).2.1 26 = .ok ((.invokestatic 86), 3) ∧ decode (mX0_give).2.1 29 = .ok ((.istore_n 3), 1) ∧ decode (mX0_give).2.1 30 = .ok ((.aload_n 0), 1) ∧ decode (mX0_give).2.1 31 = .ok ((.getfield 12), 3) ∧ decode (mX0_give).2.1 34 = .ok ((.getfield 139), 3) ∧ decode (mX0_give).2.1 37 = .ok ((.iload_n 2), 1) := by decide +kernel
theorem dX0_give_26 : Dc mX0_give 26 (.invokestatic 86) 3 29 := ⟨k_dX0_give_26.1, rfl⟩
theorem dX0_give_29 : Dc mX0_give 29 (.istore_n 3) 1 30 := ⟨k_dX0_give_26.2.1, rfl⟩
theorem dX0_give_30 : Dc mX0_give 30 (.aload_n 0) 1 31 := ⟨k_dX0_give_26.2.2.1, rfl⟩
theorem dX0_give_31 : Dc mX0_give 31 (.getfield 12) 3 34 := ⟨k_dX0_give_26.2.2.2.1, rfl⟩
theorem dX0_give_34 : Dc mX0_give 34 (.getfield 139) 3 37 := ⟨k_dX0_give_26.2.2.2.2.1, rfl⟩
theorem dX0_give_37 : Dc mX0_give 37 (.iload_n 2) 1 38 := ⟨k_dX0_give_26.2.2.2.2.2, rfl⟩
theorem k_dX0_give_38 : decode (mX0_give).2.1 38 = .ok ((.invokestatic 86), 3) ∧ decode (mX0_give).2.1 41 = .ok ((.istore 4), 2) ∧ decode (mX0_give).2.1 43 = .ok ((.aload_n 0), 1) ∧ decode (mX0_give).2.1 44 = .ok ((.getfield 12), 3) ∧ decode (mX0_give).2.1 47 = .ok ((.getfield 159), 3) ∧ decode (mX0_give).2.1 50 = .ok ((.iload_n 1), 1) := by decide +kernel
theorem dX0_give_38 : Dc mX0_give 38 (.invokestatic 86) 3 41 := ⟨k_dX0_give_38.1, rfl⟩
theorem dX0_give_41 : Dc mX0_give 41 (.istore 4) 2 43 := ⟨k_dX0_give_38.2.1, rfl⟩
theorem dX0_give_43 : Dc mX0_give 43 (.aload_n 0) 1 44 := ⟨k_dX0_give_38.2.2.1, rfl⟩
theorem dX0_give_44 : Dc mX0_give 44 (.getfield 12) 3 47 := ⟨k_dX0_give_38.2.2.2.1, rfl⟩
theorem dX0_give_47 : Dc mX0_give 47 (.getfield 159) 3 50 := ⟨k_dX0_give_38.2.2.2.2.1, rfl⟩
theorem dX0_give_50 : Dc mX0_give 50 (.iload_n 1) 1 51 := ⟨k_dX0_give_38.2.2.2.2.2, rfl⟩
theorem k_dX0_give_51 : decode (mX0_give).2.1 51 = .ok ((.invokestatic 86), 3) ∧ decode (mX0_give).2.1 54 = .ok ((.istore 5), 2) ∧ decode (mX0_give).2.1 56 = .ok ((.iload_n 1), 1) ∧ decode (mX0_give).2.1 57 = .ok ((.aload_n 0), 1) ∧ decode (mX0_give).2.1 58 = .ok ((.getfield 30), 3) ∧ decode (mX0_give).2.1 61 = .ok ((.if_icmp .eq 19), 3) := by decide +kernel
theorem dX0_give_51 : Dc mX0_give 51 (.invokestatic 86) 3 54 := ⟨k_dX0_give_51.1, rfl⟩
theorem dX0_give_54 : Dc mX0_give 54 (.istore 5) 2 56 := ⟨k_dX0_give_51.2.1, rfl⟩
theorem dX0_give_56 : Dc mX0_give 56 (.iload_n 1) 1 57 := ⟨k_dX0_give_51.2.2.1, rfl⟩
theorem dX0_give_57 : Dc mX0_give 57 (.aload_n 0) 1 58 := ⟨k_dX0_give_51.2.2.2.1, rfl⟩
theorem dX0_give_58 : Dc mX0_give 58 (.getfield 30) 3 61 := ⟨k_dX0_give_51.2.2.2.2.1, rfl⟩
theorem dX0_give_61 : Dc mX0_give 61 (.if_icmp .eq 19) 3 64 := ⟨k_dX0_give_51.2.2.2.2.2, rfl⟩
theorem k_dX0_give_64 : decode (mX0_give).2.1 64 = .ok ((.iload 5), 2) ∧ decode (mX0_give).2.1 66 = .ok ((.ifCond .le 14), 3) ∧ decode (mX0_give).2.1 69 = .ok ((.iload 4), 2) ∧ decode (mX0_give).2.1 71 = .ok ((.ifCond .lt 9), 3) ∧ decode (mX0_give).2.1 74 = .ok ((.iload 4), 2) ∧ decode (mX0_give).2.1 76 = .ok ((.iload_n 3), 1) := by decide +kernel
theorem dX0_give_64 : Dc mX0_give 64 (.iload 5) 2 66 := ⟨k_dX0_give_64.1, rfl⟩
theorem dX0_give_66 : Dc mX0_give 66 (.ifCond .le 14) 3 69 := ⟨k_dX0_give_64.2.1, rfl⟩
theorem dX0_give_69 : Dc mX0_give 69 (.iload 4) 2 71 := ⟨k_dX0_give_64.2.2.1, rfl⟩
theorem dX0_give_71 : Dc mX0_give 71 (.ifCond .lt 9) 3 74 := ⟨k_dX0_give_64.2.2.2.1, rfl⟩
theorem dX0_give_74 : Dc mX0_give 74 (.iload 4) 2 76 := ⟨k_dX0_give_64.2.2.2.2.1, rfl⟩
theorem dX0_give_76 : Dc mX0_give 76 (.iload_n 3) 1 77 := ⟨k_dX0_give_64.2.2.2.2.2, rfl⟩
theorem k_dX0_give_77 : decode (mX0_give).2.1 77 = .ok ((.if_icmp .ne 4), 3) ∧ decode (mX0_give).2.1 80 = .ok ((.return_), 1) ∧ decode (mX0_give).2.1 81 = .ok ((.aload_n 0), 1) ∧ decode (mX0_give).2.1 82 = .ok ((.getfield 12), 3) ∧ decode (mX0_give).2.1 85 = .ok ((.getfield 162), 3) ∧ decode (mX0_give).2.1 88 = .ok ((.iload_n 2), 1) := by decide +kernel
theorem dX0_give_77 : Dc mX0_give 77 (.if_icmp .ne 4) 3 80 := ⟨k_dX0_give_77.1, rfl⟩
theorem dX0_give_80 : Dc mX0_give 80 (.return_) 1 81 := ⟨k_dX0_give_77.2.1, rfl⟩
theorem dX0_give_81 : Dc mX0_give 81 (.aload_n 0) 1 82 := ⟨k_dX0_give_77.2.2.1, rfl⟩
theorem dX0_give_82 : Dc mX0_give 82 (.getfield 12) 3 85 := ⟨k_dX0_give_77.2.2.2.1, rfl⟩
theorem dX0_give_85 : Dc mX0_give 85 (.getfield 162) 3 88 := ⟨k_dX0_give_77.2.2.2.2.1, rfl⟩
theorem dX0_give_88 : Dc mX0_give 88 (.iload_n 2) 1 89 := ⟨k_dX0_give_77.2.2.2.2.2, rfl⟩
theorem k_dX0_give_89 : decode (mX0_give).2.1 89 = .ok ((.invokestatic 86), 3) ∧ decode (mX0_give).2.1 92 = .ok ((.iconst 1), 1) ∧ decode (mX0_give).2.1 93 = .ok ((.iadd), 1) ∧ decode (mX0_give).2.1 94 = .ok ((.istore 6), 2) ∧ decode (mX0_give).2.1 96 = .ok ((.aload_n 0), 1) ∧ decode (mX0_give).2.1 97 = .ok ((.getfield 12), 3) := by decide +kernel
theorem dX0_give_89 : Dc mX0_give 89 (.invokestatic 86) 3 92 := ⟨k_dX0_give_89.1, rfl⟩
theorem dX0_give_92 : Dc mX0_give 92 (.iconst 1) 1 93 := ⟨k_dX0_give_89.2.1, rfl⟩
theorem dX0_give_93 : Dc mX0_give 93 (.iadd) 1 94 := ⟨k_dX0_give_89.2.2.1, rfl⟩
theorem dX0_give_94 : Dc mX0_give 94 (.istore 6) 2 96 := ⟨k_dX0_give_89.2.2.2.1, rfl⟩
theorem dX0_give_96 : Dc mX0_give 96 (.aload_n 0) 1 97 := ⟨k_dX0_give_89.2.2.2.2.1, rfl⟩
theorem dX0_give_97 : Dc mX0_give 97 (.getfield 12) 3 100 := ⟨k_dX0_give_89.2.2.2.2.2, rfl⟩
theorem k_dX0_give_100 : decode (mX0_give).2.1 100 = .ok ((.getfield 159), 3) ∧ decode (mX0_give).2.1 103 = .ok ((.iload_n 1), 1) ∧ decode (mX0_give).2.1 104 = .ok ((.iload 5), 2) ∧ decode (mX0_give).2.1 106 = .ok ((.iconst 1), 1) ∧ decode (mX0_give).2.1 107 = .ok ((.isub), 1) ∧ decode (mX0_give).2.1 108 = .ok ((.invokestatic 131), 3) := by decide +kernel
theorem dX0_give_100 : Dc mX0_give 100 (.getfield 159) 3 103 := ⟨k_dX0_give_100.1, rfl⟩
theorem dX0_give_103 : Dc mX0_give 103 (.iload_n 1) 1 104 := ⟨k_dX0_give_100.2.1, rfl⟩
theorem dX0_give_104 : Dc mX0_give 104 (.iload 5) 2 106 := ⟨k_dX0_give_100.2.2.1, rfl⟩
theorem dX0_give_106 : Dc mX0_give 106 (.iconst 1) 1 107 := ⟨k_dX0_give_100.2.2.2.1, rfl⟩
theorem dX0_give_107 : Dc mX0_give 107 (.isub) 1 108 := ⟨k_dX0_give_100.2.2.2.2.1, rfl⟩
theorem dX0_give_108 : Dc mX0_give 108 (.invokestatic 131) 3 111 := ⟨k_dX0_give_100.2.2.2.2.2, rfl⟩
theorem k_dX0_give_111 : decode (mX0_give).2.1 111 = .ok ((.aload_n 0), 1) ∧ decode (mX0_give).2.1 112 = .ok ((.getfield 12), 3) ∧ decode (mX0_give).2.1 115 = .ok ((.getfield 165), 3) ∧ decode (mX0_give).2.1 118 = .ok ((.iload_n 1), 1) ∧ decode (mX0_give).2.1 119 = .ok ((.aload_n 0), 1) ∧ decode (mX0_give).2.1 120 = .ok ((.getfield 12), 3) := by decide +kernel
theorem dX0_give_111 : Dc mX0_give 111 (.aload_n 0) 1 112 := ⟨k_dX0_give_111.1, rfl⟩
theorem dX0_give_112 : Dc mX0_give 112 (.getfield 12) 3 115 := ⟨k_dX0_give_111.2.1, rfl⟩
theorem dX0_give_115 : Dc mX0_give 115 (.getfield 165) 3 118 := ⟨k_dX0_give_111.2.2.1, rfl⟩
theorem dX0_give_118 : Dc mX0_give 118 (.iload_n 1) 1 119 := ⟨k_dX0_give_111.2.2.2.1, rfl⟩
theorem dX0_give_119 : Dc mX0_give 119 (.aload_n 0) 1 120 := ⟨k_dX0_give_111.2.2.2.2.1, rfl⟩
theorem dX0_give_120 : Dc mX0_give 120 (.getfield 12) 3 123 := ⟨k_dX0_give_111.2.2.2.2.2, rfl⟩
theorem k_dX0_give_123 : decode (mX0_give).2.1 123 = .ok ((.getfield 165), 3) ∧ decode (mX0_give).2.1 126 = .ok ((.iload_n 1), 1) ∧ decode (mX0_give).2.1 127 = .ok ((.invokestatic 86), 3) ∧ decode (mX0_give).2.1 130 = .ok ((.iconst 1), 1) ∧ decode (mX0_give).2.1 131 = .ok ((.iadd), 1) ∧ decode (mX0_give).2.1 132 = .ok ((.invokestatic 131), 3) := by decide +kernel
theorem dX0_give_123 : Dc mX0_give 123 (.getfield 165) 3 126 := ⟨k_dX0_give_123.1, rfl⟩
theorem dX0_give_126 : Dc mX0_give 126 (.iload_n 1) 1 127 := ⟨k_dX0_give_123.2.1, rfl⟩
theorem dX0_give_127 : Dc mX0_give 127 (.invokestatic 86) 3 130 := ⟨k_dX0_give_123.2.2.1, rfl⟩
theorem dX0_give_130 : Dc mX0_give 130 (.iconst 1) 1 131 := ⟨k_dX0_give_123.2.2.2.1, rfl⟩
theorem dX0_give_131 : Dc mX0_give 131 (.iadd) 1 132 := ⟨k_dX0_give_123.2.2.2.2.1, rfl⟩
theorem dX0_give_132 : Dc mX0_give 132 (.invokestatic 131) 3 135 := ⟨k_dX0_give_123.2.2.2.2.2, rfl⟩
theorem k_dX0_give_135 : decode (mX0_give).2.1 135 = .ok ((.aload_n 0), 1) ∧ decode (mX0_give).2.1 136 = .ok ((.getfield 12), 3) ∧ decode (mX0_give).2.1 139 = .ok ((.getfield 162), 3) ∧ decode (mX0_give).2.1 142 = .ok ((.iload_n 2), 1) ∧ decode (mX0_give).2.1 143 = .ok ((.iload 6), 2) ∧ decode (mX0_give).2.1 145 = .ok ((.invokestatic 131), 3) := by decide +kernel
theorem dX0_give_135 : Dc mX0_give 135 (.aload_n 0) 1 136 := ⟨k_dX0_give_135.1, rfl⟩
theorem dX0_give_136 : Dc mX0_give 136 (.getfield 12) 3 139 := ⟨k_dX0_give_135.2.1, rfl⟩
theorem dX0_give_139 : Dc mX0_give 139 (.getfield 162) 3 142 := ⟨k_dX0_give_135.2.2.1, rfl⟩
theorem dX0_give_142 : Dc mX0_give 142 (.iload_n 2) 1 143 := ⟨k_dX0_give_135.2.2.2.1, rfl⟩
theorem dX0_give_143 : Dc mX0_give 143 (.iload 6) 2 145 := ⟨k_dX0_give_135.2.2.2.2.1, rfl⟩
theorem dX0_give_145 : Dc mX0_give 145 (.invokestatic 131) 3 148 := ⟨k_dX0_give_135.2.2.2.2.2, rfl⟩
theorem k_dX0_give_148 : decode (mX0_give).2.1 148 = .ok ((.aload_n 0), 1) ∧ decode (mX0_give).2.1 149 = .ok ((.getfield 37), 3) ∧ decode (mX0_give).2.1 152 = .ok ((.ifCond .eq 49), 3) ∧ decode (mX0_give).2.1 155 = .ok ((.aload_n 0), 1) ∧ decode (mX0_give).2.1 156 = .ok ((.iload_n 2), 1) ∧ decode (mX0_give).2.1 157 = .ok ((.iload 6), 2) := by decide +kernel
theorem dX0_give_148 : Dc mX0_give 148 (.aload_n 0) 1 149 := ⟨k_dX0_give_148.1, rfl⟩
theorem dX0_give_149 : Dc mX0_give 149 (.getfield 37) 3 152 := ⟨k_dX0_give_148.2.1, rfl⟩
theorem dX0_give_152 : Dc mX0_give 152 (.ifCond .eq 49) 3 155 := ⟨k_dX0_give_148.2.2.1, rfl⟩
theorem dX0_give_155 : Dc mX0_give 155 (.aload_n 0) 1 156 := ⟨k_dX0_give_148.2.2.2.1, rfl⟩
theorem dX0_give_156 : Dc mX0_give 156 (.iload_n 2) 1 157 := ⟨k_dX0_give_148.2.2.2.2.1, rfl⟩
theorem dX0_give_157 : Dc mX0_give 157 (.iload 6) 2 159 := ⟨k_dX0_give_148.2.2.2.2.2, rfl⟩
theorem k_dX0_give_159 : decode (mX0_give).2.1 159 = .ok ((.invokevirtual 168), 3) ∧ decode (mX0_give).2.1 162 = .ok ((.iload 6), 2) ∧ decode (mX0_give).2.1 164 = .ok ((.aload_n 0), 1) ∧ decode (mX0_give).2.1 165 = .ok ((.getfield 18), 3) ∧ decode (mX0_give).2.1 168 = .ok ((.iload_n 2), 1) ∧ decode (mX0_give).2.1 169 = .ok ((.invokestatic 86), 3) := by decide +kernel
theorem dX0_give_159 : Dc mX0_give 159 (.invokevirtual 168) 3 162 := ⟨k_dX0_give_159.1, rfl⟩
theorem dX0_give_162 : Dc mX0_give 162 (.iload 6) 2 164 := ⟨k_dX0_give_159.2.1, rfl⟩
theorem dX0_give_164 : Dc mX0_give 164 (.aload_n 0) 1 165 := ⟨k_dX0_give_159.2.2.1, rfl⟩
theorem dX0_give_165 : Dc mX0_give 165 (.getfield 18) 3 168 := ⟨k_dX0_give_159.2.2.2.1, rfl⟩
theorem dX0_give_168 : Dc mX0_give 168 (.iload_n 2) 1 169 := ⟨k_dX0_give_159.2.2.2.2.1, rfl⟩
theorem dX0_give_169 : Dc mX0_give 169 (.invokestatic 86) 3 172 := ⟨k_dX0_give_159.2.2.2.2.2, rfl⟩
theorem k_dX0_give_172 : decode (mX0_give).2.1 172 = .ok ((.bipush 10), 2) ∧ decode (mX0_give).2.1 174 = .ok ((.idiv), 1) ∧ decode (mX0_give).2.1 175 = .ok ((.if_icmp .le 7), 3) ∧ decode (mX0_give).2.1 178 = .ok ((.iconst 1), 1) ∧ decode (mX0_give).2.1 179 = .ok ((.goto 4), 3) ∧ decode (mX0_give).2.1 182 = .ok ((.iconst 0), 1) := by decide +kernel
theorem dX0_give_172 : Dc mX0_give 172 (.bipush 10) 2 174 := ⟨k_dX0_give_172.1, rfl⟩
theorem dX0_give_174 : Dc mX0_give 174 (.idiv) 1 175 := ⟨k_dX0_give_172.2.1, rfl⟩
theorem dX0_give_175 : Dc mX0_give 175 (.if_icmp .le 7) 3 178 := ⟨k_dX0_give_172.2.2.1, rfl⟩
theorem dX0_give_178 : Dc mX0_give 178 (.iconst 1) 1 179 := ⟨k_dX0_give_172.2.2.2.1, rfl⟩
theorem dX0_give_179 : Dc mX0_give 179 (.goto 4) 3 182 := ⟨k_dX0_give_172.2.2.2.2.1, rfl⟩
theorem dX0_give_182 : Dc mX0_give 182 (.iconst 0) 1 183 := ⟨k_dX0_give_172.2.2.2.2.2, rfl⟩
theorem k_dX0_give_183 : decode (mX0_give).2.1 183 = .ok ((.invokestatic 152), 3) ∧ decode (mX0_give).2.1 186 = .ok ((.ifCond .eq 15), 3) ∧ decode (mX0_give).2.1 189 = .ok ((.aload_n 0), 1) ∧ decode (mX0_give).2.1 190 = .ok ((.getfield 12), 3) ∧ decode (mX0_give).2.1 193 = .ok ((.getfield 139), 3) ∧ decode (mX0_give).2.1 196 = .ok ((.iload_n 2), 1) := by decide +kernel
theorem dX0_give_183 : Dc mX0_give 183 (.invokestatic 152) 3 186 := ⟨k_dX0_give_183.1, rfl⟩
theorem dX0_give_186 : Dc mX0_give 186 (.ifCond .eq 15) 3 189 := ⟨k_dX0_give_183.2.1, rfl⟩
theorem dX0_give_189 : Dc mX0_give 189 (.aload_n 0) 1 190 := ⟨k_dX0_give_183.2.2.1, rfl⟩
theorem dX0_give_190 : Dc mX0_give 190 (.getfield 12) 3 193 := ⟨k_dX0_give_183.2.2.2.1, rfl⟩
theorem dX0_give_193 : Dc mX0_give 193 (.getfield 139) 3 196 := ⟨k_dX0_give_183.2.2.2.2.1, rfl⟩
theorem dX0_give_196 : Dc mX0_give 196 (.iload_n 2) 1 197 := ⟨k_dX0_give_183.2.2.2.2.2, rfl⟩
theorem k_dX0_give_197 : decode (mX0_give).2.1 197 = .ok ((.iload_n 3), 1) ∧ decode (mX0_give).2.1 198 = .ok ((.invokestatic 131), 3) ∧ decode (mX0_give).2.1 201 = .ok ((.return_), 1) := by decide +kernel
theorem dX0_give_197 : Dc mX0_give 197 (.iload_n 3) 1 198 := ⟨k_dX0_give_197.1, rfl⟩
theorem dX0_give_198 : Dc mX0_give 198 (.invokestatic 131) 3 201 := ⟨k_dX0_give_197.2.1, rfl⟩
theorem dX0_give_201 : Dc mX0_give 201 (.return_) 1 202 := ⟨k_dX0_give_197.2.2, rfl⟩
theorem k_dX0_filmOneAgain_0 : decode (mX0_filmOneAgain).2.1 0 = .ok ((.iconst 0), 1) ∧ decode (mX0_filmOneAgain).2.1 1 = .ok ((.istore_n 1), 1) ∧ decode (mX0_filmOneAgain).2.1 2 = .ok ((.iload_n 1), 1) ∧ decode (mX0_filmOneAgain).2.1 3 = .ok ((.aload_n 0), 1) ∧ decode (mX0_filmOneAgain).2.1 4 = .ok ((.getfield 40), 3) ∧ decode (mX0_filmOneAgain).2.1 7 = .ok ((.getfield 77), 3) := by decide +kernel
theorem dX0_filmOneAgain_0 : Dc mX0_filmOneAgain 0 (.iconst 0) 1 1 := ⟨k_dX0_filmOneAgain_0.1, rfl⟩
theorem dX0_filmOneAgain_1 : Dc mX0_filmOneAgain 1 (.istore_n 1) 1 2 := ⟨k_dX0_filmOneAgain_0.2.1, rfl⟩
theorem dX0_filmOneAgain_2 : Dc mX0_filmOneAgain 2 (.iload_n 1) 1 3 := ⟨k_dX0_filmOneAgain_0.2.2.1, rfl⟩
theorem dX0_filmOneAgain_3 : Dc mX0_filmOneAgain 3 (.aload_n 0) 1 4 := ⟨k_dX0_filmOneAgain_0.2.2.2.1, rfl⟩
theorem dX0_filmOneAgain_4 : Dc mX0_filmOneAgain 4 (.getfield 40) 3 7 := ⟨k_dX0_filmOneAgain_0.2.2.2.2.1, rfl⟩
theorem dX0_filmOneAgain_7 : Dc mX0_filmOneAgain 7 (.getfield 77) 3 10 := ⟨k_dX0_filmOneAgain_0.2.2.2.2.2, rfl⟩
theorem k_dX0_filmOneAgain_10 : decode (mX0_filmOneAgain).2.1 10 = .ok ((.getfield 80), 3) ∧ decode (mX0_filmOneAgain).2.1 13 = .ok ((.if_icmp .ge 114), 3) ∧ decode (mX0_filmOneAgain).2.1 16 = .ok ((.aload_n 0), 1) ∧ decode (mX0_filmOneAgain).2.1 17 = .ok ((.getfield 12), 3) ∧ decode (mX0_filmOneAgain).2.1 20 = .ok ((.getfield 83), 3) ∧ decode (mX0_filmOneAgain).2.1 23 = .ok ((.iload_n 1), 1) := by decide +kernel
theorem dX0_filmOneAgain_10 : Dc mX0_filmOneAgain 10 (.getfield 80) 3 13 := ⟨k_dX0_filmOneAgain_10.1, rfl⟩
theorem dX0_filmOneAgain_13 : Dc mX0_filmOneAgain 13 (.if_icmp .ge 114) 3 16 := ⟨k_dX0_filmOneAgain_10.2.1, rfl⟩
theorem dX0_filmOneAgain_16 : Dc mX0_filmOneAgain 16 (.aload_n 0) 1 17 := ⟨k_dX0_filmOneAgain_10.2.2.1, rfl⟩
theorem dX0_filmOneAgain_17 : Dc mX0_filmOneAgain 17 (.getfield 12) 3 20 := ⟨k_dX0_filmOneAgain_10.2.2.2.1, rfl⟩
theorem dX0_filmOneAgain_20 : Dc mX0_filmOneAgain 20 (.getfield 83) 3 23 := ⟨k_dX0_filmOneAgain_10.2.2.2.2.1, rfl⟩
theorem dX0_filmOneAgain_23 : Dc mX0_filmOneAgain 23 (.iload_n 1) 1 24 := ⟨k_dX0_filmOneAgain_10.2.2.2.2.2, rfl⟩
theorem k_dX0_filmOneAgain_24 : decode (mX0_filmOneAgain).2.1 24 = .ok ((.invokestatic 86), 3) ∧ decode (mX0_filmOneAgain).2.1 27 = .ok ((.ifCond .eq 94), 3) ∧ decode (mX0_filmOneAgain).2.1 30 = .ok ((.aload_n 0), 1) ∧ decode (mX0_filmOneAgain).2.1 31 = .ok ((.getfield 12), 3) ∧ decode (mX0_filmOneAgain).2.1 34 = .ok ((.iload_n 1), 1) ∧ decode (mX0_filmOneAgain).2.1 35 = .ok ((.invokevirtual 171), 3) := by decide +kernel
theorem dX0_filmOneAgain_24 : Dc mX0_filmOneAgain 24 (.invokestatic 86) 3 27 := ⟨k_dX0_filmOneAgain_24.1, rfl⟩
theorem dX0_filmOneAgain_27 : Dc mX0_filmOneAgain 27 (.ifCond .eq 94) 3 30 := ⟨k_dX0_filmOneAgain_24.2.1, rfl⟩
theorem dX0_filmOneAgain_30 : Dc mX0_filmOneAgain 30 (.aload_n 0) 1 31 := ⟨k_dX0_filmOneAgain_24.2.2.1, rfl⟩
theorem dX0_filmOneAgain_31 : Dc mX0_filmOneAgain 31 (.getfield 12) 3 34 := ⟨k_dX0_filmOneAgain_24.2.2.2.1, rfl⟩
theorem dX0_filmOneAgain_34 : Dc mX0_filmOneAgain 34 (.iload_n 1) 1 35 := ⟨k_dX0_filmOneAgain_24.2.2.2.2.1, rfl⟩
theorem dX0_filmOneAgain_35 : Dc mX0_filmOneAgain 35 (.invokevirtual 171) 3 38 := ⟨k_dX0_filmOneAgain_24.2.2.2.2.2, rfl⟩
theorem k_dX0_filmOneAgain_38 : decode (mX0_filmOneAgain).2.1 38 = .ok ((.ifCond .le 83), 3) ∧ decode (mX0_filmOneAgain).2.1 41 = .ok ((.aload_n 0), 1) ∧ decode (mX0_filmOneAgain).2.1 42 = .ok ((.iload_n 1), 1) ∧ decode (mX0_filmOneAgain).2.1 43 = .ok ((.invokevirtual 175), 3) ∧ decode (mX0_filmOneAgain).2.1 46 = .ok ((.lstore_n 2), 1) ∧ decode (mX0_filmOneAgain).2.1 47 = .ok ((.lload_n 2), 1) := by decide +kernel
theorem dX0_filmOneAgain_38 : Dc mX0_filmOneAgain 38 (.ifCond .le 83) 3 41 := ⟨k_dX0_filmOneAgain_38.1, rfl⟩
theorem dX0_filmOneAgain_41 : Dc mX0_filmOneAgain 41 (.aload_n 0) 1 42 := ⟨k_dX0_filmOneAgain_38.2.1, rfl⟩
theorem dX0_filmOneAgain_42 : Dc mX0_filmOneAgain 42 (.iload_n 1) 1 43 := ⟨k_dX0_filmOneAgain_38.2.2.1, rfl⟩
theorem dX0_filmOneAgain_43 : Dc mX0_filmOneAgain 43 (.invokevirtual 175) 3 46 := ⟨k_dX0_filmOneAgain_38.2.2.2.1, rfl⟩
theorem dX0_filmOneAgain_46 : Dc mX0_filmOneAgain 46 (.lstore_n 2) 1 47 := ⟨k_dX0_filmOneAgain_38.2.2.2.2.1, rfl⟩
theorem dX0_filmOneAgain_47 : Dc mX0_filmOneAgain 47 (.lload_n 2) 1 48 := ⟨k_dX0_filmOneAgain_38.2.2.2.2.2, rfl⟩
theorem k_dX0_filmOneAgain_48 : decode (mX0_filmOneAgain).2.1 48 = .ok ((.ldc2_w 181), 3) ∧ decode (mX0_filmOneAgain).2.1 51 = .ok ((.lcmp), 1) ∧ decode (mX0_filmOneAgain).2.1 52 = .ok ((.ifCond .ne 21), 3) ∧ decode (mX0_filmOneAgain).2.1 55 = .ok ((.aload_n 0), 1) ∧ decode (mX0_filmOneAgain).2.1 56 = .ok ((.getfield 40), 3) ∧ decode (mX0_filmOneAgain).2.1 59 = .ok ((.getfield 77), 3) := by decide +kernel
theorem dX0_filmOneAgain_48 : Dc mX0_filmOneAgain 48 (.ldc2_w 181) 3 51 := ⟨k_dX0_filmOneAgain_48.1, rfl⟩
theorem dX0_filmOneAgain_51 : Dc mX0_filmOneAgain 51 (.lcmp) 1 52 := ⟨k_dX0_filmOneAgain_48.2.1, rfl⟩
theorem dX0_filmOneAgain_52 : Dc mX0_filmOneAgain 52 (.ifCond .ne 21) 3 55 := ⟨k_dX0_filmOneAgain_48.2.2.1, rfl⟩
theorem dX0_filmOneAgain_55 : Dc mX0_filmOneAgain 55 (.aload_n 0) 1 56 := ⟨k_dX0_filmOneAgain_48.2.2.2.1, rfl⟩
theorem dX0_filmOneAgain_56 : Dc mX0_filmOneAgain 56 (.getfield 40) 3 59 := ⟨k_dX0_filmOneAgain_48.2.2.2.2.1, rfl⟩
theorem dX0_filmOneAgain_59 : Dc mX0_filmOneAgain 59 (.getfield 77) 3 62 := ⟨k_dX0_filmOneAgain_48.2.2.2.2.2, rfl⟩
theorem k_dX0_filmOneAgain_62 : decode (mX0_filmOneAgain).2.1 62 = .ok ((.getfield 54), 3) ∧ decode (mX0_filmOneAgain).2.1 65 = .ok ((.iload_n 1), 1) ∧ decode (mX0_filmOneAgain).2.1 66 = .ok ((.invokestatic 86), 3) ∧ decode (mX0_filmOneAgain).2.1 69 = .ok ((.i2l), 1) ∧ decode (mX0_filmOneAgain).2.1 70 = .ok ((.goto 14), 3) ∧ decode (mX0_filmOneAgain).2.1 73 = .ok ((.lconst 0), 1) := by decide +kernel
theorem dX0_filmOneAgain_62 : Dc mX0_filmOneAgain 62 (.getfield 54) 3 65 := ⟨k_dX0_filmOneAgain_62.1, rfl⟩
theorem dX0_filmOneAgain_65 : Dc mX0_filmOneAgain 65 (.iload_n 1) 1 66 := ⟨k_dX0_filmOneAgain_62.2.1, rfl⟩
theorem dX0_filmOneAgain_66 : Dc mX0_filmOneAgain 66 (.invokestatic 86) 3 69 := ⟨k_dX0_filmOneAgain_62.2.2.1, rfl⟩
theorem dX0_filmOneAgain_69 : Dc mX0_filmOneAgain 69 (.i2l) 1 70 := ⟨k_dX0_filmOneAgain_62.2.2.2.1, rfl⟩
theorem dX0_filmOneAgain_70 : Dc mX0_filmOneAgain 70 (.goto 14) 3 73 := ⟨k_dX0_filmOneAgain_62.2.2.2.2.1, rfl⟩
theorem dX0_filmOneAgain_73 : Dc mX0_filmOneAgain 73 (.lconst 0) 1 74 := ⟨k_dX0_filmOneAgain_62.2.2.2.2.2, rfl⟩
theorem k_dX0_filmOneAgain_74 : decode (mX0_filmOneAgain).2.1 74 = .ok ((.ldc2_w 183), 3) ∧ decode (mX0_filmOneAgain).2.1 77 = .ok ((.lload_n 2), 1) ∧ decode (mX0_filmOneAgain).2.1 78 = .ok ((.invokestatic 185), 3) ∧ decode (mX0_filmOneAgain).2.1 81 = .ok ((.invokestatic 191), 3) ∧ decode (mX0_filmOneAgain).2.1 84 = .ok ((.lstore 4), 2) ∧ decode (mX0_filmOneAgain).2.1 86 = .ok ((.aload_n 0), 1) := by decide +kernel
theorem dX0_filmOneAgain_74 : Dc mX0_filmOneAgain 74 (.ldc2_w 183) 3 77 := ⟨k_dX0_filmOneAgain_74.1, rfl⟩
theorem dX0_filmOneAgain_77 : Dc mX0_filmOneAgain 77 (.lload_n 2) 1 78 := ⟨k_dX0_filmOneAgain_74.2.1, rfl⟩
theorem dX0_filmOneAgain_78 : Dc mX0_filmOneAgain 78 (.invokestatic 185) 3 81 := ⟨k_dX0_filmOneAgain_74.2.2.1, rfl⟩
theorem dX0_filmOneAgain_81 : Dc mX0_filmOneAgain 81 (.invokestatic 191) 3 84 := ⟨k_dX0_filmOneAgain_74.2.2.2.1, rfl⟩
theorem dX0_filmOneAgain_84 : Dc mX0_filmOneAgain 84 (.lstore 4) 2 86 := ⟨k_dX0_filmOneAgain_74.2.2.2.2.1, rfl⟩
theorem dX0_filmOneAgain_86 : Dc mX0_filmOneAgain 86 (.aload_n 0) 1 87 := ⟨k_dX0_filmOneAgain_74.2.2.2.2.2, rfl⟩
theorem k_dX0_filmOneAgain_87 : decode (mX0_filmOneAgain).2.1 87 = .ok ((.getfield 12), 3) ∧ decode (mX0_filmOneAgain).2.1 90 = .ok ((.getfield 194), 3) ∧ decode (mX0_filmOneAgain).2.1 93 = .ok ((.i2l), 1) ∧ decode (mX0_filmOneAgain).2.1 94 = .ok ((.lload 4), 2) ∧ decode (mX0_filmOneAgain).2.1 96 = .ok ((.lcmp), 1) ∧ decode (mX0_filmOneAgain).2.1 97 = .ok ((.ifCond .lt 24), 3) := by decide +kernel
theorem dX0_filmOneAgain_87 : Dc mX0_filmOneAgain 87 (.getfield 12) 3 90 := ⟨k_dX0_filmOneAgain_87.1, rfl⟩
theorem dX0_filmOneAgain_90 : Dc mX0_filmOneAgain 90 (.getfield 194) 3 93 := ⟨k_dX0_filmOneAgain_87.2.1, rfl⟩
theorem dX0_filmOneAgain_93 : Dc mX0_filmOneAgain 93 (.i2l) 1 94 := ⟨k_dX0_filmOneAgain_87.2.2.1, rfl⟩
theorem dX0_filmOneAgain_94 : Dc mX0_filmOneAgain 94 (.lload 4) 2 96 := ⟨k_dX0_filmOneAgain_87.2.2.2.1, rfl⟩
theorem dX0_filmOneAgain_96 : Dc mX0_filmOneAgain 96 (.lcmp) 1 97 := ⟨k_dX0_filmOneAgain_87.2.2.2.2.1, rfl⟩
theorem dX0_filmOneAgain_97 : Dc mX0_filmOneAgain 97 (.ifCond .lt 24) 3 100 := ⟨k_dX0_filmOneAgain_87.2.2.2.2.2, rfl⟩
theorem k_dX0_filmOneAgain_100 : decode (mX0_filmOneAgain).2.1 100 = .ok ((.aload_n 0), 1) ∧ decode (mX0_filmOneAgain).2.1 101 = .ok ((.getfield 12), 3) ∧ decode (mX0_filmOneAgain).2.1 104 = .ok ((.dup), 1) ∧ decode (mX0_filmOneAgain).2.1 105 = .ok ((.getfield 194), 3) ∧ decode (mX0_filmOneAgain).2.1 108 = .ok ((.lload 4), 2) ∧ decode (mX0_filmOneAgain).2.1 110 = .ok ((.l2i), 1) := by decide +kernel
theorem dX0_filmOneAgain_100 : Dc mX0_filmOneAgain 100 (.aload_n 0) 1 101 := ⟨k_dX0_filmOneAgain_100.1, rfl⟩
theorem dX0_filmOneAgain_101 : Dc mX0_filmOneAgain 101 (.getfield 12) 3 104 := ⟨k_dX0_filmOneAgain_100.2.1, rfl⟩
theorem dX0_filmOneAgain_104 : Dc mX0_filmOneAgain 104 (.dup) 1 105 := ⟨k_dX0_filmOneAgain_100.2.2.1, rfl⟩
theorem dX0_filmOneAgain_105 : Dc mX0_filmOneAgain 105 (.getfield 194) 3 108 := ⟨k_dX0_filmOneAgain_100.2.2.2.1, rfl⟩
theorem dX0_filmOneAgain_108 : Dc mX0_filmOneAgain 108 (.lload 4) 2 110 := ⟨k_dX0_filmOneAgain_100.2.2.2.2.1, rfl⟩
theorem dX0_filmOneAgain_110 : Dc mX0_filmOneAgain 110 (.l2i) 1 111 := ⟨k_dX0_filmOneAgain_100.2.2.2.2.2, rfl⟩
theorem k_dX0_filmOneAgain_111 : decode (mX0_filmOneAgain).2.1 111 = .ok ((.isub), 1) ∧ decode (mX0_filmOneAgain).2.1 112 = .ok ((.putfield 194), 3) ∧ decode (mX0_filmOneAgain).2.1 115 = .ok ((.aload_n 0), 1) ∧ decode (mX0_filmOneAgain).2.1 116 = .ok ((.iload_n 1), 1) ∧ decode (mX0_filmOneAgain).2.1 117 = .ok ((.invokevirtual 197), 3) ∧ decode (mX0_filmOneAgain).2.1 120 = .ok ((.return_), 1) := by decide +kernel
theorem dX0_filmOneAgain_111 : Dc mX0_filmOneAgain 111 (.isub) 1 112 := ⟨k_dX0_filmOneAgain_111.1, rfl⟩
theorem dX0_filmOneAgain_112 : Dc mX0_filmOneAgain 112 (.putfield 194) 3 115 := ⟨k_dX0_filmOneAgain_111.2.1, rfl⟩
theorem dX0_filmOneAgain_115 : Dc mX0_filmOneAgain 115 (.aload_n 0) 1 116 := ⟨k_dX0_filmOneAgain_111.2.2.1, rfl⟩
theorem dX0_filmOneAgain_116 : Dc mX0_filmOneAgain 116 (.iload_n 1) 1 117 := ⟨k_dX0_filmOneAgain_111.2.2.2.1, rfl⟩
theorem dX0_filmOneAgain_117 : Dc mX0_filmOneAgain 117 (.invokevirtual 197) 3 120 := ⟨k_dX0_filmOneAgain_111.2.2.2.2.1, rfl⟩
theorem dX0_filmOneAgain_120 : Dc mX0_filmOneAgain 120 (.return_) 1 121 := ⟨k_dX0_filmOneAgain_111.2.2.2.2.2, rfl⟩
theorem k_dX0_filmOneAgain_121 : decode (mX0_filmOneAgain).2.1 121 = .ok ((.iinc 1 1), 3) ∧ decode (mX0_filmOneAgain).2.1 124 = .ok ((.goto (-122)), 3) ∧ decode (mX0_filmOneAgain).2.1 127 = .ok ((.return_), 1) := by decide +kernel
theorem dX0_filmOneAgain_121 : Dc mX0_filmOneAgain 121 (.iinc 1 1) 3 124 := ⟨k_dX0_filmOneAgain_121.1, rfl⟩
theorem dX0_filmOneAgain_124 : Dc mX0_filmOneAgain 124 (.goto (-122)) 3 127 := ⟨k_dX0_filmOneAgain_121.2.1, rfl⟩
theorem dX0_filmOneAgain_127 : Dc mX0_filmOneAgain 127 (.return_) 1 128 := ⟨k_dX0_filmOneAgain_121.2.2, rfl⟩
theorem k_dX0_filmAgain_0 : decode (mX0_filmAgain).2.1 0 = .ok ((.aload_n 0), 1) ∧ decode (mX0_filmAgain).2.1 1 = .ok ((.getfield 12), 3) ∧ decode (mX0_filmAgain).2.1 4 = .ok ((.dup), 1) ∧ decode (mX0_filmAgain).2.1 5 = .ok ((.getfield 200), 3) ∧ decode (mX0_filmAgain).2.1 8 = .ok ((.iconst 1), 1) ∧ decode (mX0_filmAgain).2.1 9 = .ok ((.iadd), 1) := by decide +kernel
theorem dX0_filmAgain_0 : Dc mX0_filmAgain 0 (.aload_n 0) 1 1 := ⟨k_dX0_filmAgain_0.1, rfl⟩
theorem dX0_filmAgain_1 : Dc mX0_filmAgain 1 (.getfield 12) 3 4 := ⟨k_dX0_filmAgain_0.2.1, rfl⟩
theorem dX0_filmAgain_4 : Dc mX0_filmAgain 4 (.dup) 1 5 := ⟨k_dX0_filmAgain_0.2.2.1, rfl⟩
theorem dX0_filmAgain_5 : Dc mX0_filmAgain 5 (.getfield 200) 3 8 := ⟨k_dX0_filmAgain_0.2.2.2.1, rfl⟩
theorem dX0_filmAgain_8 : Dc mX0_filmAgain 8 (.iconst 1) 1 9 := ⟨k_dX0_filmAgain_0.2.2.2.2.1, rfl⟩
theorem dX0_filmAgain_9 : Dc mX0_filmAgain 9 (.iadd) 1 10 := ⟨k_dX0_filmAgain_0.2.2.2.2.2, rfl⟩
theorem k_dX0_filmAgain_10 : decode (mX0_filmAgain).2.1 10 = .ok ((.putfield 200), 3) ∧ decode (mX0_filmAgain).2.1 13 = .ok ((.aload_n 0), 1) ∧ decode (mX0_filmAgain).2.1 14 = .ok ((.getfield 12), 3) ∧ decode (mX0_filmAgain).2.1 17 = .ok ((.getfield 203), 3) ∧ decode (mX0_filmAgain).2.1 20 = .ok ((.iload_n 1), 1) ∧ decode (mX0_filmAgain).2.1 21 = .ok ((.aload_n 0), 1) := by decide +kernel
theorem dX0_filmAgain_10 : Dc mX0_filmAgain 10 (.putfield 200) 3 13 := ⟨k_dX0_filmAgain_10.1, rfl⟩
theorem dX0_filmAgain_13 : Dc mX0_filmAgain 13 (.aload_n 0) 1 14 := ⟨k_dX0_filmAgain_10.2.1, rfl⟩
theorem dX0_filmAgain_14 : Dc mX0_filmAgain 14 (.getfield 12) 3 17 := ⟨k_dX0_filmAgain_10.2.2.1, rfl⟩
theorem dX0_filmAgain_17 : Dc mX0_filmAgain 17 (.getfield 203) 3 20 := ⟨k_dX0_filmAgain_10.2.2.2.1, rfl⟩
theorem dX0_filmAgain_20 : Dc mX0_filmAgain 20 (.iload_n 1) 1 21 := ⟨k_dX0_filmAgain_10.2.2.2.2.1, rfl⟩
theorem dX0_filmAgain_21 : Dc mX0_filmAgain 21 (.aload_n 0) 1 22 := ⟨k_dX0_filmAgain_10.2.2.2.2.2, rfl⟩
theorem k_dX0_filmAgain_22 : decode (mX0_filmAgain).2.1 22 = .ok ((.getfield 12), 3) ∧ decode (mX0_filmAgain).2.1 25 = .ok ((.getfield 203), 3) ∧ decode (mX0_filmAgain).2.1 28 = .ok ((.iload_n 1), 1) ∧ decode (mX0_filmAgain).2.1 29 = .ok ((.invokestatic 86), 3) ∧ decode (mX0_filmAgain).2.1 32 = .ok ((.iconst 1), 1) ∧ decode (mX0_filmAgain).2.1 33 = .ok ((.iadd), 1) := by decide +kernel
theorem dX0_filmAgain_22 : Dc mX0_filmAgain 22 (.getfield 12) 3 25 := ⟨k_dX0_filmAgain_22.1, rfl⟩
theorem dX0_filmAgain_25 : Dc mX0_filmAgain 25 (.getfield 203) 3 28 := ⟨k_dX0_filmAgain_22.2.1, rfl⟩
theorem dX0_filmAgain_28 : Dc mX0_filmAgain 28 (.iload_n 1) 1 29 := ⟨k_dX0_filmAgain_22.2.2.1, rfl⟩
theorem dX0_filmAgain_29 : Dc mX0_filmAgain 29 (.invokestatic 86) 3 32 := ⟨k_dX0_filmAgain_22.2.2.2.1, rfl⟩
theorem dX0_filmAgain_32 : Dc mX0_filmAgain 32 (.iconst 1) 1 33 := ⟨k_dX0_filmAgain_22.2.2.2.2.1, rfl⟩
theorem dX0_filmAgain_33 : Dc mX0_filmAgain 33 (.iadd) 1 34 := ⟨k_dX0_filmAgain_22.2.2.2.2.2, rfl⟩
theorem k_dX0_filmAgain_34 : decode (mX0_filmAgain).2.1 34 = .ok ((.invokestatic 131), 3) ∧ decode (mX0_filmAgain).2.1 37 = .ok ((.iconst 0), 1) ∧ decode (mX0_filmAgain).2.1 38 = .ok ((.istore_n 2), 1) ∧ decode (mX0_filmAgain).2.1 39 = .ok ((.iload_n 2), 1) ∧ decode (mX0_filmAgain).2.1 40 = .ok ((.aload_n 0), 1) ∧ decode (mX0_filmAgain).2.1 41 = .ok ((.getfield 40), 3) := by decide +kernel
theorem dX0_filmAgain_34 : Dc mX0_filmAgain 34 (.invokestatic 131) 3 37 := ⟨k_dX0_filmAgain_34.1, rfl⟩
theorem dX0_filmAgain_37 : Dc mX0_filmAgain 37 (.iconst 0) 1 38 := ⟨k_dX0_filmAgain_34.2.1, rfl⟩
theorem dX0_filmAgain_38 : Dc mX0_filmAgain 38 (.istore_n 2) 1 39 := ⟨k_dX0_filmAgain_34.2.2.1, rfl⟩
theorem dX0_filmAgain_39 : Dc mX0_filmAgain 39 (.iload_n 2) 1 40 := ⟨k_dX0_filmAgain_34.2.2.2.1, rfl⟩
theorem dX0_filmAgain_40 : Dc mX0_filmAgain 40 (.aload_n 0) 1 41 := ⟨k_dX0_filmAgain_34.2.2.2.2.1, rfl⟩
theorem dX0_filmAgain_41 : Dc mX0_filmAgain 41 (.getfield 40) 3 44 := ⟨k_dX0_filmAgain_34.2.2.2.2.2, rfl⟩
theorem k_dX0_filmAgain_44 : decode (mX0_filmAgain).2.1 44 = .ok ((.getfield 48), 3) ∧ decode (mX0_filmAgain).2.1 47 = .ok ((.getfield 80), 3) ∧ decode (mX0_filmAgain).2.1 50 = .ok ((.if_icmp .ge 54), 3) ∧ decode (mX0_filmAgain).2.1 53 = .ok ((.aload_n 0), 1) ∧ decode (mX0_filmAgain).2.1 54 = .ok ((.getfield 12), 3) ∧ decode (mX0_filmAgain).2.1 57 = .ok ((.getfield 139), 3) := by decide +kernel
theorem dX0_filmAgain_44 : Dc mX0_filmAgain 44 (.getfield 48) 3 47 := ⟨k_dX0_filmAgain_44.1, rfl⟩
theorem dX0_filmAgain_47 : Dc mX0_filmAgain 47 (.getfield 80) 3 50 := ⟨k_dX0_filmAgain_44.2.1, rfl⟩
theorem dX0_filmAgain_50 : Dc mX0_filmAgain 50 (.if_icmp .ge 54) 3 53 := ⟨k_dX0_filmAgain_44.2.2.1, rfl⟩
theorem dX0_filmAgain_53 : Dc mX0_filmAgain 53 (.aload_n 0) 1 54 := ⟨k_dX0_filmAgain_44.2.2.2.1, rfl⟩
theorem dX0_filmAgain_54 : Dc mX0_filmAgain 54 (.getfield 12) 3 57 := ⟨k_dX0_filmAgain_44.2.2.2.2.1, rfl⟩
theorem dX0_filmAgain_57 : Dc mX0_filmAgain 57 (.getfield 139) 3 60 := ⟨k_dX0_filmAgain_44.2.2.2.2.2, rfl⟩
theorem k_dX0_filmAgain_60 : decode (mX0_filmAgain).2.1 60 = .ok ((.iload_n 2), 1) ∧ decode (mX0_filmAgain).2.1 61 = .ok ((.invokestatic 86), 3) ∧ decode (mX0_filmAgain).2.1 64 = .ok ((.istore_n 3), 1) ∧ decode (mX0_filmAgain).2.1 65 = .ok ((.iload_n 3), 1) ∧ decode (mX0_filmAgain).2.1 66 = .ok ((.ifCond .lt 32), 3) ∧ decode (mX0_filmAgain).2.1 69 = .ok ((.aload_n 0), 1) := by decide +kernel
theorem dX0_filmAgain_60 : Dc mX0_filmAgain 60 (.iload_n 2) 1 61 := ⟨k_dX0_filmAgain_60.1, rfl⟩
theorem dX0_filmAgain_61 : Dc mX0_filmAgain 61 (.invokestatic 86) 3 64 := ⟨k_dX0_filmAgain_60.2.1, rfl⟩
theorem dX0_filmAgain_64 : Dc mX0_filmAgain 64 (.istore_n 3) 1 65 := ⟨k_dX0_filmAgain_60.2.2.1, rfl⟩
theorem dX0_filmAgain_65 : Dc mX0_filmAgain 65 (.iload_n 3) 1 66 := ⟨k_dX0_filmAgain_60.2.2.2.1, rfl⟩
theorem dX0_filmAgain_66 : Dc mX0_filmAgain 66 (.ifCond .lt 32) 3 69 := ⟨k_dX0_filmAgain_60.2.2.2.2.1, rfl⟩
theorem dX0_filmAgain_69 : Dc mX0_filmAgain 69 (.aload_n 0) 1 70 := ⟨k_dX0_filmAgain_60.2.2.2.2.2, rfl⟩
theorem k_dX0_filmAgain_70 : decode (mX0_filmAgain).2.1 70 = .ok ((.getfield 12), 3) ∧ decode (mX0_filmAgain).2.1 73 = .ok ((.iload_n 1), 1) ∧ decode (mX0_filmAgain).2.1 74 = .ok ((.iload_n 2), 1) ∧ decode (mX0_filmAgain).2.1 75 = .ok ((.invokevirtual 135), 3) ∧ decode (mX0_filmAgain).2.1 78 = .ok ((.ifCond .lt 20), 3) ∧ decode (mX0_filmAgain).2.1 81 = .ok ((.aload_n 0), 1) := by decide +kernel
theorem dX0_filmAgain_70 : Dc mX0_filmAgain 70 (.getfield 12) 3 73 := ⟨k_dX0_filmAgain_70.1, rfl⟩
theorem dX0_filmAgain_73 : Dc mX0_filmAgain 73 (.iload_n 1) 1 74 := ⟨k_dX0_filmAgain_70.2.1, rfl⟩
theorem dX0_filmAgain_74 : Dc mX0_filmAgain 74 (.iload_n 2) 1 75 := ⟨k_dX0_filmAgain_70.2.2.1, rfl⟩
theorem dX0_filmAgain_75 : Dc mX0_filmAgain 75 (.invokevirtual 135) 3 78 := ⟨k_dX0_filmAgain_70.2.2.2.1, rfl⟩
theorem dX0_filmAgain_78 : Dc mX0_filmAgain 78 (.ifCond .lt 20) 3 81 := ⟨k_dX0_filmAgain_70.2.2.2.2.1, rfl⟩
theorem dX0_filmAgain_81 : Dc mX0_filmAgain 81 (.aload_n 0) 1 82 := ⟨k_dX0_filmAgain_70.2.2.2.2.2, rfl⟩
theorem k_dX0_filmAgain_82 : decode (mX0_filmAgain).2.1 82 = .ok ((.getfield 12), 3) ∧ decode (mX0_filmAgain).2.1 85 = .ok ((.getfield 142), 3) ∧ decode (mX0_filmAgain).2.1 88 = .ok ((.iload_n 1), 1) ∧ decode (mX0_filmAgain).2.1 89 = .ok ((.bipush 6), 2) ∧ decode (mX0_filmAgain).2.1 91 = .ok ((.imul), 1) ∧ decode (mX0_filmAgain).2.1 92 = .ok ((.iload_n 2), 1) := by decide +kernel
theorem dX0_filmAgain_82 : Dc mX0_filmAgain 82 (.getfield 12) 3 85 := ⟨k_dX0_filmAgain_82.1, rfl⟩
theorem dX0_filmAgain_85 : Dc mX0_filmAgain 85 (.getfield 142) 3 88 := ⟨k_dX0_filmAgain_82.2.1, rfl⟩
theorem dX0_filmAgain_88 : Dc mX0_filmAgain 88 (.iload_n 1) 1 89 := ⟨k_dX0_filmAgain_82.2.2.1, rfl⟩
theorem dX0_filmAgain_89 : Dc mX0_filmAgain 89 (.bipush 6) 2 91 := ⟨k_dX0_filmAgain_82.2.2.2.1, rfl⟩
theorem dX0_filmAgain_91 : Dc mX0_filmAgain 91 (.imul) 1 92 := ⟨k_dX0_filmAgain_82.2.2.2.2.1, rfl⟩
theorem dX0_filmAgain_92 : Dc mX0_filmAgain 92 (.iload_n 2) 1 93 := ⟨k_dX0_filmAgain_82.2.2.2.2.2, rfl⟩
theorem k_dX0_filmAgain_93 : decode (mX0_filmAgain).2.1 93 = .ok ((.iadd), 1) ∧ decode (mX0_filmAgain).2.1 94 = .ok ((.iload_n 3), 1) ∧ decode (mX0_filmAgain).2.1 95 = .ok ((.invokestatic 131), 3) ∧ decode (mX0_filmAgain).2.1 98 = .ok ((.iinc 2 1), 3) ∧ decode (mX0_filmAgain).2.1 101 = .ok ((.goto (-62)), 3) ∧ decode (mX0_filmAgain).2.1 104 = .ok ((.return_), 1) := by decide +kernel
theorem dX0_filmAgain_93 : Dc mX0_filmAgain 93 (.iadd) 1 94 := ⟨k_dX0_filmAgain_93.1, rfl⟩
theorem dX0_filmAgain_94 : Dc mX0_filmAgain 94 (.iload_n 3) 1 95 := ⟨k_dX0_filmAgain_93.2.1, rfl⟩
theorem dX0_filmAgain_95 : Dc mX0_filmAgain 95 (.invokestatic 131) 3 98 := ⟨k_dX0_filmAgain_93.2.2.1, rfl⟩
theorem dX0_filmAgain_98 : Dc mX0_filmAgain 98 (.iinc 2 1) 3 101 := ⟨k_dX0_filmAgain_93.2.2.2.1, rfl⟩
theorem dX0_filmAgain_101 : Dc mX0_filmAgain 101 (.goto (-62)) 3 104 := ⟨k_dX0_filmAgain_93.2.2.2.2.1, rfl⟩
theorem dX0_filmAgain_104 : Dc mX0_filmAgain 104 (.return_) 1 105 := ⟨k_dX0_filmAgain_93.2.2.2.2.2, rfl⟩
theorem k_dX0_isSo_0 : decode (mX0_isSo).2.1 0 = .ok ((.lload_n 0), 1) ∧ decode (mX0_isSo).2.1 1 = .ok ((.ldc2_w 181), 3) ∧ decode (mX0_isSo).2.1 4 = .ok ((.lcmp), 1) ∧ decode (mX0_isSo).2.1 5 = .ok ((.ifCond .ne 7), 3) ∧ decode (mX0_isSo).2.1 8 = .ok ((.iload_n 2), 1) ∧ decode (mX0_isSo).2.1 9 = .ok ((.goto 14), 3) := by decide +kernel
theorem dX0_isSo_0 : Dc mX0_isSo 0 (.lload_n 0) 1 1 := ⟨k_dX0_isSo_0.1, rfl⟩
theorem dX0_isSo_1 : Dc mX0_isSo 1 (.ldc2_w 181) 3 4 := ⟨k_dX0_isSo_0.2.1, rfl⟩
theorem dX0_isSo_4 : Dc mX0_isSo 4 (.lcmp) 1 5 := ⟨k_dX0_isSo_0.2.2.1, rfl⟩
theorem dX0_isSo_5 : Dc mX0_isSo 5 (.ifCond .ne 7) 3 8 := ⟨k_dX0_isSo_0.2.2.2.1, rfl⟩
theorem dX0_isSo_8 : Dc mX0_isSo 8 (.iload_n 2) 1 9 := ⟨k_dX0_isSo_0.2.2.2.2.1, rfl⟩
theorem dX0_isSo_9 : Dc mX0_isSo 9 (.goto 14) 3 12 := ⟨k_dX0_isSo_0.2.2.2.2.2, rfl⟩
theorem k_dX0_isSo_12 : decode (mX0_isSo).2.1 12 = .ok ((.lload_n 0), 1) ∧ decode (mX0_isSo).2.1 13 = .ok ((.lconst 0), 1) ∧ decode (mX0_isSo).2.1 14 = .ok ((.lcmp), 1) ∧ decode (mX0_isSo).2.1 15 = .ok ((.ifCond .eq 7), 3) ∧ decode (mX0_isSo).2.1 18 = .ok ((.iconst 1), 1) ∧ decode (mX0_isSo).2.1 19 = .ok ((.goto 4), 3) := by decide +kernel
theorem dX0_isSo_12 : Dc mX0_isSo 12 (.lload_n 0) 1 13 := ⟨k_dX0_isSo_12.1, rfl⟩
theorem dX0_isSo_13 : Dc mX0_isSo 13 (.lconst 0) 1 14 := ⟨k_dX0_isSo_12.2.1, rfl⟩
theorem dX0_isSo_14 : Dc mX0_isSo 14 (.lcmp) 1 15 := ⟨k_dX0_isSo_12.2.2.1, rfl⟩
theorem dX0_isSo_15 : Dc mX0_isSo 15 (.ifCond .eq 7) 3 18 := ⟨k_dX0_isSo_12.2.2.2.1, rfl⟩
theorem dX0_isSo_18 : Dc mX0_isSo 18 (.iconst 1) 1 19 := ⟨k_dX0_isSo_12.2.2.2.2.1, rfl⟩
theorem dX0_isSo_19 : Dc mX0_isSo 19 (.goto 4) 3 22 := ⟨k_dX0_isSo_12.2.2.2.2.2, rfl⟩
theorem k_dX0_isSo_22 : decode (mX0_isSo).2.1 22 = .ok ((.iconst 0), 1) ∧ decode (mX0_isSo).2.1 23 = .ok ((.ireturn), 1) := by decide +kernel
theorem dX0_isSo_22 : Dc mX0_isSo 22 (.iconst 0) 1 23 := ⟨k_dX0_isSo_22.1, rfl⟩
theorem dX0_isSo_23 : Dc mX0_isSo 23 (.ireturn) 1 24 := ⟨k_dX0_isSo_22.2, rfl⟩
theorem k_dX0_noticeWorth_0 : decode (mX0_noticeWorth).2.1 0 = .ok ((.aload_n 0), 1) ∧ decode (mX0_noticeWorth).2.1 1 = .ok ((.aload_n 0), 1) ∧ decode (mX0_noticeWorth).2.1 2 = .ok ((.getfield 40), 3) ∧ decode (mX0_noticeWorth).2.1 5 = .ok ((.getfield 206), 3) ∧ decode (mX0_noticeWorth).2.1 8 = .ok ((.aload_n 0), 1) ∧ decode (mX0_noticeWorth).2.1 9 = .ok ((.getfield 18), 3) := by decide +kernel
theorem dX0_noticeWorth_0 : Dc mX0_noticeWorth 0 (.aload_n 0) 1 1 := ⟨k_dX0_noticeWorth_0.1, rfl⟩
theorem dX0_noticeWorth_1 : Dc mX0_noticeWorth 1 (.aload_n 0) 1 2 := ⟨k_dX0_noticeWorth_0.2.1, rfl⟩
theorem dX0_noticeWorth_2 : Dc mX0_noticeWorth 2 (.getfield 40) 3 5 := ⟨k_dX0_noticeWorth_0.2.2.1, rfl⟩
theorem dX0_noticeWorth_5 : Dc mX0_noticeWorth 5 (.getfield 206) 3 8 := ⟨k_dX0_noticeWorth_0.2.2.2.1, rfl⟩
theorem dX0_noticeWorth_8 : Dc mX0_noticeWorth 8 (.aload_n 0) 1 9 := ⟨k_dX0_noticeWorth_0.2.2.2.2.1, rfl⟩
theorem dX0_noticeWorth_9 : Dc mX0_noticeWorth 9 (.getfield 18) 3 12 := ⟨k_dX0_noticeWorth_0.2.2.2.2.2, rfl⟩
theorem k_dX0_noticeWorth_12 : decode (mX0_noticeWorth).2.1 12 = .ok ((.iload_n 2), 1) ∧ decode (mX0_noticeWorth).2.1 13 = .ok ((.invokestatic 86), 3) ∧ decode (mX0_noticeWorth).2.1 16 = .ok ((.aload_n 0), 1) ∧ decode (mX0_noticeWorth).2.1 17 = .ok ((.getfield 12), 3) ∧ decode (mX0_noticeWorth).2.1 20 = .ok ((.getfield 162), 3) ∧ decode (mX0_noticeWorth).2.1 23 = .ok ((.iload_n 2), 1) := by decide +kernel
theorem dX0_noticeWorth_12 : Dc mX0_noticeWorth 12 (.iload_n 2) 1 13 := ⟨k_dX0_noticeWorth_12.1, rfl⟩
theorem dX0_noticeWorth_13 : Dc mX0_noticeWorth 13 (.invokestatic 86) 3 16 := ⟨k_dX0_noticeWorth_12.2.1, rfl⟩
theorem dX0_noticeWorth_16 : Dc mX0_noticeWorth 16 (.aload_n 0) 1 17 := ⟨k_dX0_noticeWorth_12.2.2.1, rfl⟩
theorem dX0_noticeWorth_17 : Dc mX0_noticeWorth 17 (.getfield 12) 3 20 := ⟨k_dX0_noticeWorth_12.2.2.2.1, rfl⟩
theorem dX0_noticeWorth_20 : Dc mX0_noticeWorth 20 (.getfield 162) 3 23 := ⟨k_dX0_noticeWorth_12.2.2.2.2.1, rfl⟩
theorem dX0_noticeWorth_23 : Dc mX0_noticeWorth 23 (.iload_n 2) 1 24 := ⟨k_dX0_noticeWorth_12.2.2.2.2.2, rfl⟩
theorem k_dX0_noticeWorth_24 : decode (mX0_noticeWorth).2.1 24 = .ok ((.invokestatic 86), 3) ∧ decode (mX0_noticeWorth).2.1 27 = .ok ((.aload_n 0), 1) ∧ decode (mX0_noticeWorth).2.1 28 = .ok ((.iload_n 2), 1) ∧ decode (mX0_noticeWorth).2.1 29 = .ok ((.invokevirtual 210), 3) ∧ decode (mX0_noticeWorth).2.1 32 = .ok ((.aload_n 0), 1) ∧ decode (mX0_noticeWorth).2.1 33 = .ok ((.getfield 12), 3) := by decide +kernel
theorem dX0_noticeWorth_24 : Dc mX0_noticeWorth 24 (.invokestatic 86) 3 27 := ⟨k_dX0_noticeWorth_24.1, rfl⟩
theorem dX0_noticeWorth_27 : Dc mX0_noticeWorth 27 (.aload_n 0) 1 28 := ⟨k_dX0_noticeWorth_24.2.1, rfl⟩
theorem dX0_noticeWorth_28 : Dc mX0_noticeWorth 28 (.iload_n 2) 1 29 := ⟨k_dX0_noticeWorth_24.2.2.1, rfl⟩
theorem dX0_noticeWorth_29 : Dc mX0_noticeWorth 29 (.invokevirtual 210) 3 32 := ⟨k_dX0_noticeWorth_24.2.2.2.1, rfl⟩
theorem dX0_noticeWorth_32 : Dc mX0_noticeWorth 32 (.aload_n 0) 1 33 := ⟨k_dX0_noticeWorth_24.2.2.2.2.1, rfl⟩
theorem dX0_noticeWorth_33 : Dc mX0_noticeWorth 33 (.getfield 12) 3 36 := ⟨k_dX0_noticeWorth_24.2.2.2.2.2, rfl⟩
theorem k_dX0_noticeWorth_36 : decode (mX0_noticeWorth).2.1 36 = .ok ((.iload_n 2), 1) ∧ decode (mX0_noticeWorth).2.1 37 = .ok ((.iload_n 1), 1) ∧ decode (mX0_noticeWorth).2.1 38 = .ok ((.invokevirtual 213), 3) ∧ decode (mX0_noticeWorth).2.1 41 = .ok ((.aload_n 0), 1) ∧ decode (mX0_noticeWorth).2.1 42 = .ok ((.getfield 40), 3) ∧ decode (mX0_noticeWorth).2.1 45 = .ok ((.getfield 77), 3) := by decide +kernel
theorem dX0_noticeWorth_36 : Dc mX0_noticeWorth 36 (.iload_n 2) 1 37 := ⟨k_dX0_noticeWorth_36.1, rfl⟩
theorem dX0_noticeWorth_37 : Dc mX0_noticeWorth 37 (.iload_n 1) 1 38 := ⟨k_dX0_noticeWorth_36.2.1, rfl⟩
theorem dX0_noticeWorth_38 : Dc mX0_noticeWorth 38 (.invokevirtual 213) 3 41 := ⟨k_dX0_noticeWorth_36.2.2.1, rfl⟩
theorem dX0_noticeWorth_41 : Dc mX0_noticeWorth 41 (.aload_n 0) 1 42 := ⟨k_dX0_noticeWorth_36.2.2.2.1, rfl⟩
theorem dX0_noticeWorth_42 : Dc mX0_noticeWorth 42 (.getfield 40) 3 45 := ⟨k_dX0_noticeWorth_36.2.2.2.2.1, rfl⟩
theorem dX0_noticeWorth_45 : Dc mX0_noticeWorth 45 (.getfield 77) 3 48 := ⟨k_dX0_noticeWorth_36.2.2.2.2.2, rfl⟩
theorem k_dX0_noticeWorth_48 : decode (mX0_noticeWorth).2.1 48 = .ok ((.getfield 54), 3) ∧ decode (mX0_noticeWorth).2.1 51 = .ok ((.iload_n 1), 1) ∧ decode (mX0_noticeWorth).2.1 52 = .ok ((.invokestatic 86), 3) ∧ decode (mX0_noticeWorth).2.1 55 = .ok ((.invokevirtual 216), 3) ∧ decode (mX0_noticeWorth).2.1 58 = .ok ((.lreturn), 1) := by decide +kernel
theorem dX0_noticeWorth_48 : Dc mX0_noticeWorth 48 (.getfield 54) 3 51 := ⟨k_dX0_noticeWorth_48.1, rfl⟩
theorem dX0_noticeWorth_51 : Dc mX0_noticeWorth 51 (.iload_n 1) 1 52 := ⟨k_dX0_noticeWorth_48.2.1, rfl⟩
theorem dX0_noticeWorth_52 : Dc mX0_noticeWorth 52 (.invokestatic 86) 3 55 := ⟨k_dX0_noticeWorth_48.2.2.1, rfl⟩
theorem dX0_noticeWorth_55 : Dc mX0_noticeWorth 55 (.invokevirtual 216) 3 58 := ⟨k_dX0_noticeWorth_48.2.2.2.1, rfl⟩
theorem dX0_noticeWorth_58 : Dc mX0_noticeWorth 58 (.lreturn) 1 59 := ⟨k_dX0_noticeWorth_48.2.2.2.2, rfl⟩
theorem k_dX0_yieldWorth_0 : decode (mX0_yieldWorth).2.1 0 = .ok ((.aload_n 0), 1) ∧ decode (mX0_yieldWorth).2.1 1 = .ok ((.aload_n 0), 1) ∧ decode (mX0_yieldWorth).2.1 2 = .ok ((.getfield 40), 3) ∧ decode (mX0_yieldWorth).2.1 5 = .ok ((.getfield 220), 3) ∧ decode (mX0_yieldWorth).2.1 8 = .ok ((.aload_n 0), 1) ∧ decode (mX0_yieldWorth).2.1 9 = .ok ((.getfield 18), 3) := by decide +kernel
theorem dX0_yieldWorth_0 : Dc mX0_yieldWorth 0 (.aload_n 0) 1 1 := ⟨k_dX0_yieldWorth_0.1, rfl⟩
theorem dX0_yieldWorth_1 : Dc mX0_yieldWorth 1 (.aload_n 0) 1 2 := ⟨k_dX0_yieldWorth_0.2.1, rfl⟩
theorem dX0_yieldWorth_2 : Dc mX0_yieldWorth 2 (.getfield 40) 3 5 := ⟨k_dX0_yieldWorth_0.2.2.1, rfl⟩
theorem dX0_yieldWorth_5 : Dc mX0_yieldWorth 5 (.getfield 220) 3 8 := ⟨k_dX0_yieldWorth_0.2.2.2.1, rfl⟩
theorem dX0_yieldWorth_8 : Dc mX0_yieldWorth 8 (.aload_n 0) 1 9 := ⟨k_dX0_yieldWorth_0.2.2.2.2.1, rfl⟩
theorem dX0_yieldWorth_9 : Dc mX0_yieldWorth 9 (.getfield 18) 3 12 := ⟨k_dX0_yieldWorth_0.2.2.2.2.2, rfl⟩
theorem k_dX0_yieldWorth_12 : decode (mX0_yieldWorth).2.1 12 = .ok ((.iload_n 1), 1) ∧ decode (mX0_yieldWorth).2.1 13 = .ok ((.invokestatic 86), 3) ∧ decode (mX0_yieldWorth).2.1 16 = .ok ((.iload_n 2), 1) ∧ decode (mX0_yieldWorth).2.1 17 = .ok ((.aload_n 0), 1) ∧ decode (mX0_yieldWorth).2.1 18 = .ok ((.iload_n 1), 1) ∧ decode (mX0_yieldWorth).2.1 19 = .ok ((.invokevirtual 210), 3) := by decide +kernel
theorem dX0_yieldWorth_12 : Dc mX0_yieldWorth 12 (.iload_n 1) 1 13 := ⟨k_dX0_yieldWorth_12.1, rfl⟩
theorem dX0_yieldWorth_13 : Dc mX0_yieldWorth 13 (.invokestatic 86) 3 16 := ⟨k_dX0_yieldWorth_12.2.1, rfl⟩
theorem dX0_yieldWorth_16 : Dc mX0_yieldWorth 16 (.iload_n 2) 1 17 := ⟨k_dX0_yieldWorth_12.2.2.1, rfl⟩
theorem dX0_yieldWorth_17 : Dc mX0_yieldWorth 17 (.aload_n 0) 1 18 := ⟨k_dX0_yieldWorth_12.2.2.2.1, rfl⟩
theorem dX0_yieldWorth_18 : Dc mX0_yieldWorth 18 (.iload_n 1) 1 19 := ⟨k_dX0_yieldWorth_12.2.2.2.2.1, rfl⟩
theorem dX0_yieldWorth_19 : Dc mX0_yieldWorth 19 (.invokevirtual 210) 3 22 := ⟨k_dX0_yieldWorth_12.2.2.2.2.2, rfl⟩
theorem k_dX0_yieldWorth_22 : decode (mX0_yieldWorth).2.1 22 = .ok ((.aload_n 0), 1) ∧ decode (mX0_yieldWorth).2.1 23 = .ok ((.getfield 12), 3) ∧ decode (mX0_yieldWorth).2.1 26 = .ok ((.iload_n 1), 1) ∧ decode (mX0_yieldWorth).2.1 27 = .ok ((.iconst (-1)), 1) ∧ decode (mX0_yieldWorth).2.1 28 = .ok ((.invokevirtual 213), 3) ∧ decode (mX0_yieldWorth).2.1 31 = .ok ((.iconst 0), 1) := by decide +kernel
theorem dX0_yieldWorth_22 : Dc mX0_yieldWorth 22 (.aload_n 0) 1 23 := ⟨k_dX0_yieldWorth_22.1, rfl⟩
theorem dX0_yieldWorth_23 : Dc mX0_yieldWorth 23 (.getfield 12) 3 26 := ⟨k_dX0_yieldWorth_22.2.1, rfl⟩
theorem dX0_yieldWorth_26 : Dc mX0_yieldWorth 26 (.iload_n 1) 1 27 := ⟨k_dX0_yieldWorth_22.2.2.1, rfl⟩
theorem dX0_yieldWorth_27 : Dc mX0_yieldWorth 27 (.iconst (-1)) 1 28 := ⟨k_dX0_yieldWorth_22.2.2.2.1, rfl⟩
theorem dX0_yieldWorth_28 : Dc mX0_yieldWorth 28 (.invokevirtual 213) 3 31 := ⟨k_dX0_yieldWorth_22.2.2.2.2.1, rfl⟩
theorem dX0_yieldWorth_31 : Dc mX0_yieldWorth 31 (.iconst 0) 1 32 := ⟨k_dX0_yieldWorth_22.2.2.2.2.2, rfl⟩
theorem k_dX0_yieldWorth_32 : decode (mX0_yieldWorth).2.1 32 = .ok ((.invokevirtual 216), 3) ∧ decode (mX0_yieldWorth).2.1 35 = .ok ((.lreturn), 1) := by decide +kernel
theorem dX0_yieldWorth_32 : Dc mX0_yieldWorth 32 (.invokevirtual 216) 3 35 := ⟨k_dX0_yieldWorth_32.1, rfl⟩
theorem dX0_yieldWorth_35 : Dc mX0_yieldWorth 35 (.lreturn) 1 36 := ⟨k_dX0_yieldWorth_32.2, rfl⟩
theorem k_dX0_againWorth_0 : decode (mX0_againWorth).2.1 0 = .ok ((.aload_n 0), 1) ∧ decode (mX0_againWorth).2.1 1 = .ok ((.aload_n 0), 1) ∧ decode (mX0_againWorth).2.1 2 = .ok ((.getfield 40), 3) ∧ decode (mX0_againWorth).2.1 5 = .ok ((.getfield 223), 3) ∧ decode (mX0_againWorth).2.1 8 = .ok ((.iconst 0), 1) ∧ decode (mX0_againWorth).2.1 9 = .ok ((.aload_n 0), 1) := by decide +kernel
theorem dX0_againWorth_0 : Dc mX0_againWorth 0 (.aload_n 0) 1 1 := ⟨k_dX0_againWorth_0.1, rfl⟩
theorem dX0_againWorth_1 : Dc mX0_againWorth 1 (.aload_n 0) 1 2 := ⟨k_dX0_againWorth_0.2.1, rfl⟩
theorem dX0_againWorth_2 : Dc mX0_againWorth 2 (.getfield 40) 3 5 := ⟨k_dX0_againWorth_0.2.2.1, rfl⟩
theorem dX0_againWorth_5 : Dc mX0_againWorth 5 (.getfield 223) 3 8 := ⟨k_dX0_againWorth_0.2.2.2.1, rfl⟩
theorem dX0_againWorth_8 : Dc mX0_againWorth 8 (.iconst 0) 1 9 := ⟨k_dX0_againWorth_0.2.2.2.2.1, rfl⟩
theorem dX0_againWorth_9 : Dc mX0_againWorth 9 (.aload_n 0) 1 10 := ⟨k_dX0_againWorth_0.2.2.2.2.2, rfl⟩
theorem k_dX0_againWorth_10 : decode (mX0_againWorth).2.1 10 = .ok ((.getfield 12), 3) ∧ decode (mX0_againWorth).2.1 13 = .ok ((.invokevirtual 226), 3) ∧ decode (mX0_againWorth).2.1 16 = .ok ((.aload_n 0), 1) ∧ decode (mX0_againWorth).2.1 17 = .ok ((.getfield 12), 3) ∧ decode (mX0_againWorth).2.1 20 = .ok ((.iload_n 1), 1) ∧ decode (mX0_againWorth).2.1 21 = .ok ((.invokevirtual 171), 3) := by decide +kernel
theorem dX0_againWorth_10 : Dc mX0_againWorth 10 (.getfield 12) 3 13 := ⟨k_dX0_againWorth_10.1, rfl⟩
theorem dX0_againWorth_13 : Dc mX0_againWorth 13 (.invokevirtual 226) 3 16 := ⟨k_dX0_againWorth_10.2.1, rfl⟩
theorem dX0_againWorth_16 : Dc mX0_againWorth 16 (.aload_n 0) 1 17 := ⟨k_dX0_againWorth_10.2.2.1, rfl⟩
theorem dX0_againWorth_17 : Dc mX0_againWorth 17 (.getfield 12) 3 20 := ⟨k_dX0_againWorth_10.2.2.2.1, rfl⟩
theorem dX0_againWorth_20 : Dc mX0_againWorth 20 (.iload_n 1) 1 21 := ⟨k_dX0_againWorth_10.2.2.2.2.1, rfl⟩
theorem dX0_againWorth_21 : Dc mX0_againWorth 21 (.invokevirtual 171) 3 24 := ⟨k_dX0_againWorth_10.2.2.2.2.2, rfl⟩
theorem k_dX0_againWorth_24 : decode (mX0_againWorth).2.1 24 = .ok ((.aload_n 0), 1) ∧ decode (mX0_againWorth).2.1 25 = .ok ((.getfield 12), 3) ∧ decode (mX0_againWorth).2.1 28 = .ok ((.iload_n 1), 1) ∧ decode (mX0_againWorth).2.1 29 = .ok ((.invokevirtual 230), 3) ∧ decode (mX0_againWorth).2.1 32 = .ok ((.aload_n 0), 1) ∧ decode (mX0_againWorth).2.1 33 = .ok ((.getfield 40), 3) := by decide +kernel
theorem dX0_againWorth_24 : Dc mX0_againWorth 24 (.aload_n 0) 1 25 := ⟨k_dX0_againWorth_24.1, rfl⟩
theorem dX0_againWorth_25 : Dc mX0_againWorth 25 (.getfield 12) 3 28 := ⟨k_dX0_againWorth_24.2.1, rfl⟩
theorem dX0_againWorth_28 : Dc mX0_againWorth 28 (.iload_n 1) 1 29 := ⟨k_dX0_againWorth_24.2.2.1, rfl⟩
theorem dX0_againWorth_29 : Dc mX0_againWorth 29 (.invokevirtual 230) 3 32 := ⟨k_dX0_againWorth_24.2.2.2.1, rfl⟩
theorem dX0_againWorth_32 : Dc mX0_againWorth 32 (.aload_n 0) 1 33 := ⟨k_dX0_againWorth_24.2.2.2.2.1, rfl⟩
theorem dX0_againWorth_33 : Dc mX0_againWorth 33 (.getfield 40) 3 36 := ⟨k_dX0_againWorth_24.2.2.2.2.2, rfl⟩
theorem k_dX0_againWorth_36 : decode (mX0_againWorth).2.1 36 = .ok ((.getfield 77), 3) ∧ decode (mX0_againWorth).2.1 39 = .ok ((.getfield 54), 3) ∧ decode (mX0_againWorth).2.1 42 = .ok ((.iload_n 1), 1) ∧ decode (mX0_againWorth).2.1 43 = .ok ((.invokestatic 86), 3) ∧ decode (mX0_againWorth).2.1 46 = .ok ((.invokevirtual 216), 3) ∧ decode (mX0_againWorth).2.1 49 = .ok ((.lreturn), 1) := by decide +kernel
theorem dX0_againWorth_36 : Dc mX0_againWorth 36 (.getfield 77) 3 39 := ⟨k_dX0_againWorth_36.1, rfl⟩
theorem dX0_againWorth_39 : Dc mX0_againWorth 39 (.getfield 54) 3 42 := ⟨k_dX0_againWorth_36.2.1, rfl⟩
theorem dX0_againWorth_42 : Dc mX0_againWorth 42 (.iload_n 1) 1 43 := ⟨k_dX0_againWorth_36.2.2.1, rfl⟩
theorem dX0_againWorth_43 : Dc mX0_againWorth 43 (.invokestatic 86) 3 46 := ⟨k_dX0_againWorth_36.2.2.2.1, rfl⟩
theorem dX0_againWorth_46 : Dc mX0_againWorth 46 (.invokevirtual 216) 3 49 := ⟨k_dX0_againWorth_36.2.2.2.2.1, rfl⟩
theorem dX0_againWorth_49 : Dc mX0_againWorth 49 (.lreturn) 1 50 := ⟨k_dX0_againWorth_36.2.2.2.2.2, rfl⟩
theorem k_dX0_isSaid_0 : decode (mX0_isSaid).2.1 0 = .ok ((.aload_n 0), 1) ∧ decode (mX0_isSaid).2.1 1 = .ok ((.getfield 12), 3) ∧ decode (mX0_isSaid).2.1 4 = .ok ((.getfield 139), 3) ∧ decode (mX0_isSaid).2.1 7 = .ok ((.iload_n 1), 1) ∧ decode (mX0_isSaid).2.1 8 = .ok ((.invokestatic 86), 3) ∧ decode (mX0_isSaid).2.1 11 = .ok ((.ifCond .lt 7), 3) := by decide +kernel
theorem dX0_isSaid_0 : Dc mX0_isSaid 0 (.aload_n 0) 1 1 := ⟨k_dX0_isSaid_0.1, rfl⟩
theorem dX0_isSaid_1 : Dc mX0_isSaid 1 (.getfield 12) 3 4 := ⟨k_dX0_isSaid_0.2.1, rfl⟩
theorem dX0_isSaid_4 : Dc mX0_isSaid 4 (.getfield 139) 3 7 := ⟨k_dX0_isSaid_0.2.2.1, rfl⟩
theorem dX0_isSaid_7 : Dc mX0_isSaid 7 (.iload_n 1) 1 8 := ⟨k_dX0_isSaid_0.2.2.2.1, rfl⟩
theorem dX0_isSaid_8 : Dc mX0_isSaid 8 (.invokestatic 86) 3 11 := ⟨k_dX0_isSaid_0.2.2.2.2.1, rfl⟩
theorem dX0_isSaid_11 : Dc mX0_isSaid 11 (.ifCond .lt 7) 3 14 := ⟨k_dX0_isSaid_0.2.2.2.2.2, rfl⟩
theorem k_dX0_isSaid_14 : decode (mX0_isSaid).2.1 14 = .ok ((.iconst 1), 1) ∧ decode (mX0_isSaid).2.1 15 = .ok ((.goto 4), 3) ∧ decode (mX0_isSaid).2.1 18 = .ok ((.iconst 0), 1) ∧ decode (mX0_isSaid).2.1 19 = .ok ((.ireturn), 1) := by decide +kernel
theorem dX0_isSaid_14 : Dc mX0_isSaid 14 (.iconst 1) 1 15 := ⟨k_dX0_isSaid_14.1, rfl⟩
theorem dX0_isSaid_15 : Dc mX0_isSaid 15 (.goto 4) 3 18 := ⟨k_dX0_isSaid_14.2.1, rfl⟩
theorem dX0_isSaid_18 : Dc mX0_isSaid 18 (.iconst 0) 1 19 := ⟨k_dX0_isSaid_14.2.2.1, rfl⟩
theorem dX0_isSaid_19 : Dc mX0_isSaid 19 (.ireturn) 1 20 := ⟨k_dX0_isSaid_14.2.2.2, rfl⟩
theorem k_dX0_worthOf_0 : decode (mX0_worthOf).2.1 0 = .ok ((.aload_n 1), 1) ∧ decode (mX0_worthOf).2.1 1 = .ok ((.getfield 233), 3) ∧ decode (mX0_worthOf).2.1 4 = .ok ((.ifCond .eq 13), 3) ∧ decode (mX0_worthOf).2.1 7 = .ok ((.aload_n 0), 1) ∧ decode (mX0_worthOf).2.1 8 = .ok ((.getfield 26), 3) ∧ decode (mX0_worthOf).2.1 11 = .ok ((.arraylength), 1) := by decide +kernel
theorem dX0_worthOf_0 : Dc mX0_worthOf 0 (.aload_n 1) 1 1 := ⟨k_dX0_worthOf_0.1, rfl⟩
theorem dX0_worthOf_1 : Dc mX0_worthOf 1 (.getfield 233) 3 4 := ⟨k_dX0_worthOf_0.2.1, rfl⟩
theorem dX0_worthOf_4 : Dc mX0_worthOf 4 (.ifCond .eq 13) 3 7 := ⟨k_dX0_worthOf_0.2.2.1, rfl⟩
theorem dX0_worthOf_7 : Dc mX0_worthOf 7 (.aload_n 0) 1 8 := ⟨k_dX0_worthOf_0.2.2.2.1, rfl⟩
theorem dX0_worthOf_8 : Dc mX0_worthOf 8 (.getfield 26) 3 11 := ⟨k_dX0_worthOf_0.2.2.2.2.1, rfl⟩
theorem dX0_worthOf_11 : Dc mX0_worthOf 11 (.arraylength) 1 12 := ⟨k_dX0_worthOf_0.2.2.2.2.2, rfl⟩
theorem k_dX0_worthOf_12 : decode (mX0_worthOf).2.1 12 = .ok ((.bipush 7), 2) ∧ decode (mX0_worthOf).2.1 14 = .ok ((.if_icmp .ge 7), 3) ∧ decode (mX0_worthOf).2.1 17 = .ok ((.ldc2_w 181), 3) ∧ decode (mX0_worthOf).2.1 20 = .ok ((.lreturn), 1) ∧ decode (mX0_worthOf).2.1 21 = .ok ((.aload_n 0), 1) ∧ decode (mX0_worthOf).2.1 22 = .ok ((.getfield 26), 3) := by decide +kernel
theorem dX0_worthOf_12 : Dc mX0_worthOf 12 (.bipush 7) 2 14 := ⟨k_dX0_worthOf_12.1, rfl⟩
theorem dX0_worthOf_14 : Dc mX0_worthOf 14 (.if_icmp .ge 7) 3 17 := ⟨k_dX0_worthOf_12.2.1, rfl⟩
theorem dX0_worthOf_17 : Dc mX0_worthOf 17 (.ldc2_w 181) 3 20 := ⟨k_dX0_worthOf_12.2.2.1, rfl⟩
theorem dX0_worthOf_20 : Dc mX0_worthOf 20 (.lreturn) 1 21 := ⟨k_dX0_worthOf_12.2.2.2.1, rfl⟩
theorem dX0_worthOf_21 : Dc mX0_worthOf 21 (.aload_n 0) 1 22 := ⟨k_dX0_worthOf_12.2.2.2.2.1, rfl⟩
theorem dX0_worthOf_22 : Dc mX0_worthOf 22 (.getfield 26) 3 25 := ⟨k_dX0_worthOf_12.2.2.2.2.2, rfl⟩
theorem k_dX0_worthOf_25 : decode (mX0_worthOf).2.1 25 = .ok ((.iconst 0), 1) ∧ decode (mX0_worthOf).2.1 26 = .ok ((.iload_n 2), 1) ∧ decode (mX0_worthOf).2.1 27 = .ok ((.i2l), 1) ∧ decode (mX0_worthOf).2.1 28 = .ok ((.lastore), 1) ∧ decode (mX0_worthOf).2.1 29 = .ok ((.aload_n 0), 1) ∧ decode (mX0_worthOf).2.1 30 = .ok ((.getfield 26), 3) := by decide +kernel
theorem dX0_worthOf_25 : Dc mX0_worthOf 25 (.iconst 0) 1 26 := ⟨k_dX0_worthOf_25.1, rfl⟩
theorem dX0_worthOf_26 : Dc mX0_worthOf 26 (.iload_n 2) 1 27 := ⟨k_dX0_worthOf_25.2.1, rfl⟩
theorem dX0_worthOf_27 : Dc mX0_worthOf 27 (.i2l) 1 28 := ⟨k_dX0_worthOf_25.2.2.1, rfl⟩
theorem dX0_worthOf_28 : Dc mX0_worthOf 28 (.lastore) 1 29 := ⟨k_dX0_worthOf_25.2.2.2.1, rfl⟩
theorem dX0_worthOf_29 : Dc mX0_worthOf 29 (.aload_n 0) 1 30 := ⟨k_dX0_worthOf_25.2.2.2.2.1, rfl⟩
theorem dX0_worthOf_30 : Dc mX0_worthOf 30 (.getfield 26) 3 33 := ⟨k_dX0_worthOf_25.2.2.2.2.2, rfl⟩
theorem k_dX0_worthOf_33 : decode (mX0_worthOf).2.1 33 = .ok ((.iconst 1), 1) ∧ decode (mX0_worthOf).2.1 34 = .ok ((.iload_n 3), 1) ∧ decode (mX0_worthOf).2.1 35 = .ok ((.i2l), 1) ∧ decode (mX0_worthOf).2.1 36 = .ok ((.lastore), 1) ∧ decode (mX0_worthOf).2.1 37 = .ok ((.aload_n 0), 1) ∧ decode (mX0_worthOf).2.1 38 = .ok ((.getfield 26), 3) := by decide +kernel
theorem dX0_worthOf_33 : Dc mX0_worthOf 33 (.iconst 1) 1 34 := ⟨k_dX0_worthOf_33.1, rfl⟩
theorem dX0_worthOf_34 : Dc mX0_worthOf 34 (.iload_n 3) 1 35 := ⟨k_dX0_worthOf_33.2.1, rfl⟩
theorem dX0_worthOf_35 : Dc mX0_worthOf 35 (.i2l) 1 36 := ⟨k_dX0_worthOf_33.2.2.1, rfl⟩
theorem dX0_worthOf_36 : Dc mX0_worthOf 36 (.lastore) 1 37 := ⟨k_dX0_worthOf_33.2.2.2.1, rfl⟩
theorem dX0_worthOf_37 : Dc mX0_worthOf 37 (.aload_n 0) 1 38 := ⟨k_dX0_worthOf_33.2.2.2.2.1, rfl⟩
theorem dX0_worthOf_38 : Dc mX0_worthOf 38 (.getfield 26) 3 41 := ⟨k_dX0_worthOf_33.2.2.2.2.2, rfl⟩
theorem k_dX0_worthOf_41 : decode (mX0_worthOf).2.1 41 = .ok ((.iconst 2), 1) ∧ decode (mX0_worthOf).2.1 42 = .ok ((.iload 4), 2) ∧ decode (mX0_worthOf).2.1 44 = .ok ((.i2l), 1) ∧ decode (mX0_worthOf).2.1 45 = .ok ((.lastore), 1) ∧ decode (mX0_worthOf).2.1 46 = .ok ((.aload_n 0), 1) ∧ decode (mX0_worthOf).2.1 47 = .ok ((.getfield 26), 3) := by decide +kernel
theorem dX0_worthOf_41 : Dc mX0_worthOf 41 (.iconst 2) 1 42 := ⟨k_dX0_worthOf_41.1, rfl⟩
theorem dX0_worthOf_42 : Dc mX0_worthOf 42 (.iload 4) 2 44 := ⟨k_dX0_worthOf_41.2.1, rfl⟩
theorem dX0_worthOf_44 : Dc mX0_worthOf 44 (.i2l) 1 45 := ⟨k_dX0_worthOf_41.2.2.1, rfl⟩
theorem dX0_worthOf_45 : Dc mX0_worthOf 45 (.lastore) 1 46 := ⟨k_dX0_worthOf_41.2.2.2.1, rfl⟩
theorem dX0_worthOf_46 : Dc mX0_worthOf 46 (.aload_n 0) 1 47 := ⟨k_dX0_worthOf_41.2.2.2.2.1, rfl⟩
theorem dX0_worthOf_47 : Dc mX0_worthOf 47 (.getfield 26) 3 50 := ⟨k_dX0_worthOf_41.2.2.2.2.2, rfl⟩
theorem k_dX0_worthOf_50 : decode (mX0_worthOf).2.1 50 = .ok ((.iconst 3), 1) ∧ decode (mX0_worthOf).2.1 51 = .ok ((.iload 5), 2) ∧ decode (mX0_worthOf).2.1 53 = .ok ((.i2l), 1) ∧ decode (mX0_worthOf).2.1 54 = .ok ((.lastore), 1) ∧ decode (mX0_worthOf).2.1 55 = .ok ((.aload_n 0), 1) ∧ decode (mX0_worthOf).2.1 56 = .ok ((.getfield 26), 3) := by decide +kernel
theorem dX0_worthOf_50 : Dc mX0_worthOf 50 (.iconst 3) 1 51 := ⟨k_dX0_worthOf_50.1, rfl⟩
theorem dX0_worthOf_51 : Dc mX0_worthOf 51 (.iload 5) 2 53 := ⟨k_dX0_worthOf_50.2.1, rfl⟩
theorem dX0_worthOf_53 : Dc mX0_worthOf 53 (.i2l) 1 54 := ⟨k_dX0_worthOf_50.2.2.1, rfl⟩
theorem dX0_worthOf_54 : Dc mX0_worthOf 54 (.lastore) 1 55 := ⟨k_dX0_worthOf_50.2.2.2.1, rfl⟩
theorem dX0_worthOf_55 : Dc mX0_worthOf 55 (.aload_n 0) 1 56 := ⟨k_dX0_worthOf_50.2.2.2.2.1, rfl⟩
theorem dX0_worthOf_56 : Dc mX0_worthOf 56 (.getfield 26) 3 59 := ⟨k_dX0_worthOf_50.2.2.2.2.2, rfl⟩
theorem k_dX0_worthOf_59 : decode (mX0_worthOf).2.1 59 = .ok ((.iconst 4), 1) ∧ decode (mX0_worthOf).2.1 60 = .ok ((.iload 6), 2) ∧ decode (mX0_worthOf).2.1 62 = .ok ((.i2l), 1) ∧ decode (mX0_worthOf).2.1 63 = .ok ((.lastore), 1) ∧ decode (mX0_worthOf).2.1 64 = .ok ((.aload_n 0), 1) ∧ decode (mX0_worthOf).2.1 65 = .ok ((.getfield 26), 3) := by decide +kernel
theorem dX0_worthOf_59 : Dc mX0_worthOf 59 (.iconst 4) 1 60 := ⟨k_dX0_worthOf_59.1, rfl⟩
theorem dX0_worthOf_60 : Dc mX0_worthOf 60 (.iload 6) 2 62 := ⟨k_dX0_worthOf_59.2.1, rfl⟩
theorem dX0_worthOf_62 : Dc mX0_worthOf 62 (.i2l) 1 63 := ⟨k_dX0_worthOf_59.2.2.1, rfl⟩
theorem dX0_worthOf_63 : Dc mX0_worthOf 63 (.lastore) 1 64 := ⟨k_dX0_worthOf_59.2.2.2.1, rfl⟩
theorem dX0_worthOf_64 : Dc mX0_worthOf 64 (.aload_n 0) 1 65 := ⟨k_dX0_worthOf_59.2.2.2.2.1, rfl⟩
theorem dX0_worthOf_65 : Dc mX0_worthOf 65 (.getfield 26) 3 68 := ⟨k_dX0_worthOf_59.2.2.2.2.2, rfl⟩
theorem k_dX0_worthOf_68 : decode (mX0_worthOf).2.1 68 = .ok ((.iconst 5), 1) ∧ decode (mX0_worthOf).2.1 69 = .ok ((.aload_n 0), 1) ∧ decode (mX0_worthOf).2.1 70 = .ok ((.getfield 12), 3) ∧ decode (mX0_worthOf).2.1 73 = .ok ((.getfield 93), 3) ∧ decode (mX0_worthOf).2.1 76 = .ok ((.i2l), 1) ∧ decode (mX0_worthOf).2.1 77 = .ok ((.lastore), 1) := by decide +kernel
theorem dX0_worthOf_68 : Dc mX0_worthOf 68 (.iconst 5) 1 69 := ⟨k_dX0_worthOf_68.1, rfl⟩
theorem dX0_worthOf_69 : Dc mX0_worthOf 69 (.aload_n 0) 1 70 := ⟨k_dX0_worthOf_68.2.1, rfl⟩
theorem dX0_worthOf_70 : Dc mX0_worthOf 70 (.getfield 12) 3 73 := ⟨k_dX0_worthOf_68.2.2.1, rfl⟩
theorem dX0_worthOf_73 : Dc mX0_worthOf 73 (.getfield 93) 3 76 := ⟨k_dX0_worthOf_68.2.2.2.1, rfl⟩
theorem dX0_worthOf_76 : Dc mX0_worthOf 76 (.i2l) 1 77 := ⟨k_dX0_worthOf_68.2.2.2.2.1, rfl⟩
theorem dX0_worthOf_77 : Dc mX0_worthOf 77 (.lastore) 1 78 := ⟨k_dX0_worthOf_68.2.2.2.2.2, rfl⟩
theorem k_dX0_worthOf_78 : decode (mX0_worthOf).2.1 78 = .ok ((.aload_n 0), 1) ∧ decode (mX0_worthOf).2.1 79 = .ok ((.getfield 26), 3) ∧ decode (mX0_worthOf).2.1 82 = .ok ((.bipush 6), 2) ∧ decode (mX0_worthOf).2.1 84 = .ok ((.aload_n 0), 1) ∧ decode (mX0_worthOf).2.1 85 = .ok ((.getfield 12), 3) ∧ decode (mX0_worthOf).2.1 88 = .ok ((.getfield 74), 3) := by decide +kernel
theorem dX0_worthOf_78 : Dc mX0_worthOf 78 (.aload_n 0) 1 79 := ⟨k_dX0_worthOf_78.1, rfl⟩
theorem dX0_worthOf_79 : Dc mX0_worthOf 79 (.getfield 26) 3 82 := ⟨k_dX0_worthOf_78.2.1, rfl⟩
theorem dX0_worthOf_82 : Dc mX0_worthOf 82 (.bipush 6) 2 84 := ⟨k_dX0_worthOf_78.2.2.1, rfl⟩
theorem dX0_worthOf_84 : Dc mX0_worthOf 84 (.aload_n 0) 1 85 := ⟨k_dX0_worthOf_78.2.2.2.1, rfl⟩
theorem dX0_worthOf_85 : Dc mX0_worthOf 85 (.getfield 12) 3 88 := ⟨k_dX0_worthOf_78.2.2.2.2.1, rfl⟩
theorem dX0_worthOf_88 : Dc mX0_worthOf 88 (.getfield 74) 3 91 := ⟨k_dX0_worthOf_78.2.2.2.2.2, rfl⟩
theorem k_dX0_worthOf_91 : decode (mX0_worthOf).2.1 91 = .ok ((.i2l), 1) ∧ decode (mX0_worthOf).2.1 92 = .ok ((.lastore), 1) ∧ decode (mX0_worthOf).2.1 93 = .ok ((.aload_n 1), 1) ∧ decode (mX0_worthOf).2.1 94 = .ok ((.aload_n 0), 1) ∧ decode (mX0_worthOf).2.1 95 = .ok ((.getfield 26), 3) ∧ decode (mX0_worthOf).2.1 98 = .ok ((.invokevirtual 235), 3) := by decide +kernel
theorem dX0_worthOf_91 : Dc mX0_worthOf 91 (.i2l) 1 92 := ⟨k_dX0_worthOf_91.1, rfl⟩
theorem dX0_worthOf_92 : Dc mX0_worthOf 92 (.lastore) 1 93 := ⟨k_dX0_worthOf_91.2.1, rfl⟩
theorem dX0_worthOf_93 : Dc mX0_worthOf 93 (.aload_n 1) 1 94 := ⟨k_dX0_worthOf_91.2.2.1, rfl⟩
theorem dX0_worthOf_94 : Dc mX0_worthOf 94 (.aload_n 0) 1 95 := ⟨k_dX0_worthOf_91.2.2.2.1, rfl⟩
theorem dX0_worthOf_95 : Dc mX0_worthOf 95 (.getfield 26) 3 98 := ⟨k_dX0_worthOf_91.2.2.2.2.1, rfl⟩
theorem dX0_worthOf_98 : Dc mX0_worthOf 98 (.invokevirtual 235) 3 101 := ⟨k_dX0_worthOf_91.2.2.2.2.2, rfl⟩
theorem dX0_worthOf_101 : Dc mX0_worthOf 101 (.lreturn) 1 102 := ⟨by decide +kernel, rfl⟩
theorem k_dX1_init_0 : decode (mX1_init).2.1 0 = .ok ((.aload_n 0), 1) ∧ decode (mX1_init).2.1 1 = .ok ((.invokespecial 3), 3) ∧ decode (mX1_init).2.1 4 = .ok ((.aload_n 0), 1) ∧ decode (mX1_init).2.1 5 = .ok ((.iconst 0), 1) ∧ decode (mX1_init).2.1 6 = .ok ((.putfield 9), 3) ∧ decode (mX1_init).2.1 9 = .ok ((.aload_n 0), 1) := by decide +kernel
theorem dX1_init_0 : Dc mX1_init 0 (.aload_n 0) 1 1 := ⟨k_dX1_init_0.1, rfl⟩
theorem dX1_init_1 : Dc mX1_init 1 (.invokespecial 3) 3 4 := ⟨k_dX1_init_0.2.1, rfl⟩
theorem dX1_init_4 : Dc mX1_init 4 (.aload_n 0) 1 5 := ⟨k_dX1_init_0.2.2.1, rfl⟩
theorem dX1_init_5 : Dc mX1_init 5 (.iconst 0) 1 6 := ⟨k_dX1_init_0.2.2.2.1, rfl⟩
theorem dX1_init_6 : Dc mX1_init 6 (.putfield 9) 3 9 := ⟨k_dX1_init_0.2.2.2.2.1, rfl⟩
theorem dX1_init_9 : Dc mX1_init 9 (.aload_n 0) 1 10 := ⟨k_dX1_init_0.2.2.2.2.2, rfl⟩
theorem k_dX1_init_10 : decode (mX1_init).2.1 10 = .ok ((.iconst 0), 1) ∧ decode (mX1_init).2.1 11 = .ok ((.putfield 15), 3) ∧ decode (mX1_init).2.1 14 = .ok ((.aload_n 0), 1) ∧ decode (mX1_init).2.1 15 = .ok ((.bipush 64), 2) ∧ decode (mX1_init).2.1 17 = .ok ((.newarray .int), 2) ∧ decode (mX1_init).2.1 19 = .ok ((.putfield 19), 3) := by decide +kernel
theorem dX1_init_10 : Dc mX1_init 10 (.iconst 0) 1 11 := ⟨k_dX1_init_10.1, rfl⟩
theorem dX1_init_11 : Dc mX1_init 11 (.putfield 15) 3 14 := ⟨k_dX1_init_10.2.1, rfl⟩
theorem dX1_init_14 : Dc mX1_init 14 (.aload_n 0) 1 15 := ⟨k_dX1_init_10.2.2.1, rfl⟩
theorem dX1_init_15 : Dc mX1_init 15 (.bipush 64) 2 17 := ⟨k_dX1_init_10.2.2.2.1, rfl⟩
theorem dX1_init_17 : Dc mX1_init 17 (.newarray .int) 2 19 := ⟨k_dX1_init_10.2.2.2.2.1, rfl⟩
theorem dX1_init_19 : Dc mX1_init 19 (.putfield 19) 3 22 := ⟨k_dX1_init_10.2.2.2.2.2, rfl⟩
theorem k_dX1_init_22 : decode (mX1_init).2.1 22 = .ok ((.aload_n 0), 1) ∧ decode (mX1_init).2.1 23 = .ok ((.bipush 64), 2) ∧ decode (mX1_init).2.1 25 = .ok ((.newarray .int), 2) ∧ decode (mX1_init).2.1 27 = .ok ((.putfield 23), 3) ∧ decode (mX1_init).2.1 30 = .ok ((.aload_n 0), 1) ∧ decode (mX1_init).2.1 31 = .ok ((.bipush 64), 2) := by decide +kernel
theorem dX1_init_22 : Dc mX1_init 22 (.aload_n 0) 1 23 := ⟨k_dX1_init_22.1, rfl⟩
theorem dX1_init_23 : Dc mX1_init 23 (.bipush 64) 2 25 := ⟨k_dX1_init_22.2.1, rfl⟩
theorem dX1_init_25 : Dc mX1_init 25 (.newarray .int) 2 27 := ⟨k_dX1_init_22.2.2.1, rfl⟩
theorem dX1_init_27 : Dc mX1_init 27 (.putfield 23) 3 30 := ⟨k_dX1_init_22.2.2.2.1, rfl⟩
theorem dX1_init_30 : Dc mX1_init 30 (.aload_n 0) 1 31 := ⟨k_dX1_init_22.2.2.2.2.1, rfl⟩
theorem dX1_init_31 : Dc mX1_init 31 (.bipush 64) 2 33 := ⟨k_dX1_init_22.2.2.2.2.2, rfl⟩
theorem k_dX1_init_33 : decode (mX1_init).2.1 33 = .ok ((.newarray .long), 2) ∧ decode (mX1_init).2.1 35 = .ok ((.putfield 26), 3) ∧ decode (mX1_init).2.1 38 = .ok ((.return_), 1) := by decide +kernel
theorem dX1_init_33 : Dc mX1_init 33 (.newarray .long) 2 35 := ⟨k_dX1_init_33.1, rfl⟩
theorem dX1_init_35 : Dc mX1_init 35 (.putfield 26) 3 38 := ⟨k_dX1_init_33.2.1, rfl⟩
theorem dX1_init_38 : Dc mX1_init 38 (.return_) 1 39 := ⟨k_dX1_init_33.2.2, rfl⟩
theorem k_dX1_clear_0 : decode (mX1_clear).2.1 0 = .ok ((.aload_n 0), 1) ∧ decode (mX1_clear).2.1 1 = .ok ((.iconst 0), 1) ∧ decode (mX1_clear).2.1 2 = .ok ((.putfield 9), 3) ∧ decode (mX1_clear).2.1 5 = .ok ((.aload_n 0), 1) ∧ decode (mX1_clear).2.1 6 = .ok ((.iconst 0), 1) ∧ decode (mX1_clear).2.1 7 = .ok ((.putfield 15), 3) := by decide +kernel
theorem dX1_clear_0 : Dc mX1_clear 0 (.aload_n 0) 1 1 := ⟨k_dX1_clear_0.1, rfl⟩
theorem dX1_clear_1 : Dc mX1_clear 1 (.iconst 0) 1 2 := ⟨k_dX1_clear_0.2.1, rfl⟩
theorem dX1_clear_2 : Dc mX1_clear 2 (.putfield 9) 3 5 := ⟨k_dX1_clear_0.2.2.1, rfl⟩
theorem dX1_clear_5 : Dc mX1_clear 5 (.aload_n 0) 1 6 := ⟨k_dX1_clear_0.2.2.2.1, rfl⟩
theorem dX1_clear_6 : Dc mX1_clear 6 (.iconst 0) 1 7 := ⟨k_dX1_clear_0.2.2.2.2.1, rfl⟩
theorem dX1_clear_7 : Dc mX1_clear 7 (.putfield 15) 3 10 := ⟨k_dX1_clear_0.2.2.2.2.2, rfl⟩
theorem dX1_clear_10 : Dc mX1_clear 10 (.return_) 1 11 := ⟨by decide +kernel, rfl⟩
theorem k_dX1_copy_0 : decode (mX1_copy).2.1 0 = .ok ((.aload_n 0), 1) ∧ decode (mX1_copy).2.1 1 = .ok ((.aload_n 1), 1) ∧ decode (mX1_copy).2.1 2 = .ok ((.getfield 9), 3) ∧ decode (mX1_copy).2.1 5 = .ok ((.putfield 9), 3) ∧ decode (mX1_copy).2.1 8 = .ok ((.aload_n 0), 1) ∧ decode (mX1_copy).2.1 9 = .ok ((.aload_n 1), 1) := by decide +kernel
theorem dX1_copy_0 : Dc mX1_copy 0 (.aload_n 0) 1 1 := ⟨k_dX1_copy_0.1, rfl⟩
theorem dX1_copy_1 : Dc mX1_copy 1 (.aload_n 1) 1 2 := ⟨k_dX1_copy_0.2.1, rfl⟩
theorem dX1_copy_2 : Dc mX1_copy 2 (.getfield 9) 3 5 := ⟨k_dX1_copy_0.2.2.1, rfl⟩
theorem dX1_copy_5 : Dc mX1_copy 5 (.putfield 9) 3 8 := ⟨k_dX1_copy_0.2.2.2.1, rfl⟩
theorem dX1_copy_8 : Dc mX1_copy 8 (.aload_n 0) 1 9 := ⟨k_dX1_copy_0.2.2.2.2.1, rfl⟩
theorem dX1_copy_9 : Dc mX1_copy 9 (.aload_n 1) 1 10 := ⟨k_dX1_copy_0.2.2.2.2.2, rfl⟩
theorem k_dX1_copy_10 : decode (mX1_copy).2.1 10 = .ok ((.getfield 15), 3) ∧ decode (mX1_copy).2.1 13 = .ok ((.putfield 15), 3) ∧ decode (mX1_copy).2.1 16 = .ok ((.aload_n 1), 1) ∧ decode (mX1_copy).2.1 17 = .ok ((.getfield 19), 3) ∧ decode (mX1_copy).2.1 20 = .ok ((.aload_n 0), 1) ∧ decode (mX1_copy).2.1 21 = .ok ((.getfield 19), 3) := by decide +kernel
theorem dX1_copy_10 : Dc mX1_copy 10 (.getfield 15) 3 13 := ⟨k_dX1_copy_10.1, rfl⟩
theorem dX1_copy_13 : Dc mX1_copy 13 (.putfield 15) 3 16 := ⟨k_dX1_copy_10.2.1, rfl⟩
theorem dX1_copy_16 : Dc mX1_copy 16 (.aload_n 1) 1 17 := ⟨k_dX1_copy_10.2.2.1, rfl⟩
theorem dX1_copy_17 : Dc mX1_copy 17 (.getfield 19) 3 20 := ⟨k_dX1_copy_10.2.2.2.1, rfl⟩
theorem dX1_copy_20 : Dc mX1_copy 20 (.aload_n 0) 1 21 := ⟨k_dX1_copy_10.2.2.2.2.1, rfl⟩
theorem dX1_copy_21 : Dc mX1_copy 21 (.getfield 19) 3 24 := ⟨k_dX1_copy_10.2.2.2.2.2, rfl⟩
theorem k_dX1_copy_24 : decode (mX1_copy).2.1 24 = .ok ((.invokestatic 30), 3) ∧ decode (mX1_copy).2.1 27 = .ok ((.aload_n 1), 1) ∧ decode (mX1_copy).2.1 28 = .ok ((.getfield 23), 3) ∧ decode (mX1_copy).2.1 31 = .ok ((.aload_n 0), 1) ∧ decode (mX1_copy).2.1 32 = .ok ((.getfield 23), 3) ∧ decode (mX1_copy).2.1 35 = .ok ((.invokestatic 30), 3) := by decide +kernel
theorem dX1_copy_24 : Dc mX1_copy 24 (.invokestatic 30) 3 27 := ⟨k_dX1_copy_24.1, rfl⟩
theorem dX1_copy_27 : Dc mX1_copy 27 (.aload_n 1) 1 28 := ⟨k_dX1_copy_24.2.1, rfl⟩
theorem dX1_copy_28 : Dc mX1_copy 28 (.getfield 23) 3 31 := ⟨k_dX1_copy_24.2.2.1, rfl⟩
theorem dX1_copy_31 : Dc mX1_copy 31 (.aload_n 0) 1 32 := ⟨k_dX1_copy_24.2.2.2.1, rfl⟩
theorem dX1_copy_32 : Dc mX1_copy 32 (.getfield 23) 3 35 := ⟨k_dX1_copy_24.2.2.2.2.1, rfl⟩
theorem dX1_copy_35 : Dc mX1_copy 35 (.invokestatic 30) 3 38 := ⟨k_dX1_copy_24.2.2.2.2.2, rfl⟩
theorem dX1_copy_38 : Dc mX1_copy 38 (.return_) 1 39 := ⟨by decide +kernel, rfl⟩
theorem k_dX1_add_0 : decode (mX1_add).2.1 0 = .ok ((.aload_n 0), 1) ∧ decode (mX1_add).2.1 1 = .ok ((.getfield 15), 3) ∧ decode (mX1_add).2.1 4 = .ok ((.ifCond .lt 57), 3) ∧ decode (mX1_add).2.1 7 = .ok ((.aload_n 0), 1) ∧ decode (mX1_add).2.1 8 = .ok ((.getfield 15), 3) ∧ decode (mX1_add).2.1 11 = .ok ((.aload_n 0), 1) := by decide +kernel
theorem dX1_add_0 : Dc mX1_add 0 (.aload_n 0) 1 1 := ⟨k_dX1_add_0.1, rfl⟩
theorem dX1_add_1 : Dc mX1_add 1 (.getfield 15) 3 4 := ⟨k_dX1_add_0.2.1, rfl⟩
theorem dX1_add_4 : Dc mX1_add 4 (.ifCond .lt 57) 3 7 := ⟨k_dX1_add_0.2.2.1, rfl⟩
theorem dX1_add_7 : Dc mX1_add 7 (.aload_n 0) 1 8 := ⟨k_dX1_add_0.2.2.2.1, rfl⟩
theorem dX1_add_8 : Dc mX1_add 8 (.getfield 15) 3 11 := ⟨k_dX1_add_0.2.2.2.2.1, rfl⟩
theorem dX1_add_11 : Dc mX1_add 11 (.aload_n 0) 1 12 := ⟨k_dX1_add_0.2.2.2.2.2, rfl⟩
theorem k_dX1_add_12 : decode (mX1_add).2.1 12 = .ok ((.getfield 19), 3) ∧ decode (mX1_add).2.1 15 = .ok ((.arraylength), 1) ∧ decode (mX1_add).2.1 16 = .ok ((.if_icmp .ge 45), 3) ∧ decode (mX1_add).2.1 19 = .ok ((.aload_n 0), 1) ∧ decode (mX1_add).2.1 20 = .ok ((.getfield 15), 3) ∧ decode (mX1_add).2.1 23 = .ok ((.aload_n 0), 1) := by decide +kernel
theorem dX1_add_12 : Dc mX1_add 12 (.getfield 19) 3 15 := ⟨k_dX1_add_12.1, rfl⟩
theorem dX1_add_15 : Dc mX1_add 15 (.arraylength) 1 16 := ⟨k_dX1_add_12.2.1, rfl⟩
theorem dX1_add_16 : Dc mX1_add 16 (.if_icmp .ge 45) 3 19 := ⟨k_dX1_add_12.2.2.1, rfl⟩
theorem dX1_add_19 : Dc mX1_add 19 (.aload_n 0) 1 20 := ⟨k_dX1_add_12.2.2.2.1, rfl⟩
theorem dX1_add_20 : Dc mX1_add 20 (.getfield 15) 3 23 := ⟨k_dX1_add_12.2.2.2.2.1, rfl⟩
theorem dX1_add_23 : Dc mX1_add 23 (.aload_n 0) 1 24 := ⟨k_dX1_add_12.2.2.2.2.2, rfl⟩
theorem k_dX1_add_24 : decode (mX1_add).2.1 24 = .ok ((.getfield 23), 3) ∧ decode (mX1_add).2.1 27 = .ok ((.arraylength), 1) ∧ decode (mX1_add).2.1 28 = .ok ((.if_icmp .ge 33), 3) ∧ decode (mX1_add).2.1 31 = .ok ((.aload_n 0), 1) ∧ decode (mX1_add).2.1 32 = .ok ((.getfield 19), 3) ∧ decode (mX1_add).2.1 35 = .ok ((.aload_n 0), 1) := by decide +kernel
theorem dX1_add_24 : Dc mX1_add 24 (.getfield 23) 3 27 := ⟨k_dX1_add_24.1, rfl⟩
theorem dX1_add_27 : Dc mX1_add 27 (.arraylength) 1 28 := ⟨k_dX1_add_24.2.1, rfl⟩
theorem dX1_add_28 : Dc mX1_add 28 (.if_icmp .ge 33) 3 31 := ⟨k_dX1_add_24.2.2.1, rfl⟩
theorem dX1_add_31 : Dc mX1_add 31 (.aload_n 0) 1 32 := ⟨k_dX1_add_24.2.2.2.1, rfl⟩
theorem dX1_add_32 : Dc mX1_add 32 (.getfield 19) 3 35 := ⟨k_dX1_add_24.2.2.2.2.1, rfl⟩
theorem dX1_add_35 : Dc mX1_add 35 (.aload_n 0) 1 36 := ⟨k_dX1_add_24.2.2.2.2.2, rfl⟩
theorem k_dX1_add_36 : decode (mX1_add).2.1 36 = .ok ((.getfield 15), 3) ∧ decode (mX1_add).2.1 39 = .ok ((.iload_n 1), 1) ∧ decode (mX1_add).2.1 40 = .ok ((.iastore), 1) ∧ decode (mX1_add).2.1 41 = .ok ((.aload_n 0), 1) ∧ decode (mX1_add).2.1 42 = .ok ((.getfield 23), 3) ∧ decode (mX1_add).2.1 45 = .ok ((.aload_n 0), 1) := by decide +kernel
theorem dX1_add_36 : Dc mX1_add 36 (.getfield 15) 3 39 := ⟨k_dX1_add_36.1, rfl⟩
theorem dX1_add_39 : Dc mX1_add 39 (.iload_n 1) 1 40 := ⟨k_dX1_add_36.2.1, rfl⟩
theorem dX1_add_40 : Dc mX1_add 40 (.iastore) 1 41 := ⟨k_dX1_add_36.2.2.1, rfl⟩
theorem dX1_add_41 : Dc mX1_add 41 (.aload_n 0) 1 42 := ⟨k_dX1_add_36.2.2.2.1, rfl⟩
theorem dX1_add_42 : Dc mX1_add 42 (.getfield 23) 3 45 := ⟨k_dX1_add_36.2.2.2.2.1, rfl⟩
theorem dX1_add_45 : Dc mX1_add 45 (.aload_n 0) 1 46 := ⟨k_dX1_add_36.2.2.2.2.2, rfl⟩
theorem k_dX1_add_46 : decode (mX1_add).2.1 46 = .ok ((.getfield 15), 3) ∧ decode (mX1_add).2.1 49 = .ok ((.iload_n 2), 1) ∧ decode (mX1_add).2.1 50 = .ok ((.iastore), 1) ∧ decode (mX1_add).2.1 51 = .ok ((.aload_n 0), 1) ∧ decode (mX1_add).2.1 52 = .ok ((.dup), 1) ∧ decode (mX1_add).2.1 53 = .ok ((.getfield 15), 3) := by decide +kernel
theorem dX1_add_46 : Dc mX1_add 46 (.getfield 15) 3 49 := ⟨k_dX1_add_46.1, rfl⟩
theorem dX1_add_49 : Dc mX1_add 49 (.iload_n 2) 1 50 := ⟨k_dX1_add_46.2.1, rfl⟩
theorem dX1_add_50 : Dc mX1_add 50 (.iastore) 1 51 := ⟨k_dX1_add_46.2.2.1, rfl⟩
theorem dX1_add_51 : Dc mX1_add 51 (.aload_n 0) 1 52 := ⟨k_dX1_add_46.2.2.2.1, rfl⟩
theorem dX1_add_52 : Dc mX1_add 52 (.dup) 1 53 := ⟨k_dX1_add_46.2.2.2.2.1, rfl⟩
theorem dX1_add_53 : Dc mX1_add 53 (.getfield 15) 3 56 := ⟨k_dX1_add_46.2.2.2.2.2, rfl⟩
theorem k_dX1_add_56 : decode (mX1_add).2.1 56 = .ok ((.iconst 1), 1) ∧ decode (mX1_add).2.1 57 = .ok ((.iadd), 1) ∧ decode (mX1_add).2.1 58 = .ok ((.putfield 15), 3) ∧ decode (mX1_add).2.1 61 = .ok ((.return_), 1) := by decide +kernel
theorem dX1_add_56 : Dc mX1_add 56 (.iconst 1) 1 57 := ⟨k_dX1_add_56.1, rfl⟩
theorem dX1_add_57 : Dc mX1_add 57 (.iadd) 1 58 := ⟨k_dX1_add_56.2.1, rfl⟩
theorem dX1_add_58 : Dc mX1_add 58 (.putfield 15) 3 61 := ⟨k_dX1_add_56.2.2.1, rfl⟩
theorem dX1_add_61 : Dc mX1_add 61 (.return_) 1 62 := ⟨k_dX1_add_56.2.2.2, rfl⟩
theorem k_dX1_worth_0 : decode (mX1_worth).2.1 0 = .ok ((.iconst 0), 1) ∧ decode (mX1_worth).2.1 1 = .ok ((.istore_n 2), 1) ∧ decode (mX1_worth).2.1 2 = .ok ((.iconst 0), 1) ∧ decode (mX1_worth).2.1 3 = .ok ((.istore_n 3), 1) ∧ decode (mX1_worth).2.1 4 = .ok ((.iload_n 3), 1) ∧ decode (mX1_worth).2.1 5 = .ok ((.aload_n 0), 1) := by decide +kernel
theorem dX1_worth_0 : Dc mX1_worth 0 (.iconst 0) 1 1 := ⟨k_dX1_worth_0.1, rfl⟩
theorem dX1_worth_1 : Dc mX1_worth 1 (.istore_n 2) 1 2 := ⟨k_dX1_worth_0.2.1, rfl⟩
theorem dX1_worth_2 : Dc mX1_worth 2 (.iconst 0) 1 3 := ⟨k_dX1_worth_0.2.2.1, rfl⟩
theorem dX1_worth_3 : Dc mX1_worth 3 (.istore_n 3) 1 4 := ⟨k_dX1_worth_0.2.2.2.1, rfl⟩
theorem dX1_worth_4 : Dc mX1_worth 4 (.iload_n 3) 1 5 := ⟨k_dX1_worth_0.2.2.2.2.1, rfl⟩
theorem dX1_worth_5 : Dc mX1_worth 5 (.aload_n 0) 1 6 := ⟨k_dX1_worth_0.2.2.2.2.2, rfl⟩
theorem k_dX1_worth_6 : decode (mX1_worth).2.1 6 = .ok ((.getfield 15), 3) ∧ decode (mX1_worth).2.1 9 = .ok ((.if_icmp .ge 147), 3) ∧ decode (mX1_worth).2.1 12 = .ok ((.aload_n 0), 1) ∧ decode (mX1_worth).2.1 13 = .ok ((.getfield 19), 3) ∧ decode (mX1_worth).2.1 16 = .ok ((.iload_n 3), 1) ∧ decode (mX1_worth).2.1 17 = .ok ((.invokestatic 34), 3) := by decide +kernel
theorem dX1_worth_6 : Dc mX1_worth 6 (.getfield 15) 3 9 := ⟨k_dX1_worth_6.1, rfl⟩
theorem dX1_worth_9 : Dc mX1_worth 9 (.if_icmp .ge 147) 3 12 := ⟨k_dX1_worth_6.2.1, rfl⟩
theorem dX1_worth_12 : Dc mX1_worth 12 (.aload_n 0) 1 13 := ⟨k_dX1_worth_6.2.2.1, rfl⟩
theorem dX1_worth_13 : Dc mX1_worth 13 (.getfield 19) 3 16 := ⟨k_dX1_worth_6.2.2.2.1, rfl⟩
theorem dX1_worth_16 : Dc mX1_worth 16 (.iload_n 3) 1 17 := ⟨k_dX1_worth_6.2.2.2.2.1, rfl⟩
theorem dX1_worth_17 : Dc mX1_worth 17 (.invokestatic 34) 3 20 := ⟨k_dX1_worth_6.2.2.2.2.2, rfl⟩
theorem k_dX1_worth_20 : decode (mX1_worth).2.1 20 = .ok ((.istore 4), 2) ∧ decode (mX1_worth).2.1 22 = .ok ((.iload 4), 2) ∧ decode (mX1_worth).2.1 24 = .ok ((.invokestatic 38), 3) ∧ decode (mX1_worth).2.1 27 = .ok ((.istore 5), 2) ∧ decode (mX1_worth).2.1 29 = .ok ((.aload_n 0), 1) ∧ decode (mX1_worth).2.1 30 = .ok ((.iload_n 2), 1) := by decide +kernel
theorem dX1_worth_20 : Dc mX1_worth 20 (.istore 4) 2 22 := ⟨k_dX1_worth_20.1, rfl⟩
theorem dX1_worth_22 : Dc mX1_worth 22 (.iload 4) 2 24 := ⟨k_dX1_worth_20.2.1, rfl⟩
theorem dX1_worth_24 : Dc mX1_worth 24 (.invokestatic 38) 3 27 := ⟨k_dX1_worth_20.2.2.1, rfl⟩
theorem dX1_worth_27 : Dc mX1_worth 27 (.istore 5) 2 29 := ⟨k_dX1_worth_20.2.2.2.1, rfl⟩
theorem dX1_worth_29 : Dc mX1_worth 29 (.aload_n 0) 1 30 := ⟨k_dX1_worth_20.2.2.2.2.1, rfl⟩
theorem dX1_worth_30 : Dc mX1_worth 30 (.iload_n 2) 1 31 := ⟨k_dX1_worth_20.2.2.2.2.2, rfl⟩
theorem k_dX1_worth_31 : decode (mX1_worth).2.1 31 = .ok ((.iconst 1), 1) ∧ decode (mX1_worth).2.1 32 = .ok ((.isub), 1) ∧ decode (mX1_worth).2.1 33 = .ok ((.invokevirtual 42), 3) ∧ decode (mX1_worth).2.1 36 = .ok ((.lstore 6), 2) ∧ decode (mX1_worth).2.1 38 = .ok ((.iload 5), 2) ∧ decode (mX1_worth).2.1 40 = .ok ((.iconst 2), 1) := by decide +kernel
theorem dX1_worth_31 : Dc mX1_worth 31 (.iconst 1) 1 32 := ⟨k_dX1_worth_31.1, rfl⟩
theorem dX1_worth_32 : Dc mX1_worth 32 (.isub) 1 33 := ⟨k_dX1_worth_31.2.1, rfl⟩
theorem dX1_worth_33 : Dc mX1_worth 33 (.invokevirtual 42) 3 36 := ⟨k_dX1_worth_31.2.2.1, rfl⟩
theorem dX1_worth_36 : Dc mX1_worth 36 (.lstore 6) 2 38 := ⟨k_dX1_worth_31.2.2.2.1, rfl⟩
theorem dX1_worth_38 : Dc mX1_worth 38 (.iload 5) 2 40 := ⟨k_dX1_worth_31.2.2.2.2.1, rfl⟩
theorem dX1_worth_40 : Dc mX1_worth 40 (.iconst 2) 1 41 := ⟨k_dX1_worth_31.2.2.2.2.2, rfl⟩
theorem k_dX1_worth_41 : decode (mX1_worth).2.1 41 = .ok ((.if_icmp .ne 20), 3) ∧ decode (mX1_worth).2.1 44 = .ok ((.iload 4), 2) ∧ decode (mX1_worth).2.1 46 = .ok ((.aload_n 0), 1) ∧ decode (mX1_worth).2.1 47 = .ok ((.iload_n 2), 1) ∧ decode (mX1_worth).2.1 48 = .ok ((.iconst 2), 1) ∧ decode (mX1_worth).2.1 49 = .ok ((.isub), 1) := by decide +kernel
theorem dX1_worth_41 : Dc mX1_worth 41 (.if_icmp .ne 20) 3 44 := ⟨k_dX1_worth_41.1, rfl⟩
theorem dX1_worth_44 : Dc mX1_worth 44 (.iload 4) 2 46 := ⟨k_dX1_worth_41.2.1, rfl⟩
theorem dX1_worth_46 : Dc mX1_worth 46 (.aload_n 0) 1 47 := ⟨k_dX1_worth_41.2.2.1, rfl⟩
theorem dX1_worth_47 : Dc mX1_worth 47 (.iload_n 2) 1 48 := ⟨k_dX1_worth_41.2.2.2.1, rfl⟩
theorem dX1_worth_48 : Dc mX1_worth 48 (.iconst 2) 1 49 := ⟨k_dX1_worth_41.2.2.2.2.1, rfl⟩
theorem dX1_worth_49 : Dc mX1_worth 49 (.isub) 1 50 := ⟨k_dX1_worth_41.2.2.2.2.2, rfl⟩
theorem k_dX1_worth_50 : decode (mX1_worth).2.1 50 = .ok ((.invokevirtual 42), 3) ∧ decode (mX1_worth).2.1 53 = .ok ((.lload 6), 2) ∧ decode (mX1_worth).2.1 55 = .ok ((.invokestatic 46), 3) ∧ decode (mX1_worth).2.1 58 = .ok ((.goto 39), 3) ∧ decode (mX1_worth).2.1 61 = .ok ((.iload 5), 2) ∧ decode (mX1_worth).2.1 63 = .ok ((.iconst 1), 1) := by decide +kernel
theorem dX1_worth_50 : Dc mX1_worth 50 (.invokevirtual 42) 3 53 := ⟨k_dX1_worth_50.1, rfl⟩
theorem dX1_worth_53 : Dc mX1_worth 53 (.lload 6) 2 55 := ⟨k_dX1_worth_50.2.1, rfl⟩
theorem dX1_worth_55 : Dc mX1_worth 55 (.invokestatic 46) 3 58 := ⟨k_dX1_worth_50.2.2.1, rfl⟩
theorem dX1_worth_58 : Dc mX1_worth 58 (.goto 39) 3 61 := ⟨k_dX1_worth_50.2.2.2.1, rfl⟩
theorem dX1_worth_61 : Dc mX1_worth 61 (.iload 5) 2 63 := ⟨k_dX1_worth_50.2.2.2.2.1, rfl⟩
theorem dX1_worth_63 : Dc mX1_worth 63 (.iconst 1) 1 64 := ⟨k_dX1_worth_50.2.2.2.2.2, rfl⟩
theorem k_dX1_worth_64 : decode (mX1_worth).2.1 64 = .ok ((.if_icmp .ne 19), 3) ∧ decode (mX1_worth).2.1 67 = .ok ((.lload 6), 2) ∧ decode (mX1_worth).2.1 69 = .ok ((.lconst 0), 1) ∧ decode (mX1_worth).2.1 70 = .ok ((.lcmp), 1) ∧ decode (mX1_worth).2.1 71 = .ok ((.ifCond .ne 7), 3) ∧ decode (mX1_worth).2.1 74 = .ok ((.iconst 1), 1) := by decide +kernel
theorem dX1_worth_64 : Dc mX1_worth 64 (.if_icmp .ne 19) 3 67 := ⟨k_dX1_worth_64.1, rfl⟩
theorem dX1_worth_67 : Dc mX1_worth 67 (.lload 6) 2 69 := ⟨k_dX1_worth_64.2.1, rfl⟩
theorem dX1_worth_69 : Dc mX1_worth 69 (.lconst 0) 1 70 := ⟨k_dX1_worth_64.2.2.1, rfl⟩
theorem dX1_worth_70 : Dc mX1_worth 70 (.lcmp) 1 71 := ⟨k_dX1_worth_64.2.2.2.1, rfl⟩
theorem dX1_worth_71 : Dc mX1_worth 71 (.ifCond .ne 7) 3 74 := ⟨k_dX1_worth_64.2.2.2.2.1, rfl⟩
theorem dX1_worth_74 : Dc mX1_worth 74 (.iconst 1) 1 75 := ⟨k_dX1_worth_64.2.2.2.2.2, rfl⟩
theorem k_dX1_worth_75 : decode (mX1_worth).2.1 75 = .ok ((.goto 4), 3) ∧ decode (mX1_worth).2.1 78 = .ok ((.iconst 0), 1) ∧ decode (mX1_worth).2.1 79 = .ok ((.i2l), 1) ∧ decode (mX1_worth).2.1 80 = .ok ((.goto 17), 3) ∧ decode (mX1_worth).2.1 83 = .ok ((.iload 4), 2) ∧ decode (mX1_worth).2.1 85 = .ok ((.aload_n 0), 1) := by decide +kernel
theorem dX1_worth_75 : Dc mX1_worth 75 (.goto 4) 3 78 := ⟨k_dX1_worth_75.1, rfl⟩
theorem dX1_worth_78 : Dc mX1_worth 78 (.iconst 0) 1 79 := ⟨k_dX1_worth_75.2.1, rfl⟩
theorem dX1_worth_79 : Dc mX1_worth 79 (.i2l) 1 80 := ⟨k_dX1_worth_75.2.2.1, rfl⟩
theorem dX1_worth_80 : Dc mX1_worth 80 (.goto 17) 3 83 := ⟨k_dX1_worth_75.2.2.2.1, rfl⟩
theorem dX1_worth_83 : Dc mX1_worth 83 (.iload 4) 2 85 := ⟨k_dX1_worth_75.2.2.2.2.1, rfl⟩
theorem dX1_worth_85 : Dc mX1_worth 85 (.aload_n 0) 1 86 := ⟨k_dX1_worth_75.2.2.2.2.2, rfl⟩
theorem k_dX1_worth_86 : decode (mX1_worth).2.1 86 = .ok ((.getfield 23), 3) ∧ decode (mX1_worth).2.1 89 = .ok ((.iload_n 3), 1) ∧ decode (mX1_worth).2.1 90 = .ok ((.invokestatic 34), 3) ∧ decode (mX1_worth).2.1 93 = .ok ((.aload_n 1), 1) ∧ decode (mX1_worth).2.1 94 = .ok ((.invokestatic 50), 3) ∧ decode (mX1_worth).2.1 97 = .ok ((.lstore 8), 2) := by decide +kernel
theorem dX1_worth_86 : Dc mX1_worth 86 (.getfield 23) 3 89 := ⟨k_dX1_worth_86.1, rfl⟩
theorem dX1_worth_89 : Dc mX1_worth 89 (.iload_n 3) 1 90 := ⟨k_dX1_worth_86.2.1, rfl⟩
theorem dX1_worth_90 : Dc mX1_worth 90 (.invokestatic 34) 3 93 := ⟨k_dX1_worth_86.2.2.1, rfl⟩
theorem dX1_worth_93 : Dc mX1_worth 93 (.aload_n 1) 1 94 := ⟨k_dX1_worth_86.2.2.2.1, rfl⟩
theorem dX1_worth_94 : Dc mX1_worth 94 (.invokestatic 50) 3 97 := ⟨k_dX1_worth_86.2.2.2.2.1, rfl⟩
theorem dX1_worth_97 : Dc mX1_worth 97 (.lstore 8) 2 99 := ⟨k_dX1_worth_86.2.2.2.2.2, rfl⟩
theorem k_dX1_worth_99 : decode (mX1_worth).2.1 99 = .ok ((.lload 8), 2) ∧ decode (mX1_worth).2.1 101 = .ok ((.ldc2_w 54), 3) ∧ decode (mX1_worth).2.1 104 = .ok ((.lcmp), 1) ∧ decode (mX1_worth).2.1 105 = .ok ((.ifCond .gt 12), 3) ∧ decode (mX1_worth).2.1 108 = .ok ((.lload 8), 2) ∧ decode (mX1_worth).2.1 110 = .ok ((.ldc2_w 56), 3) := by decide +kernel
theorem dX1_worth_99 : Dc mX1_worth 99 (.lload 8) 2 101 := ⟨k_dX1_worth_99.1, rfl⟩
theorem dX1_worth_101 : Dc mX1_worth 101 (.ldc2_w 54) 3 104 := ⟨k_dX1_worth_99.2.1, rfl⟩
theorem dX1_worth_104 : Dc mX1_worth 104 (.lcmp) 1 105 := ⟨k_dX1_worth_99.2.2.1, rfl⟩
theorem dX1_worth_105 : Dc mX1_worth 105 (.ifCond .gt 12) 3 108 := ⟨k_dX1_worth_99.2.2.2.1, rfl⟩
theorem dX1_worth_108 : Dc mX1_worth 108 (.lload 8) 2 110 := ⟨k_dX1_worth_99.2.2.2.2.1, rfl⟩
theorem dX1_worth_110 : Dc mX1_worth 110 (.ldc2_w 56) 3 113 := ⟨k_dX1_worth_99.2.2.2.2.2, rfl⟩
theorem k_dX1_worth_113 : decode (mX1_worth).2.1 113 = .ok ((.lcmp), 1) ∧ decode (mX1_worth).2.1 114 = .ok ((.ifCond .ge 7), 3) ∧ decode (mX1_worth).2.1 117 = .ok ((.ldc2_w 58), 3) ∧ decode (mX1_worth).2.1 120 = .ok ((.lreturn), 1) ∧ decode (mX1_worth).2.1 121 = .ok ((.iload_n 2), 1) ∧ decode (mX1_worth).2.1 122 = .ok ((.iload 5), 2) := by decide +kernel
theorem dX1_worth_113 : Dc mX1_worth 113 (.lcmp) 1 114 := ⟨k_dX1_worth_113.1, rfl⟩
theorem dX1_worth_114 : Dc mX1_worth 114 (.ifCond .ge 7) 3 117 := ⟨k_dX1_worth_113.2.1, rfl⟩
theorem dX1_worth_117 : Dc mX1_worth 117 (.ldc2_w 58) 3 120 := ⟨k_dX1_worth_113.2.2.1, rfl⟩
theorem dX1_worth_120 : Dc mX1_worth 120 (.lreturn) 1 121 := ⟨k_dX1_worth_113.2.2.2.1, rfl⟩
theorem dX1_worth_121 : Dc mX1_worth 121 (.iload_n 2) 1 122 := ⟨k_dX1_worth_113.2.2.2.2.1, rfl⟩
theorem dX1_worth_122 : Dc mX1_worth 122 (.iload 5) 2 124 := ⟨k_dX1_worth_113.2.2.2.2.2, rfl⟩
theorem k_dX1_worth_124 : decode (mX1_worth).2.1 124 = .ok ((.isub), 1) ∧ decode (mX1_worth).2.1 125 = .ok ((.istore_n 2), 1) ∧ decode (mX1_worth).2.1 126 = .ok ((.iload_n 2), 1) ∧ decode (mX1_worth).2.1 127 = .ok ((.ifCond .lt 20), 3) ∧ decode (mX1_worth).2.1 130 = .ok ((.iload_n 2), 1) ∧ decode (mX1_worth).2.1 131 = .ok ((.aload_n 0), 1) := by decide +kernel
theorem dX1_worth_124 : Dc mX1_worth 124 (.isub) 1 125 := ⟨k_dX1_worth_124.1, rfl⟩
theorem dX1_worth_125 : Dc mX1_worth 125 (.istore_n 2) 1 126 := ⟨k_dX1_worth_124.2.1, rfl⟩
theorem dX1_worth_126 : Dc mX1_worth 126 (.iload_n 2) 1 127 := ⟨k_dX1_worth_124.2.2.1, rfl⟩
theorem dX1_worth_127 : Dc mX1_worth 127 (.ifCond .lt 20) 3 130 := ⟨k_dX1_worth_124.2.2.2.1, rfl⟩
theorem dX1_worth_130 : Dc mX1_worth 130 (.iload_n 2) 1 131 := ⟨k_dX1_worth_124.2.2.2.2.1, rfl⟩
theorem dX1_worth_131 : Dc mX1_worth 131 (.aload_n 0) 1 132 := ⟨k_dX1_worth_124.2.2.2.2.2, rfl⟩
theorem k_dX1_worth_132 : decode (mX1_worth).2.1 132 = .ok ((.getfield 26), 3) ∧ decode (mX1_worth).2.1 135 = .ok ((.arraylength), 1) ∧ decode (mX1_worth).2.1 136 = .ok ((.if_icmp .ge 11), 3) ∧ decode (mX1_worth).2.1 139 = .ok ((.aload_n 0), 1) ∧ decode (mX1_worth).2.1 140 = .ok ((.getfield 26), 3) ∧ decode (mX1_worth).2.1 143 = .ok ((.iload_n 2), 1) := by decide +kernel
theorem dX1_worth_132 : Dc mX1_worth 132 (.getfield 26) 3 135 := ⟨k_dX1_worth_132.1, rfl⟩
theorem dX1_worth_135 : Dc mX1_worth 135 (.arraylength) 1 136 := ⟨k_dX1_worth_132.2.1, rfl⟩
theorem dX1_worth_136 : Dc mX1_worth 136 (.if_icmp .ge 11) 3 139 := ⟨k_dX1_worth_132.2.2.1, rfl⟩
theorem dX1_worth_139 : Dc mX1_worth 139 (.aload_n 0) 1 140 := ⟨k_dX1_worth_132.2.2.2.1, rfl⟩
theorem dX1_worth_140 : Dc mX1_worth 140 (.getfield 26) 3 143 := ⟨k_dX1_worth_132.2.2.2.2.1, rfl⟩
theorem dX1_worth_143 : Dc mX1_worth 143 (.iload_n 2) 1 144 := ⟨k_dX1_worth_132.2.2.2.2.2, rfl⟩
theorem k_dX1_worth_144 : decode (mX1_worth).2.1 144 = .ok ((.lload 8), 2) ∧ decode (mX1_worth).2.1 146 = .ok ((.lastore), 1) ∧ decode (mX1_worth).2.1 147 = .ok ((.iinc 2 1), 3) ∧ decode (mX1_worth).2.1 150 = .ok ((.iinc 3 1), 3) ∧ decode (mX1_worth).2.1 153 = .ok ((.goto (-149)), 3) ∧ decode (mX1_worth).2.1 156 = .ok ((.aload_n 0), 1) := by decide +kernel
theorem dX1_worth_144 : Dc mX1_worth 144 (.lload 8) 2 146 := ⟨k_dX1_worth_144.1, rfl⟩
theorem dX1_worth_146 : Dc mX1_worth 146 (.lastore) 1 147 := ⟨k_dX1_worth_144.2.1, rfl⟩
theorem dX1_worth_147 : Dc mX1_worth 147 (.iinc 2 1) 3 150 := ⟨k_dX1_worth_144.2.2.1, rfl⟩
theorem dX1_worth_150 : Dc mX1_worth 150 (.iinc 3 1) 3 153 := ⟨k_dX1_worth_144.2.2.2.1, rfl⟩
theorem dX1_worth_153 : Dc mX1_worth 153 (.goto (-149)) 3 156 := ⟨k_dX1_worth_144.2.2.2.2.1, rfl⟩
theorem dX1_worth_156 : Dc mX1_worth 156 (.aload_n 0) 1 157 := ⟨k_dX1_worth_144.2.2.2.2.2, rfl⟩
theorem k_dX1_worth_157 : decode (mX1_worth).2.1 157 = .ok ((.getfield 9), 3) ∧ decode (mX1_worth).2.1 160 = .ok ((.ifCond .eq 13), 3) ∧ decode (mX1_worth).2.1 163 = .ok ((.aload_n 0), 1) ∧ decode (mX1_worth).2.1 164 = .ok ((.iload_n 2), 1) ∧ decode (mX1_worth).2.1 165 = .ok ((.iconst 1), 1) ∧ decode (mX1_worth).2.1 166 = .ok ((.isub), 1) := by decide +kernel
theorem dX1_worth_157 : Dc mX1_worth 157 (.getfield 9) 3 160 := ⟨k_dX1_worth_157.1, rfl⟩
theorem dX1_worth_160 : Dc mX1_worth 160 (.ifCond .eq 13) 3 163 := ⟨k_dX1_worth_157.2.1, rfl⟩
theorem dX1_worth_163 : Dc mX1_worth 163 (.aload_n 0) 1 164 := ⟨k_dX1_worth_157.2.2.1, rfl⟩
theorem dX1_worth_164 : Dc mX1_worth 164 (.iload_n 2) 1 165 := ⟨k_dX1_worth_157.2.2.2.1, rfl⟩
theorem dX1_worth_165 : Dc mX1_worth 165 (.iconst 1) 1 166 := ⟨k_dX1_worth_157.2.2.2.2.1, rfl⟩
theorem dX1_worth_166 : Dc mX1_worth 166 (.isub) 1 167 := ⟨k_dX1_worth_157.2.2.2.2.2, rfl⟩
theorem k_dX1_worth_167 : decode (mX1_worth).2.1 167 = .ok ((.invokevirtual 42), 3) ∧ decode (mX1_worth).2.1 170 = .ok ((.goto 6), 3) ∧ decode (mX1_worth).2.1 173 = .ok ((.ldc2_w 58), 3) ∧ decode (mX1_worth).2.1 176 = .ok ((.lreturn), 1) := by decide +kernel
theorem dX1_worth_167 : Dc mX1_worth 167 (.invokevirtual 42) 3 170 := ⟨k_dX1_worth_167.1, rfl⟩
theorem dX1_worth_170 : Dc mX1_worth 170 (.goto 6) 3 173 := ⟨k_dX1_worth_167.2.1, rfl⟩
theorem dX1_worth_173 : Dc mX1_worth 173 (.ldc2_w 58) 3 176 := ⟨k_dX1_worth_167.2.2.1, rfl⟩
theorem dX1_worth_176 : Dc mX1_worth 176 (.lreturn) 1 177 := ⟨k_dX1_worth_167.2.2.2, rfl⟩
theorem k_dX1_openAt_0 : decode (mX1_openAt).2.1 0 = .ok ((.iload_n 1), 1) ∧ decode (mX1_openAt).2.1 1 = .ok ((.ifCond .lt 21), 3) ∧ decode (mX1_openAt).2.1 4 = .ok ((.iload_n 1), 1) ∧ decode (mX1_openAt).2.1 5 = .ok ((.aload_n 0), 1) ∧ decode (mX1_openAt).2.1 6 = .ok ((.getfield 26), 3) ∧ decode (mX1_openAt).2.1 9 = .ok ((.arraylength), 1) := by decide +kernel
theorem dX1_openAt_0 : Dc mX1_openAt 0 (.iload_n 1) 1 1 := ⟨k_dX1_openAt_0.1, rfl⟩
theorem dX1_openAt_1 : Dc mX1_openAt 1 (.ifCond .lt 21) 3 4 := ⟨k_dX1_openAt_0.2.1, rfl⟩
theorem dX1_openAt_4 : Dc mX1_openAt 4 (.iload_n 1) 1 5 := ⟨k_dX1_openAt_0.2.2.1, rfl⟩
theorem dX1_openAt_5 : Dc mX1_openAt 5 (.aload_n 0) 1 6 := ⟨k_dX1_openAt_0.2.2.2.1, rfl⟩
theorem dX1_openAt_6 : Dc mX1_openAt 6 (.getfield 26) 3 9 := ⟨k_dX1_openAt_0.2.2.2.2.1, rfl⟩
theorem dX1_openAt_9 : Dc mX1_openAt 9 (.arraylength) 1 10 := ⟨k_dX1_openAt_0.2.2.2.2.2, rfl⟩
theorem k_dX1_openAt_10 : decode (mX1_openAt).2.1 10 = .ok ((.if_icmp .ge 12), 3) ∧ decode (mX1_openAt).2.1 13 = .ok ((.aload_n 0), 1) ∧ decode (mX1_openAt).2.1 14 = .ok ((.getfield 26), 3) ∧ decode (mX1_openAt).2.1 17 = .ok ((.iload_n 1), 1) ∧ decode (mX1_openAt).2.1 18 = .ok ((.laload), 1) ∧ decode (mX1_openAt).2.1 19 = .ok ((.goto 4), 3) := by decide +kernel
theorem dX1_openAt_10 : Dc mX1_openAt 10 (.if_icmp .ge 12) 3 13 := ⟨k_dX1_openAt_10.1, rfl⟩
theorem dX1_openAt_13 : Dc mX1_openAt 13 (.aload_n 0) 1 14 := ⟨k_dX1_openAt_10.2.1, rfl⟩
theorem dX1_openAt_14 : Dc mX1_openAt 14 (.getfield 26) 3 17 := ⟨k_dX1_openAt_10.2.2.1, rfl⟩
theorem dX1_openAt_17 : Dc mX1_openAt 17 (.iload_n 1) 1 18 := ⟨k_dX1_openAt_10.2.2.2.1, rfl⟩
theorem dX1_openAt_18 : Dc mX1_openAt 18 (.laload) 1 19 := ⟨k_dX1_openAt_10.2.2.2.2.1, rfl⟩
theorem dX1_openAt_19 : Dc mX1_openAt 19 (.goto 4) 3 22 := ⟨k_dX1_openAt_10.2.2.2.2.2, rfl⟩
theorem k_dX1_openAt_22 : decode (mX1_openAt).2.1 22 = .ok ((.lconst 0), 1) ∧ decode (mX1_openAt).2.1 23 = .ok ((.lreturn), 1) := by decide +kernel
theorem dX1_openAt_22 : Dc mX1_openAt 22 (.lconst 0) 1 23 := ⟨k_dX1_openAt_22.1, rfl⟩
theorem dX1_openAt_23 : Dc mX1_openAt 23 (.lreturn) 1 24 := ⟨k_dX1_openAt_22.2, rfl⟩
theorem k_dX1_partsOf_0 : decode (mX1_partsOf).2.1 0 = .ok ((.iload_n 0), 1) ∧ decode (mX1_partsOf).2.1 1 = .ok ((.iconst 2), 1) ∧ decode (mX1_partsOf).2.1 2 = .ok ((.if_icmp .eq 9), 3) ∧ decode (mX1_partsOf).2.1 5 = .ok ((.iload_n 0), 1) ∧ decode (mX1_partsOf).2.1 6 = .ok ((.bipush 36), 2) ∧ decode (mX1_partsOf).2.1 8 = .ok ((.if_icmp .lt 5), 3) := by decide +kernel
theorem dX1_partsOf_0 : Dc mX1_partsOf 0 (.iload_n 0) 1 1 := ⟨k_dX1_partsOf_0.1, rfl⟩
theorem dX1_partsOf_1 : Dc mX1_partsOf 1 (.iconst 2) 1 2 := ⟨k_dX1_partsOf_0.2.1, rfl⟩
theorem dX1_partsOf_2 : Dc mX1_partsOf 2 (.if_icmp .eq 9) 3 5 := ⟨k_dX1_partsOf_0.2.2.1, rfl⟩
theorem dX1_partsOf_5 : Dc mX1_partsOf 5 (.iload_n 0) 1 6 := ⟨k_dX1_partsOf_0.2.2.2.1, rfl⟩
theorem dX1_partsOf_6 : Dc mX1_partsOf 6 (.bipush 36) 2 8 := ⟨k_dX1_partsOf_0.2.2.2.2.1, rfl⟩
theorem dX1_partsOf_8 : Dc mX1_partsOf 8 (.if_icmp .lt 5) 3 11 := ⟨k_dX1_partsOf_0.2.2.2.2.2, rfl⟩
theorem k_dX1_partsOf_11 : decode (mX1_partsOf).2.1 11 = .ok ((.iconst 0), 1) ∧ decode (mX1_partsOf).2.1 12 = .ok ((.ireturn), 1) ∧ decode (mX1_partsOf).2.1 13 = .ok ((.iload_n 0), 1) ∧ decode (mX1_partsOf).2.1 14 = .ok ((.bipush 35), 2) ∧ decode (mX1_partsOf).2.1 16 = .ok ((.if_icmp .ne 7), 3) ∧ decode (mX1_partsOf).2.1 19 = .ok ((.iconst 1), 1) := by decide +kernel
theorem dX1_partsOf_11 : Dc mX1_partsOf 11 (.iconst 0) 1 12 := ⟨k_dX1_partsOf_11.1, rfl⟩
theorem dX1_partsOf_12 : Dc mX1_partsOf 12 (.ireturn) 1 13 := ⟨k_dX1_partsOf_11.2.1, rfl⟩
theorem dX1_partsOf_13 : Dc mX1_partsOf 13 (.iload_n 0) 1 14 := ⟨k_dX1_partsOf_11.2.2.1, rfl⟩
theorem dX1_partsOf_14 : Dc mX1_partsOf 14 (.bipush 35) 2 16 := ⟨k_dX1_partsOf_11.2.2.2.1, rfl⟩
theorem dX1_partsOf_16 : Dc mX1_partsOf 16 (.if_icmp .ne 7) 3 19 := ⟨k_dX1_partsOf_11.2.2.2.2.1, rfl⟩
theorem dX1_partsOf_19 : Dc mX1_partsOf 19 (.iconst 1) 1 20 := ⟨k_dX1_partsOf_11.2.2.2.2.2, rfl⟩
theorem k_dX1_partsOf_20 : decode (mX1_partsOf).2.1 20 = .ok ((.goto 4), 3) ∧ decode (mX1_partsOf).2.1 23 = .ok ((.iconst 2), 1) ∧ decode (mX1_partsOf).2.1 24 = .ok ((.ireturn), 1) := by decide +kernel
theorem dX1_partsOf_20 : Dc mX1_partsOf 20 (.goto 4) 3 23 := ⟨k_dX1_partsOf_20.1, rfl⟩
theorem dX1_partsOf_23 : Dc mX1_partsOf 23 (.iconst 2) 1 24 := ⟨k_dX1_partsOf_20.2.1, rfl⟩
theorem dX1_partsOf_24 : Dc mX1_partsOf 24 (.ireturn) 1 25 := ⟨k_dX1_partsOf_20.2.2, rfl⟩
theorem k_dX1_leaf_0 : decode (mX1_leaf).2.1 0 = .ok ((.iload_n 0), 1) ∧ decode (mX1_leaf).2.1 1 = .ok ((.bipush 36), 2) ∧ decode (mX1_leaf).2.1 3 = .ok ((.isub), 1) ∧ decode (mX1_leaf).2.1 4 = .ok ((.istore_n 3), 1) ∧ decode (mX1_leaf).2.1 5 = .ok ((.iload_n 3), 1) ∧ decode (mX1_leaf).2.1 6 = .ok ((.ifCond .lt 15), 3) := by decide +kernel
theorem dX1_leaf_0 : Dc mX1_leaf 0 (.iload_n 0) 1 1 := ⟨k_dX1_leaf_0.1, rfl⟩
theorem dX1_leaf_1 : Dc mX1_leaf 1 (.bipush 36) 2 3 := ⟨k_dX1_leaf_0.2.1, rfl⟩
theorem dX1_leaf_3 : Dc mX1_leaf 3 (.isub) 1 4 := ⟨k_dX1_leaf_0.2.2.1, rfl⟩
theorem dX1_leaf_4 : Dc mX1_leaf 4 (.istore_n 3) 1 5 := ⟨k_dX1_leaf_0.2.2.2.1, rfl⟩
theorem dX1_leaf_5 : Dc mX1_leaf 5 (.iload_n 3) 1 6 := ⟨k_dX1_leaf_0.2.2.2.2.1, rfl⟩
theorem dX1_leaf_6 : Dc mX1_leaf 6 (.ifCond .lt 15) 3 9 := ⟨k_dX1_leaf_0.2.2.2.2.2, rfl⟩
theorem k_dX1_leaf_9 : decode (mX1_leaf).2.1 9 = .ok ((.iload_n 3), 1) ∧ decode (mX1_leaf).2.1 10 = .ok ((.aload_n 2), 1) ∧ decode (mX1_leaf).2.1 11 = .ok ((.arraylength), 1) ∧ decode (mX1_leaf).2.1 12 = .ok ((.if_icmp .ge 9), 3) ∧ decode (mX1_leaf).2.1 15 = .ok ((.aload_n 2), 1) ∧ decode (mX1_leaf).2.1 16 = .ok ((.iload_n 3), 1) := by decide +kernel
theorem dX1_leaf_9 : Dc mX1_leaf 9 (.iload_n 3) 1 10 := ⟨k_dX1_leaf_9.1, rfl⟩
theorem dX1_leaf_10 : Dc mX1_leaf 10 (.aload_n 2) 1 11 := ⟨k_dX1_leaf_9.2.1, rfl⟩
theorem dX1_leaf_11 : Dc mX1_leaf 11 (.arraylength) 1 12 := ⟨k_dX1_leaf_9.2.2.1, rfl⟩
theorem dX1_leaf_12 : Dc mX1_leaf 12 (.if_icmp .ge 9) 3 15 := ⟨k_dX1_leaf_9.2.2.2.1, rfl⟩
theorem dX1_leaf_15 : Dc mX1_leaf 15 (.aload_n 2) 1 16 := ⟨k_dX1_leaf_9.2.2.2.2.1, rfl⟩
theorem dX1_leaf_16 : Dc mX1_leaf 16 (.iload_n 3) 1 17 := ⟨k_dX1_leaf_9.2.2.2.2.2, rfl⟩
theorem k_dX1_leaf_17 : decode (mX1_leaf).2.1 17 = .ok ((.laload), 1) ∧ decode (mX1_leaf).2.1 18 = .ok ((.goto 5), 3) ∧ decode (mX1_leaf).2.1 21 = .ok ((.iload_n 1), 1) ∧ decode (mX1_leaf).2.1 22 = .ok ((.i2l), 1) ∧ decode (mX1_leaf).2.1 23 = .ok ((.lreturn), 1) := by decide +kernel
theorem dX1_leaf_17 : Dc mX1_leaf 17 (.laload) 1 18 := ⟨k_dX1_leaf_17.1, rfl⟩
theorem dX1_leaf_18 : Dc mX1_leaf 18 (.goto 5) 3 21 := ⟨k_dX1_leaf_17.2.1, rfl⟩
theorem dX1_leaf_21 : Dc mX1_leaf 21 (.iload_n 1) 1 22 := ⟨k_dX1_leaf_17.2.2.1, rfl⟩
theorem dX1_leaf_22 : Dc mX1_leaf 22 (.i2l) 1 23 := ⟨k_dX1_leaf_17.2.2.2.1, rfl⟩
theorem dX1_leaf_23 : Dc mX1_leaf 23 (.lreturn) 1 24 := ⟨k_dX1_leaf_17.2.2.2.2, rfl⟩
theorem k_dX1_join_0 : decode (mX1_join).2.1 0 = .ok ((.iload_n 0), 1) ∧ decode (mX1_join).2.1 1 = .ok ((.tableswitch 316 7 34 #[127, 131, 135, 192, 208, 220, 232, 244, 256, 268, 316, 316, 316, 316, 316, 316, 316, 316, 316, 316, 316, 316, 316, 316, 316, 316, 298, 280]), 127) ∧ decode (mX1_join).2.1 128 = .ok ((.lload_n 1), 1) ∧ decode (mX1_join).2.1 129 = .ok ((.lload_n 3), 1) ∧ decode (mX1_join).2.1 130 = .ok ((.ladd), 1) ∧ decode (mX1_join).2.1 131 = .ok ((.lreturn), 1) := by decide +kernel
theorem dX1_join_0 : Dc mX1_join 0 (.iload_n 0) 1 1 := ⟨k_dX1_join_0.1, rfl⟩
theorem dX1_join_1 : Dc mX1_join 1 (.tableswitch 316 7 34 #[127, 131, 135, 192, 208, 220, 232, 244, 256, 268, 316, 316, 316, 316, 316, 316, 316, 316, 316, 316, 316, 316, 316, 316, 316, 316, 298, 280]) 127 128 := ⟨k_dX1_join_0.2.1, rfl⟩
theorem dX1_join_128 : Dc mX1_join 128 (.lload_n 1) 1 129 := ⟨k_dX1_join_0.2.2.1, rfl⟩
theorem dX1_join_129 : Dc mX1_join 129 (.lload_n 3) 1 130 := ⟨k_dX1_join_0.2.2.2.1, rfl⟩
theorem dX1_join_130 : Dc mX1_join 130 (.ladd) 1 131 := ⟨k_dX1_join_0.2.2.2.2.1, rfl⟩
theorem dX1_join_131 : Dc mX1_join 131 (.lreturn) 1 132 := ⟨k_dX1_join_0.2.2.2.2.2, rfl⟩
theorem k_dX1_join_132 : decode (mX1_join).2.1 132 = .ok ((.lload_n 1), 1) ∧ decode (mX1_join).2.1 133 = .ok ((.lload_n 3), 1) ∧ decode (mX1_join).2.1 134 = .ok ((.lsub), 1) ∧ decode (mX1_join).2.1 135 = .ok ((.lreturn), 1) ∧ decode (mX1_join).2.1 136 = .ok ((.lload_n 1), 1) ∧ decode (mX1_join).2.1 137 = .ok ((.lconst 0), 1) := by decide +kernel
theorem dX1_join_132 : Dc mX1_join 132 (.lload_n 1) 1 133 := ⟨k_dX1_join_132.1, rfl⟩
theorem dX1_join_133 : Dc mX1_join 133 (.lload_n 3) 1 134 := ⟨k_dX1_join_132.2.1, rfl⟩
theorem dX1_join_134 : Dc mX1_join 134 (.lsub) 1 135 := ⟨k_dX1_join_132.2.2.1, rfl⟩
theorem dX1_join_135 : Dc mX1_join 135 (.lreturn) 1 136 := ⟨k_dX1_join_132.2.2.2.1, rfl⟩
theorem dX1_join_136 : Dc mX1_join 136 (.lload_n 1) 1 137 := ⟨k_dX1_join_132.2.2.2.2.1, rfl⟩
theorem dX1_join_137 : Dc mX1_join 137 (.lconst 0) 1 138 := ⟨k_dX1_join_132.2.2.2.2.2, rfl⟩
theorem k_dX1_join_138 : decode (mX1_join).2.1 138 = .ok ((.lcmp), 1) ∧ decode (mX1_join).2.1 139 = .ok ((.ifCond .ge 8), 3) ∧ decode (mX1_join).2.1 142 = .ok ((.lload_n 1), 1) ∧ decode (mX1_join).2.1 143 = .ok ((.lneg), 1) ∧ decode (mX1_join).2.1 144 = .ok ((.goto 4), 3) ∧ decode (mX1_join).2.1 147 = .ok ((.lload_n 1), 1) := by decide +kernel
theorem dX1_join_138 : Dc mX1_join 138 (.lcmp) 1 139 := ⟨k_dX1_join_138.1, rfl⟩
theorem dX1_join_139 : Dc mX1_join 139 (.ifCond .ge 8) 3 142 := ⟨k_dX1_join_138.2.1, rfl⟩
theorem dX1_join_142 : Dc mX1_join 142 (.lload_n 1) 1 143 := ⟨k_dX1_join_138.2.2.1, rfl⟩
theorem dX1_join_143 : Dc mX1_join 143 (.lneg) 1 144 := ⟨k_dX1_join_138.2.2.2.1, rfl⟩
theorem dX1_join_144 : Dc mX1_join 144 (.goto 4) 3 147 := ⟨k_dX1_join_138.2.2.2.2.1, rfl⟩
theorem dX1_join_147 : Dc mX1_join 147 (.lload_n 1) 1 148 := ⟨k_dX1_join_138.2.2.2.2.2, rfl⟩
theorem k_dX1_join_148 : decode (mX1_join).2.1 148 = .ok ((.lstore 5), 2) ∧ decode (mX1_join).2.1 150 = .ok ((.lload_n 3), 1) ∧ decode (mX1_join).2.1 151 = .ok ((.lconst 0), 1) ∧ decode (mX1_join).2.1 152 = .ok ((.lcmp), 1) ∧ decode (mX1_join).2.1 153 = .ok ((.ifCond .ge 8), 3) ∧ decode (mX1_join).2.1 156 = .ok ((.lload_n 3), 1) := by decide +kernel
theorem dX1_join_148 : Dc mX1_join 148 (.lstore 5) 2 150 := ⟨k_dX1_join_148.1, rfl⟩
theorem dX1_join_150 : Dc mX1_join 150 (.lload_n 3) 1 151 := ⟨k_dX1_join_148.2.1, rfl⟩
theorem dX1_join_151 : Dc mX1_join 151 (.lconst 0) 1 152 := ⟨k_dX1_join_148.2.2.1, rfl⟩
theorem dX1_join_152 : Dc mX1_join 152 (.lcmp) 1 153 := ⟨k_dX1_join_148.2.2.2.1, rfl⟩
theorem dX1_join_153 : Dc mX1_join 153 (.ifCond .ge 8) 3 156 := ⟨k_dX1_join_148.2.2.2.2.1, rfl⟩
theorem dX1_join_156 : Dc mX1_join 156 (.lload_n 3) 1 157 := ⟨k_dX1_join_148.2.2.2.2.2, rfl⟩
theorem k_dX1_join_157 : decode (mX1_join).2.1 157 = .ok ((.lneg), 1) ∧ decode (mX1_join).2.1 158 = .ok ((.goto 4), 3) ∧ decode (mX1_join).2.1 161 = .ok ((.lload_n 3), 1) ∧ decode (mX1_join).2.1 162 = .ok ((.lstore 7), 2) ∧ decode (mX1_join).2.1 164 = .ok ((.lload 5), 2) ∧ decode (mX1_join).2.1 166 = .ok ((.lconst 0), 1) := by decide +kernel
theorem dX1_join_157 : Dc mX1_join 157 (.lneg) 1 158 := ⟨k_dX1_join_157.1, rfl⟩
theorem dX1_join_158 : Dc mX1_join 158 (.goto 4) 3 161 := ⟨k_dX1_join_157.2.1, rfl⟩
theorem dX1_join_161 : Dc mX1_join 161 (.lload_n 3) 1 162 := ⟨k_dX1_join_157.2.2.1, rfl⟩
theorem dX1_join_162 : Dc mX1_join 162 (.lstore 7) 2 164 := ⟨k_dX1_join_157.2.2.2.1, rfl⟩
theorem dX1_join_164 : Dc mX1_join 164 (.lload 5) 2 166 := ⟨k_dX1_join_157.2.2.2.2.1, rfl⟩
theorem dX1_join_166 : Dc mX1_join 166 (.lconst 0) 1 167 := ⟨k_dX1_join_157.2.2.2.2.2, rfl⟩
theorem k_dX1_join_167 : decode (mX1_join).2.1 167 = .ok ((.lcmp), 1) ∧ decode (mX1_join).2.1 168 = .ok ((.ifCond .eq 21), 3) ∧ decode (mX1_join).2.1 171 = .ok ((.lload 7), 2) ∧ decode (mX1_join).2.1 173 = .ok ((.ldc2_w 54), 3) ∧ decode (mX1_join).2.1 176 = .ok ((.lload 5), 2) ∧ decode (mX1_join).2.1 178 = .ok ((.ldiv), 1) := by decide +kernel
theorem dX1_join_167 : Dc mX1_join 167 (.lcmp) 1 168 := ⟨k_dX1_join_167.1, rfl⟩
theorem dX1_join_168 : Dc mX1_join 168 (.ifCond .eq 21) 3 171 := ⟨k_dX1_join_167.2.1, rfl⟩
theorem dX1_join_171 : Dc mX1_join 171 (.lload 7) 2 173 := ⟨k_dX1_join_167.2.2.1, rfl⟩
theorem dX1_join_173 : Dc mX1_join 173 (.ldc2_w 54) 3 176 := ⟨k_dX1_join_167.2.2.2.1, rfl⟩
theorem dX1_join_176 : Dc mX1_join 176 (.lload 5) 2 178 := ⟨k_dX1_join_167.2.2.2.2.1, rfl⟩
theorem dX1_join_178 : Dc mX1_join 178 (.ldiv) 1 179 := ⟨k_dX1_join_167.2.2.2.2.2, rfl⟩
theorem k_dX1_join_179 : decode (mX1_join).2.1 179 = .ok ((.lcmp), 1) ∧ decode (mX1_join).2.1 180 = .ok ((.ifCond .le 9), 3) ∧ decode (mX1_join).2.1 183 = .ok ((.ldc2_w 58), 3) ∧ decode (mX1_join).2.1 186 = .ok ((.goto 6), 3) ∧ decode (mX1_join).2.1 189 = .ok ((.lload_n 1), 1) ∧ decode (mX1_join).2.1 190 = .ok ((.lload_n 3), 1) := by decide +kernel
theorem dX1_join_179 : Dc mX1_join 179 (.lcmp) 1 180 := ⟨k_dX1_join_179.1, rfl⟩
theorem dX1_join_180 : Dc mX1_join 180 (.ifCond .le 9) 3 183 := ⟨k_dX1_join_179.2.1, rfl⟩
theorem dX1_join_183 : Dc mX1_join 183 (.ldc2_w 58) 3 186 := ⟨k_dX1_join_179.2.2.1, rfl⟩
theorem dX1_join_186 : Dc mX1_join 186 (.goto 6) 3 189 := ⟨k_dX1_join_179.2.2.2.1, rfl⟩
theorem dX1_join_189 : Dc mX1_join 189 (.lload_n 1) 1 190 := ⟨k_dX1_join_179.2.2.2.2.1, rfl⟩
theorem dX1_join_190 : Dc mX1_join 190 (.lload_n 3) 1 191 := ⟨k_dX1_join_179.2.2.2.2.2, rfl⟩
theorem k_dX1_join_191 : decode (mX1_join).2.1 191 = .ok ((.lmul), 1) ∧ decode (mX1_join).2.1 192 = .ok ((.lreturn), 1) ∧ decode (mX1_join).2.1 193 = .ok ((.lload_n 3), 1) ∧ decode (mX1_join).2.1 194 = .ok ((.lconst 0), 1) ∧ decode (mX1_join).2.1 195 = .ok ((.lcmp), 1) ∧ decode (mX1_join).2.1 196 = .ok ((.ifCond .ne 9), 3) := by decide +kernel
theorem dX1_join_191 : Dc mX1_join 191 (.lmul) 1 192 := ⟨k_dX1_join_191.1, rfl⟩
theorem dX1_join_192 : Dc mX1_join 192 (.lreturn) 1 193 := ⟨k_dX1_join_191.2.1, rfl⟩
theorem dX1_join_193 : Dc mX1_join 193 (.lload_n 3) 1 194 := ⟨k_dX1_join_191.2.2.1, rfl⟩
theorem dX1_join_194 : Dc mX1_join 194 (.lconst 0) 1 195 := ⟨k_dX1_join_191.2.2.2.1, rfl⟩
theorem dX1_join_195 : Dc mX1_join 195 (.lcmp) 1 196 := ⟨k_dX1_join_191.2.2.2.2.1, rfl⟩
theorem dX1_join_196 : Dc mX1_join 196 (.ifCond .ne 9) 3 199 := ⟨k_dX1_join_191.2.2.2.2.2, rfl⟩
theorem k_dX1_join_199 : decode (mX1_join).2.1 199 = .ok ((.ldc2_w 58), 3) ∧ decode (mX1_join).2.1 202 = .ok ((.goto 6), 3) ∧ decode (mX1_join).2.1 205 = .ok ((.lload_n 1), 1) ∧ decode (mX1_join).2.1 206 = .ok ((.lload_n 3), 1) ∧ decode (mX1_join).2.1 207 = .ok ((.ldiv), 1) ∧ decode (mX1_join).2.1 208 = .ok ((.lreturn), 1) := by decide +kernel
theorem dX1_join_199 : Dc mX1_join 199 (.ldc2_w 58) 3 202 := ⟨k_dX1_join_199.1, rfl⟩
theorem dX1_join_202 : Dc mX1_join 202 (.goto 6) 3 205 := ⟨k_dX1_join_199.2.1, rfl⟩
theorem dX1_join_205 : Dc mX1_join 205 (.lload_n 1) 1 206 := ⟨k_dX1_join_199.2.2.1, rfl⟩
theorem dX1_join_206 : Dc mX1_join 206 (.lload_n 3) 1 207 := ⟨k_dX1_join_199.2.2.2.1, rfl⟩
theorem dX1_join_207 : Dc mX1_join 207 (.ldiv) 1 208 := ⟨k_dX1_join_199.2.2.2.2.1, rfl⟩
theorem dX1_join_208 : Dc mX1_join 208 (.lreturn) 1 209 := ⟨k_dX1_join_199.2.2.2.2.2, rfl⟩
theorem k_dX1_join_209 : decode (mX1_join).2.1 209 = .ok ((.lload_n 1), 1) ∧ decode (mX1_join).2.1 210 = .ok ((.lload_n 3), 1) ∧ decode (mX1_join).2.1 211 = .ok ((.lcmp), 1) ∧ decode (mX1_join).2.1 212 = .ok ((.ifCond .ge 7), 3) ∧ decode (mX1_join).2.1 215 = .ok ((.lconst 1), 1) ∧ decode (mX1_join).2.1 216 = .ok ((.goto 4), 3) := by decide +kernel
theorem dX1_join_209 : Dc mX1_join 209 (.lload_n 1) 1 210 := ⟨k_dX1_join_209.1, rfl⟩
theorem dX1_join_210 : Dc mX1_join 210 (.lload_n 3) 1 211 := ⟨k_dX1_join_209.2.1, rfl⟩
theorem dX1_join_211 : Dc mX1_join 211 (.lcmp) 1 212 := ⟨k_dX1_join_209.2.2.1, rfl⟩
theorem dX1_join_212 : Dc mX1_join 212 (.ifCond .ge 7) 3 215 := ⟨k_dX1_join_209.2.2.2.1, rfl⟩
theorem dX1_join_215 : Dc mX1_join 215 (.lconst 1) 1 216 := ⟨k_dX1_join_209.2.2.2.2.1, rfl⟩
theorem dX1_join_216 : Dc mX1_join 216 (.goto 4) 3 219 := ⟨k_dX1_join_209.2.2.2.2.2, rfl⟩
theorem k_dX1_join_219 : decode (mX1_join).2.1 219 = .ok ((.lconst 0), 1) ∧ decode (mX1_join).2.1 220 = .ok ((.lreturn), 1) ∧ decode (mX1_join).2.1 221 = .ok ((.lload_n 1), 1) ∧ decode (mX1_join).2.1 222 = .ok ((.lload_n 3), 1) ∧ decode (mX1_join).2.1 223 = .ok ((.lcmp), 1) ∧ decode (mX1_join).2.1 224 = .ok ((.ifCond .gt 7), 3) := by decide +kernel
theorem dX1_join_219 : Dc mX1_join 219 (.lconst 0) 1 220 := ⟨k_dX1_join_219.1, rfl⟩
theorem dX1_join_220 : Dc mX1_join 220 (.lreturn) 1 221 := ⟨k_dX1_join_219.2.1, rfl⟩
theorem dX1_join_221 : Dc mX1_join 221 (.lload_n 1) 1 222 := ⟨k_dX1_join_219.2.2.1, rfl⟩
theorem dX1_join_222 : Dc mX1_join 222 (.lload_n 3) 1 223 := ⟨k_dX1_join_219.2.2.2.1, rfl⟩
theorem dX1_join_223 : Dc mX1_join 223 (.lcmp) 1 224 := ⟨k_dX1_join_219.2.2.2.2.1, rfl⟩
theorem dX1_join_224 : Dc mX1_join 224 (.ifCond .gt 7) 3 227 := ⟨k_dX1_join_219.2.2.2.2.2, rfl⟩
theorem k_dX1_join_227 : decode (mX1_join).2.1 227 = .ok ((.lconst 1), 1) ∧ decode (mX1_join).2.1 228 = .ok ((.goto 4), 3) ∧ decode (mX1_join).2.1 231 = .ok ((.lconst 0), 1) ∧ decode (mX1_join).2.1 232 = .ok ((.lreturn), 1) ∧ decode (mX1_join).2.1 233 = .ok ((.lload_n 1), 1) ∧ decode (mX1_join).2.1 234 = .ok ((.lload_n 3), 1) := by decide +kernel
theorem dX1_join_227 : Dc mX1_join 227 (.lconst 1) 1 228 := ⟨k_dX1_join_227.1, rfl⟩
theorem dX1_join_228 : Dc mX1_join 228 (.goto 4) 3 231 := ⟨k_dX1_join_227.2.1, rfl⟩
theorem dX1_join_231 : Dc mX1_join 231 (.lconst 0) 1 232 := ⟨k_dX1_join_227.2.2.1, rfl⟩
theorem dX1_join_232 : Dc mX1_join 232 (.lreturn) 1 233 := ⟨k_dX1_join_227.2.2.2.1, rfl⟩
theorem dX1_join_233 : Dc mX1_join 233 (.lload_n 1) 1 234 := ⟨k_dX1_join_227.2.2.2.2.1, rfl⟩
theorem dX1_join_234 : Dc mX1_join 234 (.lload_n 3) 1 235 := ⟨k_dX1_join_227.2.2.2.2.2, rfl⟩
theorem k_dX1_join_235 : decode (mX1_join).2.1 235 = .ok ((.lcmp), 1) ∧ decode (mX1_join).2.1 236 = .ok ((.ifCond .ne 7), 3) ∧ decode (mX1_join).2.1 239 = .ok ((.lconst 1), 1) ∧ decode (mX1_join).2.1 240 = .ok ((.goto 4), 3) ∧ decode (mX1_join).2.1 243 = .ok ((.lconst 0), 1) ∧ decode (mX1_join).2.1 244 = .ok ((.lreturn), 1) := by decide +kernel
theorem dX1_join_235 : Dc mX1_join 235 (.lcmp) 1 236 := ⟨k_dX1_join_235.1, rfl⟩
theorem dX1_join_236 : Dc mX1_join 236 (.ifCond .ne 7) 3 239 := ⟨k_dX1_join_235.2.1, rfl⟩
theorem dX1_join_239 : Dc mX1_join 239 (.lconst 1) 1 240 := ⟨k_dX1_join_235.2.2.1, rfl⟩
theorem dX1_join_240 : Dc mX1_join 240 (.goto 4) 3 243 := ⟨k_dX1_join_235.2.2.2.1, rfl⟩
theorem dX1_join_243 : Dc mX1_join 243 (.lconst 0) 1 244 := ⟨k_dX1_join_235.2.2.2.2.1, rfl⟩
theorem dX1_join_244 : Dc mX1_join 244 (.lreturn) 1 245 := ⟨k_dX1_join_235.2.2.2.2.2, rfl⟩
theorem k_dX1_join_245 : decode (mX1_join).2.1 245 = .ok ((.lload_n 1), 1) ∧ decode (mX1_join).2.1 246 = .ok ((.lload_n 3), 1) ∧ decode (mX1_join).2.1 247 = .ok ((.lcmp), 1) ∧ decode (mX1_join).2.1 248 = .ok ((.ifCond .eq 7), 3) ∧ decode (mX1_join).2.1 251 = .ok ((.lconst 1), 1) ∧ decode (mX1_join).2.1 252 = .ok ((.goto 4), 3) := by decide +kernel
theorem dX1_join_245 : Dc mX1_join 245 (.lload_n 1) 1 246 := ⟨k_dX1_join_245.1, rfl⟩
theorem dX1_join_246 : Dc mX1_join 246 (.lload_n 3) 1 247 := ⟨k_dX1_join_245.2.1, rfl⟩
theorem dX1_join_247 : Dc mX1_join 247 (.lcmp) 1 248 := ⟨k_dX1_join_245.2.2.1, rfl⟩
theorem dX1_join_248 : Dc mX1_join 248 (.ifCond .eq 7) 3 251 := ⟨k_dX1_join_245.2.2.2.1, rfl⟩
theorem dX1_join_251 : Dc mX1_join 251 (.lconst 1) 1 252 := ⟨k_dX1_join_245.2.2.2.2.1, rfl⟩
theorem dX1_join_252 : Dc mX1_join 252 (.goto 4) 3 255 := ⟨k_dX1_join_245.2.2.2.2.2, rfl⟩
theorem k_dX1_join_255 : decode (mX1_join).2.1 255 = .ok ((.lconst 0), 1) ∧ decode (mX1_join).2.1 256 = .ok ((.lreturn), 1) ∧ decode (mX1_join).2.1 257 = .ok ((.lload_n 1), 1) ∧ decode (mX1_join).2.1 258 = .ok ((.lload_n 3), 1) ∧ decode (mX1_join).2.1 259 = .ok ((.lcmp), 1) ∧ decode (mX1_join).2.1 260 = .ok ((.ifCond .lt 7), 3) := by decide +kernel
theorem dX1_join_255 : Dc mX1_join 255 (.lconst 0) 1 256 := ⟨k_dX1_join_255.1, rfl⟩
theorem dX1_join_256 : Dc mX1_join 256 (.lreturn) 1 257 := ⟨k_dX1_join_255.2.1, rfl⟩
theorem dX1_join_257 : Dc mX1_join 257 (.lload_n 1) 1 258 := ⟨k_dX1_join_255.2.2.1, rfl⟩
theorem dX1_join_258 : Dc mX1_join 258 (.lload_n 3) 1 259 := ⟨k_dX1_join_255.2.2.2.1, rfl⟩
theorem dX1_join_259 : Dc mX1_join 259 (.lcmp) 1 260 := ⟨k_dX1_join_255.2.2.2.2.1, rfl⟩
theorem dX1_join_260 : Dc mX1_join 260 (.ifCond .lt 7) 3 263 := ⟨k_dX1_join_255.2.2.2.2.2, rfl⟩
theorem k_dX1_join_263 : decode (mX1_join).2.1 263 = .ok ((.lconst 1), 1) ∧ decode (mX1_join).2.1 264 = .ok ((.goto 4), 3) ∧ decode (mX1_join).2.1 267 = .ok ((.lconst 0), 1) ∧ decode (mX1_join).2.1 268 = .ok ((.lreturn), 1) ∧ decode (mX1_join).2.1 269 = .ok ((.lload_n 1), 1) ∧ decode (mX1_join).2.1 270 = .ok ((.lload_n 3), 1) := by decide +kernel
theorem dX1_join_263 : Dc mX1_join 263 (.lconst 1) 1 264 := ⟨k_dX1_join_263.1, rfl⟩
theorem dX1_join_264 : Dc mX1_join 264 (.goto 4) 3 267 := ⟨k_dX1_join_263.2.1, rfl⟩
theorem dX1_join_267 : Dc mX1_join 267 (.lconst 0) 1 268 := ⟨k_dX1_join_263.2.2.1, rfl⟩
theorem dX1_join_268 : Dc mX1_join 268 (.lreturn) 1 269 := ⟨k_dX1_join_263.2.2.2.1, rfl⟩
theorem dX1_join_269 : Dc mX1_join 269 (.lload_n 1) 1 270 := ⟨k_dX1_join_263.2.2.2.2.1, rfl⟩
theorem dX1_join_270 : Dc mX1_join 270 (.lload_n 3) 1 271 := ⟨k_dX1_join_263.2.2.2.2.2, rfl⟩
theorem k_dX1_join_271 : decode (mX1_join).2.1 271 = .ok ((.lcmp), 1) ∧ decode (mX1_join).2.1 272 = .ok ((.ifCond .le 7), 3) ∧ decode (mX1_join).2.1 275 = .ok ((.lconst 1), 1) ∧ decode (mX1_join).2.1 276 = .ok ((.goto 4), 3) ∧ decode (mX1_join).2.1 279 = .ok ((.lconst 0), 1) ∧ decode (mX1_join).2.1 280 = .ok ((.lreturn), 1) := by decide +kernel
theorem dX1_join_271 : Dc mX1_join 271 (.lcmp) 1 272 := ⟨k_dX1_join_271.1, rfl⟩
theorem dX1_join_272 : Dc mX1_join 272 (.ifCond .le 7) 3 275 := ⟨k_dX1_join_271.2.1, rfl⟩
theorem dX1_join_275 : Dc mX1_join 275 (.lconst 1) 1 276 := ⟨k_dX1_join_271.2.2.1, rfl⟩
theorem dX1_join_276 : Dc mX1_join 276 (.goto 4) 3 279 := ⟨k_dX1_join_271.2.2.2.1, rfl⟩
theorem dX1_join_279 : Dc mX1_join 279 (.lconst 0) 1 280 := ⟨k_dX1_join_271.2.2.2.2.1, rfl⟩
theorem dX1_join_280 : Dc mX1_join 280 (.lreturn) 1 281 := ⟨k_dX1_join_271.2.2.2.2.2, rfl⟩
theorem k_dX1_join_281 : decode (mX1_join).2.1 281 = .ok ((.lload_n 1), 1) ∧ decode (mX1_join).2.1 282 = .ok ((.lconst 0), 1) ∧ decode (mX1_join).2.1 283 = .ok ((.lcmp), 1) ∧ decode (mX1_join).2.1 284 = .ok ((.ifCond .eq 13), 3) ∧ decode (mX1_join).2.1 287 = .ok ((.lload_n 3), 1) ∧ decode (mX1_join).2.1 288 = .ok ((.lconst 0), 1) := by decide +kernel
theorem dX1_join_281 : Dc mX1_join 281 (.lload_n 1) 1 282 := ⟨k_dX1_join_281.1, rfl⟩
theorem dX1_join_282 : Dc mX1_join 282 (.lconst 0) 1 283 := ⟨k_dX1_join_281.2.1, rfl⟩
theorem dX1_join_283 : Dc mX1_join 283 (.lcmp) 1 284 := ⟨k_dX1_join_281.2.2.1, rfl⟩
theorem dX1_join_284 : Dc mX1_join 284 (.ifCond .eq 13) 3 287 := ⟨k_dX1_join_281.2.2.2.1, rfl⟩
theorem dX1_join_287 : Dc mX1_join 287 (.lload_n 3) 1 288 := ⟨k_dX1_join_281.2.2.2.2.1, rfl⟩
theorem dX1_join_288 : Dc mX1_join 288 (.lconst 0) 1 289 := ⟨k_dX1_join_281.2.2.2.2.2, rfl⟩
theorem k_dX1_join_289 : decode (mX1_join).2.1 289 = .ok ((.lcmp), 1) ∧ decode (mX1_join).2.1 290 = .ok ((.ifCond .eq 7), 3) ∧ decode (mX1_join).2.1 293 = .ok ((.lconst 1), 1) ∧ decode (mX1_join).2.1 294 = .ok ((.goto 4), 3) ∧ decode (mX1_join).2.1 297 = .ok ((.lconst 0), 1) ∧ decode (mX1_join).2.1 298 = .ok ((.lreturn), 1) := by decide +kernel
theorem dX1_join_289 : Dc mX1_join 289 (.lcmp) 1 290 := ⟨k_dX1_join_289.1, rfl⟩
theorem dX1_join_290 : Dc mX1_join 290 (.ifCond .eq 7) 3 293 := ⟨k_dX1_join_289.2.1, rfl⟩
theorem dX1_join_293 : Dc mX1_join 293 (.lconst 1) 1 294 := ⟨k_dX1_join_289.2.2.1, rfl⟩
theorem dX1_join_294 : Dc mX1_join 294 (.goto 4) 3 297 := ⟨k_dX1_join_289.2.2.2.1, rfl⟩
theorem dX1_join_297 : Dc mX1_join 297 (.lconst 0) 1 298 := ⟨k_dX1_join_289.2.2.2.2.1, rfl⟩
theorem dX1_join_298 : Dc mX1_join 298 (.lreturn) 1 299 := ⟨k_dX1_join_289.2.2.2.2.2, rfl⟩
theorem k_dX1_join_299 : decode (mX1_join).2.1 299 = .ok ((.lload_n 1), 1) ∧ decode (mX1_join).2.1 300 = .ok ((.lconst 0), 1) ∧ decode (mX1_join).2.1 301 = .ok ((.lcmp), 1) ∧ decode (mX1_join).2.1 302 = .ok ((.ifCond .ne 9), 3) ∧ decode (mX1_join).2.1 305 = .ok ((.lload_n 3), 1) ∧ decode (mX1_join).2.1 306 = .ok ((.lconst 0), 1) := by decide +kernel
theorem dX1_join_299 : Dc mX1_join 299 (.lload_n 1) 1 300 := ⟨k_dX1_join_299.1, rfl⟩
theorem dX1_join_300 : Dc mX1_join 300 (.lconst 0) 1 301 := ⟨k_dX1_join_299.2.1, rfl⟩
theorem dX1_join_301 : Dc mX1_join 301 (.lcmp) 1 302 := ⟨k_dX1_join_299.2.2.1, rfl⟩
theorem dX1_join_302 : Dc mX1_join 302 (.ifCond .ne 9) 3 305 := ⟨k_dX1_join_299.2.2.2.1, rfl⟩
theorem dX1_join_305 : Dc mX1_join 305 (.lload_n 3) 1 306 := ⟨k_dX1_join_299.2.2.2.2.1, rfl⟩
theorem dX1_join_306 : Dc mX1_join 306 (.lconst 0) 1 307 := ⟨k_dX1_join_299.2.2.2.2.2, rfl⟩
theorem k_dX1_join_307 : decode (mX1_join).2.1 307 = .ok ((.lcmp), 1) ∧ decode (mX1_join).2.1 308 = .ok ((.ifCond .eq 7), 3) ∧ decode (mX1_join).2.1 311 = .ok ((.lconst 1), 1) ∧ decode (mX1_join).2.1 312 = .ok ((.goto 4), 3) ∧ decode (mX1_join).2.1 315 = .ok ((.lconst 0), 1) ∧ decode (mX1_join).2.1 316 = .ok ((.lreturn), 1) := by decide +kernel
theorem dX1_join_307 : Dc mX1_join 307 (.lcmp) 1 308 := ⟨k_dX1_join_307.1, rfl⟩
theorem dX1_join_308 : Dc mX1_join 308 (.ifCond .eq 7) 3 311 := ⟨k_dX1_join_307.2.1, rfl⟩
theorem dX1_join_311 : Dc mX1_join 311 (.lconst 1) 1 312 := ⟨k_dX1_join_307.2.2.1, rfl⟩
theorem dX1_join_312 : Dc mX1_join 312 (.goto 4) 3 315 := ⟨k_dX1_join_307.2.2.2.1, rfl⟩
theorem dX1_join_315 : Dc mX1_join 315 (.lconst 0) 1 316 := ⟨k_dX1_join_307.2.2.2.2.1, rfl⟩
theorem dX1_join_316 : Dc mX1_join 316 (.lreturn) 1 317 := ⟨k_dX1_join_307.2.2.2.2.2, rfl⟩
theorem k_dX1_join_317 : decode (mX1_join).2.1 317 = .ok ((.ldc2_w 58), 3) ∧ decode (mX1_join).2.1 320 = .ok ((.lreturn), 1) := by decide +kernel
theorem dX1_join_317 : Dc mX1_join 317 (.ldc2_w 58) 3 320 := ⟨k_dX1_join_317.1, rfl⟩
theorem dX1_join_320 : Dc mX1_join 320 (.lreturn) 1 321 := ⟨k_dX1_join_317.2, rfl⟩
theorem k_dX2_init_0 : decode (mX2_init).2.1 0 = .ok ((.aload_n 0), 1) ∧ decode (mX2_init).2.1 1 = .ok ((.invokespecial 3), 3) ∧ decode (mX2_init).2.1 4 = .ok ((.aload_n 0), 1) ∧ decode (mX2_init).2.1 5 = .ok ((.bipush 6), 2) ∧ decode (mX2_init).2.1 7 = .ok ((.newarray .int), 2) ∧ decode (mX2_init).2.1 9 = .ok ((.putfield 9), 3) := by decide +kernel
theorem dX2_init_0 : Dc mX2_init 0 (.aload_n 0) 1 1 := ⟨k_dX2_init_0.1, rfl⟩
theorem dX2_init_1 : Dc mX2_init 1 (.invokespecial 3) 3 4 := ⟨k_dX2_init_0.2.1, rfl⟩
theorem dX2_init_4 : Dc mX2_init 4 (.aload_n 0) 1 5 := ⟨k_dX2_init_0.2.2.1, rfl⟩
theorem dX2_init_5 : Dc mX2_init 5 (.bipush 6) 2 7 := ⟨k_dX2_init_0.2.2.2.1, rfl⟩
theorem dX2_init_7 : Dc mX2_init 7 (.newarray .int) 2 9 := ⟨k_dX2_init_0.2.2.2.2.1, rfl⟩
theorem dX2_init_9 : Dc mX2_init 9 (.putfield 9) 3 12 := ⟨k_dX2_init_0.2.2.2.2.2, rfl⟩
theorem k_dX2_init_12 : decode (mX2_init).2.1 12 = .ok ((.aload_n 0), 1) ∧ decode (mX2_init).2.1 13 = .ok ((.iconst 0), 1) ∧ decode (mX2_init).2.1 14 = .ok ((.putfield 15), 3) ∧ decode (mX2_init).2.1 17 = .ok ((.aload_n 0), 1) ∧ decode (mX2_init).2.1 18 = .ok ((.bipush 6), 2) ∧ decode (mX2_init).2.1 20 = .ok ((.newarray .int), 2) := by decide +kernel
theorem dX2_init_12 : Dc mX2_init 12 (.aload_n 0) 1 13 := ⟨k_dX2_init_12.1, rfl⟩
theorem dX2_init_13 : Dc mX2_init 13 (.iconst 0) 1 14 := ⟨k_dX2_init_12.2.1, rfl⟩
theorem dX2_init_14 : Dc mX2_init 14 (.putfield 15) 3 17 := ⟨k_dX2_init_12.2.2.1, rfl⟩
theorem dX2_init_17 : Dc mX2_init 17 (.aload_n 0) 1 18 := ⟨k_dX2_init_12.2.2.2.1, rfl⟩
theorem dX2_init_18 : Dc mX2_init 18 (.bipush 6) 2 20 := ⟨k_dX2_init_12.2.2.2.2.1, rfl⟩
theorem dX2_init_20 : Dc mX2_init 20 (.newarray .int) 2 22 := ⟨k_dX2_init_12.2.2.2.2.2, rfl⟩
theorem k_dX2_init_22 : decode (mX2_init).2.1 22 = .ok ((.putfield 19), 3) ∧ decode (mX2_init).2.1 25 = .ok ((.aload_n 0), 1) ∧ decode (mX2_init).2.1 26 = .ok ((.bipush 36), 2) ∧ decode (mX2_init).2.1 28 = .ok ((.newarray .int), 2) ∧ decode (mX2_init).2.1 30 = .ok ((.putfield 22), 3) ∧ decode (mX2_init).2.1 33 = .ok ((.aload_n 0), 1) := by decide +kernel
theorem dX2_init_22 : Dc mX2_init 22 (.putfield 19) 3 25 := ⟨k_dX2_init_22.1, rfl⟩
theorem dX2_init_25 : Dc mX2_init 25 (.aload_n 0) 1 26 := ⟨k_dX2_init_22.2.1, rfl⟩
theorem dX2_init_26 : Dc mX2_init 26 (.bipush 36) 2 28 := ⟨k_dX2_init_22.2.2.1, rfl⟩
theorem dX2_init_28 : Dc mX2_init 28 (.newarray .int) 2 30 := ⟨k_dX2_init_22.2.2.2.1, rfl⟩
theorem dX2_init_30 : Dc mX2_init 30 (.putfield 22) 3 33 := ⟨k_dX2_init_22.2.2.2.2.1, rfl⟩
theorem dX2_init_33 : Dc mX2_init 33 (.aload_n 0) 1 34 := ⟨k_dX2_init_22.2.2.2.2.2, rfl⟩
theorem k_dX2_init_34 : decode (mX2_init).2.1 34 = .ok ((.aload_n 1), 1) ∧ decode (mX2_init).2.1 35 = .ok ((.putfield 25), 3) ∧ decode (mX2_init).2.1 38 = .ok ((.return_), 1) := by decide +kernel
theorem dX2_init_34 : Dc mX2_init 34 (.aload_n 1) 1 35 := ⟨k_dX2_init_34.1, rfl⟩
theorem dX2_init_35 : Dc mX2_init 35 (.putfield 25) 3 38 := ⟨k_dX2_init_34.2.1, rfl⟩
theorem dX2_init_38 : Dc mX2_init 38 (.return_) 1 39 := ⟨k_dX2_init_34.2.2, rfl⟩
theorem k_dX2_work_0 : decode (mX2_work).2.1 0 = .ok ((.iconst 0), 1) ∧ decode (mX2_work).2.1 1 = .ok ((.istore_n 2), 1) ∧ decode (mX2_work).2.1 2 = .ok ((.iload_n 2), 1) ∧ decode (mX2_work).2.1 3 = .ok ((.bipush 6), 2) ∧ decode (mX2_work).2.1 5 = .ok ((.if_icmp .ge 42), 3) ∧ decode (mX2_work).2.1 8 = .ok ((.iconst 0), 1) := by decide +kernel
theorem dX2_work_0 : Dc mX2_work 0 (.iconst 0) 1 1 := ⟨k_dX2_work_0.1, rfl⟩
theorem dX2_work_1 : Dc mX2_work 1 (.istore_n 2) 1 2 := ⟨k_dX2_work_0.2.1, rfl⟩
theorem dX2_work_2 : Dc mX2_work 2 (.iload_n 2) 1 3 := ⟨k_dX2_work_0.2.2.1, rfl⟩
theorem dX2_work_3 : Dc mX2_work 3 (.bipush 6) 2 5 := ⟨k_dX2_work_0.2.2.2.1, rfl⟩
theorem dX2_work_5 : Dc mX2_work 5 (.if_icmp .ge 42) 3 8 := ⟨k_dX2_work_0.2.2.2.2.1, rfl⟩
theorem dX2_work_8 : Dc mX2_work 8 (.iconst 0) 1 9 := ⟨k_dX2_work_0.2.2.2.2.2, rfl⟩
theorem k_dX2_work_9 : decode (mX2_work).2.1 9 = .ok ((.istore_n 3), 1) ∧ decode (mX2_work).2.1 10 = .ok ((.iload_n 3), 1) ∧ decode (mX2_work).2.1 11 = .ok ((.bipush 6), 2) ∧ decode (mX2_work).2.1 13 = .ok ((.if_icmp .ge 28), 3) ∧ decode (mX2_work).2.1 16 = .ok ((.aload_n 0), 1) ∧ decode (mX2_work).2.1 17 = .ok ((.getfield 22), 3) := by decide +kernel
theorem dX2_work_9 : Dc mX2_work 9 (.istore_n 3) 1 10 := ⟨k_dX2_work_9.1, rfl⟩
theorem dX2_work_10 : Dc mX2_work 10 (.iload_n 3) 1 11 := ⟨k_dX2_work_9.2.1, rfl⟩
theorem dX2_work_11 : Dc mX2_work 11 (.bipush 6) 2 13 := ⟨k_dX2_work_9.2.2.1, rfl⟩
theorem dX2_work_13 : Dc mX2_work 13 (.if_icmp .ge 28) 3 16 := ⟨k_dX2_work_9.2.2.2.1, rfl⟩
theorem dX2_work_16 : Dc mX2_work 16 (.aload_n 0) 1 17 := ⟨k_dX2_work_9.2.2.2.2.1, rfl⟩
theorem dX2_work_17 : Dc mX2_work 17 (.getfield 22) 3 20 := ⟨k_dX2_work_9.2.2.2.2.2, rfl⟩
theorem k_dX2_work_20 : decode (mX2_work).2.1 20 = .ok ((.iload_n 2), 1) ∧ decode (mX2_work).2.1 21 = .ok ((.bipush 6), 2) ∧ decode (mX2_work).2.1 23 = .ok ((.imul), 1) ∧ decode (mX2_work).2.1 24 = .ok ((.iload_n 3), 1) ∧ decode (mX2_work).2.1 25 = .ok ((.iadd), 1) ∧ decode (mX2_work).2.1 26 = .ok ((.aload_n 1), 1) := by decide +kernel
theorem dX2_work_20 : Dc mX2_work 20 (.iload_n 2) 1 21 := ⟨k_dX2_work_20.1, rfl⟩
theorem dX2_work_21 : Dc mX2_work 21 (.bipush 6) 2 23 := ⟨k_dX2_work_20.2.1, rfl⟩
theorem dX2_work_23 : Dc mX2_work 23 (.imul) 1 24 := ⟨k_dX2_work_20.2.2.1, rfl⟩
theorem dX2_work_24 : Dc mX2_work 24 (.iload_n 3) 1 25 := ⟨k_dX2_work_20.2.2.2.1, rfl⟩
theorem dX2_work_25 : Dc mX2_work 25 (.iadd) 1 26 := ⟨k_dX2_work_20.2.2.2.2.1, rfl⟩
theorem dX2_work_26 : Dc mX2_work 26 (.aload_n 1) 1 27 := ⟨k_dX2_work_20.2.2.2.2.2, rfl⟩
theorem k_dX2_work_27 : decode (mX2_work).2.1 27 = .ok ((.iload_n 2), 1) ∧ decode (mX2_work).2.1 28 = .ok ((.iload_n 3), 1) ∧ decode (mX2_work).2.1 29 = .ok ((.invokestatic 29), 3) ∧ decode (mX2_work).2.1 32 = .ok ((.invokestatic 33), 3) ∧ decode (mX2_work).2.1 35 = .ok ((.iinc 3 1), 3) ∧ decode (mX2_work).2.1 38 = .ok ((.goto (-28)), 3) := by decide +kernel
theorem dX2_work_27 : Dc mX2_work 27 (.iload_n 2) 1 28 := ⟨k_dX2_work_27.1, rfl⟩
theorem dX2_work_28 : Dc mX2_work 28 (.iload_n 3) 1 29 := ⟨k_dX2_work_27.2.1, rfl⟩
theorem dX2_work_29 : Dc mX2_work 29 (.invokestatic 29) 3 32 := ⟨k_dX2_work_27.2.2.1, rfl⟩
theorem dX2_work_32 : Dc mX2_work 32 (.invokestatic 33) 3 35 := ⟨k_dX2_work_27.2.2.2.1, rfl⟩
theorem dX2_work_35 : Dc mX2_work 35 (.iinc 3 1) 3 38 := ⟨k_dX2_work_27.2.2.2.2.1, rfl⟩
theorem dX2_work_38 : Dc mX2_work 38 (.goto (-28)) 3 41 := ⟨k_dX2_work_27.2.2.2.2.2, rfl⟩
theorem k_dX2_work_41 : decode (mX2_work).2.1 41 = .ok ((.iinc 2 1), 3) ∧ decode (mX2_work).2.1 44 = .ok ((.goto (-42)), 3) ∧ decode (mX2_work).2.1 47 = .ok ((.aload_n 0), 1) ∧ decode (mX2_work).2.1 48 = .ok ((.getfield 9), 3) ∧ decode (mX2_work).2.1 51 = .ok ((.iconst 0), 1) ∧ decode (mX2_work).2.1 52 = .ok ((.invokestatic 37), 3) := by decide +kernel
theorem dX2_work_41 : Dc mX2_work 41 (.iinc 2 1) 3 44 := ⟨k_dX2_work_41.1, rfl⟩
theorem dX2_work_44 : Dc mX2_work 44 (.goto (-42)) 3 47 := ⟨k_dX2_work_41.2.1, rfl⟩
theorem dX2_work_47 : Dc mX2_work 47 (.aload_n 0) 1 48 := ⟨k_dX2_work_41.2.2.1, rfl⟩
theorem dX2_work_48 : Dc mX2_work 48 (.getfield 9) 3 51 := ⟨k_dX2_work_41.2.2.2.1, rfl⟩
theorem dX2_work_51 : Dc mX2_work 51 (.iconst 0) 1 52 := ⟨k_dX2_work_41.2.2.2.2.1, rfl⟩
theorem dX2_work_52 : Dc mX2_work 52 (.invokestatic 37) 3 55 := ⟨k_dX2_work_41.2.2.2.2.2, rfl⟩
theorem k_dX2_work_55 : decode (mX2_work).2.1 55 = .ok ((.aload_n 0), 1) ∧ decode (mX2_work).2.1 56 = .ok ((.ldc 41), 2) ∧ decode (mX2_work).2.1 58 = .ok ((.putfield 15), 3) ∧ decode (mX2_work).2.1 61 = .ok ((.aload_n 0), 1) ∧ decode (mX2_work).2.1 62 = .ok ((.iconst 0), 1) ∧ decode (mX2_work).2.1 63 = .ok ((.iconst 0), 1) := by decide +kernel
theorem dX2_work_55 : Dc mX2_work 55 (.aload_n 0) 1 56 := ⟨k_dX2_work_55.1, rfl⟩
theorem dX2_work_56 : Dc mX2_work 56 (.ldc 41) 2 58 := ⟨k_dX2_work_55.2.1, rfl⟩
theorem dX2_work_58 : Dc mX2_work 58 (.putfield 15) 3 61 := ⟨k_dX2_work_55.2.2.1, rfl⟩
theorem dX2_work_61 : Dc mX2_work 61 (.aload_n 0) 1 62 := ⟨k_dX2_work_55.2.2.2.1, rfl⟩
theorem dX2_work_62 : Dc mX2_work 62 (.iconst 0) 1 63 := ⟨k_dX2_work_55.2.2.2.2.1, rfl⟩
theorem dX2_work_63 : Dc mX2_work 63 (.iconst 0) 1 64 := ⟨k_dX2_work_55.2.2.2.2.2, rfl⟩
theorem k_dX2_work_64 : decode (mX2_work).2.1 64 = .ok ((.iconst 0), 1) ∧ decode (mX2_work).2.1 65 = .ok ((.invokestatic 42), 3) ∧ decode (mX2_work).2.1 68 = .ok ((.return_), 1) := by decide +kernel
theorem dX2_work_64 : Dc mX2_work 64 (.iconst 0) 1 65 := ⟨k_dX2_work_64.1, rfl⟩
theorem dX2_work_65 : Dc mX2_work 65 (.invokestatic 42) 3 68 := ⟨k_dX2_work_64.2.1, rfl⟩
theorem dX2_work_68 : Dc mX2_work 68 (.return_) 1 69 := ⟨k_dX2_work_64.2.2, rfl⟩
theorem k_dX2_clashesBy_0 : decode (mX2_clashesBy).2.1 0 = .ok ((.iconst 0), 1) ∧ decode (mX2_clashesBy).2.1 1 = .ok ((.istore_n 3), 1) ∧ decode (mX2_clashesBy).2.1 2 = .ok ((.iconst 0), 1) ∧ decode (mX2_clashesBy).2.1 3 = .ok ((.istore 4), 2) ∧ decode (mX2_clashesBy).2.1 5 = .ok ((.iload 4), 2) ∧ decode (mX2_clashesBy).2.1 7 = .ok ((.bipush 8), 2) := by decide +kernel
theorem dX2_clashesBy_0 : Dc mX2_clashesBy 0 (.iconst 0) 1 1 := ⟨k_dX2_clashesBy_0.1, rfl⟩
theorem dX2_clashesBy_1 : Dc mX2_clashesBy 1 (.istore_n 3) 1 2 := ⟨k_dX2_clashesBy_0.2.1, rfl⟩
theorem dX2_clashesBy_2 : Dc mX2_clashesBy 2 (.iconst 0) 1 3 := ⟨k_dX2_clashesBy_0.2.2.1, rfl⟩
theorem dX2_clashesBy_3 : Dc mX2_clashesBy 3 (.istore 4) 2 5 := ⟨k_dX2_clashesBy_0.2.2.2.1, rfl⟩
theorem dX2_clashesBy_5 : Dc mX2_clashesBy 5 (.iload 4) 2 7 := ⟨k_dX2_clashesBy_0.2.2.2.2.1, rfl⟩
theorem dX2_clashesBy_7 : Dc mX2_clashesBy 7 (.bipush 8) 2 9 := ⟨k_dX2_clashesBy_0.2.2.2.2.2, rfl⟩
theorem k_dX2_clashesBy_9 : decode (mX2_clashesBy).2.1 9 = .ok ((.if_icmp .ge 48), 3) ∧ decode (mX2_clashesBy).2.1 12 = .ok ((.aload_n 0), 1) ∧ decode (mX2_clashesBy).2.1 13 = .ok ((.iload 4), 2) ∧ decode (mX2_clashesBy).2.1 15 = .ok ((.iload_n 1), 1) ∧ decode (mX2_clashesBy).2.1 16 = .ok ((.invokevirtual 46), 3) ∧ decode (mX2_clashesBy).2.1 19 = .ok ((.istore 5), 2) := by decide +kernel
theorem dX2_clashesBy_9 : Dc mX2_clashesBy 9 (.if_icmp .ge 48) 3 12 := ⟨k_dX2_clashesBy_9.1, rfl⟩
theorem dX2_clashesBy_12 : Dc mX2_clashesBy 12 (.aload_n 0) 1 13 := ⟨k_dX2_clashesBy_9.2.1, rfl⟩
theorem dX2_clashesBy_13 : Dc mX2_clashesBy 13 (.iload 4) 2 15 := ⟨k_dX2_clashesBy_9.2.2.1, rfl⟩
theorem dX2_clashesBy_15 : Dc mX2_clashesBy 15 (.iload_n 1) 1 16 := ⟨k_dX2_clashesBy_9.2.2.2.1, rfl⟩
theorem dX2_clashesBy_16 : Dc mX2_clashesBy 16 (.invokevirtual 46) 3 19 := ⟨k_dX2_clashesBy_9.2.2.2.2.1, rfl⟩
theorem dX2_clashesBy_19 : Dc mX2_clashesBy 19 (.istore 5) 2 21 := ⟨k_dX2_clashesBy_9.2.2.2.2.2, rfl⟩
theorem k_dX2_clashesBy_21 : decode (mX2_clashesBy).2.1 21 = .ok ((.aload_n 0), 1) ∧ decode (mX2_clashesBy).2.1 22 = .ok ((.getfield 52), 3) ∧ decode (mX2_clashesBy).2.1 25 = .ok ((.iload 4), 2) ∧ decode (mX2_clashesBy).2.1 27 = .ok ((.invokestatic 55), 3) ∧ decode (mX2_clashesBy).2.1 30 = .ok ((.ifCond .eq 21), 3) ∧ decode (mX2_clashesBy).2.1 33 = .ok ((.iload 5), 2) := by decide +kernel
theorem dX2_clashesBy_21 : Dc mX2_clashesBy 21 (.aload_n 0) 1 22 := ⟨k_dX2_clashesBy_21.1, rfl⟩
theorem dX2_clashesBy_22 : Dc mX2_clashesBy 22 (.getfield 52) 3 25 := ⟨k_dX2_clashesBy_21.2.1, rfl⟩
theorem dX2_clashesBy_25 : Dc mX2_clashesBy 25 (.iload 4) 2 27 := ⟨k_dX2_clashesBy_21.2.2.1, rfl⟩
theorem dX2_clashesBy_27 : Dc mX2_clashesBy 27 (.invokestatic 55) 3 30 := ⟨k_dX2_clashesBy_21.2.2.2.1, rfl⟩
theorem dX2_clashesBy_30 : Dc mX2_clashesBy 30 (.ifCond .eq 21) 3 33 := ⟨k_dX2_clashesBy_21.2.2.2.2.1, rfl⟩
theorem dX2_clashesBy_33 : Dc mX2_clashesBy 33 (.iload 5) 2 35 := ⟨k_dX2_clashesBy_21.2.2.2.2.2, rfl⟩
theorem k_dX2_clashesBy_35 : decode (mX2_clashesBy).2.1 35 = .ok ((.ifCond .lt 16), 3) ∧ decode (mX2_clashesBy).2.1 38 = .ok ((.iload 5), 2) ∧ decode (mX2_clashesBy).2.1 40 = .ok ((.iload_n 2), 1) ∧ decode (mX2_clashesBy).2.1 41 = .ok ((.if_icmp .eq 10), 3) ∧ decode (mX2_clashesBy).2.1 44 = .ok ((.iload_n 3), 1) ∧ decode (mX2_clashesBy).2.1 45 = .ok ((.iconst 1), 1) := by decide +kernel
theorem dX2_clashesBy_35 : Dc mX2_clashesBy 35 (.ifCond .lt 16) 3 38 := ⟨k_dX2_clashesBy_35.1, rfl⟩
theorem dX2_clashesBy_38 : Dc mX2_clashesBy 38 (.iload 5) 2 40 := ⟨k_dX2_clashesBy_35.2.1, rfl⟩
theorem dX2_clashesBy_40 : Dc mX2_clashesBy 40 (.iload_n 2) 1 41 := ⟨k_dX2_clashesBy_35.2.2.1, rfl⟩
theorem dX2_clashesBy_41 : Dc mX2_clashesBy 41 (.if_icmp .eq 10) 3 44 := ⟨k_dX2_clashesBy_35.2.2.2.1, rfl⟩
theorem dX2_clashesBy_44 : Dc mX2_clashesBy 44 (.iload_n 3) 1 45 := ⟨k_dX2_clashesBy_35.2.2.2.2.1, rfl⟩
theorem dX2_clashesBy_45 : Dc mX2_clashesBy 45 (.iconst 1) 1 46 := ⟨k_dX2_clashesBy_35.2.2.2.2.2, rfl⟩
theorem k_dX2_clashesBy_46 : decode (mX2_clashesBy).2.1 46 = .ok ((.iload 4), 2) ∧ decode (mX2_clashesBy).2.1 48 = .ok ((.ishl), 1) ∧ decode (mX2_clashesBy).2.1 49 = .ok ((.ior), 1) ∧ decode (mX2_clashesBy).2.1 50 = .ok ((.istore_n 3), 1) ∧ decode (mX2_clashesBy).2.1 51 = .ok ((.iinc 4 1), 3) ∧ decode (mX2_clashesBy).2.1 54 = .ok ((.goto (-49)), 3) := by decide +kernel
theorem dX2_clashesBy_46 : Dc mX2_clashesBy 46 (.iload 4) 2 48 := ⟨k_dX2_clashesBy_46.1, rfl⟩
theorem dX2_clashesBy_48 : Dc mX2_clashesBy 48 (.ishl) 1 49 := ⟨k_dX2_clashesBy_46.2.1, rfl⟩
theorem dX2_clashesBy_49 : Dc mX2_clashesBy 49 (.ior) 1 50 := ⟨k_dX2_clashesBy_46.2.2.1, rfl⟩
theorem dX2_clashesBy_50 : Dc mX2_clashesBy 50 (.istore_n 3) 1 51 := ⟨k_dX2_clashesBy_46.2.2.2.1, rfl⟩
theorem dX2_clashesBy_51 : Dc mX2_clashesBy 51 (.iinc 4 1) 3 54 := ⟨k_dX2_clashesBy_46.2.2.2.2.1, rfl⟩
theorem dX2_clashesBy_54 : Dc mX2_clashesBy 54 (.goto (-49)) 3 57 := ⟨k_dX2_clashesBy_46.2.2.2.2.2, rfl⟩
theorem k_dX2_clashesBy_57 : decode (mX2_clashesBy).2.1 57 = .ok ((.iload_n 3), 1) ∧ decode (mX2_clashesBy).2.1 58 = .ok ((.ireturn), 1) := by decide +kernel
theorem dX2_clashesBy_57 : Dc mX2_clashesBy 57 (.iload_n 3) 1 58 := ⟨k_dX2_clashesBy_57.1, rfl⟩
theorem dX2_clashesBy_58 : Dc mX2_clashesBy 58 (.ireturn) 1 59 := ⟨k_dX2_clashesBy_57.2, rfl⟩
theorem k_dX2_choose_0 : decode (mX2_choose).2.1 0 = .ok ((.iload_n 3), 1) ∧ decode (mX2_choose).2.1 1 = .ok ((.aload_n 0), 1) ∧ decode (mX2_choose).2.1 2 = .ok ((.getfield 15), 3) ∧ decode (mX2_choose).2.1 5 = .ok ((.if_icmp .lt 4), 3) ∧ decode (mX2_choose).2.1 8 = .ok ((.return_), 1) ∧ decode (mX2_choose).2.1 9 = .ok ((.iload_n 1), 1) := by decide +kernel
theorem dX2_choose_0 : Dc mX2_choose 0 (.iload_n 3) 1 1 := ⟨k_dX2_choose_0.1, rfl⟩
theorem dX2_choose_1 : Dc mX2_choose 1 (.aload_n 0) 1 2 := ⟨k_dX2_choose_0.2.1, rfl⟩
theorem dX2_choose_2 : Dc mX2_choose 2 (.getfield 15) 3 5 := ⟨k_dX2_choose_0.2.2.1, rfl⟩
theorem dX2_choose_5 : Dc mX2_choose 5 (.if_icmp .lt 4) 3 8 := ⟨k_dX2_choose_0.2.2.2.1, rfl⟩
theorem dX2_choose_8 : Dc mX2_choose 8 (.return_) 1 9 := ⟨k_dX2_choose_0.2.2.2.2.1, rfl⟩
theorem dX2_choose_9 : Dc mX2_choose 9 (.iload_n 1) 1 10 := ⟨k_dX2_choose_0.2.2.2.2.2, rfl⟩
theorem k_dX2_choose_10 : decode (mX2_choose).2.1 10 = .ok ((.aload_n 0), 1) ∧ decode (mX2_choose).2.1 11 = .ok ((.getfield 25), 3) ∧ decode (mX2_choose).2.1 14 = .ok ((.getfield 59), 3) ∧ decode (mX2_choose).2.1 17 = .ok ((.getfield 65), 3) ∧ decode (mX2_choose).2.1 20 = .ok ((.if_icmp .ge 9), 3) ∧ decode (mX2_choose).2.1 23 = .ok ((.iload_n 1), 1) := by decide +kernel
theorem dX2_choose_10 : Dc mX2_choose 10 (.aload_n 0) 1 11 := ⟨k_dX2_choose_10.1, rfl⟩
theorem dX2_choose_11 : Dc mX2_choose 11 (.getfield 25) 3 14 := ⟨k_dX2_choose_10.2.1, rfl⟩
theorem dX2_choose_14 : Dc mX2_choose 14 (.getfield 59) 3 17 := ⟨k_dX2_choose_10.2.2.1, rfl⟩
theorem dX2_choose_17 : Dc mX2_choose 17 (.getfield 65) 3 20 := ⟨k_dX2_choose_10.2.2.2.1, rfl⟩
theorem dX2_choose_20 : Dc mX2_choose 20 (.if_icmp .ge 9) 3 23 := ⟨k_dX2_choose_10.2.2.2.2.1, rfl⟩
theorem dX2_choose_23 : Dc mX2_choose 23 (.iload_n 1) 1 24 := ⟨k_dX2_choose_10.2.2.2.2.2, rfl⟩
theorem k_dX2_choose_24 : decode (mX2_choose).2.1 24 = .ok ((.bipush 6), 2) ∧ decode (mX2_choose).2.1 26 = .ok ((.if_icmp .lt 20), 3) ∧ decode (mX2_choose).2.1 29 = .ok ((.aload_n 0), 1) ∧ decode (mX2_choose).2.1 30 = .ok ((.iload_n 3), 1) ∧ decode (mX2_choose).2.1 31 = .ok ((.putfield 15), 3) ∧ decode (mX2_choose).2.1 34 = .ok ((.aload_n 0), 1) := by decide +kernel
theorem dX2_choose_24 : Dc mX2_choose 24 (.bipush 6) 2 26 := ⟨k_dX2_choose_24.1, rfl⟩
theorem dX2_choose_26 : Dc mX2_choose 26 (.if_icmp .lt 20) 3 29 := ⟨k_dX2_choose_24.2.1, rfl⟩
theorem dX2_choose_29 : Dc mX2_choose 29 (.aload_n 0) 1 30 := ⟨k_dX2_choose_24.2.2.1, rfl⟩
theorem dX2_choose_30 : Dc mX2_choose 30 (.iload_n 3) 1 31 := ⟨k_dX2_choose_24.2.2.2.1, rfl⟩
theorem dX2_choose_31 : Dc mX2_choose 31 (.putfield 15) 3 34 := ⟨k_dX2_choose_24.2.2.2.2.1, rfl⟩
theorem dX2_choose_34 : Dc mX2_choose 34 (.aload_n 0) 1 35 := ⟨k_dX2_choose_24.2.2.2.2.2, rfl⟩
theorem k_dX2_choose_35 : decode (mX2_choose).2.1 35 = .ok ((.getfield 19), 3) ∧ decode (mX2_choose).2.1 38 = .ok ((.aload_n 0), 1) ∧ decode (mX2_choose).2.1 39 = .ok ((.getfield 9), 3) ∧ decode (mX2_choose).2.1 42 = .ok ((.invokestatic 70), 3) ∧ decode (mX2_choose).2.1 45 = .ok ((.return_), 1) ∧ decode (mX2_choose).2.1 46 = .ok ((.iconst 0), 1) := by decide +kernel
theorem dX2_choose_35 : Dc mX2_choose 35 (.getfield 19) 3 38 := ⟨k_dX2_choose_35.1, rfl⟩
theorem dX2_choose_38 : Dc mX2_choose 38 (.aload_n 0) 1 39 := ⟨k_dX2_choose_35.2.1, rfl⟩
theorem dX2_choose_39 : Dc mX2_choose 39 (.getfield 9) 3 42 := ⟨k_dX2_choose_35.2.2.1, rfl⟩
theorem dX2_choose_42 : Dc mX2_choose 42 (.invokestatic 70) 3 45 := ⟨k_dX2_choose_35.2.2.2.1, rfl⟩
theorem dX2_choose_45 : Dc mX2_choose 45 (.return_) 1 46 := ⟨k_dX2_choose_35.2.2.2.2.1, rfl⟩
theorem dX2_choose_46 : Dc mX2_choose 46 (.iconst 0) 1 47 := ⟨k_dX2_choose_35.2.2.2.2.2, rfl⟩
theorem k_dX2_choose_47 : decode (mX2_choose).2.1 47 = .ok ((.istore 4), 2) ∧ decode (mX2_choose).2.1 49 = .ok ((.iload 4), 2) ∧ decode (mX2_choose).2.1 51 = .ok ((.aload_n 0), 1) ∧ decode (mX2_choose).2.1 52 = .ok ((.getfield 25), 3) ∧ decode (mX2_choose).2.1 55 = .ok ((.getfield 59), 3) ∧ decode (mX2_choose).2.1 58 = .ok ((.getfield 74), 3) := by decide +kernel
theorem dX2_choose_47 : Dc mX2_choose 47 (.istore 4) 2 49 := ⟨k_dX2_choose_47.1, rfl⟩
theorem dX2_choose_49 : Dc mX2_choose 49 (.iload 4) 2 51 := ⟨k_dX2_choose_47.2.1, rfl⟩
theorem dX2_choose_51 : Dc mX2_choose 51 (.aload_n 0) 1 52 := ⟨k_dX2_choose_47.2.2.1, rfl⟩
theorem dX2_choose_52 : Dc mX2_choose 52 (.getfield 25) 3 55 := ⟨k_dX2_choose_47.2.2.2.1, rfl⟩
theorem dX2_choose_55 : Dc mX2_choose 55 (.getfield 59) 3 58 := ⟨k_dX2_choose_47.2.2.2.2.1, rfl⟩
theorem dX2_choose_58 : Dc mX2_choose 58 (.getfield 74) 3 61 := ⟨k_dX2_choose_47.2.2.2.2.2, rfl⟩
theorem k_dX2_choose_61 : decode (mX2_choose).2.1 61 = .ok ((.iload_n 1), 1) ∧ decode (mX2_choose).2.1 62 = .ok ((.invokestatic 55), 3) ∧ decode (mX2_choose).2.1 65 = .ok ((.if_icmp .ge 68), 3) ∧ decode (mX2_choose).2.1 68 = .ok ((.aload_n 0), 1) ∧ decode (mX2_choose).2.1 69 = .ok ((.iload_n 1), 1) ∧ decode (mX2_choose).2.1 70 = .ok ((.iload 4), 2) := by decide +kernel
theorem dX2_choose_61 : Dc mX2_choose 61 (.iload_n 1) 1 62 := ⟨k_dX2_choose_61.1, rfl⟩
theorem dX2_choose_62 : Dc mX2_choose 62 (.invokestatic 55) 3 65 := ⟨k_dX2_choose_61.2.1, rfl⟩
theorem dX2_choose_65 : Dc mX2_choose 65 (.if_icmp .ge 68) 3 68 := ⟨k_dX2_choose_61.2.2.1, rfl⟩
theorem dX2_choose_68 : Dc mX2_choose 68 (.aload_n 0) 1 69 := ⟨k_dX2_choose_61.2.2.2.1, rfl⟩
theorem dX2_choose_69 : Dc mX2_choose 69 (.iload_n 1) 1 70 := ⟨k_dX2_choose_61.2.2.2.2.1, rfl⟩
theorem dX2_choose_70 : Dc mX2_choose 70 (.iload 4) 2 72 := ⟨k_dX2_choose_61.2.2.2.2.2, rfl⟩
theorem k_dX2_choose_72 : decode (mX2_choose).2.1 72 = .ok ((.invokevirtual 77), 3) ∧ decode (mX2_choose).2.1 75 = .ok ((.ifCond .eq 52), 3) ∧ decode (mX2_choose).2.1 78 = .ok ((.aload_n 0), 1) ∧ decode (mX2_choose).2.1 79 = .ok ((.getfield 22), 3) ∧ decode (mX2_choose).2.1 82 = .ok ((.iload_n 1), 1) ∧ decode (mX2_choose).2.1 83 = .ok ((.bipush 6), 2) := by decide +kernel
theorem dX2_choose_72 : Dc mX2_choose 72 (.invokevirtual 77) 3 75 := ⟨k_dX2_choose_72.1, rfl⟩
theorem dX2_choose_75 : Dc mX2_choose 75 (.ifCond .eq 52) 3 78 := ⟨k_dX2_choose_72.2.1, rfl⟩
theorem dX2_choose_78 : Dc mX2_choose 78 (.aload_n 0) 1 79 := ⟨k_dX2_choose_72.2.2.1, rfl⟩
theorem dX2_choose_79 : Dc mX2_choose 79 (.getfield 22) 3 82 := ⟨k_dX2_choose_72.2.2.2.1, rfl⟩
theorem dX2_choose_82 : Dc mX2_choose 82 (.iload_n 1) 1 83 := ⟨k_dX2_choose_72.2.2.2.2.1, rfl⟩
theorem dX2_choose_83 : Dc mX2_choose 83 (.bipush 6) 2 85 := ⟨k_dX2_choose_72.2.2.2.2.2, rfl⟩
theorem k_dX2_choose_85 : decode (mX2_choose).2.1 85 = .ok ((.imul), 1) ∧ decode (mX2_choose).2.1 86 = .ok ((.iload 4), 2) ∧ decode (mX2_choose).2.1 88 = .ok ((.iadd), 1) ∧ decode (mX2_choose).2.1 89 = .ok ((.invokestatic 55), 3) ∧ decode (mX2_choose).2.1 92 = .ok ((.iload_n 2), 1) ∧ decode (mX2_choose).2.1 93 = .ok ((.iconst (-1)), 1) := by decide +kernel
theorem dX2_choose_85 : Dc mX2_choose 85 (.imul) 1 86 := ⟨k_dX2_choose_85.1, rfl⟩
theorem dX2_choose_86 : Dc mX2_choose 86 (.iload 4) 2 88 := ⟨k_dX2_choose_85.2.1, rfl⟩
theorem dX2_choose_88 : Dc mX2_choose 88 (.iadd) 1 89 := ⟨k_dX2_choose_85.2.2.1, rfl⟩
theorem dX2_choose_89 : Dc mX2_choose 89 (.invokestatic 55) 3 92 := ⟨k_dX2_choose_85.2.2.2.1, rfl⟩
theorem dX2_choose_92 : Dc mX2_choose 92 (.iload_n 2) 1 93 := ⟨k_dX2_choose_85.2.2.2.2.1, rfl⟩
theorem dX2_choose_93 : Dc mX2_choose 93 (.iconst (-1)) 1 94 := ⟨k_dX2_choose_85.2.2.2.2.2, rfl⟩
theorem k_dX2_choose_94 : decode (mX2_choose).2.1 94 = .ok ((.ixor), 1) ∧ decode (mX2_choose).2.1 95 = .ok ((.iand), 1) ∧ decode (mX2_choose).2.1 96 = .ok ((.istore 5), 2) ∧ decode (mX2_choose).2.1 98 = .ok ((.aload_n 0), 1) ∧ decode (mX2_choose).2.1 99 = .ok ((.getfield 19), 3) ∧ decode (mX2_choose).2.1 102 = .ok ((.iload_n 1), 1) := by decide +kernel
theorem dX2_choose_94 : Dc mX2_choose 94 (.ixor) 1 95 := ⟨k_dX2_choose_94.1, rfl⟩
theorem dX2_choose_95 : Dc mX2_choose 95 (.iand) 1 96 := ⟨k_dX2_choose_94.2.1, rfl⟩
theorem dX2_choose_96 : Dc mX2_choose 96 (.istore 5) 2 98 := ⟨k_dX2_choose_94.2.2.1, rfl⟩
theorem dX2_choose_98 : Dc mX2_choose 98 (.aload_n 0) 1 99 := ⟨k_dX2_choose_94.2.2.2.1, rfl⟩
theorem dX2_choose_99 : Dc mX2_choose 99 (.getfield 19) 3 102 := ⟨k_dX2_choose_94.2.2.2.2.1, rfl⟩
theorem dX2_choose_102 : Dc mX2_choose 102 (.iload_n 1) 1 103 := ⟨k_dX2_choose_94.2.2.2.2.2, rfl⟩
theorem k_dX2_choose_103 : decode (mX2_choose).2.1 103 = .ok ((.iload 4), 2) ∧ decode (mX2_choose).2.1 105 = .ok ((.invokestatic 33), 3) ∧ decode (mX2_choose).2.1 108 = .ok ((.aload_n 0), 1) ∧ decode (mX2_choose).2.1 109 = .ok ((.iload_n 1), 1) ∧ decode (mX2_choose).2.1 110 = .ok ((.iconst 1), 1) ∧ decode (mX2_choose).2.1 111 = .ok ((.iadd), 1) := by decide +kernel
theorem dX2_choose_103 : Dc mX2_choose 103 (.iload 4) 2 105 := ⟨k_dX2_choose_103.1, rfl⟩
theorem dX2_choose_105 : Dc mX2_choose 105 (.invokestatic 33) 3 108 := ⟨k_dX2_choose_103.2.1, rfl⟩
theorem dX2_choose_108 : Dc mX2_choose 108 (.aload_n 0) 1 109 := ⟨k_dX2_choose_103.2.2.1, rfl⟩
theorem dX2_choose_109 : Dc mX2_choose 109 (.iload_n 1) 1 110 := ⟨k_dX2_choose_103.2.2.2.1, rfl⟩
theorem dX2_choose_110 : Dc mX2_choose 110 (.iconst 1) 1 111 := ⟨k_dX2_choose_103.2.2.2.2.1, rfl⟩
theorem dX2_choose_111 : Dc mX2_choose 111 (.iadd) 1 112 := ⟨k_dX2_choose_103.2.2.2.2.2, rfl⟩
theorem k_dX2_choose_112 : decode (mX2_choose).2.1 112 = .ok ((.iload_n 2), 1) ∧ decode (mX2_choose).2.1 113 = .ok ((.iload 5), 2) ∧ decode (mX2_choose).2.1 115 = .ok ((.ior), 1) ∧ decode (mX2_choose).2.1 116 = .ok ((.iload_n 3), 1) ∧ decode (mX2_choose).2.1 117 = .ok ((.aload_n 0), 1) ∧ decode (mX2_choose).2.1 118 = .ok ((.iload 5), 2) := by decide +kernel
theorem dX2_choose_112 : Dc mX2_choose 112 (.iload_n 2) 1 113 := ⟨k_dX2_choose_112.1, rfl⟩
theorem dX2_choose_113 : Dc mX2_choose 113 (.iload 5) 2 115 := ⟨k_dX2_choose_112.2.1, rfl⟩
theorem dX2_choose_115 : Dc mX2_choose 115 (.ior) 1 116 := ⟨k_dX2_choose_112.2.2.1, rfl⟩
theorem dX2_choose_116 : Dc mX2_choose 116 (.iload_n 3) 1 117 := ⟨k_dX2_choose_112.2.2.2.1, rfl⟩
theorem dX2_choose_117 : Dc mX2_choose 117 (.aload_n 0) 1 118 := ⟨k_dX2_choose_112.2.2.2.2.1, rfl⟩
theorem dX2_choose_118 : Dc mX2_choose 118 (.iload 5) 2 120 := ⟨k_dX2_choose_112.2.2.2.2.2, rfl⟩
theorem k_dX2_choose_120 : decode (mX2_choose).2.1 120 = .ok ((.invokevirtual 81), 3) ∧ decode (mX2_choose).2.1 123 = .ok ((.iadd), 1) ∧ decode (mX2_choose).2.1 124 = .ok ((.invokestatic 42), 3) ∧ decode (mX2_choose).2.1 127 = .ok ((.iinc 4 1), 3) ∧ decode (mX2_choose).2.1 130 = .ok ((.goto (-81)), 3) ∧ decode (mX2_choose).2.1 133 = .ok ((.return_), 1) := by decide +kernel
theorem dX2_choose_120 : Dc mX2_choose 120 (.invokevirtual 81) 3 123 := ⟨k_dX2_choose_120.1, rfl⟩
theorem dX2_choose_123 : Dc mX2_choose 123 (.iadd) 1 124 := ⟨k_dX2_choose_120.2.1, rfl⟩
theorem dX2_choose_124 : Dc mX2_choose 124 (.invokestatic 42) 3 127 := ⟨k_dX2_choose_120.2.2.1, rfl⟩
theorem dX2_choose_127 : Dc mX2_choose 127 (.iinc 4 1) 3 130 := ⟨k_dX2_choose_120.2.2.2.1, rfl⟩
theorem dX2_choose_130 : Dc mX2_choose 130 (.goto (-81)) 3 133 := ⟨k_dX2_choose_120.2.2.2.2.1, rfl⟩
theorem dX2_choose_133 : Dc mX2_choose 133 (.return_) 1 134 := ⟨k_dX2_choose_120.2.2.2.2.2, rfl⟩
theorem k_dX2_isWorth_0 : decode (mX2_isWorth).2.1 0 = .ok ((.aload_n 0), 1) ∧ decode (mX2_isWorth).2.1 1 = .ok ((.getfield 22), 3) ∧ decode (mX2_isWorth).2.1 4 = .ok ((.iload_n 1), 1) ∧ decode (mX2_isWorth).2.1 5 = .ok ((.bipush 6), 2) ∧ decode (mX2_isWorth).2.1 7 = .ok ((.imul), 1) ∧ decode (mX2_isWorth).2.1 8 = .ok ((.iload_n 2), 1) := by decide +kernel
theorem dX2_isWorth_0 : Dc mX2_isWorth 0 (.aload_n 0) 1 1 := ⟨k_dX2_isWorth_0.1, rfl⟩
theorem dX2_isWorth_1 : Dc mX2_isWorth 1 (.getfield 22) 3 4 := ⟨k_dX2_isWorth_0.2.1, rfl⟩
theorem dX2_isWorth_4 : Dc mX2_isWorth 4 (.iload_n 1) 1 5 := ⟨k_dX2_isWorth_0.2.2.1, rfl⟩
theorem dX2_isWorth_5 : Dc mX2_isWorth 5 (.bipush 6) 2 7 := ⟨k_dX2_isWorth_0.2.2.2.1, rfl⟩
theorem dX2_isWorth_7 : Dc mX2_isWorth 7 (.imul) 1 8 := ⟨k_dX2_isWorth_0.2.2.2.2.1, rfl⟩
theorem dX2_isWorth_8 : Dc mX2_isWorth 8 (.iload_n 2) 1 9 := ⟨k_dX2_isWorth_0.2.2.2.2.2, rfl⟩
theorem k_dX2_isWorth_9 : decode (mX2_isWorth).2.1 9 = .ok ((.iadd), 1) ∧ decode (mX2_isWorth).2.1 10 = .ok ((.invokestatic 55), 3) ∧ decode (mX2_isWorth).2.1 13 = .ok ((.istore_n 3), 1) ∧ decode (mX2_isWorth).2.1 14 = .ok ((.iconst 0), 1) ∧ decode (mX2_isWorth).2.1 15 = .ok ((.istore 4), 2) ∧ decode (mX2_isWorth).2.1 17 = .ok ((.iload 4), 2) := by decide +kernel
theorem dX2_isWorth_9 : Dc mX2_isWorth 9 (.iadd) 1 10 := ⟨k_dX2_isWorth_9.1, rfl⟩
theorem dX2_isWorth_10 : Dc mX2_isWorth 10 (.invokestatic 55) 3 13 := ⟨k_dX2_isWorth_9.2.1, rfl⟩
theorem dX2_isWorth_13 : Dc mX2_isWorth 13 (.istore_n 3) 1 14 := ⟨k_dX2_isWorth_9.2.2.1, rfl⟩
theorem dX2_isWorth_14 : Dc mX2_isWorth 14 (.iconst 0) 1 15 := ⟨k_dX2_isWorth_9.2.2.2.1, rfl⟩
theorem dX2_isWorth_15 : Dc mX2_isWorth 15 (.istore 4) 2 17 := ⟨k_dX2_isWorth_9.2.2.2.2.1, rfl⟩
theorem dX2_isWorth_17 : Dc mX2_isWorth 17 (.iload 4) 2 19 := ⟨k_dX2_isWorth_9.2.2.2.2.2, rfl⟩
theorem k_dX2_isWorth_19 : decode (mX2_isWorth).2.1 19 = .ok ((.iload_n 2), 1) ∧ decode (mX2_isWorth).2.1 20 = .ok ((.if_icmp .ge 32), 3) ∧ decode (mX2_isWorth).2.1 23 = .ok ((.aload_n 0), 1) ∧ decode (mX2_isWorth).2.1 24 = .ok ((.getfield 22), 3) ∧ decode (mX2_isWorth).2.1 27 = .ok ((.iload_n 1), 1) ∧ decode (mX2_isWorth).2.1 28 = .ok ((.bipush 6), 2) := by decide +kernel
theorem dX2_isWorth_19 : Dc mX2_isWorth 19 (.iload_n 2) 1 20 := ⟨k_dX2_isWorth_19.1, rfl⟩
theorem dX2_isWorth_20 : Dc mX2_isWorth 20 (.if_icmp .ge 32) 3 23 := ⟨k_dX2_isWorth_19.2.1, rfl⟩
theorem dX2_isWorth_23 : Dc mX2_isWorth 23 (.aload_n 0) 1 24 := ⟨k_dX2_isWorth_19.2.2.1, rfl⟩
theorem dX2_isWorth_24 : Dc mX2_isWorth 24 (.getfield 22) 3 27 := ⟨k_dX2_isWorth_19.2.2.2.1, rfl⟩
theorem dX2_isWorth_27 : Dc mX2_isWorth 27 (.iload_n 1) 1 28 := ⟨k_dX2_isWorth_19.2.2.2.2.1, rfl⟩
theorem dX2_isWorth_28 : Dc mX2_isWorth 28 (.bipush 6) 2 30 := ⟨k_dX2_isWorth_19.2.2.2.2.2, rfl⟩
theorem k_dX2_isWorth_30 : decode (mX2_isWorth).2.1 30 = .ok ((.imul), 1) ∧ decode (mX2_isWorth).2.1 31 = .ok ((.iload 4), 2) ∧ decode (mX2_isWorth).2.1 33 = .ok ((.iadd), 1) ∧ decode (mX2_isWorth).2.1 34 = .ok ((.invokestatic 55), 3) ∧ decode (mX2_isWorth).2.1 37 = .ok ((.iload_n 3), 1) ∧ decode (mX2_isWorth).2.1 38 = .ok ((.iconst (-1)), 1) := by decide +kernel
theorem dX2_isWorth_30 : Dc mX2_isWorth 30 (.imul) 1 31 := ⟨k_dX2_isWorth_30.1, rfl⟩
theorem dX2_isWorth_31 : Dc mX2_isWorth 31 (.iload 4) 2 33 := ⟨k_dX2_isWorth_30.2.1, rfl⟩
theorem dX2_isWorth_33 : Dc mX2_isWorth 33 (.iadd) 1 34 := ⟨k_dX2_isWorth_30.2.2.1, rfl⟩
theorem dX2_isWorth_34 : Dc mX2_isWorth 34 (.invokestatic 55) 3 37 := ⟨k_dX2_isWorth_30.2.2.2.1, rfl⟩
theorem dX2_isWorth_37 : Dc mX2_isWorth 37 (.iload_n 3) 1 38 := ⟨k_dX2_isWorth_30.2.2.2.2.1, rfl⟩
theorem dX2_isWorth_38 : Dc mX2_isWorth 38 (.iconst (-1)) 1 39 := ⟨k_dX2_isWorth_30.2.2.2.2.2, rfl⟩
theorem k_dX2_isWorth_39 : decode (mX2_isWorth).2.1 39 = .ok ((.ixor), 1) ∧ decode (mX2_isWorth).2.1 40 = .ok ((.iand), 1) ∧ decode (mX2_isWorth).2.1 41 = .ok ((.ifCond .ne 5), 3) ∧ decode (mX2_isWorth).2.1 44 = .ok ((.iconst 0), 1) ∧ decode (mX2_isWorth).2.1 45 = .ok ((.ireturn), 1) ∧ decode (mX2_isWorth).2.1 46 = .ok ((.iinc 4 1), 3) := by decide +kernel
theorem dX2_isWorth_39 : Dc mX2_isWorth 39 (.ixor) 1 40 := ⟨k_dX2_isWorth_39.1, rfl⟩
theorem dX2_isWorth_40 : Dc mX2_isWorth 40 (.iand) 1 41 := ⟨k_dX2_isWorth_39.2.1, rfl⟩
theorem dX2_isWorth_41 : Dc mX2_isWorth 41 (.ifCond .ne 5) 3 44 := ⟨k_dX2_isWorth_39.2.2.1, rfl⟩
theorem dX2_isWorth_44 : Dc mX2_isWorth 44 (.iconst 0) 1 45 := ⟨k_dX2_isWorth_39.2.2.2.1, rfl⟩
theorem dX2_isWorth_45 : Dc mX2_isWorth 45 (.ireturn) 1 46 := ⟨k_dX2_isWorth_39.2.2.2.2.1, rfl⟩
theorem dX2_isWorth_46 : Dc mX2_isWorth 46 (.iinc 4 1) 3 49 := ⟨k_dX2_isWorth_39.2.2.2.2.2, rfl⟩
theorem k_dX2_isWorth_49 : decode (mX2_isWorth).2.1 49 = .ok ((.goto (-32)), 3) ∧ decode (mX2_isWorth).2.1 52 = .ok ((.iconst 1), 1) ∧ decode (mX2_isWorth).2.1 53 = .ok ((.ireturn), 1) := by decide +kernel
theorem dX2_isWorth_49 : Dc mX2_isWorth 49 (.goto (-32)) 3 52 := ⟨k_dX2_isWorth_49.1, rfl⟩
theorem dX2_isWorth_52 : Dc mX2_isWorth 52 (.iconst 1) 1 53 := ⟨k_dX2_isWorth_49.2.1, rfl⟩
theorem dX2_isWorth_53 : Dc mX2_isWorth 53 (.ireturn) 1 54 := ⟨k_dX2_isWorth_49.2.2, rfl⟩
theorem k_dX2_costOf_0 : decode (mX2_costOf).2.1 0 = .ok ((.iconst 0), 1) ∧ decode (mX2_costOf).2.1 1 = .ok ((.istore_n 2), 1) ∧ decode (mX2_costOf).2.1 2 = .ok ((.iconst 0), 1) ∧ decode (mX2_costOf).2.1 3 = .ok ((.istore_n 3), 1) ∧ decode (mX2_costOf).2.1 4 = .ok ((.iload_n 3), 1) ∧ decode (mX2_costOf).2.1 5 = .ok ((.bipush 8), 2) := by decide +kernel
theorem dX2_costOf_0 : Dc mX2_costOf 0 (.iconst 0) 1 1 := ⟨k_dX2_costOf_0.1, rfl⟩
theorem dX2_costOf_1 : Dc mX2_costOf 1 (.istore_n 2) 1 2 := ⟨k_dX2_costOf_0.2.1, rfl⟩
theorem dX2_costOf_2 : Dc mX2_costOf 2 (.iconst 0) 1 3 := ⟨k_dX2_costOf_0.2.2.1, rfl⟩
theorem dX2_costOf_3 : Dc mX2_costOf 3 (.istore_n 3) 1 4 := ⟨k_dX2_costOf_0.2.2.2.1, rfl⟩
theorem dX2_costOf_4 : Dc mX2_costOf 4 (.iload_n 3) 1 5 := ⟨k_dX2_costOf_0.2.2.2.2.1, rfl⟩
theorem dX2_costOf_5 : Dc mX2_costOf 5 (.bipush 8) 2 7 := ⟨k_dX2_costOf_0.2.2.2.2.2, rfl⟩
theorem k_dX2_costOf_7 : decode (mX2_costOf).2.1 7 = .ok ((.if_icmp .ge 44), 3) ∧ decode (mX2_costOf).2.1 10 = .ok ((.iload_n 1), 1) ∧ decode (mX2_costOf).2.1 11 = .ok ((.iload_n 3), 1) ∧ decode (mX2_costOf).2.1 12 = .ok ((.ishr), 1) ∧ decode (mX2_costOf).2.1 13 = .ok ((.ifCond .eq 38), 3) ∧ decode (mX2_costOf).2.1 16 = .ok ((.iload_n 2), 1) := by decide +kernel
theorem dX2_costOf_7 : Dc mX2_costOf 7 (.if_icmp .ge 44) 3 10 := ⟨k_dX2_costOf_7.1, rfl⟩
theorem dX2_costOf_10 : Dc mX2_costOf 10 (.iload_n 1) 1 11 := ⟨k_dX2_costOf_7.2.1, rfl⟩
theorem dX2_costOf_11 : Dc mX2_costOf 11 (.iload_n 3) 1 12 := ⟨k_dX2_costOf_7.2.2.1, rfl⟩
theorem dX2_costOf_12 : Dc mX2_costOf 12 (.ishr) 1 13 := ⟨k_dX2_costOf_7.2.2.2.1, rfl⟩
theorem dX2_costOf_13 : Dc mX2_costOf 13 (.ifCond .eq 38) 3 16 := ⟨k_dX2_costOf_7.2.2.2.2.1, rfl⟩
theorem dX2_costOf_16 : Dc mX2_costOf 16 (.iload_n 2) 1 17 := ⟨k_dX2_costOf_7.2.2.2.2.2, rfl⟩
theorem k_dX2_costOf_17 : decode (mX2_costOf).2.1 17 = .ok ((.iload_n 1), 1) ∧ decode (mX2_costOf).2.1 18 = .ok ((.iload_n 3), 1) ∧ decode (mX2_costOf).2.1 19 = .ok ((.ishr), 1) ∧ decode (mX2_costOf).2.1 20 = .ok ((.iconst 1), 1) ∧ decode (mX2_costOf).2.1 21 = .ok ((.iand), 1) ∧ decode (mX2_costOf).2.1 22 = .ok ((.ifCond .eq 20), 3) := by decide +kernel
theorem dX2_costOf_17 : Dc mX2_costOf 17 (.iload_n 1) 1 18 := ⟨k_dX2_costOf_17.1, rfl⟩
theorem dX2_costOf_18 : Dc mX2_costOf 18 (.iload_n 3) 1 19 := ⟨k_dX2_costOf_17.2.1, rfl⟩
theorem dX2_costOf_19 : Dc mX2_costOf 19 (.ishr) 1 20 := ⟨k_dX2_costOf_17.2.2.1, rfl⟩
theorem dX2_costOf_20 : Dc mX2_costOf 20 (.iconst 1) 1 21 := ⟨k_dX2_costOf_17.2.2.2.1, rfl⟩
theorem dX2_costOf_21 : Dc mX2_costOf 21 (.iand) 1 22 := ⟨k_dX2_costOf_17.2.2.2.2.1, rfl⟩
theorem dX2_costOf_22 : Dc mX2_costOf 22 (.ifCond .eq 20) 3 25 := ⟨k_dX2_costOf_17.2.2.2.2.2, rfl⟩
theorem k_dX2_costOf_25 : decode (mX2_costOf).2.1 25 = .ok ((.aload_n 0), 1) ∧ decode (mX2_costOf).2.1 26 = .ok ((.getfield 25), 3) ∧ decode (mX2_costOf).2.1 29 = .ok ((.getfield 85), 3) ∧ decode (mX2_costOf).2.1 32 = .ok ((.getfield 88), 3) ∧ decode (mX2_costOf).2.1 35 = .ok ((.iload_n 3), 1) ∧ decode (mX2_costOf).2.1 36 = .ok ((.invokestatic 55), 3) := by decide +kernel
theorem dX2_costOf_25 : Dc mX2_costOf 25 (.aload_n 0) 1 26 := ⟨k_dX2_costOf_25.1, rfl⟩
theorem dX2_costOf_26 : Dc mX2_costOf 26 (.getfield 25) 3 29 := ⟨k_dX2_costOf_25.2.1, rfl⟩
theorem dX2_costOf_29 : Dc mX2_costOf 29 (.getfield 85) 3 32 := ⟨k_dX2_costOf_25.2.2.1, rfl⟩
theorem dX2_costOf_32 : Dc mX2_costOf 32 (.getfield 88) 3 35 := ⟨k_dX2_costOf_25.2.2.2.1, rfl⟩
theorem dX2_costOf_35 : Dc mX2_costOf 35 (.iload_n 3) 1 36 := ⟨k_dX2_costOf_25.2.2.2.2.1, rfl⟩
theorem dX2_costOf_36 : Dc mX2_costOf 36 (.invokestatic 55) 3 39 := ⟨k_dX2_costOf_25.2.2.2.2.2, rfl⟩
theorem k_dX2_costOf_39 : decode (mX2_costOf).2.1 39 = .ok ((.goto 4), 3) ∧ decode (mX2_costOf).2.1 42 = .ok ((.iconst 0), 1) ∧ decode (mX2_costOf).2.1 43 = .ok ((.iadd), 1) ∧ decode (mX2_costOf).2.1 44 = .ok ((.istore_n 2), 1) ∧ decode (mX2_costOf).2.1 45 = .ok ((.iinc 3 1), 3) ∧ decode (mX2_costOf).2.1 48 = .ok ((.goto (-44)), 3) := by decide +kernel
theorem dX2_costOf_39 : Dc mX2_costOf 39 (.goto 4) 3 42 := ⟨k_dX2_costOf_39.1, rfl⟩
theorem dX2_costOf_42 : Dc mX2_costOf 42 (.iconst 0) 1 43 := ⟨k_dX2_costOf_39.2.1, rfl⟩
theorem dX2_costOf_43 : Dc mX2_costOf 43 (.iadd) 1 44 := ⟨k_dX2_costOf_39.2.2.1, rfl⟩
theorem dX2_costOf_44 : Dc mX2_costOf 44 (.istore_n 2) 1 45 := ⟨k_dX2_costOf_39.2.2.2.1, rfl⟩
theorem dX2_costOf_45 : Dc mX2_costOf 45 (.iinc 3 1) 3 48 := ⟨k_dX2_costOf_39.2.2.2.2.1, rfl⟩
theorem dX2_costOf_48 : Dc mX2_costOf 48 (.goto (-44)) 3 51 := ⟨k_dX2_costOf_39.2.2.2.2.2, rfl⟩
theorem k_dX2_costOf_51 : decode (mX2_costOf).2.1 51 = .ok ((.iload_n 2), 1) ∧ decode (mX2_costOf).2.1 52 = .ok ((.ireturn), 1) := by decide +kernel
theorem dX2_costOf_51 : Dc mX2_costOf 51 (.iload_n 2) 1 52 := ⟨k_dX2_costOf_51.1, rfl⟩
theorem dX2_costOf_52 : Dc mX2_costOf 52 (.ireturn) 1 53 := ⟨k_dX2_costOf_51.2, rfl⟩
theorem k_dX3_init_0 : decode (mX3_init).2.1 0 = .ok ((.aload_n 0), 1) ∧ decode (mX3_init).2.1 1 = .ok ((.invokespecial 3), 3) ∧ decode (mX3_init).2.1 4 = .ok ((.aload_n 0), 1) ∧ decode (mX3_init).2.1 5 = .ok ((.iconst 0), 1) ∧ decode (mX3_init).2.1 6 = .ok ((.putfield 9), 3) ∧ decode (mX3_init).2.1 9 = .ok ((.aload_n 0), 1) := by decide +kernel
theorem dX3_init_0 : Dc mX3_init 0 (.aload_n 0) 1 1 := ⟨k_dX3_init_0.1, rfl⟩
theorem dX3_init_1 : Dc mX3_init 1 (.invokespecial 3) 3 4 := ⟨k_dX3_init_0.2.1, rfl⟩
theorem dX3_init_4 : Dc mX3_init 4 (.aload_n 0) 1 5 := ⟨k_dX3_init_0.2.2.1, rfl⟩
theorem dX3_init_5 : Dc mX3_init 5 (.iconst 0) 1 6 := ⟨k_dX3_init_0.2.2.2.1, rfl⟩
theorem dX3_init_6 : Dc mX3_init 6 (.putfield 9) 3 9 := ⟨k_dX3_init_0.2.2.2.2.1, rfl⟩
theorem dX3_init_9 : Dc mX3_init 9 (.aload_n 0) 1 10 := ⟨k_dX3_init_0.2.2.2.2.2, rfl⟩
theorem k_dX3_init_10 : decode (mX3_init).2.1 10 = .ok ((.iconst (-1)), 1) ∧ decode (mX3_init).2.1 11 = .ok ((.putfield 15), 3) ∧ decode (mX3_init).2.1 14 = .ok ((.aload_n 0), 1) ∧ decode (mX3_init).2.1 15 = .ok ((.iconst 0), 1) ∧ decode (mX3_init).2.1 16 = .ok ((.putfield 18), 3) ∧ decode (mX3_init).2.1 19 = .ok ((.aload_n 0), 1) := by decide +kernel
theorem dX3_init_10 : Dc mX3_init 10 (.iconst (-1)) 1 11 := ⟨k_dX3_init_10.1, rfl⟩
theorem dX3_init_11 : Dc mX3_init 11 (.putfield 15) 3 14 := ⟨k_dX3_init_10.2.1, rfl⟩
theorem dX3_init_14 : Dc mX3_init 14 (.aload_n 0) 1 15 := ⟨k_dX3_init_10.2.2.1, rfl⟩
theorem dX3_init_15 : Dc mX3_init 15 (.iconst 0) 1 16 := ⟨k_dX3_init_10.2.2.2.1, rfl⟩
theorem dX3_init_16 : Dc mX3_init 16 (.putfield 18) 3 19 := ⟨k_dX3_init_10.2.2.2.2.1, rfl⟩
theorem dX3_init_19 : Dc mX3_init 19 (.aload_n 0) 1 20 := ⟨k_dX3_init_10.2.2.2.2.2, rfl⟩
theorem k_dX3_init_20 : decode (mX3_init).2.1 20 = .ok ((.iconst 4), 1) ∧ decode (mX3_init).2.1 21 = .ok ((.newarray .int), 2) ∧ decode (mX3_init).2.1 23 = .ok ((.putfield 21), 3) ∧ decode (mX3_init).2.1 26 = .ok ((.return_), 1) := by decide +kernel
theorem dX3_init_20 : Dc mX3_init 20 (.iconst 4) 1 21 := ⟨k_dX3_init_20.1, rfl⟩
theorem dX3_init_21 : Dc mX3_init 21 (.newarray .int) 2 23 := ⟨k_dX3_init_20.2.1, rfl⟩
theorem dX3_init_23 : Dc mX3_init 23 (.putfield 21) 3 26 := ⟨k_dX3_init_20.2.2.1, rfl⟩
theorem dX3_init_26 : Dc mX3_init 26 (.return_) 1 27 := ⟨k_dX3_init_20.2.2.2, rfl⟩
theorem k_dX3_begin_0 : decode (mX3_begin).2.1 0 = .ok ((.aload_n 0), 1) ∧ decode (mX3_begin).2.1 1 = .ok ((.iconst 0), 1) ∧ decode (mX3_begin).2.1 2 = .ok ((.putfield 18), 3) ∧ decode (mX3_begin).2.1 5 = .ok ((.aload_n 0), 1) ∧ decode (mX3_begin).2.1 6 = .ok ((.iconst (-1)), 1) ∧ decode (mX3_begin).2.1 7 = .ok ((.putfield 15), 3) := by decide +kernel
theorem dX3_begin_0 : Dc mX3_begin 0 (.aload_n 0) 1 1 := ⟨k_dX3_begin_0.1, rfl⟩
theorem dX3_begin_1 : Dc mX3_begin 1 (.iconst 0) 1 2 := ⟨k_dX3_begin_0.2.1, rfl⟩
theorem dX3_begin_2 : Dc mX3_begin 2 (.putfield 18) 3 5 := ⟨k_dX3_begin_0.2.2.1, rfl⟩
theorem dX3_begin_5 : Dc mX3_begin 5 (.aload_n 0) 1 6 := ⟨k_dX3_begin_0.2.2.2.1, rfl⟩
theorem dX3_begin_6 : Dc mX3_begin 6 (.iconst (-1)) 1 7 := ⟨k_dX3_begin_0.2.2.2.2.1, rfl⟩
theorem dX3_begin_7 : Dc mX3_begin 7 (.putfield 15) 3 10 := ⟨k_dX3_begin_0.2.2.2.2.2, rfl⟩
theorem k_dX3_begin_10 : decode (mX3_begin).2.1 10 = .ok ((.aload_n 0), 1) ∧ decode (mX3_begin).2.1 11 = .ok ((.iconst 0), 1) ∧ decode (mX3_begin).2.1 12 = .ok ((.putfield 9), 3) ∧ decode (mX3_begin).2.1 15 = .ok ((.iconst 0), 1) ∧ decode (mX3_begin).2.1 16 = .ok ((.istore_n 3), 1) ∧ decode (mX3_begin).2.1 17 = .ok ((.iload_n 3), 1) := by decide +kernel
theorem dX3_begin_10 : Dc mX3_begin 10 (.aload_n 0) 1 11 := ⟨k_dX3_begin_10.1, rfl⟩
theorem dX3_begin_11 : Dc mX3_begin 11 (.iconst 0) 1 12 := ⟨k_dX3_begin_10.2.1, rfl⟩
theorem dX3_begin_12 : Dc mX3_begin 12 (.putfield 9) 3 15 := ⟨k_dX3_begin_10.2.2.1, rfl⟩
theorem dX3_begin_15 : Dc mX3_begin 15 (.iconst 0) 1 16 := ⟨k_dX3_begin_10.2.2.2.1, rfl⟩
theorem dX3_begin_16 : Dc mX3_begin 16 (.istore_n 3) 1 17 := ⟨k_dX3_begin_10.2.2.2.2.1, rfl⟩
theorem dX3_begin_17 : Dc mX3_begin 17 (.iload_n 3) 1 18 := ⟨k_dX3_begin_10.2.2.2.2.2, rfl⟩
theorem k_dX3_begin_18 : decode (mX3_begin).2.1 18 = .ok ((.iload_n 2), 1) ∧ decode (mX3_begin).2.1 19 = .ok ((.if_icmp .ge 50), 3) ∧ decode (mX3_begin).2.1 22 = .ok ((.aload_n 0), 1) ∧ decode (mX3_begin).2.1 23 = .ok ((.getfield 18), 3) ∧ decode (mX3_begin).2.1 26 = .ok ((.iconst 4), 1) ∧ decode (mX3_begin).2.1 27 = .ok ((.if_icmp .ge 42), 3) := by decide +kernel
theorem dX3_begin_18 : Dc mX3_begin 18 (.iload_n 2) 1 19 := ⟨k_dX3_begin_18.1, rfl⟩
theorem dX3_begin_19 : Dc mX3_begin 19 (.if_icmp .ge 50) 3 22 := ⟨k_dX3_begin_18.2.1, rfl⟩
theorem dX3_begin_22 : Dc mX3_begin 22 (.aload_n 0) 1 23 := ⟨k_dX3_begin_18.2.2.1, rfl⟩
theorem dX3_begin_23 : Dc mX3_begin 23 (.getfield 18) 3 26 := ⟨k_dX3_begin_18.2.2.2.1, rfl⟩
theorem dX3_begin_26 : Dc mX3_begin 26 (.iconst 4) 1 27 := ⟨k_dX3_begin_18.2.2.2.2.1, rfl⟩
theorem dX3_begin_27 : Dc mX3_begin 27 (.if_icmp .ge 42) 3 30 := ⟨k_dX3_begin_18.2.2.2.2.2, rfl⟩
theorem k_dX3_begin_30 : decode (mX3_begin).2.1 30 = .ok ((.aload_n 1), 1) ∧ decode (mX3_begin).2.1 31 = .ok ((.getfield 25), 3) ∧ decode (mX3_begin).2.1 34 = .ok ((.iload_n 3), 1) ∧ decode (mX3_begin).2.1 35 = .ok ((.invokestatic 30), 3) ∧ decode (mX3_begin).2.1 38 = .ok ((.ifCond .ne 25), 3) ∧ decode (mX3_begin).2.1 41 = .ok ((.aload_n 0), 1) := by decide +kernel
theorem dX3_begin_30 : Dc mX3_begin 30 (.aload_n 1) 1 31 := ⟨k_dX3_begin_30.1, rfl⟩
theorem dX3_begin_31 : Dc mX3_begin 31 (.getfield 25) 3 34 := ⟨k_dX3_begin_30.2.1, rfl⟩
theorem dX3_begin_34 : Dc mX3_begin 34 (.iload_n 3) 1 35 := ⟨k_dX3_begin_30.2.2.1, rfl⟩
theorem dX3_begin_35 : Dc mX3_begin 35 (.invokestatic 30) 3 38 := ⟨k_dX3_begin_30.2.2.2.1, rfl⟩
theorem dX3_begin_38 : Dc mX3_begin 38 (.ifCond .ne 25) 3 41 := ⟨k_dX3_begin_30.2.2.2.2.1, rfl⟩
theorem dX3_begin_41 : Dc mX3_begin 41 (.aload_n 0) 1 42 := ⟨k_dX3_begin_30.2.2.2.2.2, rfl⟩
theorem k_dX3_begin_42 : decode (mX3_begin).2.1 42 = .ok ((.getfield 21), 3) ∧ decode (mX3_begin).2.1 45 = .ok ((.aload_n 0), 1) ∧ decode (mX3_begin).2.1 46 = .ok ((.getfield 18), 3) ∧ decode (mX3_begin).2.1 49 = .ok ((.iload_n 3), 1) ∧ decode (mX3_begin).2.1 50 = .ok ((.invokestatic 34), 3) ∧ decode (mX3_begin).2.1 53 = .ok ((.aload_n 0), 1) := by decide +kernel
theorem dX3_begin_42 : Dc mX3_begin 42 (.getfield 21) 3 45 := ⟨k_dX3_begin_42.1, rfl⟩
theorem dX3_begin_45 : Dc mX3_begin 45 (.aload_n 0) 1 46 := ⟨k_dX3_begin_42.2.1, rfl⟩
theorem dX3_begin_46 : Dc mX3_begin 46 (.getfield 18) 3 49 := ⟨k_dX3_begin_42.2.2.1, rfl⟩
theorem dX3_begin_49 : Dc mX3_begin 49 (.iload_n 3) 1 50 := ⟨k_dX3_begin_42.2.2.2.1, rfl⟩
theorem dX3_begin_50 : Dc mX3_begin 50 (.invokestatic 34) 3 53 := ⟨k_dX3_begin_42.2.2.2.2.1, rfl⟩
theorem dX3_begin_53 : Dc mX3_begin 53 (.aload_n 0) 1 54 := ⟨k_dX3_begin_42.2.2.2.2.2, rfl⟩
theorem k_dX3_begin_54 : decode (mX3_begin).2.1 54 = .ok ((.dup), 1) ∧ decode (mX3_begin).2.1 55 = .ok ((.getfield 18), 3) ∧ decode (mX3_begin).2.1 58 = .ok ((.iconst 1), 1) ∧ decode (mX3_begin).2.1 59 = .ok ((.iadd), 1) ∧ decode (mX3_begin).2.1 60 = .ok ((.putfield 18), 3) ∧ decode (mX3_begin).2.1 63 = .ok ((.iinc 3 1), 3) := by decide +kernel
theorem dX3_begin_54 : Dc mX3_begin 54 (.dup) 1 55 := ⟨k_dX3_begin_54.1, rfl⟩
theorem dX3_begin_55 : Dc mX3_begin 55 (.getfield 18) 3 58 := ⟨k_dX3_begin_54.2.1, rfl⟩
theorem dX3_begin_58 : Dc mX3_begin 58 (.iconst 1) 1 59 := ⟨k_dX3_begin_54.2.2.1, rfl⟩
theorem dX3_begin_59 : Dc mX3_begin 59 (.iadd) 1 60 := ⟨k_dX3_begin_54.2.2.2.1, rfl⟩
theorem dX3_begin_60 : Dc mX3_begin 60 (.putfield 18) 3 63 := ⟨k_dX3_begin_54.2.2.2.2.1, rfl⟩
theorem dX3_begin_63 : Dc mX3_begin 63 (.iinc 3 1) 3 66 := ⟨k_dX3_begin_54.2.2.2.2.2, rfl⟩
theorem k_dX3_begin_66 : decode (mX3_begin).2.1 66 = .ok ((.goto (-49)), 3) ∧ decode (mX3_begin).2.1 69 = .ok ((.return_), 1) := by decide +kernel
theorem dX3_begin_66 : Dc mX3_begin 66 (.goto (-49)) 3 69 := ⟨k_dX3_begin_66.1, rfl⟩
theorem dX3_begin_69 : Dc mX3_begin 69 (.return_) 1 70 := ⟨k_dX3_begin_66.2, rfl⟩
theorem k_dX3_pick_0 : decode (mX3_pick).2.1 0 = .ok ((.iload_n 0), 1) ∧ decode (mX3_pick).2.1 1 = .ok ((.iconst 2), 1) ∧ decode (mX3_pick).2.1 2 = .ok ((.iconst 3), 1) ∧ decode (mX3_pick).2.1 3 = .ok ((.iload_n 1), 1) ∧ decode (mX3_pick).2.1 4 = .ok ((.isub), 1) ∧ decode (mX3_pick).2.1 5 = .ok ((.imul), 1) := by decide +kernel
theorem dX3_pick_0 : Dc mX3_pick 0 (.iload_n 0) 1 1 := ⟨k_dX3_pick_0.1, rfl⟩
theorem dX3_pick_1 : Dc mX3_pick 1 (.iconst 2) 1 2 := ⟨k_dX3_pick_0.2.1, rfl⟩
theorem dX3_pick_2 : Dc mX3_pick 2 (.iconst 3) 1 3 := ⟨k_dX3_pick_0.2.2.1, rfl⟩
theorem dX3_pick_3 : Dc mX3_pick 3 (.iload_n 1) 1 4 := ⟨k_dX3_pick_0.2.2.2.1, rfl⟩
theorem dX3_pick_4 : Dc mX3_pick 4 (.isub) 1 5 := ⟨k_dX3_pick_0.2.2.2.2.1, rfl⟩
theorem dX3_pick_5 : Dc mX3_pick 5 (.imul) 1 6 := ⟨k_dX3_pick_0.2.2.2.2.2, rfl⟩
theorem k_dX3_pick_6 : decode (mX3_pick).2.1 6 = .ok ((.ishr), 1) ∧ decode (mX3_pick).2.1 7 = .ok ((.iconst 3), 1) ∧ decode (mX3_pick).2.1 8 = .ok ((.iand), 1) ∧ decode (mX3_pick).2.1 9 = .ok ((.ireturn), 1) := by decide +kernel
theorem dX3_pick_6 : Dc mX3_pick 6 (.ishr) 1 7 := ⟨k_dX3_pick_6.1, rfl⟩
theorem dX3_pick_7 : Dc mX3_pick 7 (.iconst 3) 1 8 := ⟨k_dX3_pick_6.2.1, rfl⟩
theorem dX3_pick_8 : Dc mX3_pick 8 (.iand) 1 9 := ⟨k_dX3_pick_6.2.2.1, rfl⟩
theorem dX3_pick_9 : Dc mX3_pick 9 (.ireturn) 1 10 := ⟨k_dX3_pick_6.2.2.2, rfl⟩
theorem k_dX3_isRow_0 : decode (mX3_isRow).2.1 0 = .ok ((.iconst 0), 1) ∧ decode (mX3_isRow).2.1 1 = .ok ((.istore_n 2), 1) ∧ decode (mX3_isRow).2.1 2 = .ok ((.iconst 0), 1) ∧ decode (mX3_isRow).2.1 3 = .ok ((.istore_n 3), 1) ∧ decode (mX3_isRow).2.1 4 = .ok ((.iload_n 3), 1) ∧ decode (mX3_isRow).2.1 5 = .ok ((.iconst 4), 1) := by decide +kernel
theorem dX3_isRow_0 : Dc mX3_isRow 0 (.iconst 0) 1 1 := ⟨k_dX3_isRow_0.1, rfl⟩
theorem dX3_isRow_1 : Dc mX3_isRow 1 (.istore_n 2) 1 2 := ⟨k_dX3_isRow_0.2.1, rfl⟩
theorem dX3_isRow_2 : Dc mX3_isRow 2 (.iconst 0) 1 3 := ⟨k_dX3_isRow_0.2.2.1, rfl⟩
theorem dX3_isRow_3 : Dc mX3_isRow 3 (.istore_n 3) 1 4 := ⟨k_dX3_isRow_0.2.2.2.1, rfl⟩
theorem dX3_isRow_4 : Dc mX3_isRow 4 (.iload_n 3) 1 5 := ⟨k_dX3_isRow_0.2.2.2.2.1, rfl⟩
theorem dX3_isRow_5 : Dc mX3_isRow 5 (.iconst 4) 1 6 := ⟨k_dX3_isRow_0.2.2.2.2.2, rfl⟩
theorem k_dX3_isRow_6 : decode (mX3_isRow).2.1 6 = .ok ((.if_icmp .ge 48), 3) ∧ decode (mX3_isRow).2.1 9 = .ok ((.iload_n 1), 1) ∧ decode (mX3_isRow).2.1 10 = .ok ((.iload_n 3), 1) ∧ decode (mX3_isRow).2.1 11 = .ok ((.invokestatic 38), 3) ∧ decode (mX3_isRow).2.1 14 = .ok ((.istore 4), 2) ∧ decode (mX3_isRow).2.1 16 = .ok ((.iload_n 2), 1) := by decide +kernel
theorem dX3_isRow_6 : Dc mX3_isRow 6 (.if_icmp .ge 48) 3 9 := ⟨k_dX3_isRow_6.1, rfl⟩
theorem dX3_isRow_9 : Dc mX3_isRow 9 (.iload_n 1) 1 10 := ⟨k_dX3_isRow_6.2.1, rfl⟩
theorem dX3_isRow_10 : Dc mX3_isRow 10 (.iload_n 3) 1 11 := ⟨k_dX3_isRow_6.2.2.1, rfl⟩
theorem dX3_isRow_11 : Dc mX3_isRow 11 (.invokestatic 38) 3 14 := ⟨k_dX3_isRow_6.2.2.2.1, rfl⟩
theorem dX3_isRow_14 : Dc mX3_isRow 14 (.istore 4) 2 16 := ⟨k_dX3_isRow_6.2.2.2.2.1, rfl⟩
theorem dX3_isRow_16 : Dc mX3_isRow 16 (.iload_n 2) 1 17 := ⟨k_dX3_isRow_6.2.2.2.2.2, rfl⟩
theorem k_dX3_isRow_17 : decode (mX3_isRow).2.1 17 = .ok ((.iload 4), 2) ∧ decode (mX3_isRow).2.1 19 = .ok ((.ishr), 1) ∧ decode (mX3_isRow).2.1 20 = .ok ((.iconst 1), 1) ∧ decode (mX3_isRow).2.1 21 = .ok ((.iand), 1) ∧ decode (mX3_isRow).2.1 22 = .ok ((.ifCond .ne 17), 3) ∧ decode (mX3_isRow).2.1 25 = .ok ((.iload_n 3), 1) := by decide +kernel
theorem dX3_isRow_17 : Dc mX3_isRow 17 (.iload 4) 2 19 := ⟨k_dX3_isRow_17.1, rfl⟩
theorem dX3_isRow_19 : Dc mX3_isRow 19 (.ishr) 1 20 := ⟨k_dX3_isRow_17.2.1, rfl⟩
theorem dX3_isRow_20 : Dc mX3_isRow 20 (.iconst 1) 1 21 := ⟨k_dX3_isRow_17.2.2.1, rfl⟩
theorem dX3_isRow_21 : Dc mX3_isRow 21 (.iand) 1 22 := ⟨k_dX3_isRow_17.2.2.2.1, rfl⟩
theorem dX3_isRow_22 : Dc mX3_isRow 22 (.ifCond .ne 17) 3 25 := ⟨k_dX3_isRow_17.2.2.2.2.1, rfl⟩
theorem dX3_isRow_25 : Dc mX3_isRow 25 (.iload_n 3) 1 26 := ⟨k_dX3_isRow_17.2.2.2.2.2, rfl⟩
theorem k_dX3_isRow_26 : decode (mX3_isRow).2.1 26 = .ok ((.aload_n 0), 1) ∧ decode (mX3_isRow).2.1 27 = .ok ((.getfield 18), 3) ∧ decode (mX3_isRow).2.1 30 = .ok ((.if_icmp .lt 11), 3) ∧ decode (mX3_isRow).2.1 33 = .ok ((.iload 4), 2) ∧ decode (mX3_isRow).2.1 35 = .ok ((.iload_n 3), 1) ∧ decode (mX3_isRow).2.1 36 = .ok ((.if_icmp .eq 5), 3) := by decide +kernel
theorem dX3_isRow_26 : Dc mX3_isRow 26 (.aload_n 0) 1 27 := ⟨k_dX3_isRow_26.1, rfl⟩
theorem dX3_isRow_27 : Dc mX3_isRow 27 (.getfield 18) 3 30 := ⟨k_dX3_isRow_26.2.1, rfl⟩
theorem dX3_isRow_30 : Dc mX3_isRow 30 (.if_icmp .lt 11) 3 33 := ⟨k_dX3_isRow_26.2.2.1, rfl⟩
theorem dX3_isRow_33 : Dc mX3_isRow 33 (.iload 4) 2 35 := ⟨k_dX3_isRow_26.2.2.2.1, rfl⟩
theorem dX3_isRow_35 : Dc mX3_isRow 35 (.iload_n 3) 1 36 := ⟨k_dX3_isRow_26.2.2.2.2.1, rfl⟩
theorem dX3_isRow_36 : Dc mX3_isRow 36 (.if_icmp .eq 5) 3 39 := ⟨k_dX3_isRow_26.2.2.2.2.2, rfl⟩
theorem k_dX3_isRow_39 : decode (mX3_isRow).2.1 39 = .ok ((.iconst 0), 1) ∧ decode (mX3_isRow).2.1 40 = .ok ((.ireturn), 1) ∧ decode (mX3_isRow).2.1 41 = .ok ((.iload_n 2), 1) ∧ decode (mX3_isRow).2.1 42 = .ok ((.iconst 1), 1) ∧ decode (mX3_isRow).2.1 43 = .ok ((.iload 4), 2) ∧ decode (mX3_isRow).2.1 45 = .ok ((.ishl), 1) := by decide +kernel
theorem dX3_isRow_39 : Dc mX3_isRow 39 (.iconst 0) 1 40 := ⟨k_dX3_isRow_39.1, rfl⟩
theorem dX3_isRow_40 : Dc mX3_isRow 40 (.ireturn) 1 41 := ⟨k_dX3_isRow_39.2.1, rfl⟩
theorem dX3_isRow_41 : Dc mX3_isRow 41 (.iload_n 2) 1 42 := ⟨k_dX3_isRow_39.2.2.1, rfl⟩
theorem dX3_isRow_42 : Dc mX3_isRow 42 (.iconst 1) 1 43 := ⟨k_dX3_isRow_39.2.2.2.1, rfl⟩
theorem dX3_isRow_43 : Dc mX3_isRow 43 (.iload 4) 2 45 := ⟨k_dX3_isRow_39.2.2.2.2.1, rfl⟩
theorem dX3_isRow_45 : Dc mX3_isRow 45 (.ishl) 1 46 := ⟨k_dX3_isRow_39.2.2.2.2.2, rfl⟩
theorem k_dX3_isRow_46 : decode (mX3_isRow).2.1 46 = .ok ((.ior), 1) ∧ decode (mX3_isRow).2.1 47 = .ok ((.istore_n 2), 1) ∧ decode (mX3_isRow).2.1 48 = .ok ((.iinc 3 1), 3) ∧ decode (mX3_isRow).2.1 51 = .ok ((.goto (-47)), 3) ∧ decode (mX3_isRow).2.1 54 = .ok ((.iconst 1), 1) ∧ decode (mX3_isRow).2.1 55 = .ok ((.ireturn), 1) := by decide +kernel
theorem dX3_isRow_46 : Dc mX3_isRow 46 (.ior) 1 47 := ⟨k_dX3_isRow_46.1, rfl⟩
theorem dX3_isRow_47 : Dc mX3_isRow 47 (.istore_n 2) 1 48 := ⟨k_dX3_isRow_46.2.1, rfl⟩
theorem dX3_isRow_48 : Dc mX3_isRow 48 (.iinc 3 1) 3 51 := ⟨k_dX3_isRow_46.2.2.1, rfl⟩
theorem dX3_isRow_51 : Dc mX3_isRow 51 (.goto (-47)) 3 54 := ⟨k_dX3_isRow_46.2.2.2.1, rfl⟩
theorem dX3_isRow_54 : Dc mX3_isRow 54 (.iconst 1) 1 55 := ⟨k_dX3_isRow_46.2.2.2.2.1, rfl⟩
theorem dX3_isRow_55 : Dc mX3_isRow 55 (.ireturn) 1 56 := ⟨k_dX3_isRow_46.2.2.2.2.2, rfl⟩
theorem k_dX3_putDays_0 : decode (mX3_putDays).2.1 0 = .ok ((.iconst 0), 1) ∧ decode (mX3_putDays).2.1 1 = .ok ((.istore_n 3), 1) ∧ decode (mX3_putDays).2.1 2 = .ok ((.iload_n 3), 1) ∧ decode (mX3_putDays).2.1 3 = .ok ((.aload_n 0), 1) ∧ decode (mX3_putDays).2.1 4 = .ok ((.getfield 18), 3) ∧ decode (mX3_putDays).2.1 7 = .ok ((.if_icmp .ge 34), 3) := by decide +kernel
theorem dX3_putDays_0 : Dc mX3_putDays 0 (.iconst 0) 1 1 := ⟨k_dX3_putDays_0.1, rfl⟩
theorem dX3_putDays_1 : Dc mX3_putDays 1 (.istore_n 3) 1 2 := ⟨k_dX3_putDays_0.2.1, rfl⟩
theorem dX3_putDays_2 : Dc mX3_putDays 2 (.iload_n 3) 1 3 := ⟨k_dX3_putDays_0.2.2.1, rfl⟩
theorem dX3_putDays_3 : Dc mX3_putDays 3 (.aload_n 0) 1 4 := ⟨k_dX3_putDays_0.2.2.2.1, rfl⟩
theorem dX3_putDays_4 : Dc mX3_putDays 4 (.getfield 18) 3 7 := ⟨k_dX3_putDays_0.2.2.2.2.1, rfl⟩
theorem dX3_putDays_7 : Dc mX3_putDays 7 (.if_icmp .ge 34) 3 10 := ⟨k_dX3_putDays_0.2.2.2.2.2, rfl⟩
theorem k_dX3_putDays_10 : decode (mX3_putDays).2.1 10 = .ok ((.aload_n 2), 1) ∧ decode (mX3_putDays).2.1 11 = .ok ((.getfield 42), 3) ∧ decode (mX3_putDays).2.1 14 = .ok ((.aload_n 0), 1) ∧ decode (mX3_putDays).2.1 15 = .ok ((.getfield 21), 3) ∧ decode (mX3_putDays).2.1 18 = .ok ((.iload_n 1), 1) ∧ decode (mX3_putDays).2.1 19 = .ok ((.iload_n 3), 1) := by decide +kernel
theorem dX3_putDays_10 : Dc mX3_putDays 10 (.aload_n 2) 1 11 := ⟨k_dX3_putDays_10.1, rfl⟩
theorem dX3_putDays_11 : Dc mX3_putDays 11 (.getfield 42) 3 14 := ⟨k_dX3_putDays_10.2.1, rfl⟩
theorem dX3_putDays_14 : Dc mX3_putDays 14 (.aload_n 0) 1 15 := ⟨k_dX3_putDays_10.2.2.1, rfl⟩
theorem dX3_putDays_15 : Dc mX3_putDays 15 (.getfield 21) 3 18 := ⟨k_dX3_putDays_10.2.2.2.1, rfl⟩
theorem dX3_putDays_18 : Dc mX3_putDays 18 (.iload_n 1) 1 19 := ⟨k_dX3_putDays_10.2.2.2.2.1, rfl⟩
theorem dX3_putDays_19 : Dc mX3_putDays 19 (.iload_n 3) 1 20 := ⟨k_dX3_putDays_10.2.2.2.2.2, rfl⟩
theorem k_dX3_putDays_20 : decode (mX3_putDays).2.1 20 = .ok ((.invokestatic 38), 3) ∧ decode (mX3_putDays).2.1 23 = .ok ((.invokestatic 30), 3) ∧ decode (mX3_putDays).2.1 26 = .ok ((.aload_n 2), 1) ∧ decode (mX3_putDays).2.1 27 = .ok ((.getfield 45), 3) ∧ decode (mX3_putDays).2.1 30 = .ok ((.iload_n 3), 1) ∧ decode (mX3_putDays).2.1 31 = .ok ((.iadd), 1) := by decide +kernel
theorem dX3_putDays_20 : Dc mX3_putDays 20 (.invokestatic 38) 3 23 := ⟨k_dX3_putDays_20.1, rfl⟩
theorem dX3_putDays_23 : Dc mX3_putDays 23 (.invokestatic 30) 3 26 := ⟨k_dX3_putDays_20.2.1, rfl⟩
theorem dX3_putDays_26 : Dc mX3_putDays 26 (.aload_n 2) 1 27 := ⟨k_dX3_putDays_20.2.2.1, rfl⟩
theorem dX3_putDays_27 : Dc mX3_putDays 27 (.getfield 45) 3 30 := ⟨k_dX3_putDays_20.2.2.2.1, rfl⟩
theorem dX3_putDays_30 : Dc mX3_putDays 30 (.iload_n 3) 1 31 := ⟨k_dX3_putDays_20.2.2.2.2.1, rfl⟩
theorem dX3_putDays_31 : Dc mX3_putDays 31 (.iadd) 1 32 := ⟨k_dX3_putDays_20.2.2.2.2.2, rfl⟩
theorem k_dX3_putDays_32 : decode (mX3_putDays).2.1 32 = .ok ((.invokestatic 34), 3) ∧ decode (mX3_putDays).2.1 35 = .ok ((.iinc 3 1), 3) ∧ decode (mX3_putDays).2.1 38 = .ok ((.goto (-36)), 3) ∧ decode (mX3_putDays).2.1 41 = .ok ((.return_), 1) := by decide +kernel
theorem dX3_putDays_32 : Dc mX3_putDays 32 (.invokestatic 34) 3 35 := ⟨k_dX3_putDays_32.1, rfl⟩
theorem dX3_putDays_35 : Dc mX3_putDays 35 (.iinc 3 1) 3 38 := ⟨k_dX3_putDays_32.2.1, rfl⟩
theorem dX3_putDays_38 : Dc mX3_putDays 38 (.goto (-36)) 3 41 := ⟨k_dX3_putDays_32.2.2.1, rfl⟩
theorem dX3_putDays_41 : Dc mX3_putDays 41 (.return_) 1 42 := ⟨k_dX3_putDays_32.2.2.2, rfl⟩
theorem k_dX3_weigh_0 : decode (mX3_weigh).2.1 0 = .ok ((.aload_n 0), 1) ∧ decode (mX3_weigh).2.1 1 = .ok ((.getfield 15), 3) ∧ decode (mX3_weigh).2.1 4 = .ok ((.ifCond .lt 11), 3) ∧ decode (mX3_weigh).2.1 7 = .ok ((.iload_n 2), 1) ∧ decode (mX3_weigh).2.1 8 = .ok ((.aload_n 0), 1) ∧ decode (mX3_weigh).2.1 9 = .ok ((.getfield 9), 3) := by decide +kernel
theorem dX3_weigh_0 : Dc mX3_weigh 0 (.aload_n 0) 1 1 := ⟨k_dX3_weigh_0.1, rfl⟩
theorem dX3_weigh_1 : Dc mX3_weigh 1 (.getfield 15) 3 4 := ⟨k_dX3_weigh_0.2.1, rfl⟩
theorem dX3_weigh_4 : Dc mX3_weigh 4 (.ifCond .lt 11) 3 7 := ⟨k_dX3_weigh_0.2.2.1, rfl⟩
theorem dX3_weigh_7 : Dc mX3_weigh 7 (.iload_n 2) 1 8 := ⟨k_dX3_weigh_0.2.2.2.1, rfl⟩
theorem dX3_weigh_8 : Dc mX3_weigh 8 (.aload_n 0) 1 9 := ⟨k_dX3_weigh_0.2.2.2.2.1, rfl⟩
theorem dX3_weigh_9 : Dc mX3_weigh 9 (.getfield 9) 3 12 := ⟨k_dX3_weigh_0.2.2.2.2.2, rfl⟩
theorem k_dX3_weigh_12 : decode (mX3_weigh).2.1 12 = .ok ((.if_icmp .ge 13), 3) ∧ decode (mX3_weigh).2.1 15 = .ok ((.aload_n 0), 1) ∧ decode (mX3_weigh).2.1 16 = .ok ((.iload_n 1), 1) ∧ decode (mX3_weigh).2.1 17 = .ok ((.putfield 15), 3) ∧ decode (mX3_weigh).2.1 20 = .ok ((.aload_n 0), 1) ∧ decode (mX3_weigh).2.1 21 = .ok ((.iload_n 2), 1) := by decide +kernel
theorem dX3_weigh_12 : Dc mX3_weigh 12 (.if_icmp .ge 13) 3 15 := ⟨k_dX3_weigh_12.1, rfl⟩
theorem dX3_weigh_15 : Dc mX3_weigh 15 (.aload_n 0) 1 16 := ⟨k_dX3_weigh_12.2.1, rfl⟩
theorem dX3_weigh_16 : Dc mX3_weigh 16 (.iload_n 1) 1 17 := ⟨k_dX3_weigh_12.2.2.1, rfl⟩
theorem dX3_weigh_17 : Dc mX3_weigh 17 (.putfield 15) 3 20 := ⟨k_dX3_weigh_12.2.2.2.1, rfl⟩
theorem dX3_weigh_20 : Dc mX3_weigh 20 (.aload_n 0) 1 21 := ⟨k_dX3_weigh_12.2.2.2.2.1, rfl⟩
theorem dX3_weigh_21 : Dc mX3_weigh 21 (.iload_n 2) 1 22 := ⟨k_dX3_weigh_12.2.2.2.2.2, rfl⟩
theorem k_dX3_weigh_22 : decode (mX3_weigh).2.1 22 = .ok ((.putfield 9), 3) ∧ decode (mX3_weigh).2.1 25 = .ok ((.return_), 1) := by decide +kernel
theorem dX3_weigh_22 : Dc mX3_weigh 22 (.putfield 9) 3 25 := ⟨k_dX3_weigh_22.1, rfl⟩
theorem dX3_weigh_25 : Dc mX3_weigh 25 (.return_) 1 26 := ⟨k_dX3_weigh_22.2, rfl⟩
theorem k_dX3_shotAt_0 : decode (mX3_shotAt).2.1 0 = .ok ((.iload_n 1), 1) ∧ decode (mX3_shotAt).2.1 1 = .ok ((.aload_n 0), 1) ∧ decode (mX3_shotAt).2.1 2 = .ok ((.getfield 18), 3) ∧ decode (mX3_shotAt).2.1 5 = .ok ((.if_icmp .ge 21), 3) ∧ decode (mX3_shotAt).2.1 8 = .ok ((.aload_n 0), 1) ∧ decode (mX3_shotAt).2.1 9 = .ok ((.getfield 21), 3) := by decide +kernel
theorem dX3_shotAt_0 : Dc mX3_shotAt 0 (.iload_n 1) 1 1 := ⟨k_dX3_shotAt_0.1, rfl⟩
theorem dX3_shotAt_1 : Dc mX3_shotAt 1 (.aload_n 0) 1 2 := ⟨k_dX3_shotAt_0.2.1, rfl⟩
theorem dX3_shotAt_2 : Dc mX3_shotAt 2 (.getfield 18) 3 5 := ⟨k_dX3_shotAt_0.2.2.1, rfl⟩
theorem dX3_shotAt_5 : Dc mX3_shotAt 5 (.if_icmp .ge 21) 3 8 := ⟨k_dX3_shotAt_0.2.2.2.1, rfl⟩
theorem dX3_shotAt_8 : Dc mX3_shotAt 8 (.aload_n 0) 1 9 := ⟨k_dX3_shotAt_0.2.2.2.2.1, rfl⟩
theorem dX3_shotAt_9 : Dc mX3_shotAt 9 (.getfield 21) 3 12 := ⟨k_dX3_shotAt_0.2.2.2.2.2, rfl⟩
theorem k_dX3_shotAt_12 : decode (mX3_shotAt).2.1 12 = .ok ((.aload_n 0), 1) ∧ decode (mX3_shotAt).2.1 13 = .ok ((.getfield 15), 3) ∧ decode (mX3_shotAt).2.1 16 = .ok ((.iload_n 1), 1) ∧ decode (mX3_shotAt).2.1 17 = .ok ((.invokestatic 38), 3) ∧ decode (mX3_shotAt).2.1 20 = .ok ((.invokestatic 30), 3) ∧ decode (mX3_shotAt).2.1 23 = .ok ((.goto 5), 3) := by decide +kernel
theorem dX3_shotAt_12 : Dc mX3_shotAt 12 (.aload_n 0) 1 13 := ⟨k_dX3_shotAt_12.1, rfl⟩
theorem dX3_shotAt_13 : Dc mX3_shotAt 13 (.getfield 15) 3 16 := ⟨k_dX3_shotAt_12.2.1, rfl⟩
theorem dX3_shotAt_16 : Dc mX3_shotAt 16 (.iload_n 1) 1 17 := ⟨k_dX3_shotAt_12.2.2.1, rfl⟩
theorem dX3_shotAt_17 : Dc mX3_shotAt 17 (.invokestatic 38) 3 20 := ⟨k_dX3_shotAt_12.2.2.2.1, rfl⟩
theorem dX3_shotAt_20 : Dc mX3_shotAt 20 (.invokestatic 30) 3 23 := ⟨k_dX3_shotAt_12.2.2.2.2.1, rfl⟩
theorem dX3_shotAt_23 : Dc mX3_shotAt 23 (.goto 5) 3 26 := ⟨k_dX3_shotAt_12.2.2.2.2.2, rfl⟩
theorem k_dX3_shotAt_26 : decode (mX3_shotAt).2.1 26 = .ok ((.bipush (-2)), 2) ∧ decode (mX3_shotAt).2.1 28 = .ok ((.ireturn), 1) := by decide +kernel
theorem dX3_shotAt_26 : Dc mX3_shotAt 26 (.bipush (-2)) 2 28 := ⟨k_dX3_shotAt_26.1, rfl⟩
theorem dX3_shotAt_28 : Dc mX3_shotAt 28 (.ireturn) 1 29 := ⟨k_dX3_shotAt_26.2, rfl⟩
theorem k_dX4_init_0 : decode (mX4_init).2.1 0 = .ok ((.aload_n 0), 1) ∧ decode (mX4_init).2.1 1 = .ok ((.invokespecial 3), 3) ∧ decode (mX4_init).2.1 4 = .ok ((.aload_n 0), 1) ∧ decode (mX4_init).2.1 5 = .ok ((.new 9), 3) ∧ decode (mX4_init).2.1 8 = .ok ((.dup), 1) ∧ decode (mX4_init).2.1 9 = .ok ((.invokespecial 11), 3) := by decide +kernel
theorem dX4_init_0 : Dc mX4_init 0 (.aload_n 0) 1 1 := ⟨k_dX4_init_0.1, rfl⟩
theorem dX4_init_1 : Dc mX4_init 1 (.invokespecial 3) 3 4 := ⟨k_dX4_init_0.2.1, rfl⟩
theorem dX4_init_4 : Dc mX4_init 4 (.aload_n 0) 1 5 := ⟨k_dX4_init_0.2.2.1, rfl⟩
theorem dX4_init_5 : Dc mX4_init 5 (.new 9) 3 8 := ⟨k_dX4_init_0.2.2.2.1, rfl⟩
theorem dX4_init_8 : Dc mX4_init 8 (.dup) 1 9 := ⟨k_dX4_init_0.2.2.2.2.1, rfl⟩
theorem dX4_init_9 : Dc mX4_init 9 (.invokespecial 11) 3 12 := ⟨k_dX4_init_0.2.2.2.2.2, rfl⟩
theorem k_dX4_init_12 : decode (mX4_init).2.1 12 = .ok ((.putfield 12), 3) ∧ decode (mX4_init).2.1 15 = .ok ((.aload_n 0), 1) ∧ decode (mX4_init).2.1 16 = .ok ((.iconst 0), 1) ∧ decode (mX4_init).2.1 17 = .ok ((.putfield 18), 3) ∧ decode (mX4_init).2.1 20 = .ok ((.aload_n 0), 1) ∧ decode (mX4_init).2.1 21 = .ok ((.iconst (-1)), 1) := by decide +kernel
theorem dX4_init_12 : Dc mX4_init 12 (.putfield 12) 3 15 := ⟨k_dX4_init_12.1, rfl⟩
theorem dX4_init_15 : Dc mX4_init 15 (.aload_n 0) 1 16 := ⟨k_dX4_init_12.2.1, rfl⟩
theorem dX4_init_16 : Dc mX4_init 16 (.iconst 0) 1 17 := ⟨k_dX4_init_12.2.2.1, rfl⟩
theorem dX4_init_17 : Dc mX4_init 17 (.putfield 18) 3 20 := ⟨k_dX4_init_12.2.2.2.1, rfl⟩
theorem dX4_init_20 : Dc mX4_init 20 (.aload_n 0) 1 21 := ⟨k_dX4_init_12.2.2.2.2.1, rfl⟩
theorem dX4_init_21 : Dc mX4_init 21 (.iconst (-1)) 1 22 := ⟨k_dX4_init_12.2.2.2.2.2, rfl⟩
theorem k_dX4_init_22 : decode (mX4_init).2.1 22 = .ok ((.putfield 22), 3) ∧ decode (mX4_init).2.1 25 = .ok ((.aload_n 0), 1) ∧ decode (mX4_init).2.1 26 = .ok ((.new 25), 3) ∧ decode (mX4_init).2.1 29 = .ok ((.dup), 1) ∧ decode (mX4_init).2.1 30 = .ok ((.invokespecial 27), 3) ∧ decode (mX4_init).2.1 33 = .ok ((.putfield 28), 3) := by decide +kernel
theorem dX4_init_22 : Dc mX4_init 22 (.putfield 22) 3 25 := ⟨k_dX4_init_22.1, rfl⟩
theorem dX4_init_25 : Dc mX4_init 25 (.aload_n 0) 1 26 := ⟨k_dX4_init_22.2.1, rfl⟩
theorem dX4_init_26 : Dc mX4_init 26 (.new 25) 3 29 := ⟨k_dX4_init_22.2.2.1, rfl⟩
theorem dX4_init_29 : Dc mX4_init 29 (.dup) 1 30 := ⟨k_dX4_init_22.2.2.2.1, rfl⟩
theorem dX4_init_30 : Dc mX4_init 30 (.invokespecial 27) 3 33 := ⟨k_dX4_init_22.2.2.2.2.1, rfl⟩
theorem dX4_init_33 : Dc mX4_init 33 (.putfield 28) 3 36 := ⟨k_dX4_init_22.2.2.2.2.2, rfl⟩
theorem k_dX4_init_36 : decode (mX4_init).2.1 36 = .ok ((.aload_n 0), 1) ∧ decode (mX4_init).2.1 37 = .ok ((.bipush 72), 2) ∧ decode (mX4_init).2.1 39 = .ok ((.newarray .int), 2) ∧ decode (mX4_init).2.1 41 = .ok ((.putfield 32), 3) ∧ decode (mX4_init).2.1 44 = .ok ((.aload_n 0), 1) ∧ decode (mX4_init).2.1 45 = .ok ((.bipush 72), 2) := by decide +kernel
theorem dX4_init_36 : Dc mX4_init 36 (.aload_n 0) 1 37 := ⟨k_dX4_init_36.1, rfl⟩
theorem dX4_init_37 : Dc mX4_init 37 (.bipush 72) 2 39 := ⟨k_dX4_init_36.2.1, rfl⟩
theorem dX4_init_39 : Dc mX4_init 39 (.newarray .int) 2 41 := ⟨k_dX4_init_36.2.2.1, rfl⟩
theorem dX4_init_41 : Dc mX4_init 41 (.putfield 32) 3 44 := ⟨k_dX4_init_36.2.2.2.1, rfl⟩
theorem dX4_init_44 : Dc mX4_init 44 (.aload_n 0) 1 45 := ⟨k_dX4_init_36.2.2.2.2.1, rfl⟩
theorem dX4_init_45 : Dc mX4_init 45 (.bipush 72) 2 47 := ⟨k_dX4_init_36.2.2.2.2.2, rfl⟩
theorem k_dX4_init_47 : decode (mX4_init).2.1 47 = .ok ((.newarray .int), 2) ∧ decode (mX4_init).2.1 49 = .ok ((.putfield 36), 3) ∧ decode (mX4_init).2.1 52 = .ok ((.aload_n 0), 1) ∧ decode (mX4_init).2.1 53 = .ok ((.iconst 0), 1) ∧ decode (mX4_init).2.1 54 = .ok ((.putfield 39), 3) ∧ decode (mX4_init).2.1 57 = .ok ((.aload_n 0), 1) := by decide +kernel
theorem dX4_init_47 : Dc mX4_init 47 (.newarray .int) 2 49 := ⟨k_dX4_init_47.1, rfl⟩
theorem dX4_init_49 : Dc mX4_init 49 (.putfield 36) 3 52 := ⟨k_dX4_init_47.2.1, rfl⟩
theorem dX4_init_52 : Dc mX4_init 52 (.aload_n 0) 1 53 := ⟨k_dX4_init_47.2.2.1, rfl⟩
theorem dX4_init_53 : Dc mX4_init 53 (.iconst 0) 1 54 := ⟨k_dX4_init_47.2.2.2.1, rfl⟩
theorem dX4_init_54 : Dc mX4_init 54 (.putfield 39) 3 57 := ⟨k_dX4_init_47.2.2.2.2.1, rfl⟩
theorem dX4_init_57 : Dc mX4_init 57 (.aload_n 0) 1 58 := ⟨k_dX4_init_47.2.2.2.2.2, rfl⟩
theorem k_dX4_init_58 : decode (mX4_init).2.1 58 = .ok ((.iconst 0), 1) ∧ decode (mX4_init).2.1 59 = .ok ((.putfield 42), 3) ∧ decode (mX4_init).2.1 62 = .ok ((.return_), 1) := by decide +kernel
theorem dX4_init_58 : Dc mX4_init 58 (.iconst 0) 1 59 := ⟨k_dX4_init_58.1, rfl⟩
theorem dX4_init_59 : Dc mX4_init 59 (.putfield 42) 3 62 := ⟨k_dX4_init_58.2.1, rfl⟩
theorem dX4_init_62 : Dc mX4_init 62 (.return_) 1 63 := ⟨k_dX4_init_58.2.2, rfl⟩
theorem k_dX4_read_0 : decode (mX4_read).2.1 0 = .ok ((.aload_n 0), 1) ∧ decode (mX4_read).2.1 1 = .ok ((.iconst 0), 1) ∧ decode (mX4_read).2.1 2 = .ok ((.putfield 18), 3) ∧ decode (mX4_read).2.1 5 = .ok ((.aload_n 0), 1) ∧ decode (mX4_read).2.1 6 = .ok ((.iconst (-1)), 1) ∧ decode (mX4_read).2.1 7 = .ok ((.putfield 22), 3) := by decide +kernel
theorem dX4_read_0 : Dc mX4_read 0 (.aload_n 0) 1 1 := ⟨k_dX4_read_0.1, rfl⟩
theorem dX4_read_1 : Dc mX4_read 1 (.iconst 0) 1 2 := ⟨k_dX4_read_0.2.1, rfl⟩
theorem dX4_read_2 : Dc mX4_read 2 (.putfield 18) 3 5 := ⟨k_dX4_read_0.2.2.1, rfl⟩
theorem dX4_read_5 : Dc mX4_read 5 (.aload_n 0) 1 6 := ⟨k_dX4_read_0.2.2.2.1, rfl⟩
theorem dX4_read_6 : Dc mX4_read 6 (.iconst (-1)) 1 7 := ⟨k_dX4_read_0.2.2.2.2.1, rfl⟩
theorem dX4_read_7 : Dc mX4_read 7 (.putfield 22) 3 10 := ⟨k_dX4_read_0.2.2.2.2.2, rfl⟩
theorem k_dX4_read_10 : decode (mX4_read).2.1 10 = .ok ((.aload_n 0), 1) ∧ decode (mX4_read).2.1 11 = .ok ((.getfield 12), 3) ∧ decode (mX4_read).2.1 14 = .ok ((.invokevirtual 45), 3) ∧ decode (mX4_read).2.1 17 = .ok ((.aload_n 0), 1) ∧ decode (mX4_read).2.1 18 = .ok ((.getfield 28), 3) ∧ decode (mX4_read).2.1 21 = .ok ((.aload_n 1), 1) := by decide +kernel
theorem dX4_read_10 : Dc mX4_read 10 (.aload_n 0) 1 11 := ⟨k_dX4_read_10.1, rfl⟩
theorem dX4_read_11 : Dc mX4_read 11 (.getfield 12) 3 14 := ⟨k_dX4_read_10.2.1, rfl⟩
theorem dX4_read_14 : Dc mX4_read 14 (.invokevirtual 45) 3 17 := ⟨k_dX4_read_10.2.2.1, rfl⟩
theorem dX4_read_17 : Dc mX4_read 17 (.aload_n 0) 1 18 := ⟨k_dX4_read_10.2.2.2.1, rfl⟩
theorem dX4_read_18 : Dc mX4_read 18 (.getfield 28) 3 21 := ⟨k_dX4_read_10.2.2.2.2.1, rfl⟩
theorem dX4_read_21 : Dc mX4_read 21 (.aload_n 1) 1 22 := ⟨k_dX4_read_10.2.2.2.2.2, rfl⟩
theorem k_dX4_read_22 : decode (mX4_read).2.1 22 = .ok ((.iload_n 2), 1) ∧ decode (mX4_read).2.1 23 = .ok ((.invokevirtual 48), 3) ∧ decode (mX4_read).2.1 26 = .ok ((.iconst 0), 1) ∧ decode (mX4_read).2.1 27 = .ok ((.istore_n 3), 1) ∧ decode (mX4_read).2.1 28 = .ok ((.iload_n 3), 1) ∧ decode (mX4_read).2.1 29 = .ok ((.iload_n 2), 1) := by decide +kernel
theorem dX4_read_22 : Dc mX4_read 22 (.iload_n 2) 1 23 := ⟨k_dX4_read_22.1, rfl⟩
theorem dX4_read_23 : Dc mX4_read 23 (.invokevirtual 48) 3 26 := ⟨k_dX4_read_22.2.1, rfl⟩
theorem dX4_read_26 : Dc mX4_read 26 (.iconst 0) 1 27 := ⟨k_dX4_read_22.2.2.1, rfl⟩
theorem dX4_read_27 : Dc mX4_read 27 (.istore_n 3) 1 28 := ⟨k_dX4_read_22.2.2.2.1, rfl⟩
theorem dX4_read_28 : Dc mX4_read 28 (.iload_n 3) 1 29 := ⟨k_dX4_read_22.2.2.2.2.1, rfl⟩
theorem dX4_read_29 : Dc mX4_read 29 (.iload_n 2) 1 30 := ⟨k_dX4_read_22.2.2.2.2.2, rfl⟩
theorem k_dX4_read_30 : decode (mX4_read).2.1 30 = .ok ((.if_icmp .gt 66), 3) ∧ decode (mX4_read).2.1 33 = .ok ((.aload_n 0), 1) ∧ decode (mX4_read).2.1 34 = .ok ((.getfield 18), 3) ∧ decode (mX4_read).2.1 37 = .ok ((.ifCond .ne 59), 3) ∧ decode (mX4_read).2.1 40 = .ok ((.aload_n 0), 1) ∧ decode (mX4_read).2.1 41 = .ok ((.getfield 28), 3) := by decide +kernel
theorem dX4_read_30 : Dc mX4_read 30 (.if_icmp .gt 66) 3 33 := ⟨k_dX4_read_30.1, rfl⟩
theorem dX4_read_33 : Dc mX4_read 33 (.aload_n 0) 1 34 := ⟨k_dX4_read_30.2.1, rfl⟩
theorem dX4_read_34 : Dc mX4_read 34 (.getfield 18) 3 37 := ⟨k_dX4_read_30.2.2.1, rfl⟩
theorem dX4_read_37 : Dc mX4_read 37 (.ifCond .ne 59) 3 40 := ⟨k_dX4_read_30.2.2.2.1, rfl⟩
theorem dX4_read_40 : Dc mX4_read 40 (.aload_n 0) 1 41 := ⟨k_dX4_read_30.2.2.2.2.1, rfl⟩
theorem dX4_read_41 : Dc mX4_read 41 (.getfield 28) 3 44 := ⟨k_dX4_read_30.2.2.2.2.2, rfl⟩
theorem k_dX4_read_44 : decode (mX4_read).2.1 44 = .ok ((.getfield 52), 3) ∧ decode (mX4_read).2.1 47 = .ok ((.ifCond .eq 49), 3) ∧ decode (mX4_read).2.1 50 = .ok ((.aload_n 0), 1) ∧ decode (mX4_read).2.1 51 = .ok ((.invokevirtual 55), 3) ∧ decode (mX4_read).2.1 54 = .ok ((.aload_n 0), 1) ∧ decode (mX4_read).2.1 55 = .ok ((.getfield 28), 3) := by decide +kernel
theorem dX4_read_44 : Dc mX4_read 44 (.getfield 52) 3 47 := ⟨k_dX4_read_44.1, rfl⟩
theorem dX4_read_47 : Dc mX4_read 47 (.ifCond .eq 49) 3 50 := ⟨k_dX4_read_44.2.1, rfl⟩
theorem dX4_read_50 : Dc mX4_read 50 (.aload_n 0) 1 51 := ⟨k_dX4_read_44.2.2.1, rfl⟩
theorem dX4_read_51 : Dc mX4_read 51 (.invokevirtual 55) 3 54 := ⟨k_dX4_read_44.2.2.2.1, rfl⟩
theorem dX4_read_54 : Dc mX4_read 54 (.aload_n 0) 1 55 := ⟨k_dX4_read_44.2.2.2.2.1, rfl⟩
theorem dX4_read_55 : Dc mX4_read 55 (.getfield 28) 3 58 := ⟨k_dX4_read_44.2.2.2.2.2, rfl⟩
theorem k_dX4_read_58 : decode (mX4_read).2.1 58 = .ok ((.getfield 52), 3) ∧ decode (mX4_read).2.1 61 = .ok ((.iconst 4), 1) ∧ decode (mX4_read).2.1 62 = .ok ((.if_icmp .eq 8), 3) ∧ decode (mX4_read).2.1 65 = .ok ((.aload_n 0), 1) ∧ decode (mX4_read).2.1 66 = .ok ((.iconst 1), 1) ∧ decode (mX4_read).2.1 67 = .ok ((.invokevirtual 58), 3) := by decide +kernel
theorem dX4_read_58 : Dc mX4_read 58 (.getfield 52) 3 61 := ⟨k_dX4_read_58.1, rfl⟩
theorem dX4_read_61 : Dc mX4_read 61 (.iconst 4) 1 62 := ⟨k_dX4_read_58.2.1, rfl⟩
theorem dX4_read_62 : Dc mX4_read 62 (.if_icmp .eq 8) 3 65 := ⟨k_dX4_read_58.2.2.1, rfl⟩
theorem dX4_read_65 : Dc mX4_read 65 (.aload_n 0) 1 66 := ⟨k_dX4_read_58.2.2.2.1, rfl⟩
theorem dX4_read_66 : Dc mX4_read 66 (.iconst 1) 1 67 := ⟨k_dX4_read_58.2.2.2.2.1, rfl⟩
theorem dX4_read_67 : Dc mX4_read 67 (.invokevirtual 58) 3 70 := ⟨k_dX4_read_58.2.2.2.2.2, rfl⟩
theorem k_dX4_read_70 : decode (mX4_read).2.1 70 = .ok ((.aload_n 0), 1) ∧ decode (mX4_read).2.1 71 = .ok ((.getfield 12), 3) ∧ decode (mX4_read).2.1 74 = .ok ((.dup), 1) ∧ decode (mX4_read).2.1 75 = .ok ((.getfield 62), 3) ∧ decode (mX4_read).2.1 78 = .ok ((.iconst 1), 1) ∧ decode (mX4_read).2.1 79 = .ok ((.iadd), 1) := by decide +kernel
theorem dX4_read_70 : Dc mX4_read 70 (.aload_n 0) 1 71 := ⟨k_dX4_read_70.1, rfl⟩
theorem dX4_read_71 : Dc mX4_read 71 (.getfield 12) 3 74 := ⟨k_dX4_read_70.2.1, rfl⟩
theorem dX4_read_74 : Dc mX4_read 74 (.dup) 1 75 := ⟨k_dX4_read_70.2.2.1, rfl⟩
theorem dX4_read_75 : Dc mX4_read 75 (.getfield 62) 3 78 := ⟨k_dX4_read_70.2.2.2.1, rfl⟩
theorem dX4_read_78 : Dc mX4_read 78 (.iconst 1) 1 79 := ⟨k_dX4_read_70.2.2.2.2.1, rfl⟩
theorem dX4_read_79 : Dc mX4_read 79 (.iadd) 1 80 := ⟨k_dX4_read_70.2.2.2.2.2, rfl⟩
theorem k_dX4_read_80 : decode (mX4_read).2.1 80 = .ok ((.putfield 62), 3) ∧ decode (mX4_read).2.1 83 = .ok ((.aload_n 0), 1) ∧ decode (mX4_read).2.1 84 = .ok ((.getfield 28), 3) ∧ decode (mX4_read).2.1 87 = .ok ((.invokevirtual 65), 3) ∧ decode (mX4_read).2.1 90 = .ok ((.iinc 3 1), 3) ∧ decode (mX4_read).2.1 93 = .ok ((.goto (-65)), 3) := by decide +kernel
theorem dX4_read_80 : Dc mX4_read 80 (.putfield 62) 3 83 := ⟨k_dX4_read_80.1, rfl⟩
theorem dX4_read_83 : Dc mX4_read 83 (.aload_n 0) 1 84 := ⟨k_dX4_read_80.2.1, rfl⟩
theorem dX4_read_84 : Dc mX4_read 84 (.getfield 28) 3 87 := ⟨k_dX4_read_80.2.2.1, rfl⟩
theorem dX4_read_87 : Dc mX4_read 87 (.invokevirtual 65) 3 90 := ⟨k_dX4_read_80.2.2.2.1, rfl⟩
theorem dX4_read_90 : Dc mX4_read 90 (.iinc 3 1) 3 93 := ⟨k_dX4_read_80.2.2.2.2.1, rfl⟩
theorem dX4_read_93 : Dc mX4_read 93 (.goto (-65)) 3 96 := ⟨k_dX4_read_80.2.2.2.2.2, rfl⟩
theorem k_dX4_read_96 : decode (mX4_read).2.1 96 = .ok ((.aload_n 0), 1) ∧ decode (mX4_read).2.1 97 = .ok ((.getfield 12), 3) ∧ decode (mX4_read).2.1 100 = .ok ((.invokevirtual 68), 3) ∧ decode (mX4_read).2.1 103 = .ok ((.aload_n 0), 1) ∧ decode (mX4_read).2.1 104 = .ok ((.getfield 18), 3) ∧ decode (mX4_read).2.1 107 = .ok ((.ifCond .ne 7), 3) := by decide +kernel
theorem dX4_read_96 : Dc mX4_read 96 (.aload_n 0) 1 97 := ⟨k_dX4_read_96.1, rfl⟩
theorem dX4_read_97 : Dc mX4_read 97 (.getfield 12) 3 100 := ⟨k_dX4_read_96.2.1, rfl⟩
theorem dX4_read_100 : Dc mX4_read 100 (.invokevirtual 68) 3 103 := ⟨k_dX4_read_96.2.2.1, rfl⟩
theorem dX4_read_103 : Dc mX4_read 103 (.aload_n 0) 1 104 := ⟨k_dX4_read_96.2.2.2.1, rfl⟩
theorem dX4_read_104 : Dc mX4_read 104 (.getfield 18) 3 107 := ⟨k_dX4_read_96.2.2.2.2.1, rfl⟩
theorem dX4_read_107 : Dc mX4_read 107 (.ifCond .ne 7) 3 110 := ⟨k_dX4_read_96.2.2.2.2.2, rfl⟩
theorem k_dX4_read_110 : decode (mX4_read).2.1 110 = .ok ((.iconst 1), 1) ∧ decode (mX4_read).2.1 111 = .ok ((.goto 4), 3) ∧ decode (mX4_read).2.1 114 = .ok ((.iconst 0), 1) ∧ decode (mX4_read).2.1 115 = .ok ((.ireturn), 1) := by decide +kernel
theorem dX4_read_110 : Dc mX4_read 110 (.iconst 1) 1 111 := ⟨k_dX4_read_110.1, rfl⟩
theorem dX4_read_111 : Dc mX4_read 111 (.goto 4) 3 114 := ⟨k_dX4_read_110.2.1, rfl⟩
theorem dX4_read_114 : Dc mX4_read 114 (.iconst 0) 1 115 := ⟨k_dX4_read_110.2.2.1, rfl⟩
theorem dX4_read_115 : Dc mX4_read 115 (.ireturn) 1 116 := ⟨k_dX4_read_110.2.2.2, rfl⟩
theorem k_dX4_fail_0 : decode (mX4_fail).2.1 0 = .ok ((.aload_n 0), 1) ∧ decode (mX4_fail).2.1 1 = .ok ((.getfield 18), 3) ∧ decode (mX4_fail).2.1 4 = .ok ((.ifCond .ne 27), 3) ∧ decode (mX4_fail).2.1 7 = .ok ((.aload_n 0), 1) ∧ decode (mX4_fail).2.1 8 = .ok ((.iload_n 1), 1) ∧ decode (mX4_fail).2.1 9 = .ok ((.putfield 18), 3) := by decide +kernel
theorem dX4_fail_0 : Dc mX4_fail 0 (.aload_n 0) 1 1 := ⟨k_dX4_fail_0.1, rfl⟩
theorem dX4_fail_1 : Dc mX4_fail 1 (.getfield 18) 3 4 := ⟨k_dX4_fail_0.2.1, rfl⟩
theorem dX4_fail_4 : Dc mX4_fail 4 (.ifCond .ne 27) 3 7 := ⟨k_dX4_fail_0.2.2.1, rfl⟩
theorem dX4_fail_7 : Dc mX4_fail 7 (.aload_n 0) 1 8 := ⟨k_dX4_fail_0.2.2.2.1, rfl⟩
theorem dX4_fail_8 : Dc mX4_fail 8 (.iload_n 1) 1 9 := ⟨k_dX4_fail_0.2.2.2.2.1, rfl⟩
theorem dX4_fail_9 : Dc mX4_fail 9 (.putfield 18) 3 12 := ⟨k_dX4_fail_0.2.2.2.2.2, rfl⟩
theorem k_dX4_fail_12 : decode (mX4_fail).2.1 12 = .ok ((.aload_n 0), 1) ∧ decode (mX4_fail).2.1 13 = .ok ((.aload_n 0), 1) ∧ decode (mX4_fail).2.1 14 = .ok ((.getfield 28), 3) ∧ decode (mX4_fail).2.1 17 = .ok ((.getfield 71), 3) ∧ decode (mX4_fail).2.1 20 = .ok ((.putfield 22), 3) ∧ decode (mX4_fail).2.1 23 = .ok ((.aload_n 0), 1) := by decide +kernel
theorem dX4_fail_12 : Dc mX4_fail 12 (.aload_n 0) 1 13 := ⟨k_dX4_fail_12.1, rfl⟩
theorem dX4_fail_13 : Dc mX4_fail 13 (.aload_n 0) 1 14 := ⟨k_dX4_fail_12.2.1, rfl⟩
theorem dX4_fail_14 : Dc mX4_fail 14 (.getfield 28) 3 17 := ⟨k_dX4_fail_12.2.2.1, rfl⟩
theorem dX4_fail_17 : Dc mX4_fail 17 (.getfield 71) 3 20 := ⟨k_dX4_fail_12.2.2.2.1, rfl⟩
theorem dX4_fail_20 : Dc mX4_fail 20 (.putfield 22) 3 23 := ⟨k_dX4_fail_12.2.2.2.2.1, rfl⟩
theorem dX4_fail_23 : Dc mX4_fail 23 (.aload_n 0) 1 24 := ⟨k_dX4_fail_12.2.2.2.2.2, rfl⟩
theorem k_dX4_fail_24 : decode (mX4_fail).2.1 24 = .ok ((.getfield 28), 3) ∧ decode (mX4_fail).2.1 27 = .ok ((.iconst 1), 1) ∧ decode (mX4_fail).2.1 28 = .ok ((.putfield 72), 3) ∧ decode (mX4_fail).2.1 31 = .ok ((.return_), 1) := by decide +kernel
theorem dX4_fail_24 : Dc mX4_fail 24 (.getfield 28) 3 27 := ⟨k_dX4_fail_24.1, rfl⟩
theorem dX4_fail_27 : Dc mX4_fail 27 (.iconst 1) 1 28 := ⟨k_dX4_fail_24.2.1, rfl⟩
theorem dX4_fail_28 : Dc mX4_fail 28 (.putfield 72) 3 31 := ⟨k_dX4_fail_24.2.2.1, rfl⟩
theorem dX4_fail_31 : Dc mX4_fail 31 (.return_) 1 32 := ⟨k_dX4_fail_24.2.2.2, rfl⟩
theorem k_dX4_line_0 : decode (mX4_line).2.1 0 = .ok ((.aload_n 0), 1) ∧ decode (mX4_line).2.1 1 = .ok ((.getfield 28), 3) ∧ decode (mX4_line).2.1 4 = .ok ((.getfield 52), 3) ∧ decode (mX4_line).2.1 7 = .ok ((.tableswitch 172 20 29 #[53, 60, 67, 74, 81, 88, 95, 118, 142, 165]), 53) ∧ decode (mX4_line).2.1 60 = .ok ((.aload_n 0), 1) ∧ decode (mX4_line).2.1 61 = .ok ((.invokevirtual 76), 3) := by decide +kernel
theorem dX4_line_0 : Dc mX4_line 0 (.aload_n 0) 1 1 := ⟨k_dX4_line_0.1, rfl⟩
theorem dX4_line_1 : Dc mX4_line 1 (.getfield 28) 3 4 := ⟨k_dX4_line_0.2.1, rfl⟩
theorem dX4_line_4 : Dc mX4_line 4 (.getfield 52) 3 7 := ⟨k_dX4_line_0.2.2.1, rfl⟩
theorem dX4_line_7 : Dc mX4_line 7 (.tableswitch 172 20 29 #[53, 60, 67, 74, 81, 88, 95, 118, 142, 165]) 53 60 := ⟨k_dX4_line_0.2.2.2.1, rfl⟩
theorem dX4_line_60 : Dc mX4_line 60 (.aload_n 0) 1 61 := ⟨k_dX4_line_0.2.2.2.2.1, rfl⟩
theorem dX4_line_61 : Dc mX4_line 61 (.invokevirtual 76) 3 64 := ⟨k_dX4_line_0.2.2.2.2.2, rfl⟩
theorem k_dX4_line_64 : decode (mX4_line).2.1 64 = .ok ((.goto 120), 3) ∧ decode (mX4_line).2.1 67 = .ok ((.aload_n 0), 1) ∧ decode (mX4_line).2.1 68 = .ok ((.invokevirtual 79), 3) ∧ decode (mX4_line).2.1 71 = .ok ((.goto 113), 3) ∧ decode (mX4_line).2.1 74 = .ok ((.aload_n 0), 1) ∧ decode (mX4_line).2.1 75 = .ok ((.invokevirtual 82), 3) := by decide +kernel
theorem dX4_line_64 : Dc mX4_line 64 (.goto 120) 3 67 := ⟨k_dX4_line_64.1, rfl⟩
theorem dX4_line_67 : Dc mX4_line 67 (.aload_n 0) 1 68 := ⟨k_dX4_line_64.2.1, rfl⟩
theorem dX4_line_68 : Dc mX4_line 68 (.invokevirtual 79) 3 71 := ⟨k_dX4_line_64.2.2.1, rfl⟩
theorem dX4_line_71 : Dc mX4_line 71 (.goto 113) 3 74 := ⟨k_dX4_line_64.2.2.2.1, rfl⟩
theorem dX4_line_74 : Dc mX4_line 74 (.aload_n 0) 1 75 := ⟨k_dX4_line_64.2.2.2.2.1, rfl⟩
theorem dX4_line_75 : Dc mX4_line 75 (.invokevirtual 82) 3 78 := ⟨k_dX4_line_64.2.2.2.2.2, rfl⟩
theorem k_dX4_line_78 : decode (mX4_line).2.1 78 = .ok ((.goto 106), 3) ∧ decode (mX4_line).2.1 81 = .ok ((.aload_n 0), 1) ∧ decode (mX4_line).2.1 82 = .ok ((.invokevirtual 85), 3) ∧ decode (mX4_line).2.1 85 = .ok ((.goto 99), 3) ∧ decode (mX4_line).2.1 88 = .ok ((.aload_n 0), 1) ∧ decode (mX4_line).2.1 89 = .ok ((.invokevirtual 88), 3) := by decide +kernel
theorem dX4_line_78 : Dc mX4_line 78 (.goto 106) 3 81 := ⟨k_dX4_line_78.1, rfl⟩
theorem dX4_line_81 : Dc mX4_line 81 (.aload_n 0) 1 82 := ⟨k_dX4_line_78.2.1, rfl⟩
theorem dX4_line_82 : Dc mX4_line 82 (.invokevirtual 85) 3 85 := ⟨k_dX4_line_78.2.2.1, rfl⟩
theorem dX4_line_85 : Dc mX4_line 85 (.goto 99) 3 88 := ⟨k_dX4_line_78.2.2.2.1, rfl⟩
theorem dX4_line_88 : Dc mX4_line 88 (.aload_n 0) 1 89 := ⟨k_dX4_line_78.2.2.2.2.1, rfl⟩
theorem dX4_line_89 : Dc mX4_line 89 (.invokevirtual 88) 3 92 := ⟨k_dX4_line_78.2.2.2.2.2, rfl⟩
theorem k_dX4_line_92 : decode (mX4_line).2.1 92 = .ok ((.goto 92), 3) ∧ decode (mX4_line).2.1 95 = .ok ((.aload_n 0), 1) ∧ decode (mX4_line).2.1 96 = .ok ((.invokevirtual 91), 3) ∧ decode (mX4_line).2.1 99 = .ok ((.goto 85), 3) ∧ decode (mX4_line).2.1 102 = .ok ((.aload_n 0), 1) ∧ decode (mX4_line).2.1 103 = .ok ((.getfield 12), 3) := by decide +kernel
theorem dX4_line_92 : Dc mX4_line 92 (.goto 92) 3 95 := ⟨k_dX4_line_92.1, rfl⟩
theorem dX4_line_95 : Dc mX4_line 95 (.aload_n 0) 1 96 := ⟨k_dX4_line_92.2.1, rfl⟩
theorem dX4_line_96 : Dc mX4_line 96 (.invokevirtual 91) 3 99 := ⟨k_dX4_line_92.2.2.1, rfl⟩
theorem dX4_line_99 : Dc mX4_line 99 (.goto 85) 3 102 := ⟨k_dX4_line_92.2.2.2.1, rfl⟩
theorem dX4_line_102 : Dc mX4_line 102 (.aload_n 0) 1 103 := ⟨k_dX4_line_92.2.2.2.2.1, rfl⟩
theorem dX4_line_103 : Dc mX4_line 103 (.getfield 12) 3 106 := ⟨k_dX4_line_92.2.2.2.2.2, rfl⟩
theorem k_dX4_line_106 : decode (mX4_line).2.1 106 = .ok ((.aload_n 0), 1) ∧ decode (mX4_line).2.1 107 = .ok ((.aload_n 0), 1) ∧ decode (mX4_line).2.1 108 = .ok ((.getfield 12), 3) ∧ decode (mX4_line).2.1 111 = .ok ((.getfield 94), 3) ∧ decode (mX4_line).2.1 114 = .ok ((.bipush 100), 2) ∧ decode (mX4_line).2.1 116 = .ok ((.invokevirtual 97), 3) := by decide +kernel
theorem dX4_line_106 : Dc mX4_line 106 (.aload_n 0) 1 107 := ⟨k_dX4_line_106.1, rfl⟩
theorem dX4_line_107 : Dc mX4_line 107 (.aload_n 0) 1 108 := ⟨k_dX4_line_106.2.1, rfl⟩
theorem dX4_line_108 : Dc mX4_line 108 (.getfield 12) 3 111 := ⟨k_dX4_line_106.2.2.1, rfl⟩
theorem dX4_line_111 : Dc mX4_line 111 (.getfield 94) 3 114 := ⟨k_dX4_line_106.2.2.2.1, rfl⟩
theorem dX4_line_114 : Dc mX4_line 114 (.bipush 100) 2 116 := ⟨k_dX4_line_106.2.2.2.2.1, rfl⟩
theorem dX4_line_116 : Dc mX4_line 116 (.invokevirtual 97) 3 119 := ⟨k_dX4_line_106.2.2.2.2.2, rfl⟩
theorem k_dX4_line_119 : decode (mX4_line).2.1 119 = .ok ((.putfield 94), 3) ∧ decode (mX4_line).2.1 122 = .ok ((.goto 62), 3) ∧ decode (mX4_line).2.1 125 = .ok ((.aload_n 0), 1) ∧ decode (mX4_line).2.1 126 = .ok ((.getfield 12), 3) ∧ decode (mX4_line).2.1 129 = .ok ((.aload_n 0), 1) ∧ decode (mX4_line).2.1 130 = .ok ((.aload_n 0), 1) := by decide +kernel
theorem dX4_line_119 : Dc mX4_line 119 (.putfield 94) 3 122 := ⟨k_dX4_line_119.1, rfl⟩
theorem dX4_line_122 : Dc mX4_line 122 (.goto 62) 3 125 := ⟨k_dX4_line_119.2.1, rfl⟩
theorem dX4_line_125 : Dc mX4_line 125 (.aload_n 0) 1 126 := ⟨k_dX4_line_119.2.2.1, rfl⟩
theorem dX4_line_126 : Dc mX4_line 126 (.getfield 12) 3 129 := ⟨k_dX4_line_119.2.2.2.1, rfl⟩
theorem dX4_line_129 : Dc mX4_line 129 (.aload_n 0) 1 130 := ⟨k_dX4_line_119.2.2.2.2.1, rfl⟩
theorem dX4_line_130 : Dc mX4_line 130 (.aload_n 0) 1 131 := ⟨k_dX4_line_119.2.2.2.2.2, rfl⟩
theorem k_dX4_line_131 : decode (mX4_line).2.1 131 = .ok ((.getfield 12), 3) ∧ decode (mX4_line).2.1 134 = .ok ((.getfield 101), 3) ∧ decode (mX4_line).2.1 137 = .ok ((.sipush 999), 3) ∧ decode (mX4_line).2.1 140 = .ok ((.invokevirtual 97), 3) ∧ decode (mX4_line).2.1 143 = .ok ((.putfield 101), 3) ∧ decode (mX4_line).2.1 146 = .ok ((.goto 38), 3) := by decide +kernel
theorem dX4_line_131 : Dc mX4_line 131 (.getfield 12) 3 134 := ⟨k_dX4_line_131.1, rfl⟩
theorem dX4_line_134 : Dc mX4_line 134 (.getfield 101) 3 137 := ⟨k_dX4_line_131.2.1, rfl⟩
theorem dX4_line_137 : Dc mX4_line 137 (.sipush 999) 3 140 := ⟨k_dX4_line_131.2.2.1, rfl⟩
theorem dX4_line_140 : Dc mX4_line 140 (.invokevirtual 97) 3 143 := ⟨k_dX4_line_131.2.2.2.1, rfl⟩
theorem dX4_line_143 : Dc mX4_line 143 (.putfield 101) 3 146 := ⟨k_dX4_line_131.2.2.2.2.1, rfl⟩
theorem dX4_line_146 : Dc mX4_line 146 (.goto 38) 3 149 := ⟨k_dX4_line_131.2.2.2.2.2, rfl⟩
theorem k_dX4_line_149 : decode (mX4_line).2.1 149 = .ok ((.aload_n 0), 1) ∧ decode (mX4_line).2.1 150 = .ok ((.getfield 12), 3) ∧ decode (mX4_line).2.1 153 = .ok ((.aload_n 0), 1) ∧ decode (mX4_line).2.1 154 = .ok ((.aload_n 0), 1) ∧ decode (mX4_line).2.1 155 = .ok ((.getfield 12), 3) ∧ decode (mX4_line).2.1 158 = .ok ((.getfield 104), 3) := by decide +kernel
theorem dX4_line_149 : Dc mX4_line 149 (.aload_n 0) 1 150 := ⟨k_dX4_line_149.1, rfl⟩
theorem dX4_line_150 : Dc mX4_line 150 (.getfield 12) 3 153 := ⟨k_dX4_line_149.2.1, rfl⟩
theorem dX4_line_153 : Dc mX4_line 153 (.aload_n 0) 1 154 := ⟨k_dX4_line_149.2.2.1, rfl⟩
theorem dX4_line_154 : Dc mX4_line 154 (.aload_n 0) 1 155 := ⟨k_dX4_line_149.2.2.2.1, rfl⟩
theorem dX4_line_155 : Dc mX4_line 155 (.getfield 12) 3 158 := ⟨k_dX4_line_149.2.2.2.2.1, rfl⟩
theorem dX4_line_158 : Dc mX4_line 158 (.getfield 104) 3 161 := ⟨k_dX4_line_149.2.2.2.2.2, rfl⟩
theorem k_dX4_line_161 : decode (mX4_line).2.1 161 = .ok ((.ldc 107), 2) ∧ decode (mX4_line).2.1 163 = .ok ((.invokevirtual 97), 3) ∧ decode (mX4_line).2.1 166 = .ok ((.putfield 104), 3) ∧ decode (mX4_line).2.1 169 = .ok ((.goto 15), 3) ∧ decode (mX4_line).2.1 172 = .ok ((.aload_n 0), 1) ∧ decode (mX4_line).2.1 173 = .ok ((.invokevirtual 108), 3) := by decide +kernel
theorem dX4_line_161 : Dc mX4_line 161 (.ldc 107) 2 163 := ⟨k_dX4_line_161.1, rfl⟩
theorem dX4_line_163 : Dc mX4_line 163 (.invokevirtual 97) 3 166 := ⟨k_dX4_line_161.2.1, rfl⟩
theorem dX4_line_166 : Dc mX4_line 166 (.putfield 104) 3 169 := ⟨k_dX4_line_161.2.2.1, rfl⟩
theorem dX4_line_169 : Dc mX4_line 169 (.goto 15) 3 172 := ⟨k_dX4_line_161.2.2.2.1, rfl⟩
theorem dX4_line_172 : Dc mX4_line 172 (.aload_n 0) 1 173 := ⟨k_dX4_line_161.2.2.2.2.1, rfl⟩
theorem dX4_line_173 : Dc mX4_line 173 (.invokevirtual 108) 3 176 := ⟨k_dX4_line_161.2.2.2.2.2, rfl⟩
theorem k_dX4_line_176 : decode (mX4_line).2.1 176 = .ok ((.goto 8), 3) ∧ decode (mX4_line).2.1 179 = .ok ((.aload_n 0), 1) ∧ decode (mX4_line).2.1 180 = .ok ((.iconst 1), 1) ∧ decode (mX4_line).2.1 181 = .ok ((.invokevirtual 58), 3) ∧ decode (mX4_line).2.1 184 = .ok ((.return_), 1) := by decide +kernel
theorem dX4_line_176 : Dc mX4_line 176 (.goto 8) 3 179 := ⟨k_dX4_line_176.1, rfl⟩
theorem dX4_line_179 : Dc mX4_line 179 (.aload_n 0) 1 180 := ⟨k_dX4_line_176.2.1, rfl⟩
theorem dX4_line_180 : Dc mX4_line 180 (.iconst 1) 1 181 := ⟨k_dX4_line_176.2.2.1, rfl⟩
theorem dX4_line_181 : Dc mX4_line 181 (.invokevirtual 58) 3 184 := ⟨k_dX4_line_176.2.2.2.1, rfl⟩
theorem dX4_line_184 : Dc mX4_line 184 (.return_) 1 185 := ⟨k_dX4_line_176.2.2.2.2, rfl⟩
theorem k_dX4_markLine_0 : decode (mX4_markLine).2.1 0 = .ok ((.aload_n 0), 1) ∧ decode (mX4_markLine).2.1 1 = .ok ((.aload_n 0), 1) ∧ decode (mX4_markLine).2.1 2 = .ok ((.getfield 12), 3) ∧ decode (mX4_markLine).2.1 5 = .ok ((.getfield 111), 3) ∧ decode (mX4_markLine).2.1 8 = .ok ((.invokevirtual 115), 3) ∧ decode (mX4_markLine).2.1 11 = .ok ((.invokevirtual 121), 3) := by decide +kernel
theorem dX4_markLine_0 : Dc mX4_markLine 0 (.aload_n 0) 1 1 := ⟨k_dX4_markLine_0.1, rfl⟩
theorem dX4_markLine_1 : Dc mX4_markLine 1 (.aload_n 0) 1 2 := ⟨k_dX4_markLine_0.2.1, rfl⟩
theorem dX4_markLine_2 : Dc mX4_markLine 2 (.getfield 12) 3 5 := ⟨k_dX4_markLine_0.2.2.1, rfl⟩
theorem dX4_markLine_5 : Dc mX4_markLine 5 (.getfield 111) 3 8 := ⟨k_dX4_markLine_0.2.2.2.1, rfl⟩
theorem dX4_markLine_8 : Dc mX4_markLine 8 (.invokevirtual 115) 3 11 := ⟨k_dX4_markLine_0.2.2.2.2.1, rfl⟩
theorem dX4_markLine_11 : Dc mX4_markLine 11 (.invokevirtual 121) 3 14 := ⟨k_dX4_markLine_0.2.2.2.2.2, rfl⟩
theorem k_dX4_markLine_14 : decode (mX4_markLine).2.1 14 = .ok ((.aload_n 0), 1) ∧ decode (mX4_markLine).2.1 15 = .ok ((.aload_n 0), 1) ∧ decode (mX4_markLine).2.1 16 = .ok ((.getfield 12), 3) ∧ decode (mX4_markLine).2.1 19 = .ok ((.getfield 111), 3) ∧ decode (mX4_markLine).2.1 22 = .ok ((.invokevirtual 124), 3) ∧ decode (mX4_markLine).2.1 25 = .ok ((.istore_n 1), 1) := by decide +kernel
theorem dX4_markLine_14 : Dc mX4_markLine 14 (.aload_n 0) 1 15 := ⟨k_dX4_markLine_14.1, rfl⟩
theorem dX4_markLine_15 : Dc mX4_markLine 15 (.aload_n 0) 1 16 := ⟨k_dX4_markLine_14.2.1, rfl⟩
theorem dX4_markLine_16 : Dc mX4_markLine 16 (.getfield 12) 3 19 := ⟨k_dX4_markLine_14.2.2.1, rfl⟩
theorem dX4_markLine_19 : Dc mX4_markLine 19 (.getfield 111) 3 22 := ⟨k_dX4_markLine_14.2.2.2.1, rfl⟩
theorem dX4_markLine_22 : Dc mX4_markLine 22 (.invokevirtual 124) 3 25 := ⟨k_dX4_markLine_14.2.2.2.2.1, rfl⟩
theorem dX4_markLine_25 : Dc mX4_markLine 25 (.istore_n 1) 1 26 := ⟨k_dX4_markLine_14.2.2.2.2.2, rfl⟩
theorem k_dX4_markLine_26 : decode (mX4_markLine).2.1 26 = .ok ((.aload_n 0), 1) ∧ decode (mX4_markLine).2.1 27 = .ok ((.iconst 0), 1) ∧ decode (mX4_markLine).2.1 28 = .ok ((.bipush 99), 2) ∧ decode (mX4_markLine).2.1 30 = .ok ((.invokevirtual 128), 3) ∧ decode (mX4_markLine).2.1 33 = .ok ((.istore_n 2), 1) ∧ decode (mX4_markLine).2.1 34 = .ok ((.aload_n 0), 1) := by decide +kernel
theorem dX4_markLine_26 : Dc mX4_markLine 26 (.aload_n 0) 1 27 := ⟨k_dX4_markLine_26.1, rfl⟩
theorem dX4_markLine_27 : Dc mX4_markLine 27 (.iconst 0) 1 28 := ⟨k_dX4_markLine_26.2.1, rfl⟩
theorem dX4_markLine_28 : Dc mX4_markLine 28 (.bipush 99) 2 30 := ⟨k_dX4_markLine_26.2.2.1, rfl⟩
theorem dX4_markLine_30 : Dc mX4_markLine 30 (.invokevirtual 128) 3 33 := ⟨k_dX4_markLine_26.2.2.2.1, rfl⟩
theorem dX4_markLine_33 : Dc mX4_markLine 33 (.istore_n 2) 1 34 := ⟨k_dX4_markLine_26.2.2.2.2.1, rfl⟩
theorem dX4_markLine_34 : Dc mX4_markLine 34 (.aload_n 0) 1 35 := ⟨k_dX4_markLine_26.2.2.2.2.2, rfl⟩
theorem k_dX4_markLine_35 : decode (mX4_markLine).2.1 35 = .ok ((.iconst 2), 1) ∧ decode (mX4_markLine).2.1 36 = .ok ((.bipush 6), 2) ∧ decode (mX4_markLine).2.1 38 = .ok ((.invokevirtual 128), 3) ∧ decode (mX4_markLine).2.1 41 = .ok ((.istore_n 3), 1) ∧ decode (mX4_markLine).2.1 42 = .ok ((.aload_n 0), 1) ∧ decode (mX4_markLine).2.1 43 = .ok ((.getfield 18), 3) := by decide +kernel
theorem dX4_markLine_35 : Dc mX4_markLine 35 (.iconst 2) 1 36 := ⟨k_dX4_markLine_35.1, rfl⟩
theorem dX4_markLine_36 : Dc mX4_markLine 36 (.bipush 6) 2 38 := ⟨k_dX4_markLine_35.2.1, rfl⟩
theorem dX4_markLine_38 : Dc mX4_markLine 38 (.invokevirtual 128) 3 41 := ⟨k_dX4_markLine_35.2.2.1, rfl⟩
theorem dX4_markLine_41 : Dc mX4_markLine 41 (.istore_n 3) 1 42 := ⟨k_dX4_markLine_35.2.2.2.1, rfl⟩
theorem dX4_markLine_42 : Dc mX4_markLine 42 (.aload_n 0) 1 43 := ⟨k_dX4_markLine_35.2.2.2.2.1, rfl⟩
theorem dX4_markLine_43 : Dc mX4_markLine 43 (.getfield 18) 3 46 := ⟨k_dX4_markLine_35.2.2.2.2.2, rfl⟩
theorem k_dX4_markLine_46 : decode (mX4_markLine).2.1 46 = .ok ((.ifCond .ne 17), 3) ∧ decode (mX4_markLine).2.1 49 = .ok ((.aload_n 0), 1) ∧ decode (mX4_markLine).2.1 50 = .ok ((.getfield 12), 3) ∧ decode (mX4_markLine).2.1 53 = .ok ((.getfield 111), 3) ∧ decode (mX4_markLine).2.1 56 = .ok ((.iload_n 1), 1) ∧ decode (mX4_markLine).2.1 57 = .ok ((.iload_n 2), 1) := by decide +kernel
theorem dX4_markLine_46 : Dc mX4_markLine 46 (.ifCond .ne 17) 3 49 := ⟨k_dX4_markLine_46.1, rfl⟩
theorem dX4_markLine_49 : Dc mX4_markLine 49 (.aload_n 0) 1 50 := ⟨k_dX4_markLine_46.2.1, rfl⟩
theorem dX4_markLine_50 : Dc mX4_markLine 50 (.getfield 12) 3 53 := ⟨k_dX4_markLine_46.2.2.1, rfl⟩
theorem dX4_markLine_53 : Dc mX4_markLine 53 (.getfield 111) 3 56 := ⟨k_dX4_markLine_46.2.2.2.1, rfl⟩
theorem dX4_markLine_56 : Dc mX4_markLine 56 (.iload_n 1) 1 57 := ⟨k_dX4_markLine_46.2.2.2.2.1, rfl⟩
theorem dX4_markLine_57 : Dc mX4_markLine 57 (.iload_n 2) 1 58 := ⟨k_dX4_markLine_46.2.2.2.2.2, rfl⟩
theorem k_dX4_markLine_58 : decode (mX4_markLine).2.1 58 = .ok ((.iload_n 3), 1) ∧ decode (mX4_markLine).2.1 59 = .ok ((.iconst 0), 1) ∧ decode (mX4_markLine).2.1 60 = .ok ((.invokevirtual 131), 3) ∧ decode (mX4_markLine).2.1 63 = .ok ((.return_), 1) := by decide +kernel
theorem dX4_markLine_58 : Dc mX4_markLine 58 (.iload_n 3) 1 59 := ⟨k_dX4_markLine_58.1, rfl⟩
theorem dX4_markLine_59 : Dc mX4_markLine 59 (.iconst 0) 1 60 := ⟨k_dX4_markLine_58.2.1, rfl⟩
theorem dX4_markLine_60 : Dc mX4_markLine 60 (.invokevirtual 131) 3 63 := ⟨k_dX4_markLine_58.2.2.1, rfl⟩
theorem dX4_markLine_63 : Dc mX4_markLine 63 (.return_) 1 64 := ⟨k_dX4_markLine_58.2.2.2, rfl⟩
theorem k_dX4_shotLine_0 : decode (mX4_shotLine).2.1 0 = .ok ((.aload_n 0), 1) ∧ decode (mX4_shotLine).2.1 1 = .ok ((.aload_n 0), 1) ∧ decode (mX4_shotLine).2.1 2 = .ok ((.getfield 12), 3) ∧ decode (mX4_shotLine).2.1 5 = .ok ((.getfield 135), 3) ∧ decode (mX4_shotLine).2.1 8 = .ok ((.invokevirtual 115), 3) ∧ decode (mX4_shotLine).2.1 11 = .ok ((.invokevirtual 121), 3) := by decide +kernel
theorem dX4_shotLine_0 : Dc mX4_shotLine 0 (.aload_n 0) 1 1 := ⟨k_dX4_shotLine_0.1, rfl⟩
theorem dX4_shotLine_1 : Dc mX4_shotLine 1 (.aload_n 0) 1 2 := ⟨k_dX4_shotLine_0.2.1, rfl⟩
theorem dX4_shotLine_2 : Dc mX4_shotLine 2 (.getfield 12) 3 5 := ⟨k_dX4_shotLine_0.2.2.1, rfl⟩
theorem dX4_shotLine_5 : Dc mX4_shotLine 5 (.getfield 135) 3 8 := ⟨k_dX4_shotLine_0.2.2.2.1, rfl⟩
theorem dX4_shotLine_8 : Dc mX4_shotLine 8 (.invokevirtual 115) 3 11 := ⟨k_dX4_shotLine_0.2.2.2.2.1, rfl⟩
theorem dX4_shotLine_11 : Dc mX4_shotLine 11 (.invokevirtual 121) 3 14 := ⟨k_dX4_shotLine_0.2.2.2.2.2, rfl⟩
theorem k_dX4_shotLine_14 : decode (mX4_shotLine).2.1 14 = .ok ((.aload_n 0), 1) ∧ decode (mX4_shotLine).2.1 15 = .ok ((.aload_n 0), 1) ∧ decode (mX4_shotLine).2.1 16 = .ok ((.getfield 12), 3) ∧ decode (mX4_shotLine).2.1 19 = .ok ((.getfield 135), 3) ∧ decode (mX4_shotLine).2.1 22 = .ok ((.invokevirtual 124), 3) ∧ decode (mX4_shotLine).2.1 25 = .ok ((.istore_n 1), 1) := by decide +kernel
theorem dX4_shotLine_14 : Dc mX4_shotLine 14 (.aload_n 0) 1 15 := ⟨k_dX4_shotLine_14.1, rfl⟩
theorem dX4_shotLine_15 : Dc mX4_shotLine 15 (.aload_n 0) 1 16 := ⟨k_dX4_shotLine_14.2.1, rfl⟩
theorem dX4_shotLine_16 : Dc mX4_shotLine 16 (.getfield 12) 3 19 := ⟨k_dX4_shotLine_14.2.2.1, rfl⟩
theorem dX4_shotLine_19 : Dc mX4_shotLine 19 (.getfield 135) 3 22 := ⟨k_dX4_shotLine_14.2.2.2.1, rfl⟩
theorem dX4_shotLine_22 : Dc mX4_shotLine 22 (.invokevirtual 124) 3 25 := ⟨k_dX4_shotLine_14.2.2.2.2.1, rfl⟩
theorem dX4_shotLine_25 : Dc mX4_shotLine 25 (.istore_n 1) 1 26 := ⟨k_dX4_shotLine_14.2.2.2.2.2, rfl⟩
theorem k_dX4_shotLine_26 : decode (mX4_shotLine).2.1 26 = .ok ((.aload_n 0), 1) ∧ decode (mX4_shotLine).2.1 27 = .ok ((.iconst 1), 1) ∧ decode (mX4_shotLine).2.1 28 = .ok ((.bipush 99), 2) ∧ decode (mX4_shotLine).2.1 30 = .ok ((.invokevirtual 128), 3) ∧ decode (mX4_shotLine).2.1 33 = .ok ((.istore_n 2), 1) ∧ decode (mX4_shotLine).2.1 34 = .ok ((.aload_n 0), 1) := by decide +kernel
theorem dX4_shotLine_26 : Dc mX4_shotLine 26 (.aload_n 0) 1 27 := ⟨k_dX4_shotLine_26.1, rfl⟩
theorem dX4_shotLine_27 : Dc mX4_shotLine 27 (.iconst 1) 1 28 := ⟨k_dX4_shotLine_26.2.1, rfl⟩
theorem dX4_shotLine_28 : Dc mX4_shotLine 28 (.bipush 99) 2 30 := ⟨k_dX4_shotLine_26.2.2.1, rfl⟩
theorem dX4_shotLine_30 : Dc mX4_shotLine 30 (.invokevirtual 128) 3 33 := ⟨k_dX4_shotLine_26.2.2.2.1, rfl⟩
theorem dX4_shotLine_33 : Dc mX4_shotLine 33 (.istore_n 2) 1 34 := ⟨k_dX4_shotLine_26.2.2.2.2.1, rfl⟩
theorem dX4_shotLine_34 : Dc mX4_shotLine 34 (.aload_n 0) 1 35 := ⟨k_dX4_shotLine_26.2.2.2.2.2, rfl⟩
theorem k_dX4_shotLine_35 : decode (mX4_shotLine).2.1 35 = .ok ((.iconst 0), 1) ∧ decode (mX4_shotLine).2.1 36 = .ok ((.bipush 99), 2) ∧ decode (mX4_shotLine).2.1 38 = .ok ((.invokevirtual 128), 3) ∧ decode (mX4_shotLine).2.1 41 = .ok ((.istore_n 3), 1) ∧ decode (mX4_shotLine).2.1 42 = .ok ((.aload_n 0), 1) ∧ decode (mX4_shotLine).2.1 43 = .ok ((.getfield 18), 3) := by decide +kernel
theorem dX4_shotLine_35 : Dc mX4_shotLine 35 (.iconst 0) 1 36 := ⟨k_dX4_shotLine_35.1, rfl⟩
theorem dX4_shotLine_36 : Dc mX4_shotLine 36 (.bipush 99) 2 38 := ⟨k_dX4_shotLine_35.2.1, rfl⟩
theorem dX4_shotLine_38 : Dc mX4_shotLine 38 (.invokevirtual 128) 3 41 := ⟨k_dX4_shotLine_35.2.2.1, rfl⟩
theorem dX4_shotLine_41 : Dc mX4_shotLine 41 (.istore_n 3) 1 42 := ⟨k_dX4_shotLine_35.2.2.2.1, rfl⟩
theorem dX4_shotLine_42 : Dc mX4_shotLine 42 (.aload_n 0) 1 43 := ⟨k_dX4_shotLine_35.2.2.2.2.1, rfl⟩
theorem dX4_shotLine_43 : Dc mX4_shotLine 43 (.getfield 18) 3 46 := ⟨k_dX4_shotLine_35.2.2.2.2.2, rfl⟩
theorem k_dX4_shotLine_46 : decode (mX4_shotLine).2.1 46 = .ok ((.ifCond .ne 17), 3) ∧ decode (mX4_shotLine).2.1 49 = .ok ((.aload_n 0), 1) ∧ decode (mX4_shotLine).2.1 50 = .ok ((.getfield 12), 3) ∧ decode (mX4_shotLine).2.1 53 = .ok ((.getfield 135), 3) ∧ decode (mX4_shotLine).2.1 56 = .ok ((.iload_n 1), 1) ∧ decode (mX4_shotLine).2.1 57 = .ok ((.iload_n 2), 1) := by decide +kernel
theorem dX4_shotLine_46 : Dc mX4_shotLine 46 (.ifCond .ne 17) 3 49 := ⟨k_dX4_shotLine_46.1, rfl⟩
theorem dX4_shotLine_49 : Dc mX4_shotLine 49 (.aload_n 0) 1 50 := ⟨k_dX4_shotLine_46.2.1, rfl⟩
theorem dX4_shotLine_50 : Dc mX4_shotLine 50 (.getfield 12) 3 53 := ⟨k_dX4_shotLine_46.2.2.1, rfl⟩
theorem dX4_shotLine_53 : Dc mX4_shotLine 53 (.getfield 135) 3 56 := ⟨k_dX4_shotLine_46.2.2.2.1, rfl⟩
theorem dX4_shotLine_56 : Dc mX4_shotLine 56 (.iload_n 1) 1 57 := ⟨k_dX4_shotLine_46.2.2.2.2.1, rfl⟩
theorem dX4_shotLine_57 : Dc mX4_shotLine 57 (.iload_n 2) 1 58 := ⟨k_dX4_shotLine_46.2.2.2.2.2, rfl⟩
theorem k_dX4_shotLine_58 : decode (mX4_shotLine).2.1 58 = .ok ((.iload_n 3), 1) ∧ decode (mX4_shotLine).2.1 59 = .ok ((.iconst 0), 1) ∧ decode (mX4_shotLine).2.1 60 = .ok ((.invokevirtual 131), 3) ∧ decode (mX4_shotLine).2.1 63 = .ok ((.return_), 1) := by decide +kernel
theorem dX4_shotLine_58 : Dc mX4_shotLine 58 (.iload_n 3) 1 59 := ⟨k_dX4_shotLine_58.1, rfl⟩
theorem dX4_shotLine_59 : Dc mX4_shotLine 59 (.iconst 0) 1 60 := ⟨k_dX4_shotLine_58.2.1, rfl⟩
theorem dX4_shotLine_60 : Dc mX4_shotLine 60 (.invokevirtual 131) 3 63 := ⟨k_dX4_shotLine_58.2.2.1, rfl⟩
theorem dX4_shotLine_63 : Dc mX4_shotLine 63 (.return_) 1 64 := ⟨k_dX4_shotLine_58.2.2.2, rfl⟩
theorem k_dX4_pairLine_0 : decode (mX4_pairLine).2.1 0 = .ok ((.aload_n 0), 1) ∧ decode (mX4_pairLine).2.1 1 = .ok ((.aload_n 0), 1) ∧ decode (mX4_pairLine).2.1 2 = .ok ((.getfield 12), 3) ∧ decode (mX4_pairLine).2.1 5 = .ok ((.getfield 138), 3) ∧ decode (mX4_pairLine).2.1 8 = .ok ((.bipush 20), 2) ∧ decode (mX4_pairLine).2.1 10 = .ok ((.if_icmp .lt 7), 3) := by decide +kernel
theorem dX4_pairLine_0 : Dc mX4_pairLine 0 (.aload_n 0) 1 1 := ⟨k_dX4_pairLine_0.1, rfl⟩
theorem dX4_pairLine_1 : Dc mX4_pairLine 1 (.aload_n 0) 1 2 := ⟨k_dX4_pairLine_0.2.1, rfl⟩
theorem dX4_pairLine_2 : Dc mX4_pairLine 2 (.getfield 12) 3 5 := ⟨k_dX4_pairLine_0.2.2.1, rfl⟩
theorem dX4_pairLine_5 : Dc mX4_pairLine 5 (.getfield 138) 3 8 := ⟨k_dX4_pairLine_0.2.2.2.1, rfl⟩
theorem dX4_pairLine_8 : Dc mX4_pairLine 8 (.bipush 20) 2 10 := ⟨k_dX4_pairLine_0.2.2.2.2.1, rfl⟩
theorem dX4_pairLine_10 : Dc mX4_pairLine 10 (.if_icmp .lt 7) 3 13 := ⟨k_dX4_pairLine_0.2.2.2.2.2, rfl⟩
theorem k_dX4_pairLine_13 : decode (mX4_pairLine).2.1 13 = .ok ((.iconst 1), 1) ∧ decode (mX4_pairLine).2.1 14 = .ok ((.goto 4), 3) ∧ decode (mX4_pairLine).2.1 17 = .ok ((.iconst 0), 1) ∧ decode (mX4_pairLine).2.1 18 = .ok ((.invokevirtual 121), 3) ∧ decode (mX4_pairLine).2.1 21 = .ok ((.aload_n 0), 1) ∧ decode (mX4_pairLine).2.1 22 = .ok ((.aload_n 0), 1) := by decide +kernel
theorem dX4_pairLine_13 : Dc mX4_pairLine 13 (.iconst 1) 1 14 := ⟨k_dX4_pairLine_13.1, rfl⟩
theorem dX4_pairLine_14 : Dc mX4_pairLine 14 (.goto 4) 3 17 := ⟨k_dX4_pairLine_13.2.1, rfl⟩
theorem dX4_pairLine_17 : Dc mX4_pairLine 17 (.iconst 0) 1 18 := ⟨k_dX4_pairLine_13.2.2.1, rfl⟩
theorem dX4_pairLine_18 : Dc mX4_pairLine 18 (.invokevirtual 121) 3 21 := ⟨k_dX4_pairLine_13.2.2.2.1, rfl⟩
theorem dX4_pairLine_21 : Dc mX4_pairLine 21 (.aload_n 0) 1 22 := ⟨k_dX4_pairLine_13.2.2.2.2.1, rfl⟩
theorem dX4_pairLine_22 : Dc mX4_pairLine 22 (.aload_n 0) 1 23 := ⟨k_dX4_pairLine_13.2.2.2.2.2, rfl⟩
theorem k_dX4_pairLine_23 : decode (mX4_pairLine).2.1 23 = .ok ((.getfield 12), 3) ∧ decode (mX4_pairLine).2.1 26 = .ok ((.getfield 135), 3) ∧ decode (mX4_pairLine).2.1 29 = .ok ((.invokevirtual 141), 3) ∧ decode (mX4_pairLine).2.1 32 = .ok ((.istore_n 1), 1) ∧ decode (mX4_pairLine).2.1 33 = .ok ((.aload_n 0), 1) ∧ decode (mX4_pairLine).2.1 34 = .ok ((.getfield 28), 3) := by decide +kernel
theorem dX4_pairLine_23 : Dc mX4_pairLine 23 (.getfield 12) 3 26 := ⟨k_dX4_pairLine_23.1, rfl⟩
theorem dX4_pairLine_26 : Dc mX4_pairLine 26 (.getfield 135) 3 29 := ⟨k_dX4_pairLine_23.2.1, rfl⟩
theorem dX4_pairLine_29 : Dc mX4_pairLine 29 (.invokevirtual 141) 3 32 := ⟨k_dX4_pairLine_23.2.2.1, rfl⟩
theorem dX4_pairLine_32 : Dc mX4_pairLine 32 (.istore_n 1) 1 33 := ⟨k_dX4_pairLine_23.2.2.2.1, rfl⟩
theorem dX4_pairLine_33 : Dc mX4_pairLine 33 (.aload_n 0) 1 34 := ⟨k_dX4_pairLine_23.2.2.2.2.1, rfl⟩
theorem dX4_pairLine_34 : Dc mX4_pairLine 34 (.getfield 28) 3 37 := ⟨k_dX4_pairLine_23.2.2.2.2.2, rfl⟩
theorem k_dX4_pairLine_37 : decode (mX4_pairLine).2.1 37 = .ok ((.invokevirtual 65), 3) ∧ decode (mX4_pairLine).2.1 40 = .ok ((.aload_n 0), 1) ∧ decode (mX4_pairLine).2.1 41 = .ok ((.aload_n 0), 1) ∧ decode (mX4_pairLine).2.1 42 = .ok ((.getfield 12), 3) ∧ decode (mX4_pairLine).2.1 45 = .ok ((.getfield 111), 3) ∧ decode (mX4_pairLine).2.1 48 = .ok ((.invokevirtual 141), 3) := by decide +kernel
theorem dX4_pairLine_37 : Dc mX4_pairLine 37 (.invokevirtual 65) 3 40 := ⟨k_dX4_pairLine_37.1, rfl⟩
theorem dX4_pairLine_40 : Dc mX4_pairLine 40 (.aload_n 0) 1 41 := ⟨k_dX4_pairLine_37.2.1, rfl⟩
theorem dX4_pairLine_41 : Dc mX4_pairLine 41 (.aload_n 0) 1 42 := ⟨k_dX4_pairLine_37.2.2.1, rfl⟩
theorem dX4_pairLine_42 : Dc mX4_pairLine 42 (.getfield 12) 3 45 := ⟨k_dX4_pairLine_37.2.2.2.1, rfl⟩
theorem dX4_pairLine_45 : Dc mX4_pairLine 45 (.getfield 111) 3 48 := ⟨k_dX4_pairLine_37.2.2.2.2.1, rfl⟩
theorem dX4_pairLine_48 : Dc mX4_pairLine 48 (.invokevirtual 141) 3 51 := ⟨k_dX4_pairLine_37.2.2.2.2.2, rfl⟩
theorem k_dX4_pairLine_51 : decode (mX4_pairLine).2.1 51 = .ok ((.istore_n 2), 1) ∧ decode (mX4_pairLine).2.1 52 = .ok ((.iload_n 1), 1) ∧ decode (mX4_pairLine).2.1 53 = .ok ((.bipush 6), 2) ∧ decode (mX4_pairLine).2.1 55 = .ok ((.imul), 1) ∧ decode (mX4_pairLine).2.1 56 = .ok ((.iload_n 2), 1) ∧ decode (mX4_pairLine).2.1 57 = .ok ((.iadd), 1) := by decide +kernel
theorem dX4_pairLine_51 : Dc mX4_pairLine 51 (.istore_n 2) 1 52 := ⟨k_dX4_pairLine_51.1, rfl⟩
theorem dX4_pairLine_52 : Dc mX4_pairLine 52 (.iload_n 1) 1 53 := ⟨k_dX4_pairLine_51.2.1, rfl⟩
theorem dX4_pairLine_53 : Dc mX4_pairLine 53 (.bipush 6) 2 55 := ⟨k_dX4_pairLine_51.2.2.1, rfl⟩
theorem dX4_pairLine_55 : Dc mX4_pairLine 55 (.imul) 1 56 := ⟨k_dX4_pairLine_51.2.2.2.1, rfl⟩
theorem dX4_pairLine_56 : Dc mX4_pairLine 56 (.iload_n 2) 1 57 := ⟨k_dX4_pairLine_51.2.2.2.2.1, rfl⟩
theorem dX4_pairLine_57 : Dc mX4_pairLine 57 (.iadd) 1 58 := ⟨k_dX4_pairLine_51.2.2.2.2.2, rfl⟩
theorem k_dX4_pairLine_58 : decode (mX4_pairLine).2.1 58 = .ok ((.istore_n 3), 1) ∧ decode (mX4_pairLine).2.1 59 = .ok ((.aload_n 0), 1) ∧ decode (mX4_pairLine).2.1 60 = .ok ((.getfield 18), 3) ∧ decode (mX4_pairLine).2.1 63 = .ok ((.ifCond .ne 22), 3) ∧ decode (mX4_pairLine).2.1 66 = .ok ((.aload_n 0), 1) ∧ decode (mX4_pairLine).2.1 67 = .ok ((.getfield 12), 3) := by decide +kernel
theorem dX4_pairLine_58 : Dc mX4_pairLine 58 (.istore_n 3) 1 59 := ⟨k_dX4_pairLine_58.1, rfl⟩
theorem dX4_pairLine_59 : Dc mX4_pairLine 59 (.aload_n 0) 1 60 := ⟨k_dX4_pairLine_58.2.1, rfl⟩
theorem dX4_pairLine_60 : Dc mX4_pairLine 60 (.getfield 18) 3 63 := ⟨k_dX4_pairLine_58.2.2.1, rfl⟩
theorem dX4_pairLine_63 : Dc mX4_pairLine 63 (.ifCond .ne 22) 3 66 := ⟨k_dX4_pairLine_58.2.2.2.1, rfl⟩
theorem dX4_pairLine_66 : Dc mX4_pairLine 66 (.aload_n 0) 1 67 := ⟨k_dX4_pairLine_58.2.2.2.2.1, rfl⟩
theorem dX4_pairLine_67 : Dc mX4_pairLine 67 (.getfield 12) 3 70 := ⟨k_dX4_pairLine_58.2.2.2.2.2, rfl⟩
theorem k_dX4_pairLine_70 : decode (mX4_pairLine).2.1 70 = .ok ((.getfield 144), 3) ∧ decode (mX4_pairLine).2.1 73 = .ok ((.iload_n 3), 1) ∧ decode (mX4_pairLine).2.1 74 = .ok ((.invokestatic 147), 3) ∧ decode (mX4_pairLine).2.1 77 = .ok ((.ifCond .lt 8), 3) ∧ decode (mX4_pairLine).2.1 80 = .ok ((.aload_n 0), 1) ∧ decode (mX4_pairLine).2.1 81 = .ok ((.iconst 3), 1) := by decide +kernel
theorem dX4_pairLine_70 : Dc mX4_pairLine 70 (.getfield 144) 3 73 := ⟨k_dX4_pairLine_70.1, rfl⟩
theorem dX4_pairLine_73 : Dc mX4_pairLine 73 (.iload_n 3) 1 74 := ⟨k_dX4_pairLine_70.2.1, rfl⟩
theorem dX4_pairLine_74 : Dc mX4_pairLine 74 (.invokestatic 147) 3 77 := ⟨k_dX4_pairLine_70.2.2.1, rfl⟩
theorem dX4_pairLine_77 : Dc mX4_pairLine 77 (.ifCond .lt 8) 3 80 := ⟨k_dX4_pairLine_70.2.2.2.1, rfl⟩
theorem dX4_pairLine_80 : Dc mX4_pairLine 80 (.aload_n 0) 1 81 := ⟨k_dX4_pairLine_70.2.2.2.2.1, rfl⟩
theorem dX4_pairLine_81 : Dc mX4_pairLine 81 (.iconst 3) 1 82 := ⟨k_dX4_pairLine_70.2.2.2.2.2, rfl⟩
theorem k_dX4_pairLine_82 : decode (mX4_pairLine).2.1 82 = .ok ((.invokevirtual 58), 3) ∧ decode (mX4_pairLine).2.1 85 = .ok ((.aload_n 0), 1) ∧ decode (mX4_pairLine).2.1 86 = .ok ((.getfield 28), 3) ∧ decode (mX4_pairLine).2.1 89 = .ok ((.invokevirtual 65), 3) ∧ decode (mX4_pairLine).2.1 92 = .ok ((.aload_n 0), 1) ∧ decode (mX4_pairLine).2.1 93 = .ok ((.iconst 0), 1) := by decide +kernel
theorem dX4_pairLine_82 : Dc mX4_pairLine 82 (.invokevirtual 58) 3 85 := ⟨k_dX4_pairLine_82.1, rfl⟩
theorem dX4_pairLine_85 : Dc mX4_pairLine 85 (.aload_n 0) 1 86 := ⟨k_dX4_pairLine_82.2.1, rfl⟩
theorem dX4_pairLine_86 : Dc mX4_pairLine 86 (.getfield 28) 3 89 := ⟨k_dX4_pairLine_82.2.2.1, rfl⟩
theorem dX4_pairLine_89 : Dc mX4_pairLine 89 (.invokevirtual 65) 3 92 := ⟨k_dX4_pairLine_82.2.2.2.1, rfl⟩
theorem dX4_pairLine_92 : Dc mX4_pairLine 92 (.aload_n 0) 1 93 := ⟨k_dX4_pairLine_82.2.2.2.2.1, rfl⟩
theorem dX4_pairLine_93 : Dc mX4_pairLine 93 (.iconst 0) 1 94 := ⟨k_dX4_pairLine_82.2.2.2.2.2, rfl⟩
theorem k_dX4_pairLine_94 : decode (mX4_pairLine).2.1 94 = .ok ((.aload_n 0), 1) ∧ decode (mX4_pairLine).2.1 95 = .ok ((.getfield 12), 3) ∧ decode (mX4_pairLine).2.1 98 = .ok ((.getfield 111), 3) ∧ decode (mX4_pairLine).2.1 101 = .ok ((.getfield 151), 3) ∧ decode (mX4_pairLine).2.1 104 = .ok ((.iload_n 2), 1) ∧ decode (mX4_pairLine).2.1 105 = .ok ((.invokestatic 147), 3) := by decide +kernel
theorem dX4_pairLine_94 : Dc mX4_pairLine 94 (.aload_n 0) 1 95 := ⟨k_dX4_pairLine_94.1, rfl⟩
theorem dX4_pairLine_95 : Dc mX4_pairLine 95 (.getfield 12) 3 98 := ⟨k_dX4_pairLine_94.2.1, rfl⟩
theorem dX4_pairLine_98 : Dc mX4_pairLine 98 (.getfield 111) 3 101 := ⟨k_dX4_pairLine_94.2.2.1, rfl⟩
theorem dX4_pairLine_101 : Dc mX4_pairLine 101 (.getfield 151) 3 104 := ⟨k_dX4_pairLine_94.2.2.2.1, rfl⟩
theorem dX4_pairLine_104 : Dc mX4_pairLine 104 (.iload_n 2) 1 105 := ⟨k_dX4_pairLine_94.2.2.2.2.1, rfl⟩
theorem dX4_pairLine_105 : Dc mX4_pairLine 105 (.invokestatic 147) 3 108 := ⟨k_dX4_pairLine_94.2.2.2.2.2, rfl⟩
theorem k_dX4_pairLine_108 : decode (mX4_pairLine).2.1 108 = .ok ((.iconst 1), 1) ∧ decode (mX4_pairLine).2.1 109 = .ok ((.isub), 1) ∧ decode (mX4_pairLine).2.1 110 = .ok ((.invokevirtual 128), 3) ∧ decode (mX4_pairLine).2.1 113 = .ok ((.istore 4), 2) ∧ decode (mX4_pairLine).2.1 115 = .ok ((.aload_n 0), 1) ∧ decode (mX4_pairLine).2.1 116 = .ok ((.getfield 18), 3) := by decide +kernel
theorem dX4_pairLine_108 : Dc mX4_pairLine 108 (.iconst 1) 1 109 := ⟨k_dX4_pairLine_108.1, rfl⟩
theorem dX4_pairLine_109 : Dc mX4_pairLine 109 (.isub) 1 110 := ⟨k_dX4_pairLine_108.2.1, rfl⟩
theorem dX4_pairLine_110 : Dc mX4_pairLine 110 (.invokevirtual 128) 3 113 := ⟨k_dX4_pairLine_108.2.2.1, rfl⟩
theorem dX4_pairLine_113 : Dc mX4_pairLine 113 (.istore 4) 2 115 := ⟨k_dX4_pairLine_108.2.2.2.1, rfl⟩
theorem dX4_pairLine_115 : Dc mX4_pairLine 115 (.aload_n 0) 1 116 := ⟨k_dX4_pairLine_108.2.2.2.2.1, rfl⟩
theorem dX4_pairLine_116 : Dc mX4_pairLine 116 (.getfield 18) 3 119 := ⟨k_dX4_pairLine_108.2.2.2.2.2, rfl⟩
theorem k_dX4_pairLine_119 : decode (mX4_pairLine).2.1 119 = .ok ((.ifCond .ne 29), 3) ∧ decode (mX4_pairLine).2.1 122 = .ok ((.aload_n 0), 1) ∧ decode (mX4_pairLine).2.1 123 = .ok ((.getfield 12), 3) ∧ decode (mX4_pairLine).2.1 126 = .ok ((.getfield 144), 3) ∧ decode (mX4_pairLine).2.1 129 = .ok ((.iload_n 3), 1) ∧ decode (mX4_pairLine).2.1 130 = .ok ((.iload 4), 2) := by decide +kernel
theorem dX4_pairLine_119 : Dc mX4_pairLine 119 (.ifCond .ne 29) 3 122 := ⟨k_dX4_pairLine_119.1, rfl⟩
theorem dX4_pairLine_122 : Dc mX4_pairLine 122 (.aload_n 0) 1 123 := ⟨k_dX4_pairLine_119.2.1, rfl⟩
theorem dX4_pairLine_123 : Dc mX4_pairLine 123 (.getfield 12) 3 126 := ⟨k_dX4_pairLine_119.2.2.1, rfl⟩
theorem dX4_pairLine_126 : Dc mX4_pairLine 126 (.getfield 144) 3 129 := ⟨k_dX4_pairLine_119.2.2.2.1, rfl⟩
theorem dX4_pairLine_129 : Dc mX4_pairLine 129 (.iload_n 3) 1 130 := ⟨k_dX4_pairLine_119.2.2.2.2.1, rfl⟩
theorem dX4_pairLine_130 : Dc mX4_pairLine 130 (.iload 4) 2 132 := ⟨k_dX4_pairLine_119.2.2.2.2.2, rfl⟩
theorem k_dX4_pairLine_132 : decode (mX4_pairLine).2.1 132 = .ok ((.invokestatic 154), 3) ∧ decode (mX4_pairLine).2.1 135 = .ok ((.aload_n 0), 1) ∧ decode (mX4_pairLine).2.1 136 = .ok ((.getfield 12), 3) ∧ decode (mX4_pairLine).2.1 139 = .ok ((.dup), 1) ∧ decode (mX4_pairLine).2.1 140 = .ok ((.getfield 138), 3) ∧ decode (mX4_pairLine).2.1 143 = .ok ((.iconst 1), 1) := by decide +kernel
theorem dX4_pairLine_132 : Dc mX4_pairLine 132 (.invokestatic 154) 3 135 := ⟨k_dX4_pairLine_132.1, rfl⟩
theorem dX4_pairLine_135 : Dc mX4_pairLine 135 (.aload_n 0) 1 136 := ⟨k_dX4_pairLine_132.2.1, rfl⟩
theorem dX4_pairLine_136 : Dc mX4_pairLine 136 (.getfield 12) 3 139 := ⟨k_dX4_pairLine_132.2.2.1, rfl⟩
theorem dX4_pairLine_139 : Dc mX4_pairLine 139 (.dup) 1 140 := ⟨k_dX4_pairLine_132.2.2.2.1, rfl⟩
theorem dX4_pairLine_140 : Dc mX4_pairLine 140 (.getfield 138) 3 143 := ⟨k_dX4_pairLine_132.2.2.2.2.1, rfl⟩
theorem dX4_pairLine_143 : Dc mX4_pairLine 143 (.iconst 1) 1 144 := ⟨k_dX4_pairLine_132.2.2.2.2.2, rfl⟩
theorem k_dX4_pairLine_144 : decode (mX4_pairLine).2.1 144 = .ok ((.iadd), 1) ∧ decode (mX4_pairLine).2.1 145 = .ok ((.putfield 138), 3) ∧ decode (mX4_pairLine).2.1 148 = .ok ((.return_), 1) := by decide +kernel
theorem dX4_pairLine_144 : Dc mX4_pairLine 144 (.iadd) 1 145 := ⟨k_dX4_pairLine_144.1, rfl⟩
theorem dX4_pairLine_145 : Dc mX4_pairLine 145 (.putfield 138) 3 148 := ⟨k_dX4_pairLine_144.2.1, rfl⟩
theorem dX4_pairLine_148 : Dc mX4_pairLine 148 (.return_) 1 149 := ⟨k_dX4_pairLine_144.2.2, rfl⟩
theorem k_dX4_partyLine_0 : decode (mX4_partyLine).2.1 0 = .ok ((.aload_n 0), 1) ∧ decode (mX4_partyLine).2.1 1 = .ok ((.aload_n 0), 1) ∧ decode (mX4_partyLine).2.1 2 = .ok ((.getfield 12), 3) ∧ decode (mX4_partyLine).2.1 5 = .ok ((.getfield 158), 3) ∧ decode (mX4_partyLine).2.1 8 = .ok ((.invokevirtual 115), 3) ∧ decode (mX4_partyLine).2.1 11 = .ok ((.invokevirtual 121), 3) := by decide +kernel
theorem dX4_partyLine_0 : Dc mX4_partyLine 0 (.aload_n 0) 1 1 := ⟨k_dX4_partyLine_0.1, rfl⟩
theorem dX4_partyLine_1 : Dc mX4_partyLine 1 (.aload_n 0) 1 2 := ⟨k_dX4_partyLine_0.2.1, rfl⟩
theorem dX4_partyLine_2 : Dc mX4_partyLine 2 (.getfield 12) 3 5 := ⟨k_dX4_partyLine_0.2.2.1, rfl⟩
theorem dX4_partyLine_5 : Dc mX4_partyLine 5 (.getfield 158) 3 8 := ⟨k_dX4_partyLine_0.2.2.2.1, rfl⟩
theorem dX4_partyLine_8 : Dc mX4_partyLine 8 (.invokevirtual 115) 3 11 := ⟨k_dX4_partyLine_0.2.2.2.2.1, rfl⟩
theorem dX4_partyLine_11 : Dc mX4_partyLine 11 (.invokevirtual 121) 3 14 := ⟨k_dX4_partyLine_0.2.2.2.2.2, rfl⟩
theorem k_dX4_partyLine_14 : decode (mX4_partyLine).2.1 14 = .ok ((.aload_n 0), 1) ∧ decode (mX4_partyLine).2.1 15 = .ok ((.aload_n 0), 1) ∧ decode (mX4_partyLine).2.1 16 = .ok ((.getfield 12), 3) ∧ decode (mX4_partyLine).2.1 19 = .ok ((.getfield 158), 3) ∧ decode (mX4_partyLine).2.1 22 = .ok ((.invokevirtual 124), 3) ∧ decode (mX4_partyLine).2.1 25 = .ok ((.istore_n 1), 1) := by decide +kernel
theorem dX4_partyLine_14 : Dc mX4_partyLine 14 (.aload_n 0) 1 15 := ⟨k_dX4_partyLine_14.1, rfl⟩
theorem dX4_partyLine_15 : Dc mX4_partyLine 15 (.aload_n 0) 1 16 := ⟨k_dX4_partyLine_14.2.1, rfl⟩
theorem dX4_partyLine_16 : Dc mX4_partyLine 16 (.getfield 12) 3 19 := ⟨k_dX4_partyLine_14.2.2.1, rfl⟩
theorem dX4_partyLine_19 : Dc mX4_partyLine 19 (.getfield 158) 3 22 := ⟨k_dX4_partyLine_14.2.2.2.1, rfl⟩
theorem dX4_partyLine_22 : Dc mX4_partyLine 22 (.invokevirtual 124) 3 25 := ⟨k_dX4_partyLine_14.2.2.2.2.1, rfl⟩
theorem dX4_partyLine_25 : Dc mX4_partyLine 25 (.istore_n 1) 1 26 := ⟨k_dX4_partyLine_14.2.2.2.2.2, rfl⟩
theorem k_dX4_partyLine_26 : decode (mX4_partyLine).2.1 26 = .ok ((.aload_n 0), 1) ∧ decode (mX4_partyLine).2.1 27 = .ok ((.aload_n 0), 1) ∧ decode (mX4_partyLine).2.1 28 = .ok ((.getfield 12), 3) ∧ decode (mX4_partyLine).2.1 31 = .ok ((.getfield 111), 3) ∧ decode (mX4_partyLine).2.1 34 = .ok ((.invokevirtual 141), 3) ∧ decode (mX4_partyLine).2.1 37 = .ok ((.istore_n 2), 1) := by decide +kernel
theorem dX4_partyLine_26 : Dc mX4_partyLine 26 (.aload_n 0) 1 27 := ⟨k_dX4_partyLine_26.1, rfl⟩
theorem dX4_partyLine_27 : Dc mX4_partyLine 27 (.aload_n 0) 1 28 := ⟨k_dX4_partyLine_26.2.1, rfl⟩
theorem dX4_partyLine_28 : Dc mX4_partyLine 28 (.getfield 12) 3 31 := ⟨k_dX4_partyLine_26.2.2.1, rfl⟩
theorem dX4_partyLine_31 : Dc mX4_partyLine 31 (.getfield 111) 3 34 := ⟨k_dX4_partyLine_26.2.2.2.1, rfl⟩
theorem dX4_partyLine_34 : Dc mX4_partyLine 34 (.invokevirtual 141) 3 37 := ⟨k_dX4_partyLine_26.2.2.2.2.1, rfl⟩
theorem dX4_partyLine_37 : Dc mX4_partyLine 37 (.istore_n 2) 1 38 := ⟨k_dX4_partyLine_26.2.2.2.2.2, rfl⟩
theorem k_dX4_partyLine_38 : decode (mX4_partyLine).2.1 38 = .ok ((.aload_n 0), 1) ∧ decode (mX4_partyLine).2.1 39 = .ok ((.getfield 28), 3) ∧ decode (mX4_partyLine).2.1 42 = .ok ((.invokevirtual 65), 3) ∧ decode (mX4_partyLine).2.1 45 = .ok ((.aload_n 0), 1) ∧ decode (mX4_partyLine).2.1 46 = .ok ((.iconst 0), 1) ∧ decode (mX4_partyLine).2.1 47 = .ok ((.aload_n 0), 1) := by decide +kernel
theorem dX4_partyLine_38 : Dc mX4_partyLine 38 (.aload_n 0) 1 39 := ⟨k_dX4_partyLine_38.1, rfl⟩
theorem dX4_partyLine_39 : Dc mX4_partyLine 39 (.getfield 28) 3 42 := ⟨k_dX4_partyLine_38.2.1, rfl⟩
theorem dX4_partyLine_42 : Dc mX4_partyLine 42 (.invokevirtual 65) 3 45 := ⟨k_dX4_partyLine_38.2.2.1, rfl⟩
theorem dX4_partyLine_45 : Dc mX4_partyLine 45 (.aload_n 0) 1 46 := ⟨k_dX4_partyLine_38.2.2.2.1, rfl⟩
theorem dX4_partyLine_46 : Dc mX4_partyLine 46 (.iconst 0) 1 47 := ⟨k_dX4_partyLine_38.2.2.2.2.1, rfl⟩
theorem dX4_partyLine_47 : Dc mX4_partyLine 47 (.aload_n 0) 1 48 := ⟨k_dX4_partyLine_38.2.2.2.2.2, rfl⟩
theorem k_dX4_partyLine_48 : decode (mX4_partyLine).2.1 48 = .ok ((.getfield 12), 3) ∧ decode (mX4_partyLine).2.1 51 = .ok ((.getfield 111), 3) ∧ decode (mX4_partyLine).2.1 54 = .ok ((.getfield 151), 3) ∧ decode (mX4_partyLine).2.1 57 = .ok ((.iload_n 2), 1) ∧ decode (mX4_partyLine).2.1 58 = .ok ((.invokestatic 147), 3) ∧ decode (mX4_partyLine).2.1 61 = .ok ((.iconst 1), 1) := by decide +kernel
theorem dX4_partyLine_48 : Dc mX4_partyLine 48 (.getfield 12) 3 51 := ⟨k_dX4_partyLine_48.1, rfl⟩
theorem dX4_partyLine_51 : Dc mX4_partyLine 51 (.getfield 111) 3 54 := ⟨k_dX4_partyLine_48.2.1, rfl⟩
theorem dX4_partyLine_54 : Dc mX4_partyLine 54 (.getfield 151) 3 57 := ⟨k_dX4_partyLine_48.2.2.1, rfl⟩
theorem dX4_partyLine_57 : Dc mX4_partyLine 57 (.iload_n 2) 1 58 := ⟨k_dX4_partyLine_48.2.2.2.1, rfl⟩
theorem dX4_partyLine_58 : Dc mX4_partyLine 58 (.invokestatic 147) 3 61 := ⟨k_dX4_partyLine_48.2.2.2.2.1, rfl⟩
theorem dX4_partyLine_61 : Dc mX4_partyLine 61 (.iconst 1) 1 62 := ⟨k_dX4_partyLine_48.2.2.2.2.2, rfl⟩
theorem k_dX4_partyLine_62 : decode (mX4_partyLine).2.1 62 = .ok ((.isub), 1) ∧ decode (mX4_partyLine).2.1 63 = .ok ((.invokevirtual 128), 3) ∧ decode (mX4_partyLine).2.1 66 = .ok ((.istore_n 3), 1) ∧ decode (mX4_partyLine).2.1 67 = .ok ((.aload_n 0), 1) ∧ decode (mX4_partyLine).2.1 68 = .ok ((.iconst 0), 1) ∧ decode (mX4_partyLine).2.1 69 = .ok ((.bipush 99), 2) := by decide +kernel
theorem dX4_partyLine_62 : Dc mX4_partyLine 62 (.isub) 1 63 := ⟨k_dX4_partyLine_62.1, rfl⟩
theorem dX4_partyLine_63 : Dc mX4_partyLine 63 (.invokevirtual 128) 3 66 := ⟨k_dX4_partyLine_62.2.1, rfl⟩
theorem dX4_partyLine_66 : Dc mX4_partyLine 66 (.istore_n 3) 1 67 := ⟨k_dX4_partyLine_62.2.2.1, rfl⟩
theorem dX4_partyLine_67 : Dc mX4_partyLine 67 (.aload_n 0) 1 68 := ⟨k_dX4_partyLine_62.2.2.2.1, rfl⟩
theorem dX4_partyLine_68 : Dc mX4_partyLine 68 (.iconst 0) 1 69 := ⟨k_dX4_partyLine_62.2.2.2.2.1, rfl⟩
theorem dX4_partyLine_69 : Dc mX4_partyLine 69 (.bipush 99) 2 71 := ⟨k_dX4_partyLine_62.2.2.2.2.2, rfl⟩
theorem k_dX4_partyLine_71 : decode (mX4_partyLine).2.1 71 = .ok ((.invokevirtual 128), 3) ∧ decode (mX4_partyLine).2.1 74 = .ok ((.istore 4), 2) ∧ decode (mX4_partyLine).2.1 76 = .ok ((.aload_n 0), 1) ∧ decode (mX4_partyLine).2.1 77 = .ok ((.getfield 18), 3) ∧ decode (mX4_partyLine).2.1 80 = .ok ((.ifCond .ne 18), 3) ∧ decode (mX4_partyLine).2.1 83 = .ok ((.aload_n 0), 1) := by decide +kernel
theorem dX4_partyLine_71 : Dc mX4_partyLine 71 (.invokevirtual 128) 3 74 := ⟨k_dX4_partyLine_71.1, rfl⟩
theorem dX4_partyLine_74 : Dc mX4_partyLine 74 (.istore 4) 2 76 := ⟨k_dX4_partyLine_71.2.1, rfl⟩
theorem dX4_partyLine_76 : Dc mX4_partyLine 76 (.aload_n 0) 1 77 := ⟨k_dX4_partyLine_71.2.2.1, rfl⟩
theorem dX4_partyLine_77 : Dc mX4_partyLine 77 (.getfield 18) 3 80 := ⟨k_dX4_partyLine_71.2.2.2.1, rfl⟩
theorem dX4_partyLine_80 : Dc mX4_partyLine 80 (.ifCond .ne 18) 3 83 := ⟨k_dX4_partyLine_71.2.2.2.2.1, rfl⟩
theorem dX4_partyLine_83 : Dc mX4_partyLine 83 (.aload_n 0) 1 84 := ⟨k_dX4_partyLine_71.2.2.2.2.2, rfl⟩
theorem k_dX4_partyLine_84 : decode (mX4_partyLine).2.1 84 = .ok ((.getfield 12), 3) ∧ decode (mX4_partyLine).2.1 87 = .ok ((.getfield 158), 3) ∧ decode (mX4_partyLine).2.1 90 = .ok ((.iload_n 1), 1) ∧ decode (mX4_partyLine).2.1 91 = .ok ((.iload_n 2), 1) ∧ decode (mX4_partyLine).2.1 92 = .ok ((.iload_n 3), 1) ∧ decode (mX4_partyLine).2.1 93 = .ok ((.iload 4), 2) := by decide +kernel
theorem dX4_partyLine_84 : Dc mX4_partyLine 84 (.getfield 12) 3 87 := ⟨k_dX4_partyLine_84.1, rfl⟩
theorem dX4_partyLine_87 : Dc mX4_partyLine 87 (.getfield 158) 3 90 := ⟨k_dX4_partyLine_84.2.1, rfl⟩
theorem dX4_partyLine_90 : Dc mX4_partyLine 90 (.iload_n 1) 1 91 := ⟨k_dX4_partyLine_84.2.2.1, rfl⟩
theorem dX4_partyLine_91 : Dc mX4_partyLine 91 (.iload_n 2) 1 92 := ⟨k_dX4_partyLine_84.2.2.2.1, rfl⟩
theorem dX4_partyLine_92 : Dc mX4_partyLine 92 (.iload_n 3) 1 93 := ⟨k_dX4_partyLine_84.2.2.2.2.1, rfl⟩
theorem dX4_partyLine_93 : Dc mX4_partyLine 93 (.iload 4) 2 95 := ⟨k_dX4_partyLine_84.2.2.2.2.2, rfl⟩
theorem k_dX4_partyLine_95 : decode (mX4_partyLine).2.1 95 = .ok ((.invokevirtual 131), 3) ∧ decode (mX4_partyLine).2.1 98 = .ok ((.return_), 1) := by decide +kernel
theorem dX4_partyLine_95 : Dc mX4_partyLine 95 (.invokevirtual 131) 3 98 := ⟨k_dX4_partyLine_95.1, rfl⟩
theorem dX4_partyLine_98 : Dc mX4_partyLine 98 (.return_) 1 99 := ⟨k_dX4_partyLine_95.2, rfl⟩
theorem k_dX4_clerkLine_0 : decode (mX4_clerkLine).2.1 0 = .ok ((.aload_n 0), 1) ∧ decode (mX4_clerkLine).2.1 1 = .ok ((.aload_n 0), 1) ∧ decode (mX4_clerkLine).2.1 2 = .ok ((.getfield 12), 3) ∧ decode (mX4_clerkLine).2.1 5 = .ok ((.getfield 161), 3) ∧ decode (mX4_clerkLine).2.1 8 = .ok ((.invokevirtual 115), 3) ∧ decode (mX4_clerkLine).2.1 11 = .ok ((.invokevirtual 121), 3) := by decide +kernel
theorem dX4_clerkLine_0 : Dc mX4_clerkLine 0 (.aload_n 0) 1 1 := ⟨k_dX4_clerkLine_0.1, rfl⟩
theorem dX4_clerkLine_1 : Dc mX4_clerkLine 1 (.aload_n 0) 1 2 := ⟨k_dX4_clerkLine_0.2.1, rfl⟩
theorem dX4_clerkLine_2 : Dc mX4_clerkLine 2 (.getfield 12) 3 5 := ⟨k_dX4_clerkLine_0.2.2.1, rfl⟩
theorem dX4_clerkLine_5 : Dc mX4_clerkLine 5 (.getfield 161) 3 8 := ⟨k_dX4_clerkLine_0.2.2.2.1, rfl⟩
theorem dX4_clerkLine_8 : Dc mX4_clerkLine 8 (.invokevirtual 115) 3 11 := ⟨k_dX4_clerkLine_0.2.2.2.2.1, rfl⟩
theorem dX4_clerkLine_11 : Dc mX4_clerkLine 11 (.invokevirtual 121) 3 14 := ⟨k_dX4_clerkLine_0.2.2.2.2.2, rfl⟩
theorem k_dX4_clerkLine_14 : decode (mX4_clerkLine).2.1 14 = .ok ((.aload_n 0), 1) ∧ decode (mX4_clerkLine).2.1 15 = .ok ((.aload_n 0), 1) ∧ decode (mX4_clerkLine).2.1 16 = .ok ((.getfield 12), 3) ∧ decode (mX4_clerkLine).2.1 19 = .ok ((.getfield 161), 3) ∧ decode (mX4_clerkLine).2.1 22 = .ok ((.invokevirtual 124), 3) ∧ decode (mX4_clerkLine).2.1 25 = .ok ((.istore_n 1), 1) := by decide +kernel
theorem dX4_clerkLine_14 : Dc mX4_clerkLine 14 (.aload_n 0) 1 15 := ⟨k_dX4_clerkLine_14.1, rfl⟩
theorem dX4_clerkLine_15 : Dc mX4_clerkLine 15 (.aload_n 0) 1 16 := ⟨k_dX4_clerkLine_14.2.1, rfl⟩
theorem dX4_clerkLine_16 : Dc mX4_clerkLine 16 (.getfield 12) 3 19 := ⟨k_dX4_clerkLine_14.2.2.1, rfl⟩
theorem dX4_clerkLine_19 : Dc mX4_clerkLine 19 (.getfield 161) 3 22 := ⟨k_dX4_clerkLine_14.2.2.2.1, rfl⟩
theorem dX4_clerkLine_22 : Dc mX4_clerkLine 22 (.invokevirtual 124) 3 25 := ⟨k_dX4_clerkLine_14.2.2.2.2.1, rfl⟩
theorem dX4_clerkLine_25 : Dc mX4_clerkLine 25 (.istore_n 1) 1 26 := ⟨k_dX4_clerkLine_14.2.2.2.2.2, rfl⟩
theorem k_dX4_clerkLine_26 : decode (mX4_clerkLine).2.1 26 = .ok ((.aload_n 0), 1) ∧ decode (mX4_clerkLine).2.1 27 = .ok ((.iconst 0), 1) ∧ decode (mX4_clerkLine).2.1 28 = .ok ((.bipush 63), 2) ∧ decode (mX4_clerkLine).2.1 30 = .ok ((.invokevirtual 128), 3) ∧ decode (mX4_clerkLine).2.1 33 = .ok ((.istore_n 2), 1) ∧ decode (mX4_clerkLine).2.1 34 = .ok ((.aload_n 0), 1) := by decide +kernel
theorem dX4_clerkLine_26 : Dc mX4_clerkLine 26 (.aload_n 0) 1 27 := ⟨k_dX4_clerkLine_26.1, rfl⟩
theorem dX4_clerkLine_27 : Dc mX4_clerkLine 27 (.iconst 0) 1 28 := ⟨k_dX4_clerkLine_26.2.1, rfl⟩
theorem dX4_clerkLine_28 : Dc mX4_clerkLine 28 (.bipush 63) 2 30 := ⟨k_dX4_clerkLine_26.2.2.1, rfl⟩
theorem dX4_clerkLine_30 : Dc mX4_clerkLine 30 (.invokevirtual 128) 3 33 := ⟨k_dX4_clerkLine_26.2.2.2.1, rfl⟩
theorem dX4_clerkLine_33 : Dc mX4_clerkLine 33 (.istore_n 2) 1 34 := ⟨k_dX4_clerkLine_26.2.2.2.2.1, rfl⟩
theorem dX4_clerkLine_34 : Dc mX4_clerkLine 34 (.aload_n 0) 1 35 := ⟨k_dX4_clerkLine_26.2.2.2.2.2, rfl⟩
theorem k_dX4_clerkLine_35 : decode (mX4_clerkLine).2.1 35 = .ok ((.getfield 18), 3) ∧ decode (mX4_clerkLine).2.1 38 = .ok ((.ifCond .ne 17), 3) ∧ decode (mX4_clerkLine).2.1 41 = .ok ((.aload_n 0), 1) ∧ decode (mX4_clerkLine).2.1 42 = .ok ((.getfield 12), 3) ∧ decode (mX4_clerkLine).2.1 45 = .ok ((.getfield 161), 3) ∧ decode (mX4_clerkLine).2.1 48 = .ok ((.iload_n 1), 1) := by decide +kernel
theorem dX4_clerkLine_35 : Dc mX4_clerkLine 35 (.getfield 18) 3 38 := ⟨k_dX4_clerkLine_35.1, rfl⟩
theorem dX4_clerkLine_38 : Dc mX4_clerkLine 38 (.ifCond .ne 17) 3 41 := ⟨k_dX4_clerkLine_35.2.1, rfl⟩
theorem dX4_clerkLine_41 : Dc mX4_clerkLine 41 (.aload_n 0) 1 42 := ⟨k_dX4_clerkLine_35.2.2.1, rfl⟩
theorem dX4_clerkLine_42 : Dc mX4_clerkLine 42 (.getfield 12) 3 45 := ⟨k_dX4_clerkLine_35.2.2.2.1, rfl⟩
theorem dX4_clerkLine_45 : Dc mX4_clerkLine 45 (.getfield 161) 3 48 := ⟨k_dX4_clerkLine_35.2.2.2.2.1, rfl⟩
theorem dX4_clerkLine_48 : Dc mX4_clerkLine 48 (.iload_n 1) 1 49 := ⟨k_dX4_clerkLine_35.2.2.2.2.2, rfl⟩
theorem k_dX4_clerkLine_49 : decode (mX4_clerkLine).2.1 49 = .ok ((.iload_n 2), 1) ∧ decode (mX4_clerkLine).2.1 50 = .ok ((.iconst 0), 1) ∧ decode (mX4_clerkLine).2.1 51 = .ok ((.iconst 0), 1) ∧ decode (mX4_clerkLine).2.1 52 = .ok ((.invokevirtual 131), 3) ∧ decode (mX4_clerkLine).2.1 55 = .ok ((.return_), 1) := by decide +kernel
theorem dX4_clerkLine_49 : Dc mX4_clerkLine 49 (.iload_n 2) 1 50 := ⟨k_dX4_clerkLine_49.1, rfl⟩
theorem dX4_clerkLine_50 : Dc mX4_clerkLine 50 (.iconst 0) 1 51 := ⟨k_dX4_clerkLine_49.2.1, rfl⟩
theorem dX4_clerkLine_51 : Dc mX4_clerkLine 51 (.iconst 0) 1 52 := ⟨k_dX4_clerkLine_49.2.2.1, rfl⟩
theorem dX4_clerkLine_52 : Dc mX4_clerkLine 52 (.invokevirtual 131) 3 55 := ⟨k_dX4_clerkLine_49.2.2.2.1, rfl⟩
theorem dX4_clerkLine_55 : Dc mX4_clerkLine 55 (.return_) 1 56 := ⟨k_dX4_clerkLine_49.2.2.2.2, rfl⟩
theorem k_dX4_coldLine_0 : decode (mX4_coldLine).2.1 0 = .ok ((.aload_n 0), 1) ∧ decode (mX4_coldLine).2.1 1 = .ok ((.aload_n 0), 1) ∧ decode (mX4_coldLine).2.1 2 = .ok ((.getfield 12), 3) ∧ decode (mX4_coldLine).2.1 5 = .ok ((.getfield 164), 3) ∧ decode (mX4_coldLine).2.1 8 = .ok ((.invokevirtual 115), 3) ∧ decode (mX4_coldLine).2.1 11 = .ok ((.invokevirtual 121), 3) := by decide +kernel
theorem dX4_coldLine_0 : Dc mX4_coldLine 0 (.aload_n 0) 1 1 := ⟨k_dX4_coldLine_0.1, rfl⟩
theorem dX4_coldLine_1 : Dc mX4_coldLine 1 (.aload_n 0) 1 2 := ⟨k_dX4_coldLine_0.2.1, rfl⟩
theorem dX4_coldLine_2 : Dc mX4_coldLine 2 (.getfield 12) 3 5 := ⟨k_dX4_coldLine_0.2.2.1, rfl⟩
theorem dX4_coldLine_5 : Dc mX4_coldLine 5 (.getfield 164) 3 8 := ⟨k_dX4_coldLine_0.2.2.2.1, rfl⟩
theorem dX4_coldLine_8 : Dc mX4_coldLine 8 (.invokevirtual 115) 3 11 := ⟨k_dX4_coldLine_0.2.2.2.2.1, rfl⟩
theorem dX4_coldLine_11 : Dc mX4_coldLine 11 (.invokevirtual 121) 3 14 := ⟨k_dX4_coldLine_0.2.2.2.2.2, rfl⟩
theorem k_dX4_coldLine_14 : decode (mX4_coldLine).2.1 14 = .ok ((.aload_n 0), 1) ∧ decode (mX4_coldLine).2.1 15 = .ok ((.iconst 0), 1) ∧ decode (mX4_coldLine).2.1 16 = .ok ((.bipush 99), 2) ∧ decode (mX4_coldLine).2.1 18 = .ok ((.invokevirtual 128), 3) ∧ decode (mX4_coldLine).2.1 21 = .ok ((.istore_n 1), 1) ∧ decode (mX4_coldLine).2.1 22 = .ok ((.aload_n 0), 1) := by decide +kernel
theorem dX4_coldLine_14 : Dc mX4_coldLine 14 (.aload_n 0) 1 15 := ⟨k_dX4_coldLine_14.1, rfl⟩
theorem dX4_coldLine_15 : Dc mX4_coldLine 15 (.iconst 0) 1 16 := ⟨k_dX4_coldLine_14.2.1, rfl⟩
theorem dX4_coldLine_16 : Dc mX4_coldLine 16 (.bipush 99) 2 18 := ⟨k_dX4_coldLine_14.2.2.1, rfl⟩
theorem dX4_coldLine_18 : Dc mX4_coldLine 18 (.invokevirtual 128) 3 21 := ⟨k_dX4_coldLine_14.2.2.2.1, rfl⟩
theorem dX4_coldLine_21 : Dc mX4_coldLine 21 (.istore_n 1) 1 22 := ⟨k_dX4_coldLine_14.2.2.2.2.1, rfl⟩
theorem dX4_coldLine_22 : Dc mX4_coldLine 22 (.aload_n 0) 1 23 := ⟨k_dX4_coldLine_14.2.2.2.2.2, rfl⟩
theorem k_dX4_coldLine_23 : decode (mX4_coldLine).2.1 23 = .ok ((.iload_n 1), 1) ∧ decode (mX4_coldLine).2.1 24 = .ok ((.bipush 99), 2) ∧ decode (mX4_coldLine).2.1 26 = .ok ((.invokevirtual 128), 3) ∧ decode (mX4_coldLine).2.1 29 = .ok ((.istore_n 2), 1) ∧ decode (mX4_coldLine).2.1 30 = .ok ((.aload_n 0), 1) ∧ decode (mX4_coldLine).2.1 31 = .ok ((.getfield 18), 3) := by decide +kernel
theorem dX4_coldLine_23 : Dc mX4_coldLine 23 (.iload_n 1) 1 24 := ⟨k_dX4_coldLine_23.1, rfl⟩
theorem dX4_coldLine_24 : Dc mX4_coldLine 24 (.bipush 99) 2 26 := ⟨k_dX4_coldLine_23.2.1, rfl⟩
theorem dX4_coldLine_26 : Dc mX4_coldLine 26 (.invokevirtual 128) 3 29 := ⟨k_dX4_coldLine_23.2.2.1, rfl⟩
theorem dX4_coldLine_29 : Dc mX4_coldLine 29 (.istore_n 2) 1 30 := ⟨k_dX4_coldLine_23.2.2.2.1, rfl⟩
theorem dX4_coldLine_30 : Dc mX4_coldLine 30 (.aload_n 0) 1 31 := ⟨k_dX4_coldLine_23.2.2.2.2.1, rfl⟩
theorem dX4_coldLine_31 : Dc mX4_coldLine 31 (.getfield 18) 3 34 := ⟨k_dX4_coldLine_23.2.2.2.2.2, rfl⟩
theorem k_dX4_coldLine_34 : decode (mX4_coldLine).2.1 34 = .ok ((.ifCond .ne 17), 3) ∧ decode (mX4_coldLine).2.1 37 = .ok ((.aload_n 0), 1) ∧ decode (mX4_coldLine).2.1 38 = .ok ((.getfield 12), 3) ∧ decode (mX4_coldLine).2.1 41 = .ok ((.getfield 164), 3) ∧ decode (mX4_coldLine).2.1 44 = .ok ((.iconst 0), 1) ∧ decode (mX4_coldLine).2.1 45 = .ok ((.iload_n 1), 1) := by decide +kernel
theorem dX4_coldLine_34 : Dc mX4_coldLine 34 (.ifCond .ne 17) 3 37 := ⟨k_dX4_coldLine_34.1, rfl⟩
theorem dX4_coldLine_37 : Dc mX4_coldLine 37 (.aload_n 0) 1 38 := ⟨k_dX4_coldLine_34.2.1, rfl⟩
theorem dX4_coldLine_38 : Dc mX4_coldLine 38 (.getfield 12) 3 41 := ⟨k_dX4_coldLine_34.2.2.1, rfl⟩
theorem dX4_coldLine_41 : Dc mX4_coldLine 41 (.getfield 164) 3 44 := ⟨k_dX4_coldLine_34.2.2.2.1, rfl⟩
theorem dX4_coldLine_44 : Dc mX4_coldLine 44 (.iconst 0) 1 45 := ⟨k_dX4_coldLine_34.2.2.2.2.1, rfl⟩
theorem dX4_coldLine_45 : Dc mX4_coldLine 45 (.iload_n 1) 1 46 := ⟨k_dX4_coldLine_34.2.2.2.2.2, rfl⟩
theorem k_dX4_coldLine_46 : decode (mX4_coldLine).2.1 46 = .ok ((.iload_n 2), 1) ∧ decode (mX4_coldLine).2.1 47 = .ok ((.iconst 0), 1) ∧ decode (mX4_coldLine).2.1 48 = .ok ((.invokevirtual 131), 3) ∧ decode (mX4_coldLine).2.1 51 = .ok ((.return_), 1) := by decide +kernel
theorem dX4_coldLine_46 : Dc mX4_coldLine 46 (.iload_n 2) 1 47 := ⟨k_dX4_coldLine_46.1, rfl⟩
theorem dX4_coldLine_47 : Dc mX4_coldLine 47 (.iconst 0) 1 48 := ⟨k_dX4_coldLine_46.2.1, rfl⟩
theorem dX4_coldLine_48 : Dc mX4_coldLine 48 (.invokevirtual 131) 3 51 := ⟨k_dX4_coldLine_46.2.2.1, rfl⟩
theorem dX4_coldLine_51 : Dc mX4_coldLine 51 (.return_) 1 52 := ⟨k_dX4_coldLine_46.2.2.2, rfl⟩
theorem k_dX4_begin_0 : decode (mX4_begin).2.1 0 = .ok ((.iload_n 1), 1) ∧ decode (mX4_begin).2.1 1 = .ok ((.ifCond .eq 8), 3) ∧ decode (mX4_begin).2.1 4 = .ok ((.aload_n 0), 1) ∧ decode (mX4_begin).2.1 5 = .ok ((.iconst 2), 1) ∧ decode (mX4_begin).2.1 6 = .ok ((.invokevirtual 58), 3) ∧ decode (mX4_begin).2.1 9 = .ok ((.aload_n 0), 1) := by decide +kernel
theorem dX4_begin_0 : Dc mX4_begin 0 (.iload_n 1) 1 1 := ⟨k_dX4_begin_0.1, rfl⟩
theorem dX4_begin_1 : Dc mX4_begin 1 (.ifCond .eq 8) 3 4 := ⟨k_dX4_begin_0.2.1, rfl⟩
theorem dX4_begin_4 : Dc mX4_begin 4 (.aload_n 0) 1 5 := ⟨k_dX4_begin_0.2.2.1, rfl⟩
theorem dX4_begin_5 : Dc mX4_begin 5 (.iconst 2) 1 6 := ⟨k_dX4_begin_0.2.2.2.1, rfl⟩
theorem dX4_begin_6 : Dc mX4_begin 6 (.invokevirtual 58) 3 9 := ⟨k_dX4_begin_0.2.2.2.2.1, rfl⟩
theorem dX4_begin_9 : Dc mX4_begin 9 (.aload_n 0) 1 10 := ⟨k_dX4_begin_0.2.2.2.2.2, rfl⟩
theorem k_dX4_begin_10 : decode (mX4_begin).2.1 10 = .ok ((.getfield 28), 3) ∧ decode (mX4_begin).2.1 13 = .ok ((.invokevirtual 65), 3) ∧ decode (mX4_begin).2.1 16 = .ok ((.return_), 1) := by decide +kernel
theorem dX4_begin_10 : Dc mX4_begin 10 (.getfield 28) 3 13 := ⟨k_dX4_begin_10.1, rfl⟩
theorem dX4_begin_13 : Dc mX4_begin 13 (.invokevirtual 65) 3 16 := ⟨k_dX4_begin_10.2.1, rfl⟩
theorem dX4_begin_16 : Dc mX4_begin 16 (.return_) 1 17 := ⟨k_dX4_begin_10.2.2, rfl⟩
theorem k_dX4_onlyOnce_0 : decode (mX4_onlyOnce).2.1 0 = .ok ((.iload_n 1), 1) ∧ decode (mX4_onlyOnce).2.1 1 = .ok ((.ifCond .lt 8), 3) ∧ decode (mX4_onlyOnce).2.1 4 = .ok ((.aload_n 0), 1) ∧ decode (mX4_onlyOnce).2.1 5 = .ok ((.iconst 3), 1) ∧ decode (mX4_onlyOnce).2.1 6 = .ok ((.invokevirtual 58), 3) ∧ decode (mX4_onlyOnce).2.1 9 = .ok ((.aload_n 0), 1) := by decide +kernel
theorem dX4_onlyOnce_0 : Dc mX4_onlyOnce 0 (.iload_n 1) 1 1 := ⟨k_dX4_onlyOnce_0.1, rfl⟩
theorem dX4_onlyOnce_1 : Dc mX4_onlyOnce 1 (.ifCond .lt 8) 3 4 := ⟨k_dX4_onlyOnce_0.2.1, rfl⟩
theorem dX4_onlyOnce_4 : Dc mX4_onlyOnce 4 (.aload_n 0) 1 5 := ⟨k_dX4_onlyOnce_0.2.2.1, rfl⟩
theorem dX4_onlyOnce_5 : Dc mX4_onlyOnce 5 (.iconst 3) 1 6 := ⟨k_dX4_onlyOnce_0.2.2.2.1, rfl⟩
theorem dX4_onlyOnce_6 : Dc mX4_onlyOnce 6 (.invokevirtual 58) 3 9 := ⟨k_dX4_onlyOnce_0.2.2.2.2.1, rfl⟩
theorem dX4_onlyOnce_9 : Dc mX4_onlyOnce 9 (.aload_n 0) 1 10 := ⟨k_dX4_onlyOnce_0.2.2.2.2.2, rfl⟩
theorem k_dX4_onlyOnce_10 : decode (mX4_onlyOnce).2.1 10 = .ok ((.getfield 28), 3) ∧ decode (mX4_onlyOnce).2.1 13 = .ok ((.invokevirtual 65), 3) ∧ decode (mX4_onlyOnce).2.1 16 = .ok ((.aload_n 0), 1) ∧ decode (mX4_onlyOnce).2.1 17 = .ok ((.iconst 0), 1) ∧ decode (mX4_onlyOnce).2.1 18 = .ok ((.iload_n 2), 1) ∧ decode (mX4_onlyOnce).2.1 19 = .ok ((.invokevirtual 128), 3) := by decide +kernel
theorem dX4_onlyOnce_10 : Dc mX4_onlyOnce 10 (.getfield 28) 3 13 := ⟨k_dX4_onlyOnce_10.1, rfl⟩
theorem dX4_onlyOnce_13 : Dc mX4_onlyOnce 13 (.invokevirtual 65) 3 16 := ⟨k_dX4_onlyOnce_10.2.1, rfl⟩
theorem dX4_onlyOnce_16 : Dc mX4_onlyOnce 16 (.aload_n 0) 1 17 := ⟨k_dX4_onlyOnce_10.2.2.1, rfl⟩
theorem dX4_onlyOnce_17 : Dc mX4_onlyOnce 17 (.iconst 0) 1 18 := ⟨k_dX4_onlyOnce_10.2.2.2.1, rfl⟩
theorem dX4_onlyOnce_18 : Dc mX4_onlyOnce 18 (.iload_n 2) 1 19 := ⟨k_dX4_onlyOnce_10.2.2.2.2.1, rfl⟩
theorem dX4_onlyOnce_19 : Dc mX4_onlyOnce 19 (.invokevirtual 128) 3 22 := ⟨k_dX4_onlyOnce_10.2.2.2.2.2, rfl⟩
theorem dX4_onlyOnce_22 : Dc mX4_onlyOnce 22 (.ireturn) 1 23 := ⟨by decide +kernel, rfl⟩
theorem k_dX4_fresh_0 : decode (mX4_fresh).2.1 0 = .ok ((.aload_n 0), 1) ∧ decode (mX4_fresh).2.1 1 = .ok ((.getfield 28), 3) ∧ decode (mX4_fresh).2.1 4 = .ok ((.getfield 167), 3) ∧ decode (mX4_fresh).2.1 7 = .ok ((.istore_n 2), 1) ∧ decode (mX4_fresh).2.1 8 = .ok ((.aload_n 0), 1) ∧ decode (mX4_fresh).2.1 9 = .ok ((.getfield 28), 3) := by decide +kernel
theorem dX4_fresh_0 : Dc mX4_fresh 0 (.aload_n 0) 1 1 := ⟨k_dX4_fresh_0.1, rfl⟩
theorem dX4_fresh_1 : Dc mX4_fresh 1 (.getfield 28) 3 4 := ⟨k_dX4_fresh_0.2.1, rfl⟩
theorem dX4_fresh_4 : Dc mX4_fresh 4 (.getfield 167) 3 7 := ⟨k_dX4_fresh_0.2.2.1, rfl⟩
theorem dX4_fresh_7 : Dc mX4_fresh 7 (.istore_n 2) 1 8 := ⟨k_dX4_fresh_0.2.2.2.1, rfl⟩
theorem dX4_fresh_8 : Dc mX4_fresh 8 (.aload_n 0) 1 9 := ⟨k_dX4_fresh_0.2.2.2.2.1, rfl⟩
theorem dX4_fresh_9 : Dc mX4_fresh 9 (.getfield 28) 3 12 := ⟨k_dX4_fresh_0.2.2.2.2.2, rfl⟩
theorem k_dX4_fresh_12 : decode (mX4_fresh).2.1 12 = .ok ((.getfield 52), 3) ∧ decode (mX4_fresh).2.1 15 = .ok ((.iconst 3), 1) ∧ decode (mX4_fresh).2.1 16 = .ok ((.if_icmp .eq 11), 3) ∧ decode (mX4_fresh).2.1 19 = .ok ((.aload_n 0), 1) ∧ decode (mX4_fresh).2.1 20 = .ok ((.iconst 1), 1) ∧ decode (mX4_fresh).2.1 21 = .ok ((.invokevirtual 58), 3) := by decide +kernel
theorem dX4_fresh_12 : Dc mX4_fresh 12 (.getfield 52) 3 15 := ⟨k_dX4_fresh_12.1, rfl⟩
theorem dX4_fresh_15 : Dc mX4_fresh 15 (.iconst 3) 1 16 := ⟨k_dX4_fresh_12.2.1, rfl⟩
theorem dX4_fresh_16 : Dc mX4_fresh 16 (.if_icmp .eq 11) 3 19 := ⟨k_dX4_fresh_12.2.2.1, rfl⟩
theorem dX4_fresh_19 : Dc mX4_fresh 19 (.aload_n 0) 1 20 := ⟨k_dX4_fresh_12.2.2.2.1, rfl⟩
theorem dX4_fresh_20 : Dc mX4_fresh 20 (.iconst 1) 1 21 := ⟨k_dX4_fresh_12.2.2.2.2.1, rfl⟩
theorem dX4_fresh_21 : Dc mX4_fresh 21 (.invokevirtual 58) 3 24 := ⟨k_dX4_fresh_12.2.2.2.2.2, rfl⟩
theorem k_dX4_fresh_24 : decode (mX4_fresh).2.1 24 = .ok ((.goto 16), 3) ∧ decode (mX4_fresh).2.1 27 = .ok ((.aload_n 1), 1) ∧ decode (mX4_fresh).2.1 28 = .ok ((.iload_n 2), 1) ∧ decode (mX4_fresh).2.1 29 = .ok ((.invokevirtual 170), 3) ∧ decode (mX4_fresh).2.1 32 = .ok ((.ifCond .lt 8), 3) ∧ decode (mX4_fresh).2.1 35 = .ok ((.aload_n 0), 1) := by decide +kernel
theorem dX4_fresh_24 : Dc mX4_fresh 24 (.goto 16) 3 27 := ⟨k_dX4_fresh_24.1, rfl⟩
theorem dX4_fresh_27 : Dc mX4_fresh 27 (.aload_n 1) 1 28 := ⟨k_dX4_fresh_24.2.1, rfl⟩
theorem dX4_fresh_28 : Dc mX4_fresh 28 (.iload_n 2) 1 29 := ⟨k_dX4_fresh_24.2.2.1, rfl⟩
theorem dX4_fresh_29 : Dc mX4_fresh 29 (.invokevirtual 170) 3 32 := ⟨k_dX4_fresh_24.2.2.2.1, rfl⟩
theorem dX4_fresh_32 : Dc mX4_fresh 32 (.ifCond .lt 8) 3 35 := ⟨k_dX4_fresh_24.2.2.2.2.1, rfl⟩
theorem dX4_fresh_35 : Dc mX4_fresh 35 (.aload_n 0) 1 36 := ⟨k_dX4_fresh_24.2.2.2.2.2, rfl⟩
theorem k_dX4_fresh_36 : decode (mX4_fresh).2.1 36 = .ok ((.iconst 3), 1) ∧ decode (mX4_fresh).2.1 37 = .ok ((.invokevirtual 58), 3) ∧ decode (mX4_fresh).2.1 40 = .ok ((.aload_n 0), 1) ∧ decode (mX4_fresh).2.1 41 = .ok ((.getfield 28), 3) ∧ decode (mX4_fresh).2.1 44 = .ok ((.invokevirtual 65), 3) ∧ decode (mX4_fresh).2.1 47 = .ok ((.iload_n 2), 1) := by decide +kernel
theorem dX4_fresh_36 : Dc mX4_fresh 36 (.iconst 3) 1 37 := ⟨k_dX4_fresh_36.1, rfl⟩
theorem dX4_fresh_37 : Dc mX4_fresh 37 (.invokevirtual 58) 3 40 := ⟨k_dX4_fresh_36.2.1, rfl⟩
theorem dX4_fresh_40 : Dc mX4_fresh 40 (.aload_n 0) 1 41 := ⟨k_dX4_fresh_36.2.2.1, rfl⟩
theorem dX4_fresh_41 : Dc mX4_fresh 41 (.getfield 28) 3 44 := ⟨k_dX4_fresh_36.2.2.2.1, rfl⟩
theorem dX4_fresh_44 : Dc mX4_fresh 44 (.invokevirtual 65) 3 47 := ⟨k_dX4_fresh_36.2.2.2.2.1, rfl⟩
theorem dX4_fresh_47 : Dc mX4_fresh 47 (.iload_n 2) 1 48 := ⟨k_dX4_fresh_36.2.2.2.2.2, rfl⟩
theorem dX4_fresh_48 : Dc mX4_fresh 48 (.ireturn) 1 49 := ⟨by decide +kernel, rfl⟩
theorem k_dX4_find_0 : decode (mX4_find).2.1 0 = .ok ((.aload_n 0), 1) ∧ decode (mX4_find).2.1 1 = .ok ((.getfield 28), 3) ∧ decode (mX4_find).2.1 4 = .ok ((.getfield 52), 3) ∧ decode (mX4_find).2.1 7 = .ok ((.iconst 3), 1) ∧ decode (mX4_find).2.1 8 = .ok ((.if_icmp .eq 10), 3) ∧ decode (mX4_find).2.1 11 = .ok ((.aload_n 0), 1) := by decide +kernel
theorem dX4_find_0 : Dc mX4_find 0 (.aload_n 0) 1 1 := ⟨k_dX4_find_0.1, rfl⟩
theorem dX4_find_1 : Dc mX4_find 1 (.getfield 28) 3 4 := ⟨k_dX4_find_0.2.1, rfl⟩
theorem dX4_find_4 : Dc mX4_find 4 (.getfield 52) 3 7 := ⟨k_dX4_find_0.2.2.1, rfl⟩
theorem dX4_find_7 : Dc mX4_find 7 (.iconst 3) 1 8 := ⟨k_dX4_find_0.2.2.2.1, rfl⟩
theorem dX4_find_8 : Dc mX4_find 8 (.if_icmp .eq 10) 3 11 := ⟨k_dX4_find_0.2.2.2.2.1, rfl⟩
theorem dX4_find_11 : Dc mX4_find 11 (.aload_n 0) 1 12 := ⟨k_dX4_find_0.2.2.2.2.2, rfl⟩
theorem k_dX4_find_12 : decode (mX4_find).2.1 12 = .ok ((.iconst 1), 1) ∧ decode (mX4_find).2.1 13 = .ok ((.invokevirtual 58), 3) ∧ decode (mX4_find).2.1 16 = .ok ((.iconst (-1)), 1) ∧ decode (mX4_find).2.1 17 = .ok ((.ireturn), 1) ∧ decode (mX4_find).2.1 18 = .ok ((.aload_n 1), 1) ∧ decode (mX4_find).2.1 19 = .ok ((.aload_n 0), 1) := by decide +kernel
theorem dX4_find_12 : Dc mX4_find 12 (.iconst 1) 1 13 := ⟨k_dX4_find_12.1, rfl⟩
theorem dX4_find_13 : Dc mX4_find 13 (.invokevirtual 58) 3 16 := ⟨k_dX4_find_12.2.1, rfl⟩
theorem dX4_find_16 : Dc mX4_find 16 (.iconst (-1)) 1 17 := ⟨k_dX4_find_12.2.2.1, rfl⟩
theorem dX4_find_17 : Dc mX4_find 17 (.ireturn) 1 18 := ⟨k_dX4_find_12.2.2.2.1, rfl⟩
theorem dX4_find_18 : Dc mX4_find 18 (.aload_n 1) 1 19 := ⟨k_dX4_find_12.2.2.2.2.1, rfl⟩
theorem dX4_find_19 : Dc mX4_find 19 (.aload_n 0) 1 20 := ⟨k_dX4_find_12.2.2.2.2.2, rfl⟩
theorem k_dX4_find_20 : decode (mX4_find).2.1 20 = .ok ((.getfield 28), 3) ∧ decode (mX4_find).2.1 23 = .ok ((.getfield 167), 3) ∧ decode (mX4_find).2.1 26 = .ok ((.invokevirtual 170), 3) ∧ decode (mX4_find).2.1 29 = .ok ((.istore_n 2), 1) ∧ decode (mX4_find).2.1 30 = .ok ((.iload_n 2), 1) ∧ decode (mX4_find).2.1 31 = .ok ((.ifCond .ge 8), 3) := by decide +kernel
theorem dX4_find_20 : Dc mX4_find 20 (.getfield 28) 3 23 := ⟨k_dX4_find_20.1, rfl⟩
theorem dX4_find_23 : Dc mX4_find 23 (.getfield 167) 3 26 := ⟨k_dX4_find_20.2.1, rfl⟩
theorem dX4_find_26 : Dc mX4_find 26 (.invokevirtual 170) 3 29 := ⟨k_dX4_find_20.2.2.1, rfl⟩
theorem dX4_find_29 : Dc mX4_find 29 (.istore_n 2) 1 30 := ⟨k_dX4_find_20.2.2.2.1, rfl⟩
theorem dX4_find_30 : Dc mX4_find 30 (.iload_n 2) 1 31 := ⟨k_dX4_find_20.2.2.2.2.1, rfl⟩
theorem dX4_find_31 : Dc mX4_find 31 (.ifCond .ge 8) 3 34 := ⟨k_dX4_find_20.2.2.2.2.2, rfl⟩
theorem k_dX4_find_34 : decode (mX4_find).2.1 34 = .ok ((.aload_n 0), 1) ∧ decode (mX4_find).2.1 35 = .ok ((.iconst 4), 1) ∧ decode (mX4_find).2.1 36 = .ok ((.invokevirtual 58), 3) ∧ decode (mX4_find).2.1 39 = .ok ((.iload_n 2), 1) ∧ decode (mX4_find).2.1 40 = .ok ((.ireturn), 1) := by decide +kernel
theorem dX4_find_34 : Dc mX4_find 34 (.aload_n 0) 1 35 := ⟨k_dX4_find_34.1, rfl⟩
theorem dX4_find_35 : Dc mX4_find 35 (.iconst 4) 1 36 := ⟨k_dX4_find_34.2.1, rfl⟩
theorem dX4_find_36 : Dc mX4_find 36 (.invokevirtual 58) 3 39 := ⟨k_dX4_find_34.2.2.1, rfl⟩
theorem dX4_find_39 : Dc mX4_find 39 (.iload_n 2) 1 40 := ⟨k_dX4_find_34.2.2.2.1, rfl⟩
theorem dX4_find_40 : Dc mX4_find 40 (.ireturn) 1 41 := ⟨k_dX4_find_34.2.2.2.2, rfl⟩
theorem k_dX4_number_0 : decode (mX4_number).2.1 0 = .ok ((.aload_n 0), 1) ∧ decode (mX4_number).2.1 1 = .ok ((.getfield 28), 3) ∧ decode (mX4_number).2.1 4 = .ok ((.getfield 167), 3) ∧ decode (mX4_number).2.1 7 = .ok ((.istore_n 3), 1) ∧ decode (mX4_number).2.1 8 = .ok ((.aload_n 0), 1) ∧ decode (mX4_number).2.1 9 = .ok ((.getfield 28), 3) := by decide +kernel
theorem dX4_number_0 : Dc mX4_number 0 (.aload_n 0) 1 1 := ⟨k_dX4_number_0.1, rfl⟩
theorem dX4_number_1 : Dc mX4_number 1 (.getfield 28) 3 4 := ⟨k_dX4_number_0.2.1, rfl⟩
theorem dX4_number_4 : Dc mX4_number 4 (.getfield 167) 3 7 := ⟨k_dX4_number_0.2.2.1, rfl⟩
theorem dX4_number_7 : Dc mX4_number 7 (.istore_n 3) 1 8 := ⟨k_dX4_number_0.2.2.2.1, rfl⟩
theorem dX4_number_8 : Dc mX4_number 8 (.aload_n 0) 1 9 := ⟨k_dX4_number_0.2.2.2.2.1, rfl⟩
theorem dX4_number_9 : Dc mX4_number 9 (.getfield 28) 3 12 := ⟨k_dX4_number_0.2.2.2.2.2, rfl⟩
theorem k_dX4_number_12 : decode (mX4_number).2.1 12 = .ok ((.getfield 52), 3) ∧ decode (mX4_number).2.1 15 = .ok ((.iconst 2), 1) ∧ decode (mX4_number).2.1 16 = .ok ((.if_icmp .eq 11), 3) ∧ decode (mX4_number).2.1 19 = .ok ((.aload_n 0), 1) ∧ decode (mX4_number).2.1 20 = .ok ((.iconst 1), 1) ∧ decode (mX4_number).2.1 21 = .ok ((.invokevirtual 58), 3) := by decide +kernel
theorem dX4_number_12 : Dc mX4_number 12 (.getfield 52) 3 15 := ⟨k_dX4_number_12.1, rfl⟩
theorem dX4_number_15 : Dc mX4_number 15 (.iconst 2) 1 16 := ⟨k_dX4_number_12.2.1, rfl⟩
theorem dX4_number_16 : Dc mX4_number 16 (.if_icmp .eq 11) 3 19 := ⟨k_dX4_number_12.2.2.1, rfl⟩
theorem dX4_number_19 : Dc mX4_number 19 (.aload_n 0) 1 20 := ⟨k_dX4_number_12.2.2.2.1, rfl⟩
theorem dX4_number_20 : Dc mX4_number 20 (.iconst 1) 1 21 := ⟨k_dX4_number_12.2.2.2.2.1, rfl⟩
theorem dX4_number_21 : Dc mX4_number 21 (.invokevirtual 58) 3 24 := ⟨k_dX4_number_12.2.2.2.2.2, rfl⟩
theorem k_dX4_number_24 : decode (mX4_number).2.1 24 = .ok ((.goto 18), 3) ∧ decode (mX4_number).2.1 27 = .ok ((.iload_n 3), 1) ∧ decode (mX4_number).2.1 28 = .ok ((.iload_n 1), 1) ∧ decode (mX4_number).2.1 29 = .ok ((.if_icmp .lt 8), 3) ∧ decode (mX4_number).2.1 32 = .ok ((.iload_n 3), 1) ∧ decode (mX4_number).2.1 33 = .ok ((.iload_n 2), 1) := by decide +kernel
theorem dX4_number_24 : Dc mX4_number 24 (.goto 18) 3 27 := ⟨k_dX4_number_24.1, rfl⟩
theorem dX4_number_27 : Dc mX4_number 27 (.iload_n 3) 1 28 := ⟨k_dX4_number_24.2.1, rfl⟩
theorem dX4_number_28 : Dc mX4_number 28 (.iload_n 1) 1 29 := ⟨k_dX4_number_24.2.2.1, rfl⟩
theorem dX4_number_29 : Dc mX4_number 29 (.if_icmp .lt 8) 3 32 := ⟨k_dX4_number_24.2.2.2.1, rfl⟩
theorem dX4_number_32 : Dc mX4_number 32 (.iload_n 3) 1 33 := ⟨k_dX4_number_24.2.2.2.2.1, rfl⟩
theorem dX4_number_33 : Dc mX4_number 33 (.iload_n 2) 1 34 := ⟨k_dX4_number_24.2.2.2.2.2, rfl⟩
theorem k_dX4_number_34 : decode (mX4_number).2.1 34 = .ok ((.if_icmp .le 8), 3) ∧ decode (mX4_number).2.1 37 = .ok ((.aload_n 0), 1) ∧ decode (mX4_number).2.1 38 = .ok ((.iconst 2), 1) ∧ decode (mX4_number).2.1 39 = .ok ((.invokevirtual 58), 3) ∧ decode (mX4_number).2.1 42 = .ok ((.aload_n 0), 1) ∧ decode (mX4_number).2.1 43 = .ok ((.getfield 28), 3) := by decide +kernel
theorem dX4_number_34 : Dc mX4_number 34 (.if_icmp .le 8) 3 37 := ⟨k_dX4_number_34.1, rfl⟩
theorem dX4_number_37 : Dc mX4_number 37 (.aload_n 0) 1 38 := ⟨k_dX4_number_34.2.1, rfl⟩
theorem dX4_number_38 : Dc mX4_number 38 (.iconst 2) 1 39 := ⟨k_dX4_number_34.2.2.1, rfl⟩
theorem dX4_number_39 : Dc mX4_number 39 (.invokevirtual 58) 3 42 := ⟨k_dX4_number_34.2.2.2.1, rfl⟩
theorem dX4_number_42 : Dc mX4_number 42 (.aload_n 0) 1 43 := ⟨k_dX4_number_34.2.2.2.2.1, rfl⟩
theorem dX4_number_43 : Dc mX4_number 43 (.getfield 28) 3 46 := ⟨k_dX4_number_34.2.2.2.2.2, rfl⟩
theorem k_dX4_number_46 : decode (mX4_number).2.1 46 = .ok ((.invokevirtual 65), 3) ∧ decode (mX4_number).2.1 49 = .ok ((.iload_n 3), 1) ∧ decode (mX4_number).2.1 50 = .ok ((.ireturn), 1) := by decide +kernel
theorem dX4_number_46 : Dc mX4_number 46 (.invokevirtual 65) 3 49 := ⟨k_dX4_number_46.1, rfl⟩
theorem dX4_number_49 : Dc mX4_number 49 (.iload_n 3) 1 50 := ⟨k_dX4_number_46.2.1, rfl⟩
theorem dX4_number_50 : Dc mX4_number 50 (.ireturn) 1 51 := ⟨k_dX4_number_46.2.2, rfl⟩
theorem k_dX4_lawLine_0 : decode (mX4_lawLine).2.1 0 = .ok ((.aload_n 0), 1) ∧ decode (mX4_lawLine).2.1 1 = .ok ((.getfield 28), 3) ∧ decode (mX4_lawLine).2.1 4 = .ok ((.invokevirtual 65), 3) ∧ decode (mX4_lawLine).2.1 7 = .ok ((.aload_n 0), 1) ∧ decode (mX4_lawLine).2.1 8 = .ok ((.getfield 28), 3) ∧ decode (mX4_lawLine).2.1 11 = .ok ((.getfield 52), 3) := by decide +kernel
theorem dX4_lawLine_0 : Dc mX4_lawLine 0 (.aload_n 0) 1 1 := ⟨k_dX4_lawLine_0.1, rfl⟩
theorem dX4_lawLine_1 : Dc mX4_lawLine 1 (.getfield 28) 3 4 := ⟨k_dX4_lawLine_0.2.1, rfl⟩
theorem dX4_lawLine_4 : Dc mX4_lawLine 4 (.invokevirtual 65) 3 7 := ⟨k_dX4_lawLine_0.2.2.1, rfl⟩
theorem dX4_lawLine_7 : Dc mX4_lawLine 7 (.aload_n 0) 1 8 := ⟨k_dX4_lawLine_0.2.2.2.1, rfl⟩
theorem dX4_lawLine_8 : Dc mX4_lawLine 8 (.getfield 28) 3 11 := ⟨k_dX4_lawLine_0.2.2.2.2.1, rfl⟩
theorem dX4_lawLine_11 : Dc mX4_lawLine 11 (.getfield 52) 3 14 := ⟨k_dX4_lawLine_0.2.2.2.2.2, rfl⟩
theorem k_dX4_lawLine_14 : decode (mX4_lawLine).2.1 14 = .ok ((.istore_n 1), 1) ∧ decode (mX4_lawLine).2.1 15 = .ok ((.iload_n 1), 1) ∧ decode (mX4_lawLine).2.1 16 = .ok ((.bipush 30), 2) ∧ decode (mX4_lawLine).2.1 18 = .ok ((.if_icmp .eq 21), 3) ∧ decode (mX4_lawLine).2.1 21 = .ok ((.iload_n 1), 1) ∧ decode (mX4_lawLine).2.1 22 = .ok ((.bipush 31), 2) := by decide +kernel
theorem dX4_lawLine_14 : Dc mX4_lawLine 14 (.istore_n 1) 1 15 := ⟨k_dX4_lawLine_14.1, rfl⟩
theorem dX4_lawLine_15 : Dc mX4_lawLine 15 (.iload_n 1) 1 16 := ⟨k_dX4_lawLine_14.2.1, rfl⟩
theorem dX4_lawLine_16 : Dc mX4_lawLine 16 (.bipush 30) 2 18 := ⟨k_dX4_lawLine_14.2.2.1, rfl⟩
theorem dX4_lawLine_18 : Dc mX4_lawLine 18 (.if_icmp .eq 21) 3 21 := ⟨k_dX4_lawLine_14.2.2.2.1, rfl⟩
theorem dX4_lawLine_21 : Dc mX4_lawLine 21 (.iload_n 1) 1 22 := ⟨k_dX4_lawLine_14.2.2.2.2.1, rfl⟩
theorem dX4_lawLine_22 : Dc mX4_lawLine 22 (.bipush 31) 2 24 := ⟨k_dX4_lawLine_14.2.2.2.2.2, rfl⟩
theorem k_dX4_lawLine_24 : decode (mX4_lawLine).2.1 24 = .ok ((.if_icmp .eq 15), 3) ∧ decode (mX4_lawLine).2.1 27 = .ok ((.iload_n 1), 1) ∧ decode (mX4_lawLine).2.1 28 = .ok ((.bipush 32), 2) ∧ decode (mX4_lawLine).2.1 30 = .ok ((.if_icmp .eq 9), 3) ∧ decode (mX4_lawLine).2.1 33 = .ok ((.aload_n 0), 1) ∧ decode (mX4_lawLine).2.1 34 = .ok ((.iconst 1), 1) := by decide +kernel
theorem dX4_lawLine_24 : Dc mX4_lawLine 24 (.if_icmp .eq 15) 3 27 := ⟨k_dX4_lawLine_24.1, rfl⟩
theorem dX4_lawLine_27 : Dc mX4_lawLine 27 (.iload_n 1) 1 28 := ⟨k_dX4_lawLine_24.2.1, rfl⟩
theorem dX4_lawLine_28 : Dc mX4_lawLine 28 (.bipush 32) 2 30 := ⟨k_dX4_lawLine_24.2.2.1, rfl⟩
theorem dX4_lawLine_30 : Dc mX4_lawLine 30 (.if_icmp .eq 9) 3 33 := ⟨k_dX4_lawLine_24.2.2.2.1, rfl⟩
theorem dX4_lawLine_33 : Dc mX4_lawLine 33 (.aload_n 0) 1 34 := ⟨k_dX4_lawLine_24.2.2.2.2.1, rfl⟩
theorem dX4_lawLine_34 : Dc mX4_lawLine 34 (.iconst 1) 1 35 := ⟨k_dX4_lawLine_24.2.2.2.2.2, rfl⟩
theorem k_dX4_lawLine_35 : decode (mX4_lawLine).2.1 35 = .ok ((.invokevirtual 58), 3) ∧ decode (mX4_lawLine).2.1 38 = .ok ((.return_), 1) ∧ decode (mX4_lawLine).2.1 39 = .ok ((.iload_n 1), 1) ∧ decode (mX4_lawLine).2.1 40 = .ok ((.bipush 30), 2) ∧ decode (mX4_lawLine).2.1 42 = .ok ((.if_icmp .ne 13), 3) ∧ decode (mX4_lawLine).2.1 45 = .ok ((.aload_n 0), 1) := by decide +kernel
theorem dX4_lawLine_35 : Dc mX4_lawLine 35 (.invokevirtual 58) 3 38 := ⟨k_dX4_lawLine_35.1, rfl⟩
theorem dX4_lawLine_38 : Dc mX4_lawLine 38 (.return_) 1 39 := ⟨k_dX4_lawLine_35.2.1, rfl⟩
theorem dX4_lawLine_39 : Dc mX4_lawLine 39 (.iload_n 1) 1 40 := ⟨k_dX4_lawLine_35.2.2.1, rfl⟩
theorem dX4_lawLine_40 : Dc mX4_lawLine 40 (.bipush 30) 2 42 := ⟨k_dX4_lawLine_35.2.2.2.1, rfl⟩
theorem dX4_lawLine_42 : Dc mX4_lawLine 42 (.if_icmp .ne 13) 3 45 := ⟨k_dX4_lawLine_35.2.2.2.2.1, rfl⟩
theorem dX4_lawLine_45 : Dc mX4_lawLine 45 (.aload_n 0) 1 46 := ⟨k_dX4_lawLine_35.2.2.2.2.2, rfl⟩
theorem k_dX4_lawLine_46 : decode (mX4_lawLine).2.1 46 = .ok ((.getfield 12), 3) ∧ decode (mX4_lawLine).2.1 49 = .ok ((.getfield 173), 3) ∧ decode (mX4_lawLine).2.1 52 = .ok ((.goto 26), 3) ∧ decode (mX4_lawLine).2.1 55 = .ok ((.iload_n 1), 1) ∧ decode (mX4_lawLine).2.1 56 = .ok ((.bipush 31), 2) ∧ decode (mX4_lawLine).2.1 58 = .ok ((.if_icmp .ne 13), 3) := by decide +kernel
theorem dX4_lawLine_46 : Dc mX4_lawLine 46 (.getfield 12) 3 49 := ⟨k_dX4_lawLine_46.1, rfl⟩
theorem dX4_lawLine_49 : Dc mX4_lawLine 49 (.getfield 173) 3 52 := ⟨k_dX4_lawLine_46.2.1, rfl⟩
theorem dX4_lawLine_52 : Dc mX4_lawLine 52 (.goto 26) 3 55 := ⟨k_dX4_lawLine_46.2.2.1, rfl⟩
theorem dX4_lawLine_55 : Dc mX4_lawLine 55 (.iload_n 1) 1 56 := ⟨k_dX4_lawLine_46.2.2.2.1, rfl⟩
theorem dX4_lawLine_56 : Dc mX4_lawLine 56 (.bipush 31) 2 58 := ⟨k_dX4_lawLine_46.2.2.2.2.1, rfl⟩
theorem dX4_lawLine_58 : Dc mX4_lawLine 58 (.if_icmp .ne 13) 3 61 := ⟨k_dX4_lawLine_46.2.2.2.2.2, rfl⟩
theorem k_dX4_lawLine_61 : decode (mX4_lawLine).2.1 61 = .ok ((.aload_n 0), 1) ∧ decode (mX4_lawLine).2.1 62 = .ok ((.getfield 12), 3) ∧ decode (mX4_lawLine).2.1 65 = .ok ((.getfield 177), 3) ∧ decode (mX4_lawLine).2.1 68 = .ok ((.goto 10), 3) ∧ decode (mX4_lawLine).2.1 71 = .ok ((.aload_n 0), 1) ∧ decode (mX4_lawLine).2.1 72 = .ok ((.getfield 12), 3) := by decide +kernel
theorem dX4_lawLine_61 : Dc mX4_lawLine 61 (.aload_n 0) 1 62 := ⟨k_dX4_lawLine_61.1, rfl⟩
theorem dX4_lawLine_62 : Dc mX4_lawLine 62 (.getfield 12) 3 65 := ⟨k_dX4_lawLine_61.2.1, rfl⟩
theorem dX4_lawLine_65 : Dc mX4_lawLine 65 (.getfield 177) 3 68 := ⟨k_dX4_lawLine_61.2.2.1, rfl⟩
theorem dX4_lawLine_68 : Dc mX4_lawLine 68 (.goto 10) 3 71 := ⟨k_dX4_lawLine_61.2.2.2.1, rfl⟩
theorem dX4_lawLine_71 : Dc mX4_lawLine 71 (.aload_n 0) 1 72 := ⟨k_dX4_lawLine_61.2.2.2.2.1, rfl⟩
theorem dX4_lawLine_72 : Dc mX4_lawLine 72 (.getfield 12) 3 75 := ⟨k_dX4_lawLine_61.2.2.2.2.2, rfl⟩
theorem k_dX4_lawLine_75 : decode (mX4_lawLine).2.1 75 = .ok ((.getfield 180), 3) ∧ decode (mX4_lawLine).2.1 78 = .ok ((.astore_n 2), 1) ∧ decode (mX4_lawLine).2.1 79 = .ok ((.aload_n 2), 1) ∧ decode (mX4_lawLine).2.1 80 = .ok ((.getfield 183), 3) ∧ decode (mX4_lawLine).2.1 83 = .ok ((.ifCond .eq 8), 3) ∧ decode (mX4_lawLine).2.1 86 = .ok ((.aload_n 0), 1) := by decide +kernel
theorem dX4_lawLine_75 : Dc mX4_lawLine 75 (.getfield 180) 3 78 := ⟨k_dX4_lawLine_75.1, rfl⟩
theorem dX4_lawLine_78 : Dc mX4_lawLine 78 (.astore_n 2) 1 79 := ⟨k_dX4_lawLine_75.2.1, rfl⟩
theorem dX4_lawLine_79 : Dc mX4_lawLine 79 (.aload_n 2) 1 80 := ⟨k_dX4_lawLine_75.2.2.1, rfl⟩
theorem dX4_lawLine_80 : Dc mX4_lawLine 80 (.getfield 183) 3 83 := ⟨k_dX4_lawLine_75.2.2.2.1, rfl⟩
theorem dX4_lawLine_83 : Dc mX4_lawLine 83 (.ifCond .eq 8) 3 86 := ⟨k_dX4_lawLine_75.2.2.2.2.1, rfl⟩
theorem dX4_lawLine_86 : Dc mX4_lawLine 86 (.aload_n 0) 1 87 := ⟨k_dX4_lawLine_75.2.2.2.2.2, rfl⟩
theorem k_dX4_lawLine_87 : decode (mX4_lawLine).2.1 87 = .ok ((.iconst 3), 1) ∧ decode (mX4_lawLine).2.1 88 = .ok ((.invokevirtual 58), 3) ∧ decode (mX4_lawLine).2.1 91 = .ok ((.aload_n 2), 1) ∧ decode (mX4_lawLine).2.1 92 = .ok ((.iconst 1), 1) ∧ decode (mX4_lawLine).2.1 93 = .ok ((.putfield 183), 3) ∧ decode (mX4_lawLine).2.1 96 = .ok ((.aload_n 0), 1) := by decide +kernel
theorem dX4_lawLine_87 : Dc mX4_lawLine 87 (.iconst 3) 1 88 := ⟨k_dX4_lawLine_87.1, rfl⟩
theorem dX4_lawLine_88 : Dc mX4_lawLine 88 (.invokevirtual 58) 3 91 := ⟨k_dX4_lawLine_87.2.1, rfl⟩
theorem dX4_lawLine_91 : Dc mX4_lawLine 91 (.aload_n 2) 1 92 := ⟨k_dX4_lawLine_87.2.2.1, rfl⟩
theorem dX4_lawLine_92 : Dc mX4_lawLine 92 (.iconst 1) 1 93 := ⟨k_dX4_lawLine_87.2.2.2.1, rfl⟩
theorem dX4_lawLine_93 : Dc mX4_lawLine 93 (.putfield 183) 3 96 := ⟨k_dX4_lawLine_87.2.2.2.2.1, rfl⟩
theorem dX4_lawLine_96 : Dc mX4_lawLine 96 (.aload_n 0) 1 97 := ⟨k_dX4_lawLine_87.2.2.2.2.2, rfl⟩
theorem k_dX4_lawLine_97 : decode (mX4_lawLine).2.1 97 = .ok ((.getfield 28), 3) ∧ decode (mX4_lawLine).2.1 100 = .ok ((.invokevirtual 65), 3) ∧ decode (mX4_lawLine).2.1 103 = .ok ((.aload_n 0), 1) ∧ decode (mX4_lawLine).2.1 104 = .ok ((.aload_n 2), 1) ∧ decode (mX4_lawLine).2.1 105 = .ok ((.invokevirtual 188), 3) ∧ decode (mX4_lawLine).2.1 108 = .ok ((.return_), 1) := by decide +kernel
theorem dX4_lawLine_97 : Dc mX4_lawLine 97 (.getfield 28) 3 100 := ⟨k_dX4_lawLine_97.1, rfl⟩
theorem dX4_lawLine_100 : Dc mX4_lawLine 100 (.invokevirtual 65) 3 103 := ⟨k_dX4_lawLine_97.2.1, rfl⟩
theorem dX4_lawLine_103 : Dc mX4_lawLine 103 (.aload_n 0) 1 104 := ⟨k_dX4_lawLine_97.2.2.1, rfl⟩
theorem dX4_lawLine_104 : Dc mX4_lawLine 104 (.aload_n 2) 1 105 := ⟨k_dX4_lawLine_97.2.2.2.1, rfl⟩
theorem dX4_lawLine_105 : Dc mX4_lawLine 105 (.invokevirtual 188) 3 108 := ⟨k_dX4_lawLine_97.2.2.2.2.1, rfl⟩
theorem dX4_lawLine_108 : Dc mX4_lawLine 108 (.return_) 1 109 := ⟨k_dX4_lawLine_97.2.2.2.2.2, rfl⟩
theorem k_dX4_side_0 : decode (mX4_side).2.1 0 = .ok ((.iconst 1), 1) ∧ decode (mX4_side).2.1 1 = .ok ((.istore_n 2), 1) ∧ decode (mX4_side).2.1 2 = .ok ((.aload_n 0), 1) ∧ decode (mX4_side).2.1 3 = .ok ((.iconst 0), 1) ∧ decode (mX4_side).2.1 4 = .ok ((.putfield 39), 3) ∧ decode (mX4_side).2.1 7 = .ok ((.aload_n 0), 1) := by decide +kernel
theorem dX4_side_0 : Dc mX4_side 0 (.iconst 1) 1 1 := ⟨k_dX4_side_0.1, rfl⟩
theorem dX4_side_1 : Dc mX4_side 1 (.istore_n 2) 1 2 := ⟨k_dX4_side_0.2.1, rfl⟩
theorem dX4_side_2 : Dc mX4_side 2 (.aload_n 0) 1 3 := ⟨k_dX4_side_0.2.2.1, rfl⟩
theorem dX4_side_3 : Dc mX4_side 3 (.iconst 0) 1 4 := ⟨k_dX4_side_0.2.2.2.1, rfl⟩
theorem dX4_side_4 : Dc mX4_side 4 (.putfield 39) 3 7 := ⟨k_dX4_side_0.2.2.2.2.1, rfl⟩
theorem dX4_side_7 : Dc mX4_side 7 (.aload_n 0) 1 8 := ⟨k_dX4_side_0.2.2.2.2.2, rfl⟩
theorem k_dX4_side_8 : decode (mX4_side).2.1 8 = .ok ((.iconst 0), 1) ∧ decode (mX4_side).2.1 9 = .ok ((.putfield 42), 3) ∧ decode (mX4_side).2.1 12 = .ok ((.iconst 0), 1) ∧ decode (mX4_side).2.1 13 = .ok ((.istore_n 3), 1) ∧ decode (mX4_side).2.1 14 = .ok ((.iload_n 3), 1) ∧ decode (mX4_side).2.1 15 = .ok ((.sipush 700), 3) := by decide +kernel
theorem dX4_side_8 : Dc mX4_side 8 (.iconst 0) 1 9 := ⟨k_dX4_side_8.1, rfl⟩
theorem dX4_side_9 : Dc mX4_side 9 (.putfield 42) 3 12 := ⟨k_dX4_side_8.2.1, rfl⟩
theorem dX4_side_12 : Dc mX4_side 12 (.iconst 0) 1 13 := ⟨k_dX4_side_8.2.2.1, rfl⟩
theorem dX4_side_13 : Dc mX4_side 13 (.istore_n 3) 1 14 := ⟨k_dX4_side_8.2.2.2.1, rfl⟩
theorem dX4_side_14 : Dc mX4_side 14 (.iload_n 3) 1 15 := ⟨k_dX4_side_8.2.2.2.2.1, rfl⟩
theorem dX4_side_15 : Dc mX4_side 15 (.sipush 700) 3 18 := ⟨k_dX4_side_8.2.2.2.2.2, rfl⟩
theorem k_dX4_side_18 : decode (mX4_side).2.1 18 = .ok ((.if_icmp .gt 70), 3) ∧ decode (mX4_side).2.1 21 = .ok ((.aload_n 0), 1) ∧ decode (mX4_side).2.1 22 = .ok ((.getfield 18), 3) ∧ decode (mX4_side).2.1 25 = .ok ((.ifCond .ne 63), 3) ∧ decode (mX4_side).2.1 28 = .ok ((.iload_n 2), 1) ∧ decode (mX4_side).2.1 29 = .ok ((.ifCond .ne 28), 3) := by decide +kernel
theorem dX4_side_18 : Dc mX4_side 18 (.if_icmp .gt 70) 3 21 := ⟨k_dX4_side_18.1, rfl⟩
theorem dX4_side_21 : Dc mX4_side 21 (.aload_n 0) 1 22 := ⟨k_dX4_side_18.2.1, rfl⟩
theorem dX4_side_22 : Dc mX4_side 22 (.getfield 18) 3 25 := ⟨k_dX4_side_18.2.2.1, rfl⟩
theorem dX4_side_25 : Dc mX4_side 25 (.ifCond .ne 63) 3 28 := ⟨k_dX4_side_18.2.2.2.1, rfl⟩
theorem dX4_side_28 : Dc mX4_side 28 (.iload_n 2) 1 29 := ⟨k_dX4_side_18.2.2.2.2.1, rfl⟩
theorem dX4_side_29 : Dc mX4_side 29 (.ifCond .ne 28) 3 32 := ⟨k_dX4_side_18.2.2.2.2.2, rfl⟩
theorem k_dX4_side_32 : decode (mX4_side).2.1 32 = .ok ((.aload_n 0), 1) ∧ decode (mX4_side).2.1 33 = .ok ((.getfield 42), 3) ∧ decode (mX4_side).2.1 36 = .ok ((.ifCond .ne 21), 3) ∧ decode (mX4_side).2.1 39 = .ok ((.aload_n 0), 1) ∧ decode (mX4_side).2.1 40 = .ok ((.getfield 28), 3) ∧ decode (mX4_side).2.1 43 = .ok ((.getfield 52), 3) := by decide +kernel
theorem dX4_side_32 : Dc mX4_side 32 (.aload_n 0) 1 33 := ⟨k_dX4_side_32.1, rfl⟩
theorem dX4_side_33 : Dc mX4_side 33 (.getfield 42) 3 36 := ⟨k_dX4_side_32.2.1, rfl⟩
theorem dX4_side_36 : Dc mX4_side 36 (.ifCond .ne 21) 3 39 := ⟨k_dX4_side_32.2.2.1, rfl⟩
theorem dX4_side_39 : Dc mX4_side 39 (.aload_n 0) 1 40 := ⟨k_dX4_side_32.2.2.2.1, rfl⟩
theorem dX4_side_40 : Dc mX4_side 40 (.getfield 28) 3 43 := ⟨k_dX4_side_32.2.2.2.2.1, rfl⟩
theorem dX4_side_43 : Dc mX4_side 43 (.getfield 52) 3 46 := ⟨k_dX4_side_32.2.2.2.2.2, rfl⟩
theorem k_dX4_side_46 : decode (mX4_side).2.1 46 = .ok ((.iconst 4), 1) ∧ decode (mX4_side).2.1 47 = .ok ((.if_icmp .ne 10), 3) ∧ decode (mX4_side).2.1 50 = .ok ((.aload_n 0), 1) ∧ decode (mX4_side).2.1 51 = .ok ((.aload_n 1), 1) ∧ decode (mX4_side).2.1 52 = .ok ((.iconst 1), 1) ∧ decode (mX4_side).2.1 53 = .ok ((.invokevirtual 192), 3) := by decide +kernel
theorem dX4_side_46 : Dc mX4_side 46 (.iconst 4) 1 47 := ⟨k_dX4_side_46.1, rfl⟩
theorem dX4_side_47 : Dc mX4_side 47 (.if_icmp .ne 10) 3 50 := ⟨k_dX4_side_46.2.1, rfl⟩
theorem dX4_side_50 : Dc mX4_side 50 (.aload_n 0) 1 51 := ⟨k_dX4_side_46.2.2.1, rfl⟩
theorem dX4_side_51 : Dc mX4_side 51 (.aload_n 1) 1 52 := ⟨k_dX4_side_46.2.2.2.1, rfl⟩
theorem dX4_side_52 : Dc mX4_side 52 (.iconst 1) 1 53 := ⟨k_dX4_side_46.2.2.2.2.1, rfl⟩
theorem dX4_side_53 : Dc mX4_side 53 (.invokevirtual 192) 3 56 := ⟨k_dX4_side_46.2.2.2.2.2, rfl⟩
theorem k_dX4_side_56 : decode (mX4_side).2.1 56 = .ok ((.return_), 1) ∧ decode (mX4_side).2.1 57 = .ok ((.iload_n 2), 1) ∧ decode (mX4_side).2.1 58 = .ok ((.ifCond .eq 11), 3) ∧ decode (mX4_side).2.1 61 = .ok ((.aload_n 0), 1) ∧ decode (mX4_side).2.1 62 = .ok ((.aload_n 1), 1) ∧ decode (mX4_side).2.1 63 = .ok ((.invokevirtual 196), 3) := by decide +kernel
theorem dX4_side_56 : Dc mX4_side 56 (.return_) 1 57 := ⟨k_dX4_side_56.1, rfl⟩
theorem dX4_side_57 : Dc mX4_side 57 (.iload_n 2) 1 58 := ⟨k_dX4_side_56.2.1, rfl⟩
theorem dX4_side_58 : Dc mX4_side 58 (.ifCond .eq 11) 3 61 := ⟨k_dX4_side_56.2.2.1, rfl⟩
theorem dX4_side_61 : Dc mX4_side 61 (.aload_n 0) 1 62 := ⟨k_dX4_side_56.2.2.2.1, rfl⟩
theorem dX4_side_62 : Dc mX4_side 62 (.aload_n 1) 1 63 := ⟨k_dX4_side_56.2.2.2.2.1, rfl⟩
theorem dX4_side_63 : Dc mX4_side 63 (.invokevirtual 196) 3 66 := ⟨k_dX4_side_56.2.2.2.2.2, rfl⟩
theorem k_dX4_side_66 : decode (mX4_side).2.1 66 = .ok ((.goto 8), 3) ∧ decode (mX4_side).2.1 69 = .ok ((.aload_n 0), 1) ∧ decode (mX4_side).2.1 70 = .ok ((.aload_n 1), 1) ∧ decode (mX4_side).2.1 71 = .ok ((.invokevirtual 200), 3) ∧ decode (mX4_side).2.1 74 = .ok ((.istore_n 2), 1) ∧ decode (mX4_side).2.1 75 = .ok ((.aload_n 0), 1) := by decide +kernel
theorem dX4_side_66 : Dc mX4_side 66 (.goto 8) 3 69 := ⟨k_dX4_side_66.1, rfl⟩
theorem dX4_side_69 : Dc mX4_side 69 (.aload_n 0) 1 70 := ⟨k_dX4_side_66.2.1, rfl⟩
theorem dX4_side_70 : Dc mX4_side 70 (.aload_n 1) 1 71 := ⟨k_dX4_side_66.2.2.1, rfl⟩
theorem dX4_side_71 : Dc mX4_side 71 (.invokevirtual 200) 3 74 := ⟨k_dX4_side_66.2.2.2.1, rfl⟩
theorem dX4_side_74 : Dc mX4_side 74 (.istore_n 2) 1 75 := ⟨k_dX4_side_66.2.2.2.2.1, rfl⟩
theorem dX4_side_75 : Dc mX4_side 75 (.aload_n 0) 1 76 := ⟨k_dX4_side_66.2.2.2.2.2, rfl⟩
theorem k_dX4_side_76 : decode (mX4_side).2.1 76 = .ok ((.getfield 28), 3) ∧ decode (mX4_side).2.1 79 = .ok ((.invokevirtual 65), 3) ∧ decode (mX4_side).2.1 82 = .ok ((.iinc 3 1), 3) ∧ decode (mX4_side).2.1 85 = .ok ((.goto (-71)), 3) ∧ decode (mX4_side).2.1 88 = .ok ((.return_), 1) := by decide +kernel
theorem dX4_side_76 : Dc mX4_side 76 (.getfield 28) 3 79 := ⟨k_dX4_side_76.1, rfl⟩
theorem dX4_side_79 : Dc mX4_side 79 (.invokevirtual 65) 3 82 := ⟨k_dX4_side_76.2.1, rfl⟩
theorem dX4_side_82 : Dc mX4_side 82 (.iinc 3 1) 3 85 := ⟨k_dX4_side_76.2.2.1, rfl⟩
theorem dX4_side_85 : Dc mX4_side 85 (.goto (-71)) 3 88 := ⟨k_dX4_side_76.2.2.2.1, rfl⟩
theorem dX4_side_88 : Dc mX4_side 88 (.return_) 1 89 := ⟨k_dX4_side_76.2.2.2.2, rfl⟩
theorem k_dX4_operand_0 : decode (mX4_operand).2.1 0 = .ok ((.aload_n 0), 1) ∧ decode (mX4_operand).2.1 1 = .ok ((.getfield 28), 3) ∧ decode (mX4_operand).2.1 4 = .ok ((.getfield 52), 3) ∧ decode (mX4_operand).2.1 7 = .ok ((.istore_n 2), 1) ∧ decode (mX4_operand).2.1 8 = .ok ((.iload_n 2), 1) ∧ decode (mX4_operand).2.1 9 = .ok ((.iconst 2), 1) := by decide +kernel
theorem dX4_operand_0 : Dc mX4_operand 0 (.aload_n 0) 1 1 := ⟨k_dX4_operand_0.1, rfl⟩
theorem dX4_operand_1 : Dc mX4_operand 1 (.getfield 28) 3 4 := ⟨k_dX4_operand_0.2.1, rfl⟩
theorem dX4_operand_4 : Dc mX4_operand 4 (.getfield 52) 3 7 := ⟨k_dX4_operand_0.2.2.1, rfl⟩
theorem dX4_operand_7 : Dc mX4_operand 7 (.istore_n 2) 1 8 := ⟨k_dX4_operand_0.2.2.2.1, rfl⟩
theorem dX4_operand_8 : Dc mX4_operand 8 (.iload_n 2) 1 9 := ⟨k_dX4_operand_0.2.2.2.2.1, rfl⟩
theorem dX4_operand_9 : Dc mX4_operand 9 (.iconst 2) 1 10 := ⟨k_dX4_operand_0.2.2.2.2.2, rfl⟩
theorem k_dX4_operand_10 : decode (mX4_operand).2.1 10 = .ok ((.if_icmp .eq 9), 3) ∧ decode (mX4_operand).2.1 13 = .ok ((.iload_n 2), 1) ∧ decode (mX4_operand).2.1 14 = .ok ((.bipush 36), 2) ∧ decode (mX4_operand).2.1 16 = .ok ((.if_icmp .lt 53), 3) ∧ decode (mX4_operand).2.1 19 = .ok ((.aload_n 0), 1) ∧ decode (mX4_operand).2.1 20 = .ok ((.invokevirtual 203), 3) := by decide +kernel
theorem dX4_operand_10 : Dc mX4_operand 10 (.if_icmp .eq 9) 3 13 := ⟨k_dX4_operand_10.1, rfl⟩
theorem dX4_operand_13 : Dc mX4_operand 13 (.iload_n 2) 1 14 := ⟨k_dX4_operand_10.2.1, rfl⟩
theorem dX4_operand_14 : Dc mX4_operand 14 (.bipush 36) 2 16 := ⟨k_dX4_operand_10.2.2.1, rfl⟩
theorem dX4_operand_16 : Dc mX4_operand 16 (.if_icmp .lt 53) 3 19 := ⟨k_dX4_operand_10.2.2.2.1, rfl⟩
theorem dX4_operand_19 : Dc mX4_operand 19 (.aload_n 0) 1 20 := ⟨k_dX4_operand_10.2.2.2.2.1, rfl⟩
theorem dX4_operand_20 : Dc mX4_operand 20 (.invokevirtual 203) 3 23 := ⟨k_dX4_operand_10.2.2.2.2.2, rfl⟩
theorem k_dX4_operand_23 : decode (mX4_operand).2.1 23 = .ok ((.iload_n 2), 1) ∧ decode (mX4_operand).2.1 24 = .ok ((.iconst 2), 1) ∧ decode (mX4_operand).2.1 25 = .ok ((.if_icmp .ne 21), 3) ∧ decode (mX4_operand).2.1 28 = .ok ((.aload_n 0), 1) ∧ decode (mX4_operand).2.1 29 = .ok ((.getfield 28), 3) ∧ decode (mX4_operand).2.1 32 = .ok ((.getfield 167), 3) := by decide +kernel
theorem dX4_operand_23 : Dc mX4_operand 23 (.iload_n 2) 1 24 := ⟨k_dX4_operand_23.1, rfl⟩
theorem dX4_operand_24 : Dc mX4_operand 24 (.iconst 2) 1 25 := ⟨k_dX4_operand_23.2.1, rfl⟩
theorem dX4_operand_25 : Dc mX4_operand 25 (.if_icmp .ne 21) 3 28 := ⟨k_dX4_operand_23.2.2.1, rfl⟩
theorem dX4_operand_28 : Dc mX4_operand 28 (.aload_n 0) 1 29 := ⟨k_dX4_operand_23.2.2.2.1, rfl⟩
theorem dX4_operand_29 : Dc mX4_operand 29 (.getfield 28) 3 32 := ⟨k_dX4_operand_23.2.2.2.2.1, rfl⟩
theorem dX4_operand_32 : Dc mX4_operand 32 (.getfield 167) 3 35 := ⟨k_dX4_operand_23.2.2.2.2.2, rfl⟩
theorem k_dX4_operand_35 : decode (mX4_operand).2.1 35 = .ok ((.sipush 9999), 3) ∧ decode (mX4_operand).2.1 38 = .ok ((.if_icmp .le 8), 3) ∧ decode (mX4_operand).2.1 41 = .ok ((.aload_n 0), 1) ∧ decode (mX4_operand).2.1 42 = .ok ((.iconst 2), 1) ∧ decode (mX4_operand).2.1 43 = .ok ((.invokevirtual 58), 3) ∧ decode (mX4_operand).2.1 46 = .ok ((.aload_n 1), 1) := by decide +kernel
theorem dX4_operand_35 : Dc mX4_operand 35 (.sipush 9999) 3 38 := ⟨k_dX4_operand_35.1, rfl⟩
theorem dX4_operand_38 : Dc mX4_operand 38 (.if_icmp .le 8) 3 41 := ⟨k_dX4_operand_35.2.1, rfl⟩
theorem dX4_operand_41 : Dc mX4_operand 41 (.aload_n 0) 1 42 := ⟨k_dX4_operand_35.2.2.1, rfl⟩
theorem dX4_operand_42 : Dc mX4_operand 42 (.iconst 2) 1 43 := ⟨k_dX4_operand_35.2.2.2.1, rfl⟩
theorem dX4_operand_43 : Dc mX4_operand 43 (.invokevirtual 58) 3 46 := ⟨k_dX4_operand_35.2.2.2.2.1, rfl⟩
theorem dX4_operand_46 : Dc mX4_operand 46 (.aload_n 1) 1 47 := ⟨k_dX4_operand_35.2.2.2.2.2, rfl⟩
theorem k_dX4_operand_47 : decode (mX4_operand).2.1 47 = .ok ((.iload_n 2), 1) ∧ decode (mX4_operand).2.1 48 = .ok ((.iload_n 2), 1) ∧ decode (mX4_operand).2.1 49 = .ok ((.iconst 2), 1) ∧ decode (mX4_operand).2.1 50 = .ok ((.if_icmp .ne 13), 3) ∧ decode (mX4_operand).2.1 53 = .ok ((.aload_n 0), 1) ∧ decode (mX4_operand).2.1 54 = .ok ((.getfield 28), 3) := by decide +kernel
theorem dX4_operand_47 : Dc mX4_operand 47 (.iload_n 2) 1 48 := ⟨k_dX4_operand_47.1, rfl⟩
theorem dX4_operand_48 : Dc mX4_operand 48 (.iload_n 2) 1 49 := ⟨k_dX4_operand_47.2.1, rfl⟩
theorem dX4_operand_49 : Dc mX4_operand 49 (.iconst 2) 1 50 := ⟨k_dX4_operand_47.2.2.1, rfl⟩
theorem dX4_operand_50 : Dc mX4_operand 50 (.if_icmp .ne 13) 3 53 := ⟨k_dX4_operand_47.2.2.2.1, rfl⟩
theorem dX4_operand_53 : Dc mX4_operand 53 (.aload_n 0) 1 54 := ⟨k_dX4_operand_47.2.2.2.2.1, rfl⟩
theorem dX4_operand_54 : Dc mX4_operand 54 (.getfield 28) 3 57 := ⟨k_dX4_operand_47.2.2.2.2.2, rfl⟩
theorem k_dX4_operand_57 : decode (mX4_operand).2.1 57 = .ok ((.getfield 167), 3) ∧ decode (mX4_operand).2.1 60 = .ok ((.goto 4), 3) ∧ decode (mX4_operand).2.1 63 = .ok ((.iconst 0), 1) ∧ decode (mX4_operand).2.1 64 = .ok ((.invokevirtual 206), 3) ∧ decode (mX4_operand).2.1 67 = .ok ((.iconst 0), 1) ∧ decode (mX4_operand).2.1 68 = .ok ((.ireturn), 1) := by decide +kernel
theorem dX4_operand_57 : Dc mX4_operand 57 (.getfield 167) 3 60 := ⟨k_dX4_operand_57.1, rfl⟩
theorem dX4_operand_60 : Dc mX4_operand 60 (.goto 4) 3 63 := ⟨k_dX4_operand_57.2.1, rfl⟩
theorem dX4_operand_63 : Dc mX4_operand 63 (.iconst 0) 1 64 := ⟨k_dX4_operand_57.2.2.1, rfl⟩
theorem dX4_operand_64 : Dc mX4_operand 64 (.invokevirtual 206) 3 67 := ⟨k_dX4_operand_57.2.2.2.1, rfl⟩
theorem dX4_operand_67 : Dc mX4_operand 67 (.iconst 0) 1 68 := ⟨k_dX4_operand_57.2.2.2.2.1, rfl⟩
theorem dX4_operand_68 : Dc mX4_operand 68 (.ireturn) 1 69 := ⟨k_dX4_operand_57.2.2.2.2.2, rfl⟩
theorem k_dX4_operand_69 : decode (mX4_operand).2.1 69 = .ok ((.iload_n 2), 1) ∧ decode (mX4_operand).2.1 70 = .ok ((.iconst 5), 1) ∧ decode (mX4_operand).2.1 71 = .ok ((.if_icmp .ne 35), 3) ∧ decode (mX4_operand).2.1 74 = .ok ((.aload_n 0), 1) ∧ decode (mX4_operand).2.1 75 = .ok ((.getfield 42), 3) ∧ decode (mX4_operand).2.1 78 = .ok ((.bipush 8), 2) := by decide +kernel
theorem dX4_operand_69 : Dc mX4_operand 69 (.iload_n 2) 1 70 := ⟨k_dX4_operand_69.1, rfl⟩
theorem dX4_operand_70 : Dc mX4_operand 70 (.iconst 5) 1 71 := ⟨k_dX4_operand_69.2.1, rfl⟩
theorem dX4_operand_71 : Dc mX4_operand 71 (.if_icmp .ne 35) 3 74 := ⟨k_dX4_operand_69.2.2.1, rfl⟩
theorem dX4_operand_74 : Dc mX4_operand 74 (.aload_n 0) 1 75 := ⟨k_dX4_operand_69.2.2.2.1, rfl⟩
theorem dX4_operand_75 : Dc mX4_operand 75 (.getfield 42) 3 78 := ⟨k_dX4_operand_69.2.2.2.2.1, rfl⟩
theorem dX4_operand_78 : Dc mX4_operand 78 (.bipush 8) 2 80 := ⟨k_dX4_operand_69.2.2.2.2.2, rfl⟩
theorem k_dX4_operand_80 : decode (mX4_operand).2.1 80 = .ok ((.if_icmp .lt 8), 3) ∧ decode (mX4_operand).2.1 83 = .ok ((.aload_n 0), 1) ∧ decode (mX4_operand).2.1 84 = .ok ((.iconst 2), 1) ∧ decode (mX4_operand).2.1 85 = .ok ((.invokevirtual 58), 3) ∧ decode (mX4_operand).2.1 88 = .ok ((.aload_n 0), 1) ∧ decode (mX4_operand).2.1 89 = .ok ((.dup), 1) := by decide +kernel
theorem dX4_operand_80 : Dc mX4_operand 80 (.if_icmp .lt 8) 3 83 := ⟨k_dX4_operand_80.1, rfl⟩
theorem dX4_operand_83 : Dc mX4_operand 83 (.aload_n 0) 1 84 := ⟨k_dX4_operand_80.2.1, rfl⟩
theorem dX4_operand_84 : Dc mX4_operand 84 (.iconst 2) 1 85 := ⟨k_dX4_operand_80.2.2.1, rfl⟩
theorem dX4_operand_85 : Dc mX4_operand 85 (.invokevirtual 58) 3 88 := ⟨k_dX4_operand_80.2.2.2.1, rfl⟩
theorem dX4_operand_88 : Dc mX4_operand 88 (.aload_n 0) 1 89 := ⟨k_dX4_operand_80.2.2.2.2.1, rfl⟩
theorem dX4_operand_89 : Dc mX4_operand 89 (.dup) 1 90 := ⟨k_dX4_operand_80.2.2.2.2.2, rfl⟩
theorem k_dX4_operand_90 : decode (mX4_operand).2.1 90 = .ok ((.getfield 42), 3) ∧ decode (mX4_operand).2.1 93 = .ok ((.iconst 1), 1) ∧ decode (mX4_operand).2.1 94 = .ok ((.iadd), 1) ∧ decode (mX4_operand).2.1 95 = .ok ((.putfield 42), 3) ∧ decode (mX4_operand).2.1 98 = .ok ((.aload_n 0), 1) ∧ decode (mX4_operand).2.1 99 = .ok ((.iload_n 2), 1) := by decide +kernel
theorem dX4_operand_90 : Dc mX4_operand 90 (.getfield 42) 3 93 := ⟨k_dX4_operand_90.1, rfl⟩
theorem dX4_operand_93 : Dc mX4_operand 93 (.iconst 1) 1 94 := ⟨k_dX4_operand_90.2.1, rfl⟩
theorem dX4_operand_94 : Dc mX4_operand 94 (.iadd) 1 95 := ⟨k_dX4_operand_90.2.2.1, rfl⟩
theorem dX4_operand_95 : Dc mX4_operand 95 (.putfield 42) 3 98 := ⟨k_dX4_operand_90.2.2.2.1, rfl⟩
theorem dX4_operand_98 : Dc mX4_operand 98 (.aload_n 0) 1 99 := ⟨k_dX4_operand_90.2.2.2.2.1, rfl⟩
theorem dX4_operand_99 : Dc mX4_operand 99 (.iload_n 2) 1 100 := ⟨k_dX4_operand_90.2.2.2.2.2, rfl⟩
theorem k_dX4_operand_100 : decode (mX4_operand).2.1 100 = .ok ((.invokevirtual 209), 3) ∧ decode (mX4_operand).2.1 103 = .ok ((.goto 38), 3) ∧ decode (mX4_operand).2.1 106 = .ok ((.iload_n 2), 1) ∧ decode (mX4_operand).2.1 107 = .ok ((.bipush 35), 2) ∧ decode (mX4_operand).2.1 109 = .ok ((.if_icmp .ne 27), 3) ∧ decode (mX4_operand).2.1 112 = .ok ((.aload_n 0), 1) := by decide +kernel
theorem dX4_operand_100 : Dc mX4_operand 100 (.invokevirtual 209) 3 103 := ⟨k_dX4_operand_100.1, rfl⟩
theorem dX4_operand_103 : Dc mX4_operand 103 (.goto 38) 3 106 := ⟨k_dX4_operand_100.2.1, rfl⟩
theorem dX4_operand_106 : Dc mX4_operand 106 (.iload_n 2) 1 107 := ⟨k_dX4_operand_100.2.2.1, rfl⟩
theorem dX4_operand_107 : Dc mX4_operand 107 (.bipush 35) 2 109 := ⟨k_dX4_operand_100.2.2.2.1, rfl⟩
theorem dX4_operand_109 : Dc mX4_operand 109 (.if_icmp .ne 27) 3 112 := ⟨k_dX4_operand_100.2.2.2.2.1, rfl⟩
theorem dX4_operand_112 : Dc mX4_operand 112 (.aload_n 0) 1 113 := ⟨k_dX4_operand_100.2.2.2.2.2, rfl⟩
theorem k_dX4_operand_113 : decode (mX4_operand).2.1 113 = .ok ((.invokevirtual 212), 3) ∧ decode (mX4_operand).2.1 116 = .ok ((.bipush 35), 2) ∧ decode (mX4_operand).2.1 118 = .ok ((.invokestatic 216), 3) ∧ decode (mX4_operand).2.1 121 = .ok ((.if_icmp .gt 15), 3) ∧ decode (mX4_operand).2.1 124 = .ok ((.aload_n 0), 1) ∧ decode (mX4_operand).2.1 125 = .ok ((.invokevirtual 203), 3) := by decide +kernel
theorem dX4_operand_113 : Dc mX4_operand 113 (.invokevirtual 212) 3 116 := ⟨k_dX4_operand_113.1, rfl⟩
theorem dX4_operand_116 : Dc mX4_operand 116 (.bipush 35) 2 118 := ⟨k_dX4_operand_113.2.1, rfl⟩
theorem dX4_operand_118 : Dc mX4_operand 118 (.invokestatic 216) 3 121 := ⟨k_dX4_operand_113.2.2.1, rfl⟩
theorem dX4_operand_121 : Dc mX4_operand 121 (.if_icmp .gt 15) 3 124 := ⟨k_dX4_operand_113.2.2.2.1, rfl⟩
theorem dX4_operand_124 : Dc mX4_operand 124 (.aload_n 0) 1 125 := ⟨k_dX4_operand_113.2.2.2.2.1, rfl⟩
theorem dX4_operand_125 : Dc mX4_operand 125 (.invokevirtual 203) 3 128 := ⟨k_dX4_operand_113.2.2.2.2.2, rfl⟩
theorem k_dX4_operand_128 : decode (mX4_operand).2.1 128 = .ok ((.aload_n 0), 1) ∧ decode (mX4_operand).2.1 129 = .ok ((.iload_n 2), 1) ∧ decode (mX4_operand).2.1 130 = .ok ((.invokevirtual 209), 3) ∧ decode (mX4_operand).2.1 133 = .ok ((.goto 8), 3) ∧ decode (mX4_operand).2.1 136 = .ok ((.aload_n 0), 1) ∧ decode (mX4_operand).2.1 137 = .ok ((.iconst 1), 1) := by decide +kernel
theorem dX4_operand_128 : Dc mX4_operand 128 (.aload_n 0) 1 129 := ⟨k_dX4_operand_128.1, rfl⟩
theorem dX4_operand_129 : Dc mX4_operand 129 (.iload_n 2) 1 130 := ⟨k_dX4_operand_128.2.1, rfl⟩
theorem dX4_operand_130 : Dc mX4_operand 130 (.invokevirtual 209) 3 133 := ⟨k_dX4_operand_128.2.2.1, rfl⟩
theorem dX4_operand_133 : Dc mX4_operand 133 (.goto 8) 3 136 := ⟨k_dX4_operand_128.2.2.2.1, rfl⟩
theorem dX4_operand_136 : Dc mX4_operand 136 (.aload_n 0) 1 137 := ⟨k_dX4_operand_128.2.2.2.2.1, rfl⟩
theorem dX4_operand_137 : Dc mX4_operand 137 (.iconst 1) 1 138 := ⟨k_dX4_operand_128.2.2.2.2.2, rfl⟩
theorem k_dX4_operand_138 : decode (mX4_operand).2.1 138 = .ok ((.invokevirtual 58), 3) ∧ decode (mX4_operand).2.1 141 = .ok ((.iconst 1), 1) ∧ decode (mX4_operand).2.1 142 = .ok ((.ireturn), 1) := by decide +kernel
theorem dX4_operand_138 : Dc mX4_operand 138 (.invokevirtual 58) 3 141 := ⟨k_dX4_operand_138.1, rfl⟩
theorem dX4_operand_141 : Dc mX4_operand 141 (.iconst 1) 1 142 := ⟨k_dX4_operand_138.2.1, rfl⟩
theorem dX4_operand_142 : Dc mX4_operand 142 (.ireturn) 1 143 := ⟨k_dX4_operand_138.2.2, rfl⟩
theorem k_dX4_sign_0 : decode (mX4_sign).2.1 0 = .ok ((.aload_n 0), 1) ∧ decode (mX4_sign).2.1 1 = .ok ((.getfield 28), 3) ∧ decode (mX4_sign).2.1 4 = .ok ((.getfield 52), 3) ∧ decode (mX4_sign).2.1 7 = .ok ((.istore_n 2), 1) ∧ decode (mX4_sign).2.1 8 = .ok ((.iload_n 2), 1) ∧ decode (mX4_sign).2.1 9 = .ok ((.bipush 6), 2) := by decide +kernel
theorem dX4_sign_0 : Dc mX4_sign 0 (.aload_n 0) 1 1 := ⟨k_dX4_sign_0.1, rfl⟩
theorem dX4_sign_1 : Dc mX4_sign 1 (.getfield 28) 3 4 := ⟨k_dX4_sign_0.2.1, rfl⟩
theorem dX4_sign_4 : Dc mX4_sign 4 (.getfield 52) 3 7 := ⟨k_dX4_sign_0.2.2.1, rfl⟩
theorem dX4_sign_7 : Dc mX4_sign 7 (.istore_n 2) 1 8 := ⟨k_dX4_sign_0.2.2.2.1, rfl⟩
theorem dX4_sign_8 : Dc mX4_sign 8 (.iload_n 2) 1 9 := ⟨k_dX4_sign_0.2.2.2.2.1, rfl⟩
theorem dX4_sign_9 : Dc mX4_sign 9 (.bipush 6) 2 11 := ⟨k_dX4_sign_0.2.2.2.2.2, rfl⟩
theorem k_dX4_sign_11 : decode (mX4_sign).2.1 11 = .ok ((.if_icmp .ne 38), 3) ∧ decode (mX4_sign).2.1 14 = .ok ((.aload_n 0), 1) ∧ decode (mX4_sign).2.1 15 = .ok ((.getfield 42), 3) ∧ decode (mX4_sign).2.1 18 = .ok ((.ifCond .le 31), 3) ∧ decode (mX4_sign).2.1 21 = .ok ((.aload_n 0), 1) ∧ decode (mX4_sign).2.1 22 = .ok ((.aload_n 1), 1) := by decide +kernel
theorem dX4_sign_11 : Dc mX4_sign 11 (.if_icmp .ne 38) 3 14 := ⟨k_dX4_sign_11.1, rfl⟩
theorem dX4_sign_14 : Dc mX4_sign 14 (.aload_n 0) 1 15 := ⟨k_dX4_sign_11.2.1, rfl⟩
theorem dX4_sign_15 : Dc mX4_sign 15 (.getfield 42) 3 18 := ⟨k_dX4_sign_11.2.2.1, rfl⟩
theorem dX4_sign_18 : Dc mX4_sign 18 (.ifCond .le 31) 3 21 := ⟨k_dX4_sign_11.2.2.2.1, rfl⟩
theorem dX4_sign_21 : Dc mX4_sign 21 (.aload_n 0) 1 22 := ⟨k_dX4_sign_11.2.2.2.2.1, rfl⟩
theorem dX4_sign_22 : Dc mX4_sign 22 (.aload_n 1) 1 23 := ⟨k_dX4_sign_11.2.2.2.2.2, rfl⟩
theorem k_dX4_sign_23 : decode (mX4_sign).2.1 23 = .ok ((.iconst 1), 1) ∧ decode (mX4_sign).2.1 24 = .ok ((.invokevirtual 192), 3) ∧ decode (mX4_sign).2.1 27 = .ok ((.aload_n 0), 1) ∧ decode (mX4_sign).2.1 28 = .ok ((.dup), 1) ∧ decode (mX4_sign).2.1 29 = .ok ((.getfield 39), 3) ∧ decode (mX4_sign).2.1 32 = .ok ((.iconst 1), 1) := by decide +kernel
theorem dX4_sign_23 : Dc mX4_sign 23 (.iconst 1) 1 24 := ⟨k_dX4_sign_23.1, rfl⟩
theorem dX4_sign_24 : Dc mX4_sign 24 (.invokevirtual 192) 3 27 := ⟨k_dX4_sign_23.2.1, rfl⟩
theorem dX4_sign_27 : Dc mX4_sign 27 (.aload_n 0) 1 28 := ⟨k_dX4_sign_23.2.2.1, rfl⟩
theorem dX4_sign_28 : Dc mX4_sign 28 (.dup) 1 29 := ⟨k_dX4_sign_23.2.2.2.1, rfl⟩
theorem dX4_sign_29 : Dc mX4_sign 29 (.getfield 39) 3 32 := ⟨k_dX4_sign_23.2.2.2.2.1, rfl⟩
theorem dX4_sign_32 : Dc mX4_sign 32 (.iconst 1) 1 33 := ⟨k_dX4_sign_23.2.2.2.2.2, rfl⟩
theorem k_dX4_sign_33 : decode (mX4_sign).2.1 33 = .ok ((.isub), 1) ∧ decode (mX4_sign).2.1 34 = .ok ((.putfield 39), 3) ∧ decode (mX4_sign).2.1 37 = .ok ((.aload_n 0), 1) ∧ decode (mX4_sign).2.1 38 = .ok ((.dup), 1) ∧ decode (mX4_sign).2.1 39 = .ok ((.getfield 42), 3) ∧ decode (mX4_sign).2.1 42 = .ok ((.iconst 1), 1) := by decide +kernel
theorem dX4_sign_33 : Dc mX4_sign 33 (.isub) 1 34 := ⟨k_dX4_sign_33.1, rfl⟩
theorem dX4_sign_34 : Dc mX4_sign 34 (.putfield 39) 3 37 := ⟨k_dX4_sign_33.2.1, rfl⟩
theorem dX4_sign_37 : Dc mX4_sign 37 (.aload_n 0) 1 38 := ⟨k_dX4_sign_33.2.2.1, rfl⟩
theorem dX4_sign_38 : Dc mX4_sign 38 (.dup) 1 39 := ⟨k_dX4_sign_33.2.2.2.1, rfl⟩
theorem dX4_sign_39 : Dc mX4_sign 39 (.getfield 42) 3 42 := ⟨k_dX4_sign_33.2.2.2.2.1, rfl⟩
theorem dX4_sign_42 : Dc mX4_sign 42 (.iconst 1) 1 43 := ⟨k_dX4_sign_33.2.2.2.2.2, rfl⟩
theorem k_dX4_sign_43 : decode (mX4_sign).2.1 43 = .ok ((.isub), 1) ∧ decode (mX4_sign).2.1 44 = .ok ((.putfield 42), 3) ∧ decode (mX4_sign).2.1 47 = .ok ((.iconst 0), 1) ∧ decode (mX4_sign).2.1 48 = .ok ((.ireturn), 1) ∧ decode (mX4_sign).2.1 49 = .ok ((.iload_n 2), 1) ∧ decode (mX4_sign).2.1 50 = .ok ((.invokestatic 216), 3) := by decide +kernel
theorem dX4_sign_43 : Dc mX4_sign 43 (.isub) 1 44 := ⟨k_dX4_sign_43.1, rfl⟩
theorem dX4_sign_44 : Dc mX4_sign 44 (.putfield 42) 3 47 := ⟨k_dX4_sign_43.2.1, rfl⟩
theorem dX4_sign_47 : Dc mX4_sign 47 (.iconst 0) 1 48 := ⟨k_dX4_sign_43.2.2.1, rfl⟩
theorem dX4_sign_48 : Dc mX4_sign 48 (.ireturn) 1 49 := ⟨k_dX4_sign_43.2.2.2.1, rfl⟩
theorem dX4_sign_49 : Dc mX4_sign 49 (.iload_n 2) 1 50 := ⟨k_dX4_sign_43.2.2.2.2.1, rfl⟩
theorem dX4_sign_50 : Dc mX4_sign 50 (.invokestatic 216) 3 53 := ⟨k_dX4_sign_43.2.2.2.2.2, rfl⟩
theorem k_dX4_sign_53 : decode (mX4_sign).2.1 53 = .ok ((.istore_n 3), 1) ∧ decode (mX4_sign).2.1 54 = .ok ((.iload_n 3), 1) ∧ decode (mX4_sign).2.1 55 = .ok ((.ifCond .eq 9), 3) ∧ decode (mX4_sign).2.1 58 = .ok ((.iload_n 2), 1) ∧ decode (mX4_sign).2.1 59 = .ok ((.bipush 35), 2) ∧ decode (mX4_sign).2.1 61 = .ok ((.if_icmp .ne 10), 3) := by decide +kernel
theorem dX4_sign_53 : Dc mX4_sign 53 (.istore_n 3) 1 54 := ⟨k_dX4_sign_53.1, rfl⟩
theorem dX4_sign_54 : Dc mX4_sign 54 (.iload_n 3) 1 55 := ⟨k_dX4_sign_53.2.1, rfl⟩
theorem dX4_sign_55 : Dc mX4_sign 55 (.ifCond .eq 9) 3 58 := ⟨k_dX4_sign_53.2.2.1, rfl⟩
theorem dX4_sign_58 : Dc mX4_sign 58 (.iload_n 2) 1 59 := ⟨k_dX4_sign_53.2.2.2.1, rfl⟩
theorem dX4_sign_59 : Dc mX4_sign 59 (.bipush 35) 2 61 := ⟨k_dX4_sign_53.2.2.2.2.1, rfl⟩
theorem dX4_sign_61 : Dc mX4_sign 61 (.if_icmp .ne 10) 3 64 := ⟨k_dX4_sign_53.2.2.2.2.2, rfl⟩
theorem k_dX4_sign_64 : decode (mX4_sign).2.1 64 = .ok ((.aload_n 0), 1) ∧ decode (mX4_sign).2.1 65 = .ok ((.iconst 1), 1) ∧ decode (mX4_sign).2.1 66 = .ok ((.invokevirtual 58), 3) ∧ decode (mX4_sign).2.1 69 = .ok ((.iconst 1), 1) ∧ decode (mX4_sign).2.1 70 = .ok ((.ireturn), 1) ∧ decode (mX4_sign).2.1 71 = .ok ((.aload_n 0), 1) := by decide +kernel
theorem dX4_sign_64 : Dc mX4_sign 64 (.aload_n 0) 1 65 := ⟨k_dX4_sign_64.1, rfl⟩
theorem dX4_sign_65 : Dc mX4_sign 65 (.iconst 1) 1 66 := ⟨k_dX4_sign_64.2.1, rfl⟩
theorem dX4_sign_66 : Dc mX4_sign 66 (.invokevirtual 58) 3 69 := ⟨k_dX4_sign_64.2.2.1, rfl⟩
theorem dX4_sign_69 : Dc mX4_sign 69 (.iconst 1) 1 70 := ⟨k_dX4_sign_64.2.2.2.1, rfl⟩
theorem dX4_sign_70 : Dc mX4_sign 70 (.ireturn) 1 71 := ⟨k_dX4_sign_64.2.2.2.2.1, rfl⟩
theorem dX4_sign_71 : Dc mX4_sign 71 (.aload_n 0) 1 72 := ⟨k_dX4_sign_64.2.2.2.2.2, rfl⟩
theorem k_dX4_sign_72 : decode (mX4_sign).2.1 72 = .ok ((.aload_n 1), 1) ∧ decode (mX4_sign).2.1 73 = .ok ((.iload_n 3), 1) ∧ decode (mX4_sign).2.1 74 = .ok ((.iconst 4), 1) ∧ decode (mX4_sign).2.1 75 = .ok ((.if_icmp .ne 7), 3) ∧ decode (mX4_sign).2.1 78 = .ok ((.iconst 5), 1) ∧ decode (mX4_sign).2.1 79 = .ok ((.goto 4), 3) := by decide +kernel
theorem dX4_sign_72 : Dc mX4_sign 72 (.aload_n 1) 1 73 := ⟨k_dX4_sign_72.1, rfl⟩
theorem dX4_sign_73 : Dc mX4_sign 73 (.iload_n 3) 1 74 := ⟨k_dX4_sign_72.2.1, rfl⟩
theorem dX4_sign_74 : Dc mX4_sign 74 (.iconst 4) 1 75 := ⟨k_dX4_sign_72.2.2.1, rfl⟩
theorem dX4_sign_75 : Dc mX4_sign 75 (.if_icmp .ne 7) 3 78 := ⟨k_dX4_sign_72.2.2.2.1, rfl⟩
theorem dX4_sign_78 : Dc mX4_sign 78 (.iconst 5) 1 79 := ⟨k_dX4_sign_72.2.2.2.2.1, rfl⟩
theorem dX4_sign_79 : Dc mX4_sign 79 (.goto 4) 3 82 := ⟨k_dX4_sign_72.2.2.2.2.2, rfl⟩
theorem k_dX4_sign_82 : decode (mX4_sign).2.1 82 = .ok ((.iload_n 3), 1) ∧ decode (mX4_sign).2.1 83 = .ok ((.invokevirtual 192), 3) ∧ decode (mX4_sign).2.1 86 = .ok ((.iload_n 3), 1) ∧ decode (mX4_sign).2.1 87 = .ok ((.iconst 4), 1) ∧ decode (mX4_sign).2.1 88 = .ok ((.if_icmp .ne 16), 3) ∧ decode (mX4_sign).2.1 91 = .ok ((.aload_n 0), 1) := by decide +kernel
theorem dX4_sign_82 : Dc mX4_sign 82 (.iload_n 3) 1 83 := ⟨k_dX4_sign_82.1, rfl⟩
theorem dX4_sign_83 : Dc mX4_sign 83 (.invokevirtual 192) 3 86 := ⟨k_dX4_sign_82.2.1, rfl⟩
theorem dX4_sign_86 : Dc mX4_sign 86 (.iload_n 3) 1 87 := ⟨k_dX4_sign_82.2.2.1, rfl⟩
theorem dX4_sign_87 : Dc mX4_sign 87 (.iconst 4) 1 88 := ⟨k_dX4_sign_82.2.2.2.1, rfl⟩
theorem dX4_sign_88 : Dc mX4_sign 88 (.if_icmp .ne 16) 3 91 := ⟨k_dX4_sign_82.2.2.2.2.1, rfl⟩
theorem dX4_sign_91 : Dc mX4_sign 91 (.aload_n 0) 1 92 := ⟨k_dX4_sign_82.2.2.2.2.2, rfl⟩
theorem k_dX4_sign_92 : decode (mX4_sign).2.1 92 = .ok ((.invokevirtual 212), 3) ∧ decode (mX4_sign).2.1 95 = .ok ((.iconst 4), 1) ∧ decode (mX4_sign).2.1 96 = .ok ((.if_icmp .ne 8), 3) ∧ decode (mX4_sign).2.1 99 = .ok ((.aload_n 0), 1) ∧ decode (mX4_sign).2.1 100 = .ok ((.iconst 1), 1) ∧ decode (mX4_sign).2.1 101 = .ok ((.invokevirtual 58), 3) := by decide +kernel
theorem dX4_sign_92 : Dc mX4_sign 92 (.invokevirtual 212) 3 95 := ⟨k_dX4_sign_92.1, rfl⟩
theorem dX4_sign_95 : Dc mX4_sign 95 (.iconst 4) 1 96 := ⟨k_dX4_sign_92.2.1, rfl⟩
theorem dX4_sign_96 : Dc mX4_sign 96 (.if_icmp .ne 8) 3 99 := ⟨k_dX4_sign_92.2.2.1, rfl⟩
theorem dX4_sign_99 : Dc mX4_sign 99 (.aload_n 0) 1 100 := ⟨k_dX4_sign_92.2.2.2.1, rfl⟩
theorem dX4_sign_100 : Dc mX4_sign 100 (.iconst 1) 1 101 := ⟨k_dX4_sign_92.2.2.2.2.1, rfl⟩
theorem dX4_sign_101 : Dc mX4_sign 101 (.invokevirtual 58) 3 104 := ⟨k_dX4_sign_92.2.2.2.2.2, rfl⟩
theorem k_dX4_sign_104 : decode (mX4_sign).2.1 104 = .ok ((.aload_n 0), 1) ∧ decode (mX4_sign).2.1 105 = .ok ((.invokevirtual 203), 3) ∧ decode (mX4_sign).2.1 108 = .ok ((.aload_n 0), 1) ∧ decode (mX4_sign).2.1 109 = .ok ((.iload_n 2), 1) ∧ decode (mX4_sign).2.1 110 = .ok ((.invokevirtual 209), 3) ∧ decode (mX4_sign).2.1 113 = .ok ((.iconst 1), 1) := by decide +kernel
theorem dX4_sign_104 : Dc mX4_sign 104 (.aload_n 0) 1 105 := ⟨k_dX4_sign_104.1, rfl⟩
theorem dX4_sign_105 : Dc mX4_sign 105 (.invokevirtual 203) 3 108 := ⟨k_dX4_sign_104.2.1, rfl⟩
theorem dX4_sign_108 : Dc mX4_sign 108 (.aload_n 0) 1 109 := ⟨k_dX4_sign_104.2.2.1, rfl⟩
theorem dX4_sign_109 : Dc mX4_sign 109 (.iload_n 2) 1 110 := ⟨k_dX4_sign_104.2.2.2.1, rfl⟩
theorem dX4_sign_110 : Dc mX4_sign 110 (.invokevirtual 209) 3 113 := ⟨k_dX4_sign_104.2.2.2.2.1, rfl⟩
theorem dX4_sign_113 : Dc mX4_sign 113 (.iconst 1) 1 114 := ⟨k_dX4_sign_104.2.2.2.2.2, rfl⟩
theorem dX4_sign_114 : Dc mX4_sign 114 (.ireturn) 1 115 := ⟨by decide +kernel, rfl⟩
theorem k_dX4_knot_0 : decode (mX4_knot).2.1 0 = .ok ((.aload_n 0), 1) ∧ decode (mX4_knot).2.1 1 = .ok ((.getfield 12), 3) ∧ decode (mX4_knot).2.1 4 = .ok ((.getfield 219), 3) ∧ decode (mX4_knot).2.1 7 = .ok ((.bipush 64), 2) ∧ decode (mX4_knot).2.1 9 = .ok ((.if_icmp .lt 11), 3) ∧ decode (mX4_knot).2.1 12 = .ok ((.aload_n 0), 1) := by decide +kernel
theorem dX4_knot_0 : Dc mX4_knot 0 (.aload_n 0) 1 1 := ⟨k_dX4_knot_0.1, rfl⟩
theorem dX4_knot_1 : Dc mX4_knot 1 (.getfield 12) 3 4 := ⟨k_dX4_knot_0.2.1, rfl⟩
theorem dX4_knot_4 : Dc mX4_knot 4 (.getfield 219) 3 7 := ⟨k_dX4_knot_0.2.2.1, rfl⟩
theorem dX4_knot_7 : Dc mX4_knot 7 (.bipush 64) 2 9 := ⟨k_dX4_knot_0.2.2.2.1, rfl⟩
theorem dX4_knot_9 : Dc mX4_knot 9 (.if_icmp .lt 11) 3 12 := ⟨k_dX4_knot_0.2.2.2.2.1, rfl⟩
theorem dX4_knot_12 : Dc mX4_knot 12 (.aload_n 0) 1 13 := ⟨k_dX4_knot_0.2.2.2.2.2, rfl⟩
theorem k_dX4_knot_13 : decode (mX4_knot).2.1 13 = .ok ((.iconst 2), 1) ∧ decode (mX4_knot).2.1 14 = .ok ((.invokevirtual 58), 3) ∧ decode (mX4_knot).2.1 17 = .ok ((.goto 16), 3) ∧ decode (mX4_knot).2.1 20 = .ok ((.aload_n 0), 1) ∧ decode (mX4_knot).2.1 21 = .ok ((.getfield 12), 3) ∧ decode (mX4_knot).2.1 24 = .ok ((.dup), 1) := by decide +kernel
theorem dX4_knot_13 : Dc mX4_knot 13 (.iconst 2) 1 14 := ⟨k_dX4_knot_13.1, rfl⟩
theorem dX4_knot_14 : Dc mX4_knot 14 (.invokevirtual 58) 3 17 := ⟨k_dX4_knot_13.2.1, rfl⟩
theorem dX4_knot_17 : Dc mX4_knot 17 (.goto 16) 3 20 := ⟨k_dX4_knot_13.2.2.1, rfl⟩
theorem dX4_knot_20 : Dc mX4_knot 20 (.aload_n 0) 1 21 := ⟨k_dX4_knot_13.2.2.2.1, rfl⟩
theorem dX4_knot_21 : Dc mX4_knot 21 (.getfield 12) 3 24 := ⟨k_dX4_knot_13.2.2.2.2.1, rfl⟩
theorem dX4_knot_24 : Dc mX4_knot 24 (.dup) 1 25 := ⟨k_dX4_knot_13.2.2.2.2.2, rfl⟩
theorem k_dX4_knot_25 : decode (mX4_knot).2.1 25 = .ok ((.getfield 219), 3) ∧ decode (mX4_knot).2.1 28 = .ok ((.iconst 1), 1) ∧ decode (mX4_knot).2.1 29 = .ok ((.iadd), 1) ∧ decode (mX4_knot).2.1 30 = .ok ((.putfield 219), 3) ∧ decode (mX4_knot).2.1 33 = .ok ((.return_), 1) := by decide +kernel
theorem dX4_knot_25 : Dc mX4_knot 25 (.getfield 219) 3 28 := ⟨k_dX4_knot_25.1, rfl⟩
theorem dX4_knot_28 : Dc mX4_knot 28 (.iconst 1) 1 29 := ⟨k_dX4_knot_25.2.1, rfl⟩
theorem dX4_knot_29 : Dc mX4_knot 29 (.iadd) 1 30 := ⟨k_dX4_knot_25.2.2.1, rfl⟩
theorem dX4_knot_30 : Dc mX4_knot 30 (.putfield 219) 3 33 := ⟨k_dX4_knot_25.2.2.2.1, rfl⟩
theorem dX4_knot_33 : Dc mX4_knot 33 (.return_) 1 34 := ⟨k_dX4_knot_25.2.2.2.2, rfl⟩
theorem k_dX4_hold_0 : decode (mX4_hold).2.1 0 = .ok ((.aload_n 0), 1) ∧ decode (mX4_hold).2.1 1 = .ok ((.getfield 18), 3) ∧ decode (mX4_hold).2.1 4 = .ok ((.ifCond .ne 40), 3) ∧ decode (mX4_hold).2.1 7 = .ok ((.aload_n 0), 1) ∧ decode (mX4_hold).2.1 8 = .ok ((.getfield 32), 3) ∧ decode (mX4_hold).2.1 11 = .ok ((.aload_n 0), 1) := by decide +kernel
theorem dX4_hold_0 : Dc mX4_hold 0 (.aload_n 0) 1 1 := ⟨k_dX4_hold_0.1, rfl⟩
theorem dX4_hold_1 : Dc mX4_hold 1 (.getfield 18) 3 4 := ⟨k_dX4_hold_0.2.1, rfl⟩
theorem dX4_hold_4 : Dc mX4_hold 4 (.ifCond .ne 40) 3 7 := ⟨k_dX4_hold_0.2.2.1, rfl⟩
theorem dX4_hold_7 : Dc mX4_hold 7 (.aload_n 0) 1 8 := ⟨k_dX4_hold_0.2.2.2.1, rfl⟩
theorem dX4_hold_8 : Dc mX4_hold 8 (.getfield 32) 3 11 := ⟨k_dX4_hold_0.2.2.2.2.1, rfl⟩
theorem dX4_hold_11 : Dc mX4_hold 11 (.aload_n 0) 1 12 := ⟨k_dX4_hold_0.2.2.2.2.2, rfl⟩
theorem k_dX4_hold_12 : decode (mX4_hold).2.1 12 = .ok ((.getfield 39), 3) ∧ decode (mX4_hold).2.1 15 = .ok ((.iload_n 1), 1) ∧ decode (mX4_hold).2.1 16 = .ok ((.invokestatic 154), 3) ∧ decode (mX4_hold).2.1 19 = .ok ((.aload_n 0), 1) ∧ decode (mX4_hold).2.1 20 = .ok ((.getfield 36), 3) ∧ decode (mX4_hold).2.1 23 = .ok ((.aload_n 0), 1) := by decide +kernel
theorem dX4_hold_12 : Dc mX4_hold 12 (.getfield 39) 3 15 := ⟨k_dX4_hold_12.1, rfl⟩
theorem dX4_hold_15 : Dc mX4_hold 15 (.iload_n 1) 1 16 := ⟨k_dX4_hold_12.2.1, rfl⟩
theorem dX4_hold_16 : Dc mX4_hold 16 (.invokestatic 154) 3 19 := ⟨k_dX4_hold_12.2.2.1, rfl⟩
theorem dX4_hold_19 : Dc mX4_hold 19 (.aload_n 0) 1 20 := ⟨k_dX4_hold_12.2.2.2.1, rfl⟩
theorem dX4_hold_20 : Dc mX4_hold 20 (.getfield 36) 3 23 := ⟨k_dX4_hold_12.2.2.2.2.1, rfl⟩
theorem dX4_hold_23 : Dc mX4_hold 23 (.aload_n 0) 1 24 := ⟨k_dX4_hold_12.2.2.2.2.2, rfl⟩
theorem k_dX4_hold_24 : decode (mX4_hold).2.1 24 = .ok ((.getfield 39), 3) ∧ decode (mX4_hold).2.1 27 = .ok ((.iload_n 1), 1) ∧ decode (mX4_hold).2.1 28 = .ok ((.invokestatic 216), 3) ∧ decode (mX4_hold).2.1 31 = .ok ((.invokestatic 154), 3) ∧ decode (mX4_hold).2.1 34 = .ok ((.aload_n 0), 1) ∧ decode (mX4_hold).2.1 35 = .ok ((.dup), 1) := by decide +kernel
theorem dX4_hold_24 : Dc mX4_hold 24 (.getfield 39) 3 27 := ⟨k_dX4_hold_24.1, rfl⟩
theorem dX4_hold_27 : Dc mX4_hold 27 (.iload_n 1) 1 28 := ⟨k_dX4_hold_24.2.1, rfl⟩
theorem dX4_hold_28 : Dc mX4_hold 28 (.invokestatic 216) 3 31 := ⟨k_dX4_hold_24.2.2.1, rfl⟩
theorem dX4_hold_31 : Dc mX4_hold 31 (.invokestatic 154) 3 34 := ⟨k_dX4_hold_24.2.2.2.1, rfl⟩
theorem dX4_hold_34 : Dc mX4_hold 34 (.aload_n 0) 1 35 := ⟨k_dX4_hold_24.2.2.2.2.1, rfl⟩
theorem dX4_hold_35 : Dc mX4_hold 35 (.dup) 1 36 := ⟨k_dX4_hold_24.2.2.2.2.2, rfl⟩
theorem k_dX4_hold_36 : decode (mX4_hold).2.1 36 = .ok ((.getfield 39), 3) ∧ decode (mX4_hold).2.1 39 = .ok ((.iconst 1), 1) ∧ decode (mX4_hold).2.1 40 = .ok ((.iadd), 1) ∧ decode (mX4_hold).2.1 41 = .ok ((.putfield 39), 3) ∧ decode (mX4_hold).2.1 44 = .ok ((.return_), 1) := by decide +kernel
theorem dX4_hold_36 : Dc mX4_hold 36 (.getfield 39) 3 39 := ⟨k_dX4_hold_36.1, rfl⟩
theorem dX4_hold_39 : Dc mX4_hold 39 (.iconst 1) 1 40 := ⟨k_dX4_hold_36.2.1, rfl⟩
theorem dX4_hold_40 : Dc mX4_hold 40 (.iadd) 1 41 := ⟨k_dX4_hold_36.2.2.1, rfl⟩
theorem dX4_hold_41 : Dc mX4_hold 41 (.putfield 39) 3 44 := ⟨k_dX4_hold_36.2.2.2.1, rfl⟩
theorem dX4_hold_44 : Dc mX4_hold 44 (.return_) 1 45 := ⟨k_dX4_hold_36.2.2.2.2, rfl⟩
theorem k_dX4_join_0 : decode (mX4_join).2.1 0 = .ok ((.aload_n 0), 1) ∧ decode (mX4_join).2.1 1 = .ok ((.getfield 39), 3) ∧ decode (mX4_join).2.1 4 = .ok ((.istore_n 3), 1) ∧ decode (mX4_join).2.1 5 = .ok ((.iload_n 3), 1) ∧ decode (mX4_join).2.1 6 = .ok ((.ifCond .le 45), 3) ∧ decode (mX4_join).2.1 9 = .ok ((.aload_n 0), 1) := by decide +kernel
theorem dX4_join_0 : Dc mX4_join 0 (.aload_n 0) 1 1 := ⟨k_dX4_join_0.1, rfl⟩
theorem dX4_join_1 : Dc mX4_join 1 (.getfield 39) 3 4 := ⟨k_dX4_join_0.2.1, rfl⟩
theorem dX4_join_4 : Dc mX4_join 4 (.istore_n 3) 1 5 := ⟨k_dX4_join_0.2.2.1, rfl⟩
theorem dX4_join_5 : Dc mX4_join 5 (.iload_n 3) 1 6 := ⟨k_dX4_join_0.2.2.2.1, rfl⟩
theorem dX4_join_6 : Dc mX4_join 6 (.ifCond .le 45) 3 9 := ⟨k_dX4_join_0.2.2.2.2.1, rfl⟩
theorem dX4_join_9 : Dc mX4_join 9 (.aload_n 0) 1 10 := ⟨k_dX4_join_0.2.2.2.2.2, rfl⟩
theorem k_dX4_join_10 : decode (mX4_join).2.1 10 = .ok ((.invokevirtual 212), 3) ∧ decode (mX4_join).2.1 13 = .ok ((.iload_n 2), 1) ∧ decode (mX4_join).2.1 14 = .ok ((.if_icmp .lt 37), 3) ∧ decode (mX4_join).2.1 17 = .ok ((.aload_n 1), 1) ∧ decode (mX4_join).2.1 18 = .ok ((.aload_n 0), 1) ∧ decode (mX4_join).2.1 19 = .ok ((.getfield 32), 3) := by decide +kernel
theorem dX4_join_10 : Dc mX4_join 10 (.invokevirtual 212) 3 13 := ⟨k_dX4_join_10.1, rfl⟩
theorem dX4_join_13 : Dc mX4_join 13 (.iload_n 2) 1 14 := ⟨k_dX4_join_10.2.1, rfl⟩
theorem dX4_join_14 : Dc mX4_join 14 (.if_icmp .lt 37) 3 17 := ⟨k_dX4_join_10.2.2.1, rfl⟩
theorem dX4_join_17 : Dc mX4_join 17 (.aload_n 1) 1 18 := ⟨k_dX4_join_10.2.2.2.1, rfl⟩
theorem dX4_join_18 : Dc mX4_join 18 (.aload_n 0) 1 19 := ⟨k_dX4_join_10.2.2.2.2.1, rfl⟩
theorem dX4_join_19 : Dc mX4_join 19 (.getfield 32) 3 22 := ⟨k_dX4_join_10.2.2.2.2.2, rfl⟩
theorem k_dX4_join_22 : decode (mX4_join).2.1 22 = .ok ((.aload_n 0), 1) ∧ decode (mX4_join).2.1 23 = .ok ((.getfield 39), 3) ∧ decode (mX4_join).2.1 26 = .ok ((.iconst 1), 1) ∧ decode (mX4_join).2.1 27 = .ok ((.isub), 1) ∧ decode (mX4_join).2.1 28 = .ok ((.invokestatic 147), 3) ∧ decode (mX4_join).2.1 31 = .ok ((.iconst 0), 1) := by decide +kernel
theorem dX4_join_22 : Dc mX4_join 22 (.aload_n 0) 1 23 := ⟨k_dX4_join_22.1, rfl⟩
theorem dX4_join_23 : Dc mX4_join 23 (.getfield 39) 3 26 := ⟨k_dX4_join_22.2.1, rfl⟩
theorem dX4_join_26 : Dc mX4_join 26 (.iconst 1) 1 27 := ⟨k_dX4_join_22.2.2.1, rfl⟩
theorem dX4_join_27 : Dc mX4_join 27 (.isub) 1 28 := ⟨k_dX4_join_22.2.2.2.1, rfl⟩
theorem dX4_join_28 : Dc mX4_join 28 (.invokestatic 147) 3 31 := ⟨k_dX4_join_22.2.2.2.2.1, rfl⟩
theorem dX4_join_31 : Dc mX4_join 31 (.iconst 0) 1 32 := ⟨k_dX4_join_22.2.2.2.2.2, rfl⟩
theorem k_dX4_join_32 : decode (mX4_join).2.1 32 = .ok ((.invokevirtual 206), 3) ∧ decode (mX4_join).2.1 35 = .ok ((.aload_n 0), 1) ∧ decode (mX4_join).2.1 36 = .ok ((.dup), 1) ∧ decode (mX4_join).2.1 37 = .ok ((.getfield 39), 3) ∧ decode (mX4_join).2.1 40 = .ok ((.iconst 1), 1) ∧ decode (mX4_join).2.1 41 = .ok ((.isub), 1) := by decide +kernel
theorem dX4_join_32 : Dc mX4_join 32 (.invokevirtual 206) 3 35 := ⟨k_dX4_join_32.1, rfl⟩
theorem dX4_join_35 : Dc mX4_join 35 (.aload_n 0) 1 36 := ⟨k_dX4_join_32.2.1, rfl⟩
theorem dX4_join_36 : Dc mX4_join 36 (.dup) 1 37 := ⟨k_dX4_join_32.2.2.1, rfl⟩
theorem dX4_join_37 : Dc mX4_join 37 (.getfield 39) 3 40 := ⟨k_dX4_join_32.2.2.2.1, rfl⟩
theorem dX4_join_40 : Dc mX4_join 40 (.iconst 1) 1 41 := ⟨k_dX4_join_32.2.2.2.2.1, rfl⟩
theorem dX4_join_41 : Dc mX4_join 41 (.isub) 1 42 := ⟨k_dX4_join_32.2.2.2.2.2, rfl⟩
theorem k_dX4_join_42 : decode (mX4_join).2.1 42 = .ok ((.putfield 39), 3) ∧ decode (mX4_join).2.1 45 = .ok ((.iinc 3 (-1)), 3) ∧ decode (mX4_join).2.1 48 = .ok ((.goto (-43)), 3) ∧ decode (mX4_join).2.1 51 = .ok ((.return_), 1) := by decide +kernel
theorem dX4_join_42 : Dc mX4_join 42 (.putfield 39) 3 45 := ⟨k_dX4_join_42.1, rfl⟩
theorem dX4_join_45 : Dc mX4_join 45 (.iinc 3 (-1)) 3 48 := ⟨k_dX4_join_42.2.1, rfl⟩
theorem dX4_join_48 : Dc mX4_join 48 (.goto (-43)) 3 51 := ⟨k_dX4_join_42.2.2.1, rfl⟩
theorem dX4_join_51 : Dc mX4_join 51 (.return_) 1 52 := ⟨k_dX4_join_42.2.2.2, rfl⟩
theorem k_dX4_topRank_0 : decode (mX4_topRank).2.1 0 = .ok ((.aload_n 0), 1) ∧ decode (mX4_topRank).2.1 1 = .ok ((.getfield 39), 3) ∧ decode (mX4_topRank).2.1 4 = .ok ((.ifCond .le 29), 3) ∧ decode (mX4_topRank).2.1 7 = .ok ((.aload_n 0), 1) ∧ decode (mX4_topRank).2.1 8 = .ok ((.getfield 39), 3) ∧ decode (mX4_topRank).2.1 11 = .ok ((.aload_n 0), 1) := by decide +kernel
theorem dX4_topRank_0 : Dc mX4_topRank 0 (.aload_n 0) 1 1 := ⟨k_dX4_topRank_0.1, rfl⟩
theorem dX4_topRank_1 : Dc mX4_topRank 1 (.getfield 39) 3 4 := ⟨k_dX4_topRank_0.2.1, rfl⟩
theorem dX4_topRank_4 : Dc mX4_topRank 4 (.ifCond .le 29) 3 7 := ⟨k_dX4_topRank_0.2.2.1, rfl⟩
theorem dX4_topRank_7 : Dc mX4_topRank 7 (.aload_n 0) 1 8 := ⟨k_dX4_topRank_0.2.2.2.1, rfl⟩
theorem dX4_topRank_8 : Dc mX4_topRank 8 (.getfield 39) 3 11 := ⟨k_dX4_topRank_0.2.2.2.2.1, rfl⟩
theorem dX4_topRank_11 : Dc mX4_topRank 11 (.aload_n 0) 1 12 := ⟨k_dX4_topRank_0.2.2.2.2.2, rfl⟩
theorem k_dX4_topRank_12 : decode (mX4_topRank).2.1 12 = .ok ((.getfield 36), 3) ∧ decode (mX4_topRank).2.1 15 = .ok ((.arraylength), 1) ∧ decode (mX4_topRank).2.1 16 = .ok ((.if_icmp .gt 17), 3) ∧ decode (mX4_topRank).2.1 19 = .ok ((.aload_n 0), 1) ∧ decode (mX4_topRank).2.1 20 = .ok ((.getfield 36), 3) ∧ decode (mX4_topRank).2.1 23 = .ok ((.aload_n 0), 1) := by decide +kernel
theorem dX4_topRank_12 : Dc mX4_topRank 12 (.getfield 36) 3 15 := ⟨k_dX4_topRank_12.1, rfl⟩
theorem dX4_topRank_15 : Dc mX4_topRank 15 (.arraylength) 1 16 := ⟨k_dX4_topRank_12.2.1, rfl⟩
theorem dX4_topRank_16 : Dc mX4_topRank 16 (.if_icmp .gt 17) 3 19 := ⟨k_dX4_topRank_12.2.2.1, rfl⟩
theorem dX4_topRank_19 : Dc mX4_topRank 19 (.aload_n 0) 1 20 := ⟨k_dX4_topRank_12.2.2.2.1, rfl⟩
theorem dX4_topRank_20 : Dc mX4_topRank 20 (.getfield 36) 3 23 := ⟨k_dX4_topRank_12.2.2.2.2.1, rfl⟩
theorem dX4_topRank_23 : Dc mX4_topRank 23 (.aload_n 0) 1 24 := ⟨k_dX4_topRank_12.2.2.2.2.2, rfl⟩
theorem k_dX4_topRank_24 : decode (mX4_topRank).2.1 24 = .ok ((.getfield 39), 3) ∧ decode (mX4_topRank).2.1 27 = .ok ((.iconst 1), 1) ∧ decode (mX4_topRank).2.1 28 = .ok ((.isub), 1) ∧ decode (mX4_topRank).2.1 29 = .ok ((.iaload), 1) ∧ decode (mX4_topRank).2.1 30 = .ok ((.goto 4), 3) ∧ decode (mX4_topRank).2.1 33 = .ok ((.iconst 0), 1) := by decide +kernel
theorem dX4_topRank_24 : Dc mX4_topRank 24 (.getfield 39) 3 27 := ⟨k_dX4_topRank_24.1, rfl⟩
theorem dX4_topRank_27 : Dc mX4_topRank 27 (.iconst 1) 1 28 := ⟨k_dX4_topRank_24.2.1, rfl⟩
theorem dX4_topRank_28 : Dc mX4_topRank 28 (.isub) 1 29 := ⟨k_dX4_topRank_24.2.2.1, rfl⟩
theorem dX4_topRank_29 : Dc mX4_topRank 29 (.iaload) 1 30 := ⟨k_dX4_topRank_24.2.2.2.1, rfl⟩
theorem dX4_topRank_30 : Dc mX4_topRank 30 (.goto 4) 3 33 := ⟨k_dX4_topRank_24.2.2.2.2.1, rfl⟩
theorem dX4_topRank_33 : Dc mX4_topRank 33 (.iconst 0) 1 34 := ⟨k_dX4_topRank_24.2.2.2.2.2, rfl⟩
theorem dX4_topRank_34 : Dc mX4_topRank 34 (.ireturn) 1 35 := ⟨by decide +kernel, rfl⟩
theorem k_dX4_rank_0 : decode (mX4_rank).2.1 0 = .ok ((.iload_n 0), 1) ∧ decode (mX4_rank).2.1 1 = .ok ((.tableswitch 144 7 35 #[139, 139, 141, 141, 137, 137, 137, 137, 137, 137, 144, 144, 144, 144, 144, 144, 144, 144, 144, 144, 144, 144, 144, 144, 144, 144, 131, 133, 135]), 131) ∧ decode (mX4_rank).2.1 132 = .ok ((.iconst 1), 1) ∧ decode (mX4_rank).2.1 133 = .ok ((.ireturn), 1) ∧ decode (mX4_rank).2.1 134 = .ok ((.iconst 2), 1) ∧ decode (mX4_rank).2.1 135 = .ok ((.ireturn), 1) := by decide +kernel
theorem dX4_rank_0 : Dc mX4_rank 0 (.iload_n 0) 1 1 := ⟨k_dX4_rank_0.1, rfl⟩
theorem dX4_rank_1 : Dc mX4_rank 1 (.tableswitch 144 7 35 #[139, 139, 141, 141, 137, 137, 137, 137, 137, 137, 144, 144, 144, 144, 144, 144, 144, 144, 144, 144, 144, 144, 144, 144, 144, 144, 131, 133, 135]) 131 132 := ⟨k_dX4_rank_0.2.1, rfl⟩
theorem dX4_rank_132 : Dc mX4_rank 132 (.iconst 1) 1 133 := ⟨k_dX4_rank_0.2.2.1, rfl⟩
theorem dX4_rank_133 : Dc mX4_rank 133 (.ireturn) 1 134 := ⟨k_dX4_rank_0.2.2.2.1, rfl⟩
theorem dX4_rank_134 : Dc mX4_rank 134 (.iconst 2) 1 135 := ⟨k_dX4_rank_0.2.2.2.2.1, rfl⟩
theorem dX4_rank_135 : Dc mX4_rank 135 (.ireturn) 1 136 := ⟨k_dX4_rank_0.2.2.2.2.2, rfl⟩
theorem k_dX4_rank_136 : decode (mX4_rank).2.1 136 = .ok ((.iconst 3), 1) ∧ decode (mX4_rank).2.1 137 = .ok ((.ireturn), 1) ∧ decode (mX4_rank).2.1 138 = .ok ((.iconst 4), 1) ∧ decode (mX4_rank).2.1 139 = .ok ((.ireturn), 1) ∧ decode (mX4_rank).2.1 140 = .ok ((.iconst 5), 1) ∧ decode (mX4_rank).2.1 141 = .ok ((.ireturn), 1) := by decide +kernel
theorem dX4_rank_136 : Dc mX4_rank 136 (.iconst 3) 1 137 := ⟨k_dX4_rank_136.1, rfl⟩
theorem dX4_rank_137 : Dc mX4_rank 137 (.ireturn) 1 138 := ⟨k_dX4_rank_136.2.1, rfl⟩
theorem dX4_rank_138 : Dc mX4_rank 138 (.iconst 4) 1 139 := ⟨k_dX4_rank_136.2.2.1, rfl⟩
theorem dX4_rank_139 : Dc mX4_rank 139 (.ireturn) 1 140 := ⟨k_dX4_rank_136.2.2.2.1, rfl⟩
theorem dX4_rank_140 : Dc mX4_rank 140 (.iconst 5) 1 141 := ⟨k_dX4_rank_136.2.2.2.2.1, rfl⟩
theorem dX4_rank_141 : Dc mX4_rank 141 (.ireturn) 1 142 := ⟨k_dX4_rank_136.2.2.2.2.2, rfl⟩
theorem k_dX4_rank_142 : decode (mX4_rank).2.1 142 = .ok ((.bipush 6), 2) ∧ decode (mX4_rank).2.1 144 = .ok ((.ireturn), 1) ∧ decode (mX4_rank).2.1 145 = .ok ((.iconst 0), 1) ∧ decode (mX4_rank).2.1 146 = .ok ((.ireturn), 1) := by decide +kernel
theorem dX4_rank_142 : Dc mX4_rank 142 (.bipush 6) 2 144 := ⟨k_dX4_rank_142.1, rfl⟩
theorem dX4_rank_144 : Dc mX4_rank 144 (.ireturn) 1 145 := ⟨k_dX4_rank_142.2.1, rfl⟩
theorem dX4_rank_145 : Dc mX4_rank 145 (.iconst 0) 1 146 := ⟨k_dX4_rank_142.2.2.1, rfl⟩
theorem dX4_rank_146 : Dc mX4_rank 146 (.ireturn) 1 147 := ⟨k_dX4_rank_142.2.2.2, rfl⟩
theorem k_dX5_init_0 : decode (mX5_init).2.1 0 = .ok ((.aload_n 0), 1) ∧ decode (mX5_init).2.1 1 = .ok ((.invokespecial 3), 3) ∧ decode (mX5_init).2.1 4 = .ok ((.aload_n 0), 1) ∧ decode (mX5_init).2.1 5 = .ok ((.iconst 0), 1) ∧ decode (mX5_init).2.1 6 = .ok ((.putfield 9), 3) ∧ decode (mX5_init).2.1 9 = .ok ((.aload_n 0), 1) := by decide +kernel
theorem dX5_init_0 : Dc mX5_init 0 (.aload_n 0) 1 1 := ⟨k_dX5_init_0.1, rfl⟩
theorem dX5_init_1 : Dc mX5_init 1 (.invokespecial 3) 3 4 := ⟨k_dX5_init_0.2.1, rfl⟩
theorem dX5_init_4 : Dc mX5_init 4 (.aload_n 0) 1 5 := ⟨k_dX5_init_0.2.2.1, rfl⟩
theorem dX5_init_5 : Dc mX5_init 5 (.iconst 0) 1 6 := ⟨k_dX5_init_0.2.2.2.1, rfl⟩
theorem dX5_init_6 : Dc mX5_init 6 (.putfield 9) 3 9 := ⟨k_dX5_init_0.2.2.2.2.1, rfl⟩
theorem dX5_init_9 : Dc mX5_init 9 (.aload_n 0) 1 10 := ⟨k_dX5_init_0.2.2.2.2.2, rfl⟩
theorem k_dX5_init_10 : decode (mX5_init).2.1 10 = .ok ((.iconst 0), 1) ∧ decode (mX5_init).2.1 11 = .ok ((.putfield 15), 3) ∧ decode (mX5_init).2.1 14 = .ok ((.aload_n 0), 1) ∧ decode (mX5_init).2.1 15 = .ok ((.iconst 0), 1) ∧ decode (mX5_init).2.1 16 = .ok ((.putfield 18), 3) ∧ decode (mX5_init).2.1 19 = .ok ((.aload_n 0), 1) := by decide +kernel
theorem dX5_init_10 : Dc mX5_init 10 (.iconst 0) 1 11 := ⟨k_dX5_init_10.1, rfl⟩
theorem dX5_init_11 : Dc mX5_init 11 (.putfield 15) 3 14 := ⟨k_dX5_init_10.2.1, rfl⟩
theorem dX5_init_14 : Dc mX5_init 14 (.aload_n 0) 1 15 := ⟨k_dX5_init_10.2.2.1, rfl⟩
theorem dX5_init_15 : Dc mX5_init 15 (.iconst 0) 1 16 := ⟨k_dX5_init_10.2.2.2.1, rfl⟩
theorem dX5_init_16 : Dc mX5_init 16 (.putfield 18) 3 19 := ⟨k_dX5_init_10.2.2.2.2.1, rfl⟩
theorem dX5_init_19 : Dc mX5_init 19 (.aload_n 0) 1 20 := ⟨k_dX5_init_10.2.2.2.2.2, rfl⟩
theorem k_dX5_init_20 : decode (mX5_init).2.1 20 = .ok ((.iconst 0), 1) ∧ decode (mX5_init).2.1 21 = .ok ((.putfield 21), 3) ∧ decode (mX5_init).2.1 24 = .ok ((.aload_n 0), 1) ∧ decode (mX5_init).2.1 25 = .ok ((.iconst 0), 1) ∧ decode (mX5_init).2.1 26 = .ok ((.putfield 24), 3) ∧ decode (mX5_init).2.1 29 = .ok ((.aload_n 0), 1) := by decide +kernel
theorem dX5_init_20 : Dc mX5_init 20 (.iconst 0) 1 21 := ⟨k_dX5_init_20.1, rfl⟩
theorem dX5_init_21 : Dc mX5_init 21 (.putfield 21) 3 24 := ⟨k_dX5_init_20.2.1, rfl⟩
theorem dX5_init_24 : Dc mX5_init 24 (.aload_n 0) 1 25 := ⟨k_dX5_init_20.2.2.1, rfl⟩
theorem dX5_init_25 : Dc mX5_init 25 (.iconst 0) 1 26 := ⟨k_dX5_init_20.2.2.2.1, rfl⟩
theorem dX5_init_26 : Dc mX5_init 26 (.putfield 24) 3 29 := ⟨k_dX5_init_20.2.2.2.2.1, rfl⟩
theorem dX5_init_29 : Dc mX5_init 29 (.aload_n 0) 1 30 := ⟨k_dX5_init_20.2.2.2.2.2, rfl⟩
theorem k_dX5_init_30 : decode (mX5_init).2.1 30 = .ok ((.iconst 0), 1) ∧ decode (mX5_init).2.1 31 = .ok ((.putfield 27), 3) ∧ decode (mX5_init).2.1 34 = .ok ((.aload_n 0), 1) ∧ decode (mX5_init).2.1 35 = .ok ((.lconst 0), 1) ∧ decode (mX5_init).2.1 36 = .ok ((.putfield 30), 3) ∧ decode (mX5_init).2.1 39 = .ok ((.aload_n 0), 1) := by decide +kernel
theorem dX5_init_30 : Dc mX5_init 30 (.iconst 0) 1 31 := ⟨k_dX5_init_30.1, rfl⟩
theorem dX5_init_31 : Dc mX5_init 31 (.putfield 27) 3 34 := ⟨k_dX5_init_30.2.1, rfl⟩
theorem dX5_init_34 : Dc mX5_init 34 (.aload_n 0) 1 35 := ⟨k_dX5_init_30.2.2.1, rfl⟩
theorem dX5_init_35 : Dc mX5_init 35 (.lconst 0) 1 36 := ⟨k_dX5_init_30.2.2.2.1, rfl⟩
theorem dX5_init_36 : Dc mX5_init 36 (.putfield 30) 3 39 := ⟨k_dX5_init_30.2.2.2.2.1, rfl⟩
theorem dX5_init_39 : Dc mX5_init 39 (.aload_n 0) 1 40 := ⟨k_dX5_init_30.2.2.2.2.2, rfl⟩
theorem k_dX5_init_40 : decode (mX5_init).2.1 40 = .ok ((.bipush 8), 2) ∧ decode (mX5_init).2.1 42 = .ok ((.newarray .int), 2) ∧ decode (mX5_init).2.1 44 = .ok ((.putfield 34), 3) ∧ decode (mX5_init).2.1 47 = .ok ((.aload_n 0), 1) ∧ decode (mX5_init).2.1 48 = .ok ((.bipush 8), 2) ∧ decode (mX5_init).2.1 50 = .ok ((.newarray .int), 2) := by decide +kernel
theorem dX5_init_40 : Dc mX5_init 40 (.bipush 8) 2 42 := ⟨k_dX5_init_40.1, rfl⟩
theorem dX5_init_42 : Dc mX5_init 42 (.newarray .int) 2 44 := ⟨k_dX5_init_40.2.1, rfl⟩
theorem dX5_init_44 : Dc mX5_init 44 (.putfield 34) 3 47 := ⟨k_dX5_init_40.2.2.1, rfl⟩
theorem dX5_init_47 : Dc mX5_init 47 (.aload_n 0) 1 48 := ⟨k_dX5_init_40.2.2.2.1, rfl⟩
theorem dX5_init_48 : Dc mX5_init 48 (.bipush 8) 2 50 := ⟨k_dX5_init_40.2.2.2.2.1, rfl⟩
theorem dX5_init_50 : Dc mX5_init 50 (.newarray .int) 2 52 := ⟨k_dX5_init_40.2.2.2.2.2, rfl⟩
theorem k_dX5_init_52 : decode (mX5_init).2.1 52 = .ok ((.putfield 38), 3) ∧ decode (mX5_init).2.1 55 = .ok ((.aload_n 0), 1) ∧ decode (mX5_init).2.1 56 = .ok ((.bipush 8), 2) ∧ decode (mX5_init).2.1 58 = .ok ((.newarray .int), 2) ∧ decode (mX5_init).2.1 60 = .ok ((.putfield 41), 3) ∧ decode (mX5_init).2.1 63 = .ok ((.aload_n 0), 1) := by decide +kernel
theorem dX5_init_52 : Dc mX5_init 52 (.putfield 38) 3 55 := ⟨k_dX5_init_52.1, rfl⟩
theorem dX5_init_55 : Dc mX5_init 55 (.aload_n 0) 1 56 := ⟨k_dX5_init_52.2.1, rfl⟩
theorem dX5_init_56 : Dc mX5_init 56 (.bipush 8) 2 58 := ⟨k_dX5_init_52.2.2.1, rfl⟩
theorem dX5_init_58 : Dc mX5_init 58 (.newarray .int) 2 60 := ⟨k_dX5_init_52.2.2.2.1, rfl⟩
theorem dX5_init_60 : Dc mX5_init 60 (.putfield 41) 3 63 := ⟨k_dX5_init_52.2.2.2.2.1, rfl⟩
theorem dX5_init_63 : Dc mX5_init 63 (.aload_n 0) 1 64 := ⟨k_dX5_init_52.2.2.2.2.2, rfl⟩
theorem k_dX5_init_64 : decode (mX5_init).2.1 64 = .ok ((.bipush 48), 2) ∧ decode (mX5_init).2.1 66 = .ok ((.newarray .int), 2) ∧ decode (mX5_init).2.1 68 = .ok ((.putfield 44), 3) ∧ decode (mX5_init).2.1 71 = .ok ((.aload_n 0), 1) ∧ decode (mX5_init).2.1 72 = .ok ((.bipush 6), 2) ∧ decode (mX5_init).2.1 74 = .ok ((.newarray .int), 2) := by decide +kernel
theorem dX5_init_64 : Dc mX5_init 64 (.bipush 48) 2 66 := ⟨k_dX5_init_64.1, rfl⟩
theorem dX5_init_66 : Dc mX5_init 66 (.newarray .int) 2 68 := ⟨k_dX5_init_64.2.1, rfl⟩
theorem dX5_init_68 : Dc mX5_init 68 (.putfield 44) 3 71 := ⟨k_dX5_init_64.2.2.1, rfl⟩
theorem dX5_init_71 : Dc mX5_init 71 (.aload_n 0) 1 72 := ⟨k_dX5_init_64.2.2.2.1, rfl⟩
theorem dX5_init_72 : Dc mX5_init 72 (.bipush 6) 2 74 := ⟨k_dX5_init_64.2.2.2.2.1, rfl⟩
theorem dX5_init_74 : Dc mX5_init 74 (.newarray .int) 2 76 := ⟨k_dX5_init_64.2.2.2.2.2, rfl⟩
theorem k_dX5_init_76 : decode (mX5_init).2.1 76 = .ok ((.putfield 47), 3) ∧ decode (mX5_init).2.1 79 = .ok ((.aload_n 0), 1) ∧ decode (mX5_init).2.1 80 = .ok ((.bipush 6), 2) ∧ decode (mX5_init).2.1 82 = .ok ((.newarray .int), 2) ∧ decode (mX5_init).2.1 84 = .ok ((.putfield 50), 3) ∧ decode (mX5_init).2.1 87 = .ok ((.aload_n 0), 1) := by decide +kernel
theorem dX5_init_76 : Dc mX5_init 76 (.putfield 47) 3 79 := ⟨k_dX5_init_76.1, rfl⟩
theorem dX5_init_79 : Dc mX5_init 79 (.aload_n 0) 1 80 := ⟨k_dX5_init_76.2.1, rfl⟩
theorem dX5_init_80 : Dc mX5_init 80 (.bipush 6) 2 82 := ⟨k_dX5_init_76.2.2.1, rfl⟩
theorem dX5_init_82 : Dc mX5_init 82 (.newarray .int) 2 84 := ⟨k_dX5_init_76.2.2.2.1, rfl⟩
theorem dX5_init_84 : Dc mX5_init 84 (.putfield 50) 3 87 := ⟨k_dX5_init_76.2.2.2.2.1, rfl⟩
theorem dX5_init_87 : Dc mX5_init 87 (.aload_n 0) 1 88 := ⟨k_dX5_init_76.2.2.2.2.2, rfl⟩
theorem k_dX5_init_88 : decode (mX5_init).2.1 88 = .ok ((.iconst 4), 1) ∧ decode (mX5_init).2.1 89 = .ok ((.newarray .int), 2) ∧ decode (mX5_init).2.1 91 = .ok ((.putfield 53), 3) ∧ decode (mX5_init).2.1 94 = .ok ((.aload_n 0), 1) ∧ decode (mX5_init).2.1 95 = .ok ((.iconst 4), 1) ∧ decode (mX5_init).2.1 96 = .ok ((.newarray .int), 2) := by decide +kernel
theorem dX5_init_88 : Dc mX5_init 88 (.iconst 4) 1 89 := ⟨k_dX5_init_88.1, rfl⟩
theorem dX5_init_89 : Dc mX5_init 89 (.newarray .int) 2 91 := ⟨k_dX5_init_88.2.1, rfl⟩
theorem dX5_init_91 : Dc mX5_init 91 (.putfield 53) 3 94 := ⟨k_dX5_init_88.2.2.1, rfl⟩
theorem dX5_init_94 : Dc mX5_init 94 (.aload_n 0) 1 95 := ⟨k_dX5_init_88.2.2.2.1, rfl⟩
theorem dX5_init_95 : Dc mX5_init 95 (.iconst 4) 1 96 := ⟨k_dX5_init_88.2.2.2.2.1, rfl⟩
theorem dX5_init_96 : Dc mX5_init 96 (.newarray .int) 2 98 := ⟨k_dX5_init_88.2.2.2.2.2, rfl⟩
theorem k_dX5_init_98 : decode (mX5_init).2.1 98 = .ok ((.putfield 56), 3) ∧ decode (mX5_init).2.1 101 = .ok ((.return_), 1) := by decide +kernel
theorem dX5_init_98 : Dc mX5_init 98 (.putfield 56) 3 101 := ⟨k_dX5_init_98.1, rfl⟩
theorem dX5_init_101 : Dc mX5_init 101 (.return_) 1 102 := ⟨k_dX5_init_98.2, rfl⟩
theorem k_dX5_open_0 : decode (mX5_open).2.1 0 = .ok ((.aload_n 0), 1) ∧ decode (mX5_open).2.1 1 = .ok ((.iconst 0), 1) ∧ decode (mX5_open).2.1 2 = .ok ((.putfield 9), 3) ∧ decode (mX5_open).2.1 5 = .ok ((.aload_n 0), 1) ∧ decode (mX5_open).2.1 6 = .ok ((.aload_n 1), 1) ∧ decode (mX5_open).2.1 7 = .ok ((.getfield 59), 3) := by decide +kernel
theorem dX5_open_0 : Dc mX5_open 0 (.aload_n 0) 1 1 := ⟨k_dX5_open_0.1, rfl⟩
theorem dX5_open_1 : Dc mX5_open 1 (.iconst 0) 1 2 := ⟨k_dX5_open_0.2.1, rfl⟩
theorem dX5_open_2 : Dc mX5_open 2 (.putfield 9) 3 5 := ⟨k_dX5_open_0.2.2.1, rfl⟩
theorem dX5_open_5 : Dc mX5_open 5 (.aload_n 0) 1 6 := ⟨k_dX5_open_0.2.2.2.1, rfl⟩
theorem dX5_open_6 : Dc mX5_open 6 (.aload_n 1) 1 7 := ⟨k_dX5_open_0.2.2.2.2.1, rfl⟩
theorem dX5_open_7 : Dc mX5_open 7 (.getfield 59) 3 10 := ⟨k_dX5_open_0.2.2.2.2.2, rfl⟩
theorem k_dX5_open_10 : decode (mX5_open).2.1 10 = .ok ((.putfield 15), 3) ∧ decode (mX5_open).2.1 13 = .ok ((.aload_n 0), 1) ∧ decode (mX5_open).2.1 14 = .ok ((.iconst 0), 1) ∧ decode (mX5_open).2.1 15 = .ok ((.putfield 18), 3) ∧ decode (mX5_open).2.1 18 = .ok ((.aload_n 0), 1) ∧ decode (mX5_open).2.1 19 = .ok ((.iconst 0), 1) := by decide +kernel
theorem dX5_open_10 : Dc mX5_open 10 (.putfield 15) 3 13 := ⟨k_dX5_open_10.1, rfl⟩
theorem dX5_open_13 : Dc mX5_open 13 (.aload_n 0) 1 14 := ⟨k_dX5_open_10.2.1, rfl⟩
theorem dX5_open_14 : Dc mX5_open 14 (.iconst 0) 1 15 := ⟨k_dX5_open_10.2.2.1, rfl⟩
theorem dX5_open_15 : Dc mX5_open 15 (.putfield 18) 3 18 := ⟨k_dX5_open_10.2.2.2.1, rfl⟩
theorem dX5_open_18 : Dc mX5_open 18 (.aload_n 0) 1 19 := ⟨k_dX5_open_10.2.2.2.2.1, rfl⟩
theorem dX5_open_19 : Dc mX5_open 19 (.iconst 0) 1 20 := ⟨k_dX5_open_10.2.2.2.2.2, rfl⟩
theorem k_dX5_open_20 : decode (mX5_open).2.1 20 = .ok ((.putfield 21), 3) ∧ decode (mX5_open).2.1 23 = .ok ((.aload_n 0), 1) ∧ decode (mX5_open).2.1 24 = .ok ((.iconst 0), 1) ∧ decode (mX5_open).2.1 25 = .ok ((.putfield 24), 3) ∧ decode (mX5_open).2.1 28 = .ok ((.aload_n 0), 1) ∧ decode (mX5_open).2.1 29 = .ok ((.iconst 0), 1) := by decide +kernel
theorem dX5_open_20 : Dc mX5_open 20 (.putfield 21) 3 23 := ⟨k_dX5_open_20.1, rfl⟩
theorem dX5_open_23 : Dc mX5_open 23 (.aload_n 0) 1 24 := ⟨k_dX5_open_20.2.1, rfl⟩
theorem dX5_open_24 : Dc mX5_open 24 (.iconst 0) 1 25 := ⟨k_dX5_open_20.2.2.1, rfl⟩
theorem dX5_open_25 : Dc mX5_open 25 (.putfield 24) 3 28 := ⟨k_dX5_open_20.2.2.2.1, rfl⟩
theorem dX5_open_28 : Dc mX5_open 28 (.aload_n 0) 1 29 := ⟨k_dX5_open_20.2.2.2.2.1, rfl⟩
theorem dX5_open_29 : Dc mX5_open 29 (.iconst 0) 1 30 := ⟨k_dX5_open_20.2.2.2.2.2, rfl⟩
theorem k_dX5_open_30 : decode (mX5_open).2.1 30 = .ok ((.putfield 27), 3) ∧ decode (mX5_open).2.1 33 = .ok ((.aload_n 0), 1) ∧ decode (mX5_open).2.1 34 = .ok ((.aload_n 1), 1) ∧ decode (mX5_open).2.1 35 = .ok ((.getfield 62), 3) ∧ decode (mX5_open).2.1 38 = .ok ((.i2l), 1) ∧ decode (mX5_open).2.1 39 = .ok ((.putfield 30), 3) := by decide +kernel
theorem dX5_open_30 : Dc mX5_open 30 (.putfield 27) 3 33 := ⟨k_dX5_open_30.1, rfl⟩
theorem dX5_open_33 : Dc mX5_open 33 (.aload_n 0) 1 34 := ⟨k_dX5_open_30.2.1, rfl⟩
theorem dX5_open_34 : Dc mX5_open 34 (.aload_n 1) 1 35 := ⟨k_dX5_open_30.2.2.1, rfl⟩
theorem dX5_open_35 : Dc mX5_open 35 (.getfield 62) 3 38 := ⟨k_dX5_open_30.2.2.2.1, rfl⟩
theorem dX5_open_38 : Dc mX5_open 38 (.i2l) 1 39 := ⟨k_dX5_open_30.2.2.2.2.1, rfl⟩
theorem dX5_open_39 : Dc mX5_open 39 (.putfield 30) 3 42 := ⟨k_dX5_open_30.2.2.2.2.2, rfl⟩
theorem k_dX5_open_42 : decode (mX5_open).2.1 42 = .ok ((.aload_n 1), 1) ∧ decode (mX5_open).2.1 43 = .ok ((.getfield 65), 3) ∧ decode (mX5_open).2.1 46 = .ok ((.getfield 69), 3) ∧ decode (mX5_open).2.1 49 = .ok ((.aload_n 0), 1) ∧ decode (mX5_open).2.1 50 = .ok ((.getfield 34), 3) ∧ decode (mX5_open).2.1 53 = .ok ((.invokestatic 74), 3) := by decide +kernel
theorem dX5_open_42 : Dc mX5_open 42 (.aload_n 1) 1 43 := ⟨k_dX5_open_42.1, rfl⟩
theorem dX5_open_43 : Dc mX5_open 43 (.getfield 65) 3 46 := ⟨k_dX5_open_42.2.1, rfl⟩
theorem dX5_open_46 : Dc mX5_open 46 (.getfield 69) 3 49 := ⟨k_dX5_open_42.2.2.1, rfl⟩
theorem dX5_open_49 : Dc mX5_open 49 (.aload_n 0) 1 50 := ⟨k_dX5_open_42.2.2.2.1, rfl⟩
theorem dX5_open_50 : Dc mX5_open 50 (.getfield 34) 3 53 := ⟨k_dX5_open_42.2.2.2.2.1, rfl⟩
theorem dX5_open_53 : Dc mX5_open 53 (.invokestatic 74) 3 56 := ⟨k_dX5_open_42.2.2.2.2.2, rfl⟩
theorem k_dX5_open_56 : decode (mX5_open).2.1 56 = .ok ((.aload_n 0), 1) ∧ decode (mX5_open).2.1 57 = .ok ((.getfield 38), 3) ∧ decode (mX5_open).2.1 60 = .ok ((.iconst 0), 1) ∧ decode (mX5_open).2.1 61 = .ok ((.invokestatic 78), 3) ∧ decode (mX5_open).2.1 64 = .ok ((.aload_n 0), 1) ∧ decode (mX5_open).2.1 65 = .ok ((.getfield 41), 3) := by decide +kernel
theorem dX5_open_56 : Dc mX5_open 56 (.aload_n 0) 1 57 := ⟨k_dX5_open_56.1, rfl⟩
theorem dX5_open_57 : Dc mX5_open 57 (.getfield 38) 3 60 := ⟨k_dX5_open_56.2.1, rfl⟩
theorem dX5_open_60 : Dc mX5_open 60 (.iconst 0) 1 61 := ⟨k_dX5_open_56.2.2.1, rfl⟩
theorem dX5_open_61 : Dc mX5_open 61 (.invokestatic 78) 3 64 := ⟨k_dX5_open_56.2.2.2.1, rfl⟩
theorem dX5_open_64 : Dc mX5_open 64 (.aload_n 0) 1 65 := ⟨k_dX5_open_56.2.2.2.2.1, rfl⟩
theorem dX5_open_65 : Dc mX5_open 65 (.getfield 41) 3 68 := ⟨k_dX5_open_56.2.2.2.2.2, rfl⟩
theorem k_dX5_open_68 : decode (mX5_open).2.1 68 = .ok ((.iconst 0), 1) ∧ decode (mX5_open).2.1 69 = .ok ((.invokestatic 78), 3) ∧ decode (mX5_open).2.1 72 = .ok ((.aload_n 1), 1) ∧ decode (mX5_open).2.1 73 = .ok ((.getfield 82), 3) ∧ decode (mX5_open).2.1 76 = .ok ((.aload_n 0), 1) ∧ decode (mX5_open).2.1 77 = .ok ((.getfield 44), 3) := by decide +kernel
theorem dX5_open_68 : Dc mX5_open 68 (.iconst 0) 1 69 := ⟨k_dX5_open_68.1, rfl⟩
theorem dX5_open_69 : Dc mX5_open 69 (.invokestatic 78) 3 72 := ⟨k_dX5_open_68.2.1, rfl⟩
theorem dX5_open_72 : Dc mX5_open 72 (.aload_n 1) 1 73 := ⟨k_dX5_open_68.2.2.1, rfl⟩
theorem dX5_open_73 : Dc mX5_open 73 (.getfield 82) 3 76 := ⟨k_dX5_open_68.2.2.2.1, rfl⟩
theorem dX5_open_76 : Dc mX5_open 76 (.aload_n 0) 1 77 := ⟨k_dX5_open_68.2.2.2.2.1, rfl⟩
theorem dX5_open_77 : Dc mX5_open 77 (.getfield 44) 3 80 := ⟨k_dX5_open_68.2.2.2.2.2, rfl⟩
theorem k_dX5_open_80 : decode (mX5_open).2.1 80 = .ok ((.invokestatic 74), 3) ∧ decode (mX5_open).2.1 83 = .ok ((.aload_n 0), 1) ∧ decode (mX5_open).2.1 84 = .ok ((.getfield 47), 3) ∧ decode (mX5_open).2.1 87 = .ok ((.iconst (-1)), 1) ∧ decode (mX5_open).2.1 88 = .ok ((.invokestatic 78), 3) ∧ decode (mX5_open).2.1 91 = .ok ((.aload_n 0), 1) := by decide +kernel
theorem dX5_open_80 : Dc mX5_open 80 (.invokestatic 74) 3 83 := ⟨k_dX5_open_80.1, rfl⟩
theorem dX5_open_83 : Dc mX5_open 83 (.aload_n 0) 1 84 := ⟨k_dX5_open_80.2.1, rfl⟩
theorem dX5_open_84 : Dc mX5_open 84 (.getfield 47) 3 87 := ⟨k_dX5_open_80.2.2.1, rfl⟩
theorem dX5_open_87 : Dc mX5_open 87 (.iconst (-1)) 1 88 := ⟨k_dX5_open_80.2.2.2.1, rfl⟩
theorem dX5_open_88 : Dc mX5_open 88 (.invokestatic 78) 3 91 := ⟨k_dX5_open_80.2.2.2.2.1, rfl⟩
theorem dX5_open_91 : Dc mX5_open 91 (.aload_n 0) 1 92 := ⟨k_dX5_open_80.2.2.2.2.2, rfl⟩
theorem k_dX5_open_92 : decode (mX5_open).2.1 92 = .ok ((.getfield 50), 3) ∧ decode (mX5_open).2.1 95 = .ok ((.iconst 0), 1) ∧ decode (mX5_open).2.1 96 = .ok ((.invokestatic 78), 3) ∧ decode (mX5_open).2.1 99 = .ok ((.aload_n 1), 1) ∧ decode (mX5_open).2.1 100 = .ok ((.getfield 83), 3) ∧ decode (mX5_open).2.1 103 = .ok ((.getfield 86), 3) := by decide +kernel
theorem dX5_open_92 : Dc mX5_open 92 (.getfield 50) 3 95 := ⟨k_dX5_open_92.1, rfl⟩
theorem dX5_open_95 : Dc mX5_open 95 (.iconst 0) 1 96 := ⟨k_dX5_open_92.2.1, rfl⟩
theorem dX5_open_96 : Dc mX5_open 96 (.invokestatic 78) 3 99 := ⟨k_dX5_open_92.2.2.1, rfl⟩
theorem dX5_open_99 : Dc mX5_open 99 (.aload_n 1) 1 100 := ⟨k_dX5_open_92.2.2.2.1, rfl⟩
theorem dX5_open_100 : Dc mX5_open 100 (.getfield 83) 3 103 := ⟨k_dX5_open_92.2.2.2.2.1, rfl⟩
theorem dX5_open_103 : Dc mX5_open 103 (.getfield 86) 3 106 := ⟨k_dX5_open_92.2.2.2.2.2, rfl⟩
theorem k_dX5_open_106 : decode (mX5_open).2.1 106 = .ok ((.aload_n 0), 1) ∧ decode (mX5_open).2.1 107 = .ok ((.getfield 53), 3) ∧ decode (mX5_open).2.1 110 = .ok ((.invokestatic 74), 3) ∧ decode (mX5_open).2.1 113 = .ok ((.aload_n 0), 1) ∧ decode (mX5_open).2.1 114 = .ok ((.getfield 56), 3) ∧ decode (mX5_open).2.1 117 = .ok ((.iconst 0), 1) := by decide +kernel
theorem dX5_open_106 : Dc mX5_open 106 (.aload_n 0) 1 107 := ⟨k_dX5_open_106.1, rfl⟩
theorem dX5_open_107 : Dc mX5_open 107 (.getfield 53) 3 110 := ⟨k_dX5_open_106.2.1, rfl⟩
theorem dX5_open_110 : Dc mX5_open 110 (.invokestatic 74) 3 113 := ⟨k_dX5_open_106.2.2.1, rfl⟩
theorem dX5_open_113 : Dc mX5_open 113 (.aload_n 0) 1 114 := ⟨k_dX5_open_106.2.2.2.1, rfl⟩
theorem dX5_open_114 : Dc mX5_open 114 (.getfield 56) 3 117 := ⟨k_dX5_open_106.2.2.2.2.1, rfl⟩
theorem dX5_open_117 : Dc mX5_open 117 (.iconst 0) 1 118 := ⟨k_dX5_open_106.2.2.2.2.2, rfl⟩
theorem k_dX5_open_118 : decode (mX5_open).2.1 118 = .ok ((.invokestatic 78), 3) ∧ decode (mX5_open).2.1 121 = .ok ((.return_), 1) := by decide +kernel
theorem dX5_open_118 : Dc mX5_open 118 (.invokestatic 78) 3 121 := ⟨k_dX5_open_118.1, rfl⟩
theorem dX5_open_121 : Dc mX5_open 121 (.return_) 1 122 := ⟨k_dX5_open_118.2, rfl⟩
theorem k_dX5_copy_0 : decode (mX5_copy).2.1 0 = .ok ((.aload_n 0), 1) ∧ decode (mX5_copy).2.1 1 = .ok ((.aload_n 1), 1) ∧ decode (mX5_copy).2.1 2 = .ok ((.getfield 9), 3) ∧ decode (mX5_copy).2.1 5 = .ok ((.putfield 9), 3) ∧ decode (mX5_copy).2.1 8 = .ok ((.aload_n 0), 1) ∧ decode (mX5_copy).2.1 9 = .ok ((.aload_n 1), 1) := by decide +kernel
theorem dX5_copy_0 : Dc mX5_copy 0 (.aload_n 0) 1 1 := ⟨k_dX5_copy_0.1, rfl⟩
theorem dX5_copy_1 : Dc mX5_copy 1 (.aload_n 1) 1 2 := ⟨k_dX5_copy_0.2.1, rfl⟩
theorem dX5_copy_2 : Dc mX5_copy 2 (.getfield 9) 3 5 := ⟨k_dX5_copy_0.2.2.1, rfl⟩
theorem dX5_copy_5 : Dc mX5_copy 5 (.putfield 9) 3 8 := ⟨k_dX5_copy_0.2.2.2.1, rfl⟩
theorem dX5_copy_8 : Dc mX5_copy 8 (.aload_n 0) 1 9 := ⟨k_dX5_copy_0.2.2.2.2.1, rfl⟩
theorem dX5_copy_9 : Dc mX5_copy 9 (.aload_n 1) 1 10 := ⟨k_dX5_copy_0.2.2.2.2.2, rfl⟩
theorem k_dX5_copy_10 : decode (mX5_copy).2.1 10 = .ok ((.getfield 15), 3) ∧ decode (mX5_copy).2.1 13 = .ok ((.putfield 15), 3) ∧ decode (mX5_copy).2.1 16 = .ok ((.aload_n 0), 1) ∧ decode (mX5_copy).2.1 17 = .ok ((.aload_n 1), 1) ∧ decode (mX5_copy).2.1 18 = .ok ((.getfield 18), 3) ∧ decode (mX5_copy).2.1 21 = .ok ((.putfield 18), 3) := by decide +kernel
theorem dX5_copy_10 : Dc mX5_copy 10 (.getfield 15) 3 13 := ⟨k_dX5_copy_10.1, rfl⟩
theorem dX5_copy_13 : Dc mX5_copy 13 (.putfield 15) 3 16 := ⟨k_dX5_copy_10.2.1, rfl⟩
theorem dX5_copy_16 : Dc mX5_copy 16 (.aload_n 0) 1 17 := ⟨k_dX5_copy_10.2.2.1, rfl⟩
theorem dX5_copy_17 : Dc mX5_copy 17 (.aload_n 1) 1 18 := ⟨k_dX5_copy_10.2.2.2.1, rfl⟩
theorem dX5_copy_18 : Dc mX5_copy 18 (.getfield 18) 3 21 := ⟨k_dX5_copy_10.2.2.2.2.1, rfl⟩
theorem dX5_copy_21 : Dc mX5_copy 21 (.putfield 18) 3 24 := ⟨k_dX5_copy_10.2.2.2.2.2, rfl⟩
theorem k_dX5_copy_24 : decode (mX5_copy).2.1 24 = .ok ((.aload_n 0), 1) ∧ decode (mX5_copy).2.1 25 = .ok ((.aload_n 1), 1) ∧ decode (mX5_copy).2.1 26 = .ok ((.getfield 21), 3) ∧ decode (mX5_copy).2.1 29 = .ok ((.putfield 21), 3) ∧ decode (mX5_copy).2.1 32 = .ok ((.aload_n 0), 1) ∧ decode (mX5_copy).2.1 33 = .ok ((.aload_n 1), 1) := by decide +kernel
theorem dX5_copy_24 : Dc mX5_copy 24 (.aload_n 0) 1 25 := ⟨k_dX5_copy_24.1, rfl⟩
theorem dX5_copy_25 : Dc mX5_copy 25 (.aload_n 1) 1 26 := ⟨k_dX5_copy_24.2.1, rfl⟩
theorem dX5_copy_26 : Dc mX5_copy 26 (.getfield 21) 3 29 := ⟨k_dX5_copy_24.2.2.1, rfl⟩
theorem dX5_copy_29 : Dc mX5_copy 29 (.putfield 21) 3 32 := ⟨k_dX5_copy_24.2.2.2.1, rfl⟩
theorem dX5_copy_32 : Dc mX5_copy 32 (.aload_n 0) 1 33 := ⟨k_dX5_copy_24.2.2.2.2.1, rfl⟩
theorem dX5_copy_33 : Dc mX5_copy 33 (.aload_n 1) 1 34 := ⟨k_dX5_copy_24.2.2.2.2.2, rfl⟩
theorem k_dX5_copy_34 : decode (mX5_copy).2.1 34 = .ok ((.getfield 24), 3) ∧ decode (mX5_copy).2.1 37 = .ok ((.putfield 24), 3) ∧ decode (mX5_copy).2.1 40 = .ok ((.aload_n 0), 1) ∧ decode (mX5_copy).2.1 41 = .ok ((.aload_n 1), 1) ∧ decode (mX5_copy).2.1 42 = .ok ((.getfield 27), 3) ∧ decode (mX5_copy).2.1 45 = .ok ((.putfield 27), 3) := by decide +kernel
theorem dX5_copy_34 : Dc mX5_copy 34 (.getfield 24) 3 37 := ⟨k_dX5_copy_34.1, rfl⟩
theorem dX5_copy_37 : Dc mX5_copy 37 (.putfield 24) 3 40 := ⟨k_dX5_copy_34.2.1, rfl⟩
theorem dX5_copy_40 : Dc mX5_copy 40 (.aload_n 0) 1 41 := ⟨k_dX5_copy_34.2.2.1, rfl⟩
theorem dX5_copy_41 : Dc mX5_copy 41 (.aload_n 1) 1 42 := ⟨k_dX5_copy_34.2.2.2.1, rfl⟩
theorem dX5_copy_42 : Dc mX5_copy 42 (.getfield 27) 3 45 := ⟨k_dX5_copy_34.2.2.2.2.1, rfl⟩
theorem dX5_copy_45 : Dc mX5_copy 45 (.putfield 27) 3 48 := ⟨k_dX5_copy_34.2.2.2.2.2, rfl⟩
theorem k_dX5_copy_48 : decode (mX5_copy).2.1 48 = .ok ((.aload_n 0), 1) ∧ decode (mX5_copy).2.1 49 = .ok ((.aload_n 1), 1) ∧ decode (mX5_copy).2.1 50 = .ok ((.getfield 30), 3) ∧ decode (mX5_copy).2.1 53 = .ok ((.putfield 30), 3) ∧ decode (mX5_copy).2.1 56 = .ok ((.aload_n 1), 1) ∧ decode (mX5_copy).2.1 57 = .ok ((.getfield 34), 3) := by decide +kernel
theorem dX5_copy_48 : Dc mX5_copy 48 (.aload_n 0) 1 49 := ⟨k_dX5_copy_48.1, rfl⟩
theorem dX5_copy_49 : Dc mX5_copy 49 (.aload_n 1) 1 50 := ⟨k_dX5_copy_48.2.1, rfl⟩
theorem dX5_copy_50 : Dc mX5_copy 50 (.getfield 30) 3 53 := ⟨k_dX5_copy_48.2.2.1, rfl⟩
theorem dX5_copy_53 : Dc mX5_copy 53 (.putfield 30) 3 56 := ⟨k_dX5_copy_48.2.2.2.1, rfl⟩
theorem dX5_copy_56 : Dc mX5_copy 56 (.aload_n 1) 1 57 := ⟨k_dX5_copy_48.2.2.2.2.1, rfl⟩
theorem dX5_copy_57 : Dc mX5_copy 57 (.getfield 34) 3 60 := ⟨k_dX5_copy_48.2.2.2.2.2, rfl⟩
theorem k_dX5_copy_60 : decode (mX5_copy).2.1 60 = .ok ((.aload_n 0), 1) ∧ decode (mX5_copy).2.1 61 = .ok ((.getfield 34), 3) ∧ decode (mX5_copy).2.1 64 = .ok ((.invokestatic 74), 3) ∧ decode (mX5_copy).2.1 67 = .ok ((.aload_n 1), 1) ∧ decode (mX5_copy).2.1 68 = .ok ((.getfield 38), 3) ∧ decode (mX5_copy).2.1 71 = .ok ((.aload_n 0), 1) := by decide +kernel
theorem dX5_copy_60 : Dc mX5_copy 60 (.aload_n 0) 1 61 := ⟨k_dX5_copy_60.1, rfl⟩
theorem dX5_copy_61 : Dc mX5_copy 61 (.getfield 34) 3 64 := ⟨k_dX5_copy_60.2.1, rfl⟩
theorem dX5_copy_64 : Dc mX5_copy 64 (.invokestatic 74) 3 67 := ⟨k_dX5_copy_60.2.2.1, rfl⟩
theorem dX5_copy_67 : Dc mX5_copy 67 (.aload_n 1) 1 68 := ⟨k_dX5_copy_60.2.2.2.1, rfl⟩
theorem dX5_copy_68 : Dc mX5_copy 68 (.getfield 38) 3 71 := ⟨k_dX5_copy_60.2.2.2.2.1, rfl⟩
theorem dX5_copy_71 : Dc mX5_copy 71 (.aload_n 0) 1 72 := ⟨k_dX5_copy_60.2.2.2.2.2, rfl⟩
theorem k_dX5_copy_72 : decode (mX5_copy).2.1 72 = .ok ((.getfield 38), 3) ∧ decode (mX5_copy).2.1 75 = .ok ((.invokestatic 74), 3) ∧ decode (mX5_copy).2.1 78 = .ok ((.aload_n 1), 1) ∧ decode (mX5_copy).2.1 79 = .ok ((.getfield 41), 3) ∧ decode (mX5_copy).2.1 82 = .ok ((.aload_n 0), 1) ∧ decode (mX5_copy).2.1 83 = .ok ((.getfield 41), 3) := by decide +kernel
theorem dX5_copy_72 : Dc mX5_copy 72 (.getfield 38) 3 75 := ⟨k_dX5_copy_72.1, rfl⟩
theorem dX5_copy_75 : Dc mX5_copy 75 (.invokestatic 74) 3 78 := ⟨k_dX5_copy_72.2.1, rfl⟩
theorem dX5_copy_78 : Dc mX5_copy 78 (.aload_n 1) 1 79 := ⟨k_dX5_copy_72.2.2.1, rfl⟩
theorem dX5_copy_79 : Dc mX5_copy 79 (.getfield 41) 3 82 := ⟨k_dX5_copy_72.2.2.2.1, rfl⟩
theorem dX5_copy_82 : Dc mX5_copy 82 (.aload_n 0) 1 83 := ⟨k_dX5_copy_72.2.2.2.2.1, rfl⟩
theorem dX5_copy_83 : Dc mX5_copy 83 (.getfield 41) 3 86 := ⟨k_dX5_copy_72.2.2.2.2.2, rfl⟩
theorem k_dX5_copy_86 : decode (mX5_copy).2.1 86 = .ok ((.invokestatic 74), 3) ∧ decode (mX5_copy).2.1 89 = .ok ((.aload_n 1), 1) ∧ decode (mX5_copy).2.1 90 = .ok ((.getfield 44), 3) ∧ decode (mX5_copy).2.1 93 = .ok ((.aload_n 0), 1) ∧ decode (mX5_copy).2.1 94 = .ok ((.getfield 44), 3) ∧ decode (mX5_copy).2.1 97 = .ok ((.invokestatic 74), 3) := by decide +kernel
theorem dX5_copy_86 : Dc mX5_copy 86 (.invokestatic 74) 3 89 := ⟨k_dX5_copy_86.1, rfl⟩
theorem dX5_copy_89 : Dc mX5_copy 89 (.aload_n 1) 1 90 := ⟨k_dX5_copy_86.2.1, rfl⟩
theorem dX5_copy_90 : Dc mX5_copy 90 (.getfield 44) 3 93 := ⟨k_dX5_copy_86.2.2.1, rfl⟩
theorem dX5_copy_93 : Dc mX5_copy 93 (.aload_n 0) 1 94 := ⟨k_dX5_copy_86.2.2.2.1, rfl⟩
theorem dX5_copy_94 : Dc mX5_copy 94 (.getfield 44) 3 97 := ⟨k_dX5_copy_86.2.2.2.2.1, rfl⟩
theorem dX5_copy_97 : Dc mX5_copy 97 (.invokestatic 74) 3 100 := ⟨k_dX5_copy_86.2.2.2.2.2, rfl⟩
theorem k_dX5_copy_100 : decode (mX5_copy).2.1 100 = .ok ((.aload_n 1), 1) ∧ decode (mX5_copy).2.1 101 = .ok ((.getfield 47), 3) ∧ decode (mX5_copy).2.1 104 = .ok ((.aload_n 0), 1) ∧ decode (mX5_copy).2.1 105 = .ok ((.getfield 47), 3) ∧ decode (mX5_copy).2.1 108 = .ok ((.invokestatic 74), 3) ∧ decode (mX5_copy).2.1 111 = .ok ((.aload_n 1), 1) := by decide +kernel
theorem dX5_copy_100 : Dc mX5_copy 100 (.aload_n 1) 1 101 := ⟨k_dX5_copy_100.1, rfl⟩
theorem dX5_copy_101 : Dc mX5_copy 101 (.getfield 47) 3 104 := ⟨k_dX5_copy_100.2.1, rfl⟩
theorem dX5_copy_104 : Dc mX5_copy 104 (.aload_n 0) 1 105 := ⟨k_dX5_copy_100.2.2.1, rfl⟩
theorem dX5_copy_105 : Dc mX5_copy 105 (.getfield 47) 3 108 := ⟨k_dX5_copy_100.2.2.2.1, rfl⟩
theorem dX5_copy_108 : Dc mX5_copy 108 (.invokestatic 74) 3 111 := ⟨k_dX5_copy_100.2.2.2.2.1, rfl⟩
theorem dX5_copy_111 : Dc mX5_copy 111 (.aload_n 1) 1 112 := ⟨k_dX5_copy_100.2.2.2.2.2, rfl⟩
theorem k_dX5_copy_112 : decode (mX5_copy).2.1 112 = .ok ((.getfield 50), 3) ∧ decode (mX5_copy).2.1 115 = .ok ((.aload_n 0), 1) ∧ decode (mX5_copy).2.1 116 = .ok ((.getfield 50), 3) ∧ decode (mX5_copy).2.1 119 = .ok ((.invokestatic 74), 3) ∧ decode (mX5_copy).2.1 122 = .ok ((.aload_n 1), 1) ∧ decode (mX5_copy).2.1 123 = .ok ((.getfield 53), 3) := by decide +kernel
theorem dX5_copy_112 : Dc mX5_copy 112 (.getfield 50) 3 115 := ⟨k_dX5_copy_112.1, rfl⟩
theorem dX5_copy_115 : Dc mX5_copy 115 (.aload_n 0) 1 116 := ⟨k_dX5_copy_112.2.1, rfl⟩
theorem dX5_copy_116 : Dc mX5_copy 116 (.getfield 50) 3 119 := ⟨k_dX5_copy_112.2.2.1, rfl⟩
theorem dX5_copy_119 : Dc mX5_copy 119 (.invokestatic 74) 3 122 := ⟨k_dX5_copy_112.2.2.2.1, rfl⟩
theorem dX5_copy_122 : Dc mX5_copy 122 (.aload_n 1) 1 123 := ⟨k_dX5_copy_112.2.2.2.2.1, rfl⟩
theorem dX5_copy_123 : Dc mX5_copy 123 (.getfield 53) 3 126 := ⟨k_dX5_copy_112.2.2.2.2.2, rfl⟩
theorem k_dX5_copy_126 : decode (mX5_copy).2.1 126 = .ok ((.aload_n 0), 1) ∧ decode (mX5_copy).2.1 127 = .ok ((.getfield 53), 3) ∧ decode (mX5_copy).2.1 130 = .ok ((.invokestatic 74), 3) ∧ decode (mX5_copy).2.1 133 = .ok ((.aload_n 1), 1) ∧ decode (mX5_copy).2.1 134 = .ok ((.getfield 56), 3) ∧ decode (mX5_copy).2.1 137 = .ok ((.aload_n 0), 1) := by decide +kernel
theorem dX5_copy_126 : Dc mX5_copy 126 (.aload_n 0) 1 127 := ⟨k_dX5_copy_126.1, rfl⟩
theorem dX5_copy_127 : Dc mX5_copy 127 (.getfield 53) 3 130 := ⟨k_dX5_copy_126.2.1, rfl⟩
theorem dX5_copy_130 : Dc mX5_copy 130 (.invokestatic 74) 3 133 := ⟨k_dX5_copy_126.2.2.1, rfl⟩
theorem dX5_copy_133 : Dc mX5_copy 133 (.aload_n 1) 1 134 := ⟨k_dX5_copy_126.2.2.2.1, rfl⟩
theorem dX5_copy_134 : Dc mX5_copy 134 (.getfield 56) 3 137 := ⟨k_dX5_copy_126.2.2.2.2.1, rfl⟩
theorem dX5_copy_137 : Dc mX5_copy 137 (.aload_n 0) 1 138 := ⟨k_dX5_copy_126.2.2.2.2.2, rfl⟩
theorem k_dX5_copy_138 : decode (mX5_copy).2.1 138 = .ok ((.getfield 56), 3) ∧ decode (mX5_copy).2.1 141 = .ok ((.invokestatic 74), 3) ∧ decode (mX5_copy).2.1 144 = .ok ((.return_), 1) := by decide +kernel
theorem dX5_copy_138 : Dc mX5_copy 138 (.getfield 56) 3 141 := ⟨k_dX5_copy_138.1, rfl⟩
theorem dX5_copy_141 : Dc mX5_copy 141 (.invokestatic 74) 3 144 := ⟨k_dX5_copy_138.2.1, rfl⟩
theorem dX5_copy_144 : Dc mX5_copy 144 (.return_) 1 145 := ⟨k_dX5_copy_138.2.2, rfl⟩
theorem k_dX5_wayIn_0 : decode (mX5_wayIn).2.1 0 = .ok ((.aload_n 0), 1) ∧ decode (mX5_wayIn).2.1 1 = .ok ((.getfield 44), 3) ∧ decode (mX5_wayIn).2.1 4 = .ok ((.iload_n 1), 1) ∧ decode (mX5_wayIn).2.1 5 = .ok ((.bipush 6), 2) ∧ decode (mX5_wayIn).2.1 7 = .ok ((.imul), 1) ∧ decode (mX5_wayIn).2.1 8 = .ok ((.iload_n 2), 1) := by decide +kernel
theorem dX5_wayIn_0 : Dc mX5_wayIn 0 (.aload_n 0) 1 1 := ⟨k_dX5_wayIn_0.1, rfl⟩
theorem dX5_wayIn_1 : Dc mX5_wayIn 1 (.getfield 44) 3 4 := ⟨k_dX5_wayIn_0.2.1, rfl⟩
theorem dX5_wayIn_4 : Dc mX5_wayIn 4 (.iload_n 1) 1 5 := ⟨k_dX5_wayIn_0.2.2.1, rfl⟩
theorem dX5_wayIn_5 : Dc mX5_wayIn 5 (.bipush 6) 2 7 := ⟨k_dX5_wayIn_0.2.2.2.1, rfl⟩
theorem dX5_wayIn_7 : Dc mX5_wayIn 7 (.imul) 1 8 := ⟨k_dX5_wayIn_0.2.2.2.2.1, rfl⟩
theorem dX5_wayIn_8 : Dc mX5_wayIn 8 (.iload_n 2) 1 9 := ⟨k_dX5_wayIn_0.2.2.2.2.2, rfl⟩
theorem k_dX5_wayIn_9 : decode (mX5_wayIn).2.1 9 = .ok ((.iadd), 1) ∧ decode (mX5_wayIn).2.1 10 = .ok ((.invokestatic 89), 3) ∧ decode (mX5_wayIn).2.1 13 = .ok ((.ireturn), 1) := by decide +kernel
theorem dX5_wayIn_9 : Dc mX5_wayIn 9 (.iadd) 1 10 := ⟨k_dX5_wayIn_9.1, rfl⟩
theorem dX5_wayIn_10 : Dc mX5_wayIn 10 (.invokestatic 89) 3 13 := ⟨k_dX5_wayIn_9.2.1, rfl⟩
theorem dX5_wayIn_13 : Dc mX5_wayIn 13 (.ireturn) 1 14 := ⟨k_dX5_wayIn_9.2.2, rfl⟩
theorem k_dX5_marksIn_0 : decode (mX5_marksIn).2.1 0 = .ok ((.iconst 0), 1) ∧ decode (mX5_marksIn).2.1 1 = .ok ((.istore_n 2), 1) ∧ decode (mX5_marksIn).2.1 2 = .ok ((.iconst 0), 1) ∧ decode (mX5_marksIn).2.1 3 = .ok ((.istore_n 3), 1) ∧ decode (mX5_marksIn).2.1 4 = .ok ((.iload_n 3), 1) ∧ decode (mX5_marksIn).2.1 5 = .ok ((.bipush 6), 2) := by decide +kernel
theorem dX5_marksIn_0 : Dc mX5_marksIn 0 (.iconst 0) 1 1 := ⟨k_dX5_marksIn_0.1, rfl⟩
theorem dX5_marksIn_1 : Dc mX5_marksIn 1 (.istore_n 2) 1 2 := ⟨k_dX5_marksIn_0.2.1, rfl⟩
theorem dX5_marksIn_2 : Dc mX5_marksIn 2 (.iconst 0) 1 3 := ⟨k_dX5_marksIn_0.2.2.1, rfl⟩
theorem dX5_marksIn_3 : Dc mX5_marksIn 3 (.istore_n 3) 1 4 := ⟨k_dX5_marksIn_0.2.2.2.1, rfl⟩
theorem dX5_marksIn_4 : Dc mX5_marksIn 4 (.iload_n 3) 1 5 := ⟨k_dX5_marksIn_0.2.2.2.2.1, rfl⟩
theorem dX5_marksIn_5 : Dc mX5_marksIn 5 (.bipush 6) 2 7 := ⟨k_dX5_marksIn_0.2.2.2.2.2, rfl⟩
theorem k_dX5_marksIn_7 : decode (mX5_marksIn).2.1 7 = .ok ((.if_icmp .ge 26), 3) ∧ decode (mX5_marksIn).2.1 10 = .ok ((.iload_n 2), 1) ∧ decode (mX5_marksIn).2.1 11 = .ok ((.aload_n 0), 1) ∧ decode (mX5_marksIn).2.1 12 = .ok ((.iload_n 1), 1) ∧ decode (mX5_marksIn).2.1 13 = .ok ((.iload_n 3), 1) ∧ decode (mX5_marksIn).2.1 14 = .ok ((.invokevirtual 93), 3) := by decide +kernel
theorem dX5_marksIn_7 : Dc mX5_marksIn 7 (.if_icmp .ge 26) 3 10 := ⟨k_dX5_marksIn_7.1, rfl⟩
theorem dX5_marksIn_10 : Dc mX5_marksIn 10 (.iload_n 2) 1 11 := ⟨k_dX5_marksIn_7.2.1, rfl⟩
theorem dX5_marksIn_11 : Dc mX5_marksIn 11 (.aload_n 0) 1 12 := ⟨k_dX5_marksIn_7.2.2.1, rfl⟩
theorem dX5_marksIn_12 : Dc mX5_marksIn 12 (.iload_n 1) 1 13 := ⟨k_dX5_marksIn_7.2.2.2.1, rfl⟩
theorem dX5_marksIn_13 : Dc mX5_marksIn 13 (.iload_n 3) 1 14 := ⟨k_dX5_marksIn_7.2.2.2.2.1, rfl⟩
theorem dX5_marksIn_14 : Dc mX5_marksIn 14 (.invokevirtual 93) 3 17 := ⟨k_dX5_marksIn_7.2.2.2.2.2, rfl⟩
theorem k_dX5_marksIn_17 : decode (mX5_marksIn).2.1 17 = .ok ((.ifCond .lt 7), 3) ∧ decode (mX5_marksIn).2.1 20 = .ok ((.iconst 1), 1) ∧ decode (mX5_marksIn).2.1 21 = .ok ((.goto 4), 3) ∧ decode (mX5_marksIn).2.1 24 = .ok ((.iconst 0), 1) ∧ decode (mX5_marksIn).2.1 25 = .ok ((.iadd), 1) ∧ decode (mX5_marksIn).2.1 26 = .ok ((.istore_n 2), 1) := by decide +kernel
theorem dX5_marksIn_17 : Dc mX5_marksIn 17 (.ifCond .lt 7) 3 20 := ⟨k_dX5_marksIn_17.1, rfl⟩
theorem dX5_marksIn_20 : Dc mX5_marksIn 20 (.iconst 1) 1 21 := ⟨k_dX5_marksIn_17.2.1, rfl⟩
theorem dX5_marksIn_21 : Dc mX5_marksIn 21 (.goto 4) 3 24 := ⟨k_dX5_marksIn_17.2.2.1, rfl⟩
theorem dX5_marksIn_24 : Dc mX5_marksIn 24 (.iconst 0) 1 25 := ⟨k_dX5_marksIn_17.2.2.2.1, rfl⟩
theorem dX5_marksIn_25 : Dc mX5_marksIn 25 (.iadd) 1 26 := ⟨k_dX5_marksIn_17.2.2.2.2.1, rfl⟩
theorem dX5_marksIn_26 : Dc mX5_marksIn 26 (.istore_n 2) 1 27 := ⟨k_dX5_marksIn_17.2.2.2.2.2, rfl⟩
theorem k_dX5_marksIn_27 : decode (mX5_marksIn).2.1 27 = .ok ((.iinc 3 1), 3) ∧ decode (mX5_marksIn).2.1 30 = .ok ((.goto (-26)), 3) ∧ decode (mX5_marksIn).2.1 33 = .ok ((.iload_n 2), 1) ∧ decode (mX5_marksIn).2.1 34 = .ok ((.ireturn), 1) := by decide +kernel
theorem dX5_marksIn_27 : Dc mX5_marksIn 27 (.iinc 3 1) 3 30 := ⟨k_dX5_marksIn_27.1, rfl⟩
theorem dX5_marksIn_30 : Dc mX5_marksIn 30 (.goto (-26)) 3 33 := ⟨k_dX5_marksIn_27.2.1, rfl⟩
theorem dX5_marksIn_33 : Dc mX5_marksIn 33 (.iload_n 2) 1 34 := ⟨k_dX5_marksIn_27.2.2.1, rfl⟩
theorem dX5_marksIn_34 : Dc mX5_marksIn 34 (.ireturn) 1 35 := ⟨k_dX5_marksIn_27.2.2.2, rfl⟩
theorem k_dX5_clashing_0 : decode (mX5_clashing).2.1 0 = .ok ((.iconst 0), 1) ∧ decode (mX5_clashing).2.1 1 = .ok ((.istore_n 2), 1) ∧ decode (mX5_clashing).2.1 2 = .ok ((.iconst 0), 1) ∧ decode (mX5_clashing).2.1 3 = .ok ((.istore_n 3), 1) ∧ decode (mX5_clashing).2.1 4 = .ok ((.iload_n 3), 1) ∧ decode (mX5_clashing).2.1 5 = .ok ((.bipush 6), 2) := by decide +kernel
theorem dX5_clashing_0 : Dc mX5_clashing 0 (.iconst 0) 1 1 := ⟨k_dX5_clashing_0.1, rfl⟩
theorem dX5_clashing_1 : Dc mX5_clashing 1 (.istore_n 2) 1 2 := ⟨k_dX5_clashing_0.2.1, rfl⟩
theorem dX5_clashing_2 : Dc mX5_clashing 2 (.iconst 0) 1 3 := ⟨k_dX5_clashing_0.2.2.1, rfl⟩
theorem dX5_clashing_3 : Dc mX5_clashing 3 (.istore_n 3) 1 4 := ⟨k_dX5_clashing_0.2.2.2.1, rfl⟩
theorem dX5_clashing_4 : Dc mX5_clashing 4 (.iload_n 3) 1 5 := ⟨k_dX5_clashing_0.2.2.2.2.1, rfl⟩
theorem dX5_clashing_5 : Dc mX5_clashing 5 (.bipush 6) 2 7 := ⟨k_dX5_clashing_0.2.2.2.2.2, rfl⟩
theorem k_dX5_clashing_7 : decode (mX5_clashing).2.1 7 = .ok ((.if_icmp .ge 52), 3) ∧ decode (mX5_clashing).2.1 10 = .ok ((.aload_n 0), 1) ∧ decode (mX5_clashing).2.1 11 = .ok ((.iload_n 1), 1) ∧ decode (mX5_clashing).2.1 12 = .ok ((.iload_n 3), 1) ∧ decode (mX5_clashing).2.1 13 = .ok ((.invokevirtual 93), 3) ∧ decode (mX5_clashing).2.1 16 = .ok ((.istore 4), 2) := by decide +kernel
theorem dX5_clashing_7 : Dc mX5_clashing 7 (.if_icmp .ge 52) 3 10 := ⟨k_dX5_clashing_7.1, rfl⟩
theorem dX5_clashing_10 : Dc mX5_clashing 10 (.aload_n 0) 1 11 := ⟨k_dX5_clashing_7.2.1, rfl⟩
theorem dX5_clashing_11 : Dc mX5_clashing 11 (.iload_n 1) 1 12 := ⟨k_dX5_clashing_7.2.2.1, rfl⟩
theorem dX5_clashing_12 : Dc mX5_clashing 12 (.iload_n 3) 1 13 := ⟨k_dX5_clashing_7.2.2.2.1, rfl⟩
theorem dX5_clashing_13 : Dc mX5_clashing 13 (.invokevirtual 93) 3 16 := ⟨k_dX5_clashing_7.2.2.2.2.1, rfl⟩
theorem dX5_clashing_16 : Dc mX5_clashing 16 (.istore 4) 2 18 := ⟨k_dX5_clashing_7.2.2.2.2.2, rfl⟩
theorem k_dX5_clashing_18 : decode (mX5_clashing).2.1 18 = .ok ((.aload_n 0), 1) ∧ decode (mX5_clashing).2.1 19 = .ok ((.getfield 47), 3) ∧ decode (mX5_clashing).2.1 22 = .ok ((.iload_n 3), 1) ∧ decode (mX5_clashing).2.1 23 = .ok ((.invokestatic 89), 3) ∧ decode (mX5_clashing).2.1 26 = .ok ((.istore 5), 2) ∧ decode (mX5_clashing).2.1 28 = .ok ((.iload_n 2), 1) := by decide +kernel
theorem dX5_clashing_18 : Dc mX5_clashing 18 (.aload_n 0) 1 19 := ⟨k_dX5_clashing_18.1, rfl⟩
theorem dX5_clashing_19 : Dc mX5_clashing 19 (.getfield 47) 3 22 := ⟨k_dX5_clashing_18.2.1, rfl⟩
theorem dX5_clashing_22 : Dc mX5_clashing 22 (.iload_n 3) 1 23 := ⟨k_dX5_clashing_18.2.2.1, rfl⟩
theorem dX5_clashing_23 : Dc mX5_clashing 23 (.invokestatic 89) 3 26 := ⟨k_dX5_clashing_18.2.2.2.1, rfl⟩
theorem dX5_clashing_26 : Dc mX5_clashing 26 (.istore 5) 2 28 := ⟨k_dX5_clashing_18.2.2.2.2.1, rfl⟩
theorem dX5_clashing_28 : Dc mX5_clashing 28 (.iload_n 2) 1 29 := ⟨k_dX5_clashing_18.2.2.2.2.2, rfl⟩
theorem k_dX5_clashing_29 : decode (mX5_clashing).2.1 29 = .ok ((.iload 4), 2) ∧ decode (mX5_clashing).2.1 31 = .ok ((.ifCond .lt 19), 3) ∧ decode (mX5_clashing).2.1 34 = .ok ((.iload 5), 2) ∧ decode (mX5_clashing).2.1 36 = .ok ((.ifCond .lt 14), 3) ∧ decode (mX5_clashing).2.1 39 = .ok ((.iload 4), 2) ∧ decode (mX5_clashing).2.1 41 = .ok ((.iload 5), 2) := by decide +kernel
theorem dX5_clashing_29 : Dc mX5_clashing 29 (.iload 4) 2 31 := ⟨k_dX5_clashing_29.1, rfl⟩
theorem dX5_clashing_31 : Dc mX5_clashing 31 (.ifCond .lt 19) 3 34 := ⟨k_dX5_clashing_29.2.1, rfl⟩
theorem dX5_clashing_34 : Dc mX5_clashing 34 (.iload 5) 2 36 := ⟨k_dX5_clashing_29.2.2.1, rfl⟩
theorem dX5_clashing_36 : Dc mX5_clashing 36 (.ifCond .lt 14) 3 39 := ⟨k_dX5_clashing_29.2.2.2.1, rfl⟩
theorem dX5_clashing_39 : Dc mX5_clashing 39 (.iload 4) 2 41 := ⟨k_dX5_clashing_29.2.2.2.2.1, rfl⟩
theorem dX5_clashing_41 : Dc mX5_clashing 41 (.iload 5) 2 43 := ⟨k_dX5_clashing_29.2.2.2.2.2, rfl⟩
theorem k_dX5_clashing_43 : decode (mX5_clashing).2.1 43 = .ok ((.if_icmp .eq 7), 3) ∧ decode (mX5_clashing).2.1 46 = .ok ((.iconst 1), 1) ∧ decode (mX5_clashing).2.1 47 = .ok ((.goto 4), 3) ∧ decode (mX5_clashing).2.1 50 = .ok ((.iconst 0), 1) ∧ decode (mX5_clashing).2.1 51 = .ok ((.iadd), 1) ∧ decode (mX5_clashing).2.1 52 = .ok ((.istore_n 2), 1) := by decide +kernel
theorem dX5_clashing_43 : Dc mX5_clashing 43 (.if_icmp .eq 7) 3 46 := ⟨k_dX5_clashing_43.1, rfl⟩
theorem dX5_clashing_46 : Dc mX5_clashing 46 (.iconst 1) 1 47 := ⟨k_dX5_clashing_43.2.1, rfl⟩
theorem dX5_clashing_47 : Dc mX5_clashing 47 (.goto 4) 3 50 := ⟨k_dX5_clashing_43.2.2.1, rfl⟩
theorem dX5_clashing_50 : Dc mX5_clashing 50 (.iconst 0) 1 51 := ⟨k_dX5_clashing_43.2.2.2.1, rfl⟩
theorem dX5_clashing_51 : Dc mX5_clashing 51 (.iadd) 1 52 := ⟨k_dX5_clashing_43.2.2.2.2.1, rfl⟩
theorem dX5_clashing_52 : Dc mX5_clashing 52 (.istore_n 2) 1 53 := ⟨k_dX5_clashing_43.2.2.2.2.2, rfl⟩
theorem k_dX5_clashing_53 : decode (mX5_clashing).2.1 53 = .ok ((.iinc 3 1), 3) ∧ decode (mX5_clashing).2.1 56 = .ok ((.goto (-52)), 3) ∧ decode (mX5_clashing).2.1 59 = .ok ((.iload_n 2), 1) ∧ decode (mX5_clashing).2.1 60 = .ok ((.ireturn), 1) := by decide +kernel
theorem dX5_clashing_53 : Dc mX5_clashing 53 (.iinc 3 1) 3 56 := ⟨k_dX5_clashing_53.1, rfl⟩
theorem dX5_clashing_56 : Dc mX5_clashing 56 (.goto (-52)) 3 59 := ⟨k_dX5_clashing_53.2.1, rfl⟩
theorem dX5_clashing_59 : Dc mX5_clashing 59 (.iload_n 2) 1 60 := ⟨k_dX5_clashing_53.2.2.1, rfl⟩
theorem dX5_clashing_60 : Dc mX5_clashing 60 (.ireturn) 1 61 := ⟨k_dX5_clashing_53.2.2.2, rfl⟩
theorem k_dX5_clashCount_0 : decode (mX5_clashCount).2.1 0 = .ok ((.iconst 0), 1) ∧ decode (mX5_clashCount).2.1 1 = .ok ((.istore_n 1), 1) ∧ decode (mX5_clashCount).2.1 2 = .ok ((.iconst 0), 1) ∧ decode (mX5_clashCount).2.1 3 = .ok ((.istore_n 2), 1) ∧ decode (mX5_clashCount).2.1 4 = .ok ((.iload_n 2), 1) ∧ decode (mX5_clashCount).2.1 5 = .ok ((.bipush 8), 2) := by decide +kernel
theorem dX5_clashCount_0 : Dc mX5_clashCount 0 (.iconst 0) 1 1 := ⟨k_dX5_clashCount_0.1, rfl⟩
theorem dX5_clashCount_1 : Dc mX5_clashCount 1 (.istore_n 1) 1 2 := ⟨k_dX5_clashCount_0.2.1, rfl⟩
theorem dX5_clashCount_2 : Dc mX5_clashCount 2 (.iconst 0) 1 3 := ⟨k_dX5_clashCount_0.2.2.1, rfl⟩
theorem dX5_clashCount_3 : Dc mX5_clashCount 3 (.istore_n 2) 1 4 := ⟨k_dX5_clashCount_0.2.2.2.1, rfl⟩
theorem dX5_clashCount_4 : Dc mX5_clashCount 4 (.iload_n 2) 1 5 := ⟨k_dX5_clashCount_0.2.2.2.2.1, rfl⟩
theorem dX5_clashCount_5 : Dc mX5_clashCount 5 (.bipush 8) 2 7 := ⟨k_dX5_clashCount_0.2.2.2.2.2, rfl⟩
theorem k_dX5_clashCount_7 : decode (mX5_clashCount).2.1 7 = .ok ((.if_icmp .ge 32), 3) ∧ decode (mX5_clashCount).2.1 10 = .ok ((.iload_n 1), 1) ∧ decode (mX5_clashCount).2.1 11 = .ok ((.aload_n 0), 1) ∧ decode (mX5_clashCount).2.1 12 = .ok ((.getfield 38), 3) ∧ decode (mX5_clashCount).2.1 15 = .ok ((.iload_n 2), 1) ∧ decode (mX5_clashCount).2.1 16 = .ok ((.invokestatic 89), 3) := by decide +kernel
theorem dX5_clashCount_7 : Dc mX5_clashCount 7 (.if_icmp .ge 32) 3 10 := ⟨k_dX5_clashCount_7.1, rfl⟩
theorem dX5_clashCount_10 : Dc mX5_clashCount 10 (.iload_n 1) 1 11 := ⟨k_dX5_clashCount_7.2.1, rfl⟩
theorem dX5_clashCount_11 : Dc mX5_clashCount 11 (.aload_n 0) 1 12 := ⟨k_dX5_clashCount_7.2.2.1, rfl⟩
theorem dX5_clashCount_12 : Dc mX5_clashCount 12 (.getfield 38) 3 15 := ⟨k_dX5_clashCount_7.2.2.2.1, rfl⟩
theorem dX5_clashCount_15 : Dc mX5_clashCount 15 (.iload_n 2) 1 16 := ⟨k_dX5_clashCount_7.2.2.2.2.1, rfl⟩
theorem dX5_clashCount_16 : Dc mX5_clashCount 16 (.invokestatic 89) 3 19 := ⟨k_dX5_clashCount_7.2.2.2.2.2, rfl⟩
theorem k_dX5_clashCount_19 : decode (mX5_clashCount).2.1 19 = .ok ((.ifCond .eq 11), 3) ∧ decode (mX5_clashCount).2.1 22 = .ok ((.aload_n 0), 1) ∧ decode (mX5_clashCount).2.1 23 = .ok ((.iload_n 2), 1) ∧ decode (mX5_clashCount).2.1 24 = .ok ((.invokevirtual 97), 3) ∧ decode (mX5_clashCount).2.1 27 = .ok ((.goto 4), 3) ∧ decode (mX5_clashCount).2.1 30 = .ok ((.iconst 0), 1) := by decide +kernel
theorem dX5_clashCount_19 : Dc mX5_clashCount 19 (.ifCond .eq 11) 3 22 := ⟨k_dX5_clashCount_19.1, rfl⟩
theorem dX5_clashCount_22 : Dc mX5_clashCount 22 (.aload_n 0) 1 23 := ⟨k_dX5_clashCount_19.2.1, rfl⟩
theorem dX5_clashCount_23 : Dc mX5_clashCount 23 (.iload_n 2) 1 24 := ⟨k_dX5_clashCount_19.2.2.1, rfl⟩
theorem dX5_clashCount_24 : Dc mX5_clashCount 24 (.invokevirtual 97) 3 27 := ⟨k_dX5_clashCount_19.2.2.2.1, rfl⟩
theorem dX5_clashCount_27 : Dc mX5_clashCount 27 (.goto 4) 3 30 := ⟨k_dX5_clashCount_19.2.2.2.2.1, rfl⟩
theorem dX5_clashCount_30 : Dc mX5_clashCount 30 (.iconst 0) 1 31 := ⟨k_dX5_clashCount_19.2.2.2.2.2, rfl⟩
theorem k_dX5_clashCount_31 : decode (mX5_clashCount).2.1 31 = .ok ((.iadd), 1) ∧ decode (mX5_clashCount).2.1 32 = .ok ((.istore_n 1), 1) ∧ decode (mX5_clashCount).2.1 33 = .ok ((.iinc 2 1), 3) ∧ decode (mX5_clashCount).2.1 36 = .ok ((.goto (-32)), 3) ∧ decode (mX5_clashCount).2.1 39 = .ok ((.iload_n 1), 1) ∧ decode (mX5_clashCount).2.1 40 = .ok ((.ireturn), 1) := by decide +kernel
theorem dX5_clashCount_31 : Dc mX5_clashCount 31 (.iadd) 1 32 := ⟨k_dX5_clashCount_31.1, rfl⟩
theorem dX5_clashCount_32 : Dc mX5_clashCount 32 (.istore_n 1) 1 33 := ⟨k_dX5_clashCount_31.2.1, rfl⟩
theorem dX5_clashCount_33 : Dc mX5_clashCount 33 (.iinc 2 1) 3 36 := ⟨k_dX5_clashCount_31.2.2.1, rfl⟩
theorem dX5_clashCount_36 : Dc mX5_clashCount 36 (.goto (-32)) 3 39 := ⟨k_dX5_clashCount_31.2.2.2.1, rfl⟩
theorem dX5_clashCount_39 : Dc mX5_clashCount 39 (.iload_n 1) 1 40 := ⟨k_dX5_clashCount_31.2.2.2.2.1, rfl⟩
theorem dX5_clashCount_40 : Dc mX5_clashCount 40 (.ireturn) 1 41 := ⟨k_dX5_clashCount_31.2.2.2.2.2, rfl⟩
theorem k_dX5_filmedCount_0 : decode (mX5_filmedCount).2.1 0 = .ok ((.iconst 0), 1) ∧ decode (mX5_filmedCount).2.1 1 = .ok ((.istore_n 1), 1) ∧ decode (mX5_filmedCount).2.1 2 = .ok ((.iconst 0), 1) ∧ decode (mX5_filmedCount).2.1 3 = .ok ((.istore_n 2), 1) ∧ decode (mX5_filmedCount).2.1 4 = .ok ((.iload_n 2), 1) ∧ decode (mX5_filmedCount).2.1 5 = .ok ((.bipush 8), 2) := by decide +kernel
theorem dX5_filmedCount_0 : Dc mX5_filmedCount 0 (.iconst 0) 1 1 := ⟨k_dX5_filmedCount_0.1, rfl⟩
theorem dX5_filmedCount_1 : Dc mX5_filmedCount 1 (.istore_n 1) 1 2 := ⟨k_dX5_filmedCount_0.2.1, rfl⟩
theorem dX5_filmedCount_2 : Dc mX5_filmedCount 2 (.iconst 0) 1 3 := ⟨k_dX5_filmedCount_0.2.2.1, rfl⟩
theorem dX5_filmedCount_3 : Dc mX5_filmedCount 3 (.istore_n 2) 1 4 := ⟨k_dX5_filmedCount_0.2.2.2.1, rfl⟩
theorem dX5_filmedCount_4 : Dc mX5_filmedCount 4 (.iload_n 2) 1 5 := ⟨k_dX5_filmedCount_0.2.2.2.2.1, rfl⟩
theorem dX5_filmedCount_5 : Dc mX5_filmedCount 5 (.bipush 8) 2 7 := ⟨k_dX5_filmedCount_0.2.2.2.2.2, rfl⟩
theorem k_dX5_filmedCount_7 : decode (mX5_filmedCount).2.1 7 = .ok ((.if_icmp .ge 20), 3) ∧ decode (mX5_filmedCount).2.1 10 = .ok ((.iload_n 1), 1) ∧ decode (mX5_filmedCount).2.1 11 = .ok ((.aload_n 0), 1) ∧ decode (mX5_filmedCount).2.1 12 = .ok ((.getfield 38), 3) ∧ decode (mX5_filmedCount).2.1 15 = .ok ((.iload_n 2), 1) ∧ decode (mX5_filmedCount).2.1 16 = .ok ((.invokestatic 89), 3) := by decide +kernel
theorem dX5_filmedCount_7 : Dc mX5_filmedCount 7 (.if_icmp .ge 20) 3 10 := ⟨k_dX5_filmedCount_7.1, rfl⟩
theorem dX5_filmedCount_10 : Dc mX5_filmedCount 10 (.iload_n 1) 1 11 := ⟨k_dX5_filmedCount_7.2.1, rfl⟩
theorem dX5_filmedCount_11 : Dc mX5_filmedCount 11 (.aload_n 0) 1 12 := ⟨k_dX5_filmedCount_7.2.2.1, rfl⟩
theorem dX5_filmedCount_12 : Dc mX5_filmedCount 12 (.getfield 38) 3 15 := ⟨k_dX5_filmedCount_7.2.2.2.1, rfl⟩
theorem dX5_filmedCount_15 : Dc mX5_filmedCount 15 (.iload_n 2) 1 16 := ⟨k_dX5_filmedCount_7.2.2.2.2.1, rfl⟩
theorem dX5_filmedCount_16 : Dc mX5_filmedCount 16 (.invokestatic 89) 3 19 := ⟨k_dX5_filmedCount_7.2.2.2.2.2, rfl⟩
theorem k_dX5_filmedCount_19 : decode (mX5_filmedCount).2.1 19 = .ok ((.iadd), 1) ∧ decode (mX5_filmedCount).2.1 20 = .ok ((.istore_n 1), 1) ∧ decode (mX5_filmedCount).2.1 21 = .ok ((.iinc 2 1), 3) ∧ decode (mX5_filmedCount).2.1 24 = .ok ((.goto (-20)), 3) ∧ decode (mX5_filmedCount).2.1 27 = .ok ((.iload_n 1), 1) ∧ decode (mX5_filmedCount).2.1 28 = .ok ((.ireturn), 1) := by decide +kernel
theorem dX5_filmedCount_19 : Dc mX5_filmedCount 19 (.iadd) 1 20 := ⟨k_dX5_filmedCount_19.1, rfl⟩
theorem dX5_filmedCount_20 : Dc mX5_filmedCount 20 (.istore_n 1) 1 21 := ⟨k_dX5_filmedCount_19.2.1, rfl⟩
theorem dX5_filmedCount_21 : Dc mX5_filmedCount 21 (.iinc 2 1) 3 24 := ⟨k_dX5_filmedCount_19.2.2.1, rfl⟩
theorem dX5_filmedCount_24 : Dc mX5_filmedCount 24 (.goto (-20)) 3 27 := ⟨k_dX5_filmedCount_19.2.2.2.1, rfl⟩
theorem dX5_filmedCount_27 : Dc mX5_filmedCount 27 (.iload_n 1) 1 28 := ⟨k_dX5_filmedCount_19.2.2.2.2.1, rfl⟩
theorem dX5_filmedCount_28 : Dc mX5_filmedCount 28 (.ireturn) 1 29 := ⟨k_dX5_filmedCount_19.2.2.2.2.2, rfl⟩
theorem k_dX5_filmedWith_0 : decode (mX5_filmedWith).2.1 0 = .ok ((.iconst 0), 1) ∧ decode (mX5_filmedWith).2.1 1 = .ok ((.istore_n 3), 1) ∧ decode (mX5_filmedWith).2.1 2 = .ok ((.iconst 0), 1) ∧ decode (mX5_filmedWith).2.1 3 = .ok ((.istore 4), 2) ∧ decode (mX5_filmedWith).2.1 5 = .ok ((.iload 4), 2) ∧ decode (mX5_filmedWith).2.1 7 = .ok ((.bipush 8), 2) := by decide +kernel
theorem dX5_filmedWith_0 : Dc mX5_filmedWith 0 (.iconst 0) 1 1 := ⟨k_dX5_filmedWith_0.1, rfl⟩
theorem dX5_filmedWith_1 : Dc mX5_filmedWith 1 (.istore_n 3) 1 2 := ⟨k_dX5_filmedWith_0.2.1, rfl⟩
theorem dX5_filmedWith_2 : Dc mX5_filmedWith 2 (.iconst 0) 1 3 := ⟨k_dX5_filmedWith_0.2.2.1, rfl⟩
theorem dX5_filmedWith_3 : Dc mX5_filmedWith 3 (.istore 4) 2 5 := ⟨k_dX5_filmedWith_0.2.2.2.1, rfl⟩
theorem dX5_filmedWith_5 : Dc mX5_filmedWith 5 (.iload 4) 2 7 := ⟨k_dX5_filmedWith_0.2.2.2.2.1, rfl⟩
theorem dX5_filmedWith_7 : Dc mX5_filmedWith 7 (.bipush 8) 2 9 := ⟨k_dX5_filmedWith_0.2.2.2.2.2, rfl⟩
theorem k_dX5_filmedWith_9 : decode (mX5_filmedWith).2.1 9 = .ok ((.if_icmp .ge 45), 3) ∧ decode (mX5_filmedWith).2.1 12 = .ok ((.iload_n 3), 1) ∧ decode (mX5_filmedWith).2.1 13 = .ok ((.iload 4), 2) ∧ decode (mX5_filmedWith).2.1 15 = .ok ((.iload_n 2), 1) ∧ decode (mX5_filmedWith).2.1 16 = .ok ((.if_icmp .eq 29), 3) ∧ decode (mX5_filmedWith).2.1 19 = .ok ((.aload_n 0), 1) := by decide +kernel
theorem dX5_filmedWith_9 : Dc mX5_filmedWith 9 (.if_icmp .ge 45) 3 12 := ⟨k_dX5_filmedWith_9.1, rfl⟩
theorem dX5_filmedWith_12 : Dc mX5_filmedWith 12 (.iload_n 3) 1 13 := ⟨k_dX5_filmedWith_9.2.1, rfl⟩
theorem dX5_filmedWith_13 : Dc mX5_filmedWith 13 (.iload 4) 2 15 := ⟨k_dX5_filmedWith_9.2.2.1, rfl⟩
theorem dX5_filmedWith_15 : Dc mX5_filmedWith 15 (.iload_n 2) 1 16 := ⟨k_dX5_filmedWith_9.2.2.2.1, rfl⟩
theorem dX5_filmedWith_16 : Dc mX5_filmedWith 16 (.if_icmp .eq 29) 3 19 := ⟨k_dX5_filmedWith_9.2.2.2.2.1, rfl⟩
theorem dX5_filmedWith_19 : Dc mX5_filmedWith 19 (.aload_n 0) 1 20 := ⟨k_dX5_filmedWith_9.2.2.2.2.2, rfl⟩
theorem k_dX5_filmedWith_20 : decode (mX5_filmedWith).2.1 20 = .ok ((.getfield 38), 3) ∧ decode (mX5_filmedWith).2.1 23 = .ok ((.iload 4), 2) ∧ decode (mX5_filmedWith).2.1 25 = .ok ((.invokestatic 89), 3) ∧ decode (mX5_filmedWith).2.1 28 = .ok ((.ifCond .eq 17), 3) ∧ decode (mX5_filmedWith).2.1 31 = .ok ((.aload_n 0), 1) ∧ decode (mX5_filmedWith).2.1 32 = .ok ((.iload 4), 2) := by decide +kernel
theorem dX5_filmedWith_20 : Dc mX5_filmedWith 20 (.getfield 38) 3 23 := ⟨k_dX5_filmedWith_20.1, rfl⟩
theorem dX5_filmedWith_23 : Dc mX5_filmedWith 23 (.iload 4) 2 25 := ⟨k_dX5_filmedWith_20.2.1, rfl⟩
theorem dX5_filmedWith_25 : Dc mX5_filmedWith 25 (.invokestatic 89) 3 28 := ⟨k_dX5_filmedWith_20.2.2.1, rfl⟩
theorem dX5_filmedWith_28 : Dc mX5_filmedWith 28 (.ifCond .eq 17) 3 31 := ⟨k_dX5_filmedWith_20.2.2.2.1, rfl⟩
theorem dX5_filmedWith_31 : Dc mX5_filmedWith 31 (.aload_n 0) 1 32 := ⟨k_dX5_filmedWith_20.2.2.2.2.1, rfl⟩
theorem dX5_filmedWith_32 : Dc mX5_filmedWith 32 (.iload 4) 2 34 := ⟨k_dX5_filmedWith_20.2.2.2.2.2, rfl⟩
theorem k_dX5_filmedWith_34 : decode (mX5_filmedWith).2.1 34 = .ok ((.iload_n 1), 1) ∧ decode (mX5_filmedWith).2.1 35 = .ok ((.invokevirtual 93), 3) ∧ decode (mX5_filmedWith).2.1 38 = .ok ((.ifCond .lt 7), 3) ∧ decode (mX5_filmedWith).2.1 41 = .ok ((.iconst 1), 1) ∧ decode (mX5_filmedWith).2.1 42 = .ok ((.goto 4), 3) ∧ decode (mX5_filmedWith).2.1 45 = .ok ((.iconst 0), 1) := by decide +kernel
theorem dX5_filmedWith_34 : Dc mX5_filmedWith 34 (.iload_n 1) 1 35 := ⟨k_dX5_filmedWith_34.1, rfl⟩
theorem dX5_filmedWith_35 : Dc mX5_filmedWith 35 (.invokevirtual 93) 3 38 := ⟨k_dX5_filmedWith_34.2.1, rfl⟩
theorem dX5_filmedWith_38 : Dc mX5_filmedWith 38 (.ifCond .lt 7) 3 41 := ⟨k_dX5_filmedWith_34.2.2.1, rfl⟩
theorem dX5_filmedWith_41 : Dc mX5_filmedWith 41 (.iconst 1) 1 42 := ⟨k_dX5_filmedWith_34.2.2.2.1, rfl⟩
theorem dX5_filmedWith_42 : Dc mX5_filmedWith 42 (.goto 4) 3 45 := ⟨k_dX5_filmedWith_34.2.2.2.2.1, rfl⟩
theorem dX5_filmedWith_45 : Dc mX5_filmedWith 45 (.iconst 0) 1 46 := ⟨k_dX5_filmedWith_34.2.2.2.2.2, rfl⟩
theorem k_dX5_filmedWith_46 : decode (mX5_filmedWith).2.1 46 = .ok ((.iadd), 1) ∧ decode (mX5_filmedWith).2.1 47 = .ok ((.istore_n 3), 1) ∧ decode (mX5_filmedWith).2.1 48 = .ok ((.iinc 4 1), 3) ∧ decode (mX5_filmedWith).2.1 51 = .ok ((.goto (-46)), 3) ∧ decode (mX5_filmedWith).2.1 54 = .ok ((.iload_n 3), 1) ∧ decode (mX5_filmedWith).2.1 55 = .ok ((.ireturn), 1) := by decide +kernel
theorem dX5_filmedWith_46 : Dc mX5_filmedWith 46 (.iadd) 1 47 := ⟨k_dX5_filmedWith_46.1, rfl⟩
theorem dX5_filmedWith_47 : Dc mX5_filmedWith 47 (.istore_n 3) 1 48 := ⟨k_dX5_filmedWith_46.2.1, rfl⟩
theorem dX5_filmedWith_48 : Dc mX5_filmedWith 48 (.iinc 4 1) 3 51 := ⟨k_dX5_filmedWith_46.2.2.1, rfl⟩
theorem dX5_filmedWith_51 : Dc mX5_filmedWith 51 (.goto (-46)) 3 54 := ⟨k_dX5_filmedWith_46.2.2.2.1, rfl⟩
theorem dX5_filmedWith_54 : Dc mX5_filmedWith 54 (.iload_n 3) 1 55 := ⟨k_dX5_filmedWith_46.2.2.2.2.1, rfl⟩
theorem dX5_filmedWith_55 : Dc mX5_filmedWith 55 (.ireturn) 1 56 := ⟨k_dX5_filmedWith_46.2.2.2.2.2, rfl⟩
theorem k_dX5_givenCount_0 : decode (mX5_givenCount).2.1 0 = .ok ((.iconst 0), 1) ∧ decode (mX5_givenCount).2.1 1 = .ok ((.istore_n 1), 1) ∧ decode (mX5_givenCount).2.1 2 = .ok ((.iconst 0), 1) ∧ decode (mX5_givenCount).2.1 3 = .ok ((.istore_n 2), 1) ∧ decode (mX5_givenCount).2.1 4 = .ok ((.iload_n 2), 1) ∧ decode (mX5_givenCount).2.1 5 = .ok ((.bipush 6), 2) := by decide +kernel
theorem dX5_givenCount_0 : Dc mX5_givenCount 0 (.iconst 0) 1 1 := ⟨k_dX5_givenCount_0.1, rfl⟩
theorem dX5_givenCount_1 : Dc mX5_givenCount 1 (.istore_n 1) 1 2 := ⟨k_dX5_givenCount_0.2.1, rfl⟩
theorem dX5_givenCount_2 : Dc mX5_givenCount 2 (.iconst 0) 1 3 := ⟨k_dX5_givenCount_0.2.2.1, rfl⟩
theorem dX5_givenCount_3 : Dc mX5_givenCount 3 (.istore_n 2) 1 4 := ⟨k_dX5_givenCount_0.2.2.2.1, rfl⟩
theorem dX5_givenCount_4 : Dc mX5_givenCount 4 (.iload_n 2) 1 5 := ⟨k_dX5_givenCount_0.2.2.2.2.1, rfl⟩
theorem dX5_givenCount_5 : Dc mX5_givenCount 5 (.bipush 6) 2 7 := ⟨k_dX5_givenCount_0.2.2.2.2.2, rfl⟩
theorem k_dX5_givenCount_7 : decode (mX5_givenCount).2.1 7 = .ok ((.if_icmp .ge 20), 3) ∧ decode (mX5_givenCount).2.1 10 = .ok ((.iload_n 1), 1) ∧ decode (mX5_givenCount).2.1 11 = .ok ((.aload_n 0), 1) ∧ decode (mX5_givenCount).2.1 12 = .ok ((.getfield 50), 3) ∧ decode (mX5_givenCount).2.1 15 = .ok ((.iload_n 2), 1) ∧ decode (mX5_givenCount).2.1 16 = .ok ((.invokestatic 89), 3) := by decide +kernel
theorem dX5_givenCount_7 : Dc mX5_givenCount 7 (.if_icmp .ge 20) 3 10 := ⟨k_dX5_givenCount_7.1, rfl⟩
theorem dX5_givenCount_10 : Dc mX5_givenCount 10 (.iload_n 1) 1 11 := ⟨k_dX5_givenCount_7.2.1, rfl⟩
theorem dX5_givenCount_11 : Dc mX5_givenCount 11 (.aload_n 0) 1 12 := ⟨k_dX5_givenCount_7.2.2.1, rfl⟩
theorem dX5_givenCount_12 : Dc mX5_givenCount 12 (.getfield 50) 3 15 := ⟨k_dX5_givenCount_7.2.2.2.1, rfl⟩
theorem dX5_givenCount_15 : Dc mX5_givenCount 15 (.iload_n 2) 1 16 := ⟨k_dX5_givenCount_7.2.2.2.2.1, rfl⟩
theorem dX5_givenCount_16 : Dc mX5_givenCount 16 (.invokestatic 89) 3 19 := ⟨k_dX5_givenCount_7.2.2.2.2.2, rfl⟩
theorem k_dX5_givenCount_19 : decode (mX5_givenCount).2.1 19 = .ok ((.iadd), 1) ∧ decode (mX5_givenCount).2.1 20 = .ok ((.istore_n 1), 1) ∧ decode (mX5_givenCount).2.1 21 = .ok ((.iinc 2 1), 3) ∧ decode (mX5_givenCount).2.1 24 = .ok ((.goto (-20)), 3) ∧ decode (mX5_givenCount).2.1 27 = .ok ((.iload_n 1), 1) ∧ decode (mX5_givenCount).2.1 28 = .ok ((.ireturn), 1) := by decide +kernel
theorem dX5_givenCount_19 : Dc mX5_givenCount 19 (.iadd) 1 20 := ⟨k_dX5_givenCount_19.1, rfl⟩
theorem dX5_givenCount_20 : Dc mX5_givenCount 20 (.istore_n 1) 1 21 := ⟨k_dX5_givenCount_19.2.1, rfl⟩
theorem dX5_givenCount_21 : Dc mX5_givenCount 21 (.iinc 2 1) 3 24 := ⟨k_dX5_givenCount_19.2.2.1, rfl⟩
theorem dX5_givenCount_24 : Dc mX5_givenCount 24 (.goto (-20)) 3 27 := ⟨k_dX5_givenCount_19.2.2.2.1, rfl⟩
theorem dX5_givenCount_27 : Dc mX5_givenCount 27 (.iload_n 1) 1 28 := ⟨k_dX5_givenCount_19.2.2.2.2.1, rfl⟩
theorem dX5_givenCount_28 : Dc mX5_givenCount 28 (.ireturn) 1 29 := ⟨k_dX5_givenCount_19.2.2.2.2.2, rfl⟩
theorem k_dX5_breaksBehind_0 : decode (mX5_breaksBehind).2.1 0 = .ok ((.iconst 0), 1) ∧ decode (mX5_breaksBehind).2.1 1 = .ok ((.istore_n 2), 1) ∧ decode (mX5_breaksBehind).2.1 2 = .ok ((.aload_n 0), 1) ∧ decode (mX5_breaksBehind).2.1 3 = .ok ((.getfield 38), 3) ∧ decode (mX5_breaksBehind).2.1 6 = .ok ((.iload_n 1), 1) ∧ decode (mX5_breaksBehind).2.1 7 = .ok ((.invokestatic 89), 3) := by decide +kernel
theorem dX5_breaksBehind_0 : Dc mX5_breaksBehind 0 (.iconst 0) 1 1 := ⟨k_dX5_breaksBehind_0.1, rfl⟩
theorem dX5_breaksBehind_1 : Dc mX5_breaksBehind 1 (.istore_n 2) 1 2 := ⟨k_dX5_breaksBehind_0.2.1, rfl⟩
theorem dX5_breaksBehind_2 : Dc mX5_breaksBehind 2 (.aload_n 0) 1 3 := ⟨k_dX5_breaksBehind_0.2.2.1, rfl⟩
theorem dX5_breaksBehind_3 : Dc mX5_breaksBehind 3 (.getfield 38) 3 6 := ⟨k_dX5_breaksBehind_0.2.2.2.1, rfl⟩
theorem dX5_breaksBehind_6 : Dc mX5_breaksBehind 6 (.iload_n 1) 1 7 := ⟨k_dX5_breaksBehind_0.2.2.2.2.1, rfl⟩
theorem dX5_breaksBehind_7 : Dc mX5_breaksBehind 7 (.invokestatic 89) 3 10 := ⟨k_dX5_breaksBehind_0.2.2.2.2.2, rfl⟩
theorem k_dX5_breaksBehind_10 : decode (mX5_breaksBehind).2.1 10 = .ok ((.ifCond .eq 73), 3) ∧ decode (mX5_breaksBehind).2.1 13 = .ok ((.aload_n 0), 1) ∧ decode (mX5_breaksBehind).2.1 14 = .ok ((.getfield 38), 3) ∧ decode (mX5_breaksBehind).2.1 17 = .ok ((.iload_n 1), 1) ∧ decode (mX5_breaksBehind).2.1 18 = .ok ((.iconst 1), 1) ∧ decode (mX5_breaksBehind).2.1 19 = .ok ((.iadd), 1) := by decide +kernel
theorem dX5_breaksBehind_10 : Dc mX5_breaksBehind 10 (.ifCond .eq 73) 3 13 := ⟨k_dX5_breaksBehind_10.1, rfl⟩
theorem dX5_breaksBehind_13 : Dc mX5_breaksBehind 13 (.aload_n 0) 1 14 := ⟨k_dX5_breaksBehind_10.2.1, rfl⟩
theorem dX5_breaksBehind_14 : Dc mX5_breaksBehind 14 (.getfield 38) 3 17 := ⟨k_dX5_breaksBehind_10.2.2.1, rfl⟩
theorem dX5_breaksBehind_17 : Dc mX5_breaksBehind 17 (.iload_n 1) 1 18 := ⟨k_dX5_breaksBehind_10.2.2.2.1, rfl⟩
theorem dX5_breaksBehind_18 : Dc mX5_breaksBehind 18 (.iconst 1) 1 19 := ⟨k_dX5_breaksBehind_10.2.2.2.2.1, rfl⟩
theorem dX5_breaksBehind_19 : Dc mX5_breaksBehind 19 (.iadd) 1 20 := ⟨k_dX5_breaksBehind_10.2.2.2.2.2, rfl⟩
theorem k_dX5_breaksBehind_20 : decode (mX5_breaksBehind).2.1 20 = .ok ((.invokestatic 89), 3) ∧ decode (mX5_breaksBehind).2.1 23 = .ok ((.ifCond .eq 60), 3) ∧ decode (mX5_breaksBehind).2.1 26 = .ok ((.iconst 0), 1) ∧ decode (mX5_breaksBehind).2.1 27 = .ok ((.istore_n 3), 1) ∧ decode (mX5_breaksBehind).2.1 28 = .ok ((.iload_n 3), 1) ∧ decode (mX5_breaksBehind).2.1 29 = .ok ((.bipush 6), 2) := by decide +kernel
theorem dX5_breaksBehind_20 : Dc mX5_breaksBehind 20 (.invokestatic 89) 3 23 := ⟨k_dX5_breaksBehind_20.1, rfl⟩
theorem dX5_breaksBehind_23 : Dc mX5_breaksBehind 23 (.ifCond .eq 60) 3 26 := ⟨k_dX5_breaksBehind_20.2.1, rfl⟩
theorem dX5_breaksBehind_26 : Dc mX5_breaksBehind 26 (.iconst 0) 1 27 := ⟨k_dX5_breaksBehind_20.2.2.1, rfl⟩
theorem dX5_breaksBehind_27 : Dc mX5_breaksBehind 27 (.istore_n 3) 1 28 := ⟨k_dX5_breaksBehind_20.2.2.2.1, rfl⟩
theorem dX5_breaksBehind_28 : Dc mX5_breaksBehind 28 (.iload_n 3) 1 29 := ⟨k_dX5_breaksBehind_20.2.2.2.2.1, rfl⟩
theorem dX5_breaksBehind_29 : Dc mX5_breaksBehind 29 (.bipush 6) 2 31 := ⟨k_dX5_breaksBehind_20.2.2.2.2.2, rfl⟩
theorem k_dX5_breaksBehind_31 : decode (mX5_breaksBehind).2.1 31 = .ok ((.if_icmp .ge 52), 3) ∧ decode (mX5_breaksBehind).2.1 34 = .ok ((.aload_n 0), 1) ∧ decode (mX5_breaksBehind).2.1 35 = .ok ((.iload_n 1), 1) ∧ decode (mX5_breaksBehind).2.1 36 = .ok ((.iload_n 3), 1) ∧ decode (mX5_breaksBehind).2.1 37 = .ok ((.invokevirtual 93), 3) ∧ decode (mX5_breaksBehind).2.1 40 = .ok ((.istore 4), 2) := by decide +kernel
theorem dX5_breaksBehind_31 : Dc mX5_breaksBehind 31 (.if_icmp .ge 52) 3 34 := ⟨k_dX5_breaksBehind_31.1, rfl⟩
theorem dX5_breaksBehind_34 : Dc mX5_breaksBehind 34 (.aload_n 0) 1 35 := ⟨k_dX5_breaksBehind_31.2.1, rfl⟩
theorem dX5_breaksBehind_35 : Dc mX5_breaksBehind 35 (.iload_n 1) 1 36 := ⟨k_dX5_breaksBehind_31.2.2.1, rfl⟩
theorem dX5_breaksBehind_36 : Dc mX5_breaksBehind 36 (.iload_n 3) 1 37 := ⟨k_dX5_breaksBehind_31.2.2.2.1, rfl⟩
theorem dX5_breaksBehind_37 : Dc mX5_breaksBehind 37 (.invokevirtual 93) 3 40 := ⟨k_dX5_breaksBehind_31.2.2.2.2.1, rfl⟩
theorem dX5_breaksBehind_40 : Dc mX5_breaksBehind 40 (.istore 4) 2 42 := ⟨k_dX5_breaksBehind_31.2.2.2.2.2, rfl⟩
theorem k_dX5_breaksBehind_42 : decode (mX5_breaksBehind).2.1 42 = .ok ((.aload_n 0), 1) ∧ decode (mX5_breaksBehind).2.1 43 = .ok ((.iload_n 1), 1) ∧ decode (mX5_breaksBehind).2.1 44 = .ok ((.iconst 1), 1) ∧ decode (mX5_breaksBehind).2.1 45 = .ok ((.iadd), 1) ∧ decode (mX5_breaksBehind).2.1 46 = .ok ((.iload_n 3), 1) ∧ decode (mX5_breaksBehind).2.1 47 = .ok ((.invokevirtual 93), 3) := by decide +kernel
theorem dX5_breaksBehind_42 : Dc mX5_breaksBehind 42 (.aload_n 0) 1 43 := ⟨k_dX5_breaksBehind_42.1, rfl⟩
theorem dX5_breaksBehind_43 : Dc mX5_breaksBehind 43 (.iload_n 1) 1 44 := ⟨k_dX5_breaksBehind_42.2.1, rfl⟩
theorem dX5_breaksBehind_44 : Dc mX5_breaksBehind 44 (.iconst 1) 1 45 := ⟨k_dX5_breaksBehind_42.2.2.1, rfl⟩
theorem dX5_breaksBehind_45 : Dc mX5_breaksBehind 45 (.iadd) 1 46 := ⟨k_dX5_breaksBehind_42.2.2.2.1, rfl⟩
theorem dX5_breaksBehind_46 : Dc mX5_breaksBehind 46 (.iload_n 3) 1 47 := ⟨k_dX5_breaksBehind_42.2.2.2.2.1, rfl⟩
theorem dX5_breaksBehind_47 : Dc mX5_breaksBehind 47 (.invokevirtual 93) 3 50 := ⟨k_dX5_breaksBehind_42.2.2.2.2.2, rfl⟩
theorem k_dX5_breaksBehind_50 : decode (mX5_breaksBehind).2.1 50 = .ok ((.istore 5), 2) ∧ decode (mX5_breaksBehind).2.1 52 = .ok ((.iload_n 2), 1) ∧ decode (mX5_breaksBehind).2.1 53 = .ok ((.iload 4), 2) ∧ decode (mX5_breaksBehind).2.1 55 = .ok ((.ifCond .lt 19), 3) ∧ decode (mX5_breaksBehind).2.1 58 = .ok ((.iload 5), 2) ∧ decode (mX5_breaksBehind).2.1 60 = .ok ((.ifCond .lt 14), 3) := by decide +kernel
theorem dX5_breaksBehind_50 : Dc mX5_breaksBehind 50 (.istore 5) 2 52 := ⟨k_dX5_breaksBehind_50.1, rfl⟩
theorem dX5_breaksBehind_52 : Dc mX5_breaksBehind 52 (.iload_n 2) 1 53 := ⟨k_dX5_breaksBehind_50.2.1, rfl⟩
theorem dX5_breaksBehind_53 : Dc mX5_breaksBehind 53 (.iload 4) 2 55 := ⟨k_dX5_breaksBehind_50.2.2.1, rfl⟩
theorem dX5_breaksBehind_55 : Dc mX5_breaksBehind 55 (.ifCond .lt 19) 3 58 := ⟨k_dX5_breaksBehind_50.2.2.2.1, rfl⟩
theorem dX5_breaksBehind_58 : Dc mX5_breaksBehind 58 (.iload 5) 2 60 := ⟨k_dX5_breaksBehind_50.2.2.2.2.1, rfl⟩
theorem dX5_breaksBehind_60 : Dc mX5_breaksBehind 60 (.ifCond .lt 14) 3 63 := ⟨k_dX5_breaksBehind_50.2.2.2.2.2, rfl⟩
theorem k_dX5_breaksBehind_63 : decode (mX5_breaksBehind).2.1 63 = .ok ((.iload 4), 2) ∧ decode (mX5_breaksBehind).2.1 65 = .ok ((.iload 5), 2) ∧ decode (mX5_breaksBehind).2.1 67 = .ok ((.if_icmp .eq 7), 3) ∧ decode (mX5_breaksBehind).2.1 70 = .ok ((.iconst 1), 1) ∧ decode (mX5_breaksBehind).2.1 71 = .ok ((.goto 4), 3) ∧ decode (mX5_breaksBehind).2.1 74 = .ok ((.iconst 0), 1) := by decide +kernel
theorem dX5_breaksBehind_63 : Dc mX5_breaksBehind 63 (.iload 4) 2 65 := ⟨k_dX5_breaksBehind_63.1, rfl⟩
theorem dX5_breaksBehind_65 : Dc mX5_breaksBehind 65 (.iload 5) 2 67 := ⟨k_dX5_breaksBehind_63.2.1, rfl⟩
theorem dX5_breaksBehind_67 : Dc mX5_breaksBehind 67 (.if_icmp .eq 7) 3 70 := ⟨k_dX5_breaksBehind_63.2.2.1, rfl⟩
theorem dX5_breaksBehind_70 : Dc mX5_breaksBehind 70 (.iconst 1) 1 71 := ⟨k_dX5_breaksBehind_63.2.2.2.1, rfl⟩
theorem dX5_breaksBehind_71 : Dc mX5_breaksBehind 71 (.goto 4) 3 74 := ⟨k_dX5_breaksBehind_63.2.2.2.2.1, rfl⟩
theorem dX5_breaksBehind_74 : Dc mX5_breaksBehind 74 (.iconst 0) 1 75 := ⟨k_dX5_breaksBehind_63.2.2.2.2.2, rfl⟩
theorem k_dX5_breaksBehind_75 : decode (mX5_breaksBehind).2.1 75 = .ok ((.iadd), 1) ∧ decode (mX5_breaksBehind).2.1 76 = .ok ((.istore_n 2), 1) ∧ decode (mX5_breaksBehind).2.1 77 = .ok ((.iinc 3 1), 3) ∧ decode (mX5_breaksBehind).2.1 80 = .ok ((.goto (-52)), 3) ∧ decode (mX5_breaksBehind).2.1 83 = .ok ((.iload_n 2), 1) ∧ decode (mX5_breaksBehind).2.1 84 = .ok ((.ireturn), 1) := by decide +kernel
theorem dX5_breaksBehind_75 : Dc mX5_breaksBehind 75 (.iadd) 1 76 := ⟨k_dX5_breaksBehind_75.1, rfl⟩
theorem dX5_breaksBehind_76 : Dc mX5_breaksBehind 76 (.istore_n 2) 1 77 := ⟨k_dX5_breaksBehind_75.2.1, rfl⟩
theorem dX5_breaksBehind_77 : Dc mX5_breaksBehind 77 (.iinc 3 1) 3 80 := ⟨k_dX5_breaksBehind_75.2.2.1, rfl⟩
theorem dX5_breaksBehind_80 : Dc mX5_breaksBehind 80 (.goto (-52)) 3 83 := ⟨k_dX5_breaksBehind_75.2.2.2.1, rfl⟩
theorem dX5_breaksBehind_83 : Dc mX5_breaksBehind 83 (.iload_n 2) 1 84 := ⟨k_dX5_breaksBehind_75.2.2.2.2.1, rfl⟩
theorem dX5_breaksBehind_84 : Dc mX5_breaksBehind 84 (.ireturn) 1 85 := ⟨k_dX5_breaksBehind_75.2.2.2.2.2, rfl⟩
theorem k_dX5_breakCount_0 : decode (mX5_breakCount).2.1 0 = .ok ((.iconst 0), 1) ∧ decode (mX5_breakCount).2.1 1 = .ok ((.istore_n 1), 1) ∧ decode (mX5_breakCount).2.1 2 = .ok ((.iconst 0), 1) ∧ decode (mX5_breakCount).2.1 3 = .ok ((.istore_n 2), 1) ∧ decode (mX5_breakCount).2.1 4 = .ok ((.iload_n 2), 1) ∧ decode (mX5_breakCount).2.1 5 = .ok ((.bipush 7), 2) := by decide +kernel
theorem dX5_breakCount_0 : Dc mX5_breakCount 0 (.iconst 0) 1 1 := ⟨k_dX5_breakCount_0.1, rfl⟩
theorem dX5_breakCount_1 : Dc mX5_breakCount 1 (.istore_n 1) 1 2 := ⟨k_dX5_breakCount_0.2.1, rfl⟩
theorem dX5_breakCount_2 : Dc mX5_breakCount 2 (.iconst 0) 1 3 := ⟨k_dX5_breakCount_0.2.2.1, rfl⟩
theorem dX5_breakCount_3 : Dc mX5_breakCount 3 (.istore_n 2) 1 4 := ⟨k_dX5_breakCount_0.2.2.2.1, rfl⟩
theorem dX5_breakCount_4 : Dc mX5_breakCount 4 (.iload_n 2) 1 5 := ⟨k_dX5_breakCount_0.2.2.2.2.1, rfl⟩
theorem dX5_breakCount_5 : Dc mX5_breakCount 5 (.bipush 7) 2 7 := ⟨k_dX5_breakCount_0.2.2.2.2.2, rfl⟩
theorem k_dX5_breakCount_7 : decode (mX5_breakCount).2.1 7 = .ok ((.if_icmp .ge 17), 3) ∧ decode (mX5_breakCount).2.1 10 = .ok ((.iload_n 1), 1) ∧ decode (mX5_breakCount).2.1 11 = .ok ((.aload_n 0), 1) ∧ decode (mX5_breakCount).2.1 12 = .ok ((.iload_n 2), 1) ∧ decode (mX5_breakCount).2.1 13 = .ok ((.invokevirtual 101), 3) ∧ decode (mX5_breakCount).2.1 16 = .ok ((.iadd), 1) := by decide +kernel
theorem dX5_breakCount_7 : Dc mX5_breakCount 7 (.if_icmp .ge 17) 3 10 := ⟨k_dX5_breakCount_7.1, rfl⟩
theorem dX5_breakCount_10 : Dc mX5_breakCount 10 (.iload_n 1) 1 11 := ⟨k_dX5_breakCount_7.2.1, rfl⟩
theorem dX5_breakCount_11 : Dc mX5_breakCount 11 (.aload_n 0) 1 12 := ⟨k_dX5_breakCount_7.2.2.1, rfl⟩
theorem dX5_breakCount_12 : Dc mX5_breakCount 12 (.iload_n 2) 1 13 := ⟨k_dX5_breakCount_7.2.2.2.1, rfl⟩
theorem dX5_breakCount_13 : Dc mX5_breakCount 13 (.invokevirtual 101) 3 16 := ⟨k_dX5_breakCount_7.2.2.2.2.1, rfl⟩
theorem dX5_breakCount_16 : Dc mX5_breakCount 16 (.iadd) 1 17 := ⟨k_dX5_breakCount_7.2.2.2.2.2, rfl⟩
theorem k_dX5_breakCount_17 : decode (mX5_breakCount).2.1 17 = .ok ((.istore_n 1), 1) ∧ decode (mX5_breakCount).2.1 18 = .ok ((.iinc 2 1), 3) ∧ decode (mX5_breakCount).2.1 21 = .ok ((.goto (-17)), 3) ∧ decode (mX5_breakCount).2.1 24 = .ok ((.iload_n 1), 1) ∧ decode (mX5_breakCount).2.1 25 = .ok ((.ireturn), 1) := by decide +kernel
theorem dX5_breakCount_17 : Dc mX5_breakCount 17 (.istore_n 1) 1 18 := ⟨k_dX5_breakCount_17.1, rfl⟩
theorem dX5_breakCount_18 : Dc mX5_breakCount 18 (.iinc 2 1) 3 21 := ⟨k_dX5_breakCount_17.2.1, rfl⟩
theorem dX5_breakCount_21 : Dc mX5_breakCount 21 (.goto (-17)) 3 24 := ⟨k_dX5_breakCount_17.2.2.1, rfl⟩
theorem dX5_breakCount_24 : Dc mX5_breakCount 24 (.iload_n 1) 1 25 := ⟨k_dX5_breakCount_17.2.2.2.1, rfl⟩
theorem dX5_breakCount_25 : Dc mX5_breakCount 25 (.ireturn) 1 26 := ⟨k_dX5_breakCount_17.2.2.2.2, rfl⟩
theorem k_dX6_init_0 : decode (mX6_init).2.1 0 = .ok ((.aload_n 0), 1) ∧ decode (mX6_init).2.1 1 = .ok ((.invokespecial 3), 3) ∧ decode (mX6_init).2.1 4 = .ok ((.aload_n 0), 1) ∧ decode (mX6_init).2.1 5 = .ok ((.iconst 0), 1) ∧ decode (mX6_init).2.1 6 = .ok ((.putfield 9), 3) ∧ decode (mX6_init).2.1 9 = .ok ((.aload_n 0), 1) := by decide +kernel
theorem dX6_init_0 : Dc mX6_init 0 (.aload_n 0) 1 1 := ⟨k_dX6_init_0.1, rfl⟩
theorem dX6_init_1 : Dc mX6_init 1 (.invokespecial 3) 3 4 := ⟨k_dX6_init_0.2.1, rfl⟩
theorem dX6_init_4 : Dc mX6_init 4 (.aload_n 0) 1 5 := ⟨k_dX6_init_0.2.2.1, rfl⟩
theorem dX6_init_5 : Dc mX6_init 5 (.iconst 0) 1 6 := ⟨k_dX6_init_0.2.2.2.1, rfl⟩
theorem dX6_init_6 : Dc mX6_init 6 (.putfield 9) 3 9 := ⟨k_dX6_init_0.2.2.2.2.1, rfl⟩
theorem dX6_init_9 : Dc mX6_init 9 (.aload_n 0) 1 10 := ⟨k_dX6_init_0.2.2.2.2.2, rfl⟩
theorem k_dX6_init_10 : decode (mX6_init).2.1 10 = .ok ((.iconst (-1)), 1) ∧ decode (mX6_init).2.1 11 = .ok ((.putfield 15), 3) ∧ decode (mX6_init).2.1 14 = .ok ((.aload_n 0), 1) ∧ decode (mX6_init).2.1 15 = .ok ((.bipush 24), 2) ∧ decode (mX6_init).2.1 17 = .ok ((.newarray .int), 2) ∧ decode (mX6_init).2.1 19 = .ok ((.putfield 18), 3) := by decide +kernel
theorem dX6_init_10 : Dc mX6_init 10 (.iconst (-1)) 1 11 := ⟨k_dX6_init_10.1, rfl⟩
theorem dX6_init_11 : Dc mX6_init 11 (.putfield 15) 3 14 := ⟨k_dX6_init_10.2.1, rfl⟩
theorem dX6_init_14 : Dc mX6_init 14 (.aload_n 0) 1 15 := ⟨k_dX6_init_10.2.2.1, rfl⟩
theorem dX6_init_15 : Dc mX6_init 15 (.bipush 24) 2 17 := ⟨k_dX6_init_10.2.2.2.1, rfl⟩
theorem dX6_init_17 : Dc mX6_init 17 (.newarray .int) 2 19 := ⟨k_dX6_init_10.2.2.2.2.1, rfl⟩
theorem dX6_init_19 : Dc mX6_init 19 (.putfield 18) 3 22 := ⟨k_dX6_init_10.2.2.2.2.2, rfl⟩
theorem k_dX6_init_22 : decode (mX6_init).2.1 22 = .ok ((.aload_n 0), 1) ∧ decode (mX6_init).2.1 23 = .ok ((.bipush 24), 2) ∧ decode (mX6_init).2.1 25 = .ok ((.newarray .int), 2) ∧ decode (mX6_init).2.1 27 = .ok ((.putfield 22), 3) ∧ decode (mX6_init).2.1 30 = .ok ((.aload_n 0), 1) ∧ decode (mX6_init).2.1 31 = .ok ((.bipush 24), 2) := by decide +kernel
theorem dX6_init_22 : Dc mX6_init 22 (.aload_n 0) 1 23 := ⟨k_dX6_init_22.1, rfl⟩
theorem dX6_init_23 : Dc mX6_init 23 (.bipush 24) 2 25 := ⟨k_dX6_init_22.2.1, rfl⟩
theorem dX6_init_25 : Dc mX6_init 25 (.newarray .int) 2 27 := ⟨k_dX6_init_22.2.2.1, rfl⟩
theorem dX6_init_27 : Dc mX6_init 27 (.putfield 22) 3 30 := ⟨k_dX6_init_22.2.2.2.1, rfl⟩
theorem dX6_init_30 : Dc mX6_init 30 (.aload_n 0) 1 31 := ⟨k_dX6_init_22.2.2.2.2.1, rfl⟩
theorem dX6_init_31 : Dc mX6_init 31 (.bipush 24) 2 33 := ⟨k_dX6_init_22.2.2.2.2.2, rfl⟩
theorem k_dX6_init_33 : decode (mX6_init).2.1 33 = .ok ((.newarray .int), 2) ∧ decode (mX6_init).2.1 35 = .ok ((.putfield 25), 3) ∧ decode (mX6_init).2.1 38 = .ok ((.return_), 1) := by decide +kernel
theorem dX6_init_33 : Dc mX6_init 33 (.newarray .int) 2 35 := ⟨k_dX6_init_33.1, rfl⟩
theorem dX6_init_35 : Dc mX6_init 35 (.putfield 25) 3 38 := ⟨k_dX6_init_33.2.1, rfl⟩
theorem dX6_init_38 : Dc mX6_init 38 (.return_) 1 39 := ⟨k_dX6_init_33.2.2, rfl⟩
theorem k_dX6_clear_0 : decode (mX6_clear).2.1 0 = .ok ((.aload_n 0), 1) ∧ decode (mX6_clear).2.1 1 = .ok ((.iconst 0), 1) ∧ decode (mX6_clear).2.1 2 = .ok ((.putfield 9), 3) ∧ decode (mX6_clear).2.1 5 = .ok ((.aload_n 0), 1) ∧ decode (mX6_clear).2.1 6 = .ok ((.iconst (-1)), 1) ∧ decode (mX6_clear).2.1 7 = .ok ((.putfield 15), 3) := by decide +kernel
theorem dX6_clear_0 : Dc mX6_clear 0 (.aload_n 0) 1 1 := ⟨k_dX6_clear_0.1, rfl⟩
theorem dX6_clear_1 : Dc mX6_clear 1 (.iconst 0) 1 2 := ⟨k_dX6_clear_0.2.1, rfl⟩
theorem dX6_clear_2 : Dc mX6_clear 2 (.putfield 9) 3 5 := ⟨k_dX6_clear_0.2.2.1, rfl⟩
theorem dX6_clear_5 : Dc mX6_clear 5 (.aload_n 0) 1 6 := ⟨k_dX6_clear_0.2.2.2.1, rfl⟩
theorem dX6_clear_6 : Dc mX6_clear 6 (.iconst (-1)) 1 7 := ⟨k_dX6_clear_0.2.2.2.2.1, rfl⟩
theorem dX6_clear_7 : Dc mX6_clear 7 (.putfield 15) 3 10 := ⟨k_dX6_clear_0.2.2.2.2.2, rfl⟩
theorem dX6_clear_10 : Dc mX6_clear 10 (.return_) 1 11 := ⟨by decide +kernel, rfl⟩
theorem k_dX6_add_0 : decode (mX6_add).2.1 0 = .ok ((.aload_n 0), 1) ∧ decode (mX6_add).2.1 1 = .ok ((.getfield 9), 3) ∧ decode (mX6_add).2.1 4 = .ok ((.bipush 24), 2) ∧ decode (mX6_add).2.1 6 = .ok ((.if_icmp .lt 5), 3) ∧ decode (mX6_add).2.1 9 = .ok ((.iconst (-1)), 1) ∧ decode (mX6_add).2.1 10 = .ok ((.ireturn), 1) := by decide +kernel
theorem dX6_add_0 : Dc mX6_add 0 (.aload_n 0) 1 1 := ⟨k_dX6_add_0.1, rfl⟩
theorem dX6_add_1 : Dc mX6_add 1 (.getfield 9) 3 4 := ⟨k_dX6_add_0.2.1, rfl⟩
theorem dX6_add_4 : Dc mX6_add 4 (.bipush 24) 2 6 := ⟨k_dX6_add_0.2.2.1, rfl⟩
theorem dX6_add_6 : Dc mX6_add 6 (.if_icmp .lt 5) 3 9 := ⟨k_dX6_add_0.2.2.2.1, rfl⟩
theorem dX6_add_9 : Dc mX6_add 9 (.iconst (-1)) 1 10 := ⟨k_dX6_add_0.2.2.2.2.1, rfl⟩
theorem dX6_add_10 : Dc mX6_add 10 (.ireturn) 1 11 := ⟨k_dX6_add_0.2.2.2.2.2, rfl⟩
theorem k_dX6_add_11 : decode (mX6_add).2.1 11 = .ok ((.aload_n 0), 1) ∧ decode (mX6_add).2.1 12 = .ok ((.getfield 18), 3) ∧ decode (mX6_add).2.1 15 = .ok ((.aload_n 0), 1) ∧ decode (mX6_add).2.1 16 = .ok ((.getfield 9), 3) ∧ decode (mX6_add).2.1 19 = .ok ((.iload_n 1), 1) ∧ decode (mX6_add).2.1 20 = .ok ((.invokestatic 28), 3) := by decide +kernel
theorem dX6_add_11 : Dc mX6_add 11 (.aload_n 0) 1 12 := ⟨k_dX6_add_11.1, rfl⟩
theorem dX6_add_12 : Dc mX6_add 12 (.getfield 18) 3 15 := ⟨k_dX6_add_11.2.1, rfl⟩
theorem dX6_add_15 : Dc mX6_add 15 (.aload_n 0) 1 16 := ⟨k_dX6_add_11.2.2.1, rfl⟩
theorem dX6_add_16 : Dc mX6_add 16 (.getfield 9) 3 19 := ⟨k_dX6_add_11.2.2.2.1, rfl⟩
theorem dX6_add_19 : Dc mX6_add 19 (.iload_n 1) 1 20 := ⟨k_dX6_add_11.2.2.2.2.1, rfl⟩
theorem dX6_add_20 : Dc mX6_add 20 (.invokestatic 28) 3 23 := ⟨k_dX6_add_11.2.2.2.2.2, rfl⟩
theorem k_dX6_add_23 : decode (mX6_add).2.1 23 = .ok ((.aload_n 0), 1) ∧ decode (mX6_add).2.1 24 = .ok ((.getfield 22), 3) ∧ decode (mX6_add).2.1 27 = .ok ((.aload_n 0), 1) ∧ decode (mX6_add).2.1 28 = .ok ((.getfield 9), 3) ∧ decode (mX6_add).2.1 31 = .ok ((.iload_n 2), 1) ∧ decode (mX6_add).2.1 32 = .ok ((.invokestatic 28), 3) := by decide +kernel
theorem dX6_add_23 : Dc mX6_add 23 (.aload_n 0) 1 24 := ⟨k_dX6_add_23.1, rfl⟩
theorem dX6_add_24 : Dc mX6_add 24 (.getfield 22) 3 27 := ⟨k_dX6_add_23.2.1, rfl⟩
theorem dX6_add_27 : Dc mX6_add 27 (.aload_n 0) 1 28 := ⟨k_dX6_add_23.2.2.1, rfl⟩
theorem dX6_add_28 : Dc mX6_add 28 (.getfield 9) 3 31 := ⟨k_dX6_add_23.2.2.2.1, rfl⟩
theorem dX6_add_31 : Dc mX6_add 31 (.iload_n 2) 1 32 := ⟨k_dX6_add_23.2.2.2.2.1, rfl⟩
theorem dX6_add_32 : Dc mX6_add 32 (.invokestatic 28) 3 35 := ⟨k_dX6_add_23.2.2.2.2.2, rfl⟩
theorem k_dX6_add_35 : decode (mX6_add).2.1 35 = .ok ((.aload_n 0), 1) ∧ decode (mX6_add).2.1 36 = .ok ((.getfield 25), 3) ∧ decode (mX6_add).2.1 39 = .ok ((.aload_n 0), 1) ∧ decode (mX6_add).2.1 40 = .ok ((.getfield 9), 3) ∧ decode (mX6_add).2.1 43 = .ok ((.iload_n 3), 1) ∧ decode (mX6_add).2.1 44 = .ok ((.invokestatic 28), 3) := by decide +kernel
theorem dX6_add_35 : Dc mX6_add 35 (.aload_n 0) 1 36 := ⟨k_dX6_add_35.1, rfl⟩
theorem dX6_add_36 : Dc mX6_add 36 (.getfield 25) 3 39 := ⟨k_dX6_add_35.2.1, rfl⟩
theorem dX6_add_39 : Dc mX6_add 39 (.aload_n 0) 1 40 := ⟨k_dX6_add_35.2.2.1, rfl⟩
theorem dX6_add_40 : Dc mX6_add 40 (.getfield 9) 3 43 := ⟨k_dX6_add_35.2.2.2.1, rfl⟩
theorem dX6_add_43 : Dc mX6_add 43 (.iload_n 3) 1 44 := ⟨k_dX6_add_35.2.2.2.2.1, rfl⟩
theorem dX6_add_44 : Dc mX6_add 44 (.invokestatic 28) 3 47 := ⟨k_dX6_add_35.2.2.2.2.2, rfl⟩
theorem k_dX6_add_47 : decode (mX6_add).2.1 47 = .ok ((.aload_n 0), 1) ∧ decode (mX6_add).2.1 48 = .ok ((.dup), 1) ∧ decode (mX6_add).2.1 49 = .ok ((.getfield 9), 3) ∧ decode (mX6_add).2.1 52 = .ok ((.iconst 1), 1) ∧ decode (mX6_add).2.1 53 = .ok ((.iadd), 1) ∧ decode (mX6_add).2.1 54 = .ok ((.putfield 9), 3) := by decide +kernel
theorem dX6_add_47 : Dc mX6_add 47 (.aload_n 0) 1 48 := ⟨k_dX6_add_47.1, rfl⟩
theorem dX6_add_48 : Dc mX6_add 48 (.dup) 1 49 := ⟨k_dX6_add_47.2.1, rfl⟩
theorem dX6_add_49 : Dc mX6_add 49 (.getfield 9) 3 52 := ⟨k_dX6_add_47.2.2.1, rfl⟩
theorem dX6_add_52 : Dc mX6_add 52 (.iconst 1) 1 53 := ⟨k_dX6_add_47.2.2.2.1, rfl⟩
theorem dX6_add_53 : Dc mX6_add 53 (.iadd) 1 54 := ⟨k_dX6_add_47.2.2.2.2.1, rfl⟩
theorem dX6_add_54 : Dc mX6_add 54 (.putfield 9) 3 57 := ⟨k_dX6_add_47.2.2.2.2.2, rfl⟩
theorem k_dX6_add_57 : decode (mX6_add).2.1 57 = .ok ((.aload_n 0), 1) ∧ decode (mX6_add).2.1 58 = .ok ((.getfield 9), 3) ∧ decode (mX6_add).2.1 61 = .ok ((.iconst 1), 1) ∧ decode (mX6_add).2.1 62 = .ok ((.isub), 1) ∧ decode (mX6_add).2.1 63 = .ok ((.ireturn), 1) := by decide +kernel
theorem dX6_add_57 : Dc mX6_add 57 (.aload_n 0) 1 58 := ⟨k_dX6_add_57.1, rfl⟩
theorem dX6_add_58 : Dc mX6_add 58 (.getfield 9) 3 61 := ⟨k_dX6_add_57.2.1, rfl⟩
theorem dX6_add_61 : Dc mX6_add 61 (.iconst 1) 1 62 := ⟨k_dX6_add_57.2.2.1, rfl⟩
theorem dX6_add_62 : Dc mX6_add 62 (.isub) 1 63 := ⟨k_dX6_add_57.2.2.2.1, rfl⟩
theorem dX6_add_63 : Dc mX6_add 63 (.ireturn) 1 64 := ⟨k_dX6_add_57.2.2.2.2, rfl⟩
theorem k_dX6_knownCount_0 : decode (mX6_knownCount).2.1 0 = .ok ((.aload_n 0), 1) ∧ decode (mX6_knownCount).2.1 1 = .ok ((.getfield 15), 3) ∧ decode (mX6_knownCount).2.1 4 = .ok ((.ifCond .ge 10), 3) ∧ decode (mX6_knownCount).2.1 7 = .ok ((.aload_n 0), 1) ∧ decode (mX6_knownCount).2.1 8 = .ok ((.getfield 9), 3) ∧ decode (mX6_knownCount).2.1 11 = .ok ((.goto 7), 3) := by decide +kernel
theorem dX6_knownCount_0 : Dc mX6_knownCount 0 (.aload_n 0) 1 1 := ⟨k_dX6_knownCount_0.1, rfl⟩
theorem dX6_knownCount_1 : Dc mX6_knownCount 1 (.getfield 15) 3 4 := ⟨k_dX6_knownCount_0.2.1, rfl⟩
theorem dX6_knownCount_4 : Dc mX6_knownCount 4 (.ifCond .ge 10) 3 7 := ⟨k_dX6_knownCount_0.2.2.1, rfl⟩
theorem dX6_knownCount_7 : Dc mX6_knownCount 7 (.aload_n 0) 1 8 := ⟨k_dX6_knownCount_0.2.2.2.1, rfl⟩
theorem dX6_knownCount_8 : Dc mX6_knownCount 8 (.getfield 9) 3 11 := ⟨k_dX6_knownCount_0.2.2.2.2.1, rfl⟩
theorem dX6_knownCount_11 : Dc mX6_knownCount 11 (.goto 7) 3 14 := ⟨k_dX6_knownCount_0.2.2.2.2.2, rfl⟩
theorem k_dX6_knownCount_14 : decode (mX6_knownCount).2.1 14 = .ok ((.aload_n 0), 1) ∧ decode (mX6_knownCount).2.1 15 = .ok ((.getfield 15), 3) ∧ decode (mX6_knownCount).2.1 18 = .ok ((.ireturn), 1) := by decide +kernel
theorem dX6_knownCount_14 : Dc mX6_knownCount 14 (.aload_n 0) 1 15 := ⟨k_dX6_knownCount_14.1, rfl⟩
theorem dX6_knownCount_15 : Dc mX6_knownCount 15 (.getfield 15) 3 18 := ⟨k_dX6_knownCount_14.2.1, rfl⟩
theorem dX6_knownCount_18 : Dc mX6_knownCount 18 (.ireturn) 1 19 := ⟨k_dX6_knownCount_14.2.2, rfl⟩
theorem k_dX6_knownOnes_0 : decode (mX6_knownOnes).2.1 0 = .ok ((.iconst 0), 1) ∧ decode (mX6_knownOnes).2.1 1 = .ok ((.istore_n 1), 1) ∧ decode (mX6_knownOnes).2.1 2 = .ok ((.iconst 0), 1) ∧ decode (mX6_knownOnes).2.1 3 = .ok ((.istore_n 2), 1) ∧ decode (mX6_knownOnes).2.1 4 = .ok ((.aload_n 0), 1) ∧ decode (mX6_knownOnes).2.1 5 = .ok ((.invokevirtual 32), 3) := by decide +kernel
theorem dX6_knownOnes_0 : Dc mX6_knownOnes 0 (.iconst 0) 1 1 := ⟨k_dX6_knownOnes_0.1, rfl⟩
theorem dX6_knownOnes_1 : Dc mX6_knownOnes 1 (.istore_n 1) 1 2 := ⟨k_dX6_knownOnes_0.2.1, rfl⟩
theorem dX6_knownOnes_2 : Dc mX6_knownOnes 2 (.iconst 0) 1 3 := ⟨k_dX6_knownOnes_0.2.2.1, rfl⟩
theorem dX6_knownOnes_3 : Dc mX6_knownOnes 3 (.istore_n 2) 1 4 := ⟨k_dX6_knownOnes_0.2.2.2.1, rfl⟩
theorem dX6_knownOnes_4 : Dc mX6_knownOnes 4 (.aload_n 0) 1 5 := ⟨k_dX6_knownOnes_0.2.2.2.2.1, rfl⟩
theorem dX6_knownOnes_5 : Dc mX6_knownOnes 5 (.invokevirtual 32) 3 8 := ⟨k_dX6_knownOnes_0.2.2.2.2.2, rfl⟩
theorem k_dX6_knownOnes_8 : decode (mX6_knownOnes).2.1 8 = .ok ((.iconst 1), 1) ∧ decode (mX6_knownOnes).2.1 9 = .ok ((.isub), 1) ∧ decode (mX6_knownOnes).2.1 10 = .ok ((.istore_n 3), 1) ∧ decode (mX6_knownOnes).2.1 11 = .ok ((.iload_n 3), 1) ∧ decode (mX6_knownOnes).2.1 12 = .ok ((.ifCond .lt 67), 3) ∧ decode (mX6_knownOnes).2.1 15 = .ok ((.iload_n 1), 1) := by decide +kernel
theorem dX6_knownOnes_8 : Dc mX6_knownOnes 8 (.iconst 1) 1 9 := ⟨k_dX6_knownOnes_8.1, rfl⟩
theorem dX6_knownOnes_9 : Dc mX6_knownOnes 9 (.isub) 1 10 := ⟨k_dX6_knownOnes_8.2.1, rfl⟩
theorem dX6_knownOnes_10 : Dc mX6_knownOnes 10 (.istore_n 3) 1 11 := ⟨k_dX6_knownOnes_8.2.2.1, rfl⟩
theorem dX6_knownOnes_11 : Dc mX6_knownOnes 11 (.iload_n 3) 1 12 := ⟨k_dX6_knownOnes_8.2.2.2.1, rfl⟩
theorem dX6_knownOnes_12 : Dc mX6_knownOnes 12 (.ifCond .lt 67) 3 15 := ⟨k_dX6_knownOnes_8.2.2.2.2.1, rfl⟩
theorem dX6_knownOnes_15 : Dc mX6_knownOnes 15 (.iload_n 1) 1 16 := ⟨k_dX6_knownOnes_8.2.2.2.2.2, rfl⟩
theorem k_dX6_knownOnes_16 : decode (mX6_knownOnes).2.1 16 = .ok ((.iload_n 3), 1) ∧ decode (mX6_knownOnes).2.1 17 = .ok ((.ishr), 1) ∧ decode (mX6_knownOnes).2.1 18 = .ok ((.iconst 1), 1) ∧ decode (mX6_knownOnes).2.1 19 = .ok ((.iand), 1) ∧ decode (mX6_knownOnes).2.1 20 = .ok ((.ifCond .ne 7), 3) ∧ decode (mX6_knownOnes).2.1 23 = .ok ((.iconst 1), 1) := by decide +kernel
theorem dX6_knownOnes_16 : Dc mX6_knownOnes 16 (.iload_n 3) 1 17 := ⟨k_dX6_knownOnes_16.1, rfl⟩
theorem dX6_knownOnes_17 : Dc mX6_knownOnes 17 (.ishr) 1 18 := ⟨k_dX6_knownOnes_16.2.1, rfl⟩
theorem dX6_knownOnes_18 : Dc mX6_knownOnes 18 (.iconst 1) 1 19 := ⟨k_dX6_knownOnes_16.2.2.1, rfl⟩
theorem dX6_knownOnes_19 : Dc mX6_knownOnes 19 (.iand) 1 20 := ⟨k_dX6_knownOnes_16.2.2.2.1, rfl⟩
theorem dX6_knownOnes_20 : Dc mX6_knownOnes 20 (.ifCond .ne 7) 3 23 := ⟨k_dX6_knownOnes_16.2.2.2.2.1, rfl⟩
theorem dX6_knownOnes_23 : Dc mX6_knownOnes 23 (.iconst 1) 1 24 := ⟨k_dX6_knownOnes_16.2.2.2.2.2, rfl⟩
theorem k_dX6_knownOnes_24 : decode (mX6_knownOnes).2.1 24 = .ok ((.goto 4), 3) ∧ decode (mX6_knownOnes).2.1 27 = .ok ((.iconst 0), 1) ∧ decode (mX6_knownOnes).2.1 28 = .ok ((.istore 4), 2) ∧ decode (mX6_knownOnes).2.1 30 = .ok ((.iload 4), 2) ∧ decode (mX6_knownOnes).2.1 32 = .ok ((.ifCond .eq 30), 3) ∧ decode (mX6_knownOnes).2.1 35 = .ok ((.aload_n 0), 1) := by decide +kernel
theorem dX6_knownOnes_24 : Dc mX6_knownOnes 24 (.goto 4) 3 27 := ⟨k_dX6_knownOnes_24.1, rfl⟩
theorem dX6_knownOnes_27 : Dc mX6_knownOnes 27 (.iconst 0) 1 28 := ⟨k_dX6_knownOnes_24.2.1, rfl⟩
theorem dX6_knownOnes_28 : Dc mX6_knownOnes 28 (.istore 4) 2 30 := ⟨k_dX6_knownOnes_24.2.2.1, rfl⟩
theorem dX6_knownOnes_30 : Dc mX6_knownOnes 30 (.iload 4) 2 32 := ⟨k_dX6_knownOnes_24.2.2.2.1, rfl⟩
theorem dX6_knownOnes_32 : Dc mX6_knownOnes 32 (.ifCond .eq 30) 3 35 := ⟨k_dX6_knownOnes_24.2.2.2.2.1, rfl⟩
theorem dX6_knownOnes_35 : Dc mX6_knownOnes 35 (.aload_n 0) 1 36 := ⟨k_dX6_knownOnes_24.2.2.2.2.2, rfl⟩
theorem k_dX6_knownOnes_36 : decode (mX6_knownOnes).2.1 36 = .ok ((.getfield 18), 3) ∧ decode (mX6_knownOnes).2.1 39 = .ok ((.iload_n 3), 1) ∧ decode (mX6_knownOnes).2.1 40 = .ok ((.invokestatic 36), 3) ∧ decode (mX6_knownOnes).2.1 43 = .ok ((.ifCond .ne 19), 3) ∧ decode (mX6_knownOnes).2.1 46 = .ok ((.iload_n 1), 1) ∧ decode (mX6_knownOnes).2.1 47 = .ok ((.iconst 1), 1) := by decide +kernel
theorem dX6_knownOnes_36 : Dc mX6_knownOnes 36 (.getfield 18) 3 39 := ⟨k_dX6_knownOnes_36.1, rfl⟩
theorem dX6_knownOnes_39 : Dc mX6_knownOnes 39 (.iload_n 3) 1 40 := ⟨k_dX6_knownOnes_36.2.1, rfl⟩
theorem dX6_knownOnes_40 : Dc mX6_knownOnes 40 (.invokestatic 36) 3 43 := ⟨k_dX6_knownOnes_36.2.2.1, rfl⟩
theorem dX6_knownOnes_43 : Dc mX6_knownOnes 43 (.ifCond .ne 19) 3 46 := ⟨k_dX6_knownOnes_36.2.2.2.1, rfl⟩
theorem dX6_knownOnes_46 : Dc mX6_knownOnes 46 (.iload_n 1) 1 47 := ⟨k_dX6_knownOnes_36.2.2.2.2.1, rfl⟩
theorem dX6_knownOnes_47 : Dc mX6_knownOnes 47 (.iconst 1) 1 48 := ⟨k_dX6_knownOnes_36.2.2.2.2.2, rfl⟩
theorem k_dX6_knownOnes_48 : decode (mX6_knownOnes).2.1 48 = .ok ((.aload_n 0), 1) ∧ decode (mX6_knownOnes).2.1 49 = .ok ((.getfield 22), 3) ∧ decode (mX6_knownOnes).2.1 52 = .ok ((.iload_n 3), 1) ∧ decode (mX6_knownOnes).2.1 53 = .ok ((.invokestatic 36), 3) ∧ decode (mX6_knownOnes).2.1 56 = .ok ((.ishl), 1) ∧ decode (mX6_knownOnes).2.1 57 = .ok ((.ior), 1) := by decide +kernel
theorem dX6_knownOnes_48 : Dc mX6_knownOnes 48 (.aload_n 0) 1 49 := ⟨k_dX6_knownOnes_48.1, rfl⟩
theorem dX6_knownOnes_49 : Dc mX6_knownOnes 49 (.getfield 22) 3 52 := ⟨k_dX6_knownOnes_48.2.1, rfl⟩
theorem dX6_knownOnes_52 : Dc mX6_knownOnes 52 (.iload_n 3) 1 53 := ⟨k_dX6_knownOnes_48.2.2.1, rfl⟩
theorem dX6_knownOnes_53 : Dc mX6_knownOnes 53 (.invokestatic 36) 3 56 := ⟨k_dX6_knownOnes_48.2.2.2.1, rfl⟩
theorem dX6_knownOnes_56 : Dc mX6_knownOnes 56 (.ishl) 1 57 := ⟨k_dX6_knownOnes_48.2.2.2.2.1, rfl⟩
theorem dX6_knownOnes_57 : Dc mX6_knownOnes 57 (.ior) 1 58 := ⟨k_dX6_knownOnes_48.2.2.2.2.2, rfl⟩
theorem k_dX6_knownOnes_58 : decode (mX6_knownOnes).2.1 58 = .ok ((.istore_n 1), 1) ∧ decode (mX6_knownOnes).2.1 59 = .ok ((.goto 14), 3) ∧ decode (mX6_knownOnes).2.1 62 = .ok ((.iload 4), 2) ∧ decode (mX6_knownOnes).2.1 64 = .ok ((.ifCond .eq 9), 3) ∧ decode (mX6_knownOnes).2.1 67 = .ok ((.iload_n 2), 1) ∧ decode (mX6_knownOnes).2.1 68 = .ok ((.iconst 1), 1) := by decide +kernel
theorem dX6_knownOnes_58 : Dc mX6_knownOnes 58 (.istore_n 1) 1 59 := ⟨k_dX6_knownOnes_58.1, rfl⟩
theorem dX6_knownOnes_59 : Dc mX6_knownOnes 59 (.goto 14) 3 62 := ⟨k_dX6_knownOnes_58.2.1, rfl⟩
theorem dX6_knownOnes_62 : Dc mX6_knownOnes 62 (.iload 4) 2 64 := ⟨k_dX6_knownOnes_58.2.2.1, rfl⟩
theorem dX6_knownOnes_64 : Dc mX6_knownOnes 64 (.ifCond .eq 9) 3 67 := ⟨k_dX6_knownOnes_58.2.2.2.1, rfl⟩
theorem dX6_knownOnes_67 : Dc mX6_knownOnes 67 (.iload_n 2) 1 68 := ⟨k_dX6_knownOnes_58.2.2.2.2.1, rfl⟩
theorem dX6_knownOnes_68 : Dc mX6_knownOnes 68 (.iconst 1) 1 69 := ⟨k_dX6_knownOnes_58.2.2.2.2.2, rfl⟩
theorem k_dX6_knownOnes_69 : decode (mX6_knownOnes).2.1 69 = .ok ((.iload_n 3), 1) ∧ decode (mX6_knownOnes).2.1 70 = .ok ((.ishl), 1) ∧ decode (mX6_knownOnes).2.1 71 = .ok ((.ior), 1) ∧ decode (mX6_knownOnes).2.1 72 = .ok ((.istore_n 2), 1) ∧ decode (mX6_knownOnes).2.1 73 = .ok ((.iinc 3 (-1)), 3) ∧ decode (mX6_knownOnes).2.1 76 = .ok ((.goto (-65)), 3) := by decide +kernel
theorem dX6_knownOnes_69 : Dc mX6_knownOnes 69 (.iload_n 3) 1 70 := ⟨k_dX6_knownOnes_69.1, rfl⟩
theorem dX6_knownOnes_70 : Dc mX6_knownOnes 70 (.ishl) 1 71 := ⟨k_dX6_knownOnes_69.2.1, rfl⟩
theorem dX6_knownOnes_71 : Dc mX6_knownOnes 71 (.ior) 1 72 := ⟨k_dX6_knownOnes_69.2.2.1, rfl⟩
theorem dX6_knownOnes_72 : Dc mX6_knownOnes 72 (.istore_n 2) 1 73 := ⟨k_dX6_knownOnes_69.2.2.2.1, rfl⟩
theorem dX6_knownOnes_73 : Dc mX6_knownOnes 73 (.iinc 3 (-1)) 3 76 := ⟨k_dX6_knownOnes_69.2.2.2.2.1, rfl⟩
theorem dX6_knownOnes_76 : Dc mX6_knownOnes 76 (.goto (-65)) 3 79 := ⟨k_dX6_knownOnes_69.2.2.2.2.2, rfl⟩
theorem k_dX6_knownOnes_79 : decode (mX6_knownOnes).2.1 79 = .ok ((.iload_n 2), 1) ∧ decode (mX6_knownOnes).2.1 80 = .ok ((.ireturn), 1) := by decide +kernel
theorem dX6_knownOnes_79 : Dc mX6_knownOnes 79 (.iload_n 2) 1 80 := ⟨k_dX6_knownOnes_79.1, rfl⟩
theorem dX6_knownOnes_80 : Dc mX6_knownOnes 80 (.ireturn) 1 81 := ⟨k_dX6_knownOnes_79.2, rfl⟩
theorem k_dX6_lastDay_0 : decode (mX6_lastDay).2.1 0 = .ok ((.iconst 0), 1) ∧ decode (mX6_lastDay).2.1 1 = .ok ((.istore_n 2), 1) ∧ decode (mX6_lastDay).2.1 2 = .ok ((.iconst 0), 1) ∧ decode (mX6_lastDay).2.1 3 = .ok ((.istore_n 3), 1) ∧ decode (mX6_lastDay).2.1 4 = .ok ((.iload_n 3), 1) ∧ decode (mX6_lastDay).2.1 5 = .ok ((.aload_n 0), 1) := by decide +kernel
theorem dX6_lastDay_0 : Dc mX6_lastDay 0 (.iconst 0) 1 1 := ⟨k_dX6_lastDay_0.1, rfl⟩
theorem dX6_lastDay_1 : Dc mX6_lastDay 1 (.istore_n 2) 1 2 := ⟨k_dX6_lastDay_0.2.1, rfl⟩
theorem dX6_lastDay_2 : Dc mX6_lastDay 2 (.iconst 0) 1 3 := ⟨k_dX6_lastDay_0.2.2.1, rfl⟩
theorem dX6_lastDay_3 : Dc mX6_lastDay 3 (.istore_n 3) 1 4 := ⟨k_dX6_lastDay_0.2.2.2.1, rfl⟩
theorem dX6_lastDay_4 : Dc mX6_lastDay 4 (.iload_n 3) 1 5 := ⟨k_dX6_lastDay_0.2.2.2.2.1, rfl⟩
theorem dX6_lastDay_5 : Dc mX6_lastDay 5 (.aload_n 0) 1 6 := ⟨k_dX6_lastDay_0.2.2.2.2.2, rfl⟩
theorem k_dX6_lastDay_6 : decode (mX6_lastDay).2.1 6 = .ok ((.getfield 9), 3) ∧ decode (mX6_lastDay).2.1 9 = .ok ((.if_icmp .ge 34), 3) ∧ decode (mX6_lastDay).2.1 12 = .ok ((.iload_n 1), 1) ∧ decode (mX6_lastDay).2.1 13 = .ok ((.iload_n 3), 1) ∧ decode (mX6_lastDay).2.1 14 = .ok ((.ishr), 1) ∧ decode (mX6_lastDay).2.1 15 = .ok ((.iconst 1), 1) := by decide +kernel
theorem dX6_lastDay_6 : Dc mX6_lastDay 6 (.getfield 9) 3 9 := ⟨k_dX6_lastDay_6.1, rfl⟩
theorem dX6_lastDay_9 : Dc mX6_lastDay 9 (.if_icmp .ge 34) 3 12 := ⟨k_dX6_lastDay_6.2.1, rfl⟩
theorem dX6_lastDay_12 : Dc mX6_lastDay 12 (.iload_n 1) 1 13 := ⟨k_dX6_lastDay_6.2.2.1, rfl⟩
theorem dX6_lastDay_13 : Dc mX6_lastDay 13 (.iload_n 3) 1 14 := ⟨k_dX6_lastDay_6.2.2.2.1, rfl⟩
theorem dX6_lastDay_14 : Dc mX6_lastDay 14 (.ishr) 1 15 := ⟨k_dX6_lastDay_6.2.2.2.2.1, rfl⟩
theorem dX6_lastDay_15 : Dc mX6_lastDay 15 (.iconst 1) 1 16 := ⟨k_dX6_lastDay_6.2.2.2.2.2, rfl⟩
theorem k_dX6_lastDay_16 : decode (mX6_lastDay).2.1 16 = .ok ((.iand), 1) ∧ decode (mX6_lastDay).2.1 17 = .ok ((.ifCond .eq 18), 3) ∧ decode (mX6_lastDay).2.1 20 = .ok ((.iload_n 2), 1) ∧ decode (mX6_lastDay).2.1 21 = .ok ((.aload_n 0), 1) ∧ decode (mX6_lastDay).2.1 22 = .ok ((.getfield 18), 3) ∧ decode (mX6_lastDay).2.1 25 = .ok ((.iload_n 3), 1) := by decide +kernel
theorem dX6_lastDay_16 : Dc mX6_lastDay 16 (.iand) 1 17 := ⟨k_dX6_lastDay_16.1, rfl⟩
theorem dX6_lastDay_17 : Dc mX6_lastDay 17 (.ifCond .eq 18) 3 20 := ⟨k_dX6_lastDay_16.2.1, rfl⟩
theorem dX6_lastDay_20 : Dc mX6_lastDay 20 (.iload_n 2) 1 21 := ⟨k_dX6_lastDay_16.2.2.1, rfl⟩
theorem dX6_lastDay_21 : Dc mX6_lastDay 21 (.aload_n 0) 1 22 := ⟨k_dX6_lastDay_16.2.2.2.1, rfl⟩
theorem dX6_lastDay_22 : Dc mX6_lastDay 22 (.getfield 18) 3 25 := ⟨k_dX6_lastDay_16.2.2.2.2.1, rfl⟩
theorem dX6_lastDay_25 : Dc mX6_lastDay 25 (.iload_n 3) 1 26 := ⟨k_dX6_lastDay_16.2.2.2.2.2, rfl⟩
theorem k_dX6_lastDay_26 : decode (mX6_lastDay).2.1 26 = .ok ((.invokestatic 36), 3) ∧ decode (mX6_lastDay).2.1 29 = .ok ((.invokestatic 40), 3) ∧ decode (mX6_lastDay).2.1 32 = .ok ((.goto 4), 3) ∧ decode (mX6_lastDay).2.1 35 = .ok ((.iload_n 2), 1) ∧ decode (mX6_lastDay).2.1 36 = .ok ((.istore_n 2), 1) ∧ decode (mX6_lastDay).2.1 37 = .ok ((.iinc 3 1), 3) := by decide +kernel
theorem dX6_lastDay_26 : Dc mX6_lastDay 26 (.invokestatic 36) 3 29 := ⟨k_dX6_lastDay_26.1, rfl⟩
theorem dX6_lastDay_29 : Dc mX6_lastDay 29 (.invokestatic 40) 3 32 := ⟨k_dX6_lastDay_26.2.1, rfl⟩
theorem dX6_lastDay_32 : Dc mX6_lastDay 32 (.goto 4) 3 35 := ⟨k_dX6_lastDay_26.2.2.1, rfl⟩
theorem dX6_lastDay_35 : Dc mX6_lastDay 35 (.iload_n 2) 1 36 := ⟨k_dX6_lastDay_26.2.2.2.1, rfl⟩
theorem dX6_lastDay_36 : Dc mX6_lastDay 36 (.istore_n 2) 1 37 := ⟨k_dX6_lastDay_26.2.2.2.2.1, rfl⟩
theorem dX6_lastDay_37 : Dc mX6_lastDay 37 (.iinc 3 1) 3 40 := ⟨k_dX6_lastDay_26.2.2.2.2.2, rfl⟩
theorem k_dX6_lastDay_40 : decode (mX6_lastDay).2.1 40 = .ok ((.goto (-36)), 3) ∧ decode (mX6_lastDay).2.1 43 = .ok ((.iload_n 2), 1) ∧ decode (mX6_lastDay).2.1 44 = .ok ((.ireturn), 1) := by decide +kernel
theorem dX6_lastDay_40 : Dc mX6_lastDay 40 (.goto (-36)) 3 43 := ⟨k_dX6_lastDay_40.1, rfl⟩
theorem dX6_lastDay_43 : Dc mX6_lastDay 43 (.iload_n 2) 1 44 := ⟨k_dX6_lastDay_40.2.1, rfl⟩
theorem dX6_lastDay_44 : Dc mX6_lastDay 44 (.ireturn) 1 45 := ⟨k_dX6_lastDay_40.2.2, rfl⟩
theorem k_dX6_fits_0 : decode (mX6_fits).2.1 0 = .ok ((.iconst 0), 1) ∧ decode (mX6_fits).2.1 1 = .ok ((.istore 4), 2) ∧ decode (mX6_fits).2.1 3 = .ok ((.iload 4), 2) ∧ decode (mX6_fits).2.1 5 = .ok ((.aload_n 0), 1) ∧ decode (mX6_fits).2.1 6 = .ok ((.getfield 9), 3) ∧ decode (mX6_fits).2.1 9 = .ok ((.if_icmp .ge 82), 3) := by decide +kernel
theorem dX6_fits_0 : Dc mX6_fits 0 (.iconst 0) 1 1 := ⟨k_dX6_fits_0.1, rfl⟩
theorem dX6_fits_1 : Dc mX6_fits 1 (.istore 4) 2 3 := ⟨k_dX6_fits_0.2.1, rfl⟩
theorem dX6_fits_3 : Dc mX6_fits 3 (.iload 4) 2 5 := ⟨k_dX6_fits_0.2.2.1, rfl⟩
theorem dX6_fits_5 : Dc mX6_fits 5 (.aload_n 0) 1 6 := ⟨k_dX6_fits_0.2.2.2.1, rfl⟩
theorem dX6_fits_6 : Dc mX6_fits 6 (.getfield 9) 3 9 := ⟨k_dX6_fits_0.2.2.2.2.1, rfl⟩
theorem dX6_fits_9 : Dc mX6_fits 9 (.if_icmp .ge 82) 3 12 := ⟨k_dX6_fits_0.2.2.2.2.2, rfl⟩
theorem k_dX6_fits_12 : decode (mX6_fits).2.1 12 = .ok ((.iload_n 1), 1) ∧ decode (mX6_fits).2.1 13 = .ok ((.iload 4), 2) ∧ decode (mX6_fits).2.1 15 = .ok ((.ishr), 1) ∧ decode (mX6_fits).2.1 16 = .ok ((.iconst 1), 1) ∧ decode (mX6_fits).2.1 17 = .ok ((.iand), 1) ∧ decode (mX6_fits).2.1 18 = .ok ((.ifCond .eq 20), 3) := by decide +kernel
theorem dX6_fits_12 : Dc mX6_fits 12 (.iload_n 1) 1 13 := ⟨k_dX6_fits_12.1, rfl⟩
theorem dX6_fits_13 : Dc mX6_fits 13 (.iload 4) 2 15 := ⟨k_dX6_fits_12.2.1, rfl⟩
theorem dX6_fits_15 : Dc mX6_fits 15 (.ishr) 1 16 := ⟨k_dX6_fits_12.2.2.1, rfl⟩
theorem dX6_fits_16 : Dc mX6_fits 16 (.iconst 1) 1 17 := ⟨k_dX6_fits_12.2.2.2.1, rfl⟩
theorem dX6_fits_17 : Dc mX6_fits 17 (.iand) 1 18 := ⟨k_dX6_fits_12.2.2.2.2.1, rfl⟩
theorem dX6_fits_18 : Dc mX6_fits 18 (.ifCond .eq 20) 3 21 := ⟨k_dX6_fits_12.2.2.2.2.2, rfl⟩
theorem k_dX6_fits_21 : decode (mX6_fits).2.1 21 = .ok ((.aload_n 0), 1) ∧ decode (mX6_fits).2.1 22 = .ok ((.getfield 18), 3) ∧ decode (mX6_fits).2.1 25 = .ok ((.iload 4), 2) ∧ decode (mX6_fits).2.1 27 = .ok ((.invokestatic 36), 3) ∧ decode (mX6_fits).2.1 30 = .ok ((.iload_n 2), 1) ∧ decode (mX6_fits).2.1 31 = .ok ((.if_icmp .ne 7), 3) := by decide +kernel
theorem dX6_fits_21 : Dc mX6_fits 21 (.aload_n 0) 1 22 := ⟨k_dX6_fits_21.1, rfl⟩
theorem dX6_fits_22 : Dc mX6_fits 22 (.getfield 18) 3 25 := ⟨k_dX6_fits_21.2.1, rfl⟩
theorem dX6_fits_25 : Dc mX6_fits 25 (.iload 4) 2 27 := ⟨k_dX6_fits_21.2.2.1, rfl⟩
theorem dX6_fits_27 : Dc mX6_fits 27 (.invokestatic 36) 3 30 := ⟨k_dX6_fits_21.2.2.2.1, rfl⟩
theorem dX6_fits_30 : Dc mX6_fits 30 (.iload_n 2) 1 31 := ⟨k_dX6_fits_21.2.2.2.2.1, rfl⟩
theorem dX6_fits_31 : Dc mX6_fits 31 (.if_icmp .ne 7) 3 34 := ⟨k_dX6_fits_21.2.2.2.2.2, rfl⟩
theorem k_dX6_fits_34 : decode (mX6_fits).2.1 34 = .ok ((.iconst 1), 1) ∧ decode (mX6_fits).2.1 35 = .ok ((.goto 4), 3) ∧ decode (mX6_fits).2.1 38 = .ok ((.iconst 0), 1) ∧ decode (mX6_fits).2.1 39 = .ok ((.istore 5), 2) ∧ decode (mX6_fits).2.1 41 = .ok ((.aload_n 3), 1) ∧ decode (mX6_fits).2.1 42 = .ok ((.aload_n 0), 1) := by decide +kernel
theorem dX6_fits_34 : Dc mX6_fits 34 (.iconst 1) 1 35 := ⟨k_dX6_fits_34.1, rfl⟩
theorem dX6_fits_35 : Dc mX6_fits 35 (.goto 4) 3 38 := ⟨k_dX6_fits_34.2.1, rfl⟩
theorem dX6_fits_38 : Dc mX6_fits 38 (.iconst 0) 1 39 := ⟨k_dX6_fits_34.2.2.1, rfl⟩
theorem dX6_fits_39 : Dc mX6_fits 39 (.istore 5) 2 41 := ⟨k_dX6_fits_34.2.2.2.1, rfl⟩
theorem dX6_fits_41 : Dc mX6_fits 41 (.aload_n 3) 1 42 := ⟨k_dX6_fits_34.2.2.2.2.1, rfl⟩
theorem dX6_fits_42 : Dc mX6_fits 42 (.aload_n 0) 1 43 := ⟨k_dX6_fits_34.2.2.2.2.2, rfl⟩
theorem k_dX6_fits_43 : decode (mX6_fits).2.1 43 = .ok ((.getfield 22), 3) ∧ decode (mX6_fits).2.1 46 = .ok ((.iload 4), 2) ∧ decode (mX6_fits).2.1 48 = .ok ((.invokestatic 36), 3) ∧ decode (mX6_fits).2.1 51 = .ok ((.invokestatic 36), 3) ∧ decode (mX6_fits).2.1 54 = .ok ((.ifCond .lt 7), 3) ∧ decode (mX6_fits).2.1 57 = .ok ((.iconst 1), 1) := by decide +kernel
theorem dX6_fits_43 : Dc mX6_fits 43 (.getfield 22) 3 46 := ⟨k_dX6_fits_43.1, rfl⟩
theorem dX6_fits_46 : Dc mX6_fits 46 (.iload 4) 2 48 := ⟨k_dX6_fits_43.2.1, rfl⟩
theorem dX6_fits_48 : Dc mX6_fits 48 (.invokestatic 36) 3 51 := ⟨k_dX6_fits_43.2.2.1, rfl⟩
theorem dX6_fits_51 : Dc mX6_fits 51 (.invokestatic 36) 3 54 := ⟨k_dX6_fits_43.2.2.2.1, rfl⟩
theorem dX6_fits_54 : Dc mX6_fits 54 (.ifCond .lt 7) 3 57 := ⟨k_dX6_fits_43.2.2.2.2.1, rfl⟩
theorem dX6_fits_57 : Dc mX6_fits 57 (.iconst 1) 1 58 := ⟨k_dX6_fits_43.2.2.2.2.2, rfl⟩
theorem dX6_fits_58 : Dc mX6_fits 58 (.goto 4) 3 61 := ⟨by decide +kernel, rfl⟩
