theorem d_L_about_0 : decode b_L_about 0 = .ok (.aload_n 2, 1) ∧ 0 + 1 = 1 := ⟨by decide +kernel, rfl⟩
theorem d_L_about_1 : decode b_L_about 1 = .ok (.iconst 0, 1) ∧ 1 + 1 = 2 := ⟨by decide +kernel, rfl⟩
theorem d_L_about_2 : decode b_L_about 2 = .ok (.aload_n 0, 1) ∧ 2 + 1 = 3 := ⟨by decide +kernel, rfl⟩
theorem d_L_about_3 : decode b_L_about 3 = .ok (.iload_n 1, 1) ∧ 3 + 1 = 4 := ⟨by decide +kernel, rfl⟩
theorem d_L_about_4 : decode b_L_about 4 = .ok (.invokevirtual 55, 3) ∧ 4 + 3 = 7 := ⟨by decide +kernel, rfl⟩
theorem d_L_about_7 : decode b_L_about 7 = .ok (.i2l, 1) ∧ 7 + 1 = 8 := ⟨by decide +kernel, rfl⟩
theorem d_L_about_8 : decode b_L_about 8 = .ok (.lastore, 1) ∧ 8 + 1 = 9 := ⟨by decide +kernel, rfl⟩
theorem d_L_about_9 : decode b_L_about 9 = .ok (.goto 6, 3) ∧ ((9 : Nat) : Int) + 6 = ((15 : Nat) : Int) := ⟨by decide +kernel, by decide⟩
theorem d_L_about_12 : decode b_L_about 12 = .ok (.astore_n 3, 1) ∧ 12 + 1 = 13 := ⟨by decide +kernel, rfl⟩
theorem d_L_about_13 : decode b_L_about 13 = .ok (.iconst 1, 1) ∧ 13 + 1 = 14 := ⟨by decide +kernel, rfl⟩
theorem d_L_about_14 : decode b_L_about 14 = .ok (.ireturn, 1) := by decide +kernel
theorem d_L_about_15 : decode b_L_about 15 = .ok (.iconst 0, 1) ∧ 15 + 1 = 16 := ⟨by decide +kernel, rfl⟩
theorem d_L_about_16 : decode b_L_about 16 = .ok (.ireturn, 1) := by decide +kernel
theorem d_L_add_0 : decode b_L_add 0 = .ok (.aload_n 2, 1) ∧ 0 + 1 = 1 := ⟨by decide +kernel, rfl⟩
theorem d_L_add_1 : decode b_L_add 1 = .ok (.iconst 0, 1) ∧ 1 + 1 = 2 := ⟨by decide +kernel, rfl⟩
theorem d_L_add_2 : decode b_L_add 2 = .ok (.aload_n 0, 1) ∧ 2 + 1 = 3 := ⟨by decide +kernel, rfl⟩
theorem d_L_add_3 : decode b_L_add 3 = .ok (.iload_n 1, 1) ∧ 3 + 1 = 4 := ⟨by decide +kernel, rfl⟩
theorem d_L_add_4 : decode b_L_add 4 = .ok (.invokevirtual 64, 3) ∧ 4 + 3 = 7 := ⟨by decide +kernel, rfl⟩
theorem d_L_add_7 : decode b_L_add 7 = .ok (.i2l, 1) ∧ 7 + 1 = 8 := ⟨by decide +kernel, rfl⟩
theorem d_L_add_8 : decode b_L_add 8 = .ok (.lastore, 1) ∧ 8 + 1 = 9 := ⟨by decide +kernel, rfl⟩
theorem d_L_add_9 : decode b_L_add 9 = .ok (.goto 6, 3) ∧ ((9 : Nat) : Int) + 6 = ((15 : Nat) : Int) := ⟨by decide +kernel, by decide⟩
theorem d_L_add_12 : decode b_L_add 12 = .ok (.astore_n 3, 1) ∧ 12 + 1 = 13 := ⟨by decide +kernel, rfl⟩
theorem d_L_add_13 : decode b_L_add 13 = .ok (.iconst 1, 1) ∧ 13 + 1 = 14 := ⟨by decide +kernel, rfl⟩
theorem d_L_add_14 : decode b_L_add 14 = .ok (.ireturn, 1) := by decide +kernel
theorem d_L_add_15 : decode b_L_add 15 = .ok (.iconst 0, 1) ∧ 15 + 1 = 16 := ⟨by decide +kernel, rfl⟩
theorem d_L_add_16 : decode b_L_add 16 = .ok (.ireturn, 1) := by decide +kernel
theorem d_L_bin_0 : decode b_L_bin 0 = .ok (.aload_n 3, 1) ∧ 0 + 1 = 1 := ⟨by decide +kernel, rfl⟩
theorem d_L_bin_1 : decode b_L_bin 1 = .ok (.iconst 0, 1) ∧ 1 + 1 = 2 := ⟨by decide +kernel, rfl⟩
theorem d_L_bin_2 : decode b_L_bin 2 = .ok (.aload_n 0, 1) ∧ 2 + 1 = 3 := ⟨by decide +kernel, rfl⟩
theorem d_L_bin_3 : decode b_L_bin 3 = .ok (.iload_n 1, 1) ∧ 3 + 1 = 4 := ⟨by decide +kernel, rfl⟩
theorem d_L_bin_4 : decode b_L_bin 4 = .ok (.iload_n 2, 1) ∧ 4 + 1 = 5 := ⟨by decide +kernel, rfl⟩
theorem d_L_bin_5 : decode b_L_bin 5 = .ok (.invokevirtual 42, 3) ∧ 5 + 3 = 8 := ⟨by decide +kernel, rfl⟩
theorem d_L_bin_8 : decode b_L_bin 8 = .ok (.i2l, 1) ∧ 8 + 1 = 9 := ⟨by decide +kernel, rfl⟩
theorem d_L_bin_9 : decode b_L_bin 9 = .ok (.lastore, 1) ∧ 9 + 1 = 10 := ⟨by decide +kernel, rfl⟩
theorem d_L_bin_10 : decode b_L_bin 10 = .ok (.goto 11, 3) ∧ ((10 : Nat) : Int) + 11 = ((21 : Nat) : Int) := ⟨by decide +kernel, by decide⟩
theorem d_L_bin_13 : decode b_L_bin 13 = .ok (.astore 4, 2) ∧ 13 + 2 = 15 := ⟨by decide +kernel, rfl⟩
theorem d_L_bin_15 : decode b_L_bin 15 = .ok (.iconst 1, 1) ∧ 15 + 1 = 16 := ⟨by decide +kernel, rfl⟩
theorem d_L_bin_16 : decode b_L_bin 16 = .ok (.ireturn, 1) := by decide +kernel
theorem d_L_bin_17 : decode b_L_bin 17 = .ok (.astore 4, 2) ∧ 17 + 2 = 19 := ⟨by decide +kernel, rfl⟩
theorem d_L_bin_19 : decode b_L_bin 19 = .ok (.iconst 2, 1) ∧ 19 + 1 = 20 := ⟨by decide +kernel, rfl⟩
theorem d_L_bin_20 : decode b_L_bin 20 = .ok (.ireturn, 1) := by decide +kernel
theorem d_L_bin_21 : decode b_L_bin 21 = .ok (.iconst 0, 1) ∧ 21 + 1 = 22 := ⟨by decide +kernel, rfl⟩
theorem d_L_bin_22 : decode b_L_bin 22 = .ok (.ireturn, 1) := by decide +kernel
theorem d_L_direction_0 : decode b_L_direction 0 = .ok (.aload_n 0, 1) ∧ 0 + 1 = 1 := ⟨by decide +kernel, rfl⟩
theorem d_L_direction_1 : decode b_L_direction 1 = .ok (.iload_n 1, 1) ∧ 1 + 1 = 2 := ⟨by decide +kernel, rfl⟩
theorem d_L_direction_2 : decode b_L_direction 2 = .ok (.iload_n 2, 1) ∧ 2 + 1 = 3 := ⟨by decide +kernel, rfl⟩
theorem d_L_direction_3 : decode b_L_direction 3 = .ok (.iload_n 3, 1) ∧ 3 + 1 = 4 := ⟨by decide +kernel, rfl⟩
theorem d_L_direction_4 : decode b_L_direction 4 = .ok (.invokevirtual 26, 3) ∧ 4 + 3 = 7 := ⟨by decide +kernel, rfl⟩
theorem d_L_direction_7 : decode b_L_direction 7 = .ok (.goto 11, 3) ∧ ((7 : Nat) : Int) + 11 = ((18 : Nat) : Int) := ⟨by decide +kernel, by decide⟩
theorem d_L_direction_10 : decode b_L_direction 10 = .ok (.astore 4, 2) ∧ 10 + 2 = 12 := ⟨by decide +kernel, rfl⟩
theorem d_L_direction_12 : decode b_L_direction 12 = .ok (.iconst 1, 1) ∧ 12 + 1 = 13 := ⟨by decide +kernel, rfl⟩
theorem d_L_direction_13 : decode b_L_direction 13 = .ok (.ireturn, 1) := by decide +kernel
theorem d_L_direction_14 : decode b_L_direction 14 = .ok (.astore 4, 2) ∧ 14 + 2 = 16 := ⟨by decide +kernel, rfl⟩
theorem d_L_direction_16 : decode b_L_direction 16 = .ok (.iconst 2, 1) ∧ 16 + 1 = 17 := ⟨by decide +kernel, rfl⟩
theorem d_L_direction_17 : decode b_L_direction 17 = .ok (.ireturn, 1) := by decide +kernel
theorem d_L_direction_18 : decode b_L_direction 18 = .ok (.iconst 0, 1) ∧ 18 + 1 = 19 := ⟨by decide +kernel, rfl⟩
theorem d_L_direction_19 : decode b_L_direction 19 = .ok (.ireturn, 1) := by decide +kernel
theorem d_L_drop_0 : decode b_L_drop 0 = .ok (.aload_n 2, 1) ∧ 0 + 1 = 1 := ⟨by decide +kernel, rfl⟩
theorem d_L_drop_1 : decode b_L_drop 1 = .ok (.iconst 0, 1) ∧ 1 + 1 = 2 := ⟨by decide +kernel, rfl⟩
theorem d_L_drop_2 : decode b_L_drop 2 = .ok (.aload_n 0, 1) ∧ 2 + 1 = 3 := ⟨by decide +kernel, rfl⟩
theorem d_L_drop_3 : decode b_L_drop 3 = .ok (.iload_n 1, 1) ∧ 3 + 1 = 4 := ⟨by decide +kernel, rfl⟩
theorem d_L_drop_4 : decode b_L_drop 4 = .ok (.invokevirtual 38, 3) ∧ 4 + 3 = 7 := ⟨by decide +kernel, rfl⟩
theorem d_L_drop_7 : decode b_L_drop 7 = .ok (.ifCond .eq 7, 3) ∧ 7 + 3 = 10 ∧ ((7 : Nat) : Int) + 7 = ((14 : Nat) : Int) := ⟨by decide +kernel, rfl, by decide⟩
theorem d_L_drop_10 : decode b_L_drop 10 = .ok (.lconst 1, 1) ∧ 10 + 1 = 11 := ⟨by decide +kernel, rfl⟩
theorem d_L_drop_11 : decode b_L_drop 11 = .ok (.goto 4, 3) ∧ ((11 : Nat) : Int) + 4 = ((15 : Nat) : Int) := ⟨by decide +kernel, by decide⟩
theorem d_L_drop_14 : decode b_L_drop 14 = .ok (.lconst 0, 1) ∧ 14 + 1 = 15 := ⟨by decide +kernel, rfl⟩
theorem d_L_drop_15 : decode b_L_drop 15 = .ok (.lastore, 1) ∧ 15 + 1 = 16 := ⟨by decide +kernel, rfl⟩
theorem d_L_drop_16 : decode b_L_drop 16 = .ok (.goto 6, 3) ∧ ((16 : Nat) : Int) + 6 = ((22 : Nat) : Int) := ⟨by decide +kernel, by decide⟩
theorem d_L_drop_19 : decode b_L_drop 19 = .ok (.astore_n 3, 1) ∧ 19 + 1 = 20 := ⟨by decide +kernel, rfl⟩
theorem d_L_drop_20 : decode b_L_drop 20 = .ok (.iconst 1, 1) ∧ 20 + 1 = 21 := ⟨by decide +kernel, rfl⟩
theorem d_L_drop_21 : decode b_L_drop 21 = .ok (.ireturn, 1) := by decide +kernel
theorem d_L_drop_22 : decode b_L_drop 22 = .ok (.iconst 0, 1) ∧ 22 + 1 = 23 := ⟨by decide +kernel, rfl⟩
theorem d_L_drop_23 : decode b_L_drop 23 = .ok (.ireturn, 1) := by decide +kernel
theorem d_L_enough_0 : decode b_L_enough 0 = .ok (.aload_n 2, 1) ∧ 0 + 1 = 1 := ⟨by decide +kernel, rfl⟩
theorem d_L_enough_1 : decode b_L_enough 1 = .ok (.iconst 0, 1) ∧ 1 + 1 = 2 := ⟨by decide +kernel, rfl⟩
theorem d_L_enough_2 : decode b_L_enough 2 = .ok (.aload_n 0, 1) ∧ 2 + 1 = 3 := ⟨by decide +kernel, rfl⟩
theorem d_L_enough_3 : decode b_L_enough 3 = .ok (.iload_n 1, 1) ∧ 3 + 1 = 4 := ⟨by decide +kernel, rfl⟩
theorem d_L_enough_4 : decode b_L_enough 4 = .ok (.invokevirtual 48, 3) ∧ 4 + 3 = 7 := ⟨by decide +kernel, rfl⟩
theorem d_L_enough_7 : decode b_L_enough 7 = .ok (.ifCond .eq 7, 3) ∧ 7 + 3 = 10 ∧ ((7 : Nat) : Int) + 7 = ((14 : Nat) : Int) := ⟨by decide +kernel, rfl, by decide⟩
theorem d_L_enough_10 : decode b_L_enough 10 = .ok (.lconst 1, 1) ∧ 10 + 1 = 11 := ⟨by decide +kernel, rfl⟩
theorem d_L_enough_11 : decode b_L_enough 11 = .ok (.goto 4, 3) ∧ ((11 : Nat) : Int) + 4 = ((15 : Nat) : Int) := ⟨by decide +kernel, by decide⟩
theorem d_L_enough_14 : decode b_L_enough 14 = .ok (.lconst 0, 1) ∧ 14 + 1 = 15 := ⟨by decide +kernel, rfl⟩
theorem d_L_enough_15 : decode b_L_enough 15 = .ok (.lastore, 1) ∧ 15 + 1 = 16 := ⟨by decide +kernel, rfl⟩
theorem d_L_enough_16 : decode b_L_enough 16 = .ok (.goto 6, 3) ∧ ((16 : Nat) : Int) + 6 = ((22 : Nat) : Int) := ⟨by decide +kernel, by decide⟩
theorem d_L_enough_19 : decode b_L_enough 19 = .ok (.astore_n 3, 1) ∧ 19 + 1 = 20 := ⟨by decide +kernel, rfl⟩
theorem d_L_enough_20 : decode b_L_enough 20 = .ok (.iconst 1, 1) ∧ 20 + 1 = 21 := ⟨by decide +kernel, rfl⟩
theorem d_L_enough_21 : decode b_L_enough 21 = .ok (.ireturn, 1) := by decide +kernel
theorem d_L_enough_22 : decode b_L_enough 22 = .ok (.iconst 0, 1) ∧ 22 + 1 = 23 := ⟨by decide +kernel, rfl⟩
theorem d_L_enough_23 : decode b_L_enough 23 = .ok (.ireturn, 1) := by decide +kernel
theorem d_L_ghost_0 : decode b_L_ghost 0 = .ok (.aload 4, 2) ∧ 0 + 2 = 2 := ⟨by decide +kernel, rfl⟩
theorem d_L_ghost_2 : decode b_L_ghost 2 = .ok (.iconst 0, 1) ∧ 2 + 1 = 3 := ⟨by decide +kernel, rfl⟩
theorem d_L_ghost_3 : decode b_L_ghost 3 = .ok (.aload_n 0, 1) ∧ 3 + 1 = 4 := ⟨by decide +kernel, rfl⟩
theorem d_L_ghost_4 : decode b_L_ghost 4 = .ok (.iload_n 1, 1) ∧ 4 + 1 = 5 := ⟨by decide +kernel, rfl⟩
theorem d_L_ghost_5 : decode b_L_ghost 5 = .ok (.iload_n 2, 1) ∧ 5 + 1 = 6 := ⟨by decide +kernel, rfl⟩
theorem d_L_ghost_6 : decode b_L_ghost 6 = .ok (.iload_n 3, 1) ∧ 6 + 1 = 7 := ⟨by decide +kernel, rfl⟩
theorem d_L_ghost_7 : decode b_L_ghost 7 = .ok (.invokevirtual 61, 3) ∧ 7 + 3 = 10 := ⟨by decide +kernel, rfl⟩
theorem d_L_ghost_10 : decode b_L_ghost 10 = .ok (.i2l, 1) ∧ 10 + 1 = 11 := ⟨by decide +kernel, rfl⟩
theorem d_L_ghost_11 : decode b_L_ghost 11 = .ok (.lastore, 1) ∧ 11 + 1 = 12 := ⟨by decide +kernel, rfl⟩
theorem d_L_ghost_12 : decode b_L_ghost 12 = .ok (.goto 15, 3) ∧ ((12 : Nat) : Int) + 15 = ((27 : Nat) : Int) := ⟨by decide +kernel, by decide⟩
theorem d_L_ghost_15 : decode b_L_ghost 15 = .ok (.astore 5, 2) ∧ 15 + 2 = 17 := ⟨by decide +kernel, rfl⟩
theorem d_L_ghost_17 : decode b_L_ghost 17 = .ok (.iconst 1, 1) ∧ 17 + 1 = 18 := ⟨by decide +kernel, rfl⟩
theorem d_L_ghost_18 : decode b_L_ghost 18 = .ok (.ireturn, 1) := by decide +kernel
theorem d_L_ghost_19 : decode b_L_ghost 19 = .ok (.astore 5, 2) ∧ 19 + 2 = 21 := ⟨by decide +kernel, rfl⟩
theorem d_L_ghost_21 : decode b_L_ghost 21 = .ok (.iconst 2, 1) ∧ 21 + 1 = 22 := ⟨by decide +kernel, rfl⟩
theorem d_L_ghost_22 : decode b_L_ghost 22 = .ok (.ireturn, 1) := by decide +kernel
theorem d_L_ghost_23 : decode b_L_ghost 23 = .ok (.astore 5, 2) ∧ 23 + 2 = 25 := ⟨by decide +kernel, rfl⟩
theorem d_L_ghost_25 : decode b_L_ghost 25 = .ok (.iconst 3, 1) ∧ 25 + 1 = 26 := ⟨by decide +kernel, rfl⟩
theorem d_L_ghost_26 : decode b_L_ghost 26 = .ok (.ireturn, 1) := by decide +kernel
theorem d_L_ghost_27 : decode b_L_ghost 27 = .ok (.iconst 0, 1) ∧ 27 + 1 = 28 := ⟨by decide +kernel, rfl⟩
theorem d_L_ghost_28 : decode b_L_ghost 28 = .ok (.ireturn, 1) := by decide +kernel
theorem d_L_law_0 : decode b_L_law 0 = .ok (.new 8, 3) ∧ 0 + 3 = 3 := ⟨by decide +kernel, rfl⟩
theorem d_L_law_3 : decode b_L_law 3 = .ok (.dup, 1) ∧ 3 + 1 = 4 := ⟨by decide +kernel, rfl⟩
theorem d_L_law_4 : decode b_L_law 4 = .ok (.invokespecial 68, 3) ∧ 4 + 3 = 7 := ⟨by decide +kernel, rfl⟩
theorem d_L_law_7 : decode b_L_law 7 = .ok (.astore_n 1, 1) ∧ 7 + 1 = 8 := ⟨by decide +kernel, rfl⟩
theorem d_L_law_8 : decode b_L_law 8 = .ok (.new 69, 3) ∧ 8 + 3 = 11 := ⟨by decide +kernel, rfl⟩
theorem d_L_law_11 : decode b_L_law 11 = .ok (.dup, 1) ∧ 11 + 1 = 12 := ⟨by decide +kernel, rfl⟩
theorem d_L_law_12 : decode b_L_law 12 = .ok (.invokespecial 71, 3) ∧ 12 + 3 = 15 := ⟨by decide +kernel, rfl⟩
theorem d_L_law_15 : decode b_L_law 15 = .ok (.astore_n 2, 1) ∧ 15 + 1 = 16 := ⟨by decide +kernel, rfl⟩
theorem d_L_law_16 : decode b_L_law 16 = .ok (.iconst 1, 1) ∧ 16 + 1 = 17 := ⟨by decide +kernel, rfl⟩
theorem d_L_law_17 : decode b_L_law 17 = .ok (.newarray .long, 2) ∧ 17 + 2 = 19 := ⟨by decide +kernel, rfl⟩
theorem d_L_law_19 : decode b_L_law 19 = .ok (.astore_n 3, 1) ∧ 19 + 1 = 20 := ⟨by decide +kernel, rfl⟩
theorem d_L_law_20 : decode b_L_law 20 = .ok (.iconst 0, 1) ∧ 20 + 1 = 21 := ⟨by decide +kernel, rfl⟩
theorem d_L_law_21 : decode b_L_law 21 = .ok (.istore 4, 2) ∧ 21 + 2 = 23 := ⟨by decide +kernel, rfl⟩
theorem d_L_law_23 : decode b_L_law 23 = .ok (.iload 4, 2) ∧ 23 + 2 = 25 := ⟨by decide +kernel, rfl⟩
theorem d_L_law_25 : decode b_L_law 25 = .ok (.aload_n 0, 1) ∧ 25 + 1 = 26 := ⟨by decide +kernel, rfl⟩
theorem d_L_law_26 : decode b_L_law 26 = .ok (.arraylength, 1) ∧ 26 + 1 = 27 := ⟨by decide +kernel, rfl⟩
theorem d_L_law_27 : decode b_L_law 27 = .ok (.iconst 4, 1) ∧ 27 + 1 = 28 := ⟨by decide +kernel, rfl⟩
theorem d_L_law_28 : decode b_L_law 28 = .ok (.isub, 1) ∧ 28 + 1 = 29 := ⟨by decide +kernel, rfl⟩
theorem d_L_law_29 : decode b_L_law 29 = .ok (.if_icmp .gt 1094, 3) ∧ 29 + 3 = 32 ∧ ((29 : Nat) : Int) + 1094 = ((1123 : Nat) : Int) := ⟨by decide +kernel, rfl, by decide⟩
theorem d_L_law_32 : decode b_L_law 32 = .ok (.aload_n 0, 1) ∧ 32 + 1 = 33 := ⟨by decide +kernel, rfl⟩
theorem d_L_law_33 : decode b_L_law 33 = .ok (.iload 4, 2) ∧ 33 + 2 = 35 := ⟨by decide +kernel, rfl⟩
theorem d_L_law_35 : decode b_L_law 35 = .ok (.iaload, 1) ∧ 35 + 1 = 36 := ⟨by decide +kernel, rfl⟩
theorem d_L_law_36 : decode b_L_law 36 = .ok (.bipush 31, 2) ∧ 36 + 2 = 38 := ⟨by decide +kernel, rfl⟩
theorem d_L_law_38 : decode b_L_law 38 = .ok (.iand, 1) ∧ 38 + 1 = 39 := ⟨by decide +kernel, rfl⟩
theorem d_L_law_39 : decode b_L_law 39 = .ok (.tableswitch 1078 0 16 #[81, 129, 209, 289, 349, 417, 453, 516, 584, 664, 727, 783, 839, 902, 915, 995, 1006], 81) := by decide +kernel
theorem d_L_law_120 : decode b_L_law 120 = .ok (.aload_n 1, 1) ∧ 120 + 1 = 121 := ⟨by decide +kernel, rfl⟩
theorem d_L_law_121 : decode b_L_law 121 = .ok (.aload_n 0, 1) ∧ 121 + 1 = 122 := ⟨by decide +kernel, rfl⟩
theorem d_L_law_122 : decode b_L_law 122 = .ok (.iload 4, 2) ∧ 122 + 2 = 124 := ⟨by decide +kernel, rfl⟩
theorem d_L_law_124 : decode b_L_law 124 = .ok (.iconst 1, 1) ∧ 124 + 1 = 125 := ⟨by decide +kernel, rfl⟩
theorem d_L_law_125 : decode b_L_law 125 = .ok (.iadd, 1) ∧ 125 + 1 = 126 := ⟨by decide +kernel, rfl⟩
theorem d_L_law_126 : decode b_L_law 126 = .ok (.iaload, 1) ∧ 126 + 1 = 127 := ⟨by decide +kernel, rfl⟩
theorem d_L_law_127 : decode b_L_law 127 = .ok (.aload_n 0, 1) ∧ 127 + 1 = 128 := ⟨by decide +kernel, rfl⟩
theorem d_L_law_128 : decode b_L_law 128 = .ok (.iload 4, 2) ∧ 128 + 2 = 130 := ⟨by decide +kernel, rfl⟩
theorem d_L_law_130 : decode b_L_law 130 = .ok (.iconst 2, 1) ∧ 130 + 1 = 131 := ⟨by decide +kernel, rfl⟩
theorem d_L_law_131 : decode b_L_law 131 = .ok (.iadd, 1) ∧ 131 + 1 = 132 := ⟨by decide +kernel, rfl⟩
theorem d_L_law_132 : decode b_L_law 132 = .ok (.iaload, 1) ∧ 132 + 1 = 133 := ⟨by decide +kernel, rfl⟩
theorem d_L_law_133 : decode b_L_law 133 = .ok (.invokestatic 72, 3) ∧ 133 + 3 = 136 := ⟨by decide +kernel, rfl⟩
theorem d_L_law_136 : decode b_L_law 136 = .ok (.istore 5, 2) ∧ 136 + 2 = 138 := ⟨by decide +kernel, rfl⟩
theorem d_L_law_138 : decode b_L_law 138 = .ok (.aload_n 2, 1) ∧ 138 + 1 = 139 := ⟨by decide +kernel, rfl⟩
theorem d_L_law_139 : decode b_L_law 139 = .ok (.aload_n 0, 1) ∧ 139 + 1 = 140 := ⟨by decide +kernel, rfl⟩
theorem d_L_law_140 : decode b_L_law 140 = .ok (.iload 4, 2) ∧ 140 + 2 = 142 := ⟨by decide +kernel, rfl⟩
theorem d_L_law_142 : decode b_L_law 142 = .ok (.iconst 1, 1) ∧ 142 + 1 = 143 := ⟨by decide +kernel, rfl⟩
theorem d_L_law_143 : decode b_L_law 143 = .ok (.iadd, 1) ∧ 143 + 1 = 144 := ⟨by decide +kernel, rfl⟩
theorem d_L_law_144 : decode b_L_law 144 = .ok (.iaload, 1) ∧ 144 + 1 = 145 := ⟨by decide +kernel, rfl⟩
theorem d_L_law_145 : decode b_L_law 145 = .ok (.aload_n 0, 1) ∧ 145 + 1 = 146 := ⟨by decide +kernel, rfl⟩
theorem d_L_law_146 : decode b_L_law 146 = .ok (.iload 4, 2) ∧ 146 + 2 = 148 := ⟨by decide +kernel, rfl⟩
theorem d_L_law_148 : decode b_L_law 148 = .ok (.iconst 2, 1) ∧ 148 + 1 = 149 := ⟨by decide +kernel, rfl⟩
theorem d_L_law_149 : decode b_L_law 149 = .ok (.iadd, 1) ∧ 149 + 1 = 150 := ⟨by decide +kernel, rfl⟩
theorem d_L_law_150 : decode b_L_law 150 = .ok (.iaload, 1) ∧ 150 + 1 = 151 := ⟨by decide +kernel, rfl⟩
theorem d_L_law_151 : decode b_L_law 151 = .ok (.invokevirtual 77, 3) ∧ 151 + 3 = 154 := ⟨by decide +kernel, rfl⟩
theorem d_L_law_154 : decode b_L_law 154 = .ok (.aload_n 2, 1) ∧ 154 + 1 = 155 := ⟨by decide +kernel, rfl⟩
theorem d_L_law_155 : decode b_L_law 155 = .ok (.invokevirtual 78, 3) ∧ 155 + 3 = 158 := ⟨by decide +kernel, rfl⟩
theorem d_L_law_158 : decode b_L_law 158 = .ok (.iload 5, 2) ∧ 158 + 2 = 160 := ⟨by decide +kernel, rfl⟩
theorem d_L_law_160 : decode b_L_law 160 = .ok (.if_icmp .eq 5, 3) ∧ 160 + 3 = 163 ∧ ((160 : Nat) : Int) + 5 = ((165 : Nat) : Int) := ⟨by decide +kernel, rfl, by decide⟩
theorem d_L_law_163 : decode b_L_law 163 = .ok (.iconst 0, 1) ∧ 163 + 1 = 164 := ⟨by decide +kernel, rfl⟩
theorem d_L_law_164 : decode b_L_law 164 = .ok (.ireturn, 1) := by decide +kernel
theorem d_L_law_165 : decode b_L_law 165 = .ok (.goto 952, 3) ∧ ((165 : Nat) : Int) + 952 = ((1117 : Nat) : Int) := ⟨by decide +kernel, by decide⟩
theorem d_L_law_168 : decode b_L_law 168 = .ok (.aload_n 1, 1) ∧ 168 + 1 = 169 := ⟨by decide +kernel, rfl⟩
theorem d_L_law_169 : decode b_L_law 169 = .ok (.aload_n 0, 1) ∧ 169 + 1 = 170 := ⟨by decide +kernel, rfl⟩
theorem d_L_law_170 : decode b_L_law 170 = .ok (.iload 4, 2) ∧ 170 + 2 = 172 := ⟨by decide +kernel, rfl⟩
theorem d_L_law_172 : decode b_L_law 172 = .ok (.iconst 1, 1) ∧ 172 + 1 = 173 := ⟨by decide +kernel, rfl⟩
theorem d_L_law_173 : decode b_L_law 173 = .ok (.iadd, 1) ∧ 173 + 1 = 174 := ⟨by decide +kernel, rfl⟩
theorem d_L_law_174 : decode b_L_law 174 = .ok (.iaload, 1) ∧ 174 + 1 = 175 := ⟨by decide +kernel, rfl⟩
theorem d_L_law_175 : decode b_L_law 175 = .ok (.aload_n 0, 1) ∧ 175 + 1 = 176 := ⟨by decide +kernel, rfl⟩
theorem d_L_law_176 : decode b_L_law 176 = .ok (.iload 4, 2) ∧ 176 + 2 = 178 := ⟨by decide +kernel, rfl⟩
theorem d_L_law_178 : decode b_L_law 178 = .ok (.iconst 2, 1) ∧ 178 + 1 = 179 := ⟨by decide +kernel, rfl⟩
theorem d_L_law_179 : decode b_L_law 179 = .ok (.iadd, 1) ∧ 179 + 1 = 180 := ⟨by decide +kernel, rfl⟩
theorem d_L_law_180 : decode b_L_law 180 = .ok (.iaload, 1) ∧ 180 + 1 = 181 := ⟨by decide +kernel, rfl⟩
theorem d_L_law_181 : decode b_L_law 181 = .ok (.aload_n 0, 1) ∧ 181 + 1 = 182 := ⟨by decide +kernel, rfl⟩
theorem d_L_law_182 : decode b_L_law 182 = .ok (.iload 4, 2) ∧ 182 + 2 = 184 := ⟨by decide +kernel, rfl⟩
theorem d_L_law_184 : decode b_L_law 184 = .ok (.iconst 3, 1) ∧ 184 + 1 = 185 := ⟨by decide +kernel, rfl⟩
theorem d_L_law_185 : decode b_L_law 185 = .ok (.iadd, 1) ∧ 185 + 1 = 186 := ⟨by decide +kernel, rfl⟩
theorem d_L_law_186 : decode b_L_law 186 = .ok (.iaload, 1) ∧ 186 + 1 = 187 := ⟨by decide +kernel, rfl⟩
theorem d_L_law_187 : decode b_L_law 187 = .ok (.aload_n 3, 1) ∧ 187 + 1 = 188 := ⟨by decide +kernel, rfl⟩
theorem d_L_law_188 : decode b_L_law 188 = .ok (.invokestatic 82, 3) ∧ 188 + 3 = 191 := ⟨by decide +kernel, rfl⟩
theorem d_L_law_191 : decode b_L_law 191 = .ok (.istore 5, 2) ∧ 191 + 2 = 193 := ⟨by decide +kernel, rfl⟩
theorem d_L_law_193 : decode b_L_law 193 = .ok (.aload_n 2, 1) ∧ 193 + 1 = 194 := ⟨by decide +kernel, rfl⟩
theorem d_L_law_194 : decode b_L_law 194 = .ok (.aload_n 0, 1) ∧ 194 + 1 = 195 := ⟨by decide +kernel, rfl⟩
theorem d_L_law_195 : decode b_L_law 195 = .ok (.iload 4, 2) ∧ 195 + 2 = 197 := ⟨by decide +kernel, rfl⟩
theorem d_L_law_197 : decode b_L_law 197 = .ok (.iconst 1, 1) ∧ 197 + 1 = 198 := ⟨by decide +kernel, rfl⟩
theorem d_L_law_198 : decode b_L_law 198 = .ok (.iadd, 1) ∧ 198 + 1 = 199 := ⟨by decide +kernel, rfl⟩
theorem d_L_law_199 : decode b_L_law 199 = .ok (.iaload, 1) ∧ 199 + 1 = 200 := ⟨by decide +kernel, rfl⟩
theorem d_L_law_200 : decode b_L_law 200 = .ok (.aload_n 0, 1) ∧ 200 + 1 = 201 := ⟨by decide +kernel, rfl⟩
theorem d_L_law_201 : decode b_L_law 201 = .ok (.iload 4, 2) ∧ 201 + 2 = 203 := ⟨by decide +kernel, rfl⟩
theorem d_L_law_203 : decode b_L_law 203 = .ok (.iconst 2, 1) ∧ 203 + 1 = 204 := ⟨by decide +kernel, rfl⟩
theorem d_L_law_204 : decode b_L_law 204 = .ok (.iadd, 1) ∧ 204 + 1 = 205 := ⟨by decide +kernel, rfl⟩
theorem d_L_law_205 : decode b_L_law 205 = .ok (.iaload, 1) ∧ 205 + 1 = 206 := ⟨by decide +kernel, rfl⟩
theorem d_L_law_206 : decode b_L_law 206 = .ok (.aload_n 0, 1) ∧ 206 + 1 = 207 := ⟨by decide +kernel, rfl⟩
theorem d_L_law_207 : decode b_L_law 207 = .ok (.iload 4, 2) ∧ 207 + 2 = 209 := ⟨by decide +kernel, rfl⟩
theorem d_L_law_209 : decode b_L_law 209 = .ok (.iconst 3, 1) ∧ 209 + 1 = 210 := ⟨by decide +kernel, rfl⟩
theorem d_L_law_210 : decode b_L_law 210 = .ok (.iadd, 1) ∧ 210 + 1 = 211 := ⟨by decide +kernel, rfl⟩
theorem d_L_law_211 : decode b_L_law 211 = .ok (.iaload, 1) ∧ 211 + 1 = 212 := ⟨by decide +kernel, rfl⟩
theorem d_L_law_212 : decode b_L_law 212 = .ok (.invokevirtual 85, 3) ∧ 212 + 3 = 215 := ⟨by decide +kernel, rfl⟩
theorem d_L_law_215 : decode b_L_law 215 = .ok (.istore 6, 2) ∧ 215 + 2 = 217 := ⟨by decide +kernel, rfl⟩
theorem d_L_law_217 : decode b_L_law 217 = .ok (.aload_n 2, 1) ∧ 217 + 1 = 218 := ⟨by decide +kernel, rfl⟩
theorem d_L_law_218 : decode b_L_law 218 = .ok (.invokevirtual 78, 3) ∧ 218 + 3 = 221 := ⟨by decide +kernel, rfl⟩
theorem d_L_law_221 : decode b_L_law 221 = .ok (.iload 5, 2) ∧ 221 + 2 = 223 := ⟨by decide +kernel, rfl⟩
theorem d_L_law_223 : decode b_L_law 223 = .ok (.if_icmp .eq 5, 3) ∧ 223 + 3 = 226 ∧ ((223 : Nat) : Int) + 5 = ((228 : Nat) : Int) := ⟨by decide +kernel, rfl, by decide⟩
theorem d_L_law_226 : decode b_L_law 226 = .ok (.iconst 0, 1) ∧ 226 + 1 = 227 := ⟨by decide +kernel, rfl⟩
theorem d_L_law_227 : decode b_L_law 227 = .ok (.ireturn, 1) := by decide +kernel
theorem d_L_law_228 : decode b_L_law 228 = .ok (.iload 5, 2) ∧ 228 + 2 = 230 := ⟨by decide +kernel, rfl⟩
theorem d_L_law_230 : decode b_L_law 230 = .ok (.ifCond .ne 15, 3) ∧ 230 + 3 = 233 ∧ ((230 : Nat) : Int) + 15 = ((245 : Nat) : Int) := ⟨by decide +kernel, rfl, by decide⟩
theorem d_L_law_233 : decode b_L_law 233 = .ok (.aload_n 3, 1) ∧ 233 + 1 = 234 := ⟨by decide +kernel, rfl⟩
theorem d_L_law_234 : decode b_L_law 234 = .ok (.iconst 0, 1) ∧ 234 + 1 = 235 := ⟨by decide +kernel, rfl⟩
theorem d_L_law_235 : decode b_L_law 235 = .ok (.laload, 1) ∧ 235 + 1 = 236 := ⟨by decide +kernel, rfl⟩
theorem d_L_law_236 : decode b_L_law 236 = .ok (.iload 6, 2) ∧ 236 + 2 = 238 := ⟨by decide +kernel, rfl⟩
theorem d_L_law_238 : decode b_L_law 238 = .ok (.i2l, 1) ∧ 238 + 1 = 239 := ⟨by decide +kernel, rfl⟩
theorem d_L_law_239 : decode b_L_law 239 = .ok (.lcmp, 1) ∧ 239 + 1 = 240 := ⟨by decide +kernel, rfl⟩
theorem d_L_law_240 : decode b_L_law 240 = .ok (.ifCond .eq 5, 3) ∧ 240 + 3 = 243 ∧ ((240 : Nat) : Int) + 5 = ((245 : Nat) : Int) := ⟨by decide +kernel, rfl, by decide⟩
theorem d_L_law_243 : decode b_L_law 243 = .ok (.iconst 0, 1) ∧ 243 + 1 = 244 := ⟨by decide +kernel, rfl⟩
theorem d_L_law_244 : decode b_L_law 244 = .ok (.ireturn, 1) := by decide +kernel
theorem d_L_law_245 : decode b_L_law 245 = .ok (.goto 872, 3) ∧ ((245 : Nat) : Int) + 872 = ((1117 : Nat) : Int) := ⟨by decide +kernel, by decide⟩
theorem d_L_law_248 : decode b_L_law 248 = .ok (.aload_n 1, 1) ∧ 248 + 1 = 249 := ⟨by decide +kernel, rfl⟩
theorem d_L_law_249 : decode b_L_law 249 = .ok (.aload_n 0, 1) ∧ 249 + 1 = 250 := ⟨by decide +kernel, rfl⟩
theorem d_L_law_250 : decode b_L_law 250 = .ok (.iload 4, 2) ∧ 250 + 2 = 252 := ⟨by decide +kernel, rfl⟩
theorem d_L_law_252 : decode b_L_law 252 = .ok (.iconst 1, 1) ∧ 252 + 1 = 253 := ⟨by decide +kernel, rfl⟩
theorem d_L_law_253 : decode b_L_law 253 = .ok (.iadd, 1) ∧ 253 + 1 = 254 := ⟨by decide +kernel, rfl⟩
theorem d_L_law_254 : decode b_L_law 254 = .ok (.iaload, 1) ∧ 254 + 1 = 255 := ⟨by decide +kernel, rfl⟩
theorem d_L_law_255 : decode b_L_law 255 = .ok (.aload_n 0, 1) ∧ 255 + 1 = 256 := ⟨by decide +kernel, rfl⟩
theorem d_L_law_256 : decode b_L_law 256 = .ok (.iload 4, 2) ∧ 256 + 2 = 258 := ⟨by decide +kernel, rfl⟩
theorem d_L_law_258 : decode b_L_law 258 = .ok (.iconst 2, 1) ∧ 258 + 1 = 259 := ⟨by decide +kernel, rfl⟩
theorem d_L_law_259 : decode b_L_law 259 = .ok (.iadd, 1) ∧ 259 + 1 = 260 := ⟨by decide +kernel, rfl⟩
theorem d_L_law_260 : decode b_L_law 260 = .ok (.iaload, 1) ∧ 260 + 1 = 261 := ⟨by decide +kernel, rfl⟩
theorem d_L_law_261 : decode b_L_law 261 = .ok (.aload_n 0, 1) ∧ 261 + 1 = 262 := ⟨by decide +kernel, rfl⟩
theorem d_L_law_262 : decode b_L_law 262 = .ok (.iload 4, 2) ∧ 262 + 2 = 264 := ⟨by decide +kernel, rfl⟩
theorem d_L_law_264 : decode b_L_law 264 = .ok (.iconst 3, 1) ∧ 264 + 1 = 265 := ⟨by decide +kernel, rfl⟩
theorem d_L_law_265 : decode b_L_law 265 = .ok (.iadd, 1) ∧ 265 + 1 = 266 := ⟨by decide +kernel, rfl⟩
theorem d_L_law_266 : decode b_L_law 266 = .ok (.iaload, 1) ∧ 266 + 1 = 267 := ⟨by decide +kernel, rfl⟩
theorem d_L_law_267 : decode b_L_law 267 = .ok (.aload_n 3, 1) ∧ 267 + 1 = 268 := ⟨by decide +kernel, rfl⟩
theorem d_L_law_268 : decode b_L_law 268 = .ok (.invokestatic 86, 3) ∧ 268 + 3 = 271 := ⟨by decide +kernel, rfl⟩
theorem d_L_law_271 : decode b_L_law 271 = .ok (.istore 5, 2) ∧ 271 + 2 = 273 := ⟨by decide +kernel, rfl⟩
theorem d_L_law_273 : decode b_L_law 273 = .ok (.aload_n 2, 1) ∧ 273 + 1 = 274 := ⟨by decide +kernel, rfl⟩
theorem d_L_law_274 : decode b_L_law 274 = .ok (.aload_n 0, 1) ∧ 274 + 1 = 275 := ⟨by decide +kernel, rfl⟩
theorem d_L_law_275 : decode b_L_law 275 = .ok (.iload 4, 2) ∧ 275 + 2 = 277 := ⟨by decide +kernel, rfl⟩
theorem d_L_law_277 : decode b_L_law 277 = .ok (.iconst 1, 1) ∧ 277 + 1 = 278 := ⟨by decide +kernel, rfl⟩
theorem d_L_law_278 : decode b_L_law 278 = .ok (.iadd, 1) ∧ 278 + 1 = 279 := ⟨by decide +kernel, rfl⟩
theorem d_L_law_279 : decode b_L_law 279 = .ok (.iaload, 1) ∧ 279 + 1 = 280 := ⟨by decide +kernel, rfl⟩
theorem d_L_law_280 : decode b_L_law 280 = .ok (.aload_n 0, 1) ∧ 280 + 1 = 281 := ⟨by decide +kernel, rfl⟩
theorem d_L_law_281 : decode b_L_law 281 = .ok (.iload 4, 2) ∧ 281 + 2 = 283 := ⟨by decide +kernel, rfl⟩
theorem d_L_law_283 : decode b_L_law 283 = .ok (.iconst 2, 1) ∧ 283 + 1 = 284 := ⟨by decide +kernel, rfl⟩
theorem d_L_law_284 : decode b_L_law 284 = .ok (.iadd, 1) ∧ 284 + 1 = 285 := ⟨by decide +kernel, rfl⟩
theorem d_L_law_285 : decode b_L_law 285 = .ok (.iaload, 1) ∧ 285 + 1 = 286 := ⟨by decide +kernel, rfl⟩
theorem d_L_law_286 : decode b_L_law 286 = .ok (.aload_n 0, 1) ∧ 286 + 1 = 287 := ⟨by decide +kernel, rfl⟩
theorem d_L_law_287 : decode b_L_law 287 = .ok (.iload 4, 2) ∧ 287 + 2 = 289 := ⟨by decide +kernel, rfl⟩
theorem d_L_law_289 : decode b_L_law 289 = .ok (.iconst 3, 1) ∧ 289 + 1 = 290 := ⟨by decide +kernel, rfl⟩
theorem d_L_law_290 : decode b_L_law 290 = .ok (.iadd, 1) ∧ 290 + 1 = 291 := ⟨by decide +kernel, rfl⟩
theorem d_L_law_291 : decode b_L_law 291 = .ok (.iaload, 1) ∧ 291 + 1 = 292 := ⟨by decide +kernel, rfl⟩
theorem d_L_law_292 : decode b_L_law 292 = .ok (.invokevirtual 88, 3) ∧ 292 + 3 = 295 := ⟨by decide +kernel, rfl⟩
theorem d_L_law_295 : decode b_L_law 295 = .ok (.istore 6, 2) ∧ 295 + 2 = 297 := ⟨by decide +kernel, rfl⟩
theorem d_L_law_297 : decode b_L_law 297 = .ok (.aload_n 2, 1) ∧ 297 + 1 = 298 := ⟨by decide +kernel, rfl⟩
theorem d_L_law_298 : decode b_L_law 298 = .ok (.invokevirtual 78, 3) ∧ 298 + 3 = 301 := ⟨by decide +kernel, rfl⟩
theorem d_L_law_301 : decode b_L_law 301 = .ok (.iload 5, 2) ∧ 301 + 2 = 303 := ⟨by decide +kernel, rfl⟩
theorem d_L_law_303 : decode b_L_law 303 = .ok (.if_icmp .eq 5, 3) ∧ 303 + 3 = 306 ∧ ((303 : Nat) : Int) + 5 = ((308 : Nat) : Int) := ⟨by decide +kernel, rfl, by decide⟩
theorem d_L_law_306 : decode b_L_law 306 = .ok (.iconst 0, 1) ∧ 306 + 1 = 307 := ⟨by decide +kernel, rfl⟩
theorem d_L_law_307 : decode b_L_law 307 = .ok (.ireturn, 1) := by decide +kernel
theorem d_L_law_308 : decode b_L_law 308 = .ok (.iload 5, 2) ∧ 308 + 2 = 310 := ⟨by decide +kernel, rfl⟩
theorem d_L_law_310 : decode b_L_law 310 = .ok (.ifCond .ne 15, 3) ∧ 310 + 3 = 313 ∧ ((310 : Nat) : Int) + 15 = ((325 : Nat) : Int) := ⟨by decide +kernel, rfl, by decide⟩
theorem d_L_law_313 : decode b_L_law 313 = .ok (.aload_n 3, 1) ∧ 313 + 1 = 314 := ⟨by decide +kernel, rfl⟩
theorem d_L_law_314 : decode b_L_law 314 = .ok (.iconst 0, 1) ∧ 314 + 1 = 315 := ⟨by decide +kernel, rfl⟩
theorem d_L_law_315 : decode b_L_law 315 = .ok (.laload, 1) ∧ 315 + 1 = 316 := ⟨by decide +kernel, rfl⟩
theorem d_L_law_316 : decode b_L_law 316 = .ok (.iload 6, 2) ∧ 316 + 2 = 318 := ⟨by decide +kernel, rfl⟩
theorem d_L_law_318 : decode b_L_law 318 = .ok (.i2l, 1) ∧ 318 + 1 = 319 := ⟨by decide +kernel, rfl⟩
theorem d_L_law_319 : decode b_L_law 319 = .ok (.lcmp, 1) ∧ 319 + 1 = 320 := ⟨by decide +kernel, rfl⟩
theorem d_L_law_320 : decode b_L_law 320 = .ok (.ifCond .eq 5, 3) ∧ 320 + 3 = 323 ∧ ((320 : Nat) : Int) + 5 = ((325 : Nat) : Int) := ⟨by decide +kernel, rfl, by decide⟩
theorem d_L_law_323 : decode b_L_law 323 = .ok (.iconst 0, 1) ∧ 323 + 1 = 324 := ⟨by decide +kernel, rfl⟩
theorem d_L_law_324 : decode b_L_law 324 = .ok (.ireturn, 1) := by decide +kernel
theorem d_L_law_325 : decode b_L_law 325 = .ok (.goto 792, 3) ∧ ((325 : Nat) : Int) + 792 = ((1117 : Nat) : Int) := ⟨by decide +kernel, by decide⟩
theorem d_L_law_328 : decode b_L_law 328 = .ok (.aload_n 1, 1) ∧ 328 + 1 = 329 := ⟨by decide +kernel, rfl⟩
theorem d_L_law_329 : decode b_L_law 329 = .ok (.aload_n 0, 1) ∧ 329 + 1 = 330 := ⟨by decide +kernel, rfl⟩
theorem d_L_law_330 : decode b_L_law 330 = .ok (.iload 4, 2) ∧ 330 + 2 = 332 := ⟨by decide +kernel, rfl⟩
theorem d_L_law_332 : decode b_L_law 332 = .ok (.iconst 1, 1) ∧ 332 + 1 = 333 := ⟨by decide +kernel, rfl⟩
theorem d_L_law_333 : decode b_L_law 333 = .ok (.iadd, 1) ∧ 333 + 1 = 334 := ⟨by decide +kernel, rfl⟩
theorem d_L_law_334 : decode b_L_law 334 = .ok (.iaload, 1) ∧ 334 + 1 = 335 := ⟨by decide +kernel, rfl⟩
theorem d_L_law_335 : decode b_L_law 335 = .ok (.aload_n 0, 1) ∧ 335 + 1 = 336 := ⟨by decide +kernel, rfl⟩
theorem d_L_law_336 : decode b_L_law 336 = .ok (.iload 4, 2) ∧ 336 + 2 = 338 := ⟨by decide +kernel, rfl⟩
theorem d_L_law_338 : decode b_L_law 338 = .ok (.iconst 2, 1) ∧ 338 + 1 = 339 := ⟨by decide +kernel, rfl⟩
theorem d_L_law_339 : decode b_L_law 339 = .ok (.iadd, 1) ∧ 339 + 1 = 340 := ⟨by decide +kernel, rfl⟩
theorem d_L_law_340 : decode b_L_law 340 = .ok (.iaload, 1) ∧ 340 + 1 = 341 := ⟨by decide +kernel, rfl⟩
theorem d_L_law_341 : decode b_L_law 341 = .ok (.aload_n 0, 1) ∧ 341 + 1 = 342 := ⟨by decide +kernel, rfl⟩
theorem d_L_law_342 : decode b_L_law 342 = .ok (.iload 4, 2) ∧ 342 + 2 = 344 := ⟨by decide +kernel, rfl⟩
theorem d_L_law_344 : decode b_L_law 344 = .ok (.iconst 3, 1) ∧ 344 + 1 = 345 := ⟨by decide +kernel, rfl⟩
theorem d_L_law_345 : decode b_L_law 345 = .ok (.iadd, 1) ∧ 345 + 1 = 346 := ⟨by decide +kernel, rfl⟩
theorem d_L_law_346 : decode b_L_law 346 = .ok (.iaload, 1) ∧ 346 + 1 = 347 := ⟨by decide +kernel, rfl⟩
theorem d_L_law_347 : decode b_L_law 347 = .ok (.invokestatic 89, 3) ∧ 347 + 3 = 350 := ⟨by decide +kernel, rfl⟩
theorem d_L_law_350 : decode b_L_law 350 = .ok (.istore 5, 2) ∧ 350 + 2 = 352 := ⟨by decide +kernel, rfl⟩
theorem d_L_law_352 : decode b_L_law 352 = .ok (.aload_n 2, 1) ∧ 352 + 1 = 353 := ⟨by decide +kernel, rfl⟩
theorem d_L_law_353 : decode b_L_law 353 = .ok (.aload_n 0, 1) ∧ 353 + 1 = 354 := ⟨by decide +kernel, rfl⟩
theorem d_L_law_354 : decode b_L_law 354 = .ok (.iload 4, 2) ∧ 354 + 2 = 356 := ⟨by decide +kernel, rfl⟩
theorem d_L_law_356 : decode b_L_law 356 = .ok (.iconst 1, 1) ∧ 356 + 1 = 357 := ⟨by decide +kernel, rfl⟩
theorem d_L_law_357 : decode b_L_law 357 = .ok (.iadd, 1) ∧ 357 + 1 = 358 := ⟨by decide +kernel, rfl⟩
theorem d_L_law_358 : decode b_L_law 358 = .ok (.iaload, 1) ∧ 358 + 1 = 359 := ⟨by decide +kernel, rfl⟩
theorem d_L_law_359 : decode b_L_law 359 = .ok (.aload_n 0, 1) ∧ 359 + 1 = 360 := ⟨by decide +kernel, rfl⟩
theorem d_L_law_360 : decode b_L_law 360 = .ok (.iload 4, 2) ∧ 360 + 2 = 362 := ⟨by decide +kernel, rfl⟩
theorem d_L_law_362 : decode b_L_law 362 = .ok (.iconst 2, 1) ∧ 362 + 1 = 363 := ⟨by decide +kernel, rfl⟩
theorem d_L_law_363 : decode b_L_law 363 = .ok (.iadd, 1) ∧ 363 + 1 = 364 := ⟨by decide +kernel, rfl⟩
theorem d_L_law_364 : decode b_L_law 364 = .ok (.iaload, 1) ∧ 364 + 1 = 365 := ⟨by decide +kernel, rfl⟩
theorem d_L_law_365 : decode b_L_law 365 = .ok (.aload_n 0, 1) ∧ 365 + 1 = 366 := ⟨by decide +kernel, rfl⟩
theorem d_L_law_366 : decode b_L_law 366 = .ok (.iload 4, 2) ∧ 366 + 2 = 368 := ⟨by decide +kernel, rfl⟩
theorem d_L_law_368 : decode b_L_law 368 = .ok (.iconst 3, 1) ∧ 368 + 1 = 369 := ⟨by decide +kernel, rfl⟩
theorem d_L_law_369 : decode b_L_law 369 = .ok (.iadd, 1) ∧ 369 + 1 = 370 := ⟨by decide +kernel, rfl⟩
theorem d_L_law_370 : decode b_L_law 370 = .ok (.iaload, 1) ∧ 370 + 1 = 371 := ⟨by decide +kernel, rfl⟩
theorem d_L_law_371 : decode b_L_law 371 = .ok (.invokevirtual 92, 3) ∧ 371 + 3 = 374 := ⟨by decide +kernel, rfl⟩
theorem d_L_law_374 : decode b_L_law 374 = .ok (.aload_n 2, 1) ∧ 374 + 1 = 375 := ⟨by decide +kernel, rfl⟩
theorem d_L_law_375 : decode b_L_law 375 = .ok (.invokevirtual 78, 3) ∧ 375 + 3 = 378 := ⟨by decide +kernel, rfl⟩
theorem d_L_law_378 : decode b_L_law 378 = .ok (.iload 5, 2) ∧ 378 + 2 = 380 := ⟨by decide +kernel, rfl⟩
theorem d_L_law_380 : decode b_L_law 380 = .ok (.if_icmp .eq 5, 3) ∧ 380 + 3 = 383 ∧ ((380 : Nat) : Int) + 5 = ((385 : Nat) : Int) := ⟨by decide +kernel, rfl, by decide⟩
theorem d_L_law_383 : decode b_L_law 383 = .ok (.iconst 0, 1) ∧ 383 + 1 = 384 := ⟨by decide +kernel, rfl⟩
theorem d_L_law_384 : decode b_L_law 384 = .ok (.ireturn, 1) := by decide +kernel
theorem d_L_law_385 : decode b_L_law 385 = .ok (.goto 732, 3) ∧ ((385 : Nat) : Int) + 732 = ((1117 : Nat) : Int) := ⟨by decide +kernel, by decide⟩
theorem d_L_law_388 : decode b_L_law 388 = .ok (.aload_n 1, 1) ∧ 388 + 1 = 389 := ⟨by decide +kernel, rfl⟩
theorem d_L_law_389 : decode b_L_law 389 = .ok (.aload_n 0, 1) ∧ 389 + 1 = 390 := ⟨by decide +kernel, rfl⟩
theorem d_L_law_390 : decode b_L_law 390 = .ok (.iload 4, 2) ∧ 390 + 2 = 392 := ⟨by decide +kernel, rfl⟩
theorem d_L_law_392 : decode b_L_law 392 = .ok (.iconst 1, 1) ∧ 392 + 1 = 393 := ⟨by decide +kernel, rfl⟩
theorem d_L_law_393 : decode b_L_law 393 = .ok (.iadd, 1) ∧ 393 + 1 = 394 := ⟨by decide +kernel, rfl⟩
theorem d_L_law_394 : decode b_L_law 394 = .ok (.iaload, 1) ∧ 394 + 1 = 395 := ⟨by decide +kernel, rfl⟩
theorem d_L_law_395 : decode b_L_law 395 = .ok (.aload_n 0, 1) ∧ 395 + 1 = 396 := ⟨by decide +kernel, rfl⟩
theorem d_L_law_396 : decode b_L_law 396 = .ok (.iload 4, 2) ∧ 396 + 2 = 398 := ⟨by decide +kernel, rfl⟩
theorem d_L_law_398 : decode b_L_law 398 = .ok (.iconst 2, 1) ∧ 398 + 1 = 399 := ⟨by decide +kernel, rfl⟩
theorem d_L_law_399 : decode b_L_law 399 = .ok (.iadd, 1) ∧ 399 + 1 = 400 := ⟨by decide +kernel, rfl⟩
theorem d_L_law_400 : decode b_L_law 400 = .ok (.iaload, 1) ∧ 400 + 1 = 401 := ⟨by decide +kernel, rfl⟩
theorem d_L_law_401 : decode b_L_law 401 = .ok (.aload_n 3, 1) ∧ 401 + 1 = 402 := ⟨by decide +kernel, rfl⟩
theorem d_L_law_402 : decode b_L_law 402 = .ok (.invokestatic 93, 3) ∧ 402 + 3 = 405 := ⟨by decide +kernel, rfl⟩
theorem d_L_law_405 : decode b_L_law 405 = .ok (.istore 5, 2) ∧ 405 + 2 = 407 := ⟨by decide +kernel, rfl⟩
theorem d_L_law_407 : decode b_L_law 407 = .ok (.aload_n 2, 1) ∧ 407 + 1 = 408 := ⟨by decide +kernel, rfl⟩
theorem d_L_law_408 : decode b_L_law 408 = .ok (.aload_n 0, 1) ∧ 408 + 1 = 409 := ⟨by decide +kernel, rfl⟩
theorem d_L_law_409 : decode b_L_law 409 = .ok (.iload 4, 2) ∧ 409 + 2 = 411 := ⟨by decide +kernel, rfl⟩
theorem d_L_law_411 : decode b_L_law 411 = .ok (.iconst 1, 1) ∧ 411 + 1 = 412 := ⟨by decide +kernel, rfl⟩
theorem d_L_law_412 : decode b_L_law 412 = .ok (.iadd, 1) ∧ 412 + 1 = 413 := ⟨by decide +kernel, rfl⟩
theorem d_L_law_413 : decode b_L_law 413 = .ok (.iaload, 1) ∧ 413 + 1 = 414 := ⟨by decide +kernel, rfl⟩
theorem d_L_law_414 : decode b_L_law 414 = .ok (.aload_n 0, 1) ∧ 414 + 1 = 415 := ⟨by decide +kernel, rfl⟩
theorem d_L_law_415 : decode b_L_law 415 = .ok (.iload 4, 2) ∧ 415 + 2 = 417 := ⟨by decide +kernel, rfl⟩
theorem d_L_law_417 : decode b_L_law 417 = .ok (.iconst 2, 1) ∧ 417 + 1 = 418 := ⟨by decide +kernel, rfl⟩
theorem d_L_law_418 : decode b_L_law 418 = .ok (.iadd, 1) ∧ 418 + 1 = 419 := ⟨by decide +kernel, rfl⟩
theorem d_L_law_419 : decode b_L_law 419 = .ok (.iaload, 1) ∧ 419 + 1 = 420 := ⟨by decide +kernel, rfl⟩
theorem d_L_law_420 : decode b_L_law 420 = .ok (.invokevirtual 96, 3) ∧ 420 + 3 = 423 := ⟨by decide +kernel, rfl⟩
theorem d_L_law_423 : decode b_L_law 423 = .ok (.istore 6, 2) ∧ 423 + 2 = 425 := ⟨by decide +kernel, rfl⟩
theorem d_L_law_425 : decode b_L_law 425 = .ok (.aload_n 2, 1) ∧ 425 + 1 = 426 := ⟨by decide +kernel, rfl⟩
theorem d_L_law_426 : decode b_L_law 426 = .ok (.invokevirtual 78, 3) ∧ 426 + 3 = 429 := ⟨by decide +kernel, rfl⟩
theorem d_L_law_429 : decode b_L_law 429 = .ok (.iload 5, 2) ∧ 429 + 2 = 431 := ⟨by decide +kernel, rfl⟩
theorem d_L_law_431 : decode b_L_law 431 = .ok (.if_icmp .eq 5, 3) ∧ 431 + 3 = 434 ∧ ((431 : Nat) : Int) + 5 = ((436 : Nat) : Int) := ⟨by decide +kernel, rfl, by decide⟩
theorem d_L_law_434 : decode b_L_law 434 = .ok (.iconst 0, 1) ∧ 434 + 1 = 435 := ⟨by decide +kernel, rfl⟩
theorem d_L_law_435 : decode b_L_law 435 = .ok (.ireturn, 1) := by decide +kernel
theorem d_L_law_436 : decode b_L_law 436 = .ok (.iload 5, 2) ∧ 436 + 2 = 438 := ⟨by decide +kernel, rfl⟩
theorem d_L_law_438 : decode b_L_law 438 = .ok (.ifCond .ne 15, 3) ∧ 438 + 3 = 441 ∧ ((438 : Nat) : Int) + 15 = ((453 : Nat) : Int) := ⟨by decide +kernel, rfl, by decide⟩
theorem d_L_law_441 : decode b_L_law 441 = .ok (.aload_n 3, 1) ∧ 441 + 1 = 442 := ⟨by decide +kernel, rfl⟩
theorem d_L_law_442 : decode b_L_law 442 = .ok (.iconst 0, 1) ∧ 442 + 1 = 443 := ⟨by decide +kernel, rfl⟩
theorem d_L_law_443 : decode b_L_law 443 = .ok (.laload, 1) ∧ 443 + 1 = 444 := ⟨by decide +kernel, rfl⟩
theorem d_L_law_444 : decode b_L_law 444 = .ok (.iload 6, 2) ∧ 444 + 2 = 446 := ⟨by decide +kernel, rfl⟩
theorem d_L_law_446 : decode b_L_law 446 = .ok (.i2l, 1) ∧ 446 + 1 = 447 := ⟨by decide +kernel, rfl⟩
theorem d_L_law_447 : decode b_L_law 447 = .ok (.lcmp, 1) ∧ 447 + 1 = 448 := ⟨by decide +kernel, rfl⟩
theorem d_L_law_448 : decode b_L_law 448 = .ok (.ifCond .eq 5, 3) ∧ 448 + 3 = 451 ∧ ((448 : Nat) : Int) + 5 = ((453 : Nat) : Int) := ⟨by decide +kernel, rfl, by decide⟩
theorem d_L_law_451 : decode b_L_law 451 = .ok (.iconst 0, 1) ∧ 451 + 1 = 452 := ⟨by decide +kernel, rfl⟩
theorem d_L_law_452 : decode b_L_law 452 = .ok (.ireturn, 1) := by decide +kernel
theorem d_L_law_453 : decode b_L_law 453 = .ok (.goto 664, 3) ∧ ((453 : Nat) : Int) + 664 = ((1117 : Nat) : Int) := ⟨by decide +kernel, by decide⟩
theorem d_L_law_456 : decode b_L_law 456 = .ok (.aload_n 1, 1) ∧ 456 + 1 = 457 := ⟨by decide +kernel, rfl⟩
theorem d_L_law_457 : decode b_L_law 457 = .ok (.aload_n 0, 1) ∧ 457 + 1 = 458 := ⟨by decide +kernel, rfl⟩
theorem d_L_law_458 : decode b_L_law 458 = .ok (.iload 4, 2) ∧ 458 + 2 = 460 := ⟨by decide +kernel, rfl⟩
theorem d_L_law_460 : decode b_L_law 460 = .ok (.iconst 1, 1) ∧ 460 + 1 = 461 := ⟨by decide +kernel, rfl⟩
theorem d_L_law_461 : decode b_L_law 461 = .ok (.iadd, 1) ∧ 461 + 1 = 462 := ⟨by decide +kernel, rfl⟩
theorem d_L_law_462 : decode b_L_law 462 = .ok (.iaload, 1) ∧ 462 + 1 = 463 := ⟨by decide +kernel, rfl⟩
theorem d_L_law_463 : decode b_L_law 463 = .ok (.invokestatic 97, 3) ∧ 463 + 3 = 466 := ⟨by decide +kernel, rfl⟩
theorem d_L_law_466 : decode b_L_law 466 = .ok (.istore 5, 2) ∧ 466 + 2 = 468 := ⟨by decide +kernel, rfl⟩
theorem d_L_law_468 : decode b_L_law 468 = .ok (.aload_n 2, 1) ∧ 468 + 1 = 469 := ⟨by decide +kernel, rfl⟩
theorem d_L_law_469 : decode b_L_law 469 = .ok (.aload_n 0, 1) ∧ 469 + 1 = 470 := ⟨by decide +kernel, rfl⟩
theorem d_L_law_470 : decode b_L_law 470 = .ok (.iload 4, 2) ∧ 470 + 2 = 472 := ⟨by decide +kernel, rfl⟩
theorem d_L_law_472 : decode b_L_law 472 = .ok (.iconst 1, 1) ∧ 472 + 1 = 473 := ⟨by decide +kernel, rfl⟩
theorem d_L_law_473 : decode b_L_law 473 = .ok (.iadd, 1) ∧ 473 + 1 = 474 := ⟨by decide +kernel, rfl⟩
theorem d_L_law_474 : decode b_L_law 474 = .ok (.iaload, 1) ∧ 474 + 1 = 475 := ⟨by decide +kernel, rfl⟩
theorem d_L_law_475 : decode b_L_law 475 = .ok (.invokevirtual 100, 3) ∧ 475 + 3 = 478 := ⟨by decide +kernel, rfl⟩
theorem d_L_law_478 : decode b_L_law 478 = .ok (.aload_n 2, 1) ∧ 478 + 1 = 479 := ⟨by decide +kernel, rfl⟩
theorem d_L_law_479 : decode b_L_law 479 = .ok (.invokevirtual 78, 3) ∧ 479 + 3 = 482 := ⟨by decide +kernel, rfl⟩
theorem d_L_law_482 : decode b_L_law 482 = .ok (.iload 5, 2) ∧ 482 + 2 = 484 := ⟨by decide +kernel, rfl⟩
theorem d_L_law_484 : decode b_L_law 484 = .ok (.if_icmp .eq 5, 3) ∧ 484 + 3 = 487 ∧ ((484 : Nat) : Int) + 5 = ((489 : Nat) : Int) := ⟨by decide +kernel, rfl, by decide⟩
theorem d_L_law_487 : decode b_L_law 487 = .ok (.iconst 0, 1) ∧ 487 + 1 = 488 := ⟨by decide +kernel, rfl⟩
theorem d_L_law_488 : decode b_L_law 488 = .ok (.ireturn, 1) := by decide +kernel
theorem d_L_law_489 : decode b_L_law 489 = .ok (.goto 628, 3) ∧ ((489 : Nat) : Int) + 628 = ((1117 : Nat) : Int) := ⟨by decide +kernel, by decide⟩
theorem d_L_law_492 : decode b_L_law 492 = .ok (.aload_n 1, 1) ∧ 492 + 1 = 493 := ⟨by decide +kernel, rfl⟩
theorem d_L_law_493 : decode b_L_law 493 = .ok (.aload_n 0, 1) ∧ 493 + 1 = 494 := ⟨by decide +kernel, rfl⟩
theorem d_L_law_494 : decode b_L_law 494 = .ok (.iload 4, 2) ∧ 494 + 2 = 496 := ⟨by decide +kernel, rfl⟩
theorem d_L_law_496 : decode b_L_law 496 = .ok (.iconst 1, 1) ∧ 496 + 1 = 497 := ⟨by decide +kernel, rfl⟩
theorem d_L_law_497 : decode b_L_law 497 = .ok (.iadd, 1) ∧ 497 + 1 = 498 := ⟨by decide +kernel, rfl⟩
theorem d_L_law_498 : decode b_L_law 498 = .ok (.iaload, 1) ∧ 498 + 1 = 499 := ⟨by decide +kernel, rfl⟩
theorem d_L_law_499 : decode b_L_law 499 = .ok (.aload_n 3, 1) ∧ 499 + 1 = 500 := ⟨by decide +kernel, rfl⟩
theorem d_L_law_500 : decode b_L_law 500 = .ok (.invokestatic 101, 3) ∧ 500 + 3 = 503 := ⟨by decide +kernel, rfl⟩
theorem d_L_law_503 : decode b_L_law 503 = .ok (.istore 5, 2) ∧ 503 + 2 = 505 := ⟨by decide +kernel, rfl⟩
theorem d_L_law_505 : decode b_L_law 505 = .ok (.aload_n 2, 1) ∧ 505 + 1 = 506 := ⟨by decide +kernel, rfl⟩
theorem d_L_law_506 : decode b_L_law 506 = .ok (.aload_n 0, 1) ∧ 506 + 1 = 507 := ⟨by decide +kernel, rfl⟩
theorem d_L_law_507 : decode b_L_law 507 = .ok (.iload 4, 2) ∧ 507 + 2 = 509 := ⟨by decide +kernel, rfl⟩
theorem d_L_law_509 : decode b_L_law 509 = .ok (.iconst 1, 1) ∧ 509 + 1 = 510 := ⟨by decide +kernel, rfl⟩
theorem d_L_law_510 : decode b_L_law 510 = .ok (.iadd, 1) ∧ 510 + 1 = 511 := ⟨by decide +kernel, rfl⟩
theorem d_L_law_511 : decode b_L_law 511 = .ok (.iaload, 1) ∧ 511 + 1 = 512 := ⟨by decide +kernel, rfl⟩
theorem d_L_law_512 : decode b_L_law 512 = .ok (.invokevirtual 104, 3) ∧ 512 + 3 = 515 := ⟨by decide +kernel, rfl⟩
theorem d_L_law_515 : decode b_L_law 515 = .ok (.istore 6, 2) ∧ 515 + 2 = 517 := ⟨by decide +kernel, rfl⟩
theorem d_L_law_517 : decode b_L_law 517 = .ok (.aload_n 2, 1) ∧ 517 + 1 = 518 := ⟨by decide +kernel, rfl⟩
theorem d_L_law_518 : decode b_L_law 518 = .ok (.invokevirtual 78, 3) ∧ 518 + 3 = 521 := ⟨by decide +kernel, rfl⟩
theorem d_L_law_521 : decode b_L_law 521 = .ok (.iload 5, 2) ∧ 521 + 2 = 523 := ⟨by decide +kernel, rfl⟩
theorem d_L_law_523 : decode b_L_law 523 = .ok (.if_icmp .eq 5, 3) ∧ 523 + 3 = 526 ∧ ((523 : Nat) : Int) + 5 = ((528 : Nat) : Int) := ⟨by decide +kernel, rfl, by decide⟩
theorem d_L_law_526 : decode b_L_law 526 = .ok (.iconst 0, 1) ∧ 526 + 1 = 527 := ⟨by decide +kernel, rfl⟩
theorem d_L_law_527 : decode b_L_law 527 = .ok (.ireturn, 1) := by decide +kernel
theorem d_L_law_528 : decode b_L_law 528 = .ok (.iload 5, 2) ∧ 528 + 2 = 530 := ⟨by decide +kernel, rfl⟩
theorem d_L_law_530 : decode b_L_law 530 = .ok (.ifCond .ne 22, 3) ∧ 530 + 3 = 533 ∧ ((530 : Nat) : Int) + 22 = ((552 : Nat) : Int) := ⟨by decide +kernel, rfl, by decide⟩
theorem d_L_law_533 : decode b_L_law 533 = .ok (.aload_n 3, 1) ∧ 533 + 1 = 534 := ⟨by decide +kernel, rfl⟩
theorem d_L_law_534 : decode b_L_law 534 = .ok (.iconst 0, 1) ∧ 534 + 1 = 535 := ⟨by decide +kernel, rfl⟩
theorem d_L_law_535 : decode b_L_law 535 = .ok (.laload, 1) ∧ 535 + 1 = 536 := ⟨by decide +kernel, rfl⟩
theorem d_L_law_536 : decode b_L_law 536 = .ok (.iload 6, 2) ∧ 536 + 2 = 538 := ⟨by decide +kernel, rfl⟩
theorem d_L_law_538 : decode b_L_law 538 = .ok (.ifCond .eq 7, 3) ∧ 538 + 3 = 541 ∧ ((538 : Nat) : Int) + 7 = ((545 : Nat) : Int) := ⟨by decide +kernel, rfl, by decide⟩
theorem d_L_law_541 : decode b_L_law 541 = .ok (.lconst 1, 1) ∧ 541 + 1 = 542 := ⟨by decide +kernel, rfl⟩
theorem d_L_law_542 : decode b_L_law 542 = .ok (.goto 4, 3) ∧ ((542 : Nat) : Int) + 4 = ((546 : Nat) : Int) := ⟨by decide +kernel, by decide⟩
theorem d_L_law_545 : decode b_L_law 545 = .ok (.lconst 0, 1) ∧ 545 + 1 = 546 := ⟨by decide +kernel, rfl⟩
theorem d_L_law_546 : decode b_L_law 546 = .ok (.lcmp, 1) ∧ 546 + 1 = 547 := ⟨by decide +kernel, rfl⟩
theorem d_L_law_547 : decode b_L_law 547 = .ok (.ifCond .eq 5, 3) ∧ 547 + 3 = 550 ∧ ((547 : Nat) : Int) + 5 = ((552 : Nat) : Int) := ⟨by decide +kernel, rfl, by decide⟩
theorem d_L_law_550 : decode b_L_law 550 = .ok (.iconst 0, 1) ∧ 550 + 1 = 551 := ⟨by decide +kernel, rfl⟩
theorem d_L_law_551 : decode b_L_law 551 = .ok (.ireturn, 1) := by decide +kernel
theorem d_L_law_552 : decode b_L_law 552 = .ok (.goto 565, 3) ∧ ((552 : Nat) : Int) + 565 = ((1117 : Nat) : Int) := ⟨by decide +kernel, by decide⟩
theorem d_L_law_555 : decode b_L_law 555 = .ok (.aload_n 1, 1) ∧ 555 + 1 = 556 := ⟨by decide +kernel, rfl⟩
theorem d_L_law_556 : decode b_L_law 556 = .ok (.aload_n 0, 1) ∧ 556 + 1 = 557 := ⟨by decide +kernel, rfl⟩
theorem d_L_law_557 : decode b_L_law 557 = .ok (.iload 4, 2) ∧ 557 + 2 = 559 := ⟨by decide +kernel, rfl⟩
theorem d_L_law_559 : decode b_L_law 559 = .ok (.iconst 1, 1) ∧ 559 + 1 = 560 := ⟨by decide +kernel, rfl⟩
theorem d_L_law_560 : decode b_L_law 560 = .ok (.iadd, 1) ∧ 560 + 1 = 561 := ⟨by decide +kernel, rfl⟩
theorem d_L_law_561 : decode b_L_law 561 = .ok (.iaload, 1) ∧ 561 + 1 = 562 := ⟨by decide +kernel, rfl⟩
theorem d_L_law_562 : decode b_L_law 562 = .ok (.aload_n 0, 1) ∧ 562 + 1 = 563 := ⟨by decide +kernel, rfl⟩
theorem d_L_law_563 : decode b_L_law 563 = .ok (.iload 4, 2) ∧ 563 + 2 = 565 := ⟨by decide +kernel, rfl⟩
theorem d_L_law_565 : decode b_L_law 565 = .ok (.iconst 2, 1) ∧ 565 + 1 = 566 := ⟨by decide +kernel, rfl⟩
theorem d_L_law_566 : decode b_L_law 566 = .ok (.iadd, 1) ∧ 566 + 1 = 567 := ⟨by decide +kernel, rfl⟩
theorem d_L_law_567 : decode b_L_law 567 = .ok (.iaload, 1) ∧ 567 + 1 = 568 := ⟨by decide +kernel, rfl⟩
theorem d_L_law_568 : decode b_L_law 568 = .ok (.aload_n 3, 1) ∧ 568 + 1 = 569 := ⟨by decide +kernel, rfl⟩
theorem d_L_law_569 : decode b_L_law 569 = .ok (.invokestatic 105, 3) ∧ 569 + 3 = 572 := ⟨by decide +kernel, rfl⟩
theorem d_L_law_572 : decode b_L_law 572 = .ok (.istore 5, 2) ∧ 572 + 2 = 574 := ⟨by decide +kernel, rfl⟩
theorem d_L_law_574 : decode b_L_law 574 = .ok (.aload_n 2, 1) ∧ 574 + 1 = 575 := ⟨by decide +kernel, rfl⟩
theorem d_L_law_575 : decode b_L_law 575 = .ok (.aload_n 0, 1) ∧ 575 + 1 = 576 := ⟨by decide +kernel, rfl⟩
theorem d_L_law_576 : decode b_L_law 576 = .ok (.iload 4, 2) ∧ 576 + 2 = 578 := ⟨by decide +kernel, rfl⟩
theorem d_L_law_578 : decode b_L_law 578 = .ok (.iconst 1, 1) ∧ 578 + 1 = 579 := ⟨by decide +kernel, rfl⟩
theorem d_L_law_579 : decode b_L_law 579 = .ok (.iadd, 1) ∧ 579 + 1 = 580 := ⟨by decide +kernel, rfl⟩
theorem d_L_law_580 : decode b_L_law 580 = .ok (.iaload, 1) ∧ 580 + 1 = 581 := ⟨by decide +kernel, rfl⟩
theorem d_L_law_581 : decode b_L_law 581 = .ok (.aload_n 0, 1) ∧ 581 + 1 = 582 := ⟨by decide +kernel, rfl⟩
theorem d_L_law_582 : decode b_L_law 582 = .ok (.iload 4, 2) ∧ 582 + 2 = 584 := ⟨by decide +kernel, rfl⟩
theorem d_L_law_584 : decode b_L_law 584 = .ok (.iconst 2, 1) ∧ 584 + 1 = 585 := ⟨by decide +kernel, rfl⟩
theorem d_L_law_585 : decode b_L_law 585 = .ok (.iadd, 1) ∧ 585 + 1 = 586 := ⟨by decide +kernel, rfl⟩
theorem d_L_law_586 : decode b_L_law 586 = .ok (.iaload, 1) ∧ 586 + 1 = 587 := ⟨by decide +kernel, rfl⟩
theorem d_L_law_587 : decode b_L_law 587 = .ok (.invokevirtual 107, 3) ∧ 587 + 3 = 590 := ⟨by decide +kernel, rfl⟩
theorem d_L_law_590 : decode b_L_law 590 = .ok (.istore 6, 2) ∧ 590 + 2 = 592 := ⟨by decide +kernel, rfl⟩
theorem d_L_law_592 : decode b_L_law 592 = .ok (.aload_n 2, 1) ∧ 592 + 1 = 593 := ⟨by decide +kernel, rfl⟩
theorem d_L_law_593 : decode b_L_law 593 = .ok (.invokevirtual 78, 3) ∧ 593 + 3 = 596 := ⟨by decide +kernel, rfl⟩
theorem d_L_law_596 : decode b_L_law 596 = .ok (.iload 5, 2) ∧ 596 + 2 = 598 := ⟨by decide +kernel, rfl⟩
theorem d_L_law_598 : decode b_L_law 598 = .ok (.if_icmp .eq 5, 3) ∧ 598 + 3 = 601 ∧ ((598 : Nat) : Int) + 5 = ((603 : Nat) : Int) := ⟨by decide +kernel, rfl, by decide⟩
theorem d_L_law_601 : decode b_L_law 601 = .ok (.iconst 0, 1) ∧ 601 + 1 = 602 := ⟨by decide +kernel, rfl⟩
theorem d_L_law_602 : decode b_L_law 602 = .ok (.ireturn, 1) := by decide +kernel
theorem d_L_law_603 : decode b_L_law 603 = .ok (.iload 5, 2) ∧ 603 + 2 = 605 := ⟨by decide +kernel, rfl⟩
theorem d_L_law_605 : decode b_L_law 605 = .ok (.ifCond .ne 15, 3) ∧ 605 + 3 = 608 ∧ ((605 : Nat) : Int) + 15 = ((620 : Nat) : Int) := ⟨by decide +kernel, rfl, by decide⟩
theorem d_L_law_608 : decode b_L_law 608 = .ok (.aload_n 3, 1) ∧ 608 + 1 = 609 := ⟨by decide +kernel, rfl⟩
theorem d_L_law_609 : decode b_L_law 609 = .ok (.iconst 0, 1) ∧ 609 + 1 = 610 := ⟨by decide +kernel, rfl⟩
theorem d_L_law_610 : decode b_L_law 610 = .ok (.laload, 1) ∧ 610 + 1 = 611 := ⟨by decide +kernel, rfl⟩
theorem d_L_law_611 : decode b_L_law 611 = .ok (.iload 6, 2) ∧ 611 + 2 = 613 := ⟨by decide +kernel, rfl⟩
theorem d_L_law_613 : decode b_L_law 613 = .ok (.i2l, 1) ∧ 613 + 1 = 614 := ⟨by decide +kernel, rfl⟩
theorem d_L_law_614 : decode b_L_law 614 = .ok (.lcmp, 1) ∧ 614 + 1 = 615 := ⟨by decide +kernel, rfl⟩
theorem d_L_law_615 : decode b_L_law 615 = .ok (.ifCond .eq 5, 3) ∧ 615 + 3 = 618 ∧ ((615 : Nat) : Int) + 5 = ((620 : Nat) : Int) := ⟨by decide +kernel, rfl, by decide⟩
theorem d_L_law_618 : decode b_L_law 618 = .ok (.iconst 0, 1) ∧ 618 + 1 = 619 := ⟨by decide +kernel, rfl⟩
theorem d_L_law_619 : decode b_L_law 619 = .ok (.ireturn, 1) := by decide +kernel
theorem d_L_law_620 : decode b_L_law 620 = .ok (.goto 497, 3) ∧ ((620 : Nat) : Int) + 497 = ((1117 : Nat) : Int) := ⟨by decide +kernel, by decide⟩
theorem d_L_law_623 : decode b_L_law 623 = .ok (.aload_n 1, 1) ∧ 623 + 1 = 624 := ⟨by decide +kernel, rfl⟩
theorem d_L_law_624 : decode b_L_law 624 = .ok (.aload_n 0, 1) ∧ 624 + 1 = 625 := ⟨by decide +kernel, rfl⟩
theorem d_L_law_625 : decode b_L_law 625 = .ok (.iload 4, 2) ∧ 625 + 2 = 627 := ⟨by decide +kernel, rfl⟩
theorem d_L_law_627 : decode b_L_law 627 = .ok (.iconst 1, 1) ∧ 627 + 1 = 628 := ⟨by decide +kernel, rfl⟩
theorem d_L_law_628 : decode b_L_law 628 = .ok (.iadd, 1) ∧ 628 + 1 = 629 := ⟨by decide +kernel, rfl⟩
theorem d_L_law_629 : decode b_L_law 629 = .ok (.iaload, 1) ∧ 629 + 1 = 630 := ⟨by decide +kernel, rfl⟩
theorem d_L_law_630 : decode b_L_law 630 = .ok (.aload_n 0, 1) ∧ 630 + 1 = 631 := ⟨by decide +kernel, rfl⟩
theorem d_L_law_631 : decode b_L_law 631 = .ok (.iload 4, 2) ∧ 631 + 2 = 633 := ⟨by decide +kernel, rfl⟩
theorem d_L_law_633 : decode b_L_law 633 = .ok (.iconst 2, 1) ∧ 633 + 1 = 634 := ⟨by decide +kernel, rfl⟩
theorem d_L_law_634 : decode b_L_law 634 = .ok (.iadd, 1) ∧ 634 + 1 = 635 := ⟨by decide +kernel, rfl⟩
theorem d_L_law_635 : decode b_L_law 635 = .ok (.iaload, 1) ∧ 635 + 1 = 636 := ⟨by decide +kernel, rfl⟩
theorem d_L_law_636 : decode b_L_law 636 = .ok (.aload_n 0, 1) ∧ 636 + 1 = 637 := ⟨by decide +kernel, rfl⟩
theorem d_L_law_637 : decode b_L_law 637 = .ok (.iload 4, 2) ∧ 637 + 2 = 639 := ⟨by decide +kernel, rfl⟩
theorem d_L_law_639 : decode b_L_law 639 = .ok (.iconst 3, 1) ∧ 639 + 1 = 640 := ⟨by decide +kernel, rfl⟩
theorem d_L_law_640 : decode b_L_law 640 = .ok (.iadd, 1) ∧ 640 + 1 = 641 := ⟨by decide +kernel, rfl⟩
theorem d_L_law_641 : decode b_L_law 641 = .ok (.iaload, 1) ∧ 641 + 1 = 642 := ⟨by decide +kernel, rfl⟩
theorem d_L_law_642 : decode b_L_law 642 = .ok (.aload_n 3, 1) ∧ 642 + 1 = 643 := ⟨by decide +kernel, rfl⟩
theorem d_L_law_643 : decode b_L_law 643 = .ok (.invokestatic 108, 3) ∧ 643 + 3 = 646 := ⟨by decide +kernel, rfl⟩
theorem d_L_law_646 : decode b_L_law 646 = .ok (.istore 5, 2) ∧ 646 + 2 = 648 := ⟨by decide +kernel, rfl⟩
theorem d_L_law_648 : decode b_L_law 648 = .ok (.aload_n 2, 1) ∧ 648 + 1 = 649 := ⟨by decide +kernel, rfl⟩
theorem d_L_law_649 : decode b_L_law 649 = .ok (.aload_n 0, 1) ∧ 649 + 1 = 650 := ⟨by decide +kernel, rfl⟩
theorem d_L_law_650 : decode b_L_law 650 = .ok (.iload 4, 2) ∧ 650 + 2 = 652 := ⟨by decide +kernel, rfl⟩
theorem d_L_law_652 : decode b_L_law 652 = .ok (.iconst 1, 1) ∧ 652 + 1 = 653 := ⟨by decide +kernel, rfl⟩
theorem d_L_law_653 : decode b_L_law 653 = .ok (.iadd, 1) ∧ 653 + 1 = 654 := ⟨by decide +kernel, rfl⟩
theorem d_L_law_654 : decode b_L_law 654 = .ok (.iaload, 1) ∧ 654 + 1 = 655 := ⟨by decide +kernel, rfl⟩
theorem d_L_law_655 : decode b_L_law 655 = .ok (.aload_n 0, 1) ∧ 655 + 1 = 656 := ⟨by decide +kernel, rfl⟩
theorem d_L_law_656 : decode b_L_law 656 = .ok (.iload 4, 2) ∧ 656 + 2 = 658 := ⟨by decide +kernel, rfl⟩
theorem d_L_law_658 : decode b_L_law 658 = .ok (.iconst 2, 1) ∧ 658 + 1 = 659 := ⟨by decide +kernel, rfl⟩
theorem d_L_law_659 : decode b_L_law 659 = .ok (.iadd, 1) ∧ 659 + 1 = 660 := ⟨by decide +kernel, rfl⟩
theorem d_L_law_660 : decode b_L_law 660 = .ok (.iaload, 1) ∧ 660 + 1 = 661 := ⟨by decide +kernel, rfl⟩
theorem d_L_law_661 : decode b_L_law 661 = .ok (.aload_n 0, 1) ∧ 661 + 1 = 662 := ⟨by decide +kernel, rfl⟩
theorem d_L_law_662 : decode b_L_law 662 = .ok (.iload 4, 2) ∧ 662 + 2 = 664 := ⟨by decide +kernel, rfl⟩
theorem d_L_law_664 : decode b_L_law 664 = .ok (.iconst 3, 1) ∧ 664 + 1 = 665 := ⟨by decide +kernel, rfl⟩
theorem d_L_law_665 : decode b_L_law 665 = .ok (.iadd, 1) ∧ 665 + 1 = 666 := ⟨by decide +kernel, rfl⟩
theorem d_L_law_666 : decode b_L_law 666 = .ok (.iaload, 1) ∧ 666 + 1 = 667 := ⟨by decide +kernel, rfl⟩
theorem d_L_law_667 : decode b_L_law 667 = .ok (.invokevirtual 110, 3) ∧ 667 + 3 = 670 := ⟨by decide +kernel, rfl⟩
theorem d_L_law_670 : decode b_L_law 670 = .ok (.istore 6, 2) ∧ 670 + 2 = 672 := ⟨by decide +kernel, rfl⟩
theorem d_L_law_672 : decode b_L_law 672 = .ok (.aload_n 2, 1) ∧ 672 + 1 = 673 := ⟨by decide +kernel, rfl⟩
theorem d_L_law_673 : decode b_L_law 673 = .ok (.invokevirtual 78, 3) ∧ 673 + 3 = 676 := ⟨by decide +kernel, rfl⟩
theorem d_L_law_676 : decode b_L_law 676 = .ok (.iload 5, 2) ∧ 676 + 2 = 678 := ⟨by decide +kernel, rfl⟩
theorem d_L_law_678 : decode b_L_law 678 = .ok (.if_icmp .eq 5, 3) ∧ 678 + 3 = 681 ∧ ((678 : Nat) : Int) + 5 = ((683 : Nat) : Int) := ⟨by decide +kernel, rfl, by decide⟩
theorem d_L_law_681 : decode b_L_law 681 = .ok (.iconst 0, 1) ∧ 681 + 1 = 682 := ⟨by decide +kernel, rfl⟩
theorem d_L_law_682 : decode b_L_law 682 = .ok (.ireturn, 1) := by decide +kernel
theorem d_L_law_683 : decode b_L_law 683 = .ok (.iload 5, 2) ∧ 683 + 2 = 685 := ⟨by decide +kernel, rfl⟩
theorem d_L_law_685 : decode b_L_law 685 = .ok (.ifCond .ne 15, 3) ∧ 685 + 3 = 688 ∧ ((685 : Nat) : Int) + 15 = ((700 : Nat) : Int) := ⟨by decide +kernel, rfl, by decide⟩
theorem d_L_law_688 : decode b_L_law 688 = .ok (.aload_n 3, 1) ∧ 688 + 1 = 689 := ⟨by decide +kernel, rfl⟩
theorem d_L_law_689 : decode b_L_law 689 = .ok (.iconst 0, 1) ∧ 689 + 1 = 690 := ⟨by decide +kernel, rfl⟩
theorem d_L_law_690 : decode b_L_law 690 = .ok (.laload, 1) ∧ 690 + 1 = 691 := ⟨by decide +kernel, rfl⟩
theorem d_L_law_691 : decode b_L_law 691 = .ok (.iload 6, 2) ∧ 691 + 2 = 693 := ⟨by decide +kernel, rfl⟩
theorem d_L_law_693 : decode b_L_law 693 = .ok (.i2l, 1) ∧ 693 + 1 = 694 := ⟨by decide +kernel, rfl⟩
theorem d_L_law_694 : decode b_L_law 694 = .ok (.lcmp, 1) ∧ 694 + 1 = 695 := ⟨by decide +kernel, rfl⟩
theorem d_L_law_695 : decode b_L_law 695 = .ok (.ifCond .eq 5, 3) ∧ 695 + 3 = 698 ∧ ((695 : Nat) : Int) + 5 = ((700 : Nat) : Int) := ⟨by decide +kernel, rfl, by decide⟩
theorem d_L_law_698 : decode b_L_law 698 = .ok (.iconst 0, 1) ∧ 698 + 1 = 699 := ⟨by decide +kernel, rfl⟩
theorem d_L_law_699 : decode b_L_law 699 = .ok (.ireturn, 1) := by decide +kernel
theorem d_L_law_700 : decode b_L_law 700 = .ok (.goto 417, 3) ∧ ((700 : Nat) : Int) + 417 = ((1117 : Nat) : Int) := ⟨by decide +kernel, by decide⟩
theorem d_L_law_703 : decode b_L_law 703 = .ok (.aload_n 1, 1) ∧ 703 + 1 = 704 := ⟨by decide +kernel, rfl⟩
theorem d_L_law_704 : decode b_L_law 704 = .ok (.aload_n 0, 1) ∧ 704 + 1 = 705 := ⟨by decide +kernel, rfl⟩
theorem d_L_law_705 : decode b_L_law 705 = .ok (.iload 4, 2) ∧ 705 + 2 = 707 := ⟨by decide +kernel, rfl⟩
theorem d_L_law_707 : decode b_L_law 707 = .ok (.iconst 1, 1) ∧ 707 + 1 = 708 := ⟨by decide +kernel, rfl⟩
theorem d_L_law_708 : decode b_L_law 708 = .ok (.iadd, 1) ∧ 708 + 1 = 709 := ⟨by decide +kernel, rfl⟩
theorem d_L_law_709 : decode b_L_law 709 = .ok (.iaload, 1) ∧ 709 + 1 = 710 := ⟨by decide +kernel, rfl⟩
theorem d_L_law_710 : decode b_L_law 710 = .ok (.aload_n 3, 1) ∧ 710 + 1 = 711 := ⟨by decide +kernel, rfl⟩
theorem d_L_law_711 : decode b_L_law 711 = .ok (.invokestatic 111, 3) ∧ 711 + 3 = 714 := ⟨by decide +kernel, rfl⟩
theorem d_L_law_714 : decode b_L_law 714 = .ok (.istore 5, 2) ∧ 714 + 2 = 716 := ⟨by decide +kernel, rfl⟩
theorem d_L_law_716 : decode b_L_law 716 = .ok (.aload_n 2, 1) ∧ 716 + 1 = 717 := ⟨by decide +kernel, rfl⟩
theorem d_L_law_717 : decode b_L_law 717 = .ok (.aload_n 0, 1) ∧ 717 + 1 = 718 := ⟨by decide +kernel, rfl⟩
theorem d_L_law_718 : decode b_L_law 718 = .ok (.iload 4, 2) ∧ 718 + 2 = 720 := ⟨by decide +kernel, rfl⟩
theorem d_L_law_720 : decode b_L_law 720 = .ok (.iconst 1, 1) ∧ 720 + 1 = 721 := ⟨by decide +kernel, rfl⟩
theorem d_L_law_721 : decode b_L_law 721 = .ok (.iadd, 1) ∧ 721 + 1 = 722 := ⟨by decide +kernel, rfl⟩
theorem d_L_law_722 : decode b_L_law 722 = .ok (.iaload, 1) ∧ 722 + 1 = 723 := ⟨by decide +kernel, rfl⟩
theorem d_L_law_723 : decode b_L_law 723 = .ok (.invokevirtual 113, 3) ∧ 723 + 3 = 726 := ⟨by decide +kernel, rfl⟩
theorem d_L_law_726 : decode b_L_law 726 = .ok (.istore 6, 2) ∧ 726 + 2 = 728 := ⟨by decide +kernel, rfl⟩
theorem d_L_law_728 : decode b_L_law 728 = .ok (.aload_n 2, 1) ∧ 728 + 1 = 729 := ⟨by decide +kernel, rfl⟩
theorem d_L_law_729 : decode b_L_law 729 = .ok (.invokevirtual 78, 3) ∧ 729 + 3 = 732 := ⟨by decide +kernel, rfl⟩
theorem d_L_law_732 : decode b_L_law 732 = .ok (.iload 5, 2) ∧ 732 + 2 = 734 := ⟨by decide +kernel, rfl⟩
theorem d_L_law_734 : decode b_L_law 734 = .ok (.if_icmp .eq 5, 3) ∧ 734 + 3 = 737 ∧ ((734 : Nat) : Int) + 5 = ((739 : Nat) : Int) := ⟨by decide +kernel, rfl, by decide⟩
theorem d_L_law_737 : decode b_L_law 737 = .ok (.iconst 0, 1) ∧ 737 + 1 = 738 := ⟨by decide +kernel, rfl⟩
theorem d_L_law_738 : decode b_L_law 738 = .ok (.ireturn, 1) := by decide +kernel
theorem d_L_law_739 : decode b_L_law 739 = .ok (.iload 5, 2) ∧ 739 + 2 = 741 := ⟨by decide +kernel, rfl⟩
theorem d_L_law_741 : decode b_L_law 741 = .ok (.ifCond .ne 22, 3) ∧ 741 + 3 = 744 ∧ ((741 : Nat) : Int) + 22 = ((763 : Nat) : Int) := ⟨by decide +kernel, rfl, by decide⟩
theorem d_L_law_744 : decode b_L_law 744 = .ok (.aload_n 3, 1) ∧ 744 + 1 = 745 := ⟨by decide +kernel, rfl⟩
theorem d_L_law_745 : decode b_L_law 745 = .ok (.iconst 0, 1) ∧ 745 + 1 = 746 := ⟨by decide +kernel, rfl⟩
theorem d_L_law_746 : decode b_L_law 746 = .ok (.laload, 1) ∧ 746 + 1 = 747 := ⟨by decide +kernel, rfl⟩
theorem d_L_law_747 : decode b_L_law 747 = .ok (.iload 6, 2) ∧ 747 + 2 = 749 := ⟨by decide +kernel, rfl⟩
theorem d_L_law_749 : decode b_L_law 749 = .ok (.ifCond .eq 7, 3) ∧ 749 + 3 = 752 ∧ ((749 : Nat) : Int) + 7 = ((756 : Nat) : Int) := ⟨by decide +kernel, rfl, by decide⟩
theorem d_L_law_752 : decode b_L_law 752 = .ok (.lconst 1, 1) ∧ 752 + 1 = 753 := ⟨by decide +kernel, rfl⟩
theorem d_L_law_753 : decode b_L_law 753 = .ok (.goto 4, 3) ∧ ((753 : Nat) : Int) + 4 = ((757 : Nat) : Int) := ⟨by decide +kernel, by decide⟩
theorem d_L_law_756 : decode b_L_law 756 = .ok (.lconst 0, 1) ∧ 756 + 1 = 757 := ⟨by decide +kernel, rfl⟩
theorem d_L_law_757 : decode b_L_law 757 = .ok (.lcmp, 1) ∧ 757 + 1 = 758 := ⟨by decide +kernel, rfl⟩
theorem d_L_law_758 : decode b_L_law 758 = .ok (.ifCond .eq 5, 3) ∧ 758 + 3 = 761 ∧ ((758 : Nat) : Int) + 5 = ((763 : Nat) : Int) := ⟨by decide +kernel, rfl, by decide⟩
theorem d_L_law_761 : decode b_L_law 761 = .ok (.iconst 0, 1) ∧ 761 + 1 = 762 := ⟨by decide +kernel, rfl⟩
theorem d_L_law_762 : decode b_L_law 762 = .ok (.ireturn, 1) := by decide +kernel
theorem d_L_law_763 : decode b_L_law 763 = .ok (.goto 354, 3) ∧ ((763 : Nat) : Int) + 354 = ((1117 : Nat) : Int) := ⟨by decide +kernel, by decide⟩
theorem d_L_law_766 : decode b_L_law 766 = .ok (.aload_n 1, 1) ∧ 766 + 1 = 767 := ⟨by decide +kernel, rfl⟩
theorem d_L_law_767 : decode b_L_law 767 = .ok (.aload_n 0, 1) ∧ 767 + 1 = 768 := ⟨by decide +kernel, rfl⟩
theorem d_L_law_768 : decode b_L_law 768 = .ok (.iload 4, 2) ∧ 768 + 2 = 770 := ⟨by decide +kernel, rfl⟩
theorem d_L_law_770 : decode b_L_law 770 = .ok (.iconst 1, 1) ∧ 770 + 1 = 771 := ⟨by decide +kernel, rfl⟩
theorem d_L_law_771 : decode b_L_law 771 = .ok (.iadd, 1) ∧ 771 + 1 = 772 := ⟨by decide +kernel, rfl⟩
theorem d_L_law_772 : decode b_L_law 772 = .ok (.iaload, 1) ∧ 772 + 1 = 773 := ⟨by decide +kernel, rfl⟩
theorem d_L_law_773 : decode b_L_law 773 = .ok (.aload_n 3, 1) ∧ 773 + 1 = 774 := ⟨by decide +kernel, rfl⟩
theorem d_L_law_774 : decode b_L_law 774 = .ok (.invokestatic 114, 3) ∧ 774 + 3 = 777 := ⟨by decide +kernel, rfl⟩
theorem d_L_law_777 : decode b_L_law 777 = .ok (.istore 5, 2) ∧ 777 + 2 = 779 := ⟨by decide +kernel, rfl⟩
theorem d_L_law_779 : decode b_L_law 779 = .ok (.aload_n 2, 1) ∧ 779 + 1 = 780 := ⟨by decide +kernel, rfl⟩
theorem d_L_law_780 : decode b_L_law 780 = .ok (.aload_n 0, 1) ∧ 780 + 1 = 781 := ⟨by decide +kernel, rfl⟩
theorem d_L_law_781 : decode b_L_law 781 = .ok (.iload 4, 2) ∧ 781 + 2 = 783 := ⟨by decide +kernel, rfl⟩
theorem d_L_law_783 : decode b_L_law 783 = .ok (.iconst 1, 1) ∧ 783 + 1 = 784 := ⟨by decide +kernel, rfl⟩
theorem d_L_law_784 : decode b_L_law 784 = .ok (.iadd, 1) ∧ 784 + 1 = 785 := ⟨by decide +kernel, rfl⟩
theorem d_L_law_785 : decode b_L_law 785 = .ok (.iaload, 1) ∧ 785 + 1 = 786 := ⟨by decide +kernel, rfl⟩
theorem d_L_law_786 : decode b_L_law 786 = .ok (.invokevirtual 116, 3) ∧ 786 + 3 = 789 := ⟨by decide +kernel, rfl⟩
theorem d_L_law_789 : decode b_L_law 789 = .ok (.istore 6, 2) ∧ 789 + 2 = 791 := ⟨by decide +kernel, rfl⟩
theorem d_L_law_791 : decode b_L_law 791 = .ok (.aload_n 2, 1) ∧ 791 + 1 = 792 := ⟨by decide +kernel, rfl⟩
theorem d_L_law_792 : decode b_L_law 792 = .ok (.invokevirtual 78, 3) ∧ 792 + 3 = 795 := ⟨by decide +kernel, rfl⟩
theorem d_L_law_795 : decode b_L_law 795 = .ok (.iload 5, 2) ∧ 795 + 2 = 797 := ⟨by decide +kernel, rfl⟩
theorem d_L_law_797 : decode b_L_law 797 = .ok (.if_icmp .eq 5, 3) ∧ 797 + 3 = 800 ∧ ((797 : Nat) : Int) + 5 = ((802 : Nat) : Int) := ⟨by decide +kernel, rfl, by decide⟩
theorem d_L_law_800 : decode b_L_law 800 = .ok (.iconst 0, 1) ∧ 800 + 1 = 801 := ⟨by decide +kernel, rfl⟩
theorem d_L_law_801 : decode b_L_law 801 = .ok (.ireturn, 1) := by decide +kernel
theorem d_L_law_802 : decode b_L_law 802 = .ok (.iload 5, 2) ∧ 802 + 2 = 804 := ⟨by decide +kernel, rfl⟩
theorem d_L_law_804 : decode b_L_law 804 = .ok (.ifCond .ne 15, 3) ∧ 804 + 3 = 807 ∧ ((804 : Nat) : Int) + 15 = ((819 : Nat) : Int) := ⟨by decide +kernel, rfl, by decide⟩
theorem d_L_law_807 : decode b_L_law 807 = .ok (.aload_n 3, 1) ∧ 807 + 1 = 808 := ⟨by decide +kernel, rfl⟩
theorem d_L_law_808 : decode b_L_law 808 = .ok (.iconst 0, 1) ∧ 808 + 1 = 809 := ⟨by decide +kernel, rfl⟩
theorem d_L_law_809 : decode b_L_law 809 = .ok (.laload, 1) ∧ 809 + 1 = 810 := ⟨by decide +kernel, rfl⟩
theorem d_L_law_810 : decode b_L_law 810 = .ok (.iload 6, 2) ∧ 810 + 2 = 812 := ⟨by decide +kernel, rfl⟩
theorem d_L_law_812 : decode b_L_law 812 = .ok (.i2l, 1) ∧ 812 + 1 = 813 := ⟨by decide +kernel, rfl⟩
theorem d_L_law_813 : decode b_L_law 813 = .ok (.lcmp, 1) ∧ 813 + 1 = 814 := ⟨by decide +kernel, rfl⟩
theorem d_L_law_814 : decode b_L_law 814 = .ok (.ifCond .eq 5, 3) ∧ 814 + 3 = 817 ∧ ((814 : Nat) : Int) + 5 = ((819 : Nat) : Int) := ⟨by decide +kernel, rfl, by decide⟩
theorem d_L_law_817 : decode b_L_law 817 = .ok (.iconst 0, 1) ∧ 817 + 1 = 818 := ⟨by decide +kernel, rfl⟩
theorem d_L_law_818 : decode b_L_law 818 = .ok (.ireturn, 1) := by decide +kernel
theorem d_L_law_819 : decode b_L_law 819 = .ok (.goto 298, 3) ∧ ((819 : Nat) : Int) + 298 = ((1117 : Nat) : Int) := ⟨by decide +kernel, by decide⟩
theorem d_L_law_822 : decode b_L_law 822 = .ok (.aload_n 1, 1) ∧ 822 + 1 = 823 := ⟨by decide +kernel, rfl⟩
theorem d_L_law_823 : decode b_L_law 823 = .ok (.aload_n 0, 1) ∧ 823 + 1 = 824 := ⟨by decide +kernel, rfl⟩
theorem d_L_law_824 : decode b_L_law 824 = .ok (.iload 4, 2) ∧ 824 + 2 = 826 := ⟨by decide +kernel, rfl⟩
theorem d_L_law_826 : decode b_L_law 826 = .ok (.iconst 1, 1) ∧ 826 + 1 = 827 := ⟨by decide +kernel, rfl⟩
theorem d_L_law_827 : decode b_L_law 827 = .ok (.iadd, 1) ∧ 827 + 1 = 828 := ⟨by decide +kernel, rfl⟩
theorem d_L_law_828 : decode b_L_law 828 = .ok (.iaload, 1) ∧ 828 + 1 = 829 := ⟨by decide +kernel, rfl⟩
theorem d_L_law_829 : decode b_L_law 829 = .ok (.aload_n 3, 1) ∧ 829 + 1 = 830 := ⟨by decide +kernel, rfl⟩
theorem d_L_law_830 : decode b_L_law 830 = .ok (.invokestatic 117, 3) ∧ 830 + 3 = 833 := ⟨by decide +kernel, rfl⟩
theorem d_L_law_833 : decode b_L_law 833 = .ok (.istore 5, 2) ∧ 833 + 2 = 835 := ⟨by decide +kernel, rfl⟩
theorem d_L_law_835 : decode b_L_law 835 = .ok (.aload_n 2, 1) ∧ 835 + 1 = 836 := ⟨by decide +kernel, rfl⟩
theorem d_L_law_836 : decode b_L_law 836 = .ok (.aload_n 0, 1) ∧ 836 + 1 = 837 := ⟨by decide +kernel, rfl⟩
theorem d_L_law_837 : decode b_L_law 837 = .ok (.iload 4, 2) ∧ 837 + 2 = 839 := ⟨by decide +kernel, rfl⟩
theorem d_L_law_839 : decode b_L_law 839 = .ok (.iconst 1, 1) ∧ 839 + 1 = 840 := ⟨by decide +kernel, rfl⟩
theorem d_L_law_840 : decode b_L_law 840 = .ok (.iadd, 1) ∧ 840 + 1 = 841 := ⟨by decide +kernel, rfl⟩
theorem d_L_law_841 : decode b_L_law 841 = .ok (.iaload, 1) ∧ 841 + 1 = 842 := ⟨by decide +kernel, rfl⟩
theorem d_L_law_842 : decode b_L_law 842 = .ok (.invokevirtual 119, 3) ∧ 842 + 3 = 845 := ⟨by decide +kernel, rfl⟩
theorem d_L_law_845 : decode b_L_law 845 = .ok (.istore 6, 2) ∧ 845 + 2 = 847 := ⟨by decide +kernel, rfl⟩
theorem d_L_law_847 : decode b_L_law 847 = .ok (.aload_n 2, 1) ∧ 847 + 1 = 848 := ⟨by decide +kernel, rfl⟩
theorem d_L_law_848 : decode b_L_law 848 = .ok (.invokevirtual 78, 3) ∧ 848 + 3 = 851 := ⟨by decide +kernel, rfl⟩
theorem d_L_law_851 : decode b_L_law 851 = .ok (.iload 5, 2) ∧ 851 + 2 = 853 := ⟨by decide +kernel, rfl⟩
theorem d_L_law_853 : decode b_L_law 853 = .ok (.if_icmp .eq 5, 3) ∧ 853 + 3 = 856 ∧ ((853 : Nat) : Int) + 5 = ((858 : Nat) : Int) := ⟨by decide +kernel, rfl, by decide⟩
theorem d_L_law_856 : decode b_L_law 856 = .ok (.iconst 0, 1) ∧ 856 + 1 = 857 := ⟨by decide +kernel, rfl⟩
theorem d_L_law_857 : decode b_L_law 857 = .ok (.ireturn, 1) := by decide +kernel
theorem d_L_law_858 : decode b_L_law 858 = .ok (.iload 5, 2) ∧ 858 + 2 = 860 := ⟨by decide +kernel, rfl⟩
theorem d_L_law_860 : decode b_L_law 860 = .ok (.ifCond .ne 15, 3) ∧ 860 + 3 = 863 ∧ ((860 : Nat) : Int) + 15 = ((875 : Nat) : Int) := ⟨by decide +kernel, rfl, by decide⟩
theorem d_L_law_863 : decode b_L_law 863 = .ok (.aload_n 3, 1) ∧ 863 + 1 = 864 := ⟨by decide +kernel, rfl⟩
theorem d_L_law_864 : decode b_L_law 864 = .ok (.iconst 0, 1) ∧ 864 + 1 = 865 := ⟨by decide +kernel, rfl⟩
theorem d_L_law_865 : decode b_L_law 865 = .ok (.laload, 1) ∧ 865 + 1 = 866 := ⟨by decide +kernel, rfl⟩
theorem d_L_law_866 : decode b_L_law 866 = .ok (.iload 6, 2) ∧ 866 + 2 = 868 := ⟨by decide +kernel, rfl⟩
theorem d_L_law_868 : decode b_L_law 868 = .ok (.i2l, 1) ∧ 868 + 1 = 869 := ⟨by decide +kernel, rfl⟩
theorem d_L_law_869 : decode b_L_law 869 = .ok (.lcmp, 1) ∧ 869 + 1 = 870 := ⟨by decide +kernel, rfl⟩
theorem d_L_law_870 : decode b_L_law 870 = .ok (.ifCond .eq 5, 3) ∧ 870 + 3 = 873 ∧ ((870 : Nat) : Int) + 5 = ((875 : Nat) : Int) := ⟨by decide +kernel, rfl, by decide⟩
theorem d_L_law_873 : decode b_L_law 873 = .ok (.iconst 0, 1) ∧ 873 + 1 = 874 := ⟨by decide +kernel, rfl⟩
theorem d_L_law_874 : decode b_L_law 874 = .ok (.ireturn, 1) := by decide +kernel
theorem d_L_law_875 : decode b_L_law 875 = .ok (.goto 242, 3) ∧ ((875 : Nat) : Int) + 242 = ((1117 : Nat) : Int) := ⟨by decide +kernel, by decide⟩
theorem d_L_law_878 : decode b_L_law 878 = .ok (.aload_n 1, 1) ∧ 878 + 1 = 879 := ⟨by decide +kernel, rfl⟩
theorem d_L_law_879 : decode b_L_law 879 = .ok (.aload_n 0, 1) ∧ 879 + 1 = 880 := ⟨by decide +kernel, rfl⟩
theorem d_L_law_880 : decode b_L_law 880 = .ok (.iload 4, 2) ∧ 880 + 2 = 882 := ⟨by decide +kernel, rfl⟩
theorem d_L_law_882 : decode b_L_law 882 = .ok (.iconst 1, 1) ∧ 882 + 1 = 883 := ⟨by decide +kernel, rfl⟩
theorem d_L_law_883 : decode b_L_law 883 = .ok (.iadd, 1) ∧ 883 + 1 = 884 := ⟨by decide +kernel, rfl⟩
theorem d_L_law_884 : decode b_L_law 884 = .ok (.iaload, 1) ∧ 884 + 1 = 885 := ⟨by decide +kernel, rfl⟩
theorem d_L_law_885 : decode b_L_law 885 = .ok (.aload_n 3, 1) ∧ 885 + 1 = 886 := ⟨by decide +kernel, rfl⟩
theorem d_L_law_886 : decode b_L_law 886 = .ok (.invokestatic 120, 3) ∧ 886 + 3 = 889 := ⟨by decide +kernel, rfl⟩
theorem d_L_law_889 : decode b_L_law 889 = .ok (.istore 5, 2) ∧ 889 + 2 = 891 := ⟨by decide +kernel, rfl⟩
theorem d_L_law_891 : decode b_L_law 891 = .ok (.aload_n 2, 1) ∧ 891 + 1 = 892 := ⟨by decide +kernel, rfl⟩
theorem d_L_law_892 : decode b_L_law 892 = .ok (.aload_n 0, 1) ∧ 892 + 1 = 893 := ⟨by decide +kernel, rfl⟩
theorem d_L_law_893 : decode b_L_law 893 = .ok (.iload 4, 2) ∧ 893 + 2 = 895 := ⟨by decide +kernel, rfl⟩
theorem d_L_law_895 : decode b_L_law 895 = .ok (.iconst 1, 1) ∧ 895 + 1 = 896 := ⟨by decide +kernel, rfl⟩
theorem d_L_law_896 : decode b_L_law 896 = .ok (.iadd, 1) ∧ 896 + 1 = 897 := ⟨by decide +kernel, rfl⟩
theorem d_L_law_897 : decode b_L_law 897 = .ok (.iaload, 1) ∧ 897 + 1 = 898 := ⟨by decide +kernel, rfl⟩
theorem d_L_law_898 : decode b_L_law 898 = .ok (.invokevirtual 122, 3) ∧ 898 + 3 = 901 := ⟨by decide +kernel, rfl⟩
theorem d_L_law_901 : decode b_L_law 901 = .ok (.istore 6, 2) ∧ 901 + 2 = 903 := ⟨by decide +kernel, rfl⟩
theorem d_L_law_903 : decode b_L_law 903 = .ok (.aload_n 2, 1) ∧ 903 + 1 = 904 := ⟨by decide +kernel, rfl⟩
