theorem d_A_about_0 : decode b_A_about 0 = .ok (.iload_n 1, 1) ∧ 0 + 1 = 1 := ⟨by decide +kernel, rfl⟩
theorem d_A_about_1 : decode b_A_about 1 = .ok (.lookupswitch 37 #[(0, 27), (1, 32)], 27) := by decide +kernel
theorem d_A_about_28 : decode b_A_about 28 = .ok (.aload_n 0, 1) ∧ 28 + 1 = 29 := ⟨by decide +kernel, rfl⟩
theorem d_A_about_29 : decode b_A_about 29 = .ok (.getfield 42, 3) ∧ 29 + 3 = 32 := ⟨by decide +kernel, rfl⟩
theorem d_A_about_32 : decode b_A_about 32 = .ok (.ireturn, 1) := by decide +kernel
theorem d_A_about_33 : decode b_A_about 33 = .ok (.aload_n 0, 1) ∧ 33 + 1 = 34 := ⟨by decide +kernel, rfl⟩
theorem d_A_about_34 : decode b_A_about 34 = .ok (.getfield 45, 3) ∧ 34 + 3 = 37 := ⟨by decide +kernel, rfl⟩
theorem d_A_about_37 : decode b_A_about 37 = .ok (.ireturn, 1) := by decide +kernel
theorem d_A_about_38 : decode b_A_about 38 = .ok (.new 62, 3) ∧ 38 + 3 = 41 := ⟨by decide +kernel, rfl⟩
theorem d_A_about_41 : decode b_A_about 41 = .ok (.dup, 1) ∧ 41 + 1 = 42 := ⟨by decide +kernel, rfl⟩
theorem d_A_about_42 : decode b_A_about 42 = .ok (.ldc 172, 2) ∧ 42 + 2 = 44 := ⟨by decide +kernel, rfl⟩
theorem d_A_about_44 : decode b_A_about 44 = .ok (.invokespecial 66, 3) ∧ 44 + 3 = 47 := ⟨by decide +kernel, rfl⟩
theorem d_A_about_47 : decode b_A_about 47 = .ok (.athrow, 1) := by decide +kernel
theorem d_A_add_0 : decode b_A_add 0 = .ok (.aload_n 0, 1) ∧ 0 + 1 = 1 := ⟨by decide +kernel, rfl⟩
theorem d_A_add_1 : decode b_A_add 1 = .ok (.getfield 26, 3) ∧ 1 + 3 = 4 := ⟨by decide +kernel, rfl⟩
theorem d_A_add_4 : decode b_A_add 4 = .ok (.invokestatic 86, 3) ∧ 4 + 3 = 7 := ⟨by decide +kernel, rfl⟩
theorem d_A_add_7 : decode b_A_add 7 = .ok (.aload_n 0, 1) ∧ 7 + 1 = 8 := ⟨by decide +kernel, rfl⟩
theorem d_A_add_8 : decode b_A_add 8 = .ok (.getfield 16, 3) ∧ 8 + 3 = 11 := ⟨by decide +kernel, rfl⟩
theorem d_A_add_11 : decode b_A_add 11 = .ok (.aload_n 0, 1) ∧ 11 + 1 = 12 := ⟨by decide +kernel, rfl⟩
theorem d_A_add_12 : decode b_A_add 12 = .ok (.getfield 30, 3) ∧ 12 + 3 = 15 := ⟨by decide +kernel, rfl⟩
theorem d_A_add_15 : decode b_A_add 15 = .ok (.sipush 256, 3) ∧ 15 + 3 = 18 := ⟨by decide +kernel, rfl⟩
theorem d_A_add_18 : decode b_A_add 18 = .ok (.iload_n 1, 1) ∧ 18 + 1 = 19 := ⟨by decide +kernel, rfl⟩
theorem d_A_add_19 : decode b_A_add 19 = .ok (.invokestatic 187, 3) ∧ 19 + 3 = 22 := ⟨by decide +kernel, rfl⟩
theorem d_A_add_22 : decode b_A_add 22 = .ok (.iconst 0, 1) ∧ 22 + 1 = 23 := ⟨by decide +kernel, rfl⟩
theorem d_A_add_23 : decode b_A_add 23 = .ok (.istore_n 2, 1) ∧ 23 + 1 = 24 := ⟨by decide +kernel, rfl⟩
theorem d_A_add_24 : decode b_A_add 24 = .ok (.iconst 0, 1) ∧ 24 + 1 = 25 := ⟨by decide +kernel, rfl⟩
theorem d_A_add_25 : decode b_A_add 25 = .ok (.istore_n 3, 1) ∧ 25 + 1 = 26 := ⟨by decide +kernel, rfl⟩
theorem d_A_add_26 : decode b_A_add 26 = .ok (.iload_n 3, 1) ∧ 26 + 1 = 27 := ⟨by decide +kernel, rfl⟩
theorem d_A_add_27 : decode b_A_add 27 = .ok (.bipush 8, 2) ∧ 27 + 2 = 29 := ⟨by decide +kernel, rfl⟩
theorem d_A_add_29 : decode b_A_add 29 = .ok (.if_icmp .ge 45, 3) ∧ 29 + 3 = 32 ∧ ((29 : Nat) : Int) + 45 = ((74 : Nat) : Int) := ⟨by decide +kernel, rfl, by decide⟩
theorem d_A_add_32 : decode b_A_add 32 = .ok (.aload_n 0, 1) ∧ 32 + 1 = 33 := ⟨by decide +kernel, rfl⟩
theorem d_A_add_33 : decode b_A_add 33 = .ok (.getfield 22, 3) ∧ 33 + 3 = 36 := ⟨by decide +kernel, rfl⟩
theorem d_A_add_36 : decode b_A_add 36 = .ok (.iload_n 3, 1) ∧ 36 + 1 = 37 := ⟨by decide +kernel, rfl⟩
theorem d_A_add_37 : decode b_A_add 37 = .ok (.aaload, 1) ∧ 37 + 1 = 38 := ⟨by decide +kernel, rfl⟩
theorem d_A_add_38 : decode b_A_add 38 = .ok (.aload_n 0, 1) ∧ 38 + 1 = 39 := ⟨by decide +kernel, rfl⟩
theorem d_A_add_39 : decode b_A_add 39 = .ok (.getfield 33, 3) ∧ 39 + 3 = 42 := ⟨by decide +kernel, rfl⟩
theorem d_A_add_42 : decode b_A_add 42 = .ok (.iload_n 3, 1) ∧ 42 + 1 = 43 := ⟨by decide +kernel, rfl⟩
theorem d_A_add_43 : decode b_A_add 43 = .ok (.aaload, 1) ∧ 43 + 1 = 44 := ⟨by decide +kernel, rfl⟩
theorem d_A_add_44 : decode b_A_add 44 = .ok (.iload_n 1, 1) ∧ 44 + 1 = 45 := ⟨by decide +kernel, rfl⟩
theorem d_A_add_45 : decode b_A_add 45 = .ok (.invokevirtual 191, 3) ∧ 45 + 3 = 48 := ⟨by decide +kernel, rfl⟩
theorem d_A_add_48 : decode b_A_add 48 = .ok (.iload_n 2, 1) ∧ 48 + 1 = 49 := ⟨by decide +kernel, rfl⟩
theorem d_A_add_49 : decode b_A_add 49 = .ok (.aload_n 0, 1) ∧ 49 + 1 = 50 := ⟨by decide +kernel, rfl⟩
theorem d_A_add_50 : decode b_A_add 50 = .ok (.getfield 22, 3) ∧ 50 + 3 = 53 := ⟨by decide +kernel, rfl⟩
theorem d_A_add_53 : decode b_A_add 53 = .ok (.iload_n 3, 1) ∧ 53 + 1 = 54 := ⟨by decide +kernel, rfl⟩
theorem d_A_add_54 : decode b_A_add 54 = .ok (.aaload, 1) ∧ 54 + 1 = 55 := ⟨by decide +kernel, rfl⟩
theorem d_A_add_55 : decode b_A_add 55 = .ok (.getfield 129, 3) ∧ 55 + 3 = 58 := ⟨by decide +kernel, rfl⟩
theorem d_A_add_58 : decode b_A_add 58 = .ok (.ifCond .eq 7, 3) ∧ 58 + 3 = 61 ∧ ((58 : Nat) : Int) + 7 = ((65 : Nat) : Int) := ⟨by decide +kernel, rfl, by decide⟩
theorem d_A_add_61 : decode b_A_add 61 = .ok (.iconst 1, 1) ∧ 61 + 1 = 62 := ⟨by decide +kernel, rfl⟩
theorem d_A_add_62 : decode b_A_add 62 = .ok (.goto 4, 3) ∧ ((62 : Nat) : Int) + 4 = ((66 : Nat) : Int) := ⟨by decide +kernel, by decide⟩
theorem d_A_add_65 : decode b_A_add 65 = .ok (.iconst 0, 1) ∧ 65 + 1 = 66 := ⟨by decide +kernel, rfl⟩
theorem d_A_add_66 : decode b_A_add 66 = .ok (.iadd, 1) ∧ 66 + 1 = 67 := ⟨by decide +kernel, rfl⟩
theorem d_A_add_67 : decode b_A_add 67 = .ok (.istore_n 2, 1) ∧ 67 + 1 = 68 := ⟨by decide +kernel, rfl⟩
theorem d_A_add_68 : decode b_A_add 68 = .ok (.iinc 3 1, 3) ∧ 68 + 3 = 71 := ⟨by decide +kernel, rfl⟩
theorem d_A_add_71 : decode b_A_add 71 = .ok (.goto (-45), 3) ∧ ((71 : Nat) : Int) + (-45) = ((26 : Nat) : Int) := ⟨by decide +kernel, by decide⟩
theorem d_A_add_74 : decode b_A_add 74 = .ok (.iload_n 2, 1) ∧ 74 + 1 = 75 := ⟨by decide +kernel, rfl⟩
theorem d_A_add_75 : decode b_A_add 75 = .ok (.ireturn, 1) := by decide +kernel
theorem d_A_addEach_0 : decode b_A_addEach 0 = .ok (.iconst 0, 1) ∧ 0 + 1 = 1 := ⟨by decide +kernel, rfl⟩
theorem d_A_addEach_1 : decode b_A_addEach 1 = .ok (.istore 4, 2) ∧ 1 + 2 = 3 := ⟨by decide +kernel, rfl⟩
theorem d_A_addEach_3 : decode b_A_addEach 3 = .ok (.iload 4, 2) ∧ 3 + 2 = 5 := ⟨by decide +kernel, rfl⟩
theorem d_A_addEach_5 : decode b_A_addEach 5 = .ok (.iload_n 2, 1) ∧ 5 + 1 = 6 := ⟨by decide +kernel, rfl⟩
theorem d_A_addEach_6 : decode b_A_addEach 6 = .ok (.if_icmp .ge 32, 3) ∧ 6 + 3 = 9 ∧ ((6 : Nat) : Int) + 32 = ((38 : Nat) : Int) := ⟨by decide +kernel, rfl, by decide⟩
theorem d_A_addEach_9 : decode b_A_addEach 9 = .ok (.aload_n 0, 1) ∧ 9 + 1 = 10 := ⟨by decide +kernel, rfl⟩
theorem d_A_addEach_10 : decode b_A_addEach 10 = .ok (.iload 4, 2) ∧ 10 + 2 = 12 := ⟨by decide +kernel, rfl⟩
theorem d_A_addEach_12 : decode b_A_addEach 12 = .ok (.dup2, 1) ∧ 12 + 1 = 13 := ⟨by decide +kernel, rfl⟩
theorem d_A_addEach_13 : decode b_A_addEach 13 = .ok (.iaload, 1) ∧ 13 + 1 = 14 := ⟨by decide +kernel, rfl⟩
theorem d_A_addEach_14 : decode b_A_addEach 14 = .ok (.iload_n 3, 1) ∧ 14 + 1 = 15 := ⟨by decide +kernel, rfl⟩
theorem d_A_addEach_15 : decode b_A_addEach 15 = .ok (.ifCond .eq 10, 3) ∧ 15 + 3 = 18 ∧ ((15 : Nat) : Int) + 10 = ((25 : Nat) : Int) := ⟨by decide +kernel, rfl, by decide⟩
theorem d_A_addEach_18 : decode b_A_addEach 18 = .ok (.aload_n 1, 1) ∧ 18 + 1 = 19 := ⟨by decide +kernel, rfl⟩
theorem d_A_addEach_19 : decode b_A_addEach 19 = .ok (.iload 4, 2) ∧ 19 + 2 = 21 := ⟨by decide +kernel, rfl⟩
theorem d_A_addEach_21 : decode b_A_addEach 21 = .ok (.iaload, 1) ∧ 21 + 1 = 22 := ⟨by decide +kernel, rfl⟩
theorem d_A_addEach_22 : decode b_A_addEach 22 = .ok (.goto 8, 3) ∧ ((22 : Nat) : Int) + 8 = ((30 : Nat) : Int) := ⟨by decide +kernel, by decide⟩
theorem d_A_addEach_25 : decode b_A_addEach 25 = .ok (.aload_n 1, 1) ∧ 25 + 1 = 26 := ⟨by decide +kernel, rfl⟩
theorem d_A_addEach_26 : decode b_A_addEach 26 = .ok (.iload 4, 2) ∧ 26 + 2 = 28 := ⟨by decide +kernel, rfl⟩
theorem d_A_addEach_28 : decode b_A_addEach 28 = .ok (.iaload, 1) ∧ 28 + 1 = 29 := ⟨by decide +kernel, rfl⟩
theorem d_A_addEach_29 : decode b_A_addEach 29 = .ok (.ineg, 1) ∧ 29 + 1 = 30 := ⟨by decide +kernel, rfl⟩
theorem d_A_addEach_30 : decode b_A_addEach 30 = .ok (.iadd, 1) ∧ 30 + 1 = 31 := ⟨by decide +kernel, rfl⟩
theorem d_A_addEach_31 : decode b_A_addEach 31 = .ok (.iastore, 1) ∧ 31 + 1 = 32 := ⟨by decide +kernel, rfl⟩
theorem d_A_addEach_32 : decode b_A_addEach 32 = .ok (.iinc 4 1, 3) ∧ 32 + 3 = 35 := ⟨by decide +kernel, rfl⟩
theorem d_A_addEach_35 : decode b_A_addEach 35 = .ok (.goto (-32), 3) ∧ ((35 : Nat) : Int) + (-32) = ((3 : Nat) : Int) := ⟨by decide +kernel, by decide⟩
theorem d_A_addEach_38 : decode b_A_addEach 38 = .ok (.return_, 1) := by decide +kernel
theorem d_A_aimedOf_0 : decode b_A_aimedOf 0 = .ok (.iconst 0, 1) ∧ 0 + 1 = 1 := ⟨by decide +kernel, rfl⟩
theorem d_A_aimedOf_1 : decode b_A_aimedOf 1 = .ok (.istore_n 2, 1) ∧ 1 + 1 = 2 := ⟨by decide +kernel, rfl⟩
theorem d_A_aimedOf_2 : decode b_A_aimedOf 2 = .ok (.iconst 0, 1) ∧ 2 + 1 = 3 := ⟨by decide +kernel, rfl⟩
theorem d_A_aimedOf_3 : decode b_A_aimedOf 3 = .ok (.istore_n 3, 1) ∧ 3 + 1 = 4 := ⟨by decide +kernel, rfl⟩
theorem d_A_aimedOf_4 : decode b_A_aimedOf 4 = .ok (.iload_n 3, 1) ∧ 4 + 1 = 5 := ⟨by decide +kernel, rfl⟩
theorem d_A_aimedOf_5 : decode b_A_aimedOf 5 = .ok (.bipush 8, 2) ∧ 5 + 2 = 7 := ⟨by decide +kernel, rfl⟩
theorem d_A_aimedOf_7 : decode b_A_aimedOf 7 = .ok (.if_icmp .ge 35, 3) ∧ 7 + 3 = 10 ∧ ((7 : Nat) : Int) + 35 = ((42 : Nat) : Int) := ⟨by decide +kernel, rfl, by decide⟩
theorem d_A_aimedOf_10 : decode b_A_aimedOf 10 = .ok (.iload_n 1, 1) ∧ 10 + 1 = 11 := ⟨by decide +kernel, rfl⟩
theorem d_A_aimedOf_11 : decode b_A_aimedOf 11 = .ok (.iload_n 3, 1) ∧ 11 + 1 = 12 := ⟨by decide +kernel, rfl⟩
theorem d_A_aimedOf_12 : decode b_A_aimedOf 12 = .ok (.invokestatic 177, 3) ∧ 12 + 3 = 15 := ⟨by decide +kernel, rfl⟩
theorem d_A_aimedOf_15 : decode b_A_aimedOf 15 = .ok (.ifCond .eq 21, 3) ∧ 15 + 3 = 18 ∧ ((15 : Nat) : Int) + 21 = ((36 : Nat) : Int) := ⟨by decide +kernel, rfl, by decide⟩
theorem d_A_aimedOf_18 : decode b_A_aimedOf 18 = .ok (.aload_n 0, 1) ∧ 18 + 1 = 19 := ⟨by decide +kernel, rfl⟩
theorem d_A_aimedOf_19 : decode b_A_aimedOf 19 = .ok (.getfield 22, 3) ∧ 19 + 3 = 22 := ⟨by decide +kernel, rfl⟩
theorem d_A_aimedOf_22 : decode b_A_aimedOf 22 = .ok (.iload_n 3, 1) ∧ 22 + 1 = 23 := ⟨by decide +kernel, rfl⟩
theorem d_A_aimedOf_23 : decode b_A_aimedOf 23 = .ok (.aaload, 1) ∧ 23 + 1 = 24 := ⟨by decide +kernel, rfl⟩
theorem d_A_aimedOf_24 : decode b_A_aimedOf 24 = .ok (.getfield 117, 3) ∧ 24 + 3 = 27 := ⟨by decide +kernel, rfl⟩
theorem d_A_aimedOf_27 : decode b_A_aimedOf 27 = .ok (.ifCond .eq 9, 3) ∧ 27 + 3 = 30 ∧ ((27 : Nat) : Int) + 9 = ((36 : Nat) : Int) := ⟨by decide +kernel, rfl, by decide⟩
theorem d_A_aimedOf_30 : decode b_A_aimedOf 30 = .ok (.iload_n 2, 1) ∧ 30 + 1 = 31 := ⟨by decide +kernel, rfl⟩
theorem d_A_aimedOf_31 : decode b_A_aimedOf 31 = .ok (.iconst 1, 1) ∧ 31 + 1 = 32 := ⟨by decide +kernel, rfl⟩
theorem d_A_aimedOf_32 : decode b_A_aimedOf 32 = .ok (.iload_n 3, 1) ∧ 32 + 1 = 33 := ⟨by decide +kernel, rfl⟩
theorem d_A_aimedOf_33 : decode b_A_aimedOf 33 = .ok (.ishl, 1) ∧ 33 + 1 = 34 := ⟨by decide +kernel, rfl⟩
theorem d_A_aimedOf_34 : decode b_A_aimedOf 34 = .ok (.ior, 1) ∧ 34 + 1 = 35 := ⟨by decide +kernel, rfl⟩
theorem d_A_aimedOf_35 : decode b_A_aimedOf 35 = .ok (.istore_n 2, 1) ∧ 35 + 1 = 36 := ⟨by decide +kernel, rfl⟩
theorem d_A_aimedOf_36 : decode b_A_aimedOf 36 = .ok (.iinc 3 1, 3) ∧ 36 + 3 = 39 := ⟨by decide +kernel, rfl⟩
theorem d_A_aimedOf_39 : decode b_A_aimedOf 39 = .ok (.goto (-35), 3) ∧ ((39 : Nat) : Int) + (-35) = ((4 : Nat) : Int) := ⟨by decide +kernel, by decide⟩
theorem d_A_aimedOf_42 : decode b_A_aimedOf 42 = .ok (.iload_n 2, 1) ∧ 42 + 1 = 43 := ⟨by decide +kernel, rfl⟩
theorem d_A_aimedOf_43 : decode b_A_aimedOf 43 = .ok (.ireturn, 1) := by decide +kernel
theorem d_A_anotherHas_0 : decode b_A_anotherHas 0 = .ok (.iconst 0, 1) ∧ 0 + 1 = 1 := ⟨by decide +kernel, rfl⟩
theorem d_A_anotherHas_1 : decode b_A_anotherHas 1 = .ok (.istore 4, 2) ∧ 1 + 2 = 3 := ⟨by decide +kernel, rfl⟩
theorem d_A_anotherHas_3 : decode b_A_anotherHas 3 = .ok (.iload 4, 2) ∧ 3 + 2 = 5 := ⟨by decide +kernel, rfl⟩
theorem d_A_anotherHas_5 : decode b_A_anotherHas 5 = .ok (.bipush 8, 2) ∧ 5 + 2 = 7 := ⟨by decide +kernel, rfl⟩
theorem d_A_anotherHas_7 : decode b_A_anotherHas 7 = .ok (.if_icmp .ge 45, 3) ∧ 7 + 3 = 10 ∧ ((7 : Nat) : Int) + 45 = ((52 : Nat) : Int) := ⟨by decide +kernel, rfl, by decide⟩
theorem d_A_anotherHas_10 : decode b_A_anotherHas 10 = .ok (.iload 4, 2) ∧ 10 + 2 = 12 := ⟨by decide +kernel, rfl⟩
theorem d_A_anotherHas_12 : decode b_A_anotherHas 12 = .ok (.iload_n 1, 1) ∧ 12 + 1 = 13 := ⟨by decide +kernel, rfl⟩
theorem d_A_anotherHas_13 : decode b_A_anotherHas 13 = .ok (.if_icmp .eq 33, 3) ∧ 13 + 3 = 16 ∧ ((13 : Nat) : Int) + 33 = ((46 : Nat) : Int) := ⟨by decide +kernel, rfl, by decide⟩
theorem d_A_anotherHas_16 : decode b_A_anotherHas 16 = .ok (.aload_n 0, 1) ∧ 16 + 1 = 17 := ⟨by decide +kernel, rfl⟩
theorem d_A_anotherHas_17 : decode b_A_anotherHas 17 = .ok (.getfield 22, 3) ∧ 17 + 3 = 20 := ⟨by decide +kernel, rfl⟩
theorem d_A_anotherHas_20 : decode b_A_anotherHas 20 = .ok (.iload 4, 2) ∧ 20 + 2 = 22 := ⟨by decide +kernel, rfl⟩
theorem d_A_anotherHas_22 : decode b_A_anotherHas 22 = .ok (.aaload, 1) ∧ 22 + 1 = 23 := ⟨by decide +kernel, rfl⟩
theorem d_A_anotherHas_23 : decode b_A_anotherHas 23 = .ok (.getfield 117, 3) ∧ 23 + 3 = 26 := ⟨by decide +kernel, rfl⟩
theorem d_A_anotherHas_26 : decode b_A_anotherHas 26 = .ok (.ifCond .eq 20, 3) ∧ 26 + 3 = 29 ∧ ((26 : Nat) : Int) + 20 = ((46 : Nat) : Int) := ⟨by decide +kernel, rfl, by decide⟩
theorem d_A_anotherHas_29 : decode b_A_anotherHas 29 = .ok (.aload_n 0, 1) ∧ 29 + 1 = 30 := ⟨by decide +kernel, rfl⟩
theorem d_A_anotherHas_30 : decode b_A_anotherHas 30 = .ok (.getfield 22, 3) ∧ 30 + 3 = 33 := ⟨by decide +kernel, rfl⟩
theorem d_A_anotherHas_33 : decode b_A_anotherHas 33 = .ok (.iload 4, 2) ∧ 33 + 2 = 35 := ⟨by decide +kernel, rfl⟩
theorem d_A_anotherHas_35 : decode b_A_anotherHas 35 = .ok (.aaload, 1) ∧ 35 + 1 = 36 := ⟨by decide +kernel, rfl⟩
theorem d_A_anotherHas_36 : decode b_A_anotherHas 36 = .ok (.iload_n 2, 1) ∧ 36 + 1 = 37 := ⟨by decide +kernel, rfl⟩
theorem d_A_anotherHas_37 : decode b_A_anotherHas 37 = .ok (.iload_n 3, 1) ∧ 37 + 1 = 38 := ⟨by decide +kernel, rfl⟩
theorem d_A_anotherHas_38 : decode b_A_anotherHas 38 = .ok (.invokevirtual 208, 3) ∧ 38 + 3 = 41 := ⟨by decide +kernel, rfl⟩
theorem d_A_anotherHas_41 : decode b_A_anotherHas 41 = .ok (.ifCond .eq 5, 3) ∧ 41 + 3 = 44 ∧ ((41 : Nat) : Int) + 5 = ((46 : Nat) : Int) := ⟨by decide +kernel, rfl, by decide⟩
theorem d_A_anotherHas_44 : decode b_A_anotherHas 44 = .ok (.iconst 1, 1) ∧ 44 + 1 = 45 := ⟨by decide +kernel, rfl⟩
theorem d_A_anotherHas_45 : decode b_A_anotherHas 45 = .ok (.ireturn, 1) := by decide +kernel
theorem d_A_anotherHas_46 : decode b_A_anotherHas 46 = .ok (.iinc 4 1, 3) ∧ 46 + 3 = 49 := ⟨by decide +kernel, rfl⟩
theorem d_A_anotherHas_49 : decode b_A_anotherHas 49 = .ok (.goto (-46), 3) ∧ ((49 : Nat) : Int) + (-46) = ((3 : Nat) : Int) := ⟨by decide +kernel, by decide⟩
theorem d_A_anotherHas_52 : decode b_A_anotherHas 52 = .ok (.iconst 0, 1) ∧ 52 + 1 = 53 := ⟨by decide +kernel, rfl⟩
theorem d_A_anotherHas_53 : decode b_A_anotherHas 53 = .ok (.ireturn, 1) := by decide +kernel
theorem d_A_areEnough_0 : decode b_A_areEnough 0 = .ok (.iconst 0, 1) ∧ 0 + 1 = 1 := ⟨by decide +kernel, rfl⟩
theorem d_A_areEnough_1 : decode b_A_areEnough 1 = .ok (.istore_n 2, 1) ∧ 1 + 1 = 2 := ⟨by decide +kernel, rfl⟩
theorem d_A_areEnough_2 : decode b_A_areEnough 2 = .ok (.iconst 0, 1) ∧ 2 + 1 = 3 := ⟨by decide +kernel, rfl⟩
theorem d_A_areEnough_3 : decode b_A_areEnough 3 = .ok (.istore_n 3, 1) ∧ 3 + 1 = 4 := ⟨by decide +kernel, rfl⟩
theorem d_A_areEnough_4 : decode b_A_areEnough 4 = .ok (.iconst 0, 1) ∧ 4 + 1 = 5 := ⟨by decide +kernel, rfl⟩
theorem d_A_areEnough_5 : decode b_A_areEnough 5 = .ok (.istore 4, 2) ∧ 5 + 2 = 7 := ⟨by decide +kernel, rfl⟩
theorem d_A_areEnough_7 : decode b_A_areEnough 7 = .ok (.iload 4, 2) ∧ 7 + 2 = 9 := ⟨by decide +kernel, rfl⟩
theorem d_A_areEnough_9 : decode b_A_areEnough 9 = .ok (.bipush 8, 2) ∧ 9 + 2 = 11 := ⟨by decide +kernel, rfl⟩
theorem d_A_areEnough_11 : decode b_A_areEnough 11 = .ok (.if_icmp .ge 47, 3) ∧ 11 + 3 = 14 ∧ ((11 : Nat) : Int) + 47 = ((58 : Nat) : Int) := ⟨by decide +kernel, rfl, by decide⟩
theorem d_A_areEnough_14 : decode b_A_areEnough 14 = .ok (.iload_n 1, 1) ∧ 14 + 1 = 15 := ⟨by decide +kernel, rfl⟩
theorem d_A_areEnough_15 : decode b_A_areEnough 15 = .ok (.iload 4, 2) ∧ 15 + 2 = 17 := ⟨by decide +kernel, rfl⟩
theorem d_A_areEnough_17 : decode b_A_areEnough 17 = .ok (.invokestatic 177, 3) ∧ 17 + 3 = 20 := ⟨by decide +kernel, rfl⟩
theorem d_A_areEnough_20 : decode b_A_areEnough 20 = .ok (.ifCond .eq 32, 3) ∧ 20 + 3 = 23 ∧ ((20 : Nat) : Int) + 32 = ((52 : Nat) : Int) := ⟨by decide +kernel, rfl, by decide⟩
theorem d_A_areEnough_23 : decode b_A_areEnough 23 = .ok (.iload_n 2, 1) ∧ 23 + 1 = 24 := ⟨by decide +kernel, rfl⟩
theorem d_A_areEnough_24 : decode b_A_areEnough 24 = .ok (.aload_n 0, 1) ∧ 24 + 1 = 25 := ⟨by decide +kernel, rfl⟩
theorem d_A_areEnough_25 : decode b_A_areEnough 25 = .ok (.getfield 22, 3) ∧ 25 + 3 = 28 := ⟨by decide +kernel, rfl⟩
theorem d_A_areEnough_28 : decode b_A_areEnough 28 = .ok (.iload 4, 2) ∧ 28 + 2 = 30 := ⟨by decide +kernel, rfl⟩
theorem d_A_areEnough_30 : decode b_A_areEnough 30 = .ok (.aaload, 1) ∧ 30 + 1 = 31 := ⟨by decide +kernel, rfl⟩
theorem d_A_areEnough_31 : decode b_A_areEnough 31 = .ok (.getfield 120, 3) ∧ 31 + 3 = 34 := ⟨by decide +kernel, rfl⟩
theorem d_A_areEnough_34 : decode b_A_areEnough 34 = .ok (.invokestatic 211, 3) ∧ 34 + 3 = 37 := ⟨by decide +kernel, rfl⟩
theorem d_A_areEnough_37 : decode b_A_areEnough 37 = .ok (.iadd, 1) ∧ 37 + 1 = 38 := ⟨by decide +kernel, rfl⟩
theorem d_A_areEnough_38 : decode b_A_areEnough 38 = .ok (.istore_n 2, 1) ∧ 38 + 1 = 39 := ⟨by decide +kernel, rfl⟩
theorem d_A_areEnough_39 : decode b_A_areEnough 39 = .ok (.iload_n 3, 1) ∧ 39 + 1 = 40 := ⟨by decide +kernel, rfl⟩
theorem d_A_areEnough_40 : decode b_A_areEnough 40 = .ok (.aload_n 0, 1) ∧ 40 + 1 = 41 := ⟨by decide +kernel, rfl⟩
theorem d_A_areEnough_41 : decode b_A_areEnough 41 = .ok (.getfield 22, 3) ∧ 41 + 3 = 44 := ⟨by decide +kernel, rfl⟩
theorem d_A_areEnough_44 : decode b_A_areEnough 44 = .ok (.iload 4, 2) ∧ 44 + 2 = 46 := ⟨by decide +kernel, rfl⟩
theorem d_A_areEnough_46 : decode b_A_areEnough 46 = .ok (.aaload, 1) ∧ 46 + 1 = 47 := ⟨by decide +kernel, rfl⟩
theorem d_A_areEnough_47 : decode b_A_areEnough 47 = .ok (.getfield 123, 3) ∧ 47 + 3 = 50 := ⟨by decide +kernel, rfl⟩
theorem d_A_areEnough_50 : decode b_A_areEnough 50 = .ok (.iadd, 1) ∧ 50 + 1 = 51 := ⟨by decide +kernel, rfl⟩
theorem d_A_areEnough_51 : decode b_A_areEnough 51 = .ok (.istore_n 3, 1) ∧ 51 + 1 = 52 := ⟨by decide +kernel, rfl⟩
theorem d_A_areEnough_52 : decode b_A_areEnough 52 = .ok (.iinc 4 1, 3) ∧ 52 + 3 = 55 := ⟨by decide +kernel, rfl⟩
theorem d_A_areEnough_55 : decode b_A_areEnough 55 = .ok (.goto (-48), 3) ∧ ((55 : Nat) : Int) + (-48) = ((7 : Nat) : Int) := ⟨by decide +kernel, by decide⟩
theorem d_A_areEnough_58 : decode b_A_areEnough 58 = .ok (.iload_n 2, 1) ∧ 58 + 1 = 59 := ⟨by decide +kernel, rfl⟩
theorem d_A_areEnough_59 : decode b_A_areEnough 59 = .ok (.aload_n 0, 1) ∧ 59 + 1 = 60 := ⟨by decide +kernel, rfl⟩
theorem d_A_areEnough_60 : decode b_A_areEnough 60 = .ok (.getfield 9, 3) ∧ 60 + 3 = 63 := ⟨by decide +kernel, rfl⟩
theorem d_A_areEnough_63 : decode b_A_areEnough 63 = .ok (.if_icmp .ge 11, 3) ∧ 63 + 3 = 66 ∧ ((63 : Nat) : Int) + 11 = ((74 : Nat) : Int) := ⟨by decide +kernel, rfl, by decide⟩
theorem d_A_areEnough_66 : decode b_A_areEnough 66 = .ok (.iload_n 3, 1) ∧ 66 + 1 = 67 := ⟨by decide +kernel, rfl⟩
theorem d_A_areEnough_67 : decode b_A_areEnough 67 = .ok (.aload_n 0, 1) ∧ 67 + 1 = 68 := ⟨by decide +kernel, rfl⟩
theorem d_A_areEnough_68 : decode b_A_areEnough 68 = .ok (.getfield 13, 3) ∧ 68 + 3 = 71 := ⟨by decide +kernel, rfl⟩
theorem d_A_areEnough_71 : decode b_A_areEnough 71 = .ok (.if_icmp .lt 7, 3) ∧ 71 + 3 = 74 ∧ ((71 : Nat) : Int) + 7 = ((78 : Nat) : Int) := ⟨by decide +kernel, rfl, by decide⟩
theorem d_A_areEnough_74 : decode b_A_areEnough 74 = .ok (.iconst 1, 1) ∧ 74 + 1 = 75 := ⟨by decide +kernel, rfl⟩
theorem d_A_areEnough_75 : decode b_A_areEnough 75 = .ok (.goto 4, 3) ∧ ((75 : Nat) : Int) + 4 = ((79 : Nat) : Int) := ⟨by decide +kernel, by decide⟩
theorem d_A_areEnough_78 : decode b_A_areEnough 78 = .ok (.iconst 0, 1) ∧ 78 + 1 = 79 := ⟨by decide +kernel, rfl⟩
theorem d_A_areEnough_79 : decode b_A_areEnough 79 = .ok (.ireturn, 1) := by decide +kernel
theorem d_A_areOfOnePicture_0 : decode b_A_areOfOnePicture 0 = .ok (.aload_n 0, 1) ∧ 0 + 1 = 1 := ⟨by decide +kernel, rfl⟩
theorem d_A_areOfOnePicture_1 : decode b_A_areOfOnePicture 1 = .ok (.iload_n 1, 1) ∧ 1 + 1 = 2 := ⟨by decide +kernel, rfl⟩
theorem d_A_areOfOnePicture_2 : decode b_A_areOfOnePicture 2 = .ok (.invokevirtual 157, 3) ∧ 2 + 3 = 5 := ⟨by decide +kernel, rfl⟩
theorem d_A_areOfOnePicture_5 : decode b_A_areOfOnePicture 5 = .ok (.aload_n 0, 1) ∧ 5 + 1 = 6 := ⟨by decide +kernel, rfl⟩
theorem d_A_areOfOnePicture_6 : decode b_A_areOfOnePicture 6 = .ok (.getfield 9, 3) ∧ 6 + 3 = 9 := ⟨by decide +kernel, rfl⟩
theorem d_A_areOfOnePicture_9 : decode b_A_areOfOnePicture 9 = .ok (.aload_n 0, 1) ∧ 9 + 1 = 10 := ⟨by decide +kernel, rfl⟩
theorem d_A_areOfOnePicture_10 : decode b_A_areOfOnePicture 10 = .ok (.getfield 13, 3) ∧ 10 + 3 = 13 := ⟨by decide +kernel, rfl⟩
theorem d_A_areOfOnePicture_13 : decode b_A_areOfOnePicture 13 = .ok (.imul, 1) ∧ 13 + 1 = 14 := ⟨by decide +kernel, rfl⟩
theorem d_A_areOfOnePicture_14 : decode b_A_areOfOnePicture 14 = .ok (.if_icmp .ne 16, 3) ∧ 14 + 3 = 17 ∧ ((14 : Nat) : Int) + 16 = ((30 : Nat) : Int) := ⟨by decide +kernel, rfl, by decide⟩
theorem d_A_areOfOnePicture_17 : decode b_A_areOfOnePicture 17 = .ok (.aload_n 0, 1) ∧ 17 + 1 = 18 := ⟨by decide +kernel, rfl⟩
theorem d_A_areOfOnePicture_18 : decode b_A_areOfOnePicture 18 = .ok (.iload_n 1, 1) ∧ 18 + 1 = 19 := ⟨by decide +kernel, rfl⟩
theorem d_A_areOfOnePicture_19 : decode b_A_areOfOnePicture 19 = .ok (.invokevirtual 166, 3) ∧ 19 + 3 = 22 := ⟨by decide +kernel, rfl⟩
theorem d_A_areOfOnePicture_22 : decode b_A_areOfOnePicture 22 = .ok (.iconst (-1), 1) ∧ 22 + 1 = 23 := ⟨by decide +kernel, rfl⟩
theorem d_A_areOfOnePicture_23 : decode b_A_areOfOnePicture 23 = .ok (.if_icmp .ne 7, 3) ∧ 23 + 3 = 26 ∧ ((23 : Nat) : Int) + 7 = ((30 : Nat) : Int) := ⟨by decide +kernel, rfl, by decide⟩
theorem d_A_areOfOnePicture_26 : decode b_A_areOfOnePicture 26 = .ok (.iconst 1, 1) ∧ 26 + 1 = 27 := ⟨by decide +kernel, rfl⟩
theorem d_A_areOfOnePicture_27 : decode b_A_areOfOnePicture 27 = .ok (.goto 4, 3) ∧ ((27 : Nat) : Int) + 4 = ((31 : Nat) : Int) := ⟨by decide +kernel, by decide⟩
theorem d_A_areOfOnePicture_30 : decode b_A_areOfOnePicture 30 = .ok (.iconst 0, 1) ∧ 30 + 1 = 31 := ⟨by decide +kernel, rfl⟩
theorem d_A_areOfOnePicture_31 : decode b_A_areOfOnePicture 31 = .ok (.ireturn, 1) := by decide +kernel
theorem d_A_audit_0 : decode b_A_audit 0 = .ok (.aload_n 0, 1) ∧ 0 + 1 = 1 := ⟨by decide +kernel, rfl⟩
theorem d_A_audit_1 : decode b_A_audit 1 = .ok (.invokevirtual 153, 3) ∧ 1 + 3 = 4 := ⟨by decide +kernel, rfl⟩
theorem d_A_audit_4 : decode b_A_audit 4 = .ok (.istore_n 1, 1) ∧ 4 + 1 = 5 := ⟨by decide +kernel, rfl⟩
theorem d_A_audit_5 : decode b_A_audit 5 = .ok (.aload_n 0, 1) ∧ 5 + 1 = 6 := ⟨by decide +kernel, rfl⟩
theorem d_A_audit_6 : decode b_A_audit 6 = .ok (.iload_n 1, 1) ∧ 6 + 1 = 7 := ⟨by decide +kernel, rfl⟩
theorem d_A_audit_7 : decode b_A_audit 7 = .ok (.invokevirtual 174, 3) ∧ 7 + 3 = 10 := ⟨by decide +kernel, rfl⟩
theorem d_A_audit_10 : decode b_A_audit 10 = .ok (.ifCond .eq 5, 3) ∧ 10 + 3 = 13 ∧ ((10 : Nat) : Int) + 5 = ((15 : Nat) : Int) := ⟨by decide +kernel, rfl, by decide⟩
theorem d_A_audit_13 : decode b_A_audit 13 = .ok (.iconst (-1), 1) ∧ 13 + 1 = 14 := ⟨by decide +kernel, rfl⟩
theorem d_A_audit_14 : decode b_A_audit 14 = .ok (.ireturn, 1) := by decide +kernel
theorem d_A_audit_15 : decode b_A_audit 15 = .ok (.iconst 0, 1) ∧ 15 + 1 = 16 := ⟨by decide +kernel, rfl⟩
theorem d_A_audit_16 : decode b_A_audit 16 = .ok (.istore_n 2, 1) ∧ 16 + 1 = 17 := ⟨by decide +kernel, rfl⟩
theorem d_A_audit_17 : decode b_A_audit 17 = .ok (.iload_n 2, 1) ∧ 17 + 1 = 18 := ⟨by decide +kernel, rfl⟩
theorem d_A_audit_18 : decode b_A_audit 18 = .ok (.bipush 8, 2) ∧ 18 + 2 = 20 := ⟨by decide +kernel, rfl⟩
theorem d_A_audit_20 : decode b_A_audit 20 = .ok (.if_icmp .ge 33, 3) ∧ 20 + 3 = 23 ∧ ((20 : Nat) : Int) + 33 = ((53 : Nat) : Int) := ⟨by decide +kernel, rfl, by decide⟩
theorem d_A_audit_23 : decode b_A_audit 23 = .ok (.iload_n 1, 1) ∧ 23 + 1 = 24 := ⟨by decide +kernel, rfl⟩
theorem d_A_audit_24 : decode b_A_audit 24 = .ok (.iload_n 2, 1) ∧ 24 + 1 = 25 := ⟨by decide +kernel, rfl⟩
theorem d_A_audit_25 : decode b_A_audit 25 = .ok (.invokestatic 177, 3) ∧ 25 + 3 = 28 := ⟨by decide +kernel, rfl⟩
theorem d_A_audit_28 : decode b_A_audit 28 = .ok (.ifCond .eq 19, 3) ∧ 28 + 3 = 31 ∧ ((28 : Nat) : Int) + 19 = ((47 : Nat) : Int) := ⟨by decide +kernel, rfl, by decide⟩
theorem d_A_audit_31 : decode b_A_audit 31 = .ok (.aload_n 0, 1) ∧ 31 + 1 = 32 := ⟨by decide +kernel, rfl⟩
theorem d_A_audit_32 : decode b_A_audit 32 = .ok (.iload_n 1, 1) ∧ 32 + 1 = 33 := ⟨by decide +kernel, rfl⟩
theorem d_A_audit_33 : decode b_A_audit 33 = .ok (.iconst 1, 1) ∧ 33 + 1 = 34 := ⟨by decide +kernel, rfl⟩
theorem d_A_audit_34 : decode b_A_audit 34 = .ok (.iload_n 2, 1) ∧ 34 + 1 = 35 := ⟨by decide +kernel, rfl⟩
theorem d_A_audit_35 : decode b_A_audit 35 = .ok (.ishl, 1) ∧ 35 + 1 = 36 := ⟨by decide +kernel, rfl⟩
theorem d_A_audit_36 : decode b_A_audit 36 = .ok (.iconst (-1), 1) ∧ 36 + 1 = 37 := ⟨by decide +kernel, rfl⟩
theorem d_A_audit_37 : decode b_A_audit 37 = .ok (.ixor, 1) ∧ 37 + 1 = 38 := ⟨by decide +kernel, rfl⟩
theorem d_A_audit_38 : decode b_A_audit 38 = .ok (.iand, 1) ∧ 38 + 1 = 39 := ⟨by decide +kernel, rfl⟩
theorem d_A_audit_39 : decode b_A_audit 39 = .ok (.invokevirtual 174, 3) ∧ 39 + 3 = 42 := ⟨by decide +kernel, rfl⟩
theorem d_A_audit_42 : decode b_A_audit 42 = .ok (.ifCond .eq 5, 3) ∧ 42 + 3 = 45 ∧ ((42 : Nat) : Int) + 5 = ((47 : Nat) : Int) := ⟨by decide +kernel, rfl, by decide⟩
theorem d_A_audit_45 : decode b_A_audit 45 = .ok (.iload_n 2, 1) ∧ 45 + 1 = 46 := ⟨by decide +kernel, rfl⟩
theorem d_A_audit_46 : decode b_A_audit 46 = .ok (.ireturn, 1) := by decide +kernel
theorem d_A_audit_47 : decode b_A_audit 47 = .ok (.iinc 2 1, 3) ∧ 47 + 3 = 50 := ⟨by decide +kernel, rfl⟩
theorem d_A_audit_50 : decode b_A_audit 50 = .ok (.goto (-33), 3) ∧ ((50 : Nat) : Int) + (-33) = ((17 : Nat) : Int) := ⟨by decide +kernel, by decide⟩
theorem d_A_audit_53 : decode b_A_audit 53 = .ok (.bipush 99, 2) ∧ 53 + 2 = 55 := ⟨by decide +kernel, rfl⟩
theorem d_A_audit_55 : decode b_A_audit 55 = .ok (.ireturn, 1) := by decide +kernel
theorem d_A_bin_0 : decode b_A_bin 0 = .ok (.aload_n 0, 1) ∧ 0 + 1 = 1 := ⟨by decide +kernel, rfl⟩
theorem d_A_bin_1 : decode b_A_bin 1 = .ok (.iload_n 1, 1) ∧ 1 + 1 = 2 := ⟨by decide +kernel, rfl⟩
theorem d_A_bin_2 : decode b_A_bin 2 = .ok (.iload_n 2, 1) ∧ 2 + 1 = 3 := ⟨by decide +kernel, rfl⟩
theorem d_A_bin_3 : decode b_A_bin 3 = .ok (.invokevirtual 136, 3) ∧ 3 + 3 = 6 := ⟨by decide +kernel, rfl⟩
theorem d_A_bin_6 : decode b_A_bin 6 = .ok (.aload_n 0, 1) ∧ 6 + 1 = 7 := ⟨by decide +kernel, rfl⟩
theorem d_A_bin_7 : decode b_A_bin 7 = .ok (.getfield 22, 3) ∧ 7 + 3 = 10 := ⟨by decide +kernel, rfl⟩
theorem d_A_bin_10 : decode b_A_bin 10 = .ok (.iload_n 1, 1) ∧ 10 + 1 = 11 := ⟨by decide +kernel, rfl⟩
theorem d_A_bin_11 : decode b_A_bin 11 = .ok (.aaload, 1) ∧ 11 + 1 = 12 := ⟨by decide +kernel, rfl⟩
theorem d_A_bin_12 : decode b_A_bin 12 = .ok (.getfield 139, 3) ∧ 12 + 3 = 15 := ⟨by decide +kernel, rfl⟩
theorem d_A_bin_15 : decode b_A_bin 15 = .ok (.iload_n 2, 1) ∧ 15 + 1 = 16 := ⟨by decide +kernel, rfl⟩
theorem d_A_bin_16 : decode b_A_bin 16 = .ok (.iaload, 1) ∧ 16 + 1 = 17 := ⟨by decide +kernel, rfl⟩
theorem d_A_bin_17 : decode b_A_bin 17 = .ok (.ireturn, 1) := by decide +kernel
theorem d_A_cellAt_0 : decode b_A_cellAt 0 = .ok (.iload_n 1, 1) ∧ 0 + 1 = 1 := ⟨by decide +kernel, rfl⟩
theorem d_A_cellAt_1 : decode b_A_cellAt 1 = .ok (.bipush 16, 2) ∧ 1 + 2 = 3 := ⟨by decide +kernel, rfl⟩
theorem d_A_cellAt_3 : decode b_A_cellAt 3 = .ok (.imul, 1) ∧ 3 + 1 = 4 := ⟨by decide +kernel, rfl⟩
theorem d_A_cellAt_4 : decode b_A_cellAt 4 = .ok (.iload_n 0, 1) ∧ 4 + 1 = 5 := ⟨by decide +kernel, rfl⟩
theorem d_A_cellAt_5 : decode b_A_cellAt 5 = .ok (.iadd, 1) ∧ 5 + 1 = 6 := ⟨by decide +kernel, rfl⟩
theorem d_A_cellAt_6 : decode b_A_cellAt 6 = .ok (.ireturn, 1) := by decide +kernel
theorem d_A_direction_0 : decode b_A_direction 0 = .ok (.iload_n 1, 1) ∧ 0 + 1 = 1 := ⟨by decide +kernel, rfl⟩
theorem d_A_direction_1 : decode b_A_direction 1 = .ok (.invokestatic 95, 3) ∧ 1 + 3 = 4 := ⟨by decide +kernel, rfl⟩
theorem d_A_direction_4 : decode b_A_direction 4 = .ok (.iload_n 2, 1) ∧ 4 + 1 = 5 := ⟨by decide +kernel, rfl⟩
theorem d_A_direction_5 : decode b_A_direction 5 = .ok (.iload_n 3, 1) ∧ 5 + 1 = 6 := ⟨by decide +kernel, rfl⟩
theorem d_A_direction_6 : decode b_A_direction 6 = .ok (.invokestatic 99, 3) ∧ 6 + 3 = 9 := ⟨by decide +kernel, rfl⟩
theorem d_A_direction_9 : decode b_A_direction 9 = .ok (.ifCond .ne 13, 3) ∧ 9 + 3 = 12 ∧ ((9 : Nat) : Int) + 13 = ((22 : Nat) : Int) := ⟨by decide +kernel, rfl, by decide⟩
theorem d_A_direction_12 : decode b_A_direction 12 = .ok (.new 62, 3) ∧ 12 + 3 = 15 := ⟨by decide +kernel, rfl⟩
theorem d_A_direction_15 : decode b_A_direction 15 = .ok (.dup, 1) ∧ 15 + 1 = 16 := ⟨by decide +kernel, rfl⟩
theorem d_A_direction_16 : decode b_A_direction 16 = .ok (.ldc 103, 2) ∧ 16 + 2 = 18 := ⟨by decide +kernel, rfl⟩
theorem d_A_direction_18 : decode b_A_direction 18 = .ok (.invokespecial 66, 3) ∧ 18 + 3 = 21 := ⟨by decide +kernel, rfl⟩
theorem d_A_direction_21 : decode b_A_direction 21 = .ok (.athrow, 1) := by decide +kernel
theorem d_A_direction_22 : decode b_A_direction 22 = .ok (.iload_n 3, 1) ∧ 22 + 1 = 23 := ⟨by decide +kernel, rfl⟩
theorem d_A_direction_23 : decode b_A_direction 23 = .ok (.ifCond .lt 11, 3) ∧ 23 + 3 = 26 ∧ ((23 : Nat) : Int) + 11 = ((34 : Nat) : Int) := ⟨by decide +kernel, rfl, by decide⟩
theorem d_A_direction_26 : decode b_A_direction 26 = .ok (.iload_n 3, 1) ∧ 26 + 1 = 27 := ⟨by decide +kernel, rfl⟩
theorem d_A_direction_27 : decode b_A_direction 27 = .ok (.ifCond .ne 11, 3) ∧ 27 + 3 = 30 ∧ ((27 : Nat) : Int) + 11 = ((38 : Nat) : Int) := ⟨by decide +kernel, rfl, by decide⟩
theorem d_A_direction_30 : decode b_A_direction 30 = .ok (.iload_n 2, 1) ∧ 30 + 1 = 31 := ⟨by decide +kernel, rfl⟩
theorem d_A_direction_31 : decode b_A_direction 31 = .ok (.ifCond .ge 7, 3) ∧ 31 + 3 = 34 ∧ ((31 : Nat) : Int) + 7 = ((38 : Nat) : Int) := ⟨by decide +kernel, rfl, by decide⟩
theorem d_A_direction_34 : decode b_A_direction 34 = .ok (.iconst 1, 1) ∧ 34 + 1 = 35 := ⟨by decide +kernel, rfl⟩
theorem d_A_direction_35 : decode b_A_direction 35 = .ok (.goto 4, 3) ∧ ((35 : Nat) : Int) + 4 = ((39 : Nat) : Int) := ⟨by decide +kernel, by decide⟩
theorem d_A_direction_38 : decode b_A_direction 38 = .ok (.iconst 0, 1) ∧ 38 + 1 = 39 := ⟨by decide +kernel, rfl⟩
theorem d_A_direction_39 : decode b_A_direction 39 = .ok (.istore 4, 2) ∧ 39 + 2 = 41 := ⟨by decide +kernel, rfl⟩
theorem d_A_direction_41 : decode b_A_direction 41 = .ok (.iload 4, 2) ∧ 41 + 2 = 43 := ⟨by decide +kernel, rfl⟩
theorem d_A_direction_43 : decode b_A_direction 43 = .ok (.ifCond .eq 8, 3) ∧ 43 + 3 = 46 ∧ ((43 : Nat) : Int) + 8 = ((51 : Nat) : Int) := ⟨by decide +kernel, rfl, by decide⟩
theorem d_A_direction_46 : decode b_A_direction 46 = .ok (.iload_n 2, 1) ∧ 46 + 1 = 47 := ⟨by decide +kernel, rfl⟩
theorem d_A_direction_47 : decode b_A_direction 47 = .ok (.ineg, 1) ∧ 47 + 1 = 48 := ⟨by decide +kernel, rfl⟩
theorem d_A_direction_48 : decode b_A_direction 48 = .ok (.goto 4, 3) ∧ ((48 : Nat) : Int) + 4 = ((52 : Nat) : Int) := ⟨by decide +kernel, by decide⟩
theorem d_A_direction_51 : decode b_A_direction 51 = .ok (.iload_n 2, 1) ∧ 51 + 1 = 52 := ⟨by decide +kernel, rfl⟩
theorem d_A_direction_52 : decode b_A_direction 52 = .ok (.istore 5, 2) ∧ 52 + 2 = 54 := ⟨by decide +kernel, rfl⟩
theorem d_A_direction_54 : decode b_A_direction 54 = .ok (.iload 4, 2) ∧ 54 + 2 = 56 := ⟨by decide +kernel, rfl⟩
theorem d_A_direction_56 : decode b_A_direction 56 = .ok (.ifCond .eq 8, 3) ∧ 56 + 3 = 59 ∧ ((56 : Nat) : Int) + 8 = ((64 : Nat) : Int) := ⟨by decide +kernel, rfl, by decide⟩
theorem d_A_direction_59 : decode b_A_direction 59 = .ok (.iload_n 3, 1) ∧ 59 + 1 = 60 := ⟨by decide +kernel, rfl⟩
theorem d_A_direction_60 : decode b_A_direction 60 = .ok (.ineg, 1) ∧ 60 + 1 = 61 := ⟨by decide +kernel, rfl⟩
theorem d_A_direction_61 : decode b_A_direction 61 = .ok (.goto 4, 3) ∧ ((61 : Nat) : Int) + 4 = ((65 : Nat) : Int) := ⟨by decide +kernel, by decide⟩
theorem d_A_direction_64 : decode b_A_direction 64 = .ok (.iload_n 3, 1) ∧ 64 + 1 = 65 := ⟨by decide +kernel, rfl⟩
theorem d_A_direction_65 : decode b_A_direction 65 = .ok (.istore 6, 2) ∧ 65 + 2 = 67 := ⟨by decide +kernel, rfl⟩
theorem d_A_direction_67 : decode b_A_direction 67 = .ok (.aload_n 0, 1) ∧ 67 + 1 = 68 := ⟨by decide +kernel, rfl⟩
theorem d_A_direction_68 : decode b_A_direction 68 = .ok (.iload_n 1, 1) ∧ 68 + 1 = 69 := ⟨by decide +kernel, rfl⟩
theorem d_A_direction_69 : decode b_A_direction 69 = .ok (.iload 5, 2) ∧ 69 + 2 = 71 := ⟨by decide +kernel, rfl⟩
theorem d_A_direction_71 : decode b_A_direction 71 = .ok (.iload 6, 2) ∧ 71 + 2 = 73 := ⟨by decide +kernel, rfl⟩
theorem d_A_direction_73 : decode b_A_direction 73 = .ok (.invokevirtual 105, 3) ∧ 73 + 3 = 76 := ⟨by decide +kernel, rfl⟩
theorem d_A_direction_76 : decode b_A_direction 76 = .ok (.ifCond .eq 13, 3) ∧ 76 + 3 = 79 ∧ ((76 : Nat) : Int) + 13 = ((89 : Nat) : Int) := ⟨by decide +kernel, rfl, by decide⟩
theorem d_A_direction_79 : decode b_A_direction 79 = .ok (.new 62, 3) ∧ 79 + 3 = 82 := ⟨by decide +kernel, rfl⟩
theorem d_A_direction_82 : decode b_A_direction 82 = .ok (.dup, 1) ∧ 82 + 1 = 83 := ⟨by decide +kernel, rfl⟩
theorem d_A_direction_83 : decode b_A_direction 83 = .ok (.ldc 109, 2) ∧ 83 + 2 = 85 := ⟨by decide +kernel, rfl⟩
theorem d_A_direction_85 : decode b_A_direction 85 = .ok (.invokespecial 66, 3) ∧ 85 + 3 = 88 := ⟨by decide +kernel, rfl⟩
theorem d_A_direction_88 : decode b_A_direction 88 = .ok (.athrow, 1) := by decide +kernel
theorem d_A_direction_89 : decode b_A_direction 89 = .ok (.aload_n 0, 1) ∧ 89 + 1 = 90 := ⟨by decide +kernel, rfl⟩
theorem d_A_direction_90 : decode b_A_direction 90 = .ok (.getfield 22, 3) ∧ 90 + 3 = 93 := ⟨by decide +kernel, rfl⟩
theorem d_A_direction_93 : decode b_A_direction 93 = .ok (.iload_n 1, 1) ∧ 93 + 1 = 94 := ⟨by decide +kernel, rfl⟩
theorem d_A_direction_94 : decode b_A_direction 94 = .ok (.aaload, 1) ∧ 94 + 1 = 95 := ⟨by decide +kernel, rfl⟩
theorem d_A_direction_95 : decode b_A_direction 95 = .ok (.iload 5, 2) ∧ 95 + 2 = 97 := ⟨by decide +kernel, rfl⟩
theorem d_A_direction_97 : decode b_A_direction 97 = .ok (.iload 6, 2) ∧ 97 + 2 = 99 := ⟨by decide +kernel, rfl⟩
theorem d_A_direction_99 : decode b_A_direction 99 = .ok (.aload_n 0, 1) ∧ 99 + 1 = 100 := ⟨by decide +kernel, rfl⟩
theorem d_A_direction_100 : decode b_A_direction 100 = .ok (.getfield 9, 3) ∧ 100 + 3 = 103 := ⟨by decide +kernel, rfl⟩
theorem d_A_direction_103 : decode b_A_direction 103 = .ok (.aload_n 0, 1) ∧ 103 + 1 = 104 := ⟨by decide +kernel, rfl⟩
theorem d_A_direction_104 : decode b_A_direction 104 = .ok (.getfield 13, 3) ∧ 104 + 3 = 107 := ⟨by decide +kernel, rfl⟩
theorem d_A_direction_107 : decode b_A_direction 107 = .ok (.invokevirtual 111, 3) ∧ 107 + 3 = 110 := ⟨by decide +kernel, rfl⟩
theorem d_A_direction_110 : decode b_A_direction 110 = .ok (.return_, 1) := by decide +kernel
theorem d_A_drawGhost_0 : decode b_A_drawGhost 0 = .ok (.aload_n 0, 1) ∧ 0 + 1 = 1 := ⟨by decide +kernel, rfl⟩
theorem d_A_drawGhost_1 : decode b_A_drawGhost 1 = .ok (.getfield 57, 3) ∧ 1 + 3 = 4 := ⟨by decide +kernel, rfl⟩
theorem d_A_drawGhost_4 : decode b_A_drawGhost 4 = .ok (.iconst 0, 1) ∧ 4 + 1 = 5 := ⟨by decide +kernel, rfl⟩
theorem d_A_drawGhost_5 : decode b_A_drawGhost 5 = .ok (.invokestatic 69, 3) ∧ 5 + 3 = 8 := ⟨by decide +kernel, rfl⟩
theorem d_A_drawGhost_8 : decode b_A_drawGhost 8 = .ok (.iconst 0, 1) ∧ 8 + 1 = 9 := ⟨by decide +kernel, rfl⟩
theorem d_A_drawGhost_9 : decode b_A_drawGhost 9 = .ok (.istore_n 2, 1) ∧ 9 + 1 = 10 := ⟨by decide +kernel, rfl⟩
theorem d_A_drawGhost_10 : decode b_A_drawGhost 10 = .ok (.iconst 0, 1) ∧ 10 + 1 = 11 := ⟨by decide +kernel, rfl⟩
theorem d_A_drawGhost_11 : decode b_A_drawGhost 11 = .ok (.istore_n 3, 1) ∧ 11 + 1 = 12 := ⟨by decide +kernel, rfl⟩
theorem d_A_drawGhost_12 : decode b_A_drawGhost 12 = .ok (.iload_n 3, 1) ∧ 12 + 1 = 13 := ⟨by decide +kernel, rfl⟩
theorem d_A_drawGhost_13 : decode b_A_drawGhost 13 = .ok (.bipush 8, 2) ∧ 13 + 2 = 15 := ⟨by decide +kernel, rfl⟩
theorem d_A_drawGhost_15 : decode b_A_drawGhost 15 = .ok (.if_icmp .ge 34, 3) ∧ 15 + 3 = 18 ∧ ((15 : Nat) : Int) + 34 = ((49 : Nat) : Int) := ⟨by decide +kernel, rfl, by decide⟩
theorem d_A_drawGhost_18 : decode b_A_drawGhost 18 = .ok (.iload_n 1, 1) ∧ 18 + 1 = 19 := ⟨by decide +kernel, rfl⟩
theorem d_A_drawGhost_19 : decode b_A_drawGhost 19 = .ok (.iload_n 3, 1) ∧ 19 + 1 = 20 := ⟨by decide +kernel, rfl⟩
theorem d_A_drawGhost_20 : decode b_A_drawGhost 20 = .ok (.invokestatic 177, 3) ∧ 20 + 3 = 23 := ⟨by decide +kernel, rfl⟩
theorem d_A_drawGhost_23 : decode b_A_drawGhost 23 = .ok (.ifCond .eq 20, 3) ∧ 23 + 3 = 26 ∧ ((23 : Nat) : Int) + 20 = ((43 : Nat) : Int) := ⟨by decide +kernel, rfl, by decide⟩
theorem d_A_drawGhost_26 : decode b_A_drawGhost 26 = .ok (.iload_n 2, 1) ∧ 26 + 1 = 27 := ⟨by decide +kernel, rfl⟩
theorem d_A_drawGhost_27 : decode b_A_drawGhost 27 = .ok (.iconst 0, 1) ∧ 27 + 1 = 28 := ⟨by decide +kernel, rfl⟩
theorem d_A_drawGhost_28 : decode b_A_drawGhost 28 = .ok (.aload_n 0, 1) ∧ 28 + 1 = 29 := ⟨by decide +kernel, rfl⟩
theorem d_A_drawGhost_29 : decode b_A_drawGhost 29 = .ok (.getfield 22, 3) ∧ 29 + 3 = 32 := ⟨by decide +kernel, rfl⟩
theorem d_A_drawGhost_32 : decode b_A_drawGhost 32 = .ok (.iload_n 3, 1) ∧ 32 + 1 = 33 := ⟨by decide +kernel, rfl⟩
theorem d_A_drawGhost_33 : decode b_A_drawGhost 33 = .ok (.aaload, 1) ∧ 33 + 1 = 34 := ⟨by decide +kernel, rfl⟩
theorem d_A_drawGhost_34 : decode b_A_drawGhost 34 = .ok (.getfield 120, 3) ∧ 34 + 3 = 37 := ⟨by decide +kernel, rfl⟩
theorem d_A_drawGhost_37 : decode b_A_drawGhost 37 = .ok (.ineg, 1) ∧ 37 + 1 = 38 := ⟨by decide +kernel, rfl⟩
theorem d_A_drawGhost_38 : decode b_A_drawGhost 38 = .ok (.invokestatic 243, 3) ∧ 38 + 3 = 41 := ⟨by decide +kernel, rfl⟩
theorem d_A_drawGhost_41 : decode b_A_drawGhost 41 = .ok (.iadd, 1) ∧ 41 + 1 = 42 := ⟨by decide +kernel, rfl⟩
theorem d_A_drawGhost_42 : decode b_A_drawGhost 42 = .ok (.istore_n 2, 1) ∧ 42 + 1 = 43 := ⟨by decide +kernel, rfl⟩
theorem d_A_drawGhost_43 : decode b_A_drawGhost 43 = .ok (.iinc 3 1, 3) ∧ 43 + 3 = 46 := ⟨by decide +kernel, rfl⟩
theorem d_A_drawGhost_46 : decode b_A_drawGhost 46 = .ok (.goto (-34), 3) ∧ ((46 : Nat) : Int) + (-34) = ((12 : Nat) : Int) := ⟨by decide +kernel, by decide⟩
theorem d_A_drawGhost_49 : decode b_A_drawGhost 49 = .ok (.aload_n 0, 1) ∧ 49 + 1 = 50 := ⟨by decide +kernel, rfl⟩
theorem d_A_drawGhost_50 : decode b_A_drawGhost 50 = .ok (.getfield 57, 3) ∧ 50 + 3 = 53 := ⟨by decide +kernel, rfl⟩
theorem d_A_drawGhost_53 : decode b_A_drawGhost 53 = .ok (.iload_n 2, 1) ∧ 53 + 1 = 54 := ⟨by decide +kernel, rfl⟩
theorem d_A_drawGhost_54 : decode b_A_drawGhost 54 = .ok (.iconst 0, 1) ∧ 54 + 1 = 55 := ⟨by decide +kernel, rfl⟩
theorem d_A_drawGhost_55 : decode b_A_drawGhost 55 = .ok (.invokestatic 82, 3) ∧ 55 + 3 = 58 := ⟨by decide +kernel, rfl⟩
theorem d_A_drawGhost_58 : decode b_A_drawGhost 58 = .ok (.iconst 1, 1) ∧ 58 + 1 = 59 := ⟨by decide +kernel, rfl⟩
theorem d_A_drawGhost_59 : decode b_A_drawGhost 59 = .ok (.iastore, 1) ∧ 59 + 1 = 60 := ⟨by decide +kernel, rfl⟩
theorem d_A_drawGhost_60 : decode b_A_drawGhost 60 = .ok (.iconst 0, 1) ∧ 60 + 1 = 61 := ⟨by decide +kernel, rfl⟩
theorem d_A_drawGhost_61 : decode b_A_drawGhost 61 = .ok (.istore_n 3, 1) ∧ 61 + 1 = 62 := ⟨by decide +kernel, rfl⟩
theorem d_A_drawGhost_62 : decode b_A_drawGhost 62 = .ok (.iload_n 3, 1) ∧ 62 + 1 = 63 := ⟨by decide +kernel, rfl⟩
theorem d_A_drawGhost_63 : decode b_A_drawGhost 63 = .ok (.bipush 8, 2) ∧ 63 + 2 = 65 := ⟨by decide +kernel, rfl⟩
theorem d_A_drawGhost_65 : decode b_A_drawGhost 65 = .ok (.if_icmp .ge 39, 3) ∧ 65 + 3 = 68 ∧ ((65 : Nat) : Int) + 39 = ((104 : Nat) : Int) := ⟨by decide +kernel, rfl, by decide⟩
theorem d_A_drawGhost_68 : decode b_A_drawGhost 68 = .ok (.iload_n 1, 1) ∧ 68 + 1 = 69 := ⟨by decide +kernel, rfl⟩
theorem d_A_drawGhost_69 : decode b_A_drawGhost 69 = .ok (.iload_n 3, 1) ∧ 69 + 1 = 70 := ⟨by decide +kernel, rfl⟩
theorem d_A_drawGhost_70 : decode b_A_drawGhost 70 = .ok (.invokestatic 177, 3) ∧ 70 + 3 = 73 := ⟨by decide +kernel, rfl⟩
theorem d_A_drawGhost_73 : decode b_A_drawGhost 73 = .ok (.ifCond .eq 25, 3) ∧ 73 + 3 = 76 ∧ ((73 : Nat) : Int) + 25 = ((98 : Nat) : Int) := ⟨by decide +kernel, rfl, by decide⟩
theorem d_A_drawGhost_76 : decode b_A_drawGhost 76 = .ok (.aload_n 0, 1) ∧ 76 + 1 = 77 := ⟨by decide +kernel, rfl⟩
theorem d_A_drawGhost_77 : decode b_A_drawGhost 77 = .ok (.aload_n 0, 1) ∧ 77 + 1 = 78 := ⟨by decide +kernel, rfl⟩
theorem d_A_drawGhost_78 : decode b_A_drawGhost 78 = .ok (.getfield 22, 3) ∧ 78 + 3 = 81 := ⟨by decide +kernel, rfl⟩
theorem d_A_drawGhost_81 : decode b_A_drawGhost 81 = .ok (.iload_n 3, 1) ∧ 81 + 1 = 82 := ⟨by decide +kernel, rfl⟩
theorem d_A_drawGhost_82 : decode b_A_drawGhost 82 = .ok (.aaload, 1) ∧ 82 + 1 = 83 := ⟨by decide +kernel, rfl⟩
theorem d_A_drawGhost_83 : decode b_A_drawGhost 83 = .ok (.getfield 120, 3) ∧ 83 + 3 = 86 := ⟨by decide +kernel, rfl⟩
theorem d_A_drawGhost_86 : decode b_A_drawGhost 86 = .ok (.aload_n 0, 1) ∧ 86 + 1 = 87 := ⟨by decide +kernel, rfl⟩
theorem d_A_drawGhost_87 : decode b_A_drawGhost 87 = .ok (.getfield 22, 3) ∧ 87 + 3 = 90 := ⟨by decide +kernel, rfl⟩
theorem d_A_drawGhost_90 : decode b_A_drawGhost 90 = .ok (.iload_n 3, 1) ∧ 90 + 1 = 91 := ⟨by decide +kernel, rfl⟩
theorem d_A_drawGhost_91 : decode b_A_drawGhost 91 = .ok (.aaload, 1) ∧ 91 + 1 = 92 := ⟨by decide +kernel, rfl⟩
theorem d_A_drawGhost_92 : decode b_A_drawGhost 92 = .ok (.getfield 123, 3) ∧ 92 + 3 = 95 := ⟨by decide +kernel, rfl⟩
theorem d_A_drawGhost_95 : decode b_A_drawGhost 95 = .ok (.invokevirtual 246, 3) ∧ 95 + 3 = 98 := ⟨by decide +kernel, rfl⟩
theorem d_A_drawGhost_98 : decode b_A_drawGhost 98 = .ok (.iinc 3 1, 3) ∧ 98 + 3 = 101 := ⟨by decide +kernel, rfl⟩
theorem d_A_drawGhost_101 : decode b_A_drawGhost 101 = .ok (.goto (-39), 3) ∧ ((101 : Nat) : Int) + (-39) = ((62 : Nat) : Int) := ⟨by decide +kernel, by decide⟩
theorem d_A_drawGhost_104 : decode b_A_drawGhost 104 = .ok (.return_, 1) := by decide +kernel
theorem d_A_drop_0 : decode b_A_drop 0 = .ok (.iload_n 1, 1) ∧ 0 + 1 = 1 := ⟨by decide +kernel, rfl⟩
theorem d_A_drop_1 : decode b_A_drop 1 = .ok (.invokestatic 95, 3) ∧ 1 + 3 = 4 := ⟨by decide +kernel, rfl⟩
theorem d_A_drop_4 : decode b_A_drop 4 = .ok (.aload_n 0, 1) ∧ 4 + 1 = 5 := ⟨by decide +kernel, rfl⟩
theorem d_A_drop_5 : decode b_A_drop 5 = .ok (.getfield 22, 3) ∧ 5 + 3 = 8 := ⟨by decide +kernel, rfl⟩
theorem d_A_drop_8 : decode b_A_drop 8 = .ok (.iload_n 1, 1) ∧ 8 + 1 = 9 := ⟨by decide +kernel, rfl⟩
theorem d_A_drop_9 : decode b_A_drop 9 = .ok (.aaload, 1) ∧ 9 + 1 = 10 := ⟨by decide +kernel, rfl⟩
theorem d_A_drop_10 : decode b_A_drop 10 = .ok (.getfield 129, 3) ∧ 10 + 3 = 13 := ⟨by decide +kernel, rfl⟩
theorem d_A_drop_13 : decode b_A_drop 13 = .ok (.istore_n 2, 1) ∧ 13 + 1 = 14 := ⟨by decide +kernel, rfl⟩
theorem d_A_drop_14 : decode b_A_drop 14 = .ok (.aload_n 0, 1) ∧ 14 + 1 = 15 := ⟨by decide +kernel, rfl⟩
theorem d_A_drop_15 : decode b_A_drop 15 = .ok (.getfield 22, 3) ∧ 15 + 3 = 18 := ⟨by decide +kernel, rfl⟩
theorem d_A_drop_18 : decode b_A_drop 18 = .ok (.iload_n 1, 1) ∧ 18 + 1 = 19 := ⟨by decide +kernel, rfl⟩
theorem d_A_drop_19 : decode b_A_drop 19 = .ok (.aaload, 1) ∧ 19 + 1 = 20 := ⟨by decide +kernel, rfl⟩
theorem d_A_drop_20 : decode b_A_drop 20 = .ok (.iconst 0, 1) ∧ 20 + 1 = 21 := ⟨by decide +kernel, rfl⟩
theorem d_A_drop_21 : decode b_A_drop 21 = .ok (.putfield 129, 3) ∧ 21 + 3 = 24 := ⟨by decide +kernel, rfl⟩
theorem d_A_drop_24 : decode b_A_drop 24 = .ok (.iload_n 2, 1) ∧ 24 + 1 = 25 := ⟨by decide +kernel, rfl⟩
theorem d_A_drop_25 : decode b_A_drop 25 = .ok (.ireturn, 1) := by decide +kernel
theorem d_A_enough_0 : decode b_A_enough 0 = .ok (.iload_n 1, 1) ∧ 0 + 1 = 1 := ⟨by decide +kernel, rfl⟩
theorem d_A_enough_1 : decode b_A_enough 1 = .ok (.invokestatic 142, 3) ∧ 1 + 3 = 4 := ⟨by decide +kernel, rfl⟩
theorem d_A_enough_4 : decode b_A_enough 4 = .ok (.aload_n 0, 1) ∧ 4 + 1 = 5 := ⟨by decide +kernel, rfl⟩
theorem d_A_enough_5 : decode b_A_enough 5 = .ok (.aload_n 0, 1) ∧ 5 + 1 = 6 := ⟨by decide +kernel, rfl⟩
theorem d_A_enough_6 : decode b_A_enough 6 = .ok (.iload_n 1, 1) ∧ 6 + 1 = 7 := ⟨by decide +kernel, rfl⟩
theorem d_A_enough_7 : decode b_A_enough 7 = .ok (.invokevirtual 145, 3) ∧ 7 + 3 = 10 := ⟨by decide +kernel, rfl⟩
theorem d_A_enough_10 : decode b_A_enough 10 = .ok (.invokevirtual 149, 3) ∧ 10 + 3 = 13 := ⟨by decide +kernel, rfl⟩
theorem d_A_enough_13 : decode b_A_enough 13 = .ok (.ireturn, 1) := by decide +kernel
theorem d_A_filledShelves_0 : decode b_A_filledShelves 0 = .ok (.iconst 0, 1) ∧ 0 + 1 = 1 := ⟨by decide +kernel, rfl⟩
theorem d_A_filledShelves_1 : decode b_A_filledShelves 1 = .ok (.istore_n 1, 1) ∧ 1 + 1 = 2 := ⟨by decide +kernel, rfl⟩
theorem d_A_filledShelves_2 : decode b_A_filledShelves 2 = .ok (.iconst 0, 1) ∧ 2 + 1 = 3 := ⟨by decide +kernel, rfl⟩
theorem d_A_filledShelves_3 : decode b_A_filledShelves 3 = .ok (.istore_n 2, 1) ∧ 3 + 1 = 4 := ⟨by decide +kernel, rfl⟩
theorem d_A_filledShelves_4 : decode b_A_filledShelves 4 = .ok (.iload_n 2, 1) ∧ 4 + 1 = 5 := ⟨by decide +kernel, rfl⟩
theorem d_A_filledShelves_5 : decode b_A_filledShelves 5 = .ok (.bipush 8, 2) ∧ 5 + 2 = 7 := ⟨by decide +kernel, rfl⟩
theorem d_A_filledShelves_7 : decode b_A_filledShelves 7 = .ok (.if_icmp .ge 27, 3) ∧ 7 + 3 = 10 ∧ ((7 : Nat) : Int) + 27 = ((34 : Nat) : Int) := ⟨by decide +kernel, rfl, by decide⟩
theorem d_A_filledShelves_10 : decode b_A_filledShelves 10 = .ok (.aload_n 0, 1) ∧ 10 + 1 = 11 := ⟨by decide +kernel, rfl⟩
theorem d_A_filledShelves_11 : decode b_A_filledShelves 11 = .ok (.getfield 22, 3) ∧ 11 + 3 = 14 := ⟨by decide +kernel, rfl⟩
theorem d_A_filledShelves_14 : decode b_A_filledShelves 14 = .ok (.iload_n 2, 1) ∧ 14 + 1 = 15 := ⟨by decide +kernel, rfl⟩
theorem d_A_filledShelves_15 : decode b_A_filledShelves 15 = .ok (.aaload, 1) ∧ 15 + 1 = 16 := ⟨by decide +kernel, rfl⟩
theorem d_A_filledShelves_16 : decode b_A_filledShelves 16 = .ok (.getfield 129, 3) ∧ 16 + 3 = 19 := ⟨by decide +kernel, rfl⟩
theorem d_A_filledShelves_19 : decode b_A_filledShelves 19 = .ok (.ifCond .eq 9, 3) ∧ 19 + 3 = 22 ∧ ((19 : Nat) : Int) + 9 = ((28 : Nat) : Int) := ⟨by decide +kernel, rfl, by decide⟩
theorem d_A_filledShelves_22 : decode b_A_filledShelves 22 = .ok (.iload_n 1, 1) ∧ 22 + 1 = 23 := ⟨by decide +kernel, rfl⟩
theorem d_A_filledShelves_23 : decode b_A_filledShelves 23 = .ok (.iconst 1, 1) ∧ 23 + 1 = 24 := ⟨by decide +kernel, rfl⟩
theorem d_A_filledShelves_24 : decode b_A_filledShelves 24 = .ok (.iload_n 2, 1) ∧ 24 + 1 = 25 := ⟨by decide +kernel, rfl⟩
theorem d_A_filledShelves_25 : decode b_A_filledShelves 25 = .ok (.ishl, 1) ∧ 25 + 1 = 26 := ⟨by decide +kernel, rfl⟩
theorem d_A_filledShelves_26 : decode b_A_filledShelves 26 = .ok (.ior, 1) ∧ 26 + 1 = 27 := ⟨by decide +kernel, rfl⟩
theorem d_A_filledShelves_27 : decode b_A_filledShelves 27 = .ok (.istore_n 1, 1) ∧ 27 + 1 = 28 := ⟨by decide +kernel, rfl⟩
theorem d_A_filledShelves_28 : decode b_A_filledShelves 28 = .ok (.iinc 2 1, 3) ∧ 28 + 3 = 31 := ⟨by decide +kernel, rfl⟩
theorem d_A_filledShelves_31 : decode b_A_filledShelves 31 = .ok (.goto (-27), 3) ∧ ((31 : Nat) : Int) + (-27) = ((4 : Nat) : Int) := ⟨by decide +kernel, by decide⟩
theorem d_A_filledShelves_34 : decode b_A_filledShelves 34 = .ok (.iload_n 1, 1) ∧ 34 + 1 = 35 := ⟨by decide +kernel, rfl⟩
theorem d_A_filledShelves_35 : decode b_A_filledShelves 35 = .ok (.ireturn, 1) := by decide +kernel
theorem d_A_ghost_0 : decode b_A_ghost 0 = .ok (.iload_n 1, 1) ∧ 0 + 1 = 1 := ⟨by decide +kernel, rfl⟩
theorem d_A_ghost_1 : decode b_A_ghost 1 = .ok (.invokestatic 142, 3) ∧ 1 + 3 = 4 := ⟨by decide +kernel, rfl⟩
theorem d_A_ghost_4 : decode b_A_ghost 4 = .ok (.aload_n 0, 1) ∧ 4 + 1 = 5 := ⟨by decide +kernel, rfl⟩
theorem d_A_ghost_5 : decode b_A_ghost 5 = .ok (.iload_n 2, 1) ∧ 5 + 1 = 6 := ⟨by decide +kernel, rfl⟩
theorem d_A_ghost_6 : decode b_A_ghost 6 = .ok (.iload_n 3, 1) ∧ 6 + 1 = 7 := ⟨by decide +kernel, rfl⟩
theorem d_A_ghost_7 : decode b_A_ghost 7 = .ok (.invokevirtual 78, 3) ∧ 7 + 3 = 10 := ⟨by decide +kernel, rfl⟩
theorem d_A_ghost_10 : decode b_A_ghost 10 = .ok (.aload_n 0, 1) ∧ 10 + 1 = 11 := ⟨by decide +kernel, rfl⟩
theorem d_A_ghost_11 : decode b_A_ghost 11 = .ok (.iload_n 1, 1) ∧ 11 + 1 = 12 := ⟨by decide +kernel, rfl⟩
theorem d_A_ghost_12 : decode b_A_ghost 12 = .ok (.invokevirtual 145, 3) ∧ 12 + 3 = 15 := ⟨by decide +kernel, rfl⟩
theorem d_A_ghost_15 : decode b_A_ghost 15 = .ok (.istore 4, 2) ∧ 15 + 2 = 17 := ⟨by decide +kernel, rfl⟩
theorem d_A_ghost_17 : decode b_A_ghost 17 = .ok (.aload_n 0, 1) ∧ 17 + 1 = 18 := ⟨by decide +kernel, rfl⟩
theorem d_A_ghost_18 : decode b_A_ghost 18 = .ok (.iload 4, 2) ∧ 18 + 2 = 20 := ⟨by decide +kernel, rfl⟩
theorem d_A_ghost_20 : decode b_A_ghost 20 = .ok (.invokevirtual 149, 3) ∧ 20 + 3 = 23 := ⟨by decide +kernel, rfl⟩
theorem d_A_ghost_23 : decode b_A_ghost 23 = .ok (.ifCond .ne 7, 3) ∧ 23 + 3 = 26 ∧ ((23 : Nat) : Int) + 7 = ((30 : Nat) : Int) := ⟨by decide +kernel, rfl, by decide⟩
theorem d_A_ghost_26 : decode b_A_ghost 26 = .ok (.iconst 1, 1) ∧ 26 + 1 = 27 := ⟨by decide +kernel, rfl⟩
theorem d_A_ghost_27 : decode b_A_ghost 27 = .ok (.goto 4, 3) ∧ ((27 : Nat) : Int) + 4 = ((31 : Nat) : Int) := ⟨by decide +kernel, by decide⟩
theorem d_A_ghost_30 : decode b_A_ghost 30 = .ok (.iconst 0, 1) ∧ 30 + 1 = 31 := ⟨by decide +kernel, rfl⟩
theorem d_A_ghost_31 : decode b_A_ghost 31 = .ok (.invokestatic 86, 3) ∧ 31 + 3 = 34 := ⟨by decide +kernel, rfl⟩
theorem d_A_ghost_34 : decode b_A_ghost 34 = .ok (.aload_n 0, 1) ∧ 34 + 1 = 35 := ⟨by decide +kernel, rfl⟩
theorem d_A_ghost_35 : decode b_A_ghost 35 = .ok (.iload 4, 2) ∧ 35 + 2 = 37 := ⟨by decide +kernel, rfl⟩
theorem d_A_ghost_37 : decode b_A_ghost 37 = .ok (.invokevirtual 180, 3) ∧ 37 + 3 = 40 := ⟨by decide +kernel, rfl⟩
theorem d_A_ghost_40 : decode b_A_ghost 40 = .ok (.aload_n 0, 1) ∧ 40 + 1 = 41 := ⟨by decide +kernel, rfl⟩
theorem d_A_ghost_41 : decode b_A_ghost 41 = .ok (.getfield 57, 3) ∧ 41 + 3 = 44 := ⟨by decide +kernel, rfl⟩
theorem d_A_ghost_44 : decode b_A_ghost 44 = .ok (.iload_n 2, 1) ∧ 44 + 1 = 45 := ⟨by decide +kernel, rfl⟩
theorem d_A_ghost_45 : decode b_A_ghost 45 = .ok (.iload_n 3, 1) ∧ 45 + 1 = 46 := ⟨by decide +kernel, rfl⟩
theorem d_A_ghost_46 : decode b_A_ghost 46 = .ok (.invokestatic 82, 3) ∧ 46 + 3 = 49 := ⟨by decide +kernel, rfl⟩
theorem d_A_ghost_49 : decode b_A_ghost 49 = .ok (.iaload, 1) ∧ 49 + 1 = 50 := ⟨by decide +kernel, rfl⟩
theorem d_A_ghost_50 : decode b_A_ghost 50 = .ok (.ireturn, 1) := by decide +kernel
theorem d_A_init_0 : decode b_A_init 0 = .ok (.aload_n 0, 1) ∧ 0 + 1 = 1 := ⟨by decide +kernel, rfl⟩
theorem d_A_init_1 : decode b_A_init 1 = .ok (.invokespecial 3, 3) ∧ 1 + 3 = 4 := ⟨by decide +kernel, rfl⟩
theorem d_A_init_4 : decode b_A_init 4 = .ok (.aload_n 0, 1) ∧ 4 + 1 = 5 := ⟨by decide +kernel, rfl⟩
theorem d_A_init_5 : decode b_A_init 5 = .ok (.iconst 1, 1) ∧ 5 + 1 = 6 := ⟨by decide +kernel, rfl⟩
theorem d_A_init_6 : decode b_A_init 6 = .ok (.putfield 9, 3) ∧ 6 + 3 = 9 := ⟨by decide +kernel, rfl⟩
theorem d_A_init_9 : decode b_A_init 9 = .ok (.aload_n 0, 1) ∧ 9 + 1 = 10 := ⟨by decide +kernel, rfl⟩
theorem d_A_init_10 : decode b_A_init 10 = .ok (.iconst 1, 1) ∧ 10 + 1 = 11 := ⟨by decide +kernel, rfl⟩
theorem d_A_init_11 : decode b_A_init 11 = .ok (.putfield 13, 3) ∧ 11 + 3 = 14 := ⟨by decide +kernel, rfl⟩
theorem d_A_init_14 : decode b_A_init 14 = .ok (.aload_n 0, 1) ∧ 14 + 1 = 15 := ⟨by decide +kernel, rfl⟩
theorem d_A_init_15 : decode b_A_init 15 = .ok (.sipush 256, 3) ∧ 15 + 3 = 18 := ⟨by decide +kernel, rfl⟩
theorem d_A_init_18 : decode b_A_init 18 = .ok (.newarray .int, 2) ∧ 18 + 2 = 20 := ⟨by decide +kernel, rfl⟩
theorem d_A_init_20 : decode b_A_init 20 = .ok (.putfield 16, 3) ∧ 20 + 3 = 23 := ⟨by decide +kernel, rfl⟩
theorem d_A_init_23 : decode b_A_init 23 = .ok (.aload_n 0, 1) ∧ 23 + 1 = 24 := ⟨by decide +kernel, rfl⟩
theorem d_A_init_24 : decode b_A_init 24 = .ok (.bipush 8, 2) ∧ 24 + 2 = 26 := ⟨by decide +kernel, rfl⟩
theorem d_A_init_26 : decode b_A_init 26 = .ok (.anewarray 20, 3) ∧ 26 + 3 = 29 := ⟨by decide +kernel, rfl⟩
theorem d_A_init_29 : decode b_A_init 29 = .ok (.putfield 22, 3) ∧ 29 + 3 = 32 := ⟨by decide +kernel, rfl⟩
theorem d_A_init_32 : decode b_A_init 32 = .ok (.aload_n 0, 1) ∧ 32 + 1 = 33 := ⟨by decide +kernel, rfl⟩
theorem d_A_init_33 : decode b_A_init 33 = .ok (.iconst 0, 1) ∧ 33 + 1 = 34 := ⟨by decide +kernel, rfl⟩
theorem d_A_init_34 : decode b_A_init 34 = .ok (.putfield 26, 3) ∧ 34 + 3 = 37 := ⟨by decide +kernel, rfl⟩
theorem d_A_init_37 : decode b_A_init 37 = .ok (.aload_n 0, 1) ∧ 37 + 1 = 38 := ⟨by decide +kernel, rfl⟩
theorem d_A_init_38 : decode b_A_init 38 = .ok (.sipush 256, 3) ∧ 38 + 3 = 41 := ⟨by decide +kernel, rfl⟩
theorem d_A_init_41 : decode b_A_init 41 = .ok (.newarray .int, 2) ∧ 41 + 2 = 43 := ⟨by decide +kernel, rfl⟩
theorem d_A_init_43 : decode b_A_init 43 = .ok (.putfield 30, 3) ∧ 43 + 3 = 46 := ⟨by decide +kernel, rfl⟩
theorem d_A_init_46 : decode b_A_init 46 = .ok (.aload_n 0, 1) ∧ 46 + 1 = 47 := ⟨by decide +kernel, rfl⟩
theorem d_A_init_47 : decode b_A_init 47 = .ok (.bipush 8, 2) ∧ 47 + 2 = 49 := ⟨by decide +kernel, rfl⟩
theorem d_A_init_49 : decode b_A_init 49 = .ok (.anewarray 20, 3) ∧ 49 + 3 = 52 := ⟨by decide +kernel, rfl⟩
theorem d_A_init_52 : decode b_A_init 52 = .ok (.putfield 33, 3) ∧ 52 + 3 = 55 := ⟨by decide +kernel, rfl⟩
theorem d_A_init_55 : decode b_A_init 55 = .ok (.aload_n 0, 1) ∧ 55 + 1 = 56 := ⟨by decide +kernel, rfl⟩
theorem d_A_init_56 : decode b_A_init 56 = .ok (.iconst 0, 1) ∧ 56 + 1 = 57 := ⟨by decide +kernel, rfl⟩
theorem d_A_init_57 : decode b_A_init 57 = .ok (.putfield 36, 3) ∧ 57 + 3 = 60 := ⟨by decide +kernel, rfl⟩
theorem d_A_init_60 : decode b_A_init 60 = .ok (.aload_n 0, 1) ∧ 60 + 1 = 61 := ⟨by decide +kernel, rfl⟩
theorem d_A_init_61 : decode b_A_init 61 = .ok (.sipush 256, 3) ∧ 61 + 3 = 64 := ⟨by decide +kernel, rfl⟩
theorem d_A_init_64 : decode b_A_init 64 = .ok (.newarray .int, 2) ∧ 64 + 2 = 66 := ⟨by decide +kernel, rfl⟩
theorem d_A_init_66 : decode b_A_init 66 = .ok (.putfield 39, 3) ∧ 66 + 3 = 69 := ⟨by decide +kernel, rfl⟩
theorem d_A_init_69 : decode b_A_init 69 = .ok (.aload_n 0, 1) ∧ 69 + 1 = 70 := ⟨by decide +kernel, rfl⟩
theorem d_A_init_70 : decode b_A_init 70 = .ok (.iconst 0, 1) ∧ 70 + 1 = 71 := ⟨by decide +kernel, rfl⟩
theorem d_A_init_71 : decode b_A_init 71 = .ok (.putfield 42, 3) ∧ 71 + 3 = 74 := ⟨by decide +kernel, rfl⟩
theorem d_A_init_74 : decode b_A_init 74 = .ok (.aload_n 0, 1) ∧ 74 + 1 = 75 := ⟨by decide +kernel, rfl⟩
theorem d_A_init_75 : decode b_A_init 75 = .ok (.iconst (-1), 1) ∧ 75 + 1 = 76 := ⟨by decide +kernel, rfl⟩
theorem d_A_init_76 : decode b_A_init 76 = .ok (.putfield 45, 3) ∧ 76 + 3 = 79 := ⟨by decide +kernel, rfl⟩
theorem d_A_init_79 : decode b_A_init 79 = .ok (.aload_n 0, 1) ∧ 79 + 1 = 80 := ⟨by decide +kernel, rfl⟩
theorem d_A_init_80 : decode b_A_init 80 = .ok (.sipush 256, 3) ∧ 80 + 3 = 83 := ⟨by decide +kernel, rfl⟩
theorem d_A_init_83 : decode b_A_init 83 = .ok (.newarray .int, 2) ∧ 83 + 2 = 85 := ⟨by decide +kernel, rfl⟩
theorem d_A_init_85 : decode b_A_init 85 = .ok (.putfield 48, 3) ∧ 85 + 3 = 88 := ⟨by decide +kernel, rfl⟩
theorem d_A_init_88 : decode b_A_init 88 = .ok (.aload_n 0, 1) ∧ 88 + 1 = 89 := ⟨by decide +kernel, rfl⟩
theorem d_A_init_89 : decode b_A_init 89 = .ok (.bipush 8, 2) ∧ 89 + 2 = 91 := ⟨by decide +kernel, rfl⟩
theorem d_A_init_91 : decode b_A_init 91 = .ok (.anewarray 51, 3) ∧ 91 + 3 = 94 := ⟨by decide +kernel, rfl⟩
theorem d_A_init_94 : decode b_A_init 94 = .ok (.putfield 53, 3) ∧ 94 + 3 = 97 := ⟨by decide +kernel, rfl⟩
theorem d_A_init_97 : decode b_A_init 97 = .ok (.aload_n 0, 1) ∧ 97 + 1 = 98 := ⟨by decide +kernel, rfl⟩
theorem d_A_init_98 : decode b_A_init 98 = .ok (.sipush 256, 3) ∧ 98 + 3 = 101 := ⟨by decide +kernel, rfl⟩
theorem d_A_init_101 : decode b_A_init 101 = .ok (.newarray .int, 2) ∧ 101 + 2 = 103 := ⟨by decide +kernel, rfl⟩
theorem d_A_init_103 : decode b_A_init 103 = .ok (.putfield 57, 3) ∧ 103 + 3 = 106 := ⟨by decide +kernel, rfl⟩
theorem d_A_init_106 : decode b_A_init 106 = .ok (.iconst 0, 1) ∧ 106 + 1 = 107 := ⟨by decide +kernel, rfl⟩
theorem d_A_init_107 : decode b_A_init 107 = .ok (.istore_n 1, 1) ∧ 107 + 1 = 108 := ⟨by decide +kernel, rfl⟩
theorem d_A_init_108 : decode b_A_init 108 = .ok (.iload_n 1, 1) ∧ 108 + 1 = 109 := ⟨by decide +kernel, rfl⟩
theorem d_A_init_109 : decode b_A_init 109 = .ok (.bipush 8, 2) ∧ 109 + 2 = 111 := ⟨by decide +kernel, rfl⟩
theorem d_A_init_111 : decode b_A_init 111 = .ok (.if_icmp .ge 48, 3) ∧ 111 + 3 = 114 ∧ ((111 : Nat) : Int) + 48 = ((159 : Nat) : Int) := ⟨by decide +kernel, rfl, by decide⟩
theorem d_A_init_114 : decode b_A_init 114 = .ok (.aload_n 0, 1) ∧ 114 + 1 = 115 := ⟨by decide +kernel, rfl⟩
theorem d_A_init_115 : decode b_A_init 115 = .ok (.getfield 22, 3) ∧ 115 + 3 = 118 := ⟨by decide +kernel, rfl⟩
theorem d_A_init_118 : decode b_A_init 118 = .ok (.iload_n 1, 1) ∧ 118 + 1 = 119 := ⟨by decide +kernel, rfl⟩
theorem d_A_init_119 : decode b_A_init 119 = .ok (.new 20, 3) ∧ 119 + 3 = 122 := ⟨by decide +kernel, rfl⟩
theorem d_A_init_122 : decode b_A_init 122 = .ok (.dup, 1) ∧ 122 + 1 = 123 := ⟨by decide +kernel, rfl⟩
theorem d_A_init_123 : decode b_A_init 123 = .ok (.invokespecial 60, 3) ∧ 123 + 3 = 126 := ⟨by decide +kernel, rfl⟩
theorem d_A_init_126 : decode b_A_init 126 = .ok (.aastore, 1) ∧ 126 + 1 = 127 := ⟨by decide +kernel, rfl⟩
theorem d_A_init_127 : decode b_A_init 127 = .ok (.aload_n 0, 1) ∧ 127 + 1 = 128 := ⟨by decide +kernel, rfl⟩
theorem d_A_init_128 : decode b_A_init 128 = .ok (.getfield 33, 3) ∧ 128 + 3 = 131 := ⟨by decide +kernel, rfl⟩
theorem d_A_init_131 : decode b_A_init 131 = .ok (.iload_n 1, 1) ∧ 131 + 1 = 132 := ⟨by decide +kernel, rfl⟩
theorem d_A_init_132 : decode b_A_init 132 = .ok (.new 20, 3) ∧ 132 + 3 = 135 := ⟨by decide +kernel, rfl⟩
theorem d_A_init_135 : decode b_A_init 135 = .ok (.dup, 1) ∧ 135 + 1 = 136 := ⟨by decide +kernel, rfl⟩
theorem d_A_init_136 : decode b_A_init 136 = .ok (.invokespecial 60, 3) ∧ 136 + 3 = 139 := ⟨by decide +kernel, rfl⟩
theorem d_A_init_139 : decode b_A_init 139 = .ok (.aastore, 1) ∧ 139 + 1 = 140 := ⟨by decide +kernel, rfl⟩
theorem d_A_init_140 : decode b_A_init 140 = .ok (.aload_n 0, 1) ∧ 140 + 1 = 141 := ⟨by decide +kernel, rfl⟩
theorem d_A_init_141 : decode b_A_init 141 = .ok (.getfield 53, 3) ∧ 141 + 3 = 144 := ⟨by decide +kernel, rfl⟩
theorem d_A_init_144 : decode b_A_init 144 = .ok (.iload_n 1, 1) ∧ 144 + 1 = 145 := ⟨by decide +kernel, rfl⟩
theorem d_A_init_145 : decode b_A_init 145 = .ok (.new 51, 3) ∧ 145 + 3 = 148 := ⟨by decide +kernel, rfl⟩
theorem d_A_init_148 : decode b_A_init 148 = .ok (.dup, 1) ∧ 148 + 1 = 149 := ⟨by decide +kernel, rfl⟩
theorem d_A_init_149 : decode b_A_init 149 = .ok (.invokespecial 61, 3) ∧ 149 + 3 = 152 := ⟨by decide +kernel, rfl⟩
theorem d_A_init_152 : decode b_A_init 152 = .ok (.aastore, 1) ∧ 152 + 1 = 153 := ⟨by decide +kernel, rfl⟩
theorem d_A_init_153 : decode b_A_init 153 = .ok (.iinc 1 1, 3) ∧ 153 + 3 = 156 := ⟨by decide +kernel, rfl⟩
theorem d_A_init_156 : decode b_A_init 156 = .ok (.goto (-48), 3) ∧ ((156 : Nat) : Int) + (-48) = ((108 : Nat) : Int) := ⟨by decide +kernel, by decide⟩
theorem d_A_init_159 : decode b_A_init 159 = .ok (.return_, 1) := by decide +kernel
theorem d_A_isDirection_0 : decode b_A_isDirection 0 = .ok (.iload_n 0, 1) ∧ 0 + 1 = 1 := ⟨by decide +kernel, rfl⟩
theorem d_A_isDirection_1 : decode b_A_isDirection 1 = .ok (.bipush (-16), 2) ∧ 1 + 2 = 3 := ⟨by decide +kernel, rfl⟩
theorem d_A_isDirection_3 : decode b_A_isDirection 3 = .ok (.if_icmp .lt 21, 3) ∧ 3 + 3 = 6 ∧ ((3 : Nat) : Int) + 21 = ((24 : Nat) : Int) := ⟨by decide +kernel, rfl, by decide⟩
theorem d_A_isDirection_6 : decode b_A_isDirection 6 = .ok (.iload_n 0, 1) ∧ 6 + 1 = 7 := ⟨by decide +kernel, rfl⟩
theorem d_A_isDirection_7 : decode b_A_isDirection 7 = .ok (.bipush 16, 2) ∧ 7 + 2 = 9 := ⟨by decide +kernel, rfl⟩
theorem d_A_isDirection_9 : decode b_A_isDirection 9 = .ok (.if_icmp .gt 15, 3) ∧ 9 + 3 = 12 ∧ ((9 : Nat) : Int) + 15 = ((24 : Nat) : Int) := ⟨by decide +kernel, rfl, by decide⟩
theorem d_A_isDirection_12 : decode b_A_isDirection 12 = .ok (.iload_n 1, 1) ∧ 12 + 1 = 13 := ⟨by decide +kernel, rfl⟩
theorem d_A_isDirection_13 : decode b_A_isDirection 13 = .ok (.bipush (-16), 2) ∧ 13 + 2 = 15 := ⟨by decide +kernel, rfl⟩
theorem d_A_isDirection_15 : decode b_A_isDirection 15 = .ok (.if_icmp .lt 9, 3) ∧ 15 + 3 = 18 ∧ ((15 : Nat) : Int) + 9 = ((24 : Nat) : Int) := ⟨by decide +kernel, rfl, by decide⟩
theorem d_A_isDirection_18 : decode b_A_isDirection 18 = .ok (.iload_n 1, 1) ∧ 18 + 1 = 19 := ⟨by decide +kernel, rfl⟩
theorem d_A_isDirection_19 : decode b_A_isDirection 19 = .ok (.bipush 16, 2) ∧ 19 + 2 = 21 := ⟨by decide +kernel, rfl⟩
theorem d_A_isDirection_21 : decode b_A_isDirection 21 = .ok (.if_icmp .le 5, 3) ∧ 21 + 3 = 24 ∧ ((21 : Nat) : Int) + 5 = ((26 : Nat) : Int) := ⟨by decide +kernel, rfl, by decide⟩
theorem d_A_isDirection_24 : decode b_A_isDirection 24 = .ok (.iconst 0, 1) ∧ 24 + 1 = 25 := ⟨by decide +kernel, rfl⟩
theorem d_A_isDirection_25 : decode b_A_isDirection 25 = .ok (.ireturn, 1) := by decide +kernel
theorem d_A_isDirection_26 : decode b_A_isDirection 26 = .ok (.iconst 2, 1) ∧ 26 + 1 = 27 := ⟨by decide +kernel, rfl⟩
theorem d_A_isDirection_27 : decode b_A_isDirection 27 = .ok (.istore_n 2, 1) ∧ 27 + 1 = 28 := ⟨by decide +kernel, rfl⟩
theorem d_A_isDirection_28 : decode b_A_isDirection 28 = .ok (.iload_n 2, 1) ∧ 28 + 1 = 29 := ⟨by decide +kernel, rfl⟩
theorem d_A_isDirection_29 : decode b_A_isDirection 29 = .ok (.bipush 16, 2) ∧ 29 + 2 = 31 := ⟨by decide +kernel, rfl⟩
theorem d_A_isDirection_31 : decode b_A_isDirection 31 = .ok (.if_icmp .gt 23, 3) ∧ 31 + 3 = 34 ∧ ((31 : Nat) : Int) + 23 = ((54 : Nat) : Int) := ⟨by decide +kernel, rfl, by decide⟩
theorem d_A_isDirection_34 : decode b_A_isDirection 34 = .ok (.iload_n 0, 1) ∧ 34 + 1 = 35 := ⟨by decide +kernel, rfl⟩
theorem d_A_isDirection_35 : decode b_A_isDirection 35 = .ok (.iload_n 2, 1) ∧ 35 + 1 = 36 := ⟨by decide +kernel, rfl⟩
theorem d_A_isDirection_36 : decode b_A_isDirection 36 = .ok (.irem, 1) ∧ 36 + 1 = 37 := ⟨by decide +kernel, rfl⟩
theorem d_A_isDirection_37 : decode b_A_isDirection 37 = .ok (.ifCond .ne 11, 3) ∧ 37 + 3 = 40 ∧ ((37 : Nat) : Int) + 11 = ((48 : Nat) : Int) := ⟨by decide +kernel, rfl, by decide⟩
theorem d_A_isDirection_40 : decode b_A_isDirection 40 = .ok (.iload_n 1, 1) ∧ 40 + 1 = 41 := ⟨by decide +kernel, rfl⟩
theorem d_A_isDirection_41 : decode b_A_isDirection 41 = .ok (.iload_n 2, 1) ∧ 41 + 1 = 42 := ⟨by decide +kernel, rfl⟩
theorem d_A_isDirection_42 : decode b_A_isDirection 42 = .ok (.irem, 1) ∧ 42 + 1 = 43 := ⟨by decide +kernel, rfl⟩
theorem d_A_isDirection_43 : decode b_A_isDirection 43 = .ok (.ifCond .ne 5, 3) ∧ 43 + 3 = 46 ∧ ((43 : Nat) : Int) + 5 = ((48 : Nat) : Int) := ⟨by decide +kernel, rfl, by decide⟩
theorem d_A_isDirection_46 : decode b_A_isDirection 46 = .ok (.iconst 0, 1) ∧ 46 + 1 = 47 := ⟨by decide +kernel, rfl⟩
theorem d_A_isDirection_47 : decode b_A_isDirection 47 = .ok (.ireturn, 1) := by decide +kernel
theorem d_A_isDirection_48 : decode b_A_isDirection 48 = .ok (.iinc 2 1, 3) ∧ 48 + 3 = 51 := ⟨by decide +kernel, rfl⟩
theorem d_A_isDirection_51 : decode b_A_isDirection 51 = .ok (.goto (-23), 3) ∧ ((51 : Nat) : Int) + (-23) = ((28 : Nat) : Int) := ⟨by decide +kernel, by decide⟩
theorem d_A_isDirection_54 : decode b_A_isDirection 54 = .ok (.iconst 1, 1) ∧ 54 + 1 = 55 := ⟨by decide +kernel, rfl⟩
theorem d_A_isDirection_55 : decode b_A_isDirection 55 = .ok (.ireturn, 1) := by decide +kernel
theorem d_A_isIn_0 : decode b_A_isIn 0 = .ok (.iload_n 0, 1) ∧ 0 + 1 = 1 := ⟨by decide +kernel, rfl⟩
theorem d_A_isIn_1 : decode b_A_isIn 1 = .ok (.iload_n 1, 1) ∧ 1 + 1 = 2 := ⟨by decide +kernel, rfl⟩
theorem d_A_isIn_2 : decode b_A_isIn 2 = .ok (.ishr, 1) ∧ 2 + 1 = 3 := ⟨by decide +kernel, rfl⟩
theorem d_A_isIn_3 : decode b_A_isIn 3 = .ok (.iconst 1, 1) ∧ 3 + 1 = 4 := ⟨by decide +kernel, rfl⟩
theorem d_A_isIn_4 : decode b_A_isIn 4 = .ok (.iand, 1) ∧ 4 + 1 = 5 := ⟨by decide +kernel, rfl⟩
theorem d_A_isIn_5 : decode b_A_isIn 5 = .ok (.iconst 1, 1) ∧ 5 + 1 = 6 := ⟨by decide +kernel, rfl⟩
theorem d_A_isIn_6 : decode b_A_isIn 6 = .ok (.if_icmp .ne 7, 3) ∧ 6 + 3 = 9 ∧ ((6 : Nat) : Int) + 7 = ((13 : Nat) : Int) := ⟨by decide +kernel, rfl, by decide⟩
theorem d_A_isIn_9 : decode b_A_isIn 9 = .ok (.iconst 1, 1) ∧ 9 + 1 = 10 := ⟨by decide +kernel, rfl⟩
theorem d_A_isIn_10 : decode b_A_isIn 10 = .ok (.goto 4, 3) ∧ ((10 : Nat) : Int) + 4 = ((14 : Nat) : Int) := ⟨by decide +kernel, by decide⟩
theorem d_A_isIn_13 : decode b_A_isIn 13 = .ok (.iconst 0, 1) ∧ 13 + 1 = 14 := ⟨by decide +kernel, rfl⟩
theorem d_A_isIn_14 : decode b_A_isIn 14 = .ok (.ireturn, 1) := by decide +kernel
theorem d_A_keep_0 : decode b_A_keep 0 = .ok (.aload_n 0, 1) ∧ 0 + 1 = 1 := ⟨by decide +kernel, rfl⟩
theorem d_A_keep_1 : decode b_A_keep 1 = .ok (.getfield 16, 3) ∧ 1 + 3 = 4 := ⟨by decide +kernel, rfl⟩
theorem d_A_keep_4 : decode b_A_keep 4 = .ok (.iconst 0, 1) ∧ 4 + 1 = 5 := ⟨by decide +kernel, rfl⟩
theorem d_A_keep_5 : decode b_A_keep 5 = .ok (.aload_n 0, 1) ∧ 5 + 1 = 6 := ⟨by decide +kernel, rfl⟩
theorem d_A_keep_6 : decode b_A_keep 6 = .ok (.getfield 30, 3) ∧ 6 + 3 = 9 := ⟨by decide +kernel, rfl⟩
theorem d_A_keep_9 : decode b_A_keep 9 = .ok (.iconst 0, 1) ∧ 9 + 1 = 10 := ⟨by decide +kernel, rfl⟩
theorem d_A_keep_10 : decode b_A_keep 10 = .ok (.sipush 256, 3) ∧ 10 + 3 = 13 := ⟨by decide +kernel, rfl⟩
theorem d_A_keep_13 : decode b_A_keep 13 = .ok (.invokestatic 160, 3) ∧ 13 + 3 = 16 := ⟨by decide +kernel, rfl⟩
theorem d_A_keep_16 : decode b_A_keep 16 = .ok (.iconst 0, 1) ∧ 16 + 1 = 17 := ⟨by decide +kernel, rfl⟩
theorem d_A_keep_17 : decode b_A_keep 17 = .ok (.istore_n 1, 1) ∧ 17 + 1 = 18 := ⟨by decide +kernel, rfl⟩
theorem d_A_keep_18 : decode b_A_keep 18 = .ok (.iload_n 1, 1) ∧ 18 + 1 = 19 := ⟨by decide +kernel, rfl⟩
theorem d_A_keep_19 : decode b_A_keep 19 = .ok (.bipush 8, 2) ∧ 19 + 2 = 21 := ⟨by decide +kernel, rfl⟩
theorem d_A_keep_21 : decode b_A_keep 21 = .ok (.if_icmp .ge 24, 3) ∧ 21 + 3 = 24 ∧ ((21 : Nat) : Int) + 24 = ((45 : Nat) : Int) := ⟨by decide +kernel, rfl, by decide⟩
theorem d_A_keep_24 : decode b_A_keep 24 = .ok (.aload_n 0, 1) ∧ 24 + 1 = 25 := ⟨by decide +kernel, rfl⟩
theorem d_A_keep_25 : decode b_A_keep 25 = .ok (.getfield 33, 3) ∧ 25 + 3 = 28 := ⟨by decide +kernel, rfl⟩
theorem d_A_keep_28 : decode b_A_keep 28 = .ok (.iload_n 1, 1) ∧ 28 + 1 = 29 := ⟨by decide +kernel, rfl⟩
theorem d_A_keep_29 : decode b_A_keep 29 = .ok (.aaload, 1) ∧ 29 + 1 = 30 := ⟨by decide +kernel, rfl⟩
theorem d_A_keep_30 : decode b_A_keep 30 = .ok (.aload_n 0, 1) ∧ 30 + 1 = 31 := ⟨by decide +kernel, rfl⟩
theorem d_A_keep_31 : decode b_A_keep 31 = .ok (.getfield 22, 3) ∧ 31 + 3 = 34 := ⟨by decide +kernel, rfl⟩
theorem d_A_keep_34 : decode b_A_keep 34 = .ok (.iload_n 1, 1) ∧ 34 + 1 = 35 := ⟨by decide +kernel, rfl⟩
theorem d_A_keep_35 : decode b_A_keep 35 = .ok (.aaload, 1) ∧ 35 + 1 = 36 := ⟨by decide +kernel, rfl⟩
theorem d_A_keep_36 : decode b_A_keep 36 = .ok (.invokevirtual 183, 3) ∧ 36 + 3 = 39 := ⟨by decide +kernel, rfl⟩
theorem d_A_keep_39 : decode b_A_keep 39 = .ok (.iinc 1 1, 3) ∧ 39 + 3 = 42 := ⟨by decide +kernel, rfl⟩
theorem d_A_keep_42 : decode b_A_keep 42 = .ok (.goto (-24), 3) ∧ ((42 : Nat) : Int) + (-24) = ((18 : Nat) : Int) := ⟨by decide +kernel, by decide⟩
theorem d_A_keep_45 : decode b_A_keep 45 = .ok (.aload_n 0, 1) ∧ 45 + 1 = 46 := ⟨by decide +kernel, rfl⟩
theorem d_A_keep_46 : decode b_A_keep 46 = .ok (.iconst 1, 1) ∧ 46 + 1 = 47 := ⟨by decide +kernel, rfl⟩
theorem d_A_keep_47 : decode b_A_keep 47 = .ok (.putfield 26, 3) ∧ 47 + 3 = 50 := ⟨by decide +kernel, rfl⟩
theorem d_A_keep_50 : decode b_A_keep 50 = .ok (.return_, 1) := by decide +kernel
theorem d_A_look_0 : decode b_A_look 0 = .ok (.aload_n 0, 1) ∧ 0 + 1 = 1 := ⟨by decide +kernel, rfl⟩
theorem d_A_look_1 : decode b_A_look 1 = .ok (.iload_n 2, 1) ∧ 1 + 1 = 2 := ⟨by decide +kernel, rfl⟩
theorem d_A_look_2 : decode b_A_look 2 = .ok (.iload_n 3, 1) ∧ 2 + 1 = 3 := ⟨by decide +kernel, rfl⟩
theorem d_A_look_3 : decode b_A_look 3 = .ok (.invokevirtual 78, 3) ∧ 3 + 3 = 6 := ⟨by decide +kernel, rfl⟩
theorem d_A_look_6 : decode b_A_look 6 = .ok (.iload_n 2, 1) ∧ 6 + 1 = 7 := ⟨by decide +kernel, rfl⟩
theorem d_A_look_7 : decode b_A_look 7 = .ok (.iload_n 3, 1) ∧ 7 + 1 = 8 := ⟨by decide +kernel, rfl⟩
theorem d_A_look_8 : decode b_A_look 8 = .ok (.invokestatic 82, 3) ∧ 8 + 3 = 11 := ⟨by decide +kernel, rfl⟩
theorem d_A_look_11 : decode b_A_look 11 = .ok (.istore 4, 2) ∧ 11 + 2 = 13 := ⟨by decide +kernel, rfl⟩
theorem d_A_look_13 : decode b_A_look 13 = .ok (.iload_n 1, 1) ∧ 13 + 1 = 14 := ⟨by decide +kernel, rfl⟩
theorem d_A_look_14 : decode b_A_look 14 = .ok (.tableswitch 64 0 2 #[26, 34, 49], 26) := by decide +kernel
theorem d_A_look_40 : decode b_A_look 40 = .ok (.aload_n 0, 1) ∧ 40 + 1 = 41 := ⟨by decide +kernel, rfl⟩
theorem d_A_look_41 : decode b_A_look 41 = .ok (.getfield 16, 3) ∧ 41 + 3 = 44 := ⟨by decide +kernel, rfl⟩
theorem d_A_look_44 : decode b_A_look 44 = .ok (.iload 4, 2) ∧ 44 + 2 = 46 := ⟨by decide +kernel, rfl⟩
theorem d_A_look_46 : decode b_A_look 46 = .ok (.iaload, 1) ∧ 46 + 1 = 47 := ⟨by decide +kernel, rfl⟩
theorem d_A_look_47 : decode b_A_look 47 = .ok (.ireturn, 1) := by decide +kernel
theorem d_A_look_48 : decode b_A_look 48 = .ok (.aload_n 0, 1) ∧ 48 + 1 = 49 := ⟨by decide +kernel, rfl⟩
theorem d_A_look_49 : decode b_A_look 49 = .ok (.getfield 26, 3) ∧ 49 + 3 = 52 := ⟨by decide +kernel, rfl⟩
theorem d_A_look_52 : decode b_A_look 52 = .ok (.invokestatic 86, 3) ∧ 52 + 3 = 55 := ⟨by decide +kernel, rfl⟩
theorem d_A_look_55 : decode b_A_look 55 = .ok (.aload_n 0, 1) ∧ 55 + 1 = 56 := ⟨by decide +kernel, rfl⟩
theorem d_A_look_56 : decode b_A_look 56 = .ok (.getfield 30, 3) ∧ 56 + 3 = 59 := ⟨by decide +kernel, rfl⟩
theorem d_A_look_59 : decode b_A_look 59 = .ok (.iload 4, 2) ∧ 59 + 2 = 61 := ⟨by decide +kernel, rfl⟩
theorem d_A_look_61 : decode b_A_look 61 = .ok (.iaload, 1) ∧ 61 + 1 = 62 := ⟨by decide +kernel, rfl⟩
theorem d_A_look_62 : decode b_A_look 62 = .ok (.ireturn, 1) := by decide +kernel
theorem d_A_look_63 : decode b_A_look 63 = .ok (.aload_n 0, 1) ∧ 63 + 1 = 64 := ⟨by decide +kernel, rfl⟩
theorem d_A_look_64 : decode b_A_look 64 = .ok (.getfield 36, 3) ∧ 64 + 3 = 67 := ⟨by decide +kernel, rfl⟩
theorem d_A_look_67 : decode b_A_look 67 = .ok (.invokestatic 86, 3) ∧ 67 + 3 = 70 := ⟨by decide +kernel, rfl⟩
theorem d_A_look_70 : decode b_A_look 70 = .ok (.aload_n 0, 1) ∧ 70 + 1 = 71 := ⟨by decide +kernel, rfl⟩
theorem d_A_look_71 : decode b_A_look 71 = .ok (.getfield 39, 3) ∧ 71 + 3 = 74 := ⟨by decide +kernel, rfl⟩
theorem d_A_look_74 : decode b_A_look 74 = .ok (.iload 4, 2) ∧ 74 + 2 = 76 := ⟨by decide +kernel, rfl⟩
theorem d_A_look_76 : decode b_A_look 76 = .ok (.iaload, 1) ∧ 76 + 1 = 77 := ⟨by decide +kernel, rfl⟩
theorem d_A_look_77 : decode b_A_look 77 = .ok (.ireturn, 1) := by decide +kernel
theorem d_A_look_78 : decode b_A_look 78 = .ok (.new 90, 3) ∧ 78 + 3 = 81 := ⟨by decide +kernel, rfl⟩
theorem d_A_look_81 : decode b_A_look 81 = .ok (.dup, 1) ∧ 81 + 1 = 82 := ⟨by decide +kernel, rfl⟩
theorem d_A_look_82 : decode b_A_look 82 = .ok (.ldc 92, 2) ∧ 82 + 2 = 84 := ⟨by decide +kernel, rfl⟩
theorem d_A_look_84 : decode b_A_look 84 = .ok (.invokespecial 94, 3) ∧ 84 + 3 = 87 := ⟨by decide +kernel, rfl⟩
theorem d_A_look_87 : decode b_A_look 87 = .ok (.athrow, 1) := by decide +kernel
theorem d_A_lowestReadyShelf_0 : decode b_A_lowestReadyShelf 0 = .ok (.iconst 0, 1) ∧ 0 + 1 = 1 := ⟨by decide +kernel, rfl⟩
theorem d_A_lowestReadyShelf_1 : decode b_A_lowestReadyShelf 1 = .ok (.istore_n 2, 1) ∧ 1 + 1 = 2 := ⟨by decide +kernel, rfl⟩
theorem d_A_lowestReadyShelf_2 : decode b_A_lowestReadyShelf 2 = .ok (.iload_n 2, 1) ∧ 2 + 1 = 3 := ⟨by decide +kernel, rfl⟩
theorem d_A_lowestReadyShelf_3 : decode b_A_lowestReadyShelf 3 = .ok (.bipush 8, 2) ∧ 3 + 2 = 5 := ⟨by decide +kernel, rfl⟩
theorem d_A_lowestReadyShelf_5 : decode b_A_lowestReadyShelf 5 = .ok (.if_icmp .ge 31, 3) ∧ 5 + 3 = 8 ∧ ((5 : Nat) : Int) + 31 = ((36 : Nat) : Int) := ⟨by decide +kernel, rfl, by decide⟩
theorem d_A_lowestReadyShelf_8 : decode b_A_lowestReadyShelf 8 = .ok (.iload_n 1, 1) ∧ 8 + 1 = 9 := ⟨by decide +kernel, rfl⟩
theorem d_A_lowestReadyShelf_9 : decode b_A_lowestReadyShelf 9 = .ok (.iload_n 2, 1) ∧ 9 + 1 = 10 := ⟨by decide +kernel, rfl⟩
theorem d_A_lowestReadyShelf_10 : decode b_A_lowestReadyShelf 10 = .ok (.invokestatic 177, 3) ∧ 10 + 3 = 13 := ⟨by decide +kernel, rfl⟩
theorem d_A_lowestReadyShelf_13 : decode b_A_lowestReadyShelf 13 = .ok (.ifCond .eq 17, 3) ∧ 13 + 3 = 16 ∧ ((13 : Nat) : Int) + 17 = ((30 : Nat) : Int) := ⟨by decide +kernel, rfl, by decide⟩
theorem d_A_lowestReadyShelf_16 : decode b_A_lowestReadyShelf 16 = .ok (.aload_n 0, 1) ∧ 16 + 1 = 17 := ⟨by decide +kernel, rfl⟩
theorem d_A_lowestReadyShelf_17 : decode b_A_lowestReadyShelf 17 = .ok (.getfield 53, 3) ∧ 17 + 3 = 20 := ⟨by decide +kernel, rfl⟩
theorem d_A_lowestReadyShelf_20 : decode b_A_lowestReadyShelf 20 = .ok (.iload_n 2, 1) ∧ 20 + 1 = 21 := ⟨by decide +kernel, rfl⟩
theorem d_A_lowestReadyShelf_21 : decode b_A_lowestReadyShelf 21 = .ok (.aaload, 1) ∧ 21 + 1 = 22 := ⟨by decide +kernel, rfl⟩
theorem d_A_lowestReadyShelf_22 : decode b_A_lowestReadyShelf 22 = .ok (.invokevirtual 233, 3) ∧ 22 + 3 = 25 := ⟨by decide +kernel, rfl⟩
theorem d_A_lowestReadyShelf_25 : decode b_A_lowestReadyShelf 25 = .ok (.ifCond .eq 5, 3) ∧ 25 + 3 = 28 ∧ ((25 : Nat) : Int) + 5 = ((30 : Nat) : Int) := ⟨by decide +kernel, rfl, by decide⟩
theorem d_A_lowestReadyShelf_28 : decode b_A_lowestReadyShelf 28 = .ok (.iload_n 2, 1) ∧ 28 + 1 = 29 := ⟨by decide +kernel, rfl⟩
theorem d_A_lowestReadyShelf_29 : decode b_A_lowestReadyShelf 29 = .ok (.ireturn, 1) := by decide +kernel
theorem d_A_lowestReadyShelf_30 : decode b_A_lowestReadyShelf 30 = .ok (.iinc 2 1, 3) ∧ 30 + 3 = 33 := ⟨by decide +kernel, rfl⟩
theorem d_A_lowestReadyShelf_33 : decode b_A_lowestReadyShelf 33 = .ok (.goto (-31), 3) ∧ ((33 : Nat) : Int) + (-31) = ((2 : Nat) : Int) := ⟨by decide +kernel, by decide⟩
theorem d_A_lowestReadyShelf_36 : decode b_A_lowestReadyShelf 36 = .ok (.iconst (-1), 1) ∧ 36 + 1 = 37 := ⟨by decide +kernel, rfl⟩
