theorem d_M_moveAway_24 : decode b_M_moveAway 24 = .ok (.goto (-22), 3) ∧ ((24 : Nat) : Int) + (-22) = ((2 : Nat) : Int) := ⟨by decide +kernel, by decide⟩
theorem d_M_moveAway_27 : decode b_M_moveAway 27 = .ok (.iconst 0, 1) ∧ 27 + 1 = 28 := ⟨by decide +kernel, rfl⟩
theorem d_M_moveAway_28 : decode b_M_moveAway 28 = .ok (.istore_n 3, 1) ∧ 28 + 1 = 29 := ⟨by decide +kernel, rfl⟩
theorem d_M_moveAway_29 : decode b_M_moveAway 29 = .ok (.iload_n 3, 1) ∧ 29 + 1 = 30 := ⟨by decide +kernel, rfl⟩
theorem d_M_moveAway_30 : decode b_M_moveAway 30 = .ok (.bipush 16, 2) ∧ 30 + 2 = 32 := ⟨by decide +kernel, rfl⟩
theorem d_M_moveAway_32 : decode b_M_moveAway 32 = .ok (.if_icmp .ge 65, 3) ∧ 32 + 3 = 35 ∧ ((32 : Nat) : Int) + 65 = ((97 : Nat) : Int) := ⟨by decide +kernel, rfl, by decide⟩
theorem d_M_moveAway_35 : decode b_M_moveAway 35 = .ok (.iconst 0, 1) ∧ 35 + 1 = 36 := ⟨by decide +kernel, rfl⟩
theorem d_M_moveAway_36 : decode b_M_moveAway 36 = .ok (.istore 4, 2) ∧ 36 + 2 = 38 := ⟨by decide +kernel, rfl⟩
theorem d_M_moveAway_38 : decode b_M_moveAway 38 = .ok (.iload 4, 2) ∧ 38 + 2 = 40 := ⟨by decide +kernel, rfl⟩
theorem d_M_moveAway_40 : decode b_M_moveAway 40 = .ok (.bipush 32, 2) ∧ 40 + 2 = 42 := ⟨by decide +kernel, rfl⟩
theorem d_M_moveAway_42 : decode b_M_moveAway 42 = .ok (.if_icmp .ge 49, 3) ∧ 42 + 3 = 45 ∧ ((42 : Nat) : Int) + 49 = ((91 : Nat) : Int) := ⟨by decide +kernel, rfl, by decide⟩
theorem d_M_moveAway_45 : decode b_M_moveAway 45 = .ok (.aload_n 0, 1) ∧ 45 + 1 = 46 := ⟨by decide +kernel, rfl⟩
theorem d_M_moveAway_46 : decode b_M_moveAway 46 = .ok (.getfield 75, 3) ∧ 46 + 3 = 49 := ⟨by decide +kernel, rfl⟩
theorem d_M_moveAway_49 : decode b_M_moveAway 49 = .ok (.bipush 32, 2) ∧ 49 + 2 = 51 := ⟨by decide +kernel, rfl⟩
theorem d_M_moveAway_51 : decode b_M_moveAway 51 = .ok (.iload_n 3, 1) ∧ 51 + 1 = 52 := ⟨by decide +kernel, rfl⟩
theorem d_M_moveAway_52 : decode b_M_moveAway 52 = .ok (.imul, 1) ∧ 52 + 1 = 53 := ⟨by decide +kernel, rfl⟩
theorem d_M_moveAway_53 : decode b_M_moveAway 53 = .ok (.iload 4, 2) ∧ 53 + 2 = 55 := ⟨by decide +kernel, rfl⟩
theorem d_M_moveAway_55 : decode b_M_moveAway 55 = .ok (.iadd, 1) ∧ 55 + 1 = 56 := ⟨by decide +kernel, rfl⟩
theorem d_M_moveAway_56 : decode b_M_moveAway 56 = .ok (.iaload, 1) ∧ 56 + 1 = 57 := ⟨by decide +kernel, rfl⟩
theorem d_M_moveAway_57 : decode b_M_moveAway 57 = .ok (.istore 5, 2) ∧ 57 + 2 = 59 := ⟨by decide +kernel, rfl⟩
theorem d_M_moveAway_59 : decode b_M_moveAway 59 = .ok (.iload 5, 2) ∧ 59 + 2 = 61 := ⟨by decide +kernel, rfl⟩
theorem d_M_moveAway_61 : decode b_M_moveAway 61 = .ok (.ifCond .eq 24, 3) ∧ 61 + 3 = 64 ∧ ((61 : Nat) : Int) + 24 = ((85 : Nat) : Int) := ⟨by decide +kernel, rfl, by decide⟩
theorem d_M_moveAway_64 : decode b_M_moveAway 64 = .ok (.aload_n 0, 1) ∧ 64 + 1 = 65 := ⟨by decide +kernel, rfl⟩
theorem d_M_moveAway_65 : decode b_M_moveAway 65 = .ok (.getfield 78, 3) ∧ 65 + 3 = 68 := ⟨by decide +kernel, rfl⟩
theorem d_M_moveAway_68 : decode b_M_moveAway 68 = .ok (.bipush 32, 2) ∧ 68 + 2 = 70 := ⟨by decide +kernel, rfl⟩
theorem d_M_moveAway_70 : decode b_M_moveAway 70 = .ok (.iload_n 3, 1) ∧ 70 + 1 = 71 := ⟨by decide +kernel, rfl⟩
theorem d_M_moveAway_71 : decode b_M_moveAway 71 = .ok (.iload_n 2, 1) ∧ 71 + 1 = 72 := ⟨by decide +kernel, rfl⟩
theorem d_M_moveAway_72 : decode b_M_moveAway 72 = .ok (.iadd, 1) ∧ 72 + 1 = 73 := ⟨by decide +kernel, rfl⟩
theorem d_M_moveAway_73 : decode b_M_moveAway 73 = .ok (.imul, 1) ∧ 73 + 1 = 74 := ⟨by decide +kernel, rfl⟩
theorem d_M_moveAway_74 : decode b_M_moveAway 74 = .ok (.iload 4, 2) ∧ 74 + 2 = 76 := ⟨by decide +kernel, rfl⟩
theorem d_M_moveAway_76 : decode b_M_moveAway 76 = .ok (.iadd, 1) ∧ 76 + 1 = 77 := ⟨by decide +kernel, rfl⟩
theorem d_M_moveAway_77 : decode b_M_moveAway 77 = .ok (.iload_n 1, 1) ∧ 77 + 1 = 78 := ⟨by decide +kernel, rfl⟩
theorem d_M_moveAway_78 : decode b_M_moveAway 78 = .ok (.iadd, 1) ∧ 78 + 1 = 79 := ⟨by decide +kernel, rfl⟩
theorem d_M_moveAway_79 : decode b_M_moveAway 79 = .ok (.dup2, 1) ∧ 79 + 1 = 80 := ⟨by decide +kernel, rfl⟩
theorem d_M_moveAway_80 : decode b_M_moveAway 80 = .ok (.iaload, 1) ∧ 80 + 1 = 81 := ⟨by decide +kernel, rfl⟩
theorem d_M_moveAway_81 : decode b_M_moveAway 81 = .ok (.iload 5, 2) ∧ 81 + 2 = 83 := ⟨by decide +kernel, rfl⟩
theorem d_M_moveAway_83 : decode b_M_moveAway 83 = .ok (.isub, 1) ∧ 83 + 1 = 84 := ⟨by decide +kernel, rfl⟩
theorem d_M_moveAway_84 : decode b_M_moveAway 84 = .ok (.iastore, 1) ∧ 84 + 1 = 85 := ⟨by decide +kernel, rfl⟩
theorem d_M_moveAway_85 : decode b_M_moveAway 85 = .ok (.iinc 4 1, 3) ∧ 85 + 3 = 88 := ⟨by decide +kernel, rfl⟩
theorem d_M_moveAway_88 : decode b_M_moveAway 88 = .ok (.goto (-50), 3) ∧ ((88 : Nat) : Int) + (-50) = ((38 : Nat) : Int) := ⟨by decide +kernel, by decide⟩
theorem d_M_moveAway_91 : decode b_M_moveAway 91 = .ok (.iinc 3 1, 3) ∧ 91 + 3 = 94 := ⟨by decide +kernel, rfl⟩
theorem d_M_moveAway_94 : decode b_M_moveAway 94 = .ok (.goto (-65), 3) ∧ ((94 : Nat) : Int) + (-65) = ((29 : Nat) : Int) := ⟨by decide +kernel, by decide⟩
theorem d_M_moveAway_97 : decode b_M_moveAway 97 = .ok (.iconst 0, 1) ∧ 97 + 1 = 98 := ⟨by decide +kernel, rfl⟩
theorem d_M_moveAway_98 : decode b_M_moveAway 98 = .ok (.istore_n 3, 1) ∧ 98 + 1 = 99 := ⟨by decide +kernel, rfl⟩
theorem d_M_moveAway_99 : decode b_M_moveAway 99 = .ok (.iload_n 3, 1) ∧ 99 + 1 = 100 := ⟨by decide +kernel, rfl⟩
theorem d_M_moveAway_100 : decode b_M_moveAway 100 = .ok (.sipush 512, 3) ∧ 100 + 3 = 103 := ⟨by decide +kernel, rfl⟩
theorem d_M_moveAway_103 : decode b_M_moveAway 103 = .ok (.if_icmp .ge 21, 3) ∧ 103 + 3 = 106 ∧ ((103 : Nat) : Int) + 21 = ((124 : Nat) : Int) := ⟨by decide +kernel, rfl, by decide⟩
theorem d_M_moveAway_106 : decode b_M_moveAway 106 = .ok (.aload_n 0, 1) ∧ 106 + 1 = 107 := ⟨by decide +kernel, rfl⟩
theorem d_M_moveAway_107 : decode b_M_moveAway 107 = .ok (.getfield 75, 3) ∧ 107 + 3 = 110 := ⟨by decide +kernel, rfl⟩
theorem d_M_moveAway_110 : decode b_M_moveAway 110 = .ok (.iload_n 3, 1) ∧ 110 + 1 = 111 := ⟨by decide +kernel, rfl⟩
theorem d_M_moveAway_111 : decode b_M_moveAway 111 = .ok (.aload_n 0, 1) ∧ 111 + 1 = 112 := ⟨by decide +kernel, rfl⟩
theorem d_M_moveAway_112 : decode b_M_moveAway 112 = .ok (.getfield 78, 3) ∧ 112 + 3 = 115 := ⟨by decide +kernel, rfl⟩
theorem d_M_moveAway_115 : decode b_M_moveAway 115 = .ok (.iload_n 3, 1) ∧ 115 + 1 = 116 := ⟨by decide +kernel, rfl⟩
theorem d_M_moveAway_116 : decode b_M_moveAway 116 = .ok (.iaload, 1) ∧ 116 + 1 = 117 := ⟨by decide +kernel, rfl⟩
theorem d_M_moveAway_117 : decode b_M_moveAway 117 = .ok (.iastore, 1) ∧ 117 + 1 = 118 := ⟨by decide +kernel, rfl⟩
theorem d_M_moveAway_118 : decode b_M_moveAway 118 = .ok (.iinc 3 1, 3) ∧ 118 + 3 = 121 := ⟨by decide +kernel, rfl⟩
theorem d_M_moveAway_121 : decode b_M_moveAway 121 = .ok (.goto (-22), 3) ∧ ((121 : Nat) : Int) + (-22) = ((99 : Nat) : Int) := ⟨by decide +kernel, by decide⟩
theorem d_M_moveAway_124 : decode b_M_moveAway 124 = .ok (.return_, 1) := by decide +kernel
theorem d_M_parts_0 : decode b_M_parts 0 = .ok (.aload_n 0, 1) ∧ 0 + 1 = 1 := ⟨by decide +kernel, rfl⟩
theorem d_M_parts_1 : decode b_M_parts 1 = .ok (.iload_n 1, 1) ∧ 1 + 1 = 2 := ⟨by decide +kernel, rfl⟩
theorem d_M_parts_2 : decode b_M_parts 2 = .ok (.aload_n 0, 1) ∧ 2 + 1 = 3 := ⟨by decide +kernel, rfl⟩
theorem d_M_parts_3 : decode b_M_parts 3 = .ok (.getfield 26, 3) ∧ 3 + 3 = 6 := ⟨by decide +kernel, rfl⟩
theorem d_M_parts_6 : decode b_M_parts 6 = .ok (.invokevirtual 124, 3) ∧ 6 + 3 = 9 := ⟨by decide +kernel, rfl⟩
theorem d_M_parts_9 : decode b_M_parts 9 = .ok (.aload_n 0, 1) ∧ 9 + 1 = 10 := ⟨by decide +kernel, rfl⟩
theorem d_M_parts_10 : decode b_M_parts 10 = .ok (.iload_n 1, 1) ∧ 10 + 1 = 11 := ⟨by decide +kernel, rfl⟩
theorem d_M_parts_11 : decode b_M_parts 11 = .ok (.invokevirtual 117, 3) ∧ 11 + 3 = 14 := ⟨by decide +kernel, rfl⟩
theorem d_M_parts_14 : decode b_M_parts 14 = .ok (.istore_n 2, 1) ∧ 14 + 1 = 15 := ⟨by decide +kernel, rfl⟩
theorem d_M_parts_15 : decode b_M_parts 15 = .ok (.iconst 0, 1) ∧ 15 + 1 = 16 := ⟨by decide +kernel, rfl⟩
theorem d_M_parts_16 : decode b_M_parts 16 = .ok (.istore_n 3, 1) ∧ 16 + 1 = 17 := ⟨by decide +kernel, rfl⟩
theorem d_M_parts_17 : decode b_M_parts 17 = .ok (.iload_n 3, 1) ∧ 17 + 1 = 18 := ⟨by decide +kernel, rfl⟩
theorem d_M_parts_18 : decode b_M_parts 18 = .ok (.iload_n 2, 1) ∧ 18 + 1 = 19 := ⟨by decide +kernel, rfl⟩
theorem d_M_parts_19 : decode b_M_parts 19 = .ok (.if_icmp .ge 32, 3) ∧ 19 + 3 = 22 ∧ ((19 : Nat) : Int) + 32 = ((51 : Nat) : Int) := ⟨by decide +kernel, rfl, by decide⟩
theorem d_M_parts_22 : decode b_M_parts 22 = .ok (.aload_n 0, 1) ∧ 22 + 1 = 23 := ⟨by decide +kernel, rfl⟩
theorem d_M_parts_23 : decode b_M_parts 23 = .ok (.getfield 69, 3) ∧ 23 + 3 = 26 := ⟨by decide +kernel, rfl⟩
theorem d_M_parts_26 : decode b_M_parts 26 = .ok (.iload_n 3, 1) ∧ 26 + 1 = 27 := ⟨by decide +kernel, rfl⟩
theorem d_M_parts_27 : decode b_M_parts 27 = .ok (.iaload, 1) ∧ 27 + 1 = 28 := ⟨by decide +kernel, rfl⟩
theorem d_M_parts_28 : decode b_M_parts 28 = .ok (.aload_n 0, 1) ∧ 28 + 1 = 29 := ⟨by decide +kernel, rfl⟩
theorem d_M_parts_29 : decode b_M_parts 29 = .ok (.getfield 45, 3) ∧ 29 + 3 = 32 := ⟨by decide +kernel, rfl⟩
theorem d_M_parts_32 : decode b_M_parts 32 = .ok (.sipush 481, 3) ∧ 32 + 3 = 35 := ⟨by decide +kernel, rfl⟩
theorem d_M_parts_35 : decode b_M_parts 35 = .ok (.iload_n 1, 1) ∧ 35 + 1 = 36 := ⟨by decide +kernel, rfl⟩
theorem d_M_parts_36 : decode b_M_parts 36 = .ok (.imul, 1) ∧ 36 + 1 = 37 := ⟨by decide +kernel, rfl⟩
theorem d_M_parts_37 : decode b_M_parts 37 = .ok (.iload_n 3, 1) ∧ 37 + 1 = 38 := ⟨by decide +kernel, rfl⟩
theorem d_M_parts_38 : decode b_M_parts 38 = .ok (.iadd, 1) ∧ 38 + 1 = 39 := ⟨by decide +kernel, rfl⟩
theorem d_M_parts_39 : decode b_M_parts 39 = .ok (.iaload, 1) ∧ 39 + 1 = 40 := ⟨by decide +kernel, rfl⟩
theorem d_M_parts_40 : decode b_M_parts 40 = .ok (.if_icmp .eq 5, 3) ∧ 40 + 3 = 43 ∧ ((40 : Nat) : Int) + 5 = ((45 : Nat) : Int) := ⟨by decide +kernel, rfl, by decide⟩
theorem d_M_parts_43 : decode b_M_parts 43 = .ok (.iload_n 3, 1) ∧ 43 + 1 = 44 := ⟨by decide +kernel, rfl⟩
theorem d_M_parts_44 : decode b_M_parts 44 = .ok (.ireturn, 1) := by decide +kernel
theorem d_M_parts_45 : decode b_M_parts 45 = .ok (.iinc 3 1, 3) ∧ 45 + 3 = 48 := ⟨by decide +kernel, rfl⟩
theorem d_M_parts_48 : decode b_M_parts 48 = .ok (.goto (-31), 3) ∧ ((48 : Nat) : Int) + (-31) = ((17 : Nat) : Int) := ⟨by decide +kernel, by decide⟩
theorem d_M_parts_51 : decode b_M_parts 51 = .ok (.iconst (-1), 1) ∧ 51 + 1 = 52 := ⟨by decide +kernel, rfl⟩
theorem d_M_parts_52 : decode b_M_parts 52 = .ok (.ireturn, 1) := by decide +kernel
theorem d_M_pixel_0 : decode b_M_pixel 0 = .ok (.aload_n 0, 1) ∧ 0 + 1 = 1 := ⟨by decide +kernel, rfl⟩
theorem d_M_pixel_1 : decode b_M_pixel 1 = .ok (.aload_n 0, 1) ∧ 1 + 1 = 2 := ⟨by decide +kernel, rfl⟩
theorem d_M_pixel_2 : decode b_M_pixel 2 = .ok (.iload_n 1, 1) ∧ 2 + 1 = 3 := ⟨by decide +kernel, rfl⟩
theorem d_M_pixel_3 : decode b_M_pixel 3 = .ok (.iload_n 2, 1) ∧ 3 + 1 = 4 := ⟨by decide +kernel, rfl⟩
theorem d_M_pixel_4 : decode b_M_pixel 4 = .ok (.invokevirtual 99, 3) ∧ 4 + 3 = 7 := ⟨by decide +kernel, rfl⟩
theorem d_M_pixel_7 : decode b_M_pixel 7 = .ok (.ifCond .ne 7, 3) ∧ 7 + 3 = 10 ∧ ((7 : Nat) : Int) + 7 = ((14 : Nat) : Int) := ⟨by decide +kernel, rfl, by decide⟩
theorem d_M_pixel_10 : decode b_M_pixel 10 = .ok (.iconst 1, 1) ∧ 10 + 1 = 11 := ⟨by decide +kernel, rfl⟩
theorem d_M_pixel_11 : decode b_M_pixel 11 = .ok (.goto 4, 3) ∧ ((11 : Nat) : Int) + 4 = ((15 : Nat) : Int) := ⟨by decide +kernel, by decide⟩
theorem d_M_pixel_14 : decode b_M_pixel 14 = .ok (.iconst 0, 1) ∧ 14 + 1 = 15 := ⟨by decide +kernel, rfl⟩
theorem d_M_pixel_15 : decode b_M_pixel 15 = .ok (.iconst 0, 1) ∧ 15 + 1 = 16 := ⟨by decide +kernel, rfl⟩
theorem d_M_pixel_16 : decode b_M_pixel 16 = .ok (.invokevirtual 88, 3) ∧ 16 + 3 = 19 := ⟨by decide +kernel, rfl⟩
theorem d_M_pixel_19 : decode b_M_pixel 19 = .ok (.ifCond .eq 5, 3) ∧ 19 + 3 = 22 ∧ ((19 : Nat) : Int) + 5 = ((24 : Nat) : Int) := ⟨by decide +kernel, rfl, by decide⟩
theorem d_M_pixel_22 : decode b_M_pixel 22 = .ok (.iconst 0, 1) ∧ 22 + 1 = 23 := ⟨by decide +kernel, rfl⟩
theorem d_M_pixel_23 : decode b_M_pixel 23 = .ok (.ireturn, 1) := by decide +kernel
theorem d_M_pixel_24 : decode b_M_pixel 24 = .ok (.aload_n 0, 1) ∧ 24 + 1 = 25 := ⟨by decide +kernel, rfl⟩
theorem d_M_pixel_25 : decode b_M_pixel 25 = .ok (.getfield 16, 3) ∧ 25 + 3 = 28 := ⟨by decide +kernel, rfl⟩
theorem d_M_pixel_28 : decode b_M_pixel 28 = .ok (.bipush 16, 2) ∧ 28 + 2 = 30 := ⟨by decide +kernel, rfl⟩
theorem d_M_pixel_30 : decode b_M_pixel 30 = .ok (.iload_n 2, 1) ∧ 30 + 1 = 31 := ⟨by decide +kernel, rfl⟩
theorem d_M_pixel_31 : decode b_M_pixel 31 = .ok (.imul, 1) ∧ 31 + 1 = 32 := ⟨by decide +kernel, rfl⟩
theorem d_M_pixel_32 : decode b_M_pixel 32 = .ok (.iload_n 1, 1) ∧ 32 + 1 = 33 := ⟨by decide +kernel, rfl⟩
theorem d_M_pixel_33 : decode b_M_pixel 33 = .ok (.iadd, 1) ∧ 33 + 1 = 34 := ⟨by decide +kernel, rfl⟩
theorem d_M_pixel_34 : decode b_M_pixel 34 = .ok (.iaload, 1) ∧ 34 + 1 = 35 := ⟨by decide +kernel, rfl⟩
theorem d_M_pixel_35 : decode b_M_pixel 35 = .ok (.istore 4, 2) ∧ 35 + 2 = 37 := ⟨by decide +kernel, rfl⟩
theorem d_M_pixel_37 : decode b_M_pixel 37 = .ok (.aload_n 0, 1) ∧ 37 + 1 = 38 := ⟨by decide +kernel, rfl⟩
theorem d_M_pixel_38 : decode b_M_pixel 38 = .ok (.getfield 16, 3) ∧ 38 + 3 = 41 := ⟨by decide +kernel, rfl⟩
theorem d_M_pixel_41 : decode b_M_pixel 41 = .ok (.bipush 16, 2) ∧ 41 + 2 = 43 := ⟨by decide +kernel, rfl⟩
theorem d_M_pixel_43 : decode b_M_pixel 43 = .ok (.iload_n 2, 1) ∧ 43 + 1 = 44 := ⟨by decide +kernel, rfl⟩
theorem d_M_pixel_44 : decode b_M_pixel 44 = .ok (.imul, 1) ∧ 44 + 1 = 45 := ⟨by decide +kernel, rfl⟩
theorem d_M_pixel_45 : decode b_M_pixel 45 = .ok (.iload_n 1, 1) ∧ 45 + 1 = 46 := ⟨by decide +kernel, rfl⟩
theorem d_M_pixel_46 : decode b_M_pixel 46 = .ok (.iadd, 1) ∧ 46 + 1 = 47 := ⟨by decide +kernel, rfl⟩
theorem d_M_pixel_47 : decode b_M_pixel 47 = .ok (.iload_n 3, 1) ∧ 47 + 1 = 48 := ⟨by decide +kernel, rfl⟩
theorem d_M_pixel_48 : decode b_M_pixel 48 = .ok (.iastore, 1) ∧ 48 + 1 = 49 := ⟨by decide +kernel, rfl⟩
theorem d_M_pixel_49 : decode b_M_pixel 49 = .ok (.iload 4, 2) ∧ 49 + 2 = 51 := ⟨by decide +kernel, rfl⟩
theorem d_M_pixel_51 : decode b_M_pixel 51 = .ok (.ireturn, 1) := by decide +kernel
theorem d_M_project_0 : decode b_M_project 0 = .ok (.aload_n 0, 1) ∧ 0 + 1 = 1 := ⟨by decide +kernel, rfl⟩
theorem d_M_project_1 : decode b_M_project 1 = .ok (.iload_n 1, 1) ∧ 1 + 1 = 2 := ⟨by decide +kernel, rfl⟩
theorem d_M_project_2 : decode b_M_project 2 = .ok (.invokestatic 84, 3) ∧ 2 + 3 = 5 := ⟨by decide +kernel, rfl⟩
theorem d_M_project_5 : decode b_M_project 5 = .ok (.ifCond .ne 7, 3) ∧ 5 + 3 = 8 ∧ ((5 : Nat) : Int) + 7 = ((12 : Nat) : Int) := ⟨by decide +kernel, rfl, by decide⟩
theorem d_M_project_8 : decode b_M_project 8 = .ok (.iconst 1, 1) ∧ 8 + 1 = 9 := ⟨by decide +kernel, rfl⟩
theorem d_M_project_9 : decode b_M_project 9 = .ok (.goto 4, 3) ∧ ((9 : Nat) : Int) + 4 = ((13 : Nat) : Int) := ⟨by decide +kernel, by decide⟩
theorem d_M_project_12 : decode b_M_project 12 = .ok (.iconst 0, 1) ∧ 12 + 1 = 13 := ⟨by decide +kernel, rfl⟩
theorem d_M_project_13 : decode b_M_project 13 = .ok (.aload_n 0, 1) ∧ 13 + 1 = 14 := ⟨by decide +kernel, rfl⟩
theorem d_M_project_14 : decode b_M_project 14 = .ok (.iload_n 1, 1) ∧ 14 + 1 = 15 := ⟨by decide +kernel, rfl⟩
theorem d_M_project_15 : decode b_M_project 15 = .ok (.invokevirtual 114, 3) ∧ 15 + 3 = 18 := ⟨by decide +kernel, rfl⟩
theorem d_M_project_18 : decode b_M_project 18 = .ok (.ifCond .ne 7, 3) ∧ 18 + 3 = 21 ∧ ((18 : Nat) : Int) + 7 = ((25 : Nat) : Int) := ⟨by decide +kernel, rfl, by decide⟩
theorem d_M_project_21 : decode b_M_project 21 = .ok (.iconst 1, 1) ∧ 21 + 1 = 22 := ⟨by decide +kernel, rfl⟩
theorem d_M_project_22 : decode b_M_project 22 = .ok (.goto 4, 3) ∧ ((22 : Nat) : Int) + 4 = ((26 : Nat) : Int) := ⟨by decide +kernel, by decide⟩
theorem d_M_project_25 : decode b_M_project 25 = .ok (.iconst 0, 1) ∧ 25 + 1 = 26 := ⟨by decide +kernel, rfl⟩
theorem d_M_project_26 : decode b_M_project 26 = .ok (.invokevirtual 88, 3) ∧ 26 + 3 = 29 := ⟨by decide +kernel, rfl⟩
theorem d_M_project_29 : decode b_M_project 29 = .ok (.ifCond .eq 4, 3) ∧ 29 + 3 = 32 ∧ ((29 : Nat) : Int) + 4 = ((33 : Nat) : Int) := ⟨by decide +kernel, rfl, by decide⟩
theorem d_M_project_32 : decode b_M_project 32 = .ok (.return_, 1) := by decide +kernel
theorem d_M_project_33 : decode b_M_project 33 = .ok (.aload_n 0, 1) ∧ 33 + 1 = 34 := ⟨by decide +kernel, rfl⟩
theorem d_M_project_34 : decode b_M_project 34 = .ok (.iload_n 1, 1) ∧ 34 + 1 = 35 := ⟨by decide +kernel, rfl⟩
theorem d_M_project_35 : decode b_M_project 35 = .ok (.aload_n 0, 1) ∧ 35 + 1 = 36 := ⟨by decide +kernel, rfl⟩
theorem d_M_project_36 : decode b_M_project 36 = .ok (.getfield 16, 3) ∧ 36 + 3 = 39 := ⟨by decide +kernel, rfl⟩
theorem d_M_project_39 : decode b_M_project 39 = .ok (.invokevirtual 128, 3) ∧ 39 + 3 = 42 := ⟨by decide +kernel, rfl⟩
theorem d_M_project_42 : decode b_M_project 42 = .ok (.return_, 1) := by decide +kernel
theorem d_M_put_0 : decode b_M_put 0 = .ok (.aload_n 0, 1) ∧ 0 + 1 = 1 := ⟨by decide +kernel, rfl⟩
theorem d_M_put_1 : decode b_M_put 1 = .ok (.iload_n 1, 1) ∧ 1 + 1 = 2 := ⟨by decide +kernel, rfl⟩
theorem d_M_put_2 : decode b_M_put 2 = .ok (.iload_n 2, 1) ∧ 2 + 1 = 3 := ⟨by decide +kernel, rfl⟩
theorem d_M_put_3 : decode b_M_put 3 = .ok (.invokevirtual 131, 3) ∧ 3 + 3 = 6 := ⟨by decide +kernel, rfl⟩
theorem d_M_put_6 : decode b_M_put 6 = .ok (.ifCond .eq 5, 3) ∧ 6 + 3 = 9 ∧ ((6 : Nat) : Int) + 5 = ((11 : Nat) : Int) := ⟨by decide +kernel, rfl, by decide⟩
theorem d_M_put_9 : decode b_M_put 9 = .ok (.iconst 0, 1) ∧ 9 + 1 = 10 := ⟨by decide +kernel, rfl⟩
theorem d_M_put_10 : decode b_M_put 10 = .ok (.ireturn, 1) := by decide +kernel
theorem d_M_put_11 : decode b_M_put 11 = .ok (.aload_n 0, 1) ∧ 11 + 1 = 12 := ⟨by decide +kernel, rfl⟩
theorem d_M_put_12 : decode b_M_put 12 = .ok (.getfield 45, 3) ∧ 12 + 3 = 15 := ⟨by decide +kernel, rfl⟩
theorem d_M_put_15 : decode b_M_put 15 = .ok (.sipush 481, 3) ∧ 15 + 3 = 18 := ⟨by decide +kernel, rfl⟩
theorem d_M_put_18 : decode b_M_put 18 = .ok (.iload_n 1, 1) ∧ 18 + 1 = 19 := ⟨by decide +kernel, rfl⟩
theorem d_M_put_19 : decode b_M_put 19 = .ok (.imul, 1) ∧ 19 + 1 = 20 := ⟨by decide +kernel, rfl⟩
theorem d_M_put_20 : decode b_M_put 20 = .ok (.iload_n 2, 1) ∧ 20 + 1 = 21 := ⟨by decide +kernel, rfl⟩
theorem d_M_put_21 : decode b_M_put 21 = .ok (.iadd, 1) ∧ 21 + 1 = 22 := ⟨by decide +kernel, rfl⟩
theorem d_M_put_22 : decode b_M_put 22 = .ok (.iaload, 1) ∧ 22 + 1 = 23 := ⟨by decide +kernel, rfl⟩
theorem d_M_put_23 : decode b_M_put 23 = .ok (.istore 4, 2) ∧ 23 + 2 = 25 := ⟨by decide +kernel, rfl⟩
theorem d_M_put_25 : decode b_M_put 25 = .ok (.aload_n 0, 1) ∧ 25 + 1 = 26 := ⟨by decide +kernel, rfl⟩
theorem d_M_put_26 : decode b_M_put 26 = .ok (.getfield 45, 3) ∧ 26 + 3 = 29 := ⟨by decide +kernel, rfl⟩
theorem d_M_put_29 : decode b_M_put 29 = .ok (.sipush 481, 3) ∧ 29 + 3 = 32 := ⟨by decide +kernel, rfl⟩
theorem d_M_put_32 : decode b_M_put 32 = .ok (.iload_n 1, 1) ∧ 32 + 1 = 33 := ⟨by decide +kernel, rfl⟩
theorem d_M_put_33 : decode b_M_put 33 = .ok (.imul, 1) ∧ 33 + 1 = 34 := ⟨by decide +kernel, rfl⟩
theorem d_M_put_34 : decode b_M_put 34 = .ok (.iload_n 2, 1) ∧ 34 + 1 = 35 := ⟨by decide +kernel, rfl⟩
theorem d_M_put_35 : decode b_M_put 35 = .ok (.iadd, 1) ∧ 35 + 1 = 36 := ⟨by decide +kernel, rfl⟩
theorem d_M_put_36 : decode b_M_put 36 = .ok (.iload_n 3, 1) ∧ 36 + 1 = 37 := ⟨by decide +kernel, rfl⟩
theorem d_M_put_37 : decode b_M_put 37 = .ok (.iastore, 1) ∧ 37 + 1 = 38 := ⟨by decide +kernel, rfl⟩
theorem d_M_put_38 : decode b_M_put 38 = .ok (.iload 4, 2) ∧ 38 + 2 = 40 := ⟨by decide +kernel, rfl⟩
theorem d_M_put_40 : decode b_M_put 40 = .ok (.ireturn, 1) := by decide +kernel
theorem d_M_rebuild_0 : decode b_M_rebuild 0 = .ok (.iconst 0, 1) ∧ 0 + 1 = 1 := ⟨by decide +kernel, rfl⟩
theorem d_M_rebuild_1 : decode b_M_rebuild 1 = .ok (.istore_n 2, 1) ∧ 1 + 1 = 2 := ⟨by decide +kernel, rfl⟩
theorem d_M_rebuild_2 : decode b_M_rebuild 2 = .ok (.iconst 0, 1) ∧ 2 + 1 = 3 := ⟨by decide +kernel, rfl⟩
theorem d_M_rebuild_3 : decode b_M_rebuild 3 = .ok (.istore_n 3, 1) ∧ 3 + 1 = 4 := ⟨by decide +kernel, rfl⟩
theorem d_M_rebuild_4 : decode b_M_rebuild 4 = .ok (.iload_n 3, 1) ∧ 4 + 1 = 5 := ⟨by decide +kernel, rfl⟩
theorem d_M_rebuild_5 : decode b_M_rebuild 5 = .ok (.bipush 8, 2) ∧ 5 + 2 = 7 := ⟨by decide +kernel, rfl⟩
theorem d_M_rebuild_7 : decode b_M_rebuild 7 = .ok (.if_icmp .ge 44, 3) ∧ 7 + 3 = 10 ∧ ((7 : Nat) : Int) + 44 = ((51 : Nat) : Int) := ⟨by decide +kernel, rfl, by decide⟩
theorem d_M_rebuild_10 : decode b_M_rebuild 10 = .ok (.iload_n 1, 1) ∧ 10 + 1 = 11 := ⟨by decide +kernel, rfl⟩
theorem d_M_rebuild_11 : decode b_M_rebuild 11 = .ok (.invokestatic 137, 3) ∧ 11 + 3 = 14 := ⟨by decide +kernel, rfl⟩
theorem d_M_rebuild_14 : decode b_M_rebuild 14 = .ok (.ifCond .eq 37, 3) ∧ 14 + 3 = 17 ∧ ((14 : Nat) : Int) + 37 = ((51 : Nat) : Int) := ⟨by decide +kernel, rfl, by decide⟩
theorem d_M_rebuild_17 : decode b_M_rebuild 17 = .ok (.iload_n 2, 1) ∧ 17 + 1 = 18 := ⟨by decide +kernel, rfl⟩
theorem d_M_rebuild_18 : decode b_M_rebuild 18 = .ok (.ifCond .ne 21, 3) ∧ 18 + 3 = 21 ∧ ((18 : Nat) : Int) + 21 = ((39 : Nat) : Int) := ⟨by decide +kernel, rfl, by decide⟩
theorem d_M_rebuild_21 : decode b_M_rebuild 21 = .ok (.aload_n 0, 1) ∧ 21 + 1 = 22 := ⟨by decide +kernel, rfl⟩
theorem d_M_rebuild_22 : decode b_M_rebuild 22 = .ok (.iload_n 1, 1) ∧ 22 + 1 = 23 := ⟨by decide +kernel, rfl⟩
theorem d_M_rebuild_23 : decode b_M_rebuild 23 = .ok (.iload_n 3, 1) ∧ 23 + 1 = 24 := ⟨by decide +kernel, rfl⟩
theorem d_M_rebuild_24 : decode b_M_rebuild 24 = .ok (.invokevirtual 134, 3) ∧ 24 + 3 = 27 := ⟨by decide +kernel, rfl⟩
theorem d_M_rebuild_27 : decode b_M_rebuild 27 = .ok (.ifCond .eq 16, 3) ∧ 27 + 3 = 30 ∧ ((27 : Nat) : Int) + 16 = ((43 : Nat) : Int) := ⟨by decide +kernel, rfl, by decide⟩
theorem d_M_rebuild_30 : decode b_M_rebuild 30 = .ok (.aload_n 0, 1) ∧ 30 + 1 = 31 := ⟨by decide +kernel, rfl⟩
theorem d_M_rebuild_31 : decode b_M_rebuild 31 = .ok (.getfield 42, 3) ∧ 31 + 3 = 34 := ⟨by decide +kernel, rfl⟩
theorem d_M_rebuild_34 : decode b_M_rebuild 34 = .ok (.iload_n 3, 1) ∧ 34 + 1 = 35 := ⟨by decide +kernel, rfl⟩
theorem d_M_rebuild_35 : decode b_M_rebuild 35 = .ok (.baload, 1) ∧ 35 + 1 = 36 := ⟨by decide +kernel, rfl⟩
theorem d_M_rebuild_36 : decode b_M_rebuild 36 = .ok (.ifCond .ne 7, 3) ∧ 36 + 3 = 39 ∧ ((36 : Nat) : Int) + 7 = ((43 : Nat) : Int) := ⟨by decide +kernel, rfl, by decide⟩
theorem d_M_rebuild_39 : decode b_M_rebuild 39 = .ok (.iconst 1, 1) ∧ 39 + 1 = 40 := ⟨by decide +kernel, rfl⟩
theorem d_M_rebuild_40 : decode b_M_rebuild 40 = .ok (.goto 4, 3) ∧ ((40 : Nat) : Int) + 4 = ((44 : Nat) : Int) := ⟨by decide +kernel, by decide⟩
theorem d_M_rebuild_43 : decode b_M_rebuild 43 = .ok (.iconst 0, 1) ∧ 43 + 1 = 44 := ⟨by decide +kernel, rfl⟩
theorem d_M_rebuild_44 : decode b_M_rebuild 44 = .ok (.istore_n 2, 1) ∧ 44 + 1 = 45 := ⟨by decide +kernel, rfl⟩
theorem d_M_rebuild_45 : decode b_M_rebuild 45 = .ok (.iinc 3 1, 3) ∧ 45 + 3 = 48 := ⟨by decide +kernel, rfl⟩
theorem d_M_rebuild_48 : decode b_M_rebuild 48 = .ok (.goto (-44), 3) ∧ ((48 : Nat) : Int) + (-44) = ((4 : Nat) : Int) := ⟨by decide +kernel, by decide⟩
theorem d_M_rebuild_51 : decode b_M_rebuild 51 = .ok (.aload_n 0, 1) ∧ 51 + 1 = 52 := ⟨by decide +kernel, rfl⟩
theorem d_M_rebuild_52 : decode b_M_rebuild 52 = .ok (.iload_n 1, 1) ∧ 52 + 1 = 53 := ⟨by decide +kernel, rfl⟩
theorem d_M_rebuild_53 : decode b_M_rebuild 53 = .ok (.invokestatic 137, 3) ∧ 53 + 3 = 56 := ⟨by decide +kernel, rfl⟩
theorem d_M_rebuild_56 : decode b_M_rebuild 56 = .ok (.ifCond .ne 7, 3) ∧ 56 + 3 = 59 ∧ ((56 : Nat) : Int) + 7 = ((63 : Nat) : Int) := ⟨by decide +kernel, rfl, by decide⟩
theorem d_M_rebuild_59 : decode b_M_rebuild 59 = .ok (.iconst 1, 1) ∧ 59 + 1 = 60 := ⟨by decide +kernel, rfl⟩
theorem d_M_rebuild_60 : decode b_M_rebuild 60 = .ok (.goto 4, 3) ∧ ((60 : Nat) : Int) + 4 = ((64 : Nat) : Int) := ⟨by decide +kernel, by decide⟩
theorem d_M_rebuild_63 : decode b_M_rebuild 63 = .ok (.iconst 0, 1) ∧ 63 + 1 = 64 := ⟨by decide +kernel, rfl⟩
theorem d_M_rebuild_64 : decode b_M_rebuild 64 = .ok (.iload_n 2, 1) ∧ 64 + 1 = 65 := ⟨by decide +kernel, rfl⟩
theorem d_M_rebuild_65 : decode b_M_rebuild 65 = .ok (.invokevirtual 88, 3) ∧ 65 + 3 = 68 := ⟨by decide +kernel, rfl⟩
theorem d_M_rebuild_68 : decode b_M_rebuild 68 = .ok (.ifCond .eq 5, 3) ∧ 68 + 3 = 71 ∧ ((68 : Nat) : Int) + 5 = ((73 : Nat) : Int) := ⟨by decide +kernel, rfl, by decide⟩
theorem d_M_rebuild_71 : decode b_M_rebuild 71 = .ok (.iconst 0, 1) ∧ 71 + 1 = 72 := ⟨by decide +kernel, rfl⟩
theorem d_M_rebuild_72 : decode b_M_rebuild 72 = .ok (.ireturn, 1) := by decide +kernel
theorem d_M_rebuild_73 : decode b_M_rebuild 73 = .ok (.aload_n 0, 1) ∧ 73 + 1 = 74 := ⟨by decide +kernel, rfl⟩
theorem d_M_rebuild_74 : decode b_M_rebuild 74 = .ok (.iload_n 1, 1) ∧ 74 + 1 = 75 := ⟨by decide +kernel, rfl⟩
theorem d_M_rebuild_75 : decode b_M_rebuild 75 = .ok (.invokevirtual 164, 3) ∧ 75 + 3 = 78 := ⟨by decide +kernel, rfl⟩
theorem d_M_rebuild_78 : decode b_M_rebuild 78 = .ok (.istore_n 3, 1) ∧ 78 + 1 = 79 := ⟨by decide +kernel, rfl⟩
theorem d_M_rebuild_79 : decode b_M_rebuild 79 = .ok (.aload_n 0, 1) ∧ 79 + 1 = 80 := ⟨by decide +kernel, rfl⟩
theorem d_M_rebuild_80 : decode b_M_rebuild 80 = .ok (.aload_n 0, 1) ∧ 80 + 1 = 81 := ⟨by decide +kernel, rfl⟩
theorem d_M_rebuild_81 : decode b_M_rebuild 81 = .ok (.getfield 143, 3) ∧ 81 + 3 = 84 := ⟨by decide +kernel, rfl⟩
theorem d_M_rebuild_84 : decode b_M_rebuild 84 = .ok (.putfield 167, 3) ∧ 84 + 3 = 87 := ⟨by decide +kernel, rfl⟩
theorem d_M_rebuild_87 : decode b_M_rebuild 87 = .ok (.aload_n 0, 1) ∧ 87 + 1 = 88 := ⟨by decide +kernel, rfl⟩
theorem d_M_rebuild_88 : decode b_M_rebuild 88 = .ok (.iconst (-1), 1) ∧ 88 + 1 = 89 := ⟨by decide +kernel, rfl⟩
theorem d_M_rebuild_89 : decode b_M_rebuild 89 = .ok (.putfield 72, 3) ∧ 89 + 3 = 92 := ⟨by decide +kernel, rfl⟩
theorem d_M_rebuild_92 : decode b_M_rebuild 92 = .ok (.iload_n 3, 1) ∧ 92 + 1 = 93 := ⟨by decide +kernel, rfl⟩
theorem d_M_rebuild_93 : decode b_M_rebuild 93 = .ok (.ifCond .ne 5, 3) ∧ 93 + 3 = 96 ∧ ((93 : Nat) : Int) + 5 = ((98 : Nat) : Int) := ⟨by decide +kernel, rfl, by decide⟩
theorem d_M_rebuild_96 : decode b_M_rebuild 96 = .ok (.iconst (-1), 1) ∧ 96 + 1 = 97 := ⟨by decide +kernel, rfl⟩
theorem d_M_rebuild_97 : decode b_M_rebuild 97 = .ok (.ireturn, 1) := by decide +kernel
theorem d_M_rebuild_98 : decode b_M_rebuild 98 = .ok (.iconst 0, 1) ∧ 98 + 1 = 99 := ⟨by decide +kernel, rfl⟩
theorem d_M_rebuild_99 : decode b_M_rebuild 99 = .ok (.istore 4, 2) ∧ 99 + 2 = 101 := ⟨by decide +kernel, rfl⟩
theorem d_M_rebuild_101 : decode b_M_rebuild 101 = .ok (.iload 4, 2) ∧ 101 + 2 = 103 := ⟨by decide +kernel, rfl⟩
theorem d_M_rebuild_103 : decode b_M_rebuild 103 = .ok (.sipush 256, 3) ∧ 103 + 3 = 106 := ⟨by decide +kernel, rfl⟩
theorem d_M_rebuild_106 : decode b_M_rebuild 106 = .ok (.if_icmp .ge 23, 3) ∧ 106 + 3 = 109 ∧ ((106 : Nat) : Int) + 23 = ((129 : Nat) : Int) := ⟨by decide +kernel, rfl, by decide⟩
theorem d_M_rebuild_109 : decode b_M_rebuild 109 = .ok (.aload_n 0, 1) ∧ 109 + 1 = 110 := ⟨by decide +kernel, rfl⟩
theorem d_M_rebuild_110 : decode b_M_rebuild 110 = .ok (.getfield 23, 3) ∧ 110 + 3 = 113 := ⟨by decide +kernel, rfl⟩
theorem d_M_rebuild_113 : decode b_M_rebuild 113 = .ok (.iload 4, 2) ∧ 113 + 2 = 115 := ⟨by decide +kernel, rfl⟩
theorem d_M_rebuild_115 : decode b_M_rebuild 115 = .ok (.aload_n 0, 1) ∧ 115 + 1 = 116 := ⟨by decide +kernel, rfl⟩
theorem d_M_rebuild_116 : decode b_M_rebuild 116 = .ok (.getfield 26, 3) ∧ 116 + 3 = 119 := ⟨by decide +kernel, rfl⟩
theorem d_M_rebuild_119 : decode b_M_rebuild 119 = .ok (.iload 4, 2) ∧ 119 + 2 = 121 := ⟨by decide +kernel, rfl⟩
theorem d_M_rebuild_121 : decode b_M_rebuild 121 = .ok (.iaload, 1) ∧ 121 + 1 = 122 := ⟨by decide +kernel, rfl⟩
theorem d_M_rebuild_122 : decode b_M_rebuild 122 = .ok (.iastore, 1) ∧ 122 + 1 = 123 := ⟨by decide +kernel, rfl⟩
theorem d_M_rebuild_123 : decode b_M_rebuild 123 = .ok (.iinc 4 1, 3) ∧ 123 + 3 = 126 := ⟨by decide +kernel, rfl⟩
theorem d_M_rebuild_126 : decode b_M_rebuild 126 = .ok (.goto (-25), 3) ∧ ((126 : Nat) : Int) + (-25) = ((101 : Nat) : Int) := ⟨by decide +kernel, by decide⟩
theorem d_M_rebuild_129 : decode b_M_rebuild 129 = .ok (.aload_n 0, 1) ∧ 129 + 1 = 130 := ⟨by decide +kernel, rfl⟩
theorem d_M_rebuild_130 : decode b_M_rebuild 130 = .ok (.iconst 1, 1) ∧ 130 + 1 = 131 := ⟨by decide +kernel, rfl⟩
theorem d_M_rebuild_131 : decode b_M_rebuild 131 = .ok (.putfield 96, 3) ∧ 131 + 3 = 134 := ⟨by decide +kernel, rfl⟩
theorem d_M_rebuild_134 : decode b_M_rebuild 134 = .ok (.aload_n 0, 1) ∧ 134 + 1 = 135 := ⟨by decide +kernel, rfl⟩
theorem d_M_rebuild_135 : decode b_M_rebuild 135 = .ok (.iload_n 1, 1) ∧ 135 + 1 = 136 := ⟨by decide +kernel, rfl⟩
theorem d_M_rebuild_136 : decode b_M_rebuild 136 = .ok (.invokevirtual 170, 3) ∧ 136 + 3 = 139 := ⟨by decide +kernel, rfl⟩
theorem d_M_rebuild_139 : decode b_M_rebuild 139 = .ok (.istore 4, 2) ∧ 139 + 2 = 141 := ⟨by decide +kernel, rfl⟩
theorem d_M_rebuild_141 : decode b_M_rebuild 141 = .ok (.iload 4, 2) ∧ 141 + 2 = 143 := ⟨by decide +kernel, rfl⟩
theorem d_M_rebuild_143 : decode b_M_rebuild 143 = .ok (.bipush 99, 2) ∧ 143 + 2 = 145 := ⟨by decide +kernel, rfl⟩
theorem d_M_rebuild_145 : decode b_M_rebuild 145 = .ok (.if_icmp .ge 13, 3) ∧ 145 + 3 = 148 ∧ ((145 : Nat) : Int) + 13 = ((158 : Nat) : Int) := ⟨by decide +kernel, rfl, by decide⟩
theorem d_M_rebuild_148 : decode b_M_rebuild 148 = .ok (.aload_n 0, 1) ∧ 148 + 1 = 149 := ⟨by decide +kernel, rfl⟩
theorem d_M_rebuild_149 : decode b_M_rebuild 149 = .ok (.aload_n 0, 1) ∧ 149 + 1 = 150 := ⟨by decide +kernel, rfl⟩
theorem d_M_rebuild_150 : decode b_M_rebuild 150 = .ok (.iload 4, 2) ∧ 150 + 2 = 152 := ⟨by decide +kernel, rfl⟩
theorem d_M_rebuild_152 : decode b_M_rebuild 152 = .ok (.invokevirtual 161, 3) ∧ 152 + 3 = 155 := ⟨by decide +kernel, rfl⟩
theorem d_M_rebuild_155 : decode b_M_rebuild 155 = .ok (.putfield 72, 3) ∧ 155 + 3 = 158 := ⟨by decide +kernel, rfl⟩
theorem d_M_rebuild_158 : decode b_M_rebuild 158 = .ok (.iload 4, 2) ∧ 158 + 2 = 160 := ⟨by decide +kernel, rfl⟩
theorem d_M_rebuild_160 : decode b_M_rebuild 160 = .ok (.ireturn, 1) := by decide +kernel
theorem d_M_regenerate_0 : decode b_M_regenerate 0 = .ok (.aload_n 0, 1) ∧ 0 + 1 = 1 := ⟨by decide +kernel, rfl⟩
theorem d_M_regenerate_1 : decode b_M_regenerate 1 = .ok (.iload_n 1, 1) ∧ 1 + 1 = 2 := ⟨by decide +kernel, rfl⟩
theorem d_M_regenerate_2 : decode b_M_regenerate 2 = .ok (.invokestatic 84, 3) ∧ 2 + 3 = 5 := ⟨by decide +kernel, rfl⟩
theorem d_M_regenerate_5 : decode b_M_regenerate 5 = .ok (.ifCond .ne 7, 3) ∧ 5 + 3 = 8 ∧ ((5 : Nat) : Int) + 7 = ((12 : Nat) : Int) := ⟨by decide +kernel, rfl, by decide⟩
theorem d_M_regenerate_8 : decode b_M_regenerate 8 = .ok (.iconst 1, 1) ∧ 8 + 1 = 9 := ⟨by decide +kernel, rfl⟩
theorem d_M_regenerate_9 : decode b_M_regenerate 9 = .ok (.goto 4, 3) ∧ ((9 : Nat) : Int) + 4 = ((13 : Nat) : Int) := ⟨by decide +kernel, by decide⟩
theorem d_M_regenerate_12 : decode b_M_regenerate 12 = .ok (.iconst 0, 1) ∧ 12 + 1 = 13 := ⟨by decide +kernel, rfl⟩
theorem d_M_regenerate_13 : decode b_M_regenerate 13 = .ok (.aload_n 0, 1) ∧ 13 + 1 = 14 := ⟨by decide +kernel, rfl⟩
theorem d_M_regenerate_14 : decode b_M_regenerate 14 = .ok (.iload_n 1, 1) ∧ 14 + 1 = 15 := ⟨by decide +kernel, rfl⟩
theorem d_M_regenerate_15 : decode b_M_regenerate 15 = .ok (.invokevirtual 114, 3) ∧ 15 + 3 = 18 := ⟨by decide +kernel, rfl⟩
theorem d_M_regenerate_18 : decode b_M_regenerate 18 = .ok (.ifCond .eq 12, 3) ∧ 18 + 3 = 21 ∧ ((18 : Nat) : Int) + 12 = ((30 : Nat) : Int) := ⟨by decide +kernel, rfl, by decide⟩
theorem d_M_regenerate_21 : decode b_M_regenerate 21 = .ok (.aload_n 0, 1) ∧ 21 + 1 = 22 := ⟨by decide +kernel, rfl⟩
theorem d_M_regenerate_22 : decode b_M_regenerate 22 = .ok (.getfield 42, 3) ∧ 22 + 3 = 25 := ⟨by decide +kernel, rfl⟩
theorem d_M_regenerate_25 : decode b_M_regenerate 25 = .ok (.iload_n 1, 1) ∧ 25 + 1 = 26 := ⟨by decide +kernel, rfl⟩
theorem d_M_regenerate_26 : decode b_M_regenerate 26 = .ok (.baload, 1) ∧ 26 + 1 = 27 := ⟨by decide +kernel, rfl⟩
theorem d_M_regenerate_27 : decode b_M_regenerate 27 = .ok (.ifCond .eq 7, 3) ∧ 27 + 3 = 30 ∧ ((27 : Nat) : Int) + 7 = ((34 : Nat) : Int) := ⟨by decide +kernel, rfl, by decide⟩
theorem d_M_regenerate_30 : decode b_M_regenerate 30 = .ok (.iconst 1, 1) ∧ 30 + 1 = 31 := ⟨by decide +kernel, rfl⟩
theorem d_M_regenerate_31 : decode b_M_regenerate 31 = .ok (.goto 4, 3) ∧ ((31 : Nat) : Int) + 4 = ((35 : Nat) : Int) := ⟨by decide +kernel, by decide⟩
theorem d_M_regenerate_34 : decode b_M_regenerate 34 = .ok (.iconst 0, 1) ∧ 34 + 1 = 35 := ⟨by decide +kernel, rfl⟩
theorem d_M_regenerate_35 : decode b_M_regenerate 35 = .ok (.invokevirtual 88, 3) ∧ 35 + 3 = 38 := ⟨by decide +kernel, rfl⟩
theorem d_M_regenerate_38 : decode b_M_regenerate 38 = .ok (.ifCond .eq 5, 3) ∧ 38 + 3 = 41 ∧ ((38 : Nat) : Int) + 5 = ((43 : Nat) : Int) := ⟨by decide +kernel, rfl, by decide⟩
theorem d_M_regenerate_41 : decode b_M_regenerate 41 = .ok (.iconst 0, 1) ∧ 41 + 1 = 42 := ⟨by decide +kernel, rfl⟩
theorem d_M_regenerate_42 : decode b_M_regenerate 42 = .ok (.ireturn, 1) := by decide +kernel
theorem d_M_regenerate_43 : decode b_M_regenerate 43 = .ok (.aload_n 0, 1) ∧ 43 + 1 = 44 := ⟨by decide +kernel, rfl⟩
theorem d_M_regenerate_44 : decode b_M_regenerate 44 = .ok (.aload_n 0, 1) ∧ 44 + 1 = 45 := ⟨by decide +kernel, rfl⟩
theorem d_M_regenerate_45 : decode b_M_regenerate 45 = .ok (.invokevirtual 173, 3) ∧ 45 + 3 = 48 := ⟨by decide +kernel, rfl⟩
theorem d_M_regenerate_48 : decode b_M_regenerate 48 = .ok (.invokevirtual 164, 3) ∧ 48 + 3 = 51 := ⟨by decide +kernel, rfl⟩
theorem d_M_regenerate_51 : decode b_M_regenerate 51 = .ok (.istore_n 2, 1) ∧ 51 + 1 = 52 := ⟨by decide +kernel, rfl⟩
theorem d_M_regenerate_52 : decode b_M_regenerate 52 = .ok (.iload_n 2, 1) ∧ 52 + 1 = 53 := ⟨by decide +kernel, rfl⟩
theorem d_M_regenerate_53 : decode b_M_regenerate 53 = .ok (.ifCond .eq 12, 3) ∧ 53 + 3 = 56 ∧ ((53 : Nat) : Int) + 12 = ((65 : Nat) : Int) := ⟨by decide +kernel, rfl, by decide⟩
theorem d_M_regenerate_56 : decode b_M_regenerate 56 = .ok (.aload_n 0, 1) ∧ 56 + 1 = 57 := ⟨by decide +kernel, rfl⟩
theorem d_M_regenerate_57 : decode b_M_regenerate 57 = .ok (.iload_n 1, 1) ∧ 57 + 1 = 58 := ⟨by decide +kernel, rfl⟩
theorem d_M_regenerate_58 : decode b_M_regenerate 58 = .ok (.aload_n 0, 1) ∧ 58 + 1 = 59 := ⟨by decide +kernel, rfl⟩
theorem d_M_regenerate_59 : decode b_M_regenerate 59 = .ok (.getfield 26, 3) ∧ 59 + 3 = 62 := ⟨by decide +kernel, rfl⟩
theorem d_M_regenerate_62 : decode b_M_regenerate 62 = .ok (.invokevirtual 128, 3) ∧ 62 + 3 = 65 := ⟨by decide +kernel, rfl⟩
theorem d_M_regenerate_65 : decode b_M_regenerate 65 = .ok (.iload_n 2, 1) ∧ 65 + 1 = 66 := ⟨by decide +kernel, rfl⟩
theorem d_M_regenerate_66 : decode b_M_regenerate 66 = .ok (.ireturn, 1) := by decide +kernel
theorem d_M_shelf_0 : decode b_M_shelf 0 = .ok (.aload_n 0, 1) ∧ 0 + 1 = 1 := ⟨by decide +kernel, rfl⟩
theorem d_M_shelf_1 : decode b_M_shelf 1 = .ok (.iload_n 1, 1) ∧ 1 + 1 = 2 := ⟨by decide +kernel, rfl⟩
theorem d_M_shelf_2 : decode b_M_shelf 2 = .ok (.invokestatic 84, 3) ∧ 2 + 3 = 5 := ⟨by decide +kernel, rfl⟩
theorem d_M_shelf_5 : decode b_M_shelf 5 = .ok (.ifCond .eq 12, 3) ∧ 5 + 3 = 8 ∧ ((5 : Nat) : Int) + 12 = ((17 : Nat) : Int) := ⟨by decide +kernel, rfl, by decide⟩
theorem d_M_shelf_8 : decode b_M_shelf 8 = .ok (.iload_n 2, 1) ∧ 8 + 1 = 9 := ⟨by decide +kernel, rfl⟩
theorem d_M_shelf_9 : decode b_M_shelf 9 = .ok (.ifCond .lt 8, 3) ∧ 9 + 3 = 12 ∧ ((9 : Nat) : Int) + 8 = ((17 : Nat) : Int) := ⟨by decide +kernel, rfl, by decide⟩
theorem d_M_shelf_12 : decode b_M_shelf 12 = .ok (.iload_n 2, 1) ∧ 12 + 1 = 13 := ⟨by decide +kernel, rfl⟩
theorem d_M_shelf_13 : decode b_M_shelf 13 = .ok (.iconst 3, 1) ∧ 13 + 1 = 14 := ⟨by decide +kernel, rfl⟩
theorem d_M_shelf_14 : decode b_M_shelf 14 = .ok (.if_icmp .le 7, 3) ∧ 14 + 3 = 17 ∧ ((14 : Nat) : Int) + 7 = ((21 : Nat) : Int) := ⟨by decide +kernel, rfl, by decide⟩
theorem d_M_shelf_17 : decode b_M_shelf 17 = .ok (.iconst 1, 1) ∧ 17 + 1 = 18 := ⟨by decide +kernel, rfl⟩
theorem d_M_shelf_18 : decode b_M_shelf 18 = .ok (.goto 4, 3) ∧ ((18 : Nat) : Int) + 4 = ((22 : Nat) : Int) := ⟨by decide +kernel, by decide⟩
theorem d_M_shelf_21 : decode b_M_shelf 21 = .ok (.iconst 0, 1) ∧ 21 + 1 = 22 := ⟨by decide +kernel, rfl⟩
theorem d_M_shelf_22 : decode b_M_shelf 22 = .ok (.aload_n 0, 1) ∧ 22 + 1 = 23 := ⟨by decide +kernel, rfl⟩
theorem d_M_shelf_23 : decode b_M_shelf 23 = .ok (.iload_n 1, 1) ∧ 23 + 1 = 24 := ⟨by decide +kernel, rfl⟩
theorem d_M_shelf_24 : decode b_M_shelf 24 = .ok (.invokevirtual 114, 3) ∧ 24 + 3 = 27 := ⟨by decide +kernel, rfl⟩
theorem d_M_shelf_27 : decode b_M_shelf 27 = .ok (.ifCond .ne 7, 3) ∧ 27 + 3 = 30 ∧ ((27 : Nat) : Int) + 7 = ((34 : Nat) : Int) := ⟨by decide +kernel, rfl, by decide⟩
theorem d_M_shelf_30 : decode b_M_shelf 30 = .ok (.iconst 1, 1) ∧ 30 + 1 = 31 := ⟨by decide +kernel, rfl⟩
theorem d_M_shelf_31 : decode b_M_shelf 31 = .ok (.goto 4, 3) ∧ ((31 : Nat) : Int) + 4 = ((35 : Nat) : Int) := ⟨by decide +kernel, by decide⟩
theorem d_M_shelf_34 : decode b_M_shelf 34 = .ok (.iconst 0, 1) ∧ 34 + 1 = 35 := ⟨by decide +kernel, rfl⟩
theorem d_M_shelf_35 : decode b_M_shelf 35 = .ok (.invokevirtual 88, 3) ∧ 35 + 3 = 38 := ⟨by decide +kernel, rfl⟩
theorem d_M_shelf_38 : decode b_M_shelf 38 = .ok (.ifCond .eq 5, 3) ∧ 38 + 3 = 41 ∧ ((38 : Nat) : Int) + 5 = ((43 : Nat) : Int) := ⟨by decide +kernel, rfl, by decide⟩
theorem d_M_shelf_41 : decode b_M_shelf 41 = .ok (.iconst 0, 1) ∧ 41 + 1 = 42 := ⟨by decide +kernel, rfl⟩
theorem d_M_shelf_42 : decode b_M_shelf 42 = .ok (.ireturn, 1) := by decide +kernel
theorem d_M_shelf_43 : decode b_M_shelf 43 = .ok (.iload_n 2, 1) ∧ 43 + 1 = 44 := ⟨by decide +kernel, rfl⟩
theorem d_M_shelf_44 : decode b_M_shelf 44 = .ok (.ifCond .ne 12, 3) ∧ 44 + 3 = 47 ∧ ((44 : Nat) : Int) + 12 = ((56 : Nat) : Int) := ⟨by decide +kernel, rfl, by decide⟩
theorem d_M_shelf_47 : decode b_M_shelf 47 = .ok (.aload_n 0, 1) ∧ 47 + 1 = 48 := ⟨by decide +kernel, rfl⟩
theorem d_M_shelf_48 : decode b_M_shelf 48 = .ok (.getfield 36, 3) ∧ 48 + 3 = 51 := ⟨by decide +kernel, rfl⟩
theorem d_M_shelf_51 : decode b_M_shelf 51 = .ok (.iload_n 1, 1) ∧ 51 + 1 = 52 := ⟨by decide +kernel, rfl⟩
theorem d_M_shelf_52 : decode b_M_shelf 52 = .ok (.iaload, 1) ∧ 52 + 1 = 53 := ⟨by decide +kernel, rfl⟩
theorem d_M_shelf_53 : decode b_M_shelf 53 = .ok (.goto 44, 3) ∧ ((53 : Nat) : Int) + 44 = ((97 : Nat) : Int) := ⟨by decide +kernel, by decide⟩
theorem d_M_shelf_56 : decode b_M_shelf 56 = .ok (.iload_n 2, 1) ∧ 56 + 1 = 57 := ⟨by decide +kernel, rfl⟩
theorem d_M_shelf_57 : decode b_M_shelf 57 = .ok (.iconst 1, 1) ∧ 57 + 1 = 58 := ⟨by decide +kernel, rfl⟩
theorem d_M_shelf_58 : decode b_M_shelf 58 = .ok (.if_icmp .ne 12, 3) ∧ 58 + 3 = 61 ∧ ((58 : Nat) : Int) + 12 = ((70 : Nat) : Int) := ⟨by decide +kernel, rfl, by decide⟩
theorem d_M_shelf_61 : decode b_M_shelf 61 = .ok (.aload_n 0, 1) ∧ 61 + 1 = 62 := ⟨by decide +kernel, rfl⟩
theorem d_M_shelf_62 : decode b_M_shelf 62 = .ok (.getfield 39, 3) ∧ 62 + 3 = 65 := ⟨by decide +kernel, rfl⟩
theorem d_M_shelf_65 : decode b_M_shelf 65 = .ok (.iload_n 1, 1) ∧ 65 + 1 = 66 := ⟨by decide +kernel, rfl⟩
theorem d_M_shelf_66 : decode b_M_shelf 66 = .ok (.iaload, 1) ∧ 66 + 1 = 67 := ⟨by decide +kernel, rfl⟩
theorem d_M_shelf_67 : decode b_M_shelf 67 = .ok (.goto 30, 3) ∧ ((67 : Nat) : Int) + 30 = ((97 : Nat) : Int) := ⟨by decide +kernel, by decide⟩
theorem d_M_shelf_70 : decode b_M_shelf 70 = .ok (.iload_n 2, 1) ∧ 70 + 1 = 71 := ⟨by decide +kernel, rfl⟩
theorem d_M_shelf_71 : decode b_M_shelf 71 = .ok (.iconst 2, 1) ∧ 71 + 1 = 72 := ⟨by decide +kernel, rfl⟩
theorem d_M_shelf_72 : decode b_M_shelf 72 = .ok (.if_icmp .ne 11, 3) ∧ 72 + 3 = 75 ∧ ((72 : Nat) : Int) + 11 = ((83 : Nat) : Int) := ⟨by decide +kernel, rfl, by decide⟩
theorem d_M_shelf_75 : decode b_M_shelf 75 = .ok (.aload_n 0, 1) ∧ 75 + 1 = 76 := ⟨by decide +kernel, rfl⟩
theorem d_M_shelf_76 : decode b_M_shelf 76 = .ok (.iload_n 1, 1) ∧ 76 + 1 = 77 := ⟨by decide +kernel, rfl⟩
theorem d_M_shelf_77 : decode b_M_shelf 77 = .ok (.invokevirtual 117, 3) ∧ 77 + 3 = 80 := ⟨by decide +kernel, rfl⟩
theorem d_M_shelf_80 : decode b_M_shelf 80 = .ok (.goto 17, 3) ∧ ((80 : Nat) : Int) + 17 = ((97 : Nat) : Int) := ⟨by decide +kernel, by decide⟩
theorem d_M_shelf_83 : decode b_M_shelf 83 = .ok (.aload_n 0, 1) ∧ 83 + 1 = 84 := ⟨by decide +kernel, rfl⟩
theorem d_M_shelf_84 : decode b_M_shelf 84 = .ok (.getfield 42, 3) ∧ 84 + 3 = 87 := ⟨by decide +kernel, rfl⟩
theorem d_M_shelf_87 : decode b_M_shelf 87 = .ok (.iload_n 1, 1) ∧ 87 + 1 = 88 := ⟨by decide +kernel, rfl⟩
theorem d_M_shelf_88 : decode b_M_shelf 88 = .ok (.baload, 1) ∧ 88 + 1 = 89 := ⟨by decide +kernel, rfl⟩
theorem d_M_shelf_89 : decode b_M_shelf 89 = .ok (.ifCond .eq 7, 3) ∧ 89 + 3 = 92 ∧ ((89 : Nat) : Int) + 7 = ((96 : Nat) : Int) := ⟨by decide +kernel, rfl, by decide⟩
theorem d_M_shelf_92 : decode b_M_shelf 92 = .ok (.iconst 1, 1) ∧ 92 + 1 = 93 := ⟨by decide +kernel, rfl⟩
theorem d_M_shelf_93 : decode b_M_shelf 93 = .ok (.goto 4, 3) ∧ ((93 : Nat) : Int) + 4 = ((97 : Nat) : Int) := ⟨by decide +kernel, by decide⟩
theorem d_M_shelf_96 : decode b_M_shelf 96 = .ok (.iconst 0, 1) ∧ 96 + 1 = 97 := ⟨by decide +kernel, rfl⟩
theorem d_M_shelf_97 : decode b_M_shelf 97 = .ok (.ireturn, 1) := by decide +kernel
theorem d_M_single_0 : decode b_M_single 0 = .ok (.iconst 0, 1) ∧ 0 + 1 = 1 := ⟨by decide +kernel, rfl⟩
theorem d_M_single_1 : decode b_M_single 1 = .ok (.istore_n 2, 1) ∧ 1 + 1 = 2 := ⟨by decide +kernel, rfl⟩
theorem d_M_single_2 : decode b_M_single 2 = .ok (.iload_n 2, 1) ∧ 2 + 1 = 3 := ⟨by decide +kernel, rfl⟩
theorem d_M_single_3 : decode b_M_single 3 = .ok (.bipush 8, 2) ∧ 3 + 2 = 5 := ⟨by decide +kernel, rfl⟩
theorem d_M_single_5 : decode b_M_single 5 = .ok (.if_icmp .ge 68, 3) ∧ 5 + 3 = 8 ∧ ((5 : Nat) : Int) + 68 = ((73 : Nat) : Int) := ⟨by decide +kernel, rfl, by decide⟩
theorem d_M_single_8 : decode b_M_single 8 = .ok (.aload_n 0, 1) ∧ 8 + 1 = 9 := ⟨by decide +kernel, rfl⟩
theorem d_M_single_9 : decode b_M_single 9 = .ok (.iload_n 1, 1) ∧ 9 + 1 = 10 := ⟨by decide +kernel, rfl⟩
theorem d_M_single_10 : decode b_M_single 10 = .ok (.iload_n 2, 1) ∧ 10 + 1 = 11 := ⟨by decide +kernel, rfl⟩
theorem d_M_single_11 : decode b_M_single 11 = .ok (.invokevirtual 134, 3) ∧ 11 + 3 = 14 := ⟨by decide +kernel, rfl⟩
theorem d_M_single_14 : decode b_M_single 14 = .ok (.ifCond .ne 6, 3) ∧ 14 + 3 = 17 ∧ ((14 : Nat) : Int) + 6 = ((20 : Nat) : Int) := ⟨by decide +kernel, rfl, by decide⟩
theorem d_M_single_17 : decode b_M_single 17 = .ok (.goto 50, 3) ∧ ((17 : Nat) : Int) + 50 = ((67 : Nat) : Int) := ⟨by decide +kernel, by decide⟩
theorem d_M_single_20 : decode b_M_single 20 = .ok (.aload_n 0, 1) ∧ 20 + 1 = 21 := ⟨by decide +kernel, rfl⟩
theorem d_M_single_21 : decode b_M_single 21 = .ok (.iload_n 2, 1) ∧ 21 + 1 = 22 := ⟨by decide +kernel, rfl⟩
theorem d_M_single_22 : decode b_M_single 22 = .ok (.invokevirtual 117, 3) ∧ 22 + 3 = 25 := ⟨by decide +kernel, rfl⟩
theorem d_M_single_25 : decode b_M_single 25 = .ok (.istore_n 3, 1) ∧ 25 + 1 = 26 := ⟨by decide +kernel, rfl⟩
theorem d_M_single_26 : decode b_M_single 26 = .ok (.iconst 0, 1) ∧ 26 + 1 = 27 := ⟨by decide +kernel, rfl⟩
theorem d_M_single_27 : decode b_M_single 27 = .ok (.istore 4, 2) ∧ 27 + 2 = 29 := ⟨by decide +kernel, rfl⟩
theorem d_M_single_29 : decode b_M_single 29 = .ok (.iload 4, 2) ∧ 29 + 2 = 31 := ⟨by decide +kernel, rfl⟩
theorem d_M_single_31 : decode b_M_single 31 = .ok (.iload_n 3, 1) ∧ 31 + 1 = 32 := ⟨by decide +kernel, rfl⟩
theorem d_M_single_32 : decode b_M_single 32 = .ok (.if_icmp .ge 35, 3) ∧ 32 + 3 = 35 ∧ ((32 : Nat) : Int) + 35 = ((67 : Nat) : Int) := ⟨by decide +kernel, rfl, by decide⟩
theorem d_M_single_35 : decode b_M_single 35 = .ok (.aload_n 0, 1) ∧ 35 + 1 = 36 := ⟨by decide +kernel, rfl⟩
theorem d_M_single_36 : decode b_M_single 36 = .ok (.getfield 63, 3) ∧ 36 + 3 = 39 := ⟨by decide +kernel, rfl⟩
theorem d_M_single_39 : decode b_M_single 39 = .ok (.sipush 481, 3) ∧ 39 + 3 = 42 := ⟨by decide +kernel, rfl⟩
theorem d_M_single_42 : decode b_M_single 42 = .ok (.iload_n 2, 1) ∧ 42 + 1 = 43 := ⟨by decide +kernel, rfl⟩
theorem d_M_single_43 : decode b_M_single 43 = .ok (.imul, 1) ∧ 43 + 1 = 44 := ⟨by decide +kernel, rfl⟩
theorem d_M_single_44 : decode b_M_single 44 = .ok (.iload 4, 2) ∧ 44 + 2 = 46 := ⟨by decide +kernel, rfl⟩
theorem d_M_single_46 : decode b_M_single 46 = .ok (.iadd, 1) ∧ 46 + 1 = 47 := ⟨by decide +kernel, rfl⟩
theorem d_M_single_47 : decode b_M_single 47 = .ok (.iaload, 1) ∧ 47 + 1 = 48 := ⟨by decide +kernel, rfl⟩
theorem d_M_single_48 : decode b_M_single 48 = .ok (.iconst 1, 1) ∧ 48 + 1 = 49 := ⟨by decide +kernel, rfl⟩
theorem d_M_single_49 : decode b_M_single 49 = .ok (.if_icmp .ne 12, 3) ∧ 49 + 3 = 52 ∧ ((49 : Nat) : Int) + 12 = ((61 : Nat) : Int) := ⟨by decide +kernel, rfl, by decide⟩
theorem d_M_single_52 : decode b_M_single 52 = .ok (.sipush 481, 3) ∧ 52 + 3 = 55 := ⟨by decide +kernel, rfl⟩
theorem d_M_single_55 : decode b_M_single 55 = .ok (.iload_n 2, 1) ∧ 55 + 1 = 56 := ⟨by decide +kernel, rfl⟩
theorem d_M_single_56 : decode b_M_single 56 = .ok (.imul, 1) ∧ 56 + 1 = 57 := ⟨by decide +kernel, rfl⟩
theorem d_M_single_57 : decode b_M_single 57 = .ok (.iload 4, 2) ∧ 57 + 2 = 59 := ⟨by decide +kernel, rfl⟩
theorem d_M_single_59 : decode b_M_single 59 = .ok (.iadd, 1) ∧ 59 + 1 = 60 := ⟨by decide +kernel, rfl⟩
theorem d_M_single_60 : decode b_M_single 60 = .ok (.ireturn, 1) := by decide +kernel
theorem d_M_single_61 : decode b_M_single 61 = .ok (.iinc 4 1, 3) ∧ 61 + 3 = 64 := ⟨by decide +kernel, rfl⟩
theorem d_M_single_64 : decode b_M_single 64 = .ok (.goto (-35), 3) ∧ ((64 : Nat) : Int) + (-35) = ((29 : Nat) : Int) := ⟨by decide +kernel, by decide⟩
theorem d_M_single_67 : decode b_M_single 67 = .ok (.iinc 2 1, 3) ∧ 67 + 3 = 70 := ⟨by decide +kernel, rfl⟩
theorem d_M_single_70 : decode b_M_single 70 = .ok (.goto (-68), 3) ∧ ((70 : Nat) : Int) + (-68) = ((2 : Nat) : Int) := ⟨by decide +kernel, by decide⟩
theorem d_M_single_73 : decode b_M_single 73 = .ok (.iconst (-1), 1) ∧ 73 + 1 = 74 := ⟨by decide +kernel, rfl⟩
theorem d_M_single_74 : decode b_M_single 74 = .ok (.ireturn, 1) := by decide +kernel
theorem d_M_size_0 : decode b_M_size 0 = .ok (.aload_n 0, 1) ∧ 0 + 1 = 1 := ⟨by decide +kernel, rfl⟩
theorem d_M_size_1 : decode b_M_size 1 = .ok (.iload_n 1, 1) ∧ 1 + 1 = 2 := ⟨by decide +kernel, rfl⟩
theorem d_M_size_2 : decode b_M_size 2 = .ok (.iconst 1, 1) ∧ 2 + 1 = 3 := ⟨by decide +kernel, rfl⟩
theorem d_M_size_3 : decode b_M_size 3 = .ok (.if_icmp .lt 20, 3) ∧ 3 + 3 = 6 ∧ ((3 : Nat) : Int) + 20 = ((23 : Nat) : Int) := ⟨by decide +kernel, rfl, by decide⟩
theorem d_M_size_6 : decode b_M_size 6 = .ok (.iload_n 1, 1) ∧ 6 + 1 = 7 := ⟨by decide +kernel, rfl⟩
theorem d_M_size_7 : decode b_M_size 7 = .ok (.bipush 16, 2) ∧ 7 + 2 = 9 := ⟨by decide +kernel, rfl⟩
theorem d_M_size_9 : decode b_M_size 9 = .ok (.if_icmp .gt 14, 3) ∧ 9 + 3 = 12 ∧ ((9 : Nat) : Int) + 14 = ((23 : Nat) : Int) := ⟨by decide +kernel, rfl, by decide⟩
theorem d_M_size_12 : decode b_M_size 12 = .ok (.iload_n 2, 1) ∧ 12 + 1 = 13 := ⟨by decide +kernel, rfl⟩
theorem d_M_size_13 : decode b_M_size 13 = .ok (.iconst 1, 1) ∧ 13 + 1 = 14 := ⟨by decide +kernel, rfl⟩
theorem d_M_size_14 : decode b_M_size 14 = .ok (.if_icmp .lt 9, 3) ∧ 14 + 3 = 17 ∧ ((14 : Nat) : Int) + 9 = ((23 : Nat) : Int) := ⟨by decide +kernel, rfl, by decide⟩
theorem d_M_size_17 : decode b_M_size 17 = .ok (.iload_n 2, 1) ∧ 17 + 1 = 18 := ⟨by decide +kernel, rfl⟩
theorem d_M_size_18 : decode b_M_size 18 = .ok (.bipush 16, 2) ∧ 18 + 2 = 20 := ⟨by decide +kernel, rfl⟩
theorem d_M_size_20 : decode b_M_size 20 = .ok (.if_icmp .le 7, 3) ∧ 20 + 3 = 23 ∧ ((20 : Nat) : Int) + 7 = ((27 : Nat) : Int) := ⟨by decide +kernel, rfl, by decide⟩
theorem d_M_size_23 : decode b_M_size 23 = .ok (.iconst 1, 1) ∧ 23 + 1 = 24 := ⟨by decide +kernel, rfl⟩
theorem d_M_size_24 : decode b_M_size 24 = .ok (.goto 4, 3) ∧ ((24 : Nat) : Int) + 4 = ((28 : Nat) : Int) := ⟨by decide +kernel, by decide⟩
theorem d_M_size_27 : decode b_M_size 27 = .ok (.iconst 0, 1) ∧ 27 + 1 = 28 := ⟨by decide +kernel, rfl⟩
theorem d_M_size_28 : decode b_M_size 28 = .ok (.iconst 0, 1) ∧ 28 + 1 = 29 := ⟨by decide +kernel, rfl⟩
theorem d_M_size_29 : decode b_M_size 29 = .ok (.invokevirtual 88, 3) ∧ 29 + 3 = 32 := ⟨by decide +kernel, rfl⟩
theorem d_M_size_32 : decode b_M_size 32 = .ok (.ifCond .eq 4, 3) ∧ 32 + 3 = 35 ∧ ((32 : Nat) : Int) + 4 = ((36 : Nat) : Int) := ⟨by decide +kernel, rfl, by decide⟩
theorem d_M_size_35 : decode b_M_size 35 = .ok (.return_, 1) := by decide +kernel
theorem d_M_size_36 : decode b_M_size 36 = .ok (.aload_n 0, 1) ∧ 36 + 1 = 37 := ⟨by decide +kernel, rfl⟩
theorem d_M_size_37 : decode b_M_size 37 = .ok (.iload_n 1, 1) ∧ 37 + 1 = 38 := ⟨by decide +kernel, rfl⟩
theorem d_M_size_38 : decode b_M_size 38 = .ok (.putfield 7, 3) ∧ 38 + 3 = 41 := ⟨by decide +kernel, rfl⟩
theorem d_M_size_41 : decode b_M_size 41 = .ok (.aload_n 0, 1) ∧ 41 + 1 = 42 := ⟨by decide +kernel, rfl⟩
theorem d_M_size_42 : decode b_M_size 42 = .ok (.iload_n 2, 1) ∧ 42 + 1 = 43 := ⟨by decide +kernel, rfl⟩
theorem d_M_size_43 : decode b_M_size 43 = .ok (.putfield 13, 3) ∧ 43 + 3 = 46 := ⟨by decide +kernel, rfl⟩
theorem d_M_size_46 : decode b_M_size 46 = .ok (.iconst 0, 1) ∧ 46 + 1 = 47 := ⟨by decide +kernel, rfl⟩
theorem d_M_size_47 : decode b_M_size 47 = .ok (.istore_n 3, 1) ∧ 47 + 1 = 48 := ⟨by decide +kernel, rfl⟩
theorem d_M_size_48 : decode b_M_size 48 = .ok (.iload_n 3, 1) ∧ 48 + 1 = 49 := ⟨by decide +kernel, rfl⟩
theorem d_M_size_49 : decode b_M_size 49 = .ok (.sipush 256, 3) ∧ 49 + 3 = 52 := ⟨by decide +kernel, rfl⟩
theorem d_M_size_52 : decode b_M_size 52 = .ok (.if_icmp .ge 16, 3) ∧ 52 + 3 = 55 ∧ ((52 : Nat) : Int) + 16 = ((68 : Nat) : Int) := ⟨by decide +kernel, rfl, by decide⟩
theorem d_M_size_55 : decode b_M_size 55 = .ok (.aload_n 0, 1) ∧ 55 + 1 = 56 := ⟨by decide +kernel, rfl⟩
theorem d_M_size_56 : decode b_M_size 56 = .ok (.getfield 16, 3) ∧ 56 + 3 = 59 := ⟨by decide +kernel, rfl⟩
theorem d_M_size_59 : decode b_M_size 59 = .ok (.iload_n 3, 1) ∧ 59 + 1 = 60 := ⟨by decide +kernel, rfl⟩
theorem d_M_size_60 : decode b_M_size 60 = .ok (.iconst 0, 1) ∧ 60 + 1 = 61 := ⟨by decide +kernel, rfl⟩
theorem d_M_size_61 : decode b_M_size 61 = .ok (.iastore, 1) ∧ 61 + 1 = 62 := ⟨by decide +kernel, rfl⟩
theorem d_M_size_62 : decode b_M_size 62 = .ok (.iinc 3 1, 3) ∧ 62 + 3 = 65 := ⟨by decide +kernel, rfl⟩
theorem d_M_size_65 : decode b_M_size 65 = .ok (.goto (-17), 3) ∧ ((65 : Nat) : Int) + (-17) = ((48 : Nat) : Int) := ⟨by decide +kernel, by decide⟩
theorem d_M_size_68 : decode b_M_size 68 = .ok (.iconst 0, 1) ∧ 68 + 1 = 69 := ⟨by decide +kernel, rfl⟩
theorem d_M_size_69 : decode b_M_size 69 = .ok (.istore_n 3, 1) ∧ 69 + 1 = 70 := ⟨by decide +kernel, rfl⟩
theorem d_M_size_70 : decode b_M_size 70 = .ok (.iload_n 3, 1) ∧ 70 + 1 = 71 := ⟨by decide +kernel, rfl⟩
theorem d_M_size_71 : decode b_M_size 71 = .ok (.bipush 8, 2) ∧ 71 + 2 = 73 := ⟨by decide +kernel, rfl⟩
theorem d_M_size_73 : decode b_M_size 73 = .ok (.if_icmp .ge 23, 3) ∧ 73 + 3 = 76 ∧ ((73 : Nat) : Int) + 23 = ((96 : Nat) : Int) := ⟨by decide +kernel, rfl, by decide⟩
theorem d_M_size_76 : decode b_M_size 76 = .ok (.aload_n 0, 1) ∧ 76 + 1 = 77 := ⟨by decide +kernel, rfl⟩
theorem d_M_size_77 : decode b_M_size 77 = .ok (.getfield 33, 3) ∧ 77 + 3 = 80 := ⟨by decide +kernel, rfl⟩
theorem d_M_size_80 : decode b_M_size 80 = .ok (.iload_n 3, 1) ∧ 80 + 1 = 81 := ⟨by decide +kernel, rfl⟩
theorem d_M_size_81 : decode b_M_size 81 = .ok (.iconst 0, 1) ∧ 81 + 1 = 82 := ⟨by decide +kernel, rfl⟩
theorem d_M_size_82 : decode b_M_size 82 = .ok (.bastore, 1) ∧ 82 + 1 = 83 := ⟨by decide +kernel, rfl⟩
theorem d_M_size_83 : decode b_M_size 83 = .ok (.aload_n 0, 1) ∧ 83 + 1 = 84 := ⟨by decide +kernel, rfl⟩
theorem d_M_size_84 : decode b_M_size 84 = .ok (.getfield 42, 3) ∧ 84 + 3 = 87 := ⟨by decide +kernel, rfl⟩
theorem d_M_size_87 : decode b_M_size 87 = .ok (.iload_n 3, 1) ∧ 87 + 1 = 88 := ⟨by decide +kernel, rfl⟩
theorem d_M_size_88 : decode b_M_size 88 = .ok (.iconst 0, 1) ∧ 88 + 1 = 89 := ⟨by decide +kernel, rfl⟩
theorem d_M_size_89 : decode b_M_size 89 = .ok (.bastore, 1) ∧ 89 + 1 = 90 := ⟨by decide +kernel, rfl⟩
theorem d_M_size_90 : decode b_M_size 90 = .ok (.iinc 3 1, 3) ∧ 90 + 3 = 93 := ⟨by decide +kernel, rfl⟩
theorem d_M_size_93 : decode b_M_size 93 = .ok (.goto (-23), 3) ∧ ((93 : Nat) : Int) + (-23) = ((70 : Nat) : Int) := ⟨by decide +kernel, by decide⟩
theorem d_M_size_96 : decode b_M_size 96 = .ok (.aload_n 0, 1) ∧ 96 + 1 = 97 := ⟨by decide +kernel, rfl⟩
theorem d_M_size_97 : decode b_M_size 97 = .ok (.iconst 0, 1) ∧ 97 + 1 = 98 := ⟨by decide +kernel, rfl⟩
theorem d_M_size_98 : decode b_M_size 98 = .ok (.putfield 92, 3) ∧ 98 + 3 = 101 := ⟨by decide +kernel, rfl⟩
theorem d_M_size_101 : decode b_M_size 101 = .ok (.aload_n 0, 1) ∧ 101 + 1 = 102 := ⟨by decide +kernel, rfl⟩
theorem d_M_size_102 : decode b_M_size 102 = .ok (.iconst 0, 1) ∧ 102 + 1 = 103 := ⟨by decide +kernel, rfl⟩
theorem d_M_size_103 : decode b_M_size 103 = .ok (.putfield 96, 3) ∧ 103 + 3 = 106 := ⟨by decide +kernel, rfl⟩
theorem d_M_size_106 : decode b_M_size 106 = .ok (.return_, 1) := by decide +kernel
theorem d_M_sizeOf_0 : decode b_M_sizeOf 0 = .ok (.iload_n 0, 1) ∧ 0 + 1 = 1 := ⟨by decide +kernel, rfl⟩
theorem d_M_sizeOf_1 : decode b_M_sizeOf 1 = .ok (.ifCond .ge 8, 3) ∧ 1 + 3 = 4 ∧ ((1 : Nat) : Int) + 8 = ((9 : Nat) : Int) := ⟨by decide +kernel, rfl, by decide⟩
theorem d_M_sizeOf_4 : decode b_M_sizeOf 4 = .ok (.iload_n 0, 1) ∧ 4 + 1 = 5 := ⟨by decide +kernel, rfl⟩
theorem d_M_sizeOf_5 : decode b_M_sizeOf 5 = .ok (.ineg, 1) ∧ 5 + 1 = 6 := ⟨by decide +kernel, rfl⟩
theorem d_M_sizeOf_6 : decode b_M_sizeOf 6 = .ok (.goto 4, 3) ∧ ((6 : Nat) : Int) + 4 = ((10 : Nat) : Int) := ⟨by decide +kernel, by decide⟩
theorem d_M_sizeOf_9 : decode b_M_sizeOf 9 = .ok (.iload_n 0, 1) ∧ 9 + 1 = 10 := ⟨by decide +kernel, rfl⟩
theorem d_M_sizeOf_10 : decode b_M_sizeOf 10 = .ok (.ireturn, 1) := by decide +kernel
theorem d_M_sumUp_0 : decode b_M_sumUp 0 = .ok (.iconst 0, 1) ∧ 0 + 1 = 1 := ⟨by decide +kernel, rfl⟩
theorem d_M_sumUp_1 : decode b_M_sumUp 1 = .ok (.istore_n 3, 1) ∧ 1 + 1 = 2 := ⟨by decide +kernel, rfl⟩
theorem d_M_sumUp_2 : decode b_M_sumUp 2 = .ok (.iload_n 3, 1) ∧ 2 + 1 = 3 := ⟨by decide +kernel, rfl⟩
theorem d_M_sumUp_3 : decode b_M_sumUp 3 = .ok (.sipush 481, 3) ∧ 3 + 3 = 6 := ⟨by decide +kernel, rfl⟩
theorem d_M_sumUp_6 : decode b_M_sumUp 6 = .ok (.if_icmp .ge 16, 3) ∧ 6 + 3 = 9 ∧ ((6 : Nat) : Int) + 16 = ((22 : Nat) : Int) := ⟨by decide +kernel, rfl, by decide⟩
theorem d_M_sumUp_9 : decode b_M_sumUp 9 = .ok (.aload_n 0, 1) ∧ 9 + 1 = 10 := ⟨by decide +kernel, rfl⟩
theorem d_M_sumUp_10 : decode b_M_sumUp 10 = .ok (.getfield 69, 3) ∧ 10 + 3 = 13 := ⟨by decide +kernel, rfl⟩
theorem d_M_sumUp_13 : decode b_M_sumUp 13 = .ok (.iload_n 3, 1) ∧ 13 + 1 = 14 := ⟨by decide +kernel, rfl⟩
theorem d_M_sumUp_14 : decode b_M_sumUp 14 = .ok (.iconst 0, 1) ∧ 14 + 1 = 15 := ⟨by decide +kernel, rfl⟩
theorem d_M_sumUp_15 : decode b_M_sumUp 15 = .ok (.iastore, 1) ∧ 15 + 1 = 16 := ⟨by decide +kernel, rfl⟩
theorem d_M_sumUp_16 : decode b_M_sumUp 16 = .ok (.iinc 3 1, 3) ∧ 16 + 3 = 19 := ⟨by decide +kernel, rfl⟩
theorem d_M_sumUp_19 : decode b_M_sumUp 19 = .ok (.goto (-17), 3) ∧ ((19 : Nat) : Int) + (-17) = ((2 : Nat) : Int) := ⟨by decide +kernel, by decide⟩
theorem d_M_sumUp_22 : decode b_M_sumUp 22 = .ok (.iconst 0, 1) ∧ 22 + 1 = 23 := ⟨by decide +kernel, rfl⟩
theorem d_M_sumUp_23 : decode b_M_sumUp 23 = .ok (.istore_n 3, 1) ∧ 23 + 1 = 24 := ⟨by decide +kernel, rfl⟩
theorem d_M_sumUp_24 : decode b_M_sumUp 24 = .ok (.iload_n 3, 1) ∧ 24 + 1 = 25 := ⟨by decide +kernel, rfl⟩
theorem d_M_sumUp_25 : decode b_M_sumUp 25 = .ok (.aload_n 0, 1) ∧ 25 + 1 = 26 := ⟨by decide +kernel, rfl⟩
theorem d_M_sumUp_26 : decode b_M_sumUp 26 = .ok (.getfield 13, 3) ∧ 26 + 3 = 29 := ⟨by decide +kernel, rfl⟩
theorem d_M_sumUp_29 : decode b_M_sumUp 29 = .ok (.if_icmp .ge 52, 3) ∧ 29 + 3 = 32 ∧ ((29 : Nat) : Int) + 52 = ((81 : Nat) : Int) := ⟨by decide +kernel, rfl, by decide⟩
theorem d_M_sumUp_32 : decode b_M_sumUp 32 = .ok (.iconst 0, 1) ∧ 32 + 1 = 33 := ⟨by decide +kernel, rfl⟩
theorem d_M_sumUp_33 : decode b_M_sumUp 33 = .ok (.istore 4, 2) ∧ 33 + 2 = 35 := ⟨by decide +kernel, rfl⟩
theorem d_M_sumUp_35 : decode b_M_sumUp 35 = .ok (.iload 4, 2) ∧ 35 + 2 = 37 := ⟨by decide +kernel, rfl⟩
theorem d_M_sumUp_37 : decode b_M_sumUp 37 = .ok (.aload_n 0, 1) ∧ 37 + 1 = 38 := ⟨by decide +kernel, rfl⟩
theorem d_M_sumUp_38 : decode b_M_sumUp 38 = .ok (.getfield 7, 3) ∧ 38 + 3 = 41 := ⟨by decide +kernel, rfl⟩
theorem d_M_sumUp_41 : decode b_M_sumUp 41 = .ok (.if_icmp .ge 34, 3) ∧ 41 + 3 = 44 ∧ ((41 : Nat) : Int) + 34 = ((75 : Nat) : Int) := ⟨by decide +kernel, rfl, by decide⟩
theorem d_M_sumUp_44 : decode b_M_sumUp 44 = .ok (.aload_n 0, 1) ∧ 44 + 1 = 45 := ⟨by decide +kernel, rfl⟩
theorem d_M_sumUp_45 : decode b_M_sumUp 45 = .ok (.getfield 69, 3) ∧ 45 + 3 = 48 := ⟨by decide +kernel, rfl⟩
theorem d_M_sumUp_48 : decode b_M_sumUp 48 = .ok (.aload_n 0, 1) ∧ 48 + 1 = 49 := ⟨by decide +kernel, rfl⟩
theorem d_M_sumUp_49 : decode b_M_sumUp 49 = .ok (.iload_n 1, 1) ∧ 49 + 1 = 50 := ⟨by decide +kernel, rfl⟩
theorem d_M_sumUp_50 : decode b_M_sumUp 50 = .ok (.iload 4, 2) ∧ 50 + 2 = 52 := ⟨by decide +kernel, rfl⟩
theorem d_M_sumUp_52 : decode b_M_sumUp 52 = .ok (.iload_n 3, 1) ∧ 52 + 1 = 53 := ⟨by decide +kernel, rfl⟩
theorem d_M_sumUp_53 : decode b_M_sumUp 53 = .ok (.invokevirtual 120, 3) ∧ 53 + 3 = 56 := ⟨by decide +kernel, rfl⟩
theorem d_M_sumUp_56 : decode b_M_sumUp 56 = .ok (.dup2, 1) ∧ 56 + 1 = 57 := ⟨by decide +kernel, rfl⟩
theorem d_M_sumUp_57 : decode b_M_sumUp 57 = .ok (.iaload, 1) ∧ 57 + 1 = 58 := ⟨by decide +kernel, rfl⟩
theorem d_M_sumUp_58 : decode b_M_sumUp 58 = .ok (.aload_n 2, 1) ∧ 58 + 1 = 59 := ⟨by decide +kernel, rfl⟩
theorem d_M_sumUp_59 : decode b_M_sumUp 59 = .ok (.bipush 16, 2) ∧ 59 + 2 = 61 := ⟨by decide +kernel, rfl⟩
theorem d_M_sumUp_61 : decode b_M_sumUp 61 = .ok (.iload_n 3, 1) ∧ 61 + 1 = 62 := ⟨by decide +kernel, rfl⟩
theorem d_M_sumUp_62 : decode b_M_sumUp 62 = .ok (.imul, 1) ∧ 62 + 1 = 63 := ⟨by decide +kernel, rfl⟩
theorem d_M_sumUp_63 : decode b_M_sumUp 63 = .ok (.iload 4, 2) ∧ 63 + 2 = 65 := ⟨by decide +kernel, rfl⟩
theorem d_M_sumUp_65 : decode b_M_sumUp 65 = .ok (.iadd, 1) ∧ 65 + 1 = 66 := ⟨by decide +kernel, rfl⟩
theorem d_M_sumUp_66 : decode b_M_sumUp 66 = .ok (.iaload, 1) ∧ 66 + 1 = 67 := ⟨by decide +kernel, rfl⟩
theorem d_M_sumUp_67 : decode b_M_sumUp 67 = .ok (.iadd, 1) ∧ 67 + 1 = 68 := ⟨by decide +kernel, rfl⟩
theorem d_M_sumUp_68 : decode b_M_sumUp 68 = .ok (.iastore, 1) ∧ 68 + 1 = 69 := ⟨by decide +kernel, rfl⟩
theorem d_M_sumUp_69 : decode b_M_sumUp 69 = .ok (.iinc 4 1, 3) ∧ 69 + 3 = 72 := ⟨by decide +kernel, rfl⟩
theorem d_M_sumUp_72 : decode b_M_sumUp 72 = .ok (.goto (-37), 3) ∧ ((72 : Nat) : Int) + (-37) = ((35 : Nat) : Int) := ⟨by decide +kernel, by decide⟩
theorem d_M_sumUp_75 : decode b_M_sumUp 75 = .ok (.iinc 3 1, 3) ∧ 75 + 3 = 78 := ⟨by decide +kernel, rfl⟩
theorem d_M_sumUp_78 : decode b_M_sumUp 78 = .ok (.goto (-54), 3) ∧ ((78 : Nat) : Int) + (-54) = ((24 : Nat) : Int) := ⟨by decide +kernel, by decide⟩
theorem d_M_sumUp_81 : decode b_M_sumUp 81 = .ok (.return_, 1) := by decide +kernel
theorem d_M_throwing_0 : decode b_M_throwing 0 = .ok (.aload_n 0, 1) ∧ 0 + 1 = 1 := ⟨by decide +kernel, rfl⟩
theorem d_M_throwing_1 : decode b_M_throwing 1 = .ok (.iload_n 1, 1) ∧ 1 + 1 = 2 := ⟨by decide +kernel, rfl⟩
theorem d_M_throwing_2 : decode b_M_throwing 2 = .ok (.ifCond .eq 7, 3) ∧ 2 + 3 = 5 ∧ ((2 : Nat) : Int) + 7 = ((9 : Nat) : Int) := ⟨by decide +kernel, rfl, by decide⟩
theorem d_M_throwing_5 : decode b_M_throwing 5 = .ok (.iconst 1, 1) ∧ 5 + 1 = 6 := ⟨by decide +kernel, rfl⟩
theorem d_M_throwing_6 : decode b_M_throwing 6 = .ok (.goto 12, 3) ∧ ((6 : Nat) : Int) + 12 = ((18 : Nat) : Int) := ⟨by decide +kernel, by decide⟩
theorem d_M_throwing_9 : decode b_M_throwing 9 = .ok (.iload_n 2, 1) ∧ 9 + 1 = 10 := ⟨by decide +kernel, rfl⟩
theorem d_M_throwing_10 : decode b_M_throwing 10 = .ok (.ifCond .eq 7, 3) ∧ 10 + 3 = 13 ∧ ((10 : Nat) : Int) + 7 = ((17 : Nat) : Int) := ⟨by decide +kernel, rfl, by decide⟩
theorem d_M_throwing_13 : decode b_M_throwing 13 = .ok (.iconst 2, 1) ∧ 13 + 1 = 14 := ⟨by decide +kernel, rfl⟩
theorem d_M_throwing_14 : decode b_M_throwing 14 = .ok (.goto 4, 3) ∧ ((14 : Nat) : Int) + 4 = ((18 : Nat) : Int) := ⟨by decide +kernel, by decide⟩
theorem d_M_throwing_17 : decode b_M_throwing 17 = .ok (.iconst 0, 1) ∧ 17 + 1 = 18 := ⟨by decide +kernel, rfl⟩
theorem d_M_throwing_18 : decode b_M_throwing 18 = .ok (.putfield 81, 3) ∧ 18 + 3 = 21 := ⟨by decide +kernel, rfl⟩
theorem d_M_throwing_21 : decode b_M_throwing 21 = .ok (.aload_n 0, 1) ∧ 21 + 1 = 22 := ⟨by decide +kernel, rfl⟩
theorem d_M_throwing_22 : decode b_M_throwing 22 = .ok (.getfield 81, 3) ∧ 22 + 3 = 25 := ⟨by decide +kernel, rfl⟩
theorem d_M_throwing_25 : decode b_M_throwing 25 = .ok (.ifCond .le 7, 3) ∧ 25 + 3 = 28 ∧ ((25 : Nat) : Int) + 7 = ((32 : Nat) : Int) := ⟨by decide +kernel, rfl, by decide⟩
theorem d_M_throwing_28 : decode b_M_throwing 28 = .ok (.iconst 1, 1) ∧ 28 + 1 = 29 := ⟨by decide +kernel, rfl⟩
theorem d_M_throwing_29 : decode b_M_throwing 29 = .ok (.goto 4, 3) ∧ ((29 : Nat) : Int) + 4 = ((33 : Nat) : Int) := ⟨by decide +kernel, by decide⟩
theorem d_M_throwing_32 : decode b_M_throwing 32 = .ok (.iconst 0, 1) ∧ 32 + 1 = 33 := ⟨by decide +kernel, rfl⟩
theorem d_M_throwing_33 : decode b_M_throwing 33 = .ok (.ireturn, 1) := by decide +kernel
theorem d_M_thrown_0 : decode b_M_thrown 0 = .ok (.aload_n 0, 1) ∧ 0 + 1 = 1 := ⟨by decide +kernel, rfl⟩
theorem d_M_thrown_1 : decode b_M_thrown 1 = .ok (.getfield 81, 3) ∧ 1 + 3 = 4 := ⟨by decide +kernel, rfl⟩
theorem d_M_thrown_4 : decode b_M_thrown 4 = .ok (.ireturn, 1) := by decide +kernel
