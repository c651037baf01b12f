theorem d_M_about_0 : decode b_M_about 0 = .ok (.aload_n 0, 1) ∧ 0 + 1 = 1 := ⟨by decide +kernel, rfl⟩
theorem d_M_about_1 : decode b_M_about 1 = .ok (.iload_n 1, 1) ∧ 1 + 1 = 2 := ⟨by decide +kernel, rfl⟩
theorem d_M_about_2 : decode b_M_about 2 = .ok (.ifCond .eq 12, 3) ∧ 2 + 3 = 5 ∧ ((2 : Nat) : Int) + 12 = ((14 : Nat) : Int) := ⟨by decide +kernel, rfl, by decide⟩
theorem d_M_about_5 : decode b_M_about 5 = .ok (.iload_n 1, 1) ∧ 5 + 1 = 6 := ⟨by decide +kernel, rfl⟩
theorem d_M_about_6 : decode b_M_about 6 = .ok (.iconst 1, 1) ∧ 6 + 1 = 7 := ⟨by decide +kernel, rfl⟩
theorem d_M_about_7 : decode b_M_about 7 = .ok (.if_icmp .eq 7, 3) ∧ 7 + 3 = 10 ∧ ((7 : Nat) : Int) + 7 = ((14 : Nat) : Int) := ⟨by decide +kernel, rfl, by decide⟩
theorem d_M_about_10 : decode b_M_about 10 = .ok (.iconst 1, 1) ∧ 10 + 1 = 11 := ⟨by decide +kernel, rfl⟩
theorem d_M_about_11 : decode b_M_about 11 = .ok (.goto 4, 3) ∧ ((11 : Nat) : Int) + 4 = ((15 : Nat) : Int) := ⟨by decide +kernel, by decide⟩
theorem d_M_about_14 : decode b_M_about 14 = .ok (.iconst 0, 1) ∧ 14 + 1 = 15 := ⟨by decide +kernel, rfl⟩
theorem d_M_about_15 : decode b_M_about 15 = .ok (.iconst 0, 1) ∧ 15 + 1 = 16 := ⟨by decide +kernel, rfl⟩
theorem d_M_about_16 : decode b_M_about 16 = .ok (.invokevirtual 88, 3) ∧ 16 + 3 = 19 := ⟨by decide +kernel, rfl⟩
theorem d_M_about_19 : decode b_M_about 19 = .ok (.ifCond .eq 5, 3) ∧ 19 + 3 = 22 ∧ ((19 : Nat) : Int) + 5 = ((24 : Nat) : Int) := ⟨by decide +kernel, rfl, by decide⟩
theorem d_M_about_22 : decode b_M_about 22 = .ok (.iconst 0, 1) ∧ 22 + 1 = 23 := ⟨by decide +kernel, rfl⟩
theorem d_M_about_23 : decode b_M_about 23 = .ok (.ireturn, 1) := by decide +kernel
theorem d_M_about_24 : decode b_M_about 24 = .ok (.iload_n 1, 1) ∧ 24 + 1 = 25 := ⟨by decide +kernel, rfl⟩
theorem d_M_about_25 : decode b_M_about 25 = .ok (.ifCond .ne 10, 3) ∧ 25 + 3 = 28 ∧ ((25 : Nat) : Int) + 10 = ((35 : Nat) : Int) := ⟨by decide +kernel, rfl, by decide⟩
theorem d_M_about_28 : decode b_M_about 28 = .ok (.aload_n 0, 1) ∧ 28 + 1 = 29 := ⟨by decide +kernel, rfl⟩
theorem d_M_about_29 : decode b_M_about 29 = .ok (.getfield 167, 3) ∧ 29 + 3 = 32 := ⟨by decide +kernel, rfl⟩
theorem d_M_about_32 : decode b_M_about 32 = .ok (.goto 7, 3) ∧ ((32 : Nat) : Int) + 7 = ((39 : Nat) : Int) := ⟨by decide +kernel, by decide⟩
theorem d_M_about_35 : decode b_M_about 35 = .ok (.aload_n 0, 1) ∧ 35 + 1 = 36 := ⟨by decide +kernel, rfl⟩
theorem d_M_about_36 : decode b_M_about 36 = .ok (.getfield 72, 3) ∧ 36 + 3 = 39 := ⟨by decide +kernel, rfl⟩
theorem d_M_about_39 : decode b_M_about 39 = .ok (.ireturn, 1) := by decide +kernel
theorem d_M_add_0 : decode b_M_add 0 = .ok (.aload_n 0, 1) ∧ 0 + 1 = 1 := ⟨by decide +kernel, rfl⟩
theorem d_M_add_1 : decode b_M_add 1 = .ok (.aload_n 0, 1) ∧ 1 + 1 = 2 := ⟨by decide +kernel, rfl⟩
theorem d_M_add_2 : decode b_M_add 2 = .ok (.getfield 92, 3) ∧ 2 + 3 = 5 := ⟨by decide +kernel, rfl⟩
theorem d_M_add_5 : decode b_M_add 5 = .ok (.ifCond .ne 7, 3) ∧ 5 + 3 = 8 ∧ ((5 : Nat) : Int) + 7 = ((12 : Nat) : Int) := ⟨by decide +kernel, rfl, by decide⟩
theorem d_M_add_8 : decode b_M_add 8 = .ok (.iconst 1, 1) ∧ 8 + 1 = 9 := ⟨by decide +kernel, rfl⟩
theorem d_M_add_9 : decode b_M_add 9 = .ok (.goto 4, 3) ∧ ((9 : Nat) : Int) + 4 = ((13 : Nat) : Int) := ⟨by decide +kernel, by decide⟩
theorem d_M_add_12 : decode b_M_add 12 = .ok (.iconst 0, 1) ∧ 12 + 1 = 13 := ⟨by decide +kernel, rfl⟩
theorem d_M_add_13 : decode b_M_add 13 = .ok (.iconst 0, 1) ∧ 13 + 1 = 14 := ⟨by decide +kernel, rfl⟩
theorem d_M_add_14 : decode b_M_add 14 = .ok (.invokevirtual 88, 3) ∧ 14 + 3 = 17 := ⟨by decide +kernel, rfl⟩
theorem d_M_add_17 : decode b_M_add 17 = .ok (.ifCond .eq 5, 3) ∧ 17 + 3 = 20 ∧ ((17 : Nat) : Int) + 5 = ((22 : Nat) : Int) := ⟨by decide +kernel, rfl, by decide⟩
theorem d_M_add_20 : decode b_M_add 20 = .ok (.iconst 0, 1) ∧ 20 + 1 = 21 := ⟨by decide +kernel, rfl⟩
theorem d_M_add_21 : decode b_M_add 21 = .ok (.ireturn, 1) := by decide +kernel
theorem d_M_add_22 : decode b_M_add 22 = .ok (.iconst 0, 1) ∧ 22 + 1 = 23 := ⟨by decide +kernel, rfl⟩
theorem d_M_add_23 : decode b_M_add 23 = .ok (.istore_n 2, 1) ∧ 23 + 1 = 24 := ⟨by decide +kernel, rfl⟩
theorem d_M_add_24 : decode b_M_add 24 = .ok (.iload_n 2, 1) ∧ 24 + 1 = 25 := ⟨by decide +kernel, rfl⟩
theorem d_M_add_25 : decode b_M_add 25 = .ok (.sipush 256, 3) ∧ 25 + 3 = 28 := ⟨by decide +kernel, rfl⟩
theorem d_M_add_28 : decode b_M_add 28 = .ok (.if_icmp .ge 38, 3) ∧ 28 + 3 = 31 ∧ ((28 : Nat) : Int) + 38 = ((66 : Nat) : Int) := ⟨by decide +kernel, rfl, by decide⟩
theorem d_M_add_31 : decode b_M_add 31 = .ok (.aload_n 0, 1) ∧ 31 + 1 = 32 := ⟨by decide +kernel, rfl⟩
theorem d_M_add_32 : decode b_M_add 32 = .ok (.getfield 16, 3) ∧ 32 + 3 = 35 := ⟨by decide +kernel, rfl⟩
theorem d_M_add_35 : decode b_M_add 35 = .ok (.iload_n 2, 1) ∧ 35 + 1 = 36 := ⟨by decide +kernel, rfl⟩
theorem d_M_add_36 : decode b_M_add 36 = .ok (.dup2, 1) ∧ 36 + 1 = 37 := ⟨by decide +kernel, rfl⟩
theorem d_M_add_37 : decode b_M_add 37 = .ok (.iaload, 1) ∧ 37 + 1 = 38 := ⟨by decide +kernel, rfl⟩
theorem d_M_add_38 : decode b_M_add 38 = .ok (.iload_n 1, 1) ∧ 38 + 1 = 39 := ⟨by decide +kernel, rfl⟩
theorem d_M_add_39 : decode b_M_add 39 = .ok (.ifCond .eq 12, 3) ∧ 39 + 3 = 42 ∧ ((39 : Nat) : Int) + 12 = ((51 : Nat) : Int) := ⟨by decide +kernel, rfl, by decide⟩
theorem d_M_add_42 : decode b_M_add 42 = .ok (.aload_n 0, 1) ∧ 42 + 1 = 43 := ⟨by decide +kernel, rfl⟩
theorem d_M_add_43 : decode b_M_add 43 = .ok (.getfield 20, 3) ∧ 43 + 3 = 46 := ⟨by decide +kernel, rfl⟩
theorem d_M_add_46 : decode b_M_add 46 = .ok (.iload_n 2, 1) ∧ 46 + 1 = 47 := ⟨by decide +kernel, rfl⟩
theorem d_M_add_47 : decode b_M_add 47 = .ok (.iaload, 1) ∧ 47 + 1 = 48 := ⟨by decide +kernel, rfl⟩
theorem d_M_add_48 : decode b_M_add 48 = .ok (.goto 10, 3) ∧ ((48 : Nat) : Int) + 10 = ((58 : Nat) : Int) := ⟨by decide +kernel, by decide⟩
theorem d_M_add_51 : decode b_M_add 51 = .ok (.aload_n 0, 1) ∧ 51 + 1 = 52 := ⟨by decide +kernel, rfl⟩
theorem d_M_add_52 : decode b_M_add 52 = .ok (.getfield 20, 3) ∧ 52 + 3 = 55 := ⟨by decide +kernel, rfl⟩
theorem d_M_add_55 : decode b_M_add 55 = .ok (.iload_n 2, 1) ∧ 55 + 1 = 56 := ⟨by decide +kernel, rfl⟩
theorem d_M_add_56 : decode b_M_add 56 = .ok (.iaload, 1) ∧ 56 + 1 = 57 := ⟨by decide +kernel, rfl⟩
theorem d_M_add_57 : decode b_M_add 57 = .ok (.ineg, 1) ∧ 57 + 1 = 58 := ⟨by decide +kernel, rfl⟩
theorem d_M_add_58 : decode b_M_add 58 = .ok (.iadd, 1) ∧ 58 + 1 = 59 := ⟨by decide +kernel, rfl⟩
theorem d_M_add_59 : decode b_M_add 59 = .ok (.iastore, 1) ∧ 59 + 1 = 60 := ⟨by decide +kernel, rfl⟩
theorem d_M_add_60 : decode b_M_add 60 = .ok (.iinc 2 1, 3) ∧ 60 + 3 = 63 := ⟨by decide +kernel, rfl⟩
theorem d_M_add_63 : decode b_M_add 63 = .ok (.goto (-39), 3) ∧ ((63 : Nat) : Int) + (-39) = ((24 : Nat) : Int) := ⟨by decide +kernel, by decide⟩
theorem d_M_add_66 : decode b_M_add 66 = .ok (.iconst 0, 1) ∧ 66 + 1 = 67 := ⟨by decide +kernel, rfl⟩
theorem d_M_add_67 : decode b_M_add 67 = .ok (.istore_n 2, 1) ∧ 67 + 1 = 68 := ⟨by decide +kernel, rfl⟩
theorem d_M_add_68 : decode b_M_add 68 = .ok (.iconst 0, 1) ∧ 68 + 1 = 69 := ⟨by decide +kernel, rfl⟩
theorem d_M_add_69 : decode b_M_add 69 = .ok (.istore_n 3, 1) ∧ 69 + 1 = 70 := ⟨by decide +kernel, rfl⟩
theorem d_M_add_70 : decode b_M_add 70 = .ok (.iload_n 3, 1) ∧ 70 + 1 = 71 := ⟨by decide +kernel, rfl⟩
theorem d_M_add_71 : decode b_M_add 71 = .ok (.bipush 8, 2) ∧ 71 + 2 = 73 := ⟨by decide +kernel, rfl⟩
theorem d_M_add_73 : decode b_M_add 73 = .ok (.if_icmp .ge 174, 3) ∧ 73 + 3 = 76 ∧ ((73 : Nat) : Int) + 174 = ((247 : Nat) : Int) := ⟨by decide +kernel, rfl, by decide⟩
theorem d_M_add_76 : decode b_M_add 76 = .ok (.aload_n 0, 1) ∧ 76 + 1 = 77 := ⟨by decide +kernel, rfl⟩
theorem d_M_add_77 : decode b_M_add 77 = .ok (.getfield 48, 3) ∧ 77 + 3 = 80 := ⟨by decide +kernel, rfl⟩
theorem d_M_add_80 : decode b_M_add 80 = .ok (.iload_n 3, 1) ∧ 80 + 1 = 81 := ⟨by decide +kernel, rfl⟩
theorem d_M_add_81 : decode b_M_add 81 = .ok (.baload, 1) ∧ 81 + 1 = 82 := ⟨by decide +kernel, rfl⟩
theorem d_M_add_82 : decode b_M_add 82 = .ok (.ifCond .eq 46, 3) ∧ 82 + 3 = 85 ∧ ((82 : Nat) : Int) + 46 = ((128 : Nat) : Int) := ⟨by decide +kernel, rfl, by decide⟩
theorem d_M_add_85 : decode b_M_add 85 = .ok (.aload_n 0, 1) ∧ 85 + 1 = 86 := ⟨by decide +kernel, rfl⟩
theorem d_M_add_86 : decode b_M_add 86 = .ok (.getfield 57, 3) ∧ 86 + 3 = 89 := ⟨by decide +kernel, rfl⟩
theorem d_M_add_89 : decode b_M_add 89 = .ok (.iload_n 3, 1) ∧ 89 + 1 = 90 := ⟨by decide +kernel, rfl⟩
theorem d_M_add_90 : decode b_M_add 90 = .ok (.baload, 1) ∧ 90 + 1 = 91 := ⟨by decide +kernel, rfl⟩
theorem d_M_add_91 : decode b_M_add 91 = .ok (.ifCond .eq 37, 3) ∧ 91 + 3 = 94 ∧ ((91 : Nat) : Int) + 37 = ((128 : Nat) : Int) := ⟨by decide +kernel, rfl, by decide⟩
theorem d_M_add_94 : decode b_M_add 94 = .ok (.aload_n 0, 1) ∧ 94 + 1 = 95 := ⟨by decide +kernel, rfl⟩
theorem d_M_add_95 : decode b_M_add 95 = .ok (.getfield 51, 3) ∧ 95 + 3 = 98 := ⟨by decide +kernel, rfl⟩
theorem d_M_add_98 : decode b_M_add 98 = .ok (.iload_n 3, 1) ∧ 98 + 1 = 99 := ⟨by decide +kernel, rfl⟩
theorem d_M_add_99 : decode b_M_add 99 = .ok (.iaload, 1) ∧ 99 + 1 = 100 := ⟨by decide +kernel, rfl⟩
theorem d_M_add_100 : decode b_M_add 100 = .ok (.aload_n 0, 1) ∧ 100 + 1 = 101 := ⟨by decide +kernel, rfl⟩
theorem d_M_add_101 : decode b_M_add 101 = .ok (.getfield 36, 3) ∧ 101 + 3 = 104 := ⟨by decide +kernel, rfl⟩
theorem d_M_add_104 : decode b_M_add 104 = .ok (.iload_n 3, 1) ∧ 104 + 1 = 105 := ⟨by decide +kernel, rfl⟩
theorem d_M_add_105 : decode b_M_add 105 = .ok (.iaload, 1) ∧ 105 + 1 = 106 := ⟨by decide +kernel, rfl⟩
theorem d_M_add_106 : decode b_M_add 106 = .ok (.if_icmp .ne 22, 3) ∧ 106 + 3 = 109 ∧ ((106 : Nat) : Int) + 22 = ((128 : Nat) : Int) := ⟨by decide +kernel, rfl, by decide⟩
theorem d_M_add_109 : decode b_M_add 109 = .ok (.aload_n 0, 1) ∧ 109 + 1 = 110 := ⟨by decide +kernel, rfl⟩
theorem d_M_add_110 : decode b_M_add 110 = .ok (.getfield 54, 3) ∧ 110 + 3 = 113 := ⟨by decide +kernel, rfl⟩
theorem d_M_add_113 : decode b_M_add 113 = .ok (.iload_n 3, 1) ∧ 113 + 1 = 114 := ⟨by decide +kernel, rfl⟩
theorem d_M_add_114 : decode b_M_add 114 = .ok (.iaload, 1) ∧ 114 + 1 = 115 := ⟨by decide +kernel, rfl⟩
theorem d_M_add_115 : decode b_M_add 115 = .ok (.aload_n 0, 1) ∧ 115 + 1 = 116 := ⟨by decide +kernel, rfl⟩
theorem d_M_add_116 : decode b_M_add 116 = .ok (.getfield 39, 3) ∧ 116 + 3 = 119 := ⟨by decide +kernel, rfl⟩
theorem d_M_add_119 : decode b_M_add 119 = .ok (.iload_n 3, 1) ∧ 119 + 1 = 120 := ⟨by decide +kernel, rfl⟩
theorem d_M_add_120 : decode b_M_add 120 = .ok (.iaload, 1) ∧ 120 + 1 = 121 := ⟨by decide +kernel, rfl⟩
theorem d_M_add_121 : decode b_M_add 121 = .ok (.if_icmp .ne 7, 3) ∧ 121 + 3 = 124 ∧ ((121 : Nat) : Int) + 7 = ((128 : Nat) : Int) := ⟨by decide +kernel, rfl, by decide⟩
theorem d_M_add_124 : decode b_M_add 124 = .ok (.iconst 1, 1) ∧ 124 + 1 = 125 := ⟨by decide +kernel, rfl⟩
theorem d_M_add_125 : decode b_M_add 125 = .ok (.goto 4, 3) ∧ ((125 : Nat) : Int) + 4 = ((129 : Nat) : Int) := ⟨by decide +kernel, by decide⟩
theorem d_M_add_128 : decode b_M_add 128 = .ok (.iconst 0, 1) ∧ 128 + 1 = 129 := ⟨by decide +kernel, rfl⟩
theorem d_M_add_129 : decode b_M_add 129 = .ok (.istore 4, 2) ∧ 129 + 2 = 131 := ⟨by decide +kernel, rfl⟩
theorem d_M_add_131 : decode b_M_add 131 = .ok (.aload_n 0, 1) ∧ 131 + 1 = 132 := ⟨by decide +kernel, rfl⟩
theorem d_M_add_132 : decode b_M_add 132 = .ok (.getfield 42, 3) ∧ 132 + 3 = 135 := ⟨by decide +kernel, rfl⟩
theorem d_M_add_135 : decode b_M_add 135 = .ok (.iload_n 3, 1) ∧ 135 + 1 = 136 := ⟨by decide +kernel, rfl⟩
theorem d_M_add_136 : decode b_M_add 136 = .ok (.aload_n 0, 1) ∧ 136 + 1 = 137 := ⟨by decide +kernel, rfl⟩
theorem d_M_add_137 : decode b_M_add 137 = .ok (.getfield 42, 3) ∧ 137 + 3 = 140 := ⟨by decide +kernel, rfl⟩
theorem d_M_add_140 : decode b_M_add 140 = .ok (.iload_n 3, 1) ∧ 140 + 1 = 141 := ⟨by decide +kernel, rfl⟩
theorem d_M_add_141 : decode b_M_add 141 = .ok (.baload, 1) ∧ 141 + 1 = 142 := ⟨by decide +kernel, rfl⟩
theorem d_M_add_142 : decode b_M_add 142 = .ok (.ifCond .eq 12, 3) ∧ 142 + 3 = 145 ∧ ((142 : Nat) : Int) + 12 = ((154 : Nat) : Int) := ⟨by decide +kernel, rfl, by decide⟩
theorem d_M_add_145 : decode b_M_add 145 = .ok (.iload 4, 2) ∧ 145 + 2 = 147 := ⟨by decide +kernel, rfl⟩
theorem d_M_add_147 : decode b_M_add 147 = .ok (.ifCond .eq 7, 3) ∧ 147 + 3 = 150 ∧ ((147 : Nat) : Int) + 7 = ((154 : Nat) : Int) := ⟨by decide +kernel, rfl, by decide⟩
theorem d_M_add_150 : decode b_M_add 150 = .ok (.iconst 1, 1) ∧ 150 + 1 = 151 := ⟨by decide +kernel, rfl⟩
theorem d_M_add_151 : decode b_M_add 151 = .ok (.goto 4, 3) ∧ ((151 : Nat) : Int) + 4 = ((155 : Nat) : Int) := ⟨by decide +kernel, by decide⟩
theorem d_M_add_154 : decode b_M_add 154 = .ok (.iconst 0, 1) ∧ 154 + 1 = 155 := ⟨by decide +kernel, rfl⟩
theorem d_M_add_155 : decode b_M_add 155 = .ok (.bastore, 1) ∧ 155 + 1 = 156 := ⟨by decide +kernel, rfl⟩
theorem d_M_add_156 : decode b_M_add 156 = .ok (.sipush 481, 3) ∧ 156 + 3 = 159 := ⟨by decide +kernel, rfl⟩
theorem d_M_add_159 : decode b_M_add 159 = .ok (.iload_n 3, 1) ∧ 159 + 1 = 160 := ⟨by decide +kernel, rfl⟩
theorem d_M_add_160 : decode b_M_add 160 = .ok (.imul, 1) ∧ 160 + 1 = 161 := ⟨by decide +kernel, rfl⟩
theorem d_M_add_161 : decode b_M_add 161 = .ok (.istore 5, 2) ∧ 161 + 2 = 163 := ⟨by decide +kernel, rfl⟩
theorem d_M_add_163 : decode b_M_add 163 = .ok (.iload 5, 2) ∧ 163 + 2 = 165 := ⟨by decide +kernel, rfl⟩
theorem d_M_add_165 : decode b_M_add 165 = .ok (.sipush 481, 3) ∧ 165 + 3 = 168 := ⟨by decide +kernel, rfl⟩
theorem d_M_add_168 : decode b_M_add 168 = .ok (.iload_n 3, 1) ∧ 168 + 1 = 169 := ⟨by decide +kernel, rfl⟩
theorem d_M_add_169 : decode b_M_add 169 = .ok (.imul, 1) ∧ 169 + 1 = 170 := ⟨by decide +kernel, rfl⟩
theorem d_M_add_170 : decode b_M_add 170 = .ok (.sipush 481, 3) ∧ 170 + 3 = 173 := ⟨by decide +kernel, rfl⟩
theorem d_M_add_173 : decode b_M_add 173 = .ok (.iadd, 1) ∧ 173 + 1 = 174 := ⟨by decide +kernel, rfl⟩
theorem d_M_add_174 : decode b_M_add 174 = .ok (.if_icmp .ge 50, 3) ∧ 174 + 3 = 177 ∧ ((174 : Nat) : Int) + 50 = ((224 : Nat) : Int) := ⟨by decide +kernel, rfl, by decide⟩
theorem d_M_add_177 : decode b_M_add 177 = .ok (.aload_n 0, 1) ∧ 177 + 1 = 178 := ⟨by decide +kernel, rfl⟩
theorem d_M_add_178 : decode b_M_add 178 = .ok (.getfield 42, 3) ∧ 178 + 3 = 181 := ⟨by decide +kernel, rfl⟩
theorem d_M_add_181 : decode b_M_add 181 = .ok (.iload_n 3, 1) ∧ 181 + 1 = 182 := ⟨by decide +kernel, rfl⟩
theorem d_M_add_182 : decode b_M_add 182 = .ok (.baload, 1) ∧ 182 + 1 = 183 := ⟨by decide +kernel, rfl⟩
theorem d_M_add_183 : decode b_M_add 183 = .ok (.ifCond .eq 41, 3) ∧ 183 + 3 = 186 ∧ ((183 : Nat) : Int) + 41 = ((224 : Nat) : Int) := ⟨by decide +kernel, rfl, by decide⟩
theorem d_M_add_186 : decode b_M_add 186 = .ok (.aload_n 0, 1) ∧ 186 + 1 = 187 := ⟨by decide +kernel, rfl⟩
theorem d_M_add_187 : decode b_M_add 187 = .ok (.getfield 45, 3) ∧ 187 + 3 = 190 := ⟨by decide +kernel, rfl⟩
theorem d_M_add_190 : decode b_M_add 190 = .ok (.iload 5, 2) ∧ 190 + 2 = 192 := ⟨by decide +kernel, rfl⟩
theorem d_M_add_192 : decode b_M_add 192 = .ok (.dup2, 1) ∧ 192 + 1 = 193 := ⟨by decide +kernel, rfl⟩
theorem d_M_add_193 : decode b_M_add 193 = .ok (.iaload, 1) ∧ 193 + 1 = 194 := ⟨by decide +kernel, rfl⟩
theorem d_M_add_194 : decode b_M_add 194 = .ok (.iload_n 1, 1) ∧ 194 + 1 = 195 := ⟨by decide +kernel, rfl⟩
theorem d_M_add_195 : decode b_M_add 195 = .ok (.ifCond .eq 13, 3) ∧ 195 + 3 = 198 ∧ ((195 : Nat) : Int) + 13 = ((208 : Nat) : Int) := ⟨by decide +kernel, rfl, by decide⟩
theorem d_M_add_198 : decode b_M_add 198 = .ok (.aload_n 0, 1) ∧ 198 + 1 = 199 := ⟨by decide +kernel, rfl⟩
theorem d_M_add_199 : decode b_M_add 199 = .ok (.getfield 60, 3) ∧ 199 + 3 = 202 := ⟨by decide +kernel, rfl⟩
theorem d_M_add_202 : decode b_M_add 202 = .ok (.iload 5, 2) ∧ 202 + 2 = 204 := ⟨by decide +kernel, rfl⟩
theorem d_M_add_204 : decode b_M_add 204 = .ok (.iaload, 1) ∧ 204 + 1 = 205 := ⟨by decide +kernel, rfl⟩
theorem d_M_add_205 : decode b_M_add 205 = .ok (.goto 11, 3) ∧ ((205 : Nat) : Int) + 11 = ((216 : Nat) : Int) := ⟨by decide +kernel, by decide⟩
theorem d_M_add_208 : decode b_M_add 208 = .ok (.aload_n 0, 1) ∧ 208 + 1 = 209 := ⟨by decide +kernel, rfl⟩
theorem d_M_add_209 : decode b_M_add 209 = .ok (.getfield 60, 3) ∧ 209 + 3 = 212 := ⟨by decide +kernel, rfl⟩
theorem d_M_add_212 : decode b_M_add 212 = .ok (.iload 5, 2) ∧ 212 + 2 = 214 := ⟨by decide +kernel, rfl⟩
theorem d_M_add_214 : decode b_M_add 214 = .ok (.iaload, 1) ∧ 214 + 1 = 215 := ⟨by decide +kernel, rfl⟩
theorem d_M_add_215 : decode b_M_add 215 = .ok (.ineg, 1) ∧ 215 + 1 = 216 := ⟨by decide +kernel, rfl⟩
theorem d_M_add_216 : decode b_M_add 216 = .ok (.iadd, 1) ∧ 216 + 1 = 217 := ⟨by decide +kernel, rfl⟩
theorem d_M_add_217 : decode b_M_add 217 = .ok (.iastore, 1) ∧ 217 + 1 = 218 := ⟨by decide +kernel, rfl⟩
theorem d_M_add_218 : decode b_M_add 218 = .ok (.iinc 5 1, 3) ∧ 218 + 3 = 221 := ⟨by decide +kernel, rfl⟩
theorem d_M_add_221 : decode b_M_add 221 = .ok (.goto (-58), 3) ∧ ((221 : Nat) : Int) + (-58) = ((163 : Nat) : Int) := ⟨by decide +kernel, by decide⟩
theorem d_M_add_224 : decode b_M_add 224 = .ok (.iload_n 2, 1) ∧ 224 + 1 = 225 := ⟨by decide +kernel, rfl⟩
theorem d_M_add_225 : decode b_M_add 225 = .ok (.aload_n 0, 1) ∧ 225 + 1 = 226 := ⟨by decide +kernel, rfl⟩
theorem d_M_add_226 : decode b_M_add 226 = .ok (.getfield 42, 3) ∧ 226 + 3 = 229 := ⟨by decide +kernel, rfl⟩
theorem d_M_add_229 : decode b_M_add 229 = .ok (.iload_n 3, 1) ∧ 229 + 1 = 230 := ⟨by decide +kernel, rfl⟩
theorem d_M_add_230 : decode b_M_add 230 = .ok (.baload, 1) ∧ 230 + 1 = 231 := ⟨by decide +kernel, rfl⟩
theorem d_M_add_231 : decode b_M_add 231 = .ok (.ifCond .eq 7, 3) ∧ 231 + 3 = 234 ∧ ((231 : Nat) : Int) + 7 = ((238 : Nat) : Int) := ⟨by decide +kernel, rfl, by decide⟩
theorem d_M_add_234 : decode b_M_add 234 = .ok (.iconst 1, 1) ∧ 234 + 1 = 235 := ⟨by decide +kernel, rfl⟩
theorem d_M_add_235 : decode b_M_add 235 = .ok (.goto 4, 3) ∧ ((235 : Nat) : Int) + 4 = ((239 : Nat) : Int) := ⟨by decide +kernel, by decide⟩
theorem d_M_add_238 : decode b_M_add 238 = .ok (.iconst 0, 1) ∧ 238 + 1 = 239 := ⟨by decide +kernel, rfl⟩
theorem d_M_add_239 : decode b_M_add 239 = .ok (.iadd, 1) ∧ 239 + 1 = 240 := ⟨by decide +kernel, rfl⟩
theorem d_M_add_240 : decode b_M_add 240 = .ok (.istore_n 2, 1) ∧ 240 + 1 = 241 := ⟨by decide +kernel, rfl⟩
theorem d_M_add_241 : decode b_M_add 241 = .ok (.iinc 3 1, 3) ∧ 241 + 3 = 244 := ⟨by decide +kernel, rfl⟩
theorem d_M_add_244 : decode b_M_add 244 = .ok (.goto (-174), 3) ∧ ((244 : Nat) : Int) + (-174) = ((70 : Nat) : Int) := ⟨by decide +kernel, by decide⟩
theorem d_M_add_247 : decode b_M_add 247 = .ok (.iload_n 2, 1) ∧ 247 + 1 = 248 := ⟨by decide +kernel, rfl⟩
theorem d_M_add_248 : decode b_M_add 248 = .ok (.ireturn, 1) := by decide +kernel
theorem d_M_areEnough_0 : decode b_M_areEnough 0 = .ok (.iconst 0, 1) ∧ 0 + 1 = 1 := ⟨by decide +kernel, rfl⟩
theorem d_M_areEnough_1 : decode b_M_areEnough 1 = .ok (.istore_n 2, 1) ∧ 1 + 1 = 2 := ⟨by decide +kernel, rfl⟩
theorem d_M_areEnough_2 : decode b_M_areEnough 2 = .ok (.iconst 0, 1) ∧ 2 + 1 = 3 := ⟨by decide +kernel, rfl⟩
theorem d_M_areEnough_3 : decode b_M_areEnough 3 = .ok (.istore_n 3, 1) ∧ 3 + 1 = 4 := ⟨by decide +kernel, rfl⟩
theorem d_M_areEnough_4 : decode b_M_areEnough 4 = .ok (.iconst 0, 1) ∧ 4 + 1 = 5 := ⟨by decide +kernel, rfl⟩
theorem d_M_areEnough_5 : decode b_M_areEnough 5 = .ok (.istore 4, 2) ∧ 5 + 2 = 7 := ⟨by decide +kernel, rfl⟩
theorem d_M_areEnough_7 : decode b_M_areEnough 7 = .ok (.iload 4, 2) ∧ 7 + 2 = 9 := ⟨by decide +kernel, rfl⟩
theorem d_M_areEnough_9 : decode b_M_areEnough 9 = .ok (.bipush 8, 2) ∧ 9 + 2 = 11 := ⟨by decide +kernel, rfl⟩
theorem d_M_areEnough_11 : decode b_M_areEnough 11 = .ok (.if_icmp .ge 45, 3) ∧ 11 + 3 = 14 ∧ ((11 : Nat) : Int) + 45 = ((56 : Nat) : Int) := ⟨by decide +kernel, rfl, by decide⟩
theorem d_M_areEnough_14 : decode b_M_areEnough 14 = .ok (.aload_n 0, 1) ∧ 14 + 1 = 15 := ⟨by decide +kernel, rfl⟩
theorem d_M_areEnough_15 : decode b_M_areEnough 15 = .ok (.iload_n 1, 1) ∧ 15 + 1 = 16 := ⟨by decide +kernel, rfl⟩
theorem d_M_areEnough_16 : decode b_M_areEnough 16 = .ok (.iload 4, 2) ∧ 16 + 2 = 18 := ⟨by decide +kernel, rfl⟩
theorem d_M_areEnough_18 : decode b_M_areEnough 18 = .ok (.invokevirtual 134, 3) ∧ 18 + 3 = 21 := ⟨by decide +kernel, rfl⟩
theorem d_M_areEnough_21 : decode b_M_areEnough 21 = .ok (.ifCond .ne 6, 3) ∧ 21 + 3 = 24 ∧ ((21 : Nat) : Int) + 6 = ((27 : Nat) : Int) := ⟨by decide +kernel, rfl, by decide⟩
theorem d_M_areEnough_24 : decode b_M_areEnough 24 = .ok (.goto 26, 3) ∧ ((24 : Nat) : Int) + 26 = ((50 : Nat) : Int) := ⟨by decide +kernel, by decide⟩
theorem d_M_areEnough_27 : decode b_M_areEnough 27 = .ok (.iload_n 2, 1) ∧ 27 + 1 = 28 := ⟨by decide +kernel, rfl⟩
theorem d_M_areEnough_28 : decode b_M_areEnough 28 = .ok (.aload_n 0, 1) ∧ 28 + 1 = 29 := ⟨by decide +kernel, rfl⟩
theorem d_M_areEnough_29 : decode b_M_areEnough 29 = .ok (.getfield 36, 3) ∧ 29 + 3 = 32 := ⟨by decide +kernel, rfl⟩
theorem d_M_areEnough_32 : decode b_M_areEnough 32 = .ok (.iload 4, 2) ∧ 32 + 2 = 34 := ⟨by decide +kernel, rfl⟩
theorem d_M_areEnough_34 : decode b_M_areEnough 34 = .ok (.iaload, 1) ∧ 34 + 1 = 35 := ⟨by decide +kernel, rfl⟩
theorem d_M_areEnough_35 : decode b_M_areEnough 35 = .ok (.invokestatic 110, 3) ∧ 35 + 3 = 38 := ⟨by decide +kernel, rfl⟩
theorem d_M_areEnough_38 : decode b_M_areEnough 38 = .ok (.iadd, 1) ∧ 38 + 1 = 39 := ⟨by decide +kernel, rfl⟩
theorem d_M_areEnough_39 : decode b_M_areEnough 39 = .ok (.istore_n 2, 1) ∧ 39 + 1 = 40 := ⟨by decide +kernel, rfl⟩
theorem d_M_areEnough_40 : decode b_M_areEnough 40 = .ok (.iload_n 3, 1) ∧ 40 + 1 = 41 := ⟨by decide +kernel, rfl⟩
theorem d_M_areEnough_41 : decode b_M_areEnough 41 = .ok (.aload_n 0, 1) ∧ 41 + 1 = 42 := ⟨by decide +kernel, rfl⟩
theorem d_M_areEnough_42 : decode b_M_areEnough 42 = .ok (.getfield 39, 3) ∧ 42 + 3 = 45 := ⟨by decide +kernel, rfl⟩
theorem d_M_areEnough_45 : decode b_M_areEnough 45 = .ok (.iload 4, 2) ∧ 45 + 2 = 47 := ⟨by decide +kernel, rfl⟩
theorem d_M_areEnough_47 : decode b_M_areEnough 47 = .ok (.iaload, 1) ∧ 47 + 1 = 48 := ⟨by decide +kernel, rfl⟩
theorem d_M_areEnough_48 : decode b_M_areEnough 48 = .ok (.iadd, 1) ∧ 48 + 1 = 49 := ⟨by decide +kernel, rfl⟩
theorem d_M_areEnough_49 : decode b_M_areEnough 49 = .ok (.istore_n 3, 1) ∧ 49 + 1 = 50 := ⟨by decide +kernel, rfl⟩
theorem d_M_areEnough_50 : decode b_M_areEnough 50 = .ok (.iinc 4 1, 3) ∧ 50 + 3 = 53 := ⟨by decide +kernel, rfl⟩
theorem d_M_areEnough_53 : decode b_M_areEnough 53 = .ok (.goto (-46), 3) ∧ ((53 : Nat) : Int) + (-46) = ((7 : Nat) : Int) := ⟨by decide +kernel, by decide⟩
theorem d_M_areEnough_56 : decode b_M_areEnough 56 = .ok (.iload_n 2, 1) ∧ 56 + 1 = 57 := ⟨by decide +kernel, rfl⟩
theorem d_M_areEnough_57 : decode b_M_areEnough 57 = .ok (.aload_n 0, 1) ∧ 57 + 1 = 58 := ⟨by decide +kernel, rfl⟩
theorem d_M_areEnough_58 : decode b_M_areEnough 58 = .ok (.getfield 7, 3) ∧ 58 + 3 = 61 := ⟨by decide +kernel, rfl⟩
theorem d_M_areEnough_61 : decode b_M_areEnough 61 = .ok (.if_icmp .ge 11, 3) ∧ 61 + 3 = 64 ∧ ((61 : Nat) : Int) + 11 = ((72 : Nat) : Int) := ⟨by decide +kernel, rfl, by decide⟩
theorem d_M_areEnough_64 : decode b_M_areEnough 64 = .ok (.iload_n 3, 1) ∧ 64 + 1 = 65 := ⟨by decide +kernel, rfl⟩
theorem d_M_areEnough_65 : decode b_M_areEnough 65 = .ok (.aload_n 0, 1) ∧ 65 + 1 = 66 := ⟨by decide +kernel, rfl⟩
theorem d_M_areEnough_66 : decode b_M_areEnough 66 = .ok (.getfield 13, 3) ∧ 66 + 3 = 69 := ⟨by decide +kernel, rfl⟩
theorem d_M_areEnough_69 : decode b_M_areEnough 69 = .ok (.if_icmp .lt 7, 3) ∧ 69 + 3 = 72 ∧ ((69 : Nat) : Int) + 7 = ((76 : Nat) : Int) := ⟨by decide +kernel, rfl, by decide⟩
theorem d_M_areEnough_72 : decode b_M_areEnough 72 = .ok (.iconst 1, 1) ∧ 72 + 1 = 73 := ⟨by decide +kernel, rfl⟩
theorem d_M_areEnough_73 : decode b_M_areEnough 73 = .ok (.goto 4, 3) ∧ ((73 : Nat) : Int) + 4 = ((77 : Nat) : Int) := ⟨by decide +kernel, by decide⟩
theorem d_M_areEnough_76 : decode b_M_areEnough 76 = .ok (.iconst 0, 1) ∧ 76 + 1 = 77 := ⟨by decide +kernel, rfl⟩
theorem d_M_areEnough_77 : decode b_M_areEnough 77 = .ok (.ireturn, 1) := by decide +kernel
theorem d_M_areOfOne_0 : decode b_M_areOfOne 0 = .ok (.aload_n 0, 1) ∧ 0 + 1 = 1 := ⟨by decide +kernel, rfl⟩
theorem d_M_areOfOne_1 : decode b_M_areOfOne 1 = .ok (.iload_n 1, 1) ∧ 1 + 1 = 2 := ⟨by decide +kernel, rfl⟩
theorem d_M_areOfOne_2 : decode b_M_areOfOne 2 = .ok (.invokevirtual 164, 3) ∧ 2 + 3 = 5 := ⟨by decide +kernel, rfl⟩
theorem d_M_areOfOne_5 : decode b_M_areOfOne 5 = .ok (.ifCond .eq 17, 3) ∧ 5 + 3 = 8 ∧ ((5 : Nat) : Int) + 17 = ((22 : Nat) : Int) := ⟨by decide +kernel, rfl, by decide⟩
theorem d_M_areOfOne_8 : decode b_M_areOfOne 8 = .ok (.aload_n 0, 1) ∧ 8 + 1 = 9 := ⟨by decide +kernel, rfl⟩
theorem d_M_areOfOne_9 : decode b_M_areOfOne 9 = .ok (.iload_n 1, 1) ∧ 9 + 1 = 10 := ⟨by decide +kernel, rfl⟩
theorem d_M_areOfOne_10 : decode b_M_areOfOne 10 = .ok (.invokevirtual 170, 3) ∧ 10 + 3 = 13 := ⟨by decide +kernel, rfl⟩
theorem d_M_areOfOne_13 : decode b_M_areOfOne 13 = .ok (.bipush 99, 2) ∧ 13 + 2 = 15 := ⟨by decide +kernel, rfl⟩
theorem d_M_areOfOne_15 : decode b_M_areOfOne 15 = .ok (.if_icmp .ne 7, 3) ∧ 15 + 3 = 18 ∧ ((15 : Nat) : Int) + 7 = ((22 : Nat) : Int) := ⟨by decide +kernel, rfl, by decide⟩
theorem d_M_areOfOne_18 : decode b_M_areOfOne 18 = .ok (.iconst 1, 1) ∧ 18 + 1 = 19 := ⟨by decide +kernel, rfl⟩
theorem d_M_areOfOne_19 : decode b_M_areOfOne 19 = .ok (.goto 4, 3) ∧ ((19 : Nat) : Int) + 4 = ((23 : Nat) : Int) := ⟨by decide +kernel, by decide⟩
theorem d_M_areOfOne_22 : decode b_M_areOfOne 22 = .ok (.iconst 0, 1) ∧ 22 + 1 = 23 := ⟨by decide +kernel, rfl⟩
theorem d_M_areOfOne_23 : decode b_M_areOfOne 23 = .ok (.ireturn, 1) := by decide +kernel
theorem d_M_audit_0 : decode b_M_audit 0 = .ok (.aload_n 0, 1) ∧ 0 + 1 = 1 := ⟨by decide +kernel, rfl⟩
theorem d_M_audit_1 : decode b_M_audit 1 = .ok (.iconst 0, 1) ∧ 1 + 1 = 2 := ⟨by decide +kernel, rfl⟩
theorem d_M_audit_2 : decode b_M_audit 2 = .ok (.putfield 81, 3) ∧ 2 + 3 = 5 := ⟨by decide +kernel, rfl⟩
theorem d_M_audit_5 : decode b_M_audit 5 = .ok (.aload_n 0, 1) ∧ 5 + 1 = 6 := ⟨by decide +kernel, rfl⟩
theorem d_M_audit_6 : decode b_M_audit 6 = .ok (.invokevirtual 173, 3) ∧ 6 + 3 = 9 := ⟨by decide +kernel, rfl⟩
theorem d_M_audit_9 : decode b_M_audit 9 = .ok (.istore_n 1, 1) ∧ 9 + 1 = 10 := ⟨by decide +kernel, rfl⟩
theorem d_M_audit_10 : decode b_M_audit 10 = .ok (.aload_n 0, 1) ∧ 10 + 1 = 11 := ⟨by decide +kernel, rfl⟩
theorem d_M_audit_11 : decode b_M_audit 11 = .ok (.iload_n 1, 1) ∧ 11 + 1 = 12 := ⟨by decide +kernel, rfl⟩
theorem d_M_audit_12 : decode b_M_audit 12 = .ok (.invokevirtual 177, 3) ∧ 12 + 3 = 15 := ⟨by decide +kernel, rfl⟩
theorem d_M_audit_15 : decode b_M_audit 15 = .ok (.ifCond .eq 5, 3) ∧ 15 + 3 = 18 ∧ ((15 : Nat) : Int) + 5 = ((20 : Nat) : Int) := ⟨by decide +kernel, rfl, by decide⟩
theorem d_M_audit_18 : decode b_M_audit 18 = .ok (.iconst (-1), 1) ∧ 18 + 1 = 19 := ⟨by decide +kernel, rfl⟩
theorem d_M_audit_19 : decode b_M_audit 19 = .ok (.ireturn, 1) := by decide +kernel
theorem d_M_audit_20 : decode b_M_audit 20 = .ok (.iconst 0, 1) ∧ 20 + 1 = 21 := ⟨by decide +kernel, rfl⟩
theorem d_M_audit_21 : decode b_M_audit 21 = .ok (.istore_n 2, 1) ∧ 21 + 1 = 22 := ⟨by decide +kernel, rfl⟩
theorem d_M_audit_22 : decode b_M_audit 22 = .ok (.iload_n 2, 1) ∧ 22 + 1 = 23 := ⟨by decide +kernel, rfl⟩
theorem d_M_audit_23 : decode b_M_audit 23 = .ok (.bipush 8, 2) ∧ 23 + 2 = 25 := ⟨by decide +kernel, rfl⟩
theorem d_M_audit_25 : decode b_M_audit 25 = .ok (.if_icmp .ge 32, 3) ∧ 25 + 3 = 28 ∧ ((25 : Nat) : Int) + 32 = ((57 : Nat) : Int) := ⟨by decide +kernel, rfl, by decide⟩
theorem d_M_audit_28 : decode b_M_audit 28 = .ok (.aload_n 0, 1) ∧ 28 + 1 = 29 := ⟨by decide +kernel, rfl⟩
theorem d_M_audit_29 : decode b_M_audit 29 = .ok (.getfield 42, 3) ∧ 29 + 3 = 32 := ⟨by decide +kernel, rfl⟩
theorem d_M_audit_32 : decode b_M_audit 32 = .ok (.iload_n 2, 1) ∧ 32 + 1 = 33 := ⟨by decide +kernel, rfl⟩
theorem d_M_audit_33 : decode b_M_audit 33 = .ok (.baload, 1) ∧ 33 + 1 = 34 := ⟨by decide +kernel, rfl⟩
theorem d_M_audit_34 : decode b_M_audit 34 = .ok (.ifCond .eq 17, 3) ∧ 34 + 3 = 37 ∧ ((34 : Nat) : Int) + 17 = ((51 : Nat) : Int) := ⟨by decide +kernel, rfl, by decide⟩
theorem d_M_audit_37 : decode b_M_audit 37 = .ok (.aload_n 0, 1) ∧ 37 + 1 = 38 := ⟨by decide +kernel, rfl⟩
theorem d_M_audit_38 : decode b_M_audit 38 = .ok (.iload_n 1, 1) ∧ 38 + 1 = 39 := ⟨by decide +kernel, rfl⟩
theorem d_M_audit_39 : decode b_M_audit 39 = .ok (.iconst 1, 1) ∧ 39 + 1 = 40 := ⟨by decide +kernel, rfl⟩
theorem d_M_audit_40 : decode b_M_audit 40 = .ok (.iload_n 2, 1) ∧ 40 + 1 = 41 := ⟨by decide +kernel, rfl⟩
theorem d_M_audit_41 : decode b_M_audit 41 = .ok (.ishl, 1) ∧ 41 + 1 = 42 := ⟨by decide +kernel, rfl⟩
theorem d_M_audit_42 : decode b_M_audit 42 = .ok (.isub, 1) ∧ 42 + 1 = 43 := ⟨by decide +kernel, rfl⟩
theorem d_M_audit_43 : decode b_M_audit 43 = .ok (.invokevirtual 177, 3) ∧ 43 + 3 = 46 := ⟨by decide +kernel, rfl⟩
theorem d_M_audit_46 : decode b_M_audit 46 = .ok (.ifCond .eq 5, 3) ∧ 46 + 3 = 49 ∧ ((46 : Nat) : Int) + 5 = ((51 : Nat) : Int) := ⟨by decide +kernel, rfl, by decide⟩
theorem d_M_audit_49 : decode b_M_audit 49 = .ok (.iload_n 2, 1) ∧ 49 + 1 = 50 := ⟨by decide +kernel, rfl⟩
theorem d_M_audit_50 : decode b_M_audit 50 = .ok (.ireturn, 1) := by decide +kernel
theorem d_M_audit_51 : decode b_M_audit 51 = .ok (.iinc 2 1, 3) ∧ 51 + 3 = 54 := ⟨by decide +kernel, rfl⟩
theorem d_M_audit_54 : decode b_M_audit 54 = .ok (.goto (-32), 3) ∧ ((54 : Nat) : Int) + (-32) = ((22 : Nat) : Int) := ⟨by decide +kernel, by decide⟩
theorem d_M_audit_57 : decode b_M_audit 57 = .ok (.bipush 99, 2) ∧ 57 + 2 = 59 := ⟨by decide +kernel, rfl⟩
theorem d_M_audit_59 : decode b_M_audit 59 = .ok (.ireturn, 1) := by decide +kernel
theorem d_M_beginTry_0 : decode b_M_beginTry 0 = .ok (.aload_n 0, 1) ∧ 0 + 1 = 1 := ⟨by decide +kernel, rfl⟩
theorem d_M_beginTry_1 : decode b_M_beginTry 1 = .ok (.iconst 0, 1) ∧ 1 + 1 = 2 := ⟨by decide +kernel, rfl⟩
theorem d_M_beginTry_2 : decode b_M_beginTry 2 = .ok (.putfield 143, 3) ∧ 2 + 3 = 5 := ⟨by decide +kernel, rfl⟩
theorem d_M_beginTry_5 : decode b_M_beginTry 5 = .ok (.iconst 0, 1) ∧ 5 + 1 = 6 := ⟨by decide +kernel, rfl⟩
theorem d_M_beginTry_6 : decode b_M_beginTry 6 = .ok (.istore_n 2, 1) ∧ 6 + 1 = 7 := ⟨by decide +kernel, rfl⟩
theorem d_M_beginTry_7 : decode b_M_beginTry 7 = .ok (.iload_n 2, 1) ∧ 7 + 1 = 8 := ⟨by decide +kernel, rfl⟩
theorem d_M_beginTry_8 : decode b_M_beginTry 8 = .ok (.sipush 256, 3) ∧ 8 + 3 = 11 := ⟨by decide +kernel, rfl⟩
theorem d_M_beginTry_11 : decode b_M_beginTry 11 = .ok (.if_icmp .ge 16, 3) ∧ 11 + 3 = 14 ∧ ((11 : Nat) : Int) + 16 = ((27 : Nat) : Int) := ⟨by decide +kernel, rfl, by decide⟩
theorem d_M_beginTry_14 : decode b_M_beginTry 14 = .ok (.aload_n 0, 1) ∧ 14 + 1 = 15 := ⟨by decide +kernel, rfl⟩
theorem d_M_beginTry_15 : decode b_M_beginTry 15 = .ok (.getfield 29, 3) ∧ 15 + 3 = 18 := ⟨by decide +kernel, rfl⟩
theorem d_M_beginTry_18 : decode b_M_beginTry 18 = .ok (.iload_n 2, 1) ∧ 18 + 1 = 19 := ⟨by decide +kernel, rfl⟩
theorem d_M_beginTry_19 : decode b_M_beginTry 19 = .ok (.iconst 0, 1) ∧ 19 + 1 = 20 := ⟨by decide +kernel, rfl⟩
theorem d_M_beginTry_20 : decode b_M_beginTry 20 = .ok (.bastore, 1) ∧ 20 + 1 = 21 := ⟨by decide +kernel, rfl⟩
theorem d_M_beginTry_21 : decode b_M_beginTry 21 = .ok (.iinc 2 1, 3) ∧ 21 + 3 = 24 := ⟨by decide +kernel, rfl⟩
theorem d_M_beginTry_24 : decode b_M_beginTry 24 = .ok (.goto (-17), 3) ∧ ((24 : Nat) : Int) + (-17) = ((7 : Nat) : Int) := ⟨by decide +kernel, by decide⟩
theorem d_M_beginTry_27 : decode b_M_beginTry 27 = .ok (.iconst 0, 1) ∧ 27 + 1 = 28 := ⟨by decide +kernel, rfl⟩
theorem d_M_beginTry_28 : decode b_M_beginTry 28 = .ok (.istore_n 2, 1) ∧ 28 + 1 = 29 := ⟨by decide +kernel, rfl⟩
theorem d_M_beginTry_29 : decode b_M_beginTry 29 = .ok (.iload_n 2, 1) ∧ 29 + 1 = 30 := ⟨by decide +kernel, rfl⟩
theorem d_M_beginTry_30 : decode b_M_beginTry 30 = .ok (.bipush 8, 2) ∧ 30 + 2 = 32 := ⟨by decide +kernel, rfl⟩
theorem d_M_beginTry_32 : decode b_M_beginTry 32 = .ok (.if_icmp .ge 130, 3) ∧ 32 + 3 = 35 ∧ ((32 : Nat) : Int) + 130 = ((162 : Nat) : Int) := ⟨by decide +kernel, rfl, by decide⟩
theorem d_M_beginTry_35 : decode b_M_beginTry 35 = .ok (.aload_n 0, 1) ∧ 35 + 1 = 36 := ⟨by decide +kernel, rfl⟩
theorem d_M_beginTry_36 : decode b_M_beginTry 36 = .ok (.iload_n 1, 1) ∧ 36 + 1 = 37 := ⟨by decide +kernel, rfl⟩
theorem d_M_beginTry_37 : decode b_M_beginTry 37 = .ok (.iload_n 2, 1) ∧ 37 + 1 = 38 := ⟨by decide +kernel, rfl⟩
theorem d_M_beginTry_38 : decode b_M_beginTry 38 = .ok (.invokevirtual 134, 3) ∧ 38 + 3 = 41 := ⟨by decide +kernel, rfl⟩
theorem d_M_beginTry_41 : decode b_M_beginTry 41 = .ok (.ifCond .ne 6, 3) ∧ 41 + 3 = 44 ∧ ((41 : Nat) : Int) + 6 = ((47 : Nat) : Int) := ⟨by decide +kernel, rfl, by decide⟩
theorem d_M_beginTry_44 : decode b_M_beginTry 44 = .ok (.goto 112, 3) ∧ ((44 : Nat) : Int) + 112 = ((156 : Nat) : Int) := ⟨by decide +kernel, by decide⟩
theorem d_M_beginTry_47 : decode b_M_beginTry 47 = .ok (.iconst 0, 1) ∧ 47 + 1 = 48 := ⟨by decide +kernel, rfl⟩
theorem d_M_beginTry_48 : decode b_M_beginTry 48 = .ok (.istore_n 3, 1) ∧ 48 + 1 = 49 := ⟨by decide +kernel, rfl⟩
theorem d_M_beginTry_49 : decode b_M_beginTry 49 = .ok (.iload_n 3, 1) ∧ 49 + 1 = 50 := ⟨by decide +kernel, rfl⟩
theorem d_M_beginTry_50 : decode b_M_beginTry 50 = .ok (.sipush 481, 3) ∧ 50 + 3 = 53 := ⟨by decide +kernel, rfl⟩
theorem d_M_beginTry_53 : decode b_M_beginTry 53 = .ok (.if_icmp .ge 46, 3) ∧ 53 + 3 = 56 ∧ ((53 : Nat) : Int) + 46 = ((99 : Nat) : Int) := ⟨by decide +kernel, rfl, by decide⟩
theorem d_M_beginTry_56 : decode b_M_beginTry 56 = .ok (.aload_n 0, 1) ∧ 56 + 1 = 57 := ⟨by decide +kernel, rfl⟩
theorem d_M_beginTry_57 : decode b_M_beginTry 57 = .ok (.getfield 63, 3) ∧ 57 + 3 = 60 := ⟨by decide +kernel, rfl⟩
theorem d_M_beginTry_60 : decode b_M_beginTry 60 = .ok (.sipush 481, 3) ∧ 60 + 3 = 63 := ⟨by decide +kernel, rfl⟩
theorem d_M_beginTry_63 : decode b_M_beginTry 63 = .ok (.iload_n 2, 1) ∧ 63 + 1 = 64 := ⟨by decide +kernel, rfl⟩
theorem d_M_beginTry_64 : decode b_M_beginTry 64 = .ok (.imul, 1) ∧ 64 + 1 = 65 := ⟨by decide +kernel, rfl⟩
theorem d_M_beginTry_65 : decode b_M_beginTry 65 = .ok (.iload_n 3, 1) ∧ 65 + 1 = 66 := ⟨by decide +kernel, rfl⟩
theorem d_M_beginTry_66 : decode b_M_beginTry 66 = .ok (.iadd, 1) ∧ 66 + 1 = 67 := ⟨by decide +kernel, rfl⟩
theorem d_M_beginTry_67 : decode b_M_beginTry 67 = .ok (.iconst 0, 1) ∧ 67 + 1 = 68 := ⟨by decide +kernel, rfl⟩
theorem d_M_beginTry_68 : decode b_M_beginTry 68 = .ok (.iastore, 1) ∧ 68 + 1 = 69 := ⟨by decide +kernel, rfl⟩
theorem d_M_beginTry_69 : decode b_M_beginTry 69 = .ok (.aload_n 0, 1) ∧ 69 + 1 = 70 := ⟨by decide +kernel, rfl⟩
theorem d_M_beginTry_70 : decode b_M_beginTry 70 = .ok (.getfield 66, 3) ∧ 70 + 3 = 73 := ⟨by decide +kernel, rfl⟩
theorem d_M_beginTry_73 : decode b_M_beginTry 73 = .ok (.sipush 481, 3) ∧ 73 + 3 = 76 := ⟨by decide +kernel, rfl⟩
theorem d_M_beginTry_76 : decode b_M_beginTry 76 = .ok (.iload_n 2, 1) ∧ 76 + 1 = 77 := ⟨by decide +kernel, rfl⟩
theorem d_M_beginTry_77 : decode b_M_beginTry 77 = .ok (.imul, 1) ∧ 77 + 1 = 78 := ⟨by decide +kernel, rfl⟩
theorem d_M_beginTry_78 : decode b_M_beginTry 78 = .ok (.iload_n 3, 1) ∧ 78 + 1 = 79 := ⟨by decide +kernel, rfl⟩
theorem d_M_beginTry_79 : decode b_M_beginTry 79 = .ok (.iadd, 1) ∧ 79 + 1 = 80 := ⟨by decide +kernel, rfl⟩
theorem d_M_beginTry_80 : decode b_M_beginTry 80 = .ok (.aload_n 0, 1) ∧ 80 + 1 = 81 := ⟨by decide +kernel, rfl⟩
theorem d_M_beginTry_81 : decode b_M_beginTry 81 = .ok (.getfield 45, 3) ∧ 81 + 3 = 84 := ⟨by decide +kernel, rfl⟩
theorem d_M_beginTry_84 : decode b_M_beginTry 84 = .ok (.sipush 481, 3) ∧ 84 + 3 = 87 := ⟨by decide +kernel, rfl⟩
theorem d_M_beginTry_87 : decode b_M_beginTry 87 = .ok (.iload_n 2, 1) ∧ 87 + 1 = 88 := ⟨by decide +kernel, rfl⟩
theorem d_M_beginTry_88 : decode b_M_beginTry 88 = .ok (.imul, 1) ∧ 88 + 1 = 89 := ⟨by decide +kernel, rfl⟩
theorem d_M_beginTry_89 : decode b_M_beginTry 89 = .ok (.iload_n 3, 1) ∧ 89 + 1 = 90 := ⟨by decide +kernel, rfl⟩
theorem d_M_beginTry_90 : decode b_M_beginTry 90 = .ok (.iadd, 1) ∧ 90 + 1 = 91 := ⟨by decide +kernel, rfl⟩
theorem d_M_beginTry_91 : decode b_M_beginTry 91 = .ok (.iaload, 1) ∧ 91 + 1 = 92 := ⟨by decide +kernel, rfl⟩
theorem d_M_beginTry_92 : decode b_M_beginTry 92 = .ok (.iastore, 1) ∧ 92 + 1 = 93 := ⟨by decide +kernel, rfl⟩
theorem d_M_beginTry_93 : decode b_M_beginTry 93 = .ok (.iinc 3 1, 3) ∧ 93 + 3 = 96 := ⟨by decide +kernel, rfl⟩
theorem d_M_beginTry_96 : decode b_M_beginTry 96 = .ok (.goto (-47), 3) ∧ ((96 : Nat) : Int) + (-47) = ((49 : Nat) : Int) := ⟨by decide +kernel, by decide⟩
theorem d_M_beginTry_99 : decode b_M_beginTry 99 = .ok (.iconst 0, 1) ∧ 99 + 1 = 100 := ⟨by decide +kernel, rfl⟩
theorem d_M_beginTry_100 : decode b_M_beginTry 100 = .ok (.istore_n 3, 1) ∧ 100 + 1 = 101 := ⟨by decide +kernel, rfl⟩
theorem d_M_beginTry_101 : decode b_M_beginTry 101 = .ok (.iload_n 3, 1) ∧ 101 + 1 = 102 := ⟨by decide +kernel, rfl⟩
theorem d_M_beginTry_102 : decode b_M_beginTry 102 = .ok (.aload_n 0, 1) ∧ 102 + 1 = 103 := ⟨by decide +kernel, rfl⟩
theorem d_M_beginTry_103 : decode b_M_beginTry 103 = .ok (.getfield 13, 3) ∧ 103 + 3 = 106 := ⟨by decide +kernel, rfl⟩
theorem d_M_beginTry_106 : decode b_M_beginTry 106 = .ok (.if_icmp .ge 50, 3) ∧ 106 + 3 = 109 ∧ ((106 : Nat) : Int) + 50 = ((156 : Nat) : Int) := ⟨by decide +kernel, rfl, by decide⟩
theorem d_M_beginTry_109 : decode b_M_beginTry 109 = .ok (.iconst 0, 1) ∧ 109 + 1 = 110 := ⟨by decide +kernel, rfl⟩
theorem d_M_beginTry_110 : decode b_M_beginTry 110 = .ok (.istore 4, 2) ∧ 110 + 2 = 112 := ⟨by decide +kernel, rfl⟩
theorem d_M_beginTry_112 : decode b_M_beginTry 112 = .ok (.iload 4, 2) ∧ 112 + 2 = 114 := ⟨by decide +kernel, rfl⟩
theorem d_M_beginTry_114 : decode b_M_beginTry 114 = .ok (.aload_n 0, 1) ∧ 114 + 1 = 115 := ⟨by decide +kernel, rfl⟩
theorem d_M_beginTry_115 : decode b_M_beginTry 115 = .ok (.getfield 7, 3) ∧ 115 + 3 = 118 := ⟨by decide +kernel, rfl⟩
theorem d_M_beginTry_118 : decode b_M_beginTry 118 = .ok (.if_icmp .ge 32, 3) ∧ 118 + 3 = 121 ∧ ((118 : Nat) : Int) + 32 = ((150 : Nat) : Int) := ⟨by decide +kernel, rfl, by decide⟩
theorem d_M_beginTry_121 : decode b_M_beginTry 121 = .ok (.aload_n 0, 1) ∧ 121 + 1 = 122 := ⟨by decide +kernel, rfl⟩
theorem d_M_beginTry_122 : decode b_M_beginTry 122 = .ok (.getfield 63, 3) ∧ 122 + 3 = 125 := ⟨by decide +kernel, rfl⟩
theorem d_M_beginTry_125 : decode b_M_beginTry 125 = .ok (.sipush 481, 3) ∧ 125 + 3 = 128 := ⟨by decide +kernel, rfl⟩
theorem d_M_beginTry_128 : decode b_M_beginTry 128 = .ok (.iload_n 2, 1) ∧ 128 + 1 = 129 := ⟨by decide +kernel, rfl⟩
theorem d_M_beginTry_129 : decode b_M_beginTry 129 = .ok (.imul, 1) ∧ 129 + 1 = 130 := ⟨by decide +kernel, rfl⟩
theorem d_M_beginTry_130 : decode b_M_beginTry 130 = .ok (.aload_n 0, 1) ∧ 130 + 1 = 131 := ⟨by decide +kernel, rfl⟩
theorem d_M_beginTry_131 : decode b_M_beginTry 131 = .ok (.iload_n 2, 1) ∧ 131 + 1 = 132 := ⟨by decide +kernel, rfl⟩
theorem d_M_beginTry_132 : decode b_M_beginTry 132 = .ok (.iload 4, 2) ∧ 132 + 2 = 134 := ⟨by decide +kernel, rfl⟩
theorem d_M_beginTry_134 : decode b_M_beginTry 134 = .ok (.iload_n 3, 1) ∧ 134 + 1 = 135 := ⟨by decide +kernel, rfl⟩
theorem d_M_beginTry_135 : decode b_M_beginTry 135 = .ok (.invokevirtual 120, 3) ∧ 135 + 3 = 138 := ⟨by decide +kernel, rfl⟩
theorem d_M_beginTry_138 : decode b_M_beginTry 138 = .ok (.iadd, 1) ∧ 138 + 1 = 139 := ⟨by decide +kernel, rfl⟩
theorem d_M_beginTry_139 : decode b_M_beginTry 139 = .ok (.dup2, 1) ∧ 139 + 1 = 140 := ⟨by decide +kernel, rfl⟩
theorem d_M_beginTry_140 : decode b_M_beginTry 140 = .ok (.iaload, 1) ∧ 140 + 1 = 141 := ⟨by decide +kernel, rfl⟩
theorem d_M_beginTry_141 : decode b_M_beginTry 141 = .ok (.iconst 1, 1) ∧ 141 + 1 = 142 := ⟨by decide +kernel, rfl⟩
theorem d_M_beginTry_142 : decode b_M_beginTry 142 = .ok (.iadd, 1) ∧ 142 + 1 = 143 := ⟨by decide +kernel, rfl⟩
theorem d_M_beginTry_143 : decode b_M_beginTry 143 = .ok (.iastore, 1) ∧ 143 + 1 = 144 := ⟨by decide +kernel, rfl⟩
theorem d_M_beginTry_144 : decode b_M_beginTry 144 = .ok (.iinc 4 1, 3) ∧ 144 + 3 = 147 := ⟨by decide +kernel, rfl⟩
theorem d_M_beginTry_147 : decode b_M_beginTry 147 = .ok (.goto (-35), 3) ∧ ((147 : Nat) : Int) + (-35) = ((112 : Nat) : Int) := ⟨by decide +kernel, by decide⟩
theorem d_M_beginTry_150 : decode b_M_beginTry 150 = .ok (.iinc 3 1, 3) ∧ 150 + 3 = 153 := ⟨by decide +kernel, rfl⟩
theorem d_M_beginTry_153 : decode b_M_beginTry 153 = .ok (.goto (-52), 3) ∧ ((153 : Nat) : Int) + (-52) = ((101 : Nat) : Int) := ⟨by decide +kernel, by decide⟩
theorem d_M_beginTry_156 : decode b_M_beginTry 156 = .ok (.iinc 2 1, 3) ∧ 156 + 3 = 159 := ⟨by decide +kernel, rfl⟩
theorem d_M_beginTry_159 : decode b_M_beginTry 159 = .ok (.goto (-130), 3) ∧ ((159 : Nat) : Int) + (-130) = ((29 : Nat) : Int) := ⟨by decide +kernel, by decide⟩
theorem d_M_beginTry_162 : decode b_M_beginTry 162 = .ok (.return_, 1) := by decide +kernel
theorem d_M_bin_0 : decode b_M_bin 0 = .ok (.aload_n 0, 1) ∧ 0 + 1 = 1 := ⟨by decide +kernel, rfl⟩
theorem d_M_bin_1 : decode b_M_bin 1 = .ok (.iload_n 1, 1) ∧ 1 + 1 = 2 := ⟨by decide +kernel, rfl⟩
theorem d_M_bin_2 : decode b_M_bin 2 = .ok (.iload_n 2, 1) ∧ 2 + 1 = 3 := ⟨by decide +kernel, rfl⟩
theorem d_M_bin_3 : decode b_M_bin 3 = .ok (.invokevirtual 131, 3) ∧ 3 + 3 = 6 := ⟨by decide +kernel, rfl⟩
theorem d_M_bin_6 : decode b_M_bin 6 = .ok (.ifCond .eq 7, 3) ∧ 6 + 3 = 9 ∧ ((6 : Nat) : Int) + 7 = ((13 : Nat) : Int) := ⟨by decide +kernel, rfl, by decide⟩
theorem d_M_bin_9 : decode b_M_bin 9 = .ok (.iconst 0, 1) ∧ 9 + 1 = 10 := ⟨by decide +kernel, rfl⟩
theorem d_M_bin_10 : decode b_M_bin 10 = .ok (.goto 15, 3) ∧ ((10 : Nat) : Int) + 15 = ((25 : Nat) : Int) := ⟨by decide +kernel, by decide⟩
theorem d_M_bin_13 : decode b_M_bin 13 = .ok (.aload_n 0, 1) ∧ 13 + 1 = 14 := ⟨by decide +kernel, rfl⟩
theorem d_M_bin_14 : decode b_M_bin 14 = .ok (.getfield 45, 3) ∧ 14 + 3 = 17 := ⟨by decide +kernel, rfl⟩
theorem d_M_bin_17 : decode b_M_bin 17 = .ok (.sipush 481, 3) ∧ 17 + 3 = 20 := ⟨by decide +kernel, rfl⟩
theorem d_M_bin_20 : decode b_M_bin 20 = .ok (.iload_n 1, 1) ∧ 20 + 1 = 21 := ⟨by decide +kernel, rfl⟩
theorem d_M_bin_21 : decode b_M_bin 21 = .ok (.imul, 1) ∧ 21 + 1 = 22 := ⟨by decide +kernel, rfl⟩
theorem d_M_bin_22 : decode b_M_bin 22 = .ok (.iload_n 2, 1) ∧ 22 + 1 = 23 := ⟨by decide +kernel, rfl⟩
theorem d_M_bin_23 : decode b_M_bin 23 = .ok (.iadd, 1) ∧ 23 + 1 = 24 := ⟨by decide +kernel, rfl⟩
theorem d_M_bin_24 : decode b_M_bin 24 = .ok (.iaload, 1) ∧ 24 + 1 = 25 := ⟨by decide +kernel, rfl⟩
theorem d_M_bin_25 : decode b_M_bin 25 = .ok (.ireturn, 1) := by decide +kernel
theorem d_M_binAt_0 : decode b_M_binAt 0 = .ok (.aload_n 0, 1) ∧ 0 + 1 = 1 := ⟨by decide +kernel, rfl⟩
theorem d_M_binAt_1 : decode b_M_binAt 1 = .ok (.getfield 36, 3) ∧ 1 + 3 = 4 := ⟨by decide +kernel, rfl⟩
theorem d_M_binAt_4 : decode b_M_binAt 4 = .ok (.iload_n 1, 1) ∧ 4 + 1 = 5 := ⟨by decide +kernel, rfl⟩
theorem d_M_binAt_5 : decode b_M_binAt 5 = .ok (.iaload, 1) ∧ 5 + 1 = 6 := ⟨by decide +kernel, rfl⟩
theorem d_M_binAt_6 : decode b_M_binAt 6 = .ok (.ifCond .ge 19, 3) ∧ 6 + 3 = 9 ∧ ((6 : Nat) : Int) + 19 = ((25 : Nat) : Int) := ⟨by decide +kernel, rfl, by decide⟩
theorem d_M_binAt_9 : decode b_M_binAt 9 = .ok (.aload_n 0, 1) ∧ 9 + 1 = 10 := ⟨by decide +kernel, rfl⟩
theorem d_M_binAt_10 : decode b_M_binAt 10 = .ok (.getfield 36, 3) ∧ 10 + 3 = 13 := ⟨by decide +kernel, rfl⟩
theorem d_M_binAt_13 : decode b_M_binAt 13 = .ok (.iload_n 1, 1) ∧ 13 + 1 = 14 := ⟨by decide +kernel, rfl⟩
theorem d_M_binAt_14 : decode b_M_binAt 14 = .ok (.iaload, 1) ∧ 14 + 1 = 15 := ⟨by decide +kernel, rfl⟩
theorem d_M_binAt_15 : decode b_M_binAt 15 = .ok (.aload_n 0, 1) ∧ 15 + 1 = 16 := ⟨by decide +kernel, rfl⟩
theorem d_M_binAt_16 : decode b_M_binAt 16 = .ok (.getfield 13, 3) ∧ 16 + 3 = 19 := ⟨by decide +kernel, rfl⟩
theorem d_M_binAt_19 : decode b_M_binAt 19 = .ok (.iconst 1, 1) ∧ 19 + 1 = 20 := ⟨by decide +kernel, rfl⟩
theorem d_M_binAt_20 : decode b_M_binAt 20 = .ok (.isub, 1) ∧ 20 + 1 = 21 := ⟨by decide +kernel, rfl⟩
theorem d_M_binAt_21 : decode b_M_binAt 21 = .ok (.imul, 1) ∧ 21 + 1 = 22 := ⟨by decide +kernel, rfl⟩
theorem d_M_binAt_22 : decode b_M_binAt 22 = .ok (.goto 4, 3) ∧ ((22 : Nat) : Int) + 4 = ((26 : Nat) : Int) := ⟨by decide +kernel, by decide⟩
theorem d_M_binAt_25 : decode b_M_binAt 25 = .ok (.iconst 0, 1) ∧ 25 + 1 = 26 := ⟨by decide +kernel, rfl⟩
theorem d_M_binAt_26 : decode b_M_binAt 26 = .ok (.aload_n 0, 1) ∧ 26 + 1 = 27 := ⟨by decide +kernel, rfl⟩
theorem d_M_binAt_27 : decode b_M_binAt 27 = .ok (.getfield 39, 3) ∧ 27 + 3 = 30 := ⟨by decide +kernel, rfl⟩
theorem d_M_binAt_30 : decode b_M_binAt 30 = .ok (.iload_n 1, 1) ∧ 30 + 1 = 31 := ⟨by decide +kernel, rfl⟩
theorem d_M_binAt_31 : decode b_M_binAt 31 = .ok (.iaload, 1) ∧ 31 + 1 = 32 := ⟨by decide +kernel, rfl⟩
theorem d_M_binAt_32 : decode b_M_binAt 32 = .ok (.aload_n 0, 1) ∧ 32 + 1 = 33 := ⟨by decide +kernel, rfl⟩
theorem d_M_binAt_33 : decode b_M_binAt 33 = .ok (.getfield 7, 3) ∧ 33 + 3 = 36 := ⟨by decide +kernel, rfl⟩
theorem d_M_binAt_36 : decode b_M_binAt 36 = .ok (.iconst 1, 1) ∧ 36 + 1 = 37 := ⟨by decide +kernel, rfl⟩
theorem d_M_binAt_37 : decode b_M_binAt 37 = .ok (.isub, 1) ∧ 37 + 1 = 38 := ⟨by decide +kernel, rfl⟩
theorem d_M_binAt_38 : decode b_M_binAt 38 = .ok (.imul, 1) ∧ 38 + 1 = 39 := ⟨by decide +kernel, rfl⟩
theorem d_M_binAt_39 : decode b_M_binAt 39 = .ok (.isub, 1) ∧ 39 + 1 = 40 := ⟨by decide +kernel, rfl⟩
theorem d_M_binAt_40 : decode b_M_binAt 40 = .ok (.istore 4, 2) ∧ 40 + 2 = 42 := ⟨by decide +kernel, rfl⟩
theorem d_M_binAt_42 : decode b_M_binAt 42 = .ok (.aload_n 0, 1) ∧ 42 + 1 = 43 := ⟨by decide +kernel, rfl⟩
theorem d_M_binAt_43 : decode b_M_binAt 43 = .ok (.getfield 36, 3) ∧ 43 + 3 = 46 := ⟨by decide +kernel, rfl⟩
theorem d_M_binAt_46 : decode b_M_binAt 46 = .ok (.iload_n 1, 1) ∧ 46 + 1 = 47 := ⟨by decide +kernel, rfl⟩
theorem d_M_binAt_47 : decode b_M_binAt 47 = .ok (.iaload, 1) ∧ 47 + 1 = 48 := ⟨by decide +kernel, rfl⟩
theorem d_M_binAt_48 : decode b_M_binAt 48 = .ok (.iload_n 3, 1) ∧ 48 + 1 = 49 := ⟨by decide +kernel, rfl⟩
theorem d_M_binAt_49 : decode b_M_binAt 49 = .ok (.imul, 1) ∧ 49 + 1 = 50 := ⟨by decide +kernel, rfl⟩
theorem d_M_binAt_50 : decode b_M_binAt 50 = .ok (.aload_n 0, 1) ∧ 50 + 1 = 51 := ⟨by decide +kernel, rfl⟩
theorem d_M_binAt_51 : decode b_M_binAt 51 = .ok (.getfield 39, 3) ∧ 51 + 3 = 54 := ⟨by decide +kernel, rfl⟩
theorem d_M_binAt_54 : decode b_M_binAt 54 = .ok (.iload_n 1, 1) ∧ 54 + 1 = 55 := ⟨by decide +kernel, rfl⟩
theorem d_M_binAt_55 : decode b_M_binAt 55 = .ok (.iaload, 1) ∧ 55 + 1 = 56 := ⟨by decide +kernel, rfl⟩
theorem d_M_binAt_56 : decode b_M_binAt 56 = .ok (.iload_n 2, 1) ∧ 56 + 1 = 57 := ⟨by decide +kernel, rfl⟩
theorem d_M_binAt_57 : decode b_M_binAt 57 = .ok (.imul, 1) ∧ 57 + 1 = 58 := ⟨by decide +kernel, rfl⟩
theorem d_M_binAt_58 : decode b_M_binAt 58 = .ok (.isub, 1) ∧ 58 + 1 = 59 := ⟨by decide +kernel, rfl⟩
theorem d_M_binAt_59 : decode b_M_binAt 59 = .ok (.iload 4, 2) ∧ 59 + 2 = 61 := ⟨by decide +kernel, rfl⟩
theorem d_M_binAt_61 : decode b_M_binAt 61 = .ok (.isub, 1) ∧ 61 + 1 = 62 := ⟨by decide +kernel, rfl⟩
theorem d_M_binAt_62 : decode b_M_binAt 62 = .ok (.ireturn, 1) := by decide +kernel
theorem d_M_binsOf_0 : decode b_M_binsOf 0 = .ok (.aload_n 0, 1) ∧ 0 + 1 = 1 := ⟨by decide +kernel, rfl⟩
theorem d_M_binsOf_1 : decode b_M_binsOf 1 = .ok (.getfield 36, 3) ∧ 1 + 3 = 4 := ⟨by decide +kernel, rfl⟩
theorem d_M_binsOf_4 : decode b_M_binsOf 4 = .ok (.iload_n 1, 1) ∧ 4 + 1 = 5 := ⟨by decide +kernel, rfl⟩
theorem d_M_binsOf_5 : decode b_M_binsOf 5 = .ok (.iaload, 1) ∧ 5 + 1 = 6 := ⟨by decide +kernel, rfl⟩
theorem d_M_binsOf_6 : decode b_M_binsOf 6 = .ok (.invokestatic 110, 3) ∧ 6 + 3 = 9 := ⟨by decide +kernel, rfl⟩
theorem d_M_binsOf_9 : decode b_M_binsOf 9 = .ok (.aload_n 0, 1) ∧ 9 + 1 = 10 := ⟨by decide +kernel, rfl⟩
theorem d_M_binsOf_10 : decode b_M_binsOf 10 = .ok (.getfield 13, 3) ∧ 10 + 3 = 13 := ⟨by decide +kernel, rfl⟩
theorem d_M_binsOf_13 : decode b_M_binsOf 13 = .ok (.iconst 1, 1) ∧ 13 + 1 = 14 := ⟨by decide +kernel, rfl⟩
theorem d_M_binsOf_14 : decode b_M_binsOf 14 = .ok (.isub, 1) ∧ 14 + 1 = 15 := ⟨by decide +kernel, rfl⟩
theorem d_M_binsOf_15 : decode b_M_binsOf 15 = .ok (.imul, 1) ∧ 15 + 1 = 16 := ⟨by decide +kernel, rfl⟩
theorem d_M_binsOf_16 : decode b_M_binsOf 16 = .ok (.aload_n 0, 1) ∧ 16 + 1 = 17 := ⟨by decide +kernel, rfl⟩
theorem d_M_binsOf_17 : decode b_M_binsOf 17 = .ok (.getfield 39, 3) ∧ 17 + 3 = 20 := ⟨by decide +kernel, rfl⟩
theorem d_M_binsOf_20 : decode b_M_binsOf 20 = .ok (.iload_n 1, 1) ∧ 20 + 1 = 21 := ⟨by decide +kernel, rfl⟩
theorem d_M_binsOf_21 : decode b_M_binsOf 21 = .ok (.iaload, 1) ∧ 21 + 1 = 22 := ⟨by decide +kernel, rfl⟩
theorem d_M_binsOf_22 : decode b_M_binsOf 22 = .ok (.aload_n 0, 1) ∧ 22 + 1 = 23 := ⟨by decide +kernel, rfl⟩
theorem d_M_binsOf_23 : decode b_M_binsOf 23 = .ok (.getfield 7, 3) ∧ 23 + 3 = 26 := ⟨by decide +kernel, rfl⟩
theorem d_M_binsOf_26 : decode b_M_binsOf 26 = .ok (.iconst 1, 1) ∧ 26 + 1 = 27 := ⟨by decide +kernel, rfl⟩
theorem d_M_binsOf_27 : decode b_M_binsOf 27 = .ok (.isub, 1) ∧ 27 + 1 = 28 := ⟨by decide +kernel, rfl⟩
theorem d_M_binsOf_28 : decode b_M_binsOf 28 = .ok (.imul, 1) ∧ 28 + 1 = 29 := ⟨by decide +kernel, rfl⟩
theorem d_M_binsOf_29 : decode b_M_binsOf 29 = .ok (.iadd, 1) ∧ 29 + 1 = 30 := ⟨by decide +kernel, rfl⟩
theorem d_M_binsOf_30 : decode b_M_binsOf 30 = .ok (.iconst 1, 1) ∧ 30 + 1 = 31 := ⟨by decide +kernel, rfl⟩
theorem d_M_binsOf_31 : decode b_M_binsOf 31 = .ok (.iadd, 1) ∧ 31 + 1 = 32 := ⟨by decide +kernel, rfl⟩
theorem d_M_binsOf_32 : decode b_M_binsOf 32 = .ok (.ireturn, 1) := by decide +kernel
theorem d_M_comes_0 : decode b_M_comes 0 = .ok (.aload_n 0, 1) ∧ 0 + 1 = 1 := ⟨by decide +kernel, rfl⟩
theorem d_M_comes_1 : decode b_M_comes 1 = .ok (.iload_n 1, 1) ∧ 1 + 1 = 2 := ⟨by decide +kernel, rfl⟩
theorem d_M_comes_2 : decode b_M_comes 2 = .ok (.invokevirtual 150, 3) ∧ 2 + 3 = 5 := ⟨by decide +kernel, rfl⟩
theorem d_M_comes_5 : decode b_M_comes 5 = .ok (.aload_n 0, 1) ∧ 5 + 1 = 6 := ⟨by decide +kernel, rfl⟩
theorem d_M_comes_6 : decode b_M_comes 6 = .ok (.iload_n 1, 1) ∧ 6 + 1 = 7 := ⟨by decide +kernel, rfl⟩
theorem d_M_comes_7 : decode b_M_comes 7 = .ok (.invokevirtual 154, 3) ∧ 7 + 3 = 10 := ⟨by decide +kernel, rfl⟩
theorem d_M_comes_10 : decode b_M_comes 10 = .ok (.istore_n 2, 1) ∧ 10 + 1 = 11 := ⟨by decide +kernel, rfl⟩
theorem d_M_comes_11 : decode b_M_comes 11 = .ok (.iload_n 2, 1) ∧ 11 + 1 = 12 := ⟨by decide +kernel, rfl⟩
theorem d_M_comes_12 : decode b_M_comes 12 = .ok (.ifCond .lt 18, 3) ∧ 12 + 3 = 15 ∧ ((12 : Nat) : Int) + 18 = ((30 : Nat) : Int) := ⟨by decide +kernel, rfl, by decide⟩
theorem d_M_comes_15 : decode b_M_comes 15 = .ok (.aload_n 0, 1) ∧ 15 + 1 = 16 := ⟨by decide +kernel, rfl⟩
theorem d_M_comes_16 : decode b_M_comes 16 = .ok (.iload_n 1, 1) ∧ 16 + 1 = 17 := ⟨by decide +kernel, rfl⟩
theorem d_M_comes_17 : decode b_M_comes 17 = .ok (.iload_n 2, 1) ∧ 17 + 1 = 18 := ⟨by decide +kernel, rfl⟩
theorem d_M_comes_18 : decode b_M_comes 18 = .ok (.invokevirtual 157, 3) ∧ 18 + 3 = 21 := ⟨by decide +kernel, rfl⟩
theorem d_M_comes_21 : decode b_M_comes 21 = .ok (.aload_n 0, 1) ∧ 21 + 1 = 22 := ⟨by decide +kernel, rfl⟩
theorem d_M_comes_22 : decode b_M_comes 22 = .ok (.iload_n 1, 1) ∧ 22 + 1 = 23 := ⟨by decide +kernel, rfl⟩
theorem d_M_comes_23 : decode b_M_comes 23 = .ok (.invokevirtual 154, 3) ∧ 23 + 3 = 26 := ⟨by decide +kernel, rfl⟩
theorem d_M_comes_26 : decode b_M_comes 26 = .ok (.istore_n 2, 1) ∧ 26 + 1 = 27 := ⟨by decide +kernel, rfl⟩
theorem d_M_comes_27 : decode b_M_comes 27 = .ok (.goto (-16), 3) ∧ ((27 : Nat) : Int) + (-16) = ((11 : Nat) : Int) := ⟨by decide +kernel, by decide⟩
theorem d_M_comes_30 : decode b_M_comes 30 = .ok (.aload_n 0, 1) ∧ 30 + 1 = 31 := ⟨by decide +kernel, rfl⟩
theorem d_M_comes_31 : decode b_M_comes 31 = .ok (.getfield 143, 3) ∧ 31 + 3 = 34 := ⟨by decide +kernel, rfl⟩
theorem d_M_comes_34 : decode b_M_comes 34 = .ok (.aload_n 0, 1) ∧ 34 + 1 = 35 := ⟨by decide +kernel, rfl⟩
theorem d_M_comes_35 : decode b_M_comes 35 = .ok (.getfield 7, 3) ∧ 35 + 3 = 38 := ⟨by decide +kernel, rfl⟩
theorem d_M_comes_38 : decode b_M_comes 38 = .ok (.aload_n 0, 1) ∧ 38 + 1 = 39 := ⟨by decide +kernel, rfl⟩
theorem d_M_comes_39 : decode b_M_comes 39 = .ok (.getfield 13, 3) ∧ 39 + 3 = 42 := ⟨by decide +kernel, rfl⟩
theorem d_M_comes_42 : decode b_M_comes 42 = .ok (.imul, 1) ∧ 42 + 1 = 43 := ⟨by decide +kernel, rfl⟩
theorem d_M_comes_43 : decode b_M_comes 43 = .ok (.if_icmp .ne 7, 3) ∧ 43 + 3 = 46 ∧ ((43 : Nat) : Int) + 7 = ((50 : Nat) : Int) := ⟨by decide +kernel, rfl, by decide⟩
theorem d_M_comes_46 : decode b_M_comes 46 = .ok (.iconst 1, 1) ∧ 46 + 1 = 47 := ⟨by decide +kernel, rfl⟩
theorem d_M_comes_47 : decode b_M_comes 47 = .ok (.goto 4, 3) ∧ ((47 : Nat) : Int) + 4 = ((51 : Nat) : Int) := ⟨by decide +kernel, by decide⟩
theorem d_M_comes_50 : decode b_M_comes 50 = .ok (.iconst 0, 1) ∧ 50 + 1 = 51 := ⟨by decide +kernel, rfl⟩
theorem d_M_comes_51 : decode b_M_comes 51 = .ok (.ireturn, 1) := by decide +kernel
theorem d_M_direction_0 : decode b_M_direction 0 = .ok (.iload_n 2, 1) ∧ 0 + 1 = 1 := ⟨by decide +kernel, rfl⟩
theorem d_M_direction_1 : decode b_M_direction 1 = .ok (.bipush (-16), 2) ∧ 1 + 2 = 3 := ⟨by decide +kernel, rfl⟩
theorem d_M_direction_3 : decode b_M_direction 3 = .ok (.if_icmp .lt 25, 3) ∧ 3 + 3 = 6 ∧ ((3 : Nat) : Int) + 25 = ((28 : Nat) : Int) := ⟨by decide +kernel, rfl, by decide⟩
theorem d_M_direction_6 : decode b_M_direction 6 = .ok (.iload_n 2, 1) ∧ 6 + 1 = 7 := ⟨by decide +kernel, rfl⟩
theorem d_M_direction_7 : decode b_M_direction 7 = .ok (.bipush 16, 2) ∧ 7 + 2 = 9 := ⟨by decide +kernel, rfl⟩
theorem d_M_direction_9 : decode b_M_direction 9 = .ok (.if_icmp .gt 19, 3) ∧ 9 + 3 = 12 ∧ ((9 : Nat) : Int) + 19 = ((28 : Nat) : Int) := ⟨by decide +kernel, rfl, by decide⟩
theorem d_M_direction_12 : decode b_M_direction 12 = .ok (.iload_n 3, 1) ∧ 12 + 1 = 13 := ⟨by decide +kernel, rfl⟩
theorem d_M_direction_13 : decode b_M_direction 13 = .ok (.bipush (-16), 2) ∧ 13 + 2 = 15 := ⟨by decide +kernel, rfl⟩
theorem d_M_direction_15 : decode b_M_direction 15 = .ok (.if_icmp .lt 13, 3) ∧ 15 + 3 = 18 ∧ ((15 : Nat) : Int) + 13 = ((28 : Nat) : Int) := ⟨by decide +kernel, rfl, by decide⟩
theorem d_M_direction_18 : decode b_M_direction 18 = .ok (.iload_n 3, 1) ∧ 18 + 1 = 19 := ⟨by decide +kernel, rfl⟩
theorem d_M_direction_19 : decode b_M_direction 19 = .ok (.bipush 16, 2) ∧ 19 + 2 = 21 := ⟨by decide +kernel, rfl⟩
theorem d_M_direction_21 : decode b_M_direction 21 = .ok (.if_icmp .gt 7, 3) ∧ 21 + 3 = 24 ∧ ((21 : Nat) : Int) + 7 = ((28 : Nat) : Int) := ⟨by decide +kernel, rfl, by decide⟩
theorem d_M_direction_24 : decode b_M_direction 24 = .ok (.iconst 1, 1) ∧ 24 + 1 = 25 := ⟨by decide +kernel, rfl⟩
theorem d_M_direction_25 : decode b_M_direction 25 = .ok (.goto 4, 3) ∧ ((25 : Nat) : Int) + 4 = ((29 : Nat) : Int) := ⟨by decide +kernel, by decide⟩
theorem d_M_direction_28 : decode b_M_direction 28 = .ok (.iconst 0, 1) ∧ 28 + 1 = 29 := ⟨by decide +kernel, rfl⟩
theorem d_M_direction_29 : decode b_M_direction 29 = .ok (.istore 4, 2) ∧ 29 + 2 = 31 := ⟨by decide +kernel, rfl⟩
theorem d_M_direction_31 : decode b_M_direction 31 = .ok (.iload 4, 2) ∧ 31 + 2 = 33 := ⟨by decide +kernel, rfl⟩
theorem d_M_direction_33 : decode b_M_direction 33 = .ok (.ifCond .eq 19, 3) ∧ 33 + 3 = 36 ∧ ((33 : Nat) : Int) + 19 = ((52 : Nat) : Int) := ⟨by decide +kernel, rfl, by decide⟩
theorem d_M_direction_36 : decode b_M_direction 36 = .ok (.iload_n 3, 1) ∧ 36 + 1 = 37 := ⟨by decide +kernel, rfl⟩
theorem d_M_direction_37 : decode b_M_direction 37 = .ok (.ifCond .lt 11, 3) ∧ 37 + 3 = 40 ∧ ((37 : Nat) : Int) + 11 = ((48 : Nat) : Int) := ⟨by decide +kernel, rfl, by decide⟩
theorem d_M_direction_40 : decode b_M_direction 40 = .ok (.iload_n 3, 1) ∧ 40 + 1 = 41 := ⟨by decide +kernel, rfl⟩
theorem d_M_direction_41 : decode b_M_direction 41 = .ok (.ifCond .ne 11, 3) ∧ 41 + 3 = 44 ∧ ((41 : Nat) : Int) + 11 = ((52 : Nat) : Int) := ⟨by decide +kernel, rfl, by decide⟩
theorem d_M_direction_44 : decode b_M_direction 44 = .ok (.iload_n 2, 1) ∧ 44 + 1 = 45 := ⟨by decide +kernel, rfl⟩
theorem d_M_direction_45 : decode b_M_direction 45 = .ok (.ifCond .ge 7, 3) ∧ 45 + 3 = 48 ∧ ((45 : Nat) : Int) + 7 = ((52 : Nat) : Int) := ⟨by decide +kernel, rfl, by decide⟩
theorem d_M_direction_48 : decode b_M_direction 48 = .ok (.iconst 1, 1) ∧ 48 + 1 = 49 := ⟨by decide +kernel, rfl⟩
theorem d_M_direction_49 : decode b_M_direction 49 = .ok (.goto 4, 3) ∧ ((49 : Nat) : Int) + 4 = ((53 : Nat) : Int) := ⟨by decide +kernel, by decide⟩
theorem d_M_direction_52 : decode b_M_direction 52 = .ok (.iconst 0, 1) ∧ 52 + 1 = 53 := ⟨by decide +kernel, rfl⟩
theorem d_M_direction_53 : decode b_M_direction 53 = .ok (.istore 5, 2) ∧ 53 + 2 = 55 := ⟨by decide +kernel, rfl⟩
theorem d_M_direction_55 : decode b_M_direction 55 = .ok (.iload 5, 2) ∧ 55 + 2 = 57 := ⟨by decide +kernel, rfl⟩
theorem d_M_direction_57 : decode b_M_direction 57 = .ok (.ifCond .eq 8, 3) ∧ 57 + 3 = 60 ∧ ((57 : Nat) : Int) + 8 = ((65 : Nat) : Int) := ⟨by decide +kernel, rfl, by decide⟩
theorem d_M_direction_60 : decode b_M_direction 60 = .ok (.iload_n 2, 1) ∧ 60 + 1 = 61 := ⟨by decide +kernel, rfl⟩
theorem d_M_direction_61 : decode b_M_direction 61 = .ok (.ineg, 1) ∧ 61 + 1 = 62 := ⟨by decide +kernel, rfl⟩
theorem d_M_direction_62 : decode b_M_direction 62 = .ok (.goto 4, 3) ∧ ((62 : Nat) : Int) + 4 = ((66 : Nat) : Int) := ⟨by decide +kernel, by decide⟩
theorem d_M_direction_65 : decode b_M_direction 65 = .ok (.iload_n 2, 1) ∧ 65 + 1 = 66 := ⟨by decide +kernel, rfl⟩
theorem d_M_direction_66 : decode b_M_direction 66 = .ok (.istore 6, 2) ∧ 66 + 2 = 68 := ⟨by decide +kernel, rfl⟩
theorem d_M_direction_68 : decode b_M_direction 68 = .ok (.iload 5, 2) ∧ 68 + 2 = 70 := ⟨by decide +kernel, rfl⟩
theorem d_M_direction_70 : decode b_M_direction 70 = .ok (.ifCond .eq 8, 3) ∧ 70 + 3 = 73 ∧ ((70 : Nat) : Int) + 8 = ((78 : Nat) : Int) := ⟨by decide +kernel, rfl, by decide⟩
theorem d_M_direction_73 : decode b_M_direction 73 = .ok (.iload_n 3, 1) ∧ 73 + 1 = 74 := ⟨by decide +kernel, rfl⟩
theorem d_M_direction_74 : decode b_M_direction 74 = .ok (.ineg, 1) ∧ 74 + 1 = 75 := ⟨by decide +kernel, rfl⟩
theorem d_M_direction_75 : decode b_M_direction 75 = .ok (.goto 4, 3) ∧ ((75 : Nat) : Int) + 4 = ((79 : Nat) : Int) := ⟨by decide +kernel, by decide⟩
theorem d_M_direction_78 : decode b_M_direction 78 = .ok (.iload_n 3, 1) ∧ 78 + 1 = 79 := ⟨by decide +kernel, rfl⟩
theorem d_M_direction_79 : decode b_M_direction 79 = .ok (.istore 7, 2) ∧ 79 + 2 = 81 := ⟨by decide +kernel, rfl⟩
theorem d_M_direction_81 : decode b_M_direction 81 = .ok (.aload_n 0, 1) ∧ 81 + 1 = 82 := ⟨by decide +kernel, rfl⟩
theorem d_M_direction_82 : decode b_M_direction 82 = .ok (.iload_n 1, 1) ∧ 82 + 1 = 83 := ⟨by decide +kernel, rfl⟩
theorem d_M_direction_83 : decode b_M_direction 83 = .ok (.invokestatic 84, 3) ∧ 83 + 3 = 86 := ⟨by decide +kernel, rfl⟩
theorem d_M_direction_86 : decode b_M_direction 86 = .ok (.ifCond .ne 7, 3) ∧ 86 + 3 = 89 ∧ ((86 : Nat) : Int) + 7 = ((93 : Nat) : Int) := ⟨by decide +kernel, rfl, by decide⟩
theorem d_M_direction_89 : decode b_M_direction 89 = .ok (.iconst 1, 1) ∧ 89 + 1 = 90 := ⟨by decide +kernel, rfl⟩
theorem d_M_direction_90 : decode b_M_direction 90 = .ok (.goto 4, 3) ∧ ((90 : Nat) : Int) + 4 = ((94 : Nat) : Int) := ⟨by decide +kernel, by decide⟩
theorem d_M_direction_93 : decode b_M_direction 93 = .ok (.iconst 0, 1) ∧ 93 + 1 = 94 := ⟨by decide +kernel, rfl⟩
theorem d_M_direction_94 : decode b_M_direction 94 = .ok (.iload 4, 2) ∧ 94 + 2 = 96 := ⟨by decide +kernel, rfl⟩
theorem d_M_direction_96 : decode b_M_direction 96 = .ok (.ifCond .eq 25, 3) ∧ 96 + 3 = 99 ∧ ((96 : Nat) : Int) + 25 = ((121 : Nat) : Int) := ⟨by decide +kernel, rfl, by decide⟩
theorem d_M_direction_99 : decode b_M_direction 99 = .ok (.iload 6, 2) ∧ 99 + 2 = 101 := ⟨by decide +kernel, rfl⟩
theorem d_M_direction_101 : decode b_M_direction 101 = .ok (.iload 7, 2) ∧ 101 + 2 = 103 := ⟨by decide +kernel, rfl⟩
theorem d_M_direction_103 : decode b_M_direction 103 = .ok (.invokestatic 103, 3) ∧ 103 + 3 = 106 := ⟨by decide +kernel, rfl⟩
theorem d_M_direction_106 : decode b_M_direction 106 = .ok (.ifCond .ne 15, 3) ∧ 106 + 3 = 109 ∧ ((106 : Nat) : Int) + 15 = ((121 : Nat) : Int) := ⟨by decide +kernel, rfl, by decide⟩
theorem d_M_direction_109 : decode b_M_direction 109 = .ok (.aload_n 0, 1) ∧ 109 + 1 = 110 := ⟨by decide +kernel, rfl⟩
theorem d_M_direction_110 : decode b_M_direction 110 = .ok (.iload_n 1, 1) ∧ 110 + 1 = 111 := ⟨by decide +kernel, rfl⟩
theorem d_M_direction_111 : decode b_M_direction 111 = .ok (.iload 6, 2) ∧ 111 + 2 = 113 := ⟨by decide +kernel, rfl⟩
theorem d_M_direction_113 : decode b_M_direction 113 = .ok (.iload 7, 2) ∧ 113 + 2 = 115 := ⟨by decide +kernel, rfl⟩
theorem d_M_direction_115 : decode b_M_direction 115 = .ok (.invokevirtual 106, 3) ∧ 115 + 3 = 118 := ⟨by decide +kernel, rfl⟩
theorem d_M_direction_118 : decode b_M_direction 118 = .ok (.ifCond .eq 7, 3) ∧ 118 + 3 = 121 ∧ ((118 : Nat) : Int) + 7 = ((125 : Nat) : Int) := ⟨by decide +kernel, rfl, by decide⟩
theorem d_M_direction_121 : decode b_M_direction 121 = .ok (.iconst 1, 1) ∧ 121 + 1 = 122 := ⟨by decide +kernel, rfl⟩
theorem d_M_direction_122 : decode b_M_direction 122 = .ok (.goto 4, 3) ∧ ((122 : Nat) : Int) + 4 = ((126 : Nat) : Int) := ⟨by decide +kernel, by decide⟩
theorem d_M_direction_125 : decode b_M_direction 125 = .ok (.iconst 0, 1) ∧ 125 + 1 = 126 := ⟨by decide +kernel, rfl⟩
theorem d_M_direction_126 : decode b_M_direction 126 = .ok (.invokevirtual 88, 3) ∧ 126 + 3 = 129 := ⟨by decide +kernel, rfl⟩
theorem d_M_direction_129 : decode b_M_direction 129 = .ok (.ifCond .eq 4, 3) ∧ 129 + 3 = 132 ∧ ((129 : Nat) : Int) + 4 = ((133 : Nat) : Int) := ⟨by decide +kernel, rfl, by decide⟩
theorem d_M_direction_132 : decode b_M_direction 132 = .ok (.return_, 1) := by decide +kernel
theorem d_M_direction_133 : decode b_M_direction 133 = .ok (.aload_n 0, 1) ∧ 133 + 1 = 134 := ⟨by decide +kernel, rfl⟩
theorem d_M_direction_134 : decode b_M_direction 134 = .ok (.getfield 33, 3) ∧ 134 + 3 = 137 := ⟨by decide +kernel, rfl⟩
theorem d_M_direction_137 : decode b_M_direction 137 = .ok (.iload_n 1, 1) ∧ 137 + 1 = 138 := ⟨by decide +kernel, rfl⟩
theorem d_M_direction_138 : decode b_M_direction 138 = .ok (.iconst 1, 1) ∧ 138 + 1 = 139 := ⟨by decide +kernel, rfl⟩
theorem d_M_direction_139 : decode b_M_direction 139 = .ok (.bastore, 1) ∧ 139 + 1 = 140 := ⟨by decide +kernel, rfl⟩
theorem d_M_direction_140 : decode b_M_direction 140 = .ok (.aload_n 0, 1) ∧ 140 + 1 = 141 := ⟨by decide +kernel, rfl⟩
theorem d_M_direction_141 : decode b_M_direction 141 = .ok (.getfield 36, 3) ∧ 141 + 3 = 144 := ⟨by decide +kernel, rfl⟩
theorem d_M_direction_144 : decode b_M_direction 144 = .ok (.iload_n 1, 1) ∧ 144 + 1 = 145 := ⟨by decide +kernel, rfl⟩
theorem d_M_direction_145 : decode b_M_direction 145 = .ok (.iload 6, 2) ∧ 145 + 2 = 147 := ⟨by decide +kernel, rfl⟩
theorem d_M_direction_147 : decode b_M_direction 147 = .ok (.iastore, 1) ∧ 147 + 1 = 148 := ⟨by decide +kernel, rfl⟩
theorem d_M_direction_148 : decode b_M_direction 148 = .ok (.aload_n 0, 1) ∧ 148 + 1 = 149 := ⟨by decide +kernel, rfl⟩
theorem d_M_direction_149 : decode b_M_direction 149 = .ok (.getfield 39, 3) ∧ 149 + 3 = 152 := ⟨by decide +kernel, rfl⟩
theorem d_M_direction_152 : decode b_M_direction 152 = .ok (.iload_n 1, 1) ∧ 152 + 1 = 153 := ⟨by decide +kernel, rfl⟩
theorem d_M_direction_153 : decode b_M_direction 153 = .ok (.iload 7, 2) ∧ 153 + 2 = 155 := ⟨by decide +kernel, rfl⟩
theorem d_M_direction_155 : decode b_M_direction 155 = .ok (.iastore, 1) ∧ 155 + 1 = 156 := ⟨by decide +kernel, rfl⟩
theorem d_M_direction_156 : decode b_M_direction 156 = .ok (.aload_n 0, 1) ∧ 156 + 1 = 157 := ⟨by decide +kernel, rfl⟩
theorem d_M_direction_157 : decode b_M_direction 157 = .ok (.getfield 42, 3) ∧ 157 + 3 = 160 := ⟨by decide +kernel, rfl⟩
theorem d_M_direction_160 : decode b_M_direction 160 = .ok (.iload_n 1, 1) ∧ 160 + 1 = 161 := ⟨by decide +kernel, rfl⟩
theorem d_M_direction_161 : decode b_M_direction 161 = .ok (.iconst 0, 1) ∧ 161 + 1 = 162 := ⟨by decide +kernel, rfl⟩
theorem d_M_direction_162 : decode b_M_direction 162 = .ok (.bastore, 1) ∧ 162 + 1 = 163 := ⟨by decide +kernel, rfl⟩
theorem d_M_direction_163 : decode b_M_direction 163 = .ok (.return_, 1) := by decide +kernel
theorem d_M_disagrees_0 : decode b_M_disagrees 0 = .ok (.iconst 0, 1) ∧ 0 + 1 = 1 := ⟨by decide +kernel, rfl⟩
theorem d_M_disagrees_1 : decode b_M_disagrees 1 = .ok (.istore_n 2, 1) ∧ 1 + 1 = 2 := ⟨by decide +kernel, rfl⟩
theorem d_M_disagrees_2 : decode b_M_disagrees 2 = .ok (.iload_n 2, 1) ∧ 2 + 1 = 3 := ⟨by decide +kernel, rfl⟩
theorem d_M_disagrees_3 : decode b_M_disagrees 3 = .ok (.bipush 8, 2) ∧ 3 + 2 = 5 := ⟨by decide +kernel, rfl⟩
theorem d_M_disagrees_5 : decode b_M_disagrees 5 = .ok (.if_icmp .ge 28, 3) ∧ 5 + 3 = 8 ∧ ((5 : Nat) : Int) + 28 = ((33 : Nat) : Int) := ⟨by decide +kernel, rfl, by decide⟩
theorem d_M_disagrees_8 : decode b_M_disagrees 8 = .ok (.aload_n 0, 1) ∧ 8 + 1 = 9 := ⟨by decide +kernel, rfl⟩
theorem d_M_disagrees_9 : decode b_M_disagrees 9 = .ok (.iload_n 1, 1) ∧ 9 + 1 = 10 := ⟨by decide +kernel, rfl⟩
theorem d_M_disagrees_10 : decode b_M_disagrees 10 = .ok (.iload_n 2, 1) ∧ 10 + 1 = 11 := ⟨by decide +kernel, rfl⟩
theorem d_M_disagrees_11 : decode b_M_disagrees 11 = .ok (.invokevirtual 134, 3) ∧ 11 + 3 = 14 := ⟨by decide +kernel, rfl⟩
theorem d_M_disagrees_14 : decode b_M_disagrees 14 = .ok (.ifCond .eq 13, 3) ∧ 14 + 3 = 17 ∧ ((14 : Nat) : Int) + 13 = ((27 : Nat) : Int) := ⟨by decide +kernel, rfl, by decide⟩
theorem d_M_disagrees_17 : decode b_M_disagrees 17 = .ok (.aload_n 0, 1) ∧ 17 + 1 = 18 := ⟨by decide +kernel, rfl⟩
theorem d_M_disagrees_18 : decode b_M_disagrees 18 = .ok (.iload_n 2, 1) ∧ 18 + 1 = 19 := ⟨by decide +kernel, rfl⟩
theorem d_M_disagrees_19 : decode b_M_disagrees 19 = .ok (.invokevirtual 161, 3) ∧ 19 + 3 = 22 := ⟨by decide +kernel, rfl⟩
theorem d_M_disagrees_22 : decode b_M_disagrees 22 = .ok (.ifCond .lt 5, 3) ∧ 22 + 3 = 25 ∧ ((22 : Nat) : Int) + 5 = ((27 : Nat) : Int) := ⟨by decide +kernel, rfl, by decide⟩
theorem d_M_disagrees_25 : decode b_M_disagrees 25 = .ok (.iload_n 2, 1) ∧ 25 + 1 = 26 := ⟨by decide +kernel, rfl⟩
theorem d_M_disagrees_26 : decode b_M_disagrees 26 = .ok (.ireturn, 1) := by decide +kernel
theorem d_M_disagrees_27 : decode b_M_disagrees 27 = .ok (.iinc 2 1, 3) ∧ 27 + 3 = 30 := ⟨by decide +kernel, rfl⟩
theorem d_M_disagrees_30 : decode b_M_disagrees 30 = .ok (.goto (-28), 3) ∧ ((30 : Nat) : Int) + (-28) = ((2 : Nat) : Int) := ⟨by decide +kernel, by decide⟩
theorem d_M_disagrees_33 : decode b_M_disagrees 33 = .ok (.bipush 99, 2) ∧ 33 + 2 = 35 := ⟨by decide +kernel, rfl⟩
theorem d_M_disagrees_35 : decode b_M_disagrees 35 = .ok (.ireturn, 1) := by decide +kernel
theorem d_M_drop_0 : decode b_M_drop 0 = .ok (.aload_n 0, 1) ∧ 0 + 1 = 1 := ⟨by decide +kernel, rfl⟩
theorem d_M_drop_1 : decode b_M_drop 1 = .ok (.iload_n 1, 1) ∧ 1 + 1 = 2 := ⟨by decide +kernel, rfl⟩
theorem d_M_drop_2 : decode b_M_drop 2 = .ok (.invokestatic 84, 3) ∧ 2 + 3 = 5 := ⟨by decide +kernel, rfl⟩
theorem d_M_drop_5 : decode b_M_drop 5 = .ok (.ifCond .ne 7, 3) ∧ 5 + 3 = 8 ∧ ((5 : Nat) : Int) + 7 = ((12 : Nat) : Int) := ⟨by decide +kernel, rfl, by decide⟩
theorem d_M_drop_8 : decode b_M_drop 8 = .ok (.iconst 1, 1) ∧ 8 + 1 = 9 := ⟨by decide +kernel, rfl⟩
theorem d_M_drop_9 : decode b_M_drop 9 = .ok (.goto 4, 3) ∧ ((9 : Nat) : Int) + 4 = ((13 : Nat) : Int) := ⟨by decide +kernel, by decide⟩
theorem d_M_drop_12 : decode b_M_drop 12 = .ok (.iconst 0, 1) ∧ 12 + 1 = 13 := ⟨by decide +kernel, rfl⟩
theorem d_M_drop_13 : decode b_M_drop 13 = .ok (.iconst 0, 1) ∧ 13 + 1 = 14 := ⟨by decide +kernel, rfl⟩
theorem d_M_drop_14 : decode b_M_drop 14 = .ok (.invokevirtual 88, 3) ∧ 14 + 3 = 17 := ⟨by decide +kernel, rfl⟩
theorem d_M_drop_17 : decode b_M_drop 17 = .ok (.ifCond .eq 5, 3) ∧ 17 + 3 = 20 ∧ ((17 : Nat) : Int) + 5 = ((22 : Nat) : Int) := ⟨by decide +kernel, rfl, by decide⟩
theorem d_M_drop_20 : decode b_M_drop 20 = .ok (.iconst 0, 1) ∧ 20 + 1 = 21 := ⟨by decide +kernel, rfl⟩
theorem d_M_drop_21 : decode b_M_drop 21 = .ok (.ireturn, 1) := by decide +kernel
theorem d_M_drop_22 : decode b_M_drop 22 = .ok (.aload_n 0, 1) ∧ 22 + 1 = 23 := ⟨by decide +kernel, rfl⟩
theorem d_M_drop_23 : decode b_M_drop 23 = .ok (.getfield 42, 3) ∧ 23 + 3 = 26 := ⟨by decide +kernel, rfl⟩
theorem d_M_drop_26 : decode b_M_drop 26 = .ok (.iload_n 1, 1) ∧ 26 + 1 = 27 := ⟨by decide +kernel, rfl⟩
theorem d_M_drop_27 : decode b_M_drop 27 = .ok (.baload, 1) ∧ 27 + 1 = 28 := ⟨by decide +kernel, rfl⟩
theorem d_M_drop_28 : decode b_M_drop 28 = .ok (.istore_n 2, 1) ∧ 28 + 1 = 29 := ⟨by decide +kernel, rfl⟩
theorem d_M_drop_29 : decode b_M_drop 29 = .ok (.aload_n 0, 1) ∧ 29 + 1 = 30 := ⟨by decide +kernel, rfl⟩
theorem d_M_drop_30 : decode b_M_drop 30 = .ok (.getfield 42, 3) ∧ 30 + 3 = 33 := ⟨by decide +kernel, rfl⟩
theorem d_M_drop_33 : decode b_M_drop 33 = .ok (.iload_n 1, 1) ∧ 33 + 1 = 34 := ⟨by decide +kernel, rfl⟩
theorem d_M_drop_34 : decode b_M_drop 34 = .ok (.iconst 0, 1) ∧ 34 + 1 = 35 := ⟨by decide +kernel, rfl⟩
theorem d_M_drop_35 : decode b_M_drop 35 = .ok (.bastore, 1) ∧ 35 + 1 = 36 := ⟨by decide +kernel, rfl⟩
theorem d_M_drop_36 : decode b_M_drop 36 = .ok (.iload_n 2, 1) ∧ 36 + 1 = 37 := ⟨by decide +kernel, rfl⟩
theorem d_M_drop_37 : decode b_M_drop 37 = .ok (.ireturn, 1) := by decide +kernel
theorem d_M_enough_0 : decode b_M_enough 0 = .ok (.aload_n 0, 1) ∧ 0 + 1 = 1 := ⟨by decide +kernel, rfl⟩
theorem d_M_enough_1 : decode b_M_enough 1 = .ok (.iload_n 1, 1) ∧ 1 + 1 = 2 := ⟨by decide +kernel, rfl⟩
theorem d_M_enough_2 : decode b_M_enough 2 = .ok (.invokestatic 137, 3) ∧ 2 + 3 = 5 := ⟨by decide +kernel, rfl⟩
theorem d_M_enough_5 : decode b_M_enough 5 = .ok (.ifCond .ne 7, 3) ∧ 5 + 3 = 8 ∧ ((5 : Nat) : Int) + 7 = ((12 : Nat) : Int) := ⟨by decide +kernel, rfl, by decide⟩
theorem d_M_enough_8 : decode b_M_enough 8 = .ok (.iconst 1, 1) ∧ 8 + 1 = 9 := ⟨by decide +kernel, rfl⟩
theorem d_M_enough_9 : decode b_M_enough 9 = .ok (.goto 4, 3) ∧ ((9 : Nat) : Int) + 4 = ((13 : Nat) : Int) := ⟨by decide +kernel, by decide⟩
theorem d_M_enough_12 : decode b_M_enough 12 = .ok (.iconst 0, 1) ∧ 12 + 1 = 13 := ⟨by decide +kernel, rfl⟩
theorem d_M_enough_13 : decode b_M_enough 13 = .ok (.iconst 0, 1) ∧ 13 + 1 = 14 := ⟨by decide +kernel, rfl⟩
theorem d_M_enough_14 : decode b_M_enough 14 = .ok (.invokevirtual 88, 3) ∧ 14 + 3 = 17 := ⟨by decide +kernel, rfl⟩
theorem d_M_enough_17 : decode b_M_enough 17 = .ok (.ifCond .ne 15, 3) ∧ 17 + 3 = 20 ∧ ((17 : Nat) : Int) + 15 = ((32 : Nat) : Int) := ⟨by decide +kernel, rfl, by decide⟩
theorem d_M_enough_20 : decode b_M_enough 20 = .ok (.aload_n 0, 1) ∧ 20 + 1 = 21 := ⟨by decide +kernel, rfl⟩
theorem d_M_enough_21 : decode b_M_enough 21 = .ok (.iload_n 1, 1) ∧ 21 + 1 = 22 := ⟨by decide +kernel, rfl⟩
theorem d_M_enough_22 : decode b_M_enough 22 = .ok (.invokevirtual 140, 3) ∧ 22 + 3 = 25 := ⟨by decide +kernel, rfl⟩
theorem d_M_enough_25 : decode b_M_enough 25 = .ok (.ifCond .eq 7, 3) ∧ 25 + 3 = 28 ∧ ((25 : Nat) : Int) + 7 = ((32 : Nat) : Int) := ⟨by decide +kernel, rfl, by decide⟩
theorem d_M_enough_28 : decode b_M_enough 28 = .ok (.iconst 1, 1) ∧ 28 + 1 = 29 := ⟨by decide +kernel, rfl⟩
theorem d_M_enough_29 : decode b_M_enough 29 = .ok (.goto 4, 3) ∧ ((29 : Nat) : Int) + 4 = ((33 : Nat) : Int) := ⟨by decide +kernel, by decide⟩
theorem d_M_enough_32 : decode b_M_enough 32 = .ok (.iconst 0, 1) ∧ 32 + 1 = 33 := ⟨by decide +kernel, rfl⟩
theorem d_M_enough_33 : decode b_M_enough 33 = .ok (.ireturn, 1) := by decide +kernel
theorem d_M_fill_0 : decode b_M_fill 0 = .ok (.aload_n 0, 1) ∧ 0 + 1 = 1 := ⟨by decide +kernel, rfl⟩
theorem d_M_fill_1 : decode b_M_fill 1 = .ok (.iload_n 1, 1) ∧ 1 + 1 = 2 := ⟨by decide +kernel, rfl⟩
theorem d_M_fill_2 : decode b_M_fill 2 = .ok (.aload_n 2, 1) ∧ 2 + 1 = 3 := ⟨by decide +kernel, rfl⟩
theorem d_M_fill_3 : decode b_M_fill 3 = .ok (.invokevirtual 124, 3) ∧ 3 + 3 = 6 := ⟨by decide +kernel, rfl⟩
theorem d_M_fill_6 : decode b_M_fill 6 = .ok (.iconst 0, 1) ∧ 6 + 1 = 7 := ⟨by decide +kernel, rfl⟩
theorem d_M_fill_7 : decode b_M_fill 7 = .ok (.istore_n 3, 1) ∧ 7 + 1 = 8 := ⟨by decide +kernel, rfl⟩
theorem d_M_fill_8 : decode b_M_fill 8 = .ok (.iload_n 3, 1) ∧ 8 + 1 = 9 := ⟨by decide +kernel, rfl⟩
theorem d_M_fill_9 : decode b_M_fill 9 = .ok (.sipush 481, 3) ∧ 9 + 3 = 12 := ⟨by decide +kernel, rfl⟩
theorem d_M_fill_12 : decode b_M_fill 12 = .ok (.if_icmp .ge 27, 3) ∧ 12 + 3 = 15 ∧ ((12 : Nat) : Int) + 27 = ((39 : Nat) : Int) := ⟨by decide +kernel, rfl, by decide⟩
theorem d_M_fill_15 : decode b_M_fill 15 = .ok (.aload_n 0, 1) ∧ 15 + 1 = 16 := ⟨by decide +kernel, rfl⟩
theorem d_M_fill_16 : decode b_M_fill 16 = .ok (.getfield 45, 3) ∧ 16 + 3 = 19 := ⟨by decide +kernel, rfl⟩
theorem d_M_fill_19 : decode b_M_fill 19 = .ok (.sipush 481, 3) ∧ 19 + 3 = 22 := ⟨by decide +kernel, rfl⟩
theorem d_M_fill_22 : decode b_M_fill 22 = .ok (.iload_n 1, 1) ∧ 22 + 1 = 23 := ⟨by decide +kernel, rfl⟩
theorem d_M_fill_23 : decode b_M_fill 23 = .ok (.imul, 1) ∧ 23 + 1 = 24 := ⟨by decide +kernel, rfl⟩
theorem d_M_fill_24 : decode b_M_fill 24 = .ok (.iload_n 3, 1) ∧ 24 + 1 = 25 := ⟨by decide +kernel, rfl⟩
theorem d_M_fill_25 : decode b_M_fill 25 = .ok (.iadd, 1) ∧ 25 + 1 = 26 := ⟨by decide +kernel, rfl⟩
theorem d_M_fill_26 : decode b_M_fill 26 = .ok (.aload_n 0, 1) ∧ 26 + 1 = 27 := ⟨by decide +kernel, rfl⟩
theorem d_M_fill_27 : decode b_M_fill 27 = .ok (.getfield 69, 3) ∧ 27 + 3 = 30 := ⟨by decide +kernel, rfl⟩
theorem d_M_fill_30 : decode b_M_fill 30 = .ok (.iload_n 3, 1) ∧ 30 + 1 = 31 := ⟨by decide +kernel, rfl⟩
theorem d_M_fill_31 : decode b_M_fill 31 = .ok (.iaload, 1) ∧ 31 + 1 = 32 := ⟨by decide +kernel, rfl⟩
theorem d_M_fill_32 : decode b_M_fill 32 = .ok (.iastore, 1) ∧ 32 + 1 = 33 := ⟨by decide +kernel, rfl⟩
theorem d_M_fill_33 : decode b_M_fill 33 = .ok (.iinc 3 1, 3) ∧ 33 + 3 = 36 := ⟨by decide +kernel, rfl⟩
theorem d_M_fill_36 : decode b_M_fill 36 = .ok (.goto (-28), 3) ∧ ((36 : Nat) : Int) + (-28) = ((8 : Nat) : Int) := ⟨by decide +kernel, by decide⟩
theorem d_M_fill_39 : decode b_M_fill 39 = .ok (.aload_n 0, 1) ∧ 39 + 1 = 40 := ⟨by decide +kernel, rfl⟩
theorem d_M_fill_40 : decode b_M_fill 40 = .ok (.getfield 42, 3) ∧ 40 + 3 = 43 := ⟨by decide +kernel, rfl⟩
theorem d_M_fill_43 : decode b_M_fill 43 = .ok (.iload_n 1, 1) ∧ 43 + 1 = 44 := ⟨by decide +kernel, rfl⟩
theorem d_M_fill_44 : decode b_M_fill 44 = .ok (.iconst 1, 1) ∧ 44 + 1 = 45 := ⟨by decide +kernel, rfl⟩
theorem d_M_fill_45 : decode b_M_fill 45 = .ok (.bastore, 1) ∧ 45 + 1 = 46 := ⟨by decide +kernel, rfl⟩
theorem d_M_fill_46 : decode b_M_fill 46 = .ok (.return_, 1) := by decide +kernel
theorem d_M_filledOnes_0 : decode b_M_filledOnes 0 = .ok (.iconst 0, 1) ∧ 0 + 1 = 1 := ⟨by decide +kernel, rfl⟩
theorem d_M_filledOnes_1 : decode b_M_filledOnes 1 = .ok (.istore_n 1, 1) ∧ 1 + 1 = 2 := ⟨by decide +kernel, rfl⟩
theorem d_M_filledOnes_2 : decode b_M_filledOnes 2 = .ok (.iconst 0, 1) ∧ 2 + 1 = 3 := ⟨by decide +kernel, rfl⟩
theorem d_M_filledOnes_3 : decode b_M_filledOnes 3 = .ok (.istore_n 2, 1) ∧ 3 + 1 = 4 := ⟨by decide +kernel, rfl⟩
theorem d_M_filledOnes_4 : decode b_M_filledOnes 4 = .ok (.iload_n 2, 1) ∧ 4 + 1 = 5 := ⟨by decide +kernel, rfl⟩
theorem d_M_filledOnes_5 : decode b_M_filledOnes 5 = .ok (.bipush 8, 2) ∧ 5 + 2 = 7 := ⟨by decide +kernel, rfl⟩
theorem d_M_filledOnes_7 : decode b_M_filledOnes 7 = .ok (.if_icmp .ge 28, 3) ∧ 7 + 3 = 10 ∧ ((7 : Nat) : Int) + 28 = ((35 : Nat) : Int) := ⟨by decide +kernel, rfl, by decide⟩
theorem d_M_filledOnes_10 : decode b_M_filledOnes 10 = .ok (.iload_n 1, 1) ∧ 10 + 1 = 11 := ⟨by decide +kernel, rfl⟩
