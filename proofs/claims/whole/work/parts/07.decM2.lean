theorem d_M_filledOnes_11 : decode b_M_filledOnes 11 = .ok (.aload_n 0, 1) ∧ 11 + 1 = 12 := ⟨by decide +kernel, rfl⟩
theorem d_M_filledOnes_12 : decode b_M_filledOnes 12 = .ok (.getfield 42, 3) ∧ 12 + 3 = 15 := ⟨by decide +kernel, rfl⟩
theorem d_M_filledOnes_15 : decode b_M_filledOnes 15 = .ok (.iload_n 2, 1) ∧ 15 + 1 = 16 := ⟨by decide +kernel, rfl⟩
theorem d_M_filledOnes_16 : decode b_M_filledOnes 16 = .ok (.baload, 1) ∧ 16 + 1 = 17 := ⟨by decide +kernel, rfl⟩
theorem d_M_filledOnes_17 : decode b_M_filledOnes 17 = .ok (.ifCond .eq 9, 3) ∧ 17 + 3 = 20 ∧ ((17 : Nat) : Int) + 9 = ((26 : Nat) : Int) := ⟨by decide +kernel, rfl, by decide⟩
theorem d_M_filledOnes_20 : decode b_M_filledOnes 20 = .ok (.iconst 1, 1) ∧ 20 + 1 = 21 := ⟨by decide +kernel, rfl⟩
theorem d_M_filledOnes_21 : decode b_M_filledOnes 21 = .ok (.iload_n 2, 1) ∧ 21 + 1 = 22 := ⟨by decide +kernel, rfl⟩
theorem d_M_filledOnes_22 : decode b_M_filledOnes 22 = .ok (.ishl, 1) ∧ 22 + 1 = 23 := ⟨by decide +kernel, rfl⟩
theorem d_M_filledOnes_23 : decode b_M_filledOnes 23 = .ok (.goto 4, 3) ∧ ((23 : Nat) : Int) + 4 = ((27 : Nat) : Int) := ⟨by decide +kernel, by decide⟩
theorem d_M_filledOnes_26 : decode b_M_filledOnes 26 = .ok (.iconst 0, 1) ∧ 26 + 1 = 27 := ⟨by decide +kernel, rfl⟩
theorem d_M_filledOnes_27 : decode b_M_filledOnes 27 = .ok (.iadd, 1) ∧ 27 + 1 = 28 := ⟨by decide +kernel, rfl⟩
theorem d_M_filledOnes_28 : decode b_M_filledOnes 28 = .ok (.istore_n 1, 1) ∧ 28 + 1 = 29 := ⟨by decide +kernel, rfl⟩
theorem d_M_filledOnes_29 : decode b_M_filledOnes 29 = .ok (.iinc 2 1, 3) ∧ 29 + 3 = 32 := ⟨by decide +kernel, rfl⟩
theorem d_M_filledOnes_32 : decode b_M_filledOnes 32 = .ok (.goto (-28), 3) ∧ ((32 : Nat) : Int) + (-28) = ((4 : Nat) : Int) := ⟨by decide +kernel, by decide⟩
theorem d_M_filledOnes_35 : decode b_M_filledOnes 35 = .ok (.iload_n 1, 1) ∧ 35 + 1 = 36 := ⟨by decide +kernel, rfl⟩
theorem d_M_filledOnes_36 : decode b_M_filledOnes 36 = .ok (.ireturn, 1) := by decide +kernel
theorem d_M_ghost_0 : decode b_M_ghost 0 = .ok (.iload_n 1, 1) ∧ 0 + 1 = 1 := ⟨by decide +kernel, rfl⟩
theorem d_M_ghost_1 : decode b_M_ghost 1 = .ok (.invokestatic 137, 3) ∧ 1 + 3 = 4 := ⟨by decide +kernel, rfl⟩
theorem d_M_ghost_4 : decode b_M_ghost 4 = .ok (.ifCond .ne 7, 3) ∧ 4 + 3 = 7 ∧ ((4 : Nat) : Int) + 7 = ((11 : Nat) : Int) := ⟨by decide +kernel, rfl, by decide⟩
theorem d_M_ghost_7 : decode b_M_ghost 7 = .ok (.iconst 1, 1) ∧ 7 + 1 = 8 := ⟨by decide +kernel, rfl⟩
theorem d_M_ghost_8 : decode b_M_ghost 8 = .ok (.goto 4, 3) ∧ ((8 : Nat) : Int) + 4 = ((12 : Nat) : Int) := ⟨by decide +kernel, by decide⟩
theorem d_M_ghost_11 : decode b_M_ghost 11 = .ok (.iconst 0, 1) ∧ 11 + 1 = 12 := ⟨by decide +kernel, rfl⟩
theorem d_M_ghost_12 : decode b_M_ghost 12 = .ok (.istore 4, 2) ∧ 12 + 2 = 14 := ⟨by decide +kernel, rfl⟩
theorem d_M_ghost_14 : decode b_M_ghost 14 = .ok (.aload_n 0, 1) ∧ 14 + 1 = 15 := ⟨by decide +kernel, rfl⟩
theorem d_M_ghost_15 : decode b_M_ghost 15 = .ok (.iload 4, 2) ∧ 15 + 2 = 17 := ⟨by decide +kernel, rfl⟩
theorem d_M_ghost_17 : decode b_M_ghost 17 = .ok (.aload_n 0, 1) ∧ 17 + 1 = 18 := ⟨by decide +kernel, rfl⟩
theorem d_M_ghost_18 : decode b_M_ghost 18 = .ok (.iload_n 2, 1) ∧ 18 + 1 = 19 := ⟨by decide +kernel, rfl⟩
theorem d_M_ghost_19 : decode b_M_ghost 19 = .ok (.iload_n 3, 1) ∧ 19 + 1 = 20 := ⟨by decide +kernel, rfl⟩
theorem d_M_ghost_20 : decode b_M_ghost 20 = .ok (.invokevirtual 99, 3) ∧ 20 + 3 = 23 := ⟨by decide +kernel, rfl⟩
theorem d_M_ghost_23 : decode b_M_ghost 23 = .ok (.ifCond .ne 7, 3) ∧ 23 + 3 = 26 ∧ ((23 : Nat) : Int) + 7 = ((30 : Nat) : Int) := ⟨by decide +kernel, rfl, by decide⟩
theorem d_M_ghost_26 : decode b_M_ghost 26 = .ok (.iconst 1, 1) ∧ 26 + 1 = 27 := ⟨by decide +kernel, rfl⟩
theorem d_M_ghost_27 : decode b_M_ghost 27 = .ok (.goto 4, 3) ∧ ((27 : Nat) : Int) + 4 = ((31 : Nat) : Int) := ⟨by decide +kernel, by decide⟩
theorem d_M_ghost_30 : decode b_M_ghost 30 = .ok (.iconst 0, 1) ∧ 30 + 1 = 31 := ⟨by decide +kernel, rfl⟩
theorem d_M_ghost_31 : decode b_M_ghost 31 = .ok (.invokevirtual 88, 3) ∧ 31 + 3 = 34 := ⟨by decide +kernel, rfl⟩
theorem d_M_ghost_34 : decode b_M_ghost 34 = .ok (.ifCond .eq 5, 3) ∧ 34 + 3 = 37 ∧ ((34 : Nat) : Int) + 5 = ((39 : Nat) : Int) := ⟨by decide +kernel, rfl, by decide⟩
theorem d_M_ghost_37 : decode b_M_ghost 37 = .ok (.iconst 0, 1) ∧ 37 + 1 = 38 := ⟨by decide +kernel, rfl⟩
theorem d_M_ghost_38 : decode b_M_ghost 38 = .ok (.ireturn, 1) := by decide +kernel
theorem d_M_ghost_39 : decode b_M_ghost 39 = .ok (.aload_n 0, 1) ∧ 39 + 1 = 40 := ⟨by decide +kernel, rfl⟩
theorem d_M_ghost_40 : decode b_M_ghost 40 = .ok (.iload_n 1, 1) ∧ 40 + 1 = 41 := ⟨by decide +kernel, rfl⟩
theorem d_M_ghost_41 : decode b_M_ghost 41 = .ok (.invokevirtual 140, 3) ∧ 41 + 3 = 44 := ⟨by decide +kernel, rfl⟩
theorem d_M_ghost_44 : decode b_M_ghost 44 = .ok (.ifCond .eq 10, 3) ∧ 44 + 3 = 47 ∧ ((44 : Nat) : Int) + 10 = ((54 : Nat) : Int) := ⟨by decide +kernel, rfl, by decide⟩
theorem d_M_ghost_47 : decode b_M_ghost 47 = .ok (.aload_n 0, 1) ∧ 47 + 1 = 48 := ⟨by decide +kernel, rfl⟩
theorem d_M_ghost_48 : decode b_M_ghost 48 = .ok (.iconst 3, 1) ∧ 48 + 1 = 49 := ⟨by decide +kernel, rfl⟩
theorem d_M_ghost_49 : decode b_M_ghost 49 = .ok (.putfield 81, 3) ∧ 49 + 3 = 52 := ⟨by decide +kernel, rfl⟩
theorem d_M_ghost_52 : decode b_M_ghost 52 = .ok (.iconst 0, 1) ∧ 52 + 1 = 53 := ⟨by decide +kernel, rfl⟩
theorem d_M_ghost_53 : decode b_M_ghost 53 = .ok (.ireturn, 1) := by decide +kernel
theorem d_M_ghost_54 : decode b_M_ghost 54 = .ok (.iconst 0, 1) ∧ 54 + 1 = 55 := ⟨by decide +kernel, rfl⟩
theorem d_M_ghost_55 : decode b_M_ghost 55 = .ok (.istore 5, 2) ∧ 55 + 2 = 57 := ⟨by decide +kernel, rfl⟩
theorem d_M_ghost_57 : decode b_M_ghost 57 = .ok (.iload 5, 2) ∧ 57 + 2 = 59 := ⟨by decide +kernel, rfl⟩
theorem d_M_ghost_59 : decode b_M_ghost 59 = .ok (.sipush 512, 3) ∧ 59 + 3 = 62 := ⟨by decide +kernel, rfl⟩
theorem d_M_ghost_62 : decode b_M_ghost 62 = .ok (.if_icmp .ge 17, 3) ∧ 62 + 3 = 65 ∧ ((62 : Nat) : Int) + 17 = ((79 : Nat) : Int) := ⟨by decide +kernel, rfl, by decide⟩
theorem d_M_ghost_65 : decode b_M_ghost 65 = .ok (.aload_n 0, 1) ∧ 65 + 1 = 66 := ⟨by decide +kernel, rfl⟩
theorem d_M_ghost_66 : decode b_M_ghost 66 = .ok (.getfield 75, 3) ∧ 66 + 3 = 69 := ⟨by decide +kernel, rfl⟩
theorem d_M_ghost_69 : decode b_M_ghost 69 = .ok (.iload 5, 2) ∧ 69 + 2 = 71 := ⟨by decide +kernel, rfl⟩
theorem d_M_ghost_71 : decode b_M_ghost 71 = .ok (.iconst 0, 1) ∧ 71 + 1 = 72 := ⟨by decide +kernel, rfl⟩
theorem d_M_ghost_72 : decode b_M_ghost 72 = .ok (.iastore, 1) ∧ 72 + 1 = 73 := ⟨by decide +kernel, rfl⟩
theorem d_M_ghost_73 : decode b_M_ghost 73 = .ok (.iinc 5 1, 3) ∧ 73 + 3 = 76 := ⟨by decide +kernel, rfl⟩
theorem d_M_ghost_76 : decode b_M_ghost 76 = .ok (.goto (-19), 3) ∧ ((76 : Nat) : Int) + (-19) = ((57 : Nat) : Int) := ⟨by decide +kernel, by decide⟩
theorem d_M_ghost_79 : decode b_M_ghost 79 = .ok (.aload_n 0, 1) ∧ 79 + 1 = 80 := ⟨by decide +kernel, rfl⟩
theorem d_M_ghost_80 : decode b_M_ghost 80 = .ok (.getfield 75, 3) ∧ 80 + 3 = 83 := ⟨by decide +kernel, rfl⟩
theorem d_M_ghost_83 : decode b_M_ghost 83 = .ok (.bipush 16, 2) ∧ 83 + 2 = 85 := ⟨by decide +kernel, rfl⟩
theorem d_M_ghost_85 : decode b_M_ghost 85 = .ok (.iconst 1, 1) ∧ 85 + 1 = 86 := ⟨by decide +kernel, rfl⟩
theorem d_M_ghost_86 : decode b_M_ghost 86 = .ok (.iastore, 1) ∧ 86 + 1 = 87 := ⟨by decide +kernel, rfl⟩
theorem d_M_ghost_87 : decode b_M_ghost 87 = .ok (.iconst 0, 1) ∧ 87 + 1 = 88 := ⟨by decide +kernel, rfl⟩
theorem d_M_ghost_88 : decode b_M_ghost 88 = .ok (.istore 5, 2) ∧ 88 + 2 = 90 := ⟨by decide +kernel, rfl⟩
theorem d_M_ghost_90 : decode b_M_ghost 90 = .ok (.iload 5, 2) ∧ 90 + 2 = 92 := ⟨by decide +kernel, rfl⟩
theorem d_M_ghost_92 : decode b_M_ghost 92 = .ok (.bipush 8, 2) ∧ 92 + 2 = 94 := ⟨by decide +kernel, rfl⟩
theorem d_M_ghost_94 : decode b_M_ghost 94 = .ok (.if_icmp .ge 37, 3) ∧ 94 + 3 = 97 ∧ ((94 : Nat) : Int) + 37 = ((131 : Nat) : Int) := ⟨by decide +kernel, rfl, by decide⟩
theorem d_M_ghost_97 : decode b_M_ghost 97 = .ok (.aload_n 0, 1) ∧ 97 + 1 = 98 := ⟨by decide +kernel, rfl⟩
theorem d_M_ghost_98 : decode b_M_ghost 98 = .ok (.iload_n 1, 1) ∧ 98 + 1 = 99 := ⟨by decide +kernel, rfl⟩
theorem d_M_ghost_99 : decode b_M_ghost 99 = .ok (.iload 5, 2) ∧ 99 + 2 = 101 := ⟨by decide +kernel, rfl⟩
theorem d_M_ghost_101 : decode b_M_ghost 101 = .ok (.invokevirtual 134, 3) ∧ 101 + 3 = 104 := ⟨by decide +kernel, rfl⟩
theorem d_M_ghost_104 : decode b_M_ghost 104 = .ok (.ifCond .eq 21, 3) ∧ 104 + 3 = 107 ∧ ((104 : Nat) : Int) + 21 = ((125 : Nat) : Int) := ⟨by decide +kernel, rfl, by decide⟩
theorem d_M_ghost_107 : decode b_M_ghost 107 = .ok (.aload_n 0, 1) ∧ 107 + 1 = 108 := ⟨by decide +kernel, rfl⟩
theorem d_M_ghost_108 : decode b_M_ghost 108 = .ok (.aload_n 0, 1) ∧ 108 + 1 = 109 := ⟨by decide +kernel, rfl⟩
theorem d_M_ghost_109 : decode b_M_ghost 109 = .ok (.getfield 36, 3) ∧ 109 + 3 = 112 := ⟨by decide +kernel, rfl⟩
theorem d_M_ghost_112 : decode b_M_ghost 112 = .ok (.iload 5, 2) ∧ 112 + 2 = 114 := ⟨by decide +kernel, rfl⟩
theorem d_M_ghost_114 : decode b_M_ghost 114 = .ok (.iaload, 1) ∧ 114 + 1 = 115 := ⟨by decide +kernel, rfl⟩
theorem d_M_ghost_115 : decode b_M_ghost 115 = .ok (.aload_n 0, 1) ∧ 115 + 1 = 116 := ⟨by decide +kernel, rfl⟩
theorem d_M_ghost_116 : decode b_M_ghost 116 = .ok (.getfield 39, 3) ∧ 116 + 3 = 119 := ⟨by decide +kernel, rfl⟩
theorem d_M_ghost_119 : decode b_M_ghost 119 = .ok (.iload 5, 2) ∧ 119 + 2 = 121 := ⟨by decide +kernel, rfl⟩
theorem d_M_ghost_121 : decode b_M_ghost 121 = .ok (.iaload, 1) ∧ 121 + 1 = 122 := ⟨by decide +kernel, rfl⟩
theorem d_M_ghost_122 : decode b_M_ghost 122 = .ok (.invokevirtual 180, 3) ∧ 122 + 3 = 125 := ⟨by decide +kernel, rfl⟩
theorem d_M_ghost_125 : decode b_M_ghost 125 = .ok (.iinc 5 1, 3) ∧ 125 + 3 = 128 := ⟨by decide +kernel, rfl⟩
theorem d_M_ghost_128 : decode b_M_ghost 128 = .ok (.goto (-38), 3) ∧ ((128 : Nat) : Int) + (-38) = ((90 : Nat) : Int) := ⟨by decide +kernel, by decide⟩
theorem d_M_ghost_131 : decode b_M_ghost 131 = .ok (.aload_n 0, 1) ∧ 131 + 1 = 132 := ⟨by decide +kernel, rfl⟩
theorem d_M_ghost_132 : decode b_M_ghost 132 = .ok (.getfield 75, 3) ∧ 132 + 3 = 135 := ⟨by decide +kernel, rfl⟩
theorem d_M_ghost_135 : decode b_M_ghost 135 = .ok (.bipush 32, 2) ∧ 135 + 2 = 137 := ⟨by decide +kernel, rfl⟩
theorem d_M_ghost_137 : decode b_M_ghost 137 = .ok (.iload_n 3, 1) ∧ 137 + 1 = 138 := ⟨by decide +kernel, rfl⟩
theorem d_M_ghost_138 : decode b_M_ghost 138 = .ok (.imul, 1) ∧ 138 + 1 = 139 := ⟨by decide +kernel, rfl⟩
theorem d_M_ghost_139 : decode b_M_ghost 139 = .ok (.iload_n 2, 1) ∧ 139 + 1 = 140 := ⟨by decide +kernel, rfl⟩
theorem d_M_ghost_140 : decode b_M_ghost 140 = .ok (.iadd, 1) ∧ 140 + 1 = 141 := ⟨by decide +kernel, rfl⟩
theorem d_M_ghost_141 : decode b_M_ghost 141 = .ok (.aload_n 0, 1) ∧ 141 + 1 = 142 := ⟨by decide +kernel, rfl⟩
theorem d_M_ghost_142 : decode b_M_ghost 142 = .ok (.invokevirtual 183, 3) ∧ 142 + 3 = 145 := ⟨by decide +kernel, rfl⟩
theorem d_M_ghost_145 : decode b_M_ghost 145 = .ok (.iadd, 1) ∧ 145 + 1 = 146 := ⟨by decide +kernel, rfl⟩
theorem d_M_ghost_146 : decode b_M_ghost 146 = .ok (.iaload, 1) ∧ 146 + 1 = 147 := ⟨by decide +kernel, rfl⟩
theorem d_M_ghost_147 : decode b_M_ghost 147 = .ok (.ireturn, 1) := by decide +kernel
theorem d_M_hasDirection_0 : decode b_M_hasDirection 0 = .ok (.iload_n 1, 1) ∧ 0 + 1 = 1 := ⟨by decide +kernel, rfl⟩
theorem d_M_hasDirection_1 : decode b_M_hasDirection 1 = .ok (.invokestatic 84, 3) ∧ 1 + 3 = 4 := ⟨by decide +kernel, rfl⟩
theorem d_M_hasDirection_4 : decode b_M_hasDirection 4 = .ok (.ifCond .eq 16, 3) ∧ 4 + 3 = 7 ∧ ((4 : Nat) : Int) + 16 = ((20 : Nat) : Int) := ⟨by decide +kernel, rfl, by decide⟩
theorem d_M_hasDirection_7 : decode b_M_hasDirection 7 = .ok (.aload_n 0, 1) ∧ 7 + 1 = 8 := ⟨by decide +kernel, rfl⟩
theorem d_M_hasDirection_8 : decode b_M_hasDirection 8 = .ok (.getfield 33, 3) ∧ 8 + 3 = 11 := ⟨by decide +kernel, rfl⟩
theorem d_M_hasDirection_11 : decode b_M_hasDirection 11 = .ok (.iload_n 1, 1) ∧ 11 + 1 = 12 := ⟨by decide +kernel, rfl⟩
theorem d_M_hasDirection_12 : decode b_M_hasDirection 12 = .ok (.baload, 1) ∧ 12 + 1 = 13 := ⟨by decide +kernel, rfl⟩
theorem d_M_hasDirection_13 : decode b_M_hasDirection 13 = .ok (.ifCond .eq 7, 3) ∧ 13 + 3 = 16 ∧ ((13 : Nat) : Int) + 7 = ((20 : Nat) : Int) := ⟨by decide +kernel, rfl, by decide⟩
theorem d_M_hasDirection_16 : decode b_M_hasDirection 16 = .ok (.iconst 1, 1) ∧ 16 + 1 = 17 := ⟨by decide +kernel, rfl⟩
theorem d_M_hasDirection_17 : decode b_M_hasDirection 17 = .ok (.goto 4, 3) ∧ ((17 : Nat) : Int) + 4 = ((21 : Nat) : Int) := ⟨by decide +kernel, by decide⟩
theorem d_M_hasDirection_20 : decode b_M_hasDirection 20 = .ok (.iconst 0, 1) ∧ 20 + 1 = 21 := ⟨by decide +kernel, rfl⟩
theorem d_M_hasDirection_21 : decode b_M_hasDirection 21 = .ok (.ireturn, 1) := by decide +kernel
theorem d_M_hasNoBin_0 : decode b_M_hasNoBin 0 = .ok (.aload_n 0, 1) ∧ 0 + 1 = 1 := ⟨by decide +kernel, rfl⟩
theorem d_M_hasNoBin_1 : decode b_M_hasNoBin 1 = .ok (.iload_n 1, 1) ∧ 1 + 1 = 2 := ⟨by decide +kernel, rfl⟩
theorem d_M_hasNoBin_2 : decode b_M_hasNoBin 2 = .ok (.invokestatic 84, 3) ∧ 2 + 3 = 5 := ⟨by decide +kernel, rfl⟩
theorem d_M_hasNoBin_5 : decode b_M_hasNoBin 5 = .ok (.ifCond .ne 7, 3) ∧ 5 + 3 = 8 ∧ ((5 : Nat) : Int) + 7 = ((12 : Nat) : Int) := ⟨by decide +kernel, rfl, by decide⟩
theorem d_M_hasNoBin_8 : decode b_M_hasNoBin 8 = .ok (.iconst 1, 1) ∧ 8 + 1 = 9 := ⟨by decide +kernel, rfl⟩
theorem d_M_hasNoBin_9 : decode b_M_hasNoBin 9 = .ok (.goto 4, 3) ∧ ((9 : Nat) : Int) + 4 = ((13 : Nat) : Int) := ⟨by decide +kernel, by decide⟩
theorem d_M_hasNoBin_12 : decode b_M_hasNoBin 12 = .ok (.iconst 0, 1) ∧ 12 + 1 = 13 := ⟨by decide +kernel, rfl⟩
theorem d_M_hasNoBin_13 : decode b_M_hasNoBin 13 = .ok (.aload_n 0, 1) ∧ 13 + 1 = 14 := ⟨by decide +kernel, rfl⟩
theorem d_M_hasNoBin_14 : decode b_M_hasNoBin 14 = .ok (.iload_n 1, 1) ∧ 14 + 1 = 15 := ⟨by decide +kernel, rfl⟩
theorem d_M_hasNoBin_15 : decode b_M_hasNoBin 15 = .ok (.invokevirtual 114, 3) ∧ 15 + 3 = 18 := ⟨by decide +kernel, rfl⟩
theorem d_M_hasNoBin_18 : decode b_M_hasNoBin 18 = .ok (.ifCond .eq 12, 3) ∧ 18 + 3 = 21 ∧ ((18 : Nat) : Int) + 12 = ((30 : Nat) : Int) := ⟨by decide +kernel, rfl, by decide⟩
theorem d_M_hasNoBin_21 : decode b_M_hasNoBin 21 = .ok (.aload_n 0, 1) ∧ 21 + 1 = 22 := ⟨by decide +kernel, rfl⟩
theorem d_M_hasNoBin_22 : decode b_M_hasNoBin 22 = .ok (.getfield 42, 3) ∧ 22 + 3 = 25 := ⟨by decide +kernel, rfl⟩
theorem d_M_hasNoBin_25 : decode b_M_hasNoBin 25 = .ok (.iload_n 1, 1) ∧ 25 + 1 = 26 := ⟨by decide +kernel, rfl⟩
theorem d_M_hasNoBin_26 : decode b_M_hasNoBin 26 = .ok (.baload, 1) ∧ 26 + 1 = 27 := ⟨by decide +kernel, rfl⟩
theorem d_M_hasNoBin_27 : decode b_M_hasNoBin 27 = .ok (.ifCond .ne 7, 3) ∧ 27 + 3 = 30 ∧ ((27 : Nat) : Int) + 7 = ((34 : Nat) : Int) := ⟨by decide +kernel, rfl, by decide⟩
theorem d_M_hasNoBin_30 : decode b_M_hasNoBin 30 = .ok (.iconst 1, 1) ∧ 30 + 1 = 31 := ⟨by decide +kernel, rfl⟩
theorem d_M_hasNoBin_31 : decode b_M_hasNoBin 31 = .ok (.goto 4, 3) ∧ ((31 : Nat) : Int) + 4 = ((35 : Nat) : Int) := ⟨by decide +kernel, by decide⟩
theorem d_M_hasNoBin_34 : decode b_M_hasNoBin 34 = .ok (.iconst 0, 1) ∧ 34 + 1 = 35 := ⟨by decide +kernel, rfl⟩
theorem d_M_hasNoBin_35 : decode b_M_hasNoBin 35 = .ok (.invokevirtual 88, 3) ∧ 35 + 3 = 38 := ⟨by decide +kernel, rfl⟩
theorem d_M_hasNoBin_38 : decode b_M_hasNoBin 38 = .ok (.ifCond .eq 5, 3) ∧ 38 + 3 = 41 ∧ ((38 : Nat) : Int) + 5 = ((43 : Nat) : Int) := ⟨by decide +kernel, rfl, by decide⟩
theorem d_M_hasNoBin_41 : decode b_M_hasNoBin 41 = .ok (.iconst 1, 1) ∧ 41 + 1 = 42 := ⟨by decide +kernel, rfl⟩
theorem d_M_hasNoBin_42 : decode b_M_hasNoBin 42 = .ok (.ireturn, 1) := by decide +kernel
theorem d_M_hasNoBin_43 : decode b_M_hasNoBin 43 = .ok (.aload_n 0, 1) ∧ 43 + 1 = 44 := ⟨by decide +kernel, rfl⟩
theorem d_M_hasNoBin_44 : decode b_M_hasNoBin 44 = .ok (.iload_n 2, 1) ∧ 44 + 1 = 45 := ⟨by decide +kernel, rfl⟩
theorem d_M_hasNoBin_45 : decode b_M_hasNoBin 45 = .ok (.ifCond .lt 12, 3) ∧ 45 + 3 = 48 ∧ ((45 : Nat) : Int) + 12 = ((57 : Nat) : Int) := ⟨by decide +kernel, rfl, by decide⟩
theorem d_M_hasNoBin_48 : decode b_M_hasNoBin 48 = .ok (.iload_n 2, 1) ∧ 48 + 1 = 49 := ⟨by decide +kernel, rfl⟩
theorem d_M_hasNoBin_49 : decode b_M_hasNoBin 49 = .ok (.aload_n 0, 1) ∧ 49 + 1 = 50 := ⟨by decide +kernel, rfl⟩
theorem d_M_hasNoBin_50 : decode b_M_hasNoBin 50 = .ok (.iload_n 1, 1) ∧ 50 + 1 = 51 := ⟨by decide +kernel, rfl⟩
theorem d_M_hasNoBin_51 : decode b_M_hasNoBin 51 = .ok (.invokevirtual 117, 3) ∧ 51 + 3 = 54 := ⟨by decide +kernel, rfl⟩
theorem d_M_hasNoBin_54 : decode b_M_hasNoBin 54 = .ok (.if_icmp .lt 7, 3) ∧ 54 + 3 = 57 ∧ ((54 : Nat) : Int) + 7 = ((61 : Nat) : Int) := ⟨by decide +kernel, rfl, by decide⟩
theorem d_M_hasNoBin_57 : decode b_M_hasNoBin 57 = .ok (.iconst 1, 1) ∧ 57 + 1 = 58 := ⟨by decide +kernel, rfl⟩
theorem d_M_hasNoBin_58 : decode b_M_hasNoBin 58 = .ok (.goto 4, 3) ∧ ((58 : Nat) : Int) + 4 = ((62 : Nat) : Int) := ⟨by decide +kernel, by decide⟩
theorem d_M_hasNoBin_61 : decode b_M_hasNoBin 61 = .ok (.iconst 0, 1) ∧ 61 + 1 = 62 := ⟨by decide +kernel, rfl⟩
theorem d_M_hasNoBin_62 : decode b_M_hasNoBin 62 = .ok (.iconst 0, 1) ∧ 62 + 1 = 63 := ⟨by decide +kernel, rfl⟩
theorem d_M_hasNoBin_63 : decode b_M_hasNoBin 63 = .ok (.invokevirtual 88, 3) ∧ 63 + 3 = 66 := ⟨by decide +kernel, rfl⟩
theorem d_M_hasNoBin_66 : decode b_M_hasNoBin 66 = .ok (.ireturn, 1) := by decide +kernel
theorem d_M_haveFactor_0 : decode b_M_haveFactor 0 = .ok (.iload_n 0, 1) ∧ 0 + 1 = 1 := ⟨by decide +kernel, rfl⟩
theorem d_M_haveFactor_1 : decode b_M_haveFactor 1 = .ok (.ifCond .ne 11, 3) ∧ 1 + 3 = 4 ∧ ((1 : Nat) : Int) + 11 = ((12 : Nat) : Int) := ⟨by decide +kernel, rfl, by decide⟩
theorem d_M_haveFactor_4 : decode b_M_haveFactor 4 = .ok (.iload_n 1, 1) ∧ 4 + 1 = 5 := ⟨by decide +kernel, rfl⟩
theorem d_M_haveFactor_5 : decode b_M_haveFactor 5 = .ok (.ifCond .ne 7, 3) ∧ 5 + 3 = 8 ∧ ((5 : Nat) : Int) + 7 = ((12 : Nat) : Int) := ⟨by decide +kernel, rfl, by decide⟩
theorem d_M_haveFactor_8 : decode b_M_haveFactor 8 = .ok (.iconst 1, 1) ∧ 8 + 1 = 9 := ⟨by decide +kernel, rfl⟩
theorem d_M_haveFactor_9 : decode b_M_haveFactor 9 = .ok (.goto 4, 3) ∧ ((9 : Nat) : Int) + 4 = ((13 : Nat) : Int) := ⟨by decide +kernel, by decide⟩
theorem d_M_haveFactor_12 : decode b_M_haveFactor 12 = .ok (.iconst 0, 1) ∧ 12 + 1 = 13 := ⟨by decide +kernel, rfl⟩
theorem d_M_haveFactor_13 : decode b_M_haveFactor 13 = .ok (.istore_n 2, 1) ∧ 13 + 1 = 14 := ⟨by decide +kernel, rfl⟩
theorem d_M_haveFactor_14 : decode b_M_haveFactor 14 = .ok (.iconst 2, 1) ∧ 14 + 1 = 15 := ⟨by decide +kernel, rfl⟩
theorem d_M_haveFactor_15 : decode b_M_haveFactor 15 = .ok (.istore_n 3, 1) ∧ 15 + 1 = 16 := ⟨by decide +kernel, rfl⟩
theorem d_M_haveFactor_16 : decode b_M_haveFactor 16 = .ok (.iload_n 3, 1) ∧ 16 + 1 = 17 := ⟨by decide +kernel, rfl⟩
theorem d_M_haveFactor_17 : decode b_M_haveFactor 17 = .ok (.bipush 16, 2) ∧ 17 + 2 = 19 := ⟨by decide +kernel, rfl⟩
theorem d_M_haveFactor_19 : decode b_M_haveFactor 19 = .ok (.if_icmp .gt 31, 3) ∧ 19 + 3 = 22 ∧ ((19 : Nat) : Int) + 31 = ((50 : Nat) : Int) := ⟨by decide +kernel, rfl, by decide⟩
theorem d_M_haveFactor_22 : decode b_M_haveFactor 22 = .ok (.iload_n 2, 1) ∧ 22 + 1 = 23 := ⟨by decide +kernel, rfl⟩
theorem d_M_haveFactor_23 : decode b_M_haveFactor 23 = .ok (.ifCond .ne 15, 3) ∧ 23 + 3 = 26 ∧ ((23 : Nat) : Int) + 15 = ((38 : Nat) : Int) := ⟨by decide +kernel, rfl, by decide⟩
theorem d_M_haveFactor_26 : decode b_M_haveFactor 26 = .ok (.iload_n 0, 1) ∧ 26 + 1 = 27 := ⟨by decide +kernel, rfl⟩
theorem d_M_haveFactor_27 : decode b_M_haveFactor 27 = .ok (.iload_n 3, 1) ∧ 27 + 1 = 28 := ⟨by decide +kernel, rfl⟩
theorem d_M_haveFactor_28 : decode b_M_haveFactor 28 = .ok (.irem, 1) ∧ 28 + 1 = 29 := ⟨by decide +kernel, rfl⟩
theorem d_M_haveFactor_29 : decode b_M_haveFactor 29 = .ok (.ifCond .ne 13, 3) ∧ 29 + 3 = 32 ∧ ((29 : Nat) : Int) + 13 = ((42 : Nat) : Int) := ⟨by decide +kernel, rfl, by decide⟩
theorem d_M_haveFactor_32 : decode b_M_haveFactor 32 = .ok (.iload_n 1, 1) ∧ 32 + 1 = 33 := ⟨by decide +kernel, rfl⟩
theorem d_M_haveFactor_33 : decode b_M_haveFactor 33 = .ok (.iload_n 3, 1) ∧ 33 + 1 = 34 := ⟨by decide +kernel, rfl⟩
theorem d_M_haveFactor_34 : decode b_M_haveFactor 34 = .ok (.irem, 1) ∧ 34 + 1 = 35 := ⟨by decide +kernel, rfl⟩
theorem d_M_haveFactor_35 : decode b_M_haveFactor 35 = .ok (.ifCond .ne 7, 3) ∧ 35 + 3 = 38 ∧ ((35 : Nat) : Int) + 7 = ((42 : Nat) : Int) := ⟨by decide +kernel, rfl, by decide⟩
theorem d_M_haveFactor_38 : decode b_M_haveFactor 38 = .ok (.iconst 1, 1) ∧ 38 + 1 = 39 := ⟨by decide +kernel, rfl⟩
theorem d_M_haveFactor_39 : decode b_M_haveFactor 39 = .ok (.goto 4, 3) ∧ ((39 : Nat) : Int) + 4 = ((43 : Nat) : Int) := ⟨by decide +kernel, by decide⟩
theorem d_M_haveFactor_42 : decode b_M_haveFactor 42 = .ok (.iconst 0, 1) ∧ 42 + 1 = 43 := ⟨by decide +kernel, rfl⟩
theorem d_M_haveFactor_43 : decode b_M_haveFactor 43 = .ok (.istore_n 2, 1) ∧ 43 + 1 = 44 := ⟨by decide +kernel, rfl⟩
theorem d_M_haveFactor_44 : decode b_M_haveFactor 44 = .ok (.iinc 3 1, 3) ∧ 44 + 3 = 47 := ⟨by decide +kernel, rfl⟩
theorem d_M_haveFactor_47 : decode b_M_haveFactor 47 = .ok (.goto (-31), 3) ∧ ((47 : Nat) : Int) + (-31) = ((16 : Nat) : Int) := ⟨by decide +kernel, by decide⟩
theorem d_M_haveFactor_50 : decode b_M_haveFactor 50 = .ok (.iload_n 2, 1) ∧ 50 + 1 = 51 := ⟨by decide +kernel, rfl⟩
theorem d_M_haveFactor_51 : decode b_M_haveFactor 51 = .ok (.ireturn, 1) := by decide +kernel
theorem d_M_init_0 : decode b_M_init 0 = .ok (.aload_n 0, 1) ∧ 0 + 1 = 1 := ⟨by decide +kernel, rfl⟩
theorem d_M_init_1 : decode b_M_init 1 = .ok (.invokespecial 1, 3) ∧ 1 + 3 = 4 := ⟨by decide +kernel, rfl⟩
theorem d_M_init_4 : decode b_M_init 4 = .ok (.aload_n 0, 1) ∧ 4 + 1 = 5 := ⟨by decide +kernel, rfl⟩
theorem d_M_init_5 : decode b_M_init 5 = .ok (.iconst 1, 1) ∧ 5 + 1 = 6 := ⟨by decide +kernel, rfl⟩
theorem d_M_init_6 : decode b_M_init 6 = .ok (.putfield 7, 3) ∧ 6 + 3 = 9 := ⟨by decide +kernel, rfl⟩
theorem d_M_init_9 : decode b_M_init 9 = .ok (.aload_n 0, 1) ∧ 9 + 1 = 10 := ⟨by decide +kernel, rfl⟩
theorem d_M_init_10 : decode b_M_init 10 = .ok (.iconst 1, 1) ∧ 10 + 1 = 11 := ⟨by decide +kernel, rfl⟩
theorem d_M_init_11 : decode b_M_init 11 = .ok (.putfield 13, 3) ∧ 11 + 3 = 14 := ⟨by decide +kernel, rfl⟩
theorem d_M_init_14 : decode b_M_init 14 = .ok (.aload_n 0, 1) ∧ 14 + 1 = 15 := ⟨by decide +kernel, rfl⟩
theorem d_M_init_15 : decode b_M_init 15 = .ok (.sipush 256, 3) ∧ 15 + 3 = 18 := ⟨by decide +kernel, rfl⟩
theorem d_M_init_18 : decode b_M_init 18 = .ok (.newarray .int, 2) ∧ 18 + 2 = 20 := ⟨by decide +kernel, rfl⟩
theorem d_M_init_20 : decode b_M_init 20 = .ok (.putfield 16, 3) ∧ 20 + 3 = 23 := ⟨by decide +kernel, rfl⟩
theorem d_M_init_23 : decode b_M_init 23 = .ok (.aload_n 0, 1) ∧ 23 + 1 = 24 := ⟨by decide +kernel, rfl⟩
theorem d_M_init_24 : decode b_M_init 24 = .ok (.sipush 256, 3) ∧ 24 + 3 = 27 := ⟨by decide +kernel, rfl⟩
theorem d_M_init_27 : decode b_M_init 27 = .ok (.newarray .int, 2) ∧ 27 + 2 = 29 := ⟨by decide +kernel, rfl⟩
theorem d_M_init_29 : decode b_M_init 29 = .ok (.putfield 20, 3) ∧ 29 + 3 = 32 := ⟨by decide +kernel, rfl⟩
theorem d_M_init_32 : decode b_M_init 32 = .ok (.aload_n 0, 1) ∧ 32 + 1 = 33 := ⟨by decide +kernel, rfl⟩
theorem d_M_init_33 : decode b_M_init 33 = .ok (.sipush 256, 3) ∧ 33 + 3 = 36 := ⟨by decide +kernel, rfl⟩
theorem d_M_init_36 : decode b_M_init 36 = .ok (.newarray .int, 2) ∧ 36 + 2 = 38 := ⟨by decide +kernel, rfl⟩
theorem d_M_init_38 : decode b_M_init 38 = .ok (.putfield 23, 3) ∧ 38 + 3 = 41 := ⟨by decide +kernel, rfl⟩
theorem d_M_init_41 : decode b_M_init 41 = .ok (.aload_n 0, 1) ∧ 41 + 1 = 42 := ⟨by decide +kernel, rfl⟩
theorem d_M_init_42 : decode b_M_init 42 = .ok (.sipush 256, 3) ∧ 42 + 3 = 45 := ⟨by decide +kernel, rfl⟩
theorem d_M_init_45 : decode b_M_init 45 = .ok (.newarray .int, 2) ∧ 45 + 2 = 47 := ⟨by decide +kernel, rfl⟩
theorem d_M_init_47 : decode b_M_init 47 = .ok (.putfield 26, 3) ∧ 47 + 3 = 50 := ⟨by decide +kernel, rfl⟩
theorem d_M_init_50 : decode b_M_init 50 = .ok (.aload_n 0, 1) ∧ 50 + 1 = 51 := ⟨by decide +kernel, rfl⟩
theorem d_M_init_51 : decode b_M_init 51 = .ok (.sipush 256, 3) ∧ 51 + 3 = 54 := ⟨by decide +kernel, rfl⟩
theorem d_M_init_54 : decode b_M_init 54 = .ok (.newarray .boolean, 2) ∧ 54 + 2 = 56 := ⟨by decide +kernel, rfl⟩
theorem d_M_init_56 : decode b_M_init 56 = .ok (.putfield 29, 3) ∧ 56 + 3 = 59 := ⟨by decide +kernel, rfl⟩
theorem d_M_init_59 : decode b_M_init 59 = .ok (.aload_n 0, 1) ∧ 59 + 1 = 60 := ⟨by decide +kernel, rfl⟩
theorem d_M_init_60 : decode b_M_init 60 = .ok (.bipush 8, 2) ∧ 60 + 2 = 62 := ⟨by decide +kernel, rfl⟩
theorem d_M_init_62 : decode b_M_init 62 = .ok (.newarray .boolean, 2) ∧ 62 + 2 = 64 := ⟨by decide +kernel, rfl⟩
theorem d_M_init_64 : decode b_M_init 64 = .ok (.putfield 33, 3) ∧ 64 + 3 = 67 := ⟨by decide +kernel, rfl⟩
theorem d_M_init_67 : decode b_M_init 67 = .ok (.aload_n 0, 1) ∧ 67 + 1 = 68 := ⟨by decide +kernel, rfl⟩
theorem d_M_init_68 : decode b_M_init 68 = .ok (.bipush 8, 2) ∧ 68 + 2 = 70 := ⟨by decide +kernel, rfl⟩
theorem d_M_init_70 : decode b_M_init 70 = .ok (.newarray .int, 2) ∧ 70 + 2 = 72 := ⟨by decide +kernel, rfl⟩
theorem d_M_init_72 : decode b_M_init 72 = .ok (.putfield 36, 3) ∧ 72 + 3 = 75 := ⟨by decide +kernel, rfl⟩
theorem d_M_init_75 : decode b_M_init 75 = .ok (.aload_n 0, 1) ∧ 75 + 1 = 76 := ⟨by decide +kernel, rfl⟩
theorem d_M_init_76 : decode b_M_init 76 = .ok (.bipush 8, 2) ∧ 76 + 2 = 78 := ⟨by decide +kernel, rfl⟩
theorem d_M_init_78 : decode b_M_init 78 = .ok (.newarray .int, 2) ∧ 78 + 2 = 80 := ⟨by decide +kernel, rfl⟩
theorem d_M_init_80 : decode b_M_init 80 = .ok (.putfield 39, 3) ∧ 80 + 3 = 83 := ⟨by decide +kernel, rfl⟩
theorem d_M_init_83 : decode b_M_init 83 = .ok (.aload_n 0, 1) ∧ 83 + 1 = 84 := ⟨by decide +kernel, rfl⟩
theorem d_M_init_84 : decode b_M_init 84 = .ok (.bipush 8, 2) ∧ 84 + 2 = 86 := ⟨by decide +kernel, rfl⟩
theorem d_M_init_86 : decode b_M_init 86 = .ok (.newarray .boolean, 2) ∧ 86 + 2 = 88 := ⟨by decide +kernel, rfl⟩
theorem d_M_init_88 : decode b_M_init 88 = .ok (.putfield 42, 3) ∧ 88 + 3 = 91 := ⟨by decide +kernel, rfl⟩
theorem d_M_init_91 : decode b_M_init 91 = .ok (.aload_n 0, 1) ∧ 91 + 1 = 92 := ⟨by decide +kernel, rfl⟩
theorem d_M_init_92 : decode b_M_init 92 = .ok (.sipush 3848, 3) ∧ 92 + 3 = 95 := ⟨by decide +kernel, rfl⟩
theorem d_M_init_95 : decode b_M_init 95 = .ok (.newarray .int, 2) ∧ 95 + 2 = 97 := ⟨by decide +kernel, rfl⟩
theorem d_M_init_97 : decode b_M_init 97 = .ok (.putfield 45, 3) ∧ 97 + 3 = 100 := ⟨by decide +kernel, rfl⟩
theorem d_M_init_100 : decode b_M_init 100 = .ok (.aload_n 0, 1) ∧ 100 + 1 = 101 := ⟨by decide +kernel, rfl⟩
theorem d_M_init_101 : decode b_M_init 101 = .ok (.bipush 8, 2) ∧ 101 + 2 = 103 := ⟨by decide +kernel, rfl⟩
theorem d_M_init_103 : decode b_M_init 103 = .ok (.newarray .boolean, 2) ∧ 103 + 2 = 105 := ⟨by decide +kernel, rfl⟩
theorem d_M_init_105 : decode b_M_init 105 = .ok (.putfield 48, 3) ∧ 105 + 3 = 108 := ⟨by decide +kernel, rfl⟩
theorem d_M_init_108 : decode b_M_init 108 = .ok (.aload_n 0, 1) ∧ 108 + 1 = 109 := ⟨by decide +kernel, rfl⟩
theorem d_M_init_109 : decode b_M_init 109 = .ok (.bipush 8, 2) ∧ 109 + 2 = 111 := ⟨by decide +kernel, rfl⟩
theorem d_M_init_111 : decode b_M_init 111 = .ok (.newarray .int, 2) ∧ 111 + 2 = 113 := ⟨by decide +kernel, rfl⟩
theorem d_M_init_113 : decode b_M_init 113 = .ok (.putfield 51, 3) ∧ 113 + 3 = 116 := ⟨by decide +kernel, rfl⟩
theorem d_M_init_116 : decode b_M_init 116 = .ok (.aload_n 0, 1) ∧ 116 + 1 = 117 := ⟨by decide +kernel, rfl⟩
theorem d_M_init_117 : decode b_M_init 117 = .ok (.bipush 8, 2) ∧ 117 + 2 = 119 := ⟨by decide +kernel, rfl⟩
theorem d_M_init_119 : decode b_M_init 119 = .ok (.newarray .int, 2) ∧ 119 + 2 = 121 := ⟨by decide +kernel, rfl⟩
theorem d_M_init_121 : decode b_M_init 121 = .ok (.putfield 54, 3) ∧ 121 + 3 = 124 := ⟨by decide +kernel, rfl⟩
theorem d_M_init_124 : decode b_M_init 124 = .ok (.aload_n 0, 1) ∧ 124 + 1 = 125 := ⟨by decide +kernel, rfl⟩
theorem d_M_init_125 : decode b_M_init 125 = .ok (.bipush 8, 2) ∧ 125 + 2 = 127 := ⟨by decide +kernel, rfl⟩
theorem d_M_init_127 : decode b_M_init 127 = .ok (.newarray .boolean, 2) ∧ 127 + 2 = 129 := ⟨by decide +kernel, rfl⟩
theorem d_M_init_129 : decode b_M_init 129 = .ok (.putfield 57, 3) ∧ 129 + 3 = 132 := ⟨by decide +kernel, rfl⟩
theorem d_M_init_132 : decode b_M_init 132 = .ok (.aload_n 0, 1) ∧ 132 + 1 = 133 := ⟨by decide +kernel, rfl⟩
theorem d_M_init_133 : decode b_M_init 133 = .ok (.sipush 3848, 3) ∧ 133 + 3 = 136 := ⟨by decide +kernel, rfl⟩
theorem d_M_init_136 : decode b_M_init 136 = .ok (.newarray .int, 2) ∧ 136 + 2 = 138 := ⟨by decide +kernel, rfl⟩
theorem d_M_init_138 : decode b_M_init 138 = .ok (.putfield 60, 3) ∧ 138 + 3 = 141 := ⟨by decide +kernel, rfl⟩
theorem d_M_init_141 : decode b_M_init 141 = .ok (.aload_n 0, 1) ∧ 141 + 1 = 142 := ⟨by decide +kernel, rfl⟩
theorem d_M_init_142 : decode b_M_init 142 = .ok (.sipush 3848, 3) ∧ 142 + 3 = 145 := ⟨by decide +kernel, rfl⟩
theorem d_M_init_145 : decode b_M_init 145 = .ok (.newarray .int, 2) ∧ 145 + 2 = 147 := ⟨by decide +kernel, rfl⟩
theorem d_M_init_147 : decode b_M_init 147 = .ok (.putfield 63, 3) ∧ 147 + 3 = 150 := ⟨by decide +kernel, rfl⟩
theorem d_M_init_150 : decode b_M_init 150 = .ok (.aload_n 0, 1) ∧ 150 + 1 = 151 := ⟨by decide +kernel, rfl⟩
theorem d_M_init_151 : decode b_M_init 151 = .ok (.sipush 3848, 3) ∧ 151 + 3 = 154 := ⟨by decide +kernel, rfl⟩
theorem d_M_init_154 : decode b_M_init 154 = .ok (.newarray .int, 2) ∧ 154 + 2 = 156 := ⟨by decide +kernel, rfl⟩
theorem d_M_init_156 : decode b_M_init 156 = .ok (.putfield 66, 3) ∧ 156 + 3 = 159 := ⟨by decide +kernel, rfl⟩
theorem d_M_init_159 : decode b_M_init 159 = .ok (.aload_n 0, 1) ∧ 159 + 1 = 160 := ⟨by decide +kernel, rfl⟩
theorem d_M_init_160 : decode b_M_init 160 = .ok (.sipush 481, 3) ∧ 160 + 3 = 163 := ⟨by decide +kernel, rfl⟩
theorem d_M_init_163 : decode b_M_init 163 = .ok (.newarray .int, 2) ∧ 163 + 2 = 165 := ⟨by decide +kernel, rfl⟩
theorem d_M_init_165 : decode b_M_init 165 = .ok (.putfield 69, 3) ∧ 165 + 3 = 168 := ⟨by decide +kernel, rfl⟩
theorem d_M_init_168 : decode b_M_init 168 = .ok (.aload_n 0, 1) ∧ 168 + 1 = 169 := ⟨by decide +kernel, rfl⟩
theorem d_M_init_169 : decode b_M_init 169 = .ok (.iconst (-1), 1) ∧ 169 + 1 = 170 := ⟨by decide +kernel, rfl⟩
theorem d_M_init_170 : decode b_M_init 170 = .ok (.putfield 72, 3) ∧ 170 + 3 = 173 := ⟨by decide +kernel, rfl⟩
theorem d_M_init_173 : decode b_M_init 173 = .ok (.aload_n 0, 1) ∧ 173 + 1 = 174 := ⟨by decide +kernel, rfl⟩
theorem d_M_init_174 : decode b_M_init 174 = .ok (.sipush 512, 3) ∧ 174 + 3 = 177 := ⟨by decide +kernel, rfl⟩
theorem d_M_init_177 : decode b_M_init 177 = .ok (.newarray .int, 2) ∧ 177 + 2 = 179 := ⟨by decide +kernel, rfl⟩
theorem d_M_init_179 : decode b_M_init 179 = .ok (.putfield 75, 3) ∧ 179 + 3 = 182 := ⟨by decide +kernel, rfl⟩
theorem d_M_init_182 : decode b_M_init 182 = .ok (.aload_n 0, 1) ∧ 182 + 1 = 183 := ⟨by decide +kernel, rfl⟩
theorem d_M_init_183 : decode b_M_init 183 = .ok (.sipush 512, 3) ∧ 183 + 3 = 186 := ⟨by decide +kernel, rfl⟩
theorem d_M_init_186 : decode b_M_init 186 = .ok (.newarray .int, 2) ∧ 186 + 2 = 188 := ⟨by decide +kernel, rfl⟩
theorem d_M_init_188 : decode b_M_init 188 = .ok (.putfield 78, 3) ∧ 188 + 3 = 191 := ⟨by decide +kernel, rfl⟩
theorem d_M_init_191 : decode b_M_init 191 = .ok (.return_, 1) := by decide +kernel
theorem d_M_isMask_0 : decode b_M_isMask 0 = .ok (.iload_n 0, 1) ∧ 0 + 1 = 1 := ⟨by decide +kernel, rfl⟩
theorem d_M_isMask_1 : decode b_M_isMask 1 = .ok (.ifCond .lt 14, 3) ∧ 1 + 3 = 4 ∧ ((1 : Nat) : Int) + 14 = ((15 : Nat) : Int) := ⟨by decide +kernel, rfl, by decide⟩
theorem d_M_isMask_4 : decode b_M_isMask 4 = .ok (.iload_n 0, 1) ∧ 4 + 1 = 5 := ⟨by decide +kernel, rfl⟩
theorem d_M_isMask_5 : decode b_M_isMask 5 = .ok (.sipush 256, 3) ∧ 5 + 3 = 8 := ⟨by decide +kernel, rfl⟩
theorem d_M_isMask_8 : decode b_M_isMask 8 = .ok (.if_icmp .ge 7, 3) ∧ 8 + 3 = 11 ∧ ((8 : Nat) : Int) + 7 = ((15 : Nat) : Int) := ⟨by decide +kernel, rfl, by decide⟩
theorem d_M_isMask_11 : decode b_M_isMask 11 = .ok (.iconst 1, 1) ∧ 11 + 1 = 12 := ⟨by decide +kernel, rfl⟩
theorem d_M_isMask_12 : decode b_M_isMask 12 = .ok (.goto 4, 3) ∧ ((12 : Nat) : Int) + 4 = ((16 : Nat) : Int) := ⟨by decide +kernel, by decide⟩
theorem d_M_isMask_15 : decode b_M_isMask 15 = .ok (.iconst 0, 1) ∧ 15 + 1 = 16 := ⟨by decide +kernel, rfl⟩
theorem d_M_isMask_16 : decode b_M_isMask 16 = .ok (.ireturn, 1) := by decide +kernel
theorem d_M_isOf_0 : decode b_M_isOf 0 = .ok (.iload_n 1, 1) ∧ 0 + 1 = 1 := ⟨by decide +kernel, rfl⟩
theorem d_M_isOf_1 : decode b_M_isOf 1 = .ok (.iload_n 2, 1) ∧ 1 + 1 = 2 := ⟨by decide +kernel, rfl⟩
theorem d_M_isOf_2 : decode b_M_isOf 2 = .ok (.ishr, 1) ∧ 2 + 1 = 3 := ⟨by decide +kernel, rfl⟩
theorem d_M_isOf_3 : decode b_M_isOf 3 = .ok (.iconst 1, 1) ∧ 3 + 1 = 4 := ⟨by decide +kernel, rfl⟩
theorem d_M_isOf_4 : decode b_M_isOf 4 = .ok (.iand, 1) ∧ 4 + 1 = 5 := ⟨by decide +kernel, rfl⟩
theorem d_M_isOf_5 : decode b_M_isOf 5 = .ok (.iconst 1, 1) ∧ 5 + 1 = 6 := ⟨by decide +kernel, rfl⟩
theorem d_M_isOf_6 : decode b_M_isOf 6 = .ok (.if_icmp .ne 16, 3) ∧ 6 + 3 = 9 ∧ ((6 : Nat) : Int) + 16 = ((22 : Nat) : Int) := ⟨by decide +kernel, rfl, by decide⟩
theorem d_M_isOf_9 : decode b_M_isOf 9 = .ok (.aload_n 0, 1) ∧ 9 + 1 = 10 := ⟨by decide +kernel, rfl⟩
theorem d_M_isOf_10 : decode b_M_isOf 10 = .ok (.getfield 33, 3) ∧ 10 + 3 = 13 := ⟨by decide +kernel, rfl⟩
theorem d_M_isOf_13 : decode b_M_isOf 13 = .ok (.iload_n 2, 1) ∧ 13 + 1 = 14 := ⟨by decide +kernel, rfl⟩
theorem d_M_isOf_14 : decode b_M_isOf 14 = .ok (.baload, 1) ∧ 14 + 1 = 15 := ⟨by decide +kernel, rfl⟩
theorem d_M_isOf_15 : decode b_M_isOf 15 = .ok (.ifCond .eq 7, 3) ∧ 15 + 3 = 18 ∧ ((15 : Nat) : Int) + 7 = ((22 : Nat) : Int) := ⟨by decide +kernel, rfl, by decide⟩
theorem d_M_isOf_18 : decode b_M_isOf 18 = .ok (.iconst 1, 1) ∧ 18 + 1 = 19 := ⟨by decide +kernel, rfl⟩
theorem d_M_isOf_19 : decode b_M_isOf 19 = .ok (.goto 4, 3) ∧ ((19 : Nat) : Int) + 4 = ((23 : Nat) : Int) := ⟨by decide +kernel, by decide⟩
theorem d_M_isOf_22 : decode b_M_isOf 22 = .ok (.iconst 0, 1) ∧ 22 + 1 = 23 := ⟨by decide +kernel, rfl⟩
theorem d_M_isOf_23 : decode b_M_isOf 23 = .ok (.ireturn, 1) := by decide +kernel
theorem d_M_isPixel_0 : decode b_M_isPixel 0 = .ok (.iload_n 1, 1) ∧ 0 + 1 = 1 := ⟨by decide +kernel, rfl⟩
theorem d_M_isPixel_1 : decode b_M_isPixel 1 = .ok (.ifCond .lt 27, 3) ∧ 1 + 3 = 4 ∧ ((1 : Nat) : Int) + 27 = ((28 : Nat) : Int) := ⟨by decide +kernel, rfl, by decide⟩
theorem d_M_isPixel_4 : decode b_M_isPixel 4 = .ok (.iload_n 1, 1) ∧ 4 + 1 = 5 := ⟨by decide +kernel, rfl⟩
theorem d_M_isPixel_5 : decode b_M_isPixel 5 = .ok (.aload_n 0, 1) ∧ 5 + 1 = 6 := ⟨by decide +kernel, rfl⟩
theorem d_M_isPixel_6 : decode b_M_isPixel 6 = .ok (.getfield 7, 3) ∧ 6 + 3 = 9 := ⟨by decide +kernel, rfl⟩
theorem d_M_isPixel_9 : decode b_M_isPixel 9 = .ok (.if_icmp .ge 19, 3) ∧ 9 + 3 = 12 ∧ ((9 : Nat) : Int) + 19 = ((28 : Nat) : Int) := ⟨by decide +kernel, rfl, by decide⟩
theorem d_M_isPixel_12 : decode b_M_isPixel 12 = .ok (.iload_n 2, 1) ∧ 12 + 1 = 13 := ⟨by decide +kernel, rfl⟩
theorem d_M_isPixel_13 : decode b_M_isPixel 13 = .ok (.ifCond .lt 15, 3) ∧ 13 + 3 = 16 ∧ ((13 : Nat) : Int) + 15 = ((28 : Nat) : Int) := ⟨by decide +kernel, rfl, by decide⟩
theorem d_M_isPixel_16 : decode b_M_isPixel 16 = .ok (.iload_n 2, 1) ∧ 16 + 1 = 17 := ⟨by decide +kernel, rfl⟩
theorem d_M_isPixel_17 : decode b_M_isPixel 17 = .ok (.aload_n 0, 1) ∧ 17 + 1 = 18 := ⟨by decide +kernel, rfl⟩
theorem d_M_isPixel_18 : decode b_M_isPixel 18 = .ok (.getfield 13, 3) ∧ 18 + 3 = 21 := ⟨by decide +kernel, rfl⟩
theorem d_M_isPixel_21 : decode b_M_isPixel 21 = .ok (.if_icmp .ge 7, 3) ∧ 21 + 3 = 24 ∧ ((21 : Nat) : Int) + 7 = ((28 : Nat) : Int) := ⟨by decide +kernel, rfl, by decide⟩
theorem d_M_isPixel_24 : decode b_M_isPixel 24 = .ok (.iconst 1, 1) ∧ 24 + 1 = 25 := ⟨by decide +kernel, rfl⟩
theorem d_M_isPixel_25 : decode b_M_isPixel 25 = .ok (.goto 4, 3) ∧ ((25 : Nat) : Int) + 4 = ((29 : Nat) : Int) := ⟨by decide +kernel, by decide⟩
theorem d_M_isPixel_28 : decode b_M_isPixel 28 = .ok (.iconst 0, 1) ∧ 28 + 1 = 29 := ⟨by decide +kernel, rfl⟩
theorem d_M_isPixel_29 : decode b_M_isPixel 29 = .ok (.ireturn, 1) := by decide +kernel
theorem d_M_isShelf_0 : decode b_M_isShelf 0 = .ok (.iload_n 0, 1) ∧ 0 + 1 = 1 := ⟨by decide +kernel, rfl⟩
theorem d_M_isShelf_1 : decode b_M_isShelf 1 = .ok (.ifCond .lt 13, 3) ∧ 1 + 3 = 4 ∧ ((1 : Nat) : Int) + 13 = ((14 : Nat) : Int) := ⟨by decide +kernel, rfl, by decide⟩
theorem d_M_isShelf_4 : decode b_M_isShelf 4 = .ok (.iload_n 0, 1) ∧ 4 + 1 = 5 := ⟨by decide +kernel, rfl⟩
theorem d_M_isShelf_5 : decode b_M_isShelf 5 = .ok (.bipush 8, 2) ∧ 5 + 2 = 7 := ⟨by decide +kernel, rfl⟩
theorem d_M_isShelf_7 : decode b_M_isShelf 7 = .ok (.if_icmp .ge 7, 3) ∧ 7 + 3 = 10 ∧ ((7 : Nat) : Int) + 7 = ((14 : Nat) : Int) := ⟨by decide +kernel, rfl, by decide⟩
theorem d_M_isShelf_10 : decode b_M_isShelf 10 = .ok (.iconst 1, 1) ∧ 10 + 1 = 11 := ⟨by decide +kernel, rfl⟩
theorem d_M_isShelf_11 : decode b_M_isShelf 11 = .ok (.goto 4, 3) ∧ ((11 : Nat) : Int) + 4 = ((15 : Nat) : Int) := ⟨by decide +kernel, by decide⟩
theorem d_M_isShelf_14 : decode b_M_isShelf 14 = .ok (.iconst 0, 1) ∧ 14 + 1 = 15 := ⟨by decide +kernel, rfl⟩
theorem d_M_isShelf_15 : decode b_M_isShelf 15 = .ok (.ireturn, 1) := by decide +kernel
theorem d_M_isTaken_0 : decode b_M_isTaken 0 = .ok (.iconst 0, 1) ∧ 0 + 1 = 1 := ⟨by decide +kernel, rfl⟩
theorem d_M_isTaken_1 : decode b_M_isTaken 1 = .ok (.istore 4, 2) ∧ 1 + 2 = 3 := ⟨by decide +kernel, rfl⟩
theorem d_M_isTaken_3 : decode b_M_isTaken 3 = .ok (.iconst 0, 1) ∧ 3 + 1 = 4 := ⟨by decide +kernel, rfl⟩
theorem d_M_isTaken_4 : decode b_M_isTaken 4 = .ok (.istore 5, 2) ∧ 4 + 2 = 6 := ⟨by decide +kernel, rfl⟩
theorem d_M_isTaken_6 : decode b_M_isTaken 6 = .ok (.iload 5, 2) ∧ 6 + 2 = 8 := ⟨by decide +kernel, rfl⟩
theorem d_M_isTaken_8 : decode b_M_isTaken 8 = .ok (.bipush 8, 2) ∧ 8 + 2 = 10 := ⟨by decide +kernel, rfl⟩
theorem d_M_isTaken_10 : decode b_M_isTaken 10 = .ok (.if_icmp .ge 59, 3) ∧ 10 + 3 = 13 ∧ ((10 : Nat) : Int) + 59 = ((69 : Nat) : Int) := ⟨by decide +kernel, rfl, by decide⟩
theorem d_M_isTaken_13 : decode b_M_isTaken 13 = .ok (.iload 4, 2) ∧ 13 + 2 = 15 := ⟨by decide +kernel, rfl⟩
theorem d_M_isTaken_15 : decode b_M_isTaken 15 = .ok (.ifCond .ne 41, 3) ∧ 15 + 3 = 18 ∧ ((15 : Nat) : Int) + 41 = ((56 : Nat) : Int) := ⟨by decide +kernel, rfl, by decide⟩
theorem d_M_isTaken_18 : decode b_M_isTaken 18 = .ok (.iload 5, 2) ∧ 18 + 2 = 20 := ⟨by decide +kernel, rfl⟩
theorem d_M_isTaken_20 : decode b_M_isTaken 20 = .ok (.iload_n 1, 1) ∧ 20 + 1 = 21 := ⟨by decide +kernel, rfl⟩
theorem d_M_isTaken_21 : decode b_M_isTaken 21 = .ok (.if_icmp .eq 39, 3) ∧ 21 + 3 = 24 ∧ ((21 : Nat) : Int) + 39 = ((60 : Nat) : Int) := ⟨by decide +kernel, rfl, by decide⟩
theorem d_M_isTaken_24 : decode b_M_isTaken 24 = .ok (.aload_n 0, 1) ∧ 24 + 1 = 25 := ⟨by decide +kernel, rfl⟩
theorem d_M_isTaken_25 : decode b_M_isTaken 25 = .ok (.getfield 33, 3) ∧ 25 + 3 = 28 := ⟨by decide +kernel, rfl⟩
theorem d_M_isTaken_28 : decode b_M_isTaken 28 = .ok (.iload 5, 2) ∧ 28 + 2 = 30 := ⟨by decide +kernel, rfl⟩
theorem d_M_isTaken_30 : decode b_M_isTaken 30 = .ok (.baload, 1) ∧ 30 + 1 = 31 := ⟨by decide +kernel, rfl⟩
theorem d_M_isTaken_31 : decode b_M_isTaken 31 = .ok (.ifCond .eq 29, 3) ∧ 31 + 3 = 34 ∧ ((31 : Nat) : Int) + 29 = ((60 : Nat) : Int) := ⟨by decide +kernel, rfl, by decide⟩
theorem d_M_isTaken_34 : decode b_M_isTaken 34 = .ok (.aload_n 0, 1) ∧ 34 + 1 = 35 := ⟨by decide +kernel, rfl⟩
theorem d_M_isTaken_35 : decode b_M_isTaken 35 = .ok (.getfield 36, 3) ∧ 35 + 3 = 38 := ⟨by decide +kernel, rfl⟩
theorem d_M_isTaken_38 : decode b_M_isTaken 38 = .ok (.iload 5, 2) ∧ 38 + 2 = 40 := ⟨by decide +kernel, rfl⟩
theorem d_M_isTaken_40 : decode b_M_isTaken 40 = .ok (.iaload, 1) ∧ 40 + 1 = 41 := ⟨by decide +kernel, rfl⟩
theorem d_M_isTaken_41 : decode b_M_isTaken 41 = .ok (.iload_n 2, 1) ∧ 41 + 1 = 42 := ⟨by decide +kernel, rfl⟩
theorem d_M_isTaken_42 : decode b_M_isTaken 42 = .ok (.if_icmp .ne 18, 3) ∧ 42 + 3 = 45 ∧ ((42 : Nat) : Int) + 18 = ((60 : Nat) : Int) := ⟨by decide +kernel, rfl, by decide⟩
theorem d_M_isTaken_45 : decode b_M_isTaken 45 = .ok (.aload_n 0, 1) ∧ 45 + 1 = 46 := ⟨by decide +kernel, rfl⟩
theorem d_M_isTaken_46 : decode b_M_isTaken 46 = .ok (.getfield 39, 3) ∧ 46 + 3 = 49 := ⟨by decide +kernel, rfl⟩
theorem d_M_isTaken_49 : decode b_M_isTaken 49 = .ok (.iload 5, 2) ∧ 49 + 2 = 51 := ⟨by decide +kernel, rfl⟩
theorem d_M_isTaken_51 : decode b_M_isTaken 51 = .ok (.iaload, 1) ∧ 51 + 1 = 52 := ⟨by decide +kernel, rfl⟩
theorem d_M_isTaken_52 : decode b_M_isTaken 52 = .ok (.iload_n 3, 1) ∧ 52 + 1 = 53 := ⟨by decide +kernel, rfl⟩
theorem d_M_isTaken_53 : decode b_M_isTaken 53 = .ok (.if_icmp .ne 7, 3) ∧ 53 + 3 = 56 ∧ ((53 : Nat) : Int) + 7 = ((60 : Nat) : Int) := ⟨by decide +kernel, rfl, by decide⟩
theorem d_M_isTaken_56 : decode b_M_isTaken 56 = .ok (.iconst 1, 1) ∧ 56 + 1 = 57 := ⟨by decide +kernel, rfl⟩
theorem d_M_isTaken_57 : decode b_M_isTaken 57 = .ok (.goto 4, 3) ∧ ((57 : Nat) : Int) + 4 = ((61 : Nat) : Int) := ⟨by decide +kernel, by decide⟩
theorem d_M_isTaken_60 : decode b_M_isTaken 60 = .ok (.iconst 0, 1) ∧ 60 + 1 = 61 := ⟨by decide +kernel, rfl⟩
theorem d_M_isTaken_61 : decode b_M_isTaken 61 = .ok (.istore 4, 2) ∧ 61 + 2 = 63 := ⟨by decide +kernel, rfl⟩
theorem d_M_isTaken_63 : decode b_M_isTaken 63 = .ok (.iinc 5 1, 3) ∧ 63 + 3 = 66 := ⟨by decide +kernel, rfl⟩
theorem d_M_isTaken_66 : decode b_M_isTaken 66 = .ok (.goto (-60), 3) ∧ ((66 : Nat) : Int) + (-60) = ((6 : Nat) : Int) := ⟨by decide +kernel, by decide⟩
theorem d_M_isTaken_69 : decode b_M_isTaken 69 = .ok (.iload 4, 2) ∧ 69 + 2 = 71 := ⟨by decide +kernel, rfl⟩
theorem d_M_isTaken_71 : decode b_M_isTaken 71 = .ok (.ireturn, 1) := by decide +kernel
theorem d_M_keep_0 : decode b_M_keep 0 = .ok (.aload_n 0, 1) ∧ 0 + 1 = 1 := ⟨by decide +kernel, rfl⟩
theorem d_M_keep_1 : decode b_M_keep 1 = .ok (.iconst 0, 1) ∧ 1 + 1 = 2 := ⟨by decide +kernel, rfl⟩
theorem d_M_keep_2 : decode b_M_keep 2 = .ok (.putfield 81, 3) ∧ 2 + 3 = 5 := ⟨by decide +kernel, rfl⟩
theorem d_M_keep_5 : decode b_M_keep 5 = .ok (.aload_n 0, 1) ∧ 5 + 1 = 6 := ⟨by decide +kernel, rfl⟩
theorem d_M_keep_6 : decode b_M_keep 6 = .ok (.iconst 1, 1) ∧ 6 + 1 = 7 := ⟨by decide +kernel, rfl⟩
theorem d_M_keep_7 : decode b_M_keep 7 = .ok (.putfield 92, 3) ∧ 7 + 3 = 10 := ⟨by decide +kernel, rfl⟩
theorem d_M_keep_10 : decode b_M_keep 10 = .ok (.iconst 0, 1) ∧ 10 + 1 = 11 := ⟨by decide +kernel, rfl⟩
theorem d_M_keep_11 : decode b_M_keep 11 = .ok (.istore_n 1, 1) ∧ 11 + 1 = 12 := ⟨by decide +kernel, rfl⟩
theorem d_M_keep_12 : decode b_M_keep 12 = .ok (.iload_n 1, 1) ∧ 12 + 1 = 13 := ⟨by decide +kernel, rfl⟩
theorem d_M_keep_13 : decode b_M_keep 13 = .ok (.sipush 256, 3) ∧ 13 + 3 = 16 := ⟨by decide +kernel, rfl⟩
theorem d_M_keep_16 : decode b_M_keep 16 = .ok (.if_icmp .ge 21, 3) ∧ 16 + 3 = 19 ∧ ((16 : Nat) : Int) + 21 = ((37 : Nat) : Int) := ⟨by decide +kernel, rfl, by decide⟩
theorem d_M_keep_19 : decode b_M_keep 19 = .ok (.aload_n 0, 1) ∧ 19 + 1 = 20 := ⟨by decide +kernel, rfl⟩
theorem d_M_keep_20 : decode b_M_keep 20 = .ok (.getfield 20, 3) ∧ 20 + 3 = 23 := ⟨by decide +kernel, rfl⟩
theorem d_M_keep_23 : decode b_M_keep 23 = .ok (.iload_n 1, 1) ∧ 23 + 1 = 24 := ⟨by decide +kernel, rfl⟩
theorem d_M_keep_24 : decode b_M_keep 24 = .ok (.aload_n 0, 1) ∧ 24 + 1 = 25 := ⟨by decide +kernel, rfl⟩
theorem d_M_keep_25 : decode b_M_keep 25 = .ok (.getfield 16, 3) ∧ 25 + 3 = 28 := ⟨by decide +kernel, rfl⟩
theorem d_M_keep_28 : decode b_M_keep 28 = .ok (.iload_n 1, 1) ∧ 28 + 1 = 29 := ⟨by decide +kernel, rfl⟩
theorem d_M_keep_29 : decode b_M_keep 29 = .ok (.iaload, 1) ∧ 29 + 1 = 30 := ⟨by decide +kernel, rfl⟩
theorem d_M_keep_30 : decode b_M_keep 30 = .ok (.iastore, 1) ∧ 30 + 1 = 31 := ⟨by decide +kernel, rfl⟩
theorem d_M_keep_31 : decode b_M_keep 31 = .ok (.iinc 1 1, 3) ∧ 31 + 3 = 34 := ⟨by decide +kernel, rfl⟩
theorem d_M_keep_34 : decode b_M_keep 34 = .ok (.goto (-22), 3) ∧ ((34 : Nat) : Int) + (-22) = ((12 : Nat) : Int) := ⟨by decide +kernel, by decide⟩
theorem d_M_keep_37 : decode b_M_keep 37 = .ok (.iconst 0, 1) ∧ 37 + 1 = 38 := ⟨by decide +kernel, rfl⟩
theorem d_M_keep_38 : decode b_M_keep 38 = .ok (.istore_n 1, 1) ∧ 38 + 1 = 39 := ⟨by decide +kernel, rfl⟩
theorem d_M_keep_39 : decode b_M_keep 39 = .ok (.iload_n 1, 1) ∧ 39 + 1 = 40 := ⟨by decide +kernel, rfl⟩
theorem d_M_keep_40 : decode b_M_keep 40 = .ok (.bipush 8, 2) ∧ 40 + 2 = 42 := ⟨by decide +kernel, rfl⟩
theorem d_M_keep_42 : decode b_M_keep 42 = .ok (.if_icmp .ge 57, 3) ∧ 42 + 3 = 45 ∧ ((42 : Nat) : Int) + 57 = ((99 : Nat) : Int) := ⟨by decide +kernel, rfl, by decide⟩
theorem d_M_keep_45 : decode b_M_keep 45 = .ok (.aload_n 0, 1) ∧ 45 + 1 = 46 := ⟨by decide +kernel, rfl⟩
theorem d_M_keep_46 : decode b_M_keep 46 = .ok (.getfield 48, 3) ∧ 46 + 3 = 49 := ⟨by decide +kernel, rfl⟩
theorem d_M_keep_49 : decode b_M_keep 49 = .ok (.iload_n 1, 1) ∧ 49 + 1 = 50 := ⟨by decide +kernel, rfl⟩
theorem d_M_keep_50 : decode b_M_keep 50 = .ok (.aload_n 0, 1) ∧ 50 + 1 = 51 := ⟨by decide +kernel, rfl⟩
theorem d_M_keep_51 : decode b_M_keep 51 = .ok (.getfield 33, 3) ∧ 51 + 3 = 54 := ⟨by decide +kernel, rfl⟩
theorem d_M_keep_54 : decode b_M_keep 54 = .ok (.iload_n 1, 1) ∧ 54 + 1 = 55 := ⟨by decide +kernel, rfl⟩
theorem d_M_keep_55 : decode b_M_keep 55 = .ok (.baload, 1) ∧ 55 + 1 = 56 := ⟨by decide +kernel, rfl⟩
theorem d_M_keep_56 : decode b_M_keep 56 = .ok (.bastore, 1) ∧ 56 + 1 = 57 := ⟨by decide +kernel, rfl⟩
theorem d_M_keep_57 : decode b_M_keep 57 = .ok (.aload_n 0, 1) ∧ 57 + 1 = 58 := ⟨by decide +kernel, rfl⟩
theorem d_M_keep_58 : decode b_M_keep 58 = .ok (.getfield 51, 3) ∧ 58 + 3 = 61 := ⟨by decide +kernel, rfl⟩
theorem d_M_keep_61 : decode b_M_keep 61 = .ok (.iload_n 1, 1) ∧ 61 + 1 = 62 := ⟨by decide +kernel, rfl⟩
theorem d_M_keep_62 : decode b_M_keep 62 = .ok (.aload_n 0, 1) ∧ 62 + 1 = 63 := ⟨by decide +kernel, rfl⟩
theorem d_M_keep_63 : decode b_M_keep 63 = .ok (.getfield 36, 3) ∧ 63 + 3 = 66 := ⟨by decide +kernel, rfl⟩
theorem d_M_keep_66 : decode b_M_keep 66 = .ok (.iload_n 1, 1) ∧ 66 + 1 = 67 := ⟨by decide +kernel, rfl⟩
theorem d_M_keep_67 : decode b_M_keep 67 = .ok (.iaload, 1) ∧ 67 + 1 = 68 := ⟨by decide +kernel, rfl⟩
theorem d_M_keep_68 : decode b_M_keep 68 = .ok (.iastore, 1) ∧ 68 + 1 = 69 := ⟨by decide +kernel, rfl⟩
theorem d_M_keep_69 : decode b_M_keep 69 = .ok (.aload_n 0, 1) ∧ 69 + 1 = 70 := ⟨by decide +kernel, rfl⟩
theorem d_M_keep_70 : decode b_M_keep 70 = .ok (.getfield 54, 3) ∧ 70 + 3 = 73 := ⟨by decide +kernel, rfl⟩
theorem d_M_keep_73 : decode b_M_keep 73 = .ok (.iload_n 1, 1) ∧ 73 + 1 = 74 := ⟨by decide +kernel, rfl⟩
theorem d_M_keep_74 : decode b_M_keep 74 = .ok (.aload_n 0, 1) ∧ 74 + 1 = 75 := ⟨by decide +kernel, rfl⟩
theorem d_M_keep_75 : decode b_M_keep 75 = .ok (.getfield 39, 3) ∧ 75 + 3 = 78 := ⟨by decide +kernel, rfl⟩
theorem d_M_keep_78 : decode b_M_keep 78 = .ok (.iload_n 1, 1) ∧ 78 + 1 = 79 := ⟨by decide +kernel, rfl⟩
theorem d_M_keep_79 : decode b_M_keep 79 = .ok (.iaload, 1) ∧ 79 + 1 = 80 := ⟨by decide +kernel, rfl⟩
theorem d_M_keep_80 : decode b_M_keep 80 = .ok (.iastore, 1) ∧ 80 + 1 = 81 := ⟨by decide +kernel, rfl⟩
theorem d_M_keep_81 : decode b_M_keep 81 = .ok (.aload_n 0, 1) ∧ 81 + 1 = 82 := ⟨by decide +kernel, rfl⟩
theorem d_M_keep_82 : decode b_M_keep 82 = .ok (.getfield 57, 3) ∧ 82 + 3 = 85 := ⟨by decide +kernel, rfl⟩
theorem d_M_keep_85 : decode b_M_keep 85 = .ok (.iload_n 1, 1) ∧ 85 + 1 = 86 := ⟨by decide +kernel, rfl⟩
theorem d_M_keep_86 : decode b_M_keep 86 = .ok (.aload_n 0, 1) ∧ 86 + 1 = 87 := ⟨by decide +kernel, rfl⟩
theorem d_M_keep_87 : decode b_M_keep 87 = .ok (.getfield 42, 3) ∧ 87 + 3 = 90 := ⟨by decide +kernel, rfl⟩
theorem d_M_keep_90 : decode b_M_keep 90 = .ok (.iload_n 1, 1) ∧ 90 + 1 = 91 := ⟨by decide +kernel, rfl⟩
theorem d_M_keep_91 : decode b_M_keep 91 = .ok (.baload, 1) ∧ 91 + 1 = 92 := ⟨by decide +kernel, rfl⟩
theorem d_M_keep_92 : decode b_M_keep 92 = .ok (.bastore, 1) ∧ 92 + 1 = 93 := ⟨by decide +kernel, rfl⟩
theorem d_M_keep_93 : decode b_M_keep 93 = .ok (.iinc 1 1, 3) ∧ 93 + 3 = 96 := ⟨by decide +kernel, rfl⟩
theorem d_M_keep_96 : decode b_M_keep 96 = .ok (.goto (-57), 3) ∧ ((96 : Nat) : Int) + (-57) = ((39 : Nat) : Int) := ⟨by decide +kernel, by decide⟩
theorem d_M_keep_99 : decode b_M_keep 99 = .ok (.iconst 0, 1) ∧ 99 + 1 = 100 := ⟨by decide +kernel, rfl⟩
theorem d_M_keep_100 : decode b_M_keep 100 = .ok (.istore_n 1, 1) ∧ 100 + 1 = 101 := ⟨by decide +kernel, rfl⟩
theorem d_M_keep_101 : decode b_M_keep 101 = .ok (.iload_n 1, 1) ∧ 101 + 1 = 102 := ⟨by decide +kernel, rfl⟩
theorem d_M_keep_102 : decode b_M_keep 102 = .ok (.sipush 3848, 3) ∧ 102 + 3 = 105 := ⟨by decide +kernel, rfl⟩
theorem d_M_keep_105 : decode b_M_keep 105 = .ok (.if_icmp .ge 21, 3) ∧ 105 + 3 = 108 ∧ ((105 : Nat) : Int) + 21 = ((126 : Nat) : Int) := ⟨by decide +kernel, rfl, by decide⟩
theorem d_M_keep_108 : decode b_M_keep 108 = .ok (.aload_n 0, 1) ∧ 108 + 1 = 109 := ⟨by decide +kernel, rfl⟩
theorem d_M_keep_109 : decode b_M_keep 109 = .ok (.getfield 60, 3) ∧ 109 + 3 = 112 := ⟨by decide +kernel, rfl⟩
theorem d_M_keep_112 : decode b_M_keep 112 = .ok (.iload_n 1, 1) ∧ 112 + 1 = 113 := ⟨by decide +kernel, rfl⟩
theorem d_M_keep_113 : decode b_M_keep 113 = .ok (.aload_n 0, 1) ∧ 113 + 1 = 114 := ⟨by decide +kernel, rfl⟩
theorem d_M_keep_114 : decode b_M_keep 114 = .ok (.getfield 45, 3) ∧ 114 + 3 = 117 := ⟨by decide +kernel, rfl⟩
theorem d_M_keep_117 : decode b_M_keep 117 = .ok (.iload_n 1, 1) ∧ 117 + 1 = 118 := ⟨by decide +kernel, rfl⟩
theorem d_M_keep_118 : decode b_M_keep 118 = .ok (.iaload, 1) ∧ 118 + 1 = 119 := ⟨by decide +kernel, rfl⟩
theorem d_M_keep_119 : decode b_M_keep 119 = .ok (.iastore, 1) ∧ 119 + 1 = 120 := ⟨by decide +kernel, rfl⟩
theorem d_M_keep_120 : decode b_M_keep 120 = .ok (.iinc 1 1, 3) ∧ 120 + 3 = 123 := ⟨by decide +kernel, rfl⟩
theorem d_M_keep_123 : decode b_M_keep 123 = .ok (.goto (-22), 3) ∧ ((123 : Nat) : Int) + (-22) = ((101 : Nat) : Int) := ⟨by decide +kernel, by decide⟩
theorem d_M_keep_126 : decode b_M_keep 126 = .ok (.return_, 1) := by decide +kernel
theorem d_M_learn_0 : decode b_M_learn 0 = .ok (.aload_n 0, 1) ∧ 0 + 1 = 1 := ⟨by decide +kernel, rfl⟩
theorem d_M_learn_1 : decode b_M_learn 1 = .ok (.getfield 26, 3) ∧ 1 + 3 = 4 := ⟨by decide +kernel, rfl⟩
theorem d_M_learn_4 : decode b_M_learn 4 = .ok (.bipush 16, 2) ∧ 4 + 2 = 6 := ⟨by decide +kernel, rfl⟩
theorem d_M_learn_6 : decode b_M_learn 6 = .ok (.iload_n 3, 1) ∧ 6 + 1 = 7 := ⟨by decide +kernel, rfl⟩
theorem d_M_learn_7 : decode b_M_learn 7 = .ok (.imul, 1) ∧ 7 + 1 = 8 := ⟨by decide +kernel, rfl⟩
theorem d_M_learn_8 : decode b_M_learn 8 = .ok (.iload_n 2, 1) ∧ 8 + 1 = 9 := ⟨by decide +kernel, rfl⟩
theorem d_M_learn_9 : decode b_M_learn 9 = .ok (.iadd, 1) ∧ 9 + 1 = 10 := ⟨by decide +kernel, rfl⟩
theorem d_M_learn_10 : decode b_M_learn 10 = .ok (.iload 4, 2) ∧ 10 + 2 = 12 := ⟨by decide +kernel, rfl⟩
theorem d_M_learn_12 : decode b_M_learn 12 = .ok (.iastore, 1) ∧ 12 + 1 = 13 := ⟨by decide +kernel, rfl⟩
theorem d_M_learn_13 : decode b_M_learn 13 = .ok (.aload_n 0, 1) ∧ 13 + 1 = 14 := ⟨by decide +kernel, rfl⟩
theorem d_M_learn_14 : decode b_M_learn 14 = .ok (.getfield 29, 3) ∧ 14 + 3 = 17 := ⟨by decide +kernel, rfl⟩
theorem d_M_learn_17 : decode b_M_learn 17 = .ok (.bipush 16, 2) ∧ 17 + 2 = 19 := ⟨by decide +kernel, rfl⟩
theorem d_M_learn_19 : decode b_M_learn 19 = .ok (.iload_n 3, 1) ∧ 19 + 1 = 20 := ⟨by decide +kernel, rfl⟩
theorem d_M_learn_20 : decode b_M_learn 20 = .ok (.imul, 1) ∧ 20 + 1 = 21 := ⟨by decide +kernel, rfl⟩
theorem d_M_learn_21 : decode b_M_learn 21 = .ok (.iload_n 2, 1) ∧ 21 + 1 = 22 := ⟨by decide +kernel, rfl⟩
theorem d_M_learn_22 : decode b_M_learn 22 = .ok (.iadd, 1) ∧ 22 + 1 = 23 := ⟨by decide +kernel, rfl⟩
theorem d_M_learn_23 : decode b_M_learn 23 = .ok (.iconst 1, 1) ∧ 23 + 1 = 24 := ⟨by decide +kernel, rfl⟩
theorem d_M_learn_24 : decode b_M_learn 24 = .ok (.bastore, 1) ∧ 24 + 1 = 25 := ⟨by decide +kernel, rfl⟩
theorem d_M_learn_25 : decode b_M_learn 25 = .ok (.aload_n 0, 1) ∧ 25 + 1 = 26 := ⟨by decide +kernel, rfl⟩
theorem d_M_learn_26 : decode b_M_learn 26 = .ok (.dup, 1) ∧ 26 + 1 = 27 := ⟨by decide +kernel, rfl⟩
theorem d_M_learn_27 : decode b_M_learn 27 = .ok (.getfield 143, 3) ∧ 27 + 3 = 30 := ⟨by decide +kernel, rfl⟩
theorem d_M_learn_30 : decode b_M_learn 30 = .ok (.iconst 1, 1) ∧ 30 + 1 = 31 := ⟨by decide +kernel, rfl⟩
theorem d_M_learn_31 : decode b_M_learn 31 = .ok (.iadd, 1) ∧ 31 + 1 = 32 := ⟨by decide +kernel, rfl⟩
theorem d_M_learn_32 : decode b_M_learn 32 = .ok (.putfield 143, 3) ∧ 32 + 3 = 35 := ⟨by decide +kernel, rfl⟩
theorem d_M_learn_35 : decode b_M_learn 35 = .ok (.iconst 0, 1) ∧ 35 + 1 = 36 := ⟨by decide +kernel, rfl⟩
theorem d_M_learn_36 : decode b_M_learn 36 = .ok (.istore 5, 2) ∧ 36 + 2 = 38 := ⟨by decide +kernel, rfl⟩
theorem d_M_learn_38 : decode b_M_learn 38 = .ok (.iload 5, 2) ∧ 38 + 2 = 40 := ⟨by decide +kernel, rfl⟩
theorem d_M_learn_40 : decode b_M_learn 40 = .ok (.bipush 8, 2) ∧ 40 + 2 = 42 := ⟨by decide +kernel, rfl⟩
theorem d_M_learn_42 : decode b_M_learn 42 = .ok (.if_icmp .ge 62, 3) ∧ 42 + 3 = 45 ∧ ((42 : Nat) : Int) + 62 = ((104 : Nat) : Int) := ⟨by decide +kernel, rfl, by decide⟩
theorem d_M_learn_45 : decode b_M_learn 45 = .ok (.aload_n 0, 1) ∧ 45 + 1 = 46 := ⟨by decide +kernel, rfl⟩
theorem d_M_learn_46 : decode b_M_learn 46 = .ok (.iload_n 1, 1) ∧ 46 + 1 = 47 := ⟨by decide +kernel, rfl⟩
theorem d_M_learn_47 : decode b_M_learn 47 = .ok (.iload 5, 2) ∧ 47 + 2 = 49 := ⟨by decide +kernel, rfl⟩
theorem d_M_learn_49 : decode b_M_learn 49 = .ok (.invokevirtual 134, 3) ∧ 49 + 3 = 52 := ⟨by decide +kernel, rfl⟩
theorem d_M_learn_52 : decode b_M_learn 52 = .ok (.ifCond .ne 6, 3) ∧ 52 + 3 = 55 ∧ ((52 : Nat) : Int) + 6 = ((58 : Nat) : Int) := ⟨by decide +kernel, rfl, by decide⟩
theorem d_M_learn_55 : decode b_M_learn 55 = .ok (.goto 43, 3) ∧ ((55 : Nat) : Int) + 43 = ((98 : Nat) : Int) := ⟨by decide +kernel, by decide⟩
theorem d_M_learn_58 : decode b_M_learn 58 = .ok (.sipush 481, 3) ∧ 58 + 3 = 61 := ⟨by decide +kernel, rfl⟩
theorem d_M_learn_61 : decode b_M_learn 61 = .ok (.iload 5, 2) ∧ 61 + 2 = 63 := ⟨by decide +kernel, rfl⟩
theorem d_M_learn_63 : decode b_M_learn 63 = .ok (.imul, 1) ∧ 63 + 1 = 64 := ⟨by decide +kernel, rfl⟩
theorem d_M_learn_64 : decode b_M_learn 64 = .ok (.aload_n 0, 1) ∧ 64 + 1 = 65 := ⟨by decide +kernel, rfl⟩
theorem d_M_learn_65 : decode b_M_learn 65 = .ok (.iload 5, 2) ∧ 65 + 2 = 67 := ⟨by decide +kernel, rfl⟩
theorem d_M_learn_67 : decode b_M_learn 67 = .ok (.iload_n 2, 1) ∧ 67 + 1 = 68 := ⟨by decide +kernel, rfl⟩
theorem d_M_learn_68 : decode b_M_learn 68 = .ok (.iload_n 3, 1) ∧ 68 + 1 = 69 := ⟨by decide +kernel, rfl⟩
theorem d_M_learn_69 : decode b_M_learn 69 = .ok (.invokevirtual 120, 3) ∧ 69 + 3 = 72 := ⟨by decide +kernel, rfl⟩
theorem d_M_learn_72 : decode b_M_learn 72 = .ok (.iadd, 1) ∧ 72 + 1 = 73 := ⟨by decide +kernel, rfl⟩
theorem d_M_learn_73 : decode b_M_learn 73 = .ok (.istore 6, 2) ∧ 73 + 2 = 75 := ⟨by decide +kernel, rfl⟩
theorem d_M_learn_75 : decode b_M_learn 75 = .ok (.aload_n 0, 1) ∧ 75 + 1 = 76 := ⟨by decide +kernel, rfl⟩
theorem d_M_learn_76 : decode b_M_learn 76 = .ok (.getfield 63, 3) ∧ 76 + 3 = 79 := ⟨by decide +kernel, rfl⟩
theorem d_M_learn_79 : decode b_M_learn 79 = .ok (.iload 6, 2) ∧ 79 + 2 = 81 := ⟨by decide +kernel, rfl⟩
theorem d_M_learn_81 : decode b_M_learn 81 = .ok (.dup2, 1) ∧ 81 + 1 = 82 := ⟨by decide +kernel, rfl⟩
theorem d_M_learn_82 : decode b_M_learn 82 = .ok (.iaload, 1) ∧ 82 + 1 = 83 := ⟨by decide +kernel, rfl⟩
theorem d_M_learn_83 : decode b_M_learn 83 = .ok (.iconst 1, 1) ∧ 83 + 1 = 84 := ⟨by decide +kernel, rfl⟩
theorem d_M_learn_84 : decode b_M_learn 84 = .ok (.isub, 1) ∧ 84 + 1 = 85 := ⟨by decide +kernel, rfl⟩
theorem d_M_learn_85 : decode b_M_learn 85 = .ok (.iastore, 1) ∧ 85 + 1 = 86 := ⟨by decide +kernel, rfl⟩
theorem d_M_learn_86 : decode b_M_learn 86 = .ok (.aload_n 0, 1) ∧ 86 + 1 = 87 := ⟨by decide +kernel, rfl⟩
theorem d_M_learn_87 : decode b_M_learn 87 = .ok (.getfield 66, 3) ∧ 87 + 3 = 90 := ⟨by decide +kernel, rfl⟩
theorem d_M_learn_90 : decode b_M_learn 90 = .ok (.iload 6, 2) ∧ 90 + 2 = 92 := ⟨by decide +kernel, rfl⟩
theorem d_M_learn_92 : decode b_M_learn 92 = .ok (.dup2, 1) ∧ 92 + 1 = 93 := ⟨by decide +kernel, rfl⟩
theorem d_M_learn_93 : decode b_M_learn 93 = .ok (.iaload, 1) ∧ 93 + 1 = 94 := ⟨by decide +kernel, rfl⟩
theorem d_M_learn_94 : decode b_M_learn 94 = .ok (.iload 4, 2) ∧ 94 + 2 = 96 := ⟨by decide +kernel, rfl⟩
theorem d_M_learn_96 : decode b_M_learn 96 = .ok (.isub, 1) ∧ 96 + 1 = 97 := ⟨by decide +kernel, rfl⟩
theorem d_M_learn_97 : decode b_M_learn 97 = .ok (.iastore, 1) ∧ 97 + 1 = 98 := ⟨by decide +kernel, rfl⟩
theorem d_M_learn_98 : decode b_M_learn 98 = .ok (.iinc 5 1, 3) ∧ 98 + 3 = 101 := ⟨by decide +kernel, rfl⟩
theorem d_M_learn_101 : decode b_M_learn 101 = .ok (.goto (-63), 3) ∧ ((101 : Nat) : Int) + (-63) = ((38 : Nat) : Int) := ⟨by decide +kernel, by decide⟩
theorem d_M_learn_104 : decode b_M_learn 104 = .ok (.return_, 1) := by decide +kernel
theorem d_M_learnOf_0 : decode b_M_learnOf 0 = .ok (.iload_n 2, 1) ∧ 0 + 1 = 1 := ⟨by decide +kernel, rfl⟩
theorem d_M_learnOf_1 : decode b_M_learnOf 1 = .ok (.sipush 481, 3) ∧ 1 + 3 = 4 := ⟨by decide +kernel, rfl⟩
theorem d_M_learnOf_4 : decode b_M_learnOf 4 = .ok (.idiv, 1) ∧ 4 + 1 = 5 := ⟨by decide +kernel, rfl⟩
theorem d_M_learnOf_5 : decode b_M_learnOf 5 = .ok (.istore_n 3, 1) ∧ 5 + 1 = 6 := ⟨by decide +kernel, rfl⟩
theorem d_M_learnOf_6 : decode b_M_learnOf 6 = .ok (.iload_n 2, 1) ∧ 6 + 1 = 7 := ⟨by decide +kernel, rfl⟩
theorem d_M_learnOf_7 : decode b_M_learnOf 7 = .ok (.sipush 481, 3) ∧ 7 + 3 = 10 := ⟨by decide +kernel, rfl⟩
theorem d_M_learnOf_10 : decode b_M_learnOf 10 = .ok (.irem, 1) ∧ 10 + 1 = 11 := ⟨by decide +kernel, rfl⟩
theorem d_M_learnOf_11 : decode b_M_learnOf 11 = .ok (.istore 4, 2) ∧ 11 + 2 = 13 := ⟨by decide +kernel, rfl⟩
theorem d_M_learnOf_13 : decode b_M_learnOf 13 = .ok (.iconst 0, 1) ∧ 13 + 1 = 14 := ⟨by decide +kernel, rfl⟩
theorem d_M_learnOf_14 : decode b_M_learnOf 14 = .ok (.istore 5, 2) ∧ 14 + 2 = 16 := ⟨by decide +kernel, rfl⟩
theorem d_M_learnOf_16 : decode b_M_learnOf 16 = .ok (.iload 5, 2) ∧ 16 + 2 = 18 := ⟨by decide +kernel, rfl⟩
theorem d_M_learnOf_18 : decode b_M_learnOf 18 = .ok (.aload_n 0, 1) ∧ 18 + 1 = 19 := ⟨by decide +kernel, rfl⟩
theorem d_M_learnOf_19 : decode b_M_learnOf 19 = .ok (.getfield 13, 3) ∧ 19 + 3 = 22 := ⟨by decide +kernel, rfl⟩
theorem d_M_learnOf_22 : decode b_M_learnOf 22 = .ok (.if_icmp .ge 76, 3) ∧ 22 + 3 = 25 ∧ ((22 : Nat) : Int) + 76 = ((98 : Nat) : Int) := ⟨by decide +kernel, rfl, by decide⟩
theorem d_M_learnOf_25 : decode b_M_learnOf 25 = .ok (.iconst 0, 1) ∧ 25 + 1 = 26 := ⟨by decide +kernel, rfl⟩
theorem d_M_learnOf_26 : decode b_M_learnOf 26 = .ok (.istore 6, 2) ∧ 26 + 2 = 28 := ⟨by decide +kernel, rfl⟩
theorem d_M_learnOf_28 : decode b_M_learnOf 28 = .ok (.iload 6, 2) ∧ 28 + 2 = 30 := ⟨by decide +kernel, rfl⟩
theorem d_M_learnOf_30 : decode b_M_learnOf 30 = .ok (.aload_n 0, 1) ∧ 30 + 1 = 31 := ⟨by decide +kernel, rfl⟩
theorem d_M_learnOf_31 : decode b_M_learnOf 31 = .ok (.getfield 7, 3) ∧ 31 + 3 = 34 := ⟨by decide +kernel, rfl⟩
theorem d_M_learnOf_34 : decode b_M_learnOf 34 = .ok (.if_icmp .ge 58, 3) ∧ 34 + 3 = 37 ∧ ((34 : Nat) : Int) + 58 = ((92 : Nat) : Int) := ⟨by decide +kernel, rfl, by decide⟩
theorem d_M_learnOf_37 : decode b_M_learnOf 37 = .ok (.aload_n 0, 1) ∧ 37 + 1 = 38 := ⟨by decide +kernel, rfl⟩
theorem d_M_learnOf_38 : decode b_M_learnOf 38 = .ok (.getfield 29, 3) ∧ 38 + 3 = 41 := ⟨by decide +kernel, rfl⟩
theorem d_M_learnOf_41 : decode b_M_learnOf 41 = .ok (.bipush 16, 2) ∧ 41 + 2 = 43 := ⟨by decide +kernel, rfl⟩
theorem d_M_learnOf_43 : decode b_M_learnOf 43 = .ok (.iload 5, 2) ∧ 43 + 2 = 45 := ⟨by decide +kernel, rfl⟩
theorem d_M_learnOf_45 : decode b_M_learnOf 45 = .ok (.imul, 1) ∧ 45 + 1 = 46 := ⟨by decide +kernel, rfl⟩
theorem d_M_learnOf_46 : decode b_M_learnOf 46 = .ok (.iload 6, 2) ∧ 46 + 2 = 48 := ⟨by decide +kernel, rfl⟩
theorem d_M_learnOf_48 : decode b_M_learnOf 48 = .ok (.iadd, 1) ∧ 48 + 1 = 49 := ⟨by decide +kernel, rfl⟩
theorem d_M_learnOf_49 : decode b_M_learnOf 49 = .ok (.baload, 1) ∧ 49 + 1 = 50 := ⟨by decide +kernel, rfl⟩
theorem d_M_learnOf_50 : decode b_M_learnOf 50 = .ok (.ifCond .ne 36, 3) ∧ 50 + 3 = 53 ∧ ((50 : Nat) : Int) + 36 = ((86 : Nat) : Int) := ⟨by decide +kernel, rfl, by decide⟩
theorem d_M_learnOf_53 : decode b_M_learnOf 53 = .ok (.aload_n 0, 1) ∧ 53 + 1 = 54 := ⟨by decide +kernel, rfl⟩
theorem d_M_learnOf_54 : decode b_M_learnOf 54 = .ok (.iload_n 3, 1) ∧ 54 + 1 = 55 := ⟨by decide +kernel, rfl⟩
theorem d_M_learnOf_55 : decode b_M_learnOf 55 = .ok (.iload 6, 2) ∧ 55 + 2 = 57 := ⟨by decide +kernel, rfl⟩
theorem d_M_learnOf_57 : decode b_M_learnOf 57 = .ok (.iload 5, 2) ∧ 57 + 2 = 59 := ⟨by decide +kernel, rfl⟩
theorem d_M_learnOf_59 : decode b_M_learnOf 59 = .ok (.invokevirtual 120, 3) ∧ 59 + 3 = 62 := ⟨by decide +kernel, rfl⟩
theorem d_M_learnOf_62 : decode b_M_learnOf 62 = .ok (.iload 4, 2) ∧ 62 + 2 = 64 := ⟨by decide +kernel, rfl⟩
theorem d_M_learnOf_64 : decode b_M_learnOf 64 = .ok (.if_icmp .eq 6, 3) ∧ 64 + 3 = 67 ∧ ((64 : Nat) : Int) + 6 = ((70 : Nat) : Int) := ⟨by decide +kernel, rfl, by decide⟩
theorem d_M_learnOf_67 : decode b_M_learnOf 67 = .ok (.goto 19, 3) ∧ ((67 : Nat) : Int) + 19 = ((86 : Nat) : Int) := ⟨by decide +kernel, by decide⟩
theorem d_M_learnOf_70 : decode b_M_learnOf 70 = .ok (.aload_n 0, 1) ∧ 70 + 1 = 71 := ⟨by decide +kernel, rfl⟩
theorem d_M_learnOf_71 : decode b_M_learnOf 71 = .ok (.iload_n 1, 1) ∧ 71 + 1 = 72 := ⟨by decide +kernel, rfl⟩
theorem d_M_learnOf_72 : decode b_M_learnOf 72 = .ok (.iload 6, 2) ∧ 72 + 2 = 74 := ⟨by decide +kernel, rfl⟩
theorem d_M_learnOf_74 : decode b_M_learnOf 74 = .ok (.iload 5, 2) ∧ 74 + 2 = 76 := ⟨by decide +kernel, rfl⟩
theorem d_M_learnOf_76 : decode b_M_learnOf 76 = .ok (.aload_n 0, 1) ∧ 76 + 1 = 77 := ⟨by decide +kernel, rfl⟩
theorem d_M_learnOf_77 : decode b_M_learnOf 77 = .ok (.getfield 66, 3) ∧ 77 + 3 = 80 := ⟨by decide +kernel, rfl⟩
theorem d_M_learnOf_80 : decode b_M_learnOf 80 = .ok (.iload_n 2, 1) ∧ 80 + 1 = 81 := ⟨by decide +kernel, rfl⟩
theorem d_M_learnOf_81 : decode b_M_learnOf 81 = .ok (.iaload, 1) ∧ 81 + 1 = 82 := ⟨by decide +kernel, rfl⟩
theorem d_M_learnOf_82 : decode b_M_learnOf 82 = .ok (.invokevirtual 146, 3) ∧ 82 + 3 = 85 := ⟨by decide +kernel, rfl⟩
theorem d_M_learnOf_85 : decode b_M_learnOf 85 = .ok (.return_, 1) := by decide +kernel
theorem d_M_learnOf_86 : decode b_M_learnOf 86 = .ok (.iinc 6 1, 3) ∧ 86 + 3 = 89 := ⟨by decide +kernel, rfl⟩
theorem d_M_learnOf_89 : decode b_M_learnOf 89 = .ok (.goto (-61), 3) ∧ ((89 : Nat) : Int) + (-61) = ((28 : Nat) : Int) := ⟨by decide +kernel, by decide⟩
theorem d_M_learnOf_92 : decode b_M_learnOf 92 = .ok (.iinc 5 1, 3) ∧ 92 + 3 = 95 := ⟨by decide +kernel, rfl⟩
theorem d_M_learnOf_95 : decode b_M_learnOf 95 = .ok (.goto (-79), 3) ∧ ((95 : Nat) : Int) + (-79) = ((16 : Nat) : Int) := ⟨by decide +kernel, by decide⟩
theorem d_M_learnOf_98 : decode b_M_learnOf 98 = .ok (.return_, 1) := by decide +kernel
theorem d_M_look_0 : decode b_M_look 0 = .ok (.iload_n 1, 1) ∧ 0 + 1 = 1 := ⟨by decide +kernel, rfl⟩
theorem d_M_look_1 : decode b_M_look 1 = .ok (.iconst 1, 1) ∧ 1 + 1 = 2 := ⟨by decide +kernel, rfl⟩
theorem d_M_look_2 : decode b_M_look 2 = .ok (.if_icmp .ne 10, 3) ∧ 2 + 3 = 5 ∧ ((2 : Nat) : Int) + 10 = ((12 : Nat) : Int) := ⟨by decide +kernel, rfl, by decide⟩
theorem d_M_look_5 : decode b_M_look 5 = .ok (.aload_n 0, 1) ∧ 5 + 1 = 6 := ⟨by decide +kernel, rfl⟩
theorem d_M_look_6 : decode b_M_look 6 = .ok (.getfield 92, 3) ∧ 6 + 3 = 9 := ⟨by decide +kernel, rfl⟩
theorem d_M_look_9 : decode b_M_look 9 = .ok (.ifCond .eq 15, 3) ∧ 9 + 3 = 12 ∧ ((9 : Nat) : Int) + 15 = ((24 : Nat) : Int) := ⟨by decide +kernel, rfl, by decide⟩
theorem d_M_look_12 : decode b_M_look 12 = .ok (.iload_n 1, 1) ∧ 12 + 1 = 13 := ⟨by decide +kernel, rfl⟩
theorem d_M_look_13 : decode b_M_look 13 = .ok (.iconst 2, 1) ∧ 13 + 1 = 14 := ⟨by decide +kernel, rfl⟩
theorem d_M_look_14 : decode b_M_look 14 = .ok (.if_icmp .ne 14, 3) ∧ 14 + 3 = 17 ∧ ((14 : Nat) : Int) + 14 = ((28 : Nat) : Int) := ⟨by decide +kernel, rfl, by decide⟩
theorem d_M_look_17 : decode b_M_look 17 = .ok (.aload_n 0, 1) ∧ 17 + 1 = 18 := ⟨by decide +kernel, rfl⟩
theorem d_M_look_18 : decode b_M_look 18 = .ok (.getfield 96, 3) ∧ 18 + 3 = 21 := ⟨by decide +kernel, rfl⟩
theorem d_M_look_21 : decode b_M_look 21 = .ok (.ifCond .ne 7, 3) ∧ 21 + 3 = 24 ∧ ((21 : Nat) : Int) + 7 = ((28 : Nat) : Int) := ⟨by decide +kernel, rfl, by decide⟩
theorem d_M_look_24 : decode b_M_look 24 = .ok (.iconst 1, 1) ∧ 24 + 1 = 25 := ⟨by decide +kernel, rfl⟩
theorem d_M_look_25 : decode b_M_look 25 = .ok (.goto 4, 3) ∧ ((25 : Nat) : Int) + 4 = ((29 : Nat) : Int) := ⟨by decide +kernel, by decide⟩
theorem d_M_look_28 : decode b_M_look 28 = .ok (.iconst 0, 1) ∧ 28 + 1 = 29 := ⟨by decide +kernel, rfl⟩
theorem d_M_look_29 : decode b_M_look 29 = .ok (.istore 4, 2) ∧ 29 + 2 = 31 := ⟨by decide +kernel, rfl⟩
theorem d_M_look_31 : decode b_M_look 31 = .ok (.aload_n 0, 1) ∧ 31 + 1 = 32 := ⟨by decide +kernel, rfl⟩
theorem d_M_look_32 : decode b_M_look 32 = .ok (.iload_n 1, 1) ∧ 32 + 1 = 33 := ⟨by decide +kernel, rfl⟩
theorem d_M_look_33 : decode b_M_look 33 = .ok (.ifCond .lt 17, 3) ∧ 33 + 3 = 36 ∧ ((33 : Nat) : Int) + 17 = ((50 : Nat) : Int) := ⟨by decide +kernel, rfl, by decide⟩
theorem d_M_look_36 : decode b_M_look 36 = .ok (.iload_n 1, 1) ∧ 36 + 1 = 37 := ⟨by decide +kernel, rfl⟩
theorem d_M_look_37 : decode b_M_look 37 = .ok (.iconst 2, 1) ∧ 37 + 1 = 38 := ⟨by decide +kernel, rfl⟩
theorem d_M_look_38 : decode b_M_look 38 = .ok (.if_icmp .gt 12, 3) ∧ 38 + 3 = 41 ∧ ((38 : Nat) : Int) + 12 = ((50 : Nat) : Int) := ⟨by decide +kernel, rfl, by decide⟩
theorem d_M_look_41 : decode b_M_look 41 = .ok (.aload_n 0, 1) ∧ 41 + 1 = 42 := ⟨by decide +kernel, rfl⟩
theorem d_M_look_42 : decode b_M_look 42 = .ok (.iload_n 2, 1) ∧ 42 + 1 = 43 := ⟨by decide +kernel, rfl⟩
theorem d_M_look_43 : decode b_M_look 43 = .ok (.iload_n 3, 1) ∧ 43 + 1 = 44 := ⟨by decide +kernel, rfl⟩
theorem d_M_look_44 : decode b_M_look 44 = .ok (.invokevirtual 99, 3) ∧ 44 + 3 = 47 := ⟨by decide +kernel, rfl⟩
theorem d_M_look_47 : decode b_M_look 47 = .ok (.ifCond .ne 7, 3) ∧ 47 + 3 = 50 ∧ ((47 : Nat) : Int) + 7 = ((54 : Nat) : Int) := ⟨by decide +kernel, rfl, by decide⟩
theorem d_M_look_50 : decode b_M_look 50 = .ok (.iconst 1, 1) ∧ 50 + 1 = 51 := ⟨by decide +kernel, rfl⟩
theorem d_M_look_51 : decode b_M_look 51 = .ok (.goto 4, 3) ∧ ((51 : Nat) : Int) + 4 = ((55 : Nat) : Int) := ⟨by decide +kernel, by decide⟩
theorem d_M_look_54 : decode b_M_look 54 = .ok (.iconst 0, 1) ∧ 54 + 1 = 55 := ⟨by decide +kernel, rfl⟩
theorem d_M_look_55 : decode b_M_look 55 = .ok (.iload 4, 2) ∧ 55 + 2 = 57 := ⟨by decide +kernel, rfl⟩
theorem d_M_look_57 : decode b_M_look 57 = .ok (.invokevirtual 88, 3) ∧ 57 + 3 = 60 := ⟨by decide +kernel, rfl⟩
theorem d_M_look_60 : decode b_M_look 60 = .ok (.ifCond .eq 5, 3) ∧ 60 + 3 = 63 ∧ ((60 : Nat) : Int) + 5 = ((65 : Nat) : Int) := ⟨by decide +kernel, rfl, by decide⟩
theorem d_M_look_63 : decode b_M_look 63 = .ok (.iconst 0, 1) ∧ 63 + 1 = 64 := ⟨by decide +kernel, rfl⟩
theorem d_M_look_64 : decode b_M_look 64 = .ok (.ireturn, 1) := by decide +kernel
theorem d_M_look_65 : decode b_M_look 65 = .ok (.bipush 16, 2) ∧ 65 + 2 = 67 := ⟨by decide +kernel, rfl⟩
theorem d_M_look_67 : decode b_M_look 67 = .ok (.iload_n 3, 1) ∧ 67 + 1 = 68 := ⟨by decide +kernel, rfl⟩
theorem d_M_look_68 : decode b_M_look 68 = .ok (.imul, 1) ∧ 68 + 1 = 69 := ⟨by decide +kernel, rfl⟩
theorem d_M_look_69 : decode b_M_look 69 = .ok (.iload_n 2, 1) ∧ 69 + 1 = 70 := ⟨by decide +kernel, rfl⟩
theorem d_M_look_70 : decode b_M_look 70 = .ok (.iadd, 1) ∧ 70 + 1 = 71 := ⟨by decide +kernel, rfl⟩
theorem d_M_look_71 : decode b_M_look 71 = .ok (.istore 5, 2) ∧ 71 + 2 = 73 := ⟨by decide +kernel, rfl⟩
theorem d_M_look_73 : decode b_M_look 73 = .ok (.iload_n 1, 1) ∧ 73 + 1 = 74 := ⟨by decide +kernel, rfl⟩
theorem d_M_look_74 : decode b_M_look 74 = .ok (.ifCond .ne 13, 3) ∧ 74 + 3 = 77 ∧ ((74 : Nat) : Int) + 13 = ((87 : Nat) : Int) := ⟨by decide +kernel, rfl, by decide⟩
theorem d_M_look_77 : decode b_M_look 77 = .ok (.aload_n 0, 1) ∧ 77 + 1 = 78 := ⟨by decide +kernel, rfl⟩
theorem d_M_look_78 : decode b_M_look 78 = .ok (.getfield 16, 3) ∧ 78 + 3 = 81 := ⟨by decide +kernel, rfl⟩
theorem d_M_look_81 : decode b_M_look 81 = .ok (.iload 5, 2) ∧ 81 + 2 = 83 := ⟨by decide +kernel, rfl⟩
theorem d_M_look_83 : decode b_M_look 83 = .ok (.iaload, 1) ∧ 83 + 1 = 84 := ⟨by decide +kernel, rfl⟩
theorem d_M_look_84 : decode b_M_look 84 = .ok (.goto 25, 3) ∧ ((84 : Nat) : Int) + 25 = ((109 : Nat) : Int) := ⟨by decide +kernel, by decide⟩
theorem d_M_look_87 : decode b_M_look 87 = .ok (.iload_n 1, 1) ∧ 87 + 1 = 88 := ⟨by decide +kernel, rfl⟩
theorem d_M_look_88 : decode b_M_look 88 = .ok (.iconst 1, 1) ∧ 88 + 1 = 89 := ⟨by decide +kernel, rfl⟩
theorem d_M_look_89 : decode b_M_look 89 = .ok (.if_icmp .ne 13, 3) ∧ 89 + 3 = 92 ∧ ((89 : Nat) : Int) + 13 = ((102 : Nat) : Int) := ⟨by decide +kernel, rfl, by decide⟩
theorem d_M_look_92 : decode b_M_look 92 = .ok (.aload_n 0, 1) ∧ 92 + 1 = 93 := ⟨by decide +kernel, rfl⟩
theorem d_M_look_93 : decode b_M_look 93 = .ok (.getfield 20, 3) ∧ 93 + 3 = 96 := ⟨by decide +kernel, rfl⟩
theorem d_M_look_96 : decode b_M_look 96 = .ok (.iload 5, 2) ∧ 96 + 2 = 98 := ⟨by decide +kernel, rfl⟩
theorem d_M_look_98 : decode b_M_look 98 = .ok (.iaload, 1) ∧ 98 + 1 = 99 := ⟨by decide +kernel, rfl⟩
theorem d_M_look_99 : decode b_M_look 99 = .ok (.goto 10, 3) ∧ ((99 : Nat) : Int) + 10 = ((109 : Nat) : Int) := ⟨by decide +kernel, by decide⟩
theorem d_M_look_102 : decode b_M_look 102 = .ok (.aload_n 0, 1) ∧ 102 + 1 = 103 := ⟨by decide +kernel, rfl⟩
theorem d_M_look_103 : decode b_M_look 103 = .ok (.getfield 23, 3) ∧ 103 + 3 = 106 := ⟨by decide +kernel, rfl⟩
theorem d_M_look_106 : decode b_M_look 106 = .ok (.iload 5, 2) ∧ 106 + 2 = 108 := ⟨by decide +kernel, rfl⟩
theorem d_M_look_108 : decode b_M_look 108 = .ok (.iaload, 1) ∧ 108 + 1 = 109 := ⟨by decide +kernel, rfl⟩
theorem d_M_look_109 : decode b_M_look 109 = .ok (.ireturn, 1) := by decide +kernel
theorem d_M_lowestColumn_0 : decode b_M_lowestColumn 0 = .ok (.iconst 0, 1) ∧ 0 + 1 = 1 := ⟨by decide +kernel, rfl⟩
theorem d_M_lowestColumn_1 : decode b_M_lowestColumn 1 = .ok (.istore_n 1, 1) ∧ 1 + 1 = 2 := ⟨by decide +kernel, rfl⟩
theorem d_M_lowestColumn_2 : decode b_M_lowestColumn 2 = .ok (.iload_n 1, 1) ∧ 2 + 1 = 3 := ⟨by decide +kernel, rfl⟩
theorem d_M_lowestColumn_3 : decode b_M_lowestColumn 3 = .ok (.bipush 32, 2) ∧ 3 + 2 = 5 := ⟨by decide +kernel, rfl⟩
theorem d_M_lowestColumn_5 : decode b_M_lowestColumn 5 = .ok (.if_icmp .ge 39, 3) ∧ 5 + 3 = 8 ∧ ((5 : Nat) : Int) + 39 = ((44 : Nat) : Int) := ⟨by decide +kernel, rfl, by decide⟩
theorem d_M_lowestColumn_8 : decode b_M_lowestColumn 8 = .ok (.iconst 0, 1) ∧ 8 + 1 = 9 := ⟨by decide +kernel, rfl⟩
theorem d_M_lowestColumn_9 : decode b_M_lowestColumn 9 = .ok (.istore_n 2, 1) ∧ 9 + 1 = 10 := ⟨by decide +kernel, rfl⟩
theorem d_M_lowestColumn_10 : decode b_M_lowestColumn 10 = .ok (.iload_n 2, 1) ∧ 10 + 1 = 11 := ⟨by decide +kernel, rfl⟩
theorem d_M_lowestColumn_11 : decode b_M_lowestColumn 11 = .ok (.bipush 16, 2) ∧ 11 + 2 = 13 := ⟨by decide +kernel, rfl⟩
theorem d_M_lowestColumn_13 : decode b_M_lowestColumn 13 = .ok (.if_icmp .ge 25, 3) ∧ 13 + 3 = 16 ∧ ((13 : Nat) : Int) + 25 = ((38 : Nat) : Int) := ⟨by decide +kernel, rfl, by decide⟩
theorem d_M_lowestColumn_16 : decode b_M_lowestColumn 16 = .ok (.aload_n 0, 1) ∧ 16 + 1 = 17 := ⟨by decide +kernel, rfl⟩
theorem d_M_lowestColumn_17 : decode b_M_lowestColumn 17 = .ok (.getfield 75, 3) ∧ 17 + 3 = 20 := ⟨by decide +kernel, rfl⟩
theorem d_M_lowestColumn_20 : decode b_M_lowestColumn 20 = .ok (.bipush 32, 2) ∧ 20 + 2 = 22 := ⟨by decide +kernel, rfl⟩
theorem d_M_lowestColumn_22 : decode b_M_lowestColumn 22 = .ok (.iload_n 2, 1) ∧ 22 + 1 = 23 := ⟨by decide +kernel, rfl⟩
theorem d_M_lowestColumn_23 : decode b_M_lowestColumn 23 = .ok (.imul, 1) ∧ 23 + 1 = 24 := ⟨by decide +kernel, rfl⟩
theorem d_M_lowestColumn_24 : decode b_M_lowestColumn 24 = .ok (.iload_n 1, 1) ∧ 24 + 1 = 25 := ⟨by decide +kernel, rfl⟩
theorem d_M_lowestColumn_25 : decode b_M_lowestColumn 25 = .ok (.iadd, 1) ∧ 25 + 1 = 26 := ⟨by decide +kernel, rfl⟩
theorem d_M_lowestColumn_26 : decode b_M_lowestColumn 26 = .ok (.iaload, 1) ∧ 26 + 1 = 27 := ⟨by decide +kernel, rfl⟩
theorem d_M_lowestColumn_27 : decode b_M_lowestColumn 27 = .ok (.ifCond .eq 5, 3) ∧ 27 + 3 = 30 ∧ ((27 : Nat) : Int) + 5 = ((32 : Nat) : Int) := ⟨by decide +kernel, rfl, by decide⟩
theorem d_M_lowestColumn_30 : decode b_M_lowestColumn 30 = .ok (.iload_n 1, 1) ∧ 30 + 1 = 31 := ⟨by decide +kernel, rfl⟩
theorem d_M_lowestColumn_31 : decode b_M_lowestColumn 31 = .ok (.ireturn, 1) := by decide +kernel
theorem d_M_lowestColumn_32 : decode b_M_lowestColumn 32 = .ok (.iinc 2 1, 3) ∧ 32 + 3 = 35 := ⟨by decide +kernel, rfl⟩
theorem d_M_lowestColumn_35 : decode b_M_lowestColumn 35 = .ok (.goto (-25), 3) ∧ ((35 : Nat) : Int) + (-25) = ((10 : Nat) : Int) := ⟨by decide +kernel, by decide⟩
theorem d_M_lowestColumn_38 : decode b_M_lowestColumn 38 = .ok (.iinc 1 1, 3) ∧ 38 + 3 = 41 := ⟨by decide +kernel, rfl⟩
theorem d_M_lowestColumn_41 : decode b_M_lowestColumn 41 = .ok (.goto (-39), 3) ∧ ((41 : Nat) : Int) + (-39) = ((2 : Nat) : Int) := ⟨by decide +kernel, by decide⟩
theorem d_M_lowestColumn_44 : decode b_M_lowestColumn 44 = .ok (.iconst 0, 1) ∧ 44 + 1 = 45 := ⟨by decide +kernel, rfl⟩
theorem d_M_lowestColumn_45 : decode b_M_lowestColumn 45 = .ok (.ireturn, 1) := by decide +kernel
theorem d_M_moveAway_0 : decode b_M_moveAway 0 = .ok (.iconst 0, 1) ∧ 0 + 1 = 1 := ⟨by decide +kernel, rfl⟩
theorem d_M_moveAway_1 : decode b_M_moveAway 1 = .ok (.istore_n 3, 1) ∧ 1 + 1 = 2 := ⟨by decide +kernel, rfl⟩
theorem d_M_moveAway_2 : decode b_M_moveAway 2 = .ok (.iload_n 3, 1) ∧ 2 + 1 = 3 := ⟨by decide +kernel, rfl⟩
theorem d_M_moveAway_3 : decode b_M_moveAway 3 = .ok (.sipush 512, 3) ∧ 3 + 3 = 6 := ⟨by decide +kernel, rfl⟩
theorem d_M_moveAway_6 : decode b_M_moveAway 6 = .ok (.if_icmp .ge 21, 3) ∧ 6 + 3 = 9 ∧ ((6 : Nat) : Int) + 21 = ((27 : Nat) : Int) := ⟨by decide +kernel, rfl, by decide⟩
theorem d_M_moveAway_9 : decode b_M_moveAway 9 = .ok (.aload_n 0, 1) ∧ 9 + 1 = 10 := ⟨by decide +kernel, rfl⟩
theorem d_M_moveAway_10 : decode b_M_moveAway 10 = .ok (.getfield 78, 3) ∧ 10 + 3 = 13 := ⟨by decide +kernel, rfl⟩
theorem d_M_moveAway_13 : decode b_M_moveAway 13 = .ok (.iload_n 3, 1) ∧ 13 + 1 = 14 := ⟨by decide +kernel, rfl⟩
theorem d_M_moveAway_14 : decode b_M_moveAway 14 = .ok (.aload_n 0, 1) ∧ 14 + 1 = 15 := ⟨by decide +kernel, rfl⟩
theorem d_M_moveAway_15 : decode b_M_moveAway 15 = .ok (.getfield 75, 3) ∧ 15 + 3 = 18 := ⟨by decide +kernel, rfl⟩
theorem d_M_moveAway_18 : decode b_M_moveAway 18 = .ok (.iload_n 3, 1) ∧ 18 + 1 = 19 := ⟨by decide +kernel, rfl⟩
theorem d_M_moveAway_19 : decode b_M_moveAway 19 = .ok (.iaload, 1) ∧ 19 + 1 = 20 := ⟨by decide +kernel, rfl⟩
theorem d_M_moveAway_20 : decode b_M_moveAway 20 = .ok (.iastore, 1) ∧ 20 + 1 = 21 := ⟨by decide +kernel, rfl⟩
theorem d_M_moveAway_21 : decode b_M_moveAway 21 = .ok (.iinc 3 1, 3) ∧ 21 + 3 = 24 := ⟨by decide +kernel, rfl⟩
