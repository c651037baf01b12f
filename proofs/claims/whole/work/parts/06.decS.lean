theorem d_S_addShelf_0 : decode b_S_addShelf 0 = .ok (.aload_n 0, 1) ∧ 0 + 1 = 1 := ⟨by decide +kernel, rfl⟩
theorem d_S_addShelf_1 : decode b_S_addShelf 1 = .ok (.aload_n 0, 1) ∧ 1 + 1 = 2 := ⟨by decide +kernel, rfl⟩
theorem d_S_addShelf_2 : decode b_S_addShelf 2 = .ok (.getfield 15, 3) ∧ 2 + 3 = 5 := ⟨by decide +kernel, rfl⟩
theorem d_S_addShelf_5 : decode b_S_addShelf 5 = .ok (.ifCond .eq 29, 3) ∧ 5 + 3 = 8 ∧ ((5 : Nat) : Int) + 29 = ((34 : Nat) : Int) := ⟨by decide +kernel, rfl, by decide⟩
theorem d_S_addShelf_8 : decode b_S_addShelf 8 = .ok (.aload_n 1, 1) ∧ 8 + 1 = 9 := ⟨by decide +kernel, rfl⟩
theorem d_S_addShelf_9 : decode b_S_addShelf 9 = .ok (.getfield 15, 3) ∧ 9 + 3 = 12 := ⟨by decide +kernel, rfl⟩
theorem d_S_addShelf_12 : decode b_S_addShelf 12 = .ok (.ifCond .eq 22, 3) ∧ 12 + 3 = 15 ∧ ((12 : Nat) : Int) + 22 = ((34 : Nat) : Int) := ⟨by decide +kernel, rfl, by decide⟩
theorem d_S_addShelf_15 : decode b_S_addShelf 15 = .ok (.aload_n 1, 1) ∧ 15 + 1 = 16 := ⟨by decide +kernel, rfl⟩
theorem d_S_addShelf_16 : decode b_S_addShelf 16 = .ok (.aload_n 0, 1) ∧ 16 + 1 = 17 := ⟨by decide +kernel, rfl⟩
theorem d_S_addShelf_17 : decode b_S_addShelf 17 = .ok (.getfield 18, 3) ∧ 17 + 3 = 20 := ⟨by decide +kernel, rfl⟩
theorem d_S_addShelf_20 : decode b_S_addShelf 20 = .ok (.aload_n 0, 1) ∧ 20 + 1 = 21 := ⟨by decide +kernel, rfl⟩
theorem d_S_addShelf_21 : decode b_S_addShelf 21 = .ok (.getfield 22, 3) ∧ 21 + 3 = 24 := ⟨by decide +kernel, rfl⟩
theorem d_S_addShelf_24 : decode b_S_addShelf 24 = .ok (.invokevirtual 66, 3) ∧ 24 + 3 = 27 := ⟨by decide +kernel, rfl⟩
theorem d_S_addShelf_27 : decode b_S_addShelf 27 = .ok (.ifCond .eq 7, 3) ∧ 27 + 3 = 30 ∧ ((27 : Nat) : Int) + 7 = ((34 : Nat) : Int) := ⟨by decide +kernel, rfl, by decide⟩
theorem d_S_addShelf_30 : decode b_S_addShelf 30 = .ok (.iconst 1, 1) ∧ 30 + 1 = 31 := ⟨by decide +kernel, rfl⟩
theorem d_S_addShelf_31 : decode b_S_addShelf 31 = .ok (.goto 4, 3) ∧ ((31 : Nat) : Int) + 4 = ((35 : Nat) : Int) := ⟨by decide +kernel, by decide⟩
theorem d_S_addShelf_34 : decode b_S_addShelf 34 = .ok (.iconst 0, 1) ∧ 34 + 1 = 35 := ⟨by decide +kernel, rfl⟩
theorem d_S_addShelf_35 : decode b_S_addShelf 35 = .ok (.putfield 15, 3) ∧ 35 + 3 = 38 := ⟨by decide +kernel, rfl⟩
theorem d_S_addShelf_38 : decode b_S_addShelf 38 = .ok (.aload_n 0, 1) ∧ 38 + 1 = 39 := ⟨by decide +kernel, rfl⟩
theorem d_S_addShelf_39 : decode b_S_addShelf 39 = .ok (.getfield 15, 3) ∧ 39 + 3 = 42 := ⟨by decide +kernel, rfl⟩
theorem d_S_addShelf_42 : decode b_S_addShelf 42 = .ok (.ifCond .eq 19, 3) ∧ 42 + 3 = 45 ∧ ((42 : Nat) : Int) + 19 = ((61 : Nat) : Int) := ⟨by decide +kernel, rfl, by decide⟩
theorem d_S_addShelf_45 : decode b_S_addShelf 45 = .ok (.aload_n 0, 1) ∧ 45 + 1 = 46 := ⟨by decide +kernel, rfl⟩
theorem d_S_addShelf_46 : decode b_S_addShelf 46 = .ok (.getfield 31, 3) ∧ 46 + 3 = 49 := ⟨by decide +kernel, rfl⟩
theorem d_S_addShelf_49 : decode b_S_addShelf 49 = .ok (.aload_n 1, 1) ∧ 49 + 1 = 50 := ⟨by decide +kernel, rfl⟩
theorem d_S_addShelf_50 : decode b_S_addShelf 50 = .ok (.getfield 31, 3) ∧ 50 + 3 = 53 := ⟨by decide +kernel, rfl⟩
theorem d_S_addShelf_53 : decode b_S_addShelf 53 = .ok (.aload_n 0, 1) ∧ 53 + 1 = 54 := ⟨by decide +kernel, rfl⟩
theorem d_S_addShelf_54 : decode b_S_addShelf 54 = .ok (.getfield 28, 3) ∧ 54 + 3 = 57 := ⟨by decide +kernel, rfl⟩
theorem d_S_addShelf_57 : decode b_S_addShelf 57 = .ok (.iload_n 2, 1) ∧ 57 + 1 = 58 := ⟨by decide +kernel, rfl⟩
theorem d_S_addShelf_58 : decode b_S_addShelf 58 = .ok (.invokestatic 70, 3) ∧ 58 + 3 = 61 := ⟨by decide +kernel, rfl⟩
theorem d_S_addShelf_61 : decode b_S_addShelf 61 = .ok (.return_, 1) := by decide +kernel
theorem d_S_aim_0 : decode b_S_aim 0 = .ok (.aload_n 0, 1) ∧ 0 + 1 = 1 := ⟨by decide +kernel, rfl⟩
theorem d_S_aim_1 : decode b_S_aim 1 = .ok (.iload_n 1, 1) ∧ 1 + 1 = 2 := ⟨by decide +kernel, rfl⟩
theorem d_S_aim_2 : decode b_S_aim 2 = .ok (.putfield 18, 3) ∧ 2 + 3 = 5 := ⟨by decide +kernel, rfl⟩
theorem d_S_aim_5 : decode b_S_aim 5 = .ok (.aload_n 0, 1) ∧ 5 + 1 = 6 := ⟨by decide +kernel, rfl⟩
theorem d_S_aim_6 : decode b_S_aim 6 = .ok (.iload_n 2, 1) ∧ 6 + 1 = 7 := ⟨by decide +kernel, rfl⟩
theorem d_S_aim_7 : decode b_S_aim 7 = .ok (.putfield 22, 3) ∧ 7 + 3 = 10 := ⟨by decide +kernel, rfl⟩
theorem d_S_aim_10 : decode b_S_aim 10 = .ok (.aload_n 0, 1) ∧ 10 + 1 = 11 := ⟨by decide +kernel, rfl⟩
theorem d_S_aim_11 : decode b_S_aim 11 = .ok (.iconst 0, 1) ∧ 11 + 1 = 12 := ⟨by decide +kernel, rfl⟩
theorem d_S_aim_12 : decode b_S_aim 12 = .ok (.iload_n 1, 1) ∧ 12 + 1 = 13 := ⟨by decide +kernel, rfl⟩
theorem d_S_aim_13 : decode b_S_aim 13 = .ok (.iload 4, 2) ∧ 13 + 2 = 15 := ⟨by decide +kernel, rfl⟩
theorem d_S_aim_15 : decode b_S_aim 15 = .ok (.iconst 1, 1) ∧ 15 + 1 = 16 := ⟨by decide +kernel, rfl⟩
theorem d_S_aim_16 : decode b_S_aim 16 = .ok (.isub, 1) ∧ 16 + 1 = 17 := ⟨by decide +kernel, rfl⟩
theorem d_S_aim_17 : decode b_S_aim 17 = .ok (.imul, 1) ∧ 17 + 1 = 18 := ⟨by decide +kernel, rfl⟩
theorem d_S_aim_18 : decode b_S_aim 18 = .ok (.invokestatic 35, 3) ∧ 18 + 3 = 21 := ⟨by decide +kernel, rfl⟩
theorem d_S_aim_21 : decode b_S_aim 21 = .ok (.iload_n 2, 1) ∧ 21 + 1 = 22 := ⟨by decide +kernel, rfl⟩
theorem d_S_aim_22 : decode b_S_aim 22 = .ok (.iload_n 3, 1) ∧ 22 + 1 = 23 := ⟨by decide +kernel, rfl⟩
theorem d_S_aim_23 : decode b_S_aim 23 = .ok (.iconst 1, 1) ∧ 23 + 1 = 24 := ⟨by decide +kernel, rfl⟩
theorem d_S_aim_24 : decode b_S_aim 24 = .ok (.isub, 1) ∧ 24 + 1 = 25 := ⟨by decide +kernel, rfl⟩
theorem d_S_aim_25 : decode b_S_aim 25 = .ok (.imul, 1) ∧ 25 + 1 = 26 := ⟨by decide +kernel, rfl⟩
theorem d_S_aim_26 : decode b_S_aim 26 = .ok (.isub, 1) ∧ 26 + 1 = 27 := ⟨by decide +kernel, rfl⟩
theorem d_S_aim_27 : decode b_S_aim 27 = .ok (.putfield 25, 3) ∧ 27 + 3 = 30 := ⟨by decide +kernel, rfl⟩
theorem d_S_aim_30 : decode b_S_aim 30 = .ok (.aload_n 0, 1) ∧ 30 + 1 = 31 := ⟨by decide +kernel, rfl⟩
theorem d_S_aim_31 : decode b_S_aim 31 = .ok (.iload_n 1, 1) ∧ 31 + 1 = 32 := ⟨by decide +kernel, rfl⟩
theorem d_S_aim_32 : decode b_S_aim 32 = .ok (.invokestatic 41, 3) ∧ 32 + 3 = 35 := ⟨by decide +kernel, rfl⟩
theorem d_S_aim_35 : decode b_S_aim 35 = .ok (.iload 4, 2) ∧ 35 + 2 = 37 := ⟨by decide +kernel, rfl⟩
theorem d_S_aim_37 : decode b_S_aim 37 = .ok (.iconst 1, 1) ∧ 37 + 1 = 38 := ⟨by decide +kernel, rfl⟩
theorem d_S_aim_38 : decode b_S_aim 38 = .ok (.isub, 1) ∧ 38 + 1 = 39 := ⟨by decide +kernel, rfl⟩
theorem d_S_aim_39 : decode b_S_aim 39 = .ok (.imul, 1) ∧ 39 + 1 = 40 := ⟨by decide +kernel, rfl⟩
theorem d_S_aim_40 : decode b_S_aim 40 = .ok (.iload_n 2, 1) ∧ 40 + 1 = 41 := ⟨by decide +kernel, rfl⟩
theorem d_S_aim_41 : decode b_S_aim 41 = .ok (.iload_n 3, 1) ∧ 41 + 1 = 42 := ⟨by decide +kernel, rfl⟩
theorem d_S_aim_42 : decode b_S_aim 42 = .ok (.iconst 1, 1) ∧ 42 + 1 = 43 := ⟨by decide +kernel, rfl⟩
theorem d_S_aim_43 : decode b_S_aim 43 = .ok (.isub, 1) ∧ 43 + 1 = 44 := ⟨by decide +kernel, rfl⟩
theorem d_S_aim_44 : decode b_S_aim 44 = .ok (.imul, 1) ∧ 44 + 1 = 45 := ⟨by decide +kernel, rfl⟩
theorem d_S_aim_45 : decode b_S_aim 45 = .ok (.iadd, 1) ∧ 45 + 1 = 46 := ⟨by decide +kernel, rfl⟩
theorem d_S_aim_46 : decode b_S_aim 46 = .ok (.iconst 1, 1) ∧ 46 + 1 = 47 := ⟨by decide +kernel, rfl⟩
theorem d_S_aim_47 : decode b_S_aim 47 = .ok (.iadd, 1) ∧ 47 + 1 = 48 := ⟨by decide +kernel, rfl⟩
theorem d_S_aim_48 : decode b_S_aim 48 = .ok (.putfield 28, 3) ∧ 48 + 3 = 51 := ⟨by decide +kernel, rfl⟩
theorem d_S_aim_51 : decode b_S_aim 51 = .ok (.aload_n 0, 1) ∧ 51 + 1 = 52 := ⟨by decide +kernel, rfl⟩
theorem d_S_aim_52 : decode b_S_aim 52 = .ok (.iconst 1, 1) ∧ 52 + 1 = 53 := ⟨by decide +kernel, rfl⟩
theorem d_S_aim_53 : decode b_S_aim 53 = .ok (.putfield 9, 3) ∧ 53 + 3 = 56 := ⟨by decide +kernel, rfl⟩
theorem d_S_aim_56 : decode b_S_aim 56 = .ok (.aload_n 0, 1) ∧ 56 + 1 = 57 := ⟨by decide +kernel, rfl⟩
theorem d_S_aim_57 : decode b_S_aim 57 = .ok (.iconst 0, 1) ∧ 57 + 1 = 58 := ⟨by decide +kernel, rfl⟩
theorem d_S_aim_58 : decode b_S_aim 58 = .ok (.putfield 15, 3) ∧ 58 + 3 = 61 := ⟨by decide +kernel, rfl⟩
theorem d_S_aim_61 : decode b_S_aim 61 = .ok (.aload_n 0, 1) ∧ 61 + 1 = 62 := ⟨by decide +kernel, rfl⟩
theorem d_S_aim_62 : decode b_S_aim 62 = .ok (.invokevirtual 45, 3) ∧ 62 + 3 = 65 := ⟨by decide +kernel, rfl⟩
theorem d_S_aim_65 : decode b_S_aim 65 = .ok (.return_, 1) := by decide +kernel
theorem d_S_binAt_0 : decode b_S_binAt 0 = .ok (.aload_n 0, 1) ∧ 0 + 1 = 1 := ⟨by decide +kernel, rfl⟩
theorem d_S_binAt_1 : decode b_S_binAt 1 = .ok (.getfield 18, 3) ∧ 1 + 3 = 4 := ⟨by decide +kernel, rfl⟩
theorem d_S_binAt_4 : decode b_S_binAt 4 = .ok (.iload_n 2, 1) ∧ 4 + 1 = 5 := ⟨by decide +kernel, rfl⟩
theorem d_S_binAt_5 : decode b_S_binAt 5 = .ok (.imul, 1) ∧ 5 + 1 = 6 := ⟨by decide +kernel, rfl⟩
theorem d_S_binAt_6 : decode b_S_binAt 6 = .ok (.aload_n 0, 1) ∧ 6 + 1 = 7 := ⟨by decide +kernel, rfl⟩
theorem d_S_binAt_7 : decode b_S_binAt 7 = .ok (.getfield 22, 3) ∧ 7 + 3 = 10 := ⟨by decide +kernel, rfl⟩
theorem d_S_binAt_10 : decode b_S_binAt 10 = .ok (.iload_n 1, 1) ∧ 10 + 1 = 11 := ⟨by decide +kernel, rfl⟩
theorem d_S_binAt_11 : decode b_S_binAt 11 = .ok (.imul, 1) ∧ 11 + 1 = 12 := ⟨by decide +kernel, rfl⟩
theorem d_S_binAt_12 : decode b_S_binAt 12 = .ok (.isub, 1) ∧ 12 + 1 = 13 := ⟨by decide +kernel, rfl⟩
theorem d_S_binAt_13 : decode b_S_binAt 13 = .ok (.aload_n 0, 1) ∧ 13 + 1 = 14 := ⟨by decide +kernel, rfl⟩
theorem d_S_binAt_14 : decode b_S_binAt 14 = .ok (.getfield 25, 3) ∧ 14 + 3 = 17 := ⟨by decide +kernel, rfl⟩
theorem d_S_binAt_17 : decode b_S_binAt 17 = .ok (.isub, 1) ∧ 17 + 1 = 18 := ⟨by decide +kernel, rfl⟩
theorem d_S_binAt_18 : decode b_S_binAt 18 = .ok (.ireturn, 1) := by decide +kernel
theorem d_S_copyFrom_0 : decode b_S_copyFrom 0 = .ok (.aload_n 0, 1) ∧ 0 + 1 = 1 := ⟨by decide +kernel, rfl⟩
theorem d_S_copyFrom_1 : decode b_S_copyFrom 1 = .ok (.aload_n 1, 1) ∧ 1 + 1 = 2 := ⟨by decide +kernel, rfl⟩
theorem d_S_copyFrom_2 : decode b_S_copyFrom 2 = .ok (.getfield 9, 3) ∧ 2 + 3 = 5 := ⟨by decide +kernel, rfl⟩
theorem d_S_copyFrom_5 : decode b_S_copyFrom 5 = .ok (.putfield 9, 3) ∧ 5 + 3 = 8 := ⟨by decide +kernel, rfl⟩
theorem d_S_copyFrom_8 : decode b_S_copyFrom 8 = .ok (.aload_n 0, 1) ∧ 8 + 1 = 9 := ⟨by decide +kernel, rfl⟩
theorem d_S_copyFrom_9 : decode b_S_copyFrom 9 = .ok (.aload_n 1, 1) ∧ 9 + 1 = 10 := ⟨by decide +kernel, rfl⟩
theorem d_S_copyFrom_10 : decode b_S_copyFrom 10 = .ok (.getfield 15, 3) ∧ 10 + 3 = 13 := ⟨by decide +kernel, rfl⟩
theorem d_S_copyFrom_13 : decode b_S_copyFrom 13 = .ok (.putfield 15, 3) ∧ 13 + 3 = 16 := ⟨by decide +kernel, rfl⟩
theorem d_S_copyFrom_16 : decode b_S_copyFrom 16 = .ok (.aload_n 0, 1) ∧ 16 + 1 = 17 := ⟨by decide +kernel, rfl⟩
theorem d_S_copyFrom_17 : decode b_S_copyFrom 17 = .ok (.aload_n 1, 1) ∧ 17 + 1 = 18 := ⟨by decide +kernel, rfl⟩
theorem d_S_copyFrom_18 : decode b_S_copyFrom 18 = .ok (.getfield 18, 3) ∧ 18 + 3 = 21 := ⟨by decide +kernel, rfl⟩
theorem d_S_copyFrom_21 : decode b_S_copyFrom 21 = .ok (.putfield 18, 3) ∧ 21 + 3 = 24 := ⟨by decide +kernel, rfl⟩
theorem d_S_copyFrom_24 : decode b_S_copyFrom 24 = .ok (.aload_n 0, 1) ∧ 24 + 1 = 25 := ⟨by decide +kernel, rfl⟩
theorem d_S_copyFrom_25 : decode b_S_copyFrom 25 = .ok (.aload_n 1, 1) ∧ 25 + 1 = 26 := ⟨by decide +kernel, rfl⟩
theorem d_S_copyFrom_26 : decode b_S_copyFrom 26 = .ok (.getfield 22, 3) ∧ 26 + 3 = 29 := ⟨by decide +kernel, rfl⟩
theorem d_S_copyFrom_29 : decode b_S_copyFrom 29 = .ok (.putfield 22, 3) ∧ 29 + 3 = 32 := ⟨by decide +kernel, rfl⟩
theorem d_S_copyFrom_32 : decode b_S_copyFrom 32 = .ok (.aload_n 0, 1) ∧ 32 + 1 = 33 := ⟨by decide +kernel, rfl⟩
theorem d_S_copyFrom_33 : decode b_S_copyFrom 33 = .ok (.aload_n 1, 1) ∧ 33 + 1 = 34 := ⟨by decide +kernel, rfl⟩
theorem d_S_copyFrom_34 : decode b_S_copyFrom 34 = .ok (.getfield 25, 3) ∧ 34 + 3 = 37 := ⟨by decide +kernel, rfl⟩
theorem d_S_copyFrom_37 : decode b_S_copyFrom 37 = .ok (.putfield 25, 3) ∧ 37 + 3 = 40 := ⟨by decide +kernel, rfl⟩
theorem d_S_copyFrom_40 : decode b_S_copyFrom 40 = .ok (.aload_n 0, 1) ∧ 40 + 1 = 41 := ⟨by decide +kernel, rfl⟩
theorem d_S_copyFrom_41 : decode b_S_copyFrom 41 = .ok (.aload_n 1, 1) ∧ 41 + 1 = 42 := ⟨by decide +kernel, rfl⟩
theorem d_S_copyFrom_42 : decode b_S_copyFrom 42 = .ok (.getfield 28, 3) ∧ 42 + 3 = 45 := ⟨by decide +kernel, rfl⟩
theorem d_S_copyFrom_45 : decode b_S_copyFrom 45 = .ok (.putfield 28, 3) ∧ 45 + 3 = 48 := ⟨by decide +kernel, rfl⟩
theorem d_S_copyFrom_48 : decode b_S_copyFrom 48 = .ok (.aload_n 0, 1) ∧ 48 + 1 = 49 := ⟨by decide +kernel, rfl⟩
theorem d_S_copyFrom_49 : decode b_S_copyFrom 49 = .ok (.getfield 15, 3) ∧ 49 + 3 = 52 := ⟨by decide +kernel, rfl⟩
theorem d_S_copyFrom_52 : decode b_S_copyFrom 52 = .ok (.ifCond .eq 24, 3) ∧ 52 + 3 = 55 ∧ ((52 : Nat) : Int) + 24 = ((76 : Nat) : Int) := ⟨by decide +kernel, rfl, by decide⟩
theorem d_S_copyFrom_55 : decode b_S_copyFrom 55 = .ok (.aload_n 0, 1) ∧ 55 + 1 = 56 := ⟨by decide +kernel, rfl⟩
theorem d_S_copyFrom_56 : decode b_S_copyFrom 56 = .ok (.invokevirtual 45, 3) ∧ 56 + 3 = 59 := ⟨by decide +kernel, rfl⟩
theorem d_S_copyFrom_59 : decode b_S_copyFrom 59 = .ok (.aload_n 1, 1) ∧ 59 + 1 = 60 := ⟨by decide +kernel, rfl⟩
theorem d_S_copyFrom_60 : decode b_S_copyFrom 60 = .ok (.getfield 31, 3) ∧ 60 + 3 = 63 := ⟨by decide +kernel, rfl⟩
theorem d_S_copyFrom_63 : decode b_S_copyFrom 63 = .ok (.iconst 0, 1) ∧ 63 + 1 = 64 := ⟨by decide +kernel, rfl⟩
theorem d_S_copyFrom_64 : decode b_S_copyFrom 64 = .ok (.aload_n 0, 1) ∧ 64 + 1 = 65 := ⟨by decide +kernel, rfl⟩
theorem d_S_copyFrom_65 : decode b_S_copyFrom 65 = .ok (.getfield 31, 3) ∧ 65 + 3 = 68 := ⟨by decide +kernel, rfl⟩
theorem d_S_copyFrom_68 : decode b_S_copyFrom 68 = .ok (.iconst 0, 1) ∧ 68 + 1 = 69 := ⟨by decide +kernel, rfl⟩
theorem d_S_copyFrom_69 : decode b_S_copyFrom 69 = .ok (.aload_n 0, 1) ∧ 69 + 1 = 70 := ⟨by decide +kernel, rfl⟩
theorem d_S_copyFrom_70 : decode b_S_copyFrom 70 = .ok (.getfield 28, 3) ∧ 70 + 3 = 73 := ⟨by decide +kernel, rfl⟩
theorem d_S_copyFrom_73 : decode b_S_copyFrom 73 = .ok (.invokestatic 60, 3) ∧ 73 + 3 = 76 := ⟨by decide +kernel, rfl⟩
theorem d_S_copyFrom_76 : decode b_S_copyFrom 76 = .ok (.return_, 1) := by decide +kernel
theorem d_S_fillFrom_0 : decode b_S_fillFrom 0 = .ok (.aload_n 0, 1) ∧ 0 + 1 = 1 := ⟨by decide +kernel, rfl⟩
theorem d_S_fillFrom_1 : decode b_S_fillFrom 1 = .ok (.getfield 31, 3) ∧ 1 + 3 = 4 := ⟨by decide +kernel, rfl⟩
theorem d_S_fillFrom_4 : decode b_S_fillFrom 4 = .ok (.iconst 0, 1) ∧ 4 + 1 = 5 := ⟨by decide +kernel, rfl⟩
theorem d_S_fillFrom_5 : decode b_S_fillFrom 5 = .ok (.invokestatic 48, 3) ∧ 5 + 3 = 8 := ⟨by decide +kernel, rfl⟩
theorem d_S_fillFrom_8 : decode b_S_fillFrom 8 = .ok (.iconst 0, 1) ∧ 8 + 1 = 9 := ⟨by decide +kernel, rfl⟩
theorem d_S_fillFrom_9 : decode b_S_fillFrom 9 = .ok (.istore 4, 2) ∧ 9 + 2 = 11 := ⟨by decide +kernel, rfl⟩
theorem d_S_fillFrom_11 : decode b_S_fillFrom 11 = .ok (.iload 4, 2) ∧ 11 + 2 = 13 := ⟨by decide +kernel, rfl⟩
theorem d_S_fillFrom_13 : decode b_S_fillFrom 13 = .ok (.iload_n 3, 1) ∧ 13 + 1 = 14 := ⟨by decide +kernel, rfl⟩
theorem d_S_fillFrom_14 : decode b_S_fillFrom 14 = .ok (.if_icmp .ge 49, 3) ∧ 14 + 3 = 17 ∧ ((14 : Nat) : Int) + 49 = ((63 : Nat) : Int) := ⟨by decide +kernel, rfl, by decide⟩
theorem d_S_fillFrom_17 : decode b_S_fillFrom 17 = .ok (.iconst 0, 1) ∧ 17 + 1 = 18 := ⟨by decide +kernel, rfl⟩
theorem d_S_fillFrom_18 : decode b_S_fillFrom 18 = .ok (.istore 5, 2) ∧ 18 + 2 = 20 := ⟨by decide +kernel, rfl⟩
theorem d_S_fillFrom_20 : decode b_S_fillFrom 20 = .ok (.iload 5, 2) ∧ 20 + 2 = 22 := ⟨by decide +kernel, rfl⟩
theorem d_S_fillFrom_22 : decode b_S_fillFrom 22 = .ok (.iload_n 2, 1) ∧ 22 + 1 = 23 := ⟨by decide +kernel, rfl⟩
theorem d_S_fillFrom_23 : decode b_S_fillFrom 23 = .ok (.if_icmp .ge 34, 3) ∧ 23 + 3 = 26 ∧ ((23 : Nat) : Int) + 34 = ((57 : Nat) : Int) := ⟨by decide +kernel, rfl, by decide⟩
theorem d_S_fillFrom_26 : decode b_S_fillFrom 26 = .ok (.aload_n 0, 1) ∧ 26 + 1 = 27 := ⟨by decide +kernel, rfl⟩
theorem d_S_fillFrom_27 : decode b_S_fillFrom 27 = .ok (.getfield 31, 3) ∧ 27 + 3 = 30 := ⟨by decide +kernel, rfl⟩
theorem d_S_fillFrom_30 : decode b_S_fillFrom 30 = .ok (.aload_n 0, 1) ∧ 30 + 1 = 31 := ⟨by decide +kernel, rfl⟩
theorem d_S_fillFrom_31 : decode b_S_fillFrom 31 = .ok (.iload 5, 2) ∧ 31 + 2 = 33 := ⟨by decide +kernel, rfl⟩
theorem d_S_fillFrom_33 : decode b_S_fillFrom 33 = .ok (.iload 4, 2) ∧ 33 + 2 = 35 := ⟨by decide +kernel, rfl⟩
theorem d_S_fillFrom_35 : decode b_S_fillFrom 35 = .ok (.invokevirtual 54, 3) ∧ 35 + 3 = 38 := ⟨by decide +kernel, rfl⟩
theorem d_S_fillFrom_38 : decode b_S_fillFrom 38 = .ok (.dup2, 1) ∧ 38 + 1 = 39 := ⟨by decide +kernel, rfl⟩
theorem d_S_fillFrom_39 : decode b_S_fillFrom 39 = .ok (.iaload, 1) ∧ 39 + 1 = 40 := ⟨by decide +kernel, rfl⟩
theorem d_S_fillFrom_40 : decode b_S_fillFrom 40 = .ok (.aload_n 1, 1) ∧ 40 + 1 = 41 := ⟨by decide +kernel, rfl⟩
theorem d_S_fillFrom_41 : decode b_S_fillFrom 41 = .ok (.iload 5, 2) ∧ 41 + 2 = 43 := ⟨by decide +kernel, rfl⟩
theorem d_S_fillFrom_43 : decode b_S_fillFrom 43 = .ok (.iload 4, 2) ∧ 43 + 2 = 45 := ⟨by decide +kernel, rfl⟩
theorem d_S_fillFrom_45 : decode b_S_fillFrom 45 = .ok (.invokestatic 57, 3) ∧ 45 + 3 = 48 := ⟨by decide +kernel, rfl⟩
theorem d_S_fillFrom_48 : decode b_S_fillFrom 48 = .ok (.iaload, 1) ∧ 48 + 1 = 49 := ⟨by decide +kernel, rfl⟩
theorem d_S_fillFrom_49 : decode b_S_fillFrom 49 = .ok (.iadd, 1) ∧ 49 + 1 = 50 := ⟨by decide +kernel, rfl⟩
theorem d_S_fillFrom_50 : decode b_S_fillFrom 50 = .ok (.iastore, 1) ∧ 50 + 1 = 51 := ⟨by decide +kernel, rfl⟩
theorem d_S_fillFrom_51 : decode b_S_fillFrom 51 = .ok (.iinc 5 1, 3) ∧ 51 + 3 = 54 := ⟨by decide +kernel, rfl⟩
theorem d_S_fillFrom_54 : decode b_S_fillFrom 54 = .ok (.goto (-34), 3) ∧ ((54 : Nat) : Int) + (-34) = ((20 : Nat) : Int) := ⟨by decide +kernel, by decide⟩
theorem d_S_fillFrom_57 : decode b_S_fillFrom 57 = .ok (.iinc 4 1, 3) ∧ 57 + 3 = 60 := ⟨by decide +kernel, rfl⟩
theorem d_S_fillFrom_60 : decode b_S_fillFrom 60 = .ok (.goto (-49), 3) ∧ ((60 : Nat) : Int) + (-49) = ((11 : Nat) : Int) := ⟨by decide +kernel, by decide⟩
theorem d_S_fillFrom_63 : decode b_S_fillFrom 63 = .ok (.aload_n 0, 1) ∧ 63 + 1 = 64 := ⟨by decide +kernel, rfl⟩
theorem d_S_fillFrom_64 : decode b_S_fillFrom 64 = .ok (.iconst 1, 1) ∧ 64 + 1 = 65 := ⟨by decide +kernel, rfl⟩
theorem d_S_fillFrom_65 : decode b_S_fillFrom 65 = .ok (.putfield 15, 3) ∧ 65 + 3 = 68 := ⟨by decide +kernel, rfl⟩
theorem d_S_fillFrom_68 : decode b_S_fillFrom 68 = .ok (.return_, 1) := by decide +kernel
theorem d_S_goesAlong_0 : decode b_S_goesAlong 0 = .ok (.aload_n 0, 1) ∧ 0 + 1 = 1 := ⟨by decide +kernel, rfl⟩
theorem d_S_goesAlong_1 : decode b_S_goesAlong 1 = .ok (.getfield 18, 3) ∧ 1 + 3 = 4 := ⟨by decide +kernel, rfl⟩
theorem d_S_goesAlong_4 : decode b_S_goesAlong 4 = .ok (.iload_n 1, 1) ∧ 4 + 1 = 5 := ⟨by decide +kernel, rfl⟩
theorem d_S_goesAlong_5 : decode b_S_goesAlong 5 = .ok (.if_icmp .ne 15, 3) ∧ 5 + 3 = 8 ∧ ((5 : Nat) : Int) + 15 = ((20 : Nat) : Int) := ⟨by decide +kernel, rfl, by decide⟩
theorem d_S_goesAlong_8 : decode b_S_goesAlong 8 = .ok (.aload_n 0, 1) ∧ 8 + 1 = 9 := ⟨by decide +kernel, rfl⟩
theorem d_S_goesAlong_9 : decode b_S_goesAlong 9 = .ok (.getfield 22, 3) ∧ 9 + 3 = 12 := ⟨by decide +kernel, rfl⟩
theorem d_S_goesAlong_12 : decode b_S_goesAlong 12 = .ok (.iload_n 2, 1) ∧ 12 + 1 = 13 := ⟨by decide +kernel, rfl⟩
theorem d_S_goesAlong_13 : decode b_S_goesAlong 13 = .ok (.if_icmp .ne 7, 3) ∧ 13 + 3 = 16 ∧ ((13 : Nat) : Int) + 7 = ((20 : Nat) : Int) := ⟨by decide +kernel, rfl, by decide⟩
theorem d_S_goesAlong_16 : decode b_S_goesAlong 16 = .ok (.iconst 1, 1) ∧ 16 + 1 = 17 := ⟨by decide +kernel, rfl⟩
theorem d_S_goesAlong_17 : decode b_S_goesAlong 17 = .ok (.goto 4, 3) ∧ ((17 : Nat) : Int) + 4 = ((21 : Nat) : Int) := ⟨by decide +kernel, by decide⟩
theorem d_S_goesAlong_20 : decode b_S_goesAlong 20 = .ok (.iconst 0, 1) ∧ 20 + 1 = 21 := ⟨by decide +kernel, rfl⟩
theorem d_S_goesAlong_21 : decode b_S_goesAlong 21 = .ok (.ireturn, 1) := by decide +kernel
theorem d_S_init_0 : decode b_S_init 0 = .ok (.aload_n 0, 1) ∧ 0 + 1 = 1 := ⟨by decide +kernel, rfl⟩
theorem d_S_init_1 : decode b_S_init 1 = .ok (.invokespecial 3, 3) ∧ 1 + 3 = 4 := ⟨by decide +kernel, rfl⟩
theorem d_S_init_4 : decode b_S_init 4 = .ok (.aload_n 0, 1) ∧ 4 + 1 = 5 := ⟨by decide +kernel, rfl⟩
theorem d_S_init_5 : decode b_S_init 5 = .ok (.iconst 0, 1) ∧ 5 + 1 = 6 := ⟨by decide +kernel, rfl⟩
theorem d_S_init_6 : decode b_S_init 6 = .ok (.putfield 9, 3) ∧ 6 + 3 = 9 := ⟨by decide +kernel, rfl⟩
theorem d_S_init_9 : decode b_S_init 9 = .ok (.aload_n 0, 1) ∧ 9 + 1 = 10 := ⟨by decide +kernel, rfl⟩
theorem d_S_init_10 : decode b_S_init 10 = .ok (.iconst 0, 1) ∧ 10 + 1 = 11 := ⟨by decide +kernel, rfl⟩
theorem d_S_init_11 : decode b_S_init 11 = .ok (.putfield 15, 3) ∧ 11 + 3 = 14 := ⟨by decide +kernel, rfl⟩
theorem d_S_init_14 : decode b_S_init 14 = .ok (.aload_n 0, 1) ∧ 14 + 1 = 15 := ⟨by decide +kernel, rfl⟩
theorem d_S_init_15 : decode b_S_init 15 = .ok (.iconst 0, 1) ∧ 15 + 1 = 16 := ⟨by decide +kernel, rfl⟩
theorem d_S_init_16 : decode b_S_init 16 = .ok (.putfield 18, 3) ∧ 16 + 3 = 19 := ⟨by decide +kernel, rfl⟩
theorem d_S_init_19 : decode b_S_init 19 = .ok (.aload_n 0, 1) ∧ 19 + 1 = 20 := ⟨by decide +kernel, rfl⟩
theorem d_S_init_20 : decode b_S_init 20 = .ok (.iconst 0, 1) ∧ 20 + 1 = 21 := ⟨by decide +kernel, rfl⟩
theorem d_S_init_21 : decode b_S_init 21 = .ok (.putfield 22, 3) ∧ 21 + 3 = 24 := ⟨by decide +kernel, rfl⟩
theorem d_S_init_24 : decode b_S_init 24 = .ok (.aload_n 0, 1) ∧ 24 + 1 = 25 := ⟨by decide +kernel, rfl⟩
theorem d_S_init_25 : decode b_S_init 25 = .ok (.iconst 0, 1) ∧ 25 + 1 = 26 := ⟨by decide +kernel, rfl⟩
theorem d_S_init_26 : decode b_S_init 26 = .ok (.putfield 25, 3) ∧ 26 + 3 = 29 := ⟨by decide +kernel, rfl⟩
theorem d_S_init_29 : decode b_S_init 29 = .ok (.aload_n 0, 1) ∧ 29 + 1 = 30 := ⟨by decide +kernel, rfl⟩
theorem d_S_init_30 : decode b_S_init 30 = .ok (.iconst 0, 1) ∧ 30 + 1 = 31 := ⟨by decide +kernel, rfl⟩
theorem d_S_init_31 : decode b_S_init 31 = .ok (.putfield 28, 3) ∧ 31 + 3 = 34 := ⟨by decide +kernel, rfl⟩
theorem d_S_init_34 : decode b_S_init 34 = .ok (.aload_n 0, 1) ∧ 34 + 1 = 35 := ⟨by decide +kernel, rfl⟩
theorem d_S_init_35 : decode b_S_init 35 = .ok (.iconst 0, 1) ∧ 35 + 1 = 36 := ⟨by decide +kernel, rfl⟩
theorem d_S_init_36 : decode b_S_init 36 = .ok (.newarray .int, 2) ∧ 36 + 2 = 38 := ⟨by decide +kernel, rfl⟩
theorem d_S_init_38 : decode b_S_init 38 = .ok (.putfield 31, 3) ∧ 38 + 3 = 41 := ⟨by decide +kernel, rfl⟩
theorem d_S_init_41 : decode b_S_init 41 = .ok (.return_, 1) := by decide +kernel
theorem d_S_makeBins_0 : decode b_S_makeBins 0 = .ok (.aload_n 0, 1) ∧ 0 + 1 = 1 := ⟨by decide +kernel, rfl⟩
theorem d_S_makeBins_1 : decode b_S_makeBins 1 = .ok (.getfield 31, 3) ∧ 1 + 3 = 4 := ⟨by decide +kernel, rfl⟩
theorem d_S_makeBins_4 : decode b_S_makeBins 4 = .ok (.arraylength, 1) ∧ 4 + 1 = 5 := ⟨by decide +kernel, rfl⟩
theorem d_S_makeBins_5 : decode b_S_makeBins 5 = .ok (.ifCond .ne 12, 3) ∧ 5 + 3 = 8 ∧ ((5 : Nat) : Int) + 12 = ((17 : Nat) : Int) := ⟨by decide +kernel, rfl, by decide⟩
theorem d_S_makeBins_8 : decode b_S_makeBins 8 = .ok (.aload_n 0, 1) ∧ 8 + 1 = 9 := ⟨by decide +kernel, rfl⟩
theorem d_S_makeBins_9 : decode b_S_makeBins 9 = .ok (.sipush 481, 3) ∧ 9 + 3 = 12 := ⟨by decide +kernel, rfl⟩
theorem d_S_makeBins_12 : decode b_S_makeBins 12 = .ok (.newarray .int, 2) ∧ 12 + 2 = 14 := ⟨by decide +kernel, rfl⟩
theorem d_S_makeBins_14 : decode b_S_makeBins 14 = .ok (.putfield 31, 3) ∧ 14 + 3 = 17 := ⟨by decide +kernel, rfl⟩
theorem d_S_makeBins_17 : decode b_S_makeBins 17 = .ok (.return_, 1) := by decide +kernel
theorem d_S_unaim_0 : decode b_S_unaim 0 = .ok (.aload_n 0, 1) ∧ 0 + 1 = 1 := ⟨by decide +kernel, rfl⟩
theorem d_S_unaim_1 : decode b_S_unaim 1 = .ok (.iconst 0, 1) ∧ 1 + 1 = 2 := ⟨by decide +kernel, rfl⟩
theorem d_S_unaim_2 : decode b_S_unaim 2 = .ok (.putfield 9, 3) ∧ 2 + 3 = 5 := ⟨by decide +kernel, rfl⟩
theorem d_S_unaim_5 : decode b_S_unaim 5 = .ok (.aload_n 0, 1) ∧ 5 + 1 = 6 := ⟨by decide +kernel, rfl⟩
theorem d_S_unaim_6 : decode b_S_unaim 6 = .ok (.iconst 0, 1) ∧ 6 + 1 = 7 := ⟨by decide +kernel, rfl⟩
theorem d_S_unaim_7 : decode b_S_unaim 7 = .ok (.putfield 15, 3) ∧ 7 + 3 = 10 := ⟨by decide +kernel, rfl⟩
theorem d_S_unaim_10 : decode b_S_unaim 10 = .ok (.return_, 1) := by decide +kernel
theorem d_W_begin_0 : decode b_W_begin 0 = .ok (.aload_n 0, 1) ∧ 0 + 1 = 1 := ⟨by decide +kernel, rfl⟩
theorem d_W_begin_1 : decode b_W_begin 1 = .ok (.invokevirtual 28, 3) ∧ 1 + 3 = 4 := ⟨by decide +kernel, rfl⟩
theorem d_W_begin_4 : decode b_W_begin 4 = .ok (.aload_n 0, 1) ∧ 4 + 1 = 5 := ⟨by decide +kernel, rfl⟩
theorem d_W_begin_5 : decode b_W_begin 5 = .ok (.aload_n 1, 1) ∧ 5 + 1 = 6 := ⟨by decide +kernel, rfl⟩
theorem d_W_begin_6 : decode b_W_begin 6 = .ok (.getfield 31, 3) ∧ 6 + 3 = 9 := ⟨by decide +kernel, rfl⟩
theorem d_W_begin_9 : decode b_W_begin 9 = .ok (.putfield 9, 3) ∧ 9 + 3 = 12 := ⟨by decide +kernel, rfl⟩
theorem d_W_begin_12 : decode b_W_begin 12 = .ok (.aload_n 0, 1) ∧ 12 + 1 = 13 := ⟨by decide +kernel, rfl⟩
theorem d_W_begin_13 : decode b_W_begin 13 = .ok (.iconst 0, 1) ∧ 13 + 1 = 14 := ⟨by decide +kernel, rfl⟩
theorem d_W_begin_14 : decode b_W_begin 14 = .ok (.putfield 15, 3) ∧ 14 + 3 = 17 := ⟨by decide +kernel, rfl⟩
theorem d_W_begin_17 : decode b_W_begin 17 = .ok (.aload_n 0, 1) ∧ 17 + 1 = 18 := ⟨by decide +kernel, rfl⟩
theorem d_W_begin_18 : decode b_W_begin 18 = .ok (.getfield 18, 3) ∧ 18 + 3 = 21 := ⟨by decide +kernel, rfl⟩
theorem d_W_begin_21 : decode b_W_begin 21 = .ok (.iconst 0, 1) ∧ 21 + 1 = 22 := ⟨by decide +kernel, rfl⟩
theorem d_W_begin_22 : decode b_W_begin 22 = .ok (.invokestatic 34, 3) ∧ 22 + 3 = 25 := ⟨by decide +kernel, rfl⟩
theorem d_W_begin_25 : decode b_W_begin 25 = .ok (.aload_n 0, 1) ∧ 25 + 1 = 26 := ⟨by decide +kernel, rfl⟩
theorem d_W_begin_26 : decode b_W_begin 26 = .ok (.getfield 22, 3) ∧ 26 + 3 = 29 := ⟨by decide +kernel, rfl⟩
theorem d_W_begin_29 : decode b_W_begin 29 = .ok (.iconst 0, 1) ∧ 29 + 1 = 30 := ⟨by decide +kernel, rfl⟩
theorem d_W_begin_30 : decode b_W_begin 30 = .ok (.invokestatic 34, 3) ∧ 30 + 3 = 33 := ⟨by decide +kernel, rfl⟩
theorem d_W_begin_33 : decode b_W_begin 33 = .ok (.aload_n 1, 1) ∧ 33 + 1 = 34 := ⟨by decide +kernel, rfl⟩
theorem d_W_begin_34 : decode b_W_begin 34 = .ok (.getfield 40, 3) ∧ 34 + 3 = 37 := ⟨by decide +kernel, rfl⟩
theorem d_W_begin_37 : decode b_W_begin 37 = .ok (.iconst 0, 1) ∧ 37 + 1 = 38 := ⟨by decide +kernel, rfl⟩
theorem d_W_begin_38 : decode b_W_begin 38 = .ok (.aload_n 0, 1) ∧ 38 + 1 = 39 := ⟨by decide +kernel, rfl⟩
theorem d_W_begin_39 : decode b_W_begin 39 = .ok (.getfield 25, 3) ∧ 39 + 3 = 42 := ⟨by decide +kernel, rfl⟩
theorem d_W_begin_42 : decode b_W_begin 42 = .ok (.iconst 0, 1) ∧ 42 + 1 = 43 := ⟨by decide +kernel, rfl⟩
theorem d_W_begin_43 : decode b_W_begin 43 = .ok (.aload_n 0, 1) ∧ 43 + 1 = 44 := ⟨by decide +kernel, rfl⟩
theorem d_W_begin_44 : decode b_W_begin 44 = .ok (.getfield 9, 3) ∧ 44 + 3 = 47 := ⟨by decide +kernel, rfl⟩
theorem d_W_begin_47 : decode b_W_begin 47 = .ok (.invokestatic 43, 3) ∧ 47 + 3 = 50 := ⟨by decide +kernel, rfl⟩
theorem d_W_begin_50 : decode b_W_begin 50 = .ok (.iconst 0, 1) ∧ 50 + 1 = 51 := ⟨by decide +kernel, rfl⟩
theorem d_W_begin_51 : decode b_W_begin 51 = .ok (.istore 4, 2) ∧ 51 + 2 = 53 := ⟨by decide +kernel, rfl⟩
theorem d_W_begin_53 : decode b_W_begin 53 = .ok (.iload 4, 2) ∧ 53 + 2 = 55 := ⟨by decide +kernel, rfl⟩
theorem d_W_begin_55 : decode b_W_begin 55 = .ok (.iload_n 3, 1) ∧ 55 + 1 = 56 := ⟨by decide +kernel, rfl⟩
theorem d_W_begin_56 : decode b_W_begin 56 = .ok (.if_icmp .ge 62, 3) ∧ 56 + 3 = 59 ∧ ((56 : Nat) : Int) + 62 = ((118 : Nat) : Int) := ⟨by decide +kernel, rfl, by decide⟩
theorem d_W_begin_59 : decode b_W_begin 59 = .ok (.iconst 0, 1) ∧ 59 + 1 = 60 := ⟨by decide +kernel, rfl⟩
theorem d_W_begin_60 : decode b_W_begin 60 = .ok (.istore 5, 2) ∧ 60 + 2 = 62 := ⟨by decide +kernel, rfl⟩
theorem d_W_begin_62 : decode b_W_begin 62 = .ok (.iload 5, 2) ∧ 62 + 2 = 64 := ⟨by decide +kernel, rfl⟩
theorem d_W_begin_64 : decode b_W_begin 64 = .ok (.iload_n 2, 1) ∧ 64 + 1 = 65 := ⟨by decide +kernel, rfl⟩
theorem d_W_begin_65 : decode b_W_begin 65 = .ok (.if_icmp .ge 47, 3) ∧ 65 + 3 = 68 ∧ ((65 : Nat) : Int) + 47 = ((112 : Nat) : Int) := ⟨by decide +kernel, rfl, by decide⟩
theorem d_W_begin_68 : decode b_W_begin 68 = .ok (.aload_n 1, 1) ∧ 68 + 1 = 69 := ⟨by decide +kernel, rfl⟩
theorem d_W_begin_69 : decode b_W_begin 69 = .ok (.iload 5, 2) ∧ 69 + 2 = 71 := ⟨by decide +kernel, rfl⟩
theorem d_W_begin_71 : decode b_W_begin 71 = .ok (.iload 4, 2) ∧ 71 + 2 = 73 := ⟨by decide +kernel, rfl⟩
theorem d_W_begin_73 : decode b_W_begin 73 = .ok (.invokevirtual 49, 3) ∧ 73 + 3 = 76 := ⟨by decide +kernel, rfl⟩
theorem d_W_begin_76 : decode b_W_begin 76 = .ok (.istore 6, 2) ∧ 76 + 2 = 78 := ⟨by decide +kernel, rfl⟩
theorem d_W_begin_78 : decode b_W_begin 78 = .ok (.aload_n 0, 1) ∧ 78 + 1 = 79 := ⟨by decide +kernel, rfl⟩
theorem d_W_begin_79 : decode b_W_begin 79 = .ok (.getfield 18, 3) ∧ 79 + 3 = 82 := ⟨by decide +kernel, rfl⟩
theorem d_W_begin_82 : decode b_W_begin 82 = .ok (.iload 6, 2) ∧ 82 + 2 = 84 := ⟨by decide +kernel, rfl⟩
theorem d_W_begin_84 : decode b_W_begin 84 = .ok (.dup2, 1) ∧ 84 + 1 = 85 := ⟨by decide +kernel, rfl⟩
theorem d_W_begin_85 : decode b_W_begin 85 = .ok (.iaload, 1) ∧ 85 + 1 = 86 := ⟨by decide +kernel, rfl⟩
theorem d_W_begin_86 : decode b_W_begin 86 = .ok (.iconst 1, 1) ∧ 86 + 1 = 87 := ⟨by decide +kernel, rfl⟩
theorem d_W_begin_87 : decode b_W_begin 87 = .ok (.iadd, 1) ∧ 87 + 1 = 88 := ⟨by decide +kernel, rfl⟩
theorem d_W_begin_88 : decode b_W_begin 88 = .ok (.iastore, 1) ∧ 88 + 1 = 89 := ⟨by decide +kernel, rfl⟩
theorem d_W_begin_89 : decode b_W_begin 89 = .ok (.aload_n 0, 1) ∧ 89 + 1 = 90 := ⟨by decide +kernel, rfl⟩
theorem d_W_begin_90 : decode b_W_begin 90 = .ok (.getfield 22, 3) ∧ 90 + 3 = 93 := ⟨by decide +kernel, rfl⟩
theorem d_W_begin_93 : decode b_W_begin 93 = .ok (.iload 6, 2) ∧ 93 + 2 = 95 := ⟨by decide +kernel, rfl⟩
theorem d_W_begin_95 : decode b_W_begin 95 = .ok (.dup2, 1) ∧ 95 + 1 = 96 := ⟨by decide +kernel, rfl⟩
theorem d_W_begin_96 : decode b_W_begin 96 = .ok (.iaload, 1) ∧ 96 + 1 = 97 := ⟨by decide +kernel, rfl⟩
theorem d_W_begin_97 : decode b_W_begin 97 = .ok (.iload 5, 2) ∧ 97 + 2 = 99 := ⟨by decide +kernel, rfl⟩
theorem d_W_begin_99 : decode b_W_begin 99 = .ok (.iload 4, 2) ∧ 99 + 2 = 101 := ⟨by decide +kernel, rfl⟩
theorem d_W_begin_101 : decode b_W_begin 101 = .ok (.invokestatic 53, 3) ∧ 101 + 3 = 104 := ⟨by decide +kernel, rfl⟩
theorem d_W_begin_104 : decode b_W_begin 104 = .ok (.iadd, 1) ∧ 104 + 1 = 105 := ⟨by decide +kernel, rfl⟩
theorem d_W_begin_105 : decode b_W_begin 105 = .ok (.iastore, 1) ∧ 105 + 1 = 106 := ⟨by decide +kernel, rfl⟩
theorem d_W_begin_106 : decode b_W_begin 106 = .ok (.iinc 5 1, 3) ∧ 106 + 3 = 109 := ⟨by decide +kernel, rfl⟩
theorem d_W_begin_109 : decode b_W_begin 109 = .ok (.goto (-47), 3) ∧ ((109 : Nat) : Int) + (-47) = ((62 : Nat) : Int) := ⟨by decide +kernel, by decide⟩
theorem d_W_begin_112 : decode b_W_begin 112 = .ok (.iinc 4 1, 3) ∧ 112 + 3 = 115 := ⟨by decide +kernel, rfl⟩
theorem d_W_begin_115 : decode b_W_begin 115 = .ok (.goto (-62), 3) ∧ ((115 : Nat) : Int) + (-62) = ((53 : Nat) : Int) := ⟨by decide +kernel, by decide⟩
theorem d_W_begin_118 : decode b_W_begin 118 = .ok (.return_, 1) := by decide +kernel
theorem d_W_findReadyBin_0 : decode b_W_findReadyBin 0 = .ok (.aload_n 0, 1) ∧ 0 + 1 = 1 := ⟨by decide +kernel, rfl⟩
theorem d_W_findReadyBin_1 : decode b_W_findReadyBin 1 = .ok (.getfield 15, 3) ∧ 1 + 3 = 4 := ⟨by decide +kernel, rfl⟩
theorem d_W_findReadyBin_4 : decode b_W_findReadyBin 4 = .ok (.aload_n 0, 1) ∧ 4 + 1 = 5 := ⟨by decide +kernel, rfl⟩
theorem d_W_findReadyBin_5 : decode b_W_findReadyBin 5 = .ok (.getfield 9, 3) ∧ 5 + 3 = 8 := ⟨by decide +kernel, rfl⟩
theorem d_W_findReadyBin_8 : decode b_W_findReadyBin 8 = .ok (.if_icmp .ge 29, 3) ∧ 8 + 3 = 11 ∧ ((8 : Nat) : Int) + 29 = ((37 : Nat) : Int) := ⟨by decide +kernel, rfl, by decide⟩
theorem d_W_findReadyBin_11 : decode b_W_findReadyBin 11 = .ok (.aload_n 0, 1) ∧ 11 + 1 = 12 := ⟨by decide +kernel, rfl⟩
theorem d_W_findReadyBin_12 : decode b_W_findReadyBin 12 = .ok (.getfield 18, 3) ∧ 12 + 3 = 15 := ⟨by decide +kernel, rfl⟩
theorem d_W_findReadyBin_15 : decode b_W_findReadyBin 15 = .ok (.aload_n 0, 1) ∧ 15 + 1 = 16 := ⟨by decide +kernel, rfl⟩
theorem d_W_findReadyBin_16 : decode b_W_findReadyBin 16 = .ok (.getfield 15, 3) ∧ 16 + 3 = 19 := ⟨by decide +kernel, rfl⟩
theorem d_W_findReadyBin_19 : decode b_W_findReadyBin 19 = .ok (.iaload, 1) ∧ 19 + 1 = 20 := ⟨by decide +kernel, rfl⟩
theorem d_W_findReadyBin_20 : decode b_W_findReadyBin 20 = .ok (.iconst 1, 1) ∧ 20 + 1 = 21 := ⟨by decide +kernel, rfl⟩
theorem d_W_findReadyBin_21 : decode b_W_findReadyBin 21 = .ok (.if_icmp .eq 16, 3) ∧ 21 + 3 = 24 ∧ ((21 : Nat) : Int) + 16 = ((37 : Nat) : Int) := ⟨by decide +kernel, rfl, by decide⟩
theorem d_W_findReadyBin_24 : decode b_W_findReadyBin 24 = .ok (.aload_n 0, 1) ∧ 24 + 1 = 25 := ⟨by decide +kernel, rfl⟩
theorem d_W_findReadyBin_25 : decode b_W_findReadyBin 25 = .ok (.dup, 1) ∧ 25 + 1 = 26 := ⟨by decide +kernel, rfl⟩
theorem d_W_findReadyBin_26 : decode b_W_findReadyBin 26 = .ok (.getfield 15, 3) ∧ 26 + 3 = 29 := ⟨by decide +kernel, rfl⟩
theorem d_W_findReadyBin_29 : decode b_W_findReadyBin 29 = .ok (.iconst 1, 1) ∧ 29 + 1 = 30 := ⟨by decide +kernel, rfl⟩
theorem d_W_findReadyBin_30 : decode b_W_findReadyBin 30 = .ok (.iadd, 1) ∧ 30 + 1 = 31 := ⟨by decide +kernel, rfl⟩
theorem d_W_findReadyBin_31 : decode b_W_findReadyBin 31 = .ok (.putfield 15, 3) ∧ 31 + 3 = 34 := ⟨by decide +kernel, rfl⟩
theorem d_W_findReadyBin_34 : decode b_W_findReadyBin 34 = .ok (.goto (-34), 3) ∧ ((34 : Nat) : Int) + (-34) = ((0 : Nat) : Int) := ⟨by decide +kernel, by decide⟩
theorem d_W_findReadyBin_37 : decode b_W_findReadyBin 37 = .ok (.aload_n 0, 1) ∧ 37 + 1 = 38 := ⟨by decide +kernel, rfl⟩
theorem d_W_findReadyBin_38 : decode b_W_findReadyBin 38 = .ok (.getfield 15, 3) ∧ 38 + 3 = 41 := ⟨by decide +kernel, rfl⟩
theorem d_W_findReadyBin_41 : decode b_W_findReadyBin 41 = .ok (.aload_n 0, 1) ∧ 41 + 1 = 42 := ⟨by decide +kernel, rfl⟩
theorem d_W_findReadyBin_42 : decode b_W_findReadyBin 42 = .ok (.getfield 9, 3) ∧ 42 + 3 = 45 := ⟨by decide +kernel, rfl⟩
theorem d_W_findReadyBin_45 : decode b_W_findReadyBin 45 = .ok (.if_icmp .ge 7, 3) ∧ 45 + 3 = 48 ∧ ((45 : Nat) : Int) + 7 = ((52 : Nat) : Int) := ⟨by decide +kernel, rfl, by decide⟩
theorem d_W_findReadyBin_48 : decode b_W_findReadyBin 48 = .ok (.iconst 1, 1) ∧ 48 + 1 = 49 := ⟨by decide +kernel, rfl⟩
theorem d_W_findReadyBin_49 : decode b_W_findReadyBin 49 = .ok (.goto 4, 3) ∧ ((49 : Nat) : Int) + 4 = ((53 : Nat) : Int) := ⟨by decide +kernel, by decide⟩
theorem d_W_findReadyBin_52 : decode b_W_findReadyBin 52 = .ok (.iconst 0, 1) ∧ 52 + 1 = 53 := ⟨by decide +kernel, rfl⟩
theorem d_W_findReadyBin_53 : decode b_W_findReadyBin 53 = .ok (.ireturn, 1) := by decide +kernel
theorem d_W_init_0 : decode b_W_init 0 = .ok (.aload_n 0, 1) ∧ 0 + 1 = 1 := ⟨by decide +kernel, rfl⟩
theorem d_W_init_1 : decode b_W_init 1 = .ok (.invokespecial 3, 3) ∧ 1 + 3 = 4 := ⟨by decide +kernel, rfl⟩
theorem d_W_init_4 : decode b_W_init 4 = .ok (.aload_n 0, 1) ∧ 4 + 1 = 5 := ⟨by decide +kernel, rfl⟩
theorem d_W_init_5 : decode b_W_init 5 = .ok (.iconst 0, 1) ∧ 5 + 1 = 6 := ⟨by decide +kernel, rfl⟩
theorem d_W_init_6 : decode b_W_init 6 = .ok (.putfield 9, 3) ∧ 6 + 3 = 9 := ⟨by decide +kernel, rfl⟩
theorem d_W_init_9 : decode b_W_init 9 = .ok (.aload_n 0, 1) ∧ 9 + 1 = 10 := ⟨by decide +kernel, rfl⟩
theorem d_W_init_10 : decode b_W_init 10 = .ok (.iconst 0, 1) ∧ 10 + 1 = 11 := ⟨by decide +kernel, rfl⟩
theorem d_W_init_11 : decode b_W_init 11 = .ok (.putfield 15, 3) ∧ 11 + 3 = 14 := ⟨by decide +kernel, rfl⟩
theorem d_W_init_14 : decode b_W_init 14 = .ok (.aload_n 0, 1) ∧ 14 + 1 = 15 := ⟨by decide +kernel, rfl⟩
theorem d_W_init_15 : decode b_W_init 15 = .ok (.iconst 0, 1) ∧ 15 + 1 = 16 := ⟨by decide +kernel, rfl⟩
theorem d_W_init_16 : decode b_W_init 16 = .ok (.newarray .int, 2) ∧ 16 + 2 = 18 := ⟨by decide +kernel, rfl⟩
theorem d_W_init_18 : decode b_W_init 18 = .ok (.putfield 18, 3) ∧ 18 + 3 = 21 := ⟨by decide +kernel, rfl⟩
theorem d_W_init_21 : decode b_W_init 21 = .ok (.aload_n 0, 1) ∧ 21 + 1 = 22 := ⟨by decide +kernel, rfl⟩
theorem d_W_init_22 : decode b_W_init 22 = .ok (.iconst 0, 1) ∧ 22 + 1 = 23 := ⟨by decide +kernel, rfl⟩
theorem d_W_init_23 : decode b_W_init 23 = .ok (.newarray .int, 2) ∧ 23 + 2 = 25 := ⟨by decide +kernel, rfl⟩
theorem d_W_init_25 : decode b_W_init 25 = .ok (.putfield 22, 3) ∧ 25 + 3 = 28 := ⟨by decide +kernel, rfl⟩
theorem d_W_init_28 : decode b_W_init 28 = .ok (.aload_n 0, 1) ∧ 28 + 1 = 29 := ⟨by decide +kernel, rfl⟩
theorem d_W_init_29 : decode b_W_init 29 = .ok (.iconst 0, 1) ∧ 29 + 1 = 30 := ⟨by decide +kernel, rfl⟩
theorem d_W_init_30 : decode b_W_init 30 = .ok (.newarray .int, 2) ∧ 30 + 2 = 32 := ⟨by decide +kernel, rfl⟩
theorem d_W_init_32 : decode b_W_init 32 = .ok (.putfield 25, 3) ∧ 32 + 3 = 35 := ⟨by decide +kernel, rfl⟩
theorem d_W_init_35 : decode b_W_init 35 = .ok (.return_, 1) := by decide +kernel
theorem d_W_lowestWrongBin_0 : decode b_W_lowestWrongBin 0 = .ok (.iconst 0, 1) ∧ 0 + 1 = 1 := ⟨by decide +kernel, rfl⟩
theorem d_W_lowestWrongBin_1 : decode b_W_lowestWrongBin 1 = .ok (.istore_n 1, 1) ∧ 1 + 1 = 2 := ⟨by decide +kernel, rfl⟩
theorem d_W_lowestWrongBin_2 : decode b_W_lowestWrongBin 2 = .ok (.iload_n 1, 1) ∧ 2 + 1 = 3 := ⟨by decide +kernel, rfl⟩
theorem d_W_lowestWrongBin_3 : decode b_W_lowestWrongBin 3 = .ok (.aload_n 0, 1) ∧ 3 + 1 = 4 := ⟨by decide +kernel, rfl⟩
theorem d_W_lowestWrongBin_4 : decode b_W_lowestWrongBin 4 = .ok (.getfield 9, 3) ∧ 4 + 3 = 7 := ⟨by decide +kernel, rfl⟩
theorem d_W_lowestWrongBin_7 : decode b_W_lowestWrongBin 7 = .ok (.if_icmp .ge 20, 3) ∧ 7 + 3 = 10 ∧ ((7 : Nat) : Int) + 20 = ((27 : Nat) : Int) := ⟨by decide +kernel, rfl, by decide⟩
theorem d_W_lowestWrongBin_10 : decode b_W_lowestWrongBin 10 = .ok (.aload_n 0, 1) ∧ 10 + 1 = 11 := ⟨by decide +kernel, rfl⟩
theorem d_W_lowestWrongBin_11 : decode b_W_lowestWrongBin 11 = .ok (.getfield 25, 3) ∧ 11 + 3 = 14 := ⟨by decide +kernel, rfl⟩
theorem d_W_lowestWrongBin_14 : decode b_W_lowestWrongBin 14 = .ok (.iload_n 1, 1) ∧ 14 + 1 = 15 := ⟨by decide +kernel, rfl⟩
theorem d_W_lowestWrongBin_15 : decode b_W_lowestWrongBin 15 = .ok (.iaload, 1) ∧ 15 + 1 = 16 := ⟨by decide +kernel, rfl⟩
theorem d_W_lowestWrongBin_16 : decode b_W_lowestWrongBin 16 = .ok (.ifCond .eq 5, 3) ∧ 16 + 3 = 19 ∧ ((16 : Nat) : Int) + 5 = ((21 : Nat) : Int) := ⟨by decide +kernel, rfl, by decide⟩
theorem d_W_lowestWrongBin_19 : decode b_W_lowestWrongBin 19 = .ok (.iload_n 1, 1) ∧ 19 + 1 = 20 := ⟨by decide +kernel, rfl⟩
theorem d_W_lowestWrongBin_20 : decode b_W_lowestWrongBin 20 = .ok (.ireturn, 1) := by decide +kernel
theorem d_W_lowestWrongBin_21 : decode b_W_lowestWrongBin 21 = .ok (.iinc 1 1, 3) ∧ 21 + 3 = 24 := ⟨by decide +kernel, rfl⟩
theorem d_W_lowestWrongBin_24 : decode b_W_lowestWrongBin 24 = .ok (.goto (-22), 3) ∧ ((24 : Nat) : Int) + (-22) = ((2 : Nat) : Int) := ⟨by decide +kernel, by decide⟩
theorem d_W_lowestWrongBin_27 : decode b_W_lowestWrongBin 27 = .ok (.iconst (-1), 1) ∧ 27 + 1 = 28 := ⟨by decide +kernel, rfl⟩
theorem d_W_lowestWrongBin_28 : decode b_W_lowestWrongBin 28 = .ok (.ireturn, 1) := by decide +kernel
theorem d_W_makeRows_0 : decode b_W_makeRows 0 = .ok (.aload_n 0, 1) ∧ 0 + 1 = 1 := ⟨by decide +kernel, rfl⟩
theorem d_W_makeRows_1 : decode b_W_makeRows 1 = .ok (.getfield 25, 3) ∧ 1 + 3 = 4 := ⟨by decide +kernel, rfl⟩
theorem d_W_makeRows_4 : decode b_W_makeRows 4 = .ok (.arraylength, 1) ∧ 4 + 1 = 5 := ⟨by decide +kernel, rfl⟩
theorem d_W_makeRows_5 : decode b_W_makeRows 5 = .ok (.ifCond .ne 30, 3) ∧ 5 + 3 = 8 ∧ ((5 : Nat) : Int) + 30 = ((35 : Nat) : Int) := ⟨by decide +kernel, rfl, by decide⟩
theorem d_W_makeRows_8 : decode b_W_makeRows 8 = .ok (.aload_n 0, 1) ∧ 8 + 1 = 9 := ⟨by decide +kernel, rfl⟩
theorem d_W_makeRows_9 : decode b_W_makeRows 9 = .ok (.sipush 481, 3) ∧ 9 + 3 = 12 := ⟨by decide +kernel, rfl⟩
theorem d_W_makeRows_12 : decode b_W_makeRows 12 = .ok (.newarray .int, 2) ∧ 12 + 2 = 14 := ⟨by decide +kernel, rfl⟩
theorem d_W_makeRows_14 : decode b_W_makeRows 14 = .ok (.putfield 18, 3) ∧ 14 + 3 = 17 := ⟨by decide +kernel, rfl⟩
theorem d_W_makeRows_17 : decode b_W_makeRows 17 = .ok (.aload_n 0, 1) ∧ 17 + 1 = 18 := ⟨by decide +kernel, rfl⟩
theorem d_W_makeRows_18 : decode b_W_makeRows 18 = .ok (.sipush 481, 3) ∧ 18 + 3 = 21 := ⟨by decide +kernel, rfl⟩
theorem d_W_makeRows_21 : decode b_W_makeRows 21 = .ok (.newarray .int, 2) ∧ 21 + 2 = 23 := ⟨by decide +kernel, rfl⟩
theorem d_W_makeRows_23 : decode b_W_makeRows 23 = .ok (.putfield 22, 3) ∧ 23 + 3 = 26 := ⟨by decide +kernel, rfl⟩
theorem d_W_makeRows_26 : decode b_W_makeRows 26 = .ok (.aload_n 0, 1) ∧ 26 + 1 = 27 := ⟨by decide +kernel, rfl⟩
theorem d_W_makeRows_27 : decode b_W_makeRows 27 = .ok (.sipush 481, 3) ∧ 27 + 3 = 30 := ⟨by decide +kernel, rfl⟩
theorem d_W_makeRows_30 : decode b_W_makeRows 30 = .ok (.newarray .int, 2) ∧ 30 + 2 = 32 := ⟨by decide +kernel, rfl⟩
theorem d_W_makeRows_32 : decode b_W_makeRows 32 = .ok (.putfield 25, 3) ∧ 32 + 3 = 35 := ⟨by decide +kernel, rfl⟩
theorem d_W_makeRows_35 : decode b_W_makeRows 35 = .ok (.return_, 1) := by decide +kernel
theorem d_W_readyCell_0 : decode b_W_readyCell 0 = .ok (.aload_n 0, 1) ∧ 0 + 1 = 1 := ⟨by decide +kernel, rfl⟩
theorem d_W_readyCell_1 : decode b_W_readyCell 1 = .ok (.getfield 22, 3) ∧ 1 + 3 = 4 := ⟨by decide +kernel, rfl⟩
theorem d_W_readyCell_4 : decode b_W_readyCell 4 = .ok (.aload_n 0, 1) ∧ 4 + 1 = 5 := ⟨by decide +kernel, rfl⟩
theorem d_W_readyCell_5 : decode b_W_readyCell 5 = .ok (.getfield 15, 3) ∧ 5 + 3 = 8 := ⟨by decide +kernel, rfl⟩
theorem d_W_readyCell_8 : decode b_W_readyCell 8 = .ok (.iaload, 1) ∧ 8 + 1 = 9 := ⟨by decide +kernel, rfl⟩
theorem d_W_readyCell_9 : decode b_W_readyCell 9 = .ok (.ireturn, 1) := by decide +kernel
theorem d_W_readyNumber_0 : decode b_W_readyNumber 0 = .ok (.aload_n 0, 1) ∧ 0 + 1 = 1 := ⟨by decide +kernel, rfl⟩
theorem d_W_readyNumber_1 : decode b_W_readyNumber 1 = .ok (.getfield 25, 3) ∧ 1 + 3 = 4 := ⟨by decide +kernel, rfl⟩
theorem d_W_readyNumber_4 : decode b_W_readyNumber 4 = .ok (.aload_n 0, 1) ∧ 4 + 1 = 5 := ⟨by decide +kernel, rfl⟩
theorem d_W_readyNumber_5 : decode b_W_readyNumber 5 = .ok (.getfield 15, 3) ∧ 5 + 3 = 8 := ⟨by decide +kernel, rfl⟩
theorem d_W_readyNumber_8 : decode b_W_readyNumber 8 = .ok (.iaload, 1) ∧ 8 + 1 = 9 := ⟨by decide +kernel, rfl⟩
theorem d_W_readyNumber_9 : decode b_W_readyNumber 9 = .ok (.ireturn, 1) := by decide +kernel
theorem d_W_takeOut_0 : decode b_W_takeOut 0 = .ok (.aload_n 0, 1) ∧ 0 + 1 = 1 := ⟨by decide +kernel, rfl⟩
theorem d_W_takeOut_1 : decode b_W_takeOut 1 = .ok (.getfield 18, 3) ∧ 1 + 3 = 4 := ⟨by decide +kernel, rfl⟩
theorem d_W_takeOut_4 : decode b_W_takeOut 4 = .ok (.iload_n 1, 1) ∧ 4 + 1 = 5 := ⟨by decide +kernel, rfl⟩
theorem d_W_takeOut_5 : decode b_W_takeOut 5 = .ok (.dup2, 1) ∧ 5 + 1 = 6 := ⟨by decide +kernel, rfl⟩
theorem d_W_takeOut_6 : decode b_W_takeOut 6 = .ok (.iaload, 1) ∧ 6 + 1 = 7 := ⟨by decide +kernel, rfl⟩
theorem d_W_takeOut_7 : decode b_W_takeOut 7 = .ok (.iconst 1, 1) ∧ 7 + 1 = 8 := ⟨by decide +kernel, rfl⟩
theorem d_W_takeOut_8 : decode b_W_takeOut 8 = .ok (.isub, 1) ∧ 8 + 1 = 9 := ⟨by decide +kernel, rfl⟩
theorem d_W_takeOut_9 : decode b_W_takeOut 9 = .ok (.iastore, 1) ∧ 9 + 1 = 10 := ⟨by decide +kernel, rfl⟩
theorem d_W_takeOut_10 : decode b_W_takeOut 10 = .ok (.aload_n 0, 1) ∧ 10 + 1 = 11 := ⟨by decide +kernel, rfl⟩
theorem d_W_takeOut_11 : decode b_W_takeOut 11 = .ok (.getfield 22, 3) ∧ 11 + 3 = 14 := ⟨by decide +kernel, rfl⟩
theorem d_W_takeOut_14 : decode b_W_takeOut 14 = .ok (.iload_n 1, 1) ∧ 14 + 1 = 15 := ⟨by decide +kernel, rfl⟩
theorem d_W_takeOut_15 : decode b_W_takeOut 15 = .ok (.dup2, 1) ∧ 15 + 1 = 16 := ⟨by decide +kernel, rfl⟩
theorem d_W_takeOut_16 : decode b_W_takeOut 16 = .ok (.iaload, 1) ∧ 16 + 1 = 17 := ⟨by decide +kernel, rfl⟩
theorem d_W_takeOut_17 : decode b_W_takeOut 17 = .ok (.iload_n 2, 1) ∧ 17 + 1 = 18 := ⟨by decide +kernel, rfl⟩
theorem d_W_takeOut_18 : decode b_W_takeOut 18 = .ok (.isub, 1) ∧ 18 + 1 = 19 := ⟨by decide +kernel, rfl⟩
theorem d_W_takeOut_19 : decode b_W_takeOut 19 = .ok (.iastore, 1) ∧ 19 + 1 = 20 := ⟨by decide +kernel, rfl⟩
theorem d_W_takeOut_20 : decode b_W_takeOut 20 = .ok (.aload_n 0, 1) ∧ 20 + 1 = 21 := ⟨by decide +kernel, rfl⟩
theorem d_W_takeOut_21 : decode b_W_takeOut 21 = .ok (.getfield 25, 3) ∧ 21 + 3 = 24 := ⟨by decide +kernel, rfl⟩
theorem d_W_takeOut_24 : decode b_W_takeOut 24 = .ok (.iload_n 1, 1) ∧ 24 + 1 = 25 := ⟨by decide +kernel, rfl⟩
theorem d_W_takeOut_25 : decode b_W_takeOut 25 = .ok (.dup2, 1) ∧ 25 + 1 = 26 := ⟨by decide +kernel, rfl⟩
theorem d_W_takeOut_26 : decode b_W_takeOut 26 = .ok (.iaload, 1) ∧ 26 + 1 = 27 := ⟨by decide +kernel, rfl⟩
theorem d_W_takeOut_27 : decode b_W_takeOut 27 = .ok (.iload_n 3, 1) ∧ 27 + 1 = 28 := ⟨by decide +kernel, rfl⟩
theorem d_W_takeOut_28 : decode b_W_takeOut 28 = .ok (.isub, 1) ∧ 28 + 1 = 29 := ⟨by decide +kernel, rfl⟩
theorem d_W_takeOut_29 : decode b_W_takeOut 29 = .ok (.iastore, 1) ∧ 29 + 1 = 30 := ⟨by decide +kernel, rfl⟩
theorem d_W_takeOut_30 : decode b_W_takeOut 30 = .ok (.aload_n 0, 1) ∧ 30 + 1 = 31 := ⟨by decide +kernel, rfl⟩
theorem d_W_takeOut_31 : decode b_W_takeOut 31 = .ok (.getfield 18, 3) ∧ 31 + 3 = 34 := ⟨by decide +kernel, rfl⟩
theorem d_W_takeOut_34 : decode b_W_takeOut 34 = .ok (.iload_n 1, 1) ∧ 34 + 1 = 35 := ⟨by decide +kernel, rfl⟩
theorem d_W_takeOut_35 : decode b_W_takeOut 35 = .ok (.iaload, 1) ∧ 35 + 1 = 36 := ⟨by decide +kernel, rfl⟩
theorem d_W_takeOut_36 : decode b_W_takeOut 36 = .ok (.iconst 1, 1) ∧ 36 + 1 = 37 := ⟨by decide +kernel, rfl⟩
theorem d_W_takeOut_37 : decode b_W_takeOut 37 = .ok (.if_icmp .ne 16, 3) ∧ 37 + 3 = 40 ∧ ((37 : Nat) : Int) + 16 = ((53 : Nat) : Int) := ⟨by decide +kernel, rfl, by decide⟩
theorem d_W_takeOut_40 : decode b_W_takeOut 40 = .ok (.iload_n 1, 1) ∧ 40 + 1 = 41 := ⟨by decide +kernel, rfl⟩
theorem d_W_takeOut_41 : decode b_W_takeOut 41 = .ok (.aload_n 0, 1) ∧ 41 + 1 = 42 := ⟨by decide +kernel, rfl⟩
theorem d_W_takeOut_42 : decode b_W_takeOut 42 = .ok (.getfield 15, 3) ∧ 42 + 3 = 45 := ⟨by decide +kernel, rfl⟩
theorem d_W_takeOut_45 : decode b_W_takeOut 45 = .ok (.if_icmp .ge 8, 3) ∧ 45 + 3 = 48 ∧ ((45 : Nat) : Int) + 8 = ((53 : Nat) : Int) := ⟨by decide +kernel, rfl, by decide⟩
theorem d_W_takeOut_48 : decode b_W_takeOut 48 = .ok (.aload_n 0, 1) ∧ 48 + 1 = 49 := ⟨by decide +kernel, rfl⟩
theorem d_W_takeOut_49 : decode b_W_takeOut 49 = .ok (.iload_n 1, 1) ∧ 49 + 1 = 50 := ⟨by decide +kernel, rfl⟩
theorem d_W_takeOut_50 : decode b_W_takeOut 50 = .ok (.putfield 15, 3) ∧ 50 + 3 = 53 := ⟨by decide +kernel, rfl⟩
theorem d_W_takeOut_53 : decode b_W_takeOut 53 = .ok (.return_, 1) := by decide +kernel
theorem d_J_fill_0 : decode b_J_fill 0 = .ok (.iconst 0, 1) ∧ 0 + 1 = 1 := ⟨by decide +kernel, rfl⟩
theorem d_J_fill_1 : decode b_J_fill 1 = .ok (.istore_n 2, 1) ∧ 1 + 1 = 2 := ⟨by decide +kernel, rfl⟩
theorem d_J_fill_2 : decode b_J_fill 2 = .ok (.aload_n 0, 1) ∧ 2 + 1 = 3 := ⟨by decide +kernel, rfl⟩
theorem d_J_fill_3 : decode b_J_fill 3 = .ok (.arraylength, 1) ∧ 3 + 1 = 4 := ⟨by decide +kernel, rfl⟩
theorem d_J_fill_4 : decode b_J_fill 4 = .ok (.istore_n 3, 1) ∧ 4 + 1 = 5 := ⟨by decide +kernel, rfl⟩
theorem d_J_fill_5 : decode b_J_fill 5 = .ok (.iload_n 2, 1) ∧ 5 + 1 = 6 := ⟨by decide +kernel, rfl⟩
theorem d_J_fill_6 : decode b_J_fill 6 = .ok (.iload_n 3, 1) ∧ 6 + 1 = 7 := ⟨by decide +kernel, rfl⟩
theorem d_J_fill_7 : decode b_J_fill 7 = .ok (.if_icmp .ge 13, 3) ∧ 7 + 3 = 10 ∧ ((7 : Nat) : Int) + 13 = ((20 : Nat) : Int) := ⟨by decide +kernel, rfl, by decide⟩
theorem d_J_fill_10 : decode b_J_fill 10 = .ok (.aload_n 0, 1) ∧ 10 + 1 = 11 := ⟨by decide +kernel, rfl⟩
theorem d_J_fill_11 : decode b_J_fill 11 = .ok (.iload_n 2, 1) ∧ 11 + 1 = 12 := ⟨by decide +kernel, rfl⟩
theorem d_J_fill_12 : decode b_J_fill 12 = .ok (.iload_n 1, 1) ∧ 12 + 1 = 13 := ⟨by decide +kernel, rfl⟩
theorem d_J_fill_13 : decode b_J_fill 13 = .ok (.iastore, 1) ∧ 13 + 1 = 14 := ⟨by decide +kernel, rfl⟩
theorem d_J_fill_14 : decode b_J_fill 14 = .ok (.iinc 2 1, 3) ∧ 14 + 3 = 17 := ⟨by decide +kernel, rfl⟩
theorem d_J_fill_17 : decode b_J_fill 17 = .ok (.goto (-12), 3) ∧ ((17 : Nat) : Int) + (-12) = ((5 : Nat) : Int) := ⟨by decide +kernel, by decide⟩
theorem d_J_fill_20 : decode b_J_fill 20 = .ok (.return_, 1) := by decide +kernel
