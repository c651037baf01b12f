theorem d_A_lowestReadyShelf_37 : decode b_A_lowestReadyShelf 37 = .ok (.ireturn, 1) := by decide +kernel
theorem d_A_lowestWrongShelf_0 : decode b_A_lowestWrongShelf 0 = .ok (.iconst 0, 1) ∧ 0 + 1 = 1 := ⟨by decide +kernel, rfl⟩
theorem d_A_lowestWrongShelf_1 : decode b_A_lowestWrongShelf 1 = .ok (.istore_n 2, 1) ∧ 1 + 1 = 2 := ⟨by decide +kernel, rfl⟩
theorem d_A_lowestWrongShelf_2 : decode b_A_lowestWrongShelf 2 = .ok (.iload_n 2, 1) ∧ 2 + 1 = 3 := ⟨by decide +kernel, rfl⟩
theorem d_A_lowestWrongShelf_3 : decode b_A_lowestWrongShelf 3 = .ok (.bipush 8, 2) ∧ 3 + 2 = 5 := ⟨by decide +kernel, rfl⟩
theorem d_A_lowestWrongShelf_5 : decode b_A_lowestWrongShelf 5 = .ok (.if_icmp .ge 32, 3) ∧ 5 + 3 = 8 ∧ ((5 : Nat) : Int) + 32 = ((37 : Nat) : Int) := ⟨by decide +kernel, rfl, by decide⟩
theorem d_A_lowestWrongShelf_8 : decode b_A_lowestWrongShelf 8 = .ok (.iload_n 1, 1) ∧ 8 + 1 = 9 := ⟨by decide +kernel, rfl⟩
theorem d_A_lowestWrongShelf_9 : decode b_A_lowestWrongShelf 9 = .ok (.iload_n 2, 1) ∧ 9 + 1 = 10 := ⟨by decide +kernel, rfl⟩
theorem d_A_lowestWrongShelf_10 : decode b_A_lowestWrongShelf 10 = .ok (.invokestatic 177, 3) ∧ 10 + 3 = 13 := ⟨by decide +kernel, rfl⟩
theorem d_A_lowestWrongShelf_13 : decode b_A_lowestWrongShelf 13 = .ok (.ifCond .eq 18, 3) ∧ 13 + 3 = 16 ∧ ((13 : Nat) : Int) + 18 = ((31 : Nat) : Int) := ⟨by decide +kernel, rfl, by decide⟩
theorem d_A_lowestWrongShelf_16 : decode b_A_lowestWrongShelf 16 = .ok (.aload_n 0, 1) ∧ 16 + 1 = 17 := ⟨by decide +kernel, rfl⟩
theorem d_A_lowestWrongShelf_17 : decode b_A_lowestWrongShelf 17 = .ok (.getfield 53, 3) ∧ 17 + 3 = 20 := ⟨by decide +kernel, rfl⟩
theorem d_A_lowestWrongShelf_20 : decode b_A_lowestWrongShelf 20 = .ok (.iload_n 2, 1) ∧ 20 + 1 = 21 := ⟨by decide +kernel, rfl⟩
theorem d_A_lowestWrongShelf_21 : decode b_A_lowestWrongShelf 21 = .ok (.aaload, 1) ∧ 21 + 1 = 22 := ⟨by decide +kernel, rfl⟩
theorem d_A_lowestWrongShelf_22 : decode b_A_lowestWrongShelf 22 = .ok (.invokevirtual 169, 3) ∧ 22 + 3 = 25 := ⟨by decide +kernel, rfl⟩
theorem d_A_lowestWrongShelf_25 : decode b_A_lowestWrongShelf 25 = .ok (.iconst (-1), 1) ∧ 25 + 1 = 26 := ⟨by decide +kernel, rfl⟩
theorem d_A_lowestWrongShelf_26 : decode b_A_lowestWrongShelf 26 = .ok (.if_icmp .eq 5, 3) ∧ 26 + 3 = 29 ∧ ((26 : Nat) : Int) + 5 = ((31 : Nat) : Int) := ⟨by decide +kernel, rfl, by decide⟩
theorem d_A_lowestWrongShelf_29 : decode b_A_lowestWrongShelf 29 = .ok (.iload_n 2, 1) ∧ 29 + 1 = 30 := ⟨by decide +kernel, rfl⟩
theorem d_A_lowestWrongShelf_30 : decode b_A_lowestWrongShelf 30 = .ok (.ireturn, 1) := by decide +kernel
theorem d_A_lowestWrongShelf_31 : decode b_A_lowestWrongShelf 31 = .ok (.iinc 2 1, 3) ∧ 31 + 3 = 34 := ⟨by decide +kernel, rfl⟩
theorem d_A_lowestWrongShelf_34 : decode b_A_lowestWrongShelf 34 = .ok (.goto (-32), 3) ∧ ((34 : Nat) : Int) + (-32) = ((2 : Nat) : Int) := ⟨by decide +kernel, by decide⟩
theorem d_A_lowestWrongShelf_37 : decode b_A_lowestWrongShelf 37 = .ok (.iconst (-1), 1) ∧ 37 + 1 = 38 := ⟨by decide +kernel, rfl⟩
theorem d_A_lowestWrongShelf_38 : decode b_A_lowestWrongShelf 38 = .ok (.ireturn, 1) := by decide +kernel
theorem d_A_makeKnown_0 : decode b_A_makeKnown 0 = .ok (.aload_n 0, 1) ∧ 0 + 1 = 1 := ⟨by decide +kernel, rfl⟩
theorem d_A_makeKnown_1 : decode b_A_makeKnown 1 = .ok (.getfield 48, 3) ∧ 1 + 3 = 4 := ⟨by decide +kernel, rfl⟩
theorem d_A_makeKnown_4 : decode b_A_makeKnown 4 = .ok (.iload_n 2, 1) ∧ 4 + 1 = 5 := ⟨by decide +kernel, rfl⟩
theorem d_A_makeKnown_5 : decode b_A_makeKnown 5 = .ok (.iload_n 3, 1) ∧ 5 + 1 = 6 := ⟨by decide +kernel, rfl⟩
theorem d_A_makeKnown_6 : decode b_A_makeKnown 6 = .ok (.iastore, 1) ∧ 6 + 1 = 7 := ⟨by decide +kernel, rfl⟩
theorem d_A_makeKnown_7 : decode b_A_makeKnown 7 = .ok (.iload_n 2, 1) ∧ 7 + 1 = 8 := ⟨by decide +kernel, rfl⟩
theorem d_A_makeKnown_8 : decode b_A_makeKnown 8 = .ok (.bipush 16, 2) ∧ 8 + 2 = 10 := ⟨by decide +kernel, rfl⟩
theorem d_A_makeKnown_10 : decode b_A_makeKnown 10 = .ok (.irem, 1) ∧ 10 + 1 = 11 := ⟨by decide +kernel, rfl⟩
theorem d_A_makeKnown_11 : decode b_A_makeKnown 11 = .ok (.istore 4, 2) ∧ 11 + 2 = 13 := ⟨by decide +kernel, rfl⟩
theorem d_A_makeKnown_13 : decode b_A_makeKnown 13 = .ok (.iload_n 2, 1) ∧ 13 + 1 = 14 := ⟨by decide +kernel, rfl⟩
theorem d_A_makeKnown_14 : decode b_A_makeKnown 14 = .ok (.bipush 16, 2) ∧ 14 + 2 = 16 := ⟨by decide +kernel, rfl⟩
theorem d_A_makeKnown_16 : decode b_A_makeKnown 16 = .ok (.idiv, 1) ∧ 16 + 1 = 17 := ⟨by decide +kernel, rfl⟩
theorem d_A_makeKnown_17 : decode b_A_makeKnown 17 = .ok (.istore 5, 2) ∧ 17 + 2 = 19 := ⟨by decide +kernel, rfl⟩
theorem d_A_makeKnown_19 : decode b_A_makeKnown 19 = .ok (.iconst 0, 1) ∧ 19 + 1 = 20 := ⟨by decide +kernel, rfl⟩
theorem d_A_makeKnown_20 : decode b_A_makeKnown 20 = .ok (.istore 6, 2) ∧ 20 + 2 = 22 := ⟨by decide +kernel, rfl⟩
theorem d_A_makeKnown_22 : decode b_A_makeKnown 22 = .ok (.iload 6, 2) ∧ 22 + 2 = 24 := ⟨by decide +kernel, rfl⟩
theorem d_A_makeKnown_24 : decode b_A_makeKnown 24 = .ok (.bipush 8, 2) ∧ 24 + 2 = 26 := ⟨by decide +kernel, rfl⟩
theorem d_A_makeKnown_26 : decode b_A_makeKnown 26 = .ok (.if_icmp .ge 44, 3) ∧ 26 + 3 = 29 ∧ ((26 : Nat) : Int) + 44 = ((70 : Nat) : Int) := ⟨by decide +kernel, rfl, by decide⟩
theorem d_A_makeKnown_29 : decode b_A_makeKnown 29 = .ok (.iload_n 1, 1) ∧ 29 + 1 = 30 := ⟨by decide +kernel, rfl⟩
theorem d_A_makeKnown_30 : decode b_A_makeKnown 30 = .ok (.iload 6, 2) ∧ 30 + 2 = 32 := ⟨by decide +kernel, rfl⟩
theorem d_A_makeKnown_32 : decode b_A_makeKnown 32 = .ok (.invokestatic 177, 3) ∧ 32 + 3 = 35 := ⟨by decide +kernel, rfl⟩
theorem d_A_makeKnown_35 : decode b_A_makeKnown 35 = .ok (.ifCond .eq 29, 3) ∧ 35 + 3 = 38 ∧ ((35 : Nat) : Int) + 29 = ((64 : Nat) : Int) := ⟨by decide +kernel, rfl, by decide⟩
theorem d_A_makeKnown_38 : decode b_A_makeKnown 38 = .ok (.aload_n 0, 1) ∧ 38 + 1 = 39 := ⟨by decide +kernel, rfl⟩
theorem d_A_makeKnown_39 : decode b_A_makeKnown 39 = .ok (.getfield 53, 3) ∧ 39 + 3 = 42 := ⟨by decide +kernel, rfl⟩
theorem d_A_makeKnown_42 : decode b_A_makeKnown 42 = .ok (.iload 6, 2) ∧ 42 + 2 = 44 := ⟨by decide +kernel, rfl⟩
theorem d_A_makeKnown_44 : decode b_A_makeKnown 44 = .ok (.aaload, 1) ∧ 44 + 1 = 45 := ⟨by decide +kernel, rfl⟩
theorem d_A_makeKnown_45 : decode b_A_makeKnown 45 = .ok (.aload_n 0, 1) ∧ 45 + 1 = 46 := ⟨by decide +kernel, rfl⟩
theorem d_A_makeKnown_46 : decode b_A_makeKnown 46 = .ok (.getfield 22, 3) ∧ 46 + 3 = 49 := ⟨by decide +kernel, rfl⟩
theorem d_A_makeKnown_49 : decode b_A_makeKnown 49 = .ok (.iload 6, 2) ∧ 49 + 2 = 51 := ⟨by decide +kernel, rfl⟩
theorem d_A_makeKnown_51 : decode b_A_makeKnown 51 = .ok (.aaload, 1) ∧ 51 + 1 = 52 := ⟨by decide +kernel, rfl⟩
theorem d_A_makeKnown_52 : decode b_A_makeKnown 52 = .ok (.iload 4, 2) ∧ 52 + 2 = 54 := ⟨by decide +kernel, rfl⟩
theorem d_A_makeKnown_54 : decode b_A_makeKnown 54 = .ok (.iload 5, 2) ∧ 54 + 2 = 56 := ⟨by decide +kernel, rfl⟩
theorem d_A_makeKnown_56 : decode b_A_makeKnown 56 = .ok (.invokevirtual 237, 3) ∧ 56 + 3 = 59 := ⟨by decide +kernel, rfl⟩
theorem d_A_makeKnown_59 : decode b_A_makeKnown 59 = .ok (.iload_n 2, 1) ∧ 59 + 1 = 60 := ⟨by decide +kernel, rfl⟩
theorem d_A_makeKnown_60 : decode b_A_makeKnown 60 = .ok (.iload_n 3, 1) ∧ 60 + 1 = 61 := ⟨by decide +kernel, rfl⟩
theorem d_A_makeKnown_61 : decode b_A_makeKnown 61 = .ok (.invokevirtual 240, 3) ∧ 61 + 3 = 64 := ⟨by decide +kernel, rfl⟩
theorem d_A_makeKnown_64 : decode b_A_makeKnown 64 = .ok (.iinc 6 1, 3) ∧ 64 + 3 = 67 := ⟨by decide +kernel, rfl⟩
theorem d_A_makeKnown_67 : decode b_A_makeKnown 67 = .ok (.goto (-45), 3) ∧ ((67 : Nat) : Int) + (-45) = ((22 : Nat) : Int) := ⟨by decide +kernel, by decide⟩
theorem d_A_makeKnown_70 : decode b_A_makeKnown 70 = .ok (.return_, 1) := by decide +kernel
theorem d_A_pixel_0 : decode b_A_pixel 0 = .ok (.aload_n 0, 1) ∧ 0 + 1 = 1 := ⟨by decide +kernel, rfl⟩
theorem d_A_pixel_1 : decode b_A_pixel 1 = .ok (.iload_n 1, 1) ∧ 1 + 1 = 2 := ⟨by decide +kernel, rfl⟩
theorem d_A_pixel_2 : decode b_A_pixel 2 = .ok (.iload_n 2, 1) ∧ 2 + 1 = 3 := ⟨by decide +kernel, rfl⟩
theorem d_A_pixel_3 : decode b_A_pixel 3 = .ok (.invokevirtual 78, 3) ∧ 3 + 3 = 6 := ⟨by decide +kernel, rfl⟩
theorem d_A_pixel_6 : decode b_A_pixel 6 = .ok (.iload_n 1, 1) ∧ 6 + 1 = 7 := ⟨by decide +kernel, rfl⟩
theorem d_A_pixel_7 : decode b_A_pixel 7 = .ok (.iload_n 2, 1) ∧ 7 + 1 = 8 := ⟨by decide +kernel, rfl⟩
theorem d_A_pixel_8 : decode b_A_pixel 8 = .ok (.invokestatic 82, 3) ∧ 8 + 3 = 11 := ⟨by decide +kernel, rfl⟩
theorem d_A_pixel_11 : decode b_A_pixel 11 = .ok (.istore 4, 2) ∧ 11 + 2 = 13 := ⟨by decide +kernel, rfl⟩
theorem d_A_pixel_13 : decode b_A_pixel 13 = .ok (.aload_n 0, 1) ∧ 13 + 1 = 14 := ⟨by decide +kernel, rfl⟩
theorem d_A_pixel_14 : decode b_A_pixel 14 = .ok (.getfield 16, 3) ∧ 14 + 3 = 17 := ⟨by decide +kernel, rfl⟩
theorem d_A_pixel_17 : decode b_A_pixel 17 = .ok (.iload 4, 2) ∧ 17 + 2 = 19 := ⟨by decide +kernel, rfl⟩
theorem d_A_pixel_19 : decode b_A_pixel 19 = .ok (.iaload, 1) ∧ 19 + 1 = 20 := ⟨by decide +kernel, rfl⟩
theorem d_A_pixel_20 : decode b_A_pixel 20 = .ok (.istore 5, 2) ∧ 20 + 2 = 22 := ⟨by decide +kernel, rfl⟩
theorem d_A_pixel_22 : decode b_A_pixel 22 = .ok (.aload_n 0, 1) ∧ 22 + 1 = 23 := ⟨by decide +kernel, rfl⟩
theorem d_A_pixel_23 : decode b_A_pixel 23 = .ok (.getfield 16, 3) ∧ 23 + 3 = 26 := ⟨by decide +kernel, rfl⟩
theorem d_A_pixel_26 : decode b_A_pixel 26 = .ok (.iload 4, 2) ∧ 26 + 2 = 28 := ⟨by decide +kernel, rfl⟩
theorem d_A_pixel_28 : decode b_A_pixel 28 = .ok (.iload_n 3, 1) ∧ 28 + 1 = 29 := ⟨by decide +kernel, rfl⟩
theorem d_A_pixel_29 : decode b_A_pixel 29 = .ok (.iastore, 1) ∧ 29 + 1 = 30 := ⟨by decide +kernel, rfl⟩
theorem d_A_pixel_30 : decode b_A_pixel 30 = .ok (.iload 5, 2) ∧ 30 + 2 = 32 := ⟨by decide +kernel, rfl⟩
theorem d_A_pixel_32 : decode b_A_pixel 32 = .ok (.ireturn, 1) := by decide +kernel
theorem d_A_project_0 : decode b_A_project 0 = .ok (.iload_n 1, 1) ∧ 0 + 1 = 1 := ⟨by decide +kernel, rfl⟩
theorem d_A_project_1 : decode b_A_project 1 = .ok (.invokestatic 95, 3) ∧ 1 + 3 = 4 := ⟨by decide +kernel, rfl⟩
theorem d_A_project_4 : decode b_A_project 4 = .ok (.aload_n 0, 1) ∧ 4 + 1 = 5 := ⟨by decide +kernel, rfl⟩
theorem d_A_project_5 : decode b_A_project 5 = .ok (.getfield 22, 3) ∧ 5 + 3 = 8 := ⟨by decide +kernel, rfl⟩
theorem d_A_project_8 : decode b_A_project 8 = .ok (.iload_n 1, 1) ∧ 8 + 1 = 9 := ⟨by decide +kernel, rfl⟩
theorem d_A_project_9 : decode b_A_project 9 = .ok (.aaload, 1) ∧ 9 + 1 = 10 := ⟨by decide +kernel, rfl⟩
theorem d_A_project_10 : decode b_A_project 10 = .ok (.getfield 117, 3) ∧ 10 + 3 = 13 := ⟨by decide +kernel, rfl⟩
theorem d_A_project_13 : decode b_A_project 13 = .ok (.invokestatic 86, 3) ∧ 13 + 3 = 16 := ⟨by decide +kernel, rfl⟩
theorem d_A_project_16 : decode b_A_project 16 = .ok (.aload_n 0, 1) ∧ 16 + 1 = 17 := ⟨by decide +kernel, rfl⟩
theorem d_A_project_17 : decode b_A_project 17 = .ok (.getfield 22, 3) ∧ 17 + 3 = 20 := ⟨by decide +kernel, rfl⟩
theorem d_A_project_20 : decode b_A_project 20 = .ok (.iload_n 1, 1) ∧ 20 + 1 = 21 := ⟨by decide +kernel, rfl⟩
theorem d_A_project_21 : decode b_A_project 21 = .ok (.aaload, 1) ∧ 21 + 1 = 22 := ⟨by decide +kernel, rfl⟩
theorem d_A_project_22 : decode b_A_project 22 = .ok (.aload_n 0, 1) ∧ 22 + 1 = 23 := ⟨by decide +kernel, rfl⟩
theorem d_A_project_23 : decode b_A_project 23 = .ok (.getfield 16, 3) ∧ 23 + 3 = 26 := ⟨by decide +kernel, rfl⟩
theorem d_A_project_26 : decode b_A_project 26 = .ok (.aload_n 0, 1) ∧ 26 + 1 = 27 := ⟨by decide +kernel, rfl⟩
theorem d_A_project_27 : decode b_A_project 27 = .ok (.getfield 9, 3) ∧ 27 + 3 = 30 := ⟨by decide +kernel, rfl⟩
theorem d_A_project_30 : decode b_A_project 30 = .ok (.aload_n 0, 1) ∧ 30 + 1 = 31 := ⟨by decide +kernel, rfl⟩
theorem d_A_project_31 : decode b_A_project 31 = .ok (.getfield 13, 3) ∧ 31 + 3 = 34 := ⟨by decide +kernel, rfl⟩
theorem d_A_project_34 : decode b_A_project 34 = .ok (.invokevirtual 132, 3) ∧ 34 + 3 = 37 := ⟨by decide +kernel, rfl⟩
theorem d_A_project_37 : decode b_A_project 37 = .ok (.return_, 1) := by decide +kernel
theorem d_A_put_0 : decode b_A_put 0 = .ok (.aload_n 0, 1) ∧ 0 + 1 = 1 := ⟨by decide +kernel, rfl⟩
theorem d_A_put_1 : decode b_A_put 1 = .ok (.iload_n 1, 1) ∧ 1 + 1 = 2 := ⟨by decide +kernel, rfl⟩
theorem d_A_put_2 : decode b_A_put 2 = .ok (.iload_n 2, 1) ∧ 2 + 1 = 3 := ⟨by decide +kernel, rfl⟩
theorem d_A_put_3 : decode b_A_put 3 = .ok (.invokevirtual 136, 3) ∧ 3 + 3 = 6 := ⟨by decide +kernel, rfl⟩
theorem d_A_put_6 : decode b_A_put 6 = .ok (.aload_n 0, 1) ∧ 6 + 1 = 7 := ⟨by decide +kernel, rfl⟩
theorem d_A_put_7 : decode b_A_put 7 = .ok (.getfield 22, 3) ∧ 7 + 3 = 10 := ⟨by decide +kernel, rfl⟩
theorem d_A_put_10 : decode b_A_put 10 = .ok (.iload_n 1, 1) ∧ 10 + 1 = 11 := ⟨by decide +kernel, rfl⟩
theorem d_A_put_11 : decode b_A_put 11 = .ok (.aaload, 1) ∧ 11 + 1 = 12 := ⟨by decide +kernel, rfl⟩
theorem d_A_put_12 : decode b_A_put 12 = .ok (.getfield 139, 3) ∧ 12 + 3 = 15 := ⟨by decide +kernel, rfl⟩
theorem d_A_put_15 : decode b_A_put 15 = .ok (.astore 4, 2) ∧ 15 + 2 = 17 := ⟨by decide +kernel, rfl⟩
theorem d_A_put_17 : decode b_A_put 17 = .ok (.aload 4, 2) ∧ 17 + 2 = 19 := ⟨by decide +kernel, rfl⟩
theorem d_A_put_19 : decode b_A_put 19 = .ok (.iload_n 2, 1) ∧ 19 + 1 = 20 := ⟨by decide +kernel, rfl⟩
theorem d_A_put_20 : decode b_A_put 20 = .ok (.iaload, 1) ∧ 20 + 1 = 21 := ⟨by decide +kernel, rfl⟩
theorem d_A_put_21 : decode b_A_put 21 = .ok (.istore 5, 2) ∧ 21 + 2 = 23 := ⟨by decide +kernel, rfl⟩
theorem d_A_put_23 : decode b_A_put 23 = .ok (.aload 4, 2) ∧ 23 + 2 = 25 := ⟨by decide +kernel, rfl⟩
theorem d_A_put_25 : decode b_A_put 25 = .ok (.iload_n 2, 1) ∧ 25 + 1 = 26 := ⟨by decide +kernel, rfl⟩
theorem d_A_put_26 : decode b_A_put 26 = .ok (.iload_n 3, 1) ∧ 26 + 1 = 27 := ⟨by decide +kernel, rfl⟩
theorem d_A_put_27 : decode b_A_put 27 = .ok (.iastore, 1) ∧ 27 + 1 = 28 := ⟨by decide +kernel, rfl⟩
theorem d_A_put_28 : decode b_A_put 28 = .ok (.iload 5, 2) ∧ 28 + 2 = 30 := ⟨by decide +kernel, rfl⟩
theorem d_A_put_30 : decode b_A_put 30 = .ok (.ireturn, 1) := by decide +kernel
theorem d_A_rebuild_0 : decode b_A_rebuild 0 = .ok (.iload_n 1, 1) ∧ 0 + 1 = 1 := ⟨by decide +kernel, rfl⟩
theorem d_A_rebuild_1 : decode b_A_rebuild 1 = .ok (.invokestatic 142, 3) ∧ 1 + 3 = 4 := ⟨by decide +kernel, rfl⟩
theorem d_A_rebuild_4 : decode b_A_rebuild 4 = .ok (.aload_n 0, 1) ∧ 4 + 1 = 5 := ⟨by decide +kernel, rfl⟩
theorem d_A_rebuild_5 : decode b_A_rebuild 5 = .ok (.iload_n 1, 1) ∧ 5 + 1 = 6 := ⟨by decide +kernel, rfl⟩
theorem d_A_rebuild_6 : decode b_A_rebuild 6 = .ok (.invokevirtual 145, 3) ∧ 6 + 3 = 9 := ⟨by decide +kernel, rfl⟩
theorem d_A_rebuild_9 : decode b_A_rebuild 9 = .ok (.istore_n 2, 1) ∧ 9 + 1 = 10 := ⟨by decide +kernel, rfl⟩
theorem d_A_rebuild_10 : decode b_A_rebuild 10 = .ok (.iload_n 2, 1) ∧ 10 + 1 = 11 := ⟨by decide +kernel, rfl⟩
theorem d_A_rebuild_11 : decode b_A_rebuild 11 = .ok (.aload_n 0, 1) ∧ 11 + 1 = 12 := ⟨by decide +kernel, rfl⟩
theorem d_A_rebuild_12 : decode b_A_rebuild 12 = .ok (.invokevirtual 153, 3) ∧ 12 + 3 = 15 := ⟨by decide +kernel, rfl⟩
theorem d_A_rebuild_15 : decode b_A_rebuild 15 = .ok (.iconst (-1), 1) ∧ 15 + 1 = 16 := ⟨by decide +kernel, rfl⟩
theorem d_A_rebuild_16 : decode b_A_rebuild 16 = .ok (.ixor, 1) ∧ 16 + 1 = 17 := ⟨by decide +kernel, rfl⟩
theorem d_A_rebuild_17 : decode b_A_rebuild 17 = .ok (.iand, 1) ∧ 17 + 1 = 18 := ⟨by decide +kernel, rfl⟩
theorem d_A_rebuild_18 : decode b_A_rebuild 18 = .ok (.ifCond .ne 7, 3) ∧ 18 + 3 = 21 ∧ ((18 : Nat) : Int) + 7 = ((25 : Nat) : Int) := ⟨by decide +kernel, rfl, by decide⟩
theorem d_A_rebuild_21 : decode b_A_rebuild 21 = .ok (.iconst 1, 1) ∧ 21 + 1 = 22 := ⟨by decide +kernel, rfl⟩
theorem d_A_rebuild_22 : decode b_A_rebuild 22 = .ok (.goto 4, 3) ∧ ((22 : Nat) : Int) + 4 = ((26 : Nat) : Int) := ⟨by decide +kernel, by decide⟩
theorem d_A_rebuild_25 : decode b_A_rebuild 25 = .ok (.iconst 0, 1) ∧ 25 + 1 = 26 := ⟨by decide +kernel, rfl⟩
theorem d_A_rebuild_26 : decode b_A_rebuild 26 = .ok (.invokestatic 86, 3) ∧ 26 + 3 = 29 := ⟨by decide +kernel, rfl⟩
theorem d_A_rebuild_29 : decode b_A_rebuild 29 = .ok (.aload_n 0, 1) ∧ 29 + 1 = 30 := ⟨by decide +kernel, rfl⟩
theorem d_A_rebuild_30 : decode b_A_rebuild 30 = .ok (.aload_n 0, 1) ∧ 30 + 1 = 31 := ⟨by decide +kernel, rfl⟩
theorem d_A_rebuild_31 : decode b_A_rebuild 31 = .ok (.iload_n 2, 1) ∧ 31 + 1 = 32 := ⟨by decide +kernel, rfl⟩
theorem d_A_rebuild_32 : decode b_A_rebuild 32 = .ok (.invokevirtual 157, 3) ∧ 32 + 3 = 35 := ⟨by decide +kernel, rfl⟩
theorem d_A_rebuild_35 : decode b_A_rebuild 35 = .ok (.putfield 42, 3) ∧ 35 + 3 = 38 := ⟨by decide +kernel, rfl⟩
theorem d_A_rebuild_38 : decode b_A_rebuild 38 = .ok (.aload_n 0, 1) ∧ 38 + 1 = 39 := ⟨by decide +kernel, rfl⟩
theorem d_A_rebuild_39 : decode b_A_rebuild 39 = .ok (.iconst (-1), 1) ∧ 39 + 1 = 40 := ⟨by decide +kernel, rfl⟩
theorem d_A_rebuild_40 : decode b_A_rebuild 40 = .ok (.putfield 45, 3) ∧ 40 + 3 = 43 := ⟨by decide +kernel, rfl⟩
theorem d_A_rebuild_43 : decode b_A_rebuild 43 = .ok (.aload_n 0, 1) ∧ 43 + 1 = 44 := ⟨by decide +kernel, rfl⟩
theorem d_A_rebuild_44 : decode b_A_rebuild 44 = .ok (.getfield 42, 3) ∧ 44 + 3 = 47 := ⟨by decide +kernel, rfl⟩
theorem d_A_rebuild_47 : decode b_A_rebuild 47 = .ok (.aload_n 0, 1) ∧ 47 + 1 = 48 := ⟨by decide +kernel, rfl⟩
theorem d_A_rebuild_48 : decode b_A_rebuild 48 = .ok (.getfield 9, 3) ∧ 48 + 3 = 51 := ⟨by decide +kernel, rfl⟩
theorem d_A_rebuild_51 : decode b_A_rebuild 51 = .ok (.aload_n 0, 1) ∧ 51 + 1 = 52 := ⟨by decide +kernel, rfl⟩
theorem d_A_rebuild_52 : decode b_A_rebuild 52 = .ok (.getfield 13, 3) ∧ 52 + 3 = 55 := ⟨by decide +kernel, rfl⟩
theorem d_A_rebuild_55 : decode b_A_rebuild 55 = .ok (.imul, 1) ∧ 55 + 1 = 56 := ⟨by decide +kernel, rfl⟩
theorem d_A_rebuild_56 : decode b_A_rebuild 56 = .ok (.if_icmp .ge 5, 3) ∧ 56 + 3 = 59 ∧ ((56 : Nat) : Int) + 5 = ((61 : Nat) : Int) := ⟨by decide +kernel, rfl, by decide⟩
theorem d_A_rebuild_59 : decode b_A_rebuild 59 = .ok (.iconst (-1), 1) ∧ 59 + 1 = 60 := ⟨by decide +kernel, rfl⟩
theorem d_A_rebuild_60 : decode b_A_rebuild 60 = .ok (.ireturn, 1) := by decide +kernel
theorem d_A_rebuild_61 : decode b_A_rebuild 61 = .ok (.aload_n 0, 1) ∧ 61 + 1 = 62 := ⟨by decide +kernel, rfl⟩
theorem d_A_rebuild_62 : decode b_A_rebuild 62 = .ok (.getfield 48, 3) ∧ 62 + 3 = 65 := ⟨by decide +kernel, rfl⟩
theorem d_A_rebuild_65 : decode b_A_rebuild 65 = .ok (.iconst 0, 1) ∧ 65 + 1 = 66 := ⟨by decide +kernel, rfl⟩
theorem d_A_rebuild_66 : decode b_A_rebuild 66 = .ok (.aload_n 0, 1) ∧ 66 + 1 = 67 := ⟨by decide +kernel, rfl⟩
theorem d_A_rebuild_67 : decode b_A_rebuild 67 = .ok (.getfield 39, 3) ∧ 67 + 3 = 70 := ⟨by decide +kernel, rfl⟩
theorem d_A_rebuild_70 : decode b_A_rebuild 70 = .ok (.iconst 0, 1) ∧ 70 + 1 = 71 := ⟨by decide +kernel, rfl⟩
theorem d_A_rebuild_71 : decode b_A_rebuild 71 = .ok (.sipush 256, 3) ∧ 71 + 3 = 74 := ⟨by decide +kernel, rfl⟩
theorem d_A_rebuild_74 : decode b_A_rebuild 74 = .ok (.invokestatic 160, 3) ∧ 74 + 3 = 77 := ⟨by decide +kernel, rfl⟩
theorem d_A_rebuild_77 : decode b_A_rebuild 77 = .ok (.aload_n 0, 1) ∧ 77 + 1 = 78 := ⟨by decide +kernel, rfl⟩
theorem d_A_rebuild_78 : decode b_A_rebuild 78 = .ok (.iconst 1, 1) ∧ 78 + 1 = 79 := ⟨by decide +kernel, rfl⟩
theorem d_A_rebuild_79 : decode b_A_rebuild 79 = .ok (.putfield 36, 3) ∧ 79 + 3 = 82 := ⟨by decide +kernel, rfl⟩
theorem d_A_rebuild_82 : decode b_A_rebuild 82 = .ok (.aload_n 0, 1) ∧ 82 + 1 = 83 := ⟨by decide +kernel, rfl⟩
theorem d_A_rebuild_83 : decode b_A_rebuild 83 = .ok (.iload_n 2, 1) ∧ 83 + 1 = 84 := ⟨by decide +kernel, rfl⟩
theorem d_A_rebuild_84 : decode b_A_rebuild 84 = .ok (.invokevirtual 166, 3) ∧ 84 + 3 = 87 := ⟨by decide +kernel, rfl⟩
theorem d_A_rebuild_87 : decode b_A_rebuild 87 = .ok (.istore_n 3, 1) ∧ 87 + 1 = 88 := ⟨by decide +kernel, rfl⟩
theorem d_A_rebuild_88 : decode b_A_rebuild 88 = .ok (.iload_n 3, 1) ∧ 88 + 1 = 89 := ⟨by decide +kernel, rfl⟩
theorem d_A_rebuild_89 : decode b_A_rebuild 89 = .ok (.iconst (-1), 1) ∧ 89 + 1 = 90 := ⟨by decide +kernel, rfl⟩
theorem d_A_rebuild_90 : decode b_A_rebuild 90 = .ok (.if_icmp .ne 6, 3) ∧ 90 + 3 = 93 ∧ ((90 : Nat) : Int) + 6 = ((96 : Nat) : Int) := ⟨by decide +kernel, rfl, by decide⟩
theorem d_A_rebuild_93 : decode b_A_rebuild 93 = .ok (.bipush 99, 2) ∧ 93 + 2 = 95 := ⟨by decide +kernel, rfl⟩
theorem d_A_rebuild_95 : decode b_A_rebuild 95 = .ok (.ireturn, 1) := by decide +kernel
theorem d_A_rebuild_96 : decode b_A_rebuild 96 = .ok (.aload_n 0, 1) ∧ 96 + 1 = 97 := ⟨by decide +kernel, rfl⟩
theorem d_A_rebuild_97 : decode b_A_rebuild 97 = .ok (.aload_n 0, 1) ∧ 97 + 1 = 98 := ⟨by decide +kernel, rfl⟩
theorem d_A_rebuild_98 : decode b_A_rebuild 98 = .ok (.getfield 53, 3) ∧ 98 + 3 = 101 := ⟨by decide +kernel, rfl⟩
theorem d_A_rebuild_101 : decode b_A_rebuild 101 = .ok (.iload_n 3, 1) ∧ 101 + 1 = 102 := ⟨by decide +kernel, rfl⟩
theorem d_A_rebuild_102 : decode b_A_rebuild 102 = .ok (.aaload, 1) ∧ 102 + 1 = 103 := ⟨by decide +kernel, rfl⟩
theorem d_A_rebuild_103 : decode b_A_rebuild 103 = .ok (.invokevirtual 169, 3) ∧ 103 + 3 = 106 := ⟨by decide +kernel, rfl⟩
theorem d_A_rebuild_106 : decode b_A_rebuild 106 = .ok (.putfield 45, 3) ∧ 106 + 3 = 109 := ⟨by decide +kernel, rfl⟩
theorem d_A_rebuild_109 : decode b_A_rebuild 109 = .ok (.iload_n 3, 1) ∧ 109 + 1 = 110 := ⟨by decide +kernel, rfl⟩
theorem d_A_rebuild_110 : decode b_A_rebuild 110 = .ok (.ireturn, 1) := by decide +kernel
theorem d_A_regenerate_0 : decode b_A_regenerate 0 = .ok (.iload_n 1, 1) ∧ 0 + 1 = 1 := ⟨by decide +kernel, rfl⟩
theorem d_A_regenerate_1 : decode b_A_regenerate 1 = .ok (.invokestatic 95, 3) ∧ 1 + 3 = 4 := ⟨by decide +kernel, rfl⟩
theorem d_A_regenerate_4 : decode b_A_regenerate 4 = .ok (.aload_n 0, 1) ∧ 4 + 1 = 5 := ⟨by decide +kernel, rfl⟩
theorem d_A_regenerate_5 : decode b_A_regenerate 5 = .ok (.getfield 22, 3) ∧ 5 + 3 = 8 := ⟨by decide +kernel, rfl⟩
theorem d_A_regenerate_8 : decode b_A_regenerate 8 = .ok (.iload_n 1, 1) ∧ 8 + 1 = 9 := ⟨by decide +kernel, rfl⟩
theorem d_A_regenerate_9 : decode b_A_regenerate 9 = .ok (.aaload, 1) ∧ 9 + 1 = 10 := ⟨by decide +kernel, rfl⟩
theorem d_A_regenerate_10 : decode b_A_regenerate 10 = .ok (.astore_n 2, 1) ∧ 10 + 1 = 11 := ⟨by decide +kernel, rfl⟩
theorem d_A_regenerate_11 : decode b_A_regenerate 11 = .ok (.aload_n 2, 1) ∧ 11 + 1 = 12 := ⟨by decide +kernel, rfl⟩
theorem d_A_regenerate_12 : decode b_A_regenerate 12 = .ok (.getfield 117, 3) ∧ 12 + 3 = 15 := ⟨by decide +kernel, rfl⟩
theorem d_A_regenerate_15 : decode b_A_regenerate 15 = .ok (.ifCond .eq 14, 3) ∧ 15 + 3 = 18 ∧ ((15 : Nat) : Int) + 14 = ((29 : Nat) : Int) := ⟨by decide +kernel, rfl, by decide⟩
theorem d_A_regenerate_18 : decode b_A_regenerate 18 = .ok (.aload_n 2, 1) ∧ 18 + 1 = 19 := ⟨by decide +kernel, rfl⟩
theorem d_A_regenerate_19 : decode b_A_regenerate 19 = .ok (.getfield 129, 3) ∧ 19 + 3 = 22 := ⟨by decide +kernel, rfl⟩
theorem d_A_regenerate_22 : decode b_A_regenerate 22 = .ok (.ifCond .ne 7, 3) ∧ 22 + 3 = 25 ∧ ((22 : Nat) : Int) + 7 = ((29 : Nat) : Int) := ⟨by decide +kernel, rfl, by decide⟩
theorem d_A_regenerate_25 : decode b_A_regenerate 25 = .ok (.iconst 1, 1) ∧ 25 + 1 = 26 := ⟨by decide +kernel, rfl⟩
theorem d_A_regenerate_26 : decode b_A_regenerate 26 = .ok (.goto 4, 3) ∧ ((26 : Nat) : Int) + 4 = ((30 : Nat) : Int) := ⟨by decide +kernel, by decide⟩
theorem d_A_regenerate_29 : decode b_A_regenerate 29 = .ok (.iconst 0, 1) ∧ 29 + 1 = 30 := ⟨by decide +kernel, rfl⟩
theorem d_A_regenerate_30 : decode b_A_regenerate 30 = .ok (.invokestatic 86, 3) ∧ 30 + 3 = 33 := ⟨by decide +kernel, rfl⟩
theorem d_A_regenerate_33 : decode b_A_regenerate 33 = .ok (.aload_n 0, 1) ∧ 33 + 1 = 34 := ⟨by decide +kernel, rfl⟩
theorem d_A_regenerate_34 : decode b_A_regenerate 34 = .ok (.aload_n 0, 1) ∧ 34 + 1 = 35 := ⟨by decide +kernel, rfl⟩
theorem d_A_regenerate_35 : decode b_A_regenerate 35 = .ok (.invokevirtual 153, 3) ∧ 35 + 3 = 38 := ⟨by decide +kernel, rfl⟩
theorem d_A_regenerate_38 : decode b_A_regenerate 38 = .ok (.invokevirtual 157, 3) ∧ 38 + 3 = 41 := ⟨by decide +kernel, rfl⟩
theorem d_A_regenerate_41 : decode b_A_regenerate 41 = .ok (.aload_n 0, 1) ∧ 41 + 1 = 42 := ⟨by decide +kernel, rfl⟩
theorem d_A_regenerate_42 : decode b_A_regenerate 42 = .ok (.getfield 9, 3) ∧ 42 + 3 = 45 := ⟨by decide +kernel, rfl⟩
theorem d_A_regenerate_45 : decode b_A_regenerate 45 = .ok (.aload_n 0, 1) ∧ 45 + 1 = 46 := ⟨by decide +kernel, rfl⟩
theorem d_A_regenerate_46 : decode b_A_regenerate 46 = .ok (.getfield 13, 3) ∧ 46 + 3 = 49 := ⟨by decide +kernel, rfl⟩
theorem d_A_regenerate_49 : decode b_A_regenerate 49 = .ok (.imul, 1) ∧ 49 + 1 = 50 := ⟨by decide +kernel, rfl⟩
theorem d_A_regenerate_50 : decode b_A_regenerate 50 = .ok (.if_icmp .ge 5, 3) ∧ 50 + 3 = 53 ∧ ((50 : Nat) : Int) + 5 = ((55 : Nat) : Int) := ⟨by decide +kernel, rfl, by decide⟩
theorem d_A_regenerate_53 : decode b_A_regenerate 53 = .ok (.iconst 0, 1) ∧ 53 + 1 = 54 := ⟨by decide +kernel, rfl⟩
theorem d_A_regenerate_54 : decode b_A_regenerate 54 = .ok (.ireturn, 1) := by decide +kernel
theorem d_A_regenerate_55 : decode b_A_regenerate 55 = .ok (.aload_n 2, 1) ∧ 55 + 1 = 56 := ⟨by decide +kernel, rfl⟩
theorem d_A_regenerate_56 : decode b_A_regenerate 56 = .ok (.aload_n 0, 1) ∧ 56 + 1 = 57 := ⟨by decide +kernel, rfl⟩
theorem d_A_regenerate_57 : decode b_A_regenerate 57 = .ok (.getfield 48, 3) ∧ 57 + 3 = 60 := ⟨by decide +kernel, rfl⟩
theorem d_A_regenerate_60 : decode b_A_regenerate 60 = .ok (.aload_n 0, 1) ∧ 60 + 1 = 61 := ⟨by decide +kernel, rfl⟩
theorem d_A_regenerate_61 : decode b_A_regenerate 61 = .ok (.getfield 9, 3) ∧ 61 + 3 = 64 := ⟨by decide +kernel, rfl⟩
theorem d_A_regenerate_64 : decode b_A_regenerate 64 = .ok (.aload_n 0, 1) ∧ 64 + 1 = 65 := ⟨by decide +kernel, rfl⟩
theorem d_A_regenerate_65 : decode b_A_regenerate 65 = .ok (.getfield 13, 3) ∧ 65 + 3 = 68 := ⟨by decide +kernel, rfl⟩
theorem d_A_regenerate_68 : decode b_A_regenerate 68 = .ok (.invokevirtual 132, 3) ∧ 68 + 3 = 71 := ⟨by decide +kernel, rfl⟩
theorem d_A_regenerate_71 : decode b_A_regenerate 71 = .ok (.iconst 1, 1) ∧ 71 + 1 = 72 := ⟨by decide +kernel, rfl⟩
theorem d_A_regenerate_72 : decode b_A_regenerate 72 = .ok (.ireturn, 1) := by decide +kernel
theorem d_A_requireBin_0 : decode b_A_requireBin 0 = .ok (.iload_n 1, 1) ∧ 0 + 1 = 1 := ⟨by decide +kernel, rfl⟩
theorem d_A_requireBin_1 : decode b_A_requireBin 1 = .ok (.invokestatic 95, 3) ∧ 1 + 3 = 4 := ⟨by decide +kernel, rfl⟩
theorem d_A_requireBin_4 : decode b_A_requireBin 4 = .ok (.aload_n 0, 1) ∧ 4 + 1 = 5 := ⟨by decide +kernel, rfl⟩
theorem d_A_requireBin_5 : decode b_A_requireBin 5 = .ok (.getfield 22, 3) ∧ 5 + 3 = 8 := ⟨by decide +kernel, rfl⟩
theorem d_A_requireBin_8 : decode b_A_requireBin 8 = .ok (.iload_n 1, 1) ∧ 8 + 1 = 9 := ⟨by decide +kernel, rfl⟩
theorem d_A_requireBin_9 : decode b_A_requireBin 9 = .ok (.aaload, 1) ∧ 9 + 1 = 10 := ⟨by decide +kernel, rfl⟩
theorem d_A_requireBin_10 : decode b_A_requireBin 10 = .ok (.getfield 129, 3) ∧ 10 + 3 = 13 := ⟨by decide +kernel, rfl⟩
theorem d_A_requireBin_13 : decode b_A_requireBin 13 = .ok (.invokestatic 86, 3) ∧ 13 + 3 = 16 := ⟨by decide +kernel, rfl⟩
theorem d_A_requireBin_16 : decode b_A_requireBin 16 = .ok (.iload_n 2, 1) ∧ 16 + 1 = 17 := ⟨by decide +kernel, rfl⟩
theorem d_A_requireBin_17 : decode b_A_requireBin 17 = .ok (.ifCond .lt 16, 3) ∧ 17 + 3 = 20 ∧ ((17 : Nat) : Int) + 16 = ((33 : Nat) : Int) := ⟨by decide +kernel, rfl, by decide⟩
theorem d_A_requireBin_20 : decode b_A_requireBin 20 = .ok (.iload_n 2, 1) ∧ 20 + 1 = 21 := ⟨by decide +kernel, rfl⟩
theorem d_A_requireBin_21 : decode b_A_requireBin 21 = .ok (.aload_n 0, 1) ∧ 21 + 1 = 22 := ⟨by decide +kernel, rfl⟩
theorem d_A_requireBin_22 : decode b_A_requireBin 22 = .ok (.getfield 22, 3) ∧ 22 + 3 = 25 := ⟨by decide +kernel, rfl⟩
theorem d_A_requireBin_25 : decode b_A_requireBin 25 = .ok (.iload_n 1, 1) ∧ 25 + 1 = 26 := ⟨by decide +kernel, rfl⟩
theorem d_A_requireBin_26 : decode b_A_requireBin 26 = .ok (.aaload, 1) ∧ 26 + 1 = 27 := ⟨by decide +kernel, rfl⟩
theorem d_A_requireBin_27 : decode b_A_requireBin 27 = .ok (.getfield 126, 3) ∧ 27 + 3 = 30 := ⟨by decide +kernel, rfl⟩
theorem d_A_requireBin_30 : decode b_A_requireBin 30 = .ok (.if_icmp .lt 13, 3) ∧ 30 + 3 = 33 ∧ ((30 : Nat) : Int) + 13 = ((43 : Nat) : Int) := ⟨by decide +kernel, rfl, by decide⟩
theorem d_A_requireBin_33 : decode b_A_requireBin 33 = .ok (.new 90, 3) ∧ 33 + 3 = 36 := ⟨by decide +kernel, rfl⟩
theorem d_A_requireBin_36 : decode b_A_requireBin 36 = .ok (.dup, 1) ∧ 36 + 1 = 37 := ⟨by decide +kernel, rfl⟩
theorem d_A_requireBin_37 : decode b_A_requireBin 37 = .ok (.ldc 199, 2) ∧ 37 + 2 = 39 := ⟨by decide +kernel, rfl⟩
theorem d_A_requireBin_39 : decode b_A_requireBin 39 = .ok (.invokespecial 94, 3) ∧ 39 + 3 = 42 := ⟨by decide +kernel, rfl⟩
theorem d_A_requireBin_42 : decode b_A_requireBin 42 = .ok (.athrow, 1) := by decide +kernel
theorem d_A_requireBin_43 : decode b_A_requireBin 43 = .ok (.return_, 1) := by decide +kernel
theorem d_A_requireMask_0 : decode b_A_requireMask 0 = .ok (.iload_n 0, 1) ∧ 0 + 1 = 1 := ⟨by decide +kernel, rfl⟩
theorem d_A_requireMask_1 : decode b_A_requireMask 1 = .ok (.ifCond .lt 10, 3) ∧ 1 + 3 = 4 ∧ ((1 : Nat) : Int) + 10 = ((11 : Nat) : Int) := ⟨by decide +kernel, rfl, by decide⟩
theorem d_A_requireMask_4 : decode b_A_requireMask 4 = .ok (.iload_n 0, 1) ∧ 4 + 1 = 5 := ⟨by decide +kernel, rfl⟩
theorem d_A_requireMask_5 : decode b_A_requireMask 5 = .ok (.sipush 255, 3) ∧ 5 + 3 = 8 := ⟨by decide +kernel, rfl⟩
theorem d_A_requireMask_8 : decode b_A_requireMask 8 = .ok (.if_icmp .le 13, 3) ∧ 8 + 3 = 11 ∧ ((8 : Nat) : Int) + 13 = ((21 : Nat) : Int) := ⟨by decide +kernel, rfl, by decide⟩
theorem d_A_requireMask_11 : decode b_A_requireMask 11 = .ok (.new 62, 3) ∧ 11 + 3 = 14 := ⟨by decide +kernel, rfl⟩
theorem d_A_requireMask_14 : decode b_A_requireMask 14 = .ok (.dup, 1) ∧ 14 + 1 = 15 := ⟨by decide +kernel, rfl⟩
theorem d_A_requireMask_15 : decode b_A_requireMask 15 = .ok (.ldc 201, 2) ∧ 15 + 2 = 17 := ⟨by decide +kernel, rfl⟩
theorem d_A_requireMask_17 : decode b_A_requireMask 17 = .ok (.invokespecial 66, 3) ∧ 17 + 3 = 20 := ⟨by decide +kernel, rfl⟩
theorem d_A_requireMask_20 : decode b_A_requireMask 20 = .ok (.athrow, 1) := by decide +kernel
theorem d_A_requireMask_21 : decode b_A_requireMask 21 = .ok (.return_, 1) := by decide +kernel
theorem d_A_requirePixel_0 : decode b_A_requirePixel 0 = .ok (.iload_n 1, 1) ∧ 0 + 1 = 1 := ⟨by decide +kernel, rfl⟩
theorem d_A_requirePixel_1 : decode b_A_requirePixel 1 = .ok (.ifCond .lt 23, 3) ∧ 1 + 3 = 4 ∧ ((1 : Nat) : Int) + 23 = ((24 : Nat) : Int) := ⟨by decide +kernel, rfl, by decide⟩
theorem d_A_requirePixel_4 : decode b_A_requirePixel 4 = .ok (.iload_n 1, 1) ∧ 4 + 1 = 5 := ⟨by decide +kernel, rfl⟩
theorem d_A_requirePixel_5 : decode b_A_requirePixel 5 = .ok (.aload_n 0, 1) ∧ 5 + 1 = 6 := ⟨by decide +kernel, rfl⟩
theorem d_A_requirePixel_6 : decode b_A_requirePixel 6 = .ok (.getfield 9, 3) ∧ 6 + 3 = 9 := ⟨by decide +kernel, rfl⟩
theorem d_A_requirePixel_9 : decode b_A_requirePixel 9 = .ok (.if_icmp .ge 15, 3) ∧ 9 + 3 = 12 ∧ ((9 : Nat) : Int) + 15 = ((24 : Nat) : Int) := ⟨by decide +kernel, rfl, by decide⟩
theorem d_A_requirePixel_12 : decode b_A_requirePixel 12 = .ok (.iload_n 2, 1) ∧ 12 + 1 = 13 := ⟨by decide +kernel, rfl⟩
theorem d_A_requirePixel_13 : decode b_A_requirePixel 13 = .ok (.ifCond .lt 11, 3) ∧ 13 + 3 = 16 ∧ ((13 : Nat) : Int) + 11 = ((24 : Nat) : Int) := ⟨by decide +kernel, rfl, by decide⟩
theorem d_A_requirePixel_16 : decode b_A_requirePixel 16 = .ok (.iload_n 2, 1) ∧ 16 + 1 = 17 := ⟨by decide +kernel, rfl⟩
theorem d_A_requirePixel_17 : decode b_A_requirePixel 17 = .ok (.aload_n 0, 1) ∧ 17 + 1 = 18 := ⟨by decide +kernel, rfl⟩
theorem d_A_requirePixel_18 : decode b_A_requirePixel 18 = .ok (.getfield 13, 3) ∧ 18 + 3 = 21 := ⟨by decide +kernel, rfl⟩
theorem d_A_requirePixel_21 : decode b_A_requirePixel 21 = .ok (.if_icmp .lt 13, 3) ∧ 21 + 3 = 24 ∧ ((21 : Nat) : Int) + 13 = ((34 : Nat) : Int) := ⟨by decide +kernel, rfl, by decide⟩
theorem d_A_requirePixel_24 : decode b_A_requirePixel 24 = .ok (.new 90, 3) ∧ 24 + 3 = 27 := ⟨by decide +kernel, rfl⟩
theorem d_A_requirePixel_27 : decode b_A_requirePixel 27 = .ok (.dup, 1) ∧ 27 + 1 = 28 := ⟨by decide +kernel, rfl⟩
theorem d_A_requirePixel_28 : decode b_A_requirePixel 28 = .ok (.ldc 195, 2) ∧ 28 + 2 = 30 := ⟨by decide +kernel, rfl⟩
theorem d_A_requirePixel_30 : decode b_A_requirePixel 30 = .ok (.invokespecial 94, 3) ∧ 30 + 3 = 33 := ⟨by decide +kernel, rfl⟩
theorem d_A_requirePixel_33 : decode b_A_requirePixel 33 = .ok (.athrow, 1) := by decide +kernel
theorem d_A_requirePixel_34 : decode b_A_requirePixel 34 = .ok (.return_, 1) := by decide +kernel
theorem d_A_requireShelf_0 : decode b_A_requireShelf 0 = .ok (.iload_n 0, 1) ∧ 0 + 1 = 1 := ⟨by decide +kernel, rfl⟩
theorem d_A_requireShelf_1 : decode b_A_requireShelf 1 = .ok (.ifCond .lt 9, 3) ∧ 1 + 3 = 4 ∧ ((1 : Nat) : Int) + 9 = ((10 : Nat) : Int) := ⟨by decide +kernel, rfl, by decide⟩
theorem d_A_requireShelf_4 : decode b_A_requireShelf 4 = .ok (.iload_n 0, 1) ∧ 4 + 1 = 5 := ⟨by decide +kernel, rfl⟩
theorem d_A_requireShelf_5 : decode b_A_requireShelf 5 = .ok (.bipush 8, 2) ∧ 5 + 2 = 7 := ⟨by decide +kernel, rfl⟩
theorem d_A_requireShelf_7 : decode b_A_requireShelf 7 = .ok (.if_icmp .lt 13, 3) ∧ 7 + 3 = 10 ∧ ((7 : Nat) : Int) + 13 = ((20 : Nat) : Int) := ⟨by decide +kernel, rfl, by decide⟩
theorem d_A_requireShelf_10 : decode b_A_requireShelf 10 = .ok (.new 90, 3) ∧ 10 + 3 = 13 := ⟨by decide +kernel, rfl⟩
theorem d_A_requireShelf_13 : decode b_A_requireShelf 13 = .ok (.dup, 1) ∧ 13 + 1 = 14 := ⟨by decide +kernel, rfl⟩
theorem d_A_requireShelf_14 : decode b_A_requireShelf 14 = .ok (.ldc 197, 2) ∧ 14 + 2 = 16 := ⟨by decide +kernel, rfl⟩
theorem d_A_requireShelf_16 : decode b_A_requireShelf 16 = .ok (.invokespecial 94, 3) ∧ 16 + 3 = 19 := ⟨by decide +kernel, rfl⟩
theorem d_A_requireShelf_19 : decode b_A_requireShelf 19 = .ok (.athrow, 1) := by decide +kernel
theorem d_A_requireShelf_20 : decode b_A_requireShelf 20 = .ok (.return_, 1) := by decide +kernel
theorem d_A_requireState_0 : decode b_A_requireState 0 = .ok (.iload_n 0, 1) ∧ 0 + 1 = 1 := ⟨by decide +kernel, rfl⟩
theorem d_A_requireState_1 : decode b_A_requireState 1 = .ok (.ifCond .ne 13, 3) ∧ 1 + 3 = 4 ∧ ((1 : Nat) : Int) + 13 = ((14 : Nat) : Int) := ⟨by decide +kernel, rfl, by decide⟩
theorem d_A_requireState_4 : decode b_A_requireState 4 = .ok (.new 203, 3) ∧ 4 + 3 = 7 := ⟨by decide +kernel, rfl⟩
theorem d_A_requireState_7 : decode b_A_requireState 7 = .ok (.dup, 1) ∧ 7 + 1 = 8 := ⟨by decide +kernel, rfl⟩
theorem d_A_requireState_8 : decode b_A_requireState 8 = .ok (.ldc 205, 2) ∧ 8 + 2 = 10 := ⟨by decide +kernel, rfl⟩
theorem d_A_requireState_10 : decode b_A_requireState 10 = .ok (.invokespecial 207, 3) ∧ 10 + 3 = 13 := ⟨by decide +kernel, rfl⟩
theorem d_A_requireState_13 : decode b_A_requireState 13 = .ok (.athrow, 1) := by decide +kernel
theorem d_A_requireState_14 : decode b_A_requireState 14 = .ok (.return_, 1) := by decide +kernel
theorem d_A_shelf_0 : decode b_A_shelf 0 = .ok (.iload_n 1, 1) ∧ 0 + 1 = 1 := ⟨by decide +kernel, rfl⟩
theorem d_A_shelf_1 : decode b_A_shelf 1 = .ok (.invokestatic 95, 3) ∧ 1 + 3 = 4 := ⟨by decide +kernel, rfl⟩
theorem d_A_shelf_4 : decode b_A_shelf 4 = .ok (.iload_n 2, 1) ∧ 4 + 1 = 5 := ⟨by decide +kernel, rfl⟩
theorem d_A_shelf_5 : decode b_A_shelf 5 = .ok (.ifCond .lt 8, 3) ∧ 5 + 3 = 8 ∧ ((5 : Nat) : Int) + 8 = ((13 : Nat) : Int) := ⟨by decide +kernel, rfl, by decide⟩
theorem d_A_shelf_8 : decode b_A_shelf 8 = .ok (.iload_n 2, 1) ∧ 8 + 1 = 9 := ⟨by decide +kernel, rfl⟩
theorem d_A_shelf_9 : decode b_A_shelf 9 = .ok (.iconst 3, 1) ∧ 9 + 1 = 10 := ⟨by decide +kernel, rfl⟩
theorem d_A_shelf_10 : decode b_A_shelf 10 = .ok (.if_icmp .le 13, 3) ∧ 10 + 3 = 13 ∧ ((10 : Nat) : Int) + 13 = ((23 : Nat) : Int) := ⟨by decide +kernel, rfl, by decide⟩
theorem d_A_shelf_13 : decode b_A_shelf 13 = .ok (.new 90, 3) ∧ 13 + 3 = 16 := ⟨by decide +kernel, rfl⟩
theorem d_A_shelf_16 : decode b_A_shelf 16 = .ok (.dup, 1) ∧ 16 + 1 = 17 := ⟨by decide +kernel, rfl⟩
theorem d_A_shelf_17 : decode b_A_shelf 17 = .ok (.ldc 115, 2) ∧ 17 + 2 = 19 := ⟨by decide +kernel, rfl⟩
theorem d_A_shelf_19 : decode b_A_shelf 19 = .ok (.invokespecial 94, 3) ∧ 19 + 3 = 22 := ⟨by decide +kernel, rfl⟩
theorem d_A_shelf_22 : decode b_A_shelf 22 = .ok (.athrow, 1) := by decide +kernel
theorem d_A_shelf_23 : decode b_A_shelf 23 = .ok (.aload_n 0, 1) ∧ 23 + 1 = 24 := ⟨by decide +kernel, rfl⟩
theorem d_A_shelf_24 : decode b_A_shelf 24 = .ok (.getfield 22, 3) ∧ 24 + 3 = 27 := ⟨by decide +kernel, rfl⟩
theorem d_A_shelf_27 : decode b_A_shelf 27 = .ok (.iload_n 1, 1) ∧ 27 + 1 = 28 := ⟨by decide +kernel, rfl⟩
theorem d_A_shelf_28 : decode b_A_shelf 28 = .ok (.aaload, 1) ∧ 28 + 1 = 29 := ⟨by decide +kernel, rfl⟩
theorem d_A_shelf_29 : decode b_A_shelf 29 = .ok (.astore_n 3, 1) ∧ 29 + 1 = 30 := ⟨by decide +kernel, rfl⟩
theorem d_A_shelf_30 : decode b_A_shelf 30 = .ok (.aload_n 3, 1) ∧ 30 + 1 = 31 := ⟨by decide +kernel, rfl⟩
theorem d_A_shelf_31 : decode b_A_shelf 31 = .ok (.getfield 117, 3) ∧ 31 + 3 = 34 := ⟨by decide +kernel, rfl⟩
theorem d_A_shelf_34 : decode b_A_shelf 34 = .ok (.invokestatic 86, 3) ∧ 34 + 3 = 37 := ⟨by decide +kernel, rfl⟩
theorem d_A_shelf_37 : decode b_A_shelf 37 = .ok (.iload_n 2, 1) ∧ 37 + 1 = 38 := ⟨by decide +kernel, rfl⟩
theorem d_A_shelf_38 : decode b_A_shelf 38 = .ok (.tableswitch 41 0 2 #[26, 31, 36], 26) := by decide +kernel
theorem d_A_shelf_64 : decode b_A_shelf 64 = .ok (.aload_n 3, 1) ∧ 64 + 1 = 65 := ⟨by decide +kernel, rfl⟩
theorem d_A_shelf_65 : decode b_A_shelf 65 = .ok (.getfield 120, 3) ∧ 65 + 3 = 68 := ⟨by decide +kernel, rfl⟩
theorem d_A_shelf_68 : decode b_A_shelf 68 = .ok (.ireturn, 1) := by decide +kernel
theorem d_A_shelf_69 : decode b_A_shelf 69 = .ok (.aload_n 3, 1) ∧ 69 + 1 = 70 := ⟨by decide +kernel, rfl⟩
theorem d_A_shelf_70 : decode b_A_shelf 70 = .ok (.getfield 123, 3) ∧ 70 + 3 = 73 := ⟨by decide +kernel, rfl⟩
theorem d_A_shelf_73 : decode b_A_shelf 73 = .ok (.ireturn, 1) := by decide +kernel
theorem d_A_shelf_74 : decode b_A_shelf 74 = .ok (.aload_n 3, 1) ∧ 74 + 1 = 75 := ⟨by decide +kernel, rfl⟩
theorem d_A_shelf_75 : decode b_A_shelf 75 = .ok (.getfield 126, 3) ∧ 75 + 3 = 78 := ⟨by decide +kernel, rfl⟩
theorem d_A_shelf_78 : decode b_A_shelf 78 = .ok (.ireturn, 1) := by decide +kernel
theorem d_A_shelf_79 : decode b_A_shelf 79 = .ok (.aload_n 3, 1) ∧ 79 + 1 = 80 := ⟨by decide +kernel, rfl⟩
theorem d_A_shelf_80 : decode b_A_shelf 80 = .ok (.getfield 129, 3) ∧ 80 + 3 = 83 := ⟨by decide +kernel, rfl⟩
theorem d_A_shelf_83 : decode b_A_shelf 83 = .ok (.ifCond .eq 7, 3) ∧ 83 + 3 = 86 ∧ ((83 : Nat) : Int) + 7 = ((90 : Nat) : Int) := ⟨by decide +kernel, rfl, by decide⟩
theorem d_A_shelf_86 : decode b_A_shelf 86 = .ok (.iconst 1, 1) ∧ 86 + 1 = 87 := ⟨by decide +kernel, rfl⟩
theorem d_A_shelf_87 : decode b_A_shelf 87 = .ok (.goto 4, 3) ∧ ((87 : Nat) : Int) + 4 = ((91 : Nat) : Int) := ⟨by decide +kernel, by decide⟩
theorem d_A_shelf_90 : decode b_A_shelf 90 = .ok (.iconst 0, 1) ∧ 90 + 1 = 91 := ⟨by decide +kernel, rfl⟩
theorem d_A_shelf_91 : decode b_A_shelf 91 = .ok (.ireturn, 1) := by decide +kernel
theorem d_A_size_0 : decode b_A_size 0 = .ok (.iload_n 1, 1) ∧ 0 + 1 = 1 := ⟨by decide +kernel, rfl⟩
theorem d_A_size_1 : decode b_A_size 1 = .ok (.iconst 1, 1) ∧ 1 + 1 = 2 := ⟨by decide +kernel, rfl⟩
theorem d_A_size_2 : decode b_A_size 2 = .ok (.if_icmp .lt 20, 3) ∧ 2 + 3 = 5 ∧ ((2 : Nat) : Int) + 20 = ((22 : Nat) : Int) := ⟨by decide +kernel, rfl, by decide⟩
theorem d_A_size_5 : decode b_A_size 5 = .ok (.iload_n 1, 1) ∧ 5 + 1 = 6 := ⟨by decide +kernel, rfl⟩
theorem d_A_size_6 : decode b_A_size 6 = .ok (.bipush 16, 2) ∧ 6 + 2 = 8 := ⟨by decide +kernel, rfl⟩
theorem d_A_size_8 : decode b_A_size 8 = .ok (.if_icmp .gt 14, 3) ∧ 8 + 3 = 11 ∧ ((8 : Nat) : Int) + 14 = ((22 : Nat) : Int) := ⟨by decide +kernel, rfl, by decide⟩
theorem d_A_size_11 : decode b_A_size 11 = .ok (.iload_n 2, 1) ∧ 11 + 1 = 12 := ⟨by decide +kernel, rfl⟩
theorem d_A_size_12 : decode b_A_size 12 = .ok (.iconst 1, 1) ∧ 12 + 1 = 13 := ⟨by decide +kernel, rfl⟩
theorem d_A_size_13 : decode b_A_size 13 = .ok (.if_icmp .lt 9, 3) ∧ 13 + 3 = 16 ∧ ((13 : Nat) : Int) + 9 = ((22 : Nat) : Int) := ⟨by decide +kernel, rfl, by decide⟩
theorem d_A_size_16 : decode b_A_size 16 = .ok (.iload_n 2, 1) ∧ 16 + 1 = 17 := ⟨by decide +kernel, rfl⟩
theorem d_A_size_17 : decode b_A_size 17 = .ok (.bipush 16, 2) ∧ 17 + 2 = 19 := ⟨by decide +kernel, rfl⟩
theorem d_A_size_19 : decode b_A_size 19 = .ok (.if_icmp .le 13, 3) ∧ 19 + 3 = 22 ∧ ((19 : Nat) : Int) + 13 = ((32 : Nat) : Int) := ⟨by decide +kernel, rfl, by decide⟩
theorem d_A_size_22 : decode b_A_size 22 = .ok (.new 62, 3) ∧ 22 + 3 = 25 := ⟨by decide +kernel, rfl⟩
theorem d_A_size_25 : decode b_A_size 25 = .ok (.dup, 1) ∧ 25 + 1 = 26 := ⟨by decide +kernel, rfl⟩
theorem d_A_size_26 : decode b_A_size 26 = .ok (.ldc 64, 2) ∧ 26 + 2 = 28 := ⟨by decide +kernel, rfl⟩
theorem d_A_size_28 : decode b_A_size 28 = .ok (.invokespecial 66, 3) ∧ 28 + 3 = 31 := ⟨by decide +kernel, rfl⟩
theorem d_A_size_31 : decode b_A_size 31 = .ok (.athrow, 1) := by decide +kernel
theorem d_A_size_32 : decode b_A_size 32 = .ok (.aload_n 0, 1) ∧ 32 + 1 = 33 := ⟨by decide +kernel, rfl⟩
theorem d_A_size_33 : decode b_A_size 33 = .ok (.iload_n 1, 1) ∧ 33 + 1 = 34 := ⟨by decide +kernel, rfl⟩
theorem d_A_size_34 : decode b_A_size 34 = .ok (.putfield 9, 3) ∧ 34 + 3 = 37 := ⟨by decide +kernel, rfl⟩
theorem d_A_size_37 : decode b_A_size 37 = .ok (.aload_n 0, 1) ∧ 37 + 1 = 38 := ⟨by decide +kernel, rfl⟩
theorem d_A_size_38 : decode b_A_size 38 = .ok (.iload_n 2, 1) ∧ 38 + 1 = 39 := ⟨by decide +kernel, rfl⟩
theorem d_A_size_39 : decode b_A_size 39 = .ok (.putfield 13, 3) ∧ 39 + 3 = 42 := ⟨by decide +kernel, rfl⟩
theorem d_A_size_42 : decode b_A_size 42 = .ok (.aload_n 0, 1) ∧ 42 + 1 = 43 := ⟨by decide +kernel, rfl⟩
theorem d_A_size_43 : decode b_A_size 43 = .ok (.getfield 16, 3) ∧ 43 + 3 = 46 := ⟨by decide +kernel, rfl⟩
theorem d_A_size_46 : decode b_A_size 46 = .ok (.iconst 0, 1) ∧ 46 + 1 = 47 := ⟨by decide +kernel, rfl⟩
theorem d_A_size_47 : decode b_A_size 47 = .ok (.invokestatic 69, 3) ∧ 47 + 3 = 50 := ⟨by decide +kernel, rfl⟩
theorem d_A_size_50 : decode b_A_size 50 = .ok (.iconst 0, 1) ∧ 50 + 1 = 51 := ⟨by decide +kernel, rfl⟩
theorem d_A_size_51 : decode b_A_size 51 = .ok (.istore_n 3, 1) ∧ 51 + 1 = 52 := ⟨by decide +kernel, rfl⟩
theorem d_A_size_52 : decode b_A_size 52 = .ok (.iload_n 3, 1) ∧ 52 + 1 = 53 := ⟨by decide +kernel, rfl⟩
theorem d_A_size_53 : decode b_A_size 53 = .ok (.bipush 8, 2) ∧ 53 + 2 = 55 := ⟨by decide +kernel, rfl⟩
theorem d_A_size_55 : decode b_A_size 55 = .ok (.if_icmp .ge 18, 3) ∧ 55 + 3 = 58 ∧ ((55 : Nat) : Int) + 18 = ((73 : Nat) : Int) := ⟨by decide +kernel, rfl, by decide⟩
theorem d_A_size_58 : decode b_A_size 58 = .ok (.aload_n 0, 1) ∧ 58 + 1 = 59 := ⟨by decide +kernel, rfl⟩
theorem d_A_size_59 : decode b_A_size 59 = .ok (.getfield 22, 3) ∧ 59 + 3 = 62 := ⟨by decide +kernel, rfl⟩
theorem d_A_size_62 : decode b_A_size 62 = .ok (.iload_n 3, 1) ∧ 62 + 1 = 63 := ⟨by decide +kernel, rfl⟩
theorem d_A_size_63 : decode b_A_size 63 = .ok (.aaload, 1) ∧ 63 + 1 = 64 := ⟨by decide +kernel, rfl⟩
theorem d_A_size_64 : decode b_A_size 64 = .ok (.invokevirtual 75, 3) ∧ 64 + 3 = 67 := ⟨by decide +kernel, rfl⟩
theorem d_A_size_67 : decode b_A_size 67 = .ok (.iinc 3 1, 3) ∧ 67 + 3 = 70 := ⟨by decide +kernel, rfl⟩
theorem d_A_size_70 : decode b_A_size 70 = .ok (.goto (-18), 3) ∧ ((70 : Nat) : Int) + (-18) = ((52 : Nat) : Int) := ⟨by decide +kernel, by decide⟩
theorem d_A_size_73 : decode b_A_size 73 = .ok (.aload_n 0, 1) ∧ 73 + 1 = 74 := ⟨by decide +kernel, rfl⟩
theorem d_A_size_74 : decode b_A_size 74 = .ok (.iconst 0, 1) ∧ 74 + 1 = 75 := ⟨by decide +kernel, rfl⟩
theorem d_A_size_75 : decode b_A_size 75 = .ok (.putfield 26, 3) ∧ 75 + 3 = 78 := ⟨by decide +kernel, rfl⟩
theorem d_A_size_78 : decode b_A_size 78 = .ok (.aload_n 0, 1) ∧ 78 + 1 = 79 := ⟨by decide +kernel, rfl⟩
theorem d_A_size_79 : decode b_A_size 79 = .ok (.iconst 0, 1) ∧ 79 + 1 = 80 := ⟨by decide +kernel, rfl⟩
theorem d_A_size_80 : decode b_A_size 80 = .ok (.putfield 36, 3) ∧ 80 + 3 = 83 := ⟨by decide +kernel, rfl⟩
theorem d_A_size_83 : decode b_A_size 83 = .ok (.return_, 1) := by decide +kernel
theorem d_A_solve_0 : decode b_A_solve 0 = .ok (.iconst 0, 1) ∧ 0 + 1 = 1 := ⟨by decide +kernel, rfl⟩
theorem d_A_solve_1 : decode b_A_solve 1 = .ok (.istore_n 2, 1) ∧ 1 + 1 = 2 := ⟨by decide +kernel, rfl⟩
theorem d_A_solve_2 : decode b_A_solve 2 = .ok (.iload_n 2, 1) ∧ 2 + 1 = 3 := ⟨by decide +kernel, rfl⟩
theorem d_A_solve_3 : decode b_A_solve 3 = .ok (.bipush 8, 2) ∧ 3 + 2 = 5 := ⟨by decide +kernel, rfl⟩
theorem d_A_solve_5 : decode b_A_solve 5 = .ok (.if_icmp .ge 40, 3) ∧ 5 + 3 = 8 ∧ ((5 : Nat) : Int) + 40 = ((45 : Nat) : Int) := ⟨by decide +kernel, rfl, by decide⟩
theorem d_A_solve_8 : decode b_A_solve 8 = .ok (.iload_n 1, 1) ∧ 8 + 1 = 9 := ⟨by decide +kernel, rfl⟩
theorem d_A_solve_9 : decode b_A_solve 9 = .ok (.iload_n 2, 1) ∧ 9 + 1 = 10 := ⟨by decide +kernel, rfl⟩
theorem d_A_solve_10 : decode b_A_solve 10 = .ok (.invokestatic 177, 3) ∧ 10 + 3 = 13 := ⟨by decide +kernel, rfl⟩
theorem d_A_solve_13 : decode b_A_solve 13 = .ok (.ifCond .eq 26, 3) ∧ 13 + 3 = 16 ∧ ((13 : Nat) : Int) + 26 = ((39 : Nat) : Int) := ⟨by decide +kernel, rfl, by decide⟩
theorem d_A_solve_16 : decode b_A_solve 16 = .ok (.aload_n 0, 1) ∧ 16 + 1 = 17 := ⟨by decide +kernel, rfl⟩
theorem d_A_solve_17 : decode b_A_solve 17 = .ok (.getfield 53, 3) ∧ 17 + 3 = 20 := ⟨by decide +kernel, rfl⟩
theorem d_A_solve_20 : decode b_A_solve 20 = .ok (.iload_n 2, 1) ∧ 20 + 1 = 21 := ⟨by decide +kernel, rfl⟩
theorem d_A_solve_21 : decode b_A_solve 21 = .ok (.aaload, 1) ∧ 21 + 1 = 22 := ⟨by decide +kernel, rfl⟩
theorem d_A_solve_22 : decode b_A_solve 22 = .ok (.aload_n 0, 1) ∧ 22 + 1 = 23 := ⟨by decide +kernel, rfl⟩
theorem d_A_solve_23 : decode b_A_solve 23 = .ok (.getfield 22, 3) ∧ 23 + 3 = 26 := ⟨by decide +kernel, rfl⟩
theorem d_A_solve_26 : decode b_A_solve 26 = .ok (.iload_n 2, 1) ∧ 26 + 1 = 27 := ⟨by decide +kernel, rfl⟩
theorem d_A_solve_27 : decode b_A_solve 27 = .ok (.aaload, 1) ∧ 27 + 1 = 28 := ⟨by decide +kernel, rfl⟩
theorem d_A_solve_28 : decode b_A_solve 28 = .ok (.aload_n 0, 1) ∧ 28 + 1 = 29 := ⟨by decide +kernel, rfl⟩
theorem d_A_solve_29 : decode b_A_solve 29 = .ok (.getfield 9, 3) ∧ 29 + 3 = 32 := ⟨by decide +kernel, rfl⟩
theorem d_A_solve_32 : decode b_A_solve 32 = .ok (.aload_n 0, 1) ∧ 32 + 1 = 33 := ⟨by decide +kernel, rfl⟩
theorem d_A_solve_33 : decode b_A_solve 33 = .ok (.getfield 13, 3) ∧ 33 + 3 = 36 := ⟨by decide +kernel, rfl⟩
theorem d_A_solve_36 : decode b_A_solve 36 = .ok (.invokevirtual 216, 3) ∧ 36 + 3 = 39 := ⟨by decide +kernel, rfl⟩
theorem d_A_solve_39 : decode b_A_solve 39 = .ok (.iinc 2 1, 3) ∧ 39 + 3 = 42 := ⟨by decide +kernel, rfl⟩
theorem d_A_solve_42 : decode b_A_solve 42 = .ok (.goto (-40), 3) ∧ ((42 : Nat) : Int) + (-40) = ((2 : Nat) : Int) := ⟨by decide +kernel, by decide⟩
theorem d_A_solve_45 : decode b_A_solve 45 = .ok (.aload_n 0, 1) ∧ 45 + 1 = 46 := ⟨by decide +kernel, rfl⟩
theorem d_A_solve_46 : decode b_A_solve 46 = .ok (.getfield 9, 3) ∧ 46 + 3 = 49 := ⟨by decide +kernel, rfl⟩
theorem d_A_solve_49 : decode b_A_solve 49 = .ok (.aload_n 0, 1) ∧ 49 + 1 = 50 := ⟨by decide +kernel, rfl⟩
theorem d_A_solve_50 : decode b_A_solve 50 = .ok (.getfield 13, 3) ∧ 50 + 3 = 53 := ⟨by decide +kernel, rfl⟩
theorem d_A_solve_53 : decode b_A_solve 53 = .ok (.imul, 1) ∧ 53 + 1 = 54 := ⟨by decide +kernel, rfl⟩
theorem d_A_solve_54 : decode b_A_solve 54 = .ok (.istore_n 2, 1) ∧ 54 + 1 = 55 := ⟨by decide +kernel, rfl⟩
theorem d_A_solve_55 : decode b_A_solve 55 = .ok (.iconst 0, 1) ∧ 55 + 1 = 56 := ⟨by decide +kernel, rfl⟩
theorem d_A_solve_56 : decode b_A_solve 56 = .ok (.istore_n 3, 1) ∧ 56 + 1 = 57 := ⟨by decide +kernel, rfl⟩
theorem d_A_solve_57 : decode b_A_solve 57 = .ok (.iload_n 3, 1) ∧ 57 + 1 = 58 := ⟨by decide +kernel, rfl⟩
theorem d_A_solve_58 : decode b_A_solve 58 = .ok (.iload_n 2, 1) ∧ 58 + 1 = 59 := ⟨by decide +kernel, rfl⟩
theorem d_A_solve_59 : decode b_A_solve 59 = .ok (.if_icmp .ge 49, 3) ∧ 59 + 3 = 62 ∧ ((59 : Nat) : Int) + 49 = ((108 : Nat) : Int) := ⟨by decide +kernel, rfl, by decide⟩
theorem d_A_solve_62 : decode b_A_solve 62 = .ok (.aload_n 0, 1) ∧ 62 + 1 = 63 := ⟨by decide +kernel, rfl⟩
theorem d_A_solve_63 : decode b_A_solve 63 = .ok (.iload_n 1, 1) ∧ 63 + 1 = 64 := ⟨by decide +kernel, rfl⟩
theorem d_A_solve_64 : decode b_A_solve 64 = .ok (.invokevirtual 220, 3) ∧ 64 + 3 = 67 := ⟨by decide +kernel, rfl⟩
theorem d_A_solve_67 : decode b_A_solve 67 = .ok (.istore 4, 2) ∧ 67 + 2 = 69 := ⟨by decide +kernel, rfl⟩
theorem d_A_solve_69 : decode b_A_solve 69 = .ok (.iload 4, 2) ∧ 69 + 2 = 71 := ⟨by decide +kernel, rfl⟩
theorem d_A_solve_71 : decode b_A_solve 71 = .ok (.iconst (-1), 1) ∧ 71 + 1 = 72 := ⟨by decide +kernel, rfl⟩
theorem d_A_solve_72 : decode b_A_solve 72 = .ok (.if_icmp .ne 5, 3) ∧ 72 + 3 = 75 ∧ ((72 : Nat) : Int) + 5 = ((77 : Nat) : Int) := ⟨by decide +kernel, rfl, by decide⟩
theorem d_A_solve_75 : decode b_A_solve 75 = .ok (.iload_n 3, 1) ∧ 75 + 1 = 76 := ⟨by decide +kernel, rfl⟩
theorem d_A_solve_76 : decode b_A_solve 76 = .ok (.ireturn, 1) := by decide +kernel
theorem d_A_solve_77 : decode b_A_solve 77 = .ok (.aload_n 0, 1) ∧ 77 + 1 = 78 := ⟨by decide +kernel, rfl⟩
theorem d_A_solve_78 : decode b_A_solve 78 = .ok (.iload_n 1, 1) ∧ 78 + 1 = 79 := ⟨by decide +kernel, rfl⟩
theorem d_A_solve_79 : decode b_A_solve 79 = .ok (.aload_n 0, 1) ∧ 79 + 1 = 80 := ⟨by decide +kernel, rfl⟩
theorem d_A_solve_80 : decode b_A_solve 80 = .ok (.getfield 53, 3) ∧ 80 + 3 = 83 := ⟨by decide +kernel, rfl⟩
theorem d_A_solve_83 : decode b_A_solve 83 = .ok (.iload 4, 2) ∧ 83 + 2 = 85 := ⟨by decide +kernel, rfl⟩
theorem d_A_solve_85 : decode b_A_solve 85 = .ok (.aaload, 1) ∧ 85 + 1 = 86 := ⟨by decide +kernel, rfl⟩
theorem d_A_solve_86 : decode b_A_solve 86 = .ok (.invokevirtual 223, 3) ∧ 86 + 3 = 89 := ⟨by decide +kernel, rfl⟩
theorem d_A_solve_89 : decode b_A_solve 89 = .ok (.aload_n 0, 1) ∧ 89 + 1 = 90 := ⟨by decide +kernel, rfl⟩
theorem d_A_solve_90 : decode b_A_solve 90 = .ok (.getfield 53, 3) ∧ 90 + 3 = 93 := ⟨by decide +kernel, rfl⟩
theorem d_A_solve_93 : decode b_A_solve 93 = .ok (.iload 4, 2) ∧ 93 + 2 = 95 := ⟨by decide +kernel, rfl⟩
theorem d_A_solve_95 : decode b_A_solve 95 = .ok (.aaload, 1) ∧ 95 + 1 = 96 := ⟨by decide +kernel, rfl⟩
theorem d_A_solve_96 : decode b_A_solve 96 = .ok (.invokevirtual 226, 3) ∧ 96 + 3 = 99 := ⟨by decide +kernel, rfl⟩
theorem d_A_solve_99 : decode b_A_solve 99 = .ok (.invokevirtual 229, 3) ∧ 99 + 3 = 102 := ⟨by decide +kernel, rfl⟩
theorem d_A_solve_102 : decode b_A_solve 102 = .ok (.iinc 3 1, 3) ∧ 102 + 3 = 105 := ⟨by decide +kernel, rfl⟩
theorem d_A_solve_105 : decode b_A_solve 105 = .ok (.goto (-48), 3) ∧ ((105 : Nat) : Int) + (-48) = ((57 : Nat) : Int) := ⟨by decide +kernel, by decide⟩
theorem d_A_solve_108 : decode b_A_solve 108 = .ok (.iload_n 2, 1) ∧ 108 + 1 = 109 := ⟨by decide +kernel, rfl⟩
theorem d_A_solve_109 : decode b_A_solve 109 = .ok (.ireturn, 1) := by decide +kernel
theorem d_A_takeGhostMoved_0 : decode b_A_takeGhostMoved 0 = .ok (.aload_n 0, 1) ∧ 0 + 1 = 1 := ⟨by decide +kernel, rfl⟩
theorem d_A_takeGhostMoved_1 : decode b_A_takeGhostMoved 1 = .ok (.getfield 13, 3) ∧ 1 + 3 = 4 := ⟨by decide +kernel, rfl⟩
theorem d_A_takeGhostMoved_4 : decode b_A_takeGhostMoved 4 = .ok (.iconst 1, 1) ∧ 4 + 1 = 5 := ⟨by decide +kernel, rfl⟩
theorem d_A_takeGhostMoved_5 : decode b_A_takeGhostMoved 5 = .ok (.isub, 1) ∧ 5 + 1 = 6 := ⟨by decide +kernel, rfl⟩
theorem d_A_takeGhostMoved_6 : decode b_A_takeGhostMoved 6 = .ok (.istore_n 3, 1) ∧ 6 + 1 = 7 := ⟨by decide +kernel, rfl⟩
theorem d_A_takeGhostMoved_7 : decode b_A_takeGhostMoved 7 = .ok (.iload_n 3, 1) ∧ 7 + 1 = 8 := ⟨by decide +kernel, rfl⟩
theorem d_A_takeGhostMoved_8 : decode b_A_takeGhostMoved 8 = .ok (.iload_n 2, 1) ∧ 8 + 1 = 9 := ⟨by decide +kernel, rfl⟩
theorem d_A_takeGhostMoved_9 : decode b_A_takeGhostMoved 9 = .ok (.if_icmp .lt 75, 3) ∧ 9 + 3 = 12 ∧ ((9 : Nat) : Int) + 75 = ((84 : Nat) : Int) := ⟨by decide +kernel, rfl, by decide⟩
theorem d_A_takeGhostMoved_12 : decode b_A_takeGhostMoved 12 = .ok (.aload_n 0, 1) ∧ 12 + 1 = 13 := ⟨by decide +kernel, rfl⟩
theorem d_A_takeGhostMoved_13 : decode b_A_takeGhostMoved 13 = .ok (.getfield 9, 3) ∧ 13 + 3 = 16 := ⟨by decide +kernel, rfl⟩
theorem d_A_takeGhostMoved_16 : decode b_A_takeGhostMoved 16 = .ok (.iconst 1, 1) ∧ 16 + 1 = 17 := ⟨by decide +kernel, rfl⟩
theorem d_A_takeGhostMoved_17 : decode b_A_takeGhostMoved 17 = .ok (.isub, 1) ∧ 17 + 1 = 18 := ⟨by decide +kernel, rfl⟩
theorem d_A_takeGhostMoved_18 : decode b_A_takeGhostMoved 18 = .ok (.istore 4, 2) ∧ 18 + 2 = 20 := ⟨by decide +kernel, rfl⟩
theorem d_A_takeGhostMoved_20 : decode b_A_takeGhostMoved 20 = .ok (.iload 4, 2) ∧ 20 + 2 = 22 := ⟨by decide +kernel, rfl⟩
theorem d_A_takeGhostMoved_22 : decode b_A_takeGhostMoved 22 = .ok (.ifCond .lt 56, 3) ∧ 22 + 3 = 25 ∧ ((22 : Nat) : Int) + 56 = ((78 : Nat) : Int) := ⟨by decide +kernel, rfl, by decide⟩
theorem d_A_takeGhostMoved_25 : decode b_A_takeGhostMoved 25 = .ok (.iload 4, 2) ∧ 25 + 2 = 27 := ⟨by decide +kernel, rfl⟩
theorem d_A_takeGhostMoved_27 : decode b_A_takeGhostMoved 27 = .ok (.iload_n 1, 1) ∧ 27 + 1 = 28 := ⟨by decide +kernel, rfl⟩
theorem d_A_takeGhostMoved_28 : decode b_A_takeGhostMoved 28 = .ok (.isub, 1) ∧ 28 + 1 = 29 := ⟨by decide +kernel, rfl⟩
theorem d_A_takeGhostMoved_29 : decode b_A_takeGhostMoved 29 = .ok (.istore 5, 2) ∧ 29 + 2 = 31 := ⟨by decide +kernel, rfl⟩
theorem d_A_takeGhostMoved_31 : decode b_A_takeGhostMoved 31 = .ok (.iload 5, 2) ∧ 31 + 2 = 33 := ⟨by decide +kernel, rfl⟩
theorem d_A_takeGhostMoved_33 : decode b_A_takeGhostMoved 33 = .ok (.ifCond .lt 39, 3) ∧ 33 + 3 = 36 ∧ ((33 : Nat) : Int) + 39 = ((72 : Nat) : Int) := ⟨by decide +kernel, rfl, by decide⟩
theorem d_A_takeGhostMoved_36 : decode b_A_takeGhostMoved 36 = .ok (.iload 5, 2) ∧ 36 + 2 = 38 := ⟨by decide +kernel, rfl⟩
theorem d_A_takeGhostMoved_38 : decode b_A_takeGhostMoved 38 = .ok (.aload_n 0, 1) ∧ 38 + 1 = 39 := ⟨by decide +kernel, rfl⟩
theorem d_A_takeGhostMoved_39 : decode b_A_takeGhostMoved 39 = .ok (.getfield 9, 3) ∧ 39 + 3 = 42 := ⟨by decide +kernel, rfl⟩
theorem d_A_takeGhostMoved_42 : decode b_A_takeGhostMoved 42 = .ok (.if_icmp .ge 30, 3) ∧ 42 + 3 = 45 ∧ ((42 : Nat) : Int) + 30 = ((72 : Nat) : Int) := ⟨by decide +kernel, rfl, by decide⟩
theorem d_A_takeGhostMoved_45 : decode b_A_takeGhostMoved 45 = .ok (.aload_n 0, 1) ∧ 45 + 1 = 46 := ⟨by decide +kernel, rfl⟩
theorem d_A_takeGhostMoved_46 : decode b_A_takeGhostMoved 46 = .ok (.getfield 57, 3) ∧ 46 + 3 = 49 := ⟨by decide +kernel, rfl⟩
theorem d_A_takeGhostMoved_49 : decode b_A_takeGhostMoved 49 = .ok (.iload 4, 2) ∧ 49 + 2 = 51 := ⟨by decide +kernel, rfl⟩
theorem d_A_takeGhostMoved_51 : decode b_A_takeGhostMoved 51 = .ok (.iload_n 3, 1) ∧ 51 + 1 = 52 := ⟨by decide +kernel, rfl⟩
theorem d_A_takeGhostMoved_52 : decode b_A_takeGhostMoved 52 = .ok (.invokestatic 82, 3) ∧ 52 + 3 = 55 := ⟨by decide +kernel, rfl⟩
theorem d_A_takeGhostMoved_55 : decode b_A_takeGhostMoved 55 = .ok (.dup2, 1) ∧ 55 + 1 = 56 := ⟨by decide +kernel, rfl⟩
theorem d_A_takeGhostMoved_56 : decode b_A_takeGhostMoved 56 = .ok (.iaload, 1) ∧ 56 + 1 = 57 := ⟨by decide +kernel, rfl⟩
theorem d_A_takeGhostMoved_57 : decode b_A_takeGhostMoved 57 = .ok (.aload_n 0, 1) ∧ 57 + 1 = 58 := ⟨by decide +kernel, rfl⟩
theorem d_A_takeGhostMoved_58 : decode b_A_takeGhostMoved 58 = .ok (.getfield 57, 3) ∧ 58 + 3 = 61 := ⟨by decide +kernel, rfl⟩
theorem d_A_takeGhostMoved_61 : decode b_A_takeGhostMoved 61 = .ok (.iload 5, 2) ∧ 61 + 2 = 63 := ⟨by decide +kernel, rfl⟩
theorem d_A_takeGhostMoved_63 : decode b_A_takeGhostMoved 63 = .ok (.iload_n 3, 1) ∧ 63 + 1 = 64 := ⟨by decide +kernel, rfl⟩
theorem d_A_takeGhostMoved_64 : decode b_A_takeGhostMoved 64 = .ok (.iload_n 2, 1) ∧ 64 + 1 = 65 := ⟨by decide +kernel, rfl⟩
theorem d_A_takeGhostMoved_65 : decode b_A_takeGhostMoved 65 = .ok (.isub, 1) ∧ 65 + 1 = 66 := ⟨by decide +kernel, rfl⟩
theorem d_A_takeGhostMoved_66 : decode b_A_takeGhostMoved 66 = .ok (.invokestatic 82, 3) ∧ 66 + 3 = 69 := ⟨by decide +kernel, rfl⟩
theorem d_A_takeGhostMoved_69 : decode b_A_takeGhostMoved 69 = .ok (.iaload, 1) ∧ 69 + 1 = 70 := ⟨by decide +kernel, rfl⟩
theorem d_A_takeGhostMoved_70 : decode b_A_takeGhostMoved 70 = .ok (.isub, 1) ∧ 70 + 1 = 71 := ⟨by decide +kernel, rfl⟩
theorem d_A_takeGhostMoved_71 : decode b_A_takeGhostMoved 71 = .ok (.iastore, 1) ∧ 71 + 1 = 72 := ⟨by decide +kernel, rfl⟩
theorem d_A_takeGhostMoved_72 : decode b_A_takeGhostMoved 72 = .ok (.iinc 4 (-1), 3) ∧ 72 + 3 = 75 := ⟨by decide +kernel, rfl⟩
theorem d_A_takeGhostMoved_75 : decode b_A_takeGhostMoved 75 = .ok (.goto (-55), 3) ∧ ((75 : Nat) : Int) + (-55) = ((20 : Nat) : Int) := ⟨by decide +kernel, by decide⟩
theorem d_A_takeGhostMoved_78 : decode b_A_takeGhostMoved 78 = .ok (.iinc 3 (-1), 3) ∧ 78 + 3 = 81 := ⟨by decide +kernel, rfl⟩
theorem d_A_takeGhostMoved_81 : decode b_A_takeGhostMoved 81 = .ok (.goto (-74), 3) ∧ ((81 : Nat) : Int) + (-74) = ((7 : Nat) : Int) := ⟨by decide +kernel, by decide⟩
theorem d_A_takeGhostMoved_84 : decode b_A_takeGhostMoved 84 = .ok (.return_, 1) := by decide +kernel
