set_option maxHeartbeats 1000000 in
set_option maxRecDepth 100000 in
theorem c_goesAlong (l : Launch) {B : Nat} {D : va_G} {cI cZ cL cS cW : ClassId} {ad : Nat → Nat} {g : Nat → va_E} (r : Nat) (t : ShT) (x y : Int) (hr : r < 95) (hb : -16 ≤ t.2.2.1 ∧ t.2.2.1 ≤ 16 ∧ -16 ≤ t.2.2.2.1 ∧ t.2.2.2.1 ≤ 16) (hx : -16 ≤ x ∧ x ≤ 16 ∧ -16 ≤ y ∧ y ≤ 16) (h0 : g r = shE (ad (r + 1)) t) : Met l y_S_goesAlong (Cond.code y_S_goesAlong b_S_goesAlong 3 (some .boolean) :: wG) (rmF 0 0 0 0) (wPc B D classes (tyL cI cZ cL cS cW) (Zs B) 95 [.ref (ad r), .int (iI x), .int (iI y)] ad g) (QI B D classes 95 (fun v9 ad1 g1 => ∃ v, v9 = bI v ∧ (v = decide (t.2.2.1 = x ∧ t.2.2.2.1 = y) ∧ ad = ad1 ∧ g = g1))) 0 0 (aB B) := by
  refine ofZ (own := R_S) (by decide) rfl (Nat.le_of_ble_eq_true rfl) ?_
  intro p e s m below meth c Q C hnm hret
  change kV _ _ _ _ _ _ _ _ _ _ _ _ _ _ _ _ _ _ _ _ _ [(0, .ref (ad r)), (1, .int (iI x)), (2, .int (iI y))] _ _
  refine v_aload_n C d_S_goesAlong_0 rfl 0 rfl ?_
  refine gf_S_18 C (by omega) h0 rfl d_S_goesAlong_1 ?_
  refine v_iload_n C d_S_goesAlong_4 rfl 1 rfl ?_
  refine v_icmp_neI C d_S_goesAlong_5 (by omega) (by omega) (by omega) (by omega) (fun hb5 => ?_) (fun hb5 => ?_)
  · refine v_iconst C d_S_goesAlong_20 ?_
    exact hret _ _ _ _ _ false _ (Nat.zero_le _) (Nat.zero_le _) d_S_goesAlong_21 ⟨(decide_eq_false (fun q => by omega)).symm, rfl, rfl⟩
  · refine v_aload_n C d_S_goesAlong_8 rfl 0 rfl ?_
    refine gf_S_22 C (by omega) h0 rfl d_S_goesAlong_9 ?_
    refine v_iload_n C d_S_goesAlong_12 rfl 2 rfl ?_
    refine v_icmp_neI C d_S_goesAlong_13 (by omega) (by omega) (by omega) (by omega) (fun hb13 => ?_) (fun hb13 => ?_)
    · refine v_iconst C d_S_goesAlong_20 ?_
      exact hret _ _ _ _ _ false _ (Nat.zero_le _) (Nat.zero_le _) d_S_goesAlong_21 ⟨(decide_eq_false (fun q => by omega)).symm, rfl, rfl⟩
    · refine v_iconst C d_S_goesAlong_16 ?_
      refine v_goto C d_S_goesAlong_17 ?_
      exact hret _ _ _ _ _ true _ (Nat.zero_le _) (Nat.zero_le _) d_S_goesAlong_21 ⟨(decide_eq_true ⟨hb5, hb13⟩).symm, rfl, rfl⟩
set_option maxHeartbeats 1000000 in
set_option maxRecDepth 100000 in
theorem c_isIn (l : Launch) {B : Nat} {D : va_G} {cI cZ cL cS cW : ClassId} {ad : Nat → Nat} {g : Nat → va_E} (M s9 : Nat) (hM : M < 256) (hs : s9 < 8) : Met l y_A_isIn (Cond.code y_A_isIn b_A_isIn 2 (some .boolean) :: wG) (rmF 0 0 0 0) (wPc B D classes (tyL cI cZ cL cS cW) (Zs B) 95 [.int (iI (M : Int)), .int (iI (s9 : Int))] ad g) (QI B D classes 95 (fun v9 ad1 g1 => ∃ v, v9 = bI v ∧ (v = Nat.testBit M s9 ∧ ad = ad1 ∧ g = g1))) 0 0 (aB B) := by
  refine ofZ (own := R_A) (by decide) rfl (Nat.le_of_ble_eq_true rfl) ?_
  intro p e s m below meth c Q C hnm hret
  change kV _ _ _ _ _ _ _ _ _ _ _ _ _ _ _ _ _ _ _ _ _ [(0, .int (iI (M : Int))), (1, .int (iI (s9 : Int)))] _ _
  refine v_iload_n C d_A_isIn_0 rfl 0 rfl ?_
  refine v_iload_n C d_A_isIn_1 rfl 1 rfl ?_
  refine v_ishr C d_A_isIn_2 ?_
  refine v_iconst C d_A_isIn_3 ?_
  refine v_iand C d_A_isIn_4 ?_
  refine v_iconst C d_A_isIn_5 ?_
  rw [isin_bit M hM s9 hs]
  refine v_icmp_ne C d_A_isIn_6 (fun hb6 => ?_) (fun hb6 => ?_)
  · refine v_iconst C d_A_isIn_13 ?_
    exact hret _ _ _ _ _ false _ (Nat.zero_le _) (Nat.zero_le _) d_A_isIn_14 ⟨(Bool.eq_false_iff.mpr (fun q => hb6 ((bI_1 _).mpr q))).symm, rfl, rfl⟩
  · refine v_iconst C d_A_isIn_9 ?_
    refine v_goto C d_A_isIn_10 ?_
    exact hret _ _ _ _ _ true _ (Nat.zero_le _) (Nat.zero_le _) d_A_isIn_14 ⟨((bI_1 _).mp hb6).symm, rfl, rfl⟩
set_option maxHeartbeats 1000000 in
set_option maxRecDepth 100000 in
theorem c_isDirection (l : Launch) {B : Nat} {D : va_G} {cI cZ cL cS cW : ClassId} {ad : Nat → Nat} {g : Nat → va_E} (x y : Int) (x1 : -2147483648 ≤ x) (x2 : x < 2147483648) (y1 : -2147483648 ≤ y) (y2 : y < 2147483648) : Met l y_A_isDirection (Cond.code y_A_isDirection b_A_isDirection 3 (some .boolean) :: wG) (rmF 0 0 0 0) (wPc B D classes (tyL cI cZ cL cS cW) (Zs B) 95 [.int (iI x), .int (iI y)] ad g) (QI B D classes 95 (fun v9 ad1 g1 => ∃ v, v9 = bI v ∧ ((v = true ↔ -16 ≤ x ∧ x ≤ 16 ∧ -16 ≤ y ∧ y ≤ 16 ∧ ∀ d : Nat, 2 ≤ d → d ≤ 16 → ¬ (Int.tmod x d = 0 ∧ Int.tmod y d = 0)) ∧ ad = ad1 ∧ g = g1))) 0 0 (aB B) := by
  refine ofZ (own := R_A) (by decide) rfl (Nat.le_of_ble_eq_true rfl) ?_
  intro p e s m below meth c Q C hnm hret
  change kV _ _ _ _ _ _ _ _ _ _ _ _ _ _ _ _ _ _ _ _ _ [(0, .int (iI x)), (1, .int (iI y))] _ _
  refine v_iload_n C d_A_isDirection_0 rfl 0 rfl ?_
  refine v_bipush C d_A_isDirection_1 (by decide +kernel) ?_
  refine v_icmp_ltI C d_A_isDirection_3 (by omega) (by omega) (by omega) (by omega) (fun hb3 => ?_) (fun hb3 => ?_)
  · refine v_iconst C d_A_isDirection_24 ?_
    exact hret _ _ _ _ _ false _ (Nat.zero_le _) (Nat.zero_le _) d_A_isDirection_25 ⟨⟨fun q => absurd q (by decide), fun q => absurd q (by omega)⟩, rfl, rfl⟩
  · refine v_iload_n C d_A_isDirection_6 rfl 0 rfl ?_
    refine v_bipush C d_A_isDirection_7 (by decide +kernel) ?_
    refine v_icmp_gtI C d_A_isDirection_9 (by omega) (by omega) (by omega) (by omega) (fun hb9 => ?_) (fun hb9 => ?_)
    · refine v_iconst C d_A_isDirection_24 ?_
      exact hret _ _ _ _ _ false _ (Nat.zero_le _) (Nat.zero_le _) d_A_isDirection_25 ⟨⟨fun q => absurd q (by decide), fun q => absurd q (by omega)⟩, rfl, rfl⟩
    · refine v_iload_n C d_A_isDirection_12 rfl 1 rfl ?_
      refine v_bipush C d_A_isDirection_13 (by decide +kernel) ?_
      refine v_icmp_ltI C d_A_isDirection_15 (by omega) (by omega) (by omega) (by omega) (fun hb15 => ?_) (fun hb15 => ?_)
      · refine v_iconst C d_A_isDirection_24 ?_
        exact hret _ _ _ _ _ false _ (Nat.zero_le _) (Nat.zero_le _) d_A_isDirection_25 ⟨⟨fun q => absurd q (by decide), fun q => absurd q (by omega)⟩, rfl, rfl⟩
      · refine v_iload_n C d_A_isDirection_18 rfl 1 rfl ?_
        refine v_bipush C d_A_isDirection_19 (by decide +kernel) ?_
        refine v_icmp_leI C d_A_isDirection_21 (by omega) (by omega) (by omega) (by omega) (fun hb21 => ?_) (fun hb21 => ?_)
        · refine v_iconst C d_A_isDirection_26 ?_
          refine v_istore_n (lv' := [(2, .int (iI 2)), (0, .int (iI x)), (1, .int (iI y))]) C d_A_isDirection_27 rfl (by decide) rfl ?_
          refine v_lv (lv' := [(0, .int (iI x)), (1, .int (iI y)), (2, .int (iI 2))]) [1, 2, 0] rfl ?_
          have L28 : ∀ (d9 : Nat) (d : Nat), 17 - d < d9 → (2 ≤ d) → (d ≤ 17) → (∀ d1 : Nat, 2 ≤ d1 → d1 < d → ¬ (Int.tmod x d1 = 0 ∧ Int.tmod y d1 = 0)) → kV p l e (rmF 0 0 0 0) s m ([.int (iI x), .int (iI y)] : List Value).toArray below meth c Q s.heap B D classes 3 95 0 0 ad g [(0, .int (iI x)), (1, .int (iI y)), (2, .int (iI (d : Int)))] [] 28 := by
            intro d9
            induction d9 with
            | zero => intro d hd9; exact absurd hd9 (Nat.not_lt_zero _)
            | succ d9 ih28 =>
              intro d hd28 h2 hd hn
              refine v_iload_n C d_A_isDirection_28 rfl 2 rfl ?_
              refine v_bipush C d_A_isDirection_29 (by decide +kernel) ?_
              refine v_icmp_gtI C d_A_isDirection_31 (by omega) (by omega) (by omega) (by omega) (fun hb31 => ?_) (fun hb31 => ?_)
              · refine v_iconst C d_A_isDirection_54 ?_
                exact hret _ _ _ _ _ true _ (Nat.zero_le _) (Nat.zero_le _) d_A_isDirection_55 ⟨⟨fun _ => ⟨by omega, by omega, by omega, by omega, fun d1 a b => hn d1 a (by omega)⟩, fun _ => rfl⟩, rfl, rfl⟩
              · refine v_iload_n C d_A_isDirection_34 rfl 0 rfl ?_
                refine v_iload_n C d_A_isDirection_35 rfl 2 rfl ?_
                refine v_iremI C d_A_isDirection_36 (by omega) (by omega) (by omega) (by omega) (fun hm36 hn36 => ?_)
                refine v_if_neI C d_A_isDirection_37 (by omega) (by omega) (fun hb37 => ?_) (fun hb37 => ?_)
                · refine v_iinc (lv' := [(2, .int (iI ((d : Int) + 1))), (0, .int (iI x)), (1, .int (iI y))]) C d_A_isDirection_48 2 rfl (by decide) rfl ?_
                  refine v_goto C d_A_isDirection_51 ?_
                  refine v_lv (lv' := [(0, .int (iI x)), (1, .int (iI y)), (2, .int (iI ((d : Int) + 1)))]) [1, 2, 0] rfl ?_
                  exact ih28 (d + 1) (by omega) (by omega) (by omega) (fun d1 a b q => by by_cases hh : d1 = d; (subst hh; omega); exact hn d1 a (by omega) q)
                · refine v_iload_n C d_A_isDirection_40 rfl 1 rfl ?_
                  refine v_iload_n C d_A_isDirection_41 rfl 2 rfl ?_
                  refine v_iremI C d_A_isDirection_42 (by omega) (by omega) (by omega) (by omega) (fun hm42 hn42 => ?_)
                  refine v_if_neI C d_A_isDirection_43 (by omega) (by omega) (fun hb43 => ?_) (fun hb43 => ?_)
                  · refine v_iinc (lv' := [(2, .int (iI ((d : Int) + 1))), (0, .int (iI x)), (1, .int (iI y))]) C d_A_isDirection_48 2 rfl (by decide) rfl ?_
                    refine v_goto C d_A_isDirection_51 ?_
                    refine v_lv (lv' := [(0, .int (iI x)), (1, .int (iI y)), (2, .int (iI ((d : Int) + 1)))]) [1, 2, 0] rfl ?_
                    exact ih28 (d + 1) (by omega) (by omega) (by omega) (fun d1 a b q => by by_cases hh : d1 = d; (subst hh; omega); exact hn d1 a (by omega) q)
                  · refine v_iconst C d_A_isDirection_46 ?_
                    exact hret _ _ _ _ _ false _ (Nat.zero_le _) (Nat.zero_le _) d_A_isDirection_47 ⟨⟨fun q => absurd q (by decide), fun q => absurd ⟨hb37, hb43⟩ (q.2.2.2.2 d (by omega) (by omega))⟩, rfl, rfl⟩
          exact L28 _ 2 (Nat.lt_succ_self _) (by omega) (by omega) (fun d1 a b => absurd b (by omega))
        · refine v_iconst C d_A_isDirection_24 ?_
          exact hret _ _ _ _ _ false _ (Nat.zero_le _) (Nat.zero_le _) d_A_isDirection_25 ⟨⟨fun q => absurd q (by decide), fun q => absurd q (by omega)⟩, rfl, rfl⟩
set_option maxHeartbeats 1000000 in
set_option maxRecDepth 100000 in
theorem c_requireMask (l : Launch) (hl : l.stackTraces = false) {B : Nat} {D : va_G} {cI cZ cL cS cW : ClassId} {ad : Nat → Nat} {g : Nat → va_E} (x : Int) (x1 : -2147483648 ≤ x) (x2 : x < 2147483648) : vx_Met l y_A_requireMask (Cond.code y_A_requireMask b_A_requireMask 1 none :: wG) (rmF 6 82 1 6) (wPc B D classes (tyL cI cZ cL cS cW) (Zs B) 95 [.int (iI x)] ad g) (QV B D classes 95 (fun ad1 g1 => 0 ≤ x ∧ x < 256 ∧ ad = ad1 ∧ g = g1)) (QX B D classes 95 (fun E => E = "java/lang/IllegalArgumentException" ∧ ¬ (0 ≤ x ∧ x < 256)) ad g) 1 6 (aB B) := by
  refine ofXV (own := R_A) (by decide) rfl (Nat.le_of_ble_eq_true rfl) ?_
  intro p e s m below meth c Q C hlocks htab hQ hret hout
  change kV _ _ _ _ _ _ _ _ _ _ _ _ _ _ _ _ _ _ _ _ _ [(0, .int (iI x))] _ _
  refine v_iload_n C d_A_requireMask_0 rfl 0 rfl ?_
  refine v_if_ltI C d_A_requireMask_1 (by omega) (by omega) (fun hb1 => ?_) (fun hb1 => ?_)
  · exact v_throwS (text := "a mask is 0 to 255") C hl hQ hlocks htab kl_A_62 in_IllegalArgumentException at_iae_in at_iae_ok at_iae_ot (by decide +kernel) (by decide +kernel) (by decide +kernel) d_A_requireMask_11.1 d_A_requireMask_14.1 d_A_requireMask_15.1 d_A_requireMask_17.1 d_A_requireMask_20 (Nat.le_of_ble_eq_true rfl) (Nat.le_of_ble_eq_true rfl) (Nat.le_of_ble_eq_true rfl) (Nat.le_of_ble_eq_true rfl) (Nat.le_of_ble_eq_true rfl) (Nat.le_of_ble_eq_true rfl) ⟨rfl, by omega⟩
  · refine v_iload_n C d_A_requireMask_4 rfl 0 rfl ?_
    refine v_sipush C d_A_requireMask_5 (by decide +kernel) ?_
    refine v_icmp_leI C d_A_requireMask_8 (by omega) (by omega) (by omega) (by omega) (fun hb8 => ?_) (fun hb8 => ?_)
    · exact hret _ _ _ _ _ _ (by omega) (by omega) d_A_requireMask_21 ⟨by omega, by omega, rfl, rfl⟩
    · exact v_throwS (text := "a mask is 0 to 255") C hl hQ hlocks htab kl_A_62 in_IllegalArgumentException at_iae_in at_iae_ok at_iae_ot (by decide +kernel) (by decide +kernel) (by decide +kernel) d_A_requireMask_11.1 d_A_requireMask_14.1 d_A_requireMask_15.1 d_A_requireMask_17.1 d_A_requireMask_20 (Nat.le_of_ble_eq_true rfl) (Nat.le_of_ble_eq_true rfl) (Nat.le_of_ble_eq_true rfl) (Nat.le_of_ble_eq_true rfl) (Nat.le_of_ble_eq_true rfl) (Nat.le_of_ble_eq_true rfl) ⟨rfl, by omega⟩
set_option maxHeartbeats 1000000 in
set_option maxRecDepth 100000 in
theorem c_requireShelf (l : Launch) (hl : l.stackTraces = false) {B : Nat} {D : va_G} {cI cZ cL cS cW : ClassId} {ad : Nat → Nat} {g : Nat → va_E} (x : Int) (x1 : -2147483648 ≤ x) (x2 : x < 2147483648) : vx_Met l y_A_requireShelf (Cond.code y_A_requireShelf b_A_requireShelf 1 none :: wG) (rmF 6 82 1 6) (wPc B D classes (tyL cI cZ cL cS cW) (Zs B) 95 [.int (iI x)] ad g) (QV B D classes 95 (fun ad1 g1 => 0 ≤ x ∧ x < 8 ∧ ad = ad1 ∧ g = g1)) (QX B D classes 95 (fun E => E = "java/lang/IndexOutOfBoundsException" ∧ ¬ (0 ≤ x ∧ x < 8)) ad g) 1 6 (aB B) := by
  refine ofXV (own := R_A) (by decide) rfl (Nat.le_of_ble_eq_true rfl) ?_
  intro p e s m below meth c Q C hlocks htab hQ hret hout
  change kV _ _ _ _ _ _ _ _ _ _ _ _ _ _ _ _ _ _ _ _ _ [(0, .int (iI x))] _ _
  refine v_iload_n C d_A_requireShelf_0 rfl 0 rfl ?_
  refine v_if_ltI C d_A_requireShelf_1 (by omega) (by omega) (fun hb1 => ?_) (fun hb1 => ?_)
  · exact v_throwS (text := "no such shelf") C hl hQ hlocks htab kl_A_90 in_IndexOutOfBoundsException at_ioo_in at_ioo_ok at_ioo_ot (by decide +kernel) (by decide +kernel) (by decide +kernel) d_A_requireShelf_10.1 d_A_requireShelf_13.1 d_A_requireShelf_14.1 d_A_requireShelf_16.1 d_A_requireShelf_19 (Nat.le_of_ble_eq_true rfl) (Nat.le_of_ble_eq_true rfl) (Nat.le_of_ble_eq_true rfl) (Nat.le_of_ble_eq_true rfl) (Nat.le_of_ble_eq_true rfl) (Nat.le_of_ble_eq_true rfl) ⟨rfl, by omega⟩
  · refine v_iload_n C d_A_requireShelf_4 rfl 0 rfl ?_
    refine v_bipush C d_A_requireShelf_5 (by decide +kernel) ?_
    refine v_icmp_ltI C d_A_requireShelf_7 (by omega) (by omega) (by omega) (by omega) (fun hb7 => ?_) (fun hb7 => ?_)
    · exact hret _ _ _ _ _ _ (by omega) (by omega) d_A_requireShelf_20 ⟨by omega, by omega, rfl, rfl⟩
    · exact v_throwS (text := "no such shelf") C hl hQ hlocks htab kl_A_90 in_IndexOutOfBoundsException at_ioo_in at_ioo_ok at_ioo_ot (by decide +kernel) (by decide +kernel) (by decide +kernel) d_A_requireShelf_10.1 d_A_requireShelf_13.1 d_A_requireShelf_14.1 d_A_requireShelf_16.1 d_A_requireShelf_19 (Nat.le_of_ble_eq_true rfl) (Nat.le_of_ble_eq_true rfl) (Nat.le_of_ble_eq_true rfl) (Nat.le_of_ble_eq_true rfl) (Nat.le_of_ble_eq_true rfl) (Nat.le_of_ble_eq_true rfl) ⟨rfl, by omega⟩
set_option maxHeartbeats 1000000 in
set_option maxRecDepth 100000 in
theorem c_requireState (l : Launch) (hl : l.stackTraces = false) {B : Nat} {D : va_G} {cI cZ cL cS cW : ClassId} {ad : Nat → Nat} {g : Nat → va_E} (b : Bool) : vx_Met l y_A_requireState (Cond.code y_A_requireState b_A_requireState 1 none :: wG) (rmF 6 82 1 6) (wPc B D classes (tyL cI cZ cL cS cW) (Zs B) 95 [.int (bI b)] ad g) (QV B D classes 95 (fun ad1 g1 => b = true ∧ ad = ad1 ∧ g = g1)) (QX B D classes 95 (fun E => E = "java/lang/IllegalStateException" ∧ b = false) ad g) 1 6 (aB B) := by
  refine ofXV (own := R_A) (by decide) rfl (Nat.le_of_ble_eq_true rfl) ?_
  intro p e s m below meth c Q C hlocks htab hQ hret hout
  change kV _ _ _ _ _ _ _ _ _ _ _ _ _ _ _ _ _ _ _ _ _ [(0, .int (bI b))] _ _
  refine v_iload_n C d_A_requireState_0 rfl 0 rfl ?_
  refine v_if_neB C d_A_requireState_1 (fun hb1 => ?_) (fun hb1 => ?_)
  · exact hret _ _ _ _ _ _ (by omega) (by omega) d_A_requireState_14 ⟨hb1, rfl, rfl⟩
  · exact v_throwS (text := "not in this state") C hl hQ hlocks htab kl_A_203 in_IllegalStateException at_ise_in at_ise_ok at_ise_ot (by decide +kernel) (by decide +kernel) (by decide +kernel) d_A_requireState_4.1 d_A_requireState_7.1 d_A_requireState_8.1 d_A_requireState_10.1 d_A_requireState_13 (Nat.le_of_ble_eq_true rfl) (Nat.le_of_ble_eq_true rfl) (Nat.le_of_ble_eq_true rfl) (Nat.le_of_ble_eq_true rfl) (Nat.le_of_ble_eq_true rfl) (Nat.le_of_ble_eq_true rfl) ⟨rfl, hb1⟩
