set_option maxHeartbeats 1000000 in
set_option maxRecDepth 100000 in
theorem c_direction (l : Launch) (hl : l.stackTraces = false) {B : Nat} {D : va_G} {cI cZ cL cS cW : ClassId} {ad : Nat → Nat} {g : Nat → va_E} (w h : Nat) (hk hr : Bool) (sp wb : Int) (z x y : Int) (z1 : -2147483648 ≤ z) (z2 : z < 2147483648) (x1 : -2147483648 ≤ x) (x2 : x < 2147483648) (y1 : -2147483648 ≤ y) (y2 : y < 2147483648) (hw : 1 ≤ w ∧ w ≤ 16) (hh : 1 ≤ h ∧ h ≤ 16) (h0 : g 0 = xE ad w h hk hr sp wb) (h2 : g 2 = rfA cS 8 (shs ad 9)) (T : Nat → ShT) (hT : bdT T) (hsh : ∀ j, j < 8 → g (9 + 8 * j) = shE (ad (9 + 8 * j + 1)) (T j)) (nb : Nat → Nat) (bf : Nat → Nat → Int32) (hnb : ∀ j, j < 8 → nb j = 0 ∨ nb j = 481) (hbi : ∀ j, j < 8 → g (9 + 8 * j + 1) = inA cI (nb j) (bf j)) : vx_Met l y_A_direction (Cond.code y_A_direction b_A_direction 7 none :: wG) (rmF 7 110 3 500) (wPc B D classes (tyL cI cZ cL cS cW) (Zs B) 95 [.ref (ad 0), .int (iI z), .int (iI x), .int (iI y)] ad g) (QV B D classes 95 (fun ad1 g1 => isD x y ∧ ¬ (∃ j : Nat, j < 8 ∧ (j : Int) ≠ z ∧ (T j).1 = true ∧ (T j).2.2.1 = tP x y ∧ (T j).2.2.2.1 = tQ x y) ∧ ∃ (s0 : Nat) (f1 : Nat → Int32), (s0 : Int) = z ∧ s0 < 8 ∧ g1 (9 + 8 * s0 + 1) = inA cI 481 f1 ∧ g1 (9 + 8 * s0) = shE (ad1 (9 + 8 * s0 + 1)) (true, false, tP x y, tQ x y, lzI (tP x y) (tQ x y) w h, ctI (tP x y) (tQ x y) w h) ∧ (∀ r1, r1 ≠ 9 + 8 * s0 + 1 → r1 ≠ 9 + 8 * s0 → g1 r1 = g r1) ∧ ∀ r1, r1 ≠ 9 + 8 * s0 + 1 → ad1 r1 = ad r1)) (QX B D classes 95 (fun E => (E = "java/lang/IndexOutOfBoundsException" ∧ ¬ (0 ≤ z ∧ z < 8)) ∨ (E = "java/lang/IllegalArgumentException" ∧ (0 ≤ z ∧ z < 8) ∧ (¬ isD x y ∨ ∃ j : Nat, j < 8 ∧ (j : Int) ≠ z ∧ (T j).1 = true ∧ (T j).2.2.1 = tP x y ∧ (T j).2.2.2.1 = tQ x y))) ad g) 3 500 (aB B) := by
  refine ofXV (own := R_A) (by decide) rfl (Nat.le_of_ble_eq_true rfl) ?_
  intro p e s m below meth c Q C hlocks htab hQ hret hout
  change kV _ _ _ _ _ _ _ _ _ _ _ _ _ _ _ _ _ _ _ _ _ [(0, .ref (ad 0)), (1, .int (iI z)), (2, .int (iI x)), (3, .int (iI y))] _ _
  refine v_iload_n C d_A_direction_0 rfl 1 rfl ?_
  refine v_xcallSV (As := [.int (iI z)]) (st := []) C (c_requireShelf l hl z z1 z2) (lk_A_95 C.1.2.2.2.2 rfl rfl ⟨Nat.le_of_ble_eq_true rfl, Nat.le_of_ble_eq_true rfl⟩) rfl rfl (Nat.le_of_ble_eq_true rfl) d_A_direction_1 ⟨Nat.le_of_ble_eq_true rfl, Nat.le_of_ble_eq_true rfl⟩ (fun E hE => hout E _ _ _ _ _ (Or.inl hE) (Nat.le_of_ble_eq_true rfl) (Nat.le_of_ble_eq_true rfl)) (fun ad1 g1 hp1 => ?_)
  obtain ⟨hz1, hz2, rfl, rfl⟩ := hp1
  obtain ⟨s0, hs0⟩ : ∃ s0 : Nat, (s0 : Int) = z := ⟨z.toNat, by omega⟩
  have hs8 : s0 < 8 := by omega
  refine v_iload_n C d_A_direction_4 rfl 2 rfl ?_
  refine v_iload_n C d_A_direction_5 rfl 3 rfl ?_
  refine v_callSI (As := [.int (iI x), .int (iI y)]) (st := []) C (c_isDirection l x y x1 x2 y1 y2) (lk_A_99 C.1.2.2.2.2 rfl rfl ⟨Nat.le_of_ble_eq_true rfl, Nat.le_of_ble_eq_true rfl⟩) rfl rfl (Nat.le_of_ble_eq_true rfl) d_A_direction_6 ⟨Nat.le_of_ble_eq_true rfl, Nat.le_of_ble_eq_true rfl⟩ (fun w2 ad2 g2 hp2 => ?_)
  obtain ⟨bd, rfl, hbd, rfl, rfl⟩ := hp2
  have hbd : bd = true ↔ isD x y := hbd
  refine v_if_neB C d_A_direction_9 (fun hb9 => ?_) (fun hb9 => ?_)
  · have hisd := hbd.mp hb9
    have hisd1 := hisd.1; have hisd2 := hisd.2.1; have hisd3 := hisd.2.2.1; have hisd4 := hisd.2.2.2.1
    refine v_iload_n C d_A_direction_22 rfl 3 rfl ?_
    refine v_if_ltI C d_A_direction_23 (by omega) (by omega) (fun hb23 => ?_) (fun hb23 => ?_)
    · refine v_iconst C d_A_direction_34 ?_
      refine v_goto C d_A_direction_35 ?_
      refine v_istore (lv' := [(4, .int (iI 1)), (0, .ref (ad 0)), (1, .int (iI z)), (2, .int (iI x)), (3, .int (iI y))]) C d_A_direction_39 (by decide) rfl ?_
      refine v_iload C d_A_direction_41 0 rfl ?_
      refine v_if_eqI C d_A_direction_43 (by omega) (by omega) (fun hz9 => absurd hz9 (by omega)) (fun _ => ?_)
      refine v_iload_n C d_A_direction_46 rfl 3 rfl ?_
      refine v_inegI C d_A_direction_47 ?_
      refine v_goto C d_A_direction_48 ?_
      refine v_istore (lv' := [(5, .int (iI (-x))), (4, .int (iI 1)), (0, .ref (ad 0)), (1, .int (iI z)), (2, .int (iI x)), (3, .int (iI y))]) C d_A_direction_52 (by decide) rfl ?_
      refine v_iload C d_A_direction_54 1 rfl ?_
      refine v_if_eqI C d_A_direction_56 (by omega) (by omega) (fun hz9 => absurd hz9 (by omega)) (fun _ => ?_)
      refine v_iload_n C d_A_direction_59 rfl 5 rfl ?_
      refine v_inegI C d_A_direction_60 ?_
      refine v_goto C d_A_direction_61 ?_
      refine v_istore (lv' := [(6, .int (iI (-y))), (5, .int (iI (-x))), (4, .int (iI 1)), (0, .ref (ad 0)), (1, .int (iI z)), (2, .int (iI x)), (3, .int (iI y))]) C d_A_direction_65 (by decide) rfl ?_
      have etP : tP x y = -x := if_pos (by omega)
      have etQ : tQ x y = -y := if_pos (by omega)
      refine v_lvE (lv' := [(6, .int (iI (tQ x y))), (5, .int (iI (tP x y))), (4, .int (iI 1)), (0, .ref (ad 0)), (1, .int (iI z)), (2, .int (iI x)), (3, .int (iI y))]) (by rw [etP, etQ]) ?_
      have hPb : -16 ≤ tP x y ∧ tP x y ≤ 16 ∧ 0 ≤ tQ x y ∧ tQ x y ≤ 16 := by rw [etP, etQ]; omega
      obtain ⟨hPb1, hPb2, hPb3, hPb4⟩ := hPb
      refine v_aload_n C d_A_direction_67 rfl 3 rfl ?_
      refine v_iload_n C d_A_direction_68 rfl 4 rfl ?_
      refine v_iload C d_A_direction_69 1 rfl ?_
      refine v_iload C d_A_direction_71 0 rfl ?_
      refine v_callVI (As := [.int (iI z), .int (iI (tP x y)), .int (iI (tQ x y))]) (st := []) (by omega) h0 rfl rfl C (c_anotherHas l w h hk hr sp wb z (tP x y) (tQ x y) (by omega) (by omega) h0 h2 T hT hsh) (lk_A_105 C.1.2.2.2.2 rfl rfl ⟨Nat.le_of_ble_eq_true rfl, Nat.le_of_ble_eq_true rfl⟩) rfl rfl (Nat.le_of_ble_eq_true rfl) d_A_direction_73 ⟨Nat.le_of_ble_eq_true rfl, Nat.le_of_ble_eq_true rfl⟩ (fun w3 ad3 g3 hp3 => ?_)
      obtain ⟨ba, rfl, hba, rfl, rfl⟩ := hp3
      refine v_if_eqB C d_A_direction_76 (fun hb76 => ?_) (fun hb76 => ?_)
      · refine v_aload_n C d_A_direction_89 rfl 3 rfl ?_
        refine gf_A_22 C (by omega) h0 rfl d_A_direction_90 ?_
        refine v_iload_n C d_A_direction_93 rfl 4 rfl ?_
        refine v_aald C 3 (by omega) h2 rfl s0 (hs0.symm) (hs8) (by omega) (rfl) d_A_direction_94 ?_
        refine v_iload C d_A_direction_95 1 rfl ?_
        refine v_iload C d_A_direction_97 0 rfl ?_
        refine v_aload_n C d_A_direction_99 rfl 3 rfl ?_
        refine gf_A_9 C (by omega) h0 rfl d_A_direction_100 ?_
        refine v_aload_n C d_A_direction_103 rfl 3 rfl ?_
        refine gf_A_13 C (by omega) h0 rfl d_A_direction_104 ?_
        have hq4 := hsh s0 (by omega)
        have hq5 := hbi s0 (by omega)
        refine v_callVV (As := [.int (iI (tP x y)), .int (iI (tQ x y)), .int (iI (w : Int)), .int (iI (h : Int))]) (st := []) (by omega) hq4 rfl rfl C (c_aim l (9 + 8 * s0) (nb s0) w h (bf s0) (T s0) (tP x y) (tQ x y) (by omega) (hnb s0 hs8) hw hh (by omega) (by omega) hq4 hq5) (lk_A_111 C.1.2.2.2.2 rfl rfl ⟨Nat.le_of_ble_eq_true rfl, Nat.le_of_ble_eq_true rfl⟩) rfl rfl (Nat.le_of_ble_eq_true rfl) d_A_direction_107 ⟨Nat.le_of_ble_eq_true rfl, Nat.le_of_ble_eq_true rfl⟩ (fun ad6 g6 hp6 => ?_)
        obtain ⟨f9, hb9x, hs9x, fr9, hA9⟩ := hp6
        exact hret _ _ _ _ _ _ (by omega) (by omega) d_A_direction_110 ⟨hisd, fun q => absurd (hba.mpr q) (by rw [hb76]; decide), s0, f9, hs0, hs8, hb9x, hs9x, fr9, hA9⟩
      · exact v_throwS (text := "another shelf has this direction") C hl hQ hlocks htab kl_A_62 in_IllegalArgumentException at_iae_in at_iae_ok at_iae_ot (by decide +kernel) (by decide +kernel) (by decide +kernel) d_A_direction_79.1 d_A_direction_82.1 d_A_direction_83.1 d_A_direction_85.1 d_A_direction_88 (Nat.le_of_ble_eq_true rfl) (Nat.le_of_ble_eq_true rfl) (Nat.le_of_ble_eq_true rfl) (Nat.le_of_ble_eq_true rfl) (Nat.le_of_ble_eq_true rfl) (Nat.le_of_ble_eq_true rfl) (Or.inr ⟨rfl, ⟨by omega, by omega⟩, Or.inr (hba.mp hb76)⟩)
    · refine v_iload_n C d_A_direction_26 rfl 3 rfl ?_
      refine v_if_neI C d_A_direction_27 (by omega) (by omega) (fun hb27 => ?_) (fun hb27 => ?_)
      · refine v_iconst C d_A_direction_38 ?_
        refine v_istore (lv' := [(4, .int (iI 0)), (0, .ref (ad 0)), (1, .int (iI z)), (2, .int (iI x)), (3, .int (iI y))]) C d_A_direction_39 (by decide) rfl ?_
        refine v_iload C d_A_direction_41 0 rfl ?_
        refine v_if_eqI C d_A_direction_43 (by omega) (by omega) (fun _ => ?_) (fun hz9 => absurd hz9 (by omega))
        refine v_iload_n C d_A_direction_51 rfl 3 rfl ?_
        refine v_istore (lv' := [(5, .int (iI x)), (4, .int (iI 0)), (0, .ref (ad 0)), (1, .int (iI z)), (2, .int (iI x)), (3, .int (iI y))]) C d_A_direction_52 (by decide) rfl ?_
        refine v_iload C d_A_direction_54 1 rfl ?_
        refine v_if_eqI C d_A_direction_56 (by omega) (by omega) (fun _ => ?_) (fun hz9 => absurd hz9 (by omega))
        refine v_iload_n C d_A_direction_64 rfl 5 rfl ?_
        refine v_istore (lv' := [(6, .int (iI y)), (5, .int (iI x)), (4, .int (iI 0)), (0, .ref (ad 0)), (1, .int (iI z)), (2, .int (iI x)), (3, .int (iI y))]) C d_A_direction_65 (by decide) rfl ?_
        have etP : tP x y = x := if_neg (by omega)
        have etQ : tQ x y = y := if_neg (by omega)
        refine v_lvE (lv' := [(6, .int (iI (tQ x y))), (5, .int (iI (tP x y))), (4, .int (iI 0)), (0, .ref (ad 0)), (1, .int (iI z)), (2, .int (iI x)), (3, .int (iI y))]) (by rw [etP, etQ]) ?_
        have hPb : -16 ≤ tP x y ∧ tP x y ≤ 16 ∧ 0 ≤ tQ x y ∧ tQ x y ≤ 16 := by rw [etP, etQ]; omega
        obtain ⟨hPb1, hPb2, hPb3, hPb4⟩ := hPb
        refine v_aload_n C d_A_direction_67 rfl 3 rfl ?_
        refine v_iload_n C d_A_direction_68 rfl 4 rfl ?_
        refine v_iload C d_A_direction_69 1 rfl ?_
        refine v_iload C d_A_direction_71 0 rfl ?_
        refine v_callVI (As := [.int (iI z), .int (iI (tP x y)), .int (iI (tQ x y))]) (st := []) (by omega) h0 rfl rfl C (c_anotherHas l w h hk hr sp wb z (tP x y) (tQ x y) (by omega) (by omega) h0 h2 T hT hsh) (lk_A_105 C.1.2.2.2.2 rfl rfl ⟨Nat.le_of_ble_eq_true rfl, Nat.le_of_ble_eq_true rfl⟩) rfl rfl (Nat.le_of_ble_eq_true rfl) d_A_direction_73 ⟨Nat.le_of_ble_eq_true rfl, Nat.le_of_ble_eq_true rfl⟩ (fun w7 ad7 g7 hp7 => ?_)
        obtain ⟨ba, rfl, hba, rfl, rfl⟩ := hp7
        refine v_if_eqB C d_A_direction_76 (fun hb76 => ?_) (fun hb76 => ?_)
        · refine v_aload_n C d_A_direction_89 rfl 3 rfl ?_
          refine gf_A_22 C (by omega) h0 rfl d_A_direction_90 ?_
          refine v_iload_n C d_A_direction_93 rfl 4 rfl ?_
          refine v_aald C 3 (by omega) h2 rfl s0 (hs0.symm) (hs8) (by omega) (rfl) d_A_direction_94 ?_
          refine v_iload C d_A_direction_95 1 rfl ?_
          refine v_iload C d_A_direction_97 0 rfl ?_
          refine v_aload_n C d_A_direction_99 rfl 3 rfl ?_
          refine gf_A_9 C (by omega) h0 rfl d_A_direction_100 ?_
          refine v_aload_n C d_A_direction_103 rfl 3 rfl ?_
          refine gf_A_13 C (by omega) h0 rfl d_A_direction_104 ?_
          have hq8 := hsh s0 (by omega)
          have hq9 := hbi s0 (by omega)
          refine v_callVV (As := [.int (iI (tP x y)), .int (iI (tQ x y)), .int (iI (w : Int)), .int (iI (h : Int))]) (st := []) (by omega) hq8 rfl rfl C (c_aim l (9 + 8 * s0) (nb s0) w h (bf s0) (T s0) (tP x y) (tQ x y) (by omega) (hnb s0 hs8) hw hh (by omega) (by omega) hq8 hq9) (lk_A_111 C.1.2.2.2.2 rfl rfl ⟨Nat.le_of_ble_eq_true rfl, Nat.le_of_ble_eq_true rfl⟩) rfl rfl (Nat.le_of_ble_eq_true rfl) d_A_direction_107 ⟨Nat.le_of_ble_eq_true rfl, Nat.le_of_ble_eq_true rfl⟩ (fun ad10 g10 hp10 => ?_)
          obtain ⟨f9, hb9x, hs9x, fr9, hA9⟩ := hp10
          exact hret _ _ _ _ _ _ (by omega) (by omega) d_A_direction_110 ⟨hisd, fun q => absurd (hba.mpr q) (by rw [hb76]; decide), s0, f9, hs0, hs8, hb9x, hs9x, fr9, hA9⟩
        · exact v_throwS (text := "another shelf has this direction") C hl hQ hlocks htab kl_A_62 in_IllegalArgumentException at_iae_in at_iae_ok at_iae_ot (by decide +kernel) (by decide +kernel) (by decide +kernel) d_A_direction_79.1 d_A_direction_82.1 d_A_direction_83.1 d_A_direction_85.1 d_A_direction_88 (Nat.le_of_ble_eq_true rfl) (Nat.le_of_ble_eq_true rfl) (Nat.le_of_ble_eq_true rfl) (Nat.le_of_ble_eq_true rfl) (Nat.le_of_ble_eq_true rfl) (Nat.le_of_ble_eq_true rfl) (Or.inr ⟨rfl, ⟨by omega, by omega⟩, Or.inr (hba.mp hb76)⟩)
      · refine v_iload_n C d_A_direction_30 rfl 2 rfl ?_
        refine v_if_geI C d_A_direction_31 (by omega) (by omega) (fun hb31 => ?_) (fun hb31 => ?_)
        · refine v_iconst C d_A_direction_38 ?_
          refine v_istore (lv' := [(4, .int (iI 0)), (0, .ref (ad 0)), (1, .int (iI z)), (2, .int (iI x)), (3, .int (iI y))]) C d_A_direction_39 (by decide) rfl ?_
          refine v_iload C d_A_direction_41 0 rfl ?_
          refine v_if_eqI C d_A_direction_43 (by omega) (by omega) (fun _ => ?_) (fun hz9 => absurd hz9 (by omega))
          refine v_iload_n C d_A_direction_51 rfl 3 rfl ?_
          refine v_istore (lv' := [(5, .int (iI x)), (4, .int (iI 0)), (0, .ref (ad 0)), (1, .int (iI z)), (2, .int (iI x)), (3, .int (iI y))]) C d_A_direction_52 (by decide) rfl ?_
          refine v_iload C d_A_direction_54 1 rfl ?_
          refine v_if_eqI C d_A_direction_56 (by omega) (by omega) (fun _ => ?_) (fun hz9 => absurd hz9 (by omega))
          refine v_iload_n C d_A_direction_64 rfl 5 rfl ?_
          refine v_istore (lv' := [(6, .int (iI y)), (5, .int (iI x)), (4, .int (iI 0)), (0, .ref (ad 0)), (1, .int (iI z)), (2, .int (iI x)), (3, .int (iI y))]) C d_A_direction_65 (by decide) rfl ?_
          have etP : tP x y = x := if_neg (by omega)
          have etQ : tQ x y = y := if_neg (by omega)
          refine v_lvE (lv' := [(6, .int (iI (tQ x y))), (5, .int (iI (tP x y))), (4, .int (iI 0)), (0, .ref (ad 0)), (1, .int (iI z)), (2, .int (iI x)), (3, .int (iI y))]) (by rw [etP, etQ]) ?_
          have hPb : -16 ≤ tP x y ∧ tP x y ≤ 16 ∧ 0 ≤ tQ x y ∧ tQ x y ≤ 16 := by rw [etP, etQ]; omega
          obtain ⟨hPb1, hPb2, hPb3, hPb4⟩ := hPb
          refine v_aload_n C d_A_direction_67 rfl 3 rfl ?_
          refine v_iload_n C d_A_direction_68 rfl 4 rfl ?_
          refine v_iload C d_A_direction_69 1 rfl ?_
          refine v_iload C d_A_direction_71 0 rfl ?_
          refine v_callVI (As := [.int (iI z), .int (iI (tP x y)), .int (iI (tQ x y))]) (st := []) (by omega) h0 rfl rfl C (c_anotherHas l w h hk hr sp wb z (tP x y) (tQ x y) (by omega) (by omega) h0 h2 T hT hsh) (lk_A_105 C.1.2.2.2.2 rfl rfl ⟨Nat.le_of_ble_eq_true rfl, Nat.le_of_ble_eq_true rfl⟩) rfl rfl (Nat.le_of_ble_eq_true rfl) d_A_direction_73 ⟨Nat.le_of_ble_eq_true rfl, Nat.le_of_ble_eq_true rfl⟩ (fun w11 ad11 g11 hp11 => ?_)
          obtain ⟨ba, rfl, hba, rfl, rfl⟩ := hp11
          refine v_if_eqB C d_A_direction_76 (fun hb76 => ?_) (fun hb76 => ?_)
          · refine v_aload_n C d_A_direction_89 rfl 3 rfl ?_
            refine gf_A_22 C (by omega) h0 rfl d_A_direction_90 ?_
            refine v_iload_n C d_A_direction_93 rfl 4 rfl ?_
            refine v_aald C 3 (by omega) h2 rfl s0 (hs0.symm) (hs8) (by omega) (rfl) d_A_direction_94 ?_
            refine v_iload C d_A_direction_95 1 rfl ?_
            refine v_iload C d_A_direction_97 0 rfl ?_
            refine v_aload_n C d_A_direction_99 rfl 3 rfl ?_
            refine gf_A_9 C (by omega) h0 rfl d_A_direction_100 ?_
            refine v_aload_n C d_A_direction_103 rfl 3 rfl ?_
            refine gf_A_13 C (by omega) h0 rfl d_A_direction_104 ?_
            have hq12 := hsh s0 (by omega)
            have hq13 := hbi s0 (by omega)
            refine v_callVV (As := [.int (iI (tP x y)), .int (iI (tQ x y)), .int (iI (w : Int)), .int (iI (h : Int))]) (st := []) (by omega) hq12 rfl rfl C (c_aim l (9 + 8 * s0) (nb s0) w h (bf s0) (T s0) (tP x y) (tQ x y) (by omega) (hnb s0 hs8) hw hh (by omega) (by omega) hq12 hq13) (lk_A_111 C.1.2.2.2.2 rfl rfl ⟨Nat.le_of_ble_eq_true rfl, Nat.le_of_ble_eq_true rfl⟩) rfl rfl (Nat.le_of_ble_eq_true rfl) d_A_direction_107 ⟨Nat.le_of_ble_eq_true rfl, Nat.le_of_ble_eq_true rfl⟩ (fun ad14 g14 hp14 => ?_)
            obtain ⟨f9, hb9x, hs9x, fr9, hA9⟩ := hp14
            exact hret _ _ _ _ _ _ (by omega) (by omega) d_A_direction_110 ⟨hisd, fun q => absurd (hba.mpr q) (by rw [hb76]; decide), s0, f9, hs0, hs8, hb9x, hs9x, fr9, hA9⟩
          · exact v_throwS (text := "another shelf has this direction") C hl hQ hlocks htab kl_A_62 in_IllegalArgumentException at_iae_in at_iae_ok at_iae_ot (by decide +kernel) (by decide +kernel) (by decide +kernel) d_A_direction_79.1 d_A_direction_82.1 d_A_direction_83.1 d_A_direction_85.1 d_A_direction_88 (Nat.le_of_ble_eq_true rfl) (Nat.le_of_ble_eq_true rfl) (Nat.le_of_ble_eq_true rfl) (Nat.le_of_ble_eq_true rfl) (Nat.le_of_ble_eq_true rfl) (Nat.le_of_ble_eq_true rfl) (Or.inr ⟨rfl, ⟨by omega, by omega⟩, Or.inr (hba.mp hb76)⟩)
        · refine v_iconst C d_A_direction_34 ?_
          refine v_goto C d_A_direction_35 ?_
          refine v_istore (lv' := [(4, .int (iI 1)), (0, .ref (ad 0)), (1, .int (iI z)), (2, .int (iI x)), (3, .int (iI y))]) C d_A_direction_39 (by decide) rfl ?_
          refine v_iload C d_A_direction_41 0 rfl ?_
          refine v_if_eqI C d_A_direction_43 (by omega) (by omega) (fun hz9 => absurd hz9 (by omega)) (fun _ => ?_)
          refine v_iload_n C d_A_direction_46 rfl 3 rfl ?_
          refine v_inegI C d_A_direction_47 ?_
          refine v_goto C d_A_direction_48 ?_
          refine v_istore (lv' := [(5, .int (iI (-x))), (4, .int (iI 1)), (0, .ref (ad 0)), (1, .int (iI z)), (2, .int (iI x)), (3, .int (iI y))]) C d_A_direction_52 (by decide) rfl ?_
          refine v_iload C d_A_direction_54 1 rfl ?_
          refine v_if_eqI C d_A_direction_56 (by omega) (by omega) (fun hz9 => absurd hz9 (by omega)) (fun _ => ?_)
          refine v_iload_n C d_A_direction_59 rfl 5 rfl ?_
          refine v_inegI C d_A_direction_60 ?_
          refine v_goto C d_A_direction_61 ?_
          refine v_istore (lv' := [(6, .int (iI (-y))), (5, .int (iI (-x))), (4, .int (iI 1)), (0, .ref (ad 0)), (1, .int (iI z)), (2, .int (iI x)), (3, .int (iI y))]) C d_A_direction_65 (by decide) rfl ?_
          have etP : tP x y = -x := if_pos (by omega)
          have etQ : tQ x y = -y := if_pos (by omega)
          refine v_lvE (lv' := [(6, .int (iI (tQ x y))), (5, .int (iI (tP x y))), (4, .int (iI 1)), (0, .ref (ad 0)), (1, .int (iI z)), (2, .int (iI x)), (3, .int (iI y))]) (by rw [etP, etQ]) ?_
          have hPb : -16 ≤ tP x y ∧ tP x y ≤ 16 ∧ 0 ≤ tQ x y ∧ tQ x y ≤ 16 := by rw [etP, etQ]; omega
          obtain ⟨hPb1, hPb2, hPb3, hPb4⟩ := hPb
          refine v_aload_n C d_A_direction_67 rfl 3 rfl ?_
          refine v_iload_n C d_A_direction_68 rfl 4 rfl ?_
          refine v_iload C d_A_direction_69 1 rfl ?_
          refine v_iload C d_A_direction_71 0 rfl ?_
          refine v_callVI (As := [.int (iI z), .int (iI (tP x y)), .int (iI (tQ x y))]) (st := []) (by omega) h0 rfl rfl C (c_anotherHas l w h hk hr sp wb z (tP x y) (tQ x y) (by omega) (by omega) h0 h2 T hT hsh) (lk_A_105 C.1.2.2.2.2 rfl rfl ⟨Nat.le_of_ble_eq_true rfl, Nat.le_of_ble_eq_true rfl⟩) rfl rfl (Nat.le_of_ble_eq_true rfl) d_A_direction_73 ⟨Nat.le_of_ble_eq_true rfl, Nat.le_of_ble_eq_true rfl⟩ (fun w15 ad15 g15 hp15 => ?_)
          obtain ⟨ba, rfl, hba, rfl, rfl⟩ := hp15
          refine v_if_eqB C d_A_direction_76 (fun hb76 => ?_) (fun hb76 => ?_)
          · refine v_aload_n C d_A_direction_89 rfl 3 rfl ?_
            refine gf_A_22 C (by omega) h0 rfl d_A_direction_90 ?_
            refine v_iload_n C d_A_direction_93 rfl 4 rfl ?_
            refine v_aald C 3 (by omega) h2 rfl s0 (hs0.symm) (hs8) (by omega) (rfl) d_A_direction_94 ?_
            refine v_iload C d_A_direction_95 1 rfl ?_
            refine v_iload C d_A_direction_97 0 rfl ?_
            refine v_aload_n C d_A_direction_99 rfl 3 rfl ?_
            refine gf_A_9 C (by omega) h0 rfl d_A_direction_100 ?_
            refine v_aload_n C d_A_direction_103 rfl 3 rfl ?_
            refine gf_A_13 C (by omega) h0 rfl d_A_direction_104 ?_
            have hq16 := hsh s0 (by omega)
            have hq17 := hbi s0 (by omega)
            refine v_callVV (As := [.int (iI (tP x y)), .int (iI (tQ x y)), .int (iI (w : Int)), .int (iI (h : Int))]) (st := []) (by omega) hq16 rfl rfl C (c_aim l (9 + 8 * s0) (nb s0) w h (bf s0) (T s0) (tP x y) (tQ x y) (by omega) (hnb s0 hs8) hw hh (by omega) (by omega) hq16 hq17) (lk_A_111 C.1.2.2.2.2 rfl rfl ⟨Nat.le_of_ble_eq_true rfl, Nat.le_of_ble_eq_true rfl⟩) rfl rfl (Nat.le_of_ble_eq_true rfl) d_A_direction_107 ⟨Nat.le_of_ble_eq_true rfl, Nat.le_of_ble_eq_true rfl⟩ (fun ad18 g18 hp18 => ?_)
            obtain ⟨f9, hb9x, hs9x, fr9, hA9⟩ := hp18
            exact hret _ _ _ _ _ _ (by omega) (by omega) d_A_direction_110 ⟨hisd, fun q => absurd (hba.mpr q) (by rw [hb76]; decide), s0, f9, hs0, hs8, hb9x, hs9x, fr9, hA9⟩
          · exact v_throwS (text := "another shelf has this direction") C hl hQ hlocks htab kl_A_62 in_IllegalArgumentException at_iae_in at_iae_ok at_iae_ot (by decide +kernel) (by decide +kernel) (by decide +kernel) d_A_direction_79.1 d_A_direction_82.1 d_A_direction_83.1 d_A_direction_85.1 d_A_direction_88 (Nat.le_of_ble_eq_true rfl) (Nat.le_of_ble_eq_true rfl) (Nat.le_of_ble_eq_true rfl) (Nat.le_of_ble_eq_true rfl) (Nat.le_of_ble_eq_true rfl) (Nat.le_of_ble_eq_true rfl) (Or.inr ⟨rfl, ⟨by omega, by omega⟩, Or.inr (hba.mp hb76)⟩)
  · exact v_throwS (text := "no direction") C hl hQ hlocks htab kl_A_62 in_IllegalArgumentException at_iae_in at_iae_ok at_iae_ot (by decide +kernel) (by decide +kernel) (by decide +kernel) d_A_direction_12.1 d_A_direction_15.1 d_A_direction_16.1 d_A_direction_18.1 d_A_direction_21 (Nat.le_of_ble_eq_true rfl) (Nat.le_of_ble_eq_true rfl) (Nat.le_of_ble_eq_true rfl) (Nat.le_of_ble_eq_true rfl) (Nat.le_of_ble_eq_true rfl) (Nat.le_of_ble_eq_true rfl) (Or.inr ⟨rfl, ⟨by omega, by omega⟩, Or.inl (fun q => absurd (hbd.mpr q) (by rw [hb9]; decide))⟩)
set_option maxHeartbeats 1000000 in
set_option maxRecDepth 100000 in
theorem c_shelf (l : Launch) (hl : l.stackTraces = false) {B : Nat} {D : va_G} {cI cZ cL cS cW : ClassId} {ad : Nat → Nat} {g : Nat → va_E} (w h : Nat) (hk hr : Bool) (sp wb : Int) (z y : Int) (z1 : -2147483648 ≤ z) (z2 : z < 2147483648) (y1 : -2147483648 ≤ y) (y2 : y < 2147483648) (h0 : g 0 = xE ad w h hk hr sp wb) (h2 : g 2 = rfA cS 8 (shs ad 9)) (T : Nat → ShT) (hT : bdT T) (hsh : ∀ j, j < 8 → g (9 + 8 * j) = shE (ad (9 + 8 * j + 1)) (T j)) : vx_Met l y_A_shelf (Cond.code y_A_shelf b_A_shelf 4 (some .int) :: wG) (rmF 7 110 3 18) (wPc B D classes (tyL cI cZ cL cS cW) (Zs B) 95 [.ref (ad 0), .int (iI z), .int (iI y)] ad g) (QI B D classes 95 (fun v ad1 g1 => (∃ s0 : Nat, (s0 : Int) = z ∧ s0 < 8 ∧ 0 ≤ y ∧ y ≤ 3 ∧ (T s0).1 = true ∧ ((y = 0 ∧ v = iI (T s0).2.2.1) ∨ (y = 1 ∧ v = iI (T s0).2.2.2.1) ∨ (y = 2 ∧ v = iI (T s0).2.2.2.2.2) ∨ (y = 3 ∧ v = bI (T s0).2.1))) ∧ ad = ad1 ∧ g = g1)) (QX B D classes 95 (fun E => (E = "java/lang/IndexOutOfBoundsException" ∧ ¬ (0 ≤ z ∧ z < 8 ∧ 0 ≤ y ∧ y ≤ 3)) ∨ (E = "java/lang/IllegalStateException" ∧ ∃ s0 : Nat, (s0 : Int) = z ∧ s0 < 8 ∧ 0 ≤ y ∧ y ≤ 3 ∧ (T s0).1 = false)) ad g) 3 18 (aB B) := by
  refine ofXI (own := R_A) (by decide) rfl (Nat.le_of_ble_eq_true rfl) ?_
  intro p e s m below meth c Q C hlocks htab hQ hret hout
  change kV _ _ _ _ _ _ _ _ _ _ _ _ _ _ _ _ _ _ _ _ _ [(0, .ref (ad 0)), (1, .int (iI z)), (2, .int (iI y))] _ _
  refine v_iload_n C d_A_shelf_0 rfl 1 rfl ?_
  refine v_xcallSV (As := [.int (iI z)]) (st := []) C (c_requireShelf l hl z z1 z2) (lk_A_95 C.1.2.2.2.2 rfl rfl ⟨Nat.le_of_ble_eq_true rfl, Nat.le_of_ble_eq_true rfl⟩) rfl rfl (Nat.le_of_ble_eq_true rfl) d_A_shelf_1 ⟨Nat.le_of_ble_eq_true rfl, Nat.le_of_ble_eq_true rfl⟩ (fun E hE => hout E _ _ _ _ _ (Or.inl ⟨hE.1, fun q => hE.2 ⟨q.1, q.2.1⟩⟩) (Nat.le_of_ble_eq_true rfl) (Nat.le_of_ble_eq_true rfl)) (fun ad1 g1 hp1 => ?_)
  obtain ⟨hz1, hz2, rfl, rfl⟩ := hp1
  obtain ⟨s0, hs0⟩ : ∃ s0 : Nat, (s0 : Int) = z := ⟨z.toNat, by omega⟩
  have hs8 : s0 < 8 := by omega
  refine v_iload_n C d_A_shelf_4 rfl 2 rfl ?_
  refine v_if_ltI C d_A_shelf_5 (by omega) (by omega) (fun hb5 => ?_) (fun hb5 => ?_)
  · exact v_throwS (text := "what is 0 to 3") C hl hQ hlocks htab kl_A_90 in_IndexOutOfBoundsException at_ioo_in at_ioo_ok at_ioo_ot (by decide +kernel) (by decide +kernel) (by decide +kernel) d_A_shelf_13.1 d_A_shelf_16.1 d_A_shelf_17.1 d_A_shelf_19.1 d_A_shelf_22 (Nat.le_of_ble_eq_true rfl) (Nat.le_of_ble_eq_true rfl) (Nat.le_of_ble_eq_true rfl) (Nat.le_of_ble_eq_true rfl) (Nat.le_of_ble_eq_true rfl) (Nat.le_of_ble_eq_true rfl) (Or.inl ⟨rfl, fun q => by omega⟩)
  · refine v_iload_n C d_A_shelf_8 rfl 2 rfl ?_
    refine v_iconst C d_A_shelf_9 ?_
    refine v_icmp_leI C d_A_shelf_10 (by omega) (by omega) (by omega) (by omega) (fun hb10 => ?_) (fun hb10 => ?_)
    · refine v_aload_n C d_A_shelf_23 rfl 0 rfl ?_
      refine gf_A_22 C (by omega) h0 rfl d_A_shelf_24 ?_
      refine v_iload_n C d_A_shelf_27 rfl 1 rfl ?_
      refine v_aald C 3 (by omega) h2 rfl s0 (hs0.symm) (hs8) (by omega) (rfl) d_A_shelf_28 ?_
      refine v_astore_n (lv' := [(3, .ref (ad (9 + 8 * s0))), (0, .ref (ad 0)), (1, .int (iI z)), (2, .int (iI y))]) C d_A_shelf_29 rfl (by decide) rfl ?_
      refine v_aload_n C d_A_shelf_30 rfl 0 rfl ?_
      have hq2 := hsh s0 (by omega)
      refine gf_A_117 C (by omega) hq2 rfl d_A_shelf_31 ?_
      refine v_xcallSV (As := [.int (bI ((T s0).1))]) (st := []) C (c_requireState l hl ((T s0).1)) (lk_A_86 C.1.2.2.2.2 rfl rfl ⟨Nat.le_of_ble_eq_true rfl, Nat.le_of_ble_eq_true rfl⟩) rfl rfl (Nat.le_of_ble_eq_true rfl) d_A_shelf_34 ⟨Nat.le_of_ble_eq_true rfl, Nat.le_of_ble_eq_true rfl⟩ (fun E hE => hout E _ _ _ _ _ (Or.inr ⟨hE.1, s0, hs0, hs8, by omega, by omega, hE.2⟩) (Nat.le_of_ble_eq_true rfl) (Nat.le_of_ble_eq_true rfl)) (fun ad3 g3 hp3 => ?_)
      obtain ⟨hst, rfl, rfl⟩ := hp3
      refine v_iload_n C d_A_shelf_37 rfl 3 rfl ?_
      by_cases hk38_0 : y = 0
      · refine v_tswIn (tgt := 64) C d_A_shelf_38 (by omega) (by omega) (by omega) (by omega) (by rw [hk38_0]; rfl) (by decide) ?_
        refine v_aload_n C d_A_shelf_64 rfl 0 rfl ?_
        refine gf_A_120 C (by omega) hq2 rfl d_A_shelf_65 ?_
        exact hret _ _ _ _ _ _ _ (by omega) (by omega) d_A_shelf_68 ⟨⟨s0, hs0, hs8, by omega, by omega, hst, Or.inl ⟨hk38_0, rfl⟩⟩, rfl, rfl⟩
      by_cases hk38_1 : y = 1
      · refine v_tswIn (tgt := 69) C d_A_shelf_38 (by omega) (by omega) (by omega) (by omega) (by rw [hk38_1]; rfl) (by decide) ?_
        refine v_aload_n C d_A_shelf_69 rfl 0 rfl ?_
        refine gf_A_123 C (by omega) hq2 rfl d_A_shelf_70 ?_
        exact hret _ _ _ _ _ _ _ (by omega) (by omega) d_A_shelf_73 ⟨⟨s0, hs0, hs8, by omega, by omega, hst, Or.inr (Or.inl ⟨hk38_1, rfl⟩)⟩, rfl, rfl⟩
      by_cases hk38_2 : y = 2
      · refine v_tswIn (tgt := 74) C d_A_shelf_38 (by omega) (by omega) (by omega) (by omega) (by rw [hk38_2]; rfl) (by decide) ?_
        refine v_aload_n C d_A_shelf_74 rfl 0 rfl ?_
        refine gf_A_126 C (by omega) hq2 rfl d_A_shelf_75 ?_
        exact hret _ _ _ _ _ _ _ (by omega) (by omega) d_A_shelf_78 ⟨⟨s0, hs0, hs8, by omega, by omega, hst, Or.inr (Or.inr (Or.inl ⟨hk38_2, rfl⟩))⟩, rfl, rfl⟩
      refine v_tswOut (tgt := 79) C d_A_shelf_38 (by omega) (by omega) (by omega) (by decide) ?_
      refine v_aload_n C d_A_shelf_79 rfl 0 rfl ?_
      refine gf_A_129 C (by omega) hq2 rfl d_A_shelf_80 ?_
      refine v_if_eqB C d_A_shelf_83 (fun hb83 => ?_) (fun hb83 => ?_)
      · refine v_iconst C d_A_shelf_90 ?_
        exact hret _ _ _ _ _ _ _ (by omega) (by omega) d_A_shelf_91 ⟨⟨s0, hs0, hs8, by omega, by omega, hst, Or.inr (Or.inr (Or.inr ⟨by omega, by rw [hb83]; rfl⟩))⟩, rfl, rfl⟩
      · refine v_iconst C d_A_shelf_86 ?_
        refine v_goto C d_A_shelf_87 ?_
        exact hret _ _ _ _ _ _ _ (by omega) (by omega) d_A_shelf_91 ⟨⟨s0, hs0, hs8, by omega, by omega, hst, Or.inr (Or.inr (Or.inr ⟨by omega, by rw [hb83]; rfl⟩))⟩, rfl, rfl⟩
    · exact v_throwS (text := "what is 0 to 3") C hl hQ hlocks htab kl_A_90 in_IndexOutOfBoundsException at_ioo_in at_ioo_ok at_ioo_ot (by decide +kernel) (by decide +kernel) (by decide +kernel) d_A_shelf_13.1 d_A_shelf_16.1 d_A_shelf_17.1 d_A_shelf_19.1 d_A_shelf_22 (Nat.le_of_ble_eq_true rfl) (Nat.le_of_ble_eq_true rfl) (Nat.le_of_ble_eq_true rfl) (Nat.le_of_ble_eq_true rfl) (Nat.le_of_ble_eq_true rfl) (Nat.le_of_ble_eq_true rfl) (Or.inl ⟨rfl, fun q => by omega⟩)
set_option maxHeartbeats 1000000 in
set_option maxRecDepth 100000 in
theorem c_project (l : Launch) (hl : l.stackTraces = false) {B : Nat} {D : va_G} {cI cZ cL cS cW : ClassId} {ad : Nat → Nat} {g : Nat → va_E} (w h : Nat) (hk hr : Bool) (sp wb : Int) (z : Int) (f : Nat → Int32) (bn : Nat → Nat → Nat → Nat) (z1 : -2147483648 ≤ z) (z2 : z < 2147483648) (hw : 1 ≤ w ∧ w ≤ 16) (hh : 1 ≤ h ∧ h ≤ 16) (h0 : g 0 = xE ad w h hk hr sp wb) (hpic : g 1 = inA cI 256 f) (h2 : g 2 = rfA cS 8 (shs ad 9)) (T : Nat → ShT) (hT : bdT T) (hsh : ∀ j, j < 8 → g (9 + 8 * j) = shE (ad (9 + 8 * j + 1)) (T j)) (nb : Nat → Nat) (bf : Nat → Nat → Int32) (hnb : ∀ j, j < 8 → nb j = 0 ∨ nb j = 481) (hbi : ∀ j, j < 8 → g (9 + 8 * j + 1) = inA cI (nb j) (bf j)) (haim : ∀ j, j < 8 → (T j).1 = true → nb j = 481 ∧ ∀ x y : Nat, x < w → y < h → (T j).2.2.1 * (y : Int) - (T j).2.2.2.1 * (x : Int) - (T j).2.2.2.2.1 = (bn j x y : Int) ∧ bn j x y < 481) : vx_Met l y_A_project (Cond.code y_A_project b_A_project 2 none :: wG) (rmF 7 110 2 12) (wPc B D classes (tyL cI cZ cL cS cW) (Zs B) 95 [.ref (ad 0), .int (iI z)] ad g) (QV B D classes 95 (fun ad1 g1 => ∃ s0 : Nat, (s0 : Int) = z ∧ s0 < 8 ∧ (T s0).1 = true ∧ ad = ad1 ∧ g1 (9 + 8 * s0 + 1) = inA cI 481 (accY (bn s0) f w h (fun _ => 0)) ∧ g1 (9 + 8 * s0) = shE (ad (9 + 8 * s0 + 1)) ((T s0).1, true, (T s0).2.2) ∧ ∀ r1, r1 ≠ 9 + 8 * s0 + 1 → r1 ≠ 9 + 8 * s0 → g1 r1 = g r1)) (QX B D classes 95 (fun E => (E = "java/lang/IndexOutOfBoundsException" ∧ ¬ (0 ≤ z ∧ z < 8)) ∨ (E = "java/lang/IllegalStateException" ∧ ∃ s0 : Nat, (s0 : Int) = z ∧ s0 < 8 ∧ (T s0).1 = false)) ad g) 2 12 (aB B) := by
  refine ofXV (own := R_A) (by decide) rfl (Nat.le_of_ble_eq_true rfl) ?_
  intro p e s m below meth c Q C hlocks htab hQ hret hout
  change kV _ _ _ _ _ _ _ _ _ _ _ _ _ _ _ _ _ _ _ _ _ [(0, .ref (ad 0)), (1, .int (iI z))] _ _
  refine v_iload_n C d_A_project_0 rfl 1 rfl ?_
  refine v_xcallSV (As := [.int (iI z)]) (st := []) C (c_requireShelf l hl z z1 z2) (lk_A_95 C.1.2.2.2.2 rfl rfl ⟨Nat.le_of_ble_eq_true rfl, Nat.le_of_ble_eq_true rfl⟩) rfl rfl (Nat.le_of_ble_eq_true rfl) d_A_project_1 ⟨Nat.le_of_ble_eq_true rfl, Nat.le_of_ble_eq_true rfl⟩ (fun E hE => hout E _ _ _ _ _ (Or.inl hE) (Nat.le_of_ble_eq_true rfl) (Nat.le_of_ble_eq_true rfl)) (fun ad1 g1 hp1 => ?_)
  obtain ⟨hz1, hz2, rfl, rfl⟩ := hp1
  obtain ⟨s0, hs0⟩ : ∃ s0 : Nat, (s0 : Int) = z := ⟨z.toNat, by omega⟩
  have hs8 : s0 < 8 := by omega
  refine v_aload_n C d_A_project_4 rfl 0 rfl ?_
  refine gf_A_22 C (by omega) h0 rfl d_A_project_5 ?_
  refine v_iload_n C d_A_project_8 rfl 1 rfl ?_
  refine v_aald C 3 (by omega) h2 rfl s0 (hs0.symm) (hs8) (by omega) (rfl) d_A_project_9 ?_
  have hq2 := hsh s0 (by omega)
  refine gf_A_117 C (by omega) hq2 rfl d_A_project_10 ?_
  refine v_xcallSV (As := [.int (bI ((T s0).1))]) (st := []) C (c_requireState l hl ((T s0).1)) (lk_A_86 C.1.2.2.2.2 rfl rfl ⟨Nat.le_of_ble_eq_true rfl, Nat.le_of_ble_eq_true rfl⟩) rfl rfl (Nat.le_of_ble_eq_true rfl) d_A_project_13 ⟨Nat.le_of_ble_eq_true rfl, Nat.le_of_ble_eq_true rfl⟩ (fun E hE => hout E _ _ _ _ _ (Or.inr ⟨hE.1, s0, hs0, hs8, hE.2⟩) (Nat.le_of_ble_eq_true rfl) (Nat.le_of_ble_eq_true rfl)) (fun ad3 g3 hp3 => ?_)
  obtain ⟨hst, rfl, rfl⟩ := hp3
  refine v_aload_n C d_A_project_16 rfl 0 rfl ?_
  refine gf_A_22 C (by omega) h0 rfl d_A_project_17 ?_
  refine v_iload_n C d_A_project_20 rfl 1 rfl ?_
  refine v_aald C 3 (by omega) h2 rfl s0 (hs0.symm) (hs8) (by omega) (rfl) d_A_project_21 ?_
  refine v_aload_n C d_A_project_22 rfl 0 rfl ?_
  refine gf_A_16 C (by omega) h0 rfl d_A_project_23 ?_
  refine v_aload_n C d_A_project_26 rfl 0 rfl ?_
  refine gf_A_9 C (by omega) h0 rfl d_A_project_27 ?_
  refine v_aload_n C d_A_project_30 rfl 0 rfl ?_
  refine gf_A_13 C (by omega) h0 rfl d_A_project_31 ?_
  have hq4 := hbi s0 (by omega)
  obtain ⟨hn4, hbn⟩ := haim s0 hs8 hst
  rw [hn4] at hq4
  refine v_callVV (As := [.ref (ad 1), .int (iI (w : Int)), .int (iI (h : Int))]) (st := []) (by omega) hq2 rfl rfl C (c_fillFrom l (9 + 8 * s0) 1 w h (T s0) f (bf s0) (bn s0) (by omega) (by omega) (by omega) (by omega) hw.2 hh.2 hbn hq2 hq4 hpic) (lk_A_132 C.1.2.2.2.2 rfl rfl ⟨Nat.le_of_ble_eq_true rfl, Nat.le_of_ble_eq_true rfl⟩) rfl rfl (Nat.le_of_ble_eq_true rfl) d_A_project_34 ⟨Nat.le_of_ble_eq_true rfl, Nat.le_of_ble_eq_true rfl⟩ (fun ad5 g5 hp5 => ?_)
  obtain ⟨rfl, hb9x, hs9x, fr9⟩ := hp5
  exact hret _ _ _ _ _ _ (by omega) (by omega) d_A_project_37 ⟨s0, hs0, hs8, hst, rfl, hb9x, hs9x, fr9⟩
set_option maxHeartbeats 1000000 in
set_option maxRecDepth 100000 in
theorem c_requireBin (l : Launch) (hl : l.stackTraces = false) {B : Nat} {D : va_G} {cI cZ cL cS cW : ClassId} {ad : Nat → Nat} {g : Nat → va_E} (w h : Nat) (hk hr : Bool) (sp wb : Int) (z y : Int) (z1 : -2147483648 ≤ z) (z2 : z < 2147483648) (y1 : -2147483648 ≤ y) (y2 : y < 2147483648) (h0 : g 0 = xE ad w h hk hr sp wb) (h2 : g 2 = rfA cS 8 (shs ad 9)) (T : Nat → ShT) (hT : bdT T) (hsh : ∀ j, j < 8 → g (9 + 8 * j) = shE (ad (9 + 8 * j + 1)) (T j)) (hcb : ∀ j, j < 8 → (T j).2.1 = true → 0 ≤ (T j).2.2.2.2.2 ∧ (T j).2.2.2.2.2 ≤ 481) : vx_Met l y_A_requireBin (Cond.code y_A_requireBin b_A_requireBin 3 none :: wG) (rmF 7 110 3 18) (wPc B D classes (tyL cI cZ cL cS cW) (Zs B) 95 [.ref (ad 0), .int (iI z), .int (iI y)] ad g) (QV B D classes 95 (fun ad1 g1 => (∃ s0 : Nat, (s0 : Int) = z ∧ s0 < 8 ∧ (T s0).2.1 = true ∧ 0 ≤ y ∧ y < (T s0).2.2.2.2.2) ∧ ad = ad1 ∧ g = g1)) (QX B D classes 95 (fun E => (E = "java/lang/IndexOutOfBoundsException" ∧ (¬ (0 ≤ z ∧ z < 8) ∨ ∃ s0 : Nat, (s0 : Int) = z ∧ s0 < 8 ∧ (T s0).2.1 = true ∧ ¬ (0 ≤ y ∧ y < (T s0).2.2.2.2.2))) ∨ (E = "java/lang/IllegalStateException" ∧ ∃ s0 : Nat, (s0 : Int) = z ∧ s0 < 8 ∧ (T s0).2.1 = false)) ad g) 3 18 (aB B) := by
  refine ofXV (own := R_A) (by decide) rfl (Nat.le_of_ble_eq_true rfl) ?_
  intro p e s m below meth c Q C hlocks htab hQ hret hout
  change kV _ _ _ _ _ _ _ _ _ _ _ _ _ _ _ _ _ _ _ _ _ [(0, .ref (ad 0)), (1, .int (iI z)), (2, .int (iI y))] _ _
  refine v_iload_n C d_A_requireBin_0 rfl 1 rfl ?_
  refine v_xcallSV (As := [.int (iI z)]) (st := []) C (c_requireShelf l hl z z1 z2) (lk_A_95 C.1.2.2.2.2 rfl rfl ⟨Nat.le_of_ble_eq_true rfl, Nat.le_of_ble_eq_true rfl⟩) rfl rfl (Nat.le_of_ble_eq_true rfl) d_A_requireBin_1 ⟨Nat.le_of_ble_eq_true rfl, Nat.le_of_ble_eq_true rfl⟩ (fun E hE => hout E _ _ _ _ _ (Or.inl ⟨hE.1, Or.inl hE.2⟩) (Nat.le_of_ble_eq_true rfl) (Nat.le_of_ble_eq_true rfl)) (fun ad1 g1 hp1 => ?_)
  obtain ⟨hz1, hz2, rfl, rfl⟩ := hp1
  obtain ⟨s0, hs0⟩ : ∃ s0 : Nat, (s0 : Int) = z := ⟨z.toNat, by omega⟩
  have hs8 : s0 < 8 := by omega
  refine v_aload_n C d_A_requireBin_4 rfl 0 rfl ?_
  refine gf_A_22 C (by omega) h0 rfl d_A_requireBin_5 ?_
  refine v_iload_n C d_A_requireBin_8 rfl 1 rfl ?_
  refine v_aald C 3 (by omega) h2 rfl s0 (hs0.symm) (hs8) (by omega) (rfl) d_A_requireBin_9 ?_
  have hq2 := hsh s0 (by omega)
  refine gf_A_129 C (by omega) hq2 rfl d_A_requireBin_10 ?_
  refine v_xcallSV (As := [.int (bI ((T s0).2.1))]) (st := []) C (c_requireState l hl ((T s0).2.1)) (lk_A_86 C.1.2.2.2.2 rfl rfl ⟨Nat.le_of_ble_eq_true rfl, Nat.le_of_ble_eq_true rfl⟩) rfl rfl (Nat.le_of_ble_eq_true rfl) d_A_requireBin_13 ⟨Nat.le_of_ble_eq_true rfl, Nat.le_of_ble_eq_true rfl⟩ (fun E hE => hout E _ _ _ _ _ (Or.inr ⟨hE.1, s0, hs0, hs8, hE.2⟩) (Nat.le_of_ble_eq_true rfl) (Nat.le_of_ble_eq_true rfl)) (fun ad3 g3 hp3 => ?_)
  obtain ⟨hst, rfl, rfl⟩ := hp3
  have hcb0 := hcb s0 hs8 hst
  refine v_iload_n C d_A_requireBin_16 rfl 2 rfl ?_
  refine v_if_ltI C d_A_requireBin_17 (by omega) (by omega) (fun hb17 => ?_) (fun hb17 => ?_)
  · exact v_throwS (text := "no such bin") C hl hQ hlocks htab kl_A_90 in_IndexOutOfBoundsException at_ioo_in at_ioo_ok at_ioo_ot (by decide +kernel) (by decide +kernel) (by decide +kernel) d_A_requireBin_33.1 d_A_requireBin_36.1 d_A_requireBin_37.1 d_A_requireBin_39.1 d_A_requireBin_42 (Nat.le_of_ble_eq_true rfl) (Nat.le_of_ble_eq_true rfl) (Nat.le_of_ble_eq_true rfl) (Nat.le_of_ble_eq_true rfl) (Nat.le_of_ble_eq_true rfl) (Nat.le_of_ble_eq_true rfl) (Or.inl ⟨rfl, Or.inr ⟨s0, hs0, hs8, hst, by omega⟩⟩)
  · refine v_iload_n C d_A_requireBin_20 rfl 2 rfl ?_
    refine v_aload_n C d_A_requireBin_21 rfl 0 rfl ?_
    refine gf_A_22 C (by omega) h0 rfl d_A_requireBin_22 ?_
    refine v_iload_n C d_A_requireBin_25 rfl 1 rfl ?_
    refine v_aald C 3 (by omega) h2 rfl s0 (hs0.symm) (hs8) (by omega) (rfl) d_A_requireBin_26 ?_
    refine gf_A_126 C (by omega) hq2 rfl d_A_requireBin_27 ?_
    refine v_icmp_ltI C d_A_requireBin_30 (by omega) (by omega) (by omega) (by omega) (fun hb30 => ?_) (fun hb30 => ?_)
    · exact hret _ _ _ _ _ _ (by omega) (by omega) d_A_requireBin_43 ⟨⟨s0, hs0, hs8, hst, by omega, by omega⟩, rfl, rfl⟩
    · exact v_throwS (text := "no such bin") C hl hQ hlocks htab kl_A_90 in_IndexOutOfBoundsException at_ioo_in at_ioo_ok at_ioo_ot (by decide +kernel) (by decide +kernel) (by decide +kernel) d_A_requireBin_33.1 d_A_requireBin_36.1 d_A_requireBin_37.1 d_A_requireBin_39.1 d_A_requireBin_42 (Nat.le_of_ble_eq_true rfl) (Nat.le_of_ble_eq_true rfl) (Nat.le_of_ble_eq_true rfl) (Nat.le_of_ble_eq_true rfl) (Nat.le_of_ble_eq_true rfl) (Nat.le_of_ble_eq_true rfl) (Or.inl ⟨rfl, Or.inr ⟨s0, hs0, hs8, hst, by omega⟩⟩)
set_option maxHeartbeats 1000000 in
set_option maxRecDepth 100000 in
theorem c_bin (l : Launch) (hl : l.stackTraces = false) {B : Nat} {D : va_G} {cI cZ cL cS cW : ClassId} {ad : Nat → Nat} {g : Nat → va_E} (w h : Nat) (hk hr : Bool) (sp wb : Int) (z y : Int) (z1 : -2147483648 ≤ z) (z2 : z < 2147483648) (y1 : -2147483648 ≤ y) (y2 : y < 2147483648) (h0 : g 0 = xE ad w h hk hr sp wb) (h2 : g 2 = rfA cS 8 (shs ad 9)) (T : Nat → ShT) (hT : bdT T) (hsh : ∀ j, j < 8 → g (9 + 8 * j) = shE (ad (9 + 8 * j + 1)) (T j)) (nb : Nat → Nat) (bf : Nat → Nat → Int32) (hnb : ∀ j, j < 8 → nb j = 0 ∨ nb j = 481) (hbi : ∀ j, j < 8 → g (9 + 8 * j + 1) = inA cI (nb j) (bf j)) (hcb : ∀ j, j < 8 → (T j).2.1 = true → 0 ≤ (T j).2.2.2.2.2 ∧ (T j).2.2.2.2.2 ≤ 481) (hn4 : ∀ j, j < 8 → (T j).2.1 = true → nb j = 481) : vx_Met l y_A_bin (Cond.code y_A_bin b_A_bin 3 (some .int) :: wG) (rmF 8 140 3 18) (wPc B D classes (tyL cI cZ cL cS cW) (Zs B) 95 [.ref (ad 0), .int (iI z), .int (iI y)] ad g) (QI B D classes 95 (fun v ad1 g1 => (∃ s0 : Nat, (s0 : Int) = z ∧ s0 < 8 ∧ (T s0).2.1 = true ∧ ∃ k0 : Nat, (k0 : Int) = y ∧ y < (T s0).2.2.2.2.2 ∧ v = bf s0 k0) ∧ ad = ad1 ∧ g = g1)) (QX B D classes 95 (fun E => (E = "java/lang/IndexOutOfBoundsException" ∧ (¬ (0 ≤ z ∧ z < 8) ∨ ∃ s0 : Nat, (s0 : Int) = z ∧ s0 < 8 ∧ (T s0).2.1 = true ∧ ¬ (0 ≤ y ∧ y < (T s0).2.2.2.2.2))) ∨ (E = "java/lang/IllegalStateException" ∧ ∃ s0 : Nat, (s0 : Int) = z ∧ s0 < 8 ∧ (T s0).2.1 = false)) ad g) 3 18 (aB B) := by
  refine ofXI (own := R_A) (by decide) rfl (Nat.le_of_ble_eq_true rfl) ?_
  intro p e s m below meth c Q C hlocks htab hQ hret hout
  change kV _ _ _ _ _ _ _ _ _ _ _ _ _ _ _ _ _ _ _ _ _ [(0, .ref (ad 0)), (1, .int (iI z)), (2, .int (iI y))] _ _
  refine v_aload_n C d_A_bin_0 rfl 0 rfl ?_
  refine v_iload_n C d_A_bin_1 rfl 1 rfl ?_
  refine v_iload_n C d_A_bin_2 rfl 2 rfl ?_
  refine v_xcallVV (As := [.int (iI z), .int (iI y)]) (st := []) (by omega) h0 rfl rfl C (c_requireBin l hl w h hk hr sp wb z y z1 z2 y1 y2 h0 h2 T hT hsh hcb) (lk_A_136 C.1.2.2.2.2 rfl rfl ⟨Nat.le_of_ble_eq_true rfl, Nat.le_of_ble_eq_true rfl⟩) rfl rfl (Nat.le_of_ble_eq_true rfl) d_A_bin_3 ⟨Nat.le_of_ble_eq_true rfl, Nat.le_of_ble_eq_true rfl⟩ (fun E hE => hout E _ _ _ _ _ (hE) (Nat.le_of_ble_eq_true rfl) (Nat.le_of_ble_eq_true rfl)) (fun ad1 g1 hp1 => ?_)
  obtain ⟨⟨s0, hs0, hs8, hst, hy1, hy2⟩, rfl, rfl⟩ := hp1
  have hcb0 := hcb s0 hs8 hst
  obtain ⟨k0, hk0⟩ : ∃ k0 : Nat, (k0 : Int) = y := ⟨y.toNat, by omega⟩
  have hk1 : k0 < nb s0 := by rw [hn4 s0 hs8 hst]; omega
  refine v_aload_n C d_A_bin_6 rfl 0 rfl ?_
  refine gf_A_22 C (by omega) h0 rfl d_A_bin_7 ?_
  refine v_iload_n C d_A_bin_10 rfl 1 rfl ?_
  refine v_aald C 3 (by omega) h2 rfl s0 (hs0.symm) (hs8) (by omega) (rfl) d_A_bin_11 ?_
  have hnb9 := hnb s0 hs8
  have hq2 := hsh s0 (by omega)
  refine gf_A_139 C (by omega) hq2 rfl d_A_bin_12 ?_
  refine v_iload_n C d_A_bin_15 rfl 2 rfl ?_
  have hq3 := hbi s0 (by omega)
  refine v_iald C 0 (by omega) hq3 rfl k0 (hk0.symm) (hk1) (by omega) d_A_bin_16 ?_
  exact hret _ _ _ _ _ _ _ (by omega) (by omega) d_A_bin_17 ⟨⟨s0, hs0, hs8, hst, k0, hk0, hy2, rfl⟩, rfl, rfl⟩
set_option maxHeartbeats 1000000 in
set_option maxRecDepth 100000 in
theorem c_put (l : Launch) (hl : l.stackTraces = false) {B : Nat} {D : va_G} {cI cZ cL cS cW : ClassId} {ad : Nat → Nat} {g : Nat → va_E} (w h : Nat) (hk hr : Bool) (sp wb : Int) (z y : Int) (pv : Int32) (z1 : -2147483648 ≤ z) (z2 : z < 2147483648) (y1 : -2147483648 ≤ y) (y2 : y < 2147483648) (h0 : g 0 = xE ad w h hk hr sp wb) (h2 : g 2 = rfA cS 8 (shs ad 9)) (T : Nat → ShT) (hT : bdT T) (hsh : ∀ j, j < 8 → g (9 + 8 * j) = shE (ad (9 + 8 * j + 1)) (T j)) (nb : Nat → Nat) (bf : Nat → Nat → Int32) (hnb : ∀ j, j < 8 → nb j = 0 ∨ nb j = 481) (hbi : ∀ j, j < 8 → g (9 + 8 * j + 1) = inA cI (nb j) (bf j)) (hcb : ∀ j, j < 8 → (T j).2.1 = true → 0 ≤ (T j).2.2.2.2.2 ∧ (T j).2.2.2.2.2 ≤ 481) (hn4 : ∀ j, j < 8 → (T j).2.1 = true → nb j = 481) : vx_Met l y_A_put (Cond.code y_A_put b_A_put 6 (some .int) :: wG) (rmF 8 140 3 18) (wPc B D classes (tyL cI cZ cL cS cW) (Zs B) 95 [.ref (ad 0), .int (iI z), .int (iI y), .int pv] ad g) (QI B D classes 95 (fun v ad1 g1 => ∃ s0 : Nat, (s0 : Int) = z ∧ s0 < 8 ∧ (T s0).2.1 = true ∧ ∃ k0 : Nat, (k0 : Int) = y ∧ y < (T s0).2.2.2.2.2 ∧ v = bf s0 k0 ∧ ad = ad1 ∧ g1 (9 + 8 * s0 + 1) = inA cI 481 (upd (bf s0) k0 pv) ∧ ∀ r1, r1 ≠ 9 + 8 * s0 + 1 → g1 r1 = g r1)) (QX B D classes 95 (fun E => (E = "java/lang/IndexOutOfBoundsException" ∧ (¬ (0 ≤ z ∧ z < 8) ∨ ∃ s0 : Nat, (s0 : Int) = z ∧ s0 < 8 ∧ (T s0).2.1 = true ∧ ¬ (0 ≤ y ∧ y < (T s0).2.2.2.2.2))) ∨ (E = "java/lang/IllegalStateException" ∧ ∃ s0 : Nat, (s0 : Int) = z ∧ s0 < 8 ∧ (T s0).2.1 = false)) ad g) 3 18 (aB B) := by
  refine ofXI (own := R_A) (by decide) rfl (Nat.le_of_ble_eq_true rfl) ?_
  intro p e s m below meth c Q C hlocks htab hQ hret hout
  change kV _ _ _ _ _ _ _ _ _ _ _ _ _ _ _ _ _ _ _ _ _ [(0, .ref (ad 0)), (1, .int (iI z)), (2, .int (iI y)), (3, .int pv)] _ _
  refine v_aload_n C d_A_put_0 rfl 0 rfl ?_
  refine v_iload_n C d_A_put_1 rfl 1 rfl ?_
  refine v_iload_n C d_A_put_2 rfl 2 rfl ?_
  refine v_xcallVV (As := [.int (iI z), .int (iI y)]) (st := []) (by omega) h0 rfl rfl C (c_requireBin l hl w h hk hr sp wb z y z1 z2 y1 y2 h0 h2 T hT hsh hcb) (lk_A_136 C.1.2.2.2.2 rfl rfl ⟨Nat.le_of_ble_eq_true rfl, Nat.le_of_ble_eq_true rfl⟩) rfl rfl (Nat.le_of_ble_eq_true rfl) d_A_put_3 ⟨Nat.le_of_ble_eq_true rfl, Nat.le_of_ble_eq_true rfl⟩ (fun E hE => hout E _ _ _ _ _ (hE) (Nat.le_of_ble_eq_true rfl) (Nat.le_of_ble_eq_true rfl)) (fun ad1 g1 hp1 => ?_)
  obtain ⟨⟨s0, hs0, hs8, hst, hy1, hy2⟩, rfl, rfl⟩ := hp1
  have hcb0 := hcb s0 hs8 hst
  obtain ⟨k0, hk0⟩ : ∃ k0 : Nat, (k0 : Int) = y := ⟨y.toNat, by omega⟩
  have hk1 : k0 < nb s0 := by rw [hn4 s0 hs8 hst]; omega
  refine v_aload_n C d_A_put_6 rfl 0 rfl ?_
  refine gf_A_22 C (by omega) h0 rfl d_A_put_7 ?_
  refine v_iload_n C d_A_put_10 rfl 1 rfl ?_
  refine v_aald C 3 (by omega) h2 rfl s0 (hs0.symm) (hs8) (by omega) (rfl) d_A_put_11 ?_
  have hnb9 := hnb s0 hs8
  have hq2 := hsh s0 (by omega)
  refine gf_A_139 C (by omega) hq2 rfl d_A_put_12 ?_
  refine v_astore (lv' := [(4, .ref (ad (9 + 8 * s0 + 1))), (0, .ref (ad 0)), (1, .int (iI z)), (2, .int (iI y)), (3, .int pv)]) C d_A_put_15 (by decide) rfl ?_
  refine v_aload C d_A_put_17 0 rfl ?_
  refine v_iload_n C d_A_put_19 rfl 3 rfl ?_
  have hq3 := hbi s0 (by omega)
  refine v_iald C 0 (by omega) hq3 rfl k0 (hk0.symm) (hk1) (by omega) d_A_put_20 ?_
  refine v_istore (lv' := [(5, .int ((bf s0) k0)), (4, .ref (ad (9 + 8 * s0 + 1))), (0, .ref (ad 0)), (1, .int (iI z)), (2, .int (iI y)), (3, .int pv)]) C d_A_put_21 (by decide) rfl ?_
  refine v_aload C d_A_put_23 1 rfl ?_
  refine v_iload_n C d_A_put_25 rfl 4 rfl ?_
  refine v_iload_n C d_A_put_26 rfl 5 rfl ?_
  refine v_iast C 0 (by omega) hq3 rfl k0 (hk0.symm) (hk1) (by omega) d_A_put_27 (fun g4 hq3 fr5 => ?_)
  have h0 := (fr5 0 (by omega)).trans h0
  have h2 := (fr5 2 (by omega)).trans h2
  have hq2 := (fr5 (9 + 8 * s0) (by omega)).trans hq2
  have hsh := fun j9 (hj9 : j9 < 8) => (fr5 (9 + 8 * j9) (by omega)).trans (hsh j9 hj9)
  refine v_iload C d_A_put_28 0 rfl ?_
  exact hret _ _ _ _ _ _ _ (by omega) (by omega) d_A_put_30 ⟨s0, hs0, hs8, hst, k0, hk0, hy2, rfl, rfl, hq3.trans (by rw [hn4 s0 hs8 hst]), (fun r1 n0 => (fr5 r1 n0))⟩
set_option maxHeartbeats 1000000 in
set_option maxRecDepth 100000 in
theorem c_enough (l : Launch) (hl : l.stackTraces = false) {B : Nat} {D : va_G} {cI cZ cL cS cW : ClassId} {ad : Nat → Nat} {g : Nat → va_E} (w h : Nat) (hk hr : Bool) (sp wb : Int) (z : Int) (z1 : -2147483648 ≤ z) (z2 : z < 2147483648) (hw : 1 ≤ w ∧ w ≤ 16) (hh : 1 ≤ h ∧ h ≤ 16) (h0 : g 0 = xE ad w h hk hr sp wb) (h2 : g 2 = rfA cS 8 (shs ad 9)) (T : Nat → ShT) (hT : bdT T) (hsh : ∀ j, j < 8 → g (9 + 8 * j) = shE (ad (9 + 8 * j + 1)) (T j)) : vx_Met l y_A_enough (Cond.code y_A_enough b_A_enough 2 (some .boolean) :: wG) (rmF 7 110 1 6) (wPc B D classes (tyL cI cZ cL cS cW) (Zs B) 95 [.ref (ad 0), .int (iI z)] ad g) (QI B D classes 95 (fun v9 ad1 g1 => ∃ v, v9 = bI v ∧ ((0 ≤ z ∧ z < 256 ∧ v = decide ((w : Int) ≤ sI 8 (fun j => if Nat.testBit (mkM (fun j => Nat.testBit z.toNat j && (T j).1) 8) j = true then aI (T j).2.2.1 else 0) ∨ (h : Int) ≤ sI 8 (fun j => if Nat.testBit (mkM (fun j => Nat.testBit z.toNat j && (T j).1) 8) j = true then (T j).2.2.2.1 else 0))) ∧ ad = ad1 ∧ g = g1))) (QX B D classes 95 (fun E => E = "java/lang/IllegalArgumentException" ∧ ¬ (0 ≤ z ∧ z < 256)) ad g) 1 6 (aB B) := by
  refine ofXZ (own := R_A) (by decide) rfl (Nat.le_of_ble_eq_true rfl) ?_
  intro p e s m below meth c Q C hlocks htab hQ hret hout
  change kV _ _ _ _ _ _ _ _ _ _ _ _ _ _ _ _ _ _ _ _ _ [(0, .ref (ad 0)), (1, .int (iI z))] _ _
  refine v_iload_n C d_A_enough_0 rfl 1 rfl ?_
  refine v_xcallSV (As := [.int (iI z)]) (st := []) C (c_requireMask l hl z z1 z2) (lk_A_142 C.1.2.2.2.2 rfl rfl ⟨Nat.le_of_ble_eq_true rfl, Nat.le_of_ble_eq_true rfl⟩) rfl rfl (Nat.le_of_ble_eq_true rfl) d_A_enough_1 ⟨Nat.le_of_ble_eq_true rfl, Nat.le_of_ble_eq_true rfl⟩ (fun E hE => hout E _ _ _ _ _ (hE) (Nat.le_of_ble_eq_true rfl) (Nat.le_of_ble_eq_true rfl)) (fun ad1 g1 hp1 => ?_)
  obtain ⟨hz1, hz2, rfl, rfl⟩ := hp1
  have hM0 : ((z.toNat : Nat) : Int) = z := by omega
  refine v_lvE (lv' := [(0, .ref (ad 0)), (1, .int (iI (z.toNat : Int)))]) (by rw [hM0]) ?_
  refine v_aload_n C d_A_enough_4 rfl 0 rfl ?_
  refine v_aload_n C d_A_enough_5 rfl 0 rfl ?_
  refine v_iload_n C d_A_enough_6 rfl 1 rfl ?_
  refine v_callVI (As := [.int (iI (z.toNat : Int))]) (st := [.ref (ad 0)]) (by omega) h0 rfl rfl C (c_aimedOf l w h hk hr sp wb z.toNat (by omega) h0 h2 T hT hsh) (lk_A_145 C.1.2.2.2.2 rfl rfl ⟨Nat.le_of_ble_eq_true rfl, Nat.le_of_ble_eq_true rfl⟩) rfl rfl (Nat.le_of_ble_eq_true rfl) d_A_enough_7 ⟨Nat.le_of_ble_eq_true rfl, Nat.le_of_ble_eq_true rfl⟩ (fun w2 ad2 g2 hp2 => ?_)
  obtain ⟨rfl, rfl, rfl⟩ := hp2
  refine v_callVI (As := [.int (iI ((mkM (fun j => Nat.testBit z.toNat j && (T j).1) 8 : Nat) : Int))]) (st := []) (by omega) h0 rfl rfl C (c_areEnough l w h hk hr sp wb (mkM (fun j => Nat.testBit z.toNat j && (T j).1) 8) (mkM_lt _ 8) hw hh h0 h2 T hT hsh) (lk_A_149 C.1.2.2.2.2 rfl rfl ⟨Nat.le_of_ble_eq_true rfl, Nat.le_of_ble_eq_true rfl⟩) rfl rfl (Nat.le_of_ble_eq_true rfl) d_A_enough_10 ⟨Nat.le_of_ble_eq_true rfl, Nat.le_of_ble_eq_true rfl⟩ (fun w3 ad3 g3 hp3 => ?_)
  obtain ⟨be, rfl, hbe, rfl, rfl⟩ := hp3
  exact hret _ _ _ _ _ _ _ (by omega) (by omega) d_A_enough_13 ⟨⟨by omega, by omega, hbe⟩, rfl, rfl⟩
