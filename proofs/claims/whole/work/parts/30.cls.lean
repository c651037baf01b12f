set_option maxHeartbeats 1000000 in
set_option maxRecDepth 100000 in
theorem c_requirePixel (l : Launch) (hl : l.stackTraces = false) {B : Nat} {D : va_G} {cI cZ cL cS cW : ClassId} {ad : Nat → Nat} {g : Nat → va_E} (w h : Nat) (hk hr : Bool) (sp wb : Int) (x y : Int) (x1 : -2147483648 ≤ x) (x2 : x < 2147483648) (y1 : -2147483648 ≤ y) (y2 : y < 2147483648) (hw : 1 ≤ w ∧ w ≤ 16) (hh : 1 ≤ h ∧ h ≤ 16) (h0 : g 0 = xE ad w h hk hr sp wb) : vx_Met l y_A_requirePixel (Cond.code y_A_requirePixel b_A_requirePixel 3 none :: wG) (rmF 6 82 1 6) (wPc B D classes (tyL cI cZ cL cS cW) (Zs B) 95 [.ref (ad 0), .int (iI x), .int (iI y)] ad g) (QV B D classes 95 (fun ad1 g1 => (0 ≤ x ∧ x < w ∧ 0 ≤ y ∧ y < h) ∧ ad = ad1 ∧ g = g1)) (QX B D classes 95 (fun E => E = "java/lang/IndexOutOfBoundsException" ∧ ¬ (0 ≤ x ∧ x < w ∧ 0 ≤ y ∧ y < h)) ad g) 1 6 (aB B) := by
  refine ofXV (own := R_A) (by decide) rfl (Nat.le_of_ble_eq_true rfl) ?_
  intro p e s m below meth c Q C hlocks htab hQ hret hout
  change kV _ _ _ _ _ _ _ _ _ _ _ _ _ _ _ _ _ _ _ _ _ [(0, .ref (ad 0)), (1, .int (iI x)), (2, .int (iI y))] _ _
  refine v_iload_n C d_A_requirePixel_0 rfl 1 rfl ?_
  refine v_if_ltI C d_A_requirePixel_1 (by omega) (by omega) (fun hb1 => ?_) (fun hb1 => ?_)
  · exact v_throwS (text := "no such pixel") C hl hQ hlocks htab kl_A_90 in_IndexOutOfBoundsException at_ioo_in at_ioo_ok at_ioo_ot (by decide +kernel) (by decide +kernel) (by decide +kernel) d_A_requirePixel_24.1 d_A_requirePixel_27.1 d_A_requirePixel_28.1 d_A_requirePixel_30.1 d_A_requirePixel_33 (Nat.le_of_ble_eq_true rfl) (Nat.le_of_ble_eq_true rfl) (Nat.le_of_ble_eq_true rfl) (Nat.le_of_ble_eq_true rfl) (Nat.le_of_ble_eq_true rfl) (Nat.le_of_ble_eq_true rfl) ⟨rfl, by omega⟩
  · refine v_iload_n C d_A_requirePixel_4 rfl 1 rfl ?_
    refine v_aload_n C d_A_requirePixel_5 rfl 0 rfl ?_
    refine gf_A_9 C (by omega) h0 rfl d_A_requirePixel_6 ?_
    refine v_icmp_geI C d_A_requirePixel_9 (by omega) (by omega) (by omega) (by omega) (fun hb9 => ?_) (fun hb9 => ?_)
    · exact v_throwS (text := "no such pixel") C hl hQ hlocks htab kl_A_90 in_IndexOutOfBoundsException at_ioo_in at_ioo_ok at_ioo_ot (by decide +kernel) (by decide +kernel) (by decide +kernel) d_A_requirePixel_24.1 d_A_requirePixel_27.1 d_A_requirePixel_28.1 d_A_requirePixel_30.1 d_A_requirePixel_33 (Nat.le_of_ble_eq_true rfl) (Nat.le_of_ble_eq_true rfl) (Nat.le_of_ble_eq_true rfl) (Nat.le_of_ble_eq_true rfl) (Nat.le_of_ble_eq_true rfl) (Nat.le_of_ble_eq_true rfl) ⟨rfl, by omega⟩
    · refine v_iload_n C d_A_requirePixel_12 rfl 2 rfl ?_
      refine v_if_ltI C d_A_requirePixel_13 (by omega) (by omega) (fun hb13 => ?_) (fun hb13 => ?_)
      · exact v_throwS (text := "no such pixel") C hl hQ hlocks htab kl_A_90 in_IndexOutOfBoundsException at_ioo_in at_ioo_ok at_ioo_ot (by decide +kernel) (by decide +kernel) (by decide +kernel) d_A_requirePixel_24.1 d_A_requirePixel_27.1 d_A_requirePixel_28.1 d_A_requirePixel_30.1 d_A_requirePixel_33 (Nat.le_of_ble_eq_true rfl) (Nat.le_of_ble_eq_true rfl) (Nat.le_of_ble_eq_true rfl) (Nat.le_of_ble_eq_true rfl) (Nat.le_of_ble_eq_true rfl) (Nat.le_of_ble_eq_true rfl) ⟨rfl, by omega⟩
      · refine v_iload_n C d_A_requirePixel_16 rfl 2 rfl ?_
        refine v_aload_n C d_A_requirePixel_17 rfl 0 rfl ?_
        refine gf_A_13 C (by omega) h0 rfl d_A_requirePixel_18 ?_
        refine v_icmp_ltI C d_A_requirePixel_21 (by omega) (by omega) (by omega) (by omega) (fun hb21 => ?_) (fun hb21 => ?_)
        · exact hret _ _ _ _ _ _ (by omega) (by omega) d_A_requirePixel_34 ⟨by omega, rfl, rfl⟩
        · exact v_throwS (text := "no such pixel") C hl hQ hlocks htab kl_A_90 in_IndexOutOfBoundsException at_ioo_in at_ioo_ok at_ioo_ot (by decide +kernel) (by decide +kernel) (by decide +kernel) d_A_requirePixel_24.1 d_A_requirePixel_27.1 d_A_requirePixel_28.1 d_A_requirePixel_30.1 d_A_requirePixel_33 (Nat.le_of_ble_eq_true rfl) (Nat.le_of_ble_eq_true rfl) (Nat.le_of_ble_eq_true rfl) (Nat.le_of_ble_eq_true rfl) (Nat.le_of_ble_eq_true rfl) (Nat.le_of_ble_eq_true rfl) ⟨rfl, by omega⟩
set_option maxHeartbeats 1000000 in
set_option maxRecDepth 100000 in
theorem c_anotherHas (l : Launch) {B : Nat} {D : va_G} {cI cZ cL cS cW : ClassId} {ad : Nat → Nat} {g : Nat → va_E} (w h : Nat) (hk hr : Bool) (sp wb : Int) (z x y : Int) (hz : 0 ≤ z ∧ z < 8) (hx : -16 ≤ x ∧ x ≤ 16 ∧ -16 ≤ y ∧ y ≤ 16) (h0 : g 0 = xE ad w h hk hr sp wb) (h2 : g 2 = rfA cS 8 (shs ad 9)) (T : Nat → ShT) (hT : bdT T) (hsh : ∀ j, j < 8 → g (9 + 8 * j) = shE (ad (9 + 8 * j + 1)) (T j)) : Met l y_A_anotherHas (Cond.code y_A_anotherHas b_A_anotherHas 5 (some .boolean) :: wG) (rmF 1 40 0 0) (wPc B D classes (tyL cI cZ cL cS cW) (Zs B) 95 [.ref (ad 0), .int (iI z), .int (iI x), .int (iI y)] ad g) (QI B D classes 95 (fun v9 ad1 g1 => ∃ v, v9 = bI v ∧ ((v = true ↔ ∃ j : Nat, j < 8 ∧ (j : Int) ≠ z ∧ (T j).1 = true ∧ (T j).2.2.1 = x ∧ (T j).2.2.2.1 = y) ∧ ad = ad1 ∧ g = g1))) 0 0 (aB B) := by
  refine ofZ (own := R_A) (by decide) rfl (Nat.le_of_ble_eq_true rfl) ?_
  intro p e s m below meth c Q C hnm hret
  change kV _ _ _ _ _ _ _ _ _ _ _ _ _ _ _ _ _ _ _ _ _ [(0, .ref (ad 0)), (1, .int (iI z)), (2, .int (iI x)), (3, .int (iI y))] _ _
  refine v_iconst C d_A_anotherHas_0 ?_
  refine v_istore (lv' := [(4, .int (iI 0)), (0, .ref (ad 0)), (1, .int (iI z)), (2, .int (iI x)), (3, .int (iI y))]) C d_A_anotherHas_1 (by decide) rfl ?_
  refine v_lv (lv' := [(0, .ref (ad 0)), (1, .int (iI z)), (2, .int (iI x)), (3, .int (iI y)), (4, .int (iI 0))]) [1, 2, 3, 4, 0] rfl ?_
  have L3 : ∀ (d9 : Nat) (j : Nat), 8 - j < d9 → (j ≤ 8) → (∀ i, i < j → ¬ ((i : Int) ≠ z ∧ (T i).1 = true ∧ (T i).2.2.1 = x ∧ (T i).2.2.2.1 = y)) → kV p l e (rmF 1 40 0 0) s m ([.ref (ad 0), .int (iI z), .int (iI x), .int (iI y)] : List Value).toArray below meth c Q s.heap B D classes 5 95 0 0 ad g [(0, .ref (ad 0)), (1, .int (iI z)), (2, .int (iI x)), (3, .int (iI y)), (4, .int (iI (j : Int)))] [] 3 := by
    intro d9
    induction d9 with
    | zero => intro j hd9; exact absurd hd9 (Nat.not_lt_zero _)
    | succ d9 ih3 =>
      intro j hd3 hj hn
      refine v_iload C d_A_anotherHas_3 4 rfl ?_
      refine v_bipush C d_A_anotherHas_5 (by decide +kernel) ?_
      refine v_icmp_geI C d_A_anotherHas_7 (by omega) (by omega) (by omega) (by omega) (fun hb7 => ?_) (fun hb7 => ?_)
      · refine v_iconst C d_A_anotherHas_52 ?_
        exact hret _ _ _ _ _ false _ (Nat.zero_le _) (Nat.zero_le _) d_A_anotherHas_53 ⟨⟨fun q => absurd q (by decide), fun q => by obtain ⟨i, hi, q⟩ := q; exact absurd q (hn i (by omega))⟩, rfl, rfl⟩
      · refine v_iload C d_A_anotherHas_10 4 rfl ?_
        refine v_iload_n C d_A_anotherHas_12 rfl 1 rfl ?_
        refine v_icmp_eqI C d_A_anotherHas_13 (by omega) (by omega) (by omega) (by omega) (fun hb13 => ?_) (fun hb13 => ?_)
        · refine v_iinc (lv' := [(4, .int (iI ((j : Int) + 1))), (0, .ref (ad 0)), (1, .int (iI z)), (2, .int (iI x)), (3, .int (iI y))]) C d_A_anotherHas_46 4 rfl (by decide) rfl ?_
          refine v_goto C d_A_anotherHas_49 ?_
          refine v_lv (lv' := [(0, .ref (ad 0)), (1, .int (iI z)), (2, .int (iI x)), (3, .int (iI y)), (4, .int (iI ((j : Int) + 1)))]) [1, 2, 3, 4, 0] rfl ?_
          exact ih3 (j + 1) (by omega) (by omega) (fun i hi q => by by_cases hh : i = j; (subst hh; exact absurd hb13 q.1); exact hn i (by omega) q)
        · refine v_aload_n C d_A_anotherHas_16 rfl 0 rfl ?_
          refine gf_A_22 C (by omega) h0 rfl d_A_anotherHas_17 ?_
          refine v_iload C d_A_anotherHas_20 4 rfl ?_
          refine v_aald C 3 (by omega) h2 rfl (j : Nat) (by omega) (by omega) (by omega) (rfl) d_A_anotherHas_22 ?_
          have hq1 := hsh (j : Nat) (by omega)
          refine gf_A_117 C (by omega) hq1 rfl d_A_anotherHas_23 ?_
          refine v_if_eqB C d_A_anotherHas_26 (fun hb26 => ?_) (fun hb26 => ?_)
          · refine v_iinc (lv' := [(4, .int (iI ((j : Int) + 1))), (0, .ref (ad 0)), (1, .int (iI z)), (2, .int (iI x)), (3, .int (iI y))]) C d_A_anotherHas_46 4 rfl (by decide) rfl ?_
            refine v_goto C d_A_anotherHas_49 ?_
            refine v_lv (lv' := [(0, .ref (ad 0)), (1, .int (iI z)), (2, .int (iI x)), (3, .int (iI y)), (4, .int (iI ((j : Int) + 1)))]) [1, 2, 3, 4, 0] rfl ?_
            exact ih3 (j + 1) (by omega) (by omega) (fun i hi q => by by_cases hh : i = j; (subst hh; exact absurd q.2.1 (by rw [hb26]; decide)); exact hn i (by omega) q)
          · refine v_aload_n C d_A_anotherHas_29 rfl 0 rfl ?_
            refine gf_A_22 C (by omega) h0 rfl d_A_anotherHas_30 ?_
            refine v_iload C d_A_anotherHas_33 4 rfl ?_
            refine v_aald C 3 (by omega) h2 rfl (j : Nat) (by omega) (by omega) (by omega) (rfl) d_A_anotherHas_35 ?_
            refine v_iload_n C d_A_anotherHas_36 rfl 2 rfl ?_
            refine v_iload_n C d_A_anotherHas_37 rfl 3 rfl ?_
            refine v_callVI (As := [.int (iI x), .int (iI y)]) (st := []) (by omega) hq1 rfl rfl C (c_goesAlong l (9 + 8 * (j : Nat)) (T j) x y (by omega) (by have := hT j (by omega); omega) hx hq1) (lk_A_208 C.1.2.2.2.2 rfl rfl ⟨Nat.le_of_ble_eq_true rfl, Nat.le_of_ble_eq_true rfl⟩) rfl rfl (Nat.le_of_ble_eq_true rfl) d_A_anotherHas_38 ⟨Nat.le_of_ble_eq_true rfl, Nat.le_of_ble_eq_true rfl⟩ (fun w2 ad2 g2 hp2 => ?_)
            obtain ⟨bg, rfl, hgv, rfl, rfl⟩ := hp2
            refine v_if_eqB C d_A_anotherHas_41 (fun hb41 => ?_) (fun hb41 => ?_)
            · refine v_iinc (lv' := [(4, .int (iI ((j : Int) + 1))), (0, .ref (ad 0)), (1, .int (iI z)), (2, .int (iI x)), (3, .int (iI y))]) C d_A_anotherHas_46 4 rfl (by decide) rfl ?_
              refine v_goto C d_A_anotherHas_49 ?_
              refine v_lv (lv' := [(0, .ref (ad 0)), (1, .int (iI z)), (2, .int (iI x)), (3, .int (iI y)), (4, .int (iI ((j : Int) + 1)))]) [1, 2, 3, 4, 0] rfl ?_
              exact ih3 (j + 1) (by omega) (by omega) (fun i hi q => by by_cases hh : i = j; (subst hh; exact absurd (hgv.trans (decide_eq_true ⟨q.2.2.1, q.2.2.2⟩)) (by rw [hb41]; decide)); exact hn i (by omega) q)
            · refine v_iconst C d_A_anotherHas_44 ?_
              exact hret _ _ _ _ _ true _ (Nat.zero_le _) (Nat.zero_le _) d_A_anotherHas_45 ⟨⟨fun _ => ⟨j, by omega, hb13, hb26, (of_decide_eq_true (hgv.symm.trans hb41))⟩, fun _ => rfl⟩, rfl, rfl⟩
  exact L3 _ 0 (Nat.lt_succ_self _) (by omega) (fun i hi => absurd hi (by omega))
set_option maxHeartbeats 1000000 in
set_option maxRecDepth 100000 in
theorem c_aimedOf (l : Launch) {B : Nat} {D : va_G} {cI cZ cL cS cW : ClassId} {ad : Nat → Nat} {g : Nat → va_E} (w h : Nat) (hk hr : Bool) (sp wb : Int) (M : Nat) (hM : M < 256) (h0 : g 0 = xE ad w h hk hr sp wb) (h2 : g 2 = rfA cS 8 (shs ad 9)) (T : Nat → ShT) (hT : bdT T) (hsh : ∀ j, j < 8 → g (9 + 8 * j) = shE (ad (9 + 8 * j + 1)) (T j)) : Met l y_A_aimedOf (Cond.code y_A_aimedOf b_A_aimedOf 4 (some .int) :: wG) (rmF 1 40 0 0) (wPc B D classes (tyL cI cZ cL cS cW) (Zs B) 95 [.ref (ad 0), .int (iI (M : Int))] ad g) (QI B D classes 95 (fun v ad1 g1 => v = iI ((mkM (fun j => Nat.testBit M j && (T j).1) 8 : Nat) : Int) ∧ ad = ad1 ∧ g = g1)) 0 0 (aB B) := by
  refine ofI (own := R_A) (by decide) rfl (Nat.le_of_ble_eq_true rfl) ?_
  intro p e s m below meth c Q C hnm hret
  change kV _ _ _ _ _ _ _ _ _ _ _ _ _ _ _ _ _ _ _ _ _ [(0, .ref (ad 0)), (1, .int (iI (M : Int)))] _ _
  refine v_iconst C d_A_aimedOf_0 ?_
  refine v_istore_n (lv' := [(2, .int (iI 0)), (0, .ref (ad 0)), (1, .int (iI (M : Int)))]) C d_A_aimedOf_1 rfl (by decide) rfl ?_
  refine v_iconst C d_A_aimedOf_2 ?_
  refine v_istore_n (lv' := [(3, .int (iI 0)), (2, .int (iI 0)), (0, .ref (ad 0)), (1, .int (iI (M : Int)))]) C d_A_aimedOf_3 rfl (by decide) rfl ?_
  refine v_lv (lv' := [(0, .ref (ad 0)), (1, .int (iI (M : Int))), (2, .int (iI 0)), (3, .int (iI 0))]) [2, 3, 1, 0] rfl ?_
  have L4 : ∀ (d9 : Nat) (j : Nat) (a : Nat), 8 - j < d9 → (j ≤ 8) → (a = mkM (fun j => Nat.testBit M j && (T j).1) j) → kV p l e (rmF 1 40 0 0) s m ([.ref (ad 0), .int (iI (M : Int))] : List Value).toArray below meth c Q s.heap B D classes 4 95 0 0 ad g [(0, .ref (ad 0)), (1, .int (iI (M : Int))), (2, .int (iI (a : Int))), (3, .int (iI (j : Int)))] [] 4 := by
    intro d9
    induction d9 with
    | zero => intro j a hd9; exact absurd hd9 (Nat.not_lt_zero _)
    | succ d9 ih4 =>
      intro j a hd4 hj ha
      refine v_iload_n C d_A_aimedOf_4 rfl 3 rfl ?_
      refine v_bipush C d_A_aimedOf_5 (by decide +kernel) ?_
      refine v_icmp_geI C d_A_aimedOf_7 (by omega) (by omega) (by omega) (by omega) (fun hb7 => ?_) (fun hb7 => ?_)
      · refine v_iload_n C d_A_aimedOf_42 rfl 2 rfl ?_
        have hj8 : j = 8 := by omega
        exact hret _ _ _ _ _ _ _ (Nat.zero_le _) (Nat.zero_le _) d_A_aimedOf_43 ⟨by rw [ha, hj8], rfl, rfl⟩
      · refine v_iload_n C d_A_aimedOf_10 rfl 1 rfl ?_
        refine v_iload_n C d_A_aimedOf_11 rfl 3 rfl ?_
        refine v_callSI (As := [.int (iI (M : Int)), .int (iI (j : Int))]) (st := []) C (c_isIn l M j hM (by omega)) (lk_A_177 C.1.2.2.2.2 rfl rfl ⟨Nat.le_of_ble_eq_true rfl, Nat.le_of_ble_eq_true rfl⟩) rfl rfl (Nat.le_of_ble_eq_true rfl) d_A_aimedOf_12 ⟨Nat.le_of_ble_eq_true rfl, Nat.le_of_ble_eq_true rfl⟩ (fun w1 ad1 g1 hp1 => ?_)
        obtain ⟨bb1, rfl, hbb1, rfl, rfl⟩ := hp1
        refine v_if_eqB C d_A_aimedOf_15 (fun hb15 => ?_) (fun hb15 => ?_)
        · refine v_iinc (lv' := [(3, .int (iI ((j : Int) + 1))), (0, .ref (ad 0)), (1, .int (iI (M : Int))), (2, .int (iI (a : Int)))]) C d_A_aimedOf_36 3 rfl (by decide) rfl ?_
          refine v_goto C d_A_aimedOf_39 ?_
          refine v_lv (lv' := [(0, .ref (ad 0)), (1, .int (iI (M : Int))), (2, .int (iI (a : Int))), (3, .int (iI ((j : Int) + 1)))]) [1, 2, 3, 0] rfl ?_
          exact ih4 (j + 1) a (by omega) (by omega) (by rw [mkM_f (by show (Nat.testBit M j && (T j).1) = _; rw [← hbb1, hb15]; rfl), ha])
        · refine v_aload_n C d_A_aimedOf_18 rfl 0 rfl ?_
          refine gf_A_22 C (by omega) h0 rfl d_A_aimedOf_19 ?_
          refine v_iload_n C d_A_aimedOf_22 rfl 3 rfl ?_
          refine v_aald C 3 (by omega) h2 rfl (j : Nat) (by omega) (by omega) (by omega) (rfl) d_A_aimedOf_23 ?_
          have hq2 := hsh (j : Nat) (by omega)
          refine gf_A_117 C (by omega) hq2 rfl d_A_aimedOf_24 ?_
          refine v_if_eqB C d_A_aimedOf_27 (fun hb27 => ?_) (fun hb27 => ?_)
          · refine v_iinc (lv' := [(3, .int (iI ((j : Int) + 1))), (0, .ref (ad 0)), (1, .int (iI (M : Int))), (2, .int (iI (a : Int)))]) C d_A_aimedOf_36 3 rfl (by decide) rfl ?_
            refine v_goto C d_A_aimedOf_39 ?_
            refine v_lv (lv' := [(0, .ref (ad 0)), (1, .int (iI (M : Int))), (2, .int (iI (a : Int))), (3, .int (iI ((j : Int) + 1)))]) [1, 2, 3, 0] rfl ?_
            exact ih4 (j + 1) a (by omega) (by omega) (by rw [mkM_f (by show (Nat.testBit M j && (T j).1) = _; rw [← hbb1, hb27]; exact Bool.and_false _), ha])
          · refine v_iload_n C d_A_aimedOf_30 rfl 2 rfl ?_
            refine v_iconst C d_A_aimedOf_31 ?_
            refine v_iload_n C d_A_aimedOf_32 rfl 3 rfl ?_
            refine v_ishl C d_A_aimedOf_33 ?_
            refine v_ior C d_A_aimedOf_34 ?_
            rw [or_tab a (pow_8 (by omega) (ha ▸ mkM_lt _ j)) j (by omega) (ha ▸ mkM_lt _ j)]
            refine v_istore_n (lv' := [(2, .int (iI ((a + 2 ^ j : Nat) : Int))), (0, .ref (ad 0)), (1, .int (iI (M : Int))), (3, .int (iI (j : Int)))]) C d_A_aimedOf_35 rfl (by decide) rfl ?_
            refine v_iinc (lv' := [(3, .int (iI ((j : Int) + 1))), (2, .int (iI ((a + 2 ^ j : Nat) : Int))), (0, .ref (ad 0)), (1, .int (iI (M : Int)))]) C d_A_aimedOf_36 3 rfl (by decide) rfl ?_
            refine v_goto C d_A_aimedOf_39 ?_
            refine v_lv (lv' := [(0, .ref (ad 0)), (1, .int (iI (M : Int))), (2, .int (iI ((a + 2 ^ j : Nat) : Int))), (3, .int (iI ((j : Int) + 1)))]) [2, 3, 1, 0] rfl ?_
            exact ih4 (j + 1) (a + 2 ^ j) (by omega) (by omega) (by rw [mkM_t (by show (Nat.testBit M j && (T j).1) = _; rw [← hbb1, hb15, hb27]; rfl), ha])
  exact L4 _ 0 0 (Nat.lt_succ_self _) (by omega) rfl
set_option maxHeartbeats 1000000 in
set_option maxRecDepth 100000 in
theorem c_filledShelves (l : Launch) {B : Nat} {D : va_G} {cI cZ cL cS cW : ClassId} {ad : Nat → Nat} {g : Nat → va_E} (w h : Nat) (hk hr : Bool) (sp wb : Int) (h0 : g 0 = xE ad w h hk hr sp wb) (h2 : g 2 = rfA cS 8 (shs ad 9)) (T : Nat → ShT) (hT : bdT T) (hsh : ∀ j, j < 8 → g (9 + 8 * j) = shE (ad (9 + 8 * j + 1)) (T j)) : Met l y_A_filledShelves (Cond.code y_A_filledShelves b_A_filledShelves 3 (some .int) :: wG) (rmF 0 0 0 0) (wPc B D classes (tyL cI cZ cL cS cW) (Zs B) 95 [.ref (ad 0)] ad g) (QI B D classes 95 (fun v ad1 g1 => v = iI ((mkM (fun j => (T j).2.1) 8 : Nat) : Int) ∧ ad = ad1 ∧ g = g1)) 0 0 (aB B) := by
  refine ofI (own := R_A) (by decide) rfl (Nat.le_of_ble_eq_true rfl) ?_
  intro p e s m below meth c Q C hnm hret
  change kV _ _ _ _ _ _ _ _ _ _ _ _ _ _ _ _ _ _ _ _ _ [(0, .ref (ad 0))] _ _
  refine v_iconst C d_A_filledShelves_0 ?_
  refine v_istore_n (lv' := [(1, .int (iI 0)), (0, .ref (ad 0))]) C d_A_filledShelves_1 rfl (by decide) rfl ?_
  refine v_iconst C d_A_filledShelves_2 ?_
  refine v_istore_n (lv' := [(2, .int (iI 0)), (1, .int (iI 0)), (0, .ref (ad 0))]) C d_A_filledShelves_3 rfl (by decide) rfl ?_
  refine v_lv (lv' := [(0, .ref (ad 0)), (1, .int (iI 0)), (2, .int (iI 0))]) [2, 1, 0] rfl ?_
  have L4 : ∀ (d9 : Nat) (j : Nat) (a : Nat), 8 - j < d9 → (j ≤ 8) → (a = mkM (fun j => (T j).2.1) j) → kV p l e (rmF 0 0 0 0) s m ([.ref (ad 0)] : List Value).toArray below meth c Q s.heap B D classes 3 95 0 0 ad g [(0, .ref (ad 0)), (1, .int (iI (a : Int))), (2, .int (iI (j : Int)))] [] 4 := by
    intro d9
    induction d9 with
    | zero => intro j a hd9; exact absurd hd9 (Nat.not_lt_zero _)
    | succ d9 ih4 =>
      intro j a hd4 hj ha
      refine v_iload_n C d_A_filledShelves_4 rfl 2 rfl ?_
      refine v_bipush C d_A_filledShelves_5 (by decide +kernel) ?_
      refine v_icmp_geI C d_A_filledShelves_7 (by omega) (by omega) (by omega) (by omega) (fun hb7 => ?_) (fun hb7 => ?_)
      · refine v_iload_n C d_A_filledShelves_34 rfl 1 rfl ?_
        have hj8 : j = 8 := by omega
        exact hret _ _ _ _ _ _ _ (Nat.zero_le _) (Nat.zero_le _) d_A_filledShelves_35 ⟨by rw [ha, hj8], rfl, rfl⟩
      · refine v_aload_n C d_A_filledShelves_10 rfl 0 rfl ?_
        refine gf_A_22 C (by omega) h0 rfl d_A_filledShelves_11 ?_
        refine v_iload_n C d_A_filledShelves_14 rfl 2 rfl ?_
        refine v_aald C 3 (by omega) h2 rfl (j : Nat) (by omega) (by omega) (by omega) (rfl) d_A_filledShelves_15 ?_
        have hq1 := hsh (j : Nat) (by omega)
        refine gf_A_129 C (by omega) hq1 rfl d_A_filledShelves_16 ?_
        refine v_if_eqB C d_A_filledShelves_19 (fun hb19 => ?_) (fun hb19 => ?_)
        · refine v_iinc (lv' := [(2, .int (iI ((j : Int) + 1))), (0, .ref (ad 0)), (1, .int (iI (a : Int)))]) C d_A_filledShelves_28 2 rfl (by decide) rfl ?_
          refine v_goto C d_A_filledShelves_31 ?_
          refine v_lv (lv' := [(0, .ref (ad 0)), (1, .int (iI (a : Int))), (2, .int (iI ((j : Int) + 1)))]) [1, 2, 0] rfl ?_
          exact ih4 (j + 1) a (by omega) (by omega) (by rw [mkM_f (hb19), ha])
        · refine v_iload_n C d_A_filledShelves_22 rfl 1 rfl ?_
          refine v_iconst C d_A_filledShelves_23 ?_
          refine v_iload_n C d_A_filledShelves_24 rfl 2 rfl ?_
          refine v_ishl C d_A_filledShelves_25 ?_
          refine v_ior C d_A_filledShelves_26 ?_
          rw [or_tab a (pow_8 (by omega) (ha ▸ mkM_lt _ j)) j (by omega) (ha ▸ mkM_lt _ j)]
          refine v_istore_n (lv' := [(1, .int (iI ((a + 2 ^ j : Nat) : Int))), (0, .ref (ad 0)), (2, .int (iI (j : Int)))]) C d_A_filledShelves_27 rfl (by decide) rfl ?_
          refine v_iinc (lv' := [(2, .int (iI ((j : Int) + 1))), (1, .int (iI ((a + 2 ^ j : Nat) : Int))), (0, .ref (ad 0))]) C d_A_filledShelves_28 2 rfl (by decide) rfl ?_
          refine v_goto C d_A_filledShelves_31 ?_
          refine v_lv (lv' := [(0, .ref (ad 0)), (1, .int (iI ((a + 2 ^ j : Nat) : Int))), (2, .int (iI ((j : Int) + 1)))]) [2, 1, 0] rfl ?_
          exact ih4 (j + 1) (a + 2 ^ j) (by omega) (by omega) (by rw [mkM_t (hb19), ha])
  exact L4 _ 0 0 (Nat.lt_succ_self _) (by omega) rfl
set_option maxHeartbeats 1000000 in
set_option maxRecDepth 100000 in
theorem c_areEnough (l : Launch) {B : Nat} {D : va_G} {cI cZ cL cS cW : ClassId} {ad : Nat → Nat} {g : Nat → va_E} (w h : Nat) (hk hr : Bool) (sp wb : Int) (M : Nat) (hM : M < 256) (hw : 1 ≤ w ∧ w ≤ 16) (hh : 1 ≤ h ∧ h ≤ 16) (h0 : g 0 = xE ad w h hk hr sp wb) (h2 : g 2 = rfA cS 8 (shs ad 9)) (T : Nat → ShT) (hT : bdT T) (hsh : ∀ j, j < 8 → g (9 + 8 * j) = shE (ad (9 + 8 * j + 1)) (T j)) : Met l y_A_areEnough (Cond.code y_A_areEnough b_A_areEnough 5 (some .boolean) :: wG) (rmF 1 40 0 0) (wPc B D classes (tyL cI cZ cL cS cW) (Zs B) 95 [.ref (ad 0), .int (iI (M : Int))] ad g) (QI B D classes 95 (fun v9 ad1 g1 => ∃ v, v9 = bI v ∧ (v = decide ((w : Int) ≤ sI 8 (fun j => if Nat.testBit M j = true then aI (T j).2.2.1 else 0) ∨ (h : Int) ≤ sI 8 (fun j => if Nat.testBit M j = true then (T j).2.2.2.1 else 0)) ∧ ad = ad1 ∧ g = g1))) 0 0 (aB B) := by
  refine ofZ (own := R_A) (by decide) rfl (Nat.le_of_ble_eq_true rfl) ?_
  intro p e s m below meth c Q C hnm hret
  change kV _ _ _ _ _ _ _ _ _ _ _ _ _ _ _ _ _ _ _ _ _ [(0, .ref (ad 0)), (1, .int (iI (M : Int)))] _ _
  refine v_iconst C d_A_areEnough_0 ?_
  refine v_istore_n (lv' := [(2, .int (iI 0)), (0, .ref (ad 0)), (1, .int (iI (M : Int)))]) C d_A_areEnough_1 rfl (by decide) rfl ?_
  refine v_iconst C d_A_areEnough_2 ?_
  refine v_istore_n (lv' := [(3, .int (iI 0)), (2, .int (iI 0)), (0, .ref (ad 0)), (1, .int (iI (M : Int)))]) C d_A_areEnough_3 rfl (by decide) rfl ?_
  refine v_iconst C d_A_areEnough_4 ?_
  refine v_istore (lv' := [(4, .int (iI 0)), (3, .int (iI 0)), (2, .int (iI 0)), (0, .ref (ad 0)), (1, .int (iI (M : Int)))]) C d_A_areEnough_5 (by decide) rfl ?_
  refine v_lv (lv' := [(0, .ref (ad 0)), (1, .int (iI (M : Int))), (2, .int (iI 0)), (3, .int (iI 0)), (4, .int (iI 0))]) [3, 4, 2, 1, 0] rfl ?_
  have L7 : ∀ (d9 : Nat) (j : Nat) (a : Int) (b : Int), 8 - j < d9 → (j ≤ 8) → (a = sI j (fun j => if Nat.testBit M j = true then aI (T j).2.2.1 else 0)) → (b = sI j (fun j => if Nat.testBit M j = true then (T j).2.2.2.1 else 0)) → kV p l e (rmF 1 40 0 0) s m ([.ref (ad 0), .int (iI (M : Int))] : List Value).toArray below meth c Q s.heap B D classes 5 95 0 0 ad g [(0, .ref (ad 0)), (1, .int (iI (M : Int))), (2, .int (iI a)), (3, .int (iI b)), (4, .int (iI (j : Int)))] [] 7 := by
    intro d9
    induction d9 with
    | zero => intro j a b hd9; exact absurd hd9 (Nat.not_lt_zero _)
    | succ d9 ih7 =>
      intro j a b hd7 hj ha hb
      refine v_iload C d_A_areEnough_7 4 rfl ?_
      refine v_bipush C d_A_areEnough_9 (by decide +kernel) ?_
      refine v_icmp_geI C d_A_areEnough_11 (by omega) (by omega) (by omega) (by omega) (fun hb11 => ?_) (fun hb11 => ?_)
      · have hj8 : j = 8 := by omega
        rw [hj8] at ha hb
        have hba := sI_b (F := (fun j => if Nat.testBit M j = true then aI (T j).2.2.1 else 0)) 8 (fun i hi => by have := hT i hi; show 0 ≤ (if Nat.testBit M i = true then aI (T i).2.2.1 else 0) ∧ (if Nat.testBit M i = true then aI (T i).2.2.1 else 0) ≤ 16; unfold aI; split <;> (try split) <;> omega)
        have hbb := sI_b (F := (fun j => if Nat.testBit M j = true then (T j).2.2.2.1 else 0)) 8 (fun i hi => by have := hT i hi; show 0 ≤ (if Nat.testBit M i = true then (T i).2.2.2.1 else 0) ∧ (if Nat.testBit M i = true then (T i).2.2.2.1 else 0) ≤ 16; split <;> omega)
        refine v_iload_n C d_A_areEnough_58 rfl 2 rfl ?_
        refine v_aload_n C d_A_areEnough_59 rfl 0 rfl ?_
        refine gf_A_9 C (by omega) h0 rfl d_A_areEnough_60 ?_
        refine v_icmp_geI C d_A_areEnough_63 (by omega) (by omega) (by omega) (by omega) (fun hb63 => ?_) (fun hb63 => ?_)
        · refine v_iconst C d_A_areEnough_74 ?_
          refine v_goto C d_A_areEnough_75 ?_
          exact hret _ _ _ _ _ true _ (Nat.zero_le _) (Nat.zero_le _) d_A_areEnough_79 ⟨(decide_eq_true (by rw [← ha, ← hb]; omega)).symm, rfl, rfl⟩
        · refine v_iload_n C d_A_areEnough_66 rfl 3 rfl ?_
          refine v_aload_n C d_A_areEnough_67 rfl 0 rfl ?_
          refine gf_A_13 C (by omega) h0 rfl d_A_areEnough_68 ?_
          refine v_icmp_ltI C d_A_areEnough_71 (by omega) (by omega) (by omega) (by omega) (fun hb71 => ?_) (fun hb71 => ?_)
          · refine v_iconst C d_A_areEnough_78 ?_
            exact hret _ _ _ _ _ false _ (Nat.zero_le _) (Nat.zero_le _) d_A_areEnough_79 ⟨(decide_eq_false (by rw [← ha, ← hb]; omega)).symm, rfl, rfl⟩
          · refine v_iconst C d_A_areEnough_74 ?_
            refine v_goto C d_A_areEnough_75 ?_
            exact hret _ _ _ _ _ true _ (Nat.zero_le _) (Nat.zero_le _) d_A_areEnough_79 ⟨(decide_eq_true (by rw [← ha, ← hb]; omega)).symm, rfl, rfl⟩
      · refine v_iload_n C d_A_areEnough_14 rfl 1 rfl ?_
        refine v_iload C d_A_areEnough_15 4 rfl ?_
        refine v_callSI (As := [.int (iI (M : Int)), .int (iI (j : Int))]) (st := []) C (c_isIn l M j hM (by omega)) (lk_A_177 C.1.2.2.2.2 rfl rfl ⟨Nat.le_of_ble_eq_true rfl, Nat.le_of_ble_eq_true rfl⟩) rfl rfl (Nat.le_of_ble_eq_true rfl) d_A_areEnough_17 ⟨Nat.le_of_ble_eq_true rfl, Nat.le_of_ble_eq_true rfl⟩ (fun w1 ad1 g1 hp1 => ?_)
        obtain ⟨bb1, rfl, hbb1, rfl, rfl⟩ := hp1
        refine v_if_eqB C d_A_areEnough_20 (fun hb20 => ?_) (fun hb20 => ?_)
        · refine v_iinc (lv' := [(4, .int (iI ((j : Int) + 1))), (0, .ref (ad 0)), (1, .int (iI (M : Int))), (2, .int (iI a)), (3, .int (iI b))]) C d_A_areEnough_52 4 rfl (by decide) rfl ?_
          refine v_goto C d_A_areEnough_55 ?_
          refine v_lv (lv' := [(0, .ref (ad 0)), (1, .int (iI (M : Int))), (2, .int (iI a)), (3, .int (iI b)), (4, .int (iI ((j : Int) + 1)))]) [1, 2, 3, 4, 0] rfl ?_
          exact ih7 (j + 1) a b (by omega) (by omega) (by show _ = sI j _ + (if Nat.testBit M j = true then aI (T j).2.2.1 else 0); rw [if_neg (by rw [← hbb1, hb20]; decide), ha, Int.add_zero]) (by show _ = sI j _ + (if Nat.testBit M j = true then (T j).2.2.2.1 else 0); rw [if_neg (by rw [← hbb1, hb20]; decide), hb, Int.add_zero])
        · have hTj := hT j (by omega)
          refine v_iload_n C d_A_areEnough_23 rfl 2 rfl ?_
          refine v_aload_n C d_A_areEnough_24 rfl 0 rfl ?_
          refine gf_A_22 C (by omega) h0 rfl d_A_areEnough_25 ?_
          refine v_iload C d_A_areEnough_28 4 rfl ?_
          refine v_aald C 3 (by omega) h2 rfl (j : Nat) (by omega) (by omega) (by omega) (rfl) d_A_areEnough_30 ?_
          have hq2 := hsh (j : Nat) (by omega)
          refine gf_A_120 C (by omega) hq2 rfl d_A_areEnough_31 ?_
          refine v_mabs C ml_A_211 sm_abs in_H co_abs (Nat.le_of_ble_eq_true rfl) (Nat.le_of_ble_eq_true rfl) (Nat.zero_le _) (Nat.zero_le _) d_A_areEnough_34 (by omega) (by omega) ?_
          refine v_iaddI C d_A_areEnough_37 ?_
          refine v_istore_n (lv' := [(2, .int (iI (a + (if 0 ≤ (T (j : Nat)).2.2.1 then (T (j : Nat)).2.2.1 else 0 - (T (j : Nat)).2.2.1)))), (0, .ref (ad 0)), (1, .int (iI (M : Int))), (3, .int (iI b)), (4, .int (iI (j : Int)))]) C d_A_areEnough_38 rfl (by decide) rfl ?_
          refine v_iload_n C d_A_areEnough_39 rfl 3 rfl ?_
          refine v_aload_n C d_A_areEnough_40 rfl 1 rfl ?_
          refine gf_A_22 C (by omega) h0 rfl d_A_areEnough_41 ?_
          refine v_iload C d_A_areEnough_44 4 rfl ?_
          refine v_aald C 3 (by omega) h2 rfl (j : Nat) (by omega) (by omega) (by omega) (rfl) d_A_areEnough_46 ?_
          refine gf_A_123 C (by omega) hq2 rfl d_A_areEnough_47 ?_
          refine v_iaddI C d_A_areEnough_50 ?_
          refine v_istore_n (lv' := [(3, .int (iI (b + ((T (j : Nat)).2.2.2.1)))), (2, .int (iI (a + (if 0 ≤ (T (j : Nat)).2.2.1 then (T (j : Nat)).2.2.1 else 0 - (T (j : Nat)).2.2.1)))), (0, .ref (ad 0)), (1, .int (iI (M : Int))), (4, .int (iI (j : Int)))]) C d_A_areEnough_51 rfl (by decide) rfl ?_
          refine v_iinc (lv' := [(4, .int (iI ((j : Int) + 1))), (3, .int (iI (b + ((T (j : Nat)).2.2.2.1)))), (2, .int (iI (a + (if 0 ≤ (T (j : Nat)).2.2.1 then (T (j : Nat)).2.2.1 else 0 - (T (j : Nat)).2.2.1)))), (0, .ref (ad 0)), (1, .int (iI (M : Int)))]) C d_A_areEnough_52 4 rfl (by decide) rfl ?_
          refine v_goto C d_A_areEnough_55 ?_
          refine v_lv (lv' := [(0, .ref (ad 0)), (1, .int (iI (M : Int))), (2, .int (iI (a + (if 0 ≤ (T (j : Nat)).2.2.1 then (T (j : Nat)).2.2.1 else 0 - (T (j : Nat)).2.2.1)))), (3, .int (iI (b + ((T (j : Nat)).2.2.2.1)))), (4, .int (iI ((j : Int) + 1)))]) [3, 4, 2, 1, 0] rfl ?_
          exact ih7 (j + 1) (a + (if 0 ≤ (T (j : Nat)).2.2.1 then (T (j : Nat)).2.2.1 else 0 - (T (j : Nat)).2.2.1)) (b + ((T (j : Nat)).2.2.2.1)) (by omega) (by omega) (by show _ = sI j _ + (if Nat.testBit M j = true then aI (T j).2.2.1 else 0); rw [if_pos (hbb1.symm.trans hb20), ha]; rfl) (by show _ = sI j _ + (if Nat.testBit M j = true then (T j).2.2.2.1 else 0); rw [if_pos (hbb1.symm.trans hb20), hb])
  exact L7 _ 0 0 0 (Nat.lt_succ_self _) (by omega) rfl rfl
