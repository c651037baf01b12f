theorem lsw_out {a : Int} (h0 : ¬ a = 0) (h1 : ¬ a = 1) : Op.lookupswitch.offset (#[(0, 27), (1, 32)] : Array (Int × Int)).toList 37 a = 37 := by
  simp only [Op.lookupswitch.offset]
  first | (rw [if_neg (fun q => h0 (by simpa using q)), if_neg (fun q => h1 (by simpa using q))]) | (simp [h0, h1, Op.lookupswitch.offset]) | (simp [Ne.symm h0, Ne.symm h1, Op.lookupswitch.offset, eq_comm, h0, h1])
set_option maxHeartbeats 1000000 in
set_option maxRecDepth 100000 in
theorem c_size (l : Launch) (hl : l.stackTraces = false) {B : Nat} {D : va_G} {cI cZ cL cS cW : ClassId} {ad : Nat → Nat} {g : Nat → va_E} (w h : Nat) (hk hr : Bool) (sp wb : Int) (x y : Int) (f : Nat → Int32) (x1 : -2147483648 ≤ x) (x2 : x < 2147483648) (y1 : -2147483648 ≤ y) (y2 : y < 2147483648) (h0 : g 0 = xE ad w h hk hr sp wb) (hpic : g 1 = inA cI 256 f) (h2 : g 2 = rfA cS 8 (shs ad 9)) (T : Nat → ShT) (hT : bdT T) (hsh : ∀ j, j < 8 → g (9 + 8 * j) = shE (ad (9 + 8 * j + 1)) (T j)) : vx_Met l y_A_size (Cond.code y_A_size b_A_size 4 none :: wG) (rmF 6 82 1 6) (wPc B D classes (tyL cI cZ cL cS cW) (Zs B) 95 [.ref (ad 0), .int (iI x), .int (iI y)] ad g) (QV B D classes 95 (fun ad1 g1 => 1 ≤ x ∧ x ≤ 16 ∧ 1 ≤ y ∧ y ≤ 16 ∧ ad = ad1 ∧ g1 0 = xE ad x y false false sp wb ∧ g1 1 = inA cI 256 (fun _ => iI 0) ∧ (∀ j, j < 8 → g1 (9 + 8 * j) = shE (ad (9 + 8 * j + 1)) (false, false, (T j).2.2)) ∧ ∀ r1, r1 ≠ 0 → r1 ≠ 1 → (∀ j9, j9 < 8 → r1 ≠ 9 + 8 * j9) → g1 r1 = g r1)) (QX B D classes 95 (fun E => E = "java/lang/IllegalArgumentException" ∧ ¬ (1 ≤ x ∧ x ≤ 16 ∧ 1 ≤ y ∧ y ≤ 16)) ad g) 1 6 (aB B) := by
  refine ofXV (own := R_A) (by decide) rfl (Nat.le_of_ble_eq_true rfl) ?_
  intro p e s m below meth c Q C hlocks htab hQ hret hout
  change kV _ _ _ _ _ _ _ _ _ _ _ _ _ _ _ _ _ _ _ _ _ [(0, .ref (ad 0)), (1, .int (iI x)), (2, .int (iI y))] _ _
  refine v_iload_n C d_A_size_0 rfl 1 rfl ?_
  refine v_iconst C d_A_size_1 ?_
  refine v_icmp_ltI C d_A_size_2 (by omega) (by omega) (by omega) (by omega) (fun hb2 => ?_) (fun hb2 => ?_)
  · exact v_throwS (text := "a picture has 1 to 16 columns and 1 to 16 rows") C hl hQ hlocks htab kl_A_62 in_IllegalArgumentException at_iae_in at_iae_ok at_iae_ot (by decide +kernel) (by decide +kernel) (by decide +kernel) d_A_size_22.1 d_A_size_25.1 d_A_size_26.1 d_A_size_28.1 d_A_size_31 (Nat.le_of_ble_eq_true rfl) (Nat.le_of_ble_eq_true rfl) (Nat.le_of_ble_eq_true rfl) (Nat.le_of_ble_eq_true rfl) (Nat.le_of_ble_eq_true rfl) (Nat.le_of_ble_eq_true rfl) ⟨rfl, by omega⟩
  · refine v_iload_n C d_A_size_5 rfl 1 rfl ?_
    refine v_bipush C d_A_size_6 (by decide +kernel) ?_
    refine v_icmp_gtI C d_A_size_8 (by omega) (by omega) (by omega) (by omega) (fun hb8 => ?_) (fun hb8 => ?_)
    · exact v_throwS (text := "a picture has 1 to 16 columns and 1 to 16 rows") C hl hQ hlocks htab kl_A_62 in_IllegalArgumentException at_iae_in at_iae_ok at_iae_ot (by decide +kernel) (by decide +kernel) (by decide +kernel) d_A_size_22.1 d_A_size_25.1 d_A_size_26.1 d_A_size_28.1 d_A_size_31 (Nat.le_of_ble_eq_true rfl) (Nat.le_of_ble_eq_true rfl) (Nat.le_of_ble_eq_true rfl) (Nat.le_of_ble_eq_true rfl) (Nat.le_of_ble_eq_true rfl) (Nat.le_of_ble_eq_true rfl) ⟨rfl, by omega⟩
    · refine v_iload_n C d_A_size_11 rfl 2 rfl ?_
      refine v_iconst C d_A_size_12 ?_
      refine v_icmp_ltI C d_A_size_13 (by omega) (by omega) (by omega) (by omega) (fun hb13 => ?_) (fun hb13 => ?_)
      · exact v_throwS (text := "a picture has 1 to 16 columns and 1 to 16 rows") C hl hQ hlocks htab kl_A_62 in_IllegalArgumentException at_iae_in at_iae_ok at_iae_ot (by decide +kernel) (by decide +kernel) (by decide +kernel) d_A_size_22.1 d_A_size_25.1 d_A_size_26.1 d_A_size_28.1 d_A_size_31 (Nat.le_of_ble_eq_true rfl) (Nat.le_of_ble_eq_true rfl) (Nat.le_of_ble_eq_true rfl) (Nat.le_of_ble_eq_true rfl) (Nat.le_of_ble_eq_true rfl) (Nat.le_of_ble_eq_true rfl) ⟨rfl, by omega⟩
      · refine v_iload_n C d_A_size_16 rfl 2 rfl ?_
        refine v_bipush C d_A_size_17 (by decide +kernel) ?_
        refine v_icmp_leI C d_A_size_19 (by omega) (by omega) (by omega) (by omega) (fun hb19 => ?_) (fun hb19 => ?_)
        · refine v_aload_n C d_A_size_32 rfl 0 rfl ?_
          refine v_iload_n C d_A_size_33 rfl 1 rfl ?_
          refine pf_A_9 (fs' := [.int (iI x), .int (iI (h : Int)), .ref (ad 1), .ref (ad 2), .int (bI hk), .ref (ad 3), .ref (ad 4), .int (bI hr), .ref (ad 5), .int (iI sp), .int (iI wb), .ref (ad 6), .ref (ad 7), .ref (ad 8)]) C (by omega) h0 rfl rfl (Nat.le_of_ble_eq_true rfl) rfl d_A_size_34 (fun g1 h0 fr2 => ?_)
          have hpic := (fr2 1 (by omega)).trans hpic
          have h2 := (fr2 2 (by omega)).trans h2
          have hsh := fun j9 (hj9 : j9 < 8) => (fr2 (9 + 8 * j9) (by omega)).trans (hsh j9 hj9)
          refine v_aload_n C d_A_size_37 rfl 0 rfl ?_
          refine v_iload_n C d_A_size_38 rfl 2 rfl ?_
          refine pf_A_13 (fs' := [.int (iI x), .int (iI y), .ref (ad 1), .ref (ad 2), .int (bI hk), .ref (ad 3), .ref (ad 4), .int (bI hr), .ref (ad 5), .int (iI sp), .int (iI wb), .ref (ad 6), .ref (ad 7), .ref (ad 8)]) C (by omega) h0 rfl rfl (Nat.le_of_ble_eq_true rfl) rfl d_A_size_39 (fun g3 h0 fr4 => ?_)
          have hpic := (fr4 1 (by omega)).trans hpic
          have h2 := (fr4 2 (by omega)).trans h2
          have hsh := fun j9 (hj9 : j9 < 8) => (fr4 (9 + 8 * j9) (by omega)).trans (hsh j9 hj9)
          refine v_aload_n C d_A_size_42 rfl 0 rfl ?_
          refine gf_A_16 C (by omega) h0 rfl d_A_size_43 ?_
          refine v_iconst C d_A_size_46 ?_
          refine v_callSV (As := [.ref (ad 1), .int (iI 0)]) (st := []) C (c_fill l 1 256 f (iI 0) (by omega) (by decide) hpic) (lk_A_69 C.1.2.2.2.2 rfl rfl ⟨Nat.le_of_ble_eq_true rfl, Nat.le_of_ble_eq_true rfl⟩) rfl rfl (Nat.le_of_ble_eq_true rfl) d_A_size_47 ⟨Nat.le_of_ble_eq_true rfl, Nat.le_of_ble_eq_true rfl⟩ (fun ad5 g5 hp5 => ?_)
          obtain ⟨rfl, hpic, fr5⟩ := hp5
          have h0 := (fr5 0 (by omega)).trans h0
          have h2 := (fr5 2 (by omega)).trans h2
          have hsh := fun j9 (hj9 : j9 < 8) => (fr5 (9 + 8 * j9) (by omega)).trans (hsh j9 hj9)
          refine v_iconst C d_A_size_50 ?_
          refine v_istore_n (lv' := [(3, .int (iI 0)), (0, .ref (ad 0)), (1, .int (iI x)), (2, .int (iI y))]) C d_A_size_51 rfl (by decide) rfl ?_
          refine v_lv (lv' := [(0, .ref (ad 0)), (1, .int (iI x)), (2, .int (iI y)), (3, .int (iI 0))]) [1, 2, 3, 0] rfl ?_
          have L52 : ∀ (d9 : Nat) (j : Nat) (G52 : Nat → va_E), 8 - j < d9 → (j ≤ 8) → (∀ r1, (∀ j9, j9 < 8 → r1 ≠ 9 + 8 * j9) → G52 r1 = g5 r1) → (∀ j9, j9 < 8 → G52 (9 + 8 * j9) = .inr (1, [.int (bI ((if j9 < j then (false, false, (T j9).2.2) else T j9).1)), .int (bI ((if j9 < j then (false, false, (T j9).2.2) else T j9).2.1)), .int (iI ((if j9 < j then (false, false, (T j9).2.2) else T j9).2.2.1)), .int (iI ((if j9 < j then (false, false, (T j9).2.2) else T j9).2.2.2.1)), .int (iI ((if j9 < j then (false, false, (T j9).2.2) else T j9).2.2.2.2.1)), .int (iI ((if j9 < j then (false, false, (T j9).2.2) else T j9).2.2.2.2.2)), .ref (ad (9 + 8 * j9 + 1))])) → kV p l e (rmF 6 82 1 6) s m ([.ref (ad 0), .int (iI x), .int (iI y)] : List Value).toArray below meth c Q s.heap B D classes 4 95 0 0 ad G52 [(0, .ref (ad 0)), (1, .int (iI x)), (2, .int (iI y)), (3, .int (iI (j : Int)))] [] 52 := by
            intro d9
            induction d9 with
            | zero => intro j G52 hd9; exact absurd hd9 (Nat.not_lt_zero _)
            | succ d9 ih52 =>
              intro j G52 hd52 hj hfr52 hsh
              have h0 := (hfr52 0 (fun j9 hj9 => by omega)).trans h0
              have hpic := (hfr52 1 (fun j9 hj9 => by omega)).trans hpic
              have h2 := (hfr52 2 (fun j9 hj9 => by omega)).trans h2
              refine v_iload_n C d_A_size_52 rfl 3 rfl ?_
              refine v_bipush C d_A_size_53 (by decide +kernel) ?_
              refine v_icmp_geI C d_A_size_55 (by omega) (by omega) (by omega) (by omega) (fun hb55 => ?_) (fun hb55 => ?_)
              · refine v_aload_n C d_A_size_73 rfl 0 rfl ?_
                refine v_iconst C d_A_size_74 ?_
                refine pf_A_26 (fs' := [.int (iI x), .int (iI y), .ref (ad 1), .ref (ad 2), .int (iI 0), .ref (ad 3), .ref (ad 4), .int (bI hr), .ref (ad 5), .int (iI sp), .int (iI wb), .ref (ad 6), .ref (ad 7), .ref (ad 8)]) C (by omega) h0 rfl rfl (Nat.le_of_ble_eq_true rfl) rfl d_A_size_75 (fun g6 h0 fr7 => ?_)
                have hpic := (fr7 1 (by omega)).trans hpic
                have h2 := (fr7 2 (by omega)).trans h2
                have hsh := fun j9 (hj9 : j9 < 8) => (fr7 (9 + 8 * j9) (by omega)).trans (hsh j9 hj9)
                refine v_aload_n C d_A_size_78 rfl 0 rfl ?_
                refine v_iconst C d_A_size_79 ?_
                refine pf_A_36 (fs' := [.int (iI x), .int (iI y), .ref (ad 1), .ref (ad 2), .int (iI 0), .ref (ad 3), .ref (ad 4), .int (iI 0), .ref (ad 5), .int (iI sp), .int (iI wb), .ref (ad 6), .ref (ad 7), .ref (ad 8)]) C (by omega) h0 rfl rfl (Nat.le_of_ble_eq_true rfl) rfl d_A_size_80 (fun g8 h0 fr9 => ?_)
                have hpic := (fr9 1 (by omega)).trans hpic
                have h2 := (fr9 2 (by omega)).trans h2
                have hsh := fun j9 (hj9 : j9 < 8) => (fr9 (9 + 8 * j9) (by omega)).trans (hsh j9 hj9)
                exact hret _ _ _ _ _ _ (by omega) (by omega) d_A_size_83 ⟨by omega, by omega, by omega, by omega, rfl, h0, hpic, fun j9 hj9 => (hsh j9 hj9).trans (by rw [if_pos (by omega)]), (fun r1 n0 n1 n2 => ((fr9 r1 n0).trans ((fr7 r1 n0).trans ((hfr52 r1 n2).trans ((fr5 r1 n1).trans ((fr4 r1 n0).trans (fr2 r1 n0)))))))⟩
              · refine v_aload_n C d_A_size_58 rfl 0 rfl ?_
                refine gf_A_22 C (by omega) h0 rfl d_A_size_59 ?_
                refine v_iload_n C d_A_size_62 rfl 3 rfl ?_
                refine v_aald C 3 (by omega) h2 rfl (j : Nat) (by omega) (by omega) (by omega) (rfl) d_A_size_63 ?_
                have hq10 := hsh (j : Nat) (by omega)
                refine v_callVV (As := []) (st := []) (by omega) hq10 rfl rfl C (c_unaim l (9 + 8 * (j : Nat)) (if j < j then (false, false, (T j).2.2) else T j) (by omega) hq10) (lk_A_75 C.1.2.2.2.2 rfl rfl ⟨Nat.le_of_ble_eq_true rfl, Nat.le_of_ble_eq_true rfl⟩) rfl rfl (Nat.le_of_ble_eq_true rfl) d_A_size_64 ⟨Nat.le_of_ble_eq_true rfl, Nat.le_of_ble_eq_true rfl⟩ (fun ad11 g11 hp11 => ?_)
                obtain ⟨rfl, hun, fr11⟩ := hp11
                have hsh2 : ∀ j9, j9 < 8 → g11 (9 + 8 * j9) = shE (ad (9 + 8 * j9 + 1)) (if j9 < j + 1 then (false, false, (T j9).2.2) else T j9) := fun j9 hj9 => by
                  by_cases hjj : j9 = j
                  · subst hjj; rw [if_pos (Nat.lt_succ_self _), hun, if_neg (Nat.lt_irrefl _)]
                  · rw [fr11 (9 + 8 * j9) (by omega), hsh j9 hj9]
                    by_cases hlt : j9 < j
                    · rw [if_pos hlt, if_pos (by omega)]
                    · rw [if_neg hlt, if_neg (by omega)]
                have h0 := (fr11 0 (by omega)).trans h0
                have hpic := (fr11 1 (by omega)).trans hpic
                have h2 := (fr11 2 (by omega)).trans h2
                refine v_iinc (lv' := [(3, .int (iI ((j : Int) + 1))), (0, .ref (ad 0)), (1, .int (iI x)), (2, .int (iI y))]) C d_A_size_67 3 rfl (by decide) rfl ?_
                refine v_goto C d_A_size_70 ?_
                refine v_lv (lv' := [(0, .ref (ad 0)), (1, .int (iI x)), (2, .int (iI y)), (3, .int (iI ((j : Int) + 1)))]) [1, 2, 3, 0] rfl ?_
                exact ih52 (j + 1) _ (by omega) (by omega) (fun r1 n0 => ((fr11 r1 (n0 (j : Nat) (by omega))).trans (hfr52 r1 n0))) hsh2
          exact L52 _ 0 _ (Nat.lt_succ_self _) (by omega) (fun r1 _ => rfl) (fun j9 hj9 => by rw [if_neg (Nat.not_lt_zero _)]; exact hsh j9 hj9)
        · exact v_throwS (text := "a picture has 1 to 16 columns and 1 to 16 rows") C hl hQ hlocks htab kl_A_62 in_IllegalArgumentException at_iae_in at_iae_ok at_iae_ot (by decide +kernel) (by decide +kernel) (by decide +kernel) d_A_size_22.1 d_A_size_25.1 d_A_size_26.1 d_A_size_28.1 d_A_size_31 (Nat.le_of_ble_eq_true rfl) (Nat.le_of_ble_eq_true rfl) (Nat.le_of_ble_eq_true rfl) (Nat.le_of_ble_eq_true rfl) (Nat.le_of_ble_eq_true rfl) (Nat.le_of_ble_eq_true rfl) ⟨rfl, by omega⟩
set_option maxHeartbeats 1000000 in
set_option maxRecDepth 100000 in
theorem c_pixel (l : Launch) (hl : l.stackTraces = false) {B : Nat} {D : va_G} {cI cZ cL cS cW : ClassId} {ad : Nat → Nat} {g : Nat → va_E} (w h : Nat) (hk hr : Bool) (sp wb : Int) (x y : Int) (pv : Int32) (f : Nat → Int32) (x1 : -2147483648 ≤ x) (x2 : x < 2147483648) (y1 : -2147483648 ≤ y) (y2 : y < 2147483648) (hw : 1 ≤ w ∧ w ≤ 16) (hh : 1 ≤ h ∧ h ≤ 16) (h0 : g 0 = xE ad w h hk hr sp wb) (hpic : g 1 = inA cI 256 f) : vx_Met l y_A_pixel (Cond.code y_A_pixel b_A_pixel 6 (some .int) :: wG) (rmF 7 110 1 6) (wPc B D classes (tyL cI cZ cL cS cW) (Zs B) 95 [.ref (ad 0), .int (iI x), .int (iI y), .int pv] ad g) (QI B D classes 95 (fun v ad1 g1 => (0 ≤ x ∧ x < w ∧ 0 ≤ y ∧ y < h) ∧ ∃ c0 : Nat, (c0 : Int) = y * 16 + x ∧ v = f c0 ∧ ad = ad1 ∧ g1 1 = inA cI 256 (upd f c0 pv) ∧ ∀ r1, r1 ≠ 1 → g1 r1 = g r1)) (QX B D classes 95 (fun E => E = "java/lang/IndexOutOfBoundsException" ∧ ¬ (0 ≤ x ∧ x < w ∧ 0 ≤ y ∧ y < h)) ad g) 1 6 (aB B) := by
  refine ofXI (own := R_A) (by decide) rfl (Nat.le_of_ble_eq_true rfl) ?_
  intro p e s m below meth c Q C hlocks htab hQ hret hout
  change kV _ _ _ _ _ _ _ _ _ _ _ _ _ _ _ _ _ _ _ _ _ [(0, .ref (ad 0)), (1, .int (iI x)), (2, .int (iI y)), (3, .int pv)] _ _
  refine v_aload_n C d_A_pixel_0 rfl 0 rfl ?_
  refine v_iload_n C d_A_pixel_1 rfl 1 rfl ?_
  refine v_iload_n C d_A_pixel_2 rfl 2 rfl ?_
  refine v_xcallVV (As := [.int (iI x), .int (iI y)]) (st := []) (by omega) h0 rfl rfl C (c_requirePixel l hl w h hk hr sp wb x y x1 x2 y1 y2 hw hh h0) (lk_A_78 C.1.2.2.2.2 rfl rfl ⟨Nat.le_of_ble_eq_true rfl, Nat.le_of_ble_eq_true rfl⟩) rfl rfl (Nat.le_of_ble_eq_true rfl) d_A_pixel_3 ⟨Nat.le_of_ble_eq_true rfl, Nat.le_of_ble_eq_true rfl⟩ (fun E hE => hout E _ _ _ _ _ (hE) (Nat.le_of_ble_eq_true rfl) (Nat.le_of_ble_eq_true rfl)) (fun ad1 g1 hp1 => ?_)
  obtain ⟨hin, rfl, rfl⟩ := hp1
  refine v_iload_n C d_A_pixel_6 rfl 1 rfl ?_
  refine v_iload_n C d_A_pixel_7 rfl 2 rfl ?_
  refine v_callSI (As := [.int (iI x), .int (iI y)]) (st := []) C (c_cellAt l x y) (lk_A_82 C.1.2.2.2.2 rfl rfl ⟨Nat.le_of_ble_eq_true rfl, Nat.le_of_ble_eq_true rfl⟩) rfl rfl (Nat.le_of_ble_eq_true rfl) d_A_pixel_8 ⟨Nat.le_of_ble_eq_true rfl, Nat.le_of_ble_eq_true rfl⟩ (fun w2 ad2 g2 hp2 => ?_)
  obtain ⟨rfl, rfl, rfl⟩ := hp2
  refine v_istore (lv' := [(4, .int (iI (y * 16 + x))), (0, .ref (ad 0)), (1, .int (iI x)), (2, .int (iI y)), (3, .int pv)]) C d_A_pixel_11 (by decide) rfl ?_
  obtain ⟨c0, hc0⟩ : ∃ c0 : Nat, (c0 : Int) = y * 16 + x := ⟨(y * 16 + x).toNat, by omega⟩
  have hc1 : c0 < 256 := by omega
  refine v_aload_n C d_A_pixel_13 rfl 1 rfl ?_
  refine gf_A_16 C (by omega) h0 rfl d_A_pixel_14 ?_
  refine v_iload C d_A_pixel_17 0 rfl ?_
  refine v_iald C 0 (by omega) hpic rfl c0 (hc0.symm) (hc1) (by omega) d_A_pixel_19 ?_
  refine v_istore (lv' := [(5, .int (f c0)), (4, .int (iI (y * 16 + x))), (0, .ref (ad 0)), (1, .int (iI x)), (2, .int (iI y)), (3, .int pv)]) C d_A_pixel_20 (by decide) rfl ?_
  refine v_aload_n C d_A_pixel_22 rfl 2 rfl ?_
  refine gf_A_16 C (by omega) h0 rfl d_A_pixel_23 ?_
  refine v_iload C d_A_pixel_26 1 rfl ?_
  refine v_iload_n C d_A_pixel_28 rfl 5 rfl ?_
  refine v_iast C 0 (by omega) hpic rfl c0 (hc0.symm) (hc1) (by omega) d_A_pixel_29 (fun g3 hpic fr4 => ?_)
  have h0 := (fr4 0 (by omega)).trans h0
  refine v_iload C d_A_pixel_30 0 rfl ?_
  exact hret _ _ _ _ _ _ _ (by omega) (by omega) d_A_pixel_32 ⟨hin, c0, hc0, rfl, rfl, hpic, (fun r1 n0 => (fr4 r1 n0))⟩
set_option maxHeartbeats 1000000 in
set_option maxRecDepth 100000 in
theorem c_look (l : Launch) (hl : l.stackTraces = false) {B : Nat} {D : va_G} {cI cZ cL cS cW : ClassId} {ad : Nat → Nat} {g : Nat → va_E} (w h : Nat) (hk hr : Bool) (sp wb : Int) (z x y : Int) (f fk fr : Nat → Int32) (z1 : -2147483648 ≤ z) (z2 : z < 2147483648) (x1 : -2147483648 ≤ x) (x2 : x < 2147483648) (y1 : -2147483648 ≤ y) (y2 : y < 2147483648) (hw : 1 ≤ w ∧ w ≤ 16) (hh : 1 ≤ h ∧ h ≤ 16) (h0 : g 0 = xE ad w h hk hr sp wb) (hpic : g 1 = inA cI 256 f) (hkp : g 3 = inA cI 256 fk) (hrb : g 5 = inA cI 256 fr) : vx_Met l y_A_look (Cond.code y_A_look b_A_look 5 (some .int) :: wG) (rmF 7 110 3 18) (wPc B D classes (tyL cI cZ cL cS cW) (Zs B) 95 [.ref (ad 0), .int (iI z), .int (iI x), .int (iI y)] ad g) (QI B D classes 95 (fun v ad1 g1 => ((0 ≤ x ∧ x < w ∧ 0 ≤ y ∧ y < h) ∧ ∃ c0 : Nat, (c0 : Int) = y * 16 + x ∧ ((z = 0 ∧ v = f c0) ∨ (z = 1 ∧ hk = true ∧ v = fk c0) ∨ (z = 2 ∧ hr = true ∧ v = fr c0))) ∧ ad = ad1 ∧ g = g1)) (QX B D classes 95 (fun E => (E = "java/lang/IndexOutOfBoundsException" ∧ ¬ ((0 ≤ x ∧ x < w ∧ 0 ≤ y ∧ y < h) ∧ 0 ≤ z ∧ z ≤ 2)) ∨ (E = "java/lang/IllegalStateException" ∧ (0 ≤ x ∧ x < w ∧ 0 ≤ y ∧ y < h) ∧ ((z = 1 ∧ hk = false) ∨ (z = 2 ∧ hr = false)))) ad g) 3 18 (aB B) := by
  refine ofXI (own := R_A) (by decide) rfl (Nat.le_of_ble_eq_true rfl) ?_
  intro p e s m below meth c Q C hlocks htab hQ hret hout
  change kV _ _ _ _ _ _ _ _ _ _ _ _ _ _ _ _ _ _ _ _ _ [(0, .ref (ad 0)), (1, .int (iI z)), (2, .int (iI x)), (3, .int (iI y))] _ _
  refine v_aload_n C d_A_look_0 rfl 0 rfl ?_
  refine v_iload_n C d_A_look_1 rfl 2 rfl ?_
  refine v_iload_n C d_A_look_2 rfl 3 rfl ?_
  refine v_xcallVV (As := [.int (iI x), .int (iI y)]) (st := []) (by omega) h0 rfl rfl C (c_requirePixel l hl w h hk hr sp wb x y x1 x2 y1 y2 hw hh h0) (lk_A_78 C.1.2.2.2.2 rfl rfl ⟨Nat.le_of_ble_eq_true rfl, Nat.le_of_ble_eq_true rfl⟩) rfl rfl (Nat.le_of_ble_eq_true rfl) d_A_look_3 ⟨Nat.le_of_ble_eq_true rfl, Nat.le_of_ble_eq_true rfl⟩ (fun E hE => hout E _ _ _ _ _ (Or.inl ⟨hE.1, fun q => hE.2 q.1⟩) (Nat.le_of_ble_eq_true rfl) (Nat.le_of_ble_eq_true rfl)) (fun ad1 g1 hp1 => ?_)
  obtain ⟨hin, rfl, rfl⟩ := hp1
  refine v_iload_n C d_A_look_6 rfl 2 rfl ?_
  refine v_iload_n C d_A_look_7 rfl 3 rfl ?_
  refine v_callSI (As := [.int (iI x), .int (iI y)]) (st := []) C (c_cellAt l x y) (lk_A_82 C.1.2.2.2.2 rfl rfl ⟨Nat.le_of_ble_eq_true rfl, Nat.le_of_ble_eq_true rfl⟩) rfl rfl (Nat.le_of_ble_eq_true rfl) d_A_look_8 ⟨Nat.le_of_ble_eq_true rfl, Nat.le_of_ble_eq_true rfl⟩ (fun w2 ad2 g2 hp2 => ?_)
  obtain ⟨rfl, rfl, rfl⟩ := hp2
  refine v_istore (lv' := [(4, .int (iI (y * 16 + x))), (0, .ref (ad 0)), (1, .int (iI z)), (2, .int (iI x)), (3, .int (iI y))]) C d_A_look_11 (by decide) rfl ?_
  obtain ⟨c0, hc0⟩ : ∃ c0 : Nat, (c0 : Int) = y * 16 + x := ⟨(y * 16 + x).toNat, by omega⟩
  have hc1 : c0 < 256 := by omega
  refine v_iload_n C d_A_look_13 rfl 2 rfl ?_
  by_cases hk14_0 : z = 0
  · refine v_tswIn (tgt := 40) C d_A_look_14 (by omega) (by omega) (by omega) (by omega) (by rw [hk14_0]; rfl) (by decide) ?_
    refine v_aload_n C d_A_look_40 rfl 1 rfl ?_
    refine gf_A_16 C (by omega) h0 rfl d_A_look_41 ?_
    refine v_iload C d_A_look_44 0 rfl ?_
    refine v_iald C 0 (by omega) hpic rfl c0 (hc0.symm) (hc1) (by omega) d_A_look_46 ?_
    exact hret _ _ _ _ _ _ _ (by omega) (by omega) d_A_look_47 ⟨⟨hin, c0, hc0, Or.inl ⟨hk14_0, rfl⟩⟩, rfl, rfl⟩
  by_cases hk14_1 : z = 1
  · refine v_tswIn (tgt := 48) C d_A_look_14 (by omega) (by omega) (by omega) (by omega) (by rw [hk14_1]; rfl) (by decide) ?_
    refine v_aload_n C d_A_look_48 rfl 1 rfl ?_
    refine gf_A_26 C (by omega) h0 rfl d_A_look_49 ?_
    refine v_xcallSV (As := [.int (bI hk)]) (st := []) C (c_requireState l hl hk) (lk_A_86 C.1.2.2.2.2 rfl rfl ⟨Nat.le_of_ble_eq_true rfl, Nat.le_of_ble_eq_true rfl⟩) rfl rfl (Nat.le_of_ble_eq_true rfl) d_A_look_52 ⟨Nat.le_of_ble_eq_true rfl, Nat.le_of_ble_eq_true rfl⟩ (fun E hE => hout E _ _ _ _ _ (Or.inr ⟨hE.1, hin, Or.inl ⟨hk14_1, hE.2⟩⟩) (Nat.le_of_ble_eq_true rfl) (Nat.le_of_ble_eq_true rfl)) (fun ad3 g3 hp3 => ?_)
    obtain ⟨hst, rfl, rfl⟩ := hp3
    refine v_aload_n C d_A_look_55 rfl 1 rfl ?_
    refine gf_A_30 C (by omega) h0 rfl d_A_look_56 ?_
    refine v_iload C d_A_look_59 0 rfl ?_
    refine v_iald C 0 (by omega) hkp rfl c0 (hc0.symm) (hc1) (by omega) d_A_look_61 ?_
    exact hret _ _ _ _ _ _ _ (by omega) (by omega) d_A_look_62 ⟨⟨hin, c0, hc0, Or.inr (Or.inl ⟨hk14_1, hst, rfl⟩)⟩, rfl, rfl⟩
  by_cases hk14_2 : z = 2
  · refine v_tswIn (tgt := 63) C d_A_look_14 (by omega) (by omega) (by omega) (by omega) (by rw [hk14_2]; rfl) (by decide) ?_
    refine v_aload_n C d_A_look_63 rfl 1 rfl ?_
    refine gf_A_36 C (by omega) h0 rfl d_A_look_64 ?_
    refine v_xcallSV (As := [.int (bI hr)]) (st := []) C (c_requireState l hl hr) (lk_A_86 C.1.2.2.2.2 rfl rfl ⟨Nat.le_of_ble_eq_true rfl, Nat.le_of_ble_eq_true rfl⟩) rfl rfl (Nat.le_of_ble_eq_true rfl) d_A_look_67 ⟨Nat.le_of_ble_eq_true rfl, Nat.le_of_ble_eq_true rfl⟩ (fun E hE => hout E _ _ _ _ _ (Or.inr ⟨hE.1, hin, Or.inr ⟨hk14_2, hE.2⟩⟩) (Nat.le_of_ble_eq_true rfl) (Nat.le_of_ble_eq_true rfl)) (fun ad4 g4 hp4 => ?_)
    obtain ⟨hst, rfl, rfl⟩ := hp4
    refine v_aload_n C d_A_look_70 rfl 1 rfl ?_
    refine gf_A_39 C (by omega) h0 rfl d_A_look_71 ?_
    refine v_iload C d_A_look_74 0 rfl ?_
    refine v_iald C 0 (by omega) hrb rfl c0 (hc0.symm) (hc1) (by omega) d_A_look_76 ?_
    exact hret _ _ _ _ _ _ _ (by omega) (by omega) d_A_look_77 ⟨⟨hin, c0, hc0, Or.inr (Or.inr ⟨hk14_2, hst, rfl⟩)⟩, rfl, rfl⟩
  refine v_tswOut (tgt := 78) C d_A_look_14 (by omega) (by omega) (by omega) (by decide) ?_
  exact v_throwS (text := "what is 0, 1 or 2") C hl hQ hlocks htab kl_A_90 in_IndexOutOfBoundsException at_ioo_in at_ioo_ok at_ioo_ot (by decide +kernel) (by decide +kernel) (by decide +kernel) d_A_look_78.1 d_A_look_81.1 d_A_look_82.1 d_A_look_84.1 d_A_look_87 (Nat.le_of_ble_eq_true rfl) (Nat.le_of_ble_eq_true rfl) (Nat.le_of_ble_eq_true rfl) (Nat.le_of_ble_eq_true rfl) (Nat.le_of_ble_eq_true rfl) (Nat.le_of_ble_eq_true rfl) (Or.inl ⟨rfl, fun q => by omega⟩)
set_option maxHeartbeats 1000000 in
set_option maxRecDepth 100000 in
theorem c_drop (l : Launch) (hl : l.stackTraces = false) {B : Nat} {D : va_G} {cI cZ cL cS cW : ClassId} {ad : Nat → Nat} {g : Nat → va_E} (w h : Nat) (hk hr : Bool) (sp wb : Int) (z : Int) (z1 : -2147483648 ≤ z) (z2 : z < 2147483648) (h0 : g 0 = xE ad w h hk hr sp wb) (h2 : g 2 = rfA cS 8 (shs ad 9)) (T : Nat → ShT) (hT : bdT T) (hsh : ∀ j, j < 8 → g (9 + 8 * j) = shE (ad (9 + 8 * j + 1)) (T j)) : vx_Met l y_A_drop (Cond.code y_A_drop b_A_drop 3 (some .boolean) :: wG) (rmF 7 110 1 6) (wPc B D classes (tyL cI cZ cL cS cW) (Zs B) 95 [.ref (ad 0), .int (iI z)] ad g) (QI B D classes 95 (fun v9 ad1 g1 => ∃ v, v9 = bI v ∧ (∃ s0 : Nat, (s0 : Int) = z ∧ s0 < 8 ∧ v = (T s0).2.1 ∧ ad = ad1 ∧ g1 (9 + 8 * s0) = shE (ad (9 + 8 * s0 + 1)) ((T s0).1, false, (T s0).2.2) ∧ ∀ r1, r1 ≠ 9 + 8 * s0 → g1 r1 = g r1))) (QX B D classes 95 (fun E => E = "java/lang/IndexOutOfBoundsException" ∧ ¬ (0 ≤ z ∧ z < 8)) ad g) 1 6 (aB B) := by
  refine ofXZ (own := R_A) (by decide) rfl (Nat.le_of_ble_eq_true rfl) ?_
  intro p e s m below meth c Q C hlocks htab hQ hret hout
  change kV _ _ _ _ _ _ _ _ _ _ _ _ _ _ _ _ _ _ _ _ _ [(0, .ref (ad 0)), (1, .int (iI z))] _ _
  refine v_iload_n C d_A_drop_0 rfl 1 rfl ?_
  refine v_xcallSV (As := [.int (iI z)]) (st := []) C (c_requireShelf l hl z z1 z2) (lk_A_95 C.1.2.2.2.2 rfl rfl ⟨Nat.le_of_ble_eq_true rfl, Nat.le_of_ble_eq_true rfl⟩) rfl rfl (Nat.le_of_ble_eq_true rfl) d_A_drop_1 ⟨Nat.le_of_ble_eq_true rfl, Nat.le_of_ble_eq_true rfl⟩ (fun E hE => hout E _ _ _ _ _ (hE) (Nat.le_of_ble_eq_true rfl) (Nat.le_of_ble_eq_true rfl)) (fun ad1 g1 hp1 => ?_)
  obtain ⟨hz1, hz2, rfl, rfl⟩ := hp1
  obtain ⟨s0, hs0⟩ : ∃ s0 : Nat, (s0 : Int) = z := ⟨z.toNat, by omega⟩
  have hs8 : s0 < 8 := by omega
  refine v_aload_n C d_A_drop_4 rfl 0 rfl ?_
  refine gf_A_22 C (by omega) h0 rfl d_A_drop_5 ?_
  refine v_iload_n C d_A_drop_8 rfl 1 rfl ?_
  refine v_aald C 3 (by omega) h2 rfl s0 (hs0.symm) (hs8) (by omega) (rfl) d_A_drop_9 ?_
  have hq2 := hsh s0 (by omega)
  refine gf_A_129 C (by omega) hq2 rfl d_A_drop_10 ?_
  refine v_istore_n (lv' := [(2, .int (bI ((T s0).2.1))), (0, .ref (ad 0)), (1, .int (iI z))]) C d_A_drop_13 rfl (by decide) rfl ?_
  refine v_aload_n C d_A_drop_14 rfl 1 rfl ?_
  refine gf_A_22 C (by omega) h0 rfl d_A_drop_15 ?_
  refine v_iload_n C d_A_drop_18 rfl 2 rfl ?_
  refine v_aald C 3 (by omega) h2 rfl s0 (hs0.symm) (hs8) (by omega) (rfl) d_A_drop_19 ?_
  refine v_iconst C d_A_drop_20 ?_
  refine pf_A_129 (fs' := [.int (bI ((T s0).1)), .int (iI 0), .int (iI ((T s0).2.2.1)), .int (iI ((T s0).2.2.2.1)), .int (iI ((T s0).2.2.2.2.1)), .int (iI ((T s0).2.2.2.2.2)), .ref (ad (9 + 8 * s0 + 1))]) C (by omega) hq2 rfl rfl (Nat.le_of_ble_eq_true rfl) rfl d_A_drop_21 (fun g3 hq2 fr4 => ?_)
  have h0 := (fr4 0 (by omega)).trans h0
  have h2 := (fr4 2 (by omega)).trans h2
  refine v_iload_n C d_A_drop_24 rfl 0 rfl ?_
  exact hret _ _ _ _ _ _ _ (by omega) (by omega) d_A_drop_25 ⟨s0, hs0, hs8, rfl, rfl, hq2, (fun r1 n0 => (fr4 r1 n0))⟩
set_option maxHeartbeats 1000000 in
set_option maxRecDepth 100000 in
theorem c_about (l : Launch) (hl : l.stackTraces = false) {B : Nat} {D : va_G} {cI cZ cL cS cW : ClassId} {ad : Nat → Nat} {g : Nat → va_E} (w h : Nat) (hk hr : Bool) (sp wb : Int) (z : Int) (z1 : -2147483648 ≤ z) (z2 : z < 2147483648) (h0 : g 0 = xE ad w h hk hr sp wb) : vx_Met l y_A_about (Cond.code y_A_about b_A_about 2 (some .int) :: wG) (rmF 6 82 1 6) (wPc B D classes (tyL cI cZ cL cS cW) (Zs B) 95 [.ref (ad 0), .int (iI z)] ad g) (QI B D classes 95 (fun v ad1 g1 => ((z = 0 ∧ v = iI sp) ∨ (z = 1 ∧ v = iI wb)) ∧ ad = ad1 ∧ g = g1)) (QX B D classes 95 (fun E => E = "java/lang/IllegalArgumentException" ∧ ¬ (z = 0 ∨ z = 1)) ad g) 1 6 (aB B) := by
  refine ofXI (own := R_A) (by decide) rfl (Nat.le_of_ble_eq_true rfl) ?_
  intro p e s m below meth c Q C hlocks htab hQ hret hout
  change kV _ _ _ _ _ _ _ _ _ _ _ _ _ _ _ _ _ _ _ _ _ [(0, .ref (ad 0)), (1, .int (iI z))] _ _
  refine v_iload_n C d_A_about_0 rfl 1 rfl ?_
  by_cases hk1_0 : z = 0
  · refine v_lsw (tgt := 28) C d_A_about_1 (by omega) (by omega) (by decide) (by rw [hk1_0]) (by decide) ?_
    refine v_aload_n C d_A_about_28 rfl 0 rfl ?_
    refine gf_A_42 C (by omega) h0 rfl d_A_about_29 ?_
    exact hret _ _ _ _ _ _ _ (by omega) (by omega) d_A_about_32 ⟨Or.inl ⟨hk1_0, rfl⟩, rfl, rfl⟩
  by_cases hk1_1 : z = 1
  · refine v_lsw (tgt := 33) C d_A_about_1 (by omega) (by omega) (by decide) (by rw [hk1_1]) (by decide) ?_
    refine v_aload_n C d_A_about_33 rfl 0 rfl ?_
    refine gf_A_45 C (by omega) h0 rfl d_A_about_34 ?_
    exact hret _ _ _ _ _ _ _ (by omega) (by omega) d_A_about_37 ⟨Or.inr ⟨hk1_1, rfl⟩, rfl, rfl⟩
  refine v_lsw (tgt := 38) (off := 37) C d_A_about_1 (by omega) (by omega) (by decide) (lsw_out hk1_0 hk1_1) (by decide) ?_
  exact v_throwS (text := "what is 0 or 1") C hl hQ hlocks htab kl_A_62 in_IllegalArgumentException at_iae_in at_iae_ok at_iae_ot (by decide +kernel) (by decide +kernel) (by decide +kernel) d_A_about_38.1 d_A_about_41.1 d_A_about_42.1 d_A_about_44.1 d_A_about_47 (Nat.le_of_ble_eq_true rfl) (Nat.le_of_ble_eq_true rfl) (Nat.le_of_ble_eq_true rfl) (Nat.le_of_ble_eq_true rfl) (Nat.le_of_ble_eq_true rfl) (Nat.le_of_ble_eq_true rfl) ⟨rfl, by omega⟩
