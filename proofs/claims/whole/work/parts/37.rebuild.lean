set_option maxHeartbeats 1000000 in
set_option maxRecDepth 100000 in
theorem c_rebuild (l : Launch) (hl : l.stackTraces = false) {B : Nat} {D : va_G} {cI cZ cL cS cW : ClassId} {ad : Nat → Nat} {g : Nat → va_E} (w h : Nat) (hk hr : Bool) (sp wb : Int) (z : Int) (dr rb : Nat → Int32) (z1 : -2147483648 ≤ z) (z2 : z < 2147483648) (hw : 1 ≤ w ∧ w ≤ 16) (hh : 1 ≤ h ∧ h ≤ 16) (h0 : g 0 = xE ad w h hk hr sp wb) (h2 : g 2 = rfA cS 8 (shs ad 9)) (T : Nat → ShT) (hT : bdT T) (hsh : ∀ j, j < 8 → g (9 + 8 * j) = shE (ad (9 + 8 * j + 1)) (T j)) (nb : Nat → Nat) (bf : Nat → Nat → Int32) (hnb : ∀ j, j < 8 → nb j = 0 ∨ nb j = 481) (hbi : ∀ j, j < 8 → g (9 + 8 * j + 1) = inA cI (nb j) (bf j)) (h7 : g 7 = rfA cW 8 (shs ad 13)) (h6 : g 6 = inA cI 256 dr) (ct0 lo : Nat → Nat) (hws : ∀ j, j < 8 → g (13 + 8 * j) = wsE ((ct0 j : Nat) : Int) ((lo j : Nat) : Int) (ad (13 + 8 * j + 1)) (ad (13 + 8 * j + 2)) (ad (13 + 8 * j + 3))) (nw : Nat → Nat) (un uc re : Nat → Nat → Int32) (hnw : ∀ j, j < 8 → nw j = 0 ∨ nw j = 481) (hun : ∀ j, j < 8 → g (13 + 8 * j + 1) = inA cI (nw j) (un j)) (huc : ∀ j, j < 8 → g (13 + 8 * j + 2) = inA cI (nw j) (uc j)) (hre : ∀ j, j < 8 → g (13 + 8 * j + 3) = inA cI (nw j) (re j)) (hgeo : ∀ j, j < 8 → (T j).1 = true → okD (T j).2.2.1 (T j).2.2.2.1 ∧ (T j).2.2.2.2.1 = lzI (T j).2.2.1 (T j).2.2.2.1 w h ∧ (T j).2.2.2.2.2 = ctI (T j).2.2.1 (T j).2.2.2.1 w h ∧ nb j = 481) (hfil : ∀ j, j < 8 → (T j).2.1 = true → (T j).1 = true) (h5 : g 5 = inA cI 256 rb) : vx_Met l y_A_rebuild (Cond.code y_A_rebuild b_A_rebuild 4 (some .int) :: wG) (rmF 8 150 26 11556) (wPc B D classes (tyL cI cZ cL cS cW) (Zs B) 95 [.ref (ad 0), .int (iI z)] ad g) (QI B D classes 95 (fun v ad1 g1 => 0 ≤ z ∧ z < 256 ∧ (∀ j, j < 8 → Nat.testBit (mkM (fun j => Nat.testBit z.toNat j && (T j).1) 8) j = true → (T j).2.1 = true) ∧ ∃ (n : Nat) (K9 : Nat → Bool) (val rb1 : Nat → Int32) (hr1 : Bool) (wb1 : Int), Dn w h (fun j => Nat.testBit (mkM (fun j => Nat.testBit z.toNat j && (T j).1) 8) j) (fun j c => bnN (T j).2.2.1 (T j).2.2.2.1 w h (c % 16) (c / 16)) (fun j => ctN (T j).2.2.1 (T j).2.2.2.1 w h) bf n K9 val ∧ ((n < w * h ∧ v = iI (-1) ∧ rb1 = rb ∧ hr1 = hr ∧ wb1 = -1) ∨ (n = w * h ∧ hr1 = true ∧ (∀ c, K9 c = true → rb1 c = val c) ∧ ((v = iI 99 ∧ wb1 = -1 ∧ ∀ j, j < 8 → Nat.testBit (mkM (fun j => Nat.testBit z.toNat j && (T j).1) 8) j = true → ∀ k, k < ctN (T j).2.2.1 (T j).2.2.2.1 w h → rst w h K9 (fun c => bnN (T j).2.2.1 (T j).2.2.2.1 w h (c % 16) (c / 16)) (bf j) val k = 0) ∨ (∃ s0 k0 : Nat, s0 < 8 ∧ Nat.testBit (mkM (fun j => Nat.testBit z.toNat j && (T j).1) 8) s0 = true ∧ k0 < ctN (T s0).2.2.1 (T s0).2.2.2.1 w h ∧ rst w h K9 (fun c => bnN (T s0).2.2.1 (T s0).2.2.2.1 w h (c % 16) (c / 16)) (bf s0) val k0 ≠ 0 ∧ (∀ k, k < k0 → rst w h K9 (fun c => bnN (T s0).2.2.1 (T s0).2.2.2.1 w h (c % 16) (c / 16)) (bf s0) val k = 0) ∧ (∀ j, j < s0 → Nat.testBit (mkM (fun j => Nat.testBit z.toNat j && (T j).1) 8) j = true → ∀ k, k < ctN (T j).2.2.1 (T j).2.2.2.1 w h → rst w h K9 (fun c => bnN (T j).2.2.1 (T j).2.2.2.1 w h (c % 16) (c / 16)) (bf j) val k = 0) ∧ v = iI (s0 : Int) ∧ wb1 = (k0 : Int))))) ∧ g1 0 = xE ad1 w h hk hr1 (n : Int) wb1 ∧ g1 5 = inA cI 256 rb1 ∧ ∃ (dr1 : Nat → Int32) (ct1 lo1 nw1 : Nat → Nat) (un1 uc1 re1 : Nat → Nat → Int32), (∀ j, j < 8 → nw1 j = 0 ∨ nw1 j = 481) ∧ (∀ j, j < 8 → nw j = 481 → nw1 j = 481) ∧ g1 6 = inA cI 256 dr1 ∧ (∀ j, j < 8 → g1 (13 + 8 * j) = wsE ((ct1 j : Nat) : Int) ((lo1 j : Nat) : Int) (ad1 (13 + 8 * j + 1)) (ad1 (13 + 8 * j + 2)) (ad1 (13 + 8 * j + 3))) ∧ (∀ j, j < 8 → g1 (13 + 8 * j + 1) = inA cI (nw1 j) (un1 j)) ∧ (∀ j, j < 8 → g1 (13 + 8 * j + 2) = inA cI (nw1 j) (uc1 j)) ∧ (∀ j, j < 8 → g1 (13 + 8 * j + 3) = inA cI (nw1 j) (re1 j)) ∧ (∀ r1, r1 ≠ 0 → r1 ≠ 5 → r1 ≠ 6 → (∀ j9, j9 < 8 → r1 ≠ 13 + 8 * j9) → (∀ j9, j9 < 8 → r1 ≠ 13 + 8 * j9 + 1) → (∀ j9, j9 < 8 → r1 ≠ 13 + 8 * j9 + 2) → (∀ j9, j9 < 8 → r1 ≠ 13 + 8 * j9 + 3) → g1 r1 = g r1) ∧ ∀ r1, (∀ j9, j9 < 8 → r1 ≠ 13 + 8 * j9 + 1) → (∀ j9, j9 < 8 → r1 ≠ 13 + 8 * j9 + 2) → (∀ j9, j9 < 8 → r1 ≠ 13 + 8 * j9 + 3) → ad1 r1 = ad r1)) (QX B D classes 95 (fun E => (E = "java/lang/IllegalArgumentException" ∧ ¬ (0 ≤ z ∧ z < 256)) ∨ (E = "java/lang/IllegalStateException" ∧ 0 ≤ z ∧ z < 256 ∧ ∃ j, j < 8 ∧ Nat.testBit z.toNat j = true ∧ (T j).1 = true ∧ (T j).2.1 = false)) ad g) 26 11556 (aB B) := by
  refine ofXI (own := R_A) (by decide) rfl (Nat.le_of_ble_eq_true rfl) ?_
  intro p e s m below meth c Q C hlocks htab hQ hret hout
  change kV _ _ _ _ _ _ _ _ _ _ _ _ _ _ _ _ _ _ _ _ _ [(0, .ref (ad 0)), (1, .int (iI z))] _ _
  refine v_iload_n C d_A_rebuild_0 rfl 1 rfl ?_
  refine v_xcallSV (As := [.int (iI z)]) (st := []) C (c_requireMask l hl z z1 z2) (lk_A_142 C.1.2.2.2.2 rfl rfl ⟨Nat.le_of_ble_eq_true rfl, Nat.le_of_ble_eq_true rfl⟩) rfl rfl (Nat.le_of_ble_eq_true rfl) d_A_rebuild_1 ⟨Nat.le_of_ble_eq_true rfl, Nat.le_of_ble_eq_true rfl⟩ (fun E hE => hout E _ _ _ _ _ (Or.inl hE) (Nat.le_of_ble_eq_true rfl) (Nat.le_of_ble_eq_true rfl)) (fun ad1 g1 hp1 => ?_)
  obtain ⟨hz1, hz2, rfl, rfl⟩ := hp1
  have hM0 : ((z.toNat : Nat) : Int) = z := by omega
  refine v_lvE (lv' := [(0, .ref (ad 0)), (1, .int (iI (z.toNat : Int)))]) (by rw [hM0]) ?_
  refine v_aload_n C d_A_rebuild_4 rfl 0 rfl ?_
  refine v_iload_n C d_A_rebuild_5 rfl 1 rfl ?_
  refine v_callVI (As := [.int (iI (z.toNat : Int))]) (st := []) (by omega) h0 rfl rfl C (c_aimedOf l w h hk hr sp wb z.toNat (by omega) h0 h2 T hT hsh) (lk_A_145 C.1.2.2.2.2 rfl rfl ⟨Nat.le_of_ble_eq_true rfl, Nat.le_of_ble_eq_true rfl⟩) rfl rfl (Nat.le_of_ble_eq_true rfl) d_A_rebuild_6 ⟨Nat.le_of_ble_eq_true rfl, Nat.le_of_ble_eq_true rfl⟩ (fun w2 ad2 g2 hp2 => ?_)
  obtain ⟨rfl, rfl, rfl⟩ := hp2
  obtain ⟨M, hMe⟩ : ∃ M, M = mkM (fun j => Nat.testBit z.toNat j && (T j).1) 8 := ⟨_, rfl⟩
  rw [← hMe]
  have hM : M < 256 := by rw [hMe]; exact mkM_lt _ 8
  have hbit : ∀ j, j < 8 → Nat.testBit M j = (Nat.testBit z.toNat j && (T j).1) := fun j hj => by rw [hMe]; exact mkM_bit _ j hj
  refine v_istore_n (lv' := [(2, .int (iI (M : Int))), (0, .ref (ad 0)), (1, .int (iI (z.toNat : Int)))]) C d_A_rebuild_9 rfl (by decide) rfl ?_
  refine v_iload_n C d_A_rebuild_10 rfl 0 rfl ?_
  refine v_aload_n C d_A_rebuild_11 rfl 1 rfl ?_
  refine v_callVI (As := []) (st := [.int (iI (M : Int))]) (by omega) h0 rfl rfl C (c_filledShelves l w h hk hr sp wb h0 h2 T hT hsh) (lk_A_153 C.1.2.2.2.2 rfl rfl ⟨Nat.le_of_ble_eq_true rfl, Nat.le_of_ble_eq_true rfl⟩) rfl rfl (Nat.le_of_ble_eq_true rfl) d_A_rebuild_12 ⟨Nat.le_of_ble_eq_true rfl, Nat.le_of_ble_eq_true rfl⟩ (fun w3 ad3 g3 hp3 => ?_)
  obtain ⟨rfl, rfl, rfl⟩ := hp3
  obtain ⟨Mf, hMf⟩ : ∃ M, M = mkM (fun j => (T j).2.1) 8 := ⟨_, rfl⟩
  rw [← hMf]
  have hbitf : ∀ j, j < 8 → Nat.testBit Mf j = (T j).2.1 := fun j hj => by rw [hMf]; exact mkM_bit _ j hj
  refine v_iconst C d_A_rebuild_15 ?_
  refine v_ixor C d_A_rebuild_16 ?_
  refine v_iand C d_A_rebuild_17 ?_
  refine v_if_ne C d_A_rebuild_18 (fun hb18 => ?_) (fun hb18 => ?_)
  · refine v_iconst C d_A_rebuild_25 ?_
    have hlack : ∃ j, j < 8 ∧ Nat.testBit z.toNat j = true ∧ (T j).1 = true ∧ (T j).2.1 = false := by
      apply Classical.byContradiction
      intro hno
      apply hb18
      rw [and_not hM]
      intro j hj hb
      rw [hbitf j hj]
      have hb2 := hb
      rw [hbit j hj] at hb2
      have hb3 := (Bool.and_eq_true _ _).mp hb2
      apply Classical.byContradiction
      intro hf
      exact hno ⟨j, hj, hb3.1, hb3.2, Bool.eq_false_iff.mpr hf⟩
    refine v_xcallSV (As := [.int (bI false)]) (st := []) C (c_requireState l hl false) (lk_A_86 C.1.2.2.2.2 rfl rfl ⟨Nat.le_of_ble_eq_true rfl, Nat.le_of_ble_eq_true rfl⟩) rfl rfl (Nat.le_of_ble_eq_true rfl) d_A_rebuild_26 ⟨Nat.le_of_ble_eq_true rfl, Nat.le_of_ble_eq_true rfl⟩ (fun E hE => hout E _ _ _ _ _ (Or.inr ⟨hE.1, by omega, by omega, hlack⟩) (Nat.le_of_ble_eq_true rfl) (Nat.le_of_ble_eq_true rfl)) (fun ad4 g4 hp4 => ?_)
    obtain ⟨hst, rfl, rfl⟩ := hp4
    exact absurd hst (by decide)
  · refine v_iconst C d_A_rebuild_21 ?_
    refine v_goto C d_A_rebuild_22 ?_
    refine v_xcallSV (As := [.int (bI true)]) (st := []) C (c_requireState l hl true) (lk_A_86 C.1.2.2.2.2 rfl rfl ⟨Nat.le_of_ble_eq_true rfl, Nat.le_of_ble_eq_true rfl⟩) rfl rfl (Nat.le_of_ble_eq_true rfl) d_A_rebuild_26 ⟨Nat.le_of_ble_eq_true rfl, Nat.le_of_ble_eq_true rfl⟩ (fun E hE => hout E _ _ _ _ _ (absurd hE.2 (by decide)) (Nat.le_of_ble_eq_true rfl) (Nat.le_of_ble_eq_true rfl)) (fun ad5 g5 hp5 => ?_)
    obtain ⟨hst, rfl, rfl⟩ := hp5
    have hall : ∀ j, j < 8 → Nat.testBit M j = true → (T j).2.1 = true := fun j hj z9 => by rw [← hbitf j hj]; exact (and_not hM).mp hb18 j hj z9
    have hus : ∀ j, j < 8 → Nat.testBit M j = true → (T j).1 = true := fun j hj z9 => hfil j hj (hall j hj z9)
    refine v_aload_n C d_A_rebuild_29 rfl 1 rfl ?_
    refine v_aload_n C d_A_rebuild_30 rfl 1 rfl ?_
    refine v_iload_n C d_A_rebuild_31 rfl 0 rfl ?_
    refine v_callVI (As := [.int (iI (M : Int))]) (st := [.ref (ad 0)]) (by omega) h0 rfl rfl C (c_solve l w h hk hr sp wb M 8 hM dr hw hh h0 h2 T hT hsh nb bf hnb hbi h7 h6 ct0 lo hws nw un uc re hnw hun huc hre (fun j hj z9 => hgeo j hj (hus j hj z9)) (cN_le8 (fun i _ => by show (if Nat.testBit M i = true ∧ nw i = 0 then 1 else 0) ≤ 1; split <;> omega))) (lk_A_157 C.1.2.2.2.2 rfl rfl ⟨Nat.le_of_ble_eq_true rfl, Nat.le_of_ble_eq_true rfl⟩) rfl rfl (Nat.le_of_ble_eq_true rfl) d_A_rebuild_32 ⟨Nat.le_of_ble_eq_true rfl, Nat.le_of_ble_eq_true rfl⟩ (fun w6 ad6 g6 hp6 => ?_)
    obtain ⟨n9, K9, val, dr1, ct1, lo1, nw1, un1, uc1, re1, hDn, hvv, hdr, hwk, hnu, h6, hws, hun, huc, hre, fr6, hA6⟩ := hp6
    subst hvv
    have hnw1 : ∀ j, j < 8 → nw1 j = 0 ∨ nw1 j = 481 := fun j hj => by by_cases hz : Nat.testBit M j = true; exact Or.inr (hwk j hj hz).1; rw [hnu j hj hz]; exact hnw j hj
    have hnw2 : ∀ j, j < 8 → nw j = 481 → nw1 j = 481 := fun j hj q => by by_cases hz : Nat.testBit M j = true; exact (hwk j hj hz).1; rw [hnu j hj hz]; exact q
    have hle9 := Rn_le hDn.1 hw.2 hh.2
    have hwh : (w : Int) * (h : Int) ≤ 256 ∧ 1 ≤ (w : Int) * (h : Int) := by
      have z1 : (w : Int) * (h : Int) ≤ 16 * (h : Int) := Int.mul_le_mul_of_nonneg_right (by omega) (by omega)
      have z2 : 1 * (h : Int) ≤ (w : Int) * (h : Int) := Int.mul_le_mul_of_nonneg_right (by omega) (by omega)
      omega
    have hwn : ((w * h : Nat) : Int) = (w : Int) * (h : Int) := Int.natCast_mul w h
    have h0 := (fr6 0 (by omega) (fun j9 hj9 => by omega) (fun j9 hj9 => by omega) (fun j9 hj9 => by omega) (fun j9 hj9 => by omega)).trans h0
    have h2 := (fr6 2 (by omega) (fun j9 hj9 => by omega) (fun j9 hj9 => by omega) (fun j9 hj9 => by omega) (fun j9 hj9 => by omega)).trans h2
    have h7 := (fr6 7 (by omega) (fun j9 hj9 => by omega) (fun j9 hj9 => by omega) (fun j9 hj9 => by omega) (fun j9 hj9 => by omega)).trans h7
    have h5 := (fr6 5 (by omega) (fun j9 hj9 => by omega) (fun j9 hj9 => by omega) (fun j9 hj9 => by omega) (fun j9 hj9 => by omega)).trans h5
    have hsh := fun j9 (hj9 : j9 < 8) => (fr6 (9 + 8 * j9) (by omega) (fun j8 hj8 => by omega) (fun j8 hj8 => by omega) (fun j8 hj8 => by omega) (fun j8 hj8 => by omega)).trans (hsh j9 hj9)
    have hbi := fun j9 (hj9 : j9 < 8) => (fr6 (9 + 8 * j9 + 1) (by omega) (fun j8 hj8 => by omega) (fun j8 hj8 => by omega) (fun j8 hj8 => by omega) (fun j8 hj8 => by omega)).trans (hbi j9 hj9)
    refine v_lvE (lv' := [(2, .int (iI (M : Int))), (0, .ref (ad6 0)), (1, .int (iI (z.toNat : Int)))]) (by rw [hA6 0 (fun j9 hj9 => by omega) (fun j9 hj9 => by omega) (fun j9 hj9 => by omega)]) ?_
    refine v_stE (st' := [.int (iI (n9 : Int)), .ref (ad6 0)]) (by rw [hA6 0 (fun j9 hj9 => by omega) (fun j9 hj9 => by omega) (fun j9 hj9 => by omega)]) ?_
    have h0 : g6 0 = .inr (0, [.int (iI (w : Int)), .int (iI (h : Int)), .ref (ad6 1), .ref (ad6 2), .int (bI hk), .ref (ad6 3), .ref (ad6 4), .int (bI hr), .ref (ad6 5), .int (iI sp), .int (iI wb), .ref (ad6 6), .ref (ad6 7), .ref (ad6 8)]) := by rw [hA6 1 (fun j9 hj9 => by omega) (fun j9 hj9 => by omega) (fun j9 hj9 => by omega), hA6 2 (fun j9 hj9 => by omega) (fun j9 hj9 => by omega) (fun j9 hj9 => by omega), hA6 3 (fun j9 hj9 => by omega) (fun j9 hj9 => by omega) (fun j9 hj9 => by omega), hA6 4 (fun j9 hj9 => by omega) (fun j9 hj9 => by omega) (fun j9 hj9 => by omega), hA6 5 (fun j9 hj9 => by omega) (fun j9 hj9 => by omega) (fun j9 hj9 => by omega), hA6 6 (fun j9 hj9 => by omega) (fun j9 hj9 => by omega) (fun j9 hj9 => by omega), hA6 7 (fun j9 hj9 => by omega) (fun j9 hj9 => by omega) (fun j9 hj9 => by omega), hA6 8 (fun j9 hj9 => by omega) (fun j9 hj9 => by omega) (fun j9 hj9 => by omega)]; exact h0
    have h2 : g6 2 = rfA cS 8 (shs ad6 9) := h2.trans (by rw [shs_ad (ad1 := ad6) (fun s9 => hA6 _ (fun j9 hj9 => by omega) (fun j9 hj9 => by omega) (fun j9 hj9 => by omega))])
    have h7 : g6 7 = rfA cW 8 (shs ad6 13) := h7.trans (by rw [shs_ad (ad1 := ad6) (fun s9 => hA6 _ (fun j9 hj9 => by omega) (fun j9 hj9 => by omega) (fun j9 hj9 => by omega))])
    have hsh : ∀ j9, j9 < 8 → g6 (9 + 8 * j9) = .inr (1, [.int (bI ((T j9).1)), .int (bI ((T j9).2.1)), .int (iI ((T j9).2.2.1)), .int (iI ((T j9).2.2.2.1)), .int (iI ((T j9).2.2.2.2.1)), .int (iI ((T j9).2.2.2.2.2)), .ref (ad6 (9 + 8 * j9 + 1))]) := fun j9 hj9 => by rw [hA6 (9 + 8 * j9 + 1) (fun j8 hj8 => by omega) (fun j8 hj8 => by omega) (fun j8 hj8 => by omega)]; exact hsh j9 hj9
    have hrs : ∀ j, j < 8 → Nat.testBit M j = true → ∀ k, k < ctN (T j).2.2.1 (T j).2.2.2.1 w h → re1 j k = rst w h K9 (fun c => bnN (T j).2.2.1 (T j).2.2.2.1 w h (c % 16) (c / 16)) (bf j) val k := fun j hj z k hk9 => (hwk j hj z).2.2.2.2.2.2 k hk9
    refine pf_A_42 (fs' := [.int (iI (w : Int)), .int (iI (h : Int)), .ref (ad6 1), .ref (ad6 2), .int (bI hk), .ref (ad6 3), .ref (ad6 4), .int (bI hr), .ref (ad6 5), .int (iI (n9 : Int)), .int (iI wb), .ref (ad6 6), .ref (ad6 7), .ref (ad6 8)]) C (by omega) h0 rfl rfl (Nat.le_of_ble_eq_true rfl) rfl d_A_rebuild_35 (fun g7 h0 fr8 => ?_)
    have h2 := (fr8 2 (by omega)).trans h2
    have h7 := (fr8 7 (by omega)).trans h7
    have h5 := (fr8 5 (by omega)).trans h5
    have h6 := (fr8 6 (by omega)).trans h6
    have hsh := fun j9 (hj9 : j9 < 8) => (fr8 (9 + 8 * j9) (by omega)).trans (hsh j9 hj9)
    have hbi := fun j9 (hj9 : j9 < 8) => (fr8 (9 + 8 * j9 + 1) (by omega)).trans (hbi j9 hj9)
    have hws := fun j9 (hj9 : j9 < 8) => (fr8 (13 + 8 * j9) (by omega)).trans (hws j9 hj9)
    have hun := fun j9 (hj9 : j9 < 8) => (fr8 (13 + 8 * j9 + 1) (by omega)).trans (hun j9 hj9)
    have huc := fun j9 (hj9 : j9 < 8) => (fr8 (13 + 8 * j9 + 2) (by omega)).trans (huc j9 hj9)
    have hre := fun j9 (hj9 : j9 < 8) => (fr8 (13 + 8 * j9 + 3) (by omega)).trans (hre j9 hj9)
    refine v_aload_n C d_A_rebuild_38 rfl 1 rfl ?_
    refine v_iconst C d_A_rebuild_39 ?_
    refine pf_A_45 (fs' := [.int (iI (w : Int)), .int (iI (h : Int)), .ref (ad6 1), .ref (ad6 2), .int (bI hk), .ref (ad6 3), .ref (ad6 4), .int (bI hr), .ref (ad6 5), .int (iI (n9 : Int)), .int (iI (-1)), .ref (ad6 6), .ref (ad6 7), .ref (ad6 8)]) C (by omega) h0 rfl rfl (Nat.le_of_ble_eq_true rfl) rfl d_A_rebuild_40 (fun g9 h0 fr10 => ?_)
    have h2 := (fr10 2 (by omega)).trans h2
    have h7 := (fr10 7 (by omega)).trans h7
    have h5 := (fr10 5 (by omega)).trans h5
    have h6 := (fr10 6 (by omega)).trans h6
    have hsh := fun j9 (hj9 : j9 < 8) => (fr10 (9 + 8 * j9) (by omega)).trans (hsh j9 hj9)
    have hbi := fun j9 (hj9 : j9 < 8) => (fr10 (9 + 8 * j9 + 1) (by omega)).trans (hbi j9 hj9)
    have hws := fun j9 (hj9 : j9 < 8) => (fr10 (13 + 8 * j9) (by omega)).trans (hws j9 hj9)
    have hun := fun j9 (hj9 : j9 < 8) => (fr10 (13 + 8 * j9 + 1) (by omega)).trans (hun j9 hj9)
    have huc := fun j9 (hj9 : j9 < 8) => (fr10 (13 + 8 * j9 + 2) (by omega)).trans (huc j9 hj9)
    have hre := fun j9 (hj9 : j9 < 8) => (fr10 (13 + 8 * j9 + 3) (by omega)).trans (hre j9 hj9)
    refine v_aload_n C d_A_rebuild_43 rfl 1 rfl ?_
    refine gf_A_42 C (by omega) h0 rfl d_A_rebuild_44 ?_
    refine v_aload_n C d_A_rebuild_47 rfl 1 rfl ?_
    refine gf_A_9 C (by omega) h0 rfl d_A_rebuild_48 ?_
    refine v_aload_n C d_A_rebuild_51 rfl 1 rfl ?_
    refine gf_A_13 C (by omega) h0 rfl d_A_rebuild_52 ?_
    refine v_imulI C d_A_rebuild_55 ?_
    refine v_icmp_geI C d_A_rebuild_56 (by omega) (by omega) (by omega) (by omega) (fun hb56 => ?_) (fun hb56 => ?_)
    · refine v_aload_n C d_A_rebuild_61 rfl 1 rfl ?_
      refine gf_A_48 C (by omega) h0 rfl d_A_rebuild_62 ?_
      refine v_iconst C d_A_rebuild_65 ?_
      refine v_aload_n C d_A_rebuild_66 rfl 1 rfl ?_
      refine gf_A_39 C (by omega) h0 rfl d_A_rebuild_67 ?_
      refine v_iconst C d_A_rebuild_70 ?_
      refine v_sipush C d_A_rebuild_71 (by decide +kernel) ?_
      refine v_copy (n := 256) C ml_A_160 nm_arraycopyName sm_arraycopyName in_Y 0 rfl (by omega) h6 (by omega) h5 rfl (by omega) (by omega) (by omega) (Nat.le_of_ble_eq_true rfl) (by decide +kernel) d_A_rebuild_74 (fun g11 h5 fr12 => ?_)
      have h0 := (fr12 0 (by omega)).trans h0
      have h2 := (fr12 2 (by omega)).trans h2
      have h7 := (fr12 7 (by omega)).trans h7
      have h6 := (fr12 6 (by omega)).trans h6
      have hsh := fun j9 (hj9 : j9 < 8) => (fr12 (9 + 8 * j9) (by omega)).trans (hsh j9 hj9)
      have hbi := fun j9 (hj9 : j9 < 8) => (fr12 (9 + 8 * j9 + 1) (by omega)).trans (hbi j9 hj9)
      have hws := fun j9 (hj9 : j9 < 8) => (fr12 (13 + 8 * j9) (by omega)).trans (hws j9 hj9)
      have hun := fun j9 (hj9 : j9 < 8) => (fr12 (13 + 8 * j9 + 1) (by omega)).trans (hun j9 hj9)
      have huc := fun j9 (hj9 : j9 < 8) => (fr12 (13 + 8 * j9 + 2) (by omega)).trans (huc j9 hj9)
      have hre := fun j9 (hj9 : j9 < 8) => (fr12 (13 + 8 * j9 + 3) (by omega)).trans (hre j9 hj9)
      refine v_aload_n C d_A_rebuild_77 rfl 1 rfl ?_
      refine v_iconst C d_A_rebuild_78 ?_
      refine pf_A_36 (fs' := [.int (iI (w : Int)), .int (iI (h : Int)), .ref (ad6 1), .ref (ad6 2), .int (bI hk), .ref (ad6 3), .ref (ad6 4), .int (iI 1), .ref (ad6 5), .int (iI (n9 : Int)), .int (iI (-1)), .ref (ad6 6), .ref (ad6 7), .ref (ad6 8)]) C (by omega) h0 rfl rfl (Nat.le_of_ble_eq_true rfl) rfl d_A_rebuild_79 (fun g13 h0 fr14 => ?_)
      have h2 := (fr14 2 (by omega)).trans h2
      have h7 := (fr14 7 (by omega)).trans h7
      have h5 := (fr14 5 (by omega)).trans h5
      have h6 := (fr14 6 (by omega)).trans h6
      have hsh := fun j9 (hj9 : j9 < 8) => (fr14 (9 + 8 * j9) (by omega)).trans (hsh j9 hj9)
      have hbi := fun j9 (hj9 : j9 < 8) => (fr14 (9 + 8 * j9 + 1) (by omega)).trans (hbi j9 hj9)
      have hws := fun j9 (hj9 : j9 < 8) => (fr14 (13 + 8 * j9) (by omega)).trans (hws j9 hj9)
      have hun := fun j9 (hj9 : j9 < 8) => (fr14 (13 + 8 * j9 + 1) (by omega)).trans (hun j9 hj9)
      have huc := fun j9 (hj9 : j9 < 8) => (fr14 (13 + 8 * j9 + 2) (by omega)).trans (huc j9 hj9)
      have hre := fun j9 (hj9 : j9 < 8) => (fr14 (13 + 8 * j9 + 3) (by omega)).trans (hre j9 hj9)
      refine v_aload_n C d_A_rebuild_82 rfl 1 rfl ?_
      refine v_iload_n C d_A_rebuild_83 rfl 0 rfl ?_
      refine v_callVI (As := [.int (iI (M : Int))]) (st := []) (by omega) h0 rfl rfl C (c_lowestWrongShelf l w h hk true (n9 : Int) (-1) M hM nw1 re1 h0 h7 ct1 lo1 hws hre (fun j hj z9 => by obtain ⟨a1, a2, -⟩ := hwk j hj z9; exact ⟨a1, by rw [a2]; exact (ct_nat (hgeo j hj (hus j hj z9)).1 hw.2 hh.2 hw.1 hh.1).1⟩)) (lk_A_166 C.1.2.2.2.2 rfl rfl ⟨Nat.le_of_ble_eq_true rfl, Nat.le_of_ble_eq_true rfl⟩) rfl rfl (Nat.le_of_ble_eq_true rfl) d_A_rebuild_84 ⟨Nat.le_of_ble_eq_true rfl, Nat.le_of_ble_eq_true rfl⟩ (fun w15 ad15 g15 hp15 => ?_)
      obtain ⟨⟨s0, hs8, hU0, rfl, ⟨k0, hk0, hk1⟩, hbef⟩ | ⟨rfl, hnone⟩, hadr, hgr⟩ := hp15
      · subst hadr; subst hgr
        refine v_istore_n (lv' := [(3, .int (iI (s0 : Int))), (2, .int (iI (M : Int))), (0, .ref (ad6 0)), (1, .int (iI (z.toNat : Int)))]) C d_A_rebuild_87 rfl (by decide) rfl ?_
        refine v_iload_n C d_A_rebuild_88 rfl 0 rfl ?_
        refine v_iconst C d_A_rebuild_89 ?_
        refine v_icmp_neI C d_A_rebuild_90 (by omega) (by omega) (by omega) (by omega) (fun hb90 => ?_) (fun hb90 => ?_)
        · refine v_aload_n C d_A_rebuild_96 rfl 2 rfl ?_
          refine v_aload_n C d_A_rebuild_97 rfl 2 rfl ?_
          refine gf_A_53 C (by omega) h0 rfl d_A_rebuild_98 ?_
          refine v_iload_n C d_A_rebuild_101 rfl 0 rfl ?_
          refine v_aald C 4 (by omega) h7 rfl (s0 : Nat) (by omega) (by omega) (by omega) (rfl) d_A_rebuild_102 ?_
          have hq16 := hws (s0 : Nat) (by omega)
          have hq17 := hre (s0 : Nat) (by omega)
          obtain ⟨m1, m2, -⟩ := hwk s0 hs8 hU0
          have m3 := (ct_nat (hgeo s0 hs8 (hus s0 hs8 hU0)).1 hw.2 hh.2 hw.1 hh.1).1
          rw [m1] at hq17
          refine v_callVI (As := []) (st := [.ref (ad6 0)]) (by omega) hq16 rfl rfl C (c_lowestWrongBin l (13 + 8 * (s0 : Nat)) (ct1 s0) ((lo1 s0 : Nat) : Int) (re1 s0) (by omega) (by omega) hq16 hq17) (lk_A_169 C.1.2.2.2.2 rfl rfl ⟨Nat.le_of_ble_eq_true rfl, Nat.le_of_ble_eq_true rfl⟩) rfl rfl (Nat.le_of_ble_eq_true rfl) d_A_rebuild_103 ⟨Nat.le_of_ble_eq_true rfl, Nat.le_of_ble_eq_true rfl⟩ (fun w18 ad18 g18 hp18 => ?_)
          obtain ⟨hor, hadr, hgr⟩ := hp18
          rcases hor with ⟨k9, hk9, rfl, hk8, hk7⟩ | ⟨-, hk7⟩
          rotate_left
          · exact absurd (hk7 k0 hk0) hk1
          subst hadr; subst hgr
          refine pf_A_45 (fs' := [.int (iI (w : Int)), .int (iI (h : Int)), .ref (ad6 1), .ref (ad6 2), .int (bI hk), .ref (ad6 3), .ref (ad6 4), .int (iI 1), .ref (ad6 5), .int (iI (n9 : Int)), .int (iI (k9 : Int)), .ref (ad6 6), .ref (ad6 7), .ref (ad6 8)]) C (by omega) h0 rfl rfl (Nat.le_of_ble_eq_true rfl) rfl d_A_rebuild_106 (fun g19 h0 fr20 => ?_)
          have h2 := (fr20 2 (by omega)).trans h2
          have h7 := (fr20 7 (by omega)).trans h7
          have h5 := (fr20 5 (by omega)).trans h5
          have h6 := (fr20 6 (by omega)).trans h6
          have hq16 := (fr20 (13 + 8 * (s0 : Nat)) (by omega)).trans hq16
          have hq17 := (fr20 (13 + 8 * (s0 : Nat) + 3) (by omega)).trans hq17
          have hsh := fun j9 (hj9 : j9 < 8) => (fr20 (9 + 8 * j9) (by omega)).trans (hsh j9 hj9)
          have hbi := fun j9 (hj9 : j9 < 8) => (fr20 (9 + 8 * j9 + 1) (by omega)).trans (hbi j9 hj9)
          have hws := fun j9 (hj9 : j9 < 8) => (fr20 (13 + 8 * j9) (by omega)).trans (hws j9 hj9)
          have hun := fun j9 (hj9 : j9 < 8) => (fr20 (13 + 8 * j9 + 1) (by omega)).trans (hun j9 hj9)
          have huc := fun j9 (hj9 : j9 < 8) => (fr20 (13 + 8 * j9 + 2) (by omega)).trans (huc j9 hj9)
          have hre := fun j9 (hj9 : j9 < 8) => (fr20 (13 + 8 * j9 + 3) (by omega)).trans (hre j9 hj9)
          refine v_iload_n C d_A_rebuild_109 rfl 0 rfl ?_
          have m4 : k9 < ctN (T s0).2.2.1 (T s0).2.2.2.1 w h := by rw [m2] at hk9; exact hk9
          exact hret _ _ _ _ _ _ _ (by omega) (by omega) d_A_rebuild_110 ⟨by omega, by omega, by rw [← hMe]; exact hall, n9, K9, val, _, true, (k9 : Int), by rw [← hMe]; exact hDn, Or.inr ⟨by omega, rfl, fun c hc => (pk_cpy_in (Nat.zero_le _) (by have := (Rn_known n9 hDn.1).1 c hc; omega)).trans (by rw [Nat.zero_add, Nat.sub_zero]; exact hdr c hc), Or.inr ⟨s0, k9, hs8, by rw [← hMe]; exact hU0, m4, fun q => hk8 ((hrs s0 hs8 hU0 k9 m4).trans q), fun k hk6 => (hrs s0 hs8 hU0 k (by omega)).symm.trans (hk7 k hk6), fun j hj z9 k hk6 => (hrs j (by omega) (by rw [hMe]; exact z9) k hk6).symm.trans (hbef j hj (by rw [hMe]; exact z9) k (by rw [(hwk j (by omega) (by rw [hMe]; exact z9)).2.1]; exact hk6)), rfl, rfl⟩⟩, h0, h5, dr1, ct1, lo1, nw1, un1, uc1, re1, hnw1, hnw2, h6, hws, hun, huc, hre, (fun r1 n0 n1 n2 n3 n4 n5 n6 => ((fr20 r1 n0).trans ((fr14 r1 n0).trans ((fr12 r1 n1).trans ((fr10 r1 n0).trans ((fr8 r1 n0).trans (fr6 r1 n2 n3 n4 n5 n6))))))), (fun r1 n0 n1 n2 => (hA6 r1 n0 n1 n2))⟩
        · refine v_bipush C d_A_rebuild_93 (by decide +kernel) ?_
          first | exact absurd hb90 (by omega) | exact hret _ _ _ _ _ _ _ (by omega) (by omega) d_A_rebuild_95 ⟨by omega, by omega, by rw [← hMe]; exact hall, n9, K9, val, _, true, -1, by rw [← hMe]; exact hDn, Or.inr ⟨by omega, rfl, fun c hc => (pk_cpy_in (Nat.zero_le _) (by have := (Rn_known n9 hDn.1).1 c hc; omega)).trans (by rw [Nat.zero_add, Nat.sub_zero]; exact hdr c hc), Or.inl ⟨rfl, rfl, fun j hj z9 k hk9 => (hrs j hj (by rw [hMe]; exact z9) k hk9).symm.trans (hnone j hj (by rw [hMe]; exact z9) k (by rw [(hwk j hj (by rw [hMe]; exact z9)).2.1]; exact hk9))⟩⟩, h0, h5, dr1, ct1, lo1, nw1, un1, uc1, re1, hnw1, hnw2, h6, hws, hun, huc, hre, (fun r1 n0 n1 n2 n3 n4 n5 n6 => ((fr14 r1 n0).trans ((fr12 r1 n1).trans ((fr10 r1 n0).trans ((fr8 r1 n0).trans (fr6 r1 n2 n3 n4 n5 n6)))))), (fun r1 n0 n1 n2 => (hA6 r1 n0 n1 n2))⟩
      · subst hadr; subst hgr
        refine v_istore_n (lv' := [(3, .int (iI (-1))), (2, .int (iI (M : Int))), (0, .ref (ad6 0)), (1, .int (iI (z.toNat : Int)))]) C d_A_rebuild_87 rfl (by decide) rfl ?_
        refine v_iload_n C d_A_rebuild_88 rfl 0 rfl ?_
        refine v_iconst C d_A_rebuild_89 ?_
        refine v_icmp_neI C d_A_rebuild_90 (by omega) (by omega) (by omega) (by omega) (fun hb90 => ?_) (fun hb90 => ?_)
        · exact absurd rfl hb90
        · refine v_bipush C d_A_rebuild_93 (by decide +kernel) ?_
          first | exact absurd hb90 (by omega) | exact hret _ _ _ _ _ _ _ (by omega) (by omega) d_A_rebuild_95 ⟨by omega, by omega, by rw [← hMe]; exact hall, n9, K9, val, _, true, -1, by rw [← hMe]; exact hDn, Or.inr ⟨by omega, rfl, fun c hc => (pk_cpy_in (Nat.zero_le _) (by have := (Rn_known n9 hDn.1).1 c hc; omega)).trans (by rw [Nat.zero_add, Nat.sub_zero]; exact hdr c hc), Or.inl ⟨rfl, rfl, fun j hj z9 k hk9 => (hrs j hj (by rw [hMe]; exact z9) k hk9).symm.trans (hnone j hj (by rw [hMe]; exact z9) k (by rw [(hwk j hj (by rw [hMe]; exact z9)).2.1]; exact hk9))⟩⟩, h0, h5, dr1, ct1, lo1, nw1, un1, uc1, re1, hnw1, hnw2, h6, hws, hun, huc, hre, (fun r1 n0 n1 n2 n3 n4 n5 n6 => ((fr14 r1 n0).trans ((fr12 r1 n1).trans ((fr10 r1 n0).trans ((fr8 r1 n0).trans (fr6 r1 n2 n3 n4 n5 n6)))))), (fun r1 n0 n1 n2 => (hA6 r1 n0 n1 n2))⟩
    · refine v_iconst C d_A_rebuild_59 ?_
      exact hret _ _ _ _ _ _ _ (by omega) (by omega) d_A_rebuild_60 ⟨by omega, by omega, by rw [← hMe]; exact hall, n9, K9, val, rb, hr, -1, by rw [← hMe]; exact hDn, Or.inl ⟨by omega, rfl, rfl, rfl, rfl⟩, h0, h5, dr1, ct1, lo1, nw1, un1, uc1, re1, hnw1, hnw2, h6, hws, hun, huc, hre, (fun r1 n0 n1 n2 n3 n4 n5 n6 => ((fr10 r1 n0).trans ((fr8 r1 n0).trans (fr6 r1 n2 n3 n4 n5 n6)))), (fun r1 n0 n1 n2 => (hA6 r1 n0 n1 n2))⟩
set_option maxHeartbeats 1000000 in
set_option maxRecDepth 100000 in
theorem c_regenerate (l : Launch) (hl : l.stackTraces = false) {B : Nat} {D : va_G} {cI cZ cL cS cW : ClassId} {ad : Nat → Nat} {g : Nat → va_E} (w h : Nat) (hk hr : Bool) (sp wb : Int) (z : Int) (dr : Nat → Int32) (z1 : -2147483648 ≤ z) (z2 : z < 2147483648) (hw : 1 ≤ w ∧ w ≤ 16) (hh : 1 ≤ h ∧ h ≤ 16) (h0 : g 0 = xE ad w h hk hr sp wb) (h2 : g 2 = rfA cS 8 (shs ad 9)) (T : Nat → ShT) (hT : bdT T) (hsh : ∀ j, j < 8 → g (9 + 8 * j) = shE (ad (9 + 8 * j + 1)) (T j)) (nb : Nat → Nat) (bf : Nat → Nat → Int32) (hnb : ∀ j, j < 8 → nb j = 0 ∨ nb j = 481) (hbi : ∀ j, j < 8 → g (9 + 8 * j + 1) = inA cI (nb j) (bf j)) (h7 : g 7 = rfA cW 8 (shs ad 13)) (h6 : g 6 = inA cI 256 dr) (ct0 lo : Nat → Nat) (hws : ∀ j, j < 8 → g (13 + 8 * j) = wsE ((ct0 j : Nat) : Int) ((lo j : Nat) : Int) (ad (13 + 8 * j + 1)) (ad (13 + 8 * j + 2)) (ad (13 + 8 * j + 3))) (nw : Nat → Nat) (un uc re : Nat → Nat → Int32) (hnw : ∀ j, j < 8 → nw j = 0 ∨ nw j = 481) (hun : ∀ j, j < 8 → g (13 + 8 * j + 1) = inA cI (nw j) (un j)) (huc : ∀ j, j < 8 → g (13 + 8 * j + 2) = inA cI (nw j) (uc j)) (hre : ∀ j, j < 8 → g (13 + 8 * j + 3) = inA cI (nw j) (re j)) (hgeo : ∀ j, j < 8 → (T j).1 = true → okD (T j).2.2.1 (T j).2.2.2.1 ∧ (T j).2.2.2.2.1 = lzI (T j).2.2.1 (T j).2.2.2.1 w h ∧ (T j).2.2.2.2.2 = ctI (T j).2.2.1 (T j).2.2.2.1 w h ∧ nb j = 481) (hfil : ∀ j, j < 8 → (T j).2.1 = true → (T j).1 = true) : vx_Met l y_A_regenerate (Cond.code y_A_regenerate b_A_regenerate 3 (some .boolean) :: wG) (rmF 8 150 26 11556) (wPc B D classes (tyL cI cZ cL cS cW) (Zs B) 95 [.ref (ad 0), .int (iI z)] ad g) (QI B D classes 95 (fun v9 ad1 g1 => ∃ v, v9 = bI v ∧ (∃ s0 : Nat, (s0 : Int) = z ∧ s0 < 8 ∧ (T s0).1 = true ∧ (T s0).2.1 = false ∧ ∃ (n : Nat) (K9 : Nat → Bool) (val : Nat → Int32) (fb : Nat → Int32) (t1 : ShT), Dn w h (fun j => Nat.testBit (mkM (fun j => (T j).2.1) 8) j) (fun j c => bnN (T j).2.2.1 (T j).2.2.2.1 w h (c % 16) (c / 16)) (fun j => ctN (T j).2.2.1 (T j).2.2.2.1 w h) bf n K9 val ∧ g1 (9 + 8 * s0 + 1) = inA cI 481 fb ∧ g1 (9 + 8 * s0) = shE (ad1 (9 + 8 * s0 + 1)) t1 ∧ ((n < w * h ∧ v = false ∧ fb = bf s0 ∧ t1 = T s0) ∨ (n = w * h ∧ v = true ∧ t1 = ((T s0).1, true, (T s0).2.2) ∧ ∃ d9, (∀ c, K9 c = true → d9 c = val c) ∧ fb = accY (bnN (T s0).2.2.1 (T s0).2.2.2.1 w h) d9 w h (fun _ => 0))) ∧ ∃ (dr1 : Nat → Int32) (ct1 lo1 nw1 : Nat → Nat) (un1 uc1 re1 : Nat → Nat → Int32), (∀ j, j < 8 → nw1 j = 0 ∨ nw1 j = 481) ∧ (∀ j, j < 8 → nw j = 481 → nw1 j = 481) ∧ g1 6 = inA cI 256 dr1 ∧ (∀ j, j < 8 → g1 (13 + 8 * j) = wsE ((ct1 j : Nat) : Int) ((lo1 j : Nat) : Int) (ad1 (13 + 8 * j + 1)) (ad1 (13 + 8 * j + 2)) (ad1 (13 + 8 * j + 3))) ∧ (∀ j, j < 8 → g1 (13 + 8 * j + 1) = inA cI (nw1 j) (un1 j)) ∧ (∀ j, j < 8 → g1 (13 + 8 * j + 2) = inA cI (nw1 j) (uc1 j)) ∧ (∀ j, j < 8 → g1 (13 + 8 * j + 3) = inA cI (nw1 j) (re1 j)) ∧ (∀ r1, r1 ≠ 9 + 8 * s0 + 1 → r1 ≠ 9 + 8 * s0 → r1 ≠ 6 → (∀ j9, j9 < 8 → r1 ≠ 13 + 8 * j9) → (∀ j9, j9 < 8 → r1 ≠ 13 + 8 * j9 + 1) → (∀ j9, j9 < 8 → r1 ≠ 13 + 8 * j9 + 2) → (∀ j9, j9 < 8 → r1 ≠ 13 + 8 * j9 + 3) → g1 r1 = g r1) ∧ ∀ r1, (∀ j9, j9 < 8 → r1 ≠ 13 + 8 * j9 + 1) → (∀ j9, j9 < 8 → r1 ≠ 13 + 8 * j9 + 2) → (∀ j9, j9 < 8 → r1 ≠ 13 + 8 * j9 + 3) → ad1 r1 = ad r1))) (QX B D classes 95 (fun E => (E = "java/lang/IndexOutOfBoundsException" ∧ ¬ (0 ≤ z ∧ z < 8)) ∨ (E = "java/lang/IllegalStateException" ∧ ∃ s0 : Nat, (s0 : Int) = z ∧ s0 < 8 ∧ ¬ ((T s0).1 = true ∧ (T s0).2.1 = false))) ad g) 26 11556 (aB B) := by
  refine ofXZ (own := R_A) (by decide) rfl (Nat.le_of_ble_eq_true rfl) ?_
  intro p e s m below meth c Q C hlocks htab hQ hret hout
  change kV _ _ _ _ _ _ _ _ _ _ _ _ _ _ _ _ _ _ _ _ _ [(0, .ref (ad 0)), (1, .int (iI z))] _ _
  refine v_iload_n C d_A_regenerate_0 rfl 1 rfl ?_
  refine v_xcallSV (As := [.int (iI z)]) (st := []) C (c_requireShelf l hl z z1 z2) (lk_A_95 C.1.2.2.2.2 rfl rfl ⟨Nat.le_of_ble_eq_true rfl, Nat.le_of_ble_eq_true rfl⟩) rfl rfl (Nat.le_of_ble_eq_true rfl) d_A_regenerate_1 ⟨Nat.le_of_ble_eq_true rfl, Nat.le_of_ble_eq_true rfl⟩ (fun E hE => hout E _ _ _ _ _ (Or.inl hE) (Nat.le_of_ble_eq_true rfl) (Nat.le_of_ble_eq_true rfl)) (fun ad1 g1 hp1 => ?_)
  obtain ⟨hz1, hz2, rfl, rfl⟩ := hp1
  obtain ⟨s0, hs0⟩ : ∃ s0 : Nat, (s0 : Int) = z := ⟨z.toNat, by omega⟩
  have hs8 : s0 < 8 := by omega
  refine v_aload_n C d_A_regenerate_4 rfl 0 rfl ?_
  refine gf_A_22 C (by omega) h0 rfl d_A_regenerate_5 ?_
  refine v_iload_n C d_A_regenerate_8 rfl 1 rfl ?_
  refine v_aald C 3 (by omega) h2 rfl s0 (hs0.symm) (hs8) (by omega) (rfl) d_A_regenerate_9 ?_
  refine v_astore_n (lv' := [(2, .ref (ad (9 + 8 * s0))), (0, .ref (ad 0)), (1, .int (iI z))]) C d_A_regenerate_10 rfl (by decide) rfl ?_
  refine v_aload_n C d_A_regenerate_11 rfl 0 rfl ?_
  have hq2 := hsh s0 (by omega)
  refine gf_A_117 C (by omega) hq2 rfl d_A_regenerate_12 ?_
  refine v_if_eqB C d_A_regenerate_15 (fun hb15 => ?_) (fun hb15 => ?_)
  · refine v_iconst C d_A_regenerate_29 ?_
    refine v_xcallSV (As := [.int (bI false)]) (st := []) C (c_requireState l hl false) (lk_A_86 C.1.2.2.2.2 rfl rfl ⟨Nat.le_of_ble_eq_true rfl, Nat.le_of_ble_eq_true rfl⟩) rfl rfl (Nat.le_of_ble_eq_true rfl) d_A_regenerate_30 ⟨Nat.le_of_ble_eq_true rfl, Nat.le_of_ble_eq_true rfl⟩ (fun E hE => hout E _ _ _ _ _ (Or.inr ⟨hE.1, s0, hs0, hs8, fun q => absurd q.1 (by rw [hb15]; decide)⟩) (Nat.le_of_ble_eq_true rfl) (Nat.le_of_ble_eq_true rfl)) (fun ad3 g3 hp3 => ?_)
    obtain ⟨hst, rfl, rfl⟩ := hp3
    exact absurd hst (by decide)
  · refine v_aload_n C d_A_regenerate_18 rfl 0 rfl ?_
    refine gf_A_129 C (by omega) hq2 rfl d_A_regenerate_19 ?_
    refine v_if_neB C d_A_regenerate_22 (fun hb22 => ?_) (fun hb22 => ?_)
    · refine v_iconst C d_A_regenerate_29 ?_
      refine v_xcallSV (As := [.int (bI false)]) (st := []) C (c_requireState l hl false) (lk_A_86 C.1.2.2.2.2 rfl rfl ⟨Nat.le_of_ble_eq_true rfl, Nat.le_of_ble_eq_true rfl⟩) rfl rfl (Nat.le_of_ble_eq_true rfl) d_A_regenerate_30 ⟨Nat.le_of_ble_eq_true rfl, Nat.le_of_ble_eq_true rfl⟩ (fun E hE => hout E _ _ _ _ _ (Or.inr ⟨hE.1, s0, hs0, hs8, fun q => absurd q.2 (by rw [hb22]; decide)⟩) (Nat.le_of_ble_eq_true rfl) (Nat.le_of_ble_eq_true rfl)) (fun ad4 g4 hp4 => ?_)
      obtain ⟨hst, rfl, rfl⟩ := hp4
      exact absurd hst (by decide)
    · refine v_iconst C d_A_regenerate_25 ?_
      refine v_goto C d_A_regenerate_26 ?_
      refine v_xcallSV (As := [.int (bI true)]) (st := []) C (c_requireState l hl true) (lk_A_86 C.1.2.2.2.2 rfl rfl ⟨Nat.le_of_ble_eq_true rfl, Nat.le_of_ble_eq_true rfl⟩) rfl rfl (Nat.le_of_ble_eq_true rfl) d_A_regenerate_30 ⟨Nat.le_of_ble_eq_true rfl, Nat.le_of_ble_eq_true rfl⟩ (fun E hE => hout E _ _ _ _ _ (absurd hE.2 (by decide)) (Nat.le_of_ble_eq_true rfl) (Nat.le_of_ble_eq_true rfl)) (fun ad5 g5 hp5 => ?_)
      obtain ⟨hst, rfl, rfl⟩ := hp5
      refine v_aload_n C d_A_regenerate_33 rfl 1 rfl ?_
      refine v_aload_n C d_A_regenerate_34 rfl 1 rfl ?_
      refine v_callVI (As := []) (st := [.ref (ad 0)]) (by omega) h0 rfl rfl C (c_filledShelves l w h hk hr sp wb h0 h2 T hT hsh) (lk_A_153 C.1.2.2.2.2 rfl rfl ⟨Nat.le_of_ble_eq_true rfl, Nat.le_of_ble_eq_true rfl⟩) rfl rfl (Nat.le_of_ble_eq_true rfl) d_A_regenerate_35 ⟨Nat.le_of_ble_eq_true rfl, Nat.le_of_ble_eq_true rfl⟩ (fun w6 ad6 g6 hp6 => ?_)
      obtain ⟨rfl, rfl, rfl⟩ := hp6
      obtain ⟨M, hMe⟩ : ∃ M, M = mkM (fun j => (T j).2.1) 8 := ⟨_, rfl⟩
      rw [← hMe]
      have hM : M < 256 := by rw [hMe]; exact mkM_lt _ 8
      have hbit : ∀ j, j < 8 → Nat.testBit M j = (T j).2.1 := fun j hj => by rw [hMe]; exact mkM_bit _ j hj
      refine v_callVI (As := [.int (iI (M : Int))]) (st := []) (by omega) h0 rfl rfl C (c_solve l w h hk hr sp wb M 8 hM dr hw hh h0 h2 T hT hsh nb bf hnb hbi h7 h6 ct0 lo hws nw un uc re hnw hun huc hre (fun j hj z9 => hgeo j hj (hfil j hj (by rw [← hbit j hj]; exact z9))) (cN_le8 (fun i _ => by show (if Nat.testBit M i = true ∧ nw i = 0 then 1 else 0) ≤ 1; split <;> omega))) (lk_A_157 C.1.2.2.2.2 rfl rfl ⟨Nat.le_of_ble_eq_true rfl, Nat.le_of_ble_eq_true rfl⟩) rfl rfl (Nat.le_of_ble_eq_true rfl) d_A_regenerate_38 ⟨Nat.le_of_ble_eq_true rfl, Nat.le_of_ble_eq_true rfl⟩ (fun w7 ad7 g7 hp7 => ?_)
      obtain ⟨n9, K9, val, dr1, ct1, lo1, nw1, un1, uc1, re1, hDn, hvv, hdr, hwk, hnu, h6, hws, hun, huc, hre, fr7, hA7⟩ := hp7
      subst hvv
      have hnw1 : ∀ j, j < 8 → nw1 j = 0 ∨ nw1 j = 481 := fun j hj => by by_cases hz : Nat.testBit M j = true; exact Or.inr (hwk j hj hz).1; rw [hnu j hj hz]; exact hnw j hj
      have hnw2 : ∀ j, j < 8 → nw j = 481 → nw1 j = 481 := fun j hj q => by by_cases hz : Nat.testBit M j = true; exact (hwk j hj hz).1; rw [hnu j hj hz]; exact q
      have hle9 := Rn_le hDn.1 hw.2 hh.2
      have hwh : (w : Int) * (h : Int) ≤ 256 ∧ 1 ≤ (w : Int) * (h : Int) := by
        have z1 : (w : Int) * (h : Int) ≤ 16 * (h : Int) := Int.mul_le_mul_of_nonneg_right (by omega) (by omega)
        have z2 : 1 * (h : Int) ≤ (w : Int) * (h : Int) := Int.mul_le_mul_of_nonneg_right (by omega) (by omega)
        omega
      have hwn : ((w * h : Nat) : Int) = (w : Int) * (h : Int) := Int.natCast_mul w h
      have h0 := (fr7 0 (by omega) (fun j9 hj9 => by omega) (fun j9 hj9 => by omega) (fun j9 hj9 => by omega) (fun j9 hj9 => by omega)).trans h0
      have h2 := (fr7 2 (by omega) (fun j9 hj9 => by omega) (fun j9 hj9 => by omega) (fun j9 hj9 => by omega) (fun j9 hj9 => by omega)).trans h2
      have h7 := (fr7 7 (by omega) (fun j9 hj9 => by omega) (fun j9 hj9 => by omega) (fun j9 hj9 => by omega) (fun j9 hj9 => by omega)).trans h7
      have hq2 := (fr7 (9 + 8 * s0) (by omega) (fun j9 hj9 => by omega) (fun j9 hj9 => by omega) (fun j9 hj9 => by omega) (fun j9 hj9 => by omega)).trans hq2
      have hsh := fun j9 (hj9 : j9 < 8) => (fr7 (9 + 8 * j9) (by omega) (fun j8 hj8 => by omega) (fun j8 hj8 => by omega) (fun j8 hj8 => by omega) (fun j8 hj8 => by omega)).trans (hsh j9 hj9)
      have hbi := fun j9 (hj9 : j9 < 8) => (fr7 (9 + 8 * j9 + 1) (by omega) (fun j8 hj8 => by omega) (fun j8 hj8 => by omega) (fun j8 hj8 => by omega) (fun j8 hj8 => by omega)).trans (hbi j9 hj9)
      refine v_lvE (lv' := [(2, .ref (ad7 (9 + 8 * s0))), (0, .ref (ad7 0)), (1, .int (iI z))]) (by rw [hA7 (9 + 8 * s0) (fun j9 hj9 => by omega) (fun j9 hj9 => by omega) (fun j9 hj9 => by omega), hA7 0 (fun j9 hj9 => by omega) (fun j9 hj9 => by omega) (fun j9 hj9 => by omega)]) ?_
      have h0 : g7 0 = .inr (0, [.int (iI (w : Int)), .int (iI (h : Int)), .ref (ad7 1), .ref (ad7 2), .int (bI hk), .ref (ad7 3), .ref (ad7 4), .int (bI hr), .ref (ad7 5), .int (iI sp), .int (iI wb), .ref (ad7 6), .ref (ad7 7), .ref (ad7 8)]) := by rw [hA7 1 (fun j9 hj9 => by omega) (fun j9 hj9 => by omega) (fun j9 hj9 => by omega), hA7 2 (fun j9 hj9 => by omega) (fun j9 hj9 => by omega) (fun j9 hj9 => by omega), hA7 3 (fun j9 hj9 => by omega) (fun j9 hj9 => by omega) (fun j9 hj9 => by omega), hA7 4 (fun j9 hj9 => by omega) (fun j9 hj9 => by omega) (fun j9 hj9 => by omega), hA7 5 (fun j9 hj9 => by omega) (fun j9 hj9 => by omega) (fun j9 hj9 => by omega), hA7 6 (fun j9 hj9 => by omega) (fun j9 hj9 => by omega) (fun j9 hj9 => by omega), hA7 7 (fun j9 hj9 => by omega) (fun j9 hj9 => by omega) (fun j9 hj9 => by omega), hA7 8 (fun j9 hj9 => by omega) (fun j9 hj9 => by omega) (fun j9 hj9 => by omega)]; exact h0
      have h2 : g7 2 = rfA cS 8 (shs ad7 9) := h2.trans (by rw [shs_ad (ad1 := ad7) (fun s9 => hA7 _ (fun j9 hj9 => by omega) (fun j9 hj9 => by omega) (fun j9 hj9 => by omega))])
      have h7 : g7 7 = rfA cW 8 (shs ad7 13) := h7.trans (by rw [shs_ad (ad1 := ad7) (fun s9 => hA7 _ (fun j9 hj9 => by omega) (fun j9 hj9 => by omega) (fun j9 hj9 => by omega))])
      have hq2 : g7 (9 + 8 * s0) = .inr (1, [.int (bI ((T s0).1)), .int (bI ((T s0).2.1)), .int (iI ((T s0).2.2.1)), .int (iI ((T s0).2.2.2.1)), .int (iI ((T s0).2.2.2.2.1)), .int (iI ((T s0).2.2.2.2.2)), .ref (ad7 (9 + 8 * s0 + 1))]) := by rw [hA7 (9 + 8 * s0 + 1) (fun j9 hj9 => by omega) (fun j9 hj9 => by omega) (fun j9 hj9 => by omega)]; exact hq2
      have hsh : ∀ j9, j9 < 8 → g7 (9 + 8 * j9) = .inr (1, [.int (bI ((T j9).1)), .int (bI ((T j9).2.1)), .int (iI ((T j9).2.2.1)), .int (iI ((T j9).2.2.2.1)), .int (iI ((T j9).2.2.2.2.1)), .int (iI ((T j9).2.2.2.2.2)), .ref (ad7 (9 + 8 * j9 + 1))]) := fun j9 hj9 => by rw [hA7 (9 + 8 * j9 + 1) (fun j8 hj8 => by omega) (fun j8 hj8 => by omega) (fun j8 hj8 => by omega)]; exact hsh j9 hj9
      have hrs : ∀ j, j < 8 → Nat.testBit M j = true → ∀ k, k < ctN (T j).2.2.1 (T j).2.2.2.1 w h → re1 j k = rst w h K9 (fun c => bnN (T j).2.2.1 (T j).2.2.2.1 w h (c % 16) (c / 16)) (bf j) val k := fun j hj z k hk9 => (hwk j hj z).2.2.2.2.2.2 k hk9
      refine v_aload_n C d_A_regenerate_41 rfl 1 rfl ?_
      refine gf_A_9 C (by omega) h0 rfl d_A_regenerate_42 ?_
      refine v_aload_n C d_A_regenerate_45 rfl 1 rfl ?_
      refine gf_A_13 C (by omega) h0 rfl d_A_regenerate_46 ?_
      refine v_imulI C d_A_regenerate_49 ?_
      refine v_icmp_geI C d_A_regenerate_50 (by omega) (by omega) (by omega) (by omega) (fun hb50 => ?_) (fun hb50 => ?_)
      · refine v_aload_n C d_A_regenerate_55 rfl 0 rfl ?_
        refine v_aload_n C d_A_regenerate_56 rfl 1 rfl ?_
        refine gf_A_48 C (by omega) h0 rfl d_A_regenerate_57 ?_
        refine v_aload_n C d_A_regenerate_60 rfl 1 rfl ?_
        refine gf_A_9 C (by omega) h0 rfl d_A_regenerate_61 ?_
        refine v_aload_n C d_A_regenerate_64 rfl 1 rfl ?_
        refine gf_A_13 C (by omega) h0 rfl d_A_regenerate_65 ?_
        have hq8 := hbi s0 (by omega)
        obtain ⟨o1, o2, o3, o4⟩ := hgeo s0 hs8 hb15
        rw [o4] at hq8
        refine v_callVV (As := [.ref (ad7 6), .int (iI (w : Int)), .int (iI (h : Int))]) (st := []) (by omega) hq2 rfl rfl C (c_fillFrom l (9 + 8 * s0) 6 w h (T s0) dr1 (bf s0) (bnN (T s0).2.2.1 (T s0).2.2.2.1 w h) (by omega) (by omega) (by omega) (by omega) hw.2 hh.2 (fun x y hx hy => by rw [o2]; exact ⟨(bn_nat o1 hw.2 hh.2 hx hy).1, by have := bn_nat o1 hw.2 hh.2 hx hy; omega⟩) hq2 hq8 h6) (lk_A_132 C.1.2.2.2.2 rfl rfl ⟨Nat.le_of_ble_eq_true rfl, Nat.le_of_ble_eq_true rfl⟩) rfl rfl (Nat.le_of_ble_eq_true rfl) d_A_regenerate_68 ⟨Nat.le_of_ble_eq_true rfl, Nat.le_of_ble_eq_true rfl⟩ (fun ad9 g9 hp9 => ?_)
        obtain ⟨hadr, hb9x, hs9x, fr9⟩ := hp9
        subst hadr
        have h0 := (fr9 0 (by omega) (by omega)).trans h0
        have h2 := (fr9 2 (by omega) (by omega)).trans h2
        have h7 := (fr9 7 (by omega) (by omega)).trans h7
        have h6 := (fr9 6 (by omega) (by omega)).trans h6
        have hws := fun j9 (hj9 : j9 < 8) => (fr9 (13 + 8 * j9) (by omega) (by omega)).trans (hws j9 hj9)
        have hun := fun j9 (hj9 : j9 < 8) => (fr9 (13 + 8 * j9 + 1) (by omega) (by omega)).trans (hun j9 hj9)
        have huc := fun j9 (hj9 : j9 < 8) => (fr9 (13 + 8 * j9 + 2) (by omega) (by omega)).trans (huc j9 hj9)
        have hre := fun j9 (hj9 : j9 < 8) => (fr9 (13 + 8 * j9 + 3) (by omega) (by omega)).trans (hre j9 hj9)
        refine v_iconst C d_A_regenerate_71 ?_
        exact hret _ _ _ _ _ true _ (by omega) (by omega) d_A_regenerate_72 ⟨s0, hs0, hs8, hb15, hb22, n9, K9, val, _, _, by rw [← hMe]; exact hDn, hb9x, hs9x, Or.inr ⟨by omega, rfl, rfl, dr1, hdr, rfl⟩, dr1, ct1, lo1, nw1, un1, uc1, re1, hnw1, hnw2, h6, hws, hun, huc, hre, (fun r1 n0 n1 n2 n3 n4 n5 n6 => ((fr9 r1 n0 n1).trans (fr7 r1 n2 n3 n4 n5 n6))), (fun r1 n0 n1 n2 => (hA7 r1 n0 n1 n2))⟩
      · refine v_iconst C d_A_regenerate_53 ?_
        exact hret _ _ _ _ _ false _ (by omega) (by omega) d_A_regenerate_54 ⟨s0, hs0, hs8, hb15, hb22, n9, K9, val, bf s0, T s0, by rw [← hMe]; exact hDn, (hbi s0 hs8).trans (by rw [(hgeo s0 hs8 hb15).2.2.2]), hsh s0 hs8, Or.inl ⟨by omega, rfl, rfl, rfl⟩, dr1, ct1, lo1, nw1, un1, uc1, re1, hnw1, hnw2, h6, hws, hun, huc, hre, (fun r1 n0 n1 n2 n3 n4 n5 n6 => (fr7 r1 n2 n3 n4 n5 n6)), (fun r1 n0 n1 n2 => (hA7 r1 n0 n1 n2))⟩
