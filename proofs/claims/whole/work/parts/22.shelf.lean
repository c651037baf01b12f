set_option maxHeartbeats 1000000 in
set_option maxRecDepth 100000 in
theorem c_makeBins (l : Launch) {B : Nat} {D : va_G} {cI cZ cL cS cW : ClassId} {ad : Nat → Nat} {g : Nat → va_E} (r n : Nat) (f : Nat → Int32) (t : ShT) (hr : r < 94) (hn : n = 0 ∨ n = 481) (h0 : g r = shE (ad (r + 1)) t) (h1 : g (r + 1) = inA cI n f) : Met l y_S_makeBins (Cond.code y_S_makeBins b_S_makeBins 1 none :: wG) (rmF 0 0 1 481) (wPc B D classes (tyL cI cZ cL cS cW) (Zs B) 95 [.ref (ad r)] ad g) (QV B D classes 95 (fun ad1 g1 => ∃ f1, g1 (r + 1) = inA cI 481 f1 ∧ g1 r = shE (ad1 (r + 1)) t ∧ (∀ r1, r1 ≠ r + 1 → r1 ≠ r → g1 r1 = g r1) ∧ ∀ r1, r1 ≠ r + 1 → ad1 r1 = ad r1)) 1 481 (aB B) := by
  refine ofV (own := R_S) (by decide) rfl (Nat.le_of_ble_eq_true rfl) ?_
  intro p e s m below meth c Q C hnm hret
  change kV _ _ _ _ _ _ _ _ _ _ _ _ _ _ _ _ _ _ _ _ _ [(0, .ref (ad r))] _ _
  refine v_aload_n C d_S_makeBins_0 rfl 0 rfl ?_
  refine gf_S_31 C (by omega) h0 rfl d_S_makeBins_1 ?_
  refine v_alen C 0 (by omega) h1 rfl d_S_makeBins_4 ?_
  refine v_if_neI C d_S_makeBins_5 (by omega) (by omega) (fun hb5 => ?_) (fun hb5 => ?_)
  · have hn4 : n = 481 := by omega
    rw [hn4] at h1
    exact hret _ _ _ _ _ _ (by omega) (by omega) d_S_makeBins_17 ⟨_, h1, h0, (fun r1 n0 n1 => rfl), (fun r1 n0 => rfl)⟩
  · refine v_aload_n C d_S_makeBins_8 rfl 0 rfl ?_
    refine v_sipush C d_S_makeBins_9 (by decide +kernel) ?_
    refine v_newiR (r + 1) C 481 rfl (by decide) (Nat.le_of_ble_eq_true rfl) (Nat.le_of_ble_eq_true rfl) d_S_makeBins_12 (fun ad1 g1 hA1 h1 fr1 => ?_)
    have h0 := (fr1 r (by omega)).trans h0
    refine v_lvE (lv' := [(0, .ref (ad1 r))]) (by rw [hA1 r (by omega)]) ?_
    refine v_stE (st' := [.ref (ad1 (r + 1)), .ref (ad1 r)]) (by rw [hA1 r (by omega)]) ?_
    refine pf_S_31 (fs' := [.int (bI t.1), .int (bI t.2.1), .int (iI t.2.2.1), .int (iI t.2.2.2.1), .int (iI t.2.2.2.2.1), .int (iI t.2.2.2.2.2), .ref (ad1 (r + 1))]) C (by omega) h0 rfl rfl (Nat.le_of_ble_eq_true rfl) rfl d_S_makeBins_14 (fun g2 h0 fr3 => ?_)
    have h1 := (fr3 (r + 1) (by omega)).trans h1
    exact hret _ _ _ _ _ _ (by omega) (by omega) d_S_makeBins_17 ⟨_, h1, h0, (fun r1 n0 n1 => ((fr3 r1 n1).trans (fr1 r1 n0))), (fun r1 n0 => (hA1 r1 n0))⟩
theorem prod_b {a b : Int} (a1 : -16 ≤ a) (a2 : a ≤ 16) (b1 : 0 ≤ b) (b2 : b ≤ 15) : -240 ≤ a * b ∧ a * b ≤ 240 := by
  have h1 : a * b ≤ 16 * b := Int.mul_le_mul_of_nonneg_right a2 b1
  have h2 : (-16) * b ≤ a * b := Int.mul_le_mul_of_nonneg_right a1 b1
  omega
set_option maxHeartbeats 1000000 in
set_option maxRecDepth 100000 in
theorem c_aim (l : Launch) {B : Nat} {D : va_G} {cI cZ cL cS cW : ClassId} {ad : Nat → Nat} {g : Nat → va_E} (r n w h : Nat) (f : Nat → Int32) (t : ShT) (x y : Int) (hr : r < 94) (hn : n = 0 ∨ n = 481) (hw : 1 ≤ w ∧ w ≤ 16) (hh : 1 ≤ h ∧ h ≤ 16) (hx : -16 ≤ x ∧ x ≤ 16) (hy : 0 ≤ y ∧ y ≤ 16) (h0 : g r = shE (ad (r + 1)) t) (h1 : g (r + 1) = inA cI n f) : Met l y_S_aim (Cond.code y_S_aim b_S_aim 5 none :: wG) (rmF 1 40 1 481) (wPc B D classes (tyL cI cZ cL cS cW) (Zs B) 95 [.ref (ad r), .int (iI x), .int (iI y), .int (iI (w : Int)), .int (iI (h : Int))] ad g) (QV B D classes 95 (fun ad1 g1 => ∃ f1, g1 (r + 1) = inA cI 481 f1 ∧ g1 r = shE (ad1 (r + 1)) (true, false, x, y, lzI x y w h, ctI x y w h) ∧ (∀ r1, r1 ≠ r + 1 → r1 ≠ r → g1 r1 = g r1) ∧ ∀ r1, r1 ≠ r + 1 → ad1 r1 = ad r1)) 1 481 (aB B) := by
  refine ofV (own := R_S) (by decide) rfl (Nat.le_of_ble_eq_true rfl) ?_
  intro p e s m below meth c Q C hnm hret
  change kV _ _ _ _ _ _ _ _ _ _ _ _ _ _ _ _ _ _ _ _ _ [(0, .ref (ad r)), (1, .int (iI x)), (2, .int (iI y)), (3, .int (iI (w : Int))), (4, .int (iI (h : Int)))] _ _
  have q1 := prod_b hx.1 hx.2 (show (0 : Int) ≤ (h : Int) - 1 by omega) (show (h : Int) - 1 ≤ 15 by omega)
  refine v_aload_n C d_S_aim_0 rfl 0 rfl ?_
  refine v_iload_n C d_S_aim_1 rfl 1 rfl ?_
  refine pf_S_18 (fs' := [.int (bI t.1), .int (bI t.2.1), .int (iI x), .int (iI t.2.2.2.1), .int (iI t.2.2.2.2.1), .int (iI t.2.2.2.2.2), .ref (ad (r + 1))]) C (by omega) h0 rfl rfl (Nat.le_of_ble_eq_true rfl) rfl d_S_aim_2 (fun g1 h0 fr2 => ?_)
  have h1 := (fr2 (r + 1) (by omega)).trans h1
  refine v_aload_n C d_S_aim_5 rfl 0 rfl ?_
  refine v_iload_n C d_S_aim_6 rfl 2 rfl ?_
  refine pf_S_22 (fs' := [.int (bI t.1), .int (bI t.2.1), .int (iI x), .int (iI y), .int (iI t.2.2.2.2.1), .int (iI t.2.2.2.2.2), .ref (ad (r + 1))]) C (by omega) h0 rfl rfl (Nat.le_of_ble_eq_true rfl) rfl d_S_aim_7 (fun g3 h0 fr4 => ?_)
  have h1 := (fr4 (r + 1) (by omega)).trans h1
  refine v_aload_n C d_S_aim_10 rfl 0 rfl ?_
  refine v_iconst C d_S_aim_11 ?_
  refine v_iload_n C d_S_aim_12 rfl 1 rfl ?_
  refine v_iload C d_S_aim_13 4 rfl ?_
  refine v_iconst C d_S_aim_15 ?_
  refine v_isubI C d_S_aim_16 ?_
  refine v_imulI C d_S_aim_17 ?_
  refine v_mmin C ml_S_35 sm_min in_H co_min (Nat.le_of_ble_eq_true rfl) (Nat.le_of_ble_eq_true rfl) (Nat.zero_le _) (Nat.zero_le _) d_S_aim_18 (by omega) (by omega) (by omega) (by omega) ?_
  refine v_iload_n C d_S_aim_21 rfl 2 rfl ?_
  refine v_iload_n C d_S_aim_22 rfl 3 rfl ?_
  refine v_iconst C d_S_aim_23 ?_
  refine v_isubI C d_S_aim_24 ?_
  refine v_imulI C d_S_aim_25 ?_
  refine v_isubI C d_S_aim_26 ?_
  refine pf_S_25 (fs' := [.int (bI t.1), .int (bI t.2.1), .int (iI x), .int (iI y), .int (iI ((if x * ((h : Int) - 1) < 0 then x * ((h : Int) - 1) else 0) - (y * ((w : Int) - 1)))), .int (iI t.2.2.2.2.2), .ref (ad (r + 1))]) C (by omega) h0 rfl rfl (Nat.le_of_ble_eq_true rfl) rfl d_S_aim_27 (fun g5 h0 fr6 => ?_)
  have h1 := (fr6 (r + 1) (by omega)).trans h1
  refine v_aload_n C d_S_aim_30 rfl 0 rfl ?_
  refine v_iload_n C d_S_aim_31 rfl 1 rfl ?_
  refine v_mabs C ml_S_41 sm_abs in_H co_abs (Nat.le_of_ble_eq_true rfl) (Nat.le_of_ble_eq_true rfl) (Nat.zero_le _) (Nat.zero_le _) d_S_aim_32 (by omega) (by omega) ?_
  refine v_iload C d_S_aim_35 4 rfl ?_
  refine v_iconst C d_S_aim_37 ?_
  refine v_isubI C d_S_aim_38 ?_
  refine v_imulI C d_S_aim_39 ?_
  refine v_iload_n C d_S_aim_40 rfl 2 rfl ?_
  refine v_iload_n C d_S_aim_41 rfl 3 rfl ?_
  refine v_iconst C d_S_aim_42 ?_
  refine v_isubI C d_S_aim_43 ?_
  refine v_imulI C d_S_aim_44 ?_
  refine v_iaddI C d_S_aim_45 ?_
  refine v_iconst C d_S_aim_46 ?_
  refine v_iaddI C d_S_aim_47 ?_
  refine pf_S_28 (fs' := [.int (bI t.1), .int (bI t.2.1), .int (iI x), .int (iI y), .int (iI ((if x * ((h : Int) - 1) < 0 then x * ((h : Int) - 1) else 0) - (y * ((w : Int) - 1)))), .int (iI ((((if 0 ≤ x then x else 0 - x) * ((h : Int) - 1)) + (y * ((w : Int) - 1))) + 1)), .ref (ad (r + 1))]) C (by omega) h0 rfl rfl (Nat.le_of_ble_eq_true rfl) rfl d_S_aim_48 (fun g7 h0 fr8 => ?_)
  have h1 := (fr8 (r + 1) (by omega)).trans h1
  refine v_aload_n C d_S_aim_51 rfl 0 rfl ?_
  refine v_iconst C d_S_aim_52 ?_
  refine pf_S_9 (fs' := [.int (iI 1), .int (bI t.2.1), .int (iI x), .int (iI y), .int (iI ((if x * ((h : Int) - 1) < 0 then x * ((h : Int) - 1) else 0) - (y * ((w : Int) - 1)))), .int (iI ((((if 0 ≤ x then x else 0 - x) * ((h : Int) - 1)) + (y * ((w : Int) - 1))) + 1)), .ref (ad (r + 1))]) C (by omega) h0 rfl rfl (Nat.le_of_ble_eq_true rfl) rfl d_S_aim_53 (fun g9 h0 fr10 => ?_)
  have h1 := (fr10 (r + 1) (by omega)).trans h1
  refine v_aload_n C d_S_aim_56 rfl 0 rfl ?_
  refine v_iconst C d_S_aim_57 ?_
  refine pf_S_15 (fs' := [.int (iI 1), .int (iI 0), .int (iI x), .int (iI y), .int (iI ((if x * ((h : Int) - 1) < 0 then x * ((h : Int) - 1) else 0) - (y * ((w : Int) - 1)))), .int (iI ((((if 0 ≤ x then x else 0 - x) * ((h : Int) - 1)) + (y * ((w : Int) - 1))) + 1)), .ref (ad (r + 1))]) C (by omega) h0 rfl rfl (Nat.le_of_ble_eq_true rfl) rfl d_S_aim_58 (fun g11 h0 fr12 => ?_)
  have h1 := (fr12 (r + 1) (by omega)).trans h1
  refine v_aload_n C d_S_aim_61 rfl 0 rfl ?_
  refine v_callVV (As := []) (st := []) (by omega) h0 rfl rfl C (c_makeBins l r n f (true, false, x, y, (if x * ((h : Int) - 1) < 0 then x * ((h : Int) - 1) else 0) - (y * ((w : Int) - 1)), (((if 0 ≤ x then x else 0 - x) * ((h : Int) - 1)) + (y * ((w : Int) - 1))) + 1) (by omega) hn h0 h1) (lk_S_45 C.1.2.2.2.2 rfl rfl ⟨Nat.le_of_ble_eq_true rfl, Nat.le_of_ble_eq_true rfl⟩) rfl rfl (Nat.le_of_ble_eq_true rfl) d_S_aim_62 ⟨Nat.le_of_ble_eq_true rfl, Nat.le_of_ble_eq_true rfl⟩ (fun ad13 g13 hp13 => ?_)
  obtain ⟨f9, h1, h0, fr13, hA13⟩ := hp13
  refine v_lvE (lv' := [(0, .ref (ad13 r)), (1, .int (iI x)), (2, .int (iI y)), (3, .int (iI (w : Int))), (4, .int (iI (h : Int)))]) (by rw [hA13 r (by omega)]) ?_
  exact hret _ _ _ _ _ _ (by omega) (by omega) d_S_aim_65 ⟨_, h1, h0, (fun r1 n0 n1 => ((fr13 r1 n0 n1).trans ((fr12 r1 n1).trans ((fr10 r1 n1).trans ((fr8 r1 n1).trans ((fr6 r1 n1).trans ((fr4 r1 n1).trans (fr2 r1 n1)))))))), (fun r1 n0 => (hA13 r1 n0))⟩
