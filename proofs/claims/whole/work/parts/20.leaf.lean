set_option maxHeartbeats 4000000 in
set_option maxRecDepth 100000 in
theorem c_cellAt (l : Launch) {B : Nat} {D : va_G} {cI cZ cL cS cW : ClassId} {Z : ZT} {ad : Nat → Nat} {g : Nat → va_E} (x y : Int) : Met l y_A_cellAt (Cond.code y_A_cellAt b_A_cellAt 2 (some .int) :: wG) (rmF 0 0 0 0) (wPc B D classes (tyL cI cZ cL cS cW) Z 95 [.int (iI x), .int (iI y)] ad g) (QI B D classes 95 (fun v ad1 g1 => v = iI (y * 16 + x) ∧ ad1 = ad ∧ g1 = g)) 0 0 (aB B) := by
  refine ofI (post := fun v ad1 g1 => v = iI (y * 16 + x) ∧ ad1 = ad ∧ g1 = g) (own := R_A) (by decide) rfl (Nat.le_of_ble_eq_true rfl) ?_
  intro p e s m below meth c Q C hnm hret
  change kV _ _ _ _ _ _ _ _ _ _ _ _ _ _ _ _ _ _ _ _ _ [(0, .int (iI x)), (1, .int (iI y))] _ _
  refine v_iload_n C d_A_cellAt_0 rfl 1 rfl ?_
  refine v_bipush C d_A_cellAt_1 (by decide +kernel) ?_
  refine v_imulI C d_A_cellAt_3 ?_
  refine v_iload_n C d_A_cellAt_4 rfl 0 rfl ?_
  refine v_iaddI C d_A_cellAt_5 ?_
  exact hret _ _ _ _ _ _ _ (Nat.zero_le _) (Nat.zero_le _) d_A_cellAt_6 ⟨rfl, rfl, rfl⟩
set_option maxHeartbeats 4000000 in
set_option maxRecDepth 100000 in
theorem c_binAt (l : Launch) {B : Nat} {D : va_G} {cI cZ cL cS cW : ClassId} {Z : ZT} {ad : Nat → Nat} {g : Nat → va_E} (r : Nat) (t : ShT) (x y : Int) (hr : r < 95) (h0 : g r = shE (ad (r + 1)) t) : Met l y_S_binAt (Cond.code y_S_binAt b_S_binAt 3 (some .int) :: wG) (rmF 0 0 0 0) (wPc B D classes (tyL cI cZ cL cS cW) Z 95 [.ref (ad r), .int (iI x), .int (iI y)] ad g) (QI B D classes 95 (fun v ad1 g1 => v = iI (t.2.2.1 * y - t.2.2.2.1 * x - t.2.2.2.2.1) ∧ ad1 = ad ∧ g1 = g)) 0 0 (aB B) := by
  refine ofI (post := fun v ad1 g1 => v = iI (t.2.2.1 * y - t.2.2.2.1 * x - t.2.2.2.2.1) ∧ ad1 = ad ∧ g1 = g) (own := R_S) (by decide) rfl (Nat.le_of_ble_eq_true rfl) ?_
  intro p e s m below meth c Q C hnm hret
  change kV _ _ _ _ _ _ _ _ _ _ _ _ _ _ _ _ _ _ _ _ _ [(0, .ref (ad r)), (1, .int (iI x)), (2, .int (iI y))] _ _
  refine v_aload_n C d_S_binAt_0 rfl 0 rfl ?_
  refine gf_S_18 C (by omega) h0 rfl d_S_binAt_1 ?_
  refine v_iload_n C d_S_binAt_4 rfl 2 rfl ?_
  refine v_imulI C d_S_binAt_5 ?_
  refine v_aload_n C d_S_binAt_6 rfl 0 rfl ?_
  refine gf_S_22 C (by omega) h0 rfl d_S_binAt_7 ?_
  refine v_iload_n C d_S_binAt_10 rfl 1 rfl ?_
  refine v_imulI C d_S_binAt_11 ?_
  refine v_isubI C d_S_binAt_12 ?_
  refine v_aload_n C d_S_binAt_13 rfl 0 rfl ?_
  refine gf_S_25 C (by omega) h0 rfl d_S_binAt_14 ?_
  refine v_isubI C d_S_binAt_17 ?_
  exact hret _ _ _ _ _ _ _ (Nat.zero_le _) (Nat.zero_le _) d_S_binAt_18 ⟨rfl, rfl, rfl⟩
set_option maxHeartbeats 4000000 in
set_option maxRecDepth 100000 in
theorem c_unaim (l : Launch) {B : Nat} {D : va_G} {cI cZ cL cS cW : ClassId} {Z : ZT} {ad : Nat → Nat} {g : Nat → va_E} (r : Nat) (t : ShT) (hr : r < 95) (h0 : g r = shE (ad (r + 1)) t) : Met l y_S_unaim (Cond.code y_S_unaim b_S_unaim 1 none :: wG) (rmF 0 0 0 0) (wPc B D classes (tyL cI cZ cL cS cW) Z 95 [.ref (ad r)] ad g) (QV B D classes 95 (fun ad1 g1 => ad1 = ad ∧ g1 r = shE (ad (r + 1)) (false, false, t.2.2) ∧ ∀ r1, r1 ≠ r → g1 r1 = g r1)) 0 0 (aB B) := by
  refine ofV (post := fun ad1 g1 => ad1 = ad ∧ g1 r = shE (ad (r + 1)) (false, false, t.2.2) ∧ ∀ r1, r1 ≠ r → g1 r1 = g r1) (own := R_S) (by decide) rfl (Nat.le_of_ble_eq_true rfl) ?_
  intro p e s m below meth c Q C hnm hret
  change kV _ _ _ _ _ _ _ _ _ _ _ _ _ _ _ _ _ _ _ _ _ [(0, .ref (ad r))] _ _
  refine v_aload_n C d_S_unaim_0 rfl 0 rfl ?_
  refine v_iconst C d_S_unaim_1 ?_
  refine pf_S_9 (fs' := [.int (iI 0), .int (bI t.2.1), .int (iI t.2.2.1), .int (iI t.2.2.2.1), .int (iI t.2.2.2.2.1), .int (iI t.2.2.2.2.2), .ref (ad (r + 1))]) C (by omega) h0 rfl rfl (by decide) rfl d_S_unaim_2 (fun g1 h0 fr2 => ?_)
  refine v_aload_n C d_S_unaim_5 rfl 0 rfl ?_
  refine v_iconst C d_S_unaim_6 ?_
  refine pf_S_15 (fs' := [.int (iI 0), .int (iI 0), .int (iI t.2.2.1), .int (iI t.2.2.2.1), .int (iI t.2.2.2.2.1), .int (iI t.2.2.2.2.2), .ref (ad (r + 1))]) C (by omega) h0 rfl rfl (by decide) rfl d_S_unaim_7 (fun g3 h0 fr4 => ?_)
  exact hret _ _ _ _ _ _ (by omega) (by omega) d_S_unaim_10 ⟨rfl, h0, fun r1 h1 => (fr4 r1 h1).trans (fr2 r1 h1)⟩
