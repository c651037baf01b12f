set_option maxHeartbeats 1000000 in
set_option maxRecDepth 100000 in
theorem c_Sinit (l : Launch) {B : Nat} {D : va_G} {cI cZ cL cS cW : ClassId} {ad : Nat → Nat} {g : Nat → va_E} (r : Nat) (h0 : g r = .inr (1, [.int 0, .int 0, .int 0, .int 0, .int 0, .int 0, .null])) : Met l y_S_init (Cond.code y_S_init b_S_init 1 none :: wG) (rmF 1 12 1 0) (wPc B D classes (tyL cI cZ cL cS cW) (Zs B) (r + 1) [.ref (ad r)] ad g) (QV B D classes (r + 2) (fun ad1 g1 => g1 r = shE (ad1 (r + 1)) (false, false, 0, 0, 0, 0) ∧ g1 (r + 1) = inA cI 0 (fun _ => 0) ∧ (∀ r1, r1 ≠ r → r1 ≠ r + 1 → g1 r1 = g r1) ∧ ∀ r1, r1 ≠ r + 1 → ad1 r1 = ad r1)) 1 0 (aB B) := by
  refine ofV (own := R_S) (by decide) rfl (Nat.le_of_ble_eq_true rfl) ?_
  intro p e s m below meth c Q C hnm hret
  change kV _ _ _ _ _ _ _ _ _ _ _ _ _ _ _ _ _ _ _ _ _ [(0, .ref (ad r))] _ _
  refine v_aload_n C d_S_init_0 rfl 0 rfl ?_
  refine v_oi C ml_S_3 d_S_init_1 (Nat.le_of_ble_eq_true rfl) (Nat.le_of_ble_eq_true rfl) ?_
  refine v_aload_n C d_S_init_4 rfl 0 rfl ?_
  refine v_iconst C d_S_init_5 ?_
  refine pf_S_9 (fs' := [.int (iI 0), .int 0, .int 0, .int 0, .int 0, .int 0, .null]) C (by omega) h0 rfl rfl (Nat.le_of_ble_eq_true rfl) rfl d_S_init_6 (fun g1 h0 fr2 => ?_)
  refine v_aload_n C d_S_init_9 rfl 0 rfl ?_
  refine v_iconst C d_S_init_10 ?_
  refine pf_S_15 (fs' := [.int (iI 0), .int (iI 0), .int 0, .int 0, .int 0, .int 0, .null]) C (by omega) h0 rfl rfl (Nat.le_of_ble_eq_true rfl) rfl d_S_init_11 (fun g3 h0 fr4 => ?_)
  refine v_aload_n C d_S_init_14 rfl 0 rfl ?_
  refine v_iconst C d_S_init_15 ?_
  refine pf_S_18 (fs' := [.int (iI 0), .int (iI 0), .int (iI 0), .int 0, .int 0, .int 0, .null]) C (by omega) h0 rfl rfl (Nat.le_of_ble_eq_true rfl) rfl d_S_init_16 (fun g5 h0 fr6 => ?_)
  refine v_aload_n C d_S_init_19 rfl 0 rfl ?_
  refine v_iconst C d_S_init_20 ?_
  refine pf_S_22 (fs' := [.int (iI 0), .int (iI 0), .int (iI 0), .int (iI 0), .int 0, .int 0, .null]) C (by omega) h0 rfl rfl (Nat.le_of_ble_eq_true rfl) rfl d_S_init_21 (fun g7 h0 fr8 => ?_)
  refine v_aload_n C d_S_init_24 rfl 0 rfl ?_
  refine v_iconst C d_S_init_25 ?_
  refine pf_S_25 (fs' := [.int (iI 0), .int (iI 0), .int (iI 0), .int (iI 0), .int (iI 0), .int 0, .null]) C (by omega) h0 rfl rfl (Nat.le_of_ble_eq_true rfl) rfl d_S_init_26 (fun g9 h0 fr10 => ?_)
  refine v_aload_n C d_S_init_29 rfl 0 rfl ?_
  refine v_iconst C d_S_init_30 ?_
  refine pf_S_28 (fs' := [.int (iI 0), .int (iI 0), .int (iI 0), .int (iI 0), .int (iI 0), .int (iI 0), .null]) C (by omega) h0 rfl rfl (Nat.le_of_ble_eq_true rfl) rfl d_S_init_31 (fun g11 h0 fr12 => ?_)
  refine v_aload_n C d_S_init_34 rfl 0 rfl ?_
  refine v_iconst C d_S_init_35 ?_
  refine v_newiP C 0 rfl (by decide) (Nat.le_of_ble_eq_true rfl) (Nat.le_of_ble_eq_true rfl) d_S_init_36 (fun ad13 g13 hA13 hb fr13 => ?_)
  have h0 := (fr13 r (by omega)).trans h0
  refine v_lvE (lv' := [(0, .ref (ad13 r))]) (by rw [hA13 r (by omega)]) ?_
  refine v_stE (st' := [.ref (ad13 (r + 1)), .ref (ad13 r)]) (by rw [hA13 r (by omega)]) ?_
  refine pf_S_31 (fs' := [.int (iI 0), .int (iI 0), .int (iI 0), .int (iI 0), .int (iI 0), .int (iI 0), .ref (ad13 (r + 1))]) C (by omega) h0 rfl rfl (Nat.le_of_ble_eq_true rfl) rfl d_S_init_38 (fun g14 h0 fr15 => ?_)
  have hb := (fr15 (r + 1) (by omega)).trans hb
  exact hret _ _ _ _ _ _ (Nat.le_of_ble_eq_true rfl) (Nat.le_of_ble_eq_true rfl) d_S_init_41 ⟨h0, hb, (fun r1 n0 n1 => ((fr15 r1 n0).trans ((fr13 r1 n1).trans ((fr12 r1 n0).trans ((fr10 r1 n0).trans ((fr8 r1 n0).trans ((fr6 r1 n0).trans ((fr4 r1 n0).trans (fr2 r1 n0))))))))), (fun r1 n0 => (hA13 r1 n0))⟩
set_option maxHeartbeats 1000000 in
set_option maxRecDepth 100000 in
theorem c_Winit (l : Launch) {B : Nat} {D : va_G} {cI cZ cL cS cW : ClassId} {ad : Nat → Nat} {g : Nat → va_E} (r : Nat) (h0 : g r = .inr (2, [.int 0, .int 0, .null, .null, .null])) : Met l y_W_init (Cond.code y_W_init b_W_init 1 none :: wG) (rmF 1 12 3 0) (wPc B D classes (tyL cI cZ cL cS cW) (Zs B) (r + 1) [.ref (ad r)] ad g) (QV B D classes (r + 4) (fun ad1 g1 => g1 r = wsE 0 0 (ad1 (r + 1)) (ad1 (r + 2)) (ad1 (r + 3)) ∧ g1 (r + 1) = inA cI 0 (fun _ => 0) ∧ g1 (r + 2) = inA cI 0 (fun _ => 0) ∧ g1 (r + 3) = inA cI 0 (fun _ => 0) ∧ (∀ r1, r1 ≠ r → r1 ≠ r + 1 → r1 ≠ r + 2 → r1 ≠ r + 3 → g1 r1 = g r1) ∧ ∀ r1, r1 ≠ r + 1 → r1 ≠ r + 2 → r1 ≠ r + 3 → ad1 r1 = ad r1)) 3 0 (aB B) := by
  refine ofV (own := R_W) (by decide) rfl (Nat.le_of_ble_eq_true rfl) ?_
  intro p e s m below meth c Q C hnm hret
  change kV _ _ _ _ _ _ _ _ _ _ _ _ _ _ _ _ _ _ _ _ _ [(0, .ref (ad r))] _ _
  refine v_aload_n C d_W_init_0 rfl 0 rfl ?_
  refine v_oi C ml_W_3 d_W_init_1 (Nat.le_of_ble_eq_true rfl) (Nat.le_of_ble_eq_true rfl) ?_
  refine v_aload_n C d_W_init_4 rfl 0 rfl ?_
  refine v_iconst C d_W_init_5 ?_
  refine pf_W_9 (fs' := [.int (iI 0), .int 0, .null, .null, .null]) C (by omega) h0 rfl rfl (Nat.le_of_ble_eq_true rfl) rfl d_W_init_6 (fun g1 h0 fr2 => ?_)
  refine v_aload_n C d_W_init_9 rfl 0 rfl ?_
  refine v_iconst C d_W_init_10 ?_
  refine pf_W_15 (fs' := [.int (iI 0), .int (iI 0), .null, .null, .null]) C (by omega) h0 rfl rfl (Nat.le_of_ble_eq_true rfl) rfl d_W_init_11 (fun g3 h0 fr4 => ?_)
  refine v_aload_n C d_W_init_14 rfl 0 rfl ?_
  refine v_iconst C d_W_init_15 ?_
  refine v_newiP C 0 rfl (by decide) (Nat.le_of_ble_eq_true rfl) (Nat.le_of_ble_eq_true rfl) d_W_init_16 (fun ad5 g5 hA5 hb1 fr5 => ?_)
  have h0 := (fr5 r (by omega)).trans h0
  refine v_lvE (lv' := [(0, .ref (ad5 r))]) (by rw [hA5 r (by omega)]) ?_
  refine v_stE (st' := [.ref (ad5 (r + 1)), .ref (ad5 r)]) (by rw [hA5 r (by omega)]) ?_
  refine pf_W_18 (fs' := [.int (iI 0), .int (iI 0), .ref (ad5 (r + 1)), .null, .null]) C (by omega) h0 rfl rfl (Nat.le_of_ble_eq_true rfl) rfl d_W_init_18 (fun g6 h0 fr7 => ?_)
  have hb1 := (fr7 (r + 1) (by omega)).trans hb1
  refine v_aload_n C d_W_init_21 rfl 0 rfl ?_
  refine v_iconst C d_W_init_22 ?_
  refine v_newiP C 0 rfl (by decide) (Nat.le_of_ble_eq_true rfl) (Nat.le_of_ble_eq_true rfl) d_W_init_23 (fun ad8 g8 hA8 hb2 fr8 => ?_)
  have h0 := (fr8 r (by omega)).trans h0
  have hb1 := (fr8 (r + 1) (by omega)).trans hb1
  refine v_lvE (lv' := [(0, .ref (ad8 r))]) (by rw [hA8 r (by omega)]) ?_
  refine v_stE (st' := [.ref (ad8 (r + 2)), .ref (ad8 r)]) (by rw [hA8 r (by omega)]) ?_
  have h0 : g8 r = .inr (2, [.int (iI 0), .int (iI 0), .ref (ad8 (r + 1)), .null, .null]) := by rw [hA8 (r + 1) (by omega)]; exact h0
  refine pf_W_22 (fs' := [.int (iI 0), .int (iI 0), .ref (ad8 (r + 1)), .ref (ad8 (r + 2)), .null]) C (by omega) h0 rfl rfl (Nat.le_of_ble_eq_true rfl) rfl d_W_init_25 (fun g9 h0 fr10 => ?_)
  have hb1 := (fr10 (r + 1) (by omega)).trans hb1
  have hb2 := (fr10 (r + 2) (by omega)).trans hb2
  refine v_aload_n C d_W_init_28 rfl 0 rfl ?_
  refine v_iconst C d_W_init_29 ?_
  refine v_newiP C 0 rfl (by decide) (Nat.le_of_ble_eq_true rfl) (Nat.le_of_ble_eq_true rfl) d_W_init_30 (fun ad11 g11 hA11 hb3 fr11 => ?_)
  have h0 := (fr11 r (by omega)).trans h0
  have hb1 := (fr11 (r + 1) (by omega)).trans hb1
  have hb2 := (fr11 (r + 2) (by omega)).trans hb2
  refine v_lvE (lv' := [(0, .ref (ad11 r))]) (by rw [hA11 r (by omega)]) ?_
  refine v_stE (st' := [.ref (ad11 (r + 3)), .ref (ad11 r)]) (by rw [hA11 r (by omega)]) ?_
  have h0 : g11 r = .inr (2, [.int (iI 0), .int (iI 0), .ref (ad11 (r + 1)), .ref (ad11 (r + 2)), .null]) := by rw [hA11 (r + 1) (by omega), hA11 (r + 2) (by omega)]; exact h0
  refine pf_W_25 (fs' := [.int (iI 0), .int (iI 0), .ref (ad11 (r + 1)), .ref (ad11 (r + 2)), .ref (ad11 (r + 3))]) C (by omega) h0 rfl rfl (Nat.le_of_ble_eq_true rfl) rfl d_W_init_32 (fun g12 h0 fr13 => ?_)
  have hb1 := (fr13 (r + 1) (by omega)).trans hb1
  have hb2 := (fr13 (r + 2) (by omega)).trans hb2
  have hb3 := (fr13 (r + 3) (by omega)).trans hb3
  exact hret _ _ _ _ _ _ (Nat.le_of_ble_eq_true rfl) (Nat.le_of_ble_eq_true rfl) d_W_init_35 ⟨h0, hb1, hb2, hb3, (fun r1 n0 n1 n2 n3 => ((fr13 r1 n0).trans ((fr11 r1 n3).trans ((fr10 r1 n0).trans ((fr8 r1 n2).trans ((fr7 r1 n0).trans ((fr5 r1 n1).trans ((fr4 r1 n0).trans (fr2 r1 n0))))))))), (fun r1 n0 n1 n2 => ((hA11 r1 n2).trans ((hA8 r1 n1).trans (hA5 r1 n0))))⟩
