set_option maxHeartbeats 1000000 in
set_option maxRecDepth 100000 in
theorem c_cellAt (l : Launch) {B : Nat} {D : va_G} {cI cZ cL cS cW : ClassId} {ad : Nat → Nat} {g : Nat → va_E} (x y : Int) : Met l y_A_cellAt (Cond.code y_A_cellAt b_A_cellAt 2 (some .int) :: wG) (rmF 0 0 0 0) (wPc B D classes (tyL cI cZ cL cS cW) (Zs B) 95 [.int (iI x), .int (iI y)] ad g) (QI B D classes 95 (fun v ad1 g1 => v = iI (y * 16 + x) ∧ ad = ad1 ∧ g = g1)) 0 0 (aB B) := by
  refine ofI (own := R_A) (by decide) rfl (Nat.le_of_ble_eq_true rfl) ?_
  intro p e s m below meth c Q C hnm hret
  change kV _ _ _ _ _ _ _ _ _ _ _ _ _ _ _ _ _ _ _ _ _ [(0, .int (iI x)), (1, .int (iI y))] _ _
  refine v_iload_n C d_A_cellAt_0 rfl 1 rfl ?_
  refine v_bipush C d_A_cellAt_1 (by decide +kernel) ?_
  refine v_imulI C d_A_cellAt_3 ?_
  refine v_iload_n C d_A_cellAt_4 rfl 0 rfl ?_
  refine v_iaddI C d_A_cellAt_5 ?_
  exact hret _ _ _ _ _ _ _ (Nat.zero_le _) (Nat.zero_le _) d_A_cellAt_6 ⟨rfl, rfl, rfl⟩
set_option maxHeartbeats 1000000 in
set_option maxRecDepth 100000 in
theorem c_binAt (l : Launch) {B : Nat} {D : va_G} {cI cZ cL cS cW : ClassId} {ad : Nat → Nat} {g : Nat → va_E} (r : Nat) (t : ShT) (x y : Int) (hr : r < 95) (h0 : g r = shE (ad (r + 1)) t) : Met l y_S_binAt (Cond.code y_S_binAt b_S_binAt 3 (some .int) :: wG) (rmF 0 0 0 0) (wPc B D classes (tyL cI cZ cL cS cW) (Zs B) 95 [.ref (ad r), .int (iI x), .int (iI y)] ad g) (QI B D classes 95 (fun v ad1 g1 => v = iI (t.2.2.1 * y - t.2.2.2.1 * x - t.2.2.2.2.1) ∧ ad = ad1 ∧ g = g1)) 0 0 (aB B) := by
  refine ofI (own := R_S) (by decide) rfl (Nat.le_of_ble_eq_true rfl) ?_
  intro p e s m below meth c Q C hnm hret
  change kV _ _ _ _ _ _ _ _ _ _ _ _ _ _ _ _ _ _ _ _ _ [(0, .ref (ad r)), (1, .int (iI x)), (2, .int (iI y))] _ _
  refine v_aload_n C d_S_binAt_0 rfl 0 rfl ?_
  refine gf_S_18 C (by omega) h0 rfl d_S_binAt_1 ?_
  refine v_iload_n C d_S_binAt_4 rfl 2 rfl ?_
  refine v_imulI C d_S_binAt_5 ?_
  refine v_aload_n C d_S_binAt_6 rfl 0 rfl ?_
  refine gf_S_22 C (by omega) h0 rfl d_S_binAt_7 ?_
  refine v_iload_n C d_S_binAt_10 rfl 1 rfl ?_
  refine v_imulI C d_S_binAt_11 ?_
  refine v_isubI C d_S_binAt_12 ?_
  refine v_aload_n C d_S_binAt_13 rfl 0 rfl ?_
  refine gf_S_25 C (by omega) h0 rfl d_S_binAt_14 ?_
  refine v_isubI C d_S_binAt_17 ?_
  exact hret _ _ _ _ _ _ _ (Nat.zero_le _) (Nat.zero_le _) d_S_binAt_18 ⟨rfl, rfl, rfl⟩
set_option maxHeartbeats 1000000 in
set_option maxRecDepth 100000 in
theorem c_unaim (l : Launch) {B : Nat} {D : va_G} {cI cZ cL cS cW : ClassId} {ad : Nat → Nat} {g : Nat → va_E} (r : Nat) (t : ShT) (hr : r < 95) (h0 : g r = shE (ad (r + 1)) t) : Met l y_S_unaim (Cond.code y_S_unaim b_S_unaim 1 none :: wG) (rmF 0 0 0 0) (wPc B D classes (tyL cI cZ cL cS cW) (Zs B) 95 [.ref (ad r)] ad g) (QV B D classes 95 (fun ad1 g1 => ad = ad1 ∧ g1 r = shE (ad (r + 1)) (false, false, t.2.2) ∧ ∀ r1, r1 ≠ r → g1 r1 = g r1)) 0 0 (aB B) := by
  refine ofV (own := R_S) (by decide) rfl (Nat.le_of_ble_eq_true rfl) ?_
  intro p e s m below meth c Q C hnm hret
  change kV _ _ _ _ _ _ _ _ _ _ _ _ _ _ _ _ _ _ _ _ _ [(0, .ref (ad r))] _ _
  refine v_aload_n C d_S_unaim_0 rfl 0 rfl ?_
  refine v_iconst C d_S_unaim_1 ?_
  refine pf_S_9 (fs' := [.int (iI 0), .int (bI t.2.1), .int (iI t.2.2.1), .int (iI t.2.2.2.1), .int (iI t.2.2.2.2.1), .int (iI t.2.2.2.2.2), .ref (ad (r + 1))]) C (by omega) h0 rfl rfl (Nat.le_of_ble_eq_true rfl) rfl d_S_unaim_2 (fun g1 h0 fr2 => ?_)
  refine v_aload_n C d_S_unaim_5 rfl 0 rfl ?_
  refine v_iconst C d_S_unaim_6 ?_
  refine pf_S_15 (fs' := [.int (iI 0), .int (iI 0), .int (iI t.2.2.1), .int (iI t.2.2.2.1), .int (iI t.2.2.2.2.1), .int (iI t.2.2.2.2.2), .ref (ad (r + 1))]) C (by omega) h0 rfl rfl (Nat.le_of_ble_eq_true rfl) rfl d_S_unaim_7 (fun g3 h0 fr4 => ?_)
  exact hret _ _ _ _ _ _ (Nat.zero_le _) (Nat.zero_le _) d_S_unaim_10 ⟨rfl, h0, (fun r1 n0 => ((fr4 r1 n0).trans (fr2 r1 n0)))⟩
set_option maxHeartbeats 1000000 in
set_option maxRecDepth 100000 in
/-- Arrays.fill(int[], int) -/
theorem c_fill (l : Launch) {B : Nat} {D : va_G} {cI cZ cL cS cW : ClassId} {ad : Nat → Nat} {g : Nat → va_E} (r n : Nat) (f : Nat → Int32) (x : Int32) (hr : r < 95) (hn : n < 65536) (h0 : g r = inA cI n f) : Met l y_J_fill (Cond.code y_J_fill b_J_fill 4 none :: wG) (rmF 0 0 0 0) (wPc B D classes (tyL cI cZ cL cS cW) (Zs B) 95 [.ref (ad r), .int x] ad g) (QV B D classes 95 (fun ad1 g1 => ad = ad1 ∧ g1 r = inA cI n (fun _ => x) ∧ ∀ r1, r1 ≠ r → g1 r1 = g r1)) 0 0 (aB B) := by
  refine ofV (own := R_J) (by decide) rfl (Nat.le_of_ble_eq_true rfl) ?_
  intro p e s m below meth c Q C hnm hret
  change kV _ _ _ _ _ _ _ _ _ _ _ _ _ _ _ _ _ _ _ _ _ [(0, .ref (ad r)), (1, .int x)] _ _
  refine v_iconst C d_J_fill_0 ?_
  refine v_istore_n (lv' := [(2, .int (iI 0)), (0, .ref (ad r)), (1, .int x)]) C d_J_fill_1 rfl (by decide) rfl ?_
  refine v_aload_n C d_J_fill_2 rfl 1 rfl ?_
  refine v_alen C 0 (by omega) h0 rfl d_J_fill_3 ?_
  refine v_istore_n (lv' := [(3, .int (iI (n : Nat))), (2, .int (iI 0)), (0, .ref (ad r)), (1, .int x)]) C d_J_fill_4 rfl (by decide) rfl ?_
  refine v_lv (lv' := [(0, .ref (ad r)), (1, .int x), (2, .int (iI 0)), (3, .int (iI (n : Nat)))]) [2, 3, 1, 0] rfl ?_
  have L5 : ∀ (d9 : Nat) (i : Nat) (f9 : Nat → Int32) (G5 : Nat → va_E), n - i < d9 → (i ≤ n) → (∀ k, k < i → f9 k = x) → (∀ r1, r1 ≠ r → G5 r1 = g r1) → G5 r = inA cI n f9 → kV p l e (rmF 0 0 0 0) s m ([.ref (ad r), .int x] : List Value).toArray below meth c Q s.heap B D classes 4 95 0 0 ad G5 [(0, .ref (ad r)), (1, .int x), (2, .int (iI (i : Int))), (3, .int (iI (n : Int)))] [] 5 := by
    intro d9
    induction d9 with
    | zero => intro i f9 G5 hd9; exact absurd hd9 (Nat.not_lt_zero _)
    | succ d9 ih5 =>
      intro i f9 G5 hd5 hi hf hfr5 h0
      refine v_iload_n C d_J_fill_5 rfl 2 rfl ?_
      refine v_iload_n C d_J_fill_6 rfl 3 rfl ?_
      refine v_icmp_geI C d_J_fill_7 (by omega) (by omega) (by omega) (by omega) (fun hb7 => ?_) (fun hb7 => ?_)
      · refine v_ext (fun _ => x) h0 (fun k hk => hf k (by omega)) (fun g9 h0 fr9 => ?_)
        exact hret _ _ _ _ _ _ (Nat.zero_le _) (Nat.zero_le _) d_J_fill_20 ⟨rfl, h0, (fun r1 n0 => ((fr9 r1 n0).trans (hfr5 r1 n0)))⟩
      · refine v_aload_n C d_J_fill_10 rfl 0 rfl ?_
        refine v_iload_n C d_J_fill_11 rfl 2 rfl ?_
        refine v_iload_n C d_J_fill_12 rfl 1 rfl ?_
        refine v_iast C 0 (by omega) h0 rfl (i : Nat) (by omega) (by omega) (by omega) d_J_fill_13 (fun g1 h0 fr2 => ?_)
        refine v_iinc (lv' := [(2, .int (iI ((i : Int) + 1))), (0, .ref (ad r)), (1, .int x), (3, .int (iI (n : Int)))]) C d_J_fill_14 2 rfl (by decide) rfl ?_
        refine v_goto C d_J_fill_17 ?_
        refine v_lv (lv' := [(0, .ref (ad r)), (1, .int x), (2, .int (iI ((i : Int) + 1))), (3, .int (iI (n : Int)))]) [1, 2, 0, 3] rfl ?_
        exact ih5 (i + 1) (upd f9 i x) _ (by omega) (by omega) (upd_all hf) (fun r1 n0 => ((fr2 r1 n0).trans (hfr5 r1 n0))) h0
  exact L5 _ 0 f _ (Nat.lt_succ_self _) (Nat.zero_le _) (fun k hk => absurd hk (Nat.not_lt_zero _)) (fun r1 _ => rfl) h0
set_option maxHeartbeats 1000000 in
set_option maxRecDepth 100000 in
theorem c_fillFrom (l : Launch) {B : Nat} {D : va_G} {cI cZ cL cS cW : ClassId} {ad : Nat → Nat} {g : Nat → va_E} (r rc w h : Nat) (t : ShT) (cf bf : Nat → Int32) (bn : Nat → Nat → Nat) (hr : r < 94) (hrc : rc < 95) (hc1 : rc ≠ r) (hc2 : rc ≠ r + 1) (hw : w ≤ 16) (hh : h ≤ 16) (hbn : ∀ x y : Nat, x < w → y < h → t.2.2.1 * (y : Int) - t.2.2.2.1 * (x : Int) - t.2.2.2.2.1 = (bn x y : Int) ∧ bn x y < 481) (h0 : g r = shE (ad (r + 1)) t) (h1 : g (r + 1) = inA cI 481 bf) (h2 : g rc = inA cI 256 cf) : Met l y_S_fillFrom (Cond.code y_S_fillFrom b_S_fillFrom 6 none :: wG) (rmF 1 40 0 0) (wPc B D classes (tyL cI cZ cL cS cW) (Zs B) 95 [.ref (ad r), .ref (ad rc), .int (iI (w : Int)), .int (iI (h : Int))] ad g) (QV B D classes 95 (fun ad1 g1 => ad = ad1 ∧ g1 (r + 1) = inA cI 481 (accY bn cf w h (fun _ => 0)) ∧ g1 r = shE (ad (r + 1)) (t.1, true, t.2.2) ∧ ∀ r1, r1 ≠ r + 1 → r1 ≠ r → g1 r1 = g r1)) 0 0 (aB B) := by
  refine ofV (own := R_S) (by decide) rfl (Nat.le_of_ble_eq_true rfl) ?_
  intro p e s m below meth c Q C hnm hret
  change kV _ _ _ _ _ _ _ _ _ _ _ _ _ _ _ _ _ _ _ _ _ [(0, .ref (ad r)), (1, .ref (ad rc)), (2, .int (iI (w : Int))), (3, .int (iI (h : Int)))] _ _
  refine v_aload_n C d_S_fillFrom_0 rfl 0 rfl ?_
  refine gf_S_31 C (by omega) h0 rfl d_S_fillFrom_1 ?_
  refine v_iconst C d_S_fillFrom_4 ?_
  refine v_callSV (As := [.ref (ad (r + 1)), .int (iI 0)]) (st := []) C (c_fill l (r + 1) 481 bf (iI 0) (by omega) (by decide) h1) (lk_S_48 C.1.2.2.2.2 rfl rfl ⟨Nat.le_of_ble_eq_true rfl, Nat.le_of_ble_eq_true rfl⟩) rfl rfl (Nat.le_of_ble_eq_true rfl) d_S_fillFrom_5 ⟨Nat.le_of_ble_eq_true rfl, Nat.le_of_ble_eq_true rfl⟩ (fun ad1 g1 hp1 => ?_)
  obtain ⟨rfl, h1, fr1⟩ := hp1
  have h0 := (fr1 r (by omega)).trans h0
  have h2 := (fr1 rc (by omega)).trans h2
  refine v_iconst C d_S_fillFrom_8 ?_
  refine v_istore (lv' := [(4, .int (iI 0)), (0, .ref (ad r)), (1, .ref (ad rc)), (2, .int (iI (w : Int))), (3, .int (iI (h : Int)))]) C d_S_fillFrom_9 (by decide) rfl ?_
  refine v_lv (lv' := [(0, .ref (ad r)), (1, .ref (ad rc)), (2, .int (iI (w : Int))), (3, .int (iI (h : Int))), (4, .int (iI 0))]) [1, 2, 3, 4, 0] rfl ?_
  have L11 : ∀ (d9 : Nat) (y : Nat) (G11 : Nat → va_E), h - y < d9 → (y ≤ h) → (∀ r1, r1 ≠ (r + 1) → G11 r1 = g1 r1) → G11 (r + 1) = inA cI 481 (accY bn cf w y (fun _ => 0)) → kV p l e (rmF 1 40 0 0) s m ([.ref (ad r), .ref (ad rc), .int (iI (w : Int)), .int (iI (h : Int))] : List Value).toArray below meth c Q s.heap B D classes 6 95 0 0 ad G11 [(0, .ref (ad r)), (1, .ref (ad rc)), (2, .int (iI (w : Int))), (3, .int (iI (h : Int))), (4, .int (iI (y : Int)))] [] 11 := by
    intro d9
    induction d9 with
    | zero => intro y G11 hd9; exact absurd hd9 (Nat.not_lt_zero _)
    | succ d9 ih11 =>
      intro y G11 hd11 hy hfr11 h1
      have h0 := (hfr11 r (by omega)).trans h0
      have h2 := (hfr11 rc (by omega)).trans h2
      refine v_iload C d_S_fillFrom_11 4 rfl ?_
      refine v_iload_n C d_S_fillFrom_13 rfl 3 rfl ?_
      refine v_icmp_geI C d_S_fillFrom_14 (by omega) (by omega) (by omega) (by omega) (fun hb14 => ?_) (fun hb14 => ?_)
      · have hyh : y = h := by omega
        rw [hyh] at h1
        refine v_aload_n C d_S_fillFrom_63 rfl 0 rfl ?_
        refine v_iconst C d_S_fillFrom_64 ?_
        refine pf_S_15 (fs' := [.int (bI t.1), .int (iI 1), .int (iI t.2.2.1), .int (iI t.2.2.2.1), .int (iI t.2.2.2.2.1), .int (iI t.2.2.2.2.2), .ref (ad (r + 1))]) C (by omega) h0 rfl rfl (Nat.le_of_ble_eq_true rfl) rfl d_S_fillFrom_65 (fun g2 h0 fr3 => ?_)
        have h2 := (fr3 rc (by omega)).trans h2
        have h1 := (fr3 (r + 1) (by omega)).trans h1
        exact hret _ _ _ _ _ _ (Nat.zero_le _) (Nat.zero_le _) d_S_fillFrom_68 ⟨rfl, h1, h0, (fun r1 n0 n1 => ((fr3 r1 n1).trans ((hfr11 r1 n0).trans (fr1 r1 n0))))⟩
      · refine v_iconst C d_S_fillFrom_17 ?_
        refine v_istore (lv' := [(5, .int (iI 0)), (0, .ref (ad r)), (1, .ref (ad rc)), (2, .int (iI (w : Int))), (3, .int (iI (h : Int))), (4, .int (iI (y : Int)))]) C d_S_fillFrom_18 (by decide) rfl ?_
        refine v_lv (lv' := [(0, .ref (ad r)), (1, .ref (ad rc)), (2, .int (iI (w : Int))), (3, .int (iI (h : Int))), (4, .int (iI (y : Int))), (5, .int (iI 0))]) [1, 2, 3, 4, 5, 0] rfl ?_
        have L20 : ∀ (d9 : Nat) (x : Nat) (G20 : Nat → va_E), w - x < d9 → (x ≤ w) → (∀ r1, r1 ≠ (r + 1) → G20 r1 = G11 r1) → G20 (r + 1) = inA cI 481 (accX bn cf y x (accY bn cf w y (fun _ => 0))) → kV p l e (rmF 1 40 0 0) s m ([.ref (ad r), .ref (ad rc), .int (iI (w : Int)), .int (iI (h : Int))] : List Value).toArray below meth c Q s.heap B D classes 6 95 0 0 ad G20 [(0, .ref (ad r)), (1, .ref (ad rc)), (2, .int (iI (w : Int))), (3, .int (iI (h : Int))), (4, .int (iI (y : Int))), (5, .int (iI (x : Int)))] [] 20 := by
          intro d9
          induction d9 with
          | zero => intro x G20 hd9; exact absurd hd9 (Nat.not_lt_zero _)
          | succ d9 ih20 =>
            intro x G20 hd20 hx hfr20 h1
            have h0 := (hfr20 r (by omega)).trans h0
            have h2 := (hfr20 rc (by omega)).trans h2
            refine v_iload C d_S_fillFrom_20 5 rfl ?_
            refine v_iload_n C d_S_fillFrom_22 rfl 2 rfl ?_
            refine v_icmp_geI C d_S_fillFrom_23 (by omega) (by omega) (by omega) (by omega) (fun hb23 => ?_) (fun hb23 => ?_)
            · have hxw : x = w := by omega
              rw [hxw] at h1
              refine v_iinc (lv' := [(4, .int (iI ((y : Int) + 1))), (0, .ref (ad r)), (1, .ref (ad rc)), (2, .int (iI (w : Int))), (3, .int (iI (h : Int))), (5, .int (iI (x : Int)))]) C d_S_fillFrom_57 4 rfl (by decide) rfl ?_
              refine v_goto C d_S_fillFrom_60 ?_
              refine v_lv (lv' := [(0, .ref (ad r)), (1, .ref (ad rc)), (2, .int (iI (w : Int))), (3, .int (iI (h : Int))), (4, .int (iI ((y : Int) + 1)))]) [1, 2, 3, 4, 0] rfl ?_
              exact ih11 (y + 1) _ (by omega) (by omega) (fun r1 n0 => ((hfr20 r1 n0).trans (hfr11 r1 n0))) h1
            · refine v_aload_n C d_S_fillFrom_26 rfl 0 rfl ?_
              refine gf_S_31 C (by omega) h0 rfl d_S_fillFrom_27 ?_
              refine v_aload_n C d_S_fillFrom_30 rfl 0 rfl ?_
              refine v_iload C d_S_fillFrom_31 5 rfl ?_
              refine v_iload C d_S_fillFrom_33 4 rfl ?_
              refine v_callVI (As := [.int (iI (x : Int)), .int (iI (y : Int))]) (st := [.ref (ad (r + 1))]) (by omega) h0 rfl rfl C (c_binAt l r t (x : Int) (y : Int) (by omega) h0) (lk_S_54 C.1.2.2.2.2 rfl rfl ⟨Nat.le_of_ble_eq_true rfl, Nat.le_of_ble_eq_true rfl⟩) rfl rfl (Nat.le_of_ble_eq_true rfl) d_S_fillFrom_35 ⟨Nat.le_of_ble_eq_true rfl, Nat.le_of_ble_eq_true rfl⟩ (fun w4 ad4 g4 hp4 => ?_)
              obtain ⟨rfl, rfl, rfl⟩ := hp4
              refine v_dup2 C d_S_fillFrom_38 rfl rfl ?_
              refine v_iald C 0 (by omega) h1 rfl (bn x y) ((hbn x y (by omega) (by omega)).1) ((hbn x y (by omega) (by omega)).2) (by omega) d_S_fillFrom_39 ?_
              refine v_aload_n C d_S_fillFrom_40 rfl 1 rfl ?_
              refine v_iload C d_S_fillFrom_41 5 rfl ?_
              refine v_iload C d_S_fillFrom_43 4 rfl ?_
              refine v_callSNI (As := [.int (iI (x : Int)), .int (iI (y : Int))]) (st := [.ref (ad rc), .int ((accX bn cf y x (accY bn cf w y (fun _ => 0))) (bn x y)), .int (iI (t.2.2.1 * (y : Int) - t.2.2.2.1 * (x : Int) - t.2.2.2.2.1)), .ref (ad (r + 1))]) C (c_cellAt l (x : Int) (y : Int)) (lk_S_57 C.1.2.2.2.2 C.2.2.2.1.1.2.2.2.1 rfl rfl ⟨Nat.le_of_ble_eq_true rfl, Nat.le_of_ble_eq_true rfl⟩) rfl rfl (Nat.le_of_ble_eq_true rfl) d_S_fillFrom_45 ⟨Nat.le_of_ble_eq_true rfl, Nat.le_of_ble_eq_true rfl⟩ (fun w5 ad5 g5 hp5 => ?_)
              obtain ⟨rfl, rfl, rfl⟩ := hp5
              refine v_iald C 0 (by omega) h2 rfl (16 * y + x) (by omega) (by omega) (by omega) d_S_fillFrom_48 ?_
              refine v_iadd C d_S_fillFrom_49 ?_
              refine v_iast C 0 (by omega) h1 rfl (bn x y) ((hbn x y (by omega) (by omega)).1) ((hbn x y (by omega) (by omega)).2) (by omega) d_S_fillFrom_50 (fun g6 h1 fr7 => ?_)
              have h0 := (fr7 r (by omega)).trans h0
              have h2 := (fr7 rc (by omega)).trans h2
              refine v_iinc (lv' := [(5, .int (iI ((x : Int) + 1))), (0, .ref (ad r)), (1, .ref (ad rc)), (2, .int (iI (w : Int))), (3, .int (iI (h : Int))), (4, .int (iI (y : Int)))]) C d_S_fillFrom_51 5 rfl (by decide) rfl ?_
              refine v_goto C d_S_fillFrom_54 ?_
              refine v_lv (lv' := [(0, .ref (ad r)), (1, .ref (ad rc)), (2, .int (iI (w : Int))), (3, .int (iI (h : Int))), (4, .int (iI (y : Int))), (5, .int (iI ((x : Int) + 1)))]) [1, 2, 3, 4, 5, 0] rfl ?_
              exact ih20 (x + 1) _ (by omega) (by omega) (fun r1 n0 => ((fr7 r1 n0).trans (hfr20 r1 n0))) h1
        exact L20 _ 0 _ (Nat.lt_succ_self _) (Nat.zero_le _) (fun r1 _ => rfl) h1
  exact L11 _ 0 _ (Nat.lt_succ_self _) (Nat.zero_le _) (fun r1 _ => rfl) h1
