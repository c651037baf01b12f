set_option maxHeartbeats 1000000 in
set_option maxRecDepth 100000 in
theorem c_Mshelf (l : Launch) {B : Nat} {D : va_G} {cI cZ cL cS cW : ClassId} {ad : Nat → Nat} {g : Nat → va_E} (th : Int) (w h : Nat) (kp hb : Bool) (tr sq wm : Int) (z y : Int) (z1 : -2147483648 ≤ z) (z2 : z < 2147483648) (y1 : -2147483648 ≤ y) (y2 : y < 2147483648) (hw : 1 ≤ w ∧ w ≤ 16) (hh : 1 ≤ h ∧ h ≤ 16) (hm : g 73 = mE ad th w h kp hb tr sq wm) (tol : Nat → Bool) (htol : g 79 = inA cZ 8 (bA tol)) (rP : Nat → Int) (hrP : g 80 = inA cI 8 (jA rP)) (rQ : Nat → Int) (hrQ : g 81 = inA cI 8 (jA rQ)) (fil : Nat → Bool) (hfil : g 82 = inA cZ 8 (bA fil)) (hPQ : ∀ j, j < 8 → okD (rP j) (rQ j)) : Met l y_M_shelf (Cond.code y_M_shelf b_M_shelf 3 (some .int) :: wG) (rmF 2 75 0 0) (wPc B D classes (tyL cI cZ cL cS cW) (Zs B) 95 [.ref (ad 73), .int (iI z), .int (iI y)] ad g) (QI B D classes 95 (fun v ad1 g1 => (¬ (0 ≤ z ∧ z < 8 ∧ 0 ≤ y ∧ y ≤ 3) ∧ g1 73 = mE ad 1 w h kp hb tr sq wm ∧ ad = ad1 ∧ ∀ r1, r1 ≠ 73 → g1 r1 = g r1) ∨ ((0 ≤ z ∧ z < 8 ∧ 0 ≤ y ∧ y ≤ 3) ∧ (∃ s0 : Nat, (s0 : Int) = z ∧ s0 < 8 ∧ tol s0 = false) ∧ g1 73 = mE ad 2 w h kp hb tr sq wm ∧ ad = ad1 ∧ ∀ r1, r1 ≠ 73 → g1 r1 = g r1) ∨ ((0 ≤ z ∧ z < 8 ∧ 0 ≤ y ∧ y ≤ 3) ∧ (∃ s0 : Nat, (s0 : Int) = z ∧ s0 < 8 ∧ tol s0 = true ∧ ((y = 0 ∧ v = iI (rP s0)) ∨ (y = 1 ∧ v = iI (rQ s0)) ∨ (y = 2 ∧ v = iI (ctI (rP s0) (rQ s0) w h)) ∨ (y = 3 ∧ v = bI (fil s0)))) ∧ g1 73 = mE ad 0 w h kp hb tr sq wm ∧ ad = ad1 ∧ ∀ r1, r1 ≠ 73 → g1 r1 = g r1))) 0 0 (aB B) := by
  refine ofI (own := R_M) (by decide) rfl (Nat.le_of_ble_eq_true rfl) ?_
  intro p e s m below meth c Q C hnm hret
  change kV _ _ _ _ _ _ _ _ _ _ _ _ _ _ _ _ _ _ _ _ _ [(0, .ref (ad 73)), (1, .int (iI z)), (2, .int (iI y))] _ _
  refine v_aload_n C d_M_shelf_0 rfl 0 rfl ?_
  have J22 : ∀ a : Bool, (a = true ↔ ¬ (0 ≤ z ∧ z < 8 ∧ 0 ≤ y ∧ y ≤ 3)) → kV p l e (rmF 2 75 0 0) s m ([.ref (ad 73), .int (iI z), .int (iI y)] : List Value).toArray below meth c Q s.heap B D classes 3 95 0 0 ad g [(0, .ref (ad 73)), (1, .int (iI z)), (2, .int (iI y))] [.int (bI a), .ref (ad 73)] 22 := by
    intro a ha
    have J35 : ∀ b2 : Bool, (b2 = true ↔ (decide (0 ≤ z ∧ z < 8) && tol z.toNat) = false) → kV p l e (rmF 2 75 0 0) s m ([.ref (ad 73), .int (iI z), .int (iI y)] : List Value).toArray below meth c Q s.heap B D classes 3 95 0 0 ad g [(0, .ref (ad 73)), (1, .int (iI z)), (2, .int (iI y))] [.int (bI b2), .int (bI a), .ref (ad 73)] 35 := by
      intro b2 hb2
      refine v_callVI (As := [.int (bI a), .int (bI b2)]) (st := []) (by omega) hm rfl rfl C (c_throwing l th w h kp hb tr sq wm a b2 hm) (lk_M_88 C.1.2.2.2.2 rfl rfl ⟨Nat.le_of_ble_eq_true rfl, Nat.le_of_ble_eq_true rfl⟩) rfl rfl (Nat.le_of_ble_eq_true rfl) d_M_shelf_35 ⟨Nat.le_of_ble_eq_true rfl, Nat.le_of_ble_eq_true rfl⟩ (fun w1 ad1 g1 hp1 => ?_)
      obtain ⟨vt1, rfl, hc1, rfl, fr1⟩ := hp1
      rcases hc1 with ⟨ta35, rfl, hm⟩ | ⟨ta35, tb35, rfl, hm⟩ | ⟨ta35, tb35, rfl, hm⟩
      · -- way 1
        have htol := (fr1 79 (by omega)).trans htol
        have hrP := (fr1 80 (by omega)).trans hrP
        have hrQ := (fr1 81 (by omega)).trans hrQ
        have hfil := (fr1 82 (by omega)).trans hfil
        refine v_if_eqB C d_M_shelf_38 (fun hz9 => absurd hz9 (by decide)) (fun _ => ?_)
        refine v_iconst C d_M_shelf_41 ?_
        exact hret _ _ _ _ _ _ _ (Nat.zero_le _) (Nat.zero_le _) d_M_shelf_42 (Or.inl ⟨ha.mp ta35, hm, rfl, (fun r1 n0 => (fr1 r1 n0))⟩)
      · -- way 2
        have htol := (fr1 79 (by omega)).trans htol
        have hrP := (fr1 80 (by omega)).trans hrP
        have hrQ := (fr1 81 (by omega)).trans hrQ
        have hfil := (fr1 82 (by omega)).trans hfil
        refine v_if_eqB C d_M_shelf_38 (fun hz9 => absurd hz9 (by decide)) (fun _ => ?_)
        refine v_iconst C d_M_shelf_41 ?_
        have haA : (0 ≤ z ∧ z < 8 ∧ 0 ≤ y ∧ y ≤ 3) := Classical.byContradiction (fun q => absurd (ha.mpr q) (by rw [ta35]; decide))
        obtain ⟨s0, hs0⟩ : ∃ s0 : Nat, (s0 : Int) = z := ⟨z.toNat, by omega⟩
        have hs8 : s0 < 8 := by omega
        have hd1 := hb2.mp tb35
        have htd : tol s0 = false := by rw [decide_eq_true (show 0 ≤ z ∧ z < 8 by omega), Bool.true_and, show z.toNat = s0 by omega] at hd1; exact hd1
        exact hret _ _ _ _ _ _ _ (Nat.zero_le _) (Nat.zero_le _) d_M_shelf_42 (Or.inr (Or.inl ⟨haA, ⟨s0, hs0, hs8, htd⟩, hm, rfl, (fun r1 n0 => (fr1 r1 n0))⟩))
      · -- way 3
        have htol := (fr1 79 (by omega)).trans htol
        have hrP := (fr1 80 (by omega)).trans hrP
        have hrQ := (fr1 81 (by omega)).trans hrQ
        have hfil := (fr1 82 (by omega)).trans hfil
        refine v_if_eqB C d_M_shelf_38 (fun _ => ?_) (fun hz9 => absurd hz9 (by decide))
        have haA : (0 ≤ z ∧ z < 8 ∧ 0 ≤ y ∧ y ≤ 3) := Classical.byContradiction (fun q => absurd (ha.mpr q) (by rw [ta35]; decide))
        obtain ⟨s0, hs0⟩ : ∃ s0 : Nat, (s0 : Int) = z := ⟨z.toNat, by omega⟩
        have hs8 : s0 < 8 := by omega
        refine v_lvE (lv' := [(0, .ref (ad 73)), (1, .int (iI (s0 : Int))), (2, .int (iI y))]) (by rw [hs0]) ?_
        have hd1 : (decide (0 ≤ z ∧ z < 8) && tol z.toNat) = true := by cases q : (decide (0 ≤ z ∧ z < 8) && tol z.toNat); (exact absurd (hb2.mpr q) (by rw [tb35]; decide)); rfl
        have htd : tol s0 = true := by rw [Bool.and_eq_true] at hd1; rw [← show z.toNat = s0 by omega]; exact hd1.2
        refine v_iload_n C d_M_shelf_43 rfl 2 rfl ?_
        refine v_if_neI C d_M_shelf_44 (by omega) (by omega) (fun hb44 => ?_) (fun hb44 => ?_)
        · refine v_iload_n C d_M_shelf_56 rfl 2 rfl ?_
          refine v_iconst C d_M_shelf_57 ?_
          refine v_icmp_neI C d_M_shelf_58 (by omega) (by omega) (by omega) (by omega) (fun hb58 => ?_) (fun hb58 => ?_)
          · refine v_iload_n C d_M_shelf_70 rfl 2 rfl ?_
            refine v_iconst C d_M_shelf_71 ?_
            refine v_icmp_neI C d_M_shelf_72 (by omega) (by omega) (by omega) (by omega) (fun hb72 => ?_) (fun hb72 => ?_)
            · refine v_aload_n C d_M_shelf_83 rfl 0 rfl ?_
              refine gf_M_42 C (by omega) hm rfl d_M_shelf_84 ?_
              refine v_iload_n C d_M_shelf_87 rfl 1 rfl ?_
              refine v_zaldB C 1 (by omega) hfil rfl (s0 : Nat) (by omega) (by omega) (by omega) d_M_shelf_88 ?_
              refine v_if_eqB C d_M_shelf_89 (fun hb89 => ?_) (fun hb89 => ?_)
              · refine v_iconst C d_M_shelf_96 ?_
                exact hret _ _ _ _ _ _ _ (Nat.zero_le _) (Nat.zero_le _) d_M_shelf_97 (Or.inr (Or.inr ⟨haA, ⟨s0, hs0, hs8, htd, Or.inr (Or.inr (Or.inr ⟨by omega, by rw [hb89]; rfl⟩))⟩, hm, rfl, (fun r1 n0 => (fr1 r1 n0))⟩))
              · refine v_iconst C d_M_shelf_92 ?_
                refine v_goto C d_M_shelf_93 ?_
                exact hret _ _ _ _ _ _ _ (Nat.zero_le _) (Nat.zero_le _) d_M_shelf_97 (Or.inr (Or.inr ⟨haA, ⟨s0, hs0, hs8, htd, Or.inr (Or.inr (Or.inr ⟨by omega, by rw [hb89]; rfl⟩))⟩, hm, rfl, (fun r1 n0 => (fr1 r1 n0))⟩))
            · refine v_aload_n C d_M_shelf_75 rfl 0 rfl ?_
              refine v_iload_n C d_M_shelf_76 rfl 1 rfl ?_
              refine v_callVI (As := [.int (iI (s0 : Int))]) (st := []) (by omega) hm rfl rfl C (c_binsOf l 0 w h kp hb tr sq wm s0 (by omega) hm rP hrP rQ hrQ hPQ) (lk_M_117 C.1.2.2.2.2 rfl rfl ⟨Nat.le_of_ble_eq_true rfl, Nat.le_of_ble_eq_true rfl⟩) rfl rfl (Nat.le_of_ble_eq_true rfl) d_M_shelf_77 ⟨Nat.le_of_ble_eq_true rfl, Nat.le_of_ble_eq_true rfl⟩ (fun w2 ad2 g2 hp2 => ?_)
              obtain ⟨rfl, rfl, rfl⟩ := hp2
              obtain ⟨hct1, hct2, hct3⟩ := ct_nat (hPQ s0 (by omega)) hw.2 hh.2 hw.1 hh.1
              refine v_goto C d_M_shelf_80 ?_
              exact hret _ _ _ _ _ _ _ (Nat.zero_le _) (Nat.zero_le _) d_M_shelf_97 (Or.inr (Or.inr ⟨haA, ⟨s0, hs0, hs8, htd, Or.inr (Or.inr (Or.inl ⟨by omega, rfl⟩))⟩, hm, rfl, (fun r1 n0 => (fr1 r1 n0))⟩))
          · refine v_aload_n C d_M_shelf_61 rfl 0 rfl ?_
            refine gf_M_39 C (by omega) hm rfl d_M_shelf_62 ?_
            refine v_iload_n C d_M_shelf_65 rfl 1 rfl ?_
            refine v_ialdI C 0 (by omega) hrQ rfl (s0 : Nat) (by omega) (by omega) (by omega) d_M_shelf_66 ?_
            refine v_goto C d_M_shelf_67 ?_
            exact hret _ _ _ _ _ _ _ (Nat.zero_le _) (Nat.zero_le _) d_M_shelf_97 (Or.inr (Or.inr ⟨haA, ⟨s0, hs0, hs8, htd, Or.inr (Or.inl ⟨by omega, rfl⟩)⟩, hm, rfl, (fun r1 n0 => (fr1 r1 n0))⟩))
        · refine v_aload_n C d_M_shelf_47 rfl 0 rfl ?_
          refine gf_M_36 C (by omega) hm rfl d_M_shelf_48 ?_
          refine v_iload_n C d_M_shelf_51 rfl 1 rfl ?_
          refine v_ialdI C 0 (by omega) hrP rfl (s0 : Nat) (by omega) (by omega) (by omega) d_M_shelf_52 ?_
          refine v_goto C d_M_shelf_53 ?_
          exact hret _ _ _ _ _ _ _ (Nat.zero_le _) (Nat.zero_le _) d_M_shelf_97 (Or.inr (Or.inr ⟨haA, ⟨s0, hs0, hs8, htd, Or.inl ⟨by omega, rfl⟩⟩, hm, rfl, (fun r1 n0 => (fr1 r1 n0))⟩))
    refine v_aload_n C d_M_shelf_22 rfl 0 rfl ?_
    refine v_iload_n C d_M_shelf_23 rfl 1 rfl ?_
    refine v_callVI (As := [.int (iI z)]) (st := [.int (bI a), .ref (ad 73)]) (by omega) hm rfl rfl C (c_hasDirection l th w h kp hb tr sq wm z z1 z2 hm tol htol) (lk_M_114 C.1.2.2.2.2 rfl rfl ⟨Nat.le_of_ble_eq_true rfl, Nat.le_of_ble_eq_true rfl⟩) rfl rfl (Nat.le_of_ble_eq_true rfl) d_M_shelf_24 ⟨Nat.le_of_ble_eq_true rfl, Nat.le_of_ble_eq_true rfl⟩ (fun w3 ad3 g3 hp3 => ?_)
    obtain ⟨_, rfl, rfl, rfl, rfl⟩ := hp3
    refine v_if_neB C d_M_shelf_27 (fun hb27 => ?_) (fun hb27 => ?_)
    · refine v_iconst C d_M_shelf_34 ?_
      exact J35 false ⟨fun q => absurd q (by decide), fun q => absurd (hb27.symm.trans q) (by decide)⟩
    · refine v_iconst C d_M_shelf_30 ?_
      refine v_goto C d_M_shelf_31 ?_
      exact J35 true ⟨fun _ => hb27, fun _ => rfl⟩
  refine v_iload_n C d_M_shelf_1 rfl 1 rfl ?_
  refine v_callSI (As := [.int (iI z)]) (st := [.ref (ad 73)]) C (c_isShelf l z z1 z2) (lk_M_84 C.1.2.2.2.2 rfl rfl ⟨Nat.le_of_ble_eq_true rfl, Nat.le_of_ble_eq_true rfl⟩) rfl rfl (Nat.le_of_ble_eq_true rfl) d_M_shelf_2 ⟨Nat.le_of_ble_eq_true rfl, Nat.le_of_ble_eq_true rfl⟩ (fun w4 ad4 g4 hp4 => ?_)
  obtain ⟨_, rfl, rfl, rfl, rfl⟩ := hp4
  refine v_if_eqB C d_M_shelf_5 (fun hb5 => ?_) (fun hb5 => ?_)
  · have hb5 := of_decide_eq_false hb5
    refine v_iconst C d_M_shelf_17 ?_
    refine v_goto C d_M_shelf_18 ?_
    exact J22 true ⟨fun _ => by omega, fun _ => rfl⟩
  · have hb5 := of_decide_eq_true hb5
    refine v_iload_n C d_M_shelf_8 rfl 2 rfl ?_
    refine v_if_ltI C d_M_shelf_9 (by omega) (by omega) (fun hb9 => ?_) (fun hb9 => ?_)
    · refine v_iconst C d_M_shelf_17 ?_
      refine v_goto C d_M_shelf_18 ?_
      exact J22 true ⟨fun _ => by omega, fun _ => rfl⟩
    · refine v_iload_n C d_M_shelf_12 rfl 2 rfl ?_
      refine v_iconst C d_M_shelf_13 ?_
      refine v_icmp_leI C d_M_shelf_14 (by omega) (by omega) (by omega) (by omega) (fun hb14 => ?_) (fun hb14 => ?_)
      · refine v_iconst C d_M_shelf_21 ?_
        exact J22 false ⟨fun q => absurd q (by decide), fun q => absurd q (by omega)⟩
      · refine v_iconst C d_M_shelf_17 ?_
        refine v_goto C d_M_shelf_18 ?_
        exact J22 true ⟨fun _ => by omega, fun _ => rfl⟩
set_option maxHeartbeats 1000000 in
set_option maxRecDepth 100000 in
theorem c_sumUp (l : Launch) {B : Nat} {D : va_G} {cI cZ cL cS cW : ClassId} {ad : Nat → Nat} {g : Nat → va_E} (th : Int) (w h : Nat) (kp hb : Bool) (tr sq wm : Int) (s0 rc : Nat) (cf : Nat → Int32) (hs : s0 < 8) (hrc : rc = 74 ∨ rc = 77) (hcf : g rc = inA cI 256 cf) (hw : 1 ≤ w ∧ w ≤ 16) (hh : 1 ≤ h ∧ h ≤ 16) (hm : g 73 = mE ad th w h kp hb tr sq wm) (rP : Nat → Int) (hrP : g 80 = inA cI 8 (jA rP)) (rQ : Nat → Int) (hrQ : g 81 = inA cI 8 (jA rQ)) (sum : Nat → Int32) (hsum : g 91 = inA cI 481 sum) (hPQ : ∀ j, j < 8 → okD (rP j) (rQ j)) : Met l y_M_sumUp (Cond.code y_M_sumUp b_M_sumUp 5 none :: wG) (rmF 1 40 0 0) (wPc B D classes (tyL cI cZ cL cS cW) (Zs B) 95 [.ref (ad 73), .int (iI (s0 : Int)), .ref (ad rc)] ad g) (QV B D classes 95 (fun ad1 g1 => ad = ad1 ∧ g1 91 = inA cI 481 (accY (bnN (rP s0) (rQ s0) w h) cf w h (fun _ => 0)) ∧ ∀ r1, r1 ≠ 91 → g1 r1 = g r1)) 0 0 (aB B) := by
  refine ofV (own := R_M) (by decide) rfl (Nat.le_of_ble_eq_true rfl) ?_
  intro p e s m below meth c Q C hnm hret
  change kV _ _ _ _ _ _ _ _ _ _ _ _ _ _ _ _ _ _ _ _ _ [(0, .ref (ad 73)), (1, .int (iI (s0 : Int))), (2, .ref (ad rc))] _ _
  refine v_iconst C d_M_sumUp_0 ?_
  refine v_istore_n (lv' := [(3, .int (iI 0)), (0, .ref (ad 73)), (1, .int (iI (s0 : Int))), (2, .ref (ad rc))]) C d_M_sumUp_1 rfl (by decide) rfl ?_
  refine v_lv (lv' := [(0, .ref (ad 73)), (1, .int (iI (s0 : Int))), (2, .ref (ad rc)), (3, .int (iI 0))]) [1, 2, 3, 0] rfl ?_
  have L2 : ∀ (d9 : Nat) (i : Nat) (f9 : Nat → Int32) (G2 : Nat → va_E), 481 - i < d9 → (i ≤ 481) → (∀ k, k < i → f9 k = 0) → (∀ r1, r1 ≠ 91 → G2 r1 = g r1) → G2 91 = inA cI 481 f9 → kV p l e (rmF 1 40 0 0) s m ([.ref (ad 73), .int (iI (s0 : Int)), .ref (ad rc)] : List Value).toArray below meth c Q s.heap B D classes 5 95 0 0 ad G2 [(0, .ref (ad 73)), (1, .int (iI (s0 : Int))), (2, .ref (ad rc)), (3, .int (iI (i : Int)))] [] 2 := by
    intro d9
    induction d9 with
    | zero => intro i f9 G2 hd9; exact absurd hd9 (Nat.not_lt_zero _)
    | succ d9 ih2 =>
      intro i f9 G2 hd2 hi hf hfr2 hsum
      have hm := (hfr2 73 (by omega)).trans hm
      have hrP := (hfr2 80 (by omega)).trans hrP
      have hrQ := (hfr2 81 (by omega)).trans hrQ
      have hcf := (hfr2 rc (by omega)).trans hcf
      refine v_iload_n C d_M_sumUp_2 rfl 3 rfl ?_
      refine v_sipush C d_M_sumUp_3 (by decide +kernel) ?_
      refine v_icmp_geI C d_M_sumUp_6 (by omega) (by omega) (by omega) (by omega) (fun hb6 => ?_) (fun hb6 => ?_)
      · refine v_ext (fun _ => 0) hsum (fun k hk => hf k (by omega)) (fun g9 hsum fr9 => ?_)
        have hm := (fr9 73 (by omega)).trans hm
        have hrP := (fr9 80 (by omega)).trans hrP
        have hrQ := (fr9 81 (by omega)).trans hrQ
        have hcf := (fr9 rc (by omega)).trans hcf
        refine v_iconst C d_M_sumUp_22 ?_
        refine v_istore_n (lv' := [(3, .int (iI 0)), (0, .ref (ad 73)), (1, .int (iI (s0 : Int))), (2, .ref (ad rc))]) C d_M_sumUp_23 rfl (by decide) rfl ?_
        refine v_lv (lv' := [(0, .ref (ad 73)), (1, .int (iI (s0 : Int))), (2, .ref (ad rc)), (3, .int (iI 0))]) [1, 2, 3, 0] rfl ?_
        have L24 : ∀ (d9 : Nat) (y : Nat) (G24 : Nat → va_E), h - y < d9 → (y ≤ h) → (∀ r1, r1 ≠ 91 → G24 r1 = g9 r1) → G24 91 = inA cI 481 (accY (bnN (rP s0) (rQ s0) w h) cf w y (fun _ => 0)) → kV p l e (rmF 1 40 0 0) s m ([.ref (ad 73), .int (iI (s0 : Int)), .ref (ad rc)] : List Value).toArray below meth c Q s.heap B D classes 5 95 0 0 ad G24 [(0, .ref (ad 73)), (1, .int (iI (s0 : Int))), (2, .ref (ad rc)), (3, .int (iI (y : Int)))] [] 24 := by
          intro d9
          induction d9 with
          | zero => intro y G24 hd9; exact absurd hd9 (Nat.not_lt_zero _)
          | succ d9 ih24 =>
            intro y G24 hd24 hy hfr24 hsum
            have hm := (hfr24 73 (by omega)).trans hm
            have hrP := (hfr24 80 (by omega)).trans hrP
            have hrQ := (hfr24 81 (by omega)).trans hrQ
            have hcf := (hfr24 rc (by omega)).trans hcf
            refine v_iload_n C d_M_sumUp_24 rfl 3 rfl ?_
            refine v_aload_n C d_M_sumUp_25 rfl 0 rfl ?_
            refine gf_M_13 C (by omega) hm rfl d_M_sumUp_26 ?_
            refine v_icmp_geI C d_M_sumUp_29 (by omega) (by omega) (by omega) (by omega) (fun hb29 => ?_) (fun hb29 => ?_)
            · have hyh : y = h := by omega
              rw [hyh] at hsum
              exact hret _ _ _ _ _ _ (Nat.zero_le _) (Nat.zero_le _) d_M_sumUp_81 ⟨rfl, hsum, (fun r1 n0 => ((hfr24 r1 n0).trans ((fr9 r1 n0).trans (hfr2 r1 n0))))⟩
            · refine v_iconst C d_M_sumUp_32 ?_
              refine v_istore (lv' := [(4, .int (iI 0)), (0, .ref (ad 73)), (1, .int (iI (s0 : Int))), (2, .ref (ad rc)), (3, .int (iI (y : Int)))]) C d_M_sumUp_33 (by decide) rfl ?_
              refine v_lv (lv' := [(0, .ref (ad 73)), (1, .int (iI (s0 : Int))), (2, .ref (ad rc)), (3, .int (iI (y : Int))), (4, .int (iI 0))]) [1, 2, 3, 4, 0] rfl ?_
              have L35 : ∀ (d9 : Nat) (x : Nat) (G35 : Nat → va_E), w - x < d9 → (x ≤ w) → (∀ r1, r1 ≠ 91 → G35 r1 = G24 r1) → G35 91 = inA cI 481 (accX (bnN (rP s0) (rQ s0) w h) cf y x (accY (bnN (rP s0) (rQ s0) w h) cf w y (fun _ => 0))) → kV p l e (rmF 1 40 0 0) s m ([.ref (ad 73), .int (iI (s0 : Int)), .ref (ad rc)] : List Value).toArray below meth c Q s.heap B D classes 5 95 0 0 ad G35 [(0, .ref (ad 73)), (1, .int (iI (s0 : Int))), (2, .ref (ad rc)), (3, .int (iI (y : Int))), (4, .int (iI (x : Int)))] [] 35 := by
                intro d9
                induction d9 with
                | zero => intro x G35 hd9; exact absurd hd9 (Nat.not_lt_zero _)
                | succ d9 ih35 =>
                  intro x G35 hd35 hx hfr35 hsum
                  have hm := (hfr35 73 (by omega)).trans hm
                  have hrP := (hfr35 80 (by omega)).trans hrP
                  have hrQ := (hfr35 81 (by omega)).trans hrQ
                  have hcf := (hfr35 rc (by omega)).trans hcf
                  refine v_iload C d_M_sumUp_35 4 rfl ?_
                  refine v_aload_n C d_M_sumUp_37 rfl 0 rfl ?_
                  refine gf_M_7 C (by omega) hm rfl d_M_sumUp_38 ?_
                  refine v_icmp_geI C d_M_sumUp_41 (by omega) (by omega) (by omega) (by omega) (fun hb41 => ?_) (fun hb41 => ?_)
                  · have hxw : x = w := by omega
                    rw [hxw] at hsum
                    refine v_iinc (lv' := [(3, .int (iI ((y : Int) + 1))), (0, .ref (ad 73)), (1, .int (iI (s0 : Int))), (2, .ref (ad rc)), (4, .int (iI (x : Int)))]) C d_M_sumUp_75 3 rfl (by decide) rfl ?_
                    refine v_goto C d_M_sumUp_78 ?_
                    refine v_lv (lv' := [(0, .ref (ad 73)), (1, .int (iI (s0 : Int))), (2, .ref (ad rc)), (3, .int (iI ((y : Int) + 1)))]) [1, 2, 3, 0] rfl ?_
                    exact ih24 (y + 1) _ (by omega) (by omega) (fun r1 n0 => ((hfr35 r1 n0).trans (hfr24 r1 n0))) hsum
                  · refine v_aload_n C d_M_sumUp_44 rfl 0 rfl ?_
                    refine gf_M_69 C (by omega) hm rfl d_M_sumUp_45 ?_
                    refine v_aload_n C d_M_sumUp_48 rfl 0 rfl ?_
                    refine v_iload_n C d_M_sumUp_49 rfl 1 rfl ?_
                    refine v_iload C d_M_sumUp_50 4 rfl ?_
                    refine v_iload_n C d_M_sumUp_52 rfl 3 rfl ?_
                    refine v_callVI (As := [.int (iI (s0 : Int)), .int (iI (x : Int)), .int (iI (y : Int))]) (st := [.ref (ad 91)]) (by omega) hm rfl rfl C (c_MbinAt l th w h kp hb tr sq wm s0 (x : Int) (y : Int) (by omega) hh.1 hm rP hrP rQ hrQ hPQ) (lk_M_120 C.1.2.2.2.2 rfl rfl ⟨Nat.le_of_ble_eq_true rfl, Nat.le_of_ble_eq_true rfl⟩) rfl rfl (Nat.le_of_ble_eq_true rfl) d_M_sumUp_53 ⟨Nat.le_of_ble_eq_true rfl, Nat.le_of_ble_eq_true rfl⟩ (fun w1 ad1 g1 hp1 => ?_)
                    obtain ⟨rfl, rfl, rfl⟩ := hp1
                    refine v_dup2 C d_M_sumUp_56 rfl rfl ?_
                    refine v_iald C 0 (by omega) hsum rfl (bnN (rP s0) (rQ s0) w h x y) ((bn_nat (hPQ s0 hs) hw.2 hh.2 (show x < w by omega) (show y < h by omega)).1) (Nat.lt_of_lt_of_le (bn_nat (hPQ s0 hs) hw.2 hh.2 (show x < w by omega) (show y < h by omega)).2.1 (bn_nat (hPQ s0 hs) hw.2 hh.2 (show x < w by omega) (show y < h by omega)).2.2.1) (by omega) d_M_sumUp_57 ?_
                    refine v_aload_n C d_M_sumUp_58 rfl 2 rfl ?_
                    refine v_bipush C d_M_sumUp_59 (by decide +kernel) ?_
                    refine v_iload_n C d_M_sumUp_61 rfl 3 rfl ?_
                    refine v_imulI C d_M_sumUp_62 ?_
                    refine v_iload C d_M_sumUp_63 4 rfl ?_
                    refine v_iaddI C d_M_sumUp_65 ?_
                    refine v_iald C 0 (by omega) hcf rfl (16 * y + x) (by omega) (by omega) (by omega) d_M_sumUp_66 ?_
                    refine v_iadd C d_M_sumUp_67 ?_
                    refine v_iast C 0 (by omega) hsum rfl (bnN (rP s0) (rQ s0) w h x y) ((bn_nat (hPQ s0 hs) hw.2 hh.2 (show x < w by omega) (show y < h by omega)).1) (Nat.lt_of_lt_of_le (bn_nat (hPQ s0 hs) hw.2 hh.2 (show x < w by omega) (show y < h by omega)).2.1 (bn_nat (hPQ s0 hs) hw.2 hh.2 (show x < w by omega) (show y < h by omega)).2.2.1) (by omega) d_M_sumUp_68 (fun g2 hsum fr3 => ?_)
                    have hm := (fr3 73 (by omega)).trans hm
                    have hrP := (fr3 80 (by omega)).trans hrP
                    have hrQ := (fr3 81 (by omega)).trans hrQ
                    have hcf := (fr3 rc (by omega)).trans hcf
                    refine v_iinc (lv' := [(4, .int (iI ((x : Int) + 1))), (0, .ref (ad 73)), (1, .int (iI (s0 : Int))), (2, .ref (ad rc)), (3, .int (iI (y : Int)))]) C d_M_sumUp_69 4 rfl (by decide) rfl ?_
                    refine v_goto C d_M_sumUp_72 ?_
                    refine v_lv (lv' := [(0, .ref (ad 73)), (1, .int (iI (s0 : Int))), (2, .ref (ad rc)), (3, .int (iI (y : Int))), (4, .int (iI ((x : Int) + 1)))]) [1, 2, 3, 4, 0] rfl ?_
                    exact ih35 (x + 1) _ (by omega) (by omega) (fun r1 n0 => ((fr3 r1 n0).trans (hfr35 r1 n0))) hsum
              exact L35 _ 0 _ (Nat.lt_succ_self _) (Nat.zero_le _) (fun r1 _ => rfl) hsum
        exact L24 _ 0 _ (Nat.lt_succ_self _) (Nat.zero_le _) (fun r1 _ => rfl) hsum
      · refine v_aload_n C d_M_sumUp_9 rfl 0 rfl ?_
        refine gf_M_69 C (by omega) hm rfl d_M_sumUp_10 ?_
        refine v_iload_n C d_M_sumUp_13 rfl 3 rfl ?_
        refine v_iconst C d_M_sumUp_14 ?_
        refine v_iast C 0 (by omega) hsum rfl (i : Nat) (by omega) (by omega) (by omega) d_M_sumUp_15 (fun g4 hsum fr5 => ?_)
        have hm := (fr5 73 (by omega)).trans hm
        have hrP := (fr5 80 (by omega)).trans hrP
        have hrQ := (fr5 81 (by omega)).trans hrQ
        have hcf := (fr5 rc (by omega)).trans hcf
        refine v_iinc (lv' := [(3, .int (iI ((i : Int) + 1))), (0, .ref (ad 73)), (1, .int (iI (s0 : Int))), (2, .ref (ad rc))]) C d_M_sumUp_16 3 rfl (by decide) rfl ?_
        refine v_goto C d_M_sumUp_19 ?_
        refine v_lv (lv' := [(0, .ref (ad 73)), (1, .int (iI (s0 : Int))), (2, .ref (ad rc)), (3, .int (iI ((i : Int) + 1)))]) [1, 2, 3, 0] rfl ?_
        exact ih2 (i + 1) _ _ (by omega) (by omega) (upd_all hf) (fun r1 n0 => ((fr5 r1 n0).trans (hfr2 r1 n0))) hsum
  exact L2 _ 0 sum _ (Nat.lt_succ_self _) (by omega) (fun k hk => absurd hk (by omega)) (fun r1 _ => rfl) hsum
set_option maxHeartbeats 1000000 in
set_option maxRecDepth 100000 in
theorem c_Mfill (l : Launch) {B : Nat} {D : va_G} {cI cZ cL cS cW : ClassId} {ad : Nat → Nat} {g : Nat → va_E} (th : Int) (w h : Nat) (kp hb : Bool) (tr sq wm : Int) (s0 rc : Nat) (cf : Nat → Int32) (hs : s0 < 8) (hrc : rc = 74 ∨ rc = 77) (hcf : g rc = inA cI 256 cf) (hw : 1 ≤ w ∧ w ≤ 16) (hh : 1 ≤ h ∧ h ≤ 16) (hm : g 73 = mE ad th w h kp hb tr sq wm) (rP : Nat → Int) (hrP : g 80 = inA cI 8 (jA rP)) (rQ : Nat → Int) (hrQ : g 81 = inA cI 8 (jA rQ)) (sum : Nat → Int32) (hsum : g 91 = inA cI 481 sum) (fil : Nat → Bool) (hfil : g 82 = inA cZ 8 (bA fil)) (bns : Nat → Int32) (hbns : g 83 = inA cI 3848 bns) (hPQ : ∀ j, j < 8 → okD (rP j) (rQ j)) : Met l y_M_fill (Cond.code y_M_fill b_M_fill 4 none :: wG) (rmF 2 75 0 0) (wPc B D classes (tyL cI cZ cL cS cW) (Zs B) 95 [.ref (ad 73), .int (iI (s0 : Int)), .ref (ad rc)] ad g) (QV B D classes 95 (fun ad1 g1 => ad = ad1 ∧ g1 83 = inA cI 3848 (ovl s0 bns (accY (bnN (rP s0) (rQ s0) w h) cf w h (fun _ => 0)) 481) ∧ g1 82 = inA cZ 8 (bA (uP fil s0 true)) ∧ (∃ f1, g1 91 = inA cI 481 f1) ∧ ∀ r1, r1 ≠ 82 → r1 ≠ 83 → r1 ≠ 91 → g1 r1 = g r1)) 0 0 (aB B) := by
  refine ofV (own := R_M) (by decide) rfl (Nat.le_of_ble_eq_true rfl) ?_
  intro p e s m below meth c Q C hnm hret
  change kV _ _ _ _ _ _ _ _ _ _ _ _ _ _ _ _ _ _ _ _ _ [(0, .ref (ad 73)), (1, .int (iI (s0 : Int))), (2, .ref (ad rc))] _ _
  refine v_aload_n C d_M_fill_0 rfl 0 rfl ?_
  refine v_iload_n C d_M_fill_1 rfl 1 rfl ?_
  refine v_aload_n C d_M_fill_2 rfl 2 rfl ?_
  refine v_callVV (As := [.int (iI (s0 : Int)), .ref (ad rc)]) (st := []) (by omega) hm rfl rfl C (c_sumUp l th w h kp hb tr sq wm s0 rc cf hs hrc hcf hw hh hm rP hrP rQ hrQ sum hsum hPQ) (lk_M_124 C.1.2.2.2.2 rfl rfl ⟨Nat.le_of_ble_eq_true rfl, Nat.le_of_ble_eq_true rfl⟩) rfl rfl (Nat.le_of_ble_eq_true rfl) d_M_fill_3 ⟨Nat.le_of_ble_eq_true rfl, Nat.le_of_ble_eq_true rfl⟩ (fun ad1 g1 hp1 => ?_)
  obtain ⟨rfl, hsum, fr1⟩ := hp1
  have hm := (fr1 73 (by omega)).trans hm
  have hrP := (fr1 80 (by omega)).trans hrP
  have hrQ := (fr1 81 (by omega)).trans hrQ
  have hfil := (fr1 82 (by omega)).trans hfil
  have hbns := (fr1 83 (by omega)).trans hbns
  have hcf := (fr1 rc (by omega)).trans hcf
  refine v_iconst C d_M_fill_6 ?_
  refine v_istore_n (lv' := [(3, .int (iI 0)), (0, .ref (ad 73)), (1, .int (iI (s0 : Int))), (2, .ref (ad rc))]) C d_M_fill_7 rfl (by decide) rfl ?_
  refine v_lv (lv' := [(0, .ref (ad 73)), (1, .int (iI (s0 : Int))), (3, .int (iI 0))]) [1, 2, 0] rfl ?_
  have L8 : ∀ (d9 : Nat) (i : Nat) (G8 : Nat → va_E), 481 - i < d9 → (i ≤ 481) → (∀ r1, r1 ≠ 83 → G8 r1 = g1 r1) → G8 83 = inA cI 3848 (ovl s0 bns (accY (bnN (rP s0) (rQ s0) w h) cf w h (fun _ => 0)) i) → kV p l e (rmF 2 75 0 0) s m ([.ref (ad 73), .int (iI (s0 : Int)), .ref (ad rc)] : List Value).toArray below meth c Q s.heap B D classes 4 95 0 0 ad G8 [(0, .ref (ad 73)), (1, .int (iI (s0 : Int))), (3, .int (iI (i : Int)))] [] 8 := by
    intro d9
    induction d9 with
    | zero => intro i G8 hd9; exact absurd hd9 (Nat.not_lt_zero _)
    | succ d9 ih8 =>
      intro i G8 hd8 hi hfr8 hbns
      have hm := (hfr8 73 (by omega)).trans hm
      have hrP := (hfr8 80 (by omega)).trans hrP
      have hrQ := (hfr8 81 (by omega)).trans hrQ
      have hsum := (hfr8 91 (by omega)).trans hsum
      have hfil := (hfr8 82 (by omega)).trans hfil
      have hcf := (hfr8 rc (by omega)).trans hcf
      refine v_iload_n C d_M_fill_8 rfl 2 rfl ?_
      refine v_sipush C d_M_fill_9 (by decide +kernel) ?_
      refine v_icmp_geI C d_M_fill_12 (by omega) (by omega) (by omega) (by omega) (fun hb12 => ?_) (fun hb12 => ?_)
      · refine v_aload_n C d_M_fill_39 rfl 0 rfl ?_
        refine gf_M_42 C (by omega) hm rfl d_M_fill_40 ?_
        refine v_iload_n C d_M_fill_43 rfl 1 rfl ?_
        refine v_iconst C d_M_fill_44 ?_
        refine v_zastB true C 1 (by omega) hfil rfl (s0 : Nat) (by omega) (by omega) (by omega) d_M_fill_45 (fun g2 hfil fr3 => ?_)
        have hm := (fr3 73 (by omega)).trans hm
        have hrP := (fr3 80 (by omega)).trans hrP
        have hrQ := (fr3 81 (by omega)).trans hrQ
        have hsum := (fr3 91 (by omega)).trans hsum
        have hcf := (fr3 rc (by omega)).trans hcf
        have hbns := (fr3 83 (by omega)).trans hbns
        exact hret _ _ _ _ _ _ (Nat.zero_le _) (Nat.zero_le _) d_M_fill_46 ⟨rfl, hbns.trans (by rw [show i = 481 by omega]), hfil, ⟨_, hsum⟩, (fun r1 n0 n1 n2 => ((fr3 r1 n0).trans ((hfr8 r1 n1).trans (fr1 r1 n2))))⟩
      · refine v_aload_n C d_M_fill_15 rfl 0 rfl ?_
        refine gf_M_45 C (by omega) hm rfl d_M_fill_16 ?_
        refine v_sipush C d_M_fill_19 (by decide +kernel) ?_
        refine v_iload_n C d_M_fill_22 rfl 1 rfl ?_
        refine v_imulI C d_M_fill_23 ?_
        refine v_iload_n C d_M_fill_24 rfl 2 rfl ?_
        refine v_iaddI C d_M_fill_25 ?_
        refine v_aload_n C d_M_fill_26 rfl 0 rfl ?_
        refine gf_M_69 C (by omega) hm rfl d_M_fill_27 ?_
        refine v_iload_n C d_M_fill_30 rfl 2 rfl ?_
        refine v_iald C 0 (by omega) hsum rfl (i : Nat) (by omega) (by omega) (by omega) d_M_fill_31 ?_
        refine v_iast C 0 (by omega) hbns rfl (481 * s0 + i) (by omega) (by omega) (by omega) d_M_fill_32 (fun g4 hbns fr5 => ?_)
        have hm := (fr5 73 (by omega)).trans hm
        have hrP := (fr5 80 (by omega)).trans hrP
        have hrQ := (fr5 81 (by omega)).trans hrQ
        have hsum := (fr5 91 (by omega)).trans hsum
        have hfil := (fr5 82 (by omega)).trans hfil
        have hcf := (fr5 rc (by omega)).trans hcf
        refine v_iinc (lv' := [(3, .int (iI ((i : Int) + 1))), (0, .ref (ad 73)), (1, .int (iI (s0 : Int)))]) C d_M_fill_33 2 rfl (by decide) rfl ?_
        refine v_goto C d_M_fill_36 ?_
        refine v_lv (lv' := [(0, .ref (ad 73)), (1, .int (iI (s0 : Int))), (3, .int (iI ((i : Int) + 1)))]) [1, 2, 0] rfl ?_
        exact ih8 (i + 1) _ (by omega) (by omega) (fun r1 n0 => ((fr5 r1 n0).trans (hfr8 r1 n0))) (hbns.trans (by rw [ovl_s]))
  exact L8 _ 0 _ (Nat.lt_succ_self _) (by omega) (fun r1 _ => rfl) (hbns.trans (by rw [ovl_0]))
set_option maxHeartbeats 1000000 in
set_option maxRecDepth 100000 in
theorem c_Mproject (l : Launch) {B : Nat} {D : va_G} {cI cZ cL cS cW : ClassId} {ad : Nat → Nat} {g : Nat → va_E} (th : Int) (w h : Nat) (kp hb : Bool) (tr sq wm : Int) (z : Int) (z1 : -2147483648 ≤ z) (z2 : z < 2147483648) (hw : 1 ≤ w ∧ w ≤ 16) (hh : 1 ≤ h ∧ h ≤ 16) (hm : g 73 = mE ad th w h kp hb tr sq wm) (pic : Nat → Int32) (hpic : g 74 = inA cI 256 pic) (tol : Nat → Bool) (htol : g 79 = inA cZ 8 (bA tol)) (rP : Nat → Int) (hrP : g 80 = inA cI 8 (jA rP)) (rQ : Nat → Int) (hrQ : g 81 = inA cI 8 (jA rQ)) (sum : Nat → Int32) (hsum : g 91 = inA cI 481 sum) (fil : Nat → Bool) (hfil : g 82 = inA cZ 8 (bA fil)) (bns : Nat → Int32) (hbns : g 83 = inA cI 3848 bns) (hPQ : ∀ j, j < 8 → okD (rP j) (rQ j)) : Met l y_M_project (Cond.code y_M_project b_M_project 2 none :: wG) (rmF 3 110 0 0) (wPc B D classes (tyL cI cZ cL cS cW) (Zs B) 95 [.ref (ad 73), .int (iI z)] ad g) (QV B D classes 95 (fun ad1 g1 => (¬ (0 ≤ z ∧ z < 8) ∧ g1 73 = mE ad 1 w h kp hb tr sq wm ∧ ad = ad1 ∧ ∀ r1, r1 ≠ 73 → g1 r1 = g r1) ∨ ((∃ s0 : Nat, (s0 : Int) = z ∧ s0 < 8 ∧ tol s0 = false) ∧ g1 73 = mE ad 2 w h kp hb tr sq wm ∧ ad = ad1 ∧ ∀ r1, r1 ≠ 73 → g1 r1 = g r1) ∨ (∃ s0 : Nat, (s0 : Int) = z ∧ s0 < 8 ∧ tol s0 = true ∧ g1 73 = mE ad 0 w h kp hb tr sq wm ∧ ad = ad1 ∧ g1 83 = inA cI 3848 (ovl s0 bns (accY (bnN (rP s0) (rQ s0) w h) pic w h (fun _ => 0)) 481) ∧ g1 82 = inA cZ 8 (bA (uP fil s0 true)) ∧ (∃ f1, g1 91 = inA cI 481 f1) ∧ ∀ r1, r1 ≠ 73 → r1 ≠ 82 → r1 ≠ 83 → r1 ≠ 91 → g1 r1 = g r1))) 0 0 (aB B) := by
  refine ofV (own := R_M) (by decide) rfl (Nat.le_of_ble_eq_true rfl) ?_
  intro p e s m below meth c Q C hnm hret
  change kV _ _ _ _ _ _ _ _ _ _ _ _ _ _ _ _ _ _ _ _ _ [(0, .ref (ad 73)), (1, .int (iI z))] _ _
  refine v_aload_n C d_M_project_0 rfl 0 rfl ?_
  have J13 : ∀ a : Bool, (a = true ↔ ¬ (0 ≤ z ∧ z < 8)) → kV p l e (rmF 3 110 0 0) s m ([.ref (ad 73), .int (iI z)] : List Value).toArray below meth c Q s.heap B D classes 2 95 0 0 ad g [(0, .ref (ad 73)), (1, .int (iI z))] [.int (bI a), .ref (ad 73)] 13 := by
    intro a ha
    have J26 : ∀ b2 : Bool, (b2 = true ↔ (decide (0 ≤ z ∧ z < 8) && tol z.toNat) = false) → kV p l e (rmF 3 110 0 0) s m ([.ref (ad 73), .int (iI z)] : List Value).toArray below meth c Q s.heap B D classes 2 95 0 0 ad g [(0, .ref (ad 73)), (1, .int (iI z))] [.int (bI b2), .int (bI a), .ref (ad 73)] 26 := by
      intro b2 hb2
      refine v_callVI (As := [.int (bI a), .int (bI b2)]) (st := []) (by omega) hm rfl rfl C (c_throwing l th w h kp hb tr sq wm a b2 hm) (lk_M_88 C.1.2.2.2.2 rfl rfl ⟨Nat.le_of_ble_eq_true rfl, Nat.le_of_ble_eq_true rfl⟩) rfl rfl (Nat.le_of_ble_eq_true rfl) d_M_project_26 ⟨Nat.le_of_ble_eq_true rfl, Nat.le_of_ble_eq_true rfl⟩ (fun w1 ad1 g1 hp1 => ?_)
      obtain ⟨vt1, rfl, hc1, rfl, fr1⟩ := hp1
      rcases hc1 with ⟨ta26, rfl, hm⟩ | ⟨ta26, tb26, rfl, hm⟩ | ⟨ta26, tb26, rfl, hm⟩
      · -- way 1
        have hpic := (fr1 74 (by omega)).trans hpic
        have htol := (fr1 79 (by omega)).trans htol
        have hrP := (fr1 80 (by omega)).trans hrP
        have hrQ := (fr1 81 (by omega)).trans hrQ
        have hsum := (fr1 91 (by omega)).trans hsum
        have hfil := (fr1 82 (by omega)).trans hfil
        have hbns := (fr1 83 (by omega)).trans hbns
        refine v_if_eqB C d_M_project_29 (fun hz9 => absurd hz9 (by decide)) (fun _ => ?_)
        exact hret _ _ _ _ _ _ (Nat.zero_le _) (Nat.zero_le _) d_M_project_32 (Or.inl ⟨ha.mp ta26, hm, rfl, (fun r1 n0 => (fr1 r1 n0))⟩)
      · -- way 2
        have hpic := (fr1 74 (by omega)).trans hpic
        have htol := (fr1 79 (by omega)).trans htol
        have hrP := (fr1 80 (by omega)).trans hrP
        have hrQ := (fr1 81 (by omega)).trans hrQ
        have hsum := (fr1 91 (by omega)).trans hsum
        have hfil := (fr1 82 (by omega)).trans hfil
        have hbns := (fr1 83 (by omega)).trans hbns
        refine v_if_eqB C d_M_project_29 (fun hz9 => absurd hz9 (by decide)) (fun _ => ?_)
        have haA : (0 ≤ z ∧ z < 8) := Classical.byContradiction (fun q => absurd (ha.mpr q) (by rw [ta26]; decide))
        obtain ⟨s0, hs0⟩ : ∃ s0 : Nat, (s0 : Int) = z := ⟨z.toNat, by omega⟩
        have hs8 : s0 < 8 := by omega
        have hd1 := hb2.mp tb26
        have htd : tol s0 = false := by rw [decide_eq_true (show 0 ≤ z ∧ z < 8 by omega), Bool.true_and, show z.toNat = s0 by omega] at hd1; exact hd1
        exact hret _ _ _ _ _ _ (Nat.zero_le _) (Nat.zero_le _) d_M_project_32 (Or.inr (Or.inl ⟨⟨s0, hs0, hs8, htd⟩, hm, rfl, (fun r1 n0 => (fr1 r1 n0))⟩))
      · -- way 3
        have hpic := (fr1 74 (by omega)).trans hpic
        have htol := (fr1 79 (by omega)).trans htol
        have hrP := (fr1 80 (by omega)).trans hrP
        have hrQ := (fr1 81 (by omega)).trans hrQ
        have hsum := (fr1 91 (by omega)).trans hsum
        have hfil := (fr1 82 (by omega)).trans hfil
        have hbns := (fr1 83 (by omega)).trans hbns
        refine v_if_eqB C d_M_project_29 (fun _ => ?_) (fun hz9 => absurd hz9 (by decide))
        have haA : (0 ≤ z ∧ z < 8) := Classical.byContradiction (fun q => absurd (ha.mpr q) (by rw [ta26]; decide))
        obtain ⟨s0, hs0⟩ : ∃ s0 : Nat, (s0 : Int) = z := ⟨z.toNat, by omega⟩
        have hs8 : s0 < 8 := by omega
        refine v_lvE (lv' := [(0, .ref (ad 73)), (1, .int (iI (s0 : Int)))]) (by rw [hs0]) ?_
        have hd1 : (decide (0 ≤ z ∧ z < 8) && tol z.toNat) = true := by cases q : (decide (0 ≤ z ∧ z < 8) && tol z.toNat); (exact absurd (hb2.mpr q) (by rw [tb26]; decide)); rfl
        have htd : tol s0 = true := by rw [Bool.and_eq_true] at hd1; rw [← show z.toNat = s0 by omega]; exact hd1.2
        refine v_aload_n C d_M_project_33 rfl 0 rfl ?_
        refine v_iload_n C d_M_project_34 rfl 1 rfl ?_
        refine v_aload_n C d_M_project_35 rfl 0 rfl ?_
        refine gf_M_16 C (by omega) hm rfl d_M_project_36 ?_
        refine v_callVV (As := [.int (iI (s0 : Int)), .ref (ad 74)]) (st := []) (by omega) hm rfl rfl C (c_Mfill l 0 w h kp hb tr sq wm s0 74 pic hs8 (by omega) hpic hw hh hm rP hrP rQ hrQ _ hsum fil hfil bns hbns hPQ) (lk_M_128 C.1.2.2.2.2 rfl rfl ⟨Nat.le_of_ble_eq_true rfl, Nat.le_of_ble_eq_true rfl⟩) rfl rfl (Nat.le_of_ble_eq_true rfl) d_M_project_39 ⟨Nat.le_of_ble_eq_true rfl, Nat.le_of_ble_eq_true rfl⟩ (fun ad2 g2 hp2 => ?_)
        obtain ⟨rfl, hbns, hfil, hsum, fr2⟩ := hp2
        have hm := (fr2 73 (by omega) (by omega) (by omega)).trans hm
        have hpic := (fr2 74 (by omega) (by omega) (by omega)).trans hpic
        have htol := (fr2 79 (by omega) (by omega) (by omega)).trans htol
        have hrP := (fr2 80 (by omega) (by omega) (by omega)).trans hrP
        have hrQ := (fr2 81 (by omega) (by omega) (by omega)).trans hrQ
        exact hret _ _ _ _ _ _ (Nat.zero_le _) (Nat.zero_le _) d_M_project_42 (Or.inr (Or.inr ⟨s0, hs0, hs8, htd, hm, rfl, hbns, hfil, hsum, (fun r1 n0 n1 n2 n3 => ((fr2 r1 n1 n2 n3).trans (fr1 r1 n0)))⟩))
    refine v_aload_n C d_M_project_13 rfl 0 rfl ?_
    refine v_iload_n C d_M_project_14 rfl 1 rfl ?_
    refine v_callVI (As := [.int (iI z)]) (st := [.int (bI a), .ref (ad 73)]) (by omega) hm rfl rfl C (c_hasDirection l th w h kp hb tr sq wm z z1 z2 hm tol htol) (lk_M_114 C.1.2.2.2.2 rfl rfl ⟨Nat.le_of_ble_eq_true rfl, Nat.le_of_ble_eq_true rfl⟩) rfl rfl (Nat.le_of_ble_eq_true rfl) d_M_project_15 ⟨Nat.le_of_ble_eq_true rfl, Nat.le_of_ble_eq_true rfl⟩ (fun w3 ad3 g3 hp3 => ?_)
    obtain ⟨_, rfl, rfl, rfl, rfl⟩ := hp3
    refine v_if_neB C d_M_project_18 (fun hb18 => ?_) (fun hb18 => ?_)
    · refine v_iconst C d_M_project_25 ?_
      exact J26 false ⟨fun q => absurd q (by decide), fun q => absurd (hb18.symm.trans q) (by decide)⟩
    · refine v_iconst C d_M_project_21 ?_
      refine v_goto C d_M_project_22 ?_
      exact J26 true ⟨fun _ => hb18, fun _ => rfl⟩
  refine v_iload_n C d_M_project_1 rfl 1 rfl ?_
  refine v_callSI (As := [.int (iI z)]) (st := [.ref (ad 73)]) C (c_isShelf l z z1 z2) (lk_M_84 C.1.2.2.2.2 rfl rfl ⟨Nat.le_of_ble_eq_true rfl, Nat.le_of_ble_eq_true rfl⟩) rfl rfl (Nat.le_of_ble_eq_true rfl) d_M_project_2 ⟨Nat.le_of_ble_eq_true rfl, Nat.le_of_ble_eq_true rfl⟩ (fun w4 ad4 g4 hp4 => ?_)
  obtain ⟨_, rfl, rfl, rfl, rfl⟩ := hp4
  refine v_if_neB C d_M_project_5 (fun hb5 => ?_) (fun hb5 => ?_)
  · have hb5 := of_decide_eq_true hb5
    refine v_iconst C d_M_project_12 ?_
    exact J13 false ⟨fun q => absurd q (by decide), fun q => absurd q (by omega)⟩
  · have hb5 := of_decide_eq_false hb5
    refine v_iconst C d_M_project_8 ?_
    refine v_goto C d_M_project_9 ?_
    exact J13 true ⟨fun _ => by omega, fun _ => rfl⟩
set_option maxHeartbeats 1000000 in
set_option maxRecDepth 100000 in
theorem c_Mdrop (l : Launch) {B : Nat} {D : va_G} {cI cZ cL cS cW : ClassId} {ad : Nat → Nat} {g : Nat → va_E} (th : Int) (w h : Nat) (kp hb : Bool) (tr sq wm : Int) (z : Int) (z1 : -2147483648 ≤ z) (z2 : z < 2147483648) (hm : g 73 = mE ad th w h kp hb tr sq wm) (fil : Nat → Bool) (hfil : g 82 = inA cZ 8 (bA fil)) : Met l y_M_drop (Cond.code y_M_drop b_M_drop 3 (some .boolean) :: wG) (rmF 1 40 0 0) (wPc B D classes (tyL cI cZ cL cS cW) (Zs B) 95 [.ref (ad 73), .int (iI z)] ad g) (QI B D classes 95 (fun v9 ad1 g1 => ∃ v, v9 = bI v ∧ ((¬ (0 ≤ z ∧ z < 8) ∧ g1 73 = mE ad 1 w h kp hb tr sq wm ∧ ad = ad1 ∧ ∀ r1, r1 ≠ 73 → g1 r1 = g r1) ∨ (∃ s0 : Nat, (s0 : Int) = z ∧ s0 < 8 ∧ v = fil s0 ∧ g1 73 = mE ad 0 w h kp hb tr sq wm ∧ ad = ad1 ∧ g1 82 = inA cZ 8 (bA (uP fil s0 false)) ∧ ∀ r1, r1 ≠ 73 → r1 ≠ 82 → g1 r1 = g r1)))) 0 0 (aB B) := by
  refine ofZ (own := R_M) (by decide) rfl (Nat.le_of_ble_eq_true rfl) ?_
  intro p e s m below meth c Q C hnm hret
  change kV _ _ _ _ _ _ _ _ _ _ _ _ _ _ _ _ _ _ _ _ _ [(0, .ref (ad 73)), (1, .int (iI z))] _ _
  refine v_aload_n C d_M_drop_0 rfl 0 rfl ?_
  have J13 : ∀ a : Bool, (a = true ↔ ¬ (0 ≤ z ∧ z < 8)) → kV p l e (rmF 1 40 0 0) s m ([.ref (ad 73), .int (iI z)] : List Value).toArray below meth c Q s.heap B D classes 3 95 0 0 ad g [(0, .ref (ad 73)), (1, .int (iI z))] [.int (bI a), .ref (ad 73)] 13 := by
    intro a ha
    refine v_iconst C d_M_drop_13 ?_
    refine v_callVI (As := [.int (bI a), .int (bI false)]) (st := []) (by omega) hm rfl rfl C (c_throwing l th w h kp hb tr sq wm a false hm) (lk_M_88 C.1.2.2.2.2 rfl rfl ⟨Nat.le_of_ble_eq_true rfl, Nat.le_of_ble_eq_true rfl⟩) rfl rfl (Nat.le_of_ble_eq_true rfl) d_M_drop_14 ⟨Nat.le_of_ble_eq_true rfl, Nat.le_of_ble_eq_true rfl⟩ (fun w1 ad1 g1 hp1 => ?_)
    obtain ⟨vt1, rfl, hc1, rfl, fr1⟩ := hp1
    rcases hc1 with ⟨ta14, rfl, hm⟩ | ⟨ta14, tb14, rfl, hm⟩ | ⟨ta14, tb14, rfl, hm⟩
    · -- way 1
      have hfil := (fr1 82 (by omega)).trans hfil
      refine v_if_eqB C d_M_drop_17 (fun hz9 => absurd hz9 (by decide)) (fun _ => ?_)
      refine v_iconst C d_M_drop_20 ?_
      exact hret _ _ _ _ _ false _ (Nat.zero_le _) (Nat.zero_le _) d_M_drop_21 (Or.inl ⟨ha.mp ta14, hm, rfl, (fun r1 n0 => (fr1 r1 n0))⟩)
    · exact absurd tb14 (by decide)
    · -- way 3
      have hfil := (fr1 82 (by omega)).trans hfil
      refine v_if_eqB C d_M_drop_17 (fun _ => ?_) (fun hz9 => absurd hz9 (by decide))
      have haA : (0 ≤ z ∧ z < 8) := Classical.byContradiction (fun q => absurd (ha.mpr q) (by rw [ta14]; decide))
      obtain ⟨s0, hs0⟩ : ∃ s0 : Nat, (s0 : Int) = z := ⟨z.toNat, by omega⟩
      have hs8 : s0 < 8 := by omega
      refine v_lvE (lv' := [(0, .ref (ad 73)), (1, .int (iI (s0 : Int)))]) (by rw [hs0]) ?_
      refine v_aload_n C d_M_drop_22 rfl 0 rfl ?_
      refine gf_M_42 C (by omega) hm rfl d_M_drop_23 ?_
      refine v_iload_n C d_M_drop_26 rfl 1 rfl ?_
      refine v_zaldB C 1 (by omega) hfil rfl (s0 : Nat) (by omega) (by omega) (by omega) d_M_drop_27 ?_
      refine v_istore_n (lv' := [(2, .int (bI (fil (s0 : Nat)))), (0, .ref (ad 73)), (1, .int (iI (s0 : Int)))]) C d_M_drop_28 rfl (by decide) rfl ?_
      refine v_aload_n C d_M_drop_29 rfl 1 rfl ?_
      refine gf_M_42 C (by omega) hm rfl d_M_drop_30 ?_
      refine v_iload_n C d_M_drop_33 rfl 2 rfl ?_
      refine v_iconst C d_M_drop_34 ?_
      refine v_zastB false C 1 (by omega) hfil rfl (s0 : Nat) (by omega) (by omega) (by omega) d_M_drop_35 (fun g2 hfil fr3 => ?_)
      have hm := (fr3 73 (by omega)).trans hm
      refine v_iload_n C d_M_drop_36 rfl 0 rfl ?_
      exact hret _ _ _ _ _ (fil (s0 : Nat)) _ (Nat.zero_le _) (Nat.zero_le _) d_M_drop_37 (Or.inr ⟨s0, hs0, hs8, rfl, hm, rfl, hfil, (fun r1 n0 n1 => ((fr3 r1 n1).trans (fr1 r1 n0)))⟩)
  refine v_iload_n C d_M_drop_1 rfl 1 rfl ?_
  refine v_callSI (As := [.int (iI z)]) (st := [.ref (ad 73)]) C (c_isShelf l z z1 z2) (lk_M_84 C.1.2.2.2.2 rfl rfl ⟨Nat.le_of_ble_eq_true rfl, Nat.le_of_ble_eq_true rfl⟩) rfl rfl (Nat.le_of_ble_eq_true rfl) d_M_drop_2 ⟨Nat.le_of_ble_eq_true rfl, Nat.le_of_ble_eq_true rfl⟩ (fun w4 ad4 g4 hp4 => ?_)
  obtain ⟨_, rfl, rfl, rfl, rfl⟩ := hp4
  refine v_if_neB C d_M_drop_5 (fun hb5 => ?_) (fun hb5 => ?_)
  · have hb5 := of_decide_eq_true hb5
    refine v_iconst C d_M_drop_12 ?_
    exact J13 false ⟨fun q => absurd q (by decide), fun q => absurd q (by omega)⟩
  · have hb5 := of_decide_eq_false hb5
    refine v_iconst C d_M_drop_8 ?_
    refine v_goto C d_M_drop_9 ?_
    exact J13 true ⟨fun _ => by omega, fun _ => rfl⟩
set_option maxHeartbeats 1000000 in
set_option maxRecDepth 100000 in
theorem c_hasNoBin (l : Launch) {B : Nat} {D : va_G} {cI cZ cL cS cW : ClassId} {ad : Nat → Nat} {g : Nat → va_E} (th : Int) (w h : Nat) (kp hb : Bool) (tr sq wm : Int) (z y : Int) (z1 : -2147483648 ≤ z) (z2 : z < 2147483648) (y1 : -2147483648 ≤ y) (y2 : y < 2147483648) (hw : 1 ≤ w ∧ w ≤ 16) (hh : 1 ≤ h ∧ h ≤ 16) (hm : g 73 = mE ad th w h kp hb tr sq wm) (tol : Nat → Bool) (htol : g 79 = inA cZ 8 (bA tol)) (rP : Nat → Int) (hrP : g 80 = inA cI 8 (jA rP)) (rQ : Nat → Int) (hrQ : g 81 = inA cI 8 (jA rQ)) (fil : Nat → Bool) (hfil : g 82 = inA cZ 8 (bA fil)) (hPQ : ∀ j, j < 8 → okD (rP j) (rQ j)) : Met l y_M_hasNoBin (Cond.code y_M_hasNoBin b_M_hasNoBin 3 (some .boolean) :: wG) (rmF 2 75 0 0) (wPc B D classes (tyL cI cZ cL cS cW) (Zs B) 95 [.ref (ad 73), .int (iI z), .int (iI y)] ad g) (QI B D classes 95 (fun v9 ad1 g1 => ∃ v, v9 = bI v ∧ (((v = true ∧ ¬ (0 ≤ z ∧ z < 8) ∧ g1 73 = mE ad 1 w h kp hb tr sq wm) ∨ (v = true ∧ (∃ s0 : Nat, (s0 : Int) = z ∧ s0 < 8 ∧ (tol s0 = false ∨ fil s0 = false)) ∧ g1 73 = mE ad 2 w h kp hb tr sq wm) ∨ (v = true ∧ (∃ s0 : Nat, (s0 : Int) = z ∧ s0 < 8 ∧ tol s0 = true ∧ fil s0 = true ∧ ¬ (0 ≤ y ∧ y < ctI (rP s0) (rQ s0) w h)) ∧ g1 73 = mE ad 1 w h kp hb tr sq wm) ∨ (v = false ∧ (∃ s0 : Nat, (s0 : Int) = z ∧ s0 < 8 ∧ tol s0 = true ∧ fil s0 = true ∧ 0 ≤ y ∧ y < ctI (rP s0) (rQ s0) w h ∧ ctI (rP s0) (rQ s0) w h ≤ 481) ∧ g1 73 = mE ad 0 w h kp hb tr sq wm)) ∧ ad = ad1 ∧ ∀ r1, r1 ≠ 73 → g1 r1 = g r1))) 0 0 (aB B) := by
  refine ofZ (own := R_M) (by decide) rfl (Nat.le_of_ble_eq_true rfl) ?_
  intro p e s m below meth c Q C hnm hret
  change kV _ _ _ _ _ _ _ _ _ _ _ _ _ _ _ _ _ _ _ _ _ [(0, .ref (ad 73)), (1, .int (iI z)), (2, .int (iI y))] _ _
  refine v_aload_n C d_M_hasNoBin_0 rfl 0 rfl ?_
  have J13 : ∀ a : Bool, (a = true ↔ ¬ (0 ≤ z ∧ z < 8)) → kV p l e (rmF 2 75 0 0) s m ([.ref (ad 73), .int (iI z), .int (iI y)] : List Value).toArray below meth c Q s.heap B D classes 3 95 0 0 ad g [(0, .ref (ad 73)), (1, .int (iI z)), (2, .int (iI y))] [.int (bI a), .ref (ad 73)] 13 := by
    intro a ha
    have J35 : ∀ b2 : Bool, (b2 = true ↔ ((decide (0 ≤ z ∧ z < 8) && tol z.toNat) = false ∨ fil z.toNat = false)) → kV p l e (rmF 2 75 0 0) s m ([.ref (ad 73), .int (iI z), .int (iI y)] : List Value).toArray below meth c Q s.heap B D classes 3 95 0 0 ad g [(0, .ref (ad 73)), (1, .int (iI z)), (2, .int (iI y))] [.int (bI b2), .int (bI a), .ref (ad 73)] 35 := by
      intro b2 hb2
      refine v_callVI (As := [.int (bI a), .int (bI b2)]) (st := []) (by omega) hm rfl rfl C (c_throwing l th w h kp hb tr sq wm a b2 hm) (lk_M_88 C.1.2.2.2.2 rfl rfl ⟨Nat.le_of_ble_eq_true rfl, Nat.le_of_ble_eq_true rfl⟩) rfl rfl (Nat.le_of_ble_eq_true rfl) d_M_hasNoBin_35 ⟨Nat.le_of_ble_eq_true rfl, Nat.le_of_ble_eq_true rfl⟩ (fun w1 ad1 g1 hp1 => ?_)
      obtain ⟨vt1, rfl, hc1, rfl, fr1⟩ := hp1
      rcases hc1 with ⟨ta35, rfl, hm⟩ | ⟨ta35, tb35, rfl, hm⟩ | ⟨ta35, tb35, rfl, hm⟩
      · -- way 1
        have htol := (fr1 79 (by omega)).trans htol
        have hrP := (fr1 80 (by omega)).trans hrP
        have hrQ := (fr1 81 (by omega)).trans hrQ
        have hfil := (fr1 82 (by omega)).trans hfil
        refine v_if_eqB C d_M_hasNoBin_38 (fun hz9 => absurd hz9 (by decide)) (fun _ => ?_)
        refine v_iconst C d_M_hasNoBin_41 ?_
        exact hret _ _ _ _ _ true _ (Nat.zero_le _) (Nat.zero_le _) d_M_hasNoBin_42 ⟨Or.inl ⟨rfl, ha.mp ta35, hm⟩, rfl, (fun r1 n0 => (fr1 r1 n0))⟩
      · -- way 2
        have htol := (fr1 79 (by omega)).trans htol
        have hrP := (fr1 80 (by omega)).trans hrP
        have hrQ := (fr1 81 (by omega)).trans hrQ
        have hfil := (fr1 82 (by omega)).trans hfil
        refine v_if_eqB C d_M_hasNoBin_38 (fun hz9 => absurd hz9 (by decide)) (fun _ => ?_)
        refine v_iconst C d_M_hasNoBin_41 ?_
        have haA : (0 ≤ z ∧ z < 8) := Classical.byContradiction (fun q => absurd (ha.mpr q) (by rw [ta35]; decide))
        obtain ⟨s0, hs0⟩ : ∃ s0 : Nat, (s0 : Int) = z := ⟨z.toNat, by omega⟩
        have hs8 : s0 < 8 := by omega
        have hnn : tol s0 = false ∨ fil s0 = false := by rcases hb2.mp tb35 with q | q; (rw [decide_eq_true (show 0 ≤ z ∧ z < 8 by omega), Bool.true_and, show z.toNat = s0 by omega] at q; exact Or.inl q); rw [show z.toNat = s0 by omega] at q; exact Or.inr q
        exact hret _ _ _ _ _ true _ (Nat.zero_le _) (Nat.zero_le _) d_M_hasNoBin_42 ⟨Or.inr (Or.inl ⟨rfl, ⟨s0, hs0, hs8, hnn⟩, hm⟩), rfl, (fun r1 n0 => (fr1 r1 n0))⟩
      · -- way 3
        have htol := (fr1 79 (by omega)).trans htol
        have hrP := (fr1 80 (by omega)).trans hrP
        have hrQ := (fr1 81 (by omega)).trans hrQ
        have hfil := (fr1 82 (by omega)).trans hfil
        refine v_if_eqB C d_M_hasNoBin_38 (fun _ => ?_) (fun hz9 => absurd hz9 (by decide))
        have haA : (0 ≤ z ∧ z < 8) := Classical.byContradiction (fun q => absurd (ha.mpr q) (by rw [ta35]; decide))
        obtain ⟨s0, hs0⟩ : ∃ s0 : Nat, (s0 : Int) = z := ⟨z.toNat, by omega⟩
        have hs8 : s0 < 8 := by omega
        refine v_lvE (lv' := [(0, .ref (ad 73)), (1, .int (iI (s0 : Int))), (2, .int (iI y))]) (by rw [hs0]) ?_
        have hno : ¬ ((decide (0 ≤ z ∧ z < 8) && tol z.toNat) = false ∨ fil z.toNat = false) := fun q => absurd (hb2.mpr q) (by rw [tb35]; decide)
        have hd1 : (decide (0 ≤ z ∧ z < 8) && tol z.toNat) = true := by cases q : (decide (0 ≤ z ∧ z < 8) && tol z.toNat); (exact absurd (Or.inl q) hno); rfl
        have htd : tol s0 = true := by rw [Bool.and_eq_true] at hd1; rw [← show z.toNat = s0 by omega]; exact hd1.2
        have hfd : fil s0 = true := by rw [← show z.toNat = s0 by omega]; cases q : fil z.toNat; (exact absurd (Or.inr q) hno); rfl
        refine v_aload_n C d_M_hasNoBin_43 rfl 0 rfl ?_
        have J62 : ∀ a2 : Bool, (a2 = true ↔ ¬ (0 ≤ y ∧ y < ctI (rP s0) (rQ s0) w h)) → kV p l e (rmF 2 75 0 0) s m ([.ref (ad 73), .int (iI z), .int (iI y)] : List Value).toArray below meth c Q s.heap B D classes 3 95 0 0 ad g1 [(0, .ref (ad 73)), (1, .int (iI (s0 : Int))), (2, .int (iI y))] [.int (bI a2), .ref (ad 73)] 62 := by
          intro a2 ha2
          refine v_iconst C d_M_hasNoBin_62 ?_
          refine v_callVI (As := [.int (bI a2), .int (bI false)]) (st := []) (by omega) hm rfl rfl C (c_throwing l 0 w h kp hb tr sq wm a2 false hm) (lk_M_88 C.1.2.2.2.2 rfl rfl ⟨Nat.le_of_ble_eq_true rfl, Nat.le_of_ble_eq_true rfl⟩) rfl rfl (Nat.le_of_ble_eq_true rfl) d_M_hasNoBin_63 ⟨Nat.le_of_ble_eq_true rfl, Nat.le_of_ble_eq_true rfl⟩ (fun w2 ad2 g2 hp2 => ?_)
          obtain ⟨vt2, rfl, hc2, rfl, fr2⟩ := hp2
          rcases hc2 with ⟨ta63, rfl, hm⟩ | ⟨ta63, tb63, rfl, hm⟩ | ⟨ta63, tb63, rfl, hm⟩
          · -- way 1
            have htol := (fr2 79 (by omega)).trans htol
            have hrP := (fr2 80 (by omega)).trans hrP
            have hrQ := (fr2 81 (by omega)).trans hrQ
            have hfil := (fr2 82 (by omega)).trans hfil
            exact hret _ _ _ _ _ true _ (Nat.zero_le _) (Nat.zero_le _) d_M_hasNoBin_66 ⟨Or.inr (Or.inr (Or.inl ⟨rfl, ⟨s0, hs0, hs8, htd, hfd, ha2.mp ta63⟩, hm⟩)), rfl, (fun r1 n0 => ((fr2 r1 n0).trans (fr1 r1 n0)))⟩
          · exact absurd tb63 (by decide)
          · -- way 3
            have htol := (fr2 79 (by omega)).trans htol
            have hrP := (fr2 80 (by omega)).trans hrP
            have hrQ := (fr2 81 (by omega)).trans hrQ
            have hfil := (fr2 82 (by omega)).trans hfil
            have hyy : 0 ≤ y ∧ y < ctI (rP s0) (rQ s0) w h := Classical.byContradiction (fun q => absurd (ha2.mpr q) (by rw [ta63]; decide))
            obtain ⟨hct1, hct2, hct3⟩ := ct_nat (hPQ s0 (by omega)) hw.2 hh.2 hw.1 hh.1
            exact hret _ _ _ _ _ false _ (Nat.zero_le _) (Nat.zero_le _) d_M_hasNoBin_66 ⟨Or.inr (Or.inr (Or.inr ⟨rfl, ⟨s0, hs0, hs8, htd, hfd, hyy.1, hyy.2, by omega⟩, hm⟩)), rfl, (fun r1 n0 => ((fr2 r1 n0).trans (fr1 r1 n0)))⟩
        refine v_iload_n C d_M_hasNoBin_44 rfl 2 rfl ?_
        refine v_if_ltI C d_M_hasNoBin_45 (by omega) (by omega) (fun hb45 => ?_) (fun hb45 => ?_)
        · refine v_iconst C d_M_hasNoBin_57 ?_
          refine v_goto C d_M_hasNoBin_58 ?_
          exact J62 true ⟨fun _ => by omega, fun _ => rfl⟩
        · refine v_iload_n C d_M_hasNoBin_48 rfl 2 rfl ?_
          refine v_aload_n C d_M_hasNoBin_49 rfl 0 rfl ?_
          refine v_iload_n C d_M_hasNoBin_50 rfl 1 rfl ?_
          refine v_callVI (As := [.int (iI (s0 : Int))]) (st := [.int (iI y), .ref (ad 73)]) (by omega) hm rfl rfl C (c_binsOf l 0 w h kp hb tr sq wm s0 (by omega) hm rP hrP rQ hrQ hPQ) (lk_M_117 C.1.2.2.2.2 rfl rfl ⟨Nat.le_of_ble_eq_true rfl, Nat.le_of_ble_eq_true rfl⟩) rfl rfl (Nat.le_of_ble_eq_true rfl) d_M_hasNoBin_51 ⟨Nat.le_of_ble_eq_true rfl, Nat.le_of_ble_eq_true rfl⟩ (fun w3 ad3 g3 hp3 => ?_)
          obtain ⟨rfl, rfl, rfl⟩ := hp3
          obtain ⟨hct1, hct2, hct3⟩ := ct_nat (hPQ s0 (by omega)) hw.2 hh.2 hw.1 hh.1
          refine v_icmp_ltI C d_M_hasNoBin_54 (by omega) (by omega) (by omega) (by omega) (fun hb54 => ?_) (fun hb54 => ?_)
          · refine v_iconst C d_M_hasNoBin_61 ?_
            exact J62 false ⟨fun q => absurd q (by decide), fun q => absurd q (by omega)⟩
          · refine v_iconst C d_M_hasNoBin_57 ?_
            refine v_goto C d_M_hasNoBin_58 ?_
            exact J62 true ⟨fun _ => by omega, fun _ => rfl⟩
    refine v_aload_n C d_M_hasNoBin_13 rfl 0 rfl ?_
    refine v_iload_n C d_M_hasNoBin_14 rfl 1 rfl ?_
    refine v_callVI (As := [.int (iI z)]) (st := [.int (bI a), .ref (ad 73)]) (by omega) hm rfl rfl C (c_hasDirection l th w h kp hb tr sq wm z z1 z2 hm tol htol) (lk_M_114 C.1.2.2.2.2 rfl rfl ⟨Nat.le_of_ble_eq_true rfl, Nat.le_of_ble_eq_true rfl⟩) rfl rfl (Nat.le_of_ble_eq_true rfl) d_M_hasNoBin_15 ⟨Nat.le_of_ble_eq_true rfl, Nat.le_of_ble_eq_true rfl⟩ (fun w4 ad4 g4 hp4 => ?_)
    obtain ⟨_, rfl, rfl, rfl, rfl⟩ := hp4
    refine v_if_eqB C d_M_hasNoBin_18 (fun hb18 => ?_) (fun hb18 => ?_)
    · refine v_iconst C d_M_hasNoBin_30 ?_
      refine v_goto C d_M_hasNoBin_31 ?_
      exact J35 true ⟨fun _ => by first | exact Or.inl hb18 | exact Or.inr hb27, fun _ => rfl⟩
    · have hd0 := hb18; rw [Bool.and_eq_true] at hd0; have hd00 := of_decide_eq_true hd0.1
      refine v_aload_n C d_M_hasNoBin_21 rfl 0 rfl ?_
      refine gf_M_42 C (by omega) hm rfl d_M_hasNoBin_22 ?_
      refine v_iload_n C d_M_hasNoBin_25 rfl 1 rfl ?_
      refine v_zaldB C 1 (by omega) hfil rfl z.toNat (by omega) (by omega) (by omega) d_M_hasNoBin_26 ?_
      refine v_if_neB C d_M_hasNoBin_27 (fun hb27 => ?_) (fun hb27 => ?_)
      · refine v_iconst C d_M_hasNoBin_34 ?_
        exact J35 false ⟨fun q => absurd q (by decide), fun q => by rcases q with q | q; (exact absurd (hb18.symm.trans q) (by decide)); exact absurd (hb27.symm.trans q) (by decide)⟩
      · refine v_iconst C d_M_hasNoBin_30 ?_
        refine v_goto C d_M_hasNoBin_31 ?_
        exact J35 true ⟨fun _ => by first | exact Or.inl hb18 | exact Or.inr hb27, fun _ => rfl⟩
  refine v_iload_n C d_M_hasNoBin_1 rfl 1 rfl ?_
  refine v_callSI (As := [.int (iI z)]) (st := [.ref (ad 73)]) C (c_isShelf l z z1 z2) (lk_M_84 C.1.2.2.2.2 rfl rfl ⟨Nat.le_of_ble_eq_true rfl, Nat.le_of_ble_eq_true rfl⟩) rfl rfl (Nat.le_of_ble_eq_true rfl) d_M_hasNoBin_2 ⟨Nat.le_of_ble_eq_true rfl, Nat.le_of_ble_eq_true rfl⟩ (fun w5 ad5 g5 hp5 => ?_)
  obtain ⟨_, rfl, rfl, rfl, rfl⟩ := hp5
  refine v_if_neB C d_M_hasNoBin_5 (fun hb5 => ?_) (fun hb5 => ?_)
  · have hb5 := of_decide_eq_true hb5
    refine v_iconst C d_M_hasNoBin_12 ?_
    exact J13 false ⟨fun q => absurd q (by decide), fun q => absurd q (by omega)⟩
  · have hb5 := of_decide_eq_false hb5
    refine v_iconst C d_M_hasNoBin_8 ?_
    refine v_goto C d_M_hasNoBin_9 ?_
    exact J13 true ⟨fun _ => by omega, fun _ => rfl⟩
set_option maxHeartbeats 1000000 in
set_option maxRecDepth 100000 in
theorem c_Mbin (l : Launch) {B : Nat} {D : va_G} {cI cZ cL cS cW : ClassId} {ad : Nat → Nat} {g : Nat → va_E} (th : Int) (w h : Nat) (kp hb : Bool) (tr sq wm : Int) (z y : Int) (z1 : -2147483648 ≤ z) (z2 : z < 2147483648) (y1 : -2147483648 ≤ y) (y2 : y < 2147483648) (hw : 1 ≤ w ∧ w ≤ 16) (hh : 1 ≤ h ∧ h ≤ 16) (hm : g 73 = mE ad th w h kp hb tr sq wm) (tol : Nat → Bool) (htol : g 79 = inA cZ 8 (bA tol)) (rP : Nat → Int) (hrP : g 80 = inA cI 8 (jA rP)) (rQ : Nat → Int) (hrQ : g 81 = inA cI 8 (jA rQ)) (fil : Nat → Bool) (hfil : g 82 = inA cZ 8 (bA fil)) (bns : Nat → Int32) (hbns : g 83 = inA cI 3848 bns) (hPQ : ∀ j, j < 8 → okD (rP j) (rQ j)) : Met l y_M_bin (Cond.code y_M_bin b_M_bin 3 (some .int) :: wG) (rmF 3 110 0 0) (wPc B D classes (tyL cI cZ cL cS cW) (Zs B) 95 [.ref (ad 73), .int (iI z), .int (iI y)] ad g) (QI B D classes 95 (fun v ad1 g1 => ((¬ (0 ≤ z ∧ z < 8) ∧ g1 73 = mE ad 1 w h kp hb tr sq wm ∧ ad = ad1 ∧ ∀ r1, r1 ≠ 73 → g1 r1 = g r1) ∨ ((∃ s0 : Nat, (s0 : Int) = z ∧ s0 < 8 ∧ (tol s0 = false ∨ fil s0 = false)) ∧ g1 73 = mE ad 2 w h kp hb tr sq wm ∧ ad = ad1 ∧ ∀ r1, r1 ≠ 73 → g1 r1 = g r1) ∨ ((∃ s0 : Nat, (s0 : Int) = z ∧ s0 < 8 ∧ tol s0 = true ∧ fil s0 = true ∧ ¬ (0 ≤ y ∧ y < ctI (rP s0) (rQ s0) w h)) ∧ g1 73 = mE ad 1 w h kp hb tr sq wm ∧ ad = ad1 ∧ ∀ r1, r1 ≠ 73 → g1 r1 = g r1)) ∨ ((∃ s0 : Nat, (s0 : Int) = z ∧ s0 < 8 ∧ tol s0 = true ∧ fil s0 = true ∧ ∃ k0 : Nat, (k0 : Int) = y ∧ y < ctI (rP s0) (rQ s0) w h ∧ v = bns (481 * s0 + k0)) ∧ g1 73 = mE ad 0 w h kp hb tr sq wm ∧ ad = ad1 ∧ ∀ r1, r1 ≠ 73 → g1 r1 = g r1))) 0 0 (aB B) := by
  refine ofI (own := R_M) (by decide) rfl (Nat.le_of_ble_eq_true rfl) ?_
  intro p e s m below meth c Q C hnm hret
  change kV _ _ _ _ _ _ _ _ _ _ _ _ _ _ _ _ _ _ _ _ _ [(0, .ref (ad 73)), (1, .int (iI z)), (2, .int (iI y))] _ _
  refine v_aload_n C d_M_bin_0 rfl 0 rfl ?_
  refine v_iload_n C d_M_bin_1 rfl 1 rfl ?_
  refine v_iload_n C d_M_bin_2 rfl 2 rfl ?_
  refine v_callVI (As := [.int (iI z), .int (iI y)]) (st := []) (by omega) hm rfl rfl C (c_hasNoBin l th w h kp hb tr sq wm z y z1 z2 y1 y2 hw hh hm tol htol rP hrP rQ hrQ fil hfil hPQ) (lk_M_131 C.1.2.2.2.2 rfl rfl ⟨Nat.le_of_ble_eq_true rfl, Nat.le_of_ble_eq_true rfl⟩) rfl rfl (Nat.le_of_ble_eq_true rfl) d_M_bin_3 ⟨Nat.le_of_ble_eq_true rfl, Nat.le_of_ble_eq_true rfl⟩ (fun w1 ad1 g1 hp1 => ?_)
  obtain ⟨_, rfl, hc, rfl, fr1⟩ := hp1
  rcases hc with ⟨rfl, hx, hm⟩ | ⟨rfl, hx, hm⟩ | ⟨rfl, hx, hm⟩ | ⟨rfl, hx, hm⟩
  · -- way 1
    have htol := (fr1 79 (by omega)).trans htol
    have hrP := (fr1 80 (by omega)).trans hrP
    have hrQ := (fr1 81 (by omega)).trans hrQ
    have hfil := (fr1 82 (by omega)).trans hfil
    have hbns := (fr1 83 (by omega)).trans hbns
    refine v_if_eqB C d_M_bin_6 (fun hz9 => absurd hz9 (by decide)) (fun _ => ?_)
    refine v_iconst C d_M_bin_9 ?_
    refine v_goto C d_M_bin_10 ?_
    exact hret _ _ _ _ _ _ _ (Nat.zero_le _) (Nat.zero_le _) d_M_bin_25 (Or.inl (Or.inl ⟨hx, hm, rfl, (fun r1 n0 => (fr1 r1 n0))⟩))
  · -- way 2
    have htol := (fr1 79 (by omega)).trans htol
    have hrP := (fr1 80 (by omega)).trans hrP
    have hrQ := (fr1 81 (by omega)).trans hrQ
    have hfil := (fr1 82 (by omega)).trans hfil
    have hbns := (fr1 83 (by omega)).trans hbns
    refine v_if_eqB C d_M_bin_6 (fun hz9 => absurd hz9 (by decide)) (fun _ => ?_)
    refine v_iconst C d_M_bin_9 ?_
    refine v_goto C d_M_bin_10 ?_
    exact hret _ _ _ _ _ _ _ (Nat.zero_le _) (Nat.zero_le _) d_M_bin_25 (Or.inl (Or.inr (Or.inl ⟨hx, hm, rfl, (fun r1 n0 => (fr1 r1 n0))⟩)))
  · -- way 3
    have htol := (fr1 79 (by omega)).trans htol
    have hrP := (fr1 80 (by omega)).trans hrP
    have hrQ := (fr1 81 (by omega)).trans hrQ
    have hfil := (fr1 82 (by omega)).trans hfil
    have hbns := (fr1 83 (by omega)).trans hbns
    refine v_if_eqB C d_M_bin_6 (fun hz9 => absurd hz9 (by decide)) (fun _ => ?_)
    refine v_iconst C d_M_bin_9 ?_
    refine v_goto C d_M_bin_10 ?_
    exact hret _ _ _ _ _ _ _ (Nat.zero_le _) (Nat.zero_le _) d_M_bin_25 (Or.inl (Or.inr (Or.inr ⟨hx, hm, rfl, (fun r1 n0 => (fr1 r1 n0))⟩)))
  · -- way 4
    have htol := (fr1 79 (by omega)).trans htol
    have hrP := (fr1 80 (by omega)).trans hrP
    have hrQ := (fr1 81 (by omega)).trans hrQ
    have hfil := (fr1 82 (by omega)).trans hfil
    have hbns := (fr1 83 (by omega)).trans hbns
    obtain ⟨s0, hs0, hs8, htd, hfd, hy1, hy2, hc4⟩ := hx
    obtain ⟨k0, hk0⟩ : ∃ k0 : Nat, (k0 : Int) = y := ⟨y.toNat, by omega⟩
    have hz0 : (481 * z + y) = ((481 * s0 + k0 : Nat) : Int) := by omega
    refine v_if_eqB C d_M_bin_6 (fun _ => ?_) (fun hz9 => absurd hz9 (by decide))
    refine v_aload_n C d_M_bin_13 rfl 0 rfl ?_
    refine gf_M_45 C (by omega) hm rfl d_M_bin_14 ?_
    refine v_sipush C d_M_bin_17 (by decide +kernel) ?_
    refine v_iload_n C d_M_bin_20 rfl 1 rfl ?_
    refine v_imulI C d_M_bin_21 ?_
    refine v_iload_n C d_M_bin_22 rfl 2 rfl ?_
    refine v_iaddI C d_M_bin_23 ?_
    refine v_iald C 0 (by omega) hbns rfl (481 * s0 + k0) (hz0) (by omega) (by omega) d_M_bin_24 ?_
    exact hret _ _ _ _ _ _ _ (Nat.zero_le _) (Nat.zero_le _) d_M_bin_25 (Or.inr ⟨⟨s0, hs0, hs8, htd, hfd, k0, hk0, hy2, rfl⟩, hm, rfl, (fun r1 n0 => (fr1 r1 n0))⟩)
set_option maxHeartbeats 1000000 in
set_option maxRecDepth 100000 in
theorem c_Mput (l : Launch) {B : Nat} {D : va_G} {cI cZ cL cS cW : ClassId} {ad : Nat → Nat} {g : Nat → va_E} (th : Int) (w h : Nat) (kp hb : Bool) (tr sq wm : Int) (z y : Int) (pv : Int32) (z1 : -2147483648 ≤ z) (z2 : z < 2147483648) (y1 : -2147483648 ≤ y) (y2 : y < 2147483648) (hw : 1 ≤ w ∧ w ≤ 16) (hh : 1 ≤ h ∧ h ≤ 16) (hm : g 73 = mE ad th w h kp hb tr sq wm) (tol : Nat → Bool) (htol : g 79 = inA cZ 8 (bA tol)) (rP : Nat → Int) (hrP : g 80 = inA cI 8 (jA rP)) (rQ : Nat → Int) (hrQ : g 81 = inA cI 8 (jA rQ)) (fil : Nat → Bool) (hfil : g 82 = inA cZ 8 (bA fil)) (bns : Nat → Int32) (hbns : g 83 = inA cI 3848 bns) (hPQ : ∀ j, j < 8 → okD (rP j) (rQ j)) : Met l y_M_put (Cond.code y_M_put b_M_put 5 (some .int) :: wG) (rmF 3 110 0 0) (wPc B D classes (tyL cI cZ cL cS cW) (Zs B) 95 [.ref (ad 73), .int (iI z), .int (iI y), .int pv] ad g) (QI B D classes 95 (fun v ad1 g1 => ((¬ (0 ≤ z ∧ z < 8) ∧ g1 73 = mE ad 1 w h kp hb tr sq wm ∧ ad = ad1 ∧ ∀ r1, r1 ≠ 73 → g1 r1 = g r1) ∨ ((∃ s0 : Nat, (s0 : Int) = z ∧ s0 < 8 ∧ (tol s0 = false ∨ fil s0 = false)) ∧ g1 73 = mE ad 2 w h kp hb tr sq wm ∧ ad = ad1 ∧ ∀ r1, r1 ≠ 73 → g1 r1 = g r1) ∨ ((∃ s0 : Nat, (s0 : Int) = z ∧ s0 < 8 ∧ tol s0 = true ∧ fil s0 = true ∧ ¬ (0 ≤ y ∧ y < ctI (rP s0) (rQ s0) w h)) ∧ g1 73 = mE ad 1 w h kp hb tr sq wm ∧ ad = ad1 ∧ ∀ r1, r1 ≠ 73 → g1 r1 = g r1)) ∨ (∃ s0 : Nat, (s0 : Int) = z ∧ s0 < 8 ∧ tol s0 = true ∧ fil s0 = true ∧ ∃ k0 : Nat, (k0 : Int) = y ∧ y < ctI (rP s0) (rQ s0) w h ∧ v = bns (481 * s0 + k0) ∧ g1 73 = mE ad 0 w h kp hb tr sq wm ∧ ad = ad1 ∧ g1 83 = inA cI 3848 (upd bns (481 * s0 + k0) pv) ∧ ∀ r1, r1 ≠ 73 → r1 ≠ 83 → g1 r1 = g r1))) 0 0 (aB B) := by
  refine ofI (own := R_M) (by decide) rfl (Nat.le_of_ble_eq_true rfl) ?_
  intro p e s m below meth c Q C hnm hret
  change kV _ _ _ _ _ _ _ _ _ _ _ _ _ _ _ _ _ _ _ _ _ [(0, .ref (ad 73)), (1, .int (iI z)), (2, .int (iI y)), (3, .int pv)] _ _
  refine v_aload_n C d_M_put_0 rfl 0 rfl ?_
  refine v_iload_n C d_M_put_1 rfl 1 rfl ?_
  refine v_iload_n C d_M_put_2 rfl 2 rfl ?_
  refine v_callVI (As := [.int (iI z), .int (iI y)]) (st := []) (by omega) hm rfl rfl C (c_hasNoBin l th w h kp hb tr sq wm z y z1 z2 y1 y2 hw hh hm tol htol rP hrP rQ hrQ fil hfil hPQ) (lk_M_131 C.1.2.2.2.2 rfl rfl ⟨Nat.le_of_ble_eq_true rfl, Nat.le_of_ble_eq_true rfl⟩) rfl rfl (Nat.le_of_ble_eq_true rfl) d_M_put_3 ⟨Nat.le_of_ble_eq_true rfl, Nat.le_of_ble_eq_true rfl⟩ (fun w1 ad1 g1 hp1 => ?_)
  obtain ⟨_, rfl, hc, rfl, fr1⟩ := hp1
  rcases hc with ⟨rfl, hx, hm⟩ | ⟨rfl, hx, hm⟩ | ⟨rfl, hx, hm⟩ | ⟨rfl, hx, hm⟩
  · -- way 1
    have htol := (fr1 79 (by omega)).trans htol
    have hrP := (fr1 80 (by omega)).trans hrP
    have hrQ := (fr1 81 (by omega)).trans hrQ
    have hfil := (fr1 82 (by omega)).trans hfil
    have hbns := (fr1 83 (by omega)).trans hbns
    refine v_if_eqB C d_M_put_6 (fun hz9 => absurd hz9 (by decide)) (fun _ => ?_)
    refine v_iconst C d_M_put_9 ?_
    exact hret _ _ _ _ _ _ _ (Nat.zero_le _) (Nat.zero_le _) d_M_put_10 (Or.inl (Or.inl ⟨hx, hm, rfl, (fun r1 n0 => (fr1 r1 n0))⟩))
  · -- way 2
    have htol := (fr1 79 (by omega)).trans htol
    have hrP := (fr1 80 (by omega)).trans hrP
    have hrQ := (fr1 81 (by omega)).trans hrQ
    have hfil := (fr1 82 (by omega)).trans hfil
    have hbns := (fr1 83 (by omega)).trans hbns
    refine v_if_eqB C d_M_put_6 (fun hz9 => absurd hz9 (by decide)) (fun _ => ?_)
    refine v_iconst C d_M_put_9 ?_
    exact hret _ _ _ _ _ _ _ (Nat.zero_le _) (Nat.zero_le _) d_M_put_10 (Or.inl (Or.inr (Or.inl ⟨hx, hm, rfl, (fun r1 n0 => (fr1 r1 n0))⟩)))
  · -- way 3
    have htol := (fr1 79 (by omega)).trans htol
    have hrP := (fr1 80 (by omega)).trans hrP
    have hrQ := (fr1 81 (by omega)).trans hrQ
    have hfil := (fr1 82 (by omega)).trans hfil
    have hbns := (fr1 83 (by omega)).trans hbns
    refine v_if_eqB C d_M_put_6 (fun hz9 => absurd hz9 (by decide)) (fun _ => ?_)
    refine v_iconst C d_M_put_9 ?_
    exact hret _ _ _ _ _ _ _ (Nat.zero_le _) (Nat.zero_le _) d_M_put_10 (Or.inl (Or.inr (Or.inr ⟨hx, hm, rfl, (fun r1 n0 => (fr1 r1 n0))⟩)))
  · -- way 4
    have htol := (fr1 79 (by omega)).trans htol
    have hrP := (fr1 80 (by omega)).trans hrP
    have hrQ := (fr1 81 (by omega)).trans hrQ
    have hfil := (fr1 82 (by omega)).trans hfil
    have hbns := (fr1 83 (by omega)).trans hbns
    obtain ⟨s0, hs0, hs8, htd, hfd, hy1, hy2, hc4⟩ := hx
    obtain ⟨k0, hk0⟩ : ∃ k0 : Nat, (k0 : Int) = y := ⟨y.toNat, by omega⟩
    have hz0 : (481 * z + y) = ((481 * s0 + k0 : Nat) : Int) := by omega
    refine v_if_eqB C d_M_put_6 (fun _ => ?_) (fun hz9 => absurd hz9 (by decide))
    refine v_aload_n C d_M_put_11 rfl 0 rfl ?_
    refine gf_M_45 C (by omega) hm rfl d_M_put_12 ?_
    refine v_sipush C d_M_put_15 (by decide +kernel) ?_
    refine v_iload_n C d_M_put_18 rfl 1 rfl ?_
    refine v_imulI C d_M_put_19 ?_
    refine v_iload_n C d_M_put_20 rfl 2 rfl ?_
    refine v_iaddI C d_M_put_21 ?_
    refine v_iald C 0 (by omega) hbns rfl (481 * s0 + k0) (hz0) (by omega) (by omega) d_M_put_22 ?_
    refine v_istore (lv' := [(4, .int (bns (481 * s0 + k0))), (0, .ref (ad 73)), (1, .int (iI z)), (2, .int (iI y)), (3, .int pv)]) C d_M_put_23 (by decide) rfl ?_
    refine v_aload_n C d_M_put_25 rfl 1 rfl ?_
    refine gf_M_45 C (by omega) hm rfl d_M_put_26 ?_
    refine v_sipush C d_M_put_29 (by decide +kernel) ?_
    refine v_iload_n C d_M_put_32 rfl 2 rfl ?_
    refine v_imulI C d_M_put_33 ?_
    refine v_iload_n C d_M_put_34 rfl 3 rfl ?_
    refine v_iaddI C d_M_put_35 ?_
    refine v_iload_n C d_M_put_36 rfl 4 rfl ?_
    refine v_iast C 0 (by omega) hbns rfl (481 * s0 + k0) (hz0) (by omega) (by omega) d_M_put_37 (fun g2 hbns fr3 => ?_)
    have hm := (fr3 73 (by omega)).trans hm
    have htol := (fr3 79 (by omega)).trans htol
    have hrP := (fr3 80 (by omega)).trans hrP
    have hrQ := (fr3 81 (by omega)).trans hrQ
    have hfil := (fr3 82 (by omega)).trans hfil
    refine v_iload C d_M_put_38 0 rfl ?_
    exact hret _ _ _ _ _ _ _ (Nat.zero_le _) (Nat.zero_le _) d_M_put_40 (Or.inr ⟨s0, hs0, hs8, htd, hfd, k0, hk0, hy2, rfl, hm, rfl, hbns, (fun r1 n0 n1 => ((fr3 r1 n1).trans (fr1 r1 n0)))⟩)
