set_option maxHeartbeats 1000000 in
set_option maxRecDepth 100000 in
theorem c_Minit (l : Launch) {B : Nat} {D : va_G} {cI cZ cL cS cW : ClassId} {ad : Nat → Nat} {g : Nat → va_E} (hm : g 73 = .inr (3, [.int 0, .int 0, .int 0, .null, .null, .null, .null, .null, .int 0, .int 0, .null, .null, .null, .null, .null, .null, .null, .null, .null, .null, .null, .null, .int 0, .null, .int 0, .int 0, .null, .null])) : Met l y_M_init (Cond.code y_M_init b_M_init 1 none :: wG) (rmF 1 12 20 18241) (wPc B D classes (tyL cI cZ cL cS cW) (Zs B) 74 [.ref (ad 73)] ad g) (QV B D classes 94 (fun ad1 g1 => g1 73 = mE ad1 0 1 1 false false 0 0 (-1) ∧ (g1 74 = inA cI 256 (fun _ => 0) ∧ g1 75 = inA cI 256 (fun _ => 0) ∧ g1 76 = inA cI 256 (fun _ => 0) ∧ g1 77 = inA cI 256 (fun _ => 0) ∧ g1 78 = inA cZ 256 (bA (fun _ => false)) ∧ g1 79 = inA cZ 8 (bA (fun _ => false)) ∧ g1 80 = inA cI 8 (jA (fun _ => 0)) ∧ g1 81 = inA cI 8 (jA (fun _ => 0)) ∧ g1 82 = inA cZ 8 (bA (fun _ => false)) ∧ g1 83 = inA cI 3848 (fun _ => 0) ∧ g1 84 = inA cZ 8 (bA (fun _ => false)) ∧ g1 85 = inA cI 8 (jA (fun _ => 0)) ∧ g1 86 = inA cI 8 (jA (fun _ => 0)) ∧ g1 87 = inA cZ 8 (bA (fun _ => false)) ∧ g1 88 = inA cI 3848 (fun _ => 0) ∧ g1 89 = inA cI 3848 (fun _ => 0) ∧ g1 90 = inA cI 3848 (fun _ => 0) ∧ g1 91 = inA cI 481 (fun _ => 0) ∧ g1 92 = inA cI 512 (fun _ => 0) ∧ g1 93 = inA cI 512 (fun _ => 0)) ∧ (∀ r1, r1 < 73 → g1 r1 = g r1) ∧ ∀ r1, r1 < 74 → ad1 r1 = ad r1)) 20 18241 (aB B) := by
  refine ofV (own := R_M) (by decide) rfl (Nat.le_of_ble_eq_true rfl) ?_
  intro p e s m below meth c Q C hnm hret
  change kV _ _ _ _ _ _ _ _ _ _ _ _ _ _ _ _ _ _ _ _ _ [(0, .ref (ad 73))] _ _
  refine v_aload_n C d_M_init_0 rfl 0 rfl ?_
  refine v_oi C ml_M_1 d_M_init_1 (Nat.le_of_ble_eq_true rfl) (Nat.le_of_ble_eq_true rfl) ?_
  refine v_aload_n C d_M_init_4 rfl 0 rfl ?_
  refine v_iconst C d_M_init_5 ?_
  refine pf_M_7 (fs' := [.int 0, .int (iI 1), .int 0, .null, .null, .null, .null, .null, .int 0, .int 0, .null, .null, .null, .null, .null, .null, .null, .null, .null, .null, .null, .null, .int 0, .null, .int 0, .int 0, .null, .null]) C (by omega) hm rfl rfl (Nat.le_of_ble_eq_true rfl) rfl d_M_init_6 (fun g1 hm fr2 => ?_)
  refine v_aload_n C d_M_init_9 rfl 0 rfl ?_
  refine v_iconst C d_M_init_10 ?_
  refine pf_M_13 (fs' := [.int 0, .int (iI 1), .int (iI 1), .null, .null, .null, .null, .null, .int 0, .int 0, .null, .null, .null, .null, .null, .null, .null, .null, .null, .null, .null, .null, .int 0, .null, .int 0, .int 0, .null, .null]) C (by omega) hm rfl rfl (Nat.le_of_ble_eq_true rfl) rfl d_M_init_11 (fun g3 hm fr4 => ?_)
  refine v_aload_n C d_M_init_14 rfl 0 rfl ?_
  refine v_sipush C d_M_init_15 (by decide +kernel) ?_
  refine v_newiP C 256 rfl (by decide) (Nat.le_of_ble_eq_true rfl) (Nat.le_of_ble_eq_true rfl) d_M_init_18 (fun ad5 g5 hA5 hpic fr5 => ?_)
  have hm := (fr5 73 (by omega)).trans hm
  refine v_lvE (lv' := [(0, .ref (ad5 73))]) (by rw [hA5 73 (by omega)]) ?_
  refine v_stE (st' := [.ref (ad5 74), .ref (ad5 73)]) (by rw [hA5 73 (by omega)]) ?_
  refine pf_M_16 (fs' := [.int 0, .int (iI 1), .int (iI 1), .ref (ad5 74), .null, .null, .null, .null, .int 0, .int 0, .null, .null, .null, .null, .null, .null, .null, .null, .null, .null, .null, .null, .int 0, .null, .int 0, .int 0, .null, .null]) C hnm (by omega) hm rfl rfl (Nat.le_of_ble_eq_true rfl) rfl d_M_init_20 (fun g6 hm fr7 => ?_)
  have hpic := (fr7 74 (by omega)).trans hpic
  refine v_aload_n C d_M_init_23 rfl 0 rfl ?_
  refine v_sipush C d_M_init_24 (by decide +kernel) ?_
  refine v_newiP C 256 rfl (by decide) (Nat.le_of_ble_eq_true rfl) (Nat.le_of_ble_eq_true rfl) d_M_init_27 (fun ad8 g8 hA8 hkep fr8 => ?_)
  have hm := (fr8 73 (by omega)).trans hm
  have hpic := (fr8 74 (by omega)).trans hpic
  refine v_lvE (lv' := [(0, .ref (ad8 73))]) (by rw [hA8 73 (by omega)]) ?_
  refine v_stE (st' := [.ref (ad8 75), .ref (ad8 73)]) (by rw [hA8 73 (by omega)]) ?_
  have hm : g8 73 = .inr (3, [.int 0, .int (iI 1), .int (iI 1), .ref (ad8 74), .null, .null, .null, .null, .int 0, .int 0, .null, .null, .null, .null, .null, .null, .null, .null, .null, .null, .null, .null, .int 0, .null, .int 0, .int 0, .null, .null]) := by rw [hA8 74 (by omega)]; exact hm
  refine pf_M_20 (fs' := [.int 0, .int (iI 1), .int (iI 1), .ref (ad8 74), .ref (ad8 75), .null, .null, .null, .int 0, .int 0, .null, .null, .null, .null, .null, .null, .null, .null, .null, .null, .null, .null, .int 0, .null, .int 0, .int 0, .null, .null]) C hnm (by omega) hm rfl rfl (Nat.le_of_ble_eq_true rfl) rfl d_M_init_29 (fun g9 hm fr10 => ?_)
  have hpic := (fr10 74 (by omega)).trans hpic
  have hkep := (fr10 75 (by omega)).trans hkep
  refine v_aload_n C d_M_init_32 rfl 0 rfl ?_
  refine v_sipush C d_M_init_33 (by decide +kernel) ?_
  refine v_newiP C 256 rfl (by decide) (Nat.le_of_ble_eq_true rfl) (Nat.le_of_ble_eq_true rfl) d_M_init_36 (fun ad11 g11 hA11 hreb fr11 => ?_)
  have hm := (fr11 73 (by omega)).trans hm
  have hpic := (fr11 74 (by omega)).trans hpic
  have hkep := (fr11 75 (by omega)).trans hkep
  refine v_lvE (lv' := [(0, .ref (ad11 73))]) (by rw [hA11 73 (by omega)]) ?_
  refine v_stE (st' := [.ref (ad11 76), .ref (ad11 73)]) (by rw [hA11 73 (by omega)]) ?_
  have hm : g11 73 = .inr (3, [.int 0, .int (iI 1), .int (iI 1), .ref (ad11 74), .ref (ad11 75), .null, .null, .null, .int 0, .int 0, .null, .null, .null, .null, .null, .null, .null, .null, .null, .null, .null, .null, .int 0, .null, .int 0, .int 0, .null, .null]) := by rw [hA11 74 (by omega), hA11 75 (by omega)]; exact hm
  refine pf_M_23 (fs' := [.int 0, .int (iI 1), .int (iI 1), .ref (ad11 74), .ref (ad11 75), .ref (ad11 76), .null, .null, .int 0, .int 0, .null, .null, .null, .null, .null, .null, .null, .null, .null, .null, .null, .null, .int 0, .null, .int 0, .int 0, .null, .null]) C hnm (by omega) hm rfl rfl (Nat.le_of_ble_eq_true rfl) rfl d_M_init_38 (fun g12 hm fr13 => ?_)
  have hpic := (fr13 74 (by omega)).trans hpic
  have hkep := (fr13 75 (by omega)).trans hkep
  have hreb := (fr13 76 (by omega)).trans hreb
  refine v_aload_n C d_M_init_41 rfl 0 rfl ?_
  refine v_sipush C d_M_init_42 (by decide +kernel) ?_
  refine v_newiP C 256 rfl (by decide) (Nat.le_of_ble_eq_true rfl) (Nat.le_of_ble_eq_true rfl) d_M_init_45 (fun ad14 g14 hA14 htri fr14 => ?_)
  have hm := (fr14 73 (by omega)).trans hm
  have hpic := (fr14 74 (by omega)).trans hpic
  have hkep := (fr14 75 (by omega)).trans hkep
  have hreb := (fr14 76 (by omega)).trans hreb
  refine v_lvE (lv' := [(0, .ref (ad14 73))]) (by rw [hA14 73 (by omega)]) ?_
  refine v_stE (st' := [.ref (ad14 77), .ref (ad14 73)]) (by rw [hA14 73 (by omega)]) ?_
  have hm : g14 73 = .inr (3, [.int 0, .int (iI 1), .int (iI 1), .ref (ad14 74), .ref (ad14 75), .ref (ad14 76), .null, .null, .int 0, .int 0, .null, .null, .null, .null, .null, .null, .null, .null, .null, .null, .null, .null, .int 0, .null, .int 0, .int 0, .null, .null]) := by rw [hA14 74 (by omega), hA14 75 (by omega), hA14 76 (by omega)]; exact hm
  refine pf_M_26 (fs' := [.int 0, .int (iI 1), .int (iI 1), .ref (ad14 74), .ref (ad14 75), .ref (ad14 76), .ref (ad14 77), .null, .int 0, .int 0, .null, .null, .null, .null, .null, .null, .null, .null, .null, .null, .null, .null, .int 0, .null, .int 0, .int 0, .null, .null]) C hnm (by omega) hm rfl rfl (Nat.le_of_ble_eq_true rfl) rfl d_M_init_47 (fun g15 hm fr16 => ?_)
  have hpic := (fr16 74 (by omega)).trans hpic
  have hkep := (fr16 75 (by omega)).trans hkep
  have hreb := (fr16 76 (by omega)).trans hreb
  have htri := (fr16 77 (by omega)).trans htri
  refine v_aload_n C d_M_init_50 rfl 0 rfl ?_
  refine v_sipush C d_M_init_51 (by decide +kernel) ?_
  refine v_newzP C 256 rfl (by decide) (Nat.le_of_ble_eq_true rfl) (Nat.le_of_ble_eq_true rfl) d_M_init_54 (fun ad17 g17 hA17 hkno fr17 => ?_)
  have hm := (fr17 73 (by omega)).trans hm
  have hpic := (fr17 74 (by omega)).trans hpic
  have hkep := (fr17 75 (by omega)).trans hkep
  have hreb := (fr17 76 (by omega)).trans hreb
  have htri := (fr17 77 (by omega)).trans htri
  refine v_lvE (lv' := [(0, .ref (ad17 73))]) (by rw [hA17 73 (by omega)]) ?_
  refine v_stE (st' := [.ref (ad17 78), .ref (ad17 73)]) (by rw [hA17 73 (by omega)]) ?_
  have hm : g17 73 = .inr (3, [.int 0, .int (iI 1), .int (iI 1), .ref (ad17 74), .ref (ad17 75), .ref (ad17 76), .ref (ad17 77), .null, .int 0, .int 0, .null, .null, .null, .null, .null, .null, .null, .null, .null, .null, .null, .null, .int 0, .null, .int 0, .int 0, .null, .null]) := by rw [hA17 74 (by omega), hA17 75 (by omega), hA17 76 (by omega), hA17 77 (by omega)]; exact hm
  refine pf_M_29 (fs' := [.int 0, .int (iI 1), .int (iI 1), .ref (ad17 74), .ref (ad17 75), .ref (ad17 76), .ref (ad17 77), .ref (ad17 78), .int 0, .int 0, .null, .null, .null, .null, .null, .null, .null, .null, .null, .null, .null, .null, .int 0, .null, .int 0, .int 0, .null, .null]) C hnm (by omega) hm rfl rfl (Nat.le_of_ble_eq_true rfl) rfl d_M_init_56 (fun g18 hm fr19 => ?_)
  have hpic := (fr19 74 (by omega)).trans hpic
  have hkep := (fr19 75 (by omega)).trans hkep
  have hreb := (fr19 76 (by omega)).trans hreb
  have htri := (fr19 77 (by omega)).trans htri
  have hkno := (fr19 78 (by omega)).trans hkno
  refine v_aload_n C d_M_init_59 rfl 0 rfl ?_
  refine v_bipush C d_M_init_60 (by decide +kernel) ?_
  refine v_newzP C 8 rfl (by decide) (Nat.le_of_ble_eq_true rfl) (Nat.le_of_ble_eq_true rfl) d_M_init_62 (fun ad20 g20 hA20 htol fr20 => ?_)
  have hm := (fr20 73 (by omega)).trans hm
  have hpic := (fr20 74 (by omega)).trans hpic
  have hkep := (fr20 75 (by omega)).trans hkep
  have hreb := (fr20 76 (by omega)).trans hreb
  have htri := (fr20 77 (by omega)).trans htri
  have hkno := (fr20 78 (by omega)).trans hkno
  refine v_lvE (lv' := [(0, .ref (ad20 73))]) (by rw [hA20 73 (by omega)]) ?_
  refine v_stE (st' := [.ref (ad20 79), .ref (ad20 73)]) (by rw [hA20 73 (by omega)]) ?_
  have hm : g20 73 = .inr (3, [.int 0, .int (iI 1), .int (iI 1), .ref (ad20 74), .ref (ad20 75), .ref (ad20 76), .ref (ad20 77), .ref (ad20 78), .int 0, .int 0, .null, .null, .null, .null, .null, .null, .null, .null, .null, .null, .null, .null, .int 0, .null, .int 0, .int 0, .null, .null]) := by rw [hA20 74 (by omega), hA20 75 (by omega), hA20 76 (by omega), hA20 77 (by omega), hA20 78 (by omega)]; exact hm
  refine pf_M_33 (fs' := [.int 0, .int (iI 1), .int (iI 1), .ref (ad20 74), .ref (ad20 75), .ref (ad20 76), .ref (ad20 77), .ref (ad20 78), .int 0, .int 0, .ref (ad20 79), .null, .null, .null, .null, .null, .null, .null, .null, .null, .null, .null, .int 0, .null, .int 0, .int 0, .null, .null]) C hnm (by omega) hm rfl rfl (Nat.le_of_ble_eq_true rfl) rfl d_M_init_64 (fun g21 hm fr22 => ?_)
  have hpic := (fr22 74 (by omega)).trans hpic
  have hkep := (fr22 75 (by omega)).trans hkep
  have hreb := (fr22 76 (by omega)).trans hreb
  have htri := (fr22 77 (by omega)).trans htri
  have hkno := (fr22 78 (by omega)).trans hkno
  have htol := (fr22 79 (by omega)).trans htol
  refine v_aload_n C d_M_init_67 rfl 0 rfl ?_
  refine v_bipush C d_M_init_68 (by decide +kernel) ?_
  refine v_newiP C 8 rfl (by decide) (Nat.le_of_ble_eq_true rfl) (Nat.le_of_ble_eq_true rfl) d_M_init_70 (fun ad23 g23 hA23 hrP fr23 => ?_)
  have hm := (fr23 73 (by omega)).trans hm
  have hpic := (fr23 74 (by omega)).trans hpic
  have hkep := (fr23 75 (by omega)).trans hkep
  have hreb := (fr23 76 (by omega)).trans hreb
  have htri := (fr23 77 (by omega)).trans htri
  have hkno := (fr23 78 (by omega)).trans hkno
  have htol := (fr23 79 (by omega)).trans htol
  refine v_lvE (lv' := [(0, .ref (ad23 73))]) (by rw [hA23 73 (by omega)]) ?_
  refine v_stE (st' := [.ref (ad23 80), .ref (ad23 73)]) (by rw [hA23 73 (by omega)]) ?_
  have hm : g23 73 = .inr (3, [.int 0, .int (iI 1), .int (iI 1), .ref (ad23 74), .ref (ad23 75), .ref (ad23 76), .ref (ad23 77), .ref (ad23 78), .int 0, .int 0, .ref (ad23 79), .null, .null, .null, .null, .null, .null, .null, .null, .null, .null, .null, .int 0, .null, .int 0, .int 0, .null, .null]) := by rw [hA23 74 (by omega), hA23 75 (by omega), hA23 76 (by omega), hA23 77 (by omega), hA23 78 (by omega), hA23 79 (by omega)]; exact hm
  refine pf_M_36 (fs' := [.int 0, .int (iI 1), .int (iI 1), .ref (ad23 74), .ref (ad23 75), .ref (ad23 76), .ref (ad23 77), .ref (ad23 78), .int 0, .int 0, .ref (ad23 79), .ref (ad23 80), .null, .null, .null, .null, .null, .null, .null, .null, .null, .null, .int 0, .null, .int 0, .int 0, .null, .null]) C hnm (by omega) hm rfl rfl (Nat.le_of_ble_eq_true rfl) rfl d_M_init_72 (fun g24 hm fr25 => ?_)
  have hpic := (fr25 74 (by omega)).trans hpic
  have hkep := (fr25 75 (by omega)).trans hkep
  have hreb := (fr25 76 (by omega)).trans hreb
  have htri := (fr25 77 (by omega)).trans htri
  have hkno := (fr25 78 (by omega)).trans hkno
  have htol := (fr25 79 (by omega)).trans htol
  have hrP := (fr25 80 (by omega)).trans hrP
  refine v_aload_n C d_M_init_75 rfl 0 rfl ?_
  refine v_bipush C d_M_init_76 (by decide +kernel) ?_
  refine v_newiP C 8 rfl (by decide) (Nat.le_of_ble_eq_true rfl) (Nat.le_of_ble_eq_true rfl) d_M_init_78 (fun ad26 g26 hA26 hrQ fr26 => ?_)
  have hm := (fr26 73 (by omega)).trans hm
  have hpic := (fr26 74 (by omega)).trans hpic
  have hkep := (fr26 75 (by omega)).trans hkep
  have hreb := (fr26 76 (by omega)).trans hreb
  have htri := (fr26 77 (by omega)).trans htri
  have hkno := (fr26 78 (by omega)).trans hkno
  have htol := (fr26 79 (by omega)).trans htol
  have hrP := (fr26 80 (by omega)).trans hrP
  refine v_lvE (lv' := [(0, .ref (ad26 73))]) (by rw [hA26 73 (by omega)]) ?_
  refine v_stE (st' := [.ref (ad26 81), .ref (ad26 73)]) (by rw [hA26 73 (by omega)]) ?_
  have hm : g26 73 = .inr (3, [.int 0, .int (iI 1), .int (iI 1), .ref (ad26 74), .ref (ad26 75), .ref (ad26 76), .ref (ad26 77), .ref (ad26 78), .int 0, .int 0, .ref (ad26 79), .ref (ad26 80), .null, .null, .null, .null, .null, .null, .null, .null, .null, .null, .int 0, .null, .int 0, .int 0, .null, .null]) := by rw [hA26 74 (by omega), hA26 75 (by omega), hA26 76 (by omega), hA26 77 (by omega), hA26 78 (by omega), hA26 79 (by omega), hA26 80 (by omega)]; exact hm
  refine pf_M_39 (fs' := [.int 0, .int (iI 1), .int (iI 1), .ref (ad26 74), .ref (ad26 75), .ref (ad26 76), .ref (ad26 77), .ref (ad26 78), .int 0, .int 0, .ref (ad26 79), .ref (ad26 80), .ref (ad26 81), .null, .null, .null, .null, .null, .null, .null, .null, .null, .int 0, .null, .int 0, .int 0, .null, .null]) C hnm (by omega) hm rfl rfl (Nat.le_of_ble_eq_true rfl) rfl d_M_init_80 (fun g27 hm fr28 => ?_)
  have hpic := (fr28 74 (by omega)).trans hpic
  have hkep := (fr28 75 (by omega)).trans hkep
  have hreb := (fr28 76 (by omega)).trans hreb
  have htri := (fr28 77 (by omega)).trans htri
  have hkno := (fr28 78 (by omega)).trans hkno
  have htol := (fr28 79 (by omega)).trans htol
  have hrP := (fr28 80 (by omega)).trans hrP
  have hrQ := (fr28 81 (by omega)).trans hrQ
  refine v_aload_n C d_M_init_83 rfl 0 rfl ?_
  refine v_bipush C d_M_init_84 (by decide +kernel) ?_
  refine v_newzP C 8 rfl (by decide) (Nat.le_of_ble_eq_true rfl) (Nat.le_of_ble_eq_true rfl) d_M_init_86 (fun ad29 g29 hA29 hfil fr29 => ?_)
  have hm := (fr29 73 (by omega)).trans hm
  have hpic := (fr29 74 (by omega)).trans hpic
  have hkep := (fr29 75 (by omega)).trans hkep
  have hreb := (fr29 76 (by omega)).trans hreb
  have htri := (fr29 77 (by omega)).trans htri
  have hkno := (fr29 78 (by omega)).trans hkno
  have htol := (fr29 79 (by omega)).trans htol
  have hrP := (fr29 80 (by omega)).trans hrP
  have hrQ := (fr29 81 (by omega)).trans hrQ
  refine v_lvE (lv' := [(0, .ref (ad29 73))]) (by rw [hA29 73 (by omega)]) ?_
  refine v_stE (st' := [.ref (ad29 82), .ref (ad29 73)]) (by rw [hA29 73 (by omega)]) ?_
  have hm : g29 73 = .inr (3, [.int 0, .int (iI 1), .int (iI 1), .ref (ad29 74), .ref (ad29 75), .ref (ad29 76), .ref (ad29 77), .ref (ad29 78), .int 0, .int 0, .ref (ad29 79), .ref (ad29 80), .ref (ad29 81), .null, .null, .null, .null, .null, .null, .null, .null, .null, .int 0, .null, .int 0, .int 0, .null, .null]) := by rw [hA29 74 (by omega), hA29 75 (by omega), hA29 76 (by omega), hA29 77 (by omega), hA29 78 (by omega), hA29 79 (by omega), hA29 80 (by omega), hA29 81 (by omega)]; exact hm
  refine pf_M_42 (fs' := [.int 0, .int (iI 1), .int (iI 1), .ref (ad29 74), .ref (ad29 75), .ref (ad29 76), .ref (ad29 77), .ref (ad29 78), .int 0, .int 0, .ref (ad29 79), .ref (ad29 80), .ref (ad29 81), .ref (ad29 82), .null, .null, .null, .null, .null, .null, .null, .null, .int 0, .null, .int 0, .int 0, .null, .null]) C hnm (by omega) hm rfl rfl (Nat.le_of_ble_eq_true rfl) rfl d_M_init_88 (fun g30 hm fr31 => ?_)
  have hpic := (fr31 74 (by omega)).trans hpic
  have hkep := (fr31 75 (by omega)).trans hkep
  have hreb := (fr31 76 (by omega)).trans hreb
  have htri := (fr31 77 (by omega)).trans htri
  have hkno := (fr31 78 (by omega)).trans hkno
  have htol := (fr31 79 (by omega)).trans htol
  have hrP := (fr31 80 (by omega)).trans hrP
  have hrQ := (fr31 81 (by omega)).trans hrQ
  have hfil := (fr31 82 (by omega)).trans hfil
  refine v_aload_n C d_M_init_91 rfl 0 rfl ?_
  refine v_sipush C d_M_init_92 (by decide +kernel) ?_
  refine v_newiP C 3848 rfl (by decide) (Nat.le_of_ble_eq_true rfl) (Nat.le_of_ble_eq_true rfl) d_M_init_95 (fun ad32 g32 hA32 hbns fr32 => ?_)
  have hm := (fr32 73 (by omega)).trans hm
  have hpic := (fr32 74 (by omega)).trans hpic
  have hkep := (fr32 75 (by omega)).trans hkep
  have hreb := (fr32 76 (by omega)).trans hreb
  have htri := (fr32 77 (by omega)).trans htri
  have hkno := (fr32 78 (by omega)).trans hkno
  have htol := (fr32 79 (by omega)).trans htol
  have hrP := (fr32 80 (by omega)).trans hrP
  have hrQ := (fr32 81 (by omega)).trans hrQ
  have hfil := (fr32 82 (by omega)).trans hfil
  refine v_lvE (lv' := [(0, .ref (ad32 73))]) (by rw [hA32 73 (by omega)]) ?_
  refine v_stE (st' := [.ref (ad32 83), .ref (ad32 73)]) (by rw [hA32 73 (by omega)]) ?_
  have hm : g32 73 = .inr (3, [.int 0, .int (iI 1), .int (iI 1), .ref (ad32 74), .ref (ad32 75), .ref (ad32 76), .ref (ad32 77), .ref (ad32 78), .int 0, .int 0, .ref (ad32 79), .ref (ad32 80), .ref (ad32 81), .ref (ad32 82), .null, .null, .null, .null, .null, .null, .null, .null, .int 0, .null, .int 0, .int 0, .null, .null]) := by rw [hA32 74 (by omega), hA32 75 (by omega), hA32 76 (by omega), hA32 77 (by omega), hA32 78 (by omega), hA32 79 (by omega), hA32 80 (by omega), hA32 81 (by omega), hA32 82 (by omega)]; exact hm
  refine pf_M_45 (fs' := [.int 0, .int (iI 1), .int (iI 1), .ref (ad32 74), .ref (ad32 75), .ref (ad32 76), .ref (ad32 77), .ref (ad32 78), .int 0, .int 0, .ref (ad32 79), .ref (ad32 80), .ref (ad32 81), .ref (ad32 82), .ref (ad32 83), .null, .null, .null, .null, .null, .null, .null, .int 0, .null, .int 0, .int 0, .null, .null]) C hnm (by omega) hm rfl rfl (Nat.le_of_ble_eq_true rfl) rfl d_M_init_97 (fun g33 hm fr34 => ?_)
  have hpic := (fr34 74 (by omega)).trans hpic
  have hkep := (fr34 75 (by omega)).trans hkep
  have hreb := (fr34 76 (by omega)).trans hreb
  have htri := (fr34 77 (by omega)).trans htri
  have hkno := (fr34 78 (by omega)).trans hkno
  have htol := (fr34 79 (by omega)).trans htol
  have hrP := (fr34 80 (by omega)).trans hrP
  have hrQ := (fr34 81 (by omega)).trans hrQ
  have hfil := (fr34 82 (by omega)).trans hfil
  have hbns := (fr34 83 (by omega)).trans hbns
  refine v_aload_n C d_M_init_100 rfl 0 rfl ?_
  refine v_bipush C d_M_init_101 (by decide +kernel) ?_
  refine v_newzP C 8 rfl (by decide) (Nat.le_of_ble_eq_true rfl) (Nat.le_of_ble_eq_true rfl) d_M_init_103 (fun ad35 g35 hA35 hkt fr35 => ?_)
  have hm := (fr35 73 (by omega)).trans hm
  have hpic := (fr35 74 (by omega)).trans hpic
  have hkep := (fr35 75 (by omega)).trans hkep
  have hreb := (fr35 76 (by omega)).trans hreb
  have htri := (fr35 77 (by omega)).trans htri
  have hkno := (fr35 78 (by omega)).trans hkno
  have htol := (fr35 79 (by omega)).trans htol
  have hrP := (fr35 80 (by omega)).trans hrP
  have hrQ := (fr35 81 (by omega)).trans hrQ
  have hfil := (fr35 82 (by omega)).trans hfil
  have hbns := (fr35 83 (by omega)).trans hbns
  refine v_lvE (lv' := [(0, .ref (ad35 73))]) (by rw [hA35 73 (by omega)]) ?_
  refine v_stE (st' := [.ref (ad35 84), .ref (ad35 73)]) (by rw [hA35 73 (by omega)]) ?_
  have hm : g35 73 = .inr (3, [.int 0, .int (iI 1), .int (iI 1), .ref (ad35 74), .ref (ad35 75), .ref (ad35 76), .ref (ad35 77), .ref (ad35 78), .int 0, .int 0, .ref (ad35 79), .ref (ad35 80), .ref (ad35 81), .ref (ad35 82), .ref (ad35 83), .null, .null, .null, .null, .null, .null, .null, .int 0, .null, .int 0, .int 0, .null, .null]) := by rw [hA35 74 (by omega), hA35 75 (by omega), hA35 76 (by omega), hA35 77 (by omega), hA35 78 (by omega), hA35 79 (by omega), hA35 80 (by omega), hA35 81 (by omega), hA35 82 (by omega), hA35 83 (by omega)]; exact hm
  refine pf_M_48 (fs' := [.int 0, .int (iI 1), .int (iI 1), .ref (ad35 74), .ref (ad35 75), .ref (ad35 76), .ref (ad35 77), .ref (ad35 78), .int 0, .int 0, .ref (ad35 79), .ref (ad35 80), .ref (ad35 81), .ref (ad35 82), .ref (ad35 83), .ref (ad35 84), .null, .null, .null, .null, .null, .null, .int 0, .null, .int 0, .int 0, .null, .null]) C hnm (by omega) hm rfl rfl (Nat.le_of_ble_eq_true rfl) rfl d_M_init_105 (fun g36 hm fr37 => ?_)
  have hpic := (fr37 74 (by omega)).trans hpic
  have hkep := (fr37 75 (by omega)).trans hkep
  have hreb := (fr37 76 (by omega)).trans hreb
  have htri := (fr37 77 (by omega)).trans htri
  have hkno := (fr37 78 (by omega)).trans hkno
  have htol := (fr37 79 (by omega)).trans htol
  have hrP := (fr37 80 (by omega)).trans hrP
  have hrQ := (fr37 81 (by omega)).trans hrQ
  have hfil := (fr37 82 (by omega)).trans hfil
  have hbns := (fr37 83 (by omega)).trans hbns
  have hkt := (fr37 84 (by omega)).trans hkt
  refine v_aload_n C d_M_init_108 rfl 0 rfl ?_
  refine v_bipush C d_M_init_109 (by decide +kernel) ?_
  refine v_newiP C 8 rfl (by decide) (Nat.le_of_ble_eq_true rfl) (Nat.le_of_ble_eq_true rfl) d_M_init_111 (fun ad38 g38 hA38 hkP fr38 => ?_)
  have hm := (fr38 73 (by omega)).trans hm
  have hpic := (fr38 74 (by omega)).trans hpic
  have hkep := (fr38 75 (by omega)).trans hkep
  have hreb := (fr38 76 (by omega)).trans hreb
  have htri := (fr38 77 (by omega)).trans htri
  have hkno := (fr38 78 (by omega)).trans hkno
  have htol := (fr38 79 (by omega)).trans htol
  have hrP := (fr38 80 (by omega)).trans hrP
  have hrQ := (fr38 81 (by omega)).trans hrQ
  have hfil := (fr38 82 (by omega)).trans hfil
  have hbns := (fr38 83 (by omega)).trans hbns
  have hkt := (fr38 84 (by omega)).trans hkt
  refine v_lvE (lv' := [(0, .ref (ad38 73))]) (by rw [hA38 73 (by omega)]) ?_
  refine v_stE (st' := [.ref (ad38 85), .ref (ad38 73)]) (by rw [hA38 73 (by omega)]) ?_
  have hm : g38 73 = .inr (3, [.int 0, .int (iI 1), .int (iI 1), .ref (ad38 74), .ref (ad38 75), .ref (ad38 76), .ref (ad38 77), .ref (ad38 78), .int 0, .int 0, .ref (ad38 79), .ref (ad38 80), .ref (ad38 81), .ref (ad38 82), .ref (ad38 83), .ref (ad38 84), .null, .null, .null, .null, .null, .null, .int 0, .null, .int 0, .int 0, .null, .null]) := by rw [hA38 74 (by omega), hA38 75 (by omega), hA38 76 (by omega), hA38 77 (by omega), hA38 78 (by omega), hA38 79 (by omega), hA38 80 (by omega), hA38 81 (by omega), hA38 82 (by omega), hA38 83 (by omega), hA38 84 (by omega)]; exact hm
  refine pf_M_51 (fs' := [.int 0, .int (iI 1), .int (iI 1), .ref (ad38 74), .ref (ad38 75), .ref (ad38 76), .ref (ad38 77), .ref (ad38 78), .int 0, .int 0, .ref (ad38 79), .ref (ad38 80), .ref (ad38 81), .ref (ad38 82), .ref (ad38 83), .ref (ad38 84), .ref (ad38 85), .null, .null, .null, .null, .null, .int 0, .null, .int 0, .int 0, .null, .null]) C hnm (by omega) hm rfl rfl (Nat.le_of_ble_eq_true rfl) rfl d_M_init_113 (fun g39 hm fr40 => ?_)
  have hpic := (fr40 74 (by omega)).trans hpic
  have hkep := (fr40 75 (by omega)).trans hkep
  have hreb := (fr40 76 (by omega)).trans hreb
  have htri := (fr40 77 (by omega)).trans htri
  have hkno := (fr40 78 (by omega)).trans hkno
  have htol := (fr40 79 (by omega)).trans htol
  have hrP := (fr40 80 (by omega)).trans hrP
  have hrQ := (fr40 81 (by omega)).trans hrQ
  have hfil := (fr40 82 (by omega)).trans hfil
  have hbns := (fr40 83 (by omega)).trans hbns
  have hkt := (fr40 84 (by omega)).trans hkt
  have hkP := (fr40 85 (by omega)).trans hkP
  refine v_aload_n C d_M_init_116 rfl 0 rfl ?_
  refine v_bipush C d_M_init_117 (by decide +kernel) ?_
  refine v_newiP C 8 rfl (by decide) (Nat.le_of_ble_eq_true rfl) (Nat.le_of_ble_eq_true rfl) d_M_init_119 (fun ad41 g41 hA41 hkQ fr41 => ?_)
  have hm := (fr41 73 (by omega)).trans hm
  have hpic := (fr41 74 (by omega)).trans hpic
  have hkep := (fr41 75 (by omega)).trans hkep
  have hreb := (fr41 76 (by omega)).trans hreb
  have htri := (fr41 77 (by omega)).trans htri
  have hkno := (fr41 78 (by omega)).trans hkno
  have htol := (fr41 79 (by omega)).trans htol
  have hrP := (fr41 80 (by omega)).trans hrP
  have hrQ := (fr41 81 (by omega)).trans hrQ
  have hfil := (fr41 82 (by omega)).trans hfil
  have hbns := (fr41 83 (by omega)).trans hbns
  have hkt := (fr41 84 (by omega)).trans hkt
  have hkP := (fr41 85 (by omega)).trans hkP
  refine v_lvE (lv' := [(0, .ref (ad41 73))]) (by rw [hA41 73 (by omega)]) ?_
  refine v_stE (st' := [.ref (ad41 86), .ref (ad41 73)]) (by rw [hA41 73 (by omega)]) ?_
  have hm : g41 73 = .inr (3, [.int 0, .int (iI 1), .int (iI 1), .ref (ad41 74), .ref (ad41 75), .ref (ad41 76), .ref (ad41 77), .ref (ad41 78), .int 0, .int 0, .ref (ad41 79), .ref (ad41 80), .ref (ad41 81), .ref (ad41 82), .ref (ad41 83), .ref (ad41 84), .ref (ad41 85), .null, .null, .null, .null, .null, .int 0, .null, .int 0, .int 0, .null, .null]) := by rw [hA41 74 (by omega), hA41 75 (by omega), hA41 76 (by omega), hA41 77 (by omega), hA41 78 (by omega), hA41 79 (by omega), hA41 80 (by omega), hA41 81 (by omega), hA41 82 (by omega), hA41 83 (by omega), hA41 84 (by omega), hA41 85 (by omega)]; exact hm
  refine pf_M_54 (fs' := [.int 0, .int (iI 1), .int (iI 1), .ref (ad41 74), .ref (ad41 75), .ref (ad41 76), .ref (ad41 77), .ref (ad41 78), .int 0, .int 0, .ref (ad41 79), .ref (ad41 80), .ref (ad41 81), .ref (ad41 82), .ref (ad41 83), .ref (ad41 84), .ref (ad41 85), .ref (ad41 86), .null, .null, .null, .null, .int 0, .null, .int 0, .int 0, .null, .null]) C hnm (by omega) hm rfl rfl (Nat.le_of_ble_eq_true rfl) rfl d_M_init_121 (fun g42 hm fr43 => ?_)
  have hpic := (fr43 74 (by omega)).trans hpic
  have hkep := (fr43 75 (by omega)).trans hkep
  have hreb := (fr43 76 (by omega)).trans hreb
  have htri := (fr43 77 (by omega)).trans htri
  have hkno := (fr43 78 (by omega)).trans hkno
  have htol := (fr43 79 (by omega)).trans htol
  have hrP := (fr43 80 (by omega)).trans hrP
  have hrQ := (fr43 81 (by omega)).trans hrQ
  have hfil := (fr43 82 (by omega)).trans hfil
  have hbns := (fr43 83 (by omega)).trans hbns
  have hkt := (fr43 84 (by omega)).trans hkt
  have hkP := (fr43 85 (by omega)).trans hkP
  have hkQ := (fr43 86 (by omega)).trans hkQ
  refine v_aload_n C d_M_init_124 rfl 0 rfl ?_
  refine v_bipush C d_M_init_125 (by decide +kernel) ?_
  refine v_newzP C 8 rfl (by decide) (Nat.le_of_ble_eq_true rfl) (Nat.le_of_ble_eq_true rfl) d_M_init_127 (fun ad44 g44 hA44 hkf fr44 => ?_)
  have hm := (fr44 73 (by omega)).trans hm
  have hpic := (fr44 74 (by omega)).trans hpic
  have hkep := (fr44 75 (by omega)).trans hkep
  have hreb := (fr44 76 (by omega)).trans hreb
  have htri := (fr44 77 (by omega)).trans htri
  have hkno := (fr44 78 (by omega)).trans hkno
  have htol := (fr44 79 (by omega)).trans htol
  have hrP := (fr44 80 (by omega)).trans hrP
  have hrQ := (fr44 81 (by omega)).trans hrQ
  have hfil := (fr44 82 (by omega)).trans hfil
  have hbns := (fr44 83 (by omega)).trans hbns
  have hkt := (fr44 84 (by omega)).trans hkt
  have hkP := (fr44 85 (by omega)).trans hkP
  have hkQ := (fr44 86 (by omega)).trans hkQ
  refine v_lvE (lv' := [(0, .ref (ad44 73))]) (by rw [hA44 73 (by omega)]) ?_
  refine v_stE (st' := [.ref (ad44 87), .ref (ad44 73)]) (by rw [hA44 73 (by omega)]) ?_
  have hm : g44 73 = .inr (3, [.int 0, .int (iI 1), .int (iI 1), .ref (ad44 74), .ref (ad44 75), .ref (ad44 76), .ref (ad44 77), .ref (ad44 78), .int 0, .int 0, .ref (ad44 79), .ref (ad44 80), .ref (ad44 81), .ref (ad44 82), .ref (ad44 83), .ref (ad44 84), .ref (ad44 85), .ref (ad44 86), .null, .null, .null, .null, .int 0, .null, .int 0, .int 0, .null, .null]) := by rw [hA44 74 (by omega), hA44 75 (by omega), hA44 76 (by omega), hA44 77 (by omega), hA44 78 (by omega), hA44 79 (by omega), hA44 80 (by omega), hA44 81 (by omega), hA44 82 (by omega), hA44 83 (by omega), hA44 84 (by omega), hA44 85 (by omega), hA44 86 (by omega)]; exact hm
  refine pf_M_57 (fs' := [.int 0, .int (iI 1), .int (iI 1), .ref (ad44 74), .ref (ad44 75), .ref (ad44 76), .ref (ad44 77), .ref (ad44 78), .int 0, .int 0, .ref (ad44 79), .ref (ad44 80), .ref (ad44 81), .ref (ad44 82), .ref (ad44 83), .ref (ad44 84), .ref (ad44 85), .ref (ad44 86), .ref (ad44 87), .null, .null, .null, .int 0, .null, .int 0, .int 0, .null, .null]) C hnm (by omega) hm rfl rfl (Nat.le_of_ble_eq_true rfl) rfl d_M_init_129 (fun g45 hm fr46 => ?_)
  have hpic := (fr46 74 (by omega)).trans hpic
  have hkep := (fr46 75 (by omega)).trans hkep
  have hreb := (fr46 76 (by omega)).trans hreb
  have htri := (fr46 77 (by omega)).trans htri
  have hkno := (fr46 78 (by omega)).trans hkno
  have htol := (fr46 79 (by omega)).trans htol
  have hrP := (fr46 80 (by omega)).trans hrP
  have hrQ := (fr46 81 (by omega)).trans hrQ
  have hfil := (fr46 82 (by omega)).trans hfil
  have hbns := (fr46 83 (by omega)).trans hbns
  have hkt := (fr46 84 (by omega)).trans hkt
  have hkP := (fr46 85 (by omega)).trans hkP
  have hkQ := (fr46 86 (by omega)).trans hkQ
  have hkf := (fr46 87 (by omega)).trans hkf
  refine v_aload_n C d_M_init_132 rfl 0 rfl ?_
  refine v_sipush C d_M_init_133 (by decide +kernel) ?_
  refine v_newiP C 3848 rfl (by decide) (Nat.le_of_ble_eq_true rfl) (Nat.le_of_ble_eq_true rfl) d_M_init_136 (fun ad47 g47 hA47 hkb fr47 => ?_)
  have hm := (fr47 73 (by omega)).trans hm
  have hpic := (fr47 74 (by omega)).trans hpic
  have hkep := (fr47 75 (by omega)).trans hkep
  have hreb := (fr47 76 (by omega)).trans hreb
  have htri := (fr47 77 (by omega)).trans htri
  have hkno := (fr47 78 (by omega)).trans hkno
  have htol := (fr47 79 (by omega)).trans htol
  have hrP := (fr47 80 (by omega)).trans hrP
  have hrQ := (fr47 81 (by omega)).trans hrQ
  have hfil := (fr47 82 (by omega)).trans hfil
  have hbns := (fr47 83 (by omega)).trans hbns
  have hkt := (fr47 84 (by omega)).trans hkt
  have hkP := (fr47 85 (by omega)).trans hkP
  have hkQ := (fr47 86 (by omega)).trans hkQ
  have hkf := (fr47 87 (by omega)).trans hkf
  refine v_lvE (lv' := [(0, .ref (ad47 73))]) (by rw [hA47 73 (by omega)]) ?_
  refine v_stE (st' := [.ref (ad47 88), .ref (ad47 73)]) (by rw [hA47 73 (by omega)]) ?_
  have hm : g47 73 = .inr (3, [.int 0, .int (iI 1), .int (iI 1), .ref (ad47 74), .ref (ad47 75), .ref (ad47 76), .ref (ad47 77), .ref (ad47 78), .int 0, .int 0, .ref (ad47 79), .ref (ad47 80), .ref (ad47 81), .ref (ad47 82), .ref (ad47 83), .ref (ad47 84), .ref (ad47 85), .ref (ad47 86), .ref (ad47 87), .null, .null, .null, .int 0, .null, .int 0, .int 0, .null, .null]) := by rw [hA47 74 (by omega), hA47 75 (by omega), hA47 76 (by omega), hA47 77 (by omega), hA47 78 (by omega), hA47 79 (by omega), hA47 80 (by omega), hA47 81 (by omega), hA47 82 (by omega), hA47 83 (by omega), hA47 84 (by omega), hA47 85 (by omega), hA47 86 (by omega), hA47 87 (by omega)]; exact hm
  refine pf_M_60 (fs' := [.int 0, .int (iI 1), .int (iI 1), .ref (ad47 74), .ref (ad47 75), .ref (ad47 76), .ref (ad47 77), .ref (ad47 78), .int 0, .int 0, .ref (ad47 79), .ref (ad47 80), .ref (ad47 81), .ref (ad47 82), .ref (ad47 83), .ref (ad47 84), .ref (ad47 85), .ref (ad47 86), .ref (ad47 87), .ref (ad47 88), .null, .null, .int 0, .null, .int 0, .int 0, .null, .null]) C hnm (by omega) hm rfl rfl (Nat.le_of_ble_eq_true rfl) rfl d_M_init_138 (fun g48 hm fr49 => ?_)
  have hpic := (fr49 74 (by omega)).trans hpic
  have hkep := (fr49 75 (by omega)).trans hkep
  have hreb := (fr49 76 (by omega)).trans hreb
  have htri := (fr49 77 (by omega)).trans htri
  have hkno := (fr49 78 (by omega)).trans hkno
  have htol := (fr49 79 (by omega)).trans htol
  have hrP := (fr49 80 (by omega)).trans hrP
  have hrQ := (fr49 81 (by omega)).trans hrQ
  have hfil := (fr49 82 (by omega)).trans hfil
  have hbns := (fr49 83 (by omega)).trans hbns
  have hkt := (fr49 84 (by omega)).trans hkt
  have hkP := (fr49 85 (by omega)).trans hkP
  have hkQ := (fr49 86 (by omega)).trans hkQ
  have hkf := (fr49 87 (by omega)).trans hkf
  have hkb := (fr49 88 (by omega)).trans hkb
  refine v_aload_n C d_M_init_141 rfl 0 rfl ?_
  refine v_sipush C d_M_init_142 (by decide +kernel) ?_
  refine v_newiP C 3848 rfl (by decide) (Nat.le_of_ble_eq_true rfl) (Nat.le_of_ble_eq_true rfl) d_M_init_145 (fun ad50 g50 hA50 hunk fr50 => ?_)
  have hm := (fr50 73 (by omega)).trans hm
  have hpic := (fr50 74 (by omega)).trans hpic
  have hkep := (fr50 75 (by omega)).trans hkep
  have hreb := (fr50 76 (by omega)).trans hreb
  have htri := (fr50 77 (by omega)).trans htri
  have hkno := (fr50 78 (by omega)).trans hkno
  have htol := (fr50 79 (by omega)).trans htol
  have hrP := (fr50 80 (by omega)).trans hrP
  have hrQ := (fr50 81 (by omega)).trans hrQ
  have hfil := (fr50 82 (by omega)).trans hfil
  have hbns := (fr50 83 (by omega)).trans hbns
  have hkt := (fr50 84 (by omega)).trans hkt
  have hkP := (fr50 85 (by omega)).trans hkP
  have hkQ := (fr50 86 (by omega)).trans hkQ
  have hkf := (fr50 87 (by omega)).trans hkf
  have hkb := (fr50 88 (by omega)).trans hkb
  refine v_lvE (lv' := [(0, .ref (ad50 73))]) (by rw [hA50 73 (by omega)]) ?_
  refine v_stE (st' := [.ref (ad50 89), .ref (ad50 73)]) (by rw [hA50 73 (by omega)]) ?_
  have hm : g50 73 = .inr (3, [.int 0, .int (iI 1), .int (iI 1), .ref (ad50 74), .ref (ad50 75), .ref (ad50 76), .ref (ad50 77), .ref (ad50 78), .int 0, .int 0, .ref (ad50 79), .ref (ad50 80), .ref (ad50 81), .ref (ad50 82), .ref (ad50 83), .ref (ad50 84), .ref (ad50 85), .ref (ad50 86), .ref (ad50 87), .ref (ad50 88), .null, .null, .int 0, .null, .int 0, .int 0, .null, .null]) := by rw [hA50 74 (by omega), hA50 75 (by omega), hA50 76 (by omega), hA50 77 (by omega), hA50 78 (by omega), hA50 79 (by omega), hA50 80 (by omega), hA50 81 (by omega), hA50 82 (by omega), hA50 83 (by omega), hA50 84 (by omega), hA50 85 (by omega), hA50 86 (by omega), hA50 87 (by omega), hA50 88 (by omega)]; exact hm
  refine pf_M_63 (fs' := [.int 0, .int (iI 1), .int (iI 1), .ref (ad50 74), .ref (ad50 75), .ref (ad50 76), .ref (ad50 77), .ref (ad50 78), .int 0, .int 0, .ref (ad50 79), .ref (ad50 80), .ref (ad50 81), .ref (ad50 82), .ref (ad50 83), .ref (ad50 84), .ref (ad50 85), .ref (ad50 86), .ref (ad50 87), .ref (ad50 88), .ref (ad50 89), .null, .int 0, .null, .int 0, .int 0, .null, .null]) C hnm (by omega) hm rfl rfl (Nat.le_of_ble_eq_true rfl) rfl d_M_init_147 (fun g51 hm fr52 => ?_)
  have hpic := (fr52 74 (by omega)).trans hpic
  have hkep := (fr52 75 (by omega)).trans hkep
  have hreb := (fr52 76 (by omega)).trans hreb
  have htri := (fr52 77 (by omega)).trans htri
  have hkno := (fr52 78 (by omega)).trans hkno
  have htol := (fr52 79 (by omega)).trans htol
  have hrP := (fr52 80 (by omega)).trans hrP
  have hrQ := (fr52 81 (by omega)).trans hrQ
  have hfil := (fr52 82 (by omega)).trans hfil
  have hbns := (fr52 83 (by omega)).trans hbns
  have hkt := (fr52 84 (by omega)).trans hkt
  have hkP := (fr52 85 (by omega)).trans hkP
  have hkQ := (fr52 86 (by omega)).trans hkQ
  have hkf := (fr52 87 (by omega)).trans hkf
  have hkb := (fr52 88 (by omega)).trans hkb
  have hunk := (fr52 89 (by omega)).trans hunk
  refine v_aload_n C d_M_init_150 rfl 0 rfl ?_
  refine v_sipush C d_M_init_151 (by decide +kernel) ?_
  refine v_newiP C 3848 rfl (by decide) (Nat.le_of_ble_eq_true rfl) (Nat.le_of_ble_eq_true rfl) d_M_init_154 (fun ad53 g53 hA53 hlef fr53 => ?_)
  have hm := (fr53 73 (by omega)).trans hm
  have hpic := (fr53 74 (by omega)).trans hpic
  have hkep := (fr53 75 (by omega)).trans hkep
  have hreb := (fr53 76 (by omega)).trans hreb
  have htri := (fr53 77 (by omega)).trans htri
  have hkno := (fr53 78 (by omega)).trans hkno
  have htol := (fr53 79 (by omega)).trans htol
  have hrP := (fr53 80 (by omega)).trans hrP
  have hrQ := (fr53 81 (by omega)).trans hrQ
  have hfil := (fr53 82 (by omega)).trans hfil
  have hbns := (fr53 83 (by omega)).trans hbns
  have hkt := (fr53 84 (by omega)).trans hkt
  have hkP := (fr53 85 (by omega)).trans hkP
  have hkQ := (fr53 86 (by omega)).trans hkQ
  have hkf := (fr53 87 (by omega)).trans hkf
  have hkb := (fr53 88 (by omega)).trans hkb
  have hunk := (fr53 89 (by omega)).trans hunk
  refine v_lvE (lv' := [(0, .ref (ad53 73))]) (by rw [hA53 73 (by omega)]) ?_
  refine v_stE (st' := [.ref (ad53 90), .ref (ad53 73)]) (by rw [hA53 73 (by omega)]) ?_
  have hm : g53 73 = .inr (3, [.int 0, .int (iI 1), .int (iI 1), .ref (ad53 74), .ref (ad53 75), .ref (ad53 76), .ref (ad53 77), .ref (ad53 78), .int 0, .int 0, .ref (ad53 79), .ref (ad53 80), .ref (ad53 81), .ref (ad53 82), .ref (ad53 83), .ref (ad53 84), .ref (ad53 85), .ref (ad53 86), .ref (ad53 87), .ref (ad53 88), .ref (ad53 89), .null, .int 0, .null, .int 0, .int 0, .null, .null]) := by rw [hA53 74 (by omega), hA53 75 (by omega), hA53 76 (by omega), hA53 77 (by omega), hA53 78 (by omega), hA53 79 (by omega), hA53 80 (by omega), hA53 81 (by omega), hA53 82 (by omega), hA53 83 (by omega), hA53 84 (by omega), hA53 85 (by omega), hA53 86 (by omega), hA53 87 (by omega), hA53 88 (by omega), hA53 89 (by omega)]; exact hm
  refine pf_M_66 (fs' := [.int 0, .int (iI 1), .int (iI 1), .ref (ad53 74), .ref (ad53 75), .ref (ad53 76), .ref (ad53 77), .ref (ad53 78), .int 0, .int 0, .ref (ad53 79), .ref (ad53 80), .ref (ad53 81), .ref (ad53 82), .ref (ad53 83), .ref (ad53 84), .ref (ad53 85), .ref (ad53 86), .ref (ad53 87), .ref (ad53 88), .ref (ad53 89), .ref (ad53 90), .int 0, .null, .int 0, .int 0, .null, .null]) C hnm (by omega) hm rfl rfl (Nat.le_of_ble_eq_true rfl) rfl d_M_init_156 (fun g54 hm fr55 => ?_)
  have hpic := (fr55 74 (by omega)).trans hpic
  have hkep := (fr55 75 (by omega)).trans hkep
  have hreb := (fr55 76 (by omega)).trans hreb
  have htri := (fr55 77 (by omega)).trans htri
  have hkno := (fr55 78 (by omega)).trans hkno
  have htol := (fr55 79 (by omega)).trans htol
  have hrP := (fr55 80 (by omega)).trans hrP
  have hrQ := (fr55 81 (by omega)).trans hrQ
  have hfil := (fr55 82 (by omega)).trans hfil
  have hbns := (fr55 83 (by omega)).trans hbns
  have hkt := (fr55 84 (by omega)).trans hkt
  have hkP := (fr55 85 (by omega)).trans hkP
  have hkQ := (fr55 86 (by omega)).trans hkQ
  have hkf := (fr55 87 (by omega)).trans hkf
  have hkb := (fr55 88 (by omega)).trans hkb
  have hunk := (fr55 89 (by omega)).trans hunk
  have hlef := (fr55 90 (by omega)).trans hlef
  refine v_aload_n C d_M_init_159 rfl 0 rfl ?_
  refine v_sipush C d_M_init_160 (by decide +kernel) ?_
  refine v_newiP C 481 rfl (by decide) (Nat.le_of_ble_eq_true rfl) (Nat.le_of_ble_eq_true rfl) d_M_init_163 (fun ad56 g56 hA56 hsum fr56 => ?_)
  have hm := (fr56 73 (by omega)).trans hm
  have hpic := (fr56 74 (by omega)).trans hpic
  have hkep := (fr56 75 (by omega)).trans hkep
  have hreb := (fr56 76 (by omega)).trans hreb
  have htri := (fr56 77 (by omega)).trans htri
  have hkno := (fr56 78 (by omega)).trans hkno
  have htol := (fr56 79 (by omega)).trans htol
  have hrP := (fr56 80 (by omega)).trans hrP
  have hrQ := (fr56 81 (by omega)).trans hrQ
  have hfil := (fr56 82 (by omega)).trans hfil
  have hbns := (fr56 83 (by omega)).trans hbns
  have hkt := (fr56 84 (by omega)).trans hkt
  have hkP := (fr56 85 (by omega)).trans hkP
  have hkQ := (fr56 86 (by omega)).trans hkQ
  have hkf := (fr56 87 (by omega)).trans hkf
  have hkb := (fr56 88 (by omega)).trans hkb
  have hunk := (fr56 89 (by omega)).trans hunk
  have hlef := (fr56 90 (by omega)).trans hlef
  refine v_lvE (lv' := [(0, .ref (ad56 73))]) (by rw [hA56 73 (by omega)]) ?_
  refine v_stE (st' := [.ref (ad56 91), .ref (ad56 73)]) (by rw [hA56 73 (by omega)]) ?_
  have hm : g56 73 = .inr (3, [.int 0, .int (iI 1), .int (iI 1), .ref (ad56 74), .ref (ad56 75), .ref (ad56 76), .ref (ad56 77), .ref (ad56 78), .int 0, .int 0, .ref (ad56 79), .ref (ad56 80), .ref (ad56 81), .ref (ad56 82), .ref (ad56 83), .ref (ad56 84), .ref (ad56 85), .ref (ad56 86), .ref (ad56 87), .ref (ad56 88), .ref (ad56 89), .ref (ad56 90), .int 0, .null, .int 0, .int 0, .null, .null]) := by rw [hA56 74 (by omega), hA56 75 (by omega), hA56 76 (by omega), hA56 77 (by omega), hA56 78 (by omega), hA56 79 (by omega), hA56 80 (by omega), hA56 81 (by omega), hA56 82 (by omega), hA56 83 (by omega), hA56 84 (by omega), hA56 85 (by omega), hA56 86 (by omega), hA56 87 (by omega), hA56 88 (by omega), hA56 89 (by omega), hA56 90 (by omega)]; exact hm
  refine pf_M_69 (fs' := [.int 0, .int (iI 1), .int (iI 1), .ref (ad56 74), .ref (ad56 75), .ref (ad56 76), .ref (ad56 77), .ref (ad56 78), .int 0, .int 0, .ref (ad56 79), .ref (ad56 80), .ref (ad56 81), .ref (ad56 82), .ref (ad56 83), .ref (ad56 84), .ref (ad56 85), .ref (ad56 86), .ref (ad56 87), .ref (ad56 88), .ref (ad56 89), .ref (ad56 90), .int 0, .ref (ad56 91), .int 0, .int 0, .null, .null]) C hnm (by omega) hm rfl rfl (Nat.le_of_ble_eq_true rfl) rfl d_M_init_165 (fun g57 hm fr58 => ?_)
  have hpic := (fr58 74 (by omega)).trans hpic
  have hkep := (fr58 75 (by omega)).trans hkep
  have hreb := (fr58 76 (by omega)).trans hreb
  have htri := (fr58 77 (by omega)).trans htri
  have hkno := (fr58 78 (by omega)).trans hkno
  have htol := (fr58 79 (by omega)).trans htol
  have hrP := (fr58 80 (by omega)).trans hrP
  have hrQ := (fr58 81 (by omega)).trans hrQ
  have hfil := (fr58 82 (by omega)).trans hfil
  have hbns := (fr58 83 (by omega)).trans hbns
  have hkt := (fr58 84 (by omega)).trans hkt
  have hkP := (fr58 85 (by omega)).trans hkP
  have hkQ := (fr58 86 (by omega)).trans hkQ
  have hkf := (fr58 87 (by omega)).trans hkf
  have hkb := (fr58 88 (by omega)).trans hkb
  have hunk := (fr58 89 (by omega)).trans hunk
  have hlef := (fr58 90 (by omega)).trans hlef
  have hsum := (fr58 91 (by omega)).trans hsum
  refine v_aload_n C d_M_init_168 rfl 0 rfl ?_
  refine v_iconst C d_M_init_169 ?_
  refine pf_M_72 (fs' := [.int 0, .int (iI 1), .int (iI 1), .ref (ad56 74), .ref (ad56 75), .ref (ad56 76), .ref (ad56 77), .ref (ad56 78), .int 0, .int 0, .ref (ad56 79), .ref (ad56 80), .ref (ad56 81), .ref (ad56 82), .ref (ad56 83), .ref (ad56 84), .ref (ad56 85), .ref (ad56 86), .ref (ad56 87), .ref (ad56 88), .ref (ad56 89), .ref (ad56 90), .int 0, .ref (ad56 91), .int 0, .int (iI (-1)), .null, .null]) C (by omega) hm rfl rfl (Nat.le_of_ble_eq_true rfl) rfl d_M_init_170 (fun g59 hm fr60 => ?_)
  have hpic := (fr60 74 (by omega)).trans hpic
  have hkep := (fr60 75 (by omega)).trans hkep
  have hreb := (fr60 76 (by omega)).trans hreb
  have htri := (fr60 77 (by omega)).trans htri
  have hkno := (fr60 78 (by omega)).trans hkno
  have htol := (fr60 79 (by omega)).trans htol
  have hrP := (fr60 80 (by omega)).trans hrP
  have hrQ := (fr60 81 (by omega)).trans hrQ
  have hfil := (fr60 82 (by omega)).trans hfil
  have hbns := (fr60 83 (by omega)).trans hbns
  have hkt := (fr60 84 (by omega)).trans hkt
  have hkP := (fr60 85 (by omega)).trans hkP
  have hkQ := (fr60 86 (by omega)).trans hkQ
  have hkf := (fr60 87 (by omega)).trans hkf
  have hkb := (fr60 88 (by omega)).trans hkb
  have hunk := (fr60 89 (by omega)).trans hunk
  have hlef := (fr60 90 (by omega)).trans hlef
  have hsum := (fr60 91 (by omega)).trans hsum
  refine v_aload_n C d_M_init_173 rfl 0 rfl ?_
  refine v_sipush C d_M_init_174 (by decide +kernel) ?_
  refine v_newiP C 512 rfl (by decide) (Nat.le_of_ble_eq_true rfl) (Nat.le_of_ble_eq_true rfl) d_M_init_177 (fun ad61 g61 hA61 hspd fr61 => ?_)
  have hm := (fr61 73 (by omega)).trans hm
  have hpic := (fr61 74 (by omega)).trans hpic
  have hkep := (fr61 75 (by omega)).trans hkep
  have hreb := (fr61 76 (by omega)).trans hreb
  have htri := (fr61 77 (by omega)).trans htri
  have hkno := (fr61 78 (by omega)).trans hkno
  have htol := (fr61 79 (by omega)).trans htol
  have hrP := (fr61 80 (by omega)).trans hrP
  have hrQ := (fr61 81 (by omega)).trans hrQ
  have hfil := (fr61 82 (by omega)).trans hfil
  have hbns := (fr61 83 (by omega)).trans hbns
  have hkt := (fr61 84 (by omega)).trans hkt
  have hkP := (fr61 85 (by omega)).trans hkP
  have hkQ := (fr61 86 (by omega)).trans hkQ
  have hkf := (fr61 87 (by omega)).trans hkf
  have hkb := (fr61 88 (by omega)).trans hkb
  have hunk := (fr61 89 (by omega)).trans hunk
  have hlef := (fr61 90 (by omega)).trans hlef
  have hsum := (fr61 91 (by omega)).trans hsum
  refine v_lvE (lv' := [(0, .ref (ad61 73))]) (by rw [hA61 73 (by omega)]) ?_
  refine v_stE (st' := [.ref (ad61 92), .ref (ad61 73)]) (by rw [hA61 73 (by omega)]) ?_
  have hm : g61 73 = .inr (3, [.int 0, .int (iI 1), .int (iI 1), .ref (ad61 74), .ref (ad61 75), .ref (ad61 76), .ref (ad61 77), .ref (ad61 78), .int 0, .int 0, .ref (ad61 79), .ref (ad61 80), .ref (ad61 81), .ref (ad61 82), .ref (ad61 83), .ref (ad61 84), .ref (ad61 85), .ref (ad61 86), .ref (ad61 87), .ref (ad61 88), .ref (ad61 89), .ref (ad61 90), .int 0, .ref (ad61 91), .int 0, .int (iI (-1)), .null, .null]) := by rw [hA61 74 (by omega), hA61 75 (by omega), hA61 76 (by omega), hA61 77 (by omega), hA61 78 (by omega), hA61 79 (by omega), hA61 80 (by omega), hA61 81 (by omega), hA61 82 (by omega), hA61 83 (by omega), hA61 84 (by omega), hA61 85 (by omega), hA61 86 (by omega), hA61 87 (by omega), hA61 88 (by omega), hA61 89 (by omega), hA61 90 (by omega), hA61 91 (by omega)]; exact hm
  refine pf_M_75 (fs' := [.int 0, .int (iI 1), .int (iI 1), .ref (ad61 74), .ref (ad61 75), .ref (ad61 76), .ref (ad61 77), .ref (ad61 78), .int 0, .int 0, .ref (ad61 79), .ref (ad61 80), .ref (ad61 81), .ref (ad61 82), .ref (ad61 83), .ref (ad61 84), .ref (ad61 85), .ref (ad61 86), .ref (ad61 87), .ref (ad61 88), .ref (ad61 89), .ref (ad61 90), .int 0, .ref (ad61 91), .int 0, .int (iI (-1)), .ref (ad61 92), .null]) C hnm (by omega) hm rfl rfl (Nat.le_of_ble_eq_true rfl) rfl d_M_init_179 (fun g62 hm fr63 => ?_)
  have hpic := (fr63 74 (by omega)).trans hpic
  have hkep := (fr63 75 (by omega)).trans hkep
  have hreb := (fr63 76 (by omega)).trans hreb
  have htri := (fr63 77 (by omega)).trans htri
  have hkno := (fr63 78 (by omega)).trans hkno
  have htol := (fr63 79 (by omega)).trans htol
  have hrP := (fr63 80 (by omega)).trans hrP
  have hrQ := (fr63 81 (by omega)).trans hrQ
  have hfil := (fr63 82 (by omega)).trans hfil
  have hbns := (fr63 83 (by omega)).trans hbns
  have hkt := (fr63 84 (by omega)).trans hkt
  have hkP := (fr63 85 (by omega)).trans hkP
  have hkQ := (fr63 86 (by omega)).trans hkQ
  have hkf := (fr63 87 (by omega)).trans hkf
  have hkb := (fr63 88 (by omega)).trans hkb
  have hunk := (fr63 89 (by omega)).trans hunk
  have hlef := (fr63 90 (by omega)).trans hlef
  have hsum := (fr63 91 (by omega)).trans hsum
  have hspd := (fr63 92 (by omega)).trans hspd
  refine v_aload_n C d_M_init_182 rfl 0 rfl ?_
  refine v_sipush C d_M_init_183 (by decide +kernel) ?_
  refine v_newiP C 512 rfl (by decide) (Nat.le_of_ble_eq_true rfl) (Nat.le_of_ble_eq_true rfl) d_M_init_186 (fun ad64 g64 hA64 hspg fr64 => ?_)
  have hm := (fr64 73 (by omega)).trans hm
  have hpic := (fr64 74 (by omega)).trans hpic
  have hkep := (fr64 75 (by omega)).trans hkep
  have hreb := (fr64 76 (by omega)).trans hreb
  have htri := (fr64 77 (by omega)).trans htri
  have hkno := (fr64 78 (by omega)).trans hkno
  have htol := (fr64 79 (by omega)).trans htol
  have hrP := (fr64 80 (by omega)).trans hrP
  have hrQ := (fr64 81 (by omega)).trans hrQ
  have hfil := (fr64 82 (by omega)).trans hfil
  have hbns := (fr64 83 (by omega)).trans hbns
  have hkt := (fr64 84 (by omega)).trans hkt
  have hkP := (fr64 85 (by omega)).trans hkP
  have hkQ := (fr64 86 (by omega)).trans hkQ
  have hkf := (fr64 87 (by omega)).trans hkf
  have hkb := (fr64 88 (by omega)).trans hkb
  have hunk := (fr64 89 (by omega)).trans hunk
  have hlef := (fr64 90 (by omega)).trans hlef
  have hsum := (fr64 91 (by omega)).trans hsum
  have hspd := (fr64 92 (by omega)).trans hspd
  refine v_lvE (lv' := [(0, .ref (ad64 73))]) (by rw [hA64 73 (by omega)]) ?_
  refine v_stE (st' := [.ref (ad64 93), .ref (ad64 73)]) (by rw [hA64 73 (by omega)]) ?_
  have hm : g64 73 = .inr (3, [.int 0, .int (iI 1), .int (iI 1), .ref (ad64 74), .ref (ad64 75), .ref (ad64 76), .ref (ad64 77), .ref (ad64 78), .int 0, .int 0, .ref (ad64 79), .ref (ad64 80), .ref (ad64 81), .ref (ad64 82), .ref (ad64 83), .ref (ad64 84), .ref (ad64 85), .ref (ad64 86), .ref (ad64 87), .ref (ad64 88), .ref (ad64 89), .ref (ad64 90), .int 0, .ref (ad64 91), .int 0, .int (iI (-1)), .ref (ad64 92), .null]) := by rw [hA64 74 (by omega), hA64 75 (by omega), hA64 76 (by omega), hA64 77 (by omega), hA64 78 (by omega), hA64 79 (by omega), hA64 80 (by omega), hA64 81 (by omega), hA64 82 (by omega), hA64 83 (by omega), hA64 84 (by omega), hA64 85 (by omega), hA64 86 (by omega), hA64 87 (by omega), hA64 88 (by omega), hA64 89 (by omega), hA64 90 (by omega), hA64 91 (by omega), hA64 92 (by omega)]; exact hm
  refine pf_M_78 (fs' := [.int 0, .int (iI 1), .int (iI 1), .ref (ad64 74), .ref (ad64 75), .ref (ad64 76), .ref (ad64 77), .ref (ad64 78), .int 0, .int 0, .ref (ad64 79), .ref (ad64 80), .ref (ad64 81), .ref (ad64 82), .ref (ad64 83), .ref (ad64 84), .ref (ad64 85), .ref (ad64 86), .ref (ad64 87), .ref (ad64 88), .ref (ad64 89), .ref (ad64 90), .int 0, .ref (ad64 91), .int 0, .int (iI (-1)), .ref (ad64 92), .ref (ad64 93)]) C hnm (by omega) hm rfl rfl (Nat.le_of_ble_eq_true rfl) rfl d_M_init_188 (fun g65 hm fr66 => ?_)
  have hpic := (fr66 74 (by omega)).trans hpic
  have hkep := (fr66 75 (by omega)).trans hkep
  have hreb := (fr66 76 (by omega)).trans hreb
  have htri := (fr66 77 (by omega)).trans htri
  have hkno := (fr66 78 (by omega)).trans hkno
  have htol := (fr66 79 (by omega)).trans htol
  have hrP := (fr66 80 (by omega)).trans hrP
  have hrQ := (fr66 81 (by omega)).trans hrQ
  have hfil := (fr66 82 (by omega)).trans hfil
  have hbns := (fr66 83 (by omega)).trans hbns
  have hkt := (fr66 84 (by omega)).trans hkt
  have hkP := (fr66 85 (by omega)).trans hkP
  have hkQ := (fr66 86 (by omega)).trans hkQ
  have hkf := (fr66 87 (by omega)).trans hkf
  have hkb := (fr66 88 (by omega)).trans hkb
  have hunk := (fr66 89 (by omega)).trans hunk
  have hlef := (fr66 90 (by omega)).trans hlef
  have hsum := (fr66 91 (by omega)).trans hsum
  have hspd := (fr66 92 (by omega)).trans hspd
  have hspg := (fr66 93 (by omega)).trans hspg
  have hfr9 := (fun r1 n0 n1 n2 n3 n4 n5 n6 n7 n8 n9 n10 n11 n12 n13 n14 n15 n16 n17 n18 n19 n20 => ((fr66 r1 n0).trans ((fr64 r1 n20).trans ((fr63 r1 n0).trans ((fr61 r1 n19).trans ((fr60 r1 n0).trans ((fr58 r1 n0).trans ((fr56 r1 n18).trans ((fr55 r1 n0).trans ((fr53 r1 n17).trans ((fr52 r1 n0).trans ((fr50 r1 n16).trans ((fr49 r1 n0).trans ((fr47 r1 n15).trans ((fr46 r1 n0).trans ((fr44 r1 n14).trans ((fr43 r1 n0).trans ((fr41 r1 n13).trans ((fr40 r1 n0).trans ((fr38 r1 n12).trans ((fr37 r1 n0).trans ((fr35 r1 n11).trans ((fr34 r1 n0).trans ((fr32 r1 n10).trans ((fr31 r1 n0).trans ((fr29 r1 n9).trans ((fr28 r1 n0).trans ((fr26 r1 n8).trans ((fr25 r1 n0).trans ((fr23 r1 n7).trans ((fr22 r1 n0).trans ((fr20 r1 n6).trans ((fr19 r1 n0).trans ((fr17 r1 n5).trans ((fr16 r1 n0).trans ((fr14 r1 n4).trans ((fr13 r1 n0).trans ((fr11 r1 n3).trans ((fr10 r1 n0).trans ((fr8 r1 n2).trans ((fr7 r1 n0).trans ((fr5 r1 n1).trans ((fr4 r1 n0).trans (fr2 r1 n0))))))))))))))))))))))))))))))))))))))))))))
  have haf9 := (fun r1 n0 n1 n2 n3 n4 n5 n6 n7 n8 n9 n10 n11 n12 n13 n14 n15 n16 n17 n18 n19 => ((hA64 r1 n19).trans ((hA61 r1 n18).trans ((hA56 r1 n17).trans ((hA53 r1 n16).trans ((hA50 r1 n15).trans ((hA47 r1 n14).trans ((hA44 r1 n13).trans ((hA41 r1 n12).trans ((hA38 r1 n11).trans ((hA35 r1 n10).trans ((hA32 r1 n9).trans ((hA29 r1 n8).trans ((hA26 r1 n7).trans ((hA23 r1 n6).trans ((hA20 r1 n5).trans ((hA17 r1 n4).trans ((hA14 r1 n3).trans ((hA11 r1 n2).trans ((hA8 r1 n1).trans (hA5 r1 n0)))))))))))))))))))))
  exact hret _ _ _ _ _ _ (Nat.le_of_ble_eq_true rfl) (Nat.le_of_ble_eq_true rfl) d_M_init_191 ⟨hm, ⟨hpic, hkep, hreb, htri, hkno, htol, hrP, hrQ, hfil, hbns, hkt, hkP, hkQ, hkf, hkb, hunk, hlef, hsum, hspd, hspg⟩, (fun r1 hr1 => hfr9 r1 (by omega) (by omega) (by omega) (by omega) (by omega) (by omega) (by omega) (by omega) (by omega) (by omega) (by omega) (by omega) (by omega) (by omega) (by omega) (by omega) (by omega) (by omega) (by omega) (by omega) (by omega)), (fun r1 hr1 => haf9 r1 (by omega) (by omega) (by omega) (by omega) (by omega) (by omega) (by omega) (by omega) (by omega) (by omega) (by omega) (by omega) (by omega) (by omega) (by omega) (by omega) (by omega) (by omega) (by omega) (by omega))⟩
