set_option maxHeartbeats 1000000 in
set_option maxRecDepth 100000 in
theorem c_Msize (l : Launch) {B : Nat} {D : va_G} {cI cZ cL cS cW : ClassId} {ad : Nat → Nat} {g : Nat → va_E} (th : Int) (w h : Nat) (kp hb : Bool) (tr sq wm : Int) (x y : Int) (x1 : -2147483648 ≤ x) (x2 : x < 2147483648) (y1 : -2147483648 ≤ y) (y2 : y < 2147483648) (hm : g 73 = mE ad th w h kp hb tr sq wm) (pic : Nat → Int32) (hpic : g 74 = inA cI 256 pic) (tol : Nat → Bool) (htol : g 79 = inA cZ 8 (bA tol)) (fil : Nat → Bool) (hfil : g 82 = inA cZ 8 (bA fil)) : Met l y_M_size (Cond.code y_M_size b_M_size 4 none :: wG) (rmF 1 40 0 0) (wPc B D classes (tyL cI cZ cL cS cW) (Zs B) 95 [.ref (ad 73), .int (iI x), .int (iI y)] ad g) (QV B D classes 95 (fun ad1 g1 => (¬ (1 ≤ x ∧ x ≤ 16 ∧ 1 ≤ y ∧ y ≤ 16) ∧ g1 73 = mE ad 1 w h kp hb tr sq wm ∧ ad = ad1 ∧ ∀ r1, r1 ≠ 73 → g1 r1 = g r1) ∨ ((1 ≤ x ∧ x ≤ 16 ∧ 1 ≤ y ∧ y ≤ 16) ∧ g1 73 = mE ad 0 x y false false tr sq wm ∧ ad = ad1 ∧ ∃ f1 t1 l1, g1 74 = inA cI 256 f1 ∧ g1 79 = inA cZ 8 (bA t1) ∧ g1 82 = inA cZ 8 (bA l1) ∧ (∀ k, k < 256 → f1 k = 0) ∧ (∀ k, k < 8 → t1 k = false) ∧ (∀ k, k < 8 → l1 k = false) ∧ ∀ r1, r1 ≠ 73 → r1 ≠ 74 → r1 ≠ 79 → r1 ≠ 82 → g1 r1 = g r1))) 0 0 (aB B) := by
  refine ofV (own := R_M) (by decide) rfl (Nat.le_of_ble_eq_true rfl) ?_
  intro p e s m below meth c Q C hnm hret
  change kV _ _ _ _ _ _ _ _ _ _ _ _ _ _ _ _ _ _ _ _ _ [(0, .ref (ad 73)), (1, .int (iI x)), (2, .int (iI y))] _ _
  refine v_aload_n C d_M_size_0 rfl 0 rfl ?_
  have J28 : ∀ a : Bool, (a = true ↔ ¬ (1 ≤ x ∧ x ≤ 16 ∧ 1 ≤ y ∧ y ≤ 16)) → kV p l e (rmF 1 40 0 0) s m ([.ref (ad 73), .int (iI x), .int (iI y)] : List Value).toArray below meth c Q s.heap B D classes 4 95 0 0 ad g [(0, .ref (ad 73)), (1, .int (iI x)), (2, .int (iI y))] [.int (bI a), .ref (ad 73)] 28 := by
    intro a ha
    refine v_iconst C d_M_size_28 ?_
    refine v_callVI (As := [.int (bI a), .int (bI false)]) (st := []) (by omega) hm rfl rfl C (c_throwing l th w h kp hb tr sq wm a false hm) (lk_M_88 C.1.2.2.2.2 rfl rfl ⟨Nat.le_of_ble_eq_true rfl, Nat.le_of_ble_eq_true rfl⟩) rfl rfl (Nat.le_of_ble_eq_true rfl) d_M_size_29 ⟨Nat.le_of_ble_eq_true rfl, Nat.le_of_ble_eq_true rfl⟩ (fun w1 ad1 g1 hp1 => ?_)
    obtain ⟨vt1, rfl, hc1, rfl, fr1⟩ := hp1
    rcases hc1 with ⟨ta29, rfl, hm⟩ | ⟨ta29, tb29, rfl, hm⟩ | ⟨ta29, tb29, rfl, hm⟩
    · -- way 1
      have hpic := (fr1 74 (by omega)).trans hpic
      have htol := (fr1 79 (by omega)).trans htol
      have hfil := (fr1 82 (by omega)).trans hfil
      refine v_if_eqB C d_M_size_32 (fun hz9 => absurd hz9 (by decide)) (fun _ => ?_)
      exact hret _ _ _ _ _ _ (Nat.zero_le _) (Nat.zero_le _) d_M_size_35 (Or.inl ⟨ha.mp ta29, hm, rfl, (fun r1 n0 => (fr1 r1 n0))⟩)
    · exact absurd tb29 (by decide)
    · -- way 3
      have hpic := (fr1 74 (by omega)).trans hpic
      have htol := (fr1 79 (by omega)).trans htol
      have hfil := (fr1 82 (by omega)).trans hfil
      refine v_if_eqB C d_M_size_32 (fun _ => ?_) (fun hz9 => absurd hz9 (by decide))
      have hokk : (1 ≤ x ∧ x ≤ 16 ∧ 1 ≤ y ∧ y ≤ 16) := Classical.byContradiction (fun q => absurd (ha.mpr q) (by rw [ta29]; decide))
      refine v_aload_n C d_M_size_36 rfl 0 rfl ?_
      refine v_iload_n C d_M_size_37 rfl 1 rfl ?_
      refine pf_M_7 (fs' := [.int (iI 0), .int (iI x), .int (iI (h : Int)), .ref (ad 74), .ref (ad 75), .ref (ad 76), .ref (ad 77), .ref (ad 78), .int (bI kp), .int (bI hb), .ref (ad 79), .ref (ad 80), .ref (ad 81), .ref (ad 82), .ref (ad 83), .ref (ad 84), .ref (ad 85), .ref (ad 86), .ref (ad 87), .ref (ad 88), .ref (ad 89), .ref (ad 90), .int (iI tr), .ref (ad 91), .int (iI sq), .int (iI wm), .ref (ad 92), .ref (ad 93)]) C (by omega) hm rfl rfl (Nat.le_of_ble_eq_true rfl) rfl d_M_size_38 (fun g2 hm fr3 => ?_)
      have hpic := (fr3 74 (by omega)).trans hpic
      have htol := (fr3 79 (by omega)).trans htol
      have hfil := (fr3 82 (by omega)).trans hfil
      refine v_aload_n C d_M_size_41 rfl 0 rfl ?_
      refine v_iload_n C d_M_size_42 rfl 2 rfl ?_
      refine pf_M_13 (fs' := [.int (iI 0), .int (iI x), .int (iI y), .ref (ad 74), .ref (ad 75), .ref (ad 76), .ref (ad 77), .ref (ad 78), .int (bI kp), .int (bI hb), .ref (ad 79), .ref (ad 80), .ref (ad 81), .ref (ad 82), .ref (ad 83), .ref (ad 84), .ref (ad 85), .ref (ad 86), .ref (ad 87), .ref (ad 88), .ref (ad 89), .ref (ad 90), .int (iI tr), .ref (ad 91), .int (iI sq), .int (iI wm), .ref (ad 92), .ref (ad 93)]) C (by omega) hm rfl rfl (Nat.le_of_ble_eq_true rfl) rfl d_M_size_43 (fun g4 hm fr5 => ?_)
      have hpic := (fr5 74 (by omega)).trans hpic
      have htol := (fr5 79 (by omega)).trans htol
      have hfil := (fr5 82 (by omega)).trans hfil
      refine v_iconst C d_M_size_46 ?_
      refine v_istore_n (lv' := [(3, .int (iI 0)), (0, .ref (ad 73)), (1, .int (iI x)), (2, .int (iI y))]) C d_M_size_47 rfl (by decide) rfl ?_
      refine v_lv (lv' := [(0, .ref (ad 73)), (1, .int (iI x)), (2, .int (iI y)), (3, .int (iI 0))]) [1, 2, 3, 0] rfl ?_
      have L48 : ∀ (d9 : Nat) (i : Nat) (f9 : Nat → Int32) (G48 : Nat → va_E), 256 - i < d9 → (i ≤ 256) → (∀ k, k < i → f9 k = 0) → (∀ r1, r1 ≠ 74 → G48 r1 = g4 r1) → G48 74 = inA cI 256 f9 → kV p l e (rmF 1 40 0 0) s m ([.ref (ad 73), .int (iI x), .int (iI y)] : List Value).toArray below meth c Q s.heap B D classes 4 95 0 0 ad G48 [(0, .ref (ad 73)), (1, .int (iI x)), (2, .int (iI y)), (3, .int (iI (i : Int)))] [] 48 := by
        intro d9
        induction d9 with
        | zero => intro i f9 G48 hd9; exact absurd hd9 (Nat.not_lt_zero _)
        | succ d9 ih48 =>
          intro i f9 G48 hd48 hi hf hfr48 hpic
          have hm := (hfr48 73 (by omega)).trans hm
          have htol := (hfr48 79 (by omega)).trans htol
          have hfil := (hfr48 82 (by omega)).trans hfil
          refine v_iload_n C d_M_size_48 rfl 3 rfl ?_
          refine v_sipush C d_M_size_49 (by decide +kernel) ?_
          refine v_icmp_geI C d_M_size_52 (by omega) (by omega) (by omega) (by omega) (fun hb52 => ?_) (fun hb52 => ?_)
          · refine v_iconst C d_M_size_68 ?_
            refine v_istore_n (lv' := [(3, .int (iI 0)), (0, .ref (ad 73)), (1, .int (iI x)), (2, .int (iI y))]) C d_M_size_69 rfl (by decide) rfl ?_
            refine v_lv (lv' := [(0, .ref (ad 73)), (1, .int (iI x)), (2, .int (iI y)), (3, .int (iI 0))]) [1, 2, 3, 0] rfl ?_
            have L70 : ∀ (d9 : Nat) (j : Nat) (t9 : Nat → Bool) (l9 : Nat → Bool) (G70 : Nat → va_E), 8 - j < d9 → (j ≤ 8) → (∀ k, k < j → t9 k = false) → (∀ k, k < j → l9 k = false) → (∀ r1, r1 ≠ 79 → r1 ≠ 82 → G70 r1 = G48 r1) → G70 79 = inA cZ 8 (bA t9) → G70 82 = inA cZ 8 (bA l9) → kV p l e (rmF 1 40 0 0) s m ([.ref (ad 73), .int (iI x), .int (iI y)] : List Value).toArray below meth c Q s.heap B D classes 4 95 0 0 ad G70 [(0, .ref (ad 73)), (1, .int (iI x)), (2, .int (iI y)), (3, .int (iI (j : Int)))] [] 70 := by
              intro d9
              induction d9 with
              | zero => intro j t9 l9 G70 hd9; exact absurd hd9 (Nat.not_lt_zero _)
              | succ d9 ih70 =>
                intro j t9 l9 G70 hd70 hj ht hl hfr70 htol hfil
                have hm := (hfr70 73 (by omega) (by omega)).trans hm
                have hpic := (hfr70 74 (by omega) (by omega)).trans hpic
                refine v_iload_n C d_M_size_70 rfl 3 rfl ?_
                refine v_bipush C d_M_size_71 (by decide +kernel) ?_
                refine v_icmp_geI C d_M_size_73 (by omega) (by omega) (by omega) (by omega) (fun hb73 => ?_) (fun hb73 => ?_)
                · refine v_aload_n C d_M_size_96 rfl 0 rfl ?_
                  refine v_iconst C d_M_size_97 ?_
                  refine pf_M_92 (fs' := [.int (iI 0), .int (iI x), .int (iI y), .ref (ad 74), .ref (ad 75), .ref (ad 76), .ref (ad 77), .ref (ad 78), .int (iI 0), .int (bI hb), .ref (ad 79), .ref (ad 80), .ref (ad 81), .ref (ad 82), .ref (ad 83), .ref (ad 84), .ref (ad 85), .ref (ad 86), .ref (ad 87), .ref (ad 88), .ref (ad 89), .ref (ad 90), .int (iI tr), .ref (ad 91), .int (iI sq), .int (iI wm), .ref (ad 92), .ref (ad 93)]) C (by omega) hm rfl rfl (Nat.le_of_ble_eq_true rfl) rfl d_M_size_98 (fun g6 hm fr7 => ?_)
                  have hpic := (fr7 74 (by omega)).trans hpic
                  have htol := (fr7 79 (by omega)).trans htol
                  have hfil := (fr7 82 (by omega)).trans hfil
                  refine v_aload_n C d_M_size_101 rfl 0 rfl ?_
                  refine v_iconst C d_M_size_102 ?_
                  refine pf_M_96 (fs' := [.int (iI 0), .int (iI x), .int (iI y), .ref (ad 74), .ref (ad 75), .ref (ad 76), .ref (ad 77), .ref (ad 78), .int (iI 0), .int (iI 0), .ref (ad 79), .ref (ad 80), .ref (ad 81), .ref (ad 82), .ref (ad 83), .ref (ad 84), .ref (ad 85), .ref (ad 86), .ref (ad 87), .ref (ad 88), .ref (ad 89), .ref (ad 90), .int (iI tr), .ref (ad 91), .int (iI sq), .int (iI wm), .ref (ad 92), .ref (ad 93)]) C (by omega) hm rfl rfl (Nat.le_of_ble_eq_true rfl) rfl d_M_size_103 (fun g8 hm fr9 => ?_)
                  have hpic := (fr9 74 (by omega)).trans hpic
                  have htol := (fr9 79 (by omega)).trans htol
                  have hfil := (fr9 82 (by omega)).trans hfil
                  exact hret _ _ _ _ _ _ (Nat.zero_le _) (Nat.zero_le _) d_M_size_106 (Or.inr ⟨by omega, hm, rfl, f9, t9, l9, hpic, htol, hfil, fun k hk => hf k (by omega), fun k hk => ht k (by omega), fun k hk => hl k (by omega), (fun r1 n0 n1 n2 n3 => ((fr9 r1 n0).trans ((fr7 r1 n0).trans ((hfr70 r1 n2 n3).trans ((hfr48 r1 n1).trans ((fr5 r1 n0).trans ((fr3 r1 n0).trans (fr1 r1 n0))))))))⟩)
                · refine v_aload_n C d_M_size_76 rfl 0 rfl ?_
                  refine gf_M_33 C (by omega) hm rfl d_M_size_77 ?_
                  refine v_iload_n C d_M_size_80 rfl 3 rfl ?_
                  refine v_iconst C d_M_size_81 ?_
                  refine v_zastB false C 1 (by omega) htol rfl (j : Nat) (by omega) (by omega) (by omega) d_M_size_82 (fun g10 htol fr11 => ?_)
                  have hm := (fr11 73 (by omega)).trans hm
                  have hpic := (fr11 74 (by omega)).trans hpic
                  have hfil := (fr11 82 (by omega)).trans hfil
                  refine v_aload_n C d_M_size_83 rfl 0 rfl ?_
                  refine gf_M_42 C (by omega) hm rfl d_M_size_84 ?_
                  refine v_iload_n C d_M_size_87 rfl 3 rfl ?_
                  refine v_iconst C d_M_size_88 ?_
                  refine v_zastB false C 1 (by omega) hfil rfl (j : Nat) (by omega) (by omega) (by omega) d_M_size_89 (fun g12 hfil fr13 => ?_)
                  have hm := (fr13 73 (by omega)).trans hm
                  have hpic := (fr13 74 (by omega)).trans hpic
                  have htol := (fr13 79 (by omega)).trans htol
                  refine v_iinc (lv' := [(3, .int (iI ((j : Int) + 1))), (0, .ref (ad 73)), (1, .int (iI x)), (2, .int (iI y))]) C d_M_size_90 3 rfl (by decide) rfl ?_
                  refine v_goto C d_M_size_93 ?_
                  refine v_lv (lv' := [(0, .ref (ad 73)), (1, .int (iI x)), (2, .int (iI y)), (3, .int (iI ((j : Int) + 1)))]) [1, 2, 3, 0] rfl ?_
                  exact ih70 (j + 1) _ _ _ (by omega) (by omega) (uP_all ht) (uP_all hl) (fun r1 n0 n1 => ((fr13 r1 n1).trans ((fr11 r1 n0).trans (hfr70 r1 n0 n1)))) htol hfil
            exact L70 _ 0 tol fil _ (Nat.lt_succ_self _) (by omega) (fun k hk => absurd hk (by omega)) (fun k hk => absurd hk (by omega)) (fun r1 _ _ => rfl) htol hfil
          · refine v_aload_n C d_M_size_55 rfl 0 rfl ?_
            refine gf_M_16 C (by omega) hm rfl d_M_size_56 ?_
            refine v_iload_n C d_M_size_59 rfl 3 rfl ?_
            refine v_iconst C d_M_size_60 ?_
            refine v_iast C 0 (by omega) hpic rfl (i : Nat) (by omega) (by omega) (by omega) d_M_size_61 (fun g14 hpic fr15 => ?_)
            have hm := (fr15 73 (by omega)).trans hm
            have htol := (fr15 79 (by omega)).trans htol
            have hfil := (fr15 82 (by omega)).trans hfil
            refine v_iinc (lv' := [(3, .int (iI ((i : Int) + 1))), (0, .ref (ad 73)), (1, .int (iI x)), (2, .int (iI y))]) C d_M_size_62 3 rfl (by decide) rfl ?_
            refine v_goto C d_M_size_65 ?_
            refine v_lv (lv' := [(0, .ref (ad 73)), (1, .int (iI x)), (2, .int (iI y)), (3, .int (iI ((i : Int) + 1)))]) [1, 2, 3, 0] rfl ?_
            exact ih48 (i + 1) _ _ (by omega) (by omega) (upd_all hf) (fun r1 n0 => ((fr15 r1 n0).trans (hfr48 r1 n0))) hpic
      exact L48 _ 0 pic _ (Nat.lt_succ_self _) (by omega) (fun k hk => absurd hk (by omega)) (fun r1 _ => rfl) hpic
  refine v_iload_n C d_M_size_1 rfl 1 rfl ?_
  refine v_iconst C d_M_size_2 ?_
  refine v_icmp_ltI C d_M_size_3 (by omega) (by omega) (by omega) (by omega) (fun hb3 => ?_) (fun hb3 => ?_)
  · refine v_iconst C d_M_size_23 ?_
    refine v_goto C d_M_size_24 ?_
    exact J28 true ⟨fun _ => by omega, fun _ => rfl⟩
  · refine v_iload_n C d_M_size_6 rfl 1 rfl ?_
    refine v_bipush C d_M_size_7 (by decide +kernel) ?_
    refine v_icmp_gtI C d_M_size_9 (by omega) (by omega) (by omega) (by omega) (fun hb9 => ?_) (fun hb9 => ?_)
    · refine v_iconst C d_M_size_23 ?_
      refine v_goto C d_M_size_24 ?_
      exact J28 true ⟨fun _ => by omega, fun _ => rfl⟩
    · refine v_iload_n C d_M_size_12 rfl 2 rfl ?_
      refine v_iconst C d_M_size_13 ?_
      refine v_icmp_ltI C d_M_size_14 (by omega) (by omega) (by omega) (by omega) (fun hb14 => ?_) (fun hb14 => ?_)
      · refine v_iconst C d_M_size_23 ?_
        refine v_goto C d_M_size_24 ?_
        exact J28 true ⟨fun _ => by omega, fun _ => rfl⟩
      · refine v_iload_n C d_M_size_17 rfl 2 rfl ?_
        refine v_bipush C d_M_size_18 (by decide +kernel) ?_
        refine v_icmp_leI C d_M_size_20 (by omega) (by omega) (by omega) (by omega) (fun hb20 => ?_) (fun hb20 => ?_)
        · refine v_iconst C d_M_size_27 ?_
          exact J28 false ⟨fun q => absurd q (by decide), fun q => absurd q (by omega)⟩
        · refine v_iconst C d_M_size_23 ?_
          refine v_goto C d_M_size_24 ?_
          exact J28 true ⟨fun _ => by omega, fun _ => rfl⟩
set_option maxHeartbeats 1000000 in
set_option maxRecDepth 100000 in
theorem c_Mpixel (l : Launch) {B : Nat} {D : va_G} {cI cZ cL cS cW : ClassId} {ad : Nat → Nat} {g : Nat → va_E} (th : Int) (w h : Nat) (kp hb : Bool) (tr sq wm : Int) (x y : Int) (pv : Int32) (x1 : -2147483648 ≤ x) (x2 : x < 2147483648) (y1 : -2147483648 ≤ y) (y2 : y < 2147483648) (hw : 1 ≤ w ∧ w ≤ 16) (hh : 1 ≤ h ∧ h ≤ 16) (hm : g 73 = mE ad th w h kp hb tr sq wm) (pic : Nat → Int32) (hpic : g 74 = inA cI 256 pic) : Met l y_M_pixel (Cond.code y_M_pixel b_M_pixel 5 (some .int) :: wG) (rmF 1 40 0 0) (wPc B D classes (tyL cI cZ cL cS cW) (Zs B) 95 [.ref (ad 73), .int (iI x), .int (iI y), .int pv] ad g) (QI B D classes 95 (fun v ad1 g1 => (¬ (0 ≤ x ∧ x < (w : Int) ∧ 0 ≤ y ∧ y < (h : Int)) ∧ g1 73 = mE ad 1 w h kp hb tr sq wm ∧ ad = ad1 ∧ ∀ r1, r1 ≠ 73 → g1 r1 = g r1) ∨ ((0 ≤ x ∧ x < (w : Int) ∧ 0 ≤ y ∧ y < (h : Int)) ∧ g1 73 = mE ad 0 w h kp hb tr sq wm ∧ ad = ad1 ∧ v = pic (16 * y.toNat + x.toNat) ∧ g1 74 = inA cI 256 (upd pic (16 * y.toNat + x.toNat) pv) ∧ ∀ r1, r1 ≠ 73 → r1 ≠ 74 → g1 r1 = g r1))) 0 0 (aB B) := by
  refine ofI (own := R_M) (by decide) rfl (Nat.le_of_ble_eq_true rfl) ?_
  intro p e s m below meth c Q C hnm hret
  change kV _ _ _ _ _ _ _ _ _ _ _ _ _ _ _ _ _ _ _ _ _ [(0, .ref (ad 73)), (1, .int (iI x)), (2, .int (iI y)), (3, .int pv)] _ _
  refine v_aload_n C d_M_pixel_0 rfl 0 rfl ?_
  have J15 : ∀ a : Bool, (a = true ↔ ¬ (0 ≤ x ∧ x < (w : Int) ∧ 0 ≤ y ∧ y < (h : Int))) → kV p l e (rmF 1 40 0 0) s m ([.ref (ad 73), .int (iI x), .int (iI y), .int pv] : List Value).toArray below meth c Q s.heap B D classes 5 95 0 0 ad g [(0, .ref (ad 73)), (1, .int (iI x)), (2, .int (iI y)), (3, .int pv)] [.int (bI a), .ref (ad 73)] 15 := by
    intro a ha
    refine v_iconst C d_M_pixel_15 ?_
    refine v_callVI (As := [.int (bI a), .int (bI false)]) (st := []) (by omega) hm rfl rfl C (c_throwing l th w h kp hb tr sq wm a false hm) (lk_M_88 C.1.2.2.2.2 rfl rfl ⟨Nat.le_of_ble_eq_true rfl, Nat.le_of_ble_eq_true rfl⟩) rfl rfl (Nat.le_of_ble_eq_true rfl) d_M_pixel_16 ⟨Nat.le_of_ble_eq_true rfl, Nat.le_of_ble_eq_true rfl⟩ (fun w1 ad1 g1 hp1 => ?_)
    obtain ⟨vt1, rfl, hc1, rfl, fr1⟩ := hp1
    rcases hc1 with ⟨ta16, rfl, hm⟩ | ⟨ta16, tb16, rfl, hm⟩ | ⟨ta16, tb16, rfl, hm⟩
    · -- way 1
      have hpic := (fr1 74 (by omega)).trans hpic
      refine v_if_eqB C d_M_pixel_19 (fun hz9 => absurd hz9 (by decide)) (fun _ => ?_)
      refine v_iconst C d_M_pixel_22 ?_
      exact hret _ _ _ _ _ _ _ (Nat.zero_le _) (Nat.zero_le _) d_M_pixel_23 (Or.inl ⟨ha.mp ta16, hm, rfl, (fun r1 n0 => (fr1 r1 n0))⟩)
    · exact absurd tb16 (by decide)
    · -- way 3
      have hpic := (fr1 74 (by omega)).trans hpic
      refine v_if_eqB C d_M_pixel_19 (fun _ => ?_) (fun hz9 => absurd hz9 (by decide))
      have hin : (0 ≤ x ∧ x < (w : Int) ∧ 0 ≤ y ∧ y < (h : Int)) := Classical.byContradiction (fun q => absurd (ha.mpr q) (by rw [ta16]; decide))
      refine v_aload_n C d_M_pixel_24 rfl 0 rfl ?_
      refine gf_M_16 C (by omega) hm rfl d_M_pixel_25 ?_
      refine v_bipush C d_M_pixel_28 (by decide +kernel) ?_
      refine v_iload_n C d_M_pixel_30 rfl 2 rfl ?_
      refine v_imulI C d_M_pixel_31 ?_
      refine v_iload_n C d_M_pixel_32 rfl 1 rfl ?_
      refine v_iaddI C d_M_pixel_33 ?_
      refine v_iald C 0 (by omega) hpic rfl (16 * y.toNat + x.toNat) (by omega) (by omega) (by omega) d_M_pixel_34 ?_
      refine v_istore (lv' := [(4, .int (pic (16 * y.toNat + x.toNat))), (0, .ref (ad 73)), (1, .int (iI x)), (2, .int (iI y)), (3, .int pv)]) C d_M_pixel_35 (by decide) rfl ?_
      refine v_aload_n C d_M_pixel_37 rfl 1 rfl ?_
      refine gf_M_16 C (by omega) hm rfl d_M_pixel_38 ?_
      refine v_bipush C d_M_pixel_41 (by decide +kernel) ?_
      refine v_iload_n C d_M_pixel_43 rfl 3 rfl ?_
      refine v_imulI C d_M_pixel_44 ?_
      refine v_iload_n C d_M_pixel_45 rfl 2 rfl ?_
      refine v_iaddI C d_M_pixel_46 ?_
      refine v_iload_n C d_M_pixel_47 rfl 4 rfl ?_
      refine v_iast C 0 (by omega) hpic rfl (16 * y.toNat + x.toNat) (by omega) (by omega) (by omega) d_M_pixel_48 (fun g2 hpic fr3 => ?_)
      have hm := (fr3 73 (by omega)).trans hm
      refine v_iload C d_M_pixel_49 0 rfl ?_
      exact hret _ _ _ _ _ _ _ (Nat.zero_le _) (Nat.zero_le _) d_M_pixel_51 (Or.inr ⟨hin, hm, rfl, rfl, hpic, (fun r1 n0 n1 => ((fr3 r1 n1).trans (fr1 r1 n0)))⟩)
  refine v_aload_n C d_M_pixel_1 rfl 0 rfl ?_
  refine v_iload_n C d_M_pixel_2 rfl 1 rfl ?_
  refine v_iload_n C d_M_pixel_3 rfl 2 rfl ?_
  refine v_callVI (As := [.int (iI x), .int (iI y)]) (st := [.ref (ad 73)]) (by omega) hm rfl rfl C (c_isPixel l th w h kp hb tr sq wm x y x1 x2 y1 y2 hw hh hm) (lk_M_99 C.1.2.2.2.2 rfl rfl ⟨Nat.le_of_ble_eq_true rfl, Nat.le_of_ble_eq_true rfl⟩) rfl rfl (Nat.le_of_ble_eq_true rfl) d_M_pixel_4 ⟨Nat.le_of_ble_eq_true rfl, Nat.le_of_ble_eq_true rfl⟩ (fun w4 ad4 g4 hp4 => ?_)
  obtain ⟨_, rfl, rfl, rfl, rfl⟩ := hp4
  refine v_if_neB C d_M_pixel_7 (fun hb7 => ?_) (fun hb7 => ?_)
  · have hb7 := of_decide_eq_true hb7
    refine v_iconst C d_M_pixel_14 ?_
    exact J15 false ⟨fun q => absurd q (by decide), fun q => absurd q (by omega)⟩
  · have hb7 := of_decide_eq_false hb7
    refine v_iconst C d_M_pixel_10 ?_
    refine v_goto C d_M_pixel_11 ?_
    exact J15 true ⟨fun _ => by omega, fun _ => rfl⟩
set_option maxHeartbeats 1000000 in
set_option maxRecDepth 100000 in
theorem c_Mlook (l : Launch) {B : Nat} {D : va_G} {cI cZ cL cS cW : ClassId} {ad : Nat → Nat} {g : Nat → va_E} (th : Int) (w h : Nat) (kp hb : Bool) (tr sq wm : Int) (z x y : Int) (z1 : -2147483648 ≤ z) (z2 : z < 2147483648) (x1 : -2147483648 ≤ x) (x2 : x < 2147483648) (y1 : -2147483648 ≤ y) (y2 : y < 2147483648) (hw : 1 ≤ w ∧ w ≤ 16) (hh : 1 ≤ h ∧ h ≤ 16) (hm : g 73 = mE ad th w h kp hb tr sq wm) (pic : Nat → Int32) (hpic : g 74 = inA cI 256 pic) (kep : Nat → Int32) (hkep : g 75 = inA cI 256 kep) (reb : Nat → Int32) (hreb : g 76 = inA cI 256 reb) : Met l y_M_look (Cond.code y_M_look b_M_look 6 (some .int) :: wG) (rmF 1 40 0 0) (wPc B D classes (tyL cI cZ cL cS cW) (Zs B) 95 [.ref (ad 73), .int (iI z), .int (iI x), .int (iI y)] ad g) (QI B D classes 95 (fun v ad1 g1 => (¬ (0 ≤ z ∧ z ≤ 2 ∧ (0 ≤ x ∧ x < (w : Int) ∧ 0 ≤ y ∧ y < (h : Int))) ∧ g1 73 = mE ad 1 w h kp hb tr sq wm ∧ ad = ad1 ∧ ∀ r1, r1 ≠ 73 → g1 r1 = g r1) ∨ ((0 ≤ z ∧ z ≤ 2 ∧ (0 ≤ x ∧ x < (w : Int) ∧ 0 ≤ y ∧ y < (h : Int))) ∧ ((z = 1 ∧ kp = false) ∨ (z = 2 ∧ hb = false)) ∧ g1 73 = mE ad 2 w h kp hb tr sq wm ∧ ad = ad1 ∧ ∀ r1, r1 ≠ 73 → g1 r1 = g r1) ∨ ((0 ≤ z ∧ z ≤ 2 ∧ (0 ≤ x ∧ x < (w : Int) ∧ 0 ≤ y ∧ y < (h : Int))) ∧ ¬ ((z = 1 ∧ kp = false) ∨ (z = 2 ∧ hb = false)) ∧ g1 73 = mE ad 0 w h kp hb tr sq wm ∧ ((z = 0 ∧ v = pic (16 * y.toNat + x.toNat)) ∨ (z = 1 ∧ v = kep (16 * y.toNat + x.toNat)) ∨ (z = 2 ∧ v = reb (16 * y.toNat + x.toNat))) ∧ ad = ad1 ∧ ∀ r1, r1 ≠ 73 → g1 r1 = g r1))) 0 0 (aB B) := by
  refine ofI (own := R_M) (by decide) rfl (Nat.le_of_ble_eq_true rfl) ?_
  intro p e s m below meth c Q C hnm hret
  change kV _ _ _ _ _ _ _ _ _ _ _ _ _ _ _ _ _ _ _ _ _ [(0, .ref (ad 73)), (1, .int (iI z)), (2, .int (iI x)), (3, .int (iI y))] _ _
  have J29 : ∀ nb : Bool, (nb = true ↔ ((z = 1 ∧ kp = false) ∨ (z = 2 ∧ hb = false))) → kV p l e (rmF 1 40 0 0) s m ([.ref (ad 73), .int (iI z), .int (iI x), .int (iI y)] : List Value).toArray below meth c Q s.heap B D classes 6 95 0 0 ad g [(0, .ref (ad 73)), (1, .int (iI z)), (2, .int (iI x)), (3, .int (iI y))] [.int (bI nb)] 29 := by
    intro nb hnb
    refine v_istore (lv' := [(4, .int (bI nb)), (0, .ref (ad 73)), (1, .int (iI z)), (2, .int (iI x)), (3, .int (iI y))]) C d_M_look_29 (by decide) rfl ?_
    refine v_aload_n C d_M_look_31 rfl 1 rfl ?_
    have J55 : ∀ a : Bool, (a = true ↔ ¬ (0 ≤ z ∧ z ≤ 2 ∧ (0 ≤ x ∧ x < (w : Int) ∧ 0 ≤ y ∧ y < (h : Int)))) → kV p l e (rmF 1 40 0 0) s m ([.ref (ad 73), .int (iI z), .int (iI x), .int (iI y)] : List Value).toArray below meth c Q s.heap B D classes 6 95 0 0 ad g [(4, .int (bI nb)), (0, .ref (ad 73)), (1, .int (iI z)), (2, .int (iI x)), (3, .int (iI y))] [.int (bI a), .ref (ad 73)] 55 := by
      intro a ha
      refine v_iload C d_M_look_55 0 rfl ?_
      refine v_callVI (As := [.int (bI a), .int (bI nb)]) (st := []) (by omega) hm rfl rfl C (c_throwing l th w h kp hb tr sq wm a nb hm) (lk_M_88 C.1.2.2.2.2 rfl rfl ⟨Nat.le_of_ble_eq_true rfl, Nat.le_of_ble_eq_true rfl⟩) rfl rfl (Nat.le_of_ble_eq_true rfl) d_M_look_57 ⟨Nat.le_of_ble_eq_true rfl, Nat.le_of_ble_eq_true rfl⟩ (fun w1 ad1 g1 hp1 => ?_)
      obtain ⟨vt1, rfl, hc1, rfl, fr1⟩ := hp1
      rcases hc1 with ⟨ta57, rfl, hm⟩ | ⟨ta57, tb57, rfl, hm⟩ | ⟨ta57, tb57, rfl, hm⟩
      · -- way 1
        have hpic := (fr1 74 (by omega)).trans hpic
        have hkep := (fr1 75 (by omega)).trans hkep
        have hreb := (fr1 76 (by omega)).trans hreb
        refine v_if_eqB C d_M_look_60 (fun hz9 => absurd hz9 (by decide)) (fun _ => ?_)
        refine v_iconst C d_M_look_63 ?_
        exact hret _ _ _ _ _ _ _ (Nat.zero_le _) (Nat.zero_le _) d_M_look_64 (Or.inl ⟨ha.mp ta57, hm, rfl, (fun r1 n0 => (fr1 r1 n0))⟩)
      · -- way 2
        have hpic := (fr1 74 (by omega)).trans hpic
        have hkep := (fr1 75 (by omega)).trans hkep
        have hreb := (fr1 76 (by omega)).trans hreb
        refine v_if_eqB C d_M_look_60 (fun hz9 => absurd hz9 (by decide)) (fun _ => ?_)
        refine v_iconst C d_M_look_63 ?_
        exact hret _ _ _ _ _ _ _ (Nat.zero_le _) (Nat.zero_le _) d_M_look_64 (Or.inr (Or.inl ⟨Classical.byContradiction (fun q => absurd (ha.mpr q) (by rw [ta57]; decide)), hnb.mp tb57, hm, rfl, (fun r1 n0 => (fr1 r1 n0))⟩))
      · -- way 3
        have hpic := (fr1 74 (by omega)).trans hpic
        have hkep := (fr1 75 (by omega)).trans hkep
        have hreb := (fr1 76 (by omega)).trans hreb
        refine v_if_eqB C d_M_look_60 (fun _ => ?_) (fun hz9 => absurd hz9 (by decide))
        have hin : (0 ≤ z ∧ z ≤ 2 ∧ (0 ≤ x ∧ x < (w : Int) ∧ 0 ≤ y ∧ y < (h : Int))) := Classical.byContradiction (fun q => absurd (ha.mpr q) (by rw [ta57]; decide))
        have hno : ¬ ((z = 1 ∧ kp = false) ∨ (z = 2 ∧ hb = false)) := fun q => absurd (hnb.mpr q) (by rw [tb57]; decide)
        refine v_bipush C d_M_look_65 (by decide +kernel) ?_
        refine v_iload_n C d_M_look_67 rfl 4 rfl ?_
        refine v_imulI C d_M_look_68 ?_
        refine v_iload_n C d_M_look_69 rfl 3 rfl ?_
        refine v_iaddI C d_M_look_70 ?_
        refine v_istore (lv' := [(5, .int (iI ((16 * y) + x))), (4, .int (bI nb)), (0, .ref (ad 73)), (1, .int (iI z)), (2, .int (iI x)), (3, .int (iI y))]) C d_M_look_71 (by decide) rfl ?_
        refine v_iload_n C d_M_look_73 rfl 3 rfl ?_
        refine v_if_neI C d_M_look_74 (by omega) (by omega) (fun hb74 => ?_) (fun hb74 => ?_)
        · refine v_iload_n C d_M_look_87 rfl 3 rfl ?_
          refine v_iconst C d_M_look_88 ?_
          refine v_icmp_neI C d_M_look_89 (by omega) (by omega) (by omega) (by omega) (fun hb89 => ?_) (fun hb89 => ?_)
          · refine v_aload_n C d_M_look_102 rfl 2 rfl ?_
            refine gf_M_23 C (by omega) hm rfl d_M_look_103 ?_
            refine v_iload C d_M_look_106 0 rfl ?_
            refine v_iald C 0 (by omega) hreb rfl (16 * y.toNat + x.toNat) (by omega) (by omega) (by omega) d_M_look_108 ?_
            exact hret _ _ _ _ _ _ _ (Nat.zero_le _) (Nat.zero_le _) d_M_look_109 (Or.inr (Or.inr ⟨hin, hno, hm, Or.inr (Or.inr ⟨by omega, rfl⟩), rfl, (fun r1 n0 => (fr1 r1 n0))⟩))
          · refine v_aload_n C d_M_look_92 rfl 2 rfl ?_
            refine gf_M_20 C (by omega) hm rfl d_M_look_93 ?_
            refine v_iload C d_M_look_96 0 rfl ?_
            refine v_iald C 0 (by omega) hkep rfl (16 * y.toNat + x.toNat) (by omega) (by omega) (by omega) d_M_look_98 ?_
            refine v_goto C d_M_look_99 ?_
            exact hret _ _ _ _ _ _ _ (Nat.zero_le _) (Nat.zero_le _) d_M_look_109 (Or.inr (Or.inr ⟨hin, hno, hm, Or.inr (Or.inl ⟨by omega, rfl⟩), rfl, (fun r1 n0 => (fr1 r1 n0))⟩))
        · refine v_aload_n C d_M_look_77 rfl 2 rfl ?_
          refine gf_M_16 C (by omega) hm rfl d_M_look_78 ?_
          refine v_iload C d_M_look_81 0 rfl ?_
          refine v_iald C 0 (by omega) hpic rfl (16 * y.toNat + x.toNat) (by omega) (by omega) (by omega) d_M_look_83 ?_
          refine v_goto C d_M_look_84 ?_
          exact hret _ _ _ _ _ _ _ (Nat.zero_le _) (Nat.zero_le _) d_M_look_109 (Or.inr (Or.inr ⟨hin, hno, hm, Or.inl ⟨by omega, rfl⟩, rfl, (fun r1 n0 => (fr1 r1 n0))⟩))
    refine v_iload_n C d_M_look_32 rfl 2 rfl ?_
    refine v_if_ltI C d_M_look_33 (by omega) (by omega) (fun hb33 => ?_) (fun hb33 => ?_)
    · refine v_iconst C d_M_look_50 ?_
      refine v_goto C d_M_look_51 ?_
      exact J55 true ⟨fun _ => by omega, fun _ => rfl⟩
    · refine v_iload_n C d_M_look_36 rfl 2 rfl ?_
      refine v_iconst C d_M_look_37 ?_
      refine v_icmp_gtI C d_M_look_38 (by omega) (by omega) (by omega) (by omega) (fun hb38 => ?_) (fun hb38 => ?_)
      · refine v_iconst C d_M_look_50 ?_
        refine v_goto C d_M_look_51 ?_
        exact J55 true ⟨fun _ => by omega, fun _ => rfl⟩
      · refine v_aload_n C d_M_look_41 rfl 1 rfl ?_
        refine v_iload_n C d_M_look_42 rfl 3 rfl ?_
        refine v_iload_n C d_M_look_43 rfl 4 rfl ?_
        refine v_callVI (As := [.int (iI x), .int (iI y)]) (st := [.ref (ad 73)]) (by omega) hm rfl rfl C (c_isPixel l th w h kp hb tr sq wm x y x1 x2 y1 y2 hw hh hm) (lk_M_99 C.1.2.2.2.2 rfl rfl ⟨Nat.le_of_ble_eq_true rfl, Nat.le_of_ble_eq_true rfl⟩) rfl rfl (Nat.le_of_ble_eq_true rfl) d_M_look_44 ⟨Nat.le_of_ble_eq_true rfl, Nat.le_of_ble_eq_true rfl⟩ (fun w2 ad2 g2 hp2 => ?_)
        obtain ⟨_, rfl, rfl, rfl, rfl⟩ := hp2
        refine v_if_neB C d_M_look_47 (fun hb47 => ?_) (fun hb47 => ?_)
        · have hb47 := of_decide_eq_true hb47
          refine v_iconst C d_M_look_54 ?_
          exact J55 false ⟨fun q => absurd q (by decide), fun q => absurd q (by omega)⟩
        · have hb47 := of_decide_eq_false hb47
          refine v_iconst C d_M_look_50 ?_
          refine v_goto C d_M_look_51 ?_
          exact J55 true ⟨fun _ => by omega, fun _ => rfl⟩
  refine v_iload_n C d_M_look_0 rfl 1 rfl ?_
  refine v_iconst C d_M_look_1 ?_
  refine v_icmp_neI C d_M_look_2 (by omega) (by omega) (by omega) (by omega) (fun hb2 => ?_) (fun hb2 => ?_)
  · refine v_iload_n C d_M_look_12 rfl 1 rfl ?_
    refine v_iconst C d_M_look_13 ?_
    refine v_icmp_neI C d_M_look_14 (by omega) (by omega) (by omega) (by omega) (fun hb14 => ?_) (fun hb14 => ?_)
    · refine v_iconst C d_M_look_28 ?_
      exact J29 false ⟨fun q => absurd q (by decide), fun q => by rcases q with ⟨q1, q2⟩ | ⟨q1, q2⟩ <;> first | (exfalso; omega) | (rw [hb9] at q2; cases q2) | (rw [hb21] at q2; cases q2)⟩
    · refine v_aload_n C d_M_look_17 rfl 0 rfl ?_
      refine gf_M_96 C (by omega) hm rfl d_M_look_18 ?_
      refine v_if_neB C d_M_look_21 (fun hb21 => ?_) (fun hb21 => ?_)
      · refine v_iconst C d_M_look_28 ?_
        exact J29 false ⟨fun q => absurd q (by decide), fun q => by rcases q with ⟨q1, q2⟩ | ⟨q1, q2⟩ <;> first | (exfalso; omega) | (rw [hb9] at q2; cases q2) | (rw [hb21] at q2; cases q2)⟩
      · refine v_iconst C d_M_look_24 ?_
        refine v_goto C d_M_look_25 ?_
        exact J29 true ⟨fun _ => (by first | exact Or.inl ⟨by omega, hb9⟩ | exact Or.inr ⟨by omega, hb21⟩), fun _ => rfl⟩
  · refine v_aload_n C d_M_look_5 rfl 0 rfl ?_
    refine gf_M_92 C (by omega) hm rfl d_M_look_6 ?_
    refine v_if_eqB C d_M_look_9 (fun hb9 => ?_) (fun hb9 => ?_)
    · refine v_iconst C d_M_look_24 ?_
      refine v_goto C d_M_look_25 ?_
      exact J29 true ⟨fun _ => (by first | exact Or.inl ⟨by omega, hb9⟩ | exact Or.inr ⟨by omega, hb21⟩), fun _ => rfl⟩
    · refine v_iload_n C d_M_look_12 rfl 1 rfl ?_
      refine v_iconst C d_M_look_13 ?_
      refine v_icmp_neI C d_M_look_14 (by omega) (by omega) (by omega) (by omega) (fun hb14 => ?_) (fun hb14 => ?_)
      · refine v_iconst C d_M_look_28 ?_
        exact J29 false ⟨fun q => absurd q (by decide), fun q => by rcases q with ⟨q1, q2⟩ | ⟨q1, q2⟩ <;> first | (exfalso; omega) | (rw [hb9] at q2; cases q2) | (rw [hb21] at q2; cases q2)⟩
      · refine v_aload_n C d_M_look_17 rfl 0 rfl ?_
        refine gf_M_96 C (by omega) hm rfl d_M_look_18 ?_
        refine v_if_neB C d_M_look_21 (fun hb21 => ?_) (fun hb21 => ?_)
        · refine v_iconst C d_M_look_28 ?_
          exact J29 false ⟨fun q => absurd q (by decide), fun q => by rcases q with ⟨q1, q2⟩ | ⟨q1, q2⟩ <;> first | (exfalso; omega) | (rw [hb9] at q2; cases q2) | (rw [hb21] at q2; cases q2)⟩
        · refine v_iconst C d_M_look_24 ?_
          refine v_goto C d_M_look_25 ?_
          exact J29 true ⟨fun _ => (by first | exact Or.inl ⟨by omega, hb9⟩ | exact Or.inr ⟨by omega, hb21⟩), fun _ => rfl⟩
set_option maxHeartbeats 1000000 in
set_option maxRecDepth 100000 in
theorem c_Mabout (l : Launch) {B : Nat} {D : va_G} {cI cZ cL cS cW : ClassId} {ad : Nat → Nat} {g : Nat → va_E} (th : Int) (w h : Nat) (kp hb : Bool) (tr sq wm : Int) (z : Int) (z1 : -2147483648 ≤ z) (z2 : z < 2147483648) (hm : g 73 = mE ad th w h kp hb tr sq wm) : Met l y_M_about (Cond.code y_M_about b_M_about 2 (some .int) :: wG) (rmF 1 40 0 0) (wPc B D classes (tyL cI cZ cL cS cW) (Zs B) 95 [.ref (ad 73), .int (iI z)] ad g) (QI B D classes 95 (fun v ad1 g1 => (¬ (z = 0 ∨ z = 1) ∧ g1 73 = mE ad 1 w h kp hb tr sq wm ∧ ad = ad1 ∧ ∀ r1, r1 ≠ 73 → g1 r1 = g r1) ∨ ((z = 0 ∨ z = 1) ∧ g1 73 = mE ad 0 w h kp hb tr sq wm ∧ ((z = 0 ∧ v = iI sq) ∨ (z = 1 ∧ v = iI wm)) ∧ ad = ad1 ∧ ∀ r1, r1 ≠ 73 → g1 r1 = g r1))) 0 0 (aB B) := by
  refine ofI (own := R_M) (by decide) rfl (Nat.le_of_ble_eq_true rfl) ?_
  intro p e s m below meth c Q C hnm hret
  change kV _ _ _ _ _ _ _ _ _ _ _ _ _ _ _ _ _ _ _ _ _ [(0, .ref (ad 73)), (1, .int (iI z))] _ _
  refine v_aload_n C d_M_about_0 rfl 0 rfl ?_
  have J15 : ∀ a : Bool, (a = true ↔ ¬ (z = 0 ∨ z = 1)) → kV p l e (rmF 1 40 0 0) s m ([.ref (ad 73), .int (iI z)] : List Value).toArray below meth c Q s.heap B D classes 2 95 0 0 ad g [(0, .ref (ad 73)), (1, .int (iI z))] [.int (bI a), .ref (ad 73)] 15 := by
    intro a ha
    refine v_iconst C d_M_about_15 ?_
    refine v_callVI (As := [.int (bI a), .int (bI false)]) (st := []) (by omega) hm rfl rfl C (c_throwing l th w h kp hb tr sq wm a false hm) (lk_M_88 C.1.2.2.2.2 rfl rfl ⟨Nat.le_of_ble_eq_true rfl, Nat.le_of_ble_eq_true rfl⟩) rfl rfl (Nat.le_of_ble_eq_true rfl) d_M_about_16 ⟨Nat.le_of_ble_eq_true rfl, Nat.le_of_ble_eq_true rfl⟩ (fun w1 ad1 g1 hp1 => ?_)
    obtain ⟨vt1, rfl, hc1, rfl, fr1⟩ := hp1
    rcases hc1 with ⟨ta16, rfl, hm⟩ | ⟨ta16, tb16, rfl, hm⟩ | ⟨ta16, tb16, rfl, hm⟩
    · -- way 1
      refine v_if_eqB C d_M_about_19 (fun hz9 => absurd hz9 (by decide)) (fun _ => ?_)
      refine v_iconst C d_M_about_22 ?_
      exact hret _ _ _ _ _ _ _ (Nat.zero_le _) (Nat.zero_le _) d_M_about_23 (Or.inl ⟨ha.mp ta16, hm, rfl, (fun r1 n0 => (fr1 r1 n0))⟩)
    · exact absurd tb16 (by decide)
    · -- way 3
      refine v_if_eqB C d_M_about_19 (fun _ => ?_) (fun hz9 => absurd hz9 (by decide))
      have hin : (z = 0 ∨ z = 1) := Classical.byContradiction (fun q => absurd (ha.mpr q) (by rw [ta16]; decide))
      refine v_iload_n C d_M_about_24 rfl 1 rfl ?_
      refine v_if_neI C d_M_about_25 (by omega) (by omega) (fun hb25 => ?_) (fun hb25 => ?_)
      · refine v_aload_n C d_M_about_35 rfl 0 rfl ?_
        refine gf_M_72 C (by omega) hm rfl d_M_about_36 ?_
        exact hret _ _ _ _ _ _ _ (Nat.zero_le _) (Nat.zero_le _) d_M_about_39 (Or.inr ⟨hin, hm, Or.inr ⟨by omega, rfl⟩, rfl, (fun r1 n0 => (fr1 r1 n0))⟩)
      · refine v_aload_n C d_M_about_28 rfl 0 rfl ?_
        refine gf_M_167 C (by omega) hm rfl d_M_about_29 ?_
        refine v_goto C d_M_about_32 ?_
        exact hret _ _ _ _ _ _ _ (Nat.zero_le _) (Nat.zero_le _) d_M_about_39 (Or.inr ⟨hin, hm, Or.inl ⟨by omega, rfl⟩, rfl, (fun r1 n0 => (fr1 r1 n0))⟩)
  refine v_iload_n C d_M_about_1 rfl 1 rfl ?_
  refine v_if_eqI C d_M_about_2 (by omega) (by omega) (fun hb2 => ?_) (fun hb2 => ?_)
  · refine v_iconst C d_M_about_14 ?_
    exact J15 false ⟨fun q => absurd q (by decide), fun q => absurd q (by omega)⟩
  · refine v_iload_n C d_M_about_5 rfl 1 rfl ?_
    refine v_iconst C d_M_about_6 ?_
    refine v_icmp_eqI C d_M_about_7 (by omega) (by omega) (by omega) (by omega) (fun hb7 => ?_) (fun hb7 => ?_)
    · refine v_iconst C d_M_about_14 ?_
      exact J15 false ⟨fun q => absurd q (by decide), fun q => absurd q (by omega)⟩
    · refine v_iconst C d_M_about_10 ?_
      refine v_goto C d_M_about_11 ?_
      exact J15 true ⟨fun _ => by omega, fun _ => rfl⟩
