set_option maxHeartbeats 1000000 in
set_option maxRecDepth 100000 in
theorem c_lowestReadyShelf (l : Launch) {B : Nat} {D : va_G} {cI cZ cL cS cW : ClassId} {ad : Nat → Nat} {g : Nat → va_E} (w h : Nat) (hk hr : Bool) (sp wb : Int) (M : Nat) (hM : M < 256) (nw : Nat → Nat) (un : Nat → Nat → Int32) (h0 : g 0 = xE ad w h hk hr sp wb) (h7 : g 7 = rfA cW 8 (shs ad 13)) (ct0 lo : Nat → Nat) (hws : ∀ j, j < 8 → g (13 + 8 * j) = wsE ((ct0 j : Nat) : Int) ((lo j : Nat) : Int) (ad (13 + 8 * j + 1)) (ad (13 + 8 * j + 2)) (ad (13 + 8 * j + 3))) (hun : ∀ j, j < 8 → g (13 + 8 * j + 1) = inA cI (nw j) (un j)) (huse : ∀ j, j < 8 → Nat.testBit M j = true → nw j = 481 ∧ ct0 j ≤ 481 ∧ lo j ≤ ct0 j) : Met l y_A_lowestReadyShelf (Cond.code y_A_lowestReadyShelf b_A_lowestReadyShelf 3 (some .int) :: wG) (rmF 1 40 0 0) (wPc B D classes (tyL cI cZ cL cS cW) (Zs B) 95 [.ref (ad 0), .int (iI (M : Int))] ad g) (QI B D classes 95 (fun v ad1 g1 => ∃ lo1 : Nat → Nat, (∀ j, j < 8 → lo j ≤ lo1 j ∧ (Nat.testBit M j = true → lo1 j ≤ ct0 j) ∧ ∀ k, lo j ≤ k → k < lo1 j → un j k ≠ iI 1) ∧ ((∃ s0 : Nat, s0 < 8 ∧ Nat.testBit M s0 = true ∧ v = iI (s0 : Int) ∧ lo1 s0 < ct0 s0 ∧ un s0 (lo1 s0) = iI 1 ∧ ∀ j, j < s0 → Nat.testBit M j = true → lo1 j = ct0 j) ∨ (v = iI (-1) ∧ ∀ j, j < 8 → Nat.testBit M j = true → lo1 j = ct0 j)) ∧ ad = ad1 ∧ (∀ j, j < 8 → g1 (13 + 8 * j) = wsE ((ct0 j : Nat) : Int) ((lo1 j : Nat) : Int) (ad (13 + 8 * j + 1)) (ad (13 + 8 * j + 2)) (ad (13 + 8 * j + 3))) ∧ ∀ r1, (∀ j9, j9 < 8 → r1 ≠ 13 + 8 * j9) → g1 r1 = g r1)) 0 0 (aB B) := by
  refine ofI (own := R_A) (by decide) rfl (Nat.le_of_ble_eq_true rfl) ?_
  intro p e s m below meth c Q C hnm hret
  change kV _ _ _ _ _ _ _ _ _ _ _ _ _ _ _ _ _ _ _ _ _ [(0, .ref (ad 0)), (1, .int (iI (M : Int)))] _ _
  refine v_iconst C d_A_lowestReadyShelf_0 ?_
  refine v_istore_n (lv' := [(2, .int (iI 0)), (0, .ref (ad 0)), (1, .int (iI (M : Int)))]) C d_A_lowestReadyShelf_1 rfl (by decide) rfl ?_
  refine v_lv (lv' := [(0, .ref (ad 0)), (1, .int (iI (M : Int))), (2, .int (iI 0))]) [1, 2, 0] rfl ?_
  have L2 : ∀ (d9 : Nat) (j : Nat) (lo9 : Nat → Nat) (G2 : Nat → va_E), 8 - j < d9 → (j ≤ 8) → (∀ i, j ≤ i → lo9 i = lo i) → (∀ i, i < j → lo i ≤ lo9 i ∧ (Nat.testBit M i = true → lo9 i = ct0 i) ∧ ∀ k, lo i ≤ k → k < lo9 i → un i k ≠ iI 1) → (∀ r1, (∀ j9, j9 < 8 → r1 ≠ 13 + 8 * j9) → G2 r1 = g r1) → (∀ j9, j9 < 8 → G2 (13 + 8 * j9) = .inr (2, [.int (iI ((ct0 j9 : Nat) : Int)), .int (iI ((lo9 j9 : Nat) : Int)), .ref (ad (13 + 8 * j9 + 1)), .ref (ad (13 + 8 * j9 + 2)), .ref (ad (13 + 8 * j9 + 3))])) → kV p l e (rmF 1 40 0 0) s m ([.ref (ad 0), .int (iI (M : Int))] : List Value).toArray below meth c Q s.heap B D classes 3 95 0 0 ad G2 [(0, .ref (ad 0)), (1, .int (iI (M : Int))), (2, .int (iI (j : Int)))] [] 2 := by
    intro d9
    induction d9 with
    | zero => intro j lo9 G2 hd9; exact absurd hd9 (Nat.not_lt_zero _)
    | succ d9 ih2 =>
      intro j lo9 G2 hd2 hj hge hlt hfr2 hws
      have h0 := (hfr2 0 (fun j9 hj9 => by omega)).trans h0
      have h7 := (hfr2 7 (fun j9 hj9 => by omega)).trans h7
      have hun := fun j9 (hj9 : j9 < 8) => (hfr2 (13 + 8 * j9 + 1) (fun j8 hj8 => by omega)).trans (hun j9 hj9)
      refine v_iload_n C d_A_lowestReadyShelf_2 rfl 2 rfl ?_
      refine v_bipush C d_A_lowestReadyShelf_3 (by decide +kernel) ?_
      refine v_icmp_geI C d_A_lowestReadyShelf_5 (by omega) (by omega) (by omega) (by omega) (fun hb5 => ?_) (fun hb5 => ?_)
      · refine v_iconst C d_A_lowestReadyShelf_36 ?_
        exact hret _ _ _ _ _ _ _ (by omega) (by omega) d_A_lowestReadyShelf_37 ⟨lo9, fun i hi => ⟨(hlt i (by omega)).1, fun q => Nat.le_of_eq ((hlt i (by omega)).2.1 q), (hlt i (by omega)).2.2⟩, Or.inr ⟨rfl, fun i hi q => (hlt i (by omega)).2.1 q⟩, rfl, hws, (fun r1 n0 => (hfr2 r1 n0))⟩
      · refine v_iload_n C d_A_lowestReadyShelf_8 rfl 1 rfl ?_
        refine v_iload_n C d_A_lowestReadyShelf_9 rfl 2 rfl ?_
        refine v_callSI (As := [.int (iI (M : Int)), .int (iI (j : Int))]) (st := []) C (c_isIn l M j hM (by omega)) (lk_A_177 C.1.2.2.2.2 rfl rfl ⟨Nat.le_of_ble_eq_true rfl, Nat.le_of_ble_eq_true rfl⟩) rfl rfl (Nat.le_of_ble_eq_true rfl) d_A_lowestReadyShelf_10 ⟨Nat.le_of_ble_eq_true rfl, Nat.le_of_ble_eq_true rfl⟩ (fun w1 ad1 g1 hp1 => ?_)
        obtain ⟨bb1, rfl, hbb1, rfl, rfl⟩ := hp1
        refine v_if_eqB C d_A_lowestReadyShelf_13 (fun hb13 => ?_) (fun hb13 => ?_)
        · refine v_iinc (lv' := [(2, .int (iI ((j : Int) + 1))), (0, .ref (ad 0)), (1, .int (iI (M : Int)))]) C d_A_lowestReadyShelf_30 2 rfl (by decide) rfl ?_
          refine v_goto C d_A_lowestReadyShelf_33 ?_
          refine v_lv (lv' := [(0, .ref (ad 0)), (1, .int (iI (M : Int))), (2, .int (iI ((j : Int) + 1)))]) [1, 2, 0] rfl ?_
          exact ih2 (j + 1) lo9 _ (by omega) (by omega) (fun i hi => hge i (by omega)) (fun i hi => by by_cases hij : i = j; (subst hij; rw [hge i (Nat.le_refl _)]; exact ⟨Nat.le_refl _, fun q => absurd q (by rw [← hbb1, hb13]; decide), fun k a b => absurd b (by omega)⟩); exact hlt i (by omega)) (fun r1 n0 => (hfr2 r1 n0)) hws
        · refine v_aload_n C d_A_lowestReadyShelf_16 rfl 0 rfl ?_
          refine gf_A_53 C (by omega) h0 rfl d_A_lowestReadyShelf_17 ?_
          refine v_iload_n C d_A_lowestReadyShelf_20 rfl 2 rfl ?_
          refine v_aald C 4 (by omega) h7 rfl (j : Nat) (by omega) (by omega) (by omega) (rfl) d_A_lowestReadyShelf_21 ?_
          have hq2 := hws (j : Nat) (by omega)
          have hq3 := hun (j : Nat) (by omega)
          obtain ⟨e1, e2, e3⟩ := huse j (by omega) (hbb1.symm.trans hb13)
          have hlo9 : lo9 j = lo j := hge j (Nat.le_refl _)
          rw [e1] at hq3
          refine v_callVI (As := []) (st := []) (by omega) hq2 rfl rfl C (c_findReadyBin l (13 + 8 * (j : Nat)) (ct0 j) (lo9 j) (un j) (by omega) e2 (by omega) hq2 hq3) (lk_A_233 C.1.2.2.2.2 rfl rfl ⟨Nat.le_of_ble_eq_true rfl, Nat.le_of_ble_eq_true rfl⟩) rfl rfl (Nat.le_of_ble_eq_true rfl) d_A_lowestReadyShelf_22 ⟨Nat.le_of_ble_eq_true rfl, Nat.le_of_ble_eq_true rfl⟩ (fun w4 ad4 g4 hp4 => ?_)
          obtain ⟨bf9, rfl, k1, hk1, hk2, hk3, hk4, rfl, hw9, fr4⟩ := hp4
          have hws2 := fam_up (k := 0) (F := fun j9 (q : Nat) => wsE ((ct0 j9 : Nat) : Int) ((q : Nat) : Int) (ad (13 + 8 * j9 + 1)) (ad (13 + 8 * j9 + 2)) (ad (13 + 8 * j9 + 3))) (X := lo9) hws hw9 (fun j9 h8 hne => fr4 (13 + 8 * j9) (by omega))
          have h0 := (fr4 0 (by omega)).trans h0
          have h7 := (fr4 7 (by omega)).trans h7
          have hq3 := (fr4 (13 + 8 * (j : Nat) + 1) (by omega)).trans hq3
          have hun := fun j9 (hj9 : j9 < 8) => (fr4 (13 + 8 * j9 + 1) (by omega)).trans (hun j9 hj9)
          refine v_if_eqB C d_A_lowestReadyShelf_25 (fun hb25 => ?_) (fun hb25 => ?_)
          · refine v_iinc (lv' := [(2, .int (iI ((j : Int) + 1))), (0, .ref (ad 0)), (1, .int (iI (M : Int)))]) C d_A_lowestReadyShelf_30 2 rfl (by decide) rfl ?_
            refine v_goto C d_A_lowestReadyShelf_33 ?_
            refine v_lv (lv' := [(0, .ref (ad 0)), (1, .int (iI (M : Int))), (2, .int (iI ((j : Int) + 1)))]) [1, 2, 0] rfl ?_
            exact ih2 (j + 1) (va_up lo9 j k1) _ (by omega) (by omega) (fun i hi => by rw [va_up_ne _ _ (by omega)]; exact hge i (by omega)) (fun i hi => by by_cases hij : i = j; (subst hij; rw [va_up_self]; exact ⟨by omega, fun _ => (hk4.resolve_left (fun q => absurd q.2.2 (by rw [hb25]; decide))).1, fun k a b => hk3 k (by omega) b⟩); rw [va_up_ne _ _ hij]; exact hlt i (by omega)) (fun r1 n0 => ((fr4 r1 (n0 (j : Nat) (by omega))).trans (hfr2 r1 n0))) hws2
          · refine v_iload_n C d_A_lowestReadyShelf_28 rfl 2 rfl ?_
            have hk5 := hk4.resolve_right (fun q => absurd q.2 (by rw [hb25]; decide))
            refine hret _ _ _ _ _ _ _ (by omega) (by omega) d_A_lowestReadyShelf_29 ⟨va_up lo9 j k1, fun i hi => ?_, Or.inl ⟨j, by omega, hbb1.symm.trans hb13, rfl, by rw [va_up_self]; exact hk5.1, by rw [va_up_self]; exact hk5.2.1, fun i hi q => by rw [va_up_ne _ _ (by omega)]; exact (hlt i hi).2.1 q⟩, rfl, hws2, (fun r1 n0 => ((fr4 r1 (n0 (j : Nat) (by omega))).trans (hfr2 r1 n0)))⟩
            by_cases hij : i = j
            · subst hij; rw [va_up_self]; exact ⟨by omega, fun _ => by omega, fun k a b => hk3 k (by omega) b⟩
            rw [va_up_ne _ _ hij]
            by_cases hlj : i < j
            · exact ⟨(hlt i hlj).1, fun q => Nat.le_of_eq ((hlt i hlj).2.1 q), (hlt i hlj).2.2⟩
            rw [hge i (by omega)]
            exact ⟨Nat.le_refl _, fun q => (huse i hi q).2.2, fun k a b => absurd b (by omega)⟩
  exact L2 _ 0 lo _ (Nat.lt_succ_self _) (by omega) (fun i hi => rfl) (fun i hi => absurd hi (by omega)) (fun r1 _ => rfl) hws
set_option maxHeartbeats 1000000 in
set_option maxRecDepth 100000 in
theorem c_lowestWrongShelf (l : Launch) {B : Nat} {D : va_G} {cI cZ cL cS cW : ClassId} {ad : Nat → Nat} {g : Nat → va_E} (w h : Nat) (hk hr : Bool) (sp wb : Int) (M : Nat) (hM : M < 256) (nw : Nat → Nat) (re : Nat → Nat → Int32) (h0 : g 0 = xE ad w h hk hr sp wb) (h7 : g 7 = rfA cW 8 (shs ad 13)) (ct0 lo : Nat → Nat) (hws : ∀ j, j < 8 → g (13 + 8 * j) = wsE ((ct0 j : Nat) : Int) ((lo j : Nat) : Int) (ad (13 + 8 * j + 1)) (ad (13 + 8 * j + 2)) (ad (13 + 8 * j + 3))) (hre : ∀ j, j < 8 → g (13 + 8 * j + 3) = inA cI (nw j) (re j)) (huse : ∀ j, j < 8 → Nat.testBit M j = true → nw j = 481 ∧ ct0 j ≤ 481) : Met l y_A_lowestWrongShelf (Cond.code y_A_lowestWrongShelf b_A_lowestWrongShelf 3 (some .int) :: wG) (rmF 1 40 0 0) (wPc B D classes (tyL cI cZ cL cS cW) (Zs B) 95 [.ref (ad 0), .int (iI (M : Int))] ad g) (QI B D classes 95 (fun v ad1 g1 => ((∃ s0 : Nat, s0 < 8 ∧ Nat.testBit M s0 = true ∧ v = iI (s0 : Int) ∧ (∃ k, k < ct0 s0 ∧ re s0 k ≠ 0) ∧ ∀ j, j < s0 → Nat.testBit M j = true → ∀ k, k < ct0 j → re j k = 0) ∨ (v = iI (-1) ∧ ∀ j, j < 8 → Nat.testBit M j = true → ∀ k, k < ct0 j → re j k = 0)) ∧ ad = ad1 ∧ g = g1)) 0 0 (aB B) := by
  refine ofI (own := R_A) (by decide) rfl (Nat.le_of_ble_eq_true rfl) ?_
  intro p e s m below meth c Q C hnm hret
  change kV _ _ _ _ _ _ _ _ _ _ _ _ _ _ _ _ _ _ _ _ _ [(0, .ref (ad 0)), (1, .int (iI (M : Int)))] _ _
  refine v_iconst C d_A_lowestWrongShelf_0 ?_
  refine v_istore_n (lv' := [(2, .int (iI 0)), (0, .ref (ad 0)), (1, .int (iI (M : Int)))]) C d_A_lowestWrongShelf_1 rfl (by decide) rfl ?_
  refine v_lv (lv' := [(0, .ref (ad 0)), (1, .int (iI (M : Int))), (2, .int (iI 0))]) [1, 2, 0] rfl ?_
  have L2 : ∀ (d9 : Nat) (j : Nat), 8 - j < d9 → (j ≤ 8) → (∀ i, i < j → Nat.testBit M i = true → ∀ k, k < ct0 i → re i k = 0) → kV p l e (rmF 1 40 0 0) s m ([.ref (ad 0), .int (iI (M : Int))] : List Value).toArray below meth c Q s.heap B D classes 3 95 0 0 ad g [(0, .ref (ad 0)), (1, .int (iI (M : Int))), (2, .int (iI (j : Int)))] [] 2 := by
    intro d9
    induction d9 with
    | zero => intro j hd9; exact absurd hd9 (Nat.not_lt_zero _)
    | succ d9 ih2 =>
      intro j hd2 hj hz
      refine v_iload_n C d_A_lowestWrongShelf_2 rfl 2 rfl ?_
      refine v_bipush C d_A_lowestWrongShelf_3 (by decide +kernel) ?_
      refine v_icmp_geI C d_A_lowestWrongShelf_5 (by omega) (by omega) (by omega) (by omega) (fun hb5 => ?_) (fun hb5 => ?_)
      · refine v_iconst C d_A_lowestWrongShelf_37 ?_
        exact hret _ _ _ _ _ _ _ (by omega) (by omega) d_A_lowestWrongShelf_38 ⟨Or.inr ⟨rfl, fun i hi q => hz i (by omega) q⟩, rfl, rfl⟩
      · refine v_iload_n C d_A_lowestWrongShelf_8 rfl 1 rfl ?_
        refine v_iload_n C d_A_lowestWrongShelf_9 rfl 2 rfl ?_
        refine v_callSI (As := [.int (iI (M : Int)), .int (iI (j : Int))]) (st := []) C (c_isIn l M j hM (by omega)) (lk_A_177 C.1.2.2.2.2 rfl rfl ⟨Nat.le_of_ble_eq_true rfl, Nat.le_of_ble_eq_true rfl⟩) rfl rfl (Nat.le_of_ble_eq_true rfl) d_A_lowestWrongShelf_10 ⟨Nat.le_of_ble_eq_true rfl, Nat.le_of_ble_eq_true rfl⟩ (fun w1 ad1 g1 hp1 => ?_)
        obtain ⟨bb1, rfl, hbb1, rfl, rfl⟩ := hp1
        refine v_if_eqB C d_A_lowestWrongShelf_13 (fun hb13 => ?_) (fun hb13 => ?_)
        · refine v_iinc (lv' := [(2, .int (iI ((j : Int) + 1))), (0, .ref (ad 0)), (1, .int (iI (M : Int)))]) C d_A_lowestWrongShelf_31 2 rfl (by decide) rfl ?_
          refine v_goto C d_A_lowestWrongShelf_34 ?_
          refine v_lv (lv' := [(0, .ref (ad 0)), (1, .int (iI (M : Int))), (2, .int (iI ((j : Int) + 1)))]) [1, 2, 0] rfl ?_
          exact ih2 (j + 1) (by omega) (by omega) (fun i hi q => by by_cases hij : i = j; (subst hij; first | exact hk7 | exact absurd hb26 (by omega) | exact absurd q (by rw [← hbb1, hb13]; decide)); exact hz i (by omega) q)
        · refine v_aload_n C d_A_lowestWrongShelf_16 rfl 0 rfl ?_
          refine gf_A_53 C (by omega) h0 rfl d_A_lowestWrongShelf_17 ?_
          refine v_iload_n C d_A_lowestWrongShelf_20 rfl 2 rfl ?_
          refine v_aald C 4 (by omega) h7 rfl (j : Nat) (by omega) (by omega) (by omega) (rfl) d_A_lowestWrongShelf_21 ?_
          have hq2 := hws (j : Nat) (by omega)
          have hq3 := hre (j : Nat) (by omega)
          obtain ⟨e1, e2⟩ := huse j (by omega) (hbb1.symm.trans hb13)
          rw [e1] at hq3
          refine v_callVI (As := []) (st := []) (by omega) hq2 rfl rfl C (c_lowestWrongBin l (13 + 8 * (j : Nat)) (ct0 j) ((lo j : Nat) : Int) (re j) (by omega) e2 hq2 hq3) (lk_A_169 C.1.2.2.2.2 rfl rfl ⟨Nat.le_of_ble_eq_true rfl, Nat.le_of_ble_eq_true rfl⟩) rfl rfl (Nat.le_of_ble_eq_true rfl) d_A_lowestWrongShelf_22 ⟨Nat.le_of_ble_eq_true rfl, Nat.le_of_ble_eq_true rfl⟩ (fun w4 ad4 g4 hp4 => ?_)
          obtain ⟨⟨k9, hk9, rfl, hk8, hk7⟩ | ⟨rfl, hk7⟩, rfl, rfl⟩ := hp4
          · refine v_iconst C d_A_lowestWrongShelf_25 ?_
            refine v_icmp_eqI C d_A_lowestWrongShelf_26 (by omega) (by omega) (by omega) (by omega) (fun hb26 => ?_) (fun hb26 => ?_)
            · refine v_iinc (lv' := [(2, .int (iI ((j : Int) + 1))), (0, .ref (ad 0)), (1, .int (iI (M : Int)))]) C d_A_lowestWrongShelf_31 2 rfl (by decide) rfl ?_
              refine v_goto C d_A_lowestWrongShelf_34 ?_
              refine v_lv (lv' := [(0, .ref (ad 0)), (1, .int (iI (M : Int))), (2, .int (iI ((j : Int) + 1)))]) [1, 2, 0] rfl ?_
              exact ih2 (j + 1) (by omega) (by omega) (fun i hi q => by by_cases hij : i = j; (subst hij; first | exact hk7 | exact absurd hb26 (by omega) | exact absurd q (by rw [← hbb1, hb13]; decide)); exact hz i (by omega) q)
            · refine v_iload_n C d_A_lowestWrongShelf_29 rfl 2 rfl ?_
              first | exact hret _ _ _ _ _ _ _ (by omega) (by omega) d_A_lowestWrongShelf_30 ⟨Or.inl ⟨j, by omega, hbb1.symm.trans hb13, rfl, ⟨k9, hk9, hk8⟩, hz⟩, rfl, rfl⟩ | exact absurd hb26 (by omega)
          · refine v_iconst C d_A_lowestWrongShelf_25 ?_
            refine v_icmp_eqI C d_A_lowestWrongShelf_26 (by omega) (by omega) (by omega) (by omega) (fun hb26 => ?_) (fun hb26 => ?_)
            · refine v_iinc (lv' := [(2, .int (iI ((j : Int) + 1))), (0, .ref (ad 0)), (1, .int (iI (M : Int)))]) C d_A_lowestWrongShelf_31 2 rfl (by decide) rfl ?_
              refine v_goto C d_A_lowestWrongShelf_34 ?_
              refine v_lv (lv' := [(0, .ref (ad 0)), (1, .int (iI (M : Int))), (2, .int (iI ((j : Int) + 1)))]) [1, 2, 0] rfl ?_
              exact ih2 (j + 1) (by omega) (by omega) (fun i hi q => by by_cases hij : i = j; (subst hij; first | exact hk7 | exact absurd hb26 (by omega) | exact absurd q (by rw [← hbb1, hb13]; decide)); exact hz i (by omega) q)
            · refine v_iload_n C d_A_lowestWrongShelf_29 rfl 2 rfl ?_
              first | exact hret _ _ _ _ _ _ _ (by omega) (by omega) d_A_lowestWrongShelf_30 ⟨Or.inl ⟨j, by omega, hbb1.symm.trans hb13, rfl, ⟨k9, hk9, hk8⟩, hz⟩, rfl, rfl⟩ | exact absurd hb26 (by omega)
  exact L2 _ 0 (Nat.lt_succ_self _) (by omega) (fun i hi => absurd hi (by omega))
set_option maxHeartbeats 1000000 in
set_option maxRecDepth 100000 in
theorem c_makeKnown (l : Launch) {B : Nat} {D : va_G} {cI cZ cL cS cW : ClassId} {ad : Nat → Nat} {g : Nat → va_E} (w h : Nat) (hk hr : Bool) (sp wb : Int) (M c0 : Nat) (hM : M < 256) (hc0 : c0 < 256) (pv : Int32) (nw b : Nat → Nat) (dr : Nat → Int32) (un uc re : Nat → Nat → Int32) (h0 : g 0 = xE ad w h hk hr sp wb) (h2 : g 2 = rfA cS 8 (shs ad 9)) (T : Nat → ShT) (hT : bdT T) (hsh : ∀ j, j < 8 → g (9 + 8 * j) = shE (ad (9 + 8 * j + 1)) (T j)) (h7 : g 7 = rfA cW 8 (shs ad 13)) (h6 : g 6 = inA cI 256 dr) (ct0 lo : Nat → Nat) (hws : ∀ j, j < 8 → g (13 + 8 * j) = wsE ((ct0 j : Nat) : Int) ((lo j : Nat) : Int) (ad (13 + 8 * j + 1)) (ad (13 + 8 * j + 2)) (ad (13 + 8 * j + 3))) (hun : ∀ j, j < 8 → g (13 + 8 * j + 1) = inA cI (nw j) (un j)) (huc : ∀ j, j < 8 → g (13 + 8 * j + 2) = inA cI (nw j) (uc j)) (hre : ∀ j, j < 8 → g (13 + 8 * j + 3) = inA cI (nw j) (re j)) (huse : ∀ j, j < 8 → Nat.testBit M j = true → nw j = 481 ∧ lo j ≤ 481 ∧ (T j).2.2.1 * ((c0 / 16 : Nat) : Int) - (T j).2.2.2.1 * ((c0 % 16 : Nat) : Int) - (T j).2.2.2.2.1 = (b j : Int) ∧ b j < 481) : Met l y_A_makeKnown (Cond.code y_A_makeKnown b_A_makeKnown 7 none :: wG) (rmF 1 40 0 0) (wPc B D classes (tyL cI cZ cL cS cW) (Zs B) 95 [.ref (ad 0), .int (iI (M : Int)), .int (iI (c0 : Int)), .int pv] ad g) (QV B D classes 95 (fun ad1 g1 => ∃ (un1 uc1 re1 : Nat → Nat → Int32) (lo1 : Nat → Nat), (∀ j, j < 8 → (Nat.testBit M j = true → un1 j = upd (un j) (b j) (un j (b j) - iI 1) ∧ uc1 j = upd (uc j) (b j) (uc j (b j) - iI (c0 : Int)) ∧ re1 j = upd (re j) (b j) (re j (b j) - pv) ∧ ((un j (b j) - iI 1 = iI 1 ∧ b j < lo j ∧ lo1 j = b j) ∨ (¬ (un j (b j) - iI 1 = iI 1 ∧ b j < lo j) ∧ lo1 j = lo j))) ∧ (¬ Nat.testBit M j = true → un1 j = un j ∧ uc1 j = uc j ∧ re1 j = re j ∧ lo1 j = lo j)) ∧ ad = ad1 ∧ g1 6 = inA cI 256 (upd dr c0 pv) ∧ (∀ j, j < 8 → g1 (13 + 8 * j) = wsE ((ct0 j : Nat) : Int) ((lo1 j : Nat) : Int) (ad (13 + 8 * j + 1)) (ad (13 + 8 * j + 2)) (ad (13 + 8 * j + 3))) ∧ (∀ j, j < 8 → g1 (13 + 8 * j + 1) = inA cI (nw j) (un1 j)) ∧ (∀ j, j < 8 → g1 (13 + 8 * j + 2) = inA cI (nw j) (uc1 j)) ∧ (∀ j, j < 8 → g1 (13 + 8 * j + 3) = inA cI (nw j) (re1 j)) ∧ ∀ r1, r1 ≠ 6 → (∀ j9, j9 < 8 → r1 ≠ 13 + 8 * j9) → (∀ j9, j9 < 8 → r1 ≠ 13 + 8 * j9 + 1) → (∀ j9, j9 < 8 → r1 ≠ 13 + 8 * j9 + 2) → (∀ j9, j9 < 8 → r1 ≠ 13 + 8 * j9 + 3) → g1 r1 = g r1)) 0 0 (aB B) := by
  refine ofV (own := R_A) (by decide) rfl (Nat.le_of_ble_eq_true rfl) ?_
  intro p e s m below meth c Q C hnm hret
  change kV _ _ _ _ _ _ _ _ _ _ _ _ _ _ _ _ _ _ _ _ _ [(0, .ref (ad 0)), (1, .int (iI (M : Int))), (2, .int (iI (c0 : Int))), (3, .int pv)] _ _
  refine v_aload_n C d_A_makeKnown_0 rfl 0 rfl ?_
  refine gf_A_48 C (by omega) h0 rfl d_A_makeKnown_1 ?_
  refine v_iload_n C d_A_makeKnown_4 rfl 2 rfl ?_
  refine v_iload_n C d_A_makeKnown_5 rfl 3 rfl ?_
  refine v_iast C 0 (by omega) h6 rfl (c0 : Nat) (by omega) (by omega) (by omega) d_A_makeKnown_6 (fun g1 h6 fr2 => ?_)
  have h0 := (fr2 0 (by omega)).trans h0
  have h2 := (fr2 2 (by omega)).trans h2
  have h7 := (fr2 7 (by omega)).trans h7
  have hsh := fun j9 (hj9 : j9 < 8) => (fr2 (9 + 8 * j9) (by omega)).trans (hsh j9 hj9)
  have hws := fun j9 (hj9 : j9 < 8) => (fr2 (13 + 8 * j9) (by omega)).trans (hws j9 hj9)
  have hun := fun j9 (hj9 : j9 < 8) => (fr2 (13 + 8 * j9 + 1) (by omega)).trans (hun j9 hj9)
  have huc := fun j9 (hj9 : j9 < 8) => (fr2 (13 + 8 * j9 + 2) (by omega)).trans (huc j9 hj9)
  have hre := fun j9 (hj9 : j9 < 8) => (fr2 (13 + 8 * j9 + 3) (by omega)).trans (hre j9 hj9)
  refine v_iload_n C d_A_makeKnown_7 rfl 2 rfl ?_
  refine v_bipush C d_A_makeKnown_8 (by decide +kernel) ?_
  refine v_irem C d_A_makeKnown_10 ne16 ?_
  rw [rem16 c0 (by omega)]
  refine v_istore (lv' := [(4, .int (iI ((c0 % 16 : Nat) : Int))), (0, .ref (ad 0)), (1, .int (iI (M : Int))), (2, .int (iI (c0 : Int))), (3, .int pv)]) C d_A_makeKnown_11 (by decide) rfl ?_
  refine v_iload_n C d_A_makeKnown_13 rfl 3 rfl ?_
  refine v_bipush C d_A_makeKnown_14 (by decide +kernel) ?_
  refine v_idiv C d_A_makeKnown_16 ne16 ?_
  rw [div16 c0 (by omega)]
  refine v_istore (lv' := [(5, .int (iI ((c0 / 16 : Nat) : Int))), (4, .int (iI ((c0 % 16 : Nat) : Int))), (0, .ref (ad 0)), (1, .int (iI (M : Int))), (2, .int (iI (c0 : Int))), (3, .int pv)]) C d_A_makeKnown_17 (by decide) rfl ?_
  refine v_iconst C d_A_makeKnown_19 ?_
  refine v_istore (lv' := [(6, .int (iI 0)), (5, .int (iI ((c0 / 16 : Nat) : Int))), (4, .int (iI ((c0 % 16 : Nat) : Int))), (0, .ref (ad 0)), (1, .int (iI (M : Int))), (2, .int (iI (c0 : Int))), (3, .int pv)]) C d_A_makeKnown_20 (by decide) rfl ?_
  refine v_lv (lv' := [(0, .ref (ad 0)), (1, .int (iI (M : Int))), (2, .int (iI (c0 : Int))), (3, .int pv), (4, .int (iI ((c0 % 16 : Nat) : Int))), (5, .int (iI ((c0 / 16 : Nat) : Int))), (6, .int (iI 0))]) [3, 4, 5, 6, 2, 1, 0] rfl ?_
  have L22 : ∀ (d9 : Nat) (j : Nat) (un9 : Nat → Nat → Int32) (uc9 : Nat → Nat → Int32) (re9 : Nat → Nat → Int32) (lo9 : Nat → Nat) (G22 : Nat → va_E), 8 - j < d9 → (j ≤ 8) → (∀ i, (i < j ∧ Nat.testBit M i = true → un9 i = upd (un i) (b i) (un i (b i) - iI 1) ∧ uc9 i = upd (uc i) (b i) (uc i (b i) - iI (c0 : Int)) ∧ re9 i = upd (re i) (b i) (re i (b i) - pv) ∧ ((un i (b i) - iI 1 = iI 1 ∧ b i < lo i ∧ lo9 i = b i) ∨ (¬ (un i (b i) - iI 1 = iI 1 ∧ b i < lo i) ∧ lo9 i = lo i))) ∧ (¬ (i < j ∧ Nat.testBit M i = true) → un9 i = un i ∧ uc9 i = uc i ∧ re9 i = re i ∧ lo9 i = lo i)) → (∀ r1, (∀ j9, j9 < 8 → r1 ≠ 13 + 8 * j9) → (∀ j9, j9 < 8 → r1 ≠ 13 + 8 * j9 + 1) → (∀ j9, j9 < 8 → r1 ≠ 13 + 8 * j9 + 2) → (∀ j9, j9 < 8 → r1 ≠ 13 + 8 * j9 + 3) → G22 r1 = g1 r1) → (∀ j9, j9 < 8 → G22 (13 + 8 * j9) = .inr (2, [.int (iI ((ct0 j9 : Nat) : Int)), .int (iI ((lo9 j9 : Nat) : Int)), .ref (ad (13 + 8 * j9 + 1)), .ref (ad (13 + 8 * j9 + 2)), .ref (ad (13 + 8 * j9 + 3))])) → (∀ j9, j9 < 8 → G22 (13 + 8 * j9 + 1) = inA cI (nw j9) (un9 j9)) → (∀ j9, j9 < 8 → G22 (13 + 8 * j9 + 2) = inA cI (nw j9) (uc9 j9)) → (∀ j9, j9 < 8 → G22 (13 + 8 * j9 + 3) = inA cI (nw j9) (re9 j9)) → kV p l e (rmF 1 40 0 0) s m ([.ref (ad 0), .int (iI (M : Int)), .int (iI (c0 : Int)), .int pv] : List Value).toArray below meth c Q s.heap B D classes 7 95 0 0 ad G22 [(0, .ref (ad 0)), (1, .int (iI (M : Int))), (2, .int (iI (c0 : Int))), (3, .int pv), (4, .int (iI ((c0 % 16 : Nat) : Int))), (5, .int (iI ((c0 / 16 : Nat) : Int))), (6, .int (iI (j : Int)))] [] 22 := by
    intro d9
    induction d9 with
    | zero => intro j un9 uc9 re9 lo9 G22 hd9; exact absurd hd9 (Nat.not_lt_zero _)
    | succ d9 ih22 =>
      intro j un9 uc9 re9 lo9 G22 hd22 hj hs9 hfr22 hws hun huc hre
      have h0 := (hfr22 0 (fun j9 hj9 => by omega) (fun j9 hj9 => by omega) (fun j9 hj9 => by omega) (fun j9 hj9 => by omega)).trans h0
      have h2 := (hfr22 2 (fun j9 hj9 => by omega) (fun j9 hj9 => by omega) (fun j9 hj9 => by omega) (fun j9 hj9 => by omega)).trans h2
      have h7 := (hfr22 7 (fun j9 hj9 => by omega) (fun j9 hj9 => by omega) (fun j9 hj9 => by omega) (fun j9 hj9 => by omega)).trans h7
      have h6 := (hfr22 6 (fun j9 hj9 => by omega) (fun j9 hj9 => by omega) (fun j9 hj9 => by omega) (fun j9 hj9 => by omega)).trans h6
      have hsh := fun j9 (hj9 : j9 < 8) => (hfr22 (9 + 8 * j9) (fun j8 hj8 => by omega) (fun j8 hj8 => by omega) (fun j8 hj8 => by omega) (fun j8 hj8 => by omega)).trans (hsh j9 hj9)
      refine v_iload C d_A_makeKnown_22 6 rfl ?_
      refine v_bipush C d_A_makeKnown_24 (by decide +kernel) ?_
      refine v_icmp_geI C d_A_makeKnown_26 (by omega) (by omega) (by omega) (by omega) (fun hb26 => ?_) (fun hb26 => ?_)
      · exact hret _ _ _ _ _ _ (by omega) (by omega) d_A_makeKnown_70 ⟨un9, uc9, re9, lo9, fun i hi => ⟨fun q => (hs9 i).1 ⟨by omega, q⟩, fun q => (hs9 i).2 (fun q2 => q q2.2)⟩, rfl, h6, hws, hun, huc, hre, (fun r1 n0 n1 n2 n3 n4 => ((hfr22 r1 n1 n2 n3 n4).trans (fr2 r1 n0)))⟩
      · refine v_iload_n C d_A_makeKnown_29 rfl 1 rfl ?_
        refine v_iload C d_A_makeKnown_30 6 rfl ?_
        refine v_callSI (As := [.int (iI (M : Int)), .int (iI (j : Int))]) (st := []) C (c_isIn l M j hM (by omega)) (lk_A_177 C.1.2.2.2.2 rfl rfl ⟨Nat.le_of_ble_eq_true rfl, Nat.le_of_ble_eq_true rfl⟩) rfl rfl (Nat.le_of_ble_eq_true rfl) d_A_makeKnown_32 ⟨Nat.le_of_ble_eq_true rfl, Nat.le_of_ble_eq_true rfl⟩ (fun w3 ad3 g3 hp3 => ?_)
        obtain ⟨bb3, rfl, hbb3, rfl, rfl⟩ := hp3
        refine v_if_eqB C d_A_makeKnown_35 (fun hb35 => ?_) (fun hb35 => ?_)
        · refine v_iinc (lv' := [(6, .int (iI ((j : Int) + 1))), (0, .ref (ad 0)), (1, .int (iI (M : Int))), (2, .int (iI (c0 : Int))), (3, .int pv), (4, .int (iI ((c0 % 16 : Nat) : Int))), (5, .int (iI ((c0 / 16 : Nat) : Int)))]) C d_A_makeKnown_64 6 rfl (by decide) rfl ?_
          refine v_goto C d_A_makeKnown_67 ?_
          refine v_lv (lv' := [(0, .ref (ad 0)), (1, .int (iI (M : Int))), (2, .int (iI (c0 : Int))), (3, .int pv), (4, .int (iI ((c0 % 16 : Nat) : Int))), (5, .int (iI ((c0 / 16 : Nat) : Int))), (6, .int (iI ((j : Int) + 1)))]) [1, 2, 3, 4, 5, 6, 0] rfl ?_
          have hnj : ∀ i, Nat.testBit M i = true → i ≠ j := fun i q e9 => by subst e9; exact absurd q (by rw [← hbb3, hb35]; decide)
          exact ih22 (j + 1) un9 uc9 re9 lo9 _ (by omega) (by omega) (fun i => ⟨fun q => (hs9 i).1 ⟨by have := hnj i q.2; omega, q.2⟩, fun q => (hs9 i).2 (fun q2 => q ⟨by omega, q2.2⟩)⟩) (fun r1 n0 n1 n2 n3 => (hfr22 r1 n0 n1 n2 n3)) hws hun huc hre
        · refine v_aload_n C d_A_makeKnown_38 rfl 0 rfl ?_
          refine gf_A_53 C (by omega) h0 rfl d_A_makeKnown_39 ?_
          refine v_iload C d_A_makeKnown_42 6 rfl ?_
          refine v_aald C 4 (by omega) h7 rfl (j : Nat) (by omega) (by omega) (by omega) (rfl) d_A_makeKnown_44 ?_
          refine v_aload_n C d_A_makeKnown_45 rfl 0 rfl ?_
          refine gf_A_22 C (by omega) h0 rfl d_A_makeKnown_46 ?_
          refine v_iload C d_A_makeKnown_49 6 rfl ?_
          refine v_aald C 3 (by omega) h2 rfl (j : Nat) (by omega) (by omega) (by omega) (rfl) d_A_makeKnown_51 ?_
          refine v_iload C d_A_makeKnown_52 4 rfl ?_
          refine v_iload C d_A_makeKnown_54 5 rfl ?_
          have hq4 := hsh (j : Nat) (by omega)
          obtain ⟨e1, e2, e3, e4⟩ := huse j (by omega) (hbb3.symm.trans hb35)
          refine v_callVI (As := [.int (iI ((c0 % 16 : Nat) : Int)), .int (iI ((c0 / 16 : Nat) : Int))]) (st := [.ref (ad (13 + 8 * (j : Nat)))]) (by omega) hq4 rfl rfl C (c_binAt l (9 + 8 * (j : Nat)) (T j) ((c0 % 16 : Nat) : Int) ((c0 / 16 : Nat) : Int) (by omega) hq4) (lk_A_237 C.1.2.2.2.2 rfl rfl ⟨Nat.le_of_ble_eq_true rfl, Nat.le_of_ble_eq_true rfl⟩) rfl rfl (Nat.le_of_ble_eq_true rfl) d_A_makeKnown_56 ⟨Nat.le_of_ble_eq_true rfl, Nat.le_of_ble_eq_true rfl⟩ (fun w5 ad5 g5 hp5 => ?_)
          obtain ⟨rfl, rfl, rfl⟩ := hp5
          rw [e3]
          refine v_iload_n C d_A_makeKnown_59 rfl 2 rfl ?_
          refine v_iload_n C d_A_makeKnown_60 rfl 3 rfl ?_
          have hq6 := hws (j : Nat) (by omega)
          have hq7 := hun (j : Nat) (by omega)
          have hq8 := huc (j : Nat) (by omega)
          have hq9 := hre (j : Nat) (by omega)
          rw [e1] at hq7 hq8 hq9
          obtain ⟨q1, q2, q3, q4⟩ := (hs9 j).2 (fun q => absurd q.1 (Nat.lt_irrefl _))
          refine v_callVV (As := [.int (iI (b j : Int)), .int (iI (c0 : Int)), .int pv]) (st := []) (by omega) hq6 rfl rfl C (c_takeOut l (13 + 8 * (j : Nat)) (b j) (lo9 j) ((ct0 j : Nat) : Int) (c0 : Int) pv (un9 j) (uc9 j) (re9 j) (by omega) e4 (by omega) hq6 hq7 hq8 hq9) (lk_A_240 C.1.2.2.2.2 rfl rfl ⟨Nat.le_of_ble_eq_true rfl, Nat.le_of_ble_eq_true rfl⟩) rfl rfl (Nat.le_of_ble_eq_true rfl) d_A_makeKnown_61 ⟨Nat.le_of_ble_eq_true rfl, Nat.le_of_ble_eq_true rfl⟩ (fun ad10 g10 hp10 => ?_)
          obtain ⟨l1, hl1, rfl, t0, t1, t2, t3, fr10⟩ := hp10
          rw [← e1] at t1 t2 t3
          have hws2 := fam_up (k := 0) (F := fun j9 (q : Nat) => wsE ((ct0 j9 : Nat) : Int) ((q : Nat) : Int) (ad (13 + 8 * j9 + 1)) (ad (13 + 8 * j9 + 2)) (ad (13 + 8 * j9 + 3))) (X := lo9) hws t0 (fun j9 h8 hne => fr10 (13 + 8 * j9) (by omega) (by omega) (by omega) (by omega))
          have hun2 := fam_up (k := 1) (F := fun j9 (q : Nat → Int32) => inA cI (nw j9) q) (X := un9) hun t1 (fun j9 h8 hne => fr10 (13 + 8 * j9 + 1) (by omega) (by omega) (by omega) (by omega))
          have huc2 := fam_up (k := 2) (F := fun j9 (q : Nat → Int32) => inA cI (nw j9) q) (X := uc9) huc t2 (fun j9 h8 hne => fr10 (13 + 8 * j9 + 2) (by omega) (by omega) (by omega) (by omega))
          have hre2 := fam_up (k := 3) (F := fun j9 (q : Nat → Int32) => inA cI (nw j9) q) (X := re9) hre t3 (fun j9 h8 hne => fr10 (13 + 8 * j9 + 3) (by omega) (by omega) (by omega) (by omega))
          have h0 := (fr10 0 (by omega) (by omega) (by omega) (by omega)).trans h0
          have h2 := (fr10 2 (by omega) (by omega) (by omega) (by omega)).trans h2
          have h7 := (fr10 7 (by omega) (by omega) (by omega) (by omega)).trans h7
          have h6 := (fr10 6 (by omega) (by omega) (by omega) (by omega)).trans h6
          have hq4 := (fr10 (9 + 8 * (j : Nat)) (by omega) (by omega) (by omega) (by omega)).trans hq4
          have hsh := fun j9 (hj9 : j9 < 8) => (fr10 (9 + 8 * j9) (by omega) (by omega) (by omega) (by omega)).trans (hsh j9 hj9)
          refine v_iinc (lv' := [(6, .int (iI ((j : Int) + 1))), (0, .ref (ad 0)), (1, .int (iI (M : Int))), (2, .int (iI (c0 : Int))), (3, .int pv), (4, .int (iI ((c0 % 16 : Nat) : Int))), (5, .int (iI ((c0 / 16 : Nat) : Int)))]) C d_A_makeKnown_64 6 rfl (by decide) rfl ?_
          refine v_goto C d_A_makeKnown_67 ?_
          refine v_lv (lv' := [(0, .ref (ad 0)), (1, .int (iI (M : Int))), (2, .int (iI (c0 : Int))), (3, .int pv), (4, .int (iI ((c0 % 16 : Nat) : Int))), (5, .int (iI ((c0 / 16 : Nat) : Int))), (6, .int (iI ((j : Int) + 1)))]) [1, 2, 3, 4, 5, 6, 0] rfl ?_
          have hs8 : ∀ i, (i < j + 1 ∧ Nat.testBit M i = true → (va_up un9 j (upd (un9 j) (b j) (un9 j (b j) - iI 1))) i = upd (un i) (b i) (un i (b i) - iI 1) ∧ (va_up uc9 j (upd (uc9 j) (b j) (uc9 j (b j) - iI (c0 : Int)))) i = upd (uc i) (b i) (uc i (b i) - iI (c0 : Int)) ∧ (va_up re9 j (upd (re9 j) (b j) (re9 j (b j) - pv))) i = upd (re i) (b i) (re i (b i) - pv) ∧ ((un i (b i) - iI 1 = iI 1 ∧ b i < lo i ∧ (va_up lo9 j l1) i = b i) ∨ (¬ (un i (b i) - iI 1 = iI 1 ∧ b i < lo i) ∧ (va_up lo9 j l1) i = lo i))) ∧ (¬ (i < j + 1 ∧ Nat.testBit M i = true) → (va_up un9 j (upd (un9 j) (b j) (un9 j (b j) - iI 1))) i = un i ∧ (va_up uc9 j (upd (uc9 j) (b j) (uc9 j (b j) - iI (c0 : Int)))) i = uc i ∧ (va_up re9 j (upd (re9 j) (b j) (re9 j (b j) - pv))) i = re i ∧ (va_up lo9 j l1) i = lo i) := fun i => by
            by_cases hij : i = j
            · subst hij
              rw [va_up_self, va_up_self, va_up_self, va_up_self, q1, q2, q3]
              rw [q1, q4] at hl1
              exact ⟨fun _ => ⟨rfl, rfl, rfl, hl1⟩, fun q => absurd ⟨Nat.lt_succ_self _, hbb3.symm.trans hb35⟩ q⟩
            · rw [va_up_ne _ _ hij, va_up_ne _ _ hij, va_up_ne _ _ hij, va_up_ne _ _ hij]
              exact ⟨fun q => (hs9 i).1 ⟨by omega, q.2⟩, fun q => (hs9 i).2 (fun q2 => q ⟨by omega, q2.2⟩)⟩
          exact ih22 (j + 1) _ _ _ _ _ (by omega) (by omega) hs8 (fun r1 n0 n1 n2 n3 => ((fr10 r1 (n1 (j : Nat) (by omega)) (n2 (j : Nat) (by omega)) (n3 (j : Nat) (by omega)) (n0 (j : Nat) (by omega))).trans (hfr22 r1 n0 n1 n2 n3))) hws2 hun2 huc2 hre2
  exact L22 _ 0 un uc re lo _ (Nat.lt_succ_self _) (by omega) (fun i => ⟨fun q => absurd q.1 (by omega), fun _ => ⟨rfl, rfl, rfl, rfl⟩⟩) (fun r1 _ _ _ _ => rfl) hws hun huc hre
