set_option maxHeartbeats 1000000 in
set_option maxRecDepth 100000 in
theorem c_keep (l : Launch) {B : Nat} {D : va_G} {cI cZ cL cS cW : ClassId} {ad : Nat → Nat} {g : Nat → va_E} (w h : Nat) (hk hr : Bool) (sp wb : Int) (hw : 1 ≤ w ∧ w ≤ 16) (hh : 1 ≤ h ∧ h ≤ 16) (h0 : g 0 = xE ad w h hk hr sp wb) (f fk : Nat → Int32) (hpic : g 1 = inA cI 256 f) (hkp : g 3 = inA cI 256 fk) (h2 : g 2 = rfA cS 8 (shs ad 9)) (h4 : g 4 = rfA cS 8 (shs ad 11)) (T : Nat → ShT) (hT : bdT T) (hsh : ∀ j, j < 8 → g (9 + 8 * j) = shE (ad (9 + 8 * j + 1)) (T j)) (nb : Nat → Nat) (bf : Nat → Nat → Int32) (hnb : ∀ j, j < 8 → nb j = 0 ∨ nb j = 481) (hbi : ∀ j, j < 8 → g (9 + 8 * j + 1) = inA cI (nb j) (bf j)) (KT : Nat → ShT) (hks : ∀ j, j < 8 → g (11 + 8 * j) = shE (ad (11 + 8 * j + 1)) (KT j)) (kn : Nat → Nat) (kf : Nat → Nat → Int32) (hkn : ∀ j, j < 8 → kn j = 0 ∨ kn j = 481) (hkb : ∀ j, j < 8 → g (11 + 8 * j + 1) = inA cI (kn j) (kf j)) (hgeo : ∀ j, j < 8 → (T j).1 = true → okD (T j).2.2.1 (T j).2.2.2.1 ∧ (T j).2.2.2.2.1 = lzI (T j).2.2.1 (T j).2.2.2.1 w h ∧ (T j).2.2.2.2.2 = ctI (T j).2.2.1 (T j).2.2.2.1 w h ∧ nb j = 481) (hfil : ∀ j, j < 8 → (T j).2.1 = true → (T j).1 = true) : Met l y_A_keep (Cond.code y_A_keep b_A_keep 2 none :: wG) (rmF 2 80 8 3848) (wPc B D classes (tyL cI cZ cL cS cW) (Zs B) 95 [.ref (ad 0)] ad g) (QV B D classes 95 (fun ad1 g1 => ∃ (fk1 : Nat → Int32) (kn1 : Nat → Nat) (kf1 : Nat → Nat → Int32), (∀ k, k < 256 → fk1 k = f k) ∧ (∀ j, j < 8 → kn1 j = 0 ∨ kn1 j = 481) ∧ (∀ j, j < 8 → (T j).2.1 = true → kn1 j = 481 ∧ ∀ k, k < ctN (T j).2.2.1 (T j).2.2.2.1 w h → kf1 j k = bf j k) ∧ g1 0 = xE ad1 w h true hr sp wb ∧ g1 3 = inA cI 256 fk1 ∧ (∀ j, j < 8 → g1 (11 + 8 * j) = shE (ad1 (11 + 8 * j + 1)) (T j)) ∧ (∀ j, j < 8 → g1 (11 + 8 * j + 1) = inA cI (kn1 j) (kf1 j)) ∧ (∀ r1, r1 ≠ 0 → r1 ≠ 3 → (∀ j9, j9 < 8 → r1 ≠ 11 + 8 * j9) → (∀ j9, j9 < 8 → r1 ≠ 11 + 8 * j9 + 1) → g1 r1 = g r1) ∧ ∀ r1, (∀ j9, j9 < 8 → r1 ≠ 11 + 8 * j9 + 1) → ad1 r1 = ad r1)) 8 3848 (aB B) := by
  refine ofV (own := R_A) (by decide) rfl (Nat.le_of_ble_eq_true rfl) ?_
  intro p e s m below meth c Q C hnm hret
  change kV _ _ _ _ _ _ _ _ _ _ _ _ _ _ _ _ _ _ _ _ _ [(0, .ref (ad 0))] _ _
  refine v_aload_n C d_A_keep_0 rfl 0 rfl ?_
  refine gf_A_16 C (by omega) h0 rfl d_A_keep_1 ?_
  refine v_iconst C d_A_keep_4 ?_
  refine v_aload_n C d_A_keep_5 rfl 0 rfl ?_
  refine gf_A_30 C (by omega) h0 rfl d_A_keep_6 ?_
  refine v_iconst C d_A_keep_9 ?_
  refine v_sipush C d_A_keep_10 (by decide +kernel) ?_
  refine v_copy (n := 256) C ml_A_160 nm_arraycopyName sm_arraycopyName in_Y 0 rfl (by omega) hpic (by omega) hkp rfl (by omega) (by omega) (by omega) (Nat.le_of_ble_eq_true rfl) (by decide +kernel) d_A_keep_13 (fun g1 hkp fr2 => ?_)
  have h0 := (fr2 0 (by omega)).trans h0
  have hpic := (fr2 1 (by omega)).trans hpic
  have h2 := (fr2 2 (by omega)).trans h2
  have h4 := (fr2 4 (by omega)).trans h4
  have hsh := fun j9 (hj9 : j9 < 8) => (fr2 (9 + 8 * j9) (by omega)).trans (hsh j9 hj9)
  have hbi := fun j9 (hj9 : j9 < 8) => (fr2 (9 + 8 * j9 + 1) (by omega)).trans (hbi j9 hj9)
  have hks := fun j9 (hj9 : j9 < 8) => (fr2 (11 + 8 * j9) (by omega)).trans (hks j9 hj9)
  have hkb := fun j9 (hj9 : j9 < 8) => (fr2 (11 + 8 * j9 + 1) (by omega)).trans (hkb j9 hj9)
  refine v_iconst C d_A_keep_16 ?_
  refine v_istore_n (lv' := [(1, .int (iI 0)), (0, .ref (ad 0))]) C d_A_keep_17 rfl (by decide) rfl ?_
  refine v_lv (lv' := [(0, .ref (ad 0)), (1, .int (iI 0))]) [1, 0] rfl ?_
  have L18 : ∀ (d9 : Nat) (j : Nat) (kn9 : Nat → Nat) (kf9 : Nat → Nat → Int32) (A18 : Nat → Nat) (G18 : Nat → va_E), 8 - j < d9 → (j ≤ 8) → (∀ i, i < 8 → kn9 i = 0 ∨ kn9 i = 481) → (∀ i, i < j → (T i).2.1 = true → kn9 i = 481 ∧ ∀ k, k < ctN (T i).2.2.1 (T i).2.2.2.1 w h → kf9 i k = bf i k) → (∀ r1, (∀ j9, j9 < 8 → r1 ≠ 11 + 8 * j9 + 1) → A18 r1 = ad r1) → (∀ r1, (∀ j9, j9 < 8 → r1 ≠ 11 + 8 * j9) → (∀ j9, j9 < 8 → r1 ≠ 11 + 8 * j9 + 1) → G18 r1 = g1 r1) → (∀ j9, j9 < 8 → G18 (11 + 8 * j9) = .inr (1, [.int (bI ((if j9 < j then T j9 else KT j9).1)), .int (bI ((if j9 < j then T j9 else KT j9).2.1)), .int (iI ((if j9 < j then T j9 else KT j9).2.2.1)), .int (iI ((if j9 < j then T j9 else KT j9).2.2.2.1)), .int (iI ((if j9 < j then T j9 else KT j9).2.2.2.2.1)), .int (iI ((if j9 < j then T j9 else KT j9).2.2.2.2.2)), .ref (A18 (11 + 8 * j9 + 1))])) → (∀ j9, j9 < 8 → G18 (11 + 8 * j9 + 1) = inA cI (kn9 j9) (kf9 j9)) → kV p l e (rmF 2 80 8 3848) s m ([.ref (ad 0)] : List Value).toArray below meth c Q s.heap B D classes 2 95 j (481 * j) A18 G18 [(0, .ref (A18 0)), (1, .int (iI (j : Int)))] [] 18 := by
    intro d9
    induction d9 with
    | zero => intro j kn9 kf9 A18 G18 hd9; exact absurd hd9 (Nat.not_lt_zero _)
    | succ d9 ih18 =>
      intro j kn9 kf9 A18 G18 hd18 hj hkn9 hs9 hA18 hfr18 hks hkb
      have h0 : G18 0 = xE A18 w h hk hr sp wb := (hfr18 0 (fun j8 h8 => by omega) (fun j8 h8 => by omega)).trans (h0.trans (xE_ad (fun i hi => hA18 i (fun j8 h8 => by omega))))
      have h2 : G18 2 = rfA cS 8 (shs A18 9) := (hfr18 2 (fun j8 h8 => by omega) (fun j8 h8 => by omega)).trans (h2.trans (by rw [shs_ad (ad1 := A18) (fun s9 => hA18 _ (fun j8 h8 => by omega))]))
      have h4 : G18 4 = rfA cS 8 (shs A18 11) := (hfr18 4 (fun j8 h8 => by omega) (fun j8 h8 => by omega)).trans (h4.trans (by rw [shs_ad (ad1 := A18) (fun s9 => hA18 _ (fun j8 h8 => by omega))]))
      have hkp := (hfr18 3 (fun j8 h8 => by omega) (fun j8 h8 => by omega)).trans hkp
      have hsh : ∀ j9, j9 < 8 → G18 (9 + 8 * j9) = shE (A18 (9 + 8 * j9 + 1)) (T j9) := fun j9 h9 => (hfr18 (9 + 8 * j9) (fun j8 h8 => by omega) (fun j8 h8 => by omega)).trans ((hsh j9 h9).trans (by rw [hA18 (9 + 8 * j9 + 1) (fun j8 h8 => by omega)]))
      have hbi : ∀ j9, j9 < 8 → G18 (9 + 8 * j9 + 1) = inA cI (nb j9) (bf j9) := fun j9 h9 => (hfr18 (9 + 8 * j9 + 1) (fun j8 h8 => by omega) (fun j8 h8 => by omega)).trans (hbi j9 h9)
      refine v_iload_n C d_A_keep_18 rfl 1 rfl ?_
      refine v_bipush C d_A_keep_19 (by decide +kernel) ?_
      refine v_icmp_geI C d_A_keep_21 (by omega) (by omega) (by omega) (by omega) (fun hb21 => ?_) (fun hb21 => ?_)
      · refine v_aload_n C d_A_keep_45 rfl 0 rfl ?_
        refine v_iconst C d_A_keep_46 ?_
        refine pf_A_26 (fs' := [.int (iI (w : Int)), .int (iI (h : Int)), .ref (A18 1), .ref (A18 2), .int (iI 1), .ref (A18 3), .ref (A18 4), .int (bI hr), .ref (A18 5), .int (iI sp), .int (iI wb), .ref (A18 6), .ref (A18 7), .ref (A18 8)]) C (by omega) h0 rfl rfl (Nat.le_of_ble_eq_true rfl) rfl d_A_keep_47 (fun g3 h0 fr4 => ?_)
        have h2 := (fr4 2 (by omega)).trans h2
        have h4 := (fr4 4 (by omega)).trans h4
        have hkp := (fr4 3 (by omega)).trans hkp
        have hks := fun j9 (hj9 : j9 < 8) => (fr4 (11 + 8 * j9) (by omega)).trans (hks j9 hj9)
        have hkb := fun j9 (hj9 : j9 < 8) => (fr4 (11 + 8 * j9 + 1) (by omega)).trans (hkb j9 hj9)
        have hsh := fun j9 (hj9 : j9 < 8) => (fr4 (9 + 8 * j9) (by omega)).trans (hsh j9 hj9)
        have hbi := fun j9 (hj9 : j9 < 8) => (fr4 (9 + 8 * j9 + 1) (by omega)).trans (hbi j9 hj9)
        exact hret _ _ _ _ _ _ (by omega) (by omega) d_A_keep_50 ⟨_, kn9, kf9, fun k hk9 => (pk_cpy_in (Nat.zero_le _) (by omega)).trans (by rw [Nat.zero_add, Nat.sub_zero]), hkn9, fun i hi z => hs9 i (by omega) z, h0, hkp, fun j9 hj9 => (hks j9 hj9).trans (by rw [if_pos (by omega)]), hkb, (fun r1 n0 n1 n2 n3 => ((fr4 r1 n0).trans ((hfr18 r1 n2 n3).trans (fr2 r1 n1)))), (fun r1 n0 => (hA18 r1 n0))⟩
      · refine v_aload_n C d_A_keep_24 rfl 0 rfl ?_
        refine gf_A_33 C (by omega) h0 rfl d_A_keep_25 ?_
        refine v_iload_n C d_A_keep_28 rfl 1 rfl ?_
        refine v_aald C 3 (by omega) h4 rfl (j : Nat) (by omega) (by omega) (by omega) (rfl) d_A_keep_29 ?_
        refine v_aload_n C d_A_keep_30 rfl 0 rfl ?_
        refine gf_A_22 C (by omega) h0 rfl d_A_keep_31 ?_
        refine v_iload_n C d_A_keep_34 rfl 1 rfl ?_
        refine v_aald C 3 (by omega) h2 rfl (j : Nat) (by omega) (by omega) (by omega) (rfl) d_A_keep_35 ?_
        have hq5 := hks (j : Nat) (by omega)
        have hq6 := hkb (j : Nat) (by omega)
        have hq7 := hsh (j : Nat) (by omega)
        have hq8 := hbi (j : Nat) (by omega)
        refine v_callVV (As := [.ref (A18 (9 + 8 * (j : Nat)))]) (st := []) (by omega) hq5 rfl rfl C (c_copyFrom l (11 + 8 * (j : Nat)) (9 + 8 * (j : Nat)) (ctN (T j).2.2.1 (T j).2.2.2.1 w h) (kn9 j) (nb j) (if j < j then T j else KT j) (T j) (kf9 j) (bf j) (by omega) (by omega) (by omega) (hkn9 j (by omega)) (fun z => by obtain ⟨o1, o2, o3, o4⟩ := hgeo j (by omega) (hfil j (by omega) z); obtain ⟨c1, c2, -⟩ := ct_nat o1 hw.2 hh.2 hw.1 hh.1; exact ⟨o4, o3.trans c2.symm, c1⟩) hq5 hq6 hq7 hq8) (lk_A_183 C.1.2.2.2.2 rfl rfl ⟨Nat.le_of_ble_eq_true rfl, Nat.le_of_ble_eq_true rfl⟩) rfl rfl (Nat.le_of_ble_eq_true rfl) d_A_keep_36 ⟨by show _ ≤ 8; omega, by show _ ≤ 3848; omega⟩ (fun ad9 g9 hp9 => ?_)
        obtain ⟨nb1, f1, hn1, t1, hfl1, t0, fr9, hA9⟩ := hp9
        have hks2 : ∀ j9, j9 < 8 → g9 (11 + 8 * j9) = shE (ad9 (11 + 8 * j9 + 1)) (if j9 < j + 1 then T j9 else KT j9) := fun j9 h9 => by
          by_cases hjj : j9 = j
          · subst hjj; rw [if_pos (Nat.lt_succ_self _)]; exact t0
          · rw [hA9 (11 + 8 * j9 + 1) (by omega), fr9 (11 + 8 * j9) (by omega) (by omega), hks j9 h9]
            by_cases hlt : j9 < j
            · rw [if_pos hlt, if_pos (by omega)]
            · rw [if_neg hlt, if_neg (by omega)]
        have hkb2 : ∀ j9, j9 < 8 → g9 (11 + 8 * j9 + 1) = inA cI (va_up kn9 j nb1 j9) (va_up kf9 j f1 j9) := fun j9 h9 => by
          by_cases hjj : j9 = j
          · subst hjj; rw [va_up_self, va_up_self]; exact t1
          · rw [va_up_ne _ _ hjj, va_up_ne _ _ hjj, fr9 (11 + 8 * j9 + 1) (by omega) (by omega)]; exact hkb j9 h9
        refine v_lvE (lv' := [(0, .ref (ad9 0)), (1, .int (iI (j : Int)))]) (by rw [hA9 0 (by omega)]) ?_
        refine v_iinc (lv' := [(1, .int (iI ((j : Int) + 1))), (0, .ref (ad9 0))]) C d_A_keep_39 1 rfl (by decide) rfl ?_
        refine v_goto C d_A_keep_42 ?_
        refine v_lv (lv' := [(0, .ref (ad9 0)), (1, .int (iI ((j : Int) + 1)))]) [1, 0] rfl ?_
        refine v_wid (k := j + 1) (n := 481 * (j + 1)) (by omega) (by omega) ?_
        exact ih18 (j + 1) _ _ _ _ (by omega) (by omega) (fun i hi => by by_cases hij : i = j; (subst hij; rw [va_up_self]; exact hn1); rw [va_up_ne _ _ hij]; exact hkn9 i hi) (fun i hi z => by by_cases hij : i = j; (subst hij; rw [va_up_self, va_up_self]; exact hfl1 z); rw [va_up_ne _ _ hij, va_up_ne _ _ hij]; exact hs9 i (by omega) z) (fun r1 n0 => ((hA9 r1 (n0 (j : Nat) (by omega))).trans (hA18 r1 n0))) (fun r1 n0 n1 => ((fr9 r1 (n0 (j : Nat) (by omega)) (n1 (j : Nat) (by omega))).trans (hfr18 r1 n0 n1))) hks2 hkb2
  exact L18 _ 0 kn kf _ _ (Nat.lt_succ_self _) (by omega) hkn (fun i hi => absurd hi (by omega)) (fun r1 _ => rfl) (fun r1 _ _ => rfl) (fun j9 hj9 => by rw [if_neg (Nat.not_lt_zero _)]; exact hks j9 hj9) hkb
set_option maxHeartbeats 1000000 in
set_option maxRecDepth 100000 in
theorem c_add (l : Launch) (hl : l.stackTraces = false) {B : Nat} {D : va_G} {cI cZ cL cS cW : ClassId} {ad : Nat → Nat} {g : Nat → va_E} (w h : Nat) (hk hr : Bool) (sp wb : Int) (b : Bool) (hw : 1 ≤ w ∧ w ≤ 16) (hh : 1 ≤ h ∧ h ≤ 16) (h0 : g 0 = xE ad w h hk hr sp wb) (f fk : Nat → Int32) (hpic : g 1 = inA cI 256 f) (hkp : g 3 = inA cI 256 fk) (h2 : g 2 = rfA cS 8 (shs ad 9)) (h4 : g 4 = rfA cS 8 (shs ad 11)) (T : Nat → ShT) (hT : bdT T) (hsh : ∀ j, j < 8 → g (9 + 8 * j) = shE (ad (9 + 8 * j + 1)) (T j)) (nb : Nat → Nat) (bf : Nat → Nat → Int32) (hnb : ∀ j, j < 8 → nb j = 0 ∨ nb j = 481) (hbi : ∀ j, j < 8 → g (9 + 8 * j + 1) = inA cI (nb j) (bf j)) (KT : Nat → ShT) (hks : ∀ j, j < 8 → g (11 + 8 * j) = shE (ad (11 + 8 * j + 1)) (KT j)) (kn : Nat → Nat) (kf : Nat → Nat → Int32) (hkn : ∀ j, j < 8 → kn j = 0 ∨ kn j = 481) (hkb : ∀ j, j < 8 → g (11 + 8 * j + 1) = inA cI (kn j) (kf j)) (hgeo : ∀ j, j < 8 → (T j).1 = true → okD (T j).2.2.1 (T j).2.2.2.1 ∧ (T j).2.2.2.2.1 = lzI (T j).2.2.1 (T j).2.2.2.1 w h ∧ (T j).2.2.2.2.2 = ctI (T j).2.2.1 (T j).2.2.2.1 w h ∧ nb j = 481) (hfil : ∀ j, j < 8 → (T j).2.1 = true → (T j).1 = true) (hKT : bdT KT) (hkk : hk = true → ∀ j, j < 8 → (KT j).2.1 = true → kn j = 481) : vx_Met l y_A_add (Cond.code y_A_add b_A_add 4 (some .int) :: wG) (rmF 7 110 1 6) (wPc B D classes (tyL cI cZ cL cS cW) (Zs B) 95 [.ref (ad 0), .int (bI b)] ad g) (QI B D classes 95 (fun v ad1 g1 => hk = true ∧ v = iI ((cN 8 (fun i => if ((T i).2.1 && (KT i).2.1 && decide ((KT i).2.2.1 = (T i).2.2.1 ∧ (KT i).2.2.2.1 = (T i).2.2.2.1)) = true then 1 else 0) : Nat) : Int) ∧ ad = ad1 ∧ g1 1 = inA cI 256 (addF b f fk 256) ∧ (∀ j, j < 8 → g1 (9 + 8 * j) = shE (ad (9 + 8 * j + 1)) ((T j).1, ((T j).2.1 && (KT j).2.1 && decide ((KT j).2.2.1 = (T j).2.2.1 ∧ (KT j).2.2.2.1 = (T j).2.2.2.1)), (T j).2.2)) ∧ (∀ j, j < 8 → g1 (9 + 8 * j + 1) = inA cI (nb j) (if ((T j).2.1 && (KT j).2.1 && decide ((KT j).2.2.1 = (T j).2.2.1 ∧ (KT j).2.2.2.1 = (T j).2.2.2.1)) = true then addF b (bf j) (kf j) (ctN (T j).2.2.1 (T j).2.2.2.1 w h) else bf j)) ∧ ∀ r1, r1 ≠ 1 → (∀ j9, j9 < 8 → r1 ≠ 9 + 8 * j9) → (∀ j9, j9 < 8 → r1 ≠ 9 + 8 * j9 + 1) → g1 r1 = g r1)) (QX B D classes 95 (fun E => E = "java/lang/IllegalStateException" ∧ hk = false) ad g) 1 6 (aB B) := by
  refine ofXI (own := R_A) (by decide) rfl (Nat.le_of_ble_eq_true rfl) ?_
  intro p e s m below meth c Q C hlocks htab hQ hret hout
  change kV _ _ _ _ _ _ _ _ _ _ _ _ _ _ _ _ _ _ _ _ _ [(0, .ref (ad 0)), (1, .int (bI b))] _ _
  refine v_aload_n C d_A_add_0 rfl 0 rfl ?_
  refine gf_A_26 C (by omega) h0 rfl d_A_add_1 ?_
  refine v_xcallSV (As := [.int (bI hk)]) (st := []) C (c_requireState l hl hk) (lk_A_86 C.1.2.2.2.2 rfl rfl ⟨Nat.le_of_ble_eq_true rfl, Nat.le_of_ble_eq_true rfl⟩) rfl rfl (Nat.le_of_ble_eq_true rfl) d_A_add_4 ⟨Nat.le_of_ble_eq_true rfl, Nat.le_of_ble_eq_true rfl⟩ (fun E hE => hout E _ _ _ _ _ (hE) (Nat.le_of_ble_eq_true rfl) (Nat.le_of_ble_eq_true rfl)) (fun ad1 g1 hp1 => ?_)
  obtain ⟨hst, rfl, rfl⟩ := hp1
  refine v_aload_n C d_A_add_7 rfl 0 rfl ?_
  refine gf_A_16 C (by omega) h0 rfl d_A_add_8 ?_
  refine v_aload_n C d_A_add_11 rfl 0 rfl ?_
  refine gf_A_30 C (by omega) h0 rfl d_A_add_12 ?_
  refine v_sipush C d_A_add_15 (by decide +kernel) ?_
  refine v_iload_n C d_A_add_18 rfl 1 rfl ?_
  refine v_callSV (As := [.ref (ad 1), .ref (ad 3), .int (iI 256), .int (bI b)]) (st := []) C (c_addEach l 1 3 256 256 256 b f fk (by omega) (by omega) (by omega) (by omega) (by omega) (by omega) (by omega) hpic hkp) (lk_A_187 C.1.2.2.2.2 rfl rfl ⟨Nat.le_of_ble_eq_true rfl, Nat.le_of_ble_eq_true rfl⟩) rfl rfl (Nat.le_of_ble_eq_true rfl) d_A_add_19 ⟨Nat.le_of_ble_eq_true rfl, Nat.le_of_ble_eq_true rfl⟩ (fun ad2 g2 hp2 => ?_)
  obtain ⟨rfl, hpic, fr2⟩ := hp2
  have h0 := (fr2 0 (by omega)).trans h0
  have hkp := (fr2 3 (by omega)).trans hkp
  have h2 := (fr2 2 (by omega)).trans h2
  have h4 := (fr2 4 (by omega)).trans h4
  have hsh := fun j9 (hj9 : j9 < 8) => (fr2 (9 + 8 * j9) (by omega)).trans (hsh j9 hj9)
  have hbi := fun j9 (hj9 : j9 < 8) => (fr2 (9 + 8 * j9 + 1) (by omega)).trans (hbi j9 hj9)
  have hks := fun j9 (hj9 : j9 < 8) => (fr2 (11 + 8 * j9) (by omega)).trans (hks j9 hj9)
  have hkb := fun j9 (hj9 : j9 < 8) => (fr2 (11 + 8 * j9 + 1) (by omega)).trans (hkb j9 hj9)
  refine v_iconst C d_A_add_22 ?_
  refine v_istore_n (lv' := [(2, .int (iI 0)), (0, .ref (ad 0)), (1, .int (bI b))]) C d_A_add_23 rfl (by decide) rfl ?_
  refine v_iconst C d_A_add_24 ?_
  refine v_istore_n (lv' := [(3, .int (iI 0)), (2, .int (iI 0)), (0, .ref (ad 0)), (1, .int (bI b))]) C d_A_add_25 rfl (by decide) rfl ?_
  refine v_lv (lv' := [(0, .ref (ad 0)), (1, .int (bI b)), (2, .int (iI 0)), (3, .int (iI 0))]) [2, 3, 1, 0] rfl ?_
  have L26 : ∀ (d9 : Nat) (j : Nat) (n : Nat) (G26 : Nat → va_E), 8 - j < d9 → (j ≤ 8) → (n = cN j (fun i => if ((T i).2.1 && (KT i).2.1 && decide ((KT i).2.2.1 = (T i).2.2.1 ∧ (KT i).2.2.2.1 = (T i).2.2.2.1)) = true then 1 else 0)) → (n ≤ j) → (∀ r1, (∀ j9, j9 < 8 → r1 ≠ 9 + 8 * j9) → (∀ j9, j9 < 8 → r1 ≠ 9 + 8 * j9 + 1) → G26 r1 = g2 r1) → (∀ j9, j9 < 8 → G26 (9 + 8 * j9) = .inr (1, [.int (bI ((if j9 < j then ((T j9).1, ((T j9).2.1 && (KT j9).2.1 && decide ((KT j9).2.2.1 = (T j9).2.2.1 ∧ (KT j9).2.2.2.1 = (T j9).2.2.2.1)), (T j9).2.2) else T j9).1)), .int (bI ((if j9 < j then ((T j9).1, ((T j9).2.1 && (KT j9).2.1 && decide ((KT j9).2.2.1 = (T j9).2.2.1 ∧ (KT j9).2.2.2.1 = (T j9).2.2.2.1)), (T j9).2.2) else T j9).2.1)), .int (iI ((if j9 < j then ((T j9).1, ((T j9).2.1 && (KT j9).2.1 && decide ((KT j9).2.2.1 = (T j9).2.2.1 ∧ (KT j9).2.2.2.1 = (T j9).2.2.2.1)), (T j9).2.2) else T j9).2.2.1)), .int (iI ((if j9 < j then ((T j9).1, ((T j9).2.1 && (KT j9).2.1 && decide ((KT j9).2.2.1 = (T j9).2.2.1 ∧ (KT j9).2.2.2.1 = (T j9).2.2.2.1)), (T j9).2.2) else T j9).2.2.2.1)), .int (iI ((if j9 < j then ((T j9).1, ((T j9).2.1 && (KT j9).2.1 && decide ((KT j9).2.2.1 = (T j9).2.2.1 ∧ (KT j9).2.2.2.1 = (T j9).2.2.2.1)), (T j9).2.2) else T j9).2.2.2.2.1)), .int (iI ((if j9 < j then ((T j9).1, ((T j9).2.1 && (KT j9).2.1 && decide ((KT j9).2.2.1 = (T j9).2.2.1 ∧ (KT j9).2.2.2.1 = (T j9).2.2.2.1)), (T j9).2.2) else T j9).2.2.2.2.2)), .ref (ad (9 + 8 * j9 + 1))])) → (∀ j9, j9 < 8 → G26 (9 + 8 * j9 + 1) = inA cI (nb j9) (if j9 < j then (if ((T j9).2.1 && (KT j9).2.1 && decide ((KT j9).2.2.1 = (T j9).2.2.1 ∧ (KT j9).2.2.2.1 = (T j9).2.2.2.1)) = true then addF b (bf j9) (kf j9) (ctN (T j9).2.2.1 (T j9).2.2.2.1 w h) else bf j9) else bf j9)) → kV p l e (rmF 7 110 1 6) s m ([.ref (ad 0), .int (bI b)] : List Value).toArray below meth c Q s.heap B D classes 4 95 (0 + 1) (0 + 6) ad G26 [(0, .ref (ad 0)), (1, .int (bI b)), (2, .int (iI (n : Int))), (3, .int (iI (j : Int)))] [] 26 := by
    intro d9
    induction d9 with
    | zero => intro j n G26 hd9; exact absurd hd9 (Nat.not_lt_zero _)
    | succ d9 ih26 =>
      intro j n G26 hd26 hj hn hn8 hfr26 hsh hbi
      have h0 := (hfr26 0 (fun j9 hj9 => by omega) (fun j9 hj9 => by omega)).trans h0
      have hpic := (hfr26 1 (fun j9 hj9 => by omega) (fun j9 hj9 => by omega)).trans hpic
      have hkp := (hfr26 3 (fun j9 hj9 => by omega) (fun j9 hj9 => by omega)).trans hkp
      have h2 := (hfr26 2 (fun j9 hj9 => by omega) (fun j9 hj9 => by omega)).trans h2
      have h4 := (hfr26 4 (fun j9 hj9 => by omega) (fun j9 hj9 => by omega)).trans h4
      have hks := fun j9 (hj9 : j9 < 8) => (hfr26 (11 + 8 * j9) (fun j8 hj8 => by omega) (fun j8 hj8 => by omega)).trans (hks j9 hj9)
      have hkb := fun j9 (hj9 : j9 < 8) => (hfr26 (11 + 8 * j9 + 1) (fun j8 hj8 => by omega) (fun j8 hj8 => by omega)).trans (hkb j9 hj9)
      refine v_iload_n C d_A_add_26 rfl 3 rfl ?_
      refine v_bipush C d_A_add_27 (by decide +kernel) ?_
      refine v_icmp_geI C d_A_add_29 (by omega) (by omega) (by omega) (by omega) (fun hb29 => ?_) (fun hb29 => ?_)
      · refine v_iload_n C d_A_add_74 rfl 2 rfl ?_
        have hj8 : j = 8 := by omega
        exact hret _ _ _ _ _ _ _ (by omega) (by omega) d_A_add_75 ⟨hst, by rw [hn, hj8], rfl, hpic, fun j9 hj9 => (hsh j9 hj9).trans (by rw [if_pos (show j9 < j by omega)]), fun j9 hj9 => (hbi j9 hj9).trans (by rw [if_pos (show j9 < j by omega)]), (fun r1 n0 n1 n2 => ((hfr26 r1 n1 n2).trans (fr2 r1 n0)))⟩
      · refine v_aload_n C d_A_add_32 rfl 0 rfl ?_
        refine gf_A_22 C (by omega) h0 rfl d_A_add_33 ?_
        refine v_iload_n C d_A_add_36 rfl 3 rfl ?_
        refine v_aald C 3 (by omega) h2 rfl (j : Nat) (by omega) (by omega) (by omega) (rfl) d_A_add_37 ?_
        refine v_aload_n C d_A_add_38 rfl 0 rfl ?_
        refine gf_A_33 C (by omega) h0 rfl d_A_add_39 ?_
        refine v_iload_n C d_A_add_42 rfl 3 rfl ?_
        refine v_aald C 3 (by omega) h4 rfl (j : Nat) (by omega) (by omega) (by omega) (rfl) d_A_add_43 ?_
        refine v_iload_n C d_A_add_44 rfl 1 rfl ?_
        have hq3 := hsh (j : Nat) (by omega)
        have hq4 := hbi (j : Nat) (by omega)
        have hq5 := hks (j : Nat) (by omega)
        have hq6 := hkb (j : Nat) (by omega)
        rw [if_neg (Nat.lt_irrefl _)] at hq3 hq4
        have hbT := hT j (by omega); have hbK := hKT j (by omega)
        refine v_callVV (As := [.ref (ad (11 + 8 * (j : Nat))), .int (bI b)]) (st := []) (by omega) hq3 rfl rfl C (c_addShelf l (9 + 8 * (j : Nat)) (11 + 8 * (j : Nat)) (nb j) (kn j) (ctN (T j).2.2.1 (T j).2.2.2.1 w h) (T j) (KT j) b (bf j) (kf j) (by omega) (by omega) (by omega) (by omega) (by omega) (fun z => by have z1 := (Bool.and_eq_true _ _).mp ((Bool.and_eq_true _ _).mp z).1; obtain ⟨o1, o2, o3, o4⟩ := hgeo j (by omega) (hfil j (by omega) z1.1); obtain ⟨c1, c2, -⟩ := ct_nat o1 hw.2 hh.2 hw.1 hh.1; exact ⟨o4, hkk hst j (by omega) z1.2, o3.trans c2.symm, c1⟩) hq3 hq4 hq5 hq6) (lk_A_191 C.1.2.2.2.2 rfl rfl ⟨Nat.le_of_ble_eq_true rfl, Nat.le_of_ble_eq_true rfl⟩) rfl rfl (Nat.le_of_ble_eq_true rfl) d_A_add_45 ⟨Nat.le_of_ble_eq_true rfl, Nat.le_of_ble_eq_true rfl⟩ (fun ad7 g7 hp7 => ?_)
        obtain ⟨rfl, t0, t1, fr7⟩ := hp7
        have hsh2 : ∀ j9, j9 < 8 → g7 (9 + 8 * j9) = shE (ad (9 + 8 * j9 + 1)) (if j9 < j + 1 then ((T j9).1, ((T j9).2.1 && (KT j9).2.1 && decide ((KT j9).2.2.1 = (T j9).2.2.1 ∧ (KT j9).2.2.2.1 = (T j9).2.2.2.1)), (T j9).2.2) else T j9) := fun j9 h9 => by
          by_cases hjj : j9 = j
          · subst hjj; rw [if_pos (Nat.lt_succ_self _)]; exact t0
          · rw [fr7 (9 + 8 * j9) (by omega) (by omega), hsh j9 h9]
            by_cases hlt : j9 < j
            · rw [if_pos hlt, if_pos (show j9 < j + 1 by omega)]
            · rw [if_neg hlt, if_neg (show ¬ j9 < j + 1 by omega)]
        have hbi2 : ∀ j9, j9 < 8 → g7 (9 + 8 * j9 + 1) = inA cI (nb j9) (if j9 < j + 1 then (if ((T j9).2.1 && (KT j9).2.1 && decide ((KT j9).2.2.1 = (T j9).2.2.1 ∧ (KT j9).2.2.2.1 = (T j9).2.2.2.1)) = true then addF b (bf j9) (kf j9) (ctN (T j9).2.2.1 (T j9).2.2.2.1 w h) else bf j9) else bf j9) := fun j9 h9 => by
          by_cases hjj : j9 = j
          · subst hjj; rw [if_pos (Nat.lt_succ_self _)]; exact t1
          · rw [fr7 (9 + 8 * j9 + 1) (by omega) (by omega), hbi j9 h9]
            by_cases hlt : j9 < j
            · rw [if_pos hlt, if_pos (show j9 < j + 1 by omega)]
            · rw [if_neg hlt, if_neg (show ¬ j9 < j + 1 by omega)]
        have h0 := (fr7 0 (by omega) (by omega)).trans h0
        have hpic := (fr7 1 (by omega) (by omega)).trans hpic
        have hkp := (fr7 3 (by omega) (by omega)).trans hkp
        have h2 := (fr7 2 (by omega) (by omega)).trans h2
        have h4 := (fr7 4 (by omega) (by omega)).trans h4
        have hq5 := (fr7 (11 + 8 * (j : Nat)) (by omega) (by omega)).trans hq5
        have hq6 := (fr7 (11 + 8 * (j : Nat) + 1) (by omega) (by omega)).trans hq6
        have hks := fun j9 (hj9 : j9 < 8) => (fr7 (11 + 8 * j9) (by omega) (by omega)).trans (hks j9 hj9)
        have hkb := fun j9 (hj9 : j9 < 8) => (fr7 (11 + 8 * j9 + 1) (by omega) (by omega)).trans (hkb j9 hj9)
        refine v_iload_n C d_A_add_48 rfl 2 rfl ?_
        refine v_aload_n C d_A_add_49 rfl 0 rfl ?_
        refine gf_A_22 C (by omega) h0 rfl d_A_add_50 ?_
        refine v_iload_n C d_A_add_53 rfl 3 rfl ?_
        refine v_aald C 3 (by omega) h2 rfl (j : Nat) (by omega) (by omega) (by omega) (rfl) d_A_add_54 ?_
        refine gf_A_129 C (by omega) t0 rfl d_A_add_55 ?_
        refine v_if_eqB C d_A_add_58 (fun hb58 => ?_) (fun hb58 => ?_)
        · refine v_iconst C d_A_add_65 ?_
          refine v_iaddI C d_A_add_66 ?_
          refine v_istore_n (lv' := [(2, .int (iI ((n : Int) + 0))), (0, .ref (ad 0)), (1, .int (bI b)), (3, .int (iI (j : Int)))]) C d_A_add_67 rfl (by decide) rfl ?_
          refine v_iinc (lv' := [(3, .int (iI ((j : Int) + 1))), (2, .int (iI ((n : Int) + 0))), (0, .ref (ad 0)), (1, .int (bI b))]) C d_A_add_68 3 rfl (by decide) rfl ?_
          refine v_goto C d_A_add_71 ?_
          refine v_lv (lv' := [(0, .ref (ad 0)), (1, .int (bI b)), (2, .int (iI ((n : Int) + 0))), (3, .int (iI ((j : Int) + 1)))]) [2, 3, 1, 0] rfl ?_
          have hfv : (if ((T j).2.1 && (KT j).2.1 && decide ((KT j).2.2.1 = (T j).2.2.1 ∧ (KT j).2.2.2.1 = (T j).2.2.2.1)) = true then 1 else 0) = 0 := if_neg (fun q9 => absurd (hb58.symm.trans q9) (by decide))
          exact ih26 (j + 1) (n + 0) _ (by omega) (by omega) (by show n + _ = cN j _ + (if ((T j).2.1 && (KT j).2.1 && decide ((KT j).2.2.1 = (T j).2.2.1 ∧ (KT j).2.2.2.1 = (T j).2.2.2.1)) = true then 1 else 0); rw [hfv, hn]) (by omega) (fun r1 n0 n1 => ((fr7 r1 (n0 (j : Nat) (by omega)) (n1 (j : Nat) (by omega))).trans (hfr26 r1 n0 n1))) hsh2 hbi2
        · refine v_iconst C d_A_add_61 ?_
          refine v_goto C d_A_add_62 ?_
          refine v_iaddI C d_A_add_66 ?_
          refine v_istore_n (lv' := [(2, .int (iI ((n : Int) + 1))), (0, .ref (ad 0)), (1, .int (bI b)), (3, .int (iI (j : Int)))]) C d_A_add_67 rfl (by decide) rfl ?_
          refine v_iinc (lv' := [(3, .int (iI ((j : Int) + 1))), (2, .int (iI ((n : Int) + 1))), (0, .ref (ad 0)), (1, .int (bI b))]) C d_A_add_68 3 rfl (by decide) rfl ?_
          refine v_goto C d_A_add_71 ?_
          refine v_lv (lv' := [(0, .ref (ad 0)), (1, .int (bI b)), (2, .int (iI ((n : Int) + 1))), (3, .int (iI ((j : Int) + 1)))]) [2, 3, 1, 0] rfl ?_
          have hfv : (if ((T j).2.1 && (KT j).2.1 && decide ((KT j).2.2.1 = (T j).2.2.1 ∧ (KT j).2.2.2.1 = (T j).2.2.2.1)) = true then 1 else 0) = 1 := if_pos hb58
          exact ih26 (j + 1) (n + 1) _ (by omega) (by omega) (by show n + _ = cN j _ + (if ((T j).2.1 && (KT j).2.1 && decide ((KT j).2.2.1 = (T j).2.2.1 ∧ (KT j).2.2.2.1 = (T j).2.2.2.1)) = true then 1 else 0); rw [hfv, hn]) (by omega) (fun r1 n0 n1 => ((fr7 r1 (n0 (j : Nat) (by omega)) (n1 (j : Nat) (by omega))).trans (hfr26 r1 n0 n1))) hsh2 hbi2
  exact L26 _ 0 0 _ (Nat.lt_succ_self _) (by omega) rfl (by omega) (fun r1 _ _ => rfl) (fun j9 hj9 => by rw [if_neg (Nat.not_lt_zero _)]; exact hsh j9 hj9) (fun j9 hj9 => by rw [if_neg (Nat.not_lt_zero _)]; exact hbi j9 hj9)
