set_option maxHeartbeats 1000000 in
set_option maxRecDepth 100000 in
theorem c_solve (l : Launch) {B : Nat} {D : va_G} {cI cZ cL cS cW : ClassId} {ad : Nat → Nat} {g : Nat → va_E} (w h : Nat) (hk hr : Bool) (sp wb : Int) (M K : Nat) (hM : M < 256) (dr : Nat → Int32) (hw : 1 ≤ w ∧ w ≤ 16) (hh : 1 ≤ h ∧ h ≤ 16) (h0 : g 0 = xE ad w h hk hr sp wb) (h2 : g 2 = rfA cS 8 (shs ad 9)) (T : Nat → ShT) (hT : bdT T) (hsh : ∀ j, j < 8 → g (9 + 8 * j) = shE (ad (9 + 8 * j + 1)) (T j)) (nb : Nat → Nat) (bf : Nat → Nat → Int32) (hnb : ∀ j, j < 8 → nb j = 0 ∨ nb j = 481) (hbi : ∀ j, j < 8 → g (9 + 8 * j + 1) = inA cI (nb j) (bf j)) (h7 : g 7 = rfA cW 8 (shs ad 13)) (h6 : g 6 = inA cI 256 dr) (ct0 lo : Nat → Nat) (hws : ∀ j, j < 8 → g (13 + 8 * j) = wsE ((ct0 j : Nat) : Int) ((lo j : Nat) : Int) (ad (13 + 8 * j + 1)) (ad (13 + 8 * j + 2)) (ad (13 + 8 * j + 3))) (nw : Nat → Nat) (un uc re : Nat → Nat → Int32) (hnw : ∀ j, j < 8 → nw j = 0 ∨ nw j = 481) (hun : ∀ j, j < 8 → g (13 + 8 * j + 1) = inA cI (nw j) (un j)) (huc : ∀ j, j < 8 → g (13 + 8 * j + 2) = inA cI (nw j) (uc j)) (hre : ∀ j, j < 8 → g (13 + 8 * j + 3) = inA cI (nw j) (re j)) (hus : ∀ j, j < 8 → Nat.testBit M j = true → okD (T j).2.2.1 (T j).2.2.2.1 ∧ (T j).2.2.2.2.1 = lzI (T j).2.2.1 (T j).2.2.2.1 w h ∧ (T j).2.2.2.2.2 = ctI (T j).2.2.1 (T j).2.2.2.1 w h ∧ nb j = 481) (hK : cN 8 (fun i => if Nat.testBit M i = true ∧ nw i = 0 then 1 else 0) ≤ K) : Met l y_A_solve (Cond.code y_A_solve b_A_solve 5 (some .int) :: wG) (rmF 2 90 (3 * K) (1443 * K)) (wPc B D classes (tyL cI cZ cL cS cW) (Zs B) 95 [.ref (ad 0), .int (iI (M : Int))] ad g) (QI B D classes 95 (fun v ad1 g1 => ∃ (n : Nat) (K9 : Nat → Bool) (val dr1 : Nat → Int32) (ct1 lo1 nw1 : Nat → Nat) (un1 uc1 re1 : Nat → Nat → Int32), Dn w h (fun j => Nat.testBit M j) (fun j c => bnN (T j).2.2.1 (T j).2.2.2.1 w h (c % 16) (c / 16)) (fun j => ctN (T j).2.2.1 (T j).2.2.2.1 w h) bf n K9 val ∧ v = iI (n : Int) ∧ (∀ c, K9 c = true → dr1 c = val c) ∧ (∀ j, j < 8 → Nat.testBit M j = true → nw1 j = 481 ∧ ct1 j = ctN (T j).2.2.1 (T j).2.2.2.1 w h ∧ wsOK w h (ctN (T j).2.2.1 (T j).2.2.2.1 w h) K9 val (fun c => bnN (T j).2.2.1 (T j).2.2.2.1 w h (c % 16) (c / 16)) (bf j) (lo1 j) (un1 j) (uc1 j) (re1 j)) ∧ (∀ j, j < 8 → ¬ Nat.testBit M j = true → nw1 j = nw j) ∧ g1 6 = inA cI 256 dr1 ∧ (∀ j, j < 8 → g1 (13 + 8 * j) = wsE ((ct1 j : Nat) : Int) ((lo1 j : Nat) : Int) (ad1 (13 + 8 * j + 1)) (ad1 (13 + 8 * j + 2)) (ad1 (13 + 8 * j + 3))) ∧ (∀ j, j < 8 → g1 (13 + 8 * j + 1) = inA cI (nw1 j) (un1 j)) ∧ (∀ j, j < 8 → g1 (13 + 8 * j + 2) = inA cI (nw1 j) (uc1 j)) ∧ (∀ j, j < 8 → g1 (13 + 8 * j + 3) = inA cI (nw1 j) (re1 j)) ∧ (∀ r1, r1 ≠ 6 → (∀ j9, j9 < 8 → r1 ≠ 13 + 8 * j9) → (∀ j9, j9 < 8 → r1 ≠ 13 + 8 * j9 + 1) → (∀ j9, j9 < 8 → r1 ≠ 13 + 8 * j9 + 2) → (∀ j9, j9 < 8 → r1 ≠ 13 + 8 * j9 + 3) → g1 r1 = g r1) ∧ ∀ r1, (∀ j9, j9 < 8 → r1 ≠ 13 + 8 * j9 + 1) → (∀ j9, j9 < 8 → r1 ≠ 13 + 8 * j9 + 2) → (∀ j9, j9 < 8 → r1 ≠ 13 + 8 * j9 + 3) → ad1 r1 = ad r1)) (3 * K) (1443 * K) (aB B) := by
  refine ofI (own := R_A) (by decide) rfl (Nat.le_of_ble_eq_true rfl) ?_
  intro p e s m below meth c Q C hnm hret
  change kV _ _ _ _ _ _ _ _ _ _ _ _ _ _ _ _ _ _ _ _ _ [(0, .ref (ad 0)), (1, .int (iI (M : Int)))] _ _
  refine v_iconst C d_A_solve_0 ?_
  refine v_istore_n (lv' := [(2, .int (iI 0)), (0, .ref (ad 0)), (1, .int (iI (M : Int)))]) C d_A_solve_1 rfl (by decide) rfl ?_
  refine v_lv (lv' := [(0, .ref (ad 0)), (1, .int (iI (M : Int))), (2, .int (iI 0))]) [1, 2, 0] rfl ?_
  have L2 : ∀ (d9 : Nat) (j : Nat) (q : Nat) (nw9 : Nat → Nat) (ct9 : Nat → Nat) (lo9 : Nat → Nat) (un9 : Nat → Nat → Int32) (uc9 : Nat → Nat → Int32) (re9 : Nat → Nat → Int32) (A2 : Nat → Nat) (G2 : Nat → va_E), 8 - j < d9 → (j ≤ 8) → (q ≤ cN j (fun i => if Nat.testBit M i = true ∧ nw i = 0 then 1 else 0)) → (∀ i, (i < j ∧ Nat.testBit M i = true → nw9 i = 481 ∧ ct9 i = ctN (T i).2.2.1 (T i).2.2.2.1 w h ∧ lo9 i = 0 ∧ un9 i = accY (bnN (T i).2.2.1 (T i).2.2.2.1 w h) (fun _ => iI 1) w h (fun _ => iI 0) ∧ uc9 i = accY (bnN (T i).2.2.1 (T i).2.2.2.1 w h) (fun c => iI (c : Int)) w h (fun _ => iI 0) ∧ ∀ k, k < ctN (T i).2.2.1 (T i).2.2.2.1 w h → re9 i k = bf i k) ∧ (¬ (i < j ∧ Nat.testBit M i = true) → nw9 i = nw i ∧ ct9 i = ct0 i ∧ lo9 i = lo i ∧ un9 i = un i ∧ uc9 i = uc i ∧ re9 i = re i)) → (∀ r1, (∀ j9, j9 < 8 → r1 ≠ 13 + 8 * j9 + 1) → (∀ j9, j9 < 8 → r1 ≠ 13 + 8 * j9 + 2) → (∀ j9, j9 < 8 → r1 ≠ 13 + 8 * j9 + 3) → A2 r1 = ad r1) → (∀ r1, (∀ j9, j9 < 8 → r1 ≠ 13 + 8 * j9) → (∀ j9, j9 < 8 → r1 ≠ 13 + 8 * j9 + 1) → (∀ j9, j9 < 8 → r1 ≠ 13 + 8 * j9 + 2) → (∀ j9, j9 < 8 → r1 ≠ 13 + 8 * j9 + 3) → G2 r1 = g r1) → (∀ j9, j9 < 8 → G2 (13 + 8 * j9) = .inr (2, [.int (iI ((ct9 j9 : Nat) : Int)), .int (iI ((lo9 j9 : Nat) : Int)), .ref (A2 (13 + 8 * j9 + 1)), .ref (A2 (13 + 8 * j9 + 2)), .ref (A2 (13 + 8 * j9 + 3))])) → (∀ j9, j9 < 8 → G2 (13 + 8 * j9 + 1) = inA cI (nw9 j9) (un9 j9)) → (∀ j9, j9 < 8 → G2 (13 + 8 * j9 + 2) = inA cI (nw9 j9) (uc9 j9)) → (∀ j9, j9 < 8 → G2 (13 + 8 * j9 + 3) = inA cI (nw9 j9) (re9 j9)) → kV p l e (rmF 2 90 (3 * K) (1443 * K)) s m ([.ref (ad 0), .int (iI (M : Int))] : List Value).toArray below meth c Q s.heap B D classes 5 95 (3 * q) (1443 * q) A2 G2 [(0, .ref (A2 0)), (1, .int (iI (M : Int))), (2, .int (iI (j : Int)))] [] 2 := by
    intro d9
    induction d9 with
    | zero => intro j q nw9 ct9 lo9 un9 uc9 re9 A2 G2 hd9; exact absurd hd9 (Nat.not_lt_zero _)
    | succ d9 ih2 =>
      intro j q nw9 ct9 lo9 un9 uc9 re9 A2 G2 hd2 hj hq hs9 hA2 hfr2 hws hun huc hre
      have hqK : q ≤ K := Nat.le_trans hq (Nat.le_trans (cN_mono hj) hK)
      have h0 : G2 0 = xE A2 w h hk hr sp wb := (hfr2 0 (fun j8 h8 => by omega) (fun j8 h8 => by omega) (fun j8 h8 => by omega) (fun j8 h8 => by omega)).trans (h0.trans (xE_ad (fun i hi => hA2 i (fun j8 h8 => by omega) (fun j8 h8 => by omega) (fun j8 h8 => by omega))))
      have h2 : G2 2 = rfA cS 8 (shs A2 9) := (hfr2 2 (fun j8 h8 => by omega) (fun j8 h8 => by omega) (fun j8 h8 => by omega) (fun j8 h8 => by omega)).trans (h2.trans (by rw [shs_ad (ad1 := A2) (fun s9 => hA2 _ (fun j8 h8 => by omega) (fun j8 h8 => by omega) (fun j8 h8 => by omega))]))
      have h7 : G2 7 = rfA cW 8 (shs A2 13) := (hfr2 7 (fun j8 h8 => by omega) (fun j8 h8 => by omega) (fun j8 h8 => by omega) (fun j8 h8 => by omega)).trans (h7.trans (by rw [shs_ad (ad1 := A2) (fun s9 => hA2 _ (fun j8 h8 => by omega) (fun j8 h8 => by omega) (fun j8 h8 => by omega))]))
      have h6 := (hfr2 6 (fun j8 h8 => by omega) (fun j8 h8 => by omega) (fun j8 h8 => by omega) (fun j8 h8 => by omega)).trans h6
      have hsh : ∀ j9, j9 < 8 → G2 (9 + 8 * j9) = shE (A2 (9 + 8 * j9 + 1)) (T j9) := fun j9 h9 => (hfr2 (9 + 8 * j9) (fun j8 h8 => by omega) (fun j8 h8 => by omega) (fun j8 h8 => by omega) (fun j8 h8 => by omega)).trans ((hsh j9 h9).trans (by rw [hA2 (9 + 8 * j9 + 1) (fun j8 h8 => by omega) (fun j8 h8 => by omega) (fun j8 h8 => by omega)]))
      have hbi : ∀ j9, j9 < 8 → G2 (9 + 8 * j9 + 1) = inA cI (nb j9) (bf j9) := fun j9 h9 => (hfr2 (9 + 8 * j9 + 1) (fun j8 h8 => by omega) (fun j8 h8 => by omega) (fun j8 h8 => by omega) (fun j8 h8 => by omega)).trans (hbi j9 h9)
      refine v_iload_n C d_A_solve_2 rfl 2 rfl ?_
      refine v_bipush C d_A_solve_3 (by decide +kernel) ?_
      refine v_icmp_geI C d_A_solve_5 (by omega) (by omega) (by omega) (by omega) (fun hb5 => ?_) (fun hb5 => ?_)
      · have hj8 : j = 8 := by omega
        have hwh : (w : Int) * (h : Int) ≤ 256 ∧ 1 ≤ (w : Int) * (h : Int) := by
          have z1 : (w : Int) * (h : Int) ≤ 16 * (h : Int) := Int.mul_le_mul_of_nonneg_right (by omega) (by omega)
          have z2 : 1 * (h : Int) ≤ (w : Int) * (h : Int) := Int.mul_le_mul_of_nonneg_right (by omega) (by omega)
          omega
        have hwn : ((w * h : Nat) : Int) = (w : Int) * (h : Int) := Int.natCast_mul w h
        have hok : ∀ i, i < 8 → Nat.testBit M i = true → nw9 i = 481 ∧ ct9 i = ctN (T i).2.2.1 (T i).2.2.2.1 w h ∧ ctN (T i).2.2.1 (T i).2.2.2.1 w h ≤ 481 := fun i hi z => by
          obtain ⟨a1, a2, -⟩ := (hs9 i).1 ⟨by omega, z⟩
          obtain ⟨o1, -, -, -⟩ := hus i hi z
          exact ⟨a1, a2, (ct_nat o1 hw.2 hh.2 hw.1 hh.1).1⟩
        have hw0 : ∀ i, i < 8 → Nat.testBit M i = true → wsOK w h (ctN (T i).2.2.1 (T i).2.2.2.1 w h) (fun _ => false) (fun _ => 0) (fun c => bnN (T i).2.2.1 (T i).2.2.2.1 w h (c % 16) (c / 16)) (bf i) (lo9 i) (un9 i) (uc9 i) (re9 i) := fun i hi z => by
          obtain ⟨a1, a2, a3, a4, a5, a6⟩ := (hs9 i).1 ⟨by omega, z⟩
          rw [a3, a4, a5]
          exact ws_0 hw.2 hh.2 (bnN (T i).2.2.1 (T i).2.2.2.1 w h) a6
        refine v_aload_n C d_A_solve_45 rfl 0 rfl ?_
        refine gf_A_9 C (by omega) h0 rfl d_A_solve_46 ?_
        refine v_aload_n C d_A_solve_49 rfl 0 rfl ?_
        refine gf_A_13 C (by omega) h0 rfl d_A_solve_50 ?_
        refine v_imulI C d_A_solve_53 ?_
        refine v_istore_n (lv' := [(2, .int (iI ((w : Int) * (h : Int)))), (0, .ref (A2 0)), (1, .int (iI (M : Int)))]) C d_A_solve_54 rfl (by decide) rfl ?_
        refine v_iconst C d_A_solve_55 ?_
        refine v_istore_n (lv' := [(3, .int (iI 0)), (2, .int (iI ((w : Int) * (h : Int)))), (0, .ref (A2 0)), (1, .int (iI (M : Int)))]) C d_A_solve_56 rfl (by decide) rfl ?_
        refine v_lv (lv' := [(0, .ref (A2 0)), (1, .int (iI (M : Int))), (2, .int (iI ((w : Int) * (h : Int)))), (3, .int (iI 0))]) [2, 3, 1, 0] rfl ?_
        have L57 : ∀ (d9 : Nat) (n : Nat) (K9 : Nat → Bool) (val : Nat → Int32) (dr9 : Nat → Int32) (lo8 : Nat → Nat) (un8 : Nat → Nat → Int32) (uc8 : Nat → Nat → Int32) (re8 : Nat → Nat → Int32) (G57 : Nat → va_E), w * h - n < d9 → (n ≤ w * h) → (Rn w h (fun j => Nat.testBit M j) (fun j c => bnN (T j).2.2.1 (T j).2.2.2.1 w h (c % 16) (c / 16)) (fun j => ctN (T j).2.2.1 (T j).2.2.2.1 w h) bf n K9 val) → (∀ c, K9 c = true → dr9 c = val c) → (∀ i, i < 8 → Nat.testBit M i = true → wsOK w h (ctN (T i).2.2.1 (T i).2.2.2.1 w h) K9 val (fun c => bnN (T i).2.2.1 (T i).2.2.2.1 w h (c % 16) (c / 16)) (bf i) (lo8 i) (un8 i) (uc8 i) (re8 i)) → (∀ r1, r1 ≠ 6 → (∀ j9, j9 < 8 → r1 ≠ 13 + 8 * j9) → (∀ j9, j9 < 8 → r1 ≠ 13 + 8 * j9 + 1) → (∀ j9, j9 < 8 → r1 ≠ 13 + 8 * j9 + 2) → (∀ j9, j9 < 8 → r1 ≠ 13 + 8 * j9 + 3) → G57 r1 = G2 r1) → G57 6 = inA cI 256 dr9 → (∀ j9, j9 < 8 → G57 (13 + 8 * j9) = .inr (2, [.int (iI ((ct9 j9 : Nat) : Int)), .int (iI ((lo8 j9 : Nat) : Int)), .ref (A2 (13 + 8 * j9 + 1)), .ref (A2 (13 + 8 * j9 + 2)), .ref (A2 (13 + 8 * j9 + 3))])) → (∀ j9, j9 < 8 → G57 (13 + 8 * j9 + 1) = inA cI (nw9 j9) (un8 j9)) → (∀ j9, j9 < 8 → G57 (13 + 8 * j9 + 2) = inA cI (nw9 j9) (uc8 j9)) → (∀ j9, j9 < 8 → G57 (13 + 8 * j9 + 3) = inA cI (nw9 j9) (re8 j9)) → kV p l e (rmF 2 90 (3 * K) (1443 * K)) s m ([.ref (ad 0), .int (iI (M : Int))] : List Value).toArray below meth c Q s.heap B D classes 5 95 (3 * q) (1443 * q) A2 G57 [(0, .ref (A2 0)), (1, .int (iI (M : Int))), (2, .int (iI ((w : Int) * (h : Int)))), (3, .int (iI (n : Int)))] [] 57 := by
          intro d9
          induction d9 with
          | zero => intro n K9 val dr9 lo8 un8 uc8 re8 G57 hd9; exact absurd hd9 (Nat.not_lt_zero _)
          | succ d9 ih57 =>
            intro n K9 val dr9 lo8 un8 uc8 re8 G57 hd57 hn hRn hdr hwk hfr57 h6 hws hun huc hre
            have h0 := (hfr57 0 (by omega) (fun j9 hj9 => by omega) (fun j9 hj9 => by omega) (fun j9 hj9 => by omega) (fun j9 hj9 => by omega)).trans h0
            have h2 := (hfr57 2 (by omega) (fun j9 hj9 => by omega) (fun j9 hj9 => by omega) (fun j9 hj9 => by omega) (fun j9 hj9 => by omega)).trans h2
            have h7 := (hfr57 7 (by omega) (fun j9 hj9 => by omega) (fun j9 hj9 => by omega) (fun j9 hj9 => by omega) (fun j9 hj9 => by omega)).trans h7
            have hsh := fun j9 (hj9 : j9 < 8) => (hfr57 (9 + 8 * j9) (by omega) (fun j8 hj8 => by omega) (fun j8 hj8 => by omega) (fun j8 hj8 => by omega) (fun j8 hj8 => by omega)).trans (hsh j9 hj9)
            have hbi := fun j9 (hj9 : j9 < 8) => (hfr57 (9 + 8 * j9 + 1) (by omega) (fun j8 hj8 => by omega) (fun j8 hj8 => by omega) (fun j8 hj8 => by omega) (fun j8 hj8 => by omega)).trans (hbi j9 hj9)
            refine v_iload_n C d_A_solve_57 rfl 3 rfl ?_
            refine v_iload_n C d_A_solve_58 rfl 2 rfl ?_
            refine v_icmp_geI C d_A_solve_59 (by omega) (by omega) (by omega) (by omega) (fun hb59 => ?_) (fun hb59 => ?_)
            · refine v_iload_n C d_A_solve_108 rfl 2 rfl ?_
              exact hret _ _ _ _ _ _ _ (by omega) (by omega) d_A_solve_109 ⟨n, K9, val, dr9, ct9, lo8, nw9, un8, uc8, re8, Dn_all hRn hw.2 hh.2 (by omega), (by rw [← hwn]; congr 1; omega), hdr, fun i hi z => ⟨(hok i hi z).1, (hok i hi z).2.1, hwk i hi z⟩, fun i hi z => ((hs9 i).2 (fun z2 => z z2.2)).1, h6, hws, hun, huc, hre, (fun r1 n0 n1 n2 n3 n4 => ((hfr57 r1 n0 n1 n2 n3 n4).trans (hfr2 r1 n1 n2 n3 n4))), (fun r1 n0 n1 n2 => (hA2 r1 n0 n1 n2))⟩
            · refine v_aload_n C d_A_solve_62 rfl 0 rfl ?_
              refine v_iload_n C d_A_solve_63 rfl 1 rfl ?_
              refine v_callVI (As := [.int (iI (M : Int))]) (st := []) (by omega) h0 rfl rfl C (c_lowestReadyShelf l w h hk hr sp wb M hM nw9 un8 h0 h7 ct9 lo8 hws hun (fun i hi z => by obtain ⟨a1, a2, a3⟩ := hok i hi z; have a4 := (hwk i hi z).1; exact ⟨a1, by omega, by omega⟩)) (lk_A_220 C.1.2.2.2.2 rfl rfl ⟨Nat.le_of_ble_eq_true rfl, Nat.le_of_ble_eq_true rfl⟩) rfl rfl (Nat.le_of_ble_eq_true rfl) d_A_solve_64 ⟨by show _ ≤ 3 * K; omega, by show _ ≤ 1443 * K; omega⟩ (fun w1 ad1 g1 hp1 => ?_)
              obtain ⟨lo7, hl7, hc7, hadr, hws, fr1⟩ := hp1
              subst hadr
              have h0 := (fr1 0 (fun j9 hj9 => by omega)).trans h0
              have h2 := (fr1 2 (fun j9 hj9 => by omega)).trans h2
              have h7 := (fr1 7 (fun j9 hj9 => by omega)).trans h7
              have h6 := (fr1 6 (fun j9 hj9 => by omega)).trans h6
              have hsh := fun j9 (hj9 : j9 < 8) => (fr1 (9 + 8 * j9) (fun j8 hj8 => by omega)).trans (hsh j9 hj9)
              have hbi := fun j9 (hj9 : j9 < 8) => (fr1 (9 + 8 * j9 + 1) (fun j8 hj8 => by omega)).trans (hbi j9 hj9)
              have hun := fun j9 (hj9 : j9 < 8) => (fr1 (13 + 8 * j9 + 1) (fun j8 hj8 => by omega)).trans (hun j9 hj9)
              have huc := fun j9 (hj9 : j9 < 8) => (fr1 (13 + 8 * j9 + 2) (fun j8 hj8 => by omega)).trans (huc j9 hj9)
              have hre := fun j9 (hj9 : j9 < 8) => (fr1 (13 + 8 * j9 + 3) (fun j8 hj8 => by omega)).trans (hre j9 hj9)
              have hwk : ∀ i, i < 8 → Nat.testBit M i = true → wsOK w h (ctN (T i).2.2.1 (T i).2.2.2.1 w h) K9 val (fun c => bnN (T i).2.2.1 (T i).2.2.2.1 w h (c % 16) (c / 16)) (bf i) (lo7 i) (un8 i) (uc8 i) (re8 i) := fun i hi z => by
                obtain ⟨a1, a2, a3⟩ := hok i hi z
                obtain ⟨b1, b2, b3⟩ := hl7 i hi
                exact ws_find (hwk i hi z) a3 (by have := b2 z; omega) b3
              obtain ⟨s0, hs8, hU0, rfl, hlt0, hun0, hbef⟩ | ⟨rfl, hnone⟩ := hc7
              · refine v_istore (lv' := [(4, .int (iI (s0 : Int))), (0, .ref (A2 0)), (1, .int (iI (M : Int))), (2, .int (iI ((w : Int) * (h : Int)))), (3, .int (iI (n : Int)))]) C d_A_solve_67 (by decide) rfl ?_
                refine v_iload C d_A_solve_69 0 rfl ?_
                refine v_iconst C d_A_solve_71 ?_
                refine v_icmp_neI C d_A_solve_72 (by omega) (by omega) (by omega) (by omega) (fun hb72 => ?_) (fun hb72 => ?_)
                · obtain ⟨k1, k2, k3, k4, k5⟩ := hwk s0 hs8 hU0
                  obtain ⟨m1, m2, m3⟩ := hok s0 hs8 hU0
                  have hnx : Nxt w h (fun j => Nat.testBit M j) (fun j c => bnN (T j).2.2.1 (T j).2.2.2.1 w h (c % 16) (c / 16)) (fun j => ctN (T j).2.2.1 (T j).2.2.2.1 w h) K9 s0 (lo7 s0) := by
                    refine ⟨hs8, hU0, by show lo7 s0 < ctN _ _ _ _; omega, (un_1 (k3 _ (by omega))).mp hun0, fun k' hk' => k2 k' hk', fun i hi z k' hk' => ?_⟩
                    obtain ⟨y1, y2, y3⟩ := hok i (by omega) z
                    exact (hwk i (by omega) z).2.1 k' (by rw [hbef i hi z, y2]; exact hk')
                  obtain ⟨c1, c2, -⟩ := cnt_one hnx.2.2.2.1
                  obtain ⟨x1, x2, x3, x4⟩ := uB_iff.mp c2
                  have huc0 := k4 (lo7 s0) (by omega)
                  have hre0 := k5 (lo7 s0) (by omega)
                  generalize hc0e : cod w h K9 (fun c => bnN (T s0).2.2.1 (T s0).2.2.2.1 w h (c % 16) (c / 16)) (lo7 s0) = c0 at c1 c2 x1 x2 x3 x4 huc0
                  refine v_aload_n C d_A_solve_77 rfl 1 rfl ?_
                  refine v_iload_n C d_A_solve_78 rfl 2 rfl ?_
                  refine v_aload_n C d_A_solve_79 rfl 1 rfl ?_
                  refine gf_A_53 C (by omega) h0 rfl d_A_solve_80 ?_
                  refine v_iload C d_A_solve_83 0 rfl ?_
                  refine v_aald C 4 (by omega) h7 rfl (s0 : Nat) (by omega) (by omega) (by omega) (rfl) d_A_solve_85 ?_
                  have hq2 := hws (s0 : Nat) (by omega)
                  have hq3 := huc (s0 : Nat) (by omega)
                  rw [m1] at hq3
                  refine v_callVI (As := []) (st := [.int (iI (M : Int)), .ref (A2 0)]) (by omega) hq2 rfl rfl C (c_readyCell l (13 + 8 * (s0 : Nat)) (lo7 s0) ((ct9 s0 : Nat) : Int) (uc8 s0) (by omega) (by omega) hq2 hq3) (lk_A_223 C.1.2.2.2.2 rfl rfl ⟨Nat.le_of_ble_eq_true rfl, Nat.le_of_ble_eq_true rfl⟩) rfl rfl (Nat.le_of_ble_eq_true rfl) d_A_solve_86 ⟨by show _ ≤ 3 * K; omega, by show _ ≤ 1443 * K; omega⟩ (fun w4 ad4 g4 hp4 => ?_)
                  obtain ⟨hrv, hadr, hgr⟩ := hp4
                  subst hadr; subst hgr; rw [huc0] at hrv; subst hrv
                  refine v_aload_n C d_A_solve_89 rfl 1 rfl ?_
                  refine gf_A_53 C (by omega) h0 rfl d_A_solve_90 ?_
                  refine v_iload C d_A_solve_93 0 rfl ?_
                  refine v_aald C 4 (by omega) h7 rfl (s0 : Nat) (by omega) (by omega) (by omega) (rfl) d_A_solve_95 ?_
                  have hq5 := hre (s0 : Nat) (by omega)
                  rw [m1] at hq5
                  refine v_callVI (As := []) (st := [.int (iI (c0 : Int)), .int (iI (M : Int)), .ref (A2 0)]) (by omega) hq2 rfl rfl C (c_readyNumber l (13 + 8 * (s0 : Nat)) (lo7 s0) ((ct9 s0 : Nat) : Int) (re8 s0) (by omega) (by omega) hq2 hq5) (lk_A_226 C.1.2.2.2.2 rfl rfl ⟨Nat.le_of_ble_eq_true rfl, Nat.le_of_ble_eq_true rfl⟩) rfl rfl (Nat.le_of_ble_eq_true rfl) d_A_solve_96 ⟨by show _ ≤ 3 * K; omega, by show _ ≤ 1443 * K; omega⟩ (fun w6 ad6 g6 hp6 => ?_)
                  obtain ⟨hrv, hadr, hgr⟩ := hp6
                  subst hadr; subst hgr; subst hrv
                  refine v_callVV (As := [.int (iI (M : Int)), .int (iI (c0 : Int)), .int (re8 s0 (lo7 s0))]) (st := []) (by omega) h0 rfl rfl C (c_makeKnown l w h hk hr sp wb M c0 hM c1 (re8 s0 (lo7 s0)) nw9 (fun i => bnN (T i).2.2.1 (T i).2.2.2.1 w h (c0 % 16) (c0 / 16)) dr9 un8 uc8 re8 h0 h2 T hT hsh h7 h6 ct9 lo7 hws hun huc hre (fun i hi z => by obtain ⟨a1, a2, a3⟩ := hok i hi z; obtain ⟨o1, o2, o3, o4⟩ := hus i hi z; have b1 := bn_nat o1 hw.2 hh.2 x1 x2; have b2 := (hwk i hi z).1; rw [o2]; exact ⟨a1, by omega, b1.1, by omega⟩)) (lk_A_229 C.1.2.2.2.2 rfl rfl ⟨Nat.le_of_ble_eq_true rfl, Nat.le_of_ble_eq_true rfl⟩) rfl rfl (Nat.le_of_ble_eq_true rfl) d_A_solve_99 ⟨by show _ ≤ 3 * K; omega, by show _ ≤ 1443 * K; omega⟩ (fun ad7 g7 hp7 => ?_)
                  obtain ⟨un7, uc7, re7, lo6, ht7, hadr, h6, hws, hun, huc, hre, fr7⟩ := hp7
                  subst hadr
                  have h0 := (fr7 0 (by omega) (fun j9 hj9 => by omega) (fun j9 hj9 => by omega) (fun j9 hj9 => by omega) (fun j9 hj9 => by omega)).trans h0
                  have h2 := (fr7 2 (by omega) (fun j9 hj9 => by omega) (fun j9 hj9 => by omega) (fun j9 hj9 => by omega) (fun j9 hj9 => by omega)).trans h2
                  have h7 := (fr7 7 (by omega) (fun j9 hj9 => by omega) (fun j9 hj9 => by omega) (fun j9 hj9 => by omega) (fun j9 hj9 => by omega)).trans h7
                  have hsh := fun j9 (hj9 : j9 < 8) => (fr7 (9 + 8 * j9) (by omega) (fun j8 hj8 => by omega) (fun j8 hj8 => by omega) (fun j8 hj8 => by omega) (fun j8 hj8 => by omega)).trans (hsh j9 hj9)
                  have hbi := fun j9 (hj9 : j9 < 8) => (fr7 (9 + 8 * j9 + 1) (by omega) (fun j8 hj8 => by omega) (fun j8 hj8 => by omega) (fun j8 hj8 => by omega) (fun j8 hj8 => by omega)).trans (hbi j9 hj9)
                  have hRn2 : Rn w h (fun j => Nat.testBit M j) (fun j c => bnN (T j).2.2.1 (T j).2.2.2.1 w h (c % 16) (c / 16)) (fun j => ctN (T j).2.2.1 (T j).2.2.2.1 w h) bf (n + 1) (va_up K9 c0 true) (va_up val c0 (re8 s0 (lo7 s0))) := by
                    refine ⟨K9, val, s0, lo7 s0, hRn, hnx, ?_, ?_⟩
                    · rw [← hc0e]
                    · rw [hre0, ← hc0e]
                  have hdr2 : ∀ c, va_up K9 c0 true c = true → upd dr9 c0 (re8 s0 (lo7 s0)) c = va_up val c0 (re8 s0 (lo7 s0)) c := fun c z => by
                    by_cases hcc : c = c0
                    · subst hcc; rw [pk_us, va_up_self]
                    · rw [pk_un hcc, va_up_ne _ _ hcc]; rw [va_up_ne _ _ hcc] at z; exact hdr c z
                  have hwk2 : ∀ i, i < 8 → Nat.testBit M i = true → wsOK w h (ctN (T i).2.2.1 (T i).2.2.2.1 w h) (va_up K9 c0 true) (va_up val c0 (re8 s0 (lo7 s0))) (fun c => bnN (T i).2.2.1 (T i).2.2.2.1 w h (c % 16) (c / 16)) (bf i) (lo6 i) (un7 i) (uc7 i) (re7 i) := fun i hi z => by
                    obtain ⟨a1, a2, a3⟩ := hok i hi z
                    obtain ⟨o1, o2, o3, o4⟩ := hus i hi z
                    obtain ⟨t1, t2, t3, t4⟩ := (ht7 i hi).1 z
                    have b1 := bn_nat o1 hw.2 hh.2 x1 x2
                    rw [t1, t2, t3]
                    exact ws_take (b := fun c => bnN (T i).2.2.1 (T i).2.2.2.1 w h (c % 16) (c / 16)) (hwk i hi z) a3 c1 x1 x2 x4 (by show bnN (T i).2.2.1 (T i).2.2.2.1 w h (c0 % 16) (c0 / 16) < 481; omega) t4
                  refine v_iinc (lv' := [(3, .int (iI ((n : Int) + 1))), (4, .int (iI (s0 : Int))), (0, .ref (A2 0)), (1, .int (iI (M : Int))), (2, .int (iI ((w : Int) * (h : Int))))]) C d_A_solve_102 4 rfl (by decide) rfl ?_
                  refine v_goto C d_A_solve_105 ?_
                  refine v_lv (lv' := [(0, .ref (A2 0)), (1, .int (iI (M : Int))), (2, .int (iI ((w : Int) * (h : Int)))), (3, .int (iI ((n : Int) + 1)))]) [2, 3, 4, 0] rfl ?_
                  exact ih57 (n + 1) _ _ _ _ _ _ _ _ (by omega) (by omega) hRn2 hdr2 hwk2 (fun r1 n0 n1 n2 n3 n4 => ((fr7 r1 n0 n1 n2 n3 n4).trans ((fr1 r1 n1).trans (hfr57 r1 n0 n1 n2 n3 n4)))) h6 hws hun huc hre
                · refine v_iload_n C d_A_solve_75 rfl 4 rfl ?_
                  exact absurd hb72 (by omega)
              · refine v_istore (lv' := [(4, .int (iI (-1))), (0, .ref (A2 0)), (1, .int (iI (M : Int))), (2, .int (iI ((w : Int) * (h : Int)))), (3, .int (iI (n : Int)))]) C d_A_solve_67 (by decide) rfl ?_
                refine v_iload C d_A_solve_69 0 rfl ?_
                refine v_iconst C d_A_solve_71 ?_
                refine v_icmp_neI C d_A_solve_72 (by omega) (by omega) (by omega) (by omega) (fun hb72 => ?_) (fun hb72 => ?_)
                · exact absurd rfl hb72
                · refine v_iload_n C d_A_solve_75 rfl 4 rfl ?_
                  exact hret _ _ _ _ _ _ _ (by omega) (by omega) d_A_solve_76 ⟨n, K9, val, dr9, ct9, lo7, nw9, un8, uc8, re8, ⟨hRn, fun s9 k9 hq9 => by obtain ⟨y1, y2, y3⟩ := hok s9 hq9.1 hq9.2.1; exact (hwk s9 hq9.1 hq9.2.1).2.1 k9 (by rw [hnone s9 hq9.1 hq9.2.1, y2]; exact hq9.2.2.1) hq9.2.2.2.1⟩, rfl, hdr, fun i hi z => ⟨(hok i hi z).1, (hok i hi z).2.1, hwk i hi z⟩, fun i hi z => ((hs9 i).2 (fun z2 => z z2.2)).1, h6, hws, hun, huc, hre, (fun r1 n0 n1 n2 n3 n4 => ((fr1 r1 n1).trans ((hfr57 r1 n0 n1 n2 n3 n4).trans (hfr2 r1 n1 n2 n3 n4)))), (fun r1 n0 n1 n2 => (hA2 r1 n0 n1 n2))⟩
        exact L57 _ 0 (fun _ => false) (fun _ => 0) dr lo9 un9 uc9 re9 _ (Nat.lt_succ_self _) (Nat.zero_le _) ⟨rfl, rfl⟩ (fun c z => absurd z (by decide)) hw0 (fun r1 _ _ _ _ _ => rfl) h6 hws hun huc hre
      · refine v_iload_n C d_A_solve_8 rfl 1 rfl ?_
        refine v_iload_n C d_A_solve_9 rfl 2 rfl ?_
        refine v_callSI (As := [.int (iI (M : Int)), .int (iI (j : Int))]) (st := []) C (c_isIn l M j hM (by omega)) (lk_A_177 C.1.2.2.2.2 rfl rfl ⟨Nat.le_of_ble_eq_true rfl, Nat.le_of_ble_eq_true rfl⟩) rfl rfl (Nat.le_of_ble_eq_true rfl) d_A_solve_10 ⟨by show _ ≤ 3 * K; omega, by show _ ≤ 1443 * K; omega⟩ (fun w8 ad8 g8 hp8 => ?_)
        obtain ⟨bb8, rfl, hbb8, rfl, rfl⟩ := hp8
        refine v_if_eqB C d_A_solve_13 (fun hb13 => ?_) (fun hb13 => ?_)
        · refine v_iinc (lv' := [(2, .int (iI ((j : Int) + 1))), (0, .ref (A2 0)), (1, .int (iI (M : Int)))]) C d_A_solve_39 2 rfl (by decide) rfl ?_
          refine v_goto C d_A_solve_42 ?_
          refine v_lv (lv' := [(0, .ref (A2 0)), (1, .int (iI (M : Int))), (2, .int (iI ((j : Int) + 1)))]) [1, 2, 0] rfl ?_
          have hnj : ∀ i, Nat.testBit M i = true → i ≠ j := fun i z e9 => by subst e9; exact absurd z (by rw [← hbb8, hb13]; decide)
          exact ih2 (j + 1) q nw9 ct9 lo9 un9 uc9 re9 _ _ (by omega) (by omega) (Nat.le_trans hq (cN_mono (by omega))) (fun i => ⟨fun z => (hs9 i).1 ⟨by have := hnj i z.2; omega, z.2⟩, fun z => (hs9 i).2 (fun z2 => z ⟨by omega, z2.2⟩)⟩) (fun r1 n0 n1 n2 => (hA2 r1 n0 n1 n2)) (fun r1 n0 n1 n2 n3 => (hfr2 r1 n0 n1 n2 n3)) hws hun huc hre
        · refine v_aload_n C d_A_solve_16 rfl 0 rfl ?_
          refine gf_A_53 C (by omega) h0 rfl d_A_solve_17 ?_
          refine v_iload_n C d_A_solve_20 rfl 2 rfl ?_
          refine v_aald C 4 (by omega) h7 rfl (j : Nat) (by omega) (by omega) (by omega) (rfl) d_A_solve_21 ?_
          refine v_aload_n C d_A_solve_22 rfl 0 rfl ?_
          refine gf_A_22 C (by omega) h0 rfl d_A_solve_23 ?_
          refine v_iload_n C d_A_solve_26 rfl 2 rfl ?_
          refine v_aald C 3 (by omega) h2 rfl (j : Nat) (by omega) (by omega) (by omega) (rfl) d_A_solve_27 ?_
          refine v_aload_n C d_A_solve_28 rfl 0 rfl ?_
          refine gf_A_9 C (by omega) h0 rfl d_A_solve_29 ?_
          refine v_aload_n C d_A_solve_32 rfl 0 rfl ?_
          refine gf_A_13 C (by omega) h0 rfl d_A_solve_33 ?_
          have hq9 := hws (j : Nat) (by omega)
          have hq10 := hun (j : Nat) (by omega)
          have hq11 := huc (j : Nat) (by omega)
          have hq12 := hre (j : Nat) (by omega)
          have hq13 := hsh (j : Nat) (by omega)
          have hq14 := hbi (j : Nat) (by omega)
          have hUj : Nat.testBit M j = true := hbb8.symm.trans hb13
          obtain ⟨o1, o2, o3, o4⟩ := hus j (by omega) hUj
          obtain ⟨p1, p2, p3, p4, p5, p6⟩ := (hs9 j).2 (fun z => absurd z.1 (Nat.lt_irrefl _))
          obtain ⟨cc1, cc2, cc3⟩ := ct_nat o1 hw.2 hh.2 hw.1 hh.1
          rw [o4] at hq14
          have hqq : q + (if nw9 j = 0 then 1 else 0) ≤ cN (j + 1) (fun i => if Nat.testBit M i = true ∧ nw i = 0 then 1 else 0) := by
            show _ ≤ cN j (fun i => if Nat.testBit M i = true ∧ nw i = 0 then 1 else 0) + (if Nat.testBit M j = true ∧ nw j = 0 then 1 else 0)
            rw [p1]
            by_cases hz : nw j = 0
            · rw [if_pos hz, if_pos ⟨hUj, hz⟩]; omega
            · rw [if_neg hz]; omega
          have hqK2 : q + (if nw9 j = 0 then 1 else 0) ≤ K := Nat.le_trans hqq (Nat.le_trans (cN_mono (by omega)) hK)
          generalize hkj : (if nw9 j = 0 then 1 else 0) = kj at hqq hqK2
          refine v_callVV (As := [.ref (A2 (9 + 8 * (j : Nat))), .int (iI (w : Int)), .int (iI (h : Int))]) (st := []) (by omega) hq9 rfl rfl C (c_begin l (13 + 8 * (j : Nat)) (9 + 8 * (j : Nat)) (ctN (T j).2.2.1 (T j).2.2.2.1 w h) (nw9 j) kj w h ((ct9 j : Nat) : Int) ((lo9 j : Nat) : Int) (un9 j) (uc9 j) (re9 j) (bf j) (T j) (bnN (T j).2.2.1 (T j).2.2.2.1 w h) (by omega) (by omega) (by omega) (by rw [p1]; exact hnw j (by omega)) (fun z => by rw [if_pos z] at hkj; omega) hw.2 hh.2 (o3.trans cc2.symm) cc1 (fun x y hx hy => by rw [o2]; exact ⟨(bn_nat o1 hw.2 hh.2 hx hy).1, by have := bn_nat o1 hw.2 hh.2 hx hy; omega⟩) hq9 hq10 hq11 hq12 hq13 hq14) (lk_A_216 C.1.2.2.2.2 rfl rfl ⟨Nat.le_of_ble_eq_true rfl, Nat.le_of_ble_eq_true rfl⟩) rfl rfl (Nat.le_of_ble_eq_true rfl) d_A_solve_36 ⟨by show _ ≤ 3 * K; omega, by show _ ≤ 1443 * K; omega⟩ (fun ad15 g15 hp15 => ?_)
          obtain ⟨f3, hf3, t0, t1, t2, t3, fr15, hA15⟩ := hp15
          have hws2 : ∀ j9, j9 < 8 → g15 (13 + 8 * j9) = wsE ((va_up ct9 j (ctN (T j).2.2.1 (T j).2.2.2.1 w h) j9 : Nat) : Int) ((va_up lo9 j 0 j9 : Nat) : Int) (ad15 (13 + 8 * j9 + 1)) (ad15 (13 + 8 * j9 + 2)) (ad15 (13 + 8 * j9 + 3)) := fun j9 h9 => by
            by_cases hjj : j9 = j
            · subst hjj; rw [va_up_self, va_up_self]; exact t0
            · rw [va_up_ne _ _ hjj, va_up_ne _ _ hjj, hA15 (13 + 8 * j9 + 1) (by omega) (by omega) (by omega), hA15 (13 + 8 * j9 + 2) (by omega) (by omega) (by omega), hA15 (13 + 8 * j9 + 3) (by omega) (by omega) (by omega), fr15 (13 + 8 * j9) (by omega) (by omega) (by omega) (by omega)]; exact hws j9 h9
          have hun2 : ∀ j9, j9 < 8 → g15 (13 + 8 * j9 + 1) = inA cI (va_up nw9 j 481 j9) (va_up un9 j (accY (bnN (T j).2.2.1 (T j).2.2.2.1 w h) (fun _ => iI 1) w h (fun _ => iI 0)) j9) := fun j9 h9 => by
            by_cases hjj : j9 = j
            · subst hjj; rw [va_up_self, va_up_self]; exact t1
            · rw [va_up_ne _ _ hjj, va_up_ne _ _ hjj, fr15 (13 + 8 * j9 + 1) (by omega) (by omega) (by omega) (by omega)]; exact hun j9 h9
          have huc2 : ∀ j9, j9 < 8 → g15 (13 + 8 * j9 + 2) = inA cI (va_up nw9 j 481 j9) (va_up uc9 j (accY (bnN (T j).2.2.1 (T j).2.2.2.1 w h) (fun c => iI (c : Int)) w h (fun _ => iI 0)) j9) := fun j9 h9 => by
            by_cases hjj : j9 = j
            · subst hjj; rw [va_up_self, va_up_self]; exact t2
            · rw [va_up_ne _ _ hjj, va_up_ne _ _ hjj, fr15 (13 + 8 * j9 + 2) (by omega) (by omega) (by omega) (by omega)]; exact huc j9 h9
          have hre2 : ∀ j9, j9 < 8 → g15 (13 + 8 * j9 + 3) = inA cI (va_up nw9 j 481 j9) (va_up re9 j (f3) j9) := fun j9 h9 => by
            by_cases hjj : j9 = j
            · subst hjj; rw [va_up_self, va_up_self]; exact t3
            · rw [va_up_ne _ _ hjj, va_up_ne _ _ hjj, fr15 (13 + 8 * j9 + 3) (by omega) (by omega) (by omega) (by omega)]; exact hre j9 h9
          refine v_lvE (lv' := [(0, .ref (ad15 0)), (1, .int (iI (M : Int))), (2, .int (iI (j : Int)))]) (by rw [hA15 0 (by omega) (by omega) (by omega)]) ?_
          refine v_iinc (lv' := [(2, .int (iI ((j : Int) + 1))), (0, .ref (ad15 0)), (1, .int (iI (M : Int)))]) C d_A_solve_39 2 rfl (by decide) rfl ?_
          refine v_goto C d_A_solve_42 ?_
          refine v_lv (lv' := [(0, .ref (ad15 0)), (1, .int (iI (M : Int))), (2, .int (iI ((j : Int) + 1)))]) [1, 2, 0] rfl ?_
          have hs8 : ∀ i, (i < j + 1 ∧ Nat.testBit M i = true → (va_up nw9 j 481) i = 481 ∧ (va_up ct9 j (ctN (T j).2.2.1 (T j).2.2.2.1 w h)) i = ctN (T i).2.2.1 (T i).2.2.2.1 w h ∧ (va_up lo9 j 0) i = 0 ∧ (va_up un9 j (accY (bnN (T j).2.2.1 (T j).2.2.2.1 w h) (fun _ => iI 1) w h (fun _ => iI 0))) i = accY (bnN (T i).2.2.1 (T i).2.2.2.1 w h) (fun _ => iI 1) w h (fun _ => iI 0) ∧ (va_up uc9 j (accY (bnN (T j).2.2.1 (T j).2.2.2.1 w h) (fun c => iI (c : Int)) w h (fun _ => iI 0))) i = accY (bnN (T i).2.2.1 (T i).2.2.2.1 w h) (fun c => iI (c : Int)) w h (fun _ => iI 0) ∧ ∀ k, k < ctN (T i).2.2.1 (T i).2.2.2.1 w h → (va_up re9 j f3) i k = bf i k) ∧ (¬ (i < j + 1 ∧ Nat.testBit M i = true) → (va_up nw9 j 481) i = nw i ∧ (va_up ct9 j (ctN (T j).2.2.1 (T j).2.2.2.1 w h)) i = ct0 i ∧ (va_up lo9 j 0) i = lo i ∧ (va_up un9 j (accY (bnN (T j).2.2.1 (T j).2.2.2.1 w h) (fun _ => iI 1) w h (fun _ => iI 0))) i = un i ∧ (va_up uc9 j (accY (bnN (T j).2.2.1 (T j).2.2.2.1 w h) (fun c => iI (c : Int)) w h (fun _ => iI 0))) i = uc i ∧ (va_up re9 j f3) i = re i) := fun i => by
            by_cases hij : i = j
            · subst hij
              rw [va_up_self, va_up_self, va_up_self, va_up_self, va_up_self, va_up_self]
              exact ⟨fun _ => ⟨rfl, rfl, rfl, rfl, rfl, hf3⟩, fun z => absurd ⟨Nat.lt_succ_self _, hUj⟩ z⟩
            · rw [va_up_ne _ _ hij, va_up_ne _ _ hij, va_up_ne _ _ hij, va_up_ne _ _ hij, va_up_ne _ _ hij, va_up_ne _ _ hij]
              exact ⟨fun z => (hs9 i).1 ⟨by omega, z.2⟩, fun z => (hs9 i).2 (fun z2 => z ⟨by omega, z2.2⟩)⟩
          refine v_wid (k := 3 * (q + kj)) (n := 1443 * (q + kj)) (by omega) (by omega) ?_
          exact ih2 (j + 1) (q + kj) _ _ _ _ _ _ _ _ (by omega) (by omega) hqq hs8 (fun r1 n0 n1 n2 => ((hA15 r1 (n0 (j : Nat) (by omega)) (n1 (j : Nat) (by omega)) (n2 (j : Nat) (by omega))).trans (hA2 r1 n0 n1 n2))) (fun r1 n0 n1 n2 n3 => ((fr15 r1 (n1 (j : Nat) (by omega)) (n2 (j : Nat) (by omega)) (n3 (j : Nat) (by omega)) (n0 (j : Nat) (by omega))).trans (hfr2 r1 n0 n1 n2 n3))) hws2 hun2 huc2 hre2
  exact L2 _ 0 0 nw ct0 lo un uc re _ _ (Nat.lt_succ_self _) (by omega) (Nat.zero_le _) (fun i => ⟨fun z => absurd z.1 (by omega), fun _ => ⟨rfl, rfl, rfl, rfl, rfl, rfl⟩⟩) (fun r1 _ _ _ => rfl) (fun r1 _ _ _ _ => rfl) hws hun huc hre
