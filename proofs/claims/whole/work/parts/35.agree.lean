/-- the shelves of M are of one picture -/
def agr (w h : Nat) (T : Nat → ShT) (bf : Nat → Nat → Int32) (M : Nat) : Prop := ∃ (n : Nat) (K9 : Nat → Bool) (val : Nat → Int32), Dn w h (fun j => Nat.testBit M j) (fun j c => bnN (T j).2.2.1 (T j).2.2.2.1 w h (c % 16) (c / 16)) (fun j => ctN (T j).2.2.1 (T j).2.2.2.1 w h) bf n K9 val ∧ n = w * h ∧ ∀ j, j < 8 → Nat.testBit M j = true → ∀ k, k < ctN (T j).2.2.1 (T j).2.2.2.1 w h → rst w h K9 (fun c => bnN (T j).2.2.1 (T j).2.2.2.1 w h (c % 16) (c / 16)) (bf j) val k = 0
theorem agr_iff {w h M n : Nat} {T : Nat → ShT} {bf : Nat → Nat → Int32} {K9 : Nat → Bool} {val : Nat → Int32} (H : Dn w h (fun j => Nat.testBit M j) (fun j c => bnN (T j).2.2.1 (T j).2.2.2.1 w h (c % 16) (c / 16)) (fun j => ctN (T j).2.2.1 (T j).2.2.2.1 w h) bf n K9 val) : agr w h T bf M ↔ n = w * h ∧ ∀ j, j < 8 → Nat.testBit M j = true → ∀ k, k < ctN (T j).2.2.1 (T j).2.2.2.1 w h → rst w h K9 (fun c => bnN (T j).2.2.1 (T j).2.2.2.1 w h (c % 16) (c / 16)) (bf j) val k = 0 := by
  constructor
  · rintro ⟨n', K', v', h1, h2, h3⟩
    obtain ⟨rfl, rfl, rfl⟩ := Dn_uniq H h1
    exact ⟨h2, h3⟩
  · exact fun q => ⟨n, K9, val, H, q.1, q.2⟩
theorem out_tab : ∀ M : Nat, M < 256 → ∀ s : Nat, s < 8 → Nat.testBit M s = true → (iI (M : Int) &&& ((iI 1 <<< (iI (s : Int) &&& 31)) ^^^ iI (-1))) = iI ((M - 2 ^ s : Nat) : Int) := by decide +kernel
theorem out_bit : ∀ M : Nat, M < 256 → ∀ s : Nat, s < 8 → Nat.testBit M s = true → ∀ j : Nat, j < 8 → Nat.testBit (M - 2 ^ s) j = (Nat.testBit M j && !(j == s)) := by decide +kernel
theorem tb_i (n : Nat) : (iI (n : Int)).toBitVec = BitVec.ofNat 32 n := by rw [iI_nat]; rfl
theorem and_not {A B : Nat} (hA : A < 256) : (iI (A : Int) &&& (iI (B : Int) ^^^ iI (-1))) = 0 ↔ ∀ j, j < 8 → Nat.testBit A j = true → Nat.testBit B j = true := by
  rw [← Int32.toBitVec_inj, Int32.toBitVec_and, Int32.toBitVec_xor, tb_i, tb_i, show (iI (-1)).toBitVec = BitVec.allOnes 32 by decide, show (0 : Int32).toBitVec = 0#32 by rfl]
  constructor
  · intro h j hj hb
    have h1 := congrArg (fun x => x.getLsbD j) h
    simp only [BitVec.getLsbD_and, BitVec.getLsbD_xor, BitVec.getLsbD_ofNat, BitVec.getLsbD_allOnes, BitVec.getLsbD_zero] at h1
    have h32 : j < 32 := by omega
    simpa [h32, hb] using h1
  · intro h
    apply BitVec.eq_of_getLsbD_eq
    intro j hj
    simp only [BitVec.getLsbD_and, BitVec.getLsbD_xor, BitVec.getLsbD_ofNat, BitVec.getLsbD_allOnes, BitVec.getLsbD_zero]
    by_cases hj8 : j < 8
    · by_cases hb : Nat.testBit A j = true
      · simp [hb, h j hj8 hb, hj]
      · simp [hb]
    · have hb : Nat.testBit A j = false := Nat.testBit_lt_two_pow (Nat.lt_of_lt_of_le hA (by
        have : 2 ^ 8 ≤ 2 ^ j := Nat.pow_le_pow_right (by omega) (by omega)
        omega))
      simp [hb]
set_option maxHeartbeats 1000000 in
set_option maxRecDepth 100000 in
theorem c_areOfOnePicture (l : Launch) {B : Nat} {D : va_G} {cI cZ cL cS cW : ClassId} {ad : Nat → Nat} {g : Nat → va_E} (w h : Nat) (hk hr : Bool) (sp wb : Int) (M K : Nat) (hM : M < 256) (dr : Nat → Int32) (hw : 1 ≤ w ∧ w ≤ 16) (hh : 1 ≤ h ∧ h ≤ 16) (h0 : g 0 = xE ad w h hk hr sp wb) (h2 : g 2 = rfA cS 8 (shs ad 9)) (T : Nat → ShT) (hT : bdT T) (hsh : ∀ j, j < 8 → g (9 + 8 * j) = shE (ad (9 + 8 * j + 1)) (T j)) (nb : Nat → Nat) (bf : Nat → Nat → Int32) (hnb : ∀ j, j < 8 → nb j = 0 ∨ nb j = 481) (hbi : ∀ j, j < 8 → g (9 + 8 * j + 1) = inA cI (nb j) (bf j)) (h7 : g 7 = rfA cW 8 (shs ad 13)) (h6 : g 6 = inA cI 256 dr) (ct0 lo : Nat → Nat) (hws : ∀ j, j < 8 → g (13 + 8 * j) = wsE ((ct0 j : Nat) : Int) ((lo j : Nat) : Int) (ad (13 + 8 * j + 1)) (ad (13 + 8 * j + 2)) (ad (13 + 8 * j + 3))) (nw : Nat → Nat) (un uc re : Nat → Nat → Int32) (hnw : ∀ j, j < 8 → nw j = 0 ∨ nw j = 481) (hun : ∀ j, j < 8 → g (13 + 8 * j + 1) = inA cI (nw j) (un j)) (huc : ∀ j, j < 8 → g (13 + 8 * j + 2) = inA cI (nw j) (uc j)) (hre : ∀ j, j < 8 → g (13 + 8 * j + 3) = inA cI (nw j) (re j)) (hgeo : ∀ j, j < 8 → (T j).1 = true → okD (T j).2.2.1 (T j).2.2.2.1 ∧ (T j).2.2.2.2.1 = lzI (T j).2.2.1 (T j).2.2.2.1 w h ∧ (T j).2.2.2.2.2 = ctI (T j).2.2.1 (T j).2.2.2.1 w h ∧ nb j = 481) (hus : ∀ j, j < 8 → Nat.testBit M j = true → (T j).1 = true) (hK : cN 8 (fun i => if Nat.testBit M i = true ∧ nw i = 0 then 1 else 0) ≤ K) : Met l y_A_areOfOnePicture (Cond.code y_A_areOfOnePicture b_A_areOfOnePicture 2 (some .boolean) :: wG) (rmF 3 120 (3 * K) (1443 * K)) (wPc B D classes (tyL cI cZ cL cS cW) (Zs B) 95 [.ref (ad 0), .int (iI (M : Int))] ad g) (QI B D classes 95 (fun v9 ad1 g1 => ∃ v, v9 = bI v ∧ ((v = true ↔ agr w h T bf M) ∧ ∃ (dr1 : Nat → Int32) (ct1 lo1 nw1 : Nat → Nat) (un1 uc1 re1 : Nat → Nat → Int32), (∀ j, j < 8 → Nat.testBit M j = true → nw1 j = 481) ∧ (∀ j, j < 8 → nw1 j = 0 ∨ nw1 j = 481) ∧ (∀ j, j < 8 → nw j = 481 → nw1 j = 481) ∧ g1 6 = inA cI 256 dr1 ∧ (∀ j, j < 8 → g1 (13 + 8 * j) = wsE ((ct1 j : Nat) : Int) ((lo1 j : Nat) : Int) (ad1 (13 + 8 * j + 1)) (ad1 (13 + 8 * j + 2)) (ad1 (13 + 8 * j + 3))) ∧ (∀ j, j < 8 → g1 (13 + 8 * j + 1) = inA cI (nw1 j) (un1 j)) ∧ (∀ j, j < 8 → g1 (13 + 8 * j + 2) = inA cI (nw1 j) (uc1 j)) ∧ (∀ j, j < 8 → g1 (13 + 8 * j + 3) = inA cI (nw1 j) (re1 j)) ∧ (∀ r1, r1 ≠ 6 → (∀ j9, j9 < 8 → r1 ≠ 13 + 8 * j9) → (∀ j9, j9 < 8 → r1 ≠ 13 + 8 * j9 + 1) → (∀ j9, j9 < 8 → r1 ≠ 13 + 8 * j9 + 2) → (∀ j9, j9 < 8 → r1 ≠ 13 + 8 * j9 + 3) → g1 r1 = g r1) ∧ ∀ r1, (∀ j9, j9 < 8 → r1 ≠ 13 + 8 * j9 + 1) → (∀ j9, j9 < 8 → r1 ≠ 13 + 8 * j9 + 2) → (∀ j9, j9 < 8 → r1 ≠ 13 + 8 * j9 + 3) → ad1 r1 = ad r1))) (3 * K) (1443 * K) (aB B) := by
  refine ofZ (own := R_A) (by decide) rfl (Nat.le_of_ble_eq_true rfl) ?_
  intro p e s m below meth c Q C hnm hret
  change kV _ _ _ _ _ _ _ _ _ _ _ _ _ _ _ _ _ _ _ _ _ [(0, .ref (ad 0)), (1, .int (iI (M : Int)))] _ _
  refine v_aload_n C d_A_areOfOnePicture_0 rfl 0 rfl ?_
  refine v_iload_n C d_A_areOfOnePicture_1 rfl 1 rfl ?_
  refine v_callVI (As := [.int (iI (M : Int))]) (st := []) (by omega) h0 rfl rfl C (c_solve l w h hk hr sp wb M K hM dr hw hh h0 h2 T hT hsh nb bf hnb hbi h7 h6 ct0 lo hws nw un uc re hnw hun huc hre (fun j hj z => hgeo j hj (hus j hj z)) hK) (lk_A_157 C.1.2.2.2.2 rfl rfl ⟨Nat.le_of_ble_eq_true rfl, Nat.le_of_ble_eq_true rfl⟩) rfl rfl (Nat.le_of_ble_eq_true rfl) d_A_areOfOnePicture_2 ⟨by show _ ≤ 3 * K; omega, by show _ ≤ 1443 * K; omega⟩ (fun w1 ad1 g1 hp1 => ?_)
  obtain ⟨n9, K9, val, dr1, ct1, lo1, nw1, un1, uc1, re1, hDn, hvv, hdr, hwk, hnu, h6, hws, hun, huc, hre, fr1, hA1⟩ := hp1
  subst hvv
  have hnw1 : ∀ j, j < 8 → nw1 j = 0 ∨ nw1 j = 481 := fun j hj => by by_cases hz : Nat.testBit M j = true; exact Or.inr (hwk j hj hz).1; rw [hnu j hj hz]; exact hnw j hj
  have hnw2 : ∀ j, j < 8 → nw j = 481 → nw1 j = 481 := fun j hj q => by by_cases hz : Nat.testBit M j = true; exact (hwk j hj hz).1; rw [hnu j hj hz]; exact q
  have hle9 := Rn_le hDn.1 hw.2 hh.2
  have hwh : (w : Int) * (h : Int) ≤ 256 ∧ 1 ≤ (w : Int) * (h : Int) := by
    have z1 : (w : Int) * (h : Int) ≤ 16 * (h : Int) := Int.mul_le_mul_of_nonneg_right (by omega) (by omega)
    have z2 : 1 * (h : Int) ≤ (w : Int) * (h : Int) := Int.mul_le_mul_of_nonneg_right (by omega) (by omega)
    omega
  have hwn : ((w * h : Nat) : Int) = (w : Int) * (h : Int) := Int.natCast_mul w h
  have h0 := (fr1 0 (by omega) (fun j9 hj9 => by omega) (fun j9 hj9 => by omega) (fun j9 hj9 => by omega) (fun j9 hj9 => by omega)).trans h0
  have h2 := (fr1 2 (by omega) (fun j9 hj9 => by omega) (fun j9 hj9 => by omega) (fun j9 hj9 => by omega) (fun j9 hj9 => by omega)).trans h2
  have h7 := (fr1 7 (by omega) (fun j9 hj9 => by omega) (fun j9 hj9 => by omega) (fun j9 hj9 => by omega) (fun j9 hj9 => by omega)).trans h7
  have hsh := fun j9 (hj9 : j9 < 8) => (fr1 (9 + 8 * j9) (by omega) (fun j8 hj8 => by omega) (fun j8 hj8 => by omega) (fun j8 hj8 => by omega) (fun j8 hj8 => by omega)).trans (hsh j9 hj9)
  have hbi := fun j9 (hj9 : j9 < 8) => (fr1 (9 + 8 * j9 + 1) (by omega) (fun j8 hj8 => by omega) (fun j8 hj8 => by omega) (fun j8 hj8 => by omega) (fun j8 hj8 => by omega)).trans (hbi j9 hj9)
  refine v_lvE (lv' := [(0, .ref (ad1 0)), (1, .int (iI (M : Int)))]) (by rw [hA1 0 (fun j9 hj9 => by omega) (fun j9 hj9 => by omega) (fun j9 hj9 => by omega)]) ?_
  have h0 : g1 0 = .inr (0, [.int (iI (w : Int)), .int (iI (h : Int)), .ref (ad1 1), .ref (ad1 2), .int (bI hk), .ref (ad1 3), .ref (ad1 4), .int (bI hr), .ref (ad1 5), .int (iI sp), .int (iI wb), .ref (ad1 6), .ref (ad1 7), .ref (ad1 8)]) := by rw [hA1 1 (fun j9 hj9 => by omega) (fun j9 hj9 => by omega) (fun j9 hj9 => by omega), hA1 2 (fun j9 hj9 => by omega) (fun j9 hj9 => by omega) (fun j9 hj9 => by omega), hA1 3 (fun j9 hj9 => by omega) (fun j9 hj9 => by omega) (fun j9 hj9 => by omega), hA1 4 (fun j9 hj9 => by omega) (fun j9 hj9 => by omega) (fun j9 hj9 => by omega), hA1 5 (fun j9 hj9 => by omega) (fun j9 hj9 => by omega) (fun j9 hj9 => by omega), hA1 6 (fun j9 hj9 => by omega) (fun j9 hj9 => by omega) (fun j9 hj9 => by omega), hA1 7 (fun j9 hj9 => by omega) (fun j9 hj9 => by omega) (fun j9 hj9 => by omega), hA1 8 (fun j9 hj9 => by omega) (fun j9 hj9 => by omega) (fun j9 hj9 => by omega)]; exact h0
  have h2 : g1 2 = rfA cS 8 (shs ad1 9) := h2.trans (by rw [shs_ad (ad1 := ad1) (fun s9 => hA1 _ (fun j9 hj9 => by omega) (fun j9 hj9 => by omega) (fun j9 hj9 => by omega))])
  have h7 : g1 7 = rfA cW 8 (shs ad1 13) := h7.trans (by rw [shs_ad (ad1 := ad1) (fun s9 => hA1 _ (fun j9 hj9 => by omega) (fun j9 hj9 => by omega) (fun j9 hj9 => by omega))])
  have hsh : ∀ j9, j9 < 8 → g1 (9 + 8 * j9) = .inr (1, [.int (bI ((T j9).1)), .int (bI ((T j9).2.1)), .int (iI ((T j9).2.2.1)), .int (iI ((T j9).2.2.2.1)), .int (iI ((T j9).2.2.2.2.1)), .int (iI ((T j9).2.2.2.2.2)), .ref (ad1 (9 + 8 * j9 + 1))]) := fun j9 hj9 => by rw [hA1 (9 + 8 * j9 + 1) (fun j8 hj8 => by omega) (fun j8 hj8 => by omega) (fun j8 hj8 => by omega)]; exact hsh j9 hj9
  have hrs : ∀ j, j < 8 → Nat.testBit M j = true → ∀ k, k < ctN (T j).2.2.1 (T j).2.2.2.1 w h → re1 j k = rst w h K9 (fun c => bnN (T j).2.2.1 (T j).2.2.2.1 w h (c % 16) (c / 16)) (bf j) val k := fun j hj z k hk9 => (hwk j hj z).2.2.2.2.2.2 k hk9
  refine v_aload_n C d_A_areOfOnePicture_5 rfl 0 rfl ?_
  refine gf_A_9 C (by omega) h0 rfl d_A_areOfOnePicture_6 ?_
  refine v_aload_n C d_A_areOfOnePicture_9 rfl 0 rfl ?_
  refine gf_A_13 C (by omega) h0 rfl d_A_areOfOnePicture_10 ?_
  refine v_imulI C d_A_areOfOnePicture_13 ?_
  refine v_icmp_neI C d_A_areOfOnePicture_14 (by omega) (by omega) (by omega) (by omega) (fun hb14 => ?_) (fun hb14 => ?_)
  · refine v_iconst C d_A_areOfOnePicture_30 ?_
    first | exact absurd rfl hb23 | exact hret _ _ _ _ _ false _ (by omega) (by omega) d_A_areOfOnePicture_31 ⟨⟨fun q => absurd q (by decide), fun q => absurd ((agr_iff hDn).mp q).1 (by omega)⟩, dr1, ct1, lo1, nw1, un1, uc1, re1, fun j hj z => (hwk j hj z).1, hnw1, hnw2, h6, hws, hun, huc, hre, (fun r1 n0 n1 n2 n3 n4 => (fr1 r1 n0 n1 n2 n3 n4)), (fun r1 n0 n1 n2 => (hA1 r1 n0 n1 n2))⟩ | exact hret _ _ _ _ _ false _ (by omega) (by omega) d_A_areOfOnePicture_31 ⟨⟨fun q => absurd q (by decide), fun q => absurd (((agr_iff hDn).mp q).2 s0 hs8 hU0 k0 (by rw [(hwk s0 hs8 hU0).2.1] at hk0; exact hk0)) (fun q2 => hk1 ((hrs s0 hs8 hU0 k0 (by rw [(hwk s0 hs8 hU0).2.1] at hk0; exact hk0)).trans q2))⟩, dr1, ct1, lo1, nw1, un1, uc1, re1, fun j hj z => (hwk j hj z).1, hnw1, hnw2, h6, hws, hun, huc, hre, (fun r1 n0 n1 n2 n3 n4 => (fr1 r1 n0 n1 n2 n3 n4)), (fun r1 n0 n1 n2 => (hA1 r1 n0 n1 n2))⟩
  · refine v_aload_n C d_A_areOfOnePicture_17 rfl 0 rfl ?_
    refine v_iload_n C d_A_areOfOnePicture_18 rfl 1 rfl ?_
    refine v_callVI (As := [.int (iI (M : Int))]) (st := []) (by omega) h0 rfl rfl C (c_lowestWrongShelf l w h hk hr sp wb M hM nw1 re1 h0 h7 ct1 lo1 hws hre (fun j hj z => by obtain ⟨a1, a2, -⟩ := hwk j hj z; exact ⟨a1, by rw [a2]; exact (ct_nat (hgeo j hj (hus j hj z)).1 hw.2 hh.2 hw.1 hh.1).1⟩)) (lk_A_166 C.1.2.2.2.2 rfl rfl ⟨Nat.le_of_ble_eq_true rfl, Nat.le_of_ble_eq_true rfl⟩) rfl rfl (Nat.le_of_ble_eq_true rfl) d_A_areOfOnePicture_19 ⟨by show _ ≤ 3 * K; omega, by show _ ≤ 1443 * K; omega⟩ (fun w2 ad2 g2 hp2 => ?_)
    obtain ⟨⟨s0, hs8, hU0, rfl, ⟨k0, hk0, hk1⟩, hbef⟩ | ⟨rfl, hnone⟩, hadr, hgr⟩ := hp2
    · subst hadr; subst hgr
      refine v_iconst C d_A_areOfOnePicture_22 ?_
      refine v_icmp_neI C d_A_areOfOnePicture_23 (by omega) (by omega) (by omega) (by omega) (fun hb23 => ?_) (fun hb23 => ?_)
      · refine v_iconst C d_A_areOfOnePicture_30 ?_
        first | exact absurd rfl hb23 | exact hret _ _ _ _ _ false _ (by omega) (by omega) d_A_areOfOnePicture_31 ⟨⟨fun q => absurd q (by decide), fun q => absurd ((agr_iff hDn).mp q).1 (by omega)⟩, dr1, ct1, lo1, nw1, un1, uc1, re1, fun j hj z => (hwk j hj z).1, hnw1, hnw2, h6, hws, hun, huc, hre, (fun r1 n0 n1 n2 n3 n4 => (fr1 r1 n0 n1 n2 n3 n4)), (fun r1 n0 n1 n2 => (hA1 r1 n0 n1 n2))⟩ | exact hret _ _ _ _ _ false _ (by omega) (by omega) d_A_areOfOnePicture_31 ⟨⟨fun q => absurd q (by decide), fun q => absurd (((agr_iff hDn).mp q).2 s0 hs8 hU0 k0 (by rw [(hwk s0 hs8 hU0).2.1] at hk0; exact hk0)) (fun q2 => hk1 ((hrs s0 hs8 hU0 k0 (by rw [(hwk s0 hs8 hU0).2.1] at hk0; exact hk0)).trans q2))⟩, dr1, ct1, lo1, nw1, un1, uc1, re1, fun j hj z => (hwk j hj z).1, hnw1, hnw2, h6, hws, hun, huc, hre, (fun r1 n0 n1 n2 n3 n4 => (fr1 r1 n0 n1 n2 n3 n4)), (fun r1 n0 n1 n2 => (hA1 r1 n0 n1 n2))⟩
      · refine v_iconst C d_A_areOfOnePicture_26 ?_
        refine v_goto C d_A_areOfOnePicture_27 ?_
        first | exact absurd hb23 (by omega) | exact hret _ _ _ _ _ true _ (by omega) (by omega) d_A_areOfOnePicture_31 ⟨⟨fun _ => (agr_iff hDn).mpr ⟨by omega, fun j hj z k hk9 => (hrs j hj z k hk9).symm.trans (hnone j hj z k (by rw [(hwk j hj z).2.1]; exact hk9))⟩, fun _ => rfl⟩, dr1, ct1, lo1, nw1, un1, uc1, re1, fun j hj z => (hwk j hj z).1, hnw1, hnw2, h6, hws, hun, huc, hre, (fun r1 n0 n1 n2 n3 n4 => (fr1 r1 n0 n1 n2 n3 n4)), (fun r1 n0 n1 n2 => (hA1 r1 n0 n1 n2))⟩
    · subst hadr; subst hgr
      refine v_iconst C d_A_areOfOnePicture_22 ?_
      refine v_icmp_neI C d_A_areOfOnePicture_23 (by omega) (by omega) (by omega) (by omega) (fun hb23 => ?_) (fun hb23 => ?_)
      · refine v_iconst C d_A_areOfOnePicture_30 ?_
        first | exact absurd rfl hb23 | exact hret _ _ _ _ _ false _ (by omega) (by omega) d_A_areOfOnePicture_31 ⟨⟨fun q => absurd q (by decide), fun q => absurd ((agr_iff hDn).mp q).1 (by omega)⟩, dr1, ct1, lo1, nw1, un1, uc1, re1, fun j hj z => (hwk j hj z).1, hnw1, hnw2, h6, hws, hun, huc, hre, (fun r1 n0 n1 n2 n3 n4 => (fr1 r1 n0 n1 n2 n3 n4)), (fun r1 n0 n1 n2 => (hA1 r1 n0 n1 n2))⟩ | exact hret _ _ _ _ _ false _ (by omega) (by omega) d_A_areOfOnePicture_31 ⟨⟨fun q => absurd q (by decide), fun q => absurd (((agr_iff hDn).mp q).2 s0 hs8 hU0 k0 (by rw [(hwk s0 hs8 hU0).2.1] at hk0; exact hk0)) (fun q2 => hk1 ((hrs s0 hs8 hU0 k0 (by rw [(hwk s0 hs8 hU0).2.1] at hk0; exact hk0)).trans q2))⟩, dr1, ct1, lo1, nw1, un1, uc1, re1, fun j hj z => (hwk j hj z).1, hnw1, hnw2, h6, hws, hun, huc, hre, (fun r1 n0 n1 n2 n3 n4 => (fr1 r1 n0 n1 n2 n3 n4)), (fun r1 n0 n1 n2 => (hA1 r1 n0 n1 n2))⟩
      · refine v_iconst C d_A_areOfOnePicture_26 ?_
        refine v_goto C d_A_areOfOnePicture_27 ?_
        first | exact absurd hb23 (by omega) | exact hret _ _ _ _ _ true _ (by omega) (by omega) d_A_areOfOnePicture_31 ⟨⟨fun _ => (agr_iff hDn).mpr ⟨by omega, fun j hj z k hk9 => (hrs j hj z k hk9).symm.trans (hnone j hj z k (by rw [(hwk j hj z).2.1]; exact hk9))⟩, fun _ => rfl⟩, dr1, ct1, lo1, nw1, un1, uc1, re1, fun j hj z => (hwk j hj z).1, hnw1, hnw2, h6, hws, hun, huc, hre, (fun r1 n0 n1 n2 n3 n4 => (fr1 r1 n0 n1 n2 n3 n4)), (fun r1 n0 n1 n2 => (hA1 r1 n0 n1 n2))⟩
