/-! the reference's rebuilding: a row holds what is left of its shelf -/
def rwOK (w h : Nat) (K : Nat → Bool) (val : Nat → Int32) (b : Nat → Nat) (bv : Nat → Int32) (un le : Nat → Int32) (j : Nat) : Prop := ∀ k, k < 481 → un (481 * j + k) = iI ((cnt w h K b k : Nat) : Int) ∧ le (481 * j + k) = rst w h K b bv val k
theorem rw_0 {w h j : Nat} (hw : w ≤ 16) (hh : h ≤ 16) (bn : Nat → Nat → Nat) {bv un le : Nat → Int32} (hun : ∀ k, k < 481 → un (481 * j + k) = accY bn (fun _ => iI 1) w h (fun _ => iI 0) k ∧ le (481 * j + k) = bv k) : rwOK w h (fun _ => false) (fun _ => 0) (fun c => bn (c % 16) (c / 16)) bv un le j := fun k hk => by
  obtain ⟨-, -, h3, -, h5⟩ := ws_0 (ct := 481) hw hh bn (bv := bv) (re := bv) (fun _ _ => rfl)
  exact ⟨(hun k hk).1.trans (h3 k hk), (hun k hk).2.trans (h5 k hk)⟩
theorem rw_take {w h j c0 : Nat} {K : Nat → Bool} {val : Nat → Int32} {b : Nat → Nat} {bv un le : Nat → Int32} {v : Int32} (H : rwOK w h K val b bv un le j) (hc : c0 < 256) (hx : c0 % 16 < w) (hy : c0 / 16 < h) (hK : K c0 = false) {b0 : Nat} (hb0 : b c0 = b0) (hb : b0 < 481) : rwOK w h (va_up K c0 true) (va_up val c0 v) b bv (upd un (481 * j + b0) (un (481 * j + b0) - iI 1)) (upd le (481 * j + b0) (le (481 * j + b0) - v)) j := fun k hk => by
  subst hb0
  have q := cnt_up (b := b) hc hx hy hK k
  rw [rst_up hc hx hy hK]
  by_cases hkb : k = b c0
  · subst hkb
    rw [if_pos rfl] at q
    rw [pk_us, pk_us, if_pos rfl, (H _ hk).1, (H _ hk).2, iI_sub]
    refine ⟨?_, rfl⟩
    congr 1
    omega
  · rw [if_neg (fun z => hkb z.symm)] at q
    rw [pk_un (by omega), pk_un (by omega), if_neg (fun z => hkb z.symm), (H _ hk).1, (H _ hk).2, q, Nat.add_zero]
    exact ⟨rfl, rfl⟩
theorem rw_other {w h i j b0 : Nat} {K : Nat → Bool} {val : Nat → Int32} {b : Nat → Nat} {bv un le : Nat → Int32} {x y : Int32} (H : rwOK w h K val b bv un le i) (hij : i ≠ j) (hb : b0 < 481) : rwOK w h K val b bv (upd un (481 * j + b0) x) (upd le (481 * j + b0) y) i := fun k hk => by
  rw [pk_un (by omega), pk_un (by omega)]
  exact H k hk
theorem ovl_in {s0 : Nat} {f a : Nat → Int32} {n k : Nat} (hk : k < n) : ovl s0 f a n (481 * s0 + k) = a k := by
  unfold ovl
  rw [if_pos (by omega), show 481 * s0 + k - 481 * s0 = k by omega]
theorem ovl_out {s0 i : Nat} {f a : Nat → Int32} {k : Nat} (hi : i ≠ s0) (hk : k < 481) : ovl s0 f a 481 (481 * i + k) = f (481 * i + k) := by
  unfold ovl
  rw [if_neg (by omega)]
theorem ovl_acc {j x y : Nat} {bn : Nat → Nat → Nat} {f cf b : Nat → Int32} (hb : bn x y < 481) : upd (ovl j f (accX bn cf y x b) 481) (481 * j + bn x y) (ovl j f (accX bn cf y x b) 481 (481 * j + bn x y) + cf (16 * y + x)) = ovl j f (accX bn cf y (x + 1) b) 481 := by
  rw [ovl_in hb]
  funext i
  by_cases h : i = 481 * j + bn x y
  · subst h
    rw [pk_us, ovl_in hb]
    show _ = upd (accX bn cf y x b) (bn x y) (accX bn cf y x b (bn x y) + cf (16 * y + x)) (bn x y)
    rw [pk_us]
  · rw [pk_un h]
    unfold ovl
    by_cases h2 : 481 * j ≤ i ∧ i < 481 * j + 481
    · rw [if_pos h2, if_pos h2]
      show _ = upd (accX bn cf y x b) (bn x y) (accX bn cf y x b (bn x y) + cf (16 * y + x)) (i - 481 * j)
      rw [pk_un (by omega)]
    · rw [if_neg h2, if_neg h2]
theorem shl_tab : ∀ s : Nat, s < 8 → (iI 1 <<< (iI (s : Int) &&& 31)) = iI ((2 ^ s : Nat) : Int) := by decide +kernel
theorem div481 : ∀ s : Nat, s < 8 → ∀ k : Nat, k < 481 → iI ((481 * s + k : Nat) : Int) / iI 481 = iI (s : Int) ∧ iI ((481 * s + k : Nat) : Int) - iI ((481 * s + k : Nat) : Int) / iI 481 * iI 481 = iI (k : Int) := by decide +kernel
theorem ne481 : iI 481 ≠ 0 := by decide
set_option maxHeartbeats 1000000 in
set_option maxRecDepth 100000 in
theorem c_filledOnes (l : Launch) {B : Nat} {D : va_G} {cI cZ cL cS cW : ClassId} {ad : Nat → Nat} {g : Nat → va_E} (th : Int) (w h : Nat) (kp hb : Bool) (tr sq wm : Int) (hm : g 73 = mE ad th w h kp hb tr sq wm) (fil : Nat → Bool) (hfil : g 82 = inA cZ 8 (bA fil)) : Met l y_M_filledOnes (Cond.code y_M_filledOnes b_M_filledOnes 3 (some .int) :: wG) (rmF 0 0 0 0) (wPc B D classes (tyL cI cZ cL cS cW) (Zs B) 95 [.ref (ad 73)] ad g) (QI B D classes 95 (fun v ad1 g1 => v = iI ((mkM fil 8 : Nat) : Int) ∧ ad = ad1 ∧ g = g1)) 0 0 (aB B) := by
  refine ofI (own := R_M) (by decide) rfl (Nat.le_of_ble_eq_true rfl) ?_
  intro p e s m below meth c Q C hnm hret
  change kV _ _ _ _ _ _ _ _ _ _ _ _ _ _ _ _ _ _ _ _ _ [(0, .ref (ad 73))] _ _
  refine v_iconst C d_M_filledOnes_0 ?_
  refine v_istore_n (lv' := [(1, .int (iI 0)), (0, .ref (ad 73))]) C d_M_filledOnes_1 rfl (by decide) rfl ?_
  refine v_iconst C d_M_filledOnes_2 ?_
  refine v_istore_n (lv' := [(2, .int (iI 0)), (1, .int (iI 0)), (0, .ref (ad 73))]) C d_M_filledOnes_3 rfl (by decide) rfl ?_
  refine v_lv (lv' := [(0, .ref (ad 73)), (1, .int (iI 0)), (2, .int (iI 0))]) [2, 1, 0] rfl ?_
  have L4 : ∀ (d9 : Nat) (j : Nat) (a : Int), 8 - j < d9 → (j ≤ 8) → (a = ((mkM fil j : Nat) : Int)) → kV p l e (rmF 0 0 0 0) s m ([.ref (ad 73)] : List Value).toArray below meth c Q s.heap B D classes 3 95 0 0 ad g [(0, .ref (ad 73)), (1, .int (iI a)), (2, .int (iI (j : Int)))] [] 4 := by
    intro d9
    induction d9 with
    | zero => intro j a hd9; exact absurd hd9 (Nat.not_lt_zero _)
    | succ d9 ih4 =>
      intro j a hd4 hj ha
      refine v_iload_n C d_M_filledOnes_4 rfl 2 rfl ?_
      refine v_bipush C d_M_filledOnes_5 (by decide +kernel) ?_
      refine v_icmp_geI C d_M_filledOnes_7 (by omega) (by omega) (by omega) (by omega) (fun hb7 => ?_) (fun hb7 => ?_)
      · refine v_iload_n C d_M_filledOnes_35 rfl 1 rfl ?_
        exact hret _ _ _ _ _ _ _ (Nat.zero_le _) (Nat.zero_le _) d_M_filledOnes_36 ⟨by rw [ha, show j = 8 by omega], rfl, rfl⟩
      · refine v_iload_n C d_M_filledOnes_10 rfl 1 rfl ?_
        refine v_aload_n C d_M_filledOnes_11 rfl 0 rfl ?_
        refine gf_M_42 C (by omega) hm rfl d_M_filledOnes_12 ?_
        refine v_iload_n C d_M_filledOnes_15 rfl 2 rfl ?_
        refine v_zaldB C 1 (by omega) hfil rfl (j : Nat) (by omega) (by omega) (by omega) d_M_filledOnes_16 ?_
        refine v_if_eqB C d_M_filledOnes_17 (fun hb17 => ?_) (fun hb17 => ?_)
        · refine v_iconst C d_M_filledOnes_26 ?_
          refine v_iaddI C d_M_filledOnes_27 ?_
          refine v_istore_n (lv' := [(1, .int (iI (a + 0))), (0, .ref (ad 73)), (2, .int (iI (j : Int)))]) C d_M_filledOnes_28 rfl (by decide) rfl ?_
          refine v_iinc (lv' := [(2, .int (iI ((j : Int) + 1))), (1, .int (iI (a + 0))), (0, .ref (ad 73))]) C d_M_filledOnes_29 2 rfl (by decide) rfl ?_
          refine v_goto C d_M_filledOnes_32 ?_
          refine v_lv (lv' := [(0, .ref (ad 73)), (1, .int (iI (a + 0))), (2, .int (iI ((j : Int) + 1)))]) [2, 1, 0] rfl ?_
          exact ih4 (j + 1) (a + 0) (by omega) (by omega) (by rw [mkM_f hb17, ha, Int.add_zero])
        · refine v_iconst C d_M_filledOnes_20 ?_
          refine v_iload_n C d_M_filledOnes_21 rfl 2 rfl ?_
          refine v_ishl C d_M_filledOnes_22 ?_
          rw [shl_tab j (by omega)]
          refine v_goto C d_M_filledOnes_23 ?_
          refine v_iaddI C d_M_filledOnes_27 ?_
          refine v_istore_n (lv' := [(1, .int (iI (a + ((2 ^ j : Nat) : Int)))), (0, .ref (ad 73)), (2, .int (iI (j : Int)))]) C d_M_filledOnes_28 rfl (by decide) rfl ?_
          refine v_iinc (lv' := [(2, .int (iI ((j : Int) + 1))), (1, .int (iI (a + ((2 ^ j : Nat) : Int)))), (0, .ref (ad 73))]) C d_M_filledOnes_29 2 rfl (by decide) rfl ?_
          refine v_goto C d_M_filledOnes_32 ?_
          refine v_lv (lv' := [(0, .ref (ad 73)), (1, .int (iI (a + ((2 ^ j : Nat) : Int)))), (2, .int (iI ((j : Int) + 1)))]) [2, 1, 0] rfl ?_
          exact ih4 (j + 1) (a + ((2 ^ j : Nat) : Int)) (by omega) (by omega) (by rw [mkM_t hb17, ha, Int.natCast_add])
  exact L4 _ 0 0 (Nat.lt_succ_self _) (by omega) rfl
set_option maxHeartbeats 1000000 in
set_option maxRecDepth 100000 in
theorem c_MareEnough (l : Launch) {B : Nat} {D : va_G} {cI cZ cL cS cW : ClassId} {ad : Nat → Nat} {g : Nat → va_E} (th : Int) (w h : Nat) (kp hb : Bool) (tr sq wm : Int) (M : Nat) (hM : M < 256) (hw : 1 ≤ w ∧ w ≤ 16) (hh : 1 ≤ h ∧ h ≤ 16) (hm : g 73 = mE ad th w h kp hb tr sq wm) (tol : Nat → Bool) (htol : g 79 = inA cZ 8 (bA tol)) (rP : Nat → Int) (hrP : g 80 = inA cI 8 (jA rP)) (rQ : Nat → Int) (hrQ : g 81 = inA cI 8 (jA rQ)) (hPQ : ∀ j, j < 8 → okD (rP j) (rQ j)) : Met l y_M_areEnough (Cond.code y_M_areEnough b_M_areEnough 5 (some .boolean) :: wG) (rmF 1 40 0 0) (wPc B D classes (tyL cI cZ cL cS cW) (Zs B) 95 [.ref (ad 73), .int (iI (M : Int))] ad g) (QI B D classes 95 (fun v9 ad1 g1 => ∃ v, v9 = bI v ∧ (v = decide ((w : Int) ≤ sI 8 (fun j => if (Nat.testBit M j && tol j) = true then aI (rP j) else 0) ∨ (h : Int) ≤ sI 8 (fun j => if (Nat.testBit M j && tol j) = true then rQ j else 0)) ∧ ad = ad1 ∧ g = g1))) 0 0 (aB B) := by
  refine ofZ (own := R_M) (by decide) rfl (Nat.le_of_ble_eq_true rfl) ?_
  intro p e s m below meth c Q C hnm hret
  change kV _ _ _ _ _ _ _ _ _ _ _ _ _ _ _ _ _ _ _ _ _ [(0, .ref (ad 73)), (1, .int (iI (M : Int)))] _ _
  refine v_iconst C d_M_areEnough_0 ?_
  refine v_istore_n (lv' := [(2, .int (iI 0)), (0, .ref (ad 73)), (1, .int (iI (M : Int)))]) C d_M_areEnough_1 rfl (by decide) rfl ?_
  refine v_iconst C d_M_areEnough_2 ?_
  refine v_istore_n (lv' := [(3, .int (iI 0)), (2, .int (iI 0)), (0, .ref (ad 73)), (1, .int (iI (M : Int)))]) C d_M_areEnough_3 rfl (by decide) rfl ?_
  refine v_iconst C d_M_areEnough_4 ?_
  refine v_istore (lv' := [(4, .int (iI 0)), (3, .int (iI 0)), (2, .int (iI 0)), (0, .ref (ad 73)), (1, .int (iI (M : Int)))]) C d_M_areEnough_5 (by decide) rfl ?_
  refine v_lv (lv' := [(0, .ref (ad 73)), (1, .int (iI (M : Int))), (2, .int (iI 0)), (3, .int (iI 0)), (4, .int (iI 0))]) [3, 4, 2, 1, 0] rfl ?_
  have L7 : ∀ (d9 : Nat) (j : Nat) (a : Int) (b : Int), 8 - j < d9 → (j ≤ 8) → (a = sI j (fun j => if (Nat.testBit M j && tol j) = true then aI (rP j) else 0)) → (b = sI j (fun j => if (Nat.testBit M j && tol j) = true then rQ j else 0)) → kV p l e (rmF 1 40 0 0) s m ([.ref (ad 73), .int (iI (M : Int))] : List Value).toArray below meth c Q s.heap B D classes 5 95 0 0 ad g [(0, .ref (ad 73)), (1, .int (iI (M : Int))), (2, .int (iI a)), (3, .int (iI b)), (4, .int (iI (j : Int)))] [] 7 := by
    intro d9
    induction d9 with
    | zero => intro j a b hd9; exact absurd hd9 (Nat.not_lt_zero _)
    | succ d9 ih7 =>
      intro j a b hd7 hj ha hb9
      refine v_iload C d_M_areEnough_7 4 rfl ?_
      refine v_bipush C d_M_areEnough_9 (by decide +kernel) ?_
      refine v_icmp_geI C d_M_areEnough_11 (by omega) (by omega) (by omega) (by omega) (fun hb11 => ?_) (fun hb11 => ?_)
      · have hj8 : j = 8 := by omega
        rw [hj8] at ha hb9
        have hba := sI_b (F := (fun j => if (Nat.testBit M j && tol j) = true then aI (rP j) else 0)) 8 (fun i hi => by obtain ⟨o1, o2, o3, o4⟩ := hPQ i hi; show 0 ≤ (if (Nat.testBit M i && tol i) = true then aI (rP i) else 0) ∧ (if (Nat.testBit M i && tol i) = true then aI (rP i) else 0) ≤ 16; unfold aI; split <;> (try split) <;> omega)
        have hbb := sI_b (F := (fun j => if (Nat.testBit M j && tol j) = true then rQ j else 0)) 8 (fun i hi => by obtain ⟨o1, o2, o3, o4⟩ := hPQ i hi; show 0 ≤ (if (Nat.testBit M i && tol i) = true then rQ i else 0) ∧ (if (Nat.testBit M i && tol i) = true then rQ i else 0) ≤ 16; split <;> omega)
        rw [← ha] at hba
        rw [← hb9] at hbb
        refine v_iload_n C d_M_areEnough_56 rfl 2 rfl ?_
        refine v_aload_n C d_M_areEnough_57 rfl 0 rfl ?_
        refine gf_M_7 C (by omega) hm rfl d_M_areEnough_58 ?_
        refine v_icmp_geI C d_M_areEnough_61 (by omega) (by omega) (by omega) (by omega) (fun hb61 => ?_) (fun hb61 => ?_)
        · refine v_iconst C d_M_areEnough_72 ?_
          refine v_goto C d_M_areEnough_73 ?_
          exact hret _ _ _ _ _ true _ (Nat.zero_le _) (Nat.zero_le _) d_M_areEnough_77 ⟨(decide_eq_true (by rw [← ha, ← hb9]; omega)).symm, rfl, rfl⟩
        · refine v_iload_n C d_M_areEnough_64 rfl 3 rfl ?_
          refine v_aload_n C d_M_areEnough_65 rfl 0 rfl ?_
          refine gf_M_13 C (by omega) hm rfl d_M_areEnough_66 ?_
          refine v_icmp_ltI C d_M_areEnough_69 (by omega) (by omega) (by omega) (by omega) (fun hb69 => ?_) (fun hb69 => ?_)
          · refine v_iconst C d_M_areEnough_76 ?_
            exact hret _ _ _ _ _ false _ (Nat.zero_le _) (Nat.zero_le _) d_M_areEnough_77 ⟨(decide_eq_false (by rw [← ha, ← hb9]; omega)).symm, rfl, rfl⟩
          · refine v_iconst C d_M_areEnough_72 ?_
            refine v_goto C d_M_areEnough_73 ?_
            exact hret _ _ _ _ _ true _ (Nat.zero_le _) (Nat.zero_le _) d_M_areEnough_77 ⟨(decide_eq_true (by rw [← ha, ← hb9]; omega)).symm, rfl, rfl⟩
      · refine v_aload_n C d_M_areEnough_14 rfl 0 rfl ?_
        refine v_iload_n C d_M_areEnough_15 rfl 1 rfl ?_
        refine v_iload C d_M_areEnough_16 4 rfl ?_
        refine v_callVI (As := [.int (iI (M : Int)), .int (iI (j : Int))]) (st := []) (by omega) hm rfl rfl C (c_isOf l th w h kp hb tr sq wm M j hM (by omega) hm tol htol) (lk_M_134 C.1.2.2.2.2 rfl rfl ⟨Nat.le_of_ble_eq_true rfl, Nat.le_of_ble_eq_true rfl⟩) rfl rfl (Nat.le_of_ble_eq_true rfl) d_M_areEnough_18 ⟨Nat.le_of_ble_eq_true rfl, Nat.le_of_ble_eq_true rfl⟩ (fun w1 ad1 g1 hp1 => ?_)
        obtain ⟨_, rfl, rfl, rfl, rfl⟩ := hp1
        refine v_if_neB C d_M_areEnough_21 (fun hb21 => ?_) (fun hb21 => ?_)
        · refine v_iload_n C d_M_areEnough_27 rfl 2 rfl ?_
          refine v_aload_n C d_M_areEnough_28 rfl 0 rfl ?_
          refine gf_M_36 C (by omega) hm rfl d_M_areEnough_29 ?_
          refine v_iload C d_M_areEnough_32 4 rfl ?_
          refine v_ialdI C 0 (by omega) hrP rfl (j : Nat) (by omega) (by omega) (by omega) d_M_areEnough_34 ?_
          have hok := hPQ j (by omega)
          have hok1 := hok.1; have hok2 := hok.2.1; have hok3 := hok.2.2.1; have hok4 := hok.2.2.2
          refine v_callSI (As := [.int (iI (rP (j : Nat)))]) (st := [.int (iI a)]) C (c_sizeOf l (rP (j : Nat)) (by omega) (by omega)) (lk_M_110 C.1.2.2.2.2 rfl rfl ⟨Nat.le_of_ble_eq_true rfl, Nat.le_of_ble_eq_true rfl⟩) rfl rfl (Nat.le_of_ble_eq_true rfl) d_M_areEnough_35 ⟨Nat.le_of_ble_eq_true rfl, Nat.le_of_ble_eq_true rfl⟩ (fun w2 ad2 g2 hp2 => ?_)
          obtain ⟨rfl, rfl, rfl⟩ := hp2
          refine v_iaddI C d_M_areEnough_38 ?_
          refine v_istore_n (lv' := [(2, .int (iI (a + (aI (rP (j : Nat)))))), (0, .ref (ad 73)), (1, .int (iI (M : Int))), (3, .int (iI b)), (4, .int (iI (j : Int)))]) C d_M_areEnough_39 rfl (by decide) rfl ?_
          refine v_iload_n C d_M_areEnough_40 rfl 3 rfl ?_
          refine v_aload_n C d_M_areEnough_41 rfl 1 rfl ?_
          refine gf_M_39 C (by omega) hm rfl d_M_areEnough_42 ?_
          refine v_iload C d_M_areEnough_45 4 rfl ?_
          refine v_ialdI C 0 (by omega) hrQ rfl (j : Nat) (by omega) (by omega) (by omega) d_M_areEnough_47 ?_
          refine v_iaddI C d_M_areEnough_48 ?_
          refine v_istore_n (lv' := [(3, .int (iI (b + (rQ (j : Nat))))), (2, .int (iI (a + (aI (rP (j : Nat)))))), (0, .ref (ad 73)), (1, .int (iI (M : Int))), (4, .int (iI (j : Int)))]) C d_M_areEnough_49 rfl (by decide) rfl ?_
          refine v_iinc (lv' := [(4, .int (iI ((j : Int) + 1))), (3, .int (iI (b + (rQ (j : Nat))))), (2, .int (iI (a + (aI (rP (j : Nat)))))), (0, .ref (ad 73)), (1, .int (iI (M : Int)))]) C d_M_areEnough_50 4 rfl (by decide) rfl ?_
          refine v_goto C d_M_areEnough_53 ?_
          refine v_lv (lv' := [(0, .ref (ad 73)), (1, .int (iI (M : Int))), (2, .int (iI (a + (aI (rP (j : Nat)))))), (3, .int (iI (b + (rQ (j : Nat))))), (4, .int (iI ((j : Int) + 1)))]) [3, 4, 2, 1, 0] rfl ?_
          exact ih7 (j + 1) (a + (aI (rP (j : Nat)))) (b + (rQ (j : Nat))) (by omega) (by omega) (by show _ = sI j _ + (if (Nat.testBit M j && tol j) = true then aI (rP j) else 0); rw [if_pos hb21, ha]) (by show _ = sI j _ + (if (Nat.testBit M j && tol j) = true then rQ j else 0); rw [if_pos hb21, hb9])
        · refine v_goto C d_M_areEnough_24 ?_
          refine v_iinc (lv' := [(4, .int (iI ((j : Int) + 1))), (0, .ref (ad 73)), (1, .int (iI (M : Int))), (2, .int (iI a)), (3, .int (iI b))]) C d_M_areEnough_50 4 rfl (by decide) rfl ?_
          refine v_goto C d_M_areEnough_53 ?_
          refine v_lv (lv' := [(0, .ref (ad 73)), (1, .int (iI (M : Int))), (2, .int (iI a)), (3, .int (iI b)), (4, .int (iI ((j : Int) + 1)))]) [1, 2, 3, 4, 0] rfl ?_
          exact ih7 (j + 1) a b (by omega) (by omega) (by show _ = sI j _ + (if (Nat.testBit M j && tol j) = true then aI (rP j) else 0); rw [if_neg (by rw [hb21]; decide), ha, Int.add_zero]) (by show _ = sI j _ + (if (Nat.testBit M j && tol j) = true then rQ j else 0); rw [if_neg (by rw [hb21]; decide), hb9, Int.add_zero])
  exact L7 _ 0 0 0 (Nat.lt_succ_self _) (by omega) rfl rfl
set_option maxHeartbeats 1000000 in
set_option maxRecDepth 100000 in
theorem c_Menough (l : Launch) {B : Nat} {D : va_G} {cI cZ cL cS cW : ClassId} {ad : Nat → Nat} {g : Nat → va_E} (th : Int) (w h : Nat) (kp hb : Bool) (tr sq wm : Int) (z : Int) (z1 : -2147483648 ≤ z) (z2 : z < 2147483648) (hw : 1 ≤ w ∧ w ≤ 16) (hh : 1 ≤ h ∧ h ≤ 16) (hm : g 73 = mE ad th w h kp hb tr sq wm) (tol : Nat → Bool) (htol : g 79 = inA cZ 8 (bA tol)) (rP : Nat → Int) (hrP : g 80 = inA cI 8 (jA rP)) (rQ : Nat → Int) (hrQ : g 81 = inA cI 8 (jA rQ)) (hPQ : ∀ j, j < 8 → okD (rP j) (rQ j)) : Met l y_M_enough (Cond.code y_M_enough b_M_enough 2 (some .boolean) :: wG) (rmF 2 75 0 0) (wPc B D classes (tyL cI cZ cL cS cW) (Zs B) 95 [.ref (ad 73), .int (iI z)] ad g) (QI B D classes 95 (fun v9 ad1 g1 => ∃ v, v9 = bI v ∧ ((¬ (0 ≤ z ∧ z < 256) ∧ g1 73 = mE ad 1 w h kp hb tr sq wm ∧ ad = ad1 ∧ ∀ r1, r1 ≠ 73 → g1 r1 = g r1) ∨ ((0 ≤ z ∧ z < 256) ∧ v = decide ((w : Int) ≤ sI 8 (fun j => if (Nat.testBit z.toNat j && tol j) = true then aI (rP j) else 0) ∨ (h : Int) ≤ sI 8 (fun j => if (Nat.testBit z.toNat j && tol j) = true then rQ j else 0)) ∧ g1 73 = mE ad 0 w h kp hb tr sq wm ∧ ad = ad1 ∧ ∀ r1, r1 ≠ 73 → g1 r1 = g r1)))) 0 0 (aB B) := by
  refine ofZ (own := R_M) (by decide) rfl (Nat.le_of_ble_eq_true rfl) ?_
  intro p e s m below meth c Q C hnm hret
  change kV _ _ _ _ _ _ _ _ _ _ _ _ _ _ _ _ _ _ _ _ _ [(0, .ref (ad 73)), (1, .int (iI z))] _ _
  refine v_aload_n C d_M_enough_0 rfl 0 rfl ?_
  have J13 : ∀ a : Bool, (a = true ↔ ¬ (0 ≤ z ∧ z < 256)) → kV p l e (rmF 2 75 0 0) s m ([.ref (ad 73), .int (iI z)] : List Value).toArray below meth c Q s.heap B D classes 2 95 0 0 ad g [(0, .ref (ad 73)), (1, .int (iI z))] [.int (bI a), .ref (ad 73)] 13 := by
    intro a ha
    refine v_iconst C d_M_enough_13 ?_
    refine v_callVI (As := [.int (bI a), .int (bI false)]) (st := []) (by omega) hm rfl rfl C (c_throwing l th w h kp hb tr sq wm a false hm) (lk_M_88 C.1.2.2.2.2 rfl rfl ⟨Nat.le_of_ble_eq_true rfl, Nat.le_of_ble_eq_true rfl⟩) rfl rfl (Nat.le_of_ble_eq_true rfl) d_M_enough_14 ⟨Nat.le_of_ble_eq_true rfl, Nat.le_of_ble_eq_true rfl⟩ (fun w1 ad1 g1 hp1 => ?_)
    obtain ⟨vt1, rfl, hc1, rfl, fr1⟩ := hp1
    rcases hc1 with ⟨ta14, rfl, hm⟩ | ⟨ta14, tb14, rfl, hm⟩ | ⟨ta14, tb14, rfl, hm⟩
    · -- way 1
      have htol := (fr1 79 (by omega)).trans htol
      have hrP := (fr1 80 (by omega)).trans hrP
      have hrQ := (fr1 81 (by omega)).trans hrQ
      refine v_if_neB C d_M_enough_17 (fun _ => ?_) (fun hz9 => absurd hz9 (by decide))
      refine v_iconst C d_M_enough_32 ?_
      exact hret _ _ _ _ _ false _ (Nat.zero_le _) (Nat.zero_le _) d_M_enough_33 (Or.inl ⟨ha.mp ta14, hm, rfl, (fun r1 n0 => (fr1 r1 n0))⟩)
    · exact absurd tb14 (by decide)
    · -- way 3
      have htol := (fr1 79 (by omega)).trans htol
      have hrP := (fr1 80 (by omega)).trans hrP
      have hrQ := (fr1 81 (by omega)).trans hrQ
      refine v_if_neB C d_M_enough_17 (fun hz9 => absurd hz9 (by decide)) (fun _ => ?_)
      have haA : (0 ≤ z ∧ z < 256) := Classical.byContradiction (fun q => absurd (ha.mpr q) (by rw [ta14]; decide))
      have hM0 : ((z.toNat : Nat) : Int) = z := by omega
      refine v_lvE (lv' := [(0, .ref (ad 73)), (1, .int (iI (z.toNat : Int)))]) (by rw [hM0]) ?_
      refine v_aload_n C d_M_enough_20 rfl 0 rfl ?_
      refine v_iload_n C d_M_enough_21 rfl 1 rfl ?_
      refine v_callVI (As := [.int (iI (z.toNat : Int))]) (st := []) (by omega) hm rfl rfl C (c_MareEnough l 0 w h kp hb tr sq wm z.toNat (by omega) hw hh hm tol htol rP hrP rQ hrQ hPQ) (lk_M_140 C.1.2.2.2.2 rfl rfl ⟨Nat.le_of_ble_eq_true rfl, Nat.le_of_ble_eq_true rfl⟩) rfl rfl (Nat.le_of_ble_eq_true rfl) d_M_enough_22 ⟨Nat.le_of_ble_eq_true rfl, Nat.le_of_ble_eq_true rfl⟩ (fun w2 ad2 g2 hp2 => ?_)
      obtain ⟨be, rfl, hbe, rfl, rfl⟩ := hp2
      refine v_if_eqB C d_M_enough_25 (fun hb25 => ?_) (fun hb25 => ?_)
      · refine v_iconst C d_M_enough_32 ?_
        exact hret _ _ _ _ _ false _ (Nat.zero_le _) (Nat.zero_le _) d_M_enough_33 (Or.inr ⟨haA, hb25.symm.trans hbe, hm, rfl, (fun r1 n0 => (fr1 r1 n0))⟩)
      · refine v_iconst C d_M_enough_28 ?_
        refine v_goto C d_M_enough_29 ?_
        exact hret _ _ _ _ _ true _ (Nat.zero_le _) (Nat.zero_le _) d_M_enough_33 (Or.inr ⟨haA, hb25.symm.trans hbe, hm, rfl, (fun r1 n0 => (fr1 r1 n0))⟩)
  refine v_iload_n C d_M_enough_1 rfl 1 rfl ?_
  refine v_callSI (As := [.int (iI z)]) (st := [.ref (ad 73)]) C (c_isMask l z z1 z2) (lk_M_137 C.1.2.2.2.2 rfl rfl ⟨Nat.le_of_ble_eq_true rfl, Nat.le_of_ble_eq_true rfl⟩) rfl rfl (Nat.le_of_ble_eq_true rfl) d_M_enough_2 ⟨Nat.le_of_ble_eq_true rfl, Nat.le_of_ble_eq_true rfl⟩ (fun w3 ad3 g3 hp3 => ?_)
  obtain ⟨_, rfl, rfl, rfl, rfl⟩ := hp3
  refine v_if_neB C d_M_enough_5 (fun hb5 => ?_) (fun hb5 => ?_)
  · have hb5 := of_decide_eq_true hb5
    refine v_iconst C d_M_enough_12 ?_
    exact J13 false ⟨fun q => absurd q (by decide), fun q => absurd q (by omega)⟩
  · have hb5 := of_decide_eq_false hb5
    refine v_iconst C d_M_enough_8 ?_
    refine v_goto C d_M_enough_9 ?_
    exact J13 true ⟨fun _ => by omega, fun _ => rfl⟩
set_option maxHeartbeats 1000000 in
set_option maxRecDepth 100000 in
theorem c_beginTry (l : Launch) {B : Nat} {D : va_G} {cI cZ cL cS cW : ClassId} {ad : Nat → Nat} {g : Nat → va_E} (th : Int) (w h : Nat) (kp hb : Bool) (tr sq wm : Int) (M : Nat) (hM : M < 256) (hw : 1 ≤ w ∧ w ≤ 16) (hh : 1 ≤ h ∧ h ≤ 16) (hm : g 73 = mE ad th w h kp hb tr sq wm) (kno : Nat → Bool) (hkno : g 78 = inA cZ 256 (bA kno)) (tol : Nat → Bool) (htol : g 79 = inA cZ 8 (bA tol)) (rP : Nat → Int) (hrP : g 80 = inA cI 8 (jA rP)) (rQ : Nat → Int) (hrQ : g 81 = inA cI 8 (jA rQ)) (bns : Nat → Int32) (hbns : g 83 = inA cI 3848 bns) (unk : Nat → Int32) (hunk : g 89 = inA cI 3848 unk) (lef : Nat → Int32) (hlef : g 90 = inA cI 3848 lef) (hPQ : ∀ j, j < 8 → okD (rP j) (rQ j)) : Met l y_M_beginTry (Cond.code y_M_beginTry b_M_beginTry 5 none :: wG) (rmF 1 40 0 0) (wPc B D classes (tyL cI cZ cL cS cW) (Zs B) 95 [.ref (ad 73), .int (iI (M : Int))] ad g) (QV B D classes 95 (fun ad1 g1 => ∃ (kn1 : Nat → Bool) (un1 le1 : Nat → Int32), (∀ c, c < 256 → kn1 c = false) ∧ (∀ j, j < 8 → (Nat.testBit M j && tol j) = true → rwOK w h (fun _ => false) (fun _ => 0) (fun c => bnN (rP j) (rQ j) w h (c % 16) (c / 16)) (fun k => bns (481 * j + k)) un1 le1 j) ∧ ad = ad1 ∧ g1 73 = mE ad th w h kp hb 0 sq wm ∧ g1 78 = inA cZ 256 (bA kn1) ∧ g1 89 = inA cI 3848 un1 ∧ g1 90 = inA cI 3848 le1 ∧ ∀ r1, r1 ≠ 73 → r1 ≠ 78 → r1 ≠ 89 → r1 ≠ 90 → g1 r1 = g r1)) 0 0 (aB B) := by
  refine ofV (own := R_M) (by decide) rfl (Nat.le_of_ble_eq_true rfl) ?_
  intro p e s m below meth c Q C hnm hret
  change kV _ _ _ _ _ _ _ _ _ _ _ _ _ _ _ _ _ _ _ _ _ [(0, .ref (ad 73)), (1, .int (iI (M : Int)))] _ _
  refine v_aload_n C d_M_beginTry_0 rfl 0 rfl ?_
  refine v_iconst C d_M_beginTry_1 ?_
  refine pf_M_143 (fs' := [.int (iI th), .int (iI (w : Int)), .int (iI (h : Int)), .ref (ad 74), .ref (ad 75), .ref (ad 76), .ref (ad 77), .ref (ad 78), .int (bI kp), .int (bI hb), .ref (ad 79), .ref (ad 80), .ref (ad 81), .ref (ad 82), .ref (ad 83), .ref (ad 84), .ref (ad 85), .ref (ad 86), .ref (ad 87), .ref (ad 88), .ref (ad 89), .ref (ad 90), .int (iI 0), .ref (ad 91), .int (iI sq), .int (iI wm), .ref (ad 92), .ref (ad 93)]) C (by omega) hm rfl rfl (Nat.le_of_ble_eq_true rfl) rfl d_M_beginTry_2 (fun g1 hm fr2 => ?_)
  have hkno := (fr2 78 (by omega)).trans hkno
  have htol := (fr2 79 (by omega)).trans htol
  have hrP := (fr2 80 (by omega)).trans hrP
  have hrQ := (fr2 81 (by omega)).trans hrQ
  have hbns := (fr2 83 (by omega)).trans hbns
  have hunk := (fr2 89 (by omega)).trans hunk
  have hlef := (fr2 90 (by omega)).trans hlef
  refine v_iconst C d_M_beginTry_5 ?_
  refine v_istore_n (lv' := [(2, .int (iI 0)), (0, .ref (ad 73)), (1, .int (iI (M : Int)))]) C d_M_beginTry_6 rfl (by decide) rfl ?_
  refine v_lv (lv' := [(0, .ref (ad 73)), (1, .int (iI (M : Int))), (2, .int (iI 0))]) [1, 2, 0] rfl ?_
  have L7 : ∀ (d9 : Nat) (i : Nat) (k9 : Nat → Bool) (G7 : Nat → va_E), 256 - i < d9 → (i ≤ 256) → (∀ c, c < i → k9 c = false) → (∀ r1, r1 ≠ 78 → G7 r1 = g1 r1) → G7 78 = inA cZ 256 (bA k9) → kV p l e (rmF 1 40 0 0) s m ([.ref (ad 73), .int (iI (M : Int))] : List Value).toArray below meth c Q s.heap B D classes 5 95 0 0 ad G7 [(0, .ref (ad 73)), (1, .int (iI (M : Int))), (2, .int (iI (i : Int)))] [] 7 := by
    intro d9
    induction d9 with
    | zero => intro i k9 G7 hd9; exact absurd hd9 (Nat.not_lt_zero _)
    | succ d9 ih7 =>
      intro i k9 G7 hd7 hi hk hfr7 hkno
      have hm := (hfr7 73 (by omega)).trans hm
      have htol := (hfr7 79 (by omega)).trans htol
      have hrP := (hfr7 80 (by omega)).trans hrP
      have hrQ := (hfr7 81 (by omega)).trans hrQ
      have hbns := (hfr7 83 (by omega)).trans hbns
      have hunk := (hfr7 89 (by omega)).trans hunk
      have hlef := (hfr7 90 (by omega)).trans hlef
      refine v_iload_n C d_M_beginTry_7 rfl 2 rfl ?_
      refine v_sipush C d_M_beginTry_8 (by decide +kernel) ?_
      refine v_icmp_geI C d_M_beginTry_11 (by omega) (by omega) (by omega) (by omega) (fun hb11 => ?_) (fun hb11 => ?_)
      · refine v_iconst C d_M_beginTry_27 ?_
        refine v_istore_n (lv' := [(2, .int (iI 0)), (0, .ref (ad 73)), (1, .int (iI (M : Int)))]) C d_M_beginTry_28 rfl (by decide) rfl ?_
        refine v_lv (lv' := [(0, .ref (ad 73)), (1, .int (iI (M : Int))), (2, .int (iI 0))]) [1, 2, 0] rfl ?_
        have L29 : ∀ (d9 : Nat) (j : Nat) (un9 : Nat → Int32) (le9 : Nat → Int32) (G29 : Nat → va_E), 8 - j < d9 → (j ≤ 8) → (∀ i, i < j → (Nat.testBit M i && tol i) = true → ∀ k, k < 481 → un9 (481 * i + k) = accY (bnN (rP i) (rQ i) w h) (fun _ => iI 1) w h (fun _ => iI 0) k ∧ le9 (481 * i + k) = bns (481 * i + k)) → (∀ r1, r1 ≠ 89 → r1 ≠ 90 → G29 r1 = G7 r1) → G29 89 = inA cI 3848 un9 → G29 90 = inA cI 3848 le9 → kV p l e (rmF 1 40 0 0) s m ([.ref (ad 73), .int (iI (M : Int))] : List Value).toArray below meth c Q s.heap B D classes 5 95 0 0 ad G29 [(0, .ref (ad 73)), (1, .int (iI (M : Int))), (2, .int (iI (j : Int)))] [] 29 := by
          intro d9
          induction d9 with
          | zero => intro j un9 le9 G29 hd9; exact absurd hd9 (Nat.not_lt_zero _)
          | succ d9 ih29 =>
            intro j un9 le9 G29 hd29 hj hdn hfr29 hunk hlef
            have hm := (hfr29 73 (by omega) (by omega)).trans hm
            have htol := (hfr29 79 (by omega) (by omega)).trans htol
            have hrP := (hfr29 80 (by omega) (by omega)).trans hrP
            have hrQ := (hfr29 81 (by omega) (by omega)).trans hrQ
            have hbns := (hfr29 83 (by omega) (by omega)).trans hbns
            have hkno := (hfr29 78 (by omega) (by omega)).trans hkno
            refine v_iload_n C d_M_beginTry_29 rfl 2 rfl ?_
            refine v_bipush C d_M_beginTry_30 (by decide +kernel) ?_
            refine v_icmp_geI C d_M_beginTry_32 (by omega) (by omega) (by omega) (by omega) (fun hb32 => ?_) (fun hb32 => ?_)
            · exact hret _ _ _ _ _ _ (Nat.zero_le _) (Nat.zero_le _) d_M_beginTry_162 ⟨k9, un9, le9, fun c hc => hk c (by omega), fun i hi q => rw_0 hw.2 hh.2 (bnN (rP i) (rQ i) w h) (hdn i (by omega) q), rfl, hm, hkno, hunk, hlef, (fun r1 n0 n1 n2 n3 => ((hfr29 r1 n2 n3).trans ((hfr7 r1 n1).trans (fr2 r1 n0))))⟩
            · refine v_aload_n C d_M_beginTry_35 rfl 0 rfl ?_
              refine v_iload_n C d_M_beginTry_36 rfl 1 rfl ?_
              refine v_iload_n C d_M_beginTry_37 rfl 2 rfl ?_
              refine v_callVI (As := [.int (iI (M : Int)), .int (iI (j : Int))]) (st := []) (by omega) hm rfl rfl C (c_isOf l th w h kp hb 0 sq wm M j hM (by omega) hm tol htol) (lk_M_134 C.1.2.2.2.2 rfl rfl ⟨Nat.le_of_ble_eq_true rfl, Nat.le_of_ble_eq_true rfl⟩) rfl rfl (Nat.le_of_ble_eq_true rfl) d_M_beginTry_38 ⟨Nat.le_of_ble_eq_true rfl, Nat.le_of_ble_eq_true rfl⟩ (fun w3 ad3 g3 hp3 => ?_)
              obtain ⟨_, rfl, rfl, rfl, rfl⟩ := hp3
              refine v_if_neB C d_M_beginTry_41 (fun hb41 => ?_) (fun hb41 => ?_)
              · refine v_iconst C d_M_beginTry_47 ?_
                refine v_istore_n (lv' := [(3, .int (iI 0)), (0, .ref (ad 73)), (1, .int (iI (M : Int))), (2, .int (iI (j : Int)))]) C d_M_beginTry_48 rfl (by decide) rfl ?_
                refine v_lv (lv' := [(0, .ref (ad 73)), (1, .int (iI (M : Int))), (2, .int (iI (j : Int))), (3, .int (iI 0))]) [1, 2, 3, 0] rfl ?_
                have L49 : ∀ (d9 : Nat) (i : Nat) (G49 : Nat → va_E), 481 - i < d9 → (i ≤ 481) → (∀ r1, r1 ≠ 89 → r1 ≠ 90 → G49 r1 = G29 r1) → G49 89 = inA cI 3848 (ovl j un9 (fun _ => iI 0) i) → G49 90 = inA cI 3848 (ovl j le9 (fun k => bns (481 * j + k)) i) → kV p l e (rmF 1 40 0 0) s m ([.ref (ad 73), .int (iI (M : Int))] : List Value).toArray below meth c Q s.heap B D classes 5 95 0 0 ad G49 [(0, .ref (ad 73)), (1, .int (iI (M : Int))), (2, .int (iI (j : Int))), (3, .int (iI (i : Int)))] [] 49 := by
                  intro d9
                  induction d9 with
                  | zero => intro i G49 hd9; exact absurd hd9 (Nat.not_lt_zero _)
                  | succ d9 ih49 =>
                    intro i G49 hd49 hi9 hfr49 hunk hlef
                    have hm := (hfr49 73 (by omega) (by omega)).trans hm
                    have htol := (hfr49 79 (by omega) (by omega)).trans htol
                    have hrP := (hfr49 80 (by omega) (by omega)).trans hrP
                    have hrQ := (hfr49 81 (by omega) (by omega)).trans hrQ
                    have hbns := (hfr49 83 (by omega) (by omega)).trans hbns
                    have hkno := (hfr49 78 (by omega) (by omega)).trans hkno
                    refine v_iload_n C d_M_beginTry_49 rfl 3 rfl ?_
                    refine v_sipush C d_M_beginTry_50 (by decide +kernel) ?_
                    refine v_icmp_geI C d_M_beginTry_53 (by omega) (by omega) (by omega) (by omega) (fun hb53 => ?_) (fun hb53 => ?_)
                    · have hi8 : i = 481 := by omega
                      rw [hi8] at hunk hlef
                      refine v_iconst C d_M_beginTry_99 ?_
                      refine v_istore_n (lv' := [(3, .int (iI 0)), (0, .ref (ad 73)), (1, .int (iI (M : Int))), (2, .int (iI (j : Int)))]) C d_M_beginTry_100 rfl (by decide) rfl ?_
                      refine v_lv (lv' := [(0, .ref (ad 73)), (1, .int (iI (M : Int))), (2, .int (iI (j : Int))), (3, .int (iI 0))]) [1, 2, 3, 0] rfl ?_
                      have L101 : ∀ (d9 : Nat) (y : Nat) (G101 : Nat → va_E), h - y < d9 → (y ≤ h) → (∀ r1, r1 ≠ 89 → G101 r1 = G49 r1) → G101 89 = inA cI 3848 (ovl j un9 (accY (bnN (rP j) (rQ j) w h) (fun _ => iI 1) w y (fun _ => iI 0)) 481) → kV p l e (rmF 1 40 0 0) s m ([.ref (ad 73), .int (iI (M : Int))] : List Value).toArray below meth c Q s.heap B D classes 5 95 0 0 ad G101 [(0, .ref (ad 73)), (1, .int (iI (M : Int))), (2, .int (iI (j : Int))), (3, .int (iI (y : Int)))] [] 101 := by
                        intro d9
                        induction d9 with
                        | zero => intro y G101 hd9; exact absurd hd9 (Nat.not_lt_zero _)
                        | succ d9 ih101 =>
                          intro y G101 hd101 hy hfr101 hunk
                          have hm := (hfr101 73 (by omega)).trans hm
                          have htol := (hfr101 79 (by omega)).trans htol
                          have hrP := (hfr101 80 (by omega)).trans hrP
                          have hrQ := (hfr101 81 (by omega)).trans hrQ
                          have hbns := (hfr101 83 (by omega)).trans hbns
                          have hkno := (hfr101 78 (by omega)).trans hkno
                          have hlef := (hfr101 90 (by omega)).trans hlef
                          refine v_iload_n C d_M_beginTry_101 rfl 3 rfl ?_
                          refine v_aload_n C d_M_beginTry_102 rfl 0 rfl ?_
                          refine gf_M_13 C (by omega) hm rfl d_M_beginTry_103 ?_
                          refine v_icmp_geI C d_M_beginTry_106 (by omega) (by omega) (by omega) (by omega) (fun hb106 => ?_) (fun hb106 => ?_)
                          · have hyh : y = h := by omega
                            rw [hyh] at hunk
                            refine v_iinc (lv' := [(2, .int (iI ((j : Int) + 1))), (0, .ref (ad 73)), (1, .int (iI (M : Int))), (3, .int (iI (y : Int)))]) C d_M_beginTry_156 2 rfl (by decide) rfl ?_
                            refine v_goto C d_M_beginTry_159 ?_
                            refine v_lv (lv' := [(0, .ref (ad 73)), (1, .int (iI (M : Int))), (2, .int (iI ((j : Int) + 1)))]) [1, 2, 0] rfl ?_
                            exact ih29 (j + 1) _ _ _ (by omega) (by omega) (fun i hi q k hk => by by_cases e9 : i = j; (subst e9; rw [ovl_in hk, ovl_in hk]; exact ⟨rfl, rfl⟩); rw [ovl_out e9 hk, ovl_out e9 hk]; exact hdn i (by omega) q k hk) (fun r1 n0 n1 => ((hfr101 r1 n0).trans ((hfr49 r1 n0 n1).trans (hfr29 r1 n0 n1)))) hunk hlef
                          · refine v_iconst C d_M_beginTry_109 ?_
                            refine v_istore (lv' := [(4, .int (iI 0)), (0, .ref (ad 73)), (1, .int (iI (M : Int))), (2, .int (iI (j : Int))), (3, .int (iI (y : Int)))]) C d_M_beginTry_110 (by decide) rfl ?_
                            refine v_lv (lv' := [(0, .ref (ad 73)), (1, .int (iI (M : Int))), (2, .int (iI (j : Int))), (3, .int (iI (y : Int))), (4, .int (iI 0))]) [1, 2, 3, 4, 0] rfl ?_
                            have L112 : ∀ (d9 : Nat) (x : Nat) (G112 : Nat → va_E), w - x < d9 → (x ≤ w) → (∀ r1, r1 ≠ 89 → G112 r1 = G101 r1) → G112 89 = inA cI 3848 (ovl j un9 (accX (bnN (rP j) (rQ j) w h) (fun _ => iI 1) y x (accY (bnN (rP j) (rQ j) w h) (fun _ => iI 1) w y (fun _ => iI 0))) 481) → kV p l e (rmF 1 40 0 0) s m ([.ref (ad 73), .int (iI (M : Int))] : List Value).toArray below meth c Q s.heap B D classes 5 95 0 0 ad G112 [(0, .ref (ad 73)), (1, .int (iI (M : Int))), (2, .int (iI (j : Int))), (3, .int (iI (y : Int))), (4, .int (iI (x : Int)))] [] 112 := by
                              intro d9
                              induction d9 with
                              | zero => intro x G112 hd9; exact absurd hd9 (Nat.not_lt_zero _)
                              | succ d9 ih112 =>
                                intro x G112 hd112 hx hfr112 hunk
                                have hm := (hfr112 73 (by omega)).trans hm
                                have htol := (hfr112 79 (by omega)).trans htol
                                have hrP := (hfr112 80 (by omega)).trans hrP
                                have hrQ := (hfr112 81 (by omega)).trans hrQ
                                have hbns := (hfr112 83 (by omega)).trans hbns
                                have hkno := (hfr112 78 (by omega)).trans hkno
                                have hlef := (hfr112 90 (by omega)).trans hlef
                                refine v_iload C d_M_beginTry_112 4 rfl ?_
                                refine v_aload_n C d_M_beginTry_114 rfl 0 rfl ?_
                                refine gf_M_7 C (by omega) hm rfl d_M_beginTry_115 ?_
                                refine v_icmp_geI C d_M_beginTry_118 (by omega) (by omega) (by omega) (by omega) (fun hb118 => ?_) (fun hb118 => ?_)
                                · have hxw : x = w := by omega
                                  rw [hxw] at hunk
                                  refine v_iinc (lv' := [(3, .int (iI ((y : Int) + 1))), (0, .ref (ad 73)), (1, .int (iI (M : Int))), (2, .int (iI (j : Int))), (4, .int (iI (x : Int)))]) C d_M_beginTry_150 3 rfl (by decide) rfl ?_
                                  refine v_goto C d_M_beginTry_153 ?_
                                  refine v_lv (lv' := [(0, .ref (ad 73)), (1, .int (iI (M : Int))), (2, .int (iI (j : Int))), (3, .int (iI ((y : Int) + 1)))]) [1, 2, 3, 0] rfl ?_
                                  exact ih101 (y + 1) _ (by omega) (by omega) (fun r1 n0 => ((hfr112 r1 n0).trans (hfr101 r1 n0))) hunk
                                · refine v_aload_n C d_M_beginTry_121 rfl 0 rfl ?_
                                  refine gf_M_63 C (by omega) hm rfl d_M_beginTry_122 ?_
                                  refine v_sipush C d_M_beginTry_125 (by decide +kernel) ?_
                                  refine v_iload_n C d_M_beginTry_128 rfl 2 rfl ?_
                                  refine v_imulI C d_M_beginTry_129 ?_
                                  refine v_aload_n C d_M_beginTry_130 rfl 0 rfl ?_
                                  refine v_iload_n C d_M_beginTry_131 rfl 2 rfl ?_
                                  refine v_iload C d_M_beginTry_132 4 rfl ?_
                                  refine v_iload_n C d_M_beginTry_134 rfl 3 rfl ?_
                                  refine v_callVI (As := [.int (iI (j : Int)), .int (iI (x : Int)), .int (iI (y : Int))]) (st := [.int (iI (481 * (j : Int))), .ref (ad 89)]) (by omega) hm rfl rfl C (c_MbinAt l th w h kp hb 0 sq wm j (x : Int) (y : Int) (by omega) hh.1 hm rP hrP rQ hrQ hPQ) (lk_M_120 C.1.2.2.2.2 rfl rfl ⟨Nat.le_of_ble_eq_true rfl, Nat.le_of_ble_eq_true rfl⟩) rfl rfl (Nat.le_of_ble_eq_true rfl) d_M_beginTry_135 ⟨Nat.le_of_ble_eq_true rfl, Nat.le_of_ble_eq_true rfl⟩ (fun w4 ad4 g4 hp4 => ?_)
                                  obtain ⟨rfl, rfl, rfl⟩ := hp4
                                  have hbn := bn_nat (hPQ j (by omega)) hw.2 hh.2 (show x < w by omega) (show y < h by omega)
                                  have hbq : bnI (rP j) (rQ j) w h (x : Int) (y : Int) = ((bnN (rP j) (rQ j) w h x y : Nat) : Int) := hbn.1
                                  have hbl := Nat.lt_of_lt_of_le hbn.2.1 hbn.2.2.1
                                  refine v_iaddI C d_M_beginTry_138 ?_
                                  refine v_dup2 C d_M_beginTry_139 rfl rfl ?_
                                  refine v_iald C 0 (by omega) hunk rfl (481 * j + bnN (rP j) (rQ j) w h x y) (by omega) (by omega) (by omega) d_M_beginTry_140 ?_
                                  refine v_iconst C d_M_beginTry_141 ?_
                                  refine v_iadd C d_M_beginTry_142 ?_
                                  refine v_iast C 0 (by omega) hunk rfl (481 * j + bnN (rP j) (rQ j) w h x y) (by omega) (by omega) (by omega) d_M_beginTry_143 (fun g5 hunk fr6 => ?_)
                                  have hm := (fr6 73 (by omega)).trans hm
                                  have htol := (fr6 79 (by omega)).trans htol
                                  have hrP := (fr6 80 (by omega)).trans hrP
                                  have hrQ := (fr6 81 (by omega)).trans hrQ
                                  have hbns := (fr6 83 (by omega)).trans hbns
                                  have hkno := (fr6 78 (by omega)).trans hkno
                                  have hlef := (fr6 90 (by omega)).trans hlef
                                  refine v_iinc (lv' := [(4, .int (iI ((x : Int) + 1))), (0, .ref (ad 73)), (1, .int (iI (M : Int))), (2, .int (iI (j : Int))), (3, .int (iI (y : Int)))]) C d_M_beginTry_144 4 rfl (by decide) rfl ?_
                                  refine v_goto C d_M_beginTry_147 ?_
                                  refine v_lv (lv' := [(0, .ref (ad 73)), (1, .int (iI (M : Int))), (2, .int (iI (j : Int))), (3, .int (iI (y : Int))), (4, .int (iI ((x : Int) + 1)))]) [1, 2, 3, 4, 0] rfl ?_
                                  exact ih112 (x + 1) _ (by omega) (by omega) (fun r1 n0 => ((fr6 r1 n0).trans (hfr112 r1 n0))) (hunk.trans (congrArg (inA cI 3848) (ovl_acc (cf := fun _ => iI 1) hbl)))
                            exact L112 _ 0 _ (Nat.lt_succ_self _) (Nat.zero_le _) (fun r1 _ => rfl) hunk
                      exact L101 _ 0 _ (Nat.lt_succ_self _) (Nat.zero_le _) (fun r1 _ => rfl) hunk
                    · refine v_aload_n C d_M_beginTry_56 rfl 0 rfl ?_
                      refine gf_M_63 C (by omega) hm rfl d_M_beginTry_57 ?_
                      refine v_sipush C d_M_beginTry_60 (by decide +kernel) ?_
                      refine v_iload_n C d_M_beginTry_63 rfl 2 rfl ?_
                      refine v_imulI C d_M_beginTry_64 ?_
                      refine v_iload_n C d_M_beginTry_65 rfl 3 rfl ?_
                      refine v_iaddI C d_M_beginTry_66 ?_
                      refine v_iconst C d_M_beginTry_67 ?_
                      refine v_iast C 0 (by omega) hunk rfl (481 * j + i) (by omega) (by omega) (by omega) d_M_beginTry_68 (fun g7 hunk fr8 => ?_)
                      have hm := (fr8 73 (by omega)).trans hm
                      have htol := (fr8 79 (by omega)).trans htol
                      have hrP := (fr8 80 (by omega)).trans hrP
                      have hrQ := (fr8 81 (by omega)).trans hrQ
                      have hbns := (fr8 83 (by omega)).trans hbns
                      have hkno := (fr8 78 (by omega)).trans hkno
                      have hlef := (fr8 90 (by omega)).trans hlef
                      refine v_aload_n C d_M_beginTry_69 rfl 0 rfl ?_
                      refine gf_M_66 C (by omega) hm rfl d_M_beginTry_70 ?_
                      refine v_sipush C d_M_beginTry_73 (by decide +kernel) ?_
                      refine v_iload_n C d_M_beginTry_76 rfl 2 rfl ?_
                      refine v_imulI C d_M_beginTry_77 ?_
                      refine v_iload_n C d_M_beginTry_78 rfl 3 rfl ?_
                      refine v_iaddI C d_M_beginTry_79 ?_
                      refine v_aload_n C d_M_beginTry_80 rfl 0 rfl ?_
                      refine gf_M_45 C (by omega) hm rfl d_M_beginTry_81 ?_
                      refine v_sipush C d_M_beginTry_84 (by decide +kernel) ?_
                      refine v_iload_n C d_M_beginTry_87 rfl 2 rfl ?_
                      refine v_imulI C d_M_beginTry_88 ?_
                      refine v_iload_n C d_M_beginTry_89 rfl 3 rfl ?_
                      refine v_iaddI C d_M_beginTry_90 ?_
                      refine v_iald C 0 (by omega) hbns rfl (481 * j + i) (by omega) (by omega) (by omega) d_M_beginTry_91 ?_
                      refine v_iast C 0 (by omega) hlef rfl (481 * j + i) (by omega) (by omega) (by omega) d_M_beginTry_92 (fun g9 hlef fr10 => ?_)
                      have hm := (fr10 73 (by omega)).trans hm
                      have htol := (fr10 79 (by omega)).trans htol
                      have hrP := (fr10 80 (by omega)).trans hrP
                      have hrQ := (fr10 81 (by omega)).trans hrQ
                      have hbns := (fr10 83 (by omega)).trans hbns
                      have hkno := (fr10 78 (by omega)).trans hkno
                      have hunk := (fr10 89 (by omega)).trans hunk
                      refine v_iinc (lv' := [(3, .int (iI ((i : Int) + 1))), (0, .ref (ad 73)), (1, .int (iI (M : Int))), (2, .int (iI (j : Int)))]) C d_M_beginTry_93 3 rfl (by decide) rfl ?_
                      refine v_goto C d_M_beginTry_96 ?_
                      refine v_lv (lv' := [(0, .ref (ad 73)), (1, .int (iI (M : Int))), (2, .int (iI (j : Int))), (3, .int (iI ((i : Int) + 1)))]) [1, 2, 3, 0] rfl ?_
                      exact ih49 (i + 1) _ (by omega) (by omega) (fun r1 n0 n1 => ((fr10 r1 n1).trans ((fr8 r1 n0).trans (hfr49 r1 n0 n1)))) (hunk.trans (congrArg (inA cI 3848) (ovl_s (a := fun _ => iI 0)))) (hlef.trans (congrArg (inA cI 3848) (ovl_s (a := fun k => bns (481 * j + k)))))
                exact L49 _ 0 _ (Nat.lt_succ_self _) (by omega) (fun r1 _ _ => rfl) (hunk.trans (by rw [ovl_0])) (hlef.trans (by rw [ovl_0]))
              · refine v_goto C d_M_beginTry_44 ?_
                refine v_iinc (lv' := [(2, .int (iI ((j : Int) + 1))), (0, .ref (ad 73)), (1, .int (iI (M : Int)))]) C d_M_beginTry_156 2 rfl (by decide) rfl ?_
                refine v_goto C d_M_beginTry_159 ?_
                refine v_lv (lv' := [(0, .ref (ad 73)), (1, .int (iI (M : Int))), (2, .int (iI ((j : Int) + 1)))]) [1, 2, 0] rfl ?_
                exact ih29 (j + 1) un9 le9 _ (by omega) (by omega) (fun i hi q => by by_cases e9 : i = j; (subst e9; rw [hb41] at q; cases q); exact hdn i (by omega) q) (fun r1 n0 n1 => (hfr29 r1 n0 n1)) hunk hlef
        exact L29 _ 0 unk lef _ (Nat.lt_succ_self _) (by omega) (fun i hi => absurd hi (by omega)) (fun r1 _ _ => rfl) hunk hlef
      · refine v_aload_n C d_M_beginTry_14 rfl 0 rfl ?_
        refine gf_M_29 C (by omega) hm rfl d_M_beginTry_15 ?_
        refine v_iload_n C d_M_beginTry_18 rfl 2 rfl ?_
        refine v_iconst C d_M_beginTry_19 ?_
        refine v_zastB false C 1 (by omega) hkno rfl (i : Nat) (by omega) (by omega) (by omega) d_M_beginTry_20 (fun g11 hkno fr12 => ?_)
        have hm := (fr12 73 (by omega)).trans hm
        have htol := (fr12 79 (by omega)).trans htol
        have hrP := (fr12 80 (by omega)).trans hrP
        have hrQ := (fr12 81 (by omega)).trans hrQ
        have hbns := (fr12 83 (by omega)).trans hbns
        have hunk := (fr12 89 (by omega)).trans hunk
        have hlef := (fr12 90 (by omega)).trans hlef
        refine v_iinc (lv' := [(2, .int (iI ((i : Int) + 1))), (0, .ref (ad 73)), (1, .int (iI (M : Int)))]) C d_M_beginTry_21 2 rfl (by decide) rfl ?_
        refine v_goto C d_M_beginTry_24 ?_
        refine v_lv (lv' := [(0, .ref (ad 73)), (1, .int (iI (M : Int))), (2, .int (iI ((i : Int) + 1)))]) [1, 2, 0] rfl ?_
        exact ih7 (i + 1) _ _ (by omega) (by omega) (uP_all hk) (fun r1 n0 => ((fr12 r1 n0).trans (hfr7 r1 n0))) hkno
  exact L7 _ 0 kno _ (Nat.lt_succ_self _) (by omega) (fun c hc => absurd hc (by omega)) (fun r1 _ => rfl) hkno
set_option maxHeartbeats 1000000 in
set_option maxRecDepth 100000 in
theorem c_single (l : Launch) {B : Nat} {D : va_G} {cI cZ cL cS cW : ClassId} {ad : Nat → Nat} {g : Nat → va_E} (th : Int) (w h : Nat) (kp hb : Bool) (tr sq wm : Int) (M : Nat) (hM : M < 256) (K9 : Nat → Bool) (val : Nat → Int32) (hw : 1 ≤ w ∧ w ≤ 16) (hh : 1 ≤ h ∧ h ≤ 16) (hm : g 73 = mE ad th w h kp hb tr sq wm) (tol : Nat → Bool) (htol : g 79 = inA cZ 8 (bA tol)) (rP : Nat → Int) (hrP : g 80 = inA cI 8 (jA rP)) (rQ : Nat → Int) (hrQ : g 81 = inA cI 8 (jA rQ)) (unk : Nat → Int32) (hunk : g 89 = inA cI 3848 unk) (hPQ : ∀ j, j < 8 → okD (rP j) (rQ j)) (le bns : Nat → Int32) (hrow : ∀ j, j < 8 → (Nat.testBit M j && tol j) = true → rwOK w h K9 val (fun c => bnN (rP j) (rQ j) w h (c % 16) (c / 16)) (fun k => bns (481 * j + k)) unk le j) : Met l y_M_single (Cond.code y_M_single b_M_single 5 (some .int) :: wG) (rmF 2 75 0 0) (wPc B D classes (tyL cI cZ cL cS cW) (Zs B) 95 [.ref (ad 73), .int (iI (M : Int))] ad g) (QI B D classes 95 (fun v ad1 g1 => ∃ pl : Int, v = iI pl ∧ ((∃ s0 k0 : Nat, pl = ((481 * s0 + k0 : Nat) : Int) ∧ Nxt w h (fun j => Nat.testBit M j && tol j) (fun j c => bnN (rP j) (rQ j) w h (c % 16) (c / 16)) (fun j => ctN (rP j) (rQ j) w h) K9 s0 k0) ∨ (pl = -1 ∧ ∀ s0 k0, ¬ Nxt w h (fun j => Nat.testBit M j && tol j) (fun j c => bnN (rP j) (rQ j) w h (c % 16) (c / 16)) (fun j => ctN (rP j) (rQ j) w h) K9 s0 k0)) ∧ ad = ad1 ∧ g = g1)) 0 0 (aB B) := by
  refine ofI (own := R_M) (by decide) rfl (Nat.le_of_ble_eq_true rfl) ?_
  intro p e s m below meth c Q C hnm hret
  change kV _ _ _ _ _ _ _ _ _ _ _ _ _ _ _ _ _ _ _ _ _ [(0, .ref (ad 73)), (1, .int (iI (M : Int)))] _ _
  refine v_iconst C d_M_single_0 ?_
  refine v_istore_n (lv' := [(2, .int (iI 0)), (0, .ref (ad 73)), (1, .int (iI (M : Int)))]) C d_M_single_1 rfl (by decide) rfl ?_
  refine v_lv (lv' := [(0, .ref (ad 73)), (1, .int (iI (M : Int))), (2, .int (iI 0))]) [1, 2, 0] rfl ?_
  have L2 : ∀ (d9 : Nat) (j : Nat), 8 - j < d9 → (j ≤ 8) → (∀ i, i < j → (Nat.testBit M i && tol i) = true → ∀ k, k < ctN (rP i) (rQ i) w h → cnt w h K9 (fun c => bnN (rP i) (rQ i) w h (c % 16) (c / 16)) k ≠ 1) → kV p l e (rmF 2 75 0 0) s m ([.ref (ad 73), .int (iI (M : Int))] : List Value).toArray below meth c Q s.heap B D classes 5 95 0 0 ad g [(0, .ref (ad 73)), (1, .int (iI (M : Int))), (2, .int (iI (j : Int)))] [] 2 := by
    intro d9
    induction d9 with
    | zero => intro j hd9; exact absurd hd9 (Nat.not_lt_zero _)
    | succ d9 ih2 =>
      intro j hd2 hj hn
      refine v_iload_n C d_M_single_2 rfl 2 rfl ?_
      refine v_bipush C d_M_single_3 (by decide +kernel) ?_
      refine v_icmp_geI C d_M_single_5 (by omega) (by omega) (by omega) (by omega) (fun hb5 => ?_) (fun hb5 => ?_)
      · refine v_iconst C d_M_single_73 ?_
        exact hret _ _ _ _ _ _ _ (Nat.zero_le _) (Nat.zero_le _) d_M_single_74 ⟨_, rfl, Or.inr ⟨rfl, fun s0 k0 hq => hn s0 (by have := hq.1; omega) hq.2.1 k0 hq.2.2.1 hq.2.2.2.1⟩, rfl, rfl⟩
      · refine v_aload_n C d_M_single_8 rfl 0 rfl ?_
        refine v_iload_n C d_M_single_9 rfl 1 rfl ?_
        refine v_iload_n C d_M_single_10 rfl 2 rfl ?_
        refine v_callVI (As := [.int (iI (M : Int)), .int (iI (j : Int))]) (st := []) (by omega) hm rfl rfl C (c_isOf l th w h kp hb tr sq wm M j hM (by omega) hm tol htol) (lk_M_134 C.1.2.2.2.2 rfl rfl ⟨Nat.le_of_ble_eq_true rfl, Nat.le_of_ble_eq_true rfl⟩) rfl rfl (Nat.le_of_ble_eq_true rfl) d_M_single_11 ⟨Nat.le_of_ble_eq_true rfl, Nat.le_of_ble_eq_true rfl⟩ (fun w1 ad1 g1 hp1 => ?_)
        obtain ⟨_, rfl, rfl, rfl, rfl⟩ := hp1
        refine v_if_neB C d_M_single_14 (fun hb14 => ?_) (fun hb14 => ?_)
        · refine v_aload_n C d_M_single_20 rfl 0 rfl ?_
          refine v_iload_n C d_M_single_21 rfl 2 rfl ?_
          refine v_callVI (As := [.int (iI (j : Int))]) (st := []) (by omega) hm rfl rfl C (c_binsOf l th w h kp hb tr sq wm j (by omega) hm rP hrP rQ hrQ hPQ) (lk_M_117 C.1.2.2.2.2 rfl rfl ⟨Nat.le_of_ble_eq_true rfl, Nat.le_of_ble_eq_true rfl⟩) rfl rfl (Nat.le_of_ble_eq_true rfl) d_M_single_22 ⟨Nat.le_of_ble_eq_true rfl, Nat.le_of_ble_eq_true rfl⟩ (fun w2 ad2 g2 hp2 => ?_)
          obtain ⟨rfl, rfl, rfl⟩ := hp2
          obtain ⟨hct1, hct2, hct3⟩ := ct_nat (hPQ j (by omega)) hw.2 hh.2 hw.1 hh.1
          refine v_istore_n (lv' := [(3, .int (iI (ctI (rP j) (rQ j) w h))), (0, .ref (ad 73)), (1, .int (iI (M : Int))), (2, .int (iI (j : Int)))]) C d_M_single_25 rfl (by decide) rfl ?_
          refine v_iconst C d_M_single_26 ?_
          refine v_istore (lv' := [(4, .int (iI 0)), (3, .int (iI (ctI (rP j) (rQ j) w h))), (0, .ref (ad 73)), (1, .int (iI (M : Int))), (2, .int (iI (j : Int)))]) C d_M_single_27 (by decide) rfl ?_
          refine v_lv (lv' := [(0, .ref (ad 73)), (1, .int (iI (M : Int))), (2, .int (iI (j : Int))), (3, .int (iI (ctI (rP j) (rQ j) w h))), (4, .int (iI 0))]) [2, 3, 4, 1, 0] rfl ?_
          have L29 : ∀ (d9 : Nat) (k : Nat), 481 - k < d9 → (k ≤ ctN (rP j) (rQ j) w h) → (∀ k', k' < k → cnt w h K9 (fun c => bnN (rP j) (rQ j) w h (c % 16) (c / 16)) k' ≠ 1) → kV p l e (rmF 2 75 0 0) s m ([.ref (ad 73), .int (iI (M : Int))] : List Value).toArray below meth c Q s.heap B D classes 5 95 0 0 ad g [(0, .ref (ad 73)), (1, .int (iI (M : Int))), (2, .int (iI (j : Int))), (3, .int (iI (ctI (rP j) (rQ j) w h))), (4, .int (iI (k : Int)))] [] 29 := by
            intro d9
            induction d9 with
            | zero => intro k hd9; exact absurd hd9 (Nat.not_lt_zero _)
            | succ d9 ih29 =>
              intro k hd29 hk hkn
              refine v_iload C d_M_single_29 4 rfl ?_
              refine v_iload_n C d_M_single_31 rfl 3 rfl ?_
              refine v_icmp_geI C d_M_single_32 (by omega) (by omega) (by omega) (by omega) (fun hb32 => ?_) (fun hb32 => ?_)
              · refine v_iinc (lv' := [(2, .int (iI ((j : Int) + 1))), (0, .ref (ad 73)), (1, .int (iI (M : Int))), (3, .int (iI (ctI (rP j) (rQ j) w h))), (4, .int (iI (k : Int)))]) C d_M_single_67 2 rfl (by decide) rfl ?_
                refine v_goto C d_M_single_70 ?_
                refine v_lv (lv' := [(0, .ref (ad 73)), (1, .int (iI (M : Int))), (2, .int (iI ((j : Int) + 1)))]) [1, 2, 0] rfl ?_
                exact ih2 (j + 1) (by omega) (by omega) (fun i hi q => by by_cases e9 : i = j; (subst e9; first | exact fun k hk9 => hkn k (by omega) | (rw [hb14] at q; cases q)); exact hn i (by omega) q)
              · refine v_aload_n C d_M_single_35 rfl 0 rfl ?_
                refine gf_M_63 C (by omega) hm rfl d_M_single_36 ?_
                refine v_sipush C d_M_single_39 (by decide +kernel) ?_
                refine v_iload_n C d_M_single_42 rfl 2 rfl ?_
                refine v_imulI C d_M_single_43 ?_
                refine v_iload C d_M_single_44 4 rfl ?_
                refine v_iaddI C d_M_single_46 ?_
                refine v_iald C 0 (by omega) hunk rfl (481 * j + k) (by omega) (by omega) (by omega) d_M_single_47 ?_
                refine v_iconst C d_M_single_48 ?_
                refine v_icmp_ne C d_M_single_49 (fun hb49 => ?_) (fun hb49 => ?_)
                · refine v_iinc (lv' := [(4, .int (iI ((k : Int) + 1))), (0, .ref (ad 73)), (1, .int (iI (M : Int))), (2, .int (iI (j : Int))), (3, .int (iI (ctI (rP j) (rQ j) w h)))]) C d_M_single_61 4 rfl (by decide) rfl ?_
                  refine v_goto C d_M_single_64 ?_
                  refine v_lv (lv' := [(0, .ref (ad 73)), (1, .int (iI (M : Int))), (2, .int (iI (j : Int))), (3, .int (iI (ctI (rP j) (rQ j) w h))), (4, .int (iI ((k : Int) + 1)))]) [1, 2, 3, 4, 0] rfl ?_
                  exact ih29 (k + 1) (by omega) (by omega) (fun k' hk' => by by_cases e9 : k' = k; (subst e9; exact fun z => hb49 ((un_1 (hrow j (by omega) hb14 k' (by omega)).1).mpr z)); exact hkn k' (by omega))
                · refine v_sipush C d_M_single_52 (by decide +kernel) ?_
                  refine v_iload_n C d_M_single_55 rfl 2 rfl ?_
                  refine v_imulI C d_M_single_56 ?_
                  refine v_iload C d_M_single_57 4 rfl ?_
                  refine v_iaddI C d_M_single_59 ?_
                  exact hret _ _ _ _ _ _ _ (Nat.zero_le _) (Nat.zero_le _) d_M_single_60 ⟨_, rfl, Or.inl ⟨j, k, by omega, ⟨by omega, hb14, by show k < ctN (rP j) (rQ j) w h; omega, (un_1 (hrow j (by omega) hb14 k (by omega)).1).mp hb49, hkn, hn⟩⟩, rfl, rfl⟩
          exact L29 _ 0 (Nat.lt_succ_self _) (by omega) (fun k' hk' => absurd hk' (by omega))
        · refine v_goto C d_M_single_17 ?_
          refine v_iinc (lv' := [(2, .int (iI ((j : Int) + 1))), (0, .ref (ad 73)), (1, .int (iI (M : Int)))]) C d_M_single_67 2 rfl (by decide) rfl ?_
          refine v_goto C d_M_single_70 ?_
          refine v_lv (lv' := [(0, .ref (ad 73)), (1, .int (iI (M : Int))), (2, .int (iI ((j : Int) + 1)))]) [1, 2, 0] rfl ?_
          exact ih2 (j + 1) (by omega) (by omega) (fun i hi q => by by_cases e9 : i = j; (subst e9; first | exact fun k hk9 => hkn k (by omega) | (rw [hb14] at q; cases q)); exact hn i (by omega) q)
  exact L2 _ 0 (Nat.lt_succ_self _) (by omega) (fun i hi => absurd hi (by omega))
