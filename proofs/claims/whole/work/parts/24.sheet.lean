set_option maxHeartbeats 1000000 in
set_option maxRecDepth 100000 in
theorem c_readyCell (l : Launch) {B : Nat} {D : va_G} {cI cZ cL cS cW : ClassId} {ad : Nat → Nat} {g : Nat → va_E} (r k : Nat) (ct : Int) (f : Nat → Int32) (hr : r < 92) (hk : k < 481) (h0 : g r = wsE ct (k : Int) (ad (r + 1)) (ad (r + 2)) (ad (r + 3))) (h1 : g (r + 2) = inA cI 481 f) : Met l y_W_readyCell (Cond.code y_W_readyCell b_W_readyCell 1 (some .int) :: wG) (rmF 0 0 0 0) (wPc B D classes (tyL cI cZ cL cS cW) (Zs B) 95 [.ref (ad r)] ad g) (QI B D classes 95 (fun v ad1 g1 => v = f k ∧ ad = ad1 ∧ g = g1)) 0 0 (aB B) := by
  refine ofI (own := R_W) (by decide) rfl (Nat.le_of_ble_eq_true rfl) ?_
  intro p e s m below meth c Q C hnm hret
  change kV _ _ _ _ _ _ _ _ _ _ _ _ _ _ _ _ _ _ _ _ _ [(0, .ref (ad r))] _ _
  refine v_aload_n C d_W_readyCell_0 rfl 0 rfl ?_
  refine gf_W_22 C (by omega) h0 rfl d_W_readyCell_1 ?_
  refine v_aload_n C d_W_readyCell_4 rfl 0 rfl ?_
  refine gf_W_15 C (by omega) h0 rfl d_W_readyCell_5 ?_
  refine v_iald C 0 (by omega) h1 rfl (k : Nat) (by omega) (by omega) (by omega) d_W_readyCell_8 ?_
  exact hret _ _ _ _ _ _ _ (Nat.zero_le _) (Nat.zero_le _) d_W_readyCell_9 ⟨rfl, rfl, rfl⟩
set_option maxHeartbeats 1000000 in
set_option maxRecDepth 100000 in
theorem c_readyNumber (l : Launch) {B : Nat} {D : va_G} {cI cZ cL cS cW : ClassId} {ad : Nat → Nat} {g : Nat → va_E} (r k : Nat) (ct : Int) (f : Nat → Int32) (hr : r < 92) (hk : k < 481) (h0 : g r = wsE ct (k : Int) (ad (r + 1)) (ad (r + 2)) (ad (r + 3))) (h1 : g (r + 3) = inA cI 481 f) : Met l y_W_readyNumber (Cond.code y_W_readyNumber b_W_readyNumber 1 (some .int) :: wG) (rmF 0 0 0 0) (wPc B D classes (tyL cI cZ cL cS cW) (Zs B) 95 [.ref (ad r)] ad g) (QI B D classes 95 (fun v ad1 g1 => v = f k ∧ ad = ad1 ∧ g = g1)) 0 0 (aB B) := by
  refine ofI (own := R_W) (by decide) rfl (Nat.le_of_ble_eq_true rfl) ?_
  intro p e s m below meth c Q C hnm hret
  change kV _ _ _ _ _ _ _ _ _ _ _ _ _ _ _ _ _ _ _ _ _ [(0, .ref (ad r))] _ _
  refine v_aload_n C d_W_readyNumber_0 rfl 0 rfl ?_
  refine gf_W_25 C (by omega) h0 rfl d_W_readyNumber_1 ?_
  refine v_aload_n C d_W_readyNumber_4 rfl 0 rfl ?_
  refine gf_W_15 C (by omega) h0 rfl d_W_readyNumber_5 ?_
  refine v_iald C 0 (by omega) h1 rfl (k : Nat) (by omega) (by omega) (by omega) d_W_readyNumber_8 ?_
  exact hret _ _ _ _ _ _ _ (Nat.zero_le _) (Nat.zero_le _) d_W_readyNumber_9 ⟨rfl, rfl, rfl⟩
set_option maxHeartbeats 1000000 in
set_option maxRecDepth 100000 in
theorem c_findReadyBin (l : Launch) {B : Nat} {D : va_G} {cI cZ cL cS cW : ClassId} {ad : Nat → Nat} {g : Nat → va_E} (r n k0 : Nat) (f : Nat → Int32) (hr : r < 92) (hn : n ≤ 481) (hk : k0 ≤ n) (h0 : g r = wsE (n : Int) (k0 : Int) (ad (r + 1)) (ad (r + 2)) (ad (r + 3))) (h1 : g (r + 1) = inA cI 481 f) : Met l y_W_findReadyBin (Cond.code y_W_findReadyBin b_W_findReadyBin 1 (some .boolean) :: wG) (rmF 0 0 0 0) (wPc B D classes (tyL cI cZ cL cS cW) (Zs B) 95 [.ref (ad r)] ad g) (QI B D classes 95 (fun v9 ad1 g1 => ∃ v, v9 = bI v ∧ (∃ k1 : Nat, k0 ≤ k1 ∧ k1 ≤ n ∧ (∀ j, k0 ≤ j → j < k1 → f j ≠ iI 1) ∧ ((k1 < n ∧ f k1 = iI 1 ∧ v = true) ∨ (k1 = n ∧ v = false)) ∧ ad = ad1 ∧ g1 r = wsE (n : Int) (k1 : Int) (ad (r + 1)) (ad (r + 2)) (ad (r + 3)) ∧ ∀ r1, r1 ≠ r → g1 r1 = g r1))) 0 0 (aB B) := by
  refine ofZ (own := R_W) (by decide) rfl (Nat.le_of_ble_eq_true rfl) ?_
  intro p e s m below meth c Q C hnm hret
  change kV _ _ _ _ _ _ _ _ _ _ _ _ _ _ _ _ _ _ _ _ _ [(0, .ref (ad r))] _ _
  have L0 : ∀ (d9 : Nat) (k : Nat) (G0 : Nat → va_E), n - k < d9 → (k0 ≤ k) → (k ≤ n) → (∀ j, k0 ≤ j → j < k → f j ≠ iI 1) → (∀ r1, r1 ≠ r → G0 r1 = g r1) → G0 r = .inr (2, [.int (iI (n : Int)), .int (iI (k : Int)), .ref (ad (r + 1)), .ref (ad (r + 2)), .ref (ad (r + 3))]) → kV p l e (rmF 0 0 0 0) s m ([.ref (ad r)] : List Value).toArray below meth c Q s.heap B D classes 1 95 0 0 ad G0 [(0, .ref (ad r))] [] 0 := by
    intro d9
    induction d9 with
    | zero => intro k G0 hd9; exact absurd hd9 (Nat.not_lt_zero _)
    | succ d9 ih0 =>
      intro k G0 hd0 hk0 hkn hj hfr0 h0
      have h1 := (hfr0 (r + 1) (by omega)).trans h1
      refine v_aload_n C d_W_findReadyBin_0 rfl 0 rfl ?_
      refine gf_W_15 C (by omega) h0 rfl d_W_findReadyBin_1 ?_
      refine v_aload_n C d_W_findReadyBin_4 rfl 0 rfl ?_
      refine gf_W_9 C (by omega) h0 rfl d_W_findReadyBin_5 ?_
      refine v_icmp_geI C d_W_findReadyBin_8 (by omega) (by omega) (by omega) (by omega) (fun hb8 => ?_) (fun hb8 => ?_)
      · refine v_aload_n C d_W_findReadyBin_37 rfl 0 rfl ?_
        refine gf_W_15 C (by omega) h0 rfl d_W_findReadyBin_38 ?_
        refine v_aload_n C d_W_findReadyBin_41 rfl 0 rfl ?_
        refine gf_W_9 C (by omega) h0 rfl d_W_findReadyBin_42 ?_
        refine v_icmp_geI C d_W_findReadyBin_45 (by omega) (by omega) (by omega) (by omega) (fun hb45 => ?_) (fun hb45 => ?_)
        · refine v_iconst C d_W_findReadyBin_52 ?_
          exact hret _ _ _ _ _ false _ (Nat.zero_le _) (Nat.zero_le _) d_W_findReadyBin_53 ⟨k, hk0, by omega, hj, Or.inr ⟨by omega, rfl⟩, rfl, h0, (fun r1 n0 => (hfr0 r1 n0))⟩
        · refine v_iconst C d_W_findReadyBin_48 ?_
          refine v_goto C d_W_findReadyBin_49 ?_
          first | exact hret _ _ _ _ _ true _ (Nat.zero_le _) (Nat.zero_le _) d_W_findReadyBin_53 ⟨k, hk0, by omega, hj, Or.inl ⟨by omega, hb21, rfl⟩, rfl, h0, (fun r1 n0 => (hfr0 r1 n0))⟩ | exact absurd hb45 (by omega)
      · refine v_aload_n C d_W_findReadyBin_11 rfl 0 rfl ?_
        refine gf_W_18 C (by omega) h0 rfl d_W_findReadyBin_12 ?_
        refine v_aload_n C d_W_findReadyBin_15 rfl 0 rfl ?_
        refine gf_W_15 C (by omega) h0 rfl d_W_findReadyBin_16 ?_
        refine v_iald C 0 (by omega) h1 rfl (k : Nat) (by omega) (by omega) (by omega) d_W_findReadyBin_19 ?_
        refine v_iconst C d_W_findReadyBin_20 ?_
        refine v_icmp_eq C d_W_findReadyBin_21 (fun hb21 => ?_) (fun hb21 => ?_)
        · refine v_aload_n C d_W_findReadyBin_37 rfl 0 rfl ?_
          refine gf_W_15 C (by omega) h0 rfl d_W_findReadyBin_38 ?_
          refine v_aload_n C d_W_findReadyBin_41 rfl 0 rfl ?_
          refine gf_W_9 C (by omega) h0 rfl d_W_findReadyBin_42 ?_
          refine v_icmp_geI C d_W_findReadyBin_45 (by omega) (by omega) (by omega) (by omega) (fun hb45 => ?_) (fun hb45 => ?_)
          · refine v_iconst C d_W_findReadyBin_52 ?_
            exact hret _ _ _ _ _ false _ (Nat.zero_le _) (Nat.zero_le _) d_W_findReadyBin_53 ⟨k, hk0, by omega, hj, Or.inr ⟨by omega, rfl⟩, rfl, h0, (fun r1 n0 => (hfr0 r1 n0))⟩
          · refine v_iconst C d_W_findReadyBin_48 ?_
            refine v_goto C d_W_findReadyBin_49 ?_
            first | exact hret _ _ _ _ _ true _ (Nat.zero_le _) (Nat.zero_le _) d_W_findReadyBin_53 ⟨k, hk0, by omega, hj, Or.inl ⟨by omega, hb21, rfl⟩, rfl, h0, (fun r1 n0 => (hfr0 r1 n0))⟩ | exact absurd hb45 (by omega)
        · refine v_aload_n C d_W_findReadyBin_24 rfl 0 rfl ?_
          refine v_dup C d_W_findReadyBin_25 rfl ?_
          refine gf_W_15 C (by omega) h0 rfl d_W_findReadyBin_26 ?_
          refine v_iconst C d_W_findReadyBin_29 ?_
          refine v_iaddI C d_W_findReadyBin_30 ?_
          refine pf_W_15 (fs' := [.int (iI (n : Int)), .int (iI ((k : Int) + 1)), .ref (ad (r + 1)), .ref (ad (r + 2)), .ref (ad (r + 3))]) C (by omega) h0 rfl rfl (Nat.le_of_ble_eq_true rfl) rfl d_W_findReadyBin_31 (fun g1 h0 fr2 => ?_)
          have h1 := (fr2 (r + 1) (by omega)).trans h1
          refine v_goto C d_W_findReadyBin_34 ?_
          exact ih0 (k + 1) _ (by omega) (by omega) (by omega) (fun j a b => by by_cases hh : j = k; (subst hh; exact hb21); exact hj j a (by omega)) (fun r1 n0 => ((fr2 r1 n0).trans (hfr0 r1 n0))) h0
  exact L0 _ k0 _ (Nat.lt_succ_self _) (Nat.le_refl _) hk (fun j a b => absurd b (by omega)) (fun r1 _ => rfl) h0
set_option maxHeartbeats 1000000 in
set_option maxRecDepth 100000 in
theorem c_takeOut (l : Launch) {B : Nat} {D : va_G} {cI cZ cL cS cW : ClassId} {ad : Nat → Nat} {g : Nat → va_E} (r k lo : Nat) (ct cell : Int) (v : Int32) (u uc re : Nat → Int32) (hr : r < 92) (hk : k < 481) (hlo : lo ≤ 481) (h0 : g r = wsE ct (lo : Int) (ad (r + 1)) (ad (r + 2)) (ad (r + 3))) (h1 : g (r + 1) = inA cI 481 u) (h2 : g (r + 2) = inA cI 481 uc) (h3 : g (r + 3) = inA cI 481 re) : Met l y_W_takeOut (Cond.code y_W_takeOut b_W_takeOut 4 none :: wG) (rmF 0 0 0 0) (wPc B D classes (tyL cI cZ cL cS cW) (Zs B) 95 [.ref (ad r), .int (iI (k : Int)), .int (iI cell), .int v] ad g) (QV B D classes 95 (fun ad1 g1 => ∃ l1 : Nat, ((u k - iI 1 = iI 1 ∧ k < lo ∧ l1 = k) ∨ (¬ (u k - iI 1 = iI 1 ∧ k < lo) ∧ l1 = lo)) ∧ ad = ad1 ∧ g1 r = wsE ct (l1 : Int) (ad (r + 1)) (ad (r + 2)) (ad (r + 3)) ∧ g1 (r + 1) = inA cI 481 (upd u k (u k - iI 1)) ∧ g1 (r + 2) = inA cI 481 (upd uc k (uc k - iI cell)) ∧ g1 (r + 3) = inA cI 481 (upd re k (re k - v)) ∧ ∀ r1, r1 ≠ r + 1 → r1 ≠ r + 2 → r1 ≠ r + 3 → r1 ≠ r → g1 r1 = g r1)) 0 0 (aB B) := by
  refine ofV (own := R_W) (by decide) rfl (Nat.le_of_ble_eq_true rfl) ?_
  intro p e s m below meth c Q C hnm hret
  change kV _ _ _ _ _ _ _ _ _ _ _ _ _ _ _ _ _ _ _ _ _ [(0, .ref (ad r)), (1, .int (iI (k : Int))), (2, .int (iI cell)), (3, .int v)] _ _
  refine v_aload_n C d_W_takeOut_0 rfl 0 rfl ?_
  refine gf_W_18 C (by omega) h0 rfl d_W_takeOut_1 ?_
  refine v_iload_n C d_W_takeOut_4 rfl 1 rfl ?_
  refine v_dup2 C d_W_takeOut_5 rfl rfl ?_
  refine v_iald C 0 (by omega) h1 rfl (k : Nat) (by omega) (by omega) (by omega) d_W_takeOut_6 ?_
  refine v_iconst C d_W_takeOut_7 ?_
  refine v_isub C d_W_takeOut_8 ?_
  refine v_iast C 0 (by omega) h1 rfl (k : Nat) (by omega) (by omega) (by omega) d_W_takeOut_9 (fun g1 h1 fr2 => ?_)
  have h0 := (fr2 r (by omega)).trans h0
  have h2 := (fr2 (r + 2) (by omega)).trans h2
  have h3 := (fr2 (r + 3) (by omega)).trans h3
  refine v_aload_n C d_W_takeOut_10 rfl 0 rfl ?_
  refine gf_W_22 C (by omega) h0 rfl d_W_takeOut_11 ?_
  refine v_iload_n C d_W_takeOut_14 rfl 1 rfl ?_
  refine v_dup2 C d_W_takeOut_15 rfl rfl ?_
  refine v_iald C 0 (by omega) h2 rfl (k : Nat) (by omega) (by omega) (by omega) d_W_takeOut_16 ?_
  refine v_iload_n C d_W_takeOut_17 rfl 2 rfl ?_
  refine v_isub C d_W_takeOut_18 ?_
  refine v_iast C 0 (by omega) h2 rfl (k : Nat) (by omega) (by omega) (by omega) d_W_takeOut_19 (fun g3 h2 fr4 => ?_)
  have h0 := (fr4 r (by omega)).trans h0
  have h1 := (fr4 (r + 1) (by omega)).trans h1
  have h3 := (fr4 (r + 3) (by omega)).trans h3
  refine v_aload_n C d_W_takeOut_20 rfl 0 rfl ?_
  refine gf_W_25 C (by omega) h0 rfl d_W_takeOut_21 ?_
  refine v_iload_n C d_W_takeOut_24 rfl 1 rfl ?_
  refine v_dup2 C d_W_takeOut_25 rfl rfl ?_
  refine v_iald C 0 (by omega) h3 rfl (k : Nat) (by omega) (by omega) (by omega) d_W_takeOut_26 ?_
  refine v_iload_n C d_W_takeOut_27 rfl 3 rfl ?_
  refine v_isub C d_W_takeOut_28 ?_
  refine v_iast C 0 (by omega) h3 rfl (k : Nat) (by omega) (by omega) (by omega) d_W_takeOut_29 (fun g5 h3 fr6 => ?_)
  have h0 := (fr6 r (by omega)).trans h0
  have h1 := (fr6 (r + 1) (by omega)).trans h1
  have h2 := (fr6 (r + 2) (by omega)).trans h2
  refine v_aload_n C d_W_takeOut_30 rfl 0 rfl ?_
  refine gf_W_18 C (by omega) h0 rfl d_W_takeOut_31 ?_
  refine v_iload_n C d_W_takeOut_34 rfl 1 rfl ?_
  refine v_iald C 0 (by omega) h1 rfl (k : Nat) (by omega) (by omega) (by omega) d_W_takeOut_35 ?_
  refine v_iconst C d_W_takeOut_36 ?_
  refine v_icmp_ne C d_W_takeOut_37 (fun hb37 => ?_) (fun hb37 => ?_)
  · exact hret _ _ _ _ _ _ (Nat.zero_le _) (Nat.zero_le _) d_W_takeOut_53 ⟨lo, Or.inr ⟨fun q => by first | omega | (rw [pk_us] at hb37; exact hb37 q.1), rfl⟩, rfl, h0, h1, h2, h3, (fun r1 n0 n1 n2 n3 => ((fr6 r1 n2).trans ((fr4 r1 n1).trans (fr2 r1 n0))))⟩
  · refine v_iload_n C d_W_takeOut_40 rfl 1 rfl ?_
    refine v_aload_n C d_W_takeOut_41 rfl 0 rfl ?_
    refine gf_W_15 C (by omega) h0 rfl d_W_takeOut_42 ?_
    refine v_icmp_geI C d_W_takeOut_45 (by omega) (by omega) (by omega) (by omega) (fun hb45 => ?_) (fun hb45 => ?_)
    · exact hret _ _ _ _ _ _ (Nat.zero_le _) (Nat.zero_le _) d_W_takeOut_53 ⟨lo, Or.inr ⟨fun q => by first | omega | (rw [pk_us] at hb37; exact hb37 q.1), rfl⟩, rfl, h0, h1, h2, h3, (fun r1 n0 n1 n2 n3 => ((fr6 r1 n2).trans ((fr4 r1 n1).trans (fr2 r1 n0))))⟩
    · refine v_aload_n C d_W_takeOut_48 rfl 0 rfl ?_
      refine v_iload_n C d_W_takeOut_49 rfl 1 rfl ?_
      refine pf_W_15 (fs' := [.int (iI ct), .int (iI (k : Int)), .ref (ad (r + 1)), .ref (ad (r + 2)), .ref (ad (r + 3))]) C (by omega) h0 rfl rfl (Nat.le_of_ble_eq_true rfl) rfl d_W_takeOut_50 (fun g7 h0 fr8 => ?_)
      have h1 := (fr8 (r + 1) (by omega)).trans h1
      have h2 := (fr8 (r + 2) (by omega)).trans h2
      have h3 := (fr8 (r + 3) (by omega)).trans h3
      exact hret _ _ _ _ _ _ (Nat.zero_le _) (Nat.zero_le _) d_W_takeOut_53 ⟨k, Or.inl ⟨by rw [pk_us] at hb37; exact hb37, by omega, rfl⟩, rfl, h0, h1, h2, h3, (fun r1 n0 n1 n2 n3 => ((fr8 r1 n3).trans ((fr6 r1 n2).trans ((fr4 r1 n1).trans (fr2 r1 n0)))))⟩
set_option maxHeartbeats 1000000 in
set_option maxRecDepth 100000 in
theorem c_lowestWrongBin (l : Launch) {B : Nat} {D : va_G} {cI cZ cL cS cW : ClassId} {ad : Nat → Nat} {g : Nat → va_E} (r n : Nat) (lo : Int) (f : Nat → Int32) (hr : r < 92) (hn : n ≤ 481) (h0 : g r = wsE (n : Int) lo (ad (r + 1)) (ad (r + 2)) (ad (r + 3))) (h3 : g (r + 3) = inA cI 481 f) : Met l y_W_lowestWrongBin (Cond.code y_W_lowestWrongBin b_W_lowestWrongBin 2 (some .int) :: wG) (rmF 0 0 0 0) (wPc B D classes (tyL cI cZ cL cS cW) (Zs B) 95 [.ref (ad r)] ad g) (QI B D classes 95 (fun v ad1 g1 => ((∃ k : Nat, k < n ∧ v = iI (k : Int) ∧ f k ≠ 0 ∧ ∀ j, j < k → f j = 0) ∨ (v = iI (-1) ∧ ∀ j, j < n → f j = 0)) ∧ ad = ad1 ∧ g = g1)) 0 0 (aB B) := by
  refine ofI (own := R_W) (by decide) rfl (Nat.le_of_ble_eq_true rfl) ?_
  intro p e s m below meth c Q C hnm hret
  change kV _ _ _ _ _ _ _ _ _ _ _ _ _ _ _ _ _ _ _ _ _ [(0, .ref (ad r))] _ _
  refine v_iconst C d_W_lowestWrongBin_0 ?_
  refine v_istore_n (lv' := [(1, .int (iI 0)), (0, .ref (ad r))]) C d_W_lowestWrongBin_1 rfl (by decide) rfl ?_
  refine v_lv (lv' := [(0, .ref (ad r)), (1, .int (iI 0))]) [1, 0] rfl ?_
  have L2 : ∀ (d9 : Nat) (k : Nat), n - k < d9 → (k ≤ n) → (∀ j, j < k → f j = 0) → kV p l e (rmF 0 0 0 0) s m ([.ref (ad r)] : List Value).toArray below meth c Q s.heap B D classes 2 95 0 0 ad g [(0, .ref (ad r)), (1, .int (iI (k : Int)))] [] 2 := by
    intro d9
    induction d9 with
    | zero => intro k hd9; exact absurd hd9 (Nat.not_lt_zero _)
    | succ d9 ih2 =>
      intro k hd2 hk hj
      refine v_iload_n C d_W_lowestWrongBin_2 rfl 1 rfl ?_
      refine v_aload_n C d_W_lowestWrongBin_3 rfl 0 rfl ?_
      refine gf_W_9 C (by omega) h0 rfl d_W_lowestWrongBin_4 ?_
      refine v_icmp_geI C d_W_lowestWrongBin_7 (by omega) (by omega) (by omega) (by omega) (fun hb7 => ?_) (fun hb7 => ?_)
      · refine v_iconst C d_W_lowestWrongBin_27 ?_
        exact hret _ _ _ _ _ _ _ (Nat.zero_le _) (Nat.zero_le _) d_W_lowestWrongBin_28 ⟨Or.inr ⟨rfl, fun j hq => hj j (by omega)⟩, rfl, rfl⟩
      · refine v_aload_n C d_W_lowestWrongBin_10 rfl 0 rfl ?_
        refine gf_W_25 C (by omega) h0 rfl d_W_lowestWrongBin_11 ?_
        refine v_iload_n C d_W_lowestWrongBin_14 rfl 1 rfl ?_
        refine v_iald C 0 (by omega) h3 rfl (k : Nat) (by omega) (by omega) (by omega) d_W_lowestWrongBin_15 ?_
        refine v_if_eq C d_W_lowestWrongBin_16 (fun hb16 => ?_) (fun hb16 => ?_)
        · refine v_iinc (lv' := [(1, .int (iI ((k : Int) + 1))), (0, .ref (ad r))]) C d_W_lowestWrongBin_21 1 rfl (by decide) rfl ?_
          refine v_goto C d_W_lowestWrongBin_24 ?_
          refine v_lv (lv' := [(0, .ref (ad r)), (1, .int (iI ((k : Int) + 1)))]) [1, 0] rfl ?_
          exact ih2 (k + 1) (by omega) (by omega) (fun j b => by by_cases hh : j = k; (subst hh; exact hb16); exact hj j (by omega))
        · refine v_iload_n C d_W_lowestWrongBin_19 rfl 1 rfl ?_
          exact hret _ _ _ _ _ _ _ (Nat.zero_le _) (Nat.zero_le _) d_W_lowestWrongBin_20 ⟨Or.inl ⟨k, by omega, rfl, hb16, hj⟩, rfl, rfl⟩
  exact L2 _ 0 (Nat.lt_succ_self _) (Nat.zero_le _) (fun j b => absurd b (by omega))
set_option maxHeartbeats 1000000 in
set_option maxRecDepth 100000 in
theorem c_makeRows (l : Launch) {B : Nat} {D : va_G} {cI cZ cL cS cW : ClassId} {ad : Nat → Nat} {g : Nat → va_E} (r n K : Nat) (ct lo : Int) (u uc re : Nat → Int32) (hr : r < 92) (hn : n = 0 ∨ n = 481) (hK : n = 0 → 1 ≤ K) (h0 : g r = wsE ct lo (ad (r + 1)) (ad (r + 2)) (ad (r + 3))) (h1 : g (r + 1) = inA cI n u) (h2 : g (r + 2) = inA cI n uc) (h3 : g (r + 3) = inA cI n re) : Met l y_W_makeRows (Cond.code y_W_makeRows b_W_makeRows 1 none :: wG) (rmF 0 0 (3 * K) (1443 * K)) (wPc B D classes (tyL cI cZ cL cS cW) (Zs B) 95 [.ref (ad r)] ad g) (QV B D classes 95 (fun ad1 g1 => ∃ f1 f2 f3, g1 r = wsE ct lo (ad1 (r + 1)) (ad1 (r + 2)) (ad1 (r + 3)) ∧ g1 (r + 1) = inA cI 481 f1 ∧ g1 (r + 2) = inA cI 481 f2 ∧ g1 (r + 3) = inA cI 481 f3 ∧ (∀ r1, r1 ≠ r + 1 → r1 ≠ r + 2 → r1 ≠ r + 3 → r1 ≠ r → g1 r1 = g r1) ∧ ∀ r1, r1 ≠ r + 1 → r1 ≠ r + 2 → r1 ≠ r + 3 → ad1 r1 = ad r1)) (3 * K) (1443 * K) (aB B) := by
  refine ofV (own := R_W) (by decide) rfl (Nat.le_of_ble_eq_true rfl) ?_
  intro p e s m below meth c Q C hnm hret
  change kV _ _ _ _ _ _ _ _ _ _ _ _ _ _ _ _ _ _ _ _ _ [(0, .ref (ad r))] _ _
  refine v_aload_n C d_W_makeRows_0 rfl 0 rfl ?_
  refine gf_W_25 C (by omega) h0 rfl d_W_makeRows_1 ?_
  refine v_alen C 0 (by omega) h3 rfl d_W_makeRows_4 ?_
  refine v_if_neI C d_W_makeRows_5 (by omega) (by omega) (fun hb5 => ?_) (fun hb5 => ?_)
  · have hn4 : n = 481 := by omega
    subst hn4
    exact hret _ _ _ _ _ _ (by omega) (by omega) d_W_makeRows_35 ⟨_, _, _, h0, h1, h2, h3, (fun r1 n0 n1 n2 n3 => rfl), (fun r1 n0 n1 n2 => rfl)⟩
  · have hK1 : 1 ≤ K := hK (by omega)
    refine v_aload_n C d_W_makeRows_8 rfl 0 rfl ?_
    refine v_sipush C d_W_makeRows_9 (by decide +kernel) ?_
    refine v_newiR (r + 1) C 481 rfl (by decide) (by show _ ≤ 3 * K; omega) (by show _ ≤ 1443 * K; omega) d_W_makeRows_12 (fun ad1 g1 hA1 h1 fr1 => ?_)
    have h0 := (fr1 r (by omega)).trans h0
    have h2 := (fr1 (r + 2) (by omega)).trans h2
    have h3 := (fr1 (r + 3) (by omega)).trans h3
    refine v_lvE (lv' := [(0, .ref (ad1 r))]) (by rw [hA1 r (by omega)]) ?_
    refine v_stE (st' := [.ref (ad1 (r + 1)), .ref (ad1 r)]) (by rw [hA1 r (by omega)]) ?_
    have h0 : g1 r = .inr (2, [.int (iI ct), .int (iI lo), .ref (ad (r + 1)), .ref (ad1 (r + 2)), .ref (ad1 (r + 3))]) := by rw [hA1 (r + 2) (by omega), hA1 (r + 3) (by omega)]; exact h0
    refine pf_W_18 (fs' := [.int (iI ct), .int (iI lo), .ref (ad1 (r + 1)), .ref (ad1 (r + 2)), .ref (ad1 (r + 3))]) C (by omega) h0 rfl rfl (Nat.le_of_ble_eq_true rfl) rfl d_W_makeRows_14 (fun g2 h0 fr3 => ?_)
    have h1 := (fr3 (r + 1) (by omega)).trans h1
    have h2 := (fr3 (r + 2) (by omega)).trans h2
    have h3 := (fr3 (r + 3) (by omega)).trans h3
    refine v_aload_n C d_W_makeRows_17 rfl 0 rfl ?_
    refine v_sipush C d_W_makeRows_18 (by decide +kernel) ?_
    refine v_newiR (r + 2) C 481 rfl (by decide) (by show _ ≤ 3 * K; omega) (by show _ ≤ 1443 * K; omega) d_W_makeRows_21 (fun ad4 g4 hA4 h2 fr4 => ?_)
    have h0 := (fr4 r (by omega)).trans h0
    have h1 := (fr4 (r + 1) (by omega)).trans h1
    have h3 := (fr4 (r + 3) (by omega)).trans h3
    refine v_lvE (lv' := [(0, .ref (ad4 r))]) (by rw [hA4 r (by omega)]) ?_
    refine v_stE (st' := [.ref (ad4 (r + 2)), .ref (ad4 r)]) (by rw [hA4 r (by omega)]) ?_
    have h0 : g4 r = .inr (2, [.int (iI ct), .int (iI lo), .ref (ad4 (r + 1)), .ref (ad1 (r + 2)), .ref (ad4 (r + 3))]) := by rw [hA4 (r + 1) (by omega), hA4 (r + 3) (by omega)]; exact h0
    refine pf_W_22 (fs' := [.int (iI ct), .int (iI lo), .ref (ad4 (r + 1)), .ref (ad4 (r + 2)), .ref (ad4 (r + 3))]) C (by omega) h0 rfl rfl (Nat.le_of_ble_eq_true rfl) rfl d_W_makeRows_23 (fun g5 h0 fr6 => ?_)
    have h1 := (fr6 (r + 1) (by omega)).trans h1
    have h2 := (fr6 (r + 2) (by omega)).trans h2
    have h3 := (fr6 (r + 3) (by omega)).trans h3
    refine v_aload_n C d_W_makeRows_26 rfl 0 rfl ?_
    refine v_sipush C d_W_makeRows_27 (by decide +kernel) ?_
    refine v_newiR (r + 3) C 481 rfl (by decide) (by show _ ≤ 3 * K; omega) (by show _ ≤ 1443 * K; omega) d_W_makeRows_30 (fun ad7 g7 hA7 h3 fr7 => ?_)
    have h0 := (fr7 r (by omega)).trans h0
    have h1 := (fr7 (r + 1) (by omega)).trans h1
    have h2 := (fr7 (r + 2) (by omega)).trans h2
    refine v_lvE (lv' := [(0, .ref (ad7 r))]) (by rw [hA7 r (by omega)]) ?_
    refine v_stE (st' := [.ref (ad7 (r + 3)), .ref (ad7 r)]) (by rw [hA7 r (by omega)]) ?_
    have h0 : g7 r = .inr (2, [.int (iI ct), .int (iI lo), .ref (ad7 (r + 1)), .ref (ad7 (r + 2)), .ref (ad4 (r + 3))]) := by rw [hA7 (r + 1) (by omega), hA7 (r + 2) (by omega)]; exact h0
    refine pf_W_25 (fs' := [.int (iI ct), .int (iI lo), .ref (ad7 (r + 1)), .ref (ad7 (r + 2)), .ref (ad7 (r + 3))]) C (by omega) h0 rfl rfl (Nat.le_of_ble_eq_true rfl) rfl d_W_makeRows_32 (fun g8 h0 fr9 => ?_)
    have h1 := (fr9 (r + 1) (by omega)).trans h1
    have h2 := (fr9 (r + 2) (by omega)).trans h2
    have h3 := (fr9 (r + 3) (by omega)).trans h3
    exact hret _ _ _ _ _ _ (by omega) (by omega) d_W_makeRows_35 ⟨_, _, _, h0, h1, h2, h3, (fun r1 n0 n1 n2 n3 => ((fr9 r1 n3).trans ((fr7 r1 n2).trans ((fr6 r1 n3).trans ((fr4 r1 n1).trans ((fr3 r1 n3).trans (fr1 r1 n0))))))), (fun r1 n0 n1 n2 => ((hA7 r1 n2).trans ((hA4 r1 n1).trans (hA1 r1 n0))))⟩
set_option maxHeartbeats 1000000 in
set_option maxRecDepth 100000 in
theorem c_begin (l : Launch) {B : Nat} {D : va_G} {cI cZ cL cS cW : ClassId} {ad : Nat → Nat} {g : Nat → va_E} (r rs n n0 K w h : Nat) (ct lo : Int) (u uc re bv : Nat → Int32) (t : ShT) (bn : Nat → Nat → Nat) (hr : r < 92) (hrs : rs < 94) (hne : rs ≠ r ∧ rs ≠ r + 1 ∧ rs ≠ r + 2 ∧ rs ≠ r + 3 ∧ rs + 1 ≠ r) (hn : n0 = 0 ∨ n0 = 481) (hK : n0 = 0 → 1 ≤ K) (hw : w ≤ 16) (hh : h ≤ 16) (hct : t.2.2.2.2.2 = (n : Int)) (hn9 : n ≤ 481) (hbn : ∀ x y : Nat, x < w → y < h → t.2.2.1 * (y : Int) - t.2.2.2.1 * (x : Int) - t.2.2.2.2.1 = (bn x y : Int) ∧ bn x y < 481) (h0 : g r = wsE ct lo (ad (r + 1)) (ad (r + 2)) (ad (r + 3))) (h1 : g (r + 1) = inA cI n0 u) (h2 : g (r + 2) = inA cI n0 uc) (h3 : g (r + 3) = inA cI n0 re) (h4 : g rs = shE (ad (rs + 1)) t) (h5 : g (rs + 1) = inA cI 481 bv) : Met l y_W_begin (Cond.code y_W_begin b_W_begin 7 none :: wG) (rmF 1 60 (3 * K) (1443 * K)) (wPc B D classes (tyL cI cZ cL cS cW) (Zs B) 95 [.ref (ad r), .ref (ad rs), .int (iI (w : Int)), .int (iI (h : Int))] ad g) (QV B D classes 95 (fun ad1 g1 => ∃ f3, (∀ k, k < n → f3 k = bv k) ∧ g1 r = wsE (n : Int) 0 (ad1 (r + 1)) (ad1 (r + 2)) (ad1 (r + 3)) ∧ g1 (r + 1) = inA cI 481 (accY bn (fun _ => iI 1) w h (fun _ => iI 0)) ∧ g1 (r + 2) = inA cI 481 (accY bn (fun c => iI (c : Int)) w h (fun _ => iI 0)) ∧ g1 (r + 3) = inA cI 481 f3 ∧ (∀ r1, r1 ≠ r + 1 → r1 ≠ r + 2 → r1 ≠ r + 3 → r1 ≠ r → g1 r1 = g r1) ∧ ∀ r1, r1 ≠ r + 1 → r1 ≠ r + 2 → r1 ≠ r + 3 → ad1 r1 = ad r1)) (3 * K) (1443 * K) (aB B) := by
  refine ofV (own := R_W) (by decide) rfl (Nat.le_of_ble_eq_true rfl) ?_
  intro p e s m below meth c Q C hnm hret
  change kV _ _ _ _ _ _ _ _ _ _ _ _ _ _ _ _ _ _ _ _ _ [(0, .ref (ad r)), (1, .ref (ad rs)), (2, .int (iI (w : Int))), (3, .int (iI (h : Int)))] _ _
  refine v_aload_n C d_W_begin_0 rfl 0 rfl ?_
  refine v_callVV (As := []) (st := []) (by omega) h0 rfl rfl C (c_makeRows l r n0 K ct lo u uc re (by omega) hn hK h0 h1 h2 h3) (lk_W_28 C.1.2.2.2.2 rfl rfl ⟨Nat.le_of_ble_eq_true rfl, Nat.le_of_ble_eq_true rfl⟩) rfl rfl (Nat.le_of_ble_eq_true rfl) d_W_begin_1 ⟨by show _ ≤ 3 * K; omega, by show _ ≤ 1443 * K; omega⟩ (fun ad1 g1 hp1 => ?_)
  obtain ⟨f1, f2, f3, h0, h1, h2, h3, fr1, hA1⟩ := hp1
  have h4 := (fr1 rs (by omega) (by omega) (by omega) (by omega)).trans h4
  have h5 := (fr1 (rs + 1) (by omega) (by omega) (by omega) (by omega)).trans h5
  refine v_lvE (lv' := [(0, .ref (ad1 r)), (1, .ref (ad1 rs)), (2, .int (iI (w : Int))), (3, .int (iI (h : Int)))]) (by rw [hA1 r (by omega) (by omega) (by omega), hA1 rs (by omega) (by omega) (by omega)]) ?_
  have h4 : g1 rs = .inr (1, [.int (bI t.1), .int (bI t.2.1), .int (iI t.2.2.1), .int (iI t.2.2.2.1), .int (iI t.2.2.2.2.1), .int (iI t.2.2.2.2.2), .ref (ad1 (rs + 1))]) := by rw [hA1 (rs + 1) (by omega) (by omega) (by omega)]; exact h4
  refine v_aload_n C d_W_begin_4 rfl 0 rfl ?_
  refine v_aload_n C d_W_begin_5 rfl 1 rfl ?_
  refine gf_W_31 C (by omega) h4 rfl d_W_begin_6 ?_
  refine pf_W_9 (fs' := [.int (iI t.2.2.2.2.2), .int (iI lo), .ref (ad1 (r + 1)), .ref (ad1 (r + 2)), .ref (ad1 (r + 3))]) C (by omega) h0 rfl rfl (Nat.le_of_ble_eq_true rfl) rfl d_W_begin_9 (fun g2 h0 fr3 => ?_)
  have h1 := (fr3 (r + 1) (by omega)).trans h1
  have h2 := (fr3 (r + 2) (by omega)).trans h2
  have h3 := (fr3 (r + 3) (by omega)).trans h3
  have h4 := (fr3 rs (by omega)).trans h4
  have h5 := (fr3 (rs + 1) (by omega)).trans h5
  refine v_aload_n C d_W_begin_12 rfl 0 rfl ?_
  refine v_iconst C d_W_begin_13 ?_
  refine pf_W_15 (fs' := [.int (iI t.2.2.2.2.2), .int (iI 0), .ref (ad1 (r + 1)), .ref (ad1 (r + 2)), .ref (ad1 (r + 3))]) C (by omega) h0 rfl rfl (Nat.le_of_ble_eq_true rfl) rfl d_W_begin_14 (fun g4 h0 fr5 => ?_)
  have h1 := (fr5 (r + 1) (by omega)).trans h1
  have h2 := (fr5 (r + 2) (by omega)).trans h2
  have h3 := (fr5 (r + 3) (by omega)).trans h3
  have h4 := (fr5 rs (by omega)).trans h4
  have h5 := (fr5 (rs + 1) (by omega)).trans h5
  refine v_aload_n C d_W_begin_17 rfl 0 rfl ?_
  refine gf_W_18 C (by omega) h0 rfl d_W_begin_18 ?_
  refine v_iconst C d_W_begin_21 ?_
  refine v_callSV (As := [.ref (ad1 (r + 1)), .int (iI 0)]) (st := []) C (c_fill l (r + 1) 481 f1 (iI 0) (by omega) (by decide) h1) (lk_W_34 C.1.2.2.2.2 rfl rfl ⟨Nat.le_of_ble_eq_true rfl, Nat.le_of_ble_eq_true rfl⟩) rfl rfl (Nat.le_of_ble_eq_true rfl) d_W_begin_22 ⟨by show _ ≤ 3 * K; omega, by show _ ≤ 1443 * K; omega⟩ (fun ad6 g6 hp6 => ?_)
  obtain ⟨rfl, h1, fr6⟩ := hp6
  have h0 := (fr6 r (by omega)).trans h0
  have h2 := (fr6 (r + 2) (by omega)).trans h2
  have h3 := (fr6 (r + 3) (by omega)).trans h3
  have h4 := (fr6 rs (by omega)).trans h4
  have h5 := (fr6 (rs + 1) (by omega)).trans h5
  refine v_aload_n C d_W_begin_25 rfl 0 rfl ?_
  refine gf_W_22 C (by omega) h0 rfl d_W_begin_26 ?_
  refine v_iconst C d_W_begin_29 ?_
  refine v_callSV (As := [.ref (ad1 (r + 2)), .int (iI 0)]) (st := []) C (c_fill l (r + 2) 481 f2 (iI 0) (by omega) (by decide) h2) (lk_W_34 C.1.2.2.2.2 rfl rfl ⟨Nat.le_of_ble_eq_true rfl, Nat.le_of_ble_eq_true rfl⟩) rfl rfl (Nat.le_of_ble_eq_true rfl) d_W_begin_30 ⟨by show _ ≤ 3 * K; omega, by show _ ≤ 1443 * K; omega⟩ (fun ad7 g7 hp7 => ?_)
  obtain ⟨rfl, h2, fr7⟩ := hp7
  have h0 := (fr7 r (by omega)).trans h0
  have h1 := (fr7 (r + 1) (by omega)).trans h1
  have h3 := (fr7 (r + 3) (by omega)).trans h3
  have h4 := (fr7 rs (by omega)).trans h4
  have h5 := (fr7 (rs + 1) (by omega)).trans h5
  refine v_aload_n C d_W_begin_33 rfl 1 rfl ?_
  refine gf_W_40 C (by omega) h4 rfl d_W_begin_34 ?_
  refine v_iconst C d_W_begin_37 ?_
  refine v_aload_n C d_W_begin_38 rfl 0 rfl ?_
  refine gf_W_25 C (by omega) h0 rfl d_W_begin_39 ?_
  refine v_iconst C d_W_begin_42 ?_
  refine v_aload_n C d_W_begin_43 rfl 0 rfl ?_
  refine gf_W_9 C (by omega) h0 rfl d_W_begin_44 ?_
  refine v_copy (n := n) C ml_W_43 nm_arraycopyName sm_arraycopyName in_Y 0 rfl (by omega) h5 (by omega) h3 hct (by omega) (by omega) (by omega) (Nat.le_of_ble_eq_true rfl) (by show _ ≤ 60; decide +kernel) d_W_begin_47 (fun g8 h3 fr9 => ?_)
  have h0 := (fr9 r (by omega)).trans h0
  have h1 := (fr9 (r + 1) (by omega)).trans h1
  have h2 := (fr9 (r + 2) (by omega)).trans h2
  have h4 := (fr9 rs (by omega)).trans h4
  have h5 := (fr9 (rs + 1) (by omega)).trans h5
  refine v_iconst C d_W_begin_50 ?_
  refine v_istore (lv' := [(4, .int (iI 0)), (0, .ref (ad1 r)), (1, .ref (ad1 rs)), (2, .int (iI (w : Int))), (3, .int (iI (h : Int)))]) C d_W_begin_51 (by decide) rfl ?_
  refine v_lv (lv' := [(0, .ref (ad1 r)), (1, .ref (ad1 rs)), (2, .int (iI (w : Int))), (3, .int (iI (h : Int))), (4, .int (iI 0))]) [1, 2, 3, 4, 0] rfl ?_
  have L53 : ∀ (d9 : Nat) (y : Nat) (G53 : Nat → va_E), h - y < d9 → (y ≤ h) → (∀ r1, r1 ≠ (r + 1) → r1 ≠ (r + 2) → G53 r1 = g8 r1) → G53 (r + 1) = inA cI 481 (accY bn (fun _ => iI 1) w y (fun _ => iI 0)) → G53 (r + 2) = inA cI 481 (accY bn (fun c => iI (c : Int)) w y (fun _ => iI 0)) → kV p l e (rmF 1 60 (3 * K) (1443 * K)) s m ([.ref (ad r), .ref (ad rs), .int (iI (w : Int)), .int (iI (h : Int))] : List Value).toArray below meth c Q s.heap B D classes 7 95 (0 + 3 * K) (0 + 1443 * K) ad1 G53 [(0, .ref (ad1 r)), (1, .ref (ad1 rs)), (2, .int (iI (w : Int))), (3, .int (iI (h : Int))), (4, .int (iI (y : Int)))] [] 53 := by
    intro d9
    induction d9 with
    | zero => intro y G53 hd9; exact absurd hd9 (Nat.not_lt_zero _)
    | succ d9 ih53 =>
      intro y G53 hd53 hy hfr53 h1 h2
      have h0 := (hfr53 r (by omega) (by omega)).trans h0
      have h3 := (hfr53 (r + 3) (by omega) (by omega)).trans h3
      have h4 := (hfr53 rs (by omega) (by omega)).trans h4
      have h5 := (hfr53 (rs + 1) (by omega) (by omega)).trans h5
      refine v_iload C d_W_begin_53 4 rfl ?_
      refine v_iload_n C d_W_begin_55 rfl 3 rfl ?_
      refine v_icmp_geI C d_W_begin_56 (by omega) (by omega) (by omega) (by omega) (fun hb56 => ?_) (fun hb56 => ?_)
      · have hyh : y = h := by omega
        rw [hyh] at h1 h2
        exact hret _ _ _ _ _ _ (by omega) (by omega) d_W_begin_118 ⟨_, fun k hk => (pk_cpy_in (Nat.zero_le _) (by omega)).trans (by rw [Nat.zero_add, Nat.sub_zero]), h0.trans (by rw [hct]), h1, h2, h3, (fun r1 n0 n1 n2 n3 => ((hfr53 r1 n0 n1).trans ((fr9 r1 n2).trans ((fr7 r1 n1).trans ((fr6 r1 n0).trans ((fr5 r1 n3).trans ((fr3 r1 n3).trans (fr1 r1 n0 n1 n2 n3)))))))), (fun r1 n0 n1 n2 => (hA1 r1 n0 n1 n2))⟩
      · refine v_iconst C d_W_begin_59 ?_
        refine v_istore (lv' := [(5, .int (iI 0)), (0, .ref (ad1 r)), (1, .ref (ad1 rs)), (2, .int (iI (w : Int))), (3, .int (iI (h : Int))), (4, .int (iI (y : Int)))]) C d_W_begin_60 (by decide) rfl ?_
        refine v_lv (lv' := [(0, .ref (ad1 r)), (1, .ref (ad1 rs)), (2, .int (iI (w : Int))), (3, .int (iI (h : Int))), (4, .int (iI (y : Int))), (5, .int (iI 0))]) [1, 2, 3, 4, 5, 0] rfl ?_
        have L62 : ∀ (d9 : Nat) (x : Nat) (G62 : Nat → va_E), w - x < d9 → (x ≤ w) → (∀ r1, r1 ≠ (r + 1) → r1 ≠ (r + 2) → G62 r1 = G53 r1) → G62 (r + 1) = inA cI 481 (accX bn (fun _ => iI 1) y x (accY bn (fun _ => iI 1) w y (fun _ => iI 0))) → G62 (r + 2) = inA cI 481 (accX bn (fun c => iI (c : Int)) y x (accY bn (fun c => iI (c : Int)) w y (fun _ => iI 0))) → kV p l e (rmF 1 60 (3 * K) (1443 * K)) s m ([.ref (ad r), .ref (ad rs), .int (iI (w : Int)), .int (iI (h : Int))] : List Value).toArray below meth c Q s.heap B D classes 7 95 (0 + 3 * K) (0 + 1443 * K) ad1 G62 [(0, .ref (ad1 r)), (1, .ref (ad1 rs)), (2, .int (iI (w : Int))), (3, .int (iI (h : Int))), (4, .int (iI (y : Int))), (5, .int (iI (x : Int)))] [] 62 := by
          intro d9
          induction d9 with
          | zero => intro x G62 hd9; exact absurd hd9 (Nat.not_lt_zero _)
          | succ d9 ih62 =>
            intro x G62 hd62 hx hfr62 h1 h2
            have h0 := (hfr62 r (by omega) (by omega)).trans h0
            have h3 := (hfr62 (r + 3) (by omega) (by omega)).trans h3
            have h4 := (hfr62 rs (by omega) (by omega)).trans h4
            have h5 := (hfr62 (rs + 1) (by omega) (by omega)).trans h5
            refine v_iload C d_W_begin_62 5 rfl ?_
            refine v_iload_n C d_W_begin_64 rfl 2 rfl ?_
            refine v_icmp_geI C d_W_begin_65 (by omega) (by omega) (by omega) (by omega) (fun hb65 => ?_) (fun hb65 => ?_)
            · have hxw : x = w := by omega
              rw [hxw] at h1 h2
              refine v_iinc (lv' := [(4, .int (iI ((y : Int) + 1))), (0, .ref (ad1 r)), (1, .ref (ad1 rs)), (2, .int (iI (w : Int))), (3, .int (iI (h : Int))), (5, .int (iI (x : Int)))]) C d_W_begin_112 4 rfl (by decide) rfl ?_
              refine v_goto C d_W_begin_115 ?_
              refine v_lv (lv' := [(0, .ref (ad1 r)), (1, .ref (ad1 rs)), (2, .int (iI (w : Int))), (3, .int (iI (h : Int))), (4, .int (iI ((y : Int) + 1)))]) [1, 2, 3, 4, 0] rfl ?_
              exact ih53 (y + 1) _ (by omega) (by omega) (fun r1 n0 n1 => ((hfr62 r1 n0 n1).trans (hfr53 r1 n0 n1))) h1 h2
            · refine v_aload_n C d_W_begin_68 rfl 1 rfl ?_
              refine v_iload C d_W_begin_69 5 rfl ?_
              refine v_iload C d_W_begin_71 4 rfl ?_
              refine v_callVI (As := [.int (iI (x : Int)), .int (iI (y : Int))]) (st := []) (by omega) h4 rfl rfl C (c_binAt l rs t (x : Int) (y : Int) (by omega) h4) (lk_W_49 C.1.2.2.2.2 rfl rfl ⟨Nat.le_of_ble_eq_true rfl, Nat.le_of_ble_eq_true rfl⟩) rfl rfl (Nat.le_of_ble_eq_true rfl) d_W_begin_73 ⟨by show _ ≤ 3 * K; omega, by show _ ≤ 1443 * K; omega⟩ (fun w10 ad10 g10 hp10 => ?_)
              obtain ⟨rfl, rfl, rfl⟩ := hp10
              refine v_istore (lv' := [(6, .int (iI (t.2.2.1 * (y : Int) - t.2.2.2.1 * (x : Int) - t.2.2.2.2.1))), (0, .ref (ad1 r)), (1, .ref (ad1 rs)), (2, .int (iI (w : Int))), (3, .int (iI (h : Int))), (4, .int (iI (y : Int))), (5, .int (iI (x : Int)))]) C d_W_begin_76 (by decide) rfl ?_
              refine v_aload_n C d_W_begin_78 rfl 1 rfl ?_
              refine gf_W_18 C (by omega) h0 rfl d_W_begin_79 ?_
              refine v_iload C d_W_begin_82 0 rfl ?_
              refine v_dup2 C d_W_begin_84 rfl rfl ?_
              refine v_iald C 0 (by omega) h1 rfl (bn x y) ((hbn x y (by omega) (by omega)).1) ((hbn x y (by omega) (by omega)).2) (by omega) d_W_begin_85 ?_
              refine v_iconst C d_W_begin_86 ?_
              refine v_iadd C d_W_begin_87 ?_
              refine v_iast C 0 (by omega) h1 rfl (bn x y) ((hbn x y (by omega) (by omega)).1) ((hbn x y (by omega) (by omega)).2) (by omega) d_W_begin_88 (fun g11 h1 fr12 => ?_)
              have h0 := (fr12 r (by omega)).trans h0
              have h3 := (fr12 (r + 3) (by omega)).trans h3
              have h4 := (fr12 rs (by omega)).trans h4
              have h5 := (fr12 (rs + 1) (by omega)).trans h5
              have h2 := (fr12 (r + 2) (by omega)).trans h2
              refine v_aload_n C d_W_begin_89 rfl 1 rfl ?_
              refine gf_W_22 C (by omega) h0 rfl d_W_begin_90 ?_
              refine v_iload C d_W_begin_93 0 rfl ?_
              refine v_dup2 C d_W_begin_95 rfl rfl ?_
              refine v_iald C 0 (by omega) h2 rfl (bn x y) ((hbn x y (by omega) (by omega)).1) ((hbn x y (by omega) (by omega)).2) (by omega) d_W_begin_96 ?_
              refine v_iload C d_W_begin_97 6 rfl ?_
              refine v_iload C d_W_begin_99 5 rfl ?_
              refine v_callSNI (As := [.int (iI (x : Int)), .int (iI (y : Int))]) (st := [.int ((accX bn (fun c => iI (c : Int)) y x (accY bn (fun c => iI (c : Int)) w y (fun _ => iI 0))) (bn x y)), .int (iI (t.2.2.1 * (y : Int) - t.2.2.2.1 * (x : Int) - t.2.2.2.2.1)), .ref (ad1 (r + 2))]) C (c_cellAt l (x : Int) (y : Int)) (lk_W_53 C.1.2.2.2.2 C.2.2.2.1.1.2.2.1 rfl rfl ⟨Nat.le_of_ble_eq_true rfl, Nat.le_of_ble_eq_true rfl⟩) rfl rfl (Nat.le_of_ble_eq_true rfl) d_W_begin_101 ⟨by show _ ≤ 3 * K; omega, by show _ ≤ 1443 * K; omega⟩ (fun w13 ad13 g13 hp13 => ?_)
              obtain ⟨rfl, rfl, rfl⟩ := hp13
              rw [show (y : Int) * 16 + (x : Int) = ((16 * y + x : Nat) : Int) by omega]
              refine v_iadd C d_W_begin_104 ?_
              refine v_iast C 0 (by omega) h2 rfl (bn x y) ((hbn x y (by omega) (by omega)).1) ((hbn x y (by omega) (by omega)).2) (by omega) d_W_begin_105 (fun g14 h2 fr15 => ?_)
              have h0 := (fr15 r (by omega)).trans h0
              have h3 := (fr15 (r + 3) (by omega)).trans h3
              have h4 := (fr15 rs (by omega)).trans h4
              have h5 := (fr15 (rs + 1) (by omega)).trans h5
              have h1 := (fr15 (r + 1) (by omega)).trans h1
              refine v_iinc (lv' := [(5, .int (iI ((x : Int) + 1))), (6, .int (iI (t.2.2.1 * (y : Int) - t.2.2.2.1 * (x : Int) - t.2.2.2.2.1))), (0, .ref (ad1 r)), (1, .ref (ad1 rs)), (2, .int (iI (w : Int))), (3, .int (iI (h : Int))), (4, .int (iI (y : Int)))]) C d_W_begin_106 6 rfl (by decide) rfl ?_
              refine v_goto C d_W_begin_109 ?_
              refine v_lv (lv' := [(0, .ref (ad1 r)), (1, .ref (ad1 rs)), (2, .int (iI (w : Int))), (3, .int (iI (h : Int))), (4, .int (iI (y : Int))), (5, .int (iI ((x : Int) + 1)))]) [2, 3, 4, 5, 6, 0] rfl ?_
              exact ih62 (x + 1) _ (by omega) (by omega) (fun r1 n0 n1 => ((fr15 r1 n1).trans ((fr12 r1 n0).trans (hfr62 r1 n0 n1)))) h1 h2
        exact L62 _ 0 _ (Nat.lt_succ_self _) (Nat.zero_le _) (fun r1 _ _ => rfl) h1 h2
  exact L53 _ 0 _ (Nat.lt_succ_self _) (Nat.zero_le _) (fun r1 _ _ => rfl) h1 h2
