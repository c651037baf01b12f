/-! directions as the reference tests them; a shelf's bins in one row -/
def fac (x y : Int) : Prop := (x = 0 ∧ y = 0) ∨ ∃ d : Nat, 2 ≤ d ∧ d < 17 ∧ Int.tmod x d = 0 ∧ Int.tmod y d = 0
theorem fac_neg {x y : Int} : fac (-x) (-y) ↔ fac x y := by
  unfold fac
  simp [Int.neg_tmod, Int.neg_eq_zero]
theorem isD_fac {x y : Int} : isD x y ↔ (-16 ≤ x ∧ x ≤ 16 ∧ -16 ≤ y ∧ y ≤ 16 ∧ ¬ fac (tP x y) (tQ x y)) := by
  have h1 : fac (tP x y) (tQ x y) ↔ fac x y := by
    unfold tP tQ
    by_cases c : y < 0 ∨ (y = 0 ∧ x < 0)
    · rw [if_pos c, if_pos c]; exact fac_neg
    · rw [if_neg c, if_neg c]
  rw [h1]
  constructor
  · intro ⟨a1, a2, a3, a4, a5⟩
    refine ⟨a1, a2, a3, a4, fun q => ?_⟩
    rcases q with ⟨rfl, rfl⟩ | ⟨d, d1, d2, d3, d4⟩
    · exact a5 2 (by omega) (by omega) ⟨rfl, rfl⟩
    · exact a5 d d1 (by omega) ⟨d3, d4⟩
  · intro ⟨a1, a2, a3, a4, a5⟩
    exact ⟨a1, a2, a3, a4, fun d d1 d2 q => a5 (Or.inr ⟨d, d1, by omega, q.1, q.2⟩)⟩
def ovl (s0 : Nat) (f a : Nat → Int32) (n : Nat) : Nat → Int32 := fun i => if 481 * s0 ≤ i ∧ i < 481 * s0 + n then a (i - 481 * s0) else f i
theorem ovl_0 {s0 : Nat} {f a : Nat → Int32} : ovl s0 f a 0 = f := by
  funext i
  exact if_neg (by omega)
theorem ovl_s {s0 : Nat} {f a : Nat → Int32} {n : Nat} : upd (ovl s0 f a n) (481 * s0 + n) (a n) = ovl s0 f a (n + 1) := by
  funext i
  by_cases h : i = 481 * s0 + n
  · subst h
    rw [pk_us]
    unfold ovl
    rw [if_pos (by omega), show 481 * s0 + n - 481 * s0 = n by omega]
  · rw [pk_un h]
    unfold ovl
    by_cases h2 : 481 * s0 ≤ i ∧ i < 481 * s0 + n
    · rw [if_pos h2, if_pos (by omega)]
    · rw [if_neg h2, if_neg (by omega)]
set_option maxHeartbeats 1000000 in
set_option maxRecDepth 100000 in
theorem c_haveFactor (l : Launch) {B : Nat} {D : va_G} {cI cZ cL cS cW : ClassId} {ad : Nat → Nat} {g : Nat → va_E} (x y : Int) (hx : -16 ≤ x ∧ x ≤ 16 ∧ -16 ≤ y ∧ y ≤ 16) : Met l y_M_haveFactor (Cond.code y_M_haveFactor b_M_haveFactor 4 (some .boolean) :: wG) (rmF 0 0 0 0) (wPc B D classes (tyL cI cZ cL cS cW) (Zs B) 95 [.int (iI x), .int (iI y)] ad g) (QI B D classes 95 (fun v9 ad1 g1 => ∃ v, v9 = bI v ∧ ((v = true ↔ fac x y) ∧ ad = ad1 ∧ g = g1))) 0 0 (aB B) := by
  refine ofZ (own := R_M) (by decide) rfl (Nat.le_of_ble_eq_true rfl) ?_
  intro p e s m below meth c Q C hnm hret
  change kV _ _ _ _ _ _ _ _ _ _ _ _ _ _ _ _ _ _ _ _ _ [(0, .int (iI x)), (1, .int (iI y))] _ _
  have J13 : ∀ f0 : Bool, (f0 = true ↔ (x = 0 ∧ y = 0)) → kV p l e (rmF 0 0 0 0) s m ([.int (iI x), .int (iI y)] : List Value).toArray below meth c Q s.heap B D classes 4 95 0 0 ad g [(0, .int (iI x)), (1, .int (iI y))] [.int (bI f0)] 13 := by
    intro f0 hf0
    refine v_istore_n (lv' := [(2, .int (bI f0)), (0, .int (iI x)), (1, .int (iI y))]) C d_M_haveFactor_13 rfl (by decide) rfl ?_
    refine v_iconst C d_M_haveFactor_14 ?_
    refine v_istore_n (lv' := [(3, .int (iI 2)), (2, .int (bI f0)), (0, .int (iI x)), (1, .int (iI y))]) C d_M_haveFactor_15 rfl (by decide) rfl ?_
    refine v_lv (lv' := [(0, .int (iI x)), (1, .int (iI y)), (2, .int (bI f0)), (3, .int (iI 2))]) [2, 3, 1, 0] rfl ?_
    have L16 : ∀ (d9 : Nat) (d : Nat) (f9 : Bool), 17 - d < d9 → (2 ≤ d) → (d ≤ 17) → (f9 = true ↔ ((x = 0 ∧ y = 0) ∨ ∃ d1 : Nat, 2 ≤ d1 ∧ d1 < d ∧ Int.tmod x d1 = 0 ∧ Int.tmod y d1 = 0)) → kV p l e (rmF 0 0 0 0) s m ([.int (iI x), .int (iI y)] : List Value).toArray below meth c Q s.heap B D classes 4 95 0 0 ad g [(0, .int (iI x)), (1, .int (iI y)), (2, .int (bI f9)), (3, .int (iI (d : Int)))] [] 16 := by
      intro d9
      induction d9 with
      | zero => intro d f9 hd9; exact absurd hd9 (Nat.not_lt_zero _)
      | succ d9 ih16 =>
        intro d f9 hd16 h2 hd hf
        refine v_iload_n C d_M_haveFactor_16 rfl 3 rfl ?_
        refine v_bipush C d_M_haveFactor_17 (by decide +kernel) ?_
        refine v_icmp_gtI C d_M_haveFactor_19 (by omega) (by omega) (by omega) (by omega) (fun hb19 => ?_) (fun hb19 => ?_)
        · refine v_iload_n C d_M_haveFactor_50 rfl 2 rfl ?_
          exact hret _ _ _ _ _ f9 _ (Nat.zero_le _) (Nat.zero_le _) d_M_haveFactor_51 ⟨by rw [show d = 17 by omega] at hf; exact hf, rfl, rfl⟩
        · have J43 : ∀ f8 : Bool, (f8 = true ↔ (f9 = true ∨ (Int.tmod x d = 0 ∧ Int.tmod y d = 0))) → kV p l e (rmF 0 0 0 0) s m ([.int (iI x), .int (iI y)] : List Value).toArray below meth c Q s.heap B D classes 4 95 0 0 ad g [(0, .int (iI x)), (1, .int (iI y)), (2, .int (bI f9)), (3, .int (iI (d : Int)))] [.int (bI f8)] 43 := by
            intro f8 hf8
            refine v_istore_n (lv' := [(2, .int (bI f8)), (0, .int (iI x)), (1, .int (iI y)), (3, .int (iI (d : Int)))]) C d_M_haveFactor_43 rfl (by decide) rfl ?_
            refine v_iinc (lv' := [(3, .int (iI ((d : Int) + 1))), (2, .int (bI f8)), (0, .int (iI x)), (1, .int (iI y))]) C d_M_haveFactor_44 3 rfl (by decide) rfl ?_
            refine v_goto C d_M_haveFactor_47 ?_
            refine v_lv (lv' := [(0, .int (iI x)), (1, .int (iI y)), (2, .int (bI f8)), (3, .int (iI ((d : Int) + 1)))]) [2, 3, 1, 0] rfl ?_
            exact ih16 (d + 1) f8 (by clear hf hf8; omega) (by clear hf hf8; omega) (by clear hf hf8; omega) ⟨fun q => by rcases hf8.mp q with q | q; (rcases hf.mp q with q | ⟨d1, a1, a2, a3⟩; (exact Or.inl q); exact Or.inr ⟨d1, a1, by omega, a3⟩); exact Or.inr ⟨d, h2, by omega, q⟩, fun q => hf8.mpr (by rcases q with q | ⟨d1, a1, a2, a3⟩; (exact Or.inl (hf.mpr (Or.inl q))); by_cases e1 : d1 = d; (subst e1; exact Or.inr a3); exact Or.inl (hf.mpr (Or.inr ⟨d1, a1, by omega, a3⟩)))⟩
          refine v_iload_n C d_M_haveFactor_22 rfl 2 rfl ?_
          refine v_if_neB C d_M_haveFactor_23 (fun hb23 => ?_) (fun hb23 => ?_)
          · refine v_iconst C d_M_haveFactor_38 ?_
            refine v_goto C d_M_haveFactor_39 ?_
            exact J43 true ⟨fun _ => by first | exact Or.inl hb23 | exact Or.inr ⟨hb29, hb35⟩, fun _ => rfl⟩
          · refine v_iload_n C d_M_haveFactor_26 rfl 0 rfl ?_
            refine v_iload_n C d_M_haveFactor_27 rfl 3 rfl ?_
            refine v_iremI C d_M_haveFactor_28 (by omega) (by omega) (by omega) (by omega) (fun hm28 hn28 => ?_)
            refine v_if_neI C d_M_haveFactor_29 (by omega) (by omega) (fun hb29 => ?_) (fun hb29 => ?_)
            · refine v_iconst C d_M_haveFactor_42 ?_
              exact J43 false ⟨fun q => absurd q (by decide), fun q => by rcases q with q | ⟨q1, q2⟩; (rw [hb23] at q; cases q); first | exact absurd q1 hb29 | exact absurd q2 hb35⟩
            · refine v_iload_n C d_M_haveFactor_32 rfl 1 rfl ?_
              refine v_iload_n C d_M_haveFactor_33 rfl 3 rfl ?_
              refine v_iremI C d_M_haveFactor_34 (by omega) (by omega) (by omega) (by omega) (fun hm34 hn34 => ?_)
              refine v_if_neI C d_M_haveFactor_35 (by omega) (by omega) (fun hb35 => ?_) (fun hb35 => ?_)
              · refine v_iconst C d_M_haveFactor_42 ?_
                exact J43 false ⟨fun q => absurd q (by decide), fun q => by rcases q with q | ⟨q1, q2⟩; (rw [hb23] at q; cases q); first | exact absurd q1 hb29 | exact absurd q2 hb35⟩
              · refine v_iconst C d_M_haveFactor_38 ?_
                refine v_goto C d_M_haveFactor_39 ?_
                exact J43 true ⟨fun _ => by first | exact Or.inl hb23 | exact Or.inr ⟨hb29, hb35⟩, fun _ => rfl⟩
    exact L16 _ 2 f0 (Nat.lt_succ_self _) (by omega) (by omega) ⟨fun q => Or.inl (hf0.mp q), fun q => by rcases q with q | ⟨d1, a1, a2, _⟩; (exact hf0.mpr q); omega⟩
  refine v_iload_n C d_M_haveFactor_0 rfl 0 rfl ?_
  refine v_if_neI C d_M_haveFactor_1 (by omega) (by omega) (fun hb1 => ?_) (fun hb1 => ?_)
  · refine v_iconst C d_M_haveFactor_12 ?_
    exact J13 false ⟨fun q => absurd q (by decide), fun q => absurd q (by omega)⟩
  · refine v_iload_n C d_M_haveFactor_4 rfl 1 rfl ?_
    refine v_if_neI C d_M_haveFactor_5 (by omega) (by omega) (fun hb5 => ?_) (fun hb5 => ?_)
    · refine v_iconst C d_M_haveFactor_12 ?_
      exact J13 false ⟨fun q => absurd q (by decide), fun q => absurd q (by omega)⟩
    · refine v_iconst C d_M_haveFactor_8 ?_
      refine v_goto C d_M_haveFactor_9 ?_
      exact J13 true ⟨fun _ => by omega, fun _ => rfl⟩
set_option maxHeartbeats 1000000 in
set_option maxRecDepth 100000 in
theorem c_isTaken (l : Launch) {B : Nat} {D : va_G} {cI cZ cL cS cW : ClassId} {ad : Nat → Nat} {g : Nat → va_E} (th : Int) (w h : Nat) (kp hb : Bool) (tr sq wm : Int) (z x y : Int) (z1 : -2147483648 ≤ z) (z2 : z < 2147483648) (hx : -16 ≤ x ∧ x ≤ 16 ∧ -16 ≤ y ∧ y ≤ 16) (hm : g 73 = mE ad th w h kp hb tr sq wm) (tol : Nat → Bool) (htol : g 79 = inA cZ 8 (bA tol)) (rP : Nat → Int) (hrP : g 80 = inA cI 8 (jA rP)) (rQ : Nat → Int) (hrQ : g 81 = inA cI 8 (jA rQ)) (hPQ : ∀ j, j < 8 → okD (rP j) (rQ j)) : Met l y_M_isTaken (Cond.code y_M_isTaken b_M_isTaken 6 (some .boolean) :: wG) (rmF 0 0 0 0) (wPc B D classes (tyL cI cZ cL cS cW) (Zs B) 95 [.ref (ad 73), .int (iI z), .int (iI x), .int (iI y)] ad g) (QI B D classes 95 (fun v9 ad1 g1 => ∃ v, v9 = bI v ∧ ((v = true ↔ ∃ j : Nat, j < 8 ∧ (j : Int) ≠ z ∧ tol j = true ∧ rP j = x ∧ rQ j = y) ∧ ad = ad1 ∧ g = g1))) 0 0 (aB B) := by
  refine ofZ (own := R_M) (by decide) rfl (Nat.le_of_ble_eq_true rfl) ?_
  intro p e s m below meth c Q C hnm hret
  change kV _ _ _ _ _ _ _ _ _ _ _ _ _ _ _ _ _ _ _ _ _ [(0, .ref (ad 73)), (1, .int (iI z)), (2, .int (iI x)), (3, .int (iI y))] _ _
  refine v_iconst C d_M_isTaken_0 ?_
  refine v_istore (lv' := [(4, .int (iI 0)), (0, .ref (ad 73)), (1, .int (iI z)), (2, .int (iI x)), (3, .int (iI y))]) C d_M_isTaken_1 (by decide) rfl ?_
  refine v_iconst C d_M_isTaken_3 ?_
  refine v_istore (lv' := [(5, .int (iI 0)), (4, .int (iI 0)), (0, .ref (ad 73)), (1, .int (iI z)), (2, .int (iI x)), (3, .int (iI y))]) C d_M_isTaken_4 (by decide) rfl ?_
  refine v_lv (lv' := [(0, .ref (ad 73)), (1, .int (iI z)), (2, .int (iI x)), (3, .int (iI y)), (4, .int (iI 0)), (5, .int (iI 0))]) [2, 3, 4, 5, 1, 0] rfl ?_
  have L6 : ∀ (d9 : Nat) (j : Nat) (f9 : Bool), 8 - j < d9 → (j ≤ 8) → (f9 = true ↔ ∃ i : Nat, i < j ∧ (i : Int) ≠ z ∧ tol i = true ∧ rP i = x ∧ rQ i = y) → kV p l e (rmF 0 0 0 0) s m ([.ref (ad 73), .int (iI z), .int (iI x), .int (iI y)] : List Value).toArray below meth c Q s.heap B D classes 6 95 0 0 ad g [(0, .ref (ad 73)), (1, .int (iI z)), (2, .int (iI x)), (3, .int (iI y)), (4, .int (bI f9)), (5, .int (iI (j : Int)))] [] 6 := by
    intro d9
    induction d9 with
    | zero => intro j f9 hd9; exact absurd hd9 (Nat.not_lt_zero _)
    | succ d9 ih6 =>
      intro j f9 hd6 hj hf
      refine v_iload C d_M_isTaken_6 5 rfl ?_
      refine v_bipush C d_M_isTaken_8 (by decide +kernel) ?_
      refine v_icmp_geI C d_M_isTaken_10 (by omega) (by omega) (by omega) (by omega) (fun hb10 => ?_) (fun hb10 => ?_)
      · refine v_iload C d_M_isTaken_69 4 rfl ?_
        exact hret _ _ _ _ _ f9 _ (Nat.zero_le _) (Nat.zero_le _) d_M_isTaken_71 ⟨by rw [show j = 8 by omega] at hf; exact hf, rfl, rfl⟩
      · have J61 : ∀ f8 : Bool, (f8 = true ↔ (f9 = true ∨ ((j : Int) ≠ z ∧ tol j = true ∧ rP j = x ∧ rQ j = y))) → kV p l e (rmF 0 0 0 0) s m ([.ref (ad 73), .int (iI z), .int (iI x), .int (iI y)] : List Value).toArray below meth c Q s.heap B D classes 6 95 0 0 ad g [(0, .ref (ad 73)), (1, .int (iI z)), (2, .int (iI x)), (3, .int (iI y)), (4, .int (bI f9)), (5, .int (iI (j : Int)))] [.int (bI f8)] 61 := by
          intro f8 hf8
          refine v_istore (lv' := [(4, .int (bI f8)), (0, .ref (ad 73)), (1, .int (iI z)), (2, .int (iI x)), (3, .int (iI y)), (5, .int (iI (j : Int)))]) C d_M_isTaken_61 (by decide) rfl ?_
          refine v_iinc (lv' := [(5, .int (iI ((j : Int) + 1))), (4, .int (bI f8)), (0, .ref (ad 73)), (1, .int (iI z)), (2, .int (iI x)), (3, .int (iI y))]) C d_M_isTaken_63 5 rfl (by decide) rfl ?_
          refine v_goto C d_M_isTaken_66 ?_
          refine v_lv (lv' := [(0, .ref (ad 73)), (1, .int (iI z)), (2, .int (iI x)), (3, .int (iI y)), (4, .int (bI f8)), (5, .int (iI ((j : Int) + 1)))]) [2, 3, 4, 5, 1, 0] rfl ?_
          exact ih6 (j + 1) f8 (by clear hf hf8; omega) (by clear hf hf8; omega) ⟨fun q => by rcases hf8.mp q with q | q; (obtain ⟨i, a1, a2⟩ := hf.mp q; exact ⟨i, by omega, a2⟩); exact ⟨j, by omega, q⟩, fun q => hf8.mpr (by obtain ⟨i, a1, a2⟩ := q; by_cases e1 : i = j; (subst e1; exact Or.inr a2); exact Or.inl (hf.mpr ⟨i, by omega, a2⟩))⟩
        refine v_iload C d_M_isTaken_13 4 rfl ?_
        refine v_if_neB C d_M_isTaken_15 (fun hb15 => ?_) (fun hb15 => ?_)
        · refine v_iconst C d_M_isTaken_56 ?_
          refine v_goto C d_M_isTaken_57 ?_
          exact J61 true ⟨fun _ => by first | exact Or.inl hb15 | exact Or.inr ⟨by omega, hb31, by omega, by omega⟩, fun _ => rfl⟩
        · refine v_iload C d_M_isTaken_18 5 rfl ?_
          refine v_iload_n C d_M_isTaken_20 rfl 1 rfl ?_
          refine v_icmp_eqI C d_M_isTaken_21 (by omega) (by omega) (by omega) (by omega) (fun hb21 => ?_) (fun hb21 => ?_)
          · refine v_iconst C d_M_isTaken_60 ?_
            exact J61 false ⟨fun q => absurd q (by decide), fun q => by rcases q with q | ⟨q1, q2, q3, q4⟩; (rw [hb15] at q; cases q); first | (exfalso; omega) | (rw [hb31] at q2; cases q2)⟩
          · have hok := hPQ j (by omega)
            have hok1 := hok.1; have hok2 := hok.2.1; have hok3 := hok.2.2.1; have hok4 := hok.2.2.2
            refine v_aload_n C d_M_isTaken_24 rfl 0 rfl ?_
            refine gf_M_33 C (by omega) hm rfl d_M_isTaken_25 ?_
            refine v_iload C d_M_isTaken_28 5 rfl ?_
            refine v_zaldB C 1 (by omega) htol rfl (j : Nat) (by omega) (by omega) (by omega) d_M_isTaken_30 ?_
            refine v_if_eqB C d_M_isTaken_31 (fun hb31 => ?_) (fun hb31 => ?_)
            · refine v_iconst C d_M_isTaken_60 ?_
              exact J61 false ⟨fun q => absurd q (by decide), fun q => by rcases q with q | ⟨q1, q2, q3, q4⟩; (rw [hb15] at q; cases q); first | (exfalso; omega) | (rw [hb31] at q2; cases q2)⟩
            · refine v_aload_n C d_M_isTaken_34 rfl 0 rfl ?_
              refine gf_M_36 C (by omega) hm rfl d_M_isTaken_35 ?_
              refine v_iload C d_M_isTaken_38 5 rfl ?_
              refine v_ialdI C 0 (by omega) hrP rfl (j : Nat) (by omega) (by omega) (by omega) d_M_isTaken_40 ?_
              refine v_iload_n C d_M_isTaken_41 rfl 2 rfl ?_
              refine v_icmp_neI C d_M_isTaken_42 (by omega) (by omega) (by omega) (by omega) (fun hb42 => ?_) (fun hb42 => ?_)
              · refine v_iconst C d_M_isTaken_60 ?_
                exact J61 false ⟨fun q => absurd q (by decide), fun q => by rcases q with q | ⟨q1, q2, q3, q4⟩; (rw [hb15] at q; cases q); first | (exfalso; omega) | (rw [hb31] at q2; cases q2)⟩
              · refine v_aload_n C d_M_isTaken_45 rfl 0 rfl ?_
                refine gf_M_39 C (by omega) hm rfl d_M_isTaken_46 ?_
                refine v_iload C d_M_isTaken_49 5 rfl ?_
                refine v_ialdI C 0 (by omega) hrQ rfl (j : Nat) (by omega) (by omega) (by omega) d_M_isTaken_51 ?_
                refine v_iload_n C d_M_isTaken_52 rfl 3 rfl ?_
                refine v_icmp_neI C d_M_isTaken_53 (by omega) (by omega) (by omega) (by omega) (fun hb53 => ?_) (fun hb53 => ?_)
                · refine v_iconst C d_M_isTaken_60 ?_
                  exact J61 false ⟨fun q => absurd q (by decide), fun q => by rcases q with q | ⟨q1, q2, q3, q4⟩; (rw [hb15] at q; cases q); first | (exfalso; omega) | (rw [hb31] at q2; cases q2)⟩
                · refine v_iconst C d_M_isTaken_56 ?_
                  refine v_goto C d_M_isTaken_57 ?_
                  exact J61 true ⟨fun _ => by first | exact Or.inl hb15 | exact Or.inr ⟨by omega, hb31, by omega, by omega⟩, fun _ => rfl⟩
  exact L6 _ 0 false (Nat.lt_succ_self _) (by omega) ⟨fun q => absurd q (by decide), fun q => by obtain ⟨i, hi, _⟩ := q; omega⟩
set_option maxHeartbeats 1000000 in
set_option maxRecDepth 100000 in
theorem c_Mdirection (l : Launch) {B : Nat} {D : va_G} {cI cZ cL cS cW : ClassId} {ad : Nat → Nat} {g : Nat → va_E} (th : Int) (w h : Nat) (kp hb : Bool) (tr sq wm : Int) (z x y : Int) (z1 : -2147483648 ≤ z) (z2 : z < 2147483648) (x1 : -2147483648 ≤ x) (x2 : x < 2147483648) (y1 : -2147483648 ≤ y) (y2 : y < 2147483648) (hm : g 73 = mE ad th w h kp hb tr sq wm) (tol : Nat → Bool) (htol : g 79 = inA cZ 8 (bA tol)) (rP : Nat → Int) (hrP : g 80 = inA cI 8 (jA rP)) (rQ : Nat → Int) (hrQ : g 81 = inA cI 8 (jA rQ)) (fil : Nat → Bool) (hfil : g 82 = inA cZ 8 (bA fil)) (hPQ : ∀ j, j < 8 → okD (rP j) (rQ j)) : Met l y_M_direction (Cond.code y_M_direction b_M_direction 8 none :: wG) (rmF 1 40 0 0) (wPc B D classes (tyL cI cZ cL cS cW) (Zs B) 95 [.ref (ad 73), .int (iI z), .int (iI x), .int (iI y)] ad g) (QV B D classes 95 (fun ad1 g1 => (¬ (0 ≤ z ∧ z < 8) ∧ g1 73 = mE ad 1 w h kp hb tr sq wm ∧ ad = ad1 ∧ ∀ r1, r1 ≠ 73 → g1 r1 = g r1) ∨ ((0 ≤ z ∧ z < 8) ∧ (¬ isD x y ∨ ∃ j : Nat, j < 8 ∧ (j : Int) ≠ z ∧ tol j = true ∧ rP j = tP x y ∧ rQ j = tQ x y) ∧ g1 73 = mE ad 2 w h kp hb tr sq wm ∧ ad = ad1 ∧ ∀ r1, r1 ≠ 73 → g1 r1 = g r1) ∨ ((0 ≤ z ∧ z < 8) ∧ ¬ (¬ isD x y ∨ ∃ j : Nat, j < 8 ∧ (j : Int) ≠ z ∧ tol j = true ∧ rP j = tP x y ∧ rQ j = tQ x y) ∧ g1 73 = mE ad 0 w h kp hb tr sq wm ∧ ad = ad1 ∧ ∃ s0 : Nat, (s0 : Int) = z ∧ s0 < 8 ∧ g1 79 = inA cZ 8 (bA (uP tol s0 true)) ∧ g1 80 = inA cI 8 (jA (uP rP s0 (tP x y))) ∧ g1 81 = inA cI 8 (jA (uP rQ s0 (tQ x y))) ∧ g1 82 = inA cZ 8 (bA (uP fil s0 false)) ∧ ∀ r1, r1 ≠ 73 → r1 ≠ 79 → r1 ≠ 80 → r1 ≠ 81 → r1 ≠ 82 → g1 r1 = g r1))) 0 0 (aB B) := by
  refine ofV (own := R_M) (by decide) rfl (Nat.le_of_ble_eq_true rfl) ?_
  intro p e s m below meth c Q C hnm hret
  change kV _ _ _ _ _ _ _ _ _ _ _ _ _ _ _ _ _ _ _ _ _ [(0, .ref (ad 73)), (1, .int (iI z)), (2, .int (iI x)), (3, .int (iI y))] _ _
  have J29 : ∀ bi : Bool, (bi = true ↔ (-16 ≤ x ∧ x ≤ 16 ∧ -16 ≤ y ∧ y ≤ 16)) → kV p l e (rmF 1 40 0 0) s m ([.ref (ad 73), .int (iI z), .int (iI x), .int (iI y)] : List Value).toArray below meth c Q s.heap B D classes 8 95 0 0 ad g [(0, .ref (ad 73)), (1, .int (iI z)), (2, .int (iI x)), (3, .int (iI y))] [.int (bI bi)] 29 := by
    intro bi hbi
    refine v_istore (lv' := [(4, .int (bI bi)), (0, .ref (ad 73)), (1, .int (iI z)), (2, .int (iI x)), (3, .int (iI y))]) C d_M_direction_29 (by decide) rfl ?_
    have J53 : ∀ bt : Bool, (bt = true ↔ (bi = true ∧ (y < 0 ∨ (y = 0 ∧ x < 0)))) → kV p l e (rmF 1 40 0 0) s m ([.ref (ad 73), .int (iI z), .int (iI x), .int (iI y)] : List Value).toArray below meth c Q s.heap B D classes 8 95 0 0 ad g [(4, .int (bI bi)), (0, .ref (ad 73)), (1, .int (iI z)), (2, .int (iI x)), (3, .int (iI y))] [.int (bI bt)] 53 := by
      intro bt hbt
      refine v_istore (lv' := [(5, .int (bI bt)), (4, .int (bI bi)), (0, .ref (ad 73)), (1, .int (iI z)), (2, .int (iI x)), (3, .int (iI y))]) C d_M_direction_53 (by decide) rfl ?_
      have J66 : ∀ rp : Int, ((bt = true → rp = -x) ∧ (bt = false → rp = x)) → kV p l e (rmF 1 40 0 0) s m ([.ref (ad 73), .int (iI z), .int (iI x), .int (iI y)] : List Value).toArray below meth c Q s.heap B D classes 8 95 0 0 ad g [(5, .int (bI bt)), (4, .int (bI bi)), (0, .ref (ad 73)), (1, .int (iI z)), (2, .int (iI x)), (3, .int (iI y))] [.int (iI rp)] 66 := by
        intro rp hrp
        refine v_istore (lv' := [(6, .int (iI rp)), (5, .int (bI bt)), (4, .int (bI bi)), (0, .ref (ad 73)), (1, .int (iI z)), (2, .int (iI x)), (3, .int (iI y))]) C d_M_direction_66 (by decide) rfl ?_
        have J79 : ∀ rq : Int, ((bt = true → rq = -y) ∧ (bt = false → rq = y)) → kV p l e (rmF 1 40 0 0) s m ([.ref (ad 73), .int (iI z), .int (iI x), .int (iI y)] : List Value).toArray below meth c Q s.heap B D classes 8 95 0 0 ad g [(6, .int (iI rp)), (5, .int (bI bt)), (4, .int (bI bi)), (0, .ref (ad 73)), (1, .int (iI z)), (2, .int (iI x)), (3, .int (iI y))] [.int (iI rq)] 79 := by
          intro rq hrq
          refine v_istore (lv' := [(7, .int (iI rq)), (6, .int (iI rp)), (5, .int (bI bt)), (4, .int (bI bi)), (0, .ref (ad 73)), (1, .int (iI z)), (2, .int (iI x)), (3, .int (iI y))]) C d_M_direction_79 (by decide) rfl ?_
          have etP : bi = true → rp = tP x y ∧ rq = tQ x y := fun q => by unfold tP tQ; by_cases c9 : y < 0 ∨ (y = 0 ∧ x < 0); (have hb9 := hbt.mpr ⟨q, c9⟩; rw [if_pos c9, if_pos c9]; exact ⟨hrp.1 hb9, hrq.1 hb9⟩); (have hb9 : bt = false := Bool.eq_false_iff.mpr (fun z9 => c9 (hbt.mp z9).2); rw [if_neg c9, if_neg c9]; exact ⟨hrp.2 hb9, hrq.2 hb9⟩)
          refine v_aload_n C d_M_direction_81 rfl 4 rfl ?_
          have J94 : ∀ a : Bool, (a = true ↔ ¬ (0 ≤ z ∧ z < 8)) → kV p l e (rmF 1 40 0 0) s m ([.ref (ad 73), .int (iI z), .int (iI x), .int (iI y)] : List Value).toArray below meth c Q s.heap B D classes 8 95 0 0 ad g [(7, .int (iI rq)), (6, .int (iI rp)), (5, .int (bI bt)), (4, .int (bI bi)), (0, .ref (ad 73)), (1, .int (iI z)), (2, .int (iI x)), (3, .int (iI y))] [.int (bI a), .ref (ad 73)] 94 := by
            intro a ha
            have J126 : ∀ b2 : Bool, (b2 = true ↔ (¬ isD x y ∨ ∃ j : Nat, j < 8 ∧ (j : Int) ≠ z ∧ tol j = true ∧ rP j = tP x y ∧ rQ j = tQ x y)) → kV p l e (rmF 1 40 0 0) s m ([.ref (ad 73), .int (iI z), .int (iI x), .int (iI y)] : List Value).toArray below meth c Q s.heap B D classes 8 95 0 0 ad g [(7, .int (iI rq)), (6, .int (iI rp)), (5, .int (bI bt)), (4, .int (bI bi)), (0, .ref (ad 73)), (1, .int (iI z)), (2, .int (iI x)), (3, .int (iI y))] [.int (bI b2), .int (bI a), .ref (ad 73)] 126 := by
              intro b2 hb2
              refine v_callVI (As := [.int (bI a), .int (bI b2)]) (st := []) (by omega) hm rfl rfl C (c_throwing l th w h kp hb tr sq wm a b2 hm) (lk_M_88 C.1.2.2.2.2 rfl rfl ⟨Nat.le_of_ble_eq_true rfl, Nat.le_of_ble_eq_true rfl⟩) rfl rfl (Nat.le_of_ble_eq_true rfl) d_M_direction_126 ⟨Nat.le_of_ble_eq_true rfl, Nat.le_of_ble_eq_true rfl⟩ (fun w1 ad1 g1 hp1 => ?_)
              obtain ⟨vt1, rfl, hc1, rfl, fr1⟩ := hp1
              rcases hc1 with ⟨ta126, rfl, hm⟩ | ⟨ta126, tb126, rfl, hm⟩ | ⟨ta126, tb126, rfl, hm⟩
              · -- way 1
                have htol := (fr1 79 (by omega)).trans htol
                have hrP := (fr1 80 (by omega)).trans hrP
                have hrQ := (fr1 81 (by omega)).trans hrQ
                have hfil := (fr1 82 (by omega)).trans hfil
                refine v_if_eqB C d_M_direction_129 (fun hz9 => absurd hz9 (by decide)) (fun _ => ?_)
                exact hret _ _ _ _ _ _ (Nat.zero_le _) (Nat.zero_le _) d_M_direction_132 (Or.inl ⟨ha.mp ta126, hm, rfl, (fun r1 n0 => (fr1 r1 n0))⟩)
              · -- way 2
                have htol := (fr1 79 (by omega)).trans htol
                have hrP := (fr1 80 (by omega)).trans hrP
                have hrQ := (fr1 81 (by omega)).trans hrQ
                have hfil := (fr1 82 (by omega)).trans hfil
                refine v_if_eqB C d_M_direction_129 (fun hz9 => absurd hz9 (by decide)) (fun _ => ?_)
                exact hret _ _ _ _ _ _ (Nat.zero_le _) (Nat.zero_le _) d_M_direction_132 (Or.inr (Or.inl ⟨Classical.byContradiction (fun q => absurd (ha.mpr q) (by rw [ta126]; decide)), hb2.mp tb126, hm, rfl, (fun r1 n0 => (fr1 r1 n0))⟩))
              · -- way 3
                have htol := (fr1 79 (by omega)).trans htol
                have hrP := (fr1 80 (by omega)).trans hrP
                have hrQ := (fr1 81 (by omega)).trans hrQ
                have hfil := (fr1 82 (by omega)).trans hfil
                refine v_if_eqB C d_M_direction_129 (fun _ => ?_) (fun hz9 => absurd hz9 (by decide))
                have hsh : (0 ≤ z ∧ z < 8) := Classical.byContradiction (fun q => absurd (ha.mpr q) (by rw [ta126]; decide))
                have hbad : ¬ (¬ isD x y ∨ ∃ j : Nat, j < 8 ∧ (j : Int) ≠ z ∧ tol j = true ∧ rP j = tP x y ∧ rQ j = tQ x y) := fun q => absurd (hb2.mpr q) (by rw [tb126]; decide)
                have hisd : isD x y := Classical.byContradiction (fun q => hbad (Or.inl q))
                obtain ⟨rfl, rfl⟩ := etP (hbi.mpr ⟨hisd.1, hisd.2.1, hisd.2.2.1, hisd.2.2.2.1⟩)
                obtain ⟨s0, hs0⟩ : ∃ s0 : Nat, (s0 : Int) = z := ⟨z.toNat, by omega⟩
                have hs8 : s0 < 8 := by omega
                refine v_aload_n C d_M_direction_133 rfl 4 rfl ?_
                refine gf_M_33 C (by omega) hm rfl d_M_direction_134 ?_
                refine v_iload_n C d_M_direction_137 rfl 5 rfl ?_
                refine v_iconst C d_M_direction_138 ?_
                refine v_zastB true C 1 (by omega) htol rfl s0 (by omega) (by omega) (by omega) d_M_direction_139 (fun g2 htol fr3 => ?_)
                have hm := (fr3 73 (by omega)).trans hm
                have hrP := (fr3 80 (by omega)).trans hrP
                have hrQ := (fr3 81 (by omega)).trans hrQ
                have hfil := (fr3 82 (by omega)).trans hfil
                refine v_aload_n C d_M_direction_140 rfl 4 rfl ?_
                refine gf_M_36 C (by omega) hm rfl d_M_direction_141 ?_
                refine v_iload_n C d_M_direction_144 rfl 5 rfl ?_
                refine v_iload C d_M_direction_145 1 rfl ?_
                refine v_iastI C 0 (by omega) hrP rfl s0 (by omega) (by omega) (by omega) d_M_direction_147 (fun g4 hrP fr5 => ?_)
                have hm := (fr5 73 (by omega)).trans hm
                have htol := (fr5 79 (by omega)).trans htol
                have hrQ := (fr5 81 (by omega)).trans hrQ
                have hfil := (fr5 82 (by omega)).trans hfil
                refine v_aload_n C d_M_direction_148 rfl 4 rfl ?_
                refine gf_M_39 C (by omega) hm rfl d_M_direction_149 ?_
                refine v_iload_n C d_M_direction_152 rfl 5 rfl ?_
                refine v_iload C d_M_direction_153 0 rfl ?_
                refine v_iastI C 0 (by omega) hrQ rfl s0 (by omega) (by omega) (by omega) d_M_direction_155 (fun g6 hrQ fr7 => ?_)
                have hm := (fr7 73 (by omega)).trans hm
                have htol := (fr7 79 (by omega)).trans htol
                have hrP := (fr7 80 (by omega)).trans hrP
                have hfil := (fr7 82 (by omega)).trans hfil
                refine v_aload_n C d_M_direction_156 rfl 4 rfl ?_
                refine gf_M_42 C (by omega) hm rfl d_M_direction_157 ?_
                refine v_iload_n C d_M_direction_160 rfl 5 rfl ?_
                refine v_iconst C d_M_direction_161 ?_
                refine v_zastB false C 1 (by omega) hfil rfl s0 (by omega) (by omega) (by omega) d_M_direction_162 (fun g8 hfil fr9 => ?_)
                have hm := (fr9 73 (by omega)).trans hm
                have htol := (fr9 79 (by omega)).trans htol
                have hrP := (fr9 80 (by omega)).trans hrP
                have hrQ := (fr9 81 (by omega)).trans hrQ
                exact hret _ _ _ _ _ _ (Nat.zero_le _) (Nat.zero_le _) d_M_direction_163 (Or.inr (Or.inr ⟨hsh, hbad, hm, rfl, s0, hs0, hs8, htol, hrP, hrQ, hfil, (fun r1 n0 n1 n2 n3 n4 => ((fr9 r1 n4).trans ((fr7 r1 n3).trans ((fr5 r1 n2).trans ((fr3 r1 n1).trans (fr1 r1 n0))))))⟩))
            refine v_iload C d_M_direction_94 3 rfl ?_
            refine v_if_eqB C d_M_direction_96 (fun hb96 => ?_) (fun hb96 => ?_)
            · refine v_iconst C d_M_direction_121 ?_
              refine v_goto C d_M_direction_122 ?_
              exact J126 true ⟨fun _ => by first | exact Or.inr (hbk.mp hb118) | exact Or.inl (fun q => (isD_fac.mp q).2.2.2.2 (hbf.mp hb106)) | exact Or.inl (fun q => absurd (hbi.mpr ⟨q.1, q.2.1, q.2.2.1, q.2.2.2.1⟩) (by rw [hb96]; decide)), fun _ => rfl⟩
            · have hin1 := hbi.mp hb96
              obtain ⟨rfl, rfl⟩ := etP hb96
              have htb : -16 ≤ tP x y ∧ tP x y ≤ 16 ∧ -16 ≤ tQ x y ∧ tQ x y ≤ 16 := by unfold tP tQ; split <;> omega
              refine v_iload C d_M_direction_99 1 rfl ?_
              refine v_iload C d_M_direction_101 0 rfl ?_
              refine v_callSI (As := [.int (iI (tP x y)), .int (iI (tQ x y))]) (st := [.int (bI a), .ref (ad 73)]) C (c_haveFactor l (tP x y) (tQ x y) htb) (lk_M_103 C.1.2.2.2.2 rfl rfl ⟨Nat.le_of_ble_eq_true rfl, Nat.le_of_ble_eq_true rfl⟩) rfl rfl (Nat.le_of_ble_eq_true rfl) d_M_direction_103 ⟨Nat.le_of_ble_eq_true rfl, Nat.le_of_ble_eq_true rfl⟩ (fun w10 ad10 g10 hp10 => ?_)
              obtain ⟨bf, rfl, hbf, rfl, rfl⟩ := hp10
              refine v_if_neB C d_M_direction_106 (fun hb106 => ?_) (fun hb106 => ?_)
              · refine v_iconst C d_M_direction_121 ?_
                refine v_goto C d_M_direction_122 ?_
                exact J126 true ⟨fun _ => by first | exact Or.inr (hbk.mp hb118) | exact Or.inl (fun q => (isD_fac.mp q).2.2.2.2 (hbf.mp hb106)) | exact Or.inl (fun q => absurd (hbi.mpr ⟨q.1, q.2.1, q.2.2.1, q.2.2.2.1⟩) (by rw [hb96]; decide)), fun _ => rfl⟩
              · refine v_aload_n C d_M_direction_109 rfl 4 rfl ?_
                refine v_iload_n C d_M_direction_110 rfl 5 rfl ?_
                refine v_iload C d_M_direction_111 1 rfl ?_
                refine v_iload C d_M_direction_113 0 rfl ?_
                refine v_callVI (As := [.int (iI z), .int (iI (tP x y)), .int (iI (tQ x y))]) (st := [.int (bI a), .ref (ad 73)]) (by omega) hm rfl rfl C (c_isTaken l th w h kp hb tr sq wm z (tP x y) (tQ x y) z1 z2 htb hm tol htol rP hrP rQ hrQ hPQ) (lk_M_106 C.1.2.2.2.2 rfl rfl ⟨Nat.le_of_ble_eq_true rfl, Nat.le_of_ble_eq_true rfl⟩) rfl rfl (Nat.le_of_ble_eq_true rfl) d_M_direction_115 ⟨Nat.le_of_ble_eq_true rfl, Nat.le_of_ble_eq_true rfl⟩ (fun w11 ad11 g11 hp11 => ?_)
                obtain ⟨bk, rfl, hbk, rfl, rfl⟩ := hp11
                refine v_if_eqB C d_M_direction_118 (fun hb118 => ?_) (fun hb118 => ?_)
                · refine v_iconst C d_M_direction_125 ?_
                  exact J126 false ⟨fun q => absurd q (by decide), fun q => by rcases q with q | q; (exact absurd (isD_fac.mpr ⟨hin1.1, hin1.2.1, hin1.2.2.1, hin1.2.2.2, fun z9 => absurd (hbf.mpr z9) (by rw [hb106]; decide)⟩) q); exact absurd (hbk.mpr q) (by rw [hb118]; decide)⟩
                · refine v_iconst C d_M_direction_121 ?_
                  refine v_goto C d_M_direction_122 ?_
                  exact J126 true ⟨fun _ => by first | exact Or.inr (hbk.mp hb118) | exact Or.inl (fun q => (isD_fac.mp q).2.2.2.2 (hbf.mp hb106)) | exact Or.inl (fun q => absurd (hbi.mpr ⟨q.1, q.2.1, q.2.2.1, q.2.2.2.1⟩) (by rw [hb96]; decide)), fun _ => rfl⟩
          refine v_iload_n C d_M_direction_82 rfl 5 rfl ?_
          refine v_callSI (As := [.int (iI z)]) (st := [.ref (ad 73)]) C (c_isShelf l z z1 z2) (lk_M_84 C.1.2.2.2.2 rfl rfl ⟨Nat.le_of_ble_eq_true rfl, Nat.le_of_ble_eq_true rfl⟩) rfl rfl (Nat.le_of_ble_eq_true rfl) d_M_direction_83 ⟨Nat.le_of_ble_eq_true rfl, Nat.le_of_ble_eq_true rfl⟩ (fun w12 ad12 g12 hp12 => ?_)
          obtain ⟨_, rfl, rfl, rfl, rfl⟩ := hp12
          refine v_if_neB C d_M_direction_86 (fun hb86 => ?_) (fun hb86 => ?_)
          · have hb86 := of_decide_eq_true hb86
            refine v_iconst C d_M_direction_93 ?_
            exact J94 false ⟨fun q => absurd q (by decide), fun q => absurd q (by omega)⟩
          · have hb86 := of_decide_eq_false hb86
            refine v_iconst C d_M_direction_89 ?_
            refine v_goto C d_M_direction_90 ?_
            exact J94 true ⟨fun _ => by omega, fun _ => rfl⟩
        refine v_iload C d_M_direction_68 1 rfl ?_
        refine v_if_eqB C d_M_direction_70 (fun hb70 => ?_) (fun hb70 => ?_)
        · refine v_iload_n C d_M_direction_78 rfl 6 rfl ?_
          exact J79 y ⟨fun q => by first | rfl | (rw [hb70] at q; cases q), fun q => by first | rfl | (rw [hb70] at q; cases q)⟩
        · refine v_iload_n C d_M_direction_73 rfl 6 rfl ?_
          refine v_inegI C d_M_direction_74 ?_
          refine v_goto C d_M_direction_75 ?_
          exact J79 (-y) ⟨fun q => by first | rfl | (rw [hb70] at q; cases q), fun q => by first | rfl | (rw [hb70] at q; cases q)⟩
      refine v_iload C d_M_direction_55 0 rfl ?_
      refine v_if_eqB C d_M_direction_57 (fun hb57 => ?_) (fun hb57 => ?_)
      · refine v_iload_n C d_M_direction_65 rfl 4 rfl ?_
        exact J66 x ⟨fun q => by first | rfl | (rw [hb57] at q; cases q), fun q => by first | rfl | (rw [hb57] at q; cases q)⟩
      · refine v_iload_n C d_M_direction_60 rfl 4 rfl ?_
        refine v_inegI C d_M_direction_61 ?_
        refine v_goto C d_M_direction_62 ?_
        exact J66 (-x) ⟨fun q => by first | rfl | (rw [hb57] at q; cases q), fun q => by first | rfl | (rw [hb57] at q; cases q)⟩
    refine v_iload C d_M_direction_31 0 rfl ?_
    refine v_if_eqB C d_M_direction_33 (fun hb33 => ?_) (fun hb33 => ?_)
    · refine v_iconst C d_M_direction_52 ?_
      exact J53 false ⟨fun q => absurd q (by decide), fun q => by obtain ⟨q1, q2⟩ := q; first | (exfalso; omega) | (rw [hb33] at q1; cases q1)⟩
    · refine v_iload_n C d_M_direction_36 rfl 4 rfl ?_
      refine v_if_ltI C d_M_direction_37 (by omega) (by omega) (fun hb37 => ?_) (fun hb37 => ?_)
      · refine v_iconst C d_M_direction_48 ?_
        refine v_goto C d_M_direction_49 ?_
        exact J53 true ⟨fun _ => ⟨hb33, by omega⟩, fun _ => rfl⟩
      · refine v_iload_n C d_M_direction_40 rfl 4 rfl ?_
        refine v_if_neI C d_M_direction_41 (by omega) (by omega) (fun hb41 => ?_) (fun hb41 => ?_)
        · refine v_iconst C d_M_direction_52 ?_
          exact J53 false ⟨fun q => absurd q (by decide), fun q => by obtain ⟨q1, q2⟩ := q; first | (exfalso; omega) | (rw [hb33] at q1; cases q1)⟩
        · refine v_iload_n C d_M_direction_44 rfl 3 rfl ?_
          refine v_if_geI C d_M_direction_45 (by omega) (by omega) (fun hb45 => ?_) (fun hb45 => ?_)
          · refine v_iconst C d_M_direction_52 ?_
            exact J53 false ⟨fun q => absurd q (by decide), fun q => by obtain ⟨q1, q2⟩ := q; first | (exfalso; omega) | (rw [hb33] at q1; cases q1)⟩
          · refine v_iconst C d_M_direction_48 ?_
            refine v_goto C d_M_direction_49 ?_
            exact J53 true ⟨fun _ => ⟨hb33, by omega⟩, fun _ => rfl⟩
  refine v_iload_n C d_M_direction_0 rfl 2 rfl ?_
  refine v_bipush C d_M_direction_1 (by decide +kernel) ?_
  refine v_icmp_ltI C d_M_direction_3 (by omega) (by omega) (by omega) (by omega) (fun hb3 => ?_) (fun hb3 => ?_)
  · refine v_iconst C d_M_direction_28 ?_
    exact J29 false ⟨fun q => absurd q (by decide), fun q => absurd q (by omega)⟩
  · refine v_iload_n C d_M_direction_6 rfl 2 rfl ?_
    refine v_bipush C d_M_direction_7 (by decide +kernel) ?_
    refine v_icmp_gtI C d_M_direction_9 (by omega) (by omega) (by omega) (by omega) (fun hb9 => ?_) (fun hb9 => ?_)
    · refine v_iconst C d_M_direction_28 ?_
      exact J29 false ⟨fun q => absurd q (by decide), fun q => absurd q (by omega)⟩
    · refine v_iload_n C d_M_direction_12 rfl 3 rfl ?_
      refine v_bipush C d_M_direction_13 (by decide +kernel) ?_
      refine v_icmp_ltI C d_M_direction_15 (by omega) (by omega) (by omega) (by omega) (fun hb15 => ?_) (fun hb15 => ?_)
      · refine v_iconst C d_M_direction_28 ?_
        exact J29 false ⟨fun q => absurd q (by decide), fun q => absurd q (by omega)⟩
      · refine v_iload_n C d_M_direction_18 rfl 3 rfl ?_
        refine v_bipush C d_M_direction_19 (by decide +kernel) ?_
        refine v_icmp_gtI C d_M_direction_21 (by omega) (by omega) (by omega) (by omega) (fun hb21 => ?_) (fun hb21 => ?_)
        · refine v_iconst C d_M_direction_28 ?_
          exact J29 false ⟨fun q => absurd q (by decide), fun q => absurd q (by omega)⟩
        · refine v_iconst C d_M_direction_24 ?_
          refine v_goto C d_M_direction_25 ?_
          exact J29 true ⟨fun _ => by omega, fun _ => rfl⟩
