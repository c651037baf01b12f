/-! adding, in the reference's one row of bins -/
def sg (b : Bool) (x : Int32) : Int32 := if b = true then x else -x
def addG (b : Bool) (f f2 : Nat → Int32) (lo hi : Nat) : Nat → Int32 := fun k => if lo ≤ k ∧ k < hi then f k + sg b (f2 k) else f k
theorem addG_0 (b : Bool) (f f2 : Nat → Int32) (lo : Nat) : addG b f f2 lo lo = f := by
  funext k
  exact if_neg (by omega)
theorem addG_s {b : Bool} {f f2 : Nat → Int32} {lo i : Nat} {x : Int32} (hl : lo ≤ i) (hx : sg b (f2 i) = x) : upd (addG b f f2 lo i) i (addG b f f2 lo i i + x) = addG b f f2 lo (i + 1) := by
  funext k
  have e0 : addG b f f2 lo i i = f i := if_neg (by omega)
  by_cases h : k = i
  · subst h
    rw [pk_us, e0, ← hx]
    unfold addG
    rw [if_pos (by omega)]
  · rw [pk_un h]
    unfold addG
    by_cases h2 : lo ≤ k ∧ k < i
    · rw [if_pos h2, if_pos (by omega)]
    · rw [if_neg h2, if_neg (by omega)]
theorem add_row {b : Bool} {bns kb bn9 : Nat → Int32} {FL : Nat → Bool} {j q : Nat} (h : ∀ i, i < 8 → ∀ k, k < 481 → bn9 (481 * i + k) = if i < j ∧ FL i = true then bns (481 * i + k) + sg b (kb (481 * i + k)) else bns (481 * i + k)) (hq1 : FL j = true → q = 481 * j + 481) (hq2 : FL j = false → q = 481 * j) : ∀ i, i < 8 → ∀ k, k < 481 → addG b bn9 kb (481 * j) q (481 * i + k) = if i < j + 1 ∧ FL i = true then bns (481 * i + k) + sg b (kb (481 * i + k)) else bns (481 * i + k) := fun i hi k hk => by
  have h1 := h i hi k hk
  unfold addG
  by_cases e : i = j
  · subst e
    rw [if_neg (fun z => Nat.lt_irrefl _ z.1)] at h1
    by_cases hf : FL i = true
    · rw [if_pos (by have := hq1 hf; omega), if_pos ⟨by omega, hf⟩, h1]
    · rw [if_neg (by have := hq2 (Bool.eq_false_iff.mpr hf); omega), if_neg (fun z => hf z.2), h1]
  · have hq : 481 * j ≤ q ∧ q ≤ 481 * j + 481 := by
      cases hf : FL j
      · have := hq2 hf; omega
      · have := hq1 hf; omega
    rw [if_neg (by omega), h1]
    by_cases hf : i < j ∧ FL i = true
    · rw [if_pos hf, if_pos ⟨by omega, hf.2⟩]
    · rw [if_neg hf, if_neg (fun z => hf ⟨by omega, z.2⟩)]
theorem cN_s (F : Nat → Nat) (n : Nat) : cN (n + 1) F = cN n F + F n := rfl
set_option maxHeartbeats 1000000 in
set_option maxRecDepth 100000 in
theorem c_Mkeep (l : Launch) {B : Nat} {D : va_G} {cI cZ cL cS cW : ClassId} {ad : Nat → Nat} {g : Nat → va_E} (th : Int) (w h : Nat) (kp hb : Bool) (tr sq wm : Int) (hm : g 73 = mE ad th w h kp hb tr sq wm) (pic : Nat → Int32) (hpic : g 74 = inA cI 256 pic) (kep : Nat → Int32) (hkep : g 75 = inA cI 256 kep) (tol : Nat → Bool) (htol : g 79 = inA cZ 8 (bA tol)) (rP : Nat → Int) (hrP : g 80 = inA cI 8 (jA rP)) (rQ : Nat → Int) (hrQ : g 81 = inA cI 8 (jA rQ)) (fil : Nat → Bool) (hfil : g 82 = inA cZ 8 (bA fil)) (bns : Nat → Int32) (hbns : g 83 = inA cI 3848 bns) (kt : Nat → Bool) (hkt : g 84 = inA cZ 8 (bA kt)) (kP : Nat → Int) (hkP : g 85 = inA cI 8 (jA kP)) (kQ : Nat → Int) (hkQ : g 86 = inA cI 8 (jA kQ)) (kf : Nat → Bool) (hkf : g 87 = inA cZ 8 (bA kf)) (kb : Nat → Int32) (hkb : g 88 = inA cI 3848 kb) : Met l y_M_keep (Cond.code y_M_keep b_M_keep 2 none :: wG) (rmF 0 0 0 0) (wPc B D classes (tyL cI cZ cL cS cW) (Zs B) 95 [.ref (ad 73)] ad g) (QV B D classes 95 (fun ad1 g1 => ∃ (kep1 kb1 : Nat → Int32) (kt1 kf1 : Nat → Bool) (kP1 kQ1 : Nat → Int), (∀ k, k < 256 → kep1 k = pic k) ∧ (∀ j, j < 8 → kt1 j = tol j ∧ kP1 j = rP j ∧ kQ1 j = rQ j ∧ kf1 j = fil j) ∧ (∀ k, k < 3848 → kb1 k = bns k) ∧ ad = ad1 ∧ g1 73 = mE ad 0 w h true hb tr sq wm ∧ g1 75 = inA cI 256 kep1 ∧ g1 84 = inA cZ 8 (bA kt1) ∧ g1 85 = inA cI 8 (jA kP1) ∧ g1 86 = inA cI 8 (jA kQ1) ∧ g1 87 = inA cZ 8 (bA kf1) ∧ g1 88 = inA cI 3848 kb1 ∧ ∀ r1, r1 ≠ 73 → r1 ≠ 75 → r1 ≠ 84 → r1 ≠ 85 → r1 ≠ 86 → r1 ≠ 87 → r1 ≠ 88 → g1 r1 = g r1)) 0 0 (aB B) := by
  refine ofV (own := R_M) (by decide) rfl (Nat.le_of_ble_eq_true rfl) ?_
  intro p e s m below meth c Q C hnm hret
  change kV _ _ _ _ _ _ _ _ _ _ _ _ _ _ _ _ _ _ _ _ _ [(0, .ref (ad 73))] _ _
  refine v_aload_n C d_M_keep_0 rfl 0 rfl ?_
  refine v_iconst C d_M_keep_1 ?_
  refine pf_M_81 (fs' := [.int (iI 0), .int (iI (w : Int)), .int (iI (h : Int)), .ref (ad 74), .ref (ad 75), .ref (ad 76), .ref (ad 77), .ref (ad 78), .int (bI kp), .int (bI hb), .ref (ad 79), .ref (ad 80), .ref (ad 81), .ref (ad 82), .ref (ad 83), .ref (ad 84), .ref (ad 85), .ref (ad 86), .ref (ad 87), .ref (ad 88), .ref (ad 89), .ref (ad 90), .int (iI tr), .ref (ad 91), .int (iI sq), .int (iI wm), .ref (ad 92), .ref (ad 93)]) C (by omega) hm rfl rfl (Nat.le_of_ble_eq_true rfl) rfl d_M_keep_2 (fun g1 hm fr2 => ?_)
  have hpic := (fr2 74 (by omega)).trans hpic
  have hkep := (fr2 75 (by omega)).trans hkep
  have htol := (fr2 79 (by omega)).trans htol
  have hrP := (fr2 80 (by omega)).trans hrP
  have hrQ := (fr2 81 (by omega)).trans hrQ
  have hfil := (fr2 82 (by omega)).trans hfil
  have hbns := (fr2 83 (by omega)).trans hbns
  have hkt := (fr2 84 (by omega)).trans hkt
  have hkP := (fr2 85 (by omega)).trans hkP
  have hkQ := (fr2 86 (by omega)).trans hkQ
  have hkf := (fr2 87 (by omega)).trans hkf
  have hkb := (fr2 88 (by omega)).trans hkb
  refine v_aload_n C d_M_keep_5 rfl 0 rfl ?_
  refine v_iconst C d_M_keep_6 ?_
  refine pf_M_92 (fs' := [.int (iI 0), .int (iI (w : Int)), .int (iI (h : Int)), .ref (ad 74), .ref (ad 75), .ref (ad 76), .ref (ad 77), .ref (ad 78), .int (iI 1), .int (bI hb), .ref (ad 79), .ref (ad 80), .ref (ad 81), .ref (ad 82), .ref (ad 83), .ref (ad 84), .ref (ad 85), .ref (ad 86), .ref (ad 87), .ref (ad 88), .ref (ad 89), .ref (ad 90), .int (iI tr), .ref (ad 91), .int (iI sq), .int (iI wm), .ref (ad 92), .ref (ad 93)]) C (by omega) hm rfl rfl (Nat.le_of_ble_eq_true rfl) rfl d_M_keep_7 (fun g3 hm fr4 => ?_)
  have hpic := (fr4 74 (by omega)).trans hpic
  have hkep := (fr4 75 (by omega)).trans hkep
  have htol := (fr4 79 (by omega)).trans htol
  have hrP := (fr4 80 (by omega)).trans hrP
  have hrQ := (fr4 81 (by omega)).trans hrQ
  have hfil := (fr4 82 (by omega)).trans hfil
  have hbns := (fr4 83 (by omega)).trans hbns
  have hkt := (fr4 84 (by omega)).trans hkt
  have hkP := (fr4 85 (by omega)).trans hkP
  have hkQ := (fr4 86 (by omega)).trans hkQ
  have hkf := (fr4 87 (by omega)).trans hkf
  have hkb := (fr4 88 (by omega)).trans hkb
  refine v_iconst C d_M_keep_10 ?_
  refine v_istore_n (lv' := [(1, .int (iI 0)), (0, .ref (ad 73))]) C d_M_keep_11 rfl (by decide) rfl ?_
  refine v_lv (lv' := [(0, .ref (ad 73)), (1, .int (iI 0))]) [1, 0] rfl ?_
  have L12 : ∀ (d9 : Nat) (i : Nat) (k9 : Nat → Int32) (G12 : Nat → va_E), 256 - i < d9 → (i ≤ 256) → (∀ k, k < i → k9 k = pic k) → (∀ r1, r1 ≠ 75 → G12 r1 = g3 r1) → G12 75 = inA cI 256 k9 → kV p l e (rmF 0 0 0 0) s m ([.ref (ad 73)] : List Value).toArray below meth c Q s.heap B D classes 2 95 0 0 ad G12 [(0, .ref (ad 73)), (1, .int (iI (i : Int)))] [] 12 := by
    intro d9
    induction d9 with
    | zero => intro i k9 G12 hd9; exact absurd hd9 (Nat.not_lt_zero _)
    | succ d9 ih12 =>
      intro i k9 G12 hd12 hi hk1 hfr12 hkep
      have hm := (hfr12 73 (by omega)).trans hm
      have hpic := (hfr12 74 (by omega)).trans hpic
      have htol := (hfr12 79 (by omega)).trans htol
      have hrP := (hfr12 80 (by omega)).trans hrP
      have hrQ := (hfr12 81 (by omega)).trans hrQ
      have hfil := (hfr12 82 (by omega)).trans hfil
      have hbns := (hfr12 83 (by omega)).trans hbns
      have hkt := (hfr12 84 (by omega)).trans hkt
      have hkP := (hfr12 85 (by omega)).trans hkP
      have hkQ := (hfr12 86 (by omega)).trans hkQ
      have hkf := (hfr12 87 (by omega)).trans hkf
      have hkb := (hfr12 88 (by omega)).trans hkb
      refine v_iload_n C d_M_keep_12 rfl 1 rfl ?_
      refine v_sipush C d_M_keep_13 (by decide +kernel) ?_
      refine v_icmp_geI C d_M_keep_16 (by omega) (by omega) (by omega) (by omega) (fun hb16 => ?_) (fun hb16 => ?_)
      · have hk1 : ∀ k, k < 256 → k9 k = pic k := fun k hk => hk1 k (by omega)
        refine v_iconst C d_M_keep_37 ?_
        refine v_istore_n (lv' := [(1, .int (iI 0)), (0, .ref (ad 73))]) C d_M_keep_38 rfl (by decide) rfl ?_
        refine v_lv (lv' := [(0, .ref (ad 73)), (1, .int (iI 0))]) [1, 0] rfl ?_
        have L39 : ∀ (d9 : Nat) (j : Nat) (t9 : Nat → Bool) (p9 : Nat → Int) (q9 : Nat → Int) (f9 : Nat → Bool) (G39 : Nat → va_E), 8 - j < d9 → (j ≤ 8) → (∀ k, k < j → t9 k = tol k ∧ p9 k = rP k ∧ q9 k = rQ k ∧ f9 k = fil k) → (∀ r1, r1 ≠ 84 → r1 ≠ 85 → r1 ≠ 86 → r1 ≠ 87 → G39 r1 = G12 r1) → G39 84 = inA cZ 8 (bA t9) → G39 85 = inA cI 8 (jA p9) → G39 86 = inA cI 8 (jA q9) → G39 87 = inA cZ 8 (bA f9) → kV p l e (rmF 0 0 0 0) s m ([.ref (ad 73)] : List Value).toArray below meth c Q s.heap B D classes 2 95 0 0 ad G39 [(0, .ref (ad 73)), (1, .int (iI (j : Int)))] [] 39 := by
          intro d9
          induction d9 with
          | zero => intro j t9 p9 q9 f9 G39 hd9; exact absurd hd9 (Nat.not_lt_zero _)
          | succ d9 ih39 =>
            intro j t9 p9 q9 f9 G39 hd39 hj hk2 hfr39 hkt hkP hkQ hkf
            have hm := (hfr39 73 (by omega) (by omega) (by omega) (by omega)).trans hm
            have hpic := (hfr39 74 (by omega) (by omega) (by omega) (by omega)).trans hpic
            have htol := (hfr39 79 (by omega) (by omega) (by omega) (by omega)).trans htol
            have hrP := (hfr39 80 (by omega) (by omega) (by omega) (by omega)).trans hrP
            have hrQ := (hfr39 81 (by omega) (by omega) (by omega) (by omega)).trans hrQ
            have hfil := (hfr39 82 (by omega) (by omega) (by omega) (by omega)).trans hfil
            have hbns := (hfr39 83 (by omega) (by omega) (by omega) (by omega)).trans hbns
            have hkb := (hfr39 88 (by omega) (by omega) (by omega) (by omega)).trans hkb
            have hkep := (hfr39 75 (by omega) (by omega) (by omega) (by omega)).trans hkep
            refine v_iload_n C d_M_keep_39 rfl 1 rfl ?_
            refine v_bipush C d_M_keep_40 (by decide +kernel) ?_
            refine v_icmp_geI C d_M_keep_42 (by omega) (by omega) (by omega) (by omega) (fun hb42 => ?_) (fun hb42 => ?_)
            · have hk2 : ∀ k, k < 8 → t9 k = tol k ∧ p9 k = rP k ∧ q9 k = rQ k ∧ f9 k = fil k := fun k hk => hk2 k (by omega)
              refine v_iconst C d_M_keep_99 ?_
              refine v_istore_n (lv' := [(1, .int (iI 0)), (0, .ref (ad 73))]) C d_M_keep_100 rfl (by decide) rfl ?_
              refine v_lv (lv' := [(0, .ref (ad 73)), (1, .int (iI 0))]) [1, 0] rfl ?_
              have L101 : ∀ (d9 : Nat) (i : Nat) (b9 : Nat → Int32) (G101 : Nat → va_E), 3848 - i < d9 → (i ≤ 3848) → (∀ k, k < i → b9 k = bns k) → (∀ r1, r1 ≠ 88 → G101 r1 = G39 r1) → G101 88 = inA cI 3848 b9 → kV p l e (rmF 0 0 0 0) s m ([.ref (ad 73)] : List Value).toArray below meth c Q s.heap B D classes 2 95 0 0 ad G101 [(0, .ref (ad 73)), (1, .int (iI (i : Int)))] [] 101 := by
                intro d9
                induction d9 with
                | zero => intro i b9 G101 hd9; exact absurd hd9 (Nat.not_lt_zero _)
                | succ d9 ih101 =>
                  intro i b9 G101 hd101 hi3 hk3 hfr101 hkb
                  have hm := (hfr101 73 (by omega)).trans hm
                  have hpic := (hfr101 74 (by omega)).trans hpic
                  have htol := (hfr101 79 (by omega)).trans htol
                  have hrP := (hfr101 80 (by omega)).trans hrP
                  have hrQ := (hfr101 81 (by omega)).trans hrQ
                  have hfil := (hfr101 82 (by omega)).trans hfil
                  have hbns := (hfr101 83 (by omega)).trans hbns
                  have hkep := (hfr101 75 (by omega)).trans hkep
                  have hkt := (hfr101 84 (by omega)).trans hkt
                  have hkP := (hfr101 85 (by omega)).trans hkP
                  have hkQ := (hfr101 86 (by omega)).trans hkQ
                  have hkf := (hfr101 87 (by omega)).trans hkf
                  refine v_iload_n C d_M_keep_101 rfl 1 rfl ?_
                  refine v_sipush C d_M_keep_102 (by decide +kernel) ?_
                  refine v_icmp_geI C d_M_keep_105 (by omega) (by omega) (by omega) (by omega) (fun hb105 => ?_) (fun hb105 => ?_)
                  · exact hret _ _ _ _ _ _ (Nat.zero_le _) (Nat.zero_le _) d_M_keep_126 ⟨k9, b9, t9, f9, p9, q9, hk1, hk2, fun k hk => hk3 k (by omega), rfl, hm, hkep, hkt, hkP, hkQ, hkf, hkb, (fun r1 n0 n1 n2 n3 n4 n5 n6 => ((hfr101 r1 n6).trans ((hfr39 r1 n2 n3 n4 n5).trans ((hfr12 r1 n1).trans ((fr4 r1 n0).trans (fr2 r1 n0))))))⟩
                  · refine v_aload_n C d_M_keep_108 rfl 0 rfl ?_
                    refine gf_M_60 C (by omega) hm rfl d_M_keep_109 ?_
                    refine v_iload_n C d_M_keep_112 rfl 1 rfl ?_
                    refine v_aload_n C d_M_keep_113 rfl 0 rfl ?_
                    refine gf_M_45 C (by omega) hm rfl d_M_keep_114 ?_
                    refine v_iload_n C d_M_keep_117 rfl 1 rfl ?_
                    refine v_iald C 0 (by omega) hbns rfl (i : Nat) (by omega) (by omega) (by omega) d_M_keep_118 ?_
                    refine v_iast C 0 (by omega) hkb rfl (i : Nat) (by omega) (by omega) (by omega) d_M_keep_119 (fun g5 hkb fr6 => ?_)
                    have hm := (fr6 73 (by omega)).trans hm
                    have hpic := (fr6 74 (by omega)).trans hpic
                    have htol := (fr6 79 (by omega)).trans htol
                    have hrP := (fr6 80 (by omega)).trans hrP
                    have hrQ := (fr6 81 (by omega)).trans hrQ
                    have hfil := (fr6 82 (by omega)).trans hfil
                    have hbns := (fr6 83 (by omega)).trans hbns
                    have hkep := (fr6 75 (by omega)).trans hkep
                    have hkt := (fr6 84 (by omega)).trans hkt
                    have hkP := (fr6 85 (by omega)).trans hkP
                    have hkQ := (fr6 86 (by omega)).trans hkQ
                    have hkf := (fr6 87 (by omega)).trans hkf
                    refine v_iinc (lv' := [(1, .int (iI ((i : Int) + 1))), (0, .ref (ad 73))]) C d_M_keep_120 1 rfl (by decide) rfl ?_
                    refine v_goto C d_M_keep_123 ?_
                    refine v_lv (lv' := [(0, .ref (ad 73)), (1, .int (iI ((i : Int) + 1)))]) [1, 0] rfl ?_
                    exact ih101 (i + 1) _ _ (by omega) (by omega) (fun k hk => by by_cases e9 : k = i; (subst e9; rw [pk_us]); rw [pk_un e9]; exact hk3 k (by omega)) (fun r1 n0 => ((fr6 r1 n0).trans (hfr101 r1 n0))) hkb
              exact L101 _ 0 kb _ (Nat.lt_succ_self _) (by omega) (fun k hk => absurd hk (by omega)) (fun r1 _ => rfl) hkb
            · refine v_aload_n C d_M_keep_45 rfl 0 rfl ?_
              refine gf_M_48 C (by omega) hm rfl d_M_keep_46 ?_
              refine v_iload_n C d_M_keep_49 rfl 1 rfl ?_
              refine v_aload_n C d_M_keep_50 rfl 0 rfl ?_
              refine gf_M_33 C (by omega) hm rfl d_M_keep_51 ?_
              refine v_iload_n C d_M_keep_54 rfl 1 rfl ?_
              refine v_zaldB C 1 (by omega) htol rfl (j : Nat) (by omega) (by omega) (by omega) d_M_keep_55 ?_
              refine v_zastB (tol (j : Nat)) C 1 (by omega) hkt rfl (j : Nat) (by omega) (by omega) (by omega) d_M_keep_56 (fun g7 hkt fr8 => ?_)
              have hm := (fr8 73 (by omega)).trans hm
              have hpic := (fr8 74 (by omega)).trans hpic
              have htol := (fr8 79 (by omega)).trans htol
              have hrP := (fr8 80 (by omega)).trans hrP
              have hrQ := (fr8 81 (by omega)).trans hrQ
              have hfil := (fr8 82 (by omega)).trans hfil
              have hbns := (fr8 83 (by omega)).trans hbns
              have hkb := (fr8 88 (by omega)).trans hkb
              have hkep := (fr8 75 (by omega)).trans hkep
              have hkP := (fr8 85 (by omega)).trans hkP
              have hkQ := (fr8 86 (by omega)).trans hkQ
              have hkf := (fr8 87 (by omega)).trans hkf
              refine v_aload_n C d_M_keep_57 rfl 0 rfl ?_
              refine gf_M_51 C (by omega) hm rfl d_M_keep_58 ?_
              refine v_iload_n C d_M_keep_61 rfl 1 rfl ?_
              refine v_aload_n C d_M_keep_62 rfl 0 rfl ?_
              refine gf_M_36 C (by omega) hm rfl d_M_keep_63 ?_
              refine v_iload_n C d_M_keep_66 rfl 1 rfl ?_
              refine v_ialdI C 0 (by omega) hrP rfl (j : Nat) (by omega) (by omega) (by omega) d_M_keep_67 ?_
              refine v_iastI C 0 (by omega) hkP rfl (j : Nat) (by omega) (by omega) (by omega) d_M_keep_68 (fun g9 hkP fr10 => ?_)
              have hm := (fr10 73 (by omega)).trans hm
              have hpic := (fr10 74 (by omega)).trans hpic
              have htol := (fr10 79 (by omega)).trans htol
              have hrP := (fr10 80 (by omega)).trans hrP
              have hrQ := (fr10 81 (by omega)).trans hrQ
              have hfil := (fr10 82 (by omega)).trans hfil
              have hbns := (fr10 83 (by omega)).trans hbns
              have hkb := (fr10 88 (by omega)).trans hkb
              have hkep := (fr10 75 (by omega)).trans hkep
              have hkt := (fr10 84 (by omega)).trans hkt
              have hkQ := (fr10 86 (by omega)).trans hkQ
              have hkf := (fr10 87 (by omega)).trans hkf
              refine v_aload_n C d_M_keep_69 rfl 0 rfl ?_
              refine gf_M_54 C (by omega) hm rfl d_M_keep_70 ?_
              refine v_iload_n C d_M_keep_73 rfl 1 rfl ?_
              refine v_aload_n C d_M_keep_74 rfl 0 rfl ?_
              refine gf_M_39 C (by omega) hm rfl d_M_keep_75 ?_
              refine v_iload_n C d_M_keep_78 rfl 1 rfl ?_
              refine v_ialdI C 0 (by omega) hrQ rfl (j : Nat) (by omega) (by omega) (by omega) d_M_keep_79 ?_
              refine v_iastI C 0 (by omega) hkQ rfl (j : Nat) (by omega) (by omega) (by omega) d_M_keep_80 (fun g11 hkQ fr12 => ?_)
              have hm := (fr12 73 (by omega)).trans hm
              have hpic := (fr12 74 (by omega)).trans hpic
              have htol := (fr12 79 (by omega)).trans htol
              have hrP := (fr12 80 (by omega)).trans hrP
              have hrQ := (fr12 81 (by omega)).trans hrQ
              have hfil := (fr12 82 (by omega)).trans hfil
              have hbns := (fr12 83 (by omega)).trans hbns
              have hkb := (fr12 88 (by omega)).trans hkb
              have hkep := (fr12 75 (by omega)).trans hkep
              have hkt := (fr12 84 (by omega)).trans hkt
              have hkP := (fr12 85 (by omega)).trans hkP
              have hkf := (fr12 87 (by omega)).trans hkf
              refine v_aload_n C d_M_keep_81 rfl 0 rfl ?_
              refine gf_M_57 C (by omega) hm rfl d_M_keep_82 ?_
              refine v_iload_n C d_M_keep_85 rfl 1 rfl ?_
              refine v_aload_n C d_M_keep_86 rfl 0 rfl ?_
              refine gf_M_42 C (by omega) hm rfl d_M_keep_87 ?_
              refine v_iload_n C d_M_keep_90 rfl 1 rfl ?_
              refine v_zaldB C 1 (by omega) hfil rfl (j : Nat) (by omega) (by omega) (by omega) d_M_keep_91 ?_
              refine v_zastB (fil (j : Nat)) C 1 (by omega) hkf rfl (j : Nat) (by omega) (by omega) (by omega) d_M_keep_92 (fun g13 hkf fr14 => ?_)
              have hm := (fr14 73 (by omega)).trans hm
              have hpic := (fr14 74 (by omega)).trans hpic
              have htol := (fr14 79 (by omega)).trans htol
              have hrP := (fr14 80 (by omega)).trans hrP
              have hrQ := (fr14 81 (by omega)).trans hrQ
              have hfil := (fr14 82 (by omega)).trans hfil
              have hbns := (fr14 83 (by omega)).trans hbns
              have hkb := (fr14 88 (by omega)).trans hkb
              have hkep := (fr14 75 (by omega)).trans hkep
              have hkt := (fr14 84 (by omega)).trans hkt
              have hkP := (fr14 85 (by omega)).trans hkP
              have hkQ := (fr14 86 (by omega)).trans hkQ
              refine v_iinc (lv' := [(1, .int (iI ((j : Int) + 1))), (0, .ref (ad 73))]) C d_M_keep_93 1 rfl (by decide) rfl ?_
              refine v_goto C d_M_keep_96 ?_
              refine v_lv (lv' := [(0, .ref (ad 73)), (1, .int (iI ((j : Int) + 1)))]) [1, 0] rfl ?_
              exact ih39 (j + 1) _ _ _ _ _ (by omega) (by omega) (fun k hk => by by_cases e9 : k = j; (subst e9; rw [uP_s, uP_s, uP_s, uP_s]; exact ⟨rfl, rfl, rfl, rfl⟩); rw [uP_n e9, uP_n e9, uP_n e9, uP_n e9]; exact hk2 k (by omega)) (fun r1 n0 n1 n2 n3 => ((fr14 r1 n3).trans ((fr12 r1 n2).trans ((fr10 r1 n1).trans ((fr8 r1 n0).trans (hfr39 r1 n0 n1 n2 n3)))))) hkt hkP hkQ hkf
        exact L39 _ 0 kt kP kQ kf _ (Nat.lt_succ_self _) (by omega) (fun k hk => absurd hk (by omega)) (fun r1 _ _ _ _ => rfl) hkt hkP hkQ hkf
      · refine v_aload_n C d_M_keep_19 rfl 0 rfl ?_
        refine gf_M_20 C (by omega) hm rfl d_M_keep_20 ?_
        refine v_iload_n C d_M_keep_23 rfl 1 rfl ?_
        refine v_aload_n C d_M_keep_24 rfl 0 rfl ?_
        refine gf_M_16 C (by omega) hm rfl d_M_keep_25 ?_
        refine v_iload_n C d_M_keep_28 rfl 1 rfl ?_
        refine v_iald C 0 (by omega) hpic rfl (i : Nat) (by omega) (by omega) (by omega) d_M_keep_29 ?_
        refine v_iast C 0 (by omega) hkep rfl (i : Nat) (by omega) (by omega) (by omega) d_M_keep_30 (fun g15 hkep fr16 => ?_)
        have hm := (fr16 73 (by omega)).trans hm
        have hpic := (fr16 74 (by omega)).trans hpic
        have htol := (fr16 79 (by omega)).trans htol
        have hrP := (fr16 80 (by omega)).trans hrP
        have hrQ := (fr16 81 (by omega)).trans hrQ
        have hfil := (fr16 82 (by omega)).trans hfil
        have hbns := (fr16 83 (by omega)).trans hbns
        have hkt := (fr16 84 (by omega)).trans hkt
        have hkP := (fr16 85 (by omega)).trans hkP
        have hkQ := (fr16 86 (by omega)).trans hkQ
        have hkf := (fr16 87 (by omega)).trans hkf
        have hkb := (fr16 88 (by omega)).trans hkb
        refine v_iinc (lv' := [(1, .int (iI ((i : Int) + 1))), (0, .ref (ad 73))]) C d_M_keep_31 1 rfl (by decide) rfl ?_
        refine v_goto C d_M_keep_34 ?_
        refine v_lv (lv' := [(0, .ref (ad 73)), (1, .int (iI ((i : Int) + 1)))]) [1, 0] rfl ?_
        exact ih12 (i + 1) _ _ (by omega) (by omega) (fun k hk => by by_cases e9 : k = i; (subst e9; rw [pk_us]); rw [pk_un e9]; exact hk1 k (by omega)) (fun r1 n0 => ((fr16 r1 n0).trans (hfr12 r1 n0))) hkep
  exact L12 _ 0 kep _ (Nat.lt_succ_self _) (by omega) (fun k hk => absurd hk (by omega)) (fun r1 _ => rfl) hkep
set_option maxHeartbeats 1000000 in
set_option maxRecDepth 100000 in
theorem c_Madd (l : Launch) {B : Nat} {D : va_G} {cI cZ cL cS cW : ClassId} {ad : Nat → Nat} {g : Nat → va_E} (th : Int) (w h : Nat) (kp hb : Bool) (tr sq wm : Int) (b : Bool) (hm : g 73 = mE ad th w h kp hb tr sq wm) (pic : Nat → Int32) (hpic : g 74 = inA cI 256 pic) (kep : Nat → Int32) (hkep : g 75 = inA cI 256 kep) (tol : Nat → Bool) (htol : g 79 = inA cZ 8 (bA tol)) (rP : Nat → Int) (hrP : g 80 = inA cI 8 (jA rP)) (rQ : Nat → Int) (hrQ : g 81 = inA cI 8 (jA rQ)) (fil : Nat → Bool) (hfil : g 82 = inA cZ 8 (bA fil)) (bns : Nat → Int32) (hbns : g 83 = inA cI 3848 bns) (kt : Nat → Bool) (hkt : g 84 = inA cZ 8 (bA kt)) (kP : Nat → Int) (hkP : g 85 = inA cI 8 (jA kP)) (kQ : Nat → Int) (hkQ : g 86 = inA cI 8 (jA kQ)) (kf : Nat → Bool) (hkf : g 87 = inA cZ 8 (bA kf)) (kb : Nat → Int32) (hkb : g 88 = inA cI 3848 kb) (hPQ : ∀ j, j < 8 → okD (rP j) (rQ j)) (hKPQ : ∀ j, j < 8 → okD (kP j) (kQ j)) : Met l y_M_add (Cond.code y_M_add b_M_add 6 (some .int) :: wG) (rmF 1 40 0 0) (wPc B D classes (tyL cI cZ cL cS cW) (Zs B) 95 [.ref (ad 73), .int (bI b)] ad g) (QI B D classes 95 (fun v ad1 g1 => (kp = false ∧ g1 73 = mE ad 1 w h kp hb tr sq wm ∧ ad = ad1 ∧ ∀ r1, r1 ≠ 73 → g1 r1 = g r1) ∨ (kp = true ∧ ∃ (l1 : Nat → Bool) (bn1 : Nat → Int32), v = iI ((cN 8 (fun i => if (fil i && (kt i && kf i && decide (kP i = rP i ∧ kQ i = rQ i))) = true then 1 else 0) : Nat) : Int) ∧ (∀ i, i < 8 → l1 i = (fil i && (kt i && kf i && decide (kP i = rP i ∧ kQ i = rQ i)))) ∧ (∀ i, i < 8 → ∀ k, k < 481 → bn1 (481 * i + k) = if (fil i && (kt i && kf i && decide (kP i = rP i ∧ kQ i = rQ i))) = true then bns (481 * i + k) + sg b (kb (481 * i + k)) else bns (481 * i + k)) ∧ ad = ad1 ∧ g1 73 = mE ad 0 w h kp hb tr sq wm ∧ g1 74 = inA cI 256 (addF b pic kep 256) ∧ g1 82 = inA cZ 8 (bA l1) ∧ g1 83 = inA cI 3848 bn1 ∧ ∀ r1, r1 ≠ 73 → r1 ≠ 74 → r1 ≠ 82 → r1 ≠ 83 → g1 r1 = g r1))) 0 0 (aB B) := by
  refine ofI (own := R_M) (by decide) rfl (Nat.le_of_ble_eq_true rfl) ?_
  intro p e s m below meth c Q C hnm hret
  change kV _ _ _ _ _ _ _ _ _ _ _ _ _ _ _ _ _ _ _ _ _ [(0, .ref (ad 73)), (1, .int (bI b))] _ _
  refine v_aload_n C d_M_add_0 rfl 0 rfl ?_
  have J13 : ∀ a : Bool, (a = true ↔ kp = false) → kV p l e (rmF 1 40 0 0) s m ([.ref (ad 73), .int (bI b)] : List Value).toArray below meth c Q s.heap B D classes 6 95 0 0 ad g [(0, .ref (ad 73)), (1, .int (bI b))] [.int (bI a), .ref (ad 73)] 13 := by
    intro a ha
    refine v_iconst C d_M_add_13 ?_
    refine v_callVI (As := [.int (bI a), .int (bI false)]) (st := []) (by omega) hm rfl rfl C (c_throwing l th w h kp hb tr sq wm a false hm) (lk_M_88 C.1.2.2.2.2 rfl rfl ⟨Nat.le_of_ble_eq_true rfl, Nat.le_of_ble_eq_true rfl⟩) rfl rfl (Nat.le_of_ble_eq_true rfl) d_M_add_14 ⟨Nat.le_of_ble_eq_true rfl, Nat.le_of_ble_eq_true rfl⟩ (fun w1 ad1 g1 hp1 => ?_)
    obtain ⟨vt1, rfl, hc1, rfl, fr1⟩ := hp1
    rcases hc1 with ⟨ta14, rfl, hm⟩ | ⟨ta14, tb14, rfl, hm⟩ | ⟨ta14, tb14, rfl, hm⟩
    · -- way 1
      have hpic := (fr1 74 (by omega)).trans hpic
      have hkep := (fr1 75 (by omega)).trans hkep
      have htol := (fr1 79 (by omega)).trans htol
      have hrP := (fr1 80 (by omega)).trans hrP
      have hrQ := (fr1 81 (by omega)).trans hrQ
      have hfil := (fr1 82 (by omega)).trans hfil
      have hbns := (fr1 83 (by omega)).trans hbns
      have hkt := (fr1 84 (by omega)).trans hkt
      have hkP := (fr1 85 (by omega)).trans hkP
      have hkQ := (fr1 86 (by omega)).trans hkQ
      have hkf := (fr1 87 (by omega)).trans hkf
      have hkb := (fr1 88 (by omega)).trans hkb
      refine v_if_eqB C d_M_add_17 (fun hz9 => absurd hz9 (by decide)) (fun _ => ?_)
      refine v_iconst C d_M_add_20 ?_
      exact hret _ _ _ _ _ _ _ (Nat.zero_le _) (Nat.zero_le _) d_M_add_21 (Or.inl ⟨ha.mp ta14, hm, rfl, (fun r1 n0 => (fr1 r1 n0))⟩)
    · exact absurd tb14 (by decide)
    · -- way 3
      have hpic := (fr1 74 (by omega)).trans hpic
      have hkep := (fr1 75 (by omega)).trans hkep
      have htol := (fr1 79 (by omega)).trans htol
      have hrP := (fr1 80 (by omega)).trans hrP
      have hrQ := (fr1 81 (by omega)).trans hrQ
      have hfil := (fr1 82 (by omega)).trans hfil
      have hbns := (fr1 83 (by omega)).trans hbns
      have hkt := (fr1 84 (by omega)).trans hkt
      have hkP := (fr1 85 (by omega)).trans hkP
      have hkQ := (fr1 86 (by omega)).trans hkQ
      have hkf := (fr1 87 (by omega)).trans hkf
      have hkb := (fr1 88 (by omega)).trans hkb
      refine v_if_eqB C d_M_add_17 (fun _ => ?_) (fun hz9 => absurd hz9 (by decide))
      refine v_iconst C d_M_add_22 ?_
      refine v_istore_n (lv' := [(2, .int (iI 0)), (0, .ref (ad 73)), (1, .int (bI b))]) C d_M_add_23 rfl (by decide) rfl ?_
      refine v_lv (lv' := [(0, .ref (ad 73)), (1, .int (bI b)), (2, .int (iI 0))]) [1, 2, 0] rfl ?_
      have L24 : ∀ (d9 : Nat) (i : Nat) (G24 : Nat → va_E), 256 - i < d9 → (i ≤ 256) → (∀ r1, r1 ≠ 74 → G24 r1 = g1 r1) → G24 74 = inA cI 256 (addF b pic kep i) → kV p l e (rmF 1 40 0 0) s m ([.ref (ad 73), .int (bI b)] : List Value).toArray below meth c Q s.heap B D classes 6 95 0 0 ad G24 [(0, .ref (ad 73)), (1, .int (bI b)), (2, .int (iI (i : Int)))] [] 24 := by
        intro d9
        induction d9 with
        | zero => intro i G24 hd9; exact absurd hd9 (Nat.not_lt_zero _)
        | succ d9 ih24 =>
          intro i G24 hd24 hi hfr24 hpic
          have hm := (hfr24 73 (by omega)).trans hm
          have hkep := (hfr24 75 (by omega)).trans hkep
          have htol := (hfr24 79 (by omega)).trans htol
          have hrP := (hfr24 80 (by omega)).trans hrP
          have hrQ := (hfr24 81 (by omega)).trans hrQ
          have hfil := (hfr24 82 (by omega)).trans hfil
          have hbns := (hfr24 83 (by omega)).trans hbns
          have hkt := (hfr24 84 (by omega)).trans hkt
          have hkP := (hfr24 85 (by omega)).trans hkP
          have hkQ := (hfr24 86 (by omega)).trans hkQ
          have hkf := (hfr24 87 (by omega)).trans hkf
          have hkb := (hfr24 88 (by omega)).trans hkb
          refine v_iload_n C d_M_add_24 rfl 2 rfl ?_
          refine v_sipush C d_M_add_25 (by decide +kernel) ?_
          refine v_icmp_geI C d_M_add_28 (by omega) (by omega) (by omega) (by omega) (fun hb28 => ?_) (fun hb28 => ?_)
          · have hi8 : i = 256 := by omega
            rw [hi8] at hpic
            have hkp : kp = true := by cases q : kp; (exact absurd (ha.mpr q) (by rw [ta14]; decide)); rfl
            refine v_iconst C d_M_add_66 ?_
            refine v_istore_n (lv' := [(2, .int (iI 0)), (0, .ref (ad 73)), (1, .int (bI b))]) C d_M_add_67 rfl (by decide) rfl ?_
            refine v_iconst C d_M_add_68 ?_
            refine v_istore_n (lv' := [(3, .int (iI 0)), (2, .int (iI 0)), (0, .ref (ad 73)), (1, .int (bI b))]) C d_M_add_69 rfl (by decide) rfl ?_
            refine v_lv (lv' := [(0, .ref (ad 73)), (1, .int (bI b)), (2, .int (iI 0)), (3, .int (iI 0))]) [2, 3, 1, 0] rfl ?_
            have L70 : ∀ (d9 : Nat) (j : Nat) (nn : Int) (fl9 : Nat → Bool) (bn9 : Nat → Int32) (G70 : Nat → va_E), 8 - j < d9 → (j ≤ 8) → (nn = ((cN j (fun i => if (fil i && (kt i && kf i && decide (kP i = rP i ∧ kQ i = rQ i))) = true then 1 else 0) : Nat) : Int)) → (∀ i, i < 8 → fl9 i = if i < j then (fil i && (kt i && kf i && decide (kP i = rP i ∧ kQ i = rQ i))) else fil i) → (∀ i, i < 8 → ∀ k, k < 481 → bn9 (481 * i + k) = if i < j ∧ (fun i => (fil i && (kt i && kf i && decide (kP i = rP i ∧ kQ i = rQ i)))) i = true then bns (481 * i + k) + sg b (kb (481 * i + k)) else bns (481 * i + k)) → (∀ r1, r1 ≠ 82 → r1 ≠ 83 → G70 r1 = G24 r1) → G70 82 = inA cZ 8 (bA fl9) → G70 83 = inA cI 3848 bn9 → kV p l e (rmF 1 40 0 0) s m ([.ref (ad 73), .int (bI b)] : List Value).toArray below meth c Q s.heap B D classes 6 95 0 0 ad G70 [(0, .ref (ad 73)), (1, .int (bI b)), (2, .int (iI nn)), (3, .int (iI (j : Int)))] [] 70 := by
              intro d9
              induction d9 with
              | zero => intro j nn fl9 bn9 G70 hd9; exact absurd hd9 (Nat.not_lt_zero _)
              | succ d9 ih70 =>
                intro j nn fl9 bn9 G70 hd70 hj hnn hf9 hb9 hfr70 hfil hbns
                have hm := (hfr70 73 (by omega) (by omega)).trans hm
                have hkep := (hfr70 75 (by omega) (by omega)).trans hkep
                have htol := (hfr70 79 (by omega) (by omega)).trans htol
                have hrP := (hfr70 80 (by omega) (by omega)).trans hrP
                have hrQ := (hfr70 81 (by omega) (by omega)).trans hrQ
                have hkt := (hfr70 84 (by omega) (by omega)).trans hkt
                have hkP := (hfr70 85 (by omega) (by omega)).trans hkP
                have hkQ := (hfr70 86 (by omega) (by omega)).trans hkQ
                have hkf := (hfr70 87 (by omega) (by omega)).trans hkf
                have hkb := (hfr70 88 (by omega) (by omega)).trans hkb
                have hpic := (hfr70 74 (by omega) (by omega)).trans hpic
                refine v_iload_n C d_M_add_70 rfl 3 rfl ?_
                refine v_bipush C d_M_add_71 (by decide +kernel) ?_
                refine v_icmp_geI C d_M_add_73 (by omega) (by omega) (by omega) (by omega) (fun hb73 => ?_) (fun hb73 => ?_)
                · refine v_iload_n C d_M_add_247 rfl 2 rfl ?_
                  have hj8 : j = 8 := by omega
                  subst hj8
                  exact hret _ _ _ _ _ _ _ (Nat.zero_le _) (Nat.zero_le _) d_M_add_248 (Or.inr ⟨hkp, fl9, bn9, by rw [hnn], fun i hi => by rw [hf9 i hi, if_pos hi], fun i hi k hk => by rw [hb9 i hi k hk]; by_cases e9 : (fil i && (kt i && kf i && decide (kP i = rP i ∧ kQ i = rQ i))) = true; (rw [if_pos ⟨hi, e9⟩, if_pos e9]); rw [if_neg (fun z => e9 z.2), if_neg e9], rfl, hm, hpic, hfil, hbns, (fun r1 n0 n1 n2 n3 => ((hfr70 r1 n2 n3).trans ((hfr24 r1 n1).trans (fr1 r1 n0))))⟩)
                · have J129 : ∀ sm : Bool, (sm = (kt j && kf j && decide (kP j = rP j ∧ kQ j = rQ j))) → kV p l e (rmF 1 40 0 0) s m ([.ref (ad 73), .int (bI b)] : List Value).toArray below meth c Q s.heap B D classes 6 95 0 0 ad G70 [(0, .ref (ad 73)), (1, .int (bI b)), (2, .int (iI nn)), (3, .int (iI (j : Int)))] [.int (bI sm)] 129 := by
                    intro sm hsm
                    refine v_istore (lv' := [(4, .int (bI sm)), (0, .ref (ad 73)), (1, .int (bI b)), (2, .int (iI nn)), (3, .int (iI (j : Int)))]) C d_M_add_129 (by decide) rfl ?_
                    refine v_aload_n C d_M_add_131 rfl 1 rfl ?_
                    refine gf_M_42 C (by omega) hm rfl d_M_add_132 ?_
                    refine v_iload_n C d_M_add_135 rfl 4 rfl ?_
                    have J155 : ∀ fl : Bool, (fl = (fl9 j && sm)) → kV p l e (rmF 1 40 0 0) s m ([.ref (ad 73), .int (bI b)] : List Value).toArray below meth c Q s.heap B D classes 6 95 0 0 ad G70 [(4, .int (bI sm)), (0, .ref (ad 73)), (1, .int (bI b)), (2, .int (iI nn)), (3, .int (iI (j : Int)))] [.int (bI fl), .int (iI (j : Int)), .ref (ad 82)] 155 := by
                      intro fl hfl
                      refine v_zastB fl C 1 (by omega) hfil rfl (j : Nat) (by omega) (by omega) (by omega) d_M_add_155 (fun g2 hfil fr3 => ?_)
                      have hm := (fr3 73 (by omega)).trans hm
                      have hkep := (fr3 75 (by omega)).trans hkep
                      have htol := (fr3 79 (by omega)).trans htol
                      have hrP := (fr3 80 (by omega)).trans hrP
                      have hrQ := (fr3 81 (by omega)).trans hrQ
                      have hkt := (fr3 84 (by omega)).trans hkt
                      have hkP := (fr3 85 (by omega)).trans hkP
                      have hkQ := (fr3 86 (by omega)).trans hkQ
                      have hkf := (fr3 87 (by omega)).trans hkf
                      have hkb := (fr3 88 (by omega)).trans hkb
                      have hpic := (fr3 74 (by omega)).trans hpic
                      have hbns := (fr3 83 (by omega)).trans hbns
                      have hFL : fl = (fun i => (fil i && (kt i && kf i && decide (kP i = rP i ∧ kQ i = rQ i)))) j := by rw [hfl, hsm, hf9 j (by omega), if_neg (Nat.lt_irrefl j)]
                      have hread : (uP fl9 j fl) j = fl := uP_s
                      refine v_sipush C d_M_add_156 (by decide +kernel) ?_
                      refine v_iload_n C d_M_add_159 rfl 4 rfl ?_
                      refine v_imulI C d_M_add_160 ?_
                      refine v_istore (lv' := [(5, .int (iI (481 * (j : Int)))), (4, .int (bI sm)), (0, .ref (ad 73)), (1, .int (bI b)), (2, .int (iI nn)), (3, .int (iI (j : Int)))]) C d_M_add_161 (by decide) rfl ?_
                      refine v_lv (lv' := [(0, .ref (ad 73)), (1, .int (bI b)), (2, .int (iI nn)), (3, .int (iI (j : Int))), (5, .int (iI (481 * (j : Int))))]) [2, 3, 4, 5, 0] rfl ?_
                      have L163 : ∀ (d9 : Nat) (q : Nat) (G163 : Nat → va_E), 481 * j + 481 - q < d9 → (481 * j ≤ q ∧ q ≤ 481 * j + 481) → (fl = false → q = 481 * j) → (∀ r1, r1 ≠ 83 → G163 r1 = g2 r1) → G163 83 = inA cI 3848 (addG b bn9 kb (481 * j) q) → kV p l e (rmF 1 40 0 0) s m ([.ref (ad 73), .int (bI b)] : List Value).toArray below meth c Q s.heap B D classes 6 95 0 0 ad G163 [(0, .ref (ad 73)), (1, .int (bI b)), (2, .int (iI nn)), (3, .int (iI (j : Int))), (5, .int (iI (q : Int)))] [] 163 := by
                        intro d9
                        induction d9 with
                        | zero => intro q G163 hd9; exact absurd hd9 (Nat.not_lt_zero _)
                        | succ d9 ih163 =>
                          intro q G163 hd163 hql hq2 hfr163 hbns
                          have hm := (hfr163 73 (by omega)).trans hm
                          have hkep := (hfr163 75 (by omega)).trans hkep
                          have htol := (hfr163 79 (by omega)).trans htol
                          have hrP := (hfr163 80 (by omega)).trans hrP
                          have hrQ := (hfr163 81 (by omega)).trans hrQ
                          have hkt := (hfr163 84 (by omega)).trans hkt
                          have hkP := (hfr163 85 (by omega)).trans hkP
                          have hkQ := (hfr163 86 (by omega)).trans hkQ
                          have hkf := (hfr163 87 (by omega)).trans hkf
                          have hkb := (hfr163 88 (by omega)).trans hkb
                          have hpic := (hfr163 74 (by omega)).trans hpic
                          have hfil := (hfr163 82 (by omega)).trans hfil
                          refine v_iload C d_M_add_163 4 rfl ?_
                          refine v_sipush C d_M_add_165 (by decide +kernel) ?_
                          refine v_iload_n C d_M_add_168 rfl 3 rfl ?_
                          refine v_imulI C d_M_add_169 ?_
                          refine v_sipush C d_M_add_170 (by decide +kernel) ?_
                          refine v_iaddI C d_M_add_173 ?_
                          refine v_icmp_geI C d_M_add_174 (by omega) (by omega) (by omega) (by omega) (fun hb174 => ?_) (fun hb174 => ?_)
                          · have hq9 : (fl = true → q = 481 * j + 481) ∧ (fl = false → q = 481 * j) := by first | exact ⟨fun z => absurd ((hread.trans z).symm.trans hb183) (by decide), hq2⟩ | exact ⟨fun _ => by omega, hq2⟩
                            refine v_iload_n C d_M_add_224 rfl 2 rfl ?_
                            refine v_aload_n C d_M_add_225 rfl 0 rfl ?_
                            refine gf_M_42 C (by omega) hm rfl d_M_add_226 ?_
                            refine v_iload_n C d_M_add_229 rfl 3 rfl ?_
                            refine v_zaldB C 1 (by omega) hfil rfl (j : Nat) (by omega) (by omega) (by omega) d_M_add_230 ?_
                            refine v_if_eqB C d_M_add_231 (fun hb231 => ?_) (fun hb231 => ?_)
                            · refine v_iconst C d_M_add_238 ?_
                              refine v_iaddI C d_M_add_239 ?_
                              refine v_istore_n (lv' := [(2, .int (iI (nn + 0))), (0, .ref (ad 73)), (1, .int (bI b)), (3, .int (iI (j : Int))), (5, .int (iI (q : Int)))]) C d_M_add_240 rfl (by decide) rfl ?_
                              refine v_iinc (lv' := [(3, .int (iI ((j : Int) + 1))), (2, .int (iI (nn + 0))), (0, .ref (ad 73)), (1, .int (bI b)), (5, .int (iI (q : Int)))]) C d_M_add_241 3 rfl (by decide) rfl ?_
                              refine v_goto C d_M_add_244 ?_
                              refine v_lv (lv' := [(0, .ref (ad 73)), (1, .int (bI b)), (2, .int (iI (nn + 0))), (3, .int (iI ((j : Int) + 1)))]) [2, 3, 1, 0] rfl ?_
                              exact ih70 (j + 1) (nn + 0) _ _ _ (by omega) (by omega) (by rw [cN_s, if_neg (fun z9 => absurd ((hFL.trans z9).symm.trans (hread.symm.trans hb231)) (by decide)), hnn]; omega) (fun i hi => by by_cases e9 : i = j; (subst e9; rw [uP_s, if_pos (Nat.lt_succ_self _)]; exact hFL); rw [uP_n e9, hf9 i hi]; by_cases e8 : i < j; (rw [if_pos e8, if_pos (by omega)]); rw [if_neg e8, if_neg (by omega)]) (add_row (FL := (fun i => (fil i && (kt i && kf i && decide (kP i = rP i ∧ kQ i = rQ i))))) hb9 (fun z => hq9.1 (hFL.trans z)) (fun z => hq9.2 (hFL.trans z))) (fun r1 n0 n1 => ((hfr163 r1 n1).trans ((fr3 r1 n0).trans (hfr70 r1 n0 n1)))) hfil hbns
                            · refine v_iconst C d_M_add_234 ?_
                              refine v_goto C d_M_add_235 ?_
                              refine v_iaddI C d_M_add_239 ?_
                              refine v_istore_n (lv' := [(2, .int (iI (nn + 1))), (0, .ref (ad 73)), (1, .int (bI b)), (3, .int (iI (j : Int))), (5, .int (iI (q : Int)))]) C d_M_add_240 rfl (by decide) rfl ?_
                              refine v_iinc (lv' := [(3, .int (iI ((j : Int) + 1))), (2, .int (iI (nn + 1))), (0, .ref (ad 73)), (1, .int (bI b)), (5, .int (iI (q : Int)))]) C d_M_add_241 3 rfl (by decide) rfl ?_
                              refine v_goto C d_M_add_244 ?_
                              refine v_lv (lv' := [(0, .ref (ad 73)), (1, .int (bI b)), (2, .int (iI (nn + 1))), (3, .int (iI ((j : Int) + 1)))]) [2, 3, 1, 0] rfl ?_
                              exact ih70 (j + 1) (nn + 1) _ _ _ (by omega) (by omega) (by rw [cN_s, if_pos (hFL.symm.trans (hread.symm.trans hb231)), hnn]; omega) (fun i hi => by by_cases e9 : i = j; (subst e9; rw [uP_s, if_pos (Nat.lt_succ_self _)]; exact hFL); rw [uP_n e9, hf9 i hi]; by_cases e8 : i < j; (rw [if_pos e8, if_pos (by omega)]); rw [if_neg e8, if_neg (by omega)]) (add_row (FL := (fun i => (fil i && (kt i && kf i && decide (kP i = rP i ∧ kQ i = rQ i))))) hb9 (fun z => hq9.1 (hFL.trans z)) (fun z => hq9.2 (hFL.trans z))) (fun r1 n0 n1 => ((hfr163 r1 n1).trans ((fr3 r1 n0).trans (hfr70 r1 n0 n1)))) hfil hbns
                          · refine v_aload_n C d_M_add_177 rfl 0 rfl ?_
                            refine gf_M_42 C (by omega) hm rfl d_M_add_178 ?_
                            refine v_iload_n C d_M_add_181 rfl 3 rfl ?_
                            refine v_zaldB C 1 (by omega) hfil rfl (j : Nat) (by omega) (by omega) (by omega) d_M_add_182 ?_
                            refine v_if_eqB C d_M_add_183 (fun hb183 => ?_) (fun hb183 => ?_)
                            · have hq9 : (fl = true → q = 481 * j + 481) ∧ (fl = false → q = 481 * j) := by first | exact ⟨fun z => absurd ((hread.trans z).symm.trans hb183) (by decide), hq2⟩ | exact ⟨fun _ => by omega, hq2⟩
                              refine v_iload_n C d_M_add_224 rfl 2 rfl ?_
                              refine v_aload_n C d_M_add_225 rfl 0 rfl ?_
                              refine gf_M_42 C (by omega) hm rfl d_M_add_226 ?_
                              refine v_iload_n C d_M_add_229 rfl 3 rfl ?_
                              refine v_zaldB C 1 (by omega) hfil rfl (j : Nat) (by omega) (by omega) (by omega) d_M_add_230 ?_
                              refine v_if_eqB C d_M_add_231 (fun hb231 => ?_) (fun hb231 => ?_)
                              · refine v_iconst C d_M_add_238 ?_
                                refine v_iaddI C d_M_add_239 ?_
                                refine v_istore_n (lv' := [(2, .int (iI (nn + 0))), (0, .ref (ad 73)), (1, .int (bI b)), (3, .int (iI (j : Int))), (5, .int (iI (q : Int)))]) C d_M_add_240 rfl (by decide) rfl ?_
                                refine v_iinc (lv' := [(3, .int (iI ((j : Int) + 1))), (2, .int (iI (nn + 0))), (0, .ref (ad 73)), (1, .int (bI b)), (5, .int (iI (q : Int)))]) C d_M_add_241 3 rfl (by decide) rfl ?_
                                refine v_goto C d_M_add_244 ?_
                                refine v_lv (lv' := [(0, .ref (ad 73)), (1, .int (bI b)), (2, .int (iI (nn + 0))), (3, .int (iI ((j : Int) + 1)))]) [2, 3, 1, 0] rfl ?_
                                exact ih70 (j + 1) (nn + 0) _ _ _ (by omega) (by omega) (by rw [cN_s, if_neg (fun z9 => absurd ((hFL.trans z9).symm.trans (hread.symm.trans hb231)) (by decide)), hnn]; omega) (fun i hi => by by_cases e9 : i = j; (subst e9; rw [uP_s, if_pos (Nat.lt_succ_self _)]; exact hFL); rw [uP_n e9, hf9 i hi]; by_cases e8 : i < j; (rw [if_pos e8, if_pos (by omega)]); rw [if_neg e8, if_neg (by omega)]) (add_row (FL := (fun i => (fil i && (kt i && kf i && decide (kP i = rP i ∧ kQ i = rQ i))))) hb9 (fun z => hq9.1 (hFL.trans z)) (fun z => hq9.2 (hFL.trans z))) (fun r1 n0 n1 => ((hfr163 r1 n1).trans ((fr3 r1 n0).trans (hfr70 r1 n0 n1)))) hfil hbns
                              · refine v_iconst C d_M_add_234 ?_
                                refine v_goto C d_M_add_235 ?_
                                refine v_iaddI C d_M_add_239 ?_
                                refine v_istore_n (lv' := [(2, .int (iI (nn + 1))), (0, .ref (ad 73)), (1, .int (bI b)), (3, .int (iI (j : Int))), (5, .int (iI (q : Int)))]) C d_M_add_240 rfl (by decide) rfl ?_
                                refine v_iinc (lv' := [(3, .int (iI ((j : Int) + 1))), (2, .int (iI (nn + 1))), (0, .ref (ad 73)), (1, .int (bI b)), (5, .int (iI (q : Int)))]) C d_M_add_241 3 rfl (by decide) rfl ?_
                                refine v_goto C d_M_add_244 ?_
                                refine v_lv (lv' := [(0, .ref (ad 73)), (1, .int (bI b)), (2, .int (iI (nn + 1))), (3, .int (iI ((j : Int) + 1)))]) [2, 3, 1, 0] rfl ?_
                                exact ih70 (j + 1) (nn + 1) _ _ _ (by omega) (by omega) (by rw [cN_s, if_pos (hFL.symm.trans (hread.symm.trans hb231)), hnn]; omega) (fun i hi => by by_cases e9 : i = j; (subst e9; rw [uP_s, if_pos (Nat.lt_succ_self _)]; exact hFL); rw [uP_n e9, hf9 i hi]; by_cases e8 : i < j; (rw [if_pos e8, if_pos (by omega)]); rw [if_neg e8, if_neg (by omega)]) (add_row (FL := (fun i => (fil i && (kt i && kf i && decide (kP i = rP i ∧ kQ i = rQ i))))) hb9 (fun z => hq9.1 (hFL.trans z)) (fun z => hq9.2 (hFL.trans z))) (fun r1 n0 n1 => ((hfr163 r1 n1).trans ((fr3 r1 n0).trans (hfr70 r1 n0 n1)))) hfil hbns
                            · refine v_aload_n C d_M_add_186 rfl 0 rfl ?_
                              refine gf_M_45 C (by omega) hm rfl d_M_add_187 ?_
                              refine v_iload C d_M_add_190 4 rfl ?_
                              refine v_dup2 C d_M_add_192 rfl rfl ?_
                              refine v_iald C 0 (by omega) hbns rfl (q : Nat) (by omega) (by omega) (by omega) d_M_add_193 ?_
                              refine v_iload_n C d_M_add_194 rfl 1 rfl ?_
                              refine v_if_eqB C d_M_add_195 (fun hb195 => ?_) (fun hb195 => ?_)
                              · refine v_aload_n C d_M_add_208 rfl 0 rfl ?_
                                refine gf_M_60 C (by omega) hm rfl d_M_add_209 ?_
                                refine v_iload C d_M_add_212 4 rfl ?_
                                refine v_iald C 0 (by omega) hkb rfl (q : Nat) (by omega) (by omega) (by omega) d_M_add_214 ?_
                                refine v_ineg C d_M_add_215 ?_
                                refine v_iadd C d_M_add_216 ?_
                                refine v_iast C 0 (by omega) hbns rfl (q : Nat) (by omega) (by omega) (by omega) d_M_add_217 (fun g4 hbns fr5 => ?_)
                                have hm := (fr5 73 (by omega)).trans hm
                                have hkep := (fr5 75 (by omega)).trans hkep
                                have htol := (fr5 79 (by omega)).trans htol
                                have hrP := (fr5 80 (by omega)).trans hrP
                                have hrQ := (fr5 81 (by omega)).trans hrQ
                                have hkt := (fr5 84 (by omega)).trans hkt
                                have hkP := (fr5 85 (by omega)).trans hkP
                                have hkQ := (fr5 86 (by omega)).trans hkQ
                                have hkf := (fr5 87 (by omega)).trans hkf
                                have hkb := (fr5 88 (by omega)).trans hkb
                                have hpic := (fr5 74 (by omega)).trans hpic
                                have hfil := (fr5 82 (by omega)).trans hfil
                                refine v_iinc (lv' := [(5, .int (iI ((q : Int) + 1))), (0, .ref (ad 73)), (1, .int (bI b)), (2, .int (iI nn)), (3, .int (iI (j : Int)))]) C d_M_add_218 4 rfl (by decide) rfl ?_
                                refine v_goto C d_M_add_221 ?_
                                refine v_lv (lv' := [(0, .ref (ad 73)), (1, .int (bI b)), (2, .int (iI nn)), (3, .int (iI (j : Int))), (5, .int (iI ((q : Int) + 1)))]) [1, 2, 3, 4, 0] rfl ?_
                                exact ih163 (q + 1) _ (by omega) (by omega) (fun z => absurd ((hread.trans z).symm.trans hb183) (by decide)) (fun r1 n0 => ((fr5 r1 n0).trans (hfr163 r1 n0))) (hbns.trans (by rw [addG_s hql.1 (by unfold sg; rw [hb195]; rfl)]))
                              · refine v_aload_n C d_M_add_198 rfl 0 rfl ?_
                                refine gf_M_60 C (by omega) hm rfl d_M_add_199 ?_
                                refine v_iload C d_M_add_202 4 rfl ?_
                                refine v_iald C 0 (by omega) hkb rfl (q : Nat) (by omega) (by omega) (by omega) d_M_add_204 ?_
                                refine v_goto C d_M_add_205 ?_
                                refine v_iadd C d_M_add_216 ?_
                                refine v_iast C 0 (by omega) hbns rfl (q : Nat) (by omega) (by omega) (by omega) d_M_add_217 (fun g6 hbns fr7 => ?_)
                                have hm := (fr7 73 (by omega)).trans hm
                                have hkep := (fr7 75 (by omega)).trans hkep
                                have htol := (fr7 79 (by omega)).trans htol
                                have hrP := (fr7 80 (by omega)).trans hrP
                                have hrQ := (fr7 81 (by omega)).trans hrQ
                                have hkt := (fr7 84 (by omega)).trans hkt
                                have hkP := (fr7 85 (by omega)).trans hkP
                                have hkQ := (fr7 86 (by omega)).trans hkQ
                                have hkf := (fr7 87 (by omega)).trans hkf
                                have hkb := (fr7 88 (by omega)).trans hkb
                                have hpic := (fr7 74 (by omega)).trans hpic
                                have hfil := (fr7 82 (by omega)).trans hfil
                                refine v_iinc (lv' := [(5, .int (iI ((q : Int) + 1))), (0, .ref (ad 73)), (1, .int (bI b)), (2, .int (iI nn)), (3, .int (iI (j : Int)))]) C d_M_add_218 4 rfl (by decide) rfl ?_
                                refine v_goto C d_M_add_221 ?_
                                refine v_lv (lv' := [(0, .ref (ad 73)), (1, .int (bI b)), (2, .int (iI nn)), (3, .int (iI (j : Int))), (5, .int (iI ((q : Int) + 1)))]) [1, 2, 3, 4, 0] rfl ?_
                                exact ih163 (q + 1) _ (by omega) (by omega) (fun z => absurd ((hread.trans z).symm.trans hb183) (by decide)) (fun r1 n0 => ((fr7 r1 n0).trans (hfr163 r1 n0))) (hbns.trans (by rw [addG_s hql.1 (by unfold sg; rw [hb195]; rfl)]))
                      exact L163 _ (481 * j) _ (Nat.lt_succ_self _) (by omega) (fun _ => rfl) (fun r1 _ => rfl) (hbns.trans (by rw [addG_0]))
                    refine v_aload_n C d_M_add_136 rfl 1 rfl ?_
                    refine gf_M_42 C (by omega) hm rfl d_M_add_137 ?_
                    refine v_iload_n C d_M_add_140 rfl 4 rfl ?_
                    refine v_zaldB C 1 (by omega) hfil rfl (j : Nat) (by omega) (by omega) (by omega) d_M_add_141 ?_
                    refine v_if_eqB C d_M_add_142 (fun hb142 => ?_) (fun hb142 => ?_)
                    · refine v_iconst C d_M_add_154 ?_
                      exact J155 false (by first | (rw [hb142, hb147]; rfl) | (rw [hb142]; rfl))
                    · refine v_iload C d_M_add_145 0 rfl ?_
                      refine v_if_eqB C d_M_add_147 (fun hb147 => ?_) (fun hb147 => ?_)
                      · refine v_iconst C d_M_add_154 ?_
                        exact J155 false (by first | (rw [hb142, hb147]; rfl) | (rw [hb142]; rfl))
                      · refine v_iconst C d_M_add_150 ?_
                        refine v_goto C d_M_add_151 ?_
                        exact J155 true (by rw [hb142, hb147]; rfl)
                  refine v_aload_n C d_M_add_76 rfl 0 rfl ?_
                  refine gf_M_48 C (by omega) hm rfl d_M_add_77 ?_
                  refine v_iload_n C d_M_add_80 rfl 3 rfl ?_
                  refine v_zaldB C 1 (by omega) hkt rfl (j : Nat) (by omega) (by omega) (by omega) d_M_add_81 ?_
                  refine v_if_eqB C d_M_add_82 (fun hb82 => ?_) (fun hb82 => ?_)
                  · refine v_iconst C d_M_add_128 ?_
                    exact J129 false (by first | (rw [hb82, hb91, decide_eq_false (fun q => hb121 q.2)]; rfl) | (rw [hb82, hb91, decide_eq_false (fun q => hb106 q.1)]; rfl) | (rw [hb82, hb91]; rfl) | (rw [hb82]; rfl))
                  · refine v_aload_n C d_M_add_85 rfl 0 rfl ?_
                    refine gf_M_57 C (by omega) hm rfl d_M_add_86 ?_
                    refine v_iload_n C d_M_add_89 rfl 3 rfl ?_
                    refine v_zaldB C 1 (by omega) hkf rfl (j : Nat) (by omega) (by omega) (by omega) d_M_add_90 ?_
                    refine v_if_eqB C d_M_add_91 (fun hb91 => ?_) (fun hb91 => ?_)
                    · refine v_iconst C d_M_add_128 ?_
                      exact J129 false (by first | (rw [hb82, hb91, decide_eq_false (fun q => hb121 q.2)]; rfl) | (rw [hb82, hb91, decide_eq_false (fun q => hb106 q.1)]; rfl) | (rw [hb82, hb91]; rfl) | (rw [hb82]; rfl))
                    · have hok := hPQ j (by omega)
                      have hok1 := hok.1; have hok2 := hok.2.1; have hok3 := hok.2.2.1; have hok4 := hok.2.2.2
                      obtain ⟨kk1, kk2, kk3, kk4⟩ := hKPQ j (by omega)
                      refine v_aload_n C d_M_add_94 rfl 0 rfl ?_
                      refine gf_M_51 C (by omega) hm rfl d_M_add_95 ?_
                      refine v_iload_n C d_M_add_98 rfl 3 rfl ?_
                      refine v_ialdI C 0 (by omega) hkP rfl (j : Nat) (by omega) (by omega) (by omega) d_M_add_99 ?_
                      refine v_aload_n C d_M_add_100 rfl 0 rfl ?_
                      refine gf_M_36 C (by omega) hm rfl d_M_add_101 ?_
                      refine v_iload_n C d_M_add_104 rfl 3 rfl ?_
                      refine v_ialdI C 0 (by omega) hrP rfl (j : Nat) (by omega) (by omega) (by omega) d_M_add_105 ?_
                      refine v_icmp_neI C d_M_add_106 (by omega) (by omega) (by omega) (by omega) (fun hb106 => ?_) (fun hb106 => ?_)
                      · refine v_iconst C d_M_add_128 ?_
                        exact J129 false (by first | (rw [hb82, hb91, decide_eq_false (fun q => hb121 q.2)]; rfl) | (rw [hb82, hb91, decide_eq_false (fun q => hb106 q.1)]; rfl) | (rw [hb82, hb91]; rfl) | (rw [hb82]; rfl))
                      · refine v_aload_n C d_M_add_109 rfl 0 rfl ?_
                        refine gf_M_54 C (by omega) hm rfl d_M_add_110 ?_
                        refine v_iload_n C d_M_add_113 rfl 3 rfl ?_
                        refine v_ialdI C 0 (by omega) hkQ rfl (j : Nat) (by omega) (by omega) (by omega) d_M_add_114 ?_
                        refine v_aload_n C d_M_add_115 rfl 0 rfl ?_
                        refine gf_M_39 C (by omega) hm rfl d_M_add_116 ?_
                        refine v_iload_n C d_M_add_119 rfl 3 rfl ?_
                        refine v_ialdI C 0 (by omega) hrQ rfl (j : Nat) (by omega) (by omega) (by omega) d_M_add_120 ?_
                        refine v_icmp_neI C d_M_add_121 (by omega) (by omega) (by omega) (by omega) (fun hb121 => ?_) (fun hb121 => ?_)
                        · refine v_iconst C d_M_add_128 ?_
                          exact J129 false (by first | (rw [hb82, hb91, decide_eq_false (fun q => hb121 q.2)]; rfl) | (rw [hb82, hb91, decide_eq_false (fun q => hb106 q.1)]; rfl) | (rw [hb82, hb91]; rfl) | (rw [hb82]; rfl))
                        · refine v_iconst C d_M_add_124 ?_
                          refine v_goto C d_M_add_125 ?_
                          exact J129 true (by rw [hb82, hb91, decide_eq_true ⟨hb106, hb121⟩]; rfl)
            exact L70 _ 0 0 fil bns _ (Nat.lt_succ_self _) (by omega) rfl (fun i hi => (if_neg (by omega)).symm) (fun i hi k hk => (if_neg (fun z => absurd z.1 (by omega))).symm) (fun r1 _ _ => rfl) hfil hbns
          · refine v_aload_n C d_M_add_31 rfl 0 rfl ?_
            refine gf_M_16 C (by omega) hm rfl d_M_add_32 ?_
            refine v_iload_n C d_M_add_35 rfl 2 rfl ?_
            refine v_dup2 C d_M_add_36 rfl rfl ?_
            refine v_iald C 0 (by omega) hpic rfl (i : Nat) (by omega) (by omega) (by omega) d_M_add_37 ?_
            refine v_iload_n C d_M_add_38 rfl 1 rfl ?_
            refine v_if_eqB C d_M_add_39 (fun hb39 => ?_) (fun hb39 => ?_)
            · refine v_aload_n C d_M_add_51 rfl 0 rfl ?_
              refine gf_M_20 C (by omega) hm rfl d_M_add_52 ?_
              refine v_iload_n C d_M_add_55 rfl 2 rfl ?_
              refine v_iald C 0 (by omega) hkep rfl (i : Nat) (by omega) (by omega) (by omega) d_M_add_56 ?_
              refine v_ineg C d_M_add_57 ?_
              refine v_iadd C d_M_add_58 ?_
              refine v_iast C 0 (by omega) hpic rfl (i : Nat) (by omega) (by omega) (by omega) d_M_add_59 (fun g8 hpic fr9 => ?_)
              have hm := (fr9 73 (by omega)).trans hm
              have hkep := (fr9 75 (by omega)).trans hkep
              have htol := (fr9 79 (by omega)).trans htol
              have hrP := (fr9 80 (by omega)).trans hrP
              have hrQ := (fr9 81 (by omega)).trans hrQ
              have hfil := (fr9 82 (by omega)).trans hfil
              have hbns := (fr9 83 (by omega)).trans hbns
              have hkt := (fr9 84 (by omega)).trans hkt
              have hkP := (fr9 85 (by omega)).trans hkP
              have hkQ := (fr9 86 (by omega)).trans hkQ
              have hkf := (fr9 87 (by omega)).trans hkf
              have hkb := (fr9 88 (by omega)).trans hkb
              refine v_iinc (lv' := [(2, .int (iI ((i : Int) + 1))), (0, .ref (ad 73)), (1, .int (bI b))]) C d_M_add_60 2 rfl (by decide) rfl ?_
              refine v_goto C d_M_add_63 ?_
              refine v_lv (lv' := [(0, .ref (ad 73)), (1, .int (bI b)), (2, .int (iI ((i : Int) + 1)))]) [1, 2, 0] rfl ?_
              exact ih24 (i + 1) _ (by omega) (by omega) (fun r1 n0 => ((fr9 r1 n0).trans (hfr24 r1 n0))) (hpic.trans (by rw [addF_s (by rw [hb39]; rfl)]))
            · refine v_aload_n C d_M_add_42 rfl 0 rfl ?_
              refine gf_M_20 C (by omega) hm rfl d_M_add_43 ?_
              refine v_iload_n C d_M_add_46 rfl 2 rfl ?_
              refine v_iald C 0 (by omega) hkep rfl (i : Nat) (by omega) (by omega) (by omega) d_M_add_47 ?_
              refine v_goto C d_M_add_48 ?_
              refine v_iadd C d_M_add_58 ?_
              refine v_iast C 0 (by omega) hpic rfl (i : Nat) (by omega) (by omega) (by omega) d_M_add_59 (fun g10 hpic fr11 => ?_)
              have hm := (fr11 73 (by omega)).trans hm
              have hkep := (fr11 75 (by omega)).trans hkep
              have htol := (fr11 79 (by omega)).trans htol
              have hrP := (fr11 80 (by omega)).trans hrP
              have hrQ := (fr11 81 (by omega)).trans hrQ
              have hfil := (fr11 82 (by omega)).trans hfil
              have hbns := (fr11 83 (by omega)).trans hbns
              have hkt := (fr11 84 (by omega)).trans hkt
              have hkP := (fr11 85 (by omega)).trans hkP
              have hkQ := (fr11 86 (by omega)).trans hkQ
              have hkf := (fr11 87 (by omega)).trans hkf
              have hkb := (fr11 88 (by omega)).trans hkb
              refine v_iinc (lv' := [(2, .int (iI ((i : Int) + 1))), (0, .ref (ad 73)), (1, .int (bI b))]) C d_M_add_60 2 rfl (by decide) rfl ?_
              refine v_goto C d_M_add_63 ?_
              refine v_lv (lv' := [(0, .ref (ad 73)), (1, .int (bI b)), (2, .int (iI ((i : Int) + 1)))]) [1, 2, 0] rfl ?_
              exact ih24 (i + 1) _ (by omega) (by omega) (fun r1 n0 => ((fr11 r1 n0).trans (hfr24 r1 n0))) (hpic.trans (by rw [addF_s (by rw [hb39]; rfl)]))
      exact L24 _ 0 _ (Nat.lt_succ_self _) (by omega) (fun r1 _ => rfl) (hpic.trans (by rw [addF_0]))
  refine v_aload_n C d_M_add_1 rfl 0 rfl ?_
  refine gf_M_92 C (by omega) hm rfl d_M_add_2 ?_
  refine v_if_neB C d_M_add_5 (fun hb5 => ?_) (fun hb5 => ?_)
  · refine v_iconst C d_M_add_12 ?_
    exact J13 false ⟨fun q => absurd q (by decide), fun q => absurd (hb5.symm.trans q) (by decide)⟩
  · refine v_iconst C d_M_add_8 ?_
    refine v_goto C d_M_add_9 ?_
    exact J13 true ⟨fun _ => hb5, fun _ => rfl⟩
