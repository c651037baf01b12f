theorem i32_sub0 {a b : Int32} : a - b = 0 ↔ b = a := by
  constructor
  · intro h
    have h1 := Int32.sub_add_cancel a b
    rw [h, i32_0add] at h1
    exact h1
  · rintro rfl
    exact Int32.sub_self _
/-- all are known: a row's rest is the bin less the sum -/
theorem rst_all {w h k : Nat} {K : Nat → Bool} {bn : Nat → Nat → Nat} {bv val tri : Nat → Int32} (hw : w ≤ 16) (hh : h ≤ 16) (hall : ∀ c, c < 256 → c % 16 < w → c / 16 < h → K c = true) (htv : ∀ c, K c = true → tri c = val c) : rst w h K (fun c => bn (c % 16) (c / 16)) bv val k = bv k - accY bn tri w h (fun _ => 0) k := by
  rw [accY_sum bn _ w h hw hh, i32_0add]
  unfold rst
  refine congrArg (fun z => bv k - z) ?_
  refine sN_congr 256 (fun c hc => ?_)
  by_cases q : c % 16 < w ∧ c / 16 < h ∧ bn (c % 16) (c / 16) = k
  · have h1 := hall c hc q.1 q.2.1
    rw [if_pos q, if_pos (kB_iff.mpr ⟨q.1, q.2.1, q.2.2, h1⟩), htv c h1]
  · rw [if_neg q, if_neg (fun z => q ⟨(kB_iff.mp z).1, (kB_iff.mp z).2.1, (kB_iff.mp z).2.2.1⟩)]
theorem rst_0 {w h k : Nat} {K : Nat → Bool} {bn : Nat → Nat → Nat} {bv val tri : Nat → Int32} (hw : w ≤ 16) (hh : h ≤ 16) (hall : ∀ c, c < 256 → c % 16 < w → c / 16 < h → K c = true) (htv : ∀ c, K c = true → tri c = val c) : rst w h K (fun c => bn (c % 16) (c / 16)) bv val k = 0 ↔ accY bn tri w h (fun _ => 0) k = bv k := by
  rw [rst_all hw hh hall htv, i32_sub0]
set_option maxHeartbeats 1000000 in
set_option maxRecDepth 100000 in
theorem c_learn (l : Launch) {B : Nat} {D : va_G} {cI cZ cL cS cW : ClassId} {ad : Nat → Nat} {g : Nat → va_E} (th : Int) (w h : Nat) (kp hb : Bool) (tr sq wm : Int) (M x0 y0 : Nat) (hM : M < 256) (pv : Int32) (K9 : Nat → Bool) (val : Nat → Int32) (hw : 1 ≤ w ∧ w ≤ 16) (hh : 1 ≤ h ∧ h ≤ 16) (hx0 : x0 < w) (hy0 : y0 < h) (hK0 : K9 (16 * y0 + x0) = false) (hm : g 73 = mE ad th w h kp hb tr sq wm) (tri : Nat → Int32) (htri : g 77 = inA cI 256 tri) (kno : Nat → Bool) (hkno : g 78 = inA cZ 256 (bA kno)) (tol : Nat → Bool) (htol : g 79 = inA cZ 8 (bA tol)) (rP : Nat → Int) (hrP : g 80 = inA cI 8 (jA rP)) (rQ : Nat → Int) (hrQ : g 81 = inA cI 8 (jA rQ)) (unk : Nat → Int32) (hunk : g 89 = inA cI 3848 unk) (lef : Nat → Int32) (hlef : g 90 = inA cI 3848 lef) (hPQ : ∀ j, j < 8 → okD (rP j) (rQ j)) (bns : Nat → Int32) (hrow : ∀ j, j < 8 → (Nat.testBit M j && tol j) = true → rwOK w h K9 val (fun c => bnN (rP j) (rQ j) w h (c % 16) (c / 16)) (fun k => bns (481 * j + k)) unk lef j) : Met l y_M_learn (Cond.code y_M_learn b_M_learn 7 none :: wG) (rmF 1 40 0 0) (wPc B D classes (tyL cI cZ cL cS cW) (Zs B) 95 [.ref (ad 73), .int (iI (M : Int)), .int (iI (x0 : Int)), .int (iI (y0 : Int)), .int pv] ad g) (QV B D classes 95 (fun ad1 g1 => ∃ un1 le1 : Nat → Int32, (∀ j, j < 8 → (Nat.testBit M j && tol j) = true → rwOK w h (va_up K9 (16 * y0 + x0) true) (va_up val (16 * y0 + x0) pv) (fun c => bnN (rP j) (rQ j) w h (c % 16) (c / 16)) (fun k => bns (481 * j + k)) un1 le1 j) ∧ ad = ad1 ∧ g1 73 = mE ad th w h kp hb (tr + 1) sq wm ∧ g1 77 = inA cI 256 (upd tri (16 * y0 + x0) pv) ∧ g1 78 = inA cZ 256 (bA (uP kno (16 * y0 + x0) true)) ∧ g1 89 = inA cI 3848 un1 ∧ g1 90 = inA cI 3848 le1 ∧ ∀ r1, r1 ≠ 73 → r1 ≠ 77 → r1 ≠ 78 → r1 ≠ 89 → r1 ≠ 90 → g1 r1 = g r1)) 0 0 (aB B) := by
  refine ofV (own := R_M) (by decide) rfl (Nat.le_of_ble_eq_true rfl) ?_
  intro p e s m below meth c Q C hnm hret
  change kV _ _ _ _ _ _ _ _ _ _ _ _ _ _ _ _ _ _ _ _ _ [(0, .ref (ad 73)), (1, .int (iI (M : Int))), (2, .int (iI (x0 : Int))), (3, .int (iI (y0 : Int))), (4, .int pv)] _ _
  refine v_aload_n C d_M_learn_0 rfl 0 rfl ?_
  refine gf_M_26 C (by omega) hm rfl d_M_learn_1 ?_
  refine v_bipush C d_M_learn_4 (by decide +kernel) ?_
  refine v_iload_n C d_M_learn_6 rfl 3 rfl ?_
  refine v_imulI C d_M_learn_7 ?_
  refine v_iload_n C d_M_learn_8 rfl 2 rfl ?_
  refine v_iaddI C d_M_learn_9 ?_
  refine v_iload C d_M_learn_10 4 rfl ?_
  refine v_iast C 0 (by omega) htri rfl (16 * y0 + x0) (by omega) (by omega) (by omega) d_M_learn_12 (fun g1 htri fr2 => ?_)
  have hm := (fr2 73 (by omega)).trans hm
  have hkno := (fr2 78 (by omega)).trans hkno
  have htol := (fr2 79 (by omega)).trans htol
  have hrP := (fr2 80 (by omega)).trans hrP
  have hrQ := (fr2 81 (by omega)).trans hrQ
  have hunk := (fr2 89 (by omega)).trans hunk
  have hlef := (fr2 90 (by omega)).trans hlef
  refine v_aload_n C d_M_learn_13 rfl 0 rfl ?_
  refine gf_M_29 C (by omega) hm rfl d_M_learn_14 ?_
  refine v_bipush C d_M_learn_17 (by decide +kernel) ?_
  refine v_iload_n C d_M_learn_19 rfl 3 rfl ?_
  refine v_imulI C d_M_learn_20 ?_
  refine v_iload_n C d_M_learn_21 rfl 2 rfl ?_
  refine v_iaddI C d_M_learn_22 ?_
  refine v_iconst C d_M_learn_23 ?_
  refine v_zastB true C 1 (by omega) hkno rfl (16 * y0 + x0) (by omega) (by omega) (by omega) d_M_learn_24 (fun g3 hkno fr4 => ?_)
  have hm := (fr4 73 (by omega)).trans hm
  have htri := (fr4 77 (by omega)).trans htri
  have htol := (fr4 79 (by omega)).trans htol
  have hrP := (fr4 80 (by omega)).trans hrP
  have hrQ := (fr4 81 (by omega)).trans hrQ
  have hunk := (fr4 89 (by omega)).trans hunk
  have hlef := (fr4 90 (by omega)).trans hlef
  refine v_aload_n C d_M_learn_25 rfl 0 rfl ?_
  refine v_dup C d_M_learn_26 rfl ?_
  refine gf_M_143 C (by omega) hm rfl d_M_learn_27 ?_
  refine v_iconst C d_M_learn_30 ?_
  refine v_iaddI C d_M_learn_31 ?_
  refine pf_M_143 (fs' := [.int (iI th), .int (iI (w : Int)), .int (iI (h : Int)), .ref (ad 74), .ref (ad 75), .ref (ad 76), .ref (ad 77), .ref (ad 78), .int (bI kp), .int (bI hb), .ref (ad 79), .ref (ad 80), .ref (ad 81), .ref (ad 82), .ref (ad 83), .ref (ad 84), .ref (ad 85), .ref (ad 86), .ref (ad 87), .ref (ad 88), .ref (ad 89), .ref (ad 90), .int (iI (tr + 1)), .ref (ad 91), .int (iI sq), .int (iI wm), .ref (ad 92), .ref (ad 93)]) C (by omega) hm rfl rfl (Nat.le_of_ble_eq_true rfl) rfl d_M_learn_32 (fun g5 hm fr6 => ?_)
  have htri := (fr6 77 (by omega)).trans htri
  have hkno := (fr6 78 (by omega)).trans hkno
  have htol := (fr6 79 (by omega)).trans htol
  have hrP := (fr6 80 (by omega)).trans hrP
  have hrQ := (fr6 81 (by omega)).trans hrQ
  have hunk := (fr6 89 (by omega)).trans hunk
  have hlef := (fr6 90 (by omega)).trans hlef
  refine v_iconst C d_M_learn_35 ?_
  refine v_istore (lv' := [(5, .int (iI 0)), (0, .ref (ad 73)), (1, .int (iI (M : Int))), (2, .int (iI (x0 : Int))), (3, .int (iI (y0 : Int))), (4, .int pv)]) C d_M_learn_36 (by decide) rfl ?_
  refine v_lv (lv' := [(0, .ref (ad 73)), (1, .int (iI (M : Int))), (2, .int (iI (x0 : Int))), (3, .int (iI (y0 : Int))), (4, .int pv), (5, .int (iI 0))]) [1, 2, 3, 4, 5, 0] rfl ?_
  have L38 : ∀ (d9 : Nat) (j : Nat) (un9 : Nat → Int32) (le9 : Nat → Int32) (G38 : Nat → va_E), 8 - j < d9 → (j ≤ 8) → (∀ i, j ≤ i → i < 8 → (Nat.testBit M i && tol i) = true → rwOK w h K9 val (fun c => bnN (rP i) (rQ i) w h (c % 16) (c / 16)) (fun k => bns (481 * i + k)) un9 le9 i) → (∀ i, i < j → (Nat.testBit M i && tol i) = true → rwOK w h (va_up K9 (16 * y0 + x0) true) (va_up val (16 * y0 + x0) pv) (fun c => bnN (rP i) (rQ i) w h (c % 16) (c / 16)) (fun k => bns (481 * i + k)) un9 le9 i) → (∀ r1, r1 ≠ 89 → r1 ≠ 90 → G38 r1 = g5 r1) → G38 89 = inA cI 3848 un9 → G38 90 = inA cI 3848 le9 → kV p l e (rmF 1 40 0 0) s m ([.ref (ad 73), .int (iI (M : Int)), .int (iI (x0 : Int)), .int (iI (y0 : Int)), .int pv] : List Value).toArray below meth c Q s.heap B D classes 7 95 0 0 ad G38 [(0, .ref (ad 73)), (1, .int (iI (M : Int))), (2, .int (iI (x0 : Int))), (3, .int (iI (y0 : Int))), (4, .int pv), (5, .int (iI (j : Int)))] [] 38 := by
    intro d9
    induction d9 with
    | zero => intro j un9 le9 G38 hd9; exact absurd hd9 (Nat.not_lt_zero _)
    | succ d9 ih38 =>
      intro j un9 le9 G38 hd38 hj hold hnew hfr38 hunk hlef
      have hm := (hfr38 73 (by omega) (by omega)).trans hm
      have htri := (hfr38 77 (by omega) (by omega)).trans htri
      have hkno := (hfr38 78 (by omega) (by omega)).trans hkno
      have htol := (hfr38 79 (by omega) (by omega)).trans htol
      have hrP := (hfr38 80 (by omega) (by omega)).trans hrP
      have hrQ := (hfr38 81 (by omega) (by omega)).trans hrQ
      refine v_iload C d_M_learn_38 5 rfl ?_
      refine v_bipush C d_M_learn_40 (by decide +kernel) ?_
      refine v_icmp_geI C d_M_learn_42 (by omega) (by omega) (by omega) (by omega) (fun hb42 => ?_) (fun hb42 => ?_)
      · exact hret _ _ _ _ _ _ (Nat.zero_le _) (Nat.zero_le _) d_M_learn_104 ⟨un9, le9, fun i hi q => hnew i (by omega) q, rfl, hm, htri, hkno, hunk, hlef, (fun r1 n0 n1 n2 n3 n4 => ((hfr38 r1 n3 n4).trans ((fr6 r1 n0).trans ((fr4 r1 n2).trans (fr2 r1 n1)))))⟩
      · refine v_aload_n C d_M_learn_45 rfl 0 rfl ?_
        refine v_iload_n C d_M_learn_46 rfl 1 rfl ?_
        refine v_iload C d_M_learn_47 5 rfl ?_
        refine v_callVI (As := [.int (iI (M : Int)), .int (iI (j : Int))]) (st := []) (by omega) hm rfl rfl C (c_isOf l th w h kp hb (tr + 1) sq wm M j hM (by omega) hm tol htol) (lk_M_134 C.1.2.2.2.2 rfl rfl ⟨Nat.le_of_ble_eq_true rfl, Nat.le_of_ble_eq_true rfl⟩) rfl rfl (Nat.le_of_ble_eq_true rfl) d_M_learn_49 ⟨Nat.le_of_ble_eq_true rfl, Nat.le_of_ble_eq_true rfl⟩ (fun w7 ad7 g7 hp7 => ?_)
        obtain ⟨_, rfl, rfl, rfl, rfl⟩ := hp7
        refine v_if_neB C d_M_learn_52 (fun hb52 => ?_) (fun hb52 => ?_)
        · refine v_sipush C d_M_learn_58 (by decide +kernel) ?_
          refine v_iload C d_M_learn_61 5 rfl ?_
          refine v_imulI C d_M_learn_63 ?_
          refine v_aload_n C d_M_learn_64 rfl 0 rfl ?_
          refine v_iload C d_M_learn_65 5 rfl ?_
          refine v_iload_n C d_M_learn_67 rfl 2 rfl ?_
          refine v_iload_n C d_M_learn_68 rfl 3 rfl ?_
          refine v_callVI (As := [.int (iI (j : Int)), .int (iI (x0 : Int)), .int (iI (y0 : Int))]) (st := [.int (iI (481 * (j : Int)))]) (by omega) hm rfl rfl C (c_MbinAt l th w h kp hb (tr + 1) sq wm j (x0 : Int) (y0 : Int) (by omega) hh.1 hm rP hrP rQ hrQ hPQ) (lk_M_120 C.1.2.2.2.2 rfl rfl ⟨Nat.le_of_ble_eq_true rfl, Nat.le_of_ble_eq_true rfl⟩) rfl rfl (Nat.le_of_ble_eq_true rfl) d_M_learn_69 ⟨Nat.le_of_ble_eq_true rfl, Nat.le_of_ble_eq_true rfl⟩ (fun w8 ad8 g8 hp8 => ?_)
          obtain ⟨rfl, rfl, rfl⟩ := hp8
          have hbn := bn_nat (hPQ j (by omega)) hw.2 hh.2 (show x0 < w by omega) (show y0 < h by omega)
          have hbq : bnI (rP j) (rQ j) w h (x0 : Int) (y0 : Int) = ((bnN (rP j) (rQ j) w h x0 y0 : Nat) : Int) := hbn.1
          have hbl := Nat.lt_of_lt_of_le hbn.2.1 hbn.2.2.1
          refine v_iaddI C d_M_learn_72 ?_
          refine v_istore (lv' := [(6, .int (iI ((481 * (j : Int)) + (bnI (rP j) (rQ j) w h (x0 : Int) (y0 : Int))))), (0, .ref (ad 73)), (1, .int (iI (M : Int))), (2, .int (iI (x0 : Int))), (3, .int (iI (y0 : Int))), (4, .int pv), (5, .int (iI (j : Int)))]) C d_M_learn_73 (by decide) rfl ?_
          refine v_aload_n C d_M_learn_75 rfl 1 rfl ?_
          refine gf_M_63 C (by omega) hm rfl d_M_learn_76 ?_
          refine v_iload C d_M_learn_79 0 rfl ?_
          refine v_dup2 C d_M_learn_81 rfl rfl ?_
          refine v_iald C 0 (by omega) hunk rfl (481 * j + bnN (rP j) (rQ j) w h x0 y0) (by omega) (by omega) (by omega) d_M_learn_82 ?_
          refine v_iconst C d_M_learn_83 ?_
          refine v_isub C d_M_learn_84 ?_
          refine v_iast C 0 (by omega) hunk rfl (481 * j + bnN (rP j) (rQ j) w h x0 y0) (by omega) (by omega) (by omega) d_M_learn_85 (fun g9 hunk fr10 => ?_)
          have hm := (fr10 73 (by omega)).trans hm
          have htri := (fr10 77 (by omega)).trans htri
          have hkno := (fr10 78 (by omega)).trans hkno
          have htol := (fr10 79 (by omega)).trans htol
          have hrP := (fr10 80 (by omega)).trans hrP
          have hrQ := (fr10 81 (by omega)).trans hrQ
          have hlef := (fr10 90 (by omega)).trans hlef
          refine v_aload_n C d_M_learn_86 rfl 1 rfl ?_
          refine gf_M_66 C (by omega) hm rfl d_M_learn_87 ?_
          refine v_iload C d_M_learn_90 0 rfl ?_
          refine v_dup2 C d_M_learn_92 rfl rfl ?_
          refine v_iald C 0 (by omega) hlef rfl (481 * j + bnN (rP j) (rQ j) w h x0 y0) (by omega) (by omega) (by omega) d_M_learn_93 ?_
          refine v_iload C d_M_learn_94 5 rfl ?_
          refine v_isub C d_M_learn_96 ?_
          refine v_iast C 0 (by omega) hlef rfl (481 * j + bnN (rP j) (rQ j) w h x0 y0) (by omega) (by omega) (by omega) d_M_learn_97 (fun g11 hlef fr12 => ?_)
          have hm := (fr12 73 (by omega)).trans hm
          have htri := (fr12 77 (by omega)).trans htri
          have hkno := (fr12 78 (by omega)).trans hkno
          have htol := (fr12 79 (by omega)).trans htol
          have hrP := (fr12 80 (by omega)).trans hrP
          have hrQ := (fr12 81 (by omega)).trans hrQ
          have hunk := (fr12 89 (by omega)).trans hunk
          refine v_iinc (lv' := [(5, .int (iI ((j : Int) + 1))), (6, .int (iI ((481 * (j : Int)) + (bnI (rP j) (rQ j) w h (x0 : Int) (y0 : Int))))), (0, .ref (ad 73)), (1, .int (iI (M : Int))), (2, .int (iI (x0 : Int))), (3, .int (iI (y0 : Int))), (4, .int pv)]) C d_M_learn_98 6 rfl (by decide) rfl ?_
          refine v_goto C d_M_learn_101 ?_
          refine v_lv (lv' := [(0, .ref (ad 73)), (1, .int (iI (M : Int))), (2, .int (iI (x0 : Int))), (3, .int (iI (y0 : Int))), (4, .int pv), (5, .int (iI ((j : Int) + 1)))]) [2, 3, 4, 5, 6, 0] rfl ?_
          exact ih38 (j + 1) _ _ _ (by omega) (by omega) (fun i hi h8 q => rw_other (hold i (by omega) h8 q) (by omega) hbl) (fun i hi q => by by_cases e9 : i = j; (subst e9; exact rw_take (hold i (Nat.le_refl _) (by omega) q) (by omega) (by omega) (by omega) hK0 (by show bnN _ _ _ _ ((16 * y0 + x0) % 16) ((16 * y0 + x0) / 16) = _; rw [show (16 * y0 + x0) % 16 = x0 by omega, show (16 * y0 + x0) / 16 = y0 by omega]) hbl); exact rw_other (hnew i (by omega) q) e9 hbl) (fun r1 n0 n1 => ((fr12 r1 n1).trans ((fr10 r1 n0).trans (hfr38 r1 n0 n1)))) hunk hlef
        · refine v_goto C d_M_learn_55 ?_
          refine v_iinc (lv' := [(5, .int (iI ((j : Int) + 1))), (0, .ref (ad 73)), (1, .int (iI (M : Int))), (2, .int (iI (x0 : Int))), (3, .int (iI (y0 : Int))), (4, .int pv)]) C d_M_learn_98 5 rfl (by decide) rfl ?_
          refine v_goto C d_M_learn_101 ?_
          refine v_lv (lv' := [(0, .ref (ad 73)), (1, .int (iI (M : Int))), (2, .int (iI (x0 : Int))), (3, .int (iI (y0 : Int))), (4, .int pv), (5, .int (iI ((j : Int) + 1)))]) [1, 2, 3, 4, 5, 0] rfl ?_
          exact ih38 (j + 1) un9 le9 _ (by omega) (by omega) (fun i hi => hold i (by omega)) (fun i hi q => by by_cases e9 : i = j; (subst e9; rw [hb52] at q; cases q); exact hnew i (by omega) q) (fun r1 n0 n1 => (hfr38 r1 n0 n1)) hunk hlef
  exact L38 _ 0 unk lef _ (Nat.lt_succ_self _) (by omega) (fun i hi h8 q => hrow i h8 q) (fun i hi => absurd hi (by omega)) (fun r1 _ _ => rfl) hunk hlef
set_option maxHeartbeats 1000000 in
set_option maxRecDepth 100000 in
theorem c_learnOf (l : Launch) {B : Nat} {D : va_G} {cI cZ cL cS cW : ClassId} {ad : Nat → Nat} {g : Nat → va_E} (th : Int) (w h : Nat) (kp hb : Bool) (tr sq wm : Int) (M s0 k0 : Nat) (hM : M < 256) (K9 : Nat → Bool) (val : Nat → Int32) (hw : 1 ≤ w ∧ w ≤ 16) (hh : 1 ≤ h ∧ h ≤ 16) (hm : g 73 = mE ad th w h kp hb tr sq wm) (tri : Nat → Int32) (htri : g 77 = inA cI 256 tri) (kno : Nat → Bool) (hkno : g 78 = inA cZ 256 (bA kno)) (tol : Nat → Bool) (htol : g 79 = inA cZ 8 (bA tol)) (rP : Nat → Int) (hrP : g 80 = inA cI 8 (jA rP)) (rQ : Nat → Int) (hrQ : g 81 = inA cI 8 (jA rQ)) (unk : Nat → Int32) (hunk : g 89 = inA cI 3848 unk) (lef : Nat → Int32) (hlef : g 90 = inA cI 3848 lef) (hPQ : ∀ j, j < 8 → okD (rP j) (rQ j)) (bns : Nat → Int32) (hrow : ∀ j, j < 8 → (Nat.testBit M j && tol j) = true → rwOK w h K9 val (fun c => bnN (rP j) (rQ j) w h (c % 16) (c / 16)) (fun k => bns (481 * j + k)) unk lef j) (hkn : ∀ c, c < 256 → kno c = K9 c) (hnx : Nxt w h (fun j => Nat.testBit M j && tol j) (fun j c => bnN (rP j) (rQ j) w h (c % 16) (c / 16)) (fun j => ctN (rP j) (rQ j) w h) K9 s0 k0) : Met l y_M_learnOf (Cond.code y_M_learnOf b_M_learnOf 7 none :: wG) (rmF 2 75 0 0) (wPc B D classes (tyL cI cZ cL cS cW) (Zs B) 95 [.ref (ad 73), .int (iI (M : Int)), .int (iI ((481 * s0 + k0 : Nat) : Int))] ad g) (QV B D classes 95 (fun ad1 g1 => ∃ (c0 : Nat) (un1 le1 : Nat → Int32), c0 = cod w h K9 (fun c => bnN (rP s0) (rQ s0) w h (c % 16) (c / 16)) k0 ∧ (∀ j, j < 8 → (Nat.testBit M j && tol j) = true → rwOK w h (va_up K9 c0 true) (va_up val c0 (lef (481 * s0 + k0))) (fun c => bnN (rP j) (rQ j) w h (c % 16) (c / 16)) (fun k => bns (481 * j + k)) un1 le1 j) ∧ ad = ad1 ∧ g1 73 = mE ad th w h kp hb (tr + 1) sq wm ∧ g1 77 = inA cI 256 (upd tri c0 (lef (481 * s0 + k0))) ∧ g1 78 = inA cZ 256 (bA (uP kno c0 true)) ∧ g1 89 = inA cI 3848 un1 ∧ g1 90 = inA cI 3848 le1 ∧ ∀ r1, r1 ≠ 73 → r1 ≠ 77 → r1 ≠ 78 → r1 ≠ 89 → r1 ≠ 90 → g1 r1 = g r1)) 0 0 (aB B) := by
  refine ofV (own := R_M) (by decide) rfl (Nat.le_of_ble_eq_true rfl) ?_
  intro p e s m below meth c Q C hnm hret
  change kV _ _ _ _ _ _ _ _ _ _ _ _ _ _ _ _ _ _ _ _ _ [(0, .ref (ad 73)), (1, .int (iI (M : Int))), (2, .int (iI ((481 * s0 + k0 : Nat) : Int)))] _ _
  have hs8 : s0 < 8 := hnx.1
  have hct9 := ct_nat (hPQ s0 hs8) hw.2 hh.2 hw.1 hh.1
  have hk9 : k0 < ctN (rP s0) (rQ s0) w h := hnx.2.2.1
  have hk8 : k0 < 481 := by omega
  obtain ⟨cc1, cc2, cc3⟩ := cnt_one hnx.2.2.2.1
  refine v_iload_n C d_M_learnOf_0 rfl 2 rfl ?_
  refine v_sipush C d_M_learnOf_1 (by decide +kernel) ?_
  refine v_idiv C d_M_learnOf_4 ne481 ?_
  rw [(div481 s0 hs8 k0 hk8).1]
  refine v_istore_n (lv' := [(3, .int (iI (s0 : Int))), (0, .ref (ad 73)), (1, .int (iI (M : Int))), (2, .int (iI ((481 * s0 + k0 : Nat) : Int)))]) C d_M_learnOf_5 rfl (by decide) rfl ?_
  refine v_iload_n C d_M_learnOf_6 rfl 3 rfl ?_
  refine v_sipush C d_M_learnOf_7 (by decide +kernel) ?_
  refine v_irem C d_M_learnOf_10 ne481 ?_
  rw [(div481 s0 hs8 k0 hk8).2]
  refine v_istore (lv' := [(4, .int (iI (k0 : Int))), (3, .int (iI (s0 : Int))), (0, .ref (ad 73)), (1, .int (iI (M : Int))), (2, .int (iI ((481 * s0 + k0 : Nat) : Int)))]) C d_M_learnOf_11 (by decide) rfl ?_
  refine v_iconst C d_M_learnOf_13 ?_
  refine v_istore (lv' := [(5, .int (iI 0)), (4, .int (iI (k0 : Int))), (3, .int (iI (s0 : Int))), (0, .ref (ad 73)), (1, .int (iI (M : Int))), (2, .int (iI ((481 * s0 + k0 : Nat) : Int)))]) C d_M_learnOf_14 (by decide) rfl ?_
  refine v_lv (lv' := [(0, .ref (ad 73)), (1, .int (iI (M : Int))), (2, .int (iI ((481 * s0 + k0 : Nat) : Int))), (3, .int (iI (s0 : Int))), (4, .int (iI (k0 : Int))), (5, .int (iI 0))]) [3, 4, 5, 2, 1, 0] rfl ?_
  have L16 : ∀ (d9 : Nat) (y : Nat), h - y < d9 → (y ≤ h) → (∀ x' y', x' < w → y' < h → (y' < y ∨ (y' = y ∧ x' < 0)) → ¬ (kno (16 * y' + x') = false ∧ bnN (rP s0) (rQ s0) w h x' y' = k0)) → kV p l e (rmF 2 75 0 0) s m ([.ref (ad 73), .int (iI (M : Int)), .int (iI ((481 * s0 + k0 : Nat) : Int))] : List Value).toArray below meth c Q s.heap B D classes 7 95 0 0 ad g [(0, .ref (ad 73)), (1, .int (iI (M : Int))), (2, .int (iI ((481 * s0 + k0 : Nat) : Int))), (3, .int (iI (s0 : Int))), (4, .int (iI (k0 : Int))), (5, .int (iI (y : Int)))] [] 16 := by
    intro d9
    induction d9 with
    | zero => intro y hd9; exact absurd hd9 (Nat.not_lt_zero _)
    | succ d9 ih16 =>
      intro y hd16 hy hnf
      refine v_iload C d_M_learnOf_16 5 rfl ?_
      refine v_aload_n C d_M_learnOf_18 rfl 0 rfl ?_
      refine gf_M_13 C (by omega) hm rfl d_M_learnOf_19 ?_
      refine v_icmp_geI C d_M_learnOf_22 (by omega) (by omega) (by omega) (by omega) (fun hb22 => ?_) (fun hb22 => ?_)
      · obtain ⟨u1, u2, u3, u4⟩ := uB_iff.mp cc2
        exfalso
        exact hnf _ _ u1 u2 (by omega) ⟨by rw [hkn _ (by omega), show ∀ c, 16 * (c / 16) + c % 16 = c from fun c => by omega]; exact u4, u3⟩
      · refine v_iconst C d_M_learnOf_25 ?_
        refine v_istore (lv' := [(6, .int (iI 0)), (0, .ref (ad 73)), (1, .int (iI (M : Int))), (2, .int (iI ((481 * s0 + k0 : Nat) : Int))), (3, .int (iI (s0 : Int))), (4, .int (iI (k0 : Int))), (5, .int (iI (y : Int)))]) C d_M_learnOf_26 (by decide) rfl ?_
        refine v_lv (lv' := [(0, .ref (ad 73)), (1, .int (iI (M : Int))), (2, .int (iI ((481 * s0 + k0 : Nat) : Int))), (3, .int (iI (s0 : Int))), (4, .int (iI (k0 : Int))), (5, .int (iI (y : Int))), (6, .int (iI 0))]) [1, 2, 3, 4, 5, 6, 0] rfl ?_
        have L28 : ∀ (d9 : Nat) (x : Nat), w - x < d9 → (x ≤ w) → (∀ x' y', x' < w → y' < h → (y' < y ∨ (y' = y ∧ x' < x)) → ¬ (kno (16 * y' + x') = false ∧ bnN (rP s0) (rQ s0) w h x' y' = k0)) → kV p l e (rmF 2 75 0 0) s m ([.ref (ad 73), .int (iI (M : Int)), .int (iI ((481 * s0 + k0 : Nat) : Int))] : List Value).toArray below meth c Q s.heap B D classes 7 95 0 0 ad g [(0, .ref (ad 73)), (1, .int (iI (M : Int))), (2, .int (iI ((481 * s0 + k0 : Nat) : Int))), (3, .int (iI (s0 : Int))), (4, .int (iI (k0 : Int))), (5, .int (iI (y : Int))), (6, .int (iI (x : Int)))] [] 28 := by
          intro d9
          induction d9 with
          | zero => intro x hd9; exact absurd hd9 (Nat.not_lt_zero _)
          | succ d9 ih28 =>
            intro x hd28 hx hng
            refine v_iload C d_M_learnOf_28 6 rfl ?_
            refine v_aload_n C d_M_learnOf_30 rfl 0 rfl ?_
            refine gf_M_7 C (by omega) hm rfl d_M_learnOf_31 ?_
            refine v_icmp_geI C d_M_learnOf_34 (by omega) (by omega) (by omega) (by omega) (fun hb34 => ?_) (fun hb34 => ?_)
            · refine v_iinc (lv' := [(5, .int (iI ((y : Int) + 1))), (0, .ref (ad 73)), (1, .int (iI (M : Int))), (2, .int (iI ((481 * s0 + k0 : Nat) : Int))), (3, .int (iI (s0 : Int))), (4, .int (iI (k0 : Int))), (6, .int (iI (x : Int)))]) C d_M_learnOf_92 5 rfl (by decide) rfl ?_
              refine v_goto C d_M_learnOf_95 ?_
              refine v_lv (lv' := [(0, .ref (ad 73)), (1, .int (iI (M : Int))), (2, .int (iI ((481 * s0 + k0 : Nat) : Int))), (3, .int (iI (s0 : Int))), (4, .int (iI (k0 : Int))), (5, .int (iI ((y : Int) + 1)))]) [1, 2, 3, 4, 5, 0] rfl ?_
              exact ih16 (y + 1) (by omega) (by omega) (fun x' y' a b q => hng x' y' a b (by omega))
            · refine v_aload_n C d_M_learnOf_37 rfl 0 rfl ?_
              refine gf_M_29 C (by omega) hm rfl d_M_learnOf_38 ?_
              refine v_bipush C d_M_learnOf_41 (by decide +kernel) ?_
              refine v_iload C d_M_learnOf_43 5 rfl ?_
              refine v_imulI C d_M_learnOf_45 ?_
              refine v_iload C d_M_learnOf_46 6 rfl ?_
              refine v_iaddI C d_M_learnOf_48 ?_
              refine v_zaldB C 1 (by omega) hkno rfl (16 * y + x) (by omega) (by omega) (by omega) d_M_learnOf_49 ?_
              refine v_if_neB C d_M_learnOf_50 (fun hb50 => ?_) (fun hb50 => ?_)
              · refine v_iinc (lv' := [(6, .int (iI ((x : Int) + 1))), (0, .ref (ad 73)), (1, .int (iI (M : Int))), (2, .int (iI ((481 * s0 + k0 : Nat) : Int))), (3, .int (iI (s0 : Int))), (4, .int (iI (k0 : Int))), (5, .int (iI (y : Int)))]) C d_M_learnOf_86 6 rfl (by decide) rfl ?_
                refine v_goto C d_M_learnOf_89 ?_
                refine v_lv (lv' := [(0, .ref (ad 73)), (1, .int (iI (M : Int))), (2, .int (iI ((481 * s0 + k0 : Nat) : Int))), (3, .int (iI (s0 : Int))), (4, .int (iI (k0 : Int))), (5, .int (iI (y : Int))), (6, .int (iI ((x : Int) + 1)))]) [1, 2, 3, 4, 5, 6, 0] rfl ?_
                exact ih28 (x + 1) (by omega) (by omega) (fun x' y' a b q z => by by_cases e9 : y' = y ∧ x' = x; (obtain ⟨rfl, rfl⟩ := e9; first | exact hb64 (by rw [hbq, z.2]) | (rw [hb50] at z; cases z.1)); exact hng x' y' a b (by omega) z)
              · refine v_aload_n C d_M_learnOf_53 rfl 0 rfl ?_
                refine v_iload_n C d_M_learnOf_54 rfl 3 rfl ?_
                refine v_iload C d_M_learnOf_55 6 rfl ?_
                refine v_iload C d_M_learnOf_57 5 rfl ?_
                refine v_callVI (As := [.int (iI (s0 : Int)), .int (iI (x : Int)), .int (iI (y : Int))]) (st := []) (by omega) hm rfl rfl C (c_MbinAt l th w h kp hb tr sq wm s0 (x : Int) (y : Int) (by omega) hh.1 hm rP hrP rQ hrQ hPQ) (lk_M_120 C.1.2.2.2.2 rfl rfl ⟨Nat.le_of_ble_eq_true rfl, Nat.le_of_ble_eq_true rfl⟩) rfl rfl (Nat.le_of_ble_eq_true rfl) d_M_learnOf_59 ⟨Nat.le_of_ble_eq_true rfl, Nat.le_of_ble_eq_true rfl⟩ (fun w1 ad1 g1 hp1 => ?_)
                obtain ⟨rfl, rfl, rfl⟩ := hp1
                have hbn := bn_nat (hPQ s0 (by omega)) hw.2 hh.2 (show x < w by omega) (show y < h by omega)
                have hbq : bnI (rP s0) (rQ s0) w h (x : Int) (y : Int) = ((bnN (rP s0) (rQ s0) w h x y : Nat) : Int) := hbn.1
                have hbl := Nat.lt_of_lt_of_le hbn.2.1 hbn.2.2.1
                refine v_iload C d_M_learnOf_62 4 rfl ?_
                refine v_icmp_eqI C d_M_learnOf_64 (by omega) (by omega) (by omega) (by omega) (fun hb64 => ?_) (fun hb64 => ?_)
                · refine v_aload_n C d_M_learnOf_70 rfl 0 rfl ?_
                  refine v_iload_n C d_M_learnOf_71 rfl 1 rfl ?_
                  refine v_iload C d_M_learnOf_72 6 rfl ?_
                  refine v_iload C d_M_learnOf_74 5 rfl ?_
                  refine v_aload_n C d_M_learnOf_76 rfl 0 rfl ?_
                  refine gf_M_66 C (by omega) hm rfl d_M_learnOf_77 ?_
                  refine v_iload_n C d_M_learnOf_80 rfl 2 rfl ?_
                  refine v_iald C 0 (by omega) hlef rfl (481 * s0 + k0) (by omega) (by omega) (by omega) d_M_learnOf_81 ?_
                  have hc9 : 16 * y + x < 256 := by omega
                  have hm1 : (16 * y + x) % 16 = x := by omega
                  have hm2 : (16 * y + x) / 16 = y := by omega
                  have hK0 : K9 (16 * y + x) = false := (hkn _ hc9).symm.trans hb50
                  have hcd := cc3 (16 * y + x) hc9 (uB_iff.mpr ⟨by omega, by omega, by show bnN _ _ _ _ ((16 * y + x) % 16) ((16 * y + x) / 16) = _; rw [hm1, hm2]; omega, hK0⟩)
                  refine v_callVV (As := [.int (iI (M : Int)), .int (iI (x : Int)), .int (iI (y : Int)), .int (lef (481 * s0 + k0))]) (st := []) (by omega) hm rfl rfl C (c_learn l th w h kp hb tr sq wm M x y hM (lef (481 * s0 + k0)) K9 val hw hh (by omega) (by omega) hK0 hm tri htri kno hkno tol htol rP hrP rQ hrQ unk hunk lef hlef hPQ bns hrow) (lk_M_146 C.1.2.2.2.2 rfl rfl ⟨Nat.le_of_ble_eq_true rfl, Nat.le_of_ble_eq_true rfl⟩) rfl rfl (Nat.le_of_ble_eq_true rfl) d_M_learnOf_82 ⟨Nat.le_of_ble_eq_true rfl, Nat.le_of_ble_eq_true rfl⟩ (fun ad2 g2 hp2 => ?_)
                  obtain ⟨un1, le1, hrow1, rfl, hm, htri, hkno, hunk, hlef, fr2⟩ := hp2
                  exact hret _ _ _ _ _ _ (Nat.zero_le _) (Nat.zero_le _) d_M_learnOf_85 ⟨16 * y + x, un1, le1, hcd, hrow1, rfl, hm, htri, hkno, hunk, hlef, (fun r1 n0 n1 n2 n3 n4 => (fr2 r1 n0 n1 n2 n3 n4))⟩
                · refine v_goto C d_M_learnOf_67 ?_
                  refine v_iinc (lv' := [(6, .int (iI ((x : Int) + 1))), (0, .ref (ad 73)), (1, .int (iI (M : Int))), (2, .int (iI ((481 * s0 + k0 : Nat) : Int))), (3, .int (iI (s0 : Int))), (4, .int (iI (k0 : Int))), (5, .int (iI (y : Int)))]) C d_M_learnOf_86 6 rfl (by decide) rfl ?_
                  refine v_goto C d_M_learnOf_89 ?_
                  refine v_lv (lv' := [(0, .ref (ad 73)), (1, .int (iI (M : Int))), (2, .int (iI ((481 * s0 + k0 : Nat) : Int))), (3, .int (iI (s0 : Int))), (4, .int (iI (k0 : Int))), (5, .int (iI (y : Int))), (6, .int (iI ((x : Int) + 1)))]) [1, 2, 3, 4, 5, 6, 0] rfl ?_
                  exact ih28 (x + 1) (by omega) (by omega) (fun x' y' a b q z => by by_cases e9 : y' = y ∧ x' = x; (obtain ⟨rfl, rfl⟩ := e9; first | exact hb64 (by rw [hbq, z.2]) | (rw [hb50] at z; cases z.1)); exact hng x' y' a b (by omega) z)
        exact L28 _ 0 (Nat.lt_succ_self _) (by omega) hnf
  exact L16 _ 0 (Nat.lt_succ_self _) (by omega) (fun x' y' a b q => absurd q (by omega))
theorem plb {w h M : Nat} {tol : Nat → Bool} {rP rQ : Nat → Int} {K9 : Nat → Bool} {pl : Int} (hPQ : ∀ j, j < 8 → okD (rP j) (rQ j)) (hw : 1 ≤ w ∧ w ≤ 16) (hh : 1 ≤ h ∧ h ≤ 16) (hpl : (∃ s0 k0 : Nat, pl = ((481 * s0 + k0 : Nat) : Int) ∧ Nxt w h (fun j => Nat.testBit M j && tol j) (fun j c => bnN (rP j) (rQ j) w h (c % 16) (c / 16)) (fun j => ctN (rP j) (rQ j) w h) K9 s0 k0) ∨ (pl = -1 ∧ ∀ s0 k0, ¬ Nxt w h (fun j => Nat.testBit M j && tol j) (fun j c => bnN (rP j) (rQ j) w h (c % 16) (c / 16)) (fun j => ctN (rP j) (rQ j) w h) K9 s0 k0)) : -1 ≤ pl ∧ pl < 3848 := by
  rcases hpl with ⟨s0, k0, q, hn⟩ | ⟨q, _⟩
  · have h1 := ct_nat (hPQ s0 hn.1) hw.2 hh.2 hw.1 hh.1
    have h2 : k0 < ctN (rP s0) (rQ s0) w h := hn.2.2.1
    have h3 := hn.1
    omega
  · omega
set_option maxHeartbeats 1000000 in
set_option maxRecDepth 100000 in
theorem c_comes (l : Launch) {B : Nat} {D : va_G} {cI cZ cL cS cW : ClassId} {ad : Nat → Nat} {g : Nat → va_E} (th : Int) (w h : Nat) (kp hb : Bool) (tr sq wm : Int) (M : Nat) (hM : M < 256) (hw : 1 ≤ w ∧ w ≤ 16) (hh : 1 ≤ h ∧ h ≤ 16) (hm : g 73 = mE ad th w h kp hb tr sq wm) (tri : Nat → Int32) (htri : g 77 = inA cI 256 tri) (kno : Nat → Bool) (hkno : g 78 = inA cZ 256 (bA kno)) (tol : Nat → Bool) (htol : g 79 = inA cZ 8 (bA tol)) (rP : Nat → Int) (hrP : g 80 = inA cI 8 (jA rP)) (rQ : Nat → Int) (hrQ : g 81 = inA cI 8 (jA rQ)) (bns : Nat → Int32) (hbns : g 83 = inA cI 3848 bns) (unk : Nat → Int32) (hunk : g 89 = inA cI 3848 unk) (lef : Nat → Int32) (hlef : g 90 = inA cI 3848 lef) (hPQ : ∀ j, j < 8 → okD (rP j) (rQ j)) : Met l y_M_comes (Cond.code y_M_comes b_M_comes 3 (some .boolean) :: wG) (rmF 3 110 0 0) (wPc B D classes (tyL cI cZ cL cS cW) (Zs B) 95 [.ref (ad 73), .int (iI (M : Int))] ad g) (QI B D classes 95 (fun v9 ad1 g1 => ∃ v, v9 = bI v ∧ (∃ (n : Nat) (K9 : Nat → Bool) (val tr1 un1 le1 : Nat → Int32) (kn1 : Nat → Bool), v = decide (n = w * h) ∧ Dn w h (fun j => Nat.testBit M j && tol j) (fun j c => bnN (rP j) (rQ j) w h (c % 16) (c / 16)) (fun j => ctN (rP j) (rQ j) w h) (fun j k => bns (481 * j + k)) n K9 val ∧ (∀ c, K9 c = true → tr1 c = val c) ∧ ad = ad1 ∧ g1 73 = mE ad th w h kp hb (n : Int) sq wm ∧ g1 77 = inA cI 256 tr1 ∧ g1 78 = inA cZ 256 (bA kn1) ∧ g1 89 = inA cI 3848 un1 ∧ g1 90 = inA cI 3848 le1 ∧ ∀ r1, r1 ≠ 73 → r1 ≠ 77 → r1 ≠ 78 → r1 ≠ 89 → r1 ≠ 90 → g1 r1 = g r1))) 0 0 (aB B) := by
  refine ofZ (own := R_M) (by decide) rfl (Nat.le_of_ble_eq_true rfl) ?_
  intro p e s m below meth c Q C hnm hret
  change kV _ _ _ _ _ _ _ _ _ _ _ _ _ _ _ _ _ _ _ _ _ [(0, .ref (ad 73)), (1, .int (iI (M : Int)))] _ _
  refine v_aload_n C d_M_comes_0 rfl 0 rfl ?_
  refine v_iload_n C d_M_comes_1 rfl 1 rfl ?_
  refine v_callVV (As := [.int (iI (M : Int))]) (st := []) (by omega) hm rfl rfl C (c_beginTry l th w h kp hb tr sq wm M hM hw hh hm kno hkno tol htol rP hrP rQ hrQ bns hbns unk hunk lef hlef hPQ) (lk_M_150 C.1.2.2.2.2 rfl rfl ⟨Nat.le_of_ble_eq_true rfl, Nat.le_of_ble_eq_true rfl⟩) rfl rfl (Nat.le_of_ble_eq_true rfl) d_M_comes_2 ⟨Nat.le_of_ble_eq_true rfl, Nat.le_of_ble_eq_true rfl⟩ (fun ad1 g1 hp1 => ?_)
  obtain ⟨kn0, un0, le0, hkn0, hrow0, rfl, hm, hkno, hunk, hlef, fr1⟩ := hp1
  have htri := (fr1 77 (by omega) (by omega) (by omega) (by omega)).trans htri
  have htol := (fr1 79 (by omega) (by omega) (by omega) (by omega)).trans htol
  have hrP := (fr1 80 (by omega) (by omega) (by omega) (by omega)).trans hrP
  have hrQ := (fr1 81 (by omega) (by omega) (by omega) (by omega)).trans hrQ
  have hbns := (fr1 83 (by omega) (by omega) (by omega) (by omega)).trans hbns
  refine v_aload_n C d_M_comes_5 rfl 0 rfl ?_
  refine v_iload_n C d_M_comes_6 rfl 1 rfl ?_
  refine v_callVI (As := [.int (iI (M : Int))]) (st := []) (by omega) hm rfl rfl C (c_single l th w h kp hb 0 sq wm M hM (fun _ => false) (fun _ => 0) hw hh hm tol htol rP hrP rQ hrQ un0 hunk hPQ le0 bns hrow0) (lk_M_154 C.1.2.2.2.2 rfl rfl ⟨Nat.le_of_ble_eq_true rfl, Nat.le_of_ble_eq_true rfl⟩) rfl rfl (Nat.le_of_ble_eq_true rfl) d_M_comes_7 ⟨Nat.le_of_ble_eq_true rfl, Nat.le_of_ble_eq_true rfl⟩ (fun w2 ad2 g2 hp2 => ?_)
  obtain ⟨pl2, rfl, hpl2, rfl, rfl⟩ := hp2
  refine v_istore_n (lv' := [(2, .int (iI pl2)), (0, .ref (ad 73)), (1, .int (iI (M : Int)))]) C d_M_comes_10 rfl (by decide) rfl ?_
  refine v_lv (lv' := [(0, .ref (ad 73)), (1, .int (iI (M : Int))), (2, .int (iI pl2))]) [1, 2, 0] rfl ?_
  have L11 : ∀ (d9 : Nat) (n : Nat) (K9 : Nat → Bool) (val : Nat → Int32) (tri9 : Nat → Int32) (kno9 : Nat → Bool) (un9 : Nat → Int32) (le9 : Nat → Int32) (pl : Int) (G11 : Nat → va_E), w * h - n < d9 → (Rn w h (fun j => Nat.testBit M j && tol j) (fun j c => bnN (rP j) (rQ j) w h (c % 16) (c / 16)) (fun j => ctN (rP j) (rQ j) w h) (fun j k => bns (481 * j + k)) n K9 val) → (∀ c, c < 256 → kno9 c = K9 c) → (∀ c, K9 c = true → tri9 c = val c) → (∀ j, j < 8 → (Nat.testBit M j && tol j) = true → rwOK w h K9 val (fun c => bnN (rP j) (rQ j) w h (c % 16) (c / 16)) (fun k => bns (481 * j + k)) un9 le9 j) → (-1 ≤ pl ∧ pl < 3848) → ((∃ s0 k0 : Nat, pl = ((481 * s0 + k0 : Nat) : Int) ∧ Nxt w h (fun j => Nat.testBit M j && tol j) (fun j c => bnN (rP j) (rQ j) w h (c % 16) (c / 16)) (fun j => ctN (rP j) (rQ j) w h) K9 s0 k0) ∨ (pl = -1 ∧ ∀ s0 k0, ¬ Nxt w h (fun j => Nat.testBit M j && tol j) (fun j c => bnN (rP j) (rQ j) w h (c % 16) (c / 16)) (fun j => ctN (rP j) (rQ j) w h) K9 s0 k0)) → (∀ r1, r1 ≠ 73 → r1 ≠ 77 → r1 ≠ 78 → r1 ≠ 89 → r1 ≠ 90 → G11 r1 = g1 r1) → G11 73 = .inr (3, [.int (iI th), .int (iI (w : Int)), .int (iI (h : Int)), .ref (ad 74), .ref (ad 75), .ref (ad 76), .ref (ad 77), .ref (ad 78), .int (bI kp), .int (bI hb), .ref (ad 79), .ref (ad 80), .ref (ad 81), .ref (ad 82), .ref (ad 83), .ref (ad 84), .ref (ad 85), .ref (ad 86), .ref (ad 87), .ref (ad 88), .ref (ad 89), .ref (ad 90), .int (iI (n : Int)), .ref (ad 91), .int (iI sq), .int (iI wm), .ref (ad 92), .ref (ad 93)]) → G11 77 = inA cI 256 tri9 → G11 78 = inA cZ 256 (bA kno9) → G11 89 = inA cI 3848 un9 → G11 90 = inA cI 3848 le9 → kV p l e (rmF 3 110 0 0) s m ([.ref (ad 73), .int (iI (M : Int))] : List Value).toArray below meth c Q s.heap B D classes 3 95 0 0 ad G11 [(0, .ref (ad 73)), (1, .int (iI (M : Int))), (2, .int (iI pl))] [] 11 := by
    intro d9
    induction d9 with
    | zero => intro n K9 val tri9 kno9 un9 le9 pl G11 hd9; exact absurd hd9 (Nat.not_lt_zero _)
    | succ d9 ih11 =>
      intro n K9 val tri9 kno9 un9 le9 pl G11 hd11 hRn hkn htv hrow hplb hpl hfr11 hm htri hkno hunk hlef
      have htol := (hfr11 79 (by omega) (by omega) (by omega) (by omega) (by omega)).trans htol
      have hrP := (hfr11 80 (by omega) (by omega) (by omega) (by omega) (by omega)).trans hrP
      have hrQ := (hfr11 81 (by omega) (by omega) (by omega) (by omega) (by omega)).trans hrQ
      have hbns := (hfr11 83 (by omega) (by omega) (by omega) (by omega) (by omega)).trans hbns
      refine v_iload_n C d_M_comes_11 rfl 2 rfl ?_
      refine v_if_ltI C d_M_comes_12 (by omega) (by omega) (fun hb12 => ?_) (fun hb12 => ?_)
      · have hle9 := Rn_le hRn hw.2 hh.2
        have hwh : (w : Int) * (h : Int) ≤ 256 ∧ 1 ≤ (w : Int) * (h : Int) := by
          have z1 : (w : Int) * (h : Int) ≤ 16 * (h : Int) := Int.mul_le_mul_of_nonneg_right (by omega) (by omega)
          have z2 : 1 * (h : Int) ≤ (w : Int) * (h : Int) := Int.mul_le_mul_of_nonneg_right (by omega) (by omega)
          omega
        have hwn : ((w * h : Nat) : Int) = (w : Int) * (h : Int) := Int.natCast_mul w h
        have hdn : Dn w h (fun j => Nat.testBit M j && tol j) (fun j c => bnN (rP j) (rQ j) w h (c % 16) (c / 16)) (fun j => ctN (rP j) (rQ j) w h) (fun j k => bns (481 * j + k)) n K9 val := ⟨hRn, by rcases hpl with ⟨s0, k0, q, _⟩ | ⟨_, q⟩; (exfalso; omega); exact q⟩
        refine v_aload_n C d_M_comes_30 rfl 0 rfl ?_
        refine gf_M_143 C (by omega) hm rfl d_M_comes_31 ?_
        refine v_aload_n C d_M_comes_34 rfl 0 rfl ?_
        refine gf_M_7 C (by omega) hm rfl d_M_comes_35 ?_
        refine v_aload_n C d_M_comes_38 rfl 0 rfl ?_
        refine gf_M_13 C (by omega) hm rfl d_M_comes_39 ?_
        refine v_imulI C d_M_comes_42 ?_
        refine v_icmp_neI C d_M_comes_43 (by omega) (by omega) (by omega) (by omega) (fun hb43 => ?_) (fun hb43 => ?_)
        · refine v_iconst C d_M_comes_50 ?_
          exact hret _ _ _ _ _ false _ (Nat.zero_le _) (Nat.zero_le _) d_M_comes_51 ⟨n, K9, val, tri9, un9, le9, kno9, (decide_eq_false (by omega)).symm, hdn, htv, rfl, hm, htri, hkno, hunk, hlef, (fun r1 n0 n1 n2 n3 n4 => ((hfr11 r1 n0 n1 n2 n3 n4).trans (fr1 r1 n0 n2 n3 n4)))⟩
        · refine v_iconst C d_M_comes_46 ?_
          refine v_goto C d_M_comes_47 ?_
          exact hret _ _ _ _ _ true _ (Nat.zero_le _) (Nat.zero_le _) d_M_comes_51 ⟨n, K9, val, tri9, un9, le9, kno9, (decide_eq_true (by omega)).symm, hdn, htv, rfl, hm, htri, hkno, hunk, hlef, (fun r1 n0 n1 n2 n3 n4 => ((hfr11 r1 n0 n1 n2 n3 n4).trans (fr1 r1 n0 n2 n3 n4)))⟩
      · obtain ⟨s0, k0, rfl, hnx⟩ : ∃ s0 k0 : Nat, pl = ((481 * s0 + k0 : Nat) : Int) ∧ Nxt w h (fun j => Nat.testBit M j && tol j) (fun j c => bnN (rP j) (rQ j) w h (c % 16) (c / 16)) (fun j => ctN (rP j) (rQ j) w h) K9 s0 k0 := by rcases hpl with q | ⟨q, _⟩; (exact q); exfalso; omega
        refine v_aload_n C d_M_comes_15 rfl 0 rfl ?_
        refine v_iload_n C d_M_comes_16 rfl 1 rfl ?_
        refine v_iload_n C d_M_comes_17 rfl 2 rfl ?_
        refine v_callVV (As := [.int (iI (M : Int)), .int (iI ((481 * s0 + k0 : Nat) : Int))]) (st := []) (by omega) hm rfl rfl C (c_learnOf l th w h kp hb (n : Int) sq wm M s0 k0 hM K9 val hw hh hm tri9 htri kno9 hkno tol htol rP hrP rQ hrQ un9 hunk le9 hlef hPQ bns hrow hkn hnx) (lk_M_157 C.1.2.2.2.2 rfl rfl ⟨Nat.le_of_ble_eq_true rfl, Nat.le_of_ble_eq_true rfl⟩) rfl rfl (Nat.le_of_ble_eq_true rfl) d_M_comes_18 ⟨Nat.le_of_ble_eq_true rfl, Nat.le_of_ble_eq_true rfl⟩ (fun ad3 g3 hp3 => ?_)
        obtain ⟨c0, un1, le1, hc0, hrow1, rfl, hm, htri, hkno, hunk, hlef, fr3⟩ := hp3
        have htol := (fr3 79 (by omega) (by omega) (by omega) (by omega) (by omega)).trans htol
        have hrP := (fr3 80 (by omega) (by omega) (by omega) (by omega) (by omega)).trans hrP
        have hrQ := (fr3 81 (by omega) (by omega) (by omega) (by omega) (by omega)).trans hrQ
        have hbns := (fr3 83 (by omega) (by omega) (by omega) (by omega) (by omega)).trans hbns
        have hs8 : s0 < 8 := hnx.1
        have hct9 := ct_nat (hPQ s0 hs8) hw.2 hh.2 hw.1 hh.1
        have hk9 : k0 < ctN (rP s0) (rQ s0) w h := hnx.2.2.1
        have hRn2 : Rn w h (fun j => Nat.testBit M j && tol j) (fun j c => bnN (rP j) (rQ j) w h (c % 16) (c / 16)) (fun j => ctN (rP j) (rQ j) w h) (fun j k => bns (481 * j + k)) (n + 1) (va_up K9 c0 true) (va_up val c0 (le9 (481 * s0 + k0))) := ⟨K9, val, s0, k0, hRn, hnx, by rw [hc0], by rw [hc0, (hrow s0 hs8 hnx.2.1 k0 (by omega)).2]⟩
        have hle2 := Rn_le hRn2 hw.2 hh.2
        have htv2 : ∀ c, va_up K9 c0 true c = true → upd tri9 c0 (le9 (481 * s0 + k0)) c = va_up val c0 (le9 (481 * s0 + k0)) c := fun c z => by
          by_cases hcc : c = c0
          · subst hcc; rw [pk_us, va_up_self]
          · rw [pk_un hcc, va_up_ne _ _ hcc]; rw [va_up_ne _ _ hcc] at z; exact htv c z
        have hkn2 : ∀ c, c < 256 → uP kno9 c0 true c = va_up K9 c0 true c := fun c z => by
          by_cases hcc : c = c0
          · subst hcc; rw [uP_s, va_up_self]
          · rw [uP_n hcc, va_up_ne _ _ hcc]; exact hkn c z
        refine v_aload_n C d_M_comes_21 rfl 0 rfl ?_
        refine v_iload_n C d_M_comes_22 rfl 1 rfl ?_
        refine v_callVI (As := [.int (iI (M : Int))]) (st := []) (by omega) hm rfl rfl C (c_single l th w h kp hb ((n : Int) + 1) sq wm M hM (va_up K9 c0 true) (va_up val c0 (le9 (481 * s0 + k0))) hw hh hm tol htol rP hrP rQ hrQ un1 hunk hPQ le1 bns hrow1) (lk_M_154 C.1.2.2.2.2 rfl rfl ⟨Nat.le_of_ble_eq_true rfl, Nat.le_of_ble_eq_true rfl⟩) rfl rfl (Nat.le_of_ble_eq_true rfl) d_M_comes_23 ⟨Nat.le_of_ble_eq_true rfl, Nat.le_of_ble_eq_true rfl⟩ (fun w4 ad4 g4 hp4 => ?_)
        obtain ⟨pl4, rfl, hpl4, rfl, rfl⟩ := hp4
        refine v_istore_n (lv' := [(2, .int (iI pl4)), (0, .ref (ad 73)), (1, .int (iI (M : Int)))]) C d_M_comes_26 rfl (by decide) rfl ?_
        refine v_goto C d_M_comes_27 ?_
        refine v_lv (lv' := [(0, .ref (ad 73)), (1, .int (iI (M : Int))), (2, .int (iI pl4))]) [1, 2, 0] rfl ?_
        exact ih11 (n + 1) (va_up K9 c0 true) (va_up val c0 (le9 (481 * s0 + k0))) _ _ un1 le1 pl4 _ (by clear hpl hpl4; omega) hRn2 hkn2 htv2 hrow1 (plb hPQ hw hh hpl4) hpl4 (fun r1 n0 n1 n2 n3 n4 => ((fr3 r1 n0 n1 n2 n3 n4).trans (hfr11 r1 n0 n1 n2 n3 n4))) (by rw [show ((n + 1 : Nat) : Int) = (n : Int) + 1 by omega]; exact hm) htri hkno hunk hlef
  exact L11 _ 0 (fun _ => false) (fun _ => 0) tri kn0 un0 le0 pl2 _ (Nat.lt_succ_self _) ⟨rfl, rfl⟩ hkn0 (fun c z => absurd z (by decide)) hrow0 (plb hPQ hw hh hpl2) hpl2 (fun r1 _ _ _ _ _ => rfl) hm htri hkno hunk hlef
set_option maxHeartbeats 1000000 in
set_option maxRecDepth 100000 in
theorem c_parts (l : Launch) {B : Nat} {D : va_G} {cI cZ cL cS cW : ClassId} {ad : Nat → Nat} {g : Nat → va_E} (th : Int) (w h : Nat) (kp hb : Bool) (tr sq wm : Int) (s0 : Nat) (hs : s0 < 8) (K9 : Nat → Bool) (val : Nat → Int32) (hall : ∀ c, c < 256 → c % 16 < w → c / 16 < h → K9 c = true) (hw : 1 ≤ w ∧ w ≤ 16) (hh : 1 ≤ h ∧ h ≤ 16) (hm : g 73 = mE ad th w h kp hb tr sq wm) (tri : Nat → Int32) (htri : g 77 = inA cI 256 tri) (rP : Nat → Int) (hrP : g 80 = inA cI 8 (jA rP)) (rQ : Nat → Int) (hrQ : g 81 = inA cI 8 (jA rQ)) (bns : Nat → Int32) (hbns : g 83 = inA cI 3848 bns) (sum : Nat → Int32) (hsum : g 91 = inA cI 481 sum) (hPQ : ∀ j, j < 8 → okD (rP j) (rQ j)) (htv : ∀ c, K9 c = true → tri c = val c) : Met l y_M_parts (Cond.code y_M_parts b_M_parts 4 (some .int) :: wG) (rmF 2 75 0 0) (wPc B D classes (tyL cI cZ cL cS cW) (Zs B) 95 [.ref (ad 73), .int (iI (s0 : Int))] ad g) (QI B D classes 95 (fun v ad1 g1 => ((∃ k0 : Nat, k0 < ctN (rP s0) (rQ s0) w h ∧ v = iI (k0 : Int) ∧ rst w h K9 (fun c => bnN (rP s0) (rQ s0) w h (c % 16) (c / 16)) (fun k => bns (481 * s0 + k)) val k0 ≠ 0 ∧ ∀ k, k < k0 → rst w h K9 (fun c => bnN (rP s0) (rQ s0) w h (c % 16) (c / 16)) (fun k => bns (481 * s0 + k)) val k = 0) ∨ (v = iI (-1) ∧ ∀ k, k < ctN (rP s0) (rQ s0) w h → rst w h K9 (fun c => bnN (rP s0) (rQ s0) w h (c % 16) (c / 16)) (fun k => bns (481 * s0 + k)) val k = 0)) ∧ ad = ad1 ∧ (∃ f1, g1 91 = inA cI 481 f1) ∧ ∀ r1, r1 ≠ 91 → g1 r1 = g r1)) 0 0 (aB B) := by
  refine ofI (own := R_M) (by decide) rfl (Nat.le_of_ble_eq_true rfl) ?_
  intro p e s m below meth c Q C hnm hret
  change kV _ _ _ _ _ _ _ _ _ _ _ _ _ _ _ _ _ _ _ _ _ [(0, .ref (ad 73)), (1, .int (iI (s0 : Int)))] _ _
  refine v_aload_n C d_M_parts_0 rfl 0 rfl ?_
  refine v_iload_n C d_M_parts_1 rfl 1 rfl ?_
  refine v_aload_n C d_M_parts_2 rfl 0 rfl ?_
  refine gf_M_26 C (by omega) hm rfl d_M_parts_3 ?_
  refine v_callVV (As := [.int (iI (s0 : Int)), .ref (ad 77)]) (st := []) (by omega) hm rfl rfl C (c_sumUp l th w h kp hb tr sq wm s0 77 tri hs (by omega) htri hw hh hm rP hrP rQ hrQ sum hsum hPQ) (lk_M_124 C.1.2.2.2.2 rfl rfl ⟨Nat.le_of_ble_eq_true rfl, Nat.le_of_ble_eq_true rfl⟩) rfl rfl (Nat.le_of_ble_eq_true rfl) d_M_parts_6 ⟨Nat.le_of_ble_eq_true rfl, Nat.le_of_ble_eq_true rfl⟩ (fun ad1 g1 hp1 => ?_)
  obtain ⟨rfl, hsum, fr1⟩ := hp1
  have hm := (fr1 73 (by omega)).trans hm
  have htri := (fr1 77 (by omega)).trans htri
  have hrP := (fr1 80 (by omega)).trans hrP
  have hrQ := (fr1 81 (by omega)).trans hrQ
  have hbns := (fr1 83 (by omega)).trans hbns
  refine v_aload_n C d_M_parts_9 rfl 0 rfl ?_
  refine v_iload_n C d_M_parts_10 rfl 1 rfl ?_
  refine v_callVI (As := [.int (iI (s0 : Int))]) (st := []) (by omega) hm rfl rfl C (c_binsOf l th w h kp hb tr sq wm s0 (by omega) hm rP hrP rQ hrQ hPQ) (lk_M_117 C.1.2.2.2.2 rfl rfl ⟨Nat.le_of_ble_eq_true rfl, Nat.le_of_ble_eq_true rfl⟩) rfl rfl (Nat.le_of_ble_eq_true rfl) d_M_parts_11 ⟨Nat.le_of_ble_eq_true rfl, Nat.le_of_ble_eq_true rfl⟩ (fun w2 ad2 g2 hp2 => ?_)
  obtain ⟨rfl, rfl, rfl⟩ := hp2
  obtain ⟨hct1, hct2, hct3⟩ := ct_nat (hPQ s0 (by omega)) hw.2 hh.2 hw.1 hh.1
  refine v_istore_n (lv' := [(2, .int (iI (ctI (rP s0) (rQ s0) w h))), (0, .ref (ad 73)), (1, .int (iI (s0 : Int)))]) C d_M_parts_14 rfl (by decide) rfl ?_
  refine v_iconst C d_M_parts_15 ?_
  refine v_istore_n (lv' := [(3, .int (iI 0)), (2, .int (iI (ctI (rP s0) (rQ s0) w h))), (0, .ref (ad 73)), (1, .int (iI (s0 : Int)))]) C d_M_parts_16 rfl (by decide) rfl ?_
  refine v_lv (lv' := [(0, .ref (ad 73)), (1, .int (iI (s0 : Int))), (2, .int (iI (ctI (rP s0) (rQ s0) w h))), (3, .int (iI 0))]) [2, 3, 1, 0] rfl ?_
  have L17 : ∀ (d9 : Nat) (k : Nat), 481 - k < d9 → (k ≤ ctN (rP s0) (rQ s0) w h) → (∀ k', k' < k → rst w h K9 (fun c => bnN (rP s0) (rQ s0) w h (c % 16) (c / 16)) (fun k => bns (481 * s0 + k)) val k' = 0) → kV p l e (rmF 2 75 0 0) s m ([.ref (ad 73), .int (iI (s0 : Int))] : List Value).toArray below meth c Q s.heap B D classes 4 95 0 0 ad g1 [(0, .ref (ad 73)), (1, .int (iI (s0 : Int))), (2, .int (iI (ctI (rP s0) (rQ s0) w h))), (3, .int (iI (k : Int)))] [] 17 := by
    intro d9
    induction d9 with
    | zero => intro k hd9; exact absurd hd9 (Nat.not_lt_zero _)
    | succ d9 ih17 =>
      intro k hd17 hk hkz
      refine v_iload_n C d_M_parts_17 rfl 3 rfl ?_
      refine v_iload_n C d_M_parts_18 rfl 2 rfl ?_
      refine v_icmp_geI C d_M_parts_19 (by omega) (by omega) (by omega) (by omega) (fun hb19 => ?_) (fun hb19 => ?_)
      · refine v_iconst C d_M_parts_51 ?_
        exact hret _ _ _ _ _ _ _ (Nat.zero_le _) (Nat.zero_le _) d_M_parts_52 ⟨Or.inr ⟨rfl, fun k' hk' => hkz k' (by omega)⟩, rfl, ⟨_, hsum⟩, (fun r1 n0 => (fr1 r1 n0))⟩
      · refine v_aload_n C d_M_parts_22 rfl 0 rfl ?_
        refine gf_M_69 C (by omega) hm rfl d_M_parts_23 ?_
        refine v_iload_n C d_M_parts_26 rfl 3 rfl ?_
        refine v_iald C 0 (by omega) hsum rfl (k : Nat) (by omega) (by omega) (by omega) d_M_parts_27 ?_
        refine v_aload_n C d_M_parts_28 rfl 0 rfl ?_
        refine gf_M_45 C (by omega) hm rfl d_M_parts_29 ?_
        refine v_sipush C d_M_parts_32 (by decide +kernel) ?_
        refine v_iload_n C d_M_parts_35 rfl 1 rfl ?_
        refine v_imulI C d_M_parts_36 ?_
        refine v_iload_n C d_M_parts_37 rfl 3 rfl ?_
        refine v_iaddI C d_M_parts_38 ?_
        refine v_iald C 0 (by omega) hbns rfl (481 * s0 + k) (by omega) (by omega) (by omega) d_M_parts_39 ?_
        refine v_icmp_eq C d_M_parts_40 (fun hb40 => ?_) (fun hb40 => ?_)
        · refine v_iinc (lv' := [(3, .int (iI ((k : Int) + 1))), (0, .ref (ad 73)), (1, .int (iI (s0 : Int))), (2, .int (iI (ctI (rP s0) (rQ s0) w h)))]) C d_M_parts_45 3 rfl (by decide) rfl ?_
          refine v_goto C d_M_parts_48 ?_
          refine v_lv (lv' := [(0, .ref (ad 73)), (1, .int (iI (s0 : Int))), (2, .int (iI (ctI (rP s0) (rQ s0) w h))), (3, .int (iI ((k : Int) + 1)))]) [1, 2, 3, 0] rfl ?_
          exact ih17 (k + 1) (by omega) (by omega) (fun k' hk' => by by_cases e9 : k' = k; (subst e9; exact (rst_0 (bn := bnN (rP s0) (rQ s0) w h) (bv := fun k => bns (481 * s0 + k)) (k := k') hw.2 hh.2 hall htv).mpr hb40); exact hkz k' (by omega))
        · refine v_iload_n C d_M_parts_43 rfl 3 rfl ?_
          exact hret _ _ _ _ _ _ _ (Nat.zero_le _) (Nat.zero_le _) d_M_parts_44 ⟨Or.inl ⟨k, by omega, rfl, fun z => hb40 ((rst_0 (bn := bnN (rP s0) (rQ s0) w h) (bv := fun k => bns (481 * s0 + k)) (k := k) hw.2 hh.2 hall htv).mp z), hkz⟩, rfl, ⟨_, hsum⟩, (fun r1 n0 => (fr1 r1 n0))⟩
  exact L17 _ 0 (Nat.lt_succ_self _) (by omega) (fun k' hk' => absurd hk' (by omega))
set_option maxHeartbeats 1000000 in
set_option maxRecDepth 100000 in
theorem c_disagrees (l : Launch) {B : Nat} {D : va_G} {cI cZ cL cS cW : ClassId} {ad : Nat → Nat} {g : Nat → va_E} (th : Int) (w h : Nat) (kp hb : Bool) (tr sq wm : Int) (M : Nat) (hM : M < 256) (K9 : Nat → Bool) (val : Nat → Int32) (hall : ∀ c, c < 256 → c % 16 < w → c / 16 < h → K9 c = true) (hw : 1 ≤ w ∧ w ≤ 16) (hh : 1 ≤ h ∧ h ≤ 16) (hm : g 73 = mE ad th w h kp hb tr sq wm) (tri : Nat → Int32) (htri : g 77 = inA cI 256 tri) (tol : Nat → Bool) (htol : g 79 = inA cZ 8 (bA tol)) (rP : Nat → Int) (hrP : g 80 = inA cI 8 (jA rP)) (rQ : Nat → Int) (hrQ : g 81 = inA cI 8 (jA rQ)) (bns : Nat → Int32) (hbns : g 83 = inA cI 3848 bns) (sum : Nat → Int32) (hsum : g 91 = inA cI 481 sum) (hPQ : ∀ j, j < 8 → okD (rP j) (rQ j)) (htv : ∀ c, K9 c = true → tri c = val c) : Met l y_M_disagrees (Cond.code y_M_disagrees b_M_disagrees 3 (some .int) :: wG) (rmF 3 110 0 0) (wPc B D classes (tyL cI cZ cL cS cW) (Zs B) 95 [.ref (ad 73), .int (iI (M : Int))] ad g) (QI B D classes 95 (fun v ad1 g1 => ((∃ s0 k0 : Nat, s0 < 8 ∧ (Nat.testBit M s0 && tol s0) = true ∧ k0 < ctN (rP s0) (rQ s0) w h ∧ rst w h K9 (fun c => bnN (rP s0) (rQ s0) w h (c % 16) (c / 16)) (fun k => bns (481 * s0 + k)) val k0 ≠ 0 ∧ (∀ k, k < k0 → rst w h K9 (fun c => bnN (rP s0) (rQ s0) w h (c % 16) (c / 16)) (fun k => bns (481 * s0 + k)) val k = 0) ∧ (∀ j, j < s0 → (Nat.testBit M j && tol j) = true → ∀ k, k < ctN (rP j) (rQ j) w h → rst w h K9 (fun c => bnN (rP j) (rQ j) w h (c % 16) (c / 16)) (fun k => bns (481 * j + k)) val k = 0) ∧ v = iI (s0 : Int)) ∨ (v = iI 99 ∧ ∀ j, j < 8 → (Nat.testBit M j && tol j) = true → ∀ k, k < ctN (rP j) (rQ j) w h → rst w h K9 (fun c => bnN (rP j) (rQ j) w h (c % 16) (c / 16)) (fun k => bns (481 * j + k)) val k = 0)) ∧ ad = ad1 ∧ (∃ f1, g1 91 = inA cI 481 f1) ∧ ∀ r1, r1 ≠ 91 → g1 r1 = g r1)) 0 0 (aB B) := by
  refine ofI (own := R_M) (by decide) rfl (Nat.le_of_ble_eq_true rfl) ?_
  intro p e s m below meth c Q C hnm hret
  change kV _ _ _ _ _ _ _ _ _ _ _ _ _ _ _ _ _ _ _ _ _ [(0, .ref (ad 73)), (1, .int (iI (M : Int)))] _ _
  refine v_iconst C d_M_disagrees_0 ?_
  refine v_istore_n (lv' := [(2, .int (iI 0)), (0, .ref (ad 73)), (1, .int (iI (M : Int)))]) C d_M_disagrees_1 rfl (by decide) rfl ?_
  refine v_lv (lv' := [(0, .ref (ad 73)), (1, .int (iI (M : Int))), (2, .int (iI 0))]) [1, 2, 0] rfl ?_
  have L2 : ∀ (d9 : Nat) (j : Nat) (f9 : Nat → Int32) (G2 : Nat → va_E), 8 - j < d9 → (j ≤ 8) → (∀ j1, j1 < j → (Nat.testBit M j1 && tol j1) = true → ∀ k, k < ctN (rP j1) (rQ j1) w h → rst w h K9 (fun c => bnN (rP j1) (rQ j1) w h (c % 16) (c / 16)) (fun k => bns (481 * j1 + k)) val k = 0) → (∀ r1, r1 ≠ 91 → G2 r1 = g r1) → G2 91 = inA cI 481 f9 → kV p l e (rmF 3 110 0 0) s m ([.ref (ad 73), .int (iI (M : Int))] : List Value).toArray below meth c Q s.heap B D classes 3 95 0 0 ad G2 [(0, .ref (ad 73)), (1, .int (iI (M : Int))), (2, .int (iI (j : Int)))] [] 2 := by
    intro d9
    induction d9 with
    | zero => intro j f9 G2 hd9; exact absurd hd9 (Nat.not_lt_zero _)
    | succ d9 ih2 =>
      intro j f9 G2 hd2 hj hzz hfr2 hsum
      have hm := (hfr2 73 (by omega)).trans hm
      have htri := (hfr2 77 (by omega)).trans htri
      have htol := (hfr2 79 (by omega)).trans htol
      have hrP := (hfr2 80 (by omega)).trans hrP
      have hrQ := (hfr2 81 (by omega)).trans hrQ
      have hbns := (hfr2 83 (by omega)).trans hbns
      refine v_iload_n C d_M_disagrees_2 rfl 2 rfl ?_
      refine v_bipush C d_M_disagrees_3 (by decide +kernel) ?_
      refine v_icmp_geI C d_M_disagrees_5 (by omega) (by omega) (by omega) (by omega) (fun hb5 => ?_) (fun hb5 => ?_)
      · refine v_bipush C d_M_disagrees_33 (by decide +kernel) ?_
        exact hret _ _ _ _ _ _ _ (Nat.zero_le _) (Nat.zero_le _) d_M_disagrees_35 ⟨Or.inr ⟨rfl, fun i hi q => hzz i (by omega) q⟩, rfl, ⟨_, hsum⟩, (fun r1 n0 => (hfr2 r1 n0))⟩
      · refine v_aload_n C d_M_disagrees_8 rfl 0 rfl ?_
        refine v_iload_n C d_M_disagrees_9 rfl 1 rfl ?_
        refine v_iload_n C d_M_disagrees_10 rfl 2 rfl ?_
        refine v_callVI (As := [.int (iI (M : Int)), .int (iI (j : Int))]) (st := []) (by omega) hm rfl rfl C (c_isOf l th w h kp hb tr sq wm M j hM (by omega) hm tol htol) (lk_M_134 C.1.2.2.2.2 rfl rfl ⟨Nat.le_of_ble_eq_true rfl, Nat.le_of_ble_eq_true rfl⟩) rfl rfl (Nat.le_of_ble_eq_true rfl) d_M_disagrees_11 ⟨Nat.le_of_ble_eq_true rfl, Nat.le_of_ble_eq_true rfl⟩ (fun w1 ad1 g1 hp1 => ?_)
        obtain ⟨_, rfl, rfl, rfl, rfl⟩ := hp1
        refine v_if_eqB C d_M_disagrees_14 (fun hb14 => ?_) (fun hb14 => ?_)
        · refine v_iinc (lv' := [(2, .int (iI ((j : Int) + 1))), (0, .ref (ad 73)), (1, .int (iI (M : Int)))]) C d_M_disagrees_27 2 rfl (by decide) rfl ?_
          refine v_goto C d_M_disagrees_30 ?_
          refine v_lv (lv' := [(0, .ref (ad 73)), (1, .int (iI (M : Int))), (2, .int (iI ((j : Int) + 1)))]) [1, 2, 0] rfl ?_
          exact ih2 (j + 1) f9 _ (by omega) (by omega) (fun i hi q => by by_cases e9 : i = j; (subst e9; first | exact hz0 | (exfalso; omega) | exact absurd (hb14.symm.trans q) (by decide)); exact hzz i (by omega) q) (fun r1 n0 => (hfr2 r1 n0)) hsum
        · refine v_aload_n C d_M_disagrees_17 rfl 0 rfl ?_
          refine v_iload_n C d_M_disagrees_18 rfl 2 rfl ?_
          refine v_callVI (As := [.int (iI (j : Int))]) (st := []) (by omega) hm rfl rfl C (c_parts l th w h kp hb tr sq wm j (by omega) K9 val hall hw hh hm tri htri rP hrP rQ hrQ bns hbns f9 hsum hPQ htv) (lk_M_161 C.1.2.2.2.2 rfl rfl ⟨Nat.le_of_ble_eq_true rfl, Nat.le_of_ble_eq_true rfl⟩) rfl rfl (Nat.le_of_ble_eq_true rfl) d_M_disagrees_19 ⟨Nat.le_of_ble_eq_true rfl, Nat.le_of_ble_eq_true rfl⟩ (fun w2 ad2 g2 hp2 => ?_)
          obtain ⟨hc2, rfl, ⟨f2, hsum⟩, fr2⟩ := hp2
          have hm := (fr2 73 (by omega)).trans hm
          have htri := (fr2 77 (by omega)).trans htri
          have htol := (fr2 79 (by omega)).trans htol
          have hrP := (fr2 80 (by omega)).trans hrP
          have hrQ := (fr2 81 (by omega)).trans hrQ
          have hbns := (fr2 83 (by omega)).trans hbns
          obtain ⟨k0, hk0, rfl, hne0, hbe0⟩ | ⟨rfl, hz0⟩ := hc2
          · have hct9 := ct_nat (hPQ j (by omega)) hw.2 hh.2 hw.1 hh.1
            refine v_if_ltI C d_M_disagrees_22 (by omega) (by omega) (fun hb22 => ?_) (fun hb22 => ?_)
            · refine v_iinc (lv' := [(2, .int (iI ((j : Int) + 1))), (0, .ref (ad 73)), (1, .int (iI (M : Int)))]) C d_M_disagrees_27 2 rfl (by decide) rfl ?_
              refine v_goto C d_M_disagrees_30 ?_
              refine v_lv (lv' := [(0, .ref (ad 73)), (1, .int (iI (M : Int))), (2, .int (iI ((j : Int) + 1)))]) [1, 2, 0] rfl ?_
              exact ih2 (j + 1) f2 _ (by omega) (by omega) (fun i hi q => by by_cases e9 : i = j; (subst e9; first | exact hz0 | (exfalso; omega) | exact absurd (hb14.symm.trans q) (by decide)); exact hzz i (by omega) q) (fun r1 n0 => ((fr2 r1 n0).trans (hfr2 r1 n0))) hsum
            · refine v_iload_n C d_M_disagrees_25 rfl 2 rfl ?_
              exact hret _ _ _ _ _ _ _ (Nat.zero_le _) (Nat.zero_le _) d_M_disagrees_26 ⟨Or.inl ⟨j, k0, by omega, hb14, hk0, hne0, hbe0, hzz, rfl⟩, rfl, ⟨_, hsum⟩, (fun r1 n0 => ((fr2 r1 n0).trans (hfr2 r1 n0)))⟩
          · -- none
            refine v_if_ltI C d_M_disagrees_22 (by omega) (by omega) (fun _ => ?_) (fun hz9 => absurd hz9 (by omega))
            refine v_iinc (lv' := [(2, .int (iI ((j : Int) + 1))), (0, .ref (ad 73)), (1, .int (iI (M : Int)))]) C d_M_disagrees_27 2 rfl (by decide) rfl ?_
            refine v_goto C d_M_disagrees_30 ?_
            refine v_lv (lv' := [(0, .ref (ad 73)), (1, .int (iI (M : Int))), (2, .int (iI ((j : Int) + 1)))]) [1, 2, 0] rfl ?_
            exact ih2 (j + 1) f2 _ (by omega) (by omega) (fun i hi q => by by_cases e9 : i = j; (subst e9; first | exact hz0 | (exfalso; omega) | exact absurd (hb14.symm.trans q) (by decide)); exact hzz i (by omega) q) (fun r1 n0 => ((fr2 r1 n0).trans (hfr2 r1 n0))) hsum
  exact L2 _ 0 sum _ (Nat.lt_succ_self _) (by omega) (fun i hi => absurd hi (by omega)) (fun r1 _ => rfl) hsum
