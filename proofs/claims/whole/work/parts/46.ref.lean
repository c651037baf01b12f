def lck (M : Nat) (tol fil : Nat → Bool) (j : Nat) : Prop := ∃ i, i < j ∧ (Nat.testBit M i && tol i) = true ∧ fil i = false
theorem lck_0 {M : Nat} {tol fil : Nat → Bool} : ¬ lck M tol fil 0 := fun ⟨i, h, _⟩ => absurd h (Nat.not_lt_zero _)
theorem lck_s {M j : Nat} {tol fil : Nat → Bool} : lck M tol fil (j + 1) ↔ lck M tol fil j ∨ ((Nat.testBit M j && tol j) = true ∧ fil j = false) := by
  constructor
  · rintro ⟨i, h1, h2⟩
    by_cases e : i = j
    · subst e; exact Or.inr h2
    · exact Or.inl ⟨i, by omega, h2⟩
  · rintro (⟨i, h1, h2⟩ | h)
    · exact ⟨i, by omega, h2⟩
    · exact ⟨j, by omega, h⟩
def agm (w h : Nat) (tol : Nat → Bool) (rP rQ : Nat → Int) (bns : Nat → Int32) (M : Nat) : Prop := ∃ (n : Nat) (K9 : Nat → Bool) (val : Nat → Int32), Dn w h (fun j => Nat.testBit M j && tol j) (fun j c => bnN (rP j) (rQ j) w h (c % 16) (c / 16)) (fun j => ctN (rP j) (rQ j) w h) (fun j k => bns (481 * j + k)) n K9 val ∧ n = w * h ∧ ∀ j, j < 8 → (Nat.testBit M j && tol j) = true → ∀ k, k < ctN (rP j) (rQ j) w h → rst w h K9 (fun c => bnN (rP j) (rQ j) w h (c % 16) (c / 16)) (fun k => bns (481 * j + k)) val k = 0
theorem agm_iff {w h M n : Nat} {tol : Nat → Bool} {rP rQ : Nat → Int} {bns : Nat → Int32} {K9 : Nat → Bool} {val : Nat → Int32} (H : Dn w h (fun j => Nat.testBit M j && tol j) (fun j c => bnN (rP j) (rQ j) w h (c % 16) (c / 16)) (fun j => ctN (rP j) (rQ j) w h) (fun j k => bns (481 * j + k)) n K9 val) : agm w h tol rP rQ bns M ↔ n = w * h ∧ ∀ j, j < 8 → (Nat.testBit M j && tol j) = true → ∀ k, k < ctN (rP j) (rQ j) w h → rst w h K9 (fun c => bnN (rP j) (rQ j) w h (c % 16) (c / 16)) (fun k => bns (481 * j + k)) val k = 0 := by
  constructor
  · rintro ⟨n', K', v', h1, h2, h3⟩
    obtain ⟨rfl, rfl, rfl⟩ := Dn_uniq H h1
    exact ⟨h2, h3⟩
  · exact fun q => ⟨n, K9, val, H, q.1, q.2⟩
theorem pow_le_bit : ∀ M : Nat, M < 256 → ∀ s : Nat, s < 8 → Nat.testBit M s = true → 2 ^ s ≤ M := by decide +kernel
set_option maxHeartbeats 1000000 in
set_option maxRecDepth 100000 in
theorem c_Mrebuild (l : Launch) {B : Nat} {D : va_G} {cI cZ cL cS cW : ClassId} {ad : Nat → Nat} {g : Nat → va_E} (th : Int) (w h : Nat) (kp hb : Bool) (tr sq wm : Int) (z : Int) (z1 : -2147483648 ≤ z) (z2 : z < 2147483648) (hw : 1 ≤ w ∧ w ≤ 16) (hh : 1 ≤ h ∧ h ≤ 16) (hm : g 73 = mE ad th w h kp hb tr sq wm) (reb : Nat → Int32) (hreb : g 76 = inA cI 256 reb) (tri : Nat → Int32) (htri : g 77 = inA cI 256 tri) (kno : Nat → Bool) (hkno : g 78 = inA cZ 256 (bA kno)) (tol : Nat → Bool) (htol : g 79 = inA cZ 8 (bA tol)) (rP : Nat → Int) (hrP : g 80 = inA cI 8 (jA rP)) (rQ : Nat → Int) (hrQ : g 81 = inA cI 8 (jA rQ)) (fil : Nat → Bool) (hfil : g 82 = inA cZ 8 (bA fil)) (bns : Nat → Int32) (hbns : g 83 = inA cI 3848 bns) (unk : Nat → Int32) (hunk : g 89 = inA cI 3848 unk) (lef : Nat → Int32) (hlef : g 90 = inA cI 3848 lef) (sum : Nat → Int32) (hsum : g 91 = inA cI 481 sum) (hPQ : ∀ j, j < 8 → okD (rP j) (rQ j)) : Met l y_M_rebuild (Cond.code y_M_rebuild b_M_rebuild 5 (some .int) :: wG) (rmF 4 140 0 0) (wPc B D classes (tyL cI cZ cL cS cW) (Zs B) 95 [.ref (ad 73), .int (iI z)] ad g) (QI B D classes 95 (fun v ad1 g1 => (¬ (0 ≤ z ∧ z < 256) ∧ g1 73 = mE ad 1 w h kp hb tr sq wm ∧ ad = ad1 ∧ ∀ r1, r1 ≠ 73 → g1 r1 = g r1) ∨ ((0 ≤ z ∧ z < 256) ∧ lck z.toNat tol fil 8 ∧ g1 73 = mE ad 2 w h kp hb tr sq wm ∧ ad = ad1 ∧ ∀ r1, r1 ≠ 73 → g1 r1 = g r1) ∨ ((0 ≤ z ∧ z < 256) ∧ ¬ lck z.toNat tol fil 8 ∧ ∃ (n : Nat) (K9 : Nat → Bool) (val rb1 : Nat → Int32) (hb1 : Bool) (wm1 : Int), Dn w h (fun j => Nat.testBit z.toNat j && tol j) (fun j c => bnN (rP j) (rQ j) w h (c % 16) (c / 16)) (fun j => ctN (rP j) (rQ j) w h) (fun j k => bns (481 * j + k)) n K9 val ∧ ((n < w * h ∧ v = iI (-1) ∧ rb1 = reb ∧ hb1 = hb ∧ wm1 = -1) ∨ (n = w * h ∧ hb1 = true ∧ (∀ c, K9 c = true → rb1 c = val c) ∧ ((v = iI 99 ∧ wm1 = -1 ∧ ∀ j, j < 8 → (Nat.testBit z.toNat j && tol j) = true → ∀ k, k < ctN (rP j) (rQ j) w h → rst w h K9 (fun c => bnN (rP j) (rQ j) w h (c % 16) (c / 16)) (fun k => bns (481 * j + k)) val k = 0) ∨ (∃ s0 k0 : Nat, s0 < 8 ∧ (Nat.testBit z.toNat s0 && tol s0) = true ∧ k0 < ctN (rP s0) (rQ s0) w h ∧ rst w h K9 (fun c => bnN (rP s0) (rQ s0) w h (c % 16) (c / 16)) (fun k => bns (481 * s0 + k)) val k0 ≠ 0 ∧ (∀ k, k < k0 → rst w h K9 (fun c => bnN (rP s0) (rQ s0) w h (c % 16) (c / 16)) (fun k => bns (481 * s0 + k)) val k = 0) ∧ (∀ j, j < s0 → (Nat.testBit z.toNat j && tol j) = true → ∀ k, k < ctN (rP j) (rQ j) w h → rst w h K9 (fun c => bnN (rP j) (rQ j) w h (c % 16) (c / 16)) (fun k => bns (481 * j + k)) val k = 0) ∧ v = iI (s0 : Int) ∧ wm1 = (k0 : Int))))) ∧ ad = ad1 ∧ g1 73 = mE ad 0 w h kp hb1 (n : Int) (n : Int) wm1 ∧ g1 76 = inA cI 256 rb1 ∧ (∃ (tr1 un1 le1 f1 : Nat → Int32) (kn1 : Nat → Bool), g1 77 = inA cI 256 tr1 ∧ g1 78 = inA cZ 256 (bA kn1) ∧ g1 89 = inA cI 3848 un1 ∧ g1 90 = inA cI 3848 le1 ∧ g1 91 = inA cI 481 f1) ∧ ∀ r1, r1 ≠ 73 → r1 ≠ 76 → r1 ≠ 77 → r1 ≠ 78 → r1 ≠ 89 → r1 ≠ 90 → r1 ≠ 91 → g1 r1 = g r1))) 0 0 (aB B) := by
  refine ofI (own := R_M) (by decide) rfl (Nat.le_of_ble_eq_true rfl) ?_
  intro p e s m below meth c Q C hnm hret
  change kV _ _ _ _ _ _ _ _ _ _ _ _ _ _ _ _ _ _ _ _ _ [(0, .ref (ad 73)), (1, .int (iI z))] _ _
  have J51 : ∀ (la : Bool), (la = true ↔ ((0 ≤ z ∧ z < 256) ∧ lck z.toNat tol fil 8)) → kV p l e (rmF 4 140 0 0) s m ([.ref (ad 73), .int (iI z)] : List Value).toArray below meth c Q s.heap B D classes 5 95 0 0 ad g [(0, .ref (ad 73)), (1, .int (iI z)), (2, .int (bI la))] [] 51 := by
    intro la hla
    refine v_aload_n C d_M_rebuild_51 rfl 0 rfl ?_
    have J64 : ∀ a : Bool, (a = true ↔ ¬ (0 ≤ z ∧ z < 256)) → kV p l e (rmF 4 140 0 0) s m ([.ref (ad 73), .int (iI z)] : List Value).toArray below meth c Q s.heap B D classes 5 95 0 0 ad g [(0, .ref (ad 73)), (1, .int (iI z)), (2, .int (bI la))] [.int (bI a), .ref (ad 73)] 64 := by
      intro a ha
      refine v_iload_n C d_M_rebuild_64 rfl 2 rfl ?_
      refine v_callVI (As := [.int (bI a), .int (bI la)]) (st := []) (by omega) hm rfl rfl C (c_throwing l th w h kp hb tr sq wm a la hm) (lk_M_88 C.1.2.2.2.2 rfl rfl ⟨Nat.le_of_ble_eq_true rfl, Nat.le_of_ble_eq_true rfl⟩) rfl rfl (Nat.le_of_ble_eq_true rfl) d_M_rebuild_65 ⟨Nat.le_of_ble_eq_true rfl, Nat.le_of_ble_eq_true rfl⟩ (fun w1 ad1 g1 hp1 => ?_)
      obtain ⟨vt1, rfl, hc1, rfl, fr1⟩ := hp1
      rcases hc1 with ⟨ta65, rfl, hm⟩ | ⟨ta65, tb65, rfl, hm⟩ | ⟨ta65, tb65, rfl, hm⟩
      · -- way 1
        have hreb := (fr1 76 (by omega)).trans hreb
        have htri := (fr1 77 (by omega)).trans htri
        have hkno := (fr1 78 (by omega)).trans hkno
        have htol := (fr1 79 (by omega)).trans htol
        have hrP := (fr1 80 (by omega)).trans hrP
        have hrQ := (fr1 81 (by omega)).trans hrQ
        have hfil := (fr1 82 (by omega)).trans hfil
        have hbns := (fr1 83 (by omega)).trans hbns
        have hunk := (fr1 89 (by omega)).trans hunk
        have hlef := (fr1 90 (by omega)).trans hlef
        have hsum := (fr1 91 (by omega)).trans hsum
        refine v_if_eqB C d_M_rebuild_68 (fun hz9 => absurd hz9 (by decide)) (fun _ => ?_)
        refine v_iconst C d_M_rebuild_71 ?_
        exact hret _ _ _ _ _ _ _ (Nat.zero_le _) (Nat.zero_le _) d_M_rebuild_72 (Or.inl ⟨ha.mp ta65, hm, rfl, (fun r1 n0 => (fr1 r1 n0))⟩)
      · -- way 2
        have hreb := (fr1 76 (by omega)).trans hreb
        have htri := (fr1 77 (by omega)).trans htri
        have hkno := (fr1 78 (by omega)).trans hkno
        have htol := (fr1 79 (by omega)).trans htol
        have hrP := (fr1 80 (by omega)).trans hrP
        have hrQ := (fr1 81 (by omega)).trans hrQ
        have hfil := (fr1 82 (by omega)).trans hfil
        have hbns := (fr1 83 (by omega)).trans hbns
        have hunk := (fr1 89 (by omega)).trans hunk
        have hlef := (fr1 90 (by omega)).trans hlef
        have hsum := (fr1 91 (by omega)).trans hsum
        refine v_if_eqB C d_M_rebuild_68 (fun hz9 => absurd hz9 (by decide)) (fun _ => ?_)
        refine v_iconst C d_M_rebuild_71 ?_
        exact hret _ _ _ _ _ _ _ (Nat.zero_le _) (Nat.zero_le _) d_M_rebuild_72 (Or.inr (Or.inl ⟨(hla.mp tb65).1, (hla.mp tb65).2, hm, rfl, (fun r1 n0 => (fr1 r1 n0))⟩))
      · -- way 3
        have hreb := (fr1 76 (by omega)).trans hreb
        have htri := (fr1 77 (by omega)).trans htri
        have hkno := (fr1 78 (by omega)).trans hkno
        have htol := (fr1 79 (by omega)).trans htol
        have hrP := (fr1 80 (by omega)).trans hrP
        have hrQ := (fr1 81 (by omega)).trans hrQ
        have hfil := (fr1 82 (by omega)).trans hfil
        have hbns := (fr1 83 (by omega)).trans hbns
        have hunk := (fr1 89 (by omega)).trans hunk
        have hlef := (fr1 90 (by omega)).trans hlef
        have hsum := (fr1 91 (by omega)).trans hsum
        refine v_if_eqB C d_M_rebuild_68 (fun _ => ?_) (fun hz9 => absurd hz9 (by decide))
        have haA : (0 ≤ z ∧ z < 256) := Classical.byContradiction (fun q => absurd (ha.mpr q) (by rw [ta65]; decide))
        have hno : ¬ lck z.toNat tol fil 8 := fun q => absurd (hla.mpr ⟨haA, q⟩) (by rw [tb65]; decide)
        have hM0 : ((z.toNat : Nat) : Int) = z := by omega
        refine v_lvE (lv' := [(0, .ref (ad 73)), (1, .int (iI (z.toNat : Int))), (2, .int (bI la))]) (by rw [hM0]) ?_
        refine v_aload_n C d_M_rebuild_73 rfl 0 rfl ?_
        refine v_iload_n C d_M_rebuild_74 rfl 1 rfl ?_
        refine v_callVI (As := [.int (iI (z.toNat : Int))]) (st := []) (by omega) hm rfl rfl C (c_comes l 0 w h kp hb tr sq wm z.toNat (by omega) hw hh hm tri htri kno hkno tol htol rP hrP rQ hrQ bns hbns unk hunk lef hlef hPQ) (lk_M_164 C.1.2.2.2.2 rfl rfl ⟨Nat.le_of_ble_eq_true rfl, Nat.le_of_ble_eq_true rfl⟩) rfl rfl (Nat.le_of_ble_eq_true rfl) d_M_rebuild_75 ⟨Nat.le_of_ble_eq_true rfl, Nat.le_of_ble_eq_true rfl⟩ (fun w2 ad2 g2 hp2 => ?_)
        obtain ⟨be, rfl, n, K9, val, tr1, un1, le1, kn1, hbe, hdn, htv, rfl, hm, htri, hkno, hunk, hlef, fr2⟩ := hp2
        have hreb := (fr2 76 (by omega) (by omega) (by omega) (by omega) (by omega)).trans hreb
        have htol := (fr2 79 (by omega) (by omega) (by omega) (by omega) (by omega)).trans htol
        have hrP := (fr2 80 (by omega) (by omega) (by omega) (by omega) (by omega)).trans hrP
        have hrQ := (fr2 81 (by omega) (by omega) (by omega) (by omega) (by omega)).trans hrQ
        have hfil := (fr2 82 (by omega) (by omega) (by omega) (by omega) (by omega)).trans hfil
        have hbns := (fr2 83 (by omega) (by omega) (by omega) (by omega) (by omega)).trans hbns
        have hsum := (fr2 91 (by omega) (by omega) (by omega) (by omega) (by omega)).trans hsum
        have hle9 := Rn_le hdn.1 hw.2 hh.2
        refine v_istore_n (lv' := [(3, .int (bI be)), (0, .ref (ad 73)), (1, .int (iI (z.toNat : Int))), (2, .int (bI la))]) C d_M_rebuild_78 rfl (by decide) rfl ?_
        refine v_aload_n C d_M_rebuild_79 rfl 1 rfl ?_
        refine v_aload_n C d_M_rebuild_80 rfl 1 rfl ?_
        refine gf_M_143 C (by omega) hm rfl d_M_rebuild_81 ?_
        refine pf_M_167 (fs' := [.int (iI 0), .int (iI (w : Int)), .int (iI (h : Int)), .ref (ad 74), .ref (ad 75), .ref (ad 76), .ref (ad 77), .ref (ad 78), .int (bI kp), .int (bI hb), .ref (ad 79), .ref (ad 80), .ref (ad 81), .ref (ad 82), .ref (ad 83), .ref (ad 84), .ref (ad 85), .ref (ad 86), .ref (ad 87), .ref (ad 88), .ref (ad 89), .ref (ad 90), .int (iI (n : Int)), .ref (ad 91), .int (iI (n : Int)), .int (iI wm), .ref (ad 92), .ref (ad 93)]) C (by omega) hm rfl rfl (Nat.le_of_ble_eq_true rfl) rfl d_M_rebuild_84 (fun g3 hm fr4 => ?_)
        have hreb := (fr4 76 (by omega)).trans hreb
        have htri := (fr4 77 (by omega)).trans htri
        have hkno := (fr4 78 (by omega)).trans hkno
        have htol := (fr4 79 (by omega)).trans htol
        have hrP := (fr4 80 (by omega)).trans hrP
        have hrQ := (fr4 81 (by omega)).trans hrQ
        have hfil := (fr4 82 (by omega)).trans hfil
        have hbns := (fr4 83 (by omega)).trans hbns
        have hunk := (fr4 89 (by omega)).trans hunk
        have hlef := (fr4 90 (by omega)).trans hlef
        have hsum := (fr4 91 (by omega)).trans hsum
        refine v_aload_n C d_M_rebuild_87 rfl 1 rfl ?_
        refine v_iconst C d_M_rebuild_88 ?_
        refine pf_M_72 (fs' := [.int (iI 0), .int (iI (w : Int)), .int (iI (h : Int)), .ref (ad 74), .ref (ad 75), .ref (ad 76), .ref (ad 77), .ref (ad 78), .int (bI kp), .int (bI hb), .ref (ad 79), .ref (ad 80), .ref (ad 81), .ref (ad 82), .ref (ad 83), .ref (ad 84), .ref (ad 85), .ref (ad 86), .ref (ad 87), .ref (ad 88), .ref (ad 89), .ref (ad 90), .int (iI (n : Int)), .ref (ad 91), .int (iI (n : Int)), .int (iI (-1)), .ref (ad 92), .ref (ad 93)]) C (by omega) hm rfl rfl (Nat.le_of_ble_eq_true rfl) rfl d_M_rebuild_89 (fun g5 hm fr6 => ?_)
        have hreb := (fr6 76 (by omega)).trans hreb
        have htri := (fr6 77 (by omega)).trans htri
        have hkno := (fr6 78 (by omega)).trans hkno
        have htol := (fr6 79 (by omega)).trans htol
        have hrP := (fr6 80 (by omega)).trans hrP
        have hrQ := (fr6 81 (by omega)).trans hrQ
        have hfil := (fr6 82 (by omega)).trans hfil
        have hbns := (fr6 83 (by omega)).trans hbns
        have hunk := (fr6 89 (by omega)).trans hunk
        have hlef := (fr6 90 (by omega)).trans hlef
        have hsum := (fr6 91 (by omega)).trans hsum
        refine v_iload_n C d_M_rebuild_92 rfl 0 rfl ?_
        refine v_if_neB C d_M_rebuild_93 (fun hb93 => ?_) (fun hb93 => ?_)
        · have hnn : n = w * h := of_decide_eq_true (hbe.symm.trans hb93)
          have hall := Rn_all hdn.1 hw.2 hh.2 hnn
          refine v_iconst C d_M_rebuild_98 ?_
          refine v_istore (lv' := [(4, .int (iI 0)), (3, .int (bI be)), (0, .ref (ad 73)), (1, .int (iI (z.toNat : Int))), (2, .int (bI la))]) C d_M_rebuild_99 (by decide) rfl ?_
          refine v_lv (lv' := [(0, .ref (ad 73)), (1, .int (iI (z.toNat : Int))), (4, .int (iI 0))]) [2, 3, 0] rfl ?_
          have L101 : ∀ (d9 : Nat) (i : Nat) (rb9 : Nat → Int32) (G101 : Nat → va_E), 256 - i < d9 → (i ≤ 256) → (∀ k, k < i → rb9 k = tr1 k) → (∀ r1, r1 ≠ 76 → G101 r1 = g5 r1) → G101 76 = inA cI 256 rb9 → kV p l e (rmF 4 140 0 0) s m ([.ref (ad 73), .int (iI z)] : List Value).toArray below meth c Q s.heap B D classes 5 95 0 0 ad G101 [(0, .ref (ad 73)), (1, .int (iI (z.toNat : Int))), (4, .int (iI (i : Int)))] [] 101 := by
            intro d9
            induction d9 with
            | zero => intro i rb9 G101 hd9; exact absurd hd9 (Nat.not_lt_zero _)
            | succ d9 ih101 =>
              intro i rb9 G101 hd101 hi hrb hfr101 hreb
              have hm := (hfr101 73 (by omega)).trans hm
              have htri := (hfr101 77 (by omega)).trans htri
              have hkno := (hfr101 78 (by omega)).trans hkno
              have htol := (hfr101 79 (by omega)).trans htol
              have hrP := (hfr101 80 (by omega)).trans hrP
              have hrQ := (hfr101 81 (by omega)).trans hrQ
              have hfil := (hfr101 82 (by omega)).trans hfil
              have hbns := (hfr101 83 (by omega)).trans hbns
              have hunk := (hfr101 89 (by omega)).trans hunk
              have hlef := (hfr101 90 (by omega)).trans hlef
              have hsum := (hfr101 91 (by omega)).trans hsum
              refine v_iload C d_M_rebuild_101 2 rfl ?_
              refine v_sipush C d_M_rebuild_103 (by decide +kernel) ?_
              refine v_icmp_geI C d_M_rebuild_106 (by omega) (by omega) (by omega) (by omega) (fun hb106 => ?_) (fun hb106 => ?_)
              · refine v_aload_n C d_M_rebuild_129 rfl 0 rfl ?_
                refine v_iconst C d_M_rebuild_130 ?_
                refine pf_M_96 (fs' := [.int (iI 0), .int (iI (w : Int)), .int (iI (h : Int)), .ref (ad 74), .ref (ad 75), .ref (ad 76), .ref (ad 77), .ref (ad 78), .int (bI kp), .int (iI 1), .ref (ad 79), .ref (ad 80), .ref (ad 81), .ref (ad 82), .ref (ad 83), .ref (ad 84), .ref (ad 85), .ref (ad 86), .ref (ad 87), .ref (ad 88), .ref (ad 89), .ref (ad 90), .int (iI (n : Int)), .ref (ad 91), .int (iI (n : Int)), .int (iI (-1)), .ref (ad 92), .ref (ad 93)]) C (by omega) hm rfl rfl (Nat.le_of_ble_eq_true rfl) rfl d_M_rebuild_131 (fun g7 hm fr8 => ?_)
                have htri := (fr8 77 (by omega)).trans htri
                have hkno := (fr8 78 (by omega)).trans hkno
                have htol := (fr8 79 (by omega)).trans htol
                have hrP := (fr8 80 (by omega)).trans hrP
                have hrQ := (fr8 81 (by omega)).trans hrQ
                have hfil := (fr8 82 (by omega)).trans hfil
                have hbns := (fr8 83 (by omega)).trans hbns
                have hunk := (fr8 89 (by omega)).trans hunk
                have hlef := (fr8 90 (by omega)).trans hlef
                have hsum := (fr8 91 (by omega)).trans hsum
                have hreb := (fr8 76 (by omega)).trans hreb
                refine v_aload_n C d_M_rebuild_134 rfl 0 rfl ?_
                refine v_iload_n C d_M_rebuild_135 rfl 1 rfl ?_
                refine v_callVI (As := [.int (iI (z.toNat : Int))]) (st := []) (by omega) hm rfl rfl C (c_disagrees l 0 w h kp true (n : Int) (n : Int) (-1) z.toNat (by omega) K9 val hall hw hh hm tr1 htri tol htol rP hrP rQ hrQ bns hbns sum hsum hPQ htv) (lk_M_170 C.1.2.2.2.2 rfl rfl ⟨Nat.le_of_ble_eq_true rfl, Nat.le_of_ble_eq_true rfl⟩) rfl rfl (Nat.le_of_ble_eq_true rfl) d_M_rebuild_136 ⟨Nat.le_of_ble_eq_true rfl, Nat.le_of_ble_eq_true rfl⟩ (fun w9 ad9 g9 hp9 => ?_)
                obtain ⟨hc9, rfl, ⟨fs9, hsum⟩, fr9⟩ := hp9
                have hm := (fr9 73 (by omega)).trans hm
                have htri := (fr9 77 (by omega)).trans htri
                have hkno := (fr9 78 (by omega)).trans hkno
                have htol := (fr9 79 (by omega)).trans htol
                have hrP := (fr9 80 (by omega)).trans hrP
                have hrQ := (fr9 81 (by omega)).trans hrQ
                have hfil := (fr9 82 (by omega)).trans hfil
                have hbns := (fr9 83 (by omega)).trans hbns
                have hunk := (fr9 89 (by omega)).trans hunk
                have hlef := (fr9 90 (by omega)).trans hlef
                have hreb := (fr9 76 (by omega)).trans hreb
                obtain ⟨s0, k7, hs8, hU0, hk7, hne7, hbe7, hzz7, rfl⟩ | ⟨rfl, hzz7⟩ := hc9
                · -- one
                  refine v_istore (lv' := [(4, .int (iI (s0 : Int))), (0, .ref (ad 73)), (1, .int (iI (z.toNat : Int)))]) C d_M_rebuild_139 (by decide) rfl ?_
                  refine v_iload C d_M_rebuild_141 0 rfl ?_
                  refine v_bipush C d_M_rebuild_143 (by decide +kernel) ?_
                  refine v_icmp_geI C d_M_rebuild_145 (by omega) (by omega) (by omega) (by omega) (fun hb145 => ?_) (fun hb145 => ?_)
                  · refine v_iload C d_M_rebuild_158 0 rfl ?_
                    exact absurd hb145 (by omega)
                  · refine v_aload_n C d_M_rebuild_148 rfl 1 rfl ?_
                    refine v_aload_n C d_M_rebuild_149 rfl 1 rfl ?_
                    refine v_iload C d_M_rebuild_150 0 rfl ?_
                    refine v_callVI (As := [.int (iI (s0 : Int))]) (st := [.ref (ad 73)]) (by omega) hm rfl rfl C (c_parts l 0 w h kp true (n : Int) (n : Int) (-1) s0 (by omega) K9 val hall hw hh hm tr1 htri rP hrP rQ hrQ bns hbns fs9 hsum hPQ htv) (lk_M_161 C.1.2.2.2.2 rfl rfl ⟨Nat.le_of_ble_eq_true rfl, Nat.le_of_ble_eq_true rfl⟩) rfl rfl (Nat.le_of_ble_eq_true rfl) d_M_rebuild_152 ⟨Nat.le_of_ble_eq_true rfl, Nat.le_of_ble_eq_true rfl⟩ (fun w10 ad10 g10 hp10 => ?_)
                    obtain ⟨hc10, rfl, ⟨f10, hsum⟩, fr10⟩ := hp10
                    have hm := (fr10 73 (by omega)).trans hm
                    have htri := (fr10 77 (by omega)).trans htri
                    have hkno := (fr10 78 (by omega)).trans hkno
                    have htol := (fr10 79 (by omega)).trans htol
                    have hrP := (fr10 80 (by omega)).trans hrP
                    have hrQ := (fr10 81 (by omega)).trans hrQ
                    have hfil := (fr10 82 (by omega)).trans hfil
                    have hbns := (fr10 83 (by omega)).trans hbns
                    have hunk := (fr10 89 (by omega)).trans hunk
                    have hlef := (fr10 90 (by omega)).trans hlef
                    have hreb := (fr10 76 (by omega)).trans hreb
                    obtain ⟨k0, hk0, rfl, hne0, hbe0⟩ | ⟨rfl, hz0⟩ := hc10
                    · have hct9 := ct_nat (hPQ s0 (by omega)) hw.2 hh.2 hw.1 hh.1
                      refine pf_M_72 (fs' := [.int (iI 0), .int (iI (w : Int)), .int (iI (h : Int)), .ref (ad 74), .ref (ad 75), .ref (ad 76), .ref (ad 77), .ref (ad 78), .int (bI kp), .int (iI 1), .ref (ad 79), .ref (ad 80), .ref (ad 81), .ref (ad 82), .ref (ad 83), .ref (ad 84), .ref (ad 85), .ref (ad 86), .ref (ad 87), .ref (ad 88), .ref (ad 89), .ref (ad 90), .int (iI (n : Int)), .ref (ad 91), .int (iI (n : Int)), .int (iI (k0 : Int)), .ref (ad 92), .ref (ad 93)]) C (by omega) hm rfl rfl (Nat.le_of_ble_eq_true rfl) rfl d_M_rebuild_155 (fun g11 hm fr12 => ?_)
                      have htri := (fr12 77 (by omega)).trans htri
                      have hkno := (fr12 78 (by omega)).trans hkno
                      have htol := (fr12 79 (by omega)).trans htol
                      have hrP := (fr12 80 (by omega)).trans hrP
                      have hrQ := (fr12 81 (by omega)).trans hrQ
                      have hfil := (fr12 82 (by omega)).trans hfil
                      have hbns := (fr12 83 (by omega)).trans hbns
                      have hunk := (fr12 89 (by omega)).trans hunk
                      have hlef := (fr12 90 (by omega)).trans hlef
                      have hsum := (fr12 91 (by omega)).trans hsum
                      have hreb := (fr12 76 (by omega)).trans hreb
                      refine v_iload C d_M_rebuild_158 0 rfl ?_
                      exact hret _ _ _ _ _ _ _ (Nat.zero_le _) (Nat.zero_le _) d_M_rebuild_160 (Or.inr (Or.inr ⟨haA, hno, n, K9, val, rb9, true, (k0 : Int), hdn, Or.inr ⟨hnn, rfl, (fun c hc => (hrb c (by have := (Rn_known n hdn.1).1 c hc; omega)).trans (htv c hc)), Or.inr ⟨s0, k0, hs8, hU0, hk0, hne0, hbe0, hzz7, rfl, rfl⟩⟩, rfl, hm, hreb, ⟨_, _, _, _, _, htri, hkno, hunk, hlef, hsum⟩, (fun r1 n0 n1 n2 n3 n4 n5 n6 => ((fr12 r1 n0).trans ((fr10 r1 n6).trans ((fr9 r1 n6).trans ((fr8 r1 n0).trans ((hfr101 r1 n1).trans ((fr6 r1 n0).trans ((fr4 r1 n0).trans ((fr2 r1 n0 n2 n3 n4 n5).trans (fr1 r1 n0))))))))))⟩))
                    · -- none
                      refine pf_M_72 (fs' := [.int (iI 0), .int (iI (w : Int)), .int (iI (h : Int)), .ref (ad 74), .ref (ad 75), .ref (ad 76), .ref (ad 77), .ref (ad 78), .int (bI kp), .int (iI 1), .ref (ad 79), .ref (ad 80), .ref (ad 81), .ref (ad 82), .ref (ad 83), .ref (ad 84), .ref (ad 85), .ref (ad 86), .ref (ad 87), .ref (ad 88), .ref (ad 89), .ref (ad 90), .int (iI (n : Int)), .ref (ad 91), .int (iI (n : Int)), .int (iI (-1)), .ref (ad 92), .ref (ad 93)]) C (by omega) hm rfl rfl (Nat.le_of_ble_eq_true rfl) rfl d_M_rebuild_155 (fun g13 hm fr14 => ?_)
                      have htri := (fr14 77 (by omega)).trans htri
                      have hkno := (fr14 78 (by omega)).trans hkno
                      have htol := (fr14 79 (by omega)).trans htol
                      have hrP := (fr14 80 (by omega)).trans hrP
                      have hrQ := (fr14 81 (by omega)).trans hrQ
                      have hfil := (fr14 82 (by omega)).trans hfil
                      have hbns := (fr14 83 (by omega)).trans hbns
                      have hunk := (fr14 89 (by omega)).trans hunk
                      have hlef := (fr14 90 (by omega)).trans hlef
                      have hsum := (fr14 91 (by omega)).trans hsum
                      have hreb := (fr14 76 (by omega)).trans hreb
                      refine v_iload C d_M_rebuild_158 0 rfl ?_
                      exact absurd (hz0 k7 hk7) hne7
                · -- none
                  refine v_istore (lv' := [(4, .int (iI 99)), (0, .ref (ad 73)), (1, .int (iI (z.toNat : Int)))]) C d_M_rebuild_139 (by decide) rfl ?_
                  refine v_iload C d_M_rebuild_141 0 rfl ?_
                  refine v_bipush C d_M_rebuild_143 (by decide +kernel) ?_
                  refine v_icmp_geI C d_M_rebuild_145 (by omega) (by omega) (by omega) (by omega) (fun hb145 => ?_) (fun hb145 => ?_)
                  · refine v_iload C d_M_rebuild_158 0 rfl ?_
                    exact hret _ _ _ _ _ _ _ (Nat.zero_le _) (Nat.zero_le _) d_M_rebuild_160 (Or.inr (Or.inr ⟨haA, hno, n, K9, val, rb9, true, -1, hdn, Or.inr ⟨hnn, rfl, (fun c hc => (hrb c (by have := (Rn_known n hdn.1).1 c hc; omega)).trans (htv c hc)), Or.inl ⟨rfl, rfl, hzz7⟩⟩, rfl, hm, hreb, ⟨_, _, _, _, _, htri, hkno, hunk, hlef, hsum⟩, (fun r1 n0 n1 n2 n3 n4 n5 n6 => ((fr9 r1 n6).trans ((fr8 r1 n0).trans ((hfr101 r1 n1).trans ((fr6 r1 n0).trans ((fr4 r1 n0).trans ((fr2 r1 n0 n2 n3 n4 n5).trans (fr1 r1 n0))))))))⟩))
                  · exact absurd hb145 (by omega)
              · refine v_aload_n C d_M_rebuild_109 rfl 0 rfl ?_
                refine gf_M_23 C (by omega) hm rfl d_M_rebuild_110 ?_
                refine v_iload C d_M_rebuild_113 2 rfl ?_
                refine v_aload_n C d_M_rebuild_115 rfl 0 rfl ?_
                refine gf_M_26 C (by omega) hm rfl d_M_rebuild_116 ?_
                refine v_iload C d_M_rebuild_119 2 rfl ?_
                refine v_iald C 0 (by omega) htri rfl (i : Nat) (by omega) (by omega) (by omega) d_M_rebuild_121 ?_
                refine v_iast C 0 (by omega) hreb rfl (i : Nat) (by omega) (by omega) (by omega) d_M_rebuild_122 (fun g15 hreb fr16 => ?_)
                have hm := (fr16 73 (by omega)).trans hm
                have htri := (fr16 77 (by omega)).trans htri
                have hkno := (fr16 78 (by omega)).trans hkno
                have htol := (fr16 79 (by omega)).trans htol
                have hrP := (fr16 80 (by omega)).trans hrP
                have hrQ := (fr16 81 (by omega)).trans hrQ
                have hfil := (fr16 82 (by omega)).trans hfil
                have hbns := (fr16 83 (by omega)).trans hbns
                have hunk := (fr16 89 (by omega)).trans hunk
                have hlef := (fr16 90 (by omega)).trans hlef
                have hsum := (fr16 91 (by omega)).trans hsum
                refine v_iinc (lv' := [(4, .int (iI ((i : Int) + 1))), (0, .ref (ad 73)), (1, .int (iI (z.toNat : Int)))]) C d_M_rebuild_123 2 rfl (by decide) rfl ?_
                refine v_goto C d_M_rebuild_126 ?_
                refine v_lv (lv' := [(0, .ref (ad 73)), (1, .int (iI (z.toNat : Int))), (4, .int (iI ((i : Int) + 1)))]) [1, 2, 0] rfl ?_
                exact ih101 (i + 1) _ _ (by omega) (by omega) (fun k hk => by by_cases e9 : k = i; (subst e9; rw [pk_us]); rw [pk_un e9]; exact hrb k (by omega)) (fun r1 n0 => ((fr16 r1 n0).trans (hfr101 r1 n0))) hreb
          exact L101 _ 0 reb _ (Nat.lt_succ_self _) (by omega) (fun k hk => absurd hk (by omega)) (fun r1 _ => rfl) hreb
        · refine v_iconst C d_M_rebuild_96 ?_
          have hnn : ¬ n = w * h := of_decide_eq_false (hbe.symm.trans hb93)
          exact hret _ _ _ _ _ _ _ (Nat.zero_le _) (Nat.zero_le _) d_M_rebuild_97 (Or.inr (Or.inr ⟨haA, hno, n, K9, val, reb, hb, -1, hdn, Or.inl ⟨by omega, rfl, rfl, rfl, rfl⟩, rfl, hm, hreb, ⟨_, _, _, _, _, htri, hkno, hunk, hlef, hsum⟩, (fun r1 n0 n1 n2 n3 n4 n5 n6 => ((fr6 r1 n0).trans ((fr4 r1 n0).trans ((fr2 r1 n0 n2 n3 n4 n5).trans (fr1 r1 n0)))))⟩))
    refine v_iload_n C d_M_rebuild_52 rfl 1 rfl ?_
    refine v_callSI (As := [.int (iI z)]) (st := [.ref (ad 73)]) C (c_isMask l z z1 z2) (lk_M_137 C.1.2.2.2.2 rfl rfl ⟨Nat.le_of_ble_eq_true rfl, Nat.le_of_ble_eq_true rfl⟩) rfl rfl (Nat.le_of_ble_eq_true rfl) d_M_rebuild_53 ⟨Nat.le_of_ble_eq_true rfl, Nat.le_of_ble_eq_true rfl⟩ (fun w17 ad17 g17 hp17 => ?_)
    obtain ⟨_, rfl, rfl, rfl, rfl⟩ := hp17
    refine v_if_neB C d_M_rebuild_56 (fun hb56 => ?_) (fun hb56 => ?_)
    · have hb56 := of_decide_eq_true hb56
      refine v_iconst C d_M_rebuild_63 ?_
      exact J64 false ⟨fun q => absurd q (by decide), fun q => absurd q (by omega)⟩
    · have hb56 := of_decide_eq_false hb56
      refine v_iconst C d_M_rebuild_59 ?_
      refine v_goto C d_M_rebuild_60 ?_
      exact J64 true ⟨fun _ => by omega, fun _ => rfl⟩
  refine v_iconst C d_M_rebuild_0 ?_
  refine v_istore_n (lv' := [(2, .int (iI 0)), (0, .ref (ad 73)), (1, .int (iI z))]) C d_M_rebuild_1 rfl (by decide) rfl ?_
  refine v_iconst C d_M_rebuild_2 ?_
  refine v_istore_n (lv' := [(3, .int (iI 0)), (2, .int (iI 0)), (0, .ref (ad 73)), (1, .int (iI z))]) C d_M_rebuild_3 rfl (by decide) rfl ?_
  refine v_lv (lv' := [(0, .ref (ad 73)), (1, .int (iI z)), (2, .int (iI 0)), (3, .int (iI 0))]) [2, 3, 1, 0] rfl ?_
  have L4 : ∀ (d9 : Nat) (j : Nat) (lb9 : Bool), 8 - j < d9 → (j ≤ 8) → (lb9 = true ↔ ((0 ≤ z ∧ z < 256) ∧ lck z.toNat tol fil j)) → kV p l e (rmF 4 140 0 0) s m ([.ref (ad 73), .int (iI z)] : List Value).toArray below meth c Q s.heap B D classes 5 95 0 0 ad g [(0, .ref (ad 73)), (1, .int (iI z)), (2, .int (bI lb9)), (3, .int (iI (j : Int)))] [] 4 := by
    intro d9
    induction d9 with
    | zero => intro j lb9 hd9; exact absurd hd9 (Nat.not_lt_zero _)
    | succ d9 ih4 =>
      intro j lb9 hd4 hj hl9
      refine v_iload_n C d_M_rebuild_4 rfl 3 rfl ?_
      refine v_bipush C d_M_rebuild_5 (by decide +kernel) ?_
      refine v_icmp_geI C d_M_rebuild_7 (by omega) (by omega) (by omega) (by omega) (fun hb7 => ?_) (fun hb7 => ?_)
      · refine v_lv (lv' := [(0, .ref (ad 73)), (1, .int (iI z)), (2, .int (bI lb9))]) [0, 1, 2] rfl ?_
        exact J51 lb9 (by first | exact ⟨fun q => absurd (hl9.mp q).1 hb14, fun q => absurd q.1 hb14⟩ | (rw [show j = 8 by omega] at hl9; exact hl9))
      · refine v_iload_n C d_M_rebuild_10 rfl 1 rfl ?_
        refine v_callSI (As := [.int (iI z)]) (st := []) C (c_isMask l z z1 z2) (lk_M_137 C.1.2.2.2.2 rfl rfl ⟨Nat.le_of_ble_eq_true rfl, Nat.le_of_ble_eq_true rfl⟩) rfl rfl (Nat.le_of_ble_eq_true rfl) d_M_rebuild_11 ⟨Nat.le_of_ble_eq_true rfl, Nat.le_of_ble_eq_true rfl⟩ (fun w18 ad18 g18 hp18 => ?_)
        obtain ⟨_, rfl, rfl, rfl, rfl⟩ := hp18
        refine v_if_eqB C d_M_rebuild_14 (fun hb14 => ?_) (fun hb14 => ?_)
        · have hb14 := of_decide_eq_false hb14
          refine v_lv (lv' := [(0, .ref (ad 73)), (1, .int (iI z)), (2, .int (bI lb9))]) [0, 1, 2] rfl ?_
          exact J51 lb9 (by first | exact ⟨fun q => absurd (hl9.mp q).1 hb14, fun q => absurd q.1 hb14⟩ | (rw [show j = 8 by omega] at hl9; exact hl9))
        · have hb14 := of_decide_eq_true hb14
          have J44 : ∀ lb : Bool, (lb = true ↔ (lb9 = true ∨ ((Nat.testBit z.toNat j && tol j) = true ∧ fil j = false))) → kV p l e (rmF 4 140 0 0) s m ([.ref (ad 73), .int (iI z)] : List Value).toArray below meth c Q s.heap B D classes 5 95 0 0 ad g [(0, .ref (ad 73)), (1, .int (iI z)), (2, .int (bI lb9)), (3, .int (iI (j : Int)))] [.int (bI lb)] 44 := by
            intro lb hlb
            refine v_istore_n (lv' := [(2, .int (bI lb)), (0, .ref (ad 73)), (1, .int (iI z)), (3, .int (iI (j : Int)))]) C d_M_rebuild_44 rfl (by decide) rfl ?_
            refine v_iinc (lv' := [(3, .int (iI ((j : Int) + 1))), (2, .int (bI lb)), (0, .ref (ad 73)), (1, .int (iI z))]) C d_M_rebuild_45 3 rfl (by decide) rfl ?_
            refine v_goto C d_M_rebuild_48 ?_
            refine v_lv (lv' := [(0, .ref (ad 73)), (1, .int (iI z)), (2, .int (bI lb)), (3, .int (iI ((j : Int) + 1)))]) [2, 3, 1, 0] rfl ?_
            exact ih4 (j + 1) lb (by omega) (by omega) (by rw [hlb, lck_s, hl9]; exact ⟨fun q => ⟨hb14, by rcases q with q | q; (exact Or.inl q.2); exact Or.inr q⟩, fun q => by rcases q.2 with z9 | z9; (exact Or.inl ⟨hb14, z9⟩); exact Or.inr z9⟩)
          refine v_iload_n C d_M_rebuild_17 rfl 2 rfl ?_
          refine v_if_neB C d_M_rebuild_18 (fun hb18 => ?_) (fun hb18 => ?_)
          · refine v_iconst C d_M_rebuild_39 ?_
            refine v_goto C d_M_rebuild_40 ?_
            exact J44 true ⟨fun _ => by first | exact Or.inr ⟨hb27, hb36⟩ | exact Or.inl hb18, fun _ => rfl⟩
          · refine v_aload_n C d_M_rebuild_21 rfl 0 rfl ?_
            refine v_iload_n C d_M_rebuild_22 rfl 1 rfl ?_
            refine v_iload_n C d_M_rebuild_23 rfl 3 rfl ?_
            have hM0 : ((z.toNat : Nat) : Int) = z := by omega
            refine v_stE (st' := [.int (iI (j : Int)), .int (iI (z.toNat : Int)), .ref (ad 73)]) (by rw [hM0]) ?_
            refine v_callVI (As := [.int (iI (z.toNat : Int)), .int (iI (j : Int))]) (st := []) (by omega) hm rfl rfl C (c_isOf l th w h kp hb tr sq wm z.toNat j (by omega) (by omega) hm tol htol) (lk_M_134 C.1.2.2.2.2 rfl rfl ⟨Nat.le_of_ble_eq_true rfl, Nat.le_of_ble_eq_true rfl⟩) rfl rfl (Nat.le_of_ble_eq_true rfl) d_M_rebuild_24 ⟨Nat.le_of_ble_eq_true rfl, Nat.le_of_ble_eq_true rfl⟩ (fun w19 ad19 g19 hp19 => ?_)
            obtain ⟨_, rfl, rfl, rfl, rfl⟩ := hp19
            refine v_if_eqB C d_M_rebuild_27 (fun hb27 => ?_) (fun hb27 => ?_)
            · refine v_iconst C d_M_rebuild_43 ?_
              exact J44 false ⟨fun q => absurd q (by decide), fun q => by rcases q with q | q; (exact absurd (hb18.symm.trans q) (by decide)); first | exact absurd (hb36.symm.trans q.2) (by decide) | exact absurd (hb27.symm.trans q.1) (by decide)⟩
            · refine v_aload_n C d_M_rebuild_30 rfl 0 rfl ?_
              refine gf_M_42 C (by omega) hm rfl d_M_rebuild_31 ?_
              refine v_iload_n C d_M_rebuild_34 rfl 3 rfl ?_
              refine v_zaldB C 1 (by omega) hfil rfl (j : Nat) (by omega) (by omega) (by omega) d_M_rebuild_35 ?_
              refine v_if_neB C d_M_rebuild_36 (fun hb36 => ?_) (fun hb36 => ?_)
              · refine v_iconst C d_M_rebuild_43 ?_
                exact J44 false ⟨fun q => absurd q (by decide), fun q => by rcases q with q | q; (exact absurd (hb18.symm.trans q) (by decide)); first | exact absurd (hb36.symm.trans q.2) (by decide) | exact absurd (hb27.symm.trans q.1) (by decide)⟩
              · refine v_iconst C d_M_rebuild_39 ?_
                refine v_goto C d_M_rebuild_40 ?_
                exact J44 true ⟨fun _ => by first | exact Or.inr ⟨hb27, hb36⟩ | exact Or.inl hb18, fun _ => rfl⟩
  exact L4 _ 0 false (Nat.lt_succ_self _) (by omega) ⟨fun q => absurd q (by decide), fun q => absurd q.2 lck_0⟩
set_option maxHeartbeats 1000000 in
set_option maxRecDepth 100000 in
theorem c_Mregenerate (l : Launch) {B : Nat} {D : va_G} {cI cZ cL cS cW : ClassId} {ad : Nat → Nat} {g : Nat → va_E} (th : Int) (w h : Nat) (kp hb : Bool) (tr sq wm : Int) (z : Int) (z1 : -2147483648 ≤ z) (z2 : z < 2147483648) (hw : 1 ≤ w ∧ w ≤ 16) (hh : 1 ≤ h ∧ h ≤ 16) (hm : g 73 = mE ad th w h kp hb tr sq wm) (tri : Nat → Int32) (htri : g 77 = inA cI 256 tri) (kno : Nat → Bool) (hkno : g 78 = inA cZ 256 (bA kno)) (tol : Nat → Bool) (htol : g 79 = inA cZ 8 (bA tol)) (rP : Nat → Int) (hrP : g 80 = inA cI 8 (jA rP)) (rQ : Nat → Int) (hrQ : g 81 = inA cI 8 (jA rQ)) (fil : Nat → Bool) (hfil : g 82 = inA cZ 8 (bA fil)) (bns : Nat → Int32) (hbns : g 83 = inA cI 3848 bns) (unk : Nat → Int32) (hunk : g 89 = inA cI 3848 unk) (lef : Nat → Int32) (hlef : g 90 = inA cI 3848 lef) (sum : Nat → Int32) (hsum : g 91 = inA cI 481 sum) (hPQ : ∀ j, j < 8 → okD (rP j) (rQ j)) : Met l y_M_regenerate (Cond.code y_M_regenerate b_M_regenerate 3 (some .boolean) :: wG) (rmF 4 140 0 0) (wPc B D classes (tyL cI cZ cL cS cW) (Zs B) 95 [.ref (ad 73), .int (iI z)] ad g) (QI B D classes 95 (fun v9 ad1 g1 => ∃ v, v9 = bI v ∧ ((¬ (0 ≤ z ∧ z < 8) ∧ g1 73 = mE ad 1 w h kp hb tr sq wm ∧ ad = ad1 ∧ ∀ r1, r1 ≠ 73 → g1 r1 = g r1) ∨ ((∃ s0 : Nat, (s0 : Int) = z ∧ s0 < 8 ∧ (tol s0 = false ∨ fil s0 = true)) ∧ g1 73 = mE ad 2 w h kp hb tr sq wm ∧ ad = ad1 ∧ ∀ r1, r1 ≠ 73 → g1 r1 = g r1) ∨ (∃ s0 : Nat, (s0 : Int) = z ∧ s0 < 8 ∧ tol s0 = true ∧ fil s0 = false ∧ ∃ (n : Nat) (K9 : Nat → Bool) (val d9 : Nat → Int32), Dn w h (fun j => Nat.testBit (mkM fil 8) j && tol j) (fun j c => bnN (rP j) (rQ j) w h (c % 16) (c / 16)) (fun j => ctN (rP j) (rQ j) w h) (fun j k => bns (481 * j + k)) n K9 val ∧ (∀ c, K9 c = true → d9 c = val c) ∧ ((n < w * h ∧ v = false ∧ g1 82 = inA cZ 8 (bA fil) ∧ g1 83 = inA cI 3848 bns) ∨ (n = w * h ∧ v = true ∧ g1 82 = inA cZ 8 (bA (uP fil s0 true)) ∧ g1 83 = inA cI 3848 (ovl s0 bns (accY (bnN (rP s0) (rQ s0) w h) d9 w h (fun _ => 0)) 481))) ∧ ad = ad1 ∧ g1 73 = mE ad 0 w h kp hb (n : Int) sq wm ∧ (∃ (tr1 un1 le1 f1 : Nat → Int32) (kn1 : Nat → Bool), g1 77 = inA cI 256 tr1 ∧ g1 78 = inA cZ 256 (bA kn1) ∧ g1 89 = inA cI 3848 un1 ∧ g1 90 = inA cI 3848 le1 ∧ g1 91 = inA cI 481 f1) ∧ ∀ r1, r1 ≠ 73 → r1 ≠ 77 → r1 ≠ 78 → r1 ≠ 82 → r1 ≠ 83 → r1 ≠ 89 → r1 ≠ 90 → r1 ≠ 91 → g1 r1 = g r1)))) 0 0 (aB B) := by
  refine ofZ (own := R_M) (by decide) rfl (Nat.le_of_ble_eq_true rfl) ?_
  intro p e s m below meth c Q C hnm hret
  change kV _ _ _ _ _ _ _ _ _ _ _ _ _ _ _ _ _ _ _ _ _ [(0, .ref (ad 73)), (1, .int (iI z))] _ _
  refine v_aload_n C d_M_regenerate_0 rfl 0 rfl ?_
  have J13 : ∀ a : Bool, (a = true ↔ ¬ (0 ≤ z ∧ z < 8)) → kV p l e (rmF 4 140 0 0) s m ([.ref (ad 73), .int (iI z)] : List Value).toArray below meth c Q s.heap B D classes 3 95 0 0 ad g [(0, .ref (ad 73)), (1, .int (iI z))] [.int (bI a), .ref (ad 73)] 13 := by
    intro a ha
    have J35 : ∀ b2 : Bool, (b2 = true ↔ ((decide (0 ≤ z ∧ z < 8) && tol z.toNat) = false ∨ fil z.toNat = true)) → kV p l e (rmF 4 140 0 0) s m ([.ref (ad 73), .int (iI z)] : List Value).toArray below meth c Q s.heap B D classes 3 95 0 0 ad g [(0, .ref (ad 73)), (1, .int (iI z))] [.int (bI b2), .int (bI a), .ref (ad 73)] 35 := by
      intro b2 hb2
      refine v_callVI (As := [.int (bI a), .int (bI b2)]) (st := []) (by omega) hm rfl rfl C (c_throwing l th w h kp hb tr sq wm a b2 hm) (lk_M_88 C.1.2.2.2.2 rfl rfl ⟨Nat.le_of_ble_eq_true rfl, Nat.le_of_ble_eq_true rfl⟩) rfl rfl (Nat.le_of_ble_eq_true rfl) d_M_regenerate_35 ⟨Nat.le_of_ble_eq_true rfl, Nat.le_of_ble_eq_true rfl⟩ (fun w1 ad1 g1 hp1 => ?_)
      obtain ⟨vt1, rfl, hc1, rfl, fr1⟩ := hp1
      rcases hc1 with ⟨ta35, rfl, hm⟩ | ⟨ta35, tb35, rfl, hm⟩ | ⟨ta35, tb35, rfl, hm⟩
      · -- way 1
        have htri := (fr1 77 (by omega)).trans htri
        have hkno := (fr1 78 (by omega)).trans hkno
        have htol := (fr1 79 (by omega)).trans htol
        have hrP := (fr1 80 (by omega)).trans hrP
        have hrQ := (fr1 81 (by omega)).trans hrQ
        have hfil := (fr1 82 (by omega)).trans hfil
        have hbns := (fr1 83 (by omega)).trans hbns
        have hunk := (fr1 89 (by omega)).trans hunk
        have hlef := (fr1 90 (by omega)).trans hlef
        have hsum := (fr1 91 (by omega)).trans hsum
        refine v_if_eqB C d_M_regenerate_38 (fun hz9 => absurd hz9 (by decide)) (fun _ => ?_)
        refine v_iconst C d_M_regenerate_41 ?_
        exact hret _ _ _ _ _ false _ (Nat.zero_le _) (Nat.zero_le _) d_M_regenerate_42 (Or.inl ⟨ha.mp ta35, hm, rfl, (fun r1 n0 => (fr1 r1 n0))⟩)
      · -- way 2
        have htri := (fr1 77 (by omega)).trans htri
        have hkno := (fr1 78 (by omega)).trans hkno
        have htol := (fr1 79 (by omega)).trans htol
        have hrP := (fr1 80 (by omega)).trans hrP
        have hrQ := (fr1 81 (by omega)).trans hrQ
        have hfil := (fr1 82 (by omega)).trans hfil
        have hbns := (fr1 83 (by omega)).trans hbns
        have hunk := (fr1 89 (by omega)).trans hunk
        have hlef := (fr1 90 (by omega)).trans hlef
        have hsum := (fr1 91 (by omega)).trans hsum
        refine v_if_eqB C d_M_regenerate_38 (fun hz9 => absurd hz9 (by decide)) (fun _ => ?_)
        refine v_iconst C d_M_regenerate_41 ?_
        have haA : (0 ≤ z ∧ z < 8) := Classical.byContradiction (fun q => absurd (ha.mpr q) (by rw [ta35]; decide))
        obtain ⟨s0, hs0⟩ : ∃ s0 : Nat, (s0 : Int) = z := ⟨z.toNat, by omega⟩
        have hs8 : s0 < 8 := by omega
        have hnn : tol s0 = false ∨ fil s0 = true := by rcases hb2.mp tb35 with q | q; (rw [decide_eq_true (show 0 ≤ z ∧ z < 8 by omega), Bool.true_and, show z.toNat = s0 by omega] at q; exact Or.inl q); rw [show z.toNat = s0 by omega] at q; exact Or.inr q
        exact hret _ _ _ _ _ false _ (Nat.zero_le _) (Nat.zero_le _) d_M_regenerate_42 (Or.inr (Or.inl ⟨⟨s0, hs0, hs8, hnn⟩, hm, rfl, (fun r1 n0 => (fr1 r1 n0))⟩))
      · -- way 3
        have htri := (fr1 77 (by omega)).trans htri
        have hkno := (fr1 78 (by omega)).trans hkno
        have htol := (fr1 79 (by omega)).trans htol
        have hrP := (fr1 80 (by omega)).trans hrP
        have hrQ := (fr1 81 (by omega)).trans hrQ
        have hfil := (fr1 82 (by omega)).trans hfil
        have hbns := (fr1 83 (by omega)).trans hbns
        have hunk := (fr1 89 (by omega)).trans hunk
        have hlef := (fr1 90 (by omega)).trans hlef
        have hsum := (fr1 91 (by omega)).trans hsum
        refine v_if_eqB C d_M_regenerate_38 (fun _ => ?_) (fun hz9 => absurd hz9 (by decide))
        have haA : (0 ≤ z ∧ z < 8) := Classical.byContradiction (fun q => absurd (ha.mpr q) (by rw [ta35]; decide))
        obtain ⟨s0, hs0⟩ : ∃ s0 : Nat, (s0 : Int) = z := ⟨z.toNat, by omega⟩
        have hs8 : s0 < 8 := by omega
        refine v_lvE (lv' := [(0, .ref (ad 73)), (1, .int (iI (s0 : Int)))]) (by rw [hs0]) ?_
        have hno : ¬ ((decide (0 ≤ z ∧ z < 8) && tol z.toNat) = false ∨ fil z.toNat = true) := fun q => absurd (hb2.mpr q) (by rw [tb35]; decide)
        have hd1 : (decide (0 ≤ z ∧ z < 8) && tol z.toNat) = true := by cases q : (decide (0 ≤ z ∧ z < 8) && tol z.toNat); (exact absurd (Or.inl q) hno); rfl
        have htd : tol s0 = true := by rw [Bool.and_eq_true] at hd1; rw [← show z.toNat = s0 by omega]; exact hd1.2
        have hfd : fil s0 = false := by rw [← show z.toNat = s0 by omega]; cases q : fil z.toNat; rfl; (exact absurd (Or.inr q) hno)
        refine v_aload_n C d_M_regenerate_43 rfl 0 rfl ?_
        refine v_aload_n C d_M_regenerate_44 rfl 0 rfl ?_
        refine v_callVI (As := []) (st := [.ref (ad 73)]) (by omega) hm rfl rfl C (c_filledOnes l 0 w h kp hb tr sq wm hm fil hfil) (lk_M_173 C.1.2.2.2.2 rfl rfl ⟨Nat.le_of_ble_eq_true rfl, Nat.le_of_ble_eq_true rfl⟩) rfl rfl (Nat.le_of_ble_eq_true rfl) d_M_regenerate_45 ⟨Nat.le_of_ble_eq_true rfl, Nat.le_of_ble_eq_true rfl⟩ (fun w2 ad2 g2 hp2 => ?_)
        obtain ⟨rfl, rfl, rfl⟩ := hp2
        refine v_callVI (As := [.int (iI ((mkM fil 8) : Int))]) (st := []) (by omega) hm rfl rfl C (c_comes l 0 w h kp hb tr sq wm (mkM fil 8) (mkM_lt _ 8) hw hh hm tri htri kno hkno tol htol rP hrP rQ hrQ bns hbns unk hunk lef hlef hPQ) (lk_M_164 C.1.2.2.2.2 rfl rfl ⟨Nat.le_of_ble_eq_true rfl, Nat.le_of_ble_eq_true rfl⟩) rfl rfl (Nat.le_of_ble_eq_true rfl) d_M_regenerate_48 ⟨Nat.le_of_ble_eq_true rfl, Nat.le_of_ble_eq_true rfl⟩ (fun w3 ad3 g3 hp3 => ?_)
        obtain ⟨be, rfl, n, K9, val, tr1, un1, le1, kn1, hbe, hdn, htv, rfl, hm, htri, hkno, hunk, hlef, fr3⟩ := hp3
        have htol := (fr3 79 (by omega) (by omega) (by omega) (by omega) (by omega)).trans htol
        have hrP := (fr3 80 (by omega) (by omega) (by omega) (by omega) (by omega)).trans hrP
        have hrQ := (fr3 81 (by omega) (by omega) (by omega) (by omega) (by omega)).trans hrQ
        have hfil := (fr3 82 (by omega) (by omega) (by omega) (by omega) (by omega)).trans hfil
        have hbns := (fr3 83 (by omega) (by omega) (by omega) (by omega) (by omega)).trans hbns
        have hsum := (fr3 91 (by omega) (by omega) (by omega) (by omega) (by omega)).trans hsum
        have hle9 := Rn_le hdn.1 hw.2 hh.2
        refine v_istore_n (lv' := [(2, .int (bI be)), (0, .ref (ad 73)), (1, .int (iI (s0 : Int)))]) C d_M_regenerate_51 rfl (by decide) rfl ?_
        refine v_iload_n C d_M_regenerate_52 rfl 0 rfl ?_
        refine v_if_eqB C d_M_regenerate_53 (fun hb53 => ?_) (fun hb53 => ?_)
        · refine v_iload_n C d_M_regenerate_65 rfl 0 rfl ?_
          have hnn : ¬ n = w * h := of_decide_eq_false (hbe.symm.trans hb53)
          exact hret _ _ _ _ _ be _ (Nat.zero_le _) (Nat.zero_le _) d_M_regenerate_66 (Or.inr (Or.inr ⟨s0, hs0, hs8, htd, hfd, n, K9, val, tr1, hdn, htv, Or.inl ⟨by omega, hb53, hfil, hbns⟩, rfl, hm, ⟨_, _, _, _, _, htri, hkno, hunk, hlef, hsum⟩, (fun r1 n0 n1 n2 n3 n4 n5 n6 n7 => ((fr3 r1 n0 n1 n2 n5 n6).trans (fr1 r1 n0)))⟩))
        · refine v_aload_n C d_M_regenerate_56 rfl 1 rfl ?_
          refine v_iload_n C d_M_regenerate_57 rfl 2 rfl ?_
          refine v_aload_n C d_M_regenerate_58 rfl 1 rfl ?_
          refine gf_M_26 C (by omega) hm rfl d_M_regenerate_59 ?_
          refine v_callVV (As := [.int (iI (s0 : Int)), .ref (ad 77)]) (st := []) (by omega) hm rfl rfl C (c_Mfill l 0 w h kp hb (n : Int) sq wm s0 77 tr1 hs8 (by omega) htri hw hh hm rP hrP rQ hrQ _ hsum fil hfil bns hbns hPQ) (lk_M_128 C.1.2.2.2.2 rfl rfl ⟨Nat.le_of_ble_eq_true rfl, Nat.le_of_ble_eq_true rfl⟩) rfl rfl (Nat.le_of_ble_eq_true rfl) d_M_regenerate_62 ⟨Nat.le_of_ble_eq_true rfl, Nat.le_of_ble_eq_true rfl⟩ (fun ad4 g4 hp4 => ?_)
          obtain ⟨rfl, hbns, hfil, ⟨fs4, hsum⟩, fr4⟩ := hp4
          have hm := (fr4 73 (by omega) (by omega) (by omega)).trans hm
          have htri := (fr4 77 (by omega) (by omega) (by omega)).trans htri
          have hkno := (fr4 78 (by omega) (by omega) (by omega)).trans hkno
          have htol := (fr4 79 (by omega) (by omega) (by omega)).trans htol
          have hrP := (fr4 80 (by omega) (by omega) (by omega)).trans hrP
          have hrQ := (fr4 81 (by omega) (by omega) (by omega)).trans hrQ
          have hunk := (fr4 89 (by omega) (by omega) (by omega)).trans hunk
          have hlef := (fr4 90 (by omega) (by omega) (by omega)).trans hlef
          refine v_iload_n C d_M_regenerate_65 rfl 0 rfl ?_
          exact hret _ _ _ _ _ be _ (Nat.zero_le _) (Nat.zero_le _) d_M_regenerate_66 (Or.inr (Or.inr ⟨s0, hs0, hs8, htd, hfd, n, K9, val, tr1, hdn, htv, Or.inr ⟨of_decide_eq_true (hbe.symm.trans hb53), hb53, hfil, hbns⟩, rfl, hm, ⟨_, _, _, _, _, htri, hkno, hunk, hlef, hsum⟩, (fun r1 n0 n1 n2 n3 n4 n5 n6 n7 => ((fr4 r1 n3 n4 n7).trans ((fr3 r1 n0 n1 n2 n5 n6).trans (fr1 r1 n0))))⟩))
    refine v_aload_n C d_M_regenerate_13 rfl 0 rfl ?_
    refine v_iload_n C d_M_regenerate_14 rfl 1 rfl ?_
    refine v_callVI (As := [.int (iI z)]) (st := [.int (bI a), .ref (ad 73)]) (by omega) hm rfl rfl C (c_hasDirection l th w h kp hb tr sq wm z z1 z2 hm tol htol) (lk_M_114 C.1.2.2.2.2 rfl rfl ⟨Nat.le_of_ble_eq_true rfl, Nat.le_of_ble_eq_true rfl⟩) rfl rfl (Nat.le_of_ble_eq_true rfl) d_M_regenerate_15 ⟨Nat.le_of_ble_eq_true rfl, Nat.le_of_ble_eq_true rfl⟩ (fun w5 ad5 g5 hp5 => ?_)
    obtain ⟨_, rfl, rfl, rfl, rfl⟩ := hp5
    refine v_if_eqB C d_M_regenerate_18 (fun hb18 => ?_) (fun hb18 => ?_)
    · refine v_iconst C d_M_regenerate_30 ?_
      refine v_goto C d_M_regenerate_31 ?_
      exact J35 true ⟨fun _ => by first | exact Or.inl hb18 | exact Or.inr hb27, fun _ => rfl⟩
    · have hd0 := hb18; rw [Bool.and_eq_true] at hd0; have hd00 := of_decide_eq_true hd0.1
      refine v_aload_n C d_M_regenerate_21 rfl 0 rfl ?_
      refine gf_M_42 C (by omega) hm rfl d_M_regenerate_22 ?_
      refine v_iload_n C d_M_regenerate_25 rfl 1 rfl ?_
      refine v_zaldB C 1 (by omega) hfil rfl z.toNat (by omega) (by omega) (by omega) d_M_regenerate_26 ?_
      refine v_if_eqB C d_M_regenerate_27 (fun hb27 => ?_) (fun hb27 => ?_)
      · refine v_iconst C d_M_regenerate_34 ?_
        exact J35 false ⟨fun q => absurd q (by decide), fun q => by rcases q with q | q; (exact absurd (hb18.symm.trans q) (by decide)); exact absurd (hb27.symm.trans q) (by decide)⟩
      · refine v_iconst C d_M_regenerate_30 ?_
        refine v_goto C d_M_regenerate_31 ?_
        exact J35 true ⟨fun _ => by first | exact Or.inl hb18 | exact Or.inr hb27, fun _ => rfl⟩
  refine v_iload_n C d_M_regenerate_1 rfl 1 rfl ?_
  refine v_callSI (As := [.int (iI z)]) (st := [.ref (ad 73)]) C (c_isShelf l z z1 z2) (lk_M_84 C.1.2.2.2.2 rfl rfl ⟨Nat.le_of_ble_eq_true rfl, Nat.le_of_ble_eq_true rfl⟩) rfl rfl (Nat.le_of_ble_eq_true rfl) d_M_regenerate_2 ⟨Nat.le_of_ble_eq_true rfl, Nat.le_of_ble_eq_true rfl⟩ (fun w6 ad6 g6 hp6 => ?_)
  obtain ⟨_, rfl, rfl, rfl, rfl⟩ := hp6
  refine v_if_neB C d_M_regenerate_5 (fun hb5 => ?_) (fun hb5 => ?_)
  · have hb5 := of_decide_eq_true hb5
    refine v_iconst C d_M_regenerate_12 ?_
    exact J13 false ⟨fun q => absurd q (by decide), fun q => absurd q (by omega)⟩
  · have hb5 := of_decide_eq_false hb5
    refine v_iconst C d_M_regenerate_8 ?_
    refine v_goto C d_M_regenerate_9 ?_
    exact J13 true ⟨fun _ => by omega, fun _ => rfl⟩
set_option maxHeartbeats 1000000 in
set_option maxRecDepth 100000 in
theorem c_areOfOne (l : Launch) {B : Nat} {D : va_G} {cI cZ cL cS cW : ClassId} {ad : Nat → Nat} {g : Nat → va_E} (th : Int) (w h : Nat) (kp hb : Bool) (tr sq wm : Int) (M : Nat) (hM : M < 256) (hw : 1 ≤ w ∧ w ≤ 16) (hh : 1 ≤ h ∧ h ≤ 16) (hm : g 73 = mE ad th w h kp hb tr sq wm) (tri : Nat → Int32) (htri : g 77 = inA cI 256 tri) (kno : Nat → Bool) (hkno : g 78 = inA cZ 256 (bA kno)) (tol : Nat → Bool) (htol : g 79 = inA cZ 8 (bA tol)) (rP : Nat → Int) (hrP : g 80 = inA cI 8 (jA rP)) (rQ : Nat → Int) (hrQ : g 81 = inA cI 8 (jA rQ)) (bns : Nat → Int32) (hbns : g 83 = inA cI 3848 bns) (unk : Nat → Int32) (hunk : g 89 = inA cI 3848 unk) (lef : Nat → Int32) (hlef : g 90 = inA cI 3848 lef) (sum : Nat → Int32) (hsum : g 91 = inA cI 481 sum) (hPQ : ∀ j, j < 8 → okD (rP j) (rQ j)) : Met l y_M_areOfOne (Cond.code y_M_areOfOne b_M_areOfOne 2 (some .boolean) :: wG) (rmF 4 140 0 0) (wPc B D classes (tyL cI cZ cL cS cW) (Zs B) 95 [.ref (ad 73), .int (iI (M : Int))] ad g) (QI B D classes 95 (fun v9 ad1 g1 => ∃ v, v9 = bI v ∧ ((v = true ↔ agm w h tol rP rQ bns M) ∧ ad = ad1 ∧ (∃ tr0 : Int, g1 73 = mE ad th w h kp hb tr0 sq wm) ∧ (∃ (tr1 un1 le1 f1 : Nat → Int32) (kn1 : Nat → Bool), g1 77 = inA cI 256 tr1 ∧ g1 78 = inA cZ 256 (bA kn1) ∧ g1 89 = inA cI 3848 un1 ∧ g1 90 = inA cI 3848 le1 ∧ g1 91 = inA cI 481 f1) ∧ ∀ r1, r1 ≠ 73 → r1 ≠ 77 → r1 ≠ 78 → r1 ≠ 89 → r1 ≠ 90 → r1 ≠ 91 → g1 r1 = g r1))) 0 0 (aB B) := by
  refine ofZ (own := R_M) (by decide) rfl (Nat.le_of_ble_eq_true rfl) ?_
  intro p e s m below meth c Q C hnm hret
  change kV _ _ _ _ _ _ _ _ _ _ _ _ _ _ _ _ _ _ _ _ _ [(0, .ref (ad 73)), (1, .int (iI (M : Int)))] _ _
  refine v_aload_n C d_M_areOfOne_0 rfl 0 rfl ?_
  refine v_iload_n C d_M_areOfOne_1 rfl 1 rfl ?_
  refine v_callVI (As := [.int (iI (M : Int))]) (st := []) (by omega) hm rfl rfl C (c_comes l th w h kp hb tr sq wm M hM hw hh hm tri htri kno hkno tol htol rP hrP rQ hrQ bns hbns unk hunk lef hlef hPQ) (lk_M_164 C.1.2.2.2.2 rfl rfl ⟨Nat.le_of_ble_eq_true rfl, Nat.le_of_ble_eq_true rfl⟩) rfl rfl (Nat.le_of_ble_eq_true rfl) d_M_areOfOne_2 ⟨Nat.le_of_ble_eq_true rfl, Nat.le_of_ble_eq_true rfl⟩ (fun w1 ad1 g1 hp1 => ?_)
  obtain ⟨be, rfl, n, K9, val, tr1, un1, le1, kn1, hbe, hdn, htv, rfl, hm, htri, hkno, hunk, hlef, fr1⟩ := hp1
  have htol := (fr1 79 (by omega) (by omega) (by omega) (by omega) (by omega)).trans htol
  have hrP := (fr1 80 (by omega) (by omega) (by omega) (by omega) (by omega)).trans hrP
  have hrQ := (fr1 81 (by omega) (by omega) (by omega) (by omega) (by omega)).trans hrQ
  have hbns := (fr1 83 (by omega) (by omega) (by omega) (by omega) (by omega)).trans hbns
  have hsum := (fr1 91 (by omega) (by omega) (by omega) (by omega) (by omega)).trans hsum
  have hle9 := Rn_le hdn.1 hw.2 hh.2
  refine v_if_eqB C d_M_areOfOne_5 (fun hb5 => ?_) (fun hb5 => ?_)
  · refine v_iconst C d_M_areOfOne_22 ?_
    exact hret _ _ _ _ _ false _ (Nat.zero_le _) (Nat.zero_le _) d_M_areOfOne_23 ⟨⟨fun q => absurd q (by decide), fun q => by first | exact absurd ((agm_iff hdn).mp q).1 (of_decide_eq_false (hbe.symm.trans hb5)) | exact absurd (((agm_iff hdn).mp q).2 s0 hs8 hU0 k7 hk7) hne7 | exact absurd rfl hb15⟩, rfl, ⟨_, hm⟩, ⟨_, _, _, _, _, htri, hkno, hunk, hlef, hsum⟩, (fun r1 n0 n1 n2 n3 n4 n5 => (fr1 r1 n0 n1 n2 n3 n4))⟩
  · have hnn : n = w * h := of_decide_eq_true (hbe.symm.trans hb5)
    have hall := Rn_all hdn.1 hw.2 hh.2 hnn
    refine v_aload_n C d_M_areOfOne_8 rfl 0 rfl ?_
    refine v_iload_n C d_M_areOfOne_9 rfl 1 rfl ?_
    refine v_callVI (As := [.int (iI (M : Int))]) (st := []) (by omega) hm rfl rfl C (c_disagrees l th w h kp hb (n : Int) sq wm M hM K9 val hall hw hh hm tr1 htri tol htol rP hrP rQ hrQ bns hbns sum hsum hPQ htv) (lk_M_170 C.1.2.2.2.2 rfl rfl ⟨Nat.le_of_ble_eq_true rfl, Nat.le_of_ble_eq_true rfl⟩) rfl rfl (Nat.le_of_ble_eq_true rfl) d_M_areOfOne_10 ⟨Nat.le_of_ble_eq_true rfl, Nat.le_of_ble_eq_true rfl⟩ (fun w2 ad2 g2 hp2 => ?_)
    obtain ⟨hc2, rfl, ⟨fs2, hsum⟩, fr2⟩ := hp2
    have hm := (fr2 73 (by omega)).trans hm
    have htri := (fr2 77 (by omega)).trans htri
    have hkno := (fr2 78 (by omega)).trans hkno
    have htol := (fr2 79 (by omega)).trans htol
    have hrP := (fr2 80 (by omega)).trans hrP
    have hrQ := (fr2 81 (by omega)).trans hrQ
    have hbns := (fr2 83 (by omega)).trans hbns
    have hunk := (fr2 89 (by omega)).trans hunk
    have hlef := (fr2 90 (by omega)).trans hlef
    obtain ⟨s0, k7, hs8, hU0, hk7, hne7, hbe7, hzz7, rfl⟩ | ⟨rfl, hzz7⟩ := hc2
    · -- one
      refine v_bipush C d_M_areOfOne_13 (by decide +kernel) ?_
      refine v_icmp_neI C d_M_areOfOne_15 (by omega) (by omega) (by omega) (by omega) (fun hb15 => ?_) (fun hb15 => ?_)
      · refine v_iconst C d_M_areOfOne_22 ?_
        exact hret _ _ _ _ _ false _ (Nat.zero_le _) (Nat.zero_le _) d_M_areOfOne_23 ⟨⟨fun q => absurd q (by decide), fun q => by first | exact absurd ((agm_iff hdn).mp q).1 (of_decide_eq_false (hbe.symm.trans hb5)) | exact absurd (((agm_iff hdn).mp q).2 s0 hs8 hU0 k7 hk7) hne7 | exact absurd rfl hb15⟩, rfl, ⟨_, hm⟩, ⟨_, _, _, _, _, htri, hkno, hunk, hlef, hsum⟩, (fun r1 n0 n1 n2 n3 n4 n5 => ((fr2 r1 n5).trans (fr1 r1 n0 n1 n2 n3 n4)))⟩
      · refine v_iconst C d_M_areOfOne_18 ?_
        refine v_goto C d_M_areOfOne_19 ?_
        exact absurd hb15 (by omega)
    · -- none
      refine v_bipush C d_M_areOfOne_13 (by decide +kernel) ?_
      refine v_icmp_neI C d_M_areOfOne_15 (by omega) (by omega) (by omega) (by omega) (fun hb15 => ?_) (fun hb15 => ?_)
      · refine v_iconst C d_M_areOfOne_22 ?_
        exact hret _ _ _ _ _ false _ (Nat.zero_le _) (Nat.zero_le _) d_M_areOfOne_23 ⟨⟨fun q => absurd q (by decide), fun q => by first | exact absurd ((agm_iff hdn).mp q).1 (of_decide_eq_false (hbe.symm.trans hb5)) | exact absurd (((agm_iff hdn).mp q).2 s0 hs8 hU0 k7 hk7) hne7 | exact absurd rfl hb15⟩, rfl, ⟨_, hm⟩, ⟨_, _, _, _, _, htri, hkno, hunk, hlef, hsum⟩, (fun r1 n0 n1 n2 n3 n4 n5 => ((fr2 r1 n5).trans (fr1 r1 n0 n1 n2 n3 n4)))⟩
      · refine v_iconst C d_M_areOfOne_18 ?_
        refine v_goto C d_M_areOfOne_19 ?_
        exact hret _ _ _ _ _ true _ (Nat.zero_le _) (Nat.zero_le _) d_M_areOfOne_23 ⟨⟨fun _ => (agm_iff hdn).mpr ⟨hnn, hzz7⟩, fun _ => rfl⟩, rfl, ⟨_, hm⟩, ⟨_, _, _, _, _, htri, hkno, hunk, hlef, hsum⟩, (fun r1 n0 n1 n2 n3 n4 n5 => ((fr2 r1 n5).trans (fr1 r1 n0 n1 n2 n3 n4)))⟩
set_option maxHeartbeats 1000000 in
set_option maxRecDepth 100000 in
theorem c_Maudit (l : Launch) {B : Nat} {D : va_G} {cI cZ cL cS cW : ClassId} {ad : Nat → Nat} {g : Nat → va_E} (th : Int) (w h : Nat) (kp hb : Bool) (tr sq wm : Int) (hw : 1 ≤ w ∧ w ≤ 16) (hh : 1 ≤ h ∧ h ≤ 16) (hm : g 73 = mE ad th w h kp hb tr sq wm) (fil : Nat → Bool) (hfil : g 82 = inA cZ 8 (bA fil)) (tri : Nat → Int32) (htri : g 77 = inA cI 256 tri) (kno : Nat → Bool) (hkno : g 78 = inA cZ 256 (bA kno)) (tol : Nat → Bool) (htol : g 79 = inA cZ 8 (bA tol)) (rP : Nat → Int) (hrP : g 80 = inA cI 8 (jA rP)) (rQ : Nat → Int) (hrQ : g 81 = inA cI 8 (jA rQ)) (bns : Nat → Int32) (hbns : g 83 = inA cI 3848 bns) (unk : Nat → Int32) (hunk : g 89 = inA cI 3848 unk) (lef : Nat → Int32) (hlef : g 90 = inA cI 3848 lef) (sum : Nat → Int32) (hsum : g 91 = inA cI 481 sum) (hPQ : ∀ j, j < 8 → okD (rP j) (rQ j)) (hft : ∀ j, j < 8 → fil j = true → tol j = true) : Met l y_M_audit (Cond.code y_M_audit b_M_audit 3 (some .int) :: wG) (rmF 5 175 0 0) (wPc B D classes (tyL cI cZ cL cS cW) (Zs B) 95 [.ref (ad 73)] ad g) (QI B D classes 95 (fun v ad1 g1 => ((v = iI (-1) ∧ agm w h tol rP rQ bns (mkM fil 8)) ∨ (¬ agm w h tol rP rQ bns (mkM fil 8) ∧ ((∃ s0 : Nat, s0 < 8 ∧ fil s0 = true ∧ agm w h tol rP rQ bns ((mkM fil 8) - 2 ^ s0) ∧ v = iI (s0 : Int) ∧ ∀ i, i < s0 → fil i = true → ¬ agm w h tol rP rQ bns ((mkM fil 8) - 2 ^ i)) ∨ (v = iI 99 ∧ ∀ i, i < 8 → fil i = true → ¬ agm w h tol rP rQ bns ((mkM fil 8) - 2 ^ i))))) ∧ ad = ad1 ∧ (∃ tr0 : Int, g1 73 = mE ad 0 w h kp hb tr0 sq wm) ∧ (∃ (tr1 un1 le1 f1 : Nat → Int32) (kn1 : Nat → Bool), g1 77 = inA cI 256 tr1 ∧ g1 78 = inA cZ 256 (bA kn1) ∧ g1 89 = inA cI 3848 un1 ∧ g1 90 = inA cI 3848 le1 ∧ g1 91 = inA cI 481 f1) ∧ ∀ r1, r1 ≠ 73 → r1 ≠ 77 → r1 ≠ 78 → r1 ≠ 89 → r1 ≠ 90 → r1 ≠ 91 → g1 r1 = g r1)) 0 0 (aB B) := by
  refine ofI (own := R_M) (by decide) rfl (Nat.le_of_ble_eq_true rfl) ?_
  intro p e s m below meth c Q C hnm hret
  change kV _ _ _ _ _ _ _ _ _ _ _ _ _ _ _ _ _ _ _ _ _ [(0, .ref (ad 73))] _ _
  refine v_aload_n C d_M_audit_0 rfl 0 rfl ?_
  refine v_iconst C d_M_audit_1 ?_
  refine pf_M_81 (fs' := [.int (iI 0), .int (iI (w : Int)), .int (iI (h : Int)), .ref (ad 74), .ref (ad 75), .ref (ad 76), .ref (ad 77), .ref (ad 78), .int (bI kp), .int (bI hb), .ref (ad 79), .ref (ad 80), .ref (ad 81), .ref (ad 82), .ref (ad 83), .ref (ad 84), .ref (ad 85), .ref (ad 86), .ref (ad 87), .ref (ad 88), .ref (ad 89), .ref (ad 90), .int (iI tr), .ref (ad 91), .int (iI sq), .int (iI wm), .ref (ad 92), .ref (ad 93)]) C (by omega) hm rfl rfl (Nat.le_of_ble_eq_true rfl) rfl d_M_audit_2 (fun g1 hm fr2 => ?_)
  have hfil := (fr2 82 (by omega)).trans hfil
  have htri := (fr2 77 (by omega)).trans htri
  have hkno := (fr2 78 (by omega)).trans hkno
  have htol := (fr2 79 (by omega)).trans htol
  have hrP := (fr2 80 (by omega)).trans hrP
  have hrQ := (fr2 81 (by omega)).trans hrQ
  have hbns := (fr2 83 (by omega)).trans hbns
  have hunk := (fr2 89 (by omega)).trans hunk
  have hlef := (fr2 90 (by omega)).trans hlef
  have hsum := (fr2 91 (by omega)).trans hsum
  refine v_aload_n C d_M_audit_5 rfl 0 rfl ?_
  refine v_callVI (As := []) (st := []) (by omega) hm rfl rfl C (c_filledOnes l 0 w h kp hb tr sq wm hm fil hfil) (lk_M_173 C.1.2.2.2.2 rfl rfl ⟨Nat.le_of_ble_eq_true rfl, Nat.le_of_ble_eq_true rfl⟩) rfl rfl (Nat.le_of_ble_eq_true rfl) d_M_audit_6 ⟨Nat.le_of_ble_eq_true rfl, Nat.le_of_ble_eq_true rfl⟩ (fun w3 ad3 g3 hp3 => ?_)
  obtain ⟨rfl, rfl, rfl⟩ := hp3
  refine v_istore_n (lv' := [(1, .int (iI ((mkM fil 8) : Int))), (0, .ref (ad 73))]) C d_M_audit_9 rfl (by decide) rfl ?_
  obtain ⟨M, hMe⟩ : ∃ M, M = mkM fil 8 := ⟨_, rfl⟩
  rw [← hMe] at hret ⊢
  have hM : M < 256 := by rw [hMe]; exact mkM_lt _ 8
  have hbit : ∀ j, j < 8 → Nat.testBit M j = fil j := fun j hj => by rw [hMe]; exact mkM_bit _ j hj
  refine v_aload_n C d_M_audit_10 rfl 1 rfl ?_
  refine v_iload_n C d_M_audit_11 rfl 0 rfl ?_
  refine v_callVI (As := [.int (iI (M : Int))]) (st := []) (by omega) hm rfl rfl C (c_areOfOne l 0 w h kp hb tr sq wm M hM hw hh hm tri htri kno hkno tol htol rP hrP rQ hrQ bns hbns unk hunk lef hlef sum hsum hPQ) (lk_M_177 C.1.2.2.2.2 rfl rfl ⟨Nat.le_of_ble_eq_true rfl, Nat.le_of_ble_eq_true rfl⟩) rfl rfl (Nat.le_of_ble_eq_true rfl) d_M_audit_12 ⟨Nat.le_of_ble_eq_true rfl, Nat.le_of_ble_eq_true rfl⟩ (fun w4 ad4 g4 hp4 => ?_)
  obtain ⟨ba4, rfl, hba4, rfl, ⟨tr4, hm⟩, ⟨ta4, ua4, la4, sa4, ka4, htri, hkno, hunk, hlef, hsum⟩, fr4⟩ := hp4
  have hfil := (fr4 82 (by omega) (by omega) (by omega) (by omega) (by omega) (by omega)).trans hfil
  have htol := (fr4 79 (by omega) (by omega) (by omega) (by omega) (by omega) (by omega)).trans htol
  have hrP := (fr4 80 (by omega) (by omega) (by omega) (by omega) (by omega) (by omega)).trans hrP
  have hrQ := (fr4 81 (by omega) (by omega) (by omega) (by omega) (by omega) (by omega)).trans hrQ
  have hbns := (fr4 83 (by omega) (by omega) (by omega) (by omega) (by omega) (by omega)).trans hbns
  refine v_if_eqB C d_M_audit_15 (fun hb15 => ?_) (fun hb15 => ?_)
  · have hnag : ¬ agm w h tol rP rQ bns M := fun q => absurd (hba4.mpr q) (by rw [hb15]; decide)
    refine v_iconst C d_M_audit_20 ?_
    refine v_istore_n (lv' := [(2, .int (iI 0)), (1, .int (iI (M : Int))), (0, .ref (ad 73))]) C d_M_audit_21 rfl (by decide) rfl ?_
    refine v_lv (lv' := [(0, .ref (ad 73)), (1, .int (iI (M : Int))), (2, .int (iI 0))]) [2, 1, 0] rfl ?_
    have L22 : ∀ (d9 : Nat) (j : Nat) (tr9 : Int) (t9 : Nat → Int32) (k9 : Nat → Bool) (u9 : Nat → Int32) (l9 : Nat → Int32) (s9 : Nat → Int32) (G22 : Nat → va_E), 8 - j < d9 → (j ≤ 8) → (∀ i, i < j → fil i = true → ¬ agm w h tol rP rQ bns (M - 2 ^ i)) → (∀ r1, r1 ≠ 73 → r1 ≠ 77 → r1 ≠ 78 → r1 ≠ 89 → r1 ≠ 90 → r1 ≠ 91 → G22 r1 = g4 r1) → G22 73 = .inr (3, [.int (iI 0), .int (iI (w : Int)), .int (iI (h : Int)), .ref (ad 74), .ref (ad 75), .ref (ad 76), .ref (ad 77), .ref (ad 78), .int (bI kp), .int (bI hb), .ref (ad 79), .ref (ad 80), .ref (ad 81), .ref (ad 82), .ref (ad 83), .ref (ad 84), .ref (ad 85), .ref (ad 86), .ref (ad 87), .ref (ad 88), .ref (ad 89), .ref (ad 90), .int (iI tr9), .ref (ad 91), .int (iI sq), .int (iI wm), .ref (ad 92), .ref (ad 93)]) → G22 77 = inA cI 256 t9 → G22 78 = inA cZ 256 (bA k9) → G22 89 = inA cI 3848 u9 → G22 90 = inA cI 3848 l9 → G22 91 = inA cI 481 s9 → kV p l e (rmF 5 175 0 0) s m ([.ref (ad 73)] : List Value).toArray below meth c Q s.heap B D classes 3 95 0 0 ad G22 [(0, .ref (ad 73)), (1, .int (iI (M : Int))), (2, .int (iI (j : Int)))] [] 22 := by
      intro d9
      induction d9 with
      | zero => intro j tr9 t9 k9 u9 l9 s9 G22 hd9; exact absurd hd9 (Nat.not_lt_zero _)
      | succ d9 ih22 =>
        intro j tr9 t9 k9 u9 l9 s9 G22 hd22 hj hno9 hfr22 hm htri hkno hunk hlef hsum
        have hfil := (hfr22 82 (by omega) (by omega) (by omega) (by omega) (by omega) (by omega)).trans hfil
        have htol := (hfr22 79 (by omega) (by omega) (by omega) (by omega) (by omega) (by omega)).trans htol
        have hrP := (hfr22 80 (by omega) (by omega) (by omega) (by omega) (by omega) (by omega)).trans hrP
        have hrQ := (hfr22 81 (by omega) (by omega) (by omega) (by omega) (by omega) (by omega)).trans hrQ
        have hbns := (hfr22 83 (by omega) (by omega) (by omega) (by omega) (by omega) (by omega)).trans hbns
        refine v_iload_n C d_M_audit_22 rfl 2 rfl ?_
        refine v_bipush C d_M_audit_23 (by decide +kernel) ?_
        refine v_icmp_geI C d_M_audit_25 (by omega) (by omega) (by omega) (by omega) (fun hb25 => ?_) (fun hb25 => ?_)
        · refine v_bipush C d_M_audit_57 (by decide +kernel) ?_
          exact hret _ _ _ _ _ _ _ (Nat.zero_le _) (Nat.zero_le _) d_M_audit_59 ⟨Or.inr ⟨hnag, Or.inr ⟨rfl, fun i hi q => hno9 i (by omega) q⟩⟩, rfl, ⟨_, hm⟩, ⟨_, _, _, _, _, htri, hkno, hunk, hlef, hsum⟩, (fun r1 n0 n1 n2 n3 n4 n5 => ((hfr22 r1 n0 n1 n2 n3 n4 n5).trans ((fr4 r1 n0 n1 n2 n3 n4 n5).trans (fr2 r1 n0))))⟩
        · refine v_aload_n C d_M_audit_28 rfl 0 rfl ?_
          refine gf_M_42 C (by omega) hm rfl d_M_audit_29 ?_
          refine v_iload_n C d_M_audit_32 rfl 2 rfl ?_
          refine v_zaldB C 1 (by omega) hfil rfl (j : Nat) (by omega) (by omega) (by omega) d_M_audit_33 ?_
          refine v_if_eqB C d_M_audit_34 (fun hb34 => ?_) (fun hb34 => ?_)
          · refine v_iinc (lv' := [(2, .int (iI ((j : Int) + 1))), (0, .ref (ad 73)), (1, .int (iI (M : Int)))]) C d_M_audit_51 2 rfl (by decide) rfl ?_
            refine v_goto C d_M_audit_54 ?_
            refine v_lv (lv' := [(0, .ref (ad 73)), (1, .int (iI (M : Int))), (2, .int (iI ((j : Int) + 1)))]) [1, 2, 0] rfl ?_
            exact ih22 (j + 1) tr9 t9 k9 u9 l9 s9 _ (by omega) (by omega) (fun i hi q => by by_cases e9 : i = j; (subst e9; first | exact fun z => absurd (hba4.mpr z) (by rw [hb46]; decide) | exact absurd (hb34.symm.trans q) (by decide)); exact hno9 i (by omega) q) (fun r1 n0 n1 n2 n3 n4 n5 => (hfr22 r1 n0 n1 n2 n3 n4 n5)) hm htri hkno hunk hlef hsum
          · refine v_aload_n C d_M_audit_37 rfl 0 rfl ?_
            refine v_iload_n C d_M_audit_38 rfl 1 rfl ?_
            refine v_iconst C d_M_audit_39 ?_
            refine v_iload_n C d_M_audit_40 rfl 2 rfl ?_
            refine v_ishl C d_M_audit_41 ?_
            rw [shl_tab j (by omega)]
            refine v_isubI C d_M_audit_42 ?_
            have hle2 := pow_le_bit M hM j (by omega) ((hbit j (by omega)).trans hb34)
            refine v_stE (st' := [.int (iI ((M - 2 ^ j : Nat) : Int)), .ref (ad 73)]) (by rw [Int.natCast_sub hle2]) ?_
            refine v_callVI (As := [.int (iI ((M - 2 ^ j : Nat) : Int))]) (st := []) (by omega) hm rfl rfl C (c_areOfOne l 0 w h kp hb tr9 sq wm (M - 2 ^ j) (Nat.lt_of_le_of_lt (Nat.sub_le _ _) hM) hw hh hm t9 htri k9 hkno tol htol rP hrP rQ hrQ bns hbns u9 hunk l9 hlef s9 hsum hPQ) (lk_M_177 C.1.2.2.2.2 rfl rfl ⟨Nat.le_of_ble_eq_true rfl, Nat.le_of_ble_eq_true rfl⟩) rfl rfl (Nat.le_of_ble_eq_true rfl) d_M_audit_43 ⟨Nat.le_of_ble_eq_true rfl, Nat.le_of_ble_eq_true rfl⟩ (fun w5 ad5 g5 hp5 => ?_)
            obtain ⟨ba5, rfl, hba5, rfl, ⟨tr5, hm⟩, ⟨ta5, ua5, la5, sa5, ka5, htri, hkno, hunk, hlef, hsum⟩, fr5⟩ := hp5
            have hfil := (fr5 82 (by omega) (by omega) (by omega) (by omega) (by omega) (by omega)).trans hfil
            have htol := (fr5 79 (by omega) (by omega) (by omega) (by omega) (by omega) (by omega)).trans htol
            have hrP := (fr5 80 (by omega) (by omega) (by omega) (by omega) (by omega) (by omega)).trans hrP
            have hrQ := (fr5 81 (by omega) (by omega) (by omega) (by omega) (by omega) (by omega)).trans hrQ
            have hbns := (fr5 83 (by omega) (by omega) (by omega) (by omega) (by omega) (by omega)).trans hbns
            refine v_if_eqB C d_M_audit_46 (fun hb46 => ?_) (fun hb46 => ?_)
            · refine v_iinc (lv' := [(2, .int (iI ((j : Int) + 1))), (0, .ref (ad 73)), (1, .int (iI (M : Int)))]) C d_M_audit_51 2 rfl (by decide) rfl ?_
              refine v_goto C d_M_audit_54 ?_
              refine v_lv (lv' := [(0, .ref (ad 73)), (1, .int (iI (M : Int))), (2, .int (iI ((j : Int) + 1)))]) [1, 2, 0] rfl ?_
              exact ih22 (j + 1) tr5 ta5 ka5 ua5 la5 sa5 _ (by omega) (by omega) (fun i hi q => by by_cases e9 : i = j; (subst e9; first | exact fun z => absurd (hba5.mpr z) (by rw [hb46]; decide) | exact absurd (hb34.symm.trans q) (by decide)); exact hno9 i (by omega) q) (fun r1 n0 n1 n2 n3 n4 n5 => ((fr5 r1 n0 n1 n2 n3 n4 n5).trans (hfr22 r1 n0 n1 n2 n3 n4 n5))) hm htri hkno hunk hlef hsum
            · refine v_iload_n C d_M_audit_49 rfl 2 rfl ?_
              exact hret _ _ _ _ _ _ _ (Nat.zero_le _) (Nat.zero_le _) d_M_audit_50 ⟨Or.inr ⟨hnag, Or.inl ⟨j, by omega, hb34, hba5.mp hb46, rfl, hno9⟩⟩, rfl, ⟨_, hm⟩, ⟨_, _, _, _, _, htri, hkno, hunk, hlef, hsum⟩, (fun r1 n0 n1 n2 n3 n4 n5 => ((fr5 r1 n0 n1 n2 n3 n4 n5).trans ((hfr22 r1 n0 n1 n2 n3 n4 n5).trans ((fr4 r1 n0 n1 n2 n3 n4 n5).trans (fr2 r1 n0)))))⟩
    exact L22 _ 0 tr4 ta4 ka4 ua4 la4 sa4 _ (Nat.lt_succ_self _) (by omega) (fun i hi => absurd hi (by omega)) (fun r1 _ _ _ _ _ _ => rfl) hm htri hkno hunk hlef hsum
  · refine v_iconst C d_M_audit_18 ?_
    exact hret _ _ _ _ _ _ _ (Nat.zero_le _) (Nat.zero_le _) d_M_audit_19 ⟨Or.inl ⟨rfl, hba4.mp hb15⟩, rfl, ⟨_, hm⟩, ⟨_, _, _, _, _, htri, hkno, hunk, hlef, hsum⟩, (fun r1 n0 n1 n2 n3 n4 n5 => ((fr4 r1 n0 n1 n2 n3 n4 n5).trans (fr2 r1 n0)))⟩
