theorem mid_drop {cL : ClassId} {ad ad1 : Nat → Nat} {g g1 : Nat → va_E} {T : Nat → ShT} {lf : Nat → Int64} {z : Int} {v : Int32} (hp : (v = iI 0 ∧ ∃ (r : Int32) (g0 : Nat → va_E), (∃ v, r = bI v ∧ (∃ s0 : Nat, (s0 : Int) = z ∧ s0 < 8 ∧ v = (T s0).2.1 ∧ ad = ad1 ∧ g0 (9 + 8 * s0) = shE (ad (9 + 8 * s0 + 1)) ((T s0).1, false, (T s0).2.2) ∧ ∀ r1, r1 ≠ 9 + 8 * s0 → g0 r1 = g r1)) ∧ g1 94 = loE cL (vp_updL lf 0 (if r = 0 then 0 else 1)) ∧ ∀ r1, r1 ≠ 94 → g1 r1 = g0 r1) ∨ (v = iI 1 ∧ (fun E => E = "java/lang/IndexOutOfBoundsException" ∧ ¬ (0 ≤ z ∧ z < 8)) "java/lang/IndexOutOfBoundsException" ∧ ad = ad1 ∧ g = g1)) : (∀ r, 73 ≤ r → r < 94 → g1 r = g r) ∧ (∀ r, 73 ≤ r → ad1 r = ad r) ∧ ad1 0 = ad 0 := by
  rcases hp with ⟨-, r, g0, ⟨v0, -, s0, -, hs, -, e, -, pf⟩, -, qf⟩ | ⟨-, -, e, eg⟩
  · subst e; exact ⟨fun r h1 h2 => (qf r (by omega)).trans (pf r (by omega)), fun _ _ => rfl, rfl⟩
  · subst e; subst eg; exact ⟨fun _ _ _ => rfl, fun _ _ => rfl, rfl⟩
theorem pu_drop {cI cZ cL cS cW : ClassId} {ad ad1 ad2 : Nat → Nat} {g g1 g2 : Nat → va_E} {w : Nat} {h : Nat} {hk : Bool} {hr : Bool} {sp : Int} {wb : Int} {tr : Int} {T : Nat → ShT} {KT : Nat → ShT} {nb : Nat → Nat} {kn : Nat → Nat} {nw : Nat → Nat} {ct0 : Nat → Nat} {lo : Nat → Nat} {bf : Nat → Nat → Int32} {kf : Nat → Nat → Int32} {un : Nat → Nat → Int32} {uc : Nat → Nat → Int32} {re : Nat → Nat → Int32} {f : Nat → Int32} {fk : Nat → Int32} {rb : Nat → Int32} {dr : Nat → Int32} {gc : Nat → Int32} {pic : Nat → Int32} {kep : Nat → Int32} {reb : Nat → Int32} {tri : Nat → Int32} {kno : Nat → Bool} {tol : Nat → Bool} {fil : Nat → Bool} {kt : Nat → Bool} {kfl : Nat → Bool} {rP : Nat → Int} {rQ : Nat → Int} {kP : Nat → Int} {kQ : Nat → Int} {bns : Nat → Int32} {kb : Nat → Int32} {unk : Nat → Int32} {lef : Nat → Int32} {sum : Nat → Int32} {spd : Nat → Int32} {spg : Nat → Int32} {lf : Nat → Int64} {th : Int} (HC : clW cI cS cW ad g w h hk hr sp wb T KT nb kn nw ct0 lo bf kf un uc re f fk rb dr gc) (HR : rfW cI cZ ad g w h hk hr sp wb th tr pic kep reb tri kno tol fil kt kfl rP rQ kP kQ bns kb unk lef sum spd spg) (HO : okW w h hk T KT nb kn nw rP rQ kP kQ) (HL : liW w h hk hr T KT bf kf f fk rb pic kep reb tol fil kt kfl rP rQ kP kQ bns kb) (h94 : g 94 = loE cL lf) {z : Int} {v : Int32} {b : Int32} (hp : (v = iI 0 ∧ ∃ (r : Int32) (g0 : Nat → va_E), (∃ v, r = bI v ∧ (∃ s0 : Nat, (s0 : Int) = z ∧ s0 < 8 ∧ v = (T s0).2.1 ∧ ad = ad1 ∧ g0 (9 + 8 * s0) = shE (ad (9 + 8 * s0 + 1)) ((T s0).1, false, (T s0).2.2) ∧ ∀ r1, r1 ≠ 9 + 8 * s0 → g0 r1 = g r1)) ∧ g1 94 = loE cL (vp_updL lf 0 (if r = 0 then 0 else 1)) ∧ ∀ r1, r1 ≠ 94 → g1 r1 = g0 r1) ∨ (v = iI 1 ∧ (fun E => E = "java/lang/IndexOutOfBoundsException" ∧ ¬ (0 ≤ z ∧ z < 8)) "java/lang/IndexOutOfBoundsException" ∧ ad = ad1 ∧ g = g1)) (hq : ∃ v, b = bI v ∧ ((¬ (0 ≤ z ∧ z < 8) ∧ g2 73 = mE ad1 1 w h hk hr tr sp wb ∧ ad1 = ad2 ∧ ∀ r1, r1 ≠ 73 → g2 r1 = g1 r1) ∨ (∃ s0 : Nat, (s0 : Int) = z ∧ s0 < 8 ∧ v = fil s0 ∧ g2 73 = mE ad1 0 w h hk hr tr sp wb ∧ ad1 = ad2 ∧ g2 82 = inA cZ 8 (bA (uP fil s0 false)) ∧ ∀ r1, r1 ≠ 73 → r1 ≠ 82 → g2 r1 = g1 r1))) : ∃ (kk : Int) (lf1 : Nat → Int64), (0 ≤ kk ∧ kk ≤ 3) ∧ v = iI kk ∧ RELx cI cZ cL cS cW kk lf1 ad2 g2 ∧ (kk = 0 → lf1 0 = (if b = 0 then 0 else 1)) := by
  rcases hp with ⟨rfl, r, g0, ⟨v0, hv0, s0, hz, hs, hv, e1, p9, pf⟩, q94, qf⟩ | ⟨rfl, ⟨-, X⟩, e1, eg⟩
  · subst e1
    obtain ⟨v1, hb, hq⟩ := hq
    rcases hq with ⟨n, -⟩ | ⟨s1, hz1, hs1, hv1, q73, e2, q82, sf⟩
    · exact absurd ⟨by omega, by omega⟩ n
    · subst e2
      have es : s0 = s1 := by omega
      subst es
      have he : r = b := by rw [hv0, hb, hv, hv1, (HL.2.2.2.1 s0 hs).2.1]
      refine ⟨0, _, ⟨by omega, by omega⟩, rfl, row_ch HC HR HO HL hs (b := false) (F := bf s0) (bn1 := bns) (sum1 := sum) (fun q => (Bool.false_ne_true q).elim) (fun j _ _ k _ => rfl) q73 ((sf 94 (by omega) (by omega)).trans q94) (((sf _ (by omega) (by omega)).trans (qf _ (by omega))).trans p9) ((((sf _ (by omega) (by omega)).trans (qf _ (by omega))).trans (pf _ (by omega))).trans (HC.2.2.2.2.2.2.2.2.2.2.1 s0 hs)) q82 ?_ ?_ (fun r a1 a2 a3 a4 a5 a6 a7 => ((sf r a4 a5).trans (qf r (by omega))).trans (pf r a2)), fun _ => updL_0.trans (by rw [he])⟩
      · obtain ⟨r73, r74, r75, r76, r77, r78, r79, r80, r81, r82, r83, r84, r85, r86, r87, r88, r89, r90, r91, r92, r93⟩ := HR
        exact (((sf 83 (by omega) (by omega)).trans (qf 83 (by omega))).trans (pf 83 (by omega))).trans r83
      · obtain ⟨r73, r74, r75, r76, r77, r78, r79, r80, r81, r82, r83, r84, r85, r86, r87, r88, r89, r90, r91, r92, r93⟩ := HR
        exact (((sf 91 (by omega) (by omega)).trans (qf 91 (by omega))).trans (pf 91 (by omega))).trans r91
  · subst e1; subst eg
    obtain ⟨v1, hb, hq⟩ := hq
    rcases hq with ⟨-, q73, e2, sf⟩ | ⟨s1, hz1, hs1, -⟩
    · subst e2
      exact ⟨1, lf, ⟨by omega, by omega⟩, rfl, same_st HC HR HO HL q73 ((sf 94 (by omega)).trans h94) (fun r h1 h2 => sf r h2), fun q => absurd q (by omega)⟩
    · exact absurd ⟨by omega, by omega⟩ X
theorem mid_project {cI : ClassId} {ad ad1 : Nat → Nat} {g g1 : Nat → va_E} {w : Nat} {h : Nat} {T : Nat → ShT} {f : Nat → Int32} {z : Int} {v : Int32} (hp : (v = iI 0 ∧ (∃ s0 : Nat, (s0 : Int) = z ∧ s0 < 8 ∧ (T s0).1 = true ∧ ad = ad1 ∧ g1 (9 + 8 * s0 + 1) = inA cI 481 (accY (bnN (T s0).2.2.1 (T s0).2.2.2.1 w h) f w h (fun _ => 0)) ∧ g1 (9 + 8 * s0) = shE (ad (9 + 8 * s0 + 1)) ((T s0).1, true, (T s0).2.2) ∧ ∀ r1, r1 ≠ 9 + 8 * s0 + 1 → r1 ≠ 9 + 8 * s0 → g1 r1 = g r1)) ∨ (v = iI 1 ∧ (fun E => (E = "java/lang/IndexOutOfBoundsException" ∧ ¬ (0 ≤ z ∧ z < 8)) ∨ (E = "java/lang/IllegalStateException" ∧ ∃ s0 : Nat, (s0 : Int) = z ∧ s0 < 8 ∧ (T s0).1 = false)) "java/lang/IndexOutOfBoundsException" ∧ ad = ad1 ∧ g = g1) ∨ (v = iI 2 ∧ (fun E => (E = "java/lang/IndexOutOfBoundsException" ∧ ¬ (0 ≤ z ∧ z < 8)) ∨ (E = "java/lang/IllegalStateException" ∧ ∃ s0 : Nat, (s0 : Int) = z ∧ s0 < 8 ∧ (T s0).1 = false)) "java/lang/IllegalStateException" ∧ ad = ad1 ∧ g = g1)) : (∀ r, 73 ≤ r → r < 94 → g1 r = g r) ∧ (∀ r, 73 ≤ r → ad1 r = ad r) ∧ ad1 0 = ad 0 := by
  rcases hp with ⟨-, s0, -, hs, -, e, -, -, pf⟩ | ⟨-, -, e, eg⟩ | ⟨-, -, e, eg⟩
  · subst e; exact ⟨fun r h1 h2 => pf r (by omega) (by omega), fun _ _ => rfl, rfl⟩
  all_goals subst e; subst eg; exact ⟨fun _ _ _ => rfl, fun _ _ => rfl, rfl⟩
theorem pu_project {cI cZ cL cS cW : ClassId} {ad ad1 ad2 : Nat → Nat} {g g1 g2 : Nat → va_E} {w : Nat} {h : Nat} {hk : Bool} {hr : Bool} {sp : Int} {wb : Int} {tr : Int} {T : Nat → ShT} {KT : Nat → ShT} {nb : Nat → Nat} {kn : Nat → Nat} {nw : Nat → Nat} {ct0 : Nat → Nat} {lo : Nat → Nat} {bf : Nat → Nat → Int32} {kf : Nat → Nat → Int32} {un : Nat → Nat → Int32} {uc : Nat → Nat → Int32} {re : Nat → Nat → Int32} {f : Nat → Int32} {fk : Nat → Int32} {rb : Nat → Int32} {dr : Nat → Int32} {gc : Nat → Int32} {pic : Nat → Int32} {kep : Nat → Int32} {reb : Nat → Int32} {tri : Nat → Int32} {kno : Nat → Bool} {tol : Nat → Bool} {fil : Nat → Bool} {kt : Nat → Bool} {kfl : Nat → Bool} {rP : Nat → Int} {rQ : Nat → Int} {kP : Nat → Int} {kQ : Nat → Int} {bns : Nat → Int32} {kb : Nat → Int32} {unk : Nat → Int32} {lef : Nat → Int32} {sum : Nat → Int32} {spd : Nat → Int32} {spg : Nat → Int32} {lf : Nat → Int64} {th : Int} (HC : clW cI cS cW ad g w h hk hr sp wb T KT nb kn nw ct0 lo bf kf un uc re f fk rb dr gc) (HR : rfW cI cZ ad g w h hk hr sp wb th tr pic kep reb tri kno tol fil kt kfl rP rQ kP kQ bns kb unk lef sum spd spg) (HO : okW w h hk T KT nb kn nw rP rQ kP kQ) (HL : liW w h hk hr T KT bf kf f fk rb pic kep reb tol fil kt kfl rP rQ kP kQ bns kb) (h94 : g 94 = loE cL lf) {z : Int} {v : Int32} (hp : (v = iI 0 ∧ (∃ s0 : Nat, (s0 : Int) = z ∧ s0 < 8 ∧ (T s0).1 = true ∧ ad = ad1 ∧ g1 (9 + 8 * s0 + 1) = inA cI 481 (accY (bnN (T s0).2.2.1 (T s0).2.2.2.1 w h) f w h (fun _ => 0)) ∧ g1 (9 + 8 * s0) = shE (ad (9 + 8 * s0 + 1)) ((T s0).1, true, (T s0).2.2) ∧ ∀ r1, r1 ≠ 9 + 8 * s0 + 1 → r1 ≠ 9 + 8 * s0 → g1 r1 = g r1)) ∨ (v = iI 1 ∧ (fun E => (E = "java/lang/IndexOutOfBoundsException" ∧ ¬ (0 ≤ z ∧ z < 8)) ∨ (E = "java/lang/IllegalStateException" ∧ ∃ s0 : Nat, (s0 : Int) = z ∧ s0 < 8 ∧ (T s0).1 = false)) "java/lang/IndexOutOfBoundsException" ∧ ad = ad1 ∧ g = g1) ∨ (v = iI 2 ∧ (fun E => (E = "java/lang/IndexOutOfBoundsException" ∧ ¬ (0 ≤ z ∧ z < 8)) ∨ (E = "java/lang/IllegalStateException" ∧ ∃ s0 : Nat, (s0 : Int) = z ∧ s0 < 8 ∧ (T s0).1 = false)) "java/lang/IllegalStateException" ∧ ad = ad1 ∧ g = g1)) (hq : (¬ (0 ≤ z ∧ z < 8) ∧ g2 73 = mE ad1 1 w h hk hr tr sp wb ∧ ad1 = ad2 ∧ ∀ r1, r1 ≠ 73 → g2 r1 = g1 r1) ∨ ((∃ s0 : Nat, (s0 : Int) = z ∧ s0 < 8 ∧ tol s0 = false) ∧ g2 73 = mE ad1 2 w h hk hr tr sp wb ∧ ad1 = ad2 ∧ ∀ r1, r1 ≠ 73 → g2 r1 = g1 r1) ∨ (∃ s0 : Nat, (s0 : Int) = z ∧ s0 < 8 ∧ tol s0 = true ∧ g2 73 = mE ad1 0 w h hk hr tr sp wb ∧ ad1 = ad2 ∧ g2 83 = inA cI 3848 (ovl s0 bns (accY (bnN (rP s0) (rQ s0) w h) pic w h (fun _ => 0)) 481) ∧ g2 82 = inA cZ 8 (bA (uP fil s0 true)) ∧ (∃ f1, g2 91 = inA cI 481 f1) ∧ ∀ r1, r1 ≠ 73 → r1 ≠ 82 → r1 ≠ 83 → r1 ≠ 91 → g2 r1 = g1 r1)) : ∃ (kk : Int) (lf1 : Nat → Int64), (0 ≤ kk ∧ kk ≤ 3) ∧ v = iI kk ∧ RELx cI cZ cL cS cW kk lf1 ad2 g2 := by
  rcases hp with ⟨rfl, s0, hz, hs, ht, e1, pb, ps, pf⟩ | ⟨rfl, X, e1, eg⟩ | ⟨rfl, X, e1, eg⟩
  · subst e1
    obtain ⟨t1, t2, t3, t4⟩ := HL.2.2.2.1 s0 hs
    rcases hq with ⟨n, -⟩ | ⟨⟨s1, hz1, hs1, n⟩, -⟩ | ⟨s1, hz1, hs1, ht1, q73, e2, q83, q82, ⟨f1, q91⟩, sf⟩
    · exact absurd ⟨by omega, by omega⟩ n
    · have es : s0 = s1 := by omega
      subst es
      rw [t1, ht] at n
      cases n
    · subst e2
      have es : s0 = s1 := by omega
      subst es
      refine ⟨0, lf, ⟨by omega, by omega⟩, rfl, row_ch HC HR HO HL hs (b := true) (F := accY (bnN (T s0).2.2.1 (T s0).2.2.2.1 w h) f w h (fun _ => 0)) (fun _ => ⟨ht, fun k hk => ?_⟩) (fun j hj hne k hk => ovl_out hne hk) q73 (((sf 94 (by omega) (by omega) (by omega) (by omega)).trans (pf 94 (by omega) (by omega))).trans h94) ((sf _ (by omega) (by omega) (by omega) (by omega)).trans ps) ?_ q82 q83 q91 (fun r a1 a2 a3 a4 a5 a6 a7 => (sf r a4 a5 a6 a7).trans (pf r a3 a2))⟩
      · have hc := (okW_ct HO s0 hs ht).1
        rw [ovl_in (by omega), (t3 ht).1, (t3 ht).2]
        exact accY_congr HL.1
      · rw [(HO.2.2.2.2.2.2.2.1 s0 hs ht).2.2.2]
        exact (sf _ (by omega) (by omega) (by omega) (by omega)).trans pb
  · subst e1; subst eg
    rcases X with ⟨-, X⟩ | ⟨X, -⟩
    · rcases hq with ⟨-, q73, e2, sf⟩ | ⟨⟨s1, hz1, hs1, n⟩, -⟩ | ⟨s1, hz1, hs1, n, -⟩
      · subst e2
        exact ⟨1, lf, ⟨by omega, by omega⟩, rfl, same_st HC HR HO HL q73 ((sf 94 (by omega)).trans h94) (fun r h1 h2 => sf r h2)⟩
      · exact absurd ⟨by omega, by omega⟩ X
      · exact absurd ⟨by omega, by omega⟩ X
    · exact absurd X (by decide)
  · subst e1; subst eg
    rcases X with ⟨X, -⟩ | ⟨-, s0, hz, hs, ht⟩
    · exact absurd X (by decide)
    · obtain ⟨t1, t2, t3, t4⟩ := HL.2.2.2.1 s0 hs
      rcases hq with ⟨n, -⟩ | ⟨-, q73, e2, sf⟩ | ⟨s1, hz1, hs1, n, -⟩
      · exact absurd ⟨by omega, by omega⟩ n
      · subst e2
        exact ⟨2, lf, ⟨by omega, by omega⟩, rfl, same_st HC HR HO HL q73 ((sf 94 (by omega)).trans h94) (fun r h1 h2 => sf r h2)⟩
      · have es : s0 = s1 := by omega
        subst es
        rw [t1, ht] at n
        cases n
theorem mid_put {cI cL : ClassId} {ad ad1 : Nat → Nat} {g g1 : Nat → va_E} {T : Nat → ShT} {bf : Nat → Nat → Int32} {lf : Nat → Int64} {z : Int} {y : Int} {pv : Int32} {v : Int32} (hp : (v = iI 0 ∧ ∃ (r : Int32) (g0 : Nat → va_E), (∃ s0 : Nat, (s0 : Int) = z ∧ s0 < 8 ∧ (T s0).2.1 = true ∧ ∃ k0 : Nat, (k0 : Int) = y ∧ y < (T s0).2.2.2.2.2 ∧ r = bf s0 k0 ∧ ad = ad1 ∧ g0 (9 + 8 * s0 + 1) = inA cI 481 (upd (bf s0) k0 pv) ∧ ∀ r1, r1 ≠ 9 + 8 * s0 + 1 → g0 r1 = g r1) ∧ g1 94 = loE cL (vp_updL lf 0 r.toInt64) ∧ ∀ r1, r1 ≠ 94 → g1 r1 = g0 r1) ∨ (v = iI 1 ∧ (fun E => (E = "java/lang/IndexOutOfBoundsException" ∧ (¬ (0 ≤ z ∧ z < 8) ∨ ∃ s0 : Nat, (s0 : Int) = z ∧ s0 < 8 ∧ (T s0).2.1 = true ∧ ¬ (0 ≤ y ∧ y < (T s0).2.2.2.2.2))) ∨ (E = "java/lang/IllegalStateException" ∧ ∃ s0 : Nat, (s0 : Int) = z ∧ s0 < 8 ∧ (T s0).2.1 = false)) "java/lang/IndexOutOfBoundsException" ∧ ad = ad1 ∧ g = g1) ∨ (v = iI 2 ∧ (fun E => (E = "java/lang/IndexOutOfBoundsException" ∧ (¬ (0 ≤ z ∧ z < 8) ∨ ∃ s0 : Nat, (s0 : Int) = z ∧ s0 < 8 ∧ (T s0).2.1 = true ∧ ¬ (0 ≤ y ∧ y < (T s0).2.2.2.2.2))) ∨ (E = "java/lang/IllegalStateException" ∧ ∃ s0 : Nat, (s0 : Int) = z ∧ s0 < 8 ∧ (T s0).2.1 = false)) "java/lang/IllegalStateException" ∧ ad = ad1 ∧ g = g1)) : (∀ r, 73 ≤ r → r < 94 → g1 r = g r) ∧ (∀ r, 73 ≤ r → ad1 r = ad r) ∧ ad1 0 = ad 0 := by
  rcases hp with ⟨-, r, g0, ⟨s0, -, hs, -, k0, -, -, -, e, -, pf⟩, -, qf⟩ | ⟨-, -, e, eg⟩ | ⟨-, -, e, eg⟩
  · subst e; exact ⟨fun r h1 h2 => (qf r (by omega)).trans (pf r (by omega)), fun _ _ => rfl, rfl⟩
  all_goals subst e; subst eg; exact ⟨fun _ _ _ => rfl, fun _ _ => rfl, rfl⟩
theorem pu_put {cI cZ cL cS cW : ClassId} {ad ad1 ad2 : Nat → Nat} {g g1 g2 : Nat → va_E} {w : Nat} {h : Nat} {hk : Bool} {hr : Bool} {sp : Int} {wb : Int} {tr : Int} {T : Nat → ShT} {KT : Nat → ShT} {nb : Nat → Nat} {kn : Nat → Nat} {nw : Nat → Nat} {ct0 : Nat → Nat} {lo : Nat → Nat} {bf : Nat → Nat → Int32} {kf : Nat → Nat → Int32} {un : Nat → Nat → Int32} {uc : Nat → Nat → Int32} {re : Nat → Nat → Int32} {f : Nat → Int32} {fk : Nat → Int32} {rb : Nat → Int32} {dr : Nat → Int32} {gc : Nat → Int32} {pic : Nat → Int32} {kep : Nat → Int32} {reb : Nat → Int32} {tri : Nat → Int32} {kno : Nat → Bool} {tol : Nat → Bool} {fil : Nat → Bool} {kt : Nat → Bool} {kfl : Nat → Bool} {rP : Nat → Int} {rQ : Nat → Int} {kP : Nat → Int} {kQ : Nat → Int} {bns : Nat → Int32} {kb : Nat → Int32} {unk : Nat → Int32} {lef : Nat → Int32} {sum : Nat → Int32} {spd : Nat → Int32} {spg : Nat → Int32} {lf : Nat → Int64} {th : Int} (HC : clW cI cS cW ad g w h hk hr sp wb T KT nb kn nw ct0 lo bf kf un uc re f fk rb dr gc) (HR : rfW cI cZ ad g w h hk hr sp wb th tr pic kep reb tri kno tol fil kt kfl rP rQ kP kQ bns kb unk lef sum spd spg) (HO : okW w h hk T KT nb kn nw rP rQ kP kQ) (HL : liW w h hk hr T KT bf kf f fk rb pic kep reb tol fil kt kfl rP rQ kP kQ bns kb) (h94 : g 94 = loE cL lf) {z : Int} {y : Int} {pv : Int32} {v : Int32} {b : Int32} (hp : (v = iI 0 ∧ ∃ (r : Int32) (g0 : Nat → va_E), (∃ s0 : Nat, (s0 : Int) = z ∧ s0 < 8 ∧ (T s0).2.1 = true ∧ ∃ k0 : Nat, (k0 : Int) = y ∧ y < (T s0).2.2.2.2.2 ∧ r = bf s0 k0 ∧ ad = ad1 ∧ g0 (9 + 8 * s0 + 1) = inA cI 481 (upd (bf s0) k0 pv) ∧ ∀ r1, r1 ≠ 9 + 8 * s0 + 1 → g0 r1 = g r1) ∧ g1 94 = loE cL (vp_updL lf 0 r.toInt64) ∧ ∀ r1, r1 ≠ 94 → g1 r1 = g0 r1) ∨ (v = iI 1 ∧ (fun E => (E = "java/lang/IndexOutOfBoundsException" ∧ (¬ (0 ≤ z ∧ z < 8) ∨ ∃ s0 : Nat, (s0 : Int) = z ∧ s0 < 8 ∧ (T s0).2.1 = true ∧ ¬ (0 ≤ y ∧ y < (T s0).2.2.2.2.2))) ∨ (E = "java/lang/IllegalStateException" ∧ ∃ s0 : Nat, (s0 : Int) = z ∧ s0 < 8 ∧ (T s0).2.1 = false)) "java/lang/IndexOutOfBoundsException" ∧ ad = ad1 ∧ g = g1) ∨ (v = iI 2 ∧ (fun E => (E = "java/lang/IndexOutOfBoundsException" ∧ (¬ (0 ≤ z ∧ z < 8) ∨ ∃ s0 : Nat, (s0 : Int) = z ∧ s0 < 8 ∧ (T s0).2.1 = true ∧ ¬ (0 ≤ y ∧ y < (T s0).2.2.2.2.2))) ∨ (E = "java/lang/IllegalStateException" ∧ ∃ s0 : Nat, (s0 : Int) = z ∧ s0 < 8 ∧ (T s0).2.1 = false)) "java/lang/IllegalStateException" ∧ ad = ad1 ∧ g = g1)) (hq : ((¬ (0 ≤ z ∧ z < 8) ∧ g2 73 = mE ad1 1 w h hk hr tr sp wb ∧ ad1 = ad2 ∧ ∀ r1, r1 ≠ 73 → g2 r1 = g1 r1) ∨ ((∃ s0 : Nat, (s0 : Int) = z ∧ s0 < 8 ∧ (tol s0 = false ∨ fil s0 = false)) ∧ g2 73 = mE ad1 2 w h hk hr tr sp wb ∧ ad1 = ad2 ∧ ∀ r1, r1 ≠ 73 → g2 r1 = g1 r1) ∨ ((∃ s0 : Nat, (s0 : Int) = z ∧ s0 < 8 ∧ tol s0 = true ∧ fil s0 = true ∧ ¬ (0 ≤ y ∧ y < ctI (rP s0) (rQ s0) w h)) ∧ g2 73 = mE ad1 1 w h hk hr tr sp wb ∧ ad1 = ad2 ∧ ∀ r1, r1 ≠ 73 → g2 r1 = g1 r1)) ∨ (∃ s0 : Nat, (s0 : Int) = z ∧ s0 < 8 ∧ tol s0 = true ∧ fil s0 = true ∧ ∃ k0 : Nat, (k0 : Int) = y ∧ y < ctI (rP s0) (rQ s0) w h ∧ b = bns (481 * s0 + k0) ∧ g2 73 = mE ad1 0 w h hk hr tr sp wb ∧ ad1 = ad2 ∧ g2 83 = inA cI 3848 (upd bns (481 * s0 + k0) pv) ∧ ∀ r1, r1 ≠ 73 → r1 ≠ 83 → g2 r1 = g1 r1)) : ∃ (kk : Int) (lf1 : Nat → Int64), (0 ≤ kk ∧ kk ≤ 3) ∧ v = iI kk ∧ RELx cI cZ cL cS cW kk lf1 ad2 g2 ∧ (kk = 0 → lf1 0 = b.toInt64) := by
  rcases hp with ⟨rfl, r, g0, ⟨s0, hz, hs, ht, k0, hk0, hk1, hv, e1, p10, pf⟩, q94, qf⟩ | ⟨rfl, X, e1, eg⟩ | ⟨rfl, X, e1, eg⟩
  · subst e1
    obtain ⟨t1, t2, t3, t4⟩ := HL.2.2.2.1 s0 hs
    obtain ⟨g5, g6, g7, g8⟩ := HO.2.2.2.2.2.2.2.1 s0 hs (t4 ht).1
    rcases hq with (⟨n, -⟩ | ⟨⟨s1, hz1, hs1, n⟩, -⟩ | ⟨⟨s1, hz1, hs1, -, -, n⟩, -⟩) | ⟨s1, hz1, hs1, ht1, hf1, k1, hk2, hk3, hb, q73, e2, q83, sf⟩
    · exact absurd ⟨by omega, by omega⟩ n
    · exfalso
      have es : s0 = s1 := by omega
      subst es
      rw [t1, t2, ht, (t4 ht).1] at n
      rcases n with n | n <;> cases n
    · have es : s0 = s1 := by omega
      subst es
      rw [(t3 (t4 ht).1).1, (t3 (t4 ht).1).2, ← g7] at n
      exact absurd ⟨by omega, hk1⟩ n
    · subst e2
      have es : s0 = s1 := by omega
      subst es
      have ek : k0 = k1 := by omega
      subst ek
      obtain ⟨n1, n2⟩ := okW_ct HO s0 hs (t4 ht).1
      have hk4 : k0 < 481 := by omega
      have FP : ∀ r, r ≠ 73 → r ≠ 83 → r ≠ 94 → r ≠ 9 + 8 * s0 + 1 → g2 r = g r := fun r a1 a2 a3 a4 => ((sf r a1 a2).trans (qf r a3)).trans (pf r a4)
      have h9 : g2 (9 + 8 * s0) = shE (ad (9 + 8 * s0 + 1)) ((T s0).1, true, (T s0).2.2) := by
        rw [← ht]
        exact (FP _ (by omega) (by omega) (by omega) (by omega)).trans (HC.2.2.2.2.2.2.2.2.2.1 s0 hs)
      have h82 : bA fil = bA (uP fil s0 true) := by
        funext j
        show bI (fil j) = bI (uP fil s0 true j)
        by_cases e : j = s0
        · subst e; rw [uP_s, t2, ht]
        · rw [uP_n e]
      refine ⟨0, _, ⟨by omega, by omega⟩, rfl, row_ch HC HR HO HL hs (b := true) (F := upd (bf s0) k0 pv) (bn1 := upd bns (481 * s0 + k0) pv) (sum1 := sum) (fun _ => ⟨(t4 ht).1, fun k hk => ?_⟩) (fun j hj hne k hk => pk_un (by omega)) q73 ((sf 94 (by omega) (by omega)).trans q94) h9 ?_ ?_ q83 ?_ (fun r a1 a2 a3 a4 a5 a6 a7 => FP r a4 a6 (by omega) a3), fun _ => updL_0.trans ?_⟩
      · by_cases e : k = k0
        · subst e; rw [pk_us, pk_us]
        · rw [pk_un e, pk_un (by omega)]
          exact (t4 ht).2 k hk
      · rw [g8]
        exact ((sf _ (by omega) (by omega)).trans (qf _ (by omega))).trans p10
      · rw [← h82]
        obtain ⟨r73, r74, r75, r76, r77, r78, r79, r80, r81, r82, r83, r84, r85, r86, r87, r88, r89, r90, r91, r92, r93⟩ := HR
        exact (FP 82 (by omega) (by omega) (by omega) (by omega)).trans r82
      · obtain ⟨r73, r74, r75, r76, r77, r78, r79, r80, r81, r82, r83, r84, r85, r86, r87, r88, r89, r90, r91, r92, r93⟩ := HR
        exact (FP 91 (by omega) (by omega) (by omega) (by omega)).trans r91
      · rw [hv, hb, (t4 ht).2 k0 (by omega)]
  · subst e1; subst eg
    rcases X with ⟨-, X⟩ | ⟨X, -⟩
    · rcases hq with (⟨-, q73, e2, sf⟩ | ⟨⟨s1, hz1, hs1, n⟩, -⟩ | ⟨-, q73, e2, sf⟩) | ⟨s1, hz1, hs1, ht1, hf1, k1, hk2, hk3, hb, -⟩
      · subst e2
        exact ⟨1, lf, ⟨by omega, by omega⟩, rfl, same_st HC HR HO HL q73 ((sf 94 (by omega)).trans h94) (fun r h1 h2 => sf r h2), fun q => absurd q (by omega)⟩
      · exfalso
        rcases X with X | ⟨s0, hz, hs, ht, X⟩
        · exact X ⟨by omega, by omega⟩
        · have es : s0 = s1 := by omega
          subst es
          obtain ⟨t1, t2, t3, t4⟩ := HL.2.2.2.1 s0 hs
          rw [t1, t2, ht, (t4 ht).1] at n
          rcases n with n | n <;> cases n
      · subst e2
        exact ⟨1, lf, ⟨by omega, by omega⟩, rfl, same_st HC HR HO HL q73 ((sf 94 (by omega)).trans h94) (fun r h1 h2 => sf r h2), fun q => absurd q (by omega)⟩
      · exfalso
        rcases X with X | ⟨s0, hz, hs, ht, X⟩
        · exact X ⟨by omega, by omega⟩
        · have es : s0 = s1 := by omega
          subst es
          obtain ⟨t1, t2, t3, t4⟩ := HL.2.2.2.1 s0 hs
          obtain ⟨g5, g6, g7, g8⟩ := HO.2.2.2.2.2.2.2.1 s0 hs (t4 ht).1
          rw [(t3 (t4 ht).1).1, (t3 (t4 ht).1).2, ← g7] at hk3
          exact X ⟨by omega, hk3⟩
    · exact absurd X (by decide)
  · subst e1; subst eg
    rcases X with ⟨X, -⟩ | ⟨-, s0, hz, hs, ht⟩
    · exact absurd X (by decide)
    · obtain ⟨t1, t2, t3, t4⟩ := HL.2.2.2.1 s0 hs
      rcases hq with (⟨n, -⟩ | ⟨-, q73, e2, sf⟩ | ⟨⟨s1, hz1, hs1, -, n, -⟩, -⟩) | ⟨s1, hz1, hs1, ht1, n, -⟩
      · exact absurd ⟨by omega, by omega⟩ n
      · subst e2
        exact ⟨2, lf, ⟨by omega, by omega⟩, rfl, same_st HC HR HO HL q73 ((sf 94 (by omega)).trans h94) (fun r h1 h2 => sf r h2), fun q => absurd q (by omega)⟩
      · have es : s0 = s1 := by omega
        subst es
        rw [t2, ht] at n
        cases n
      · have es : s0 = s1 := by omega
        subst es
        rw [t2, ht] at n
        cases n
theorem dir_same {w h : Nat} {T : Nat → ShT} {bf : Nat → Nat → Int32} {tol fil : Nat → Bool} {rP rQ : Nat → Int} {bns : Nat → Int32} {z x y : Int} (H : shR w h T bf tol fil rP rQ bns) : (∃ j : Nat, j < 8 ∧ (j : Int) ≠ z ∧ (T j).1 = true ∧ (T j).2.2.1 = tP x y ∧ (T j).2.2.2.1 = tQ x y) ↔ ∃ j : Nat, j < 8 ∧ (j : Int) ≠ z ∧ tol j = true ∧ rP j = tP x y ∧ rQ j = tQ x y := by
  constructor
  · rintro ⟨j, hj, a, b, c, d⟩
    obtain ⟨t1, t2, t3, t4⟩ := H j hj
    exact ⟨j, hj, a, t1.trans b, (t3 b).1.trans c, (t3 b).2.trans d⟩
  · rintro ⟨j, hj, a, b, c, d⟩
    obtain ⟨t1, t2, t3, t4⟩ := H j hj
    have b' := t1.symm.trans b
    exact ⟨j, hj, a, b', (t3 b').1.symm.trans c, (t3 b').2.symm.trans d⟩
theorem tPQ_ok {x y : Int} (h : isD x y) : okD (tP x y) (tQ x y) ∧ (tQ x y = 0 → 0 < tP x y) := by
  obtain ⟨h1, h2, h3, h4, h5⟩ := h
  have h6 := h5 2 (by omega) (by omega)
  have h7 : ¬ (x = 0 ∧ y = 0) := fun q => h6 (by rw [q.1, q.2]; exact ⟨rfl, rfl⟩)
  unfold okD tP tQ
  split <;> omega
theorem mid_direction {cI : ClassId} {ad ad1 : Nat → Nat} {g g1 : Nat → va_E} {w : Nat} {h : Nat} {T : Nat → ShT} {z : Int} {x : Int} {y : Int} {v : Int32} (hp : (v = iI 0 ∧ (isD x y ∧ ¬ (∃ j : Nat, j < 8 ∧ (j : Int) ≠ z ∧ (T j).1 = true ∧ (T j).2.2.1 = tP x y ∧ (T j).2.2.2.1 = tQ x y) ∧ ∃ (s0 : Nat) (f1 : Nat → Int32), (s0 : Int) = z ∧ s0 < 8 ∧ g1 (9 + 8 * s0 + 1) = inA cI 481 f1 ∧ g1 (9 + 8 * s0) = shE (ad1 (9 + 8 * s0 + 1)) (true, false, tP x y, tQ x y, lzI (tP x y) (tQ x y) w h, ctI (tP x y) (tQ x y) w h) ∧ (∀ r1, r1 ≠ 9 + 8 * s0 + 1 → r1 ≠ 9 + 8 * s0 → g1 r1 = g r1) ∧ ∀ r1, r1 ≠ 9 + 8 * s0 + 1 → ad1 r1 = ad r1)) ∨ (v = iI 1 ∧ (fun E => (E = "java/lang/IndexOutOfBoundsException" ∧ ¬ (0 ≤ z ∧ z < 8)) ∨ (E = "java/lang/IllegalArgumentException" ∧ (0 ≤ z ∧ z < 8) ∧ (¬ isD x y ∨ ∃ j : Nat, j < 8 ∧ (j : Int) ≠ z ∧ (T j).1 = true ∧ (T j).2.2.1 = tP x y ∧ (T j).2.2.2.1 = tQ x y))) "java/lang/IndexOutOfBoundsException" ∧ ad = ad1 ∧ g = g1) ∨ (v = iI 2 ∧ (fun E => (E = "java/lang/IndexOutOfBoundsException" ∧ ¬ (0 ≤ z ∧ z < 8)) ∨ (E = "java/lang/IllegalArgumentException" ∧ (0 ≤ z ∧ z < 8) ∧ (¬ isD x y ∨ ∃ j : Nat, j < 8 ∧ (j : Int) ≠ z ∧ (T j).1 = true ∧ (T j).2.2.1 = tP x y ∧ (T j).2.2.2.1 = tQ x y))) "java/lang/IllegalArgumentException" ∧ ad = ad1 ∧ g = g1)) : (∀ r, 73 ≤ r → r < 94 → g1 r = g r) ∧ (∀ r, 73 ≤ r → ad1 r = ad r) ∧ ad1 0 = ad 0 := by
  rcases hp with ⟨-, -, -, s0, f1, -, hs, -, -, pf, pa⟩ | ⟨-, -, e, eg⟩ | ⟨-, -, e, eg⟩
  · exact ⟨fun r h1 h2 => pf r (by omega) (by omega), fun r h1 => pa r (by omega), pa 0 (by omega)⟩
  all_goals subst e; subst eg; exact ⟨fun _ _ _ => rfl, fun _ _ => rfl, rfl⟩
theorem pu_direction {cI cZ cL cS cW : ClassId} {ad ad1 ad2 : Nat → Nat} {g g1 g2 : Nat → va_E} {w : Nat} {h : Nat} {hk : Bool} {hr : Bool} {sp : Int} {wb : Int} {tr : Int} {T : Nat → ShT} {KT : Nat → ShT} {nb : Nat → Nat} {kn : Nat → Nat} {nw : Nat → Nat} {ct0 : Nat → Nat} {lo : Nat → Nat} {bf : Nat → Nat → Int32} {kf : Nat → Nat → Int32} {un : Nat → Nat → Int32} {uc : Nat → Nat → Int32} {re : Nat → Nat → Int32} {f : Nat → Int32} {fk : Nat → Int32} {rb : Nat → Int32} {dr : Nat → Int32} {gc : Nat → Int32} {pic : Nat → Int32} {kep : Nat → Int32} {reb : Nat → Int32} {tri : Nat → Int32} {kno : Nat → Bool} {tol : Nat → Bool} {fil : Nat → Bool} {kt : Nat → Bool} {kfl : Nat → Bool} {rP : Nat → Int} {rQ : Nat → Int} {kP : Nat → Int} {kQ : Nat → Int} {bns : Nat → Int32} {kb : Nat → Int32} {unk : Nat → Int32} {lef : Nat → Int32} {sum : Nat → Int32} {spd : Nat → Int32} {spg : Nat → Int32} {lf : Nat → Int64} {th : Int} (HC : clW cI cS cW ad g w h hk hr sp wb T KT nb kn nw ct0 lo bf kf un uc re f fk rb dr gc) (HR : rfW cI cZ ad g w h hk hr sp wb th tr pic kep reb tri kno tol fil kt kfl rP rQ kP kQ bns kb unk lef sum spd spg) (HO : okW w h hk T KT nb kn nw rP rQ kP kQ) (HL : liW w h hk hr T KT bf kf f fk rb pic kep reb tol fil kt kfl rP rQ kP kQ bns kb) (h94 : g 94 = loE cL lf) {z : Int} {x : Int} {y : Int} {v : Int32} (hp : (v = iI 0 ∧ (isD x y ∧ ¬ (∃ j : Nat, j < 8 ∧ (j : Int) ≠ z ∧ (T j).1 = true ∧ (T j).2.2.1 = tP x y ∧ (T j).2.2.2.1 = tQ x y) ∧ ∃ (s0 : Nat) (f1 : Nat → Int32), (s0 : Int) = z ∧ s0 < 8 ∧ g1 (9 + 8 * s0 + 1) = inA cI 481 f1 ∧ g1 (9 + 8 * s0) = shE (ad1 (9 + 8 * s0 + 1)) (true, false, tP x y, tQ x y, lzI (tP x y) (tQ x y) w h, ctI (tP x y) (tQ x y) w h) ∧ (∀ r1, r1 ≠ 9 + 8 * s0 + 1 → r1 ≠ 9 + 8 * s0 → g1 r1 = g r1) ∧ ∀ r1, r1 ≠ 9 + 8 * s0 + 1 → ad1 r1 = ad r1)) ∨ (v = iI 1 ∧ (fun E => (E = "java/lang/IndexOutOfBoundsException" ∧ ¬ (0 ≤ z ∧ z < 8)) ∨ (E = "java/lang/IllegalArgumentException" ∧ (0 ≤ z ∧ z < 8) ∧ (¬ isD x y ∨ ∃ j : Nat, j < 8 ∧ (j : Int) ≠ z ∧ (T j).1 = true ∧ (T j).2.2.1 = tP x y ∧ (T j).2.2.2.1 = tQ x y))) "java/lang/IndexOutOfBoundsException" ∧ ad = ad1 ∧ g = g1) ∨ (v = iI 2 ∧ (fun E => (E = "java/lang/IndexOutOfBoundsException" ∧ ¬ (0 ≤ z ∧ z < 8)) ∨ (E = "java/lang/IllegalArgumentException" ∧ (0 ≤ z ∧ z < 8) ∧ (¬ isD x y ∨ ∃ j : Nat, j < 8 ∧ (j : Int) ≠ z ∧ (T j).1 = true ∧ (T j).2.2.1 = tP x y ∧ (T j).2.2.2.1 = tQ x y))) "java/lang/IllegalArgumentException" ∧ ad = ad1 ∧ g = g1)) (hq : (¬ (0 ≤ z ∧ z < 8) ∧ g2 73 = mE ad1 1 w h hk hr tr sp wb ∧ ad1 = ad2 ∧ ∀ r1, r1 ≠ 73 → g2 r1 = g1 r1) ∨ ((0 ≤ z ∧ z < 8) ∧ (¬ isD x y ∨ ∃ j : Nat, j < 8 ∧ (j : Int) ≠ z ∧ tol j = true ∧ rP j = tP x y ∧ rQ j = tQ x y) ∧ g2 73 = mE ad1 2 w h hk hr tr sp wb ∧ ad1 = ad2 ∧ ∀ r1, r1 ≠ 73 → g2 r1 = g1 r1) ∨ ((0 ≤ z ∧ z < 8) ∧ ¬ (¬ isD x y ∨ ∃ j : Nat, j < 8 ∧ (j : Int) ≠ z ∧ tol j = true ∧ rP j = tP x y ∧ rQ j = tQ x y) ∧ g2 73 = mE ad1 0 w h hk hr tr sp wb ∧ ad1 = ad2 ∧ ∃ s0 : Nat, (s0 : Int) = z ∧ s0 < 8 ∧ g2 79 = inA cZ 8 (bA (uP tol s0 true)) ∧ g2 80 = inA cI 8 (jA (uP rP s0 (tP x y))) ∧ g2 81 = inA cI 8 (jA (uP rQ s0 (tQ x y))) ∧ g2 82 = inA cZ 8 (bA (uP fil s0 false)) ∧ ∀ r1, r1 ≠ 73 → r1 ≠ 79 → r1 ≠ 80 → r1 ≠ 81 → r1 ≠ 82 → g2 r1 = g1 r1)) : ∃ (kk : Int) (lf1 : Nat → Int64), (0 ≤ kk ∧ kk ≤ 3) ∧ v = iI kk ∧ RELx cI cZ cL cS cW kk lf1 ad2 g2 := by
  rcases hp with ⟨rfl, hd, hno, s0, f1, hz, hs, p10, p9, pf, pa⟩ | ⟨rfl, X, e1, eg⟩ | ⟨rfl, X, e1, eg⟩
  · rcases hq with ⟨n, -⟩ | ⟨-, n, -⟩ | ⟨-, -, q73, e2, s1, hz1, hs1, q79, q80, q81, q82, sf⟩
    · exact absurd ⟨by omega, by omega⟩ n
    · rcases n with n | n
      · exact absurd hd n
      · exact absurd ((dir_same HL.2.2.2.1).mpr n) hno
    · subst e2
      have es : s0 = s1 := by omega
      subst es
      obtain ⟨hok, hpp⟩ := tPQ_ok hd
      obtain ⟨c0, c1, c2, c3, c4, c5, c6, c7, c8, c9, c10, c11, c12, c13, c14, c15, c16⟩ := HC; obtain ⟨r73, r74, r75, r76, r77, r78, r79, r80, r81, r82, r83, r84, r85, r86, r87, r88, r89, r90, r91, r92, r93⟩ := HR; obtain ⟨hw, hh, bT, bK, nbO, knO, nwO, geo, filO, posO, kkO, PQ, KPQ⟩ := HO; obtain ⟨lp, lk, lr, lsh, lkk⟩ := HL
      refine ⟨0, lf, ⟨by omega, by omega⟩, rfl, ⟨w, h, hk, hr, sp, wb, tr, uP T s0 (true, false, tP x y, tQ x y, lzI (tP x y) (tQ x y) w h, ctI (tP x y) (tQ x y) w h), KT, uP nb s0 481, kn, nw, ct0, lo, uP bf s0 f1, kf, un, uc, re, f, fk, rb, dr, gc, pic, kep, reb, tri, kno, uP tol s0 true, uP fil s0 false, kt, kfl, uP rP s0 (tP x y), uP rQ s0 (tQ x y), kP, kQ, bns, kb, unk, lef, sum, spd, spg, ?_, ?_, ?_, ?_, ((sf 94 (by omega) (by omega) (by omega) (by omega) (by omega)).trans (pf 94 (by omega) (by omega))).trans h94⟩⟩
      · refine ⟨(((sf 0 (by omega) (by omega) (by omega) (by omega) (by omega)).trans (pf 0 (by omega) (by omega))).trans c0).trans (by unfold xE; rw [pa 1 (by omega), pa 2 (by omega), pa 3 (by omega), pa 4 (by omega), pa 5 (by omega), pa 6 (by omega), pa 7 (by omega), pa 8 (by omega)]), ((sf 1 (by omega) (by omega) (by omega) (by omega) (by omega)).trans (pf 1 (by omega) (by omega))).trans c1, (((sf 2 (by omega) (by omega) (by omega) (by omega) (by omega)).trans (pf 2 (by omega) (by omega))).trans c2).trans (by rw [shs_ad (ad1 := ad1) (fun s9 => pa _ (by omega))]), ((sf 3 (by omega) (by omega) (by omega) (by omega) (by omega)).trans (pf 3 (by omega) (by omega))).trans c3, (((sf 4 (by omega) (by omega) (by omega) (by omega) (by omega)).trans (pf 4 (by omega) (by omega))).trans c4).trans (by rw [shs_ad (ad1 := ad1) (fun s9 => pa _ (by omega))]), ((sf 5 (by omega) (by omega) (by omega) (by omega) (by omega)).trans (pf 5 (by omega) (by omega))).trans c5, ((sf 6 (by omega) (by omega) (by omega) (by omega) (by omega)).trans (pf 6 (by omega) (by omega))).trans c6, (((sf 7 (by omega) (by omega) (by omega) (by omega) (by omega)).trans (pf 7 (by omega) (by omega))).trans c7).trans (by rw [shs_ad (ad1 := ad1) (fun s9 => pa _ (by omega))]), ((sf 8 (by omega) (by omega) (by omega) (by omega) (by omega)).trans (pf 8 (by omega) (by omega))).trans c8, fun j hj => ?_, fun j hj => ?_, fun j hj => by rw [pa _ (by omega)]; exact ((sf (11 + 8 * j) (by omega) (by omega) (by omega) (by omega) (by omega)).trans (pf (11 + 8 * j) (by omega) (by omega))).trans (c11 j hj), fun j hj => ((sf (11 + 8 * j + 1) (by omega) (by omega) (by omega) (by omega) (by omega)).trans (pf (11 + 8 * j + 1) (by omega) (by omega))).trans (c12 j hj), fun j hj => by rw [pa (13 + 8 * j + 1) (by omega), pa (13 + 8 * j + 2) (by omega), pa (13 + 8 * j + 3) (by omega)]; exact ((sf (13 + 8 * j) (by omega) (by omega) (by omega) (by omega) (by omega)).trans (pf (13 + 8 * j) (by omega) (by omega))).trans (c13 j hj), fun j hj => ((sf (13 + 8 * j + 1) (by omega) (by omega) (by omega) (by omega) (by omega)).trans (pf (13 + 8 * j + 1) (by omega) (by omega))).trans (c14 j hj), fun j hj => ((sf (13 + 8 * j + 2) (by omega) (by omega) (by omega) (by omega) (by omega)).trans (pf (13 + 8 * j + 2) (by omega) (by omega))).trans (c15 j hj), fun j hj => ((sf (13 + 8 * j + 3) (by omega) (by omega) (by omega) (by omega) (by omega)).trans (pf (13 + 8 * j + 3) (by omega) (by omega))).trans (c16 j hj)⟩
        · by_cases e : j = s0
          · subst e; rw [uP_s]; exact (sf _ (by omega) (by omega) (by omega) (by omega) (by omega)).trans p9
          · rw [uP_n e, pa _ (by omega)]; exact ((sf (9 + 8 * j) (by omega) (by omega) (by omega) (by omega) (by omega)).trans (pf (9 + 8 * j) (by omega) (by omega))).trans (c9 j hj)
        · by_cases e : j = s0
          · subst e; rw [uP_s, uP_s]; exact (sf _ (by omega) (by omega) (by omega) (by omega) (by omega)).trans p10
          · rw [uP_n e, uP_n e]; exact ((sf (9 + 8 * j + 1) (by omega) (by omega) (by omega) (by omega) (by omega)).trans (pf (9 + 8 * j + 1) (by omega) (by omega))).trans (c10 j hj)
      · exact ⟨q73, ((sf 74 (by omega) (by omega) (by omega) (by omega) (by omega)).trans (pf 74 (by omega) (by omega))).trans r74, ((sf 75 (by omega) (by omega) (by omega) (by omega) (by omega)).trans (pf 75 (by omega) (by omega))).trans r75, ((sf 76 (by omega) (by omega) (by omega) (by omega) (by omega)).trans (pf 76 (by omega) (by omega))).trans r76, ((sf 77 (by omega) (by omega) (by omega) (by omega) (by omega)).trans (pf 77 (by omega) (by omega))).trans r77, ((sf 78 (by omega) (by omega) (by omega) (by omega) (by omega)).trans (pf 78 (by omega) (by omega))).trans r78, q79, q80, q81, q82, ((sf 83 (by omega) (by omega) (by omega) (by omega) (by omega)).trans (pf 83 (by omega) (by omega))).trans r83, ((sf 84 (by omega) (by omega) (by omega) (by omega) (by omega)).trans (pf 84 (by omega) (by omega))).trans r84, ((sf 85 (by omega) (by omega) (by omega) (by omega) (by omega)).trans (pf 85 (by omega) (by omega))).trans r85, ((sf 86 (by omega) (by omega) (by omega) (by omega) (by omega)).trans (pf 86 (by omega) (by omega))).trans r86, ((sf 87 (by omega) (by omega) (by omega) (by omega) (by omega)).trans (pf 87 (by omega) (by omega))).trans r87, ((sf 88 (by omega) (by omega) (by omega) (by omega) (by omega)).trans (pf 88 (by omega) (by omega))).trans r88, ((sf 89 (by omega) (by omega) (by omega) (by omega) (by omega)).trans (pf 89 (by omega) (by omega))).trans r89, ((sf 90 (by omega) (by omega) (by omega) (by omega) (by omega)).trans (pf 90 (by omega) (by omega))).trans r90, ((sf 91 (by omega) (by omega) (by omega) (by omega) (by omega)).trans (pf 91 (by omega) (by omega))).trans r91, ((sf 92 (by omega) (by omega) (by omega) (by omega) (by omega)).trans (pf 92 (by omega) (by omega))).trans r92, ((sf 93 (by omega) (by omega) (by omega) (by omega) (by omega)).trans (pf 93 (by omega) (by omega))).trans r93⟩
      · refine ⟨hw, hh, fun j hj => ?_, bK, fun j hj => ?_, knO, nwO, fun j hj => ?_, fun j hj => ?_, fun j hj => ?_, kkO, fun j hj => ?_, KPQ⟩
        · by_cases e : j = s0
          · subst e; rw [uP_s]; exact hok
          · rw [uP_n e]; exact bT j hj
        · by_cases e : j = s0
          · subst e; rw [uP_s]; exact Or.inr rfl
          · rw [uP_n e]; exact nbO j hj
        · by_cases e : j = s0
          · subst e; rw [uP_s, uP_s]; exact fun _ => ⟨hok, rfl, rfl, rfl⟩
          · rw [uP_n e, uP_n e]; exact geo j hj
        · by_cases e : j = s0
          · subst e; rw [uP_s]; exact fun q => (Bool.false_ne_true q).elim
          · rw [uP_n e]; exact filO j hj
        · by_cases e : j = s0
          · subst e; rw [uP_s]; exact fun _ => hpp
          · rw [uP_n e]; exact posO j hj
        · by_cases e : j = s0
          · subst e; rw [uP_s, uP_s]; exact hok
          · rw [uP_n e, uP_n e]; exact PQ j hj
      · refine ⟨lp, lk, lr, fun j hj => ?_, lkk⟩
        by_cases e : j = s0
        · subst e; rw [uP_s, uP_s, uP_s, uP_s, uP_s]; exact ⟨rfl, rfl, fun _ => ⟨rfl, rfl⟩, fun q => (Bool.false_ne_true q).elim⟩
        · rw [uP_n e, uP_n e, uP_n e, uP_n e, uP_n e, uP_n e]; exact lsh j hj
  · subst e1; subst eg
    rcases X with ⟨-, X⟩ | ⟨X, -⟩
    · rcases hq with ⟨-, q73, e2, sf⟩ | ⟨n, -⟩ | ⟨n, -⟩
      · subst e2
        exact ⟨1, lf, ⟨by omega, by omega⟩, rfl, same_st HC HR HO HL q73 ((sf 94 (by omega)).trans h94) (fun r h1 h2 => sf r h2)⟩
      · exact absurd n X
      · exact absurd n X
    · exact absurd X (by decide)
  · subst e1; subst eg
    rcases X with ⟨X, -⟩ | ⟨-, hz, X⟩
    · exact absurd X (by decide)
    · rcases hq with ⟨n, -⟩ | ⟨-, -, q73, e2, sf⟩ | ⟨-, n, -⟩
      · exact absurd hz n
      · subst e2
        exact ⟨2, lf, ⟨by omega, by omega⟩, rfl, same_st HC HR HO HL q73 ((sf 94 (by omega)).trans h94) (fun r h1 h2 => sf r h2)⟩
      · refine absurd ?_ n
        rcases X with X | X
        · exact Or.inl X
        · exact Or.inr ((dir_same HL.2.2.2.1).mp X)
theorem mid_keep {cI : ClassId} {ad ad1 : Nat → Nat} {g g1 : Nat → va_E} {w : Nat} {h : Nat} {hr : Bool} {sp : Int} {wb : Int} {T : Nat → ShT} {bf : Nat → Nat → Int32} {f : Nat → Int32} (hp : ∃ (fk1 : Nat → Int32) (kn1 : Nat → Nat) (kf1 : Nat → Nat → Int32), (∀ k, k < 256 → fk1 k = f k) ∧ (∀ j, j < 8 → kn1 j = 0 ∨ kn1 j = 481) ∧ (∀ j, j < 8 → (T j).2.1 = true → kn1 j = 481 ∧ ∀ k, k < ctN (T j).2.2.1 (T j).2.2.2.1 w h → kf1 j k = bf j k) ∧ g1 0 = xE ad1 w h true hr sp wb ∧ g1 3 = inA cI 256 fk1 ∧ (∀ j, j < 8 → g1 (11 + 8 * j) = shE (ad1 (11 + 8 * j + 1)) (T j)) ∧ (∀ j, j < 8 → g1 (11 + 8 * j + 1) = inA cI (kn1 j) (kf1 j)) ∧ (∀ r1, r1 ≠ 0 → r1 ≠ 3 → (∀ j9, j9 < 8 → r1 ≠ 11 + 8 * j9) → (∀ j9, j9 < 8 → r1 ≠ 11 + 8 * j9 + 1) → g1 r1 = g r1) ∧ ∀ r1, (∀ j9, j9 < 8 → r1 ≠ 11 + 8 * j9 + 1) → ad1 r1 = ad r1) : (∀ r, 73 ≤ r → r < 94 → g1 r = g r) ∧ (∀ r, 73 ≤ r → ad1 r = ad r) ∧ ad1 0 = ad 0 := by
  obtain ⟨fk1, kn1, kf1, -, -, -, -, -, -, -, pf, pa⟩ := hp
  exact ⟨fun r h1 h2 => pf r (by omega) (by omega) (fun j9 hj9 => by omega) (fun j9 hj9 => by omega), fun r h1 => pa r (fun j9 hj9 => by omega), pa 0 (fun j9 hj9 => by omega)⟩
theorem pu_keep {cI cZ cL cS cW : ClassId} {ad ad1 ad2 : Nat → Nat} {g g1 g2 : Nat → va_E} {w : Nat} {h : Nat} {hk : Bool} {hr : Bool} {sp : Int} {wb : Int} {tr : Int} {T : Nat → ShT} {KT : Nat → ShT} {nb : Nat → Nat} {kn : Nat → Nat} {nw : Nat → Nat} {ct0 : Nat → Nat} {lo : Nat → Nat} {bf : Nat → Nat → Int32} {kf : Nat → Nat → Int32} {un : Nat → Nat → Int32} {uc : Nat → Nat → Int32} {re : Nat → Nat → Int32} {f : Nat → Int32} {fk : Nat → Int32} {rb : Nat → Int32} {dr : Nat → Int32} {gc : Nat → Int32} {pic : Nat → Int32} {kep : Nat → Int32} {reb : Nat → Int32} {tri : Nat → Int32} {kno : Nat → Bool} {tol : Nat → Bool} {fil : Nat → Bool} {kt : Nat → Bool} {kfl : Nat → Bool} {rP : Nat → Int} {rQ : Nat → Int} {kP : Nat → Int} {kQ : Nat → Int} {bns : Nat → Int32} {kb : Nat → Int32} {unk : Nat → Int32} {lef : Nat → Int32} {sum : Nat → Int32} {spd : Nat → Int32} {spg : Nat → Int32} {lf : Nat → Int64} {th : Int} (HC : clW cI cS cW ad g w h hk hr sp wb T KT nb kn nw ct0 lo bf kf un uc re f fk rb dr gc) (HR : rfW cI cZ ad g w h hk hr sp wb th tr pic kep reb tri kno tol fil kt kfl rP rQ kP kQ bns kb unk lef sum spd spg) (HO : okW w h hk T KT nb kn nw rP rQ kP kQ) (HL : liW w h hk hr T KT bf kf f fk rb pic kep reb tol fil kt kfl rP rQ kP kQ bns kb) (h94 : g 94 = loE cL lf) (hp : ∃ (fk1 : Nat → Int32) (kn1 : Nat → Nat) (kf1 : Nat → Nat → Int32), (∀ k, k < 256 → fk1 k = f k) ∧ (∀ j, j < 8 → kn1 j = 0 ∨ kn1 j = 481) ∧ (∀ j, j < 8 → (T j).2.1 = true → kn1 j = 481 ∧ ∀ k, k < ctN (T j).2.2.1 (T j).2.2.2.1 w h → kf1 j k = bf j k) ∧ g1 0 = xE ad1 w h true hr sp wb ∧ g1 3 = inA cI 256 fk1 ∧ (∀ j, j < 8 → g1 (11 + 8 * j) = shE (ad1 (11 + 8 * j + 1)) (T j)) ∧ (∀ j, j < 8 → g1 (11 + 8 * j + 1) = inA cI (kn1 j) (kf1 j)) ∧ (∀ r1, r1 ≠ 0 → r1 ≠ 3 → (∀ j9, j9 < 8 → r1 ≠ 11 + 8 * j9) → (∀ j9, j9 < 8 → r1 ≠ 11 + 8 * j9 + 1) → g1 r1 = g r1) ∧ ∀ r1, (∀ j9, j9 < 8 → r1 ≠ 11 + 8 * j9 + 1) → ad1 r1 = ad r1) (hq : ∃ (kep1 kb1 : Nat → Int32) (kt1 kf1 : Nat → Bool) (kP1 kQ1 : Nat → Int), (∀ k, k < 256 → kep1 k = pic k) ∧ (∀ j, j < 8 → kt1 j = tol j ∧ kP1 j = rP j ∧ kQ1 j = rQ j ∧ kf1 j = fil j) ∧ (∀ k, k < 3848 → kb1 k = bns k) ∧ ad1 = ad2 ∧ g2 73 = mE ad1 0 w h true hr tr sp wb ∧ g2 75 = inA cI 256 kep1 ∧ g2 84 = inA cZ 8 (bA kt1) ∧ g2 85 = inA cI 8 (jA kP1) ∧ g2 86 = inA cI 8 (jA kQ1) ∧ g2 87 = inA cZ 8 (bA kf1) ∧ g2 88 = inA cI 3848 kb1 ∧ ∀ r1, r1 ≠ 73 → r1 ≠ 75 → r1 ≠ 84 → r1 ≠ 85 → r1 ≠ 86 → r1 ≠ 87 → r1 ≠ 88 → g2 r1 = g1 r1) : ∃ lf1, RELx cI cZ cL cS cW 0 lf1 ad2 g2 := by
  obtain ⟨fk1, kn1, kf1, a1, a2, a3, p0, p3, p11, p12, pf, pa⟩ := hp
  obtain ⟨kep1, kb1, kt1, kg1, kP1, kQ1, b1, b2, b3, e2, q73, q75, q84, q85, q86, q87, q88, sf⟩ := hq
  subst e2
  have hct := okW_ct HO
  obtain ⟨c0, c1, c2, c3, c4, c5, c6, c7, c8, c9, c10, c11, c12, c13, c14, c15, c16⟩ := HC; obtain ⟨r73, r74, r75, r76, r77, r78, r79, r80, r81, r82, r83, r84, r85, r86, r87, r88, r89, r90, r91, r92, r93⟩ := HR; obtain ⟨hw, hh, bT, bK, nbO, knO, nwO, geo, filO, posO, kkO, PQ, KPQ⟩ := HO; obtain ⟨lp, lk, lr, lsh, lkk⟩ := HL
  refine ⟨lf, ⟨w, h, true, hr, sp, wb, tr, T, T, nb, kn1, nw, ct0, lo, bf, kf1, un, uc, re, f, fk1, rb, dr, gc, pic, kep1, reb, tri, kno, tol, fil, kt1, kg1, rP, rQ, kP1, kQ1, bns, kb1, unk, lef, sum, spd, spg, ?_, ?_, ?_, ?_, ((sf 94 (by omega) (by omega) (by omega) (by omega) (by omega) (by omega) (by omega)).trans (pf 94 (by omega) (by omega) (fun j9 hj9 => by omega) (fun j9 hj9 => by omega))).trans h94⟩⟩
  · exact ⟨(sf 0 (by omega) (by omega) (by omega) (by omega) (by omega) (by omega) (by omega)).trans p0, ((sf 1 (by omega) (by omega) (by omega) (by omega) (by omega) (by omega) (by omega)).trans (pf 1 (by omega) (by omega) (fun j9 hj9 => by omega) (fun j9 hj9 => by omega))).trans c1, (((sf 2 (by omega) (by omega) (by omega) (by omega) (by omega) (by omega) (by omega)).trans (pf 2 (by omega) (by omega) (fun j9 hj9 => by omega) (fun j9 hj9 => by omega))).trans c2).trans (by rw [shs_ad (ad1 := ad1) (fun s9 => pa _ (fun j9 hj9 => by omega))]), (sf 3 (by omega) (by omega) (by omega) (by omega) (by omega) (by omega) (by omega)).trans p3, (((sf 4 (by omega) (by omega) (by omega) (by omega) (by omega) (by omega) (by omega)).trans (pf 4 (by omega) (by omega) (fun j9 hj9 => by omega) (fun j9 hj9 => by omega))).trans c4).trans (by rw [shs_ad (ad1 := ad1) (fun s9 => pa _ (fun j9 hj9 => by omega))]), ((sf 5 (by omega) (by omega) (by omega) (by omega) (by omega) (by omega) (by omega)).trans (pf 5 (by omega) (by omega) (fun j9 hj9 => by omega) (fun j9 hj9 => by omega))).trans c5, ((sf 6 (by omega) (by omega) (by omega) (by omega) (by omega) (by omega) (by omega)).trans (pf 6 (by omega) (by omega) (fun j9 hj9 => by omega) (fun j9 hj9 => by omega))).trans c6, (((sf 7 (by omega) (by omega) (by omega) (by omega) (by omega) (by omega) (by omega)).trans (pf 7 (by omega) (by omega) (fun j9 hj9 => by omega) (fun j9 hj9 => by omega))).trans c7).trans (by rw [shs_ad (ad1 := ad1) (fun s9 => pa _ (fun j9 hj9 => by omega))]), ((sf 8 (by omega) (by omega) (by omega) (by omega) (by omega) (by omega) (by omega)).trans (pf 8 (by omega) (by omega) (fun j9 hj9 => by omega) (fun j9 hj9 => by omega))).trans c8, fun j hj => by rw [pa (9 + 8 * j + 1) (fun j9 hj9 => by omega)]; exact ((sf (9 + 8 * j) (by omega) (by omega) (by omega) (by omega) (by omega) (by omega) (by omega)).trans (pf (9 + 8 * j) (by omega) (by omega) (fun j9 hj9 => by omega) (fun j9 hj9 => by omega))).trans (c9 j hj), fun j hj => ((sf (9 + 8 * j + 1) (by omega) (by omega) (by omega) (by omega) (by omega) (by omega) (by omega)).trans (pf (9 + 8 * j + 1) (by omega) (by omega) (fun j9 hj9 => by omega) (fun j9 hj9 => by omega))).trans (c10 j hj), fun j hj => (sf (11 + 8 * j) (by omega) (by omega) (by omega) (by omega) (by omega) (by omega) (by omega)).trans (p11 j hj), fun j hj => (sf (11 + 8 * j + 1) (by omega) (by omega) (by omega) (by omega) (by omega) (by omega) (by omega)).trans (p12 j hj), fun j hj => by rw [pa (13 + 8 * j + 1) (fun j9 hj9 => by omega), pa (13 + 8 * j + 2) (fun j9 hj9 => by omega), pa (13 + 8 * j + 3) (fun j9 hj9 => by omega)]; exact ((sf (13 + 8 * j) (by omega) (by omega) (by omega) (by omega) (by omega) (by omega) (by omega)).trans (pf (13 + 8 * j) (by omega) (by omega) (fun j9 hj9 => by omega) (fun j9 hj9 => by omega))).trans (c13 j hj), fun j hj => ((sf (13 + 8 * j + 1) (by omega) (by omega) (by omega) (by omega) (by omega) (by omega) (by omega)).trans (pf (13 + 8 * j + 1) (by omega) (by omega) (fun j9 hj9 => by omega) (fun j9 hj9 => by omega))).trans (c14 j hj), fun j hj => ((sf (13 + 8 * j + 2) (by omega) (by omega) (by omega) (by omega) (by omega) (by omega) (by omega)).trans (pf (13 + 8 * j + 2) (by omega) (by omega) (fun j9 hj9 => by omega) (fun j9 hj9 => by omega))).trans (c15 j hj), fun j hj => ((sf (13 + 8 * j + 3) (by omega) (by omega) (by omega) (by omega) (by omega) (by omega) (by omega)).trans (pf (13 + 8 * j + 3) (by omega) (by omega) (fun j9 hj9 => by omega) (fun j9 hj9 => by omega))).trans (c16 j hj)⟩
  · exact ⟨q73, ((sf 74 (by omega) (by omega) (by omega) (by omega) (by omega) (by omega) (by omega)).trans (pf 74 (by omega) (by omega) (fun j9 hj9 => by omega) (fun j9 hj9 => by omega))).trans r74, q75, ((sf 76 (by omega) (by omega) (by omega) (by omega) (by omega) (by omega) (by omega)).trans (pf 76 (by omega) (by omega) (fun j9 hj9 => by omega) (fun j9 hj9 => by omega))).trans r76, ((sf 77 (by omega) (by omega) (by omega) (by omega) (by omega) (by omega) (by omega)).trans (pf 77 (by omega) (by omega) (fun j9 hj9 => by omega) (fun j9 hj9 => by omega))).trans r77, ((sf 78 (by omega) (by omega) (by omega) (by omega) (by omega) (by omega) (by omega)).trans (pf 78 (by omega) (by omega) (fun j9 hj9 => by omega) (fun j9 hj9 => by omega))).trans r78, ((sf 79 (by omega) (by omega) (by omega) (by omega) (by omega) (by omega) (by omega)).trans (pf 79 (by omega) (by omega) (fun j9 hj9 => by omega) (fun j9 hj9 => by omega))).trans r79, ((sf 80 (by omega) (by omega) (by omega) (by omega) (by omega) (by omega) (by omega)).trans (pf 80 (by omega) (by omega) (fun j9 hj9 => by omega) (fun j9 hj9 => by omega))).trans r80, ((sf 81 (by omega) (by omega) (by omega) (by omega) (by omega) (by omega) (by omega)).trans (pf 81 (by omega) (by omega) (fun j9 hj9 => by omega) (fun j9 hj9 => by omega))).trans r81, ((sf 82 (by omega) (by omega) (by omega) (by omega) (by omega) (by omega) (by omega)).trans (pf 82 (by omega) (by omega) (fun j9 hj9 => by omega) (fun j9 hj9 => by omega))).trans r82, ((sf 83 (by omega) (by omega) (by omega) (by omega) (by omega) (by omega) (by omega)).trans (pf 83 (by omega) (by omega) (fun j9 hj9 => by omega) (fun j9 hj9 => by omega))).trans r83, q84, q85, q86, q87, q88, ((sf 89 (by omega) (by omega) (by omega) (by omega) (by omega) (by omega) (by omega)).trans (pf 89 (by omega) (by omega) (fun j9 hj9 => by omega) (fun j9 hj9 => by omega))).trans r89, ((sf 90 (by omega) (by omega) (by omega) (by omega) (by omega) (by omega) (by omega)).trans (pf 90 (by omega) (by omega) (fun j9 hj9 => by omega) (fun j9 hj9 => by omega))).trans r90, ((sf 91 (by omega) (by omega) (by omega) (by omega) (by omega) (by omega) (by omega)).trans (pf 91 (by omega) (by omega) (fun j9 hj9 => by omega) (fun j9 hj9 => by omega))).trans r91, ((sf 92 (by omega) (by omega) (by omega) (by omega) (by omega) (by omega) (by omega)).trans (pf 92 (by omega) (by omega) (fun j9 hj9 => by omega) (fun j9 hj9 => by omega))).trans r92, ((sf 93 (by omega) (by omega) (by omega) (by omega) (by omega) (by omega) (by omega)).trans (pf 93 (by omega) (by omega) (fun j9 hj9 => by omega) (fun j9 hj9 => by omega))).trans r93⟩
  · exact ⟨hw, hh, bT, bT, nbO, a2, nwO, geo, filO, posO, fun _ j hj q => (a3 j hj q).1, PQ, fun j hj => by rw [(b2 j hj).2.1, (b2 j hj).2.2.1]; exact PQ j hj⟩
  · refine ⟨lp, fun _ X Y hx hy => ?_, lr, lsh, fun _ j hj => ?_⟩
    · rw [b1 _ (by omega), a1 _ (by omega)]
      exact lp X Y hx hy
    · obtain ⟨t1, t2, t3, t4⟩ := lsh j hj
      obtain ⟨d1, d2, d3, d4⟩ := b2 j hj
      refine ⟨d4.trans t2, fun q => ⟨d1.trans (t1.trans (t4 q).1), d2.trans (t3 (t4 q).1).1, d3.trans (t3 (t4 q).1).2, fun k hk => ?_⟩⟩
      have hc := (hct j hj (t4 q).1).1
      rw [b3 _ (by omega), (a3 j hj q).2 k hk]
      exact (t4 q).2 k hk
theorem mid_add {cI cL : ClassId} {ad ad1 : Nat → Nat} {g g1 : Nat → va_E} {w : Nat} {h : Nat} {hk : Bool} {T : Nat → ShT} {KT : Nat → ShT} {nb : Nat → Nat} {bf : Nat → Nat → Int32} {kf : Nat → Nat → Int32} {f : Nat → Int32} {fk : Nat → Int32} {lf : Nat → Int64} {b0 : Bool} {v : Int32} (hp : (v = iI 0 ∧ ∃ (r : Int32) (g0 : Nat → va_E), (hk = true ∧ r = iI ((cN 8 (fun i => if ((T i).2.1 && (KT i).2.1 && decide ((KT i).2.2.1 = (T i).2.2.1 ∧ (KT i).2.2.2.1 = (T i).2.2.2.1)) = true then 1 else 0) : Nat) : Int) ∧ ad = ad1 ∧ g0 1 = inA cI 256 (addF b0 f fk 256) ∧ (∀ j, j < 8 → g0 (9 + 8 * j) = shE (ad (9 + 8 * j + 1)) ((T j).1, ((T j).2.1 && (KT j).2.1 && decide ((KT j).2.2.1 = (T j).2.2.1 ∧ (KT j).2.2.2.1 = (T j).2.2.2.1)), (T j).2.2)) ∧ (∀ j, j < 8 → g0 (9 + 8 * j + 1) = inA cI (nb j) (if ((T j).2.1 && (KT j).2.1 && decide ((KT j).2.2.1 = (T j).2.2.1 ∧ (KT j).2.2.2.1 = (T j).2.2.2.1)) = true then addF b0 (bf j) (kf j) (ctN (T j).2.2.1 (T j).2.2.2.1 w h) else bf j)) ∧ ∀ r1, r1 ≠ 1 → (∀ j9, j9 < 8 → r1 ≠ 9 + 8 * j9) → (∀ j9, j9 < 8 → r1 ≠ 9 + 8 * j9 + 1) → g0 r1 = g r1) ∧ g1 94 = loE cL (vp_updL lf 0 r.toInt64) ∧ ∀ r1, r1 ≠ 94 → g1 r1 = g0 r1) ∨ (v = iI 1 ∧ (fun E => E = "java/lang/IllegalStateException" ∧ hk = false) "java/lang/IllegalStateException" ∧ ad = ad1 ∧ g = g1)) : (∀ r, 73 ≤ r → r < 94 → g1 r = g r) ∧ (∀ r, 73 ≤ r → ad1 r = ad r) ∧ ad1 0 = ad 0 := by
  rcases hp with ⟨-, r, g0, ⟨-, -, e, -, -, -, pf⟩, -, qf⟩ | ⟨-, -, e, eg⟩
  · subst e; exact ⟨fun r h1 h2 => (qf r (by omega)).trans (pf r (by omega) (fun j9 hj9 => by omega) (fun j9 hj9 => by omega)), fun _ _ => rfl, rfl⟩
  · subst e; subst eg; exact ⟨fun _ _ _ => rfl, fun _ _ => rfl, rfl⟩
theorem pu_add {cI cZ cL cS cW : ClassId} {ad ad1 ad2 : Nat → Nat} {g g1 g2 : Nat → va_E} {w : Nat} {h : Nat} {hk : Bool} {hr : Bool} {sp : Int} {wb : Int} {tr : Int} {T : Nat → ShT} {KT : Nat → ShT} {nb : Nat → Nat} {kn : Nat → Nat} {nw : Nat → Nat} {ct0 : Nat → Nat} {lo : Nat → Nat} {bf : Nat → Nat → Int32} {kf : Nat → Nat → Int32} {un : Nat → Nat → Int32} {uc : Nat → Nat → Int32} {re : Nat → Nat → Int32} {f : Nat → Int32} {fk : Nat → Int32} {rb : Nat → Int32} {dr : Nat → Int32} {gc : Nat → Int32} {pic : Nat → Int32} {kep : Nat → Int32} {reb : Nat → Int32} {tri : Nat → Int32} {kno : Nat → Bool} {tol : Nat → Bool} {fil : Nat → Bool} {kt : Nat → Bool} {kfl : Nat → Bool} {rP : Nat → Int} {rQ : Nat → Int} {kP : Nat → Int} {kQ : Nat → Int} {bns : Nat → Int32} {kb : Nat → Int32} {unk : Nat → Int32} {lef : Nat → Int32} {sum : Nat → Int32} {spd : Nat → Int32} {spg : Nat → Int32} {lf : Nat → Int64} {th : Int} (HC : clW cI cS cW ad g w h hk hr sp wb T KT nb kn nw ct0 lo bf kf un uc re f fk rb dr gc) (HR : rfW cI cZ ad g w h hk hr sp wb th tr pic kep reb tri kno tol fil kt kfl rP rQ kP kQ bns kb unk lef sum spd spg) (HO : okW w h hk T KT nb kn nw rP rQ kP kQ) (HL : liW w h hk hr T KT bf kf f fk rb pic kep reb tol fil kt kfl rP rQ kP kQ bns kb) (h94 : g 94 = loE cL lf) {b0 : Bool} {v : Int32} {b : Int32} (hp : (v = iI 0 ∧ ∃ (r : Int32) (g0 : Nat → va_E), (hk = true ∧ r = iI ((cN 8 (fun i => if ((T i).2.1 && (KT i).2.1 && decide ((KT i).2.2.1 = (T i).2.2.1 ∧ (KT i).2.2.2.1 = (T i).2.2.2.1)) = true then 1 else 0) : Nat) : Int) ∧ ad = ad1 ∧ g0 1 = inA cI 256 (addF b0 f fk 256) ∧ (∀ j, j < 8 → g0 (9 + 8 * j) = shE (ad (9 + 8 * j + 1)) ((T j).1, ((T j).2.1 && (KT j).2.1 && decide ((KT j).2.2.1 = (T j).2.2.1 ∧ (KT j).2.2.2.1 = (T j).2.2.2.1)), (T j).2.2)) ∧ (∀ j, j < 8 → g0 (9 + 8 * j + 1) = inA cI (nb j) (if ((T j).2.1 && (KT j).2.1 && decide ((KT j).2.2.1 = (T j).2.2.1 ∧ (KT j).2.2.2.1 = (T j).2.2.2.1)) = true then addF b0 (bf j) (kf j) (ctN (T j).2.2.1 (T j).2.2.2.1 w h) else bf j)) ∧ ∀ r1, r1 ≠ 1 → (∀ j9, j9 < 8 → r1 ≠ 9 + 8 * j9) → (∀ j9, j9 < 8 → r1 ≠ 9 + 8 * j9 + 1) → g0 r1 = g r1) ∧ g1 94 = loE cL (vp_updL lf 0 r.toInt64) ∧ ∀ r1, r1 ≠ 94 → g1 r1 = g0 r1) ∨ (v = iI 1 ∧ (fun E => E = "java/lang/IllegalStateException" ∧ hk = false) "java/lang/IllegalStateException" ∧ ad = ad1 ∧ g = g1)) (hq : (hk = false ∧ g2 73 = mE ad1 1 w h hk hr tr sp wb ∧ ad1 = ad2 ∧ ∀ r1, r1 ≠ 73 → g2 r1 = g1 r1) ∨ (hk = true ∧ ∃ (l1 : Nat → Bool) (bn1 : Nat → Int32), b = iI ((cN 8 (fun i => if (fil i && (kt i && kfl i && decide (kP i = rP i ∧ kQ i = rQ i))) = true then 1 else 0) : Nat) : Int) ∧ (∀ i, i < 8 → l1 i = (fil i && (kt i && kfl i && decide (kP i = rP i ∧ kQ i = rQ i)))) ∧ (∀ i, i < 8 → ∀ k, k < 481 → bn1 (481 * i + k) = if (fil i && (kt i && kfl i && decide (kP i = rP i ∧ kQ i = rQ i))) = true then bns (481 * i + k) + sg b0 (kb (481 * i + k)) else bns (481 * i + k)) ∧ ad1 = ad2 ∧ g2 73 = mE ad1 0 w h hk hr tr sp wb ∧ g2 74 = inA cI 256 (addF b0 pic kep 256) ∧ g2 82 = inA cZ 8 (bA l1) ∧ g2 83 = inA cI 3848 bn1 ∧ ∀ r1, r1 ≠ 73 → r1 ≠ 74 → r1 ≠ 82 → r1 ≠ 83 → g2 r1 = g1 r1)) : ∃ (kk : Int) (lf1 : Nat → Int64), (0 ≤ kk ∧ kk ≤ 3) ∧ v = iI kk ∧ RELx cI cZ cL cS cW kk lf1 ad2 g2 ∧ (kk = 0 → lf1 0 = b.toInt64) := by
  rcases hp with ⟨rfl, r, g0, ⟨hk1, hv, e1, p1, p9, p10, pf⟩, q94, qf⟩ | ⟨rfl, ⟨-, X⟩, e1, eg⟩
  · subst e1
    rcases hq with ⟨n, -⟩ | ⟨-, l1, bn1, hb, z1, z2, e2, q73, q74, q82, q83, sf⟩
    · rw [hk1] at n
      cases n
    · subst e2
      have hct := okW_ct HO
      have FLe : ∀ i, i < 8 → (fil i && (kt i && kfl i && decide (kP i = rP i ∧ kQ i = rQ i))) = ((T i).2.1 && (KT i).2.1 && decide ((KT i).2.2.1 = (T i).2.2.1 ∧ (KT i).2.2.2.1 = (T i).2.2.2.1)) := fun i hi => by
        obtain ⟨t1, t2, t3, t4⟩ := HL.2.2.2.1 i hi
        obtain ⟨k1, k2⟩ := HL.2.2.2.2 hk1 i hi
        rw [t2, k1]
        cases hT : (T i).2.1 with
        | false => rfl
        | true =>
          cases hK : (KT i).2.1 with
          | false => simp
          | true =>
            obtain ⟨a1, a2, a3, -⟩ := k2 hK
            obtain ⟨b1, -⟩ := t4 hT
            obtain ⟨d1, d2⟩ := t3 b1
            rw [a1, a2, a3, d1, d2]
            rfl
      have he : r = b := by
        rw [hv, hb]
        congr 2
        refine (cN_congr 8 (fun i hi => ?_)).symm
        show (if (fil i && (kt i && kfl i && decide (kP i = rP i ∧ kQ i = rQ i))) = true then 1 else 0) = (if ((T i).2.1 && (KT i).2.1 && decide ((KT i).2.2.1 = (T i).2.2.1 ∧ (KT i).2.2.2.1 = (T i).2.2.2.1)) = true then 1 else 0)
        rw [FLe i hi]
      have HO2 := okW_fl (F := fun j => ((T j).2.1 && (KT j).2.1 && decide ((KT j).2.2.1 = (T j).2.2.1 ∧ (KT j).2.2.2.1 = (T j).2.2.2.1))) HO (fun j hj q => by
        simp only [Bool.and_eq_true] at q
        exact HO.2.2.2.2.2.2.2.2.1 j hj q.1.1)
      obtain ⟨c0, c1, c2, c3, c4, c5, c6, c7, c8, c9, c10, c11, c12, c13, c14, c15, c16⟩ := HC; obtain ⟨r73, r74, r75, r76, r77, r78, r79, r80, r81, r82, r83, r84, r85, r86, r87, r88, r89, r90, r91, r92, r93⟩ := HR; obtain ⟨lp, lk, lr, lsh, lkk⟩ := HL
      refine ⟨0, _, ⟨by omega, by omega⟩, rfl, ⟨w, h, hk, hr, sp, wb, tr, fun j => ((T j).1, ((T j).2.1 && (KT j).2.1 && decide ((KT j).2.2.1 = (T j).2.2.1 ∧ (KT j).2.2.2.1 = (T j).2.2.2.1)), (T j).2.2), KT, nb, kn, nw, ct0, lo, fun j => if ((T j).2.1 && (KT j).2.1 && decide ((KT j).2.2.1 = (T j).2.2.1 ∧ (KT j).2.2.2.1 = (T j).2.2.2.1)) = true then addF b0 (bf j) (kf j) (ctN (T j).2.2.1 (T j).2.2.2.1 w h) else bf j, kf, un, uc, re, addF b0 f fk 256, fk, rb, dr, gc, addF b0 pic kep 256, kep, reb, tri, kno, tol, l1, kt, kfl, rP, rQ, kP, kQ, bn1, kb, unk, lef, sum, spd, spg, ?_, ?_, HO2, ?_, (sf 94 (by omega) (by omega) (by omega) (by omega)).trans q94⟩, fun _ => updL_0.trans (by rw [he])⟩
      · exact ⟨(((sf 0 (by omega) (by omega) (by omega) (by omega)).trans (qf 0 (by omega))).trans (pf 0 (by omega) (fun j9 hj9 => by omega) (fun j9 hj9 => by omega))).trans c0, ((sf 1 (by omega) (by omega) (by omega) (by omega)).trans (qf 1 (by omega))).trans p1, (((sf 2 (by omega) (by omega) (by omega) (by omega)).trans (qf 2 (by omega))).trans (pf 2 (by omega) (fun j9 hj9 => by omega) (fun j9 hj9 => by omega))).trans c2, (((sf 3 (by omega) (by omega) (by omega) (by omega)).trans (qf 3 (by omega))).trans (pf 3 (by omega) (fun j9 hj9 => by omega) (fun j9 hj9 => by omega))).trans c3, (((sf 4 (by omega) (by omega) (by omega) (by omega)).trans (qf 4 (by omega))).trans (pf 4 (by omega) (fun j9 hj9 => by omega) (fun j9 hj9 => by omega))).trans c4, (((sf 5 (by omega) (by omega) (by omega) (by omega)).trans (qf 5 (by omega))).trans (pf 5 (by omega) (fun j9 hj9 => by omega) (fun j9 hj9 => by omega))).trans c5, (((sf 6 (by omega) (by omega) (by omega) (by omega)).trans (qf 6 (by omega))).trans (pf 6 (by omega) (fun j9 hj9 => by omega) (fun j9 hj9 => by omega))).trans c6, (((sf 7 (by omega) (by omega) (by omega) (by omega)).trans (qf 7 (by omega))).trans (pf 7 (by omega) (fun j9 hj9 => by omega) (fun j9 hj9 => by omega))).trans c7, (((sf 8 (by omega) (by omega) (by omega) (by omega)).trans (qf 8 (by omega))).trans (pf 8 (by omega) (fun j9 hj9 => by omega) (fun j9 hj9 => by omega))).trans c8, fun j hj => ((sf (9 + 8 * j) (by omega) (by omega) (by omega) (by omega)).trans (qf (9 + 8 * j) (by omega))).trans (p9 j hj), fun j hj => ((sf (9 + 8 * j + 1) (by omega) (by omega) (by omega) (by omega)).trans (qf (9 + 8 * j + 1) (by omega))).trans (p10 j hj), fun j hj => (((sf (11 + 8 * j) (by omega) (by omega) (by omega) (by omega)).trans (qf (11 + 8 * j) (by omega))).trans (pf (11 + 8 * j) (by omega) (fun j9 hj9 => by omega) (fun j9 hj9 => by omega))).trans (c11 j hj), fun j hj => (((sf (11 + 8 * j + 1) (by omega) (by omega) (by omega) (by omega)).trans (qf (11 + 8 * j + 1) (by omega))).trans (pf (11 + 8 * j + 1) (by omega) (fun j9 hj9 => by omega) (fun j9 hj9 => by omega))).trans (c12 j hj), fun j hj => (((sf (13 + 8 * j) (by omega) (by omega) (by omega) (by omega)).trans (qf (13 + 8 * j) (by omega))).trans (pf (13 + 8 * j) (by omega) (fun j9 hj9 => by omega) (fun j9 hj9 => by omega))).trans (c13 j hj), fun j hj => (((sf (13 + 8 * j + 1) (by omega) (by omega) (by omega) (by omega)).trans (qf (13 + 8 * j + 1) (by omega))).trans (pf (13 + 8 * j + 1) (by omega) (fun j9 hj9 => by omega) (fun j9 hj9 => by omega))).trans (c14 j hj), fun j hj => (((sf (13 + 8 * j + 2) (by omega) (by omega) (by omega) (by omega)).trans (qf (13 + 8 * j + 2) (by omega))).trans (pf (13 + 8 * j + 2) (by omega) (fun j9 hj9 => by omega) (fun j9 hj9 => by omega))).trans (c15 j hj), fun j hj => (((sf (13 + 8 * j + 3) (by omega) (by omega) (by omega) (by omega)).trans (qf (13 + 8 * j + 3) (by omega))).trans (pf (13 + 8 * j + 3) (by omega) (fun j9 hj9 => by omega) (fun j9 hj9 => by omega))).trans (c16 j hj)⟩
      · exact ⟨q73, q74, (((sf 75 (by omega) (by omega) (by omega) (by omega)).trans (qf 75 (by omega))).trans (pf 75 (by omega) (fun j9 hj9 => by omega) (fun j9 hj9 => by omega))).trans r75, (((sf 76 (by omega) (by omega) (by omega) (by omega)).trans (qf 76 (by omega))).trans (pf 76 (by omega) (fun j9 hj9 => by omega) (fun j9 hj9 => by omega))).trans r76, (((sf 77 (by omega) (by omega) (by omega) (by omega)).trans (qf 77 (by omega))).trans (pf 77 (by omega) (fun j9 hj9 => by omega) (fun j9 hj9 => by omega))).trans r77, (((sf 78 (by omega) (by omega) (by omega) (by omega)).trans (qf 78 (by omega))).trans (pf 78 (by omega) (fun j9 hj9 => by omega) (fun j9 hj9 => by omega))).trans r78, (((sf 79 (by omega) (by omega) (by omega) (by omega)).trans (qf 79 (by omega))).trans (pf 79 (by omega) (fun j9 hj9 => by omega) (fun j9 hj9 => by omega))).trans r79, (((sf 80 (by omega) (by omega) (by omega) (by omega)).trans (qf 80 (by omega))).trans (pf 80 (by omega) (fun j9 hj9 => by omega) (fun j9 hj9 => by omega))).trans r80, (((sf 81 (by omega) (by omega) (by omega) (by omega)).trans (qf 81 (by omega))).trans (pf 81 (by omega) (fun j9 hj9 => by omega) (fun j9 hj9 => by omega))).trans r81, q82, q83, (((sf 84 (by omega) (by omega) (by omega) (by omega)).trans (qf 84 (by omega))).trans (pf 84 (by omega) (fun j9 hj9 => by omega) (fun j9 hj9 => by omega))).trans r84, (((sf 85 (by omega) (by omega) (by omega) (by omega)).trans (qf 85 (by omega))).trans (pf 85 (by omega) (fun j9 hj9 => by omega) (fun j9 hj9 => by omega))).trans r85, (((sf 86 (by omega) (by omega) (by omega) (by omega)).trans (qf 86 (by omega))).trans (pf 86 (by omega) (fun j9 hj9 => by omega) (fun j9 hj9 => by omega))).trans r86, (((sf 87 (by omega) (by omega) (by omega) (by omega)).trans (qf 87 (by omega))).trans (pf 87 (by omega) (fun j9 hj9 => by omega) (fun j9 hj9 => by omega))).trans r87, (((sf 88 (by omega) (by omega) (by omega) (by omega)).trans (qf 88 (by omega))).trans (pf 88 (by omega) (fun j9 hj9 => by omega) (fun j9 hj9 => by omega))).trans r88, (((sf 89 (by omega) (by omega) (by omega) (by omega)).trans (qf 89 (by omega))).trans (pf 89 (by omega) (fun j9 hj9 => by omega) (fun j9 hj9 => by omega))).trans r89, (((sf 90 (by omega) (by omega) (by omega) (by omega)).trans (qf 90 (by omega))).trans (pf 90 (by omega) (fun j9 hj9 => by omega) (fun j9 hj9 => by omega))).trans r90, (((sf 91 (by omega) (by omega) (by omega) (by omega)).trans (qf 91 (by omega))).trans (pf 91 (by omega) (fun j9 hj9 => by omega) (fun j9 hj9 => by omega))).trans r91, (((sf 92 (by omega) (by omega) (by omega) (by omega)).trans (qf 92 (by omega))).trans (pf 92 (by omega) (fun j9 hj9 => by omega) (fun j9 hj9 => by omega))).trans r92, (((sf 93 (by omega) (by omega) (by omega) (by omega)).trans (qf 93 (by omega))).trans (pf 93 (by omega) (fun j9 hj9 => by omega) (fun j9 hj9 => by omega))).trans r93⟩
      · refine ⟨fun X Y hx hy => addF_eq (lp X Y hx hy) (lk hk1 X Y hx hy), lk, lr, fun j hj => ?_, lkk⟩
        obtain ⟨t1, t2, t3, t4⟩ := lsh j hj
        refine ⟨t1, (z1 j hj).trans (FLe j hj), t3, fun q => ?_⟩
        have q : ((T j).2.1 && (KT j).2.1 && decide ((KT j).2.2.1 = (T j).2.2.1 ∧ (KT j).2.2.2.1 = (T j).2.2.2.1)) = true := q
        have q2 := q
        simp only [Bool.and_eq_true, decide_eq_true_eq] at q2
        obtain ⟨⟨q3, q4⟩, q5, q6⟩ := q2
        refine ⟨(t4 q3).1, fun k hk => ?_⟩
        have hk : k < ctN (T j).2.2.1 (T j).2.2.2.1 w h := hk
        have hc := (hct j hj (t4 q3).1).1
        show bn1 (481 * j + k) = (if ((T j).2.1 && (KT j).2.1 && decide ((KT j).2.2.1 = (T j).2.2.1 ∧ (KT j).2.2.2.1 = (T j).2.2.2.1)) = true then addF b0 (bf j) (kf j) (ctN (T j).2.2.1 (T j).2.2.2.1 w h) else bf j) k
        rw [z2 j hj k (by omega), FLe j hj, if_pos q, if_pos q, (t4 q3).2 k hk, ((lkk hk1 j hj).2 q4).2.2.2 k (by rw [q5, q6]; exact hk)]
        unfold addF sg
        rw [if_pos hk]
  · subst e1; subst eg
    rcases hq with ⟨-, q73, e2, sf⟩ | ⟨n, -⟩
    · subst e2
      exact ⟨1, lf, ⟨by omega, by omega⟩, rfl, same_st HC HR HO HL q73 ((sf 94 (by omega)).trans h94) (fun r h1 h2 => sf r h2), fun q => absurd q (by omega)⟩
    · rw [n] at X
      cases X
