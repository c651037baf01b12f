/-! class and reference answer alike -/
theorem updL_0 {f : Nat → Int64} {x : Int64} : vp_updL f 0 x 0 = x := if_pos rfl
theorem upd_eq {f f' : Nat → Int32} {c k : Nat} {v : Int32} (h : f k = f' k) : upd f c v k = upd f' c v k := by
  by_cases e : k = c
  · subst e; rw [pk_us, pk_us]
  · rw [pk_un e, pk_un e, h]
theorem accY_congr {bn : Nat → Nat → Nat} {f f' b : Nat → Int32} {w h k : Nat} (H : ∀ x y : Nat, x < w → y < h → f (16 * y + x) = f' (16 * y + x)) : accY bn f w h b k = accY bn f' w h b k := by
  rw [accY_at, accY_at]
  congr 1
  refine sN_congr h (fun j hj => sN_congr w (fun i hi => ?_))
  show (if bn i j = k then f (16 * j + i) else 0) = (if bn i j = k then f' (16 * j + i) else 0)
  rw [H i j hi hj]
theorem sI_congr {F G : Nat → Int} : ∀ n : Nat, (∀ j, j < n → F j = G j) → sI n F = sI n G
  | 0, _ => rfl
  | n + 1, h => by
    show sI n F + F n = sI n G + G n
    rw [sI_congr n (fun j hj => h j (by omega)), h n (by omega)]
theorem addF_eq {b : Bool} {f f' k k' : Nat → Int32} {n c : Nat} (h1 : f c = f' c) (h2 : k c = k' c) : addF b f k n c = addF b f' k' n c := by
  unfold addF
  rw [h1, h2]
theorem sm_P {w h M : Nat} {T : Nat → ShT} {bf : Nat → Nat → Int32} {tol fil : Nat → Bool} {rP rQ : Nat → Int} {bns : Nat → Int32} (H : shR w h T bf tol fil rP rQ bns) (a : Int → Int) : sI 8 (fun j => if Nat.testBit (mkM (fun j => Nat.testBit M j && (T j).1) 8) j = true then a (T j).2.2.1 else 0) = sI 8 (fun j => if (Nat.testBit M j && tol j) = true then a (rP j) else 0) := sI_congr 8 (fun j hj => by
  obtain ⟨t1, t2, t3, t4⟩ := H j hj
  show (if Nat.testBit (mkM (fun j => Nat.testBit M j && (T j).1) 8) j = true then a (T j).2.2.1 else 0) = (if (Nat.testBit M j && tol j) = true then a (rP j) else 0)
  rw [mkM_bit _ j hj, t1]
  by_cases q : (Nat.testBit M j && (T j).1) = true
  · rw [if_pos q, if_pos q, (t3 ((Bool.and_eq_true _ _).mp q).2).1]
  · rw [if_neg q, if_neg q])
theorem sm_Q {w h M : Nat} {T : Nat → ShT} {bf : Nat → Nat → Int32} {tol fil : Nat → Bool} {rP rQ : Nat → Int} {bns : Nat → Int32} (H : shR w h T bf tol fil rP rQ bns) : sI 8 (fun j => if Nat.testBit (mkM (fun j => Nat.testBit M j && (T j).1) 8) j = true then (T j).2.2.2.1 else 0) = sI 8 (fun j => if (Nat.testBit M j && tol j) = true then rQ j else 0) := sI_congr 8 (fun j hj => by
  obtain ⟨t1, t2, t3, t4⟩ := H j hj
  show (if Nat.testBit (mkM (fun j => Nat.testBit M j && (T j).1) 8) j = true then (T j).2.2.2.1 else 0) = (if (Nat.testBit M j && tol j) = true then rQ j else 0)
  rw [mkM_bit _ j hj, t1]
  by_cases q : (Nat.testBit M j && (T j).1) = true
  · rw [if_pos q, if_pos q, (t3 ((Bool.and_eq_true _ _).mp q).2).2]
  · rw [if_neg q, if_neg q])
theorem same_st {cI cZ cL cS cW : ClassId} {ad : Nat → Nat} {g g2 : Nat → va_E} {w : Nat} {h : Nat} {hk : Bool} {hr : Bool} {sp : Int} {wb : Int} {tr : Int} {T : Nat → ShT} {KT : Nat → ShT} {nb : Nat → Nat} {kn : Nat → Nat} {nw : Nat → Nat} {ct0 : Nat → Nat} {lo : Nat → Nat} {bf : Nat → Nat → Int32} {kf : Nat → Nat → Int32} {un : Nat → Nat → Int32} {uc : Nat → Nat → Int32} {re : Nat → Nat → Int32} {f : Nat → Int32} {fk : Nat → Int32} {rb : Nat → Int32} {dr : Nat → Int32} {gc : Nat → Int32} {pic : Nat → Int32} {kep : Nat → Int32} {reb : Nat → Int32} {tri : Nat → Int32} {kno : Nat → Bool} {tol : Nat → Bool} {fil : Nat → Bool} {kt : Nat → Bool} {kfl : Nat → Bool} {rP : Nat → Int} {rQ : Nat → Int} {kP : Nat → Int} {kQ : Nat → Int} {bns : Nat → Int32} {kb : Nat → Int32} {unk : Nat → Int32} {lef : Nat → Int32} {sum : Nat → Int32} {spd : Nat → Int32} {spg : Nat → Int32} {th : Int} (HC : clW cI cS cW ad g w h hk hr sp wb T KT nb kn nw ct0 lo bf kf un uc re f fk rb dr gc) (HR : rfW cI cZ ad g w h hk hr sp wb th tr pic kep reb tri kno tol fil kt kfl rP rQ kP kQ bns kb unk lef sum spd spg) (HO : okW w h hk T KT nb kn nw rP rQ kP kQ) (HL : liW w h hk hr T KT bf kf f fk rb pic kep reb tol fil kt kfl rP rQ kP kQ bns kb) {kk : Int} {lf1 : Nat → Int64} (h73 : g2 73 = mE ad kk w h hk hr tr sp wb) (h94 : g2 94 = loE cL lf1) (fr : ∀ r, r < 94 → r ≠ 73 → g2 r = g r) : RELx cI cZ cL cS cW kk lf1 ad g2 := by
  obtain ⟨r73, r74, r75, r76, r77, r78, r79, r80, r81, r82, r83, r84, r85, r86, r87, r88, r89, r90, r91, r92, r93⟩ := HR
  exact ⟨w, h, hk, hr, sp, wb, tr, T, KT, nb, kn, nw, ct0, lo, bf, kf, un, uc, re, f, fk, rb, dr, gc, pic, kep, reb, tri, kno, tol, fil, kt, kfl, rP, rQ, kP, kQ, bns, kb, unk, lef, sum, spd, spg, clW_fr HC (fun r hr => fr r (by omega) (by omega)), ⟨h73, (fr 74 (by omega) (by omega)).trans r74, (fr 75 (by omega) (by omega)).trans r75, (fr 76 (by omega) (by omega)).trans r76, (fr 77 (by omega) (by omega)).trans r77, (fr 78 (by omega) (by omega)).trans r78, (fr 79 (by omega) (by omega)).trans r79, (fr 80 (by omega) (by omega)).trans r80, (fr 81 (by omega) (by omega)).trans r81, (fr 82 (by omega) (by omega)).trans r82, (fr 83 (by omega) (by omega)).trans r83, (fr 84 (by omega) (by omega)).trans r84, (fr 85 (by omega) (by omega)).trans r85, (fr 86 (by omega) (by omega)).trans r86, (fr 87 (by omega) (by omega)).trans r87, (fr 88 (by omega) (by omega)).trans r88, (fr 89 (by omega) (by omega)).trans r89, (fr 90 (by omega) (by omega)).trans r90, (fr 91 (by omega) (by omega)).trans r91, (fr 92 (by omega) (by omega)).trans r92, (fr 93 (by omega) (by omega)).trans r93⟩, HO, HL, h94⟩
theorem okW_fl {w : Nat} {h : Nat} {hk : Bool} {T : Nat → ShT} {KT : Nat → ShT} {nb : Nat → Nat} {kn : Nat → Nat} {nw : Nat → Nat} {rP : Nat → Int} {rQ : Nat → Int} {kP : Nat → Int} {kQ : Nat → Int} {F : Nat → Bool} (HO : okW w h hk T KT nb kn nw rP rQ kP kQ) (hF : ∀ j, j < 8 → F j = true → (T j).1 = true) : okW w h hk (fun j => ((T j).1, F j, (T j).2.2)) KT nb kn nw rP rQ kP kQ := by
  obtain ⟨hw, hh, bT, bK, nbO, knO, nwO, geo, filO, posO, kkO, PQ, KPQ⟩ := HO
  exact ⟨hw, hh, bT, bK, nbO, knO, nwO, geo, hF, posO, kkO, PQ, KPQ⟩
theorem shR_row {w h s0 : Nat} {T : Nat → ShT} {bf : Nat → Nat → Int32} {tol fil : Nat → Bool} {rP rQ : Nat → Int} {bns bn1 F : Nat → Int32} {b : Bool} (H : shR w h T bf tol fil rP rQ bns) (hct : ∀ j, j < 8 → (T j).1 = true → ctN (T j).2.2.1 (T j).2.2.2.1 w h ≤ 481) (hb : b = true → (T s0).1 = true ∧ ∀ k, k < ctN (T s0).2.2.1 (T s0).2.2.2.1 w h → bn1 (481 * s0 + k) = F k) (ho : ∀ j, j < 8 → j ≠ s0 → ∀ k, k < 481 → bn1 (481 * j + k) = bns (481 * j + k)) : shR w h (fun j => ((T j).1, uP (fun j => (T j).2.1) s0 b j, (T j).2.2)) (uP bf s0 F) tol (uP fil s0 b) rP rQ bn1 := fun j hj => by
  obtain ⟨t1, t2, t3, t4⟩ := H j hj
  show tol j = (T j).1 ∧ uP fil s0 b j = uP (fun j => (T j).2.1) s0 b j ∧ ((T j).1 = true → rP j = (T j).2.2.1 ∧ rQ j = (T j).2.2.2.1) ∧ (uP (fun j => (T j).2.1) s0 b j = true → (T j).1 = true ∧ ∀ k, k < ctN (T j).2.2.1 (T j).2.2.2.1 w h → bn1 (481 * j + k) = uP bf s0 F j k)
  by_cases e : j = s0
  · subst e
    rw [uP_s, uP_s, uP_s]
    exact ⟨t1, rfl, t3, hb⟩
  · rw [uP_n e, uP_n e, uP_n e]
    refine ⟨t1, t2, t3, fun q => ⟨(t4 q).1, fun k hk => ?_⟩⟩
    rw [ho j hj e k (Nat.lt_of_lt_of_le hk (hct j hj (t4 q).1))]
    exact (t4 q).2 k hk
theorem okW_ct {w : Nat} {h : Nat} {hk : Bool} {T : Nat → ShT} {KT : Nat → ShT} {nb : Nat → Nat} {kn : Nat → Nat} {nw : Nat → Nat} {rP : Nat → Int} {rQ : Nat → Int} {kP : Nat → Int} {kQ : Nat → Int} (HO : okW w h hk T KT nb kn nw rP rQ kP kQ) : ∀ j, j < 8 → (T j).1 = true → ctN (T j).2.2.1 (T j).2.2.2.1 w h ≤ 481 ∧ ((ctN (T j).2.2.1 (T j).2.2.2.1 w h : Nat) : Int) = (T j).2.2.2.2.2 := fun j hj q => by
  obtain ⟨hw, hh, bT, bK, nbO, knO, nwO, geo, filO, posO, kkO, PQ, KPQ⟩ := HO
  obtain ⟨q1, q2, q3, q4⟩ := geo j hj q
  obtain ⟨n1, n2, n3⟩ := ct_nat q1 hw.2 hh.2 hw.1 hh.1
  exact ⟨n1, n2.trans q3.symm⟩
theorem row_ch {cI cZ cL cS cW : ClassId} {ad : Nat → Nat} {g g2 : Nat → va_E} {w : Nat} {h : Nat} {hk : Bool} {hr : Bool} {sp : Int} {wb : Int} {tr : Int} {T : Nat → ShT} {KT : Nat → ShT} {nb : Nat → Nat} {kn : Nat → Nat} {nw : Nat → Nat} {ct0 : Nat → Nat} {lo : Nat → Nat} {bf : Nat → Nat → Int32} {kf : Nat → Nat → Int32} {un : Nat → Nat → Int32} {uc : Nat → Nat → Int32} {re : Nat → Nat → Int32} {f : Nat → Int32} {fk : Nat → Int32} {rb : Nat → Int32} {dr : Nat → Int32} {gc : Nat → Int32} {pic : Nat → Int32} {kep : Nat → Int32} {reb : Nat → Int32} {tri : Nat → Int32} {kno : Nat → Bool} {tol : Nat → Bool} {fil : Nat → Bool} {kt : Nat → Bool} {kfl : Nat → Bool} {rP : Nat → Int} {rQ : Nat → Int} {kP : Nat → Int} {kQ : Nat → Int} {bns : Nat → Int32} {kb : Nat → Int32} {unk : Nat → Int32} {lef : Nat → Int32} {sum : Nat → Int32} {spd : Nat → Int32} {spg : Nat → Int32} {th : Int} (HC : clW cI cS cW ad g w h hk hr sp wb T KT nb kn nw ct0 lo bf kf un uc re f fk rb dr gc) (HR : rfW cI cZ ad g w h hk hr sp wb th tr pic kep reb tri kno tol fil kt kfl rP rQ kP kQ bns kb unk lef sum spd spg) (HO : okW w h hk T KT nb kn nw rP rQ kP kQ) (HL : liW w h hk hr T KT bf kf f fk rb pic kep reb tol fil kt kfl rP rQ kP kQ bns kb) {kk : Int} {lf1 : Nat → Int64} {s0 : Nat} {b : Bool} {F bn1 sum1 : Nat → Int32} (hs : s0 < 8) (hb : b = true → (T s0).1 = true ∧ ∀ k, k < ctN (T s0).2.2.1 (T s0).2.2.2.1 w h → bn1 (481 * s0 + k) = F k) (ho : ∀ j, j < 8 → j ≠ s0 → ∀ k, k < 481 → bn1 (481 * j + k) = bns (481 * j + k)) (h73 : g2 73 = mE ad kk w h hk hr tr sp wb) (h94 : g2 94 = loE cL lf1) (h9 : g2 (9 + 8 * s0) = shE (ad (9 + 8 * s0 + 1)) ((T s0).1, b, (T s0).2.2)) (h10 : g2 (9 + 8 * s0 + 1) = inA cI (nb s0) F) (h82 : g2 82 = inA cZ 8 (bA (uP fil s0 b))) (h83 : g2 83 = inA cI 3848 bn1) (h91 : g2 91 = inA cI 481 sum1) (fr : ∀ r, r < 94 → r ≠ 9 + 8 * s0 → r ≠ 9 + 8 * s0 + 1 → r ≠ 73 → r ≠ 82 → r ≠ 83 → r ≠ 91 → g2 r = g r) : RELx cI cZ cL cS cW kk lf1 ad g2 := by
  have hct := fun j hj q => (okW_ct HO j hj q).1
  have HO2 := okW_fl (F := fun j => uP (fun j => (T j).2.1) s0 b j) HO (fun j hj q => by
    by_cases e : j = s0
    · subst e; rw [uP_s] at q; exact (hb q).1
    · rw [uP_n e] at q; exact HO.2.2.2.2.2.2.2.2.1 j hj q)
  obtain ⟨c0, c1, c2, c3, c4, c5, c6, c7, c8, c9, c10, c11, c12, c13, c14, c15, c16⟩ := HC; obtain ⟨r73, r74, r75, r76, r77, r78, r79, r80, r81, r82, r83, r84, r85, r86, r87, r88, r89, r90, r91, r92, r93⟩ := HR; obtain ⟨lp, lk, lr, lsh, lkk⟩ := HL
  refine ⟨w, h, hk, hr, sp, wb, tr, fun j => ((T j).1, uP (fun j => (T j).2.1) s0 b j, (T j).2.2), KT, nb, kn, nw, ct0, lo, uP bf s0 F, kf, un, uc, re, f, fk, rb, dr, gc, pic, kep, reb, tri, kno, tol, uP fil s0 b, kt, kfl, rP, rQ, kP, kQ, bn1, kb, unk, lef, sum1, spd, spg, ?_, ?_, HO2, ⟨lp, lk, lr, shR_row lsh hct hb ho, lkk⟩, h94⟩
  · refine ⟨(fr 0 (by omega) (by omega) (by omega) (by omega) (by omega) (by omega) (by omega)).trans c0, (fr 1 (by omega) (by omega) (by omega) (by omega) (by omega) (by omega) (by omega)).trans c1, (fr 2 (by omega) (by omega) (by omega) (by omega) (by omega) (by omega) (by omega)).trans c2, (fr 3 (by omega) (by omega) (by omega) (by omega) (by omega) (by omega) (by omega)).trans c3, (fr 4 (by omega) (by omega) (by omega) (by omega) (by omega) (by omega) (by omega)).trans c4, (fr 5 (by omega) (by omega) (by omega) (by omega) (by omega) (by omega) (by omega)).trans c5, (fr 6 (by omega) (by omega) (by omega) (by omega) (by omega) (by omega) (by omega)).trans c6, (fr 7 (by omega) (by omega) (by omega) (by omega) (by omega) (by omega) (by omega)).trans c7, (fr 8 (by omega) (by omega) (by omega) (by omega) (by omega) (by omega) (by omega)).trans c8, fun j hj => ?_, fun j hj => ?_, fun j hj => (fr (11 + 8 * j) (by omega) (by omega) (by omega) (by omega) (by omega) (by omega) (by omega)).trans (c11 j hj), fun j hj => (fr (11 + 8 * j + 1) (by omega) (by omega) (by omega) (by omega) (by omega) (by omega) (by omega)).trans (c12 j hj), fun j hj => (fr (13 + 8 * j) (by omega) (by omega) (by omega) (by omega) (by omega) (by omega) (by omega)).trans (c13 j hj), fun j hj => (fr (13 + 8 * j + 1) (by omega) (by omega) (by omega) (by omega) (by omega) (by omega) (by omega)).trans (c14 j hj), fun j hj => (fr (13 + 8 * j + 2) (by omega) (by omega) (by omega) (by omega) (by omega) (by omega) (by omega)).trans (c15 j hj), fun j hj => (fr (13 + 8 * j + 3) (by omega) (by omega) (by omega) (by omega) (by omega) (by omega) (by omega)).trans (c16 j hj)⟩
    · show g2 (9 + 8 * j) = shE (ad (9 + 8 * j + 1)) ((T j).1, uP (fun j => (T j).2.1) s0 b j, (T j).2.2)
      by_cases e : j = s0
      · subst e; rw [uP_s]; exact h9
      · rw [uP_n e]; exact (fr (9 + 8 * j) (by omega) (by omega) (by omega) (by omega) (by omega) (by omega) (by omega)).trans (c9 j hj)
    · by_cases e : j = s0
      · subst e; rw [uP_s]; exact h10
      · rw [uP_n e]; exact (fr (9 + 8 * j + 1) (by omega) (by omega) (by omega) (by omega) (by omega) (by omega) (by omega)).trans (c10 j hj)
  · exact ⟨h73, (fr 74 (by omega) (by omega) (by omega) (by omega) (by omega) (by omega) (by omega)).trans r74, (fr 75 (by omega) (by omega) (by omega) (by omega) (by omega) (by omega) (by omega)).trans r75, (fr 76 (by omega) (by omega) (by omega) (by omega) (by omega) (by omega) (by omega)).trans r76, (fr 77 (by omega) (by omega) (by omega) (by omega) (by omega) (by omega) (by omega)).trans r77, (fr 78 (by omega) (by omega) (by omega) (by omega) (by omega) (by omega) (by omega)).trans r78, (fr 79 (by omega) (by omega) (by omega) (by omega) (by omega) (by omega) (by omega)).trans r79, (fr 80 (by omega) (by omega) (by omega) (by omega) (by omega) (by omega) (by omega)).trans r80, (fr 81 (by omega) (by omega) (by omega) (by omega) (by omega) (by omega) (by omega)).trans r81, h82, h83, (fr 84 (by omega) (by omega) (by omega) (by omega) (by omega) (by omega) (by omega)).trans r84, (fr 85 (by omega) (by omega) (by omega) (by omega) (by omega) (by omega) (by omega)).trans r85, (fr 86 (by omega) (by omega) (by omega) (by omega) (by omega) (by omega) (by omega)).trans r86, (fr 87 (by omega) (by omega) (by omega) (by omega) (by omega) (by omega) (by omega)).trans r87, (fr 88 (by omega) (by omega) (by omega) (by omega) (by omega) (by omega) (by omega)).trans r88, (fr 89 (by omega) (by omega) (by omega) (by omega) (by omega) (by omega) (by omega)).trans r89, (fr 90 (by omega) (by omega) (by omega) (by omega) (by omega) (by omega) (by omega)).trans r90, h91, (fr 92 (by omega) (by omega) (by omega) (by omega) (by omega) (by omega) (by omega)).trans r92, (fr 93 (by omega) (by omega) (by omega) (by omega) (by omega) (by omega) (by omega)).trans r93⟩
theorem mid_size {cI : ClassId} {ad ad1 : Nat → Nat} {g g1 : Nat → va_E} {sp : Int} {wb : Int} {T : Nat → ShT} {x : Int} {y : Int} {v : Int32} (hp : (v = iI 0 ∧ (1 ≤ x ∧ x ≤ 16 ∧ 1 ≤ y ∧ y ≤ 16 ∧ ad = ad1 ∧ g1 0 = xE ad x y false false sp wb ∧ g1 1 = inA cI 256 (fun _ => iI 0) ∧ (∀ j, j < 8 → g1 (9 + 8 * j) = shE (ad (9 + 8 * j + 1)) (false, false, (T j).2.2)) ∧ ∀ r1, r1 ≠ 0 → r1 ≠ 1 → (∀ j9, j9 < 8 → r1 ≠ 9 + 8 * j9) → g1 r1 = g r1)) ∨ (v = iI 1 ∧ (fun E => E = "java/lang/IllegalArgumentException" ∧ ¬ (1 ≤ x ∧ x ≤ 16 ∧ 1 ≤ y ∧ y ≤ 16)) "java/lang/IllegalArgumentException" ∧ ad = ad1 ∧ g = g1)) : (∀ r, 73 ≤ r → r < 94 → g1 r = g r) ∧ (∀ r, 73 ≤ r → ad1 r = ad r) := by
  rcases hp with ⟨-, -, -, -, -, e, -, -, -, pf⟩ | ⟨-, -, e, eg⟩
  · subst e; exact ⟨fun r h1 h2 => pf r (by omega) (by omega) (fun j9 hj9 => by omega), fun _ _ => rfl⟩
  · subst e; subst eg; exact ⟨fun _ _ _ => rfl, fun _ _ => rfl⟩
theorem pu_size {cI cZ cL cS cW : ClassId} {ad ad1 ad2 : Nat → Nat} {g g1 g2 : Nat → va_E} {w : Nat} {h : Nat} {hk : Bool} {hr : Bool} {sp : Int} {wb : Int} {tr : Int} {T : Nat → ShT} {KT : Nat → ShT} {nb : Nat → Nat} {kn : Nat → Nat} {nw : Nat → Nat} {ct0 : Nat → Nat} {lo : Nat → Nat} {bf : Nat → Nat → Int32} {kf : Nat → Nat → Int32} {un : Nat → Nat → Int32} {uc : Nat → Nat → Int32} {re : Nat → Nat → Int32} {f : Nat → Int32} {fk : Nat → Int32} {rb : Nat → Int32} {dr : Nat → Int32} {gc : Nat → Int32} {pic : Nat → Int32} {kep : Nat → Int32} {reb : Nat → Int32} {tri : Nat → Int32} {kno : Nat → Bool} {tol : Nat → Bool} {fil : Nat → Bool} {kt : Nat → Bool} {kfl : Nat → Bool} {rP : Nat → Int} {rQ : Nat → Int} {kP : Nat → Int} {kQ : Nat → Int} {bns : Nat → Int32} {kb : Nat → Int32} {unk : Nat → Int32} {lef : Nat → Int32} {sum : Nat → Int32} {spd : Nat → Int32} {spg : Nat → Int32} {lf : Nat → Int64} {th : Int} (HC : clW cI cS cW ad g w h hk hr sp wb T KT nb kn nw ct0 lo bf kf un uc re f fk rb dr gc) (HR : rfW cI cZ ad g w h hk hr sp wb th tr pic kep reb tri kno tol fil kt kfl rP rQ kP kQ bns kb unk lef sum spd spg) (HO : okW w h hk T KT nb kn nw rP rQ kP kQ) (HL : liW w h hk hr T KT bf kf f fk rb pic kep reb tol fil kt kfl rP rQ kP kQ bns kb) (h94 : g 94 = loE cL lf) {x : Int} {y : Int} {v : Int32} (hp : (v = iI 0 ∧ (1 ≤ x ∧ x ≤ 16 ∧ 1 ≤ y ∧ y ≤ 16 ∧ ad = ad1 ∧ g1 0 = xE ad x y false false sp wb ∧ g1 1 = inA cI 256 (fun _ => iI 0) ∧ (∀ j, j < 8 → g1 (9 + 8 * j) = shE (ad (9 + 8 * j + 1)) (false, false, (T j).2.2)) ∧ ∀ r1, r1 ≠ 0 → r1 ≠ 1 → (∀ j9, j9 < 8 → r1 ≠ 9 + 8 * j9) → g1 r1 = g r1)) ∨ (v = iI 1 ∧ (fun E => E = "java/lang/IllegalArgumentException" ∧ ¬ (1 ≤ x ∧ x ≤ 16 ∧ 1 ≤ y ∧ y ≤ 16)) "java/lang/IllegalArgumentException" ∧ ad = ad1 ∧ g = g1)) (hq : (¬ (1 ≤ x ∧ x ≤ 16 ∧ 1 ≤ y ∧ y ≤ 16) ∧ g2 73 = mE ad1 1 w h hk hr tr sp wb ∧ ad1 = ad2 ∧ ∀ r1, r1 ≠ 73 → g2 r1 = g1 r1) ∨ ((1 ≤ x ∧ x ≤ 16 ∧ 1 ≤ y ∧ y ≤ 16) ∧ g2 73 = mE ad1 0 x y false false tr sp wb ∧ ad1 = ad2 ∧ ∃ f1 t1 l1, g2 74 = inA cI 256 f1 ∧ g2 79 = inA cZ 8 (bA t1) ∧ g2 82 = inA cZ 8 (bA l1) ∧ (∀ k, k < 256 → f1 k = 0) ∧ (∀ k, k < 8 → t1 k = false) ∧ (∀ k, k < 8 → l1 k = false) ∧ ∀ r1, r1 ≠ 73 → r1 ≠ 74 → r1 ≠ 79 → r1 ≠ 82 → g2 r1 = g1 r1)) : ∃ (kk : Int) (lf1 : Nat → Int64), (0 ≤ kk ∧ kk ≤ 3) ∧ v = iI kk ∧ RELx cI cZ cL cS cW kk lf1 ad2 g2 := by
  rcases hp with ⟨rfl, a1, a2, a3, a4, e1, p0, p1, p9, pf⟩ | ⟨rfl, ⟨-, X⟩, e1, eg⟩
  · subst e1
    rcases hq with ⟨n, -⟩ | ⟨-, q73, e2, f1, t1, l1, q74, q79, q82, z1, z2, z3, qf⟩
    · exact absurd ⟨a1, a2, a3, a4⟩ n
    · subst e2
      have ex : ((x.toNat : Nat) : Int) = x := by omega
      have ey : ((y.toNat : Nat) : Int) = y := by omega
      obtain ⟨c0, c1, c2, c3, c4, c5, c6, c7, c8, c9, c10, c11, c12, c13, c14, c15, c16⟩ := HC; obtain ⟨r73, r74, r75, r76, r77, r78, r79, r80, r81, r82, r83, r84, r85, r86, r87, r88, r89, r90, r91, r92, r93⟩ := HR; obtain ⟨hw, hh, bT, bK, nbO, knO, nwO, geo, filO, posO, kkO, PQ, KPQ⟩ := HO; obtain ⟨lp, lk, lr, lsh, lkk⟩ := HL
      refine ⟨0, lf, ⟨by omega, by omega⟩, rfl, ⟨x.toNat, y.toNat, false, false, sp, wb, tr, fun j => (false, false, (T j).2.2), KT, nb, kn, nw, ct0, lo, bf, kf, un, uc, re, fun _ => iI 0, fk, rb, dr, gc, f1, kep, reb, tri, kno, t1, l1, kt, kfl, rP, rQ, kP, kQ, bns, kb, unk, lef, sum, spd, spg, ?_, ?_, ?_, ?_, ((qf 94 (by omega) (by omega) (by omega) (by omega)).trans (pf 94 (by omega) (by omega) (fun j9 hj9 => by omega))).trans h94⟩⟩
      · exact ⟨by rw [ex, ey]; exact (qf 0 (by omega) (by omega) (by omega) (by omega)).trans p0, (qf 1 (by omega) (by omega) (by omega) (by omega)).trans p1, ((qf 2 (by omega) (by omega) (by omega) (by omega)).trans (pf 2 (by omega) (by omega) (fun j9 hj9 => by omega))).trans c2, ((qf 3 (by omega) (by omega) (by omega) (by omega)).trans (pf 3 (by omega) (by omega) (fun j9 hj9 => by omega))).trans c3, ((qf 4 (by omega) (by omega) (by omega) (by omega)).trans (pf 4 (by omega) (by omega) (fun j9 hj9 => by omega))).trans c4, ((qf 5 (by omega) (by omega) (by omega) (by omega)).trans (pf 5 (by omega) (by omega) (fun j9 hj9 => by omega))).trans c5, ((qf 6 (by omega) (by omega) (by omega) (by omega)).trans (pf 6 (by omega) (by omega) (fun j9 hj9 => by omega))).trans c6, ((qf 7 (by omega) (by omega) (by omega) (by omega)).trans (pf 7 (by omega) (by omega) (fun j9 hj9 => by omega))).trans c7, ((qf 8 (by omega) (by omega) (by omega) (by omega)).trans (pf 8 (by omega) (by omega) (fun j9 hj9 => by omega))).trans c8, fun j hj => (qf (9 + 8 * j) (by omega) (by omega) (by omega) (by omega)).trans (p9 j hj), fun j hj => ((qf (9 + 8 * j + 1) (by omega) (by omega) (by omega) (by omega)).trans (pf (9 + 8 * j + 1) (by omega) (by omega) (fun j9 hj9 => by omega))).trans (c10 j hj), fun j hj => ((qf (11 + 8 * j) (by omega) (by omega) (by omega) (by omega)).trans (pf (11 + 8 * j) (by omega) (by omega) (fun j9 hj9 => by omega))).trans (c11 j hj), fun j hj => ((qf (11 + 8 * j + 1) (by omega) (by omega) (by omega) (by omega)).trans (pf (11 + 8 * j + 1) (by omega) (by omega) (fun j9 hj9 => by omega))).trans (c12 j hj), fun j hj => ((qf (13 + 8 * j) (by omega) (by omega) (by omega) (by omega)).trans (pf (13 + 8 * j) (by omega) (by omega) (fun j9 hj9 => by omega))).trans (c13 j hj), fun j hj => ((qf (13 + 8 * j + 1) (by omega) (by omega) (by omega) (by omega)).trans (pf (13 + 8 * j + 1) (by omega) (by omega) (fun j9 hj9 => by omega))).trans (c14 j hj), fun j hj => ((qf (13 + 8 * j + 2) (by omega) (by omega) (by omega) (by omega)).trans (pf (13 + 8 * j + 2) (by omega) (by omega) (fun j9 hj9 => by omega))).trans (c15 j hj), fun j hj => ((qf (13 + 8 * j + 3) (by omega) (by omega) (by omega) (by omega)).trans (pf (13 + 8 * j + 3) (by omega) (by omega) (fun j9 hj9 => by omega))).trans (c16 j hj)⟩
      · exact ⟨by rw [ex, ey]; exact q73, q74, ((qf 75 (by omega) (by omega) (by omega) (by omega)).trans (pf 75 (by omega) (by omega) (fun j9 hj9 => by omega))).trans r75, ((qf 76 (by omega) (by omega) (by omega) (by omega)).trans (pf 76 (by omega) (by omega) (fun j9 hj9 => by omega))).trans r76, ((qf 77 (by omega) (by omega) (by omega) (by omega)).trans (pf 77 (by omega) (by omega) (fun j9 hj9 => by omega))).trans r77, ((qf 78 (by omega) (by omega) (by omega) (by omega)).trans (pf 78 (by omega) (by omega) (fun j9 hj9 => by omega))).trans r78, q79, ((qf 80 (by omega) (by omega) (by omega) (by omega)).trans (pf 80 (by omega) (by omega) (fun j9 hj9 => by omega))).trans r80, ((qf 81 (by omega) (by omega) (by omega) (by omega)).trans (pf 81 (by omega) (by omega) (fun j9 hj9 => by omega))).trans r81, q82, ((qf 83 (by omega) (by omega) (by omega) (by omega)).trans (pf 83 (by omega) (by omega) (fun j9 hj9 => by omega))).trans r83, ((qf 84 (by omega) (by omega) (by omega) (by omega)).trans (pf 84 (by omega) (by omega) (fun j9 hj9 => by omega))).trans r84, ((qf 85 (by omega) (by omega) (by omega) (by omega)).trans (pf 85 (by omega) (by omega) (fun j9 hj9 => by omega))).trans r85, ((qf 86 (by omega) (by omega) (by omega) (by omega)).trans (pf 86 (by omega) (by omega) (fun j9 hj9 => by omega))).trans r86, ((qf 87 (by omega) (by omega) (by omega) (by omega)).trans (pf 87 (by omega) (by omega) (fun j9 hj9 => by omega))).trans r87, ((qf 88 (by omega) (by omega) (by omega) (by omega)).trans (pf 88 (by omega) (by omega) (fun j9 hj9 => by omega))).trans r88, ((qf 89 (by omega) (by omega) (by omega) (by omega)).trans (pf 89 (by omega) (by omega) (fun j9 hj9 => by omega))).trans r89, ((qf 90 (by omega) (by omega) (by omega) (by omega)).trans (pf 90 (by omega) (by omega) (fun j9 hj9 => by omega))).trans r90, ((qf 91 (by omega) (by omega) (by omega) (by omega)).trans (pf 91 (by omega) (by omega) (fun j9 hj9 => by omega))).trans r91, ((qf 92 (by omega) (by omega) (by omega) (by omega)).trans (pf 92 (by omega) (by omega) (fun j9 hj9 => by omega))).trans r92, ((qf 93 (by omega) (by omega) (by omega) (by omega)).trans (pf 93 (by omega) (by omega) (fun j9 hj9 => by omega))).trans r93⟩
      · exact ⟨⟨by omega, by omega⟩, ⟨by omega, by omega⟩, bT, bK, nbO, knO, nwO, fun j hj q => (Bool.false_ne_true q).elim, fun j hj q => (Bool.false_ne_true q).elim, fun j hj q => (Bool.false_ne_true q).elim, (fun q => (Bool.false_ne_true q).elim), PQ, KPQ⟩
      · exact ⟨fun X Y hx hy => (z1 _ (by omega)).trans iI_0.symm, (fun q => (Bool.false_ne_true q).elim), (fun q => (Bool.false_ne_true q).elim), fun j hj => ⟨z2 j hj, z3 j hj, (fun q => (Bool.false_ne_true q).elim), (fun q => (Bool.false_ne_true q).elim)⟩, (fun q => (Bool.false_ne_true q).elim)⟩
  · subst e1; subst eg
    rcases hq with ⟨-, q73, e2, sf⟩ | ⟨n, -⟩
    · subst e2
      exact ⟨1, lf, ⟨by omega, by omega⟩, rfl, same_st HC HR HO HL q73 ((sf 94 (by omega)).trans h94) (fun r h1 h2 => sf r h2)⟩
    · exact absurd n X
theorem mid_pixel {cI cL : ClassId} {ad ad1 : Nat → Nat} {g g1 : Nat → va_E} {w : Nat} {h : Nat} {f : Nat → Int32} {lf : Nat → Int64} {x : Int} {y : Int} {pv : Int32} {v : Int32} (hp : (v = iI 0 ∧ ∃ (r : Int32) (g0 : Nat → va_E), ((0 ≤ x ∧ x < w ∧ 0 ≤ y ∧ y < h) ∧ ∃ c0 : Nat, (c0 : Int) = y * 16 + x ∧ r = f c0 ∧ ad = ad1 ∧ g0 1 = inA cI 256 (upd f c0 pv) ∧ ∀ r1, r1 ≠ 1 → g0 r1 = g r1) ∧ g1 94 = loE cL (vp_updL lf 0 r.toInt64) ∧ ∀ r1, r1 ≠ 94 → g1 r1 = g0 r1) ∨ (v = iI 1 ∧ (fun E => E = "java/lang/IndexOutOfBoundsException" ∧ ¬ (0 ≤ x ∧ x < w ∧ 0 ≤ y ∧ y < h)) "java/lang/IndexOutOfBoundsException" ∧ ad = ad1 ∧ g = g1)) : (∀ r, 73 ≤ r → r < 94 → g1 r = g r) ∧ (∀ r, 73 ≤ r → ad1 r = ad r) := by
  rcases hp with ⟨-, r, g0, ⟨-, c0, -, -, e, -, pf⟩, -, qf⟩ | ⟨-, -, e, eg⟩
  · subst e; exact ⟨fun r h1 h2 => (qf r (by omega)).trans (pf r (by omega)), fun _ _ => rfl⟩
  · subst e; subst eg; exact ⟨fun _ _ _ => rfl, fun _ _ => rfl⟩
theorem pu_pixel {cI cZ cL cS cW : ClassId} {ad ad1 ad2 : Nat → Nat} {g g1 g2 : Nat → va_E} {w : Nat} {h : Nat} {hk : Bool} {hr : Bool} {sp : Int} {wb : Int} {tr : Int} {T : Nat → ShT} {KT : Nat → ShT} {nb : Nat → Nat} {kn : Nat → Nat} {nw : Nat → Nat} {ct0 : Nat → Nat} {lo : Nat → Nat} {bf : Nat → Nat → Int32} {kf : Nat → Nat → Int32} {un : Nat → Nat → Int32} {uc : Nat → Nat → Int32} {re : Nat → Nat → Int32} {f : Nat → Int32} {fk : Nat → Int32} {rb : Nat → Int32} {dr : Nat → Int32} {gc : Nat → Int32} {pic : Nat → Int32} {kep : Nat → Int32} {reb : Nat → Int32} {tri : Nat → Int32} {kno : Nat → Bool} {tol : Nat → Bool} {fil : Nat → Bool} {kt : Nat → Bool} {kfl : Nat → Bool} {rP : Nat → Int} {rQ : Nat → Int} {kP : Nat → Int} {kQ : Nat → Int} {bns : Nat → Int32} {kb : Nat → Int32} {unk : Nat → Int32} {lef : Nat → Int32} {sum : Nat → Int32} {spd : Nat → Int32} {spg : Nat → Int32} {lf : Nat → Int64} {th : Int} (HC : clW cI cS cW ad g w h hk hr sp wb T KT nb kn nw ct0 lo bf kf un uc re f fk rb dr gc) (HR : rfW cI cZ ad g w h hk hr sp wb th tr pic kep reb tri kno tol fil kt kfl rP rQ kP kQ bns kb unk lef sum spd spg) (HO : okW w h hk T KT nb kn nw rP rQ kP kQ) (HL : liW w h hk hr T KT bf kf f fk rb pic kep reb tol fil kt kfl rP rQ kP kQ bns kb) (h94 : g 94 = loE cL lf) {x : Int} {y : Int} {pv : Int32} {v : Int32} {b : Int32} (hp : (v = iI 0 ∧ ∃ (r : Int32) (g0 : Nat → va_E), ((0 ≤ x ∧ x < w ∧ 0 ≤ y ∧ y < h) ∧ ∃ c0 : Nat, (c0 : Int) = y * 16 + x ∧ r = f c0 ∧ ad = ad1 ∧ g0 1 = inA cI 256 (upd f c0 pv) ∧ ∀ r1, r1 ≠ 1 → g0 r1 = g r1) ∧ g1 94 = loE cL (vp_updL lf 0 r.toInt64) ∧ ∀ r1, r1 ≠ 94 → g1 r1 = g0 r1) ∨ (v = iI 1 ∧ (fun E => E = "java/lang/IndexOutOfBoundsException" ∧ ¬ (0 ≤ x ∧ x < w ∧ 0 ≤ y ∧ y < h)) "java/lang/IndexOutOfBoundsException" ∧ ad = ad1 ∧ g = g1)) (hq : (¬ (0 ≤ x ∧ x < (w : Int) ∧ 0 ≤ y ∧ y < (h : Int)) ∧ g2 73 = mE ad1 1 w h hk hr tr sp wb ∧ ad1 = ad2 ∧ ∀ r1, r1 ≠ 73 → g2 r1 = g1 r1) ∨ ((0 ≤ x ∧ x < (w : Int) ∧ 0 ≤ y ∧ y < (h : Int)) ∧ g2 73 = mE ad1 0 w h hk hr tr sp wb ∧ ad1 = ad2 ∧ b = pic (16 * y.toNat + x.toNat) ∧ g2 74 = inA cI 256 (upd pic (16 * y.toNat + x.toNat) pv) ∧ ∀ r1, r1 ≠ 73 → r1 ≠ 74 → g2 r1 = g1 r1)) : ∃ (kk : Int) (lf1 : Nat → Int64), (0 ≤ kk ∧ kk ≤ 3) ∧ v = iI kk ∧ RELx cI cZ cL cS cW kk lf1 ad2 g2 ∧ (kk = 0 → lf1 0 = b.toInt64) := by
  rcases hp with ⟨rfl, r, g0, ⟨hin, c0, hc, rfl, e1, p1, pf⟩, q94, qf⟩ | ⟨rfl, ⟨-, X⟩, e1, eg⟩
  · subst e1
    rcases hq with ⟨n, -⟩ | ⟨-, q73, e2, rfl, q74, sf⟩
    · exact absurd hin n
    · subst e2
      have ec : c0 = 16 * y.toNat + x.toNat := by omega
      subst ec
      obtain ⟨c0, c1, c2, c3, c4, c5, c6, c7, c8, c9, c10, c11, c12, c13, c14, c15, c16⟩ := HC; obtain ⟨r73, r74, r75, r76, r77, r78, r79, r80, r81, r82, r83, r84, r85, r86, r87, r88, r89, r90, r91, r92, r93⟩ := HR; obtain ⟨hw, hh, bT, bK, nbO, knO, nwO, geo, filO, posO, kkO, PQ, KPQ⟩ := HO; obtain ⟨lp, lk, lr, lsh, lkk⟩ := HL
      refine ⟨0, _, ⟨by omega, by omega⟩, rfl, ⟨w, h, hk, hr, sp, wb, tr, T, KT, nb, kn, nw, ct0, lo, bf, kf, un, uc, re, upd f (16 * y.toNat + x.toNat) pv, fk, rb, dr, gc, upd pic (16 * y.toNat + x.toNat) pv, kep, reb, tri, kno, tol, fil, kt, kfl, rP, rQ, kP, kQ, bns, kb, unk, lef, sum, spd, spg, ?_, ?_, ⟨hw, hh, bT, bK, nbO, knO, nwO, geo, filO, posO, kkO, PQ, KPQ⟩, ⟨fun X Y hx hy => upd_eq (lp X Y hx hy), lk, lr, lsh, lkk⟩, (sf 94 (by omega) (by omega)).trans q94⟩, fun _ => updL_0.trans (by rw [lp x.toNat y.toNat (by omega) (by omega)])⟩
      · exact ⟨(((sf 0 (by omega) (by omega)).trans (qf 0 (by omega))).trans (pf 0 (by omega))).trans c0, ((sf 1 (by omega) (by omega)).trans (qf 1 (by omega))).trans p1, (((sf 2 (by omega) (by omega)).trans (qf 2 (by omega))).trans (pf 2 (by omega))).trans c2, (((sf 3 (by omega) (by omega)).trans (qf 3 (by omega))).trans (pf 3 (by omega))).trans c3, (((sf 4 (by omega) (by omega)).trans (qf 4 (by omega))).trans (pf 4 (by omega))).trans c4, (((sf 5 (by omega) (by omega)).trans (qf 5 (by omega))).trans (pf 5 (by omega))).trans c5, (((sf 6 (by omega) (by omega)).trans (qf 6 (by omega))).trans (pf 6 (by omega))).trans c6, (((sf 7 (by omega) (by omega)).trans (qf 7 (by omega))).trans (pf 7 (by omega))).trans c7, (((sf 8 (by omega) (by omega)).trans (qf 8 (by omega))).trans (pf 8 (by omega))).trans c8, fun j hj => (((sf (9 + 8 * j) (by omega) (by omega)).trans (qf (9 + 8 * j) (by omega))).trans (pf (9 + 8 * j) (by omega))).trans (c9 j hj), fun j hj => (((sf (9 + 8 * j + 1) (by omega) (by omega)).trans (qf (9 + 8 * j + 1) (by omega))).trans (pf (9 + 8 * j + 1) (by omega))).trans (c10 j hj), fun j hj => (((sf (11 + 8 * j) (by omega) (by omega)).trans (qf (11 + 8 * j) (by omega))).trans (pf (11 + 8 * j) (by omega))).trans (c11 j hj), fun j hj => (((sf (11 + 8 * j + 1) (by omega) (by omega)).trans (qf (11 + 8 * j + 1) (by omega))).trans (pf (11 + 8 * j + 1) (by omega))).trans (c12 j hj), fun j hj => (((sf (13 + 8 * j) (by omega) (by omega)).trans (qf (13 + 8 * j) (by omega))).trans (pf (13 + 8 * j) (by omega))).trans (c13 j hj), fun j hj => (((sf (13 + 8 * j + 1) (by omega) (by omega)).trans (qf (13 + 8 * j + 1) (by omega))).trans (pf (13 + 8 * j + 1) (by omega))).trans (c14 j hj), fun j hj => (((sf (13 + 8 * j + 2) (by omega) (by omega)).trans (qf (13 + 8 * j + 2) (by omega))).trans (pf (13 + 8 * j + 2) (by omega))).trans (c15 j hj), fun j hj => (((sf (13 + 8 * j + 3) (by omega) (by omega)).trans (qf (13 + 8 * j + 3) (by omega))).trans (pf (13 + 8 * j + 3) (by omega))).trans (c16 j hj)⟩
      · exact ⟨q73, q74, (((sf 75 (by omega) (by omega)).trans (qf 75 (by omega))).trans (pf 75 (by omega))).trans r75, (((sf 76 (by omega) (by omega)).trans (qf 76 (by omega))).trans (pf 76 (by omega))).trans r76, (((sf 77 (by omega) (by omega)).trans (qf 77 (by omega))).trans (pf 77 (by omega))).trans r77, (((sf 78 (by omega) (by omega)).trans (qf 78 (by omega))).trans (pf 78 (by omega))).trans r78, (((sf 79 (by omega) (by omega)).trans (qf 79 (by omega))).trans (pf 79 (by omega))).trans r79, (((sf 80 (by omega) (by omega)).trans (qf 80 (by omega))).trans (pf 80 (by omega))).trans r80, (((sf 81 (by omega) (by omega)).trans (qf 81 (by omega))).trans (pf 81 (by omega))).trans r81, (((sf 82 (by omega) (by omega)).trans (qf 82 (by omega))).trans (pf 82 (by omega))).trans r82, (((sf 83 (by omega) (by omega)).trans (qf 83 (by omega))).trans (pf 83 (by omega))).trans r83, (((sf 84 (by omega) (by omega)).trans (qf 84 (by omega))).trans (pf 84 (by omega))).trans r84, (((sf 85 (by omega) (by omega)).trans (qf 85 (by omega))).trans (pf 85 (by omega))).trans r85, (((sf 86 (by omega) (by omega)).trans (qf 86 (by omega))).trans (pf 86 (by omega))).trans r86, (((sf 87 (by omega) (by omega)).trans (qf 87 (by omega))).trans (pf 87 (by omega))).trans r87, (((sf 88 (by omega) (by omega)).trans (qf 88 (by omega))).trans (pf 88 (by omega))).trans r88, (((sf 89 (by omega) (by omega)).trans (qf 89 (by omega))).trans (pf 89 (by omega))).trans r89, (((sf 90 (by omega) (by omega)).trans (qf 90 (by omega))).trans (pf 90 (by omega))).trans r90, (((sf 91 (by omega) (by omega)).trans (qf 91 (by omega))).trans (pf 91 (by omega))).trans r91, (((sf 92 (by omega) (by omega)).trans (qf 92 (by omega))).trans (pf 92 (by omega))).trans r92, (((sf 93 (by omega) (by omega)).trans (qf 93 (by omega))).trans (pf 93 (by omega))).trans r93⟩
  · subst e1; subst eg
    rcases hq with ⟨-, q73, e2, sf⟩ | ⟨n, -⟩
    · subst e2
      exact ⟨1, lf, ⟨by omega, by omega⟩, rfl, same_st HC HR HO HL q73 ((sf 94 (by omega)).trans h94) (fun r h1 h2 => sf r h2), fun q => absurd q (by omega)⟩
    · exact absurd n X
theorem mid_look {cL : ClassId} {ad ad1 : Nat → Nat} {g g1 : Nat → va_E} {w : Nat} {h : Nat} {hk : Bool} {hr : Bool} {f : Nat → Int32} {fk : Nat → Int32} {rb : Nat → Int32} {lf : Nat → Int64} {z : Int} {x : Int} {y : Int} {v : Int32} (hp : (v = iI 0 ∧ ∃ (r : Int32) (g0 : Nat → va_E), (((0 ≤ x ∧ x < w ∧ 0 ≤ y ∧ y < h) ∧ ∃ c0 : Nat, (c0 : Int) = y * 16 + x ∧ ((z = 0 ∧ r = f c0) ∨ (z = 1 ∧ hk = true ∧ r = fk c0) ∨ (z = 2 ∧ hr = true ∧ r = rb c0))) ∧ ad = ad1 ∧ g = g0) ∧ g1 94 = loE cL (vp_updL lf 0 r.toInt64) ∧ ∀ r1, r1 ≠ 94 → g1 r1 = g0 r1) ∨ (v = iI 1 ∧ (fun E => (E = "java/lang/IndexOutOfBoundsException" ∧ ¬ ((0 ≤ x ∧ x < w ∧ 0 ≤ y ∧ y < h) ∧ 0 ≤ z ∧ z ≤ 2)) ∨ (E = "java/lang/IllegalStateException" ∧ (0 ≤ x ∧ x < w ∧ 0 ≤ y ∧ y < h) ∧ ((z = 1 ∧ hk = false) ∨ (z = 2 ∧ hr = false)))) "java/lang/IndexOutOfBoundsException" ∧ ad = ad1 ∧ g = g1) ∨ (v = iI 2 ∧ (fun E => (E = "java/lang/IndexOutOfBoundsException" ∧ ¬ ((0 ≤ x ∧ x < w ∧ 0 ≤ y ∧ y < h) ∧ 0 ≤ z ∧ z ≤ 2)) ∨ (E = "java/lang/IllegalStateException" ∧ (0 ≤ x ∧ x < w ∧ 0 ≤ y ∧ y < h) ∧ ((z = 1 ∧ hk = false) ∨ (z = 2 ∧ hr = false)))) "java/lang/IllegalStateException" ∧ ad = ad1 ∧ g = g1)) : (∀ r, 73 ≤ r → r < 94 → g1 r = g r) ∧ (∀ r, 73 ≤ r → ad1 r = ad r) := by
  rcases hp with ⟨-, r, g0, ⟨-, e, eg⟩, -, qf⟩ | ⟨-, -, e, eg⟩ | ⟨-, -, e, eg⟩
  · subst e; subst eg; exact ⟨fun r h1 h2 => qf r (by omega), fun _ _ => rfl⟩
  all_goals subst e; subst eg; exact ⟨fun _ _ _ => rfl, fun _ _ => rfl⟩
theorem pu_look {cI cZ cL cS cW : ClassId} {ad ad1 ad2 : Nat → Nat} {g g1 g2 : Nat → va_E} {w : Nat} {h : Nat} {hk : Bool} {hr : Bool} {sp : Int} {wb : Int} {tr : Int} {T : Nat → ShT} {KT : Nat → ShT} {nb : Nat → Nat} {kn : Nat → Nat} {nw : Nat → Nat} {ct0 : Nat → Nat} {lo : Nat → Nat} {bf : Nat → Nat → Int32} {kf : Nat → Nat → Int32} {un : Nat → Nat → Int32} {uc : Nat → Nat → Int32} {re : Nat → Nat → Int32} {f : Nat → Int32} {fk : Nat → Int32} {rb : Nat → Int32} {dr : Nat → Int32} {gc : Nat → Int32} {pic : Nat → Int32} {kep : Nat → Int32} {reb : Nat → Int32} {tri : Nat → Int32} {kno : Nat → Bool} {tol : Nat → Bool} {fil : Nat → Bool} {kt : Nat → Bool} {kfl : Nat → Bool} {rP : Nat → Int} {rQ : Nat → Int} {kP : Nat → Int} {kQ : Nat → Int} {bns : Nat → Int32} {kb : Nat → Int32} {unk : Nat → Int32} {lef : Nat → Int32} {sum : Nat → Int32} {spd : Nat → Int32} {spg : Nat → Int32} {lf : Nat → Int64} {th : Int} (HC : clW cI cS cW ad g w h hk hr sp wb T KT nb kn nw ct0 lo bf kf un uc re f fk rb dr gc) (HR : rfW cI cZ ad g w h hk hr sp wb th tr pic kep reb tri kno tol fil kt kfl rP rQ kP kQ bns kb unk lef sum spd spg) (HO : okW w h hk T KT nb kn nw rP rQ kP kQ) (HL : liW w h hk hr T KT bf kf f fk rb pic kep reb tol fil kt kfl rP rQ kP kQ bns kb) (h94 : g 94 = loE cL lf) {z : Int} {x : Int} {y : Int} {v : Int32} {b : Int32} (hp : (v = iI 0 ∧ ∃ (r : Int32) (g0 : Nat → va_E), (((0 ≤ x ∧ x < w ∧ 0 ≤ y ∧ y < h) ∧ ∃ c0 : Nat, (c0 : Int) = y * 16 + x ∧ ((z = 0 ∧ r = f c0) ∨ (z = 1 ∧ hk = true ∧ r = fk c0) ∨ (z = 2 ∧ hr = true ∧ r = rb c0))) ∧ ad = ad1 ∧ g = g0) ∧ g1 94 = loE cL (vp_updL lf 0 r.toInt64) ∧ ∀ r1, r1 ≠ 94 → g1 r1 = g0 r1) ∨ (v = iI 1 ∧ (fun E => (E = "java/lang/IndexOutOfBoundsException" ∧ ¬ ((0 ≤ x ∧ x < w ∧ 0 ≤ y ∧ y < h) ∧ 0 ≤ z ∧ z ≤ 2)) ∨ (E = "java/lang/IllegalStateException" ∧ (0 ≤ x ∧ x < w ∧ 0 ≤ y ∧ y < h) ∧ ((z = 1 ∧ hk = false) ∨ (z = 2 ∧ hr = false)))) "java/lang/IndexOutOfBoundsException" ∧ ad = ad1 ∧ g = g1) ∨ (v = iI 2 ∧ (fun E => (E = "java/lang/IndexOutOfBoundsException" ∧ ¬ ((0 ≤ x ∧ x < w ∧ 0 ≤ y ∧ y < h) ∧ 0 ≤ z ∧ z ≤ 2)) ∨ (E = "java/lang/IllegalStateException" ∧ (0 ≤ x ∧ x < w ∧ 0 ≤ y ∧ y < h) ∧ ((z = 1 ∧ hk = false) ∨ (z = 2 ∧ hr = false)))) "java/lang/IllegalStateException" ∧ ad = ad1 ∧ g = g1)) (hq : (¬ (0 ≤ z ∧ z ≤ 2 ∧ (0 ≤ x ∧ x < (w : Int) ∧ 0 ≤ y ∧ y < (h : Int))) ∧ g2 73 = mE ad1 1 w h hk hr tr sp wb ∧ ad1 = ad2 ∧ ∀ r1, r1 ≠ 73 → g2 r1 = g1 r1) ∨ ((0 ≤ z ∧ z ≤ 2 ∧ (0 ≤ x ∧ x < (w : Int) ∧ 0 ≤ y ∧ y < (h : Int))) ∧ ((z = 1 ∧ hk = false) ∨ (z = 2 ∧ hr = false)) ∧ g2 73 = mE ad1 2 w h hk hr tr sp wb ∧ ad1 = ad2 ∧ ∀ r1, r1 ≠ 73 → g2 r1 = g1 r1) ∨ ((0 ≤ z ∧ z ≤ 2 ∧ (0 ≤ x ∧ x < (w : Int) ∧ 0 ≤ y ∧ y < (h : Int))) ∧ ¬ ((z = 1 ∧ hk = false) ∨ (z = 2 ∧ hr = false)) ∧ g2 73 = mE ad1 0 w h hk hr tr sp wb ∧ ((z = 0 ∧ b = pic (16 * y.toNat + x.toNat)) ∨ (z = 1 ∧ b = kep (16 * y.toNat + x.toNat)) ∨ (z = 2 ∧ b = reb (16 * y.toNat + x.toNat))) ∧ ad1 = ad2 ∧ ∀ r1, r1 ≠ 73 → g2 r1 = g1 r1)) : ∃ (kk : Int) (lf1 : Nat → Int64), (0 ≤ kk ∧ kk ≤ 3) ∧ v = iI kk ∧ RELx cI cZ cL cS cW kk lf1 ad2 g2 ∧ (kk = 0 → lf1 0 = b.toInt64) := by
  rcases hp with ⟨rfl, r, g0, ⟨⟨hin, c0, hc, hv⟩, e1, eg⟩, q94, qf⟩ | ⟨rfl, X, e1, eg⟩ | ⟨rfl, X, e1, eg⟩
  · subst e1; subst eg
    rcases hq with ⟨n, -⟩ | ⟨-, n, -⟩ | ⟨-, -, q73, hb, e2, sf⟩
    · refine absurd ?_ n
      rcases hv with ⟨hz, -⟩ | ⟨hz, -, -⟩ | ⟨hz, -, -⟩ <;> exact ⟨by omega, by omega, hin⟩
    · exfalso
      rcases n with ⟨n1, n2⟩ | ⟨n1, n2⟩ <;> rcases hv with ⟨hz, -⟩ | ⟨hz, k, -⟩ | ⟨hz, k, -⟩ <;> first | omega | (rw [n2] at k; cases k)
    · subst e2
      have ec : c0 = 16 * y.toNat + x.toNat := by omega
      subst ec
      refine ⟨0, _, ⟨by omega, by omega⟩, rfl, same_st HC HR HO HL q73 ((sf 94 (by omega)).trans q94) (fun r h1 h2 => (sf r h2).trans (qf r (by omega))), fun _ => updL_0.trans ?_⟩
      obtain ⟨lp, lk, lr, lsh, lkk⟩ := HL
      have he : r = b := by
        rcases hv with ⟨hz, rfl⟩ | ⟨hz, k, rfl⟩ | ⟨hz, k, rfl⟩ <;> rcases hb with ⟨hz2, rfl⟩ | ⟨hz2, rfl⟩ | ⟨hz2, rfl⟩ <;> first | exact (lp x.toNat y.toNat (by omega) (by omega)).symm | exact (lk k x.toNat y.toNat (by omega) (by omega)).symm | exact (lr k x.toNat y.toNat (by omega) (by omega)).symm | (exfalso; omega)
      rw [he]
  · subst e1; subst eg
    rcases X with ⟨-, X⟩ | ⟨X, -⟩
    · rcases hq with ⟨-, q73, e2, sf⟩ | ⟨n, -⟩ | ⟨n, -⟩
      · subst e2
        exact ⟨1, lf, ⟨by omega, by omega⟩, rfl, same_st HC HR HO HL q73 ((sf 94 (by omega)).trans h94) (fun r h1 h2 => sf r h2), fun q => absurd q (by omega)⟩
      · exact absurd ⟨n.2.2, n.1, n.2.1⟩ X
      · exact absurd ⟨n.2.2, n.1, n.2.1⟩ X
    · exact absurd X (by decide)
  · subst e1; subst eg
    rcases X with ⟨X, -⟩ | ⟨-, hin, X⟩
    · exact absurd X (by decide)
    · rcases hq with ⟨n, -⟩ | ⟨-, -, q73, e2, sf⟩ | ⟨-, n, -⟩
      · refine absurd ?_ n
        rcases X with ⟨hz, -⟩ | ⟨hz, -⟩ <;> exact ⟨by omega, by omega, hin⟩
      · subst e2
        exact ⟨2, lf, ⟨by omega, by omega⟩, rfl, same_st HC HR HO HL q73 ((sf 94 (by omega)).trans h94) (fun r h1 h2 => sf r h2), fun q => absurd q (by omega)⟩
      · exact absurd X n
theorem mid_shelf {cL : ClassId} {ad ad1 : Nat → Nat} {g g1 : Nat → va_E} {T : Nat → ShT} {lf : Nat → Int64} {z : Int} {y : Int} {v : Int32} (hp : (v = iI 0 ∧ ∃ (r : Int32) (g0 : Nat → va_E), ((∃ s0 : Nat, (s0 : Int) = z ∧ s0 < 8 ∧ 0 ≤ y ∧ y ≤ 3 ∧ (T s0).1 = true ∧ ((y = 0 ∧ r = iI (T s0).2.2.1) ∨ (y = 1 ∧ r = iI (T s0).2.2.2.1) ∨ (y = 2 ∧ r = iI (T s0).2.2.2.2.2) ∨ (y = 3 ∧ r = bI (T s0).2.1))) ∧ ad = ad1 ∧ g = g0) ∧ g1 94 = loE cL (vp_updL lf 0 r.toInt64) ∧ ∀ r1, r1 ≠ 94 → g1 r1 = g0 r1) ∨ (v = iI 1 ∧ (fun E => (E = "java/lang/IndexOutOfBoundsException" ∧ ¬ (0 ≤ z ∧ z < 8 ∧ 0 ≤ y ∧ y ≤ 3)) ∨ (E = "java/lang/IllegalStateException" ∧ ∃ s0 : Nat, (s0 : Int) = z ∧ s0 < 8 ∧ 0 ≤ y ∧ y ≤ 3 ∧ (T s0).1 = false)) "java/lang/IndexOutOfBoundsException" ∧ ad = ad1 ∧ g = g1) ∨ (v = iI 2 ∧ (fun E => (E = "java/lang/IndexOutOfBoundsException" ∧ ¬ (0 ≤ z ∧ z < 8 ∧ 0 ≤ y ∧ y ≤ 3)) ∨ (E = "java/lang/IllegalStateException" ∧ ∃ s0 : Nat, (s0 : Int) = z ∧ s0 < 8 ∧ 0 ≤ y ∧ y ≤ 3 ∧ (T s0).1 = false)) "java/lang/IllegalStateException" ∧ ad = ad1 ∧ g = g1)) : (∀ r, 73 ≤ r → r < 94 → g1 r = g r) ∧ (∀ r, 73 ≤ r → ad1 r = ad r) := by
  rcases hp with ⟨-, r, g0, ⟨-, e, eg⟩, -, qf⟩ | ⟨-, -, e, eg⟩ | ⟨-, -, e, eg⟩
  · subst e; subst eg; exact ⟨fun r h1 h2 => qf r (by omega), fun _ _ => rfl⟩
  all_goals subst e; subst eg; exact ⟨fun _ _ _ => rfl, fun _ _ => rfl⟩
theorem pu_shelf {cI cZ cL cS cW : ClassId} {ad ad1 ad2 : Nat → Nat} {g g1 g2 : Nat → va_E} {w : Nat} {h : Nat} {hk : Bool} {hr : Bool} {sp : Int} {wb : Int} {tr : Int} {T : Nat → ShT} {KT : Nat → ShT} {nb : Nat → Nat} {kn : Nat → Nat} {nw : Nat → Nat} {ct0 : Nat → Nat} {lo : Nat → Nat} {bf : Nat → Nat → Int32} {kf : Nat → Nat → Int32} {un : Nat → Nat → Int32} {uc : Nat → Nat → Int32} {re : Nat → Nat → Int32} {f : Nat → Int32} {fk : Nat → Int32} {rb : Nat → Int32} {dr : Nat → Int32} {gc : Nat → Int32} {pic : Nat → Int32} {kep : Nat → Int32} {reb : Nat → Int32} {tri : Nat → Int32} {kno : Nat → Bool} {tol : Nat → Bool} {fil : Nat → Bool} {kt : Nat → Bool} {kfl : Nat → Bool} {rP : Nat → Int} {rQ : Nat → Int} {kP : Nat → Int} {kQ : Nat → Int} {bns : Nat → Int32} {kb : Nat → Int32} {unk : Nat → Int32} {lef : Nat → Int32} {sum : Nat → Int32} {spd : Nat → Int32} {spg : Nat → Int32} {lf : Nat → Int64} {th : Int} (HC : clW cI cS cW ad g w h hk hr sp wb T KT nb kn nw ct0 lo bf kf un uc re f fk rb dr gc) (HR : rfW cI cZ ad g w h hk hr sp wb th tr pic kep reb tri kno tol fil kt kfl rP rQ kP kQ bns kb unk lef sum spd spg) (HO : okW w h hk T KT nb kn nw rP rQ kP kQ) (HL : liW w h hk hr T KT bf kf f fk rb pic kep reb tol fil kt kfl rP rQ kP kQ bns kb) (h94 : g 94 = loE cL lf) {z : Int} {y : Int} {v : Int32} {b : Int32} (hp : (v = iI 0 ∧ ∃ (r : Int32) (g0 : Nat → va_E), ((∃ s0 : Nat, (s0 : Int) = z ∧ s0 < 8 ∧ 0 ≤ y ∧ y ≤ 3 ∧ (T s0).1 = true ∧ ((y = 0 ∧ r = iI (T s0).2.2.1) ∨ (y = 1 ∧ r = iI (T s0).2.2.2.1) ∨ (y = 2 ∧ r = iI (T s0).2.2.2.2.2) ∨ (y = 3 ∧ r = bI (T s0).2.1))) ∧ ad = ad1 ∧ g = g0) ∧ g1 94 = loE cL (vp_updL lf 0 r.toInt64) ∧ ∀ r1, r1 ≠ 94 → g1 r1 = g0 r1) ∨ (v = iI 1 ∧ (fun E => (E = "java/lang/IndexOutOfBoundsException" ∧ ¬ (0 ≤ z ∧ z < 8 ∧ 0 ≤ y ∧ y ≤ 3)) ∨ (E = "java/lang/IllegalStateException" ∧ ∃ s0 : Nat, (s0 : Int) = z ∧ s0 < 8 ∧ 0 ≤ y ∧ y ≤ 3 ∧ (T s0).1 = false)) "java/lang/IndexOutOfBoundsException" ∧ ad = ad1 ∧ g = g1) ∨ (v = iI 2 ∧ (fun E => (E = "java/lang/IndexOutOfBoundsException" ∧ ¬ (0 ≤ z ∧ z < 8 ∧ 0 ≤ y ∧ y ≤ 3)) ∨ (E = "java/lang/IllegalStateException" ∧ ∃ s0 : Nat, (s0 : Int) = z ∧ s0 < 8 ∧ 0 ≤ y ∧ y ≤ 3 ∧ (T s0).1 = false)) "java/lang/IllegalStateException" ∧ ad = ad1 ∧ g = g1)) (hq : (¬ (0 ≤ z ∧ z < 8 ∧ 0 ≤ y ∧ y ≤ 3) ∧ g2 73 = mE ad1 1 w h hk hr tr sp wb ∧ ad1 = ad2 ∧ ∀ r1, r1 ≠ 73 → g2 r1 = g1 r1) ∨ ((0 ≤ z ∧ z < 8 ∧ 0 ≤ y ∧ y ≤ 3) ∧ (∃ s0 : Nat, (s0 : Int) = z ∧ s0 < 8 ∧ tol s0 = false) ∧ g2 73 = mE ad1 2 w h hk hr tr sp wb ∧ ad1 = ad2 ∧ ∀ r1, r1 ≠ 73 → g2 r1 = g1 r1) ∨ ((0 ≤ z ∧ z < 8 ∧ 0 ≤ y ∧ y ≤ 3) ∧ (∃ s0 : Nat, (s0 : Int) = z ∧ s0 < 8 ∧ tol s0 = true ∧ ((y = 0 ∧ b = iI (rP s0)) ∨ (y = 1 ∧ b = iI (rQ s0)) ∨ (y = 2 ∧ b = iI (ctI (rP s0) (rQ s0) w h)) ∨ (y = 3 ∧ b = bI (fil s0)))) ∧ g2 73 = mE ad1 0 w h hk hr tr sp wb ∧ ad1 = ad2 ∧ ∀ r1, r1 ≠ 73 → g2 r1 = g1 r1)) : ∃ (kk : Int) (lf1 : Nat → Int64), (0 ≤ kk ∧ kk ≤ 3) ∧ v = iI kk ∧ RELx cI cZ cL cS cW kk lf1 ad2 g2 ∧ (kk = 0 → lf1 0 = b.toInt64) := by
  rcases hp with ⟨rfl, r, g0, ⟨⟨s0, hz, hs, y1, y2, ht, hv⟩, e1, eg⟩, q94, qf⟩ | ⟨rfl, X, e1, eg⟩ | ⟨rfl, X, e1, eg⟩
  · subst e1; subst eg
    obtain ⟨t1, t2, t3, t4⟩ := HL.2.2.2.1 s0 hs
    rcases hq with ⟨n, -⟩ | ⟨-, ⟨s1, hz1, hs1, ht1⟩, -⟩ | ⟨-, ⟨s1, hz1, hs1, ht1, hb⟩, q73, e2, sf⟩
    · exact absurd ⟨by omega, by omega, y1, y2⟩ n
    · have es : s0 = s1 := by omega
      subst es
      rw [t1, ht] at ht1
      cases ht1
    · subst e2
      have es : s0 = s1 := by omega
      subst es
      refine ⟨0, _, ⟨by omega, by omega⟩, rfl, same_st HC HR HO HL q73 ((sf 94 (by omega)).trans q94) (fun r h1 h2 => (sf r h2).trans (qf r (by omega))), fun _ => updL_0.trans ?_⟩
      obtain ⟨hw, hh, bT, bK, nbO, knO, nwO, geo, filO, posO, kkO, PQ, KPQ⟩ := HO
      have he : r = b := by
        rcases hv with ⟨hy, rfl⟩ | ⟨hy, rfl⟩ | ⟨hy, rfl⟩ | ⟨hy, rfl⟩ <;> rcases hb with ⟨hy2, rfl⟩ | ⟨hy2, rfl⟩ | ⟨hy2, rfl⟩ | ⟨hy2, rfl⟩ <;> first | (exfalso; omega) | (rw [(t3 ht).1]; done) | (rw [(t3 ht).2]; done) | (rw [(t3 ht).1, (t3 ht).2, (geo s0 hs ht).2.2.1]; done) | (rw [t2]; done)
      rw [he]
  · subst e1; subst eg
    rcases X with ⟨-, X⟩ | ⟨X, -⟩
    · rcases hq with ⟨-, q73, e2, sf⟩ | ⟨n, -⟩ | ⟨n, -⟩
      · subst e2
        exact ⟨1, lf, ⟨by omega, by omega⟩, rfl, same_st HC HR HO HL q73 ((sf 94 (by omega)).trans h94) (fun r h1 h2 => sf r h2), fun q => absurd q (by omega)⟩
      · exact absurd n X
      · exact absurd n X
    · exact absurd X (by decide)
  · subst e1; subst eg
    rcases X with ⟨X, -⟩ | ⟨-, s0, hz, hs, y1, y2, ht⟩
    · exact absurd X (by decide)
    · rcases hq with ⟨n, -⟩ | ⟨-, -, q73, e2, sf⟩ | ⟨-, ⟨s1, hz1, hs1, ht1, hb⟩, -⟩
      · exact absurd ⟨by omega, by omega, y1, y2⟩ n
      · subst e2
        exact ⟨2, lf, ⟨by omega, by omega⟩, rfl, same_st HC HR HO HL q73 ((sf 94 (by omega)).trans h94) (fun r h1 h2 => sf r h2), fun q => absurd q (by omega)⟩
      · have es : s0 = s1 := by omega
        subst es
        rw [(HL.2.2.2.1 s0 hs).1, ht] at ht1
        cases ht1
theorem mid_about {cL : ClassId} {ad ad1 : Nat → Nat} {g g1 : Nat → va_E} {sp : Int} {wb : Int} {lf : Nat → Int64} {z : Int} {v : Int32} (hp : (v = iI 0 ∧ ∃ (r : Int32) (g0 : Nat → va_E), (((z = 0 ∧ r = iI sp) ∨ (z = 1 ∧ r = iI wb)) ∧ ad = ad1 ∧ g = g0) ∧ g1 94 = loE cL (vp_updL lf 0 r.toInt64) ∧ ∀ r1, r1 ≠ 94 → g1 r1 = g0 r1) ∨ (v = iI 1 ∧ (fun E => E = "java/lang/IllegalArgumentException" ∧ ¬ (z = 0 ∨ z = 1)) "java/lang/IllegalArgumentException" ∧ ad = ad1 ∧ g = g1)) : (∀ r, 73 ≤ r → r < 94 → g1 r = g r) ∧ (∀ r, 73 ≤ r → ad1 r = ad r) := by
  rcases hp with ⟨-, r, g0, ⟨-, e, eg⟩, -, qf⟩ | ⟨-, -, e, eg⟩
  · subst e; subst eg; exact ⟨fun r h1 h2 => qf r (by omega), fun _ _ => rfl⟩
  all_goals subst e; subst eg; exact ⟨fun _ _ _ => rfl, fun _ _ => rfl⟩
theorem pu_about {cI cZ cL cS cW : ClassId} {ad ad1 ad2 : Nat → Nat} {g g1 g2 : Nat → va_E} {w : Nat} {h : Nat} {hk : Bool} {hr : Bool} {sp : Int} {wb : Int} {tr : Int} {T : Nat → ShT} {KT : Nat → ShT} {nb : Nat → Nat} {kn : Nat → Nat} {nw : Nat → Nat} {ct0 : Nat → Nat} {lo : Nat → Nat} {bf : Nat → Nat → Int32} {kf : Nat → Nat → Int32} {un : Nat → Nat → Int32} {uc : Nat → Nat → Int32} {re : Nat → Nat → Int32} {f : Nat → Int32} {fk : Nat → Int32} {rb : Nat → Int32} {dr : Nat → Int32} {gc : Nat → Int32} {pic : Nat → Int32} {kep : Nat → Int32} {reb : Nat → Int32} {tri : Nat → Int32} {kno : Nat → Bool} {tol : Nat → Bool} {fil : Nat → Bool} {kt : Nat → Bool} {kfl : Nat → Bool} {rP : Nat → Int} {rQ : Nat → Int} {kP : Nat → Int} {kQ : Nat → Int} {bns : Nat → Int32} {kb : Nat → Int32} {unk : Nat → Int32} {lef : Nat → Int32} {sum : Nat → Int32} {spd : Nat → Int32} {spg : Nat → Int32} {lf : Nat → Int64} {th : Int} (HC : clW cI cS cW ad g w h hk hr sp wb T KT nb kn nw ct0 lo bf kf un uc re f fk rb dr gc) (HR : rfW cI cZ ad g w h hk hr sp wb th tr pic kep reb tri kno tol fil kt kfl rP rQ kP kQ bns kb unk lef sum spd spg) (HO : okW w h hk T KT nb kn nw rP rQ kP kQ) (HL : liW w h hk hr T KT bf kf f fk rb pic kep reb tol fil kt kfl rP rQ kP kQ bns kb) (h94 : g 94 = loE cL lf) {z : Int} {v : Int32} {b : Int32} (hp : (v = iI 0 ∧ ∃ (r : Int32) (g0 : Nat → va_E), (((z = 0 ∧ r = iI sp) ∨ (z = 1 ∧ r = iI wb)) ∧ ad = ad1 ∧ g = g0) ∧ g1 94 = loE cL (vp_updL lf 0 r.toInt64) ∧ ∀ r1, r1 ≠ 94 → g1 r1 = g0 r1) ∨ (v = iI 1 ∧ (fun E => E = "java/lang/IllegalArgumentException" ∧ ¬ (z = 0 ∨ z = 1)) "java/lang/IllegalArgumentException" ∧ ad = ad1 ∧ g = g1)) (hq : (¬ (z = 0 ∨ z = 1) ∧ g2 73 = mE ad1 1 w h hk hr tr sp wb ∧ ad1 = ad2 ∧ ∀ r1, r1 ≠ 73 → g2 r1 = g1 r1) ∨ ((z = 0 ∨ z = 1) ∧ g2 73 = mE ad1 0 w h hk hr tr sp wb ∧ ((z = 0 ∧ b = iI sp) ∨ (z = 1 ∧ b = iI wb)) ∧ ad1 = ad2 ∧ ∀ r1, r1 ≠ 73 → g2 r1 = g1 r1)) : ∃ (kk : Int) (lf1 : Nat → Int64), (0 ≤ kk ∧ kk ≤ 3) ∧ v = iI kk ∧ RELx cI cZ cL cS cW kk lf1 ad2 g2 ∧ (kk = 0 → lf1 0 = b.toInt64) := by
  rcases hp with ⟨rfl, r, g0, ⟨hv, e1, eg⟩, q94, qf⟩ | ⟨rfl, ⟨-, X⟩, e1, eg⟩
  · subst e1; subst eg
    rcases hq with ⟨n, -⟩ | ⟨-, q73, hb, e2, sf⟩
    · refine absurd ?_ n
      rcases hv with ⟨hz, -⟩ | ⟨hz, -⟩ <;> omega
    · subst e2
      refine ⟨0, _, ⟨by omega, by omega⟩, rfl, same_st HC HR HO HL q73 ((sf 94 (by omega)).trans q94) (fun r h1 h2 => (sf r h2).trans (qf r (by omega))), fun _ => updL_0.trans ?_⟩
      have he : r = b := by
        rcases hv with ⟨hz, rfl⟩ | ⟨hz, rfl⟩ <;> rcases hb with ⟨hz2, rfl⟩ | ⟨hz2, rfl⟩ <;> first | rfl | (exfalso; omega)
      rw [he]
  · subst e1; subst eg
    rcases hq with ⟨-, q73, e2, sf⟩ | ⟨n, -⟩
    · subst e2
      exact ⟨1, lf, ⟨by omega, by omega⟩, rfl, same_st HC HR HO HL q73 ((sf 94 (by omega)).trans h94) (fun r h1 h2 => sf r h2), fun q => absurd q (by omega)⟩
    · exact absurd n X
theorem mid_bin {cL : ClassId} {ad ad1 : Nat → Nat} {g g1 : Nat → va_E} {T : Nat → ShT} {bf : Nat → Nat → Int32} {lf : Nat → Int64} {z : Int} {y : Int} {v : Int32} (hp : (v = iI 0 ∧ ∃ (r : Int32) (g0 : Nat → va_E), ((∃ s0 : Nat, (s0 : Int) = z ∧ s0 < 8 ∧ (T s0).2.1 = true ∧ ∃ k0 : Nat, (k0 : Int) = y ∧ y < (T s0).2.2.2.2.2 ∧ r = bf s0 k0) ∧ ad = ad1 ∧ g = g0) ∧ g1 94 = loE cL (vp_updL lf 0 r.toInt64) ∧ ∀ r1, r1 ≠ 94 → g1 r1 = g0 r1) ∨ (v = iI 1 ∧ (fun E => (E = "java/lang/IndexOutOfBoundsException" ∧ (¬ (0 ≤ z ∧ z < 8) ∨ ∃ s0 : Nat, (s0 : Int) = z ∧ s0 < 8 ∧ (T s0).2.1 = true ∧ ¬ (0 ≤ y ∧ y < (T s0).2.2.2.2.2))) ∨ (E = "java/lang/IllegalStateException" ∧ ∃ s0 : Nat, (s0 : Int) = z ∧ s0 < 8 ∧ (T s0).2.1 = false)) "java/lang/IndexOutOfBoundsException" ∧ ad = ad1 ∧ g = g1) ∨ (v = iI 2 ∧ (fun E => (E = "java/lang/IndexOutOfBoundsException" ∧ (¬ (0 ≤ z ∧ z < 8) ∨ ∃ s0 : Nat, (s0 : Int) = z ∧ s0 < 8 ∧ (T s0).2.1 = true ∧ ¬ (0 ≤ y ∧ y < (T s0).2.2.2.2.2))) ∨ (E = "java/lang/IllegalStateException" ∧ ∃ s0 : Nat, (s0 : Int) = z ∧ s0 < 8 ∧ (T s0).2.1 = false)) "java/lang/IllegalStateException" ∧ ad = ad1 ∧ g = g1)) : (∀ r, 73 ≤ r → r < 94 → g1 r = g r) ∧ (∀ r, 73 ≤ r → ad1 r = ad r) := by
  rcases hp with ⟨-, r, g0, ⟨-, e, eg⟩, -, qf⟩ | ⟨-, -, e, eg⟩ | ⟨-, -, e, eg⟩
  · subst e; subst eg; exact ⟨fun r h1 h2 => qf r (by omega), fun _ _ => rfl⟩
  all_goals subst e; subst eg; exact ⟨fun _ _ _ => rfl, fun _ _ => rfl⟩
theorem pu_bin {cI cZ cL cS cW : ClassId} {ad ad1 ad2 : Nat → Nat} {g g1 g2 : Nat → va_E} {w : Nat} {h : Nat} {hk : Bool} {hr : Bool} {sp : Int} {wb : Int} {tr : Int} {T : Nat → ShT} {KT : Nat → ShT} {nb : Nat → Nat} {kn : Nat → Nat} {nw : Nat → Nat} {ct0 : Nat → Nat} {lo : Nat → Nat} {bf : Nat → Nat → Int32} {kf : Nat → Nat → Int32} {un : Nat → Nat → Int32} {uc : Nat → Nat → Int32} {re : Nat → Nat → Int32} {f : Nat → Int32} {fk : Nat → Int32} {rb : Nat → Int32} {dr : Nat → Int32} {gc : Nat → Int32} {pic : Nat → Int32} {kep : Nat → Int32} {reb : Nat → Int32} {tri : Nat → Int32} {kno : Nat → Bool} {tol : Nat → Bool} {fil : Nat → Bool} {kt : Nat → Bool} {kfl : Nat → Bool} {rP : Nat → Int} {rQ : Nat → Int} {kP : Nat → Int} {kQ : Nat → Int} {bns : Nat → Int32} {kb : Nat → Int32} {unk : Nat → Int32} {lef : Nat → Int32} {sum : Nat → Int32} {spd : Nat → Int32} {spg : Nat → Int32} {lf : Nat → Int64} {th : Int} (HC : clW cI cS cW ad g w h hk hr sp wb T KT nb kn nw ct0 lo bf kf un uc re f fk rb dr gc) (HR : rfW cI cZ ad g w h hk hr sp wb th tr pic kep reb tri kno tol fil kt kfl rP rQ kP kQ bns kb unk lef sum spd spg) (HO : okW w h hk T KT nb kn nw rP rQ kP kQ) (HL : liW w h hk hr T KT bf kf f fk rb pic kep reb tol fil kt kfl rP rQ kP kQ bns kb) (h94 : g 94 = loE cL lf) {z : Int} {y : Int} {v : Int32} {b : Int32} (hp : (v = iI 0 ∧ ∃ (r : Int32) (g0 : Nat → va_E), ((∃ s0 : Nat, (s0 : Int) = z ∧ s0 < 8 ∧ (T s0).2.1 = true ∧ ∃ k0 : Nat, (k0 : Int) = y ∧ y < (T s0).2.2.2.2.2 ∧ r = bf s0 k0) ∧ ad = ad1 ∧ g = g0) ∧ g1 94 = loE cL (vp_updL lf 0 r.toInt64) ∧ ∀ r1, r1 ≠ 94 → g1 r1 = g0 r1) ∨ (v = iI 1 ∧ (fun E => (E = "java/lang/IndexOutOfBoundsException" ∧ (¬ (0 ≤ z ∧ z < 8) ∨ ∃ s0 : Nat, (s0 : Int) = z ∧ s0 < 8 ∧ (T s0).2.1 = true ∧ ¬ (0 ≤ y ∧ y < (T s0).2.2.2.2.2))) ∨ (E = "java/lang/IllegalStateException" ∧ ∃ s0 : Nat, (s0 : Int) = z ∧ s0 < 8 ∧ (T s0).2.1 = false)) "java/lang/IndexOutOfBoundsException" ∧ ad = ad1 ∧ g = g1) ∨ (v = iI 2 ∧ (fun E => (E = "java/lang/IndexOutOfBoundsException" ∧ (¬ (0 ≤ z ∧ z < 8) ∨ ∃ s0 : Nat, (s0 : Int) = z ∧ s0 < 8 ∧ (T s0).2.1 = true ∧ ¬ (0 ≤ y ∧ y < (T s0).2.2.2.2.2))) ∨ (E = "java/lang/IllegalStateException" ∧ ∃ s0 : Nat, (s0 : Int) = z ∧ s0 < 8 ∧ (T s0).2.1 = false)) "java/lang/IllegalStateException" ∧ ad = ad1 ∧ g = g1)) (hq : ((¬ (0 ≤ z ∧ z < 8) ∧ g2 73 = mE ad1 1 w h hk hr tr sp wb ∧ ad1 = ad2 ∧ ∀ r1, r1 ≠ 73 → g2 r1 = g1 r1) ∨ ((∃ s0 : Nat, (s0 : Int) = z ∧ s0 < 8 ∧ (tol s0 = false ∨ fil s0 = false)) ∧ g2 73 = mE ad1 2 w h hk hr tr sp wb ∧ ad1 = ad2 ∧ ∀ r1, r1 ≠ 73 → g2 r1 = g1 r1) ∨ ((∃ s0 : Nat, (s0 : Int) = z ∧ s0 < 8 ∧ tol s0 = true ∧ fil s0 = true ∧ ¬ (0 ≤ y ∧ y < ctI (rP s0) (rQ s0) w h)) ∧ g2 73 = mE ad1 1 w h hk hr tr sp wb ∧ ad1 = ad2 ∧ ∀ r1, r1 ≠ 73 → g2 r1 = g1 r1)) ∨ ((∃ s0 : Nat, (s0 : Int) = z ∧ s0 < 8 ∧ tol s0 = true ∧ fil s0 = true ∧ ∃ k0 : Nat, (k0 : Int) = y ∧ y < ctI (rP s0) (rQ s0) w h ∧ b = bns (481 * s0 + k0)) ∧ g2 73 = mE ad1 0 w h hk hr tr sp wb ∧ ad1 = ad2 ∧ ∀ r1, r1 ≠ 73 → g2 r1 = g1 r1)) : ∃ (kk : Int) (lf1 : Nat → Int64), (0 ≤ kk ∧ kk ≤ 3) ∧ v = iI kk ∧ RELx cI cZ cL cS cW kk lf1 ad2 g2 ∧ (kk = 0 → lf1 0 = b.toInt64) := by
  rcases hp with ⟨rfl, r, g0, ⟨⟨s0, hz, hs, ht, k0, hk0, hk1, hv⟩, e1, eg⟩, q94, qf⟩ | ⟨rfl, X, e1, eg⟩ | ⟨rfl, X, e1, eg⟩
  · subst e1; subst eg
    obtain ⟨t1, t2, t3, t4⟩ := HL.2.2.2.1 s0 hs
    obtain ⟨g5, g6, g7, g8⟩ := HO.2.2.2.2.2.2.2.1 s0 hs (t4 ht).1
    rcases hq with (⟨n, -⟩ | ⟨⟨s1, hz1, hs1, n⟩, -⟩ | ⟨⟨s1, hz1, hs1, -, -, n⟩, -⟩) | ⟨⟨s1, hz1, hs1, ht1, hf1, k1, hk2, hk3, hb⟩, q73, e2, sf⟩
    · exact absurd ⟨by omega, by omega⟩ n
    · exfalso
      have es : s0 = s1 := by omega
      subst es
      rw [t1, t2, ht, (t4 ht).1] at n
      rcases n with n | n <;> cases n
    · have es : s0 = s1 := by omega
      subst es
      rw [(t3 (t4 ht).1).1, (t3 (t4 ht).1).2, ← g7] at n
      exact absurd ⟨by omega, hk1⟩ n
    · subst e2
      have es : s0 = s1 := by omega
      subst es
      have ek : k0 = k1 := by omega
      subst ek
      refine ⟨0, _, ⟨by omega, by omega⟩, rfl, same_st HC HR HO HL q73 ((sf 94 (by omega)).trans q94) (fun r h1 h2 => (sf r h2).trans (qf r (by omega))), fun _ => updL_0.trans ?_⟩
      obtain ⟨n1, n2⟩ := okW_ct HO s0 hs (t4 ht).1
      rw [hv, hb, (t4 ht).2 k0 (by omega)]
  · subst e1; subst eg
    rcases X with ⟨-, X⟩ | ⟨X, -⟩
    · rcases hq with (⟨-, q73, e2, sf⟩ | ⟨⟨s1, hz1, hs1, n⟩, -⟩ | ⟨-, q73, e2, sf⟩) | ⟨⟨s1, hz1, hs1, ht1, hf1, k1, hk2, hk3, hb⟩, -⟩
      · subst e2
        exact ⟨1, lf, ⟨by omega, by omega⟩, rfl, same_st HC HR HO HL q73 ((sf 94 (by omega)).trans h94) (fun r h1 h2 => sf r h2), fun q => absurd q (by omega)⟩
      · exfalso
        rcases X with X | ⟨s0, hz, hs, ht, X⟩
        · exact X ⟨by omega, by omega⟩
        · have es : s0 = s1 := by omega
          subst es
          obtain ⟨t1, t2, t3, t4⟩ := HL.2.2.2.1 s0 hs
          rw [t1, t2, ht, (t4 ht).1] at n
          rcases n with n | n <;> cases n
      · subst e2
        exact ⟨1, lf, ⟨by omega, by omega⟩, rfl, same_st HC HR HO HL q73 ((sf 94 (by omega)).trans h94) (fun r h1 h2 => sf r h2), fun q => absurd q (by omega)⟩
      · exfalso
        rcases X with X | ⟨s0, hz, hs, ht, X⟩
        · exact X ⟨by omega, by omega⟩
        · have es : s0 = s1 := by omega
          subst es
          obtain ⟨t1, t2, t3, t4⟩ := HL.2.2.2.1 s0 hs
          obtain ⟨g5, g6, g7, g8⟩ := HO.2.2.2.2.2.2.2.1 s0 hs (t4 ht).1
          rw [(t3 (t4 ht).1).1, (t3 (t4 ht).1).2, ← g7] at hk3
          exact X ⟨by omega, hk3⟩
    · exact absurd X (by decide)
  · subst e1; subst eg
    rcases X with ⟨X, -⟩ | ⟨-, s0, hz, hs, ht⟩
    · exact absurd X (by decide)
    · obtain ⟨t1, t2, t3, t4⟩ := HL.2.2.2.1 s0 hs
      rcases hq with (⟨n, -⟩ | ⟨-, q73, e2, sf⟩ | ⟨⟨s1, hz1, hs1, -, n, -⟩, -⟩) | ⟨⟨s1, hz1, hs1, ht1, n, -⟩, -⟩
      · exact absurd ⟨by omega, by omega⟩ n
      · subst e2
        exact ⟨2, lf, ⟨by omega, by omega⟩, rfl, same_st HC HR HO HL q73 ((sf 94 (by omega)).trans h94) (fun r h1 h2 => sf r h2), fun q => absurd q (by omega)⟩
      · have es : s0 = s1 := by omega
        subst es
        rw [t2, ht] at n
        cases n
      · have es : s0 = s1 := by omega
        subst es
        rw [t2, ht] at n
        cases n
theorem mid_enough {cL : ClassId} {ad ad1 : Nat → Nat} {g g1 : Nat → va_E} {w : Nat} {h : Nat} {T : Nat → ShT} {lf : Nat → Int64} {z : Int} {v : Int32} (hp : (v = iI 0 ∧ ∃ (r : Int32) (g0 : Nat → va_E), (∃ v, r = bI v ∧ ((0 ≤ z ∧ z < 256 ∧ v = decide ((w : Int) ≤ sI 8 (fun j => if Nat.testBit (mkM (fun j => Nat.testBit z.toNat j && (T j).1) 8) j = true then aI (T j).2.2.1 else 0) ∨ (h : Int) ≤ sI 8 (fun j => if Nat.testBit (mkM (fun j => Nat.testBit z.toNat j && (T j).1) 8) j = true then (T j).2.2.2.1 else 0))) ∧ ad = ad1 ∧ g = g0)) ∧ g1 94 = loE cL (vp_updL lf 0 (if r = 0 then 0 else 1)) ∧ ∀ r1, r1 ≠ 94 → g1 r1 = g0 r1) ∨ (v = iI 1 ∧ (fun E => E = "java/lang/IllegalArgumentException" ∧ ¬ (0 ≤ z ∧ z < 256)) "java/lang/IllegalArgumentException" ∧ ad = ad1 ∧ g = g1)) : (∀ r, 73 ≤ r → r < 94 → g1 r = g r) ∧ (∀ r, 73 ≤ r → ad1 r = ad r) := by
  rcases hp with ⟨-, r, g0, ⟨v0, -, -, e, eg⟩, -, qf⟩ | ⟨-, -, e, eg⟩
  · subst e; subst eg; exact ⟨fun r h1 h2 => qf r (by omega), fun _ _ => rfl⟩
  · subst e; subst eg; exact ⟨fun _ _ _ => rfl, fun _ _ => rfl⟩
theorem pu_enough {cI cZ cL cS cW : ClassId} {ad ad1 ad2 : Nat → Nat} {g g1 g2 : Nat → va_E} {w : Nat} {h : Nat} {hk : Bool} {hr : Bool} {sp : Int} {wb : Int} {tr : Int} {T : Nat → ShT} {KT : Nat → ShT} {nb : Nat → Nat} {kn : Nat → Nat} {nw : Nat → Nat} {ct0 : Nat → Nat} {lo : Nat → Nat} {bf : Nat → Nat → Int32} {kf : Nat → Nat → Int32} {un : Nat → Nat → Int32} {uc : Nat → Nat → Int32} {re : Nat → Nat → Int32} {f : Nat → Int32} {fk : Nat → Int32} {rb : Nat → Int32} {dr : Nat → Int32} {gc : Nat → Int32} {pic : Nat → Int32} {kep : Nat → Int32} {reb : Nat → Int32} {tri : Nat → Int32} {kno : Nat → Bool} {tol : Nat → Bool} {fil : Nat → Bool} {kt : Nat → Bool} {kfl : Nat → Bool} {rP : Nat → Int} {rQ : Nat → Int} {kP : Nat → Int} {kQ : Nat → Int} {bns : Nat → Int32} {kb : Nat → Int32} {unk : Nat → Int32} {lef : Nat → Int32} {sum : Nat → Int32} {spd : Nat → Int32} {spg : Nat → Int32} {lf : Nat → Int64} {th : Int} (HC : clW cI cS cW ad g w h hk hr sp wb T KT nb kn nw ct0 lo bf kf un uc re f fk rb dr gc) (HR : rfW cI cZ ad g w h hk hr sp wb th tr pic kep reb tri kno tol fil kt kfl rP rQ kP kQ bns kb unk lef sum spd spg) (HO : okW w h hk T KT nb kn nw rP rQ kP kQ) (HL : liW w h hk hr T KT bf kf f fk rb pic kep reb tol fil kt kfl rP rQ kP kQ bns kb) (h94 : g 94 = loE cL lf) {z : Int} {v : Int32} {b : Int32} (hp : (v = iI 0 ∧ ∃ (r : Int32) (g0 : Nat → va_E), (∃ v, r = bI v ∧ ((0 ≤ z ∧ z < 256 ∧ v = decide ((w : Int) ≤ sI 8 (fun j => if Nat.testBit (mkM (fun j => Nat.testBit z.toNat j && (T j).1) 8) j = true then aI (T j).2.2.1 else 0) ∨ (h : Int) ≤ sI 8 (fun j => if Nat.testBit (mkM (fun j => Nat.testBit z.toNat j && (T j).1) 8) j = true then (T j).2.2.2.1 else 0))) ∧ ad = ad1 ∧ g = g0)) ∧ g1 94 = loE cL (vp_updL lf 0 (if r = 0 then 0 else 1)) ∧ ∀ r1, r1 ≠ 94 → g1 r1 = g0 r1) ∨ (v = iI 1 ∧ (fun E => E = "java/lang/IllegalArgumentException" ∧ ¬ (0 ≤ z ∧ z < 256)) "java/lang/IllegalArgumentException" ∧ ad = ad1 ∧ g = g1)) (hq : ∃ v, b = bI v ∧ ((¬ (0 ≤ z ∧ z < 256) ∧ g2 73 = mE ad1 1 w h hk hr tr sp wb ∧ ad1 = ad2 ∧ ∀ r1, r1 ≠ 73 → g2 r1 = g1 r1) ∨ ((0 ≤ z ∧ z < 256) ∧ v = decide ((w : Int) ≤ sI 8 (fun j => if (Nat.testBit z.toNat j && tol j) = true then aI (rP j) else 0) ∨ (h : Int) ≤ sI 8 (fun j => if (Nat.testBit z.toNat j && tol j) = true then rQ j else 0)) ∧ g2 73 = mE ad1 0 w h hk hr tr sp wb ∧ ad1 = ad2 ∧ ∀ r1, r1 ≠ 73 → g2 r1 = g1 r1))) : ∃ (kk : Int) (lf1 : Nat → Int64), (0 ≤ kk ∧ kk ≤ 3) ∧ v = iI kk ∧ RELx cI cZ cL cS cW kk lf1 ad2 g2 ∧ (kk = 0 → lf1 0 = (if b = 0 then 0 else 1)) := by
  rcases hp with ⟨rfl, r, g0, ⟨v0, hv0, ⟨z3, z4, hv⟩, e1, eg⟩, q94, qf⟩ | ⟨rfl, ⟨-, X⟩, e1, eg⟩
  · subst e1; subst eg
    obtain ⟨v1, hb, hq⟩ := hq
    rcases hq with ⟨n, -⟩ | ⟨-, hv1, q73, e2, sf⟩
    · exact absurd ⟨z3, z4⟩ n
    · subst e2
      refine ⟨0, _, ⟨by omega, by omega⟩, rfl, same_st HC HR HO HL q73 ((sf 94 (by omega)).trans q94) (fun r h1 h2 => (sf r h2).trans (qf r (by omega))), fun _ => updL_0.trans ?_⟩
      have he : r = b := by
        rw [hv0, hb, hv, hv1, sm_P HL.2.2.2.1 aI, sm_Q HL.2.2.2.1]
      rw [he]
  · subst e1; subst eg
    obtain ⟨v1, hb, hq⟩ := hq
    rcases hq with ⟨-, q73, e2, sf⟩ | ⟨n, -⟩
    · subst e2
      exact ⟨1, lf, ⟨by omega, by omega⟩, rfl, same_st HC HR HO HL q73 ((sf 94 (by omega)).trans h94) (fun r h1 h2 => sf r h2), fun q => absurd q (by omega)⟩
    · exact absurd n X
