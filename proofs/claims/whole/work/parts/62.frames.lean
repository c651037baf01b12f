/-! what a call doesn't touch stays -/
theorem rfW_fr {cI cZ : ClassId} {ad ad1 : Nat → Nat} {g g1 : Nat → va_E} {w : Nat} {h : Nat} {hk : Bool} {hr : Bool} {sp : Int} {wb : Int} {th : Int} {tr : Int} {pic : Nat → Int32} {kep : Nat → Int32} {reb : Nat → Int32} {tri : Nat → Int32} {kno : Nat → Bool} {tol : Nat → Bool} {fil : Nat → Bool} {kt : Nat → Bool} {kfl : Nat → Bool} {rP : Nat → Int} {rQ : Nat → Int} {kP : Nat → Int} {kQ : Nat → Int} {bns : Nat → Int32} {kb : Nat → Int32} {unk : Nat → Int32} {lef : Nat → Int32} {sum : Nat → Int32} {spd : Nat → Int32} {spg : Nat → Int32} (H : rfW cI cZ ad g w h hk hr sp wb th tr pic kep reb tri kno tol fil kt kfl rP rQ kP kQ bns kb unk lef sum spd spg) (hg : ∀ r, 73 ≤ r → r < 94 → g1 r = g r) (ha : ∀ r, 73 ≤ r → r < 94 → ad1 r = ad r) : rfW cI cZ ad1 g1 w h hk hr sp wb th tr pic kep reb tri kno tol fil kt kfl rP rQ kP kQ bns kb unk lef sum spd spg := by
  obtain ⟨h0, h1, h2, h3, h4, h5, h6, h7, h8, h9, h10, h11, h12, h13, h14, h15, h16, h17, h18, h19, h20⟩ := H
  refine ⟨?_, ?_, ?_, ?_, ?_, ?_, ?_, ?_, ?_, ?_, ?_, ?_, ?_, ?_, ?_, ?_, ?_, ?_, ?_, ?_, ?_⟩
  · rw [hg 73 (by omega) (by omega), h0]
    unfold mE
    rw [ha 74 (by omega) (by omega), ha 75 (by omega) (by omega), ha 76 (by omega) (by omega), ha 77 (by omega) (by omega), ha 78 (by omega) (by omega), ha 79 (by omega) (by omega), ha 80 (by omega) (by omega), ha 81 (by omega) (by omega), ha 82 (by omega) (by omega), ha 83 (by omega) (by omega), ha 84 (by omega) (by omega), ha 85 (by omega) (by omega), ha 86 (by omega) (by omega), ha 87 (by omega) (by omega), ha 88 (by omega) (by omega), ha 89 (by omega) (by omega), ha 90 (by omega) (by omega), ha 91 (by omega) (by omega), ha 92 (by omega) (by omega), ha 93 (by omega) (by omega)]
  · exact (hg 74 (by omega) (by omega)).trans h1
  · exact (hg 75 (by omega) (by omega)).trans h2
  · exact (hg 76 (by omega) (by omega)).trans h3
  · exact (hg 77 (by omega) (by omega)).trans h4
  · exact (hg 78 (by omega) (by omega)).trans h5
  · exact (hg 79 (by omega) (by omega)).trans h6
  · exact (hg 80 (by omega) (by omega)).trans h7
  · exact (hg 81 (by omega) (by omega)).trans h8
  · exact (hg 82 (by omega) (by omega)).trans h9
  · exact (hg 83 (by omega) (by omega)).trans h10
  · exact (hg 84 (by omega) (by omega)).trans h11
  · exact (hg 85 (by omega) (by omega)).trans h12
  · exact (hg 86 (by omega) (by omega)).trans h13
  · exact (hg 87 (by omega) (by omega)).trans h14
  · exact (hg 88 (by omega) (by omega)).trans h15
  · exact (hg 89 (by omega) (by omega)).trans h16
  · exact (hg 90 (by omega) (by omega)).trans h17
  · exact (hg 91 (by omega) (by omega)).trans h18
  · exact (hg 92 (by omega) (by omega)).trans h19
  · exact (hg 93 (by omega) (by omega)).trans h20
theorem clW_fr {cI cS cW : ClassId} {ad : Nat → Nat} {g g1 : Nat → va_E} {w : Nat} {h : Nat} {hk : Bool} {hr : Bool} {sp : Int} {wb : Int} {T : Nat → ShT} {KT : Nat → ShT} {nb : Nat → Nat} {kn : Nat → Nat} {nw : Nat → Nat} {ct0 : Nat → Nat} {lo : Nat → Nat} {bf : Nat → Nat → Int32} {kf : Nat → Nat → Int32} {un : Nat → Nat → Int32} {uc : Nat → Nat → Int32} {re : Nat → Nat → Int32} {f : Nat → Int32} {fk : Nat → Int32} {rb : Nat → Int32} {dr : Nat → Int32} {gc : Nat → Int32} (H : clW cI cS cW ad g w h hk hr sp wb T KT nb kn nw ct0 lo bf kf un uc re f fk rb dr gc) (hg : ∀ r, r < 73 → g1 r = g r) : clW cI cS cW ad g1 w h hk hr sp wb T KT nb kn nw ct0 lo bf kf un uc re f fk rb dr gc := by
  obtain ⟨h0, h1, h2, h3, h4, h5, h6, h7, h8, f1, f2, f3, f4, f5, f6, f7, f8⟩ := H
  exact ⟨(hg 0 (by omega)).trans h0, (hg 1 (by omega)).trans h1, (hg 2 (by omega)).trans h2, (hg 3 (by omega)).trans h3, (hg 4 (by omega)).trans h4, (hg 5 (by omega)).trans h5, (hg 6 (by omega)).trans h6, (hg 7 (by omega)).trans h7, (hg 8 (by omega)).trans h8, fun j hj => (hg _ (by omega)).trans (f1 j hj), fun j hj => (hg _ (by omega)).trans (f2 j hj), fun j hj => (hg _ (by omega)).trans (f3 j hj), fun j hj => (hg _ (by omega)).trans (f4 j hj), fun j hj => (hg _ (by omega)).trans (f5 j hj), fun j hj => (hg _ (by omega)).trans (f6 j hj), fun j hj => (hg _ (by omega)).trans (f7 j hj), fun j hj => (hg _ (by omega)).trans (f8 j hj)⟩
