/-! class and reference rebuild the same -/
def sameU (U U' : Nat → Bool) (bc bc' : Nat → Nat → Nat) (ct ct' : Nat → Nat) (bv bv' : Nat → Nat → Int32) : Prop := ∀ j, j < 8 → U j = U' j ∧ (U j = true → bc j = bc' j ∧ ct j = ct' j ∧ ∀ k, k < ct j → bv j k = bv' j k)
theorem sameU_symm {U U' : Nat → Bool} {bc bc' : Nat → Nat → Nat} {ct ct' : Nat → Nat} {bv bv' : Nat → Nat → Int32} (h : sameU U U' bc bc' ct ct' bv bv') : sameU U' U bc' bc ct' ct bv' bv := fun j hj => by
  obtain ⟨h1, h2⟩ := h j hj
  refine ⟨h1.symm, fun q => ?_⟩
  obtain ⟨h3, h4, h5⟩ := h2 (h1.trans q)
  exact ⟨h3.symm, h4.symm, fun k hk => (h5 k (by rw [h4]; exact hk)).symm⟩
theorem rst_bv {w h k : Nat} {K : Nat → Bool} {b : Nat → Nat} {bv bv' val : Nat → Int32} (hb : bv k = bv' k) : rst w h K b bv val k = rst w h K b bv' val k := by
  unfold rst
  rw [hb]
theorem Nxt_congr {w h s k : Nat} {U U' : Nat → Bool} {bc bc' : Nat → Nat → Nat} {ct ct' : Nat → Nat} {bv bv' : Nat → Nat → Int32} {K : Nat → Bool} (H : sameU U U' bc bc' ct ct' bv bv') (hn : Nxt w h U bc ct K s k) : Nxt w h U' bc' ct' K s k := by
  obtain ⟨n1, n2, n3, n4, n5, n6⟩ := hn
  obtain ⟨h1, h2⟩ := H s n1
  obtain ⟨h3, h4, -⟩ := h2 n2
  refine ⟨n1, h1.symm.trans n2, by rw [← h4]; exact n3, by rw [← h3]; exact n4, fun k' hk => by rw [← h3]; exact n5 k' hk, fun s' hs q k' hk => ?_⟩
  obtain ⟨g1, g2⟩ := H s' (by omega)
  obtain ⟨g3, g4, -⟩ := g2 (g1.trans q)
  rw [← g3]
  exact n6 s' hs (g1.trans q) k' (by rw [g4]; exact hk)
theorem Rn_congr {w h : Nat} {U U' : Nat → Bool} {bc bc' : Nat → Nat → Nat} {ct ct' : Nat → Nat} {bv bv' : Nat → Nat → Int32} (H : sameU U U' bc bc' ct ct' bv bv') : ∀ (n : Nat) {K : Nat → Bool} {v : Nat → Int32}, Rn w h U bc ct bv n K v → Rn w h U' bc' ct' bv' n K v
  | 0, _, _, hr => hr
  | n + 1, K, v, hr => by
    obtain ⟨K0, v0, s, k, r1, r2, r3, r4⟩ := hr
    obtain ⟨h1, h2⟩ := H s r2.1
    obtain ⟨h3, h4, h5⟩ := h2 r2.2.1
    refine ⟨K0, v0, s, k, Rn_congr H n r1, Nxt_congr H r2, by rw [← h3]; exact r3, ?_⟩
    rw [← h3, rst_bv (bv := bv' s) (bv' := bv s) (h5 k r2.2.2.1).symm]
    exact r4
theorem Dn_congr {w h n : Nat} {U U' : Nat → Bool} {bc bc' : Nat → Nat → Nat} {ct ct' : Nat → Nat} {bv bv' : Nat → Nat → Int32} {K : Nat → Bool} {v : Nat → Int32} (H : sameU U U' bc bc' ct ct' bv bv') (hd : Dn w h U bc ct bv n K v) : Dn w h U' bc' ct' bv' n K v :=
  ⟨Rn_congr H n hd.1, fun s k hq => hd.2 s k (Nxt_congr (sameU_symm H) hq)⟩
/-- how the reference's shelves stand to the class's -/
def shR (w h : Nat) (T : Nat → ShT) (bf : Nat → Nat → Int32) (tol fil : Nat → Bool) (rP rQ : Nat → Int) (bns : Nat → Int32) : Prop := ∀ j, j < 8 → tol j = (T j).1 ∧ fil j = (T j).2.1 ∧ ((T j).1 = true → rP j = (T j).2.2.1 ∧ rQ j = (T j).2.2.2.1) ∧ ((T j).2.1 = true → (T j).1 = true ∧ ∀ k, k < ctN (T j).2.2.1 (T j).2.2.2.1 w h → bns (481 * j + k) = bf j k)
theorem shR_same {w h M M' : Nat} {T : Nat → ShT} {bf : Nat → Nat → Int32} {tol fil : Nat → Bool} {rP rQ : Nat → Int} {bns : Nat → Int32} (H : shR w h T bf tol fil rP rQ bns) (hM : ∀ j, j < 8 → Nat.testBit M j = (Nat.testBit M' j && tol j)) (hf : ∀ j, j < 8 → Nat.testBit M j = true → (T j).2.1 = true) : sameU (fun j => Nat.testBit M j) (fun j => Nat.testBit M' j && tol j) (fun j c => bnN (T j).2.2.1 (T j).2.2.2.1 w h (c % 16) (c / 16)) (fun j c => bnN (rP j) (rQ j) w h (c % 16) (c / 16)) (fun j => ctN (T j).2.2.1 (T j).2.2.2.1 w h) (fun j => ctN (rP j) (rQ j) w h) bf (fun j k => bns (481 * j + k)) := fun j hj => by
  refine ⟨hM j hj, fun q => ?_⟩
  obtain ⟨h1, h2, h3, h4⟩ := H j hj
  obtain ⟨h5, h6⟩ := h4 (hf j hj q)
  obtain ⟨h7, h8⟩ := h3 h5
  refine ⟨?_, ?_, fun k hk => (h6 k hk).symm⟩
  · show (fun c => bnN (T j).2.2.1 (T j).2.2.2.1 w h (c % 16) (c / 16)) = fun c => bnN (rP j) (rQ j) w h (c % 16) (c / 16)
    rw [h7, h8]
  · show ctN (T j).2.2.1 (T j).2.2.2.1 w h = ctN (rP j) (rQ j) w h
    rw [h7, h8]
theorem agr_agm {w h M M' : Nat} {T : Nat → ShT} {bf : Nat → Nat → Int32} {tol fil : Nat → Bool} {rP rQ : Nat → Int} {bns : Nat → Int32} (H : shR w h T bf tol fil rP rQ bns) (hM : ∀ j, j < 8 → Nat.testBit M j = (Nat.testBit M' j && tol j)) (hf : ∀ j, j < 8 → Nat.testBit M j = true → (T j).2.1 = true) : agr w h T bf M ↔ agm w h tol rP rQ bns M' := by
  have S := shR_same H hM hf
  have key : ∀ K val j, j < 8 → Nat.testBit M j = true → ∀ k, k < ctN (T j).2.2.1 (T j).2.2.2.1 w h → rst w h K (fun c => bnN (T j).2.2.1 (T j).2.2.2.1 w h (c % 16) (c / 16)) (bf j) val k = rst w h K (fun c => bnN (rP j) (rQ j) w h (c % 16) (c / 16)) (fun k => bns (481 * j + k)) val k := fun K val j hj hu k hk => by
    obtain ⟨-, h2⟩ := S j hj
    obtain ⟨h3, -, h5⟩ := h2 hu
    have h3 : (fun c => bnN (T j).2.2.1 (T j).2.2.2.1 w h (c % 16) (c / 16)) = fun c => bnN (rP j) (rQ j) w h (c % 16) (c / 16) := h3
    rw [h3]
    exact rst_bv (h5 k hk)
  constructor
  · rintro ⟨n, K, val, d1, d2, d3⟩
    refine ⟨n, K, val, Dn_congr S d1, d2, fun j hj hu k hk => ?_⟩
    have hu' : Nat.testBit M j = true := (hM j hj).trans hu
    have hk' : k < ctN (T j).2.2.1 (T j).2.2.2.1 w h := by
      have h4 : ctN (T j).2.2.1 (T j).2.2.2.1 w h = ctN (rP j) (rQ j) w h := ((S j hj).2 hu').2.1
      rw [h4]; exact hk
    rw [← key K val j hj hu' k hk']
    exact d3 j hj hu' k hk'
  · rintro ⟨n, K, val, d1, d2, d3⟩
    refine ⟨n, K, val, Dn_congr (sameU_symm S) d1, d2, fun j hj hu k hk => ?_⟩
    have h4 : ctN (T j).2.2.1 (T j).2.2.2.1 w h = ctN (rP j) (rQ j) w h := ((S j hj).2 hu).2.1
    rw [key K val j hj hu k hk]
    exact d3 j hj ((hM j hj).symm.trans hu) k (by rw [← h4]; exact hk)
