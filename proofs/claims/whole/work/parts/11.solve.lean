/-! a rebuilding: which cells are known, and their numbers -/
def uB (w h : Nat) (K : Nat → Bool) (b : Nat → Nat) (k c : Nat) : Bool := decide (c % 16 < w) && decide (c / 16 < h) && decide (b c = k) && !K c
def kB (w h : Nat) (K : Nat → Bool) (b : Nat → Nat) (k c : Nat) : Bool := decide (c % 16 < w) && decide (c / 16 < h) && decide (b c = k) && K c
theorem uB_iff {w h : Nat} {K : Nat → Bool} {b : Nat → Nat} {k c : Nat} : uB w h K b k c = true ↔ c % 16 < w ∧ c / 16 < h ∧ b c = k ∧ K c = false := by
  simp [uB, and_assoc]
theorem kB_iff {w h : Nat} {K : Nat → Bool} {b : Nat → Nat} {k c : Nat} : kB w h K b k c = true ↔ c % 16 < w ∧ c / 16 < h ∧ b c = k ∧ K c = true := by
  simp [kB, and_assoc]
theorem uB_ne {w h : Nat} {K : Nat → Bool} {b : Nat → Nat} {k c c0 : Nat} {v : Bool} (hne : c ≠ c0) : uB w h (va_up K c0 v) b k c = uB w h K b k c := by
  unfold uB
  rw [va_up_ne K v hne]
theorem kB_ne {w h : Nat} {K : Nat → Bool} {b : Nat → Nat} {k c c0 : Nat} {v : Bool} (hne : c ≠ c0) : kB w h (va_up K c0 v) b k c = kB w h K b k c := by
  unfold kB
  rw [va_up_ne K v hne]
/-- how many cells of bin k aren't known; the sum of their numbers; what is left of the bin -/
def cnt (w h : Nat) (K : Nat → Bool) (b : Nat → Nat) (k : Nat) : Nat := cN 256 (fun c => if uB w h K b k c = true then 1 else 0)
def cod (w h : Nat) (K : Nat → Bool) (b : Nat → Nat) (k : Nat) : Nat := cN 256 (fun c => if uB w h K b k c = true then c else 0)
def rst (w h : Nat) (K : Nat → Bool) (b : Nat → Nat) (bv val : Nat → Int32) (k : Nat) : Int32 := bv k - sN 256 (fun c => if kB w h K b k c = true then val c else 0)
theorem cN_uniq {P : Nat → Bool} : ∀ n : Nat, cN n (fun c => if P c = true then 1 else 0) = 1 → ∃ c, c < n ∧ P c = true ∧ (∀ c', c' < n → P c' = true → c' = c) ∧ ∀ G : Nat → Nat, cN n (fun c => if P c = true then G c else 0) = G c
  | 0, h => absurd (show (0 : Nat) = 1 from h) (by decide)
  | n + 1, h => by
    have h : cN n (fun c => if P c = true then 1 else 0) + (if P n = true then 1 else 0) = 1 := h
    by_cases hn : P n = true
    · rw [if_pos hn] at h
      have h0 : cN n (fun c => if P c = true then 1 else 0) = 0 := by omega
      have hz : ∀ c, c < n → ¬ P c = true := fun c hc hp => by
        have h3 : (if P c = true then 1 else 0) ≤ cN n (fun c => if P c = true then 1 else 0) := cN_ge (F := fun c => if P c = true then 1 else 0) (c0 := c) n hc
        rw [if_pos hp] at h3
        omega
      refine ⟨n, by omega, hn, fun c' h1 h2 => ?_, fun G => ?_⟩
      · by_cases hc : c' = n
        · exact hc
        · exact absurd h2 (hz c' (by omega))
      · show cN n (fun c => if P c = true then G c else 0) + (if P n = true then G n else 0) = G n
        rw [if_pos hn, cN_congr (G := fun _ => 0) n (fun c hc => if_neg (hz c hc)), cN_zero, Nat.zero_add]
    · rw [if_neg hn] at h
      obtain ⟨c, h1, h2, h3, h4⟩ := cN_uniq (P := P) n (by omega)
      refine ⟨c, by omega, h2, fun c' g1 g2 => ?_, fun G => ?_⟩
      · by_cases hc : c' = n
        · subst hc; exact absurd g2 hn
        · exact h3 c' (by omega) g2
      · show cN n (fun c => if P c = true then G c else 0) + (if P n = true then G n else 0) = G c
        rw [if_neg hn, h4 G, Nat.add_zero]
/-- a bin with one cell not known: that cell -/
theorem cnt_one {w h : Nat} {K : Nat → Bool} {b : Nat → Nat} {k : Nat} (h1 : cnt w h K b k = 1) : cod w h K b k < 256 ∧ uB w h K b k (cod w h K b k) = true ∧ ∀ c, c < 256 → uB w h K b k c = true → c = cod w h K b k := by
  obtain ⟨c, g1, g2, g3, g4⟩ := cN_uniq (P := uB w h K b k) 256 h1
  have e2 : cod w h K b k = c := g4 (fun c => c)
  rw [e2]
  exact ⟨g1, g2, g3⟩
/-- a cell becomes known -/
theorem cnt_up {w h : Nat} {K : Nat → Bool} {b : Nat → Nat} {c0 : Nat} (hc : c0 < 256) (hx : c0 % 16 < w) (hy : c0 / 16 < h) (hK : K c0 = false) (k : Nat) : cnt w h K b k = cnt w h (va_up K c0 true) b k + (if b c0 = k then 1 else 0) := by
  have h1 := cN_one (F := fun c => if uB w h K b k c = true then 1 else 0) (G := fun c => if uB w h (va_up K c0 true) b k c = true then 1 else 0) (c0 := c0) (fun c hne => by
    show (if uB w h K b k c = true then 1 else 0) = (if uB w h (va_up K c0 true) b k c = true then 1 else 0)
    rw [uB_ne hne]) 256 hc
  have e1 : (if uB w h (va_up K c0 true) b k c0 = true then 1 else 0) = 0 := if_neg (fun q => by
    have := (uB_iff.mp q).2.2.2
    rw [va_up_self] at this
    cases this)
  have e2 : (if uB w h K b k c0 = true then 1 else 0) = (if b c0 = k then 1 else 0) := by
    by_cases hb : b c0 = k
    · rw [if_pos hb, if_pos (uB_iff.mpr ⟨hx, hy, hb, hK⟩)]
    · rw [if_neg hb, if_neg (fun q => hb (uB_iff.mp q).2.2.1)]
  have h1 : cnt w h K b k + (if uB w h (va_up K c0 true) b k c0 = true then 1 else 0) = cnt w h (va_up K c0 true) b k + (if uB w h K b k c0 = true then 1 else 0) := h1
  rw [e1, e2] at h1
  omega
theorem cod_up {w h : Nat} {K : Nat → Bool} {b : Nat → Nat} {c0 : Nat} (hc : c0 < 256) (hx : c0 % 16 < w) (hy : c0 / 16 < h) (hK : K c0 = false) (k : Nat) : cod w h K b k = cod w h (va_up K c0 true) b k + (if b c0 = k then c0 else 0) := by
  have h1 := cN_one (F := fun c => if uB w h K b k c = true then c else 0) (G := fun c => if uB w h (va_up K c0 true) b k c = true then c else 0) (c0 := c0) (fun c hne => by
    show (if uB w h K b k c = true then c else 0) = (if uB w h (va_up K c0 true) b k c = true then c else 0)
    rw [uB_ne hne]) 256 hc
  have e1 : (if uB w h (va_up K c0 true) b k c0 = true then c0 else 0) = 0 := if_neg (fun q => by
    have := (uB_iff.mp q).2.2.2
    rw [va_up_self] at this
    cases this)
  have e2 : (if uB w h K b k c0 = true then c0 else 0) = (if b c0 = k then c0 else 0) := by
    by_cases hb : b c0 = k
    · rw [if_pos hb, if_pos (uB_iff.mpr ⟨hx, hy, hb, hK⟩)]
    · rw [if_neg hb, if_neg (fun q => hb (uB_iff.mp q).2.2.1)]
  have h1 : cod w h K b k + (if uB w h (va_up K c0 true) b k c0 = true then c0 else 0) = cod w h (va_up K c0 true) b k + (if uB w h K b k c0 = true then c0 else 0) := h1
  rw [e1, e2] at h1
  omega
theorem rst_up {w h : Nat} {K : Nat → Bool} {b : Nat → Nat} {bv val : Nat → Int32} {c0 : Nat} {v : Int32} (hc : c0 < 256) (hx : c0 % 16 < w) (hy : c0 / 16 < h) (hK : K c0 = false) (k : Nat) : rst w h (va_up K c0 true) b bv (va_up val c0 v) k = if b c0 = k then rst w h K b bv val k - v else rst w h K b bv val k := by
  have h1 := sN_one (F := fun c => if kB w h (va_up K c0 true) b k c = true then va_up val c0 v c else 0) (G := fun c => if kB w h K b k c = true then val c else 0) (c0 := c0) (fun c hne => by
    show (if kB w h (va_up K c0 true) b k c = true then va_up val c0 v c else 0) = (if kB w h K b k c = true then val c else 0)
    rw [kB_ne hne, va_up_ne val v hne]) 256 hc
  have e2 : (if kB w h K b k c0 = true then val c0 else 0) = 0 := if_neg (fun q => by
    have := (kB_iff.mp q).2.2.2
    rw [hK] at this
    cases this)
  have e1 : (if kB w h (va_up K c0 true) b k c0 = true then va_up val c0 v c0 else 0) = (if b c0 = k then v else 0) := by
    rw [va_up_self]
    by_cases hb : b c0 = k
    · rw [if_pos hb, if_pos (kB_iff.mpr ⟨hx, hy, hb, va_up_self _ _ _⟩)]
    · rw [if_neg hb, if_neg (fun q => hb (kB_iff.mp q).2.2.1)]
  have h1 : sN 256 (fun c => if kB w h (va_up K c0 true) b k c = true then va_up val c0 v c else 0) = sN 256 (fun c => if kB w h K b k c = true then val c else 0) + ((if kB w h (va_up K c0 true) b k c0 = true then va_up val c0 v c0 else 0) - (if kB w h K b k c0 = true then val c0 else 0)) := h1
  rw [e1, e2] at h1
  unfold rst
  rw [h1]
  by_cases hb : b c0 = k
  · rw [if_pos hb, if_pos hb]
    grind
  · rw [if_neg hb, if_neg hb]
    grind
/-! the order: the lowest shelf that has a bin with one cell not known, and its lowest such bin -/
def Nxt (w h : Nat) (U : Nat → Bool) (bc : Nat → Nat → Nat) (ct : Nat → Nat) (K : Nat → Bool) (s k : Nat) : Prop :=
  s < 8 ∧ U s = true ∧ k < ct s ∧ cnt w h K (bc s) k = 1 ∧ (∀ k', k' < k → cnt w h K (bc s) k' ≠ 1) ∧ ∀ s', s' < s → U s' = true → ∀ k', k' < ct s' → cnt w h K (bc s') k' ≠ 1
theorem Nxt_uniq {w h : Nat} {U : Nat → Bool} {bc : Nat → Nat → Nat} {ct : Nat → Nat} {K : Nat → Bool} {s k s' k' : Nat} (h1 : Nxt w h U bc ct K s k) (h2 : Nxt w h U bc ct K s' k') : s = s' ∧ k = k' := by
  obtain ⟨a1, a2, a3, a4, a5, a6⟩ := h1
  obtain ⟨b1, b2, b3, b4, b5, b6⟩ := h2
  have hs : s = s' := by
    rcases Nat.lt_trichotomy s s' with h | h | h
    · exact absurd a4 (b6 s h a2 k a3)
    · exact h
    · exact absurd b4 (a6 s' h b2 k' b3)
  subst hs
  refine ⟨rfl, ?_⟩
  rcases Nat.lt_trichotomy k k' with h | h | h
  · exact absurd a4 (b5 k h)
  · exact h
  · exact absurd b4 (a5 k' h)
/-- n cells have become known, one after the other -/
def Rn (w h : Nat) (U : Nat → Bool) (bc : Nat → Nat → Nat) (ct : Nat → Nat) (bv : Nat → Nat → Int32) : Nat → (Nat → Bool) → (Nat → Int32) → Prop
  | 0, K, val => K = (fun _ => false) ∧ val = (fun _ => 0)
  | n + 1, K, val => ∃ K0 val0 s k, Rn w h U bc ct bv n K0 val0 ∧ Nxt w h U bc ct K0 s k ∧ K = va_up K0 (cod w h K0 (bc s) k) true ∧ val = va_up val0 (cod w h K0 (bc s) k) (rst w h K0 (bc s) (bv s) val0 k)
theorem Rn_uniq {w h : Nat} {U : Nat → Bool} {bc : Nat → Nat → Nat} {ct : Nat → Nat} {bv : Nat → Nat → Int32} : ∀ (n : Nat) {K K' : Nat → Bool} {v v' : Nat → Int32}, Rn w h U bc ct bv n K v → Rn w h U bc ct bv n K' v' → K = K' ∧ v = v'
  | 0, _, _, _, _, h1, h2 => ⟨h1.1.trans h2.1.symm, h1.2.trans h2.2.symm⟩
  | n + 1, _, _, _, _, h1, h2 => by
    obtain ⟨K0, v0, s, k, a1, a2, a3, a4⟩ := h1
    obtain ⟨K1, v1, s1, k1, b1, b2, b3, b4⟩ := h2
    obtain ⟨rfl, rfl⟩ := Rn_uniq n a1 b1
    obtain ⟨rfl, rfl⟩ := Nxt_uniq a2 b2
    exact ⟨a3.trans b3.symm, a4.trans b4.symm⟩
theorem Rn_pre {w h : Nat} {U : Nat → Bool} {bc : Nat → Nat → Nat} {ct : Nat → Nat} {bv : Nat → Nat → Int32} {n : Nat} : ∀ (d : Nat) {K : Nat → Bool} {v : Nat → Int32}, Rn w h U bc ct bv (n + (d + 1)) K v → ∃ K0 v0 s k, Rn w h U bc ct bv n K0 v0 ∧ Nxt w h U bc ct K0 s k
  | 0, _, _, h1 => by
    obtain ⟨K0, v0, s, k, a1, a2, -, -⟩ := h1
    exact ⟨K0, v0, s, k, a1, a2⟩
  | d + 1, _, _, h1 => by
    obtain ⟨K0, v0, s, k, a1, -, -, -⟩ := h1
    exact Rn_pre d a1
/-- it stands still there -/
def Dn (w h : Nat) (U : Nat → Bool) (bc : Nat → Nat → Nat) (ct : Nat → Nat) (bv : Nat → Nat → Int32) (n : Nat) (K : Nat → Bool) (v : Nat → Int32) : Prop := Rn w h U bc ct bv n K v ∧ ∀ s k, ¬ Nxt w h U bc ct K s k
theorem Dn_uniq {w h : Nat} {U : Nat → Bool} {bc : Nat → Nat → Nat} {ct : Nat → Nat} {bv : Nat → Nat → Int32} {n n' : Nat} {K K' : Nat → Bool} {v v' : Nat → Int32} (h1 : Dn w h U bc ct bv n K v) (h2 : Dn w h U bc ct bv n' K' v') : n = n' ∧ K = K' ∧ v = v' := by
  have hn : n = n' := by
    rcases Nat.lt_trichotomy n n' with h | h | h
    · obtain ⟨K0, v0, s, k, a1, a2⟩ := Rn_pre (n := n) (n' - n - 1) (K := K') (v := v') (by rw [show n + (n' - n - 1 + 1) = n' by omega]; exact h2.1)
      obtain ⟨rfl, rfl⟩ := Rn_uniq n h1.1 a1
      exact absurd a2 (h1.2 s k)
    · exact h
    · obtain ⟨K0, v0, s, k, a1, a2⟩ := Rn_pre (n := n') (n - n' - 1) (K := K) (v := v) (by rw [show n' + (n - n' - 1 + 1) = n by omega]; exact h1.1)
      obtain ⟨rfl, rfl⟩ := Rn_uniq n' h2.1 a1
      exact absurd a2 (h2.2 s k)
  subst hn
  exact ⟨rfl, Rn_uniq n h1.1 h2.1⟩
/-- the known ones are cells of the picture, and n of them -/
theorem Rn_known {w h : Nat} {U : Nat → Bool} {bc : Nat → Nat → Nat} {ct : Nat → Nat} {bv : Nat → Nat → Int32} : ∀ (n : Nat) {K : Nat → Bool} {v : Nat → Int32}, Rn w h U bc ct bv n K v → (∀ c, K c = true → c < 256 ∧ c % 16 < w ∧ c / 16 < h) ∧ cN 256 (fun c => if K c = true then 1 else 0) = n
  | 0, _, _, h1 => by
    obtain ⟨rfl, -⟩ := h1
    refine ⟨fun c hc => absurd hc (by simp), ?_⟩
    rw [cN_congr (G := fun _ => 0) 256 (fun c _ => by simp), cN_zero]
  | n + 1, _, _, h1 => by
    obtain ⟨K0, v0, s, k, a1, a2, rfl, -⟩ := h1
    obtain ⟨e1, e2⟩ := Rn_known n a1
    obtain ⟨c1, c2, -⟩ := cnt_one a2.2.2.2.1
    obtain ⟨d1, d2, d3, d4⟩ := uB_iff.mp c2
    refine ⟨fun c hc => ?_, ?_⟩
    · by_cases h0 : c = cod w h K0 (bc s) k
      · subst h0; exact ⟨c1, d1, d2⟩
      · rw [va_up_ne _ _ h0] at hc
        exact e1 c hc
    · have h2 := cN_one (F := fun c => if va_up K0 (cod w h K0 (bc s) k) true c = true then 1 else 0) (G := fun c => if K0 c = true then 1 else 0) (c0 := cod w h K0 (bc s) k) (fun c hne => by
        show (if va_up K0 (cod w h K0 (bc s) k) true c = true then 1 else 0) = (if K0 c = true then 1 else 0)
        rw [va_up_ne _ _ hne]) 256 c1
      have e3 : (if va_up K0 (cod w h K0 (bc s) k) true (cod w h K0 (bc s) k) = true then 1 else 0) = 1 := by rw [va_up_self]; rfl
      have e4 : (if K0 (cod w h K0 (bc s) k) = true then 1 else 0) = 0 := by rw [d4]; rfl
      have h2 : cN 256 (fun c => if va_up K0 (cod w h K0 (bc s) k) true c = true then 1 else 0) + (if K0 (cod w h K0 (bc s) k) = true then 1 else 0) = cN 256 (fun c => if K0 c = true then 1 else 0) + (if va_up K0 (cod w h K0 (bc s) k) true (cod w h K0 (bc s) k) = true then 1 else 0) := h2
      rw [e3, e4, e2, Nat.add_zero] at h2
      exact h2
