/-! a worksheet holds what a rebuilding lacks of its shelf -/
def wsOK (w h ct : Nat) (K : Nat → Bool) (val : Nat → Int32) (b : Nat → Nat) (bv : Nat → Int32) (lo : Nat) (un uc re : Nat → Int32) : Prop := lo ≤ ct ∧ (∀ k, k < lo → cnt w h K b k ≠ 1) ∧ (∀ k, k < 481 → un k = iI ((cnt w h K b k : Nat) : Int)) ∧ (∀ k, k < 481 → uc k = iI ((cod w h K b k : Nat) : Int)) ∧ ∀ k, k < ct → re k = rst w h K b bv val k
theorem sN_zero : ∀ n : Nat, sN n (fun _ => 0) = 0
  | 0 => rfl
  | n + 1 => by
    show sN n (fun _ => 0) + 0 = 0
    rw [sN_zero n]
    rfl
theorem cN_one1 : ∀ n : Nat, cN n (fun _ => 1) = n
  | 0 => rfl
  | n + 1 => by
    show cN n (fun _ => 1) + 1 = n + 1
    rw [cN_one1 n]
theorem cnt_le {w h : Nat} {K : Nat → Bool} {b : Nat → Nat} {k : Nat} : cnt w h K b k ≤ 256 := by
  have h1 := cN_le (F := fun c => if uB w h K b k c = true then 1 else 0) (G := fun _ => 1) 256 (fun c _ => by
    show (if uB w h K b k c = true then 1 else 0) ≤ 1
    split <;> omega)
  rw [cN_one1] at h1
  exact h1
theorem un_1 {w h : Nat} {K : Nat → Bool} {b : Nat → Nat} {k : Nat} {x : Int32} (hx : x = iI ((cnt w h K b k : Nat) : Int)) : x = iI 1 ↔ cnt w h K b k = 1 := by
  have h1 := cnt_le (w := w) (h := h) (K := K) (b := b) (k := k)
  rw [hx, iI_eq (by omega) (by omega) (by omega) (by omega)]
  omega
theorem ws_0 {w h ct : Nat} (hw : w ≤ 16) (hh : h ≤ 16) (bn : Nat → Nat → Nat) {bv re : Nat → Int32} (hre : ∀ k, k < ct → re k = bv k) : wsOK w h ct (fun _ => false) (fun _ => 0) (fun c => bn (c % 16) (c / 16)) bv 0 (accY bn (fun _ => iI 1) w h (fun _ => iI 0)) (accY bn (fun c => iI (c : Int)) w h (fun _ => iI 0)) re := by
  refine ⟨Nat.zero_le _, fun k hk => absurd hk (Nat.not_lt_zero _), fun k _ => ?_, fun k _ => ?_, fun k hk => ?_⟩
  · rw [accY_sum bn _ w h hw hh, iI_0, i32_0add, iI_nat]
    unfold cnt
    rw [← sN_cN]
    refine sN_congr 256 (fun c _ => ?_)
    by_cases hc : c % 16 < w ∧ c / 16 < h ∧ bn (c % 16) (c / 16) = k
    · rw [if_pos hc, if_pos (uB_iff.mpr ⟨hc.1, hc.2.1, hc.2.2, rfl⟩)]
      rfl
    · rw [if_neg hc, if_neg (fun q => hc ⟨(uB_iff.mp q).1, (uB_iff.mp q).2.1, (uB_iff.mp q).2.2.1⟩)]
      rfl
  · rw [accY_sum bn _ w h hw hh, iI_0, i32_0add, iI_nat]
    unfold cod
    rw [← sN_cN]
    refine sN_congr 256 (fun c _ => ?_)
    by_cases hc : c % 16 < w ∧ c / 16 < h ∧ bn (c % 16) (c / 16) = k
    · rw [if_pos hc, if_pos (uB_iff.mpr ⟨hc.1, hc.2.1, hc.2.2, rfl⟩), iI_nat]
    · rw [if_neg hc, if_neg (fun q => hc ⟨(uB_iff.mp q).1, (uB_iff.mp q).2.1, (uB_iff.mp q).2.2.1⟩)]
      rfl
  · rw [hre k hk]
    unfold rst
    rw [sN_congr (G := fun _ => 0) 256 (fun c _ => if_neg (fun q => absurd (kB_iff.mp q).2.2.2 (by decide))), sN_zero]
    exact (Int32.sub_zero _).symm
theorem ws_take {w h ct lo lo1 c0 : Nat} {K : Nat → Bool} {val : Nat → Int32} {b : Nat → Nat} {bv un uc re : Nat → Int32} {v : Int32} (H : wsOK w h ct K val b bv lo un uc re) (hct : ct ≤ 481) (hc : c0 < 256) (hx : c0 % 16 < w) (hy : c0 / 16 < h) (hK : K c0 = false) (hb : b c0 < 481)
    (hl : (un (b c0) - iI 1 = iI 1 ∧ b c0 < lo ∧ lo1 = b c0) ∨ (¬ (un (b c0) - iI 1 = iI 1 ∧ b c0 < lo) ∧ lo1 = lo)) : wsOK w h ct (va_up K c0 true) (va_up val c0 v) b bv lo1 (upd un (b c0) (un (b c0) - iI 1)) (upd uc (b c0) (uc (b c0) - iI (c0 : Int))) (upd re (b c0) (re (b c0) - v)) := by
  obtain ⟨h1, h2, h3, h4, h5⟩ := H
  have e1 := cnt_up (b := b) hc hx hy hK
  have e2 := cod_up (b := b) hc hx hy hK
  have eb : un (b c0) - iI 1 = iI ((cnt w h (va_up K c0 true) b (b c0) : Nat) : Int) := by
    have q := e1 (b c0)
    rw [if_pos rfl] at q
    rw [h3 _ hb, iI_sub]
    congr 1
    omega
  have hne : ∀ k, k ≠ b c0 → cnt w h (va_up K c0 true) b k = cnt w h K b k := fun k hk => by
    have q := e1 k
    rw [if_neg (fun z => hk z.symm)] at q
    omega
  refine ⟨?_, fun k hk => ?_, fun k hk => ?_, fun k hk => ?_, fun k hk => ?_⟩
  · omega
  · by_cases hkb : k = b c0
    · subst hkb
      rcases hl with ⟨-, -, q3⟩ | ⟨q1, q2⟩
      · omega
      · exact fun z => q1 ⟨(un_1 eb).mpr z, by omega⟩
    · rw [hne k hkb]
      exact h2 k (by omega)
  · by_cases hkb : k = b c0
    · subst hkb
      rw [pk_us]
      exact eb
    · rw [pk_un hkb, hne k hkb]
      exact h3 k hk
  · by_cases hkb : k = b c0
    · subst hkb
      have q := e2 (b c0)
      rw [if_pos rfl] at q
      rw [pk_us, h4 _ hb, iI_sub]
      congr 1
      omega
    · have q := e2 k
      rw [if_neg (fun z => hkb z.symm)] at q
      rw [pk_un hkb, h4 k hk, q, Nat.add_zero]
  · rw [rst_up hc hx hy hK]
    by_cases hkb : k = b c0
    · subst hkb
      rw [pk_us, if_pos rfl, h5 _ hk]
    · rw [pk_un hkb, if_neg (fun z => hkb z.symm), h5 k hk]
theorem ws_find {w h ct lo lo1 : Nat} {K : Nat → Bool} {val : Nat → Int32} {b : Nat → Nat} {bv un uc re : Nat → Int32} (H : wsOK w h ct K val b bv lo un uc re) (hct : ct ≤ 481) (hl : lo1 ≤ ct) (hne : ∀ k, lo ≤ k → k < lo1 → un k ≠ iI 1) : wsOK w h ct K val b bv lo1 un uc re := by
  obtain ⟨h1, h2, h3, h4, h5⟩ := H
  refine ⟨hl, fun k hk z => ?_, h3, h4, h5⟩
  by_cases hkl : k < lo
  · exact h2 k hkl z
  · exact hne k (by omega) hk ((un_1 (h3 k (by omega))).mpr z)
theorem inP_count : ∀ w : Nat, w < 17 → ∀ h : Nat, h < 17 → cN 256 (fun c => if c % 16 < w ∧ c / 16 < h then 1 else 0) = w * h := by decide +kernel
theorem cN_eqp {F G : Nat → Nat} : ∀ n : Nat, (∀ c, c < n → F c ≤ G c) → cN n F = cN n G → ∀ c, c < n → F c = G c
  | 0, _, _ => fun c hc => absurd hc (Nat.not_lt_zero _)
  | n + 1, h, he => fun c hc => by
    have h1 := cN_le n (fun c hc => h c (by omega))
    have h2 := h n (by omega)
    have he : cN n F + F n = cN n G + G n := he
    by_cases hcn : c = n
    · subst hcn; omega
    · exact cN_eqp n (fun c hc => h c (by omega)) (by omega) c (by omega)
/-- as many steps as pixels: all are known -/
theorem Rn_all {w h n : Nat} {U : Nat → Bool} {bc : Nat → Nat → Nat} {ct : Nat → Nat} {bv : Nat → Nat → Int32} {K : Nat → Bool} {val : Nat → Int32} (H : Rn w h U bc ct bv n K val) (hw : w ≤ 16) (hh : h ≤ 16) (hn : n = w * h) : ∀ c, c < 256 → c % 16 < w → c / 16 < h → K c = true := fun c hc hx hy => by
  obtain ⟨h1, h2⟩ := Rn_known n H
  have h3 := inP_count w (by omega) h (by omega)
  have h4 := cN_eqp (F := fun c => if K c = true then 1 else 0) (G := fun c => if c % 16 < w ∧ c / 16 < h then 1 else 0) 256 (fun c _ => by
    show (if K c = true then 1 else 0) ≤ (if c % 16 < w ∧ c / 16 < h then 1 else 0)
    by_cases hk : K c = true
    · rw [if_pos hk, if_pos (h1 c hk).2]
      exact Nat.le_refl _
    · rw [if_neg hk]
      exact Nat.zero_le _) (by rw [h2, h3, hn]) c hc
  have h4 : (if K c = true then 1 else 0) = (if c % 16 < w ∧ c / 16 < h then 1 else 0) := h4
  rw [if_pos (show c % 16 < w ∧ c / 16 < h from ⟨hx, hy⟩)] at h4
  by_cases hk : K c = true
  · exact hk
  · rw [if_neg hk] at h4
    cases h4
theorem Rn_le {w h n : Nat} {U : Nat → Bool} {bc : Nat → Nat → Nat} {ct : Nat → Nat} {bv : Nat → Nat → Int32} {K : Nat → Bool} {val : Nat → Int32} (H : Rn w h U bc ct bv n K val) (hw : w ≤ 16) (hh : h ≤ 16) : n ≤ w * h := by
  obtain ⟨h1, h2⟩ := Rn_known n H
  have h3 := inP_count w (by omega) h (by omega)
  rw [← h2, ← h3]
  refine cN_le 256 (fun c _ => ?_)
  show (if K c = true then 1 else 0) ≤ (if c % 16 < w ∧ c / 16 < h then 1 else 0)
  by_cases hk : K c = true
  · rw [if_pos hk, if_pos (h1 c hk).2]
    exact Nat.le_refl _
  · rw [if_neg hk]
    exact Nat.zero_le _
theorem Dn_all {w h n : Nat} {U : Nat → Bool} {bc : Nat → Nat → Nat} {ct : Nat → Nat} {bv : Nat → Nat → Int32} {K : Nat → Bool} {val : Nat → Int32} (H : Rn w h U bc ct bv n K val) (hw : w ≤ 16) (hh : h ≤ 16) (hn : n = w * h) : Dn w h U bc ct bv n K val := by
  refine ⟨H, fun s k hq => ?_⟩
  obtain ⟨c1, c2, -⟩ := cnt_one hq.2.2.2.1
  obtain ⟨d1, d2, d3, d4⟩ := uB_iff.mp c2
  rw [Rn_all H hw hh hn _ c1 d1 d2] at d4
  cases d4
theorem cN_mono {F : Nat → Nat} {n m : Nat} (h : n ≤ m) : cN n F ≤ cN m F := by
  obtain ⟨d, rfl⟩ : ∃ d, m = n + d := ⟨m - n, by omega⟩
  clear h
  induction d with
  | zero => exact Nat.le_refl _
  | succ d ih =>
    show cN n F ≤ cN (n + d) F + F (n + d)
    omega
theorem xE_ad {ad ad1 : Nat → Nat} {w h : Int} {hk hr : Bool} {sp wb : Int} (h9 : ∀ i, i < 9 → ad1 i = ad i) : xE ad w h hk hr sp wb = xE ad1 w h hk hr sp wb := by
  unfold xE
  rw [h9 1 (by omega), h9 2 (by omega), h9 3 (by omega), h9 4 (by omega), h9 5 (by omega), h9 6 (by omega), h9 7 (by omega), h9 8 (by omega)]
theorem shs_ad {ad ad1 : Nat → Nat} {b : Nat} (h : ∀ s, ad1 (b + 8 * s) = ad (b + 8 * s)) : shs ad b = shs ad1 b := by
  funext s
  show some (ad (b + 8 * s)) = some (ad1 (b + 8 * s))
  rw [h s]
