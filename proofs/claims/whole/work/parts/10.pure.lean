/-! sums over cells -/
def sN : Nat → (Nat → Int32) → Int32
  | 0, _ => 0
  | n + 1, F => sN n F + F n
theorem sN_congr {F G : Nat → Int32} : ∀ n : Nat, (∀ c, c < n → F c = G c) → sN n F = sN n G
  | 0, _ => rfl
  | n + 1, h => by
    show sN n F + F n = sN n G + G n
    rw [sN_congr n (fun c hc => h c (by omega)), h n (by omega)]
theorem i32_add0 (a : Int32) : a + 0 = a := Int32.add_zero a
theorem i32_0add (a : Int32) : 0 + a = a := Int32.zero_add a
theorem sN_more {F : Nat → Int32} {n : Nat} : ∀ m : Nat, (∀ c, n ≤ c → c < n + m → F c = 0) → sN (n + m) F = sN n F
  | 0, _ => rfl
  | m + 1, h => by
    show sN (n + m) F + F (n + m) = sN n F
    rw [sN_more m (fun c h1 h2 => h c h1 (by omega)), h (n + m) (by omega) (by omega), i32_add0]
theorem sN_add (F : Nat → Int32) (n : Nat) : ∀ m : Nat, sN (n + m) F = sN n F + sN m (fun i => F (n + i))
  | 0 => by
    show sN n F = sN n F + 0
    rw [i32_add0]
  | m + 1 => by
    show sN (n + m) F + F (n + m) = sN n F + (sN m (fun i => F (n + i)) + F (n + m))
    rw [sN_add F n m, Int32.add_assoc]
theorem sN_rows (F : Nat → Int32) : ∀ h : Nat, sN (16 * h) F = sN h (fun j => sN 16 (fun i => F (16 * j + i)))
  | 0 => rfl
  | h + 1 => by
    rw [show 16 * (h + 1) = 16 * h + 16 by omega, sN_add, sN_rows F h]
    rfl
/-- one place changed -/
theorem sN_one {F G : Nat → Int32} {c0 : Nat} (hne : ∀ c, c ≠ c0 → F c = G c) : ∀ n : Nat, c0 < n → sN n F = sN n G + (F c0 - G c0)
  | 0, h => absurd h (Nat.not_lt_zero _)
  | n + 1, h => by
    show sN n F + F n = sN n G + G n + (F c0 - G c0)
    by_cases hc : c0 = n
    · subst hc
      rw [sN_congr c0 (fun c h1 => hne c (by omega))]
      grind
    · rw [sN_one hne n (by omega), hne n (fun q => hc q.symm)]
      ac_rfl
/-- whole-number sums -/
def cN : Nat → (Nat → Nat) → Nat
  | 0, _ => 0
  | n + 1, F => cN n F + F n
theorem cN_congr {F G : Nat → Nat} : ∀ n : Nat, (∀ c, c < n → F c = G c) → cN n F = cN n G
  | 0, _ => rfl
  | n + 1, h => by
    show cN n F + F n = cN n G + G n
    rw [cN_congr n (fun c hc => h c (by omega)), h n (by omega)]
theorem cN_zero : ∀ n : Nat, cN n (fun _ => 0) = 0
  | 0 => rfl
  | n + 1 => by
    show cN n (fun _ => 0) + 0 = 0
    rw [cN_zero n]
theorem cN_one {F G : Nat → Nat} {c0 : Nat} (hne : ∀ c, c ≠ c0 → F c = G c) : ∀ n : Nat, c0 < n → cN n F + G c0 = cN n G + F c0
  | 0, h => absurd h (Nat.not_lt_zero _)
  | n + 1, h => by
    show cN n F + F n + G c0 = cN n G + G n + F c0
    by_cases hc : c0 = n
    · subst hc
      rw [cN_congr c0 (fun c h1 => hne c (by omega))]
      omega
    · have := cN_one hne n (by omega)
      have h2 := hne n (fun q => hc q.symm)
      omega
theorem cN_le {F G : Nat → Nat} : ∀ n : Nat, (∀ c, c < n → F c ≤ G c) → cN n F ≤ cN n G
  | 0, _ => Nat.le_refl _
  | n + 1, h => by
    have h1 := cN_le n (fun c hc => h c (by omega))
    have h2 := h n (by omega)
    show cN n F + F n ≤ cN n G + G n
    omega
theorem cN_pos {F : Nat → Nat} : ∀ n : Nat, 0 < cN n F → ∃ c, c < n ∧ 0 < F c
  | 0, h => absurd h (Nat.lt_irrefl _)
  | n + 1, h => by
    have h : 0 < cN n F + F n := h
    by_cases h2 : 0 < F n
    · exact ⟨n, by omega, h2⟩
    · obtain ⟨c, h3, h4⟩ := cN_pos (F := F) n (by omega)
      exact ⟨c, by omega, h4⟩
theorem cN_ge {F : Nat → Nat} {c0 : Nat} : ∀ n : Nat, c0 < n → F c0 ≤ cN n F
  | 0, h => absurd h (Nat.not_lt_zero _)
  | n + 1, h => by
    show F c0 ≤ cN n F + F n
    by_cases hc : c0 = n
    · subst hc; omega
    · have := cN_ge (F := F) (c0 := c0) n (by omega)
      omega
theorem sN_cN (F : Nat → Nat) : ∀ n : Nat, sN n (fun c => nI (F c)) = nI (cN n F)
  | 0 => nI_0.symm
  | n + 1 => by
    show sN n (fun c => nI (F c)) + nI (F n) = nI (cN n F + F n)
    rw [sN_cN F n, nI_add]
/-! bins filled cell by cell, row by row -/
def accX (bn : Nat → Nat → Nat) (cf : Nat → Int32) (y : Nat) : Nat → (Nat → Int32) → Nat → Int32
  | 0, b => b
  | x + 1, b => upd (accX bn cf y x b) (bn x y) (accX bn cf y x b (bn x y) + cf (16 * y + x))
def accY (bn : Nat → Nat → Nat) (cf : Nat → Int32) (w : Nat) : Nat → (Nat → Int32) → Nat → Int32
  | 0, b => b
  | y + 1, b => accX bn cf y w (accY bn cf w y b)
theorem accX_at (bn : Nat → Nat → Nat) (cf : Nat → Int32) (y : Nat) (b : Nat → Int32) (k : Nat) : ∀ x : Nat, accX bn cf y x b k = b k + sN x (fun i => if bn i y = k then cf (16 * y + i) else 0)
  | 0 => (i32_add0 _).symm
  | x + 1 => by
    show upd (accX bn cf y x b) (bn x y) (accX bn cf y x b (bn x y) + cf (16 * y + x)) k = b k + (sN x _ + (if bn x y = k then cf (16 * y + x) else 0))
    by_cases h : bn x y = k
    · subst h
      rw [pk_us, accX_at bn cf y b _ x, if_pos rfl, Int32.add_assoc]
    · rw [pk_un (fun q => h q.symm), accX_at bn cf y b k x, if_neg h, i32_add0]
theorem accY_at (bn : Nat → Nat → Nat) (cf : Nat → Int32) (w : Nat) (b : Nat → Int32) (k : Nat) : ∀ y : Nat, accY bn cf w y b k = b k + sN y (fun j => sN w (fun i => if bn i j = k then cf (16 * j + i) else 0))
  | 0 => (i32_add0 _).symm
  | y + 1 => by
    show accX bn cf y w (accY bn cf w y b) k = b k + (sN y _ + _)
    rw [accX_at, accY_at bn cf w b k y, Int32.add_assoc]
/-- the same as one sum over all cells -/
theorem accY_sum (bn : Nat → Nat → Nat) (cf : Nat → Int32) (w h : Nat) (hw : w ≤ 16) (hh : h ≤ 16) (b : Nat → Int32) (k : Nat) : accY bn cf w h b k = b k + sN 256 (fun c => if c % 16 < w ∧ c / 16 < h ∧ bn (c % 16) (c / 16) = k then cf c else 0) := by
  rw [accY_at]
  congr 1
  have h1 : sN 256 (fun c => if c % 16 < w ∧ c / 16 < h ∧ bn (c % 16) (c / 16) = k then cf c else 0) = sN (16 * h) (fun c => if c % 16 < w ∧ c / 16 < h ∧ bn (c % 16) (c / 16) = k then cf c else 0) := by
    have h0 := sN_more (F := fun c => if c % 16 < w ∧ c / 16 < h ∧ bn (c % 16) (c / 16) = k then cf c else 0) (n := 16 * h) (256 - 16 * h) (fun c h1 h2 => if_neg (fun q => by omega))
    rw [show 16 * h + (256 - 16 * h) = 256 by omega] at h0
    exact h0
  rw [h1, sN_rows]
  refine sN_congr h (fun j hj => ?_)
  have h2 : sN 16 (fun i => if (16 * j + i) % 16 < w ∧ (16 * j + i) / 16 < h ∧ bn ((16 * j + i) % 16) ((16 * j + i) / 16) = k then cf (16 * j + i) else 0) = sN w (fun i => if (16 * j + i) % 16 < w ∧ (16 * j + i) / 16 < h ∧ bn ((16 * j + i) % 16) ((16 * j + i) / 16) = k then cf (16 * j + i) else 0) := by
    have h0 := sN_more (F := fun i => if (16 * j + i) % 16 < w ∧ (16 * j + i) / 16 < h ∧ bn ((16 * j + i) % 16) ((16 * j + i) / 16) = k then cf (16 * j + i) else 0) (n := w) (16 - w) (fun c h1 h2 => if_neg (fun q => by omega))
    rw [show w + (16 - w) = 16 by omega] at h0
    exact h0
  rw [h2]
  refine sN_congr w (fun i hi => ?_)
  have e1 : (16 * j + i) % 16 = i := by omega
  have e2 : (16 * j + i) / 16 = j := by omega
  rw [e1, e2]
  by_cases hb : bn i j = k
  · rw [if_pos hb, if_pos ⟨hi, hj, hb⟩]
  · rw [if_neg hb, if_neg (fun q => hb q.2.2)]
