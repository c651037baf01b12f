/-! the object itself; masks; sums -/
abbrev xE (ad : Nat → Nat) (w h : Nat) (hk hr : Bool) (sp wb : Int) : va_E := .inr (0, [.int (iI (w : Int)), .int (iI (h : Int)), .ref (ad 1), .ref (ad 2), .int (bI hk), .ref (ad 3), .ref (ad 4), .int (bI hr), .ref (ad 5), .int (iI sp), .int (iI wb), .ref (ad 6), .ref (ad 7), .ref (ad 8)])
abbrev shs (ad : Nat → Nat) (b : Nat) : Nat → Option Nat := fun s => some (ad (b + 8 * s))
def mkM (f : Nat → Bool) : Nat → Nat
  | 0 => 0
  | n + 1 => mkM f n + (if f n = true then 2 ^ n else 0)
theorem mkM_lt (f : Nat → Bool) : ∀ n : Nat, mkM f n < 2 ^ n
  | 0 => by show 0 < 1; decide
  | n + 1 => by
    show mkM f n + (if f n = true then 2 ^ n else 0) < 2 ^ (n + 1)
    have h1 := mkM_lt f n
    have h2 : 2 ^ (n + 1) = 2 ^ n + 2 ^ n := by rw [Nat.pow_succ]; omega
    by_cases h : f n = true
    · rw [if_pos h]; omega
    · rw [if_neg h]; omega
theorem mkM_t {f : Nat → Bool} {n : Nat} (h : f n = true) : mkM f (n + 1) = mkM f n + 2 ^ n := by
  show mkM f n + (if f n = true then 2 ^ n else 0) = mkM f n + 2 ^ n
  rw [if_pos h]
theorem mkM_f {f : Nat → Bool} {n : Nat} (h : f n = false) : mkM f (n + 1) = mkM f n := by
  show mkM f n + (if f n = true then 2 ^ n else 0) = mkM f n
  rw [if_neg (by rw [h]; decide), Nat.add_zero]
theorem mkM_bits : ∀ b0 b1 b2 b3 b4 b5 b6 b7 : Bool, ∀ s : Nat, s < 8 → Nat.testBit (((((((((0 + (if b0 = true then 2 ^ 0 else 0)) + (if b1 = true then 2 ^ 1 else 0)) + (if b2 = true then 2 ^ 2 else 0)) + (if b3 = true then 2 ^ 3 else 0)) + (if b4 = true then 2 ^ 4 else 0)) + (if b5 = true then 2 ^ 5 else 0)) + (if b6 = true then 2 ^ 6 else 0)) + (if b7 = true then 2 ^ 7 else 0))) s = [b0, b1, b2, b3, b4, b5, b6, b7].getD s false := by decide +kernel
theorem mkM_bit (f : Nat → Bool) (s : Nat) (hs : s < 8) : Nat.testBit (mkM f 8) s = f s := by
  have h := mkM_bits (f 0) (f 1) (f 2) (f 3) (f 4) (f 5) (f 6) (f 7) s hs
  refine Eq.trans h ?_
  rcases (show s = 0 ∨ s = 1 ∨ s = 2 ∨ s = 3 ∨ s = 4 ∨ s = 5 ∨ s = 6 ∨ s = 7 by omega) with rfl | rfl | rfl | rfl | rfl | rfl | rfl | rfl <;> rfl
theorem mkM_congr {f f' : Nat → Bool} : ∀ n : Nat, (∀ j, j < n → f j = f' j) → mkM f n = mkM f' n
  | 0, _ => rfl
  | n + 1, h => by
    show mkM f n + (if f n = true then 2 ^ n else 0) = mkM f' n + (if f' n = true then 2 ^ n else 0)
    rw [mkM_congr n (fun j hj => h j (by omega)), h n (by omega)]
theorem or_tab : ∀ A : Nat, A < 128 → ∀ s : Nat, s < 8 → A < 2 ^ s → (iI (A : Int) ||| (iI 1 <<< (iI (s : Int) &&& 31))) = iI ((A + 2 ^ s : Nat) : Int) := by decide +kernel
theorem pow_8 {A s : Nat} (hs : s < 8) (h : A < 2 ^ s) : A < 128 := by
  have h1 : 2 ^ s ≤ 2 ^ 7 := Nat.pow_le_pow_right (by omega) (by omega)
  omega
/-- a sum of whole numbers -/
def sI : Nat → (Nat → Int) → Int
  | 0, _ => 0
  | n + 1, F => sI n F + F n
theorem sI_b {F : Nat → Int} : ∀ n : Nat, (∀ j, j < n → 0 ≤ F j ∧ F j ≤ 16) → 0 ≤ sI n F ∧ sI n F ≤ 16 * (n : Int)
  | 0, _ => ⟨Int.le_refl _, Int.le_refl _⟩
  | n + 1, h => by
    have h1 := sI_b (F := F) n (fun j hj => h j (by omega))
    have h2 := h n (by omega)
    show 0 ≤ sI n F + F n ∧ sI n F + F n ≤ 16 * ((n + 1 : Nat) : Int)
    omega
def aI (z : Int) : Int := if 0 ≤ z then z else 0 - z
/-- the directions' bounds that hold of every shelf -/
def bdT (T : Nat → ShT) : Prop := ∀ j, j < 8 → -16 ≤ (T j).2.2.1 ∧ (T j).2.2.1 ≤ 16 ∧ 0 ≤ (T j).2.2.2.1 ∧ (T j).2.2.2.1 ≤ 16
