/-! directions, bins -/
def lzI (P Q : Int) (w h : Nat) : Int := (if P * ((h : Int) - 1) < 0 then P * ((h : Int) - 1) else 0) - Q * ((w : Int) - 1)
def ctI (P Q : Int) (w h : Nat) : Int := (if 0 ≤ P then P else 0 - P) * ((h : Int) - 1) + Q * ((w : Int) - 1) + 1
def bnI (P Q : Int) (w h : Nat) (x y : Int) : Int := P * y - Q * x - lzI P Q w h
def bnN (P Q : Int) (w h : Nat) (x y : Nat) : Nat := (bnI P Q w h x y).toNat
def ctN (P Q : Int) (w h : Nat) : Nat := (ctI P Q w h).toNat
def okD (P Q : Int) : Prop := -16 ≤ P ∧ P ≤ 16 ∧ 0 ≤ Q ∧ Q ≤ 16
theorem bn_range {P Q : Int} {w h x y : Nat} (hd : okD P Q) (hw : w ≤ 16) (hh : h ≤ 16) (hx : x < w) (hy : y < h) : 0 ≤ bnI P Q w h x y ∧ bnI P Q w h x y < ctI P Q w h ∧ ctI P Q w h ≤ 481 := by
  obtain ⟨p1, p2, q1, q2⟩ := hd
  have a1 : 0 ≤ Q * (x : Int) := Int.mul_nonneg q1 (by omega)
  have a2 : Q * (x : Int) ≤ Q * ((w : Int) - 1) := Int.mul_le_mul_of_nonneg_left (by omega) q1
  have a3 : Q * ((w : Int) - 1) ≤ 16 * ((w : Int) - 1) := Int.mul_le_mul_of_nonneg_right q2 (by omega)
  unfold bnI lzI ctI
  by_cases hP : 0 ≤ P
  · have b1 : 0 ≤ P * (y : Int) := Int.mul_nonneg hP (by omega)
    have b2 : P * (y : Int) ≤ P * ((h : Int) - 1) := Int.mul_le_mul_of_nonneg_left (by omega) hP
    have b3 : P * ((h : Int) - 1) ≤ 16 * ((h : Int) - 1) := Int.mul_le_mul_of_nonneg_right p2 (by omega)
    rw [if_pos hP, if_neg (by omega)]
    omega
  · have c0 : 0 ≤ (0 - P) := by omega
    have b1 : 0 ≤ (0 - P) * (y : Int) := Int.mul_nonneg c0 (by omega)
    have b2 : (0 - P) * (y : Int) ≤ (0 - P) * ((h : Int) - 1) := Int.mul_le_mul_of_nonneg_left (by omega) c0
    have b3 : (0 - P) * ((h : Int) - 1) ≤ 16 * ((h : Int) - 1) := Int.mul_le_mul_of_nonneg_right (by omega) (by omega)
    have e1 : (0 - P) * (y : Int) = -(P * (y : Int)) := by rw [Int.zero_sub, Int.neg_mul]
    have e2 : (0 - P) * ((h : Int) - 1) = -(P * ((h : Int) - 1)) := by rw [Int.zero_sub, Int.neg_mul]
    rw [if_neg hP]
    by_cases hz : P * ((h : Int) - 1) < 0
    · rw [if_pos hz]; omega
    · rw [if_neg hz]; omega
theorem bn_nat {P Q : Int} {w h x y : Nat} (hd : okD P Q) (hw : w ≤ 16) (hh : h ≤ 16) (hx : x < w) (hy : y < h) : P * (y : Int) - Q * (x : Int) - lzI P Q w h = (bnN P Q w h x y : Int) ∧ bnN P Q w h x y < ctN P Q w h ∧ ctN P Q w h ≤ 481 ∧ (ctN P Q w h : Int) = ctI P Q w h := by
  obtain ⟨h1, h2, h3⟩ := bn_range hd hw hh hx hy
  unfold bnN ctN
  have e : P * (y : Int) - Q * (x : Int) - lzI P Q w h = bnI P Q w h x y := rfl
  omega
theorem ct_nat {P Q : Int} {w h : Nat} (hd : okD P Q) (hw : w ≤ 16) (hh : h ≤ 16) (hx : 1 ≤ w) (hy : 1 ≤ h) : ctN P Q w h ≤ 481 ∧ (ctN P Q w h : Int) = ctI P Q w h ∧ 1 ≤ ctN P Q w h := by
  obtain ⟨-, h2, h3, h4⟩ := bn_nat (x := 0) (y := 0) hd hw hh (by omega) (by omega)
  omega
/-- the reference says it otherwise -/
theorem lz_ref {P Q : Int} {w h : Nat} (hh : 1 ≤ h) : (if P < 0 then P * ((h : Int) - 1) else 0) - Q * ((w : Int) - 1) = lzI P Q w h := by
  unfold lzI
  by_cases hP : P < 0
  · rw [if_pos hP]
    by_cases hz : P * ((h : Int) - 1) < 0
    · rw [if_pos hz]
    · rw [if_neg hz]
      have h1 : 0 ≤ (0 - P) * ((h : Int) - 1) := Int.mul_nonneg (by omega) (by omega)
      have e2 : (0 - P) * ((h : Int) - 1) = -(P * ((h : Int) - 1)) := by rw [Int.zero_sub, Int.neg_mul]
      omega
  · rw [if_neg hP]
    have h1 : 0 ≤ P * ((h : Int) - 1) := Int.mul_nonneg (by omega) (by omega)
    rw [if_neg (by omega)]
