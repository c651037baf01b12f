/-! ghosts on the whole plane -/
def Gz (U : Nat → Bool) (P Q : Nat → Int) : Nat → Int → Int → Int32
  | 0 => fun x y => if x = 0 ∧ y = 0 then 1 else 0
  | j + 1 => fun x y => if U j = true then Gz U P Q j x y - Gz U P Q j (x - P j) (y - Q j) else Gz U P Q j x y
def posI (z : Int) : Int := if 0 < z then z else 0
def uS (U : Nat → Bool) (F : Nat → Int) (n : Nat) : Int := sI n (fun j => if U j = true then F j else 0)
theorem uS_t {U : Nat → Bool} {F : Nat → Int} {n : Nat} (h : U n = true) : uS U F (n + 1) = uS U F n + F n := by
  show sI n _ + (if U n = true then F n else 0) = _
  rw [if_pos h]; rfl
theorem uS_f {U : Nat → Bool} {F : Nat → Int} {n : Nat} (h : ¬ U n = true) : uS U F (n + 1) = uS U F n := by
  show sI n _ + (if U n = true then F n else 0) = _
  rw [if_neg h, Int.add_zero]; rfl
theorem uS_mono {U : Nat → Bool} {F : Nat → Int} {n m : Nat} (hF : ∀ j, j < m → U j = true → 0 ≤ F j) (h : n ≤ m) : uS U F n ≤ uS U F m := by
  obtain ⟨d, rfl⟩ : ∃ d, m = n + d := ⟨m - n, by omega⟩
  clear h
  induction d with
  | zero => exact Int.le_refl _
  | succ d ih =>
    have h1 := ih (fun j hj => hF j (by omega))
    rw [show n + (d + 1) = n + d + 1 by omega]
    by_cases hU : U (n + d) = true
    · rw [uS_t hU]; have := hF (n + d) (by omega) hU; omega
    · rw [uS_f hU]; exact h1
theorem Gz_sup {U : Nat → Bool} {P Q : Nat → Int} : ∀ n : Nat, (∀ j, j < n → U j = true → 0 ≤ Q j) → ∀ x y, Gz U P Q n x y ≠ 0 → -uS U (fun j => negI (P j)) n ≤ x ∧ x ≤ uS U (fun j => posI (P j)) n ∧ 0 ≤ y ∧ y ≤ uS U Q n
  | 0, _ => fun x y h => by
    have h1 : x = 0 ∧ y = 0 := Classical.byContradiction (fun q => h (if_neg q))
    have e1 : uS U (fun j => negI (P j)) 0 = 0 := rfl
    have e2 : uS U (fun j => posI (P j)) 0 = 0 := rfl
    have e3 : uS U Q 0 = 0 := rfl
    omega
  | n + 1, hq => fun x y h => by
    have ih := Gz_sup (P := P) n (fun j hj => hq j (by omega))
    by_cases hU : U n = true
    · have h : (if U n = true then Gz U P Q n x y - Gz U P Q n (x - P n) (y - Q n) else Gz U P Q n x y) ≠ 0 := h
      rw [if_pos hU] at h
      rw [uS_t hU, uS_t hU, uS_t hU]
      have hqn := hq n (by omega) hU
      have e1 : 0 ≤ negI (P n) ∧ -negI (P n) ≤ P n := by unfold negI; split <;> omega
      have e2 : 0 ≤ posI (P n) ∧ P n ≤ posI (P n) := by unfold posI; split <;> omega
      by_cases h1 : Gz U P Q n x y = 0
      · have h2 : Gz U P Q n (x - P n) (y - Q n) ≠ 0 := fun z => h (by rw [h1, z]; rfl)
        have := ih _ _ h2
        show -(uS U (fun j => negI (P j)) n + negI (P n)) ≤ x ∧ x ≤ uS U (fun j => posI (P j)) n + posI (P n) ∧ _
        omega
      · have := ih _ _ h1
        show -(uS U (fun j => negI (P j)) n + negI (P n)) ≤ x ∧ x ≤ uS U (fun j => posI (P j)) n + posI (P n) ∧ _
        omega
    · have h : (if U n = true then Gz U P Q n x y - Gz U P Q n (x - P n) (y - Q n) else Gz U P Q n x y) ≠ 0 := h
      rw [if_neg hU] at h
      rw [uS_f hU, uS_f hU, uS_f hU]
      exact ih x y h
theorem Gz_out {U : Nat → Bool} {P Q : Nat → Int} {n : Nat} (hq : ∀ j, j < n → U j = true → 0 ≤ Q j) {x y : Int} (h : ¬ (-uS U (fun j => negI (P j)) n ≤ x ∧ x ≤ uS U (fun j => posI (P j)) n ∧ 0 ≤ y ∧ y ≤ uS U Q n)) : Gz U P Q n x y = 0 := Classical.byContradiction (fun z => h (Gz_sup n hq x y z))
theorem i32_s0 (a : Int32) : a - 0 = a := Int32.sub_zero a
theorem i32_0s (a : Int32) : (0 : Int32) - a = -a := Int32.zero_sub a
theorem pm_ne {a : Int32} (h : a = 1 ∨ a = -1) : a ≠ 0 := by rcases h with rfl | rfl <;> decide
/-- the lowest column holds a 1 or a -1 -/
theorem Gz_low {U : Nat → Bool} {P Q : Nat → Int} : ∀ n : Nat, (∀ j, j < n → U j = true → 0 ≤ Q j ∧ (Q j = 0 → 0 < P j)) → ∃ y, (Gz U P Q n (-uS U (fun j => negI (P j)) n) y = 1 ∨ Gz U P Q n (-uS U (fun j => negI (P j)) n) y = -1) ∧ ∀ y', y' < y → Gz U P Q n (-uS U (fun j => negI (P j)) n) y' = 0
  | 0, _ => ⟨0, Or.inl (if_pos ⟨rfl, rfl⟩), fun y' hy => if_neg (fun z => by omega)⟩
  | n + 1, hq => by
    obtain ⟨y, h1, h2⟩ := Gz_low (P := P) n (fun j hj => hq j (by omega))
    have hq0 : ∀ j, j < n → U j = true → 0 ≤ Q j := fun j hj hu => (hq j (by omega) hu).1
    by_cases hU : U n = true
    · obtain ⟨q1, q2⟩ := hq n (by omega) hU
      have st : ∀ x y, Gz U P Q (n + 1) x y = Gz U P Q n x y - Gz U P Q n (x - P n) (y - Q n) := fun x y => if_pos hU
      rw [uS_t hU]
      show ∃ y, (Gz U P Q (n + 1) (-(uS U (fun j => negI (P j)) n + negI (P n))) y = 1 ∨ Gz U P Q (n + 1) (-(uS U (fun j => negI (P j)) n + negI (P n))) y = -1) ∧ ∀ y', y' < y → Gz U P Q (n + 1) (-(uS U (fun j => negI (P j)) n + negI (P n))) y' = 0
      by_cases hp : P n < 0
      · have en : negI (P n) = -P n := if_pos (by omega)
        have k1 : ∀ y, Gz U P Q (n + 1) (-(uS U (fun j => negI (P j)) n + negI (P n))) y = -Gz U P Q n (-uS U (fun j => negI (P j)) n) (y - Q n) := fun y => by
          rw [st, Gz_out (x := -(uS U (fun j => negI (P j)) n + negI (P n))) hq0 (fun z => by omega), i32_0s, show -(uS U (fun j => negI (P j)) n + negI (P n)) - P n = -uS U (fun j => negI (P j)) n by omega]
        refine ⟨y + Q n, ?_, fun y' hy => ?_⟩
        · rw [k1, show y + Q n - Q n = y by omega]
          rcases h1 with h1 | h1
          · rw [h1]; exact Or.inr rfl
          · rw [h1]; exact Or.inl rfl
        · rw [k1, h2 _ (by omega)]; rfl
      · have en : negI (P n) = 0 := if_neg (by omega)
        rw [en, Int.add_zero]
        by_cases hp0 : P n = 0
        · have k1 : ∀ y', y' ≤ y → Gz U P Q (n + 1) (-uS U (fun j => negI (P j)) n) y' = Gz U P Q n (-uS U (fun j => negI (P j)) n) y' := fun y' hy => by
            rw [st, hp0, Int.sub_zero, h2 (y' - Q n) (by omega), i32_s0]
          exact ⟨y, by rw [k1 y (Int.le_refl _)]; exact h1, fun y' hy => by rw [k1 y' (by omega)]; exact h2 y' hy⟩
        · have k1 : ∀ y', Gz U P Q (n + 1) (-uS U (fun j => negI (P j)) n) y' = Gz U P Q n (-uS U (fun j => negI (P j)) n) y' := fun y' => by
            rw [st, Gz_out (x := -uS U (fun j => negI (P j)) n - P n) hq0 (fun z => by omega), i32_s0]
          exact ⟨y, by rw [k1]; exact h1, fun y' hy => by rw [k1]; exact h2 y' hy⟩
    · have st : ∀ x y, Gz U P Q (n + 1) x y = Gz U P Q n x y := fun x y => if_neg hU
      rw [uS_f hU]
      exact ⟨y, by rw [st]; exact h1, fun y' hy => by rw [st]; exact h2 y' hy⟩
/-- one move, cell by cell: what stands in the row of 512 -/
def mvD (A : Int → Int → Int32) (p q : Int) (D : Nat → Int32) (x y : Nat) : Prop := ∀ x' y' : Nat, x' < 32 → y' < 16 → D (32 * y' + x') = A x' y' - (if (y' : Int) - q < y ∨ ((y' : Int) - q = y ∧ (x' : Int) - p < x) then A (x' - p) (y' - q) else 0)
theorem mvD_0 {A : Int → Int → Int32} {p q : Int} {D : Nat → Int32} (hD : ∀ x' y' : Nat, x' < 32 → y' < 16 → D (32 * y' + x') = A x' y') (hA : ∀ x y, A x y ≠ 0 → 0 ≤ x ∧ x < 32 ∧ 0 ≤ y ∧ y < 16) : mvD A p q D 0 0 := fun x' y' hx hy => by
  rw [hD x' y' hx hy]
  split
  · rename_i h
    rw [show A (x' - p) (y' - q) = 0 from Classical.byContradiction (fun z => by have := hA _ _ z; omega), i32_s0]
  · rw [i32_s0]
theorem mvD_row {A : Int → Int → Int32} {p q : Int} {D : Nat → Int32} {y : Nat} (h : mvD A p q D 32 y) (hA : ∀ x y, A x y ≠ 0 → 0 ≤ x ∧ x < 32 ∧ 0 ≤ y ∧ y < 16) : mvD A p q D 0 (y + 1) := fun x' y' hx hy => by
  rw [h x' y' hx hy]
  by_cases h1 : (y' : Int) - q < y ∨ ((y' : Int) - q = y ∧ (x' : Int) - p < (32 : Nat))
  · rw [if_pos h1]
    by_cases h2 : (y' : Int) - q < ((y + 1 : Nat) : Int) ∨ ((y' : Int) - q = ((y + 1 : Nat) : Int) ∧ (x' : Int) - p < (0 : Nat))
    · rw [if_pos h2]
    · exfalso; omega
  · rw [if_neg h1]
    by_cases h2 : (y' : Int) - q < ((y + 1 : Nat) : Int) ∨ ((y' : Int) - q = ((y + 1 : Nat) : Int) ∧ (x' : Int) - p < (0 : Nat))
    · rw [if_pos h2, show A (x' - p) (y' - q) = 0 from Classical.byContradiction (fun z => by have := hA _ _ z; omega)]
    · rw [if_neg h2]
theorem mvD_skip {A : Int → Int → Int32} {p q : Int} {D : Nat → Int32} {x y : Nat} (h : mvD A p q D x y) (hz : A x y = 0) : mvD A p q D (x + 1) y := fun x' y' hx hy => by
  rw [h x' y' hx hy]
  by_cases h1 : (y' : Int) - q < y ∨ ((y' : Int) - q = y ∧ (x' : Int) - p < (x : Nat))
  · rw [if_pos h1, if_pos (by omega)]
  · rw [if_neg h1]
    by_cases h2 : (y' : Int) - q < y ∨ ((y' : Int) - q = y ∧ (x' : Int) - p < ((x + 1 : Nat) : Int))
    · rw [if_pos h2, show (x' : Int) - p = x by omega, show (y' : Int) - q = y by omega, hz]
    · rw [if_neg h2]
theorem mvD_step {A : Int → Int → Int32} {p q : Int} {D : Nat → Int32} {x y c : Nat} (h : mvD A p q D x y) (h1 : 0 ≤ (x : Int) + p ∧ (x : Int) + p < 32) (h2 : 0 ≤ (y : Int) + q ∧ (y : Int) + q < 16) (hc : (c : Int) = 32 * ((y : Int) + q) + (x : Int) + p) {v : Int32} (hv : v = A x y) : mvD A p q (upd D c (D c - v)) (x + 1) y := fun x' y' hx hy => by
  by_cases e : (x' : Int) = x + p ∧ (y' : Int) = y + q
  · have ec : 32 * y' + x' = c := by omega
    have h3 := h x' y' hx hy
    rw [if_neg (by omega), i32_s0, ec] at h3
    rw [ec, pk_us, h3, if_pos (by omega), show (x' : Int) - p = x by omega, show (y' : Int) - q = y by omega, hv]
  · rw [pk_un (by omega), h x' y' hx hy]
    by_cases h3 : (y' : Int) - q < y ∨ ((y' : Int) - q = y ∧ (x' : Int) - p < (x : Nat))
    · rw [if_pos h3, if_pos (by omega)]
    · rw [if_neg h3, if_neg (by omega)]
